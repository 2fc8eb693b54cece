abbrev RSt : Type := (Nat → Int32) × (Nat → Int32) × (Nat → Int32)
def cRo (c : Nat → Int32) (s : RSt) : Nat → RSt
  | 0 => s
  | w + 1 => if pot c w = true then cRo c s w else few (cRo c s w).1 (cRo c s w).2.1 (cRo c s w).2.2 (ix (c w)) (decide (w % 4 < 2))
theorem cRo_0 {c : Nat → Int32} {s : RSt} : cRo c s 0 = s := rfl
theorem cRo_p {c : Nat → Int32} {s : RSt} {w : Nat} (h : pot c w = true) : cRo c s (w + 1) = cRo c s w := by simp only [cRo, h, if_true]
theorem cRo_n {c : Nat → Int32} {s : RSt} {w : Nat} (h : pot c w = false) : cRo c s (w + 1) = few (cRo c s w).1 (cRo c s w).2.1 (cRo c s w).2.2 (ix (c w)) (decide (w % 4 < 2)) := by simp only [cRo, h, Bool.false_eq_true, if_false]
def cFv (c : Nat → Int32) (s : RSt) (w : Nat) : Int32 := if pot c w = true then nI 0 else (few (cRo c s w).1 (cRo c s w).2.1 (cRo c s w).2.2 (ix (c w)) (decide (w % 4 < 2))).1 (if decide (w % 4 < 2) = true then ix (c w) else 169 + ix (c w))
def cwD (c b v g : Nat → Int32) (t : Nat) (s : RSt) : Nat → Int64 → Int64
  | 0, h => h
  | w + 1, h => mxd (mxd (fo (fun k9 => cWink c b v g t w (nI k9)) 7 (cwD c b v g t s w h)) (cLan c w (nI 3) 5).toInt64) (cFv c s w).toInt64
theorem cwD_p {c b v g : Nat → Int32} {t : Nat} {s : RSt} {w : Nat} {h : Int64} (hp : pot c w = true) : mxd (mxd (fo (fun k9 => cWink c b v g t w (nI k9)) 7 (cwD c b v g t s w h)) (cLan c w (nI 3) 5).toInt64) (nI 0).toInt64 = cwD c b v g t s (w + 1) h := by
  simp only [cwD, cFv, hp, if_true]
theorem cwD_n {c b v g : Nat → Int32} {t : Nat} {s : RSt} {w : Nat} {h : Int64} (hp : pot c w = false) : mxd (mxd (fo (fun k9 => cWink c b v g t w (nI k9)) 7 (cwD c b v g t s w h)) (cLan c w (nI 3) 5).toInt64) ((few (cRo c s w).1 (cRo c s w).2.1 (cRo c s w).2.2 (ix (c w)) (decide (w % 4 < 2))).1 (if decide (w % 4 < 2) = true then ix (c w) else 169 + ix (c w))).toInt64 = cwD c b v g t s (w + 1) h := by
  simp only [cwD, cFv, hp, Bool.false_eq_true, if_false]
theorem ro_touch {D : va_G} {cl : List vw_C} {cI : ClassId} {ad : Nat → Nat} {N : Nat} {F : Nat → va_E} {H : Heap} {k : Nat} {a d q : Nat → Int32} (hO : roAt cI ad F k a d q) (hP : va_P D cl (iW ad N F) H) : va_P D cl (iW ad N (roSet cI ad F k a d q)) H := by
  rw [roSet_self hO]
  exact hP
