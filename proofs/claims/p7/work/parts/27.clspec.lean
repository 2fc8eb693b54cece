theorem lt78 (x : Int32) : (nI 7 < x) ↔ (nI 8 ≤ x) := by
  rw [Int32.lt_iff_toInt_lt, Int32.le_iff_toInt_le, nI_toInt (by decide), nI_toInt (by decide)]
  omega
theorem rng_ok {x a m : Int32} (h : btw x a m = true) : ¬ x < a ∧ ¬ m < x := by
  simpa only [btw, Bool.and_eq_true, Bool.not_eq_true', decide_eq_false_iff_not] using h
theorem rng_bad {x a m : Int32} (h1 : ¬ x < a) (h2 : ¬ m < x) : btw x a m = true := by
  simp only [btw, h1, h2, decide_false, Bool.not_false, Bool.and_self]
theorem dir_ok {x : Int32} (h : btw x (nI 0) (nI 7) = true) : ¬ x < 0 ∧ ¬ nI 8 ≤ x := ⟨(rng_ok h).1, fun q => (rng_ok h).2 ((lt78 x).mpr q)⟩
theorem dir_bad {x : Int32} (h1 : ¬ x < 0) (h2 : ¬ nI 8 ≤ x) : btw x (nI 0) (nI 7) = true := rng_bad h1 (fun q => h2 ((lt78 x).mp q))
theorem ff_tt {b : Bool} (h1 : b = false) (h2 : b = true) : False := by rw [h1] at h2; exact absurd h2 (by decide)
theorem btw_ne {y : Int32} {m j : Nat} (h : btw y (nI 0) (nI m) = false) (hj : j ≤ m) (hm : m < 2 ^ 31) (e : y = nI j) : False := by
  rw [e, btw_nI ⟨Nat.zero_le _, hj⟩ hm] at h
  exact absurd h (by decide)
theorem btw_all {y : Int32} {m : Nat} (hm : m < 2 ^ 31) (h : btw y (nI 0) (nI m) = true) (hn : ∀ j, j ≤ m → y ≠ nI j) : False := by
  obtain ⟨j, e, -, hj⟩ := btw_of (by decide) hm h
  exact hn j hj e
-- answers of the class
def cWink (c b v g : Nat → Int32) (t w : Nat) (k : Int32) : Int32 := if k = nI 0 then nI (w / 4) else if k = nI 1 then (if w % 4 < 2 then nI 1 else nI 0) else if k = nI 2 then c w else if k = nI 3 then pls c b w else if k = nI 4 then bI (cov v w) else if k = nI 5 then g w else nI (wnf c v t w)
def cPile (c b v : Nat → Int32) (q k : Int32) : Int32 := if k = nI 0 then nI (hgt c q) else if k = nI 1 then top c v q else if k = nI 2 then top c b q else msk (fun i => decide (c i = q)) 16
def cCol (c b v h j : Nat → Int32) (w : Nat) (k : Int32) : Int32 := if k = nI 0 then nI (potc c w) else if k = nI 1 then nI (covc v w) else if k = nI 2 then nI 4 - nI (potc c w) - nI (covc v w) else if k = nI 3 then nI (ptc c v w) else if k = nI 4 then h w else if k = nI 5 then j w else nI (cnt (oth v w) 16)
def cCnt (c b v g h : Nat → Int32) (t : Nat) (u z : Int32) (m9 : Nat) (k : Int32) : Int32 := if k = nI 0 then (if over c = true then -1 else nI t) else if k = nI 1 then (if over c = true then nI 1 else nI 0) else if k = nI 2 then nI (potn c) else if k = nI 3 then nI (sm (fun i => if bot c b i = true then hgt c (c i) - 1 else 0) 16) else if k = nI 4 then nI ((covc v 0 + covc v (0 + 2)) + (covc v 1 + covc v (1 + 2))) else if k = nI 5 then nI (cnt (bot c b) 16) else if k = nI 6 then mxi (bot c b) (fun i => nI (hgt c (c i))) 16 else if k = nI 7 then smi g 16 else if k = nI 8 then u else if k = nI 9 then smi h 4 else if k = nI 10 then nI (ptt c v 0) else if k = nI 11 then nI (ptt c v 1) else if k = nI 12 then z else nI m9
def cLan (c : Nat → Int32) (w : Nat) (d : Int32) (f : Nat) : Int32 := if pot c w = true then -2 else fans (ldg (c w) d (stp w f))
theorem cl4_nI {w : Nat} (h : w < 4) : cl4 (nI w) = true := by
  have h1 : ¬ nI w < 0 := nI_pos (by omega)
  have h2 : ¬ nI 4 ≤ nI w := fun q => absurd ((nI_leI (by decide) (by omega)).mp q) (by omega)
  simp [cl4, h1, h2]
theorem st_touch {D : va_G} {cl : List vw_C} {cI : ClassId} {ad : Nat → Nat} {N : Nat} {F : Nat → va_E} {H : Heap} {k : Nat} {c b v g h j : Nat → Int32} {t u z : Int32} (hS : stAt cI ad F k c b v g h j t u z) (hP : va_P D cl (iW ad N F) H) : va_P D cl (iW ad N (sSet cI ad F k c b v g h j t u z)) H := by
  rw [sSet_self hS]
  exact hP
theorem gt_touch {D : va_G} {cl : List vw_C} {cI : ClassId} {ad : Nat → Nat} {N : Nat} {F : Nat → va_E} {H : Heap} {k : Nat} {a : Nat → Int32} {n : Nat} (hT : gtAt cI ad F k a n) (hP : va_P D cl (iW ad N F) H) : va_P D cl (iW ad N (gtSet cI ad F k a n)) H := by
  rw [gtSet_self hT]
  exact hP
