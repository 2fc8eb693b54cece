theorem m_touch {D : va_G} {cl : List vw_C} {cI : ClassId} {ad : Nat → Nat} {N : Nat} {F : Nat → va_E} {H : Heap} {k : Nat} {c b v : Nat → Int32} (hM : matAt cI ad F k c b v) (hP : va_P D cl (iW ad N F) H) : va_P D cl (iW ad N (mSet cI F k c b v)) H := by
  rw [mSet_self hM]
  exact hP
def cM1 (c b v : Nat → Int32) (w : Nat) (d : Int32) (f : Nat) : Nat → Int32 := mov1 c b v w (rest9 w (ldg (c w) d (stp w f)))
def cM2 (c b v : Nat → Int32) (w : Nat) (d : Int32) (f : Nat) : Nat → Int32 := mov2 c b v w (rest9 w (ldg (c w) d (stp w f)))
def cM3 (c b v : Nat → Int32) (w : Nat) (d : Int32) (f : Nat) : Nat → Int32 := mov3 c b v w (rest9 w (ldg (c w) d (stp w f)))
def cLd (c b v : Nat → Int32) (w : Nat) (d : Int32) (f : Nat) : Int32 := nI (ptt (cM1 c b v w d f) (cM3 c b v w d f) (w / 4 % 2)) - nI (ptt (cM1 c b v w d f) (cM3 c b v w d f) (1 - w / 4 % 2))
def cCv (c b v : Nat → Int32) (w : Nat) (d : Int32) (f : Nat) : Nat := covc (cM3 c b v w d f) (1 - w / 4 % 2) + covc (cM3 c b v w d f) (1 - w / 4 % 2 + 2)
def cIf (c b v : Nat → Int32) (w : Nat) (d : Int32) (f : Nat) (y : Int32) : Int32 := if y = 0 then cLd c b v w d f else nI (cCv c b v w d f)
abbrev CSt : Type := Int32 × Int32 × Int32 × (Nat → Int32) × (Nat → Int32) × (Nat → Int32)
def cNw (c b v : Nat → Int32) (w i : Nat) : CSt := (nI (100 * w + 10 * (i / 9) + (i % 9 + 1)), cLd c b v w (nI (i / 9)) (i % 9 + 1), nI (cCv c b v w (nI (i / 9)) (i % 9 + 1)), cM1 c b v w (nI (i / 9)) (i % 9 + 1), cM2 c b v w (nI (i / 9)) (i % 9 + 1), cM3 c b v w (nI (i / 9)) (i % 9 + 1))
def cOl (c b v : Nat → Int32) (w i : Nat) (s : CSt) : CSt := (s.1, s.2.1, s.2.2.1, cM1 c b v w (nI (i / 9)) (i % 9 + 1), cM2 c b v w (nI (i / 9)) (i % 9 + 1), cM3 c b v w (nI (i / 9)) (i % 9 + 1))
def cbI (c b v : Nat → Int32) (w : Nat) : Nat → CSt → CSt
  | 0, s => s
  | i + 1, s => if (cbI c b v w i s).1 = -1 then cNw c b v w i else if (cbI c b v w i s).2.1 < cLd c b v w (nI (i / 9)) (i % 9 + 1) then cNw c b v w i else if cLd c b v w (nI (i / 9)) (i % 9 + 1) = (cbI c b v w i s).2.1 then (if nI (cCv c b v w (nI (i / 9)) (i % 9 + 1)) ≤ (cbI c b v w i s).2.2.1 then cOl c b v w i (cbI c b v w i s) else cNw c b v w i) else cOl c b v w i (cbI c b v w i s)
def cbO (c b v : Nat → Int32) (t : Nat) (s : CSt) : Nat → CSt
  | 0 => s
  | w + 1 => if wnf c v t w = 0 then cbI c b v w 72 (cbO c b v t s w) else cbO c b v t s w
theorem cbO_0 {c b v : Nat → Int32} {t : Nat} {s : CSt} : cbO c b v t s 0 = s := rfl
theorem cbO_s {c b v : Nat → Int32} {t w : Nat} {s : CSt} (h : wnf c v t w = 0) : cbO c b v t s (w + 1) = cbI c b v w 72 (cbO c b v t s w) := by
  simp only [cbO, h, if_true]
theorem cbO_n {c b v : Nat → Int32} {t w : Nat} {s : CSt} (h : wnf c v t w ≠ 0) : cbO c b v t s (w + 1) = cbO c b v t s w := by
  simp only [cbO, if_neg h]
theorem cbI_0 {c b v : Nat → Int32} {w : Nat} {s : CSt} : cbI c b v w 0 s = s := rfl
