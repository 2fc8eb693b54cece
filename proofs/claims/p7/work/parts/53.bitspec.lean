def two9 : UInt64 := 4611686018427387904
def n64 (r : UInt64) : Bool := decide (r &&& 0x7fffffffffffffff ≤ 0x7ff0000000000000)
theorem n64_ok {r : UInt64} (h : n64 r = true) : vf_n64 r := by
  unfold vf_n64
  exact of_decide_eq_true h
def b1 : Nat → UInt64 → Int64 → UInt64 × Int64
  | 0, x, e => (x, e)
  | n + 1, x, e => if Op.cmpValue (FP.dcmp x two9) .l < 0 then (x, e) else b1 n (FP.ddiv x two9) (e + 1)
def b2 : Nat → UInt64 → Int64 → UInt64 × Int64
  | 0, x, e => (x, e)
  | n + 1, x, e => if 0 ≤ Op.cmpValue (FP.dcmp x FP.dconst1) .g then (x, e) else b2 n (FP.dmul x two9) (e - 1)
def s1 : Nat → UInt64 → Bool
  | 0, _ => true
  | n + 1, x => if Op.cmpValue (FP.dcmp x two9) .l < 0 then true else n64 (FP.ddiv x two9) && s1 n (FP.ddiv x two9)
def s2 : Nat → UInt64 → Bool
  | 0, _ => true
  | n + 1, x => if 0 ≤ Op.cmpValue (FP.dcmp x FP.dconst1) .g then true else n64 (FP.dmul x two9) && s2 n (FP.dmul x two9)
def bfr (x : UInt64) (fb : Nat) : UInt64 := FP.dmul (FP.dsub x FP.dconst1) (FP.l2d (1 <<< ((nI fb).toInt64 &&& 63)))
def bfi (p : UInt64 × Int64) (fb : Nat) : Int64 := (p.2 <<< ((nI fb).toInt64 &&& 63)) + FP.d2l (bfr p.1 fb)
def b12 (x : UInt64) (bi : Nat) : UInt64 × Int64 := b2 bi (b1 bi x (nI bi).toInt64).1 (b1 bi x (nI bi).toInt64).2
def bOf (x : UInt64) (fb bi : Nat) : Int64 := if 0 < Op.cmpValue (FP.dcmp x FP.dconst0) .g then bfi (b12 x bi) fb else 0
def bok (x : UInt64) (fb bi : Nat) : Bool := s1 bi x && (s2 bi (b1 bi x (nI bi).toInt64).1 && (n64 (FP.dsub (b12 x bi).1 FP.dconst1) && n64 (bfr (b12 x bi).1 fb)))
theorem s1_n {n : Nat} {x : UInt64} (h : s1 (n + 1) x = true) (hc : ¬ Op.cmpValue (FP.dcmp x two9) .l < 0) : n64 (FP.ddiv x two9) = true ∧ s1 n (FP.ddiv x two9) = true := by
  simp only [s1] at h
  rw [if_neg hc] at h
  simpa using h
theorem s2_n {n : Nat} {x : UInt64} (h : s2 (n + 1) x = true) (hc : ¬ 0 ≤ Op.cmpValue (FP.dcmp x FP.dconst1) .g) : n64 (FP.dmul x two9) = true ∧ s2 n (FP.dmul x two9) = true := by
  simp only [s2] at h
  rw [if_neg hc] at h
  simpa using h
theorem b1_n {n : Nat} {x : UInt64} {e : Int64} (hc : ¬ Op.cmpValue (FP.dcmp x two9) .l < 0) : b1 (n + 1) x e = b1 n (FP.ddiv x two9) (e + 1) := by
  simp only [b1]
  rw [if_neg hc]
theorem b1_e {n : Nat} {x : UInt64} {e : Int64} (hc : n = 0 ∨ Op.cmpValue (FP.dcmp x two9) .l < 0) : b1 n x e = (x, e) := by
  cases n with
  | zero => rfl
  | succ n =>
    simp only [b1]
    rw [if_pos (hc.resolve_left (by omega))]
theorem b2_n {n : Nat} {x : UInt64} {e : Int64} (hc : ¬ 0 ≤ Op.cmpValue (FP.dcmp x FP.dconst1) .g) : b2 (n + 1) x e = b2 n (FP.dmul x two9) (e - 1) := by
  simp only [b2]
  rw [if_neg hc]
theorem b2_e {n : Nat} {x : UInt64} {e : Int64} (hc : n = 0 ∨ 0 ≤ Op.cmpValue (FP.dcmp x FP.dconst1) .g) : b2 n x e = (x, e) := by
  cases n with
  | zero => rfl
  | succ n =>
    simp only [b2]
    rw [if_pos (hc.resolve_left (by omega))]
theorem bok_shr {n : Nat} (h : n ≤ 16) : bok (shr n) 52 1023 = true ∧ bOf (shr n) 52 1023 = (shr n).toInt64 := (show ∀ n, n < 17 → bok (shr n) 52 1023 = true ∧ bOf (shr n) 52 1023 = (shr n).toInt64 by decide +kernel) n (by omega)
theorem bok_mea {p n : Nat} (h : n ≤ 16) (hp : p ≤ 16) : n64 (FP.f2d (mea p n)) = true ∧ bok (FP.f2d (mea p n)) 23 127 = true ∧ bOf (FP.f2d (mea p n)) 23 127 = (mea p n).toInt32.toInt64 := (show ∀ p, p < 17 → ∀ n, n < 17 → n64 (FP.f2d (mea p n)) = true ∧ bok (FP.f2d (mea p n)) 23 127 = true ∧ bOf (FP.f2d (mea p n)) 23 127 = (mea p n).toInt32.toInt64 by decide +kernel) p (by omega) n (by omega)
