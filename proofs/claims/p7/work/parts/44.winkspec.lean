def rNF (r : Nat → Int32) (nf : Nat → Nat) : Prop := ∀ w, w < 16 → pot r w = false → r w = nI (ix (r w)) ∧ ix (r w) < 169 ∧ ix (r w) ≠ 84 ∧ fwr w (ix (r w)) (nf w)
def rF9 (r : Nat → Int32) (nf : Nat → Nat) (w : Nat) : Int32 := if pot r w = true then nI 0 else nI (nf w)
def rwD (r : Nat → Int32) (nf : Nat → Nat) : Nat → Int64 → Int64
  | 0, h => h
  | w + 1, h => mxd (mxd (fo (aWink r w) 7 (rwD r nf w h)) (aLan r w 3 5).toInt64) (rF9 r nf w).toInt64
def rwE (r : Nat → Int32) (nf : Nat → Nat) (h : Int64) : Int64 := fo2 (aCol r) 7 4 (rwD r nf 16 h)
theorem rwD_p {r : Nat → Int32} {nf : Nat → Nat} {w : Nat} {h : Int64} (hp : pot r w = true) : mxd (mxd (fo (aWink r w) 7 (rwD r nf w h)) (aLan r w 3 5).toInt64) (nI 0).toInt64 = rwD r nf (w + 1) h := by
  simp only [rwD, rF9, hp, if_true]
theorem rwD_n {r : Nat → Int32} {nf : Nat → Nat} {w : Nat} {h : Int64} (hp : pot r w = false) : mxd (mxd (fo (aWink r w) 7 (rwD r nf w h)) (aLan r w 3 5).toInt64) (nI (nf w)).toInt64 = rwD r nf (w + 1) h := by
  simp only [rwD, rF9, hp, Bool.false_eq_true, if_false]
