def mxd (x y : Int64) : Int64 := 31 * x + y
def fo (A : Nat → Int32) : Nat → Int64 → Int64
  | 0, h => h
  | k + 1, h => mxd (fo A k h) (A k).toInt64
def fo2 (A : Nat → Nat → Int32) (n : Nat) : Nat → Int64 → Int64
  | 0, h => h
  | i + 1, h => fo (A i) n (fo2 A n i h)
def foP (T : Nat → Bool) (A : Nat → Nat → Int32) (n : Nat) : Nat → Int64 → Int64
  | 0, h => h
  | i + 1, h => if T i = true then foP T A n i h else fo (A i) n (foP T A n i h)
theorem fo_s {A : Nat → Int32} {k : Nat} {h : Int64} : mxd (fo A k h) (A k).toInt64 = fo A (k + 1) h := rfl
theorem fo2_s {A : Nat → Nat → Int32} {n i : Nat} {h : Int64} : fo (A i) n (fo2 A n i h) = fo2 A n (i + 1) h := rfl
theorem foP_t {T : Nat → Bool} {A : Nat → Nat → Int32} {n i : Nat} {h : Int64} (e : T i = true) : foP T A n i h = foP T A n (i + 1) h := by simp only [foP, e, if_true]
theorem foP_f {T : Nat → Bool} {A : Nat → Nat → Int32} {n i : Nat} {h : Int64} (e : T i = false) : fo (A i) n (foP T A n i h) = foP T A n (i + 1) h := by simp only [foP, e, Bool.false_eq_true, if_false]
theorem piles_le (c b : Nat → Int32) : cnt (bot c b) 16 ≤ 16 := cnt_le _ 16
theorem on_cell {i : Nat} (h : i < 169) : on (nI (i % 13)) (nI (i / 13)) = true := on_tt (btw_nI (by omega)) (btw_nI (by omega))
