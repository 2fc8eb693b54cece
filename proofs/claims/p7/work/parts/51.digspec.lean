theorem shr_cmp {n : Nat} (h : n ≤ 16) : Op.cmpValue (FP.dcmp (shr n) (shr n)) .l = 0 := (show ∀ n, n < 17 → Op.cmpValue (FP.dcmp (shr n) (shr n)) .l = 0 by decide +kernel) n (by omega)
theorem mea_cmp {p n : Nat} (h : n ≤ 16) (hp : p ≤ 16) : Op.cmpValue (FP.fcmp (mea p n) (mea p n)) .l = 0 := (show ∀ p, p < 17 → ∀ n, n < 17 → Op.cmpValue (FP.fcmp (mea p n) (mea p n)) .l = 0 by decide +kernel) p (by omega) n (by omega)
def rd1 (r : Nat → Int32) (nf : Nat → Nat) (st : Nat) : Int64 := foP (fun w9 => decide (hgt r (nI w9) = 0)) (fun w9 k9 => aPile r (nI w9) k9) 4 169 (rwE r nf (fo (fun k9 => aNum r st k9) 14 3823))
def rd2 (r : Nat → Int32) (nf : Nat → Nat) (st : Nat) (sd : Nat → Int32) : Int64 := mxd (mxd (mxd (rd1 r nf st) (rbst r sd 288).1.toInt64) (shr (potn r)).toInt64) (mea (rpl r) (potn r)).toInt32.toInt64
def rd3 (r : Nat → Int32) (nf : Nat → Nat) (st : Nat) (sd : Nat → Int32) (hs : Bool) (ln : Nat) : Int64 := mxd (mxd (rd2 r nf st sd) (bI hs).toInt64) (nI ln).toInt64
