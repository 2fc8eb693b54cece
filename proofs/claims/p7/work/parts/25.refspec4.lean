def tk (bu : Nat → Int32) (ln a b : Nat) (p : Bool × Nat) : Bool × Nat := if p.1 = true then (tks bu ln p.2 a b, tkn bu ln p.2 a b) else p
def rprt (bu : Nat → Int32) (ln pt : Nat) : Bool × Nat := if tks bu ln pt 102 102 = true then tk bu ln 49 57 (tk bu ln 48 55 (tk bu ln 48 51 (true, tkn bu ln pt 102 102))) else tk bu ln 48 55 (tk bu ln 49 54 (tk bu ln 97 109 (tk bu ln 97 109 (tk bu ln 108 108 (true, tkn bu ln pt 102 102)))))
def rwhL (bu : Nat → Int32) (ln : Nat) : Nat → Bool → Nat → Bool × Nat
  | 0, g, p => (g, p)
  | n + 1, g, p => if g = true ∧ p < ln then (if tks bu ln p 59 59 = true then rwhL bu ln n (rprt bu ln (tkn bu ln p 59 59)).1 (rprt bu ln (tkn bu ln p 59 59)).2 else rwhL bu ln n false (tkn bu ln p 59 59)) else (g, p)
def rwh (bu : Nat → Int32) (ln : Nat) : Bool × Nat := rwhL bu ln (ln + 1) (rprt bu ln 0).1 (rprt bu ln 0).2
theorem tkn_ge (bu : Nat → Int32) (ln p a b : Nat) : p ≤ tkn bu ln p a b := by
  unfold tkn
  split <;> omega
theorem tk_ge (bu : Nat → Int32) (ln a b : Nat) (p : Bool × Nat) : p.2 ≤ (tk bu ln a b p).2 := by
  unfold tk
  split
  · exact tkn_ge _ _ _ _ _
  · exact Nat.le_refl _
theorem rprt_ge (bu : Nat → Int32) (ln p : Nat) : p ≤ (rprt bu ln p).2 := by
  have h0 := tkn_ge bu ln p 102 102
  unfold rprt
  split
  · exact Nat.le_trans h0 (Nat.le_trans (tk_ge bu ln 48 51 (true, tkn bu ln p 102 102)) (Nat.le_trans (tk_ge bu ln 48 55 _) (tk_ge bu ln 49 57 _)))
  · exact Nat.le_trans h0 (Nat.le_trans (tk_ge bu ln 108 108 (true, tkn bu ln p 102 102)) (Nat.le_trans (tk_ge bu ln 97 109 _) (Nat.le_trans (tk_ge bu ln 97 109 _) (Nat.le_trans (tk_ge bu ln 49 54 _) (tk_ge bu ln 48 55 _)))))
theorem tkn_le {bu : Nat → Int32} {ln p a b : Nat} (h : p ≤ ln) : tkn bu ln p a b ≤ ln := by
  unfold tkn tks
  split
  · next h1 =>
    simp only [Bool.and_eq_true, decide_eq_true_eq] at h1
    omega
  · exact h
theorem tk_le {bu : Nat → Int32} {ln a b : Nat} {p : Bool × Nat} (h : p.2 ≤ ln) : (tk bu ln a b p).2 ≤ ln := by
  unfold tk
  split
  · exact tkn_le h
  · exact h
theorem rprt_le {bu : Nat → Int32} {ln p : Nat} (h : p ≤ ln) : (rprt bu ln p).2 ≤ ln := by
  unfold rprt
  split
  · exact tk_le (tk_le (tk_le (tkn_le h)))
  · exact tk_le (tk_le (tk_le (tk_le (tk_le (tkn_le h)))))
theorem tkn_up {bu : Nat → Int32} {ln p a b : Nat} (h : tks bu ln p a b = true) : tkn bu ln p a b = p + 1 := by
  unfold tkn
  rw [if_pos h]
theorem rwhL_end {bu : Nat → Int32} {ln : Nat} {g : Bool} {p : Nat} (h : ¬ (g = true ∧ p < ln)) : ∀ n, rwhL bu ln n g p = (g, p)
  | 0 => rfl
  | n + 1 => by
    simp only [rwhL]
    rw [if_neg h]
-- what a flight brings
def rFx (r : Nat → Int32) (w d f : Nat) : Nat → Int32 := rfx r w (ldg (r w) (nI d) (stp w f)) (ix (r 56))
def aBr (r : Nat → Int32) (w d f a : Nat) : Int32 := if a = 0 then nI (rtm (rFx r w d f) (1 - (1 - w / 4 % 2))) - nI (rtm (rFx r w d f) (1 - w / 4 % 2)) else nI (rcc (rFx r w d f) (1 - w / 4 % 2) + rcc (rFx r w d f) (1 - w / 4 % 2 + 2))
def rbW (r : Nat → Int32) (j : Nat) : Nat := 4 * ix (r 56) + j / 72
def rbI (r : Nat → Int32) (j : Nat) : Int32 := nI 100 * aBr r (rbW r j) (j / 9 % 8) (j % 9 + 1) 0 + aBr r (rbW r j) (j / 9 % 8) (j % 9 + 1) 1
def rbst (r : Nat → Int32) (sd : Nat → Int32) : Nat → Int32 × Int32 × (Nat → Int32)
  | 0 => (-1, nI 0, sd)
  | j + 1 => if rwn r (rbW r j) = 0 then (if (rbst r sd j).1 = -1 then (nI (100 * rbW r j + 10 * (j / 9 % 8) + (j % 9 + 1)), rbI r j, r) else if rbI r j ≤ (rbst r sd j).2.1 then ((rbst r sd j).1, (rbst r sd j).2.1, r) else (nI (100 * rbW r j + 10 * (j / 9 % 8) + (j % 9 + 1)), rbI r j, r)) else rbst r sd j
def gI (r : Nat → Int32) (x d f a : Int32) : Bool := if btw x (nI 0) (nI 15) = true then (if btw d (nI 0) (nI 7) = true then (if btw f (nI 1) (nI 9) = true then (if btw a (nI 0) (nI 1) = true then (if rwn r (ix x) = 0 then true else false) else false) else false) else false) else false
def tI (x d f a : Int32) : Int32 := if btw x (nI 0) (nI 15) = true then (if btw d (nI 0) (nI 7) = true then (if btw f (nI 1) (nI 9) = true then (if btw a (nI 0) (nI 1) = true then nI 0 else nI 2) else nI 2) else nI 2) else nI 1
def pI (r : Nat → Int32) (x d f a : Int32) : Int32 := if btw x (nI 0) (nI 15) = true then (if btw d (nI 0) (nI 7) = true then (if btw f (nI 1) (nI 9) = true then (if btw a (nI 0) (nI 1) = true then (if rwn r (ix x) = 0 then aBr r (ix x) (ix d) (ix f) (ix a) else -1000) else nI 0) else nI 0) else nI 0) else nI 0
theorem rtm_le (r : Nat → Int32) (k : Nat) : rtm r k ≤ 32 := by
  have h1 := rpt_le r k
  have h2 := rpt_le r (k + 2)
  unfold rtm
  omega
