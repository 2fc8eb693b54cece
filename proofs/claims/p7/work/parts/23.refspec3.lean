theorem cell_eq {x y : Int32} (hy : btw y (nI 0) (nI 12) = true) (hx : btw x (nI 0) (nI 12) = true) : nI 13 * y + x = nI (13 * ix y + ix x) := by
  have e1 := btw_eq hy
  have e2 := btw_eq hx
  rw [← nI_add, ← pk_mul, ← e1, ← e2]
theorem cell_lt {x y : Int32} (hy : btw y (nI 0) (nI 12) = true) (hx : btw x (nI 0) (nI 12) = true) : 13 * ix y + ix x < 169 := by
  have e1 := btw_le hy
  have e2 := btw_le hx
  omega
def rTu (r : Nat → Int32) : Prop := ix (r 56) < 4 ∧ r 56 = nI (ix (r 56))
def rC9 (r : Nat → Int32) : Prop := ∀ w, w < 16 → pot r w = false → cell9 (r w)
def rFl (r : Nat → Int32) : Prop := ∀ w, w < 16 → rwn r w = 0 → r (52 + w / 4) = nI 0
def rLi (r : Nat → Int32) : Prop := ∀ q n d, q < 169 → 1 ≤ n → n ≤ 6 → d < 8 → rwl r q n d = 0 → rlW r q n d
def rok (r : Nat → Int32) : Prop := rTu r ∧ lo01 r ∧ rC9 r ∧ rFl r ∧ rLi r
theorem rwn_0 {r : Nat → Int32} {w : Nat} (h : rwn r w = 0) : over r = false ∧ r 56 = nI (w / 4) ∧ pot r w = false ∧ rcv r w = false := by
  unfold rwn at h
  by_cases h1 : over r = true
  · rw [if_pos h1] at h; omega
  · rw [if_neg h1] at h
    by_cases h2 : r 56 = nI (w / 4)
    · rw [if_pos h2] at h
      by_cases h3 : pot r w = true
      · rw [if_pos h3] at h; omega
      · rw [if_neg h3] at h
        by_cases h4 : rcv r w = true
        · rw [if_pos h4] at h; omega
        · exact ⟨by simpa using h1, h2, by simpa using h3, by simpa using h4⟩
    · rw [if_neg h2] at h; omega
theorem rwl_0 {r : Nat → Int32} {q n d : Nat} (h : rwl r q n d = 0) : n ≤ hgt r (nI q) := by
  unfold rwl at h
  split at h
  · omega
  · split at h
    · omega
    · omega
theorem rok_c9 {r : Nat → Int32} {w : Nat} (hk : rok r) (hw : w < 16) (h : rwn r w = 0) : cell9 (r w) := hk.2.2.1 w hw (rwn_0 h).2.2.1
theorem rok_l0 {r : Nat → Int32} {w : Nat} (hk : rok r) (hw : w < 16) (h : rwn r w = 0) : r (52 + w / 4) = nI 0 := hk.2.2.2.1 w hw h
-- answers
def aWink (r : Nat → Int32) (w k : Nat) : Int32 := if k = 0 then nI (w / 4) else if k = 1 then (if w % 4 < 2 then nI 1 else nI 0) else if k = 2 then r w else if k = 3 then r (16 + w) else if k = 4 then bI (rcv r w) else if k = 5 then r (32 + w) else nI (rwn r w)
def aPile (r : Nat → Int32) (q : Int32) (k : Nat) : Int32 := if k = 0 then nI (hgt r q) else if k = 1 then wat r q (nI (hgt r q) - nI 1) else if k = 2 then wat r q (nI 0) else msk (fun i => decide (r i = q)) 16
def aCol (r : Nat → Int32) (c k : Nat) : Int32 := if k = 0 then nI (potc r c) else if k = 1 then nI (rcc r c) else if k = 2 then nI 4 - nI (potc r c) - nI (rcc r c) else if k = 3 then nI (rpt r c) else if k = 4 then r (48 + c) else if k = 5 then r (52 + c) else nI (rbl r c)
def aNum (r : Nat → Int32) (st k : Nat) : Int32 := if k < 5 then (if k = 0 then (if over r = true then -1 else r 56) else if k = 1 then bI (over r) else if k = 2 then nI (potn r) else nI (rcs r)) else if k < 10 then (if k = 5 then nI (rpl r) else if k = 6 then rhi r 16 else if k = 7 then r 58 else if k = 8 then r 59 else r 48 + r 49 + r 50 + r 51) else if k < 12 then nI (rtm r (k - 10)) else if k = 12 then r 57 else nI st
def aLan (r : Nat → Int32) (w d f : Nat) : Int32 := if pot r w = true then -2 else fans (ldg (r w) (nI d) (stp w f))
def yI (b : Bool) (x y : Int32) : Int32 := if b = true then x else y
def tW (x k : Int32) (m : Nat) (m2 : Nat) : Int32 := if btw x (nI 0) (nI m) = true then (if btw k (nI 0) (nI m2) = true then nI 0 else nI 2) else nI 1
def pW (r : Nat → Int32) (x k : Int32) : Int32 := if btw x (nI 0) (nI 15) = true then (if btw k (nI 0) (nI 6) = true then aWink r (ix x) (ix k) else nI 0) else nI 0
def pC (r : Nat → Int32) (x k : Int32) : Int32 := if btw x (nI 0) (nI 3) = true then (if btw k (nI 0) (nI 6) = true then aCol r (ix x) (ix k) else nI 0) else nI 0
def tP (x y k : Int32) : Int32 := if btw x (nI 0) (nI 12) = true then (if btw y (nI 0) (nI 12) = true then (if btw k (nI 0) (nI 3) = true then nI 0 else nI 2) else nI 1) else nI 1
def pP (r : Nat → Int32) (x y k : Int32) : Int32 := if btw x (nI 0) (nI 12) = true then (if btw y (nI 0) (nI 12) = true then (if btw k (nI 0) (nI 3) = true then aPile r (nI 13 * y + x) (ix k) else nI 0) else nI 0) else nI 0
def tN (k : Int32) : Int32 := if btw k (nI 0) (nI 13) = true then nI 0 else nI 1
def pN (r : Nat → Int32) (st : Nat) (k : Int32) : Int32 := if btw k (nI 0) (nI 13) = true then aNum r st (ix k) else nI 0
def tY (x y m9 d : Int32) : Int32 := if btw x (nI 0) (nI 12) = true then (if btw y (nI 0) (nI 12) = true then (if btw m9 (nI 1) (nI 6) = true then (if btw d (nI 0) (nI 7) = true then nI 0 else nI 2) else nI 2) else nI 1) else nI 1
def pY (r : Nat → Int32) (x y m9 d : Int32) : Int32 := if btw x (nI 0) (nI 12) = true then (if btw y (nI 0) (nI 12) = true then (if btw m9 (nI 1) (nI 6) = true then (if btw d (nI 0) (nI 7) = true then nI (rwl r (13 * ix y + ix x) (ix m9) (ix d)) else nI 0) else nI 0) else nI 0) else nI 0
def tL (x d f : Int32) : Int32 := if btw x (nI 0) (nI 15) = true then (if btw d (nI 0) (nI 7) = true then (if btw f (nI 1) (nI 9) = true then nI 0 else nI 2) else nI 2) else nI 1
def pL (r : Nat → Int32) (x d f : Int32) : Int32 := if btw x (nI 0) (nI 15) = true then (if btw d (nI 0) (nI 7) = true then (if btw f (nI 1) (nI 9) = true then aLan r (ix x) (ix d) (ix f) else nI 0) else nI 0) else nI 0
-- the flight, the lift: whether they go
def gF (r : Nat → Int32) (x d f : Int32) : Bool := if btw x (nI 0) (nI 15) = true then (if btw d (nI 0) (nI 7) = true then (if btw f (nI 1) (nI 9) = true then (if rwn r (ix x) = 0 then true else false) else false) else false) else false
def tF (r : Nat → Int32) (x d f : Int32) : Int32 := if btw x (nI 0) (nI 15) = true then (if btw d (nI 0) (nI 7) = true then (if btw f (nI 1) (nI 9) = true then (if rwn r (ix x) = 0 then nI 0 else nI 3) else nI 2) else nI 2) else nI 1
def gL (r : Nat → Int32) (x y m9 d : Int32) : Bool := if btw x (nI 0) (nI 12) = true then (if btw y (nI 0) (nI 12) = true then (if btw m9 (nI 1) (nI 6) = true then (if btw d (nI 0) (nI 7) = true then (if rwl r (13 * ix y + ix x) (ix m9) (ix d) = 0 then true else false) else false) else false) else false) else false
def tLi (r : Nat → Int32) (x y m9 d : Int32) : Int32 := if btw x (nI 0) (nI 12) = true then (if btw y (nI 0) (nI 12) = true then (if btw m9 (nI 1) (nI 6) = true then (if btw d (nI 0) (nI 7) = true then (if rwl r (13 * ix y + ix x) (ix m9) (ix d) = 0 then nI 0 else nI 3) else nI 2) else nI 2) else nI 1) else nI 1
def gS (x : Int32) : Bool := btw x (nI 1) (nI 6)
def gP (r : Nat → Int32) (x a b : Int32) : Bool := if btw x (nI 0) (nI 15) = true then (if btw a (nI 0) (nI 12) = true then (if btw b (nI 0) (nI 12) = true then (if over r = true then false else if rcv r (ix x) = true then false else true) else false) else false) else false
def tPu (r : Nat → Int32) (x a b : Int32) : Int32 := if btw x (nI 0) (nI 15) = true then (if btw a (nI 0) (nI 12) = true then (if btw b (nI 0) (nI 12) = true then (if over r = true then nI 2 else if rcv r (ix x) = true then nI 2 else nI 0) else nI 1) else nI 1) else nI 1
theorem gF_t {r : Nat → Int32} {x d f : Int32} (h1 : btw x (nI 0) (nI 15) = true) (h2 : btw d (nI 0) (nI 7) = true) (h3 : btw f (nI 1) (nI 9) = true) (h4 : rwn r (ix x) = 0) : gF r x d f = true := by simp only [gF, h1, h2, h3, h4, if_true]
theorem rwl_le (r : Nat → Int32) (q n d : Nat) : rwl r q n d ≤ 5 := by
  unfold rwl
  (repeat' split) <;> omega
theorem rwn_le (r : Nat → Int32) (w : Nat) : rwn r w ≤ 4 := by
  unfold rwn
  (repeat' split) <;> omega
theorem bI_1 : bI true = nI 1 := rfl
theorem bI_00 : bI false = nI 0 := rfl
