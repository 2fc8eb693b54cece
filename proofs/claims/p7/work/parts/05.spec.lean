theorem sw_out {x : Int32} (n : Nat) (h : ∀ k, k < n → x ≠ nI k) (hn : n < 2 ^ 31 := by decide) : x.toInt < 0 ∨ ((n : Int) - 1) < x.toInt := by
  rcases Int.lt_or_le x.toInt 0 with q | q
  · exact Or.inl q
  · refine Or.inr ?_
    rcases Int.lt_or_le ((n : Int) - 1) x.toInt with r | r
    · exact r
    · exfalso
      refine h x.toInt.toNat (by omega) ?_
      apply Int32.toInt_inj.mp
      rw [nI_toInt (by omega)]
      omega
def wk (x : Int32) : Bool := !(decide (x < 0)) && !(decide (nI 16 ≤ x))
def ix (x : Int32) : Nat := x.toNatClampNeg
theorem wk_of {x : Int32} (h : wk x = true) : ∃ j : Nat, j < 16 ∧ x = nI j := by
  simp only [wk, Bool.and_eq_true, Bool.not_eq_true', decide_eq_false_iff_not] at h
  obtain ⟨j, h1, h2⟩ := nI_of h.1
  refine ⟨j, ?_, h2⟩
  have h3 := h.2
  rw [h2] at h3
  exact Nat.not_le.mp fun q => h3 ((nI_leI (by decide) h1).mpr q)
theorem wk_nI {j : Nat} (h : j < 16) : wk (nI j) = true := by
  have h1 : ¬ nI j < 0 := nI_pos (Nat.lt_trans h (by decide))
  have h2 : ¬ nI 16 ≤ nI j := fun q => absurd ((nI_leI (by decide) (Nat.lt_trans h (by decide))).mp q) (by omega)
  simp [wk, h1, h2]
theorem ix_nI {j : Nat} (h : j < 2 ^ 31) : ix (nI j) = j := nI_clamp h
theorem wk_eq {x : Int32} (h : wk x = true) : x = nI (ix x) := by
  obtain ⟨j, hj, rfl⟩ := wk_of h
  rw [ix_nI (Nat.lt_trans hj (by decide))]
theorem wk_lt {x : Int32} (h : wk x = true) : ix x < 16 := by
  obtain ⟨j, hj, rfl⟩ := wk_of h
  rw [ix_nI (Nat.lt_trans hj (by decide))]
  exact hj
theorem wk_m1 : wk (-1) = false := by decide
def cl4 (x : Int32) : Bool := !(decide (x < 0)) && !(decide (nI 4 ≤ x))
def on (x y : Int32) : Bool := (!(decide (x < 0)) && !(decide (nI 13 ≤ x))) && (!(decide (y < 0)) && !(decide (nI 13 ≤ y)))
def bs (c : Nat) : Nat := if c = 0 then 0 else if c = 1 then 12 else if c = 2 then 168 else 156
def ea (d : Int32) : Int32 := if ¬ d < nI 1 ∧ ¬ nI 3 < d then nI 1 else if ¬ d < nI 5 then -1 else nI 0
def so (d : Int32) : Int32 := if ¬ d < nI 3 ∧ ¬ nI 5 < d then nI 1 else if d = nI 2 ∨ d = nI 6 then nI 0 else -1
def cat (x y : Int32) : Int32 := nI 13 * y + x
def beside (x y d : Int32) : Int32 := if on (x + ea d) (y + so d) = true then cat (x + ea d) (y + so d) else -1
/-- a flight: steps left, where, how it goes, whether it has bounced -/
def ldL : Nat → Int32 → Int32 → Int32 → Int32 → Bool → Int32
  | 0, x, y, _, _, _ => cat x y
  | n + 1, x, y, u, v, b => if on (x + u) (y + v) = true then ldL n (x + u) (y + v) u v b else if b = true then -1 else if on (x + -u) (y + -v) = true then ldL n (x + -u) (y + -v) (-u) (-v) true else -1
def stp (w f : Nat) : Nat := if w % 4 < 2 then f else f + 1
def rest9 (w : Nat) (q : Int32) : Int32 := if q = -1 then nI (bs (w / 4)) else q
def fans (q : Int32) : Int32 := if q = nI 84 then nI 169 else q
/-- how many i below n -/
def cnt (p : Nat → Bool) : Nat → Nat
  | 0 => 0
  | n + 1 => if p n then cnt p n + 1 else cnt p n
theorem cnt_le (p : Nat → Bool) : ∀ n, cnt p n ≤ n
  | 0 => Nat.le_refl 0
  | n + 1 => by
    have h := cnt_le p n
    simp only [cnt]
    split <;> omega
theorem cnt_cong {p q : Nat → Bool} : ∀ {n : Nat}, (∀ k, k < n → p k = q k) → cnt p n = cnt q n
  | 0, _ => rfl
  | n + 1, h => by
    simp only [cnt]
    rw [cnt_cong (n := n) (fun k hk => h k (Nat.lt_succ_of_lt hk)), h n (Nat.lt_succ_self n)]
theorem cnt_pos {p : Nat → Bool} : ∀ {n i : Nat}, i < n → p i = true → 0 < cnt p n
  | 0, _, h, _ => absurd h (Nat.not_lt_zero _)
  | n + 1, i, h, hp => by
    simp only [cnt]
    by_cases e : i = n
    · subst e
      rw [if_pos hp]
      omega
    · have := cnt_pos (n := n) (i := i) (by omega) hp
      split <;> omega
/-- the first i from i0 on, n of them; none: -1 -/
def fst (p : Nat → Bool) : Nat → Nat → Int32
  | 0, _ => -1
  | n + 1, i => if p i then nI i else fst p n (i + 1)
def sm (f : Nat → Nat) : Nat → Nat
  | 0 => 0
  | n + 1 => sm f n + f n
theorem sm_le {f : Nat → Nat} {b : Nat} (h : ∀ k, f k ≤ b) : ∀ n, sm f n ≤ n * b
  | 0 => by simp [sm]
  | n + 1 => by
    have h1 := sm_le h n
    have h2 := h n
    simp only [sm]
    rw [Nat.succ_mul]
    omega
def anyl (p : Nat → Bool) : Nat → Nat → Bool
  | 0, _ => false
  | n + 1, i => if p i then true else anyl p n (i + 1)
/-- a pile's links down: how many -/
def plc (b : Nat → Int32) : Nat → Int32 → Nat
  | 0, _ => 0
  | n + 1, x => if wk x = true then plc b n (b (ix x)) + 1 else 0
theorem plc_le (b : Nat → Int32) : ∀ n x, plc b n x ≤ n
  | 0, _ => Nat.le_refl 0
  | n + 1, x => by
    have h := plc_le b n (b (ix x))
    simp only [plc]
    split <;> omega
/-- so many links down, as long as there is one -/
def lou (b : Nat → Int32) : Nat → Int32 → Int32
  | 0, x => x
  | n + 1, x => if wk x = true then lou b n (b (ix x)) else x
def lbl (v : Nat → Int32) (c : Nat) : Nat → Int32 → Bool
  | 0, _ => false
  | n + 1, x => if wk x = true then (if ix x / 4 = c then true else lbl v c n (v (ix x))) else false
def msk (p : Nat → Bool) : Nat → Int32
  | 0 => nI 0
  | n + 1 => if p n then msk p n ||| (nI 1 <<< (nI (n / 4) &&& 31)) else msk p n
def mxl (p : Nat → Bool) (f : Nat → Nat) : Nat → Nat
  | 0 => 0
  | n + 1 => if p n then max (mxl p f n) (f n) else mxl p f n
def imax (x y : Int32) : Int32 := if x < y then y else x
def imin (x y : Int32) : Int32 := if y < x then y else x
def mxi (p : Nat → Bool) (f : Nat → Int32) : Nat → Int32
  | 0 => nI 0
  | n + 1 => if p n then imax (mxi p f n) (f n) else mxi p f n
-- the mat
def pot (c : Nat → Int32) (w : Nat) : Bool := decide (c w = -1)
def cov (v : Nat → Int32) (w : Nat) : Bool := !(decide (v w = -1))
def hgt (c : Nat → Int32) (q : Int32) : Nat := cnt (fun i => decide (c i = q)) 16
def tpq (c v : Nat → Int32) (q : Int32) (i : Nat) : Bool := decide (c i = q) && decide (v i = -1)
def top (c v : Nat → Int32) (q : Int32) : Int32 := fst (tpq c v q) 16 0
def bot (c b : Nat → Int32) (w : Nat) : Bool := !(decide (c w = -1)) && decide (b w = -1)
def pls (c b : Nat → Int32) (w : Nat) : Int32 := if c w = -1 then -1 else nI (plc b 16 (b w))
def low (c b v : Nat → Int32) (q : Int32) (n : Nat) : Int32 := lou b (n - 1) (top c v q)
def potc (c : Nat → Int32) (k : Nat) : Nat := cnt (fun w => decide (c (4 * k + w) = -1)) 4
def covc (v : Nat → Int32) (k : Nat) : Nat := cnt (fun w => cov v (4 * k + w)) 4
def potn (c : Nat → Int32) : Nat := sm (potc c) 4
def over (c : Nat → Int32) : Bool := anyl (fun k => decide (potc c k = 4)) 4 0
def ptw (c v : Nat → Int32) (k w : Nat) : Nat := if c (4 * k + w) = -1 then 3 else if cov v (4 * k + w) = true then 0 else if c (4 * k + w) = nI (bs k) then 0 else 1
def ptc (c v : Nat → Int32) (k : Nat) : Nat := sm (ptw c v k) 4
def ptt (c v : Nat → Int32) (t : Nat) : Nat := ptc c v t + ptc c v (t + 2)
def oth (v : Nat → Int32) (k w : Nat) : Bool := !(decide (w / 4 = k)) && lbl v k 16 (v w)
theorem potc_le (c : Nat → Int32) (k : Nat) : potc c k ≤ 4 := cnt_le _ 4
theorem covc_le (v : Nat → Int32) (k : Nat) : covc v k ≤ 4 := cnt_le _ 4
theorem hgt_le (c : Nat → Int32) (q : Int32) : hgt c q ≤ 16 := cnt_le _ 16
theorem ptw_le (c v : Nat → Int32) (k w : Nat) : ptw c v k w ≤ 3 := by
  unfold ptw
  split
  · omega
  · split
    · omega
    · split <;> omega
theorem ptc_le (c v : Nat → Int32) (k : Nat) : ptc c v k ≤ 12 := sm_le (ptw_le c v k) 4
theorem potn_le (c : Nat → Int32) : potn c ≤ 16 := sm_le (potc_le c) 4
def matAt (cI : ClassId) (ad : Nat → Nat) (F : Nat → va_E) (k : Nat) (c b v : Nat → Int32) : Prop :=
  F k = .inr (1, [.ref (ad (k + 1)), .ref (ad (k + 2)), .ref (ad (k + 3))]) ∧ F (k + 1) = .inl (cI, 16, .inl c) ∧ F (k + 2) = .inl (cI, 16, .inl b) ∧ F (k + 3) = .inl (cI, 16, .inl v)
section SWI
variable {p : Program} {l : Launch} {e : Env} {R : Room} {s : State} {m : MethodId} {args : Array Value} {below : List Frame} {meth : Method} {c : Code} {H : Heap} {locs : List Loc} {cells slots : Nat} {Q : State → Prop}
variable {cc : ByteArray} {pc tgt : Nat} {ls : Array Slot} {rest : List Value} {off : Int}
theorem sw_in (j : Nat) (hx : p.tables.exec = Jvm.exec) (hb : c.code = cc) {dflt hi : Int} {offs : Array Int} {len : Nat} {x : Int32} (hdg : decode cc pc = .ok (.tableswitch dflt 0 hi offs, len)) (h : x = nI j) (hj : (nI j).toInt = (j : Int)) (hh : decide ((j : Int) ≤ hi) = true) (ho : offs[j]? = some off) (ht : (pc : Int) + off = (tgt : Int))
    (k : W p l e R s m args below meth c H locs cells slots Q (F0 m tgt ls rest)) : W p l e R s m args below meth c H locs cells slots Q (F0 m pc ls (.int x :: rest)) := by
  have h9 := of_decide_eq_true hh
  subst h
  refine lv_tableIn hx hb hdg (by rw [hj]; omega) (by rw [hj]; omega) ?_ ht k
  rw [hj, show ((j : Int) - 0).toNat = j by omega]
  exact ho
end SWI
def ldg (q d : Int32) (f : Nat) : Int32 := ldL f (q - q / nI 13 * nI 13) (q / nI 13) (ea d) (so d) false
