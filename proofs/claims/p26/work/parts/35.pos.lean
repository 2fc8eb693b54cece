/-! one position: what a move does to it -/
def JT (j : Nat → Int32) (t : Nat) : Prop := (∀ i, i < 4 → j i = nI 0 ∨ j i = nI 1) ∧ j t = nI 0
def on4 (j : Nat → Int32) : Nat := cnt (fun i => !(decide (j i = nI 0))) 4
theorem on4_le (j : Nat → Int32) : on4 j ≤ 4 := cnt_le _ 4
theorem on4_up {j : Nat → Int32} {k : Nat} (hk : k < 4) (h : j k = nI 1) : on4 (upd j k (nI 0)) + 1 = on4 j := by
  unfold on4
  rw [cnt_del (p := fun i => !(decide (j i = nI 0))) (a := k) 4 hk (by rw [h]; decide)]
  congr 1
  refine cnt_cong (fun i hi => ?_)
  by_cases e : i = k
  · subst e
    rw [upd_at9]
    simp
  · rw [upd_ne9 e]
    simp [e]
theorem lo_up {j : Nat → Int32} {k : Nat} {x : Int32} (hj : ∀ i, i < 4 → j i = nI 0 ∨ j i = nI 1) (hx : x = nI 0 ∨ x = nI 1) : ∀ i, i < 4 → upd j k x i = nI 0 ∨ upd j k x i = nI 1 := by
  intro i hi
  by_cases e : i = k
  · subst e
    rw [upd_at9]
    exact hx
  · rw [upd_ne9 e]
    exact hj i hi
theorem pas_ok {c : Nat → Int32} {t0 : Nat} (hnp : ∀ k, k < 4 → potc c k ≠ 4) : ∀ (n : Nat) (j : Nat → Int32) (t : Nat), (∀ i, i < 4 → j i = nI 0 ∨ j i = nI 1) → on4 j < n → JT (pasg c t0 n j t).1 (pasg c t0 n j t).2
  | 0, _, _, _, h => absurd h (Nat.not_lt_zero _)
  | n + 1, j, t, hj, hn => by
    have hm : (t + 1) % 4 < 4 := Nat.mod_lt _ (by decide)
    simp only [pasg]
    rw [if_neg (hnp _ hm)]
    by_cases h0 : j ((t + 1) % 4) = 0
    · rw [if_pos h0]
      exact ⟨hj, h0⟩
    · rw [if_neg h0]
      have h1 : j ((t + 1) % 4) = nI 1 := (hj _ hm).resolve_left h0
      rw [h1, show nI 1 - nI 1 = nI 0 from by decide]
      have h2 := on4_up hm h1
      exact pas_ok hnp n _ _ (lo_up hj (Or.inl rfl)) (by omega)
/-- the law's own way to the next turn -/
def nx1 (c : Nat → Int32) (t0 n : Nat) (j : Nat → Int32) (q : Nat) : (Nat → Int32) × Nat := if j q = 0 then (j, q) else pasg c t0 n (upd j q (j q - nI 1)) q
theorem pasg_s {c : Nat → Int32} {t0 n t : Nat} {j : Nat → Int32} (hnp : ∀ k, k < 4 → potc c k ≠ 4) : pasg c t0 (n + 1) j t = nx1 c t0 n j ((t + 1) % 4) := by
  simp only [pasg, nx1]
  rw [if_neg (hnp _ (Nat.mod_lt _ (by decide)))]
theorem nx1_go {c : Nat → Int32} {t0 n q : Nat} {j : Nat → Int32} (hnp : ∀ k, k < 4 → potc c k ≠ 4) (h : j q ≠ 0) : nx1 c t0 (n + 1) j q = nx1 c t0 n (upd j q (j q - nI 1)) ((q + 1) % 4) := by
  have e : nx1 c t0 (n + 1) j q = pasg c t0 (n + 1) (upd j q (j q - nI 1)) q := by
    unfold nx1
    rw [if_neg h]
  rw [e]
  exact pasg_s hnp
theorem nx1_end {c : Nat → Int32} {t0 n q : Nat} {j : Nat → Int32} (h : j q = 0) : nx1 c t0 n j q = (j, q) := by
  unfold nx1
  rw [if_pos h]
def PQ (c b v : Nat → Int32) : Prop := ∃ (N : Nat → Nat) (W : Nat → Nat → Nat), Rc c N W ∧ Rl c b v N W
theorem pls_at {c b v : Nat → Int32} {N : Nat → Nat} {W : Nat → Nat → Nat} (h : Rc c N W) (hl : Rl c b v N W) {q i : Nat} (hi : i < N q) : pls c b (W q i) = nI i := by
  unfold pls
  rw [if_neg (fun e => h.no hi rfl e), hl.1 q i hi, hl.plcN h 16 i (by have := h.i hi; omega) (by omega)]
/-- a wink that isn't covered, cut off its pile -/
theorem SG_top2 {r b v : Nat → Int32} {N : Nat → Nat} {W : Nat → Nat → Nat} (h : Rc r N W) (hl : Rl r b v N W) {w : Nat} (hw : w < 16) (hcv : cov v w = false) {q1 : Nat} (hq : q1 < 169) : ∃ N1 : Nat → Nat, SG r b (cutv b v w) N1 W (fun _ => w) 1 ∧ N1 q1 = hgt r (nI q1) - (if r w = nI q1 then 1 else 0) := by
  rcases h.2.2 w hw with h1 | ⟨q0, i, hi, rfl⟩
  · refine ⟨N, SG_pot h hl hw h1, ?_⟩
    rw [h.hgtN (by omega), h1, if_neg (fun e => nI_m1 (by omega) e.symm)]
    omega
  · rw [hl.covN h hi] at hcv
    have hn : N q0 - i = 1 := by
      have : ¬ i + 1 < N q0 := by simpa using hcv
      omega
    have hs := SG_on h hl hi
    rw [hn] at hs
    refine ⟨cutN N q0 i, SG_ext hs (fun k hk => by have : k = 0 := by omega
                                                   subst this; rfl), ?_⟩
    rw [h.hgtN (by omega), (h.1 q0 i hi).2.2.2]
    have hq0 := (h.1 q0 i hi).2.1
    unfold cutN
    by_cases e : q1 = q0
    · subst e
      rw [if_pos rfl, if_pos rfl]
      omega
    · rw [if_neg e, if_neg (nI_ne (by omega) (by omega) (fun e2 => e e2.symm))]
      omega
theorem fly_on {c b v : Nat → Int32} (H : PQ c b v) {w : Nat} (hw : w < 16) (hcv : cov v w = false) {q1 : Nat} (hq : q1 < 169) (h84 : q1 ≠ 84) : PQ (mov1 c b v w (nI q1)) (mov2 c b v w (nI q1)) (mov3 c b v w (nI q1)) ∧ mov1 c b v w (nI q1) w = nI q1 ∧ pls (mov1 c b v w (nI q1)) (mov2 c b v w (nI q1)) w = nI (hgt c (nI q1) - (if c w = nI q1 then 1 else 0)) ∧ cov (mov3 c b v w (nI q1)) w = false := by
  obtain ⟨N, W, h, hl⟩ := H
  obtain ⟨N1, hs, hN1⟩ := SG_top2 h hl hw hcv hq
  obtain ⟨m1, m2, m3, m4⟩ := mov_on (S := fun _ => w) hq h84 hs
  have hlt : N1 q1 + 0 < onN N1 q1 1 q1 := onN_new (k := 0) (by decide)
  have hW : onW N1 W q1 (fun _ => w) q1 (N1 q1 + 0) = w := onW_new (k := 0)
  have hp := pls_at m1 m2 hlt
  have hc := m2.covN m1 hlt
  rw [hW] at hp hc
  refine ⟨⟨_, _, m1, m2⟩, m3 0 (by decide), ?_, ?_⟩
  · rw [← hN1]
    exact hp
  · refine hc.trans (decide_eq_false ?_)
    unfold onN
    rw [if_pos rfl]
    omega
theorem fly_cup {c b v : Nat → Int32} (H : PQ c b v) {w : Nat} (hw : w < 16) (hcv : cov v w = false) : PQ (mov1 c b v w (nI 84)) (mov2 c b v w (nI 84)) (mov3 c b v w (nI 84)) ∧ mov1 c b v w (nI 84) w = -1 := by
  obtain ⟨N, W, h, hl⟩ := H
  obtain ⟨N1, hs, -⟩ := SG_top2 h hl hw hcv (q1 := 0) (by decide)
  obtain ⟨m1, m2, m3, m4⟩ := mov_cup (S := fun _ => w) hs
  exact ⟨⟨_, _, m1, m2⟩, m3 0 (by decide)⟩
/-- the upper winks of a pile moved -/
theorem lift_P {c b v : Nat → Int32} {N : Nat → Nat} {W : Nat → Nat → Nat} (h : Rc c N W) (hl : Rl c b v N W) {q0 q1 f : Nat} (hq0 : q0 < 169) (hq1 : q1 < 169) (hne : q1 ≠ q0) (hf : 1 ≤ f) (hle : f ≤ N q0) : PQ (mov1 c b v (W q0 (N q0 - f)) (nI q1)) (mov2 c b v (W q0 (N q0 - f)) (nI q1)) (mov3 c b v (W q0 (N q0 - f)) (nI q1)) ∧ hgt (mov1 c b v (W q0 (N q0 - f)) (nI q1)) (nI q0) = N q0 - f ∧ (q1 = 84 → ∀ k, k < f → mov1 c b v (W q0 (N q0 - f)) (nI q1) (W q0 (N q0 - f + k)) = -1) ∧ (q1 ≠ 84 → ∀ k, k < f → mov1 c b v (W q0 (N q0 - f)) (nI q1) (W q0 (N q0 - f + k)) = nI q1 ∧ pls (mov1 c b v (W q0 (N q0 - f)) (nI q1)) (mov2 c b v (W q0 (N q0 - f)) (nI q1)) (W q0 (N q0 - f + k)) = nI (N q1 + k)) := by
  have hs := SG_on h hl (show N q0 - f < N q0 by omega)
  rw [show N q0 - (N q0 - f) = f by omega] at hs
  have hc0 : cutN N q0 (N q0 - f) q0 = N q0 - f := by unfold cutN; rw [if_pos rfl]
  have hc1 : cutN N q0 (N q0 - f) q1 = N q1 := by unfold cutN; rw [if_neg hne]
  by_cases h84 : q1 = 84
  · subst h84
    obtain ⟨m1, m2, m3, m4⟩ := mov_cup (S := fun k => W q0 (N q0 - f + k)) hs
    refine ⟨⟨_, _, m1, m2⟩, ?_, fun _ => m3, fun e => absurd rfl e⟩
    have := m1.hgtN (q := q0) (by omega)
    rw [hc0] at this
    exact this
  · obtain ⟨m1, m2, m3, m4⟩ := mov_on (S := fun k => W q0 (N q0 - f + k)) hq1 h84 hs
    refine ⟨⟨_, _, m1, m2⟩, ?_, fun e => absurd e h84, fun _ k hk => ⟨m3 k hk, ?_⟩⟩
    · have := m1.hgtN (q := q0) (by omega)
      unfold onN at this
      rw [if_neg (fun e => hne e.symm), hc0] at this
      exact this
    · have h1 := pls_at m1 m2 (onN_new (N := cutN N q0 (N q0 - f)) (q1 := q1) hk)
      rw [onW_new, hc1] at h1
      exact h1
theorem PQ_ext {c c' b v : Nat → Int32} (H : PQ c b v) (e : ∀ x, x < 16 → c x = c' x) : PQ c' b v := by
  obtain ⟨N, W, h, hl⟩ := H
  exact ⟨N, W, Rc_ext h e, Rl_ext hl e⟩
/-- where a flight comes down -/
theorem flE_q {c b v : Nat → Int32} (H : PQ c b v) {w : Nat} (hw : w < 16) (hp : pot c w = false) (d : Int32) (f : Nat) : flE c w d f = -1 ∨ ∃ q1, q1 < 169 ∧ flE c w d f = nI q1 := by
  obtain ⟨N, W, h, hl⟩ := H
  refine ldg_cell ?_ _ _
  rcases h.2.2 w hw with e | ⟨q, i, hi, e⟩
  · unfold pot at hp
    rw [e] at hp
    simp at hp
  · exact ⟨q, (h.1 q i hi).2.1, by rw [← e]; exact (h.1 q i hi).2.2.2⟩
