/-! moves of a pile's upper part S (n winks, S 0 the lowest) onto another pile, or into the cup -/
theorem topv0 {c v : Nat → Int32} {N : Nat → Nat} {W : Nat → Nat → Nat} (h : Rc c N W) (hv : ∀ q i, i < N q → v (W q i) = if i + 1 < N q then nI (W q (i + 1)) else -1) {q : Nat} (hq : q < 2 ^ 31) : top c v (nI q) = if N q = 0 then -1 else nI (W q (N q - 1)) := by
  unfold top
  by_cases h0 : N q = 0
  · rw [if_pos h0]
    refine fst_n 16 0 (fun k _ hk => ?_)
    unfold tpq
    by_cases hc : c k = nI q
    · obtain ⟨i, hi, -⟩ := h.cell hq (by omega) hc
      omega
    · simp [hc]
  · rw [if_neg h0]
    have hlt : N q - 1 < N q := by omega
    refine fst_u 16 0 (Nat.zero_le _) (by have := (h.1 q _ hlt).1; omega) ?_ (fun k _ hk hp => ?_)
    · unfold tpq
      rw [(h.1 q _ hlt).2.2.2, hv q _ hlt, if_neg (by omega)]
      simp
    · unfold tpq at hp
      simp only [Bool.and_eq_true, decide_eq_true_eq] at hp
      obtain ⟨i, hi, rfl⟩ := h.cell hq (by omega) hp.1
      have h2 := hv q i hi
      rw [hp.2] at h2
      by_cases h3 : i + 1 < N q
      · rw [if_pos h3] at h2
        exact absurd h2.symm (nI_m1 (by have := (h.1 q _ h3).1; omega))
      · rw [show i = N q - 1 by omega]
/-- the piles without S, and the links with S cut off -/
def SG (r b v : Nat → Int32) (N : Nat → Nat) (W : Nat → Nat → Nat) (S : Nat → Nat) (n : Nat) : Prop :=
  1 ≤ n ∧ n ≤ 16 ∧ (∀ k, k < n → S k < 16) ∧ (∀ k m, k < n → m < n → S k = S m → k = m) ∧
  (∀ k, k < n → v (S k) = if k + 1 < n then nI (S (k + 1)) else -1) ∧ (∀ k, k < n → 0 < k → b (S k) = nI (S (k - 1))) ∧
  (∀ q m, m < N q → W q m < 16 ∧ q < 169 ∧ q ≠ 84 ∧ r (W q m) = nI q ∧ ∀ k, k < n → W q m ≠ S k) ∧ (∀ q i j, i < N q → j < N q → W q i = W q j → i = j) ∧
  (∀ q m, m < N q → b (W q m) = if m = 0 then -1 else nI (W q (m - 1))) ∧ (∀ q m, m < N q → v (W q m) = if m + 1 < N q then nI (W q (m + 1)) else -1) ∧
  (∀ w, w < 16 → (∃ k, k < n ∧ S k = w) ∨ (r w = -1 ∧ b w = -1 ∧ v w = -1) ∨ ∃ q m, m < N q ∧ W q m = w)
def cutN (N : Nat → Nat) (q0 i : Nat) : Nat → Nat := fun q => if q = q0 then i else N q
theorem cutv_on {r b v : Nat → Int32} {N : Nat → Nat} {W : Nat → Nat → Nat} (h : Rc r N W) (hl : Rl r b v N W) {q0 i : Nat} (hi : i < N q0) : cutv b v (W q0 i) = if i = 0 then v else upd v (W q0 (i - 1)) (-1) := by
  unfold cutv
  rw [hl.1 q0 i hi]
  by_cases h0 : i = 0
  · rw [if_pos h0, if_pos h0, if_neg (by rw [wk_m1]; decide)]
  · have := (h.1 q0 (i - 1) (by omega)).1
    rw [if_neg h0, if_neg h0, if_pos (wk_nI this), ix_nI (by omega)]
theorem SG_on {r b v : Nat → Int32} {N : Nat → Nat} {W : Nat → Nat → Nat} (h : Rc r N W) (hl : Rl r b v N W) {q0 i : Nat} (hi : i < N q0) : SG r b (cutv b v (W q0 i)) (cutN N q0 i) W (fun k => W q0 (i + k)) (N q0 - i) := by
  have hle := h.le (q := q0) (by have := h.q hi; omega)
  have hv : ∀ q m, m < N q → (q ≠ q0 ∨ m + 1 ≠ i) → cutv b v (W q0 i) (W q m) = v (W q m) := by
    intro q m hm hne
    rw [cutv_on h hl hi]
    by_cases h0 : i = 0
    · rw [if_pos h0]
    · rw [if_neg h0]
      refine upd_ne9 (fun e => ?_)
      obtain ⟨rfl, rfl⟩ := h.one hm (show i - 1 < N q0 by omega) e
      omega
  have hcut : ∀ q m, m < cutN N q0 i q → m < N q ∧ (q = q0 → m < i) := by
    intro q m hm
    unfold cutN at hm
    by_cases e : q = q0
    · rw [if_pos e] at hm; subst e; exact ⟨by omega, fun _ => hm⟩
    · rw [if_neg e] at hm; exact ⟨hm, fun e2 => absurd e2 e⟩
  refine ⟨by omega, by omega, fun k hk => (h.1 q0 (i + k) (by omega)).1, fun k m hk hm e => ?_, fun k hk => ?_, fun k hk h0 => ?_, fun q m hm => ?_, fun q a j ha hj e => h.2.1 q a j (hcut q a ha).1 (hcut q j hj).1 e, fun q m hm => ?_, fun q m hm => ?_, fun w hw => ?_⟩
  · have := h.2.1 q0 (i + k) (i + m) (by omega) (by omega) e
    omega
  · show cutv b v (W q0 i) (W q0 (i + k)) = if k + 1 < N q0 - i then nI (W q0 (i + (k + 1))) else -1
    rw [hv q0 (i + k) (by omega) (Or.inr (by omega)), hl.2.1 q0 (i + k) (by omega)]
    by_cases h3 : i + k + 1 < N q0
    · rw [if_pos h3, if_pos (by omega)]; rfl
    · rw [if_neg h3, if_neg (by omega)]
  · show b (W q0 (i + k)) = nI (W q0 (i + (k - 1)))
    rw [hl.1 q0 (i + k) (by omega), if_neg (by omega), show i + k - 1 = i + (k - 1) by omega]
  · obtain ⟨g1, g2⟩ := hcut q m hm
    obtain ⟨k1, k2, k3, k4⟩ := h.1 q m g1
    refine ⟨k1, k2, k3, k4, fun k hk e => ?_⟩
    obtain ⟨rfl, rfl⟩ := h.one g1 (show i + k < N q0 by omega) e
    have := g2 rfl
    omega
  · obtain ⟨g1, g2⟩ := hcut q m hm
    exact hl.1 q m g1
  · obtain ⟨g1, g2⟩ := hcut q m hm
    by_cases e : q = q0
    · subst e
      have h3 := g2 rfl
      have hcn : cutN N q i q = i := by unfold cutN; rw [if_pos rfl]
      rw [hcn]
      by_cases h4 : m + 1 < i
      · rw [if_pos h4, hv q m g1 (Or.inr (by omega)), hl.2.1 q m g1, if_pos (by omega)]
      · rw [if_neg h4, cutv_on h hl hi, if_neg (by omega), show i - 1 = m by omega]
        exact upd_at9
    · have hcn : cutN N q0 i q = N q := by unfold cutN; rw [if_neg e]
      rw [hcn, hv q m g1 (Or.inl e), hl.2.1 q m g1]
  · rcases h.2.2 w hw with h1 | ⟨q, m, g1, g2⟩
    · refine Or.inr (Or.inl ⟨h1, (hl.2.2 w hw h1).1, ?_⟩)
      rw [cutv_on h hl hi]
      by_cases h0 : i = 0
      · rw [if_pos h0]; exact (hl.2.2 w hw h1).2
      · rw [if_neg h0, upd_ne9 (fun e => h.no (show i - 1 < N q0 by omega) e.symm h1)]
        exact (hl.2.2 w hw h1).2
    · by_cases e : q = q0 ∧ i ≤ m
      · obtain ⟨rfl, e2⟩ := e
        exact Or.inl ⟨m - i, by omega, by show W q (i + (m - i)) = w; rw [show i + (m - i) = m by omega]; exact g2⟩
      · refine Or.inr (Or.inr ⟨q, m, ?_, g2⟩)
        unfold cutN
        by_cases e2 : q = q0
        · rw [if_pos e2]
          by_cases e3 : i ≤ m
          · exact absurd ⟨e2, e3⟩ e
          · omega
        · rw [if_neg e2]; exact g1
theorem SG_pot {r b v : Nat → Int32} {N : Nat → Nat} {W : Nat → Nat → Nat} (h : Rc r N W) (hl : Rl r b v N W) {w : Nat} (hw : w < 16) (hp : r w = -1) : SG r b (cutv b v w) N W (fun _ => w) 1 := by
  obtain ⟨p1, p2⟩ := hl.2.2 w hw hp
  have hv : cutv b v w = v := by
    unfold cutv
    rw [p1, if_neg (by rw [wk_m1]; decide)]
  rw [hv]
  refine ⟨Nat.le_refl 1, by omega, fun _ _ => hw, fun k m hk hm _ => by omega, fun k hk => ?_, fun k hk h0 => by omega, fun q m hm => ?_, h.2.1, hl.1, hl.2.1, fun w' hw' => ?_⟩
  · rw [if_neg (by omega)]; exact p2
  · obtain ⟨k1, k2, k3, k4⟩ := h.1 q m hm
    exact ⟨k1, k2, k3, k4, fun k hk e => h.no hm e hp⟩
  · rcases h.2.2 w' hw' with h1 | h1
    · exact Or.inr (Or.inl ⟨h1, hl.2.2 w' hw' h1⟩)
    · exact Or.inr (Or.inr h1)
theorem scl_P {v : Nat → Int32} {S : Nat → Nat} {n : Nat} (h16 : ∀ k, k < n → S k < 16) (hi : ∀ k m, k < n → m < n → S k = S m → k = m) (hv : ∀ k, k < n → v (S k) = if k + 1 < n then nI (S (k + 1)) else -1) {x : Int32} : ∀ (f j : Nat) (c : Nat → Int32), n ≤ j + f → (∀ k, j ≤ k → k < n → scl v x f c (if j < n then nI (S j) else -1) (S k) = x) ∧ (∀ y, (∀ k, j ≤ k → k < n → S k ≠ y) → scl v x f c (if j < n then nI (S j) else -1) y = c y)
  | 0, j, c, h => ⟨fun k h1 h2 => by omega, fun _ _ => rfl⟩
  | f + 1, j, c, h => by
    by_cases hj : j < n
    · rw [if_pos hj]
      simp only [scl]
      have hw := h16 j hj
      rw [if_pos (wk_nI hw), ix_nI (by omega), hv j hj]
      obtain ⟨i1, i2⟩ := scl_P h16 hi hv (x := x) f (j + 1) (upd c (S j) x) (by omega)
      refine ⟨fun k h1 h2 => ?_, fun y hy => ?_⟩
      · by_cases e : k = j
        · subst e
          rw [i2 (S k) (fun m h3 h4 e2 => by have := hi m k h4 h2 e2; omega)]
          exact upd_at9
        · exact i1 k (by omega) h2
      · rw [i2 y (fun k h1 h2 => hy k (by omega) h2)]
        exact upd_ne9 (fun e => hy j (Nat.le_refl j) hj e.symm)
    · rw [if_neg hj]
      simp only [scl]
      rw [if_neg (by rw [wk_m1]; decide)]
      exact ⟨fun k h1 h2 => by omega, fun _ _ => rfl⟩
theorem sep_P {S : Nat → Nat} {n : Nat} (h16 : ∀ k, k < n → S k < 16) (hi : ∀ k m, k < n → m < n → S k = S m → k = m) : ∀ (f j : Nat) (b v : Nat → Int32), (∀ k, j ≤ k → k < n → v (S k) = if k + 1 < n then nI (S (k + 1)) else -1) → n ≤ j + f → (∀ k, j ≤ k → k < n → (sep f b v (if j < n then nI (S j) else -1)).1 (S k) = -1 ∧ (sep f b v (if j < n then nI (S j) else -1)).2 (S k) = -1) ∧ (∀ y, (∀ k, j ≤ k → k < n → S k ≠ y) → (sep f b v (if j < n then nI (S j) else -1)).1 y = b y ∧ (sep f b v (if j < n then nI (S j) else -1)).2 y = v y)
  | 0, j, b, v, _, h => ⟨fun k h1 h2 => by omega, fun _ _ => ⟨rfl, rfl⟩⟩
  | f + 1, j, b, v, hv, h => by
    by_cases hj : j < n
    · rw [if_pos hj]
      simp only [sep]
      have hw := h16 j hj
      rw [if_pos (wk_nI hw), ix_nI (by omega), hv j (Nat.le_refl j) hj]
      obtain ⟨i1, i2⟩ := sep_P h16 hi f (j + 1) (upd b (S j) (-1)) (upd v (S j) (-1)) (fun k h1 h2 => by
        rw [upd_ne9 (fun e => by have := hi k j h2 hj e; omega)]
        exact hv k (by omega) h2) (by omega)
      refine ⟨fun k h1 h2 => ?_, fun y hy => ?_⟩
      · by_cases e : k = j
        · subst e
          obtain ⟨a1, a2⟩ := i2 (S k) (fun m h3 h4 e2 => by have := hi m k h4 h2 e2; omega)
          rw [a1, a2]
          exact ⟨upd_at9, upd_at9⟩
        · exact i1 k (by omega) h2
      · obtain ⟨a1, a2⟩ := i2 y (fun k h1 h2 => hy k (by omega) h2)
        rw [a1, a2]
        exact ⟨upd_ne9 (fun e => hy j (Nat.le_refl j) hj e.symm), upd_ne9 (fun e => hy j (Nat.le_refl j) hj e.symm)⟩
    · rw [if_neg hj]
      simp only [sep]
      rw [if_neg (by rw [wk_m1]; decide)]
      exact ⟨fun k h1 h2 => by omega, fun _ _ => ⟨rfl, rfl⟩⟩
/-- the piles behind the move onto q1 -/
def onN (N : Nat → Nat) (q1 n : Nat) : Nat → Nat := fun q => if q = q1 then N q1 + n else N q
def onW (N : Nat → Nat) (W : Nat → Nat → Nat) (q1 : Nat) (S : Nat → Nat) : Nat → Nat → Nat := fun q m => if q = q1 ∧ N q1 ≤ m then S (m - N q1) else W q m
theorem onW_new {N : Nat → Nat} {W : Nat → Nat → Nat} {q1 k : Nat} {S : Nat → Nat} : onW N W q1 S q1 (N q1 + k) = S k := by
  unfold onW
  rw [if_pos ⟨rfl, by omega⟩, show N q1 + k - N q1 = k by omega]
theorem onW_old {N : Nat → Nat} {W : Nat → Nat → Nat} {q1 q m : Nat} {S : Nat → Nat} (h : m < N q) : onW N W q1 S q m = W q m := by
  unfold onW
  rw [if_neg (fun e => by obtain ⟨rfl, e2⟩ := e; omega)]
theorem onN_cases {N : Nat → Nat} {q1 n q m : Nat} (h : m < onN N q1 n q) : m < N q ∨ (q = q1 ∧ ∃ k, k < n ∧ m = N q1 + k) := by
  unfold onN at h
  by_cases e : q = q1
  · rw [if_pos e] at h
    subst e
    by_cases h2 : m < N q
    · exact Or.inl h2
    · exact Or.inr ⟨rfl, m - N q, by omega, by omega⟩
  · rw [if_neg e] at h; exact Or.inl h
theorem onN_old {N : Nat → Nat} {q1 n q m : Nat} (h : m < N q) : m < onN N q1 n q := by
  unfold onN
  by_cases e : q = q1
  · rw [if_pos e]; subst e; omega
  · rw [if_neg e]; exact h
theorem onN_new {N : Nat → Nat} {q1 n k : Nat} (h : k < n) : N q1 + k < onN N q1 n q1 := by
  unfold onN
  rw [if_pos rfl]
  omega
/-- the cells behind it, whoever writes them -/
theorem Rc_on {r c' : Nat → Int32} {N : Nat → Nat} {W : Nat → Nat → Nat} {S : Nat → Nat} {n q1 : Nat} (hq : q1 < 169) (hq84 : q1 ≠ 84) (h16 : ∀ k, k < n → S k < 16) (hi : ∀ k m, k < n → m < n → S k = S m → k = m) (hN : ∀ q m, m < N q → W q m < 16 ∧ q < 169 ∧ q ≠ 84 ∧ r (W q m) = nI q ∧ ∀ k, k < n → W q m ≠ S k) (hW : ∀ q i j, i < N q → j < N q → W q i = W q j → i = j) (hA : ∀ w, w < 16 → (∃ k, k < n ∧ S k = w) ∨ r w = -1 ∨ ∃ q m, m < N q ∧ W q m = w) (c1 : ∀ k, k < n → c' (S k) = nI q1) (c2 : ∀ y, y < 16 → (∀ k, k < n → S k ≠ y) → c' y = r y) : Rc c' (onN N q1 n) (onW N W q1 S) := by
  refine ⟨fun q m hm => ?_, fun q i j hi' hj e => ?_, fun w hw => ?_⟩
  · rcases onN_cases hm with h1 | ⟨rfl, k, hk, rfl⟩
    · rw [onW_old h1]
      obtain ⟨k1, k2, k3, k4, k5⟩ := hN q m h1
      exact ⟨k1, k2, k3, (c2 _ k1 (fun k hk e => k5 k hk e.symm)).trans k4⟩
    · rw [onW_new]
      exact ⟨h16 k hk, hq, hq84, c1 k hk⟩
  · rcases onN_cases hi' with h1 | ⟨e1, k, hk, rfl⟩
    · rcases onN_cases hj with h2 | ⟨rfl, k, hk, rfl⟩
      · rw [onW_old h1, onW_old h2] at e
        exact hW q i j h1 h2 e
      · rw [onW_old h1, onW_new] at e
        exact absurd e ((hN q i h1).2.2.2.2 k hk)
    · subst e1
      rcases onN_cases hj with h2 | ⟨-, m, hm, rfl⟩
      · rw [onW_old h2, onW_new] at e
        exact absurd e.symm ((hN q j h2).2.2.2.2 k hk)
      · rw [onW_new, onW_new] at e
        rw [hi k m hk hm e]
  · rcases hA w hw with ⟨k, hk, rfl⟩ | h1 | ⟨q, m, hm, rfl⟩
    · exact Or.inr ⟨q1, N q1 + k, onN_new hk, onW_new⟩
    · by_cases hs : ∃ k, k < n ∧ S k = w
      · obtain ⟨k, hk, rfl⟩ := hs
        exact Or.inr ⟨q1, N q1 + k, onN_new hk, onW_new⟩
      · exact Or.inl ((c2 w hw (fun k hk e => hs ⟨k, hk, e⟩)).trans h1)
    · exact Or.inr ⟨q, m, onN_old hm, onW_old hm⟩
theorem Rc_cup {r c' : Nat → Int32} {N : Nat → Nat} {W : Nat → Nat → Nat} {S : Nat → Nat} {n : Nat} (hN : ∀ q m, m < N q → W q m < 16 ∧ q < 169 ∧ q ≠ 84 ∧ r (W q m) = nI q ∧ ∀ k, k < n → W q m ≠ S k) (hW : ∀ q i j, i < N q → j < N q → W q i = W q j → i = j) (hA : ∀ w, w < 16 → (∃ k, k < n ∧ S k = w) ∨ r w = -1 ∨ ∃ q m, m < N q ∧ W q m = w) (c1 : ∀ k, k < n → c' (S k) = -1) (c2 : ∀ y, y < 16 → (∀ k, k < n → S k ≠ y) → c' y = r y) : Rc c' N W := by
  refine ⟨fun q m hm => ?_, hW, fun w hw => ?_⟩
  · obtain ⟨k1, k2, k3, k4, k5⟩ := hN q m hm
    exact ⟨k1, k2, k3, (c2 _ k1 (fun k hk e => k5 k hk e.symm)).trans k4⟩
  · rcases hA w hw with ⟨k, hk, rfl⟩ | h1 | h1
    · exact Or.inl (c1 k hk)
    · by_cases hs : ∃ k, k < n ∧ S k = w
      · obtain ⟨k, hk, rfl⟩ := hs
        exact Or.inl (c1 k hk)
      · exact Or.inl ((c2 w hw (fun k hk e => hs ⟨k, hk, e⟩)).trans h1)
    · exact Or.inr h1
theorem SG.cells {r b v : Nat → Int32} {N : Nat → Nat} {W : Nat → Nat → Nat} {S : Nat → Nat} {n : Nat} (h : SG r b v N W S n) {c : Nat → Int32} {x : Int32} : (∀ k, k < n → scl v x 16 c (nI (S 0)) (S k) = x) ∧ (∀ y, (∀ k, k < n → S k ≠ y) → scl v x 16 c (nI (S 0)) y = c y) := by
  obtain ⟨h1, h2, h3, h4, h5, -⟩ := h
  have := scl_P h3 h4 h5 (x := x) 16 0 c (by omega)
  rw [if_pos (by omega)] at this
  exact ⟨fun k hk => this.1 k (Nat.zero_le _) hk, fun y hy => this.2 y (fun k _ hk => hy k hk)⟩
/-- what the class's move leaves: onto a pile -/
theorem mov_on {r b v : Nat → Int32} {N : Nat → Nat} {W : Nat → Nat → Nat} {S : Nat → Nat} {n q1 : Nat} (hq : q1 < 169) (hq84 : q1 ≠ 84) (h : SG r b (cutv b v (S 0)) N W S n) : Rc (mov1 r b v (S 0) (nI q1)) (onN N q1 n) (onW N W q1 S) ∧ Rl (mov1 r b v (S 0) (nI q1)) (mov2 r b v (S 0) (nI q1)) (mov3 r b v (S 0) (nI q1)) (onN N q1 n) (onW N W q1 S) ∧ (∀ k, k < n → mov1 r b v (S 0) (nI q1) (S k) = nI q1) ∧ (∀ y, (∀ k, k < n → S k ≠ y) → mov1 r b v (S 0) (nI q1) y = r y) := by
  obtain ⟨a1, a2⟩ := h.cells (c := r) (x := -1)
  obtain ⟨d1, d2⟩ := h.cells (c := scl (cutv b v (S 0)) (-1) 16 r (nI (S 0))) (x := nI q1)
  obtain ⟨h1, h2, h3, h4, h5, h6, h7, h8, h9, h10, h11⟩ := h
  have hA : ∀ w, w < 16 → (∃ k, k < n ∧ S k = w) ∨ r w = -1 ∨ ∃ q m, m < N q ∧ W q m = w := fun w hw => (h11 w hw).imp id (fun g => g.imp (fun g => g.1) id)
  have hcup : Rc (scl (cutv b v (S 0)) (-1) 16 r (nI (S 0))) N W := Rc_cup h7 h8 hA a1 (fun y _ hy => a2 y hy)
  have hne : nI q1 ≠ nI 84 := nI_ne (by omega) (by omega) hq84
  have e1 : mov1 r b v (S 0) (nI q1) = scl (cutv b v (S 0)) (nI q1) 16 (scl (cutv b v (S 0)) (-1) 16 r (nI (S 0))) (nI (S 0)) := by unfold mov1; rw [if_neg hne]
  have c1 : ∀ k, k < n → mov1 r b v (S 0) (nI q1) (S k) = nI q1 := by rw [e1]; exact d1
  have c2 : ∀ y, (∀ k, k < n → S k ≠ y) → mov1 r b v (S 0) (nI q1) y = r y := fun y hy => by rw [e1, d2 y hy, a2 y hy]
  have hle := hcup.le (q := q1) (by omega)
  have et : movt r b v (S 0) (nI q1) = if N q1 = 0 then -1 else nI (W q1 (N q1 - 1)) := topv0 hcup h10 (by omega)
  have e2 : mov2 r b v (S 0) (nI q1) = upd b (S 0) (if N q1 = 0 then -1 else nI (W q1 (N q1 - 1))) := by unfold mov2; rw [if_neg hne, et]
  have e3 : mov3 r b v (S 0) (nI q1) = if N q1 = 0 then cutv b v (S 0) else upd (cutv b v (S 0)) (W q1 (N q1 - 1)) (nI (S 0)) := by
    unfold mov3
    rw [if_neg hne, et]
    by_cases h0 : N q1 = 0
    · rw [if_pos h0, if_pos h0, if_neg (by rw [wk_m1]; decide)]
    · have hw := (h7 q1 (N q1 - 1) (by omega)).1
      rw [if_neg h0, if_neg h0, if_pos (wk_nI hw), ix_nI (by omega)]
  have hRc := Rc_on hq hq84 h3 h4 h7 h8 hA c1 (fun y _ hy => c2 y hy)
  refine ⟨hRc, ⟨fun q m hm => ?_, fun q m hm => ?_, fun w hw hp => ?_⟩, c1, c2⟩
  · rw [e2]
    rcases onN_cases hm with g1 | ⟨rfl, k, hk, rfl⟩
    · rw [onW_old g1, upd_ne9 ((h7 q m g1).2.2.2.2 0 (by omega)), h9 q m g1]
      by_cases h0 : m = 0
      · rw [if_pos h0, if_pos h0]
      · rw [if_neg h0, if_neg h0, onW_old (show m - 1 < N q by omega)]
    · rw [onW_new]
      by_cases h0 : k = 0
      · subst h0
        rw [upd_at9]
        by_cases h00 : N q = 0
        · rw [if_pos h00, if_pos (by omega)]
        · rw [if_neg h00, if_neg (by omega), Nat.add_zero, onW_old (show N q - 1 < N q by omega)]
      · rw [upd_ne9 (fun e => h0 (h4 k 0 hk (by omega) e)), h6 k hk (by omega), if_neg (by omega), show N q + k - 1 = N q + (k - 1) by omega, onW_new]
  · rw [e3]
    rcases onN_cases hm with g1 | ⟨rfl, k, hk, rfl⟩
    · rw [onW_old g1]
      by_cases hlast : q = q1 ∧ m + 1 = N q1
      · obtain ⟨rfl, hm1⟩ := hlast
        rw [if_neg (by omega), show N q - 1 = m by omega, upd_at9, if_pos (by rw [hm1]; exact onN_new (k := 0) (by omega)), hm1]
        have := onW_new (N := N) (W := W) (q1 := q) (k := 0) (S := S)
        rw [Nat.add_zero] at this
        rw [this]
      · have hv : (if N q1 = 0 then cutv b v (S 0) else upd (cutv b v (S 0)) (W q1 (N q1 - 1)) (nI (S 0))) (W q m) = cutv b v (S 0) (W q m) := by
          by_cases h00 : N q1 = 0
          · rw [if_pos h00]
          · rw [if_neg h00]
            refine upd_ne9 (fun e => hlast ?_)
            have g2 := (h7 q m g1).2.2.2.1
            have g3 := (h7 q1 (N q1 - 1) (by omega)).2.2.2.1
            rw [e, g3] at g2
            have e9 := nI_inj (by omega) (by have := (h7 q m g1).2.1; omega) g2
            subst e9
            have := h8 q1 m (N q1 - 1) g1 (by omega) e
            exact ⟨rfl, by omega⟩
        rw [hv, h10 q m g1]
        by_cases h12 : m + 1 < N q
        · rw [if_pos h12, if_pos (onN_old h12), onW_old h12]
        · rw [if_neg h12, if_neg (fun g => by
            rcases onN_cases g with g4 | ⟨rfl, k, hk, e9⟩
            · exact h12 g4
            · exact hlast ⟨rfl, by omega⟩)]
    · rw [onW_new]
      have hv : (if N q = 0 then cutv b v (S 0) else upd (cutv b v (S 0)) (W q (N q - 1)) (nI (S 0))) (S k) = cutv b v (S 0) (S k) := by
        by_cases h00 : N q = 0
        · rw [if_pos h00]
        · rw [if_neg h00]
          exact upd_ne9 (fun e => (h7 q (N q - 1) (by omega)).2.2.2.2 k hk e.symm)
      rw [hv, h5 k hk]
      by_cases h12 : k + 1 < n
      · rw [if_pos h12, if_pos (by rw [Nat.add_assoc]; exact onN_new h12), Nat.add_assoc, onW_new]
      · rw [if_neg h12, if_neg (fun g => by
          rcases onN_cases g with g4 | ⟨-, m, hm, e9⟩ <;> omega)]
  · have hns : ∀ k, k < n → S k ≠ w := fun k hk e => by
      rw [← e, c1 k hk] at hp
      exact nI_m1 (by omega) hp
    rw [c2 w hns] at hp
    rcases h11 w hw with ⟨k, hk, e⟩ | ⟨-, g2, g3⟩ | ⟨q, m, hm, e⟩
    · exact absurd e (hns k hk)
    · rw [e2, e3]
      refine ⟨by rw [upd_ne9 (fun e => hns 0 (by omega) e.symm)]; exact g2, ?_⟩
      by_cases h00 : N q1 = 0
      · rw [if_pos h00]; exact g3
      · rw [if_neg h00, upd_ne9 (fun e => by
          have g4 := (h7 q1 (N q1 - 1) (by omega)).2.2.2.1
          rw [← e, hp] at g4
          exact nI_m1 (by omega) g4.symm)]
        exact g3
    · have g4 := (h7 q m hm).2.2.2.1
      rw [e, hp] at g4
      exact absurd g4.symm (nI_m1 (by have := (h7 q m hm).2.1; omega))
/-- into the cup -/
theorem mov_cup {r b v : Nat → Int32} {N : Nat → Nat} {W : Nat → Nat → Nat} {S : Nat → Nat} {n : Nat} (h : SG r b (cutv b v (S 0)) N W S n) : Rc (mov1 r b v (S 0) (nI 84)) N W ∧ Rl (mov1 r b v (S 0) (nI 84)) (mov2 r b v (S 0) (nI 84)) (mov3 r b v (S 0) (nI 84)) N W ∧ (∀ k, k < n → mov1 r b v (S 0) (nI 84) (S k) = -1) ∧ (∀ y, (∀ k, k < n → S k ≠ y) → mov1 r b v (S 0) (nI 84) y = r y) := by
  obtain ⟨a1, a2⟩ := h.cells (c := r) (x := -1)
  obtain ⟨h1, h2, h3, h4, h5, h6, h7, h8, h9, h10, h11⟩ := h
  have hA : ∀ w, w < 16 → (∃ k, k < n ∧ S k = w) ∨ r w = -1 ∨ ∃ q m, m < N q ∧ W q m = w := fun w hw => (h11 w hw).imp id (fun g => g.imp (fun g => g.1) id)
  have e1 : mov1 r b v (S 0) (nI 84) = scl (cutv b v (S 0)) (-1) 16 r (nI (S 0)) := by unfold mov1; rw [if_pos rfl]
  have hs := sep_P h3 h4 16 0 b (cutv b v (S 0)) (fun k _ hk => h5 k hk) (by omega)
  rw [if_pos (show 0 < n by omega)] at hs
  have e2 : mov2 r b v (S 0) (nI 84) = (sep 16 b (cutv b v (S 0)) (nI (S 0))).1 := by unfold mov2; rw [if_pos rfl]
  have e3 : mov3 r b v (S 0) (nI 84) = (sep 16 b (cutv b v (S 0)) (nI (S 0))).2 := by unfold mov3; rw [if_pos rfl]
  rw [e1, e2, e3]
  refine ⟨Rc_cup h7 h8 hA a1 (fun y _ hy => a2 y hy), ⟨fun q m hm => ?_, fun q m hm => ?_, fun w hw hp => ?_⟩, a1, a2⟩
  · rw [(hs.2 (W q m) (fun k _ hk e => (h7 q m hm).2.2.2.2 k hk e.symm)).1]
    exact h9 q m hm
  · rw [(hs.2 (W q m) (fun k _ hk e => (h7 q m hm).2.2.2.2 k hk e.symm)).2]
    exact h10 q m hm
  · rcases h11 w hw with ⟨k, hk, rfl⟩ | ⟨g1, g2, g3⟩ | ⟨q, m, hm, rfl⟩
    · exact hs.1 k (Nat.zero_le _) hk
    · by_cases hx : ∃ k, k < n ∧ S k = w
      · obtain ⟨k, hk, rfl⟩ := hx
        exact hs.1 k (Nat.zero_le _) hk
      · obtain ⟨i1, i2⟩ := hs.2 w (fun k _ hk e => hx ⟨k, hk, e⟩)
        rw [i1, i2]
        exact ⟨g2, g3⟩
    · rw [a2 _ (fun k hk e => (h7 q m hm).2.2.2.2 k hk e.symm), (h7 q m hm).2.2.2.1] at hp
      exact absurd hp (nI_m1 (by have := (h7 q m hm).2.1; omega))
