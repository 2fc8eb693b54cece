/-! PILES: N q winks lie on the cell q, W q i the one at the place i from the bottom -/
theorem nI_m1 {n : Nat} (h : n < 2 ^ 31) : nI n ≠ -1 := fun e => by
  have h1 : (nI n).toInt = (n : Int) := nI_toInt h
  rw [e] at h1
  have h2 : (-1 : Int32).toInt = -1 := by decide
  omega
theorem cnt_zero {p : Nat → Bool} : ∀ {n : Nat}, (∀ k, k < n → p k = false) → cnt p n = 0
  | 0, _ => rfl
  | n + 1, h => by
    simp only [cnt]
    rw [if_neg (by rw [h n (Nat.lt_succ_self n)]; decide), cnt_zero (fun k hk => h k (Nat.lt_succ_of_lt hk))]
theorem cnt_del {p : Nat → Bool} {a : Nat} : ∀ n, a < n → p a = true → cnt p n = cnt (fun w => p w && !(decide (w = a))) n + 1
  | 0, h, _ => absurd h (Nat.not_lt_zero _)
  | n + 1, h, hp => by
    simp only [cnt]
    by_cases e : n = a
    · subst e
      have h1 : cnt p n = cnt (fun w => p w && !(decide (w = n))) n := cnt_cong (fun k hk => by simp [Nat.ne_of_lt hk])
      simp [hp, h1]
    · have ih := cnt_del n (by omega) hp
      have h1 : (p n && !(decide (n = a))) = p n := by simp [e]
      by_cases hpn : p n = true
      · rw [if_pos hpn, if_pos (by rw [h1]; exact hpn)]; omega
      · rw [if_neg hpn, if_neg (by rw [h1]; exact hpn)]; exact ih
theorem cnt_w {n : Nat} {W : Nat → Nat} : ∀ (m : Nat) {p : Nat → Bool}, (∀ i, i < m → W i < n ∧ p (W i) = true) → (∀ w, w < n → p w = true → ∃ i, i < m ∧ W i = w) → (∀ i j, i < m → j < m → W i = W j → i = j) → cnt p n = m
  | 0, p, _, h2, _ => cnt_zero (fun k hk => by
    by_cases h : p k = true
    · obtain ⟨i, hi, -⟩ := h2 k hk h
      exact absurd hi (Nat.not_lt_zero _)
    · simpa using h)
  | m + 1, p, h1, h2, h3 => by
    obtain ⟨g1, g2⟩ := h1 m (Nat.lt_succ_self m)
    rw [cnt_del n g1 g2]
    have ih := cnt_w (n := n) (W := W) m (p := fun w => p w && !(decide (w = W m))) (fun i hi => ⟨(h1 i (by omega)).1, by
      have hne : W i ≠ W m := fun e => by have := h3 i m (by omega) (by omega) e; omega
      simp [(h1 i (by omega)).2, hne]⟩) (fun w hw hp => by
      simp only [Bool.and_eq_true, Bool.not_eq_true', decide_eq_false_iff_not] at hp
      obtain ⟨i, hi, rfl⟩ := h2 w hw hp.1
      have hne : i ≠ m := fun e => hp.2 (by rw [e])
      exact ⟨i, by omega, rfl⟩) (fun i j hi hj e => h3 i j (by omega) (by omega) e)
    rw [ih]
theorem fst_u {p : Nat → Bool} {w : Nat} : ∀ n i, i ≤ w → w < i + n → p w = true → (∀ k, i ≤ k → k < i + n → p k = true → k = w) → fst p n i = nI w
  | 0, i, h1, h2, _, _ => by omega
  | n + 1, i, h1, h2, h3, h4 => by
    simp only [fst]
    by_cases hp : p i = true
    · rw [if_pos hp, h4 i (Nat.le_refl i) (by omega) hp]
    · rw [if_neg hp]
      have hne : i ≠ w := fun e => hp (by rw [e]; exact h3)
      exact fst_u n (i + 1) (by omega) (by omega) h3 (fun k hk hk2 => h4 k (by omega) (by omega))
theorem fst_n {p : Nat → Bool} : ∀ n i, (∀ k, i ≤ k → k < i + n → p k = false) → fst p n i = -1
  | 0, _, _ => rfl
  | n + 1, i, h => by
    simp only [fst]
    rw [if_neg (by rw [h i (Nat.le_refl i) (by omega)]; decide)]
    exact fst_n n (i + 1) (fun k hk hk2 => h k (by omega) (by omega))
/-- the cells -/
def Rc (c : Nat → Int32) (N : Nat → Nat) (W : Nat → Nat → Nat) : Prop :=
  (∀ q i, i < N q → W q i < 16 ∧ q < 169 ∧ q ≠ 84 ∧ c (W q i) = nI q) ∧ (∀ q i j, i < N q → j < N q → W q i = W q j → i = j) ∧ (∀ w, w < 16 → c w = -1 ∨ ∃ q i, i < N q ∧ W q i = w)
/-- the links -/
def Rl (c b v : Nat → Int32) (N : Nat → Nat) (W : Nat → Nat → Nat) : Prop :=
  (∀ q i, i < N q → b (W q i) = if i = 0 then -1 else nI (W q (i - 1))) ∧ (∀ q i, i < N q → v (W q i) = if i + 1 < N q then nI (W q (i + 1)) else -1) ∧ (∀ w, w < 16 → c w = -1 → b w = -1 ∧ v w = -1)
/-- the places -/
def Rp (r : Nat → Int32) (N : Nat → Nat) (W : Nat → Nat → Nat) : Prop := (∀ q i, i < N q → r (16 + W q i) = nI i) ∧ (∀ w, w < 16 → r w = -1 → r (16 + w) = -1)
section PL
variable {c b v r : Nat → Int32} {N : Nat → Nat} {W : Nat → Nat → Nat}
theorem Rc.cell (h : Rc c N W) {q w : Nat} (hq : q < 2 ^ 31) (hw : w < 16) (hc : c w = nI q) : ∃ i, i < N q ∧ W q i = w := by
  rcases h.2.2 w hw with h1 | ⟨q', i, h1, h2⟩
  · rw [h1] at hc; exact absurd hc.symm (nI_m1 hq)
  · obtain ⟨-, g2, -, g4⟩ := h.1 q' i h1
    rw [h2, hc] at g4
    have := nI_inj hq (by omega) g4
    subst this
    exact ⟨i, h1, h2⟩
theorem Rc.hgtN (h : Rc c N W) {q : Nat} (hq : q < 2 ^ 31) : hgt c (nI q) = N q := by
  unfold hgt
  exact cnt_w (W := W q) (N q) (fun i hi => ⟨(h.1 q i hi).1, by simp [(h.1 q i hi).2.2.2]⟩) (fun w hw hp => h.cell hq hw (by simpa using hp)) (fun i j hi hj e => h.2.1 q i j hi hj e)
theorem Rc.le (h : Rc c N W) {q : Nat} (hq : q < 2 ^ 31) : N q ≤ 16 := by rw [← h.hgtN hq]; exact hgt_le _ _
theorem Rc.q (h : Rc c N W) {q i : Nat} (hi : i < N q) : q < 169 := (h.1 q i hi).2.1
theorem Rc.i (h : Rc c N W) {q i : Nat} (hi : i < N q) : i < 16 := Nat.lt_of_lt_of_le hi (h.le (by have := h.q hi; omega))
theorem Rc.potN (h : Rc c N W) {q i : Nat} (hi : i < N q) : pot c (W q i) = false := by
  unfold pot
  rw [(h.1 q i hi).2.2.2]
  simp [nI_m1 (show q < 2 ^ 31 by have := h.q hi; omega)]
theorem Rc.no (h : Rc c N W) {q i w : Nat} (hi : i < N q) (hw : W q i = w) (hc : c w = -1) : False := by
  have := (h.1 q i hi).2.2.2
  rw [hw, hc] at this
  exact nI_m1 (show q < 2 ^ 31 by have := h.q hi; omega) this.symm
theorem Rc.one (h : Rc c N W) {q i q' j : Nat} (hi : i < N q) (hj : j < N q') (e : W q i = W q' j) : q = q' ∧ i = j := by
  have h1 := (h.1 q i hi).2.2.2
  have h2 := (h.1 q' j hj).2.2.2
  rw [e, h2] at h1
  have := nI_inj (by have := h.q hj; omega) (by have := h.q hi; omega) h1
  subst this
  exact ⟨rfl, h.2.1 _ _ _ hi hj e⟩
theorem Rl.topv (h : Rc c N W) (hl : Rl c b v N W) {q : Nat} (hq : q < 2 ^ 31) : top c v (nI q) = if N q = 0 then -1 else nI (W q (N q - 1)) := by
  unfold top
  by_cases h0 : N q = 0
  · rw [if_pos h0]
    refine fst_n 16 0 (fun k _ hk => ?_)
    unfold tpq
    by_cases hc : c k = nI q
    · obtain ⟨i, hi, -⟩ := h.cell hq (by omega) hc
      omega
    · simp [hc]
  · rw [if_neg h0]
    have hlt : N q - 1 < N q := by omega
    refine fst_u 16 0 (Nat.zero_le _) (by have := (h.1 q _ hlt).1; omega) ?_ (fun k _ hk hp => ?_)
    · unfold tpq
      rw [(h.1 q _ hlt).2.2.2, hl.2.1 q _ hlt, if_neg (by omega)]
      simp
    · unfold tpq at hp
      simp only [Bool.and_eq_true, decide_eq_true_eq] at hp
      obtain ⟨i, hi, rfl⟩ := h.cell hq (by omega) hp.1
      have h2 := hl.2.1 q i hi
      rw [hp.2] at h2
      by_cases h3 : i + 1 < N q
      · rw [if_pos h3] at h2
        exact absurd h2.symm (nI_m1 (by have := (h.1 q _ h3).1; omega))
      · rw [show i = N q - 1 by omega]
theorem Rl.topb (h : Rc c N W) (hl : Rl c b v N W) {q : Nat} (hq : q < 2 ^ 31) : top c b (nI q) = if N q = 0 then -1 else nI (W q 0) := by
  unfold top
  by_cases h0 : N q = 0
  · rw [if_pos h0]
    refine fst_n 16 0 (fun k _ hk => ?_)
    unfold tpq
    by_cases hc : c k = nI q
    · obtain ⟨i, hi, -⟩ := h.cell hq (by omega) hc
      omega
    · simp [hc]
  · rw [if_neg h0]
    have hlt : 0 < N q := by omega
    refine fst_u 16 0 (Nat.zero_le _) (by have := (h.1 q _ hlt).1; omega) ?_ (fun k _ hk hp => ?_)
    · unfold tpq
      rw [(h.1 q _ hlt).2.2.2, hl.1 q _ hlt, if_pos rfl]
      simp
    · unfold tpq at hp
      simp only [Bool.and_eq_true, decide_eq_true_eq] at hp
      obtain ⟨i, hi, rfl⟩ := h.cell hq (by omega) hp.1
      have h2 := hl.1 q i hi
      rw [hp.2] at h2
      by_cases h3 : i = 0
      · rw [h3]
      · rw [if_neg h3] at h2
        exact absurd h2.symm (nI_m1 (by have := (h.1 q (i - 1) (by omega)).1; omega))
theorem Rp.watN (h : Rc r N W) (hp : Rp r N W) {q i : Nat} (hq : q < 2 ^ 31) (hi : i < 2 ^ 31) : wat r (nI q) (nI i) = if i < N q then nI (W q i) else -1 := by
  have key : ∀ k, k < 16 → rwt r (nI q) (nI i) k = true → i < N q ∧ W q i = k := by
    intro k hk hr
    unfold rwt at hr
    simp only [Bool.and_eq_true, decide_eq_true_eq] at hr
    obtain ⟨j, hj, rfl⟩ := h.cell hq hk hr.1
    have h2 := hp.1 q j hj
    rw [hr.2] at h2
    have := nI_inj hi (by have := h.i hj; omega) h2
    subst this
    exact ⟨hj, rfl⟩
  unfold wat
  by_cases h0 : i < N q
  · rw [if_pos h0]
    refine fst_u 16 0 (Nat.zero_le _) (by have := (h.1 q i h0).1; omega) ?_ (fun k _ hk hr => (key k (by omega) hr).2.symm)
    unfold rwt
    rw [(h.1 q i h0).2.2.2, hp.1 q i h0]
    simp
  · rw [if_neg h0]
    refine fst_n 16 0 (fun k _ hk => ?_)
    by_cases hr : rwt r (nI q) (nI i) k = true
    · exact absurd (key k (by omega) hr).1 h0
    · simpa using hr
theorem Rl.covN (h : Rc c N W) (hl : Rl c b v N W) {q i : Nat} (hi : i < N q) : cov v (W q i) = decide (i + 1 < N q) := by
  unfold cov
  rw [hl.2.1 q i hi]
  by_cases h3 : i + 1 < N q
  · rw [if_pos h3]
    simp [nI_m1 (show W q (i + 1) < 2 ^ 31 by have := (h.1 q _ h3).1; omega), h3]
  · rw [if_neg h3]
    simp [h3]
theorem Rp.rcvN (h : Rc r N W) (hp : Rp r N W) {q i : Nat} (hi : i < N q) : rcv r (W q i) = decide (i + 1 < N q) := by
  unfold rcv
  have hq := h.q hi
  rw [h.potN hi, (h.1 q i hi).2.2.2, h.hgtN (by omega), hp.1 q i hi, pk_sub (by omega)]
  have hle := h.le (q := q) (by omega)
  by_cases h3 : i + 1 < N q
  · have : ¬ nI (N q - 1) ≤ nI i := fun e => by
      have := (nI_leI (by omega) (by omega)).mp e
      omega
    simp [this, h3]
  · have : nI (N q - 1) ≤ nI i := (nI_leI (by omega) (by omega)).mpr (by omega)
    simp [this, h3]
theorem Rp.cov_rcv (h : Rc r N W) (hl : Rl r b v N W) (hp : Rp r N W) {w : Nat} (hw : w < 16) : cov v w = rcv r w := by
  rcases h.2.2 w hw with h1 | ⟨q, i, hi, rfl⟩
  · unfold cov rcv pot
    rw [(hl.2.2 w hw h1).2, h1]
    simp
  · rw [hl.covN h hi, hp.rcvN h hi]
theorem Rl.plcN (h : Rc c N W) (hl : Rl c b v N W) {q : Nat} : ∀ n i, i ≤ n → i ≤ N q → plc b n (if i = 0 then -1 else nI (W q (i - 1))) = i
  | 0, i, h1, _ => by
    have : i = 0 := by omega
    subst this
    rfl
  | n + 1, i, h1, h2 => by
    simp only [plc]
    by_cases h0 : i = 0
    · subst h0
      rw [if_pos rfl, if_neg (by rw [wk_m1]; decide)]
    · rw [if_neg h0]
      have hlt : i - 1 < N q := by omega
      have hw := (h.1 q _ hlt).1
      rw [if_pos (wk_nI hw), ix_nI (by omega), hl.1 q _ hlt, Rl.plcN h hl n (i - 1) (by omega) (by omega)]
      omega
theorem Rp.plsN (h : Rc r N W) (hl : Rl r b v N W) (hp : Rp r N W) {w : Nat} (hw : w < 16) : pls r b w = r (16 + w) := by
  unfold pls
  rcases h.2.2 w hw with h1 | ⟨q, i, hi, rfl⟩
  · rw [if_pos h1, hp.2 w hw h1]
  · rw [if_neg (fun e => h.no hi rfl e), hl.1 q i hi, hl.plcN h 16 i (by have := h.i hi; omega) (by omega), hp.1 q i hi]
theorem Rp.botN (h : Rc r N W) (hl : Rl r b v N W) (hp : Rp r N W) {w : Nat} (hw : w < 16) : bot r b w = decide (r (16 + w) = 0) := by
  unfold bot
  rcases h.2.2 w hw with h1 | ⟨q, i, hi, rfl⟩
  · rw [h1, hp.2 w hw h1, show decide ((-1 : Int32) = 0) = false by decide]
    simp
  · have hne : r (W q i) ≠ -1 := fun e => h.no hi rfl e
    rw [hl.1 q i hi, hp.1 q i hi]
    by_cases h0 : i = 0
    · subst h0
      simp [hne, nI_0]
    · rw [if_neg h0]
      have h1 := (h.1 q (i - 1) (by omega)).1
      have h2 : ¬ nI i = 0 := nI_ne0 (by omega) (by have := h.i hi; omega)
      simp [nI_m1 (show W q (i - 1) < 2 ^ 31 by omega), h2]
theorem Rl.louN (h : Rc c N W) (hl : Rl c b v N W) {q : Nat} : ∀ k j, j < N q → lou b k (nI (W q j)) = if k ≤ j then nI (W q (j - k)) else -1
  | 0, j, hj => by rw [if_pos (Nat.zero_le _)]; rfl
  | k + 1, j, hj => by
    simp only [lou]
    have hw := (h.1 q _ hj).1
    rw [if_pos (wk_nI hw), ix_nI (by omega), hl.1 q _ hj]
    by_cases h0 : j = 0
    · subst h0
      rw [if_pos rfl, if_neg (by omega)]
      cases k with
      | zero => rfl
      | succ k => simp only [lou]; rw [if_neg (by rw [wk_m1]; decide)]
    · rw [if_neg h0, Rl.louN h hl k (j - 1) (by omega)]
      by_cases h3 : k + 1 ≤ j
      · rw [if_pos (by omega), if_pos h3, show j - 1 - k = j - (k + 1) by omega]
      · rw [if_neg (by omega), if_neg h3]
theorem lou_m1 {b : Nat → Int32} : ∀ k, lou b k (-1) = -1
  | 0 => rfl
  | k + 1 => by simp only [lou]; rw [if_neg (by rw [wk_m1]; decide)]
theorem Rl.lowN (h : Rc c N W) (hl : Rl c b v N W) {q n : Nat} (hq : q < 2 ^ 31) (hn : 1 ≤ n) : low c b v (nI q) n = if n ≤ N q then nI (W q (N q - n)) else -1 := by
  unfold low
  rw [hl.topv h hq]
  by_cases h0 : N q = 0
  · rw [if_pos h0, if_neg (by omega), lou_m1]
  · rw [if_neg h0, hl.louN h _ _ (by omega)]
    by_cases h3 : n ≤ N q
    · rw [if_pos (by omega), if_pos h3, show N q - 1 - (n - 1) = N q - n by omega]
    · rw [if_neg (by omega), if_neg h3]
theorem Rl.lblN (h : Rc c N W) (hl : Rl c b v N W) {q k : Nat} : ∀ n j, N q ≤ j + n → (lbl v k n (if j < N q then nI (W q j) else -1) = true ↔ ∃ m, j ≤ m ∧ m < N q ∧ W q m / 4 = k)
  | 0, j, hn => by
    simp only [lbl]
    constructor
    · intro h; cases h
    · rintro ⟨m, h1, h2, -⟩; omega
  | n + 1, j, hn => by
    simp only [lbl]
    by_cases hj : j < N q
    · rw [if_pos hj]
      have hw := (h.1 q _ hj).1
      rw [if_pos (wk_nI hw), ix_nI (by omega), hl.2.1 q _ hj]
      by_cases hk : W q j / 4 = k
      · rw [if_pos hk]
        exact ⟨fun _ => ⟨j, Nat.le_refl j, hj, hk⟩, fun _ => rfl⟩
      · rw [if_neg hk, Rl.lblN h hl n (j + 1) (by omega)]
        constructor
        · rintro ⟨m, h1, h2, h3⟩; exact ⟨m, by omega, h2, h3⟩
        · rintro ⟨m, h1, h2, h3⟩
          refine ⟨m, ?_, h2, h3⟩
          by_cases e : m = j
          · rw [e] at h3; exact absurd h3 hk
          · omega
    · rw [if_neg hj, if_neg (by rw [wk_m1]; decide)]
      constructor
      · intro h; cases h
      · rintro ⟨m, h1, h2, -⟩; omega
theorem rbo_iff {r : Nat → Int32} {k w : Nat} : ∀ n, (rbo r k w n = true ↔ ∃ m, m < n ∧ rbw r w (4 * k + m) = true)
  | 0 => by
    simp only [rbo]
    constructor
    · intro h; cases h
    · rintro ⟨m, h, -⟩; omega
  | n + 1 => by
    simp only [rbo]
    by_cases h : rbo r k w n = true
    · rw [if_pos h]
      obtain ⟨m, h1, h2⟩ := (rbo_iff n).mp h
      exact ⟨fun _ => ⟨m, by omega, h2⟩, fun _ => rfl⟩
    · rw [if_neg h]
      constructor
      · intro h2; exact ⟨n, by omega, h2⟩
      · rintro ⟨m, h1, h2⟩
        by_cases e : m = n
        · rw [← e]; exact h2
        · exact absurd ((rbo_iff n).mpr ⟨m, by omega, h2⟩) h
theorem Rp.othN (h : Rc r N W) (hl : Rl r b v N W) (hp : Rp r N W) {w k : Nat} (hw : w < 16) (hk : k < 4) : oth v k w = (rbo r k w 4 && !(decide (w / 4 = k))) := by
  unfold oth
  rw [Bool.and_comm]
  congr 1
  rw [Bool.eq_iff_iff, rbo_iff]
  rcases h.2.2 w hw with h1 | ⟨q, i, hi, rfl⟩
  · rw [(hl.2.2 w hw h1).2]
    constructor
    · intro h; simp only [lbl] at h; rw [if_neg (by rw [wk_m1]; decide)] at h; cases h
    · rintro ⟨m, h2, h3⟩
      unfold rbw pot at h3
      rw [h1] at h3
      simp at h3
  · rw [hl.2.1 q i hi, hl.lblN h 16 (i + 1) (by have := h.le (q := q) (by have := h.q hi; omega); omega)]
    constructor
    · rintro ⟨m, h1, h2, h3⟩
      refine ⟨W q m - 4 * k, by have := (h.1 q m h2).1; omega, ?_⟩
      rw [show 4 * k + (W q m - 4 * k) = W q m by omega]
      unfold rbw
      rw [h.potN hi, (h.1 q m h2).2.2.2, (h.1 q i hi).2.2.2, hp.1 q m h2, hp.1 q i hi]
      have : ¬ nI m ≤ nI i := fun e => by
        have := (nI_leI (by have := h.i h2; omega) (by have := h.i hi; omega)).mp e
        omega
      simp [this]
    · rintro ⟨m, h1, h2⟩
      unfold rbw at h2
      rw [h.potN hi, (h.1 q i hi).2.2.2] at h2
      simp only [Bool.not_false, Bool.true_and, Bool.and_eq_true, decide_eq_true_eq, Bool.not_eq_true', decide_eq_false_iff_not] at h2
      obtain ⟨j, hj, hj2⟩ := h.cell (by have := h.q hi; omega) (show 4 * k + m < 16 by omega) h2.1
      refine ⟨j, ?_, hj, by rw [hj2]; omega⟩
      have h4 := h2.2
      rw [← hj2, hp.1 q j hj, hp.1 q i hi] at h4
      by_cases e : i + 1 ≤ j
      · exact e
      · exact absurd ((nI_leI (by have := h.i hj; omega) (by have := h.i hi; omega)).mpr (by omega)) h4
end PL
