/-! from cache -/
section
/-! the class's cache of fewest flights, and the two digests -/
theorem fwr_un {w q n m : Nat} (h1 : fwr w q n) (h2 : fwr w q m) : n = m := by
  rcases h1 with ⟨rfl, a⟩ | ⟨rfl, a, -⟩ <;> rcases h2 with ⟨rfl, b⟩ | ⟨rfl, b, -⟩
  · rfl
  · exact absurd a b
  · exact absurd b a
  · rfl
theorem stp_sz {w w' : Nat} (h : w % 4 < 2 ↔ w' % 4 < 2) (f : Nat) : stp w f = stp w' f := by
  unfold stp
  by_cases h1 : w % 4 < 2
  · rw [if_pos h1, if_pos (h.mp h1)]
  · rw [if_neg h1, if_neg (fun q => h1 (h.mpr q))]
theorem fwr_sz {w w' q n : Nat} (h : w % 4 < 2 ↔ w' % 4 < 2) (hf : fwr w q n) : fwr w' q n := by
  have e : ∀ c k, ldk w c k = ldk w' c k := fun c k => by unfold ldk; rw [stp_sz h]
  have e2 : ∀ c, dirp w c ↔ dirp w' c := fun c => by
    unfold dirp
    constructor
    · rintro ⟨k, h1, h2⟩; exact ⟨k, h1, by rw [← e]; exact h2⟩
    · rintro ⟨k, h1, h2⟩; exact ⟨k, h1, by rw [e]; exact h2⟩
  unfold fwr at *
  rcases hf with ⟨h1, h2⟩ | ⟨h1, h2, k, c1, h3, h4, h5, h6⟩
  · exact Or.inl ⟨h1, (e2 _).mp h2⟩
  · exact Or.inr ⟨h1, fun q => h2 ((e2 _).mpr q), k, c1, h3, h4, by rw [← e]; exact h5, (e2 _).mp h6⟩
abbrev kix (w q : Nat) : Nat := if decide (w % 4 < 2) = true then q else 169 + q
def KNa (a : Nat → Int32) : Prop := ∀ w q, w < 16 → q < 169 → a (kix w q) = 0 ∨ ∃ n, fwr w q n ∧ a (kix w q) = nI n
theorem KNa_0 {a : Nat → Int32} (h : ∀ i, i < 338 → a i = 0) : KNa a := fun w q _ hq => Or.inl (h _ (by unfold kix; split <;> omega))
theorem big_m (w : Nat) : (if decide (w % 4 < 2) = true then 0 else 1) = big w := by
  unfold big
  by_cases h : w % 4 < 2 <;> simp [h]
theorem few_ok {a d qq : Nat → Int32} {w q : Nat} (hK : KNa a) (hw : w < 16) (hq : q < 169) : ∃ n, fwr w q n ∧ (few a d qq q (decide (w % 4 < 2))).1 (kix w q) = nI n ∧ KNa (few a d qq q (decide (w % 4 < 2))).1 := by
  obtain ⟨n, hn⟩ := fwr_all w hq
  unfold few
  by_cases h0 : a (kix w q) = 0
  · rw [if_pos h0]
    have hs : (sea qq q (if decide (w % 4 < 2) = true then 0 else 1)).1 = nI n := sea_n w n (big_m w) hq hn
    refine ⟨n, hn, ?_, ?_⟩
    · show upd a (kix w q) _ (kix w q) = nI n
      rw [hs]
      exact upd_at9
    · intro w' q' hw' hq'
      show upd a (kix w q) _ (kix w' q') = 0 ∨ _
      by_cases e : kix w' q' = kix w q
      · have e3 : q' = q ∧ (w' % 4 < 2 ↔ w % 4 < 2) := by
          unfold kix at e
          by_cases g1 : w' % 4 < 2 <;> by_cases g2 : w % 4 < 2 <;> simp [g1, g2] at e ⊢ <;> omega
        refine Or.inr ⟨n, ?_, ?_⟩
        · rw [e3.1]; exact fwr_sz e3.2.symm hn
        · show upd a (kix w q) _ (kix w' q') = nI n
          rw [e, hs]
          exact upd_at9
      · rw [upd_ne9 e]
        rcases hK w' q' hw' hq' with g | ⟨n', g1, g2⟩
        · exact Or.inl g
        · refine Or.inr ⟨n', g1, ?_⟩
          show upd a (kix w q) _ (kix w' q') = nI n'
          rw [upd_ne9 e]; exact g2
  · rw [if_neg h0]
    rcases hK w q hw hq with g | ⟨n', g1, g2⟩
    · exact absurd g h0
    · exact ⟨n', g1, g2, hK⟩
theorem cRo_kn {r : Nat → Int32} {s : RSt} (hK : KNa s.1) (hc : ∀ w, w < 16 → pot r w = false → ix (r w) < 169) : ∀ w, w ≤ 16 → KNa (cRo r s w).1
  | 0, _ => hK
  | w + 1, h => by
    have ih := cRo_kn hK hc w (by omega)
    by_cases hp : pot r w = true
    · rw [cRo_p hp]; exact ih
    · have hp : pot r w = false := by simpa using hp
      rw [cRo_n hp]
      obtain ⟨n, -, -, h3⟩ := few_ok (d := (cRo r s w).2.1) (qq := (cRo r s w).2.2) ih (show w < 16 by omega) (hc w (by omega) hp)
      exact h3
theorem cFv_ok {r : Nat → Int32} {s : RSt} {nf : Nat → Nat} (hK : KNa s.1) (hnf : rNF r nf) {w : Nat} (hw : w < 16) : cFv r s w = rF9 r nf w := by
  unfold cFv rF9
  by_cases hp : pot r w = true
  · rw [if_pos hp, if_pos hp]
  · rw [if_neg hp, if_neg hp]
    have hp : pot r w = false := by simpa using hp
    obtain ⟨h1, h2, h3, h4⟩ := hnf w hw hp
    obtain ⟨n, g1, g2, -⟩ := few_ok (d := (cRo r s w).2.1) (qq := (cRo r s w).2.2) (cRo_kn hK (fun w' hw' hp' => (hnf w' hw' hp').2.1) w (by omega)) hw h2
    rw [fwr_un h4 g1]
    exact g2
theorem fo_congr {A B : Nat → Int32} {x : Int64} : ∀ n : Nat, (∀ k, k < n → A k = B k) → fo A n x = fo B n x
  | 0, _ => rfl
  | n + 1, h => by rw [fo, fo, fo_congr n (fun k hk => h k (by omega)), h n (by omega)]
theorem fo2_congr {A B : Nat → Nat → Int32} {n : Nat} {x : Int64} : ∀ m : Nat, (∀ i, i < m → ∀ k, k < n → A i k = B i k) → fo2 A n m x = fo2 B n m x
  | 0, _ => rfl
  | m + 1, h => by rw [fo2, fo2, fo2_congr m (fun i hi => h i (by omega)), fo_congr n (h m (by omega))]
theorem foP_congr {T U : Nat → Bool} {A B : Nat → Nat → Int32} {n : Nat} {x : Int64} : ∀ m : Nat, (∀ i, i < m → T i = U i) → (∀ i, i < m → T i = false → ∀ k, k < n → A i k = B i k) → foP T A n m x = foP U B n m x
  | 0, _, _ => rfl
  | m + 1, h, h2 => by
    have ih := foP_congr (x := x) m (fun i hi => h i (by omega)) (fun i hi => h2 i (by omega))
    have e := h m (by omega)
    by_cases ht : T m = true
    · rw [foP, foP, if_pos ht, if_pos (by rw [← e]; exact ht), ih]
    · have hf : T m = false := by simpa using ht
      rw [foP, foP, if_neg ht, if_neg (by rw [← e]; exact ht), ih, fo_congr n (h2 m (by omega) hf)]
theorem cwD_eq {r b v g : Nat → Int32} {t : Nat} {s : RSt} {nf : Nat → Nat} {h : Int64} (hK : KNa s.1) (hnf : rNF r nf) (hW : ∀ w, w < 16 → ∀ k, k < 7 → cWink r b v g t w (nI k) = aWink r w k) : ∀ w, w ≤ 16 → cwD r b v g t s w h = rwD r nf w h
  | 0, _ => rfl
  | w + 1, hw => by
    have ih := cwD_eq (h := h) hK hnf hW w (by omega)
    rw [cwD, rwD, ih, fo_congr 7 (hW w (by omega)), cFv_ok hK hnf (by omega)]
    rfl
theorem rNF_of {r : Nat → Int32} (h : ∀ w, w < 16 → pot r w = false → ∃ q, q < 169 ∧ q ≠ 84 ∧ r w = nI q) : ∃ nf, rNF r nf := by
  have hx : ∀ w, ∃ n, w < 16 → pot r w = false → fwr w (ix (r w)) n := by
    intro w
    by_cases hc : w < 16 ∧ pot r w = false
    · obtain ⟨q, h1, -, h3⟩ := h w hc.1 hc.2
      obtain ⟨n, hn⟩ := fwr_all w h1
      exact ⟨n, fun _ _ => by rw [h3]; show fwr w (nI q).toNatClampNeg n; rw [nI_clamp (by omega)]; exact hn⟩
    · exact ⟨0, fun h1 h2 => absurd ⟨h1, h2⟩ hc⟩
  refine ⟨fun w => Classical.choose (hx w), fun w hw hp => ?_⟩
  obtain ⟨q, h1, h2, h3⟩ := h w hw hp
  have e : ix (r w) = q := by rw [h3]; exact nI_clamp (by omega)
  exact ⟨by rw [e]; exact h3, by rw [e]; exact h1, by rw [e]; exact h2, Classical.choose_spec (hx w) hw hp⟩
end
/-! from piles -/
section
/-! PILES: N q winks lie on the cell q, W q i the one at the place i from the bottom -/
theorem nI_m1 {n : Nat} (h : n < 2 ^ 31) : nI n ≠ -1 := fun e => by
  have h1 : (nI n).toInt = (n : Int) := nI_toInt h
  rw [e] at h1
  have h2 : (-1 : Int32).toInt = -1 := by decide
  omega
theorem cnt_zero {p : Nat → Bool} : ∀ {n : Nat}, (∀ k, k < n → p k = false) → cnt p n = 0
  | 0, _ => rfl
  | n + 1, h => by
    simp only [cnt]
    rw [if_neg (by rw [h n (Nat.lt_succ_self n)]; decide), cnt_zero (fun k hk => h k (Nat.lt_succ_of_lt hk))]
theorem cnt_del {p : Nat → Bool} {a : Nat} : ∀ n, a < n → p a = true → cnt p n = cnt (fun w => p w && !(decide (w = a))) n + 1
  | 0, h, _ => absurd h (Nat.not_lt_zero _)
  | n + 1, h, hp => by
    simp only [cnt]
    by_cases e : n = a
    · subst e
      have h1 : cnt p n = cnt (fun w => p w && !(decide (w = n))) n := cnt_cong (fun k hk => by simp [Nat.ne_of_lt hk])
      simp [hp, h1]
    · have ih := cnt_del n (by omega) hp
      have h1 : (p n && !(decide (n = a))) = p n := by simp [e]
      by_cases hpn : p n = true
      · rw [if_pos hpn, if_pos (by rw [h1]; exact hpn)]; omega
      · rw [if_neg hpn, if_neg (by rw [h1]; exact hpn)]; exact ih
theorem cnt_w {n : Nat} {W : Nat → Nat} : ∀ (m : Nat) {p : Nat → Bool}, (∀ i, i < m → W i < n ∧ p (W i) = true) → (∀ w, w < n → p w = true → ∃ i, i < m ∧ W i = w) → (∀ i j, i < m → j < m → W i = W j → i = j) → cnt p n = m
  | 0, p, _, h2, _ => cnt_zero (fun k hk => by
    by_cases h : p k = true
    · obtain ⟨i, hi, -⟩ := h2 k hk h
      exact absurd hi (Nat.not_lt_zero _)
    · simpa using h)
  | m + 1, p, h1, h2, h3 => by
    obtain ⟨g1, g2⟩ := h1 m (Nat.lt_succ_self m)
    rw [cnt_del n g1 g2]
    have ih := cnt_w (n := n) (W := W) m (p := fun w => p w && !(decide (w = W m))) (fun i hi => ⟨(h1 i (by omega)).1, by
      have hne : W i ≠ W m := fun e => by have := h3 i m (by omega) (by omega) e; omega
      simp [(h1 i (by omega)).2, hne]⟩) (fun w hw hp => by
      simp only [Bool.and_eq_true, Bool.not_eq_true', decide_eq_false_iff_not] at hp
      obtain ⟨i, hi, rfl⟩ := h2 w hw hp.1
      have hne : i ≠ m := fun e => hp.2 (by rw [e])
      exact ⟨i, by omega, rfl⟩) (fun i j hi hj e => h3 i j (by omega) (by omega) e)
    rw [ih]
theorem fst_u {p : Nat → Bool} {w : Nat} : ∀ n i, i ≤ w → w < i + n → p w = true → (∀ k, i ≤ k → k < i + n → p k = true → k = w) → fst p n i = nI w
  | 0, i, h1, h2, _, _ => by omega
  | n + 1, i, h1, h2, h3, h4 => by
    simp only [fst]
    by_cases hp : p i = true
    · rw [if_pos hp, h4 i (Nat.le_refl i) (by omega) hp]
    · rw [if_neg hp]
      have hne : i ≠ w := fun e => hp (by rw [e]; exact h3)
      exact fst_u n (i + 1) (by omega) (by omega) h3 (fun k hk hk2 => h4 k (by omega) (by omega))
theorem fst_n {p : Nat → Bool} : ∀ n i, (∀ k, i ≤ k → k < i + n → p k = false) → fst p n i = -1
  | 0, _, _ => rfl
  | n + 1, i, h => by
    simp only [fst]
    rw [if_neg (by rw [h i (Nat.le_refl i) (by omega)]; decide)]
    exact fst_n n (i + 1) (fun k hk hk2 => h k (by omega) (by omega))
/-- the cells -/
def Rc (c : Nat → Int32) (N : Nat → Nat) (W : Nat → Nat → Nat) : Prop :=
  (∀ q i, i < N q → W q i < 16 ∧ q < 169 ∧ q ≠ 84 ∧ c (W q i) = nI q) ∧ (∀ q i j, i < N q → j < N q → W q i = W q j → i = j) ∧ (∀ w, w < 16 → c w = -1 ∨ ∃ q i, i < N q ∧ W q i = w)
/-- the links -/
def Rl (c b v : Nat → Int32) (N : Nat → Nat) (W : Nat → Nat → Nat) : Prop :=
  (∀ q i, i < N q → b (W q i) = if i = 0 then -1 else nI (W q (i - 1))) ∧ (∀ q i, i < N q → v (W q i) = if i + 1 < N q then nI (W q (i + 1)) else -1) ∧ (∀ w, w < 16 → c w = -1 → b w = -1 ∧ v w = -1)
/-- the places -/
def Rp (r : Nat → Int32) (N : Nat → Nat) (W : Nat → Nat → Nat) : Prop := (∀ q i, i < N q → r (16 + W q i) = nI i) ∧ (∀ w, w < 16 → r w = -1 → r (16 + w) = -1)
section PL
variable {c b v r : Nat → Int32} {N : Nat → Nat} {W : Nat → Nat → Nat}
theorem Rc.cell (h : Rc c N W) {q w : Nat} (hq : q < 2 ^ 31) (hw : w < 16) (hc : c w = nI q) : ∃ i, i < N q ∧ W q i = w := by
  rcases h.2.2 w hw with h1 | ⟨q', i, h1, h2⟩
  · rw [h1] at hc; exact absurd hc.symm (nI_m1 hq)
  · obtain ⟨-, g2, -, g4⟩ := h.1 q' i h1
    rw [h2, hc] at g4
    have := nI_inj hq (by omega) g4
    subst this
    exact ⟨i, h1, h2⟩
theorem Rc.hgtN (h : Rc c N W) {q : Nat} (hq : q < 2 ^ 31) : hgt c (nI q) = N q := by
  unfold hgt
  exact cnt_w (W := W q) (N q) (fun i hi => ⟨(h.1 q i hi).1, by simp [(h.1 q i hi).2.2.2]⟩) (fun w hw hp => h.cell hq hw (by simpa using hp)) (fun i j hi hj e => h.2.1 q i j hi hj e)
theorem Rc.le (h : Rc c N W) {q : Nat} (hq : q < 2 ^ 31) : N q ≤ 16 := by rw [← h.hgtN hq]; exact hgt_le _ _
theorem Rc.q (h : Rc c N W) {q i : Nat} (hi : i < N q) : q < 169 := (h.1 q i hi).2.1
theorem Rc.i (h : Rc c N W) {q i : Nat} (hi : i < N q) : i < 16 := Nat.lt_of_lt_of_le hi (h.le (by have := h.q hi; omega))
theorem Rc.potN (h : Rc c N W) {q i : Nat} (hi : i < N q) : pot c (W q i) = false := by
  unfold pot
  rw [(h.1 q i hi).2.2.2]
  simp [nI_m1 (show q < 2 ^ 31 by have := h.q hi; omega)]
theorem Rc.no (h : Rc c N W) {q i w : Nat} (hi : i < N q) (hw : W q i = w) (hc : c w = -1) : False := by
  have := (h.1 q i hi).2.2.2
  rw [hw, hc] at this
  exact nI_m1 (show q < 2 ^ 31 by have := h.q hi; omega) this.symm
theorem Rc.one (h : Rc c N W) {q i q' j : Nat} (hi : i < N q) (hj : j < N q') (e : W q i = W q' j) : q = q' ∧ i = j := by
  have h1 := (h.1 q i hi).2.2.2
  have h2 := (h.1 q' j hj).2.2.2
  rw [e, h2] at h1
  have := nI_inj (by have := h.q hj; omega) (by have := h.q hi; omega) h1
  subst this
  exact ⟨rfl, h.2.1 _ _ _ hi hj e⟩
theorem Rl.topv (h : Rc c N W) (hl : Rl c b v N W) {q : Nat} (hq : q < 2 ^ 31) : top c v (nI q) = if N q = 0 then -1 else nI (W q (N q - 1)) := by
  unfold top
  by_cases h0 : N q = 0
  · rw [if_pos h0]
    refine fst_n 16 0 (fun k _ hk => ?_)
    unfold tpq
    by_cases hc : c k = nI q
    · obtain ⟨i, hi, -⟩ := h.cell hq (by omega) hc
      omega
    · simp [hc]
  · rw [if_neg h0]
    have hlt : N q - 1 < N q := by omega
    refine fst_u 16 0 (Nat.zero_le _) (by have := (h.1 q _ hlt).1; omega) ?_ (fun k _ hk hp => ?_)
    · unfold tpq
      rw [(h.1 q _ hlt).2.2.2, hl.2.1 q _ hlt, if_neg (by omega)]
      simp
    · unfold tpq at hp
      simp only [Bool.and_eq_true, decide_eq_true_eq] at hp
      obtain ⟨i, hi, rfl⟩ := h.cell hq (by omega) hp.1
      have h2 := hl.2.1 q i hi
      rw [hp.2] at h2
      by_cases h3 : i + 1 < N q
      · rw [if_pos h3] at h2
        exact absurd h2.symm (nI_m1 (by have := (h.1 q _ h3).1; omega))
      · rw [show i = N q - 1 by omega]
theorem Rl.topb (h : Rc c N W) (hl : Rl c b v N W) {q : Nat} (hq : q < 2 ^ 31) : top c b (nI q) = if N q = 0 then -1 else nI (W q 0) := by
  unfold top
  by_cases h0 : N q = 0
  · rw [if_pos h0]
    refine fst_n 16 0 (fun k _ hk => ?_)
    unfold tpq
    by_cases hc : c k = nI q
    · obtain ⟨i, hi, -⟩ := h.cell hq (by omega) hc
      omega
    · simp [hc]
  · rw [if_neg h0]
    have hlt : 0 < N q := by omega
    refine fst_u 16 0 (Nat.zero_le _) (by have := (h.1 q _ hlt).1; omega) ?_ (fun k _ hk hp => ?_)
    · unfold tpq
      rw [(h.1 q _ hlt).2.2.2, hl.1 q _ hlt, if_pos rfl]
      simp
    · unfold tpq at hp
      simp only [Bool.and_eq_true, decide_eq_true_eq] at hp
      obtain ⟨i, hi, rfl⟩ := h.cell hq (by omega) hp.1
      have h2 := hl.1 q i hi
      rw [hp.2] at h2
      by_cases h3 : i = 0
      · rw [h3]
      · rw [if_neg h3] at h2
        exact absurd h2.symm (nI_m1 (by have := (h.1 q (i - 1) (by omega)).1; omega))
theorem Rp.watN (h : Rc r N W) (hp : Rp r N W) {q i : Nat} (hq : q < 2 ^ 31) (hi : i < 2 ^ 31) : wat r (nI q) (nI i) = if i < N q then nI (W q i) else -1 := by
  have key : ∀ k, k < 16 → rwt r (nI q) (nI i) k = true → i < N q ∧ W q i = k := by
    intro k hk hr
    unfold rwt at hr
    simp only [Bool.and_eq_true, decide_eq_true_eq] at hr
    obtain ⟨j, hj, rfl⟩ := h.cell hq hk hr.1
    have h2 := hp.1 q j hj
    rw [hr.2] at h2
    have := nI_inj hi (by have := h.i hj; omega) h2
    subst this
    exact ⟨hj, rfl⟩
  unfold wat
  by_cases h0 : i < N q
  · rw [if_pos h0]
    refine fst_u 16 0 (Nat.zero_le _) (by have := (h.1 q i h0).1; omega) ?_ (fun k _ hk hr => (key k (by omega) hr).2.symm)
    unfold rwt
    rw [(h.1 q i h0).2.2.2, hp.1 q i h0]
    simp
  · rw [if_neg h0]
    refine fst_n 16 0 (fun k _ hk => ?_)
    by_cases hr : rwt r (nI q) (nI i) k = true
    · exact absurd (key k (by omega) hr).1 h0
    · simpa using hr
theorem Rl.covN (h : Rc c N W) (hl : Rl c b v N W) {q i : Nat} (hi : i < N q) : cov v (W q i) = decide (i + 1 < N q) := by
  unfold cov
  rw [hl.2.1 q i hi]
  by_cases h3 : i + 1 < N q
  · rw [if_pos h3]
    simp [nI_m1 (show W q (i + 1) < 2 ^ 31 by have := (h.1 q _ h3).1; omega), h3]
  · rw [if_neg h3]
    simp [h3]
theorem Rp.rcvN (h : Rc r N W) (hp : Rp r N W) {q i : Nat} (hi : i < N q) : rcv r (W q i) = decide (i + 1 < N q) := by
  unfold rcv
  have hq := h.q hi
  rw [h.potN hi, (h.1 q i hi).2.2.2, h.hgtN (by omega), hp.1 q i hi, pk_sub (by omega)]
  have hle := h.le (q := q) (by omega)
  by_cases h3 : i + 1 < N q
  · have : ¬ nI (N q - 1) ≤ nI i := fun e => by
      have := (nI_leI (by omega) (by omega)).mp e
      omega
    simp [this, h3]
  · have : nI (N q - 1) ≤ nI i := (nI_leI (by omega) (by omega)).mpr (by omega)
    simp [this, h3]
theorem Rp.cov_rcv (h : Rc r N W) (hl : Rl r b v N W) (hp : Rp r N W) {w : Nat} (hw : w < 16) : cov v w = rcv r w := by
  rcases h.2.2 w hw with h1 | ⟨q, i, hi, rfl⟩
  · unfold cov rcv pot
    rw [(hl.2.2 w hw h1).2, h1]
    simp
  · rw [hl.covN h hi, hp.rcvN h hi]
theorem Rl.plcN (h : Rc c N W) (hl : Rl c b v N W) {q : Nat} : ∀ n i, i ≤ n → i ≤ N q → plc b n (if i = 0 then -1 else nI (W q (i - 1))) = i
  | 0, i, h1, _ => by
    have : i = 0 := by omega
    subst this
    rfl
  | n + 1, i, h1, h2 => by
    simp only [plc]
    by_cases h0 : i = 0
    · subst h0
      rw [if_pos rfl, if_neg (by rw [wk_m1]; decide)]
    · rw [if_neg h0]
      have hlt : i - 1 < N q := by omega
      have hw := (h.1 q _ hlt).1
      rw [if_pos (wk_nI hw), ix_nI (by omega), hl.1 q _ hlt, Rl.plcN h hl n (i - 1) (by omega) (by omega)]
      omega
theorem Rp.plsN (h : Rc r N W) (hl : Rl r b v N W) (hp : Rp r N W) {w : Nat} (hw : w < 16) : pls r b w = r (16 + w) := by
  unfold pls
  rcases h.2.2 w hw with h1 | ⟨q, i, hi, rfl⟩
  · rw [if_pos h1, hp.2 w hw h1]
  · rw [if_neg (fun e => h.no hi rfl e), hl.1 q i hi, hl.plcN h 16 i (by have := h.i hi; omega) (by omega), hp.1 q i hi]
theorem Rp.botN (h : Rc r N W) (hl : Rl r b v N W) (hp : Rp r N W) {w : Nat} (hw : w < 16) : bot r b w = decide (r (16 + w) = 0) := by
  unfold bot
  rcases h.2.2 w hw with h1 | ⟨q, i, hi, rfl⟩
  · rw [h1, hp.2 w hw h1, show decide ((-1 : Int32) = 0) = false by decide]
    simp
  · have hne : r (W q i) ≠ -1 := fun e => h.no hi rfl e
    rw [hl.1 q i hi, hp.1 q i hi]
    by_cases h0 : i = 0
    · subst h0
      simp [hne, nI_0]
    · rw [if_neg h0]
      have h1 := (h.1 q (i - 1) (by omega)).1
      have h2 : ¬ nI i = 0 := nI_ne0 (by omega) (by have := h.i hi; omega)
      simp [nI_m1 (show W q (i - 1) < 2 ^ 31 by omega), h2]
theorem Rl.louN (h : Rc c N W) (hl : Rl c b v N W) {q : Nat} : ∀ k j, j < N q → lou b k (nI (W q j)) = if k ≤ j then nI (W q (j - k)) else -1
  | 0, j, hj => by rw [if_pos (Nat.zero_le _)]; rfl
  | k + 1, j, hj => by
    simp only [lou]
    have hw := (h.1 q _ hj).1
    rw [if_pos (wk_nI hw), ix_nI (by omega), hl.1 q _ hj]
    by_cases h0 : j = 0
    · subst h0
      rw [if_pos rfl, if_neg (by omega)]
      cases k with
      | zero => rfl
      | succ k => simp only [lou]; rw [if_neg (by rw [wk_m1]; decide)]
    · rw [if_neg h0, Rl.louN h hl k (j - 1) (by omega)]
      by_cases h3 : k + 1 ≤ j
      · rw [if_pos (by omega), if_pos h3, show j - 1 - k = j - (k + 1) by omega]
      · rw [if_neg (by omega), if_neg h3]
theorem lou_m1 {b : Nat → Int32} : ∀ k, lou b k (-1) = -1
  | 0 => rfl
  | k + 1 => by simp only [lou]; rw [if_neg (by rw [wk_m1]; decide)]
theorem Rl.lowN (h : Rc c N W) (hl : Rl c b v N W) {q n : Nat} (hq : q < 2 ^ 31) (hn : 1 ≤ n) : low c b v (nI q) n = if n ≤ N q then nI (W q (N q - n)) else -1 := by
  unfold low
  rw [hl.topv h hq]
  by_cases h0 : N q = 0
  · rw [if_pos h0, if_neg (by omega), lou_m1]
  · rw [if_neg h0, hl.louN h _ _ (by omega)]
    by_cases h3 : n ≤ N q
    · rw [if_pos (by omega), if_pos h3, show N q - 1 - (n - 1) = N q - n by omega]
    · rw [if_neg (by omega), if_neg h3]
theorem Rl.lblN (h : Rc c N W) (hl : Rl c b v N W) {q k : Nat} : ∀ n j, N q ≤ j + n → (lbl v k n (if j < N q then nI (W q j) else -1) = true ↔ ∃ m, j ≤ m ∧ m < N q ∧ W q m / 4 = k)
  | 0, j, hn => by
    simp only [lbl]
    constructor
    · intro h; cases h
    · rintro ⟨m, h1, h2, -⟩; omega
  | n + 1, j, hn => by
    simp only [lbl]
    by_cases hj : j < N q
    · rw [if_pos hj]
      have hw := (h.1 q _ hj).1
      rw [if_pos (wk_nI hw), ix_nI (by omega), hl.2.1 q _ hj]
      by_cases hk : W q j / 4 = k
      · rw [if_pos hk]
        exact ⟨fun _ => ⟨j, Nat.le_refl j, hj, hk⟩, fun _ => rfl⟩
      · rw [if_neg hk, Rl.lblN h hl n (j + 1) (by omega)]
        constructor
        · rintro ⟨m, h1, h2, h3⟩; exact ⟨m, by omega, h2, h3⟩
        · rintro ⟨m, h1, h2, h3⟩
          refine ⟨m, ?_, h2, h3⟩
          by_cases e : m = j
          · rw [e] at h3; exact absurd h3 hk
          · omega
    · rw [if_neg hj, if_neg (by rw [wk_m1]; decide)]
      constructor
      · intro h; cases h
      · rintro ⟨m, h1, h2, -⟩; omega
theorem rbo_iff {r : Nat → Int32} {k w : Nat} : ∀ n, (rbo r k w n = true ↔ ∃ m, m < n ∧ rbw r w (4 * k + m) = true)
  | 0 => by
    simp only [rbo]
    constructor
    · intro h; cases h
    · rintro ⟨m, h, -⟩; omega
  | n + 1 => by
    simp only [rbo]
    by_cases h : rbo r k w n = true
    · rw [if_pos h]
      obtain ⟨m, h1, h2⟩ := (rbo_iff n).mp h
      exact ⟨fun _ => ⟨m, by omega, h2⟩, fun _ => rfl⟩
    · rw [if_neg h]
      constructor
      · intro h2; exact ⟨n, by omega, h2⟩
      · rintro ⟨m, h1, h2⟩
        by_cases e : m = n
        · rw [← e]; exact h2
        · exact absurd ((rbo_iff n).mpr ⟨m, by omega, h2⟩) h
theorem Rp.othN (h : Rc r N W) (hl : Rl r b v N W) (hp : Rp r N W) {w k : Nat} (hw : w < 16) (hk : k < 4) : oth v k w = (rbo r k w 4 && !(decide (w / 4 = k))) := by
  unfold oth
  rw [Bool.and_comm]
  congr 1
  rw [Bool.eq_iff_iff, rbo_iff]
  rcases h.2.2 w hw with h1 | ⟨q, i, hi, rfl⟩
  · rw [(hl.2.2 w hw h1).2]
    constructor
    · intro h; simp only [lbl] at h; rw [if_neg (by rw [wk_m1]; decide)] at h; cases h
    · rintro ⟨m, h2, h3⟩
      unfold rbw pot at h3
      rw [h1] at h3
      simp at h3
  · rw [hl.2.1 q i hi, hl.lblN h 16 (i + 1) (by have := h.le (q := q) (by have := h.q hi; omega); omega)]
    constructor
    · rintro ⟨m, h1, h2, h3⟩
      refine ⟨W q m - 4 * k, by have := (h.1 q m h2).1; omega, ?_⟩
      rw [show 4 * k + (W q m - 4 * k) = W q m by omega]
      unfold rbw
      rw [h.potN hi, (h.1 q m h2).2.2.2, (h.1 q i hi).2.2.2, hp.1 q m h2, hp.1 q i hi]
      have : ¬ nI m ≤ nI i := fun e => by
        have := (nI_leI (by have := h.i h2; omega) (by have := h.i hi; omega)).mp e
        omega
      simp [this]
    · rintro ⟨m, h1, h2⟩
      unfold rbw at h2
      rw [h.potN hi, (h.1 q i hi).2.2.2] at h2
      simp only [Bool.not_false, Bool.true_and, Bool.and_eq_true, decide_eq_true_eq, Bool.not_eq_true', decide_eq_false_iff_not] at h2
      obtain ⟨j, hj, hj2⟩ := h.cell (by have := h.q hi; omega) (show 4 * k + m < 16 by omega) h2.1
      refine ⟨j, ?_, hj, by rw [hj2]; omega⟩
      have h4 := h2.2
      rw [← hj2, hp.1 q j hj, hp.1 q i hi] at h4
      by_cases e : i + 1 ≤ j
      · exact e
      · exact absurd ((nI_leI (by have := h.i hj; omega) (by have := h.i hi; omega)).mpr (by omega)) h4
end PL
end
/-! from agree -/
section
/-! what both sides tell of one position -/
theorem bool_ff {b : Bool} (h : ¬ b = true) : b = false := by simpa using h
theorem Rp.wat0 {r : Nat → Int32} {N : Nat → Nat} {W : Nat → Nat → Nat} (h : Rc r N W) {q : Nat} (hq : q < 2 ^ 31) (h0 : N q = 0) (p : Int32) : wat r (nI q) p = -1 := by
  unfold wat
  refine fst_n 16 0 (fun k _ hk => ?_)
  unfold rwt
  by_cases hc : r k = nI q
  · obtain ⟨i, hi, -⟩ := h.cell hq (by omega) hc
    omega
  · simp [hc]
theorem Rp.top_wat {r b v : Nat → Int32} {N : Nat → Nat} {W : Nat → Nat → Nat} (h : Rc r N W) (hl : Rl r b v N W) (hp : Rp r N W) {q : Nat} (hq : q < 2 ^ 31) : top r v (nI q) = wat r (nI q) (nI (hgt r (nI q)) - nI 1) := by
  rw [hl.topv h hq, h.hgtN hq]
  have hle := h.le hq
  by_cases h0 : N q = 0
  · rw [if_pos h0, Rp.wat0 h hq h0]
  · rw [if_neg h0, pk_sub (by omega), hp.watN h hq (by omega), if_pos (by omega)]
theorem Rp.top_wat2 {r b v : Nat → Int32} {N : Nat → Nat} {W : Nat → Nat → Nat} (h : Rc r N W) (hl : Rl r b v N W) (hp : Rp r N W) {q : Nat} (hq : q < 2 ^ 31) : top r v (nI q) = wat r (nI q) (nI (hgt r (nI q) - 1)) := by
  rw [hl.topv h hq, h.hgtN hq]
  have hle := h.le hq
  by_cases h0 : N q = 0
  · rw [if_pos h0, Rp.wat0 h hq h0]
  · rw [if_neg h0, hp.watN h hq (by omega), if_pos (by omega)]
theorem Rp.bot_wat {r b v : Nat → Int32} {N : Nat → Nat} {W : Nat → Nat → Nat} (h : Rc r N W) (hl : Rl r b v N W) (hp : Rp r N W) {q : Nat} (hq : q < 2 ^ 31) : top r b (nI q) = wat r (nI q) (nI 0) := by
  rw [hl.topb h hq, hp.watN h hq (by decide)]
  by_cases h0 : N q = 0
  · rw [if_pos h0, if_neg (by omega)]
  · rw [if_neg h0, if_pos (by omega)]
/-- one position on both sides -/
def Pos (r b v g h j : Nat → Int32) (t : Nat) (u z : Int32) (N : Nat → Nat) (W : Nat → Nat → Nat) : Prop :=
  Rc r N W ∧ Rl r b v N W ∧ Rp r N W ∧ (∀ w, w < 16 → g w = r (32 + w)) ∧ (∀ i, i < 4 → h i = r (48 + i)) ∧ u = r 59 ∧ z = r 57 ∧ smi g 16 = r 58 ∧ t < 4 ∧ rTu r ∧ lo01 r ∧ (over r = false → nI t = r 56 ∧ r (52 + t) = nI 0 ∧ ∀ i, i < 4 → j i = r (52 + i))
theorem nI_ne {a b : Nat} (ha : a < 2 ^ 31) (hb : b < 2 ^ 31) (h : a ≠ b) : nI a ≠ nI b := fun e => h (nI_inj ha hb e)
section AG
variable {r b v g h j : Nat → Int32} {t : Nat} {u z : Int32} {N : Nat → Nat} {W : Nat → Nat → Nat}
theorem Pos.wnfN (H : Pos r b v g h j t u z N W) {w : Nat} (hw : w < 16) : wnf r v t w = rwn r w := by
  obtain ⟨hc, hl, hp, -, -, -, -, -, ht, -, -, ho⟩ := H
  unfold wnf rwn
  by_cases h1 : over r = true
  · rw [if_pos h1, if_pos h1]
  · rw [if_neg h1, if_neg h1, ← (ho (bool_ff h1)).1]
    by_cases h2 : w / 4 = t
    · rw [if_neg (fun q => q h2), hp.cov_rcv hc hl hw, if_pos (show nI t = nI (w / 4) by rw [h2])]
    · rw [if_pos h2, if_neg (nI_ne (by omega) (by omega) (fun e => h2 e.symm))]
theorem Pos.wink (H : Pos r b v g h j t u z N W) {w k : Nat} (hw : w < 16) (hk : k < 7) : cWink r b v g t w (nI k) = aWink r w k := by
  have hwn := H.wnfN hw
  obtain ⟨hc, hl, hp, hg, -, -, -, -, ht, -, -, ho⟩ := H
  unfold cWink aWink
  rcases (show k = 0 ∨ k = 1 ∨ k = 2 ∨ k = 3 ∨ k = 4 ∨ k = 5 ∨ k = 6 by omega) with rfl | rfl | rfl | rfl | rfl | rfl | rfl
  · rfl
  · rfl
  · rfl
  · exact hp.plsN hc hl hw
  · show bI (cov v w) = bI (rcv r w)
    rw [hp.cov_rcv hc hl hw]
  · exact hg w hw
  · show nI (wnf r v t w) = nI (rwn r w)
    rw [hwn]
theorem Pos.pile (H : Pos r b v g h j t u z N W) {q k : Nat} (hq : q < 169) (hk : k < 4) : cPile r b v (nI q) (nI k) = aPile r (nI q) k := by
  obtain ⟨hc, hl, hp, -⟩ := H
  unfold cPile aPile
  rcases (show k = 0 ∨ k = 1 ∨ k = 2 ∨ k = 3 by omega) with rfl | rfl | rfl | rfl
  · rfl
  · exact hp.top_wat hc hl (by omega)
  · exact hp.bot_wat hc hl (by omega)
  · rfl
theorem Pos.tt (H : Pos r b v g h j t u z N W) {q : Nat} (hq : q < 169) : decide (top r v (nI q) = -1) = decide (hgt r (nI q) = 0) := by
  obtain ⟨hc, hl, hp, -⟩ := H
  rw [hl.topv hc (by omega), hc.hgtN (by omega)]
  by_cases h0 : N q = 0
  · rw [if_pos h0]; simp [h0]
  · rw [if_neg h0]
    have := (hc.1 q (N q - 1) (by omega)).1
    simp [nI_m1 (show W q (N q - 1) < 2 ^ 31 by omega), h0]
theorem Pos.covcN (H : Pos r b v g h j t u z N W) {k : Nat} (hk : k < 4) : covc v k = rcc r k := by
  obtain ⟨hc, hl, hp, -⟩ := H
  exact cnt_cong (fun w hw => hp.cov_rcv hc hl (by omega))
theorem ptc_n {r b v : Nat → Int32} {N : Nat → Nat} {W : Nat → Nat → Nat} (hc : Rc r N W) (hl : Rl r b v N W) (hp : Rp r N W) {k : Nat} (hk : k < 4) : ∀ n, n ≤ 4 → sm (ptw r v k) n = 3 * cnt (fun w => decide (r (4 * k + w) = -1)) n + cnt (rfr r k) n
  | 0, _ => rfl
  | n + 1, hn => by
    simp only [sm, cnt]
    rw [ptc_n hc hl hp hk n (by omega)]
    unfold ptw
    have e1 : rfr r k n = (!(decide (r (4 * k + n) = -1)) && (!(cov v (4 * k + n)) && !(decide (r (4 * k + n) = nI (bs k))))) := by
      unfold rfr pot
      rw [hp.cov_rcv hc hl (show 4 * k + n < 16 by omega)]
    rw [e1]
    by_cases h1 : r (4 * k + n) = -1
    · simp [h1]; omega
    · by_cases h2 : cov v (4 * k + n) = true
      · simp [h1, h2]
      · by_cases h3 : r (4 * k + n) = nI (bs k)
        · have h4 : nI (bs k) ≠ -1 := fun e => h1 (h3.trans e)
          simp [h2, h3, h4]
        · simp [h1, h2, h3]; omega
theorem Pos.ptcN (H : Pos r b v g h j t u z N W) {k : Nat} (hk : k < 4) : ptc r v k = rpt r k := by
  obtain ⟨hc, hl, hp, -⟩ := H
  exact ptc_n hc hl hp hk 4 (Nat.le_refl 4)
theorem Pos.othN (H : Pos r b v g h j t u z N W) {k : Nat} (hk : k < 4) : cnt (oth v k) 16 = rbl r k := by
  obtain ⟨hc, hl, hp, -⟩ := H
  exact cnt_cong (fun w hw => hp.othN hc hl hw hk)
theorem Pos.colour (H : Pos r b v g h j t u z N W) {i k : Nat} (hi : i < 4) (hk : k < 7) (h5 : k = 5 → j i = r (52 + i)) : cCol r b v h j i (nI k) = aCol r i k := by
  have h1 := H.covcN hi
  have h2 := H.ptcN hi
  have h3 := H.othN hi
  obtain ⟨-, -, -, -, hh, -⟩ := H
  unfold cCol aCol
  rcases (show k = 0 ∨ k = 1 ∨ k = 2 ∨ k = 3 ∨ k = 4 ∨ k = 5 ∨ k = 6 by omega) with rfl | rfl | rfl | rfl | rfl | rfl | rfl
  · rfl
  · show nI (covc v i) = nI (rcc r i)
    rw [h1]
  · show nI 4 - nI (potc r i) - nI (covc v i) = nI 4 - nI (potc r i) - nI (rcc r i)
    rw [h1]
  · show nI (ptc r v i) = nI (rpt r i)
    rw [h2]
  · exact hh i hi
  · exact h5 rfl
  · show nI (cnt (oth v i) 16) = nI (rbl r i)
    rw [h3]
theorem Pos.why (H : Pos r b v g h j t u z N W) {x y f d : Nat} (hx : x < 13) (hy : y < 13) (hf : 1 ≤ f) : wnl r b v t z (nI x) (nI y) f (nI d) = rwl r (13 * y + x) f d := by
  obtain ⟨hc, hl, hp, -, -, -, hz, -, ht, -, -, ho⟩ := H
  have hq : 13 * y + x < 2 ^ 31 := by omega
  have hcat : cat (nI x) (nI y) = nI (13 * y + x) := by unfold cat; rw [pk_mul, nI_add]
  have hrb : rbs (13 * y + x) d = beside (nI x) (nI y) (nI d) := by
    unfold rbs
    rw [show (13 * y + x) % 13 = x by omega, show (13 * y + x) / 13 = y by omega]
  unfold wnl rwl
  rw [hcat, hrb, hp.top_wat2 hc hl hq, hz, hl.lowN hc hq hf, hc.hgtN hq]
  by_cases h1 : over r = true
  · rw [if_pos h1, if_pos h1]
  · rw [if_neg h1, if_neg h1, (ho (bool_ff h1)).1]
    by_cases h2 : f ≤ N (13 * y + x)
    · have := (hc.1 (13 * y + x) (N (13 * y + x) - f) (by omega)).1
      rw [if_pos h2, if_neg (nI_m1 (by omega)), if_neg (show ¬ N (13 * y + x) < f by omega)]
    · rw [if_neg h2, if_pos rfl, if_pos (show N (13 * y + x) < f by omega)]
/-- the highest pile -/
def hiP (r : Nat → Int32) (N : Nat → Nat) (W : Nat → Nat → Nat) (n m : Nat) : Prop := (∀ q i, i < N q → W q i < n → i + 1 ≤ m) ∧ (m = 0 ∨ ∃ q i, i < N q ∧ W q i < n ∧ i + 1 = m)
theorem rhi_P {r : Nat → Int32} {N : Nat → Nat} {W : Nat → Nat → Nat} (hc : Rc r N W) (hp : Rp r N W) : ∀ n, n ≤ 16 → ∃ m, m ≤ 16 ∧ rhi r n = nI m ∧ hiP r N W n m
  | 0, _ => ⟨0, by omega, rfl, fun _ _ _ h => absurd h (Nat.not_lt_zero _), Or.inl rfl⟩
  | n + 1, hn => by
    obtain ⟨m, hm, e, h1, h2⟩ := rhi_P hc hp n (by omega)
    simp only [rhi]
    rw [e]
    rcases hc.2.2 n (by omega) with hpot | ⟨q, i, hi, hw⟩
    · rw [hp.2 n (by omega) hpot]
      have e0 : (-1 : Int32) + nI 1 = nI 0 := by decide
      rw [e0, if_pos (nI_le (Nat.zero_le m) (by omega))]
      refine ⟨m, hm, rfl, fun q i hi hlt => ?_, ?_⟩
      · refine h1 q i hi ?_
        by_cases e9 : W q i = n
        · exact (hc.no hi e9 hpot).elim
        · omega
      · rcases h2 with h2 | ⟨q, i, g1, g2, g3⟩
        · exact Or.inl h2
        · exact Or.inr ⟨q, i, g1, by omega, g3⟩
    · have hil := hc.i hi
      rw [← hw, hp.1 q i hi, nI_add]
      by_cases hle : i + 1 ≤ m
      · rw [if_pos (nI_le hle (by omega))]
        refine ⟨m, hm, rfl, fun q' i' hi' hlt => ?_, ?_⟩
        · by_cases e9 : W q' i' = n
          · obtain ⟨rfl, rfl⟩ := hc.one hi' hi (e9.trans hw.symm)
            exact hle
          · exact h1 q' i' hi' (by omega)
        · rcases h2 with h2 | ⟨q', i', g1, g2, g3⟩
          · exact Or.inl h2
          · exact Or.inr ⟨q', i', g1, by omega, g3⟩
      · rw [if_neg (fun e9 => hle ((nI_leI (by omega) (by omega)).mp e9))]
        refine ⟨i + 1, by omega, rfl, fun q' i' hi' hlt => ?_, Or.inr ⟨q, i, hi, by omega, rfl⟩⟩
        by_cases e9 : W q' i' = n
        · obtain ⟨rfl, rfl⟩ := hc.one hi' hi (e9.trans hw.symm)
          exact Nat.le_refl _
        · have := h1 q' i' hi' (by omega)
          omega
theorem mxi_P {r b v : Nat → Int32} {N : Nat → Nat} {W : Nat → Nat → Nat} (hc : Rc r N W) (hl : Rl r b v N W) : ∀ n, n ≤ 16 → ∃ m, m ≤ 16 ∧ mxi (bot r b) (fun i => nI (hgt r (r i))) n = nI m ∧ (∀ q, 0 < N q → W q 0 < n → N q ≤ m) ∧ (m = 0 ∨ ∃ q, 0 < N q ∧ W q 0 < n ∧ N q = m)
  | 0, _ => ⟨0, by omega, rfl, fun _ _ h => absurd h (Nat.not_lt_zero _), Or.inl rfl⟩
  | n + 1, hn => by
    obtain ⟨m, hm, e, h1, h2⟩ := mxi_P hc hl n (by omega)
    simp only [mxi]
    have hb : bot r b n = true ↔ ∃ q, 0 < N q ∧ W q 0 = n := by
      unfold bot
      rcases hc.2.2 n (by omega) with hpot | ⟨q, i, hi, hw⟩
      · rw [hpot]
        simp only [decide_true, Bool.not_true, Bool.false_and]
        exact ⟨fun h => (by cases h), fun ⟨q, g1, g2⟩ => (hc.no g1 g2 hpot).elim⟩
      · have hne : r n ≠ -1 := fun e9 => hc.no hi hw e9
        rw [← hw, hl.1 q i hi]
        by_cases h0 : i = 0
        · subst h0
          rw [if_pos rfl, hw]
          simp only [hne, decide_false, Bool.not_false, Bool.true_and, decide_true, true_iff]
          exact ⟨q, hi, hw⟩
        · have := (hc.1 q (i - 1) (by omega)).1
          rw [if_neg h0, hw]
          simp only [hne, decide_false, Bool.not_false, Bool.true_and, nI_m1 (show W q (i - 1) < 2 ^ 31 by omega), Bool.false_eq_true, false_iff]
          rintro ⟨q', g1, g2⟩
          obtain ⟨-, g4⟩ := hc.one hi g1 (hw.trans g2.symm)
          exact h0 g4
    by_cases hbt : bot r b n = true
    · obtain ⟨q, g1, g2⟩ := hb.mp hbt
      have hle := hc.le (q := q) (by have := hc.q g1; omega)
      rw [if_pos hbt, e]
      have e3 : hgt r (r n) = N q := by rw [← g2, (hc.1 q 0 g1).2.2.2]; exact hc.hgtN (by have := hc.q g1; omega)
      rw [e3]
      unfold imax
      by_cases hlt : m < N q
      · rw [if_pos (nI_lt hlt (by omega))]
        refine ⟨N q, hle, rfl, fun q' g3 g4 => ?_, Or.inr ⟨q, g1, by omega, rfl⟩⟩
        by_cases e9 : W q' 0 = n
        · obtain ⟨rfl, -⟩ := hc.one g3 g1 (e9.trans g2.symm)
          exact Nat.le_refl _
        · have := h1 q' g3 (by omega)
          omega
      · rw [if_neg (nI_nlt (by omega) (by omega))]
        refine ⟨m, hm, rfl, fun q' g3 g4 => ?_, ?_⟩
        · by_cases e9 : W q' 0 = n
          · obtain ⟨rfl, -⟩ := hc.one g3 g1 (e9.trans g2.symm)
            omega
          · exact h1 q' g3 (by omega)
        · rcases h2 with h2 | ⟨q', g3, g4, g5⟩
          · exact Or.inl h2
          · exact Or.inr ⟨q', g3, by omega, g5⟩
    · rw [if_neg hbt, e]
      refine ⟨m, hm, rfl, fun q' g3 g4 => ?_, ?_⟩
      · by_cases e9 : W q' 0 = n
        · exact absurd (hb.mpr ⟨q', g3, e9⟩) hbt
        · exact h1 q' g3 (by omega)
      · rcases h2 with h2 | ⟨q', g3, g4, g5⟩
        · exact Or.inl h2
        · exact Or.inr ⟨q', g3, by omega, g5⟩
theorem Pos.high (H : Pos r b v g h j t u z N W) : mxi (bot r b) (fun i => nI (hgt r (r i))) 16 = rhi r 16 := by
  obtain ⟨hc, hl, hp, -⟩ := H
  obtain ⟨m1, k1, e1, a1, a2⟩ := mxi_P hc hl 16 (Nat.le_refl _)
  obtain ⟨m2, k2, e2, b1, b2⟩ := rhi_P hc hp 16 (Nat.le_refl _)
  rw [e1, e2]
  have hm : m1 = m2 := by
    apply Nat.le_antisymm
    · rcases a2 with rfl | ⟨q, g1, -, g3⟩
      · exact Nat.zero_le _
      · have := b1 q (N q - 1) (by omega) (hc.1 q _ (by omega)).1
        omega
    · rcases b2 with rfl | ⟨q, i, g1, -, g3⟩
      · exact Nat.zero_le _
      · have := a1 q (by omega) (hc.1 q 0 (by omega)).1
        omega
  rw [hm]
end AG
end
/-! from moves -/
section
/-! moves of a pile's upper part S (n winks, S 0 the lowest) onto another pile, or into the cup -/
theorem topv0 {c v : Nat → Int32} {N : Nat → Nat} {W : Nat → Nat → Nat} (h : Rc c N W) (hv : ∀ q i, i < N q → v (W q i) = if i + 1 < N q then nI (W q (i + 1)) else -1) {q : Nat} (hq : q < 2 ^ 31) : top c v (nI q) = if N q = 0 then -1 else nI (W q (N q - 1)) := by
  unfold top
  by_cases h0 : N q = 0
  · rw [if_pos h0]
    refine fst_n 16 0 (fun k _ hk => ?_)
    unfold tpq
    by_cases hc : c k = nI q
    · obtain ⟨i, hi, -⟩ := h.cell hq (by omega) hc
      omega
    · simp [hc]
  · rw [if_neg h0]
    have hlt : N q - 1 < N q := by omega
    refine fst_u 16 0 (Nat.zero_le _) (by have := (h.1 q _ hlt).1; omega) ?_ (fun k _ hk hp => ?_)
    · unfold tpq
      rw [(h.1 q _ hlt).2.2.2, hv q _ hlt, if_neg (by omega)]
      simp
    · unfold tpq at hp
      simp only [Bool.and_eq_true, decide_eq_true_eq] at hp
      obtain ⟨i, hi, rfl⟩ := h.cell hq (by omega) hp.1
      have h2 := hv q i hi
      rw [hp.2] at h2
      by_cases h3 : i + 1 < N q
      · rw [if_pos h3] at h2
        exact absurd h2.symm (nI_m1 (by have := (h.1 q _ h3).1; omega))
      · rw [show i = N q - 1 by omega]
/-- the piles without S, and the links with S cut off -/
def SG (r b v : Nat → Int32) (N : Nat → Nat) (W : Nat → Nat → Nat) (S : Nat → Nat) (n : Nat) : Prop :=
  1 ≤ n ∧ n ≤ 16 ∧ (∀ k, k < n → S k < 16) ∧ (∀ k m, k < n → m < n → S k = S m → k = m) ∧
  (∀ k, k < n → v (S k) = if k + 1 < n then nI (S (k + 1)) else -1) ∧ (∀ k, k < n → 0 < k → b (S k) = nI (S (k - 1))) ∧
  (∀ q m, m < N q → W q m < 16 ∧ q < 169 ∧ q ≠ 84 ∧ r (W q m) = nI q ∧ ∀ k, k < n → W q m ≠ S k) ∧ (∀ q i j, i < N q → j < N q → W q i = W q j → i = j) ∧
  (∀ q m, m < N q → b (W q m) = if m = 0 then -1 else nI (W q (m - 1))) ∧ (∀ q m, m < N q → v (W q m) = if m + 1 < N q then nI (W q (m + 1)) else -1) ∧
  (∀ w, w < 16 → (∃ k, k < n ∧ S k = w) ∨ (r w = -1 ∧ b w = -1 ∧ v w = -1) ∨ ∃ q m, m < N q ∧ W q m = w)
def cutN (N : Nat → Nat) (q0 i : Nat) : Nat → Nat := fun q => if q = q0 then i else N q
theorem cutv_on {r b v : Nat → Int32} {N : Nat → Nat} {W : Nat → Nat → Nat} (h : Rc r N W) (hl : Rl r b v N W) {q0 i : Nat} (hi : i < N q0) : cutv b v (W q0 i) = if i = 0 then v else upd v (W q0 (i - 1)) (-1) := by
  unfold cutv
  rw [hl.1 q0 i hi]
  by_cases h0 : i = 0
  · rw [if_pos h0, if_pos h0, if_neg (by rw [wk_m1]; decide)]
  · have := (h.1 q0 (i - 1) (by omega)).1
    rw [if_neg h0, if_neg h0, if_pos (wk_nI this), ix_nI (by omega)]
theorem SG_on {r b v : Nat → Int32} {N : Nat → Nat} {W : Nat → Nat → Nat} (h : Rc r N W) (hl : Rl r b v N W) {q0 i : Nat} (hi : i < N q0) : SG r b (cutv b v (W q0 i)) (cutN N q0 i) W (fun k => W q0 (i + k)) (N q0 - i) := by
  have hle := h.le (q := q0) (by have := h.q hi; omega)
  have hv : ∀ q m, m < N q → (q ≠ q0 ∨ m + 1 ≠ i) → cutv b v (W q0 i) (W q m) = v (W q m) := by
    intro q m hm hne
    rw [cutv_on h hl hi]
    by_cases h0 : i = 0
    · rw [if_pos h0]
    · rw [if_neg h0]
      refine upd_ne9 (fun e => ?_)
      obtain ⟨rfl, rfl⟩ := h.one hm (show i - 1 < N q0 by omega) e
      omega
  have hcut : ∀ q m, m < cutN N q0 i q → m < N q ∧ (q = q0 → m < i) := by
    intro q m hm
    unfold cutN at hm
    by_cases e : q = q0
    · rw [if_pos e] at hm; subst e; exact ⟨by omega, fun _ => hm⟩
    · rw [if_neg e] at hm; exact ⟨hm, fun e2 => absurd e2 e⟩
  refine ⟨by omega, by omega, fun k hk => (h.1 q0 (i + k) (by omega)).1, fun k m hk hm e => ?_, fun k hk => ?_, fun k hk h0 => ?_, fun q m hm => ?_, fun q a j ha hj e => h.2.1 q a j (hcut q a ha).1 (hcut q j hj).1 e, fun q m hm => ?_, fun q m hm => ?_, fun w hw => ?_⟩
  · have := h.2.1 q0 (i + k) (i + m) (by omega) (by omega) e
    omega
  · show cutv b v (W q0 i) (W q0 (i + k)) = if k + 1 < N q0 - i then nI (W q0 (i + (k + 1))) else -1
    rw [hv q0 (i + k) (by omega) (Or.inr (by omega)), hl.2.1 q0 (i + k) (by omega)]
    by_cases h3 : i + k + 1 < N q0
    · rw [if_pos h3, if_pos (by omega)]; rfl
    · rw [if_neg h3, if_neg (by omega)]
  · show b (W q0 (i + k)) = nI (W q0 (i + (k - 1)))
    rw [hl.1 q0 (i + k) (by omega), if_neg (by omega), show i + k - 1 = i + (k - 1) by omega]
  · obtain ⟨g1, g2⟩ := hcut q m hm
    obtain ⟨k1, k2, k3, k4⟩ := h.1 q m g1
    refine ⟨k1, k2, k3, k4, fun k hk e => ?_⟩
    obtain ⟨rfl, rfl⟩ := h.one g1 (show i + k < N q0 by omega) e
    have := g2 rfl
    omega
  · obtain ⟨g1, g2⟩ := hcut q m hm
    exact hl.1 q m g1
  · obtain ⟨g1, g2⟩ := hcut q m hm
    by_cases e : q = q0
    · subst e
      have h3 := g2 rfl
      have hcn : cutN N q i q = i := by unfold cutN; rw [if_pos rfl]
      rw [hcn]
      by_cases h4 : m + 1 < i
      · rw [if_pos h4, hv q m g1 (Or.inr (by omega)), hl.2.1 q m g1, if_pos (by omega)]
      · rw [if_neg h4, cutv_on h hl hi, if_neg (by omega), show i - 1 = m by omega]
        exact upd_at9
    · have hcn : cutN N q0 i q = N q := by unfold cutN; rw [if_neg e]
      rw [hcn, hv q m g1 (Or.inl e), hl.2.1 q m g1]
  · rcases h.2.2 w hw with h1 | ⟨q, m, g1, g2⟩
    · refine Or.inr (Or.inl ⟨h1, (hl.2.2 w hw h1).1, ?_⟩)
      rw [cutv_on h hl hi]
      by_cases h0 : i = 0
      · rw [if_pos h0]; exact (hl.2.2 w hw h1).2
      · rw [if_neg h0, upd_ne9 (fun e => h.no (show i - 1 < N q0 by omega) e.symm h1)]
        exact (hl.2.2 w hw h1).2
    · by_cases e : q = q0 ∧ i ≤ m
      · obtain ⟨rfl, e2⟩ := e
        exact Or.inl ⟨m - i, by omega, by show W q (i + (m - i)) = w; rw [show i + (m - i) = m by omega]; exact g2⟩
      · refine Or.inr (Or.inr ⟨q, m, ?_, g2⟩)
        unfold cutN
        by_cases e2 : q = q0
        · rw [if_pos e2]
          by_cases e3 : i ≤ m
          · exact absurd ⟨e2, e3⟩ e
          · omega
        · rw [if_neg e2]; exact g1
theorem SG_pot {r b v : Nat → Int32} {N : Nat → Nat} {W : Nat → Nat → Nat} (h : Rc r N W) (hl : Rl r b v N W) {w : Nat} (hw : w < 16) (hp : r w = -1) : SG r b (cutv b v w) N W (fun _ => w) 1 := by
  obtain ⟨p1, p2⟩ := hl.2.2 w hw hp
  have hv : cutv b v w = v := by
    unfold cutv
    rw [p1, if_neg (by rw [wk_m1]; decide)]
  rw [hv]
  refine ⟨Nat.le_refl 1, by omega, fun _ _ => hw, fun k m hk hm _ => by omega, fun k hk => ?_, fun k hk h0 => by omega, fun q m hm => ?_, h.2.1, hl.1, hl.2.1, fun w' hw' => ?_⟩
  · rw [if_neg (by omega)]; exact p2
  · obtain ⟨k1, k2, k3, k4⟩ := h.1 q m hm
    exact ⟨k1, k2, k3, k4, fun k hk e => h.no hm e hp⟩
  · rcases h.2.2 w' hw' with h1 | h1
    · exact Or.inr (Or.inl ⟨h1, hl.2.2 w' hw' h1⟩)
    · exact Or.inr (Or.inr h1)
theorem scl_P {v : Nat → Int32} {S : Nat → Nat} {n : Nat} (h16 : ∀ k, k < n → S k < 16) (hi : ∀ k m, k < n → m < n → S k = S m → k = m) (hv : ∀ k, k < n → v (S k) = if k + 1 < n then nI (S (k + 1)) else -1) {x : Int32} : ∀ (f j : Nat) (c : Nat → Int32), n ≤ j + f → (∀ k, j ≤ k → k < n → scl v x f c (if j < n then nI (S j) else -1) (S k) = x) ∧ (∀ y, (∀ k, j ≤ k → k < n → S k ≠ y) → scl v x f c (if j < n then nI (S j) else -1) y = c y)
  | 0, j, c, h => ⟨fun k h1 h2 => by omega, fun _ _ => rfl⟩
  | f + 1, j, c, h => by
    by_cases hj : j < n
    · rw [if_pos hj]
      simp only [scl]
      have hw := h16 j hj
      rw [if_pos (wk_nI hw), ix_nI (by omega), hv j hj]
      obtain ⟨i1, i2⟩ := scl_P h16 hi hv (x := x) f (j + 1) (upd c (S j) x) (by omega)
      refine ⟨fun k h1 h2 => ?_, fun y hy => ?_⟩
      · by_cases e : k = j
        · subst e
          rw [i2 (S k) (fun m h3 h4 e2 => by have := hi m k h4 h2 e2; omega)]
          exact upd_at9
        · exact i1 k (by omega) h2
      · rw [i2 y (fun k h1 h2 => hy k (by omega) h2)]
        exact upd_ne9 (fun e => hy j (Nat.le_refl j) hj e.symm)
    · rw [if_neg hj]
      simp only [scl]
      rw [if_neg (by rw [wk_m1]; decide)]
      exact ⟨fun k h1 h2 => by omega, fun _ _ => rfl⟩
theorem sep_P {S : Nat → Nat} {n : Nat} (h16 : ∀ k, k < n → S k < 16) (hi : ∀ k m, k < n → m < n → S k = S m → k = m) : ∀ (f j : Nat) (b v : Nat → Int32), (∀ k, j ≤ k → k < n → v (S k) = if k + 1 < n then nI (S (k + 1)) else -1) → n ≤ j + f → (∀ k, j ≤ k → k < n → (sep f b v (if j < n then nI (S j) else -1)).1 (S k) = -1 ∧ (sep f b v (if j < n then nI (S j) else -1)).2 (S k) = -1) ∧ (∀ y, (∀ k, j ≤ k → k < n → S k ≠ y) → (sep f b v (if j < n then nI (S j) else -1)).1 y = b y ∧ (sep f b v (if j < n then nI (S j) else -1)).2 y = v y)
  | 0, j, b, v, _, h => ⟨fun k h1 h2 => by omega, fun _ _ => ⟨rfl, rfl⟩⟩
  | f + 1, j, b, v, hv, h => by
    by_cases hj : j < n
    · rw [if_pos hj]
      simp only [sep]
      have hw := h16 j hj
      rw [if_pos (wk_nI hw), ix_nI (by omega), hv j (Nat.le_refl j) hj]
      obtain ⟨i1, i2⟩ := sep_P h16 hi f (j + 1) (upd b (S j) (-1)) (upd v (S j) (-1)) (fun k h1 h2 => by
        rw [upd_ne9 (fun e => by have := hi k j h2 hj e; omega)]
        exact hv k (by omega) h2) (by omega)
      refine ⟨fun k h1 h2 => ?_, fun y hy => ?_⟩
      · by_cases e : k = j
        · subst e
          obtain ⟨a1, a2⟩ := i2 (S k) (fun m h3 h4 e2 => by have := hi m k h4 h2 e2; omega)
          rw [a1, a2]
          exact ⟨upd_at9, upd_at9⟩
        · exact i1 k (by omega) h2
      · obtain ⟨a1, a2⟩ := i2 y (fun k h1 h2 => hy k (by omega) h2)
        rw [a1, a2]
        exact ⟨upd_ne9 (fun e => hy j (Nat.le_refl j) hj e.symm), upd_ne9 (fun e => hy j (Nat.le_refl j) hj e.symm)⟩
    · rw [if_neg hj]
      simp only [sep]
      rw [if_neg (by rw [wk_m1]; decide)]
      exact ⟨fun k h1 h2 => by omega, fun _ _ => ⟨rfl, rfl⟩⟩
/-- the piles behind the move onto q1 -/
def onN (N : Nat → Nat) (q1 n : Nat) : Nat → Nat := fun q => if q = q1 then N q1 + n else N q
def onW (N : Nat → Nat) (W : Nat → Nat → Nat) (q1 : Nat) (S : Nat → Nat) : Nat → Nat → Nat := fun q m => if q = q1 ∧ N q1 ≤ m then S (m - N q1) else W q m
theorem onW_new {N : Nat → Nat} {W : Nat → Nat → Nat} {q1 k : Nat} {S : Nat → Nat} : onW N W q1 S q1 (N q1 + k) = S k := by
  unfold onW
  rw [if_pos ⟨rfl, by omega⟩, show N q1 + k - N q1 = k by omega]
theorem onW_old {N : Nat → Nat} {W : Nat → Nat → Nat} {q1 q m : Nat} {S : Nat → Nat} (h : m < N q) : onW N W q1 S q m = W q m := by
  unfold onW
  rw [if_neg (fun e => by obtain ⟨rfl, e2⟩ := e; omega)]
theorem onN_cases {N : Nat → Nat} {q1 n q m : Nat} (h : m < onN N q1 n q) : m < N q ∨ (q = q1 ∧ ∃ k, k < n ∧ m = N q1 + k) := by
  unfold onN at h
  by_cases e : q = q1
  · rw [if_pos e] at h
    subst e
    by_cases h2 : m < N q
    · exact Or.inl h2
    · exact Or.inr ⟨rfl, m - N q, by omega, by omega⟩
  · rw [if_neg e] at h; exact Or.inl h
theorem onN_old {N : Nat → Nat} {q1 n q m : Nat} (h : m < N q) : m < onN N q1 n q := by
  unfold onN
  by_cases e : q = q1
  · rw [if_pos e]; subst e; omega
  · rw [if_neg e]; exact h
theorem onN_new {N : Nat → Nat} {q1 n k : Nat} (h : k < n) : N q1 + k < onN N q1 n q1 := by
  unfold onN
  rw [if_pos rfl]
  omega
/-- the cells behind it, whoever writes them -/
theorem Rc_on {r c' : Nat → Int32} {N : Nat → Nat} {W : Nat → Nat → Nat} {S : Nat → Nat} {n q1 : Nat} (hq : q1 < 169) (hq84 : q1 ≠ 84) (h16 : ∀ k, k < n → S k < 16) (hi : ∀ k m, k < n → m < n → S k = S m → k = m) (hN : ∀ q m, m < N q → W q m < 16 ∧ q < 169 ∧ q ≠ 84 ∧ r (W q m) = nI q ∧ ∀ k, k < n → W q m ≠ S k) (hW : ∀ q i j, i < N q → j < N q → W q i = W q j → i = j) (hA : ∀ w, w < 16 → (∃ k, k < n ∧ S k = w) ∨ r w = -1 ∨ ∃ q m, m < N q ∧ W q m = w) (c1 : ∀ k, k < n → c' (S k) = nI q1) (c2 : ∀ y, y < 16 → (∀ k, k < n → S k ≠ y) → c' y = r y) : Rc c' (onN N q1 n) (onW N W q1 S) := by
  refine ⟨fun q m hm => ?_, fun q i j hi' hj e => ?_, fun w hw => ?_⟩
  · rcases onN_cases hm with h1 | ⟨rfl, k, hk, rfl⟩
    · rw [onW_old h1]
      obtain ⟨k1, k2, k3, k4, k5⟩ := hN q m h1
      exact ⟨k1, k2, k3, (c2 _ k1 (fun k hk e => k5 k hk e.symm)).trans k4⟩
    · rw [onW_new]
      exact ⟨h16 k hk, hq, hq84, c1 k hk⟩
  · rcases onN_cases hi' with h1 | ⟨e1, k, hk, rfl⟩
    · rcases onN_cases hj with h2 | ⟨rfl, k, hk, rfl⟩
      · rw [onW_old h1, onW_old h2] at e
        exact hW q i j h1 h2 e
      · rw [onW_old h1, onW_new] at e
        exact absurd e ((hN q i h1).2.2.2.2 k hk)
    · subst e1
      rcases onN_cases hj with h2 | ⟨-, m, hm, rfl⟩
      · rw [onW_old h2, onW_new] at e
        exact absurd e.symm ((hN q j h2).2.2.2.2 k hk)
      · rw [onW_new, onW_new] at e
        rw [hi k m hk hm e]
  · rcases hA w hw with ⟨k, hk, rfl⟩ | h1 | ⟨q, m, hm, rfl⟩
    · exact Or.inr ⟨q1, N q1 + k, onN_new hk, onW_new⟩
    · by_cases hs : ∃ k, k < n ∧ S k = w
      · obtain ⟨k, hk, rfl⟩ := hs
        exact Or.inr ⟨q1, N q1 + k, onN_new hk, onW_new⟩
      · exact Or.inl ((c2 w hw (fun k hk e => hs ⟨k, hk, e⟩)).trans h1)
    · exact Or.inr ⟨q, m, onN_old hm, onW_old hm⟩
theorem Rc_cup {r c' : Nat → Int32} {N : Nat → Nat} {W : Nat → Nat → Nat} {S : Nat → Nat} {n : Nat} (hN : ∀ q m, m < N q → W q m < 16 ∧ q < 169 ∧ q ≠ 84 ∧ r (W q m) = nI q ∧ ∀ k, k < n → W q m ≠ S k) (hW : ∀ q i j, i < N q → j < N q → W q i = W q j → i = j) (hA : ∀ w, w < 16 → (∃ k, k < n ∧ S k = w) ∨ r w = -1 ∨ ∃ q m, m < N q ∧ W q m = w) (c1 : ∀ k, k < n → c' (S k) = -1) (c2 : ∀ y, y < 16 → (∀ k, k < n → S k ≠ y) → c' y = r y) : Rc c' N W := by
  refine ⟨fun q m hm => ?_, hW, fun w hw => ?_⟩
  · obtain ⟨k1, k2, k3, k4, k5⟩ := hN q m hm
    exact ⟨k1, k2, k3, (c2 _ k1 (fun k hk e => k5 k hk e.symm)).trans k4⟩
  · rcases hA w hw with ⟨k, hk, rfl⟩ | h1 | h1
    · exact Or.inl (c1 k hk)
    · by_cases hs : ∃ k, k < n ∧ S k = w
      · obtain ⟨k, hk, rfl⟩ := hs
        exact Or.inl (c1 k hk)
      · exact Or.inl ((c2 w hw (fun k hk e => hs ⟨k, hk, e⟩)).trans h1)
    · exact Or.inr h1
theorem SG.cells {r b v : Nat → Int32} {N : Nat → Nat} {W : Nat → Nat → Nat} {S : Nat → Nat} {n : Nat} (h : SG r b v N W S n) {c : Nat → Int32} {x : Int32} : (∀ k, k < n → scl v x 16 c (nI (S 0)) (S k) = x) ∧ (∀ y, (∀ k, k < n → S k ≠ y) → scl v x 16 c (nI (S 0)) y = c y) := by
  obtain ⟨h1, h2, h3, h4, h5, -⟩ := h
  have := scl_P h3 h4 h5 (x := x) 16 0 c (by omega)
  rw [if_pos (by omega)] at this
  exact ⟨fun k hk => this.1 k (Nat.zero_le _) hk, fun y hy => this.2 y (fun k _ hk => hy k hk)⟩
/-- what the class's move leaves: onto a pile -/
theorem mov_on {r b v : Nat → Int32} {N : Nat → Nat} {W : Nat → Nat → Nat} {S : Nat → Nat} {n q1 : Nat} (hq : q1 < 169) (hq84 : q1 ≠ 84) (h : SG r b (cutv b v (S 0)) N W S n) : Rc (mov1 r b v (S 0) (nI q1)) (onN N q1 n) (onW N W q1 S) ∧ Rl (mov1 r b v (S 0) (nI q1)) (mov2 r b v (S 0) (nI q1)) (mov3 r b v (S 0) (nI q1)) (onN N q1 n) (onW N W q1 S) ∧ (∀ k, k < n → mov1 r b v (S 0) (nI q1) (S k) = nI q1) ∧ (∀ y, (∀ k, k < n → S k ≠ y) → mov1 r b v (S 0) (nI q1) y = r y) := by
  obtain ⟨a1, a2⟩ := h.cells (c := r) (x := -1)
  obtain ⟨d1, d2⟩ := h.cells (c := scl (cutv b v (S 0)) (-1) 16 r (nI (S 0))) (x := nI q1)
  obtain ⟨h1, h2, h3, h4, h5, h6, h7, h8, h9, h10, h11⟩ := h
  have hA : ∀ w, w < 16 → (∃ k, k < n ∧ S k = w) ∨ r w = -1 ∨ ∃ q m, m < N q ∧ W q m = w := fun w hw => (h11 w hw).imp id (fun g => g.imp (fun g => g.1) id)
  have hcup : Rc (scl (cutv b v (S 0)) (-1) 16 r (nI (S 0))) N W := Rc_cup h7 h8 hA a1 (fun y _ hy => a2 y hy)
  have hne : nI q1 ≠ nI 84 := nI_ne (by omega) (by omega) hq84
  have e1 : mov1 r b v (S 0) (nI q1) = scl (cutv b v (S 0)) (nI q1) 16 (scl (cutv b v (S 0)) (-1) 16 r (nI (S 0))) (nI (S 0)) := by unfold mov1; rw [if_neg hne]
  have c1 : ∀ k, k < n → mov1 r b v (S 0) (nI q1) (S k) = nI q1 := by rw [e1]; exact d1
  have c2 : ∀ y, (∀ k, k < n → S k ≠ y) → mov1 r b v (S 0) (nI q1) y = r y := fun y hy => by rw [e1, d2 y hy, a2 y hy]
  have hle := hcup.le (q := q1) (by omega)
  have et : movt r b v (S 0) (nI q1) = if N q1 = 0 then -1 else nI (W q1 (N q1 - 1)) := topv0 hcup h10 (by omega)
  have e2 : mov2 r b v (S 0) (nI q1) = upd b (S 0) (if N q1 = 0 then -1 else nI (W q1 (N q1 - 1))) := by unfold mov2; rw [if_neg hne, et]
  have e3 : mov3 r b v (S 0) (nI q1) = if N q1 = 0 then cutv b v (S 0) else upd (cutv b v (S 0)) (W q1 (N q1 - 1)) (nI (S 0)) := by
    unfold mov3
    rw [if_neg hne, et]
    by_cases h0 : N q1 = 0
    · rw [if_pos h0, if_pos h0, if_neg (by rw [wk_m1]; decide)]
    · have hw := (h7 q1 (N q1 - 1) (by omega)).1
      rw [if_neg h0, if_neg h0, if_pos (wk_nI hw), ix_nI (by omega)]
  have hRc := Rc_on hq hq84 h3 h4 h7 h8 hA c1 (fun y _ hy => c2 y hy)
  refine ⟨hRc, ⟨fun q m hm => ?_, fun q m hm => ?_, fun w hw hp => ?_⟩, c1, c2⟩
  · rw [e2]
    rcases onN_cases hm with g1 | ⟨rfl, k, hk, rfl⟩
    · rw [onW_old g1, upd_ne9 ((h7 q m g1).2.2.2.2 0 (by omega)), h9 q m g1]
      by_cases h0 : m = 0
      · rw [if_pos h0, if_pos h0]
      · rw [if_neg h0, if_neg h0, onW_old (show m - 1 < N q by omega)]
    · rw [onW_new]
      by_cases h0 : k = 0
      · subst h0
        rw [upd_at9]
        by_cases h00 : N q = 0
        · rw [if_pos h00, if_pos (by omega)]
        · rw [if_neg h00, if_neg (by omega), Nat.add_zero, onW_old (show N q - 1 < N q by omega)]
      · rw [upd_ne9 (fun e => h0 (h4 k 0 hk (by omega) e)), h6 k hk (by omega), if_neg (by omega), show N q + k - 1 = N q + (k - 1) by omega, onW_new]
  · rw [e3]
    rcases onN_cases hm with g1 | ⟨rfl, k, hk, rfl⟩
    · rw [onW_old g1]
      by_cases hlast : q = q1 ∧ m + 1 = N q1
      · obtain ⟨rfl, hm1⟩ := hlast
        rw [if_neg (by omega), show N q - 1 = m by omega, upd_at9, if_pos (by rw [hm1]; exact onN_new (k := 0) (by omega)), hm1]
        have := onW_new (N := N) (W := W) (q1 := q) (k := 0) (S := S)
        rw [Nat.add_zero] at this
        rw [this]
      · have hv : (if N q1 = 0 then cutv b v (S 0) else upd (cutv b v (S 0)) (W q1 (N q1 - 1)) (nI (S 0))) (W q m) = cutv b v (S 0) (W q m) := by
          by_cases h00 : N q1 = 0
          · rw [if_pos h00]
          · rw [if_neg h00]
            refine upd_ne9 (fun e => hlast ?_)
            have g2 := (h7 q m g1).2.2.2.1
            have g3 := (h7 q1 (N q1 - 1) (by omega)).2.2.2.1
            rw [e, g3] at g2
            have e9 := nI_inj (by omega) (by have := (h7 q m g1).2.1; omega) g2
            subst e9
            have := h8 q1 m (N q1 - 1) g1 (by omega) e
            exact ⟨rfl, by omega⟩
        rw [hv, h10 q m g1]
        by_cases h12 : m + 1 < N q
        · rw [if_pos h12, if_pos (onN_old h12), onW_old h12]
        · rw [if_neg h12, if_neg (fun g => by
            rcases onN_cases g with g4 | ⟨rfl, k, hk, e9⟩
            · exact h12 g4
            · exact hlast ⟨rfl, by omega⟩)]
    · rw [onW_new]
      have hv : (if N q = 0 then cutv b v (S 0) else upd (cutv b v (S 0)) (W q (N q - 1)) (nI (S 0))) (S k) = cutv b v (S 0) (S k) := by
        by_cases h00 : N q = 0
        · rw [if_pos h00]
        · rw [if_neg h00]
          exact upd_ne9 (fun e => (h7 q (N q - 1) (by omega)).2.2.2.2 k hk e.symm)
      rw [hv, h5 k hk]
      by_cases h12 : k + 1 < n
      · rw [if_pos h12, if_pos (by rw [Nat.add_assoc]; exact onN_new h12), Nat.add_assoc, onW_new]
      · rw [if_neg h12, if_neg (fun g => by
          rcases onN_cases g with g4 | ⟨-, m, hm, e9⟩ <;> omega)]
  · have hns : ∀ k, k < n → S k ≠ w := fun k hk e => by
      rw [← e, c1 k hk] at hp
      exact nI_m1 (by omega) hp
    rw [c2 w hns] at hp
    rcases h11 w hw with ⟨k, hk, e⟩ | ⟨-, g2, g3⟩ | ⟨q, m, hm, e⟩
    · exact absurd e (hns k hk)
    · rw [e2, e3]
      refine ⟨by rw [upd_ne9 (fun e => hns 0 (by omega) e.symm)]; exact g2, ?_⟩
      by_cases h00 : N q1 = 0
      · rw [if_pos h00]; exact g3
      · rw [if_neg h00, upd_ne9 (fun e => by
          have g4 := (h7 q1 (N q1 - 1) (by omega)).2.2.2.1
          rw [← e, hp] at g4
          exact nI_m1 (by omega) g4.symm)]
        exact g3
    · have g4 := (h7 q m hm).2.2.2.1
      rw [e, hp] at g4
      exact absurd g4.symm (nI_m1 (by have := (h7 q m hm).2.1; omega))
/-- into the cup -/
theorem mov_cup {r b v : Nat → Int32} {N : Nat → Nat} {W : Nat → Nat → Nat} {S : Nat → Nat} {n : Nat} (h : SG r b (cutv b v (S 0)) N W S n) : Rc (mov1 r b v (S 0) (nI 84)) N W ∧ Rl (mov1 r b v (S 0) (nI 84)) (mov2 r b v (S 0) (nI 84)) (mov3 r b v (S 0) (nI 84)) N W ∧ (∀ k, k < n → mov1 r b v (S 0) (nI 84) (S k) = -1) ∧ (∀ y, (∀ k, k < n → S k ≠ y) → mov1 r b v (S 0) (nI 84) y = r y) := by
  obtain ⟨a1, a2⟩ := h.cells (c := r) (x := -1)
  obtain ⟨h1, h2, h3, h4, h5, h6, h7, h8, h9, h10, h11⟩ := h
  have hA : ∀ w, w < 16 → (∃ k, k < n ∧ S k = w) ∨ r w = -1 ∨ ∃ q m, m < N q ∧ W q m = w := fun w hw => (h11 w hw).imp id (fun g => g.imp (fun g => g.1) id)
  have e1 : mov1 r b v (S 0) (nI 84) = scl (cutv b v (S 0)) (-1) 16 r (nI (S 0)) := by unfold mov1; rw [if_pos rfl]
  have hs := sep_P h3 h4 16 0 b (cutv b v (S 0)) (fun k _ hk => h5 k hk) (by omega)
  rw [if_pos (show 0 < n by omega)] at hs
  have e2 : mov2 r b v (S 0) (nI 84) = (sep 16 b (cutv b v (S 0)) (nI (S 0))).1 := by unfold mov2; rw [if_pos rfl]
  have e3 : mov3 r b v (S 0) (nI 84) = (sep 16 b (cutv b v (S 0)) (nI (S 0))).2 := by unfold mov3; rw [if_pos rfl]
  rw [e1, e2, e3]
  refine ⟨Rc_cup h7 h8 hA a1 (fun y _ hy => a2 y hy), ⟨fun q m hm => ?_, fun q m hm => ?_, fun w hw hp => ?_⟩, a1, a2⟩
  · rw [(hs.2 (W q m) (fun k _ hk e => (h7 q m hm).2.2.2.2 k hk e.symm)).1]
    exact h9 q m hm
  · rw [(hs.2 (W q m) (fun k _ hk e => (h7 q m hm).2.2.2.2 k hk e.symm)).2]
    exact h10 q m hm
  · rcases h11 w hw with ⟨k, hk, rfl⟩ | ⟨g1, g2, g3⟩ | ⟨q, m, hm, rfl⟩
    · exact hs.1 k (Nat.zero_le _) hk
    · by_cases hx : ∃ k, k < n ∧ S k = w
      · obtain ⟨k, hk, rfl⟩ := hx
        exact hs.1 k (Nat.zero_le _) hk
      · obtain ⟨i1, i2⟩ := hs.2 w (fun k _ hk e => hx ⟨k, hk, e⟩)
        rw [i1, i2]
        exact ⟨g2, g3⟩
    · rw [a2 _ (fun k hk e => (h7 q m hm).2.2.2.2 k hk e.symm), (h7 q m hm).2.2.2.1] at hp
      exact absurd hp (nI_m1 (by have := (h7 q m hm).2.1; omega))
end
/-! from rmoves -/
section
/-! the reference's moves, and both sides together -/
/-- one wink laid -/
theorem lay_P {r b v : Nat → Int32} {N : Nat → Nat} {W : Nat → Nat → Nat} {w : Nat} (hw : w < 16) (h : SG r b v N W (fun _ => w) 1) (hp : ∀ q m, m < N q → r (16 + W q m) = nI m) (hp2 : ∀ x, x < 16 → x ≠ w → r x = -1 → r (16 + x) = -1) : (Rc (rly r w (nI 84)) N W ∧ Rp (rly r w (nI 84)) N W) ∧ ∀ q1, q1 < 169 → q1 ≠ 84 → Rc (rly r w (nI q1)) (onN N q1 1) (onW N W q1 (fun _ => w)) ∧ Rp (rly r w (nI q1)) (onN N q1 1) (onW N W q1 (fun _ => w)) := by
  obtain ⟨h1, h2, h3, h4, h5, h6, h7, h8, h9, h10, h11⟩ := h
  have hA : ∀ x, x < 16 → (∃ k : Nat, k < 1 ∧ w = x) ∨ r x = -1 ∨ ∃ q m, m < N q ∧ W q m = x := fun x hx => (h11 x hx).imp id (fun g => g.imp (fun g => g.1) id)
  have e0 : ∀ x, x < 16 → (∀ k : Nat, k < 1 → w ≠ x) → rly1 r w x = r x := fun x hx hne => rly1_out (fun e => hne 0 (by omega) e.symm) (by omega)
  have ew : rly1 r w w = -1 := by unfold rly1; rw [upd_ne9 (by omega)]; exact upd_at9
  have ep : rly1 r w (16 + w) = -1 := upd_at9
  have hcup : Rc (rly1 r w) N W := Rc_cup h7 h8 hA (fun _ _ => ew) e0
  have hpl : ∀ q m, m < N q → rly1 r w (16 + W q m) = nI m := fun q m hm => by
    obtain ⟨k1, -, -, -, k5⟩ := h7 q m hm
    have k6 : W q m ≠ w := k5 0 (by omega)
    rw [rly1_out (by omega) (by omega)]
    exact hp q m hm
  have hpp : ∀ x, x < 16 → rly1 r w x = -1 → rly1 r w (16 + x) = -1 := fun x hx hx1 => by
    by_cases e : x = w
    · rw [e]; exact ep
    · rw [rly1_out (by omega) (by omega)] at hx1 ⊢
      exact hp2 x hx e hx1
  refine ⟨?_, fun q1 hq hq84 => ?_⟩
  · have e1 : rly r w (nI 84) = rly1 r w := by unfold rly; rw [if_pos rfl]
    rw [e1]
    exact ⟨hcup, hpl, hpp⟩
  · have hne : nI q1 ≠ nI 84 := nI_ne (by omega) (by omega) hq84
    have e1 : rly r w (nI q1) = upd (upd (rly1 r w) (16 + w) (nI (N q1))) w (nI q1) := by
      unfold rly
      rw [if_neg hne, hcup.hgtN (by omega)]
    have a1 : rly r w (nI q1) w = nI q1 := by rw [e1]; exact upd_at9
    have a2 : ∀ x, x < 16 → x ≠ w → rly r w (nI q1) x = r x := fun x hx hne => rly_out hne (by omega)
    refine ⟨Rc_on hq hq84 h3 h4 h7 h8 hA (fun _ _ => a1) (fun x hx hne => a2 x hx (fun e => hne 0 (by omega) e.symm)), fun q m hm => ?_, fun x hx hx1 => ?_⟩
    · rcases onN_cases hm with g1 | ⟨rfl, k, hk, rfl⟩
      · rw [onW_old g1]
        obtain ⟨k1, -, -, -, k5⟩ := h7 q m g1
        have k6 : W q m ≠ w := k5 0 (by omega)
        rw [rly_out (by omega) (by omega)]
        exact hp q m g1
      · have hk0 : k = 0 := by omega
        subst hk0
        rw [onW_new, e1, upd_ne9 (by omega), Nat.add_zero]
        exact upd_at9
    · by_cases e : x = w
      · rw [e, a1] at hx1
        exact absurd hx1 (nI_m1 (by omega))
      · rw [rly_out (by omega) (by omega)] at hx1 ⊢
        exact hp2 x hx e hx1
theorem potc_ext {c c' : Nat → Int32} {k : Nat} (hk : k < 4) (h : ∀ x, x < 16 → c x = c' x) : potc c k = potc c' k := cnt_cong (fun w hw => by rw [h (4 * k + w) (by omega)])
theorem anyl_cong {p q : Nat → Bool} : ∀ n i, (∀ k, i ≤ k → k < i + n → p k = q k) → anyl p n i = anyl q n i
  | 0, _, _ => rfl
  | n + 1, i, h => by
    have e := h i (Nat.le_refl i) (by omega)
    simp only [anyl]
    by_cases hp : p i = true
    · rw [if_pos hp, if_pos (by rw [← e]; exact hp)]
    · rw [if_neg hp, if_neg (by rw [← e]; exact hp)]
      exact anyl_cong n (i + 1) (fun k h1 h2 => h k (by omega) (by omega))
theorem over_ext {c c' : Nat → Int32} (h : ∀ x, x < 16 → c x = c' x) : over c = over c' := by
  unfold over
  exact anyl_cong 4 0 (fun k _ hk => by rw [potc_ext (k := k) (by omega) h])
theorem over_f {c : Nat → Int32} (h : over c = false) {k : Nat} (hk : k < 4) : potc c k ≠ 4 := by
  unfold over at h
  simp only [anyl] at h
  intro e
  rcases (show k = 0 ∨ k = 1 ∨ k = 2 ∨ k = 3 by omega) with rfl | rfl | rfl | rfl <;> simp [e] at h
theorem Rl_ext {c c' b v : Nat → Int32} {N : Nat → Nat} {W : Nat → Nat → Nat} (h : Rl c b v N W) (e : ∀ x, x < 16 → c x = c' x) : Rl c' b v N W := ⟨h.1, h.2.1, fun w hw hp => h.2.2 w hw ((e w hw).trans hp)⟩
theorem Rc_ext {c c' : Nat → Int32} {N : Nat → Nat} {W : Nat → Nat → Nat} (h : Rc c N W) (e : ∀ x, x < 16 → c x = c' x) : Rc c' N W := ⟨fun q i hi => ⟨(h.1 q i hi).1, (h.1 q i hi).2.1, (h.1 q i hi).2.2.1, (e _ (h.1 q i hi).1).symm.trans (h.1 q i hi).2.2.2⟩, h.2.1, fun w hw => (h.2.2 w hw).imp (fun g => (e w hw).symm.trans g) id⟩
theorem Rp_ext {r r' : Nat → Int32} {N : Nat → Nat} {W : Nat → Nat → Nat} (hc : Rc r N W) (h : Rp r N W) (e : ∀ x, x < 32 → r x = r' x) : Rp r' N W := ⟨fun q i hi => (e _ (by have := (hc.1 q i hi).1; omega)).symm.trans (h.1 q i hi), fun w hw hp => (e _ (by omega)).symm.trans (h.2 w hw ((e w (by omega)).trans hp))⟩
/-- the turn passes -/
def on9 (r : Nat → Int32) : Nat := cnt (fun i => !(decide (r (52 + i) = nI 0))) 4
theorem pass_eq {c : Nat → Int32} {t0 : Nat} (hnp : ∀ k, k < 4 → potc c k ≠ 4) : ∀ (n : Nat) (r j : Nat → Int32) (t : Nat), lo01 r → (∀ i, i < 4 → j i = r (52 + i)) → on9 r < n → rps n r t 56 = nI (pasg c t0 n j t).2 ∧ (pasg c t0 n j t).2 < 4 ∧ (∀ i, i < 4 → (pasg c t0 n j t).1 i = rps n r t (52 + i)) ∧ rps n r t (52 + (pasg c t0 n j t).2) = nI 0 ∧ lo01 (rps n r t) ∧ (∀ x, x < 52 ∨ 56 < x → rps n r t x = r x)
  | 0, _, _, _, _, _, h => absurd h (Nat.not_lt_zero _)
  | n + 1, r, j, t, hlo, hj, hn => by
    have hm : (t + 1) % 4 < 4 := Nat.mod_lt _ (by decide)
    have e1 : upd r 56 (nI ((t + 1) % 4)) (52 + (t + 1) % 4) = r (52 + (t + 1) % 4) := upd_ne9 (by omega)
    simp only [rps, pasg]
    rw [if_neg (hnp _ hm), e1, hj _ hm]
    by_cases h0 : r (52 + (t + 1) % 4) = 0
    · rw [if_pos (show r (52 + (t + 1) % 4) ≤ 0 by rw [h0]; decide), if_pos h0, h0]
      have e2 : (0 : Int32) - nI 0 = nI 0 := by decide
      rw [e2]
      have hx : ∀ i, i < 4 → upd (upd r 56 (nI ((t + 1) % 4))) (52 + (t + 1) % 4) (nI 0) (52 + i) = r (52 + i) := fun i hi => by
        by_cases e : i = (t + 1) % 4
        · rw [← e, upd_at9]; rw [← e] at h0; rw [h0]; rfl
        · rw [upd_ne9 (by omega), upd_ne9 (by omega)]
      refine ⟨by rw [upd_ne9 (by omega)]; exact upd_at9, hm, fun i hi => by rw [hx i hi]; exact hj i hi, upd_at9, fun i hi => by rw [hx i hi]; exact hlo i hi, fun x hx2 => by rw [upd_ne9 (by omega), upd_ne9 (by omega)]⟩
    · have h1 : r (52 + (t + 1) % 4) = nI 1 := (hlo _ hm).resolve_left h0
      rw [if_neg (show ¬ r (52 + (t + 1) % 4) ≤ 0 by rw [h1]; decide), if_neg h0, h1]
      have e2 : nI 1 - nI 1 = nI 0 := by decide
      rw [e2]
      have hx : ∀ i, i < 4 → upd (upd r 56 (nI ((t + 1) % 4))) (52 + (t + 1) % 4) (nI 0) (52 + i) = if i = (t + 1) % 4 then nI 0 else r (52 + i) := fun i hi => by
        by_cases e : i = (t + 1) % 4
        · rw [if_pos e, ← e, upd_at9]
        · rw [if_neg e, upd_ne9 (by omega), upd_ne9 (by omega)]
      have hlt : on9 (upd (upd r 56 (nI ((t + 1) % 4))) (52 + (t + 1) % 4) (nI 0)) + 1 = on9 r := by
        unfold on9
        rw [cnt_del (p := fun i => !(decide (r (52 + i) = nI 0))) (a := (t + 1) % 4) 4 hm (by rw [h1]; decide)]
        congr 1
        refine cnt_cong (fun i hi => ?_)
        rw [hx i hi]
        by_cases e : i = (t + 1) % 4
        · rw [if_pos e]; simp [e]
        · rw [if_neg e]; simp [e]
      obtain ⟨g1, g2, g3, g4, g5, g6⟩ := pass_eq hnp n (upd (upd r 56 (nI ((t + 1) % 4))) (52 + (t + 1) % 4) (nI 0)) (upd j ((t + 1) % 4) (nI 0)) ((t + 1) % 4) (fun i hi => by
        rw [hx i hi]
        by_cases e : i = (t + 1) % 4
        · rw [if_pos e]; exact Or.inl rfl
        · rw [if_neg e]; exact hlo i hi) (fun i hi => by
        rw [hx i hi]
        by_cases e : i = (t + 1) % 4
        · rw [if_pos e, e, upd_at9]
        · rw [if_neg e, upd_ne9 e]; exact hj i hi) (by omega)
      exact ⟨g1, g2, g3, g4, g5, fun x hx2 => by rw [g6 x hx2, upd_ne9 (by omega), upd_ne9 (by omega)]⟩
theorem on9_lt (r : Nat → Int32) : on9 r < 8 := Nat.lt_of_le_of_lt (cnt_le _ 4) (by decide)
theorem smi_up {g : Nat → Int32} {w : Nat} {x : Int32} : ∀ n, smi (upd g w (g w + x)) n = if w < n then smi g n + x else smi g n
  | 0 => by rw [if_neg (Nat.not_lt_zero _)]; rfl
  | n + 1 => by
    simp only [smi]
    rw [smi_up n]
    by_cases e : n = w
    · subst e
      rw [if_neg (by omega), if_pos (by omega), upd_at9, Int32.add_assoc]
    · rw [upd_ne9 e]
      by_cases h : w < n
      · rw [if_pos h, if_pos (by omega), Int32.add_assoc, Int32.add_comm x, ← Int32.add_assoc]
      · rw [if_neg h, if_neg (by omega)]
end
/-! from posmv -/
section
/-! one position on both sides, behind a move -/
theorem SG_ext {r b v : Nat → Int32} {N : Nat → Nat} {W : Nat → Nat → Nat} {S S' : Nat → Nat} {n : Nat} (h : SG r b v N W S n) (e : ∀ k, k < n → S k = S' k) : SG r b v N W S' n := by
  obtain ⟨h1, h2, h3, h4, h5, h6, h7, h8, h9, h10, h11⟩ := h
  refine ⟨h1, h2, fun k hk => by rw [← e k hk]; exact h3 k hk, fun k m hk hm => by rw [← e k hk, ← e m hm]; exact h4 k m hk hm, fun k hk => ?_, fun k hk h0 => ?_, fun q m hm => ?_, h8, h9, h10, fun w hw => ?_⟩
  · rw [← e k hk, h5 k hk]
    by_cases h12 : k + 1 < n
    · rw [if_pos h12, if_pos h12, e _ h12]
    · rw [if_neg h12, if_neg h12]
  · rw [← e k hk, h6 k hk h0, e (k - 1) (by omega)]
  · obtain ⟨k1, k2, k3, k4, k5⟩ := h7 q m hm
    exact ⟨k1, k2, k3, k4, fun k hk => by rw [← e k hk]; exact k5 k hk⟩
  · rcases h11 w hw with ⟨k, hk, hs⟩ | g
    · exact Or.inl ⟨k, hk, by rw [← e k hk]; exact hs⟩
    · exact Or.inr g
theorem SG_row {r r' b v : Nat → Int32} {N : Nat → Nat} {W : Nat → Nat → Nat} {S : Nat → Nat} {n : Nat} (h : SG r b v N W S n) (e : ∀ x, x < 16 → r x = r' x) : SG r' b v N W S n := by
  obtain ⟨h1, h2, h3, h4, h5, h6, h7, h8, h9, h10, h11⟩ := h
  refine ⟨h1, h2, h3, h4, h5, h6, fun q m hm => ?_, h8, h9, h10, fun w hw => ?_⟩
  · obtain ⟨k1, k2, k3, k4, k5⟩ := h7 q m hm
    exact ⟨k1, k2, k3, (e _ k1).symm.trans k4, k5⟩
  · rcases h11 w hw with g | ⟨g1, g2⟩ | g
    · exact Or.inl g
    · exact Or.inr (Or.inl ⟨(e w hw).symm.trans g1, g2⟩)
    · exact Or.inr (Or.inr g)
/-- a wink that isn't covered: it alone is moved -/
theorem SG_top {r b v : Nat → Int32} {N : Nat → Nat} {W : Nat → Nat → Nat} (h : Rc r N W) (hl : Rl r b v N W) {w : Nat} (hw : w < 16) (hcv : cov v w = false) : ∃ N1 : Nat → Nat, SG r b (cutv b v w) N1 W (fun _ => w) 1 ∧ ∀ q m, m < N1 q → m < N q := by
  rcases h.2.2 w hw with h1 | ⟨q0, i, hi, rfl⟩
  · exact ⟨N, SG_pot h hl hw h1, fun _ _ hm => hm⟩
  · rw [hl.covN h hi] at hcv
    have hn : N q0 - i = 1 := by
      have : ¬ i + 1 < N q0 := by simpa using hcv
      omega
    have hs := SG_on h hl hi
    rw [hn] at hs
    refine ⟨cutN N q0 i, SG_ext hs (fun k hk => by have : k = 0 := by omega
                                                   subst this; rfl), fun q m hm => ?_⟩
    unfold cutN at hm
    by_cases e : q = q0
    · rw [if_pos e] at hm; subst e; omega
    · rw [if_neg e] at hm; exact hm
/-- one wink moved, on both sides: R is the reference's row behind it -/
theorem one_P {r r0 b v : Nat → Int32} {N : Nat → Nat} {W : Nat → Nat → Nat} (h : Rc r N W) (hl : Rl r b v N W) (hp : Rp r N W) {w : Nat} (hw : w < 16) (hcv : cov v w = false) (e0 : ∀ x, x < 32 → r0 x = r x) {q1 : Nat} (hq : q1 < 169) : ∃ (N' : Nat → Nat) (W' : Nat → Nat → Nat), Rc (rly r0 w (nI q1)) N' W' ∧ Rp (rly r0 w (nI q1)) N' W' ∧ Rl (rly r0 w (nI q1)) (mov2 r b v w (nI q1)) (mov3 r b v w (nI q1)) N' W' ∧ ∀ x, x < 16 → mov1 r b v w (nI q1) x = rly r0 w (nI q1) x := by
  obtain ⟨N1, hs, hsub⟩ := SG_top h hl hw hcv
  have hs0 : SG r0 b (cutv b v w) N1 W (fun _ => w) 1 := SG_row hs (fun x hx => (e0 x (by omega)).symm)
  have hl0 := lay_P hw hs0 (fun q m hm => by
    have hm2 := hsub q m hm
    rw [e0 _ (by have := (h.1 q m hm2).1; omega)]
    exact hp.1 q m hm2) (fun x hx hne hx1 => by
    rw [e0 _ (by omega)] at hx1 ⊢
    exact hp.2 x hx hx1)
  by_cases h84 : q1 = 84
  · subst h84
    obtain ⟨m1, m2, m3, m4⟩ := mov_cup (S := fun _ => w) hs
    have ext : ∀ x, x < 16 → mov1 r b v w (nI 84) x = rly r0 w (nI 84) x := fun x hx => by
      by_cases e : x = w
      · rw [e]
        refine (m3 0 (by omega)).trans ?_
        unfold rly rly1
        rw [if_pos rfl, upd_ne9 (by omega)]
        exact upd_at9.symm
      · rw [rly_out e (by omega), e0 x (by omega)]
        exact m4 x (fun k _ e2 => e e2.symm)
    exact ⟨N1, W, hl0.1.1, hl0.1.2, Rl_ext m2 ext, ext⟩
  · obtain ⟨m1, m2, m3, m4⟩ := mov_on (S := fun _ => w) hq h84 hs
    obtain ⟨a1, a2⟩ := hl0.2 q1 hq h84
    have ext : ∀ x, x < 16 → mov1 r b v w (nI q1) x = rly r0 w (nI q1) x := fun x hx => by
      by_cases e : x = w
      · rw [e]
        refine (m3 0 (by omega)).trans ?_
        unfold rly
        rw [if_neg (nI_ne (by omega) (by omega) h84)]
        exact upd_at9.symm
      · rw [rly_out e (by omega), e0 x (by omega)]
        exact m4 x (fun k _ e2 => e e2.symm)
    exact ⟨_, _, a1, a2, Rl_ext m2 ext, ext⟩
/-- the turn passes, on both sides -/
theorem pass_P {R c' j0 : Nat → Int32} {t : Nat} (hcell : ∀ x, x < 16 → c' x = R x) (hlo : lo01 R) (hj : ∀ i, i < 4 → j0 i = R (52 + i)) (ht : t < 4) (hT : R 56 = nI t) : (∀ x, x < 52 ∨ 56 < x → rpass R t x = R x) ∧ (pasg c' t 8 j0 t).2 < 4 ∧ rTu (rpass R t) ∧ lo01 (rpass R t) ∧ (over (rpass R t) = false → nI (pasg c' t 8 j0 t).2 = rpass R t 56 ∧ rpass R t (52 + (pasg c' t 8 j0 t).2) = nI 0 ∧ ∀ i, i < 4 → (pasg c' t 8 j0 t).1 i = rpass R t (52 + i)) := by
  unfold rpass
  by_cases ho : over R = true
  · rw [if_pos ho]
    refine ⟨fun _ _ => rfl, pasg_lt c' t ht 8 j0 t, ?_, hlo, fun h => ?_⟩
    · unfold rTu
      rw [hT, ix_nI (by omega)]
      exact ⟨ht, rfl⟩
    · rw [ho] at h; cases h
  · rw [if_neg ho]
    have ho2 : over c' = false := (over_ext hcell).trans (bool_ff ho)
    obtain ⟨g1, g2, g3, g4, g5, g6⟩ := pass_eq (t0 := t) (fun k hk => over_f ho2 hk) 8 R j0 t hlo hj (on9_lt R)
    refine ⟨g6, g2, ?_, g5, fun _ => ⟨g1.symm, g4, g3⟩⟩
    unfold rTu
    rw [g1, ix_nI (by omega)]
    exact ⟨g2, rfl⟩
section PM
variable {r b v g h j : Nat → Int32} {t : Nat} {u z : Int32} {N : Nat → Nat} {W : Nat → Nat → Nat}
theorem wnf_0 {c v : Nat → Int32} {t w : Nat} (h : wnf c v t w = 0) : over c = false ∧ w / 4 = t ∧ pot c w = false ∧ cov v w = false := by
  unfold wnf at h
  by_cases h1 : over c = true
  · rw [if_pos h1] at h; omega
  · rw [if_neg h1] at h
    by_cases h2 : ¬ w / 4 = t
    · rw [if_pos h2] at h; omega
    · rw [if_neg h2] at h
      by_cases h3 : pot c w = true
      · rw [if_pos h3] at h; omega
      · rw [if_neg h3] at h
        by_cases h4 : cov v w = true
        · rw [if_pos h4] at h; omega
        · exact ⟨bool_ff h1, Decidable.not_not.mp h2, bool_ff h3, bool_ff h4⟩
theorem bs_lt (w : Nat) : bs (w / 4) < 169 ∧ bs (w / 4) ≠ 84 := by
  unfold bs
  repeat' split
  all_goals decide
/-- behind a flight -/
theorem Pos.fly (H : Pos r b v g h j t u z N W) {w : Nat} (hw : w < 16) (hwn : wnf r v t w = 0) {q : Int32} (hq : q = -1 ∨ ∃ q1, q1 < 169 ∧ q = nI q1) : ∃ (N' : Nat → Nat) (W' : Nat → Nat → Nat), Pos (rfx r w q t) (mov2 r b v w (rest9 w q)) (mov3 r b v w (rest9 w q)) (upd g w (g w + nI 1)) (flH h w q) (flP (mov1 r b v w (rest9 w q)) t w q (flH j w q)).1 (flP (mov1 r b v w (rest9 w q)) t w q (flH j w q)).2 u z N' W' ∧ ∀ x, x < 16 → mov1 r b v w (rest9 w q) x = rfx r w q t x := by
  obtain ⟨hov, hwt, hpt, hcv⟩ := wnf_0 hwn
  obtain ⟨hc, hl, hp, hg, hh, hu, hz, hsm, ht, hTu, hLo, ho⟩ := H
  obtain ⟨o1, o2, o3⟩ := ho hov
  have e0 : ∀ x, x < 32 → rf0 r w x = r x := fun x hx => rf0_out (by omega) (by omega)
  have f58 : rf0 r w 58 = r 58 + nI 1 := by
    unfold rf0
    rw [upd_at9, upd_ne9 (by omega)]
  have f32 : ∀ x, x < 16 → upd g w (g w + nI 1) x = rf0 r w (32 + x) := fun x hx => by
    have e9 : rf0 r w (32 + x) = upd r (32 + w) (r (32 + w) + nI 1) (32 + x) := by
      unfold rf0
      exact upd_ne9 (by omega)
    rw [e9]
    by_cases e : x = w
    · rw [e, upd_at9, upd_at9, hg w hw]
    · rw [upd_ne9 e, upd_ne9 (show 32 + x ≠ 32 + w by omega)]
      exact hg x hx
  have fsm : smi (upd g w (g w + nI 1)) 16 = r 58 + nI 1 := by rw [smi_up, if_pos hw, hsm]
  rcases hq with rfl | ⟨q1, hq1, rfl⟩
  · -- off
    have er : rest9 w (-1) = nI (bs (w / 4)) := by unfold rest9; rw [if_pos rfl]
    rw [er]
    obtain ⟨N', W', a1, a2, a3, a4⟩ := one_P hc hl hp hw hcv e0 (bs_lt w).1
    have eR : ∀ x, 32 ≤ x → rly (rf0 r w) w (nI (bs (w / 4))) x = rf0 r w x := fun x hx => rly_out (by omega) (by omega)
    have k1 : ∀ x, x ≠ 48 + w / 4 → x ≠ 52 + w / 4 → rf1 r w x = rly (rf0 r w) w (nI (bs (w / 4))) x := fun x h1 h2 => by
      unfold rf1
      rw [upd_ne9 h2, upd_ne9 h1]
    have k2 : rf1 r w (48 + w / 4) = r (48 + w / 4) + nI 1 := by
      unfold rf1
      rw [upd_ne9 (by omega), upd_at9, eR _ (by omega), rf0_out (by omega) (by omega)]
    have k3 : rf1 r w (52 + w / 4) = r (52 + w / 4) + nI 1 := by
      unfold rf1
      rw [upd_at9, upd_ne9 (by omega), eR _ (by omega), rf0_out (by omega) (by omega)]
    have kr : ∀ x, 48 ≤ x → x ≠ 58 → x ≠ 48 + w / 4 → x ≠ 52 + w / 4 → rf1 r w x = r x := fun x h1 h2 h3 h4 => by rw [k1 x h3 h4, eR x (by omega), rf0_out (by omega) h2]
    have hjl : ∀ i, i < 4 → flH j w (-1) i = rf1 r w (52 + i) := fun i hi => by
      unfold flH
      rw [if_pos rfl]
      by_cases e : i = w / 4
      · subst e; rw [upd_at9, k3, o3 _ hi]
      · rw [upd_ne9 e, kr _ (by omega) (by omega) (by omega) (by omega)]
        exact o3 i hi
    have hT : rf1 r w 56 = nI t := by rw [kr _ (by omega) (by omega) (by omega) (by omega)]; exact o1.symm
    have hcell : ∀ x, x < 16 → mov1 r b v w (nI (bs (w / 4))) x = rf1 r w x := fun x hx => (a4 x hx).trans (k1 x (by omega) (by omega)).symm
    obtain ⟨p1, p2, p3, p4, p5⟩ := pass_P hcell (rf1_lo hw hLo (by rw [hwt]; exact o2)) hjl ht hT
    have erx : rfx r w (-1) t = rpass (rf1 r w) t := by unfold rfx; rw [if_pos rfl]
    have efl : flP (mov1 r b v w (nI (bs (w / 4)))) t w (-1) (flH j w (-1)) = pasg (mov1 r b v w (nI (bs (w / 4)))) t 8 (flH j w (-1)) t := by unfold flP; rw [if_pos (Or.inl (by decide))]
    rw [erx, efl]
    have x32 : ∀ x, x < 32 → rpass (rf1 r w) t x = rly (rf0 r w) w (nI (bs (w / 4))) x := fun x hx => (p1 x (by omega)).trans (k1 x (by omega) (by omega))
    refine ⟨N', W', ⟨Rc_ext a1 (fun x hx => (x32 x (by omega)).symm), Rl_ext a3 (fun x hx => (x32 x (by omega)).symm), Rp_ext a1 a2 (fun x hx => (x32 x hx).symm), fun x hx => ?_, fun i hi => ?_, ?_, ?_, ?_, p2, p3, p4, p5⟩, fun x hx => (a4 x hx).trans (x32 x (by omega)).symm⟩
    · rw [p1 _ (by omega), k1 _ (by omega) (by omega), eR _ (by omega)]
      exact f32 x hx
    · rw [p1 _ (by omega)]
      unfold flH
      rw [if_pos rfl]
      by_cases e : i = w / 4
      · subst e; rw [upd_at9, k2, hh _ hi]
      · rw [upd_ne9 e, kr _ (by omega) (by omega) (by omega) (by omega)]
        exact hh i hi
    · rw [p1 _ (by omega), kr _ (by omega) (by omega) (by omega) (by omega)]; exact hu
    · rw [p1 _ (by omega), kr _ (by omega) (by omega) (by omega) (by omega)]; exact hz
    · rw [p1 _ (by omega), k1 _ (by omega) (by omega), eR _ (by omega), f58]
      exact fsm
  · have hne : nI q1 ≠ -1 := nI_m1 (by omega)
    have er : rest9 w (nI q1) = nI q1 := by unfold rest9; rw [if_neg hne]
    have ehH : flH h w (nI q1) = h := by unfold flH; rw [if_neg hne]
    have ehJ : flH j w (nI q1) = j := by unfold flH; rw [if_neg hne]
    rw [er, ehH, ehJ]
    obtain ⟨N', W', a1, a2, a3, a4⟩ := one_P hc hl hp hw hcv e0 hq1
    have eR : ∀ x, 32 ≤ x → rly (rf0 r w) w (nI q1) x = rf0 r w x := fun x hx => rly_out (by omega) (by omega)
    have kr : ∀ x, 48 ≤ x → x ≠ 58 → rly (rf0 r w) w (nI q1) x = r x := fun x h1 h2 => by rw [eR x (by omega), rf0_out (by omega) h2]
    by_cases h84 : nI q1 = nI 84
    · have erx : rfx r w (nI q1) t = rly (rf0 r w) w (nI q1) := by unfold rfx; rw [if_neg hne, if_pos h84]
      rw [erx]
      refine ⟨N', W', ⟨a1, a3, a2, fun x hx => by rw [eR _ (by omega)]; exact f32 x hx, fun i hi => by rw [kr _ (by omega) (by omega)]; exact hh i hi, by rw [kr _ (by omega) (by omega)]; exact hu, by rw [kr _ (by omega) (by omega)]; exact hz, by rw [eR _ (by omega), f58]; exact fsm, flP_lt _ _ _ ht _ _, ?_, fun i hi => by rw [kr _ (by omega) (by omega)]; exact hLo i hi, fun hov2 => ?_⟩, a4⟩
      · unfold rTu
        rw [kr _ (by omega) (by omega)]
        exact hTu
      · have hnp := over_f hov2 (k := w / 4) (by omega)
        rw [← potc_ext (by omega) a4] at hnp
        have efl : flP (mov1 r b v w (nI q1)) t w (nI q1) j = (j, t) := by
          unfold flP
          rw [if_neg (fun e => e.elim (fun e => e h84) hnp)]
        rw [efl, kr _ (by omega) (by omega)]
        refine ⟨o1, ?_, fun i hi => ?_⟩
        · rw [kr _ (by omega) (by show 52 + t ≠ 58; omega)]; exact o2
        · rw [kr _ (by omega) (by omega)]; exact o3 i hi
    · have erx : rfx r w (nI q1) t = rpass (rly (rf0 r w) w (nI q1)) t := by unfold rfx; rw [if_neg hne, if_neg h84]
      have efl : flP (mov1 r b v w (nI q1)) t w (nI q1) j = pasg (mov1 r b v w (nI q1)) t 8 j t := by unfold flP; rw [if_pos (Or.inl h84)]
      rw [erx, efl]
      obtain ⟨p1, p2, p3, p4, p5⟩ := pass_P (t := t) (j0 := j) a4 (fun i hi => by rw [kr _ (by omega) (by omega)]; exact hLo i hi) (fun i hi => by rw [kr _ (by omega) (by omega)]; exact o3 i hi) ht (by rw [kr _ (by omega) (by omega)]; exact o1.symm)
      refine ⟨N', W', ⟨Rc_ext a1 (fun x hx => (p1 x (by omega)).symm), Rl_ext a3 (fun x hx => (p1 x (by omega)).symm), Rp_ext a1 a2 (fun x hx => (p1 x (by omega)).symm), fun x hx => ?_, fun i hi => ?_, ?_, ?_, ?_, p2, p3, p4, p5⟩, fun x hx => (a4 x hx).trans (p1 x (by omega)).symm⟩
      · rw [p1 _ (by omega), eR _ (by omega)]; exact f32 x hx
      · rw [p1 _ (by omega), kr _ (by omega) (by omega)]; exact hh i hi
      · rw [p1 _ (by omega), kr _ (by omega) (by omega)]; exact hu
      · rw [p1 _ (by omega), kr _ (by omega) (by omega)]; exact hz
      · rw [p1 _ (by omega), eR _ (by omega), f58]; exact fsm
/-- behind put -/
theorem Pos.put (H : Pos r b v g h j t u z N W) {w : Nat} (hw : w < 16) (hov : over r = false) (hcv : cov v w = false) {q1 : Nat} (hq1 : q1 < 169) : ∃ (N' : Nat → Nat) (W' : Nat → Nat → Nat), Pos (rly r w (nI q1)) (mov2 r b v w (nI q1)) (mov3 r b v w (nI q1)) g h j t u z N' W' ∧ ∀ x, x < 16 → mov1 r b v w (nI q1) x = rly r w (nI q1) x := by
  obtain ⟨hc, hl, hp, hg, hh, hu, hz, hsm, ht, hTu, hLo, ho⟩ := H
  obtain ⟨o1, o2, o3⟩ := ho hov
  obtain ⟨N', W', a1, a2, a3, a4⟩ := one_P (r0 := r) hc hl hp hw hcv (fun _ _ => rfl) hq1
  have kr : ∀ x, 32 ≤ x → rly r w (nI q1) x = r x := fun x hx => rly_out (by omega) (by omega)
  refine ⟨N', W', ⟨a1, a3, a2, fun x hx => by rw [kr _ (by omega)]; exact hg x hx, fun i hi => by rw [kr _ (by omega)]; exact hh i hi, by rw [kr _ (by omega)]; exact hu, by rw [kr _ (by omega)]; exact hz, by rw [kr _ (by omega)]; exact hsm, ht, ?_, fun i hi => by rw [kr _ (by omega)]; exact hLo i hi, fun _ => ⟨by rw [kr _ (by omega)]; exact o1, by rw [kr _ (by omega)]; exact o2, fun i hi => by rw [kr _ (by omega)]; exact o3 i hi⟩⟩, a4⟩
  unfold rTu
  rw [kr _ (by omega)]
  exact hTu
/-- behind set -/
theorem Pos.set (H : Pos r b v g h j t u z N W) (x : Int32) : Pos (upd r 57 x) b v g h j t u x N W := by
  obtain ⟨hc, hl, hp, hg, hh, hu, hz, hsm, ht, hTu, hLo, ho⟩ := H
  have k : ∀ y, y ≠ 57 → upd r 57 x y = r y := fun y hy => upd_ne9 hy
  refine ⟨Rc_ext hc (fun y hy => (k y (by omega)).symm), Rl_ext hl (fun y hy => (k y (by omega)).symm), Rp_ext hc hp (fun y hy => (k y (by omega)).symm), fun w hw => by rw [k _ (by omega)]; exact hg w hw, fun i hi => by rw [k _ (by omega)]; exact hh i hi, by rw [k _ (by omega)]; exact hu, upd_at9.symm, by rw [k _ (by omega)]; exact hsm, ht, ?_, fun i hi => by rw [k _ (by omega)]; exact hLo i hi, fun hov => ?_⟩
  · unfold rTu
    rw [k _ (by omega)]
    exact hTu
  · rw [over_ext (fun y hy => k y (by omega))] at hov
    obtain ⟨o1, o2, o3⟩ := ho hov
    exact ⟨by rw [k _ (by omega)]; exact o1, by rw [k _ (by omega)]; exact o2, fun i hi => by rw [k _ (by omega)]; exact o3 i hi⟩
end PM
end
/-! from lift -/
section
/-! the lift, on both sides -/
theorem rbs_all : ∀ q, q < 169 → ∀ d, d < 8 → rbs q d = -1 ∨ (ix (rbs q d) < 169 ∧ ix (rbs q d) ≠ q ∧ rbs q d = nI (ix (rbs q d))) := by decide +kernel
section LF
variable {r b v : Nat → Int32} {N : Nat → Nat} {W : Nat → Nat → Nat} {q0 f d q1 : Nat}
def LA (r : Nat → Int32) (N : Nat → Nat) (W : Nat → Nat → Nat) (q0 f q1 : Nat) (R : Nat → Int32) (k : Nat) : Prop :=
  (∀ x, (∀ j, j < f → x ≠ W q0 (N q0 - f + j) ∧ x ≠ 16 + W q0 (N q0 - f + j)) → R x = r x) ∧
  (∀ j, j < k → R (W q0 (N q0 - f + j)) = (if q1 = 84 then -1 else nI q1) ∧ R (16 + W q0 (N q0 - f + j)) = (if q1 = 84 then -1 else nI (N q1 + j))) ∧
  (∀ j, k ≤ j → j < f → R (W q0 (N q0 - f + j)) = r (W q0 (N q0 - f + j)) ∧ R (16 + W q0 (N q0 - f + j)) = r (16 + W q0 (N q0 - f + j)))
theorem LA_wat (h : Rc r N W) (hp : Rp r N W) (hq0 : q0 < 169) (hq1 : q1 < 169) (hne : q1 ≠ q0) (hle : f ≤ N q0) {R : Nat → Int32} {k : Nat} (hk : k < f) (hA : LA r N W q0 f q1 R k) : wat R (nI q0) (nI (hgt r (nI q0) - f + k)) = nI (W q0 (N q0 - f + k)) := by
  obtain ⟨a1, a2, a3⟩ := hA
  have hN := h.le (q := q0) (by omega)
  rw [h.hgtN (by omega)]
  have hlt : N q0 - f + k < N q0 := by omega
  obtain ⟨b1, b2⟩ := a3 k (Nat.le_refl k) hk
  unfold wat
  refine fst_u 16 0 (Nat.zero_le _) (by have := (h.1 q0 _ hlt).1; omega) ?_ (fun x _ hx hr => ?_)
  · unfold rwt
    rw [b1, b2, (h.1 q0 _ hlt).2.2.2, hp.1 q0 _ hlt]
    simp
  · unfold rwt at hr
    simp only [Bool.and_eq_true, decide_eq_true_eq] at hr
    obtain ⟨r1, r2⟩ := hr
    by_cases hs : ∃ j, j < f ∧ x = W q0 (N q0 - f + j)
    · obtain ⟨j, hj, rfl⟩ := hs
      by_cases hjk : j < k
      · rw [(a2 j hjk).1] at r1
        by_cases e : q1 = 84
        · rw [if_pos e] at r1; exact absurd r1.symm (nI_m1 (by omega))
        · rw [if_neg e] at r1; exact absurd r1 (nI_ne (by omega) (by omega) hne)
      · rw [(a3 j (by omega) hj).2, hp.1 q0 (N q0 - f + j) (by omega)] at r2
        have := nI_inj (by omega) (by omega) r2
        rw [show j = k by omega]
    · have hxn : ∀ j, j < f → x ≠ W q0 (N q0 - f + j) := fun j hj e => hs ⟨j, hj, e⟩
      have hw16 : ∀ j, j < f → W q0 (N q0 - f + j) < 16 := fun j hj => (h.1 q0 _ (by omega)).1
      rw [a1 x (fun j hj => ⟨hxn j hj, by omega⟩)] at r1
      rw [a1 (16 + x) (fun j hj => ⟨by have := hw16 j hj; omega, by have := hxn j hj; omega⟩)] at r2
      obtain ⟨m, hm, rfl⟩ := h.cell (by omega) (by omega) r1
      rw [hp.1 q0 m hm] at r2
      have := nI_inj (by omega) (by omega) r2
      rw [this]
theorem rlf_P (h : Rc r N W) (hp : Rp r N W) (hq0 : q0 < 169) (hq1 : q1 < 169) (hne : q1 ≠ q0) (hle : f ≤ N q0) (hrb : rbs q0 d = nI q1) : ∀ k, k ≤ f → LA r N W q0 f q1 (rlf r q0 f d k) k
  | 0, _ => ⟨fun _ _ => rfl, fun j hj => absurd hj (Nat.not_lt_zero _), fun _ _ _ => ⟨rfl, rfl⟩⟩
  | k + 1, hk => by
    have ih := rlf_P h hp hq0 hq1 hne hle hrb k (by omega)
    have hw := LA_wat h hp hq0 hq1 hne hle (show k < f by omega) ih
    have hN := h.le (q := q0) (by omega)
    have h16 : ∀ j, j < f → W q0 (N q0 - f + j) < 16 := fun j hj => (h.1 q0 _ (by omega)).1
    have hinj : ∀ j m, j < f → m < f → W q0 (N q0 - f + j) = W q0 (N q0 - f + m) → j = m := fun j m hj hm e => by
      have := h.2.1 q0 _ _ (show N q0 - f + j < N q0 by omega) (show N q0 - f + m < N q0 by omega) e
      omega
    simp only [rlf]
    rw [hw, hrb, ix_nI (by have := h16 k (by omega); omega)]
    generalize hR : rlf r q0 f d k = R at ih ⊢
    obtain ⟨a1, a2, a3⟩ := ih
    have ne16 : ∀ j, j < f → j ≠ k → W q0 (N q0 - f + j) ≠ W q0 (N q0 - f + k) ∧ W q0 (N q0 - f + j) ≠ 16 + W q0 (N q0 - f + k) ∧ 16 + W q0 (N q0 - f + j) ≠ W q0 (N q0 - f + k) ∧ 16 + W q0 (N q0 - f + j) ≠ 16 + W q0 (N q0 - f + k) := fun j hj hjk => by
      have e1 : W q0 (N q0 - f + j) ≠ W q0 (N q0 - f + k) := fun e => hjk (hinj j k hj (by omega) e)
      have := h16 j hj
      have := h16 k (by omega)
      exact ⟨e1, by omega, by omega, by omega⟩
    have hself : rly R (W q0 (N q0 - f + k)) (nI q1) (W q0 (N q0 - f + k)) = (if q1 = 84 then -1 else nI q1) ∧ rly R (W q0 (N q0 - f + k)) (nI q1) (16 + W q0 (N q0 - f + k)) = (if q1 = 84 then -1 else nI (N q1 + k)) := by
      have hk16 := h16 k (by omega)
      by_cases e : q1 = 84
      · subst e
        rw [if_pos rfl, if_pos rfl]
        unfold rly rly1
        rw [if_pos rfl]
        exact ⟨by rw [upd_ne9 (by omega)]; exact upd_at9, upd_at9⟩
      · rw [if_neg e, if_neg e]
        have hcount : hgt (rly1 R (W q0 (N q0 - f + k))) (nI q1) = N q1 + k := by
          have own : rly1 R (W q0 (N q0 - f + k)) (W q0 (N q0 - f + k)) = -1 := by unfold rly1; rw [upd_ne9 (by omega)]; exact upd_at9
          have oth1 : ∀ x, x < 16 → x ≠ W q0 (N q0 - f + k) → rly1 R (W q0 (N q0 - f + k)) x = R x := fun x hx hne2 => rly1_out hne2 (by omega)
          have hold : ∀ m, m < N q1 → ∀ j, j < f → W q1 m ≠ W q0 (N q0 - f + j) := fun m hm j hj e2 => hne (h.one hm (show N q0 - f + j < N q0 by omega) e2).1
          have hRold : ∀ m, m < N q1 → R (W q1 m) = nI q1 := fun m hm => by
            have h1 := h.1 q1 m hm
            rw [a1 _ (fun j hj => ⟨hold m hm j hj, by have := h16 j hj; omega⟩)]
            exact h1.2.2.2
          unfold hgt
          refine cnt_w (W := fun m => if m < N q1 then W q1 m else W q0 (N q0 - f + (m - N q1))) (N q1 + k) (fun m hm => ?_) (fun x hx hpx => ?_) (fun m m' hm hm' e2 => ?_)
          · by_cases hmN : m < N q1
            · simp only [if_pos hmN]
              refine ⟨(h.1 q1 m hmN).1, ?_⟩
              rw [oth1 _ (h.1 q1 m hmN).1 (hold m hmN k (by omega)), hRold m hmN]
              simp
            · simp only [if_neg hmN]
              refine ⟨h16 _ (by omega), ?_⟩
              rw [oth1 _ (h16 _ (by omega)) (ne16 _ (by omega) (by omega)).1, (a2 (m - N q1) (by omega)).1, if_neg e]
              simp
          · have hpx : rly1 R (W q0 (N q0 - f + k)) x = nI q1 := by simpa using hpx
            by_cases ex : x = W q0 (N q0 - f + k)
            · rw [ex, own] at hpx
              exact absurd hpx.symm (nI_m1 (by omega))
            · rw [oth1 x hx ex] at hpx
              by_cases hs : ∃ j, j < f ∧ x = W q0 (N q0 - f + j)
              · obtain ⟨j, hj, rfl⟩ := hs
                by_cases hjk : j < k
                · refine ⟨N q1 + j, by omega, ?_⟩
                  simp only [if_neg (show ¬ N q1 + j < N q1 by omega), show N q1 + j - N q1 = j by omega]
                · rw [(a3 j (by omega) hj).1, (h.1 q0 _ (show N q0 - f + j < N q0 by omega)).2.2.2] at hpx
                  exact absurd hpx (nI_ne (by omega) (by omega) (fun e9 => hne e9.symm))
              · rw [a1 x (fun j hj => ⟨fun e9 => hs ⟨j, hj, e9⟩, by omega⟩)] at hpx
                obtain ⟨m, hm, rfl⟩ := h.cell (by omega) hx hpx
                exact ⟨m, by omega, by simp only [if_pos hm]⟩
          · by_cases g1 : m < N q1
            · by_cases g2 : m' < N q1
              · simp only [if_pos g1, if_pos g2] at e2
                exact h.2.1 q1 m m' g1 g2 e2
              · simp only [if_pos g1, if_neg g2] at e2
                exact absurd e2 (hold m g1 _ (by omega))
            · by_cases g2 : m' < N q1
              · simp only [if_neg g1, if_pos g2] at e2
                exact absurd e2.symm (hold m' g2 _ (by omega))
              · simp only [if_neg g1, if_neg g2] at e2
                have := hinj _ _ (show m - N q1 < f by omega) (show m' - N q1 < f by omega) e2
                omega
        unfold rly
        rw [if_neg (nI_ne (by omega) (by omega) e), hcount]
        exact ⟨upd_at9, by rw [upd_ne9 (by omega)]; exact upd_at9⟩
    refine ⟨fun x hx => ?_, fun j hj => ?_, fun j hkj hj => ?_⟩
    · obtain ⟨g1, g2⟩ := hx k (by omega)
      rw [rly_out g1 g2]
      exact a1 x hx
    · by_cases e : j = k
      · rw [e]; exact hself
      · obtain ⟨n1, n2, n3, n4⟩ := ne16 j (by omega) e
        rw [rly_out n1 n2, rly_out n3 n4]
        exact a2 j (by omega)
    · obtain ⟨n1, n2, n3, n4⟩ := ne16 j hj (by omega)
      rw [rly_out n1 n2, rly_out n3 n4]
      exact a3 j (by omega) hj
/-- the winks to be lifted are there, each at its time -/
theorem rlW_P (h : Rc r N W) (hp : Rp r N W) (hq0 : q0 < 169) (hq1 : q1 < 169) (hne : q1 ≠ q0) (hle : f ≤ N q0) (hrb : rbs q0 d = nI q1) : rlW r q0 f d := fun k hk => by
  rw [LA_wat h hp hq0 hq1 hne hle hk (rlf_P h hp hq0 hq1 hne hle hrb k (by omega))]
  exact wk_nI (h.1 q0 _ (by omega)).1
/-- the upper winks of a pile moved, on both sides -/
theorem many_P (h : Rc r N W) (hl : Rl r b v N W) (hp : Rp r N W) (hf : 1 ≤ f) (hq0 : q0 < 169) (hq1 : q1 < 169) (hne : q1 ≠ q0) (hle : f ≤ N q0) (hrb : rbs q0 d = nI q1) : ∃ (N' : Nat → Nat) (W' : Nat → Nat → Nat), Rc (rlf r q0 f d f) N' W' ∧ Rp (rlf r q0 f d f) N' W' ∧ Rl (rlf r q0 f d f) (mov2 r b v (W q0 (N q0 - f)) (nI q1)) (mov3 r b v (W q0 (N q0 - f)) (nI q1)) N' W' ∧ (∀ x, x < 16 → mov1 r b v (W q0 (N q0 - f)) (nI q1) x = rlf r q0 f d f x) ∧ N' q0 = N q0 - f := by
  have hN := h.le (q := q0) (by omega)
  have hs := SG_on h hl (show N q0 - f < N q0 by omega)
  rw [show N q0 - (N q0 - f) = f by omega] at hs
  obtain ⟨a1, a2, -⟩ := rlf_P h hp hq0 hq1 hne hle hrb f (Nat.le_refl f)
  have h16 : ∀ j, j < f → W q0 (N q0 - f + j) < 16 := fun j hj => (h.1 q0 _ (by omega)).1
  have hc0 : cutN N q0 (N q0 - f) q0 = N q0 - f := by unfold cutN; rw [if_pos rfl]
  have hc1 : cutN N q0 (N q0 - f) q1 = N q1 := by unfold cutN; rw [if_neg hne]
  have hsub : ∀ q m, m < cutN N q0 (N q0 - f) q → m < N q := fun q m hm => by
    unfold cutN at hm
    by_cases e : q = q0
    · rw [if_pos e] at hm; subst e; omega
    · rw [if_neg e] at hm; exact hm
  obtain ⟨g1, g2, g3, g4, g5, g6, g7, g8, g9, g10, g11⟩ := id hs
  have hA : ∀ w, w < 16 → (∃ k, k < f ∧ W q0 (N q0 - f + k) = w) ∨ r w = -1 ∨ ∃ q m, m < cutN N q0 (N q0 - f) q ∧ W q m = w := fun w hw => (g11 w hw).imp id (fun g => g.imp (fun g => g.1) id)
  have c2 : ∀ y, y < 16 → (∀ k, k < f → W q0 (N q0 - f + k) ≠ y) → rlf r q0 f d f y = r y := fun y hy hy2 => a1 y (fun j hj => ⟨fun e => hy2 j hj e.symm, by omega⟩)
  have p2 : ∀ y, y < 16 → (∀ k, k < f → W q0 (N q0 - f + k) ≠ y) → rlf r q0 f d f (16 + y) = r (16 + y) := fun y hy hy2 => a1 (16 + y) (fun j hj => ⟨by have := h16 j hj; omega, by have := hy2 j hj; omega⟩)
  by_cases h84 : q1 = 84
  · subst h84
    obtain ⟨m1, m2, m3, m4⟩ := mov_cup (S := fun k => W q0 (N q0 - f + k)) hs
    have c1 : ∀ k, k < f → rlf r q0 f d f (W q0 (N q0 - f + k)) = -1 := fun k hk => by rw [(a2 k hk).1, if_pos rfl]
    have ext : ∀ x, x < 16 → mov1 r b v (W q0 (N q0 - f)) (nI 84) x = rlf r q0 f d f x := fun x hx => by
      by_cases hx2 : ∃ k, k < f ∧ W q0 (N q0 - f + k) = x
      · obtain ⟨k, hk, rfl⟩ := hx2
        rw [c1 k hk]; exact m3 k hk
      · rw [c2 x hx (fun k hk e => hx2 ⟨k, hk, e⟩)]
        exact m4 x (fun k hk e => hx2 ⟨k, hk, e⟩)
    refine ⟨cutN N q0 (N q0 - f), W, Rc_cup g7 g8 hA c1 c2, ⟨fun q m hm => ?_, fun w hw hw1 => ?_⟩, Rl_ext m2 ext, ext, hc0⟩
    · rw [p2 _ (g7 q m hm).1 (fun k hk e => (g7 q m hm).2.2.2.2 k hk e.symm)]
      exact hp.1 q m (hsub q m hm)
    · by_cases hx2 : ∃ k, k < f ∧ W q0 (N q0 - f + k) = w
      · obtain ⟨k, hk, rfl⟩ := hx2
        rw [(a2 k hk).2, if_pos rfl]
      · rw [c2 w hw (fun k hk e => hx2 ⟨k, hk, e⟩)] at hw1
        rw [p2 w hw (fun k hk e => hx2 ⟨k, hk, e⟩)]
        exact hp.2 w hw hw1
  · obtain ⟨m1, m2, m3, m4⟩ := mov_on (S := fun k => W q0 (N q0 - f + k)) hq1 h84 hs
    have c1 : ∀ k, k < f → rlf r q0 f d f (W q0 (N q0 - f + k)) = nI q1 := fun k hk => by rw [(a2 k hk).1, if_neg h84]
    have ext : ∀ x, x < 16 → mov1 r b v (W q0 (N q0 - f)) (nI q1) x = rlf r q0 f d f x := fun x hx => by
      by_cases hx2 : ∃ k, k < f ∧ W q0 (N q0 - f + k) = x
      · obtain ⟨k, hk, rfl⟩ := hx2
        rw [c1 k hk]; exact m3 k hk
      · rw [c2 x hx (fun k hk e => hx2 ⟨k, hk, e⟩)]
        exact m4 x (fun k hk e => hx2 ⟨k, hk, e⟩)
    refine ⟨_, _, Rc_on hq1 h84 g3 g4 g7 g8 hA c1 c2, ⟨fun q m hm => ?_, fun w hw hw1 => ?_⟩, Rl_ext m2 ext, ext, ?_⟩
    · rcases onN_cases hm with g | ⟨rfl, k, hk, rfl⟩
      · rw [onW_old g, p2 _ (g7 q m g).1 (fun k hk e => (g7 q m g).2.2.2.2 k hk e.symm)]
        exact hp.1 q m (hsub q m g)
      · rw [onW_new, (a2 k hk).2, if_neg h84, hc1]
    · by_cases hx2 : ∃ k, k < f ∧ W q0 (N q0 - f + k) = w
      · obtain ⟨k, hk, rfl⟩ := hx2
        rw [c1 k hk] at hw1
        exact absurd hw1 (nI_m1 (by omega))
      · rw [c2 w hw (fun k hk e => hx2 ⟨k, hk, e⟩)] at hw1
        rw [p2 w hw (fun k hk e => hx2 ⟨k, hk, e⟩)]
        exact hp.2 w hw hw1
    · unfold onN
      rw [if_neg (fun e => hne e.symm)]
      exact hc0
end LF
theorem rwl_z {r : Nat → Int32} {q n d : Nat} (h : rwl r q n d = 0) : over r = false ∧ n ≤ hgt r (nI q) ∧ wat r (nI q) (nI (hgt r (nI q) - 1)) / nI 4 = r 56 ∧ rbs q d ≠ -1 := by
  unfold rwl at h
  by_cases h1 : over r = true
  · rw [if_pos h1] at h; omega
  · rw [if_neg h1] at h
    by_cases h2 : hgt r (nI q) < n
    · rw [if_pos h2] at h; omega
    · rw [if_neg h2] at h
      by_cases h3 : ¬ wat r (nI q) (nI (hgt r (nI q) - 1)) / nI 4 = r 56
      · rw [if_pos h3] at h; omega
      · rw [if_neg h3] at h
        by_cases h4 : ¬ nI n ≤ r 57
        · rw [if_pos h4] at h; omega
        · rw [if_neg h4] at h
          by_cases h5 : rbs q d = -1
          · rw [if_pos h5] at h; omega
          · exact ⟨bool_ff h1, by omega, Decidable.not_not.mp h3, h5⟩
section PL2
variable {r b v g h j : Nat → Int32} {t : Nat} {u z : Int32} {N : Nat → Nat} {W : Nat → Nat → Nat}
theorem Pos.rli (H : Pos r b v g h j t u z N W) : rLi r := fun q n d hq hn hn6 hd hw => by
  obtain ⟨hc, hl, hp, -⟩ := H
  obtain ⟨-, w2, -, w4⟩ := rwl_z hw
  rw [hc.hgtN (by omega)] at w2
  rcases rbs_all q hq d hd with e | ⟨e1, e2, e3⟩
  · exact absurd e w4
  · exact rlW_P hc hp hq e1 e2 w2 e3
theorem Pos.rok (H : Pos r b v g h j t u z N W) : rok r := by
  have hli := H.rli
  obtain ⟨hc, hl, hp, -, -, -, -, -, ht, hTu, hLo, ho⟩ := H
  refine ⟨hTu, hLo, fun w hw hpt => ?_, fun w hw hwn => ?_, hli⟩
  · rcases hc.2.2 w hw with e | ⟨q, i, hi, e⟩
    · unfold pot at hpt; rw [e] at hpt; simp at hpt
    · exact ⟨q, hc.q hi, by rw [← e]; exact (hc.1 q i hi).2.2.2⟩
  · obtain ⟨w1, w2, -, -⟩ := rwn_0 hwn
    obtain ⟨o1, o2, -⟩ := ho w1
    have : w / 4 = t := nI_inj (by omega) (by omega) (w2.symm.trans o1.symm)
    rw [this]
    exact o2
/-- behind a lift -/
theorem Pos.lift (H : Pos r b v g h j t u z N W) {x y f d : Nat} (hx : x < 13) (hy : y < 13) (hf : 1 ≤ f ∧ f ≤ 6) (hd : d < 8) (hwn : rwl r (13 * y + x) f d = 0) : ∃ (N' : Nat → Nat) (W' : Nat → Nat → Nat), Pos (rlx r (13 * y + x) f d t) (liB r b v (nI x) (nI y) f (nI d)) (liV r b v (nI x) (nI y) f (nI d)) g h (pasg (liC r b v (nI x) (nI y) f (nI d)) t 8 j t).1 (pasg (liC r b v (nI x) (nI y) f (nI d)) t 8 j t).2 (u + nI 1) z N' W' ∧ (∀ c, c < 16 → liC r b v (nI x) (nI y) f (nI d) c = rlx r (13 * y + x) f d t c) ∧ nI (hgt (liC r b v (nI x) (nI y) f (nI d)) (cat (nI x) (nI y))) = nI (hgt r (nI (13 * y + x)) - f) := by
  have hli := H.rli
  obtain ⟨hc, hl, hp, hg, hh, hu, hz, hsm, ht, hTu, hLo, ho⟩ := H
  obtain ⟨hov, w2, -, w4⟩ := rwl_z hwn
  obtain ⟨o1, o2, o3⟩ := ho hov
  have hq : 13 * y + x < 169 := by omega
  have hrW := hli _ f d hq hf.1 hf.2 hd hwn
  have hcat : cat (nI x) (nI y) = nI (13 * y + x) := by unfold cat; rw [pk_mul, nI_add]
  have hrb : beside (nI x) (nI y) (nI d) = rbs (13 * y + x) d := by
    unfold rbs
    rw [show (13 * y + x) % 13 = x by omega, show (13 * y + x) / 13 = y by omega]
  rw [hc.hgtN (by omega)] at w2
  obtain ⟨q1, e1, e2, e3⟩ : ∃ q1, q1 < 169 ∧ q1 ≠ 13 * y + x ∧ rbs (13 * y + x) d = nI q1 := by
    rcases rbs_all _ hq d hd with e | ⟨e1, e2, e3⟩
    · exact absurd e w4
    · exact ⟨_, e1, e2, e3⟩
  have hlow : low r b v (cat (nI x) (nI y)) f = nI (W (13 * y + x) (N (13 * y + x) - f)) := by rw [hcat, hl.lowN hc (by omega) hf.1, if_pos w2]
  have hw16 := (hc.1 (13 * y + x) (N (13 * y + x) - f) (by omega)).1
  have eC : liC r b v (nI x) (nI y) f (nI d) = mov1 r b v (W (13 * y + x) (N (13 * y + x) - f)) (nI q1) := by unfold liC; rw [hlow, if_pos (wk_nI hw16), ix_nI (by omega), hrb, e3]
  have eB : liB r b v (nI x) (nI y) f (nI d) = mov2 r b v (W (13 * y + x) (N (13 * y + x) - f)) (nI q1) := by unfold liB; rw [hlow, if_pos (wk_nI hw16), ix_nI (by omega), hrb, e3]
  have eV : liV r b v (nI x) (nI y) f (nI d) = mov3 r b v (W (13 * y + x) (N (13 * y + x) - f)) (nI q1) := by unfold liV; rw [hlow, if_pos (wk_nI hw16), ix_nI (by omega), hrb, e3]
  rw [eC, eB, eV]
  obtain ⟨N', W', a1, a2, a3, a4, a5⟩ := many_P hc hl hp hf.1 hq e1 e2 w2 e3
  have kr : ∀ i, 32 ≤ i → i ≠ 59 → upd (rlf r (13 * y + x) f d f) 59 (rlf r (13 * y + x) f d f 59 + nI 1) i = r i := fun i hi h59 => by rw [upd_ne9 h59, rlf_hi hrW hi f (Nat.le_refl f)]
  have k0 : ∀ i, i < 32 → upd (rlf r (13 * y + x) f d f) 59 (rlf r (13 * y + x) f d f 59 + nI 1) i = rlf r (13 * y + x) f d f i := fun i hi => upd_ne9 (by omega)
  have k59 : upd (rlf r (13 * y + x) f d f) 59 (rlf r (13 * y + x) f d f 59 + nI 1) 59 = r 59 + nI 1 := by rw [upd_at9, rlf_hi hrW (by omega) f (Nat.le_refl f)]
  obtain ⟨p1, p2, p3, p4, p5⟩ := pass_P (t := t) (j0 := j) (R := upd (rlf r (13 * y + x) f d f) 59 (rlf r (13 * y + x) f d f 59 + nI 1)) (fun c hc9 => (a4 c hc9).trans (k0 c (by omega)).symm) (fun i hi => by rw [kr _ (by omega) (by omega)]; exact hLo i hi) (fun i hi => by rw [kr _ (by omega) (by omega)]; exact o3 i hi) ht (by rw [kr _ (by omega) (by omega)]; exact o1.symm)
  have x32 : ∀ i, i < 32 → rlx r (13 * y + x) f d t i = rlf r (13 * y + x) f d f i := fun i hi => (p1 i (by omega)).trans (k0 i hi)
  refine ⟨N', W', ⟨Rc_ext a1 (fun i hi => (x32 i (by omega)).symm), Rl_ext a3 (fun i hi => (x32 i (by omega)).symm), Rp_ext a1 a2 (fun i hi => (x32 i hi).symm), fun w hw => ?_, fun i hi => ?_, ?_, ?_, ?_, p2, p3, p4, p5⟩, fun c hc9 => (a4 c hc9).trans (x32 c (by omega)).symm, ?_⟩
  · exact ((hg w hw).trans (kr _ (by omega) (by omega)).symm).trans (p1 _ (by omega)).symm
  · exact ((hh i hi).trans (kr _ (by omega) (by omega)).symm).trans (p1 _ (by omega)).symm
  · rw [hu]; exact k59.symm.trans (p1 _ (by omega)).symm
  · exact (hz.trans (kr _ (by omega) (by omega)).symm).trans (p1 _ (by omega)).symm
  · exact (hsm.trans (kr _ (by omega) (by omega)).symm).trans (p1 _ (by omega)).symm
  · have hh1 : hgt (mov1 r b v (W (13 * y + x) (N (13 * y + x) - f)) (nI q1)) (nI (13 * y + x)) = N' (13 * y + x) := by
      have := Rc_ext a1 (fun i hi => (a4 i hi).symm)
      exact this.hgtN (by omega)
    rw [hcat, hh1, a5, hc.hgtN (by omega)]
end PL2
end
/-! from clparts -/
section
theorem cod_at {a : Nat → Int32} {n i : Nat} (h : i < n) : cod a n i = a i := by unfold cod; rw [if_pos h]
set_option maxRecDepth 100000 in
set_option maxHeartbeats 4000000 in
theorem tX5_doFlightPart (l : Launch) (D : va_G) (cI cQ cL : ClassId) (ad : Nat → Nat) (N : Nat) (F : Nat → va_E) (hk : 76 < N) (c b v g h j : Nat → Int32) (t : Nat) (u z : Int32) (hN : stAt cI ad F 1 c b v g h j (nI t) u z) (a : Nat → Int32) (n : Nat) (hn60 : n ≤ 60) (hT : gtAt cI ad F 67 a n) (hs : Bool) (hC : F 0 = .inr (5, [.ref (ad 1), .ref (ad 9), .ref (ad 17), .ref (ad 67), .ref (ad 69), .ref (ad 73), .int (bI hs)])) (ht : t < 4) (k : Nat) (hkn : k + 3 < n) (e9 d f : Nat) (he : e9 < 4) (hd : d < 8) (hf : 1 ≤ f ∧ f ≤ 9) (h1 : a (k + 1) = nI (48 + e9)) (h2 : a (k + 2) = nI (48 + d)) (h3 : a (k + 3) = nI (48 + f)) (hwn : wnf c v t (4 * t + e9) = 0) : MX l yX5_doFlightPart (Cond.code yX5_doFlightPart cX5_doFlightPart 3 (some .boolean) :: AW) ({ frames := 4, cells := 0, slots := 0, locals := 93 } : Room) D cI cQ cL ad N F [.ref (ad 0), .int (nI k)] (dp (some (.int (nI 1))) (sSet cI ad F 1 (mov1 c b v (4 * t + e9) (rest9 (4 * t + e9) (flE c (4 * t + e9) (nI d) f))) (mov2 c b v (4 * t + e9) (rest9 (4 * t + e9) (flE c (4 * t + e9) (nI d) f))) (mov3 c b v (4 * t + e9) (rest9 (4 * t + e9) (flE c (4 * t + e9) (nI d) f))) (upd g (4 * t + e9) (g (4 * t + e9) + nI 1)) (flH h (4 * t + e9) (flE c (4 * t + e9) (nI d) f)) ((flP (mov1 c b v (4 * t + e9) (rest9 (4 * t + e9) (flE c (4 * t + e9) (nI d) f))) t (4 * t + e9) (flE c (4 * t + e9) (nI d) f) (flH j (4 * t + e9) (flE c (4 * t + e9) (nI d) f))).1) (nI ((flP (mov1 c b v (4 * t + e9) (rest9 (4 * t + e9) (flE c (4 * t + e9) (nI d) f))) t (4 * t + e9) (flE c (4 * t + e9) (nI d) f) (flH j (4 * t + e9) (flE c (4 * t + e9) (nI d) f))).2)) u z)) 0 0 := by
  refine mx_i (ty := .boolean) (by decide +kernel) rfl (Nat.le_of_ble_eq_true rfl) (fun p e s m below meth cd Q ls hx hb hml hown hts hDi hP hK hNW hS hret hl => ?_)
  have hown : s.vm.findClass RX5 = some m.cls := hown
  have k1 : cod a n (k + 1) = nI (48 + e9) := (cod_at (by omega)).trans h1
  have k2 : cod a n (k + 2) = nI (48 + d) := (cod_at (by omega)).trans h2
  have k3 : cod a n (k + 3) = nI (48 + f) := (cod_at (by omega)).trans h3
  have hl : lv_has ls 3 [(0, .ref (ad 0)), (1, .int (nI k))] := hl
  refine lv_iconst (v := nI 4) hx hb (dk kX5_doFlightPart_ok 0 rfl) rfl ?_
  refine lv_aload_n hx hb (dk kX5_doFlightPart_ok 1 rfl) rfl (lv_at hl 0 rfl) ?_
  refine gf hx hb hts (fun w h => List.mem_cons_of_mem _ (acX5 w h)) hown hK hP (by omega) hC rfl 0 (by decide) (hts _ (List.mem_cons_of_mem _ (ac7 _ (List.mem_of_getElem? (i := 21) rfl)))) (fun _ h => h) rfl (dk kX5_doFlightPart_ok 2 rfl) ?_
  refine gfN hx hb hts (fun w h => List.mem_cons_of_mem _ (acX4 w h)) hown hK hP (by omega) hN.1 rfl 4 (by decide) (nf6 hNW) (fun _ h => h) rfl (dk kX5_doFlightPart_ok 3 rfl) ?_
  refine n_imul hx hb (dk kX5_doFlightPart_ok 4 rfl) ?_
  refine lv_aload_n hx hb (dk kX5_doFlightPart_ok 5 rfl) rfl (lv_at hl 0 rfl) ?_
  refine gf hx hb hts (fun w h => List.mem_cons_of_mem _ (acX5 w h)) hown hK hP (by omega) hC rfl 3 (by decide) (hts _ (List.mem_cons_of_mem _ (ac8 _ (List.mem_of_getElem? (i := 5) rfl)))) (fun _ h => h) rfl (dk kX5_doFlightPart_ok 6 rfl) ?_
  refine lv_iload_n hx hb (dk kX5_doFlightPart_ok 7 rfl) rfl (lv_at hl 1 rfl) ?_
  refine lv_iconst (v := nI 1) hx hb (dk kX5_doFlightPart_ok 8 rfl) rfl ?_
  refine n_iadd hx hb (dk kX5_doFlightPart_ok 9 rfl) ?_
  refine cvR (As := [.int (nI (k + 1))]) (rest := [.int (nI (4 * t))]) ⟨hx, hb, hml, hown, hts⟩ (tX0_codeAt l D cI cQ cL ad N F 67 (by omega) a n hn60 hT (nI (k + 1)) (k + 1) rfl (by omega)) (cwV9 1 hts mcX0_codeAt (ac11 _ (List.mem_of_getElem? (i := 2) rfl)) miX0_codeAt meX0_codeAt mini_RX0 rfl rfl hdX0_codeAt ⟨Nat.le_of_ble_eq_true rfl, Nat.le_of_ble_eq_true rfl⟩) hK hP hNW (by omega) hT.1 rfl rfl hl.1 rfl (Nat.le_of_ble_eq_true rfl) ⟨Nat.le_of_ble_eq_true rfl, Nat.le_of_ble_eq_true rfl⟩ (dk kX5_doFlightPart_ok 10 rfl) ?_
  rw [k1]
  refine n_iadd hx hb (dk kX5_doFlightPart_ok 11 rfl) ?_
  refine lv_bipush (v := nI 48) hx hb (dk kX5_doFlightPart_ok 12 rfl) rfl ?_
  refine n_isub hx hb (by omega) (dk kX5_doFlightPart_ok 13 rfl) ?_
  rw [show 4 * t + (48 + e9) - 48 = 4 * t + e9 by omega]
  refine lv_istore_n (lv' := [(2, .int (nI (4 * t + e9))), (0, .ref (ad 0)), (1, .int (nI k))]) hx hb (dk kX5_doFlightPart_ok 14 rfl) rfl hl (by decide) rfl (fun ls hl => ?_)
  refine lv_iload_n hx hb (dk kX5_doFlightPart_ok 15 rfl) rfl (lv_at hl 0 rfl) ?_
  refine csP (As := [.int (nI (4 * t + e9))]) (rest := []) ⟨hx, hb, hml, hown, hts⟩ (tX5_isWink l (nI (4 * t + e9))) (cwS9 1 hts mcX5_isWink (ac8 _ (List.mem_of_getElem? (i := 22) rfl)) msX5_isWink mini_RX5 rfl rfl hdX5_isWink ⟨Nat.le_of_ble_eq_true rfl, Nat.le_of_ble_eq_true rfl⟩) rfl hl.1 rfl (Nat.le_of_ble_eq_true rfl) ⟨Nat.le_of_ble_eq_true rfl, Nat.le_of_ble_eq_true rfl⟩ (dk kX5_doFlightPart_ok 16 rfl) ?_
  rw [wk_nI (show 4 * t + e9 < 16 by omega)]
  refine b_if_eq (tgt := 42) hx hb (dk kX5_doFlightPart_ok 17 rfl) (by decide) (fun h9 => nomatch h9) (fun _ => ?_)
  refine lv_aload_n hx hb (dk kX5_doFlightPart_ok 18 rfl) rfl (lv_at hl 1 rfl) ?_
  refine gf hx hb hts (fun w h => List.mem_cons_of_mem _ (acX5 w h)) hown hK hP (by omega) hC rfl 0 (by decide) (hts _ (List.mem_cons_of_mem _ (ac7 _ (List.mem_of_getElem? (i := 21) rfl)))) (fun _ h => h) rfl (dk kX5_doFlightPart_ok 19 rfl) ?_
  refine lv_iload_n hx hb (dk kX5_doFlightPart_ok 20 rfl) rfl (lv_at hl 0 rfl) ?_
  refine cvR (As := [.int (nI (4 * t + e9))]) (rest := []) ⟨hx, hb, hml, hown, hts⟩ (tX4_whyNotFlown l D cI cQ cL ad N F 1 (by omega) c b v g h j t u z hN ht (nI (4 * t + e9)) (4 * t + e9) rfl (by omega)) (cwV9 1 hts mcX4_whyNotFlown (ac9 _ (List.mem_of_getElem? (i := 12) rfl)) miX4_whyNotFlown meX4_whyNotFlown mini_RX4 rfl rfl hdX4_whyNotFlown ⟨Nat.le_of_ble_eq_true rfl, Nat.le_of_ble_eq_true rfl⟩) hK hP hNW (by omega) hN.1 rfl rfl hl.1 rfl (Nat.le_of_ble_eq_true rfl) ⟨Nat.le_of_ble_eq_true rfl, Nat.le_of_ble_eq_true rfl⟩ (dk kX5_doFlightPart_ok 21 rfl) ?_
  refine n_if_eq (tgt := 44) hx hb (by have q1 := wnf_le c v t (4 * t + e9); omega) (dk kX5_doFlightPart_ok 22 rfl) (by decide) (fun _ => ?_) (fun h9 => absurd hwn h9)
  refine lv_aload_n hx hb (dk kX5_doFlightPart_ok 25 rfl) rfl (lv_at hl 1 rfl) ?_
  refine gf hx hb hts (fun w h => List.mem_cons_of_mem _ (acX5 w h)) hown hK hP (by omega) hC rfl 0 (by decide) (hts _ (List.mem_cons_of_mem _ (ac7 _ (List.mem_of_getElem? (i := 21) rfl)))) (fun _ h => h) rfl (dk kX5_doFlightPart_ok 26 rfl) ?_
  refine lv_iload_n hx hb (dk kX5_doFlightPart_ok 27 rfl) rfl (lv_at hl 0 rfl) ?_
  refine lv_aload_n hx hb (dk kX5_doFlightPart_ok 28 rfl) rfl (lv_at hl 1 rfl) ?_
  refine gf hx hb hts (fun w h => List.mem_cons_of_mem _ (acX5 w h)) hown hK hP (by omega) hC rfl 3 (by decide) (hts _ (List.mem_cons_of_mem _ (ac8 _ (List.mem_of_getElem? (i := 5) rfl)))) (fun _ h => h) rfl (dk kX5_doFlightPart_ok 29 rfl) ?_
  refine lv_iload_n hx hb (dk kX5_doFlightPart_ok 30 rfl) rfl (lv_at hl 2 rfl) ?_
  refine lv_iconst (v := nI 2) hx hb (dk kX5_doFlightPart_ok 31 rfl) rfl ?_
  refine n_iadd hx hb (dk kX5_doFlightPart_ok 32 rfl) ?_
  refine cvR (As := [.int (nI (k + 2))]) (rest := [.int (nI (4 * t + e9)), .ref (ad 1)]) ⟨hx, hb, hml, hown, hts⟩ (tX0_codeAt l D cI cQ cL ad N F 67 (by omega) a n hn60 hT (nI (k + 2)) (k + 2) rfl (by omega)) (cwV9 1 hts mcX0_codeAt (ac11 _ (List.mem_of_getElem? (i := 2) rfl)) miX0_codeAt meX0_codeAt mini_RX0 rfl rfl hdX0_codeAt ⟨Nat.le_of_ble_eq_true rfl, Nat.le_of_ble_eq_true rfl⟩) hK hP hNW (by omega) hT.1 rfl rfl hl.1 rfl (Nat.le_of_ble_eq_true rfl) ⟨Nat.le_of_ble_eq_true rfl, Nat.le_of_ble_eq_true rfl⟩ (dk kX5_doFlightPart_ok 33 rfl) ?_
  rw [k2]
  refine lv_bipush (v := nI 48) hx hb (dk kX5_doFlightPart_ok 34 rfl) rfl ?_
  refine n_isub hx hb (by omega) (dk kX5_doFlightPart_ok 35 rfl) ?_
  rw [show 48 + d - 48 = d by omega]
  refine lv_aload_n hx hb (dk kX5_doFlightPart_ok 36 rfl) rfl (lv_at hl 1 rfl) ?_
  refine gf hx hb hts (fun w h => List.mem_cons_of_mem _ (acX5 w h)) hown hK hP (by omega) hC rfl 3 (by decide) (hts _ (List.mem_cons_of_mem _ (ac8 _ (List.mem_of_getElem? (i := 5) rfl)))) (fun _ h => h) rfl (dk kX5_doFlightPart_ok 37 rfl) ?_
  refine lv_iload_n hx hb (dk kX5_doFlightPart_ok 38 rfl) rfl (lv_at hl 2 rfl) ?_
  refine lv_iconst (v := nI 3) hx hb (dk kX5_doFlightPart_ok 39 rfl) rfl ?_
  refine n_iadd hx hb (dk kX5_doFlightPart_ok 40 rfl) ?_
  refine cvR (As := [.int (nI (k + 3))]) (rest := [.int (nI d), .int (nI (4 * t + e9)), .ref (ad 1)]) ⟨hx, hb, hml, hown, hts⟩ (tX0_codeAt l D cI cQ cL ad N F 67 (by omega) a n hn60 hT (nI (k + 3)) (k + 3) rfl (by omega)) (cwV9 1 hts mcX0_codeAt (ac11 _ (List.mem_of_getElem? (i := 2) rfl)) miX0_codeAt meX0_codeAt mini_RX0 rfl rfl hdX0_codeAt ⟨Nat.le_of_ble_eq_true rfl, Nat.le_of_ble_eq_true rfl⟩) hK hP hNW (by omega) hT.1 rfl rfl hl.1 rfl (Nat.le_of_ble_eq_true rfl) ⟨Nat.le_of_ble_eq_true rfl, Nat.le_of_ble_eq_true rfl⟩ (dk kX5_doFlightPart_ok 41 rfl) ?_
  rw [k3]
  refine lv_bipush (v := nI 48) hx hb (dk kX5_doFlightPart_ok 42 rfl) rfl ?_
  refine n_isub hx hb (by omega) (dk kX5_doFlightPart_ok 43 rfl) ?_
  rw [show 48 + f - 48 = f by omega]
  refine cvD (As := [.int (nI (4 * t + e9)), .int (nI d), .int (nI f)]) (rest := []) (sSet cI ad F 1 (mov1 c b v (4 * t + e9) (rest9 (4 * t + e9) (flE c (4 * t + e9) (nI d) f))) (mov2 c b v (4 * t + e9) (rest9 (4 * t + e9) (flE c (4 * t + e9) (nI d) f))) (mov3 c b v (4 * t + e9) (rest9 (4 * t + e9) (flE c (4 * t + e9) (nI d) f))) (upd g (4 * t + e9) (g (4 * t + e9) + nI 1)) (flH h (4 * t + e9) (flE c (4 * t + e9) (nI d) f)) ((flP (mov1 c b v (4 * t + e9) (rest9 (4 * t + e9) (flE c (4 * t + e9) (nI d) f))) t (4 * t + e9) (flE c (4 * t + e9) (nI d) f) (flH j (4 * t + e9) (flE c (4 * t + e9) (nI d) f))).1) (nI ((flP (mov1 c b v (4 * t + e9) (rest9 (4 * t + e9) (flE c (4 * t + e9) (nI d) f))) t (4 * t + e9) (flE c (4 * t + e9) (nI d) f) (flH j (4 * t + e9) (flE c (4 * t + e9) (nI d) f))).2)) u z) ⟨hx, hb, hml, hown, hts⟩ (tX4_carryOutFlight l D cI cQ cL ad N F 1 (by omega) c b v g h j t u z hN ht (nI (4 * t + e9)) (4 * t + e9) rfl (by omega) (nI d) (nI f) f rfl (by omega)) (cwV9 3 hts mcX4_carryOutFlight (ac9 _ (List.mem_of_getElem? (i := 20) rfl)) miX4_carryOutFlight meX4_carryOutFlight mini_RX4 rfl rfl hdX4_carryOutFlight ⟨Nat.le_of_ble_eq_true rfl, Nat.le_of_ble_eq_true rfl⟩) hDi hK hP hNW hS (by omega) hN.1 rfl rfl hl.1 rfl (Nat.le_of_ble_eq_true rfl) ⟨Nat.le_of_ble_eq_true rfl, Nat.le_of_ble_eq_true rfl⟩ (dk kX5_doFlightPart_ok 44 rfl) rfl (fun H locs hP hS => ?_)
  refine lv_pop hx hb (dk kX5_doFlightPart_ok 45 rfl) rfl ?_
  refine lv_iconst (v := nI 1) hx hb (dk kX5_doFlightPart_ok 46 rfl) rfl ?_
  exact hret _ _ _ _ _ _ _ _ rfl ⟨rfl, rfl⟩ hP hS (by decide) (by decide) (dk kX5_doFlightPart_ok 47 rfl)
set_option maxRecDepth 100000 in
set_option maxHeartbeats 4000000 in
theorem tX5_doFlightPartX (l : Launch) (D : va_G) (cI cQ cL : ClassId) (ad : Nat → Nat) (N : Nat) (F : Nat → va_E) (hk : 76 < N) (c b v g h j : Nat → Int32) (t : Nat) (u z : Int32) (hN : stAt cI ad F 1 c b v g h j (nI t) u z) (a : Nat → Int32) (n : Nat) (hn60 : n ≤ 60) (hT : gtAt cI ad F 67 a n) (hs : Bool) (hC : F 0 = .inr (5, [.ref (ad 1), .ref (ad 9), .ref (ad 17), .ref (ad 67), .ref (ad 69), .ref (ad 73), .int (bI hs)])) (ht : t < 4) (k : Nat) (hkn : k + 3 < n) (e9 d f : Nat) (he : e9 < 4) (hd : d < 8) (hf : 1 ≤ f ∧ f ≤ 9) (h1 : a (k + 1) = nI (48 + e9)) (h2 : a (k + 2) = nI (48 + d)) (h3 : a (k + 3) = nI (48 + f)) (hwn : wnf c v t (4 * t + e9) ≠ 0) : MR l yX5_doFlightPart (Cond.code yX5_doFlightPart cX5_doFlightPart 3 (some .boolean) :: AW) ({ frames := 4, cells := 0, slots := 0, locals := 93 } : Room) D cI cQ cL ad N F [.ref (ad 0), .int (nI k)] (.int (nI 0)) := by
  refine mr_i (ty := .boolean) (by decide +kernel) rfl rfl rfl rfl (Nat.le_of_ble_eq_true rfl) (fun p e s m below meth cd Q ls hx hb hml hown hts hP hK hNW hret hl => ?_)
  have hown : s.vm.findClass RX5 = some m.cls := hown
  have k1 : cod a n (k + 1) = nI (48 + e9) := (cod_at (by omega)).trans h1
  have k2 : cod a n (k + 2) = nI (48 + d) := (cod_at (by omega)).trans h2
  have k3 : cod a n (k + 3) = nI (48 + f) := (cod_at (by omega)).trans h3
  have hl : lv_has ls 3 [(0, .ref (ad 0)), (1, .int (nI k))] := hl
  refine lv_iconst (v := nI 4) hx hb (dk kX5_doFlightPart_ok 0 rfl) rfl ?_
  refine lv_aload_n hx hb (dk kX5_doFlightPart_ok 1 rfl) rfl (lv_at hl 0 rfl) ?_
  refine gf hx hb hts (fun w h => List.mem_cons_of_mem _ (acX5 w h)) hown hK hP (by omega) hC rfl 0 (by decide) (hts _ (List.mem_cons_of_mem _ (ac7 _ (List.mem_of_getElem? (i := 21) rfl)))) (fun _ h => h) rfl (dk kX5_doFlightPart_ok 2 rfl) ?_
  refine gfN hx hb hts (fun w h => List.mem_cons_of_mem _ (acX4 w h)) hown hK hP (by omega) hN.1 rfl 4 (by decide) (nf6 hNW) (fun _ h => h) rfl (dk kX5_doFlightPart_ok 3 rfl) ?_
  refine n_imul hx hb (dk kX5_doFlightPart_ok 4 rfl) ?_
  refine lv_aload_n hx hb (dk kX5_doFlightPart_ok 5 rfl) rfl (lv_at hl 0 rfl) ?_
  refine gf hx hb hts (fun w h => List.mem_cons_of_mem _ (acX5 w h)) hown hK hP (by omega) hC rfl 3 (by decide) (hts _ (List.mem_cons_of_mem _ (ac8 _ (List.mem_of_getElem? (i := 5) rfl)))) (fun _ h => h) rfl (dk kX5_doFlightPart_ok 6 rfl) ?_
  refine lv_iload_n hx hb (dk kX5_doFlightPart_ok 7 rfl) rfl (lv_at hl 1 rfl) ?_
  refine lv_iconst (v := nI 1) hx hb (dk kX5_doFlightPart_ok 8 rfl) rfl ?_
  refine n_iadd hx hb (dk kX5_doFlightPart_ok 9 rfl) ?_
  refine cvR (As := [.int (nI (k + 1))]) (rest := [.int (nI (4 * t))]) ⟨hx, hb, hml, hown, hts⟩ (tX0_codeAt l D cI cQ cL ad N F 67 (by omega) a n hn60 hT (nI (k + 1)) (k + 1) rfl (by omega)) (cwV9 1 hts mcX0_codeAt (ac11 _ (List.mem_of_getElem? (i := 2) rfl)) miX0_codeAt meX0_codeAt mini_RX0 rfl rfl hdX0_codeAt ⟨Nat.le_of_ble_eq_true rfl, Nat.le_of_ble_eq_true rfl⟩) hK hP hNW (by omega) hT.1 rfl rfl hl.1 rfl (Nat.le_of_ble_eq_true rfl) ⟨Nat.le_of_ble_eq_true rfl, Nat.le_of_ble_eq_true rfl⟩ (dk kX5_doFlightPart_ok 10 rfl) ?_
  rw [k1]
  refine n_iadd hx hb (dk kX5_doFlightPart_ok 11 rfl) ?_
  refine lv_bipush (v := nI 48) hx hb (dk kX5_doFlightPart_ok 12 rfl) rfl ?_
  refine n_isub hx hb (by omega) (dk kX5_doFlightPart_ok 13 rfl) ?_
  rw [show 4 * t + (48 + e9) - 48 = 4 * t + e9 by omega]
  refine lv_istore_n (lv' := [(2, .int (nI (4 * t + e9))), (0, .ref (ad 0)), (1, .int (nI k))]) hx hb (dk kX5_doFlightPart_ok 14 rfl) rfl hl (by decide) rfl (fun ls hl => ?_)
  refine lv_iload_n hx hb (dk kX5_doFlightPart_ok 15 rfl) rfl (lv_at hl 0 rfl) ?_
  refine csP (As := [.int (nI (4 * t + e9))]) (rest := []) ⟨hx, hb, hml, hown, hts⟩ (tX5_isWink l (nI (4 * t + e9))) (cwS9 1 hts mcX5_isWink (ac8 _ (List.mem_of_getElem? (i := 22) rfl)) msX5_isWink mini_RX5 rfl rfl hdX5_isWink ⟨Nat.le_of_ble_eq_true rfl, Nat.le_of_ble_eq_true rfl⟩) rfl hl.1 rfl (Nat.le_of_ble_eq_true rfl) ⟨Nat.le_of_ble_eq_true rfl, Nat.le_of_ble_eq_true rfl⟩ (dk kX5_doFlightPart_ok 16 rfl) ?_
  rw [wk_nI (show 4 * t + e9 < 16 by omega)]
  refine b_if_eq (tgt := 42) hx hb (dk kX5_doFlightPart_ok 17 rfl) (by decide) (fun h9 => nomatch h9) (fun _ => ?_)
  refine lv_aload_n hx hb (dk kX5_doFlightPart_ok 18 rfl) rfl (lv_at hl 1 rfl) ?_
  refine gf hx hb hts (fun w h => List.mem_cons_of_mem _ (acX5 w h)) hown hK hP (by omega) hC rfl 0 (by decide) (hts _ (List.mem_cons_of_mem _ (ac7 _ (List.mem_of_getElem? (i := 21) rfl)))) (fun _ h => h) rfl (dk kX5_doFlightPart_ok 19 rfl) ?_
  refine lv_iload_n hx hb (dk kX5_doFlightPart_ok 20 rfl) rfl (lv_at hl 0 rfl) ?_
  refine cvR (As := [.int (nI (4 * t + e9))]) (rest := []) ⟨hx, hb, hml, hown, hts⟩ (tX4_whyNotFlown l D cI cQ cL ad N F 1 (by omega) c b v g h j t u z hN ht (nI (4 * t + e9)) (4 * t + e9) rfl (by omega)) (cwV9 1 hts mcX4_whyNotFlown (ac9 _ (List.mem_of_getElem? (i := 12) rfl)) miX4_whyNotFlown meX4_whyNotFlown mini_RX4 rfl rfl hdX4_whyNotFlown ⟨Nat.le_of_ble_eq_true rfl, Nat.le_of_ble_eq_true rfl⟩) hK hP hNW (by omega) hN.1 rfl rfl hl.1 rfl (Nat.le_of_ble_eq_true rfl) ⟨Nat.le_of_ble_eq_true rfl, Nat.le_of_ble_eq_true rfl⟩ (dk kX5_doFlightPart_ok 21 rfl) ?_
  refine n_if_eq (tgt := 44) hx hb (by have q1 := wnf_le c v t (4 * t + e9); omega) (dk kX5_doFlightPart_ok 22 rfl) (by decide) (fun h9 => absurd h9 hwn) (fun _ => ?_)
  refine lv_iconst (v := nI 0) hx hb (dk kX5_doFlightPart_ok 23 rfl) rfl ?_
  exact hret _ _ _ rfl (dk kX5_doFlightPart_ok 24 rfl)
set_option maxRecDepth 100000 in
set_option maxHeartbeats 4000000 in
theorem tX5_doLiftPart (l : Launch) (D : va_G) (cI cQ cL : ClassId) (ad : Nat → Nat) (N : Nat) (F : Nat → va_E) (hk : 76 < N) (c b v g h j : Nat → Int32) (t : Nat) (u z : Int32) (hN : stAt cI ad F 1 c b v g h j (nI t) u z) (a : Nat → Int32) (n : Nat) (hn60 : n ≤ 60) (hT : gtAt cI ad F 67 a n) (hs : Bool) (hC : F 0 = .inr (5, [.ref (ad 1), .ref (ad 9), .ref (ad 17), .ref (ad 67), .ref (ad 69), .ref (ad 73), .int (bI hs)])) (ht : t < 4) (k : Nat) (hkn : k + 4 < n) (x9 y9 f d : Nat) (hx9 : x9 < 13) (hy9 : y9 < 13) (hf : 1 ≤ f ∧ f ≤ 6) (hd : d < 8) (h1 : a (k + 1) = nI (97 + x9)) (h2 : a (k + 2) = nI (97 + y9)) (h3 : a (k + 3) = nI (48 + f)) (h4 : a (k + 4) = nI (48 + d)) (hwn : wnl c b v t z (nI x9) (nI y9) f (nI d) = 0) : MX l yX5_doLiftPart (Cond.code yX5_doLiftPart cX5_doLiftPart 6 (some .boolean) :: AW) ({ frames := 4, cells := 0, slots := 0, locals := 93 } : Room) D cI cQ cL ad N F [.ref (ad 0), .int (nI k)] (dp (some (.int (nI 1))) (sSet cI ad F 1 (liC c b v (nI x9) (nI y9) f (nI d)) (liB c b v (nI x9) (nI y9) f (nI d)) (liV c b v (nI x9) (nI y9) f (nI d)) g h ((pasg (liC c b v (nI x9) (nI y9) f (nI d)) t 8 j t).1) (nI ((pasg (liC c b v (nI x9) (nI y9) f (nI d)) t 8 j t).2)) (u + nI 1) z)) 0 0 := by
  refine mx_i (ty := .boolean) (by decide +kernel) rfl (Nat.le_of_ble_eq_true rfl) (fun p e s m below meth cd Q ls hx hb hml hown hts hDi hP hK hNW hS hret hl => ?_)
  have hown : s.vm.findClass RX5 = some m.cls := hown
  have k1 : cod a n (k + 1) = nI (97 + x9) := (cod_at (by omega)).trans h1
  have k2 : cod a n (k + 2) = nI (97 + y9) := (cod_at (by omega)).trans h2
  have k3 : cod a n (k + 3) = nI (48 + f) := (cod_at (by omega)).trans h3
  have k4 : cod a n (k + 4) = nI (48 + d) := (cod_at (by omega)).trans h4
  have hl : lv_has ls 6 [(0, .ref (ad 0)), (1, .int (nI k))] := hl
  refine lv_aload_n hx hb (dk kX5_doLiftPart_ok 0 rfl) rfl (lv_at hl 0 rfl) ?_
  refine gf hx hb hts (fun w h => List.mem_cons_of_mem _ (acX5 w h)) hown hK hP (by omega) hC rfl 3 (by decide) (hts _ (List.mem_cons_of_mem _ (ac8 _ (List.mem_of_getElem? (i := 5) rfl)))) (fun _ h => h) rfl (dk kX5_doLiftPart_ok 1 rfl) ?_
  refine lv_iload_n hx hb (dk kX5_doLiftPart_ok 2 rfl) rfl (lv_at hl 1 rfl) ?_
  refine lv_iconst (v := nI 1) hx hb (dk kX5_doLiftPart_ok 3 rfl) rfl ?_
  refine n_iadd hx hb (dk kX5_doLiftPart_ok 4 rfl) ?_
  refine cvR (As := [.int (nI (k + 1))]) (rest := []) ⟨hx, hb, hml, hown, hts⟩ (tX0_codeAt l D cI cQ cL ad N F 67 (by omega) a n hn60 hT (nI (k + 1)) (k + 1) rfl (by omega)) (cwV9 1 hts mcX0_codeAt (ac11 _ (List.mem_of_getElem? (i := 2) rfl)) miX0_codeAt meX0_codeAt mini_RX0 rfl rfl hdX0_codeAt ⟨Nat.le_of_ble_eq_true rfl, Nat.le_of_ble_eq_true rfl⟩) hK hP hNW (by omega) hT.1 rfl rfl hl.1 rfl (Nat.le_of_ble_eq_true rfl) ⟨Nat.le_of_ble_eq_true rfl, Nat.le_of_ble_eq_true rfl⟩ (dk kX5_doLiftPart_ok 5 rfl) ?_
  rw [k1]
  refine lv_bipush (v := nI 97) hx hb (dk kX5_doLiftPart_ok 6 rfl) rfl ?_
  refine n_isub hx hb (by omega) (dk kX5_doLiftPart_ok 7 rfl) ?_
  rw [show 97 + x9 - 97 = x9 by omega]
  refine lv_istore_n (lv' := [(2, .int (nI x9)), (0, .ref (ad 0)), (1, .int (nI k))]) hx hb (dk kX5_doLiftPart_ok 8 rfl) rfl hl (by decide) rfl (fun ls hl => ?_)
  refine lv_aload_n hx hb (dk kX5_doLiftPart_ok 9 rfl) rfl (lv_at hl 1 rfl) ?_
  refine gf hx hb hts (fun w h => List.mem_cons_of_mem _ (acX5 w h)) hown hK hP (by omega) hC rfl 3 (by decide) (hts _ (List.mem_cons_of_mem _ (ac8 _ (List.mem_of_getElem? (i := 5) rfl)))) (fun _ h => h) rfl (dk kX5_doLiftPart_ok 10 rfl) ?_
  refine lv_iload_n hx hb (dk kX5_doLiftPart_ok 11 rfl) rfl (lv_at hl 2 rfl) ?_
  refine lv_iconst (v := nI 2) hx hb (dk kX5_doLiftPart_ok 12 rfl) rfl ?_
  refine n_iadd hx hb (dk kX5_doLiftPart_ok 13 rfl) ?_
  refine cvR (As := [.int (nI (k + 2))]) (rest := []) ⟨hx, hb, hml, hown, hts⟩ (tX0_codeAt l D cI cQ cL ad N F 67 (by omega) a n hn60 hT (nI (k + 2)) (k + 2) rfl (by omega)) (cwV9 1 hts mcX0_codeAt (ac11 _ (List.mem_of_getElem? (i := 2) rfl)) miX0_codeAt meX0_codeAt mini_RX0 rfl rfl hdX0_codeAt ⟨Nat.le_of_ble_eq_true rfl, Nat.le_of_ble_eq_true rfl⟩) hK hP hNW (by omega) hT.1 rfl rfl hl.1 rfl (Nat.le_of_ble_eq_true rfl) ⟨Nat.le_of_ble_eq_true rfl, Nat.le_of_ble_eq_true rfl⟩ (dk kX5_doLiftPart_ok 14 rfl) ?_
  rw [k2]
  refine lv_bipush (v := nI 97) hx hb (dk kX5_doLiftPart_ok 15 rfl) rfl ?_
  refine n_isub hx hb (by omega) (dk kX5_doLiftPart_ok 16 rfl) ?_
  rw [show 97 + y9 - 97 = y9 by omega]
  refine lv_istore_n (lv' := [(3, .int (nI y9)), (2, .int (nI x9)), (0, .ref (ad 0)), (1, .int (nI k))]) hx hb (dk kX5_doLiftPart_ok 17 rfl) rfl hl (by decide) rfl (fun ls hl => ?_)
  refine lv_aload_n hx hb (dk kX5_doLiftPart_ok 18 rfl) rfl (lv_at hl 2 rfl) ?_
  refine gf hx hb hts (fun w h => List.mem_cons_of_mem _ (acX5 w h)) hown hK hP (by omega) hC rfl 3 (by decide) (hts _ (List.mem_cons_of_mem _ (ac8 _ (List.mem_of_getElem? (i := 5) rfl)))) (fun _ h => h) rfl (dk kX5_doLiftPart_ok 19 rfl) ?_
  refine lv_iload_n hx hb (dk kX5_doLiftPart_ok 20 rfl) rfl (lv_at hl 3 rfl) ?_
  refine lv_iconst (v := nI 3) hx hb (dk kX5_doLiftPart_ok 21 rfl) rfl ?_
  refine n_iadd hx hb (dk kX5_doLiftPart_ok 22 rfl) ?_
  refine cvR (As := [.int (nI (k + 3))]) (rest := []) ⟨hx, hb, hml, hown, hts⟩ (tX0_codeAt l D cI cQ cL ad N F 67 (by omega) a n hn60 hT (nI (k + 3)) (k + 3) rfl (by omega)) (cwV9 1 hts mcX0_codeAt (ac11 _ (List.mem_of_getElem? (i := 2) rfl)) miX0_codeAt meX0_codeAt mini_RX0 rfl rfl hdX0_codeAt ⟨Nat.le_of_ble_eq_true rfl, Nat.le_of_ble_eq_true rfl⟩) hK hP hNW (by omega) hT.1 rfl rfl hl.1 rfl (Nat.le_of_ble_eq_true rfl) ⟨Nat.le_of_ble_eq_true rfl, Nat.le_of_ble_eq_true rfl⟩ (dk kX5_doLiftPart_ok 23 rfl) ?_
  rw [k3]
  refine lv_bipush (v := nI 48) hx hb (dk kX5_doLiftPart_ok 24 rfl) rfl ?_
  refine n_isub hx hb (by omega) (dk kX5_doLiftPart_ok 25 rfl) ?_
  rw [show 48 + f - 48 = f by omega]
  refine lv_istore (lv' := [(4, .int (nI f)), (3, .int (nI y9)), (2, .int (nI x9)), (0, .ref (ad 0)), (1, .int (nI k))]) hx hb (dk kX5_doLiftPart_ok 26 rfl) hl (by decide) rfl (fun ls hl => ?_)
  refine lv_aload_n hx hb (dk kX5_doLiftPart_ok 27 rfl) rfl (lv_at hl 3 rfl) ?_
  refine gf hx hb hts (fun w h => List.mem_cons_of_mem _ (acX5 w h)) hown hK hP (by omega) hC rfl 3 (by decide) (hts _ (List.mem_cons_of_mem _ (ac8 _ (List.mem_of_getElem? (i := 5) rfl)))) (fun _ h => h) rfl (dk kX5_doLiftPart_ok 28 rfl) ?_
  refine lv_iload_n hx hb (dk kX5_doLiftPart_ok 29 rfl) rfl (lv_at hl 4 rfl) ?_
  refine lv_iconst (v := nI 4) hx hb (dk kX5_doLiftPart_ok 30 rfl) rfl ?_
  refine n_iadd hx hb (dk kX5_doLiftPart_ok 31 rfl) ?_
  refine cvR (As := [.int (nI (k + 4))]) (rest := []) ⟨hx, hb, hml, hown, hts⟩ (tX0_codeAt l D cI cQ cL ad N F 67 (by omega) a n hn60 hT (nI (k + 4)) (k + 4) rfl (by omega)) (cwV9 1 hts mcX0_codeAt (ac11 _ (List.mem_of_getElem? (i := 2) rfl)) miX0_codeAt meX0_codeAt mini_RX0 rfl rfl hdX0_codeAt ⟨Nat.le_of_ble_eq_true rfl, Nat.le_of_ble_eq_true rfl⟩) hK hP hNW (by omega) hT.1 rfl rfl hl.1 rfl (Nat.le_of_ble_eq_true rfl) ⟨Nat.le_of_ble_eq_true rfl, Nat.le_of_ble_eq_true rfl⟩ (dk kX5_doLiftPart_ok 32 rfl) ?_
  rw [k4]
  refine lv_bipush (v := nI 48) hx hb (dk kX5_doLiftPart_ok 33 rfl) rfl ?_
  refine n_isub hx hb (by omega) (dk kX5_doLiftPart_ok 34 rfl) ?_
  rw [show 48 + d - 48 = d by omega]
  refine lv_istore (lv' := [(5, .int (nI d)), (4, .int (nI f)), (3, .int (nI y9)), (2, .int (nI x9)), (0, .ref (ad 0)), (1, .int (nI k))]) hx hb (dk kX5_doLiftPart_ok 35 rfl) hl (by decide) rfl (fun ls hl => ?_)
  refine lv_aload_n hx hb (dk kX5_doLiftPart_ok 36 rfl) rfl (lv_at hl 4 rfl) ?_
  refine gf hx hb hts (fun w h => List.mem_cons_of_mem _ (acX5 w h)) hown hK hP (by omega) hC rfl 0 (by decide) (hts _ (List.mem_cons_of_mem _ (ac7 _ (List.mem_of_getElem? (i := 21) rfl)))) (fun _ h => h) rfl (dk kX5_doLiftPart_ok 37 rfl) ?_
  refine lv_iload_n hx hb (dk kX5_doLiftPart_ok 38 rfl) rfl (lv_at hl 3 rfl) ?_
  refine lv_iload_n hx hb (dk kX5_doLiftPart_ok 39 rfl) rfl (lv_at hl 2 rfl) ?_
  refine lv_iload hx hb (dk kX5_doLiftPart_ok 40 rfl) (lv_at hl 1 rfl) ?_
  refine lv_iload hx hb (dk kX5_doLiftPart_ok 41 rfl) (lv_at hl 0 rfl) ?_
  refine cvR (As := [.int (nI x9), .int (nI y9), .int (nI f), .int (nI d)]) (rest := []) ⟨hx, hb, hml, hown, hts⟩ (tX4_whyNotLifted l D cI cQ cL ad N F 1 (by omega) c b v g h j t u z hN (nI x9) (nI y9) (nI f) f rfl hf.1 (by omega) (nI d)) (cwV9 4 hts mcX4_whyNotLifted (ac10 _ (List.mem_of_getElem? (i := 6) rfl)) miX4_whyNotLifted meX4_whyNotLifted mini_RX4 rfl rfl hdX4_whyNotLifted ⟨Nat.le_of_ble_eq_true rfl, Nat.le_of_ble_eq_true rfl⟩) hK hP hNW (by omega) hN.1 rfl rfl hl.1 rfl (Nat.le_of_ble_eq_true rfl) ⟨Nat.le_of_ble_eq_true rfl, Nat.le_of_ble_eq_true rfl⟩ (dk kX5_doLiftPart_ok 42 rfl) ?_
  refine n_if_eq (tgt := 76) hx hb (by have q1 := wnl_le c b v t z (nI x9) (nI y9) f (nI d); omega) (dk kX5_doLiftPart_ok 43 rfl) (by decide) (fun _ => ?_) (fun h9 => absurd hwn h9)
  refine lv_aload_n hx hb (dk kX5_doLiftPart_ok 46 rfl) rfl (lv_at hl 4 rfl) ?_
  refine gf hx hb hts (fun w h => List.mem_cons_of_mem _ (acX5 w h)) hown hK hP (by omega) hC rfl 0 (by decide) (hts _ (List.mem_cons_of_mem _ (ac7 _ (List.mem_of_getElem? (i := 21) rfl)))) (fun _ h => h) rfl (dk kX5_doLiftPart_ok 47 rfl) ?_
  refine lv_iload_n hx hb (dk kX5_doLiftPart_ok 48 rfl) rfl (lv_at hl 3 rfl) ?_
  refine lv_iload_n hx hb (dk kX5_doLiftPart_ok 49 rfl) rfl (lv_at hl 2 rfl) ?_
  refine lv_iload hx hb (dk kX5_doLiftPart_ok 50 rfl) (lv_at hl 1 rfl) ?_
  refine lv_iload hx hb (dk kX5_doLiftPart_ok 51 rfl) (lv_at hl 0 rfl) ?_
  refine cvDv (As := [.int (nI x9), .int (nI y9), .int (nI f), .int (nI d)]) (rest := []) (sSet cI ad F 1 (liC c b v (nI x9) (nI y9) f (nI d)) (liB c b v (nI x9) (nI y9) f (nI d)) (liV c b v (nI x9) (nI y9) f (nI d)) g h ((pasg (liC c b v (nI x9) (nI y9) f (nI d)) t 8 j t).1) (nI ((pasg (liC c b v (nI x9) (nI y9) f (nI d)) t 8 j t).2)) (u + nI 1) z) ⟨hx, hb, hml, hown, hts⟩ (tX4_carryOutLift l D cI cQ cL ad N F 1 (by omega) c b v g h j t u z hN ht (nI x9) (nI y9) (nI f) f rfl hf.1 (by omega) (nI d)) (cwV9 4 hts mcX4_carryOutLift (ac10 _ (List.mem_of_getElem? (i := 10) rfl)) miX4_carryOutLift meX4_carryOutLift mini_RX4 rfl rfl hdX4_carryOutLift ⟨Nat.le_of_ble_eq_true rfl, Nat.le_of_ble_eq_true rfl⟩) hDi hK hP hNW hS (by omega) hN.1 rfl rfl hl.1 rfl (Nat.le_of_ble_eq_true rfl) ⟨Nat.le_of_ble_eq_true rfl, Nat.le_of_ble_eq_true rfl⟩ (dk kX5_doLiftPart_ok 52 rfl) rfl (fun H locs hP hS => ?_)
  refine lv_iconst (v := nI 1) hx hb (dk kX5_doLiftPart_ok 53 rfl) rfl ?_
  exact hret _ _ _ _ _ _ _ _ rfl ⟨rfl, rfl⟩ hP hS (by decide) (by decide) (dk kX5_doLiftPart_ok 54 rfl)
set_option maxRecDepth 100000 in
set_option maxHeartbeats 4000000 in
theorem tX5_doLiftPartX (l : Launch) (D : va_G) (cI cQ cL : ClassId) (ad : Nat → Nat) (N : Nat) (F : Nat → va_E) (hk : 76 < N) (c b v g h j : Nat → Int32) (t : Nat) (u z : Int32) (hN : stAt cI ad F 1 c b v g h j (nI t) u z) (a : Nat → Int32) (n : Nat) (hn60 : n ≤ 60) (hT : gtAt cI ad F 67 a n) (hs : Bool) (hC : F 0 = .inr (5, [.ref (ad 1), .ref (ad 9), .ref (ad 17), .ref (ad 67), .ref (ad 69), .ref (ad 73), .int (bI hs)])) (ht : t < 4) (k : Nat) (hkn : k + 4 < n) (x9 y9 f d : Nat) (hx9 : x9 < 13) (hy9 : y9 < 13) (hf : 1 ≤ f ∧ f ≤ 6) (hd : d < 8) (h1 : a (k + 1) = nI (97 + x9)) (h2 : a (k + 2) = nI (97 + y9)) (h3 : a (k + 3) = nI (48 + f)) (h4 : a (k + 4) = nI (48 + d)) (hwn : wnl c b v t z (nI x9) (nI y9) f (nI d) ≠ 0) : MR l yX5_doLiftPart (Cond.code yX5_doLiftPart cX5_doLiftPart 6 (some .boolean) :: AW) ({ frames := 4, cells := 0, slots := 0, locals := 93 } : Room) D cI cQ cL ad N F [.ref (ad 0), .int (nI k)] (.int (nI 0)) := by
  refine mr_i (ty := .boolean) (by decide +kernel) rfl rfl rfl rfl (Nat.le_of_ble_eq_true rfl) (fun p e s m below meth cd Q ls hx hb hml hown hts hP hK hNW hret hl => ?_)
  have hown : s.vm.findClass RX5 = some m.cls := hown
  have k1 : cod a n (k + 1) = nI (97 + x9) := (cod_at (by omega)).trans h1
  have k2 : cod a n (k + 2) = nI (97 + y9) := (cod_at (by omega)).trans h2
  have k3 : cod a n (k + 3) = nI (48 + f) := (cod_at (by omega)).trans h3
  have k4 : cod a n (k + 4) = nI (48 + d) := (cod_at (by omega)).trans h4
  have hl : lv_has ls 6 [(0, .ref (ad 0)), (1, .int (nI k))] := hl
  refine lv_aload_n hx hb (dk kX5_doLiftPart_ok 0 rfl) rfl (lv_at hl 0 rfl) ?_
  refine gf hx hb hts (fun w h => List.mem_cons_of_mem _ (acX5 w h)) hown hK hP (by omega) hC rfl 3 (by decide) (hts _ (List.mem_cons_of_mem _ (ac8 _ (List.mem_of_getElem? (i := 5) rfl)))) (fun _ h => h) rfl (dk kX5_doLiftPart_ok 1 rfl) ?_
  refine lv_iload_n hx hb (dk kX5_doLiftPart_ok 2 rfl) rfl (lv_at hl 1 rfl) ?_
  refine lv_iconst (v := nI 1) hx hb (dk kX5_doLiftPart_ok 3 rfl) rfl ?_
  refine n_iadd hx hb (dk kX5_doLiftPart_ok 4 rfl) ?_
  refine cvR (As := [.int (nI (k + 1))]) (rest := []) ⟨hx, hb, hml, hown, hts⟩ (tX0_codeAt l D cI cQ cL ad N F 67 (by omega) a n hn60 hT (nI (k + 1)) (k + 1) rfl (by omega)) (cwV9 1 hts mcX0_codeAt (ac11 _ (List.mem_of_getElem? (i := 2) rfl)) miX0_codeAt meX0_codeAt mini_RX0 rfl rfl hdX0_codeAt ⟨Nat.le_of_ble_eq_true rfl, Nat.le_of_ble_eq_true rfl⟩) hK hP hNW (by omega) hT.1 rfl rfl hl.1 rfl (Nat.le_of_ble_eq_true rfl) ⟨Nat.le_of_ble_eq_true rfl, Nat.le_of_ble_eq_true rfl⟩ (dk kX5_doLiftPart_ok 5 rfl) ?_
  rw [k1]
  refine lv_bipush (v := nI 97) hx hb (dk kX5_doLiftPart_ok 6 rfl) rfl ?_
  refine n_isub hx hb (by omega) (dk kX5_doLiftPart_ok 7 rfl) ?_
  rw [show 97 + x9 - 97 = x9 by omega]
  refine lv_istore_n (lv' := [(2, .int (nI x9)), (0, .ref (ad 0)), (1, .int (nI k))]) hx hb (dk kX5_doLiftPart_ok 8 rfl) rfl hl (by decide) rfl (fun ls hl => ?_)
  refine lv_aload_n hx hb (dk kX5_doLiftPart_ok 9 rfl) rfl (lv_at hl 1 rfl) ?_
  refine gf hx hb hts (fun w h => List.mem_cons_of_mem _ (acX5 w h)) hown hK hP (by omega) hC rfl 3 (by decide) (hts _ (List.mem_cons_of_mem _ (ac8 _ (List.mem_of_getElem? (i := 5) rfl)))) (fun _ h => h) rfl (dk kX5_doLiftPart_ok 10 rfl) ?_
  refine lv_iload_n hx hb (dk kX5_doLiftPart_ok 11 rfl) rfl (lv_at hl 2 rfl) ?_
  refine lv_iconst (v := nI 2) hx hb (dk kX5_doLiftPart_ok 12 rfl) rfl ?_
  refine n_iadd hx hb (dk kX5_doLiftPart_ok 13 rfl) ?_
  refine cvR (As := [.int (nI (k + 2))]) (rest := []) ⟨hx, hb, hml, hown, hts⟩ (tX0_codeAt l D cI cQ cL ad N F 67 (by omega) a n hn60 hT (nI (k + 2)) (k + 2) rfl (by omega)) (cwV9 1 hts mcX0_codeAt (ac11 _ (List.mem_of_getElem? (i := 2) rfl)) miX0_codeAt meX0_codeAt mini_RX0 rfl rfl hdX0_codeAt ⟨Nat.le_of_ble_eq_true rfl, Nat.le_of_ble_eq_true rfl⟩) hK hP hNW (by omega) hT.1 rfl rfl hl.1 rfl (Nat.le_of_ble_eq_true rfl) ⟨Nat.le_of_ble_eq_true rfl, Nat.le_of_ble_eq_true rfl⟩ (dk kX5_doLiftPart_ok 14 rfl) ?_
  rw [k2]
  refine lv_bipush (v := nI 97) hx hb (dk kX5_doLiftPart_ok 15 rfl) rfl ?_
  refine n_isub hx hb (by omega) (dk kX5_doLiftPart_ok 16 rfl) ?_
  rw [show 97 + y9 - 97 = y9 by omega]
  refine lv_istore_n (lv' := [(3, .int (nI y9)), (2, .int (nI x9)), (0, .ref (ad 0)), (1, .int (nI k))]) hx hb (dk kX5_doLiftPart_ok 17 rfl) rfl hl (by decide) rfl (fun ls hl => ?_)
  refine lv_aload_n hx hb (dk kX5_doLiftPart_ok 18 rfl) rfl (lv_at hl 2 rfl) ?_
  refine gf hx hb hts (fun w h => List.mem_cons_of_mem _ (acX5 w h)) hown hK hP (by omega) hC rfl 3 (by decide) (hts _ (List.mem_cons_of_mem _ (ac8 _ (List.mem_of_getElem? (i := 5) rfl)))) (fun _ h => h) rfl (dk kX5_doLiftPart_ok 19 rfl) ?_
  refine lv_iload_n hx hb (dk kX5_doLiftPart_ok 20 rfl) rfl (lv_at hl 3 rfl) ?_
  refine lv_iconst (v := nI 3) hx hb (dk kX5_doLiftPart_ok 21 rfl) rfl ?_
  refine n_iadd hx hb (dk kX5_doLiftPart_ok 22 rfl) ?_
  refine cvR (As := [.int (nI (k + 3))]) (rest := []) ⟨hx, hb, hml, hown, hts⟩ (tX0_codeAt l D cI cQ cL ad N F 67 (by omega) a n hn60 hT (nI (k + 3)) (k + 3) rfl (by omega)) (cwV9 1 hts mcX0_codeAt (ac11 _ (List.mem_of_getElem? (i := 2) rfl)) miX0_codeAt meX0_codeAt mini_RX0 rfl rfl hdX0_codeAt ⟨Nat.le_of_ble_eq_true rfl, Nat.le_of_ble_eq_true rfl⟩) hK hP hNW (by omega) hT.1 rfl rfl hl.1 rfl (Nat.le_of_ble_eq_true rfl) ⟨Nat.le_of_ble_eq_true rfl, Nat.le_of_ble_eq_true rfl⟩ (dk kX5_doLiftPart_ok 23 rfl) ?_
  rw [k3]
  refine lv_bipush (v := nI 48) hx hb (dk kX5_doLiftPart_ok 24 rfl) rfl ?_
  refine n_isub hx hb (by omega) (dk kX5_doLiftPart_ok 25 rfl) ?_
  rw [show 48 + f - 48 = f by omega]
  refine lv_istore (lv' := [(4, .int (nI f)), (3, .int (nI y9)), (2, .int (nI x9)), (0, .ref (ad 0)), (1, .int (nI k))]) hx hb (dk kX5_doLiftPart_ok 26 rfl) hl (by decide) rfl (fun ls hl => ?_)
  refine lv_aload_n hx hb (dk kX5_doLiftPart_ok 27 rfl) rfl (lv_at hl 3 rfl) ?_
  refine gf hx hb hts (fun w h => List.mem_cons_of_mem _ (acX5 w h)) hown hK hP (by omega) hC rfl 3 (by decide) (hts _ (List.mem_cons_of_mem _ (ac8 _ (List.mem_of_getElem? (i := 5) rfl)))) (fun _ h => h) rfl (dk kX5_doLiftPart_ok 28 rfl) ?_
  refine lv_iload_n hx hb (dk kX5_doLiftPart_ok 29 rfl) rfl (lv_at hl 4 rfl) ?_
  refine lv_iconst (v := nI 4) hx hb (dk kX5_doLiftPart_ok 30 rfl) rfl ?_
  refine n_iadd hx hb (dk kX5_doLiftPart_ok 31 rfl) ?_
  refine cvR (As := [.int (nI (k + 4))]) (rest := []) ⟨hx, hb, hml, hown, hts⟩ (tX0_codeAt l D cI cQ cL ad N F 67 (by omega) a n hn60 hT (nI (k + 4)) (k + 4) rfl (by omega)) (cwV9 1 hts mcX0_codeAt (ac11 _ (List.mem_of_getElem? (i := 2) rfl)) miX0_codeAt meX0_codeAt mini_RX0 rfl rfl hdX0_codeAt ⟨Nat.le_of_ble_eq_true rfl, Nat.le_of_ble_eq_true rfl⟩) hK hP hNW (by omega) hT.1 rfl rfl hl.1 rfl (Nat.le_of_ble_eq_true rfl) ⟨Nat.le_of_ble_eq_true rfl, Nat.le_of_ble_eq_true rfl⟩ (dk kX5_doLiftPart_ok 32 rfl) ?_
  rw [k4]
  refine lv_bipush (v := nI 48) hx hb (dk kX5_doLiftPart_ok 33 rfl) rfl ?_
  refine n_isub hx hb (by omega) (dk kX5_doLiftPart_ok 34 rfl) ?_
  rw [show 48 + d - 48 = d by omega]
  refine lv_istore (lv' := [(5, .int (nI d)), (4, .int (nI f)), (3, .int (nI y9)), (2, .int (nI x9)), (0, .ref (ad 0)), (1, .int (nI k))]) hx hb (dk kX5_doLiftPart_ok 35 rfl) hl (by decide) rfl (fun ls hl => ?_)
  refine lv_aload_n hx hb (dk kX5_doLiftPart_ok 36 rfl) rfl (lv_at hl 4 rfl) ?_
  refine gf hx hb hts (fun w h => List.mem_cons_of_mem _ (acX5 w h)) hown hK hP (by omega) hC rfl 0 (by decide) (hts _ (List.mem_cons_of_mem _ (ac7 _ (List.mem_of_getElem? (i := 21) rfl)))) (fun _ h => h) rfl (dk kX5_doLiftPart_ok 37 rfl) ?_
  refine lv_iload_n hx hb (dk kX5_doLiftPart_ok 38 rfl) rfl (lv_at hl 3 rfl) ?_
  refine lv_iload_n hx hb (dk kX5_doLiftPart_ok 39 rfl) rfl (lv_at hl 2 rfl) ?_
  refine lv_iload hx hb (dk kX5_doLiftPart_ok 40 rfl) (lv_at hl 1 rfl) ?_
  refine lv_iload hx hb (dk kX5_doLiftPart_ok 41 rfl) (lv_at hl 0 rfl) ?_
  refine cvR (As := [.int (nI x9), .int (nI y9), .int (nI f), .int (nI d)]) (rest := []) ⟨hx, hb, hml, hown, hts⟩ (tX4_whyNotLifted l D cI cQ cL ad N F 1 (by omega) c b v g h j t u z hN (nI x9) (nI y9) (nI f) f rfl hf.1 (by omega) (nI d)) (cwV9 4 hts mcX4_whyNotLifted (ac10 _ (List.mem_of_getElem? (i := 6) rfl)) miX4_whyNotLifted meX4_whyNotLifted mini_RX4 rfl rfl hdX4_whyNotLifted ⟨Nat.le_of_ble_eq_true rfl, Nat.le_of_ble_eq_true rfl⟩) hK hP hNW (by omega) hN.1 rfl rfl hl.1 rfl (Nat.le_of_ble_eq_true rfl) ⟨Nat.le_of_ble_eq_true rfl, Nat.le_of_ble_eq_true rfl⟩ (dk kX5_doLiftPart_ok 42 rfl) ?_
  refine n_if_eq (tgt := 76) hx hb (by have q1 := wnl_le c b v t z (nI x9) (nI y9) f (nI d); omega) (dk kX5_doLiftPart_ok 43 rfl) (by decide) (fun h9 => absurd h9 hwn) (fun _ => ?_)
  refine lv_iconst (v := nI 0) hx hb (dk kX5_doLiftPart_ok 44 rfl) rfl ?_
  exact hret _ _ _ rfl (dk kX5_doLiftPart_ok 45 rfl)
end
/-! from rfparts -/
section
set_option maxRecDepth 100000 in
set_option maxHeartbeats 4000000 in
theorem tX6_doesF (l : Launch) (D : va_G) (cI cQ cL : ClassId) (ad : Nat → Nat) (N : Nat) (F : Nat → va_E) (k : Nat) (hk : k + 7 < N) (r ps sl sd ne fa bu : Nat → Int32) (hs : Bool) (st ln pt : Nat) (th : Int32) (hR : rfAt cI ad F k r ps sl sd ne fa bu hs st ln pt th) (t : Nat) (ht : t < 4) (hrt : r 56 = nI t) (pl : Nat) (hpl : pl + 3 < 60) (e9 d f : Nat) (he : e9 < 4) (hd : d < 8) (hf : 1 ≤ f ∧ f ≤ 9) (h0 : bu pl = nI 102) (h1 : bu (pl + 1) = nI (48 + e9)) (h2 : bu (pl + 2) = nI (48 + d)) (h3 : bu (pl + 3) = nI (48 + f)) (hc9 : cell9 (r (4 * t + e9))) (hl0 : r (52 + (4 * t + e9) / 4) = nI 0) (hlo : lo01 r) (hwn : rwn r (4 * t + e9) = 0) : MX l yX6_does (Cond.code yX6_does cX6_does 5 (some .boolean) :: AW) ({ frames := 5, cells := 0, slots := 0, locals := 110 } : Room) D cI cQ cL ad N F [.ref (ad k), .int (nI pl)] (dp (some (.int (nI 1))) (rfSet cI ad F k (rfx r (4 * t + e9) (ldg (r (4 * t + e9)) (nI d) (stp (4 * t + e9) f)) t) ps sl sd ne fa bu hs st ln pt th)) 0 0 := by
  refine mx_i (ty := .boolean) (by decide +kernel) rfl (Nat.le_of_ble_eq_true rfl) (fun p e s m below meth cd Q ls hx hb hml hown hts hDi hP hK hNW hS hret hl => ?_)
  have hown : s.vm.findClass RX6 = some m.cls := hown
  have hl : lv_has ls 5 [(0, .ref (ad k)), (1, .int (nI pl))] := hl
  refine lv_aload_n hx hb (dk kX6_does_0_ok 0 rfl) rfl (lv_at hl 0 rfl) ?_
  refine gf hx hb hts (fun w h => List.mem_cons_of_mem _ (acX6 w h)) hown hK hP (by omega) hR.1 rfl 6 (by decide) (hts _ (List.mem_cons_of_mem _ (ac17 _ (List.mem_of_getElem? (i := 23) rfl)))) (fun _ h => h) rfl (dk kX6_does_0_ok 1 rfl) ?_
  refine lv_iload_n hx hb (dk kX6_does_0_ok 2 rfl) rfl (lv_at hl 1 rfl) ?_
  refine ald (j := pl) hx hb hK hP (k := k + 7) (by omega) hR.2.2.2.2.2.2.2 rfl (by omega) (by decide) (dk kX6_does_0_ok 3 rfl) ?_
  rw [h0]
  refine lv_bipush (v := nI 102) hx hb (dk kX6_does_0_ok 4 rfl) rfl ?_
  refine n_icmp_ne (tgt := 86) hx hb (by decide) (by decide) (dk kX6_does_0_ok 5 rfl) (by decide) (fun h9 => absurd rfl h9) (fun _ => ?_)
  refine lv_iconst (v := nI 4) hx hb (dk kX6_does_0_ok 6 rfl) rfl ?_
  refine lv_aload_n hx hb (dk kX6_does_0_ok 7 rfl) rfl (lv_at hl 0 rfl) ?_
  refine gf hx hb hts (fun w h => List.mem_cons_of_mem _ (acX6 w h)) hown hK hP (by omega) hR.1 rfl 0 (by decide) (hts _ (List.mem_cons_of_mem _ (ac17 _ (List.mem_of_getElem? (i := 17) rfl)))) (fun _ h => h) rfl (dk kX6_does_0_ok 8 rfl) ?_
  refine lv_bipush (v := nI 56) hx hb (dk kX6_does_0_ok 9 rfl) rfl ?_
  refine ald (j := 56) hx hb hK hP (k := k + 1) (by omega) hR.2.1 rfl (by decide) (by decide) (dk kX6_does_0_ok 10 rfl) ?_
  rw [hrt]
  refine n_imul hx hb (dk kX6_does_0_ok 11 rfl) ?_
  refine lv_aload_n hx hb (dk kX6_does_0_ok 12 rfl) rfl (lv_at hl 0 rfl) ?_
  refine gf hx hb hts (fun w h => List.mem_cons_of_mem _ (acX6 w h)) hown hK hP (by omega) hR.1 rfl 6 (by decide) (hts _ (List.mem_cons_of_mem _ (ac17 _ (List.mem_of_getElem? (i := 23) rfl)))) (fun _ h => h) rfl (dk kX6_does_0_ok 13 rfl) ?_
  refine lv_iload_n hx hb (dk kX6_does_0_ok 14 rfl) rfl (lv_at hl 1 rfl) ?_
  refine lv_iconst (v := nI 1) hx hb (dk kX6_does_0_ok 15 rfl) rfl ?_
  refine n_iadd hx hb (dk kX6_does_0_ok 16 rfl) ?_
  refine ald (j := pl + 1) hx hb hK hP (k := k + 7) (by omega) hR.2.2.2.2.2.2.2 rfl (by omega) (by decide) (dk kX6_does_0_ok 17 rfl) ?_
  rw [h1]
  refine n_iadd hx hb (dk kX6_does_0_ok 18 rfl) ?_
  refine lv_bipush (v := nI 48) hx hb (dk kX6_does_0_ok 19 rfl) rfl ?_
  refine n_isub hx hb (by omega) (dk kX6_does_0_ok 20 rfl) ?_
  rw [show 4 * t + (48 + e9) - 48 = 4 * t + e9 by omega]
  refine lv_istore_n (lv' := [(2, .int (nI (4 * t + e9))), (0, .ref (ad k)), (1, .int (nI pl))]) hx hb (dk kX6_does_0_ok 21 rfl) rfl hl (by decide) rfl (fun ls hl => ?_)
  refine lv_aload_n hx hb (dk kX6_does_0_ok 22 rfl) rfl (lv_at hl 1 rfl) ?_
  refine lv_iload_n hx hb (dk kX6_does_0_ok 23 rfl) rfl (lv_at hl 0 rfl) ?_
  refine cvR (As := [.int (nI (4 * t + e9))]) (rest := []) ⟨hx, hb, hml, hown, hts⟩ (tX6_whyNot l D cI cQ cL ad N F k hk r ps sl sd ne fa bu hs st ln pt th hR (nI (4 * t + e9)) (4 * t + e9) rfl (by omega)) (cwV9 1 hts mcX6_whyNot (ac20 _ (List.mem_of_getElem? (i := 19) rfl)) miX6_whyNot meX6_whyNot mini_RX6 rfl rfl hdX6_whyNot ⟨Nat.le_of_ble_eq_true rfl, Nat.le_of_ble_eq_true rfl⟩) hK hP hNW (by omega) hR.1 rfl rfl hl.1 rfl (Nat.le_of_ble_eq_true rfl) ⟨Nat.le_of_ble_eq_true rfl, Nat.le_of_ble_eq_true rfl⟩ (dk kX6_does_0_ok 24 rfl) ?_
  refine n_if_ne (tgt := 45) hx hb (by have q1 := rwn_le r (4 * t + e9); omega) (dk kX6_does_0_ok 25 rfl) (by decide) (fun h9 => absurd hwn h9) (fun _ => ?_)
  refine lv_iconst (v := nI 1) hx hb (dk kX6_does_0_ok 26 rfl) rfl ?_
  refine lv_goto (tgt := 46) hx hb (dk kX6_does_0_ok 27 rfl) (by decide) ?_
  refine lv_istore_n (lv' := [(3, .int (nI 1)), (2, .int (nI (4 * t + e9))), (0, .ref (ad k)), (1, .int (nI pl))]) hx hb (dk kX6_does_0_ok 29 rfl) rfl hl (by decide) rfl (fun ls hl => ?_)
  refine lv_iload_n hx hb (dk kX6_does_0_ok 30 rfl) rfl (lv_at hl 0 rfl) ?_
  refine n_if_eq (tgt := 81) hx hb (by decide) (dk kX6_does_0_ok 31 rfl) (by decide) (fun h9 => absurd h9 (by decide)) (fun _ => ?_)
  refine lv_aload_n hx hb (dk kX6_does_0_ok 32 rfl) rfl (lv_at hl 2 rfl) ?_
  refine lv_iload_n hx hb (dk kX6_does_0_ok 33 rfl) rfl (lv_at hl 1 rfl) ?_
  refine lv_aload_n hx hb (dk kX6_does_0_ok 34 rfl) rfl (lv_at hl 2 rfl) ?_
  refine gf hx hb hts (fun w h => List.mem_cons_of_mem _ (acX6 w h)) hown hK hP (by omega) hR.1 rfl 6 (by decide) (hts _ (List.mem_cons_of_mem _ (ac17 _ (List.mem_of_getElem? (i := 23) rfl)))) (fun _ h => h) rfl (dk kX6_does_0_ok 35 rfl) ?_
  refine lv_iload_n hx hb (dk kX6_does_0_ok 36 rfl) rfl (lv_at hl 3 rfl) ?_
  refine lv_iconst (v := nI 2) hx hb (dk kX6_does_0_ok 37 rfl) rfl ?_
  refine n_iadd hx hb (dk kX6_does_0_ok 38 rfl) ?_
  refine ald (j := pl + 2) hx hb hK hP (k := k + 7) (by omega) hR.2.2.2.2.2.2.2 rfl (by omega) (by decide) (dk kX6_does_0_ok 39 rfl) ?_
  rw [h2]
  refine lv_bipush (v := nI 48) hx hb (dk kX6_does_0_ok 40 rfl) rfl ?_
  refine n_isub hx hb (by omega) (dk kX6_does_0_ok 41 rfl) ?_
  rw [show 48 + d - 48 = d by omega]
  refine lv_aload_n hx hb (dk kX6_does_0_ok 42 rfl) rfl (lv_at hl 2 rfl) ?_
  refine gf hx hb hts (fun w h => List.mem_cons_of_mem _ (acX6 w h)) hown hK hP (by omega) hR.1 rfl 6 (by decide) (hts _ (List.mem_cons_of_mem _ (ac17 _ (List.mem_of_getElem? (i := 23) rfl)))) (fun _ h => h) rfl (dk kX6_does_0_ok 43 rfl) ?_
  refine lv_iload_n hx hb (dk kX6_does_0_ok 44 rfl) rfl (lv_at hl 3 rfl) ?_
  refine lv_iconst (v := nI 3) hx hb (dk kX6_does_0_ok 45 rfl) rfl ?_
  refine n_iadd hx hb (dk kX6_does_0_ok 46 rfl) ?_
  refine ald (j := pl + 3) hx hb hK hP (k := k + 7) (by omega) hR.2.2.2.2.2.2.2 rfl (by omega) (by decide) (dk kX6_does_0_ok 47 rfl) ?_
  rw [h3]
  refine lv_bipush (v := nI 48) hx hb (dk kX6_does_0_ok 48 rfl) rfl ?_
  refine n_isub hx hb (by omega) (dk kX6_does_0_ok 49 rfl) ?_
  rw [show 48 + f - 48 = f by omega]
  refine cvD (As := [.int (nI (4 * t + e9)), .int (nI d), .int (nI f)]) (rest := []) (rfSet cI ad F k (rfx r (4 * t + e9) (ldg (r (4 * t + e9)) (nI d) (stp (4 * t + e9) f)) t) ps sl sd ne fa bu hs st ln pt th) ⟨hx, hb, hml, hown, hts⟩ (tX6_flies l D cI cQ cL ad N F k hk r ps sl sd ne fa bu hs st ln pt th hR (nI (4 * t + e9)) (4 * t + e9) rfl (by omega) (nI d) d rfl hd (nI f) f rfl (by omega) hc9 hl0 t ht hrt hlo) (cwV9 3 hts mcX6_flies (ac21 _ (List.mem_of_getElem? (i := 3) rfl)) miX6_flies meX6_flies mini_RX6 rfl rfl hdX6_flies ⟨Nat.le_of_ble_eq_true rfl, Nat.le_of_ble_eq_true rfl⟩) hDi hK hP hNW hS (by omega) hR.1 rfl rfl hl.1 rfl (Nat.le_of_ble_eq_true rfl) ⟨Nat.le_of_ble_eq_true rfl, Nat.le_of_ble_eq_true rfl⟩ (dk kX6_does_0_ok 50 rfl) rfl (fun H locs hP hS => ?_)
  refine lv_goto (tgt := 82) hx hb (dk kX6_does_0_ok 51 rfl) (by decide) ?_
  refine lv_istore (lv' := [(4, .int (fans (ldg (r (4 * t + e9)) (nI d) (stp (4 * t + e9) f)))), (3, .int (nI 1)), (2, .int (nI (4 * t + e9))), (0, .ref (ad k)), (1, .int (nI pl))]) hx hb (dk kX6_does_0_ok 53 rfl) hl (by decide) rfl (fun ls hl => ?_)
  refine lv_iload_n hx hb (dk kX6_does_0_ok 54 rfl) rfl (lv_at hl 1 rfl) ?_
  exact hret _ _ _ _ _ _ _ _ rfl ⟨rfl, rfl⟩ hP hS (by decide) (by decide) (dk kX6_does_0_ok 55 rfl)
set_option maxRecDepth 100000 in
set_option maxHeartbeats 4000000 in
theorem tX6_doesFX (l : Launch) (D : va_G) (cI cQ cL : ClassId) (ad : Nat → Nat) (N : Nat) (F : Nat → va_E) (k : Nat) (hk : k + 7 < N) (r ps sl sd ne fa bu : Nat → Int32) (hs : Bool) (st ln pt : Nat) (th : Int32) (hR : rfAt cI ad F k r ps sl sd ne fa bu hs st ln pt th) (t : Nat) (ht : t < 4) (hrt : r 56 = nI t) (pl : Nat) (hpl : pl + 3 < 60) (e9 d f : Nat) (he : e9 < 4) (hd : d < 8) (hf : 1 ≤ f ∧ f ≤ 9) (h0 : bu pl = nI 102) (h1 : bu (pl + 1) = nI (48 + e9)) (h2 : bu (pl + 2) = nI (48 + d)) (h3 : bu (pl + 3) = nI (48 + f)) (hwn : rwn r (4 * t + e9) ≠ 0) : MR l yX6_does (Cond.code yX6_does cX6_does 5 (some .boolean) :: AW) ({ frames := 5, cells := 0, slots := 0, locals := 110 } : Room) D cI cQ cL ad N F [.ref (ad k), .int (nI pl)] (.int (nI 0)) := by
  refine mr_i (ty := .boolean) (by decide +kernel) rfl rfl rfl rfl (Nat.le_of_ble_eq_true rfl) (fun p e s m below meth cd Q ls hx hb hml hown hts hP hK hNW hret hl => ?_)
  have hown : s.vm.findClass RX6 = some m.cls := hown
  have hl : lv_has ls 5 [(0, .ref (ad k)), (1, .int (nI pl))] := hl
  refine lv_aload_n hx hb (dk kX6_does_0_ok 0 rfl) rfl (lv_at hl 0 rfl) ?_
  refine gf hx hb hts (fun w h => List.mem_cons_of_mem _ (acX6 w h)) hown hK hP (by omega) hR.1 rfl 6 (by decide) (hts _ (List.mem_cons_of_mem _ (ac17 _ (List.mem_of_getElem? (i := 23) rfl)))) (fun _ h => h) rfl (dk kX6_does_0_ok 1 rfl) ?_
  refine lv_iload_n hx hb (dk kX6_does_0_ok 2 rfl) rfl (lv_at hl 1 rfl) ?_
  refine ald (j := pl) hx hb hK hP (k := k + 7) (by omega) hR.2.2.2.2.2.2.2 rfl (by omega) (by decide) (dk kX6_does_0_ok 3 rfl) ?_
  rw [h0]
  refine lv_bipush (v := nI 102) hx hb (dk kX6_does_0_ok 4 rfl) rfl ?_
  refine n_icmp_ne (tgt := 86) hx hb (by decide) (by decide) (dk kX6_does_0_ok 5 rfl) (by decide) (fun h9 => absurd rfl h9) (fun _ => ?_)
  refine lv_iconst (v := nI 4) hx hb (dk kX6_does_0_ok 6 rfl) rfl ?_
  refine lv_aload_n hx hb (dk kX6_does_0_ok 7 rfl) rfl (lv_at hl 0 rfl) ?_
  refine gf hx hb hts (fun w h => List.mem_cons_of_mem _ (acX6 w h)) hown hK hP (by omega) hR.1 rfl 0 (by decide) (hts _ (List.mem_cons_of_mem _ (ac17 _ (List.mem_of_getElem? (i := 17) rfl)))) (fun _ h => h) rfl (dk kX6_does_0_ok 8 rfl) ?_
  refine lv_bipush (v := nI 56) hx hb (dk kX6_does_0_ok 9 rfl) rfl ?_
  refine ald (j := 56) hx hb hK hP (k := k + 1) (by omega) hR.2.1 rfl (by decide) (by decide) (dk kX6_does_0_ok 10 rfl) ?_
  rw [hrt]
  refine n_imul hx hb (dk kX6_does_0_ok 11 rfl) ?_
  refine lv_aload_n hx hb (dk kX6_does_0_ok 12 rfl) rfl (lv_at hl 0 rfl) ?_
  refine gf hx hb hts (fun w h => List.mem_cons_of_mem _ (acX6 w h)) hown hK hP (by omega) hR.1 rfl 6 (by decide) (hts _ (List.mem_cons_of_mem _ (ac17 _ (List.mem_of_getElem? (i := 23) rfl)))) (fun _ h => h) rfl (dk kX6_does_0_ok 13 rfl) ?_
  refine lv_iload_n hx hb (dk kX6_does_0_ok 14 rfl) rfl (lv_at hl 1 rfl) ?_
  refine lv_iconst (v := nI 1) hx hb (dk kX6_does_0_ok 15 rfl) rfl ?_
  refine n_iadd hx hb (dk kX6_does_0_ok 16 rfl) ?_
  refine ald (j := pl + 1) hx hb hK hP (k := k + 7) (by omega) hR.2.2.2.2.2.2.2 rfl (by omega) (by decide) (dk kX6_does_0_ok 17 rfl) ?_
  rw [h1]
  refine n_iadd hx hb (dk kX6_does_0_ok 18 rfl) ?_
  refine lv_bipush (v := nI 48) hx hb (dk kX6_does_0_ok 19 rfl) rfl ?_
  refine n_isub hx hb (by omega) (dk kX6_does_0_ok 20 rfl) ?_
  rw [show 4 * t + (48 + e9) - 48 = 4 * t + e9 by omega]
  refine lv_istore_n (lv' := [(2, .int (nI (4 * t + e9))), (0, .ref (ad k)), (1, .int (nI pl))]) hx hb (dk kX6_does_0_ok 21 rfl) rfl hl (by decide) rfl (fun ls hl => ?_)
  refine lv_aload_n hx hb (dk kX6_does_0_ok 22 rfl) rfl (lv_at hl 1 rfl) ?_
  refine lv_iload_n hx hb (dk kX6_does_0_ok 23 rfl) rfl (lv_at hl 0 rfl) ?_
  refine cvR (As := [.int (nI (4 * t + e9))]) (rest := []) ⟨hx, hb, hml, hown, hts⟩ (tX6_whyNot l D cI cQ cL ad N F k hk r ps sl sd ne fa bu hs st ln pt th hR (nI (4 * t + e9)) (4 * t + e9) rfl (by omega)) (cwV9 1 hts mcX6_whyNot (ac20 _ (List.mem_of_getElem? (i := 19) rfl)) miX6_whyNot meX6_whyNot mini_RX6 rfl rfl hdX6_whyNot ⟨Nat.le_of_ble_eq_true rfl, Nat.le_of_ble_eq_true rfl⟩) hK hP hNW (by omega) hR.1 rfl rfl hl.1 rfl (Nat.le_of_ble_eq_true rfl) ⟨Nat.le_of_ble_eq_true rfl, Nat.le_of_ble_eq_true rfl⟩ (dk kX6_does_0_ok 24 rfl) ?_
  refine n_if_ne (tgt := 45) hx hb (by have q1 := rwn_le r (4 * t + e9); omega) (dk kX6_does_0_ok 25 rfl) (by decide) (fun _ => ?_) (fun h9 => absurd h9 hwn)
  refine lv_iconst (v := nI 0) hx hb (dk kX6_does_0_ok 28 rfl) rfl ?_
  refine lv_istore_n (lv' := [(3, .int (nI 0)), (2, .int (nI (4 * t + e9))), (0, .ref (ad k)), (1, .int (nI pl))]) hx hb (dk kX6_does_0_ok 29 rfl) rfl hl (by decide) rfl (fun ls hl => ?_)
  refine lv_iload_n hx hb (dk kX6_does_0_ok 30 rfl) rfl (lv_at hl 0 rfl) ?_
  refine n_if_eq (tgt := 81) hx hb (by decide) (dk kX6_does_0_ok 31 rfl) (by decide) (fun _ => ?_) (fun h9 => absurd rfl h9)
  refine lv_iconst (v := nI 0) hx hb (dk kX6_does_0_ok 52 rfl) rfl ?_
  refine lv_istore (lv' := [(4, .int (nI 0)), (3, .int (nI 0)), (2, .int (nI (4 * t + e9))), (0, .ref (ad k)), (1, .int (nI pl))]) hx hb (dk kX6_does_0_ok 53 rfl) hl (by decide) rfl (fun ls hl => ?_)
  refine lv_iload_n hx hb (dk kX6_does_0_ok 54 rfl) rfl (lv_at hl 1 rfl) ?_
  exact hret _ _ _ rfl (dk kX6_does_0_ok 55 rfl)
set_option maxRecDepth 100000 in
set_option maxHeartbeats 4000000 in
theorem tX6_doesL (l : Launch) (D : va_G) (cI cQ cL : ClassId) (ad : Nat → Nat) (N : Nat) (F : Nat → va_E) (k : Nat) (hk : k + 7 < N) (r ps sl sd ne fa bu : Nat → Int32) (hs : Bool) (st ln pt : Nat) (th : Int32) (hR : rfAt cI ad F k r ps sl sd ne fa bu hs st ln pt th) (t : Nat) (ht : t < 4) (hrt : r 56 = nI t) (pl : Nat) (hpl : pl + 4 < 60) (x9 y9 f d : Nat) (hx9 : x9 < 13) (hy9 : y9 < 13) (hf : 1 ≤ f ∧ f ≤ 6) (hd : d < 8) (h0 : bu pl = nI 108) (h1 : bu (pl + 1) = nI (97 + x9)) (h2 : bu (pl + 2) = nI (97 + y9)) (h3 : bu (pl + 3) = nI (48 + f)) (h4 : bu (pl + 4) = nI (48 + d)) (hnl : f ≤ hgt r (nI (13 * y9 + x9))) (hwl : rlW r (13 * y9 + x9) f d) (hlo : lo01 r) (hwn : rwl r (13 * y9 + x9) f d = 0) : MX l yX6_does (Cond.code yX6_does cX6_does 5 (some .boolean) :: AW) ({ frames := 5, cells := 0, slots := 0, locals := 110 } : Room) D cI cQ cL ad N F [.ref (ad k), .int (nI pl)] (dp (some (.int (nI 1))) (rfSet cI ad F k (rlx r (13 * y9 + x9) f d t) ps sl sd ne fa bu hs st ln pt th)) 0 0 := by
  refine mx_i (ty := .boolean) (by decide +kernel) rfl (Nat.le_of_ble_eq_true rfl) (fun p e s m below meth cd Q ls hx hb hml hown hts hDi hP hK hNW hS hret hl => ?_)
  have hown : s.vm.findClass RX6 = some m.cls := hown
  have hl : lv_has ls 5 [(0, .ref (ad k)), (1, .int (nI pl))] := hl
  refine lv_aload_n hx hb (dk kX6_does_0_ok 0 rfl) rfl (lv_at hl 0 rfl) ?_
  refine gf hx hb hts (fun w h => List.mem_cons_of_mem _ (acX6 w h)) hown hK hP (by omega) hR.1 rfl 6 (by decide) (hts _ (List.mem_cons_of_mem _ (ac17 _ (List.mem_of_getElem? (i := 23) rfl)))) (fun _ h => h) rfl (dk kX6_does_0_ok 1 rfl) ?_
  refine lv_iload_n hx hb (dk kX6_does_0_ok 2 rfl) rfl (lv_at hl 1 rfl) ?_
  refine ald (j := pl) hx hb hK hP (k := k + 7) (by omega) hR.2.2.2.2.2.2.2 rfl (by omega) (by decide) (dk kX6_does_0_ok 3 rfl) ?_
  rw [h0]
  refine lv_bipush (v := nI 102) hx hb (dk kX6_does_0_ok 4 rfl) rfl ?_
  refine n_icmp_ne (tgt := 86) hx hb (by decide) (by decide) (dk kX6_does_0_ok 5 rfl) (by decide) (fun _ => ?_) (fun h9 => absurd h9 (by decide))
  refine lv_bipush (v := nI 13) hx hb (dk kX6_does_0_ok 56 rfl) rfl ?_
  refine lv_aload_n hx hb (dk kX6_does_0_ok 57 rfl) rfl (lv_at hl 0 rfl) ?_
  refine gf hx hb hts (fun w h => List.mem_cons_of_mem _ (acX6 w h)) hown hK hP (by omega) hR.1 rfl 6 (by decide) (hts _ (List.mem_cons_of_mem _ (ac17 _ (List.mem_of_getElem? (i := 23) rfl)))) (fun _ h => h) rfl (dk kX6_does_0_ok 58 rfl) ?_
  refine lv_iload_n hx hb (dk kX6_does_0_ok 59 rfl) rfl (lv_at hl 1 rfl) ?_
  refine lv_iconst (v := nI 2) hx hb (dk kX6_does_1_ok 0 rfl) rfl ?_
  refine n_iadd hx hb (dk kX6_does_1_ok 1 rfl) ?_
  refine ald (j := pl + 2) hx hb hK hP (k := k + 7) (by omega) hR.2.2.2.2.2.2.2 rfl (by omega) (by decide) (dk kX6_does_1_ok 2 rfl) ?_
  rw [h2]
  refine lv_bipush (v := nI 97) hx hb (dk kX6_does_1_ok 3 rfl) rfl ?_
  refine n_isub hx hb (by omega) (dk kX6_does_1_ok 4 rfl) ?_
  rw [show 97 + y9 - 97 = y9 by omega]
  refine n_imul hx hb (dk kX6_does_1_ok 5 rfl) ?_
  refine lv_aload_n hx hb (dk kX6_does_1_ok 6 rfl) rfl (lv_at hl 0 rfl) ?_
  refine gf hx hb hts (fun w h => List.mem_cons_of_mem _ (acX6 w h)) hown hK hP (by omega) hR.1 rfl 6 (by decide) (hts _ (List.mem_cons_of_mem _ (ac17 _ (List.mem_of_getElem? (i := 23) rfl)))) (fun _ h => h) rfl (dk kX6_does_1_ok 7 rfl) ?_
  refine lv_iload_n hx hb (dk kX6_does_1_ok 8 rfl) rfl (lv_at hl 1 rfl) ?_
  refine lv_iconst (v := nI 1) hx hb (dk kX6_does_1_ok 9 rfl) rfl ?_
  refine n_iadd hx hb (dk kX6_does_1_ok 10 rfl) ?_
  refine ald (j := pl + 1) hx hb hK hP (k := k + 7) (by omega) hR.2.2.2.2.2.2.2 rfl (by omega) (by decide) (dk kX6_does_1_ok 11 rfl) ?_
  rw [h1]
  refine n_iadd hx hb (dk kX6_does_1_ok 12 rfl) ?_
  refine lv_bipush (v := nI 97) hx hb (dk kX6_does_1_ok 13 rfl) rfl ?_
  refine n_isub hx hb (by omega) (dk kX6_does_1_ok 14 rfl) ?_
  rw [show 13 * y9 + (97 + x9) - 97 = 13 * y9 + x9 by omega]
  refine lv_istore_n (lv' := [(2, .int (nI (13 * y9 + x9))), (0, .ref (ad k)), (1, .int (nI pl))]) hx hb (dk kX6_does_1_ok 15 rfl) rfl hl (by decide) rfl (fun ls hl => ?_)
  refine lv_aload_n hx hb (dk kX6_does_1_ok 16 rfl) rfl (lv_at hl 1 rfl) ?_
  refine lv_iload_n hx hb (dk kX6_does_1_ok 17 rfl) rfl (lv_at hl 0 rfl) ?_
  refine lv_aload_n hx hb (dk kX6_does_1_ok 18 rfl) rfl (lv_at hl 1 rfl) ?_
  refine gf hx hb hts (fun w h => List.mem_cons_of_mem _ (acX6 w h)) hown hK hP (by omega) hR.1 rfl 6 (by decide) (hts _ (List.mem_cons_of_mem _ (ac17 _ (List.mem_of_getElem? (i := 23) rfl)))) (fun _ h => h) rfl (dk kX6_does_1_ok 19 rfl) ?_
  refine lv_iload_n hx hb (dk kX6_does_1_ok 20 rfl) rfl (lv_at hl 2 rfl) ?_
  refine lv_iconst (v := nI 3) hx hb (dk kX6_does_1_ok 21 rfl) rfl ?_
  refine n_iadd hx hb (dk kX6_does_1_ok 22 rfl) ?_
  refine ald (j := pl + 3) hx hb hK hP (k := k + 7) (by omega) hR.2.2.2.2.2.2.2 rfl (by omega) (by decide) (dk kX6_does_1_ok 23 rfl) ?_
  rw [h3]
  refine lv_bipush (v := nI 48) hx hb (dk kX6_does_1_ok 24 rfl) rfl ?_
  refine n_isub hx hb (by omega) (dk kX6_does_1_ok 25 rfl) ?_
  rw [show 48 + f - 48 = f by omega]
  refine lv_aload_n hx hb (dk kX6_does_1_ok 26 rfl) rfl (lv_at hl 1 rfl) ?_
  refine gf hx hb hts (fun w h => List.mem_cons_of_mem _ (acX6 w h)) hown hK hP (by omega) hR.1 rfl 6 (by decide) (hts _ (List.mem_cons_of_mem _ (ac17 _ (List.mem_of_getElem? (i := 23) rfl)))) (fun _ h => h) rfl (dk kX6_does_1_ok 27 rfl) ?_
  refine lv_iload_n hx hb (dk kX6_does_1_ok 28 rfl) rfl (lv_at hl 2 rfl) ?_
  refine lv_iconst (v := nI 4) hx hb (dk kX6_does_1_ok 29 rfl) rfl ?_
  refine n_iadd hx hb (dk kX6_does_1_ok 30 rfl) ?_
  refine ald (j := pl + 4) hx hb hK hP (k := k + 7) (by omega) hR.2.2.2.2.2.2.2 rfl (by omega) (by decide) (dk kX6_does_1_ok 31 rfl) ?_
  rw [h4]
  refine lv_bipush (v := nI 48) hx hb (dk kX6_does_1_ok 32 rfl) rfl ?_
  refine n_isub hx hb (by omega) (dk kX6_does_1_ok 33 rfl) ?_
  rw [show 48 + d - 48 = d by omega]
  refine cvR (As := [.int (nI (13 * y9 + x9)), .int (nI f), .int (nI d)]) (rest := []) ⟨hx, hb, hml, hown, hts⟩ (tX6_whyNotLifted l D cI cQ cL ad N F k hk r ps sl sd ne fa bu hs st ln pt th hR (nI (13 * y9 + x9)) (13 * y9 + x9) rfl (by omega) (nI f) f rfl ⟨hf.1, by omega⟩ (nI d) d rfl hd) (cwV9 3 hts mcX6_whyNotLifted (ac21 _ (List.mem_of_getElem? (i := 7) rfl)) miX6_whyNotLifted meX6_whyNotLifted mini_RX6 rfl rfl hdX6_whyNotLifted ⟨Nat.le_of_ble_eq_true rfl, Nat.le_of_ble_eq_true rfl⟩) hK hP hNW (by omega) hR.1 rfl rfl hl.1 rfl (Nat.le_of_ble_eq_true rfl) ⟨Nat.le_of_ble_eq_true rfl, Nat.le_of_ble_eq_true rfl⟩ (dk kX6_does_1_ok 34 rfl) ?_
  refine n_if_ne (tgt := 147) hx hb (by have q1 := rwl_le r (13 * y9 + x9) f d; omega) (dk kX6_does_1_ok 35 rfl) (by decide) (fun h9 => absurd hwn h9) (fun _ => ?_)
  refine lv_iconst (v := nI 1) hx hb (dk kX6_does_1_ok 36 rfl) rfl ?_
  refine lv_goto (tgt := 148) hx hb (dk kX6_does_1_ok 37 rfl) (by decide) ?_
  refine lv_istore_n (lv' := [(3, .int (nI 1)), (2, .int (nI (13 * y9 + x9))), (0, .ref (ad k)), (1, .int (nI pl))]) hx hb (dk kX6_does_1_ok 39 rfl) rfl hl (by decide) rfl (fun ls hl => ?_)
  refine lv_iload_n hx hb (dk kX6_does_1_ok 40 rfl) rfl (lv_at hl 0 rfl) ?_
  refine n_if_eq (tgt := 183) hx hb (by decide) (dk kX6_does_1_ok 41 rfl) (by decide) (fun h9 => absurd h9 (by decide)) (fun _ => ?_)
  refine lv_aload_n hx hb (dk kX6_does_1_ok 42 rfl) rfl (lv_at hl 2 rfl) ?_
  refine lv_iload_n hx hb (dk kX6_does_1_ok 43 rfl) rfl (lv_at hl 1 rfl) ?_
  refine lv_aload_n hx hb (dk kX6_does_1_ok 44 rfl) rfl (lv_at hl 2 rfl) ?_
  refine gf hx hb hts (fun w h => List.mem_cons_of_mem _ (acX6 w h)) hown hK hP (by omega) hR.1 rfl 6 (by decide) (hts _ (List.mem_cons_of_mem _ (ac17 _ (List.mem_of_getElem? (i := 23) rfl)))) (fun _ h => h) rfl (dk kX6_does_1_ok 45 rfl) ?_
  refine lv_iload_n hx hb (dk kX6_does_1_ok 46 rfl) rfl (lv_at hl 3 rfl) ?_
  refine lv_iconst (v := nI 3) hx hb (dk kX6_does_1_ok 47 rfl) rfl ?_
  refine n_iadd hx hb (dk kX6_does_1_ok 48 rfl) ?_
  refine ald (j := pl + 3) hx hb hK hP (k := k + 7) (by omega) hR.2.2.2.2.2.2.2 rfl (by omega) (by decide) (dk kX6_does_1_ok 49 rfl) ?_
  rw [h3]
  refine lv_bipush (v := nI 48) hx hb (dk kX6_does_1_ok 50 rfl) rfl ?_
  refine n_isub hx hb (by omega) (dk kX6_does_1_ok 51 rfl) ?_
  rw [show 48 + f - 48 = f by omega]
  refine lv_aload_n hx hb (dk kX6_does_1_ok 52 rfl) rfl (lv_at hl 2 rfl) ?_
  refine gf hx hb hts (fun w h => List.mem_cons_of_mem _ (acX6 w h)) hown hK hP (by omega) hR.1 rfl 6 (by decide) (hts _ (List.mem_cons_of_mem _ (ac17 _ (List.mem_of_getElem? (i := 23) rfl)))) (fun _ h => h) rfl (dk kX6_does_1_ok 53 rfl) ?_
  refine lv_iload_n hx hb (dk kX6_does_1_ok 54 rfl) rfl (lv_at hl 3 rfl) ?_
  refine lv_iconst (v := nI 4) hx hb (dk kX6_does_1_ok 55 rfl) rfl ?_
  refine n_iadd hx hb (dk kX6_does_1_ok 56 rfl) ?_
  refine ald (j := pl + 4) hx hb hK hP (k := k + 7) (by omega) hR.2.2.2.2.2.2.2 rfl (by omega) (by decide) (dk kX6_does_1_ok 57 rfl) ?_
  rw [h4]
  refine lv_bipush (v := nI 48) hx hb (dk kX6_does_1_ok 58 rfl) rfl ?_
  refine n_isub hx hb (by omega) (dk kX6_does_1_ok 59 rfl) ?_
  rw [show 48 + d - 48 = d by omega]
  refine cvD (As := [.int (nI (13 * y9 + x9)), .int (nI f), .int (nI d)]) (rest := []) (rfSet cI ad F k (rlx r (13 * y9 + x9) f d t) ps sl sd ne fa bu hs st ln pt th) ⟨hx, hb, hml, hown, hts⟩ (tX6_lifts l D cI cQ cL ad N F k hk r ps sl sd ne fa bu hs st ln pt th hR (nI (13 * y9 + x9)) (13 * y9 + x9) rfl (by omega) (nI f) f rfl ⟨hf.1, by omega⟩ (nI d) d rfl hd hnl hwl t ht hrt hlo) (cwV9 3 hts mcX6_lifts (ac21 _ (List.mem_of_getElem? (i := 11) rfl)) miX6_lifts meX6_lifts mini_RX6 rfl rfl hdX6_lifts ⟨Nat.le_of_ble_eq_true rfl, Nat.le_of_ble_eq_true rfl⟩) hDi hK hP hNW hS (by omega) hR.1 rfl rfl hl.1 rfl (Nat.le_of_ble_eq_true rfl) ⟨Nat.le_of_ble_eq_true rfl, Nat.le_of_ble_eq_true rfl⟩ (dk kX6_does_2_ok 0 rfl) rfl (fun H locs hP hS => ?_)
  refine lv_goto (tgt := 184) hx hb (dk kX6_does_2_ok 1 rfl) (by decide) ?_
  refine lv_istore (lv' := [(4, .int (nI (hgt r (nI (13 * y9 + x9)) - f))), (3, .int (nI 1)), (2, .int (nI (13 * y9 + x9))), (0, .ref (ad k)), (1, .int (nI pl))]) hx hb (dk kX6_does_2_ok 3 rfl) hl (by decide) rfl (fun ls hl => ?_)
  refine lv_iload_n hx hb (dk kX6_does_2_ok 4 rfl) rfl (lv_at hl 1 rfl) ?_
  exact hret _ _ _ _ _ _ _ _ rfl ⟨rfl, rfl⟩ hP hS (by decide) (by decide) (dk kX6_does_2_ok 5 rfl)
set_option maxRecDepth 100000 in
set_option maxHeartbeats 4000000 in
theorem tX6_doesLX (l : Launch) (D : va_G) (cI cQ cL : ClassId) (ad : Nat → Nat) (N : Nat) (F : Nat → va_E) (k : Nat) (hk : k + 7 < N) (r ps sl sd ne fa bu : Nat → Int32) (hs : Bool) (st ln pt : Nat) (th : Int32) (hR : rfAt cI ad F k r ps sl sd ne fa bu hs st ln pt th) (t : Nat) (ht : t < 4) (hrt : r 56 = nI t) (pl : Nat) (hpl : pl + 4 < 60) (x9 y9 f d : Nat) (hx9 : x9 < 13) (hy9 : y9 < 13) (hf : 1 ≤ f ∧ f ≤ 6) (hd : d < 8) (h0 : bu pl = nI 108) (h1 : bu (pl + 1) = nI (97 + x9)) (h2 : bu (pl + 2) = nI (97 + y9)) (h3 : bu (pl + 3) = nI (48 + f)) (h4 : bu (pl + 4) = nI (48 + d)) (hwn : rwl r (13 * y9 + x9) f d ≠ 0) : MR l yX6_does (Cond.code yX6_does cX6_does 5 (some .boolean) :: AW) ({ frames := 5, cells := 0, slots := 0, locals := 110 } : Room) D cI cQ cL ad N F [.ref (ad k), .int (nI pl)] (.int (nI 0)) := by
  refine mr_i (ty := .boolean) (by decide +kernel) rfl rfl rfl rfl (Nat.le_of_ble_eq_true rfl) (fun p e s m below meth cd Q ls hx hb hml hown hts hP hK hNW hret hl => ?_)
  have hown : s.vm.findClass RX6 = some m.cls := hown
  have hl : lv_has ls 5 [(0, .ref (ad k)), (1, .int (nI pl))] := hl
  refine lv_aload_n hx hb (dk kX6_does_0_ok 0 rfl) rfl (lv_at hl 0 rfl) ?_
  refine gf hx hb hts (fun w h => List.mem_cons_of_mem _ (acX6 w h)) hown hK hP (by omega) hR.1 rfl 6 (by decide) (hts _ (List.mem_cons_of_mem _ (ac17 _ (List.mem_of_getElem? (i := 23) rfl)))) (fun _ h => h) rfl (dk kX6_does_0_ok 1 rfl) ?_
  refine lv_iload_n hx hb (dk kX6_does_0_ok 2 rfl) rfl (lv_at hl 1 rfl) ?_
  refine ald (j := pl) hx hb hK hP (k := k + 7) (by omega) hR.2.2.2.2.2.2.2 rfl (by omega) (by decide) (dk kX6_does_0_ok 3 rfl) ?_
  rw [h0]
  refine lv_bipush (v := nI 102) hx hb (dk kX6_does_0_ok 4 rfl) rfl ?_
  refine n_icmp_ne (tgt := 86) hx hb (by decide) (by decide) (dk kX6_does_0_ok 5 rfl) (by decide) (fun _ => ?_) (fun h9 => absurd h9 (by decide))
  refine lv_bipush (v := nI 13) hx hb (dk kX6_does_0_ok 56 rfl) rfl ?_
  refine lv_aload_n hx hb (dk kX6_does_0_ok 57 rfl) rfl (lv_at hl 0 rfl) ?_
  refine gf hx hb hts (fun w h => List.mem_cons_of_mem _ (acX6 w h)) hown hK hP (by omega) hR.1 rfl 6 (by decide) (hts _ (List.mem_cons_of_mem _ (ac17 _ (List.mem_of_getElem? (i := 23) rfl)))) (fun _ h => h) rfl (dk kX6_does_0_ok 58 rfl) ?_
  refine lv_iload_n hx hb (dk kX6_does_0_ok 59 rfl) rfl (lv_at hl 1 rfl) ?_
  refine lv_iconst (v := nI 2) hx hb (dk kX6_does_1_ok 0 rfl) rfl ?_
  refine n_iadd hx hb (dk kX6_does_1_ok 1 rfl) ?_
  refine ald (j := pl + 2) hx hb hK hP (k := k + 7) (by omega) hR.2.2.2.2.2.2.2 rfl (by omega) (by decide) (dk kX6_does_1_ok 2 rfl) ?_
  rw [h2]
  refine lv_bipush (v := nI 97) hx hb (dk kX6_does_1_ok 3 rfl) rfl ?_
  refine n_isub hx hb (by omega) (dk kX6_does_1_ok 4 rfl) ?_
  rw [show 97 + y9 - 97 = y9 by omega]
  refine n_imul hx hb (dk kX6_does_1_ok 5 rfl) ?_
  refine lv_aload_n hx hb (dk kX6_does_1_ok 6 rfl) rfl (lv_at hl 0 rfl) ?_
  refine gf hx hb hts (fun w h => List.mem_cons_of_mem _ (acX6 w h)) hown hK hP (by omega) hR.1 rfl 6 (by decide) (hts _ (List.mem_cons_of_mem _ (ac17 _ (List.mem_of_getElem? (i := 23) rfl)))) (fun _ h => h) rfl (dk kX6_does_1_ok 7 rfl) ?_
  refine lv_iload_n hx hb (dk kX6_does_1_ok 8 rfl) rfl (lv_at hl 1 rfl) ?_
  refine lv_iconst (v := nI 1) hx hb (dk kX6_does_1_ok 9 rfl) rfl ?_
  refine n_iadd hx hb (dk kX6_does_1_ok 10 rfl) ?_
  refine ald (j := pl + 1) hx hb hK hP (k := k + 7) (by omega) hR.2.2.2.2.2.2.2 rfl (by omega) (by decide) (dk kX6_does_1_ok 11 rfl) ?_
  rw [h1]
  refine n_iadd hx hb (dk kX6_does_1_ok 12 rfl) ?_
  refine lv_bipush (v := nI 97) hx hb (dk kX6_does_1_ok 13 rfl) rfl ?_
  refine n_isub hx hb (by omega) (dk kX6_does_1_ok 14 rfl) ?_
  rw [show 13 * y9 + (97 + x9) - 97 = 13 * y9 + x9 by omega]
  refine lv_istore_n (lv' := [(2, .int (nI (13 * y9 + x9))), (0, .ref (ad k)), (1, .int (nI pl))]) hx hb (dk kX6_does_1_ok 15 rfl) rfl hl (by decide) rfl (fun ls hl => ?_)
  refine lv_aload_n hx hb (dk kX6_does_1_ok 16 rfl) rfl (lv_at hl 1 rfl) ?_
  refine lv_iload_n hx hb (dk kX6_does_1_ok 17 rfl) rfl (lv_at hl 0 rfl) ?_
  refine lv_aload_n hx hb (dk kX6_does_1_ok 18 rfl) rfl (lv_at hl 1 rfl) ?_
  refine gf hx hb hts (fun w h => List.mem_cons_of_mem _ (acX6 w h)) hown hK hP (by omega) hR.1 rfl 6 (by decide) (hts _ (List.mem_cons_of_mem _ (ac17 _ (List.mem_of_getElem? (i := 23) rfl)))) (fun _ h => h) rfl (dk kX6_does_1_ok 19 rfl) ?_
  refine lv_iload_n hx hb (dk kX6_does_1_ok 20 rfl) rfl (lv_at hl 2 rfl) ?_
  refine lv_iconst (v := nI 3) hx hb (dk kX6_does_1_ok 21 rfl) rfl ?_
  refine n_iadd hx hb (dk kX6_does_1_ok 22 rfl) ?_
  refine ald (j := pl + 3) hx hb hK hP (k := k + 7) (by omega) hR.2.2.2.2.2.2.2 rfl (by omega) (by decide) (dk kX6_does_1_ok 23 rfl) ?_
  rw [h3]
  refine lv_bipush (v := nI 48) hx hb (dk kX6_does_1_ok 24 rfl) rfl ?_
  refine n_isub hx hb (by omega) (dk kX6_does_1_ok 25 rfl) ?_
  rw [show 48 + f - 48 = f by omega]
  refine lv_aload_n hx hb (dk kX6_does_1_ok 26 rfl) rfl (lv_at hl 1 rfl) ?_
  refine gf hx hb hts (fun w h => List.mem_cons_of_mem _ (acX6 w h)) hown hK hP (by omega) hR.1 rfl 6 (by decide) (hts _ (List.mem_cons_of_mem _ (ac17 _ (List.mem_of_getElem? (i := 23) rfl)))) (fun _ h => h) rfl (dk kX6_does_1_ok 27 rfl) ?_
  refine lv_iload_n hx hb (dk kX6_does_1_ok 28 rfl) rfl (lv_at hl 2 rfl) ?_
  refine lv_iconst (v := nI 4) hx hb (dk kX6_does_1_ok 29 rfl) rfl ?_
  refine n_iadd hx hb (dk kX6_does_1_ok 30 rfl) ?_
  refine ald (j := pl + 4) hx hb hK hP (k := k + 7) (by omega) hR.2.2.2.2.2.2.2 rfl (by omega) (by decide) (dk kX6_does_1_ok 31 rfl) ?_
  rw [h4]
  refine lv_bipush (v := nI 48) hx hb (dk kX6_does_1_ok 32 rfl) rfl ?_
  refine n_isub hx hb (by omega) (dk kX6_does_1_ok 33 rfl) ?_
  rw [show 48 + d - 48 = d by omega]
  refine cvR (As := [.int (nI (13 * y9 + x9)), .int (nI f), .int (nI d)]) (rest := []) ⟨hx, hb, hml, hown, hts⟩ (tX6_whyNotLifted l D cI cQ cL ad N F k hk r ps sl sd ne fa bu hs st ln pt th hR (nI (13 * y9 + x9)) (13 * y9 + x9) rfl (by omega) (nI f) f rfl ⟨hf.1, by omega⟩ (nI d) d rfl hd) (cwV9 3 hts mcX6_whyNotLifted (ac21 _ (List.mem_of_getElem? (i := 7) rfl)) miX6_whyNotLifted meX6_whyNotLifted mini_RX6 rfl rfl hdX6_whyNotLifted ⟨Nat.le_of_ble_eq_true rfl, Nat.le_of_ble_eq_true rfl⟩) hK hP hNW (by omega) hR.1 rfl rfl hl.1 rfl (Nat.le_of_ble_eq_true rfl) ⟨Nat.le_of_ble_eq_true rfl, Nat.le_of_ble_eq_true rfl⟩ (dk kX6_does_1_ok 34 rfl) ?_
  refine n_if_ne (tgt := 147) hx hb (by have q1 := rwl_le r (13 * y9 + x9) f d; omega) (dk kX6_does_1_ok 35 rfl) (by decide) (fun _ => ?_) (fun h9 => absurd h9 hwn)
  refine lv_iconst (v := nI 0) hx hb (dk kX6_does_1_ok 38 rfl) rfl ?_
  refine lv_istore_n (lv' := [(3, .int (nI 0)), (2, .int (nI (13 * y9 + x9))), (0, .ref (ad k)), (1, .int (nI pl))]) hx hb (dk kX6_does_1_ok 39 rfl) rfl hl (by decide) rfl (fun ls hl => ?_)
  refine lv_iload_n hx hb (dk kX6_does_1_ok 40 rfl) rfl (lv_at hl 0 rfl) ?_
  refine n_if_eq (tgt := 183) hx hb (by decide) (dk kX6_does_1_ok 41 rfl) (by decide) (fun _ => ?_) (fun h9 => absurd rfl h9)
  refine lv_iconst (v := nI 0) hx hb (dk kX6_does_2_ok 2 rfl) rfl ?_
  refine lv_istore (lv' := [(4, .int (nI 0)), (3, .int (nI 0)), (2, .int (nI (13 * y9 + x9))), (0, .ref (ad k)), (1, .int (nI pl))]) hx hb (dk kX6_does_2_ok 3 rfl) hl (by decide) rfl (fun ls hl => ?_)
  refine lv_iload_n hx hb (dk kX6_does_2_ok 4 rfl) rfl (lv_at hl 1 rfl) ?_
  exact hret _ _ _ rfl (dk kX6_does_2_ok 5 rfl)
end
/-! from run -/
section
/-! a text's parts, one after the other -/
def pF (a : Nat → Int32) (n k e d f : Nat) : Prop := k + 3 < n ∧ e < 4 ∧ d < 8 ∧ (1 ≤ f ∧ f ≤ 9) ∧ a k = nI 102 ∧ a (k + 1) = nI (48 + e) ∧ a (k + 2) = nI (48 + d) ∧ a (k + 3) = nI (48 + f)
def pLi (a : Nat → Int32) (n k x y f d : Nat) : Prop := k + 4 < n ∧ x < 13 ∧ y < 13 ∧ (1 ≤ f ∧ f ≤ 6) ∧ d < 8 ∧ a k = nI 108 ∧ a (k + 1) = nI (97 + x) ∧ a (k + 2) = nI (97 + y) ∧ a (k + 3) = nI (48 + f) ∧ a (k + 4) = nI (48 + d)
/-- the text is one of parts, from k on -/
def wfT (a : Nat → Int32) (n : Nat) : Nat → Nat → Prop
  | 0, k => n ≤ k
  | fu + 1, k => n ≤ k ∨ (∃ e d f, pF a n k e d f ∧ wfT a n fu (k + 5)) ∨ ∃ x y f d, pLi a n k x y f d ∧ wfT a n fu (k + 6)
def rRun (a : Nat → Int32) (n : Nat) : Nat → Nat → (Nat → Int32) → Nat → Nat × (Nat → Int32)
  | 0, _, r, dn => (dn, r)
  | fu + 1, k, r, dn =>
    if n ≤ k then (dn, r)
    else if a k = nI 102 then
      (if rwn r (4 * ix (r 56) + (ix (a (k + 1)) - 48)) = 0 then rRun a n fu (k + 5) (rfx r (4 * ix (r 56) + (ix (a (k + 1)) - 48)) (ldg (r (4 * ix (r 56) + (ix (a (k + 1)) - 48))) (nI (ix (a (k + 2)) - 48)) (stp (4 * ix (r 56) + (ix (a (k + 1)) - 48)) (ix (a (k + 3)) - 48))) (ix (r 56))) (dn + 1) else (dn, r))
    else if rwl r (13 * (ix (a (k + 2)) - 97) + (ix (a (k + 1)) - 97)) (ix (a (k + 3)) - 48) (ix (a (k + 4)) - 48) = 0 then rRun a n fu (k + 6) (rlx r (13 * (ix (a (k + 2)) - 97) + (ix (a (k + 1)) - 97)) (ix (a (k + 3)) - 48) (ix (a (k + 4)) - 48) (ix (r 56))) (dn + 1) else (dn, r)
theorem ixc {o e : Nat} (h : o + e < 2 ^ 31) : ix (nI (o + e)) - o = e := by rw [ix_nI h]; omega
section RN
variable {a r : Nat → Int32} {n fu k dn : Nat}
theorem rRun_end (h : n ≤ k) : rRun a n fu k r dn = (dn, r) := by
  cases fu with
  | zero => rfl
  | succ fu => rw [rRun, if_pos h]
theorem rRun_f {e d f t : Nat} (hp : pF a n k e d f) (ht : ix (r 56) = t) (h : rwn r (4 * t + e) = 0) : rRun a n (fu + 1) k r dn = rRun a n fu (k + 5) (rfx r (4 * t + e) (ldg (r (4 * t + e)) (nI d) (stp (4 * t + e) f)) t) (dn + 1) := by
  obtain ⟨h1, h2, h3, h4, h5, h6, h7, h8⟩ := hp
  rw [rRun, if_neg (by omega), if_pos h5, h6, h7, h8, ixc (by omega), ixc (by omega), ixc (by omega), ht, if_pos h]
theorem rRun_fx {e d f : Nat} (hp : pF a n k e d f) (h : rwn r (4 * ix (r 56) + e) ≠ 0) : rRun a n (fu + 1) k r dn = (dn, r) := by
  obtain ⟨h1, h2, h3, h4, h5, h6, h7, h8⟩ := hp
  rw [rRun, if_neg (by omega), if_pos h5, h6, h7, h8, ixc (by omega), ixc (by omega), ixc (by omega), if_neg h]
theorem rRun_l {x y f d t : Nat} (hp : pLi a n k x y f d) (ht : ix (r 56) = t) (h : rwl r (13 * y + x) f d = 0) : rRun a n (fu + 1) k r dn = rRun a n fu (k + 6) (rlx r (13 * y + x) f d t) (dn + 1) := by
  obtain ⟨h1, h2, h3, h4, h5, h6, h7, h8, h9, h10⟩ := hp
  rw [rRun, if_neg (by omega), if_neg (by rw [h6]; decide), h7, h8, h9, h10, ixc (by omega), ixc (by omega), ixc (by omega), ixc (by omega), ht, if_pos h]
theorem rRun_lx {x y f d : Nat} (hp : pLi a n k x y f d) (h : rwl r (13 * y + x) f d ≠ 0) : rRun a n (fu + 1) k r dn = (dn, r) := by
  obtain ⟨h1, h2, h3, h4, h5, h6, h7, h8, h9, h10⟩ := hp
  rw [rRun, if_neg (by omega), if_neg (by rw [h6]; decide), h7, h8, h9, h10, ixc (by omega), ixc (by omega), ixc (by omega), ixc (by omega), if_neg h]
end RN
theorem st_cell {D : va_G} {cl : List vw_C} {cI : ClassId} {ad : Nat → Nat} {N : Nat} {F : Nat → va_E} {H : Heap} {k : Nat} {c c' b v g h j : Nat → Int32} {t u z : Int32} (hP : va_P D cl (iW ad N (sSet cI ad F k c b v g h j t u z)) H) (e : ∀ x, x < 16 → c x = c' x) : va_P D cl (iW ad N (sSet cI ad F k c' b v g h j t u z)) H := by
  refine iW_ext hP (fun i _ => ?_)
  by_cases hi : i = k + 1 + 1
  · subst hi
    refine Or.inr ⟨cI, 16, c, c', ?_, ?_, e⟩
    · unfold sSet mSet
      rw [if_neg (by omega), if_neg (by omega), if_neg (by omega), if_neg (by omega), if_pos rfl]
    · unfold sSet mSet
      rw [if_neg (by omega), if_neg (by omega), if_neg (by omega), if_neg (by omega), if_pos rfl]
  · refine Or.inl ?_
    unfold sSet mSet
    repeat' split
    all_goals first | rfl | omega
theorem Pos.t_of {r b v g h j : Nat → Int32} {t : Nat} {u z : Int32} {Np : Nat → Nat} {Wp : Nat → Nat → Nat} (H : Pos r b v g h j t u z Np Wp) (ho : over r = false) : ix (r 56) = t ∧ r 56 = nI t := by
  have ht := H.2.2.2.2.2.2.2.2.1
  have h1 := (H.2.2.2.2.2.2.2.2.2.2.2 ho).1
  exact ⟨by rw [← h1]; exact ix_nI (by omega), h1.symm⟩
theorem Pos.tlt {r b v g h j : Nat → Int32} {t : Nat} {u z : Int32} {Np : Nat → Nat} {Wp : Nat → Nat → Nat} (H : Pos r b v g h j t u z Np Wp) : t < 4 := H.2.2.2.2.2.2.2.2.1
theorem rwn_over {r : Nat → Int32} {w : Nat} (h : rwn r w = 0) : over r = false := (rwn_0 h).1
theorem wnf_over {c v : Nat → Int32} {t w : Nat} (h : over c = true) : wnf c v t w ≠ 0 := by unfold wnf; rw [if_pos h]; decide
theorem rwn_over1 {r : Nat → Int32} {w : Nat} (h : over r = true) : rwn r w ≠ 0 := by unfold rwn; rw [if_pos h]; decide
theorem ldg_q {r b v g h j : Nat → Int32} {t : Nat} {u z : Int32} {Np : Nat → Nat} {Wp : Nat → Nat → Nat} (H : Pos r b v g h j t u z Np Wp) {w : Nat} (hw : w < 16) (hp : pot r w = false) (d : Int32) (f : Nat) : ldg (r w) d f = -1 ∨ ∃ q1, q1 < 169 ∧ ldg (r w) d f = nI q1 := ldg_cell (H.rok.2.2.1 w hw hp) d f
end
/-! from doparts -/
section
set_option maxRecDepth 100000 in
set_option maxHeartbeats 4000000 in
theorem tX5_doParts (l : Launch) (D : va_G) (cI cQ cL : ClassId) (ad : Nat → Nat) (N : Nat) (F : Nat → va_E) (hk : 76 < N) (r b v g h j : Nat → Int32) (t : Nat) (u z : Int32) (hN : stAt cI ad F 1 r b v g h j (nI t) u z) (a : Nat → Int32) (n : Nat) (hn60 : n ≤ 60) (hT : gtAt cI ad F 67 a n) (hs : Bool) (hC : F 0 = .inr (5, [.ref (ad 1), .ref (ad 9), .ref (ad 17), .ref (ad 67), .ref (ad 69), .ref (ad 73), .int (bI hs)])) (Np : Nat → Nat) (Wp : Nat → Nat → Nat) (HP : Pos r b v g h j t u z Np Wp) (hwf : wfT a n 61 0) : MX l yX5_doParts (Cond.code yX5_doParts cX5_doParts 4 (some .int) :: AW) ({ frames := 5, cells := 0, slots := 0, locals := 120 } : Room) D cI cQ cL ad N F [.ref (ad 0)] (fun v9 G9 => v9 = some (.int (nI (rRun a n 61 0 r 0).1)) ∧ ∃ (b1 v1 g1 h1 j1 : Nat → Int32) (t1 : Nat) (u1 : Int32) (N1 : Nat → Nat) (W1 : Nat → Nat → Nat), Pos (rRun a n 61 0 r 0).2 b1 v1 g1 h1 j1 t1 u1 z N1 W1 ∧ G9 = sSet cI ad F 1 (rRun a n 61 0 r 0).2 b1 v1 g1 h1 j1 (nI t1) u1 z) 0 0 := by
  refine mx_i (ty := .int) (by decide +kernel) rfl (Nat.le_of_ble_eq_true rfl) (fun p e s m below meth cd Q ls hx hb hml hown hts hDi hP hK hNW hS hret hl => ?_)
  have hown : s.vm.findClass RX5 = some m.cls := hown
  have hl : lv_has ls 4 [(0, .ref (ad 0))] := hl
  have hP : va_P D vwCl (iW ad N (sSet cI ad F 1 r b v g h j (nI t) u z)) s.heap := by rw [sSet_self hN]; exact hP
  refine lv_iconst (v := nI 0) hx hb (dk kX5_doParts_ok 0 rfl) rfl ?_
  refine lv_istore_n (lv' := [(1, .int (nI 0)), (0, .ref (ad 0))]) hx hb (dk kX5_doParts_ok 1 rfl) rfl hl (by decide) rfl (fun ls hl => ?_)
  refine lv_iconst (v := nI 0) hx hb (dk kX5_doParts_ok 2 rfl) rfl ?_
  refine lv_istore_n (lv' := [(2, .int (nI 0)), (1, .int (nI 0)), (0, .ref (ad 0))]) hx hb (dk kX5_doParts_ok 3 rfl) rfl hl (by decide) rfl (fun ls hl => ?_)
  generalize hres : rRun a n 61 0 r 0 = res at hret
  have L4 : ∀ (fu k : Nat) (r b v g h j : Nat → Int32) (t : Nat) (u : Int32) (Np : Nat → Nat) (Wp : Nat → Nat → Nat) (dn : Nat) (H : Heap) (locs : List Loc), Pos r b v g h j t u z Np Wp → va_P D vwCl (iW ad N (sSet cI ad F 1 r b v g h j (nI t) u z)) H → va_S (iA ad N s.heap.size) s.heap H locs → wfT a n fu k → rRun a n fu k r dn = res → dn ≤ k → k ≤ n + 6 → ∀ ls : Array Slot, lv_has ls 4 [(0, .ref (ad 0)), (1, .int (nI dn)), (2, .int (nI k))] → W p l e ({ frames := 5, cells := 0, slots := 0, locals := 120 } : Room) s m [Value.ref (ad 0)].toArray below meth cd H locs 0 0 Q (F0 m 4 ls []) := by
    intro fu
    induction fu with
    | zero =>
      intro k r b v g h j t u Np Wp dn H locs HP hP hS hwf hr hdk hk6 ls hl
      have hC2 : (sSet cI ad F 1 r b v g h j (nI t) u z) 0 = .inr (5, [.ref (ad 1), .ref (ad 9), .ref (ad 17), .ref (ad 67), .ref (ad 69), .ref (ad 73), .int (bI hs)]) := (sSet_out (Or.inl (by decide))).trans hC
      have hT2 : gtAt cI ad (sSet cI ad F 1 r b v g h j (nI t) u z) 67 a n := gtAt_keep hT (fun i _ _ => sSet_out (by omega))
      have hN2 : stAt cI ad (sSet cI ad F 1 r b v g h j (nI t) u z) 1 r b v g h j (nI t) u z := sSet_at hN
      refine lv_iload_n hx hb (dk kX5_doParts_ok 4 rfl) rfl (lv_at hl 2 rfl) ?_
      refine lv_aload_n hx hb (dk kX5_doParts_ok 5 rfl) rfl (lv_at hl 0 rfl) ?_
      refine gf hx hb hts (fun w h => List.mem_cons_of_mem _ (acX5 w h)) hown hK hP (by omega) hC2 rfl 3 (by decide) (hts _ (List.mem_cons_of_mem _ (ac8 _ (List.mem_of_getElem? (i := 5) rfl)))) (fun _ h => h) rfl (dk kX5_doParts_ok 6 rfl) ?_
      refine gfN hx hb hts (fun w h => List.mem_cons_of_mem _ (acX0 w h)) hown hK hP (by omega) hT2.1 rfl 1 (by decide) (nf10 hNW) (fun _ h => h) rfl (dk kX5_doParts_ok 7 rfl) ?_
      refine n_icmp_ge (tgt := 78) hx hb (by omega) (by omega) (dk kX5_doParts_ok 8 rfl) (by decide) (fun h1 => ?_) (fun h1 => ?_)
      · skip
        rw [rRun_end h1] at hr
        subst hr
        refine lv_iload_n hx hb (dk kX5_doParts_ok 42 rfl) rfl (lv_at hl 1 rfl) ?_
        exact hret _ _ _ _ _ _ _ _ rfl ⟨rfl, b, v, g, h, j, t, u, Np, Wp, HP, rfl⟩ hP hS (by decide) (by decide) (dk kX5_doParts_ok 43 rfl)
      · exact absurd (show n ≤ k from hwf) (by omega)
    | succ fu ih =>
      intro k r b v g h j t u Np Wp dn H locs HP hP hS hwf hr hdk hk6 ls hl
      have hC2 : (sSet cI ad F 1 r b v g h j (nI t) u z) 0 = .inr (5, [.ref (ad 1), .ref (ad 9), .ref (ad 17), .ref (ad 67), .ref (ad 69), .ref (ad 73), .int (bI hs)]) := (sSet_out (Or.inl (by decide))).trans hC
      have hT2 : gtAt cI ad (sSet cI ad F 1 r b v g h j (nI t) u z) 67 a n := gtAt_keep hT (fun i _ _ => sSet_out (by omega))
      have hN2 : stAt cI ad (sSet cI ad F 1 r b v g h j (nI t) u z) 1 r b v g h j (nI t) u z := sSet_at hN
      refine lv_iload_n hx hb (dk kX5_doParts_ok 4 rfl) rfl (lv_at hl 2 rfl) ?_
      refine lv_aload_n hx hb (dk kX5_doParts_ok 5 rfl) rfl (lv_at hl 0 rfl) ?_
      refine gf hx hb hts (fun w h => List.mem_cons_of_mem _ (acX5 w h)) hown hK hP (by omega) hC2 rfl 3 (by decide) (hts _ (List.mem_cons_of_mem _ (ac8 _ (List.mem_of_getElem? (i := 5) rfl)))) (fun _ h => h) rfl (dk kX5_doParts_ok 6 rfl) ?_
      refine gfN hx hb hts (fun w h => List.mem_cons_of_mem _ (acX0 w h)) hown hK hP (by omega) hT2.1 rfl 1 (by decide) (nf10 hNW) (fun _ h => h) rfl (dk kX5_doParts_ok 7 rfl) ?_
      refine n_icmp_ge (tgt := 78) hx hb (by omega) (by omega) (dk kX5_doParts_ok 8 rfl) (by decide) (fun h1 => ?_) (fun h1 => ?_)
      · skip
        rw [rRun_end h1] at hr
        subst hr
        refine lv_iload_n hx hb (dk kX5_doParts_ok 42 rfl) rfl (lv_at hl 1 rfl) ?_
        exact hret _ _ _ _ _ _ _ _ rfl ⟨rfl, b, v, g, h, j, t, u, Np, Wp, HP, rfl⟩ hP hS (by decide) (by decide) (dk kX5_doParts_ok 43 rfl)
      · skip
        rcases hwf with h9 | ⟨e9, d, f, hpf, hwf⟩ | ⟨x9, y9, f, d, hpl, hwf⟩
        · exact absurd h9 (by omega)
        · skip
          obtain ⟨q1, q2, q3, q4, q5, q6, q7, q8⟩ := id hpf
          refine lv_aload_n hx hb (dk kX5_doParts_ok 9 rfl) rfl (lv_at hl 0 rfl) ?_
          refine gf hx hb hts (fun w h => List.mem_cons_of_mem _ (acX5 w h)) hown hK hP (by omega) hC2 rfl 3 (by decide) (hts _ (List.mem_cons_of_mem _ (ac8 _ (List.mem_of_getElem? (i := 5) rfl)))) (fun _ h => h) rfl (dk kX5_doParts_ok 10 rfl) ?_
          refine lv_iload_n hx hb (dk kX5_doParts_ok 11 rfl) rfl (lv_at hl 2 rfl) ?_
          refine cvR (As := [.int (nI k)]) (rest := []) ⟨hx, hb, hml, hown, hts⟩ (tX0_codeAt l D cI cQ cL ad N _ 67 (by omega) a n hn60 hT2 (nI k) k rfl (by omega)) (cwV9 1 hts mcX0_codeAt (ac11 _ (List.mem_of_getElem? (i := 2) rfl)) miX0_codeAt meX0_codeAt mini_RX0 rfl rfl hdX0_codeAt ⟨Nat.le_of_ble_eq_true rfl, Nat.le_of_ble_eq_true rfl⟩) hK hP hNW (by omega) hT2.1 rfl rfl hl.1 rfl (Nat.le_of_ble_eq_true rfl) ⟨Nat.le_of_ble_eq_true rfl, Nat.le_of_ble_eq_true rfl⟩ (dk kX5_doParts_ok 12 rfl) ?_
          rw [cod_at (show k < n by omega), q5]
          refine lv_bipush (v := nI 102) hx hb (dk kX5_doParts_ok 13 rfl) rfl ?_
          refine n_icmp_ne (tgt := 32) hx hb (by decide) (by decide) (dk kX5_doParts_ok 14 rfl) (by decide) (fun h9 => absurd rfl h9) (fun _ => ?_)
          refine lv_iconst (v := nI 1) hx hb (dk kX5_doParts_ok 15 rfl) rfl ?_
          refine lv_goto (tgt := 33) hx hb (dk kX5_doParts_ok 16 rfl) (by decide) ?_
          refine lv_istore_n (lv' := [(3, .int (nI 1)), (0, .ref (ad 0)), (1, .int (nI dn)), (2, .int (nI k))]) hx hb (dk kX5_doParts_ok 18 rfl) rfl hl (by decide) rfl (fun ls hl => ?_)
          refine lv_iload_n hx hb (dk kX5_doParts_ok 19 rfl) rfl (lv_at hl 0 rfl) ?_
          refine n_if_eq (tgt := 49) hx hb (by decide) (dk kX5_doParts_ok 20 rfl) (by decide) (fun h9 => absurd h9 (by decide)) (fun _ => ?_)
          refine lv_aload_n hx hb (dk kX5_doParts_ok 21 rfl) rfl (lv_at hl 1 rfl) ?_
          refine lv_iload_n hx hb (dk kX5_doParts_ok 22 rfl) rfl (lv_at hl 3 rfl) ?_
          have hw16 : 4 * t + e9 < 16 := by have := HP.tlt; omega
          have hiff : wnf r v t (4 * t + e9) = rwn r (4 * t + e9) := HP.wnfN hw16
          by_cases hwn : wnf r v t (4 * t + e9) = 0
          · skip
            obtain ⟨ho9, -, hpt9, -⟩ := wnf_0 hwn
            obtain ⟨ht9, -⟩ := HP.t_of ho9
            obtain ⟨N2, W2, HP2, hext⟩ := HP.fly hw16 hwn (ldg_q HP hw16 hpt9 (nI d) (stp (4 * t + e9) f))
            rw [rRun_f hpf ht9 (by rw [← hiff]; exact hwn)] at hr
            refine cvD (As := [.int (nI k)]) (rest := []) (sSet cI ad F 1 (mov1 r b v (4 * t + e9) (rest9 (4 * t + e9) (flE r (4 * t + e9) (nI d) f))) (mov2 r b v (4 * t + e9) (rest9 (4 * t + e9) (flE r (4 * t + e9) (nI d) f))) (mov3 r b v (4 * t + e9) (rest9 (4 * t + e9) (flE r (4 * t + e9) (nI d) f))) (upd g (4 * t + e9) (g (4 * t + e9) + nI 1)) (flH h (4 * t + e9) (flE r (4 * t + e9) (nI d) f)) ((flP (mov1 r b v (4 * t + e9) (rest9 (4 * t + e9) (flE r (4 * t + e9) (nI d) f))) t (4 * t + e9) (flE r (4 * t + e9) (nI d) f) (flH j (4 * t + e9) (flE r (4 * t + e9) (nI d) f))).1) (nI ((flP (mov1 r b v (4 * t + e9) (rest9 (4 * t + e9) (flE r (4 * t + e9) (nI d) f))) t (4 * t + e9) (flE r (4 * t + e9) (nI d) f) (flH j (4 * t + e9) (flE r (4 * t + e9) (nI d) f))).2)) u z) ⟨hx, hb, hml, hown, hts⟩ (tX5_doFlightPart l D cI cQ cL ad N (sSet cI ad F 1 r b v g h j (nI t) u z) hk r b v g h j t u z hN2 a n hn60 hT2 hs hC2 HP.tlt k q1 e9 d f q2 q3 q4 q6 q7 q8 hwn) (cwV9 1 hts mcX5_doFlightPart (ac11 _ (List.mem_of_getElem? (i := 3) rfl)) miX5_doFlightPart meX5_doFlightPart mini_RX5 rfl rfl hdX5_doFlightPart ⟨Nat.le_of_ble_eq_true rfl, Nat.le_of_ble_eq_true rfl⟩) hDi hK hP hNW hS (by omega) hC2 rfl rfl hl.1 rfl (Nat.le_of_ble_eq_true rfl) ⟨Nat.le_of_ble_eq_true rfl, Nat.le_of_ble_eq_true rfl⟩ (dk kX5_doParts_ok 23 rfl) sSet_sSet (fun H locs hP hS => ?_)
            have hP := st_cell hP hext
            refine n_if_eq (tgt := 57) hx hb (by decide) (dk kX5_doParts_ok 24 rfl) (by decide) (fun h9 => absurd h9 (by decide)) (fun _ => ?_)
            refine lv_goto (tgt := 59) hx hb (dk kX5_doParts_ok 25 rfl) (by decide) ?_
            refine lv_iinc (v := nI (dn + 1)) (lv' := [(1, .int (nI (dn + 1))), (3, .int (nI 1)), (0, .ref (ad 0)), (2, .int (nI k))]) hx hb (dk kX5_doParts_ok 32 rfl) hl (k := 2) rfl (n_inc _) (by decide) rfl (fun ls hl => ?_)
            refine lv_iload_n hx hb (dk kX5_doParts_ok 33 rfl) rfl (lv_at hl 3 rfl) ?_
            refine lv_iload_n hx hb (dk kX5_doParts_ok 34 rfl) rfl (lv_at hl 1 rfl) ?_
            refine n_if_eq (tgt := 71) hx hb (by decide) (dk kX5_doParts_ok 35 rfl) (by decide) (fun h9 => absurd h9 (by decide)) (fun _ => ?_)
            refine lv_iconst (v := nI 5) hx hb (dk kX5_doParts_ok 36 rfl) rfl ?_
            refine lv_goto (tgt := 73) hx hb (dk kX5_doParts_ok 37 rfl) (by decide) ?_
            refine n_iadd hx hb (dk kX5_doParts_ok 39 rfl) ?_
            refine lv_istore_n (lv' := [(2, .int (nI (k + 5))), (1, .int (nI (dn + 1))), (3, .int (nI 1)), (0, .ref (ad 0))]) hx hb (dk kX5_doParts_ok 40 rfl) rfl hl (by decide) rfl (fun ls hl => ?_)
            refine lv_goto (tgt := 4) hx hb (dk kX5_doParts_ok 41 rfl) (by decide) ?_
            exact ih (k + 5) _ _ _ _ _ _ _ _ _ _ (dn + 1) _ _ HP2 hP hS hwf hr (by omega) (by omega) ls (lv_sub hl [3, 1, 0] rfl)
          · skip
            rw [rRun_fx hpf (by
              by_cases ho9 : over r = true
              · exact rwn_over1 ho9
              · rw [(HP.t_of (bool_ff ho9)).1, ← hiff]; exact hwn)] at hr
            subst hr
            refine cvR (As := [.int (nI k)]) (rest := []) ⟨hx, hb, hml, hown, hts⟩ (tX5_doFlightPartX l D cI cQ cL ad N (sSet cI ad F 1 r b v g h j (nI t) u z) hk r b v g h j t u z hN2 a n hn60 hT2 hs hC2 HP.tlt k q1 e9 d f q2 q3 q4 q6 q7 q8 hwn) (cwV9 1 hts mcX5_doFlightPart (ac11 _ (List.mem_of_getElem? (i := 3) rfl)) miX5_doFlightPart meX5_doFlightPart mini_RX5 rfl rfl hdX5_doFlightPart ⟨Nat.le_of_ble_eq_true rfl, Nat.le_of_ble_eq_true rfl⟩) hK hP hNW (by omega) hC2 rfl rfl hl.1 rfl (Nat.le_of_ble_eq_true rfl) ⟨Nat.le_of_ble_eq_true rfl, Nat.le_of_ble_eq_true rfl⟩ (dk kX5_doParts_ok 23 rfl) ?_
            refine n_if_eq (tgt := 57) hx hb (by decide) (dk kX5_doParts_ok 24 rfl) (by decide) (fun _ => ?_) (fun h9 => absurd rfl h9)
            refine lv_iload_n hx hb (dk kX5_doParts_ok 30 rfl) rfl (lv_at hl 2 rfl) ?_
            exact hret _ _ _ _ _ _ _ _ rfl ⟨rfl, b, v, g, h, j, t, u, Np, Wp, HP, rfl⟩ hP hS (by decide) (by decide) (dk kX5_doParts_ok 31 rfl)
        · skip
          obtain ⟨q1, q2, q3, q4, q5, q6, q7, q8, q9, q10⟩ := id hpl
          refine lv_aload_n hx hb (dk kX5_doParts_ok 9 rfl) rfl (lv_at hl 0 rfl) ?_
          refine gf hx hb hts (fun w h => List.mem_cons_of_mem _ (acX5 w h)) hown hK hP (by omega) hC2 rfl 3 (by decide) (hts _ (List.mem_cons_of_mem _ (ac8 _ (List.mem_of_getElem? (i := 5) rfl)))) (fun _ h => h) rfl (dk kX5_doParts_ok 10 rfl) ?_
          refine lv_iload_n hx hb (dk kX5_doParts_ok 11 rfl) rfl (lv_at hl 2 rfl) ?_
          refine cvR (As := [.int (nI k)]) (rest := []) ⟨hx, hb, hml, hown, hts⟩ (tX0_codeAt l D cI cQ cL ad N _ 67 (by omega) a n hn60 hT2 (nI k) k rfl (by omega)) (cwV9 1 hts mcX0_codeAt (ac11 _ (List.mem_of_getElem? (i := 2) rfl)) miX0_codeAt meX0_codeAt mini_RX0 rfl rfl hdX0_codeAt ⟨Nat.le_of_ble_eq_true rfl, Nat.le_of_ble_eq_true rfl⟩) hK hP hNW (by omega) hT2.1 rfl rfl hl.1 rfl (Nat.le_of_ble_eq_true rfl) ⟨Nat.le_of_ble_eq_true rfl, Nat.le_of_ble_eq_true rfl⟩ (dk kX5_doParts_ok 12 rfl) ?_
          rw [cod_at (show k < n by omega), q6]
          refine lv_bipush (v := nI 102) hx hb (dk kX5_doParts_ok 13 rfl) rfl ?_
          refine n_icmp_ne (tgt := 32) hx hb (by decide) (by decide) (dk kX5_doParts_ok 14 rfl) (by decide) (fun _ => ?_) (fun h9 => absurd h9 (by decide))
          refine lv_iconst (v := nI 0) hx hb (dk kX5_doParts_ok 17 rfl) rfl ?_
          refine lv_istore_n (lv' := [(3, .int (nI 0)), (0, .ref (ad 0)), (1, .int (nI dn)), (2, .int (nI k))]) hx hb (dk kX5_doParts_ok 18 rfl) rfl hl (by decide) rfl (fun ls hl => ?_)
          refine lv_iload_n hx hb (dk kX5_doParts_ok 19 rfl) rfl (lv_at hl 0 rfl) ?_
          refine n_if_eq (tgt := 49) hx hb (by decide) (dk kX5_doParts_ok 20 rfl) (by decide) (fun _ => ?_) (fun h9 => absurd rfl h9)
          refine lv_aload_n hx hb (dk kX5_doParts_ok 26 rfl) rfl (lv_at hl 1 rfl) ?_
          refine lv_iload_n hx hb (dk kX5_doParts_ok 27 rfl) rfl (lv_at hl 3 rfl) ?_
          have hiff : wnl r b v t z (nI x9) (nI y9) f (nI d) = rwl r (13 * y9 + x9) f d := HP.why q2 q3 q4.1
          by_cases hwn : wnl r b v t z (nI x9) (nI y9) f (nI d) = 0
          · skip
            have ho9 : over r = false := (rwl_z (by rw [← hiff]; exact hwn)).1
            obtain ⟨ht9, -⟩ := HP.t_of ho9
            obtain ⟨N2, W2, HP2, hext, -⟩ := HP.lift q2 q3 q4 q5 (by rw [← hiff]; exact hwn)
            rw [rRun_l hpl ht9 (by rw [← hiff]; exact hwn)] at hr
            refine cvD (As := [.int (nI k)]) (rest := []) (sSet cI ad F 1 (liC r b v (nI x9) (nI y9) f (nI d)) (liB r b v (nI x9) (nI y9) f (nI d)) (liV r b v (nI x9) (nI y9) f (nI d)) g h ((pasg (liC r b v (nI x9) (nI y9) f (nI d)) t 8 j t).1) (nI ((pasg (liC r b v (nI x9) (nI y9) f (nI d)) t 8 j t).2)) (u + nI 1) z) ⟨hx, hb, hml, hown, hts⟩ (tX5_doLiftPart l D cI cQ cL ad N (sSet cI ad F 1 r b v g h j (nI t) u z) hk r b v g h j t u z hN2 a n hn60 hT2 hs hC2 HP.tlt k q1 x9 y9 f d q2 q3 q4 q5 q7 q8 q9 q10 hwn) (cwV9 1 hts mcX5_doLiftPart (ac11 _ (List.mem_of_getElem? (i := 7) rfl)) miX5_doLiftPart meX5_doLiftPart mini_RX5 rfl rfl hdX5_doLiftPart ⟨Nat.le_of_ble_eq_true rfl, Nat.le_of_ble_eq_true rfl⟩) hDi hK hP hNW hS (by omega) hC2 rfl rfl hl.1 rfl (Nat.le_of_ble_eq_true rfl) ⟨Nat.le_of_ble_eq_true rfl, Nat.le_of_ble_eq_true rfl⟩ (dk kX5_doParts_ok 28 rfl) sSet_sSet (fun H locs hP hS => ?_)
            have hP := st_cell hP hext
            refine n_if_ne (tgt := 59) hx hb (by decide) (dk kX5_doParts_ok 29 rfl) (by decide) (fun _ => ?_) (fun h9 => absurd h9 (by decide))
            refine lv_iinc (v := nI (dn + 1)) (lv' := [(1, .int (nI (dn + 1))), (3, .int (nI 0)), (0, .ref (ad 0)), (2, .int (nI k))]) hx hb (dk kX5_doParts_ok 32 rfl) hl (k := 2) rfl (n_inc _) (by decide) rfl (fun ls hl => ?_)
            refine lv_iload_n hx hb (dk kX5_doParts_ok 33 rfl) rfl (lv_at hl 3 rfl) ?_
            refine lv_iload_n hx hb (dk kX5_doParts_ok 34 rfl) rfl (lv_at hl 1 rfl) ?_
            refine n_if_eq (tgt := 71) hx hb (by decide) (dk kX5_doParts_ok 35 rfl) (by decide) (fun _ => ?_) (fun h9 => absurd rfl h9)
            refine lv_bipush (v := nI 6) hx hb (dk kX5_doParts_ok 38 rfl) rfl ?_
            refine n_iadd hx hb (dk kX5_doParts_ok 39 rfl) ?_
            refine lv_istore_n (lv' := [(2, .int (nI (k + 6))), (1, .int (nI (dn + 1))), (3, .int (nI 0)), (0, .ref (ad 0))]) hx hb (dk kX5_doParts_ok 40 rfl) rfl hl (by decide) rfl (fun ls hl => ?_)
            refine lv_goto (tgt := 4) hx hb (dk kX5_doParts_ok 41 rfl) (by decide) ?_
            exact ih (k + 6) _ _ _ _ _ _ _ _ _ _ (dn + 1) _ _ HP2 hP hS hwf hr (by omega) (by omega) ls (lv_sub hl [3, 1, 0] rfl)
          · skip
            rw [rRun_lx hpl (by rw [← hiff]; exact hwn)] at hr
            subst hr
            refine cvR (As := [.int (nI k)]) (rest := []) ⟨hx, hb, hml, hown, hts⟩ (tX5_doLiftPartX l D cI cQ cL ad N (sSet cI ad F 1 r b v g h j (nI t) u z) hk r b v g h j t u z hN2 a n hn60 hT2 hs hC2 HP.tlt k q1 x9 y9 f d q2 q3 q4 q5 q7 q8 q9 q10 hwn) (cwV9 1 hts mcX5_doLiftPart (ac11 _ (List.mem_of_getElem? (i := 7) rfl)) miX5_doLiftPart meX5_doLiftPart mini_RX5 rfl rfl hdX5_doLiftPart ⟨Nat.le_of_ble_eq_true rfl, Nat.le_of_ble_eq_true rfl⟩) hK hP hNW (by omega) hC2 rfl rfl hl.1 rfl (Nat.le_of_ble_eq_true rfl) ⟨Nat.le_of_ble_eq_true rfl, Nat.le_of_ble_eq_true rfl⟩ (dk kX5_doParts_ok 28 rfl) ?_
            refine n_if_ne (tgt := 59) hx hb (by decide) (dk kX5_doParts_ok 29 rfl) (by decide) (fun h9 => absurd rfl h9) (fun _ => ?_)
            refine lv_iload_n hx hb (dk kX5_doParts_ok 30 rfl) rfl (lv_at hl 2 rfl) ?_
            exact hret _ _ _ _ _ _ _ _ rfl ⟨rfl, b, v, g, h, j, t, u, Np, Wp, HP, rfl⟩ hP hS (by decide) (by decide) (dk kX5_doParts_ok 31 rfl)
  exact L4 61 0 r b v g h j t u Np Wp 0 _ _ HP hP hS hwf hres (Nat.le_refl 0) (Nat.zero_le _) ls (lv_sub hl [2, 1, 0] rfl)
end
/-! from plays -/
section
set_option maxRecDepth 100000 in
set_option maxHeartbeats 4000000 in
theorem tX5_play (l : Launch) (D : va_G) (cI cQ cL : ClassId) (ad : Nat → Nat) (N : Nat) (F : Nat → va_E) (hk : 76 < N) (r b v g h j : Nat → Int32) (t : Nat) (u z : Int32) (hN : stAt cI ad F 1 r b v g h j (nI t) u z) (a : Nat → Int32) (n : Nat) (hn60 : n ≤ 60) (hT : gtAt cI ad F 67 a n) (hs : Bool) (hC : F 0 = .inr (5, [.ref (ad 1), .ref (ad 9), .ref (ad 17), .ref (ad 67), .ref (ad 69), .ref (ad 73), .int (bI hs)])) (n9 m9 : Nat) (hn9 : n9 < 6) (hm9 : m9 ≤ 6) (hPa : paAt cQ ad F 17 n9 m9) (cr br vr gr hr9 jr : Nat → Int32) (tr : Nat) (ur zr : Int32) (hRi : stAt cI ad F (17 + 2 + 8 * n9) cr br vr gr hr9 jr (nI tr) ur zr) (Np : Nat → Nat) (Wp : Nat → Nat → Nat) (HP : Pos r b v g h j t u z Np Wp) (hwf : wfT a n 61 0) (hcm : sta a n = nI 8) : MX l yX5_play (Cond.code yX5_play cX5_play 2 (some .int) :: AW) ({ frames := 6, cells := 0, slots := 0, locals := 145 } : Room) D cI cQ cL ad N F [.ref (ad 0)] (fun v9 G9 => v9 = some (.int (nI (rRun a n 61 0 r 0).1)) ∧ ∃ (b1 v1 g1 h1 j1 : Nat → Int32) (t1 : Nat) (u1 : Int32) (N1 : Nat → Nat) (W1 : Nat → Nat → Nat), Pos (rRun a n 61 0 r 0).2 b1 v1 g1 h1 j1 t1 u1 z N1 W1 ∧ G9 = gtSet cI ad (sSet cI ad (paSet cQ ad (sSet cI ad F (17 + 2 + 8 * n9) r b v g h j (nI t) u z) 17 ((n9 + 1) % 6) (min (m9 + 1) 6)) 1 (rRun a n 61 0 r 0).2 b1 v1 g1 h1 j1 (nI t1) u1 z) 67 a 0) 0 0 := by
  refine mx_i (ty := .int) (by decide +kernel) rfl (Nat.le_of_ble_eq_true rfl) (fun p e s m below meth cd Q ls hx hb hml hown hts hDi hP hK hNW hS hret hl => ?_)
  have hown : s.vm.findClass RX5 = some m.cls := hown
  have hl : lv_has ls 2 [(0, .ref (ad 0))] := hl
  refine lv_aload_n hx hb (dk kX5_play_ok 0 rfl) rfl (lv_at hl 0 rfl) ?_
  refine gf hx hb hts (fun w h => List.mem_cons_of_mem _ (acX5 w h)) hown hK hP (by omega) hC rfl 3 (by decide) (hts _ (List.mem_cons_of_mem _ (ac8 _ (List.mem_of_getElem? (i := 5) rfl)))) (fun _ h => h) rfl (dk kX5_play_ok 1 rfl) ?_
  refine cvR (As := []) (rest := []) ⟨hx, hb, hml, hown, hts⟩ (tX0_isComplete l D cI cQ cL ad N F 67 (by omega) a n hn60 hT) (cwV9 0 hts mcX0_isComplete (ac11 _ (List.mem_of_getElem? (i := 11) rfl)) miX0_isComplete meX0_isComplete mini_RX0 rfl rfl hdX0_isComplete ⟨Nat.le_of_ble_eq_true rfl, Nat.le_of_ble_eq_true rfl⟩) hK hP hNW (by omega) hT.1 rfl rfl hl.1 rfl (Nat.le_of_ble_eq_true rfl) ⟨Nat.le_of_ble_eq_true rfl, Nat.le_of_ble_eq_true rfl⟩ (dk kX5_play_ok 2 rfl) ?_
  refine b_if_ne (tgt := 20) hx hb (dk kX5_play_ok 3 rfl) (by decide) (fun _ => ?_) (fun h9 => absurd hcm (of_decide_eq_false h9))
  refine lv_aload_n hx hb (dk kX5_play_ok 9 rfl) rfl (lv_at hl 0 rfl) ?_
  refine gf hx hb hts (fun w h => List.mem_cons_of_mem _ (acX5 w h)) hown hK hP (by omega) hC rfl 2 (by decide) (hts _ (List.mem_cons_of_mem _ (ac8 _ (List.mem_of_getElem? (i := 2) rfl)))) (fun _ h => h) rfl (dk kX5_play_ok 10 rfl) ?_
  refine lv_aload_n hx hb (dk kX5_play_ok 11 rfl) rfl (lv_at hl 0 rfl) ?_
  refine gf hx hb hts (fun w h => List.mem_cons_of_mem _ (acX5 w h)) hown hK hP (by omega) hC rfl 0 (by decide) (hts _ (List.mem_cons_of_mem _ (ac7 _ (List.mem_of_getElem? (i := 21) rfl)))) (fun _ h => h) rfl (dk kX5_play_ok 12 rfl) ?_
  refine cvDv (As := [.ref (ad 1)]) (rest := []) (paSet cQ ad (sSet cI ad F (17 + 2 + 8 * n9) r b v g h j (nI t) u z) 17 ((n9 + 1) % 6) (min (m9 + 1) 6)) ⟨hx, hb, hml, hown, hts⟩ (tX2_save l D cI cQ cL ad N F 17 n9 m9 hn9 hm9 (by omega) hPa cr br vr gr hr9 jr tr ur zr hRi (by omega) 1 (by omega) r b v g h j t u z hN (by omega)) (cwV9 1 hts mcX2_save (ac9 _ (List.mem_of_getElem? (i := 16) rfl)) miX2_save meX2_save mini_RX2 rfl rfl hdX2_save ⟨Nat.le_of_ble_eq_true rfl, Nat.le_of_ble_eq_true rfl⟩) hDi hK hP hNW hS (by omega) hPa.1 rfl rfl hl.1 rfl (Nat.le_of_ble_eq_true rfl) ⟨Nat.le_of_ble_eq_true rfl, Nat.le_of_ble_eq_true rfl⟩ (dk kX5_play_ok 13 rfl) rfl (fun H locs hP hS => ?_)
  have out : ∀ i, (i < 17 ∨ 18 < i) → (i < 17 + 2 + 8 * n9 ∨ 17 + 2 + 8 * n9 + 7 < i) → (paSet cQ ad (sSet cI ad F (17 + 2 + 8 * n9) r b v g h j (nI t) u z) 17 ((n9 + 1) % 6) (min (m9 + 1) 6)) i = F i := fun i h1 h2 => (paSet_out (by omega)).trans (sSet_out (by omega))
  have hC2 : (paSet cQ ad (sSet cI ad F (17 + 2 + 8 * n9) r b v g h j (nI t) u z) 17 ((n9 + 1) % 6) (min (m9 + 1) 6)) 0 = .inr (5, [.ref (ad 1), .ref (ad 9), .ref (ad 17), .ref (ad 67), .ref (ad 69), .ref (ad 73), .int (bI hs)]) := (out 0 (by omega) (by omega)).trans hC
  have hN2 : stAt cI ad (paSet cQ ad (sSet cI ad F (17 + 2 + 8 * n9) r b v g h j (nI t) u z) 17 ((n9 + 1) % 6) (min (m9 + 1) 6)) 1 r b v g h j (nI t) u z := stAt_keep hN (fun i _ _ => out i (by omega) (by omega))
  have hT2 : gtAt cI ad (paSet cQ ad (sSet cI ad F (17 + 2 + 8 * n9) r b v g h j (nI t) u z) 17 ((n9 + 1) % 6) (min (m9 + 1) 6)) 67 a n := gtAt_keep hT (fun i _ _ => out i (by omega) (by omega))
  refine lv_aload_n hx hb (dk kX5_play_ok 14 rfl) rfl (lv_at hl 0 rfl) ?_
  refine cvE (As := []) (rest := []) ⟨hx, hb, hml, hown, hts⟩ (tX5_doParts l D cI cQ cL ad N (paSet cQ ad (sSet cI ad F (17 + 2 + 8 * n9) r b v g h j (nI t) u z) 17 ((n9 + 1) % 6) (min (m9 + 1) 6)) hk r b v g h j t u z hN2 a n hn60 hT2 hs hC2 Np Wp HP hwf) (cwV9 0 hts mcX5_doParts (ac11 _ (List.mem_of_getElem? (i := 15) rfl)) miX5_doParts meX5_doParts mini_RX5 rfl rfl hdX5_doParts ⟨Nat.le_of_ble_eq_true rfl, Nat.le_of_ble_eq_true rfl⟩) hDi hK hP hNW hS (by omega) hC2 rfl rfl hl.1 rfl (Nat.le_of_ble_eq_true rfl) ⟨Nat.le_of_ble_eq_true rfl, Nat.le_of_ble_eq_true rfl⟩ (dk kX5_play_ok 15 rfl) (fun F9 H locs hq hP hS => ?_)
  obtain ⟨b1, v1, g1, h1, j1, t1, u1, N1, W1, HP1, rfl⟩ := hq
  refine lv_istore_n (lv' := [(1, .int (nI (rRun a n 61 0 r 0).1)), (0, .ref (ad 0))]) hx hb (dk kX5_play_ok 16 rfl) rfl hl (by decide) rfl (fun ls hl => ?_)
  have hT3 : gtAt cI ad (sSet cI ad (paSet cQ ad (sSet cI ad F (17 + 2 + 8 * n9) r b v g h j (nI t) u z) 17 ((n9 + 1) % 6) (min (m9 + 1) 6)) 1 (rRun a n 61 0 r 0).2 b1 v1 g1 h1 j1 (nI t1) u1 z) 67 a n := gtAt_keep hT2 (fun i _ _ => sSet_out (by omega))
  have hP := gt_touch hT3 hP
  refine lv_aload_n hx hb (dk kX5_play_ok 17 rfl) rfl (lv_at hl 1 rfl) ?_
  have hC3 : (gtSet cI ad (sSet cI ad (paSet cQ ad (sSet cI ad F (17 + 2 + 8 * n9) r b v g h j (nI t) u z) 17 ((n9 + 1) % 6) (min (m9 + 1) 6)) 1 (rRun a n 61 0 r 0).2 b1 v1 g1 h1 j1 (nI t1) u1 z) 67 a n) 0 = .inr (5, [.ref (ad 1), .ref (ad 9), .ref (ad 17), .ref (ad 67), .ref (ad 69), .ref (ad 73), .int (bI hs)]) := (gtSet_out (by omega)).trans ((sSet_out (by omega)).trans hC2)
  refine gf hx hb hts (fun w h => List.mem_cons_of_mem _ (acX5 w h)) hown hK hP (by omega) hC3 rfl 3 (by decide) (hts _ (List.mem_cons_of_mem _ (ac8 _ (List.mem_of_getElem? (i := 5) rfl)))) (fun _ h => h) rfl (dk kX5_play_ok 18 rfl) ?_
  refine lv_iconst (v := nI 0) hx hb (dk kX5_play_ok 19 rfl) rfl ?_
  refine pfN (gtSet cI ad (sSet cI ad (paSet cQ ad (sSet cI ad F (17 + 2 + 8 * n9) r b v g h j (nI t) u z) 17 ((n9 + 1) % 6) (min (m9 + 1) 6)) 1 (rRun a n 61 0 r 0).2 b1 v1 g1 h1 j1 (nI t1) u1 z) 67 a 0) hx hb hts (fun w h => List.mem_cons_of_mem _ (acX0 w h)) tyX0 tyX0_ok nmX0 hown hK hDi hP hS (by omega) gtSet_at.1 rfl 1 (by decide) (nf10 hNW) (fun _ h => h) rfl (ty := .int) rfl rfl rfl (Nat.le_of_ble_eq_true rfl) (dk kX5_play_ok 20 rfl) gtSet_u0 (fun H locs hP hS => ?_)
  refine lv_iload_n hx hb (dk kX5_play_ok 21 rfl) rfl (lv_at hl 0 rfl) ?_
  exact hret _ _ _ _ _ _ _ _ rfl ⟨rfl, b1, v1, g1, h1, j1, t1, u1, N1, W1, HP1, rfl⟩ hP hS (by decide) (by decide) (dk kX5_play_ok 22 rfl)
set_option maxRecDepth 100000 in
set_option maxHeartbeats 4000000 in
theorem tX6_play (l : Launch) (D : va_G) (cI cQ cL : ClassId) (ad : Nat → Nat) (N : Nat) (F : Nat → va_E) (k : Nat) (hk : k + 7 < N) (r ps sl sd ne fa bu : Nat → Int32) (hs : Bool) (st ln pt : Nat) (th : Int32) (hR : rfAt cI ad F k r ps sl sd ne fa bu hs st ln pt th) (hst6 : st ≤ 6) (hln : ln ≤ 60) (b v g h j : Nat → Int32) (t : Nat) (u z : Int32) (Np : Nat → Nat) (Wp : Nat → Nat → Nat) (HP : Pos r b v g h j t u z Np Wp) (hwf : wfT bu ln 61 0) (hh : (rwh bu ln).1 = true) : MX l yX6_play (Cond.code yX6_play cX6_play 3 (some .int) :: AW) ({ frames := 6, cells := 0, slots := 0, locals := 140 } : Room) D cI cQ cL ad N F [.ref (ad k)] (dp (some (.int (nI (rRun bu ln 61 0 r 0).1))) (rfSet cI ad F k (rRun bu ln 61 0 r 0).2 (rcP ps r st) sl sd ne fa bu hs (rcS st) 0 ((rwh bu ln).2) (nI 0))) 0 0 := by
  refine mx_i (ty := .int) (by decide +kernel) rfl (Nat.le_of_ble_eq_true rfl) (fun p e s m below meth cd Q ls hx hb hml hown hts hDi hP hK hNW hS hret hl => ?_)
  have hown : s.vm.findClass RX6 = some m.cls := hown
  have hP : va_P D vwCl (iW ad N (rfSet cI ad F k r ps sl sd ne fa bu hs st ln pt th)) s.heap := by rw [rfSet_self hR]; exact hP
  have hl : lv_has ls 3 [(0, .ref (ad k))] := hl
  refine lv_aload_n hx hb (dk kX6_play_ok 0 rfl) rfl (lv_at hl 0 rfl) ?_
  refine lv_iconst (v := nI 0) hx hb (dk kX6_play_ok 1 rfl) rfl ?_
  refine pf (rfSet cI ad F k r ps sl sd ne fa bu hs st ln pt (nI 0)) hx hb hts (fun w h => List.mem_cons_of_mem _ (acX6 w h)) tyX6 tyX6_ok nmX6 hown hK hDi hP hS (by omega) rfSet_at.1 rfl 11 (by decide) (hts _ (List.mem_cons_of_mem _ (ac18 _ (List.mem_of_getElem? (i := 4) rfl)))) (fun _ h => h) rfl (ty := .int) rfl rfl rfl (Nat.le_of_ble_eq_true rfl) (dk kX6_play_ok 2 rfl) rfSet_u0 (fun H locs hP hS => ?_)
  refine lv_aload_n hx hb (dk kX6_play_ok 3 rfl) rfl (lv_at hl 0 rfl) ?_
  refine cvD (As := []) (rest := []) (rfSet cI ad F k r ps sl sd ne fa bu hs st ln ((rwh bu ln).2) (nI 0)) ⟨hx, hb, hml, hown, hts⟩ (tX6_isWhole l D cI cQ cL ad N _ k hk r ps sl sd ne fa bu hs st ln pt (nI 0) rfSet_at hln) (cwV9 0 hts mcX6_isWhole (ac22 _ (List.mem_of_getElem? (i := 1) rfl)) miX6_isWhole meX6_isWhole mini_RX6 rfl rfl hdX6_isWhole ⟨Nat.le_of_ble_eq_true rfl, Nat.le_of_ble_eq_true rfl⟩) hDi hK hP hNW hS (by omega) rfSet_at.1 rfl rfl hl.1 rfl (Nat.le_of_ble_eq_true rfl) ⟨Nat.le_of_ble_eq_true rfl, Nat.le_of_ble_eq_true rfl⟩ (dk kX6_play_ok 4 rfl) rfSet_rfSet (fun H locs hP hS => ?_)
  refine b_if_ne (tgt := 18) hx hb (dk kX6_play_ok 5 rfl) (by decide) (fun _ => ?_) (fun h9 => absurd (hh.symm.trans h9) (by decide))
  refine lv_aload_n hx hb (dk kX6_play_ok 10 rfl) rfl (lv_at hl 0 rfl) ?_
  refine cvDv (As := []) (rest := []) (rfSet cI ad F k r (rcP ps r st) sl sd ne fa bu hs (rcS st) ln ((rwh bu ln).2) (nI 0)) ⟨hx, hb, hml, hown, hts⟩ (tX6_record l D cI cQ cL ad N _ k hk r ps sl sd ne fa bu hs st ln ((rwh bu ln).2) (nI 0) rfSet_at hst6) (cwV9 0 hts mcX6_record (ac20 _ (List.mem_of_getElem? (i := 23) rfl)) miX6_record meX6_record mini_RX6 rfl rfl hdX6_record ⟨Nat.le_of_ble_eq_true rfl, Nat.le_of_ble_eq_true rfl⟩) hDi hK hP hNW hS (by omega) rfSet_at.1 rfl rfl hl.1 rfl (Nat.le_of_ble_eq_true rfl) ⟨Nat.le_of_ble_eq_true rfl, Nat.le_of_ble_eq_true rfl⟩ (dk kX6_play_ok 11 rfl) rfSet_rfSet (fun H locs hP hS => ?_)
  refine lv_iconst (v := nI 0) hx hb (dk kX6_play_ok 12 rfl) rfl ?_
  refine lv_istore_n (lv' := [(1, .int (nI 0)), (0, .ref (ad k))]) hx hb (dk kX6_play_ok 13 rfl) rfl hl (by decide) rfl (fun ls hl => ?_)
  refine lv_iconst (v := nI 0) hx hb (dk kX6_play_ok 14 rfl) rfl ?_
  refine lv_istore_n (lv' := [(2, .int (nI 0)), (1, .int (nI 0)), (0, .ref (ad k))]) hx hb (dk kX6_play_ok 15 rfl) rfl hl (by decide) rfl (fun ls hl => ?_)
  generalize hres : rRun bu ln 61 0 r 0 = res at hret
  have L26 : ∀ (fu q : Nat) (rr b v g h j : Nat → Int32) (t : Nat) (u : Int32) (Np : Nat → Nat) (Wp : Nat → Nat → Nat) (dn : Nat) (H : Heap) (locs : List Loc), Pos rr b v g h j t u z Np Wp → va_P D vwCl (iW ad N (rfSet cI ad F k rr (rcP ps r st) sl sd ne fa bu hs (rcS st) ln ((rwh bu ln).2) (nI 0))) H → va_S (iA ad N s.heap.size) s.heap H locs → wfT bu ln fu q → rRun bu ln fu q rr dn = res → dn ≤ q → q ≤ ln + 6 → ∀ ls : Array Slot, lv_has ls 3 [(0, .ref (ad k)), (1, .int (nI dn)), (2, .int (nI q))] → W p l e ({ frames := 6, cells := 0, slots := 0, locals := 140 } : Room) s m [Value.ref (ad k)].toArray below meth cd H locs 0 0 Q (F0 m 26 ls []) := by
    intro fu
    induction fu with
    | zero =>
      intro q rr b v g h j t u Np Wp dn H locs HP hP hS hwf hr hdk hk6 ls hl
      have hR : rfAt cI ad (rfSet cI ad F k rr (rcP ps r st) sl sd ne fa bu hs (rcS st) ln ((rwh bu ln).2) (nI 0)) k rr (rcP ps r st) sl sd ne fa bu hs (rcS st) ln ((rwh bu ln).2) (nI 0) := rfSet_at
      refine lv_iload_n hx hb (dk kX6_play_ok 16 rfl) rfl (lv_at hl 2 rfl) ?_
      refine lv_aload_n hx hb (dk kX6_play_ok 17 rfl) rfl (lv_at hl 0 rfl) ?_
      refine gf hx hb hts (fun w h => List.mem_cons_of_mem _ (acX6 w h)) hown hK hP (by omega) hR.1 rfl 9 (by decide) (hts _ (List.mem_cons_of_mem _ (ac21 _ (List.mem_of_getElem? (i := 15) rfl)))) (fun _ h => h) rfl (dk kX6_play_ok 18 rfl) ?_
      refine n_icmp_ge (tgt := 68) hx hb (by omega) (by omega) (dk kX6_play_ok 19 rfl) (by decide) (fun h1 => ?_) (fun h1 => ?_)
      · skip
        rw [rRun_end h1] at hr
        subst hr
        refine lv_aload_n hx hb (dk kX6_play_ok 38 rfl) rfl (lv_at hl 0 rfl) ?_
        refine lv_iconst (v := nI 0) hx hb (dk kX6_play_ok 39 rfl) rfl ?_
        refine pf (rfSet cI ad F k rr (rcP ps r st) sl sd ne fa bu hs (rcS st) 0 ((rwh bu ln).2) (nI 0)) hx hb hts (fun w h => List.mem_cons_of_mem _ (acX6 w h)) tyX6 tyX6_ok nmX6 hown hK hDi hP hS (by omega) rfSet_at.1 rfl 9 (by decide) (hts _ (List.mem_cons_of_mem _ (ac21 _ (List.mem_of_getElem? (i := 15) rfl)))) (fun _ h => h) rfl (ty := .int) rfl rfl rfl (Nat.le_of_ble_eq_true rfl) (dk kX6_play_ok 40 rfl) rfSet_u0 (fun H locs hP hS => ?_)
        refine lv_iload_n hx hb (dk kX6_play_ok 41 rfl) rfl (lv_at hl 1 rfl) ?_
        exact hret _ _ _ _ _ _ _ _ rfl ⟨rfl, rfl⟩ hP hS (by decide) (by decide) (dk kX6_play_ok 42 rfl)
      · exact absurd (show ln ≤ q from hwf) (by omega)
    | succ fu ih =>
      intro q rr b v g h j t u Np Wp dn H locs HP hP hS hwf hr hdk hk6 ls hl
      have hR : rfAt cI ad (rfSet cI ad F k rr (rcP ps r st) sl sd ne fa bu hs (rcS st) ln ((rwh bu ln).2) (nI 0)) k rr (rcP ps r st) sl sd ne fa bu hs (rcS st) ln ((rwh bu ln).2) (nI 0) := rfSet_at
      refine lv_iload_n hx hb (dk kX6_play_ok 16 rfl) rfl (lv_at hl 2 rfl) ?_
      refine lv_aload_n hx hb (dk kX6_play_ok 17 rfl) rfl (lv_at hl 0 rfl) ?_
      refine gf hx hb hts (fun w h => List.mem_cons_of_mem _ (acX6 w h)) hown hK hP (by omega) hR.1 rfl 9 (by decide) (hts _ (List.mem_cons_of_mem _ (ac21 _ (List.mem_of_getElem? (i := 15) rfl)))) (fun _ h => h) rfl (dk kX6_play_ok 18 rfl) ?_
      refine n_icmp_ge (tgt := 68) hx hb (by omega) (by omega) (dk kX6_play_ok 19 rfl) (by decide) (fun h1 => ?_) (fun h1 => ?_)
      · skip
        rw [rRun_end h1] at hr
        subst hr
        refine lv_aload_n hx hb (dk kX6_play_ok 38 rfl) rfl (lv_at hl 0 rfl) ?_
        refine lv_iconst (v := nI 0) hx hb (dk kX6_play_ok 39 rfl) rfl ?_
        refine pf (rfSet cI ad F k rr (rcP ps r st) sl sd ne fa bu hs (rcS st) 0 ((rwh bu ln).2) (nI 0)) hx hb hts (fun w h => List.mem_cons_of_mem _ (acX6 w h)) tyX6 tyX6_ok nmX6 hown hK hDi hP hS (by omega) rfSet_at.1 rfl 9 (by decide) (hts _ (List.mem_cons_of_mem _ (ac21 _ (List.mem_of_getElem? (i := 15) rfl)))) (fun _ h => h) rfl (ty := .int) rfl rfl rfl (Nat.le_of_ble_eq_true rfl) (dk kX6_play_ok 40 rfl) rfSet_u0 (fun H locs hP hS => ?_)
        refine lv_iload_n hx hb (dk kX6_play_ok 41 rfl) rfl (lv_at hl 1 rfl) ?_
        exact hret _ _ _ _ _ _ _ _ rfl ⟨rfl, rfl⟩ hP hS (by decide) (by decide) (dk kX6_play_ok 42 rfl)
      · skip
        rcases hwf with h9 | ⟨e9, d, f, hpf, hwf⟩ | ⟨x9, y9, f, d, hpl, hwf⟩
        · exact absurd h9 (by omega)
        · skip
          obtain ⟨q1, q2, q3, q4, q5, q6, q7, q8⟩ := id hpf
          obtain ⟨hTu, hLo, hC9, hFl, hLi⟩ := HP.rok
          refine lv_aload_n hx hb (dk kX6_play_ok 20 rfl) rfl (lv_at hl 0 rfl) ?_
          refine lv_iload_n hx hb (dk kX6_play_ok 21 rfl) rfl (lv_at hl 2 rfl) ?_
          have hw16 : 4 * ix (rr 56) + e9 < 16 := by have := hTu.1; omega
          by_cases hwn : rwn rr (4 * ix (rr 56) + e9) = 0
          · skip
            obtain ⟨ht9, ht10⟩ := HP.t_of (rwn_over hwn)
            have hpt9 : pot rr (4 * ix (rr 56) + e9) = false := (rwn_0 hwn).2.2.1
            have hwn5 : wnf rr v t (4 * ix (rr 56) + e9) = 0 := (HP.wnfN hw16).trans hwn
            obtain ⟨N2, W2, HP2, -⟩ := HP.fly hw16 hwn5 (ldg_q HP hw16 hpt9 (nI d) (stp (4 * ix (rr 56) + e9) f))
            rw [rRun_f hpf rfl hwn] at hr
            rw [← ht9] at HP2
            refine cvD (As := [.int (nI q)]) (rest := []) (rfSet cI ad F k (rfx rr (4 * ix (rr 56) + e9) (ldg (rr (4 * ix (rr 56) + e9)) (nI d) (stp (4 * ix (rr 56) + e9) f)) (ix (rr 56))) (rcP ps r st) sl sd ne fa bu hs (rcS st) ln ((rwh bu ln).2) (nI 0)) ⟨hx, hb, hml, hown, hts⟩ (tX6_doesF l D cI cQ cL ad N _ k hk rr (rcP ps r st) sl sd ne fa bu hs (rcS st) ln ((rwh bu ln).2) (nI 0) hR (ix (rr 56)) hTu.1 hTu.2 q (by omega) e9 d f q2 q3 q4 q5 q6 q7 q8 (hC9 _ hw16 hpt9) (hFl _ hw16 hwn) hLo hwn) (cwV9 1 hts mcX6_does (ac22 _ (List.mem_of_getElem? (i := 5) rfl)) miX6_does meX6_does mini_RX6 rfl rfl hdX6_does ⟨Nat.le_of_ble_eq_true rfl, Nat.le_of_ble_eq_true rfl⟩) hDi hK hP hNW hS (by omega) hR.1 rfl rfl hl.1 rfl (Nat.le_of_ble_eq_true rfl) ⟨Nat.le_of_ble_eq_true rfl, Nat.le_of_ble_eq_true rfl⟩ (dk kX6_play_ok 22 rfl) rfSet_rfSet (fun H locs hP hS => ?_)
            have hR : rfAt cI ad (rfSet cI ad F k (rfx rr (4 * ix (rr 56) + e9) (ldg (rr (4 * ix (rr 56) + e9)) (nI d) (stp (4 * ix (rr 56) + e9) f)) (ix (rr 56))) (rcP ps r st) sl sd ne fa bu hs (rcS st) ln ((rwh bu ln).2) (nI 0)) k (rfx rr (4 * ix (rr 56) + e9) (ldg (rr (4 * ix (rr 56) + e9)) (nI d) (stp (4 * ix (rr 56) + e9) f)) (ix (rr 56))) (rcP ps r st) sl sd ne fa bu hs (rcS st) ln ((rwh bu ln).2) (nI 0) := rfSet_at
            refine n_if_eq (tgt := 68) hx hb (by decide) (dk kX6_play_ok 23 rfl) (by decide) (fun h9 => absurd h9 (by decide)) (fun _ => ?_)
            refine lv_iinc (v := nI (dn + 1)) (lv' := [(1, .int (nI (dn + 1))), (0, .ref (ad k)), (2, .int (nI q))]) hx hb (dk kX6_play_ok 24 rfl) hl (k := 1) rfl (n_inc _) (by decide) rfl (fun ls hl => ?_)
            refine lv_iload_n hx hb (dk kX6_play_ok 25 rfl) rfl (lv_at hl 2 rfl) ?_
            refine lv_aload_n hx hb (dk kX6_play_ok 26 rfl) rfl (lv_at hl 1 rfl) ?_
            refine gf hx hb hts (fun w h => List.mem_cons_of_mem _ (acX6 w h)) hown hK hP (by omega) hR.1 rfl 6 (by decide) (hts _ (List.mem_cons_of_mem _ (ac17 _ (List.mem_of_getElem? (i := 23) rfl)))) (fun _ h => h) rfl (dk kX6_play_ok 27 rfl) ?_
            refine lv_iload_n hx hb (dk kX6_play_ok 28 rfl) rfl (lv_at hl 2 rfl) ?_
            refine ald (j := q) hx hb hK hP (k := k + 7) (by omega) hR.2.2.2.2.2.2.2 rfl (by omega) (by decide) (dk kX6_play_ok 29 rfl) ?_
            rw [q5]
            refine lv_bipush (v := nI 102) hx hb (dk kX6_play_ok 30 rfl) rfl ?_
            refine n_icmp_ne (tgt := 61) hx hb (by decide) (by decide) (dk kX6_play_ok 31 rfl) (by decide) (fun h9 => absurd rfl h9) (fun _ => ?_)
            refine lv_iconst (v := nI 5) hx hb (dk kX6_play_ok 32 rfl) rfl ?_
            refine lv_goto (tgt := 63) hx hb (dk kX6_play_ok 33 rfl) (by decide) ?_
            refine n_iadd hx hb (dk kX6_play_ok 35 rfl) ?_
            refine lv_istore_n (lv' := [(2, .int (nI (q + 5))), (1, .int (nI (dn + 1))), (0, .ref (ad k))]) hx hb (dk kX6_play_ok 36 rfl) rfl hl (by decide) rfl (fun ls hl => ?_)
            refine lv_goto (tgt := 26) hx hb (dk kX6_play_ok 37 rfl) (by decide) ?_
            exact ih (q + 5) _ _ _ _ _ _ _ _ _ _ (dn + 1) _ _ HP2 hP hS hwf hr (by omega) (by omega) ls (lv_sub hl [2, 1, 0] rfl)
          · skip
            rw [rRun_fx hpf hwn] at hr
            subst hr
            refine cvR (As := [.int (nI q)]) (rest := []) ⟨hx, hb, hml, hown, hts⟩ (tX6_doesFX l D cI cQ cL ad N _ k hk rr (rcP ps r st) sl sd ne fa bu hs (rcS st) ln ((rwh bu ln).2) (nI 0) hR (ix (rr 56)) hTu.1 hTu.2 q (by omega) e9 d f q2 q3 q4 q5 q6 q7 q8 hwn) (cwV9 1 hts mcX6_does (ac22 _ (List.mem_of_getElem? (i := 5) rfl)) miX6_does meX6_does mini_RX6 rfl rfl hdX6_does ⟨Nat.le_of_ble_eq_true rfl, Nat.le_of_ble_eq_true rfl⟩) hK hP hNW (by omega) hR.1 rfl rfl hl.1 rfl (Nat.le_of_ble_eq_true rfl) ⟨Nat.le_of_ble_eq_true rfl, Nat.le_of_ble_eq_true rfl⟩ (dk kX6_play_ok 22 rfl) ?_
            refine n_if_eq (tgt := 68) hx hb (by decide) (dk kX6_play_ok 23 rfl) (by decide) (fun _ => ?_) (fun h9 => absurd rfl h9)
            refine lv_aload_n hx hb (dk kX6_play_ok 38 rfl) rfl (lv_at hl 0 rfl) ?_
            refine lv_iconst (v := nI 0) hx hb (dk kX6_play_ok 39 rfl) rfl ?_
            refine pf (rfSet cI ad F k rr (rcP ps r st) sl sd ne fa bu hs (rcS st) 0 ((rwh bu ln).2) (nI 0)) hx hb hts (fun w h => List.mem_cons_of_mem _ (acX6 w h)) tyX6 tyX6_ok nmX6 hown hK hDi hP hS (by omega) rfSet_at.1 rfl 9 (by decide) (hts _ (List.mem_cons_of_mem _ (ac21 _ (List.mem_of_getElem? (i := 15) rfl)))) (fun _ h => h) rfl (ty := .int) rfl rfl rfl (Nat.le_of_ble_eq_true rfl) (dk kX6_play_ok 40 rfl) rfSet_u0 (fun H locs hP hS => ?_)
            refine lv_iload_n hx hb (dk kX6_play_ok 41 rfl) rfl (lv_at hl 1 rfl) ?_
            exact hret _ _ _ _ _ _ _ _ rfl ⟨rfl, rfl⟩ hP hS (by decide) (by decide) (dk kX6_play_ok 42 rfl)
        · skip
          obtain ⟨q1, q2, q3, q4, q5, q6, q7, q8, q9, q10⟩ := id hpl
          obtain ⟨hTu, hLo, hC9, hFl, hLi⟩ := HP.rok
          refine lv_aload_n hx hb (dk kX6_play_ok 20 rfl) rfl (lv_at hl 0 rfl) ?_
          refine lv_iload_n hx hb (dk kX6_play_ok 21 rfl) rfl (lv_at hl 2 rfl) ?_
          by_cases hwn : rwl rr (13 * y9 + x9) f d = 0
          · skip
            obtain ⟨ht9, ht10⟩ := HP.t_of (rwl_z hwn).1
            obtain ⟨N2, W2, HP2, -, -⟩ := HP.lift q2 q3 q4 q5 hwn
            rw [rRun_l hpl rfl hwn] at hr
            rw [← ht9] at HP2
            refine cvD (As := [.int (nI q)]) (rest := []) (rfSet cI ad F k (rlx rr (13 * y9 + x9) f d (ix (rr 56))) (rcP ps r st) sl sd ne fa bu hs (rcS st) ln ((rwh bu ln).2) (nI 0)) ⟨hx, hb, hml, hown, hts⟩ (tX6_doesL l D cI cQ cL ad N _ k hk rr (rcP ps r st) sl sd ne fa bu hs (rcS st) ln ((rwh bu ln).2) (nI 0) hR (ix (rr 56)) hTu.1 hTu.2 q (by omega) x9 y9 f d q2 q3 q4 q5 q6 q7 q8 q9 q10 (rwl_z hwn).2.1 (hLi _ f d (by omega) q4.1 q4.2 q5 hwn) hLo hwn) (cwV9 1 hts mcX6_does (ac22 _ (List.mem_of_getElem? (i := 5) rfl)) miX6_does meX6_does mini_RX6 rfl rfl hdX6_does ⟨Nat.le_of_ble_eq_true rfl, Nat.le_of_ble_eq_true rfl⟩) hDi hK hP hNW hS (by omega) hR.1 rfl rfl hl.1 rfl (Nat.le_of_ble_eq_true rfl) ⟨Nat.le_of_ble_eq_true rfl, Nat.le_of_ble_eq_true rfl⟩ (dk kX6_play_ok 22 rfl) rfSet_rfSet (fun H locs hP hS => ?_)
            have hR : rfAt cI ad (rfSet cI ad F k (rlx rr (13 * y9 + x9) f d (ix (rr 56))) (rcP ps r st) sl sd ne fa bu hs (rcS st) ln ((rwh bu ln).2) (nI 0)) k (rlx rr (13 * y9 + x9) f d (ix (rr 56))) (rcP ps r st) sl sd ne fa bu hs (rcS st) ln ((rwh bu ln).2) (nI 0) := rfSet_at
            refine n_if_eq (tgt := 68) hx hb (by decide) (dk kX6_play_ok 23 rfl) (by decide) (fun h9 => absurd h9 (by decide)) (fun _ => ?_)
            refine lv_iinc (v := nI (dn + 1)) (lv' := [(1, .int (nI (dn + 1))), (0, .ref (ad k)), (2, .int (nI q))]) hx hb (dk kX6_play_ok 24 rfl) hl (k := 1) rfl (n_inc _) (by decide) rfl (fun ls hl => ?_)
            refine lv_iload_n hx hb (dk kX6_play_ok 25 rfl) rfl (lv_at hl 2 rfl) ?_
            refine lv_aload_n hx hb (dk kX6_play_ok 26 rfl) rfl (lv_at hl 1 rfl) ?_
            refine gf hx hb hts (fun w h => List.mem_cons_of_mem _ (acX6 w h)) hown hK hP (by omega) hR.1 rfl 6 (by decide) (hts _ (List.mem_cons_of_mem _ (ac17 _ (List.mem_of_getElem? (i := 23) rfl)))) (fun _ h => h) rfl (dk kX6_play_ok 27 rfl) ?_
            refine lv_iload_n hx hb (dk kX6_play_ok 28 rfl) rfl (lv_at hl 2 rfl) ?_
            refine ald (j := q) hx hb hK hP (k := k + 7) (by omega) hR.2.2.2.2.2.2.2 rfl (by omega) (by decide) (dk kX6_play_ok 29 rfl) ?_
            rw [q6]
            refine lv_bipush (v := nI 102) hx hb (dk kX6_play_ok 30 rfl) rfl ?_
            refine n_icmp_ne (tgt := 61) hx hb (by decide) (by decide) (dk kX6_play_ok 31 rfl) (by decide) (fun _ => ?_) (fun h9 => absurd h9 (by decide))
            refine lv_bipush (v := nI 6) hx hb (dk kX6_play_ok 34 rfl) rfl ?_
            refine n_iadd hx hb (dk kX6_play_ok 35 rfl) ?_
            refine lv_istore_n (lv' := [(2, .int (nI (q + 6))), (1, .int (nI (dn + 1))), (0, .ref (ad k))]) hx hb (dk kX6_play_ok 36 rfl) rfl hl (by decide) rfl (fun ls hl => ?_)
            refine lv_goto (tgt := 26) hx hb (dk kX6_play_ok 37 rfl) (by decide) ?_
            exact ih (q + 6) _ _ _ _ _ _ _ _ _ _ (dn + 1) _ _ HP2 hP hS hwf hr (by omega) (by omega) ls (lv_sub hl [2, 1, 0] rfl)
          · skip
            rw [rRun_lx hpl hwn] at hr
            subst hr
            refine cvR (As := [.int (nI q)]) (rest := []) ⟨hx, hb, hml, hown, hts⟩ (tX6_doesLX l D cI cQ cL ad N _ k hk rr (rcP ps r st) sl sd ne fa bu hs (rcS st) ln ((rwh bu ln).2) (nI 0) hR (ix (rr 56)) hTu.1 hTu.2 q (by omega) x9 y9 f d q2 q3 q4 q5 q6 q7 q8 q9 q10 hwn) (cwV9 1 hts mcX6_does (ac22 _ (List.mem_of_getElem? (i := 5) rfl)) miX6_does meX6_does mini_RX6 rfl rfl hdX6_does ⟨Nat.le_of_ble_eq_true rfl, Nat.le_of_ble_eq_true rfl⟩) hK hP hNW (by omega) hR.1 rfl rfl hl.1 rfl (Nat.le_of_ble_eq_true rfl) ⟨Nat.le_of_ble_eq_true rfl, Nat.le_of_ble_eq_true rfl⟩ (dk kX6_play_ok 22 rfl) ?_
            refine n_if_eq (tgt := 68) hx hb (by decide) (dk kX6_play_ok 23 rfl) (by decide) (fun _ => ?_) (fun h9 => absurd rfl h9)
            refine lv_aload_n hx hb (dk kX6_play_ok 38 rfl) rfl (lv_at hl 0 rfl) ?_
            refine lv_iconst (v := nI 0) hx hb (dk kX6_play_ok 39 rfl) rfl ?_
            refine pf (rfSet cI ad F k rr (rcP ps r st) sl sd ne fa bu hs (rcS st) 0 ((rwh bu ln).2) (nI 0)) hx hb hts (fun w h => List.mem_cons_of_mem _ (acX6 w h)) tyX6 tyX6_ok nmX6 hown hK hDi hP hS (by omega) rfSet_at.1 rfl 9 (by decide) (hts _ (List.mem_cons_of_mem _ (ac21 _ (List.mem_of_getElem? (i := 15) rfl)))) (fun _ h => h) rfl (ty := .int) rfl rfl rfl (Nat.le_of_ble_eq_true rfl) (dk kX6_play_ok 40 rfl) rfSet_u0 (fun H locs hP hS => ?_)
            refine lv_iload_n hx hb (dk kX6_play_ok 41 rfl) rfl (lv_at hl 1 rfl) ?_
            exact hret _ _ _ _ _ _ _ _ rfl ⟨rfl, rfl⟩ hP hS (by decide) (by decide) (dk kX6_play_ok 42 rfl)
  exact L26 61 0 r b v g h j t u Np Wp 0 _ _ HP hP hS hwf hres (Nat.le_refl 0) (Nat.zero_le _) ls (lv_sub hl [2, 1, 0] rfl)
end
/-! from parse -/
section
/-! the text's parser: the class's states and the reference's reading say the same -/
def stg (a : Nat → Int32) : Nat → Nat → Int32 → Int32
  | 0, _, s => s
  | m + 1, i, s => stg a m (i + 1) (stb s (a i))
theorem sta_stg (a : Nat → Int32) : ∀ (m i : Nat), stg a m i (sta a i) = sta a (i + m)
  | 0, _ => rfl
  | m + 1, i => by
    rw [stg, show stb (sta a i) (a i) = sta a (i + 1) from rfl, sta_stg a m (i + 1), show i + 1 + m = i + (m + 1) by omega]
theorem stb_m (x : Int32) : stb (-1) x = -1 := by unfold stb; rfl
theorem stg_m (a : Nat → Int32) : ∀ (m i : Nat), stg a m i (-1) = -1
  | 0, _ => rfl
  | m + 1, i => by rw [stg, stb_m, stg_m a m (i + 1)]
/-- state s goes on to s2 by a sign from lo to hi alone -/
def goesR (s s2 : Int32) (lo hi : Nat) : Prop := s ≠ nI 8 ∧ ∀ x, stb s x = if btw x (nI lo) (nI hi) = true then s2 else -1
theorem go1 : goesR (nI 1) (nI 2) 48 51 := ⟨by decide, fun x => rfl⟩
theorem go2 : goesR (nI 2) (nI 3) 48 55 := ⟨by decide, fun x => rfl⟩
theorem go3 : goesR (nI 3) (nI 8) 49 57 := ⟨by decide, fun x => rfl⟩
theorem go4 : goesR (nI 4) (nI 5) 97 109 := ⟨by decide, fun x => rfl⟩
theorem go5 : goesR (nI 5) (nI 6) 97 109 := ⟨by decide, fun x => rfl⟩
theorem go6 : goesR (nI 6) (nI 7) 49 54 := ⟨by decide, fun x => rfl⟩
theorem go7 : goesR (nI 7) (nI 8) 48 55 := ⟨by decide, fun x => rfl⟩
theorem stb0 (x : Int32) : stb (nI 0) x = if x = nI 102 then nI 1 else if x = nI 108 then nI 4 else -1 := rfl
theorem stb8 (x : Int32) : stb (nI 8) x = if x = nI 59 then nI 0 else -1 := rfl
theorem btw_one {x : Int32} {a : Nat} (ha : a < 2 ^ 31) : btw x (nI a) (nI a) = true ↔ x = nI a := by
  constructor
  · intro h
    obtain ⟨j, h1, h2, h3⟩ := btw_of ha ha h
    rw [h1, show j = a by omega]
  · intro h
    rw [h]
    exact btw_nI ⟨Nat.le_refl a, Nat.le_refl a⟩ ha
section PARSE
variable {a : Nat → Int32} {n : Nat}
/-- read from (s0, p0): the pair says where it stands, in state s1 -/
def Ag (a : Nat → Int32) (n : Nat) (s0 : Int32) (p0 : Nat) (pr : Bool × Nat) (s1 : Int32) : Prop := p0 ≤ pr.2 ∧ pr.2 ≤ n ∧ (pr.1 = true → eri a (n - p0) p0 s0 = eri a (n - pr.2) pr.2 s1 ∧ stg a (n - p0) p0 s0 = stg a (n - pr.2) pr.2 s1) ∧ (pr.1 = false → eri a (n - p0) p0 s0 = pr.2 ∧ stg a (n - p0) p0 s0 ≠ nI 8)
theorem eri_go {p : Nat} {s s2 : Int32} (h : p < n) (h1 : stb s (a p) = s2) (h2 : s2 ≠ -1) : eri a (n - p) p s = eri a (n - (p + 1)) (p + 1) s2 ∧ stg a (n - p) p s = stg a (n - (p + 1)) (p + 1) s2 := by
  rw [show n - p = (n - (p + 1)) + 1 by omega]
  subst h1
  exact ⟨by rw [eri, if_neg h2], by rw [stg]⟩
theorem eri_stop {p : Nat} {s : Int32} (hp : p ≤ n) (h : p < n → stb s (a p) = -1) (hs : p = n → s ≠ nI 8) : eri a (n - p) p s = p ∧ stg a (n - p) p s ≠ nI 8 := by
  rcases Nat.lt_or_ge p n with q | q
  · rw [show n - p = (n - (p + 1)) + 1 by omega]
    refine ⟨by rw [eri, if_pos (h q)], ?_⟩
    rw [stg, h q, stg_m]
    decide
  · have e : p = n := by omega
    rw [show n - p = 0 by omega]
    exact ⟨rfl, hs e⟩
theorem Ag_start {s : Int32} {p : Nat} (hp : p ≤ n) : Ag a n s p (true, p) s := ⟨Nat.le_refl p, hp, fun _ => ⟨rfl, rfl⟩, fun h => Bool.noConfusion h⟩
theorem Ag_tk {s0 s1 s2 : Int32} {p0 lo hi : Nat} {pr : Bool × Nat} (hs2 : s2 ≠ -1) (hg : goesR s1 s2 lo hi) (h : Ag a n s0 p0 pr s1) : Ag a n s0 p0 (tk a n lo hi pr) s2 := by
  obtain ⟨g, q⟩ := pr
  obtain ⟨h1, h2, h3, h4⟩ := h
  cases g with
  | false =>
    rw [show tk a n lo hi (false, q) = (false, q) from rfl]
    exact ⟨h1, h2, fun e => Bool.noConfusion e, h4⟩
  | true =>
    obtain ⟨e1, e2⟩ := h3 rfl
    rw [show tk a n lo hi (true, q) = (tks a n q lo hi, tkn a n q lo hi) from rfl]
    cases ht : tks a n q lo hi with
    | true =>
      rw [tkn, ht, if_pos rfl]
      have ht2 := ht
      unfold tks at ht2
      rw [Bool.and_eq_true] at ht2
      have hq : q < n := of_decide_eq_true ht2.1
      obtain ⟨f1, f2⟩ := eri_go (a := a) (n := n) (p := q) (s := s1) (s2 := s2) hq (by rw [hg.2, if_pos ht2.2]) hs2
      exact ⟨by show p0 ≤ q + 1; have : p0 ≤ q := h1; omega, hq, fun _ => ⟨by rw [e1, f1], by rw [e2, f2]⟩, fun e => Bool.noConfusion e⟩
    | false =>
      rw [tkn, ht, if_neg (by decide)]
      obtain ⟨f1, f2⟩ := eri_stop (a := a) (n := n) (p := q) (s := s1) h2 (fun q9 => by
        rw [hg.2, if_neg]
        intro hb
        unfold tks at ht
        rw [decide_eq_true q9, hb] at ht
        exact absurd ht (by decide)) (fun _ => hg.1)
      exact ⟨h1, h2, fun e => Bool.noConfusion e, fun _ => ⟨by rw [e1, f1], by rw [e2]; exact f2⟩⟩
theorem Ag_rprt {p : Nat} (hp : p ≤ n) : Ag a n (nI 0) p (rprt a n p) (nI 8) := by
  unfold rprt
  by_cases h : tks a n p 102 102 = true
  · rw [if_pos h, tkn, if_pos h]
    unfold tks at h
    rw [Bool.and_eq_true] at h
    have hq : p < n := of_decide_eq_true h.1
    obtain ⟨f1, f2⟩ := eri_go (a := a) (n := n) (p := p) (s := nI 0) (s2 := nI 1) hq (by rw [stb0, if_pos ((btw_one (by decide)).mp h.2)]) (by decide)
    refine Ag_tk (by decide) go3 (Ag_tk (by decide) go2 (Ag_tk (by decide) go1 ?_))
    exact ⟨Nat.le_succ p, hq, fun _ => ⟨f1, f2⟩, fun e => Bool.noConfusion e⟩
  · rw [if_neg h, tkn, if_neg h]
    have hf : p < n → a p ≠ nI 102 := by
      intro q e
      apply h
      unfold tks
      rw [decide_eq_true q, (btw_one (by decide)).mpr e]
      rfl
    refine Ag_tk (by decide) go7 (Ag_tk (by decide) go6 (Ag_tk (by decide) go5 (Ag_tk (by decide) go4 ?_)))
    rw [show tk a n 108 108 (true, p) = (tks a n p 108 108, tkn a n p 108 108) from rfl]
    cases ht : tks a n p 108 108 with
    | true =>
      rw [tkn, ht, if_pos rfl]
      unfold tks at ht
      rw [Bool.and_eq_true] at ht
      have hq : p < n := of_decide_eq_true ht.1
      obtain ⟨f1, f2⟩ := eri_go (a := a) (n := n) (p := p) (s := nI 0) (s2 := nI 4) hq (by rw [stb0, if_neg (hf hq), if_pos ((btw_one (by decide)).mp ht.2)]) (by decide)
      exact ⟨Nat.le_succ p, hq, fun _ => ⟨f1, f2⟩, fun e => Bool.noConfusion e⟩
    | false =>
      rw [tkn, ht, if_neg (by decide)]
      obtain ⟨f1, f2⟩ := eri_stop (a := a) (n := n) (p := p) (s := nI 0) hp (fun q9 => by
        rw [stb0, if_neg (hf q9), if_neg]
        intro hb
        unfold tks at ht
        rw [decide_eq_true q9, (btw_one (by decide)).mpr hb] at ht
        exact absurd ht (by decide)) (fun _ => by decide)
      exact ⟨Nat.le_refl p, hp, fun e => Bool.noConfusion e, fun _ => ⟨f1, f2⟩⟩
theorem Ag_trans {s0 s1 s2 : Int32} {p0 p1 : Nat} {pr : Bool × Nat} (h : Ag a n s0 p0 (true, p1) s1) (h2 : Ag a n s1 p1 pr s2) : Ag a n s0 p0 pr s2 := by
  obtain ⟨h1, -, h3, -⟩ := h
  obtain ⟨k1, k2, k3, k4⟩ := h2
  obtain ⟨e1, e2⟩ := h3 rfl
  have e1 : eri a (n - p0) p0 s0 = eri a (n - p1) p1 s1 := e1
  have e2 : stg a (n - p0) p0 s0 = stg a (n - p1) p1 s1 := e2
  exact ⟨Nat.le_trans h1 k1, k2, fun g => ⟨by rw [e1]; exact (k3 g).1, by rw [e2]; exact (k3 g).2⟩, fun g => ⟨by rw [e1]; exact (k4 g).1, by rw [e2]; exact (k4 g).2⟩⟩
theorem Ag_rwhL : ∀ (m : Nat) (g : Bool) (p : Nat), (g = true → n ≤ p + m) → Ag a n (nI 0) 0 (g, p) (nI 8) → Ag a n (nI 0) 0 (rwhL a n m g p) (nI 8) ∧ ((rwhL a n m g p).1 = true → (rwhL a n m g p).2 = n)
  | 0, g, p, hf, h => ⟨h, fun hg => by
      have hg : g = true := hg
      have h5 : p ≤ n := h.2.1
      have h6 := hf hg
      show p = n
      omega⟩
  | m + 1, g, p, hf, h => by
    have h5 : p ≤ n := h.2.1
    rw [rwhL]
    by_cases hc : g = true ∧ p < n
    · rw [if_pos hc]
      obtain ⟨hg, hq⟩ := hc
      subst hg
      have hfm := hf rfl
      by_cases ht : tks a n p 59 59 = true
      · rw [if_pos ht, tkn, if_pos ht]
        unfold tks at ht
        rw [Bool.and_eq_true] at ht
        obtain ⟨f1, f2⟩ := eri_go (a := a) (n := n) (p := p) (s := nI 8) (s2 := nI 0) hq (by rw [stb8, if_pos ((btw_one (by decide)).mp ht.2)]) (by decide)
        have hr := Ag_rprt (a := a) (n := n) (p := p + 1) hq
        have h9 : Ag a n (nI 8) p (true, p + 1) (nI 0) := ⟨Nat.le_succ p, hq, fun _ => ⟨f1, f2⟩, fun e => Bool.noConfusion e⟩
        have hge : p + 1 ≤ (rprt a n (p + 1)).2 := hr.1
        exact Ag_rwhL m _ _ (fun _ => by omega) (Ag_trans (Ag_trans h h9) hr)
      · rw [if_neg ht, tkn, if_neg ht]
        obtain ⟨f1, f2⟩ := eri_stop (a := a) (n := n) (p := p) (s := nI 8) h5 (fun q9 => by
          rw [stb8, if_neg]
          intro hb
          apply ht
          unfold tks
          rw [decide_eq_true q9, (btw_one (by decide)).mpr hb]
          rfl) (fun e => by omega)
        refine Ag_rwhL m false p (fun e => Bool.noConfusion e) ?_
        have h9 : Ag a n (nI 8) p (false, p) (nI 8) := ⟨Nat.le_refl p, h5, fun e => Bool.noConfusion e, fun _ => ⟨f1, f2⟩⟩
        exact Ag_trans h h9
    · rw [if_neg hc]
      exact ⟨h, fun hg => by
        have hg : g = true := hg
        have : ¬ p < n := fun q => hc ⟨hg, q⟩
        show p = n
        omega⟩
theorem rwh_Ag (a : Nat → Int32) (n : Nat) : Ag a n (nI 0) 0 (rwh a n) (nI 8) ∧ ((rwh a n).1 = true → (rwh a n).2 = n) := by
  unfold rwh
  refine Ag_rwhL (n + 1) _ _ (fun _ => by omega) ?_
  have h := Ag_rprt (a := a) (n := n) (p := 0) (Nat.zero_le n)
  exact h
theorem sta_rwh (a : Nat → Int32) (n : Nat) : sta a n = nI 8 ↔ (rwh a n).1 = true := by
  obtain ⟨⟨h1, h2, h3, h4⟩, h5⟩ := rwh_Ag a n
  have e : stg a (n - 0) 0 (nI 0) = sta a n := by
    rw [show nI 0 = sta a 0 from rfl, sta_stg, show 0 + (n - 0) = n by omega]
  constructor
  · intro h
    cases hb : (rwh a n).1 with
    | true => rfl
    | false => exact absurd (e.trans h) (h4 hb).2
  · intro hb
    rw [← e, (h3 hb).2, h5 hb, show n - n = 0 by omega]
    rfl
theorem eri_rwh (a : Nat → Int32) (n : Nat) : eri a n 0 (nI 0) = if (rwh a n).1 = true then n else (rwh a n).2 := by
  obtain ⟨⟨h1, h2, h3, h4⟩, h5⟩ := rwh_Ag a n
  cases hb : (rwh a n).1 with
  | true =>
    rw [if_pos rfl]
    have := (h3 hb).1
    rw [h5 hb, show n - n = 0 by omega] at this
    exact this
  | false =>
    rw [if_neg (by decide)]
    exact (h4 hb).1
theorem stg_in {m k lo hi : Nat} {s s2 : Int32} (hlo : lo < 2 ^ 31) (hhi : hi < 2 ^ 31) (hg : goesR s s2 lo hi) (h : stg a m k s = nI 8) : ∃ m', m = m' + 1 ∧ (∃ j, a k = nI j ∧ lo ≤ j ∧ j ≤ hi) ∧ stg a m' (k + 1) s2 = nI 8 := by
  cases m with
  | zero => exact absurd h hg.1
  | succ m' =>
    rw [stg, hg.2] at h
    by_cases hb : btw (a k) (nI lo) (nI hi) = true
    · rw [if_pos hb] at h
      exact ⟨m', rfl, btw_of hlo hhi hb, h⟩
    · rw [if_neg hb, stg_m] at h
      exact absurd h (by decide)
theorem stg_8 {m k : Nat} (h : stg a m k (nI 8) = nI 8) : m = 0 ∨ ∃ m', m = m' + 1 ∧ stg a m' (k + 1) (nI 0) = nI 8 := by
  cases m with
  | zero => exact Or.inl rfl
  | succ m' =>
    rw [stg, stb8] at h
    by_cases hb : a k = nI 59
    · rw [if_pos hb] at h
      exact Or.inr ⟨m', rfl, h⟩
    · rw [if_neg hb, stg_m] at h
      exact absurd h (by decide)
theorem wfT_of : ∀ (fu m k : Nat), k + m = n → m ≤ fu → stg a m k (nI 0) = nI 8 → wfT a n fu k
  | 0, m, k, hk, hf, h => by
    show n ≤ k
    omega
  | fu + 1, m, k, hk, hf, h => by
    have hend : ∀ (m9 k9 : Nat), k9 + m9 = n → m9 < fu + 1 → stg a m9 k9 (nI 8) = nI 8 → wfT a n fu (k9 + 1) := by
      intro m9 k9 h1 h2 h3
      rcases stg_8 h3 with h4 | ⟨m', h4, h5⟩
      · cases fu with
        | zero => show n ≤ k9 + 1; omega
        | succ fu => exact Or.inl (by omega)
      · exact wfT_of fu m' (k9 + 1) (by omega) (by omega) h5
    cases m with
    | zero => exact absurd (show nI 0 = nI 8 from h) (by decide)
    | succ m0 =>
      rw [stg, stb0] at h
      by_cases hf0 : a k = nI 102
      · rw [if_pos hf0] at h
        obtain ⟨m1, e1, ⟨j1, b1, b2, b3⟩, h⟩ := stg_in (by decide) (by decide) go1 h
        obtain ⟨m2, e2, ⟨j2, c1, c2, c3⟩, h⟩ := stg_in (by decide) (by decide) go2 h
        obtain ⟨m3, e3, ⟨j3, d1, d2, d3⟩, h⟩ := stg_in (by decide) (by decide) go3 h
        refine Or.inr (Or.inl ⟨j1 - 48, j2 - 48, j3 - 48, ⟨by omega, by omega, by omega, by omega, hf0, ?_, ?_, ?_⟩, hend m3 (k + 4) (by omega) (by omega) h⟩)
        · exact b1.trans (congrArg nI (by omega))
        · exact c1.trans (congrArg nI (by omega))
        · exact d1.trans (congrArg nI (by omega))
      · rw [if_neg hf0] at h
        by_cases hl0 : a k = nI 108
        · rw [if_pos hl0] at h
          obtain ⟨m1, e1, ⟨j1, b1, b2, b3⟩, h⟩ := stg_in (by decide) (by decide) go4 h
          obtain ⟨m2, e2, ⟨j2, c1, c2, c3⟩, h⟩ := stg_in (by decide) (by decide) go5 h
          obtain ⟨m3, e3, ⟨j3, d1, d2, d3⟩, h⟩ := stg_in (by decide) (by decide) go6 h
          obtain ⟨m4, e4, ⟨j4, f1, f2, f3⟩, h⟩ := stg_in (by decide) (by decide) go7 h
          refine Or.inr (Or.inr ⟨j1 - 97, j2 - 97, j3 - 48, j4 - 48, ⟨by omega, by omega, by omega, by omega, by omega, hl0, ?_, ?_, ?_, ?_⟩, hend m4 (k + 5) (by omega) (by omega) h⟩)
          · exact b1.trans (congrArg nI (by omega))
          · exact c1.trans (congrArg nI (by omega))
          · exact d1.trans (congrArg nI (by omega))
          · exact f1.trans (congrArg nI (by omega))
        · rw [if_neg hl0, stg_m] at h
          exact absurd h (by decide)
theorem rwh_wfT (h60 : n ≤ 60) (h : (rwh a n).1 = true) : wfT a n 61 0 := by
  have h1 := (sta_rwh a n).mpr h
  refine wfT_of 61 n 0 (by omega) (by omega) ?_
  have h2 := sta_stg a n 0
  rw [show sta a 0 = nI 0 from rfl, show 0 + n = n by omega, h1] at h2
  exact h2
-- what lies behind the text doesn't count
variable {b : Nat → Int32}
theorem tks_congr (h : ∀ k, k < n → a k = b k) (p lo hi : Nat) : tks a n p lo hi = tks b n p lo hi := by
  unfold tks
  by_cases q : p < n
  · rw [h p q]
  · rw [decide_eq_false q, Bool.false_and, Bool.false_and]
theorem tkn_congr (h : ∀ k, k < n → a k = b k) (p lo hi : Nat) : tkn a n p lo hi = tkn b n p lo hi := by unfold tkn; rw [tks_congr h]
theorem tk_congr (h : ∀ k, k < n → a k = b k) (lo hi : Nat) (p : Bool × Nat) : tk a n lo hi p = tk b n lo hi p := by unfold tk; rw [tks_congr h, tkn_congr h]
theorem rprt_congr (h : ∀ k, k < n → a k = b k) (p : Nat) : rprt a n p = rprt b n p := by
  unfold rprt
  simp only [tks_congr h, tkn_congr h, tk_congr h]
theorem rwhL_congr (h : ∀ k, k < n → a k = b k) : ∀ (m : Nat) (g : Bool) (p : Nat), rwhL a n m g p = rwhL b n m g p
  | 0, _, _ => rfl
  | m + 1, g, p => by
    rw [rwhL, rwhL, tks_congr h, tkn_congr h, rprt_congr h, rwhL_congr h m, rwhL_congr h m]
theorem rwh_congr (h : ∀ k, k < n → a k = b k) : rwh a n = rwh b n := by
  unfold rwh
  rw [rprt_congr h, rwhL_congr h]
theorem rRun_congr (h : ∀ k, k < n → a k = b k) : ∀ (fu k : Nat) (r : Nat → Int32) (dn : Nat), wfT a n fu k → rRun a n fu k r dn = rRun b n fu k r dn
  | 0, _, _, _, _ => rfl
  | fu + 1, k, r, dn, hw => by
    rcases hw with h1 | ⟨e, d, f, h1, h2⟩ | ⟨x, y, f, d, h1, h2⟩
    · rw [rRun, rRun, if_pos h1, if_pos h1]
    · obtain ⟨q1, -, -, -, q5, -, -, -⟩ := h1
      rw [rRun, rRun, ← h k (by omega), ← h (k + 1) (by omega), ← h (k + 2) (by omega), ← h (k + 3) (by omega), rRun_congr h fu (k + 5) _ _ h2, if_pos q5, if_pos q5]
    · obtain ⟨q1, -, -, -, -, q5, -⟩ := h1
      have q6 : a k ≠ nI 102 := by rw [q5]; decide
      rw [rRun, rRun, ← h k (by omega), ← h (k + 1) (by omega), ← h (k + 2) (by omega), ← h (k + 3) (by omega), ← h (k + 4) (by omega), rRun_congr h fu (k + 6) _ _ h2, if_neg q6, if_neg q6]
end PARSE
end
/-! from inv -/
section
/-! what class and reference keep to each other between the law's calls -/
theorem Pos_ext {r r' b v g h j : Nat → Int32} {t : Nat} {u z : Int32} {Np : Nat → Nat} {Wp : Nat → Nat → Nat} (H : Pos r b v g h j t u z Np Wp) (e : ∀ x, x < 60 → r x = r' x) : Pos r' b v g h j t u z Np Wp := by
  obtain ⟨hc, hl, hp, hg, hh, hu, hz, hsm, ht, hTu, hLo, ho⟩ := H
  refine ⟨Rc_ext hc (fun x hx => e x (by omega)), Rl_ext hl (fun x hx => e x (by omega)), Rp_ext hc hp (fun x hx => e x (by omega)), fun w hw => (hg w hw).trans (e _ (by omega)), fun i hi => (hh i hi).trans (e _ (by omega)), hu.trans (e _ (by omega)), hz.trans (e _ (by omega)), hsm.trans (e _ (by omega)), ht, ?_, fun i hi => ?_, fun hov => ?_⟩
  · unfold rTu at *
    rw [← e 56 (by omega)]
    exact hTu
  · rw [← e _ (by omega)]
    exact hLo i hi
  · rw [← over_ext (fun x hx => e x (by omega))] at hov
    obtain ⟨o1, o2, o3⟩ := ho hov
    exact ⟨o1.trans (e _ (by omega)), by rw [← e _ (by omega)]; exact o2, fun i hi => (o3 i hi).trans (e _ (by omega))⟩
/-- a State of the class's at place k stands as the row r says -/
def SP (cI : ClassId) (ad : Nat → Nat) (F : Nat → va_E) (k : Nat) (r : Nat → Int32) : Prop := ∃ (c b v g h j : Nat → Int32) (t : Nat) (u z : Int32) (Np : Nat → Nat) (Wp : Nat → Nat → Nat), stAt cI ad F k c b v g h j (nI t) u z ∧ Pos r b v g h j t u z Np Wp ∧ ∀ x, x < 16 → c x = r x
theorem SP_ext {cI : ClassId} {ad : Nat → Nat} {F : Nat → va_E} {k : Nat} {r r' : Nat → Int32} (h : SP cI ad F k r) (e : ∀ x, x < 60 → r x = r' x) : SP cI ad F k r' := by
  obtain ⟨c, b, v, g, h, j, t, u, z, Np, Wp, h1, h2, h3⟩ := h
  exact ⟨c, b, v, g, h, j, t, u, z, Np, Wp, h1, Pos_ext h2 e, fun x hx => (h3 x hx).trans (e x (by omega))⟩
theorem SP_fr {cI : ClassId} {ad : Nat → Nat} {F G : Nat → va_E} {k : Nat} {r : Nat → Int32} (h : SP cI ad F k r) (e : ∀ i, k ≤ i → i ≤ k + 7 → G i = F i) : SP cI ad G k r := by
  obtain ⟨c, b, v, g, h, j, t, u, z, Np, Wp, h1, h2, h3⟩ := h
  exact ⟨c, b, v, g, h, j, t, u, z, Np, Wp, stAt_keep h1 e, h2, h3⟩
/-- the ring of past positions -/
def RNG (cI cQ : ClassId) (ad : Nat → Nat) (F : Nat → va_E) (ps : Nat → Int32) (st n9 : Nat) : Prop := n9 < 6 ∧ st ≤ 6 ∧ paAt cQ ad F 17 n9 st ∧ (∀ i, i < 6 → ∃ R, SP cI ad F (17 + 2 + 8 * i) R) ∧ ∀ k, k < st → SP cI ad F (17 + 2 + 8 * ((n9 + 6 - (st - k)) % 6)) (fun x => ps (60 * k + x))
def SNP (cI : ClassId) (ad : Nat → Nat) (F : Nat → va_E) (sl : Nat → Int32) (hs : Bool) : Prop := (∃ R, SP cI ad F 9 R) ∧ (hs = true → SP cI ad F 9 sl)
def TXT (cI : ClassId) (ad : Nat → Nat) (F : Nat → va_E) (bu : Nat → Int32) (ln : Nat) : Prop := ln ≤ 60 ∧ ∃ a, gtAt cI ad F 67 a ln ∧ ∀ x, x < ln → a x = bu x
def F0is (ad : Nat → Nat) (F : Nat → va_E) (hs : Bool) : Prop := F 0 = .inr (5, [.ref (ad 1), .ref (ad 9), .ref (ad 17), .ref (ad 67), .ref (ad 69), .ref (ad 73), .int (bI hs)])
/-- what is neither the position nor the text -/
def OTH (cI : ClassId) (ad : Nat → Nat) (F : Nat → va_E) : Prop := (∃ c6 b6 v6, matAt cI ad F 69 c6 b6 v6) ∧ ∃ a7 d7 q7, roAt cI ad F 73 a7 d7 q7 ∧ KNa a7
def ICl (cI cQ : ClassId) (ad : Nat → Nat) (F : Nat → va_E) (r ps sl bu : Nat → Int32) (hs : Bool) (st ln : Nat) : Prop := SP cI ad F 1 r ∧ SNP cI ad F sl hs ∧ (∃ n9, RNG cI cQ ad F ps st n9) ∧ TXT cI ad F bu ln ∧ OTH cI ad F ∧ F0is ad F hs
def INV (cI cQ cL : ClassId) (ad : Nat → Nat) (F : Nat → va_E) : Prop := ∃ (r ps sl sd ne fa bu : Nat → Int32) (hs : Bool) (st ln pt : Nat) (th : Int32), rfAt cI ad F 77 r ps sl sd ne fa bu hs st ln pt th ∧ ICl cI cQ ad F r ps sl bu hs st ln ∧ ∃ o, F 85 = .inl (cL, 1, .inr (.inl o))
section INVS
variable {cI cQ cL : ClassId} {ad : Nat → Nat} {F G : Nat → va_E} {r ps sl sd ne fa bu : Nat → Int32} {hs : Bool} {st ln pt : Nat} {th : Int32}
theorem RNG_fr {n9 : Nat} (h : RNG cI cQ ad F ps st n9) (e : ∀ i, 17 ≤ i → i ≤ 66 → G i = F i) : RNG cI cQ ad G ps st n9 := by
  obtain ⟨h1, h2, h3, h4, h5⟩ := h
  refine ⟨h1, h2, paAt_keep h3 (fun i a b => e i (by omega) (by omega)), fun i hi => ?_, fun k hk => SP_fr (h5 k hk) (fun i a b => e i (by omega) (by omega))⟩
  obtain ⟨R, hR⟩ := h4 i hi
  exact ⟨R, SP_fr hR (fun i a b => e i (by omega) (by omega))⟩
theorem SNP_fr (h : SNP cI ad F sl hs) (e : ∀ i, 9 ≤ i → i ≤ 16 → G i = F i) : SNP cI ad G sl hs := by
  obtain ⟨⟨R, h1⟩, h2⟩ := h
  exact ⟨⟨R, SP_fr h1 e⟩, fun q => SP_fr (h2 q) e⟩
theorem TXT_fr (h : TXT cI ad F bu ln) (e : ∀ i, 67 ≤ i → i ≤ 68 → G i = F i) : TXT cI ad G bu ln := by
  obtain ⟨h1, a, h2, h3⟩ := h
  exact ⟨h1, a, gtAt_keep h2 e, h3⟩
theorem OTH_fr (h : OTH cI ad F) (e : ∀ i, 69 ≤ i → i ≤ 76 → G i = F i) : OTH cI ad G := by
  obtain ⟨⟨c6, b6, v6, h1⟩, a7, d7, q7, h2, h3⟩ := h
  exact ⟨⟨c6, b6, v6, matAt_keep h1 (fun i a b => e i (by omega) (by omega))⟩, a7, d7, q7, roAt_keep h2 (fun i a b => e i (by omega) (by omega)), h3⟩
theorem ICl_fr (h : ICl cI cQ ad F r ps sl bu hs st ln) (e : ∀ i, i < 77 → G i = F i) : ICl cI cQ ad G r ps sl bu hs st ln := by
  obtain ⟨h1, h2, ⟨n9, h3⟩, h4, h5, h6⟩ := h
  exact ⟨SP_fr h1 (fun i a b => e i (by omega)), SNP_fr h2 (fun i a b => e i (by omega)), ⟨n9, RNG_fr h3 (fun i a b => e i (by omega))⟩, TXT_fr h4 (fun i a b => e i (by omega)), OTH_fr h5 (fun i a b => e i (by omega)), (e 0 (by decide)).trans h6⟩
theorem rcS_min (h : st ≤ 6) : rcS st = min (st + 1) 6 := by
  unfold rcS
  split <;> omega
theorem rcP_at {x k : Nat} (hx : x < 60) (hk : k < st) (hst : st < 6) : rcP ps r st (60 * k + x) = ps (60 * k + x) := by
  unfold rcP cp9
  rw [if_neg (by omega)]
  show (if _ then _ else _) = _
  rw [if_neg (by omega)]
theorem rcP_new {x : Nat} (hx : x < 60) (hst : st < 6) : rcP ps r st (60 * st + x) = r x := by
  unfold rcP cp9
  rw [if_neg (by omega)]
  show (if _ then _ else _) = _
  rw [if_pos (by omega), show 60 * st + x - 60 * st = x by omega]
theorem rcP_at6 {x k : Nat} (hx : x < 60) (hk : k < 5) : rcP ps r 6 (60 * k + x) = ps (60 * (k + 1) + x) := by
  unfold rcP cp9
  rw [if_pos rfl]
  show (if _ then _ else (if _ then _ else _)) = _
  rw [if_neg (by omega), if_pos (by omega)]
  show ps (60 + (60 * k + x - 0)) = _
  rw [show 60 + (60 * k + x - 0) = 60 * (k + 1) + x by omega]
theorem rcP_new6 {x : Nat} (hx : x < 60) : rcP ps r 6 (60 * 5 + x) = r x := by
  unfold rcP cp9
  rw [if_pos rfl]
  show (if _ then _ else _) = _
  rw [if_pos (by omega), show 60 * 5 + x - 60 * (6 - 1) = x by omega]
/-- a position saved, and a new one -/
theorem ICl_mv {c b v g h j : Nat → Int32} {t : Nat} {u z : Int32} {Np : Nat → Nat} {Wp : Nat → Nat → Nat} {n9 : Nat} (hI : ICl cI cQ ad F r ps sl bu hs st ln) (hN : stAt cI ad F 1 c b v g h j (nI t) u z) (hp : Pos r b v g h j t u z Np Wp) (hc : ∀ x, x < 16 → c x = r x) (hR : RNG cI cQ ad F ps st n9) {r' c' b' v' g' h' j' : Nat → Int32} {t' : Nat} {u' z' : Int32} {Np' : Nat → Nat} {Wp' : Nat → Nat → Nat} (hp' : Pos r' b' v' g' h' j' t' u' z' Np' Wp') (hc' : ∀ x, x < 16 → c' x = r' x) : ICl cI cQ ad (sSet cI ad (paSet cQ ad (sSet cI ad F (17 + 2 + 8 * n9) c b v g h j (nI t) u z) 17 ((n9 + 1) % 6) (min (st + 1) 6)) 1 c' b' v' g' h' j' (nI t') u' z') r' (rcP ps r st) sl bu hs (rcS st) ln := by
  obtain ⟨h1, h2, -, h4, h5, h6⟩ := hI
  obtain ⟨g1, g2, g3, g4, g5⟩ := hR
  have out : ∀ i, (i < 1 ∨ 8 < i) → (i < 17 ∨ 18 < i) → (i < 17 + 2 + 8 * n9 ∨ 17 + 2 + 8 * n9 + 7 < i) → sSet cI ad (paSet cQ ad (sSet cI ad F (17 + 2 + 8 * n9) c b v g h j (nI t) u z) 17 ((n9 + 1) % 6) (min (st + 1) 6)) 1 c' b' v' g' h' j' (nI t') u' z' i = F i := fun i a1 a2 a3 => by rw [sSet_out (by omega), paSet_out (by omega), sSet_out (by omega)]
  have hnew : SP cI ad (sSet cI ad (paSet cQ ad (sSet cI ad F (17 + 2 + 8 * n9) c b v g h j (nI t) u z) 17 ((n9 + 1) % 6) (min (st + 1) 6)) 1 c' b' v' g' h' j' (nI t') u' z') (17 + 2 + 8 * n9) r := by
    obtain ⟨R, cR, bR, vR, gR, hR, jR, tR, uR, zR, NR, WR, q1, -, -⟩ := g4 n9 g1
    exact ⟨c, b, v, g, h, j, t, u, z, Np, Wp, stAt_keep (sSet_at q1) (fun i a1 a2 => by rw [sSet_out (by omega), paSet_out (by omega)]), hp, hc⟩
  have hold : ∀ i R, i < 6 → i ≠ n9 → SP cI ad F (17 + 2 + 8 * i) R → SP cI ad (sSet cI ad (paSet cQ ad (sSet cI ad F (17 + 2 + 8 * n9) c b v g h j (nI t) u z) 17 ((n9 + 1) % 6) (min (st + 1) 6)) 1 c' b' v' g' h' j' (nI t') u' z') (17 + 2 + 8 * i) R := fun i R hi hne q => SP_fr q (fun x a1 a2 => out x (by omega) (by omega) (by omega))
  refine ⟨?_, SNP_fr h2 (fun i a1 a2 => out i (by omega) (by omega) (by omega)), ⟨(n9 + 1) % 6, Nat.mod_lt _ (by decide), by rw [rcS_min g2]; omega, ?_, fun i hi => ?_, fun k hk => ?_⟩, TXT_fr h4 (fun i a1 a2 => out i (by omega) (by omega) (by omega)), OTH_fr h5 (fun i a1 a2 => out i (by omega) (by omega) (by omega)), (out 0 (by omega) (by omega) (by omega)).trans h6⟩
  · exact ⟨c', b', v', g', h', j', t', u', z', Np', Wp', sSet_at (stAt_keep hN (fun i a1 a2 => by rw [paSet_out (by omega), sSet_out (by omega)])), hp', hc'⟩
  · rw [rcS_min g2]
    exact paAt_keep (paSet_at (F := sSet cI ad F (17 + 2 + 8 * n9) c b v g h j (nI t) u z)) (fun i a1 a2 => sSet_out (by omega))
  · by_cases hne : i = n9
    · subst hne; exact ⟨r, hnew⟩
    · obtain ⟨R, hR⟩ := g4 i hi
      exact ⟨R, hold i R hi hne hR⟩
  · by_cases h60 : st = 6
    · subst h60
      have hk6 : k < 6 := hk
      rw [show rcS 6 = 6 from rfl]
      by_cases hk5 : k = 5
      · subst hk5
        rw [show ((n9 + 1) % 6 + 6 - (6 - 5)) % 6 = n9 by omega]
        exact SP_ext hnew (fun x hx => (rcP_new6 hx).symm)
      · have hq := g5 (k + 1) (by omega)
        rw [show ((n9 + 1) % 6 + 6 - (6 - k)) % 6 = (n9 + 6 - (6 - (k + 1))) % 6 by omega]
        exact SP_ext (hold _ _ (Nat.mod_lt _ (by decide)) (by omega) hq) (fun x hx => (rcP_at6 hx (by omega)).symm)
    · have hS : rcS st = st + 1 := by unfold rcS; rw [if_neg h60]
      rw [hS] at hk ⊢
      by_cases hk5 : k = st
      · subst hk5
        rw [show ((n9 + 1) % 6 + 6 - (k + 1 - k)) % 6 = n9 by omega]
        exact SP_ext hnew (fun x hx => (rcP_new hx (by omega)).symm)
      · have hq := g5 k (by omega)
        rw [show ((n9 + 1) % 6 + 6 - (st + 1 - k)) % 6 = (n9 + 6 - (st - k)) % 6 by omega]
        exact SP_ext (hold _ _ (Nat.mod_lt _ (by decide)) (by omega) hq) (fun x hx => (rcP_at hx (by omega) (by omega)).symm)
end INVS
end
