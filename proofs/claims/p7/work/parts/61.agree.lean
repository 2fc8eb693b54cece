/-! what both sides tell of one position -/
theorem bool_ff {b : Bool} (h : ¬ b = true) : b = false := by simpa using h
theorem Rp.wat0 {r : Nat → Int32} {N : Nat → Nat} {W : Nat → Nat → Nat} (h : Rc r N W) {q : Nat} (hq : q < 2 ^ 31) (h0 : N q = 0) (p : Int32) : wat r (nI q) p = -1 := by
  unfold wat
  refine fst_n 16 0 (fun k _ hk => ?_)
  unfold rwt
  by_cases hc : r k = nI q
  · obtain ⟨i, hi, -⟩ := h.cell hq (by omega) hc
    omega
  · simp [hc]
theorem Rp.top_wat {r b v : Nat → Int32} {N : Nat → Nat} {W : Nat → Nat → Nat} (h : Rc r N W) (hl : Rl r b v N W) (hp : Rp r N W) {q : Nat} (hq : q < 2 ^ 31) : top r v (nI q) = wat r (nI q) (nI (hgt r (nI q)) - nI 1) := by
  rw [hl.topv h hq, h.hgtN hq]
  have hle := h.le hq
  by_cases h0 : N q = 0
  · rw [if_pos h0, Rp.wat0 h hq h0]
  · rw [if_neg h0, pk_sub (by omega), hp.watN h hq (by omega), if_pos (by omega)]
theorem Rp.top_wat2 {r b v : Nat → Int32} {N : Nat → Nat} {W : Nat → Nat → Nat} (h : Rc r N W) (hl : Rl r b v N W) (hp : Rp r N W) {q : Nat} (hq : q < 2 ^ 31) : top r v (nI q) = wat r (nI q) (nI (hgt r (nI q) - 1)) := by
  rw [hl.topv h hq, h.hgtN hq]
  have hle := h.le hq
  by_cases h0 : N q = 0
  · rw [if_pos h0, Rp.wat0 h hq h0]
  · rw [if_neg h0, hp.watN h hq (by omega), if_pos (by omega)]
theorem Rp.bot_wat {r b v : Nat → Int32} {N : Nat → Nat} {W : Nat → Nat → Nat} (h : Rc r N W) (hl : Rl r b v N W) (hp : Rp r N W) {q : Nat} (hq : q < 2 ^ 31) : top r b (nI q) = wat r (nI q) (nI 0) := by
  rw [hl.topb h hq, hp.watN h hq (by decide)]
  by_cases h0 : N q = 0
  · rw [if_pos h0, if_neg (by omega)]
  · rw [if_neg h0, if_pos (by omega)]
/-- one position on both sides -/
def Pos (r b v g h j : Nat → Int32) (t : Nat) (u z : Int32) (N : Nat → Nat) (W : Nat → Nat → Nat) : Prop :=
  Rc r N W ∧ Rl r b v N W ∧ Rp r N W ∧ (∀ w, w < 16 → g w = r (32 + w)) ∧ (∀ i, i < 4 → h i = r (48 + i)) ∧ u = r 59 ∧ z = r 57 ∧ smi g 16 = r 58 ∧ t < 4 ∧ rTu r ∧ lo01 r ∧ (over r = false → nI t = r 56 ∧ r (52 + t) = nI 0 ∧ ∀ i, i < 4 → j i = r (52 + i))
theorem nI_ne {a b : Nat} (ha : a < 2 ^ 31) (hb : b < 2 ^ 31) (h : a ≠ b) : nI a ≠ nI b := fun e => h (nI_inj ha hb e)
section AG
variable {r b v g h j : Nat → Int32} {t : Nat} {u z : Int32} {N : Nat → Nat} {W : Nat → Nat → Nat}
theorem Pos.wnfN (H : Pos r b v g h j t u z N W) {w : Nat} (hw : w < 16) : wnf r v t w = rwn r w := by
  obtain ⟨hc, hl, hp, -, -, -, -, -, ht, -, -, ho⟩ := H
  unfold wnf rwn
  by_cases h1 : over r = true
  · rw [if_pos h1, if_pos h1]
  · rw [if_neg h1, if_neg h1, ← (ho (bool_ff h1)).1]
    by_cases h2 : w / 4 = t
    · rw [if_neg (fun q => q h2), hp.cov_rcv hc hl hw, if_pos (show nI t = nI (w / 4) by rw [h2])]
    · rw [if_pos h2, if_neg (nI_ne (by omega) (by omega) (fun e => h2 e.symm))]
theorem Pos.wink (H : Pos r b v g h j t u z N W) {w k : Nat} (hw : w < 16) (hk : k < 7) : cWink r b v g t w (nI k) = aWink r w k := by
  have hwn := H.wnfN hw
  obtain ⟨hc, hl, hp, hg, -, -, -, -, ht, -, -, ho⟩ := H
  unfold cWink aWink
  rcases (show k = 0 ∨ k = 1 ∨ k = 2 ∨ k = 3 ∨ k = 4 ∨ k = 5 ∨ k = 6 by omega) with rfl | rfl | rfl | rfl | rfl | rfl | rfl
  · rfl
  · rfl
  · rfl
  · exact hp.plsN hc hl hw
  · show bI (cov v w) = bI (rcv r w)
    rw [hp.cov_rcv hc hl hw]
  · exact hg w hw
  · show nI (wnf r v t w) = nI (rwn r w)
    rw [hwn]
theorem Pos.pile (H : Pos r b v g h j t u z N W) {q k : Nat} (hq : q < 169) (hk : k < 4) : cPile r b v (nI q) (nI k) = aPile r (nI q) k := by
  obtain ⟨hc, hl, hp, -⟩ := H
  unfold cPile aPile
  rcases (show k = 0 ∨ k = 1 ∨ k = 2 ∨ k = 3 by omega) with rfl | rfl | rfl | rfl
  · rfl
  · exact hp.top_wat hc hl (by omega)
  · exact hp.bot_wat hc hl (by omega)
  · rfl
theorem Pos.tt (H : Pos r b v g h j t u z N W) {q : Nat} (hq : q < 169) : decide (top r v (nI q) = -1) = decide (hgt r (nI q) = 0) := by
  obtain ⟨hc, hl, hp, -⟩ := H
  rw [hl.topv hc (by omega), hc.hgtN (by omega)]
  by_cases h0 : N q = 0
  · rw [if_pos h0]; simp [h0]
  · rw [if_neg h0]
    have := (hc.1 q (N q - 1) (by omega)).1
    simp [nI_m1 (show W q (N q - 1) < 2 ^ 31 by omega), h0]
theorem Pos.covcN (H : Pos r b v g h j t u z N W) {k : Nat} (hk : k < 4) : covc v k = rcc r k := by
  obtain ⟨hc, hl, hp, -⟩ := H
  exact cnt_cong (fun w hw => hp.cov_rcv hc hl (by omega))
theorem ptc_n {r b v : Nat → Int32} {N : Nat → Nat} {W : Nat → Nat → Nat} (hc : Rc r N W) (hl : Rl r b v N W) (hp : Rp r N W) {k : Nat} (hk : k < 4) : ∀ n, n ≤ 4 → sm (ptw r v k) n = 3 * cnt (fun w => decide (r (4 * k + w) = -1)) n + cnt (rfr r k) n
  | 0, _ => rfl
  | n + 1, hn => by
    simp only [sm, cnt]
    rw [ptc_n hc hl hp hk n (by omega)]
    unfold ptw
    have e1 : rfr r k n = (!(decide (r (4 * k + n) = -1)) && (!(cov v (4 * k + n)) && !(decide (r (4 * k + n) = nI (bs k))))) := by
      unfold rfr pot
      rw [hp.cov_rcv hc hl (show 4 * k + n < 16 by omega)]
    rw [e1]
    by_cases h1 : r (4 * k + n) = -1
    · simp [h1]; omega
    · by_cases h2 : cov v (4 * k + n) = true
      · simp [h1, h2]
      · by_cases h3 : r (4 * k + n) = nI (bs k)
        · have h4 : nI (bs k) ≠ -1 := fun e => h1 (h3.trans e)
          simp [h2, h3, h4]
        · simp [h1, h2, h3]; omega
theorem Pos.ptcN (H : Pos r b v g h j t u z N W) {k : Nat} (hk : k < 4) : ptc r v k = rpt r k := by
  obtain ⟨hc, hl, hp, -⟩ := H
  exact ptc_n hc hl hp hk 4 (Nat.le_refl 4)
theorem Pos.othN (H : Pos r b v g h j t u z N W) {k : Nat} (hk : k < 4) : cnt (oth v k) 16 = rbl r k := by
  obtain ⟨hc, hl, hp, -⟩ := H
  exact cnt_cong (fun w hw => hp.othN hc hl hw hk)
theorem Pos.colour (H : Pos r b v g h j t u z N W) {i k : Nat} (hi : i < 4) (hk : k < 7) (h5 : k = 5 → j i = r (52 + i)) : cCol r b v h j i (nI k) = aCol r i k := by
  have h1 := H.covcN hi
  have h2 := H.ptcN hi
  have h3 := H.othN hi
  obtain ⟨-, -, -, -, hh, -⟩ := H
  unfold cCol aCol
  rcases (show k = 0 ∨ k = 1 ∨ k = 2 ∨ k = 3 ∨ k = 4 ∨ k = 5 ∨ k = 6 by omega) with rfl | rfl | rfl | rfl | rfl | rfl | rfl
  · rfl
  · show nI (covc v i) = nI (rcc r i)
    rw [h1]
  · show nI 4 - nI (potc r i) - nI (covc v i) = nI 4 - nI (potc r i) - nI (rcc r i)
    rw [h1]
  · show nI (ptc r v i) = nI (rpt r i)
    rw [h2]
  · exact hh i hi
  · exact h5 rfl
  · show nI (cnt (oth v i) 16) = nI (rbl r i)
    rw [h3]
theorem Pos.why (H : Pos r b v g h j t u z N W) {x y f d : Nat} (hx : x < 13) (hy : y < 13) (hf : 1 ≤ f) : wnl r b v t z (nI x) (nI y) f (nI d) = rwl r (13 * y + x) f d := by
  obtain ⟨hc, hl, hp, -, -, -, hz, -, ht, -, -, ho⟩ := H
  have hq : 13 * y + x < 2 ^ 31 := by omega
  have hcat : cat (nI x) (nI y) = nI (13 * y + x) := by unfold cat; rw [pk_mul, nI_add]
  have hrb : rbs (13 * y + x) d = beside (nI x) (nI y) (nI d) := by
    unfold rbs
    rw [show (13 * y + x) % 13 = x by omega, show (13 * y + x) / 13 = y by omega]
  unfold wnl rwl
  rw [hcat, hrb, hp.top_wat2 hc hl hq, hz, hl.lowN hc hq hf, hc.hgtN hq]
  by_cases h1 : over r = true
  · rw [if_pos h1, if_pos h1]
  · rw [if_neg h1, if_neg h1, (ho (bool_ff h1)).1]
    by_cases h2 : f ≤ N (13 * y + x)
    · have := (hc.1 (13 * y + x) (N (13 * y + x) - f) (by omega)).1
      rw [if_pos h2, if_neg (nI_m1 (by omega)), if_neg (show ¬ N (13 * y + x) < f by omega)]
    · rw [if_neg h2, if_pos rfl, if_pos (show N (13 * y + x) < f by omega)]
/-- the highest pile -/
def hiP (r : Nat → Int32) (N : Nat → Nat) (W : Nat → Nat → Nat) (n m : Nat) : Prop := (∀ q i, i < N q → W q i < n → i + 1 ≤ m) ∧ (m = 0 ∨ ∃ q i, i < N q ∧ W q i < n ∧ i + 1 = m)
theorem rhi_P {r : Nat → Int32} {N : Nat → Nat} {W : Nat → Nat → Nat} (hc : Rc r N W) (hp : Rp r N W) : ∀ n, n ≤ 16 → ∃ m, m ≤ 16 ∧ rhi r n = nI m ∧ hiP r N W n m
  | 0, _ => ⟨0, by omega, rfl, fun _ _ _ h => absurd h (Nat.not_lt_zero _), Or.inl rfl⟩
  | n + 1, hn => by
    obtain ⟨m, hm, e, h1, h2⟩ := rhi_P hc hp n (by omega)
    simp only [rhi]
    rw [e]
    rcases hc.2.2 n (by omega) with hpot | ⟨q, i, hi, hw⟩
    · rw [hp.2 n (by omega) hpot]
      have e0 : (-1 : Int32) + nI 1 = nI 0 := by decide
      rw [e0, if_pos (nI_le (Nat.zero_le m) (by omega))]
      refine ⟨m, hm, rfl, fun q i hi hlt => ?_, ?_⟩
      · refine h1 q i hi ?_
        by_cases e9 : W q i = n
        · exact (hc.no hi e9 hpot).elim
        · omega
      · rcases h2 with h2 | ⟨q, i, g1, g2, g3⟩
        · exact Or.inl h2
        · exact Or.inr ⟨q, i, g1, by omega, g3⟩
    · have hil := hc.i hi
      rw [← hw, hp.1 q i hi, nI_add]
      by_cases hle : i + 1 ≤ m
      · rw [if_pos (nI_le hle (by omega))]
        refine ⟨m, hm, rfl, fun q' i' hi' hlt => ?_, ?_⟩
        · by_cases e9 : W q' i' = n
          · obtain ⟨rfl, rfl⟩ := hc.one hi' hi (e9.trans hw.symm)
            exact hle
          · exact h1 q' i' hi' (by omega)
        · rcases h2 with h2 | ⟨q', i', g1, g2, g3⟩
          · exact Or.inl h2
          · exact Or.inr ⟨q', i', g1, by omega, g3⟩
      · rw [if_neg (fun e9 => hle ((nI_leI (by omega) (by omega)).mp e9))]
        refine ⟨i + 1, by omega, rfl, fun q' i' hi' hlt => ?_, Or.inr ⟨q, i, hi, by omega, rfl⟩⟩
        by_cases e9 : W q' i' = n
        · obtain ⟨rfl, rfl⟩ := hc.one hi' hi (e9.trans hw.symm)
          exact Nat.le_refl _
        · have := h1 q' i' hi' (by omega)
          omega
theorem mxi_P {r b v : Nat → Int32} {N : Nat → Nat} {W : Nat → Nat → Nat} (hc : Rc r N W) (hl : Rl r b v N W) : ∀ n, n ≤ 16 → ∃ m, m ≤ 16 ∧ mxi (bot r b) (fun i => nI (hgt r (r i))) n = nI m ∧ (∀ q, 0 < N q → W q 0 < n → N q ≤ m) ∧ (m = 0 ∨ ∃ q, 0 < N q ∧ W q 0 < n ∧ N q = m)
  | 0, _ => ⟨0, by omega, rfl, fun _ _ h => absurd h (Nat.not_lt_zero _), Or.inl rfl⟩
  | n + 1, hn => by
    obtain ⟨m, hm, e, h1, h2⟩ := mxi_P hc hl n (by omega)
    simp only [mxi]
    have hb : bot r b n = true ↔ ∃ q, 0 < N q ∧ W q 0 = n := by
      unfold bot
      rcases hc.2.2 n (by omega) with hpot | ⟨q, i, hi, hw⟩
      · rw [hpot]
        simp only [decide_true, Bool.not_true, Bool.false_and]
        exact ⟨fun h => (by cases h), fun ⟨q, g1, g2⟩ => (hc.no g1 g2 hpot).elim⟩
      · have hne : r n ≠ -1 := fun e9 => hc.no hi hw e9
        rw [← hw, hl.1 q i hi]
        by_cases h0 : i = 0
        · subst h0
          rw [if_pos rfl, hw]
          simp only [hne, decide_false, Bool.not_false, Bool.true_and, decide_true, true_iff]
          exact ⟨q, hi, hw⟩
        · have := (hc.1 q (i - 1) (by omega)).1
          rw [if_neg h0, hw]
          simp only [hne, decide_false, Bool.not_false, Bool.true_and, nI_m1 (show W q (i - 1) < 2 ^ 31 by omega), Bool.false_eq_true, false_iff]
          rintro ⟨q', g1, g2⟩
          obtain ⟨-, g4⟩ := hc.one hi g1 (hw.trans g2.symm)
          exact h0 g4
    by_cases hbt : bot r b n = true
    · obtain ⟨q, g1, g2⟩ := hb.mp hbt
      have hle := hc.le (q := q) (by have := hc.q g1; omega)
      rw [if_pos hbt, e]
      have e3 : hgt r (r n) = N q := by rw [← g2, (hc.1 q 0 g1).2.2.2]; exact hc.hgtN (by have := hc.q g1; omega)
      rw [e3]
      unfold imax
      by_cases hlt : m < N q
      · rw [if_pos (nI_lt hlt (by omega))]
        refine ⟨N q, hle, rfl, fun q' g3 g4 => ?_, Or.inr ⟨q, g1, by omega, rfl⟩⟩
        by_cases e9 : W q' 0 = n
        · obtain ⟨rfl, -⟩ := hc.one g3 g1 (e9.trans g2.symm)
          exact Nat.le_refl _
        · have := h1 q' g3 (by omega)
          omega
      · rw [if_neg (nI_nlt (by omega) (by omega))]
        refine ⟨m, hm, rfl, fun q' g3 g4 => ?_, ?_⟩
        · by_cases e9 : W q' 0 = n
          · obtain ⟨rfl, -⟩ := hc.one g3 g1 (e9.trans g2.symm)
            omega
          · exact h1 q' g3 (by omega)
        · rcases h2 with h2 | ⟨q', g3, g4, g5⟩
          · exact Or.inl h2
          · exact Or.inr ⟨q', g3, by omega, g5⟩
    · rw [if_neg hbt, e]
      refine ⟨m, hm, rfl, fun q' g3 g4 => ?_, ?_⟩
      · by_cases e9 : W q' 0 = n
        · exact absurd (hb.mpr ⟨q', g3, e9⟩) hbt
        · exact h1 q' g3 (by omega)
      · rcases h2 with h2 | ⟨q', g3, g4, g5⟩
        · exact Or.inl h2
        · exact Or.inr ⟨q', g3, by omega, g5⟩
theorem Pos.high (H : Pos r b v g h j t u z N W) : mxi (bot r b) (fun i => nI (hgt r (r i))) 16 = rhi r 16 := by
  obtain ⟨hc, hl, hp, -⟩ := H
  obtain ⟨m1, k1, e1, a1, a2⟩ := mxi_P hc hl 16 (Nat.le_refl _)
  obtain ⟨m2, k2, e2, b1, b2⟩ := rhi_P hc hp 16 (Nat.le_refl _)
  rw [e1, e2]
  have hm : m1 = m2 := by
    apply Nat.le_antisymm
    · rcases a2 with rfl | ⟨q, g1, -, g3⟩
      · exact Nat.zero_le _
      · have := b1 q (N q - 1) (by omega) (hc.1 q _ (by omega)).1
        omega
    · rcases b2 with rfl | ⟨q, i, g1, -, g3⟩
      · exact Nat.zero_le _
      · have := a1 q (by omega) (hc.1 q 0 (by omega)).1
        omega
  rw [hm]
end AG
