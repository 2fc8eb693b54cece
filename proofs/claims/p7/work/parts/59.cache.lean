/-! the class's cache of fewest flights, and the two digests -/
theorem fwr_un {w q n m : Nat} (h1 : fwr w q n) (h2 : fwr w q m) : n = m := by
  rcases h1 with ⟨rfl, a⟩ | ⟨rfl, a, -⟩ <;> rcases h2 with ⟨rfl, b⟩ | ⟨rfl, b, -⟩
  · rfl
  · exact absurd a b
  · exact absurd b a
  · rfl
theorem stp_sz {w w' : Nat} (h : w % 4 < 2 ↔ w' % 4 < 2) (f : Nat) : stp w f = stp w' f := by
  unfold stp
  by_cases h1 : w % 4 < 2
  · rw [if_pos h1, if_pos (h.mp h1)]
  · rw [if_neg h1, if_neg (fun q => h1 (h.mpr q))]
theorem fwr_sz {w w' q n : Nat} (h : w % 4 < 2 ↔ w' % 4 < 2) (hf : fwr w q n) : fwr w' q n := by
  have e : ∀ c k, ldk w c k = ldk w' c k := fun c k => by unfold ldk; rw [stp_sz h]
  have e2 : ∀ c, dirp w c ↔ dirp w' c := fun c => by
    unfold dirp
    constructor
    · rintro ⟨k, h1, h2⟩; exact ⟨k, h1, by rw [← e]; exact h2⟩
    · rintro ⟨k, h1, h2⟩; exact ⟨k, h1, by rw [e]; exact h2⟩
  unfold fwr at *
  rcases hf with ⟨h1, h2⟩ | ⟨h1, h2, k, c1, h3, h4, h5, h6⟩
  · exact Or.inl ⟨h1, (e2 _).mp h2⟩
  · exact Or.inr ⟨h1, fun q => h2 ((e2 _).mpr q), k, c1, h3, h4, by rw [← e]; exact h5, (e2 _).mp h6⟩
abbrev kix (w q : Nat) : Nat := if decide (w % 4 < 2) = true then q else 169 + q
def KNa (a : Nat → Int32) : Prop := ∀ w q, w < 16 → q < 169 → a (kix w q) = 0 ∨ ∃ n, fwr w q n ∧ a (kix w q) = nI n
theorem KNa_0 {a : Nat → Int32} (h : ∀ i, i < 338 → a i = 0) : KNa a := fun w q _ hq => Or.inl (h _ (by unfold kix; split <;> omega))
theorem big_m (w : Nat) : (if decide (w % 4 < 2) = true then 0 else 1) = big w := by
  unfold big
  by_cases h : w % 4 < 2 <;> simp [h]
theorem few_ok {a d qq : Nat → Int32} {w q : Nat} (hK : KNa a) (hw : w < 16) (hq : q < 169) : ∃ n, fwr w q n ∧ (few a d qq q (decide (w % 4 < 2))).1 (kix w q) = nI n ∧ KNa (few a d qq q (decide (w % 4 < 2))).1 := by
  obtain ⟨n, hn⟩ := fwr_all w hq
  unfold few
  by_cases h0 : a (kix w q) = 0
  · rw [if_pos h0]
    have hs : (sea qq q (if decide (w % 4 < 2) = true then 0 else 1)).1 = nI n := sea_n w n (big_m w) hq hn
    refine ⟨n, hn, ?_, ?_⟩
    · show upd a (kix w q) _ (kix w q) = nI n
      rw [hs]
      exact upd_at9
    · intro w' q' hw' hq'
      show upd a (kix w q) _ (kix w' q') = 0 ∨ _
      by_cases e : kix w' q' = kix w q
      · have e3 : q' = q ∧ (w' % 4 < 2 ↔ w % 4 < 2) := by
          unfold kix at e
          by_cases g1 : w' % 4 < 2 <;> by_cases g2 : w % 4 < 2 <;> simp [g1, g2] at e ⊢ <;> omega
        refine Or.inr ⟨n, ?_, ?_⟩
        · rw [e3.1]; exact fwr_sz e3.2.symm hn
        · show upd a (kix w q) _ (kix w' q') = nI n
          rw [e, hs]
          exact upd_at9
      · rw [upd_ne9 e]
        rcases hK w' q' hw' hq' with g | ⟨n', g1, g2⟩
        · exact Or.inl g
        · refine Or.inr ⟨n', g1, ?_⟩
          show upd a (kix w q) _ (kix w' q') = nI n'
          rw [upd_ne9 e]; exact g2
  · rw [if_neg h0]
    rcases hK w q hw hq with g | ⟨n', g1, g2⟩
    · exact absurd g h0
    · exact ⟨n', g1, g2, hK⟩
theorem cRo_kn {r : Nat → Int32} {s : RSt} (hK : KNa s.1) (hc : ∀ w, w < 16 → pot r w = false → ix (r w) < 169) : ∀ w, w ≤ 16 → KNa (cRo r s w).1
  | 0, _ => hK
  | w + 1, h => by
    have ih := cRo_kn hK hc w (by omega)
    by_cases hp : pot r w = true
    · rw [cRo_p hp]; exact ih
    · have hp : pot r w = false := by simpa using hp
      rw [cRo_n hp]
      obtain ⟨n, -, -, h3⟩ := few_ok (d := (cRo r s w).2.1) (qq := (cRo r s w).2.2) ih (show w < 16 by omega) (hc w (by omega) hp)
      exact h3
theorem cFv_ok {r : Nat → Int32} {s : RSt} {nf : Nat → Nat} (hK : KNa s.1) (hnf : rNF r nf) {w : Nat} (hw : w < 16) : cFv r s w = rF9 r nf w := by
  unfold cFv rF9
  by_cases hp : pot r w = true
  · rw [if_pos hp, if_pos hp]
  · rw [if_neg hp, if_neg hp]
    have hp : pot r w = false := by simpa using hp
    obtain ⟨h1, h2, h3, h4⟩ := hnf w hw hp
    obtain ⟨n, g1, g2, -⟩ := few_ok (d := (cRo r s w).2.1) (qq := (cRo r s w).2.2) (cRo_kn hK (fun w' hw' hp' => (hnf w' hw' hp').2.1) w (by omega)) hw h2
    rw [fwr_un h4 g1]
    exact g2
theorem fo_congr {A B : Nat → Int32} {x : Int64} : ∀ n : Nat, (∀ k, k < n → A k = B k) → fo A n x = fo B n x
  | 0, _ => rfl
  | n + 1, h => by rw [fo, fo, fo_congr n (fun k hk => h k (by omega)), h n (by omega)]
theorem fo2_congr {A B : Nat → Nat → Int32} {n : Nat} {x : Int64} : ∀ m : Nat, (∀ i, i < m → ∀ k, k < n → A i k = B i k) → fo2 A n m x = fo2 B n m x
  | 0, _ => rfl
  | m + 1, h => by rw [fo2, fo2, fo2_congr m (fun i hi => h i (by omega)), fo_congr n (h m (by omega))]
theorem foP_congr {T U : Nat → Bool} {A B : Nat → Nat → Int32} {n : Nat} {x : Int64} : ∀ m : Nat, (∀ i, i < m → T i = U i) → (∀ i, i < m → T i = false → ∀ k, k < n → A i k = B i k) → foP T A n m x = foP U B n m x
  | 0, _, _ => rfl
  | m + 1, h, h2 => by
    have ih := foP_congr (x := x) m (fun i hi => h i (by omega)) (fun i hi => h2 i (by omega))
    have e := h m (by omega)
    by_cases ht : T m = true
    · rw [foP, foP, if_pos ht, if_pos (by rw [← e]; exact ht), ih]
    · have hf : T m = false := by simpa using ht
      rw [foP, foP, if_neg ht, if_neg (by rw [← e]; exact ht), ih, fo_congr n (h2 m (by omega) hf)]
theorem cwD_eq {r b v g : Nat → Int32} {t : Nat} {s : RSt} {nf : Nat → Nat} {h : Int64} (hK : KNa s.1) (hnf : rNF r nf) (hW : ∀ w, w < 16 → ∀ k, k < 7 → cWink r b v g t w (nI k) = aWink r w k) : ∀ w, w ≤ 16 → cwD r b v g t s w h = rwD r nf w h
  | 0, _ => rfl
  | w + 1, hw => by
    have ih := cwD_eq (h := h) hK hnf hW w (by omega)
    rw [cwD, rwD, ih, fo_congr 7 (hW w (by omega)), cFv_ok hK hnf (by omega)]
    rfl
theorem rNF_of {r : Nat → Int32} (h : ∀ w, w < 16 → pot r w = false → ∃ q, q < 169 ∧ q ≠ 84 ∧ r w = nI q) : ∃ nf, rNF r nf := by
  have hx : ∀ w, ∃ n, w < 16 → pot r w = false → fwr w (ix (r w)) n := by
    intro w
    by_cases hc : w < 16 ∧ pot r w = false
    · obtain ⟨q, h1, -, h3⟩ := h w hc.1 hc.2
      obtain ⟨n, hn⟩ := fwr_all w h1
      exact ⟨n, fun _ _ => by rw [h3]; show fwr w (nI q).toNatClampNeg n; rw [nI_clamp (by omega)]; exact hn⟩
    · exact ⟨0, fun h1 h2 => absurd ⟨h1, h2⟩ hc⟩
  refine ⟨fun w => Classical.choose (hx w), fun w hw hp => ?_⟩
  obtain ⟨q, h1, h2, h3⟩ := h w hw hp
  have e : ix (r w) = q := by rw [h3]; exact nI_clamp (by omega)
  exact ⟨by rw [e]; exact h3, by rw [e]; exact h1, by rw [e]; exact h2, Classical.choose_spec (hx w) hw hp⟩
