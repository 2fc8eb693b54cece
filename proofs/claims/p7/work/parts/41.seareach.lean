def tof (m : Nat) (cell : Int32) (f : Nat) : Int32 := ldg cell (nI (f / 9)) (f % 9 + 1 + m)
theorem srI_cases (m : Nat) (cell : Int32) (i f : Nat) (d q : Nat → Int32) (n : Nat) :
    (tof m cell f = nI 84 ∧ srI m cell (i + 1) f d q n = (some (d (ix cell) + nI 1), d, q, n)) ∨
    (tof m cell f ≠ nI 84 ∧ (tof m cell f = -1 ∨ d (ix (tof m cell f)) ≠ -1 ∨ ¬ n < 169) ∧ srI m cell (i + 1) f d q n = srI m cell i (f + 1) d q n) ∨
    (tof m cell f ≠ nI 84 ∧ tof m cell f ≠ -1 ∧ d (ix (tof m cell f)) = -1 ∧ n < 169 ∧ srI m cell (i + 1) f d q n = srI m cell i (f + 1) (upd d (ix (tof m cell f)) (d (ix cell) + nI 1)) (upd q n (tof m cell f)) (n + 1)) := by
  unfold tof
  by_cases h1 : ldg cell (nI (f / 9)) (f % 9 + 1 + m) = nI 84
  · exact Or.inl ⟨h1, by simp only [srI]; rw [if_pos h1]⟩
  · refine Or.inr ?_
    by_cases h2 : ldg cell (nI (f / 9)) (f % 9 + 1 + m) = -1
    · exact Or.inl ⟨h1, Or.inl h2, by simp only [srI]; rw [if_neg h1, if_pos h2]⟩
    · by_cases h3 : d (ix (ldg cell (nI (f / 9)) (f % 9 + 1 + m))) = -1
      · by_cases h4 : n < 169
        · exact Or.inr ⟨h1, h2, h3, h4, by simp only [srI]; rw [if_neg h1, if_neg h2, if_neg (fun h9 => h9 h3), if_neg (fun h9 => h9 h4)]⟩
        · exact Or.inl ⟨h1, Or.inr (Or.inr h4), by simp only [srI]; rw [if_neg h1, if_neg h2, if_neg (fun h9 => h9 h3), if_pos h4]⟩
      · exact Or.inl ⟨h1, Or.inr (Or.inl h3), by simp only [srI]; rw [if_neg h1, if_neg h2, if_pos h3]⟩
theorem srI_some {m : Nat} {cell : Int32} : ∀ (i f : Nat) (d q : Nat → Int32) (n : Nat), d (ix cell) ≠ -1 → (∃ f', f ≤ f' ∧ f' < f + i ∧ tof m cell f' = nI 84) → (srI m cell i f d q n).1 = some (d (ix cell) + nI 1)
  | 0, f, _, _, _, _, ⟨f', h1, h2, _⟩ => by omega
  | i + 1, f, d, q, n, hd, ⟨f', h1, h2, h3⟩ => by
    rcases srI_cases m cell i f d q n with ⟨-, e⟩ | ⟨a, -, e⟩ | ⟨a, -, b, -, e⟩
    · rw [e]
    · rw [e]
      exact srI_some i (f + 1) d q n hd ⟨f', by rcases Nat.lt_or_ge f f' with h | h; exact h; exact absurd (by rw [show f = f' by omega]; exact h3) a, by omega, h3⟩
    · rw [e, srI_some i (f + 1) _ _ _ (by rw [upd_ne9 (fun h9 => hd (by rw [h9]; exact b))]; exact hd) ⟨f', by rcases Nat.lt_or_ge f f' with h | h; exact h; exact absurd (by rw [show f = f' by omega]; exact h3) a, by omega, h3⟩, upd_ne9 (fun h9 => hd (by rw [h9]; exact b))]
theorem srI_keep {m : Nat} {cell : Int32} : ∀ (i f : Nat) (d q : Nat → Int32) (n : Nat), (∀ f', f ≤ f' → f' < f + i → tof m cell f' ≠ nI 84) →
    (srI m cell i f d q n).1 = none ∧ (∀ x, d x ≠ -1 → (srI m cell i f d q n).2.1 x = d x) ∧ (∀ j, j < n → (srI m cell i f d q n).2.2.1 j = q j) ∧ n ≤ (srI m cell i f d q n).2.2.2
  | 0, _, _, _, _, _ => ⟨rfl, fun _ _ => rfl, fun _ _ => rfl, Nat.le_refl _⟩
  | i + 1, f, d, q, n, h => by
    rcases srI_cases m cell i f d q n with ⟨a, -⟩ | ⟨-, -, e⟩ | ⟨-, -, b, -, e⟩
    · exact absurd a (h f (Nat.le_refl f) (by omega))
    · rw [e]
      exact srI_keep i (f + 1) d q n (fun f' h1 h2 => h f' (by omega) (by omega))
    · rw [e]
      obtain ⟨k1, k2, k3, k4⟩ := srI_keep i (f + 1) (upd d (ix (tof m cell f)) (d (ix cell) + nI 1)) (upd q n (tof m cell f)) (n + 1) (fun f' h1 h2 => h f' (by omega) (by omega))
      refine ⟨k1, fun x hx => ?_, fun j hj => ?_, by omega⟩
      · have hne : x ≠ ix (tof m cell f) := fun h9 => hx (by rw [h9]; exact b)
        rw [k2 x (by rw [upd_ne9 hne]; exact hx), upd_ne9 hne]
      · rw [k3 j (by omega), upd_ne9 (by omega)]
/-- what is new in the queue, and what is reached -/
theorem srI_new {m : Nat} {cell : Int32} (hc : cell9 cell) : ∀ (i f : Nat) (d q : Nat → Int32) (n : Nat), d (ix cell) = nI 0 → n + i ≤ 169 → (∀ f', f ≤ f' → f' < f + i → tof m cell f' ≠ nI 84) → (∀ j, 1 ≤ j → j < n → ∃ x, x < 169 ∧ q j = nI x ∧ d x = nI 1) → (∀ x, x < 169 → d x ≠ -1 → x = ix cell ∨ ∃ j, 1 ≤ j ∧ j < n ∧ q j = nI x) → 1 ≤ n →
    (∀ j, 1 ≤ j → j < (srI m cell i f d q n).2.2.2 → ∃ x, x < 169 ∧ (srI m cell i f d q n).2.2.1 j = nI x ∧ (srI m cell i f d q n).2.1 x = nI 1) ∧ (srI m cell i f d q n).2.2.2 ≤ n + i ∧
    (∀ f' c1, f ≤ f' → f' < f + i → c1 < 169 → tof m cell f' = nI c1 → c1 = ix cell ∨ ∃ j, 1 ≤ j ∧ j < (srI m cell i f d q n).2.2.2 ∧ (srI m cell i f d q n).2.2.1 j = nI c1)
  | 0, f, d, q, n, _, _, _, hq, _, _ => ⟨hq, Nat.le_refl _, fun f' c1 h1 h2 => by omega⟩
  | i + 1, f, d, q, n, h0, hn, h, hq, hr, h1n => by
    have hk := fun f' (h1 : f + 1 ≤ f') (h2 : f' < f + 1 + i) => h f' (by omega) (by omega)
    rcases srI_cases m cell i f d q n with ⟨a, -⟩ | ⟨-, b, e⟩ | ⟨-, b1, b2, b3, e⟩
    · exact absurd a (h f (Nat.le_refl f) (by omega))
    · rw [e]
      obtain ⟨r1, r2, r3⟩ := srI_new hc i (f + 1) d q n h0 (by omega) hk hq hr h1n
      refine ⟨r1, by omega, fun f' c1 h1 h2 h3 h4 => ?_⟩
      by_cases ef : f' = f
      · rw [ef] at h4
        rcases b with b | b | b
        · rw [h4] at b; exact absurd b (nI_ne_m1 h3)
        · rw [h4, nI84 h3] at b
          rcases hr c1 h3 b with hx | ⟨j, g1, g2, g3⟩
          · exact Or.inl hx
          · obtain ⟨-, -, k3, k4⟩ := srI_keep i (f + 1) d q n hk
            exact Or.inr ⟨j, g1, by omega, by rw [k3 j g2]; exact g3⟩
        · omega
      · exact r3 f' c1 (by omega) (by omega) h3 h4
    · rw [e]
      obtain ⟨y, hy, ey⟩ := (ldg_cell hc (nI (f / 9)) (f % 9 + 1 + m)).resolve_left b1
      have ey : tof m cell f = nI y := ey
      rw [ey, nI84 hy] at b2 ⊢
      have hyc : ix cell ≠ y := fun h9 => by rw [← h9, h0] at b2; exact absurd b2 (by decide)
      have v1 : d (ix cell) + nI 1 = nI 1 := by rw [h0]; decide
      rw [v1]
      have hq' : ∀ j, 1 ≤ j → j < n + 1 → ∃ x, x < 169 ∧ upd q n (nI y) j = nI x ∧ upd d y (nI 1) x = nI 1 := fun j g1 g2 => by
        by_cases ej : j = n
        · exact ⟨y, hy, by rw [ej, upd_at9], upd_at9⟩
        · obtain ⟨x, u1, u2, u3⟩ := hq j g1 (by omega)
          refine ⟨x, u1, by rw [upd_ne9 ej]; exact u2, ?_⟩
          by_cases ex : x = y
          · rw [ex, upd_at9]
          · rw [upd_ne9 ex]; exact u3
      have hr' : ∀ x, x < 169 → upd d y (nI 1) x ≠ -1 → x = ix cell ∨ ∃ j, 1 ≤ j ∧ j < n + 1 ∧ upd q n (nI y) j = nI x := fun x hx h9 => by
        by_cases ex : x = y
        · exact Or.inr ⟨n, h1n, by omega, by rw [upd_at9, ex]⟩
        · rw [upd_ne9 ex] at h9
          rcases hr x hx h9 with g | ⟨j, g1, g2, g3⟩
          · exact Or.inl g
          · exact Or.inr ⟨j, g1, by omega, by rw [upd_ne9 (by omega)]; exact g3⟩
      obtain ⟨r1, r2, r3⟩ := srI_new hc i (f + 1) (upd d y (nI 1)) (upd q n (nI y)) (n + 1) (by rw [upd_ne9 hyc]; exact h0) (by omega) hk hq' hr' (by omega)
      refine ⟨r1, by omega, fun f' c1 h1 h2 h3 h4 => ?_⟩
      by_cases ef : f' = f
      · rw [ef, ey] at h4
        obtain ⟨-, -, k3, k4⟩ := srI_keep i (f + 1) (upd d y (nI 1)) (upd q n (nI y)) (n + 1) hk
        exact Or.inr ⟨n, h1n, by omega, by rw [k3 n (by omega), upd_at9]; exact h4⟩
      · exact r3 f' c1 (by omega) (by omega) h3 h4
/-- the second level -/
theorem srO_2 {m : Nat} : ∀ (t i k : Nat) (d q : Nat → Int32) (n J : Nat), J = k + t → t < i → J < n → J < 169 → (∀ j, k ≤ j → j ≤ J → ∃ x, x < 169 ∧ q j = nI x ∧ d x = nI 1) → (∃ f, f < 72 ∧ tof m (q J) f = nI 84) → (srO m i k d q n).1 = nI 2
  | t, 0, _, _, _, _, _, _, h, _, _, _, _ => absurd h (Nat.not_lt_zero t)
  | t, i + 1, k, d, q, n, J, hJ, hi, hn, h9, hq, hf => by
    obtain ⟨x, hx, ex, dx⟩ := hq k (Nat.le_refl k) (by omega)
    have hdk : d (ix (q k)) = nI 1 := by rw [ex, nI84 hx]; exact dx
    by_cases hh : ∃ f, f < 72 ∧ tof m (q k) f = nI 84
    · obtain ⟨f, h1, h2⟩ := hh
      have e := srI_some (m := m) (cell := q k) 72 0 d q n (by rw [hdk]; decide) ⟨f, Nat.zero_le f, by omega, h2⟩
      simp only [srO]
      rw [if_neg (fun h => h ⟨by omega, by omega⟩), e]
      show d (ix (q k)) + nI 1 = nI 2
      rw [hdk]
      decide
    · have hno : ∀ f', 0 ≤ f' → f' < 0 + 72 → tof m (q k) f' ≠ nI 84 := fun f' _ h2 h3 => hh ⟨f', by omega, h3⟩
      obtain ⟨e, k2, k3, k4⟩ := srI_keep (m := m) (cell := q k) 72 0 d q n hno
      simp only [srO]
      rw [if_neg (fun h => h ⟨by omega, by omega⟩), e]
      have ht : t ≠ 0 := fun h => hh (by rw [show k = J by omega]; exact hf)
      exact srO_2 (t - 1) i (k + 1) _ _ _ J (by omega) (by omega) (by omega) h9 (fun j g1 g2 => by
        obtain ⟨x, u1, u2, u3⟩ := hq j (by omega) g2
        exact ⟨x, u1, by rw [k3 j (by omega)]; exact u2, by rw [k2 x (by rw [u3]; decide)]; exact u3⟩) (by rw [k3 J hn]; exact hf)
theorem srO_s1 {m i k n : Nat} {d q : Nat → Int32} {r : Int32} (h1 : k < n) (h2 : k < 169) (e : (srI m (q k) 72 0 d q n).1 = some r) : (srO m (i + 1) k d q n).1 = r := by
  simp only [srO]
  rw [if_neg (fun h => h ⟨h1, h2⟩), e]
theorem srO_n1 {m i k n : Nat} {d q : Nat → Int32} (h1 : k < n) (h2 : k < 169) (e : (srI m (q k) 72 0 d q n).1 = none) : (srO m (i + 1) k d q n).1 = (srO m i (k + 1) (srI m (q k) 72 0 d q n).2.1 (srI m (q k) 72 0 d q n).2.2.1 (srI m (q k) 72 0 d q n).2.2.2).1 := by
  simp only [srO]
  rw [if_neg (fun h => h ⟨h1, h2⟩), e]
theorem sea_n {q : Nat → Int32} {c m : Nat} (w n : Nat) (hm : m = big w) (hc : c < 169) (hfw : fwr w c n) : (sea q c m).1 = nI n := by
  have tl : ∀ x f, tof m (nI x) f = ldk w x f := fun x f => by rw [ldk_ldm, hm]; rfl
  have q0 : upd q 0 (nI c) 0 = nI c := upd_at9
  have d0 : srD c (ix (nI c)) = nI 0 := by rw [nI84 hc]; exact upd_at9
  have sp : sea q c m = srO m (169 + 1) 0 (srD c) (upd q 0 (nI c)) 1 := rfl
  rw [sp]
  rcases hfw with ⟨rfl, f, h1, h2⟩ | ⟨rfl, hnd, f, c1, h1, h2, h3, f2, h4, h5⟩
  · have e := srI_some (m := m) (cell := nI c) 72 0 (srD c) (upd q 0 (nI c)) 1 (by rw [d0]; decide) ⟨f, Nat.zero_le f, by omega, by rw [tl]; exact h2⟩
    rw [srO_s1 (by decide) (by decide) (by rw [q0]; exact e), d0]
    decide
  · have hno : ∀ f', 0 ≤ f' → f' < 0 + 72 → tof m (nI c) f' ≠ nI 84 := fun f' _ g2 g3 => hnd ⟨f', by omega, by rw [← tl]; exact g3⟩
    obtain ⟨e, -, -, -⟩ := srI_keep (m := m) (cell := nI c) 72 0 (srD c) (upd q 0 (nI c)) 1 hno
    obtain ⟨r1, r2, r3⟩ := srI_new (m := m) (cell := nI c) ⟨c, hc, rfl⟩ 72 0 (srD c) (upd q 0 (nI c)) 1 d0 (by decide) hno (fun j g1 g2 => by omega) (fun x hx h9 => by
      by_cases ex : x = c
      · exact Or.inl (by rw [nI84 hc]; exact ex)
      · exact absurd (by unfold srD; rw [upd_ne9 ex]) h9) (Nat.le_refl 1)
    rw [srO_n1 (by decide) (by decide) (by rw [q0]; exact e), q0]
    rcases r3 f c1 (Nat.zero_le f) (by omega) h2 (by rw [tl]; exact h3) with g | ⟨j, g1, g2, g3⟩
    · exfalso
      rw [nI84 hc] at g
      rw [g] at h5
      exact hnd ⟨f2, h4, h5⟩
    · exact srO_2 (j - 1) 169 1 _ _ _ j (by omega) (by omega) g2 (by omega) (fun j' u1 u2 => r1 j' u1 (by omega)) ⟨f2, h4, by rw [g3, tl]; exact h5⟩
