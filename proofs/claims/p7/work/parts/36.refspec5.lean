theorem rpl_le (r : Nat → Int32) : rpl r ≤ 16 := cnt_le _ 16
theorem potn_cong {f g : Nat → Int32} (h : ∀ i, i < 16 → f i = g i) : potn f = potn g := by
  have e : ∀ k, k < 4 → potc f k = potc g k := fun k hk => cnt_cong (fun w hw => by rw [h _ (by omega)])
  simp only [potn, sm]
  rw [e 0 (by decide), e 1 (by decide), e 2 (by decide), e 3 (by decide)]
theorem potn_cp {f g : Nat → Int32} : potn (cp9 f g 0 60) = potn g := potn_cong (fun i hi => cp9_lo (by omega))
