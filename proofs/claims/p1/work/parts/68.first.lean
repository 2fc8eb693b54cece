/-! the first state: what a program decides -/
theorem rw_c : ∀ w, w < 16 → mC 16 w = row0 w := by decide +kernel
theorem fd_wink : ∀ w, w < 16 → ∀ k, k < 7 → cWink row0 (mB 16) (mV 16) z0 0 w (nI k) = aWink row0 w k := by decide +kernel
theorem fd_pile : ∀ q, q < 169 → ∀ k, k < 4 → cPile row0 (mB 16) (mV 16) (nI q) (nI k) = aPile row0 (nI q) k := by decide +kernel
theorem fd_col : ∀ i, i < 4 → ∀ k, k < 7 → cCol row0 (mB 16) (mV 16) z0 z0 i (nI k) = aCol row0 i k := by decide +kernel
theorem fd_cnt : ∀ k, k < 14 → cCnt row0 (mB 16) (mV 16) z0 z0 0 (nI 0) (nI 3) 0 (nI k) = aNum row0 0 k := by decide +kernel
theorem fd_low : ∀ q, q < 169 → ∀ f, f < 7 → 1 ≤ f → (low row0 (mB 16) (mV 16) (nI q) f = -1 ↔ hgt row0 (nI q) < f) := by decide +kernel
theorem fd_top : ∀ q, q < 169 → top row0 (mV 16) (nI q) = wat row0 (nI q) (nI (hgt row0 (nI q) - 1)) := by decide +kernel
theorem fd_wnf : ∀ w, w < 16 → wnf row0 (mV 16) 0 w = rwn row0 w := by decide +kernel
theorem fd_rwn : ∀ w, w < 16 → rwn row0 w = 0 → w = 3 := by decide +kernel
theorem fd_over : over row0 = false := by decide +kernel
theorem fd_rpl : cnt (bot row0 (mB 16)) 16 = rpl row0 := by decide +kernel
theorem fd_cov : ∀ w, w < 16 → cov (mV 16) w = rcv row0 w := by decide +kernel
theorem fd_hgt : ∀ q, q < 169 → 1 ≤ hgt row0 (nI q) → wat row0 (nI q) (nI (hgt row0 (nI q) - 1)) / nI 4 = row0 56 → q = 0 := by decide +kernel
theorem fd_56 : row0 56 = nI 0 ∧ row0 57 = nI 3 := by decide +kernel
theorem fd_lift : ∀ f, f < 4 → 1 ≤ f → ∀ d, d < 8 → beside (nI 0) (nI 0) (nI d) ≠ -1 → hgt (liC row0 (mB 16) (mV 16) (nI 0) (nI 0) f (nI d)) (nI 0) = hgt row0 (nI 0) - f := by decide +kernel
theorem fd_h0 : hgt row0 (nI 0) = 4 := by decide +kernel
