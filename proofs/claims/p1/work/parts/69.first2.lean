theorem fd_if : ∀ d, d < 8 → ∀ f, f < 10 → 1 ≤ f → ∀ a, a < 2 → cIf row0 (mB 16) (mV 16) 3 (nI d) f (nI a) = aBr row0 3 d f a := by decide +kernel
theorem fd_put : ∀ w, w < 16 → w % 4 = 3 → ∀ q, q < 169 → hgt (mov1 row0 (mB 16) (mV 16) w (nI q)) (nI q) = hgt (rly row0 w (nI q)) (nI q) := by decide +kernel
theorem fd_unc : ∀ w, w < 16 → cov (mV 16) w = false → w % 4 = 3 := by decide +kernel
theorem fd_li : ∀ n, n < 4 → ∀ d, d < 8 → ∀ k, k < n → wk (wat (rlf row0 0 n d k) (nI 0) (nI (hgt row0 (nI 0) - n + k))) = true := by decide +kernel
theorem fd_lo : ∀ i, i < 4 → row0 (52 + i) = nI 0 := by decide +kernel
theorem fd_c9 : ∀ w, w < 16 → row0 w = nI (bs (w / 4)) := by decide +kernel
