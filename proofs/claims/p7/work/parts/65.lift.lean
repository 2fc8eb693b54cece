/-! the lift, on both sides -/
theorem rbs_all : ∀ q, q < 169 → ∀ d, d < 8 → rbs q d = -1 ∨ (ix (rbs q d) < 169 ∧ ix (rbs q d) ≠ q ∧ rbs q d = nI (ix (rbs q d))) := by decide +kernel
section LF
variable {r b v : Nat → Int32} {N : Nat → Nat} {W : Nat → Nat → Nat} {q0 f d q1 : Nat}
def LA (r : Nat → Int32) (N : Nat → Nat) (W : Nat → Nat → Nat) (q0 f q1 : Nat) (R : Nat → Int32) (k : Nat) : Prop :=
  (∀ x, (∀ j, j < f → x ≠ W q0 (N q0 - f + j) ∧ x ≠ 16 + W q0 (N q0 - f + j)) → R x = r x) ∧
  (∀ j, j < k → R (W q0 (N q0 - f + j)) = (if q1 = 84 then -1 else nI q1) ∧ R (16 + W q0 (N q0 - f + j)) = (if q1 = 84 then -1 else nI (N q1 + j))) ∧
  (∀ j, k ≤ j → j < f → R (W q0 (N q0 - f + j)) = r (W q0 (N q0 - f + j)) ∧ R (16 + W q0 (N q0 - f + j)) = r (16 + W q0 (N q0 - f + j)))
theorem LA_wat (h : Rc r N W) (hp : Rp r N W) (hq0 : q0 < 169) (hq1 : q1 < 169) (hne : q1 ≠ q0) (hle : f ≤ N q0) {R : Nat → Int32} {k : Nat} (hk : k < f) (hA : LA r N W q0 f q1 R k) : wat R (nI q0) (nI (hgt r (nI q0) - f + k)) = nI (W q0 (N q0 - f + k)) := by
  obtain ⟨a1, a2, a3⟩ := hA
  have hN := h.le (q := q0) (by omega)
  rw [h.hgtN (by omega)]
  have hlt : N q0 - f + k < N q0 := by omega
  obtain ⟨b1, b2⟩ := a3 k (Nat.le_refl k) hk
  unfold wat
  refine fst_u 16 0 (Nat.zero_le _) (by have := (h.1 q0 _ hlt).1; omega) ?_ (fun x _ hx hr => ?_)
  · unfold rwt
    rw [b1, b2, (h.1 q0 _ hlt).2.2.2, hp.1 q0 _ hlt]
    simp
  · unfold rwt at hr
    simp only [Bool.and_eq_true, decide_eq_true_eq] at hr
    obtain ⟨r1, r2⟩ := hr
    by_cases hs : ∃ j, j < f ∧ x = W q0 (N q0 - f + j)
    · obtain ⟨j, hj, rfl⟩ := hs
      by_cases hjk : j < k
      · rw [(a2 j hjk).1] at r1
        by_cases e : q1 = 84
        · rw [if_pos e] at r1; exact absurd r1.symm (nI_m1 (by omega))
        · rw [if_neg e] at r1; exact absurd r1 (nI_ne (by omega) (by omega) hne)
      · rw [(a3 j (by omega) hj).2, hp.1 q0 (N q0 - f + j) (by omega)] at r2
        have := nI_inj (by omega) (by omega) r2
        rw [show j = k by omega]
    · have hxn : ∀ j, j < f → x ≠ W q0 (N q0 - f + j) := fun j hj e => hs ⟨j, hj, e⟩
      have hw16 : ∀ j, j < f → W q0 (N q0 - f + j) < 16 := fun j hj => (h.1 q0 _ (by omega)).1
      rw [a1 x (fun j hj => ⟨hxn j hj, by omega⟩)] at r1
      rw [a1 (16 + x) (fun j hj => ⟨by have := hw16 j hj; omega, by have := hxn j hj; omega⟩)] at r2
      obtain ⟨m, hm, rfl⟩ := h.cell (by omega) (by omega) r1
      rw [hp.1 q0 m hm] at r2
      have := nI_inj (by omega) (by omega) r2
      rw [this]
theorem rlf_P (h : Rc r N W) (hp : Rp r N W) (hq0 : q0 < 169) (hq1 : q1 < 169) (hne : q1 ≠ q0) (hle : f ≤ N q0) (hrb : rbs q0 d = nI q1) : ∀ k, k ≤ f → LA r N W q0 f q1 (rlf r q0 f d k) k
  | 0, _ => ⟨fun _ _ => rfl, fun j hj => absurd hj (Nat.not_lt_zero _), fun _ _ _ => ⟨rfl, rfl⟩⟩
  | k + 1, hk => by
    have ih := rlf_P h hp hq0 hq1 hne hle hrb k (by omega)
    have hw := LA_wat h hp hq0 hq1 hne hle (show k < f by omega) ih
    have hN := h.le (q := q0) (by omega)
    have h16 : ∀ j, j < f → W q0 (N q0 - f + j) < 16 := fun j hj => (h.1 q0 _ (by omega)).1
    have hinj : ∀ j m, j < f → m < f → W q0 (N q0 - f + j) = W q0 (N q0 - f + m) → j = m := fun j m hj hm e => by
      have := h.2.1 q0 _ _ (show N q0 - f + j < N q0 by omega) (show N q0 - f + m < N q0 by omega) e
      omega
    simp only [rlf]
    rw [hw, hrb, ix_nI (by have := h16 k (by omega); omega)]
    generalize hR : rlf r q0 f d k = R at ih ⊢
    obtain ⟨a1, a2, a3⟩ := ih
    have ne16 : ∀ j, j < f → j ≠ k → W q0 (N q0 - f + j) ≠ W q0 (N q0 - f + k) ∧ W q0 (N q0 - f + j) ≠ 16 + W q0 (N q0 - f + k) ∧ 16 + W q0 (N q0 - f + j) ≠ W q0 (N q0 - f + k) ∧ 16 + W q0 (N q0 - f + j) ≠ 16 + W q0 (N q0 - f + k) := fun j hj hjk => by
      have e1 : W q0 (N q0 - f + j) ≠ W q0 (N q0 - f + k) := fun e => hjk (hinj j k hj (by omega) e)
      have := h16 j hj
      have := h16 k (by omega)
      exact ⟨e1, by omega, by omega, by omega⟩
    have hself : rly R (W q0 (N q0 - f + k)) (nI q1) (W q0 (N q0 - f + k)) = (if q1 = 84 then -1 else nI q1) ∧ rly R (W q0 (N q0 - f + k)) (nI q1) (16 + W q0 (N q0 - f + k)) = (if q1 = 84 then -1 else nI (N q1 + k)) := by
      have hk16 := h16 k (by omega)
      by_cases e : q1 = 84
      · subst e
        rw [if_pos rfl, if_pos rfl]
        unfold rly rly1
        rw [if_pos rfl]
        exact ⟨by rw [upd_ne9 (by omega)]; exact upd_at9, upd_at9⟩
      · rw [if_neg e, if_neg e]
        have hcount : hgt (rly1 R (W q0 (N q0 - f + k))) (nI q1) = N q1 + k := by
          have own : rly1 R (W q0 (N q0 - f + k)) (W q0 (N q0 - f + k)) = -1 := by unfold rly1; rw [upd_ne9 (by omega)]; exact upd_at9
          have oth1 : ∀ x, x < 16 → x ≠ W q0 (N q0 - f + k) → rly1 R (W q0 (N q0 - f + k)) x = R x := fun x hx hne2 => rly1_out hne2 (by omega)
          have hold : ∀ m, m < N q1 → ∀ j, j < f → W q1 m ≠ W q0 (N q0 - f + j) := fun m hm j hj e2 => hne (h.one hm (show N q0 - f + j < N q0 by omega) e2).1
          have hRold : ∀ m, m < N q1 → R (W q1 m) = nI q1 := fun m hm => by
            have h1 := h.1 q1 m hm
            rw [a1 _ (fun j hj => ⟨hold m hm j hj, by have := h16 j hj; omega⟩)]
            exact h1.2.2.2
          unfold hgt
          refine cnt_w (W := fun m => if m < N q1 then W q1 m else W q0 (N q0 - f + (m - N q1))) (N q1 + k) (fun m hm => ?_) (fun x hx hpx => ?_) (fun m m' hm hm' e2 => ?_)
          · by_cases hmN : m < N q1
            · simp only [if_pos hmN]
              refine ⟨(h.1 q1 m hmN).1, ?_⟩
              rw [oth1 _ (h.1 q1 m hmN).1 (hold m hmN k (by omega)), hRold m hmN]
              simp
            · simp only [if_neg hmN]
              refine ⟨h16 _ (by omega), ?_⟩
              rw [oth1 _ (h16 _ (by omega)) (ne16 _ (by omega) (by omega)).1, (a2 (m - N q1) (by omega)).1, if_neg e]
              simp
          · have hpx : rly1 R (W q0 (N q0 - f + k)) x = nI q1 := by simpa using hpx
            by_cases ex : x = W q0 (N q0 - f + k)
            · rw [ex, own] at hpx
              exact absurd hpx.symm (nI_m1 (by omega))
            · rw [oth1 x hx ex] at hpx
              by_cases hs : ∃ j, j < f ∧ x = W q0 (N q0 - f + j)
              · obtain ⟨j, hj, rfl⟩ := hs
                by_cases hjk : j < k
                · refine ⟨N q1 + j, by omega, ?_⟩
                  simp only [if_neg (show ¬ N q1 + j < N q1 by omega), show N q1 + j - N q1 = j by omega]
                · rw [(a3 j (by omega) hj).1, (h.1 q0 _ (show N q0 - f + j < N q0 by omega)).2.2.2] at hpx
                  exact absurd hpx (nI_ne (by omega) (by omega) (fun e9 => hne e9.symm))
              · rw [a1 x (fun j hj => ⟨fun e9 => hs ⟨j, hj, e9⟩, by omega⟩)] at hpx
                obtain ⟨m, hm, rfl⟩ := h.cell (by omega) hx hpx
                exact ⟨m, by omega, by simp only [if_pos hm]⟩
          · by_cases g1 : m < N q1
            · by_cases g2 : m' < N q1
              · simp only [if_pos g1, if_pos g2] at e2
                exact h.2.1 q1 m m' g1 g2 e2
              · simp only [if_pos g1, if_neg g2] at e2
                exact absurd e2 (hold m g1 _ (by omega))
            · by_cases g2 : m' < N q1
              · simp only [if_neg g1, if_pos g2] at e2
                exact absurd e2.symm (hold m' g2 _ (by omega))
              · simp only [if_neg g1, if_neg g2] at e2
                have := hinj _ _ (show m - N q1 < f by omega) (show m' - N q1 < f by omega) e2
                omega
        unfold rly
        rw [if_neg (nI_ne (by omega) (by omega) e), hcount]
        exact ⟨upd_at9, by rw [upd_ne9 (by omega)]; exact upd_at9⟩
    refine ⟨fun x hx => ?_, fun j hj => ?_, fun j hkj hj => ?_⟩
    · obtain ⟨g1, g2⟩ := hx k (by omega)
      rw [rly_out g1 g2]
      exact a1 x hx
    · by_cases e : j = k
      · rw [e]; exact hself
      · obtain ⟨n1, n2, n3, n4⟩ := ne16 j (by omega) e
        rw [rly_out n1 n2, rly_out n3 n4]
        exact a2 j (by omega)
    · obtain ⟨n1, n2, n3, n4⟩ := ne16 j hj (by omega)
      rw [rly_out n1 n2, rly_out n3 n4]
      exact a3 j (by omega) hj
/-- the winks to be lifted are there, each at its time -/
theorem rlW_P (h : Rc r N W) (hp : Rp r N W) (hq0 : q0 < 169) (hq1 : q1 < 169) (hne : q1 ≠ q0) (hle : f ≤ N q0) (hrb : rbs q0 d = nI q1) : rlW r q0 f d := fun k hk => by
  rw [LA_wat h hp hq0 hq1 hne hle hk (rlf_P h hp hq0 hq1 hne hle hrb k (by omega))]
  exact wk_nI (h.1 q0 _ (by omega)).1
/-- the upper winks of a pile moved, on both sides -/
theorem many_P (h : Rc r N W) (hl : Rl r b v N W) (hp : Rp r N W) (hf : 1 ≤ f) (hq0 : q0 < 169) (hq1 : q1 < 169) (hne : q1 ≠ q0) (hle : f ≤ N q0) (hrb : rbs q0 d = nI q1) : ∃ (N' : Nat → Nat) (W' : Nat → Nat → Nat), Rc (rlf r q0 f d f) N' W' ∧ Rp (rlf r q0 f d f) N' W' ∧ Rl (rlf r q0 f d f) (mov2 r b v (W q0 (N q0 - f)) (nI q1)) (mov3 r b v (W q0 (N q0 - f)) (nI q1)) N' W' ∧ (∀ x, x < 16 → mov1 r b v (W q0 (N q0 - f)) (nI q1) x = rlf r q0 f d f x) ∧ N' q0 = N q0 - f := by
  have hN := h.le (q := q0) (by omega)
  have hs := SG_on h hl (show N q0 - f < N q0 by omega)
  rw [show N q0 - (N q0 - f) = f by omega] at hs
  obtain ⟨a1, a2, -⟩ := rlf_P h hp hq0 hq1 hne hle hrb f (Nat.le_refl f)
  have h16 : ∀ j, j < f → W q0 (N q0 - f + j) < 16 := fun j hj => (h.1 q0 _ (by omega)).1
  have hc0 : cutN N q0 (N q0 - f) q0 = N q0 - f := by unfold cutN; rw [if_pos rfl]
  have hc1 : cutN N q0 (N q0 - f) q1 = N q1 := by unfold cutN; rw [if_neg hne]
  have hsub : ∀ q m, m < cutN N q0 (N q0 - f) q → m < N q := fun q m hm => by
    unfold cutN at hm
    by_cases e : q = q0
    · rw [if_pos e] at hm; subst e; omega
    · rw [if_neg e] at hm; exact hm
  obtain ⟨g1, g2, g3, g4, g5, g6, g7, g8, g9, g10, g11⟩ := id hs
  have hA : ∀ w, w < 16 → (∃ k, k < f ∧ W q0 (N q0 - f + k) = w) ∨ r w = -1 ∨ ∃ q m, m < cutN N q0 (N q0 - f) q ∧ W q m = w := fun w hw => (g11 w hw).imp id (fun g => g.imp (fun g => g.1) id)
  have c2 : ∀ y, y < 16 → (∀ k, k < f → W q0 (N q0 - f + k) ≠ y) → rlf r q0 f d f y = r y := fun y hy hy2 => a1 y (fun j hj => ⟨fun e => hy2 j hj e.symm, by omega⟩)
  have p2 : ∀ y, y < 16 → (∀ k, k < f → W q0 (N q0 - f + k) ≠ y) → rlf r q0 f d f (16 + y) = r (16 + y) := fun y hy hy2 => a1 (16 + y) (fun j hj => ⟨by have := h16 j hj; omega, by have := hy2 j hj; omega⟩)
  by_cases h84 : q1 = 84
  · subst h84
    obtain ⟨m1, m2, m3, m4⟩ := mov_cup (S := fun k => W q0 (N q0 - f + k)) hs
    have c1 : ∀ k, k < f → rlf r q0 f d f (W q0 (N q0 - f + k)) = -1 := fun k hk => by rw [(a2 k hk).1, if_pos rfl]
    have ext : ∀ x, x < 16 → mov1 r b v (W q0 (N q0 - f)) (nI 84) x = rlf r q0 f d f x := fun x hx => by
      by_cases hx2 : ∃ k, k < f ∧ W q0 (N q0 - f + k) = x
      · obtain ⟨k, hk, rfl⟩ := hx2
        rw [c1 k hk]; exact m3 k hk
      · rw [c2 x hx (fun k hk e => hx2 ⟨k, hk, e⟩)]
        exact m4 x (fun k hk e => hx2 ⟨k, hk, e⟩)
    refine ⟨cutN N q0 (N q0 - f), W, Rc_cup g7 g8 hA c1 c2, ⟨fun q m hm => ?_, fun w hw hw1 => ?_⟩, Rl_ext m2 ext, ext, hc0⟩
    · rw [p2 _ (g7 q m hm).1 (fun k hk e => (g7 q m hm).2.2.2.2 k hk e.symm)]
      exact hp.1 q m (hsub q m hm)
    · by_cases hx2 : ∃ k, k < f ∧ W q0 (N q0 - f + k) = w
      · obtain ⟨k, hk, rfl⟩ := hx2
        rw [(a2 k hk).2, if_pos rfl]
      · rw [c2 w hw (fun k hk e => hx2 ⟨k, hk, e⟩)] at hw1
        rw [p2 w hw (fun k hk e => hx2 ⟨k, hk, e⟩)]
        exact hp.2 w hw hw1
  · obtain ⟨m1, m2, m3, m4⟩ := mov_on (S := fun k => W q0 (N q0 - f + k)) hq1 h84 hs
    have c1 : ∀ k, k < f → rlf r q0 f d f (W q0 (N q0 - f + k)) = nI q1 := fun k hk => by rw [(a2 k hk).1, if_neg h84]
    have ext : ∀ x, x < 16 → mov1 r b v (W q0 (N q0 - f)) (nI q1) x = rlf r q0 f d f x := fun x hx => by
      by_cases hx2 : ∃ k, k < f ∧ W q0 (N q0 - f + k) = x
      · obtain ⟨k, hk, rfl⟩ := hx2
        rw [c1 k hk]; exact m3 k hk
      · rw [c2 x hx (fun k hk e => hx2 ⟨k, hk, e⟩)]
        exact m4 x (fun k hk e => hx2 ⟨k, hk, e⟩)
    refine ⟨_, _, Rc_on hq1 h84 g3 g4 g7 g8 hA c1 c2, ⟨fun q m hm => ?_, fun w hw hw1 => ?_⟩, Rl_ext m2 ext, ext, ?_⟩
    · rcases onN_cases hm with g | ⟨rfl, k, hk, rfl⟩
      · rw [onW_old g, p2 _ (g7 q m g).1 (fun k hk e => (g7 q m g).2.2.2.2 k hk e.symm)]
        exact hp.1 q m (hsub q m g)
      · rw [onW_new, (a2 k hk).2, if_neg h84, hc1]
    · by_cases hx2 : ∃ k, k < f ∧ W q0 (N q0 - f + k) = w
      · obtain ⟨k, hk, rfl⟩ := hx2
        rw [c1 k hk] at hw1
        exact absurd hw1 (nI_m1 (by omega))
      · rw [c2 w hw (fun k hk e => hx2 ⟨k, hk, e⟩)] at hw1
        rw [p2 w hw (fun k hk e => hx2 ⟨k, hk, e⟩)]
        exact hp.2 w hw hw1
    · unfold onN
      rw [if_neg (fun e => hne e.symm)]
      exact hc0
end LF
theorem rwl_z {r : Nat → Int32} {q n d : Nat} (h : rwl r q n d = 0) : over r = false ∧ n ≤ hgt r (nI q) ∧ wat r (nI q) (nI (hgt r (nI q) - 1)) / nI 4 = r 56 ∧ rbs q d ≠ -1 := by
  unfold rwl at h
  by_cases h1 : over r = true
  · rw [if_pos h1] at h; omega
  · rw [if_neg h1] at h
    by_cases h2 : hgt r (nI q) < n
    · rw [if_pos h2] at h; omega
    · rw [if_neg h2] at h
      by_cases h3 : ¬ wat r (nI q) (nI (hgt r (nI q) - 1)) / nI 4 = r 56
      · rw [if_pos h3] at h; omega
      · rw [if_neg h3] at h
        by_cases h4 : ¬ nI n ≤ r 57
        · rw [if_pos h4] at h; omega
        · rw [if_neg h4] at h
          by_cases h5 : rbs q d = -1
          · rw [if_pos h5] at h; omega
          · exact ⟨bool_ff h1, by omega, Decidable.not_not.mp h3, h5⟩
section PL2
variable {r b v g h j : Nat → Int32} {t : Nat} {u z : Int32} {N : Nat → Nat} {W : Nat → Nat → Nat}
theorem Pos.rli (H : Pos r b v g h j t u z N W) : rLi r := fun q n d hq hn hn6 hd hw => by
  obtain ⟨hc, hl, hp, -⟩ := H
  obtain ⟨-, w2, -, w4⟩ := rwl_z hw
  rw [hc.hgtN (by omega)] at w2
  rcases rbs_all q hq d hd with e | ⟨e1, e2, e3⟩
  · exact absurd e w4
  · exact rlW_P hc hp hq e1 e2 w2 e3
theorem Pos.rok (H : Pos r b v g h j t u z N W) : rok r := by
  have hli := H.rli
  obtain ⟨hc, hl, hp, -, -, -, -, -, ht, hTu, hLo, ho⟩ := H
  refine ⟨hTu, hLo, fun w hw hpt => ?_, fun w hw hwn => ?_, hli⟩
  · rcases hc.2.2 w hw with e | ⟨q, i, hi, e⟩
    · unfold pot at hpt; rw [e] at hpt; simp at hpt
    · exact ⟨q, hc.q hi, by rw [← e]; exact (hc.1 q i hi).2.2.2⟩
  · obtain ⟨w1, w2, -, -⟩ := rwn_0 hwn
    obtain ⟨o1, o2, -⟩ := ho w1
    have : w / 4 = t := nI_inj (by omega) (by omega) (w2.symm.trans o1.symm)
    rw [this]
    exact o2
/-- behind a lift -/
theorem Pos.lift (H : Pos r b v g h j t u z N W) {x y f d : Nat} (hx : x < 13) (hy : y < 13) (hf : 1 ≤ f ∧ f ≤ 6) (hd : d < 8) (hwn : rwl r (13 * y + x) f d = 0) : ∃ (N' : Nat → Nat) (W' : Nat → Nat → Nat), Pos (rlx r (13 * y + x) f d t) (liB r b v (nI x) (nI y) f (nI d)) (liV r b v (nI x) (nI y) f (nI d)) g h (pasg (liC r b v (nI x) (nI y) f (nI d)) t 8 j t).1 (pasg (liC r b v (nI x) (nI y) f (nI d)) t 8 j t).2 (u + nI 1) z N' W' ∧ (∀ c, c < 16 → liC r b v (nI x) (nI y) f (nI d) c = rlx r (13 * y + x) f d t c) ∧ nI (hgt (liC r b v (nI x) (nI y) f (nI d)) (cat (nI x) (nI y))) = nI (hgt r (nI (13 * y + x)) - f) := by
  have hli := H.rli
  obtain ⟨hc, hl, hp, hg, hh, hu, hz, hsm, ht, hTu, hLo, ho⟩ := H
  obtain ⟨hov, w2, -, w4⟩ := rwl_z hwn
  obtain ⟨o1, o2, o3⟩ := ho hov
  have hq : 13 * y + x < 169 := by omega
  have hrW := hli _ f d hq hf.1 hf.2 hd hwn
  have hcat : cat (nI x) (nI y) = nI (13 * y + x) := by unfold cat; rw [pk_mul, nI_add]
  have hrb : beside (nI x) (nI y) (nI d) = rbs (13 * y + x) d := by
    unfold rbs
    rw [show (13 * y + x) % 13 = x by omega, show (13 * y + x) / 13 = y by omega]
  rw [hc.hgtN (by omega)] at w2
  obtain ⟨q1, e1, e2, e3⟩ : ∃ q1, q1 < 169 ∧ q1 ≠ 13 * y + x ∧ rbs (13 * y + x) d = nI q1 := by
    rcases rbs_all _ hq d hd with e | ⟨e1, e2, e3⟩
    · exact absurd e w4
    · exact ⟨_, e1, e2, e3⟩
  have hlow : low r b v (cat (nI x) (nI y)) f = nI (W (13 * y + x) (N (13 * y + x) - f)) := by rw [hcat, hl.lowN hc (by omega) hf.1, if_pos w2]
  have hw16 := (hc.1 (13 * y + x) (N (13 * y + x) - f) (by omega)).1
  have eC : liC r b v (nI x) (nI y) f (nI d) = mov1 r b v (W (13 * y + x) (N (13 * y + x) - f)) (nI q1) := by unfold liC; rw [hlow, if_pos (wk_nI hw16), ix_nI (by omega), hrb, e3]
  have eB : liB r b v (nI x) (nI y) f (nI d) = mov2 r b v (W (13 * y + x) (N (13 * y + x) - f)) (nI q1) := by unfold liB; rw [hlow, if_pos (wk_nI hw16), ix_nI (by omega), hrb, e3]
  have eV : liV r b v (nI x) (nI y) f (nI d) = mov3 r b v (W (13 * y + x) (N (13 * y + x) - f)) (nI q1) := by unfold liV; rw [hlow, if_pos (wk_nI hw16), ix_nI (by omega), hrb, e3]
  rw [eC, eB, eV]
  obtain ⟨N', W', a1, a2, a3, a4, a5⟩ := many_P hc hl hp hf.1 hq e1 e2 w2 e3
  have kr : ∀ i, 32 ≤ i → i ≠ 59 → upd (rlf r (13 * y + x) f d f) 59 (rlf r (13 * y + x) f d f 59 + nI 1) i = r i := fun i hi h59 => by rw [upd_ne9 h59, rlf_hi hrW hi f (Nat.le_refl f)]
  have k0 : ∀ i, i < 32 → upd (rlf r (13 * y + x) f d f) 59 (rlf r (13 * y + x) f d f 59 + nI 1) i = rlf r (13 * y + x) f d f i := fun i hi => upd_ne9 (by omega)
  have k59 : upd (rlf r (13 * y + x) f d f) 59 (rlf r (13 * y + x) f d f 59 + nI 1) 59 = r 59 + nI 1 := by rw [upd_at9, rlf_hi hrW (by omega) f (Nat.le_refl f)]
  obtain ⟨p1, p2, p3, p4, p5⟩ := pass_P (t := t) (j0 := j) (R := upd (rlf r (13 * y + x) f d f) 59 (rlf r (13 * y + x) f d f 59 + nI 1)) (fun c hc9 => (a4 c hc9).trans (k0 c (by omega)).symm) (fun i hi => by rw [kr _ (by omega) (by omega)]; exact hLo i hi) (fun i hi => by rw [kr _ (by omega) (by omega)]; exact o3 i hi) ht (by rw [kr _ (by omega) (by omega)]; exact o1.symm)
  have x32 : ∀ i, i < 32 → rlx r (13 * y + x) f d t i = rlf r (13 * y + x) f d f i := fun i hi => (p1 i (by omega)).trans (k0 i hi)
  refine ⟨N', W', ⟨Rc_ext a1 (fun i hi => (x32 i (by omega)).symm), Rl_ext a3 (fun i hi => (x32 i (by omega)).symm), Rp_ext a1 a2 (fun i hi => (x32 i hi).symm), fun w hw => ?_, fun i hi => ?_, ?_, ?_, ?_, p2, p3, p4, p5⟩, fun c hc9 => (a4 c hc9).trans (x32 c (by omega)).symm, ?_⟩
  · exact ((hg w hw).trans (kr _ (by omega) (by omega)).symm).trans (p1 _ (by omega)).symm
  · exact ((hh i hi).trans (kr _ (by omega) (by omega)).symm).trans (p1 _ (by omega)).symm
  · rw [hu]; exact k59.symm.trans (p1 _ (by omega)).symm
  · exact (hz.trans (kr _ (by omega) (by omega)).symm).trans (p1 _ (by omega)).symm
  · exact (hsm.trans (kr _ (by omega) (by omega)).symm).trans (p1 _ (by omega)).symm
  · have hh1 : hgt (mov1 r b v (W (13 * y + x) (N (13 * y + x) - f)) (nI q1)) (nI (13 * y + x)) = N' (13 * y + x) := by
      have := Rc_ext a1 (fun i hi => (a4 i hi).symm)
      exact this.hgtN (by omega)
    rw [hcat, hh1, a5, hc.hgtN (by omega)]
end PL2
