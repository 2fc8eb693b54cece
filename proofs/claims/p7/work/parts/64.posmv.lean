/-! one position on both sides, behind a move -/
theorem SG_ext {r b v : Nat → Int32} {N : Nat → Nat} {W : Nat → Nat → Nat} {S S' : Nat → Nat} {n : Nat} (h : SG r b v N W S n) (e : ∀ k, k < n → S k = S' k) : SG r b v N W S' n := by
  obtain ⟨h1, h2, h3, h4, h5, h6, h7, h8, h9, h10, h11⟩ := h
  refine ⟨h1, h2, fun k hk => by rw [← e k hk]; exact h3 k hk, fun k m hk hm => by rw [← e k hk, ← e m hm]; exact h4 k m hk hm, fun k hk => ?_, fun k hk h0 => ?_, fun q m hm => ?_, h8, h9, h10, fun w hw => ?_⟩
  · rw [← e k hk, h5 k hk]
    by_cases h12 : k + 1 < n
    · rw [if_pos h12, if_pos h12, e _ h12]
    · rw [if_neg h12, if_neg h12]
  · rw [← e k hk, h6 k hk h0, e (k - 1) (by omega)]
  · obtain ⟨k1, k2, k3, k4, k5⟩ := h7 q m hm
    exact ⟨k1, k2, k3, k4, fun k hk => by rw [← e k hk]; exact k5 k hk⟩
  · rcases h11 w hw with ⟨k, hk, hs⟩ | g
    · exact Or.inl ⟨k, hk, by rw [← e k hk]; exact hs⟩
    · exact Or.inr g
theorem SG_row {r r' b v : Nat → Int32} {N : Nat → Nat} {W : Nat → Nat → Nat} {S : Nat → Nat} {n : Nat} (h : SG r b v N W S n) (e : ∀ x, x < 16 → r x = r' x) : SG r' b v N W S n := by
  obtain ⟨h1, h2, h3, h4, h5, h6, h7, h8, h9, h10, h11⟩ := h
  refine ⟨h1, h2, h3, h4, h5, h6, fun q m hm => ?_, h8, h9, h10, fun w hw => ?_⟩
  · obtain ⟨k1, k2, k3, k4, k5⟩ := h7 q m hm
    exact ⟨k1, k2, k3, (e _ k1).symm.trans k4, k5⟩
  · rcases h11 w hw with g | ⟨g1, g2⟩ | g
    · exact Or.inl g
    · exact Or.inr (Or.inl ⟨(e w hw).symm.trans g1, g2⟩)
    · exact Or.inr (Or.inr g)
/-- a wink that isn't covered: it alone is moved -/
theorem SG_top {r b v : Nat → Int32} {N : Nat → Nat} {W : Nat → Nat → Nat} (h : Rc r N W) (hl : Rl r b v N W) {w : Nat} (hw : w < 16) (hcv : cov v w = false) : ∃ N1 : Nat → Nat, SG r b (cutv b v w) N1 W (fun _ => w) 1 ∧ ∀ q m, m < N1 q → m < N q := by
  rcases h.2.2 w hw with h1 | ⟨q0, i, hi, rfl⟩
  · exact ⟨N, SG_pot h hl hw h1, fun _ _ hm => hm⟩
  · rw [hl.covN h hi] at hcv
    have hn : N q0 - i = 1 := by
      have : ¬ i + 1 < N q0 := by simpa using hcv
      omega
    have hs := SG_on h hl hi
    rw [hn] at hs
    refine ⟨cutN N q0 i, SG_ext hs (fun k hk => by have : k = 0 := by omega
                                                   subst this; rfl), fun q m hm => ?_⟩
    unfold cutN at hm
    by_cases e : q = q0
    · rw [if_pos e] at hm; subst e; omega
    · rw [if_neg e] at hm; exact hm
/-- one wink moved, on both sides: R is the reference's row behind it -/
theorem one_P {r r0 b v : Nat → Int32} {N : Nat → Nat} {W : Nat → Nat → Nat} (h : Rc r N W) (hl : Rl r b v N W) (hp : Rp r N W) {w : Nat} (hw : w < 16) (hcv : cov v w = false) (e0 : ∀ x, x < 32 → r0 x = r x) {q1 : Nat} (hq : q1 < 169) : ∃ (N' : Nat → Nat) (W' : Nat → Nat → Nat), Rc (rly r0 w (nI q1)) N' W' ∧ Rp (rly r0 w (nI q1)) N' W' ∧ Rl (rly r0 w (nI q1)) (mov2 r b v w (nI q1)) (mov3 r b v w (nI q1)) N' W' ∧ ∀ x, x < 16 → mov1 r b v w (nI q1) x = rly r0 w (nI q1) x := by
  obtain ⟨N1, hs, hsub⟩ := SG_top h hl hw hcv
  have hs0 : SG r0 b (cutv b v w) N1 W (fun _ => w) 1 := SG_row hs (fun x hx => (e0 x (by omega)).symm)
  have hl0 := lay_P hw hs0 (fun q m hm => by
    have hm2 := hsub q m hm
    rw [e0 _ (by have := (h.1 q m hm2).1; omega)]
    exact hp.1 q m hm2) (fun x hx hne hx1 => by
    rw [e0 _ (by omega)] at hx1 ⊢
    exact hp.2 x hx hx1)
  by_cases h84 : q1 = 84
  · subst h84
    obtain ⟨m1, m2, m3, m4⟩ := mov_cup (S := fun _ => w) hs
    have ext : ∀ x, x < 16 → mov1 r b v w (nI 84) x = rly r0 w (nI 84) x := fun x hx => by
      by_cases e : x = w
      · rw [e]
        refine (m3 0 (by omega)).trans ?_
        unfold rly rly1
        rw [if_pos rfl, upd_ne9 (by omega)]
        exact upd_at9.symm
      · rw [rly_out e (by omega), e0 x (by omega)]
        exact m4 x (fun k _ e2 => e e2.symm)
    exact ⟨N1, W, hl0.1.1, hl0.1.2, Rl_ext m2 ext, ext⟩
  · obtain ⟨m1, m2, m3, m4⟩ := mov_on (S := fun _ => w) hq h84 hs
    obtain ⟨a1, a2⟩ := hl0.2 q1 hq h84
    have ext : ∀ x, x < 16 → mov1 r b v w (nI q1) x = rly r0 w (nI q1) x := fun x hx => by
      by_cases e : x = w
      · rw [e]
        refine (m3 0 (by omega)).trans ?_
        unfold rly
        rw [if_neg (nI_ne (by omega) (by omega) h84)]
        exact upd_at9.symm
      · rw [rly_out e (by omega), e0 x (by omega)]
        exact m4 x (fun k _ e2 => e e2.symm)
    exact ⟨_, _, a1, a2, Rl_ext m2 ext, ext⟩
/-- the turn passes, on both sides -/
theorem pass_P {R c' j0 : Nat → Int32} {t : Nat} (hcell : ∀ x, x < 16 → c' x = R x) (hlo : lo01 R) (hj : ∀ i, i < 4 → j0 i = R (52 + i)) (ht : t < 4) (hT : R 56 = nI t) : (∀ x, x < 52 ∨ 56 < x → rpass R t x = R x) ∧ (pasg c' t 8 j0 t).2 < 4 ∧ rTu (rpass R t) ∧ lo01 (rpass R t) ∧ (over (rpass R t) = false → nI (pasg c' t 8 j0 t).2 = rpass R t 56 ∧ rpass R t (52 + (pasg c' t 8 j0 t).2) = nI 0 ∧ ∀ i, i < 4 → (pasg c' t 8 j0 t).1 i = rpass R t (52 + i)) := by
  unfold rpass
  by_cases ho : over R = true
  · rw [if_pos ho]
    refine ⟨fun _ _ => rfl, pasg_lt c' t ht 8 j0 t, ?_, hlo, fun h => ?_⟩
    · unfold rTu
      rw [hT, ix_nI (by omega)]
      exact ⟨ht, rfl⟩
    · rw [ho] at h; cases h
  · rw [if_neg ho]
    have ho2 : over c' = false := (over_ext hcell).trans (bool_ff ho)
    obtain ⟨g1, g2, g3, g4, g5, g6⟩ := pass_eq (t0 := t) (fun k hk => over_f ho2 hk) 8 R j0 t hlo hj (on9_lt R)
    refine ⟨g6, g2, ?_, g5, fun _ => ⟨g1.symm, g4, g3⟩⟩
    unfold rTu
    rw [g1, ix_nI (by omega)]
    exact ⟨g2, rfl⟩
section PM
variable {r b v g h j : Nat → Int32} {t : Nat} {u z : Int32} {N : Nat → Nat} {W : Nat → Nat → Nat}
theorem wnf_0 {c v : Nat → Int32} {t w : Nat} (h : wnf c v t w = 0) : over c = false ∧ w / 4 = t ∧ pot c w = false ∧ cov v w = false := by
  unfold wnf at h
  by_cases h1 : over c = true
  · rw [if_pos h1] at h; omega
  · rw [if_neg h1] at h
    by_cases h2 : ¬ w / 4 = t
    · rw [if_pos h2] at h; omega
    · rw [if_neg h2] at h
      by_cases h3 : pot c w = true
      · rw [if_pos h3] at h; omega
      · rw [if_neg h3] at h
        by_cases h4 : cov v w = true
        · rw [if_pos h4] at h; omega
        · exact ⟨bool_ff h1, Decidable.not_not.mp h2, bool_ff h3, bool_ff h4⟩
theorem bs_lt (w : Nat) : bs (w / 4) < 169 ∧ bs (w / 4) ≠ 84 := by
  unfold bs
  repeat' split
  all_goals decide
/-- behind a flight -/
theorem Pos.fly (H : Pos r b v g h j t u z N W) {w : Nat} (hw : w < 16) (hwn : wnf r v t w = 0) {q : Int32} (hq : q = -1 ∨ ∃ q1, q1 < 169 ∧ q = nI q1) : ∃ (N' : Nat → Nat) (W' : Nat → Nat → Nat), Pos (rfx r w q t) (mov2 r b v w (rest9 w q)) (mov3 r b v w (rest9 w q)) (upd g w (g w + nI 1)) (flH h w q) (flP (mov1 r b v w (rest9 w q)) t w q (flH j w q)).1 (flP (mov1 r b v w (rest9 w q)) t w q (flH j w q)).2 u z N' W' ∧ ∀ x, x < 16 → mov1 r b v w (rest9 w q) x = rfx r w q t x := by
  obtain ⟨hov, hwt, hpt, hcv⟩ := wnf_0 hwn
  obtain ⟨hc, hl, hp, hg, hh, hu, hz, hsm, ht, hTu, hLo, ho⟩ := H
  obtain ⟨o1, o2, o3⟩ := ho hov
  have e0 : ∀ x, x < 32 → rf0 r w x = r x := fun x hx => rf0_out (by omega) (by omega)
  have f58 : rf0 r w 58 = r 58 + nI 1 := by
    unfold rf0
    rw [upd_at9, upd_ne9 (by omega)]
  have f32 : ∀ x, x < 16 → upd g w (g w + nI 1) x = rf0 r w (32 + x) := fun x hx => by
    have e9 : rf0 r w (32 + x) = upd r (32 + w) (r (32 + w) + nI 1) (32 + x) := by
      unfold rf0
      exact upd_ne9 (by omega)
    rw [e9]
    by_cases e : x = w
    · rw [e, upd_at9, upd_at9, hg w hw]
    · rw [upd_ne9 e, upd_ne9 (show 32 + x ≠ 32 + w by omega)]
      exact hg x hx
  have fsm : smi (upd g w (g w + nI 1)) 16 = r 58 + nI 1 := by rw [smi_up, if_pos hw, hsm]
  rcases hq with rfl | ⟨q1, hq1, rfl⟩
  · -- off
    have er : rest9 w (-1) = nI (bs (w / 4)) := by unfold rest9; rw [if_pos rfl]
    rw [er]
    obtain ⟨N', W', a1, a2, a3, a4⟩ := one_P hc hl hp hw hcv e0 (bs_lt w).1
    have eR : ∀ x, 32 ≤ x → rly (rf0 r w) w (nI (bs (w / 4))) x = rf0 r w x := fun x hx => rly_out (by omega) (by omega)
    have k1 : ∀ x, x ≠ 48 + w / 4 → x ≠ 52 + w / 4 → rf1 r w x = rly (rf0 r w) w (nI (bs (w / 4))) x := fun x h1 h2 => by
      unfold rf1
      rw [upd_ne9 h2, upd_ne9 h1]
    have k2 : rf1 r w (48 + w / 4) = r (48 + w / 4) + nI 1 := by
      unfold rf1
      rw [upd_ne9 (by omega), upd_at9, eR _ (by omega), rf0_out (by omega) (by omega)]
    have k3 : rf1 r w (52 + w / 4) = r (52 + w / 4) + nI 1 := by
      unfold rf1
      rw [upd_at9, upd_ne9 (by omega), eR _ (by omega), rf0_out (by omega) (by omega)]
    have kr : ∀ x, 48 ≤ x → x ≠ 58 → x ≠ 48 + w / 4 → x ≠ 52 + w / 4 → rf1 r w x = r x := fun x h1 h2 h3 h4 => by rw [k1 x h3 h4, eR x (by omega), rf0_out (by omega) h2]
    have hjl : ∀ i, i < 4 → flH j w (-1) i = rf1 r w (52 + i) := fun i hi => by
      unfold flH
      rw [if_pos rfl]
      by_cases e : i = w / 4
      · subst e; rw [upd_at9, k3, o3 _ hi]
      · rw [upd_ne9 e, kr _ (by omega) (by omega) (by omega) (by omega)]
        exact o3 i hi
    have hT : rf1 r w 56 = nI t := by rw [kr _ (by omega) (by omega) (by omega) (by omega)]; exact o1.symm
    have hcell : ∀ x, x < 16 → mov1 r b v w (nI (bs (w / 4))) x = rf1 r w x := fun x hx => (a4 x hx).trans (k1 x (by omega) (by omega)).symm
    obtain ⟨p1, p2, p3, p4, p5⟩ := pass_P hcell (rf1_lo hw hLo (by rw [hwt]; exact o2)) hjl ht hT
    have erx : rfx r w (-1) t = rpass (rf1 r w) t := by unfold rfx; rw [if_pos rfl]
    have efl : flP (mov1 r b v w (nI (bs (w / 4)))) t w (-1) (flH j w (-1)) = pasg (mov1 r b v w (nI (bs (w / 4)))) t 8 (flH j w (-1)) t := by unfold flP; rw [if_pos (Or.inl (by decide))]
    rw [erx, efl]
    have x32 : ∀ x, x < 32 → rpass (rf1 r w) t x = rly (rf0 r w) w (nI (bs (w / 4))) x := fun x hx => (p1 x (by omega)).trans (k1 x (by omega) (by omega))
    refine ⟨N', W', ⟨Rc_ext a1 (fun x hx => (x32 x (by omega)).symm), Rl_ext a3 (fun x hx => (x32 x (by omega)).symm), Rp_ext a1 a2 (fun x hx => (x32 x hx).symm), fun x hx => ?_, fun i hi => ?_, ?_, ?_, ?_, p2, p3, p4, p5⟩, fun x hx => (a4 x hx).trans (x32 x (by omega)).symm⟩
    · rw [p1 _ (by omega), k1 _ (by omega) (by omega), eR _ (by omega)]
      exact f32 x hx
    · rw [p1 _ (by omega)]
      unfold flH
      rw [if_pos rfl]
      by_cases e : i = w / 4
      · subst e; rw [upd_at9, k2, hh _ hi]
      · rw [upd_ne9 e, kr _ (by omega) (by omega) (by omega) (by omega)]
        exact hh i hi
    · rw [p1 _ (by omega), kr _ (by omega) (by omega) (by omega) (by omega)]; exact hu
    · rw [p1 _ (by omega), kr _ (by omega) (by omega) (by omega) (by omega)]; exact hz
    · rw [p1 _ (by omega), k1 _ (by omega) (by omega), eR _ (by omega), f58]
      exact fsm
  · have hne : nI q1 ≠ -1 := nI_m1 (by omega)
    have er : rest9 w (nI q1) = nI q1 := by unfold rest9; rw [if_neg hne]
    have ehH : flH h w (nI q1) = h := by unfold flH; rw [if_neg hne]
    have ehJ : flH j w (nI q1) = j := by unfold flH; rw [if_neg hne]
    rw [er, ehH, ehJ]
    obtain ⟨N', W', a1, a2, a3, a4⟩ := one_P hc hl hp hw hcv e0 hq1
    have eR : ∀ x, 32 ≤ x → rly (rf0 r w) w (nI q1) x = rf0 r w x := fun x hx => rly_out (by omega) (by omega)
    have kr : ∀ x, 48 ≤ x → x ≠ 58 → rly (rf0 r w) w (nI q1) x = r x := fun x h1 h2 => by rw [eR x (by omega), rf0_out (by omega) h2]
    by_cases h84 : nI q1 = nI 84
    · have erx : rfx r w (nI q1) t = rly (rf0 r w) w (nI q1) := by unfold rfx; rw [if_neg hne, if_pos h84]
      rw [erx]
      refine ⟨N', W', ⟨a1, a3, a2, fun x hx => by rw [eR _ (by omega)]; exact f32 x hx, fun i hi => by rw [kr _ (by omega) (by omega)]; exact hh i hi, by rw [kr _ (by omega) (by omega)]; exact hu, by rw [kr _ (by omega) (by omega)]; exact hz, by rw [eR _ (by omega), f58]; exact fsm, flP_lt _ _ _ ht _ _, ?_, fun i hi => by rw [kr _ (by omega) (by omega)]; exact hLo i hi, fun hov2 => ?_⟩, a4⟩
      · unfold rTu
        rw [kr _ (by omega) (by omega)]
        exact hTu
      · have hnp := over_f hov2 (k := w / 4) (by omega)
        rw [← potc_ext (by omega) a4] at hnp
        have efl : flP (mov1 r b v w (nI q1)) t w (nI q1) j = (j, t) := by
          unfold flP
          rw [if_neg (fun e => e.elim (fun e => e h84) hnp)]
        rw [efl, kr _ (by omega) (by omega)]
        refine ⟨o1, ?_, fun i hi => ?_⟩
        · rw [kr _ (by omega) (by show 52 + t ≠ 58; omega)]; exact o2
        · rw [kr _ (by omega) (by omega)]; exact o3 i hi
    · have erx : rfx r w (nI q1) t = rpass (rly (rf0 r w) w (nI q1)) t := by unfold rfx; rw [if_neg hne, if_neg h84]
      have efl : flP (mov1 r b v w (nI q1)) t w (nI q1) j = pasg (mov1 r b v w (nI q1)) t 8 j t := by unfold flP; rw [if_pos (Or.inl h84)]
      rw [erx, efl]
      obtain ⟨p1, p2, p3, p4, p5⟩ := pass_P (t := t) (j0 := j) a4 (fun i hi => by rw [kr _ (by omega) (by omega)]; exact hLo i hi) (fun i hi => by rw [kr _ (by omega) (by omega)]; exact o3 i hi) ht (by rw [kr _ (by omega) (by omega)]; exact o1.symm)
      refine ⟨N', W', ⟨Rc_ext a1 (fun x hx => (p1 x (by omega)).symm), Rl_ext a3 (fun x hx => (p1 x (by omega)).symm), Rp_ext a1 a2 (fun x hx => (p1 x (by omega)).symm), fun x hx => ?_, fun i hi => ?_, ?_, ?_, ?_, p2, p3, p4, p5⟩, fun x hx => (a4 x hx).trans (p1 x (by omega)).symm⟩
      · rw [p1 _ (by omega), eR _ (by omega)]; exact f32 x hx
      · rw [p1 _ (by omega), kr _ (by omega) (by omega)]; exact hh i hi
      · rw [p1 _ (by omega), kr _ (by omega) (by omega)]; exact hu
      · rw [p1 _ (by omega), kr _ (by omega) (by omega)]; exact hz
      · rw [p1 _ (by omega), eR _ (by omega), f58]; exact fsm
/-- behind put -/
theorem Pos.put (H : Pos r b v g h j t u z N W) {w : Nat} (hw : w < 16) (hov : over r = false) (hcv : cov v w = false) {q1 : Nat} (hq1 : q1 < 169) : ∃ (N' : Nat → Nat) (W' : Nat → Nat → Nat), Pos (rly r w (nI q1)) (mov2 r b v w (nI q1)) (mov3 r b v w (nI q1)) g h j t u z N' W' ∧ ∀ x, x < 16 → mov1 r b v w (nI q1) x = rly r w (nI q1) x := by
  obtain ⟨hc, hl, hp, hg, hh, hu, hz, hsm, ht, hTu, hLo, ho⟩ := H
  obtain ⟨o1, o2, o3⟩ := ho hov
  obtain ⟨N', W', a1, a2, a3, a4⟩ := one_P (r0 := r) hc hl hp hw hcv (fun _ _ => rfl) hq1
  have kr : ∀ x, 32 ≤ x → rly r w (nI q1) x = r x := fun x hx => rly_out (by omega) (by omega)
  refine ⟨N', W', ⟨a1, a3, a2, fun x hx => by rw [kr _ (by omega)]; exact hg x hx, fun i hi => by rw [kr _ (by omega)]; exact hh i hi, by rw [kr _ (by omega)]; exact hu, by rw [kr _ (by omega)]; exact hz, by rw [kr _ (by omega)]; exact hsm, ht, ?_, fun i hi => by rw [kr _ (by omega)]; exact hLo i hi, fun _ => ⟨by rw [kr _ (by omega)]; exact o1, by rw [kr _ (by omega)]; exact o2, fun i hi => by rw [kr _ (by omega)]; exact o3 i hi⟩⟩, a4⟩
  unfold rTu
  rw [kr _ (by omega)]
  exact hTu
/-- behind set -/
theorem Pos.set (H : Pos r b v g h j t u z N W) (x : Int32) : Pos (upd r 57 x) b v g h j t u x N W := by
  obtain ⟨hc, hl, hp, hg, hh, hu, hz, hsm, ht, hTu, hLo, ho⟩ := H
  have k : ∀ y, y ≠ 57 → upd r 57 x y = r y := fun y hy => upd_ne9 hy
  refine ⟨Rc_ext hc (fun y hy => (k y (by omega)).symm), Rl_ext hl (fun y hy => (k y (by omega)).symm), Rp_ext hc hp (fun y hy => (k y (by omega)).symm), fun w hw => by rw [k _ (by omega)]; exact hg w hw, fun i hi => by rw [k _ (by omega)]; exact hh i hi, by rw [k _ (by omega)]; exact hu, upd_at9.symm, by rw [k _ (by omega)]; exact hsm, ht, ?_, fun i hi => by rw [k _ (by omega)]; exact hLo i hi, fun hov => ?_⟩
  · unfold rTu
    rw [k _ (by omega)]
    exact hTu
  · rw [over_ext (fun y hy => k y (by omega))] at hov
    obtain ⟨o1, o2, o3⟩ := ho hov
    exact ⟨by rw [k _ (by omega)]; exact o1, by rw [k _ (by omega)]; exact o2, fun i hi => by rw [k _ (by omega)]; exact o3 i hi⟩
end PM
