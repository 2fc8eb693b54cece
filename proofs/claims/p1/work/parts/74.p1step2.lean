theorem gL_ok {r : Nat → Int32} {x y f d : Nat} (hx : x < 13) (hy : y < 13) (hf : 1 ≤ f ∧ f ≤ 6) (hd : d < 8) : gL r (nI x) (nI y) (nI f) (nI d) = decide (rwl r (13 * y + x) f d = 0) := by
  unfold gL
  rw [if_pos (btw_nI (by omega)), if_pos (btw_nI (by omega)), if_pos (btw_nI (by omega)), if_pos (btw_nI (by omega)), ixn (by omega), ixn (by omega), ixn (by omega), ixn (by omega)]
  by_cases h : rwl r (13 * y + x) f d = 0 <;> simp [h]
theorem tLi_ok {r : Nat → Int32} {x y f d : Nat} (hx : x < 13) (hy : y < 13) (hf : 1 ≤ f ∧ f ≤ 6) (hd : d < 8) : tLi r (nI x) (nI y) (nI f) (nI d) = if rwl r (13 * y + x) f d = 0 then nI 0 else nI 3 := by
  unfold tLi
  rw [if_pos (btw_nI (by omega)), if_pos (btw_nI (by omega)), if_pos (btw_nI (by omega)), if_pos (btw_nI (by omega)), ixn (by omega), ixn (by omega), ixn (by omega), ixn (by omega)]
/-- what is lifted at the first state -/
theorem fd_li2 {x y f d : Nat} (hx : x < 13) (hy : y < 13) (hf : 1 ≤ f ∧ f ≤ 6) (hd : d < 8) (h : rwl row0 (13 * y + x) f d = 0) : x = 0 ∧ y = 0 ∧ f < 4 ∧ beside (nI 0) (nI 0) (nI d) ≠ -1 := by
  have hq : 13 * y + x < 169 := by omega
  unfold rwl at h
  rw [if_neg (by rw [fd_over]; decide)] at h
  by_cases h2 : hgt row0 (nI (13 * y + x)) < f
  · rw [if_pos h2] at h; omega
  · rw [if_neg h2] at h
    by_cases h3 : ¬ wat row0 (nI (13 * y + x)) (nI (hgt row0 (nI (13 * y + x)) - 1)) / nI 4 = row0 56
    · rw [if_pos h3] at h; omega
    · rw [if_neg h3] at h
      have hq0 : 13 * y + x = 0 := fd_hgt _ hq (by omega) (Decidable.not_not.mp h3)
      obtain ⟨rfl, rfl⟩ : x = 0 ∧ y = 0 := by omega
      by_cases h4 : ¬ nI f ≤ row0 57
      · rw [if_pos h4] at h; omega
      · rw [if_neg h4] at h
        have h5 : nI f ≤ nI 3 := by rw [← fd_56.2]; exact Decidable.not_not.mp h4
        have h6 := (nI_leI (by omega) (by decide)).mp h5
        refine ⟨rfl, rfl, by omega, fun h7 => ?_⟩
        rw [show (13 * 0 + 0 : Nat) = 13 * 0 + 0 from rfl, rbs_n (by omega), if_pos h7] at h
        omega
set_option maxRecDepth 100000 in
theorem p1_lift (l : Launch) (hst : l.stackTraces = false) (D : va_G) (cI cQ cL : ClassId) (b0 : Nat) (x y z z2 : Int32) : STw l D cI cQ cL (pb b0) 86 yL_lift cL_lift 7 [(0, 14, 17, 13), (0, 14, 21, 15), (0, 14, 25, 17)] yX6_lift cX6_lift 5 (FM cI cQ cL b0) (fun _ => True) [.int x, .int y, .int z, .int z2] := by
  by_cases h1 : btw x (nI 0) (nI 12) = true
  · by_cases h2 : btw y (nI 0) (nI 12) = true
    · have hon := on_tt h1 h2
      obtain ⟨a, rfl, -, ha⟩ := btw_of (by decide) (by decide) h1
      obtain ⟨b, rfl, -, hb⟩ := btw_of (by decide) (by decide) h2
      by_cases h3 : btw z (nI 1) (nI 6) = true
      · obtain ⟨f, rfl, hf1, hf2⟩ := btw_of (by decide) (by decide) h3
        by_cases h4 : btw z2 (nI 0) (nI 7) = true
        · obtain ⟨d, rfl, -, hd⟩ := btw_of (by decide) (by decide) h4
          have hwr := fd_why (d := d) (show a < 13 by omega) (show b < 13 by omega) ⟨hf1, hf2⟩
          by_cases hwn : wnl row0 (mB 16) (mV 16) 0 (nI 3) (nI a) (nI b) f (nI d) = 0
          · obtain ⟨rfl, rfl, hf4, hbs⟩ := fd_li2 (show a < 13 by omega) (show b < 13 by omega) ⟨hf1, hf2⟩ (show d < 8 by omega) (by rw [← hwr]; exact hwn)
            exact stw_mk 0 (by decide) (tL_lift l D cI cQ cL (pb b0) 86 _ (by decide) _ fm_0 (nI 0) (nI 0) (nI f) (nI d) _ _ rfl _ (tX5_lift l D cI cQ cL (pb b0) 86 _ (by decide) row0 (mB 16) (mV 16) z0 z0 z0 0 (nI 0) (nI 3) fm_N (mC 16) (mB 16) (mV 16) z0 z0 z0 0 (nI 0) (nI 3) fm_S 0 0 (by decide) (by decide) fm_P z0 0 (by decide) fm_T (mC 16) (mB 16) (mV 16) fm_M z0 z0 z0 fm_O false fm_0 (mC 16) (mB 16) (mV 16) z0 z0 z0 0 (nI 0) (nI 3) fm_R (by decide) (nI 0) (nI 0) (nI f) f rfl ⟨hf1, hf2⟩ (nI d) h4 hon hwn) rfl rfl (by decide) (by decide)) (va_up_self _ _ _) (fun _ => by rw [pk_uLs]; rw [gL_ok (by omega) (by omega) ⟨hf1, hf2⟩ (by omega), if_pos (by rw [← hwr, hwn]; rfl), cat_n, ixn (by omega), ixn (by omega)]; exact congrArg (fun k : Nat => (nI k).toInt64) (fd_lift f hf4 hf1 d (by omega) hbs)) (rf_up ⟨rfl, rfl, rfl, rfl, rfl, rfl, rfl, rfl⟩) (tX6_lift l D cI cQ cL (pb b0) 86 _ 77 (by decide) row0 z0 z0 z0 z0 z0 z0 false 0 0 0 (nI 0) (rf_up ⟨rfl, rfl, rfl, rfl, rfl, rfl, rfl, rfl⟩) (nI 0) (nI 0) (nI f) (nI d) (by decide) fd_rok) (by rw [tLi_ok (by omega) (by omega) ⟨hf1, hf2⟩ (by omega), if_pos (by rw [← hwr]; exact hwn)]) rfl rfl (by decide) (by decide) trivial
          · exact stw_mk 3 (by decide) (tL_lift_x l D cI cQ cL (pb b0) 86 _ (by decide) _ fm_0 (nI a) (nI b) (nI f) (nI d) eS 3 (Or.inr (Or.inr ⟨rfl, rfl⟩)) (tX5_liftX_b4 l hst D cI cQ cL (pb b0) 86 _ (by decide) row0 (mB 16) (mV 16) z0 z0 z0 0 (nI 0) (nI 3) fm_N (mC 16) (mB 16) (mV 16) z0 z0 z0 0 (nI 0) (nI 3) fm_S 0 0 (by decide) (by decide) fm_P z0 0 (by decide) fm_T (mC 16) (mB 16) (mV 16) fm_M z0 z0 z0 fm_O false fm_0 (nI a) (nI b) (nI f) f rfl ⟨hf1, hf2⟩ (nI d) h4 hon hwn) rfl rfl (by decide) (by decide)) fm_85 (fun h => absurd h (by decide)) fm_r (tX6_lift l D cI cQ cL (pb b0) 86 _ 77 (by decide) row0 z0 z0 z0 z0 z0 z0 false 0 0 0 (nI 0) fm_r (nI a) (nI b) (nI f) (nI d) (by decide) fd_rok) (by rw [tLi_ok (by omega) (by omega) ⟨hf1, hf2⟩ (by omega), if_neg (by rw [← hwr]; exact hwn)]) rfl rfl (by decide) (by decide) trivial
        · have h4 := btw_f h4
          exact stw_mk 2 (by decide) (tL_lift_x l D cI cQ cL (pb b0) 86 _ (by decide) _ fm_0 (nI a) (nI b) (nI f) z2 eA 2 (Or.inr (Or.inl ⟨rfl, rfl⟩)) (tX5_liftX_b3 l hst D cI cQ cL (pb b0) 86 _ (by decide) row0 (mB 16) (mV 16) z0 z0 z0 0 (nI 0) (nI 3) fm_N (mC 16) (mB 16) (mV 16) z0 z0 z0 0 (nI 0) (nI 3) fm_S 0 0 (by decide) (by decide) fm_P z0 0 (by decide) fm_T (mC 16) (mB 16) (mV 16) fm_M z0 z0 z0 fm_O false fm_0 (nI a) (nI b) (nI f) z2 hon h3 h4) rfl rfl (by decide) (by decide)) fm_85 (fun h => absurd h (by decide)) fm_r (tX6_lift l D cI cQ cL (pb b0) 86 _ 77 (by decide) row0 z0 z0 z0 z0 z0 z0 false 0 0 0 (nI 0) fm_r (nI a) (nI b) (nI f) z2 (by decide) fd_rok) (by simp [tLi, h1, h2, h3, h4]) rfl rfl (by decide) (by decide) trivial
      · have h3 := btw_f h3
        exact stw_mk 2 (by decide) (tL_lift_x l D cI cQ cL (pb b0) 86 _ (by decide) _ fm_0 (nI a) (nI b) z z2 eA 2 (Or.inr (Or.inl ⟨rfl, rfl⟩)) (tX5_liftX_b2 l hst D cI cQ cL (pb b0) 86 _ (by decide) row0 (mB 16) (mV 16) z0 z0 z0 0 (nI 0) (nI 3) fm_N (mC 16) (mB 16) (mV 16) z0 z0 z0 0 (nI 0) (nI 3) fm_S 0 0 (by decide) (by decide) fm_P z0 0 (by decide) fm_T (mC 16) (mB 16) (mV 16) fm_M z0 z0 z0 fm_O false fm_0 (nI a) (nI b) z z2 hon h3) rfl rfl (by decide) (by decide)) fm_85 (fun h => absurd h (by decide)) fm_r (tX6_lift l D cI cQ cL (pb b0) 86 _ 77 (by decide) row0 z0 z0 z0 z0 z0 z0 false 0 0 0 (nI 0) fm_r (nI a) (nI b) z z2 (by decide) fd_rok) (by simp [tLi, h1, h2, h3]) rfl rfl (by decide) (by decide) trivial
    · have h2 := btw_f h2
      exact stw_mk 1 (by decide) (tL_lift_x l D cI cQ cL (pb b0) 86 _ (by decide) _ fm_0 x y z z2 eI 1 (Or.inl ⟨rfl, rfl⟩) (tX5_liftX_b1 l hst D cI cQ cL (pb b0) 86 _ (by decide) row0 (mB 16) (mV 16) z0 z0 z0 0 (nI 0) (nI 3) fm_N (mC 16) (mB 16) (mV 16) z0 z0 z0 0 (nI 0) (nI 3) fm_S 0 0 (by decide) (by decide) fm_P z0 0 (by decide) fm_T (mC 16) (mB 16) (mV 16) fm_M z0 z0 z0 fm_O false fm_0 x y z z2 (on_f2 h2)) rfl rfl (by decide) (by decide)) fm_85 (fun h => absurd h (by decide)) fm_r (tX6_lift l D cI cQ cL (pb b0) 86 _ 77 (by decide) row0 z0 z0 z0 z0 z0 z0 false 0 0 0 (nI 0) fm_r x y z z2 (by decide) fd_rok) (by simp [tLi, h1, h2]) rfl rfl (by decide) (by decide) trivial
  · have h1 := btw_f h1
    exact stw_mk 1 (by decide) (tL_lift_x l D cI cQ cL (pb b0) 86 _ (by decide) _ fm_0 x y z z2 eI 1 (Or.inl ⟨rfl, rfl⟩) (tX5_liftX_b1 l hst D cI cQ cL (pb b0) 86 _ (by decide) row0 (mB 16) (mV 16) z0 z0 z0 0 (nI 0) (nI 3) fm_N (mC 16) (mB 16) (mV 16) z0 z0 z0 0 (nI 0) (nI 3) fm_S 0 0 (by decide) (by decide) fm_P z0 0 (by decide) fm_T (mC 16) (mB 16) (mV 16) fm_M z0 z0 z0 fm_O false fm_0 x y z z2 (on_f1 h1)) rfl rfl (by decide) (by decide)) fm_85 (fun h => absurd h (by decide)) fm_r (tX6_lift l D cI cQ cL (pb b0) 86 _ 77 (by decide) row0 z0 z0 z0 z0 z0 z0 false 0 0 0 (nI 0) fm_r x y z z2 (by decide) fd_rok) (by simp [tLi, h1]) rfl rfl (by decide) (by decide) trivial
set_option maxRecDepth 100000 in
theorem p1_set (l : Launch) (hst : l.stackTraces = false) (D : va_G) (cI cQ cL : ClassId) (b0 : Nat) (x : Int32) : STw l D cI cQ cL (pb b0) 86 yL_set cL_set 4 [(0, 9, 12, 15)] yX6_set cX6_set 3 (FM cI cQ cL b0) (fun _ => True) [.int x] := by
  by_cases hx : btw x (nI 1) (nI 6) = true
  · exact stw_mk 0 (by decide) (tL_set l D cI cQ cL (pb b0) 86 _ (by decide) _ fm_0 x _ _ rfl _ (tX5_set l D cI cQ cL (pb b0) 86 _ (by decide) row0 (mB 16) (mV 16) z0 z0 z0 0 (nI 0) (nI 3) fm_N (mC 16) (mB 16) (mV 16) z0 z0 z0 0 (nI 0) (nI 3) fm_S 0 0 (by decide) (by decide) fm_P z0 0 (by decide) fm_T (mC 16) (mB 16) (mV 16) fm_M z0 z0 z0 fm_O false fm_0 (mC 16) (mB 16) (mV 16) z0 z0 z0 0 (nI 0) (nI 3) fm_R x hx) rfl rfl (by decide) (by decide)) (va_up_self _ _ _) (fun _ => by rw [pk_uLs]; rw [if_pos (show gS x = true from hx), fd_56.2]) (rf_up ⟨rfl, rfl, rfl, rfl, rfl, rfl, rfl, rfl⟩) (tX6_set l D cI cQ cL (pb b0) 86 _ 77 (by decide) row0 z0 z0 z0 z0 z0 z0 false 0 0 0 (nI 0) (rf_up ⟨rfl, rfl, rfl, rfl, rfl, rfl, rfl, rfl⟩) x (by decide)) (by rw [if_pos (show gS x = true from hx)]) rfl rfl (by decide) (by decide) trivial
  · have hx := btw_f hx
    exact stw_mk 1 (by decide) (tL_set_x l D cI cQ cL (pb b0) 86 _ (by decide) _ fm_0 x eA 1 ⟨rfl, rfl⟩ (tX5_setX_b1 l hst D cI cQ cL (pb b0) 86 _ (by decide) row0 (mB 16) (mV 16) z0 z0 z0 0 (nI 0) (nI 3) fm_N (mC 16) (mB 16) (mV 16) z0 z0 z0 0 (nI 0) (nI 3) fm_S 0 0 (by decide) (by decide) fm_P z0 0 (by decide) fm_T (mC 16) (mB 16) (mV 16) fm_M z0 z0 z0 fm_O false fm_0 x hx) rfl rfl (by decide) (by decide)) fm_85 (fun h => absurd h (by decide)) fm_r (tX6_set l D cI cQ cL (pb b0) 86 _ 77 (by decide) row0 z0 z0 z0 z0 z0 z0 false 0 0 0 (nI 0) fm_r x (by decide)) (by rw [if_neg (show ¬ gS x = true by unfold gS; rw [hx]; decide)]) rfl rfl (by decide) (by decide) trivial
theorem gP_ok {r : Nat → Int32} {w x y : Nat} (hw : w < 16) (hx : x < 13) (hy : y < 13) : gP r (nI w) (nI x) (nI y) = (!(over r) && !(rcv r w)) := by
  unfold gP
  rw [if_pos (btw_nI (by omega)), if_pos (btw_nI (by omega)), if_pos (btw_nI (by omega)), ixn (by omega)]
  cases over r <;> cases rcv r w <;> rfl
theorem tPu_ok {r : Nat → Int32} {w x y : Nat} (hw : w < 16) (hx : x < 13) (hy : y < 13) : tPu r (nI w) (nI x) (nI y) = if (!(over r) && !(rcv r w)) = true then nI 0 else nI 2 := by
  unfold tPu
  rw [if_pos (btw_nI (by omega)), if_pos (btw_nI (by omega)), if_pos (btw_nI (by omega)), ixn (by omega)]
  cases over r <;> cases rcv r w <;> rfl
set_option maxRecDepth 100000 in
theorem p1_put (l : Launch) (hst : l.stackTraces = false) (D : va_G) (cI cQ cL : ClassId) (b0 : Nat) (x y z : Int32) : STw l D cI cQ cL (pb b0) 86 yL_put cL_put 6 [(0, 12, 15, 13), (0, 12, 19, 17)] yX6_put cX6_put 4 (FM cI cQ cL b0) (fun _ => True) [.int x, .int y, .int z] := by
  by_cases hx : wk x = true
  · obtain ⟨w, hw, rfl⟩ := wk_of hx
    have hb := (btw_wk _).trans hx
    by_cases h1 : btw y (nI 0) (nI 12) = true
    · by_cases h2 : btw z (nI 0) (nI 12) = true
      · have hon := on_tt h1 h2
        obtain ⟨a, rfl, -, ha⟩ := btw_of (by decide) (by decide) h1
        obtain ⟨b, rfl, -, hb2⟩ := btw_of (by decide) (by decide) h2
        have hrv := fd_cov w hw
        by_cases hcv : cov (mV 16) w = true
        · exact stw_mk 2 (by decide) (tL_put_x l D cI cQ cL (pb b0) 86 _ (by decide) _ fm_0 (nI w) (nI a) (nI b) eS 2 (Or.inr ⟨rfl, rfl⟩) (tX5_putX_b4 l hst D cI cQ cL (pb b0) 86 _ (by decide) row0 (mB 16) (mV 16) z0 z0 z0 0 (nI 0) (nI 3) fm_N (mC 16) (mB 16) (mV 16) z0 z0 z0 0 (nI 0) (nI 3) fm_S 0 0 (by decide) (by decide) fm_P z0 0 (by decide) fm_T (mC 16) (mB 16) (mV 16) fm_M z0 z0 z0 fm_O false fm_0 (nI w) w rfl hw (nI a) (nI b) hon fd_over hcv) rfl rfl (by decide) (by decide)) fm_85 (fun h => absurd h (by decide)) fm_r (tX6_put l D cI cQ cL (pb b0) 86 _ 77 (by decide) row0 z0 z0 z0 z0 z0 z0 false 0 0 0 (nI 0) fm_r (nI w) (nI a) (nI b) (by decide)) (by rw [tPu_ok hw (by omega) (by omega), if_neg (by rw [← hrv, hcv, fd_over]; decide)]) rfl rfl (by decide) (by decide) trivial
        · have hcv := bool_f hcv
          have hg : (!(over row0) && !(rcv row0 w)) = true := by rw [← hrv, hcv, fd_over]; rfl
          have hg2 : gP row0 (nI w) (nI a) (nI b) = true := (gP_ok hw (by omega) (by omega)).trans hg
          exact stw_mk 0 (by decide) (tL_put l D cI cQ cL (pb b0) 86 _ (by decide) _ fm_0 (nI w) (nI a) (nI b) _ _ rfl _ (tX5_put l D cI cQ cL (pb b0) 86 _ (by decide) row0 (mB 16) (mV 16) z0 z0 z0 0 (nI 0) (nI 3) fm_N (mC 16) (mB 16) (mV 16) z0 z0 z0 0 (nI 0) (nI 3) fm_S 0 0 (by decide) (by decide) fm_P z0 0 (by decide) fm_T (mC 16) (mB 16) (mV 16) fm_M z0 z0 z0 fm_O false fm_0 (mC 16) (mB 16) (mV 16) z0 z0 z0 0 (nI 0) (nI 3) fm_R (nI w) w rfl hw (nI a) (nI b) hon fd_over hcv) rfl rfl (by decide) (by decide)) (va_up_self _ _ _) (fun _ => by rw [pk_uLs]; rw [if_pos hg2, cat_n, ixn (by omega), pk_mul, nI_add, fd_put w hw (fd_unc w hw hcv) (13 * b + a) (by omega)]) (rf_up ⟨rfl, rfl, rfl, rfl, rfl, rfl, rfl, rfl⟩) (tX6_put l D cI cQ cL (pb b0) 86 _ 77 (by decide) row0 z0 z0 z0 z0 z0 z0 false 0 0 0 (nI 0) (rf_up ⟨rfl, rfl, rfl, rfl, rfl, rfl, rfl, rfl⟩) (nI w) (nI a) (nI b) (by decide)) (by rw [tPu_ok hw (by omega) (by omega), if_pos hg]) rfl rfl (by decide) (by decide) trivial
      · have h2 := btw_f h2
        exact stw_mk 1 (by decide) (tL_put_x l D cI cQ cL (pb b0) 86 _ (by decide) _ fm_0 (nI w) y z eI 1 (Or.inl ⟨rfl, rfl⟩) (tX5_putX_b2 l hst D cI cQ cL (pb b0) 86 _ (by decide) row0 (mB 16) (mV 16) z0 z0 z0 0 (nI 0) (nI 3) fm_N (mC 16) (mB 16) (mV 16) z0 z0 z0 0 (nI 0) (nI 3) fm_S 0 0 (by decide) (by decide) fm_P z0 0 (by decide) fm_T (mC 16) (mB 16) (mV 16) fm_M z0 z0 z0 fm_O false fm_0 (nI w) w rfl hw y z (on_f2 h2)) rfl rfl (by decide) (by decide)) fm_85 (fun h => absurd h (by decide)) fm_r (tX6_put l D cI cQ cL (pb b0) 86 _ 77 (by decide) row0 z0 z0 z0 z0 z0 z0 false 0 0 0 (nI 0) fm_r (nI w) y z (by decide)) (by simp [tPu, hb, h1, h2]) rfl rfl (by decide) (by decide) trivial
    · have h1 := btw_f h1
      exact stw_mk 1 (by decide) (tL_put_x l D cI cQ cL (pb b0) 86 _ (by decide) _ fm_0 (nI w) y z eI 1 (Or.inl ⟨rfl, rfl⟩) (tX5_putX_b2 l hst D cI cQ cL (pb b0) 86 _ (by decide) row0 (mB 16) (mV 16) z0 z0 z0 0 (nI 0) (nI 3) fm_N (mC 16) (mB 16) (mV 16) z0 z0 z0 0 (nI 0) (nI 3) fm_S 0 0 (by decide) (by decide) fm_P z0 0 (by decide) fm_T (mC 16) (mB 16) (mV 16) fm_M z0 z0 z0 fm_O false fm_0 (nI w) w rfl hw y z (on_f1 h1)) rfl rfl (by decide) (by decide)) fm_85 (fun h => absurd h (by decide)) fm_r (tX6_put l D cI cQ cL (pb b0) 86 _ 77 (by decide) row0 z0 z0 z0 z0 z0 z0 false 0 0 0 (nI 0) fm_r (nI w) y z (by decide)) (by simp [tPu, hb, h1]) rfl rfl (by decide) (by decide) trivial
  · have hx := bool_f hx
    have hb := (btw_wk _).trans hx
    exact stw_mk 1 (by decide) (tL_put_x l D cI cQ cL (pb b0) 86 _ (by decide) _ fm_0 x y z eI 1 (Or.inl ⟨rfl, rfl⟩) (tX5_putX_b1 l hst D cI cQ cL (pb b0) 86 _ (by decide) row0 (mB 16) (mV 16) z0 z0 z0 0 (nI 0) (nI 3) fm_N (mC 16) (mB 16) (mV 16) z0 z0 z0 0 (nI 0) (nI 3) fm_S 0 0 (by decide) (by decide) fm_P z0 0 (by decide) fm_T (mC 16) (mB 16) (mV 16) fm_M z0 z0 z0 fm_O false fm_0 x y z hx) rfl rfl (by decide) (by decide)) fm_85 (fun h => absurd h (by decide)) fm_r (tX6_put l D cI cQ cL (pb b0) 86 _ 77 (by decide) row0 z0 z0 z0 z0 z0 z0 false 0 0 0 (nI 0) fm_r x y z (by decide)) (by simp [tPu, hb]) rfl rfl (by decide) (by decide) trivial
set_option maxRecDepth 100000 in
theorem p1_append (l : Launch) (hst : l.stackTraces = false) (D : va_G) (cI cQ cL : ClassId) (b0 : Nat) (x : Int32) : STw l D cI cQ cL (pb b0) 86 yL_append cL_append 4 [(0, 9, 12, 15), (0, 9, 15, 17)] yX6_append cX6_append 2 (FM cI cQ cL b0) (fun _ => True) [.int x] := by
  by_cases hx : btw x (nI 33) (nI 126) = true
  · exact stw_mk 0 (by decide) (tL_append l D cI cQ cL (pb b0) 86 _ (by decide) _ fm_0 x _ _ rfl _ (tX5_append l D cI cQ cL (pb b0) 86 _ (by decide) row0 (mB 16) (mV 16) z0 z0 z0 0 (nI 0) (nI 3) fm_N (mC 16) (mB 16) (mV 16) z0 z0 z0 0 (nI 0) (nI 3) fm_S 0 0 (by decide) (by decide) fm_P z0 0 (by decide) fm_T (mC 16) (mB 16) (mV 16) fm_M z0 z0 z0 fm_O false fm_0 x hx (by decide)) rfl rfl (by decide) (by decide)) (va_up_self _ _ _) (fun _ => by rw [pk_uLs]; rw [if_pos (by rw [hx]; rfl)]) (rf_up ⟨rfl, rfl, rfl, rfl, rfl, rfl, rfl, rfl⟩) (tX6_append l D cI cQ cL (pb b0) 86 _ 77 (by decide) row0 z0 z0 z0 z0 z0 z0 false 0 0 0 (nI 0) (rf_up ⟨rfl, rfl, rfl, rfl, rfl, rfl, rfl, rfl⟩) x (by decide)) (by rw [if_pos hx]; rfl) rfl rfl (by decide) (by decide) trivial
  · have hx := btw_f hx
    exact stw_mk 1 (by decide) (tL_append_x l D cI cQ cL (pb b0) 86 _ (by decide) _ fm_0 x eA 1 (Or.inl ⟨rfl, rfl⟩) (tX5_appendX_b1 l hst D cI cQ cL (pb b0) 86 _ (by decide) row0 (mB 16) (mV 16) z0 z0 z0 0 (nI 0) (nI 3) fm_N (mC 16) (mB 16) (mV 16) z0 z0 z0 0 (nI 0) (nI 3) fm_S 0 0 (by decide) (by decide) fm_P z0 0 (by decide) fm_T (mC 16) (mB 16) (mV 16) fm_M z0 z0 z0 fm_O false fm_0 x hx) rfl rfl (by decide) (by decide)) fm_85 (fun h => absurd h (by decide)) fm_r (tX6_append l D cI cQ cL (pb b0) 86 _ 77 (by decide) row0 z0 z0 z0 z0 z0 z0 false 0 0 0 (nI 0) fm_r x (by decide)) (by rw [if_neg (by rw [hx]; decide)]) rfl rfl (by decide) (by decide) trivial
set_option maxRecDepth 100000 in
theorem p1_play (l : Launch) (hst : l.stackTraces = false) (D : va_G) (cI cQ cL : ClassId) (b0 : Nat) : STw l D cI cQ cL (pb b0) 86 yL_play cL_play 3 [(0, 8, 11, 15)] yX6_play cX6_play 3 (FM cI cQ cL b0) (fun _ => True) [] := by
  exact stw_mk 1 (by decide) (tL_play_x l D cI cQ cL (pb b0) 86 _ (by decide) _ fm_0 eA 1 ⟨rfl, rfl⟩ (tX5_playX_b1 l hst D cI cQ cL (pb b0) 86 _ (by decide) row0 (mB 16) (mV 16) z0 z0 z0 0 (nI 0) (nI 3) fm_N (mC 16) (mB 16) (mV 16) z0 z0 z0 0 (nI 0) (nI 3) fm_S 0 0 (by decide) (by decide) fm_P z0 0 (by decide) fm_T (mC 16) (mB 16) (mV 16) fm_M z0 z0 z0 fm_O false fm_0 (by decide +kernel)) rfl rfl (by decide) (by decide)) fm_85 (fun h => absurd h (by decide)) fm_r (tX6_playX l D cI cQ cL (pb b0) 86 _ 77 (by decide) row0 z0 z0 z0 z0 z0 z0 false 0 0 0 (nI 0) fm_r (by decide) (by decide +kernel)) rfl rfl rfl (by decide) (by decide) trivial
set_option maxRecDepth 100000 in
theorem p1_goBack (l : Launch) (hst : l.stackTraces = false) (D : va_G) (cI cQ cL : ClassId) (b0 : Nat) : STw l D cI cQ cL (pb b0) 86 yL_goBack cL_goBack 3 [(0, 8, 11, 17)] yX6_goBack cX6_goBack 2 (FM cI cQ cL b0) (fun _ => True) [] := by
  exact stw_mk 1 (by decide) (tL_goBack_x l D cI cQ cL (pb b0) 86 _ (by decide) _ fm_0 eS 1 ⟨rfl, rfl⟩ (tX5_goBackX_b1 l hst D cI cQ cL (pb b0) 86 _ (by decide) row0 (mB 16) (mV 16) z0 z0 z0 0 (nI 0) (nI 3) fm_N (mC 16) (mB 16) (mV 16) z0 z0 z0 0 (nI 0) (nI 3) fm_S 0 0 (by decide) (by decide) fm_P z0 0 (by decide) fm_T (mC 16) (mB 16) (mV 16) fm_M z0 z0 z0 fm_O false fm_0 rfl) rfl rfl (by decide) (by decide)) fm_85 (fun h => absurd h (by decide)) fm_r (tX6_goBackX l D cI cQ cL (pb b0) 86 _ 77 (by decide) row0 z0 z0 z0 z0 z0 z0 false 0 0 0 (nI 0) fm_r rfl) rfl rfl rfl (by decide) (by decide) trivial
set_option maxRecDepth 100000 in
theorem p1_undo (l : Launch) (hst : l.stackTraces = false) (D : va_G) (cI cQ cL : ClassId) (b0 : Nat) : STw l D cI cQ cL (pb b0) 86 yL_undo cL_undo 3 [(0, 8, 11, 17)] yX6_undo cX6_undo 2 (FM cI cQ cL b0) (fun _ => True) [] := by
  exact stw_mk 1 (by decide) (tL_undo_x l D cI cQ cL (pb b0) 86 _ (by decide) _ fm_0 eS 1 ⟨rfl, rfl⟩ (tX5_undoX_b1 l hst D cI cQ cL (pb b0) 86 _ (by decide) row0 (mB 16) (mV 16) z0 z0 z0 0 (nI 0) (nI 3) fm_N (mC 16) (mB 16) (mV 16) z0 z0 z0 0 (nI 0) (nI 3) fm_S 0 0 (by decide) (by decide) fm_P z0 0 (by decide) fm_T (mC 16) (mB 16) (mV 16) fm_M z0 z0 z0 fm_O false fm_0 rfl) rfl rfl (by decide) (by decide)) fm_85 (fun h => absurd h (by decide)) fm_r (tX6_undoX l D cI cQ cL (pb b0) 86 _ 77 (by decide) row0 z0 z0 z0 z0 z0 z0 false 0 0 0 (nI 0) fm_r rfl) rfl rfl rfl (by decide) (by decide) trivial
theorem stw_mk2 {l : Launch} {D : va_G} {cI cQ cL : ClassId} {ad : Nat → Nat} {yL : MethodName} {bL : ByteArray} {mL : Nat} {hh : List (Nat × Nat × Nat × Nat)} {y6 : MethodName} {b6 : ByteArray} {m6 : Nat} {F : Nat → va_E} {INV : (Nat → va_E) → Prop} {As : List Value} {F1 : Nat → va_E} {o : Nat → Int64} {b : Int32}
    (hML : ML l yL (Cond.codeWith yL bL mL (some .int) hh :: LW) RML D cI cQ cL ad 86 F (.ref (ad 0) :: (As ++ [.ref (ad 85)])) (nI 0) F1 1 6) (ho : F1 85 = .inl (cL, 1, .inr (.inl o))) (hob : o 0 = b.toInt64) {r0 ps0 sl0 sd0 ne0 fa0 bu0 : Nat → Int32} {hs0 : Bool} {st0 ln0 pt0 : Nat} {th0 : Int32} (hR : rfAt cI ad F1 77 r0 ps0 sl0 sd0 ne0 fa0 bu0 hs0 st0 ln0 pt0 th0) {r ps sl sd bu : Nat → Int32} {hs : Bool} {st ln pt : Nat} {rm6 : Room}
    (hM6 : MX l y6 (Cond.code y6 b6 m6 (some .int) :: AW) rm6 D cI cQ cL ad 86 F1 (.ref (ad 77) :: As) (fun v9 G9 => v9 = some (.int b) ∧ ∃ ne9 fa9, G9 = rfSet cI ad F1 77 r ps sl sd ne9 fa9 bu hs st ln pt (nI 0)) 0 0) (e1 : rm6.cells = 0) (e2 : rm6.slots = 0) (e3 : rm6.frames + 1 ≤ 13) (e4 : 8 + (m6 + 11) + rm6.locals ≤ 476) (hINV : ∀ ne9 fa9, INV (rfSet cI ad F1 77 r ps sl sd ne9 fa9 bu hs st ln pt (nI 0))) : STw l D cI cQ cL ad 86 yL bL mL hh y6 b6 m6 F INV As :=
  ⟨0, b, F1, o, _, _, rm6, by decide, ho, fun _ => hob, hML, hR.1, hM6, e1, e2, e3, e4, fun v G hp => by
    obtain ⟨rfl, ne9, fa9, rfl⟩ := hp
    exact ⟨rfl, hINV ne9 fa9, rfSet_out (by omega), r, ps, sl, sd, ne9, fa9, bu, hs, st, ln, pt, rfSet_at⟩⟩
theorem fd_pot : ∀ w, w < 16 → pot row0 w = false := by decide +kernel
theorem fd_bs : ∀ w, w < 16 → bs (w / 4) < 169 ∧ bs (w / 4) ≠ 84 := by decide
set_option maxRecDepth 100000 in
theorem p1_flightsTo (l : Launch) (hst : l.stackTraces = false) (D : va_G) (cI cQ cL : ClassId) (b0 : Nat) (x : Int32) : STw l D cI cQ cL (pb b0) 86 yL_flightsTo cL_flightsTo 4 [(0, 9, 12, 13)] yX6_flightsTo cX6_flightsTo 2 (FM cI cQ cL b0) (fun _ => True) [.int x] := by
  by_cases hx : wk x = true
  · obtain ⟨w, hw, rfl⟩ := wk_of hx
    obtain ⟨n, hn⟩ := fwr_all w (fd_bs w hw).1
    have hix : ix (row0 w) = bs (w / 4) := by rw [fd_c9 w hw]; exact ixn (by have := (fd_bs w hw).1; omega)
    have hM := (tX5_flightsTo l D cI cQ cL (pb b0) 86 (FM cI cQ cL b0) (by decide) row0 (mB 16) (mV 16) z0 z0 z0 0 (nI 0) (nI 3) (fm_N (cQ := cQ) (cL := cL)) (mC 16) (mB 16) (mV 16) z0 z0 z0 0 (nI 0) (nI 3) fm_S 0 0 (by decide) (by decide) fm_P z0 0 (by decide) fm_T (mC 16) (mB 16) (mV 16) fm_M z0 z0 z0 fm_O false fm_0 (nI w) w rfl hw (fun _ => ⟨bs (w / 4), (fd_bs w hw).1, fd_c9 w hw⟩) (fd_pot w hw))
    obtain ⟨n', g1, g2, -⟩ := few_ok (d := z0) (qq := z0) (KNa_0 (a := z0) (fun _ _ => rfl)) hw (fd_bs w hw).1
    rw [hix] at hM
    exact stw_mk2 (tL_flightsTo l D cI cQ cL (pb b0) 86 _ (by decide) _ fm_0 (nI w) _ _ rfl _ hM rfl rfl (by decide) (by decide)) (va_up_self _ _ _) (by rw [pk_uLs, fwr_un hn g1]; exact congrArg Int32.toInt64 g2) (rf_up ⟨rfl, rfl, rfl, rfl, rfl, rfl, rfl, rfl⟩) (tX6_flightsTo l D cI cQ cL (pb b0) 86 _ 77 (by decide) row0 z0 z0 z0 z0 z0 z0 false 0 0 0 (nI 0) (rf_up ⟨rfl, rfl, rfl, rfl, rfl, rfl, rfl, rfl⟩) (nI w) w rfl hw (bs (w / 4)) n (fd_c9 w hw) (fd_bs w hw).1 (fd_bs w hw).2 (fd_pot w hw) hn) rfl rfl (by decide) (by decide) (fun _ _ => trivial)
  · have hx := bool_f hx
    have hb := (btw_wk _).trans hx
    exact stw_mk 1 (by decide) (tL_flightsTo_x l D cI cQ cL (pb b0) 86 _ (by decide) _ fm_0 x eI 1 ⟨rfl, rfl⟩ (tX5_flightsToX_b1 l hst D cI cQ cL (pb b0) 86 _ (by decide) row0 (mB 16) (mV 16) z0 z0 z0 0 (nI 0) (nI 3) fm_N (mC 16) (mB 16) (mV 16) z0 z0 z0 0 (nI 0) (nI 3) fm_S 0 0 (by decide) (by decide) fm_P z0 0 (by decide) fm_T (mC 16) (mB 16) (mV 16) fm_M z0 z0 z0 fm_O false fm_0 x hx) rfl rfl (by decide) (by decide)) fm_85 (fun h => absurd h (by decide)) fm_r (tX6_flightsToX l D cI cQ cL (pb b0) 86 _ 77 (by decide) row0 z0 z0 z0 z0 z0 z0 false 0 0 0 (nI 0) fm_r x hb) rfl rfl rfl (by decide) (by decide) trivial
