set_option maxRecDepth 100000 in
set_option maxHeartbeats 4000000 in
theorem tX6_base (l : Launch) (x : Int32) (w : Nat) (hxw : x = nI w) (hw : w < 4) : MP l yX6_base (Cond.code yX6_base cX6_base 1 (some .int) :: AW) ({ frames := 0, cells := 0, slots := 0, locals := 0 } : Room) [.int x] (.int (nI (bs w))) := by
  refine mp_i (ty := .int) (by decide +kernel) rfl rfl rfl rfl (Nat.le_of_ble_eq_true rfl) (fun p e s m below meth cd Q ls hx hb hml hown hts hret hl => ?_)
  have hown : s.vm.findClass RX6 = some m.cls := hown
  subst hxw
  have hl : lv_has ls 1 [(0, .int (nI w))] := hl
  refine lv_iload_n hx hb (dk kX6_base_ok 0 rfl) rfl (lv_at hl 0 rfl) ?_
  refine n_if_ne (tgt := 8) hx hb (by omega) (dk kX6_base_ok 1 rfl) (by decide) (fun h1 => ?_) (fun h1 => ?_)
  · skip
    refine lv_iload_n hx hb (dk kX6_base_ok 4 rfl) rfl (lv_at hl 0 rfl) ?_
    refine lv_iconst (v := nI 1) hx hb (dk kX6_base_ok 5 rfl) rfl ?_
    refine n_icmp_ne (tgt := 18) hx hb (by omega) (by decide) (dk kX6_base_ok 6 rfl) (by decide) (fun h2 => ?_) (fun h2 => ?_)
    · skip
      refine lv_iload_n hx hb (dk kX6_base_ok 9 rfl) rfl (lv_at hl 0 rfl) ?_
      refine lv_iconst (v := nI 2) hx hb (dk kX6_base_ok 10 rfl) rfl ?_
      refine n_icmp_ne (tgt := 29) hx hb (by omega) (by decide) (dk kX6_base_ok 11 rfl) (by decide) (fun h3 => ?_) (fun h3 => ?_)
      · skip
        refine lv_sipush (v := nI 156) hx hb (dk kX6_base_ok 14 rfl) rfl ?_
        exact hret _ _ _ (by rcases (show w = 0 ∨ w = 1 ∨ w = 2 ∨ w = 3 by omega) with rfl | rfl | rfl | rfl <;> first | rfl | (exfalso; revert h1 h2 h3; decide)) (dk kX6_base_ok 15 rfl)
      · skip
        refine lv_sipush (v := nI 168) hx hb (dk kX6_base_ok 12 rfl) rfl ?_
        refine lv_goto (tgt := 32) hx hb (dk kX6_base_ok 13 rfl) (by decide) ?_
        exact hret _ _ _ (by rcases (show w = 0 ∨ w = 1 ∨ w = 2 ∨ w = 3 by omega) with rfl | rfl | rfl | rfl <;> first | rfl | (exfalso; revert h1 h2 h3; decide)) (dk kX6_base_ok 15 rfl)
    · skip
      refine lv_bipush (v := nI 12) hx hb (dk kX6_base_ok 7 rfl) rfl ?_
      refine lv_goto (tgt := 32) hx hb (dk kX6_base_ok 8 rfl) (by decide) ?_
      exact hret _ _ _ (by rcases (show w = 0 ∨ w = 1 ∨ w = 2 ∨ w = 3 by omega) with rfl | rfl | rfl | rfl <;> first | rfl | (exfalso; revert h1 h2; decide)) (dk kX6_base_ok 15 rfl)
  · skip
    refine lv_iconst (v := nI 0) hx hb (dk kX6_base_ok 2 rfl) rfl ?_
    refine lv_goto (tgt := 32) hx hb (dk kX6_base_ok 3 rfl) (by decide) ?_
    exact hret _ _ _ (by rcases (show w = 0 ∨ w = 1 ∨ w = 2 ∨ w = 3 by omega) with rfl | rfl | rfl | rfl <;> first | rfl | (exfalso; revert h1; decide)) (dk kX6_base_ok 15 rfl)
set_option maxRecDepth 100000 in
set_option maxHeartbeats 4000000 in
theorem tX6_in (l : Launch) (x a b : Int32) : MP l yX6_in (Cond.code yX6_in cX6_in 3 (some .boolean) :: AW) ({ frames := 0, cells := 0, slots := 0, locals := 0 } : Room) [.int x, .int a, .int b] (.int (bI (btw x a b))) := by
  refine mp_i (ty := .boolean) (by decide +kernel) rfl rfl rfl (bI_nar _) (Nat.le_of_ble_eq_true rfl) (fun p e s m below meth cd Q ls hx hb hml hown hts hret hl => ?_)
  have hown : s.vm.findClass RX6 = some m.cls := hown
  have hl : lv_has ls 3 [(0, .int x), (1, .int a), (2, .int b)] := hl
  refine lv_iload_n hx hb (dk kX6_in_ok 0 rfl) rfl (lv_at hl 0 rfl) ?_
  refine lv_iload_n hx hb (dk kX6_in_ok 1 rfl) rfl (lv_at hl 1 rfl) ?_
  refine lv_icmp_lt (tgt := 14) hx hb (dk kX6_in_ok 2 rfl) (by decide) (fun h1 => ?_) (fun h1 => ?_)
  · skip
    refine lv_iconst (v := nI 0) hx hb (dk kX6_in_ok 8 rfl) rfl ?_
    exact hret _ _ _ (by simp only [btw, (eq_true h1), decide_true, decide_false, not_true_eq_false, not_false_eq_true, and_true, true_and, and_false, false_and, or_true, true_or, or_false, false_or, and_self, or_self, if_true, if_false, Bool.false_eq_true, reduceIte, Bool.not_true, Bool.not_false, Bool.and_true, Bool.true_and, Bool.and_false, Bool.false_and]; rfl) (dk kX6_in_ok 9 rfl)
  · skip
    refine lv_iload_n hx hb (dk kX6_in_ok 3 rfl) rfl (lv_at hl 0 rfl) ?_
    refine lv_iload_n hx hb (dk kX6_in_ok 4 rfl) rfl (lv_at hl 2 rfl) ?_
    refine lv_icmp_gt (tgt := 14) hx hb (dk kX6_in_ok 5 rfl) (by decide) (fun h2 => ?_) (fun h2 => ?_)
    · skip
      refine lv_iconst (v := nI 0) hx hb (dk kX6_in_ok 8 rfl) rfl ?_
      exact hret _ _ _ (by simp only [btw, (eq_false h1), (eq_true h2), decide_true, decide_false, not_true_eq_false, not_false_eq_true, and_true, true_and, and_false, false_and, or_true, true_or, or_false, false_or, and_self, or_self, if_true, if_false, Bool.false_eq_true, reduceIte, Bool.not_true, Bool.not_false, Bool.and_true, Bool.true_and, Bool.and_false, Bool.false_and]; rfl) (dk kX6_in_ok 9 rfl)
    · skip
      refine lv_iconst (v := nI 1) hx hb (dk kX6_in_ok 6 rfl) rfl ?_
      refine lv_goto (tgt := 15) hx hb (dk kX6_in_ok 7 rfl) (by decide) ?_
      exact hret _ _ _ (by simp only [btw, (eq_false h1), (eq_false h2), decide_true, decide_false, not_true_eq_false, not_false_eq_true, and_true, true_and, and_false, false_and, or_true, true_or, or_false, false_or, and_self, or_self, if_true, if_false, Bool.false_eq_true, reduceIte, Bool.not_true, Bool.not_false, Bool.and_true, Bool.true_and, Bool.and_false, Bool.false_and]; rfl) (dk kX6_in_ok 9 rfl)
set_option maxRecDepth 100000 in
set_option maxHeartbeats 4000000 in
theorem tX6_eastOf (l : Launch) (x : Int32) (w : Nat) (hxw : x = nI w) (hw : w < 8) : MP l yX6_eastOf (Cond.code yX6_eastOf cX6_eastOf 1 (some .int) :: AW) ({ frames := 0, cells := 0, slots := 0, locals := 0 } : Room) [.int x] (.int (ea (nI w))) := by
  refine mp_i (ty := .int) (by decide +kernel) rfl rfl rfl rfl (Nat.le_of_ble_eq_true rfl) (fun p e s m below meth cd Q ls hx hb hml hown hts hret hl => ?_)
  have hown : s.vm.findClass RX6 = some m.cls := hown
  subst hxw
  have hl : lv_has ls 1 [(0, .int (nI w))] := hl
  refine lv_iload_n hx hb (dk kX6_eastOf_ok 0 rfl) rfl (lv_at hl 0 rfl) ?_
  refine lv_iconst (v := nI 4) hx hb (dk kX6_eastOf_ok 1 rfl) rfl ?_
  refine n_irem hx hb (by omega) (by decide) (by decide) (dk kX6_eastOf_ok 2 rfl) ?_
  refine n_if_ne (tgt := 10) hx hb (by omega) (dk kX6_eastOf_ok 3 rfl) (by decide) (fun h1 => ?_) (fun h1 => ?_)
  · skip
    refine lv_iload_n hx hb (dk kX6_eastOf_ok 6 rfl) rfl (lv_at hl 0 rfl) ?_
    refine lv_iconst (v := nI 4) hx hb (dk kX6_eastOf_ok 7 rfl) rfl ?_
    refine n_icmp_ge (tgt := 19) hx hb (by omega) (by decide) (dk kX6_eastOf_ok 8 rfl) (by decide) (fun h2 => ?_) (fun h2 => ?_)
    · skip
      refine lv_iconst (v := -1) hx hb (dk kX6_eastOf_ok 11 rfl) rfl ?_
      exact hret _ _ _ (by first | exact (ea_0 hw (by assumption)).symm | exact (ea_1 hw (by assumption) (by omega)).symm | exact (ea_2 hw (by assumption) (by omega)).symm) (dk kX6_eastOf_ok 12 rfl)
    · skip
      refine lv_iconst (v := nI 1) hx hb (dk kX6_eastOf_ok 9 rfl) rfl ?_
      refine lv_goto (tgt := 20) hx hb (dk kX6_eastOf_ok 10 rfl) (by decide) ?_
      exact hret _ _ _ (by first | exact (ea_0 hw (by assumption)).symm | exact (ea_1 hw (by assumption) (by omega)).symm | exact (ea_2 hw (by assumption) (by omega)).symm) (dk kX6_eastOf_ok 12 rfl)
  · skip
    refine lv_iconst (v := nI 0) hx hb (dk kX6_eastOf_ok 4 rfl) rfl ?_
    refine lv_goto (tgt := 20) hx hb (dk kX6_eastOf_ok 5 rfl) (by decide) ?_
    exact hret _ _ _ (by first | exact (ea_0 hw (by assumption)).symm | exact (ea_1 hw (by assumption) (by omega)).symm | exact (ea_2 hw (by assumption) (by omega)).symm) (dk kX6_eastOf_ok 12 rfl)
set_option maxRecDepth 100000 in
set_option maxHeartbeats 4000000 in
theorem tX6_southOf (l : Launch) (x : Int32) (w : Nat) (hxw : x = nI w) (hw : w < 8) : MP l yX6_southOf (Cond.code yX6_southOf cX6_southOf 1 (some .int) :: AW) ({ frames := 0, cells := 0, slots := 0, locals := 0 } : Room) [.int x] (.int (so (nI w))) := by
  refine mp_i (ty := .int) (by decide +kernel) rfl rfl rfl rfl (Nat.le_of_ble_eq_true rfl) (fun p e s m below meth cd Q ls hx hb hml hown hts hret hl => ?_)
  have hown : s.vm.findClass RX6 = some m.cls := hown
  subst hxw
  have hl : lv_has ls 1 [(0, .int (nI w))] := hl
  refine lv_iload_n hx hb (dk kX6_southOf_ok 0 rfl) rfl (lv_at hl 0 rfl) ?_
  refine lv_iconst (v := nI 2) hx hb (dk kX6_southOf_ok 1 rfl) rfl ?_
  refine n_icmp_eq (tgt := 11) hx hb (by omega) (by decide) (dk kX6_southOf_ok 2 rfl) (by decide) (fun h1 => ?_) (fun h1 => ?_)
  · skip
    refine lv_iconst (v := nI 0) hx hb (dk kX6_southOf_ok 6 rfl) rfl ?_
    refine lv_goto (tgt := 31) hx hb (dk kX6_southOf_ok 7 rfl) (by decide) ?_
    exact hret _ _ _ (by first | exact (so_0 (by omega)).symm | exact (so_1 hw (by assumption) (by assumption) (by omega) (by omega)).symm | exact (so_2 hw (by assumption) (by assumption) (by omega)).symm) (dk kX6_southOf_ok 17 rfl)
  · skip
    refine lv_iload_n hx hb (dk kX6_southOf_ok 3 rfl) rfl (lv_at hl 0 rfl) ?_
    refine lv_bipush (v := nI 6) hx hb (dk kX6_southOf_ok 4 rfl) rfl ?_
    refine n_icmp_ne (tgt := 15) hx hb (by omega) (by decide) (dk kX6_southOf_ok 5 rfl) (by decide) (fun h2 => ?_) (fun h2 => ?_)
    · skip
      refine lv_iload_n hx hb (dk kX6_southOf_ok 8 rfl) rfl (lv_at hl 0 rfl) ?_
      refine lv_iconst (v := nI 2) hx hb (dk kX6_southOf_ok 9 rfl) rfl ?_
      refine n_icmp_le (tgt := 30) hx hb (by omega) (by decide) (dk kX6_southOf_ok 10 rfl) (by decide) (fun h3 => ?_) (fun h3 => ?_)
      · skip
        refine lv_iconst (v := -1) hx hb (dk kX6_southOf_ok 16 rfl) rfl ?_
        exact hret _ _ _ (by first | exact (so_0 (by omega)).symm | exact (so_1 hw (by assumption) (by assumption) (by omega) (by omega)).symm | exact (so_2 hw (by assumption) (by assumption) (by omega)).symm) (dk kX6_southOf_ok 17 rfl)
      · skip
        refine lv_iload_n hx hb (dk kX6_southOf_ok 11 rfl) rfl (lv_at hl 0 rfl) ?_
        refine lv_bipush (v := nI 6) hx hb (dk kX6_southOf_ok 12 rfl) rfl ?_
        refine n_icmp_ge (tgt := 30) hx hb (by omega) (by decide) (dk kX6_southOf_ok 13 rfl) (by decide) (fun h4 => ?_) (fun h4 => ?_)
        · skip
          refine lv_iconst (v := -1) hx hb (dk kX6_southOf_ok 16 rfl) rfl ?_
          exact hret _ _ _ (by first | exact (so_0 (by omega)).symm | exact (so_1 hw (by assumption) (by assumption) (by omega) (by omega)).symm | exact (so_2 hw (by assumption) (by assumption) (by omega)).symm) (dk kX6_southOf_ok 17 rfl)
        · skip
          refine lv_iconst (v := nI 1) hx hb (dk kX6_southOf_ok 14 rfl) rfl ?_
          refine lv_goto (tgt := 31) hx hb (dk kX6_southOf_ok 15 rfl) (by decide) ?_
          exact hret _ _ _ (by first | exact (so_0 (by omega)).symm | exact (so_1 hw (by assumption) (by assumption) (by omega) (by omega)).symm | exact (so_2 hw (by assumption) (by assumption) (by omega)).symm) (dk kX6_southOf_ok 17 rfl)
    · skip
      refine lv_iconst (v := nI 0) hx hb (dk kX6_southOf_ok 6 rfl) rfl ?_
      refine lv_goto (tgt := 31) hx hb (dk kX6_southOf_ok 7 rfl) (by decide) ?_
      exact hret _ _ _ (by first | exact (so_0 (by omega)).symm | exact (so_1 hw (by assumption) (by assumption) (by omega) (by omega)).symm | exact (so_2 hw (by assumption) (by assumption) (by omega)).symm) (dk kX6_southOf_ok 17 rfl)
set_option maxRecDepth 100000 in
set_option maxHeartbeats 4000000 in
theorem tX6_steps (l : Launch) (x : Int32) (w : Nat) (hxw : x = nI w) (hw : w < 2 ^ 31) (y : Int32) (f : Nat) (hyf : y = nI f) (hf : f < 2 ^ 30) : MP l yX6_steps (Cond.code yX6_steps cX6_steps 2 (some .int) :: AW) ({ frames := 0, cells := 0, slots := 0, locals := 0 } : Room) [.int x, .int y] (.int (nI (stp w f))) := by
  refine mp_i (ty := .int) (by decide +kernel) rfl rfl rfl rfl (Nat.le_of_ble_eq_true rfl) (fun p e s m below meth cd Q ls hx hb hml hown hts hret hl => ?_)
  have hown : s.vm.findClass RX6 = some m.cls := hown
  subst hxw
  subst hyf
  have hl : lv_has ls 2 [(0, .int (nI w)), (1, .int (nI f))] := hl
  refine lv_iload_n hx hb (dk kX6_steps_ok 0 rfl) rfl (lv_at hl 0 rfl) ?_
  refine lv_iconst (v := nI 4) hx hb (dk kX6_steps_ok 1 rfl) rfl ?_
  refine n_irem hx hb (by omega) (by decide) (by decide) (dk kX6_steps_ok 2 rfl) ?_
  refine lv_iconst (v := nI 2) hx hb (dk kX6_steps_ok 3 rfl) rfl ?_
  refine n_icmp_ge (tgt := 11) hx hb (by omega) (by decide) (dk kX6_steps_ok 4 rfl) (by decide) (fun h1 => ?_) (fun h1 => ?_)
  · skip
    refine lv_iload_n hx hb (dk kX6_steps_ok 7 rfl) rfl (lv_at hl 1 rfl) ?_
    refine lv_iconst (v := nI 1) hx hb (dk kX6_steps_ok 8 rfl) rfl ?_
    refine n_iadd hx hb (dk kX6_steps_ok 9 rfl) ?_
    exact hret _ _ _ (by unfold stp; split <;> first | rfl | (exfalso; omega)) (dk kX6_steps_ok 10 rfl)
  · skip
    refine lv_iload_n hx hb (dk kX6_steps_ok 5 rfl) rfl (lv_at hl 1 rfl) ?_
    refine lv_goto (tgt := 14) hx hb (dk kX6_steps_ok 6 rfl) (by decide) ?_
    exact hret _ _ _ (by unfold stp; split <;> first | rfl | (exfalso; omega)) (dk kX6_steps_ok 10 rfl)
set_option maxRecDepth 100000 in
set_option maxHeartbeats 4000000 in
theorem tX6_told (l : Launch) (q : Int32) : MP l yX6_told (Cond.code yX6_told cX6_told 1 (some .int) :: AW) ({ frames := 0, cells := 0, slots := 0, locals := 0 } : Room) [.int q] (.int (fans q)) := by
  refine mp_i (ty := .int) (by decide +kernel) rfl rfl rfl rfl (Nat.le_of_ble_eq_true rfl) (fun p e s m below meth cd Q ls hx hb hml hown hts hret hl => ?_)
  have hown : s.vm.findClass RX6 = some m.cls := hown
  have hl : lv_has ls 1 [(0, .int q)] := hl
  refine lv_iload_n hx hb (dk kX6_told_ok 0 rfl) rfl (lv_at hl 0 rfl) ?_
  refine lv_bipush (v := nI 84) hx hb (dk kX6_told_ok 1 rfl) rfl ?_
  refine lv_icmp_ne (tgt := 12) hx hb (dk kX6_told_ok 2 rfl) (by decide) (fun h1 => ?_) (fun h1 => ?_)
  · skip
    refine lv_iload_n hx hb (dk kX6_told_ok 5 rfl) rfl (lv_at hl 0 rfl) ?_
    exact hret _ _ _ (by simp [fans, h1]) (dk kX6_told_ok 6 rfl)
  · skip
    refine lv_sipush (v := nI 169) hx hb (dk kX6_told_ok 3 rfl) rfl ?_
    refine lv_goto (tgt := 13) hx hb (dk kX6_told_ok 4 rfl) (by decide) ?_
    exact hret _ _ _ (by simp [fans, h1]) (dk kX6_told_ok 6 rfl)
set_option maxRecDepth 100000 in
set_option maxHeartbeats 4000000 in
theorem tX6_leads (l : Launch) (x : Int32) (hx9 : cell9 x) (y : Int32) (d : Nat) (hyd : y = nI d) (hd : d < 8) (z : Int32) (f : Nat) (hzf : z = nI f) (hf : f < 2 ^ 31) : MP l yX6_leads (Cond.code yX6_leads cX6_leads 9 (some .int) :: AW) ({ frames := 1, cells := 0, slots := 0, locals := 22 } : Room) [.int x, .int y, .int z] (.int (ldg x (nI d) f)) := by
  refine mp_i (ty := .int) (by decide +kernel) rfl rfl rfl rfl (Nat.le_of_ble_eq_true rfl) (fun p e s m below meth cd Q ls hx hb hml hown hts hret hl => ?_)
  have hown : s.vm.findClass RX6 = some m.cls := hown
  obtain ⟨q, hq, rfl⟩ := hx9
  subst hyd
  subst hzf
  have hl : lv_has ls 9 [(0, .int (nI q)), (1, .int (nI d)), (2, .int (nI f))] := hl
  refine lv_iload_n hx hb (dk kX6_leads_0_ok 0 rfl) rfl (lv_at hl 0 rfl) ?_
  refine lv_bipush (v := nI 13) hx hb (dk kX6_leads_0_ok 1 rfl) rfl ?_
  refine n_irem hx hb (by omega) (by decide) (by decide) (dk kX6_leads_0_ok 2 rfl) ?_
  refine lv_istore_n (lv' := [(3, .int (nI (q % 13))), (0, .int (nI q)), (1, .int (nI d)), (2, .int (nI f))]) hx hb (dk kX6_leads_0_ok 3 rfl) rfl hl (by decide) rfl (fun ls hl => ?_)
  refine lv_iload_n hx hb (dk kX6_leads_0_ok 4 rfl) rfl (lv_at hl 1 rfl) ?_
  refine lv_bipush (v := nI 13) hx hb (dk kX6_leads_0_ok 5 rfl) rfl ?_
  refine n_idiv hx hb (by omega) (by decide) (by decide) (dk kX6_leads_0_ok 6 rfl) ?_
  refine lv_istore (lv' := [(4, .int (nI (q / 13))), (3, .int (nI (q % 13))), (0, .int (nI q)), (1, .int (nI d)), (2, .int (nI f))]) hx hb (dk kX6_leads_0_ok 7 rfl) hl (by decide) rfl (fun ls hl => ?_)
  refine lv_iload_n hx hb (dk kX6_leads_0_ok 8 rfl) rfl (lv_at hl 3 rfl) ?_
  refine csP (As := [.int (nI d)]) (rest := []) ⟨hx, hb, hml, hown, hts⟩ (tX6_eastOf l (nI d) d rfl (by omega)) (cwS9 1 hts mcX6_eastOf (ac19 _ (List.mem_of_getElem? (i := 6) rfl)) msX6_eastOf mini_RX6 rfl rfl hdX6_eastOf ⟨Nat.le_of_ble_eq_true rfl, Nat.le_of_ble_eq_true rfl⟩) rfl hl.1 rfl (Nat.le_of_ble_eq_true rfl) (by decide) (dk kX6_leads_0_ok 9 rfl) ?_
  refine lv_istore (lv' := [(5, .int (ea (nI d))), (4, .int (nI (q / 13))), (3, .int (nI (q % 13))), (0, .int (nI q)), (1, .int (nI d)), (2, .int (nI f))]) hx hb (dk kX6_leads_0_ok 10 rfl) hl (by decide) rfl (fun ls hl => ?_)
  refine lv_iload_n hx hb (dk kX6_leads_0_ok 11 rfl) rfl (lv_at hl 4 rfl) ?_
  refine csP (As := [.int (nI d)]) (rest := []) ⟨hx, hb, hml, hown, hts⟩ (tX6_southOf l (nI d) d rfl (by omega)) (cwS9 1 hts mcX6_southOf (ac19 _ (List.mem_of_getElem? (i := 9) rfl)) msX6_southOf mini_RX6 rfl rfl hdX6_southOf ⟨Nat.le_of_ble_eq_true rfl, Nat.le_of_ble_eq_true rfl⟩) rfl hl.1 rfl (Nat.le_of_ble_eq_true rfl) (by decide) (dk kX6_leads_0_ok 12 rfl) ?_
  refine lv_istore (lv' := [(6, .int (so (nI d))), (5, .int (ea (nI d))), (4, .int (nI (q / 13))), (3, .int (nI (q % 13))), (0, .int (nI q)), (1, .int (nI d)), (2, .int (nI f))]) hx hb (dk kX6_leads_0_ok 13 rfl) hl (by decide) rfl (fun ls hl => ?_)
  refine lv_iconst (v := nI 0) hx hb (dk kX6_leads_0_ok 14 rfl) rfl ?_
  refine lv_istore (lv' := [(7, .int (nI 0)), (6, .int (so (nI d))), (5, .int (ea (nI d))), (4, .int (nI (q / 13))), (3, .int (nI (q % 13))), (0, .int (nI q)), (1, .int (nI d)), (2, .int (nI f))]) hx hb (dk kX6_leads_0_ok 15 rfl) hl (by decide) rfl (fun ls hl => ?_)
  refine lv_iconst (v := nI 0) hx hb (dk kX6_leads_0_ok 16 rfl) rfl ?_
  refine lv_istore (lv' := [(8, .int (nI 0)), (7, .int (nI 0)), (6, .int (so (nI d))), (5, .int (ea (nI d))), (4, .int (nI (q / 13))), (3, .int (nI (q % 13))), (0, .int (nI q)), (1, .int (nI d)), (2, .int (nI f))]) hx hb (dk kX6_leads_0_ok 17 rfl) hl (by decide) rfl (fun ls hl => ?_)
  have L29 : ∀ (fu : Nat) (i : Nat) (x y u v : Int32) (b : Bool) (x7 : Int32), x7 = bI b → i ≤ f → ldg (nI q) (nI d) f = ldL (f - i) x y u v b → f - i < fu → ∀ ls : Array Slot, lv_has ls 9 [(0, .int (nI q)), (1, .int (nI d)), (2, .int (nI f)), (3, .int x), (4, .int y), (5, .int u), (6, .int v), (7, .int x7), (8, .int (nI i))] → W p l e ({ frames := 1, cells := 0, slots := 0, locals := 22 } : Room) s m ([.int (nI q), .int (nI d), .int (nI f)] : List Value).toArray below meth cd s.heap [] 0 0 Q (F0 m 29 ls []) := by
    intro fu
    induction fu with
    | zero => intros; omega
    | succ fu ih29 =>
      intro i x y u v b x7 ex7 hi hr hm29 ls hl
      subst ex7
      refine lv_iload hx hb (dk kX6_leads_0_ok 18 rfl) (lv_at hl 8 rfl) ?_
      refine lv_iload_n hx hb (dk kX6_leads_0_ok 19 rfl) rfl (lv_at hl 2 rfl) ?_
      refine n_icmp_ge (tgt := 129) hx hb (by omega) (by omega) (dk kX6_leads_0_ok 20 rfl) (by decide) (fun h1 => ?_) (fun h1 => ?_)
      · skip
        refine lv_bipush (v := nI 13) hx hb (dk kX6_leads_1_ok 13 rfl) rfl ?_
        refine lv_iload hx hb (dk kX6_leads_1_ok 14 rfl) (lv_at hl 4 rfl) ?_
        refine lv_imul hx hb (dk kX6_leads_1_ok 15 rfl) ?_
        refine lv_iload_n hx hb (dk kX6_leads_1_ok 16 rfl) rfl (lv_at hl 3 rfl) ?_
        refine lv_iadd hx hb (dk kX6_leads_1_ok 17 rfl) ?_
        exact hret _ _ _ (by first | (rw [hr, show f - i = (f - (i + 1)) + 1 by omega]; simp only [ldL, if_true]; simp (config := { decide := true }) only [(eq_true h1), (eq_false (Nat.not_lt.mpr h1)), not_true_eq_false, not_false_eq_true, and_true, true_and, and_false, false_and, or_true, true_or, or_false, false_or, and_self, or_self, if_true, if_false, Bool.false_eq_true, reduceIte]; done) | (rw [hr, show f - i = 0 by omega]; rfl)) (dk kX6_leads_1_ok 18 rfl)
      · skip
        refine lv_iload_n hx hb (dk kX6_leads_0_ok 21 rfl) rfl (lv_at hl 3 rfl) ?_
        refine lv_iload hx hb (dk kX6_leads_0_ok 22 rfl) (lv_at hl 5 rfl) ?_
        refine lv_iadd hx hb (dk kX6_leads_0_ok 23 rfl) ?_
        refine lv_iconst (v := nI 0) hx hb (dk kX6_leads_0_ok 24 rfl) rfl ?_
        refine lv_bipush (v := nI 12) hx hb (dk kX6_leads_0_ok 25 rfl) rfl ?_
        refine csP (As := [.int (x + u), .int (nI 0), .int (nI 12)]) (rest := []) ⟨hx, hb, hml, hown, hts⟩ (tX6_in l (x + u) (nI 0) (nI 12)) (cwS9 3 hts mcX6_in (ac19 _ (List.mem_of_getElem? (i := 12) rfl)) msX6_in mini_RX6 rfl rfl hdX6_in ⟨Nat.le_of_ble_eq_true rfl, Nat.le_of_ble_eq_true rfl⟩) rfl hl.1 rfl (Nat.le_of_ble_eq_true rfl) (by decide) (dk kX6_leads_0_ok 26 rfl) ?_
        refine b_if_eq (tgt := 62) hx hb (dk kX6_leads_0_ok 27 rfl) (by decide) (fun h2 => ?_) (fun h2 => ?_)
        · skip
          refine lv_iload hx hb (dk kX6_leads_0_ok 35 rfl) (lv_at hl 7 rfl) ?_
          refine b_if_eq (tgt := 69) hx hb (dk kX6_leads_0_ok 36 rfl) (by decide) (fun h3 => ?_) (fun h3 => ?_)
          · skip
            refine lv_iconst (v := nI 1) hx hb (dk kX6_leads_0_ok 39 rfl) rfl ?_
            refine lv_istore (lv' := [(7, .int (nI 1)), (0, .int (nI q)), (1, .int (nI d)), (2, .int (nI f)), (3, .int x), (4, .int y), (5, .int u), (6, .int v), (8, .int (nI i))]) hx hb (dk kX6_leads_0_ok 40 rfl) hl (by decide) rfl (fun ls hl => ?_)
            refine lv_iload hx hb (dk kX6_leads_0_ok 41 rfl) (lv_at hl 6 rfl) ?_
            refine lv_ineg hx hb (dk kX6_leads_0_ok 42 rfl) ?_
            refine lv_istore (lv' := [(5, .int (-u)), (7, .int (nI 1)), (0, .int (nI q)), (1, .int (nI d)), (2, .int (nI f)), (3, .int x), (4, .int y), (6, .int v), (8, .int (nI i))]) hx hb (dk kX6_leads_0_ok 43 rfl) hl (by decide) rfl (fun ls hl => ?_)
            refine lv_iload hx hb (dk kX6_leads_0_ok 44 rfl) (lv_at hl 7 rfl) ?_
            refine lv_ineg hx hb (dk kX6_leads_0_ok 45 rfl) ?_
            refine lv_istore (lv' := [(6, .int (-v)), (5, .int (-u)), (7, .int (nI 1)), (0, .int (nI q)), (1, .int (nI d)), (2, .int (nI f)), (3, .int x), (4, .int y), (8, .int (nI i))]) hx hb (dk kX6_leads_0_ok 46 rfl) hl (by decide) rfl (fun ls hl => ?_)
            refine lv_iload_n hx hb (dk kX6_leads_0_ok 47 rfl) rfl (lv_at hl 6 rfl) ?_
            refine lv_iload hx hb (dk kX6_leads_0_ok 48 rfl) (lv_at hl 1 rfl) ?_
            refine lv_iadd hx hb (dk kX6_leads_0_ok 49 rfl) ?_
            refine lv_iconst (v := nI 0) hx hb (dk kX6_leads_0_ok 50 rfl) rfl ?_
            refine lv_bipush (v := nI 12) hx hb (dk kX6_leads_0_ok 51 rfl) rfl ?_
            refine csP (As := [.int (x + (-u)), .int (nI 0), .int (nI 12)]) (rest := []) ⟨hx, hb, hml, hown, hts⟩ (tX6_in l (x + (-u)) (nI 0) (nI 12)) (cwS9 3 hts mcX6_in (ac19 _ (List.mem_of_getElem? (i := 12) rfl)) msX6_in mini_RX6 rfl rfl hdX6_in ⟨Nat.le_of_ble_eq_true rfl, Nat.le_of_ble_eq_true rfl⟩) rfl hl.1 rfl (Nat.le_of_ble_eq_true rfl) (by decide) (dk kX6_leads_0_ok 52 rfl) ?_
            refine b_if_eq (tgt := 109) hx hb (dk kX6_leads_0_ok 53 rfl) (by decide) (fun h4 => ?_) (fun h4 => ?_)
            · skip
              refine lv_iconst (v := -1) hx hb (dk kX6_leads_1_ok 1 rfl) rfl ?_
              exact hret _ _ _ (by first | (rw [hr, show f - i = (f - (i + 1)) + 1 by omega]; simp only [ldL, on_f1 h2, on_f2 h2, on_f1 h4, on_f2 h4]; simp (config := { decide := true }) only [(eq_true h1), (eq_false (Nat.not_le.mpr h1)), h2, h3, h4, not_true_eq_false, not_false_eq_true, and_true, true_and, and_false, false_and, or_true, true_or, or_false, false_or, and_self, or_self, if_true, if_false, Bool.false_eq_true, reduceIte]; done) | (rw [hr, show f - i = 0 by omega]; rfl)) (dk kX6_leads_1_ok 2 rfl)
            · skip
              refine lv_iload hx hb (dk kX6_leads_0_ok 54 rfl) (lv_at hl 7 rfl) ?_
              refine lv_iload hx hb (dk kX6_leads_0_ok 55 rfl) (lv_at hl 0 rfl) ?_
              refine lv_iadd hx hb (dk kX6_leads_0_ok 56 rfl) ?_
              refine lv_iconst (v := nI 0) hx hb (dk kX6_leads_0_ok 57 rfl) rfl ?_
              refine lv_bipush (v := nI 12) hx hb (dk kX6_leads_0_ok 58 rfl) rfl ?_
              refine csP (As := [.int (y + (-v)), .int (nI 0), .int (nI 12)]) (rest := []) ⟨hx, hb, hml, hown, hts⟩ (tX6_in l (y + (-v)) (nI 0) (nI 12)) (cwS9 3 hts mcX6_in (ac19 _ (List.mem_of_getElem? (i := 12) rfl)) msX6_in mini_RX6 rfl rfl hdX6_in ⟨Nat.le_of_ble_eq_true rfl, Nat.le_of_ble_eq_true rfl⟩) rfl hl.1 rfl (Nat.le_of_ble_eq_true rfl) (by decide) (dk kX6_leads_0_ok 59 rfl) ?_
              refine b_if_ne (tgt := 111) hx hb (dk kX6_leads_1_ok 0 rfl) (by decide) (fun h5 => ?_) (fun h5 => ?_)
              · skip
                refine lv_iload_n hx hb (dk kX6_leads_1_ok 3 rfl) rfl (lv_at hl 6 rfl) ?_
                refine lv_iload hx hb (dk kX6_leads_1_ok 4 rfl) (lv_at hl 1 rfl) ?_
                refine lv_iadd hx hb (dk kX6_leads_1_ok 5 rfl) ?_
                refine lv_istore_n (lv' := [(3, .int (x + (-u))), (6, .int (-v)), (5, .int (-u)), (7, .int (nI 1)), (0, .int (nI q)), (1, .int (nI d)), (2, .int (nI f)), (4, .int y), (8, .int (nI i))]) hx hb (dk kX6_leads_1_ok 6 rfl) rfl hl (by decide) rfl (fun ls hl => ?_)
                refine lv_iload hx hb (dk kX6_leads_1_ok 7 rfl) (lv_at hl 7 rfl) ?_
                refine lv_iload hx hb (dk kX6_leads_1_ok 8 rfl) (lv_at hl 1 rfl) ?_
                refine lv_iadd hx hb (dk kX6_leads_1_ok 9 rfl) ?_
                refine lv_istore (lv' := [(4, .int (y + (-v))), (3, .int (x + (-u))), (6, .int (-v)), (5, .int (-u)), (7, .int (nI 1)), (0, .int (nI q)), (1, .int (nI d)), (2, .int (nI f)), (8, .int (nI i))]) hx hb (dk kX6_leads_1_ok 10 rfl) hl (by decide) rfl (fun ls hl => ?_)
                refine lv_iinc (v := nI (i + 1)) (lv' := [(8, .int (nI (i + 1))), (4, .int (y + (-v))), (3, .int (x + (-u))), (6, .int (-v)), (5, .int (-u)), (7, .int (nI 1)), (0, .int (nI q)), (1, .int (nI d)), (2, .int (nI f))]) hx hb (dk kX6_leads_1_ok 11 rfl) hl (k := 8) rfl (n_inc _) (by decide) rfl (fun ls hl => ?_)
                refine lv_goto (tgt := 29) hx hb (dk kX6_leads_1_ok 12 rfl) (by decide) ?_
                exact ih29 (i + 1) (x + (-u)) (y + (-v)) (-u) (-v) true _ (by rfl) (by omega) (by rw [hr, show f - i = (f - (i + 1)) + 1 by omega]; simp only [ldL, on_f1 h2, on_f2 h2, on_tt h4 h5, on_tt h5 h4]; simp (config := { decide := true }) only [(eq_true h1), (eq_false (Nat.not_le.mpr h1)), h2, h3, h4, h5, not_true_eq_false, not_false_eq_true, and_true, true_and, and_false, false_and, or_true, true_or, or_false, false_or, and_self, or_self, if_true, if_false, Bool.false_eq_true, reduceIte, if_true, if_false]) (by omega) ls (lv_sub hl [6, 7, 8, 2, 1, 4, 3, 5, 0] rfl)
              · skip
                refine lv_iconst (v := -1) hx hb (dk kX6_leads_1_ok 1 rfl) rfl ?_
                exact hret _ _ _ (by first | (rw [hr, show f - i = (f - (i + 1)) + 1 by omega]; simp only [ldL, on_f1 h2, on_f2 h2, on_f1 h5, on_f2 h5]; simp (config := { decide := true }) only [(eq_true h1), (eq_false (Nat.not_le.mpr h1)), h2, h3, h4, h5, not_true_eq_false, not_false_eq_true, and_true, true_and, and_false, false_and, or_true, true_or, or_false, false_or, and_self, or_self, if_true, if_false, Bool.false_eq_true, reduceIte]; done) | (rw [hr, show f - i = 0 by omega]; rfl)) (dk kX6_leads_1_ok 2 rfl)
          · skip
            refine lv_iconst (v := -1) hx hb (dk kX6_leads_0_ok 37 rfl) rfl ?_
            exact hret _ _ _ (by first | (rw [hr, show f - i = (f - (i + 1)) + 1 by omega]; simp only [ldL, on_f1 h2, on_f2 h2]; simp (config := { decide := true }) only [(eq_true h1), (eq_false (Nat.not_le.mpr h1)), h2, h3, not_true_eq_false, not_false_eq_true, and_true, true_and, and_false, false_and, or_true, true_or, or_false, false_or, and_self, or_self, if_true, if_false, Bool.false_eq_true, reduceIte]; done) | (rw [hr, show f - i = 0 by omega]; rfl)) (dk kX6_leads_0_ok 38 rfl)
        · skip
          refine lv_iload hx hb (dk kX6_leads_0_ok 28 rfl) (lv_at hl 4 rfl) ?_
          refine lv_iload hx hb (dk kX6_leads_0_ok 29 rfl) (lv_at hl 6 rfl) ?_
          refine lv_iadd hx hb (dk kX6_leads_0_ok 30 rfl) ?_
          refine lv_iconst (v := nI 0) hx hb (dk kX6_leads_0_ok 31 rfl) rfl ?_
          refine lv_bipush (v := nI 12) hx hb (dk kX6_leads_0_ok 32 rfl) rfl ?_
          refine csP (As := [.int (y + v), .int (nI 0), .int (nI 12)]) (rest := []) ⟨hx, hb, hml, hown, hts⟩ (tX6_in l (y + v) (nI 0) (nI 12)) (cwS9 3 hts mcX6_in (ac19 _ (List.mem_of_getElem? (i := 12) rfl)) msX6_in mini_RX6 rfl rfl hdX6_in ⟨Nat.le_of_ble_eq_true rfl, Nat.le_of_ble_eq_true rfl⟩) rfl hl.1 rfl (Nat.le_of_ble_eq_true rfl) (by decide) (dk kX6_leads_0_ok 33 rfl) ?_
          refine b_if_ne (tgt := 111) hx hb (dk kX6_leads_0_ok 34 rfl) (by decide) (fun h6 => ?_) (fun h6 => ?_)
          · skip
            refine lv_iload_n hx hb (dk kX6_leads_1_ok 3 rfl) rfl (lv_at hl 3 rfl) ?_
            refine lv_iload hx hb (dk kX6_leads_1_ok 4 rfl) (lv_at hl 5 rfl) ?_
            refine lv_iadd hx hb (dk kX6_leads_1_ok 5 rfl) ?_
            refine lv_istore_n (lv' := [(3, .int (x + u)), (0, .int (nI q)), (1, .int (nI d)), (2, .int (nI f)), (4, .int y), (5, .int u), (6, .int v), (7, .int (bI b)), (8, .int (nI i))]) hx hb (dk kX6_leads_1_ok 6 rfl) rfl hl (by decide) rfl (fun ls hl => ?_)
            refine lv_iload hx hb (dk kX6_leads_1_ok 7 rfl) (lv_at hl 4 rfl) ?_
            refine lv_iload hx hb (dk kX6_leads_1_ok 8 rfl) (lv_at hl 6 rfl) ?_
            refine lv_iadd hx hb (dk kX6_leads_1_ok 9 rfl) ?_
            refine lv_istore (lv' := [(4, .int (y + v)), (3, .int (x + u)), (0, .int (nI q)), (1, .int (nI d)), (2, .int (nI f)), (5, .int u), (6, .int v), (7, .int (bI b)), (8, .int (nI i))]) hx hb (dk kX6_leads_1_ok 10 rfl) hl (by decide) rfl (fun ls hl => ?_)
            refine lv_iinc (v := nI (i + 1)) (lv' := [(8, .int (nI (i + 1))), (4, .int (y + v)), (3, .int (x + u)), (0, .int (nI q)), (1, .int (nI d)), (2, .int (nI f)), (5, .int u), (6, .int v), (7, .int (bI b))]) hx hb (dk kX6_leads_1_ok 11 rfl) hl (k := 8) rfl (n_inc _) (by decide) rfl (fun ls hl => ?_)
            refine lv_goto (tgt := 29) hx hb (dk kX6_leads_1_ok 12 rfl) (by decide) ?_
            exact ih29 (i + 1) (x + u) (y + v) u v b _ (by rfl) (by omega) (by rw [hr, show f - i = (f - (i + 1)) + 1 by omega]; simp only [ldL, on_tt h2 h6, on_tt h6 h2]; simp (config := { decide := true }) only [(eq_true h1), (eq_false (Nat.not_le.mpr h1)), h2, h6, not_true_eq_false, not_false_eq_true, and_true, true_and, and_false, false_and, or_true, true_or, or_false, false_or, and_self, or_self, if_true, if_false, Bool.false_eq_true, reduceIte, if_true, if_false]) (by omega) ls (lv_sub hl [3, 4, 5, 2, 1, 6, 7, 8, 0] rfl)
          · skip
            refine lv_iload hx hb (dk kX6_leads_0_ok 35 rfl) (lv_at hl 7 rfl) ?_
            refine b_if_eq (tgt := 69) hx hb (dk kX6_leads_0_ok 36 rfl) (by decide) (fun h7 => ?_) (fun h7 => ?_)
            · skip
              refine lv_iconst (v := nI 1) hx hb (dk kX6_leads_0_ok 39 rfl) rfl ?_
              refine lv_istore (lv' := [(7, .int (nI 1)), (0, .int (nI q)), (1, .int (nI d)), (2, .int (nI f)), (3, .int x), (4, .int y), (5, .int u), (6, .int v), (8, .int (nI i))]) hx hb (dk kX6_leads_0_ok 40 rfl) hl (by decide) rfl (fun ls hl => ?_)
              refine lv_iload hx hb (dk kX6_leads_0_ok 41 rfl) (lv_at hl 6 rfl) ?_
              refine lv_ineg hx hb (dk kX6_leads_0_ok 42 rfl) ?_
              refine lv_istore (lv' := [(5, .int (-u)), (7, .int (nI 1)), (0, .int (nI q)), (1, .int (nI d)), (2, .int (nI f)), (3, .int x), (4, .int y), (6, .int v), (8, .int (nI i))]) hx hb (dk kX6_leads_0_ok 43 rfl) hl (by decide) rfl (fun ls hl => ?_)
              refine lv_iload hx hb (dk kX6_leads_0_ok 44 rfl) (lv_at hl 7 rfl) ?_
              refine lv_ineg hx hb (dk kX6_leads_0_ok 45 rfl) ?_
              refine lv_istore (lv' := [(6, .int (-v)), (5, .int (-u)), (7, .int (nI 1)), (0, .int (nI q)), (1, .int (nI d)), (2, .int (nI f)), (3, .int x), (4, .int y), (8, .int (nI i))]) hx hb (dk kX6_leads_0_ok 46 rfl) hl (by decide) rfl (fun ls hl => ?_)
              refine lv_iload_n hx hb (dk kX6_leads_0_ok 47 rfl) rfl (lv_at hl 6 rfl) ?_
              refine lv_iload hx hb (dk kX6_leads_0_ok 48 rfl) (lv_at hl 1 rfl) ?_
              refine lv_iadd hx hb (dk kX6_leads_0_ok 49 rfl) ?_
              refine lv_iconst (v := nI 0) hx hb (dk kX6_leads_0_ok 50 rfl) rfl ?_
              refine lv_bipush (v := nI 12) hx hb (dk kX6_leads_0_ok 51 rfl) rfl ?_
              refine csP (As := [.int (x + (-u)), .int (nI 0), .int (nI 12)]) (rest := []) ⟨hx, hb, hml, hown, hts⟩ (tX6_in l (x + (-u)) (nI 0) (nI 12)) (cwS9 3 hts mcX6_in (ac19 _ (List.mem_of_getElem? (i := 12) rfl)) msX6_in mini_RX6 rfl rfl hdX6_in ⟨Nat.le_of_ble_eq_true rfl, Nat.le_of_ble_eq_true rfl⟩) rfl hl.1 rfl (Nat.le_of_ble_eq_true rfl) (by decide) (dk kX6_leads_0_ok 52 rfl) ?_
              refine b_if_eq (tgt := 109) hx hb (dk kX6_leads_0_ok 53 rfl) (by decide) (fun h8 => ?_) (fun h8 => ?_)
              · skip
                refine lv_iconst (v := -1) hx hb (dk kX6_leads_1_ok 1 rfl) rfl ?_
                exact hret _ _ _ (by first | (rw [hr, show f - i = (f - (i + 1)) + 1 by omega]; simp only [ldL, on_f1 h6, on_f2 h6, on_f1 h8, on_f2 h8]; simp (config := { decide := true }) only [(eq_true h1), (eq_false (Nat.not_le.mpr h1)), h2, h6, h7, h8, not_true_eq_false, not_false_eq_true, and_true, true_and, and_false, false_and, or_true, true_or, or_false, false_or, and_self, or_self, if_true, if_false, Bool.false_eq_true, reduceIte]; done) | (rw [hr, show f - i = 0 by omega]; rfl)) (dk kX6_leads_1_ok 2 rfl)
              · skip
                refine lv_iload hx hb (dk kX6_leads_0_ok 54 rfl) (lv_at hl 7 rfl) ?_
                refine lv_iload hx hb (dk kX6_leads_0_ok 55 rfl) (lv_at hl 0 rfl) ?_
                refine lv_iadd hx hb (dk kX6_leads_0_ok 56 rfl) ?_
                refine lv_iconst (v := nI 0) hx hb (dk kX6_leads_0_ok 57 rfl) rfl ?_
                refine lv_bipush (v := nI 12) hx hb (dk kX6_leads_0_ok 58 rfl) rfl ?_
                refine csP (As := [.int (y + (-v)), .int (nI 0), .int (nI 12)]) (rest := []) ⟨hx, hb, hml, hown, hts⟩ (tX6_in l (y + (-v)) (nI 0) (nI 12)) (cwS9 3 hts mcX6_in (ac19 _ (List.mem_of_getElem? (i := 12) rfl)) msX6_in mini_RX6 rfl rfl hdX6_in ⟨Nat.le_of_ble_eq_true rfl, Nat.le_of_ble_eq_true rfl⟩) rfl hl.1 rfl (Nat.le_of_ble_eq_true rfl) (by decide) (dk kX6_leads_0_ok 59 rfl) ?_
                refine b_if_ne (tgt := 111) hx hb (dk kX6_leads_1_ok 0 rfl) (by decide) (fun h9 => ?_) (fun h9 => ?_)
                · skip
                  refine lv_iload_n hx hb (dk kX6_leads_1_ok 3 rfl) rfl (lv_at hl 6 rfl) ?_
                  refine lv_iload hx hb (dk kX6_leads_1_ok 4 rfl) (lv_at hl 1 rfl) ?_
                  refine lv_iadd hx hb (dk kX6_leads_1_ok 5 rfl) ?_
                  refine lv_istore_n (lv' := [(3, .int (x + (-u))), (6, .int (-v)), (5, .int (-u)), (7, .int (nI 1)), (0, .int (nI q)), (1, .int (nI d)), (2, .int (nI f)), (4, .int y), (8, .int (nI i))]) hx hb (dk kX6_leads_1_ok 6 rfl) rfl hl (by decide) rfl (fun ls hl => ?_)
                  refine lv_iload hx hb (dk kX6_leads_1_ok 7 rfl) (lv_at hl 7 rfl) ?_
                  refine lv_iload hx hb (dk kX6_leads_1_ok 8 rfl) (lv_at hl 1 rfl) ?_
                  refine lv_iadd hx hb (dk kX6_leads_1_ok 9 rfl) ?_
                  refine lv_istore (lv' := [(4, .int (y + (-v))), (3, .int (x + (-u))), (6, .int (-v)), (5, .int (-u)), (7, .int (nI 1)), (0, .int (nI q)), (1, .int (nI d)), (2, .int (nI f)), (8, .int (nI i))]) hx hb (dk kX6_leads_1_ok 10 rfl) hl (by decide) rfl (fun ls hl => ?_)
                  refine lv_iinc (v := nI (i + 1)) (lv' := [(8, .int (nI (i + 1))), (4, .int (y + (-v))), (3, .int (x + (-u))), (6, .int (-v)), (5, .int (-u)), (7, .int (nI 1)), (0, .int (nI q)), (1, .int (nI d)), (2, .int (nI f))]) hx hb (dk kX6_leads_1_ok 11 rfl) hl (k := 8) rfl (n_inc _) (by decide) rfl (fun ls hl => ?_)
                  refine lv_goto (tgt := 29) hx hb (dk kX6_leads_1_ok 12 rfl) (by decide) ?_
                  exact ih29 (i + 1) (x + (-u)) (y + (-v)) (-u) (-v) true _ (by rfl) (by omega) (by rw [hr, show f - i = (f - (i + 1)) + 1 by omega]; simp only [ldL, on_tt h2 h8, on_tt h2 h9, on_f1 h6, on_f2 h6, on_tt h8 h2, on_tt h8 h9, on_tt h9 h2, on_tt h9 h8]; simp (config := { decide := true }) only [(eq_true h1), (eq_false (Nat.not_le.mpr h1)), h2, h6, h7, h8, h9, not_true_eq_false, not_false_eq_true, and_true, true_and, and_false, false_and, or_true, true_or, or_false, false_or, and_self, or_self, if_true, if_false, Bool.false_eq_true, reduceIte, if_true, if_false]) (by omega) ls (lv_sub hl [6, 7, 8, 2, 1, 4, 3, 5, 0] rfl)
                · skip
                  refine lv_iconst (v := -1) hx hb (dk kX6_leads_1_ok 1 rfl) rfl ?_
                  exact hret _ _ _ (by first | (rw [hr, show f - i = (f - (i + 1)) + 1 by omega]; simp only [ldL, on_tt h2 h8, on_f1 h6, on_f2 h6, on_tt h8 h2, on_f1 h9, on_f2 h9]; simp (config := { decide := true }) only [(eq_true h1), (eq_false (Nat.not_le.mpr h1)), h2, h6, h7, h8, h9, not_true_eq_false, not_false_eq_true, and_true, true_and, and_false, false_and, or_true, true_or, or_false, false_or, and_self, or_self, if_true, if_false, Bool.false_eq_true, reduceIte]; done) | (rw [hr, show f - i = 0 by omega]; rfl)) (dk kX6_leads_1_ok 2 rfl)
            · skip
              refine lv_iconst (v := -1) hx hb (dk kX6_leads_0_ok 37 rfl) rfl ?_
              exact hret _ _ _ (by first | (rw [hr, show f - i = (f - (i + 1)) + 1 by omega]; simp only [ldL, on_f1 h6, on_f2 h6]; simp (config := { decide := true }) only [(eq_true h1), (eq_false (Nat.not_le.mpr h1)), h2, h6, h7, not_true_eq_false, not_false_eq_true, and_true, true_and, and_false, false_and, or_true, true_or, or_false, false_or, and_self, or_self, if_true, if_false, Bool.false_eq_true, reduceIte]; done) | (rw [hr, show f - i = 0 by omega]; rfl)) (dk kX6_leads_0_ok 38 rfl)
  exact L29 _ 0 (nI (q % 13)) (nI (q / 13)) (ea (nI d)) (so (nI d)) false _ (by first | omega | rfl | exact ldg_nI (by omega) _ _) (by first | omega | rfl | exact ldg_nI (by omega) _ _) (by first | omega | rfl | exact ldg_nI (by omega) _ _) (Nat.lt_succ_self _) ls (lv_sub hl [6, 7, 8, 5, 4, 3, 2, 1, 0] rfl)
set_option maxRecDepth 100000 in
set_option maxHeartbeats 4000000 in
theorem tX6_beside (l : Launch) (x : Int32) (q : Nat) (hxq : x = nI q) (hq : q < 169) (y : Int32) (d : Nat) (hyd : y = nI d) (hd : d < 8) : MP l yX6_beside (Cond.code yX6_beside cX6_beside 4 (some .int) :: AW) ({ frames := 1, cells := 0, slots := 0, locals := 22 } : Room) [.int x, .int y] (.int (rbs q d)) := by
  refine mp_i (ty := .int) (by decide +kernel) rfl rfl rfl rfl (Nat.le_of_ble_eq_true rfl) (fun p e s m below meth cd Q ls hx hb hml hown hts hret hl => ?_)
  have hown : s.vm.findClass RX6 = some m.cls := hown
  subst hxq
  subst hyd
  have hl : lv_has ls 4 [(0, .int (nI q)), (1, .int (nI d))] := hl
  refine lv_iload_n hx hb (dk kX6_beside_ok 0 rfl) rfl (lv_at hl 0 rfl) ?_
  refine lv_bipush (v := nI 13) hx hb (dk kX6_beside_ok 1 rfl) rfl ?_
  refine n_irem hx hb (by omega) (by decide) (by decide) (dk kX6_beside_ok 2 rfl) ?_
  refine lv_iload_n hx hb (dk kX6_beside_ok 3 rfl) rfl (lv_at hl 1 rfl) ?_
  refine csP (As := [.int (nI d)]) (rest := [.int (nI (q % 13))]) ⟨hx, hb, hml, hown, hts⟩ (tX6_eastOf l (nI d) d rfl (by omega)) (cwS9 1 hts mcX6_eastOf (ac19 _ (List.mem_of_getElem? (i := 6) rfl)) msX6_eastOf mini_RX6 rfl rfl hdX6_eastOf ⟨Nat.le_of_ble_eq_true rfl, Nat.le_of_ble_eq_true rfl⟩) rfl hl.1 rfl (Nat.le_of_ble_eq_true rfl) (by decide) (dk kX6_beside_ok 4 rfl) ?_
  refine lv_iadd hx hb (dk kX6_beside_ok 5 rfl) ?_
  refine lv_istore_n (lv' := [(2, .int ((nI (q % 13)) + (ea (nI d)))), (0, .int (nI q)), (1, .int (nI d))]) hx hb (dk kX6_beside_ok 6 rfl) rfl hl (by decide) rfl (fun ls hl => ?_)
  refine lv_iload_n hx hb (dk kX6_beside_ok 7 rfl) rfl (lv_at hl 1 rfl) ?_
  refine lv_bipush (v := nI 13) hx hb (dk kX6_beside_ok 8 rfl) rfl ?_
  refine n_idiv hx hb (by omega) (by decide) (by decide) (dk kX6_beside_ok 9 rfl) ?_
  refine lv_iload_n hx hb (dk kX6_beside_ok 10 rfl) rfl (lv_at hl 2 rfl) ?_
  refine csP (As := [.int (nI d)]) (rest := [.int (nI (q / 13))]) ⟨hx, hb, hml, hown, hts⟩ (tX6_southOf l (nI d) d rfl (by omega)) (cwS9 1 hts mcX6_southOf (ac19 _ (List.mem_of_getElem? (i := 9) rfl)) msX6_southOf mini_RX6 rfl rfl hdX6_southOf ⟨Nat.le_of_ble_eq_true rfl, Nat.le_of_ble_eq_true rfl⟩) rfl hl.1 rfl (Nat.le_of_ble_eq_true rfl) (by decide) (dk kX6_beside_ok 11 rfl) ?_
  refine lv_iadd hx hb (dk kX6_beside_ok 12 rfl) ?_
  refine lv_istore_n (lv' := [(3, .int ((nI (q / 13)) + (so (nI d)))), (2, .int ((nI (q % 13)) + (ea (nI d)))), (0, .int (nI q)), (1, .int (nI d))]) hx hb (dk kX6_beside_ok 13 rfl) rfl hl (by decide) rfl (fun ls hl => ?_)
  refine lv_iload_n hx hb (dk kX6_beside_ok 14 rfl) rfl (lv_at hl 1 rfl) ?_
  refine lv_iconst (v := nI 0) hx hb (dk kX6_beside_ok 15 rfl) rfl ?_
  refine lv_bipush (v := nI 12) hx hb (dk kX6_beside_ok 16 rfl) rfl ?_
  refine csP (As := [.int ((nI (q % 13)) + (ea (nI d))), .int (nI 0), .int (nI 12)]) (rest := []) ⟨hx, hb, hml, hown, hts⟩ (tX6_in l ((nI (q % 13)) + (ea (nI d))) (nI 0) (nI 12)) (cwS9 3 hts mcX6_in (ac19 _ (List.mem_of_getElem? (i := 12) rfl)) msX6_in mini_RX6 rfl rfl hdX6_in ⟨Nat.le_of_ble_eq_true rfl, Nat.le_of_ble_eq_true rfl⟩) rfl hl.1 rfl (Nat.le_of_ble_eq_true rfl) (by decide) (dk kX6_beside_ok 17 rfl) ?_
  refine b_if_eq (tgt := 49) hx hb (dk kX6_beside_ok 18 rfl) (by decide) (fun h1 => ?_) (fun h1 => ?_)
  · skip
    refine lv_iconst (v := -1) hx hb (dk kX6_beside_ok 30 rfl) rfl ?_
    exact hret _ _ _ (by simp only [rbs, beside, on_f1 h1, on_f2 h1]; simp (config := { decide := true }) only [not_true_eq_false, not_false_eq_true, and_true, true_and, and_false, false_and, or_true, true_or, or_false, false_or, and_self, or_self, if_true, if_false, Bool.false_eq_true, reduceIte, cat]; first | done | rfl) (dk kX6_beside_ok 31 rfl)
  · skip
    refine lv_iload_n hx hb (dk kX6_beside_ok 19 rfl) rfl (lv_at hl 0 rfl) ?_
    refine lv_iconst (v := nI 0) hx hb (dk kX6_beside_ok 20 rfl) rfl ?_
    refine lv_bipush (v := nI 12) hx hb (dk kX6_beside_ok 21 rfl) rfl ?_
    refine csP (As := [.int ((nI (q / 13)) + (so (nI d))), .int (nI 0), .int (nI 12)]) (rest := []) ⟨hx, hb, hml, hown, hts⟩ (tX6_in l ((nI (q / 13)) + (so (nI d))) (nI 0) (nI 12)) (cwS9 3 hts mcX6_in (ac19 _ (List.mem_of_getElem? (i := 12) rfl)) msX6_in mini_RX6 rfl rfl hdX6_in ⟨Nat.le_of_ble_eq_true rfl, Nat.le_of_ble_eq_true rfl⟩) rfl hl.1 rfl (Nat.le_of_ble_eq_true rfl) (by decide) (dk kX6_beside_ok 22 rfl) ?_
    refine b_if_eq (tgt := 49) hx hb (dk kX6_beside_ok 23 rfl) (by decide) (fun h2 => ?_) (fun h2 => ?_)
    · skip
      refine lv_iconst (v := -1) hx hb (dk kX6_beside_ok 30 rfl) rfl ?_
      exact hret _ _ _ (by simp only [rbs, beside, on_f1 h2, on_f2 h2]; simp (config := { decide := true }) only [not_true_eq_false, not_false_eq_true, and_true, true_and, and_false, false_and, or_true, true_or, or_false, false_or, and_self, or_self, if_true, if_false, Bool.false_eq_true, reduceIte, cat]; first | done | rfl) (dk kX6_beside_ok 31 rfl)
    · skip
      refine lv_bipush (v := nI 13) hx hb (dk kX6_beside_ok 24 rfl) rfl ?_
      refine lv_iload_n hx hb (dk kX6_beside_ok 25 rfl) rfl (lv_at hl 0 rfl) ?_
      refine lv_imul hx hb (dk kX6_beside_ok 26 rfl) ?_
      refine lv_iload_n hx hb (dk kX6_beside_ok 27 rfl) rfl (lv_at hl 1 rfl) ?_
      refine lv_iadd hx hb (dk kX6_beside_ok 28 rfl) ?_
      refine lv_goto (tgt := 50) hx hb (dk kX6_beside_ok 29 rfl) (by decide) ?_
      exact hret _ _ _ (by simp only [rbs, beside, on_tt h1 h2, on_tt h2 h1]; simp (config := { decide := true }) only [not_true_eq_false, not_false_eq_true, and_true, true_and, and_false, false_and, or_true, true_or, or_false, false_or, and_self, or_self, if_true, if_false, Bool.false_eq_true, reduceIte, cat]; first | done | rfl) (dk kX6_beside_ok 31 rfl)
set_option maxRecDepth 100000 in
set_option maxHeartbeats 4000000 in
theorem tX6_lying (l : Launch) (D : va_G) (cI cQ cL : ClassId) (ad : Nat → Nat) (N : Nat) (F : Nat → va_E) (k : Nat) (hk : k + 7 < N) (r ps sl sd ne fa bu : Nat → Int32) (hs : Bool) (st ln pt : Nat) (th : Int32) (hR : rfAt cI ad F k r ps sl sd ne fa bu hs st ln pt th) (q : Int32) : MR l yX6_lying (Cond.code yX6_lying cX6_lying 4 (some .int) :: AW) ({ frames := 0, cells := 0, slots := 0, locals := 0 } : Room) D cI cQ cL ad N F [.ref (ad k), .int q] (.int (nI (hgt r q))) := by
  refine mr_i (ty := .int) (by decide +kernel) rfl rfl rfl rfl (Nat.le_of_ble_eq_true rfl) (fun p e s m below meth cd Q ls hx hb hml hown hts hP hK hNW hret hl => ?_)
  have hown : s.vm.findClass RX6 = some m.cls := hown
  have hk0 : k < N := by omega
  have hk1 : k + 1 < N := by omega
  have hk2 : k + 2 < N := by omega
  have hk3 : k + 3 < N := by omega
  have hk4 : k + 4 < N := by omega
  have hk5 : k + 5 < N := by omega
  have hk6 : k + 6 < N := by omega
  have hk7 : k + 7 < N := by omega
  have hl : lv_has ls 4 [(0, .ref (ad k)), (1, .int q)] := hl
  refine lv_iconst (v := nI 0) hx hb (dk kX6_lying_ok 0 rfl) rfl ?_
  refine lv_istore_n (lv' := [(2, .int (nI 0)), (0, .ref (ad k)), (1, .int q)]) hx hb (dk kX6_lying_ok 1 rfl) rfl hl (by decide) rfl (fun ls hl => ?_)
  refine lv_iconst (v := nI 0) hx hb (dk kX6_lying_ok 2 rfl) rfl ?_
  refine lv_istore_n (lv' := [(3, .int (nI 0)), (2, .int (nI 0)), (0, .ref (ad k)), (1, .int q)]) hx hb (dk kX6_lying_ok 3 rfl) rfl hl (by decide) rfl (fun ls hl => ?_)
  have L4 : ∀ (fu : Nat) (i : Nat) (x2 : Int32), x2 = nI (cnt (fun i => decide (r i = q)) i) → i ≤ 16 → 16 - i < fu → ∀ ls : Array Slot, lv_has ls 4 [(0, .ref (ad k)), (1, .int q), (2, .int x2), (3, .int (nI i))] → W p l e ({ frames := 0, cells := 0, slots := 0, locals := 0 } : Room) s m ([.ref (ad k), .int q] : List Value).toArray below meth cd s.heap [] 0 0 Q (F0 m 4 ls []) := by
    intro fu
    induction fu with
    | zero => intros; omega
    | succ fu ih4 =>
      intro i x2 ex2 hi hm4 ls hl
      subst ex2
      refine lv_iload_n hx hb (dk kX6_lying_ok 4 rfl) rfl (lv_at hl 3 rfl) ?_
      refine lv_bipush (v := nI 16) hx hb (dk kX6_lying_ok 5 rfl) rfl ?_
      refine n_icmp_ge (tgt := 36) hx hb (by omega) (by decide) (dk kX6_lying_ok 6 rfl) (by decide) (fun h1 => ?_) (fun h1 => ?_)
      · skip
        refine lv_iload_n hx hb (dk kX6_lying_ok 23 rfl) rfl (lv_at hl 2 rfl) ?_
        exact hret _ _ _ (by rw [show i = 16 by omega] <;> rfl) (dk kX6_lying_ok 24 rfl)
      · skip
        refine lv_iload_n hx hb (dk kX6_lying_ok 7 rfl) rfl (lv_at hl 2 rfl) ?_
        refine lv_aload_n hx hb (dk kX6_lying_ok 8 rfl) rfl (lv_at hl 0 rfl) ?_
        refine gf hx hb hts (fun w h => List.mem_cons_of_mem _ (acX6 w h)) hown hK hP hk0 hR.1 rfl 0 (by decide) (hts _ (List.mem_cons_of_mem _ (ac17 _ (List.mem_of_getElem? (i := 17) rfl)))) (fun _ h => h) rfl (dk kX6_lying_ok 9 rfl) ?_
        refine lv_iconst (v := nI 0) hx hb (dk kX6_lying_ok 10 rfl) rfl ?_
        refine lv_iload_n hx hb (dk kX6_lying_ok 11 rfl) rfl (lv_at hl 3 rfl) ?_
        refine n_iadd0 hx hb (dk kX6_lying_ok 12 rfl) ?_
        refine ald (j := i) hx hb hK hP hk1 hR.2.1 rfl (by omega) (by decide) (dk kX6_lying_ok 13 rfl) ?_
        refine lv_iload_n hx hb (dk kX6_lying_ok 14 rfl) rfl (lv_at hl 1 rfl) ?_
        refine lv_icmp_ne (tgt := 27) hx hb (dk kX6_lying_ok 15 rfl) (by decide) (fun h2 => ?_) (fun h2 => ?_)
        · skip
          refine lv_iconst (v := nI 0) hx hb (dk kX6_lying_ok 18 rfl) rfl ?_
          refine n_iadd hx hb (dk kX6_lying_ok 19 rfl) ?_
          refine lv_istore_n (lv' := [(2, .int (nI ((cnt (fun i => decide (r i = q)) i) + 0))), (0, .ref (ad k)), (1, .int q), (3, .int (nI i))]) hx hb (dk kX6_lying_ok 20 rfl) rfl hl (by decide) rfl (fun ls hl => ?_)
          refine lv_iinc (v := nI (i + 1)) (lv' := [(3, .int (nI (i + 1))), (2, .int (nI ((cnt (fun i => decide (r i = q)) i) + 0))), (0, .ref (ad k)), (1, .int q)]) hx hb (dk kX6_lying_ok 21 rfl) hl (k := 3) rfl (n_inc _) (by decide) rfl (fun ls hl => ?_)
          refine lv_goto (tgt := 4) hx hb (dk kX6_lying_ok 22 rfl) (by decide) ?_
          exact ih4 (i + 1) _ (by simp [cnt, h1, h2]) (by omega) (by omega) ls (lv_sub hl [2, 3, 1, 0] rfl)
        · skip
          refine lv_iconst (v := nI 1) hx hb (dk kX6_lying_ok 16 rfl) rfl ?_
          refine lv_goto (tgt := 28) hx hb (dk kX6_lying_ok 17 rfl) (by decide) ?_
          refine n_iadd hx hb (dk kX6_lying_ok 19 rfl) ?_
          refine lv_istore_n (lv' := [(2, .int (nI ((cnt (fun i => decide (r i = q)) i) + 1))), (0, .ref (ad k)), (1, .int q), (3, .int (nI i))]) hx hb (dk kX6_lying_ok 20 rfl) rfl hl (by decide) rfl (fun ls hl => ?_)
          refine lv_iinc (v := nI (i + 1)) (lv' := [(3, .int (nI (i + 1))), (2, .int (nI ((cnt (fun i => decide (r i = q)) i) + 1))), (0, .ref (ad k)), (1, .int q)]) hx hb (dk kX6_lying_ok 21 rfl) hl (k := 3) rfl (n_inc _) (by decide) rfl (fun ls hl => ?_)
          refine lv_goto (tgt := 4) hx hb (dk kX6_lying_ok 22 rfl) (by decide) ?_
          exact ih4 (i + 1) _ (by simp [cnt, h1, h2]) (by omega) (by omega) ls (lv_sub hl [2, 3, 1, 0] rfl)
  exact L4 _ 0 _ (by first | rfl | omega) (by first | rfl | omega) (Nat.lt_succ_self _) ls (lv_sub hl [2, 3, 1, 0] rfl)
set_option maxRecDepth 100000 in
set_option maxHeartbeats 4000000 in
theorem tX6_winkAt (l : Launch) (D : va_G) (cI cQ cL : ClassId) (ad : Nat → Nat) (N : Nat) (F : Nat → va_E) (k : Nat) (hk : k + 7 < N) (r ps sl sd ne fa bu : Nat → Int32) (hs : Bool) (st ln pt : Nat) (th : Int32) (hR : rfAt cI ad F k r ps sl sd ne fa bu hs st ln pt th) (q p9 : Int32) : MR l yX6_winkAt (Cond.code yX6_winkAt cX6_winkAt 4 (some .int) :: AW) ({ frames := 0, cells := 0, slots := 0, locals := 0 } : Room) D cI cQ cL ad N F [.ref (ad k), .int q, .int p9] (.int (wat r q p9)) := by
  refine mr_i (ty := .int) (by decide +kernel) rfl rfl rfl rfl (Nat.le_of_ble_eq_true rfl) (fun p e s m below meth cd Q ls hx hb hml hown hts hP hK hNW hret hl => ?_)
  have hown : s.vm.findClass RX6 = some m.cls := hown
  have hk0 : k < N := by omega
  have hk1 : k + 1 < N := by omega
  have hk2 : k + 2 < N := by omega
  have hk3 : k + 3 < N := by omega
  have hk4 : k + 4 < N := by omega
  have hk5 : k + 5 < N := by omega
  have hk6 : k + 6 < N := by omega
  have hk7 : k + 7 < N := by omega
  have hl : lv_has ls 4 [(0, .ref (ad k)), (1, .int q), (2, .int p9)] := hl
  refine lv_iconst (v := nI 0) hx hb (dk kX6_winkAt_ok 0 rfl) rfl ?_
  refine lv_istore_n (lv' := [(3, .int (nI 0)), (0, .ref (ad k)), (1, .int q), (2, .int p9)]) hx hb (dk kX6_winkAt_ok 1 rfl) rfl hl (by decide) rfl (fun ls hl => ?_)
  have L2 : ∀ (fu : Nat) (i : Nat), i ≤ 16 → wat r q p9 = fst (rwt r q p9) (16 - i) i → 16 - i < fu → ∀ ls : Array Slot, lv_has ls 4 [(0, .ref (ad k)), (1, .int q), (2, .int p9), (3, .int (nI i))] → W p l e ({ frames := 0, cells := 0, slots := 0, locals := 0 } : Room) s m ([.ref (ad k), .int q, .int p9] : List Value).toArray below meth cd s.heap [] 0 0 Q (F0 m 2 ls []) := by
    intro fu
    induction fu with
    | zero => intros; omega
    | succ fu ih2 =>
      intro i hi hr hm2 ls hl
      refine lv_iload_n hx hb (dk kX6_winkAt_ok 2 rfl) rfl (lv_at hl 3 rfl) ?_
      refine lv_bipush (v := nI 16) hx hb (dk kX6_winkAt_ok 3 rfl) rfl ?_
      refine n_icmp_ge (tgt := 41) hx hb (by omega) (by decide) (dk kX6_winkAt_ok 4 rfl) (by decide) (fun h1 => ?_) (fun h1 => ?_)
      · skip
        refine lv_iconst (v := -1) hx hb (dk kX6_winkAt_ok 25 rfl) rfl ?_
        exact hret _ _ _ (by first | (rw [hr, show 16 - i = (16 - (i + 1)) + 1 by omega]; simp [fst, rwt, h1]; done) | (rw [hr, show 16 - i = 0 by omega]; rfl)) (dk kX6_winkAt_ok 26 rfl)
      · skip
        refine lv_aload_n hx hb (dk kX6_winkAt_ok 5 rfl) rfl (lv_at hl 0 rfl) ?_
        refine gf hx hb hts (fun w h => List.mem_cons_of_mem _ (acX6 w h)) hown hK hP hk0 hR.1 rfl 0 (by decide) (hts _ (List.mem_cons_of_mem _ (ac17 _ (List.mem_of_getElem? (i := 17) rfl)))) (fun _ h => h) rfl (dk kX6_winkAt_ok 6 rfl) ?_
        refine lv_iconst (v := nI 0) hx hb (dk kX6_winkAt_ok 7 rfl) rfl ?_
        refine lv_iload_n hx hb (dk kX6_winkAt_ok 8 rfl) rfl (lv_at hl 3 rfl) ?_
        refine n_iadd0 hx hb (dk kX6_winkAt_ok 9 rfl) ?_
        refine ald (j := i) hx hb hK hP hk1 hR.2.1 rfl (by omega) (by decide) (dk kX6_winkAt_ok 10 rfl) ?_
        refine lv_iload_n hx hb (dk kX6_winkAt_ok 11 rfl) rfl (lv_at hl 1 rfl) ?_
        refine lv_icmp_ne (tgt := 35) hx hb (dk kX6_winkAt_ok 12 rfl) (by decide) (fun h2 => ?_) (fun h2 => ?_)
        · skip
          refine lv_iinc (v := nI (i + 1)) (lv' := [(3, .int (nI (i + 1))), (0, .ref (ad k)), (1, .int q), (2, .int p9)]) hx hb (dk kX6_winkAt_ok 23 rfl) hl (k := 3) rfl (n_inc _) (by decide) rfl (fun ls hl => ?_)
          refine lv_goto (tgt := 2) hx hb (dk kX6_winkAt_ok 24 rfl) (by decide) ?_
          exact ih2 (i + 1) (by omega) (by rw [hr, show 16 - i = (16 - (i + 1)) + 1 by omega]; simp [fst, rwt, h1, h2]) (by omega) ls (lv_sub hl [1, 2, 3, 0] rfl)
        · skip
          refine lv_aload_n hx hb (dk kX6_winkAt_ok 13 rfl) rfl (lv_at hl 0 rfl) ?_
          refine gf hx hb hts (fun w h => List.mem_cons_of_mem _ (acX6 w h)) hown hK hP hk0 hR.1 rfl 0 (by decide) (hts _ (List.mem_cons_of_mem _ (ac17 _ (List.mem_of_getElem? (i := 17) rfl)))) (fun _ h => h) rfl (dk kX6_winkAt_ok 14 rfl) ?_
          refine lv_bipush (v := nI 16) hx hb (dk kX6_winkAt_ok 15 rfl) rfl ?_
          refine lv_iload_n hx hb (dk kX6_winkAt_ok 16 rfl) rfl (lv_at hl 3 rfl) ?_
          refine n_iadd hx hb (dk kX6_winkAt_ok 17 rfl) ?_
          refine ald (j := (16 + i)) hx hb hK hP hk1 hR.2.1 rfl (by omega) (by decide) (dk kX6_winkAt_ok 18 rfl) ?_
          refine lv_iload_n hx hb (dk kX6_winkAt_ok 19 rfl) rfl (lv_at hl 2 rfl) ?_
          refine lv_icmp_ne (tgt := 35) hx hb (dk kX6_winkAt_ok 20 rfl) (by decide) (fun h3 => ?_) (fun h3 => ?_)
          · skip
            refine lv_iinc (v := nI (i + 1)) (lv' := [(3, .int (nI (i + 1))), (0, .ref (ad k)), (1, .int q), (2, .int p9)]) hx hb (dk kX6_winkAt_ok 23 rfl) hl (k := 3) rfl (n_inc _) (by decide) rfl (fun ls hl => ?_)
            refine lv_goto (tgt := 2) hx hb (dk kX6_winkAt_ok 24 rfl) (by decide) ?_
            exact ih2 (i + 1) (by omega) (by rw [hr, show 16 - i = (16 - (i + 1)) + 1 by omega]; simp [fst, rwt, h1, h2, h3]) (by omega) ls (lv_sub hl [1, 2, 3, 0] rfl)
          · skip
            refine lv_iload_n hx hb (dk kX6_winkAt_ok 21 rfl) rfl (lv_at hl 3 rfl) ?_
            exact hret _ _ _ (by first | (rw [hr, show 16 - i = (16 - (i + 1)) + 1 by omega]; simp [fst, rwt, h1, h2, h3]; done) | (rw [hr, show 16 - i = 0 by omega]; rfl)) (dk kX6_winkAt_ok 22 rfl)
  exact L2 _ 0 (by first | rfl | omega) (by first | rfl | omega) (Nat.lt_succ_self _) ls (lv_sub hl [1, 2, 3, 0] rfl)
set_option maxRecDepth 100000 in
set_option maxHeartbeats 4000000 in
theorem tX6_isPotted (l : Launch) (D : va_G) (cI cQ cL : ClassId) (ad : Nat → Nat) (N : Nat) (F : Nat → va_E) (k : Nat) (hk : k + 7 < N) (r ps sl sd ne fa bu : Nat → Int32) (hs : Bool) (st ln pt : Nat) (th : Int32) (hR : rfAt cI ad F k r ps sl sd ne fa bu hs st ln pt th) (x : Int32) (w : Nat) (hxw : x = nI w) (hw : w < 16) : MR l yX6_isPotted (Cond.code yX6_isPotted cX6_isPotted 2 (some .boolean) :: AW) ({ frames := 0, cells := 0, slots := 0, locals := 0 } : Room) D cI cQ cL ad N F [.ref (ad k), .int x] (.int (bI (pot r w))) := by
  refine mr_i (ty := .boolean) (by decide +kernel) rfl rfl rfl (bI_nar _) (Nat.le_of_ble_eq_true rfl) (fun p e s m below meth cd Q ls hx hb hml hown hts hP hK hNW hret hl => ?_)
  have hown : s.vm.findClass RX6 = some m.cls := hown
  subst hxw
  have hk0 : k < N := by omega
  have hk1 : k + 1 < N := by omega
  have hk2 : k + 2 < N := by omega
  have hk3 : k + 3 < N := by omega
  have hk4 : k + 4 < N := by omega
  have hk5 : k + 5 < N := by omega
  have hk6 : k + 6 < N := by omega
  have hk7 : k + 7 < N := by omega
  have hl : lv_has ls 2 [(0, .ref (ad k)), (1, .int (nI w))] := hl
  refine lv_aload_n hx hb (dk kX6_isPotted_ok 0 rfl) rfl (lv_at hl 0 rfl) ?_
  refine gf hx hb hts (fun w h => List.mem_cons_of_mem _ (acX6 w h)) hown hK hP hk0 hR.1 rfl 0 (by decide) (hts _ (List.mem_cons_of_mem _ (ac17 _ (List.mem_of_getElem? (i := 17) rfl)))) (fun _ h => h) rfl (dk kX6_isPotted_ok 1 rfl) ?_
  refine lv_iconst (v := nI 0) hx hb (dk kX6_isPotted_ok 2 rfl) rfl ?_
  refine lv_iload_n hx hb (dk kX6_isPotted_ok 3 rfl) rfl (lv_at hl 1 rfl) ?_
  refine n_iadd0 hx hb (dk kX6_isPotted_ok 4 rfl) ?_
  refine ald (j := w) hx hb hK hP hk1 hR.2.1 rfl (by omega) (by decide) (dk kX6_isPotted_ok 5 rfl) ?_
  refine lv_iconst (v := -1) hx hb (dk kX6_isPotted_ok 6 rfl) rfl ?_
  refine lv_icmp_ne (tgt := 16) hx hb (dk kX6_isPotted_ok 7 rfl) (by decide) (fun h1 => ?_) (fun h1 => ?_)
  · skip
    refine lv_iconst (v := nI 0) hx hb (dk kX6_isPotted_ok 10 rfl) rfl ?_
    exact hret _ _ _ (by simp [pot, h1, bI]) (dk kX6_isPotted_ok 11 rfl)
  · skip
    refine lv_iconst (v := nI 1) hx hb (dk kX6_isPotted_ok 8 rfl) rfl ?_
    refine lv_goto (tgt := 17) hx hb (dk kX6_isPotted_ok 9 rfl) (by decide) ?_
    exact hret _ _ _ (by simp [pot, h1, bI]) (dk kX6_isPotted_ok 11 rfl)
set_option maxRecDepth 100000 in
set_option maxHeartbeats 4000000 in
theorem tX6_isCovered (l : Launch) (D : va_G) (cI cQ cL : ClassId) (ad : Nat → Nat) (N : Nat) (F : Nat → va_E) (k : Nat) (hk : k + 7 < N) (r ps sl sd ne fa bu : Nat → Int32) (hs : Bool) (st ln pt : Nat) (th : Int32) (hR : rfAt cI ad F k r ps sl sd ne fa bu hs st ln pt th) (x : Int32) (w : Nat) (hxw : x = nI w) (hw : w < 16) : MR l yX6_isCovered (Cond.code yX6_isCovered cX6_isCovered 2 (some .boolean) :: AW) ({ frames := 1, cells := 0, slots := 0, locals := 23 } : Room) D cI cQ cL ad N F [.ref (ad k), .int x] (.int (bI (rcv r w))) := by
  refine mr_i (ty := .boolean) (by decide +kernel) rfl rfl rfl (bI_nar _) (Nat.le_of_ble_eq_true rfl) (fun p e s m below meth cd Q ls hx hb hml hown hts hP hK hNW hret hl => ?_)
  have hown : s.vm.findClass RX6 = some m.cls := hown
  subst hxw
  have hk0 : k < N := by omega
  have hk1 : k + 1 < N := by omega
  have hk2 : k + 2 < N := by omega
  have hk3 : k + 3 < N := by omega
  have hk4 : k + 4 < N := by omega
  have hk5 : k + 5 < N := by omega
  have hk6 : k + 6 < N := by omega
  have hk7 : k + 7 < N := by omega
  have hl : lv_has ls 2 [(0, .ref (ad k)), (1, .int (nI w))] := hl
  refine lv_aload_n hx hb (dk kX6_isCovered_ok 0 rfl) rfl (lv_at hl 0 rfl) ?_
  refine lv_iload_n hx hb (dk kX6_isCovered_ok 1 rfl) rfl (lv_at hl 1 rfl) ?_
  refine cvR (As := [.int (nI w)]) (rest := []) ⟨hx, hb, hml, hown, hts⟩ (tX6_isPotted l D cI cQ cL ad N F k hk r ps sl sd ne fa bu hs st ln pt th hR (nI w) w rfl (by omega)) (cwV9 1 hts mcX6_isPotted (ac18 _ (List.mem_of_getElem? (i := 6) rfl)) miX6_isPotted meX6_isPotted mini_RX6 rfl rfl hdX6_isPotted ⟨Nat.le_of_ble_eq_true rfl, Nat.le_of_ble_eq_true rfl⟩) hK hP hNW hk0 hR.1 rfl rfl hl.1 rfl (Nat.le_of_ble_eq_true rfl) (by decide) (dk kX6_isCovered_ok 2 rfl) ?_
  refine b_if_ne (tgt := 38) hx hb (dk kX6_isCovered_ok 3 rfl) (by decide) (fun h1 => ?_) (fun h1 => ?_)
  · skip
    refine lv_iconst (v := nI 0) hx hb (dk kX6_isCovered_ok 23 rfl) rfl ?_
    exact hret _ _ _ (by simp only [rcv, h1, decide_true, decide_false, not_true_eq_false, not_false_eq_true, and_true, true_and, and_false, false_and, or_true, true_or, or_false, false_or, and_self, or_self, if_true, if_false, Bool.false_eq_true, reduceIte, Bool.not_true, Bool.not_false, Bool.and_true, Bool.true_and, Bool.and_false, Bool.false_and]; rfl) (dk kX6_isCovered_ok 24 rfl)
  · skip
    refine lv_aload_n hx hb (dk kX6_isCovered_ok 4 rfl) rfl (lv_at hl 0 rfl) ?_
    refine gf hx hb hts (fun w h => List.mem_cons_of_mem _ (acX6 w h)) hown hK hP hk0 hR.1 rfl 0 (by decide) (hts _ (List.mem_cons_of_mem _ (ac17 _ (List.mem_of_getElem? (i := 17) rfl)))) (fun _ h => h) rfl (dk kX6_isCovered_ok 5 rfl) ?_
    refine lv_bipush (v := nI 16) hx hb (dk kX6_isCovered_ok 6 rfl) rfl ?_
    refine lv_iload_n hx hb (dk kX6_isCovered_ok 7 rfl) rfl (lv_at hl 1 rfl) ?_
    refine n_iadd hx hb (dk kX6_isCovered_ok 8 rfl) ?_
    refine ald (j := (16 + w)) hx hb hK hP hk1 hR.2.1 rfl (by omega) (by decide) (dk kX6_isCovered_ok 9 rfl) ?_
    refine lv_aload_n hx hb (dk kX6_isCovered_ok 10 rfl) rfl (lv_at hl 0 rfl) ?_
    refine lv_aload_n hx hb (dk kX6_isCovered_ok 11 rfl) rfl (lv_at hl 0 rfl) ?_
    refine gf hx hb hts (fun w h => List.mem_cons_of_mem _ (acX6 w h)) hown hK hP hk0 hR.1 rfl 0 (by decide) (hts _ (List.mem_cons_of_mem _ (ac17 _ (List.mem_of_getElem? (i := 17) rfl)))) (fun _ h => h) rfl (dk kX6_isCovered_ok 12 rfl) ?_
    refine lv_iconst (v := nI 0) hx hb (dk kX6_isCovered_ok 13 rfl) rfl ?_
    refine lv_iload_n hx hb (dk kX6_isCovered_ok 14 rfl) rfl (lv_at hl 1 rfl) ?_
    refine n_iadd0 hx hb (dk kX6_isCovered_ok 15 rfl) ?_
    refine ald (j := w) hx hb hK hP hk1 hR.2.1 rfl (by omega) (by decide) (dk kX6_isCovered_ok 16 rfl) ?_
    refine cvR (As := [.int (r w)]) (rest := [.int (r (16 + w))]) ⟨hx, hb, hml, hown, hts⟩ (tX6_lying l D cI cQ cL ad N F k hk r ps sl sd ne fa bu hs st ln pt th hR (r w)) (cwV9 1 hts mcX6_lying (ac18 _ (List.mem_of_getElem? (i := 10) rfl)) miX6_lying meX6_lying mini_RX6 rfl rfl hdX6_lying ⟨Nat.le_of_ble_eq_true rfl, Nat.le_of_ble_eq_true rfl⟩) hK hP hNW hk0 hR.1 rfl rfl hl.1 rfl (Nat.le_of_ble_eq_true rfl) (by decide) (dk kX6_isCovered_ok 17 rfl) ?_
    refine lv_iconst (v := nI 1) hx hb (dk kX6_isCovered_ok 18 rfl) rfl ?_
    refine lv_isub hx hb (dk kX6_isCovered_ok 19 rfl) ?_
    refine lv_icmp_ge (tgt := 38) hx hb (dk kX6_isCovered_ok 20 rfl) (by decide) (fun h2 => ?_) (fun h2 => ?_)
    · skip
      refine lv_iconst (v := nI 0) hx hb (dk kX6_isCovered_ok 23 rfl) rfl ?_
      exact hret _ _ _ (by simp only [rcv, h1, (eq_true h2), decide_true, decide_false, not_true_eq_false, not_false_eq_true, and_true, true_and, and_false, false_and, or_true, true_or, or_false, false_or, and_self, or_self, if_true, if_false, Bool.false_eq_true, reduceIte, Bool.not_true, Bool.not_false, Bool.and_true, Bool.true_and, Bool.and_false, Bool.false_and]; rfl) (dk kX6_isCovered_ok 24 rfl)
    · skip
      refine lv_iconst (v := nI 1) hx hb (dk kX6_isCovered_ok 21 rfl) rfl ?_
      refine lv_goto (tgt := 39) hx hb (dk kX6_isCovered_ok 22 rfl) (by decide) ?_
      exact hret _ _ _ (by simp only [rcv, h1, (eq_false h2), decide_true, decide_false, not_true_eq_false, not_false_eq_true, and_true, true_and, and_false, false_and, or_true, true_or, or_false, false_or, and_self, or_self, if_true, if_false, Bool.false_eq_true, reduceIte, Bool.not_true, Bool.not_false, Bool.and_true, Bool.true_and, Bool.and_false, Bool.false_and]; rfl) (dk kX6_isCovered_ok 24 rfl)
set_option maxRecDepth 100000 in
set_option maxHeartbeats 4000000 in
theorem tX6_pottedOf (l : Launch) (D : va_G) (cI cQ cL : ClassId) (ad : Nat → Nat) (N : Nat) (F : Nat → va_E) (k : Nat) (hk : k + 7 < N) (r ps sl sd ne fa bu : Nat → Int32) (hs : Bool) (st ln pt : Nat) (th : Int32) (hR : rfAt cI ad F k r ps sl sd ne fa bu hs st ln pt th) (x : Int32) (w : Nat) (hxw : x = nI w) (hw : w < 4) : MR l yX6_pottedOf (Cond.code yX6_pottedOf cX6_pottedOf 4 (some .int) :: AW) ({ frames := 1, cells := 0, slots := 0, locals := 21 } : Room) D cI cQ cL ad N F [.ref (ad k), .int x] (.int (nI (potc r w))) := by
  refine mr_i (ty := .int) (by decide +kernel) rfl rfl rfl rfl (Nat.le_of_ble_eq_true rfl) (fun p e s m below meth cd Q ls hx hb hml hown hts hP hK hNW hret hl => ?_)
  have hown : s.vm.findClass RX6 = some m.cls := hown
  subst hxw
  have hk0 : k < N := by omega
  have hk1 : k + 1 < N := by omega
  have hk2 : k + 2 < N := by omega
  have hk3 : k + 3 < N := by omega
  have hk4 : k + 4 < N := by omega
  have hk5 : k + 5 < N := by omega
  have hk6 : k + 6 < N := by omega
  have hk7 : k + 7 < N := by omega
  have hl : lv_has ls 4 [(0, .ref (ad k)), (1, .int (nI w))] := hl
  refine lv_iconst (v := nI 0) hx hb (dk kX6_pottedOf_ok 0 rfl) rfl ?_
  refine lv_istore_n (lv' := [(2, .int (nI 0)), (0, .ref (ad k)), (1, .int (nI w))]) hx hb (dk kX6_pottedOf_ok 1 rfl) rfl hl (by decide) rfl (fun ls hl => ?_)
  refine lv_iconst (v := nI 4) hx hb (dk kX6_pottedOf_ok 2 rfl) rfl ?_
  refine lv_iload_n hx hb (dk kX6_pottedOf_ok 3 rfl) rfl (lv_at hl 2 rfl) ?_
  refine n_imul hx hb (dk kX6_pottedOf_ok 4 rfl) ?_
  refine lv_istore_n (lv' := [(3, .int (nI (4 * w))), (2, .int (nI 0)), (0, .ref (ad k)), (1, .int (nI w))]) hx hb (dk kX6_pottedOf_ok 5 rfl) rfl hl (by decide) rfl (fun ls hl => ?_)
  have L6 : ∀ (fu : Nat) (i : Nat) (x2 : Int32), x2 = nI (cnt (fun i => decide (r (4 * w + i) = -1)) i) → i ≤ 4 → 4 - i < fu → ∀ ls : Array Slot, lv_has ls 4 [(0, .ref (ad k)), (1, .int (nI w)), (2, .int x2), (3, .int (nI (4 * w + i)))] → W p l e ({ frames := 1, cells := 0, slots := 0, locals := 21 } : Room) s m ([.ref (ad k), .int (nI w)] : List Value).toArray below meth cd s.heap [] 0 0 Q (F0 m 6 ls []) := by
    intro fu
    induction fu with
    | zero => intros; omega
    | succ fu ih6 =>
      intro i x2 ex2 hi hm6 ls hl
      subst ex2
      refine lv_iload_n hx hb (dk kX6_pottedOf_ok 6 rfl) rfl (lv_at hl 3 rfl) ?_
      refine lv_iconst (v := nI 4) hx hb (dk kX6_pottedOf_ok 7 rfl) rfl ?_
      refine lv_iload_n hx hb (dk kX6_pottedOf_ok 8 rfl) rfl (lv_at hl 1 rfl) ?_
      refine n_imul hx hb (dk kX6_pottedOf_ok 9 rfl) ?_
      refine lv_iconst (v := nI 4) hx hb (dk kX6_pottedOf_ok 10 rfl) rfl ?_
      refine n_iadd hx hb (dk kX6_pottedOf_ok 11 rfl) ?_
      refine n_icmp_ge (tgt := 37) hx hb (by omega) (by omega) (dk kX6_pottedOf_ok 12 rfl) (by decide) (fun h1 => ?_) (fun h1 => ?_)
      · skip
        refine lv_iload_n hx hb (dk kX6_pottedOf_ok 25 rfl) rfl (lv_at hl 2 rfl) ?_
        exact hret _ _ _ (by rw [show i = 4 by omega] <;> rfl) (dk kX6_pottedOf_ok 26 rfl)
      · skip
        refine lv_iload_n hx hb (dk kX6_pottedOf_ok 13 rfl) rfl (lv_at hl 2 rfl) ?_
        refine lv_aload_n hx hb (dk kX6_pottedOf_ok 14 rfl) rfl (lv_at hl 0 rfl) ?_
        refine lv_iload_n hx hb (dk kX6_pottedOf_ok 15 rfl) rfl (lv_at hl 3 rfl) ?_
        refine cvR (As := [.int (nI (4 * w + i))]) (rest := [.int (nI (cnt (fun i => decide (r (4 * w + i) = -1)) i))]) ⟨hx, hb, hml, hown, hts⟩ (tX6_isPotted l D cI cQ cL ad N F k hk r ps sl sd ne fa bu hs st ln pt th hR (nI (4 * w + i)) (4 * w + i) rfl (by omega)) (cwV9 1 hts mcX6_isPotted (ac18 _ (List.mem_of_getElem? (i := 6) rfl)) miX6_isPotted meX6_isPotted mini_RX6 rfl rfl hdX6_isPotted ⟨Nat.le_of_ble_eq_true rfl, Nat.le_of_ble_eq_true rfl⟩) hK hP hNW hk0 hR.1 rfl rfl hl.1 rfl (Nat.le_of_ble_eq_true rfl) (by decide) (dk kX6_pottedOf_ok 16 rfl) ?_
        refine b_if_eq (tgt := 28) hx hb (dk kX6_pottedOf_ok 17 rfl) (by decide) (fun h2 => ?_) (fun h2 => ?_)
        · skip
          refine lv_iconst (v := nI 0) hx hb (dk kX6_pottedOf_ok 20 rfl) rfl ?_
          refine n_iadd hx hb (dk kX6_pottedOf_ok 21 rfl) ?_
          refine lv_istore_n (lv' := [(2, .int (nI ((cnt (fun i => decide (r (4 * w + i) = -1)) i) + 0))), (0, .ref (ad k)), (1, .int (nI w)), (3, .int (nI (4 * w + i)))]) hx hb (dk kX6_pottedOf_ok 22 rfl) rfl hl (by decide) rfl (fun ls hl => ?_)
          refine lv_iinc (v := nI ((4 * w + i) + 1)) (lv' := [(3, .int (nI ((4 * w + i) + 1))), (2, .int (nI ((cnt (fun i => decide (r (4 * w + i) = -1)) i) + 0))), (0, .ref (ad k)), (1, .int (nI w))]) hx hb (dk kX6_pottedOf_ok 23 rfl) hl (k := 3) rfl (n_inc _) (by decide) rfl (fun ls hl => ?_)
          refine lv_goto (tgt := 6) hx hb (dk kX6_pottedOf_ok 24 rfl) (by decide) ?_
          exact ih6 (i + 1) _ (by simp only [pot, decide_eq_true_eq, decide_eq_false_iff_not] at h1 h2; simp [cnt, h1, h2]) (by omega) (by omega) ls (lv_sub hl [2, 3, 1, 0] rfl)
        · skip
          refine lv_iconst (v := nI 1) hx hb (dk kX6_pottedOf_ok 18 rfl) rfl ?_
          refine lv_goto (tgt := 29) hx hb (dk kX6_pottedOf_ok 19 rfl) (by decide) ?_
          refine n_iadd hx hb (dk kX6_pottedOf_ok 21 rfl) ?_
          refine lv_istore_n (lv' := [(2, .int (nI ((cnt (fun i => decide (r (4 * w + i) = -1)) i) + 1))), (0, .ref (ad k)), (1, .int (nI w)), (3, .int (nI (4 * w + i)))]) hx hb (dk kX6_pottedOf_ok 22 rfl) rfl hl (by decide) rfl (fun ls hl => ?_)
          refine lv_iinc (v := nI ((4 * w + i) + 1)) (lv' := [(3, .int (nI ((4 * w + i) + 1))), (2, .int (nI ((cnt (fun i => decide (r (4 * w + i) = -1)) i) + 1))), (0, .ref (ad k)), (1, .int (nI w))]) hx hb (dk kX6_pottedOf_ok 23 rfl) hl (k := 3) rfl (n_inc _) (by decide) rfl (fun ls hl => ?_)
          refine lv_goto (tgt := 6) hx hb (dk kX6_pottedOf_ok 24 rfl) (by decide) ?_
          exact ih6 (i + 1) _ (by simp only [pot, decide_eq_true_eq, decide_eq_false_iff_not] at h1 h2; simp [cnt, h1, h2]) (by omega) (by omega) ls (lv_sub hl [2, 3, 1, 0] rfl)
  exact L6 _ 0 _ (by first | rfl | omega) (by first | rfl | omega) (Nat.lt_succ_self _) ls (lv_sub hl [2, 3, 1, 0] rfl)
set_option maxRecDepth 100000 in
set_option maxHeartbeats 4000000 in
theorem tX6_isOver (l : Launch) (D : va_G) (cI cQ cL : ClassId) (ad : Nat → Nat) (N : Nat) (F : Nat → va_E) (k : Nat) (hk : k + 7 < N) (r ps sl sd ne fa bu : Nat → Int32) (hs : Bool) (st ln pt : Nat) (th : Int32) (hR : rfAt cI ad F k r ps sl sd ne fa bu hs st ln pt th) : MR l yX6_isOver (Cond.code yX6_isOver cX6_isOver 1 (some .boolean) :: AW) ({ frames := 2, cells := 0, slots := 0, locals := 44 } : Room) D cI cQ cL ad N F [.ref (ad k)] (.int (bI (over r))) := by
  refine mr_i (ty := .boolean) (by decide +kernel) rfl rfl rfl (bI_nar _) (Nat.le_of_ble_eq_true rfl) (fun p e s m below meth cd Q ls hx hb hml hown hts hP hK hNW hret hl => ?_)
  have hown : s.vm.findClass RX6 = some m.cls := hown
  have hk0 : k < N := by omega
  have hk1 : k + 1 < N := by omega
  have hk2 : k + 2 < N := by omega
  have hk3 : k + 3 < N := by omega
  have hk4 : k + 4 < N := by omega
  have hk5 : k + 5 < N := by omega
  have hk6 : k + 6 < N := by omega
  have hk7 : k + 7 < N := by omega
  have hl : lv_has ls 1 [(0, .ref (ad k))] := hl
  refine lv_aload_n hx hb (dk kX6_isOver_ok 0 rfl) rfl (lv_at hl 0 rfl) ?_
  refine lv_iconst (v := nI 0) hx hb (dk kX6_isOver_ok 1 rfl) rfl ?_
  refine cvR (As := [.int (nI 0)]) (rest := []) ⟨hx, hb, hml, hown, hts⟩ (tX6_pottedOf l D cI cQ cL ad N F k hk r ps sl sd ne fa bu hs st ln pt th hR (nI 0) 0 rfl (by omega)) (cwV9 1 hts mcX6_pottedOf (ac18 _ (List.mem_of_getElem? (i := 14) rfl)) miX6_pottedOf meX6_pottedOf mini_RX6 rfl rfl hdX6_pottedOf ⟨Nat.le_of_ble_eq_true rfl, Nat.le_of_ble_eq_true rfl⟩) hK hP hNW hk0 hR.1 rfl rfl hl.1 rfl (Nat.le_of_ble_eq_true rfl) (by decide) (dk kX6_isOver_ok 2 rfl) ?_
  refine lv_iconst (v := nI 4) hx hb (dk kX6_isOver_ok 3 rfl) rfl ?_
  refine n_icmp_eq (tgt := 36) hx hb (by have p0 := potc_le r 0; have p1 := potc_le r 1; have p2 := potc_le r 2; have p3 := potc_le r 3; omega) (by decide) (dk kX6_isOver_ok 4 rfl) (by decide) (fun h1 => ?_) (fun h1 => ?_)
  · skip
    refine lv_iconst (v := nI 1) hx hb (dk kX6_isOver_ok 20 rfl) rfl ?_
    refine lv_goto (tgt := 41) hx hb (dk kX6_isOver_ok 21 rfl) (by decide) ?_
    exact hret _ _ _ (by simp (config := { decide := true }) only [over, anyl, Nat.zero_add, (eq_true h1), decide_true, decide_false, not_true_eq_false, not_false_eq_true, and_true, true_and, and_false, false_and, or_true, true_or, or_false, false_or, and_self, or_self, if_true, if_false, Bool.false_eq_true, reduceIte]; first | done | rfl) (dk kX6_isOver_ok 23 rfl)
  · skip
    refine lv_aload_n hx hb (dk kX6_isOver_ok 5 rfl) rfl (lv_at hl 0 rfl) ?_
    refine lv_iconst (v := nI 1) hx hb (dk kX6_isOver_ok 6 rfl) rfl ?_
    refine cvR (As := [.int (nI 1)]) (rest := []) ⟨hx, hb, hml, hown, hts⟩ (tX6_pottedOf l D cI cQ cL ad N F k hk r ps sl sd ne fa bu hs st ln pt th hR (nI 1) 1 rfl (by omega)) (cwV9 1 hts mcX6_pottedOf (ac18 _ (List.mem_of_getElem? (i := 14) rfl)) miX6_pottedOf meX6_pottedOf mini_RX6 rfl rfl hdX6_pottedOf ⟨Nat.le_of_ble_eq_true rfl, Nat.le_of_ble_eq_true rfl⟩) hK hP hNW hk0 hR.1 rfl rfl hl.1 rfl (Nat.le_of_ble_eq_true rfl) (by decide) (dk kX6_isOver_ok 7 rfl) ?_
    refine lv_iconst (v := nI 4) hx hb (dk kX6_isOver_ok 8 rfl) rfl ?_
    refine n_icmp_eq (tgt := 36) hx hb (by have p0 := potc_le r 0; have p1 := potc_le r 1; have p2 := potc_le r 2; have p3 := potc_le r 3; omega) (by decide) (dk kX6_isOver_ok 9 rfl) (by decide) (fun h2 => ?_) (fun h2 => ?_)
    · skip
      refine lv_iconst (v := nI 1) hx hb (dk kX6_isOver_ok 20 rfl) rfl ?_
      refine lv_goto (tgt := 41) hx hb (dk kX6_isOver_ok 21 rfl) (by decide) ?_
      exact hret _ _ _ (by simp (config := { decide := true }) only [over, anyl, Nat.zero_add, (eq_false h1), (eq_true h2), decide_true, decide_false, not_true_eq_false, not_false_eq_true, and_true, true_and, and_false, false_and, or_true, true_or, or_false, false_or, and_self, or_self, if_true, if_false, Bool.false_eq_true, reduceIte]; first | done | rfl) (dk kX6_isOver_ok 23 rfl)
    · skip
      refine lv_aload_n hx hb (dk kX6_isOver_ok 10 rfl) rfl (lv_at hl 0 rfl) ?_
      refine lv_iconst (v := nI 2) hx hb (dk kX6_isOver_ok 11 rfl) rfl ?_
      refine cvR (As := [.int (nI 2)]) (rest := []) ⟨hx, hb, hml, hown, hts⟩ (tX6_pottedOf l D cI cQ cL ad N F k hk r ps sl sd ne fa bu hs st ln pt th hR (nI 2) 2 rfl (by omega)) (cwV9 1 hts mcX6_pottedOf (ac18 _ (List.mem_of_getElem? (i := 14) rfl)) miX6_pottedOf meX6_pottedOf mini_RX6 rfl rfl hdX6_pottedOf ⟨Nat.le_of_ble_eq_true rfl, Nat.le_of_ble_eq_true rfl⟩) hK hP hNW hk0 hR.1 rfl rfl hl.1 rfl (Nat.le_of_ble_eq_true rfl) (by decide) (dk kX6_isOver_ok 12 rfl) ?_
      refine lv_iconst (v := nI 4) hx hb (dk kX6_isOver_ok 13 rfl) rfl ?_
      refine n_icmp_eq (tgt := 36) hx hb (by have p0 := potc_le r 0; have p1 := potc_le r 1; have p2 := potc_le r 2; have p3 := potc_le r 3; omega) (by decide) (dk kX6_isOver_ok 14 rfl) (by decide) (fun h3 => ?_) (fun h3 => ?_)
      · skip
        refine lv_iconst (v := nI 1) hx hb (dk kX6_isOver_ok 20 rfl) rfl ?_
        refine lv_goto (tgt := 41) hx hb (dk kX6_isOver_ok 21 rfl) (by decide) ?_
        exact hret _ _ _ (by simp (config := { decide := true }) only [over, anyl, Nat.zero_add, (eq_false h1), (eq_false h2), (eq_true h3), decide_true, decide_false, not_true_eq_false, not_false_eq_true, and_true, true_and, and_false, false_and, or_true, true_or, or_false, false_or, and_self, or_self, if_true, if_false, Bool.false_eq_true, reduceIte]; first | done | rfl) (dk kX6_isOver_ok 23 rfl)
      · skip
        refine lv_aload_n hx hb (dk kX6_isOver_ok 15 rfl) rfl (lv_at hl 0 rfl) ?_
        refine lv_iconst (v := nI 3) hx hb (dk kX6_isOver_ok 16 rfl) rfl ?_
        refine cvR (As := [.int (nI 3)]) (rest := []) ⟨hx, hb, hml, hown, hts⟩ (tX6_pottedOf l D cI cQ cL ad N F k hk r ps sl sd ne fa bu hs st ln pt th hR (nI 3) 3 rfl (by omega)) (cwV9 1 hts mcX6_pottedOf (ac18 _ (List.mem_of_getElem? (i := 14) rfl)) miX6_pottedOf meX6_pottedOf mini_RX6 rfl rfl hdX6_pottedOf ⟨Nat.le_of_ble_eq_true rfl, Nat.le_of_ble_eq_true rfl⟩) hK hP hNW hk0 hR.1 rfl rfl hl.1 rfl (Nat.le_of_ble_eq_true rfl) (by decide) (dk kX6_isOver_ok 17 rfl) ?_
        refine lv_iconst (v := nI 4) hx hb (dk kX6_isOver_ok 18 rfl) rfl ?_
        refine n_icmp_ne (tgt := 40) hx hb (by have p0 := potc_le r 0; have p1 := potc_le r 1; have p2 := potc_le r 2; have p3 := potc_le r 3; omega) (by decide) (dk kX6_isOver_ok 19 rfl) (by decide) (fun h4 => ?_) (fun h4 => ?_)
        · skip
          refine lv_iconst (v := nI 0) hx hb (dk kX6_isOver_ok 22 rfl) rfl ?_
          exact hret _ _ _ (by simp (config := { decide := true }) only [over, anyl, Nat.zero_add, (eq_false h1), (eq_false h2), (eq_false h3), (eq_false h4), decide_true, decide_false, not_true_eq_false, not_false_eq_true, and_true, true_and, and_false, false_and, or_true, true_or, or_false, false_or, and_self, or_self, if_true, if_false, Bool.false_eq_true, reduceIte]; first | done | rfl) (dk kX6_isOver_ok 23 rfl)
        · skip
          refine lv_iconst (v := nI 1) hx hb (dk kX6_isOver_ok 20 rfl) rfl ?_
          refine lv_goto (tgt := 41) hx hb (dk kX6_isOver_ok 21 rfl) (by decide) ?_
          exact hret _ _ _ (by simp (config := { decide := true }) only [over, anyl, Nat.zero_add, (eq_false h1), (eq_false h2), (eq_false h3), (eq_true h4), decide_true, decide_false, not_true_eq_false, not_false_eq_true, and_true, true_and, and_false, false_and, or_true, true_or, or_false, false_or, and_self, or_self, if_true, if_false, Bool.false_eq_true, reduceIte]; first | done | rfl) (dk kX6_isOver_ok 23 rfl)
set_option maxRecDepth 100000 in
set_option maxHeartbeats 4000000 in
theorem tX6_pottedInAll (l : Launch) (D : va_G) (cI cQ cL : ClassId) (ad : Nat → Nat) (N : Nat) (F : Nat → va_E) (k : Nat) (hk : k + 7 < N) (r ps sl sd ne fa bu : Nat → Int32) (hs : Bool) (st ln pt : Nat) (th : Int32) (hR : rfAt cI ad F k r ps sl sd ne fa bu hs st ln pt th) : MR l yX6_pottedInAll (Cond.code yX6_pottedInAll cX6_pottedInAll 1 (some .int) :: AW) ({ frames := 2, cells := 0, slots := 0, locals := 44 } : Room) D cI cQ cL ad N F [.ref (ad k)] (.int (nI (potn r))) := by
  refine mr_i (ty := .int) (by decide +kernel) rfl rfl rfl rfl (Nat.le_of_ble_eq_true rfl) (fun p e s m below meth cd Q ls hx hb hml hown hts hP hK hNW hret hl => ?_)
  have hown : s.vm.findClass RX6 = some m.cls := hown
  have hk0 : k < N := by omega
  have hk1 : k + 1 < N := by omega
  have hk2 : k + 2 < N := by omega
  have hk3 : k + 3 < N := by omega
  have hk4 : k + 4 < N := by omega
  have hk5 : k + 5 < N := by omega
  have hk6 : k + 6 < N := by omega
  have hk7 : k + 7 < N := by omega
  have hl : lv_has ls 1 [(0, .ref (ad k))] := hl
  refine lv_aload_n hx hb (dk kX6_pottedInAll_ok 0 rfl) rfl (lv_at hl 0 rfl) ?_
  refine lv_iconst (v := nI 0) hx hb (dk kX6_pottedInAll_ok 1 rfl) rfl ?_
  refine cvR (As := [.int (nI 0)]) (rest := []) ⟨hx, hb, hml, hown, hts⟩ (tX6_pottedOf l D cI cQ cL ad N F k hk r ps sl sd ne fa bu hs st ln pt th hR (nI 0) 0 rfl (by omega)) (cwV9 1 hts mcX6_pottedOf (ac18 _ (List.mem_of_getElem? (i := 14) rfl)) miX6_pottedOf meX6_pottedOf mini_RX6 rfl rfl hdX6_pottedOf ⟨Nat.le_of_ble_eq_true rfl, Nat.le_of_ble_eq_true rfl⟩) hK hP hNW hk0 hR.1 rfl rfl hl.1 rfl (Nat.le_of_ble_eq_true rfl) (by decide) (dk kX6_pottedInAll_ok 2 rfl) ?_
  refine lv_aload_n hx hb (dk kX6_pottedInAll_ok 3 rfl) rfl (lv_at hl 0 rfl) ?_
  refine lv_iconst (v := nI 1) hx hb (dk kX6_pottedInAll_ok 4 rfl) rfl ?_
  refine cvR (As := [.int (nI 1)]) (rest := [.int (nI (potc r 0))]) ⟨hx, hb, hml, hown, hts⟩ (tX6_pottedOf l D cI cQ cL ad N F k hk r ps sl sd ne fa bu hs st ln pt th hR (nI 1) 1 rfl (by omega)) (cwV9 1 hts mcX6_pottedOf (ac18 _ (List.mem_of_getElem? (i := 14) rfl)) miX6_pottedOf meX6_pottedOf mini_RX6 rfl rfl hdX6_pottedOf ⟨Nat.le_of_ble_eq_true rfl, Nat.le_of_ble_eq_true rfl⟩) hK hP hNW hk0 hR.1 rfl rfl hl.1 rfl (Nat.le_of_ble_eq_true rfl) (by decide) (dk kX6_pottedInAll_ok 5 rfl) ?_
  refine n_iadd hx hb (dk kX6_pottedInAll_ok 6 rfl) ?_
  refine lv_aload_n hx hb (dk kX6_pottedInAll_ok 7 rfl) rfl (lv_at hl 0 rfl) ?_
  refine lv_iconst (v := nI 2) hx hb (dk kX6_pottedInAll_ok 8 rfl) rfl ?_
  refine cvR (As := [.int (nI 2)]) (rest := [.int (nI ((potc r 0) + (potc r 1)))]) ⟨hx, hb, hml, hown, hts⟩ (tX6_pottedOf l D cI cQ cL ad N F k hk r ps sl sd ne fa bu hs st ln pt th hR (nI 2) 2 rfl (by omega)) (cwV9 1 hts mcX6_pottedOf (ac18 _ (List.mem_of_getElem? (i := 14) rfl)) miX6_pottedOf meX6_pottedOf mini_RX6 rfl rfl hdX6_pottedOf ⟨Nat.le_of_ble_eq_true rfl, Nat.le_of_ble_eq_true rfl⟩) hK hP hNW hk0 hR.1 rfl rfl hl.1 rfl (Nat.le_of_ble_eq_true rfl) (by decide) (dk kX6_pottedInAll_ok 9 rfl) ?_
  refine n_iadd hx hb (dk kX6_pottedInAll_ok 10 rfl) ?_
  refine lv_aload_n hx hb (dk kX6_pottedInAll_ok 11 rfl) rfl (lv_at hl 0 rfl) ?_
  refine lv_iconst (v := nI 3) hx hb (dk kX6_pottedInAll_ok 12 rfl) rfl ?_
  refine cvR (As := [.int (nI 3)]) (rest := [.int (nI (((potc r 0) + (potc r 1)) + (potc r 2)))]) ⟨hx, hb, hml, hown, hts⟩ (tX6_pottedOf l D cI cQ cL ad N F k hk r ps sl sd ne fa bu hs st ln pt th hR (nI 3) 3 rfl (by omega)) (cwV9 1 hts mcX6_pottedOf (ac18 _ (List.mem_of_getElem? (i := 14) rfl)) miX6_pottedOf meX6_pottedOf mini_RX6 rfl rfl hdX6_pottedOf ⟨Nat.le_of_ble_eq_true rfl, Nat.le_of_ble_eq_true rfl⟩) hK hP hNW hk0 hR.1 rfl rfl hl.1 rfl (Nat.le_of_ble_eq_true rfl) (by decide) (dk kX6_pottedInAll_ok 13 rfl) ?_
  refine n_iadd hx hb (dk kX6_pottedInAll_ok 14 rfl) ?_
  exact hret _ _ _ (by simp only [potn, sm, Nat.zero_add]) (dk kX6_pottedInAll_ok 15 rfl)
set_option maxRecDepth 100000 in
set_option maxHeartbeats 4000000 in
theorem tX6_points (l : Launch) (D : va_G) (cI cQ cL : ClassId) (ad : Nat → Nat) (N : Nat) (F : Nat → va_E) (k : Nat) (hk : k + 7 < N) (r ps sl sd ne fa bu : Nat → Int32) (hs : Bool) (st ln pt : Nat) (th : Int32) (hR : rfAt cI ad F k r ps sl sd ne fa bu hs st ln pt th) (x : Int32) (w : Nat) (hxw : x = nI w) (hw : w < 4) : MR l yX6_points (Cond.code yX6_points cX6_points 4 (some .int) :: AW) ({ frames := 2, cells := 0, slots := 0, locals := 44 } : Room) D cI cQ cL ad N F [.ref (ad k), .int x] (.int (nI (rpt r w))) := by
  refine mr_i (ty := .int) (by decide +kernel) rfl rfl rfl rfl (Nat.le_of_ble_eq_true rfl) (fun p e s m below meth cd Q ls hx hb hml hown hts hP hK hNW hret hl => ?_)
  have hown : s.vm.findClass RX6 = some m.cls := hown
  subst hxw
  have hk0 : k < N := by omega
  have hk1 : k + 1 < N := by omega
  have hk2 : k + 2 < N := by omega
  have hk3 : k + 3 < N := by omega
  have hk4 : k + 4 < N := by omega
  have hk5 : k + 5 < N := by omega
  have hk6 : k + 6 < N := by omega
  have hk7 : k + 7 < N := by omega
  have hl : lv_has ls 4 [(0, .ref (ad k)), (1, .int (nI w))] := hl
  refine lv_iconst (v := nI 3) hx hb (dk kX6_points_ok 0 rfl) rfl ?_
  refine lv_aload_n hx hb (dk kX6_points_ok 1 rfl) rfl (lv_at hl 0 rfl) ?_
  refine lv_iload_n hx hb (dk kX6_points_ok 2 rfl) rfl (lv_at hl 1 rfl) ?_
  refine cvR (As := [.int (nI w)]) (rest := [.int (nI 3)]) ⟨hx, hb, hml, hown, hts⟩ (tX6_pottedOf l D cI cQ cL ad N F k hk r ps sl sd ne fa bu hs st ln pt th hR (nI w) w rfl (by omega)) (cwV9 1 hts mcX6_pottedOf (ac18 _ (List.mem_of_getElem? (i := 14) rfl)) miX6_pottedOf meX6_pottedOf mini_RX6 rfl rfl hdX6_pottedOf ⟨Nat.le_of_ble_eq_true rfl, Nat.le_of_ble_eq_true rfl⟩) hK hP hNW hk0 hR.1 rfl rfl hl.1 rfl (Nat.le_of_ble_eq_true rfl) (by decide) (dk kX6_points_ok 3 rfl) ?_
  refine n_imul hx hb (dk kX6_points_ok 4 rfl) ?_
  refine lv_istore_n (lv' := [(2, .int (nI (3 * (potc r w)))), (0, .ref (ad k)), (1, .int (nI w))]) hx hb (dk kX6_points_ok 5 rfl) rfl hl (by decide) rfl (fun ls hl => ?_)
  refine lv_iconst (v := nI 4) hx hb (dk kX6_points_ok 6 rfl) rfl ?_
  refine lv_iload_n hx hb (dk kX6_points_ok 7 rfl) rfl (lv_at hl 2 rfl) ?_
  refine n_imul hx hb (dk kX6_points_ok 8 rfl) ?_
  refine lv_istore_n (lv' := [(3, .int (nI (4 * w))), (2, .int (nI (3 * (potc r w)))), (0, .ref (ad k)), (1, .int (nI w))]) hx hb (dk kX6_points_ok 9 rfl) rfl hl (by decide) rfl (fun ls hl => ?_)
  have L12 : ∀ (fu : Nat) (i : Nat) (x2 : Int32), x2 = nI (3 * potc r w + cnt (rfr r w) i) → i ≤ 4 → 4 - i < fu → ∀ ls : Array Slot, lv_has ls 4 [(0, .ref (ad k)), (1, .int (nI w)), (2, .int x2), (3, .int (nI (4 * w + i)))] → W p l e ({ frames := 2, cells := 0, slots := 0, locals := 44 } : Room) s m ([.ref (ad k), .int (nI w)] : List Value).toArray below meth cd s.heap [] 0 0 Q (F0 m 12 ls []) := by
    intro fu
    induction fu with
    | zero => intros; omega
    | succ fu ih12 =>
      intro i x2 ex2 hi hm12 ls hl
      subst ex2
      refine lv_iload_n hx hb (dk kX6_points_ok 10 rfl) rfl (lv_at hl 3 rfl) ?_
      refine lv_iconst (v := nI 4) hx hb (dk kX6_points_ok 11 rfl) rfl ?_
      refine lv_iload_n hx hb (dk kX6_points_ok 12 rfl) rfl (lv_at hl 1 rfl) ?_
      refine n_imul hx hb (dk kX6_points_ok 13 rfl) ?_
      refine lv_iconst (v := nI 4) hx hb (dk kX6_points_ok 14 rfl) rfl ?_
      refine n_iadd hx hb (dk kX6_points_ok 15 rfl) ?_
      refine n_icmp_ge (tgt := 66) hx hb (by omega) (by omega) (dk kX6_points_ok 16 rfl) (by decide) (fun h1 => ?_) (fun h1 => ?_)
      · skip
        refine lv_iload_n hx hb (dk kX6_points_ok 42 rfl) rfl (lv_at hl 2 rfl) ?_
        exact hret _ _ _ (by rw [show i = 4 by omega] <;> rfl) (dk kX6_points_ok 43 rfl)
      · skip
        refine lv_iload_n hx hb (dk kX6_points_ok 17 rfl) rfl (lv_at hl 2 rfl) ?_
        refine lv_aload_n hx hb (dk kX6_points_ok 18 rfl) rfl (lv_at hl 0 rfl) ?_
        refine lv_iload_n hx hb (dk kX6_points_ok 19 rfl) rfl (lv_at hl 3 rfl) ?_
        refine cvR (As := [.int (nI (4 * w + i))]) (rest := [.int (nI (3 * potc r w + cnt (rfr r w) i))]) ⟨hx, hb, hml, hown, hts⟩ (tX6_isPotted l D cI cQ cL ad N F k hk r ps sl sd ne fa bu hs st ln pt th hR (nI (4 * w + i)) (4 * w + i) rfl (by omega)) (cwV9 1 hts mcX6_isPotted (ac18 _ (List.mem_of_getElem? (i := 6) rfl)) miX6_isPotted meX6_isPotted mini_RX6 rfl rfl hdX6_isPotted ⟨Nat.le_of_ble_eq_true rfl, Nat.le_of_ble_eq_true rfl⟩) hK hP hNW hk0 hR.1 rfl rfl hl.1 rfl (Nat.le_of_ble_eq_true rfl) (by decide) (dk kX6_points_ok 20 rfl) ?_
        refine b_if_ne (tgt := 57) hx hb (dk kX6_points_ok 21 rfl) (by decide) (fun h2 => ?_) (fun h2 => ?_)
        · skip
          refine lv_iconst (v := nI 0) hx hb (dk kX6_points_ok 37 rfl) rfl ?_
          refine n_iadd hx hb (dk kX6_points_ok 38 rfl) ?_
          refine lv_istore_n (lv' := [(2, .int (nI ((3 * potc r w + cnt (rfr r w) i) + 0))), (0, .ref (ad k)), (1, .int (nI w)), (3, .int (nI (4 * w + i)))]) hx hb (dk kX6_points_ok 39 rfl) rfl hl (by decide) rfl (fun ls hl => ?_)
          refine lv_iinc (v := nI ((4 * w + i) + 1)) (lv' := [(3, .int (nI ((4 * w + i) + 1))), (2, .int (nI ((3 * potc r w + cnt (rfr r w) i) + 0))), (0, .ref (ad k)), (1, .int (nI w))]) hx hb (dk kX6_points_ok 40 rfl) hl (k := 3) rfl (n_inc _) (by decide) rfl (fun ls hl => ?_)
          refine lv_goto (tgt := 12) hx hb (dk kX6_points_ok 41 rfl) (by decide) ?_
          exact ih12 (i + 1) _ (by simp only [cnt, rfr, (eq_true h1), (eq_false (Nat.not_le.mpr h1)), h2, decide_true, decide_false, not_true_eq_false, not_false_eq_true, and_true, true_and, and_false, false_and, or_true, true_or, or_false, false_or, and_self, or_self, if_true, if_false, Bool.false_eq_true, reduceIte, Bool.not_true, Bool.not_false, Bool.and_true, Bool.true_and, Bool.and_false, Bool.false_and, Bool.not_eq_true]; first | done | rfl | (simp [h1, h2]; done)) (by omega) (by omega) ls (lv_sub hl [2, 3, 1, 0] rfl)
        · skip
          refine lv_aload_n hx hb (dk kX6_points_ok 22 rfl) rfl (lv_at hl 0 rfl) ?_
          refine lv_iload_n hx hb (dk kX6_points_ok 23 rfl) rfl (lv_at hl 3 rfl) ?_
          refine cvR (As := [.int (nI (4 * w + i))]) (rest := [.int (nI (3 * potc r w + cnt (rfr r w) i))]) ⟨hx, hb, hml, hown, hts⟩ (tX6_isCovered l D cI cQ cL ad N F k hk r ps sl sd ne fa bu hs st ln pt th hR (nI (4 * w + i)) (4 * w + i) rfl (by omega)) (cwV9 1 hts mcX6_isCovered (ac18 _ (List.mem_of_getElem? (i := 18) rfl)) miX6_isCovered meX6_isCovered mini_RX6 rfl rfl hdX6_isCovered ⟨Nat.le_of_ble_eq_true rfl, Nat.le_of_ble_eq_true rfl⟩) hK hP hNW hk0 hR.1 rfl rfl hl.1 rfl (Nat.le_of_ble_eq_true rfl) (by decide) (dk kX6_points_ok 24 rfl) ?_
          refine b_if_ne (tgt := 57) hx hb (dk kX6_points_ok 25 rfl) (by decide) (fun h3 => ?_) (fun h3 => ?_)
          · skip
            refine lv_iconst (v := nI 0) hx hb (dk kX6_points_ok 37 rfl) rfl ?_
            refine n_iadd hx hb (dk kX6_points_ok 38 rfl) ?_
            refine lv_istore_n (lv' := [(2, .int (nI ((3 * potc r w + cnt (rfr r w) i) + 0))), (0, .ref (ad k)), (1, .int (nI w)), (3, .int (nI (4 * w + i)))]) hx hb (dk kX6_points_ok 39 rfl) rfl hl (by decide) rfl (fun ls hl => ?_)
            refine lv_iinc (v := nI ((4 * w + i) + 1)) (lv' := [(3, .int (nI ((4 * w + i) + 1))), (2, .int (nI ((3 * potc r w + cnt (rfr r w) i) + 0))), (0, .ref (ad k)), (1, .int (nI w))]) hx hb (dk kX6_points_ok 40 rfl) hl (k := 3) rfl (n_inc _) (by decide) rfl (fun ls hl => ?_)
            refine lv_goto (tgt := 12) hx hb (dk kX6_points_ok 41 rfl) (by decide) ?_
            exact ih12 (i + 1) _ (by simp only [cnt, rfr, (eq_true h1), (eq_false (Nat.not_le.mpr h1)), h2, h3, decide_true, decide_false, not_true_eq_false, not_false_eq_true, and_true, true_and, and_false, false_and, or_true, true_or, or_false, false_or, and_self, or_self, if_true, if_false, Bool.false_eq_true, reduceIte, Bool.not_true, Bool.not_false, Bool.and_true, Bool.true_and, Bool.and_false, Bool.false_and, Bool.not_eq_true]; first | done | rfl | (simp [h1, h2, h3]; done)) (by omega) (by omega) ls (lv_sub hl [2, 3, 1, 0] rfl)
          · skip
            refine lv_aload_n hx hb (dk kX6_points_ok 26 rfl) rfl (lv_at hl 0 rfl) ?_
            refine gf hx hb hts (fun w h => List.mem_cons_of_mem _ (acX6 w h)) hown hK hP hk0 hR.1 rfl 0 (by decide) (hts _ (List.mem_cons_of_mem _ (ac17 _ (List.mem_of_getElem? (i := 17) rfl)))) (fun _ h => h) rfl (dk kX6_points_ok 27 rfl) ?_
            refine lv_iconst (v := nI 0) hx hb (dk kX6_points_ok 28 rfl) rfl ?_
            refine lv_iload_n hx hb (dk kX6_points_ok 29 rfl) rfl (lv_at hl 3 rfl) ?_
            refine n_iadd0 hx hb (dk kX6_points_ok 30 rfl) ?_
            refine ald (j := (4 * w + i)) hx hb hK hP hk1 hR.2.1 rfl (by omega) (by decide) (dk kX6_points_ok 31 rfl) ?_
            refine lv_iload_n hx hb (dk kX6_points_ok 32 rfl) rfl (lv_at hl 1 rfl) ?_
            refine csP (As := [.int (nI w)]) (rest := [.int (r (4 * w + i)), .int (nI (3 * potc r w + cnt (rfr r w) i))]) ⟨hx, hb, hml, hown, hts⟩ (tX6_base l (nI w) w rfl (by omega)) (cwS9 1 hts mcX6_base (ac18 _ (List.mem_of_getElem? (i := 0) rfl)) msX6_base mini_RX6 rfl rfl hdX6_base ⟨Nat.le_of_ble_eq_true rfl, Nat.le_of_ble_eq_true rfl⟩) rfl hl.1 rfl (Nat.le_of_ble_eq_true rfl) (by decide) (dk kX6_points_ok 33 rfl) ?_
            refine lv_icmp_eq (tgt := 57) hx hb (dk kX6_points_ok 34 rfl) (by decide) (fun h4 => ?_) (fun h4 => ?_)
            · skip
              refine lv_iconst (v := nI 0) hx hb (dk kX6_points_ok 37 rfl) rfl ?_
              refine n_iadd hx hb (dk kX6_points_ok 38 rfl) ?_
              refine lv_istore_n (lv' := [(2, .int (nI ((3 * potc r w + cnt (rfr r w) i) + 0))), (0, .ref (ad k)), (1, .int (nI w)), (3, .int (nI (4 * w + i)))]) hx hb (dk kX6_points_ok 39 rfl) rfl hl (by decide) rfl (fun ls hl => ?_)
              refine lv_iinc (v := nI ((4 * w + i) + 1)) (lv' := [(3, .int (nI ((4 * w + i) + 1))), (2, .int (nI ((3 * potc r w + cnt (rfr r w) i) + 0))), (0, .ref (ad k)), (1, .int (nI w))]) hx hb (dk kX6_points_ok 40 rfl) hl (k := 3) rfl (n_inc _) (by decide) rfl (fun ls hl => ?_)
              refine lv_goto (tgt := 12) hx hb (dk kX6_points_ok 41 rfl) (by decide) ?_
              exact ih12 (i + 1) _ (by simp only [cnt, rfr, (eq_true h1), (eq_false (Nat.not_le.mpr h1)), h2, h3, (eq_true h4), decide_true, decide_false, not_true_eq_false, not_false_eq_true, and_true, true_and, and_false, false_and, or_true, true_or, or_false, false_or, and_self, or_self, if_true, if_false, Bool.false_eq_true, reduceIte, Bool.not_true, Bool.not_false, Bool.and_true, Bool.true_and, Bool.and_false, Bool.false_and, Bool.not_eq_true]; first | done | rfl | (simp [h1, h2, h3, h4]; done)) (by omega) (by omega) ls (lv_sub hl [2, 3, 1, 0] rfl)
            · skip
              refine lv_iconst (v := nI 1) hx hb (dk kX6_points_ok 35 rfl) rfl ?_
              refine lv_goto (tgt := 58) hx hb (dk kX6_points_ok 36 rfl) (by decide) ?_
              refine n_iadd hx hb (dk kX6_points_ok 38 rfl) ?_
              refine lv_istore_n (lv' := [(2, .int (nI ((3 * potc r w + cnt (rfr r w) i) + 1))), (0, .ref (ad k)), (1, .int (nI w)), (3, .int (nI (4 * w + i)))]) hx hb (dk kX6_points_ok 39 rfl) rfl hl (by decide) rfl (fun ls hl => ?_)
              refine lv_iinc (v := nI ((4 * w + i) + 1)) (lv' := [(3, .int (nI ((4 * w + i) + 1))), (2, .int (nI ((3 * potc r w + cnt (rfr r w) i) + 1))), (0, .ref (ad k)), (1, .int (nI w))]) hx hb (dk kX6_points_ok 40 rfl) hl (k := 3) rfl (n_inc _) (by decide) rfl (fun ls hl => ?_)
              refine lv_goto (tgt := 12) hx hb (dk kX6_points_ok 41 rfl) (by decide) ?_
              exact ih12 (i + 1) _ (by simp only [cnt, rfr, (eq_true h1), (eq_false (Nat.not_le.mpr h1)), h2, h3, (eq_false h4), decide_true, decide_false, not_true_eq_false, not_false_eq_true, and_true, true_and, and_false, false_and, or_true, true_or, or_false, false_or, and_self, or_self, if_true, if_false, Bool.false_eq_true, reduceIte, Bool.not_true, Bool.not_false, Bool.and_true, Bool.true_and, Bool.and_false, Bool.false_and, Bool.not_eq_true]; first | done | rfl | (simp [h1, h2, h3, h4]; done)) (by omega) (by omega) ls (lv_sub hl [2, 3, 1, 0] rfl)
  exact L12 _ 0 _ (by first | rfl | omega) (by first | rfl | omega) (Nat.lt_succ_self _) ls (lv_sub hl [2, 3, 1, 0] rfl)
set_option maxRecDepth 100000 in
set_option maxHeartbeats 4000000 in
theorem tX6_team (l : Launch) (D : va_G) (cI cQ cL : ClassId) (ad : Nat → Nat) (N : Nat) (F : Nat → va_E) (k : Nat) (hk : k + 7 < N) (r ps sl sd ne fa bu : Nat → Int32) (hs : Bool) (st ln pt : Nat) (th : Int32) (hR : rfAt cI ad F k r ps sl sd ne fa bu hs st ln pt th) (x : Int32) (w : Nat) (hxw : x = nI w) (hw : w < 2) : MR l yX6_team (Cond.code yX6_team cX6_team 2 (some .int) :: AW) ({ frames := 3, cells := 0, slots := 0, locals := 67 } : Room) D cI cQ cL ad N F [.ref (ad k), .int x] (.int (nI (rtm r w))) := by
  refine mr_i (ty := .int) (by decide +kernel) rfl rfl rfl rfl (Nat.le_of_ble_eq_true rfl) (fun p e s m below meth cd Q ls hx hb hml hown hts hP hK hNW hret hl => ?_)
  have hown : s.vm.findClass RX6 = some m.cls := hown
  subst hxw
  have hk0 : k < N := by omega
  have hk1 : k + 1 < N := by omega
  have hk2 : k + 2 < N := by omega
  have hk3 : k + 3 < N := by omega
  have hk4 : k + 4 < N := by omega
  have hk5 : k + 5 < N := by omega
  have hk6 : k + 6 < N := by omega
  have hk7 : k + 7 < N := by omega
  have hl : lv_has ls 2 [(0, .ref (ad k)), (1, .int (nI w))] := hl
  refine lv_aload_n hx hb (dk kX6_team_ok 0 rfl) rfl (lv_at hl 0 rfl) ?_
  refine lv_iload_n hx hb (dk kX6_team_ok 1 rfl) rfl (lv_at hl 1 rfl) ?_
  refine cvR (As := [.int (nI w)]) (rest := []) ⟨hx, hb, hml, hown, hts⟩ (tX6_points l D cI cQ cL ad N F k hk r ps sl sd ne fa bu hs st ln pt th hR (nI w) w rfl (by omega)) (cwV9 1 hts mcX6_points (ac18 _ (List.mem_of_getElem? (i := 22) rfl)) miX6_points meX6_points mini_RX6 rfl rfl hdX6_points ⟨Nat.le_of_ble_eq_true rfl, Nat.le_of_ble_eq_true rfl⟩) hK hP hNW hk0 hR.1 rfl rfl hl.1 rfl (Nat.le_of_ble_eq_true rfl) (by decide) (dk kX6_team_ok 2 rfl) ?_
  refine lv_aload_n hx hb (dk kX6_team_ok 3 rfl) rfl (lv_at hl 0 rfl) ?_
  refine lv_iload_n hx hb (dk kX6_team_ok 4 rfl) rfl (lv_at hl 1 rfl) ?_
  refine lv_iconst (v := nI 2) hx hb (dk kX6_team_ok 5 rfl) rfl ?_
  refine n_iadd hx hb (dk kX6_team_ok 6 rfl) ?_
  refine cvR (As := [.int (nI (w + 2))]) (rest := [.int (nI (rpt r w))]) ⟨hx, hb, hml, hown, hts⟩ (tX6_points l D cI cQ cL ad N F k hk r ps sl sd ne fa bu hs st ln pt th hR (nI (w + 2)) (w + 2) rfl (by omega)) (cwV9 1 hts mcX6_points (ac18 _ (List.mem_of_getElem? (i := 22) rfl)) miX6_points meX6_points mini_RX6 rfl rfl hdX6_points ⟨Nat.le_of_ble_eq_true rfl, Nat.le_of_ble_eq_true rfl⟩) hK hP hNW hk0 hR.1 rfl rfl hl.1 rfl (Nat.le_of_ble_eq_true rfl) (by decide) (dk kX6_team_ok 7 rfl) ?_
  refine n_iadd hx hb (dk kX6_team_ok 8 rfl) ?_
  exact hret _ _ _ (by rfl) (dk kX6_team_ok 9 rfl)
set_option maxRecDepth 100000 in
set_option maxHeartbeats 4000000 in
theorem tX6_whyNot (l : Launch) (D : va_G) (cI cQ cL : ClassId) (ad : Nat → Nat) (N : Nat) (F : Nat → va_E) (k : Nat) (hk : k + 7 < N) (r ps sl sd ne fa bu : Nat → Int32) (hs : Bool) (st ln pt : Nat) (th : Int32) (hR : rfAt cI ad F k r ps sl sd ne fa bu hs st ln pt th) (x : Int32) (w : Nat) (hxw : x = nI w) (hw : w < 16) : MR l yX6_whyNot (Cond.code yX6_whyNot cX6_whyNot 2 (some .int) :: AW) ({ frames := 3, cells := 0, slots := 0, locals := 64 } : Room) D cI cQ cL ad N F [.ref (ad k), .int x] (.int (nI (rwn r w))) := by
  refine mr_i (ty := .int) (by decide +kernel) rfl rfl rfl rfl (Nat.le_of_ble_eq_true rfl) (fun p e s m below meth cd Q ls hx hb hml hown hts hP hK hNW hret hl => ?_)
  have hown : s.vm.findClass RX6 = some m.cls := hown
  subst hxw
  have hk0 : k < N := by omega
  have hk1 : k + 1 < N := by omega
  have hk2 : k + 2 < N := by omega
  have hk3 : k + 3 < N := by omega
  have hk4 : k + 4 < N := by omega
  have hk5 : k + 5 < N := by omega
  have hk6 : k + 6 < N := by omega
  have hk7 : k + 7 < N := by omega
  have hl : lv_has ls 2 [(0, .ref (ad k)), (1, .int (nI w))] := hl
  refine lv_aload_n hx hb (dk kX6_whyNot_ok 0 rfl) rfl (lv_at hl 0 rfl) ?_
  refine cvR (As := []) (rest := []) ⟨hx, hb, hml, hown, hts⟩ (tX6_isOver l D cI cQ cL ad N F k hk r ps sl sd ne fa bu hs st ln pt th hR) (cwV9 0 hts mcX6_isOver (ac19 _ (List.mem_of_getElem? (i := 2) rfl)) miX6_isOver meX6_isOver mini_RX6 rfl rfl hdX6_isOver ⟨Nat.le_of_ble_eq_true rfl, Nat.le_of_ble_eq_true rfl⟩) hK hP hNW hk0 hR.1 rfl rfl hl.1 rfl (Nat.le_of_ble_eq_true rfl) (by decide) (dk kX6_whyNot_ok 1 rfl) ?_
  refine b_if_eq (tgt := 9) hx hb (dk kX6_whyNot_ok 2 rfl) (by decide) (fun h1 => ?_) (fun h1 => ?_)
  · skip
    refine lv_aload_n hx hb (dk kX6_whyNot_ok 5 rfl) rfl (lv_at hl 0 rfl) ?_
    refine gf hx hb hts (fun w h => List.mem_cons_of_mem _ (acX6 w h)) hown hK hP hk0 hR.1 rfl 0 (by decide) (hts _ (List.mem_cons_of_mem _ (ac17 _ (List.mem_of_getElem? (i := 17) rfl)))) (fun _ h => h) rfl (dk kX6_whyNot_ok 6 rfl) ?_
    refine lv_bipush (v := nI 56) hx hb (dk kX6_whyNot_ok 7 rfl) rfl ?_
    refine ald (j := 56) hx hb hK hP hk1 hR.2.1 rfl (by omega) (by decide) (dk kX6_whyNot_ok 8 rfl) ?_
    refine lv_iload_n hx hb (dk kX6_whyNot_ok 9 rfl) rfl (lv_at hl 1 rfl) ?_
    refine lv_iconst (v := nI 4) hx hb (dk kX6_whyNot_ok 10 rfl) rfl ?_
    refine n_idiv hx hb (by omega) (by decide) (by decide) (dk kX6_whyNot_ok 11 rfl) ?_
    refine lv_icmp_eq (tgt := 24) hx hb (dk kX6_whyNot_ok 12 rfl) (by decide) (fun h2 => ?_) (fun h2 => ?_)
    · skip
      refine lv_aload_n hx hb (dk kX6_whyNot_ok 15 rfl) rfl (lv_at hl 0 rfl) ?_
      refine lv_iload_n hx hb (dk kX6_whyNot_ok 16 rfl) rfl (lv_at hl 1 rfl) ?_
      refine cvR (As := [.int (nI w)]) (rest := []) ⟨hx, hb, hml, hown, hts⟩ (tX6_isPotted l D cI cQ cL ad N F k hk r ps sl sd ne fa bu hs st ln pt th hR (nI w) w rfl (by omega)) (cwV9 1 hts mcX6_isPotted (ac18 _ (List.mem_of_getElem? (i := 6) rfl)) miX6_isPotted meX6_isPotted mini_RX6 rfl rfl hdX6_isPotted ⟨Nat.le_of_ble_eq_true rfl, Nat.le_of_ble_eq_true rfl⟩) hK hP hNW hk0 hR.1 rfl rfl hl.1 rfl (Nat.le_of_ble_eq_true rfl) (by decide) (dk kX6_whyNot_ok 17 rfl) ?_
      refine b_if_eq (tgt := 36) hx hb (dk kX6_whyNot_ok 18 rfl) (by decide) (fun h3 => ?_) (fun h3 => ?_)
      · skip
        refine lv_aload_n hx hb (dk kX6_whyNot_ok 21 rfl) rfl (lv_at hl 0 rfl) ?_
        refine lv_iload_n hx hb (dk kX6_whyNot_ok 22 rfl) rfl (lv_at hl 1 rfl) ?_
        refine cvR (As := [.int (nI w)]) (rest := []) ⟨hx, hb, hml, hown, hts⟩ (tX6_isCovered l D cI cQ cL ad N F k hk r ps sl sd ne fa bu hs st ln pt th hR (nI w) w rfl (by omega)) (cwV9 1 hts mcX6_isCovered (ac18 _ (List.mem_of_getElem? (i := 18) rfl)) miX6_isCovered meX6_isCovered mini_RX6 rfl rfl hdX6_isCovered ⟨Nat.le_of_ble_eq_true rfl, Nat.le_of_ble_eq_true rfl⟩) hK hP hNW hk0 hR.1 rfl rfl hl.1 rfl (Nat.le_of_ble_eq_true rfl) (by decide) (dk kX6_whyNot_ok 23 rfl) ?_
        refine b_if_eq (tgt := 48) hx hb (dk kX6_whyNot_ok 24 rfl) (by decide) (fun h4 => ?_) (fun h4 => ?_)
        · skip
          refine lv_iconst (v := nI 0) hx hb (dk kX6_whyNot_ok 27 rfl) rfl ?_
          exact hret _ _ _ (by simp only [rwn, h1, (eq_true h2), h3, h4, not_true_eq_false, not_false_eq_true, and_true, true_and, and_false, false_and, or_true, true_or, or_false, false_or, and_self, or_self, if_true, if_false, Bool.false_eq_true, reduceIte]) (dk kX6_whyNot_ok 28 rfl)
        · skip
          refine lv_iconst (v := nI 4) hx hb (dk kX6_whyNot_ok 25 rfl) rfl ?_
          refine lv_goto (tgt := 49) hx hb (dk kX6_whyNot_ok 26 rfl) (by decide) ?_
          exact hret _ _ _ (by simp only [rwn, h1, (eq_true h2), h3, h4, not_true_eq_false, not_false_eq_true, and_true, true_and, and_false, false_and, or_true, true_or, or_false, false_or, and_self, or_self, if_true, if_false, Bool.false_eq_true, reduceIte]) (dk kX6_whyNot_ok 28 rfl)
      · skip
        refine lv_iconst (v := nI 3) hx hb (dk kX6_whyNot_ok 19 rfl) rfl ?_
        refine lv_goto (tgt := 49) hx hb (dk kX6_whyNot_ok 20 rfl) (by decide) ?_
        exact hret _ _ _ (by simp only [rwn, h1, (eq_true h2), h3, not_true_eq_false, not_false_eq_true, and_true, true_and, and_false, false_and, or_true, true_or, or_false, false_or, and_self, or_self, if_true, if_false, Bool.false_eq_true, reduceIte]) (dk kX6_whyNot_ok 28 rfl)
    · skip
      refine lv_iconst (v := nI 2) hx hb (dk kX6_whyNot_ok 13 rfl) rfl ?_
      exact hret _ _ _ (by simp only [rwn, h1, (eq_false h2), not_true_eq_false, not_false_eq_true, and_true, true_and, and_false, false_and, or_true, true_or, or_false, false_or, and_self, or_self, if_true, if_false, Bool.false_eq_true, reduceIte]) (dk kX6_whyNot_ok 14 rfl)
  · skip
    refine lv_iconst (v := nI 1) hx hb (dk kX6_whyNot_ok 3 rfl) rfl ?_
    exact hret _ _ _ (by simp only [rwn, h1, not_true_eq_false, not_false_eq_true, and_true, true_and, and_false, false_and, or_true, true_or, or_false, false_or, and_self, or_self, if_true, if_false, Bool.false_eq_true, reduceIte]) (dk kX6_whyNot_ok 4 rfl)
set_option maxRecDepth 100000 in
set_option maxHeartbeats 4000000 in
theorem tX6_whyNotLifted (l : Launch) (D : va_G) (cI cQ cL : ClassId) (ad : Nat → Nat) (N : Nat) (F : Nat → va_E) (k : Nat) (hk : k + 7 < N) (r ps sl sd ne fa bu : Nat → Int32) (hs : Bool) (st ln pt : Nat) (th : Int32) (hR : rfAt cI ad F k r ps sl sd ne fa bu hs st ln pt th) (x : Int32) (q : Nat) (hxq : x = nI q) (hq : q < 169) (y : Int32) (n : Nat) (hyn : y = nI n) (hn : 1 ≤ n ∧ n < 2 ^ 31) (z : Int32) (d : Nat) (hzd : z = nI d) (hd : d < 8) : MR l yX6_whyNotLifted (Cond.code yX6_whyNotLifted cX6_whyNotLifted 5 (some .int) :: AW) ({ frames := 3, cells := 0, slots := 0, locals := 64 } : Room) D cI cQ cL ad N F [.ref (ad k), .int x, .int y, .int z] (.int (nI (rwl r q n d))) := by
  refine mr_i (ty := .int) (by decide +kernel) rfl rfl rfl rfl (Nat.le_of_ble_eq_true rfl) (fun p e s m below meth cd Q ls hx hb hml hown hts hP hK hNW hret hl => ?_)
  have hown : s.vm.findClass RX6 = some m.cls := hown
  subst hxq
  subst hyn
  subst hzd
  have hh16 := hgt_le r (nI q)
  have hk0 : k < N := by omega
  have hk1 : k + 1 < N := by omega
  have hk2 : k + 2 < N := by omega
  have hk3 : k + 3 < N := by omega
  have hk4 : k + 4 < N := by omega
  have hk5 : k + 5 < N := by omega
  have hk6 : k + 6 < N := by omega
  have hk7 : k + 7 < N := by omega
  have hl : lv_has ls 5 [(0, .ref (ad k)), (1, .int (nI q)), (2, .int (nI n)), (3, .int (nI d))] := hl
  refine lv_aload_n hx hb (dk kX6_whyNotLifted_ok 0 rfl) rfl (lv_at hl 0 rfl) ?_
  refine cvR (As := []) (rest := []) ⟨hx, hb, hml, hown, hts⟩ (tX6_isOver l D cI cQ cL ad N F k hk r ps sl sd ne fa bu hs st ln pt th hR) (cwV9 0 hts mcX6_isOver (ac19 _ (List.mem_of_getElem? (i := 2) rfl)) miX6_isOver meX6_isOver mini_RX6 rfl rfl hdX6_isOver ⟨Nat.le_of_ble_eq_true rfl, Nat.le_of_ble_eq_true rfl⟩) hK hP hNW hk0 hR.1 rfl rfl hl.1 rfl (Nat.le_of_ble_eq_true rfl) (by decide) (dk kX6_whyNotLifted_ok 1 rfl) ?_
  refine b_if_eq (tgt := 9) hx hb (dk kX6_whyNotLifted_ok 2 rfl) (by decide) (fun h1 => ?_) (fun h1 => ?_)
  · skip
    refine lv_aload_n hx hb (dk kX6_whyNotLifted_ok 5 rfl) rfl (lv_at hl 0 rfl) ?_
    refine lv_iload_n hx hb (dk kX6_whyNotLifted_ok 6 rfl) rfl (lv_at hl 1 rfl) ?_
    refine cvR (As := [.int (nI q)]) (rest := []) ⟨hx, hb, hml, hown, hts⟩ (tX6_lying l D cI cQ cL ad N F k hk r ps sl sd ne fa bu hs st ln pt th hR (nI q)) (cwV9 1 hts mcX6_lying (ac18 _ (List.mem_of_getElem? (i := 10) rfl)) miX6_lying meX6_lying mini_RX6 rfl rfl hdX6_lying ⟨Nat.le_of_ble_eq_true rfl, Nat.le_of_ble_eq_true rfl⟩) hK hP hNW hk0 hR.1 rfl rfl hl.1 rfl (Nat.le_of_ble_eq_true rfl) (by decide) (dk kX6_whyNotLifted_ok 7 rfl) ?_
    refine lv_istore (lv' := [(4, .int (nI (hgt r (nI q)))), (0, .ref (ad k)), (1, .int (nI q)), (2, .int (nI n)), (3, .int (nI d))]) hx hb (dk kX6_whyNotLifted_ok 8 rfl) hl (by decide) rfl (fun ls hl => ?_)
    refine lv_iload hx hb (dk kX6_whyNotLifted_ok 9 rfl) (lv_at hl 0 rfl) ?_
    refine lv_iload_n hx hb (dk kX6_whyNotLifted_ok 10 rfl) rfl (lv_at hl 3 rfl) ?_
    refine n_icmp_ge (tgt := 24) hx hb (by omega) (by omega) (dk kX6_whyNotLifted_ok 11 rfl) (by decide) (fun h2 => ?_) (fun h2 => ?_)
    · skip
      refine lv_aload_n hx hb (dk kX6_whyNotLifted_ok 14 rfl) rfl (lv_at hl 1 rfl) ?_
      refine lv_iload_n hx hb (dk kX6_whyNotLifted_ok 15 rfl) rfl (lv_at hl 2 rfl) ?_
      refine lv_iload hx hb (dk kX6_whyNotLifted_ok 16 rfl) (lv_at hl 0 rfl) ?_
      refine lv_iconst (v := nI 1) hx hb (dk kX6_whyNotLifted_ok 17 rfl) rfl ?_
      refine n_isub hx hb (by omega) (dk kX6_whyNotLifted_ok 18 rfl) ?_
      refine cvR (As := [.int (nI q), .int (nI ((hgt r (nI q)) - 1))]) (rest := []) ⟨hx, hb, hml, hown, hts⟩ (tX6_winkAt l D cI cQ cL ad N F k hk r ps sl sd ne fa bu hs st ln pt th hR (nI q) (nI ((hgt r (nI q)) - 1))) (cwV9 2 hts mcX6_winkAt (ac20 _ (List.mem_of_getElem? (i := 8) rfl)) miX6_winkAt meX6_winkAt mini_RX6 rfl rfl hdX6_winkAt ⟨Nat.le_of_ble_eq_true rfl, Nat.le_of_ble_eq_true rfl⟩) hK hP hNW hk0 hR.1 rfl rfl hl.1 rfl (Nat.le_of_ble_eq_true rfl) (by decide) (dk kX6_whyNotLifted_ok 19 rfl) ?_
      refine lv_iconst (v := nI 4) hx hb (dk kX6_whyNotLifted_ok 20 rfl) rfl ?_
      refine lv_idiv hx hb (dk kX6_whyNotLifted_ok 21 rfl) (by decide) ?_
      refine lv_aload_n hx hb (dk kX6_whyNotLifted_ok 22 rfl) rfl (lv_at hl 1 rfl) ?_
      refine gf hx hb hts (fun w h => List.mem_cons_of_mem _ (acX6 w h)) hown hK hP hk0 hR.1 rfl 0 (by decide) (hts _ (List.mem_cons_of_mem _ (ac17 _ (List.mem_of_getElem? (i := 17) rfl)))) (fun _ h => h) rfl (dk kX6_whyNotLifted_ok 23 rfl) ?_
      refine lv_bipush (v := nI 56) hx hb (dk kX6_whyNotLifted_ok 24 rfl) rfl ?_
      refine ald (j := 56) hx hb hK hP hk1 hR.2.1 rfl (by omega) (by decide) (dk kX6_whyNotLifted_ok 25 rfl) ?_
      refine lv_icmp_eq (tgt := 47) hx hb (dk kX6_whyNotLifted_ok 26 rfl) (by decide) (fun h3 => ?_) (fun h3 => ?_)
      · skip
        refine lv_iload_n hx hb (dk kX6_whyNotLifted_ok 29 rfl) rfl (lv_at hl 3 rfl) ?_
        refine lv_aload_n hx hb (dk kX6_whyNotLifted_ok 30 rfl) rfl (lv_at hl 1 rfl) ?_
        refine gf hx hb hts (fun w h => List.mem_cons_of_mem _ (acX6 w h)) hown hK hP hk0 hR.1 rfl 0 (by decide) (hts _ (List.mem_cons_of_mem _ (ac17 _ (List.mem_of_getElem? (i := 17) rfl)))) (fun _ h => h) rfl (dk kX6_whyNotLifted_ok 31 rfl) ?_
        refine lv_bipush (v := nI 57) hx hb (dk kX6_whyNotLifted_ok 32 rfl) rfl ?_
        refine ald (j := 57) hx hb hK hP hk1 hR.2.1 rfl (by omega) (by decide) (dk kX6_whyNotLifted_ok 33 rfl) ?_
        refine lv_icmp_le (tgt := 62) hx hb (dk kX6_whyNotLifted_ok 34 rfl) (by decide) (fun h4 => ?_) (fun h4 => ?_)
        · skip
          refine lv_iload_n hx hb (dk kX6_whyNotLifted_ok 37 rfl) rfl (lv_at hl 2 rfl) ?_
          refine lv_iload_n hx hb (dk kX6_whyNotLifted_ok 38 rfl) rfl (lv_at hl 4 rfl) ?_
          refine csP (As := [.int (nI q), .int (nI d)]) (rest := []) ⟨hx, hb, hml, hown, hts⟩ (tX6_beside l (nI q) q rfl (by omega) (nI d) d rfl (by omega)) (cwS9 2 hts mcX6_beside (ac20 _ (List.mem_of_getElem? (i := 12) rfl)) msX6_beside mini_RX6 rfl rfl hdX6_beside ⟨Nat.le_of_ble_eq_true rfl, Nat.le_of_ble_eq_true rfl⟩) rfl hl.1 rfl (Nat.le_of_ble_eq_true rfl) (by decide) (dk kX6_whyNotLifted_ok 39 rfl) ?_
          refine lv_iconst (v := -1) hx hb (dk kX6_whyNotLifted_ok 40 rfl) rfl ?_
          refine lv_icmp_ne (tgt := 75) hx hb (dk kX6_whyNotLifted_ok 41 rfl) (by decide) (fun h5 => ?_) (fun h5 => ?_)
          · skip
            refine lv_iconst (v := nI 0) hx hb (dk kX6_whyNotLifted_ok 44 rfl) rfl ?_
            exact hret _ _ _ (by simp only [rwl, h1, (eq_true h2), (eq_false (Nat.not_lt.mpr h2)), (eq_true h3), (eq_true h4), (eq_false h5), not_true_eq_false, not_false_eq_true, and_true, true_and, and_false, false_and, or_true, true_or, or_false, false_or, and_self, or_self, if_true, if_false, Bool.false_eq_true, reduceIte]) (dk kX6_whyNotLifted_ok 45 rfl)
          · skip
            refine lv_iconst (v := nI 5) hx hb (dk kX6_whyNotLifted_ok 42 rfl) rfl ?_
            refine lv_goto (tgt := 76) hx hb (dk kX6_whyNotLifted_ok 43 rfl) (by decide) ?_
            exact hret _ _ _ (by simp only [rwl, h1, (eq_true h2), (eq_false (Nat.not_lt.mpr h2)), (eq_true h3), (eq_true h4), (eq_true h5), not_true_eq_false, not_false_eq_true, and_true, true_and, and_false, false_and, or_true, true_or, or_false, false_or, and_self, or_self, if_true, if_false, Bool.false_eq_true, reduceIte]) (dk kX6_whyNotLifted_ok 45 rfl)
        · skip
          refine lv_iconst (v := nI 4) hx hb (dk kX6_whyNotLifted_ok 35 rfl) rfl ?_
          refine lv_goto (tgt := 76) hx hb (dk kX6_whyNotLifted_ok 36 rfl) (by decide) ?_
          exact hret _ _ _ (by simp only [rwl, h1, (eq_true h2), (eq_false (Nat.not_lt.mpr h2)), (eq_true h3), (eq_false h4), not_true_eq_false, not_false_eq_true, and_true, true_and, and_false, false_and, or_true, true_or, or_false, false_or, and_self, or_self, if_true, if_false, Bool.false_eq_true, reduceIte]) (dk kX6_whyNotLifted_ok 45 rfl)
      · skip
        refine lv_iconst (v := nI 3) hx hb (dk kX6_whyNotLifted_ok 27 rfl) rfl ?_
        exact hret _ _ _ (by simp only [rwl, h1, (eq_true h2), (eq_false (Nat.not_lt.mpr h2)), (eq_false h3), not_true_eq_false, not_false_eq_true, and_true, true_and, and_false, false_and, or_true, true_or, or_false, false_or, and_self, or_self, if_true, if_false, Bool.false_eq_true, reduceIte]) (dk kX6_whyNotLifted_ok 28 rfl)
    · skip
      refine lv_iconst (v := nI 2) hx hb (dk kX6_whyNotLifted_ok 12 rfl) rfl ?_
      exact hret _ _ _ (by simp only [rwl, h1, (eq_true h2), (eq_false (Nat.not_le.mpr h2)), not_true_eq_false, not_false_eq_true, and_true, true_and, and_false, false_and, or_true, true_or, or_false, false_or, and_self, or_self, if_true, if_false, Bool.false_eq_true, reduceIte]) (dk kX6_whyNotLifted_ok 13 rfl)
  · skip
    refine lv_iconst (v := nI 1) hx hb (dk kX6_whyNotLifted_ok 3 rfl) rfl ?_
    exact hret _ _ _ (by simp only [rwl, h1, not_true_eq_false, not_false_eq_true, and_true, true_and, and_false, false_and, or_true, true_or, or_false, false_or, and_self, or_self, if_true, if_false, Bool.false_eq_true, reduceIte]) (dk kX6_whyNotLifted_ok 4 rfl)
set_option maxRecDepth 100000 in
set_option maxHeartbeats 4000000 in
theorem tX6_coveredOf (l : Launch) (D : va_G) (cI cQ cL : ClassId) (ad : Nat → Nat) (N : Nat) (F : Nat → va_E) (k : Nat) (hk : k + 7 < N) (r ps sl sd ne fa bu : Nat → Int32) (hs : Bool) (st ln pt : Nat) (th : Int32) (hR : rfAt cI ad F k r ps sl sd ne fa bu hs st ln pt th) (x : Int32) (w : Nat) (hxw : x = nI w) (hw : w < 4) : MR l yX6_coveredOf (Cond.code yX6_coveredOf cX6_coveredOf 4 (some .int) :: AW) ({ frames := 2, cells := 0, slots := 0, locals := 44 } : Room) D cI cQ cL ad N F [.ref (ad k), .int x] (.int (nI (rcc r w))) := by
  refine mr_i (ty := .int) (by decide +kernel) rfl rfl rfl rfl (Nat.le_of_ble_eq_true rfl) (fun p e s m below meth cd Q ls hx hb hml hown hts hP hK hNW hret hl => ?_)
  have hown : s.vm.findClass RX6 = some m.cls := hown
  subst hxw
  have hk0 : k < N := by omega
  have hk1 : k + 1 < N := by omega
  have hk2 : k + 2 < N := by omega
  have hk3 : k + 3 < N := by omega
  have hk4 : k + 4 < N := by omega
  have hk5 : k + 5 < N := by omega
  have hk6 : k + 6 < N := by omega
  have hk7 : k + 7 < N := by omega
  have hl : lv_has ls 4 [(0, .ref (ad k)), (1, .int (nI w))] := hl
  refine lv_iconst (v := nI 0) hx hb (dk kX6_coveredOf_ok 0 rfl) rfl ?_
  refine lv_istore_n (lv' := [(2, .int (nI 0)), (0, .ref (ad k)), (1, .int (nI w))]) hx hb (dk kX6_coveredOf_ok 1 rfl) rfl hl (by decide) rfl (fun ls hl => ?_)
  refine lv_iconst (v := nI 4) hx hb (dk kX6_coveredOf_ok 2 rfl) rfl ?_
  refine lv_iload_n hx hb (dk kX6_coveredOf_ok 3 rfl) rfl (lv_at hl 2 rfl) ?_
  refine n_imul hx hb (dk kX6_coveredOf_ok 4 rfl) ?_
  refine lv_istore_n (lv' := [(3, .int (nI (4 * w))), (2, .int (nI 0)), (0, .ref (ad k)), (1, .int (nI w))]) hx hb (dk kX6_coveredOf_ok 5 rfl) rfl hl (by decide) rfl (fun ls hl => ?_)
  have L6 : ∀ (fu : Nat) (i : Nat) (x2 : Int32), x2 = nI (cnt (fun i => rcv r (4 * w + i)) i) → i ≤ 4 → 4 - i < fu → ∀ ls : Array Slot, lv_has ls 4 [(0, .ref (ad k)), (1, .int (nI w)), (2, .int x2), (3, .int (nI (4 * w + i)))] → W p l e ({ frames := 2, cells := 0, slots := 0, locals := 44 } : Room) s m ([.ref (ad k), .int (nI w)] : List Value).toArray below meth cd s.heap [] 0 0 Q (F0 m 6 ls []) := by
    intro fu
    induction fu with
    | zero => intros; omega
    | succ fu ih6 =>
      intro i x2 ex2 hi hm6 ls hl
      subst ex2
      refine lv_iload_n hx hb (dk kX6_coveredOf_ok 6 rfl) rfl (lv_at hl 3 rfl) ?_
      refine lv_iconst (v := nI 4) hx hb (dk kX6_coveredOf_ok 7 rfl) rfl ?_
      refine lv_iload_n hx hb (dk kX6_coveredOf_ok 8 rfl) rfl (lv_at hl 1 rfl) ?_
      refine n_imul hx hb (dk kX6_coveredOf_ok 9 rfl) ?_
      refine lv_iconst (v := nI 4) hx hb (dk kX6_coveredOf_ok 10 rfl) rfl ?_
      refine n_iadd hx hb (dk kX6_coveredOf_ok 11 rfl) ?_
      refine n_icmp_ge (tgt := 37) hx hb (by omega) (by omega) (dk kX6_coveredOf_ok 12 rfl) (by decide) (fun h1 => ?_) (fun h1 => ?_)
      · skip
        refine lv_iload_n hx hb (dk kX6_coveredOf_ok 25 rfl) rfl (lv_at hl 2 rfl) ?_
        exact hret _ _ _ (by rw [show i = 4 by omega] <;> rfl) (dk kX6_coveredOf_ok 26 rfl)
      · skip
        refine lv_iload_n hx hb (dk kX6_coveredOf_ok 13 rfl) rfl (lv_at hl 2 rfl) ?_
        refine lv_aload_n hx hb (dk kX6_coveredOf_ok 14 rfl) rfl (lv_at hl 0 rfl) ?_
        refine lv_iload_n hx hb (dk kX6_coveredOf_ok 15 rfl) rfl (lv_at hl 3 rfl) ?_
        refine cvR (As := [.int (nI (4 * w + i))]) (rest := [.int (nI (cnt (fun i => rcv r (4 * w + i)) i))]) ⟨hx, hb, hml, hown, hts⟩ (tX6_isCovered l D cI cQ cL ad N F k hk r ps sl sd ne fa bu hs st ln pt th hR (nI (4 * w + i)) (4 * w + i) rfl (by omega)) (cwV9 1 hts mcX6_isCovered (ac18 _ (List.mem_of_getElem? (i := 18) rfl)) miX6_isCovered meX6_isCovered mini_RX6 rfl rfl hdX6_isCovered ⟨Nat.le_of_ble_eq_true rfl, Nat.le_of_ble_eq_true rfl⟩) hK hP hNW hk0 hR.1 rfl rfl hl.1 rfl (Nat.le_of_ble_eq_true rfl) (by decide) (dk kX6_coveredOf_ok 16 rfl) ?_
        refine b_if_eq (tgt := 28) hx hb (dk kX6_coveredOf_ok 17 rfl) (by decide) (fun h2 => ?_) (fun h2 => ?_)
        · skip
          refine lv_iconst (v := nI 0) hx hb (dk kX6_coveredOf_ok 20 rfl) rfl ?_
          refine n_iadd hx hb (dk kX6_coveredOf_ok 21 rfl) ?_
          refine lv_istore_n (lv' := [(2, .int (nI ((cnt (fun i => rcv r (4 * w + i)) i) + 0))), (0, .ref (ad k)), (1, .int (nI w)), (3, .int (nI (4 * w + i)))]) hx hb (dk kX6_coveredOf_ok 22 rfl) rfl hl (by decide) rfl (fun ls hl => ?_)
          refine lv_iinc (v := nI ((4 * w + i) + 1)) (lv' := [(3, .int (nI ((4 * w + i) + 1))), (2, .int (nI ((cnt (fun i => rcv r (4 * w + i)) i) + 0))), (0, .ref (ad k)), (1, .int (nI w))]) hx hb (dk kX6_coveredOf_ok 23 rfl) hl (k := 3) rfl (n_inc _) (by decide) rfl (fun ls hl => ?_)
          refine lv_goto (tgt := 6) hx hb (dk kX6_coveredOf_ok 24 rfl) (by decide) ?_
          exact ih6 (i + 1) _ (by simp [cnt, h1, h2]) (by omega) (by omega) ls (lv_sub hl [2, 3, 1, 0] rfl)
        · skip
          refine lv_iconst (v := nI 1) hx hb (dk kX6_coveredOf_ok 18 rfl) rfl ?_
          refine lv_goto (tgt := 29) hx hb (dk kX6_coveredOf_ok 19 rfl) (by decide) ?_
          refine n_iadd hx hb (dk kX6_coveredOf_ok 21 rfl) ?_
          refine lv_istore_n (lv' := [(2, .int (nI ((cnt (fun i => rcv r (4 * w + i)) i) + 1))), (0, .ref (ad k)), (1, .int (nI w)), (3, .int (nI (4 * w + i)))]) hx hb (dk kX6_coveredOf_ok 22 rfl) rfl hl (by decide) rfl (fun ls hl => ?_)
          refine lv_iinc (v := nI ((4 * w + i) + 1)) (lv' := [(3, .int (nI ((4 * w + i) + 1))), (2, .int (nI ((cnt (fun i => rcv r (4 * w + i)) i) + 1))), (0, .ref (ad k)), (1, .int (nI w))]) hx hb (dk kX6_coveredOf_ok 23 rfl) hl (k := 3) rfl (n_inc _) (by decide) rfl (fun ls hl => ?_)
          refine lv_goto (tgt := 6) hx hb (dk kX6_coveredOf_ok 24 rfl) (by decide) ?_
          exact ih6 (i + 1) _ (by simp [cnt, h1, h2]) (by omega) (by omega) ls (lv_sub hl [2, 3, 1, 0] rfl)
  exact L6 _ 0 _ (by first | rfl | omega) (by first | rfl | omega) (Nat.lt_succ_self _) ls (lv_sub hl [2, 3, 1, 0] rfl)
set_option maxRecDepth 100000 in
set_option maxHeartbeats 4000000 in
theorem tX6_covered (l : Launch) (D : va_G) (cI cQ cL : ClassId) (ad : Nat → Nat) (N : Nat) (F : Nat → va_E) (k : Nat) (hk : k + 7 < N) (r ps sl sd ne fa bu : Nat → Int32) (hs : Bool) (st ln pt : Nat) (th : Int32) (hR : rfAt cI ad F k r ps sl sd ne fa bu hs st ln pt th) : MR l yX6_covered (Cond.code yX6_covered cX6_covered 1 (some .int) :: AW) ({ frames := 3, cells := 0, slots := 0, locals := 67 } : Room) D cI cQ cL ad N F [.ref (ad k)] (.int (nI (rcs r))) := by
  refine mr_i (ty := .int) (by decide +kernel) rfl rfl rfl rfl (Nat.le_of_ble_eq_true rfl) (fun p e s m below meth cd Q ls hx hb hml hown hts hP hK hNW hret hl => ?_)
  have hown : s.vm.findClass RX6 = some m.cls := hown
  have hk0 : k < N := by omega
  have hk1 : k + 1 < N := by omega
  have hk2 : k + 2 < N := by omega
  have hk3 : k + 3 < N := by omega
  have hk4 : k + 4 < N := by omega
  have hk5 : k + 5 < N := by omega
  have hk6 : k + 6 < N := by omega
  have hk7 : k + 7 < N := by omega
  have hl : lv_has ls 1 [(0, .ref (ad k))] := hl
  refine lv_aload_n hx hb (dk kX6_covered_ok 0 rfl) rfl (lv_at hl 0 rfl) ?_
  refine lv_iconst (v := nI 0) hx hb (dk kX6_covered_ok 1 rfl) rfl ?_
  refine cvR (As := [.int (nI 0)]) (rest := []) ⟨hx, hb, hml, hown, hts⟩ (tX6_coveredOf l D cI cQ cL ad N F k hk r ps sl sd ne fa bu hs st ln pt th hR (nI 0) 0 rfl (by omega)) (cwV9 1 hts mcX6_coveredOf (ac23 _ (List.mem_of_getElem? (i := 2) rfl)) miX6_coveredOf meX6_coveredOf mini_RX6 rfl rfl hdX6_coveredOf ⟨Nat.le_of_ble_eq_true rfl, Nat.le_of_ble_eq_true rfl⟩) hK hP hNW hk0 hR.1 rfl rfl hl.1 rfl (Nat.le_of_ble_eq_true rfl) (by decide) (dk kX6_covered_ok 2 rfl) ?_
  refine lv_aload_n hx hb (dk kX6_covered_ok 3 rfl) rfl (lv_at hl 0 rfl) ?_
  refine lv_iconst (v := nI 1) hx hb (dk kX6_covered_ok 4 rfl) rfl ?_
  refine cvR (As := [.int (nI 1)]) (rest := [.int (nI (rcc r 0))]) ⟨hx, hb, hml, hown, hts⟩ (tX6_coveredOf l D cI cQ cL ad N F k hk r ps sl sd ne fa bu hs st ln pt th hR (nI 1) 1 rfl (by omega)) (cwV9 1 hts mcX6_coveredOf (ac23 _ (List.mem_of_getElem? (i := 2) rfl)) miX6_coveredOf meX6_coveredOf mini_RX6 rfl rfl hdX6_coveredOf ⟨Nat.le_of_ble_eq_true rfl, Nat.le_of_ble_eq_true rfl⟩) hK hP hNW hk0 hR.1 rfl rfl hl.1 rfl (Nat.le_of_ble_eq_true rfl) (by decide) (dk kX6_covered_ok 5 rfl) ?_
  refine n_iadd hx hb (dk kX6_covered_ok 6 rfl) ?_
  refine lv_aload_n hx hb (dk kX6_covered_ok 7 rfl) rfl (lv_at hl 0 rfl) ?_
  refine lv_iconst (v := nI 2) hx hb (dk kX6_covered_ok 8 rfl) rfl ?_
  refine cvR (As := [.int (nI 2)]) (rest := [.int (nI ((rcc r 0) + (rcc r 1)))]) ⟨hx, hb, hml, hown, hts⟩ (tX6_coveredOf l D cI cQ cL ad N F k hk r ps sl sd ne fa bu hs st ln pt th hR (nI 2) 2 rfl (by omega)) (cwV9 1 hts mcX6_coveredOf (ac23 _ (List.mem_of_getElem? (i := 2) rfl)) miX6_coveredOf meX6_coveredOf mini_RX6 rfl rfl hdX6_coveredOf ⟨Nat.le_of_ble_eq_true rfl, Nat.le_of_ble_eq_true rfl⟩) hK hP hNW hk0 hR.1 rfl rfl hl.1 rfl (Nat.le_of_ble_eq_true rfl) (by decide) (dk kX6_covered_ok 9 rfl) ?_
  refine n_iadd hx hb (dk kX6_covered_ok 10 rfl) ?_
  refine lv_aload_n hx hb (dk kX6_covered_ok 11 rfl) rfl (lv_at hl 0 rfl) ?_
  refine lv_iconst (v := nI 3) hx hb (dk kX6_covered_ok 12 rfl) rfl ?_
  refine cvR (As := [.int (nI 3)]) (rest := [.int (nI (((rcc r 0) + (rcc r 1)) + (rcc r 2)))]) ⟨hx, hb, hml, hown, hts⟩ (tX6_coveredOf l D cI cQ cL ad N F k hk r ps sl sd ne fa bu hs st ln pt th hR (nI 3) 3 rfl (by omega)) (cwV9 1 hts mcX6_coveredOf (ac23 _ (List.mem_of_getElem? (i := 2) rfl)) miX6_coveredOf meX6_coveredOf mini_RX6 rfl rfl hdX6_coveredOf ⟨Nat.le_of_ble_eq_true rfl, Nat.le_of_ble_eq_true rfl⟩) hK hP hNW hk0 hR.1 rfl rfl hl.1 rfl (Nat.le_of_ble_eq_true rfl) (by decide) (dk kX6_covered_ok 13 rfl) ?_
  refine n_iadd hx hb (dk kX6_covered_ok 14 rfl) ?_
  exact hret _ _ _ (by rfl) (dk kX6_covered_ok 15 rfl)
set_option maxRecDepth 100000 in
set_option maxHeartbeats 4000000 in
theorem tX6_colours (l : Launch) (D : va_G) (cI cQ cL : ClassId) (ad : Nat → Nat) (N : Nat) (F : Nat → va_E) (k : Nat) (hk : k + 7 < N) (r ps sl sd ne fa bu : Nat → Int32) (hs : Bool) (st ln pt : Nat) (th : Int32) (hR : rfAt cI ad F k r ps sl sd ne fa bu hs st ln pt th) (q : Int32) : MR l yX6_colours (Cond.code yX6_colours cX6_colours 4 (some .int) :: AW) ({ frames := 0, cells := 0, slots := 0, locals := 0 } : Room) D cI cQ cL ad N F [.ref (ad k), .int q] (.int (msk (fun i => decide (r i = q)) 16)) := by
  refine mr_i (ty := .int) (by decide +kernel) rfl rfl rfl rfl (Nat.le_of_ble_eq_true rfl) (fun p e s m below meth cd Q ls hx hb hml hown hts hP hK hNW hret hl => ?_)
  have hown : s.vm.findClass RX6 = some m.cls := hown
  have hk0 : k < N := by omega
  have hk1 : k + 1 < N := by omega
  have hk2 : k + 2 < N := by omega
  have hk3 : k + 3 < N := by omega
  have hk4 : k + 4 < N := by omega
  have hk5 : k + 5 < N := by omega
  have hk6 : k + 6 < N := by omega
  have hk7 : k + 7 < N := by omega
  have hl : lv_has ls 4 [(0, .ref (ad k)), (1, .int q)] := hl
  refine lv_iconst (v := nI 0) hx hb (dk kX6_colours_ok 0 rfl) rfl ?_
  refine lv_istore_n (lv' := [(2, .int (nI 0)), (0, .ref (ad k)), (1, .int q)]) hx hb (dk kX6_colours_ok 1 rfl) rfl hl (by decide) rfl (fun ls hl => ?_)
  refine lv_iconst (v := nI 0) hx hb (dk kX6_colours_ok 2 rfl) rfl ?_
  refine lv_istore_n (lv' := [(3, .int (nI 0)), (2, .int (nI 0)), (0, .ref (ad k)), (1, .int q)]) hx hb (dk kX6_colours_ok 3 rfl) rfl hl (by decide) rfl (fun ls hl => ?_)
  have L4 : ∀ (fu : Nat) (i : Nat) (x2 : Int32), x2 = msk (fun i => decide (r i = q)) i → i ≤ 16 → 16 - i < fu → ∀ ls : Array Slot, lv_has ls 4 [(0, .ref (ad k)), (1, .int q), (2, .int x2), (3, .int (nI i))] → W p l e ({ frames := 0, cells := 0, slots := 0, locals := 0 } : Room) s m ([.ref (ad k), .int q] : List Value).toArray below meth cd s.heap [] 0 0 Q (F0 m 4 ls []) := by
    intro fu
    induction fu with
    | zero => intros; omega
    | succ fu ih4 =>
      intro i x2 ex2 hi hm4 ls hl
      subst ex2
      refine lv_iload_n hx hb (dk kX6_colours_ok 4 rfl) rfl (lv_at hl 3 rfl) ?_
      refine lv_bipush (v := nI 16) hx hb (dk kX6_colours_ok 5 rfl) rfl ?_
      refine n_icmp_ge (tgt := 40) hx hb (by omega) (by decide) (dk kX6_colours_ok 6 rfl) (by decide) (fun h1 => ?_) (fun h1 => ?_)
      · skip
        refine lv_iload_n hx hb (dk kX6_colours_ok 27 rfl) rfl (lv_at hl 2 rfl) ?_
        exact hret _ _ _ (by rw [show i = 16 by omega] <;> rfl) (dk kX6_colours_ok 28 rfl)
      · skip
        refine lv_iload_n hx hb (dk kX6_colours_ok 7 rfl) rfl (lv_at hl 2 rfl) ?_
        refine lv_aload_n hx hb (dk kX6_colours_ok 8 rfl) rfl (lv_at hl 0 rfl) ?_
        refine gf hx hb hts (fun w h => List.mem_cons_of_mem _ (acX6 w h)) hown hK hP hk0 hR.1 rfl 0 (by decide) (hts _ (List.mem_cons_of_mem _ (ac17 _ (List.mem_of_getElem? (i := 17) rfl)))) (fun _ h => h) rfl (dk kX6_colours_ok 9 rfl) ?_
        refine lv_iconst (v := nI 0) hx hb (dk kX6_colours_ok 10 rfl) rfl ?_
        refine lv_iload_n hx hb (dk kX6_colours_ok 11 rfl) rfl (lv_at hl 3 rfl) ?_
        refine n_iadd0 hx hb (dk kX6_colours_ok 12 rfl) ?_
        refine ald (j := i) hx hb hK hP hk1 hR.2.1 rfl (by omega) (by decide) (dk kX6_colours_ok 13 rfl) ?_
        refine lv_iload_n hx hb (dk kX6_colours_ok 14 rfl) rfl (lv_at hl 1 rfl) ?_
        refine lv_icmp_ne (tgt := 31) hx hb (dk kX6_colours_ok 15 rfl) (by decide) (fun h2 => ?_) (fun h2 => ?_)
        · skip
          refine lv_iconst (v := nI 0) hx hb (dk kX6_colours_ok 22 rfl) rfl ?_
          refine lv_ior hx hb (dk kX6_colours_ok 23 rfl) ?_
          refine lv_istore_n (lv' := [(2, .int ((msk (fun i => decide (r i = q)) i) ||| (nI 0))), (0, .ref (ad k)), (1, .int q), (3, .int (nI i))]) hx hb (dk kX6_colours_ok 24 rfl) rfl hl (by decide) rfl (fun ls hl => ?_)
          refine lv_iinc (v := nI (i + 1)) (lv' := [(3, .int (nI (i + 1))), (2, .int ((msk (fun i => decide (r i = q)) i) ||| (nI 0))), (0, .ref (ad k)), (1, .int q)]) hx hb (dk kX6_colours_ok 25 rfl) hl (k := 3) rfl (n_inc _) (by decide) rfl (fun ls hl => ?_)
          refine lv_goto (tgt := 4) hx hb (dk kX6_colours_ok 26 rfl) (by decide) ?_
          exact ih4 (i + 1) _ (by first | (simp [msk, h1, h2]; done) | (simp only [msk, (eq_true h1), (eq_false (Nat.not_le.mpr h1)), (eq_false h2), decide_true, decide_false, not_true_eq_false, not_false_eq_true, and_true, true_and, and_false, false_and, or_true, true_or, or_false, false_or, and_self, or_self, if_true, if_false, Bool.false_eq_true, reduceIte]; exact or0 _)) (by omega) (by omega) ls (lv_sub hl [2, 3, 1, 0] rfl)
        · skip
          refine lv_iconst (v := nI 1) hx hb (dk kX6_colours_ok 16 rfl) rfl ?_
          refine lv_iload_n hx hb (dk kX6_colours_ok 17 rfl) rfl (lv_at hl 3 rfl) ?_
          refine lv_iconst (v := nI 4) hx hb (dk kX6_colours_ok 18 rfl) rfl ?_
          refine n_idiv hx hb (by omega) (by decide) (by decide) (dk kX6_colours_ok 19 rfl) ?_
          refine lv_ishl hx hb (dk kX6_colours_ok 20 rfl) ?_
          refine lv_goto (tgt := 32) hx hb (dk kX6_colours_ok 21 rfl) (by decide) ?_
          refine lv_ior hx hb (dk kX6_colours_ok 23 rfl) ?_
          refine lv_istore_n (lv' := [(2, .int ((msk (fun i => decide (r i = q)) i) ||| ((nI 1) <<< ((nI (i / 4)) &&& 31)))), (0, .ref (ad k)), (1, .int q), (3, .int (nI i))]) hx hb (dk kX6_colours_ok 24 rfl) rfl hl (by decide) rfl (fun ls hl => ?_)
          refine lv_iinc (v := nI (i + 1)) (lv' := [(3, .int (nI (i + 1))), (2, .int ((msk (fun i => decide (r i = q)) i) ||| ((nI 1) <<< ((nI (i / 4)) &&& 31)))), (0, .ref (ad k)), (1, .int q)]) hx hb (dk kX6_colours_ok 25 rfl) hl (k := 3) rfl (n_inc _) (by decide) rfl (fun ls hl => ?_)
          refine lv_goto (tgt := 4) hx hb (dk kX6_colours_ok 26 rfl) (by decide) ?_
          exact ih4 (i + 1) _ (by first | (simp [msk, h1, h2]; done) | (simp only [msk, (eq_true h1), (eq_false (Nat.not_le.mpr h1)), (eq_true h2), decide_true, decide_false, not_true_eq_false, not_false_eq_true, and_true, true_and, and_false, false_and, or_true, true_or, or_false, false_or, and_self, or_self, if_true, if_false, Bool.false_eq_true, reduceIte]; exact or0 _)) (by omega) (by omega) ls (lv_sub hl [2, 3, 1, 0] rfl)
  exact L4 _ 0 _ (by first | rfl | omega) (by first | rfl | omega) (Nat.lt_succ_self _) ls (lv_sub hl [2, 3, 1, 0] rfl)
set_option maxRecDepth 100000 in
set_option maxHeartbeats 4000000 in
theorem tX6_below (l : Launch) (D : va_G) (cI cQ cL : ClassId) (ad : Nat → Nat) (N : Nat) (F : Nat → va_E) (k : Nat) (hk : k + 7 < N) (r ps sl sd ne fa bu : Nat → Int32) (hs : Bool) (st ln pt : Nat) (th : Int32) (hR : rfAt cI ad F k r ps sl sd ne fa bu hs st ln pt th) (x : Int32) (w : Nat) (hxw : x = nI w) (hw : w < 4) : MR l yX6_below (Cond.code yX6_below cX6_below 6 (some .int) :: AW) ({ frames := 1, cells := 0, slots := 0, locals := 21 } : Room) D cI cQ cL ad N F [.ref (ad k), .int x] (.int (nI (rbl r w))) := by
  refine mr_i (ty := .int) (by decide +kernel) rfl rfl rfl rfl (Nat.le_of_ble_eq_true rfl) (fun p e s m below meth cd Q ls hx hb hml hown hts hP hK hNW hret hl => ?_)
  have hown : s.vm.findClass RX6 = some m.cls := hown
  subst hxw
  have hk0 : k < N := by omega
  have hk1 : k + 1 < N := by omega
  have hk2 : k + 2 < N := by omega
  have hk3 : k + 3 < N := by omega
  have hk4 : k + 4 < N := by omega
  have hk5 : k + 5 < N := by omega
  have hk6 : k + 6 < N := by omega
  have hk7 : k + 7 < N := by omega
  have hl : lv_has ls 6 [(0, .ref (ad k)), (1, .int (nI w))] := hl
  refine lv_iconst (v := nI 0) hx hb (dk kX6_below_0_ok 0 rfl) rfl ?_
  refine lv_istore_n (lv' := [(2, .int (nI 0)), (0, .ref (ad k)), (1, .int (nI w))]) hx hb (dk kX6_below_0_ok 1 rfl) rfl hl (by decide) rfl (fun ls hl => ?_)
  refine lv_iconst (v := nI 0) hx hb (dk kX6_below_0_ok 2 rfl) rfl ?_
  refine lv_istore_n (lv' := [(3, .int (nI 0)), (2, .int (nI 0)), (0, .ref (ad k)), (1, .int (nI w))]) hx hb (dk kX6_below_0_ok 3 rfl) rfl hl (by decide) rfl (fun ls hl => ?_)
  have L4 : ∀ (fu : Nat) (i : Nat) (x2 : Int32), x2 = nI (cnt (fun v => rbo r w v 4 && !(decide (v / 4 = w))) i) → i ≤ 16 → 16 - i < fu → ∀ ls : Array Slot, lv_has ls 6 [(0, .ref (ad k)), (1, .int (nI w)), (2, .int x2), (3, .int (nI i))] → W p l e ({ frames := 1, cells := 0, slots := 0, locals := 21 } : Room) s m ([.ref (ad k), .int (nI w)] : List Value).toArray below meth cd s.heap [] 0 0 Q (F0 m 4 ls []) := by
    intro fu
    induction fu with
    | zero => intros; omega
    | succ fu ih4 =>
      intro i x2 ex2 hi hm4 ls hl
      subst ex2
      refine lv_iload_n hx hb (dk kX6_below_0_ok 4 rfl) rfl (lv_at hl 3 rfl) ?_
      refine lv_bipush (v := nI 16) hx hb (dk kX6_below_0_ok 5 rfl) rfl ?_
      refine n_icmp_ge (tgt := 122) hx hb (by omega) (by decide) (dk kX6_below_0_ok 6 rfl) (by decide) (fun h1 => ?_) (fun h1 => ?_)
      · skip
        refine lv_iload_n hx hb (dk kX6_below_1_ok 13 rfl) rfl (lv_at hl 2 rfl) ?_
        exact hret _ _ _ (by rw [show i = 16 by omega] <;> rfl) (dk kX6_below_1_ok 14 rfl)
      · skip
        refine lv_iconst (v := nI 0) hx hb (dk kX6_below_0_ok 7 rfl) rfl ?_
        refine lv_istore (lv' := [(4, .int (nI 0)), (0, .ref (ad k)), (1, .int (nI w)), (2, .int (nI (cnt (fun v => rbo r w v 4 && !(decide (v / 4 = w))) i))), (3, .int (nI i))]) hx hb (dk kX6_below_0_ok 8 rfl) hl (by decide) rfl (fun ls hl => ?_)
        refine lv_iconst (v := nI 4) hx hb (dk kX6_below_0_ok 9 rfl) rfl ?_
        refine lv_iload_n hx hb (dk kX6_below_0_ok 10 rfl) rfl (lv_at hl 2 rfl) ?_
        refine n_imul hx hb (dk kX6_below_0_ok 11 rfl) ?_
        refine lv_istore (lv' := [(5, .int (nI (4 * w))), (4, .int (nI 0)), (0, .ref (ad k)), (1, .int (nI w)), (2, .int (nI (cnt (fun v => rbo r w v 4 && !(decide (v / 4 = w))) i))), (3, .int (nI i))]) hx hb (dk kX6_below_0_ok 12 rfl) hl (by decide) rfl (fun ls hl => ?_)
        have L18 : ∀ (fu : Nat) (o : Nat) (x4 : Int32), x4 = bI (rbo r w i o) → o ≤ 4 → 4 - o < fu → ∀ ls : Array Slot, lv_has ls 6 [(0, .ref (ad k)), (1, .int (nI w)), (2, .int (nI (cnt (fun v => rbo r w v 4 && !(decide (v / 4 = w))) i))), (3, .int (nI i)), (4, .int x4), (5, .int (nI (4 * w + o)))] → W p l e ({ frames := 1, cells := 0, slots := 0, locals := 21 } : Room) s m ([.ref (ad k), .int (nI w)] : List Value).toArray below meth cd s.heap [] 0 0 Q (F0 m 18 ls []) := by
          intro fu
          induction fu with
          | zero => intros; omega
          | succ fu ih18 =>
            intro o x4 ex4 ho hm18 ls hl
            subst ex4
            refine lv_iload hx hb (dk kX6_below_0_ok 13 rfl) (lv_at hl 5 rfl) ?_
            refine lv_iconst (v := nI 4) hx hb (dk kX6_below_0_ok 14 rfl) rfl ?_
            refine lv_iload_n hx hb (dk kX6_below_0_ok 15 rfl) rfl (lv_at hl 1 rfl) ?_
            refine n_imul hx hb (dk kX6_below_0_ok 16 rfl) ?_
            refine lv_iconst (v := nI 4) hx hb (dk kX6_below_0_ok 17 rfl) rfl ?_
            refine n_iadd hx hb (dk kX6_below_0_ok 18 rfl) ?_
            refine n_icmp_ge (tgt := 96) hx hb (by omega) (by omega) (dk kX6_below_0_ok 19 rfl) (by decide) (fun h2 => ?_) (fun h2 => ?_)
            · skip
              refine lv_iload_n hx hb (dk kX6_below_0_ok 58 rfl) rfl (lv_at hl 2 rfl) ?_
              refine lv_iload hx hb (dk kX6_below_0_ok 59 rfl) (lv_at hl 4 rfl) ?_
              refine b_if_eq (tgt := 113) hx hb (dk kX6_below_1_ok 0 rfl) (by decide) (fun h3 => ?_) (fun h3 => ?_)
              · skip
                refine lv_iconst (v := nI 0) hx hb (dk kX6_below_1_ok 8 rfl) rfl ?_
                refine n_iadd hx hb (dk kX6_below_1_ok 9 rfl) ?_
                refine lv_istore_n (lv' := [(2, .int (nI ((cnt (fun v => rbo r w v 4 && !(decide (v / 4 = w))) i) + 0))), (0, .ref (ad k)), (1, .int (nI w)), (3, .int (nI i)), (4, .int (bI (rbo r w i o))), (5, .int (nI (4 * w + o)))]) hx hb (dk kX6_below_1_ok 10 rfl) rfl hl (by decide) rfl (fun ls hl => ?_)
                refine lv_iinc (v := nI (i + 1)) (lv' := [(3, .int (nI (i + 1))), (2, .int (nI ((cnt (fun v => rbo r w v 4 && !(decide (v / 4 = w))) i) + 0))), (0, .ref (ad k)), (1, .int (nI w)), (4, .int (bI (rbo r w i o))), (5, .int (nI (4 * w + o)))]) hx hb (dk kX6_below_1_ok 11 rfl) hl (k := 3) rfl (n_inc _) (by decide) rfl (fun ls hl => ?_)
                refine lv_goto (tgt := 4) hx hb (dk kX6_below_1_ok 12 rfl) (by decide) ?_
                exact ih4 (i + 1) _ (by obtain rfl : o = 4 := (by omega); simp [cnt, h1, h2, h3]) (by omega) (by omega) ls (lv_sub hl [2, 3, 1, 0] rfl)
              · skip
                refine lv_iload_n hx hb (dk kX6_below_1_ok 1 rfl) rfl (lv_at hl 3 rfl) ?_
                refine lv_iconst (v := nI 4) hx hb (dk kX6_below_1_ok 2 rfl) rfl ?_
                refine n_idiv hx hb (by omega) (by decide) (by decide) (dk kX6_below_1_ok 3 rfl) ?_
                refine lv_iload_n hx hb (dk kX6_below_1_ok 4 rfl) rfl (lv_at hl 1 rfl) ?_
                refine n_icmp_eq (tgt := 113) hx hb (by omega) (by omega) (dk kX6_below_1_ok 5 rfl) (by decide) (fun h4 => ?_) (fun h4 => ?_)
                · skip
                  refine lv_iconst (v := nI 0) hx hb (dk kX6_below_1_ok 8 rfl) rfl ?_
                  refine n_iadd hx hb (dk kX6_below_1_ok 9 rfl) ?_
                  refine lv_istore_n (lv' := [(2, .int (nI ((cnt (fun v => rbo r w v 4 && !(decide (v / 4 = w))) i) + 0))), (0, .ref (ad k)), (1, .int (nI w)), (3, .int (nI i)), (4, .int (bI (rbo r w i o))), (5, .int (nI (4 * w + o)))]) hx hb (dk kX6_below_1_ok 10 rfl) rfl hl (by decide) rfl (fun ls hl => ?_)
                  refine lv_iinc (v := nI (i + 1)) (lv' := [(3, .int (nI (i + 1))), (2, .int (nI ((cnt (fun v => rbo r w v 4 && !(decide (v / 4 = w))) i) + 0))), (0, .ref (ad k)), (1, .int (nI w)), (4, .int (bI (rbo r w i o))), (5, .int (nI (4 * w + o)))]) hx hb (dk kX6_below_1_ok 11 rfl) hl (k := 3) rfl (n_inc _) (by decide) rfl (fun ls hl => ?_)
                  refine lv_goto (tgt := 4) hx hb (dk kX6_below_1_ok 12 rfl) (by decide) ?_
                  exact ih4 (i + 1) _ (by obtain rfl : o = 4 := (by omega); simp [cnt, h1, h2, h3, h4]) (by omega) (by omega) ls (lv_sub hl [2, 3, 1, 0] rfl)
                · skip
                  refine lv_iconst (v := nI 1) hx hb (dk kX6_below_1_ok 6 rfl) rfl ?_
                  refine lv_goto (tgt := 114) hx hb (dk kX6_below_1_ok 7 rfl) (by decide) ?_
                  refine n_iadd hx hb (dk kX6_below_1_ok 9 rfl) ?_
                  refine lv_istore_n (lv' := [(2, .int (nI ((cnt (fun v => rbo r w v 4 && !(decide (v / 4 = w))) i) + 1))), (0, .ref (ad k)), (1, .int (nI w)), (3, .int (nI i)), (4, .int (bI (rbo r w i o))), (5, .int (nI (4 * w + o)))]) hx hb (dk kX6_below_1_ok 10 rfl) rfl hl (by decide) rfl (fun ls hl => ?_)
                  refine lv_iinc (v := nI (i + 1)) (lv' := [(3, .int (nI (i + 1))), (2, .int (nI ((cnt (fun v => rbo r w v 4 && !(decide (v / 4 = w))) i) + 1))), (0, .ref (ad k)), (1, .int (nI w)), (4, .int (bI (rbo r w i o))), (5, .int (nI (4 * w + o)))]) hx hb (dk kX6_below_1_ok 11 rfl) hl (k := 3) rfl (n_inc _) (by decide) rfl (fun ls hl => ?_)
                  refine lv_goto (tgt := 4) hx hb (dk kX6_below_1_ok 12 rfl) (by decide) ?_
                  exact ih4 (i + 1) _ (by obtain rfl : o = 4 := (by omega); simp [cnt, h1, h2, h3, h4]) (by omega) (by omega) ls (lv_sub hl [2, 3, 1, 0] rfl)
            · skip
              refine lv_iload hx hb (dk kX6_below_0_ok 20 rfl) (lv_at hl 4 rfl) ?_
              refine b_if_ne (tgt := 83) hx hb (dk kX6_below_0_ok 21 rfl) (by decide) (fun h5 => ?_) (fun h5 => ?_)
              · skip
                refine lv_iconst (v := nI 1) hx hb (dk kX6_below_0_ok 52 rfl) rfl ?_
                refine lv_goto (tgt := 88) hx hb (dk kX6_below_0_ok 53 rfl) (by decide) ?_
                refine lv_istore (lv' := [(4, .int (nI 1)), (0, .ref (ad k)), (1, .int (nI w)), (2, .int (nI (cnt (fun v => rbo r w v 4 && !(decide (v / 4 = w))) i))), (3, .int (nI i)), (5, .int (nI (4 * w + o)))]) hx hb (dk kX6_below_0_ok 55 rfl) hl (by decide) rfl (fun ls hl => ?_)
                refine lv_iinc (v := nI ((4 * w + o) + 1)) (lv' := [(5, .int (nI ((4 * w + o) + 1))), (4, .int (nI 1)), (0, .ref (ad k)), (1, .int (nI w)), (2, .int (nI (cnt (fun v => rbo r w v 4 && !(decide (v / 4 = w))) i))), (3, .int (nI i))]) hx hb (dk kX6_below_0_ok 56 rfl) hl (k := 5) rfl (n_inc _) (by decide) rfl (fun ls hl => ?_)
                refine lv_goto (tgt := 18) hx hb (dk kX6_below_0_ok 57 rfl) (by decide) ?_
                exact ih18 (o + 1) _ (by simp only [rbo, rbw, (eq_true h1), (eq_false (Nat.not_le.mpr h1)), (eq_true h2), (eq_false (Nat.not_le.mpr h2)), h5, decide_true, decide_false, not_true_eq_false, not_false_eq_true, and_true, true_and, and_false, false_and, or_true, true_or, or_false, false_or, and_self, or_self, if_true, if_false, Bool.false_eq_true, reduceIte, Bool.not_true, Bool.not_false, Bool.and_true, Bool.true_and, Bool.and_false, Bool.false_and]; first | done | rfl | (simp [h1, h2, h5]; done)) (by omega) (by omega) ls (lv_sub hl [2, 3, 4, 5, 1, 0] rfl)
              · skip
                refine lv_aload_n hx hb (dk kX6_below_0_ok 22 rfl) rfl (lv_at hl 0 rfl) ?_
                refine lv_iload_n hx hb (dk kX6_below_0_ok 23 rfl) rfl (lv_at hl 3 rfl) ?_
                refine cvR (As := [.int (nI i)]) (rest := []) ⟨hx, hb, hml, hown, hts⟩ (tX6_isPotted l D cI cQ cL ad N F k hk r ps sl sd ne fa bu hs st ln pt th hR (nI i) i rfl (by omega)) (cwV9 1 hts mcX6_isPotted (ac18 _ (List.mem_of_getElem? (i := 6) rfl)) miX6_isPotted meX6_isPotted mini_RX6 rfl rfl hdX6_isPotted ⟨Nat.le_of_ble_eq_true rfl, Nat.le_of_ble_eq_true rfl⟩) hK hP hNW hk0 hR.1 rfl rfl hl.1 rfl (Nat.le_of_ble_eq_true rfl) (by decide) (dk kX6_below_0_ok 24 rfl) ?_
                refine b_if_ne (tgt := 87) hx hb (dk kX6_below_0_ok 25 rfl) (by decide) (fun h6 => ?_) (fun h6 => ?_)
                · skip
                  refine lv_iconst (v := nI 0) hx hb (dk kX6_below_0_ok 54 rfl) rfl ?_
                  refine lv_istore (lv' := [(4, .int (nI 0)), (0, .ref (ad k)), (1, .int (nI w)), (2, .int (nI (cnt (fun v => rbo r w v 4 && !(decide (v / 4 = w))) i))), (3, .int (nI i)), (5, .int (nI (4 * w + o)))]) hx hb (dk kX6_below_0_ok 55 rfl) hl (by decide) rfl (fun ls hl => ?_)
                  refine lv_iinc (v := nI ((4 * w + o) + 1)) (lv' := [(5, .int (nI ((4 * w + o) + 1))), (4, .int (nI 0)), (0, .ref (ad k)), (1, .int (nI w)), (2, .int (nI (cnt (fun v => rbo r w v 4 && !(decide (v / 4 = w))) i))), (3, .int (nI i))]) hx hb (dk kX6_below_0_ok 56 rfl) hl (k := 5) rfl (n_inc _) (by decide) rfl (fun ls hl => ?_)
                  refine lv_goto (tgt := 18) hx hb (dk kX6_below_0_ok 57 rfl) (by decide) ?_
                  exact ih18 (o + 1) _ (by simp only [rbo, rbw, (eq_true h1), (eq_false (Nat.not_le.mpr h1)), (eq_true h2), (eq_false (Nat.not_le.mpr h2)), h5, h6, decide_true, decide_false, not_true_eq_false, not_false_eq_true, and_true, true_and, and_false, false_and, or_true, true_or, or_false, false_or, and_self, or_self, if_true, if_false, Bool.false_eq_true, reduceIte, Bool.not_true, Bool.not_false, Bool.and_true, Bool.true_and, Bool.and_false, Bool.false_and]; first | done | rfl | (simp [h1, h2, h5, h6]; done)) (by omega) (by omega) ls (lv_sub hl [2, 3, 4, 5, 1, 0] rfl)
                · skip
                  refine lv_aload_n hx hb (dk kX6_below_0_ok 26 rfl) rfl (lv_at hl 0 rfl) ?_
                  refine gf hx hb hts (fun w h => List.mem_cons_of_mem _ (acX6 w h)) hown hK hP hk0 hR.1 rfl 0 (by decide) (hts _ (List.mem_cons_of_mem _ (ac17 _ (List.mem_of_getElem? (i := 17) rfl)))) (fun _ h => h) rfl (dk kX6_below_0_ok 27 rfl) ?_
                  refine lv_iconst (v := nI 0) hx hb (dk kX6_below_0_ok 28 rfl) rfl ?_
                  refine lv_iload hx hb (dk kX6_below_0_ok 29 rfl) (lv_at hl 5 rfl) ?_
                  refine n_iadd0 hx hb (dk kX6_below_0_ok 30 rfl) ?_
                  refine ald (j := (4 * w + o)) hx hb hK hP hk1 hR.2.1 rfl (by omega) (by decide) (dk kX6_below_0_ok 31 rfl) ?_
                  refine lv_aload_n hx hb (dk kX6_below_0_ok 32 rfl) rfl (lv_at hl 0 rfl) ?_
                  refine gf hx hb hts (fun w h => List.mem_cons_of_mem _ (acX6 w h)) hown hK hP hk0 hR.1 rfl 0 (by decide) (hts _ (List.mem_cons_of_mem _ (ac17 _ (List.mem_of_getElem? (i := 17) rfl)))) (fun _ h => h) rfl (dk kX6_below_0_ok 33 rfl) ?_
                  refine lv_iconst (v := nI 0) hx hb (dk kX6_below_0_ok 34 rfl) rfl ?_
                  refine lv_iload_n hx hb (dk kX6_below_0_ok 35 rfl) rfl (lv_at hl 3 rfl) ?_
                  refine n_iadd0 hx hb (dk kX6_below_0_ok 36 rfl) ?_
                  refine ald (j := i) hx hb hK hP hk1 hR.2.1 rfl (by omega) (by decide) (dk kX6_below_0_ok 37 rfl) ?_
                  refine lv_icmp_ne (tgt := 87) hx hb (dk kX6_below_0_ok 38 rfl) (by decide) (fun h7 => ?_) (fun h7 => ?_)
                  · skip
                    refine lv_iconst (v := nI 0) hx hb (dk kX6_below_0_ok 54 rfl) rfl ?_
                    refine lv_istore (lv' := [(4, .int (nI 0)), (0, .ref (ad k)), (1, .int (nI w)), (2, .int (nI (cnt (fun v => rbo r w v 4 && !(decide (v / 4 = w))) i))), (3, .int (nI i)), (5, .int (nI (4 * w + o)))]) hx hb (dk kX6_below_0_ok 55 rfl) hl (by decide) rfl (fun ls hl => ?_)
                    refine lv_iinc (v := nI ((4 * w + o) + 1)) (lv' := [(5, .int (nI ((4 * w + o) + 1))), (4, .int (nI 0)), (0, .ref (ad k)), (1, .int (nI w)), (2, .int (nI (cnt (fun v => rbo r w v 4 && !(decide (v / 4 = w))) i))), (3, .int (nI i))]) hx hb (dk kX6_below_0_ok 56 rfl) hl (k := 5) rfl (n_inc _) (by decide) rfl (fun ls hl => ?_)
                    refine lv_goto (tgt := 18) hx hb (dk kX6_below_0_ok 57 rfl) (by decide) ?_
                    exact ih18 (o + 1) _ (by simp only [rbo, rbw, (eq_true h1), (eq_false (Nat.not_le.mpr h1)), (eq_true h2), (eq_false (Nat.not_le.mpr h2)), h5, h6, (eq_false h7), decide_true, decide_false, not_true_eq_false, not_false_eq_true, and_true, true_and, and_false, false_and, or_true, true_or, or_false, false_or, and_self, or_self, if_true, if_false, Bool.false_eq_true, reduceIte, Bool.not_true, Bool.not_false, Bool.and_true, Bool.true_and, Bool.and_false, Bool.false_and]; first | done | rfl | (simp [h1, h2, h5, h6, h7]; done)) (by omega) (by omega) ls (lv_sub hl [2, 3, 4, 5, 1, 0] rfl)
                  · skip
                    refine lv_aload_n hx hb (dk kX6_below_0_ok 39 rfl) rfl (lv_at hl 0 rfl) ?_
                    refine gf hx hb hts (fun w h => List.mem_cons_of_mem _ (acX6 w h)) hown hK hP hk0 hR.1 rfl 0 (by decide) (hts _ (List.mem_cons_of_mem _ (ac17 _ (List.mem_of_getElem? (i := 17) rfl)))) (fun _ h => h) rfl (dk kX6_below_0_ok 40 rfl) ?_
                    refine lv_bipush (v := nI 16) hx hb (dk kX6_below_0_ok 41 rfl) rfl ?_
                    refine lv_iload hx hb (dk kX6_below_0_ok 42 rfl) (lv_at hl 5 rfl) ?_
                    refine n_iadd hx hb (dk kX6_below_0_ok 43 rfl) ?_
                    refine ald (j := (16 + (4 * w + o))) hx hb hK hP hk1 hR.2.1 rfl (by omega) (by decide) (dk kX6_below_0_ok 44 rfl) ?_
                    refine lv_aload_n hx hb (dk kX6_below_0_ok 45 rfl) rfl (lv_at hl 0 rfl) ?_
                    refine gf hx hb hts (fun w h => List.mem_cons_of_mem _ (acX6 w h)) hown hK hP hk0 hR.1 rfl 0 (by decide) (hts _ (List.mem_cons_of_mem _ (ac17 _ (List.mem_of_getElem? (i := 17) rfl)))) (fun _ h => h) rfl (dk kX6_below_0_ok 46 rfl) ?_
                    refine lv_bipush (v := nI 16) hx hb (dk kX6_below_0_ok 47 rfl) rfl ?_
                    refine lv_iload_n hx hb (dk kX6_below_0_ok 48 rfl) rfl (lv_at hl 3 rfl) ?_
                    refine n_iadd hx hb (dk kX6_below_0_ok 49 rfl) ?_
                    refine ald (j := (16 + i)) hx hb hK hP hk1 hR.2.1 rfl (by omega) (by decide) (dk kX6_below_0_ok 50 rfl) ?_
                    refine lv_icmp_le (tgt := 87) hx hb (dk kX6_below_0_ok 51 rfl) (by decide) (fun h8 => ?_) (fun h8 => ?_)
                    · skip
                      refine lv_iconst (v := nI 0) hx hb (dk kX6_below_0_ok 54 rfl) rfl ?_
                      refine lv_istore (lv' := [(4, .int (nI 0)), (0, .ref (ad k)), (1, .int (nI w)), (2, .int (nI (cnt (fun v => rbo r w v 4 && !(decide (v / 4 = w))) i))), (3, .int (nI i)), (5, .int (nI (4 * w + o)))]) hx hb (dk kX6_below_0_ok 55 rfl) hl (by decide) rfl (fun ls hl => ?_)
                      refine lv_iinc (v := nI ((4 * w + o) + 1)) (lv' := [(5, .int (nI ((4 * w + o) + 1))), (4, .int (nI 0)), (0, .ref (ad k)), (1, .int (nI w)), (2, .int (nI (cnt (fun v => rbo r w v 4 && !(decide (v / 4 = w))) i))), (3, .int (nI i))]) hx hb (dk kX6_below_0_ok 56 rfl) hl (k := 5) rfl (n_inc _) (by decide) rfl (fun ls hl => ?_)
                      refine lv_goto (tgt := 18) hx hb (dk kX6_below_0_ok 57 rfl) (by decide) ?_
                      exact ih18 (o + 1) _ (by simp only [rbo, rbw, (eq_true h1), (eq_false (Nat.not_le.mpr h1)), (eq_true h2), (eq_false (Nat.not_le.mpr h2)), h5, h6, (eq_true h7), (eq_true h8), decide_true, decide_false, not_true_eq_false, not_false_eq_true, and_true, true_and, and_false, false_and, or_true, true_or, or_false, false_or, and_self, or_self, if_true, if_false, Bool.false_eq_true, reduceIte, Bool.not_true, Bool.not_false, Bool.and_true, Bool.true_and, Bool.and_false, Bool.false_and]; first | done | rfl | (simp [h1, h2, h5, h6, h7, h8]; done)) (by omega) (by omega) ls (lv_sub hl [2, 3, 4, 5, 1, 0] rfl)
                    · skip
                      refine lv_iconst (v := nI 1) hx hb (dk kX6_below_0_ok 52 rfl) rfl ?_
                      refine lv_goto (tgt := 88) hx hb (dk kX6_below_0_ok 53 rfl) (by decide) ?_
                      refine lv_istore (lv' := [(4, .int (nI 1)), (0, .ref (ad k)), (1, .int (nI w)), (2, .int (nI (cnt (fun v => rbo r w v 4 && !(decide (v / 4 = w))) i))), (3, .int (nI i)), (5, .int (nI (4 * w + o)))]) hx hb (dk kX6_below_0_ok 55 rfl) hl (by decide) rfl (fun ls hl => ?_)
                      refine lv_iinc (v := nI ((4 * w + o) + 1)) (lv' := [(5, .int (nI ((4 * w + o) + 1))), (4, .int (nI 1)), (0, .ref (ad k)), (1, .int (nI w)), (2, .int (nI (cnt (fun v => rbo r w v 4 && !(decide (v / 4 = w))) i))), (3, .int (nI i))]) hx hb (dk kX6_below_0_ok 56 rfl) hl (k := 5) rfl (n_inc _) (by decide) rfl (fun ls hl => ?_)
                      refine lv_goto (tgt := 18) hx hb (dk kX6_below_0_ok 57 rfl) (by decide) ?_
                      exact ih18 (o + 1) _ (by simp only [rbo, rbw, (eq_true h1), (eq_false (Nat.not_le.mpr h1)), (eq_true h2), (eq_false (Nat.not_le.mpr h2)), h5, h6, (eq_true h7), (eq_false h8), decide_true, decide_false, not_true_eq_false, not_false_eq_true, and_true, true_and, and_false, false_and, or_true, true_or, or_false, false_or, and_self, or_self, if_true, if_false, Bool.false_eq_true, reduceIte, Bool.not_true, Bool.not_false, Bool.and_true, Bool.true_and, Bool.and_false, Bool.false_and]; first | done | rfl | (simp [h1, h2, h5, h6, h7, h8]; done)) (by omega) (by omega) ls (lv_sub hl [2, 3, 4, 5, 1, 0] rfl)
        exact L18 _ 0 _ (by first | rfl | omega) (by first | rfl | omega) (Nat.lt_succ_self _) ls (lv_sub hl [2, 3, 4, 5, 1, 0] rfl)
  exact L4 _ 0 _ (by first | rfl | omega) (by first | rfl | omega) (Nat.lt_succ_self _) ls (lv_sub hl [2, 3, 1, 0] rfl)
set_option maxRecDepth 100000 in
set_option maxHeartbeats 4000000 in
theorem tX6_piles (l : Launch) (D : va_G) (cI cQ cL : ClassId) (ad : Nat → Nat) (N : Nat) (F : Nat → va_E) (k : Nat) (hk : k + 7 < N) (r ps sl sd ne fa bu : Nat → Int32) (hs : Bool) (st ln pt : Nat) (th : Int32) (hR : rfAt cI ad F k r ps sl sd ne fa bu hs st ln pt th) : MR l yX6_piles (Cond.code yX6_piles cX6_piles 3 (some .int) :: AW) ({ frames := 0, cells := 0, slots := 0, locals := 0 } : Room) D cI cQ cL ad N F [.ref (ad k)] (.int (nI (rpl r))) := by
  refine mr_i (ty := .int) (by decide +kernel) rfl rfl rfl rfl (Nat.le_of_ble_eq_true rfl) (fun p e s m below meth cd Q ls hx hb hml hown hts hP hK hNW hret hl => ?_)
  have hown : s.vm.findClass RX6 = some m.cls := hown
  have hk0 : k < N := by omega
  have hk1 : k + 1 < N := by omega
  have hk2 : k + 2 < N := by omega
  have hk3 : k + 3 < N := by omega
  have hk4 : k + 4 < N := by omega
  have hk5 : k + 5 < N := by omega
  have hk6 : k + 6 < N := by omega
  have hk7 : k + 7 < N := by omega
  have hl : lv_has ls 3 [(0, .ref (ad k))] := hl
  refine lv_iconst (v := nI 0) hx hb (dk kX6_piles_ok 0 rfl) rfl ?_
  refine lv_istore_n (lv' := [(1, .int (nI 0)), (0, .ref (ad k))]) hx hb (dk kX6_piles_ok 1 rfl) rfl hl (by decide) rfl (fun ls hl => ?_)
  refine lv_iconst (v := nI 0) hx hb (dk kX6_piles_ok 2 rfl) rfl ?_
  refine lv_istore_n (lv' := [(2, .int (nI 0)), (1, .int (nI 0)), (0, .ref (ad k))]) hx hb (dk kX6_piles_ok 3 rfl) rfl hl (by decide) rfl (fun ls hl => ?_)
  have L4 : ∀ (fu : Nat) (i : Nat) (x1 : Int32), x1 = nI (cnt (fun w => decide (r (16 + w) = 0)) i) → i ≤ 16 → 16 - i < fu → ∀ ls : Array Slot, lv_has ls 3 [(0, .ref (ad k)), (1, .int x1), (2, .int (nI i))] → W p l e ({ frames := 0, cells := 0, slots := 0, locals := 0 } : Room) s m ([.ref (ad k)] : List Value).toArray below meth cd s.heap [] 0 0 Q (F0 m 4 ls []) := by
    intro fu
    induction fu with
    | zero => intros; omega
    | succ fu ih4 =>
      intro i x1 ex1 hi hm4 ls hl
      subst ex1
      refine lv_iload_n hx hb (dk kX6_piles_ok 4 rfl) rfl (lv_at hl 2 rfl) ?_
      refine lv_bipush (v := nI 16) hx hb (dk kX6_piles_ok 5 rfl) rfl ?_
      refine n_icmp_ge (tgt := 36) hx hb (by omega) (by decide) (dk kX6_piles_ok 6 rfl) (by decide) (fun h1 => ?_) (fun h1 => ?_)
      · skip
        refine lv_iload_n hx hb (dk kX6_piles_ok 22 rfl) rfl (lv_at hl 1 rfl) ?_
        exact hret _ _ _ (by rw [show i = 16 by omega] <;> rfl) (dk kX6_piles_ok 23 rfl)
      · skip
        refine lv_iload_n hx hb (dk kX6_piles_ok 7 rfl) rfl (lv_at hl 1 rfl) ?_
        refine lv_aload_n hx hb (dk kX6_piles_ok 8 rfl) rfl (lv_at hl 0 rfl) ?_
        refine gf hx hb hts (fun w h => List.mem_cons_of_mem _ (acX6 w h)) hown hK hP hk0 hR.1 rfl 0 (by decide) (hts _ (List.mem_cons_of_mem _ (ac17 _ (List.mem_of_getElem? (i := 17) rfl)))) (fun _ h => h) rfl (dk kX6_piles_ok 9 rfl) ?_
        refine lv_bipush (v := nI 16) hx hb (dk kX6_piles_ok 10 rfl) rfl ?_
        refine lv_iload_n hx hb (dk kX6_piles_ok 11 rfl) rfl (lv_at hl 2 rfl) ?_
        refine n_iadd hx hb (dk kX6_piles_ok 12 rfl) ?_
        refine ald (j := (16 + i)) hx hb hK hP hk1 hR.2.1 rfl (by omega) (by decide) (dk kX6_piles_ok 13 rfl) ?_
        refine lv_if_ne (tgt := 27) hx hb (dk kX6_piles_ok 14 rfl) (by decide) (fun h2 => ?_) (fun h2 => ?_)
        · skip
          refine lv_iconst (v := nI 0) hx hb (dk kX6_piles_ok 17 rfl) rfl ?_
          refine n_iadd hx hb (dk kX6_piles_ok 18 rfl) ?_
          refine lv_istore_n (lv' := [(1, .int (nI ((cnt (fun w => decide (r (16 + w) = 0)) i) + 0))), (0, .ref (ad k)), (2, .int (nI i))]) hx hb (dk kX6_piles_ok 19 rfl) rfl hl (by decide) rfl (fun ls hl => ?_)
          refine lv_iinc (v := nI (i + 1)) (lv' := [(2, .int (nI (i + 1))), (1, .int (nI ((cnt (fun w => decide (r (16 + w) = 0)) i) + 0))), (0, .ref (ad k))]) hx hb (dk kX6_piles_ok 20 rfl) hl (k := 2) rfl (n_inc _) (by decide) rfl (fun ls hl => ?_)
          refine lv_goto (tgt := 4) hx hb (dk kX6_piles_ok 21 rfl) (by decide) ?_
          exact ih4 (i + 1) _ (by simp [cnt, h1, h2]) (by omega) (by omega) ls (lv_sub hl [2, 1, 0] rfl)
        · skip
          refine lv_iconst (v := nI 1) hx hb (dk kX6_piles_ok 15 rfl) rfl ?_
          refine lv_goto (tgt := 28) hx hb (dk kX6_piles_ok 16 rfl) (by decide) ?_
          refine n_iadd hx hb (dk kX6_piles_ok 18 rfl) ?_
          refine lv_istore_n (lv' := [(1, .int (nI ((cnt (fun w => decide (r (16 + w) = 0)) i) + 1))), (0, .ref (ad k)), (2, .int (nI i))]) hx hb (dk kX6_piles_ok 19 rfl) rfl hl (by decide) rfl (fun ls hl => ?_)
          refine lv_iinc (v := nI (i + 1)) (lv' := [(2, .int (nI (i + 1))), (1, .int (nI ((cnt (fun w => decide (r (16 + w) = 0)) i) + 1))), (0, .ref (ad k))]) hx hb (dk kX6_piles_ok 20 rfl) hl (k := 2) rfl (n_inc _) (by decide) rfl (fun ls hl => ?_)
          refine lv_goto (tgt := 4) hx hb (dk kX6_piles_ok 21 rfl) (by decide) ?_
          exact ih4 (i + 1) _ (by simp [cnt, h1, h2]) (by omega) (by omega) ls (lv_sub hl [2, 1, 0] rfl)
  exact L4 _ 0 _ (by first | rfl | omega) (by first | rfl | omega) (Nat.lt_succ_self _) ls (lv_sub hl [2, 1, 0] rfl)
set_option maxRecDepth 100000 in
set_option maxHeartbeats 4000000 in
theorem tX6_highest (l : Launch) (D : va_G) (cI cQ cL : ClassId) (ad : Nat → Nat) (N : Nat) (F : Nat → va_E) (k : Nat) (hk : k + 7 < N) (r ps sl sd ne fa bu : Nat → Int32) (hs : Bool) (st ln pt : Nat) (th : Int32) (hR : rfAt cI ad F k r ps sl sd ne fa bu hs st ln pt th) : MR l yX6_highest (Cond.code yX6_highest cX6_highest 3 (some .int) :: AW) ({ frames := 0, cells := 0, slots := 0, locals := 0 } : Room) D cI cQ cL ad N F [.ref (ad k)] (.int (rhi r 16)) := by
  refine mr_i (ty := .int) (by decide +kernel) rfl rfl rfl rfl (Nat.le_of_ble_eq_true rfl) (fun p e s m below meth cd Q ls hx hb hml hown hts hP hK hNW hret hl => ?_)
  have hown : s.vm.findClass RX6 = some m.cls := hown
  have hk0 : k < N := by omega
  have hk1 : k + 1 < N := by omega
  have hk2 : k + 2 < N := by omega
  have hk3 : k + 3 < N := by omega
  have hk4 : k + 4 < N := by omega
  have hk5 : k + 5 < N := by omega
  have hk6 : k + 6 < N := by omega
  have hk7 : k + 7 < N := by omega
  have hl : lv_has ls 3 [(0, .ref (ad k))] := hl
  refine lv_iconst (v := nI 0) hx hb (dk kX6_highest_ok 0 rfl) rfl ?_
  refine lv_istore_n (lv' := [(1, .int (nI 0)), (0, .ref (ad k))]) hx hb (dk kX6_highest_ok 1 rfl) rfl hl (by decide) rfl (fun ls hl => ?_)
  refine lv_iconst (v := nI 0) hx hb (dk kX6_highest_ok 2 rfl) rfl ?_
  refine lv_istore_n (lv' := [(2, .int (nI 0)), (1, .int (nI 0)), (0, .ref (ad k))]) hx hb (dk kX6_highest_ok 3 rfl) rfl hl (by decide) rfl (fun ls hl => ?_)
  have L4 : ∀ (fu : Nat) (i : Nat) (x1 : Int32), x1 = rhi r i → i ≤ 16 → 16 - i < fu → ∀ ls : Array Slot, lv_has ls 3 [(0, .ref (ad k)), (1, .int x1), (2, .int (nI i))] → W p l e ({ frames := 0, cells := 0, slots := 0, locals := 0 } : Room) s m ([.ref (ad k)] : List Value).toArray below meth cd s.heap [] 0 0 Q (F0 m 4 ls []) := by
    intro fu
    induction fu with
    | zero => intros; omega
    | succ fu ih4 =>
      intro i x1 ex1 hi hm4 ls hl
      subst ex1
      refine lv_iload_n hx hb (dk kX6_highest_ok 4 rfl) rfl (lv_at hl 2 rfl) ?_
      refine lv_bipush (v := nI 16) hx hb (dk kX6_highest_ok 5 rfl) rfl ?_
      refine n_icmp_ge (tgt := 47) hx hb (by omega) (by decide) (dk kX6_highest_ok 6 rfl) (by decide) (fun h1 => ?_) (fun h1 => ?_)
      · skip
        refine lv_iload_n hx hb (dk kX6_highest_ok 30 rfl) rfl (lv_at hl 1 rfl) ?_
        exact hret _ _ _ (by rw [show i = 16 by omega] <;> rfl) (dk kX6_highest_ok 31 rfl)
      · skip
        refine lv_aload_n hx hb (dk kX6_highest_ok 7 rfl) rfl (lv_at hl 0 rfl) ?_
        refine gf hx hb hts (fun w h => List.mem_cons_of_mem _ (acX6 w h)) hown hK hP hk0 hR.1 rfl 0 (by decide) (hts _ (List.mem_cons_of_mem _ (ac17 _ (List.mem_of_getElem? (i := 17) rfl)))) (fun _ h => h) rfl (dk kX6_highest_ok 8 rfl) ?_
        refine lv_bipush (v := nI 16) hx hb (dk kX6_highest_ok 9 rfl) rfl ?_
        refine lv_iload_n hx hb (dk kX6_highest_ok 10 rfl) rfl (lv_at hl 2 rfl) ?_
        refine n_iadd hx hb (dk kX6_highest_ok 11 rfl) ?_
        refine ald (j := (16 + i)) hx hb hK hP hk1 hR.2.1 rfl (by omega) (by decide) (dk kX6_highest_ok 12 rfl) ?_
        refine lv_iconst (v := nI 1) hx hb (dk kX6_highest_ok 13 rfl) rfl ?_
        refine lv_iadd hx hb (dk kX6_highest_ok 14 rfl) ?_
        refine lv_iload_n hx hb (dk kX6_highest_ok 15 rfl) rfl (lv_at hl 1 rfl) ?_
        refine lv_icmp_le (tgt := 39) hx hb (dk kX6_highest_ok 16 rfl) (by decide) (fun h2 => ?_) (fun h2 => ?_)
        · skip
          refine lv_iload_n hx hb (dk kX6_highest_ok 26 rfl) rfl (lv_at hl 1 rfl) ?_
          refine lv_istore_n (lv' := [(1, .int (rhi r i)), (0, .ref (ad k)), (2, .int (nI i))]) hx hb (dk kX6_highest_ok 27 rfl) rfl hl (by decide) rfl (fun ls hl => ?_)
          refine lv_iinc (v := nI (i + 1)) (lv' := [(2, .int (nI (i + 1))), (1, .int (rhi r i)), (0, .ref (ad k))]) hx hb (dk kX6_highest_ok 28 rfl) hl (k := 2) rfl (n_inc _) (by decide) rfl (fun ls hl => ?_)
          refine lv_goto (tgt := 4) hx hb (dk kX6_highest_ok 29 rfl) (by decide) ?_
          exact ih4 (i + 1) _ (by simp only [rhi, (eq_true h1), (eq_false (Nat.not_le.mpr h1)), (eq_true h2), not_true_eq_false, not_false_eq_true, and_true, true_and, and_false, false_and, or_true, true_or, or_false, false_or, and_self, or_self, if_true, if_false, Bool.false_eq_true, reduceIte]; first | done | (simp [h1, h2]; done)) (by omega) (by omega) ls (lv_sub hl [2, 1, 0] rfl)
        · skip
          refine lv_aload_n hx hb (dk kX6_highest_ok 17 rfl) rfl (lv_at hl 0 rfl) ?_
          refine gf hx hb hts (fun w h => List.mem_cons_of_mem _ (acX6 w h)) hown hK hP hk0 hR.1 rfl 0 (by decide) (hts _ (List.mem_cons_of_mem _ (ac17 _ (List.mem_of_getElem? (i := 17) rfl)))) (fun _ h => h) rfl (dk kX6_highest_ok 18 rfl) ?_
          refine lv_bipush (v := nI 16) hx hb (dk kX6_highest_ok 19 rfl) rfl ?_
          refine lv_iload_n hx hb (dk kX6_highest_ok 20 rfl) rfl (lv_at hl 2 rfl) ?_
          refine n_iadd hx hb (dk kX6_highest_ok 21 rfl) ?_
          refine ald (j := (16 + i)) hx hb hK hP hk1 hR.2.1 rfl (by omega) (by decide) (dk kX6_highest_ok 22 rfl) ?_
          refine lv_iconst (v := nI 1) hx hb (dk kX6_highest_ok 23 rfl) rfl ?_
          refine lv_iadd hx hb (dk kX6_highest_ok 24 rfl) ?_
          refine lv_goto (tgt := 40) hx hb (dk kX6_highest_ok 25 rfl) (by decide) ?_
          refine lv_istore_n (lv' := [(1, .int ((r (16 + i)) + (nI 1))), (0, .ref (ad k)), (2, .int (nI i))]) hx hb (dk kX6_highest_ok 27 rfl) rfl hl (by decide) rfl (fun ls hl => ?_)
          refine lv_iinc (v := nI (i + 1)) (lv' := [(2, .int (nI (i + 1))), (1, .int ((r (16 + i)) + (nI 1))), (0, .ref (ad k))]) hx hb (dk kX6_highest_ok 28 rfl) hl (k := 2) rfl (n_inc _) (by decide) rfl (fun ls hl => ?_)
          refine lv_goto (tgt := 4) hx hb (dk kX6_highest_ok 29 rfl) (by decide) ?_
          exact ih4 (i + 1) _ (by simp only [rhi, (eq_true h1), (eq_false (Nat.not_le.mpr h1)), (eq_false h2), not_true_eq_false, not_false_eq_true, and_true, true_and, and_false, false_and, or_true, true_or, or_false, false_or, and_self, or_self, if_true, if_false, Bool.false_eq_true, reduceIte]; first | done | (simp [h1, h2]; done)) (by omega) (by omega) ls (lv_sub hl [2, 1, 0] rfl)
  exact L4 _ 0 _ (by first | rfl | omega) (by first | rfl | omega) (Nat.lt_succ_self _) ls (lv_sub hl [2, 1, 0] rfl)