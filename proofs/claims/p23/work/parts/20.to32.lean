/-! from refr -/
section
set_option maxRecDepth 100000 in
set_option maxHeartbeats 4000000 in
theorem tX6_base (l : Launch) (x : Int32) (w : Nat) (hxw : x = nI w) (hw : w < 4) : MP l yX6_base (Cond.code yX6_base cX6_base 1 (some .int) :: AW) ({ frames := 0, cells := 0, slots := 0, locals := 0 } : Room) [.int x] (.int (nI (bs w))) := by
  refine mp_i (ty := .int) (by decide +kernel) rfl rfl rfl rfl (Nat.le_of_ble_eq_true rfl) (fun p e s m below meth cd Q ls hx hb hml hown hts hret hl => ?_)
  have hown : s.vm.findClass RX6 = some m.cls := hown
  subst hxw
  have hl : lv_has ls 1 [(0, .int (nI w))] := hl
  refine lv_iload_n hx hb (dk kX6_base_ok 0 rfl) rfl (lv_at hl 0 rfl) ?_
  refine n_if_ne (tgt := 8) hx hb (by omega) (dk kX6_base_ok 1 rfl) (by decide) (fun h1 => ?_) (fun h1 => ?_)
  · skip
    refine lv_iload_n hx hb (dk kX6_base_ok 4 rfl) rfl (lv_at hl 0 rfl) ?_
    refine lv_iconst (v := nI 1) hx hb (dk kX6_base_ok 5 rfl) rfl ?_
    refine n_icmp_ne (tgt := 18) hx hb (by omega) (by decide) (dk kX6_base_ok 6 rfl) (by decide) (fun h2 => ?_) (fun h2 => ?_)
    · skip
      refine lv_iload_n hx hb (dk kX6_base_ok 9 rfl) rfl (lv_at hl 0 rfl) ?_
      refine lv_iconst (v := nI 2) hx hb (dk kX6_base_ok 10 rfl) rfl ?_
      refine n_icmp_ne (tgt := 29) hx hb (by omega) (by decide) (dk kX6_base_ok 11 rfl) (by decide) (fun h3 => ?_) (fun h3 => ?_)
      · skip
        refine lv_sipush (v := nI 156) hx hb (dk kX6_base_ok 14 rfl) rfl ?_
        exact hret _ _ _ (by rcases (show w = 0 ∨ w = 1 ∨ w = 2 ∨ w = 3 by omega) with rfl | rfl | rfl | rfl <;> first | rfl | (exfalso; revert h1 h2 h3; decide)) (dk kX6_base_ok 15 rfl)
      · skip
        refine lv_sipush (v := nI 168) hx hb (dk kX6_base_ok 12 rfl) rfl ?_
        refine lv_goto (tgt := 32) hx hb (dk kX6_base_ok 13 rfl) (by decide) ?_
        exact hret _ _ _ (by rcases (show w = 0 ∨ w = 1 ∨ w = 2 ∨ w = 3 by omega) with rfl | rfl | rfl | rfl <;> first | rfl | (exfalso; revert h1 h2 h3; decide)) (dk kX6_base_ok 15 rfl)
    · skip
      refine lv_bipush (v := nI 12) hx hb (dk kX6_base_ok 7 rfl) rfl ?_
      refine lv_goto (tgt := 32) hx hb (dk kX6_base_ok 8 rfl) (by decide) ?_
      exact hret _ _ _ (by rcases (show w = 0 ∨ w = 1 ∨ w = 2 ∨ w = 3 by omega) with rfl | rfl | rfl | rfl <;> first | rfl | (exfalso; revert h1 h2; decide)) (dk kX6_base_ok 15 rfl)
  · skip
    refine lv_iconst (v := nI 0) hx hb (dk kX6_base_ok 2 rfl) rfl ?_
    refine lv_goto (tgt := 32) hx hb (dk kX6_base_ok 3 rfl) (by decide) ?_
    exact hret _ _ _ (by rcases (show w = 0 ∨ w = 1 ∨ w = 2 ∨ w = 3 by omega) with rfl | rfl | rfl | rfl <;> first | rfl | (exfalso; revert h1; decide)) (dk kX6_base_ok 15 rfl)
set_option maxRecDepth 100000 in
set_option maxHeartbeats 4000000 in
theorem tX6_in (l : Launch) (x a b : Int32) : MP l yX6_in (Cond.code yX6_in cX6_in 3 (some .boolean) :: AW) ({ frames := 0, cells := 0, slots := 0, locals := 0 } : Room) [.int x, .int a, .int b] (.int (bI (btw x a b))) := by
  refine mp_i (ty := .boolean) (by decide +kernel) rfl rfl rfl (bI_nar _) (Nat.le_of_ble_eq_true rfl) (fun p e s m below meth cd Q ls hx hb hml hown hts hret hl => ?_)
  have hown : s.vm.findClass RX6 = some m.cls := hown
  have hl : lv_has ls 3 [(0, .int x), (1, .int a), (2, .int b)] := hl
  refine lv_iload_n hx hb (dk kX6_in_ok 0 rfl) rfl (lv_at hl 0 rfl) ?_
  refine lv_iload_n hx hb (dk kX6_in_ok 1 rfl) rfl (lv_at hl 1 rfl) ?_
  refine lv_icmp_lt (tgt := 14) hx hb (dk kX6_in_ok 2 rfl) (by decide) (fun h1 => ?_) (fun h1 => ?_)
  · skip
    refine lv_iconst (v := nI 0) hx hb (dk kX6_in_ok 8 rfl) rfl ?_
    exact hret _ _ _ (by simp only [btw, (eq_true h1), decide_true, decide_false, not_true_eq_false, not_false_eq_true, and_true, true_and, and_false, false_and, or_true, true_or, or_false, false_or, and_self, or_self, if_true, if_false, Bool.false_eq_true, reduceIte, Bool.not_true, Bool.not_false, Bool.and_true, Bool.true_and, Bool.and_false, Bool.false_and]; rfl) (dk kX6_in_ok 9 rfl)
  · skip
    refine lv_iload_n hx hb (dk kX6_in_ok 3 rfl) rfl (lv_at hl 0 rfl) ?_
    refine lv_iload_n hx hb (dk kX6_in_ok 4 rfl) rfl (lv_at hl 2 rfl) ?_
    refine lv_icmp_gt (tgt := 14) hx hb (dk kX6_in_ok 5 rfl) (by decide) (fun h2 => ?_) (fun h2 => ?_)
    · skip
      refine lv_iconst (v := nI 0) hx hb (dk kX6_in_ok 8 rfl) rfl ?_
      exact hret _ _ _ (by simp only [btw, (eq_false h1), (eq_true h2), decide_true, decide_false, not_true_eq_false, not_false_eq_true, and_true, true_and, and_false, false_and, or_true, true_or, or_false, false_or, and_self, or_self, if_true, if_false, Bool.false_eq_true, reduceIte, Bool.not_true, Bool.not_false, Bool.and_true, Bool.true_and, Bool.and_false, Bool.false_and]; rfl) (dk kX6_in_ok 9 rfl)
    · skip
      refine lv_iconst (v := nI 1) hx hb (dk kX6_in_ok 6 rfl) rfl ?_
      refine lv_goto (tgt := 15) hx hb (dk kX6_in_ok 7 rfl) (by decide) ?_
      exact hret _ _ _ (by simp only [btw, (eq_false h1), (eq_false h2), decide_true, decide_false, not_true_eq_false, not_false_eq_true, and_true, true_and, and_false, false_and, or_true, true_or, or_false, false_or, and_self, or_self, if_true, if_false, Bool.false_eq_true, reduceIte, Bool.not_true, Bool.not_false, Bool.and_true, Bool.true_and, Bool.and_false, Bool.false_and]; rfl) (dk kX6_in_ok 9 rfl)
set_option maxRecDepth 100000 in
set_option maxHeartbeats 4000000 in
theorem tX6_eastOf (l : Launch) (x : Int32) (w : Nat) (hxw : x = nI w) (hw : w < 8) : MP l yX6_eastOf (Cond.code yX6_eastOf cX6_eastOf 1 (some .int) :: AW) ({ frames := 0, cells := 0, slots := 0, locals := 0 } : Room) [.int x] (.int (ea (nI w))) := by
  refine mp_i (ty := .int) (by decide +kernel) rfl rfl rfl rfl (Nat.le_of_ble_eq_true rfl) (fun p e s m below meth cd Q ls hx hb hml hown hts hret hl => ?_)
  have hown : s.vm.findClass RX6 = some m.cls := hown
  subst hxw
  have hl : lv_has ls 1 [(0, .int (nI w))] := hl
  refine lv_iload_n hx hb (dk kX6_eastOf_ok 0 rfl) rfl (lv_at hl 0 rfl) ?_
  refine lv_iconst (v := nI 4) hx hb (dk kX6_eastOf_ok 1 rfl) rfl ?_
  refine n_irem hx hb (by omega) (by decide) (by decide) (dk kX6_eastOf_ok 2 rfl) ?_
  refine n_if_ne (tgt := 10) hx hb (by omega) (dk kX6_eastOf_ok 3 rfl) (by decide) (fun h1 => ?_) (fun h1 => ?_)
  · skip
    refine lv_iload_n hx hb (dk kX6_eastOf_ok 6 rfl) rfl (lv_at hl 0 rfl) ?_
    refine lv_iconst (v := nI 4) hx hb (dk kX6_eastOf_ok 7 rfl) rfl ?_
    refine n_icmp_ge (tgt := 19) hx hb (by omega) (by decide) (dk kX6_eastOf_ok 8 rfl) (by decide) (fun h2 => ?_) (fun h2 => ?_)
    · skip
      refine lv_iconst (v := -1) hx hb (dk kX6_eastOf_ok 11 rfl) rfl ?_
      exact hret _ _ _ (by first | exact (ea_0 hw (by assumption)).symm | exact (ea_1 hw (by assumption) (by omega)).symm | exact (ea_2 hw (by assumption) (by omega)).symm) (dk kX6_eastOf_ok 12 rfl)
    · skip
      refine lv_iconst (v := nI 1) hx hb (dk kX6_eastOf_ok 9 rfl) rfl ?_
      refine lv_goto (tgt := 20) hx hb (dk kX6_eastOf_ok 10 rfl) (by decide) ?_
      exact hret _ _ _ (by first | exact (ea_0 hw (by assumption)).symm | exact (ea_1 hw (by assumption) (by omega)).symm | exact (ea_2 hw (by assumption) (by omega)).symm) (dk kX6_eastOf_ok 12 rfl)
  · skip
    refine lv_iconst (v := nI 0) hx hb (dk kX6_eastOf_ok 4 rfl) rfl ?_
    refine lv_goto (tgt := 20) hx hb (dk kX6_eastOf_ok 5 rfl) (by decide) ?_
    exact hret _ _ _ (by first | exact (ea_0 hw (by assumption)).symm | exact (ea_1 hw (by assumption) (by omega)).symm | exact (ea_2 hw (by assumption) (by omega)).symm) (dk kX6_eastOf_ok 12 rfl)
set_option maxRecDepth 100000 in
set_option maxHeartbeats 4000000 in
theorem tX6_southOf (l : Launch) (x : Int32) (w : Nat) (hxw : x = nI w) (hw : w < 8) : MP l yX6_southOf (Cond.code yX6_southOf cX6_southOf 1 (some .int) :: AW) ({ frames := 0, cells := 0, slots := 0, locals := 0 } : Room) [.int x] (.int (so (nI w))) := by
  refine mp_i (ty := .int) (by decide +kernel) rfl rfl rfl rfl (Nat.le_of_ble_eq_true rfl) (fun p e s m below meth cd Q ls hx hb hml hown hts hret hl => ?_)
  have hown : s.vm.findClass RX6 = some m.cls := hown
  subst hxw
  have hl : lv_has ls 1 [(0, .int (nI w))] := hl
  refine lv_iload_n hx hb (dk kX6_southOf_ok 0 rfl) rfl (lv_at hl 0 rfl) ?_
  refine lv_iconst (v := nI 2) hx hb (dk kX6_southOf_ok 1 rfl) rfl ?_
  refine n_icmp_eq (tgt := 11) hx hb (by omega) (by decide) (dk kX6_southOf_ok 2 rfl) (by decide) (fun h1 => ?_) (fun h1 => ?_)
  · skip
    refine lv_iconst (v := nI 0) hx hb (dk kX6_southOf_ok 6 rfl) rfl ?_
    refine lv_goto (tgt := 31) hx hb (dk kX6_southOf_ok 7 rfl) (by decide) ?_
    exact hret _ _ _ (by first | exact (so_0 (by omega)).symm | exact (so_1 hw (by assumption) (by assumption) (by omega) (by omega)).symm | exact (so_2 hw (by assumption) (by assumption) (by omega)).symm) (dk kX6_southOf_ok 17 rfl)
  · skip
    refine lv_iload_n hx hb (dk kX6_southOf_ok 3 rfl) rfl (lv_at hl 0 rfl) ?_
    refine lv_bipush (v := nI 6) hx hb (dk kX6_southOf_ok 4 rfl) rfl ?_
    refine n_icmp_ne (tgt := 15) hx hb (by omega) (by decide) (dk kX6_southOf_ok 5 rfl) (by decide) (fun h2 => ?_) (fun h2 => ?_)
    · skip
      refine lv_iload_n hx hb (dk kX6_southOf_ok 8 rfl) rfl (lv_at hl 0 rfl) ?_
      refine lv_iconst (v := nI 2) hx hb (dk kX6_southOf_ok 9 rfl) rfl ?_
      refine n_icmp_le (tgt := 30) hx hb (by omega) (by decide) (dk kX6_southOf_ok 10 rfl) (by decide) (fun h3 => ?_) (fun h3 => ?_)
      · skip
        refine lv_iconst (v := -1) hx hb (dk kX6_southOf_ok 16 rfl) rfl ?_
        exact hret _ _ _ (by first | exact (so_0 (by omega)).symm | exact (so_1 hw (by assumption) (by assumption) (by omega) (by omega)).symm | exact (so_2 hw (by assumption) (by assumption) (by omega)).symm) (dk kX6_southOf_ok 17 rfl)
      · skip
        refine lv_iload_n hx hb (dk kX6_southOf_ok 11 rfl) rfl (lv_at hl 0 rfl) ?_
        refine lv_bipush (v := nI 6) hx hb (dk kX6_southOf_ok 12 rfl) rfl ?_
        refine n_icmp_ge (tgt := 30) hx hb (by omega) (by decide) (dk kX6_southOf_ok 13 rfl) (by decide) (fun h4 => ?_) (fun h4 => ?_)
        · skip
          refine lv_iconst (v := -1) hx hb (dk kX6_southOf_ok 16 rfl) rfl ?_
          exact hret _ _ _ (by first | exact (so_0 (by omega)).symm | exact (so_1 hw (by assumption) (by assumption) (by omega) (by omega)).symm | exact (so_2 hw (by assumption) (by assumption) (by omega)).symm) (dk kX6_southOf_ok 17 rfl)
        · skip
          refine lv_iconst (v := nI 1) hx hb (dk kX6_southOf_ok 14 rfl) rfl ?_
          refine lv_goto (tgt := 31) hx hb (dk kX6_southOf_ok 15 rfl) (by decide) ?_
          exact hret _ _ _ (by first | exact (so_0 (by omega)).symm | exact (so_1 hw (by assumption) (by assumption) (by omega) (by omega)).symm | exact (so_2 hw (by assumption) (by assumption) (by omega)).symm) (dk kX6_southOf_ok 17 rfl)
    · skip
      refine lv_iconst (v := nI 0) hx hb (dk kX6_southOf_ok 6 rfl) rfl ?_
      refine lv_goto (tgt := 31) hx hb (dk kX6_southOf_ok 7 rfl) (by decide) ?_
      exact hret _ _ _ (by first | exact (so_0 (by omega)).symm | exact (so_1 hw (by assumption) (by assumption) (by omega) (by omega)).symm | exact (so_2 hw (by assumption) (by assumption) (by omega)).symm) (dk kX6_southOf_ok 17 rfl)
set_option maxRecDepth 100000 in
set_option maxHeartbeats 4000000 in
theorem tX6_steps (l : Launch) (x : Int32) (w : Nat) (hxw : x = nI w) (hw : w < 2 ^ 31) (y : Int32) (f : Nat) (hyf : y = nI f) (hf : f < 2 ^ 30) : MP l yX6_steps (Cond.code yX6_steps cX6_steps 2 (some .int) :: AW) ({ frames := 0, cells := 0, slots := 0, locals := 0 } : Room) [.int x, .int y] (.int (nI (stp w f))) := by
  refine mp_i (ty := .int) (by decide +kernel) rfl rfl rfl rfl (Nat.le_of_ble_eq_true rfl) (fun p e s m below meth cd Q ls hx hb hml hown hts hret hl => ?_)
  have hown : s.vm.findClass RX6 = some m.cls := hown
  subst hxw
  subst hyf
  have hl : lv_has ls 2 [(0, .int (nI w)), (1, .int (nI f))] := hl
  refine lv_iload_n hx hb (dk kX6_steps_ok 0 rfl) rfl (lv_at hl 0 rfl) ?_
  refine lv_iconst (v := nI 4) hx hb (dk kX6_steps_ok 1 rfl) rfl ?_
  refine n_irem hx hb (by omega) (by decide) (by decide) (dk kX6_steps_ok 2 rfl) ?_
  refine lv_iconst (v := nI 2) hx hb (dk kX6_steps_ok 3 rfl) rfl ?_
  refine n_icmp_ge (tgt := 11) hx hb (by omega) (by decide) (dk kX6_steps_ok 4 rfl) (by decide) (fun h1 => ?_) (fun h1 => ?_)
  · skip
    refine lv_iload_n hx hb (dk kX6_steps_ok 7 rfl) rfl (lv_at hl 1 rfl) ?_
    refine lv_iconst (v := nI 1) hx hb (dk kX6_steps_ok 8 rfl) rfl ?_
    refine n_iadd hx hb (dk kX6_steps_ok 9 rfl) ?_
    exact hret _ _ _ (by unfold stp; split <;> first | rfl | (exfalso; omega)) (dk kX6_steps_ok 10 rfl)
  · skip
    refine lv_iload_n hx hb (dk kX6_steps_ok 5 rfl) rfl (lv_at hl 1 rfl) ?_
    refine lv_goto (tgt := 14) hx hb (dk kX6_steps_ok 6 rfl) (by decide) ?_
    exact hret _ _ _ (by unfold stp; split <;> first | rfl | (exfalso; omega)) (dk kX6_steps_ok 10 rfl)
set_option maxRecDepth 100000 in
set_option maxHeartbeats 4000000 in
theorem tX6_told (l : Launch) (q : Int32) : MP l yX6_told (Cond.code yX6_told cX6_told 1 (some .int) :: AW) ({ frames := 0, cells := 0, slots := 0, locals := 0 } : Room) [.int q] (.int (fans q)) := by
  refine mp_i (ty := .int) (by decide +kernel) rfl rfl rfl rfl (Nat.le_of_ble_eq_true rfl) (fun p e s m below meth cd Q ls hx hb hml hown hts hret hl => ?_)
  have hown : s.vm.findClass RX6 = some m.cls := hown
  have hl : lv_has ls 1 [(0, .int q)] := hl
  refine lv_iload_n hx hb (dk kX6_told_ok 0 rfl) rfl (lv_at hl 0 rfl) ?_
  refine lv_bipush (v := nI 84) hx hb (dk kX6_told_ok 1 rfl) rfl ?_
  refine lv_icmp_ne (tgt := 12) hx hb (dk kX6_told_ok 2 rfl) (by decide) (fun h1 => ?_) (fun h1 => ?_)
  · skip
    refine lv_iload_n hx hb (dk kX6_told_ok 5 rfl) rfl (lv_at hl 0 rfl) ?_
    exact hret _ _ _ (by simp [fans, h1]) (dk kX6_told_ok 6 rfl)
  · skip
    refine lv_sipush (v := nI 169) hx hb (dk kX6_told_ok 3 rfl) rfl ?_
    refine lv_goto (tgt := 13) hx hb (dk kX6_told_ok 4 rfl) (by decide) ?_
    exact hret _ _ _ (by simp [fans, h1]) (dk kX6_told_ok 6 rfl)
set_option maxRecDepth 100000 in
set_option maxHeartbeats 4000000 in
theorem tX6_leads (l : Launch) (x : Int32) (hx9 : cell9 x) (y : Int32) (d : Nat) (hyd : y = nI d) (hd : d < 8) (z : Int32) (f : Nat) (hzf : z = nI f) (hf : f < 2 ^ 31) : MP l yX6_leads (Cond.code yX6_leads cX6_leads 9 (some .int) :: AW) ({ frames := 1, cells := 0, slots := 0, locals := 22 } : Room) [.int x, .int y, .int z] (.int (ldg x (nI d) f)) := by
  refine mp_i (ty := .int) (by decide +kernel) rfl rfl rfl rfl (Nat.le_of_ble_eq_true rfl) (fun p e s m below meth cd Q ls hx hb hml hown hts hret hl => ?_)
  have hown : s.vm.findClass RX6 = some m.cls := hown
  obtain ⟨q, hq, rfl⟩ := hx9
  subst hyd
  subst hzf
  have hl : lv_has ls 9 [(0, .int (nI q)), (1, .int (nI d)), (2, .int (nI f))] := hl
  refine lv_iload_n hx hb (dk kX6_leads_0_ok 0 rfl) rfl (lv_at hl 0 rfl) ?_
  refine lv_bipush (v := nI 13) hx hb (dk kX6_leads_0_ok 1 rfl) rfl ?_
  refine n_irem hx hb (by omega) (by decide) (by decide) (dk kX6_leads_0_ok 2 rfl) ?_
  refine lv_istore_n (lv' := [(3, .int (nI (q % 13))), (0, .int (nI q)), (1, .int (nI d)), (2, .int (nI f))]) hx hb (dk kX6_leads_0_ok 3 rfl) rfl hl (by decide) rfl (fun ls hl => ?_)
  refine lv_iload_n hx hb (dk kX6_leads_0_ok 4 rfl) rfl (lv_at hl 1 rfl) ?_
  refine lv_bipush (v := nI 13) hx hb (dk kX6_leads_0_ok 5 rfl) rfl ?_
  refine n_idiv hx hb (by omega) (by decide) (by decide) (dk kX6_leads_0_ok 6 rfl) ?_
  refine lv_istore (lv' := [(4, .int (nI (q / 13))), (3, .int (nI (q % 13))), (0, .int (nI q)), (1, .int (nI d)), (2, .int (nI f))]) hx hb (dk kX6_leads_0_ok 7 rfl) hl (by decide) rfl (fun ls hl => ?_)
  refine lv_iload_n hx hb (dk kX6_leads_0_ok 8 rfl) rfl (lv_at hl 3 rfl) ?_
  refine csP (As := [.int (nI d)]) (rest := []) ⟨hx, hb, hml, hown, hts⟩ (tX6_eastOf l (nI d) d rfl (by omega)) (cwS9 1 hts mcX6_eastOf (ac19 _ (List.mem_of_getElem? (i := 6) rfl)) msX6_eastOf mini_RX6 rfl rfl hdX6_eastOf ⟨Nat.le_of_ble_eq_true rfl, Nat.le_of_ble_eq_true rfl⟩) rfl hl.1 rfl (Nat.le_of_ble_eq_true rfl) (by decide) (dk kX6_leads_0_ok 9 rfl) ?_
  refine lv_istore (lv' := [(5, .int (ea (nI d))), (4, .int (nI (q / 13))), (3, .int (nI (q % 13))), (0, .int (nI q)), (1, .int (nI d)), (2, .int (nI f))]) hx hb (dk kX6_leads_0_ok 10 rfl) hl (by decide) rfl (fun ls hl => ?_)
  refine lv_iload_n hx hb (dk kX6_leads_0_ok 11 rfl) rfl (lv_at hl 4 rfl) ?_
  refine csP (As := [.int (nI d)]) (rest := []) ⟨hx, hb, hml, hown, hts⟩ (tX6_southOf l (nI d) d rfl (by omega)) (cwS9 1 hts mcX6_southOf (ac19 _ (List.mem_of_getElem? (i := 9) rfl)) msX6_southOf mini_RX6 rfl rfl hdX6_southOf ⟨Nat.le_of_ble_eq_true rfl, Nat.le_of_ble_eq_true rfl⟩) rfl hl.1 rfl (Nat.le_of_ble_eq_true rfl) (by decide) (dk kX6_leads_0_ok 12 rfl) ?_
  refine lv_istore (lv' := [(6, .int (so (nI d))), (5, .int (ea (nI d))), (4, .int (nI (q / 13))), (3, .int (nI (q % 13))), (0, .int (nI q)), (1, .int (nI d)), (2, .int (nI f))]) hx hb (dk kX6_leads_0_ok 13 rfl) hl (by decide) rfl (fun ls hl => ?_)
  refine lv_iconst (v := nI 0) hx hb (dk kX6_leads_0_ok 14 rfl) rfl ?_
  refine lv_istore (lv' := [(7, .int (nI 0)), (6, .int (so (nI d))), (5, .int (ea (nI d))), (4, .int (nI (q / 13))), (3, .int (nI (q % 13))), (0, .int (nI q)), (1, .int (nI d)), (2, .int (nI f))]) hx hb (dk kX6_leads_0_ok 15 rfl) hl (by decide) rfl (fun ls hl => ?_)
  refine lv_iconst (v := nI 0) hx hb (dk kX6_leads_0_ok 16 rfl) rfl ?_
  refine lv_istore (lv' := [(8, .int (nI 0)), (7, .int (nI 0)), (6, .int (so (nI d))), (5, .int (ea (nI d))), (4, .int (nI (q / 13))), (3, .int (nI (q % 13))), (0, .int (nI q)), (1, .int (nI d)), (2, .int (nI f))]) hx hb (dk kX6_leads_0_ok 17 rfl) hl (by decide) rfl (fun ls hl => ?_)
  have L29 : ∀ (fu : Nat) (i : Nat) (x y u v : Int32) (b : Bool) (x7 : Int32), x7 = bI b → i ≤ f → ldg (nI q) (nI d) f = ldL (f - i) x y u v b → f - i < fu → ∀ ls : Array Slot, lv_has ls 9 [(0, .int (nI q)), (1, .int (nI d)), (2, .int (nI f)), (3, .int x), (4, .int y), (5, .int u), (6, .int v), (7, .int x7), (8, .int (nI i))] → W p l e ({ frames := 1, cells := 0, slots := 0, locals := 22 } : Room) s m ([.int (nI q), .int (nI d), .int (nI f)] : List Value).toArray below meth cd s.heap [] 0 0 Q (F0 m 29 ls []) := by
    intro fu
    induction fu with
    | zero => intros; omega
    | succ fu ih29 =>
      intro i x y u v b x7 ex7 hi hr hm29 ls hl
      subst ex7
      refine lv_iload hx hb (dk kX6_leads_0_ok 18 rfl) (lv_at hl 8 rfl) ?_
      refine lv_iload_n hx hb (dk kX6_leads_0_ok 19 rfl) rfl (lv_at hl 2 rfl) ?_
      refine n_icmp_ge (tgt := 129) hx hb (by omega) (by omega) (dk kX6_leads_0_ok 20 rfl) (by decide) (fun h1 => ?_) (fun h1 => ?_)
      · skip
        refine lv_bipush (v := nI 13) hx hb (dk kX6_leads_1_ok 13 rfl) rfl ?_
        refine lv_iload hx hb (dk kX6_leads_1_ok 14 rfl) (lv_at hl 4 rfl) ?_
        refine lv_imul hx hb (dk kX6_leads_1_ok 15 rfl) ?_
        refine lv_iload_n hx hb (dk kX6_leads_1_ok 16 rfl) rfl (lv_at hl 3 rfl) ?_
        refine lv_iadd hx hb (dk kX6_leads_1_ok 17 rfl) ?_
        exact hret _ _ _ (by first | (rw [hr, show f - i = (f - (i + 1)) + 1 by omega]; simp only [ldL, if_true]; simp (config := { decide := true }) only [(eq_true h1), (eq_false (Nat.not_lt.mpr h1)), not_true_eq_false, not_false_eq_true, and_true, true_and, and_false, false_and, or_true, true_or, or_false, false_or, and_self, or_self, if_true, if_false, Bool.false_eq_true, reduceIte]; done) | (rw [hr, show f - i = 0 by omega]; rfl)) (dk kX6_leads_1_ok 18 rfl)
      · skip
        refine lv_iload_n hx hb (dk kX6_leads_0_ok 21 rfl) rfl (lv_at hl 3 rfl) ?_
        refine lv_iload hx hb (dk kX6_leads_0_ok 22 rfl) (lv_at hl 5 rfl) ?_
        refine lv_iadd hx hb (dk kX6_leads_0_ok 23 rfl) ?_
        refine lv_iconst (v := nI 0) hx hb (dk kX6_leads_0_ok 24 rfl) rfl ?_
        refine lv_bipush (v := nI 12) hx hb (dk kX6_leads_0_ok 25 rfl) rfl ?_
        refine csP (As := [.int (x + u), .int (nI 0), .int (nI 12)]) (rest := []) ⟨hx, hb, hml, hown, hts⟩ (tX6_in l (x + u) (nI 0) (nI 12)) (cwS9 3 hts mcX6_in (ac19 _ (List.mem_of_getElem? (i := 12) rfl)) msX6_in mini_RX6 rfl rfl hdX6_in ⟨Nat.le_of_ble_eq_true rfl, Nat.le_of_ble_eq_true rfl⟩) rfl hl.1 rfl (Nat.le_of_ble_eq_true rfl) (by decide) (dk kX6_leads_0_ok 26 rfl) ?_
        refine b_if_eq (tgt := 62) hx hb (dk kX6_leads_0_ok 27 rfl) (by decide) (fun h2 => ?_) (fun h2 => ?_)
        · skip
          refine lv_iload hx hb (dk kX6_leads_0_ok 35 rfl) (lv_at hl 7 rfl) ?_
          refine b_if_eq (tgt := 69) hx hb (dk kX6_leads_0_ok 36 rfl) (by decide) (fun h3 => ?_) (fun h3 => ?_)
          · skip
            refine lv_iconst (v := nI 1) hx hb (dk kX6_leads_0_ok 39 rfl) rfl ?_
            refine lv_istore (lv' := [(7, .int (nI 1)), (0, .int (nI q)), (1, .int (nI d)), (2, .int (nI f)), (3, .int x), (4, .int y), (5, .int u), (6, .int v), (8, .int (nI i))]) hx hb (dk kX6_leads_0_ok 40 rfl) hl (by decide) rfl (fun ls hl => ?_)
            refine lv_iload hx hb (dk kX6_leads_0_ok 41 rfl) (lv_at hl 6 rfl) ?_
            refine lv_ineg hx hb (dk kX6_leads_0_ok 42 rfl) ?_
            refine lv_istore (lv' := [(5, .int (-u)), (7, .int (nI 1)), (0, .int (nI q)), (1, .int (nI d)), (2, .int (nI f)), (3, .int x), (4, .int y), (6, .int v), (8, .int (nI i))]) hx hb (dk kX6_leads_0_ok 43 rfl) hl (by decide) rfl (fun ls hl => ?_)
            refine lv_iload hx hb (dk kX6_leads_0_ok 44 rfl) (lv_at hl 7 rfl) ?_
            refine lv_ineg hx hb (dk kX6_leads_0_ok 45 rfl) ?_
            refine lv_istore (lv' := [(6, .int (-v)), (5, .int (-u)), (7, .int (nI 1)), (0, .int (nI q)), (1, .int (nI d)), (2, .int (nI f)), (3, .int x), (4, .int y), (8, .int (nI i))]) hx hb (dk kX6_leads_0_ok 46 rfl) hl (by decide) rfl (fun ls hl => ?_)
            refine lv_iload_n hx hb (dk kX6_leads_0_ok 47 rfl) rfl (lv_at hl 6 rfl) ?_
            refine lv_iload hx hb (dk kX6_leads_0_ok 48 rfl) (lv_at hl 1 rfl) ?_
            refine lv_iadd hx hb (dk kX6_leads_0_ok 49 rfl) ?_
            refine lv_iconst (v := nI 0) hx hb (dk kX6_leads_0_ok 50 rfl) rfl ?_
            refine lv_bipush (v := nI 12) hx hb (dk kX6_leads_0_ok 51 rfl) rfl ?_
            refine csP (As := [.int (x + (-u)), .int (nI 0), .int (nI 12)]) (rest := []) ⟨hx, hb, hml, hown, hts⟩ (tX6_in l (x + (-u)) (nI 0) (nI 12)) (cwS9 3 hts mcX6_in (ac19 _ (List.mem_of_getElem? (i := 12) rfl)) msX6_in mini_RX6 rfl rfl hdX6_in ⟨Nat.le_of_ble_eq_true rfl, Nat.le_of_ble_eq_true rfl⟩) rfl hl.1 rfl (Nat.le_of_ble_eq_true rfl) (by decide) (dk kX6_leads_0_ok 52 rfl) ?_
            refine b_if_eq (tgt := 109) hx hb (dk kX6_leads_0_ok 53 rfl) (by decide) (fun h4 => ?_) (fun h4 => ?_)
            · skip
              refine lv_iconst (v := -1) hx hb (dk kX6_leads_1_ok 1 rfl) rfl ?_
              exact hret _ _ _ (by first | (rw [hr, show f - i = (f - (i + 1)) + 1 by omega]; simp only [ldL, on_f1 h2, on_f2 h2, on_f1 h4, on_f2 h4]; simp (config := { decide := true }) only [(eq_true h1), (eq_false (Nat.not_le.mpr h1)), h2, h3, h4, not_true_eq_false, not_false_eq_true, and_true, true_and, and_false, false_and, or_true, true_or, or_false, false_or, and_self, or_self, if_true, if_false, Bool.false_eq_true, reduceIte]; done) | (rw [hr, show f - i = 0 by omega]; rfl)) (dk kX6_leads_1_ok 2 rfl)
            · skip
              refine lv_iload hx hb (dk kX6_leads_0_ok 54 rfl) (lv_at hl 7 rfl) ?_
              refine lv_iload hx hb (dk kX6_leads_0_ok 55 rfl) (lv_at hl 0 rfl) ?_
              refine lv_iadd hx hb (dk kX6_leads_0_ok 56 rfl) ?_
              refine lv_iconst (v := nI 0) hx hb (dk kX6_leads_0_ok 57 rfl) rfl ?_
              refine lv_bipush (v := nI 12) hx hb (dk kX6_leads_0_ok 58 rfl) rfl ?_
              refine csP (As := [.int (y + (-v)), .int (nI 0), .int (nI 12)]) (rest := []) ⟨hx, hb, hml, hown, hts⟩ (tX6_in l (y + (-v)) (nI 0) (nI 12)) (cwS9 3 hts mcX6_in (ac19 _ (List.mem_of_getElem? (i := 12) rfl)) msX6_in mini_RX6 rfl rfl hdX6_in ⟨Nat.le_of_ble_eq_true rfl, Nat.le_of_ble_eq_true rfl⟩) rfl hl.1 rfl (Nat.le_of_ble_eq_true rfl) (by decide) (dk kX6_leads_0_ok 59 rfl) ?_
              refine b_if_ne (tgt := 111) hx hb (dk kX6_leads_1_ok 0 rfl) (by decide) (fun h5 => ?_) (fun h5 => ?_)
              · skip
                refine lv_iload_n hx hb (dk kX6_leads_1_ok 3 rfl) rfl (lv_at hl 6 rfl) ?_
                refine lv_iload hx hb (dk kX6_leads_1_ok 4 rfl) (lv_at hl 1 rfl) ?_
                refine lv_iadd hx hb (dk kX6_leads_1_ok 5 rfl) ?_
                refine lv_istore_n (lv' := [(3, .int (x + (-u))), (6, .int (-v)), (5, .int (-u)), (7, .int (nI 1)), (0, .int (nI q)), (1, .int (nI d)), (2, .int (nI f)), (4, .int y), (8, .int (nI i))]) hx hb (dk kX6_leads_1_ok 6 rfl) rfl hl (by decide) rfl (fun ls hl => ?_)
                refine lv_iload hx hb (dk kX6_leads_1_ok 7 rfl) (lv_at hl 7 rfl) ?_
                refine lv_iload hx hb (dk kX6_leads_1_ok 8 rfl) (lv_at hl 1 rfl) ?_
                refine lv_iadd hx hb (dk kX6_leads_1_ok 9 rfl) ?_
                refine lv_istore (lv' := [(4, .int (y + (-v))), (3, .int (x + (-u))), (6, .int (-v)), (5, .int (-u)), (7, .int (nI 1)), (0, .int (nI q)), (1, .int (nI d)), (2, .int (nI f)), (8, .int (nI i))]) hx hb (dk kX6_leads_1_ok 10 rfl) hl (by decide) rfl (fun ls hl => ?_)
                refine lv_iinc (v := nI (i + 1)) (lv' := [(8, .int (nI (i + 1))), (4, .int (y + (-v))), (3, .int (x + (-u))), (6, .int (-v)), (5, .int (-u)), (7, .int (nI 1)), (0, .int (nI q)), (1, .int (nI d)), (2, .int (nI f))]) hx hb (dk kX6_leads_1_ok 11 rfl) hl (k := 8) rfl (n_inc _) (by decide) rfl (fun ls hl => ?_)
                refine lv_goto (tgt := 29) hx hb (dk kX6_leads_1_ok 12 rfl) (by decide) ?_
                exact ih29 (i + 1) (x + (-u)) (y + (-v)) (-u) (-v) true _ (by rfl) (by omega) (by rw [hr, show f - i = (f - (i + 1)) + 1 by omega]; simp only [ldL, on_f1 h2, on_f2 h2, on_tt h4 h5, on_tt h5 h4]; simp (config := { decide := true }) only [(eq_true h1), (eq_false (Nat.not_le.mpr h1)), h2, h3, h4, h5, not_true_eq_false, not_false_eq_true, and_true, true_and, and_false, false_and, or_true, true_or, or_false, false_or, and_self, or_self, if_true, if_false, Bool.false_eq_true, reduceIte, if_true, if_false]) (by omega) ls (lv_sub hl [6, 7, 8, 2, 1, 4, 3, 5, 0] rfl)
              · skip
                refine lv_iconst (v := -1) hx hb (dk kX6_leads_1_ok 1 rfl) rfl ?_
                exact hret _ _ _ (by first | (rw [hr, show f - i = (f - (i + 1)) + 1 by omega]; simp only [ldL, on_f1 h2, on_f2 h2, on_f1 h5, on_f2 h5]; simp (config := { decide := true }) only [(eq_true h1), (eq_false (Nat.not_le.mpr h1)), h2, h3, h4, h5, not_true_eq_false, not_false_eq_true, and_true, true_and, and_false, false_and, or_true, true_or, or_false, false_or, and_self, or_self, if_true, if_false, Bool.false_eq_true, reduceIte]; done) | (rw [hr, show f - i = 0 by omega]; rfl)) (dk kX6_leads_1_ok 2 rfl)
          · skip
            refine lv_iconst (v := -1) hx hb (dk kX6_leads_0_ok 37 rfl) rfl ?_
            exact hret _ _ _ (by first | (rw [hr, show f - i = (f - (i + 1)) + 1 by omega]; simp only [ldL, on_f1 h2, on_f2 h2]; simp (config := { decide := true }) only [(eq_true h1), (eq_false (Nat.not_le.mpr h1)), h2, h3, not_true_eq_false, not_false_eq_true, and_true, true_and, and_false, false_and, or_true, true_or, or_false, false_or, and_self, or_self, if_true, if_false, Bool.false_eq_true, reduceIte]; done) | (rw [hr, show f - i = 0 by omega]; rfl)) (dk kX6_leads_0_ok 38 rfl)
        · skip
          refine lv_iload hx hb (dk kX6_leads_0_ok 28 rfl) (lv_at hl 4 rfl) ?_
          refine lv_iload hx hb (dk kX6_leads_0_ok 29 rfl) (lv_at hl 6 rfl) ?_
          refine lv_iadd hx hb (dk kX6_leads_0_ok 30 rfl) ?_
          refine lv_iconst (v := nI 0) hx hb (dk kX6_leads_0_ok 31 rfl) rfl ?_
          refine lv_bipush (v := nI 12) hx hb (dk kX6_leads_0_ok 32 rfl) rfl ?_
          refine csP (As := [.int (y + v), .int (nI 0), .int (nI 12)]) (rest := []) ⟨hx, hb, hml, hown, hts⟩ (tX6_in l (y + v) (nI 0) (nI 12)) (cwS9 3 hts mcX6_in (ac19 _ (List.mem_of_getElem? (i := 12) rfl)) msX6_in mini_RX6 rfl rfl hdX6_in ⟨Nat.le_of_ble_eq_true rfl, Nat.le_of_ble_eq_true rfl⟩) rfl hl.1 rfl (Nat.le_of_ble_eq_true rfl) (by decide) (dk kX6_leads_0_ok 33 rfl) ?_
          refine b_if_ne (tgt := 111) hx hb (dk kX6_leads_0_ok 34 rfl) (by decide) (fun h6 => ?_) (fun h6 => ?_)
          · skip
            refine lv_iload_n hx hb (dk kX6_leads_1_ok 3 rfl) rfl (lv_at hl 3 rfl) ?_
            refine lv_iload hx hb (dk kX6_leads_1_ok 4 rfl) (lv_at hl 5 rfl) ?_
            refine lv_iadd hx hb (dk kX6_leads_1_ok 5 rfl) ?_
            refine lv_istore_n (lv' := [(3, .int (x + u)), (0, .int (nI q)), (1, .int (nI d)), (2, .int (nI f)), (4, .int y), (5, .int u), (6, .int v), (7, .int (bI b)), (8, .int (nI i))]) hx hb (dk kX6_leads_1_ok 6 rfl) rfl hl (by decide) rfl (fun ls hl => ?_)
            refine lv_iload hx hb (dk kX6_leads_1_ok 7 rfl) (lv_at hl 4 rfl) ?_
            refine lv_iload hx hb (dk kX6_leads_1_ok 8 rfl) (lv_at hl 6 rfl) ?_
            refine lv_iadd hx hb (dk kX6_leads_1_ok 9 rfl) ?_
            refine lv_istore (lv' := [(4, .int (y + v)), (3, .int (x + u)), (0, .int (nI q)), (1, .int (nI d)), (2, .int (nI f)), (5, .int u), (6, .int v), (7, .int (bI b)), (8, .int (nI i))]) hx hb (dk kX6_leads_1_ok 10 rfl) hl (by decide) rfl (fun ls hl => ?_)
            refine lv_iinc (v := nI (i + 1)) (lv' := [(8, .int (nI (i + 1))), (4, .int (y + v)), (3, .int (x + u)), (0, .int (nI q)), (1, .int (nI d)), (2, .int (nI f)), (5, .int u), (6, .int v), (7, .int (bI b))]) hx hb (dk kX6_leads_1_ok 11 rfl) hl (k := 8) rfl (n_inc _) (by decide) rfl (fun ls hl => ?_)
            refine lv_goto (tgt := 29) hx hb (dk kX6_leads_1_ok 12 rfl) (by decide) ?_
            exact ih29 (i + 1) (x + u) (y + v) u v b _ (by rfl) (by omega) (by rw [hr, show f - i = (f - (i + 1)) + 1 by omega]; simp only [ldL, on_tt h2 h6, on_tt h6 h2]; simp (config := { decide := true }) only [(eq_true h1), (eq_false (Nat.not_le.mpr h1)), h2, h6, not_true_eq_false, not_false_eq_true, and_true, true_and, and_false, false_and, or_true, true_or, or_false, false_or, and_self, or_self, if_true, if_false, Bool.false_eq_true, reduceIte, if_true, if_false]) (by omega) ls (lv_sub hl [3, 4, 5, 2, 1, 6, 7, 8, 0] rfl)
          · skip
            refine lv_iload hx hb (dk kX6_leads_0_ok 35 rfl) (lv_at hl 7 rfl) ?_
            refine b_if_eq (tgt := 69) hx hb (dk kX6_leads_0_ok 36 rfl) (by decide) (fun h7 => ?_) (fun h7 => ?_)
            · skip
              refine lv_iconst (v := nI 1) hx hb (dk kX6_leads_0_ok 39 rfl) rfl ?_
              refine lv_istore (lv' := [(7, .int (nI 1)), (0, .int (nI q)), (1, .int (nI d)), (2, .int (nI f)), (3, .int x), (4, .int y), (5, .int u), (6, .int v), (8, .int (nI i))]) hx hb (dk kX6_leads_0_ok 40 rfl) hl (by decide) rfl (fun ls hl => ?_)
              refine lv_iload hx hb (dk kX6_leads_0_ok 41 rfl) (lv_at hl 6 rfl) ?_
              refine lv_ineg hx hb (dk kX6_leads_0_ok 42 rfl) ?_
              refine lv_istore (lv' := [(5, .int (-u)), (7, .int (nI 1)), (0, .int (nI q)), (1, .int (nI d)), (2, .int (nI f)), (3, .int x), (4, .int y), (6, .int v), (8, .int (nI i))]) hx hb (dk kX6_leads_0_ok 43 rfl) hl (by decide) rfl (fun ls hl => ?_)
              refine lv_iload hx hb (dk kX6_leads_0_ok 44 rfl) (lv_at hl 7 rfl) ?_
              refine lv_ineg hx hb (dk kX6_leads_0_ok 45 rfl) ?_
              refine lv_istore (lv' := [(6, .int (-v)), (5, .int (-u)), (7, .int (nI 1)), (0, .int (nI q)), (1, .int (nI d)), (2, .int (nI f)), (3, .int x), (4, .int y), (8, .int (nI i))]) hx hb (dk kX6_leads_0_ok 46 rfl) hl (by decide) rfl (fun ls hl => ?_)
              refine lv_iload_n hx hb (dk kX6_leads_0_ok 47 rfl) rfl (lv_at hl 6 rfl) ?_
              refine lv_iload hx hb (dk kX6_leads_0_ok 48 rfl) (lv_at hl 1 rfl) ?_
              refine lv_iadd hx hb (dk kX6_leads_0_ok 49 rfl) ?_
              refine lv_iconst (v := nI 0) hx hb (dk kX6_leads_0_ok 50 rfl) rfl ?_
              refine lv_bipush (v := nI 12) hx hb (dk kX6_leads_0_ok 51 rfl) rfl ?_
              refine csP (As := [.int (x + (-u)), .int (nI 0), .int (nI 12)]) (rest := []) ⟨hx, hb, hml, hown, hts⟩ (tX6_in l (x + (-u)) (nI 0) (nI 12)) (cwS9 3 hts mcX6_in (ac19 _ (List.mem_of_getElem? (i := 12) rfl)) msX6_in mini_RX6 rfl rfl hdX6_in ⟨Nat.le_of_ble_eq_true rfl, Nat.le_of_ble_eq_true rfl⟩) rfl hl.1 rfl (Nat.le_of_ble_eq_true rfl) (by decide) (dk kX6_leads_0_ok 52 rfl) ?_
              refine b_if_eq (tgt := 109) hx hb (dk kX6_leads_0_ok 53 rfl) (by decide) (fun h8 => ?_) (fun h8 => ?_)
              · skip
                refine lv_iconst (v := -1) hx hb (dk kX6_leads_1_ok 1 rfl) rfl ?_
                exact hret _ _ _ (by first | (rw [hr, show f - i = (f - (i + 1)) + 1 by omega]; simp only [ldL, on_f1 h6, on_f2 h6, on_f1 h8, on_f2 h8]; simp (config := { decide := true }) only [(eq_true h1), (eq_false (Nat.not_le.mpr h1)), h2, h6, h7, h8, not_true_eq_false, not_false_eq_true, and_true, true_and, and_false, false_and, or_true, true_or, or_false, false_or, and_self, or_self, if_true, if_false, Bool.false_eq_true, reduceIte]; done) | (rw [hr, show f - i = 0 by omega]; rfl)) (dk kX6_leads_1_ok 2 rfl)
              · skip
                refine lv_iload hx hb (dk kX6_leads_0_ok 54 rfl) (lv_at hl 7 rfl) ?_
                refine lv_iload hx hb (dk kX6_leads_0_ok 55 rfl) (lv_at hl 0 rfl) ?_
                refine lv_iadd hx hb (dk kX6_leads_0_ok 56 rfl) ?_
                refine lv_iconst (v := nI 0) hx hb (dk kX6_leads_0_ok 57 rfl) rfl ?_
                refine lv_bipush (v := nI 12) hx hb (dk kX6_leads_0_ok 58 rfl) rfl ?_
                refine csP (As := [.int (y + (-v)), .int (nI 0), .int (nI 12)]) (rest := []) ⟨hx, hb, hml, hown, hts⟩ (tX6_in l (y + (-v)) (nI 0) (nI 12)) (cwS9 3 hts mcX6_in (ac19 _ (List.mem_of_getElem? (i := 12) rfl)) msX6_in mini_RX6 rfl rfl hdX6_in ⟨Nat.le_of_ble_eq_true rfl, Nat.le_of_ble_eq_true rfl⟩) rfl hl.1 rfl (Nat.le_of_ble_eq_true rfl) (by decide) (dk kX6_leads_0_ok 59 rfl) ?_
                refine b_if_ne (tgt := 111) hx hb (dk kX6_leads_1_ok 0 rfl) (by decide) (fun h9 => ?_) (fun h9 => ?_)
                · skip
                  refine lv_iload_n hx hb (dk kX6_leads_1_ok 3 rfl) rfl (lv_at hl 6 rfl) ?_
                  refine lv_iload hx hb (dk kX6_leads_1_ok 4 rfl) (lv_at hl 1 rfl) ?_
                  refine lv_iadd hx hb (dk kX6_leads_1_ok 5 rfl) ?_
                  refine lv_istore_n (lv' := [(3, .int (x + (-u))), (6, .int (-v)), (5, .int (-u)), (7, .int (nI 1)), (0, .int (nI q)), (1, .int (nI d)), (2, .int (nI f)), (4, .int y), (8, .int (nI i))]) hx hb (dk kX6_leads_1_ok 6 rfl) rfl hl (by decide) rfl (fun ls hl => ?_)
                  refine lv_iload hx hb (dk kX6_leads_1_ok 7 rfl) (lv_at hl 7 rfl) ?_
                  refine lv_iload hx hb (dk kX6_leads_1_ok 8 rfl) (lv_at hl 1 rfl) ?_
                  refine lv_iadd hx hb (dk kX6_leads_1_ok 9 rfl) ?_
                  refine lv_istore (lv' := [(4, .int (y + (-v))), (3, .int (x + (-u))), (6, .int (-v)), (5, .int (-u)), (7, .int (nI 1)), (0, .int (nI q)), (1, .int (nI d)), (2, .int (nI f)), (8, .int (nI i))]) hx hb (dk kX6_leads_1_ok 10 rfl) hl (by decide) rfl (fun ls hl => ?_)
                  refine lv_iinc (v := nI (i + 1)) (lv' := [(8, .int (nI (i + 1))), (4, .int (y + (-v))), (3, .int (x + (-u))), (6, .int (-v)), (5, .int (-u)), (7, .int (nI 1)), (0, .int (nI q)), (1, .int (nI d)), (2, .int (nI f))]) hx hb (dk kX6_leads_1_ok 11 rfl) hl (k := 8) rfl (n_inc _) (by decide) rfl (fun ls hl => ?_)
                  refine lv_goto (tgt := 29) hx hb (dk kX6_leads_1_ok 12 rfl) (by decide) ?_
                  exact ih29 (i + 1) (x + (-u)) (y + (-v)) (-u) (-v) true _ (by rfl) (by omega) (by rw [hr, show f - i = (f - (i + 1)) + 1 by omega]; simp only [ldL, on_tt h2 h8, on_tt h2 h9, on_f1 h6, on_f2 h6, on_tt h8 h2, on_tt h8 h9, on_tt h9 h2, on_tt h9 h8]; simp (config := { decide := true }) only [(eq_true h1), (eq_false (Nat.not_le.mpr h1)), h2, h6, h7, h8, h9, not_true_eq_false, not_false_eq_true, and_true, true_and, and_false, false_and, or_true, true_or, or_false, false_or, and_self, or_self, if_true, if_false, Bool.false_eq_true, reduceIte, if_true, if_false]) (by omega) ls (lv_sub hl [6, 7, 8, 2, 1, 4, 3, 5, 0] rfl)
                · skip
                  refine lv_iconst (v := -1) hx hb (dk kX6_leads_1_ok 1 rfl) rfl ?_
                  exact hret _ _ _ (by first | (rw [hr, show f - i = (f - (i + 1)) + 1 by omega]; simp only [ldL, on_tt h2 h8, on_f1 h6, on_f2 h6, on_tt h8 h2, on_f1 h9, on_f2 h9]; simp (config := { decide := true }) only [(eq_true h1), (eq_false (Nat.not_le.mpr h1)), h2, h6, h7, h8, h9, not_true_eq_false, not_false_eq_true, and_true, true_and, and_false, false_and, or_true, true_or, or_false, false_or, and_self, or_self, if_true, if_false, Bool.false_eq_true, reduceIte]; done) | (rw [hr, show f - i = 0 by omega]; rfl)) (dk kX6_leads_1_ok 2 rfl)
            · skip
              refine lv_iconst (v := -1) hx hb (dk kX6_leads_0_ok 37 rfl) rfl ?_
              exact hret _ _ _ (by first | (rw [hr, show f - i = (f - (i + 1)) + 1 by omega]; simp only [ldL, on_f1 h6, on_f2 h6]; simp (config := { decide := true }) only [(eq_true h1), (eq_false (Nat.not_le.mpr h1)), h2, h6, h7, not_true_eq_false, not_false_eq_true, and_true, true_and, and_false, false_and, or_true, true_or, or_false, false_or, and_self, or_self, if_true, if_false, Bool.false_eq_true, reduceIte]; done) | (rw [hr, show f - i = 0 by omega]; rfl)) (dk kX6_leads_0_ok 38 rfl)
  exact L29 _ 0 (nI (q % 13)) (nI (q / 13)) (ea (nI d)) (so (nI d)) false _ (by first | omega | rfl | exact ldg_nI (by omega) _ _) (by first | omega | rfl | exact ldg_nI (by omega) _ _) (by first | omega | rfl | exact ldg_nI (by omega) _ _) (Nat.lt_succ_self _) ls (lv_sub hl [6, 7, 8, 5, 4, 3, 2, 1, 0] rfl)
set_option maxRecDepth 100000 in
set_option maxHeartbeats 4000000 in
theorem tX6_beside (l : Launch) (x : Int32) (q : Nat) (hxq : x = nI q) (hq : q < 169) (y : Int32) (d : Nat) (hyd : y = nI d) (hd : d < 8) : MP l yX6_beside (Cond.code yX6_beside cX6_beside 4 (some .int) :: AW) ({ frames := 1, cells := 0, slots := 0, locals := 22 } : Room) [.int x, .int y] (.int (rbs q d)) := by
  refine mp_i (ty := .int) (by decide +kernel) rfl rfl rfl rfl (Nat.le_of_ble_eq_true rfl) (fun p e s m below meth cd Q ls hx hb hml hown hts hret hl => ?_)
  have hown : s.vm.findClass RX6 = some m.cls := hown
  subst hxq
  subst hyd
  have hl : lv_has ls 4 [(0, .int (nI q)), (1, .int (nI d))] := hl
  refine lv_iload_n hx hb (dk kX6_beside_ok 0 rfl) rfl (lv_at hl 0 rfl) ?_
  refine lv_bipush (v := nI 13) hx hb (dk kX6_beside_ok 1 rfl) rfl ?_
  refine n_irem hx hb (by omega) (by decide) (by decide) (dk kX6_beside_ok 2 rfl) ?_
  refine lv_iload_n hx hb (dk kX6_beside_ok 3 rfl) rfl (lv_at hl 1 rfl) ?_
  refine csP (As := [.int (nI d)]) (rest := [.int (nI (q % 13))]) ⟨hx, hb, hml, hown, hts⟩ (tX6_eastOf l (nI d) d rfl (by omega)) (cwS9 1 hts mcX6_eastOf (ac19 _ (List.mem_of_getElem? (i := 6) rfl)) msX6_eastOf mini_RX6 rfl rfl hdX6_eastOf ⟨Nat.le_of_ble_eq_true rfl, Nat.le_of_ble_eq_true rfl⟩) rfl hl.1 rfl (Nat.le_of_ble_eq_true rfl) (by decide) (dk kX6_beside_ok 4 rfl) ?_
  refine lv_iadd hx hb (dk kX6_beside_ok 5 rfl) ?_
  refine lv_istore_n (lv' := [(2, .int ((nI (q % 13)) + (ea (nI d)))), (0, .int (nI q)), (1, .int (nI d))]) hx hb (dk kX6_beside_ok 6 rfl) rfl hl (by decide) rfl (fun ls hl => ?_)
  refine lv_iload_n hx hb (dk kX6_beside_ok 7 rfl) rfl (lv_at hl 1 rfl) ?_
  refine lv_bipush (v := nI 13) hx hb (dk kX6_beside_ok 8 rfl) rfl ?_
  refine n_idiv hx hb (by omega) (by decide) (by decide) (dk kX6_beside_ok 9 rfl) ?_
  refine lv_iload_n hx hb (dk kX6_beside_ok 10 rfl) rfl (lv_at hl 2 rfl) ?_
  refine csP (As := [.int (nI d)]) (rest := [.int (nI (q / 13))]) ⟨hx, hb, hml, hown, hts⟩ (tX6_southOf l (nI d) d rfl (by omega)) (cwS9 1 hts mcX6_southOf (ac19 _ (List.mem_of_getElem? (i := 9) rfl)) msX6_southOf mini_RX6 rfl rfl hdX6_southOf ⟨Nat.le_of_ble_eq_true rfl, Nat.le_of_ble_eq_true rfl⟩) rfl hl.1 rfl (Nat.le_of_ble_eq_true rfl) (by decide) (dk kX6_beside_ok 11 rfl) ?_
  refine lv_iadd hx hb (dk kX6_beside_ok 12 rfl) ?_
  refine lv_istore_n (lv' := [(3, .int ((nI (q / 13)) + (so (nI d)))), (2, .int ((nI (q % 13)) + (ea (nI d)))), (0, .int (nI q)), (1, .int (nI d))]) hx hb (dk kX6_beside_ok 13 rfl) rfl hl (by decide) rfl (fun ls hl => ?_)
  refine lv_iload_n hx hb (dk kX6_beside_ok 14 rfl) rfl (lv_at hl 1 rfl) ?_
  refine lv_iconst (v := nI 0) hx hb (dk kX6_beside_ok 15 rfl) rfl ?_
  refine lv_bipush (v := nI 12) hx hb (dk kX6_beside_ok 16 rfl) rfl ?_
  refine csP (As := [.int ((nI (q % 13)) + (ea (nI d))), .int (nI 0), .int (nI 12)]) (rest := []) ⟨hx, hb, hml, hown, hts⟩ (tX6_in l ((nI (q % 13)) + (ea (nI d))) (nI 0) (nI 12)) (cwS9 3 hts mcX6_in (ac19 _ (List.mem_of_getElem? (i := 12) rfl)) msX6_in mini_RX6 rfl rfl hdX6_in ⟨Nat.le_of_ble_eq_true rfl, Nat.le_of_ble_eq_true rfl⟩) rfl hl.1 rfl (Nat.le_of_ble_eq_true rfl) (by decide) (dk kX6_beside_ok 17 rfl) ?_
  refine b_if_eq (tgt := 49) hx hb (dk kX6_beside_ok 18 rfl) (by decide) (fun h1 => ?_) (fun h1 => ?_)
  · skip
    refine lv_iconst (v := -1) hx hb (dk kX6_beside_ok 30 rfl) rfl ?_
    exact hret _ _ _ (by simp only [rbs, beside, on_f1 h1, on_f2 h1]; simp (config := { decide := true }) only [not_true_eq_false, not_false_eq_true, and_true, true_and, and_false, false_and, or_true, true_or, or_false, false_or, and_self, or_self, if_true, if_false, Bool.false_eq_true, reduceIte, cat]; first | done | rfl) (dk kX6_beside_ok 31 rfl)
  · skip
    refine lv_iload_n hx hb (dk kX6_beside_ok 19 rfl) rfl (lv_at hl 0 rfl) ?_
    refine lv_iconst (v := nI 0) hx hb (dk kX6_beside_ok 20 rfl) rfl ?_
    refine lv_bipush (v := nI 12) hx hb (dk kX6_beside_ok 21 rfl) rfl ?_
    refine csP (As := [.int ((nI (q / 13)) + (so (nI d))), .int (nI 0), .int (nI 12)]) (rest := []) ⟨hx, hb, hml, hown, hts⟩ (tX6_in l ((nI (q / 13)) + (so (nI d))) (nI 0) (nI 12)) (cwS9 3 hts mcX6_in (ac19 _ (List.mem_of_getElem? (i := 12) rfl)) msX6_in mini_RX6 rfl rfl hdX6_in ⟨Nat.le_of_ble_eq_true rfl, Nat.le_of_ble_eq_true rfl⟩) rfl hl.1 rfl (Nat.le_of_ble_eq_true rfl) (by decide) (dk kX6_beside_ok 22 rfl) ?_
    refine b_if_eq (tgt := 49) hx hb (dk kX6_beside_ok 23 rfl) (by decide) (fun h2 => ?_) (fun h2 => ?_)
    · skip
      refine lv_iconst (v := -1) hx hb (dk kX6_beside_ok 30 rfl) rfl ?_
      exact hret _ _ _ (by simp only [rbs, beside, on_f1 h2, on_f2 h2]; simp (config := { decide := true }) only [not_true_eq_false, not_false_eq_true, and_true, true_and, and_false, false_and, or_true, true_or, or_false, false_or, and_self, or_self, if_true, if_false, Bool.false_eq_true, reduceIte, cat]; first | done | rfl) (dk kX6_beside_ok 31 rfl)
    · skip
      refine lv_bipush (v := nI 13) hx hb (dk kX6_beside_ok 24 rfl) rfl ?_
      refine lv_iload_n hx hb (dk kX6_beside_ok 25 rfl) rfl (lv_at hl 0 rfl) ?_
      refine lv_imul hx hb (dk kX6_beside_ok 26 rfl) ?_
      refine lv_iload_n hx hb (dk kX6_beside_ok 27 rfl) rfl (lv_at hl 1 rfl) ?_
      refine lv_iadd hx hb (dk kX6_beside_ok 28 rfl) ?_
      refine lv_goto (tgt := 50) hx hb (dk kX6_beside_ok 29 rfl) (by decide) ?_
      exact hret _ _ _ (by simp only [rbs, beside, on_tt h1 h2, on_tt h2 h1]; simp (config := { decide := true }) only [not_true_eq_false, not_false_eq_true, and_true, true_and, and_false, false_and, or_true, true_or, or_false, false_or, and_self, or_self, if_true, if_false, Bool.false_eq_true, reduceIte, cat]; first | done | rfl) (dk kX6_beside_ok 31 rfl)
set_option maxRecDepth 100000 in
set_option maxHeartbeats 4000000 in
theorem tX6_lying (l : Launch) (D : va_G) (cI cQ cL : ClassId) (ad : Nat → Nat) (N : Nat) (F : Nat → va_E) (k : Nat) (hk : k + 7 < N) (r ps sl sd ne fa bu : Nat → Int32) (hs : Bool) (st ln pt : Nat) (th : Int32) (hR : rfAt cI ad F k r ps sl sd ne fa bu hs st ln pt th) (q : Int32) : MR l yX6_lying (Cond.code yX6_lying cX6_lying 4 (some .int) :: AW) ({ frames := 0, cells := 0, slots := 0, locals := 0 } : Room) D cI cQ cL ad N F [.ref (ad k), .int q] (.int (nI (hgt r q))) := by
  refine mr_i (ty := .int) (by decide +kernel) rfl rfl rfl rfl (Nat.le_of_ble_eq_true rfl) (fun p e s m below meth cd Q ls hx hb hml hown hts hP hK hNW hret hl => ?_)
  have hown : s.vm.findClass RX6 = some m.cls := hown
  have hk0 : k < N := by omega
  have hk1 : k + 1 < N := by omega
  have hk2 : k + 2 < N := by omega
  have hk3 : k + 3 < N := by omega
  have hk4 : k + 4 < N := by omega
  have hk5 : k + 5 < N := by omega
  have hk6 : k + 6 < N := by omega
  have hk7 : k + 7 < N := by omega
  have hl : lv_has ls 4 [(0, .ref (ad k)), (1, .int q)] := hl
  refine lv_iconst (v := nI 0) hx hb (dk kX6_lying_ok 0 rfl) rfl ?_
  refine lv_istore_n (lv' := [(2, .int (nI 0)), (0, .ref (ad k)), (1, .int q)]) hx hb (dk kX6_lying_ok 1 rfl) rfl hl (by decide) rfl (fun ls hl => ?_)
  refine lv_iconst (v := nI 0) hx hb (dk kX6_lying_ok 2 rfl) rfl ?_
  refine lv_istore_n (lv' := [(3, .int (nI 0)), (2, .int (nI 0)), (0, .ref (ad k)), (1, .int q)]) hx hb (dk kX6_lying_ok 3 rfl) rfl hl (by decide) rfl (fun ls hl => ?_)
  have L4 : ∀ (fu : Nat) (i : Nat) (x2 : Int32), x2 = nI (cnt (fun i => decide (r i = q)) i) → i ≤ 16 → 16 - i < fu → ∀ ls : Array Slot, lv_has ls 4 [(0, .ref (ad k)), (1, .int q), (2, .int x2), (3, .int (nI i))] → W p l e ({ frames := 0, cells := 0, slots := 0, locals := 0 } : Room) s m ([.ref (ad k), .int q] : List Value).toArray below meth cd s.heap [] 0 0 Q (F0 m 4 ls []) := by
    intro fu
    induction fu with
    | zero => intros; omega
    | succ fu ih4 =>
      intro i x2 ex2 hi hm4 ls hl
      subst ex2
      refine lv_iload_n hx hb (dk kX6_lying_ok 4 rfl) rfl (lv_at hl 3 rfl) ?_
      refine lv_bipush (v := nI 16) hx hb (dk kX6_lying_ok 5 rfl) rfl ?_
      refine n_icmp_ge (tgt := 36) hx hb (by omega) (by decide) (dk kX6_lying_ok 6 rfl) (by decide) (fun h1 => ?_) (fun h1 => ?_)
      · skip
        refine lv_iload_n hx hb (dk kX6_lying_ok 23 rfl) rfl (lv_at hl 2 rfl) ?_
        exact hret _ _ _ (by rw [show i = 16 by omega] <;> rfl) (dk kX6_lying_ok 24 rfl)
      · skip
        refine lv_iload_n hx hb (dk kX6_lying_ok 7 rfl) rfl (lv_at hl 2 rfl) ?_
        refine lv_aload_n hx hb (dk kX6_lying_ok 8 rfl) rfl (lv_at hl 0 rfl) ?_
        refine gf hx hb hts (fun w h => List.mem_cons_of_mem _ (acX6 w h)) hown hK hP hk0 hR.1 rfl 0 (by decide) (hts _ (List.mem_cons_of_mem _ (ac17 _ (List.mem_of_getElem? (i := 17) rfl)))) (fun _ h => h) rfl (dk kX6_lying_ok 9 rfl) ?_
        refine lv_iconst (v := nI 0) hx hb (dk kX6_lying_ok 10 rfl) rfl ?_
        refine lv_iload_n hx hb (dk kX6_lying_ok 11 rfl) rfl (lv_at hl 3 rfl) ?_
        refine n_iadd0 hx hb (dk kX6_lying_ok 12 rfl) ?_
        refine ald (j := i) hx hb hK hP hk1 hR.2.1 rfl (by omega) (by decide) (dk kX6_lying_ok 13 rfl) ?_
        refine lv_iload_n hx hb (dk kX6_lying_ok 14 rfl) rfl (lv_at hl 1 rfl) ?_
        refine lv_icmp_ne (tgt := 27) hx hb (dk kX6_lying_ok 15 rfl) (by decide) (fun h2 => ?_) (fun h2 => ?_)
        · skip
          refine lv_iconst (v := nI 0) hx hb (dk kX6_lying_ok 18 rfl) rfl ?_
          refine n_iadd hx hb (dk kX6_lying_ok 19 rfl) ?_
          refine lv_istore_n (lv' := [(2, .int (nI ((cnt (fun i => decide (r i = q)) i) + 0))), (0, .ref (ad k)), (1, .int q), (3, .int (nI i))]) hx hb (dk kX6_lying_ok 20 rfl) rfl hl (by decide) rfl (fun ls hl => ?_)
          refine lv_iinc (v := nI (i + 1)) (lv' := [(3, .int (nI (i + 1))), (2, .int (nI ((cnt (fun i => decide (r i = q)) i) + 0))), (0, .ref (ad k)), (1, .int q)]) hx hb (dk kX6_lying_ok 21 rfl) hl (k := 3) rfl (n_inc _) (by decide) rfl (fun ls hl => ?_)
          refine lv_goto (tgt := 4) hx hb (dk kX6_lying_ok 22 rfl) (by decide) ?_
          exact ih4 (i + 1) _ (by simp [cnt, h1, h2]) (by omega) (by omega) ls (lv_sub hl [2, 3, 1, 0] rfl)
        · skip
          refine lv_iconst (v := nI 1) hx hb (dk kX6_lying_ok 16 rfl) rfl ?_
          refine lv_goto (tgt := 28) hx hb (dk kX6_lying_ok 17 rfl) (by decide) ?_
          refine n_iadd hx hb (dk kX6_lying_ok 19 rfl) ?_
          refine lv_istore_n (lv' := [(2, .int (nI ((cnt (fun i => decide (r i = q)) i) + 1))), (0, .ref (ad k)), (1, .int q), (3, .int (nI i))]) hx hb (dk kX6_lying_ok 20 rfl) rfl hl (by decide) rfl (fun ls hl => ?_)
          refine lv_iinc (v := nI (i + 1)) (lv' := [(3, .int (nI (i + 1))), (2, .int (nI ((cnt (fun i => decide (r i = q)) i) + 1))), (0, .ref (ad k)), (1, .int q)]) hx hb (dk kX6_lying_ok 21 rfl) hl (k := 3) rfl (n_inc _) (by decide) rfl (fun ls hl => ?_)
          refine lv_goto (tgt := 4) hx hb (dk kX6_lying_ok 22 rfl) (by decide) ?_
          exact ih4 (i + 1) _ (by simp [cnt, h1, h2]) (by omega) (by omega) ls (lv_sub hl [2, 3, 1, 0] rfl)
  exact L4 _ 0 _ (by first | rfl | omega) (by first | rfl | omega) (Nat.lt_succ_self _) ls (lv_sub hl [2, 3, 1, 0] rfl)
set_option maxRecDepth 100000 in
set_option maxHeartbeats 4000000 in
theorem tX6_winkAt (l : Launch) (D : va_G) (cI cQ cL : ClassId) (ad : Nat → Nat) (N : Nat) (F : Nat → va_E) (k : Nat) (hk : k + 7 < N) (r ps sl sd ne fa bu : Nat → Int32) (hs : Bool) (st ln pt : Nat) (th : Int32) (hR : rfAt cI ad F k r ps sl sd ne fa bu hs st ln pt th) (q p9 : Int32) : MR l yX6_winkAt (Cond.code yX6_winkAt cX6_winkAt 4 (some .int) :: AW) ({ frames := 0, cells := 0, slots := 0, locals := 0 } : Room) D cI cQ cL ad N F [.ref (ad k), .int q, .int p9] (.int (wat r q p9)) := by
  refine mr_i (ty := .int) (by decide +kernel) rfl rfl rfl rfl (Nat.le_of_ble_eq_true rfl) (fun p e s m below meth cd Q ls hx hb hml hown hts hP hK hNW hret hl => ?_)
  have hown : s.vm.findClass RX6 = some m.cls := hown
  have hk0 : k < N := by omega
  have hk1 : k + 1 < N := by omega
  have hk2 : k + 2 < N := by omega
  have hk3 : k + 3 < N := by omega
  have hk4 : k + 4 < N := by omega
  have hk5 : k + 5 < N := by omega
  have hk6 : k + 6 < N := by omega
  have hk7 : k + 7 < N := by omega
  have hl : lv_has ls 4 [(0, .ref (ad k)), (1, .int q), (2, .int p9)] := hl
  refine lv_iconst (v := nI 0) hx hb (dk kX6_winkAt_ok 0 rfl) rfl ?_
  refine lv_istore_n (lv' := [(3, .int (nI 0)), (0, .ref (ad k)), (1, .int q), (2, .int p9)]) hx hb (dk kX6_winkAt_ok 1 rfl) rfl hl (by decide) rfl (fun ls hl => ?_)
  have L2 : ∀ (fu : Nat) (i : Nat), i ≤ 16 → wat r q p9 = fst (rwt r q p9) (16 - i) i → 16 - i < fu → ∀ ls : Array Slot, lv_has ls 4 [(0, .ref (ad k)), (1, .int q), (2, .int p9), (3, .int (nI i))] → W p l e ({ frames := 0, cells := 0, slots := 0, locals := 0 } : Room) s m ([.ref (ad k), .int q, .int p9] : List Value).toArray below meth cd s.heap [] 0 0 Q (F0 m 2 ls []) := by
    intro fu
    induction fu with
    | zero => intros; omega
    | succ fu ih2 =>
      intro i hi hr hm2 ls hl
      refine lv_iload_n hx hb (dk kX6_winkAt_ok 2 rfl) rfl (lv_at hl 3 rfl) ?_
      refine lv_bipush (v := nI 16) hx hb (dk kX6_winkAt_ok 3 rfl) rfl ?_
      refine n_icmp_ge (tgt := 41) hx hb (by omega) (by decide) (dk kX6_winkAt_ok 4 rfl) (by decide) (fun h1 => ?_) (fun h1 => ?_)
      · skip
        refine lv_iconst (v := -1) hx hb (dk kX6_winkAt_ok 25 rfl) rfl ?_
        exact hret _ _ _ (by first | (rw [hr, show 16 - i = (16 - (i + 1)) + 1 by omega]; simp [fst, rwt, h1]; done) | (rw [hr, show 16 - i = 0 by omega]; rfl)) (dk kX6_winkAt_ok 26 rfl)
      · skip
        refine lv_aload_n hx hb (dk kX6_winkAt_ok 5 rfl) rfl (lv_at hl 0 rfl) ?_
        refine gf hx hb hts (fun w h => List.mem_cons_of_mem _ (acX6 w h)) hown hK hP hk0 hR.1 rfl 0 (by decide) (hts _ (List.mem_cons_of_mem _ (ac17 _ (List.mem_of_getElem? (i := 17) rfl)))) (fun _ h => h) rfl (dk kX6_winkAt_ok 6 rfl) ?_
        refine lv_iconst (v := nI 0) hx hb (dk kX6_winkAt_ok 7 rfl) rfl ?_
        refine lv_iload_n hx hb (dk kX6_winkAt_ok 8 rfl) rfl (lv_at hl 3 rfl) ?_
        refine n_iadd0 hx hb (dk kX6_winkAt_ok 9 rfl) ?_
        refine ald (j := i) hx hb hK hP hk1 hR.2.1 rfl (by omega) (by decide) (dk kX6_winkAt_ok 10 rfl) ?_
        refine lv_iload_n hx hb (dk kX6_winkAt_ok 11 rfl) rfl (lv_at hl 1 rfl) ?_
        refine lv_icmp_ne (tgt := 35) hx hb (dk kX6_winkAt_ok 12 rfl) (by decide) (fun h2 => ?_) (fun h2 => ?_)
        · skip
          refine lv_iinc (v := nI (i + 1)) (lv' := [(3, .int (nI (i + 1))), (0, .ref (ad k)), (1, .int q), (2, .int p9)]) hx hb (dk kX6_winkAt_ok 23 rfl) hl (k := 3) rfl (n_inc _) (by decide) rfl (fun ls hl => ?_)
          refine lv_goto (tgt := 2) hx hb (dk kX6_winkAt_ok 24 rfl) (by decide) ?_
          exact ih2 (i + 1) (by omega) (by rw [hr, show 16 - i = (16 - (i + 1)) + 1 by omega]; simp [fst, rwt, h1, h2]) (by omega) ls (lv_sub hl [1, 2, 3, 0] rfl)
        · skip
          refine lv_aload_n hx hb (dk kX6_winkAt_ok 13 rfl) rfl (lv_at hl 0 rfl) ?_
          refine gf hx hb hts (fun w h => List.mem_cons_of_mem _ (acX6 w h)) hown hK hP hk0 hR.1 rfl 0 (by decide) (hts _ (List.mem_cons_of_mem _ (ac17 _ (List.mem_of_getElem? (i := 17) rfl)))) (fun _ h => h) rfl (dk kX6_winkAt_ok 14 rfl) ?_
          refine lv_bipush (v := nI 16) hx hb (dk kX6_winkAt_ok 15 rfl) rfl ?_
          refine lv_iload_n hx hb (dk kX6_winkAt_ok 16 rfl) rfl (lv_at hl 3 rfl) ?_
          refine n_iadd hx hb (dk kX6_winkAt_ok 17 rfl) ?_
          refine ald (j := (16 + i)) hx hb hK hP hk1 hR.2.1 rfl (by omega) (by decide) (dk kX6_winkAt_ok 18 rfl) ?_
          refine lv_iload_n hx hb (dk kX6_winkAt_ok 19 rfl) rfl (lv_at hl 2 rfl) ?_
          refine lv_icmp_ne (tgt := 35) hx hb (dk kX6_winkAt_ok 20 rfl) (by decide) (fun h3 => ?_) (fun h3 => ?_)
          · skip
            refine lv_iinc (v := nI (i + 1)) (lv' := [(3, .int (nI (i + 1))), (0, .ref (ad k)), (1, .int q), (2, .int p9)]) hx hb (dk kX6_winkAt_ok 23 rfl) hl (k := 3) rfl (n_inc _) (by decide) rfl (fun ls hl => ?_)
            refine lv_goto (tgt := 2) hx hb (dk kX6_winkAt_ok 24 rfl) (by decide) ?_
            exact ih2 (i + 1) (by omega) (by rw [hr, show 16 - i = (16 - (i + 1)) + 1 by omega]; simp [fst, rwt, h1, h2, h3]) (by omega) ls (lv_sub hl [1, 2, 3, 0] rfl)
          · skip
            refine lv_iload_n hx hb (dk kX6_winkAt_ok 21 rfl) rfl (lv_at hl 3 rfl) ?_
            exact hret _ _ _ (by first | (rw [hr, show 16 - i = (16 - (i + 1)) + 1 by omega]; simp [fst, rwt, h1, h2, h3]; done) | (rw [hr, show 16 - i = 0 by omega]; rfl)) (dk kX6_winkAt_ok 22 rfl)
  exact L2 _ 0 (by first | rfl | omega) (by first | rfl | omega) (Nat.lt_succ_self _) ls (lv_sub hl [1, 2, 3, 0] rfl)
set_option maxRecDepth 100000 in
set_option maxHeartbeats 4000000 in
theorem tX6_isPotted (l : Launch) (D : va_G) (cI cQ cL : ClassId) (ad : Nat → Nat) (N : Nat) (F : Nat → va_E) (k : Nat) (hk : k + 7 < N) (r ps sl sd ne fa bu : Nat → Int32) (hs : Bool) (st ln pt : Nat) (th : Int32) (hR : rfAt cI ad F k r ps sl sd ne fa bu hs st ln pt th) (x : Int32) (w : Nat) (hxw : x = nI w) (hw : w < 16) : MR l yX6_isPotted (Cond.code yX6_isPotted cX6_isPotted 2 (some .boolean) :: AW) ({ frames := 0, cells := 0, slots := 0, locals := 0 } : Room) D cI cQ cL ad N F [.ref (ad k), .int x] (.int (bI (pot r w))) := by
  refine mr_i (ty := .boolean) (by decide +kernel) rfl rfl rfl (bI_nar _) (Nat.le_of_ble_eq_true rfl) (fun p e s m below meth cd Q ls hx hb hml hown hts hP hK hNW hret hl => ?_)
  have hown : s.vm.findClass RX6 = some m.cls := hown
  subst hxw
  have hk0 : k < N := by omega
  have hk1 : k + 1 < N := by omega
  have hk2 : k + 2 < N := by omega
  have hk3 : k + 3 < N := by omega
  have hk4 : k + 4 < N := by omega
  have hk5 : k + 5 < N := by omega
  have hk6 : k + 6 < N := by omega
  have hk7 : k + 7 < N := by omega
  have hl : lv_has ls 2 [(0, .ref (ad k)), (1, .int (nI w))] := hl
  refine lv_aload_n hx hb (dk kX6_isPotted_ok 0 rfl) rfl (lv_at hl 0 rfl) ?_
  refine gf hx hb hts (fun w h => List.mem_cons_of_mem _ (acX6 w h)) hown hK hP hk0 hR.1 rfl 0 (by decide) (hts _ (List.mem_cons_of_mem _ (ac17 _ (List.mem_of_getElem? (i := 17) rfl)))) (fun _ h => h) rfl (dk kX6_isPotted_ok 1 rfl) ?_
  refine lv_iconst (v := nI 0) hx hb (dk kX6_isPotted_ok 2 rfl) rfl ?_
  refine lv_iload_n hx hb (dk kX6_isPotted_ok 3 rfl) rfl (lv_at hl 1 rfl) ?_
  refine n_iadd0 hx hb (dk kX6_isPotted_ok 4 rfl) ?_
  refine ald (j := w) hx hb hK hP hk1 hR.2.1 rfl (by omega) (by decide) (dk kX6_isPotted_ok 5 rfl) ?_
  refine lv_iconst (v := -1) hx hb (dk kX6_isPotted_ok 6 rfl) rfl ?_
  refine lv_icmp_ne (tgt := 16) hx hb (dk kX6_isPotted_ok 7 rfl) (by decide) (fun h1 => ?_) (fun h1 => ?_)
  · skip
    refine lv_iconst (v := nI 0) hx hb (dk kX6_isPotted_ok 10 rfl) rfl ?_
    exact hret _ _ _ (by simp [pot, h1, bI]) (dk kX6_isPotted_ok 11 rfl)
  · skip
    refine lv_iconst (v := nI 1) hx hb (dk kX6_isPotted_ok 8 rfl) rfl ?_
    refine lv_goto (tgt := 17) hx hb (dk kX6_isPotted_ok 9 rfl) (by decide) ?_
    exact hret _ _ _ (by simp [pot, h1, bI]) (dk kX6_isPotted_ok 11 rfl)
set_option maxRecDepth 100000 in
set_option maxHeartbeats 4000000 in
theorem tX6_isCovered (l : Launch) (D : va_G) (cI cQ cL : ClassId) (ad : Nat → Nat) (N : Nat) (F : Nat → va_E) (k : Nat) (hk : k + 7 < N) (r ps sl sd ne fa bu : Nat → Int32) (hs : Bool) (st ln pt : Nat) (th : Int32) (hR : rfAt cI ad F k r ps sl sd ne fa bu hs st ln pt th) (x : Int32) (w : Nat) (hxw : x = nI w) (hw : w < 16) : MR l yX6_isCovered (Cond.code yX6_isCovered cX6_isCovered 2 (some .boolean) :: AW) ({ frames := 1, cells := 0, slots := 0, locals := 23 } : Room) D cI cQ cL ad N F [.ref (ad k), .int x] (.int (bI (rcv r w))) := by
  refine mr_i (ty := .boolean) (by decide +kernel) rfl rfl rfl (bI_nar _) (Nat.le_of_ble_eq_true rfl) (fun p e s m below meth cd Q ls hx hb hml hown hts hP hK hNW hret hl => ?_)
  have hown : s.vm.findClass RX6 = some m.cls := hown
  subst hxw
  have hk0 : k < N := by omega
  have hk1 : k + 1 < N := by omega
  have hk2 : k + 2 < N := by omega
  have hk3 : k + 3 < N := by omega
  have hk4 : k + 4 < N := by omega
  have hk5 : k + 5 < N := by omega
  have hk6 : k + 6 < N := by omega
  have hk7 : k + 7 < N := by omega
  have hl : lv_has ls 2 [(0, .ref (ad k)), (1, .int (nI w))] := hl
  refine lv_aload_n hx hb (dk kX6_isCovered_ok 0 rfl) rfl (lv_at hl 0 rfl) ?_
  refine lv_iload_n hx hb (dk kX6_isCovered_ok 1 rfl) rfl (lv_at hl 1 rfl) ?_
  refine cvR (As := [.int (nI w)]) (rest := []) ⟨hx, hb, hml, hown, hts⟩ (tX6_isPotted l D cI cQ cL ad N F k hk r ps sl sd ne fa bu hs st ln pt th hR (nI w) w rfl (by omega)) (cwV9 1 hts mcX6_isPotted (ac18 _ (List.mem_of_getElem? (i := 6) rfl)) miX6_isPotted meX6_isPotted mini_RX6 rfl rfl hdX6_isPotted ⟨Nat.le_of_ble_eq_true rfl, Nat.le_of_ble_eq_true rfl⟩) hK hP hNW hk0 hR.1 rfl rfl hl.1 rfl (Nat.le_of_ble_eq_true rfl) (by decide) (dk kX6_isCovered_ok 2 rfl) ?_
  refine b_if_ne (tgt := 38) hx hb (dk kX6_isCovered_ok 3 rfl) (by decide) (fun h1 => ?_) (fun h1 => ?_)
  · skip
    refine lv_iconst (v := nI 0) hx hb (dk kX6_isCovered_ok 23 rfl) rfl ?_
    exact hret _ _ _ (by simp only [rcv, h1, decide_true, decide_false, not_true_eq_false, not_false_eq_true, and_true, true_and, and_false, false_and, or_true, true_or, or_false, false_or, and_self, or_self, if_true, if_false, Bool.false_eq_true, reduceIte, Bool.not_true, Bool.not_false, Bool.and_true, Bool.true_and, Bool.and_false, Bool.false_and]; rfl) (dk kX6_isCovered_ok 24 rfl)
  · skip
    refine lv_aload_n hx hb (dk kX6_isCovered_ok 4 rfl) rfl (lv_at hl 0 rfl) ?_
    refine gf hx hb hts (fun w h => List.mem_cons_of_mem _ (acX6 w h)) hown hK hP hk0 hR.1 rfl 0 (by decide) (hts _ (List.mem_cons_of_mem _ (ac17 _ (List.mem_of_getElem? (i := 17) rfl)))) (fun _ h => h) rfl (dk kX6_isCovered_ok 5 rfl) ?_
    refine lv_bipush (v := nI 16) hx hb (dk kX6_isCovered_ok 6 rfl) rfl ?_
    refine lv_iload_n hx hb (dk kX6_isCovered_ok 7 rfl) rfl (lv_at hl 1 rfl) ?_
    refine n_iadd hx hb (dk kX6_isCovered_ok 8 rfl) ?_
    refine ald (j := (16 + w)) hx hb hK hP hk1 hR.2.1 rfl (by omega) (by decide) (dk kX6_isCovered_ok 9 rfl) ?_
    refine lv_aload_n hx hb (dk kX6_isCovered_ok 10 rfl) rfl (lv_at hl 0 rfl) ?_
    refine lv_aload_n hx hb (dk kX6_isCovered_ok 11 rfl) rfl (lv_at hl 0 rfl) ?_
    refine gf hx hb hts (fun w h => List.mem_cons_of_mem _ (acX6 w h)) hown hK hP hk0 hR.1 rfl 0 (by decide) (hts _ (List.mem_cons_of_mem _ (ac17 _ (List.mem_of_getElem? (i := 17) rfl)))) (fun _ h => h) rfl (dk kX6_isCovered_ok 12 rfl) ?_
    refine lv_iconst (v := nI 0) hx hb (dk kX6_isCovered_ok 13 rfl) rfl ?_
    refine lv_iload_n hx hb (dk kX6_isCovered_ok 14 rfl) rfl (lv_at hl 1 rfl) ?_
    refine n_iadd0 hx hb (dk kX6_isCovered_ok 15 rfl) ?_
    refine ald (j := w) hx hb hK hP hk1 hR.2.1 rfl (by omega) (by decide) (dk kX6_isCovered_ok 16 rfl) ?_
    refine cvR (As := [.int (r w)]) (rest := [.int (r (16 + w))]) ⟨hx, hb, hml, hown, hts⟩ (tX6_lying l D cI cQ cL ad N F k hk r ps sl sd ne fa bu hs st ln pt th hR (r w)) (cwV9 1 hts mcX6_lying (ac18 _ (List.mem_of_getElem? (i := 10) rfl)) miX6_lying meX6_lying mini_RX6 rfl rfl hdX6_lying ⟨Nat.le_of_ble_eq_true rfl, Nat.le_of_ble_eq_true rfl⟩) hK hP hNW hk0 hR.1 rfl rfl hl.1 rfl (Nat.le_of_ble_eq_true rfl) (by decide) (dk kX6_isCovered_ok 17 rfl) ?_
    refine lv_iconst (v := nI 1) hx hb (dk kX6_isCovered_ok 18 rfl) rfl ?_
    refine lv_isub hx hb (dk kX6_isCovered_ok 19 rfl) ?_
    refine lv_icmp_ge (tgt := 38) hx hb (dk kX6_isCovered_ok 20 rfl) (by decide) (fun h2 => ?_) (fun h2 => ?_)
    · skip
      refine lv_iconst (v := nI 0) hx hb (dk kX6_isCovered_ok 23 rfl) rfl ?_
      exact hret _ _ _ (by simp only [rcv, h1, (eq_true h2), decide_true, decide_false, not_true_eq_false, not_false_eq_true, and_true, true_and, and_false, false_and, or_true, true_or, or_false, false_or, and_self, or_self, if_true, if_false, Bool.false_eq_true, reduceIte, Bool.not_true, Bool.not_false, Bool.and_true, Bool.true_and, Bool.and_false, Bool.false_and]; rfl) (dk kX6_isCovered_ok 24 rfl)
    · skip
      refine lv_iconst (v := nI 1) hx hb (dk kX6_isCovered_ok 21 rfl) rfl ?_
      refine lv_goto (tgt := 39) hx hb (dk kX6_isCovered_ok 22 rfl) (by decide) ?_
      exact hret _ _ _ (by simp only [rcv, h1, (eq_false h2), decide_true, decide_false, not_true_eq_false, not_false_eq_true, and_true, true_and, and_false, false_and, or_true, true_or, or_false, false_or, and_self, or_self, if_true, if_false, Bool.false_eq_true, reduceIte, Bool.not_true, Bool.not_false, Bool.and_true, Bool.true_and, Bool.and_false, Bool.false_and]; rfl) (dk kX6_isCovered_ok 24 rfl)
set_option maxRecDepth 100000 in
set_option maxHeartbeats 4000000 in
theorem tX6_pottedOf (l : Launch) (D : va_G) (cI cQ cL : ClassId) (ad : Nat → Nat) (N : Nat) (F : Nat → va_E) (k : Nat) (hk : k + 7 < N) (r ps sl sd ne fa bu : Nat → Int32) (hs : Bool) (st ln pt : Nat) (th : Int32) (hR : rfAt cI ad F k r ps sl sd ne fa bu hs st ln pt th) (x : Int32) (w : Nat) (hxw : x = nI w) (hw : w < 4) : MR l yX6_pottedOf (Cond.code yX6_pottedOf cX6_pottedOf 4 (some .int) :: AW) ({ frames := 1, cells := 0, slots := 0, locals := 21 } : Room) D cI cQ cL ad N F [.ref (ad k), .int x] (.int (nI (potc r w))) := by
  refine mr_i (ty := .int) (by decide +kernel) rfl rfl rfl rfl (Nat.le_of_ble_eq_true rfl) (fun p e s m below meth cd Q ls hx hb hml hown hts hP hK hNW hret hl => ?_)
  have hown : s.vm.findClass RX6 = some m.cls := hown
  subst hxw
  have hk0 : k < N := by omega
  have hk1 : k + 1 < N := by omega
  have hk2 : k + 2 < N := by omega
  have hk3 : k + 3 < N := by omega
  have hk4 : k + 4 < N := by omega
  have hk5 : k + 5 < N := by omega
  have hk6 : k + 6 < N := by omega
  have hk7 : k + 7 < N := by omega
  have hl : lv_has ls 4 [(0, .ref (ad k)), (1, .int (nI w))] := hl
  refine lv_iconst (v := nI 0) hx hb (dk kX6_pottedOf_ok 0 rfl) rfl ?_
  refine lv_istore_n (lv' := [(2, .int (nI 0)), (0, .ref (ad k)), (1, .int (nI w))]) hx hb (dk kX6_pottedOf_ok 1 rfl) rfl hl (by decide) rfl (fun ls hl => ?_)
  refine lv_iconst (v := nI 4) hx hb (dk kX6_pottedOf_ok 2 rfl) rfl ?_
  refine lv_iload_n hx hb (dk kX6_pottedOf_ok 3 rfl) rfl (lv_at hl 2 rfl) ?_
  refine n_imul hx hb (dk kX6_pottedOf_ok 4 rfl) ?_
  refine lv_istore_n (lv' := [(3, .int (nI (4 * w))), (2, .int (nI 0)), (0, .ref (ad k)), (1, .int (nI w))]) hx hb (dk kX6_pottedOf_ok 5 rfl) rfl hl (by decide) rfl (fun ls hl => ?_)
  have L6 : ∀ (fu : Nat) (i : Nat) (x2 : Int32), x2 = nI (cnt (fun i => decide (r (4 * w + i) = -1)) i) → i ≤ 4 → 4 - i < fu → ∀ ls : Array Slot, lv_has ls 4 [(0, .ref (ad k)), (1, .int (nI w)), (2, .int x2), (3, .int (nI (4 * w + i)))] → W p l e ({ frames := 1, cells := 0, slots := 0, locals := 21 } : Room) s m ([.ref (ad k), .int (nI w)] : List Value).toArray below meth cd s.heap [] 0 0 Q (F0 m 6 ls []) := by
    intro fu
    induction fu with
    | zero => intros; omega
    | succ fu ih6 =>
      intro i x2 ex2 hi hm6 ls hl
      subst ex2
      refine lv_iload_n hx hb (dk kX6_pottedOf_ok 6 rfl) rfl (lv_at hl 3 rfl) ?_
      refine lv_iconst (v := nI 4) hx hb (dk kX6_pottedOf_ok 7 rfl) rfl ?_
      refine lv_iload_n hx hb (dk kX6_pottedOf_ok 8 rfl) rfl (lv_at hl 1 rfl) ?_
      refine n_imul hx hb (dk kX6_pottedOf_ok 9 rfl) ?_
      refine lv_iconst (v := nI 4) hx hb (dk kX6_pottedOf_ok 10 rfl) rfl ?_
      refine n_iadd hx hb (dk kX6_pottedOf_ok 11 rfl) ?_
      refine n_icmp_ge (tgt := 37) hx hb (by omega) (by omega) (dk kX6_pottedOf_ok 12 rfl) (by decide) (fun h1 => ?_) (fun h1 => ?_)
      · skip
        refine lv_iload_n hx hb (dk kX6_pottedOf_ok 25 rfl) rfl (lv_at hl 2 rfl) ?_
        exact hret _ _ _ (by rw [show i = 4 by omega] <;> rfl) (dk kX6_pottedOf_ok 26 rfl)
      · skip
        refine lv_iload_n hx hb (dk kX6_pottedOf_ok 13 rfl) rfl (lv_at hl 2 rfl) ?_
        refine lv_aload_n hx hb (dk kX6_pottedOf_ok 14 rfl) rfl (lv_at hl 0 rfl) ?_
        refine lv_iload_n hx hb (dk kX6_pottedOf_ok 15 rfl) rfl (lv_at hl 3 rfl) ?_
        refine cvR (As := [.int (nI (4 * w + i))]) (rest := [.int (nI (cnt (fun i => decide (r (4 * w + i) = -1)) i))]) ⟨hx, hb, hml, hown, hts⟩ (tX6_isPotted l D cI cQ cL ad N F k hk r ps sl sd ne fa bu hs st ln pt th hR (nI (4 * w + i)) (4 * w + i) rfl (by omega)) (cwV9 1 hts mcX6_isPotted (ac18 _ (List.mem_of_getElem? (i := 6) rfl)) miX6_isPotted meX6_isPotted mini_RX6 rfl rfl hdX6_isPotted ⟨Nat.le_of_ble_eq_true rfl, Nat.le_of_ble_eq_true rfl⟩) hK hP hNW hk0 hR.1 rfl rfl hl.1 rfl (Nat.le_of_ble_eq_true rfl) (by decide) (dk kX6_pottedOf_ok 16 rfl) ?_
        refine b_if_eq (tgt := 28) hx hb (dk kX6_pottedOf_ok 17 rfl) (by decide) (fun h2 => ?_) (fun h2 => ?_)
        · skip
          refine lv_iconst (v := nI 0) hx hb (dk kX6_pottedOf_ok 20 rfl) rfl ?_
          refine n_iadd hx hb (dk kX6_pottedOf_ok 21 rfl) ?_
          refine lv_istore_n (lv' := [(2, .int (nI ((cnt (fun i => decide (r (4 * w + i) = -1)) i) + 0))), (0, .ref (ad k)), (1, .int (nI w)), (3, .int (nI (4 * w + i)))]) hx hb (dk kX6_pottedOf_ok 22 rfl) rfl hl (by decide) rfl (fun ls hl => ?_)
          refine lv_iinc (v := nI ((4 * w + i) + 1)) (lv' := [(3, .int (nI ((4 * w + i) + 1))), (2, .int (nI ((cnt (fun i => decide (r (4 * w + i) = -1)) i) + 0))), (0, .ref (ad k)), (1, .int (nI w))]) hx hb (dk kX6_pottedOf_ok 23 rfl) hl (k := 3) rfl (n_inc _) (by decide) rfl (fun ls hl => ?_)
          refine lv_goto (tgt := 6) hx hb (dk kX6_pottedOf_ok 24 rfl) (by decide) ?_
          exact ih6 (i + 1) _ (by simp only [pot, decide_eq_true_eq, decide_eq_false_iff_not] at h1 h2; simp [cnt, h1, h2]) (by omega) (by omega) ls (lv_sub hl [2, 3, 1, 0] rfl)
        · skip
          refine lv_iconst (v := nI 1) hx hb (dk kX6_pottedOf_ok 18 rfl) rfl ?_
          refine lv_goto (tgt := 29) hx hb (dk kX6_pottedOf_ok 19 rfl) (by decide) ?_
          refine n_iadd hx hb (dk kX6_pottedOf_ok 21 rfl) ?_
          refine lv_istore_n (lv' := [(2, .int (nI ((cnt (fun i => decide (r (4 * w + i) = -1)) i) + 1))), (0, .ref (ad k)), (1, .int (nI w)), (3, .int (nI (4 * w + i)))]) hx hb (dk kX6_pottedOf_ok 22 rfl) rfl hl (by decide) rfl (fun ls hl => ?_)
          refine lv_iinc (v := nI ((4 * w + i) + 1)) (lv' := [(3, .int (nI ((4 * w + i) + 1))), (2, .int (nI ((cnt (fun i => decide (r (4 * w + i) = -1)) i) + 1))), (0, .ref (ad k)), (1, .int (nI w))]) hx hb (dk kX6_pottedOf_ok 23 rfl) hl (k := 3) rfl (n_inc _) (by decide) rfl (fun ls hl => ?_)
          refine lv_goto (tgt := 6) hx hb (dk kX6_pottedOf_ok 24 rfl) (by decide) ?_
          exact ih6 (i + 1) _ (by simp only [pot, decide_eq_true_eq, decide_eq_false_iff_not] at h1 h2; simp [cnt, h1, h2]) (by omega) (by omega) ls (lv_sub hl [2, 3, 1, 0] rfl)
  exact L6 _ 0 _ (by first | rfl | omega) (by first | rfl | omega) (Nat.lt_succ_self _) ls (lv_sub hl [2, 3, 1, 0] rfl)
set_option maxRecDepth 100000 in
set_option maxHeartbeats 4000000 in
theorem tX6_isOver (l : Launch) (D : va_G) (cI cQ cL : ClassId) (ad : Nat → Nat) (N : Nat) (F : Nat → va_E) (k : Nat) (hk : k + 7 < N) (r ps sl sd ne fa bu : Nat → Int32) (hs : Bool) (st ln pt : Nat) (th : Int32) (hR : rfAt cI ad F k r ps sl sd ne fa bu hs st ln pt th) : MR l yX6_isOver (Cond.code yX6_isOver cX6_isOver 1 (some .boolean) :: AW) ({ frames := 2, cells := 0, slots := 0, locals := 44 } : Room) D cI cQ cL ad N F [.ref (ad k)] (.int (bI (over r))) := by
  refine mr_i (ty := .boolean) (by decide +kernel) rfl rfl rfl (bI_nar _) (Nat.le_of_ble_eq_true rfl) (fun p e s m below meth cd Q ls hx hb hml hown hts hP hK hNW hret hl => ?_)
  have hown : s.vm.findClass RX6 = some m.cls := hown
  have hk0 : k < N := by omega
  have hk1 : k + 1 < N := by omega
  have hk2 : k + 2 < N := by omega
  have hk3 : k + 3 < N := by omega
  have hk4 : k + 4 < N := by omega
  have hk5 : k + 5 < N := by omega
  have hk6 : k + 6 < N := by omega
  have hk7 : k + 7 < N := by omega
  have hl : lv_has ls 1 [(0, .ref (ad k))] := hl
  refine lv_aload_n hx hb (dk kX6_isOver_ok 0 rfl) rfl (lv_at hl 0 rfl) ?_
  refine lv_iconst (v := nI 0) hx hb (dk kX6_isOver_ok 1 rfl) rfl ?_
  refine cvR (As := [.int (nI 0)]) (rest := []) ⟨hx, hb, hml, hown, hts⟩ (tX6_pottedOf l D cI cQ cL ad N F k hk r ps sl sd ne fa bu hs st ln pt th hR (nI 0) 0 rfl (by omega)) (cwV9 1 hts mcX6_pottedOf (ac18 _ (List.mem_of_getElem? (i := 14) rfl)) miX6_pottedOf meX6_pottedOf mini_RX6 rfl rfl hdX6_pottedOf ⟨Nat.le_of_ble_eq_true rfl, Nat.le_of_ble_eq_true rfl⟩) hK hP hNW hk0 hR.1 rfl rfl hl.1 rfl (Nat.le_of_ble_eq_true rfl) (by decide) (dk kX6_isOver_ok 2 rfl) ?_
  refine lv_iconst (v := nI 4) hx hb (dk kX6_isOver_ok 3 rfl) rfl ?_
  refine n_icmp_eq (tgt := 36) hx hb (by have p0 := potc_le r 0; have p1 := potc_le r 1; have p2 := potc_le r 2; have p3 := potc_le r 3; omega) (by decide) (dk kX6_isOver_ok 4 rfl) (by decide) (fun h1 => ?_) (fun h1 => ?_)
  · skip
    refine lv_iconst (v := nI 1) hx hb (dk kX6_isOver_ok 20 rfl) rfl ?_
    refine lv_goto (tgt := 41) hx hb (dk kX6_isOver_ok 21 rfl) (by decide) ?_
    exact hret _ _ _ (by simp (config := { decide := true }) only [over, anyl, Nat.zero_add, (eq_true h1), decide_true, decide_false, not_true_eq_false, not_false_eq_true, and_true, true_and, and_false, false_and, or_true, true_or, or_false, false_or, and_self, or_self, if_true, if_false, Bool.false_eq_true, reduceIte]; first | done | rfl) (dk kX6_isOver_ok 23 rfl)
  · skip
    refine lv_aload_n hx hb (dk kX6_isOver_ok 5 rfl) rfl (lv_at hl 0 rfl) ?_
    refine lv_iconst (v := nI 1) hx hb (dk kX6_isOver_ok 6 rfl) rfl ?_
    refine cvR (As := [.int (nI 1)]) (rest := []) ⟨hx, hb, hml, hown, hts⟩ (tX6_pottedOf l D cI cQ cL ad N F k hk r ps sl sd ne fa bu hs st ln pt th hR (nI 1) 1 rfl (by omega)) (cwV9 1 hts mcX6_pottedOf (ac18 _ (List.mem_of_getElem? (i := 14) rfl)) miX6_pottedOf meX6_pottedOf mini_RX6 rfl rfl hdX6_pottedOf ⟨Nat.le_of_ble_eq_true rfl, Nat.le_of_ble_eq_true rfl⟩) hK hP hNW hk0 hR.1 rfl rfl hl.1 rfl (Nat.le_of_ble_eq_true rfl) (by decide) (dk kX6_isOver_ok 7 rfl) ?_
    refine lv_iconst (v := nI 4) hx hb (dk kX6_isOver_ok 8 rfl) rfl ?_
    refine n_icmp_eq (tgt := 36) hx hb (by have p0 := potc_le r 0; have p1 := potc_le r 1; have p2 := potc_le r 2; have p3 := potc_le r 3; omega) (by decide) (dk kX6_isOver_ok 9 rfl) (by decide) (fun h2 => ?_) (fun h2 => ?_)
    · skip
      refine lv_iconst (v := nI 1) hx hb (dk kX6_isOver_ok 20 rfl) rfl ?_
      refine lv_goto (tgt := 41) hx hb (dk kX6_isOver_ok 21 rfl) (by decide) ?_
      exact hret _ _ _ (by simp (config := { decide := true }) only [over, anyl, Nat.zero_add, (eq_false h1), (eq_true h2), decide_true, decide_false, not_true_eq_false, not_false_eq_true, and_true, true_and, and_false, false_and, or_true, true_or, or_false, false_or, and_self, or_self, if_true, if_false, Bool.false_eq_true, reduceIte]; first | done | rfl) (dk kX6_isOver_ok 23 rfl)
    · skip
      refine lv_aload_n hx hb (dk kX6_isOver_ok 10 rfl) rfl (lv_at hl 0 rfl) ?_
      refine lv_iconst (v := nI 2) hx hb (dk kX6_isOver_ok 11 rfl) rfl ?_
      refine cvR (As := [.int (nI 2)]) (rest := []) ⟨hx, hb, hml, hown, hts⟩ (tX6_pottedOf l D cI cQ cL ad N F k hk r ps sl sd ne fa bu hs st ln pt th hR (nI 2) 2 rfl (by omega)) (cwV9 1 hts mcX6_pottedOf (ac18 _ (List.mem_of_getElem? (i := 14) rfl)) miX6_pottedOf meX6_pottedOf mini_RX6 rfl rfl hdX6_pottedOf ⟨Nat.le_of_ble_eq_true rfl, Nat.le_of_ble_eq_true rfl⟩) hK hP hNW hk0 hR.1 rfl rfl hl.1 rfl (Nat.le_of_ble_eq_true rfl) (by decide) (dk kX6_isOver_ok 12 rfl) ?_
      refine lv_iconst (v := nI 4) hx hb (dk kX6_isOver_ok 13 rfl) rfl ?_
      refine n_icmp_eq (tgt := 36) hx hb (by have p0 := potc_le r 0; have p1 := potc_le r 1; have p2 := potc_le r 2; have p3 := potc_le r 3; omega) (by decide) (dk kX6_isOver_ok 14 rfl) (by decide) (fun h3 => ?_) (fun h3 => ?_)
      · skip
        refine lv_iconst (v := nI 1) hx hb (dk kX6_isOver_ok 20 rfl) rfl ?_
        refine lv_goto (tgt := 41) hx hb (dk kX6_isOver_ok 21 rfl) (by decide) ?_
        exact hret _ _ _ (by simp (config := { decide := true }) only [over, anyl, Nat.zero_add, (eq_false h1), (eq_false h2), (eq_true h3), decide_true, decide_false, not_true_eq_false, not_false_eq_true, and_true, true_and, and_false, false_and, or_true, true_or, or_false, false_or, and_self, or_self, if_true, if_false, Bool.false_eq_true, reduceIte]; first | done | rfl) (dk kX6_isOver_ok 23 rfl)
      · skip
        refine lv_aload_n hx hb (dk kX6_isOver_ok 15 rfl) rfl (lv_at hl 0 rfl) ?_
        refine lv_iconst (v := nI 3) hx hb (dk kX6_isOver_ok 16 rfl) rfl ?_
        refine cvR (As := [.int (nI 3)]) (rest := []) ⟨hx, hb, hml, hown, hts⟩ (tX6_pottedOf l D cI cQ cL ad N F k hk r ps sl sd ne fa bu hs st ln pt th hR (nI 3) 3 rfl (by omega)) (cwV9 1 hts mcX6_pottedOf (ac18 _ (List.mem_of_getElem? (i := 14) rfl)) miX6_pottedOf meX6_pottedOf mini_RX6 rfl rfl hdX6_pottedOf ⟨Nat.le_of_ble_eq_true rfl, Nat.le_of_ble_eq_true rfl⟩) hK hP hNW hk0 hR.1 rfl rfl hl.1 rfl (Nat.le_of_ble_eq_true rfl) (by decide) (dk kX6_isOver_ok 17 rfl) ?_
        refine lv_iconst (v := nI 4) hx hb (dk kX6_isOver_ok 18 rfl) rfl ?_
        refine n_icmp_ne (tgt := 40) hx hb (by have p0 := potc_le r 0; have p1 := potc_le r 1; have p2 := potc_le r 2; have p3 := potc_le r 3; omega) (by decide) (dk kX6_isOver_ok 19 rfl) (by decide) (fun h4 => ?_) (fun h4 => ?_)
        · skip
          refine lv_iconst (v := nI 0) hx hb (dk kX6_isOver_ok 22 rfl) rfl ?_
          exact hret _ _ _ (by simp (config := { decide := true }) only [over, anyl, Nat.zero_add, (eq_false h1), (eq_false h2), (eq_false h3), (eq_false h4), decide_true, decide_false, not_true_eq_false, not_false_eq_true, and_true, true_and, and_false, false_and, or_true, true_or, or_false, false_or, and_self, or_self, if_true, if_false, Bool.false_eq_true, reduceIte]; first | done | rfl) (dk kX6_isOver_ok 23 rfl)
        · skip
          refine lv_iconst (v := nI 1) hx hb (dk kX6_isOver_ok 20 rfl) rfl ?_
          refine lv_goto (tgt := 41) hx hb (dk kX6_isOver_ok 21 rfl) (by decide) ?_
          exact hret _ _ _ (by simp (config := { decide := true }) only [over, anyl, Nat.zero_add, (eq_false h1), (eq_false h2), (eq_false h3), (eq_true h4), decide_true, decide_false, not_true_eq_false, not_false_eq_true, and_true, true_and, and_false, false_and, or_true, true_or, or_false, false_or, and_self, or_self, if_true, if_false, Bool.false_eq_true, reduceIte]; first | done | rfl) (dk kX6_isOver_ok 23 rfl)
set_option maxRecDepth 100000 in
set_option maxHeartbeats 4000000 in
theorem tX6_pottedInAll (l : Launch) (D : va_G) (cI cQ cL : ClassId) (ad : Nat → Nat) (N : Nat) (F : Nat → va_E) (k : Nat) (hk : k + 7 < N) (r ps sl sd ne fa bu : Nat → Int32) (hs : Bool) (st ln pt : Nat) (th : Int32) (hR : rfAt cI ad F k r ps sl sd ne fa bu hs st ln pt th) : MR l yX6_pottedInAll (Cond.code yX6_pottedInAll cX6_pottedInAll 1 (some .int) :: AW) ({ frames := 2, cells := 0, slots := 0, locals := 44 } : Room) D cI cQ cL ad N F [.ref (ad k)] (.int (nI (potn r))) := by
  refine mr_i (ty := .int) (by decide +kernel) rfl rfl rfl rfl (Nat.le_of_ble_eq_true rfl) (fun p e s m below meth cd Q ls hx hb hml hown hts hP hK hNW hret hl => ?_)
  have hown : s.vm.findClass RX6 = some m.cls := hown
  have hk0 : k < N := by omega
  have hk1 : k + 1 < N := by omega
  have hk2 : k + 2 < N := by omega
  have hk3 : k + 3 < N := by omega
  have hk4 : k + 4 < N := by omega
  have hk5 : k + 5 < N := by omega
  have hk6 : k + 6 < N := by omega
  have hk7 : k + 7 < N := by omega
  have hl : lv_has ls 1 [(0, .ref (ad k))] := hl
  refine lv_aload_n hx hb (dk kX6_pottedInAll_ok 0 rfl) rfl (lv_at hl 0 rfl) ?_
  refine lv_iconst (v := nI 0) hx hb (dk kX6_pottedInAll_ok 1 rfl) rfl ?_
  refine cvR (As := [.int (nI 0)]) (rest := []) ⟨hx, hb, hml, hown, hts⟩ (tX6_pottedOf l D cI cQ cL ad N F k hk r ps sl sd ne fa bu hs st ln pt th hR (nI 0) 0 rfl (by omega)) (cwV9 1 hts mcX6_pottedOf (ac18 _ (List.mem_of_getElem? (i := 14) rfl)) miX6_pottedOf meX6_pottedOf mini_RX6 rfl rfl hdX6_pottedOf ⟨Nat.le_of_ble_eq_true rfl, Nat.le_of_ble_eq_true rfl⟩) hK hP hNW hk0 hR.1 rfl rfl hl.1 rfl (Nat.le_of_ble_eq_true rfl) (by decide) (dk kX6_pottedInAll_ok 2 rfl) ?_
  refine lv_aload_n hx hb (dk kX6_pottedInAll_ok 3 rfl) rfl (lv_at hl 0 rfl) ?_
  refine lv_iconst (v := nI 1) hx hb (dk kX6_pottedInAll_ok 4 rfl) rfl ?_
  refine cvR (As := [.int (nI 1)]) (rest := [.int (nI (potc r 0))]) ⟨hx, hb, hml, hown, hts⟩ (tX6_pottedOf l D cI cQ cL ad N F k hk r ps sl sd ne fa bu hs st ln pt th hR (nI 1) 1 rfl (by omega)) (cwV9 1 hts mcX6_pottedOf (ac18 _ (List.mem_of_getElem? (i := 14) rfl)) miX6_pottedOf meX6_pottedOf mini_RX6 rfl rfl hdX6_pottedOf ⟨Nat.le_of_ble_eq_true rfl, Nat.le_of_ble_eq_true rfl⟩) hK hP hNW hk0 hR.1 rfl rfl hl.1 rfl (Nat.le_of_ble_eq_true rfl) (by decide) (dk kX6_pottedInAll_ok 5 rfl) ?_
  refine n_iadd hx hb (dk kX6_pottedInAll_ok 6 rfl) ?_
  refine lv_aload_n hx hb (dk kX6_pottedInAll_ok 7 rfl) rfl (lv_at hl 0 rfl) ?_
  refine lv_iconst (v := nI 2) hx hb (dk kX6_pottedInAll_ok 8 rfl) rfl ?_
  refine cvR (As := [.int (nI 2)]) (rest := [.int (nI ((potc r 0) + (potc r 1)))]) ⟨hx, hb, hml, hown, hts⟩ (tX6_pottedOf l D cI cQ cL ad N F k hk r ps sl sd ne fa bu hs st ln pt th hR (nI 2) 2 rfl (by omega)) (cwV9 1 hts mcX6_pottedOf (ac18 _ (List.mem_of_getElem? (i := 14) rfl)) miX6_pottedOf meX6_pottedOf mini_RX6 rfl rfl hdX6_pottedOf ⟨Nat.le_of_ble_eq_true rfl, Nat.le_of_ble_eq_true rfl⟩) hK hP hNW hk0 hR.1 rfl rfl hl.1 rfl (Nat.le_of_ble_eq_true rfl) (by decide) (dk kX6_pottedInAll_ok 9 rfl) ?_
  refine n_iadd hx hb (dk kX6_pottedInAll_ok 10 rfl) ?_
  refine lv_aload_n hx hb (dk kX6_pottedInAll_ok 11 rfl) rfl (lv_at hl 0 rfl) ?_
  refine lv_iconst (v := nI 3) hx hb (dk kX6_pottedInAll_ok 12 rfl) rfl ?_
  refine cvR (As := [.int (nI 3)]) (rest := [.int (nI (((potc r 0) + (potc r 1)) + (potc r 2)))]) ⟨hx, hb, hml, hown, hts⟩ (tX6_pottedOf l D cI cQ cL ad N F k hk r ps sl sd ne fa bu hs st ln pt th hR (nI 3) 3 rfl (by omega)) (cwV9 1 hts mcX6_pottedOf (ac18 _ (List.mem_of_getElem? (i := 14) rfl)) miX6_pottedOf meX6_pottedOf mini_RX6 rfl rfl hdX6_pottedOf ⟨Nat.le_of_ble_eq_true rfl, Nat.le_of_ble_eq_true rfl⟩) hK hP hNW hk0 hR.1 rfl rfl hl.1 rfl (Nat.le_of_ble_eq_true rfl) (by decide) (dk kX6_pottedInAll_ok 13 rfl) ?_
  refine n_iadd hx hb (dk kX6_pottedInAll_ok 14 rfl) ?_
  exact hret _ _ _ (by simp only [potn, sm, Nat.zero_add]) (dk kX6_pottedInAll_ok 15 rfl)
set_option maxRecDepth 100000 in
set_option maxHeartbeats 4000000 in
theorem tX6_points (l : Launch) (D : va_G) (cI cQ cL : ClassId) (ad : Nat → Nat) (N : Nat) (F : Nat → va_E) (k : Nat) (hk : k + 7 < N) (r ps sl sd ne fa bu : Nat → Int32) (hs : Bool) (st ln pt : Nat) (th : Int32) (hR : rfAt cI ad F k r ps sl sd ne fa bu hs st ln pt th) (x : Int32) (w : Nat) (hxw : x = nI w) (hw : w < 4) : MR l yX6_points (Cond.code yX6_points cX6_points 4 (some .int) :: AW) ({ frames := 2, cells := 0, slots := 0, locals := 44 } : Room) D cI cQ cL ad N F [.ref (ad k), .int x] (.int (nI (rpt r w))) := by
  refine mr_i (ty := .int) (by decide +kernel) rfl rfl rfl rfl (Nat.le_of_ble_eq_true rfl) (fun p e s m below meth cd Q ls hx hb hml hown hts hP hK hNW hret hl => ?_)
  have hown : s.vm.findClass RX6 = some m.cls := hown
  subst hxw
  have hk0 : k < N := by omega
  have hk1 : k + 1 < N := by omega
  have hk2 : k + 2 < N := by omega
  have hk3 : k + 3 < N := by omega
  have hk4 : k + 4 < N := by omega
  have hk5 : k + 5 < N := by omega
  have hk6 : k + 6 < N := by omega
  have hk7 : k + 7 < N := by omega
  have hl : lv_has ls 4 [(0, .ref (ad k)), (1, .int (nI w))] := hl
  refine lv_iconst (v := nI 3) hx hb (dk kX6_points_ok 0 rfl) rfl ?_
  refine lv_aload_n hx hb (dk kX6_points_ok 1 rfl) rfl (lv_at hl 0 rfl) ?_
  refine lv_iload_n hx hb (dk kX6_points_ok 2 rfl) rfl (lv_at hl 1 rfl) ?_
  refine cvR (As := [.int (nI w)]) (rest := [.int (nI 3)]) ⟨hx, hb, hml, hown, hts⟩ (tX6_pottedOf l D cI cQ cL ad N F k hk r ps sl sd ne fa bu hs st ln pt th hR (nI w) w rfl (by omega)) (cwV9 1 hts mcX6_pottedOf (ac18 _ (List.mem_of_getElem? (i := 14) rfl)) miX6_pottedOf meX6_pottedOf mini_RX6 rfl rfl hdX6_pottedOf ⟨Nat.le_of_ble_eq_true rfl, Nat.le_of_ble_eq_true rfl⟩) hK hP hNW hk0 hR.1 rfl rfl hl.1 rfl (Nat.le_of_ble_eq_true rfl) (by decide) (dk kX6_points_ok 3 rfl) ?_
  refine n_imul hx hb (dk kX6_points_ok 4 rfl) ?_
  refine lv_istore_n (lv' := [(2, .int (nI (3 * (potc r w)))), (0, .ref (ad k)), (1, .int (nI w))]) hx hb (dk kX6_points_ok 5 rfl) rfl hl (by decide) rfl (fun ls hl => ?_)
  refine lv_iconst (v := nI 4) hx hb (dk kX6_points_ok 6 rfl) rfl ?_
  refine lv_iload_n hx hb (dk kX6_points_ok 7 rfl) rfl (lv_at hl 2 rfl) ?_
  refine n_imul hx hb (dk kX6_points_ok 8 rfl) ?_
  refine lv_istore_n (lv' := [(3, .int (nI (4 * w))), (2, .int (nI (3 * (potc r w)))), (0, .ref (ad k)), (1, .int (nI w))]) hx hb (dk kX6_points_ok 9 rfl) rfl hl (by decide) rfl (fun ls hl => ?_)
  have L12 : ∀ (fu : Nat) (i : Nat) (x2 : Int32), x2 = nI (3 * potc r w + cnt (rfr r w) i) → i ≤ 4 → 4 - i < fu → ∀ ls : Array Slot, lv_has ls 4 [(0, .ref (ad k)), (1, .int (nI w)), (2, .int x2), (3, .int (nI (4 * w + i)))] → W p l e ({ frames := 2, cells := 0, slots := 0, locals := 44 } : Room) s m ([.ref (ad k), .int (nI w)] : List Value).toArray below meth cd s.heap [] 0 0 Q (F0 m 12 ls []) := by
    intro fu
    induction fu with
    | zero => intros; omega
    | succ fu ih12 =>
      intro i x2 ex2 hi hm12 ls hl
      subst ex2
      refine lv_iload_n hx hb (dk kX6_points_ok 10 rfl) rfl (lv_at hl 3 rfl) ?_
      refine lv_iconst (v := nI 4) hx hb (dk kX6_points_ok 11 rfl) rfl ?_
      refine lv_iload_n hx hb (dk kX6_points_ok 12 rfl) rfl (lv_at hl 1 rfl) ?_
      refine n_imul hx hb (dk kX6_points_ok 13 rfl) ?_
      refine lv_iconst (v := nI 4) hx hb (dk kX6_points_ok 14 rfl) rfl ?_
      refine n_iadd hx hb (dk kX6_points_ok 15 rfl) ?_
      refine n_icmp_ge (tgt := 66) hx hb (by omega) (by omega) (dk kX6_points_ok 16 rfl) (by decide) (fun h1 => ?_) (fun h1 => ?_)
      · skip
        refine lv_iload_n hx hb (dk kX6_points_ok 42 rfl) rfl (lv_at hl 2 rfl) ?_
        exact hret _ _ _ (by rw [show i = 4 by omega] <;> rfl) (dk kX6_points_ok 43 rfl)
      · skip
        refine lv_iload_n hx hb (dk kX6_points_ok 17 rfl) rfl (lv_at hl 2 rfl) ?_
        refine lv_aload_n hx hb (dk kX6_points_ok 18 rfl) rfl (lv_at hl 0 rfl) ?_
        refine lv_iload_n hx hb (dk kX6_points_ok 19 rfl) rfl (lv_at hl 3 rfl) ?_
        refine cvR (As := [.int (nI (4 * w + i))]) (rest := [.int (nI (3 * potc r w + cnt (rfr r w) i))]) ⟨hx, hb, hml, hown, hts⟩ (tX6_isPotted l D cI cQ cL ad N F k hk r ps sl sd ne fa bu hs st ln pt th hR (nI (4 * w + i)) (4 * w + i) rfl (by omega)) (cwV9 1 hts mcX6_isPotted (ac18 _ (List.mem_of_getElem? (i := 6) rfl)) miX6_isPotted meX6_isPotted mini_RX6 rfl rfl hdX6_isPotted ⟨Nat.le_of_ble_eq_true rfl, Nat.le_of_ble_eq_true rfl⟩) hK hP hNW hk0 hR.1 rfl rfl hl.1 rfl (Nat.le_of_ble_eq_true rfl) (by decide) (dk kX6_points_ok 20 rfl) ?_
        refine b_if_ne (tgt := 57) hx hb (dk kX6_points_ok 21 rfl) (by decide) (fun h2 => ?_) (fun h2 => ?_)
        · skip
          refine lv_iconst (v := nI 0) hx hb (dk kX6_points_ok 37 rfl) rfl ?_
          refine n_iadd hx hb (dk kX6_points_ok 38 rfl) ?_
          refine lv_istore_n (lv' := [(2, .int (nI ((3 * potc r w + cnt (rfr r w) i) + 0))), (0, .ref (ad k)), (1, .int (nI w)), (3, .int (nI (4 * w + i)))]) hx hb (dk kX6_points_ok 39 rfl) rfl hl (by decide) rfl (fun ls hl => ?_)
          refine lv_iinc (v := nI ((4 * w + i) + 1)) (lv' := [(3, .int (nI ((4 * w + i) + 1))), (2, .int (nI ((3 * potc r w + cnt (rfr r w) i) + 0))), (0, .ref (ad k)), (1, .int (nI w))]) hx hb (dk kX6_points_ok 40 rfl) hl (k := 3) rfl (n_inc _) (by decide) rfl (fun ls hl => ?_)
          refine lv_goto (tgt := 12) hx hb (dk kX6_points_ok 41 rfl) (by decide) ?_
          exact ih12 (i + 1) _ (by simp only [cnt, rfr, (eq_true h1), (eq_false (Nat.not_le.mpr h1)), h2, decide_true, decide_false, not_true_eq_false, not_false_eq_true, and_true, true_and, and_false, false_and, or_true, true_or, or_false, false_or, and_self, or_self, if_true, if_false, Bool.false_eq_true, reduceIte, Bool.not_true, Bool.not_false, Bool.and_true, Bool.true_and, Bool.and_false, Bool.false_and, Bool.not_eq_true]; first | done | rfl | (simp [h1, h2]; done)) (by omega) (by omega) ls (lv_sub hl [2, 3, 1, 0] rfl)
        · skip
          refine lv_aload_n hx hb (dk kX6_points_ok 22 rfl) rfl (lv_at hl 0 rfl) ?_
          refine lv_iload_n hx hb (dk kX6_points_ok 23 rfl) rfl (lv_at hl 3 rfl) ?_
          refine cvR (As := [.int (nI (4 * w + i))]) (rest := [.int (nI (3 * potc r w + cnt (rfr r w) i))]) ⟨hx, hb, hml, hown, hts⟩ (tX6_isCovered l D cI cQ cL ad N F k hk r ps sl sd ne fa bu hs st ln pt th hR (nI (4 * w + i)) (4 * w + i) rfl (by omega)) (cwV9 1 hts mcX6_isCovered (ac18 _ (List.mem_of_getElem? (i := 18) rfl)) miX6_isCovered meX6_isCovered mini_RX6 rfl rfl hdX6_isCovered ⟨Nat.le_of_ble_eq_true rfl, Nat.le_of_ble_eq_true rfl⟩) hK hP hNW hk0 hR.1 rfl rfl hl.1 rfl (Nat.le_of_ble_eq_true rfl) (by decide) (dk kX6_points_ok 24 rfl) ?_
          refine b_if_ne (tgt := 57) hx hb (dk kX6_points_ok 25 rfl) (by decide) (fun h3 => ?_) (fun h3 => ?_)
          · skip
            refine lv_iconst (v := nI 0) hx hb (dk kX6_points_ok 37 rfl) rfl ?_
            refine n_iadd hx hb (dk kX6_points_ok 38 rfl) ?_
            refine lv_istore_n (lv' := [(2, .int (nI ((3 * potc r w + cnt (rfr r w) i) + 0))), (0, .ref (ad k)), (1, .int (nI w)), (3, .int (nI (4 * w + i)))]) hx hb (dk kX6_points_ok 39 rfl) rfl hl (by decide) rfl (fun ls hl => ?_)
            refine lv_iinc (v := nI ((4 * w + i) + 1)) (lv' := [(3, .int (nI ((4 * w + i) + 1))), (2, .int (nI ((3 * potc r w + cnt (rfr r w) i) + 0))), (0, .ref (ad k)), (1, .int (nI w))]) hx hb (dk kX6_points_ok 40 rfl) hl (k := 3) rfl (n_inc _) (by decide) rfl (fun ls hl => ?_)
            refine lv_goto (tgt := 12) hx hb (dk kX6_points_ok 41 rfl) (by decide) ?_
            exact ih12 (i + 1) _ (by simp only [cnt, rfr, (eq_true h1), (eq_false (Nat.not_le.mpr h1)), h2, h3, decide_true, decide_false, not_true_eq_false, not_false_eq_true, and_true, true_and, and_false, false_and, or_true, true_or, or_false, false_or, and_self, or_self, if_true, if_false, Bool.false_eq_true, reduceIte, Bool.not_true, Bool.not_false, Bool.and_true, Bool.true_and, Bool.and_false, Bool.false_and, Bool.not_eq_true]; first | done | rfl | (simp [h1, h2, h3]; done)) (by omega) (by omega) ls (lv_sub hl [2, 3, 1, 0] rfl)
          · skip
            refine lv_aload_n hx hb (dk kX6_points_ok 26 rfl) rfl (lv_at hl 0 rfl) ?_
            refine gf hx hb hts (fun w h => List.mem_cons_of_mem _ (acX6 w h)) hown hK hP hk0 hR.1 rfl 0 (by decide) (hts _ (List.mem_cons_of_mem _ (ac17 _ (List.mem_of_getElem? (i := 17) rfl)))) (fun _ h => h) rfl (dk kX6_points_ok 27 rfl) ?_
            refine lv_iconst (v := nI 0) hx hb (dk kX6_points_ok 28 rfl) rfl ?_
            refine lv_iload_n hx hb (dk kX6_points_ok 29 rfl) rfl (lv_at hl 3 rfl) ?_
            refine n_iadd0 hx hb (dk kX6_points_ok 30 rfl) ?_
            refine ald (j := (4 * w + i)) hx hb hK hP hk1 hR.2.1 rfl (by omega) (by decide) (dk kX6_points_ok 31 rfl) ?_
            refine lv_iload_n hx hb (dk kX6_points_ok 32 rfl) rfl (lv_at hl 1 rfl) ?_
            refine csP (As := [.int (nI w)]) (rest := [.int (r (4 * w + i)), .int (nI (3 * potc r w + cnt (rfr r w) i))]) ⟨hx, hb, hml, hown, hts⟩ (tX6_base l (nI w) w rfl (by omega)) (cwS9 1 hts mcX6_base (ac18 _ (List.mem_of_getElem? (i := 0) rfl)) msX6_base mini_RX6 rfl rfl hdX6_base ⟨Nat.le_of_ble_eq_true rfl, Nat.le_of_ble_eq_true rfl⟩) rfl hl.1 rfl (Nat.le_of_ble_eq_true rfl) (by decide) (dk kX6_points_ok 33 rfl) ?_
            refine lv_icmp_eq (tgt := 57) hx hb (dk kX6_points_ok 34 rfl) (by decide) (fun h4 => ?_) (fun h4 => ?_)
            · skip
              refine lv_iconst (v := nI 0) hx hb (dk kX6_points_ok 37 rfl) rfl ?_
              refine n_iadd hx hb (dk kX6_points_ok 38 rfl) ?_
              refine lv_istore_n (lv' := [(2, .int (nI ((3 * potc r w + cnt (rfr r w) i) + 0))), (0, .ref (ad k)), (1, .int (nI w)), (3, .int (nI (4 * w + i)))]) hx hb (dk kX6_points_ok 39 rfl) rfl hl (by decide) rfl (fun ls hl => ?_)
              refine lv_iinc (v := nI ((4 * w + i) + 1)) (lv' := [(3, .int (nI ((4 * w + i) + 1))), (2, .int (nI ((3 * potc r w + cnt (rfr r w) i) + 0))), (0, .ref (ad k)), (1, .int (nI w))]) hx hb (dk kX6_points_ok 40 rfl) hl (k := 3) rfl (n_inc _) (by decide) rfl (fun ls hl => ?_)
              refine lv_goto (tgt := 12) hx hb (dk kX6_points_ok 41 rfl) (by decide) ?_
              exact ih12 (i + 1) _ (by simp only [cnt, rfr, (eq_true h1), (eq_false (Nat.not_le.mpr h1)), h2, h3, (eq_true h4), decide_true, decide_false, not_true_eq_false, not_false_eq_true, and_true, true_and, and_false, false_and, or_true, true_or, or_false, false_or, and_self, or_self, if_true, if_false, Bool.false_eq_true, reduceIte, Bool.not_true, Bool.not_false, Bool.and_true, Bool.true_and, Bool.and_false, Bool.false_and, Bool.not_eq_true]; first | done | rfl | (simp [h1, h2, h3, h4]; done)) (by omega) (by omega) ls (lv_sub hl [2, 3, 1, 0] rfl)
            · skip
              refine lv_iconst (v := nI 1) hx hb (dk kX6_points_ok 35 rfl) rfl ?_
              refine lv_goto (tgt := 58) hx hb (dk kX6_points_ok 36 rfl) (by decide) ?_
              refine n_iadd hx hb (dk kX6_points_ok 38 rfl) ?_
              refine lv_istore_n (lv' := [(2, .int (nI ((3 * potc r w + cnt (rfr r w) i) + 1))), (0, .ref (ad k)), (1, .int (nI w)), (3, .int (nI (4 * w + i)))]) hx hb (dk kX6_points_ok 39 rfl) rfl hl (by decide) rfl (fun ls hl => ?_)
              refine lv_iinc (v := nI ((4 * w + i) + 1)) (lv' := [(3, .int (nI ((4 * w + i) + 1))), (2, .int (nI ((3 * potc r w + cnt (rfr r w) i) + 1))), (0, .ref (ad k)), (1, .int (nI w))]) hx hb (dk kX6_points_ok 40 rfl) hl (k := 3) rfl (n_inc _) (by decide) rfl (fun ls hl => ?_)
              refine lv_goto (tgt := 12) hx hb (dk kX6_points_ok 41 rfl) (by decide) ?_
              exact ih12 (i + 1) _ (by simp only [cnt, rfr, (eq_true h1), (eq_false (Nat.not_le.mpr h1)), h2, h3, (eq_false h4), decide_true, decide_false, not_true_eq_false, not_false_eq_true, and_true, true_and, and_false, false_and, or_true, true_or, or_false, false_or, and_self, or_self, if_true, if_false, Bool.false_eq_true, reduceIte, Bool.not_true, Bool.not_false, Bool.and_true, Bool.true_and, Bool.and_false, Bool.false_and, Bool.not_eq_true]; first | done | rfl | (simp [h1, h2, h3, h4]; done)) (by omega) (by omega) ls (lv_sub hl [2, 3, 1, 0] rfl)
  exact L12 _ 0 _ (by first | rfl | omega) (by first | rfl | omega) (Nat.lt_succ_self _) ls (lv_sub hl [2, 3, 1, 0] rfl)
set_option maxRecDepth 100000 in
set_option maxHeartbeats 4000000 in
theorem tX6_team (l : Launch) (D : va_G) (cI cQ cL : ClassId) (ad : Nat → Nat) (N : Nat) (F : Nat → va_E) (k : Nat) (hk : k + 7 < N) (r ps sl sd ne fa bu : Nat → Int32) (hs : Bool) (st ln pt : Nat) (th : Int32) (hR : rfAt cI ad F k r ps sl sd ne fa bu hs st ln pt th) (x : Int32) (w : Nat) (hxw : x = nI w) (hw : w < 2) : MR l yX6_team (Cond.code yX6_team cX6_team 2 (some .int) :: AW) ({ frames := 3, cells := 0, slots := 0, locals := 67 } : Room) D cI cQ cL ad N F [.ref (ad k), .int x] (.int (nI (rtm r w))) := by
  refine mr_i (ty := .int) (by decide +kernel) rfl rfl rfl rfl (Nat.le_of_ble_eq_true rfl) (fun p e s m below meth cd Q ls hx hb hml hown hts hP hK hNW hret hl => ?_)
  have hown : s.vm.findClass RX6 = some m.cls := hown
  subst hxw
  have hk0 : k < N := by omega
  have hk1 : k + 1 < N := by omega
  have hk2 : k + 2 < N := by omega
  have hk3 : k + 3 < N := by omega
  have hk4 : k + 4 < N := by omega
  have hk5 : k + 5 < N := by omega
  have hk6 : k + 6 < N := by omega
  have hk7 : k + 7 < N := by omega
  have hl : lv_has ls 2 [(0, .ref (ad k)), (1, .int (nI w))] := hl
  refine lv_aload_n hx hb (dk kX6_team_ok 0 rfl) rfl (lv_at hl 0 rfl) ?_
  refine lv_iload_n hx hb (dk kX6_team_ok 1 rfl) rfl (lv_at hl 1 rfl) ?_
  refine cvR (As := [.int (nI w)]) (rest := []) ⟨hx, hb, hml, hown, hts⟩ (tX6_points l D cI cQ cL ad N F k hk r ps sl sd ne fa bu hs st ln pt th hR (nI w) w rfl (by omega)) (cwV9 1 hts mcX6_points (ac18 _ (List.mem_of_getElem? (i := 22) rfl)) miX6_points meX6_points mini_RX6 rfl rfl hdX6_points ⟨Nat.le_of_ble_eq_true rfl, Nat.le_of_ble_eq_true rfl⟩) hK hP hNW hk0 hR.1 rfl rfl hl.1 rfl (Nat.le_of_ble_eq_true rfl) (by decide) (dk kX6_team_ok 2 rfl) ?_
  refine lv_aload_n hx hb (dk kX6_team_ok 3 rfl) rfl (lv_at hl 0 rfl) ?_
  refine lv_iload_n hx hb (dk kX6_team_ok 4 rfl) rfl (lv_at hl 1 rfl) ?_
  refine lv_iconst (v := nI 2) hx hb (dk kX6_team_ok 5 rfl) rfl ?_
  refine n_iadd hx hb (dk kX6_team_ok 6 rfl) ?_
  refine cvR (As := [.int (nI (w + 2))]) (rest := [.int (nI (rpt r w))]) ⟨hx, hb, hml, hown, hts⟩ (tX6_points l D cI cQ cL ad N F k hk r ps sl sd ne fa bu hs st ln pt th hR (nI (w + 2)) (w + 2) rfl (by omega)) (cwV9 1 hts mcX6_points (ac18 _ (List.mem_of_getElem? (i := 22) rfl)) miX6_points meX6_points mini_RX6 rfl rfl hdX6_points ⟨Nat.le_of_ble_eq_true rfl, Nat.le_of_ble_eq_true rfl⟩) hK hP hNW hk0 hR.1 rfl rfl hl.1 rfl (Nat.le_of_ble_eq_true rfl) (by decide) (dk kX6_team_ok 7 rfl) ?_
  refine n_iadd hx hb (dk kX6_team_ok 8 rfl) ?_
  exact hret _ _ _ (by rfl) (dk kX6_team_ok 9 rfl)
set_option maxRecDepth 100000 in
set_option maxHeartbeats 4000000 in
theorem tX6_whyNot (l : Launch) (D : va_G) (cI cQ cL : ClassId) (ad : Nat → Nat) (N : Nat) (F : Nat → va_E) (k : Nat) (hk : k + 7 < N) (r ps sl sd ne fa bu : Nat → Int32) (hs : Bool) (st ln pt : Nat) (th : Int32) (hR : rfAt cI ad F k r ps sl sd ne fa bu hs st ln pt th) (x : Int32) (w : Nat) (hxw : x = nI w) (hw : w < 16) : MR l yX6_whyNot (Cond.code yX6_whyNot cX6_whyNot 2 (some .int) :: AW) ({ frames := 3, cells := 0, slots := 0, locals := 64 } : Room) D cI cQ cL ad N F [.ref (ad k), .int x] (.int (nI (rwn r w))) := by
  refine mr_i (ty := .int) (by decide +kernel) rfl rfl rfl rfl (Nat.le_of_ble_eq_true rfl) (fun p e s m below meth cd Q ls hx hb hml hown hts hP hK hNW hret hl => ?_)
  have hown : s.vm.findClass RX6 = some m.cls := hown
  subst hxw
  have hk0 : k < N := by omega
  have hk1 : k + 1 < N := by omega
  have hk2 : k + 2 < N := by omega
  have hk3 : k + 3 < N := by omega
  have hk4 : k + 4 < N := by omega
  have hk5 : k + 5 < N := by omega
  have hk6 : k + 6 < N := by omega
  have hk7 : k + 7 < N := by omega
  have hl : lv_has ls 2 [(0, .ref (ad k)), (1, .int (nI w))] := hl
  refine lv_aload_n hx hb (dk kX6_whyNot_ok 0 rfl) rfl (lv_at hl 0 rfl) ?_
  refine cvR (As := []) (rest := []) ⟨hx, hb, hml, hown, hts⟩ (tX6_isOver l D cI cQ cL ad N F k hk r ps sl sd ne fa bu hs st ln pt th hR) (cwV9 0 hts mcX6_isOver (ac19 _ (List.mem_of_getElem? (i := 2) rfl)) miX6_isOver meX6_isOver mini_RX6 rfl rfl hdX6_isOver ⟨Nat.le_of_ble_eq_true rfl, Nat.le_of_ble_eq_true rfl⟩) hK hP hNW hk0 hR.1 rfl rfl hl.1 rfl (Nat.le_of_ble_eq_true rfl) (by decide) (dk kX6_whyNot_ok 1 rfl) ?_
  refine b_if_eq (tgt := 9) hx hb (dk kX6_whyNot_ok 2 rfl) (by decide) (fun h1 => ?_) (fun h1 => ?_)
  · skip
    refine lv_aload_n hx hb (dk kX6_whyNot_ok 5 rfl) rfl (lv_at hl 0 rfl) ?_
    refine gf hx hb hts (fun w h => List.mem_cons_of_mem _ (acX6 w h)) hown hK hP hk0 hR.1 rfl 0 (by decide) (hts _ (List.mem_cons_of_mem _ (ac17 _ (List.mem_of_getElem? (i := 17) rfl)))) (fun _ h => h) rfl (dk kX6_whyNot_ok 6 rfl) ?_
    refine lv_bipush (v := nI 56) hx hb (dk kX6_whyNot_ok 7 rfl) rfl ?_
    refine ald (j := 56) hx hb hK hP hk1 hR.2.1 rfl (by omega) (by decide) (dk kX6_whyNot_ok 8 rfl) ?_
    refine lv_iload_n hx hb (dk kX6_whyNot_ok 9 rfl) rfl (lv_at hl 1 rfl) ?_
    refine lv_iconst (v := nI 4) hx hb (dk kX6_whyNot_ok 10 rfl) rfl ?_
    refine n_idiv hx hb (by omega) (by decide) (by decide) (dk kX6_whyNot_ok 11 rfl) ?_
    refine lv_icmp_eq (tgt := 24) hx hb (dk kX6_whyNot_ok 12 rfl) (by decide) (fun h2 => ?_) (fun h2 => ?_)
    · skip
      refine lv_aload_n hx hb (dk kX6_whyNot_ok 15 rfl) rfl (lv_at hl 0 rfl) ?_
      refine lv_iload_n hx hb (dk kX6_whyNot_ok 16 rfl) rfl (lv_at hl 1 rfl) ?_
      refine cvR (As := [.int (nI w)]) (rest := []) ⟨hx, hb, hml, hown, hts⟩ (tX6_isPotted l D cI cQ cL ad N F k hk r ps sl sd ne fa bu hs st ln pt th hR (nI w) w rfl (by omega)) (cwV9 1 hts mcX6_isPotted (ac18 _ (List.mem_of_getElem? (i := 6) rfl)) miX6_isPotted meX6_isPotted mini_RX6 rfl rfl hdX6_isPotted ⟨Nat.le_of_ble_eq_true rfl, Nat.le_of_ble_eq_true rfl⟩) hK hP hNW hk0 hR.1 rfl rfl hl.1 rfl (Nat.le_of_ble_eq_true rfl) (by decide) (dk kX6_whyNot_ok 17 rfl) ?_
      refine b_if_eq (tgt := 36) hx hb (dk kX6_whyNot_ok 18 rfl) (by decide) (fun h3 => ?_) (fun h3 => ?_)
      · skip
        refine lv_aload_n hx hb (dk kX6_whyNot_ok 21 rfl) rfl (lv_at hl 0 rfl) ?_
        refine lv_iload_n hx hb (dk kX6_whyNot_ok 22 rfl) rfl (lv_at hl 1 rfl) ?_
        refine cvR (As := [.int (nI w)]) (rest := []) ⟨hx, hb, hml, hown, hts⟩ (tX6_isCovered l D cI cQ cL ad N F k hk r ps sl sd ne fa bu hs st ln pt th hR (nI w) w rfl (by omega)) (cwV9 1 hts mcX6_isCovered (ac18 _ (List.mem_of_getElem? (i := 18) rfl)) miX6_isCovered meX6_isCovered mini_RX6 rfl rfl hdX6_isCovered ⟨Nat.le_of_ble_eq_true rfl, Nat.le_of_ble_eq_true rfl⟩) hK hP hNW hk0 hR.1 rfl rfl hl.1 rfl (Nat.le_of_ble_eq_true rfl) (by decide) (dk kX6_whyNot_ok 23 rfl) ?_
        refine b_if_eq (tgt := 48) hx hb (dk kX6_whyNot_ok 24 rfl) (by decide) (fun h4 => ?_) (fun h4 => ?_)
        · skip
          refine lv_iconst (v := nI 0) hx hb (dk kX6_whyNot_ok 27 rfl) rfl ?_
          exact hret _ _ _ (by simp only [rwn, h1, (eq_true h2), h3, h4, not_true_eq_false, not_false_eq_true, and_true, true_and, and_false, false_and, or_true, true_or, or_false, false_or, and_self, or_self, if_true, if_false, Bool.false_eq_true, reduceIte]) (dk kX6_whyNot_ok 28 rfl)
        · skip
          refine lv_iconst (v := nI 4) hx hb (dk kX6_whyNot_ok 25 rfl) rfl ?_
          refine lv_goto (tgt := 49) hx hb (dk kX6_whyNot_ok 26 rfl) (by decide) ?_
          exact hret _ _ _ (by simp only [rwn, h1, (eq_true h2), h3, h4, not_true_eq_false, not_false_eq_true, and_true, true_and, and_false, false_and, or_true, true_or, or_false, false_or, and_self, or_self, if_true, if_false, Bool.false_eq_true, reduceIte]) (dk kX6_whyNot_ok 28 rfl)
      · skip
        refine lv_iconst (v := nI 3) hx hb (dk kX6_whyNot_ok 19 rfl) rfl ?_
        refine lv_goto (tgt := 49) hx hb (dk kX6_whyNot_ok 20 rfl) (by decide) ?_
        exact hret _ _ _ (by simp only [rwn, h1, (eq_true h2), h3, not_true_eq_false, not_false_eq_true, and_true, true_and, and_false, false_and, or_true, true_or, or_false, false_or, and_self, or_self, if_true, if_false, Bool.false_eq_true, reduceIte]) (dk kX6_whyNot_ok 28 rfl)
    · skip
      refine lv_iconst (v := nI 2) hx hb (dk kX6_whyNot_ok 13 rfl) rfl ?_
      exact hret _ _ _ (by simp only [rwn, h1, (eq_false h2), not_true_eq_false, not_false_eq_true, and_true, true_and, and_false, false_and, or_true, true_or, or_false, false_or, and_self, or_self, if_true, if_false, Bool.false_eq_true, reduceIte]) (dk kX6_whyNot_ok 14 rfl)
  · skip
    refine lv_iconst (v := nI 1) hx hb (dk kX6_whyNot_ok 3 rfl) rfl ?_
    exact hret _ _ _ (by simp only [rwn, h1, not_true_eq_false, not_false_eq_true, and_true, true_and, and_false, false_and, or_true, true_or, or_false, false_or, and_self, or_self, if_true, if_false, Bool.false_eq_true, reduceIte]) (dk kX6_whyNot_ok 4 rfl)
set_option maxRecDepth 100000 in
set_option maxHeartbeats 4000000 in
theorem tX6_whyNotLifted (l : Launch) (D : va_G) (cI cQ cL : ClassId) (ad : Nat → Nat) (N : Nat) (F : Nat → va_E) (k : Nat) (hk : k + 7 < N) (r ps sl sd ne fa bu : Nat → Int32) (hs : Bool) (st ln pt : Nat) (th : Int32) (hR : rfAt cI ad F k r ps sl sd ne fa bu hs st ln pt th) (x : Int32) (q : Nat) (hxq : x = nI q) (hq : q < 169) (y : Int32) (n : Nat) (hyn : y = nI n) (hn : 1 ≤ n ∧ n < 2 ^ 31) (z : Int32) (d : Nat) (hzd : z = nI d) (hd : d < 8) : MR l yX6_whyNotLifted (Cond.code yX6_whyNotLifted cX6_whyNotLifted 5 (some .int) :: AW) ({ frames := 3, cells := 0, slots := 0, locals := 64 } : Room) D cI cQ cL ad N F [.ref (ad k), .int x, .int y, .int z] (.int (nI (rwl r q n d))) := by
  refine mr_i (ty := .int) (by decide +kernel) rfl rfl rfl rfl (Nat.le_of_ble_eq_true rfl) (fun p e s m below meth cd Q ls hx hb hml hown hts hP hK hNW hret hl => ?_)
  have hown : s.vm.findClass RX6 = some m.cls := hown
  subst hxq
  subst hyn
  subst hzd
  have hh16 := hgt_le r (nI q)
  have hk0 : k < N := by omega
  have hk1 : k + 1 < N := by omega
  have hk2 : k + 2 < N := by omega
  have hk3 : k + 3 < N := by omega
  have hk4 : k + 4 < N := by omega
  have hk5 : k + 5 < N := by omega
  have hk6 : k + 6 < N := by omega
  have hk7 : k + 7 < N := by omega
  have hl : lv_has ls 5 [(0, .ref (ad k)), (1, .int (nI q)), (2, .int (nI n)), (3, .int (nI d))] := hl
  refine lv_aload_n hx hb (dk kX6_whyNotLifted_ok 0 rfl) rfl (lv_at hl 0 rfl) ?_
  refine cvR (As := []) (rest := []) ⟨hx, hb, hml, hown, hts⟩ (tX6_isOver l D cI cQ cL ad N F k hk r ps sl sd ne fa bu hs st ln pt th hR) (cwV9 0 hts mcX6_isOver (ac19 _ (List.mem_of_getElem? (i := 2) rfl)) miX6_isOver meX6_isOver mini_RX6 rfl rfl hdX6_isOver ⟨Nat.le_of_ble_eq_true rfl, Nat.le_of_ble_eq_true rfl⟩) hK hP hNW hk0 hR.1 rfl rfl hl.1 rfl (Nat.le_of_ble_eq_true rfl) (by decide) (dk kX6_whyNotLifted_ok 1 rfl) ?_
  refine b_if_eq (tgt := 9) hx hb (dk kX6_whyNotLifted_ok 2 rfl) (by decide) (fun h1 => ?_) (fun h1 => ?_)
  · skip
    refine lv_aload_n hx hb (dk kX6_whyNotLifted_ok 5 rfl) rfl (lv_at hl 0 rfl) ?_
    refine lv_iload_n hx hb (dk kX6_whyNotLifted_ok 6 rfl) rfl (lv_at hl 1 rfl) ?_
    refine cvR (As := [.int (nI q)]) (rest := []) ⟨hx, hb, hml, hown, hts⟩ (tX6_lying l D cI cQ cL ad N F k hk r ps sl sd ne fa bu hs st ln pt th hR (nI q)) (cwV9 1 hts mcX6_lying (ac18 _ (List.mem_of_getElem? (i := 10) rfl)) miX6_lying meX6_lying mini_RX6 rfl rfl hdX6_lying ⟨Nat.le_of_ble_eq_true rfl, Nat.le_of_ble_eq_true rfl⟩) hK hP hNW hk0 hR.1 rfl rfl hl.1 rfl (Nat.le_of_ble_eq_true rfl) (by decide) (dk kX6_whyNotLifted_ok 7 rfl) ?_
    refine lv_istore (lv' := [(4, .int (nI (hgt r (nI q)))), (0, .ref (ad k)), (1, .int (nI q)), (2, .int (nI n)), (3, .int (nI d))]) hx hb (dk kX6_whyNotLifted_ok 8 rfl) hl (by decide) rfl (fun ls hl => ?_)
    refine lv_iload hx hb (dk kX6_whyNotLifted_ok 9 rfl) (lv_at hl 0 rfl) ?_
    refine lv_iload_n hx hb (dk kX6_whyNotLifted_ok 10 rfl) rfl (lv_at hl 3 rfl) ?_
    refine n_icmp_ge (tgt := 24) hx hb (by omega) (by omega) (dk kX6_whyNotLifted_ok 11 rfl) (by decide) (fun h2 => ?_) (fun h2 => ?_)
    · skip
      refine lv_aload_n hx hb (dk kX6_whyNotLifted_ok 14 rfl) rfl (lv_at hl 1 rfl) ?_
      refine lv_iload_n hx hb (dk kX6_whyNotLifted_ok 15 rfl) rfl (lv_at hl 2 rfl) ?_
      refine lv_iload hx hb (dk kX6_whyNotLifted_ok 16 rfl) (lv_at hl 0 rfl) ?_
      refine lv_iconst (v := nI 1) hx hb (dk kX6_whyNotLifted_ok 17 rfl) rfl ?_
      refine n_isub hx hb (by omega) (dk kX6_whyNotLifted_ok 18 rfl) ?_
      refine cvR (As := [.int (nI q), .int (nI ((hgt r (nI q)) - 1))]) (rest := []) ⟨hx, hb, hml, hown, hts⟩ (tX6_winkAt l D cI cQ cL ad N F k hk r ps sl sd ne fa bu hs st ln pt th hR (nI q) (nI ((hgt r (nI q)) - 1))) (cwV9 2 hts mcX6_winkAt (ac20 _ (List.mem_of_getElem? (i := 8) rfl)) miX6_winkAt meX6_winkAt mini_RX6 rfl rfl hdX6_winkAt ⟨Nat.le_of_ble_eq_true rfl, Nat.le_of_ble_eq_true rfl⟩) hK hP hNW hk0 hR.1 rfl rfl hl.1 rfl (Nat.le_of_ble_eq_true rfl) (by decide) (dk kX6_whyNotLifted_ok 19 rfl) ?_
      refine lv_iconst (v := nI 4) hx hb (dk kX6_whyNotLifted_ok 20 rfl) rfl ?_
      refine lv_idiv hx hb (dk kX6_whyNotLifted_ok 21 rfl) (by decide) ?_
      refine lv_aload_n hx hb (dk kX6_whyNotLifted_ok 22 rfl) rfl (lv_at hl 1 rfl) ?_
      refine gf hx hb hts (fun w h => List.mem_cons_of_mem _ (acX6 w h)) hown hK hP hk0 hR.1 rfl 0 (by decide) (hts _ (List.mem_cons_of_mem _ (ac17 _ (List.mem_of_getElem? (i := 17) rfl)))) (fun _ h => h) rfl (dk kX6_whyNotLifted_ok 23 rfl) ?_
      refine lv_bipush (v := nI 56) hx hb (dk kX6_whyNotLifted_ok 24 rfl) rfl ?_
      refine ald (j := 56) hx hb hK hP hk1 hR.2.1 rfl (by omega) (by decide) (dk kX6_whyNotLifted_ok 25 rfl) ?_
      refine lv_icmp_eq (tgt := 47) hx hb (dk kX6_whyNotLifted_ok 26 rfl) (by decide) (fun h3 => ?_) (fun h3 => ?_)
      · skip
        refine lv_iload_n hx hb (dk kX6_whyNotLifted_ok 29 rfl) rfl (lv_at hl 3 rfl) ?_
        refine lv_aload_n hx hb (dk kX6_whyNotLifted_ok 30 rfl) rfl (lv_at hl 1 rfl) ?_
        refine gf hx hb hts (fun w h => List.mem_cons_of_mem _ (acX6 w h)) hown hK hP hk0 hR.1 rfl 0 (by decide) (hts _ (List.mem_cons_of_mem _ (ac17 _ (List.mem_of_getElem? (i := 17) rfl)))) (fun _ h => h) rfl (dk kX6_whyNotLifted_ok 31 rfl) ?_
        refine lv_bipush (v := nI 57) hx hb (dk kX6_whyNotLifted_ok 32 rfl) rfl ?_
        refine ald (j := 57) hx hb hK hP hk1 hR.2.1 rfl (by omega) (by decide) (dk kX6_whyNotLifted_ok 33 rfl) ?_
        refine lv_icmp_le (tgt := 62) hx hb (dk kX6_whyNotLifted_ok 34 rfl) (by decide) (fun h4 => ?_) (fun h4 => ?_)
        · skip
          refine lv_iload_n hx hb (dk kX6_whyNotLifted_ok 37 rfl) rfl (lv_at hl 2 rfl) ?_
          refine lv_iload_n hx hb (dk kX6_whyNotLifted_ok 38 rfl) rfl (lv_at hl 4 rfl) ?_
          refine csP (As := [.int (nI q), .int (nI d)]) (rest := []) ⟨hx, hb, hml, hown, hts⟩ (tX6_beside l (nI q) q rfl (by omega) (nI d) d rfl (by omega)) (cwS9 2 hts mcX6_beside (ac20 _ (List.mem_of_getElem? (i := 12) rfl)) msX6_beside mini_RX6 rfl rfl hdX6_beside ⟨Nat.le_of_ble_eq_true rfl, Nat.le_of_ble_eq_true rfl⟩) rfl hl.1 rfl (Nat.le_of_ble_eq_true rfl) (by decide) (dk kX6_whyNotLifted_ok 39 rfl) ?_
          refine lv_iconst (v := -1) hx hb (dk kX6_whyNotLifted_ok 40 rfl) rfl ?_
          refine lv_icmp_ne (tgt := 75) hx hb (dk kX6_whyNotLifted_ok 41 rfl) (by decide) (fun h5 => ?_) (fun h5 => ?_)
          · skip
            refine lv_iconst (v := nI 0) hx hb (dk kX6_whyNotLifted_ok 44 rfl) rfl ?_
            exact hret _ _ _ (by simp only [rwl, h1, (eq_true h2), (eq_false (Nat.not_lt.mpr h2)), (eq_true h3), (eq_true h4), (eq_false h5), not_true_eq_false, not_false_eq_true, and_true, true_and, and_false, false_and, or_true, true_or, or_false, false_or, and_self, or_self, if_true, if_false, Bool.false_eq_true, reduceIte]) (dk kX6_whyNotLifted_ok 45 rfl)
          · skip
            refine lv_iconst (v := nI 5) hx hb (dk kX6_whyNotLifted_ok 42 rfl) rfl ?_
            refine lv_goto (tgt := 76) hx hb (dk kX6_whyNotLifted_ok 43 rfl) (by decide) ?_
            exact hret _ _ _ (by simp only [rwl, h1, (eq_true h2), (eq_false (Nat.not_lt.mpr h2)), (eq_true h3), (eq_true h4), (eq_true h5), not_true_eq_false, not_false_eq_true, and_true, true_and, and_false, false_and, or_true, true_or, or_false, false_or, and_self, or_self, if_true, if_false, Bool.false_eq_true, reduceIte]) (dk kX6_whyNotLifted_ok 45 rfl)
        · skip
          refine lv_iconst (v := nI 4) hx hb (dk kX6_whyNotLifted_ok 35 rfl) rfl ?_
          refine lv_goto (tgt := 76) hx hb (dk kX6_whyNotLifted_ok 36 rfl) (by decide) ?_
          exact hret _ _ _ (by simp only [rwl, h1, (eq_true h2), (eq_false (Nat.not_lt.mpr h2)), (eq_true h3), (eq_false h4), not_true_eq_false, not_false_eq_true, and_true, true_and, and_false, false_and, or_true, true_or, or_false, false_or, and_self, or_self, if_true, if_false, Bool.false_eq_true, reduceIte]) (dk kX6_whyNotLifted_ok 45 rfl)
      · skip
        refine lv_iconst (v := nI 3) hx hb (dk kX6_whyNotLifted_ok 27 rfl) rfl ?_
        exact hret _ _ _ (by simp only [rwl, h1, (eq_true h2), (eq_false (Nat.not_lt.mpr h2)), (eq_false h3), not_true_eq_false, not_false_eq_true, and_true, true_and, and_false, false_and, or_true, true_or, or_false, false_or, and_self, or_self, if_true, if_false, Bool.false_eq_true, reduceIte]) (dk kX6_whyNotLifted_ok 28 rfl)
    · skip
      refine lv_iconst (v := nI 2) hx hb (dk kX6_whyNotLifted_ok 12 rfl) rfl ?_
      exact hret _ _ _ (by simp only [rwl, h1, (eq_true h2), (eq_false (Nat.not_le.mpr h2)), not_true_eq_false, not_false_eq_true, and_true, true_and, and_false, false_and, or_true, true_or, or_false, false_or, and_self, or_self, if_true, if_false, Bool.false_eq_true, reduceIte]) (dk kX6_whyNotLifted_ok 13 rfl)
  · skip
    refine lv_iconst (v := nI 1) hx hb (dk kX6_whyNotLifted_ok 3 rfl) rfl ?_
    exact hret _ _ _ (by simp only [rwl, h1, not_true_eq_false, not_false_eq_true, and_true, true_and, and_false, false_and, or_true, true_or, or_false, false_or, and_self, or_self, if_true, if_false, Bool.false_eq_true, reduceIte]) (dk kX6_whyNotLifted_ok 4 rfl)
set_option maxRecDepth 100000 in
set_option maxHeartbeats 4000000 in
theorem tX6_coveredOf (l : Launch) (D : va_G) (cI cQ cL : ClassId) (ad : Nat → Nat) (N : Nat) (F : Nat → va_E) (k : Nat) (hk : k + 7 < N) (r ps sl sd ne fa bu : Nat → Int32) (hs : Bool) (st ln pt : Nat) (th : Int32) (hR : rfAt cI ad F k r ps sl sd ne fa bu hs st ln pt th) (x : Int32) (w : Nat) (hxw : x = nI w) (hw : w < 4) : MR l yX6_coveredOf (Cond.code yX6_coveredOf cX6_coveredOf 4 (some .int) :: AW) ({ frames := 2, cells := 0, slots := 0, locals := 44 } : Room) D cI cQ cL ad N F [.ref (ad k), .int x] (.int (nI (rcc r w))) := by
  refine mr_i (ty := .int) (by decide +kernel) rfl rfl rfl rfl (Nat.le_of_ble_eq_true rfl) (fun p e s m below meth cd Q ls hx hb hml hown hts hP hK hNW hret hl => ?_)
  have hown : s.vm.findClass RX6 = some m.cls := hown
  subst hxw
  have hk0 : k < N := by omega
  have hk1 : k + 1 < N := by omega
  have hk2 : k + 2 < N := by omega
  have hk3 : k + 3 < N := by omega
  have hk4 : k + 4 < N := by omega
  have hk5 : k + 5 < N := by omega
  have hk6 : k + 6 < N := by omega
  have hk7 : k + 7 < N := by omega
  have hl : lv_has ls 4 [(0, .ref (ad k)), (1, .int (nI w))] := hl
  refine lv_iconst (v := nI 0) hx hb (dk kX6_coveredOf_ok 0 rfl) rfl ?_
  refine lv_istore_n (lv' := [(2, .int (nI 0)), (0, .ref (ad k)), (1, .int (nI w))]) hx hb (dk kX6_coveredOf_ok 1 rfl) rfl hl (by decide) rfl (fun ls hl => ?_)
  refine lv_iconst (v := nI 4) hx hb (dk kX6_coveredOf_ok 2 rfl) rfl ?_
  refine lv_iload_n hx hb (dk kX6_coveredOf_ok 3 rfl) rfl (lv_at hl 2 rfl) ?_
  refine n_imul hx hb (dk kX6_coveredOf_ok 4 rfl) ?_
  refine lv_istore_n (lv' := [(3, .int (nI (4 * w))), (2, .int (nI 0)), (0, .ref (ad k)), (1, .int (nI w))]) hx hb (dk kX6_coveredOf_ok 5 rfl) rfl hl (by decide) rfl (fun ls hl => ?_)
  have L6 : ∀ (fu : Nat) (i : Nat) (x2 : Int32), x2 = nI (cnt (fun i => rcv r (4 * w + i)) i) → i ≤ 4 → 4 - i < fu → ∀ ls : Array Slot, lv_has ls 4 [(0, .ref (ad k)), (1, .int (nI w)), (2, .int x2), (3, .int (nI (4 * w + i)))] → W p l e ({ frames := 2, cells := 0, slots := 0, locals := 44 } : Room) s m ([.ref (ad k), .int (nI w)] : List Value).toArray below meth cd s.heap [] 0 0 Q (F0 m 6 ls []) := by
    intro fu
    induction fu with
    | zero => intros; omega
    | succ fu ih6 =>
      intro i x2 ex2 hi hm6 ls hl
      subst ex2
      refine lv_iload_n hx hb (dk kX6_coveredOf_ok 6 rfl) rfl (lv_at hl 3 rfl) ?_
      refine lv_iconst (v := nI 4) hx hb (dk kX6_coveredOf_ok 7 rfl) rfl ?_
      refine lv_iload_n hx hb (dk kX6_coveredOf_ok 8 rfl) rfl (lv_at hl 1 rfl) ?_
      refine n_imul hx hb (dk kX6_coveredOf_ok 9 rfl) ?_
      refine lv_iconst (v := nI 4) hx hb (dk kX6_coveredOf_ok 10 rfl) rfl ?_
      refine n_iadd hx hb (dk kX6_coveredOf_ok 11 rfl) ?_
      refine n_icmp_ge (tgt := 37) hx hb (by omega) (by omega) (dk kX6_coveredOf_ok 12 rfl) (by decide) (fun h1 => ?_) (fun h1 => ?_)
      · skip
        refine lv_iload_n hx hb (dk kX6_coveredOf_ok 25 rfl) rfl (lv_at hl 2 rfl) ?_
        exact hret _ _ _ (by rw [show i = 4 by omega] <;> rfl) (dk kX6_coveredOf_ok 26 rfl)
      · skip
        refine lv_iload_n hx hb (dk kX6_coveredOf_ok 13 rfl) rfl (lv_at hl 2 rfl) ?_
        refine lv_aload_n hx hb (dk kX6_coveredOf_ok 14 rfl) rfl (lv_at hl 0 rfl) ?_
        refine lv_iload_n hx hb (dk kX6_coveredOf_ok 15 rfl) rfl (lv_at hl 3 rfl) ?_
        refine cvR (As := [.int (nI (4 * w + i))]) (rest := [.int (nI (cnt (fun i => rcv r (4 * w + i)) i))]) ⟨hx, hb, hml, hown, hts⟩ (tX6_isCovered l D cI cQ cL ad N F k hk r ps sl sd ne fa bu hs st ln pt th hR (nI (4 * w + i)) (4 * w + i) rfl (by omega)) (cwV9 1 hts mcX6_isCovered (ac18 _ (List.mem_of_getElem? (i := 18) rfl)) miX6_isCovered meX6_isCovered mini_RX6 rfl rfl hdX6_isCovered ⟨Nat.le_of_ble_eq_true rfl, Nat.le_of_ble_eq_true rfl⟩) hK hP hNW hk0 hR.1 rfl rfl hl.1 rfl (Nat.le_of_ble_eq_true rfl) (by decide) (dk kX6_coveredOf_ok 16 rfl) ?_
        refine b_if_eq (tgt := 28) hx hb (dk kX6_coveredOf_ok 17 rfl) (by decide) (fun h2 => ?_) (fun h2 => ?_)
        · skip
          refine lv_iconst (v := nI 0) hx hb (dk kX6_coveredOf_ok 20 rfl) rfl ?_
          refine n_iadd hx hb (dk kX6_coveredOf_ok 21 rfl) ?_
          refine lv_istore_n (lv' := [(2, .int (nI ((cnt (fun i => rcv r (4 * w + i)) i) + 0))), (0, .ref (ad k)), (1, .int (nI w)), (3, .int (nI (4 * w + i)))]) hx hb (dk kX6_coveredOf_ok 22 rfl) rfl hl (by decide) rfl (fun ls hl => ?_)
          refine lv_iinc (v := nI ((4 * w + i) + 1)) (lv' := [(3, .int (nI ((4 * w + i) + 1))), (2, .int (nI ((cnt (fun i => rcv r (4 * w + i)) i) + 0))), (0, .ref (ad k)), (1, .int (nI w))]) hx hb (dk kX6_coveredOf_ok 23 rfl) hl (k := 3) rfl (n_inc _) (by decide) rfl (fun ls hl => ?_)
          refine lv_goto (tgt := 6) hx hb (dk kX6_coveredOf_ok 24 rfl) (by decide) ?_
          exact ih6 (i + 1) _ (by simp [cnt, h1, h2]) (by omega) (by omega) ls (lv_sub hl [2, 3, 1, 0] rfl)
        · skip
          refine lv_iconst (v := nI 1) hx hb (dk kX6_coveredOf_ok 18 rfl) rfl ?_
          refine lv_goto (tgt := 29) hx hb (dk kX6_coveredOf_ok 19 rfl) (by decide) ?_
          refine n_iadd hx hb (dk kX6_coveredOf_ok 21 rfl) ?_
          refine lv_istore_n (lv' := [(2, .int (nI ((cnt (fun i => rcv r (4 * w + i)) i) + 1))), (0, .ref (ad k)), (1, .int (nI w)), (3, .int (nI (4 * w + i)))]) hx hb (dk kX6_coveredOf_ok 22 rfl) rfl hl (by decide) rfl (fun ls hl => ?_)
          refine lv_iinc (v := nI ((4 * w + i) + 1)) (lv' := [(3, .int (nI ((4 * w + i) + 1))), (2, .int (nI ((cnt (fun i => rcv r (4 * w + i)) i) + 1))), (0, .ref (ad k)), (1, .int (nI w))]) hx hb (dk kX6_coveredOf_ok 23 rfl) hl (k := 3) rfl (n_inc _) (by decide) rfl (fun ls hl => ?_)
          refine lv_goto (tgt := 6) hx hb (dk kX6_coveredOf_ok 24 rfl) (by decide) ?_
          exact ih6 (i + 1) _ (by simp [cnt, h1, h2]) (by omega) (by omega) ls (lv_sub hl [2, 3, 1, 0] rfl)
  exact L6 _ 0 _ (by first | rfl | omega) (by first | rfl | omega) (Nat.lt_succ_self _) ls (lv_sub hl [2, 3, 1, 0] rfl)
set_option maxRecDepth 100000 in
set_option maxHeartbeats 4000000 in
theorem tX6_covered (l : Launch) (D : va_G) (cI cQ cL : ClassId) (ad : Nat → Nat) (N : Nat) (F : Nat → va_E) (k : Nat) (hk : k + 7 < N) (r ps sl sd ne fa bu : Nat → Int32) (hs : Bool) (st ln pt : Nat) (th : Int32) (hR : rfAt cI ad F k r ps sl sd ne fa bu hs st ln pt th) : MR l yX6_covered (Cond.code yX6_covered cX6_covered 1 (some .int) :: AW) ({ frames := 3, cells := 0, slots := 0, locals := 67 } : Room) D cI cQ cL ad N F [.ref (ad k)] (.int (nI (rcs r))) := by
  refine mr_i (ty := .int) (by decide +kernel) rfl rfl rfl rfl (Nat.le_of_ble_eq_true rfl) (fun p e s m below meth cd Q ls hx hb hml hown hts hP hK hNW hret hl => ?_)
  have hown : s.vm.findClass RX6 = some m.cls := hown
  have hk0 : k < N := by omega
  have hk1 : k + 1 < N := by omega
  have hk2 : k + 2 < N := by omega
  have hk3 : k + 3 < N := by omega
  have hk4 : k + 4 < N := by omega
  have hk5 : k + 5 < N := by omega
  have hk6 : k + 6 < N := by omega
  have hk7 : k + 7 < N := by omega
  have hl : lv_has ls 1 [(0, .ref (ad k))] := hl
  refine lv_aload_n hx hb (dk kX6_covered_ok 0 rfl) rfl (lv_at hl 0 rfl) ?_
  refine lv_iconst (v := nI 0) hx hb (dk kX6_covered_ok 1 rfl) rfl ?_
  refine cvR (As := [.int (nI 0)]) (rest := []) ⟨hx, hb, hml, hown, hts⟩ (tX6_coveredOf l D cI cQ cL ad N F k hk r ps sl sd ne fa bu hs st ln pt th hR (nI 0) 0 rfl (by omega)) (cwV9 1 hts mcX6_coveredOf (ac23 _ (List.mem_of_getElem? (i := 2) rfl)) miX6_coveredOf meX6_coveredOf mini_RX6 rfl rfl hdX6_coveredOf ⟨Nat.le_of_ble_eq_true rfl, Nat.le_of_ble_eq_true rfl⟩) hK hP hNW hk0 hR.1 rfl rfl hl.1 rfl (Nat.le_of_ble_eq_true rfl) (by decide) (dk kX6_covered_ok 2 rfl) ?_
  refine lv_aload_n hx hb (dk kX6_covered_ok 3 rfl) rfl (lv_at hl 0 rfl) ?_
  refine lv_iconst (v := nI 1) hx hb (dk kX6_covered_ok 4 rfl) rfl ?_
  refine cvR (As := [.int (nI 1)]) (rest := [.int (nI (rcc r 0))]) ⟨hx, hb, hml, hown, hts⟩ (tX6_coveredOf l D cI cQ cL ad N F k hk r ps sl sd ne fa bu hs st ln pt th hR (nI 1) 1 rfl (by omega)) (cwV9 1 hts mcX6_coveredOf (ac23 _ (List.mem_of_getElem? (i := 2) rfl)) miX6_coveredOf meX6_coveredOf mini_RX6 rfl rfl hdX6_coveredOf ⟨Nat.le_of_ble_eq_true rfl, Nat.le_of_ble_eq_true rfl⟩) hK hP hNW hk0 hR.1 rfl rfl hl.1 rfl (Nat.le_of_ble_eq_true rfl) (by decide) (dk kX6_covered_ok 5 rfl) ?_
  refine n_iadd hx hb (dk kX6_covered_ok 6 rfl) ?_
  refine lv_aload_n hx hb (dk kX6_covered_ok 7 rfl) rfl (lv_at hl 0 rfl) ?_
  refine lv_iconst (v := nI 2) hx hb (dk kX6_covered_ok 8 rfl) rfl ?_
  refine cvR (As := [.int (nI 2)]) (rest := [.int (nI ((rcc r 0) + (rcc r 1)))]) ⟨hx, hb, hml, hown, hts⟩ (tX6_coveredOf l D cI cQ cL ad N F k hk r ps sl sd ne fa bu hs st ln pt th hR (nI 2) 2 rfl (by omega)) (cwV9 1 hts mcX6_coveredOf (ac23 _ (List.mem_of_getElem? (i := 2) rfl)) miX6_coveredOf meX6_coveredOf mini_RX6 rfl rfl hdX6_coveredOf ⟨Nat.le_of_ble_eq_true rfl, Nat.le_of_ble_eq_true rfl⟩) hK hP hNW hk0 hR.1 rfl rfl hl.1 rfl (Nat.le_of_ble_eq_true rfl) (by decide) (dk kX6_covered_ok 9 rfl) ?_
  refine n_iadd hx hb (dk kX6_covered_ok 10 rfl) ?_
  refine lv_aload_n hx hb (dk kX6_covered_ok 11 rfl) rfl (lv_at hl 0 rfl) ?_
  refine lv_iconst (v := nI 3) hx hb (dk kX6_covered_ok 12 rfl) rfl ?_
  refine cvR (As := [.int (nI 3)]) (rest := [.int (nI (((rcc r 0) + (rcc r 1)) + (rcc r 2)))]) ⟨hx, hb, hml, hown, hts⟩ (tX6_coveredOf l D cI cQ cL ad N F k hk r ps sl sd ne fa bu hs st ln pt th hR (nI 3) 3 rfl (by omega)) (cwV9 1 hts mcX6_coveredOf (ac23 _ (List.mem_of_getElem? (i := 2) rfl)) miX6_coveredOf meX6_coveredOf mini_RX6 rfl rfl hdX6_coveredOf ⟨Nat.le_of_ble_eq_true rfl, Nat.le_of_ble_eq_true rfl⟩) hK hP hNW hk0 hR.1 rfl rfl hl.1 rfl (Nat.le_of_ble_eq_true rfl) (by decide) (dk kX6_covered_ok 13 rfl) ?_
  refine n_iadd hx hb (dk kX6_covered_ok 14 rfl) ?_
  exact hret _ _ _ (by rfl) (dk kX6_covered_ok 15 rfl)
set_option maxRecDepth 100000 in
set_option maxHeartbeats 4000000 in
theorem tX6_colours (l : Launch) (D : va_G) (cI cQ cL : ClassId) (ad : Nat → Nat) (N : Nat) (F : Nat → va_E) (k : Nat) (hk : k + 7 < N) (r ps sl sd ne fa bu : Nat → Int32) (hs : Bool) (st ln pt : Nat) (th : Int32) (hR : rfAt cI ad F k r ps sl sd ne fa bu hs st ln pt th) (q : Int32) : MR l yX6_colours (Cond.code yX6_colours cX6_colours 4 (some .int) :: AW) ({ frames := 0, cells := 0, slots := 0, locals := 0 } : Room) D cI cQ cL ad N F [.ref (ad k), .int q] (.int (msk (fun i => decide (r i = q)) 16)) := by
  refine mr_i (ty := .int) (by decide +kernel) rfl rfl rfl rfl (Nat.le_of_ble_eq_true rfl) (fun p e s m below meth cd Q ls hx hb hml hown hts hP hK hNW hret hl => ?_)
  have hown : s.vm.findClass RX6 = some m.cls := hown
  have hk0 : k < N := by omega
  have hk1 : k + 1 < N := by omega
  have hk2 : k + 2 < N := by omega
  have hk3 : k + 3 < N := by omega
  have hk4 : k + 4 < N := by omega
  have hk5 : k + 5 < N := by omega
  have hk6 : k + 6 < N := by omega
  have hk7 : k + 7 < N := by omega
  have hl : lv_has ls 4 [(0, .ref (ad k)), (1, .int q)] := hl
  refine lv_iconst (v := nI 0) hx hb (dk kX6_colours_ok 0 rfl) rfl ?_
  refine lv_istore_n (lv' := [(2, .int (nI 0)), (0, .ref (ad k)), (1, .int q)]) hx hb (dk kX6_colours_ok 1 rfl) rfl hl (by decide) rfl (fun ls hl => ?_)
  refine lv_iconst (v := nI 0) hx hb (dk kX6_colours_ok 2 rfl) rfl ?_
  refine lv_istore_n (lv' := [(3, .int (nI 0)), (2, .int (nI 0)), (0, .ref (ad k)), (1, .int q)]) hx hb (dk kX6_colours_ok 3 rfl) rfl hl (by decide) rfl (fun ls hl => ?_)
  have L4 : ∀ (fu : Nat) (i : Nat) (x2 : Int32), x2 = msk (fun i => decide (r i = q)) i → i ≤ 16 → 16 - i < fu → ∀ ls : Array Slot, lv_has ls 4 [(0, .ref (ad k)), (1, .int q), (2, .int x2), (3, .int (nI i))] → W p l e ({ frames := 0, cells := 0, slots := 0, locals := 0 } : Room) s m ([.ref (ad k), .int q] : List Value).toArray below meth cd s.heap [] 0 0 Q (F0 m 4 ls []) := by
    intro fu
    induction fu with
    | zero => intros; omega
    | succ fu ih4 =>
      intro i x2 ex2 hi hm4 ls hl
      subst ex2
      refine lv_iload_n hx hb (dk kX6_colours_ok 4 rfl) rfl (lv_at hl 3 rfl) ?_
      refine lv_bipush (v := nI 16) hx hb (dk kX6_colours_ok 5 rfl) rfl ?_
      refine n_icmp_ge (tgt := 40) hx hb (by omega) (by decide) (dk kX6_colours_ok 6 rfl) (by decide) (fun h1 => ?_) (fun h1 => ?_)
      · skip
        refine lv_iload_n hx hb (dk kX6_colours_ok 27 rfl) rfl (lv_at hl 2 rfl) ?_
        exact hret _ _ _ (by rw [show i = 16 by omega] <;> rfl) (dk kX6_colours_ok 28 rfl)
      · skip
        refine lv_iload_n hx hb (dk kX6_colours_ok 7 rfl) rfl (lv_at hl 2 rfl) ?_
        refine lv_aload_n hx hb (dk kX6_colours_ok 8 rfl) rfl (lv_at hl 0 rfl) ?_
        refine gf hx hb hts (fun w h => List.mem_cons_of_mem _ (acX6 w h)) hown hK hP hk0 hR.1 rfl 0 (by decide) (hts _ (List.mem_cons_of_mem _ (ac17 _ (List.mem_of_getElem? (i := 17) rfl)))) (fun _ h => h) rfl (dk kX6_colours_ok 9 rfl) ?_
        refine lv_iconst (v := nI 0) hx hb (dk kX6_colours_ok 10 rfl) rfl ?_
        refine lv_iload_n hx hb (dk kX6_colours_ok 11 rfl) rfl (lv_at hl 3 rfl) ?_
        refine n_iadd0 hx hb (dk kX6_colours_ok 12 rfl) ?_
        refine ald (j := i) hx hb hK hP hk1 hR.2.1 rfl (by omega) (by decide) (dk kX6_colours_ok 13 rfl) ?_
        refine lv_iload_n hx hb (dk kX6_colours_ok 14 rfl) rfl (lv_at hl 1 rfl) ?_
        refine lv_icmp_ne (tgt := 31) hx hb (dk kX6_colours_ok 15 rfl) (by decide) (fun h2 => ?_) (fun h2 => ?_)
        · skip
          refine lv_iconst (v := nI 0) hx hb (dk kX6_colours_ok 22 rfl) rfl ?_
          refine lv_ior hx hb (dk kX6_colours_ok 23 rfl) ?_
          refine lv_istore_n (lv' := [(2, .int ((msk (fun i => decide (r i = q)) i) ||| (nI 0))), (0, .ref (ad k)), (1, .int q), (3, .int (nI i))]) hx hb (dk kX6_colours_ok 24 rfl) rfl hl (by decide) rfl (fun ls hl => ?_)
          refine lv_iinc (v := nI (i + 1)) (lv' := [(3, .int (nI (i + 1))), (2, .int ((msk (fun i => decide (r i = q)) i) ||| (nI 0))), (0, .ref (ad k)), (1, .int q)]) hx hb (dk kX6_colours_ok 25 rfl) hl (k := 3) rfl (n_inc _) (by decide) rfl (fun ls hl => ?_)
          refine lv_goto (tgt := 4) hx hb (dk kX6_colours_ok 26 rfl) (by decide) ?_
          exact ih4 (i + 1) _ (by first | (simp [msk, h1, h2]; done) | (simp only [msk, (eq_true h1), (eq_false (Nat.not_le.mpr h1)), (eq_false h2), decide_true, decide_false, not_true_eq_false, not_false_eq_true, and_true, true_and, and_false, false_and, or_true, true_or, or_false, false_or, and_self, or_self, if_true, if_false, Bool.false_eq_true, reduceIte]; exact or0 _)) (by omega) (by omega) ls (lv_sub hl [2, 3, 1, 0] rfl)
        · skip
          refine lv_iconst (v := nI 1) hx hb (dk kX6_colours_ok 16 rfl) rfl ?_
          refine lv_iload_n hx hb (dk kX6_colours_ok 17 rfl) rfl (lv_at hl 3 rfl) ?_
          refine lv_iconst (v := nI 4) hx hb (dk kX6_colours_ok 18 rfl) rfl ?_
          refine n_idiv hx hb (by omega) (by decide) (by decide) (dk kX6_colours_ok 19 rfl) ?_
          refine lv_ishl hx hb (dk kX6_colours_ok 20 rfl) ?_
          refine lv_goto (tgt := 32) hx hb (dk kX6_colours_ok 21 rfl) (by decide) ?_
          refine lv_ior hx hb (dk kX6_colours_ok 23 rfl) ?_
          refine lv_istore_n (lv' := [(2, .int ((msk (fun i => decide (r i = q)) i) ||| ((nI 1) <<< ((nI (i / 4)) &&& 31)))), (0, .ref (ad k)), (1, .int q), (3, .int (nI i))]) hx hb (dk kX6_colours_ok 24 rfl) rfl hl (by decide) rfl (fun ls hl => ?_)
          refine lv_iinc (v := nI (i + 1)) (lv' := [(3, .int (nI (i + 1))), (2, .int ((msk (fun i => decide (r i = q)) i) ||| ((nI 1) <<< ((nI (i / 4)) &&& 31)))), (0, .ref (ad k)), (1, .int q)]) hx hb (dk kX6_colours_ok 25 rfl) hl (k := 3) rfl (n_inc _) (by decide) rfl (fun ls hl => ?_)
          refine lv_goto (tgt := 4) hx hb (dk kX6_colours_ok 26 rfl) (by decide) ?_
          exact ih4 (i + 1) _ (by first | (simp [msk, h1, h2]; done) | (simp only [msk, (eq_true h1), (eq_false (Nat.not_le.mpr h1)), (eq_true h2), decide_true, decide_false, not_true_eq_false, not_false_eq_true, and_true, true_and, and_false, false_and, or_true, true_or, or_false, false_or, and_self, or_self, if_true, if_false, Bool.false_eq_true, reduceIte]; exact or0 _)) (by omega) (by omega) ls (lv_sub hl [2, 3, 1, 0] rfl)
  exact L4 _ 0 _ (by first | rfl | omega) (by first | rfl | omega) (Nat.lt_succ_self _) ls (lv_sub hl [2, 3, 1, 0] rfl)
set_option maxRecDepth 100000 in
set_option maxHeartbeats 4000000 in
theorem tX6_below (l : Launch) (D : va_G) (cI cQ cL : ClassId) (ad : Nat → Nat) (N : Nat) (F : Nat → va_E) (k : Nat) (hk : k + 7 < N) (r ps sl sd ne fa bu : Nat → Int32) (hs : Bool) (st ln pt : Nat) (th : Int32) (hR : rfAt cI ad F k r ps sl sd ne fa bu hs st ln pt th) (x : Int32) (w : Nat) (hxw : x = nI w) (hw : w < 4) : MR l yX6_below (Cond.code yX6_below cX6_below 6 (some .int) :: AW) ({ frames := 1, cells := 0, slots := 0, locals := 21 } : Room) D cI cQ cL ad N F [.ref (ad k), .int x] (.int (nI (rbl r w))) := by
  refine mr_i (ty := .int) (by decide +kernel) rfl rfl rfl rfl (Nat.le_of_ble_eq_true rfl) (fun p e s m below meth cd Q ls hx hb hml hown hts hP hK hNW hret hl => ?_)
  have hown : s.vm.findClass RX6 = some m.cls := hown
  subst hxw
  have hk0 : k < N := by omega
  have hk1 : k + 1 < N := by omega
  have hk2 : k + 2 < N := by omega
  have hk3 : k + 3 < N := by omega
  have hk4 : k + 4 < N := by omega
  have hk5 : k + 5 < N := by omega
  have hk6 : k + 6 < N := by omega
  have hk7 : k + 7 < N := by omega
  have hl : lv_has ls 6 [(0, .ref (ad k)), (1, .int (nI w))] := hl
  refine lv_iconst (v := nI 0) hx hb (dk kX6_below_0_ok 0 rfl) rfl ?_
  refine lv_istore_n (lv' := [(2, .int (nI 0)), (0, .ref (ad k)), (1, .int (nI w))]) hx hb (dk kX6_below_0_ok 1 rfl) rfl hl (by decide) rfl (fun ls hl => ?_)
  refine lv_iconst (v := nI 0) hx hb (dk kX6_below_0_ok 2 rfl) rfl ?_
  refine lv_istore_n (lv' := [(3, .int (nI 0)), (2, .int (nI 0)), (0, .ref (ad k)), (1, .int (nI w))]) hx hb (dk kX6_below_0_ok 3 rfl) rfl hl (by decide) rfl (fun ls hl => ?_)
  have L4 : ∀ (fu : Nat) (i : Nat) (x2 : Int32), x2 = nI (cnt (fun v => rbo r w v 4 && !(decide (v / 4 = w))) i) → i ≤ 16 → 16 - i < fu → ∀ ls : Array Slot, lv_has ls 6 [(0, .ref (ad k)), (1, .int (nI w)), (2, .int x2), (3, .int (nI i))] → W p l e ({ frames := 1, cells := 0, slots := 0, locals := 21 } : Room) s m ([.ref (ad k), .int (nI w)] : List Value).toArray below meth cd s.heap [] 0 0 Q (F0 m 4 ls []) := by
    intro fu
    induction fu with
    | zero => intros; omega
    | succ fu ih4 =>
      intro i x2 ex2 hi hm4 ls hl
      subst ex2
      refine lv_iload_n hx hb (dk kX6_below_0_ok 4 rfl) rfl (lv_at hl 3 rfl) ?_
      refine lv_bipush (v := nI 16) hx hb (dk kX6_below_0_ok 5 rfl) rfl ?_
      refine n_icmp_ge (tgt := 122) hx hb (by omega) (by decide) (dk kX6_below_0_ok 6 rfl) (by decide) (fun h1 => ?_) (fun h1 => ?_)
      · skip
        refine lv_iload_n hx hb (dk kX6_below_1_ok 13 rfl) rfl (lv_at hl 2 rfl) ?_
        exact hret _ _ _ (by rw [show i = 16 by omega] <;> rfl) (dk kX6_below_1_ok 14 rfl)
      · skip
        refine lv_iconst (v := nI 0) hx hb (dk kX6_below_0_ok 7 rfl) rfl ?_
        refine lv_istore (lv' := [(4, .int (nI 0)), (0, .ref (ad k)), (1, .int (nI w)), (2, .int (nI (cnt (fun v => rbo r w v 4 && !(decide (v / 4 = w))) i))), (3, .int (nI i))]) hx hb (dk kX6_below_0_ok 8 rfl) hl (by decide) rfl (fun ls hl => ?_)
        refine lv_iconst (v := nI 4) hx hb (dk kX6_below_0_ok 9 rfl) rfl ?_
        refine lv_iload_n hx hb (dk kX6_below_0_ok 10 rfl) rfl (lv_at hl 2 rfl) ?_
        refine n_imul hx hb (dk kX6_below_0_ok 11 rfl) ?_
        refine lv_istore (lv' := [(5, .int (nI (4 * w))), (4, .int (nI 0)), (0, .ref (ad k)), (1, .int (nI w)), (2, .int (nI (cnt (fun v => rbo r w v 4 && !(decide (v / 4 = w))) i))), (3, .int (nI i))]) hx hb (dk kX6_below_0_ok 12 rfl) hl (by decide) rfl (fun ls hl => ?_)
        have L18 : ∀ (fu : Nat) (o : Nat) (x4 : Int32), x4 = bI (rbo r w i o) → o ≤ 4 → 4 - o < fu → ∀ ls : Array Slot, lv_has ls 6 [(0, .ref (ad k)), (1, .int (nI w)), (2, .int (nI (cnt (fun v => rbo r w v 4 && !(decide (v / 4 = w))) i))), (3, .int (nI i)), (4, .int x4), (5, .int (nI (4 * w + o)))] → W p l e ({ frames := 1, cells := 0, slots := 0, locals := 21 } : Room) s m ([.ref (ad k), .int (nI w)] : List Value).toArray below meth cd s.heap [] 0 0 Q (F0 m 18 ls []) := by
          intro fu
          induction fu with
          | zero => intros; omega
          | succ fu ih18 =>
            intro o x4 ex4 ho hm18 ls hl
            subst ex4
            refine lv_iload hx hb (dk kX6_below_0_ok 13 rfl) (lv_at hl 5 rfl) ?_
            refine lv_iconst (v := nI 4) hx hb (dk kX6_below_0_ok 14 rfl) rfl ?_
            refine lv_iload_n hx hb (dk kX6_below_0_ok 15 rfl) rfl (lv_at hl 1 rfl) ?_
            refine n_imul hx hb (dk kX6_below_0_ok 16 rfl) ?_
            refine lv_iconst (v := nI 4) hx hb (dk kX6_below_0_ok 17 rfl) rfl ?_
            refine n_iadd hx hb (dk kX6_below_0_ok 18 rfl) ?_
            refine n_icmp_ge (tgt := 96) hx hb (by omega) (by omega) (dk kX6_below_0_ok 19 rfl) (by decide) (fun h2 => ?_) (fun h2 => ?_)
            · skip
              refine lv_iload_n hx hb (dk kX6_below_0_ok 58 rfl) rfl (lv_at hl 2 rfl) ?_
              refine lv_iload hx hb (dk kX6_below_0_ok 59 rfl) (lv_at hl 4 rfl) ?_
              refine b_if_eq (tgt := 113) hx hb (dk kX6_below_1_ok 0 rfl) (by decide) (fun h3 => ?_) (fun h3 => ?_)
              · skip
                refine lv_iconst (v := nI 0) hx hb (dk kX6_below_1_ok 8 rfl) rfl ?_
                refine n_iadd hx hb (dk kX6_below_1_ok 9 rfl) ?_
                refine lv_istore_n (lv' := [(2, .int (nI ((cnt (fun v => rbo r w v 4 && !(decide (v / 4 = w))) i) + 0))), (0, .ref (ad k)), (1, .int (nI w)), (3, .int (nI i)), (4, .int (bI (rbo r w i o))), (5, .int (nI (4 * w + o)))]) hx hb (dk kX6_below_1_ok 10 rfl) rfl hl (by decide) rfl (fun ls hl => ?_)
                refine lv_iinc (v := nI (i + 1)) (lv' := [(3, .int (nI (i + 1))), (2, .int (nI ((cnt (fun v => rbo r w v 4 && !(decide (v / 4 = w))) i) + 0))), (0, .ref (ad k)), (1, .int (nI w)), (4, .int (bI (rbo r w i o))), (5, .int (nI (4 * w + o)))]) hx hb (dk kX6_below_1_ok 11 rfl) hl (k := 3) rfl (n_inc _) (by decide) rfl (fun ls hl => ?_)
                refine lv_goto (tgt := 4) hx hb (dk kX6_below_1_ok 12 rfl) (by decide) ?_
                exact ih4 (i + 1) _ (by obtain rfl : o = 4 := (by omega); simp [cnt, h1, h2, h3]) (by omega) (by omega) ls (lv_sub hl [2, 3, 1, 0] rfl)
              · skip
                refine lv_iload_n hx hb (dk kX6_below_1_ok 1 rfl) rfl (lv_at hl 3 rfl) ?_
                refine lv_iconst (v := nI 4) hx hb (dk kX6_below_1_ok 2 rfl) rfl ?_
                refine n_idiv hx hb (by omega) (by decide) (by decide) (dk kX6_below_1_ok 3 rfl) ?_
                refine lv_iload_n hx hb (dk kX6_below_1_ok 4 rfl) rfl (lv_at hl 1 rfl) ?_
                refine n_icmp_eq (tgt := 113) hx hb (by omega) (by omega) (dk kX6_below_1_ok 5 rfl) (by decide) (fun h4 => ?_) (fun h4 => ?_)
                · skip
                  refine lv_iconst (v := nI 0) hx hb (dk kX6_below_1_ok 8 rfl) rfl ?_
                  refine n_iadd hx hb (dk kX6_below_1_ok 9 rfl) ?_
                  refine lv_istore_n (lv' := [(2, .int (nI ((cnt (fun v => rbo r w v 4 && !(decide (v / 4 = w))) i) + 0))), (0, .ref (ad k)), (1, .int (nI w)), (3, .int (nI i)), (4, .int (bI (rbo r w i o))), (5, .int (nI (4 * w + o)))]) hx hb (dk kX6_below_1_ok 10 rfl) rfl hl (by decide) rfl (fun ls hl => ?_)
                  refine lv_iinc (v := nI (i + 1)) (lv' := [(3, .int (nI (i + 1))), (2, .int (nI ((cnt (fun v => rbo r w v 4 && !(decide (v / 4 = w))) i) + 0))), (0, .ref (ad k)), (1, .int (nI w)), (4, .int (bI (rbo r w i o))), (5, .int (nI (4 * w + o)))]) hx hb (dk kX6_below_1_ok 11 rfl) hl (k := 3) rfl (n_inc _) (by decide) rfl (fun ls hl => ?_)
                  refine lv_goto (tgt := 4) hx hb (dk kX6_below_1_ok 12 rfl) (by decide) ?_
                  exact ih4 (i + 1) _ (by obtain rfl : o = 4 := (by omega); simp [cnt, h1, h2, h3, h4]) (by omega) (by omega) ls (lv_sub hl [2, 3, 1, 0] rfl)
                · skip
                  refine lv_iconst (v := nI 1) hx hb (dk kX6_below_1_ok 6 rfl) rfl ?_
                  refine lv_goto (tgt := 114) hx hb (dk kX6_below_1_ok 7 rfl) (by decide) ?_
                  refine n_iadd hx hb (dk kX6_below_1_ok 9 rfl) ?_
                  refine lv_istore_n (lv' := [(2, .int (nI ((cnt (fun v => rbo r w v 4 && !(decide (v / 4 = w))) i) + 1))), (0, .ref (ad k)), (1, .int (nI w)), (3, .int (nI i)), (4, .int (bI (rbo r w i o))), (5, .int (nI (4 * w + o)))]) hx hb (dk kX6_below_1_ok 10 rfl) rfl hl (by decide) rfl (fun ls hl => ?_)
                  refine lv_iinc (v := nI (i + 1)) (lv' := [(3, .int (nI (i + 1))), (2, .int (nI ((cnt (fun v => rbo r w v 4 && !(decide (v / 4 = w))) i) + 1))), (0, .ref (ad k)), (1, .int (nI w)), (4, .int (bI (rbo r w i o))), (5, .int (nI (4 * w + o)))]) hx hb (dk kX6_below_1_ok 11 rfl) hl (k := 3) rfl (n_inc _) (by decide) rfl (fun ls hl => ?_)
                  refine lv_goto (tgt := 4) hx hb (dk kX6_below_1_ok 12 rfl) (by decide) ?_
                  exact ih4 (i + 1) _ (by obtain rfl : o = 4 := (by omega); simp [cnt, h1, h2, h3, h4]) (by omega) (by omega) ls (lv_sub hl [2, 3, 1, 0] rfl)
            · skip
              refine lv_iload hx hb (dk kX6_below_0_ok 20 rfl) (lv_at hl 4 rfl) ?_
              refine b_if_ne (tgt := 83) hx hb (dk kX6_below_0_ok 21 rfl) (by decide) (fun h5 => ?_) (fun h5 => ?_)
              · skip
                refine lv_iconst (v := nI 1) hx hb (dk kX6_below_0_ok 52 rfl) rfl ?_
                refine lv_goto (tgt := 88) hx hb (dk kX6_below_0_ok 53 rfl) (by decide) ?_
                refine lv_istore (lv' := [(4, .int (nI 1)), (0, .ref (ad k)), (1, .int (nI w)), (2, .int (nI (cnt (fun v => rbo r w v 4 && !(decide (v / 4 = w))) i))), (3, .int (nI i)), (5, .int (nI (4 * w + o)))]) hx hb (dk kX6_below_0_ok 55 rfl) hl (by decide) rfl (fun ls hl => ?_)
                refine lv_iinc (v := nI ((4 * w + o) + 1)) (lv' := [(5, .int (nI ((4 * w + o) + 1))), (4, .int (nI 1)), (0, .ref (ad k)), (1, .int (nI w)), (2, .int (nI (cnt (fun v => rbo r w v 4 && !(decide (v / 4 = w))) i))), (3, .int (nI i))]) hx hb (dk kX6_below_0_ok 56 rfl) hl (k := 5) rfl (n_inc _) (by decide) rfl (fun ls hl => ?_)
                refine lv_goto (tgt := 18) hx hb (dk kX6_below_0_ok 57 rfl) (by decide) ?_
                exact ih18 (o + 1) _ (by simp only [rbo, rbw, (eq_true h1), (eq_false (Nat.not_le.mpr h1)), (eq_true h2), (eq_false (Nat.not_le.mpr h2)), h5, decide_true, decide_false, not_true_eq_false, not_false_eq_true, and_true, true_and, and_false, false_and, or_true, true_or, or_false, false_or, and_self, or_self, if_true, if_false, Bool.false_eq_true, reduceIte, Bool.not_true, Bool.not_false, Bool.and_true, Bool.true_and, Bool.and_false, Bool.false_and]; first | done | rfl | (simp [h1, h2, h5]; done)) (by omega) (by omega) ls (lv_sub hl [2, 3, 4, 5, 1, 0] rfl)
              · skip
                refine lv_aload_n hx hb (dk kX6_below_0_ok 22 rfl) rfl (lv_at hl 0 rfl) ?_
                refine lv_iload_n hx hb (dk kX6_below_0_ok 23 rfl) rfl (lv_at hl 3 rfl) ?_
                refine cvR (As := [.int (nI i)]) (rest := []) ⟨hx, hb, hml, hown, hts⟩ (tX6_isPotted l D cI cQ cL ad N F k hk r ps sl sd ne fa bu hs st ln pt th hR (nI i) i rfl (by omega)) (cwV9 1 hts mcX6_isPotted (ac18 _ (List.mem_of_getElem? (i := 6) rfl)) miX6_isPotted meX6_isPotted mini_RX6 rfl rfl hdX6_isPotted ⟨Nat.le_of_ble_eq_true rfl, Nat.le_of_ble_eq_true rfl⟩) hK hP hNW hk0 hR.1 rfl rfl hl.1 rfl (Nat.le_of_ble_eq_true rfl) (by decide) (dk kX6_below_0_ok 24 rfl) ?_
                refine b_if_ne (tgt := 87) hx hb (dk kX6_below_0_ok 25 rfl) (by decide) (fun h6 => ?_) (fun h6 => ?_)
                · skip
                  refine lv_iconst (v := nI 0) hx hb (dk kX6_below_0_ok 54 rfl) rfl ?_
                  refine lv_istore (lv' := [(4, .int (nI 0)), (0, .ref (ad k)), (1, .int (nI w)), (2, .int (nI (cnt (fun v => rbo r w v 4 && !(decide (v / 4 = w))) i))), (3, .int (nI i)), (5, .int (nI (4 * w + o)))]) hx hb (dk kX6_below_0_ok 55 rfl) hl (by decide) rfl (fun ls hl => ?_)
                  refine lv_iinc (v := nI ((4 * w + o) + 1)) (lv' := [(5, .int (nI ((4 * w + o) + 1))), (4, .int (nI 0)), (0, .ref (ad k)), (1, .int (nI w)), (2, .int (nI (cnt (fun v => rbo r w v 4 && !(decide (v / 4 = w))) i))), (3, .int (nI i))]) hx hb (dk kX6_below_0_ok 56 rfl) hl (k := 5) rfl (n_inc _) (by decide) rfl (fun ls hl => ?_)
                  refine lv_goto (tgt := 18) hx hb (dk kX6_below_0_ok 57 rfl) (by decide) ?_
                  exact ih18 (o + 1) _ (by simp only [rbo, rbw, (eq_true h1), (eq_false (Nat.not_le.mpr h1)), (eq_true h2), (eq_false (Nat.not_le.mpr h2)), h5, h6, decide_true, decide_false, not_true_eq_false, not_false_eq_true, and_true, true_and, and_false, false_and, or_true, true_or, or_false, false_or, and_self, or_self, if_true, if_false, Bool.false_eq_true, reduceIte, Bool.not_true, Bool.not_false, Bool.and_true, Bool.true_and, Bool.and_false, Bool.false_and]; first | done | rfl | (simp [h1, h2, h5, h6]; done)) (by omega) (by omega) ls (lv_sub hl [2, 3, 4, 5, 1, 0] rfl)
                · skip
                  refine lv_aload_n hx hb (dk kX6_below_0_ok 26 rfl) rfl (lv_at hl 0 rfl) ?_
                  refine gf hx hb hts (fun w h => List.mem_cons_of_mem _ (acX6 w h)) hown hK hP hk0 hR.1 rfl 0 (by decide) (hts _ (List.mem_cons_of_mem _ (ac17 _ (List.mem_of_getElem? (i := 17) rfl)))) (fun _ h => h) rfl (dk kX6_below_0_ok 27 rfl) ?_
                  refine lv_iconst (v := nI 0) hx hb (dk kX6_below_0_ok 28 rfl) rfl ?_
                  refine lv_iload hx hb (dk kX6_below_0_ok 29 rfl) (lv_at hl 5 rfl) ?_
                  refine n_iadd0 hx hb (dk kX6_below_0_ok 30 rfl) ?_
                  refine ald (j := (4 * w + o)) hx hb hK hP hk1 hR.2.1 rfl (by omega) (by decide) (dk kX6_below_0_ok 31 rfl) ?_
                  refine lv_aload_n hx hb (dk kX6_below_0_ok 32 rfl) rfl (lv_at hl 0 rfl) ?_
                  refine gf hx hb hts (fun w h => List.mem_cons_of_mem _ (acX6 w h)) hown hK hP hk0 hR.1 rfl 0 (by decide) (hts _ (List.mem_cons_of_mem _ (ac17 _ (List.mem_of_getElem? (i := 17) rfl)))) (fun _ h => h) rfl (dk kX6_below_0_ok 33 rfl) ?_
                  refine lv_iconst (v := nI 0) hx hb (dk kX6_below_0_ok 34 rfl) rfl ?_
                  refine lv_iload_n hx hb (dk kX6_below_0_ok 35 rfl) rfl (lv_at hl 3 rfl) ?_
                  refine n_iadd0 hx hb (dk kX6_below_0_ok 36 rfl) ?_
                  refine ald (j := i) hx hb hK hP hk1 hR.2.1 rfl (by omega) (by decide) (dk kX6_below_0_ok 37 rfl) ?_
                  refine lv_icmp_ne (tgt := 87) hx hb (dk kX6_below_0_ok 38 rfl) (by decide) (fun h7 => ?_) (fun h7 => ?_)
                  · skip
                    refine lv_iconst (v := nI 0) hx hb (dk kX6_below_0_ok 54 rfl) rfl ?_
                    refine lv_istore (lv' := [(4, .int (nI 0)), (0, .ref (ad k)), (1, .int (nI w)), (2, .int (nI (cnt (fun v => rbo r w v 4 && !(decide (v / 4 = w))) i))), (3, .int (nI i)), (5, .int (nI (4 * w + o)))]) hx hb (dk kX6_below_0_ok 55 rfl) hl (by decide) rfl (fun ls hl => ?_)
                    refine lv_iinc (v := nI ((4 * w + o) + 1)) (lv' := [(5, .int (nI ((4 * w + o) + 1))), (4, .int (nI 0)), (0, .ref (ad k)), (1, .int (nI w)), (2, .int (nI (cnt (fun v => rbo r w v 4 && !(decide (v / 4 = w))) i))), (3, .int (nI i))]) hx hb (dk kX6_below_0_ok 56 rfl) hl (k := 5) rfl (n_inc _) (by decide) rfl (fun ls hl => ?_)
                    refine lv_goto (tgt := 18) hx hb (dk kX6_below_0_ok 57 rfl) (by decide) ?_
                    exact ih18 (o + 1) _ (by simp only [rbo, rbw, (eq_true h1), (eq_false (Nat.not_le.mpr h1)), (eq_true h2), (eq_false (Nat.not_le.mpr h2)), h5, h6, (eq_false h7), decide_true, decide_false, not_true_eq_false, not_false_eq_true, and_true, true_and, and_false, false_and, or_true, true_or, or_false, false_or, and_self, or_self, if_true, if_false, Bool.false_eq_true, reduceIte, Bool.not_true, Bool.not_false, Bool.and_true, Bool.true_and, Bool.and_false, Bool.false_and]; first | done | rfl | (simp [h1, h2, h5, h6, h7]; done)) (by omega) (by omega) ls (lv_sub hl [2, 3, 4, 5, 1, 0] rfl)
                  · skip
                    refine lv_aload_n hx hb (dk kX6_below_0_ok 39 rfl) rfl (lv_at hl 0 rfl) ?_
                    refine gf hx hb hts (fun w h => List.mem_cons_of_mem _ (acX6 w h)) hown hK hP hk0 hR.1 rfl 0 (by decide) (hts _ (List.mem_cons_of_mem _ (ac17 _ (List.mem_of_getElem? (i := 17) rfl)))) (fun _ h => h) rfl (dk kX6_below_0_ok 40 rfl) ?_
                    refine lv_bipush (v := nI 16) hx hb (dk kX6_below_0_ok 41 rfl) rfl ?_
                    refine lv_iload hx hb (dk kX6_below_0_ok 42 rfl) (lv_at hl 5 rfl) ?_
                    refine n_iadd hx hb (dk kX6_below_0_ok 43 rfl) ?_
                    refine ald (j := (16 + (4 * w + o))) hx hb hK hP hk1 hR.2.1 rfl (by omega) (by decide) (dk kX6_below_0_ok 44 rfl) ?_
                    refine lv_aload_n hx hb (dk kX6_below_0_ok 45 rfl) rfl (lv_at hl 0 rfl) ?_
                    refine gf hx hb hts (fun w h => List.mem_cons_of_mem _ (acX6 w h)) hown hK hP hk0 hR.1 rfl 0 (by decide) (hts _ (List.mem_cons_of_mem _ (ac17 _ (List.mem_of_getElem? (i := 17) rfl)))) (fun _ h => h) rfl (dk kX6_below_0_ok 46 rfl) ?_
                    refine lv_bipush (v := nI 16) hx hb (dk kX6_below_0_ok 47 rfl) rfl ?_
                    refine lv_iload_n hx hb (dk kX6_below_0_ok 48 rfl) rfl (lv_at hl 3 rfl) ?_
                    refine n_iadd hx hb (dk kX6_below_0_ok 49 rfl) ?_
                    refine ald (j := (16 + i)) hx hb hK hP hk1 hR.2.1 rfl (by omega) (by decide) (dk kX6_below_0_ok 50 rfl) ?_
                    refine lv_icmp_le (tgt := 87) hx hb (dk kX6_below_0_ok 51 rfl) (by decide) (fun h8 => ?_) (fun h8 => ?_)
                    · skip
                      refine lv_iconst (v := nI 0) hx hb (dk kX6_below_0_ok 54 rfl) rfl ?_
                      refine lv_istore (lv' := [(4, .int (nI 0)), (0, .ref (ad k)), (1, .int (nI w)), (2, .int (nI (cnt (fun v => rbo r w v 4 && !(decide (v / 4 = w))) i))), (3, .int (nI i)), (5, .int (nI (4 * w + o)))]) hx hb (dk kX6_below_0_ok 55 rfl) hl (by decide) rfl (fun ls hl => ?_)
                      refine lv_iinc (v := nI ((4 * w + o) + 1)) (lv' := [(5, .int (nI ((4 * w + o) + 1))), (4, .int (nI 0)), (0, .ref (ad k)), (1, .int (nI w)), (2, .int (nI (cnt (fun v => rbo r w v 4 && !(decide (v / 4 = w))) i))), (3, .int (nI i))]) hx hb (dk kX6_below_0_ok 56 rfl) hl (k := 5) rfl (n_inc _) (by decide) rfl (fun ls hl => ?_)
                      refine lv_goto (tgt := 18) hx hb (dk kX6_below_0_ok 57 rfl) (by decide) ?_
                      exact ih18 (o + 1) _ (by simp only [rbo, rbw, (eq_true h1), (eq_false (Nat.not_le.mpr h1)), (eq_true h2), (eq_false (Nat.not_le.mpr h2)), h5, h6, (eq_true h7), (eq_true h8), decide_true, decide_false, not_true_eq_false, not_false_eq_true, and_true, true_and, and_false, false_and, or_true, true_or, or_false, false_or, and_self, or_self, if_true, if_false, Bool.false_eq_true, reduceIte, Bool.not_true, Bool.not_false, Bool.and_true, Bool.true_and, Bool.and_false, Bool.false_and]; first | done | rfl | (simp [h1, h2, h5, h6, h7, h8]; done)) (by omega) (by omega) ls (lv_sub hl [2, 3, 4, 5, 1, 0] rfl)
                    · skip
                      refine lv_iconst (v := nI 1) hx hb (dk kX6_below_0_ok 52 rfl) rfl ?_
                      refine lv_goto (tgt := 88) hx hb (dk kX6_below_0_ok 53 rfl) (by decide) ?_
                      refine lv_istore (lv' := [(4, .int (nI 1)), (0, .ref (ad k)), (1, .int (nI w)), (2, .int (nI (cnt (fun v => rbo r w v 4 && !(decide (v / 4 = w))) i))), (3, .int (nI i)), (5, .int (nI (4 * w + o)))]) hx hb (dk kX6_below_0_ok 55 rfl) hl (by decide) rfl (fun ls hl => ?_)
                      refine lv_iinc (v := nI ((4 * w + o) + 1)) (lv' := [(5, .int (nI ((4 * w + o) + 1))), (4, .int (nI 1)), (0, .ref (ad k)), (1, .int (nI w)), (2, .int (nI (cnt (fun v => rbo r w v 4 && !(decide (v / 4 = w))) i))), (3, .int (nI i))]) hx hb (dk kX6_below_0_ok 56 rfl) hl (k := 5) rfl (n_inc _) (by decide) rfl (fun ls hl => ?_)
                      refine lv_goto (tgt := 18) hx hb (dk kX6_below_0_ok 57 rfl) (by decide) ?_
                      exact ih18 (o + 1) _ (by simp only [rbo, rbw, (eq_true h1), (eq_false (Nat.not_le.mpr h1)), (eq_true h2), (eq_false (Nat.not_le.mpr h2)), h5, h6, (eq_true h7), (eq_false h8), decide_true, decide_false, not_true_eq_false, not_false_eq_true, and_true, true_and, and_false, false_and, or_true, true_or, or_false, false_or, and_self, or_self, if_true, if_false, Bool.false_eq_true, reduceIte, Bool.not_true, Bool.not_false, Bool.and_true, Bool.true_and, Bool.and_false, Bool.false_and]; first | done | rfl | (simp [h1, h2, h5, h6, h7, h8]; done)) (by omega) (by omega) ls (lv_sub hl [2, 3, 4, 5, 1, 0] rfl)
        exact L18 _ 0 _ (by first | rfl | omega) (by first | rfl | omega) (Nat.lt_succ_self _) ls (lv_sub hl [2, 3, 4, 5, 1, 0] rfl)
  exact L4 _ 0 _ (by first | rfl | omega) (by first | rfl | omega) (Nat.lt_succ_self _) ls (lv_sub hl [2, 3, 1, 0] rfl)
set_option maxRecDepth 100000 in
set_option maxHeartbeats 4000000 in
theorem tX6_piles (l : Launch) (D : va_G) (cI cQ cL : ClassId) (ad : Nat → Nat) (N : Nat) (F : Nat → va_E) (k : Nat) (hk : k + 7 < N) (r ps sl sd ne fa bu : Nat → Int32) (hs : Bool) (st ln pt : Nat) (th : Int32) (hR : rfAt cI ad F k r ps sl sd ne fa bu hs st ln pt th) : MR l yX6_piles (Cond.code yX6_piles cX6_piles 3 (some .int) :: AW) ({ frames := 0, cells := 0, slots := 0, locals := 0 } : Room) D cI cQ cL ad N F [.ref (ad k)] (.int (nI (rpl r))) := by
  refine mr_i (ty := .int) (by decide +kernel) rfl rfl rfl rfl (Nat.le_of_ble_eq_true rfl) (fun p e s m below meth cd Q ls hx hb hml hown hts hP hK hNW hret hl => ?_)
  have hown : s.vm.findClass RX6 = some m.cls := hown
  have hk0 : k < N := by omega
  have hk1 : k + 1 < N := by omega
  have hk2 : k + 2 < N := by omega
  have hk3 : k + 3 < N := by omega
  have hk4 : k + 4 < N := by omega
  have hk5 : k + 5 < N := by omega
  have hk6 : k + 6 < N := by omega
  have hk7 : k + 7 < N := by omega
  have hl : lv_has ls 3 [(0, .ref (ad k))] := hl
  refine lv_iconst (v := nI 0) hx hb (dk kX6_piles_ok 0 rfl) rfl ?_
  refine lv_istore_n (lv' := [(1, .int (nI 0)), (0, .ref (ad k))]) hx hb (dk kX6_piles_ok 1 rfl) rfl hl (by decide) rfl (fun ls hl => ?_)
  refine lv_iconst (v := nI 0) hx hb (dk kX6_piles_ok 2 rfl) rfl ?_
  refine lv_istore_n (lv' := [(2, .int (nI 0)), (1, .int (nI 0)), (0, .ref (ad k))]) hx hb (dk kX6_piles_ok 3 rfl) rfl hl (by decide) rfl (fun ls hl => ?_)
  have L4 : ∀ (fu : Nat) (i : Nat) (x1 : Int32), x1 = nI (cnt (fun w => decide (r (16 + w) = 0)) i) → i ≤ 16 → 16 - i < fu → ∀ ls : Array Slot, lv_has ls 3 [(0, .ref (ad k)), (1, .int x1), (2, .int (nI i))] → W p l e ({ frames := 0, cells := 0, slots := 0, locals := 0 } : Room) s m ([.ref (ad k)] : List Value).toArray below meth cd s.heap [] 0 0 Q (F0 m 4 ls []) := by
    intro fu
    induction fu with
    | zero => intros; omega
    | succ fu ih4 =>
      intro i x1 ex1 hi hm4 ls hl
      subst ex1
      refine lv_iload_n hx hb (dk kX6_piles_ok 4 rfl) rfl (lv_at hl 2 rfl) ?_
      refine lv_bipush (v := nI 16) hx hb (dk kX6_piles_ok 5 rfl) rfl ?_
      refine n_icmp_ge (tgt := 36) hx hb (by omega) (by decide) (dk kX6_piles_ok 6 rfl) (by decide) (fun h1 => ?_) (fun h1 => ?_)
      · skip
        refine lv_iload_n hx hb (dk kX6_piles_ok 22 rfl) rfl (lv_at hl 1 rfl) ?_
        exact hret _ _ _ (by rw [show i = 16 by omega] <;> rfl) (dk kX6_piles_ok 23 rfl)
      · skip
        refine lv_iload_n hx hb (dk kX6_piles_ok 7 rfl) rfl (lv_at hl 1 rfl) ?_
        refine lv_aload_n hx hb (dk kX6_piles_ok 8 rfl) rfl (lv_at hl 0 rfl) ?_
        refine gf hx hb hts (fun w h => List.mem_cons_of_mem _ (acX6 w h)) hown hK hP hk0 hR.1 rfl 0 (by decide) (hts _ (List.mem_cons_of_mem _ (ac17 _ (List.mem_of_getElem? (i := 17) rfl)))) (fun _ h => h) rfl (dk kX6_piles_ok 9 rfl) ?_
        refine lv_bipush (v := nI 16) hx hb (dk kX6_piles_ok 10 rfl) rfl ?_
        refine lv_iload_n hx hb (dk kX6_piles_ok 11 rfl) rfl (lv_at hl 2 rfl) ?_
        refine n_iadd hx hb (dk kX6_piles_ok 12 rfl) ?_
        refine ald (j := (16 + i)) hx hb hK hP hk1 hR.2.1 rfl (by omega) (by decide) (dk kX6_piles_ok 13 rfl) ?_
        refine lv_if_ne (tgt := 27) hx hb (dk kX6_piles_ok 14 rfl) (by decide) (fun h2 => ?_) (fun h2 => ?_)
        · skip
          refine lv_iconst (v := nI 0) hx hb (dk kX6_piles_ok 17 rfl) rfl ?_
          refine n_iadd hx hb (dk kX6_piles_ok 18 rfl) ?_
          refine lv_istore_n (lv' := [(1, .int (nI ((cnt (fun w => decide (r (16 + w) = 0)) i) + 0))), (0, .ref (ad k)), (2, .int (nI i))]) hx hb (dk kX6_piles_ok 19 rfl) rfl hl (by decide) rfl (fun ls hl => ?_)
          refine lv_iinc (v := nI (i + 1)) (lv' := [(2, .int (nI (i + 1))), (1, .int (nI ((cnt (fun w => decide (r (16 + w) = 0)) i) + 0))), (0, .ref (ad k))]) hx hb (dk kX6_piles_ok 20 rfl) hl (k := 2) rfl (n_inc _) (by decide) rfl (fun ls hl => ?_)
          refine lv_goto (tgt := 4) hx hb (dk kX6_piles_ok 21 rfl) (by decide) ?_
          exact ih4 (i + 1) _ (by simp [cnt, h1, h2]) (by omega) (by omega) ls (lv_sub hl [2, 1, 0] rfl)
        · skip
          refine lv_iconst (v := nI 1) hx hb (dk kX6_piles_ok 15 rfl) rfl ?_
          refine lv_goto (tgt := 28) hx hb (dk kX6_piles_ok 16 rfl) (by decide) ?_
          refine n_iadd hx hb (dk kX6_piles_ok 18 rfl) ?_
          refine lv_istore_n (lv' := [(1, .int (nI ((cnt (fun w => decide (r (16 + w) = 0)) i) + 1))), (0, .ref (ad k)), (2, .int (nI i))]) hx hb (dk kX6_piles_ok 19 rfl) rfl hl (by decide) rfl (fun ls hl => ?_)
          refine lv_iinc (v := nI (i + 1)) (lv' := [(2, .int (nI (i + 1))), (1, .int (nI ((cnt (fun w => decide (r (16 + w) = 0)) i) + 1))), (0, .ref (ad k))]) hx hb (dk kX6_piles_ok 20 rfl) hl (k := 2) rfl (n_inc _) (by decide) rfl (fun ls hl => ?_)
          refine lv_goto (tgt := 4) hx hb (dk kX6_piles_ok 21 rfl) (by decide) ?_
          exact ih4 (i + 1) _ (by simp [cnt, h1, h2]) (by omega) (by omega) ls (lv_sub hl [2, 1, 0] rfl)
  exact L4 _ 0 _ (by first | rfl | omega) (by first | rfl | omega) (Nat.lt_succ_self _) ls (lv_sub hl [2, 1, 0] rfl)
set_option maxRecDepth 100000 in
set_option maxHeartbeats 4000000 in
theorem tX6_highest (l : Launch) (D : va_G) (cI cQ cL : ClassId) (ad : Nat → Nat) (N : Nat) (F : Nat → va_E) (k : Nat) (hk : k + 7 < N) (r ps sl sd ne fa bu : Nat → Int32) (hs : Bool) (st ln pt : Nat) (th : Int32) (hR : rfAt cI ad F k r ps sl sd ne fa bu hs st ln pt th) : MR l yX6_highest (Cond.code yX6_highest cX6_highest 3 (some .int) :: AW) ({ frames := 0, cells := 0, slots := 0, locals := 0 } : Room) D cI cQ cL ad N F [.ref (ad k)] (.int (rhi r 16)) := by
  refine mr_i (ty := .int) (by decide +kernel) rfl rfl rfl rfl (Nat.le_of_ble_eq_true rfl) (fun p e s m below meth cd Q ls hx hb hml hown hts hP hK hNW hret hl => ?_)
  have hown : s.vm.findClass RX6 = some m.cls := hown
  have hk0 : k < N := by omega
  have hk1 : k + 1 < N := by omega
  have hk2 : k + 2 < N := by omega
  have hk3 : k + 3 < N := by omega
  have hk4 : k + 4 < N := by omega
  have hk5 : k + 5 < N := by omega
  have hk6 : k + 6 < N := by omega
  have hk7 : k + 7 < N := by omega
  have hl : lv_has ls 3 [(0, .ref (ad k))] := hl
  refine lv_iconst (v := nI 0) hx hb (dk kX6_highest_ok 0 rfl) rfl ?_
  refine lv_istore_n (lv' := [(1, .int (nI 0)), (0, .ref (ad k))]) hx hb (dk kX6_highest_ok 1 rfl) rfl hl (by decide) rfl (fun ls hl => ?_)
  refine lv_iconst (v := nI 0) hx hb (dk kX6_highest_ok 2 rfl) rfl ?_
  refine lv_istore_n (lv' := [(2, .int (nI 0)), (1, .int (nI 0)), (0, .ref (ad k))]) hx hb (dk kX6_highest_ok 3 rfl) rfl hl (by decide) rfl (fun ls hl => ?_)
  have L4 : ∀ (fu : Nat) (i : Nat) (x1 : Int32), x1 = rhi r i → i ≤ 16 → 16 - i < fu → ∀ ls : Array Slot, lv_has ls 3 [(0, .ref (ad k)), (1, .int x1), (2, .int (nI i))] → W p l e ({ frames := 0, cells := 0, slots := 0, locals := 0 } : Room) s m ([.ref (ad k)] : List Value).toArray below meth cd s.heap [] 0 0 Q (F0 m 4 ls []) := by
    intro fu
    induction fu with
    | zero => intros; omega
    | succ fu ih4 =>
      intro i x1 ex1 hi hm4 ls hl
      subst ex1
      refine lv_iload_n hx hb (dk kX6_highest_ok 4 rfl) rfl (lv_at hl 2 rfl) ?_
      refine lv_bipush (v := nI 16) hx hb (dk kX6_highest_ok 5 rfl) rfl ?_
      refine n_icmp_ge (tgt := 47) hx hb (by omega) (by decide) (dk kX6_highest_ok 6 rfl) (by decide) (fun h1 => ?_) (fun h1 => ?_)
      · skip
        refine lv_iload_n hx hb (dk kX6_highest_ok 30 rfl) rfl (lv_at hl 1 rfl) ?_
        exact hret _ _ _ (by rw [show i = 16 by omega] <;> rfl) (dk kX6_highest_ok 31 rfl)
      · skip
        refine lv_aload_n hx hb (dk kX6_highest_ok 7 rfl) rfl (lv_at hl 0 rfl) ?_
        refine gf hx hb hts (fun w h => List.mem_cons_of_mem _ (acX6 w h)) hown hK hP hk0 hR.1 rfl 0 (by decide) (hts _ (List.mem_cons_of_mem _ (ac17 _ (List.mem_of_getElem? (i := 17) rfl)))) (fun _ h => h) rfl (dk kX6_highest_ok 8 rfl) ?_
        refine lv_bipush (v := nI 16) hx hb (dk kX6_highest_ok 9 rfl) rfl ?_
        refine lv_iload_n hx hb (dk kX6_highest_ok 10 rfl) rfl (lv_at hl 2 rfl) ?_
        refine n_iadd hx hb (dk kX6_highest_ok 11 rfl) ?_
        refine ald (j := (16 + i)) hx hb hK hP hk1 hR.2.1 rfl (by omega) (by decide) (dk kX6_highest_ok 12 rfl) ?_
        refine lv_iconst (v := nI 1) hx hb (dk kX6_highest_ok 13 rfl) rfl ?_
        refine lv_iadd hx hb (dk kX6_highest_ok 14 rfl) ?_
        refine lv_iload_n hx hb (dk kX6_highest_ok 15 rfl) rfl (lv_at hl 1 rfl) ?_
        refine lv_icmp_le (tgt := 39) hx hb (dk kX6_highest_ok 16 rfl) (by decide) (fun h2 => ?_) (fun h2 => ?_)
        · skip
          refine lv_iload_n hx hb (dk kX6_highest_ok 26 rfl) rfl (lv_at hl 1 rfl) ?_
          refine lv_istore_n (lv' := [(1, .int (rhi r i)), (0, .ref (ad k)), (2, .int (nI i))]) hx hb (dk kX6_highest_ok 27 rfl) rfl hl (by decide) rfl (fun ls hl => ?_)
          refine lv_iinc (v := nI (i + 1)) (lv' := [(2, .int (nI (i + 1))), (1, .int (rhi r i)), (0, .ref (ad k))]) hx hb (dk kX6_highest_ok 28 rfl) hl (k := 2) rfl (n_inc _) (by decide) rfl (fun ls hl => ?_)
          refine lv_goto (tgt := 4) hx hb (dk kX6_highest_ok 29 rfl) (by decide) ?_
          exact ih4 (i + 1) _ (by simp only [rhi, (eq_true h1), (eq_false (Nat.not_le.mpr h1)), (eq_true h2), not_true_eq_false, not_false_eq_true, and_true, true_and, and_false, false_and, or_true, true_or, or_false, false_or, and_self, or_self, if_true, if_false, Bool.false_eq_true, reduceIte]; first | done | (simp [h1, h2]; done)) (by omega) (by omega) ls (lv_sub hl [2, 1, 0] rfl)
        · skip
          refine lv_aload_n hx hb (dk kX6_highest_ok 17 rfl) rfl (lv_at hl 0 rfl) ?_
          refine gf hx hb hts (fun w h => List.mem_cons_of_mem _ (acX6 w h)) hown hK hP hk0 hR.1 rfl 0 (by decide) (hts _ (List.mem_cons_of_mem _ (ac17 _ (List.mem_of_getElem? (i := 17) rfl)))) (fun _ h => h) rfl (dk kX6_highest_ok 18 rfl) ?_
          refine lv_bipush (v := nI 16) hx hb (dk kX6_highest_ok 19 rfl) rfl ?_
          refine lv_iload_n hx hb (dk kX6_highest_ok 20 rfl) rfl (lv_at hl 2 rfl) ?_
          refine n_iadd hx hb (dk kX6_highest_ok 21 rfl) ?_
          refine ald (j := (16 + i)) hx hb hK hP hk1 hR.2.1 rfl (by omega) (by decide) (dk kX6_highest_ok 22 rfl) ?_
          refine lv_iconst (v := nI 1) hx hb (dk kX6_highest_ok 23 rfl) rfl ?_
          refine lv_iadd hx hb (dk kX6_highest_ok 24 rfl) ?_
          refine lv_goto (tgt := 40) hx hb (dk kX6_highest_ok 25 rfl) (by decide) ?_
          refine lv_istore_n (lv' := [(1, .int ((r (16 + i)) + (nI 1))), (0, .ref (ad k)), (2, .int (nI i))]) hx hb (dk kX6_highest_ok 27 rfl) rfl hl (by decide) rfl (fun ls hl => ?_)
          refine lv_iinc (v := nI (i + 1)) (lv' := [(2, .int (nI (i + 1))), (1, .int ((r (16 + i)) + (nI 1))), (0, .ref (ad k))]) hx hb (dk kX6_highest_ok 28 rfl) hl (k := 2) rfl (n_inc _) (by decide) rfl (fun ls hl => ?_)
          refine lv_goto (tgt := 4) hx hb (dk kX6_highest_ok 29 rfl) (by decide) ?_
          exact ih4 (i + 1) _ (by simp only [rhi, (eq_true h1), (eq_false (Nat.not_le.mpr h1)), (eq_false h2), not_true_eq_false, not_false_eq_true, and_true, true_and, and_false, false_and, or_true, true_or, or_false, false_or, and_self, or_self, if_true, if_false, Bool.false_eq_true, reduceIte]; first | done | (simp [h1, h2]; done)) (by omega) (by omega) ls (lv_sub hl [2, 1, 0] rfl)
  exact L4 _ 0 _ (by first | rfl | omega) (by first | rfl | omega) (Nat.lt_succ_self _) ls (lv_sub hl [2, 1, 0] rfl)
end
/-! from refspec2 -/
section
def cp9 (f g : Nat → Int32) (a i : Nat) : Nat → Int32 := fun j => if a ≤ j ∧ j < a + i then g (j - a) else f j
theorem cp9_0 (f g : Nat → Int32) (a : Nat) : cp9 f g a 0 = f := by
  funext j
  unfold cp9
  rw [if_neg (by omega)]
theorem cp9_s (f g : Nat → Int32) (a i : Nat) : upd (cp9 f g a i) (a + i) (g i) = cp9 f g a (i + 1) := by
  funext j
  unfold upd cp9
  by_cases h : j = a + i
  · subst h
    rw [if_pos rfl, if_pos (by omega), show a + i - a = i by omega]
  · rw [if_neg h]
    by_cases h2 : a ≤ j ∧ j < a + i
    · rw [if_pos h2, if_pos (by omega)]
    · rw [if_neg h2, if_neg (by omega)]
theorem cp9_s0 (f g : Nat → Int32) (i : Nat) : upd (cp9 f g 0 i) i (g i) = cp9 f g 0 (i + 1) := by
  have h := cp9_s f g 0 i
  rw [Nat.zero_add] at h
  exact h
theorem cp9_hi {f g : Nat → Int32} {a i j : Nat} (h : a + i ≤ j) : cp9 f g a i j = f j := by
  unfold cp9
  rw [if_neg (by omega)]
theorem cp9_lo {f g : Nat → Int32} {i j : Nat} (h : j < i) : cp9 f g 0 i j = g j := by
  unfold cp9
  rw [if_pos (by omega), Nat.sub_zero]
theorem rf_ext {D : va_G} {cl : List vw_C} {cI : ClassId} {ad : Nat → Nat} {N : Nat} {F : Nat → va_E} {H : Heap} {k : Nat} {r ps sl sd ne fa bu r' ps' sl' sd' ne' fa' : Nat → Int32} {hs : Bool} {st ln pt : Nat} {th : Int32}
    (h : va_P D cl (iW ad N (rfSet cI ad F k r ps sl sd ne fa bu hs st ln pt th)) H) (h1 : ∀ i, i < 60 → r i = r' i := by intros; rfl) (h2 : ∀ i, i < 360 → ps i = ps' i := by intros; rfl) (h3 : ∀ i, i < 60 → sl i = sl' i := by intros; rfl) (h4 : ∀ i, i < 60 → sd i = sd' i := by intros; rfl) (h5 : ∀ i, i < 169 → ne i = ne' i := by intros; rfl) (h6 : ∀ i, i < 169 → fa i = fa' i := by intros; rfl) :
    va_P D cl (iW ad N (rfSet cI ad F k r' ps' sl' sd' ne' fa' bu hs st ln pt th)) H := by
  refine iW_ext h (fun i _ => ?_)
  by_cases e1 : i = k + 1
  · exact Or.inr ⟨cI, 60, r, r', by rw [e1]; exact rfSet_at.2.1, by rw [e1]; exact rfSet_at.2.1, h1⟩
  by_cases e2 : i = k + 2
  · exact Or.inr ⟨cI, 360, ps, ps', by rw [e2]; exact rfSet_at.2.2.1, by rw [e2]; exact rfSet_at.2.2.1, h2⟩
  by_cases e3 : i = k + 3
  · exact Or.inr ⟨cI, 60, sl, sl', by rw [e3]; exact rfSet_at.2.2.2.1, by rw [e3]; exact rfSet_at.2.2.2.1, h3⟩
  by_cases e4 : i = k + 4
  · exact Or.inr ⟨cI, 60, sd, sd', by rw [e4]; exact rfSet_at.2.2.2.2.1, by rw [e4]; exact rfSet_at.2.2.2.2.1, h4⟩
  by_cases e5 : i = k + 5
  · exact Or.inr ⟨cI, 169, ne, ne', by rw [e5]; exact rfSet_at.2.2.2.2.2.1, by rw [e5]; exact rfSet_at.2.2.2.2.2.1, h5⟩
  by_cases e6 : i = k + 6
  · exact Or.inr ⟨cI, 169, fa, fa', by rw [e6]; exact rfSet_at.2.2.2.2.2.2.1, by rw [e6]; exact rfSet_at.2.2.2.2.2.2.1, h6⟩
  refine Or.inl ?_
  unfold rfSet
  by_cases e0 : i = k
  · rw [if_pos e0, if_pos e0]
  by_cases e7 : i = k + 7
  · simp [e7]
  · simp [e0, e1, e2, e3, e4, e5, e6, e7]
theorem upd_at9 {f : Nat → Int32} {i : Nat} {x : Int32} : upd f i x i = x := by simp [upd]
theorem upd_ne9 {f : Nat → Int32} {i j : Nat} {x : Int32} (h : j ≠ i) : upd f i x j = f j := by simp [upd, h]
def rly1 (r : Nat → Int32) (w : Nat) : Nat → Int32 := upd (upd r w (-1)) (16 + w) (-1)
def rly (r : Nat → Int32) (w : Nat) (q : Int32) : Nat → Int32 := if q = nI 84 then rly1 r w else upd (upd (rly1 r w) (16 + w) (nI (hgt (rly1 r w) q))) w q
theorem rly1_out {r : Nat → Int32} {w i : Nat} (h1 : i ≠ w) (h2 : i ≠ 16 + w) : rly1 r w i = r i := by
  unfold rly1
  rw [upd_ne9 h2, upd_ne9 h1]
theorem rly_out {r : Nat → Int32} {w i : Nat} {q : Int32} (h1 : i ≠ w) (h2 : i ≠ 16 + w) : rly r w q i = r i := by
  unfold rly
  split
  · exact rly1_out h1 h2
  · rw [upd_ne9 h1, upd_ne9 h2, rly1_out h1 h2]
-- passing the turn
def rps : Nat → (Nat → Int32) → Nat → (Nat → Int32)
  | 0, r, _ => r
  | n + 1, r, t => if upd r 56 (nI ((t + 1) % 4)) (52 + (t + 1) % 4) ≤ 0 then upd (upd r 56 (nI ((t + 1) % 4))) (52 + (t + 1) % 4) (upd r 56 (nI ((t + 1) % 4)) (52 + (t + 1) % 4) - nI 0)
    else rps n (upd (upd r 56 (nI ((t + 1) % 4))) (52 + (t + 1) % 4) (upd r 56 (nI ((t + 1) % 4)) (52 + (t + 1) % 4) - nI 1)) ((t + 1) % 4)
def rpass (r : Nat → Int32) (t : Nat) : Nat → Int32 := if over r = true then r else rps 8 r t
def lsu (r : Nat → Int32) : Nat := ix (r 52) + ix (r 53) + ix (r 54) + ix (r 55)
def lo01 (r : Nat → Int32) : Prop := ∀ i, i < 4 → r (52 + i) = nI 0 ∨ r (52 + i) = nI 1
theorem lsu_le {r : Nat → Int32} (h : lo01 r) : lsu r ≤ 4 := by
  have q : ∀ x : Int32, x = nI 0 ∨ x = nI 1 → ix x ≤ 1 := by
    intro x hx
    rcases hx with rfl | rfl <;> decide
  have h0 := q _ (h 0 (by decide))
  have h1 := q _ (h 1 (by decide))
  have h2 := q _ (h 2 (by decide))
  have h3 := q _ (h 3 (by decide))
  have h0 : ix (r 52) ≤ 1 := h0
  have h1 : ix (r 53) ≤ 1 := h1
  have h2 : ix (r 54) ≤ 1 := h2
  have h3 : ix (r 55) ≤ 1 := h3
  unfold lsu
  omega
theorem lo01_up {r : Nat → Int32} {i : Nat} {x : Int32} (h : lo01 r) (hx : x = nI 0 ∨ x = nI 1) : lo01 (upd r i x) := by
  intro j hj
  by_cases e : 52 + j = i
  · rw [← e, upd_at9]; exact hx
  · rw [upd_ne9 e]; exact h j hj
theorem lo01_56 {r : Nat → Int32} {x : Int32} (h : lo01 r) : lo01 (upd r 56 x) := fun j hj => by
  rw [upd_ne9 (by omega)]
  exact h j hj
theorem lo01_end {r : Nat → Int32} {u : Nat} (hu : u < 4) (h : lo01 r) : lo01 (upd r (52 + u) (r (52 + u) - nI 0)) := lo01_up h (by rcases h u hu with e | e <;> rw [e] <;> decide)
theorem lo01_go {r : Nat → Int32} {u : Nat} (hu : u < 4) (h : lo01 r) (hx : ¬ r (52 + u) ≤ 0) : lo01 (upd r (52 + u) (r (52 + u) - nI 1)) := lo01_up h (by
  rcases h u hu with e | e
  · exact absurd (by rw [e]; decide) hx
  · rw [e]; decide)
theorem lsu_dec {r : Nat → Int32} {u : Nat} (hu : u < 4) (h : lo01 r) (hx : ¬ r (52 + u) ≤ 0) : lsu (upd r (52 + u) (r (52 + u) - nI 1)) + 1 = lsu r := by
  have e : r (52 + u) = nI 1 := by
    rcases h u hu with e | e
    · exact absurd (by rw [e]; decide) hx
    · exact e
  rw [e]
  have z : ix (nI 1 - nI 1) = 0 := by decide
  have o : ix (nI 1) = 1 := by decide
  rcases (show u = 0 ∨ u = 1 ∨ u = 2 ∨ u = 3 by omega) with rfl | rfl | rfl | rfl
  · unfold lsu; simp only [Nat.add_zero] at e ⊢; rw [upd_at9, upd_ne9 (by decide), upd_ne9 (by decide), upd_ne9 (by decide), e, z, o]; omega
  · unfold lsu; simp only [show 52 + 1 = 53 from rfl] at e ⊢; rw [upd_at9, upd_ne9 (by decide), upd_ne9 (by decide), upd_ne9 (by decide), e, z, o]; omega
  · unfold lsu; simp only [show 52 + 2 = 54 from rfl] at e ⊢; rw [upd_at9, upd_ne9 (by decide), upd_ne9 (by decide), upd_ne9 (by decide), e, z, o]; omega
  · unfold lsu; simp only [show 52 + 3 = 55 from rfl] at e ⊢; rw [upd_at9, upd_ne9 (by decide), upd_ne9 (by decide), upd_ne9 (by decide), e, z, o]
theorem lsu_56 {r : Nat → Int32} {x : Int32} : lsu (upd r 56 x) = lsu r := by
  unfold lsu
  rw [upd_ne9 (by decide), upd_ne9 (by decide), upd_ne9 (by decide), upd_ne9 (by decide)]
theorem rps_go {r r2 : Nat → Int32} {t t2 i : Nat} (h1 : rps 8 r t = rps (8 - i) r2 t2 ∧ i + lsu r2 ≤ 4) (hl : lo01 r2) (hx : ¬ upd r2 56 (nI ((t2 + 1) % 4)) (52 + (t2 + 1) % 4) ≤ 0) :
    rps 8 r t = rps (8 - (i + 1)) (upd (upd r2 56 (nI ((t2 + 1) % 4))) (52 + (t2 + 1) % 4) (upd r2 56 (nI ((t2 + 1) % 4)) (52 + (t2 + 1) % 4) - nI 1)) ((t2 + 1) % 4) ∧ (i + 1) + lsu (upd (upd r2 56 (nI ((t2 + 1) % 4))) (52 + (t2 + 1) % 4) (upd r2 56 (nI ((t2 + 1) % 4)) (52 + (t2 + 1) % 4) - nI 1)) ≤ 4 := by
  obtain ⟨a, b⟩ := h1
  have d := lsu_dec (r := upd r2 56 (nI ((t2 + 1) % 4))) (u := (t2 + 1) % 4) (by omega) (lo01_56 hl) hx
  rw [lsu_56] at d
  refine ⟨?_, by omega⟩
  rw [a, show 8 - i = (8 - (i + 1)) + 1 by omega]
  simp only [rps]
  rw [if_neg hx]
theorem rps_end {r r2 : Nat → Int32} {t t2 i : Nat} (h1 : rps 8 r t = rps (8 - i) r2 t2 ∧ i + lsu r2 ≤ 4) (hx : upd r2 56 (nI ((t2 + 1) % 4)) (52 + (t2 + 1) % 4) ≤ 0) :
    rps 8 r t = upd (upd r2 56 (nI ((t2 + 1) % 4))) (52 + (t2 + 1) % 4) (upd r2 56 (nI ((t2 + 1) % 4)) (52 + (t2 + 1) % 4) - nI 0) := by
  rw [h1.1, show 8 - i = (8 - (i + 1)) + 1 by omega]
  simp only [rps]
  rw [if_pos hx]
-- a flight
def rf0 (r : Nat → Int32) (w : Nat) : Nat → Int32 := upd (upd r (32 + w) (r (32 + w) + nI 1)) 58 (upd r (32 + w) (r (32 + w) + nI 1) 58 + nI 1)
def rf1 (r : Nat → Int32) (w : Nat) : Nat → Int32 := upd (upd (rly (rf0 r w) w (nI (bs (w / 4)))) (48 + w / 4) (rly (rf0 r w) w (nI (bs (w / 4))) (48 + w / 4) + nI 1)) (52 + w / 4) (upd (rly (rf0 r w) w (nI (bs (w / 4)))) (48 + w / 4) (rly (rf0 r w) w (nI (bs (w / 4))) (48 + w / 4) + nI 1) (52 + w / 4) + nI 1)
def rfx (r : Nat → Int32) (w : Nat) (q : Int32) (t : Nat) : Nat → Int32 := if q = -1 then rpass (rf1 r w) t else if q = nI 84 then rly (rf0 r w) w q else rpass (rly (rf0 r w) w q) t
theorem rf0_out {r : Nat → Int32} {w i : Nat} (h1 : i ≠ 32 + w) (h2 : i ≠ 58) : rf0 r w i = r i := by
  unfold rf0
  rw [upd_ne9 h2, upd_ne9 h1]
theorem rly0_out {r : Nat → Int32} {w i : Nat} {q : Int32} (hw : w < 16) (h1 : 48 ≤ i) (h2 : i ≠ 58) : rly (rf0 r w) w q i = r i := by
  rw [rly_out (by omega) (by omega), rf0_out (by omega) h2]
theorem rf1_56 {r : Nat → Int32} {w : Nat} (hw : w < 16) : rf1 r w 56 = r 56 := by
  unfold rf1
  rw [upd_ne9 (by omega), upd_ne9 (by omega), rly0_out hw (by omega) (by omega)]
theorem rly0_lo {r : Nat → Int32} {w : Nat} {q : Int32} (hw : w < 16) (h : lo01 r) : lo01 (rly (rf0 r w) w q) := fun i hi => by
  rw [rly0_out hw (by omega) (by omega)]
  exact h i hi
theorem rf1_lo {r : Nat → Int32} {w : Nat} (hw : w < 16) (h : lo01 r) (h0 : r (52 + w / 4) = nI 0) : lo01 (rf1 r w) := by
  unfold rf1
  refine lo01_up (fun i hi => ?_) ?_
  · rw [upd_ne9 (by omega), rly0_out hw (by omega) (by omega)]
    exact h i hi
  · rw [upd_ne9 (by omega), rly0_out hw (by omega) (by omega), h0]
    exact Or.inr (by decide)
-- a lift
def rlf (r : Nat → Int32) (q n d : Nat) : Nat → (Nat → Int32)
  | 0 => r
  | k + 1 => rly (rlf r q n d k) (ix (wat (rlf r q n d k) (nI q) (nI (hgt r (nI q) - n + k)))) (rbs q d)
def rlW (r : Nat → Int32) (q n d : Nat) : Prop := ∀ k, k < n → wk (wat (rlf r q n d k) (nI q) (nI (hgt r (nI q) - n + k))) = true
theorem rlf_hi {r : Nat → Int32} {q n d i : Nat} (hw : rlW r q n d) (hi : 32 ≤ i) : ∀ k, k ≤ n → rlf r q n d k i = r i
  | 0, _ => rfl
  | k + 1, h => by
    have h1 := wk_lt (hw k (by omega))
    simp only [rlf]
    rw [rly_out (by omega) (by omega)]
    exact rlf_hi hw hi k (by omega)
def rlx (r : Nat → Int32) (q n d t : Nat) : Nat → Int32 := rpass (upd (rlf r q n d n) 59 (rlf r q n d n 59 + nI 1)) t
theorem rlx_56 {r : Nat → Int32} {q n d : Nat} (hw : rlW r q n d) : upd (rlf r q n d n) 59 (rlf r q n d n 59 + nI 1) 56 = r 56 := by
  rw [upd_ne9 (by omega), rlf_hi hw (by omega) n (Nat.le_refl n)]
theorem rlx_lo {r : Nat → Int32} {q n d : Nat} (hw : rlW r q n d) (h : lo01 r) : lo01 (upd (rlf r q n d n) 59 (rlf r q n d n 59 + nI 1)) := fun i hi => by
  rw [upd_ne9 (by omega), rlf_hi hw (by omega) n (Nat.le_refl n)]
  exact h i hi
-- what is saved
def rcP (ps r : Nat → Int32) (st : Nat) : Nat → Int32 := if st = 6 then cp9 (cp9 ps (fun j9 => ps (60 + j9)) 0 300) r (60 * (st - 1)) 60 else cp9 ps r (60 * st) 60
def rcS (st : Nat) : Nat := if st = 6 then st - 1 + 1 else st + 1
-- the text
def tks (bu : Nat → Int32) (ln pt a b : Nat) : Bool := decide (pt < ln) && btw (bu pt) (nI a) (nI b)
def tkn (bu : Nat → Int32) (ln pt a b : Nat) : Nat := if tks bu ln pt a b = true then pt + 1 else pt
end
/-! from refw -/
section
set_option maxRecDepth 100000 in
set_option maxHeartbeats 4000000 in
theorem tX6_fails (l : Launch) (D : va_G) (cI cQ cL : ClassId) (ad : Nat → Nat) (N : Nat) (F : Nat → va_E) (k : Nat) (hk : k + 7 < N) (r ps sl sd ne fa bu : Nat → Int32) (hs : Bool) (st ln pt : Nat) (th : Int32) (hR : rfAt cI ad F k r ps sl sd ne fa bu hs st ln pt th) (x : Int32) : MX l yX6_fails (Cond.code yX6_fails cX6_fails 2 (some .int) :: AW) ({ frames := 0, cells := 0, slots := 0, locals := 0 } : Room) D cI cQ cL ad N F [.ref (ad k), .int x] (dp (some (.int (nI 0))) (rfSet cI ad F k r ps sl sd ne fa bu hs st ln pt x)) 0 0 := by
  refine mx_i (ty := .int) (by decide +kernel) rfl (Nat.le_of_ble_eq_true rfl) (fun p e s m below meth cd Q ls hx hb hml hown hts hDi hP hK hNW hS hret hl => ?_)
  have hown : s.vm.findClass RX6 = some m.cls := hown
  have hk0 : k < N := by omega
  have hk1 : k + 1 < N := by omega
  have hk2 : k + 2 < N := by omega
  have hk3 : k + 3 < N := by omega
  have hk4 : k + 4 < N := by omega
  have hk5 : k + 5 < N := by omega
  have hk6 : k + 6 < N := by omega
  have hk7 : k + 7 < N := by omega
  have hP : va_P D vwCl (iW ad N (rfSet cI ad F k r ps sl sd ne fa bu hs st ln pt th)) s.heap := by rw [rfSet_self hR]; exact hP
  have hl : lv_has ls 2 [(0, .ref (ad k)), (1, .int x)] := hl
  refine lv_aload_n hx hb (dk kX6_fails_ok 0 rfl) rfl (lv_at hl 0 rfl) ?_
  refine lv_iload_n hx hb (dk kX6_fails_ok 1 rfl) rfl (lv_at hl 1 rfl) ?_
  refine pf (rfSet cI ad F k r ps sl sd ne fa bu hs st ln pt x) hx hb hts (fun w h => List.mem_cons_of_mem _ (acX6 w h)) tyX6 tyX6_ok nmX6 hown hK hDi hP hS hk0 rfSet_at.1 rfl 11 (by decide) (hts _ (List.mem_cons_of_mem _ (ac18 _ (List.mem_of_getElem? (i := 4) rfl)))) (fun _ h => h) rfl (ty := .int) rfl rfl rfl (Nat.le_of_ble_eq_true rfl) (dk kX6_fails_ok 2 rfl) rfSet_u0 (fun H locs hP hS => ?_)
  refine lv_iconst (v := nI 0) hx hb (dk kX6_fails_ok 3 rfl) rfl ?_
  exact hret _ _ _ _ _ _ _ _ rfl (by exact ⟨rfl, rfl⟩) hP hS (by decide) (by decide) (dk kX6_fails_ok 4 rfl)
set_option maxRecDepth 100000 in
set_option maxHeartbeats 4000000 in
theorem tX6_lay (l : Launch) (D : va_G) (cI cQ cL : ClassId) (ad : Nat → Nat) (N : Nat) (F : Nat → va_E) (k : Nat) (hk : k + 7 < N) (r ps sl sd ne fa bu : Nat → Int32) (hs : Bool) (st ln pt : Nat) (th : Int32) (hR : rfAt cI ad F k r ps sl sd ne fa bu hs st ln pt th) (x : Int32) (w : Nat) (hxw : x = nI w) (hw : w < 16) (q : Int32) : MX l yX6_lay (Cond.code yX6_lay cX6_lay 3 none :: AW) ({ frames := 1, cells := 0, slots := 0, locals := 23 } : Room) D cI cQ cL ad N F [.ref (ad k), .int x, .int q] (dp none (rfSet cI ad F k (rly r w q) ps sl sd ne fa bu hs st ln pt th)) 0 0 := by
  refine mx_v (by decide +kernel) rfl (Nat.le_of_ble_eq_true rfl) (fun p e s m below meth cd Q ls hx hb hml hown hts hDi hP hK hNW hS hret hl => ?_)
  have hown : s.vm.findClass RX6 = some m.cls := hown
  subst hxw
  have hk0 : k < N := by omega
  have hk1 : k + 1 < N := by omega
  have hk2 : k + 2 < N := by omega
  have hk3 : k + 3 < N := by omega
  have hk4 : k + 4 < N := by omega
  have hk5 : k + 5 < N := by omega
  have hk6 : k + 6 < N := by omega
  have hk7 : k + 7 < N := by omega
  have hP : va_P D vwCl (iW ad N (rfSet cI ad F k r ps sl sd ne fa bu hs st ln pt th)) s.heap := by rw [rfSet_self hR]; exact hP
  have hl : lv_has ls 3 [(0, .ref (ad k)), (1, .int (nI w)), (2, .int q)] := hl
  refine lv_aload_n hx hb (dk kX6_lay_ok 0 rfl) rfl (lv_at hl 0 rfl) ?_
  refine gf hx hb hts (fun w h => List.mem_cons_of_mem _ (acX6 w h)) hown hK hP hk0 rfSet_at.1 rfl 0 (by decide) (hts _ (List.mem_cons_of_mem _ (ac17 _ (List.mem_of_getElem? (i := 17) rfl)))) (fun _ h => h) rfl (dk kX6_lay_ok 1 rfl) ?_
  refine lv_iconst (v := nI 0) hx hb (dk kX6_lay_ok 2 rfl) rfl ?_
  refine lv_iload_n hx hb (dk kX6_lay_ok 3 rfl) rfl (lv_at hl 1 rfl) ?_
  refine n_iadd0 hx hb (dk kX6_lay_ok 4 rfl) ?_
  refine lv_iconst (v := -1) hx hb (dk kX6_lay_ok 5 rfl) rfl ?_
  refine ast (rfSet cI ad F k (upd r w (-1)) ps sl sd ne fa bu hs st ln pt th) (j := w) hx hb hK hDi hP hS hk1 rfSet_at.2.1 rfl (by omega) (by decide) (dk kX6_lay_ok 6 rfl) rfSet_u1 (fun H locs hP hS => ?_)
  refine lv_aload_n hx hb (dk kX6_lay_ok 7 rfl) rfl (lv_at hl 0 rfl) ?_
  refine gf hx hb hts (fun w h => List.mem_cons_of_mem _ (acX6 w h)) hown hK hP hk0 rfSet_at.1 rfl 0 (by decide) (hts _ (List.mem_cons_of_mem _ (ac17 _ (List.mem_of_getElem? (i := 17) rfl)))) (fun _ h => h) rfl (dk kX6_lay_ok 8 rfl) ?_
  refine lv_bipush (v := nI 16) hx hb (dk kX6_lay_ok 9 rfl) rfl ?_
  refine lv_iload_n hx hb (dk kX6_lay_ok 10 rfl) rfl (lv_at hl 1 rfl) ?_
  refine n_iadd hx hb (dk kX6_lay_ok 11 rfl) ?_
  refine lv_iconst (v := -1) hx hb (dk kX6_lay_ok 12 rfl) rfl ?_
  refine ast (rfSet cI ad F k (upd (upd r w (-1)) (16 + w) (-1)) ps sl sd ne fa bu hs st ln pt th) (j := (16 + w)) hx hb hK hDi hP hS hk1 rfSet_at.2.1 rfl (by omega) (by decide) (dk kX6_lay_ok 13 rfl) rfSet_u1 (fun H locs hP hS => ?_)
  refine lv_iload_n hx hb (dk kX6_lay_ok 14 rfl) rfl (lv_at hl 2 rfl) ?_
  refine lv_bipush (v := nI 84) hx hb (dk kX6_lay_ok 15 rfl) rfl ?_
  refine lv_icmp_eq (tgt := 48) hx hb (dk kX6_lay_ok 16 rfl) (by decide) (fun h1 => ?_) (fun h1 => ?_)
  · skip
    exact hret _ _ _ _ _ _ _ (by refine ⟨rfl, ?_⟩; simp only [rly, rly1, (eq_true h1), not_true_eq_false, not_false_eq_true, and_true, true_and, and_false, false_and, or_true, true_or, or_false, false_or, and_self, or_self, if_true, if_false, Bool.false_eq_true, reduceIte]) hP hS (by decide) (by decide) (dk kX6_lay_ok 33 rfl)
  · skip
    refine lv_aload_n hx hb (dk kX6_lay_ok 17 rfl) rfl (lv_at hl 0 rfl) ?_
    refine gf hx hb hts (fun w h => List.mem_cons_of_mem _ (acX6 w h)) hown hK hP hk0 rfSet_at.1 rfl 0 (by decide) (hts _ (List.mem_cons_of_mem _ (ac17 _ (List.mem_of_getElem? (i := 17) rfl)))) (fun _ h => h) rfl (dk kX6_lay_ok 18 rfl) ?_
    refine lv_bipush (v := nI 16) hx hb (dk kX6_lay_ok 19 rfl) rfl ?_
    refine lv_iload_n hx hb (dk kX6_lay_ok 20 rfl) rfl (lv_at hl 1 rfl) ?_
    refine n_iadd hx hb (dk kX6_lay_ok 21 rfl) ?_
    refine lv_aload_n hx hb (dk kX6_lay_ok 22 rfl) rfl (lv_at hl 0 rfl) ?_
    refine lv_iload_n hx hb (dk kX6_lay_ok 23 rfl) rfl (lv_at hl 2 rfl) ?_
    refine cvR (As := [.int q]) (rest := [.int (nI (16 + w)), .ref (ad (k + 1))]) ⟨hx, hb, hml, hown, hts⟩ (tX6_lying l D cI cQ cL ad N (rfSet cI ad F k (upd (upd r w (-1)) (16 + w) (-1)) ps sl sd ne fa bu hs st ln pt th) k hk (upd (upd r w (-1)) (16 + w) (-1)) ps sl sd ne fa bu hs st ln pt th (rfSet_at) q) (cwV9 1 hts mcX6_lying (ac18 _ (List.mem_of_getElem? (i := 10) rfl)) miX6_lying meX6_lying mini_RX6 rfl rfl hdX6_lying ⟨Nat.le_of_ble_eq_true rfl, Nat.le_of_ble_eq_true rfl⟩) hK hP hNW hk0 rfSet_at.1 rfl rfl hl.1 rfl (Nat.le_of_ble_eq_true rfl) (by decide) (dk kX6_lay_ok 24 rfl) ?_
    refine ast (rfSet cI ad F k (upd (upd (upd r w (-1)) (16 + w) (-1)) (16 + w) (nI (hgt (upd (upd r w (-1)) (16 + w) (-1)) q))) ps sl sd ne fa bu hs st ln pt th) (j := (16 + w)) hx hb hK hDi hP hS hk1 rfSet_at.2.1 rfl (by omega) (by decide) (dk kX6_lay_ok 25 rfl) rfSet_u1 (fun H locs hP hS => ?_)
    refine lv_aload_n hx hb (dk kX6_lay_ok 26 rfl) rfl (lv_at hl 0 rfl) ?_
    refine gf hx hb hts (fun w h => List.mem_cons_of_mem _ (acX6 w h)) hown hK hP hk0 rfSet_at.1 rfl 0 (by decide) (hts _ (List.mem_cons_of_mem _ (ac17 _ (List.mem_of_getElem? (i := 17) rfl)))) (fun _ h => h) rfl (dk kX6_lay_ok 27 rfl) ?_
    refine lv_iconst (v := nI 0) hx hb (dk kX6_lay_ok 28 rfl) rfl ?_
    refine lv_iload_n hx hb (dk kX6_lay_ok 29 rfl) rfl (lv_at hl 1 rfl) ?_
    refine n_iadd0 hx hb (dk kX6_lay_ok 30 rfl) ?_
    refine lv_iload_n hx hb (dk kX6_lay_ok 31 rfl) rfl (lv_at hl 2 rfl) ?_
    refine ast (rfSet cI ad F k (upd (upd (upd (upd r w (-1)) (16 + w) (-1)) (16 + w) (nI (hgt (upd (upd r w (-1)) (16 + w) (-1)) q))) w q) ps sl sd ne fa bu hs st ln pt th) (j := w) hx hb hK hDi hP hS hk1 rfSet_at.2.1 rfl (by omega) (by decide) (dk kX6_lay_ok 32 rfl) rfSet_u1 (fun H locs hP hS => ?_)
    exact hret _ _ _ _ _ _ _ (by refine ⟨rfl, ?_⟩; simp only [rly, rly1, (eq_false h1), not_true_eq_false, not_false_eq_true, and_true, true_and, and_false, false_and, or_true, true_or, or_false, false_or, and_self, or_self, if_true, if_false, Bool.false_eq_true, reduceIte]) hP hS (by decide) (by decide) (dk kX6_lay_ok 33 rfl)
set_option maxRecDepth 100000 in
set_option maxHeartbeats 4000000 in
theorem tX6_pass (l : Launch) (D : va_G) (cI cQ cL : ClassId) (ad : Nat → Nat) (N : Nat) (F : Nat → va_E) (k : Nat) (hk : k + 7 < N) (r ps sl sd ne fa bu : Nat → Int32) (hs : Bool) (st ln pt : Nat) (th : Int32) (hR : rfAt cI ad F k r ps sl sd ne fa bu hs st ln pt th) (t : Nat) (ht : t < 4) (hrt : r 56 = nI t) (hlo : lo01 r) : MX l yX6_pass (Cond.code yX6_pass cX6_pass 2 none :: AW) ({ frames := 3, cells := 0, slots := 0, locals := 64 } : Room) D cI cQ cL ad N F [.ref (ad k)] (dp none (rfSet cI ad F k (rpass r t) ps sl sd ne fa bu hs st ln pt th)) 0 0 := by
  refine mx_v (by decide +kernel) rfl (Nat.le_of_ble_eq_true rfl) (fun p e s m below meth cd Q ls hx hb hml hown hts hDi hP hK hNW hS hret hl => ?_)
  have hown : s.vm.findClass RX6 = some m.cls := hown
  have hk0 : k < N := by omega
  have hk1 : k + 1 < N := by omega
  have hk2 : k + 2 < N := by omega
  have hk3 : k + 3 < N := by omega
  have hk4 : k + 4 < N := by omega
  have hk5 : k + 5 < N := by omega
  have hk6 : k + 6 < N := by omega
  have hk7 : k + 7 < N := by omega
  have hP : va_P D vwCl (iW ad N (rfSet cI ad F k r ps sl sd ne fa bu hs st ln pt th)) s.heap := by rw [rfSet_self hR]; exact hP
  have hl : lv_has ls 2 [(0, .ref (ad k))] := hl
  refine lv_aload_n hx hb (dk kX6_pass_ok 0 rfl) rfl (lv_at hl 0 rfl) ?_
  refine cvR (As := []) (rest := []) ⟨hx, hb, hml, hown, hts⟩ (tX6_isOver l D cI cQ cL ad N (rfSet cI ad F k r ps sl sd ne fa bu hs st ln pt th) k hk r ps sl sd ne fa bu hs st ln pt th (rfSet_at)) (cwV9 0 hts mcX6_isOver (ac19 _ (List.mem_of_getElem? (i := 2) rfl)) miX6_isOver meX6_isOver mini_RX6 rfl rfl hdX6_isOver ⟨Nat.le_of_ble_eq_true rfl, Nat.le_of_ble_eq_true rfl⟩) hK hP hNW hk0 rfSet_at.1 rfl rfl hl.1 rfl (Nat.le_of_ble_eq_true rfl) (by decide) (dk kX6_pass_ok 1 rfl) ?_
  refine b_if_eq (tgt := 8) hx hb (dk kX6_pass_ok 2 rfl) (by decide) (fun h1 => ?_) (fun h1 => ?_)
  · skip
    refine lv_iconst (v := nI 1) hx hb (dk kX6_pass_ok 4 rfl) rfl ?_
    refine lv_istore_n (lv' := [(1, .int (nI 1)), (0, .ref (ad k))]) hx hb (dk kX6_pass_ok 5 rfl) rfl hl (by decide) rfl (fun ls hl => ?_)
    have L10 : ∀ (fu : Nat) (i t2 : Nat) (r2 : Nat → Int32) (g : Bool) (x1 : Int32) (H : Heap) (locs : List Loc), va_P D vwCl (iW ad N (rfSet cI ad F k r2 ps sl sd ne fa bu hs st ln pt th)) H → va_S (iA ad N s.heap.size) s.heap H locs → x1 = bI g → i ≤ 5 → t2 < 4 → r2 56 = nI t2 → lo01 r2 → (g = true → rps 8 r t = rps (8 - i) r2 t2 ∧ i + lsu r2 ≤ 4) → (g = false → rps 8 r t = r2) → (if g = true then 1 else 0) + (10 - i) < fu → ∀ ls : Array Slot, lv_has ls 2 [(0, .ref (ad k)), (1, .int x1)] → W p l e ({ frames := 3, cells := 0, slots := 0, locals := 64 } : Room) s m ([.ref (ad k)] : List Value).toArray below meth cd H locs 0 0 Q (F0 m 10 ls []) := by
      intro fu
      induction fu with
      | zero => intros; omega
      | succ fu ih10 =>
        intro i t2 r2 g x1 H locs hP hS ex1 hi ht2 hrt2 hlo2 hg1 hg0 hm10 ls hl
        subst ex1
        refine lv_iload_n hx hb (dk kX6_pass_ok 6 rfl) rfl (lv_at hl 1 rfl) ?_
        refine b_if_eq (tgt := 86) hx hb (dk kX6_pass_ok 7 rfl) (by decide) (fun h2 => ?_) (fun h2 => ?_)
        · skip
          exact hret _ _ _ _ _ _ _ (by refine ⟨rfl, ?_⟩; simp only [rpass, h1, h2, not_true_eq_false, not_false_eq_true, and_true, true_and, and_false, false_and, or_true, true_or, or_false, false_or, and_self, or_self, if_true, if_false, Bool.false_eq_true, reduceIte]; first | done | (rw [hg0 (by assumption)])) hP hS (by decide) (by decide) (dk kX6_pass_ok 52 rfl)
        · skip
          refine lv_aload_n hx hb (dk kX6_pass_ok 8 rfl) rfl (lv_at hl 0 rfl) ?_
          refine gf hx hb hts (fun w h => List.mem_cons_of_mem _ (acX6 w h)) hown hK hP hk0 rfSet_at.1 rfl 0 (by decide) (hts _ (List.mem_cons_of_mem _ (ac17 _ (List.mem_of_getElem? (i := 17) rfl)))) (fun _ h => h) rfl (dk kX6_pass_ok 9 rfl) ?_
          refine lv_bipush (v := nI 56) hx hb (dk kX6_pass_ok 10 rfl) rfl ?_
          refine lv_aload_n hx hb (dk kX6_pass_ok 11 rfl) rfl (lv_at hl 0 rfl) ?_
          refine gf hx hb hts (fun w h => List.mem_cons_of_mem _ (acX6 w h)) hown hK hP hk0 rfSet_at.1 rfl 0 (by decide) (hts _ (List.mem_cons_of_mem _ (ac17 _ (List.mem_of_getElem? (i := 17) rfl)))) (fun _ h => h) rfl (dk kX6_pass_ok 12 rfl) ?_
          refine lv_bipush (v := nI 56) hx hb (dk kX6_pass_ok 13 rfl) rfl ?_
          refine ald (j := 56) hx hb hK hP hk1 rfSet_at.2.1 rfl (by omega) (by decide) (dk kX6_pass_ok 14 rfl) ?_
          rw [show r2 56 = nI t2 from hrt2]
          refine lv_iconst (v := nI 1) hx hb (dk kX6_pass_ok 15 rfl) rfl ?_
          refine n_iadd hx hb (dk kX6_pass_ok 16 rfl) ?_
          refine lv_iconst (v := nI 4) hx hb (dk kX6_pass_ok 17 rfl) rfl ?_
          refine n_irem hx hb (by omega) (by decide) (by decide) (dk kX6_pass_ok 18 rfl) ?_
          refine ast (rfSet cI ad F k (upd r2 56 (nI ((t2 + 1) % 4))) ps sl sd ne fa bu hs st ln pt th) (j := 56) hx hb hK hDi hP hS hk1 rfSet_at.2.1 rfl (by omega) (by decide) (dk kX6_pass_ok 19 rfl) rfSet_u1 (fun H locs hP hS => ?_)
          refine lv_aload_n hx hb (dk kX6_pass_ok 20 rfl) rfl (lv_at hl 0 rfl) ?_
          refine gf hx hb hts (fun w h => List.mem_cons_of_mem _ (acX6 w h)) hown hK hP hk0 rfSet_at.1 rfl 0 (by decide) (hts _ (List.mem_cons_of_mem _ (ac17 _ (List.mem_of_getElem? (i := 17) rfl)))) (fun _ h => h) rfl (dk kX6_pass_ok 21 rfl) ?_
          refine lv_bipush (v := nI 52) hx hb (dk kX6_pass_ok 22 rfl) rfl ?_
          refine lv_aload_n hx hb (dk kX6_pass_ok 23 rfl) rfl (lv_at hl 0 rfl) ?_
          refine gf hx hb hts (fun w h => List.mem_cons_of_mem _ (acX6 w h)) hown hK hP hk0 rfSet_at.1 rfl 0 (by decide) (hts _ (List.mem_cons_of_mem _ (ac17 _ (List.mem_of_getElem? (i := 17) rfl)))) (fun _ h => h) rfl (dk kX6_pass_ok 24 rfl) ?_
          refine lv_bipush (v := nI 56) hx hb (dk kX6_pass_ok 25 rfl) rfl ?_
          refine ald (j := 56) hx hb hK hP hk1 rfSet_at.2.1 rfl (by omega) (by decide) (dk kX6_pass_ok 26 rfl) ?_
          rw [show (upd r2 56 (nI ((t2 + 1) % 4))) 56 = nI ((t2 + 1) % 4) from upd_at9]
          refine n_iadd hx hb (dk kX6_pass_ok 27 rfl) ?_
          refine ald (j := (52 + ((t2 + 1) % 4))) hx hb hK hP hk1 rfSet_at.2.1 rfl (by omega) (by decide) (dk kX6_pass_ok 28 rfl) ?_
          refine lv_if_le (tgt := 54) hx hb (dk kX6_pass_ok 29 rfl) (by decide) (fun h3 => ?_) (fun h3 => ?_)
          · skip
            refine lv_iconst (v := nI 0) hx hb (dk kX6_pass_ok 32 rfl) rfl ?_
            refine lv_istore_n (lv' := [(1, .int (nI 0)), (0, .ref (ad k))]) hx hb (dk kX6_pass_ok 33 rfl) rfl hl (by decide) rfl (fun ls hl => ?_)
            refine lv_aload_n hx hb (dk kX6_pass_ok 34 rfl) rfl (lv_at hl 1 rfl) ?_
            refine gf hx hb hts (fun w h => List.mem_cons_of_mem _ (acX6 w h)) hown hK hP hk0 rfSet_at.1 rfl 0 (by decide) (hts _ (List.mem_cons_of_mem _ (ac17 _ (List.mem_of_getElem? (i := 17) rfl)))) (fun _ h => h) rfl (dk kX6_pass_ok 35 rfl) ?_
            refine lv_bipush (v := nI 52) hx hb (dk kX6_pass_ok 36 rfl) rfl ?_
            refine lv_aload_n hx hb (dk kX6_pass_ok 37 rfl) rfl (lv_at hl 1 rfl) ?_
            refine gf hx hb hts (fun w h => List.mem_cons_of_mem _ (acX6 w h)) hown hK hP hk0 rfSet_at.1 rfl 0 (by decide) (hts _ (List.mem_cons_of_mem _ (ac17 _ (List.mem_of_getElem? (i := 17) rfl)))) (fun _ h => h) rfl (dk kX6_pass_ok 38 rfl) ?_
            refine lv_bipush (v := nI 56) hx hb (dk kX6_pass_ok 39 rfl) rfl ?_
            refine ald (j := 56) hx hb hK hP hk1 rfSet_at.2.1 rfl (by omega) (by decide) (dk kX6_pass_ok 40 rfl) ?_
            rw [show (upd r2 56 (nI ((t2 + 1) % 4))) 56 = nI ((t2 + 1) % 4) from upd_at9]
            refine n_iadd hx hb (dk kX6_pass_ok 41 rfl) ?_
            refine lv_dup2_11 hx hb (dk kX6_pass_ok 42 rfl) rfl rfl ?_
            refine ald (j := (52 + ((t2 + 1) % 4))) hx hb hK hP hk1 rfSet_at.2.1 rfl (by omega) (by decide) (dk kX6_pass_ok 43 rfl) ?_
            refine lv_iload_n hx hb (dk kX6_pass_ok 44 rfl) rfl (lv_at hl 0 rfl) ?_
            refine n_if_eq (tgt := 80) hx hb (by decide) (dk kX6_pass_ok 45 rfl) (by decide) ?_ (fun h9 => absurd h9 (by decide))
            intro _
            refine lv_iconst (v := nI 0) hx hb (dk kX6_pass_ok 48 rfl) rfl ?_
            refine lv_isub hx hb (dk kX6_pass_ok 49 rfl) ?_
            refine ast (rfSet cI ad F k (upd (upd r2 56 (nI ((t2 + 1) % 4))) (52 + ((t2 + 1) % 4)) (((upd r2 56 (nI ((t2 + 1) % 4))) (52 + ((t2 + 1) % 4))) - (nI 0))) ps sl sd ne fa bu hs st ln pt th) (j := (52 + ((t2 + 1) % 4))) hx hb hK hDi hP hS hk1 rfSet_at.2.1 rfl (by omega) (by decide) (dk kX6_pass_ok 50 rfl) rfSet_u1 (fun H locs hP hS => ?_)
            refine lv_goto (tgt := 10) hx hb (dk kX6_pass_ok 51 rfl) (by decide) ?_
            exact ih10 (i + 1) ((t2 + 1) % 4) (upd (upd r2 56 (nI ((t2 + 1) % 4))) (52 + ((t2 + 1) % 4)) (((upd r2 56 (nI ((t2 + 1) % 4))) (52 + ((t2 + 1) % 4))) - (nI 0))) false _ _ _ hP hS (by rfl) (by have h9 := (hg1 h2).2; omega) (by omega) (by rw [upd_ne9 (by omega), upd_at9]) (by first | exact lo01_go (by omega) (lo01_56 hlo2) (by assumption) | exact lo01_end (by omega) (lo01_56 hlo2)) (by first | (intro h9; exact absurd h9 (by decide)) | exact fun _ => rps_go (hg1 h2) hlo2 (by assumption)) (by first | (intro h9; exact absurd h9 (by decide)) | exact fun _ => rps_end (hg1 h2) (by assumption)) (by have h9 := (hg1 h2).2; have h8 := h2; simp only [h8, if_true, Bool.false_eq_true, if_false] at *; omega) ls (lv_sub hl [1, 0] rfl)
          · skip
            refine lv_iconst (v := nI 1) hx hb (dk kX6_pass_ok 30 rfl) rfl ?_
            refine lv_goto (tgt := 55) hx hb (dk kX6_pass_ok 31 rfl) (by decide) ?_
            refine lv_istore_n (lv' := [(1, .int (nI 1)), (0, .ref (ad k))]) hx hb (dk kX6_pass_ok 33 rfl) rfl hl (by decide) rfl (fun ls hl => ?_)
            refine lv_aload_n hx hb (dk kX6_pass_ok 34 rfl) rfl (lv_at hl 1 rfl) ?_
            refine gf hx hb hts (fun w h => List.mem_cons_of_mem _ (acX6 w h)) hown hK hP hk0 rfSet_at.1 rfl 0 (by decide) (hts _ (List.mem_cons_of_mem _ (ac17 _ (List.mem_of_getElem? (i := 17) rfl)))) (fun _ h => h) rfl (dk kX6_pass_ok 35 rfl) ?_
            refine lv_bipush (v := nI 52) hx hb (dk kX6_pass_ok 36 rfl) rfl ?_
            refine lv_aload_n hx hb (dk kX6_pass_ok 37 rfl) rfl (lv_at hl 1 rfl) ?_
            refine gf hx hb hts (fun w h => List.mem_cons_of_mem _ (acX6 w h)) hown hK hP hk0 rfSet_at.1 rfl 0 (by decide) (hts _ (List.mem_cons_of_mem _ (ac17 _ (List.mem_of_getElem? (i := 17) rfl)))) (fun _ h => h) rfl (dk kX6_pass_ok 38 rfl) ?_
            refine lv_bipush (v := nI 56) hx hb (dk kX6_pass_ok 39 rfl) rfl ?_
            refine ald (j := 56) hx hb hK hP hk1 rfSet_at.2.1 rfl (by omega) (by decide) (dk kX6_pass_ok 40 rfl) ?_
            rw [show (upd r2 56 (nI ((t2 + 1) % 4))) 56 = nI ((t2 + 1) % 4) from upd_at9]
            refine n_iadd hx hb (dk kX6_pass_ok 41 rfl) ?_
            refine lv_dup2_11 hx hb (dk kX6_pass_ok 42 rfl) rfl rfl ?_
            refine ald (j := (52 + ((t2 + 1) % 4))) hx hb hK hP hk1 rfSet_at.2.1 rfl (by omega) (by decide) (dk kX6_pass_ok 43 rfl) ?_
            refine lv_iload_n hx hb (dk kX6_pass_ok 44 rfl) rfl (lv_at hl 0 rfl) ?_
            refine n_if_eq (tgt := 80) hx hb (by decide) (dk kX6_pass_ok 45 rfl) (by decide) (fun h9 => absurd h9 (by decide)) ?_
            intro _
            refine lv_iconst (v := nI 1) hx hb (dk kX6_pass_ok 46 rfl) rfl ?_
            refine lv_goto (tgt := 81) hx hb (dk kX6_pass_ok 47 rfl) (by decide) ?_
            refine lv_isub hx hb (dk kX6_pass_ok 49 rfl) ?_
            refine ast (rfSet cI ad F k (upd (upd r2 56 (nI ((t2 + 1) % 4))) (52 + ((t2 + 1) % 4)) (((upd r2 56 (nI ((t2 + 1) % 4))) (52 + ((t2 + 1) % 4))) - (nI 1))) ps sl sd ne fa bu hs st ln pt th) (j := (52 + ((t2 + 1) % 4))) hx hb hK hDi hP hS hk1 rfSet_at.2.1 rfl (by omega) (by decide) (dk kX6_pass_ok 50 rfl) rfSet_u1 (fun H locs hP hS => ?_)
            refine lv_goto (tgt := 10) hx hb (dk kX6_pass_ok 51 rfl) (by decide) ?_
            exact ih10 (i + 1) ((t2 + 1) % 4) (upd (upd r2 56 (nI ((t2 + 1) % 4))) (52 + ((t2 + 1) % 4)) (((upd r2 56 (nI ((t2 + 1) % 4))) (52 + ((t2 + 1) % 4))) - (nI 1))) true _ _ _ hP hS (by rfl) (by have h9 := (hg1 h2).2; omega) (by omega) (by rw [upd_ne9 (by omega), upd_at9]) (by first | exact lo01_go (by omega) (lo01_56 hlo2) (by assumption) | exact lo01_end (by omega) (lo01_56 hlo2)) (by first | (intro h9; exact absurd h9 (by decide)) | exact fun _ => rps_go (hg1 h2) hlo2 (by assumption)) (by first | (intro h9; exact absurd h9 (by decide)) | exact fun _ => rps_end (hg1 h2) (by assumption)) (by have h9 := (hg1 h2).2; have h8 := h2; simp only [h8, if_true, Bool.false_eq_true, if_false] at *; omega) ls (lv_sub hl [1, 0] rfl)
    exact L10 _ 0 t r true _ _ _ hP hS (by rfl) (by omega) (by exact ht) (by exact hrt) (by exact hlo) (by exact fun _ => ⟨rfl, by rw [Nat.zero_add]; exact lsu_le hlo⟩) (by intro h9; exact absurd h9 (by decide)) (Nat.lt_succ_self _) ls (lv_sub hl [1, 0] rfl)
  · skip
    exact hret _ _ _ _ _ _ _ (by refine ⟨rfl, ?_⟩; simp only [rpass, h1, not_true_eq_false, not_false_eq_true, and_true, true_and, and_false, false_and, or_true, true_or, or_false, false_or, and_self, or_self, if_true, if_false, Bool.false_eq_true, reduceIte]; first | done | (rw [hg0 (by assumption)])) hP hS (by decide) (by decide) (dk kX6_pass_ok 3 rfl)
set_option maxRecDepth 100000 in
set_option maxHeartbeats 4000000 in
theorem tX6_flies (l : Launch) (D : va_G) (cI cQ cL : ClassId) (ad : Nat → Nat) (N : Nat) (F : Nat → va_E) (k : Nat) (hk : k + 7 < N) (r ps sl sd ne fa bu : Nat → Int32) (hs : Bool) (st ln pt : Nat) (th : Int32) (hR : rfAt cI ad F k r ps sl sd ne fa bu hs st ln pt th) (x : Int32) (w : Nat) (hxw : x = nI w) (hw : w < 16) (y : Int32) (d : Nat) (hyd : y = nI d) (hd : d < 8) (z : Int32) (f : Nat) (hzf : z = nI f) (hf : f < 2 ^ 30) (hc9 : cell9 (r w)) (hl0 : r (52 + w / 4) = nI 0) (t : Nat) (ht : t < 4) (hrt : r 56 = nI t) (hlo : lo01 r) : MX l yX6_flies (Cond.code yX6_flies cX6_flies 5 (some .int) :: AW) ({ frames := 4, cells := 0, slots := 0, locals := 85 } : Room) D cI cQ cL ad N F [.ref (ad k), .int x, .int y, .int z] (dp (some (.int (fans (ldg (r w) (nI d) (stp w f))))) (rfSet cI ad F k (rfx r w (ldg (r w) (nI d) (stp w f)) t) ps sl sd ne fa bu hs st ln pt th)) 0 0 := by
  refine mx_i (ty := .int) (by decide +kernel) rfl (Nat.le_of_ble_eq_true rfl) (fun p e s m below meth cd Q ls hx hb hml hown hts hDi hP hK hNW hS hret hl => ?_)
  have hown : s.vm.findClass RX6 = some m.cls := hown
  subst hxw
  subst hyd
  subst hzf
  have hst : stp w f < 2 ^ 31 := by unfold stp; split <;> omega
  have hk0 : k < N := by omega
  have hk1 : k + 1 < N := by omega
  have hk2 : k + 2 < N := by omega
  have hk3 : k + 3 < N := by omega
  have hk4 : k + 4 < N := by omega
  have hk5 : k + 5 < N := by omega
  have hk6 : k + 6 < N := by omega
  have hk7 : k + 7 < N := by omega
  have hP : va_P D vwCl (iW ad N (rfSet cI ad F k r ps sl sd ne fa bu hs st ln pt th)) s.heap := by rw [rfSet_self hR]; exact hP
  have hl : lv_has ls 5 [(0, .ref (ad k)), (1, .int (nI w)), (2, .int (nI d)), (3, .int (nI f))] := hl
  refine lv_aload_n hx hb (dk kX6_flies_0_ok 0 rfl) rfl (lv_at hl 0 rfl) ?_
  refine gf hx hb hts (fun w h => List.mem_cons_of_mem _ (acX6 w h)) hown hK hP hk0 rfSet_at.1 rfl 0 (by decide) (hts _ (List.mem_cons_of_mem _ (ac17 _ (List.mem_of_getElem? (i := 17) rfl)))) (fun _ h => h) rfl (dk kX6_flies_0_ok 1 rfl) ?_
  refine lv_iconst (v := nI 0) hx hb (dk kX6_flies_0_ok 2 rfl) rfl ?_
  refine lv_iload_n hx hb (dk kX6_flies_0_ok 3 rfl) rfl (lv_at hl 1 rfl) ?_
  refine n_iadd0 hx hb (dk kX6_flies_0_ok 4 rfl) ?_
  refine ald (j := w) hx hb hK hP hk1 rfSet_at.2.1 rfl (by omega) (by decide) (dk kX6_flies_0_ok 5 rfl) ?_
  refine lv_iload_n hx hb (dk kX6_flies_0_ok 6 rfl) rfl (lv_at hl 2 rfl) ?_
  refine lv_iload_n hx hb (dk kX6_flies_0_ok 7 rfl) rfl (lv_at hl 1 rfl) ?_
  refine lv_iload_n hx hb (dk kX6_flies_0_ok 8 rfl) rfl (lv_at hl 3 rfl) ?_
  refine csP (As := [.int (nI w), .int (nI f)]) (rest := [.int (nI d), .int (r w)]) ⟨hx, hb, hml, hown, hts⟩ (tX6_steps l (nI w) w rfl (by omega) (nI f) f rfl (by omega)) (cwS9 2 hts mcX6_steps (ac19 _ (List.mem_of_getElem? (i := 15) rfl)) msX6_steps mini_RX6 rfl rfl hdX6_steps ⟨Nat.le_of_ble_eq_true rfl, Nat.le_of_ble_eq_true rfl⟩) rfl hl.1 rfl (Nat.le_of_ble_eq_true rfl) (by decide) (dk kX6_flies_0_ok 9 rfl) ?_
  refine csP (As := [.int (r w), .int (nI d), .int (nI (stp w f))]) (rest := []) ⟨hx, hb, hml, hown, hts⟩ (tX6_leads l (r w) hc9 (nI d) d rfl (by omega) (nI (stp w f)) (stp w f) rfl (by omega)) (cwS9 3 hts mcX6_leads (ac19 _ (List.mem_of_getElem? (i := 18) rfl)) msX6_leads mini_RX6 rfl rfl hdX6_leads ⟨Nat.le_of_ble_eq_true rfl, Nat.le_of_ble_eq_true rfl⟩) rfl hl.1 rfl (Nat.le_of_ble_eq_true rfl) (by decide) (dk kX6_flies_0_ok 10 rfl) ?_
  refine lv_istore (lv' := [(4, .int (ldg (r w) (nI d) (stp w f))), (0, .ref (ad k)), (1, .int (nI w)), (2, .int (nI d)), (3, .int (nI f))]) hx hb (dk kX6_flies_0_ok 11 rfl) hl (by decide) rfl (fun ls hl => ?_)
  refine lv_aload_n hx hb (dk kX6_flies_0_ok 12 rfl) rfl (lv_at hl 1 rfl) ?_
  refine gf hx hb hts (fun w h => List.mem_cons_of_mem _ (acX6 w h)) hown hK hP hk0 rfSet_at.1 rfl 0 (by decide) (hts _ (List.mem_cons_of_mem _ (ac17 _ (List.mem_of_getElem? (i := 17) rfl)))) (fun _ h => h) rfl (dk kX6_flies_0_ok 13 rfl) ?_
  refine lv_bipush (v := nI 32) hx hb (dk kX6_flies_0_ok 14 rfl) rfl ?_
  refine lv_iload_n hx hb (dk kX6_flies_0_ok 15 rfl) rfl (lv_at hl 2 rfl) ?_
  refine n_iadd hx hb (dk kX6_flies_0_ok 16 rfl) ?_
  refine lv_dup2_11 hx hb (dk kX6_flies_0_ok 17 rfl) rfl rfl ?_
  refine ald (j := (32 + w)) hx hb hK hP hk1 rfSet_at.2.1 rfl (by omega) (by decide) (dk kX6_flies_0_ok 18 rfl) ?_
  refine lv_iconst (v := nI 1) hx hb (dk kX6_flies_0_ok 19 rfl) rfl ?_
  refine lv_iadd hx hb (dk kX6_flies_0_ok 20 rfl) ?_
  refine ast (rfSet cI ad F k (upd r (32 + w) ((r (32 + w)) + (nI 1))) ps sl sd ne fa bu hs st ln pt th) (j := (32 + w)) hx hb hK hDi hP hS hk1 rfSet_at.2.1 rfl (by omega) (by decide) (dk kX6_flies_0_ok 21 rfl) rfSet_u1 (fun H locs hP hS => ?_)
  refine lv_aload_n hx hb (dk kX6_flies_0_ok 22 rfl) rfl (lv_at hl 1 rfl) ?_
  refine gf hx hb hts (fun w h => List.mem_cons_of_mem _ (acX6 w h)) hown hK hP hk0 rfSet_at.1 rfl 0 (by decide) (hts _ (List.mem_cons_of_mem _ (ac17 _ (List.mem_of_getElem? (i := 17) rfl)))) (fun _ h => h) rfl (dk kX6_flies_0_ok 23 rfl) ?_
  refine lv_bipush (v := nI 58) hx hb (dk kX6_flies_0_ok 24 rfl) rfl ?_
  refine lv_dup2_11 hx hb (dk kX6_flies_0_ok 25 rfl) rfl rfl ?_
  refine ald (j := 58) hx hb hK hP hk1 rfSet_at.2.1 rfl (by omega) (by decide) (dk kX6_flies_0_ok 26 rfl) ?_
  refine lv_iconst (v := nI 1) hx hb (dk kX6_flies_0_ok 27 rfl) rfl ?_
  refine lv_iadd hx hb (dk kX6_flies_0_ok 28 rfl) ?_
  refine ast (rfSet cI ad F k (upd (upd r (32 + w) ((r (32 + w)) + (nI 1))) 58 (((upd r (32 + w) ((r (32 + w)) + (nI 1))) 58) + (nI 1))) ps sl sd ne fa bu hs st ln pt th) (j := 58) hx hb hK hDi hP hS hk1 rfSet_at.2.1 rfl (by omega) (by decide) (dk kX6_flies_0_ok 29 rfl) rfSet_u1 (fun H locs hP hS => ?_)
  refine lv_iload hx hb (dk kX6_flies_0_ok 30 rfl) (lv_at hl 0 rfl) ?_
  refine lv_iconst (v := -1) hx hb (dk kX6_flies_0_ok 31 rfl) rfl ?_
  refine lv_icmp_ne (tgt := 93) hx hb (dk kX6_flies_0_ok 32 rfl) (by decide) (fun h1 => ?_) (fun h1 => ?_)
  · skip
    refine lv_aload_n hx hb (dk kX6_flies_1_ok 5 rfl) rfl (lv_at hl 1 rfl) ?_
    refine lv_iload_n hx hb (dk kX6_flies_1_ok 6 rfl) rfl (lv_at hl 2 rfl) ?_
    refine lv_iload hx hb (dk kX6_flies_1_ok 7 rfl) (lv_at hl 0 rfl) ?_
    refine cvDv (As := [.int (nI w), .int (ldg (r w) (nI d) (stp w f))]) (rest := []) (rfSet cI ad F k (rly (upd (upd r (32 + w) ((r (32 + w)) + (nI 1))) 58 (((upd r (32 + w) ((r (32 + w)) + (nI 1))) 58) + (nI 1))) w (ldg (r w) (nI d) (stp w f))) ps sl sd ne fa bu hs st ln pt th) ⟨hx, hb, hml, hown, hts⟩ (tX6_lay l D cI cQ cL ad N (rfSet cI ad F k (upd (upd r (32 + w) ((r (32 + w)) + (nI 1))) 58 (((upd r (32 + w) ((r (32 + w)) + (nI 1))) 58) + (nI 1))) ps sl sd ne fa bu hs st ln pt th) k hk (upd (upd r (32 + w) ((r (32 + w)) + (nI 1))) 58 (((upd r (32 + w) ((r (32 + w)) + (nI 1))) 58) + (nI 1))) ps sl sd ne fa bu hs st ln pt th (rfSet_at) (nI w) w rfl (by omega) (ldg (r w) (nI d) (stp w f))) (cwV9 2 hts mcX6_lay (ac19 _ (List.mem_of_getElem? (i := 21) rfl)) miX6_lay meX6_lay mini_RX6 rfl rfl hdX6_lay ⟨Nat.le_of_ble_eq_true rfl, Nat.le_of_ble_eq_true rfl⟩) hDi hK hP hNW hS hk0 rfSet_at.1 rfl rfl hl.1 rfl (Nat.le_of_ble_eq_true rfl) (by decide) (dk kX6_flies_1_ok 8 rfl) rfSet_rfSet (fun H locs hP hS => ?_)
    refine lv_iload hx hb (dk kX6_flies_1_ok 9 rfl) (lv_at hl 0 rfl) ?_
    refine lv_bipush (v := nI 84) hx hb (dk kX6_flies_1_ok 10 rfl) rfl ?_
    refine lv_icmp_eq (tgt := 111) hx hb (dk kX6_flies_1_ok 11 rfl) (by decide) (fun h2 => ?_) (fun h2 => ?_)
    · skip
      refine lv_iload hx hb (dk kX6_flies_1_ok 14 rfl) (lv_at hl 0 rfl) ?_
      refine csP (As := [.int (ldg (r w) (nI d) (stp w f))]) (rest := []) ⟨hx, hb, hml, hown, hts⟩ (tX6_told l (ldg (r w) (nI d) (stp w f))) (cwS9 1 hts mcX6_told (ac20 _ (List.mem_of_getElem? (i := 5) rfl)) msX6_told mini_RX6 rfl rfl hdX6_told ⟨Nat.le_of_ble_eq_true rfl, Nat.le_of_ble_eq_true rfl⟩) rfl hl.1 rfl (Nat.le_of_ble_eq_true rfl) (by decide) (dk kX6_flies_1_ok 15 rfl) ?_
      exact hret _ _ _ _ _ _ _ _ rfl (by first | exact absurd ((‹_ = (-1 : Int32)›).symm.trans ‹_ = nI 84›) (by decide) | skip; simp (config := { decide := true }) only [dp, rfx, (eq_false h1), (eq_true h2), not_true_eq_false, not_false_eq_true, and_true, true_and, and_false, false_and, or_true, true_or, or_false, false_or, and_self, or_self, if_true, if_false, Bool.false_eq_true, reduceIte]; first | done | (simp_all [rfx, rf1, rf0]; done) | exact ⟨rfl, rfl⟩) hP hS (by decide) (by decide) (dk kX6_flies_1_ok 16 rfl)
    · skip
      refine lv_aload_n hx hb (dk kX6_flies_1_ok 12 rfl) rfl (lv_at hl 1 rfl) ?_
      refine cvDv (As := []) (rest := []) (rfSet cI ad F k (rpass (rly (upd (upd r (32 + w) ((r (32 + w)) + (nI 1))) 58 (((upd r (32 + w) ((r (32 + w)) + (nI 1))) 58) + (nI 1))) w (ldg (r w) (nI d) (stp w f))) t) ps sl sd ne fa bu hs st ln pt th) ⟨hx, hb, hml, hown, hts⟩ (tX6_pass l D cI cQ cL ad N (rfSet cI ad F k (rly (upd (upd r (32 + w) ((r (32 + w)) + (nI 1))) 58 (((upd r (32 + w) ((r (32 + w)) + (nI 1))) 58) + (nI 1))) w (ldg (r w) (nI d) (stp w f))) ps sl sd ne fa bu hs st ln pt th) k hk (rly (upd (upd r (32 + w) ((r (32 + w)) + (nI 1))) 58 (((upd r (32 + w) ((r (32 + w)) + (nI 1))) 58) + (nI 1))) w (ldg (r w) (nI d) (stp w f))) ps sl sd ne fa bu hs st ln pt th (rfSet_at) t ht ((rly0_out hw (by decide) (by decide)).trans hrt) (rly0_lo hw hlo)) (cwV9 0 hts mcX6_pass (ac20 _ (List.mem_of_getElem? (i := 1) rfl)) miX6_pass meX6_pass mini_RX6 rfl rfl hdX6_pass ⟨Nat.le_of_ble_eq_true rfl, Nat.le_of_ble_eq_true rfl⟩) hDi hK hP hNW hS hk0 rfSet_at.1 rfl rfl hl.1 rfl (Nat.le_of_ble_eq_true rfl) (by decide) (dk kX6_flies_1_ok 13 rfl) rfSet_rfSet (fun H locs hP hS => ?_)
      refine lv_iload hx hb (dk kX6_flies_1_ok 14 rfl) (lv_at hl 0 rfl) ?_
      refine csP (As := [.int (ldg (r w) (nI d) (stp w f))]) (rest := []) ⟨hx, hb, hml, hown, hts⟩ (tX6_told l (ldg (r w) (nI d) (stp w f))) (cwS9 1 hts mcX6_told (ac20 _ (List.mem_of_getElem? (i := 5) rfl)) msX6_told mini_RX6 rfl rfl hdX6_told ⟨Nat.le_of_ble_eq_true rfl, Nat.le_of_ble_eq_true rfl⟩) rfl hl.1 rfl (Nat.le_of_ble_eq_true rfl) (by decide) (dk kX6_flies_1_ok 15 rfl) ?_
      exact hret _ _ _ _ _ _ _ _ rfl (by first | exact absurd ((‹_ = (-1 : Int32)›).symm.trans ‹_ = nI 84›) (by decide) | skip; simp (config := { decide := true }) only [dp, rfx, (eq_false h1), (eq_false h2), not_true_eq_false, not_false_eq_true, and_true, true_and, and_false, false_and, or_true, true_or, or_false, false_or, and_self, or_self, if_true, if_false, Bool.false_eq_true, reduceIte]; first | done | (simp_all [rfx, rf1, rf0]; done) | exact ⟨rfl, rfl⟩) hP hS (by decide) (by decide) (dk kX6_flies_1_ok 16 rfl)
  · skip
    refine lv_aload_n hx hb (dk kX6_flies_0_ok 33 rfl) rfl (lv_at hl 1 rfl) ?_
    refine lv_iload_n hx hb (dk kX6_flies_0_ok 34 rfl) rfl (lv_at hl 2 rfl) ?_
    refine lv_iload_n hx hb (dk kX6_flies_0_ok 35 rfl) rfl (lv_at hl 2 rfl) ?_
    refine lv_iconst (v := nI 4) hx hb (dk kX6_flies_0_ok 36 rfl) rfl ?_
    refine n_idiv hx hb (by omega) (by decide) (by decide) (dk kX6_flies_0_ok 37 rfl) ?_
    refine csP (As := [.int (nI (w / 4))]) (rest := [.int (nI w), .ref (ad k)]) ⟨hx, hb, hml, hown, hts⟩ (tX6_base l (nI (w / 4)) (w / 4) rfl (by omega)) (cwS9 1 hts mcX6_base (ac18 _ (List.mem_of_getElem? (i := 0) rfl)) msX6_base mini_RX6 rfl rfl hdX6_base ⟨Nat.le_of_ble_eq_true rfl, Nat.le_of_ble_eq_true rfl⟩) rfl hl.1 rfl (Nat.le_of_ble_eq_true rfl) (by decide) (dk kX6_flies_0_ok 38 rfl) ?_
    refine cvDv (As := [.int (nI w), .int (nI (bs (w / 4)))]) (rest := []) (rfSet cI ad F k (rly (upd (upd r (32 + w) ((r (32 + w)) + (nI 1))) 58 (((upd r (32 + w) ((r (32 + w)) + (nI 1))) 58) + (nI 1))) w (nI (bs (w / 4)))) ps sl sd ne fa bu hs st ln pt th) ⟨hx, hb, hml, hown, hts⟩ (tX6_lay l D cI cQ cL ad N (rfSet cI ad F k (upd (upd r (32 + w) ((r (32 + w)) + (nI 1))) 58 (((upd r (32 + w) ((r (32 + w)) + (nI 1))) 58) + (nI 1))) ps sl sd ne fa bu hs st ln pt th) k hk (upd (upd r (32 + w) ((r (32 + w)) + (nI 1))) 58 (((upd r (32 + w) ((r (32 + w)) + (nI 1))) 58) + (nI 1))) ps sl sd ne fa bu hs st ln pt th (rfSet_at) (nI w) w rfl (by omega) (nI (bs (w / 4)))) (cwV9 2 hts mcX6_lay (ac19 _ (List.mem_of_getElem? (i := 21) rfl)) miX6_lay meX6_lay mini_RX6 rfl rfl hdX6_lay ⟨Nat.le_of_ble_eq_true rfl, Nat.le_of_ble_eq_true rfl⟩) hDi hK hP hNW hS hk0 rfSet_at.1 rfl rfl hl.1 rfl (Nat.le_of_ble_eq_true rfl) (by decide) (dk kX6_flies_0_ok 39 rfl) rfSet_rfSet (fun H locs hP hS => ?_)
    refine lv_aload_n hx hb (dk kX6_flies_0_ok 40 rfl) rfl (lv_at hl 1 rfl) ?_
    refine gf hx hb hts (fun w h => List.mem_cons_of_mem _ (acX6 w h)) hown hK hP hk0 rfSet_at.1 rfl 0 (by decide) (hts _ (List.mem_cons_of_mem _ (ac17 _ (List.mem_of_getElem? (i := 17) rfl)))) (fun _ h => h) rfl (dk kX6_flies_0_ok 41 rfl) ?_
    refine lv_bipush (v := nI 48) hx hb (dk kX6_flies_0_ok 42 rfl) rfl ?_
    refine lv_iload_n hx hb (dk kX6_flies_0_ok 43 rfl) rfl (lv_at hl 2 rfl) ?_
    refine lv_iconst (v := nI 4) hx hb (dk kX6_flies_0_ok 44 rfl) rfl ?_
    refine n_idiv hx hb (by omega) (by decide) (by decide) (dk kX6_flies_0_ok 45 rfl) ?_
    refine n_iadd hx hb (dk kX6_flies_0_ok 46 rfl) ?_
    refine lv_dup2_11 hx hb (dk kX6_flies_0_ok 47 rfl) rfl rfl ?_
    refine ald (j := (48 + (w / 4))) hx hb hK hP hk1 rfSet_at.2.1 rfl (by omega) (by decide) (dk kX6_flies_0_ok 48 rfl) ?_
    refine lv_iconst (v := nI 1) hx hb (dk kX6_flies_0_ok 49 rfl) rfl ?_
    refine lv_iadd hx hb (dk kX6_flies_0_ok 50 rfl) ?_
    refine ast (rfSet cI ad F k (upd (rly (upd (upd r (32 + w) ((r (32 + w)) + (nI 1))) 58 (((upd r (32 + w) ((r (32 + w)) + (nI 1))) 58) + (nI 1))) w (nI (bs (w / 4)))) (48 + (w / 4)) (((rly (upd (upd r (32 + w) ((r (32 + w)) + (nI 1))) 58 (((upd r (32 + w) ((r (32 + w)) + (nI 1))) 58) + (nI 1))) w (nI (bs (w / 4)))) (48 + (w / 4))) + (nI 1))) ps sl sd ne fa bu hs st ln pt th) (j := (48 + (w / 4))) hx hb hK hDi hP hS hk1 rfSet_at.2.1 rfl (by omega) (by decide) (dk kX6_flies_0_ok 51 rfl) rfSet_u1 (fun H locs hP hS => ?_)
    refine lv_aload_n hx hb (dk kX6_flies_0_ok 52 rfl) rfl (lv_at hl 1 rfl) ?_
    refine gf hx hb hts (fun w h => List.mem_cons_of_mem _ (acX6 w h)) hown hK hP hk0 rfSet_at.1 rfl 0 (by decide) (hts _ (List.mem_cons_of_mem _ (ac17 _ (List.mem_of_getElem? (i := 17) rfl)))) (fun _ h => h) rfl (dk kX6_flies_0_ok 53 rfl) ?_
    refine lv_bipush (v := nI 52) hx hb (dk kX6_flies_0_ok 54 rfl) rfl ?_
    refine lv_iload_n hx hb (dk kX6_flies_0_ok 55 rfl) rfl (lv_at hl 2 rfl) ?_
    refine lv_iconst (v := nI 4) hx hb (dk kX6_flies_0_ok 56 rfl) rfl ?_
    refine n_idiv hx hb (by omega) (by decide) (by decide) (dk kX6_flies_0_ok 57 rfl) ?_
    refine n_iadd hx hb (dk kX6_flies_0_ok 58 rfl) ?_
    refine lv_dup2_11 hx hb (dk kX6_flies_0_ok 59 rfl) rfl rfl ?_
    refine ald (j := (52 + (w / 4))) hx hb hK hP hk1 rfSet_at.2.1 rfl (by omega) (by decide) (dk kX6_flies_1_ok 0 rfl) ?_
    refine lv_iconst (v := nI 1) hx hb (dk kX6_flies_1_ok 1 rfl) rfl ?_
    refine lv_iadd hx hb (dk kX6_flies_1_ok 2 rfl) ?_
    refine ast (rfSet cI ad F k (upd (upd (rly (upd (upd r (32 + w) ((r (32 + w)) + (nI 1))) 58 (((upd r (32 + w) ((r (32 + w)) + (nI 1))) 58) + (nI 1))) w (nI (bs (w / 4)))) (48 + (w / 4)) (((rly (upd (upd r (32 + w) ((r (32 + w)) + (nI 1))) 58 (((upd r (32 + w) ((r (32 + w)) + (nI 1))) 58) + (nI 1))) w (nI (bs (w / 4)))) (48 + (w / 4))) + (nI 1))) (52 + (w / 4)) (((upd (rly (upd (upd r (32 + w) ((r (32 + w)) + (nI 1))) 58 (((upd r (32 + w) ((r (32 + w)) + (nI 1))) 58) + (nI 1))) w (nI (bs (w / 4)))) (48 + (w / 4)) (((rly (upd (upd r (32 + w) ((r (32 + w)) + (nI 1))) 58 (((upd r (32 + w) ((r (32 + w)) + (nI 1))) 58) + (nI 1))) w (nI (bs (w / 4)))) (48 + (w / 4))) + (nI 1))) (52 + (w / 4))) + (nI 1))) ps sl sd ne fa bu hs st ln pt th) (j := (52 + (w / 4))) hx hb hK hDi hP hS hk1 rfSet_at.2.1 rfl (by omega) (by decide) (dk kX6_flies_1_ok 3 rfl) rfSet_u1 (fun H locs hP hS => ?_)
    refine lv_goto (tgt := 100) hx hb (dk kX6_flies_1_ok 4 rfl) (by decide) ?_
    refine lv_iload hx hb (dk kX6_flies_1_ok 9 rfl) (lv_at hl 0 rfl) ?_
    refine lv_bipush (v := nI 84) hx hb (dk kX6_flies_1_ok 10 rfl) rfl ?_
    refine lv_icmp_eq (tgt := 111) hx hb (dk kX6_flies_1_ok 11 rfl) (by decide) (fun h3 => ?_) (fun h3 => ?_)
    · skip
      refine lv_iload hx hb (dk kX6_flies_1_ok 14 rfl) (lv_at hl 0 rfl) ?_
      refine csP (As := [.int (ldg (r w) (nI d) (stp w f))]) (rest := []) ⟨hx, hb, hml, hown, hts⟩ (tX6_told l (ldg (r w) (nI d) (stp w f))) (cwS9 1 hts mcX6_told (ac20 _ (List.mem_of_getElem? (i := 5) rfl)) msX6_told mini_RX6 rfl rfl hdX6_told ⟨Nat.le_of_ble_eq_true rfl, Nat.le_of_ble_eq_true rfl⟩) rfl hl.1 rfl (Nat.le_of_ble_eq_true rfl) (by decide) (dk kX6_flies_1_ok 15 rfl) ?_
      exact hret _ _ _ _ _ _ _ _ rfl (by first | exact absurd ((‹_ = (-1 : Int32)›).symm.trans ‹_ = nI 84›) (by decide) | skip; simp (config := { decide := true }) only [dp, rfx, (eq_true h1), (eq_true h3), not_true_eq_false, not_false_eq_true, and_true, true_and, and_false, false_and, or_true, true_or, or_false, false_or, and_self, or_self, if_true, if_false, Bool.false_eq_true, reduceIte]; first | done | (simp_all [rfx, rf1, rf0]; done) | exact ⟨rfl, rfl⟩) hP hS (by decide) (by decide) (dk kX6_flies_1_ok 16 rfl)
    · skip
      refine lv_aload_n hx hb (dk kX6_flies_1_ok 12 rfl) rfl (lv_at hl 1 rfl) ?_
      refine cvDv (As := []) (rest := []) (rfSet cI ad F k (rpass (upd (upd (rly (upd (upd r (32 + w) ((r (32 + w)) + (nI 1))) 58 (((upd r (32 + w) ((r (32 + w)) + (nI 1))) 58) + (nI 1))) w (nI (bs (w / 4)))) (48 + (w / 4)) (((rly (upd (upd r (32 + w) ((r (32 + w)) + (nI 1))) 58 (((upd r (32 + w) ((r (32 + w)) + (nI 1))) 58) + (nI 1))) w (nI (bs (w / 4)))) (48 + (w / 4))) + (nI 1))) (52 + (w / 4)) (((upd (rly (upd (upd r (32 + w) ((r (32 + w)) + (nI 1))) 58 (((upd r (32 + w) ((r (32 + w)) + (nI 1))) 58) + (nI 1))) w (nI (bs (w / 4)))) (48 + (w / 4)) (((rly (upd (upd r (32 + w) ((r (32 + w)) + (nI 1))) 58 (((upd r (32 + w) ((r (32 + w)) + (nI 1))) 58) + (nI 1))) w (nI (bs (w / 4)))) (48 + (w / 4))) + (nI 1))) (52 + (w / 4))) + (nI 1))) t) ps sl sd ne fa bu hs st ln pt th) ⟨hx, hb, hml, hown, hts⟩ (tX6_pass l D cI cQ cL ad N (rfSet cI ad F k (upd (upd (rly (upd (upd r (32 + w) ((r (32 + w)) + (nI 1))) 58 (((upd r (32 + w) ((r (32 + w)) + (nI 1))) 58) + (nI 1))) w (nI (bs (w / 4)))) (48 + (w / 4)) (((rly (upd (upd r (32 + w) ((r (32 + w)) + (nI 1))) 58 (((upd r (32 + w) ((r (32 + w)) + (nI 1))) 58) + (nI 1))) w (nI (bs (w / 4)))) (48 + (w / 4))) + (nI 1))) (52 + (w / 4)) (((upd (rly (upd (upd r (32 + w) ((r (32 + w)) + (nI 1))) 58 (((upd r (32 + w) ((r (32 + w)) + (nI 1))) 58) + (nI 1))) w (nI (bs (w / 4)))) (48 + (w / 4)) (((rly (upd (upd r (32 + w) ((r (32 + w)) + (nI 1))) 58 (((upd r (32 + w) ((r (32 + w)) + (nI 1))) 58) + (nI 1))) w (nI (bs (w / 4)))) (48 + (w / 4))) + (nI 1))) (52 + (w / 4))) + (nI 1))) ps sl sd ne fa bu hs st ln pt th) k hk (upd (upd (rly (upd (upd r (32 + w) ((r (32 + w)) + (nI 1))) 58 (((upd r (32 + w) ((r (32 + w)) + (nI 1))) 58) + (nI 1))) w (nI (bs (w / 4)))) (48 + (w / 4)) (((rly (upd (upd r (32 + w) ((r (32 + w)) + (nI 1))) 58 (((upd r (32 + w) ((r (32 + w)) + (nI 1))) 58) + (nI 1))) w (nI (bs (w / 4)))) (48 + (w / 4))) + (nI 1))) (52 + (w / 4)) (((upd (rly (upd (upd r (32 + w) ((r (32 + w)) + (nI 1))) 58 (((upd r (32 + w) ((r (32 + w)) + (nI 1))) 58) + (nI 1))) w (nI (bs (w / 4)))) (48 + (w / 4)) (((rly (upd (upd r (32 + w) ((r (32 + w)) + (nI 1))) 58 (((upd r (32 + w) ((r (32 + w)) + (nI 1))) 58) + (nI 1))) w (nI (bs (w / 4)))) (48 + (w / 4))) + (nI 1))) (52 + (w / 4))) + (nI 1))) ps sl sd ne fa bu hs st ln pt th (rfSet_at) t ht ((rf1_56 hw).trans hrt) (rf1_lo hw hlo hl0)) (cwV9 0 hts mcX6_pass (ac20 _ (List.mem_of_getElem? (i := 1) rfl)) miX6_pass meX6_pass mini_RX6 rfl rfl hdX6_pass ⟨Nat.le_of_ble_eq_true rfl, Nat.le_of_ble_eq_true rfl⟩) hDi hK hP hNW hS hk0 rfSet_at.1 rfl rfl hl.1 rfl (Nat.le_of_ble_eq_true rfl) (by decide) (dk kX6_flies_1_ok 13 rfl) rfSet_rfSet (fun H locs hP hS => ?_)
      refine lv_iload hx hb (dk kX6_flies_1_ok 14 rfl) (lv_at hl 0 rfl) ?_
      refine csP (As := [.int (ldg (r w) (nI d) (stp w f))]) (rest := []) ⟨hx, hb, hml, hown, hts⟩ (tX6_told l (ldg (r w) (nI d) (stp w f))) (cwS9 1 hts mcX6_told (ac20 _ (List.mem_of_getElem? (i := 5) rfl)) msX6_told mini_RX6 rfl rfl hdX6_told ⟨Nat.le_of_ble_eq_true rfl, Nat.le_of_ble_eq_true rfl⟩) rfl hl.1 rfl (Nat.le_of_ble_eq_true rfl) (by decide) (dk kX6_flies_1_ok 15 rfl) ?_
      exact hret _ _ _ _ _ _ _ _ rfl (by first | exact absurd ((‹_ = (-1 : Int32)›).symm.trans ‹_ = nI 84›) (by decide) | skip; simp (config := { decide := true }) only [dp, rfx, (eq_true h1), (eq_false h3), not_true_eq_false, not_false_eq_true, and_true, true_and, and_false, false_and, or_true, true_or, or_false, false_or, and_self, or_self, if_true, if_false, Bool.false_eq_true, reduceIte]; first | done | (simp_all [rfx, rf1, rf0]; done) | exact ⟨rfl, rfl⟩) hP hS (by decide) (by decide) (dk kX6_flies_1_ok 16 rfl)
set_option maxRecDepth 100000 in
set_option maxHeartbeats 4000000 in
theorem tX6_lifts (l : Launch) (D : va_G) (cI cQ cL : ClassId) (ad : Nat → Nat) (N : Nat) (F : Nat → va_E) (k : Nat) (hk : k + 7 < N) (r ps sl sd ne fa bu : Nat → Int32) (hs : Bool) (st ln pt : Nat) (th : Int32) (hR : rfAt cI ad F k r ps sl sd ne fa bu hs st ln pt th) (x : Int32) (q : Nat) (hxq : x = nI q) (hq : q < 169) (y : Int32) (n : Nat) (hyn : y = nI n) (hn : 1 ≤ n ∧ n < 2 ^ 31) (z : Int32) (d : Nat) (hzd : z = nI d) (hd : d < 8) (hnl : n ≤ hgt r (nI q)) (hwl : rlW r q n d) (t : Nat) (ht : t < 4) (hrt : r 56 = nI t) (hlo : lo01 r) : MX l yX6_lifts (Cond.code yX6_lifts cX6_lifts 6 (some .int) :: AW) ({ frames := 4, cells := 0, slots := 0, locals := 85 } : Room) D cI cQ cL ad N F [.ref (ad k), .int x, .int y, .int z] (dp (some (.int (nI (hgt r (nI q) - n)))) (rfSet cI ad F k (rlx r q n d t) ps sl sd ne fa bu hs st ln pt th)) 0 0 := by
  refine mx_i (ty := .int) (by decide +kernel) rfl (Nat.le_of_ble_eq_true rfl) (fun p e s m below meth cd Q ls hx hb hml hown hts hDi hP hK hNW hS hret hl => ?_)
  have hown : s.vm.findClass RX6 = some m.cls := hown
  subst hxq
  subst hyn
  subst hzd
  have hh16 := hgt_le r (nI q)
  have hk0 : k < N := by omega
  have hk1 : k + 1 < N := by omega
  have hk2 : k + 2 < N := by omega
  have hk3 : k + 3 < N := by omega
  have hk4 : k + 4 < N := by omega
  have hk5 : k + 5 < N := by omega
  have hk6 : k + 6 < N := by omega
  have hk7 : k + 7 < N := by omega
  have hP : va_P D vwCl (iW ad N (rfSet cI ad F k r ps sl sd ne fa bu hs st ln pt th)) s.heap := by rw [rfSet_self hR]; exact hP
  have hl : lv_has ls 6 [(0, .ref (ad k)), (1, .int (nI q)), (2, .int (nI n)), (3, .int (nI d))] := hl
  refine lv_aload_n hx hb (dk kX6_lifts_ok 0 rfl) rfl (lv_at hl 0 rfl) ?_
  refine lv_iload_n hx hb (dk kX6_lifts_ok 1 rfl) rfl (lv_at hl 1 rfl) ?_
  refine cvR (As := [.int (nI q)]) (rest := []) ⟨hx, hb, hml, hown, hts⟩ (tX6_lying l D cI cQ cL ad N (rfSet cI ad F k r ps sl sd ne fa bu hs st ln pt th) k hk r ps sl sd ne fa bu hs st ln pt th (rfSet_at) (nI q)) (cwV9 1 hts mcX6_lying (ac18 _ (List.mem_of_getElem? (i := 10) rfl)) miX6_lying meX6_lying mini_RX6 rfl rfl hdX6_lying ⟨Nat.le_of_ble_eq_true rfl, Nat.le_of_ble_eq_true rfl⟩) hK hP hNW hk0 rfSet_at.1 rfl rfl hl.1 rfl (Nat.le_of_ble_eq_true rfl) (by decide) (dk kX6_lifts_ok 2 rfl) ?_
  refine lv_iload_n hx hb (dk kX6_lifts_ok 3 rfl) rfl (lv_at hl 2 rfl) ?_
  refine n_isub hx hb (by omega) (dk kX6_lifts_ok 4 rfl) ?_
  refine lv_istore (lv' := [(4, .int (nI ((hgt r (nI q)) - n))), (0, .ref (ad k)), (1, .int (nI q)), (2, .int (nI n)), (3, .int (nI d))]) hx hb (dk kX6_lifts_ok 5 rfl) hl (by decide) rfl (fun ls hl => ?_)
  refine lv_iconst (v := nI 0) hx hb (dk kX6_lifts_ok 6 rfl) rfl ?_
  refine lv_istore (lv' := [(5, .int (nI 0)), (4, .int (nI ((hgt r (nI q)) - n))), (0, .ref (ad k)), (1, .int (nI q)), (2, .int (nI n)), (3, .int (nI d))]) hx hb (dk kX6_lifts_ok 7 rfl) hl (by decide) rfl (fun ls hl => ?_)
  have L12 : ∀ (fu : Nat) (i : Nat) (H : Heap) (locs : List Loc), va_P D vwCl (iW ad N (rfSet cI ad F k (rlf r q n d i) ps sl sd ne fa bu hs st ln pt th)) H → va_S (iA ad N s.heap.size) s.heap H locs → i ≤ n → n - i < fu → ∀ ls : Array Slot, lv_has ls 6 [(0, .ref (ad k)), (1, .int (nI q)), (2, .int (nI n)), (3, .int (nI d)), (4, .int (nI (hgt r (nI q) - n))), (5, .int (nI i))] → W p l e ({ frames := 4, cells := 0, slots := 0, locals := 85 } : Room) s m ([.ref (ad k), .int (nI q), .int (nI n), .int (nI d)] : List Value).toArray below meth cd H locs 0 0 Q (F0 m 12 ls []) := by
    intro fu
    induction fu with
    | zero => intros; omega
    | succ fu ih12 =>
      intro i H locs hP hS hi hm12 ls hl
      have hwk : i < n → wk (wat (rlf r q n d i) (nI q) (nI (hgt r (nI q) - n + i))) = true := hwl i
      refine lv_iload hx hb (dk kX6_lifts_ok 8 rfl) (lv_at hl 5 rfl) ?_
      refine lv_iload_n hx hb (dk kX6_lifts_ok 9 rfl) rfl (lv_at hl 2 rfl) ?_
      refine n_icmp_ge (tgt := 43) hx hb (by omega) (by omega) (dk kX6_lifts_ok 10 rfl) (by decide) (fun h1 => ?_) (fun h1 => ?_)
      · skip
        refine lv_aload_n hx hb (dk kX6_lifts_ok 24 rfl) rfl (lv_at hl 0 rfl) ?_
        refine gf hx hb hts (fun w h => List.mem_cons_of_mem _ (acX6 w h)) hown hK hP hk0 rfSet_at.1 rfl 0 (by decide) (hts _ (List.mem_cons_of_mem _ (ac17 _ (List.mem_of_getElem? (i := 17) rfl)))) (fun _ h => h) rfl (dk kX6_lifts_ok 25 rfl) ?_
        refine lv_bipush (v := nI 59) hx hb (dk kX6_lifts_ok 26 rfl) rfl ?_
        refine lv_dup2_11 hx hb (dk kX6_lifts_ok 27 rfl) rfl rfl ?_
        refine ald (j := 59) hx hb hK hP hk1 rfSet_at.2.1 rfl (by omega) (by decide) (dk kX6_lifts_ok 28 rfl) ?_
        refine lv_iconst (v := nI 1) hx hb (dk kX6_lifts_ok 29 rfl) rfl ?_
        refine lv_iadd hx hb (dk kX6_lifts_ok 30 rfl) ?_
        refine ast (rfSet cI ad F k (upd (rlf r q n d i) 59 (((rlf r q n d i) 59) + (nI 1))) ps sl sd ne fa bu hs st ln pt th) (j := 59) hx hb hK hDi hP hS hk1 rfSet_at.2.1 rfl (by omega) (by decide) (dk kX6_lifts_ok 31 rfl) rfSet_u1 (fun H locs hP hS => ?_)
        refine lv_aload_n hx hb (dk kX6_lifts_ok 32 rfl) rfl (lv_at hl 0 rfl) ?_
        refine cvDv (As := []) (rest := []) (rfSet cI ad F k (rpass (upd (rlf r q n d i) 59 (((rlf r q n d i) 59) + (nI 1))) t) ps sl sd ne fa bu hs st ln pt th) ⟨hx, hb, hml, hown, hts⟩ (tX6_pass l D cI cQ cL ad N (rfSet cI ad F k (upd (rlf r q n d i) 59 (((rlf r q n d i) 59) + (nI 1))) ps sl sd ne fa bu hs st ln pt th) k hk (upd (rlf r q n d i) 59 (((rlf r q n d i) 59) + (nI 1))) ps sl sd ne fa bu hs st ln pt th (rfSet_at) t ht (by rw [show i = n by omega]; exact (rlx_56 hwl).trans hrt) (by rw [show i = n by omega]; exact rlx_lo hwl hlo)) (cwV9 0 hts mcX6_pass (ac20 _ (List.mem_of_getElem? (i := 1) rfl)) miX6_pass meX6_pass mini_RX6 rfl rfl hdX6_pass ⟨Nat.le_of_ble_eq_true rfl, Nat.le_of_ble_eq_true rfl⟩) hDi hK hP hNW hS hk0 rfSet_at.1 rfl rfl hl.1 rfl (Nat.le_of_ble_eq_true rfl) (by decide) (dk kX6_lifts_ok 33 rfl) rfSet_rfSet (fun H locs hP hS => ?_)
        refine lv_iload hx hb (dk kX6_lifts_ok 34 rfl) (lv_at hl 4 rfl) ?_
        exact hret _ _ _ _ _ _ _ _ rfl (by rw [show i = n by omega] ; exact ⟨rfl, rfl⟩) hP hS (by decide) (by decide) (dk kX6_lifts_ok 35 rfl)
      · skip
        refine lv_aload_n hx hb (dk kX6_lifts_ok 11 rfl) rfl (lv_at hl 0 rfl) ?_
        refine lv_aload_n hx hb (dk kX6_lifts_ok 12 rfl) rfl (lv_at hl 0 rfl) ?_
        refine lv_iload_n hx hb (dk kX6_lifts_ok 13 rfl) rfl (lv_at hl 1 rfl) ?_
        refine lv_iload hx hb (dk kX6_lifts_ok 14 rfl) (lv_at hl 4 rfl) ?_
        refine lv_iload hx hb (dk kX6_lifts_ok 15 rfl) (lv_at hl 5 rfl) ?_
        refine n_iadd hx hb (dk kX6_lifts_ok 16 rfl) ?_
        refine cvR (As := [.int (nI q), .int (nI ((hgt r (nI q) - n) + i))]) (rest := [.ref (ad k)]) ⟨hx, hb, hml, hown, hts⟩ (tX6_winkAt l D cI cQ cL ad N (rfSet cI ad F k (rlf r q n d i) ps sl sd ne fa bu hs st ln pt th) k hk (rlf r q n d i) ps sl sd ne fa bu hs st ln pt th (rfSet_at) (nI q) (nI ((hgt r (nI q) - n) + i))) (cwV9 2 hts mcX6_winkAt (ac20 _ (List.mem_of_getElem? (i := 8) rfl)) miX6_winkAt meX6_winkAt mini_RX6 rfl rfl hdX6_winkAt ⟨Nat.le_of_ble_eq_true rfl, Nat.le_of_ble_eq_true rfl⟩) hK hP hNW hk0 rfSet_at.1 rfl rfl hl.1 rfl (Nat.le_of_ble_eq_true rfl) (by decide) (dk kX6_lifts_ok 17 rfl) ?_
        refine lv_iload_n hx hb (dk kX6_lifts_ok 18 rfl) rfl (lv_at hl 1 rfl) ?_
        refine lv_iload_n hx hb (dk kX6_lifts_ok 19 rfl) rfl (lv_at hl 3 rfl) ?_
        refine csP (As := [.int (nI q), .int (nI d)]) (rest := [.int (wat (rlf r q n d i) (nI q) (nI ((hgt r (nI q) - n) + i))), .ref (ad k)]) ⟨hx, hb, hml, hown, hts⟩ (tX6_beside l (nI q) q rfl (by omega) (nI d) d rfl (by omega)) (cwS9 2 hts mcX6_beside (ac20 _ (List.mem_of_getElem? (i := 12) rfl)) msX6_beside mini_RX6 rfl rfl hdX6_beside ⟨Nat.le_of_ble_eq_true rfl, Nat.le_of_ble_eq_true rfl⟩) rfl hl.1 rfl (Nat.le_of_ble_eq_true rfl) (by decide) (dk kX6_lifts_ok 20 rfl) ?_
        refine cvDv (As := [.int (wat (rlf r q n d i) (nI q) (nI ((hgt r (nI q) - n) + i))), .int (rbs q d)]) (rest := []) (rfSet cI ad F k (rly (rlf r q n d i) (ix (wat (rlf r q n d i) (nI q) (nI ((hgt r (nI q) - n) + i)))) (rbs q d)) ps sl sd ne fa bu hs st ln pt th) ⟨hx, hb, hml, hown, hts⟩ (tX6_lay l D cI cQ cL ad N (rfSet cI ad F k (rlf r q n d i) ps sl sd ne fa bu hs st ln pt th) k hk (rlf r q n d i) ps sl sd ne fa bu hs st ln pt th (rfSet_at) (wat (rlf r q n d i) (nI q) (nI ((hgt r (nI q) - n) + i))) (ix (wat (rlf r q n d i) (nI q) (nI ((hgt r (nI q) - n) + i)))) (wk_eq (hwk (by omega))) (by have := wk_lt (hwk (by omega)); omega) (rbs q d)) (cwV9 2 hts mcX6_lay (ac19 _ (List.mem_of_getElem? (i := 21) rfl)) miX6_lay meX6_lay mini_RX6 rfl rfl hdX6_lay ⟨Nat.le_of_ble_eq_true rfl, Nat.le_of_ble_eq_true rfl⟩) hDi hK hP hNW hS hk0 rfSet_at.1 rfl rfl hl.1 rfl (Nat.le_of_ble_eq_true rfl) (by decide) (dk kX6_lifts_ok 21 rfl) rfSet_rfSet (fun H locs hP hS => ?_)
        refine lv_iinc (v := nI (i + 1)) (lv' := [(5, .int (nI (i + 1))), (0, .ref (ad k)), (1, .int (nI q)), (2, .int (nI n)), (3, .int (nI d)), (4, .int (nI (hgt r (nI q) - n)))]) hx hb (dk kX6_lifts_ok 22 rfl) hl (k := 5) rfl (n_inc _) (by decide) rfl (fun ls hl => ?_)
        refine lv_goto (tgt := 12) hx hb (dk kX6_lifts_ok 23 rfl) (by decide) ?_
        exact ih12 (i + 1) _ _ (by exact hP) hS (by omega) (by omega) ls (lv_sub hl [1, 2, 3, 4, 5, 0] rfl)
  exact L12 _ 0 _ _ (by exact hP) hS (by first | omega | rfl) (Nat.lt_succ_self _) ls (lv_sub hl [2, 3, 4, 5, 1, 0] rfl)
set_option maxRecDepth 100000 in
set_option maxHeartbeats 4000000 in
theorem tX6_putAside (l : Launch) (D : va_G) (cI cQ cL : ClassId) (ad : Nat → Nat) (N : Nat) (F : Nat → va_E) (k : Nat) (hk : k + 7 < N) (r ps sl sd ne fa bu : Nat → Int32) (hs : Bool) (st ln pt : Nat) (th : Int32) (hR : rfAt cI ad F k r ps sl sd ne fa bu hs st ln pt th) : MX l yX6_putAside (Cond.code yX6_putAside cX6_putAside 2 none :: AW) ({ frames := 0, cells := 0, slots := 0, locals := 0 } : Room) D cI cQ cL ad N F [.ref (ad k)] (dp none (rfSet cI ad F k r ps sl r ne fa bu hs st ln pt th)) 0 0 := by
  refine mx_v (by decide +kernel) rfl (Nat.le_of_ble_eq_true rfl) (fun p e s m below meth cd Q ls hx hb hml hown hts hDi hP hK hNW hS hret hl => ?_)
  have hown : s.vm.findClass RX6 = some m.cls := hown
  have hk0 : k < N := by omega
  have hk1 : k + 1 < N := by omega
  have hk2 : k + 2 < N := by omega
  have hk3 : k + 3 < N := by omega
  have hk4 : k + 4 < N := by omega
  have hk5 : k + 5 < N := by omega
  have hk6 : k + 6 < N := by omega
  have hk7 : k + 7 < N := by omega
  have hP : va_P D vwCl (iW ad N (rfSet cI ad F k r ps sl sd ne fa bu hs st ln pt th)) s.heap := by rw [rfSet_self hR]; exact hP
  have hl : lv_has ls 2 [(0, .ref (ad k))] := hl
  refine lv_iconst (v := nI 0) hx hb (dk kX6_putAside_ok 0 rfl) rfl ?_
  refine lv_istore_n (lv' := [(1, .int (nI 0)), (0, .ref (ad k))]) hx hb (dk kX6_putAside_ok 1 rfl) rfl hl (by decide) rfl (fun ls hl => ?_)
  have L2 : ∀ (fu : Nat) (i : Nat) (H : Heap) (locs : List Loc), va_P D vwCl (iW ad N (rfSet cI ad F k r ps sl (cp9 sd r 0 i) ne fa bu hs st ln pt th)) H → va_S (iA ad N s.heap.size) s.heap H locs → i ≤ 60 → 60 - i < fu → ∀ ls : Array Slot, lv_has ls 2 [(0, .ref (ad k)), (1, .int (nI i))] → W p l e ({ frames := 0, cells := 0, slots := 0, locals := 0 } : Room) s m ([.ref (ad k)] : List Value).toArray below meth cd H locs 0 0 Q (F0 m 2 ls []) := by
    intro fu
    induction fu with
    | zero => intros; omega
    | succ fu ih2 =>
      intro i H locs hP hS hi hm2 ls hl
      refine lv_iload_n hx hb (dk kX6_putAside_ok 2 rfl) rfl (lv_at hl 1 rfl) ?_
      refine lv_bipush (v := nI 60) hx hb (dk kX6_putAside_ok 3 rfl) rfl ?_
      refine n_icmp_ge (tgt := 26) hx hb (by omega) (by decide) (dk kX6_putAside_ok 4 rfl) (by decide) (fun h1 => ?_) (fun h1 => ?_)
      · skip
        exact hret _ _ _ _ _ _ _ (by exact ⟨rfl, rfl⟩) (rf_ext (by rw [show i = 60 by omega] at hP; exact hP) (h4 := fun _ h9 => cp9_lo h9)) hS (by decide) (by decide) (dk kX6_putAside_ok 15 rfl)
      · skip
        refine lv_aload_n hx hb (dk kX6_putAside_ok 5 rfl) rfl (lv_at hl 0 rfl) ?_
        refine gf hx hb hts (fun w h => List.mem_cons_of_mem _ (acX6 w h)) hown hK hP hk0 rfSet_at.1 rfl 3 (by decide) (hts _ (List.mem_cons_of_mem _ (ac17 _ (List.mem_of_getElem? (i := 20) rfl)))) (fun _ h => h) rfl (dk kX6_putAside_ok 6 rfl) ?_
        refine lv_iload_n hx hb (dk kX6_putAside_ok 7 rfl) rfl (lv_at hl 1 rfl) ?_
        refine lv_aload_n hx hb (dk kX6_putAside_ok 8 rfl) rfl (lv_at hl 0 rfl) ?_
        refine gf hx hb hts (fun w h => List.mem_cons_of_mem _ (acX6 w h)) hown hK hP hk0 rfSet_at.1 rfl 0 (by decide) (hts _ (List.mem_cons_of_mem _ (ac17 _ (List.mem_of_getElem? (i := 17) rfl)))) (fun _ h => h) rfl (dk kX6_putAside_ok 9 rfl) ?_
        refine lv_iload_n hx hb (dk kX6_putAside_ok 10 rfl) rfl (lv_at hl 1 rfl) ?_
        refine ald (j := i) hx hb hK hP hk1 rfSet_at.2.1 rfl (by omega) (by decide) (dk kX6_putAside_ok 11 rfl) ?_
        refine ast (rfSet cI ad F k r ps sl (upd (cp9 sd r 0 i) i (r i)) ne fa bu hs st ln pt th) (j := i) hx hb hK hDi hP hS hk4 rfSet_at.2.2.2.2.1 rfl (by omega) (by decide) (dk kX6_putAside_ok 12 rfl) rfSet_u4 (fun H locs hP hS => ?_)
        refine lv_iinc (v := nI (i + 1)) (lv' := [(1, .int (nI (i + 1))), (0, .ref (ad k))]) hx hb (dk kX6_putAside_ok 13 rfl) hl (k := 1) rfl (n_inc _) (by decide) rfl (fun ls hl => ?_)
        refine lv_goto (tgt := 2) hx hb (dk kX6_putAside_ok 14 rfl) (by decide) ?_
        exact ih2 (i + 1) _ _ (by first | (rw [cp9_0]; exact hP) | (rw [← cp9_s0]; exact hP)) hS (by omega) (by omega) ls (lv_sub hl [1, 0] rfl)
  exact L2 _ 0 _ _ (by first | (rw [cp9_0]; exact hP) | (rw [← cp9_s0]; exact hP)) hS (by omega) (Nat.lt_succ_self _) ls (lv_sub hl [1, 0] rfl)
set_option maxRecDepth 100000 in
set_option maxHeartbeats 4000000 in
theorem tX6_takeBack (l : Launch) (D : va_G) (cI cQ cL : ClassId) (ad : Nat → Nat) (N : Nat) (F : Nat → va_E) (k : Nat) (hk : k + 7 < N) (r ps sl sd ne fa bu : Nat → Int32) (hs : Bool) (st ln pt : Nat) (th : Int32) (hR : rfAt cI ad F k r ps sl sd ne fa bu hs st ln pt th) : MX l yX6_takeBack (Cond.code yX6_takeBack cX6_takeBack 2 none :: AW) ({ frames := 0, cells := 0, slots := 0, locals := 0 } : Room) D cI cQ cL ad N F [.ref (ad k)] (dp none (rfSet cI ad F k sd ps sl sd ne fa bu hs st ln pt th)) 0 0 := by
  refine mx_v (by decide +kernel) rfl (Nat.le_of_ble_eq_true rfl) (fun p e s m below meth cd Q ls hx hb hml hown hts hDi hP hK hNW hS hret hl => ?_)
  have hown : s.vm.findClass RX6 = some m.cls := hown
  have hk0 : k < N := by omega
  have hk1 : k + 1 < N := by omega
  have hk2 : k + 2 < N := by omega
  have hk3 : k + 3 < N := by omega
  have hk4 : k + 4 < N := by omega
  have hk5 : k + 5 < N := by omega
  have hk6 : k + 6 < N := by omega
  have hk7 : k + 7 < N := by omega
  have hP : va_P D vwCl (iW ad N (rfSet cI ad F k r ps sl sd ne fa bu hs st ln pt th)) s.heap := by rw [rfSet_self hR]; exact hP
  have hl : lv_has ls 2 [(0, .ref (ad k))] := hl
  refine lv_iconst (v := nI 0) hx hb (dk kX6_takeBack_ok 0 rfl) rfl ?_
  refine lv_istore_n (lv' := [(1, .int (nI 0)), (0, .ref (ad k))]) hx hb (dk kX6_takeBack_ok 1 rfl) rfl hl (by decide) rfl (fun ls hl => ?_)
  have L2 : ∀ (fu : Nat) (i : Nat) (H : Heap) (locs : List Loc), va_P D vwCl (iW ad N (rfSet cI ad F k (cp9 r sd 0 i) ps sl sd ne fa bu hs st ln pt th)) H → va_S (iA ad N s.heap.size) s.heap H locs → i ≤ 60 → 60 - i < fu → ∀ ls : Array Slot, lv_has ls 2 [(0, .ref (ad k)), (1, .int (nI i))] → W p l e ({ frames := 0, cells := 0, slots := 0, locals := 0 } : Room) s m ([.ref (ad k)] : List Value).toArray below meth cd H locs 0 0 Q (F0 m 2 ls []) := by
    intro fu
    induction fu with
    | zero => intros; omega
    | succ fu ih2 =>
      intro i H locs hP hS hi hm2 ls hl
      refine lv_iload_n hx hb (dk kX6_takeBack_ok 2 rfl) rfl (lv_at hl 1 rfl) ?_
      refine lv_bipush (v := nI 60) hx hb (dk kX6_takeBack_ok 3 rfl) rfl ?_
      refine n_icmp_ge (tgt := 26) hx hb (by omega) (by decide) (dk kX6_takeBack_ok 4 rfl) (by decide) (fun h1 => ?_) (fun h1 => ?_)
      · skip
        exact hret _ _ _ _ _ _ _ (by exact ⟨rfl, rfl⟩) (rf_ext (by rw [show i = 60 by omega] at hP; exact hP) (h1 := fun _ h9 => cp9_lo h9)) hS (by decide) (by decide) (dk kX6_takeBack_ok 15 rfl)
      · skip
        refine lv_aload_n hx hb (dk kX6_takeBack_ok 5 rfl) rfl (lv_at hl 0 rfl) ?_
        refine gf hx hb hts (fun w h => List.mem_cons_of_mem _ (acX6 w h)) hown hK hP hk0 rfSet_at.1 rfl 0 (by decide) (hts _ (List.mem_cons_of_mem _ (ac17 _ (List.mem_of_getElem? (i := 17) rfl)))) (fun _ h => h) rfl (dk kX6_takeBack_ok 6 rfl) ?_
        refine lv_iload_n hx hb (dk kX6_takeBack_ok 7 rfl) rfl (lv_at hl 1 rfl) ?_
        refine lv_aload_n hx hb (dk kX6_takeBack_ok 8 rfl) rfl (lv_at hl 0 rfl) ?_
        refine gf hx hb hts (fun w h => List.mem_cons_of_mem _ (acX6 w h)) hown hK hP hk0 rfSet_at.1 rfl 3 (by decide) (hts _ (List.mem_cons_of_mem _ (ac17 _ (List.mem_of_getElem? (i := 20) rfl)))) (fun _ h => h) rfl (dk kX6_takeBack_ok 9 rfl) ?_
        refine lv_iload_n hx hb (dk kX6_takeBack_ok 10 rfl) rfl (lv_at hl 1 rfl) ?_
        refine ald (j := i) hx hb hK hP hk4 rfSet_at.2.2.2.2.1 rfl (by omega) (by decide) (dk kX6_takeBack_ok 11 rfl) ?_
        refine ast (rfSet cI ad F k (upd (cp9 r sd 0 i) i (sd i)) ps sl sd ne fa bu hs st ln pt th) (j := i) hx hb hK hDi hP hS hk1 rfSet_at.2.1 rfl (by omega) (by decide) (dk kX6_takeBack_ok 12 rfl) rfSet_u1 (fun H locs hP hS => ?_)
        refine lv_iinc (v := nI (i + 1)) (lv' := [(1, .int (nI (i + 1))), (0, .ref (ad k))]) hx hb (dk kX6_takeBack_ok 13 rfl) hl (k := 1) rfl (n_inc _) (by decide) rfl (fun ls hl => ?_)
        refine lv_goto (tgt := 2) hx hb (dk kX6_takeBack_ok 14 rfl) (by decide) ?_
        exact ih2 (i + 1) _ _ (by first | (rw [cp9_0]; exact hP) | (rw [← cp9_s0]; exact hP)) hS (by omega) (by omega) ls (lv_sub hl [1, 0] rfl)
  exact L2 _ 0 _ _ (by first | (rw [cp9_0]; exact hP) | (rw [← cp9_s0]; exact hP)) hS (by omega) (Nat.lt_succ_self _) ls (lv_sub hl [1, 0] rfl)
set_option maxRecDepth 100000 in
set_option maxHeartbeats 4000000 in
theorem tX6_record (l : Launch) (D : va_G) (cI cQ cL : ClassId) (ad : Nat → Nat) (N : Nat) (F : Nat → va_E) (k : Nat) (hk : k + 7 < N) (r ps sl sd ne fa bu : Nat → Int32) (hs : Bool) (st ln pt : Nat) (th : Int32) (hR : rfAt cI ad F k r ps sl sd ne fa bu hs st ln pt th) (hst6 : st ≤ 6) : MX l yX6_record (Cond.code yX6_record cX6_record 2 none :: AW) ({ frames := 0, cells := 0, slots := 0, locals := 0 } : Room) D cI cQ cL ad N F [.ref (ad k)] (dp none (rfSet cI ad F k r (rcP ps r st) sl sd ne fa bu hs (rcS st) ln pt th)) 0 0 := by
  refine mx_v (by decide +kernel) rfl (Nat.le_of_ble_eq_true rfl) (fun p e s m below meth cd Q ls hx hb hml hown hts hDi hP hK hNW hS hret hl => ?_)
  have hown : s.vm.findClass RX6 = some m.cls := hown
  have hk0 : k < N := by omega
  have hk1 : k + 1 < N := by omega
  have hk2 : k + 2 < N := by omega
  have hk3 : k + 3 < N := by omega
  have hk4 : k + 4 < N := by omega
  have hk5 : k + 5 < N := by omega
  have hk6 : k + 6 < N := by omega
  have hk7 : k + 7 < N := by omega
  have hP : va_P D vwCl (iW ad N (rfSet cI ad F k r ps sl sd ne fa bu hs st ln pt th)) s.heap := by rw [rfSet_self hR]; exact hP
  have hl : lv_has ls 2 [(0, .ref (ad k))] := hl
  refine lv_aload_n hx hb (dk kX6_record_ok 0 rfl) rfl (lv_at hl 0 rfl) ?_
  refine gf hx hb hts (fun w h => List.mem_cons_of_mem _ (acX6 w h)) hown hK hP hk0 rfSet_at.1 rfl 8 (by decide) (hts _ (List.mem_cons_of_mem _ (ac18 _ (List.mem_of_getElem? (i := 5) rfl)))) (fun _ h => h) rfl (dk kX6_record_ok 1 rfl) ?_
  refine lv_bipush (v := nI 6) hx hb (dk kX6_record_ok 2 rfl) rfl ?_
  refine n_icmp_ne (tgt := 49) hx hb (by omega) (by decide) (dk kX6_record_ok 3 rfl) (by decide) (fun h1 => ?_) (fun h1 => ?_)
  · skip
    refine lv_iconst (v := nI 0) hx hb (dk kX6_record_ok 27 rfl) rfl ?_
    refine lv_istore_n (lv' := [(1, .int (nI 0)), (0, .ref (ad k))]) hx hb (dk kX6_record_ok 28 rfl) rfl hl (by decide) rfl (fun ls hl => ?_)
    have L51 : ∀ (fu : Nat) (i2 : Nat) (H : Heap) (locs : List Loc), va_P D vwCl (iW ad N (rfSet cI ad F k r (cp9 ps r (60 * (st)) i2) sl sd ne fa bu hs st ln pt th)) H → va_S (iA ad N s.heap.size) s.heap H locs → i2 ≤ 60 → 60 - i2 < fu → ∀ ls : Array Slot, lv_has ls 2 [(0, .ref (ad k)), (1, .int (nI i2))] → W p l e ({ frames := 0, cells := 0, slots := 0, locals := 0 } : Room) s m ([.ref (ad k)] : List Value).toArray below meth cd H locs 0 0 Q (F0 m 51 ls []) := by
      intro fu
      induction fu with
      | zero => intros; omega
      | succ fu ih51 =>
        intro i2 H locs hP hS hi2 hm51 ls hl
        refine lv_iload_n hx hb (dk kX6_record_ok 29 rfl) rfl (lv_at hl 1 rfl) ?_
        refine lv_bipush (v := nI 60) hx hb (dk kX6_record_ok 30 rfl) rfl ?_
        refine n_icmp_ge (tgt := 83) hx hb (by omega) (by decide) (dk kX6_record_ok 31 rfl) (by decide) (fun h2 => ?_) (fun h2 => ?_)
        · skip
          refine lv_aload_n hx hb (dk kX6_record_ok 47 rfl) rfl (lv_at hl 0 rfl) ?_
          refine lv_dup hx hb (dk kX6_record_ok 48 rfl) rfl ?_
          refine gf hx hb hts (fun w h => List.mem_cons_of_mem _ (acX6 w h)) hown hK hP hk0 rfSet_at.1 rfl 8 (by decide) (hts _ (List.mem_cons_of_mem _ (ac18 _ (List.mem_of_getElem? (i := 5) rfl)))) (fun _ h => h) rfl (dk kX6_record_ok 49 rfl) ?_
          refine lv_iconst (v := nI 1) hx hb (dk kX6_record_ok 50 rfl) rfl ?_
          refine n_iadd hx hb (dk kX6_record_ok 51 rfl) ?_
          refine pf (rfSet cI ad F k r (cp9 ps r (60 * (st)) i2) sl sd ne fa bu hs (st + 1) ln pt th) hx hb hts (fun w h => List.mem_cons_of_mem _ (acX6 w h)) tyX6 tyX6_ok nmX6 hown hK hDi hP hS hk0 rfSet_at.1 rfl 8 (by decide) (hts _ (List.mem_cons_of_mem _ (ac18 _ (List.mem_of_getElem? (i := 5) rfl)))) (fun _ h => h) rfl (ty := .int) rfl rfl rfl (Nat.le_of_ble_eq_true rfl) (dk kX6_record_ok 52 rfl) rfSet_u0 (fun H locs hP hS => ?_)
          exact hret _ _ _ _ _ _ _ (by refine ⟨rfl, ?_⟩; obtain rfl : i2 = 60 := (by omega); simp only [rcP, rcS, (eq_false h1), (eq_true h2), (eq_false (Nat.not_lt.mpr h2)), not_true_eq_false, not_false_eq_true, and_true, true_and, and_false, false_and, or_true, true_or, or_false, false_or, and_self, or_self, if_true, if_false, Bool.false_eq_true, reduceIte]; first | done | rfl) hP hS (by decide) (by decide) (dk kX6_record_ok 53 rfl)
        · skip
          refine lv_aload_n hx hb (dk kX6_record_ok 32 rfl) rfl (lv_at hl 0 rfl) ?_
          refine gf hx hb hts (fun w h => List.mem_cons_of_mem _ (acX6 w h)) hown hK hP hk0 rfSet_at.1 rfl 1 (by decide) (hts _ (List.mem_cons_of_mem _ (ac17 _ (List.mem_of_getElem? (i := 18) rfl)))) (fun _ h => h) rfl (dk kX6_record_ok 33 rfl) ?_
          refine lv_bipush (v := nI 60) hx hb (dk kX6_record_ok 34 rfl) rfl ?_
          refine lv_aload_n hx hb (dk kX6_record_ok 35 rfl) rfl (lv_at hl 0 rfl) ?_
          refine gf hx hb hts (fun w h => List.mem_cons_of_mem _ (acX6 w h)) hown hK hP hk0 rfSet_at.1 rfl 8 (by decide) (hts _ (List.mem_cons_of_mem _ (ac18 _ (List.mem_of_getElem? (i := 5) rfl)))) (fun _ h => h) rfl (dk kX6_record_ok 36 rfl) ?_
          refine n_imul hx hb (dk kX6_record_ok 37 rfl) ?_
          refine lv_iload_n hx hb (dk kX6_record_ok 38 rfl) rfl (lv_at hl 1 rfl) ?_
          refine n_iadd hx hb (dk kX6_record_ok 39 rfl) ?_
          refine lv_aload_n hx hb (dk kX6_record_ok 40 rfl) rfl (lv_at hl 0 rfl) ?_
          refine gf hx hb hts (fun w h => List.mem_cons_of_mem _ (acX6 w h)) hown hK hP hk0 rfSet_at.1 rfl 0 (by decide) (hts _ (List.mem_cons_of_mem _ (ac17 _ (List.mem_of_getElem? (i := 17) rfl)))) (fun _ h => h) rfl (dk kX6_record_ok 41 rfl) ?_
          refine lv_iload_n hx hb (dk kX6_record_ok 42 rfl) rfl (lv_at hl 1 rfl) ?_
          refine ald (j := i2) hx hb hK hP hk1 rfSet_at.2.1 rfl (by omega) (by decide) (dk kX6_record_ok 43 rfl) ?_
          refine ast (rfSet cI ad F k r (upd (cp9 ps r (60 * (st)) i2) ((60 * st) + i2) (r i2)) sl sd ne fa bu hs st ln pt th) (j := ((60 * st) + i2)) hx hb hK hDi hP hS hk2 rfSet_at.2.2.1 rfl (by omega) (by decide) (dk kX6_record_ok 44 rfl) rfSet_u2 (fun H locs hP hS => ?_)
          refine lv_iinc (v := nI (i2 + 1)) (lv' := [(1, .int (nI (i2 + 1))), (0, .ref (ad k))]) hx hb (dk kX6_record_ok 45 rfl) hl (k := 1) rfl (n_inc _) (by decide) rfl (fun ls hl => ?_)
          refine lv_goto (tgt := 51) hx hb (dk kX6_record_ok 46 rfl) (by decide) ?_
          exact ih51 (i2 + 1) _ _ (by first | (rw [cp9_0]; exact hP) | (obtain rfl : i = 300 := (by omega); rw [cp9_0]; exact hP) | (rw [← cp9_s]; exact hP)) hS (by omega) (by omega) ls (lv_sub hl [1, 0] rfl)
    exact L51 _ 0 _ _ (by first | (rw [cp9_0]; exact hP) | (obtain rfl : i = 300 := (by omega); rw [cp9_0]; exact hP) | (rw [← cp9_s]; exact hP)) hS (by omega) (Nat.lt_succ_self _) ls (lv_sub hl [1, 0] rfl)
  · skip
    refine lv_iconst (v := nI 0) hx hb (dk kX6_record_ok 4 rfl) rfl ?_
    refine lv_istore_n (lv' := [(1, .int (nI 0)), (0, .ref (ad k))]) hx hb (dk kX6_record_ok 5 rfl) rfl hl (by decide) rfl (fun ls hl => ?_)
    have L11 : ∀ (fu : Nat) (i : Nat) (H : Heap) (locs : List Loc), va_P D vwCl (iW ad N (rfSet cI ad F k r (cp9 ps (fun j9 => ps (60 + j9)) 0 i) sl sd ne fa bu hs st ln pt th)) H → va_S (iA ad N s.heap.size) s.heap H locs → i ≤ 300 → 300 - i < fu → ∀ ls : Array Slot, lv_has ls 2 [(0, .ref (ad k)), (1, .int (nI i))] → W p l e ({ frames := 0, cells := 0, slots := 0, locals := 0 } : Room) s m ([.ref (ad k)] : List Value).toArray below meth cd H locs 0 0 Q (F0 m 11 ls []) := by
      intro fu
      induction fu with
      | zero => intros; omega
      | succ fu ih11 =>
        intro i H locs hP hS hi hm11 ls hl
        refine lv_iload_n hx hb (dk kX6_record_ok 6 rfl) rfl (lv_at hl 1 rfl) ?_
        refine lv_sipush (v := nI 300) hx hb (dk kX6_record_ok 7 rfl) rfl ?_
        refine n_icmp_ge (tgt := 39) hx hb (by omega) (by decide) (dk kX6_record_ok 8 rfl) (by decide) (fun h3 => ?_) (fun h3 => ?_)
        · skip
          refine lv_aload_n hx hb (dk kX6_record_ok 21 rfl) rfl (lv_at hl 0 rfl) ?_
          refine lv_dup hx hb (dk kX6_record_ok 22 rfl) rfl ?_
          refine gf hx hb hts (fun w h => List.mem_cons_of_mem _ (acX6 w h)) hown hK hP hk0 rfSet_at.1 rfl 8 (by decide) (hts _ (List.mem_cons_of_mem _ (ac18 _ (List.mem_of_getElem? (i := 5) rfl)))) (fun _ h => h) rfl (dk kX6_record_ok 23 rfl) ?_
          refine lv_iconst (v := nI 1) hx hb (dk kX6_record_ok 24 rfl) rfl ?_
          refine n_isub hx hb (by omega) (dk kX6_record_ok 25 rfl) ?_
          refine pf (rfSet cI ad F k r (cp9 ps (fun j9 => ps (60 + j9)) 0 i) sl sd ne fa bu hs (st - 1) ln pt th) hx hb hts (fun w h => List.mem_cons_of_mem _ (acX6 w h)) tyX6 tyX6_ok nmX6 hown hK hDi hP hS hk0 rfSet_at.1 rfl 8 (by decide) (hts _ (List.mem_cons_of_mem _ (ac18 _ (List.mem_of_getElem? (i := 5) rfl)))) (fun _ h => h) rfl (ty := .int) rfl rfl rfl (Nat.le_of_ble_eq_true rfl) (dk kX6_record_ok 26 rfl) rfSet_u0 (fun H locs hP hS => ?_)
          refine lv_iconst (v := nI 0) hx hb (dk kX6_record_ok 27 rfl) rfl ?_
          refine lv_istore_n (lv' := [(1, .int (nI 0)), (0, .ref (ad k))]) hx hb (dk kX6_record_ok 28 rfl) rfl hl (by decide) rfl (fun ls hl => ?_)
          have L51 : ∀ (fu : Nat) (i2 : Nat) (H : Heap) (locs : List Loc), va_P D vwCl (iW ad N (rfSet cI ad F k r (cp9 (cp9 ps (fun j9 => ps (60 + j9)) 0 300) r (60 * (st - 1)) i2) sl sd ne fa bu hs (st - 1) ln pt th)) H → va_S (iA ad N s.heap.size) s.heap H locs → i2 ≤ 60 → 60 - i2 < fu → ∀ ls : Array Slot, lv_has ls 2 [(0, .ref (ad k)), (1, .int (nI i2))] → W p l e ({ frames := 0, cells := 0, slots := 0, locals := 0 } : Room) s m ([.ref (ad k)] : List Value).toArray below meth cd H locs 0 0 Q (F0 m 51 ls []) := by
            intro fu
            induction fu with
            | zero => intros; omega
            | succ fu ih51 =>
              intro i2 H locs hP hS hi2 hm51 ls hl
              refine lv_iload_n hx hb (dk kX6_record_ok 29 rfl) rfl (lv_at hl 1 rfl) ?_
              refine lv_bipush (v := nI 60) hx hb (dk kX6_record_ok 30 rfl) rfl ?_
              refine n_icmp_ge (tgt := 83) hx hb (by omega) (by decide) (dk kX6_record_ok 31 rfl) (by decide) (fun h4 => ?_) (fun h4 => ?_)
              · skip
                refine lv_aload_n hx hb (dk kX6_record_ok 47 rfl) rfl (lv_at hl 0 rfl) ?_
                refine lv_dup hx hb (dk kX6_record_ok 48 rfl) rfl ?_
                refine gf hx hb hts (fun w h => List.mem_cons_of_mem _ (acX6 w h)) hown hK hP hk0 rfSet_at.1 rfl 8 (by decide) (hts _ (List.mem_cons_of_mem _ (ac18 _ (List.mem_of_getElem? (i := 5) rfl)))) (fun _ h => h) rfl (dk kX6_record_ok 49 rfl) ?_
                refine lv_iconst (v := nI 1) hx hb (dk kX6_record_ok 50 rfl) rfl ?_
                refine n_iadd hx hb (dk kX6_record_ok 51 rfl) ?_
                refine pf (rfSet cI ad F k r (cp9 (cp9 ps (fun j9 => ps (60 + j9)) 0 300) r (60 * (st - 1)) i2) sl sd ne fa bu hs ((st - 1) + 1) ln pt th) hx hb hts (fun w h => List.mem_cons_of_mem _ (acX6 w h)) tyX6 tyX6_ok nmX6 hown hK hDi hP hS hk0 rfSet_at.1 rfl 8 (by decide) (hts _ (List.mem_cons_of_mem _ (ac18 _ (List.mem_of_getElem? (i := 5) rfl)))) (fun _ h => h) rfl (ty := .int) rfl rfl rfl (Nat.le_of_ble_eq_true rfl) (dk kX6_record_ok 52 rfl) rfSet_u0 (fun H locs hP hS => ?_)
                exact hret _ _ _ _ _ _ _ (by refine ⟨rfl, ?_⟩; obtain rfl : i2 = 60 := (by omega); simp only [rcP, rcS, (eq_true h1), (eq_true h3), (eq_false (Nat.not_lt.mpr h3)), (eq_true h4), (eq_false (Nat.not_lt.mpr h4)), not_true_eq_false, not_false_eq_true, and_true, true_and, and_false, false_and, or_true, true_or, or_false, false_or, and_self, or_self, if_true, if_false, Bool.false_eq_true, reduceIte]; first | done | rfl) hP hS (by decide) (by decide) (dk kX6_record_ok 53 rfl)
              · skip
                refine lv_aload_n hx hb (dk kX6_record_ok 32 rfl) rfl (lv_at hl 0 rfl) ?_
                refine gf hx hb hts (fun w h => List.mem_cons_of_mem _ (acX6 w h)) hown hK hP hk0 rfSet_at.1 rfl 1 (by decide) (hts _ (List.mem_cons_of_mem _ (ac17 _ (List.mem_of_getElem? (i := 18) rfl)))) (fun _ h => h) rfl (dk kX6_record_ok 33 rfl) ?_
                refine lv_bipush (v := nI 60) hx hb (dk kX6_record_ok 34 rfl) rfl ?_
                refine lv_aload_n hx hb (dk kX6_record_ok 35 rfl) rfl (lv_at hl 0 rfl) ?_
                refine gf hx hb hts (fun w h => List.mem_cons_of_mem _ (acX6 w h)) hown hK hP hk0 rfSet_at.1 rfl 8 (by decide) (hts _ (List.mem_cons_of_mem _ (ac18 _ (List.mem_of_getElem? (i := 5) rfl)))) (fun _ h => h) rfl (dk kX6_record_ok 36 rfl) ?_
                refine n_imul hx hb (dk kX6_record_ok 37 rfl) ?_
                refine lv_iload_n hx hb (dk kX6_record_ok 38 rfl) rfl (lv_at hl 1 rfl) ?_
                refine n_iadd hx hb (dk kX6_record_ok 39 rfl) ?_
                refine lv_aload_n hx hb (dk kX6_record_ok 40 rfl) rfl (lv_at hl 0 rfl) ?_
                refine gf hx hb hts (fun w h => List.mem_cons_of_mem _ (acX6 w h)) hown hK hP hk0 rfSet_at.1 rfl 0 (by decide) (hts _ (List.mem_cons_of_mem _ (ac17 _ (List.mem_of_getElem? (i := 17) rfl)))) (fun _ h => h) rfl (dk kX6_record_ok 41 rfl) ?_
                refine lv_iload_n hx hb (dk kX6_record_ok 42 rfl) rfl (lv_at hl 1 rfl) ?_
                refine ald (j := i2) hx hb hK hP hk1 rfSet_at.2.1 rfl (by omega) (by decide) (dk kX6_record_ok 43 rfl) ?_
                refine ast (rfSet cI ad F k r (upd (cp9 (cp9 ps (fun j9 => ps (60 + j9)) 0 300) r (60 * (st - 1)) i2) ((60 * (st - 1)) + i2) (r i2)) sl sd ne fa bu hs (st - 1) ln pt th) (j := ((60 * (st - 1)) + i2)) hx hb hK hDi hP hS hk2 rfSet_at.2.2.1 rfl (by omega) (by decide) (dk kX6_record_ok 44 rfl) rfSet_u2 (fun H locs hP hS => ?_)
                refine lv_iinc (v := nI (i2 + 1)) (lv' := [(1, .int (nI (i2 + 1))), (0, .ref (ad k))]) hx hb (dk kX6_record_ok 45 rfl) hl (k := 1) rfl (n_inc _) (by decide) rfl (fun ls hl => ?_)
                refine lv_goto (tgt := 51) hx hb (dk kX6_record_ok 46 rfl) (by decide) ?_
                exact ih51 (i2 + 1) _ _ (by first | (rw [cp9_0]; exact hP) | (obtain rfl : i = 300 := (by omega); rw [cp9_0]; exact hP) | (rw [← cp9_s]; exact hP)) hS (by omega) (by omega) ls (lv_sub hl [1, 0] rfl)
          exact L51 _ 0 _ _ (by first | (rw [cp9_0]; exact hP) | (obtain rfl : i = 300 := (by omega); rw [cp9_0]; exact hP) | (rw [← cp9_s]; exact hP)) hS (by omega) (Nat.lt_succ_self _) ls (lv_sub hl [1, 0] rfl)
        · skip
          refine lv_aload_n hx hb (dk kX6_record_ok 9 rfl) rfl (lv_at hl 0 rfl) ?_
          refine gf hx hb hts (fun w h => List.mem_cons_of_mem _ (acX6 w h)) hown hK hP hk0 rfSet_at.1 rfl 1 (by decide) (hts _ (List.mem_cons_of_mem _ (ac17 _ (List.mem_of_getElem? (i := 18) rfl)))) (fun _ h => h) rfl (dk kX6_record_ok 10 rfl) ?_
          refine lv_iload_n hx hb (dk kX6_record_ok 11 rfl) rfl (lv_at hl 1 rfl) ?_
          refine lv_aload_n hx hb (dk kX6_record_ok 12 rfl) rfl (lv_at hl 0 rfl) ?_
          refine gf hx hb hts (fun w h => List.mem_cons_of_mem _ (acX6 w h)) hown hK hP hk0 rfSet_at.1 rfl 1 (by decide) (hts _ (List.mem_cons_of_mem _ (ac17 _ (List.mem_of_getElem? (i := 18) rfl)))) (fun _ h => h) rfl (dk kX6_record_ok 13 rfl) ?_
          refine lv_bipush (v := nI 60) hx hb (dk kX6_record_ok 14 rfl) rfl ?_
          refine lv_iload_n hx hb (dk kX6_record_ok 15 rfl) rfl (lv_at hl 1 rfl) ?_
          refine n_iadd hx hb (dk kX6_record_ok 16 rfl) ?_
          refine ald (j := (60 + i)) hx hb hK hP hk2 rfSet_at.2.2.1 rfl (by omega) (by decide) (dk kX6_record_ok 17 rfl) ?_
          rw [show (cp9 ps (fun j9 => ps (60 + j9)) 0 i) (60 + i) = ps ((60 + i)) from cp9_hi (by omega)]
          refine ast (rfSet cI ad F k r (upd (cp9 ps (fun j9 => ps (60 + j9)) 0 i) i (ps ((60 + i)))) sl sd ne fa bu hs st ln pt th) (j := i) hx hb hK hDi hP hS hk2 rfSet_at.2.2.1 rfl (by omega) (by decide) (dk kX6_record_ok 18 rfl) rfSet_u2 (fun H locs hP hS => ?_)
          refine lv_iinc (v := nI (i + 1)) (lv' := [(1, .int (nI (i + 1))), (0, .ref (ad k))]) hx hb (dk kX6_record_ok 19 rfl) hl (k := 1) rfl (n_inc _) (by decide) rfl (fun ls hl => ?_)
          refine lv_goto (tgt := 11) hx hb (dk kX6_record_ok 20 rfl) (by decide) ?_
          exact ih11 (i + 1) _ _ (by first | (rw [cp9_0]; exact hP) | (rw [← cp9_s0]; exact hP)) hS (by omega) (by omega) ls (lv_sub hl [1, 0] rfl)
    exact L11 _ 0 _ _ (by first | (rw [cp9_0]; exact hP) | (rw [← cp9_s0]; exact hP)) hS (by omega) (Nat.lt_succ_self _) ls (lv_sub hl [1, 0] rfl)
end
/-! from refspec3 -/
section
theorem cell_eq {x y : Int32} (hy : btw y (nI 0) (nI 12) = true) (hx : btw x (nI 0) (nI 12) = true) : nI 13 * y + x = nI (13 * ix y + ix x) := by
  have e1 := btw_eq hy
  have e2 := btw_eq hx
  rw [← nI_add, ← pk_mul, ← e1, ← e2]
theorem cell_lt {x y : Int32} (hy : btw y (nI 0) (nI 12) = true) (hx : btw x (nI 0) (nI 12) = true) : 13 * ix y + ix x < 169 := by
  have e1 := btw_le hy
  have e2 := btw_le hx
  omega
def rTu (r : Nat → Int32) : Prop := ix (r 56) < 4 ∧ r 56 = nI (ix (r 56))
def rC9 (r : Nat → Int32) : Prop := ∀ w, w < 16 → pot r w = false → cell9 (r w)
def rFl (r : Nat → Int32) : Prop := ∀ w, w < 16 → rwn r w = 0 → r (52 + w / 4) = nI 0
def rLi (r : Nat → Int32) : Prop := ∀ q n d, q < 169 → 1 ≤ n → n ≤ 6 → d < 8 → rwl r q n d = 0 → rlW r q n d
def rok (r : Nat → Int32) : Prop := rTu r ∧ lo01 r ∧ rC9 r ∧ rFl r ∧ rLi r
theorem rwn_0 {r : Nat → Int32} {w : Nat} (h : rwn r w = 0) : over r = false ∧ r 56 = nI (w / 4) ∧ pot r w = false ∧ rcv r w = false := by
  unfold rwn at h
  by_cases h1 : over r = true
  · rw [if_pos h1] at h; omega
  · rw [if_neg h1] at h
    by_cases h2 : r 56 = nI (w / 4)
    · rw [if_pos h2] at h
      by_cases h3 : pot r w = true
      · rw [if_pos h3] at h; omega
      · rw [if_neg h3] at h
        by_cases h4 : rcv r w = true
        · rw [if_pos h4] at h; omega
        · exact ⟨by simpa using h1, h2, by simpa using h3, by simpa using h4⟩
    · rw [if_neg h2] at h; omega
theorem rwl_0 {r : Nat → Int32} {q n d : Nat} (h : rwl r q n d = 0) : n ≤ hgt r (nI q) := by
  unfold rwl at h
  split at h
  · omega
  · split at h
    · omega
    · omega
theorem rok_c9 {r : Nat → Int32} {w : Nat} (hk : rok r) (hw : w < 16) (h : rwn r w = 0) : cell9 (r w) := hk.2.2.1 w hw (rwn_0 h).2.2.1
theorem rok_l0 {r : Nat → Int32} {w : Nat} (hk : rok r) (hw : w < 16) (h : rwn r w = 0) : r (52 + w / 4) = nI 0 := hk.2.2.2.1 w hw h
-- answers
def aWink (r : Nat → Int32) (w k : Nat) : Int32 := if k = 0 then nI (w / 4) else if k = 1 then (if w % 4 < 2 then nI 1 else nI 0) else if k = 2 then r w else if k = 3 then r (16 + w) else if k = 4 then bI (rcv r w) else if k = 5 then r (32 + w) else nI (rwn r w)
def aPile (r : Nat → Int32) (q : Int32) (k : Nat) : Int32 := if k = 0 then nI (hgt r q) else if k = 1 then wat r q (nI (hgt r q) - nI 1) else if k = 2 then wat r q (nI 0) else msk (fun i => decide (r i = q)) 16
def aCol (r : Nat → Int32) (c k : Nat) : Int32 := if k = 0 then nI (potc r c) else if k = 1 then nI (rcc r c) else if k = 2 then nI 4 - nI (potc r c) - nI (rcc r c) else if k = 3 then nI (rpt r c) else if k = 4 then r (48 + c) else if k = 5 then r (52 + c) else nI (rbl r c)
def aNum (r : Nat → Int32) (st k : Nat) : Int32 := if k < 5 then (if k = 0 then (if over r = true then -1 else r 56) else if k = 1 then bI (over r) else if k = 2 then nI (potn r) else nI (rcs r)) else if k < 10 then (if k = 5 then nI (rpl r) else if k = 6 then rhi r 16 else if k = 7 then r 58 else if k = 8 then r 59 else r 48 + r 49 + r 50 + r 51) else if k < 12 then nI (rtm r (k - 10)) else if k = 12 then r 57 else nI st
def aLan (r : Nat → Int32) (w d f : Nat) : Int32 := if pot r w = true then -2 else fans (ldg (r w) (nI d) (stp w f))
def yI (b : Bool) (x y : Int32) : Int32 := if b = true then x else y
def tW (x k : Int32) (m : Nat) (m2 : Nat) : Int32 := if btw x (nI 0) (nI m) = true then (if btw k (nI 0) (nI m2) = true then nI 0 else nI 2) else nI 1
def pW (r : Nat → Int32) (x k : Int32) : Int32 := if btw x (nI 0) (nI 15) = true then (if btw k (nI 0) (nI 6) = true then aWink r (ix x) (ix k) else nI 0) else nI 0
def pC (r : Nat → Int32) (x k : Int32) : Int32 := if btw x (nI 0) (nI 3) = true then (if btw k (nI 0) (nI 6) = true then aCol r (ix x) (ix k) else nI 0) else nI 0
def tP (x y k : Int32) : Int32 := if btw x (nI 0) (nI 12) = true then (if btw y (nI 0) (nI 12) = true then (if btw k (nI 0) (nI 3) = true then nI 0 else nI 2) else nI 1) else nI 1
def pP (r : Nat → Int32) (x y k : Int32) : Int32 := if btw x (nI 0) (nI 12) = true then (if btw y (nI 0) (nI 12) = true then (if btw k (nI 0) (nI 3) = true then aPile r (nI 13 * y + x) (ix k) else nI 0) else nI 0) else nI 0
def tN (k : Int32) : Int32 := if btw k (nI 0) (nI 13) = true then nI 0 else nI 1
def pN (r : Nat → Int32) (st : Nat) (k : Int32) : Int32 := if btw k (nI 0) (nI 13) = true then aNum r st (ix k) else nI 0
def tY (x y m9 d : Int32) : Int32 := if btw x (nI 0) (nI 12) = true then (if btw y (nI 0) (nI 12) = true then (if btw m9 (nI 1) (nI 6) = true then (if btw d (nI 0) (nI 7) = true then nI 0 else nI 2) else nI 2) else nI 1) else nI 1
def pY (r : Nat → Int32) (x y m9 d : Int32) : Int32 := if btw x (nI 0) (nI 12) = true then (if btw y (nI 0) (nI 12) = true then (if btw m9 (nI 1) (nI 6) = true then (if btw d (nI 0) (nI 7) = true then nI (rwl r (13 * ix y + ix x) (ix m9) (ix d)) else nI 0) else nI 0) else nI 0) else nI 0
def tL (x d f : Int32) : Int32 := if btw x (nI 0) (nI 15) = true then (if btw d (nI 0) (nI 7) = true then (if btw f (nI 1) (nI 9) = true then nI 0 else nI 2) else nI 2) else nI 1
def pL (r : Nat → Int32) (x d f : Int32) : Int32 := if btw x (nI 0) (nI 15) = true then (if btw d (nI 0) (nI 7) = true then (if btw f (nI 1) (nI 9) = true then aLan r (ix x) (ix d) (ix f) else nI 0) else nI 0) else nI 0
-- the flight, the lift: whether they go
def gF (r : Nat → Int32) (x d f : Int32) : Bool := if btw x (nI 0) (nI 15) = true then (if btw d (nI 0) (nI 7) = true then (if btw f (nI 1) (nI 9) = true then (if rwn r (ix x) = 0 then true else false) else false) else false) else false
def tF (r : Nat → Int32) (x d f : Int32) : Int32 := if btw x (nI 0) (nI 15) = true then (if btw d (nI 0) (nI 7) = true then (if btw f (nI 1) (nI 9) = true then (if rwn r (ix x) = 0 then nI 0 else nI 3) else nI 2) else nI 2) else nI 1
def gL (r : Nat → Int32) (x y m9 d : Int32) : Bool := if btw x (nI 0) (nI 12) = true then (if btw y (nI 0) (nI 12) = true then (if btw m9 (nI 1) (nI 6) = true then (if btw d (nI 0) (nI 7) = true then (if rwl r (13 * ix y + ix x) (ix m9) (ix d) = 0 then true else false) else false) else false) else false) else false
def tLi (r : Nat → Int32) (x y m9 d : Int32) : Int32 := if btw x (nI 0) (nI 12) = true then (if btw y (nI 0) (nI 12) = true then (if btw m9 (nI 1) (nI 6) = true then (if btw d (nI 0) (nI 7) = true then (if rwl r (13 * ix y + ix x) (ix m9) (ix d) = 0 then nI 0 else nI 3) else nI 2) else nI 2) else nI 1) else nI 1
def gS (x : Int32) : Bool := btw x (nI 1) (nI 6)
def gP (r : Nat → Int32) (x a b : Int32) : Bool := if btw x (nI 0) (nI 15) = true then (if btw a (nI 0) (nI 12) = true then (if btw b (nI 0) (nI 12) = true then (if over r = true then false else if rcv r (ix x) = true then false else true) else false) else false) else false
def tPu (r : Nat → Int32) (x a b : Int32) : Int32 := if btw x (nI 0) (nI 15) = true then (if btw a (nI 0) (nI 12) = true then (if btw b (nI 0) (nI 12) = true then (if over r = true then nI 2 else if rcv r (ix x) = true then nI 2 else nI 0) else nI 1) else nI 1) else nI 1
theorem gF_t {r : Nat → Int32} {x d f : Int32} (h1 : btw x (nI 0) (nI 15) = true) (h2 : btw d (nI 0) (nI 7) = true) (h3 : btw f (nI 1) (nI 9) = true) (h4 : rwn r (ix x) = 0) : gF r x d f = true := by simp only [gF, h1, h2, h3, h4, if_true]
theorem rwl_le (r : Nat → Int32) (q n d : Nat) : rwl r q n d ≤ 5 := by
  unfold rwl
  (repeat' split) <;> omega
theorem rwn_le (r : Nat → Int32) (w : Nat) : rwn r w ≤ 4 := by
  unfold rwn
  (repeat' split) <;> omega
theorem bI_1 : bI true = nI 1 := rfl
theorem bI_00 : bI false = nI 0 := rfl
end
/-! from refp -/
section
set_option maxRecDepth 100000 in
set_option maxHeartbeats 4000000 in
theorem tX6_ofWink (l : Launch) (D : va_G) (cI cQ cL : ClassId) (ad : Nat → Nat) (N : Nat) (F : Nat → va_E) (k : Nat) (hk : k + 7 < N) (r ps sl sd ne fa bu : Nat → Int32) (hs : Bool) (st ln pt : Nat) (th : Int32) (hR : rfAt cI ad F k r ps sl sd ne fa bu hs st ln pt th) (x : Int32) (w : Nat) (hxw : x = nI w) (hw : w < 16) (y : Int32) (a : Nat) (hya : y = nI a) (ha : a < 2 ^ 31) : MR l yX6_ofWink (Cond.code yX6_ofWink cX6_ofWink 3 (some .int) :: AW) ({ frames := 4, cells := 0, slots := 0, locals := 85 } : Room) D cI cQ cL ad N F [.ref (ad k), .int x, .int y] (.int (aWink r w a)) := by
  refine mr_i (ty := .int) (by decide +kernel) rfl rfl rfl rfl (Nat.le_of_ble_eq_true rfl) (fun p e s m below meth cd Q ls hx hb hml hown hts hP hK hNW hret hl => ?_)
  have hown : s.vm.findClass RX6 = some m.cls := hown
  subst hxw
  subst hya
  have hk0 : k < N := by omega
  have hk1 : k + 1 < N := by omega
  have hk2 : k + 2 < N := by omega
  have hk3 : k + 3 < N := by omega
  have hk4 : k + 4 < N := by omega
  have hk5 : k + 5 < N := by omega
  have hk6 : k + 6 < N := by omega
  have hk7 : k + 7 < N := by omega
  have hl : lv_has ls 3 [(0, .ref (ad k)), (1, .int (nI w)), (2, .int (nI a))] := hl
  refine lv_iload_n hx hb (dk kX6_ofWink_0_ok 0 rfl) rfl (lv_at hl 2 rfl) ?_
  refine n_if_ne (tgt := 10) hx hb (by omega) (dk kX6_ofWink_0_ok 1 rfl) (by decide) (fun h1 => ?_) (fun h1 => ?_)
  · skip
    refine lv_iload_n hx hb (dk kX6_ofWink_0_ok 6 rfl) rfl (lv_at hl 2 rfl) ?_
    refine lv_iconst (v := nI 1) hx hb (dk kX6_ofWink_0_ok 7 rfl) rfl ?_
    refine n_icmp_ne (tgt := 30) hx hb (by omega) (by decide) (dk kX6_ofWink_0_ok 8 rfl) (by decide) (fun h2 => ?_) (fun h2 => ?_)
    · skip
      refine lv_iload_n hx hb (dk kX6_ofWink_0_ok 18 rfl) rfl (lv_at hl 2 rfl) ?_
      refine lv_iconst (v := nI 2) hx hb (dk kX6_ofWink_0_ok 19 rfl) rfl ?_
      refine n_icmp_ne (tgt := 46) hx hb (by omega) (by decide) (dk kX6_ofWink_0_ok 20 rfl) (by decide) (fun h3 => ?_) (fun h3 => ?_)
      · skip
        refine lv_iload_n hx hb (dk kX6_ofWink_0_ok 28 rfl) rfl (lv_at hl 2 rfl) ?_
        refine lv_iconst (v := nI 3) hx hb (dk kX6_ofWink_0_ok 29 rfl) rfl ?_
        refine n_icmp_ne (tgt := 63) hx hb (by omega) (by decide) (dk kX6_ofWink_0_ok 30 rfl) (by decide) (fun h4 => ?_) (fun h4 => ?_)
        · skip
          refine lv_iload_n hx hb (dk kX6_ofWink_0_ok 38 rfl) rfl (lv_at hl 2 rfl) ?_
          refine lv_iconst (v := nI 4) hx hb (dk kX6_ofWink_0_ok 39 rfl) rfl ?_
          refine n_icmp_ne (tgt := 84) hx hb (by omega) (by decide) (dk kX6_ofWink_0_ok 40 rfl) (by decide) (fun h5 => ?_) (fun h5 => ?_)
          · skip
            refine lv_iload_n hx hb (dk kX6_ofWink_0_ok 49 rfl) rfl (lv_at hl 2 rfl) ?_
            refine lv_iconst (v := nI 5) hx hb (dk kX6_ofWink_0_ok 50 rfl) rfl ?_
            refine n_icmp_ne (tgt := 101) hx hb (by omega) (by decide) (dk kX6_ofWink_0_ok 51 rfl) (by decide) (fun h6 => ?_) (fun h6 => ?_)
            · skip
              refine lv_aload_n hx hb (dk kX6_ofWink_0_ok 59 rfl) rfl (lv_at hl 0 rfl) ?_
              refine lv_iload_n hx hb (dk kX6_ofWink_1_ok 0 rfl) rfl (lv_at hl 1 rfl) ?_
              refine cvR (As := [.int (nI w)]) (rest := []) ⟨hx, hb, hml, hown, hts⟩ (tX6_whyNot l D cI cQ cL ad N F k hk r ps sl sd ne fa bu hs st ln pt th hR (nI w) w rfl (by omega)) (cwV9 1 hts mcX6_whyNot (ac20 _ (List.mem_of_getElem? (i := 19) rfl)) miX6_whyNot meX6_whyNot mini_RX6 rfl rfl hdX6_whyNot ⟨Nat.le_of_ble_eq_true rfl, Nat.le_of_ble_eq_true rfl⟩) hK hP hNW hk0 hR.1 rfl rfl hl.1 rfl (Nat.le_of_ble_eq_true rfl) (by decide) (dk kX6_ofWink_1_ok 1 rfl) ?_
              exact hret _ _ _ (by simp (config := { decide := true }) only [aWink, (eq_false h1), (eq_false h2), (eq_false h3), (eq_false h4), (eq_false h5), (eq_false h6), bI_1, bI_00, not_true_eq_false, not_false_eq_true, and_true, true_and, and_false, false_and, or_true, true_or, or_false, false_or, and_self, or_self, if_true, if_false, Bool.false_eq_true, reduceIte]; first | done | rfl | (simp_all; done)) (dk kX6_ofWink_1_ok 2 rfl)
            · skip
              refine lv_aload_n hx hb (dk kX6_ofWink_0_ok 52 rfl) rfl (lv_at hl 0 rfl) ?_
              refine gf hx hb hts (fun w h => List.mem_cons_of_mem _ (acX6 w h)) hown hK hP hk0 hR.1 rfl 0 (by decide) (hts _ (List.mem_cons_of_mem _ (ac17 _ (List.mem_of_getElem? (i := 17) rfl)))) (fun _ h => h) rfl (dk kX6_ofWink_0_ok 53 rfl) ?_
              refine lv_bipush (v := nI 32) hx hb (dk kX6_ofWink_0_ok 54 rfl) rfl ?_
              refine lv_iload_n hx hb (dk kX6_ofWink_0_ok 55 rfl) rfl (lv_at hl 1 rfl) ?_
              refine n_iadd hx hb (dk kX6_ofWink_0_ok 56 rfl) ?_
              refine ald (j := (32 + w)) hx hb hK hP hk1 hR.2.1 rfl (by omega) (by decide) (dk kX6_ofWink_0_ok 57 rfl) ?_
              refine lv_goto (tgt := 106) hx hb (dk kX6_ofWink_0_ok 58 rfl) (by decide) ?_
              exact hret _ _ _ (by simp (config := { decide := true }) only [aWink, (eq_false h1), (eq_false h2), (eq_false h3), (eq_false h4), (eq_false h5), (eq_true h6), bI_1, bI_00, not_true_eq_false, not_false_eq_true, and_true, true_and, and_false, false_and, or_true, true_or, or_false, false_or, and_self, or_self, if_true, if_false, Bool.false_eq_true, reduceIte]; first | done | rfl | (simp_all; done)) (dk kX6_ofWink_1_ok 2 rfl)
          · skip
            refine lv_aload_n hx hb (dk kX6_ofWink_0_ok 41 rfl) rfl (lv_at hl 0 rfl) ?_
            refine lv_iload_n hx hb (dk kX6_ofWink_0_ok 42 rfl) rfl (lv_at hl 1 rfl) ?_
            refine cvR (As := [.int (nI w)]) (rest := []) ⟨hx, hb, hml, hown, hts⟩ (tX6_isCovered l D cI cQ cL ad N F k hk r ps sl sd ne fa bu hs st ln pt th hR (nI w) w rfl (by omega)) (cwV9 1 hts mcX6_isCovered (ac18 _ (List.mem_of_getElem? (i := 18) rfl)) miX6_isCovered meX6_isCovered mini_RX6 rfl rfl hdX6_isCovered ⟨Nat.le_of_ble_eq_true rfl, Nat.le_of_ble_eq_true rfl⟩) hK hP hNW hk0 hR.1 rfl rfl hl.1 rfl (Nat.le_of_ble_eq_true rfl) (by decide) (dk kX6_ofWink_0_ok 43 rfl) ?_
            refine b_if_eq (tgt := 80) hx hb (dk kX6_ofWink_0_ok 44 rfl) (by decide) (fun h7 => ?_) (fun h7 => ?_)
            · skip
              refine lv_iconst (v := nI 0) hx hb (dk kX6_ofWink_0_ok 47 rfl) rfl ?_
              refine lv_goto (tgt := 106) hx hb (dk kX6_ofWink_0_ok 48 rfl) (by decide) ?_
              exact hret _ _ _ (by simp (config := { decide := true }) only [aWink, (eq_false h1), (eq_false h2), (eq_false h3), (eq_false h4), (eq_true h5), h7, bI_1, bI_00, not_true_eq_false, not_false_eq_true, and_true, true_and, and_false, false_and, or_true, true_or, or_false, false_or, and_self, or_self, if_true, if_false, Bool.false_eq_true, reduceIte]; first | done | rfl | (simp_all; done)) (dk kX6_ofWink_1_ok 2 rfl)
            · skip
              refine lv_iconst (v := nI 1) hx hb (dk kX6_ofWink_0_ok 45 rfl) rfl ?_
              refine lv_goto (tgt := 106) hx hb (dk kX6_ofWink_0_ok 46 rfl) (by decide) ?_
              exact hret _ _ _ (by simp (config := { decide := true }) only [aWink, (eq_false h1), (eq_false h2), (eq_false h3), (eq_false h4), (eq_true h5), h7, bI_1, bI_00, not_true_eq_false, not_false_eq_true, and_true, true_and, and_false, false_and, or_true, true_or, or_false, false_or, and_self, or_self, if_true, if_false, Bool.false_eq_true, reduceIte]; first | done | rfl | (simp_all; done)) (dk kX6_ofWink_1_ok 2 rfl)
        · skip
          refine lv_aload_n hx hb (dk kX6_ofWink_0_ok 31 rfl) rfl (lv_at hl 0 rfl) ?_
          refine gf hx hb hts (fun w h => List.mem_cons_of_mem _ (acX6 w h)) hown hK hP hk0 hR.1 rfl 0 (by decide) (hts _ (List.mem_cons_of_mem _ (ac17 _ (List.mem_of_getElem? (i := 17) rfl)))) (fun _ h => h) rfl (dk kX6_ofWink_0_ok 32 rfl) ?_
          refine lv_bipush (v := nI 16) hx hb (dk kX6_ofWink_0_ok 33 rfl) rfl ?_
          refine lv_iload_n hx hb (dk kX6_ofWink_0_ok 34 rfl) rfl (lv_at hl 1 rfl) ?_
          refine n_iadd hx hb (dk kX6_ofWink_0_ok 35 rfl) ?_
          refine ald (j := (16 + w)) hx hb hK hP hk1 hR.2.1 rfl (by omega) (by decide) (dk kX6_ofWink_0_ok 36 rfl) ?_
          refine lv_goto (tgt := 106) hx hb (dk kX6_ofWink_0_ok 37 rfl) (by decide) ?_
          exact hret _ _ _ (by simp (config := { decide := true }) only [aWink, (eq_false h1), (eq_false h2), (eq_false h3), (eq_true h4), bI_1, bI_00, not_true_eq_false, not_false_eq_true, and_true, true_and, and_false, false_and, or_true, true_or, or_false, false_or, and_self, or_self, if_true, if_false, Bool.false_eq_true, reduceIte]; first | done | rfl | (simp_all; done)) (dk kX6_ofWink_1_ok 2 rfl)
      · skip
        refine lv_aload_n hx hb (dk kX6_ofWink_0_ok 21 rfl) rfl (lv_at hl 0 rfl) ?_
        refine gf hx hb hts (fun w h => List.mem_cons_of_mem _ (acX6 w h)) hown hK hP hk0 hR.1 rfl 0 (by decide) (hts _ (List.mem_cons_of_mem _ (ac17 _ (List.mem_of_getElem? (i := 17) rfl)))) (fun _ h => h) rfl (dk kX6_ofWink_0_ok 22 rfl) ?_
        refine lv_iconst (v := nI 0) hx hb (dk kX6_ofWink_0_ok 23 rfl) rfl ?_
        refine lv_iload_n hx hb (dk kX6_ofWink_0_ok 24 rfl) rfl (lv_at hl 1 rfl) ?_
        refine n_iadd0 hx hb (dk kX6_ofWink_0_ok 25 rfl) ?_
        refine ald (j := w) hx hb hK hP hk1 hR.2.1 rfl (by omega) (by decide) (dk kX6_ofWink_0_ok 26 rfl) ?_
        refine lv_goto (tgt := 106) hx hb (dk kX6_ofWink_0_ok 27 rfl) (by decide) ?_
        exact hret _ _ _ (by simp (config := { decide := true }) only [aWink, (eq_false h1), (eq_false h2), (eq_true h3), bI_1, bI_00, not_true_eq_false, not_false_eq_true, and_true, true_and, and_false, false_and, or_true, true_or, or_false, false_or, and_self, or_self, if_true, if_false, Bool.false_eq_true, reduceIte]; first | done | rfl | (simp_all; done)) (dk kX6_ofWink_1_ok 2 rfl)
    · skip
      refine lv_iload_n hx hb (dk kX6_ofWink_0_ok 9 rfl) rfl (lv_at hl 1 rfl) ?_
      refine lv_iconst (v := nI 4) hx hb (dk kX6_ofWink_0_ok 10 rfl) rfl ?_
      refine n_irem hx hb (by omega) (by decide) (by decide) (dk kX6_ofWink_0_ok 11 rfl) ?_
      refine lv_iconst (v := nI 2) hx hb (dk kX6_ofWink_0_ok 12 rfl) rfl ?_
      refine n_icmp_ge (tgt := 26) hx hb (by omega) (by decide) (dk kX6_ofWink_0_ok 13 rfl) (by decide) (fun h8 => ?_) (fun h8 => ?_)
      · skip
        refine lv_iconst (v := nI 0) hx hb (dk kX6_ofWink_0_ok 16 rfl) rfl ?_
        refine lv_goto (tgt := 106) hx hb (dk kX6_ofWink_0_ok 17 rfl) (by decide) ?_
        exact hret _ _ _ (by simp (config := { decide := true }) only [aWink, (eq_false h1), (eq_true h2), (eq_true h8), (eq_false (Nat.not_lt.mpr h8)), bI_1, bI_00, not_true_eq_false, not_false_eq_true, and_true, true_and, and_false, false_and, or_true, true_or, or_false, false_or, and_self, or_self, if_true, if_false, Bool.false_eq_true, reduceIte]; first | done | rfl | (simp_all; done)) (dk kX6_ofWink_1_ok 2 rfl)
      · skip
        refine lv_iconst (v := nI 1) hx hb (dk kX6_ofWink_0_ok 14 rfl) rfl ?_
        refine lv_goto (tgt := 106) hx hb (dk kX6_ofWink_0_ok 15 rfl) (by decide) ?_
        exact hret _ _ _ (by simp (config := { decide := true }) only [aWink, (eq_false h1), (eq_true h2), (eq_true h8), (eq_false (Nat.not_le.mpr h8)), bI_1, bI_00, not_true_eq_false, not_false_eq_true, and_true, true_and, and_false, false_and, or_true, true_or, or_false, false_or, and_self, or_self, if_true, if_false, Bool.false_eq_true, reduceIte]; first | done | rfl | (simp_all; done)) (dk kX6_ofWink_1_ok 2 rfl)
  · skip
    refine lv_iload_n hx hb (dk kX6_ofWink_0_ok 2 rfl) rfl (lv_at hl 1 rfl) ?_
    refine lv_iconst (v := nI 4) hx hb (dk kX6_ofWink_0_ok 3 rfl) rfl ?_
    refine n_idiv hx hb (by omega) (by decide) (by decide) (dk kX6_ofWink_0_ok 4 rfl) ?_
    refine lv_goto (tgt := 106) hx hb (dk kX6_ofWink_0_ok 5 rfl) (by decide) ?_
    exact hret _ _ _ (by simp (config := { decide := true }) only [aWink, (eq_true h1), bI_1, bI_00, not_true_eq_false, not_false_eq_true, and_true, true_and, and_false, false_and, or_true, true_or, or_false, false_or, and_self, or_self, if_true, if_false, Bool.false_eq_true, reduceIte]; first | done | rfl | (simp_all; done)) (dk kX6_ofWink_1_ok 2 rfl)
set_option maxRecDepth 100000 in
set_option maxHeartbeats 4000000 in
theorem tX6_ofPile (l : Launch) (D : va_G) (cI cQ cL : ClassId) (ad : Nat → Nat) (N : Nat) (F : Nat → va_E) (k : Nat) (hk : k + 7 < N) (r ps sl sd ne fa bu : Nat → Int32) (hs : Bool) (st ln pt : Nat) (th : Int32) (hR : rfAt cI ad F k r ps sl sd ne fa bu hs st ln pt th) (q : Int32) (y : Int32) (a : Nat) (hya : y = nI a) (ha : a < 2 ^ 31) : MR l yX6_ofPile (Cond.code yX6_ofPile cX6_ofPile 4 (some .int) :: AW) ({ frames := 1, cells := 0, slots := 0, locals := 23 } : Room) D cI cQ cL ad N F [.ref (ad k), .int q, .int y] (.int (aPile r q a)) := by
  refine mr_i (ty := .int) (by decide +kernel) rfl rfl rfl rfl (Nat.le_of_ble_eq_true rfl) (fun p e s m below meth cd Q ls hx hb hml hown hts hP hK hNW hret hl => ?_)
  have hown : s.vm.findClass RX6 = some m.cls := hown
  subst hya
  have hh16 := hgt_le r q
  have hk0 : k < N := by omega
  have hk1 : k + 1 < N := by omega
  have hk2 : k + 2 < N := by omega
  have hk3 : k + 3 < N := by omega
  have hk4 : k + 4 < N := by omega
  have hk5 : k + 5 < N := by omega
  have hk6 : k + 6 < N := by omega
  have hk7 : k + 7 < N := by omega
  have hl : lv_has ls 4 [(0, .ref (ad k)), (1, .int q), (2, .int (nI a))] := hl
  refine lv_aload_n hx hb (dk kX6_ofPile_ok 0 rfl) rfl (lv_at hl 0 rfl) ?_
  refine lv_iload_n hx hb (dk kX6_ofPile_ok 1 rfl) rfl (lv_at hl 1 rfl) ?_
  refine cvR (As := [.int q]) (rest := []) ⟨hx, hb, hml, hown, hts⟩ (tX6_lying l D cI cQ cL ad N F k hk r ps sl sd ne fa bu hs st ln pt th hR q) (cwV9 1 hts mcX6_lying (ac18 _ (List.mem_of_getElem? (i := 10) rfl)) miX6_lying meX6_lying mini_RX6 rfl rfl hdX6_lying ⟨Nat.le_of_ble_eq_true rfl, Nat.le_of_ble_eq_true rfl⟩) hK hP hNW hk0 hR.1 rfl rfl hl.1 rfl (Nat.le_of_ble_eq_true rfl) (by decide) (dk kX6_ofPile_ok 2 rfl) ?_
  refine lv_istore_n (lv' := [(3, .int (nI (hgt r q))), (0, .ref (ad k)), (1, .int q), (2, .int (nI a))]) hx hb (dk kX6_ofPile_ok 3 rfl) rfl hl (by decide) rfl (fun ls hl => ?_)
  refine lv_iload_n hx hb (dk kX6_ofPile_ok 4 rfl) rfl (lv_at hl 3 rfl) ?_
  refine n_if_ne (tgt := 14) hx hb (by omega) (dk kX6_ofPile_ok 5 rfl) (by decide) (fun h1 => ?_) (fun h1 => ?_)
  · skip
    refine lv_iload_n hx hb (dk kX6_ofPile_ok 8 rfl) rfl (lv_at hl 3 rfl) ?_
    refine lv_iconst (v := nI 1) hx hb (dk kX6_ofPile_ok 9 rfl) rfl ?_
    refine n_icmp_ne (tgt := 30) hx hb (by omega) (by decide) (dk kX6_ofPile_ok 10 rfl) (by decide) (fun h2 => ?_) (fun h2 => ?_)
    · skip
      refine lv_iload_n hx hb (dk kX6_ofPile_ok 18 rfl) rfl (lv_at hl 3 rfl) ?_
      refine lv_iconst (v := nI 2) hx hb (dk kX6_ofPile_ok 19 rfl) rfl ?_
      refine n_icmp_ne (tgt := 44) hx hb (by omega) (by decide) (dk kX6_ofPile_ok 20 rfl) (by decide) (fun h3 => ?_) (fun h3 => ?_)
      · skip
        refine lv_aload_n hx hb (dk kX6_ofPile_ok 26 rfl) rfl (lv_at hl 1 rfl) ?_
        refine lv_iload_n hx hb (dk kX6_ofPile_ok 27 rfl) rfl (lv_at hl 2 rfl) ?_
        refine cvR (As := [.int q]) (rest := []) ⟨hx, hb, hml, hown, hts⟩ (tX6_colours l D cI cQ cL ad N F k hk r ps sl sd ne fa bu hs st ln pt th hR q) (cwV9 1 hts mcX6_colours (ac22 _ (List.mem_of_getElem? (i := 18) rfl)) miX6_colours meX6_colours mini_RX6 rfl rfl hdX6_colours ⟨Nat.le_of_ble_eq_true rfl, Nat.le_of_ble_eq_true rfl⟩) hK hP hNW hk0 hR.1 rfl rfl hl.1 rfl (Nat.le_of_ble_eq_true rfl) (by decide) (dk kX6_ofPile_ok 28 rfl) ?_
        exact hret _ _ _ (by simp (config := { decide := true }) only [aPile, (eq_false h1), (eq_false h2), (eq_false h3), bI_1, bI_00, not_true_eq_false, not_false_eq_true, and_true, true_and, and_false, false_and, or_true, true_or, or_false, false_or, and_self, or_self, if_true, if_false, Bool.false_eq_true, reduceIte]; first | done | rfl | (simp_all; done)) (dk kX6_ofPile_ok 29 rfl)
      · skip
        refine lv_aload_n hx hb (dk kX6_ofPile_ok 21 rfl) rfl (lv_at hl 1 rfl) ?_
        refine lv_iload_n hx hb (dk kX6_ofPile_ok 22 rfl) rfl (lv_at hl 2 rfl) ?_
        refine lv_iconst (v := nI 0) hx hb (dk kX6_ofPile_ok 23 rfl) rfl ?_
        refine cvR (As := [.int q, .int (nI 0)]) (rest := []) ⟨hx, hb, hml, hown, hts⟩ (tX6_winkAt l D cI cQ cL ad N F k hk r ps sl sd ne fa bu hs st ln pt th hR q (nI 0)) (cwV9 2 hts mcX6_winkAt (ac20 _ (List.mem_of_getElem? (i := 8) rfl)) miX6_winkAt meX6_winkAt mini_RX6 rfl rfl hdX6_winkAt ⟨Nat.le_of_ble_eq_true rfl, Nat.le_of_ble_eq_true rfl⟩) hK hP hNW hk0 hR.1 rfl rfl hl.1 rfl (Nat.le_of_ble_eq_true rfl) (by decide) (dk kX6_ofPile_ok 24 rfl) ?_
        refine lv_goto (tgt := 49) hx hb (dk kX6_ofPile_ok 25 rfl) (by decide) ?_
        exact hret _ _ _ (by simp (config := { decide := true }) only [aPile, (eq_false h1), (eq_false h2), (eq_true h3), bI_1, bI_00, not_true_eq_false, not_false_eq_true, and_true, true_and, and_false, false_and, or_true, true_or, or_false, false_or, and_self, or_self, if_true, if_false, Bool.false_eq_true, reduceIte]; first | done | rfl | (simp_all; done)) (dk kX6_ofPile_ok 29 rfl)
    · skip
      refine lv_aload_n hx hb (dk kX6_ofPile_ok 11 rfl) rfl (lv_at hl 1 rfl) ?_
      refine lv_iload_n hx hb (dk kX6_ofPile_ok 12 rfl) rfl (lv_at hl 2 rfl) ?_
      refine lv_iload_n hx hb (dk kX6_ofPile_ok 13 rfl) rfl (lv_at hl 0 rfl) ?_
      refine lv_iconst (v := nI 1) hx hb (dk kX6_ofPile_ok 14 rfl) rfl ?_
      refine lv_isub hx hb (dk kX6_ofPile_ok 15 rfl) ?_
      refine cvR (As := [.int q, .int ((nI (hgt r q)) - (nI 1))]) (rest := []) ⟨hx, hb, hml, hown, hts⟩ (tX6_winkAt l D cI cQ cL ad N F k hk r ps sl sd ne fa bu hs st ln pt th hR q ((nI (hgt r q)) - (nI 1))) (cwV9 2 hts mcX6_winkAt (ac20 _ (List.mem_of_getElem? (i := 8) rfl)) miX6_winkAt meX6_winkAt mini_RX6 rfl rfl hdX6_winkAt ⟨Nat.le_of_ble_eq_true rfl, Nat.le_of_ble_eq_true rfl⟩) hK hP hNW hk0 hR.1 rfl rfl hl.1 rfl (Nat.le_of_ble_eq_true rfl) (by decide) (dk kX6_ofPile_ok 16 rfl) ?_
      refine lv_goto (tgt := 49) hx hb (dk kX6_ofPile_ok 17 rfl) (by decide) ?_
      exact hret _ _ _ (by simp (config := { decide := true }) only [aPile, (eq_false h1), (eq_true h2), bI_1, bI_00, not_true_eq_false, not_false_eq_true, and_true, true_and, and_false, false_and, or_true, true_or, or_false, false_or, and_self, or_self, if_true, if_false, Bool.false_eq_true, reduceIte]; first | done | rfl | (simp_all; done)) (dk kX6_ofPile_ok 29 rfl)
  · skip
    refine lv_iload_n hx hb (dk kX6_ofPile_ok 6 rfl) rfl (lv_at hl 0 rfl) ?_
    refine lv_goto (tgt := 49) hx hb (dk kX6_ofPile_ok 7 rfl) (by decide) ?_
    exact hret _ _ _ (by simp (config := { decide := true }) only [aPile, (eq_true h1), bI_1, bI_00, not_true_eq_false, not_false_eq_true, and_true, true_and, and_false, false_and, or_true, true_or, or_false, false_or, and_self, or_self, if_true, if_false, Bool.false_eq_true, reduceIte]; first | done | rfl | (simp_all; done)) (dk kX6_ofPile_ok 29 rfl)
set_option maxRecDepth 100000 in
set_option maxHeartbeats 4000000 in
theorem tX6_ofColour (l : Launch) (D : va_G) (cI cQ cL : ClassId) (ad : Nat → Nat) (N : Nat) (F : Nat → va_E) (k : Nat) (hk : k + 7 < N) (r ps sl sd ne fa bu : Nat → Int32) (hs : Bool) (st ln pt : Nat) (th : Int32) (hR : rfAt cI ad F k r ps sl sd ne fa bu hs st ln pt th) (x : Int32) (w : Nat) (hxw : x = nI w) (hw : w < 4) (y : Int32) (a : Nat) (hya : y = nI a) (ha : a < 2 ^ 31) : MR l yX6_ofColour (Cond.code yX6_ofColour cX6_ofColour 3 (some .int) :: AW) ({ frames := 3, cells := 0, slots := 0, locals := 67 } : Room) D cI cQ cL ad N F [.ref (ad k), .int x, .int y] (.int (aCol r w a)) := by
  refine mr_i (ty := .int) (by decide +kernel) rfl rfl rfl rfl (Nat.le_of_ble_eq_true rfl) (fun p e s m below meth cd Q ls hx hb hml hown hts hP hK hNW hret hl => ?_)
  have hown : s.vm.findClass RX6 = some m.cls := hown
  subst hxw
  subst hya
  have hk0 : k < N := by omega
  have hk1 : k + 1 < N := by omega
  have hk2 : k + 2 < N := by omega
  have hk3 : k + 3 < N := by omega
  have hk4 : k + 4 < N := by omega
  have hk5 : k + 5 < N := by omega
  have hk6 : k + 6 < N := by omega
  have hk7 : k + 7 < N := by omega
  have hl : lv_has ls 3 [(0, .ref (ad k)), (1, .int (nI w)), (2, .int (nI a))] := hl
  refine lv_iload_n hx hb (dk kX6_ofColour_ok 0 rfl) rfl (lv_at hl 2 rfl) ?_
  refine n_if_ne (tgt := 12) hx hb (by omega) (dk kX6_ofColour_ok 1 rfl) (by decide) (fun h1 => ?_) (fun h1 => ?_)
  · skip
    refine lv_iload_n hx hb (dk kX6_ofColour_ok 6 rfl) rfl (lv_at hl 2 rfl) ?_
    refine lv_iconst (v := nI 1) hx hb (dk kX6_ofColour_ok 7 rfl) rfl ?_
    refine n_icmp_ne (tgt := 25) hx hb (by omega) (by decide) (dk kX6_ofColour_ok 8 rfl) (by decide) (fun h2 => ?_) (fun h2 => ?_)
    · skip
      refine lv_iload_n hx hb (dk kX6_ofColour_ok 13 rfl) rfl (lv_at hl 2 rfl) ?_
      refine lv_iconst (v := nI 2) hx hb (dk kX6_ofColour_ok 14 rfl) rfl ?_
      refine n_icmp_ne (tgt := 46) hx hb (by omega) (by decide) (dk kX6_ofColour_ok 15 rfl) (by decide) (fun h3 => ?_) (fun h3 => ?_)
      · skip
        refine lv_iload_n hx hb (dk kX6_ofColour_ok 26 rfl) rfl (lv_at hl 2 rfl) ?_
        refine lv_iconst (v := nI 3) hx hb (dk kX6_ofColour_ok 27 rfl) rfl ?_
        refine n_icmp_ne (tgt := 59) hx hb (by omega) (by decide) (dk kX6_ofColour_ok 28 rfl) (by decide) (fun h4 => ?_) (fun h4 => ?_)
        · skip
          refine lv_iload_n hx hb (dk kX6_ofColour_ok 33 rfl) rfl (lv_at hl 2 rfl) ?_
          refine lv_iconst (v := nI 4) hx hb (dk kX6_ofColour_ok 34 rfl) rfl ?_
          refine n_icmp_ne (tgt := 76) hx hb (by omega) (by decide) (dk kX6_ofColour_ok 35 rfl) (by decide) (fun h5 => ?_) (fun h5 => ?_)
          · skip
            refine lv_iload_n hx hb (dk kX6_ofColour_ok 43 rfl) rfl (lv_at hl 2 rfl) ?_
            refine lv_iconst (v := nI 5) hx hb (dk kX6_ofColour_ok 44 rfl) rfl ?_
            refine n_icmp_ne (tgt := 93) hx hb (by omega) (by decide) (dk kX6_ofColour_ok 45 rfl) (by decide) (fun h6 => ?_) (fun h6 => ?_)
            · skip
              refine lv_aload_n hx hb (dk kX6_ofColour_ok 53 rfl) rfl (lv_at hl 0 rfl) ?_
              refine lv_iload_n hx hb (dk kX6_ofColour_ok 54 rfl) rfl (lv_at hl 1 rfl) ?_
              refine cvR (As := [.int (nI w)]) (rest := []) ⟨hx, hb, hml, hown, hts⟩ (tX6_below l D cI cQ cL ad N F k hk r ps sl sd ne fa bu hs st ln pt th hR (nI w) w rfl (by omega)) (cwV9 1 hts mcX6_below (ac23 _ (List.mem_of_getElem? (i := 6) rfl)) miX6_below meX6_below mini_RX6 rfl rfl hdX6_below ⟨Nat.le_of_ble_eq_true rfl, Nat.le_of_ble_eq_true rfl⟩) hK hP hNW hk0 hR.1 rfl rfl hl.1 rfl (Nat.le_of_ble_eq_true rfl) (by decide) (dk kX6_ofColour_ok 55 rfl) ?_
              exact hret _ _ _ (by simp (config := { decide := true }) only [aCol, (eq_false h1), (eq_false h2), (eq_false h3), (eq_false h4), (eq_false h5), (eq_false h6), bI_1, bI_00, not_true_eq_false, not_false_eq_true, and_true, true_and, and_false, false_and, or_true, true_or, or_false, false_or, and_self, or_self, if_true, if_false, Bool.false_eq_true, reduceIte]; first | done | rfl | (simp_all; done)) (dk kX6_ofColour_ok 56 rfl)
            · skip
              refine lv_aload_n hx hb (dk kX6_ofColour_ok 46 rfl) rfl (lv_at hl 0 rfl) ?_
              refine gf hx hb hts (fun w h => List.mem_cons_of_mem _ (acX6 w h)) hown hK hP hk0 hR.1 rfl 0 (by decide) (hts _ (List.mem_cons_of_mem _ (ac17 _ (List.mem_of_getElem? (i := 17) rfl)))) (fun _ h => h) rfl (dk kX6_ofColour_ok 47 rfl) ?_
              refine lv_bipush (v := nI 52) hx hb (dk kX6_ofColour_ok 48 rfl) rfl ?_
              refine lv_iload_n hx hb (dk kX6_ofColour_ok 49 rfl) rfl (lv_at hl 1 rfl) ?_
              refine n_iadd hx hb (dk kX6_ofColour_ok 50 rfl) ?_
              refine ald (j := (52 + w)) hx hb hK hP hk1 hR.2.1 rfl (by omega) (by decide) (dk kX6_ofColour_ok 51 rfl) ?_
              refine lv_goto (tgt := 98) hx hb (dk kX6_ofColour_ok 52 rfl) (by decide) ?_
              exact hret _ _ _ (by simp (config := { decide := true }) only [aCol, (eq_false h1), (eq_false h2), (eq_false h3), (eq_false h4), (eq_false h5), (eq_true h6), bI_1, bI_00, not_true_eq_false, not_false_eq_true, and_true, true_and, and_false, false_and, or_true, true_or, or_false, false_or, and_self, or_self, if_true, if_false, Bool.false_eq_true, reduceIte]; first | done | rfl | (simp_all; done)) (dk kX6_ofColour_ok 56 rfl)
          · skip
            refine lv_aload_n hx hb (dk kX6_ofColour_ok 36 rfl) rfl (lv_at hl 0 rfl) ?_
            refine gf hx hb hts (fun w h => List.mem_cons_of_mem _ (acX6 w h)) hown hK hP hk0 hR.1 rfl 0 (by decide) (hts _ (List.mem_cons_of_mem _ (ac17 _ (List.mem_of_getElem? (i := 17) rfl)))) (fun _ h => h) rfl (dk kX6_ofColour_ok 37 rfl) ?_
            refine lv_bipush (v := nI 48) hx hb (dk kX6_ofColour_ok 38 rfl) rfl ?_
            refine lv_iload_n hx hb (dk kX6_ofColour_ok 39 rfl) rfl (lv_at hl 1 rfl) ?_
            refine n_iadd hx hb (dk kX6_ofColour_ok 40 rfl) ?_
            refine ald (j := (48 + w)) hx hb hK hP hk1 hR.2.1 rfl (by omega) (by decide) (dk kX6_ofColour_ok 41 rfl) ?_
            refine lv_goto (tgt := 98) hx hb (dk kX6_ofColour_ok 42 rfl) (by decide) ?_
            exact hret _ _ _ (by simp (config := { decide := true }) only [aCol, (eq_false h1), (eq_false h2), (eq_false h3), (eq_false h4), (eq_true h5), bI_1, bI_00, not_true_eq_false, not_false_eq_true, and_true, true_and, and_false, false_and, or_true, true_or, or_false, false_or, and_self, or_self, if_true, if_false, Bool.false_eq_true, reduceIte]; first | done | rfl | (simp_all; done)) (dk kX6_ofColour_ok 56 rfl)
        · skip
          refine lv_aload_n hx hb (dk kX6_ofColour_ok 29 rfl) rfl (lv_at hl 0 rfl) ?_
          refine lv_iload_n hx hb (dk kX6_ofColour_ok 30 rfl) rfl (lv_at hl 1 rfl) ?_
          refine cvR (As := [.int (nI w)]) (rest := []) ⟨hx, hb, hml, hown, hts⟩ (tX6_points l D cI cQ cL ad N F k hk r ps sl sd ne fa bu hs st ln pt th hR (nI w) w rfl (by omega)) (cwV9 1 hts mcX6_points (ac18 _ (List.mem_of_getElem? (i := 22) rfl)) miX6_points meX6_points mini_RX6 rfl rfl hdX6_points ⟨Nat.le_of_ble_eq_true rfl, Nat.le_of_ble_eq_true rfl⟩) hK hP hNW hk0 hR.1 rfl rfl hl.1 rfl (Nat.le_of_ble_eq_true rfl) (by decide) (dk kX6_ofColour_ok 31 rfl) ?_
          refine lv_goto (tgt := 98) hx hb (dk kX6_ofColour_ok 32 rfl) (by decide) ?_
          exact hret _ _ _ (by simp (config := { decide := true }) only [aCol, (eq_false h1), (eq_false h2), (eq_false h3), (eq_true h4), bI_1, bI_00, not_true_eq_false, not_false_eq_true, and_true, true_and, and_false, false_and, or_true, true_or, or_false, false_or, and_self, or_self, if_true, if_false, Bool.false_eq_true, reduceIte]; first | done | rfl | (simp_all; done)) (dk kX6_ofColour_ok 56 rfl)
      · skip
        refine lv_iconst (v := nI 4) hx hb (dk kX6_ofColour_ok 16 rfl) rfl ?_
        refine lv_aload_n hx hb (dk kX6_ofColour_ok 17 rfl) rfl (lv_at hl 0 rfl) ?_
        refine lv_iload_n hx hb (dk kX6_ofColour_ok 18 rfl) rfl (lv_at hl 1 rfl) ?_
        refine cvR (As := [.int (nI w)]) (rest := [.int (nI 4)]) ⟨hx, hb, hml, hown, hts⟩ (tX6_pottedOf l D cI cQ cL ad N F k hk r ps sl sd ne fa bu hs st ln pt th hR (nI w) w rfl (by omega)) (cwV9 1 hts mcX6_pottedOf (ac18 _ (List.mem_of_getElem? (i := 14) rfl)) miX6_pottedOf meX6_pottedOf mini_RX6 rfl rfl hdX6_pottedOf ⟨Nat.le_of_ble_eq_true rfl, Nat.le_of_ble_eq_true rfl⟩) hK hP hNW hk0 hR.1 rfl rfl hl.1 rfl (Nat.le_of_ble_eq_true rfl) (by decide) (dk kX6_ofColour_ok 19 rfl) ?_
        refine lv_isub hx hb (dk kX6_ofColour_ok 20 rfl) ?_
        refine lv_aload_n hx hb (dk kX6_ofColour_ok 21 rfl) rfl (lv_at hl 0 rfl) ?_
        refine lv_iload_n hx hb (dk kX6_ofColour_ok 22 rfl) rfl (lv_at hl 1 rfl) ?_
        refine cvR (As := [.int (nI w)]) (rest := [.int ((nI 4) - (nI (potc r w)))]) ⟨hx, hb, hml, hown, hts⟩ (tX6_coveredOf l D cI cQ cL ad N F k hk r ps sl sd ne fa bu hs st ln pt th hR (nI w) w rfl (by omega)) (cwV9 1 hts mcX6_coveredOf (ac23 _ (List.mem_of_getElem? (i := 2) rfl)) miX6_coveredOf meX6_coveredOf mini_RX6 rfl rfl hdX6_coveredOf ⟨Nat.le_of_ble_eq_true rfl, Nat.le_of_ble_eq_true rfl⟩) hK hP hNW hk0 hR.1 rfl rfl hl.1 rfl (Nat.le_of_ble_eq_true rfl) (by decide) (dk kX6_ofColour_ok 23 rfl) ?_
        refine lv_isub hx hb (dk kX6_ofColour_ok 24 rfl) ?_
        refine lv_goto (tgt := 98) hx hb (dk kX6_ofColour_ok 25 rfl) (by decide) ?_
        exact hret _ _ _ (by simp (config := { decide := true }) only [aCol, (eq_false h1), (eq_false h2), (eq_true h3), bI_1, bI_00, not_true_eq_false, not_false_eq_true, and_true, true_and, and_false, false_and, or_true, true_or, or_false, false_or, and_self, or_self, if_true, if_false, Bool.false_eq_true, reduceIte]; first | done | rfl | (simp_all; done)) (dk kX6_ofColour_ok 56 rfl)
    · skip
      refine lv_aload_n hx hb (dk kX6_ofColour_ok 9 rfl) rfl (lv_at hl 0 rfl) ?_
      refine lv_iload_n hx hb (dk kX6_ofColour_ok 10 rfl) rfl (lv_at hl 1 rfl) ?_
      refine cvR (As := [.int (nI w)]) (rest := []) ⟨hx, hb, hml, hown, hts⟩ (tX6_coveredOf l D cI cQ cL ad N F k hk r ps sl sd ne fa bu hs st ln pt th hR (nI w) w rfl (by omega)) (cwV9 1 hts mcX6_coveredOf (ac23 _ (List.mem_of_getElem? (i := 2) rfl)) miX6_coveredOf meX6_coveredOf mini_RX6 rfl rfl hdX6_coveredOf ⟨Nat.le_of_ble_eq_true rfl, Nat.le_of_ble_eq_true rfl⟩) hK hP hNW hk0 hR.1 rfl rfl hl.1 rfl (Nat.le_of_ble_eq_true rfl) (by decide) (dk kX6_ofColour_ok 11 rfl) ?_
      refine lv_goto (tgt := 98) hx hb (dk kX6_ofColour_ok 12 rfl) (by decide) ?_
      exact hret _ _ _ (by simp (config := { decide := true }) only [aCol, (eq_false h1), (eq_true h2), bI_1, bI_00, not_true_eq_false, not_false_eq_true, and_true, true_and, and_false, false_and, or_true, true_or, or_false, false_or, and_self, or_self, if_true, if_false, Bool.false_eq_true, reduceIte]; first | done | rfl | (simp_all; done)) (dk kX6_ofColour_ok 56 rfl)
  · skip
    refine lv_aload_n hx hb (dk kX6_ofColour_ok 2 rfl) rfl (lv_at hl 0 rfl) ?_
    refine lv_iload_n hx hb (dk kX6_ofColour_ok 3 rfl) rfl (lv_at hl 1 rfl) ?_
    refine cvR (As := [.int (nI w)]) (rest := []) ⟨hx, hb, hml, hown, hts⟩ (tX6_pottedOf l D cI cQ cL ad N F k hk r ps sl sd ne fa bu hs st ln pt th hR (nI w) w rfl (by omega)) (cwV9 1 hts mcX6_pottedOf (ac18 _ (List.mem_of_getElem? (i := 14) rfl)) miX6_pottedOf meX6_pottedOf mini_RX6 rfl rfl hdX6_pottedOf ⟨Nat.le_of_ble_eq_true rfl, Nat.le_of_ble_eq_true rfl⟩) hK hP hNW hk0 hR.1 rfl rfl hl.1 rfl (Nat.le_of_ble_eq_true rfl) (by decide) (dk kX6_ofColour_ok 4 rfl) ?_
    refine lv_goto (tgt := 98) hx hb (dk kX6_ofColour_ok 5 rfl) (by decide) ?_
    exact hret _ _ _ (by simp (config := { decide := true }) only [aCol, (eq_true h1), bI_1, bI_00, not_true_eq_false, not_false_eq_true, and_true, true_and, and_false, false_and, or_true, true_or, or_false, false_or, and_self, or_self, if_true, if_false, Bool.false_eq_true, reduceIte]; first | done | rfl | (simp_all; done)) (dk kX6_ofColour_ok 56 rfl)
set_option maxRecDepth 100000 in
set_option maxHeartbeats 4000000 in
theorem tX6_number (l : Launch) (D : va_G) (cI cQ cL : ClassId) (ad : Nat → Nat) (N : Nat) (F : Nat → va_E) (k : Nat) (hk : k + 7 < N) (r ps sl sd ne fa bu : Nat → Int32) (hs : Bool) (st ln pt : Nat) (th : Int32) (hR : rfAt cI ad F k r ps sl sd ne fa bu hs st ln pt th) (y : Int32) (a : Nat) (hya : y = nI a) (ha : a < 14) : MR l yX6_number (Cond.code yX6_number cX6_number 2 (some .int) :: AW) ({ frames := 4, cells := 0, slots := 0, locals := 88 } : Room) D cI cQ cL ad N F [.ref (ad k), .int y] (.int (aNum r st a)) := by
  refine mr_i (ty := .int) (by decide +kernel) rfl rfl rfl rfl (Nat.le_of_ble_eq_true rfl) (fun p e s m below meth cd Q ls hx hb hml hown hts hP hK hNW hret hl => ?_)
  have hown : s.vm.findClass RX6 = some m.cls := hown
  subst hya
  have hk0 : k < N := by omega
  have hk1 : k + 1 < N := by omega
  have hk2 : k + 2 < N := by omega
  have hk3 : k + 3 < N := by omega
  have hk4 : k + 4 < N := by omega
  have hk5 : k + 5 < N := by omega
  have hk6 : k + 6 < N := by omega
  have hk7 : k + 7 < N := by omega
  have hl : lv_has ls 2 [(0, .ref (ad k)), (1, .int (nI a))] := hl
  refine lv_iload_n hx hb (dk kX6_number_0_ok 0 rfl) rfl (lv_at hl 1 rfl) ?_
  refine lv_iconst (v := nI 5) hx hb (dk kX6_number_0_ok 1 rfl) rfl ?_
  refine n_icmp_ge (tgt := 67) hx hb (by omega) (by decide) (dk kX6_number_0_ok 2 rfl) (by decide) (fun h1 => ?_) (fun h1 => ?_)
  · skip
    refine lv_iload_n hx hb (dk kX6_number_0_ok 34 rfl) rfl (lv_at hl 1 rfl) ?_
    refine lv_bipush (v := nI 10) hx hb (dk kX6_number_0_ok 35 rfl) rfl ?_
    refine n_icmp_ge (tgt := 162) hx hb (by omega) (by decide) (dk kX6_number_0_ok 36 rfl) (by decide) (fun h2 => ?_) (fun h2 => ?_)
    · skip
      refine lv_iload_n hx hb (dk kX6_number_1_ok 25 rfl) rfl (lv_at hl 1 rfl) ?_
      refine lv_bipush (v := nI 12) hx hb (dk kX6_number_1_ok 26 rfl) rfl ?_
      refine n_icmp_ge (tgt := 179) hx hb (by omega) (by decide) (dk kX6_number_1_ok 27 rfl) (by decide) (fun h3 => ?_) (fun h3 => ?_)
      · skip
        refine lv_iload_n hx hb (dk kX6_number_1_ok 34 rfl) rfl (lv_at hl 1 rfl) ?_
        refine lv_bipush (v := nI 12) hx hb (dk kX6_number_1_ok 35 rfl) rfl ?_
        refine n_icmp_ne (tgt := 195) hx hb (by omega) (by decide) (dk kX6_number_1_ok 36 rfl) (by decide) (fun h4 => ?_) (fun h4 => ?_)
        · skip
          refine lv_aload_n hx hb (dk kX6_number_1_ok 42 rfl) rfl (lv_at hl 0 rfl) ?_
          refine gf hx hb hts (fun w h => List.mem_cons_of_mem _ (acX6 w h)) hown hK hP hk0 hR.1 rfl 8 (by decide) (hts _ (List.mem_cons_of_mem _ (ac18 _ (List.mem_of_getElem? (i := 5) rfl)))) (fun _ h => h) rfl (dk kX6_number_1_ok 43 rfl) ?_
          exact hret _ _ _ (by simp (config := { decide := true }) only [aNum, (eq_true h1), (eq_false (Nat.not_lt.mpr h1)), (eq_true h2), (eq_false (Nat.not_lt.mpr h2)), (eq_true h3), (eq_false (Nat.not_lt.mpr h3)), (eq_false h4), bI_1, bI_00, not_true_eq_false, not_false_eq_true, and_true, true_and, and_false, false_and, or_true, true_or, or_false, false_or, and_self, or_self, if_true, if_false, Bool.false_eq_true, reduceIte]; first | done | rfl | (simp_all; done)) (dk kX6_number_1_ok 44 rfl)
        · skip
          refine lv_aload_n hx hb (dk kX6_number_1_ok 37 rfl) rfl (lv_at hl 0 rfl) ?_
          refine gf hx hb hts (fun w h => List.mem_cons_of_mem _ (acX6 w h)) hown hK hP hk0 hR.1 rfl 0 (by decide) (hts _ (List.mem_cons_of_mem _ (ac17 _ (List.mem_of_getElem? (i := 17) rfl)))) (fun _ h => h) rfl (dk kX6_number_1_ok 38 rfl) ?_
          refine lv_bipush (v := nI 57) hx hb (dk kX6_number_1_ok 39 rfl) rfl ?_
          refine ald (j := 57) hx hb hK hP hk1 hR.2.1 rfl (by omega) (by decide) (dk kX6_number_1_ok 40 rfl) ?_
          refine lv_goto (tgt := 199) hx hb (dk kX6_number_1_ok 41 rfl) (by decide) ?_
          exact hret _ _ _ (by simp (config := { decide := true }) only [aNum, (eq_true h1), (eq_false (Nat.not_lt.mpr h1)), (eq_true h2), (eq_false (Nat.not_lt.mpr h2)), (eq_true h3), (eq_false (Nat.not_lt.mpr h3)), (eq_true h4), bI_1, bI_00, not_true_eq_false, not_false_eq_true, and_true, true_and, and_false, false_and, or_true, true_or, or_false, false_or, and_self, or_self, if_true, if_false, Bool.false_eq_true, reduceIte]; first | done | rfl | (simp_all; done)) (dk kX6_number_1_ok 44 rfl)
      · skip
        refine lv_aload_n hx hb (dk kX6_number_1_ok 28 rfl) rfl (lv_at hl 0 rfl) ?_
        refine lv_iload_n hx hb (dk kX6_number_1_ok 29 rfl) rfl (lv_at hl 1 rfl) ?_
        refine lv_bipush (v := nI 10) hx hb (dk kX6_number_1_ok 30 rfl) rfl ?_
        refine n_isub hx hb (by omega) (dk kX6_number_1_ok 31 rfl) ?_
        refine cvR (As := [.int (nI (a - 10))]) (rest := []) ⟨hx, hb, hml, hown, hts⟩ (tX6_team l D cI cQ cL ad N F k hk r ps sl sd ne fa bu hs st ln pt th hR (nI (a - 10)) (a - 10) rfl (by omega)) (cwV9 1 hts mcX6_team (ac24 _ (List.mem_of_getElem? (i := 2) rfl)) miX6_team meX6_team mini_RX6 rfl rfl hdX6_team ⟨Nat.le_of_ble_eq_true rfl, Nat.le_of_ble_eq_true rfl⟩) hK hP hNW hk0 hR.1 rfl rfl hl.1 rfl (Nat.le_of_ble_eq_true rfl) (by decide) (dk kX6_number_1_ok 32 rfl) ?_
        refine lv_goto (tgt := 199) hx hb (dk kX6_number_1_ok 33 rfl) (by decide) ?_
        exact hret _ _ _ (by simp (config := { decide := true }) only [aNum, (eq_true h1), (eq_false (Nat.not_lt.mpr h1)), (eq_true h2), (eq_false (Nat.not_lt.mpr h2)), (eq_true h3), (eq_false (Nat.not_le.mpr h3)), bI_1, bI_00, not_true_eq_false, not_false_eq_true, and_true, true_and, and_false, false_and, or_true, true_or, or_false, false_or, and_self, or_self, if_true, if_false, Bool.false_eq_true, reduceIte]; first | done | rfl | (simp_all; done)) (dk kX6_number_1_ok 44 rfl)
    · skip
      refine lv_iload_n hx hb (dk kX6_number_0_ok 37 rfl) rfl (lv_at hl 1 rfl) ?_
      refine lv_iconst (v := nI 5) hx hb (dk kX6_number_0_ok 38 rfl) rfl ?_
      refine n_icmp_ne (tgt := 85) hx hb (by omega) (by decide) (dk kX6_number_0_ok 39 rfl) (by decide) (fun h5 => ?_) (fun h5 => ?_)
      · skip
        refine lv_iload_n hx hb (dk kX6_number_0_ok 43 rfl) rfl (lv_at hl 1 rfl) ?_
        refine lv_bipush (v := nI 6) hx hb (dk kX6_number_0_ok 44 rfl) rfl ?_
        refine n_icmp_ne (tgt := 98) hx hb (by omega) (by decide) (dk kX6_number_0_ok 45 rfl) (by decide) (fun h6 => ?_) (fun h6 => ?_)
        · skip
          refine lv_iload_n hx hb (dk kX6_number_0_ok 49 rfl) rfl (lv_at hl 1 rfl) ?_
          refine lv_bipush (v := nI 7) hx hb (dk kX6_number_0_ok 50 rfl) rfl ?_
          refine n_icmp_ne (tgt := 114) hx hb (by omega) (by decide) (dk kX6_number_0_ok 51 rfl) (by decide) (fun h7 => ?_) (fun h7 => ?_)
          · skip
            refine lv_iload_n hx hb (dk kX6_number_0_ok 57 rfl) rfl (lv_at hl 1 rfl) ?_
            refine lv_bipush (v := nI 8) hx hb (dk kX6_number_0_ok 58 rfl) rfl ?_
            refine n_icmp_ne (tgt := 130) hx hb (by omega) (by decide) (dk kX6_number_0_ok 59 rfl) (by decide) (fun h8 => ?_) (fun h8 => ?_)
            · skip
              refine lv_aload_n hx hb (dk kX6_number_1_ok 5 rfl) rfl (lv_at hl 0 rfl) ?_
              refine gf hx hb hts (fun w h => List.mem_cons_of_mem _ (acX6 w h)) hown hK hP hk0 hR.1 rfl 0 (by decide) (hts _ (List.mem_cons_of_mem _ (ac17 _ (List.mem_of_getElem? (i := 17) rfl)))) (fun _ h => h) rfl (dk kX6_number_1_ok 6 rfl) ?_
              refine lv_bipush (v := nI 48) hx hb (dk kX6_number_1_ok 7 rfl) rfl ?_
              refine ald (j := 48) hx hb hK hP hk1 hR.2.1 rfl (by omega) (by decide) (dk kX6_number_1_ok 8 rfl) ?_
              refine lv_aload_n hx hb (dk kX6_number_1_ok 9 rfl) rfl (lv_at hl 0 rfl) ?_
              refine gf hx hb hts (fun w h => List.mem_cons_of_mem _ (acX6 w h)) hown hK hP hk0 hR.1 rfl 0 (by decide) (hts _ (List.mem_cons_of_mem _ (ac17 _ (List.mem_of_getElem? (i := 17) rfl)))) (fun _ h => h) rfl (dk kX6_number_1_ok 10 rfl) ?_
              refine lv_bipush (v := nI 49) hx hb (dk kX6_number_1_ok 11 rfl) rfl ?_
              refine ald (j := 49) hx hb hK hP hk1 hR.2.1 rfl (by omega) (by decide) (dk kX6_number_1_ok 12 rfl) ?_
              refine lv_iadd hx hb (dk kX6_number_1_ok 13 rfl) ?_
              refine lv_aload_n hx hb (dk kX6_number_1_ok 14 rfl) rfl (lv_at hl 0 rfl) ?_
              refine gf hx hb hts (fun w h => List.mem_cons_of_mem _ (acX6 w h)) hown hK hP hk0 hR.1 rfl 0 (by decide) (hts _ (List.mem_cons_of_mem _ (ac17 _ (List.mem_of_getElem? (i := 17) rfl)))) (fun _ h => h) rfl (dk kX6_number_1_ok 15 rfl) ?_
              refine lv_bipush (v := nI 50) hx hb (dk kX6_number_1_ok 16 rfl) rfl ?_
              refine ald (j := 50) hx hb hK hP hk1 hR.2.1 rfl (by omega) (by decide) (dk kX6_number_1_ok 17 rfl) ?_
              refine lv_iadd hx hb (dk kX6_number_1_ok 18 rfl) ?_
              refine lv_aload_n hx hb (dk kX6_number_1_ok 19 rfl) rfl (lv_at hl 0 rfl) ?_
              refine gf hx hb hts (fun w h => List.mem_cons_of_mem _ (acX6 w h)) hown hK hP hk0 hR.1 rfl 0 (by decide) (hts _ (List.mem_cons_of_mem _ (ac17 _ (List.mem_of_getElem? (i := 17) rfl)))) (fun _ h => h) rfl (dk kX6_number_1_ok 20 rfl) ?_
              refine lv_bipush (v := nI 51) hx hb (dk kX6_number_1_ok 21 rfl) rfl ?_
              refine ald (j := 51) hx hb hK hP hk1 hR.2.1 rfl (by omega) (by decide) (dk kX6_number_1_ok 22 rfl) ?_
              refine lv_iadd hx hb (dk kX6_number_1_ok 23 rfl) ?_
              exact hret _ _ _ (by simp (config := { decide := true }) only [aNum, (eq_true h1), (eq_false (Nat.not_lt.mpr h1)), (eq_true h2), (eq_false (Nat.not_le.mpr h2)), (eq_false h5), (eq_false h6), (eq_false h7), (eq_false h8), bI_1, bI_00, not_true_eq_false, not_false_eq_true, and_true, true_and, and_false, false_and, or_true, true_or, or_false, false_or, and_self, or_self, if_true, if_false, Bool.false_eq_true, reduceIte]; first | done | rfl | (simp_all; done)) (dk kX6_number_1_ok 24 rfl)
            · skip
              refine lv_aload_n hx hb (dk kX6_number_1_ok 0 rfl) rfl (lv_at hl 0 rfl) ?_
              refine gf hx hb hts (fun w h => List.mem_cons_of_mem _ (acX6 w h)) hown hK hP hk0 hR.1 rfl 0 (by decide) (hts _ (List.mem_cons_of_mem _ (ac17 _ (List.mem_of_getElem? (i := 17) rfl)))) (fun _ h => h) rfl (dk kX6_number_1_ok 1 rfl) ?_
              refine lv_bipush (v := nI 59) hx hb (dk kX6_number_1_ok 2 rfl) rfl ?_
              refine ald (j := 59) hx hb hK hP hk1 hR.2.1 rfl (by omega) (by decide) (dk kX6_number_1_ok 3 rfl) ?_
              refine lv_goto (tgt := 161) hx hb (dk kX6_number_1_ok 4 rfl) (by decide) ?_
              exact hret _ _ _ (by simp (config := { decide := true }) only [aNum, (eq_true h1), (eq_false (Nat.not_lt.mpr h1)), (eq_true h2), (eq_false (Nat.not_le.mpr h2)), (eq_false h5), (eq_false h6), (eq_false h7), (eq_true h8), bI_1, bI_00, not_true_eq_false, not_false_eq_true, and_true, true_and, and_false, false_and, or_true, true_or, or_false, false_or, and_self, or_self, if_true, if_false, Bool.false_eq_true, reduceIte]; first | done | rfl | (simp_all; done)) (dk kX6_number_1_ok 24 rfl)
          · skip
            refine lv_aload_n hx hb (dk kX6_number_0_ok 52 rfl) rfl (lv_at hl 0 rfl) ?_
            refine gf hx hb hts (fun w h => List.mem_cons_of_mem _ (acX6 w h)) hown hK hP hk0 hR.1 rfl 0 (by decide) (hts _ (List.mem_cons_of_mem _ (ac17 _ (List.mem_of_getElem? (i := 17) rfl)))) (fun _ h => h) rfl (dk kX6_number_0_ok 53 rfl) ?_
            refine lv_bipush (v := nI 58) hx hb (dk kX6_number_0_ok 54 rfl) rfl ?_
            refine ald (j := 58) hx hb hK hP hk1 hR.2.1 rfl (by omega) (by decide) (dk kX6_number_0_ok 55 rfl) ?_
            refine lv_goto (tgt := 161) hx hb (dk kX6_number_0_ok 56 rfl) (by decide) ?_
            exact hret _ _ _ (by simp (config := { decide := true }) only [aNum, (eq_true h1), (eq_false (Nat.not_lt.mpr h1)), (eq_true h2), (eq_false (Nat.not_le.mpr h2)), (eq_false h5), (eq_false h6), (eq_true h7), bI_1, bI_00, not_true_eq_false, not_false_eq_true, and_true, true_and, and_false, false_and, or_true, true_or, or_false, false_or, and_self, or_self, if_true, if_false, Bool.false_eq_true, reduceIte]; first | done | rfl | (simp_all; done)) (dk kX6_number_1_ok 24 rfl)
        · skip
          refine lv_aload_n hx hb (dk kX6_number_0_ok 46 rfl) rfl (lv_at hl 0 rfl) ?_
          refine cvR (As := []) (rest := []) ⟨hx, hb, hml, hown, hts⟩ (tX6_highest l D cI cQ cL ad N F k hk r ps sl sd ne fa bu hs st ln pt th hR) (cwV9 0 hts mcX6_highest (ac23 _ (List.mem_of_getElem? (i := 22) rfl)) miX6_highest meX6_highest mini_RX6 rfl rfl hdX6_highest ⟨Nat.le_of_ble_eq_true rfl, Nat.le_of_ble_eq_true rfl⟩) hK hP hNW hk0 hR.1 rfl rfl hl.1 rfl (Nat.le_of_ble_eq_true rfl) (by decide) (dk kX6_number_0_ok 47 rfl) ?_
          refine lv_goto (tgt := 161) hx hb (dk kX6_number_0_ok 48 rfl) (by decide) ?_
          exact hret _ _ _ (by simp (config := { decide := true }) only [aNum, (eq_true h1), (eq_false (Nat.not_lt.mpr h1)), (eq_true h2), (eq_false (Nat.not_le.mpr h2)), (eq_false h5), (eq_true h6), bI_1, bI_00, not_true_eq_false, not_false_eq_true, and_true, true_and, and_false, false_and, or_true, true_or, or_false, false_or, and_self, or_self, if_true, if_false, Bool.false_eq_true, reduceIte]; first | done | rfl | (simp_all; done)) (dk kX6_number_1_ok 24 rfl)
      · skip
        refine lv_aload_n hx hb (dk kX6_number_0_ok 40 rfl) rfl (lv_at hl 0 rfl) ?_
        refine cvR (As := []) (rest := []) ⟨hx, hb, hml, hown, hts⟩ (tX6_piles l D cI cQ cL ad N F k hk r ps sl sd ne fa bu hs st ln pt th hR) (cwV9 0 hts mcX6_piles (ac23 _ (List.mem_of_getElem? (i := 18) rfl)) miX6_piles meX6_piles mini_RX6 rfl rfl hdX6_piles ⟨Nat.le_of_ble_eq_true rfl, Nat.le_of_ble_eq_true rfl⟩) hK hP hNW hk0 hR.1 rfl rfl hl.1 rfl (Nat.le_of_ble_eq_true rfl) (by decide) (dk kX6_number_0_ok 41 rfl) ?_
        refine lv_goto (tgt := 161) hx hb (dk kX6_number_0_ok 42 rfl) (by decide) ?_
        exact hret _ _ _ (by simp (config := { decide := true }) only [aNum, (eq_true h1), (eq_false (Nat.not_lt.mpr h1)), (eq_true h2), (eq_false (Nat.not_le.mpr h2)), (eq_true h5), bI_1, bI_00, not_true_eq_false, not_false_eq_true, and_true, true_and, and_false, false_and, or_true, true_or, or_false, false_or, and_self, or_self, if_true, if_false, Bool.false_eq_true, reduceIte]; first | done | rfl | (simp_all; done)) (dk kX6_number_1_ok 24 rfl)
  · skip
    refine lv_iload_n hx hb (dk kX6_number_0_ok 3 rfl) rfl (lv_at hl 1 rfl) ?_
    refine n_if_ne (tgt := 30) hx hb (by omega) (dk kX6_number_0_ok 4 rfl) (by decide) (fun h9 => ?_) (fun h9 => ?_)
    · skip
      refine lv_iload_n hx hb (dk kX6_number_0_ok 15 rfl) rfl (lv_at hl 1 rfl) ?_
      refine lv_iconst (v := nI 1) hx hb (dk kX6_number_0_ok 16 rfl) rfl ?_
      refine n_icmp_ne (tgt := 50) hx hb (by omega) (by decide) (dk kX6_number_0_ok 17 rfl) (by decide) (fun h10 => ?_) (fun h10 => ?_)
      · skip
        refine lv_iload_n hx hb (dk kX6_number_0_ok 25 rfl) rfl (lv_at hl 1 rfl) ?_
        refine lv_iconst (v := nI 2) hx hb (dk kX6_number_0_ok 26 rfl) rfl ?_
        refine n_icmp_ne (tgt := 62) hx hb (by omega) (by decide) (dk kX6_number_0_ok 27 rfl) (by decide) (fun h11 => ?_) (fun h11 => ?_)
        · skip
          refine lv_aload_n hx hb (dk kX6_number_0_ok 31 rfl) rfl (lv_at hl 0 rfl) ?_
          refine cvR (As := []) (rest := []) ⟨hx, hb, hml, hown, hts⟩ (tX6_covered l D cI cQ cL ad N F k hk r ps sl sd ne fa bu hs st ln pt th hR) (cwV9 0 hts mcX6_covered (ac23 _ (List.mem_of_getElem? (i := 14) rfl)) miX6_covered meX6_covered mini_RX6 rfl rfl hdX6_covered ⟨Nat.le_of_ble_eq_true rfl, Nat.le_of_ble_eq_true rfl⟩) hK hP hNW hk0 hR.1 rfl rfl hl.1 rfl (Nat.le_of_ble_eq_true rfl) (by decide) (dk kX6_number_0_ok 32 rfl) ?_
          exact hret _ _ _ (by simp (config := { decide := true }) only [aNum, (eq_true h1), (eq_false (Nat.not_le.mpr h1)), (eq_false h9), (eq_false h10), (eq_false h11), bI_1, bI_00, not_true_eq_false, not_false_eq_true, and_true, true_and, and_false, false_and, or_true, true_or, or_false, false_or, and_self, or_self, if_true, if_false, Bool.false_eq_true, reduceIte]; first | done | rfl | (simp_all; done)) (dk kX6_number_0_ok 33 rfl)
        · skip
          refine lv_aload_n hx hb (dk kX6_number_0_ok 28 rfl) rfl (lv_at hl 0 rfl) ?_
          refine cvR (As := []) (rest := []) ⟨hx, hb, hml, hown, hts⟩ (tX6_pottedInAll l D cI cQ cL ad N F k hk r ps sl sd ne fa bu hs st ln pt th hR) (cwV9 0 hts mcX6_pottedInAll (ac22 _ (List.mem_of_getElem? (i := 10) rfl)) miX6_pottedInAll meX6_pottedInAll mini_RX6 rfl rfl hdX6_pottedInAll ⟨Nat.le_of_ble_eq_true rfl, Nat.le_of_ble_eq_true rfl⟩) hK hP hNW hk0 hR.1 rfl rfl hl.1 rfl (Nat.le_of_ble_eq_true rfl) (by decide) (dk kX6_number_0_ok 29 rfl) ?_
          refine lv_goto (tgt := 66) hx hb (dk kX6_number_0_ok 30 rfl) (by decide) ?_
          exact hret _ _ _ (by simp (config := { decide := true }) only [aNum, (eq_true h1), (eq_false (Nat.not_le.mpr h1)), (eq_false h9), (eq_false h10), (eq_true h11), bI_1, bI_00, not_true_eq_false, not_false_eq_true, and_true, true_and, and_false, false_and, or_true, true_or, or_false, false_or, and_self, or_self, if_true, if_false, Bool.false_eq_true, reduceIte]; first | done | rfl | (simp_all; done)) (dk kX6_number_0_ok 33 rfl)
      · skip
        refine lv_aload_n hx hb (dk kX6_number_0_ok 18 rfl) rfl (lv_at hl 0 rfl) ?_
        refine cvR (As := []) (rest := []) ⟨hx, hb, hml, hown, hts⟩ (tX6_isOver l D cI cQ cL ad N F k hk r ps sl sd ne fa bu hs st ln pt th hR) (cwV9 0 hts mcX6_isOver (ac19 _ (List.mem_of_getElem? (i := 2) rfl)) miX6_isOver meX6_isOver mini_RX6 rfl rfl hdX6_isOver ⟨Nat.le_of_ble_eq_true rfl, Nat.le_of_ble_eq_true rfl⟩) hK hP hNW hk0 hR.1 rfl rfl hl.1 rfl (Nat.le_of_ble_eq_true rfl) (by decide) (dk kX6_number_0_ok 19 rfl) ?_
        refine b_if_eq (tgt := 46) hx hb (dk kX6_number_0_ok 20 rfl) (by decide) (fun h12 => ?_) (fun h12 => ?_)
        · skip
          refine lv_iconst (v := nI 0) hx hb (dk kX6_number_0_ok 23 rfl) rfl ?_
          refine lv_goto (tgt := 66) hx hb (dk kX6_number_0_ok 24 rfl) (by decide) ?_
          exact hret _ _ _ (by simp (config := { decide := true }) only [aNum, (eq_true h1), (eq_false (Nat.not_le.mpr h1)), (eq_false h9), (eq_true h10), h12, bI_1, bI_00, not_true_eq_false, not_false_eq_true, and_true, true_and, and_false, false_and, or_true, true_or, or_false, false_or, and_self, or_self, if_true, if_false, Bool.false_eq_true, reduceIte]; first | done | rfl | (simp_all; done)) (dk kX6_number_0_ok 33 rfl)
        · skip
          refine lv_iconst (v := nI 1) hx hb (dk kX6_number_0_ok 21 rfl) rfl ?_
          refine lv_goto (tgt := 66) hx hb (dk kX6_number_0_ok 22 rfl) (by decide) ?_
          exact hret _ _ _ (by simp (config := { decide := true }) only [aNum, (eq_true h1), (eq_false (Nat.not_le.mpr h1)), (eq_false h9), (eq_true h10), h12, bI_1, bI_00, not_true_eq_false, not_false_eq_true, and_true, true_and, and_false, false_and, or_true, true_or, or_false, false_or, and_self, or_self, if_true, if_false, Bool.false_eq_true, reduceIte]; first | done | rfl | (simp_all; done)) (dk kX6_number_0_ok 33 rfl)
    · skip
      refine lv_aload_n hx hb (dk kX6_number_0_ok 5 rfl) rfl (lv_at hl 0 rfl) ?_
      refine cvR (As := []) (rest := []) ⟨hx, hb, hml, hown, hts⟩ (tX6_isOver l D cI cQ cL ad N F k hk r ps sl sd ne fa bu hs st ln pt th hR) (cwV9 0 hts mcX6_isOver (ac19 _ (List.mem_of_getElem? (i := 2) rfl)) miX6_isOver meX6_isOver mini_RX6 rfl rfl hdX6_isOver ⟨Nat.le_of_ble_eq_true rfl, Nat.le_of_ble_eq_true rfl⟩) hK hP hNW hk0 hR.1 rfl rfl hl.1 rfl (Nat.le_of_ble_eq_true rfl) (by decide) (dk kX6_number_0_ok 6 rfl) ?_
      refine b_if_eq (tgt := 20) hx hb (dk kX6_number_0_ok 7 rfl) (by decide) (fun h13 => ?_) (fun h13 => ?_)
      · skip
        refine lv_aload_n hx hb (dk kX6_number_0_ok 10 rfl) rfl (lv_at hl 0 rfl) ?_
        refine gf hx hb hts (fun w h => List.mem_cons_of_mem _ (acX6 w h)) hown hK hP hk0 hR.1 rfl 0 (by decide) (hts _ (List.mem_cons_of_mem _ (ac17 _ (List.mem_of_getElem? (i := 17) rfl)))) (fun _ h => h) rfl (dk kX6_number_0_ok 11 rfl) ?_
        refine lv_bipush (v := nI 56) hx hb (dk kX6_number_0_ok 12 rfl) rfl ?_
        refine ald (j := 56) hx hb hK hP hk1 hR.2.1 rfl (by omega) (by decide) (dk kX6_number_0_ok 13 rfl) ?_
        refine lv_goto (tgt := 66) hx hb (dk kX6_number_0_ok 14 rfl) (by decide) ?_
        exact hret _ _ _ (by simp (config := { decide := true }) only [aNum, (eq_true h1), (eq_false (Nat.not_le.mpr h1)), (eq_true h9), h13, bI_1, bI_00, not_true_eq_false, not_false_eq_true, and_true, true_and, and_false, false_and, or_true, true_or, or_false, false_or, and_self, or_self, if_true, if_false, Bool.false_eq_true, reduceIte]; first | done | rfl | (simp_all; done)) (dk kX6_number_0_ok 33 rfl)
      · skip
        refine lv_iconst (v := -1) hx hb (dk kX6_number_0_ok 8 rfl) rfl ?_
        refine lv_goto (tgt := 66) hx hb (dk kX6_number_0_ok 9 rfl) (by decide) ?_
        exact hret _ _ _ (by simp (config := { decide := true }) only [aNum, (eq_true h1), (eq_false (Nat.not_le.mpr h1)), (eq_true h9), h13, bI_1, bI_00, not_true_eq_false, not_false_eq_true, and_true, true_and, and_false, false_and, or_true, true_or, or_false, false_or, and_self, or_self, if_true, if_false, Bool.false_eq_true, reduceIte]; first | done | rfl | (simp_all; done)) (dk kX6_number_0_ok 33 rfl)
set_option maxRecDepth 100000 in
set_option maxHeartbeats 4000000 in
theorem tX6_landing (l : Launch) (D : va_G) (cI cQ cL : ClassId) (ad : Nat → Nat) (N : Nat) (F : Nat → va_E) (k : Nat) (hk : k + 7 < N) (r ps sl sd ne fa bu : Nat → Int32) (hs : Bool) (st ln pt : Nat) (th : Int32) (hR : rfAt cI ad F k r ps sl sd ne fa bu hs st ln pt th) (x : Int32) (w : Nat) (hxw : x = nI w) (hw : w < 16) (y : Int32) (d : Nat) (hyd : y = nI d) (hd : d < 8) (z : Int32) (f : Nat) (hzf : z = nI f) (hf : f < 2 ^ 30) (hc9 : pot r w = false → cell9 (r w)) : MR l yX6_landing (Cond.code yX6_landing cX6_landing 4 (some .int) :: AW) ({ frames := 2, cells := 0, slots := 0, locals := 50 } : Room) D cI cQ cL ad N F [.ref (ad k), .int x, .int y, .int z] (.int (aLan r w d f)) := by
  refine mr_i (ty := .int) (by decide +kernel) rfl rfl rfl rfl (Nat.le_of_ble_eq_true rfl) (fun p e s m below meth cd Q ls hx hb hml hown hts hP hK hNW hret hl => ?_)
  have hown : s.vm.findClass RX6 = some m.cls := hown
  subst hxw
  subst hyd
  subst hzf
  have hst : stp w f < 2 ^ 31 := by unfold stp; split <;> omega
  have hk0 : k < N := by omega
  have hk1 : k + 1 < N := by omega
  have hk2 : k + 2 < N := by omega
  have hk3 : k + 3 < N := by omega
  have hk4 : k + 4 < N := by omega
  have hk5 : k + 5 < N := by omega
  have hk6 : k + 6 < N := by omega
  have hk7 : k + 7 < N := by omega
  have hl : lv_has ls 4 [(0, .ref (ad k)), (1, .int (nI w)), (2, .int (nI d)), (3, .int (nI f))] := hl
  refine lv_aload_n hx hb (dk kX6_landing_ok 0 rfl) rfl (lv_at hl 0 rfl) ?_
  refine lv_iload_n hx hb (dk kX6_landing_ok 1 rfl) rfl (lv_at hl 1 rfl) ?_
  refine cvR (As := [.int (nI w)]) (rest := []) ⟨hx, hb, hml, hown, hts⟩ (tX6_isPotted l D cI cQ cL ad N F k hk r ps sl sd ne fa bu hs st ln pt th hR (nI w) w rfl (by omega)) (cwV9 1 hts mcX6_isPotted (ac18 _ (List.mem_of_getElem? (i := 6) rfl)) miX6_isPotted meX6_isPotted mini_RX6 rfl rfl hdX6_isPotted ⟨Nat.le_of_ble_eq_true rfl, Nat.le_of_ble_eq_true rfl⟩) hK hP hNW hk0 hR.1 rfl rfl hl.1 rfl (Nat.le_of_ble_eq_true rfl) (by decide) (dk kX6_landing_ok 2 rfl) ?_
  refine b_if_eq (tgt := 13) hx hb (dk kX6_landing_ok 3 rfl) (by decide) (fun h1 => ?_) (fun h1 => ?_)
  · skip
    refine lv_aload_n hx hb (dk kX6_landing_ok 6 rfl) rfl (lv_at hl 0 rfl) ?_
    refine gf hx hb hts (fun w h => List.mem_cons_of_mem _ (acX6 w h)) hown hK hP hk0 hR.1 rfl 0 (by decide) (hts _ (List.mem_cons_of_mem _ (ac17 _ (List.mem_of_getElem? (i := 17) rfl)))) (fun _ h => h) rfl (dk kX6_landing_ok 7 rfl) ?_
    refine lv_iconst (v := nI 0) hx hb (dk kX6_landing_ok 8 rfl) rfl ?_
    refine lv_iload_n hx hb (dk kX6_landing_ok 9 rfl) rfl (lv_at hl 1 rfl) ?_
    refine n_iadd0 hx hb (dk kX6_landing_ok 10 rfl) ?_
    refine ald (j := w) hx hb hK hP hk1 hR.2.1 rfl (by omega) (by decide) (dk kX6_landing_ok 11 rfl) ?_
    refine lv_iload_n hx hb (dk kX6_landing_ok 12 rfl) rfl (lv_at hl 2 rfl) ?_
    refine lv_iload_n hx hb (dk kX6_landing_ok 13 rfl) rfl (lv_at hl 1 rfl) ?_
    refine lv_iload_n hx hb (dk kX6_landing_ok 14 rfl) rfl (lv_at hl 3 rfl) ?_
    refine csP (As := [.int (nI w), .int (nI f)]) (rest := [.int (nI d), .int (r w)]) ⟨hx, hb, hml, hown, hts⟩ (tX6_steps l (nI w) w rfl (by omega) (nI f) f rfl (by omega)) (cwS9 2 hts mcX6_steps (ac19 _ (List.mem_of_getElem? (i := 15) rfl)) msX6_steps mini_RX6 rfl rfl hdX6_steps ⟨Nat.le_of_ble_eq_true rfl, Nat.le_of_ble_eq_true rfl⟩) rfl hl.1 rfl (Nat.le_of_ble_eq_true rfl) (by decide) (dk kX6_landing_ok 15 rfl) ?_
    refine csP (As := [.int (r w), .int (nI d), .int (nI (stp w f))]) (rest := []) ⟨hx, hb, hml, hown, hts⟩ (tX6_leads l (r w) (hc9 h1) (nI d) d rfl (by omega) (nI (stp w f)) (stp w f) rfl (by omega)) (cwS9 3 hts mcX6_leads (ac19 _ (List.mem_of_getElem? (i := 18) rfl)) msX6_leads mini_RX6 rfl rfl hdX6_leads ⟨Nat.le_of_ble_eq_true rfl, Nat.le_of_ble_eq_true rfl⟩) rfl hl.1 rfl (Nat.le_of_ble_eq_true rfl) (by decide) (dk kX6_landing_ok 16 rfl) ?_
    refine csP (As := [.int (ldg (r w) (nI d) (stp w f))]) (rest := []) ⟨hx, hb, hml, hown, hts⟩ (tX6_told l (ldg (r w) (nI d) (stp w f))) (cwS9 1 hts mcX6_told (ac20 _ (List.mem_of_getElem? (i := 5) rfl)) msX6_told mini_RX6 rfl rfl hdX6_told ⟨Nat.le_of_ble_eq_true rfl, Nat.le_of_ble_eq_true rfl⟩) rfl hl.1 rfl (Nat.le_of_ble_eq_true rfl) (by decide) (dk kX6_landing_ok 17 rfl) ?_
    exact hret _ _ _ (by simp (config := { decide := true }) only [aLan, h1, bI_1, bI_00, not_true_eq_false, not_false_eq_true, and_true, true_and, and_false, false_and, or_true, true_or, or_false, false_or, and_self, or_self, if_true, if_false, Bool.false_eq_true, reduceIte]; first | done | rfl | (simp_all; done)) (dk kX6_landing_ok 18 rfl)
  · skip
    refine lv_bipush (v := -2) hx hb (dk kX6_landing_ok 4 rfl) rfl ?_
    refine lv_goto (tgt := 33) hx hb (dk kX6_landing_ok 5 rfl) (by decide) ?_
    exact hret _ _ _ (by simp (config := { decide := true }) only [aLan, h1, bI_1, bI_00, not_true_eq_false, not_false_eq_true, and_true, true_and, and_false, false_and, or_true, true_or, or_false, false_or, and_self, or_self, if_true, if_false, Bool.false_eq_true, reduceIte]; first | done | rfl | (simp_all; done)) (dk kX6_landing_ok 18 rfl)
set_option maxRecDepth 100000 in
set_option maxHeartbeats 4000000 in
theorem tX6_wink (l : Launch) (D : va_G) (cI cQ cL : ClassId) (ad : Nat → Nat) (N : Nat) (F : Nat → va_E) (k : Nat) (hk : k + 7 < N) (r ps sl sd ne fa bu : Nat → Int32) (hs : Bool) (st ln pt : Nat) (th : Int32) (hR : rfAt cI ad F k r ps sl sd ne fa bu hs st ln pt th) (x y : Int32) : MX l yX6_wink (Cond.code yX6_wink cX6_wink 3 (some .int) :: AW) ({ frames := 5, cells := 0, slots := 0, locals := 107 } : Room) D cI cQ cL ad N F [.ref (ad k), .int x, .int y] (dp (some (.int (pW r x y))) (rfSet cI ad F k r ps sl sd ne fa bu hs st ln pt (tW x y 15 6))) 0 0 := by
  refine mx_i (ty := .int) (by decide +kernel) rfl (Nat.le_of_ble_eq_true rfl) (fun p e s m below meth cd Q ls hx hb hml hown hts hDi hP hK hNW hS hret hl => ?_)
  have hown : s.vm.findClass RX6 = some m.cls := hown
  have hk0 : k < N := by omega
  have hk1 : k + 1 < N := by omega
  have hk2 : k + 2 < N := by omega
  have hk3 : k + 3 < N := by omega
  have hk4 : k + 4 < N := by omega
  have hk5 : k + 5 < N := by omega
  have hk6 : k + 6 < N := by omega
  have hk7 : k + 7 < N := by omega
  have hP : va_P D vwCl (iW ad N (rfSet cI ad F k r ps sl sd ne fa bu hs st ln pt th)) s.heap := by rw [rfSet_self hR]; exact hP
  have hl : lv_has ls 3 [(0, .ref (ad k)), (1, .int x), (2, .int y)] := hl
  refine lv_aload_n hx hb (dk kX6_wink_ok 0 rfl) rfl (lv_at hl 0 rfl) ?_
  refine lv_iconst (v := nI 0) hx hb (dk kX6_wink_ok 1 rfl) rfl ?_
  refine pf (rfSet cI ad F k r ps sl sd ne fa bu hs st ln pt (nI 0)) hx hb hts (fun w h => List.mem_cons_of_mem _ (acX6 w h)) tyX6 tyX6_ok nmX6 hown hK hDi hP hS hk0 rfSet_at.1 rfl 11 (by decide) (hts _ (List.mem_cons_of_mem _ (ac18 _ (List.mem_of_getElem? (i := 4) rfl)))) (fun _ h => h) rfl (ty := .int) rfl rfl rfl (Nat.le_of_ble_eq_true rfl) (dk kX6_wink_ok 2 rfl) rfSet_u0 (fun H locs hP hS => ?_)
  refine lv_iload_n hx hb (dk kX6_wink_ok 3 rfl) rfl (lv_at hl 1 rfl) ?_
  refine lv_iconst (v := nI 0) hx hb (dk kX6_wink_ok 4 rfl) rfl ?_
  refine lv_bipush (v := nI 15) hx hb (dk kX6_wink_ok 5 rfl) rfl ?_
  refine csP (As := [.int x, .int (nI 0), .int (nI 15)]) (rest := []) ⟨hx, hb, hml, hown, hts⟩ (tX6_in l x (nI 0) (nI 15)) (cwS9 3 hts mcX6_in (ac19 _ (List.mem_of_getElem? (i := 12) rfl)) msX6_in mini_RX6 rfl rfl hdX6_in ⟨Nat.le_of_ble_eq_true rfl, Nat.le_of_ble_eq_true rfl⟩) rfl hl.1 rfl (Nat.le_of_ble_eq_true rfl) (by decide) (dk kX6_wink_ok 6 rfl) ?_
  refine b_if_ne (tgt := 21) hx hb (dk kX6_wink_ok 7 rfl) (by decide) (fun h1 => ?_) (fun h1 => ?_)
  · skip
    refine lv_iload_n hx hb (dk kX6_wink_ok 12 rfl) rfl (lv_at hl 2 rfl) ?_
    refine lv_iconst (v := nI 0) hx hb (dk kX6_wink_ok 13 rfl) rfl ?_
    refine lv_bipush (v := nI 6) hx hb (dk kX6_wink_ok 14 rfl) rfl ?_
    refine csP (As := [.int y, .int (nI 0), .int (nI 6)]) (rest := []) ⟨hx, hb, hml, hown, hts⟩ (tX6_in l y (nI 0) (nI 6)) (cwS9 3 hts mcX6_in (ac19 _ (List.mem_of_getElem? (i := 12) rfl)) msX6_in mini_RX6 rfl rfl hdX6_in ⟨Nat.le_of_ble_eq_true rfl, Nat.le_of_ble_eq_true rfl⟩) rfl hl.1 rfl (Nat.le_of_ble_eq_true rfl) (by decide) (dk kX6_wink_ok 15 rfl) ?_
    refine b_if_eq (tgt := 40) hx hb (dk kX6_wink_ok 16 rfl) (by decide) (fun h2 => ?_) (fun h2 => ?_)
    · skip
      refine lv_aload_n hx hb (dk kX6_wink_ok 22 rfl) rfl (lv_at hl 0 rfl) ?_
      refine lv_iconst (v := nI 2) hx hb (dk kX6_wink_ok 23 rfl) rfl ?_
      refine cvD (As := [.int (nI 2)]) (rest := []) (rfSet cI ad F k r ps sl sd ne fa bu hs st ln pt (nI 2)) ⟨hx, hb, hml, hown, hts⟩ (tX6_fails l D cI cQ cL ad N (rfSet cI ad F k r ps sl sd ne fa bu hs st ln pt (nI 0)) k hk r ps sl sd ne fa bu hs st ln pt (nI 0) (rfSet_at) (nI 2)) (cwV9 1 hts mcX6_fails (ac20 _ (List.mem_of_getElem? (i := 15) rfl)) miX6_fails meX6_fails mini_RX6 rfl rfl hdX6_fails ⟨Nat.le_of_ble_eq_true rfl, Nat.le_of_ble_eq_true rfl⟩) hDi hK hP hNW hS hk0 rfSet_at.1 rfl rfl hl.1 rfl (Nat.le_of_ble_eq_true rfl) (by decide) (dk kX6_wink_ok 24 rfl) rfSet_rfSet (fun H locs hP hS => ?_)
      exact hret _ _ _ _ _ _ _ _ rfl (by simp (config := { decide := true }) only [dp, tW, pW, h1, h2, bI_1, bI_00, not_true_eq_false, not_false_eq_true, and_true, true_and, and_false, false_and, or_true, true_or, or_false, false_or, and_self, or_self, if_true, if_false, Bool.false_eq_true, reduceIte]; first | done | exact ⟨rfl, rfl⟩ | (simp_all; done)) hP hS (by decide) (by decide) (dk kX6_wink_ok 25 rfl)
    · skip
      refine lv_aload_n hx hb (dk kX6_wink_ok 17 rfl) rfl (lv_at hl 0 rfl) ?_
      refine lv_iload_n hx hb (dk kX6_wink_ok 18 rfl) rfl (lv_at hl 1 rfl) ?_
      refine lv_iload_n hx hb (dk kX6_wink_ok 19 rfl) rfl (lv_at hl 2 rfl) ?_
      refine cvR (As := [.int x, .int y]) (rest := []) ⟨hx, hb, hml, hown, hts⟩ (tX6_ofWink l D cI cQ cL ad N (rfSet cI ad F k r ps sl sd ne fa bu hs st ln pt (nI 0)) k hk r ps sl sd ne fa bu hs st ln pt (nI 0) (rfSet_at) x (ix x) (btw_eq h1) (by have := btw_le h1; omega) y (ix y) (btw_eq h2) (by have := btw_le h2; omega)) (cwV9 2 hts mcX6_ofWink (ac22 _ (List.mem_of_getElem? (i := 14) rfl)) miX6_ofWink meX6_ofWink mini_RX6 rfl rfl hdX6_ofWink ⟨Nat.le_of_ble_eq_true rfl, Nat.le_of_ble_eq_true rfl⟩) hK hP hNW hk0 rfSet_at.1 rfl rfl hl.1 rfl (Nat.le_of_ble_eq_true rfl) (by decide) (dk kX6_wink_ok 20 rfl) ?_
      refine lv_goto (tgt := 45) hx hb (dk kX6_wink_ok 21 rfl) (by decide) ?_
      exact hret _ _ _ _ _ _ _ _ rfl (by simp (config := { decide := true }) only [dp, tW, pW, h1, h2, bI_1, bI_00, not_true_eq_false, not_false_eq_true, and_true, true_and, and_false, false_and, or_true, true_or, or_false, false_or, and_self, or_self, if_true, if_false, Bool.false_eq_true, reduceIte]; first | done | exact ⟨rfl, rfl⟩ | (simp_all; done)) hP hS (by decide) (by decide) (dk kX6_wink_ok 25 rfl)
  · skip
    refine lv_aload_n hx hb (dk kX6_wink_ok 8 rfl) rfl (lv_at hl 0 rfl) ?_
    refine lv_iconst (v := nI 1) hx hb (dk kX6_wink_ok 9 rfl) rfl ?_
    refine cvD (As := [.int (nI 1)]) (rest := []) (rfSet cI ad F k r ps sl sd ne fa bu hs st ln pt (nI 1)) ⟨hx, hb, hml, hown, hts⟩ (tX6_fails l D cI cQ cL ad N (rfSet cI ad F k r ps sl sd ne fa bu hs st ln pt (nI 0)) k hk r ps sl sd ne fa bu hs st ln pt (nI 0) (rfSet_at) (nI 1)) (cwV9 1 hts mcX6_fails (ac20 _ (List.mem_of_getElem? (i := 15) rfl)) miX6_fails meX6_fails mini_RX6 rfl rfl hdX6_fails ⟨Nat.le_of_ble_eq_true rfl, Nat.le_of_ble_eq_true rfl⟩) hDi hK hP hNW hS hk0 rfSet_at.1 rfl rfl hl.1 rfl (Nat.le_of_ble_eq_true rfl) (by decide) (dk kX6_wink_ok 10 rfl) rfSet_rfSet (fun H locs hP hS => ?_)
    exact hret _ _ _ _ _ _ _ _ rfl (by simp (config := { decide := true }) only [dp, tW, pW, h1, bI_1, bI_00, not_true_eq_false, not_false_eq_true, and_true, true_and, and_false, false_and, or_true, true_or, or_false, false_or, and_self, or_self, if_true, if_false, Bool.false_eq_true, reduceIte]; first | done | exact ⟨rfl, rfl⟩ | (simp_all; done)) hP hS (by decide) (by decide) (dk kX6_wink_ok 11 rfl)
set_option maxRecDepth 100000 in
set_option maxHeartbeats 4000000 in
theorem tX6_colour (l : Launch) (D : va_G) (cI cQ cL : ClassId) (ad : Nat → Nat) (N : Nat) (F : Nat → va_E) (k : Nat) (hk : k + 7 < N) (r ps sl sd ne fa bu : Nat → Int32) (hs : Bool) (st ln pt : Nat) (th : Int32) (hR : rfAt cI ad F k r ps sl sd ne fa bu hs st ln pt th) (x y : Int32) : MX l yX6_colour (Cond.code yX6_colour cX6_colour 3 (some .int) :: AW) ({ frames := 4, cells := 0, slots := 0, locals := 89 } : Room) D cI cQ cL ad N F [.ref (ad k), .int x, .int y] (dp (some (.int (pC r x y))) (rfSet cI ad F k r ps sl sd ne fa bu hs st ln pt (tW x y 3 6))) 0 0 := by
  refine mx_i (ty := .int) (by decide +kernel) rfl (Nat.le_of_ble_eq_true rfl) (fun p e s m below meth cd Q ls hx hb hml hown hts hDi hP hK hNW hS hret hl => ?_)
  have hown : s.vm.findClass RX6 = some m.cls := hown
  have hk0 : k < N := by omega
  have hk1 : k + 1 < N := by omega
  have hk2 : k + 2 < N := by omega
  have hk3 : k + 3 < N := by omega
  have hk4 : k + 4 < N := by omega
  have hk5 : k + 5 < N := by omega
  have hk6 : k + 6 < N := by omega
  have hk7 : k + 7 < N := by omega
  have hP : va_P D vwCl (iW ad N (rfSet cI ad F k r ps sl sd ne fa bu hs st ln pt th)) s.heap := by rw [rfSet_self hR]; exact hP
  have hl : lv_has ls 3 [(0, .ref (ad k)), (1, .int x), (2, .int y)] := hl
  refine lv_aload_n hx hb (dk kX6_colour_ok 0 rfl) rfl (lv_at hl 0 rfl) ?_
  refine lv_iconst (v := nI 0) hx hb (dk kX6_colour_ok 1 rfl) rfl ?_
  refine pf (rfSet cI ad F k r ps sl sd ne fa bu hs st ln pt (nI 0)) hx hb hts (fun w h => List.mem_cons_of_mem _ (acX6 w h)) tyX6 tyX6_ok nmX6 hown hK hDi hP hS hk0 rfSet_at.1 rfl 11 (by decide) (hts _ (List.mem_cons_of_mem _ (ac18 _ (List.mem_of_getElem? (i := 4) rfl)))) (fun _ h => h) rfl (ty := .int) rfl rfl rfl (Nat.le_of_ble_eq_true rfl) (dk kX6_colour_ok 2 rfl) rfSet_u0 (fun H locs hP hS => ?_)
  refine lv_iload_n hx hb (dk kX6_colour_ok 3 rfl) rfl (lv_at hl 1 rfl) ?_
  refine lv_iconst (v := nI 0) hx hb (dk kX6_colour_ok 4 rfl) rfl ?_
  refine lv_iconst (v := nI 3) hx hb (dk kX6_colour_ok 5 rfl) rfl ?_
  refine csP (As := [.int x, .int (nI 0), .int (nI 3)]) (rest := []) ⟨hx, hb, hml, hown, hts⟩ (tX6_in l x (nI 0) (nI 3)) (cwS9 3 hts mcX6_in (ac19 _ (List.mem_of_getElem? (i := 12) rfl)) msX6_in mini_RX6 rfl rfl hdX6_in ⟨Nat.le_of_ble_eq_true rfl, Nat.le_of_ble_eq_true rfl⟩) rfl hl.1 rfl (Nat.le_of_ble_eq_true rfl) (by decide) (dk kX6_colour_ok 6 rfl) ?_
  refine b_if_ne (tgt := 20) hx hb (dk kX6_colour_ok 7 rfl) (by decide) (fun h1 => ?_) (fun h1 => ?_)
  · skip
    refine lv_iload_n hx hb (dk kX6_colour_ok 12 rfl) rfl (lv_at hl 2 rfl) ?_
    refine lv_iconst (v := nI 0) hx hb (dk kX6_colour_ok 13 rfl) rfl ?_
    refine lv_bipush (v := nI 6) hx hb (dk kX6_colour_ok 14 rfl) rfl ?_
    refine csP (As := [.int y, .int (nI 0), .int (nI 6)]) (rest := []) ⟨hx, hb, hml, hown, hts⟩ (tX6_in l y (nI 0) (nI 6)) (cwS9 3 hts mcX6_in (ac19 _ (List.mem_of_getElem? (i := 12) rfl)) msX6_in mini_RX6 rfl rfl hdX6_in ⟨Nat.le_of_ble_eq_true rfl, Nat.le_of_ble_eq_true rfl⟩) rfl hl.1 rfl (Nat.le_of_ble_eq_true rfl) (by decide) (dk kX6_colour_ok 15 rfl) ?_
    refine b_if_eq (tgt := 39) hx hb (dk kX6_colour_ok 16 rfl) (by decide) (fun h2 => ?_) (fun h2 => ?_)
    · skip
      refine lv_aload_n hx hb (dk kX6_colour_ok 22 rfl) rfl (lv_at hl 0 rfl) ?_
      refine lv_iconst (v := nI 2) hx hb (dk kX6_colour_ok 23 rfl) rfl ?_
      refine cvD (As := [.int (nI 2)]) (rest := []) (rfSet cI ad F k r ps sl sd ne fa bu hs st ln pt (nI 2)) ⟨hx, hb, hml, hown, hts⟩ (tX6_fails l D cI cQ cL ad N (rfSet cI ad F k r ps sl sd ne fa bu hs st ln pt (nI 0)) k hk r ps sl sd ne fa bu hs st ln pt (nI 0) (rfSet_at) (nI 2)) (cwV9 1 hts mcX6_fails (ac20 _ (List.mem_of_getElem? (i := 15) rfl)) miX6_fails meX6_fails mini_RX6 rfl rfl hdX6_fails ⟨Nat.le_of_ble_eq_true rfl, Nat.le_of_ble_eq_true rfl⟩) hDi hK hP hNW hS hk0 rfSet_at.1 rfl rfl hl.1 rfl (Nat.le_of_ble_eq_true rfl) (by decide) (dk kX6_colour_ok 24 rfl) rfSet_rfSet (fun H locs hP hS => ?_)
      exact hret _ _ _ _ _ _ _ _ rfl (by simp (config := { decide := true }) only [dp, tW, pC, h1, h2, bI_1, bI_00, not_true_eq_false, not_false_eq_true, and_true, true_and, and_false, false_and, or_true, true_or, or_false, false_or, and_self, or_self, if_true, if_false, Bool.false_eq_true, reduceIte]; first | done | exact ⟨rfl, rfl⟩ | (simp_all; done)) hP hS (by decide) (by decide) (dk kX6_colour_ok 25 rfl)
    · skip
      refine lv_aload_n hx hb (dk kX6_colour_ok 17 rfl) rfl (lv_at hl 0 rfl) ?_
      refine lv_iload_n hx hb (dk kX6_colour_ok 18 rfl) rfl (lv_at hl 1 rfl) ?_
      refine lv_iload_n hx hb (dk kX6_colour_ok 19 rfl) rfl (lv_at hl 2 rfl) ?_
      refine cvR (As := [.int x, .int y]) (rest := []) ⟨hx, hb, hml, hown, hts⟩ (tX6_ofColour l D cI cQ cL ad N (rfSet cI ad F k r ps sl sd ne fa bu hs st ln pt (nI 0)) k hk r ps sl sd ne fa bu hs st ln pt (nI 0) (rfSet_at) x (ix x) (btw_eq h1) (by have := btw_le h1; omega) y (ix y) (btw_eq h2) (by have := btw_le h2; omega)) (cwV9 2 hts mcX6_ofColour (ac23 _ (List.mem_of_getElem? (i := 10) rfl)) miX6_ofColour meX6_ofColour mini_RX6 rfl rfl hdX6_ofColour ⟨Nat.le_of_ble_eq_true rfl, Nat.le_of_ble_eq_true rfl⟩) hK hP hNW hk0 rfSet_at.1 rfl rfl hl.1 rfl (Nat.le_of_ble_eq_true rfl) (by decide) (dk kX6_colour_ok 20 rfl) ?_
      refine lv_goto (tgt := 44) hx hb (dk kX6_colour_ok 21 rfl) (by decide) ?_
      exact hret _ _ _ _ _ _ _ _ rfl (by simp (config := { decide := true }) only [dp, tW, pC, h1, h2, bI_1, bI_00, not_true_eq_false, not_false_eq_true, and_true, true_and, and_false, false_and, or_true, true_or, or_false, false_or, and_self, or_self, if_true, if_false, Bool.false_eq_true, reduceIte]; first | done | exact ⟨rfl, rfl⟩ | (simp_all; done)) hP hS (by decide) (by decide) (dk kX6_colour_ok 25 rfl)
  · skip
    refine lv_aload_n hx hb (dk kX6_colour_ok 8 rfl) rfl (lv_at hl 0 rfl) ?_
    refine lv_iconst (v := nI 1) hx hb (dk kX6_colour_ok 9 rfl) rfl ?_
    refine cvD (As := [.int (nI 1)]) (rest := []) (rfSet cI ad F k r ps sl sd ne fa bu hs st ln pt (nI 1)) ⟨hx, hb, hml, hown, hts⟩ (tX6_fails l D cI cQ cL ad N (rfSet cI ad F k r ps sl sd ne fa bu hs st ln pt (nI 0)) k hk r ps sl sd ne fa bu hs st ln pt (nI 0) (rfSet_at) (nI 1)) (cwV9 1 hts mcX6_fails (ac20 _ (List.mem_of_getElem? (i := 15) rfl)) miX6_fails meX6_fails mini_RX6 rfl rfl hdX6_fails ⟨Nat.le_of_ble_eq_true rfl, Nat.le_of_ble_eq_true rfl⟩) hDi hK hP hNW hS hk0 rfSet_at.1 rfl rfl hl.1 rfl (Nat.le_of_ble_eq_true rfl) (by decide) (dk kX6_colour_ok 10 rfl) rfSet_rfSet (fun H locs hP hS => ?_)
    exact hret _ _ _ _ _ _ _ _ rfl (by simp (config := { decide := true }) only [dp, tW, pC, h1, bI_1, bI_00, not_true_eq_false, not_false_eq_true, and_true, true_and, and_false, false_and, or_true, true_or, or_false, false_or, and_self, or_self, if_true, if_false, Bool.false_eq_true, reduceIte]; first | done | exact ⟨rfl, rfl⟩ | (simp_all; done)) hP hS (by decide) (by decide) (dk kX6_colour_ok 11 rfl)
set_option maxRecDepth 100000 in
set_option maxHeartbeats 4000000 in
theorem tX6_pile (l : Launch) (D : va_G) (cI cQ cL : ClassId) (ad : Nat → Nat) (N : Nat) (F : Nat → va_E) (k : Nat) (hk : k + 7 < N) (r ps sl sd ne fa bu : Nat → Int32) (hs : Bool) (st ln pt : Nat) (th : Int32) (hR : rfAt cI ad F k r ps sl sd ne fa bu hs st ln pt th) (x y z : Int32) : MX l yX6_pile (Cond.code yX6_pile cX6_pile 4 (some .int) :: AW) ({ frames := 2, cells := 0, slots := 0, locals := 46 } : Room) D cI cQ cL ad N F [.ref (ad k), .int x, .int y, .int z] (dp (some (.int (pP r x y z))) (rfSet cI ad F k r ps sl sd ne fa bu hs st ln pt (tP x y z))) 0 0 := by
  refine mx_i (ty := .int) (by decide +kernel) rfl (Nat.le_of_ble_eq_true rfl) (fun p e s m below meth cd Q ls hx hb hml hown hts hDi hP hK hNW hS hret hl => ?_)
  have hown : s.vm.findClass RX6 = some m.cls := hown
  have hk0 : k < N := by omega
  have hk1 : k + 1 < N := by omega
  have hk2 : k + 2 < N := by omega
  have hk3 : k + 3 < N := by omega
  have hk4 : k + 4 < N := by omega
  have hk5 : k + 5 < N := by omega
  have hk6 : k + 6 < N := by omega
  have hk7 : k + 7 < N := by omega
  have hP : va_P D vwCl (iW ad N (rfSet cI ad F k r ps sl sd ne fa bu hs st ln pt th)) s.heap := by rw [rfSet_self hR]; exact hP
  have hl : lv_has ls 4 [(0, .ref (ad k)), (1, .int x), (2, .int y), (3, .int z)] := hl
  refine lv_aload_n hx hb (dk kX6_pile_ok 0 rfl) rfl (lv_at hl 0 rfl) ?_
  refine lv_iconst (v := nI 0) hx hb (dk kX6_pile_ok 1 rfl) rfl ?_
  refine pf (rfSet cI ad F k r ps sl sd ne fa bu hs st ln pt (nI 0)) hx hb hts (fun w h => List.mem_cons_of_mem _ (acX6 w h)) tyX6 tyX6_ok nmX6 hown hK hDi hP hS hk0 rfSet_at.1 rfl 11 (by decide) (hts _ (List.mem_cons_of_mem _ (ac18 _ (List.mem_of_getElem? (i := 4) rfl)))) (fun _ h => h) rfl (ty := .int) rfl rfl rfl (Nat.le_of_ble_eq_true rfl) (dk kX6_pile_ok 2 rfl) rfSet_u0 (fun H locs hP hS => ?_)
  refine lv_iload_n hx hb (dk kX6_pile_ok 3 rfl) rfl (lv_at hl 1 rfl) ?_
  refine lv_iconst (v := nI 0) hx hb (dk kX6_pile_ok 4 rfl) rfl ?_
  refine lv_bipush (v := nI 12) hx hb (dk kX6_pile_ok 5 rfl) rfl ?_
  refine csP (As := [.int x, .int (nI 0), .int (nI 12)]) (rest := []) ⟨hx, hb, hml, hown, hts⟩ (tX6_in l x (nI 0) (nI 12)) (cwS9 3 hts mcX6_in (ac19 _ (List.mem_of_getElem? (i := 12) rfl)) msX6_in mini_RX6 rfl rfl hdX6_in ⟨Nat.le_of_ble_eq_true rfl, Nat.le_of_ble_eq_true rfl⟩) rfl hl.1 rfl (Nat.le_of_ble_eq_true rfl) (by decide) (dk kX6_pile_ok 6 rfl) ?_
  refine b_if_eq (tgt := 25) hx hb (dk kX6_pile_ok 7 rfl) (by decide) (fun h1 => ?_) (fun h1 => ?_)
  · skip
    refine lv_aload_n hx hb (dk kX6_pile_ok 13 rfl) rfl (lv_at hl 0 rfl) ?_
    refine lv_iconst (v := nI 1) hx hb (dk kX6_pile_ok 14 rfl) rfl ?_
    refine cvD (As := [.int (nI 1)]) (rest := []) (rfSet cI ad F k r ps sl sd ne fa bu hs st ln pt (nI 1)) ⟨hx, hb, hml, hown, hts⟩ (tX6_fails l D cI cQ cL ad N (rfSet cI ad F k r ps sl sd ne fa bu hs st ln pt (nI 0)) k hk r ps sl sd ne fa bu hs st ln pt (nI 0) (rfSet_at) (nI 1)) (cwV9 1 hts mcX6_fails (ac20 _ (List.mem_of_getElem? (i := 15) rfl)) miX6_fails meX6_fails mini_RX6 rfl rfl hdX6_fails ⟨Nat.le_of_ble_eq_true rfl, Nat.le_of_ble_eq_true rfl⟩) hDi hK hP hNW hS hk0 rfSet_at.1 rfl rfl hl.1 rfl (Nat.le_of_ble_eq_true rfl) (by decide) (dk kX6_pile_ok 15 rfl) rfSet_rfSet (fun H locs hP hS => ?_)
    exact hret _ _ _ _ _ _ _ _ rfl (by simp (config := { decide := true }) only [dp, tP, pP, h1, bI_1, bI_00, not_true_eq_false, not_false_eq_true, and_true, true_and, and_false, false_and, or_true, true_or, or_false, false_or, and_self, or_self, if_true, if_false, Bool.false_eq_true, reduceIte]; first | done | exact ⟨rfl, rfl⟩ | (simp_all; done)) hP hS (by decide) (by decide) (dk kX6_pile_ok 16 rfl)
  · skip
    refine lv_iload_n hx hb (dk kX6_pile_ok 8 rfl) rfl (lv_at hl 2 rfl) ?_
    refine lv_iconst (v := nI 0) hx hb (dk kX6_pile_ok 9 rfl) rfl ?_
    refine lv_bipush (v := nI 12) hx hb (dk kX6_pile_ok 10 rfl) rfl ?_
    refine csP (As := [.int y, .int (nI 0), .int (nI 12)]) (rest := []) ⟨hx, hb, hml, hown, hts⟩ (tX6_in l y (nI 0) (nI 12)) (cwS9 3 hts mcX6_in (ac19 _ (List.mem_of_getElem? (i := 12) rfl)) msX6_in mini_RX6 rfl rfl hdX6_in ⟨Nat.le_of_ble_eq_true rfl, Nat.le_of_ble_eq_true rfl⟩) rfl hl.1 rfl (Nat.le_of_ble_eq_true rfl) (by decide) (dk kX6_pile_ok 11 rfl) ?_
    refine b_if_ne (tgt := 31) hx hb (dk kX6_pile_ok 12 rfl) (by decide) (fun h2 => ?_) (fun h2 => ?_)
    · skip
      refine lv_iload_n hx hb (dk kX6_pile_ok 17 rfl) rfl (lv_at hl 3 rfl) ?_
      refine lv_iconst (v := nI 0) hx hb (dk kX6_pile_ok 18 rfl) rfl ?_
      refine lv_iconst (v := nI 3) hx hb (dk kX6_pile_ok 19 rfl) rfl ?_
      refine csP (As := [.int z, .int (nI 0), .int (nI 3)]) (rest := []) ⟨hx, hb, hml, hown, hts⟩ (tX6_in l z (nI 0) (nI 3)) (cwS9 3 hts mcX6_in (ac19 _ (List.mem_of_getElem? (i := 12) rfl)) msX6_in mini_RX6 rfl rfl hdX6_in ⟨Nat.le_of_ble_eq_true rfl, Nat.le_of_ble_eq_true rfl⟩) rfl hl.1 rfl (Nat.le_of_ble_eq_true rfl) (by decide) (dk kX6_pile_ok 20 rfl) ?_
      refine b_if_eq (tgt := 54) hx hb (dk kX6_pile_ok 21 rfl) (by decide) (fun h3 => ?_) (fun h3 => ?_)
      · skip
        refine lv_aload_n hx hb (dk kX6_pile_ok 31 rfl) rfl (lv_at hl 0 rfl) ?_
        refine lv_iconst (v := nI 2) hx hb (dk kX6_pile_ok 32 rfl) rfl ?_
        refine cvD (As := [.int (nI 2)]) (rest := []) (rfSet cI ad F k r ps sl sd ne fa bu hs st ln pt (nI 2)) ⟨hx, hb, hml, hown, hts⟩ (tX6_fails l D cI cQ cL ad N (rfSet cI ad F k r ps sl sd ne fa bu hs st ln pt (nI 0)) k hk r ps sl sd ne fa bu hs st ln pt (nI 0) (rfSet_at) (nI 2)) (cwV9 1 hts mcX6_fails (ac20 _ (List.mem_of_getElem? (i := 15) rfl)) miX6_fails meX6_fails mini_RX6 rfl rfl hdX6_fails ⟨Nat.le_of_ble_eq_true rfl, Nat.le_of_ble_eq_true rfl⟩) hDi hK hP hNW hS hk0 rfSet_at.1 rfl rfl hl.1 rfl (Nat.le_of_ble_eq_true rfl) (by decide) (dk kX6_pile_ok 33 rfl) rfSet_rfSet (fun H locs hP hS => ?_)
        exact hret _ _ _ _ _ _ _ _ rfl (by simp (config := { decide := true }) only [dp, tP, pP, h1, h2, h3, bI_1, bI_00, not_true_eq_false, not_false_eq_true, and_true, true_and, and_false, false_and, or_true, true_or, or_false, false_or, and_self, or_self, if_true, if_false, Bool.false_eq_true, reduceIte]; first | done | exact ⟨rfl, rfl⟩ | (simp_all; done)) hP hS (by decide) (by decide) (dk kX6_pile_ok 34 rfl)
      · skip
        refine lv_aload_n hx hb (dk kX6_pile_ok 22 rfl) rfl (lv_at hl 0 rfl) ?_
        refine lv_bipush (v := nI 13) hx hb (dk kX6_pile_ok 23 rfl) rfl ?_
        refine lv_iload_n hx hb (dk kX6_pile_ok 24 rfl) rfl (lv_at hl 2 rfl) ?_
        refine lv_imul hx hb (dk kX6_pile_ok 25 rfl) ?_
        refine lv_iload_n hx hb (dk kX6_pile_ok 26 rfl) rfl (lv_at hl 1 rfl) ?_
        refine lv_iadd hx hb (dk kX6_pile_ok 27 rfl) ?_
        refine lv_iload_n hx hb (dk kX6_pile_ok 28 rfl) rfl (lv_at hl 3 rfl) ?_
        refine cvR (As := [.int (((nI 13) * y) + x), .int z]) (rest := []) ⟨hx, hb, hml, hown, hts⟩ (tX6_ofPile l D cI cQ cL ad N (rfSet cI ad F k r ps sl sd ne fa bu hs st ln pt (nI 0)) k hk r ps sl sd ne fa bu hs st ln pt (nI 0) (rfSet_at) (((nI 13) * y) + x) z (ix z) (btw_eq h3) (by have := btw_le h3; omega)) (cwV9 2 hts mcX6_ofPile (ac22 _ (List.mem_of_getElem? (i := 22) rfl)) miX6_ofPile meX6_ofPile mini_RX6 rfl rfl hdX6_ofPile ⟨Nat.le_of_ble_eq_true rfl, Nat.le_of_ble_eq_true rfl⟩) hK hP hNW hk0 rfSet_at.1 rfl rfl hl.1 rfl (Nat.le_of_ble_eq_true rfl) (by decide) (dk kX6_pile_ok 29 rfl) ?_
        refine lv_goto (tgt := 59) hx hb (dk kX6_pile_ok 30 rfl) (by decide) ?_
        exact hret _ _ _ _ _ _ _ _ rfl (by simp (config := { decide := true }) only [dp, tP, pP, h1, h2, h3, bI_1, bI_00, not_true_eq_false, not_false_eq_true, and_true, true_and, and_false, false_and, or_true, true_or, or_false, false_or, and_self, or_self, if_true, if_false, Bool.false_eq_true, reduceIte]; first | done | exact ⟨rfl, rfl⟩ | (simp_all; done)) hP hS (by decide) (by decide) (dk kX6_pile_ok 34 rfl)
    · skip
      refine lv_aload_n hx hb (dk kX6_pile_ok 13 rfl) rfl (lv_at hl 0 rfl) ?_
      refine lv_iconst (v := nI 1) hx hb (dk kX6_pile_ok 14 rfl) rfl ?_
      refine cvD (As := [.int (nI 1)]) (rest := []) (rfSet cI ad F k r ps sl sd ne fa bu hs st ln pt (nI 1)) ⟨hx, hb, hml, hown, hts⟩ (tX6_fails l D cI cQ cL ad N (rfSet cI ad F k r ps sl sd ne fa bu hs st ln pt (nI 0)) k hk r ps sl sd ne fa bu hs st ln pt (nI 0) (rfSet_at) (nI 1)) (cwV9 1 hts mcX6_fails (ac20 _ (List.mem_of_getElem? (i := 15) rfl)) miX6_fails meX6_fails mini_RX6 rfl rfl hdX6_fails ⟨Nat.le_of_ble_eq_true rfl, Nat.le_of_ble_eq_true rfl⟩) hDi hK hP hNW hS hk0 rfSet_at.1 rfl rfl hl.1 rfl (Nat.le_of_ble_eq_true rfl) (by decide) (dk kX6_pile_ok 15 rfl) rfSet_rfSet (fun H locs hP hS => ?_)
      exact hret _ _ _ _ _ _ _ _ rfl (by simp (config := { decide := true }) only [dp, tP, pP, h1, h2, bI_1, bI_00, not_true_eq_false, not_false_eq_true, and_true, true_and, and_false, false_and, or_true, true_or, or_false, false_or, and_self, or_self, if_true, if_false, Bool.false_eq_true, reduceIte]; first | done | exact ⟨rfl, rfl⟩ | (simp_all; done)) hP hS (by decide) (by decide) (dk kX6_pile_ok 16 rfl)
set_option maxRecDepth 100000 in
set_option maxHeartbeats 4000000 in
theorem tX6_count (l : Launch) (D : va_G) (cI cQ cL : ClassId) (ad : Nat → Nat) (N : Nat) (F : Nat → va_E) (k : Nat) (hk : k + 7 < N) (r ps sl sd ne fa bu : Nat → Int32) (hs : Bool) (st ln pt : Nat) (th : Int32) (hR : rfAt cI ad F k r ps sl sd ne fa bu hs st ln pt th) (x : Int32) : MX l yX6_count (Cond.code yX6_count cX6_count 2 (some .int) :: AW) ({ frames := 5, cells := 0, slots := 0, locals := 109 } : Room) D cI cQ cL ad N F [.ref (ad k), .int x] (dp (some (.int (pN r st x))) (rfSet cI ad F k r ps sl sd ne fa bu hs st ln pt (tN x))) 0 0 := by
  refine mx_i (ty := .int) (by decide +kernel) rfl (Nat.le_of_ble_eq_true rfl) (fun p e s m below meth cd Q ls hx hb hml hown hts hDi hP hK hNW hS hret hl => ?_)
  have hown : s.vm.findClass RX6 = some m.cls := hown
  have hk0 : k < N := by omega
  have hk1 : k + 1 < N := by omega
  have hk2 : k + 2 < N := by omega
  have hk3 : k + 3 < N := by omega
  have hk4 : k + 4 < N := by omega
  have hk5 : k + 5 < N := by omega
  have hk6 : k + 6 < N := by omega
  have hk7 : k + 7 < N := by omega
  have hP : va_P D vwCl (iW ad N (rfSet cI ad F k r ps sl sd ne fa bu hs st ln pt th)) s.heap := by rw [rfSet_self hR]; exact hP
  have hl : lv_has ls 2 [(0, .ref (ad k)), (1, .int x)] := hl
  refine lv_aload_n hx hb (dk kX6_count_ok 0 rfl) rfl (lv_at hl 0 rfl) ?_
  refine lv_iconst (v := nI 0) hx hb (dk kX6_count_ok 1 rfl) rfl ?_
  refine pf (rfSet cI ad F k r ps sl sd ne fa bu hs st ln pt (nI 0)) hx hb hts (fun w h => List.mem_cons_of_mem _ (acX6 w h)) tyX6 tyX6_ok nmX6 hown hK hDi hP hS hk0 rfSet_at.1 rfl 11 (by decide) (hts _ (List.mem_cons_of_mem _ (ac18 _ (List.mem_of_getElem? (i := 4) rfl)))) (fun _ h => h) rfl (ty := .int) rfl rfl rfl (Nat.le_of_ble_eq_true rfl) (dk kX6_count_ok 2 rfl) rfSet_u0 (fun H locs hP hS => ?_)
  refine lv_iload_n hx hb (dk kX6_count_ok 3 rfl) rfl (lv_at hl 1 rfl) ?_
  refine lv_iconst (v := nI 0) hx hb (dk kX6_count_ok 4 rfl) rfl ?_
  refine lv_bipush (v := nI 13) hx hb (dk kX6_count_ok 5 rfl) rfl ?_
  refine csP (As := [.int x, .int (nI 0), .int (nI 13)]) (rest := []) ⟨hx, hb, hml, hown, hts⟩ (tX6_in l x (nI 0) (nI 13)) (cwS9 3 hts mcX6_in (ac19 _ (List.mem_of_getElem? (i := 12) rfl)) msX6_in mini_RX6 rfl rfl hdX6_in ⟨Nat.le_of_ble_eq_true rfl, Nat.le_of_ble_eq_true rfl⟩) rfl hl.1 rfl (Nat.le_of_ble_eq_true rfl) (by decide) (dk kX6_count_ok 6 rfl) ?_
  refine b_if_eq (tgt := 23) hx hb (dk kX6_count_ok 7 rfl) (by decide) (fun h1 => ?_) (fun h1 => ?_)
  · skip
    refine lv_aload_n hx hb (dk kX6_count_ok 12 rfl) rfl (lv_at hl 0 rfl) ?_
    refine lv_iconst (v := nI 1) hx hb (dk kX6_count_ok 13 rfl) rfl ?_
    refine cvD (As := [.int (nI 1)]) (rest := []) (rfSet cI ad F k r ps sl sd ne fa bu hs st ln pt (nI 1)) ⟨hx, hb, hml, hown, hts⟩ (tX6_fails l D cI cQ cL ad N (rfSet cI ad F k r ps sl sd ne fa bu hs st ln pt (nI 0)) k hk r ps sl sd ne fa bu hs st ln pt (nI 0) (rfSet_at) (nI 1)) (cwV9 1 hts mcX6_fails (ac20 _ (List.mem_of_getElem? (i := 15) rfl)) miX6_fails meX6_fails mini_RX6 rfl rfl hdX6_fails ⟨Nat.le_of_ble_eq_true rfl, Nat.le_of_ble_eq_true rfl⟩) hDi hK hP hNW hS hk0 rfSet_at.1 rfl rfl hl.1 rfl (Nat.le_of_ble_eq_true rfl) (by decide) (dk kX6_count_ok 14 rfl) rfSet_rfSet (fun H locs hP hS => ?_)
    exact hret _ _ _ _ _ _ _ _ rfl (by simp (config := { decide := true }) only [dp, tN, pN, h1, bI_1, bI_00, not_true_eq_false, not_false_eq_true, and_true, true_and, and_false, false_and, or_true, true_or, or_false, false_or, and_self, or_self, if_true, if_false, Bool.false_eq_true, reduceIte]; first | done | exact ⟨rfl, rfl⟩ | (simp_all; done)) hP hS (by decide) (by decide) (dk kX6_count_ok 15 rfl)
  · skip
    refine lv_aload_n hx hb (dk kX6_count_ok 8 rfl) rfl (lv_at hl 0 rfl) ?_
    refine lv_iload_n hx hb (dk kX6_count_ok 9 rfl) rfl (lv_at hl 1 rfl) ?_
    refine cvR (As := [.int x]) (rest := []) ⟨hx, hb, hml, hown, hts⟩ (tX6_number l D cI cQ cL ad N (rfSet cI ad F k r ps sl sd ne fa bu hs st ln pt (nI 0)) k hk r ps sl sd ne fa bu hs st ln pt (nI 0) (rfSet_at) x (ix x) (btw_eq h1) (by have := btw_le h1; omega)) (cwV9 1 hts mcX6_number (ac24 _ (List.mem_of_getElem? (i := 6) rfl)) miX6_number meX6_number mini_RX6 rfl rfl hdX6_number ⟨Nat.le_of_ble_eq_true rfl, Nat.le_of_ble_eq_true rfl⟩) hK hP hNW hk0 rfSet_at.1 rfl rfl hl.1 rfl (Nat.le_of_ble_eq_true rfl) (by decide) (dk kX6_count_ok 10 rfl) ?_
    refine lv_goto (tgt := 28) hx hb (dk kX6_count_ok 11 rfl) (by decide) ?_
    exact hret _ _ _ _ _ _ _ _ rfl (by simp (config := { decide := true }) only [dp, tN, pN, h1, bI_1, bI_00, not_true_eq_false, not_false_eq_true, and_true, true_and, and_false, false_and, or_true, true_or, or_false, false_or, and_self, or_self, if_true, if_false, Bool.false_eq_true, reduceIte]; first | done | exact ⟨rfl, rfl⟩ | (simp_all; done)) hP hS (by decide) (by decide) (dk kX6_count_ok 15 rfl)
set_option maxRecDepth 100000 in
set_option maxHeartbeats 4000000 in
theorem tX6_why (l : Launch) (D : va_G) (cI cQ cL : ClassId) (ad : Nat → Nat) (N : Nat) (F : Nat → va_E) (k : Nat) (hk : k + 7 < N) (r ps sl sd ne fa bu : Nat → Int32) (hs : Bool) (st ln pt : Nat) (th : Int32) (hR : rfAt cI ad F k r ps sl sd ne fa bu hs st ln pt th) (x y z z2 : Int32) : MX l yX6_why (Cond.code yX6_why cX6_why 5 (some .int) :: AW) ({ frames := 4, cells := 0, slots := 0, locals := 88 } : Room) D cI cQ cL ad N F [.ref (ad k), .int x, .int y, .int z, .int z2] (dp (some (.int (pY r x y z z2))) (rfSet cI ad F k r ps sl sd ne fa bu hs st ln pt (tY x y z z2))) 0 0 := by
  refine mx_i (ty := .int) (by decide +kernel) rfl (Nat.le_of_ble_eq_true rfl) (fun p e s m below meth cd Q ls hx hb hml hown hts hDi hP hK hNW hS hret hl => ?_)
  have hown : s.vm.findClass RX6 = some m.cls := hown
  have hk0 : k < N := by omega
  have hk1 : k + 1 < N := by omega
  have hk2 : k + 2 < N := by omega
  have hk3 : k + 3 < N := by omega
  have hk4 : k + 4 < N := by omega
  have hk5 : k + 5 < N := by omega
  have hk6 : k + 6 < N := by omega
  have hk7 : k + 7 < N := by omega
  have hP : va_P D vwCl (iW ad N (rfSet cI ad F k r ps sl sd ne fa bu hs st ln pt th)) s.heap := by rw [rfSet_self hR]; exact hP
  have hl : lv_has ls 5 [(0, .ref (ad k)), (1, .int x), (2, .int y), (3, .int z), (4, .int z2)] := hl
  refine lv_aload_n hx hb (dk kX6_why_ok 0 rfl) rfl (lv_at hl 0 rfl) ?_
  refine lv_iconst (v := nI 0) hx hb (dk kX6_why_ok 1 rfl) rfl ?_
  refine pf (rfSet cI ad F k r ps sl sd ne fa bu hs st ln pt (nI 0)) hx hb hts (fun w h => List.mem_cons_of_mem _ (acX6 w h)) tyX6 tyX6_ok nmX6 hown hK hDi hP hS hk0 rfSet_at.1 rfl 11 (by decide) (hts _ (List.mem_cons_of_mem _ (ac18 _ (List.mem_of_getElem? (i := 4) rfl)))) (fun _ h => h) rfl (ty := .int) rfl rfl rfl (Nat.le_of_ble_eq_true rfl) (dk kX6_why_ok 2 rfl) rfSet_u0 (fun H locs hP hS => ?_)
  refine lv_iload_n hx hb (dk kX6_why_ok 3 rfl) rfl (lv_at hl 1 rfl) ?_
  refine lv_iconst (v := nI 0) hx hb (dk kX6_why_ok 4 rfl) rfl ?_
  refine lv_bipush (v := nI 12) hx hb (dk kX6_why_ok 5 rfl) rfl ?_
  refine csP (As := [.int x, .int (nI 0), .int (nI 12)]) (rest := []) ⟨hx, hb, hml, hown, hts⟩ (tX6_in l x (nI 0) (nI 12)) (cwS9 3 hts mcX6_in (ac19 _ (List.mem_of_getElem? (i := 12) rfl)) msX6_in mini_RX6 rfl rfl hdX6_in ⟨Nat.le_of_ble_eq_true rfl, Nat.le_of_ble_eq_true rfl⟩) rfl hl.1 rfl (Nat.le_of_ble_eq_true rfl) (by decide) (dk kX6_why_ok 6 rfl) ?_
  refine b_if_eq (tgt := 25) hx hb (dk kX6_why_ok 7 rfl) (by decide) (fun h1 => ?_) (fun h1 => ?_)
  · skip
    refine lv_aload_n hx hb (dk kX6_why_ok 13 rfl) rfl (lv_at hl 0 rfl) ?_
    refine lv_iconst (v := nI 1) hx hb (dk kX6_why_ok 14 rfl) rfl ?_
    refine cvD (As := [.int (nI 1)]) (rest := []) (rfSet cI ad F k r ps sl sd ne fa bu hs st ln pt (nI 1)) ⟨hx, hb, hml, hown, hts⟩ (tX6_fails l D cI cQ cL ad N (rfSet cI ad F k r ps sl sd ne fa bu hs st ln pt (nI 0)) k hk r ps sl sd ne fa bu hs st ln pt (nI 0) (rfSet_at) (nI 1)) (cwV9 1 hts mcX6_fails (ac20 _ (List.mem_of_getElem? (i := 15) rfl)) miX6_fails meX6_fails mini_RX6 rfl rfl hdX6_fails ⟨Nat.le_of_ble_eq_true rfl, Nat.le_of_ble_eq_true rfl⟩) hDi hK hP hNW hS hk0 rfSet_at.1 rfl rfl hl.1 rfl (Nat.le_of_ble_eq_true rfl) (by decide) (dk kX6_why_ok 15 rfl) rfSet_rfSet (fun H locs hP hS => ?_)
    exact hret _ _ _ _ _ _ _ _ rfl (by simp (config := { decide := true }) only [dp, tY, pY, h1, bI_1, bI_00, not_true_eq_false, not_false_eq_true, and_true, true_and, and_false, false_and, or_true, true_or, or_false, false_or, and_self, or_self, if_true, if_false, Bool.false_eq_true, reduceIte]; first | done | exact ⟨rfl, rfl⟩ | (simp_all; done)) hP hS (by decide) (by decide) (dk kX6_why_ok 16 rfl)
  · skip
    refine lv_iload_n hx hb (dk kX6_why_ok 8 rfl) rfl (lv_at hl 2 rfl) ?_
    refine lv_iconst (v := nI 0) hx hb (dk kX6_why_ok 9 rfl) rfl ?_
    refine lv_bipush (v := nI 12) hx hb (dk kX6_why_ok 10 rfl) rfl ?_
    refine csP (As := [.int y, .int (nI 0), .int (nI 12)]) (rest := []) ⟨hx, hb, hml, hown, hts⟩ (tX6_in l y (nI 0) (nI 12)) (cwS9 3 hts mcX6_in (ac19 _ (List.mem_of_getElem? (i := 12) rfl)) msX6_in mini_RX6 rfl rfl hdX6_in ⟨Nat.le_of_ble_eq_true rfl, Nat.le_of_ble_eq_true rfl⟩) rfl hl.1 rfl (Nat.le_of_ble_eq_true rfl) (by decide) (dk kX6_why_ok 11 rfl) ?_
    refine b_if_ne (tgt := 31) hx hb (dk kX6_why_ok 12 rfl) (by decide) (fun h2 => ?_) (fun h2 => ?_)
    · skip
      refine lv_iload_n hx hb (dk kX6_why_ok 17 rfl) rfl (lv_at hl 3 rfl) ?_
      refine lv_iconst (v := nI 1) hx hb (dk kX6_why_ok 18 rfl) rfl ?_
      refine lv_bipush (v := nI 6) hx hb (dk kX6_why_ok 19 rfl) rfl ?_
      refine csP (As := [.int z, .int (nI 1), .int (nI 6)]) (rest := []) ⟨hx, hb, hml, hown, hts⟩ (tX6_in l z (nI 1) (nI 6)) (cwS9 3 hts mcX6_in (ac19 _ (List.mem_of_getElem? (i := 12) rfl)) msX6_in mini_RX6 rfl rfl hdX6_in ⟨Nat.le_of_ble_eq_true rfl, Nat.le_of_ble_eq_true rfl⟩) rfl hl.1 rfl (Nat.le_of_ble_eq_true rfl) (by decide) (dk kX6_why_ok 20 rfl) ?_
      refine b_if_eq (tgt := 68) hx hb (dk kX6_why_ok 21 rfl) (by decide) (fun h3 => ?_) (fun h3 => ?_)
      · skip
        refine lv_aload_n hx hb (dk kX6_why_ok 37 rfl) rfl (lv_at hl 0 rfl) ?_
        refine lv_iconst (v := nI 2) hx hb (dk kX6_why_ok 38 rfl) rfl ?_
        refine cvD (As := [.int (nI 2)]) (rest := []) (rfSet cI ad F k r ps sl sd ne fa bu hs st ln pt (nI 2)) ⟨hx, hb, hml, hown, hts⟩ (tX6_fails l D cI cQ cL ad N (rfSet cI ad F k r ps sl sd ne fa bu hs st ln pt (nI 0)) k hk r ps sl sd ne fa bu hs st ln pt (nI 0) (rfSet_at) (nI 2)) (cwV9 1 hts mcX6_fails (ac20 _ (List.mem_of_getElem? (i := 15) rfl)) miX6_fails meX6_fails mini_RX6 rfl rfl hdX6_fails ⟨Nat.le_of_ble_eq_true rfl, Nat.le_of_ble_eq_true rfl⟩) hDi hK hP hNW hS hk0 rfSet_at.1 rfl rfl hl.1 rfl (Nat.le_of_ble_eq_true rfl) (by decide) (dk kX6_why_ok 39 rfl) rfSet_rfSet (fun H locs hP hS => ?_)
        exact hret _ _ _ _ _ _ _ _ rfl (by simp (config := { decide := true }) only [dp, tY, pY, h1, h2, h3, bI_1, bI_00, not_true_eq_false, not_false_eq_true, and_true, true_and, and_false, false_and, or_true, true_or, or_false, false_or, and_self, or_self, if_true, if_false, Bool.false_eq_true, reduceIte]; first | done | exact ⟨rfl, rfl⟩ | (simp_all; done)) hP hS (by decide) (by decide) (dk kX6_why_ok 40 rfl)
      · skip
        refine lv_iload hx hb (dk kX6_why_ok 22 rfl) (lv_at hl 4 rfl) ?_
        refine lv_iconst (v := nI 0) hx hb (dk kX6_why_ok 23 rfl) rfl ?_
        refine lv_bipush (v := nI 7) hx hb (dk kX6_why_ok 24 rfl) rfl ?_
        refine csP (As := [.int z2, .int (nI 0), .int (nI 7)]) (rest := []) ⟨hx, hb, hml, hown, hts⟩ (tX6_in l z2 (nI 0) (nI 7)) (cwS9 3 hts mcX6_in (ac19 _ (List.mem_of_getElem? (i := 12) rfl)) msX6_in mini_RX6 rfl rfl hdX6_in ⟨Nat.le_of_ble_eq_true rfl, Nat.le_of_ble_eq_true rfl⟩) rfl hl.1 rfl (Nat.le_of_ble_eq_true rfl) (by decide) (dk kX6_why_ok 25 rfl) ?_
        refine b_if_eq (tgt := 68) hx hb (dk kX6_why_ok 26 rfl) (by decide) (fun h4 => ?_) (fun h4 => ?_)
        · skip
          refine lv_aload_n hx hb (dk kX6_why_ok 37 rfl) rfl (lv_at hl 0 rfl) ?_
          refine lv_iconst (v := nI 2) hx hb (dk kX6_why_ok 38 rfl) rfl ?_
          refine cvD (As := [.int (nI 2)]) (rest := []) (rfSet cI ad F k r ps sl sd ne fa bu hs st ln pt (nI 2)) ⟨hx, hb, hml, hown, hts⟩ (tX6_fails l D cI cQ cL ad N (rfSet cI ad F k r ps sl sd ne fa bu hs st ln pt (nI 0)) k hk r ps sl sd ne fa bu hs st ln pt (nI 0) (rfSet_at) (nI 2)) (cwV9 1 hts mcX6_fails (ac20 _ (List.mem_of_getElem? (i := 15) rfl)) miX6_fails meX6_fails mini_RX6 rfl rfl hdX6_fails ⟨Nat.le_of_ble_eq_true rfl, Nat.le_of_ble_eq_true rfl⟩) hDi hK hP hNW hS hk0 rfSet_at.1 rfl rfl hl.1 rfl (Nat.le_of_ble_eq_true rfl) (by decide) (dk kX6_why_ok 39 rfl) rfSet_rfSet (fun H locs hP hS => ?_)
          exact hret _ _ _ _ _ _ _ _ rfl (by simp (config := { decide := true }) only [dp, tY, pY, h1, h2, h3, h4, bI_1, bI_00, not_true_eq_false, not_false_eq_true, and_true, true_and, and_false, false_and, or_true, true_or, or_false, false_or, and_self, or_self, if_true, if_false, Bool.false_eq_true, reduceIte]; first | done | exact ⟨rfl, rfl⟩ | (simp_all; done)) hP hS (by decide) (by decide) (dk kX6_why_ok 40 rfl)
        · skip
          refine lv_aload_n hx hb (dk kX6_why_ok 27 rfl) rfl (lv_at hl 0 rfl) ?_
          refine lv_bipush (v := nI 13) hx hb (dk kX6_why_ok 28 rfl) rfl ?_
          refine lv_iload_n hx hb (dk kX6_why_ok 29 rfl) rfl (lv_at hl 2 rfl) ?_
          refine lv_imul hx hb (dk kX6_why_ok 30 rfl) ?_
          refine lv_iload_n hx hb (dk kX6_why_ok 31 rfl) rfl (lv_at hl 1 rfl) ?_
          refine lv_iadd hx hb (dk kX6_why_ok 32 rfl) ?_
          refine lv_iload_n hx hb (dk kX6_why_ok 33 rfl) rfl (lv_at hl 3 rfl) ?_
          refine lv_iload hx hb (dk kX6_why_ok 34 rfl) (lv_at hl 4 rfl) ?_
          refine cvR (As := [.int (((nI 13) * y) + x), .int z, .int z2]) (rest := []) ⟨hx, hb, hml, hown, hts⟩ (tX6_whyNotLifted l D cI cQ cL ad N (rfSet cI ad F k r ps sl sd ne fa bu hs st ln pt (nI 0)) k hk r ps sl sd ne fa bu hs st ln pt (nI 0) (rfSet_at) (((nI 13) * y) + x) (13 * ix y + ix x) (cell_eq h2 h1) (cell_lt h2 h1) z (ix z) (btw_eq h3) (by have := btw_le h3; omega) z2 (ix z2) (btw_eq h4) (by have := btw_le h4; omega)) (cwV9 3 hts mcX6_whyNotLifted (ac21 _ (List.mem_of_getElem? (i := 7) rfl)) miX6_whyNotLifted meX6_whyNotLifted mini_RX6 rfl rfl hdX6_whyNotLifted ⟨Nat.le_of_ble_eq_true rfl, Nat.le_of_ble_eq_true rfl⟩) hK hP hNW hk0 rfSet_at.1 rfl rfl hl.1 rfl (Nat.le_of_ble_eq_true rfl) (by decide) (dk kX6_why_ok 35 rfl) ?_
          refine lv_goto (tgt := 73) hx hb (dk kX6_why_ok 36 rfl) (by decide) ?_
          exact hret _ _ _ _ _ _ _ _ rfl (by simp (config := { decide := true }) only [dp, tY, pY, h1, h2, h3, h4, bI_1, bI_00, not_true_eq_false, not_false_eq_true, and_true, true_and, and_false, false_and, or_true, true_or, or_false, false_or, and_self, or_self, if_true, if_false, Bool.false_eq_true, reduceIte]; first | done | exact ⟨rfl, rfl⟩ | (simp_all; done)) hP hS (by decide) (by decide) (dk kX6_why_ok 40 rfl)
    · skip
      refine lv_aload_n hx hb (dk kX6_why_ok 13 rfl) rfl (lv_at hl 0 rfl) ?_
      refine lv_iconst (v := nI 1) hx hb (dk kX6_why_ok 14 rfl) rfl ?_
      refine cvD (As := [.int (nI 1)]) (rest := []) (rfSet cI ad F k r ps sl sd ne fa bu hs st ln pt (nI 1)) ⟨hx, hb, hml, hown, hts⟩ (tX6_fails l D cI cQ cL ad N (rfSet cI ad F k r ps sl sd ne fa bu hs st ln pt (nI 0)) k hk r ps sl sd ne fa bu hs st ln pt (nI 0) (rfSet_at) (nI 1)) (cwV9 1 hts mcX6_fails (ac20 _ (List.mem_of_getElem? (i := 15) rfl)) miX6_fails meX6_fails mini_RX6 rfl rfl hdX6_fails ⟨Nat.le_of_ble_eq_true rfl, Nat.le_of_ble_eq_true rfl⟩) hDi hK hP hNW hS hk0 rfSet_at.1 rfl rfl hl.1 rfl (Nat.le_of_ble_eq_true rfl) (by decide) (dk kX6_why_ok 15 rfl) rfSet_rfSet (fun H locs hP hS => ?_)
      exact hret _ _ _ _ _ _ _ _ rfl (by simp (config := { decide := true }) only [dp, tY, pY, h1, h2, bI_1, bI_00, not_true_eq_false, not_false_eq_true, and_true, true_and, and_false, false_and, or_true, true_or, or_false, false_or, and_self, or_self, if_true, if_false, Bool.false_eq_true, reduceIte]; first | done | exact ⟨rfl, rfl⟩ | (simp_all; done)) hP hS (by decide) (by decide) (dk kX6_why_ok 16 rfl)
set_option maxRecDepth 100000 in
set_option maxHeartbeats 4000000 in
theorem tX6_lands (l : Launch) (D : va_G) (cI cQ cL : ClassId) (ad : Nat → Nat) (N : Nat) (F : Nat → va_E) (k : Nat) (hk : k + 7 < N) (r ps sl sd ne fa bu : Nat → Int32) (hs : Bool) (st ln pt : Nat) (th : Int32) (hR : rfAt cI ad F k r ps sl sd ne fa bu hs st ln pt th) (x y z : Int32) (hrk : rok r) : MX l yX6_lands (Cond.code yX6_lands cX6_lands 4 (some .int) :: AW) ({ frames := 3, cells := 0, slots := 0, locals := 73 } : Room) D cI cQ cL ad N F [.ref (ad k), .int x, .int y, .int z] (dp (some (.int (pL r x y z))) (rfSet cI ad F k r ps sl sd ne fa bu hs st ln pt (tL x y z))) 0 0 := by
  refine mx_i (ty := .int) (by decide +kernel) rfl (Nat.le_of_ble_eq_true rfl) (fun p e s m below meth cd Q ls hx hb hml hown hts hDi hP hK hNW hS hret hl => ?_)
  have hown : s.vm.findClass RX6 = some m.cls := hown
  have hk0 : k < N := by omega
  have hk1 : k + 1 < N := by omega
  have hk2 : k + 2 < N := by omega
  have hk3 : k + 3 < N := by omega
  have hk4 : k + 4 < N := by omega
  have hk5 : k + 5 < N := by omega
  have hk6 : k + 6 < N := by omega
  have hk7 : k + 7 < N := by omega
  have hP : va_P D vwCl (iW ad N (rfSet cI ad F k r ps sl sd ne fa bu hs st ln pt th)) s.heap := by rw [rfSet_self hR]; exact hP
  have hl : lv_has ls 4 [(0, .ref (ad k)), (1, .int x), (2, .int y), (3, .int z)] := hl
  refine lv_aload_n hx hb (dk kX6_lands_ok 0 rfl) rfl (lv_at hl 0 rfl) ?_
  refine lv_iconst (v := nI 0) hx hb (dk kX6_lands_ok 1 rfl) rfl ?_
  refine pf (rfSet cI ad F k r ps sl sd ne fa bu hs st ln pt (nI 0)) hx hb hts (fun w h => List.mem_cons_of_mem _ (acX6 w h)) tyX6 tyX6_ok nmX6 hown hK hDi hP hS hk0 rfSet_at.1 rfl 11 (by decide) (hts _ (List.mem_cons_of_mem _ (ac18 _ (List.mem_of_getElem? (i := 4) rfl)))) (fun _ h => h) rfl (ty := .int) rfl rfl rfl (Nat.le_of_ble_eq_true rfl) (dk kX6_lands_ok 2 rfl) rfSet_u0 (fun H locs hP hS => ?_)
  refine lv_iload_n hx hb (dk kX6_lands_ok 3 rfl) rfl (lv_at hl 1 rfl) ?_
  refine lv_iconst (v := nI 0) hx hb (dk kX6_lands_ok 4 rfl) rfl ?_
  refine lv_bipush (v := nI 15) hx hb (dk kX6_lands_ok 5 rfl) rfl ?_
  refine csP (As := [.int x, .int (nI 0), .int (nI 15)]) (rest := []) ⟨hx, hb, hml, hown, hts⟩ (tX6_in l x (nI 0) (nI 15)) (cwS9 3 hts mcX6_in (ac19 _ (List.mem_of_getElem? (i := 12) rfl)) msX6_in mini_RX6 rfl rfl hdX6_in ⟨Nat.le_of_ble_eq_true rfl, Nat.le_of_ble_eq_true rfl⟩) rfl hl.1 rfl (Nat.le_of_ble_eq_true rfl) (by decide) (dk kX6_lands_ok 6 rfl) ?_
  refine b_if_ne (tgt := 21) hx hb (dk kX6_lands_ok 7 rfl) (by decide) (fun h1 => ?_) (fun h1 => ?_)
  · skip
    refine lv_iload_n hx hb (dk kX6_lands_ok 12 rfl) rfl (lv_at hl 2 rfl) ?_
    refine lv_iconst (v := nI 0) hx hb (dk kX6_lands_ok 13 rfl) rfl ?_
    refine lv_bipush (v := nI 7) hx hb (dk kX6_lands_ok 14 rfl) rfl ?_
    refine csP (As := [.int y, .int (nI 0), .int (nI 7)]) (rest := []) ⟨hx, hb, hml, hown, hts⟩ (tX6_in l y (nI 0) (nI 7)) (cwS9 3 hts mcX6_in (ac19 _ (List.mem_of_getElem? (i := 12) rfl)) msX6_in mini_RX6 rfl rfl hdX6_in ⟨Nat.le_of_ble_eq_true rfl, Nat.le_of_ble_eq_true rfl⟩) rfl hl.1 rfl (Nat.le_of_ble_eq_true rfl) (by decide) (dk kX6_lands_ok 15 rfl) ?_
    refine b_if_eq (tgt := 51) hx hb (dk kX6_lands_ok 16 rfl) (by decide) (fun h2 => ?_) (fun h2 => ?_)
    · skip
      refine lv_aload_n hx hb (dk kX6_lands_ok 28 rfl) rfl (lv_at hl 0 rfl) ?_
      refine lv_iconst (v := nI 2) hx hb (dk kX6_lands_ok 29 rfl) rfl ?_
      refine cvD (As := [.int (nI 2)]) (rest := []) (rfSet cI ad F k r ps sl sd ne fa bu hs st ln pt (nI 2)) ⟨hx, hb, hml, hown, hts⟩ (tX6_fails l D cI cQ cL ad N (rfSet cI ad F k r ps sl sd ne fa bu hs st ln pt (nI 0)) k hk r ps sl sd ne fa bu hs st ln pt (nI 0) (rfSet_at) (nI 2)) (cwV9 1 hts mcX6_fails (ac20 _ (List.mem_of_getElem? (i := 15) rfl)) miX6_fails meX6_fails mini_RX6 rfl rfl hdX6_fails ⟨Nat.le_of_ble_eq_true rfl, Nat.le_of_ble_eq_true rfl⟩) hDi hK hP hNW hS hk0 rfSet_at.1 rfl rfl hl.1 rfl (Nat.le_of_ble_eq_true rfl) (by decide) (dk kX6_lands_ok 30 rfl) rfSet_rfSet (fun H locs hP hS => ?_)
      exact hret _ _ _ _ _ _ _ _ rfl (by simp (config := { decide := true }) only [dp, tL, pL, h1, h2, bI_1, bI_00, not_true_eq_false, not_false_eq_true, and_true, true_and, and_false, false_and, or_true, true_or, or_false, false_or, and_self, or_self, if_true, if_false, Bool.false_eq_true, reduceIte]; first | done | exact ⟨rfl, rfl⟩ | (simp_all; done)) hP hS (by decide) (by decide) (dk kX6_lands_ok 31 rfl)
    · skip
      refine lv_iload_n hx hb (dk kX6_lands_ok 17 rfl) rfl (lv_at hl 3 rfl) ?_
      refine lv_iconst (v := nI 1) hx hb (dk kX6_lands_ok 18 rfl) rfl ?_
      refine lv_bipush (v := nI 9) hx hb (dk kX6_lands_ok 19 rfl) rfl ?_
      refine csP (As := [.int z, .int (nI 1), .int (nI 9)]) (rest := []) ⟨hx, hb, hml, hown, hts⟩ (tX6_in l z (nI 1) (nI 9)) (cwS9 3 hts mcX6_in (ac19 _ (List.mem_of_getElem? (i := 12) rfl)) msX6_in mini_RX6 rfl rfl hdX6_in ⟨Nat.le_of_ble_eq_true rfl, Nat.le_of_ble_eq_true rfl⟩) rfl hl.1 rfl (Nat.le_of_ble_eq_true rfl) (by decide) (dk kX6_lands_ok 20 rfl) ?_
      refine b_if_eq (tgt := 51) hx hb (dk kX6_lands_ok 21 rfl) (by decide) (fun h3 => ?_) (fun h3 => ?_)
      · skip
        refine lv_aload_n hx hb (dk kX6_lands_ok 28 rfl) rfl (lv_at hl 0 rfl) ?_
        refine lv_iconst (v := nI 2) hx hb (dk kX6_lands_ok 29 rfl) rfl ?_
        refine cvD (As := [.int (nI 2)]) (rest := []) (rfSet cI ad F k r ps sl sd ne fa bu hs st ln pt (nI 2)) ⟨hx, hb, hml, hown, hts⟩ (tX6_fails l D cI cQ cL ad N (rfSet cI ad F k r ps sl sd ne fa bu hs st ln pt (nI 0)) k hk r ps sl sd ne fa bu hs st ln pt (nI 0) (rfSet_at) (nI 2)) (cwV9 1 hts mcX6_fails (ac20 _ (List.mem_of_getElem? (i := 15) rfl)) miX6_fails meX6_fails mini_RX6 rfl rfl hdX6_fails ⟨Nat.le_of_ble_eq_true rfl, Nat.le_of_ble_eq_true rfl⟩) hDi hK hP hNW hS hk0 rfSet_at.1 rfl rfl hl.1 rfl (Nat.le_of_ble_eq_true rfl) (by decide) (dk kX6_lands_ok 30 rfl) rfSet_rfSet (fun H locs hP hS => ?_)
        exact hret _ _ _ _ _ _ _ _ rfl (by simp (config := { decide := true }) only [dp, tL, pL, h1, h2, h3, bI_1, bI_00, not_true_eq_false, not_false_eq_true, and_true, true_and, and_false, false_and, or_true, true_or, or_false, false_or, and_self, or_self, if_true, if_false, Bool.false_eq_true, reduceIte]; first | done | exact ⟨rfl, rfl⟩ | (simp_all; done)) hP hS (by decide) (by decide) (dk kX6_lands_ok 31 rfl)
      · skip
        refine lv_aload_n hx hb (dk kX6_lands_ok 22 rfl) rfl (lv_at hl 0 rfl) ?_
        refine lv_iload_n hx hb (dk kX6_lands_ok 23 rfl) rfl (lv_at hl 1 rfl) ?_
        refine lv_iload_n hx hb (dk kX6_lands_ok 24 rfl) rfl (lv_at hl 2 rfl) ?_
        refine lv_iload_n hx hb (dk kX6_lands_ok 25 rfl) rfl (lv_at hl 3 rfl) ?_
        refine cvR (As := [.int x, .int y, .int z]) (rest := []) ⟨hx, hb, hml, hown, hts⟩ (tX6_landing l D cI cQ cL ad N (rfSet cI ad F k r ps sl sd ne fa bu hs st ln pt (nI 0)) k hk r ps sl sd ne fa bu hs st ln pt (nI 0) (rfSet_at) x (ix x) (btw_eq h1) (by have := btw_le h1; omega) y (ix y) (btw_eq h2) (by have := btw_le h2; omega) z (ix z) (btw_eq h3) (by have := btw_le h3; omega) (fun h9 => hrk.2.2.1 (ix x) (by have bh1 := btw_le h1; have bh2 := btw_le h2; have bh3 := btw_le h3; omega) h9)) (cwV9 3 hts mcX6_landing (ac24 _ (List.mem_of_getElem? (i := 10) rfl)) miX6_landing meX6_landing mini_RX6 rfl rfl hdX6_landing ⟨Nat.le_of_ble_eq_true rfl, Nat.le_of_ble_eq_true rfl⟩) hK hP hNW hk0 rfSet_at.1 rfl rfl hl.1 rfl (Nat.le_of_ble_eq_true rfl) (by decide) (dk kX6_lands_ok 26 rfl) ?_
        refine lv_goto (tgt := 56) hx hb (dk kX6_lands_ok 27 rfl) (by decide) ?_
        exact hret _ _ _ _ _ _ _ _ rfl (by simp (config := { decide := true }) only [dp, tL, pL, h1, h2, h3, bI_1, bI_00, not_true_eq_false, not_false_eq_true, and_true, true_and, and_false, false_and, or_true, true_or, or_false, false_or, and_self, or_self, if_true, if_false, Bool.false_eq_true, reduceIte]; first | done | exact ⟨rfl, rfl⟩ | (simp_all; done)) hP hS (by decide) (by decide) (dk kX6_lands_ok 31 rfl)
  · skip
    refine lv_aload_n hx hb (dk kX6_lands_ok 8 rfl) rfl (lv_at hl 0 rfl) ?_
    refine lv_iconst (v := nI 1) hx hb (dk kX6_lands_ok 9 rfl) rfl ?_
    refine cvD (As := [.int (nI 1)]) (rest := []) (rfSet cI ad F k r ps sl sd ne fa bu hs st ln pt (nI 1)) ⟨hx, hb, hml, hown, hts⟩ (tX6_fails l D cI cQ cL ad N (rfSet cI ad F k r ps sl sd ne fa bu hs st ln pt (nI 0)) k hk r ps sl sd ne fa bu hs st ln pt (nI 0) (rfSet_at) (nI 1)) (cwV9 1 hts mcX6_fails (ac20 _ (List.mem_of_getElem? (i := 15) rfl)) miX6_fails meX6_fails mini_RX6 rfl rfl hdX6_fails ⟨Nat.le_of_ble_eq_true rfl, Nat.le_of_ble_eq_true rfl⟩) hDi hK hP hNW hS hk0 rfSet_at.1 rfl rfl hl.1 rfl (Nat.le_of_ble_eq_true rfl) (by decide) (dk kX6_lands_ok 10 rfl) rfSet_rfSet (fun H locs hP hS => ?_)
    exact hret _ _ _ _ _ _ _ _ rfl (by simp (config := { decide := true }) only [dp, tL, pL, h1, bI_1, bI_00, not_true_eq_false, not_false_eq_true, and_true, true_and, and_false, false_and, or_true, true_or, or_false, false_or, and_self, or_self, if_true, if_false, Bool.false_eq_true, reduceIte]; first | done | exact ⟨rfl, rfl⟩ | (simp_all; done)) hP hS (by decide) (by decide) (dk kX6_lands_ok 11 rfl)
set_option maxRecDepth 100000 in
set_option maxHeartbeats 4000000 in
theorem tX6_fly (l : Launch) (D : va_G) (cI cQ cL : ClassId) (ad : Nat → Nat) (N : Nat) (F : Nat → va_E) (k : Nat) (hk : k + 7 < N) (r ps sl sd ne fa bu : Nat → Int32) (hs : Bool) (st ln pt : Nat) (th : Int32) (hR : rfAt cI ad F k r ps sl sd ne fa bu hs st ln pt th) (x y z : Int32) (hst6 : st ≤ 6) (hrk : rok r) : MX l yX6_fly (Cond.code yX6_fly cX6_fly 4 (some .int) :: AW) ({ frames := 5, cells := 0, slots := 0, locals := 109 } : Room) D cI cQ cL ad N F [.ref (ad k), .int x, .int y, .int z] (dp (some (.int (if gF r x y z = true then fans (ldg (r (ix x)) (nI (ix y)) (stp (ix x) (ix z))) else nI 0))) (rfSet cI ad F k (if gF r x y z = true then rfx r (ix x) (ldg (r (ix x)) (nI (ix y)) (stp (ix x) (ix z))) (ix (r 56)) else r) (if gF r x y z = true then rcP ps r st else ps) sl sd ne fa bu hs (if gF r x y z = true then rcS st else st) ln pt (tF r x y z))) 0 0 := by
  refine mx_i (ty := .int) (by decide +kernel) rfl (Nat.le_of_ble_eq_true rfl) (fun p e s m below meth cd Q ls hx hb hml hown hts hDi hP hK hNW hS hret hl => ?_)
  have hown : s.vm.findClass RX6 = some m.cls := hown
  have hk0 : k < N := by omega
  have hk1 : k + 1 < N := by omega
  have hk2 : k + 2 < N := by omega
  have hk3 : k + 3 < N := by omega
  have hk4 : k + 4 < N := by omega
  have hk5 : k + 5 < N := by omega
  have hk6 : k + 6 < N := by omega
  have hk7 : k + 7 < N := by omega
  have hP : va_P D vwCl (iW ad N (rfSet cI ad F k r ps sl sd ne fa bu hs st ln pt th)) s.heap := by rw [rfSet_self hR]; exact hP
  have hl : lv_has ls 4 [(0, .ref (ad k)), (1, .int x), (2, .int y), (3, .int z)] := hl
  refine lv_aload_n hx hb (dk kX6_fly_ok 0 rfl) rfl (lv_at hl 0 rfl) ?_
  refine lv_iconst (v := nI 0) hx hb (dk kX6_fly_ok 1 rfl) rfl ?_
  refine pf (rfSet cI ad F k r ps sl sd ne fa bu hs st ln pt (nI 0)) hx hb hts (fun w h => List.mem_cons_of_mem _ (acX6 w h)) tyX6 tyX6_ok nmX6 hown hK hDi hP hS hk0 rfSet_at.1 rfl 11 (by decide) (hts _ (List.mem_cons_of_mem _ (ac18 _ (List.mem_of_getElem? (i := 4) rfl)))) (fun _ h => h) rfl (ty := .int) rfl rfl rfl (Nat.le_of_ble_eq_true rfl) (dk kX6_fly_ok 2 rfl) rfSet_u0 (fun H locs hP hS => ?_)
  refine lv_iload_n hx hb (dk kX6_fly_ok 3 rfl) rfl (lv_at hl 1 rfl) ?_
  refine lv_iconst (v := nI 0) hx hb (dk kX6_fly_ok 4 rfl) rfl ?_
  refine lv_bipush (v := nI 15) hx hb (dk kX6_fly_ok 5 rfl) rfl ?_
  refine csP (As := [.int x, .int (nI 0), .int (nI 15)]) (rest := []) ⟨hx, hb, hml, hown, hts⟩ (tX6_in l x (nI 0) (nI 15)) (cwS9 3 hts mcX6_in (ac19 _ (List.mem_of_getElem? (i := 12) rfl)) msX6_in mini_RX6 rfl rfl hdX6_in ⟨Nat.le_of_ble_eq_true rfl, Nat.le_of_ble_eq_true rfl⟩) rfl hl.1 rfl (Nat.le_of_ble_eq_true rfl) (by decide) (dk kX6_fly_ok 6 rfl) ?_
  refine b_if_ne (tgt := 21) hx hb (dk kX6_fly_ok 7 rfl) (by decide) (fun h1 => ?_) (fun h1 => ?_)
  · skip
    refine lv_iload_n hx hb (dk kX6_fly_ok 12 rfl) rfl (lv_at hl 2 rfl) ?_
    refine lv_iconst (v := nI 0) hx hb (dk kX6_fly_ok 13 rfl) rfl ?_
    refine lv_bipush (v := nI 7) hx hb (dk kX6_fly_ok 14 rfl) rfl ?_
    refine csP (As := [.int y, .int (nI 0), .int (nI 7)]) (rest := []) ⟨hx, hb, hml, hown, hts⟩ (tX6_in l y (nI 0) (nI 7)) (cwS9 3 hts mcX6_in (ac19 _ (List.mem_of_getElem? (i := 12) rfl)) msX6_in mini_RX6 rfl rfl hdX6_in ⟨Nat.le_of_ble_eq_true rfl, Nat.le_of_ble_eq_true rfl⟩) rfl hl.1 rfl (Nat.le_of_ble_eq_true rfl) (by decide) (dk kX6_fly_ok 15 rfl) ?_
    refine b_if_eq (tgt := 41) hx hb (dk kX6_fly_ok 16 rfl) (by decide) (fun h2 => ?_) (fun h2 => ?_)
    · skip
      refine lv_aload_n hx hb (dk kX6_fly_ok 22 rfl) rfl (lv_at hl 0 rfl) ?_
      refine lv_iconst (v := nI 2) hx hb (dk kX6_fly_ok 23 rfl) rfl ?_
      refine cvD (As := [.int (nI 2)]) (rest := []) (rfSet cI ad F k r ps sl sd ne fa bu hs st ln pt (nI 2)) ⟨hx, hb, hml, hown, hts⟩ (tX6_fails l D cI cQ cL ad N (rfSet cI ad F k r ps sl sd ne fa bu hs st ln pt (nI 0)) k hk r ps sl sd ne fa bu hs st ln pt (nI 0) (rfSet_at) (nI 2)) (cwV9 1 hts mcX6_fails (ac20 _ (List.mem_of_getElem? (i := 15) rfl)) miX6_fails meX6_fails mini_RX6 rfl rfl hdX6_fails ⟨Nat.le_of_ble_eq_true rfl, Nat.le_of_ble_eq_true rfl⟩) hDi hK hP hNW hS hk0 rfSet_at.1 rfl rfl hl.1 rfl (Nat.le_of_ble_eq_true rfl) (by decide) (dk kX6_fly_ok 24 rfl) rfSet_rfSet (fun H locs hP hS => ?_)
      exact hret _ _ _ _ _ _ _ _ rfl (by simp (config := { decide := true }) only [dp, tF, gF, h1, h2, bI_1, bI_00, not_true_eq_false, not_false_eq_true, and_true, true_and, and_false, false_and, or_true, true_or, or_false, false_or, and_self, or_self, if_true, if_false, Bool.false_eq_true, reduceIte]; first | done | exact ⟨rfl, rfl⟩ | (simp_all; done)) hP hS (by decide) (by decide) (dk kX6_fly_ok 25 rfl)
    · skip
      refine lv_iload_n hx hb (dk kX6_fly_ok 17 rfl) rfl (lv_at hl 3 rfl) ?_
      refine lv_iconst (v := nI 1) hx hb (dk kX6_fly_ok 18 rfl) rfl ?_
      refine lv_bipush (v := nI 9) hx hb (dk kX6_fly_ok 19 rfl) rfl ?_
      refine csP (As := [.int z, .int (nI 1), .int (nI 9)]) (rest := []) ⟨hx, hb, hml, hown, hts⟩ (tX6_in l z (nI 1) (nI 9)) (cwS9 3 hts mcX6_in (ac19 _ (List.mem_of_getElem? (i := 12) rfl)) msX6_in mini_RX6 rfl rfl hdX6_in ⟨Nat.le_of_ble_eq_true rfl, Nat.le_of_ble_eq_true rfl⟩) rfl hl.1 rfl (Nat.le_of_ble_eq_true rfl) (by decide) (dk kX6_fly_ok 20 rfl) ?_
      refine b_if_ne (tgt := 47) hx hb (dk kX6_fly_ok 21 rfl) (by decide) (fun h3 => ?_) (fun h3 => ?_)
      · skip
        refine lv_aload_n hx hb (dk kX6_fly_ok 26 rfl) rfl (lv_at hl 0 rfl) ?_
        refine lv_iload_n hx hb (dk kX6_fly_ok 27 rfl) rfl (lv_at hl 1 rfl) ?_
        refine cvR (As := [.int x]) (rest := []) ⟨hx, hb, hml, hown, hts⟩ (tX6_whyNot l D cI cQ cL ad N (rfSet cI ad F k r ps sl sd ne fa bu hs st ln pt (nI 0)) k hk r ps sl sd ne fa bu hs st ln pt (nI 0) (rfSet_at) x (ix x) (btw_eq h1) (by have := btw_le h1; omega)) (cwV9 1 hts mcX6_whyNot (ac20 _ (List.mem_of_getElem? (i := 19) rfl)) miX6_whyNot meX6_whyNot mini_RX6 rfl rfl hdX6_whyNot ⟨Nat.le_of_ble_eq_true rfl, Nat.le_of_ble_eq_true rfl⟩) hK hP hNW hk0 rfSet_at.1 rfl rfl hl.1 rfl (Nat.le_of_ble_eq_true rfl) (by decide) (dk kX6_fly_ok 28 rfl) ?_
        refine n_if_eq (tgt := 61) hx hb (by have q1 := rwn_le r (ix x); omega) (dk kX6_fly_ok 29 rfl) (by decide) (fun h4 => ?_) (fun h4 => ?_)
        · skip
          refine lv_aload_n hx hb (dk kX6_fly_ok 34 rfl) rfl (lv_at hl 0 rfl) ?_
          refine cvDv (As := []) (rest := []) (rfSet cI ad F k r (rcP ps r st) sl sd ne fa bu hs (rcS st) ln pt (nI 0)) ⟨hx, hb, hml, hown, hts⟩ (tX6_record l D cI cQ cL ad N (rfSet cI ad F k r ps sl sd ne fa bu hs st ln pt (nI 0)) k hk r ps sl sd ne fa bu hs st ln pt (nI 0) (rfSet_at) hst6) (cwV9 0 hts mcX6_record (ac20 _ (List.mem_of_getElem? (i := 23) rfl)) miX6_record meX6_record mini_RX6 rfl rfl hdX6_record ⟨Nat.le_of_ble_eq_true rfl, Nat.le_of_ble_eq_true rfl⟩) hDi hK hP hNW hS hk0 rfSet_at.1 rfl rfl hl.1 rfl (Nat.le_of_ble_eq_true rfl) (by decide) (dk kX6_fly_ok 35 rfl) rfSet_rfSet (fun H locs hP hS => ?_)
          refine lv_aload_n hx hb (dk kX6_fly_ok 36 rfl) rfl (lv_at hl 0 rfl) ?_
          refine lv_iload_n hx hb (dk kX6_fly_ok 37 rfl) rfl (lv_at hl 1 rfl) ?_
          refine lv_iload_n hx hb (dk kX6_fly_ok 38 rfl) rfl (lv_at hl 2 rfl) ?_
          refine lv_iload_n hx hb (dk kX6_fly_ok 39 rfl) rfl (lv_at hl 3 rfl) ?_
          refine cvD (As := [.int x, .int y, .int z]) (rest := []) (rfSet cI ad F k (rfx r (ix x) (ldg (r (ix x)) (nI (ix y)) (stp (ix x) (ix z))) (ix (r 56))) (rcP ps r st) sl sd ne fa bu hs (rcS st) ln pt (nI 0)) ⟨hx, hb, hml, hown, hts⟩ (tX6_flies l D cI cQ cL ad N (rfSet cI ad F k r (rcP ps r st) sl sd ne fa bu hs (rcS st) ln pt (nI 0)) k hk r (rcP ps r st) sl sd ne fa bu hs (rcS st) ln pt (nI 0) (rfSet_at) x (ix x) (btw_eq h1) (by have := btw_le h1; omega) y (ix y) (btw_eq h2) (by have := btw_le h2; omega) z (ix z) (btw_eq h3) (by have := btw_le h3; omega) (rok_c9 hrk (by have bh1 := btw_le h1; have bh2 := btw_le h2; have bh3 := btw_le h3; omega) h4) (rok_l0 hrk (by have bh1 := btw_le h1; have bh2 := btw_le h2; have bh3 := btw_le h3; omega) h4) (ix (r 56)) hrk.1.1 hrk.1.2 hrk.2.1) (cwV9 3 hts mcX6_flies (ac21 _ (List.mem_of_getElem? (i := 3) rfl)) miX6_flies meX6_flies mini_RX6 rfl rfl hdX6_flies ⟨Nat.le_of_ble_eq_true rfl, Nat.le_of_ble_eq_true rfl⟩) hDi hK hP hNW hS hk0 rfSet_at.1 rfl rfl hl.1 rfl (Nat.le_of_ble_eq_true rfl) (by decide) (dk kX6_fly_ok 40 rfl) rfSet_rfSet (fun H locs hP hS => ?_)
          exact hret _ _ _ _ _ _ _ _ rfl (by simp (config := { decide := true }) only [dp, tF, gF, h1, h2, h3, (eq_true h4), bI_1, bI_00, not_true_eq_false, not_false_eq_true, and_true, true_and, and_false, false_and, or_true, true_or, or_false, false_or, and_self, or_self, if_true, if_false, Bool.false_eq_true, reduceIte]; first | done | exact ⟨rfl, rfl⟩ | (simp_all; done)) hP hS (by decide) (by decide) (dk kX6_fly_ok 41 rfl)
        · skip
          refine lv_aload_n hx hb (dk kX6_fly_ok 30 rfl) rfl (lv_at hl 0 rfl) ?_
          refine lv_iconst (v := nI 3) hx hb (dk kX6_fly_ok 31 rfl) rfl ?_
          refine cvD (As := [.int (nI 3)]) (rest := []) (rfSet cI ad F k r ps sl sd ne fa bu hs st ln pt (nI 3)) ⟨hx, hb, hml, hown, hts⟩ (tX6_fails l D cI cQ cL ad N (rfSet cI ad F k r ps sl sd ne fa bu hs st ln pt (nI 0)) k hk r ps sl sd ne fa bu hs st ln pt (nI 0) (rfSet_at) (nI 3)) (cwV9 1 hts mcX6_fails (ac20 _ (List.mem_of_getElem? (i := 15) rfl)) miX6_fails meX6_fails mini_RX6 rfl rfl hdX6_fails ⟨Nat.le_of_ble_eq_true rfl, Nat.le_of_ble_eq_true rfl⟩) hDi hK hP hNW hS hk0 rfSet_at.1 rfl rfl hl.1 rfl (Nat.le_of_ble_eq_true rfl) (by decide) (dk kX6_fly_ok 32 rfl) rfSet_rfSet (fun H locs hP hS => ?_)
          exact hret _ _ _ _ _ _ _ _ rfl (by simp (config := { decide := true }) only [dp, tF, gF, h1, h2, h3, (eq_false h4), bI_1, bI_00, not_true_eq_false, not_false_eq_true, and_true, true_and, and_false, false_and, or_true, true_or, or_false, false_or, and_self, or_self, if_true, if_false, Bool.false_eq_true, reduceIte]; first | done | exact ⟨rfl, rfl⟩ | (simp_all; done)) hP hS (by decide) (by decide) (dk kX6_fly_ok 33 rfl)
      · skip
        refine lv_aload_n hx hb (dk kX6_fly_ok 22 rfl) rfl (lv_at hl 0 rfl) ?_
        refine lv_iconst (v := nI 2) hx hb (dk kX6_fly_ok 23 rfl) rfl ?_
        refine cvD (As := [.int (nI 2)]) (rest := []) (rfSet cI ad F k r ps sl sd ne fa bu hs st ln pt (nI 2)) ⟨hx, hb, hml, hown, hts⟩ (tX6_fails l D cI cQ cL ad N (rfSet cI ad F k r ps sl sd ne fa bu hs st ln pt (nI 0)) k hk r ps sl sd ne fa bu hs st ln pt (nI 0) (rfSet_at) (nI 2)) (cwV9 1 hts mcX6_fails (ac20 _ (List.mem_of_getElem? (i := 15) rfl)) miX6_fails meX6_fails mini_RX6 rfl rfl hdX6_fails ⟨Nat.le_of_ble_eq_true rfl, Nat.le_of_ble_eq_true rfl⟩) hDi hK hP hNW hS hk0 rfSet_at.1 rfl rfl hl.1 rfl (Nat.le_of_ble_eq_true rfl) (by decide) (dk kX6_fly_ok 24 rfl) rfSet_rfSet (fun H locs hP hS => ?_)
        exact hret _ _ _ _ _ _ _ _ rfl (by simp (config := { decide := true }) only [dp, tF, gF, h1, h2, h3, bI_1, bI_00, not_true_eq_false, not_false_eq_true, and_true, true_and, and_false, false_and, or_true, true_or, or_false, false_or, and_self, or_self, if_true, if_false, Bool.false_eq_true, reduceIte]; first | done | exact ⟨rfl, rfl⟩ | (simp_all; done)) hP hS (by decide) (by decide) (dk kX6_fly_ok 25 rfl)
  · skip
    refine lv_aload_n hx hb (dk kX6_fly_ok 8 rfl) rfl (lv_at hl 0 rfl) ?_
    refine lv_iconst (v := nI 1) hx hb (dk kX6_fly_ok 9 rfl) rfl ?_
    refine cvD (As := [.int (nI 1)]) (rest := []) (rfSet cI ad F k r ps sl sd ne fa bu hs st ln pt (nI 1)) ⟨hx, hb, hml, hown, hts⟩ (tX6_fails l D cI cQ cL ad N (rfSet cI ad F k r ps sl sd ne fa bu hs st ln pt (nI 0)) k hk r ps sl sd ne fa bu hs st ln pt (nI 0) (rfSet_at) (nI 1)) (cwV9 1 hts mcX6_fails (ac20 _ (List.mem_of_getElem? (i := 15) rfl)) miX6_fails meX6_fails mini_RX6 rfl rfl hdX6_fails ⟨Nat.le_of_ble_eq_true rfl, Nat.le_of_ble_eq_true rfl⟩) hDi hK hP hNW hS hk0 rfSet_at.1 rfl rfl hl.1 rfl (Nat.le_of_ble_eq_true rfl) (by decide) (dk kX6_fly_ok 10 rfl) rfSet_rfSet (fun H locs hP hS => ?_)
    exact hret _ _ _ _ _ _ _ _ rfl (by simp (config := { decide := true }) only [dp, tF, gF, h1, bI_1, bI_00, not_true_eq_false, not_false_eq_true, and_true, true_and, and_false, false_and, or_true, true_or, or_false, false_or, and_self, or_self, if_true, if_false, Bool.false_eq_true, reduceIte]; first | done | exact ⟨rfl, rfl⟩ | (simp_all; done)) hP hS (by decide) (by decide) (dk kX6_fly_ok 11 rfl)
set_option maxRecDepth 100000 in
set_option maxHeartbeats 4000000 in
theorem tX6_lift (l : Launch) (D : va_G) (cI cQ cL : ClassId) (ad : Nat → Nat) (N : Nat) (F : Nat → va_E) (k : Nat) (hk : k + 7 < N) (r ps sl sd ne fa bu : Nat → Int32) (hs : Bool) (st ln pt : Nat) (th : Int32) (hR : rfAt cI ad F k r ps sl sd ne fa bu hs st ln pt th) (x y z z2 : Int32) (hst6 : st ≤ 6) (hrk : rok r) : MX l yX6_lift (Cond.code yX6_lift cX6_lift 5 (some .int) :: AW) ({ frames := 5, cells := 0, slots := 0, locals := 110 } : Room) D cI cQ cL ad N F [.ref (ad k), .int x, .int y, .int z, .int z2] (dp (some (.int (if gL r x y z z2 = true then nI (hgt r (nI (13 * ix y + ix x)) - ix z) else nI 0))) (rfSet cI ad F k (if gL r x y z z2 = true then rlx r (13 * ix y + ix x) (ix z) (ix z2) (ix (r 56)) else r) (if gL r x y z z2 = true then rcP ps r st else ps) sl sd ne fa bu hs (if gL r x y z z2 = true then rcS st else st) ln pt (tLi r x y z z2))) 0 0 := by
  refine mx_i (ty := .int) (by decide +kernel) rfl (Nat.le_of_ble_eq_true rfl) (fun p e s m below meth cd Q ls hx hb hml hown hts hDi hP hK hNW hS hret hl => ?_)
  have hown : s.vm.findClass RX6 = some m.cls := hown
  have hk0 : k < N := by omega
  have hk1 : k + 1 < N := by omega
  have hk2 : k + 2 < N := by omega
  have hk3 : k + 3 < N := by omega
  have hk4 : k + 4 < N := by omega
  have hk5 : k + 5 < N := by omega
  have hk6 : k + 6 < N := by omega
  have hk7 : k + 7 < N := by omega
  have hP : va_P D vwCl (iW ad N (rfSet cI ad F k r ps sl sd ne fa bu hs st ln pt th)) s.heap := by rw [rfSet_self hR]; exact hP
  have hl : lv_has ls 5 [(0, .ref (ad k)), (1, .int x), (2, .int y), (3, .int z), (4, .int z2)] := hl
  refine lv_aload_n hx hb (dk kX6_lift_ok 0 rfl) rfl (lv_at hl 0 rfl) ?_
  refine lv_iconst (v := nI 0) hx hb (dk kX6_lift_ok 1 rfl) rfl ?_
  refine pf (rfSet cI ad F k r ps sl sd ne fa bu hs st ln pt (nI 0)) hx hb hts (fun w h => List.mem_cons_of_mem _ (acX6 w h)) tyX6 tyX6_ok nmX6 hown hK hDi hP hS hk0 rfSet_at.1 rfl 11 (by decide) (hts _ (List.mem_cons_of_mem _ (ac18 _ (List.mem_of_getElem? (i := 4) rfl)))) (fun _ h => h) rfl (ty := .int) rfl rfl rfl (Nat.le_of_ble_eq_true rfl) (dk kX6_lift_ok 2 rfl) rfSet_u0 (fun H locs hP hS => ?_)
  refine lv_iload_n hx hb (dk kX6_lift_ok 3 rfl) rfl (lv_at hl 1 rfl) ?_
  refine lv_iconst (v := nI 0) hx hb (dk kX6_lift_ok 4 rfl) rfl ?_
  refine lv_bipush (v := nI 12) hx hb (dk kX6_lift_ok 5 rfl) rfl ?_
  refine csP (As := [.int x, .int (nI 0), .int (nI 12)]) (rest := []) ⟨hx, hb, hml, hown, hts⟩ (tX6_in l x (nI 0) (nI 12)) (cwS9 3 hts mcX6_in (ac19 _ (List.mem_of_getElem? (i := 12) rfl)) msX6_in mini_RX6 rfl rfl hdX6_in ⟨Nat.le_of_ble_eq_true rfl, Nat.le_of_ble_eq_true rfl⟩) rfl hl.1 rfl (Nat.le_of_ble_eq_true rfl) (by decide) (dk kX6_lift_ok 6 rfl) ?_
  refine b_if_eq (tgt := 25) hx hb (dk kX6_lift_ok 7 rfl) (by decide) (fun h1 => ?_) (fun h1 => ?_)
  · skip
    refine lv_aload_n hx hb (dk kX6_lift_ok 13 rfl) rfl (lv_at hl 0 rfl) ?_
    refine lv_iconst (v := nI 1) hx hb (dk kX6_lift_ok 14 rfl) rfl ?_
    refine cvD (As := [.int (nI 1)]) (rest := []) (rfSet cI ad F k r ps sl sd ne fa bu hs st ln pt (nI 1)) ⟨hx, hb, hml, hown, hts⟩ (tX6_fails l D cI cQ cL ad N (rfSet cI ad F k r ps sl sd ne fa bu hs st ln pt (nI 0)) k hk r ps sl sd ne fa bu hs st ln pt (nI 0) (rfSet_at) (nI 1)) (cwV9 1 hts mcX6_fails (ac20 _ (List.mem_of_getElem? (i := 15) rfl)) miX6_fails meX6_fails mini_RX6 rfl rfl hdX6_fails ⟨Nat.le_of_ble_eq_true rfl, Nat.le_of_ble_eq_true rfl⟩) hDi hK hP hNW hS hk0 rfSet_at.1 rfl rfl hl.1 rfl (Nat.le_of_ble_eq_true rfl) (by decide) (dk kX6_lift_ok 15 rfl) rfSet_rfSet (fun H locs hP hS => ?_)
    exact hret _ _ _ _ _ _ _ _ rfl (by simp (config := { decide := true }) only [dp, tLi, gL, h1, bI_1, bI_00, not_true_eq_false, not_false_eq_true, and_true, true_and, and_false, false_and, or_true, true_or, or_false, false_or, and_self, or_self, if_true, if_false, Bool.false_eq_true, reduceIte]; first | done | exact ⟨rfl, rfl⟩ | (simp_all; done)) hP hS (by decide) (by decide) (dk kX6_lift_ok 16 rfl)
  · skip
    refine lv_iload_n hx hb (dk kX6_lift_ok 8 rfl) rfl (lv_at hl 2 rfl) ?_
    refine lv_iconst (v := nI 0) hx hb (dk kX6_lift_ok 9 rfl) rfl ?_
    refine lv_bipush (v := nI 12) hx hb (dk kX6_lift_ok 10 rfl) rfl ?_
    refine csP (As := [.int y, .int (nI 0), .int (nI 12)]) (rest := []) ⟨hx, hb, hml, hown, hts⟩ (tX6_in l y (nI 0) (nI 12)) (cwS9 3 hts mcX6_in (ac19 _ (List.mem_of_getElem? (i := 12) rfl)) msX6_in mini_RX6 rfl rfl hdX6_in ⟨Nat.le_of_ble_eq_true rfl, Nat.le_of_ble_eq_true rfl⟩) rfl hl.1 rfl (Nat.le_of_ble_eq_true rfl) (by decide) (dk kX6_lift_ok 11 rfl) ?_
    refine b_if_ne (tgt := 31) hx hb (dk kX6_lift_ok 12 rfl) (by decide) (fun h2 => ?_) (fun h2 => ?_)
    · skip
      refine lv_iload_n hx hb (dk kX6_lift_ok 17 rfl) rfl (lv_at hl 3 rfl) ?_
      refine lv_iconst (v := nI 1) hx hb (dk kX6_lift_ok 18 rfl) rfl ?_
      refine lv_bipush (v := nI 6) hx hb (dk kX6_lift_ok 19 rfl) rfl ?_
      refine csP (As := [.int z, .int (nI 1), .int (nI 6)]) (rest := []) ⟨hx, hb, hml, hown, hts⟩ (tX6_in l z (nI 1) (nI 6)) (cwS9 3 hts mcX6_in (ac19 _ (List.mem_of_getElem? (i := 12) rfl)) msX6_in mini_RX6 rfl rfl hdX6_in ⟨Nat.le_of_ble_eq_true rfl, Nat.le_of_ble_eq_true rfl⟩) rfl hl.1 rfl (Nat.le_of_ble_eq_true rfl) (by decide) (dk kX6_lift_ok 20 rfl) ?_
      refine b_if_eq (tgt := 52) hx hb (dk kX6_lift_ok 21 rfl) (by decide) (fun h3 => ?_) (fun h3 => ?_)
      · skip
        refine lv_aload_n hx hb (dk kX6_lift_ok 27 rfl) rfl (lv_at hl 0 rfl) ?_
        refine lv_iconst (v := nI 2) hx hb (dk kX6_lift_ok 28 rfl) rfl ?_
        refine cvD (As := [.int (nI 2)]) (rest := []) (rfSet cI ad F k r ps sl sd ne fa bu hs st ln pt (nI 2)) ⟨hx, hb, hml, hown, hts⟩ (tX6_fails l D cI cQ cL ad N (rfSet cI ad F k r ps sl sd ne fa bu hs st ln pt (nI 0)) k hk r ps sl sd ne fa bu hs st ln pt (nI 0) (rfSet_at) (nI 2)) (cwV9 1 hts mcX6_fails (ac20 _ (List.mem_of_getElem? (i := 15) rfl)) miX6_fails meX6_fails mini_RX6 rfl rfl hdX6_fails ⟨Nat.le_of_ble_eq_true rfl, Nat.le_of_ble_eq_true rfl⟩) hDi hK hP hNW hS hk0 rfSet_at.1 rfl rfl hl.1 rfl (Nat.le_of_ble_eq_true rfl) (by decide) (dk kX6_lift_ok 29 rfl) rfSet_rfSet (fun H locs hP hS => ?_)
        exact hret _ _ _ _ _ _ _ _ rfl (by simp (config := { decide := true }) only [dp, tLi, gL, h1, h2, h3, bI_1, bI_00, not_true_eq_false, not_false_eq_true, and_true, true_and, and_false, false_and, or_true, true_or, or_false, false_or, and_self, or_self, if_true, if_false, Bool.false_eq_true, reduceIte]; first | done | exact ⟨rfl, rfl⟩ | (simp_all; done)) hP hS (by decide) (by decide) (dk kX6_lift_ok 30 rfl)
      · skip
        refine lv_iload hx hb (dk kX6_lift_ok 22 rfl) (lv_at hl 4 rfl) ?_
        refine lv_iconst (v := nI 0) hx hb (dk kX6_lift_ok 23 rfl) rfl ?_
        refine lv_bipush (v := nI 7) hx hb (dk kX6_lift_ok 24 rfl) rfl ?_
        refine csP (As := [.int z2, .int (nI 0), .int (nI 7)]) (rest := []) ⟨hx, hb, hml, hown, hts⟩ (tX6_in l z2 (nI 0) (nI 7)) (cwS9 3 hts mcX6_in (ac19 _ (List.mem_of_getElem? (i := 12) rfl)) msX6_in mini_RX6 rfl rfl hdX6_in ⟨Nat.le_of_ble_eq_true rfl, Nat.le_of_ble_eq_true rfl⟩) rfl hl.1 rfl (Nat.le_of_ble_eq_true rfl) (by decide) (dk kX6_lift_ok 25 rfl) ?_
        refine b_if_ne (tgt := 58) hx hb (dk kX6_lift_ok 26 rfl) (by decide) (fun h4 => ?_) (fun h4 => ?_)
        · skip
          refine lv_aload_n hx hb (dk kX6_lift_ok 31 rfl) rfl (lv_at hl 0 rfl) ?_
          refine lv_bipush (v := nI 13) hx hb (dk kX6_lift_ok 32 rfl) rfl ?_
          refine lv_iload_n hx hb (dk kX6_lift_ok 33 rfl) rfl (lv_at hl 2 rfl) ?_
          refine lv_imul hx hb (dk kX6_lift_ok 34 rfl) ?_
          refine lv_iload_n hx hb (dk kX6_lift_ok 35 rfl) rfl (lv_at hl 1 rfl) ?_
          refine lv_iadd hx hb (dk kX6_lift_ok 36 rfl) ?_
          refine lv_iload_n hx hb (dk kX6_lift_ok 37 rfl) rfl (lv_at hl 3 rfl) ?_
          refine lv_iload hx hb (dk kX6_lift_ok 38 rfl) (lv_at hl 4 rfl) ?_
          refine cvR (As := [.int (((nI 13) * y) + x), .int z, .int z2]) (rest := []) ⟨hx, hb, hml, hown, hts⟩ (tX6_whyNotLifted l D cI cQ cL ad N (rfSet cI ad F k r ps sl sd ne fa bu hs st ln pt (nI 0)) k hk r ps sl sd ne fa bu hs st ln pt (nI 0) (rfSet_at) (((nI 13) * y) + x) (13 * ix y + ix x) (cell_eq h2 h1) (cell_lt h2 h1) z (ix z) (btw_eq h3) (by have := btw_le h3; omega) z2 (ix z2) (btw_eq h4) (by have := btw_le h4; omega)) (cwV9 3 hts mcX6_whyNotLifted (ac21 _ (List.mem_of_getElem? (i := 7) rfl)) miX6_whyNotLifted meX6_whyNotLifted mini_RX6 rfl rfl hdX6_whyNotLifted ⟨Nat.le_of_ble_eq_true rfl, Nat.le_of_ble_eq_true rfl⟩) hK hP hNW hk0 rfSet_at.1 rfl rfl hl.1 rfl (Nat.le_of_ble_eq_true rfl) (by decide) (dk kX6_lift_ok 39 rfl) ?_
          refine n_if_eq (tgt := 80) hx hb (by have q1 := rwl_le r (13 * ix y + ix x) (ix z) (ix z2); omega) (dk kX6_lift_ok 40 rfl) (by decide) (fun h5 => ?_) (fun h5 => ?_)
          · skip
            refine lv_aload_n hx hb (dk kX6_lift_ok 45 rfl) rfl (lv_at hl 0 rfl) ?_
            refine cvDv (As := []) (rest := []) (rfSet cI ad F k r (rcP ps r st) sl sd ne fa bu hs (rcS st) ln pt (nI 0)) ⟨hx, hb, hml, hown, hts⟩ (tX6_record l D cI cQ cL ad N (rfSet cI ad F k r ps sl sd ne fa bu hs st ln pt (nI 0)) k hk r ps sl sd ne fa bu hs st ln pt (nI 0) (rfSet_at) hst6) (cwV9 0 hts mcX6_record (ac20 _ (List.mem_of_getElem? (i := 23) rfl)) miX6_record meX6_record mini_RX6 rfl rfl hdX6_record ⟨Nat.le_of_ble_eq_true rfl, Nat.le_of_ble_eq_true rfl⟩) hDi hK hP hNW hS hk0 rfSet_at.1 rfl rfl hl.1 rfl (Nat.le_of_ble_eq_true rfl) (by decide) (dk kX6_lift_ok 46 rfl) rfSet_rfSet (fun H locs hP hS => ?_)
            refine lv_aload_n hx hb (dk kX6_lift_ok 47 rfl) rfl (lv_at hl 0 rfl) ?_
            refine lv_bipush (v := nI 13) hx hb (dk kX6_lift_ok 48 rfl) rfl ?_
            refine lv_iload_n hx hb (dk kX6_lift_ok 49 rfl) rfl (lv_at hl 2 rfl) ?_
            refine lv_imul hx hb (dk kX6_lift_ok 50 rfl) ?_
            refine lv_iload_n hx hb (dk kX6_lift_ok 51 rfl) rfl (lv_at hl 1 rfl) ?_
            refine lv_iadd hx hb (dk kX6_lift_ok 52 rfl) ?_
            refine lv_iload_n hx hb (dk kX6_lift_ok 53 rfl) rfl (lv_at hl 3 rfl) ?_
            refine lv_iload hx hb (dk kX6_lift_ok 54 rfl) (lv_at hl 4 rfl) ?_
            refine cvD (As := [.int (((nI 13) * y) + x), .int z, .int z2]) (rest := []) (rfSet cI ad F k (rlx r (13 * ix y + ix x) (ix z) (ix z2) (ix (r 56))) (rcP ps r st) sl sd ne fa bu hs (rcS st) ln pt (nI 0)) ⟨hx, hb, hml, hown, hts⟩ (tX6_lifts l D cI cQ cL ad N (rfSet cI ad F k r (rcP ps r st) sl sd ne fa bu hs (rcS st) ln pt (nI 0)) k hk r (rcP ps r st) sl sd ne fa bu hs (rcS st) ln pt (nI 0) (rfSet_at) (((nI 13) * y) + x) (13 * ix y + ix x) (cell_eq h2 h1) (cell_lt h2 h1) z (ix z) (btw_eq h3) (by have := btw_le h3; omega) z2 (ix z2) (btw_eq h4) (by have := btw_le h4; omega) (rwl_0 h5) (hrk.2.2.2.2 _ _ _ (by have bh1 := btw_le h1; have bh2 := btw_le h2; have bh3 := btw_le h3; have bh4 := btw_le h4; omega) (by have bh1 := btw_le h1; have bh2 := btw_le h2; have bh3 := btw_le h3; have bh4 := btw_le h4; omega) (by have bh1 := btw_le h1; have bh2 := btw_le h2; have bh3 := btw_le h3; have bh4 := btw_le h4; omega) (by have bh1 := btw_le h1; have bh2 := btw_le h2; have bh3 := btw_le h3; have bh4 := btw_le h4; omega) h5) (ix (r 56)) hrk.1.1 hrk.1.2 hrk.2.1) (cwV9 3 hts mcX6_lifts (ac21 _ (List.mem_of_getElem? (i := 11) rfl)) miX6_lifts meX6_lifts mini_RX6 rfl rfl hdX6_lifts ⟨Nat.le_of_ble_eq_true rfl, Nat.le_of_ble_eq_true rfl⟩) hDi hK hP hNW hS hk0 rfSet_at.1 rfl rfl hl.1 rfl (Nat.le_of_ble_eq_true rfl) (by decide) (dk kX6_lift_ok 55 rfl) rfSet_rfSet (fun H locs hP hS => ?_)
            exact hret _ _ _ _ _ _ _ _ rfl (by simp (config := { decide := true }) only [dp, tLi, gL, h1, h2, h3, h4, (eq_true h5), bI_1, bI_00, not_true_eq_false, not_false_eq_true, and_true, true_and, and_false, false_and, or_true, true_or, or_false, false_or, and_self, or_self, if_true, if_false, Bool.false_eq_true, reduceIte]; first | done | exact ⟨rfl, rfl⟩ | (simp_all; done)) hP hS (by decide) (by decide) (dk kX6_lift_ok 56 rfl)
          · skip
            refine lv_aload_n hx hb (dk kX6_lift_ok 41 rfl) rfl (lv_at hl 0 rfl) ?_
            refine lv_iconst (v := nI 3) hx hb (dk kX6_lift_ok 42 rfl) rfl ?_
            refine cvD (As := [.int (nI 3)]) (rest := []) (rfSet cI ad F k r ps sl sd ne fa bu hs st ln pt (nI 3)) ⟨hx, hb, hml, hown, hts⟩ (tX6_fails l D cI cQ cL ad N (rfSet cI ad F k r ps sl sd ne fa bu hs st ln pt (nI 0)) k hk r ps sl sd ne fa bu hs st ln pt (nI 0) (rfSet_at) (nI 3)) (cwV9 1 hts mcX6_fails (ac20 _ (List.mem_of_getElem? (i := 15) rfl)) miX6_fails meX6_fails mini_RX6 rfl rfl hdX6_fails ⟨Nat.le_of_ble_eq_true rfl, Nat.le_of_ble_eq_true rfl⟩) hDi hK hP hNW hS hk0 rfSet_at.1 rfl rfl hl.1 rfl (Nat.le_of_ble_eq_true rfl) (by decide) (dk kX6_lift_ok 43 rfl) rfSet_rfSet (fun H locs hP hS => ?_)
            exact hret _ _ _ _ _ _ _ _ rfl (by simp (config := { decide := true }) only [dp, tLi, gL, h1, h2, h3, h4, (eq_false h5), bI_1, bI_00, not_true_eq_false, not_false_eq_true, and_true, true_and, and_false, false_and, or_true, true_or, or_false, false_or, and_self, or_self, if_true, if_false, Bool.false_eq_true, reduceIte]; first | done | exact ⟨rfl, rfl⟩ | (simp_all; done)) hP hS (by decide) (by decide) (dk kX6_lift_ok 44 rfl)
        · skip
          refine lv_aload_n hx hb (dk kX6_lift_ok 27 rfl) rfl (lv_at hl 0 rfl) ?_
          refine lv_iconst (v := nI 2) hx hb (dk kX6_lift_ok 28 rfl) rfl ?_
          refine cvD (As := [.int (nI 2)]) (rest := []) (rfSet cI ad F k r ps sl sd ne fa bu hs st ln pt (nI 2)) ⟨hx, hb, hml, hown, hts⟩ (tX6_fails l D cI cQ cL ad N (rfSet cI ad F k r ps sl sd ne fa bu hs st ln pt (nI 0)) k hk r ps sl sd ne fa bu hs st ln pt (nI 0) (rfSet_at) (nI 2)) (cwV9 1 hts mcX6_fails (ac20 _ (List.mem_of_getElem? (i := 15) rfl)) miX6_fails meX6_fails mini_RX6 rfl rfl hdX6_fails ⟨Nat.le_of_ble_eq_true rfl, Nat.le_of_ble_eq_true rfl⟩) hDi hK hP hNW hS hk0 rfSet_at.1 rfl rfl hl.1 rfl (Nat.le_of_ble_eq_true rfl) (by decide) (dk kX6_lift_ok 29 rfl) rfSet_rfSet (fun H locs hP hS => ?_)
          exact hret _ _ _ _ _ _ _ _ rfl (by simp (config := { decide := true }) only [dp, tLi, gL, h1, h2, h3, h4, bI_1, bI_00, not_true_eq_false, not_false_eq_true, and_true, true_and, and_false, false_and, or_true, true_or, or_false, false_or, and_self, or_self, if_true, if_false, Bool.false_eq_true, reduceIte]; first | done | exact ⟨rfl, rfl⟩ | (simp_all; done)) hP hS (by decide) (by decide) (dk kX6_lift_ok 30 rfl)
    · skip
      refine lv_aload_n hx hb (dk kX6_lift_ok 13 rfl) rfl (lv_at hl 0 rfl) ?_
      refine lv_iconst (v := nI 1) hx hb (dk kX6_lift_ok 14 rfl) rfl ?_
      refine cvD (As := [.int (nI 1)]) (rest := []) (rfSet cI ad F k r ps sl sd ne fa bu hs st ln pt (nI 1)) ⟨hx, hb, hml, hown, hts⟩ (tX6_fails l D cI cQ cL ad N (rfSet cI ad F k r ps sl sd ne fa bu hs st ln pt (nI 0)) k hk r ps sl sd ne fa bu hs st ln pt (nI 0) (rfSet_at) (nI 1)) (cwV9 1 hts mcX6_fails (ac20 _ (List.mem_of_getElem? (i := 15) rfl)) miX6_fails meX6_fails mini_RX6 rfl rfl hdX6_fails ⟨Nat.le_of_ble_eq_true rfl, Nat.le_of_ble_eq_true rfl⟩) hDi hK hP hNW hS hk0 rfSet_at.1 rfl rfl hl.1 rfl (Nat.le_of_ble_eq_true rfl) (by decide) (dk kX6_lift_ok 15 rfl) rfSet_rfSet (fun H locs hP hS => ?_)
      exact hret _ _ _ _ _ _ _ _ rfl (by simp (config := { decide := true }) only [dp, tLi, gL, h1, h2, bI_1, bI_00, not_true_eq_false, not_false_eq_true, and_true, true_and, and_false, false_and, or_true, true_or, or_false, false_or, and_self, or_self, if_true, if_false, Bool.false_eq_true, reduceIte]; first | done | exact ⟨rfl, rfl⟩ | (simp_all; done)) hP hS (by decide) (by decide) (dk kX6_lift_ok 16 rfl)
set_option maxRecDepth 100000 in
set_option maxHeartbeats 4000000 in
theorem tX6_set (l : Launch) (D : va_G) (cI cQ cL : ClassId) (ad : Nat → Nat) (N : Nat) (F : Nat → va_E) (k : Nat) (hk : k + 7 < N) (r ps sl sd ne fa bu : Nat → Int32) (hs : Bool) (st ln pt : Nat) (th : Int32) (hR : rfAt cI ad F k r ps sl sd ne fa bu hs st ln pt th) (x : Int32) (hst6 : st ≤ 6) : MX l yX6_set (Cond.code yX6_set cX6_set 3 (some .int) :: AW) ({ frames := 1, cells := 0, slots := 0, locals := 22 } : Room) D cI cQ cL ad N F [.ref (ad k), .int x] (dp (some (.int (if gS x = true then r 57 else nI 0))) (rfSet cI ad F k (if gS x = true then upd r 57 x else r) (if gS x = true then rcP ps r st else ps) sl sd ne fa bu hs (if gS x = true then rcS st else st) ln pt (if gS x = true then nI 0 else nI 1))) 0 0 := by
  refine mx_i (ty := .int) (by decide +kernel) rfl (Nat.le_of_ble_eq_true rfl) (fun p e s m below meth cd Q ls hx hb hml hown hts hDi hP hK hNW hS hret hl => ?_)
  have hown : s.vm.findClass RX6 = some m.cls := hown
  have hk0 : k < N := by omega
  have hk1 : k + 1 < N := by omega
  have hk2 : k + 2 < N := by omega
  have hk3 : k + 3 < N := by omega
  have hk4 : k + 4 < N := by omega
  have hk5 : k + 5 < N := by omega
  have hk6 : k + 6 < N := by omega
  have hk7 : k + 7 < N := by omega
  have hP : va_P D vwCl (iW ad N (rfSet cI ad F k r ps sl sd ne fa bu hs st ln pt th)) s.heap := by rw [rfSet_self hR]; exact hP
  have hl : lv_has ls 3 [(0, .ref (ad k)), (1, .int x)] := hl
  refine lv_aload_n hx hb (dk kX6_set_ok 0 rfl) rfl (lv_at hl 0 rfl) ?_
  refine lv_iconst (v := nI 0) hx hb (dk kX6_set_ok 1 rfl) rfl ?_
  refine pf (rfSet cI ad F k r ps sl sd ne fa bu hs st ln pt (nI 0)) hx hb hts (fun w h => List.mem_cons_of_mem _ (acX6 w h)) tyX6 tyX6_ok nmX6 hown hK hDi hP hS hk0 rfSet_at.1 rfl 11 (by decide) (hts _ (List.mem_cons_of_mem _ (ac18 _ (List.mem_of_getElem? (i := 4) rfl)))) (fun _ h => h) rfl (ty := .int) rfl rfl rfl (Nat.le_of_ble_eq_true rfl) (dk kX6_set_ok 2 rfl) rfSet_u0 (fun H locs hP hS => ?_)
  refine lv_iload_n hx hb (dk kX6_set_ok 3 rfl) rfl (lv_at hl 1 rfl) ?_
  refine lv_iconst (v := nI 1) hx hb (dk kX6_set_ok 4 rfl) rfl ?_
  refine lv_bipush (v := nI 6) hx hb (dk kX6_set_ok 5 rfl) rfl ?_
  refine csP (As := [.int x, .int (nI 1), .int (nI 6)]) (rest := []) ⟨hx, hb, hml, hown, hts⟩ (tX6_in l x (nI 1) (nI 6)) (cwS9 3 hts mcX6_in (ac19 _ (List.mem_of_getElem? (i := 12) rfl)) msX6_in mini_RX6 rfl rfl hdX6_in ⟨Nat.le_of_ble_eq_true rfl, Nat.le_of_ble_eq_true rfl⟩) rfl hl.1 rfl (Nat.le_of_ble_eq_true rfl) (by decide) (dk kX6_set_ok 6 rfl) ?_
  refine b_if_ne (tgt := 21) hx hb (dk kX6_set_ok 7 rfl) (by decide) (fun h1 => ?_) (fun h1 => ?_)
  · skip
    refine lv_aload_n hx hb (dk kX6_set_ok 12 rfl) rfl (lv_at hl 0 rfl) ?_
    refine cvDv (As := []) (rest := []) (rfSet cI ad F k r (rcP ps r st) sl sd ne fa bu hs (rcS st) ln pt (nI 0)) ⟨hx, hb, hml, hown, hts⟩ (tX6_record l D cI cQ cL ad N (rfSet cI ad F k r ps sl sd ne fa bu hs st ln pt (nI 0)) k hk r ps sl sd ne fa bu hs st ln pt (nI 0) (rfSet_at) hst6) (cwV9 0 hts mcX6_record (ac20 _ (List.mem_of_getElem? (i := 23) rfl)) miX6_record meX6_record mini_RX6 rfl rfl hdX6_record ⟨Nat.le_of_ble_eq_true rfl, Nat.le_of_ble_eq_true rfl⟩) hDi hK hP hNW hS hk0 rfSet_at.1 rfl rfl hl.1 rfl (Nat.le_of_ble_eq_true rfl) (by decide) (dk kX6_set_ok 13 rfl) rfSet_rfSet (fun H locs hP hS => ?_)
    refine lv_aload_n hx hb (dk kX6_set_ok 14 rfl) rfl (lv_at hl 0 rfl) ?_
    refine gf hx hb hts (fun w h => List.mem_cons_of_mem _ (acX6 w h)) hown hK hP hk0 rfSet_at.1 rfl 0 (by decide) (hts _ (List.mem_cons_of_mem _ (ac17 _ (List.mem_of_getElem? (i := 17) rfl)))) (fun _ h => h) rfl (dk kX6_set_ok 15 rfl) ?_
    refine lv_bipush (v := nI 57) hx hb (dk kX6_set_ok 16 rfl) rfl ?_
    refine ald (j := 57) hx hb hK hP hk1 rfSet_at.2.1 rfl (by omega) (by decide) (dk kX6_set_ok 17 rfl) ?_
    refine lv_istore_n (lv' := [(2, .int (r 57)), (0, .ref (ad k)), (1, .int x)]) hx hb (dk kX6_set_ok 18 rfl) rfl hl (by decide) rfl (fun ls hl => ?_)
    refine lv_aload_n hx hb (dk kX6_set_ok 19 rfl) rfl (lv_at hl 1 rfl) ?_
    refine gf hx hb hts (fun w h => List.mem_cons_of_mem _ (acX6 w h)) hown hK hP hk0 rfSet_at.1 rfl 0 (by decide) (hts _ (List.mem_cons_of_mem _ (ac17 _ (List.mem_of_getElem? (i := 17) rfl)))) (fun _ h => h) rfl (dk kX6_set_ok 20 rfl) ?_
    refine lv_bipush (v := nI 57) hx hb (dk kX6_set_ok 21 rfl) rfl ?_
    refine lv_iload_n hx hb (dk kX6_set_ok 22 rfl) rfl (lv_at hl 2 rfl) ?_
    refine ast (rfSet cI ad F k (upd r 57 x) (rcP ps r st) sl sd ne fa bu hs (rcS st) ln pt (nI 0)) (j := 57) hx hb hK hDi hP hS hk1 rfSet_at.2.1 rfl (by omega) (by decide) (dk kX6_set_ok 23 rfl) rfSet_u1 (fun H locs hP hS => ?_)
    refine lv_iload_n hx hb (dk kX6_set_ok 24 rfl) rfl (lv_at hl 0 rfl) ?_
    exact hret _ _ _ _ _ _ _ _ rfl (by simp (config := { decide := true }) only [dp, gS, h1, bI_1, bI_00, not_true_eq_false, not_false_eq_true, and_true, true_and, and_false, false_and, or_true, true_or, or_false, false_or, and_self, or_self, if_true, if_false, Bool.false_eq_true, reduceIte]; first | done | exact ⟨rfl, rfl⟩ | (simp_all; done)) hP hS (by decide) (by decide) (dk kX6_set_ok 25 rfl)
  · skip
    refine lv_aload_n hx hb (dk kX6_set_ok 8 rfl) rfl (lv_at hl 0 rfl) ?_
    refine lv_iconst (v := nI 1) hx hb (dk kX6_set_ok 9 rfl) rfl ?_
    refine cvD (As := [.int (nI 1)]) (rest := []) (rfSet cI ad F k r ps sl sd ne fa bu hs st ln pt (nI 1)) ⟨hx, hb, hml, hown, hts⟩ (tX6_fails l D cI cQ cL ad N (rfSet cI ad F k r ps sl sd ne fa bu hs st ln pt (nI 0)) k hk r ps sl sd ne fa bu hs st ln pt (nI 0) (rfSet_at) (nI 1)) (cwV9 1 hts mcX6_fails (ac20 _ (List.mem_of_getElem? (i := 15) rfl)) miX6_fails meX6_fails mini_RX6 rfl rfl hdX6_fails ⟨Nat.le_of_ble_eq_true rfl, Nat.le_of_ble_eq_true rfl⟩) hDi hK hP hNW hS hk0 rfSet_at.1 rfl rfl hl.1 rfl (Nat.le_of_ble_eq_true rfl) (by decide) (dk kX6_set_ok 10 rfl) rfSet_rfSet (fun H locs hP hS => ?_)
    exact hret _ _ _ _ _ _ _ _ rfl (by simp (config := { decide := true }) only [dp, gS, h1, bI_1, bI_00, not_true_eq_false, not_false_eq_true, and_true, true_and, and_false, false_and, or_true, true_or, or_false, false_or, and_self, or_self, if_true, if_false, Bool.false_eq_true, reduceIte]; first | done | exact ⟨rfl, rfl⟩ | (simp_all; done)) hP hS (by decide) (by decide) (dk kX6_set_ok 11 rfl)
set_option maxRecDepth 100000 in
set_option maxHeartbeats 4000000 in
theorem tX6_put (l : Launch) (D : va_G) (cI cQ cL : ClassId) (ad : Nat → Nat) (N : Nat) (F : Nat → va_E) (k : Nat) (hk : k + 7 < N) (r ps sl sd ne fa bu : Nat → Int32) (hs : Bool) (st ln pt : Nat) (th : Int32) (hR : rfAt cI ad F k r ps sl sd ne fa bu hs st ln pt th) (x y z : Int32) (hst6 : st ≤ 6) : MX l yX6_put (Cond.code yX6_put cX6_put 4 (some .int) :: AW) ({ frames := 3, cells := 0, slots := 0, locals := 64 } : Room) D cI cQ cL ad N F [.ref (ad k), .int x, .int y, .int z] (dp (some (.int (if gP r x y z = true then nI (hgt (rly r (ix x) (nI 13 * z + y)) (nI 13 * z + y)) else nI 0))) (rfSet cI ad F k (if gP r x y z = true then rly r (ix x) (nI 13 * z + y) else r) (if gP r x y z = true then rcP ps r st else ps) sl sd ne fa bu hs (if gP r x y z = true then rcS st else st) ln pt (tPu r x y z))) 0 0 := by
  refine mx_i (ty := .int) (by decide +kernel) rfl (Nat.le_of_ble_eq_true rfl) (fun p e s m below meth cd Q ls hx hb hml hown hts hDi hP hK hNW hS hret hl => ?_)
  have hown : s.vm.findClass RX6 = some m.cls := hown
  have hk0 : k < N := by omega
  have hk1 : k + 1 < N := by omega
  have hk2 : k + 2 < N := by omega
  have hk3 : k + 3 < N := by omega
  have hk4 : k + 4 < N := by omega
  have hk5 : k + 5 < N := by omega
  have hk6 : k + 6 < N := by omega
  have hk7 : k + 7 < N := by omega
  have hP : va_P D vwCl (iW ad N (rfSet cI ad F k r ps sl sd ne fa bu hs st ln pt th)) s.heap := by rw [rfSet_self hR]; exact hP
  have hl : lv_has ls 4 [(0, .ref (ad k)), (1, .int x), (2, .int y), (3, .int z)] := hl
  refine lv_aload_n hx hb (dk kX6_put_ok 0 rfl) rfl (lv_at hl 0 rfl) ?_
  refine lv_iconst (v := nI 0) hx hb (dk kX6_put_ok 1 rfl) rfl ?_
  refine pf (rfSet cI ad F k r ps sl sd ne fa bu hs st ln pt (nI 0)) hx hb hts (fun w h => List.mem_cons_of_mem _ (acX6 w h)) tyX6 tyX6_ok nmX6 hown hK hDi hP hS hk0 rfSet_at.1 rfl 11 (by decide) (hts _ (List.mem_cons_of_mem _ (ac18 _ (List.mem_of_getElem? (i := 4) rfl)))) (fun _ h => h) rfl (ty := .int) rfl rfl rfl (Nat.le_of_ble_eq_true rfl) (dk kX6_put_ok 2 rfl) rfSet_u0 (fun H locs hP hS => ?_)
  refine lv_iload_n hx hb (dk kX6_put_ok 3 rfl) rfl (lv_at hl 1 rfl) ?_
  refine lv_iconst (v := nI 0) hx hb (dk kX6_put_ok 4 rfl) rfl ?_
  refine lv_bipush (v := nI 15) hx hb (dk kX6_put_ok 5 rfl) rfl ?_
  refine csP (As := [.int x, .int (nI 0), .int (nI 15)]) (rest := []) ⟨hx, hb, hml, hown, hts⟩ (tX6_in l x (nI 0) (nI 15)) (cwS9 3 hts mcX6_in (ac19 _ (List.mem_of_getElem? (i := 12) rfl)) msX6_in mini_RX6 rfl rfl hdX6_in ⟨Nat.le_of_ble_eq_true rfl, Nat.le_of_ble_eq_true rfl⟩) rfl hl.1 rfl (Nat.le_of_ble_eq_true rfl) (by decide) (dk kX6_put_ok 6 rfl) ?_
  refine b_if_eq (tgt := 35) hx hb (dk kX6_put_ok 7 rfl) (by decide) (fun h1 => ?_) (fun h1 => ?_)
  · skip
    refine lv_aload_n hx hb (dk kX6_put_ok 18 rfl) rfl (lv_at hl 0 rfl) ?_
    refine lv_iconst (v := nI 1) hx hb (dk kX6_put_ok 19 rfl) rfl ?_
    refine cvD (As := [.int (nI 1)]) (rest := []) (rfSet cI ad F k r ps sl sd ne fa bu hs st ln pt (nI 1)) ⟨hx, hb, hml, hown, hts⟩ (tX6_fails l D cI cQ cL ad N (rfSet cI ad F k r ps sl sd ne fa bu hs st ln pt (nI 0)) k hk r ps sl sd ne fa bu hs st ln pt (nI 0) (rfSet_at) (nI 1)) (cwV9 1 hts mcX6_fails (ac20 _ (List.mem_of_getElem? (i := 15) rfl)) miX6_fails meX6_fails mini_RX6 rfl rfl hdX6_fails ⟨Nat.le_of_ble_eq_true rfl, Nat.le_of_ble_eq_true rfl⟩) hDi hK hP hNW hS hk0 rfSet_at.1 rfl rfl hl.1 rfl (Nat.le_of_ble_eq_true rfl) (by decide) (dk kX6_put_ok 20 rfl) rfSet_rfSet (fun H locs hP hS => ?_)
    exact hret _ _ _ _ _ _ _ _ rfl (by simp (config := { decide := true }) only [dp, tPu, gP, h1, bI_1, bI_00, not_true_eq_false, not_false_eq_true, and_true, true_and, and_false, false_and, or_true, true_or, or_false, false_or, and_self, or_self, if_true, if_false, Bool.false_eq_true, reduceIte]; first | done | exact ⟨rfl, rfl⟩ | (simp_all; done)) hP hS (by decide) (by decide) (dk kX6_put_ok 21 rfl)
  · skip
    refine lv_iload_n hx hb (dk kX6_put_ok 8 rfl) rfl (lv_at hl 2 rfl) ?_
    refine lv_iconst (v := nI 0) hx hb (dk kX6_put_ok 9 rfl) rfl ?_
    refine lv_bipush (v := nI 12) hx hb (dk kX6_put_ok 10 rfl) rfl ?_
    refine csP (As := [.int y, .int (nI 0), .int (nI 12)]) (rest := []) ⟨hx, hb, hml, hown, hts⟩ (tX6_in l y (nI 0) (nI 12)) (cwS9 3 hts mcX6_in (ac19 _ (List.mem_of_getElem? (i := 12) rfl)) msX6_in mini_RX6 rfl rfl hdX6_in ⟨Nat.le_of_ble_eq_true rfl, Nat.le_of_ble_eq_true rfl⟩) rfl hl.1 rfl (Nat.le_of_ble_eq_true rfl) (by decide) (dk kX6_put_ok 11 rfl) ?_
    refine b_if_eq (tgt := 35) hx hb (dk kX6_put_ok 12 rfl) (by decide) (fun h2 => ?_) (fun h2 => ?_)
    · skip
      refine lv_aload_n hx hb (dk kX6_put_ok 18 rfl) rfl (lv_at hl 0 rfl) ?_
      refine lv_iconst (v := nI 1) hx hb (dk kX6_put_ok 19 rfl) rfl ?_
      refine cvD (As := [.int (nI 1)]) (rest := []) (rfSet cI ad F k r ps sl sd ne fa bu hs st ln pt (nI 1)) ⟨hx, hb, hml, hown, hts⟩ (tX6_fails l D cI cQ cL ad N (rfSet cI ad F k r ps sl sd ne fa bu hs st ln pt (nI 0)) k hk r ps sl sd ne fa bu hs st ln pt (nI 0) (rfSet_at) (nI 1)) (cwV9 1 hts mcX6_fails (ac20 _ (List.mem_of_getElem? (i := 15) rfl)) miX6_fails meX6_fails mini_RX6 rfl rfl hdX6_fails ⟨Nat.le_of_ble_eq_true rfl, Nat.le_of_ble_eq_true rfl⟩) hDi hK hP hNW hS hk0 rfSet_at.1 rfl rfl hl.1 rfl (Nat.le_of_ble_eq_true rfl) (by decide) (dk kX6_put_ok 20 rfl) rfSet_rfSet (fun H locs hP hS => ?_)
      exact hret _ _ _ _ _ _ _ _ rfl (by simp (config := { decide := true }) only [dp, tPu, gP, h1, h2, bI_1, bI_00, not_true_eq_false, not_false_eq_true, and_true, true_and, and_false, false_and, or_true, true_or, or_false, false_or, and_self, or_self, if_true, if_false, Bool.false_eq_true, reduceIte]; first | done | exact ⟨rfl, rfl⟩ | (simp_all; done)) hP hS (by decide) (by decide) (dk kX6_put_ok 21 rfl)
    · skip
      refine lv_iload_n hx hb (dk kX6_put_ok 13 rfl) rfl (lv_at hl 3 rfl) ?_
      refine lv_iconst (v := nI 0) hx hb (dk kX6_put_ok 14 rfl) rfl ?_
      refine lv_bipush (v := nI 12) hx hb (dk kX6_put_ok 15 rfl) rfl ?_
      refine csP (As := [.int z, .int (nI 0), .int (nI 12)]) (rest := []) ⟨hx, hb, hml, hown, hts⟩ (tX6_in l z (nI 0) (nI 12)) (cwS9 3 hts mcX6_in (ac19 _ (List.mem_of_getElem? (i := 12) rfl)) msX6_in mini_RX6 rfl rfl hdX6_in ⟨Nat.le_of_ble_eq_true rfl, Nat.le_of_ble_eq_true rfl⟩) rfl hl.1 rfl (Nat.le_of_ble_eq_true rfl) (by decide) (dk kX6_put_ok 16 rfl) ?_
      refine b_if_ne (tgt := 41) hx hb (dk kX6_put_ok 17 rfl) (by decide) (fun h3 => ?_) (fun h3 => ?_)
      · skip
        refine lv_aload_n hx hb (dk kX6_put_ok 22 rfl) rfl (lv_at hl 0 rfl) ?_
        refine cvR (As := []) (rest := []) ⟨hx, hb, hml, hown, hts⟩ (tX6_isOver l D cI cQ cL ad N (rfSet cI ad F k r ps sl sd ne fa bu hs st ln pt (nI 0)) k hk r ps sl sd ne fa bu hs st ln pt (nI 0) (rfSet_at)) (cwV9 0 hts mcX6_isOver (ac19 _ (List.mem_of_getElem? (i := 2) rfl)) miX6_isOver meX6_isOver mini_RX6 rfl rfl hdX6_isOver ⟨Nat.le_of_ble_eq_true rfl, Nat.le_of_ble_eq_true rfl⟩) hK hP hNW hk0 rfSet_at.1 rfl rfl hl.1 rfl (Nat.le_of_ble_eq_true rfl) (by decide) (dk kX6_put_ok 23 rfl) ?_
        refine b_if_ne (tgt := 56) hx hb (dk kX6_put_ok 24 rfl) (by decide) (fun h4 => ?_) (fun h4 => ?_)
        · skip
          refine lv_aload_n hx hb (dk kX6_put_ok 29 rfl) rfl (lv_at hl 0 rfl) ?_
          refine lv_iconst (v := nI 2) hx hb (dk kX6_put_ok 30 rfl) rfl ?_
          refine cvD (As := [.int (nI 2)]) (rest := []) (rfSet cI ad F k r ps sl sd ne fa bu hs st ln pt (nI 2)) ⟨hx, hb, hml, hown, hts⟩ (tX6_fails l D cI cQ cL ad N (rfSet cI ad F k r ps sl sd ne fa bu hs st ln pt (nI 0)) k hk r ps sl sd ne fa bu hs st ln pt (nI 0) (rfSet_at) (nI 2)) (cwV9 1 hts mcX6_fails (ac20 _ (List.mem_of_getElem? (i := 15) rfl)) miX6_fails meX6_fails mini_RX6 rfl rfl hdX6_fails ⟨Nat.le_of_ble_eq_true rfl, Nat.le_of_ble_eq_true rfl⟩) hDi hK hP hNW hS hk0 rfSet_at.1 rfl rfl hl.1 rfl (Nat.le_of_ble_eq_true rfl) (by decide) (dk kX6_put_ok 31 rfl) rfSet_rfSet (fun H locs hP hS => ?_)
          exact hret _ _ _ _ _ _ _ _ rfl (by simp (config := { decide := true }) only [dp, tPu, gP, h1, h2, h3, h4, bI_1, bI_00, not_true_eq_false, not_false_eq_true, and_true, true_and, and_false, false_and, or_true, true_or, or_false, false_or, and_self, or_self, if_true, if_false, Bool.false_eq_true, reduceIte]; first | done | exact ⟨rfl, rfl⟩ | (simp_all; done)) hP hS (by decide) (by decide) (dk kX6_put_ok 32 rfl)
        · skip
          refine lv_aload_n hx hb (dk kX6_put_ok 25 rfl) rfl (lv_at hl 0 rfl) ?_
          refine lv_iload_n hx hb (dk kX6_put_ok 26 rfl) rfl (lv_at hl 1 rfl) ?_
          refine cvR (As := [.int x]) (rest := []) ⟨hx, hb, hml, hown, hts⟩ (tX6_isCovered l D cI cQ cL ad N (rfSet cI ad F k r ps sl sd ne fa bu hs st ln pt (nI 0)) k hk r ps sl sd ne fa bu hs st ln pt (nI 0) (rfSet_at) x (ix x) (btw_eq h1) (by have := btw_le h1; omega)) (cwV9 1 hts mcX6_isCovered (ac18 _ (List.mem_of_getElem? (i := 18) rfl)) miX6_isCovered meX6_isCovered mini_RX6 rfl rfl hdX6_isCovered ⟨Nat.le_of_ble_eq_true rfl, Nat.le_of_ble_eq_true rfl⟩) hK hP hNW hk0 rfSet_at.1 rfl rfl hl.1 rfl (Nat.le_of_ble_eq_true rfl) (by decide) (dk kX6_put_ok 27 rfl) ?_
          refine b_if_eq (tgt := 62) hx hb (dk kX6_put_ok 28 rfl) (by decide) (fun h5 => ?_) (fun h5 => ?_)
          · skip
            refine lv_aload_n hx hb (dk kX6_put_ok 33 rfl) rfl (lv_at hl 0 rfl) ?_
            refine cvDv (As := []) (rest := []) (rfSet cI ad F k r (rcP ps r st) sl sd ne fa bu hs (rcS st) ln pt (nI 0)) ⟨hx, hb, hml, hown, hts⟩ (tX6_record l D cI cQ cL ad N (rfSet cI ad F k r ps sl sd ne fa bu hs st ln pt (nI 0)) k hk r ps sl sd ne fa bu hs st ln pt (nI 0) (rfSet_at) hst6) (cwV9 0 hts mcX6_record (ac20 _ (List.mem_of_getElem? (i := 23) rfl)) miX6_record meX6_record mini_RX6 rfl rfl hdX6_record ⟨Nat.le_of_ble_eq_true rfl, Nat.le_of_ble_eq_true rfl⟩) hDi hK hP hNW hS hk0 rfSet_at.1 rfl rfl hl.1 rfl (Nat.le_of_ble_eq_true rfl) (by decide) (dk kX6_put_ok 34 rfl) rfSet_rfSet (fun H locs hP hS => ?_)
            refine lv_aload_n hx hb (dk kX6_put_ok 35 rfl) rfl (lv_at hl 0 rfl) ?_
            refine lv_iload_n hx hb (dk kX6_put_ok 36 rfl) rfl (lv_at hl 1 rfl) ?_
            refine lv_bipush (v := nI 13) hx hb (dk kX6_put_ok 37 rfl) rfl ?_
            refine lv_iload_n hx hb (dk kX6_put_ok 38 rfl) rfl (lv_at hl 3 rfl) ?_
            refine lv_imul hx hb (dk kX6_put_ok 39 rfl) ?_
            refine lv_iload_n hx hb (dk kX6_put_ok 40 rfl) rfl (lv_at hl 2 rfl) ?_
            refine lv_iadd hx hb (dk kX6_put_ok 41 rfl) ?_
            refine cvDv (As := [.int x, .int (((nI 13) * z) + y)]) (rest := []) (rfSet cI ad F k (rly r (ix x) (((nI 13) * z) + y)) (rcP ps r st) sl sd ne fa bu hs (rcS st) ln pt (nI 0)) ⟨hx, hb, hml, hown, hts⟩ (tX6_lay l D cI cQ cL ad N (rfSet cI ad F k r (rcP ps r st) sl sd ne fa bu hs (rcS st) ln pt (nI 0)) k hk r (rcP ps r st) sl sd ne fa bu hs (rcS st) ln pt (nI 0) (rfSet_at) x (ix x) (btw_eq h1) (by have := btw_le h1; omega) (((nI 13) * z) + y)) (cwV9 2 hts mcX6_lay (ac19 _ (List.mem_of_getElem? (i := 21) rfl)) miX6_lay meX6_lay mini_RX6 rfl rfl hdX6_lay ⟨Nat.le_of_ble_eq_true rfl, Nat.le_of_ble_eq_true rfl⟩) hDi hK hP hNW hS hk0 rfSet_at.1 rfl rfl hl.1 rfl (Nat.le_of_ble_eq_true rfl) (by decide) (dk kX6_put_ok 42 rfl) rfSet_rfSet (fun H locs hP hS => ?_)
            refine lv_aload_n hx hb (dk kX6_put_ok 43 rfl) rfl (lv_at hl 0 rfl) ?_
            refine lv_bipush (v := nI 13) hx hb (dk kX6_put_ok 44 rfl) rfl ?_
            refine lv_iload_n hx hb (dk kX6_put_ok 45 rfl) rfl (lv_at hl 3 rfl) ?_
            refine lv_imul hx hb (dk kX6_put_ok 46 rfl) ?_
            refine lv_iload_n hx hb (dk kX6_put_ok 47 rfl) rfl (lv_at hl 2 rfl) ?_
            refine lv_iadd hx hb (dk kX6_put_ok 48 rfl) ?_
            refine cvR (As := [.int (((nI 13) * z) + y)]) (rest := []) ⟨hx, hb, hml, hown, hts⟩ (tX6_lying l D cI cQ cL ad N (rfSet cI ad F k (rly r (ix x) (((nI 13) * z) + y)) (rcP ps r st) sl sd ne fa bu hs (rcS st) ln pt (nI 0)) k hk (rly r (ix x) (((nI 13) * z) + y)) (rcP ps r st) sl sd ne fa bu hs (rcS st) ln pt (nI 0) (rfSet_at) (((nI 13) * z) + y)) (cwV9 1 hts mcX6_lying (ac18 _ (List.mem_of_getElem? (i := 10) rfl)) miX6_lying meX6_lying mini_RX6 rfl rfl hdX6_lying ⟨Nat.le_of_ble_eq_true rfl, Nat.le_of_ble_eq_true rfl⟩) hK hP hNW hk0 rfSet_at.1 rfl rfl hl.1 rfl (Nat.le_of_ble_eq_true rfl) (by decide) (dk kX6_put_ok 49 rfl) ?_
            exact hret _ _ _ _ _ _ _ _ rfl (by simp (config := { decide := true }) only [dp, tPu, gP, h1, h2, h3, h4, h5, bI_1, bI_00, not_true_eq_false, not_false_eq_true, and_true, true_and, and_false, false_and, or_true, true_or, or_false, false_or, and_self, or_self, if_true, if_false, Bool.false_eq_true, reduceIte]; first | done | exact ⟨rfl, rfl⟩ | (simp_all; done)) hP hS (by decide) (by decide) (dk kX6_put_ok 50 rfl)
          · skip
            refine lv_aload_n hx hb (dk kX6_put_ok 29 rfl) rfl (lv_at hl 0 rfl) ?_
            refine lv_iconst (v := nI 2) hx hb (dk kX6_put_ok 30 rfl) rfl ?_
            refine cvD (As := [.int (nI 2)]) (rest := []) (rfSet cI ad F k r ps sl sd ne fa bu hs st ln pt (nI 2)) ⟨hx, hb, hml, hown, hts⟩ (tX6_fails l D cI cQ cL ad N (rfSet cI ad F k r ps sl sd ne fa bu hs st ln pt (nI 0)) k hk r ps sl sd ne fa bu hs st ln pt (nI 0) (rfSet_at) (nI 2)) (cwV9 1 hts mcX6_fails (ac20 _ (List.mem_of_getElem? (i := 15) rfl)) miX6_fails meX6_fails mini_RX6 rfl rfl hdX6_fails ⟨Nat.le_of_ble_eq_true rfl, Nat.le_of_ble_eq_true rfl⟩) hDi hK hP hNW hS hk0 rfSet_at.1 rfl rfl hl.1 rfl (Nat.le_of_ble_eq_true rfl) (by decide) (dk kX6_put_ok 31 rfl) rfSet_rfSet (fun H locs hP hS => ?_)
            exact hret _ _ _ _ _ _ _ _ rfl (by simp (config := { decide := true }) only [dp, tPu, gP, h1, h2, h3, h4, h5, bI_1, bI_00, not_true_eq_false, not_false_eq_true, and_true, true_and, and_false, false_and, or_true, true_or, or_false, false_or, and_self, or_self, if_true, if_false, Bool.false_eq_true, reduceIte]; first | done | exact ⟨rfl, rfl⟩ | (simp_all; done)) hP hS (by decide) (by decide) (dk kX6_put_ok 32 rfl)
      · skip
        refine lv_aload_n hx hb (dk kX6_put_ok 18 rfl) rfl (lv_at hl 0 rfl) ?_
        refine lv_iconst (v := nI 1) hx hb (dk kX6_put_ok 19 rfl) rfl ?_
        refine cvD (As := [.int (nI 1)]) (rest := []) (rfSet cI ad F k r ps sl sd ne fa bu hs st ln pt (nI 1)) ⟨hx, hb, hml, hown, hts⟩ (tX6_fails l D cI cQ cL ad N (rfSet cI ad F k r ps sl sd ne fa bu hs st ln pt (nI 0)) k hk r ps sl sd ne fa bu hs st ln pt (nI 0) (rfSet_at) (nI 1)) (cwV9 1 hts mcX6_fails (ac20 _ (List.mem_of_getElem? (i := 15) rfl)) miX6_fails meX6_fails mini_RX6 rfl rfl hdX6_fails ⟨Nat.le_of_ble_eq_true rfl, Nat.le_of_ble_eq_true rfl⟩) hDi hK hP hNW hS hk0 rfSet_at.1 rfl rfl hl.1 rfl (Nat.le_of_ble_eq_true rfl) (by decide) (dk kX6_put_ok 20 rfl) rfSet_rfSet (fun H locs hP hS => ?_)
        exact hret _ _ _ _ _ _ _ _ rfl (by simp (config := { decide := true }) only [dp, tPu, gP, h1, h2, h3, bI_1, bI_00, not_true_eq_false, not_false_eq_true, and_true, true_and, and_false, false_and, or_true, true_or, or_false, false_or, and_self, or_self, if_true, if_false, Bool.false_eq_true, reduceIte]; first | done | exact ⟨rfl, rfl⟩ | (simp_all; done)) hP hS (by decide) (by decide) (dk kX6_put_ok 21 rfl)
set_option maxRecDepth 100000 in
set_option maxHeartbeats 4000000 in
theorem tX6_append (l : Launch) (D : va_G) (cI cQ cL : ClassId) (ad : Nat → Nat) (N : Nat) (F : Nat → va_E) (k : Nat) (hk : k + 7 < N) (r ps sl sd ne fa bu : Nat → Int32) (hs : Bool) (st ln pt : Nat) (th : Int32) (hR : rfAt cI ad F k r ps sl sd ne fa bu hs st ln pt th) (x : Int32) (hln : ln ≤ 60) : MX l yX6_append (Cond.code yX6_append cX6_append 2 (some .int) :: AW) ({ frames := 1, cells := 0, slots := 0, locals := 22 } : Room) D cI cQ cL ad N F [.ref (ad k), .int x] (dp (some (.int (if (btw x (nI 33) (nI 126) && !(decide (ln = 60))) = true then nI (ln + 1) else nI 0))) (rfSet cI ad F k r ps sl sd ne fa (if (btw x (nI 33) (nI 126) && !(decide (ln = 60))) = true then upd bu ln x else bu) hs st (if (btw x (nI 33) (nI 126) && !(decide (ln = 60))) = true then ln + 1 else ln) pt (if btw x (nI 33) (nI 126) = true then (if ln = 60 then nI 2 else nI 0) else nI 1))) 0 0 := by
  refine mx_i (ty := .int) (by decide +kernel) rfl (Nat.le_of_ble_eq_true rfl) (fun p e s m below meth cd Q ls hx hb hml hown hts hDi hP hK hNW hS hret hl => ?_)
  have hown : s.vm.findClass RX6 = some m.cls := hown
  have hk0 : k < N := by omega
  have hk1 : k + 1 < N := by omega
  have hk2 : k + 2 < N := by omega
  have hk3 : k + 3 < N := by omega
  have hk4 : k + 4 < N := by omega
  have hk5 : k + 5 < N := by omega
  have hk6 : k + 6 < N := by omega
  have hk7 : k + 7 < N := by omega
  have hP : va_P D vwCl (iW ad N (rfSet cI ad F k r ps sl sd ne fa bu hs st ln pt th)) s.heap := by rw [rfSet_self hR]; exact hP
  have hl : lv_has ls 2 [(0, .ref (ad k)), (1, .int x)] := hl
  refine lv_aload_n hx hb (dk kX6_append_ok 0 rfl) rfl (lv_at hl 0 rfl) ?_
  refine lv_iconst (v := nI 0) hx hb (dk kX6_append_ok 1 rfl) rfl ?_
  refine pf (rfSet cI ad F k r ps sl sd ne fa bu hs st ln pt (nI 0)) hx hb hts (fun w h => List.mem_cons_of_mem _ (acX6 w h)) tyX6 tyX6_ok nmX6 hown hK hDi hP hS hk0 rfSet_at.1 rfl 11 (by decide) (hts _ (List.mem_cons_of_mem _ (ac18 _ (List.mem_of_getElem? (i := 4) rfl)))) (fun _ h => h) rfl (ty := .int) rfl rfl rfl (Nat.le_of_ble_eq_true rfl) (dk kX6_append_ok 2 rfl) rfSet_u0 (fun H locs hP hS => ?_)
  refine lv_iload_n hx hb (dk kX6_append_ok 3 rfl) rfl (lv_at hl 1 rfl) ?_
  refine lv_bipush (v := nI 33) hx hb (dk kX6_append_ok 4 rfl) rfl ?_
  refine lv_bipush (v := nI 126) hx hb (dk kX6_append_ok 5 rfl) rfl ?_
  refine csP (As := [.int x, .int (nI 33), .int (nI 126)]) (rest := []) ⟨hx, hb, hml, hown, hts⟩ (tX6_in l x (nI 33) (nI 126)) (cwS9 3 hts mcX6_in (ac19 _ (List.mem_of_getElem? (i := 12) rfl)) msX6_in mini_RX6 rfl rfl hdX6_in ⟨Nat.le_of_ble_eq_true rfl, Nat.le_of_ble_eq_true rfl⟩) rfl hl.1 rfl (Nat.le_of_ble_eq_true rfl) (by decide) (dk kX6_append_ok 6 rfl) ?_
  refine b_if_ne (tgt := 22) hx hb (dk kX6_append_ok 7 rfl) (by decide) (fun h1 => ?_) (fun h1 => ?_)
  · skip
    refine lv_aload_n hx hb (dk kX6_append_ok 12 rfl) rfl (lv_at hl 0 rfl) ?_
    refine gf hx hb hts (fun w h => List.mem_cons_of_mem _ (acX6 w h)) hown hK hP hk0 rfSet_at.1 rfl 9 (by decide) (hts _ (List.mem_cons_of_mem _ (ac21 _ (List.mem_of_getElem? (i := 15) rfl)))) (fun _ h => h) rfl (dk kX6_append_ok 13 rfl) ?_
    refine lv_bipush (v := nI 60) hx hb (dk kX6_append_ok 14 rfl) rfl ?_
    refine n_icmp_ne (tgt := 37) hx hb (by omega) (by decide) (dk kX6_append_ok 15 rfl) (by decide) (fun h2 => ?_) (fun h2 => ?_)
    · skip
      refine lv_aload_n hx hb (dk kX6_append_ok 20 rfl) rfl (lv_at hl 0 rfl) ?_
      refine gf hx hb hts (fun w h => List.mem_cons_of_mem _ (acX6 w h)) hown hK hP hk0 rfSet_at.1 rfl 6 (by decide) (hts _ (List.mem_cons_of_mem _ (ac17 _ (List.mem_of_getElem? (i := 23) rfl)))) (fun _ h => h) rfl (dk kX6_append_ok 21 rfl) ?_
      refine lv_aload_n hx hb (dk kX6_append_ok 22 rfl) rfl (lv_at hl 0 rfl) ?_
      refine gf hx hb hts (fun w h => List.mem_cons_of_mem _ (acX6 w h)) hown hK hP hk0 rfSet_at.1 rfl 9 (by decide) (hts _ (List.mem_cons_of_mem _ (ac21 _ (List.mem_of_getElem? (i := 15) rfl)))) (fun _ h => h) rfl (dk kX6_append_ok 23 rfl) ?_
      refine lv_iload_n hx hb (dk kX6_append_ok 24 rfl) rfl (lv_at hl 1 rfl) ?_
      refine ast (rfSet cI ad F k r ps sl sd ne fa (upd bu ln x) hs st ln pt (nI 0)) (j := ln) hx hb hK hDi hP hS hk7 rfSet_at.2.2.2.2.2.2.2 rfl (by omega) (by decide) (dk kX6_append_ok 25 rfl) rfSet_u7 (fun H locs hP hS => ?_)
      refine lv_aload_n hx hb (dk kX6_append_ok 26 rfl) rfl (lv_at hl 0 rfl) ?_
      refine lv_dup hx hb (dk kX6_append_ok 27 rfl) rfl ?_
      refine gf hx hb hts (fun w h => List.mem_cons_of_mem _ (acX6 w h)) hown hK hP hk0 rfSet_at.1 rfl 9 (by decide) (hts _ (List.mem_cons_of_mem _ (ac21 _ (List.mem_of_getElem? (i := 15) rfl)))) (fun _ h => h) rfl (dk kX6_append_ok 28 rfl) ?_
      refine lv_iconst (v := nI 1) hx hb (dk kX6_append_ok 29 rfl) rfl ?_
      refine n_iadd hx hb (dk kX6_append_ok 30 rfl) ?_
      refine pf (rfSet cI ad F k r ps sl sd ne fa (upd bu ln x) hs st (ln + 1) pt (nI 0)) hx hb hts (fun w h => List.mem_cons_of_mem _ (acX6 w h)) tyX6 tyX6_ok nmX6 hown hK hDi hP hS hk0 rfSet_at.1 rfl 9 (by decide) (hts _ (List.mem_cons_of_mem _ (ac21 _ (List.mem_of_getElem? (i := 15) rfl)))) (fun _ h => h) rfl (ty := .int) rfl rfl rfl (Nat.le_of_ble_eq_true rfl) (dk kX6_append_ok 31 rfl) rfSet_u0 (fun H locs hP hS => ?_)
      refine lv_aload_n hx hb (dk kX6_append_ok 32 rfl) rfl (lv_at hl 0 rfl) ?_
      refine gf hx hb hts (fun w h => List.mem_cons_of_mem _ (acX6 w h)) hown hK hP hk0 rfSet_at.1 rfl 9 (by decide) (hts _ (List.mem_cons_of_mem _ (ac21 _ (List.mem_of_getElem? (i := 15) rfl)))) (fun _ h => h) rfl (dk kX6_append_ok 33 rfl) ?_
      exact hret _ _ _ _ _ _ _ _ rfl (by simp (config := { decide := true }) only [dp, Bool.true_and, Bool.false_and, decide_true, decide_false, Bool.not_true, Bool.not_false, h1, (eq_false h2), bI_1, bI_00, not_true_eq_false, not_false_eq_true, and_true, true_and, and_false, false_and, or_true, true_or, or_false, false_or, and_self, or_self, if_true, if_false, Bool.false_eq_true, reduceIte]; first | done | exact ⟨rfl, rfl⟩ | (simp_all; done)) hP hS (by decide) (by decide) (dk kX6_append_ok 34 rfl)
    · skip
      refine lv_aload_n hx hb (dk kX6_append_ok 16 rfl) rfl (lv_at hl 0 rfl) ?_
      refine lv_iconst (v := nI 2) hx hb (dk kX6_append_ok 17 rfl) rfl ?_
      refine cvD (As := [.int (nI 2)]) (rest := []) (rfSet cI ad F k r ps sl sd ne fa bu hs st ln pt (nI 2)) ⟨hx, hb, hml, hown, hts⟩ (tX6_fails l D cI cQ cL ad N (rfSet cI ad F k r ps sl sd ne fa bu hs st ln pt (nI 0)) k hk r ps sl sd ne fa bu hs st ln pt (nI 0) (rfSet_at) (nI 2)) (cwV9 1 hts mcX6_fails (ac20 _ (List.mem_of_getElem? (i := 15) rfl)) miX6_fails meX6_fails mini_RX6 rfl rfl hdX6_fails ⟨Nat.le_of_ble_eq_true rfl, Nat.le_of_ble_eq_true rfl⟩) hDi hK hP hNW hS hk0 rfSet_at.1 rfl rfl hl.1 rfl (Nat.le_of_ble_eq_true rfl) (by decide) (dk kX6_append_ok 18 rfl) rfSet_rfSet (fun H locs hP hS => ?_)
      exact hret _ _ _ _ _ _ _ _ rfl (by simp (config := { decide := true }) only [dp, Bool.true_and, Bool.false_and, decide_true, decide_false, Bool.not_true, Bool.not_false, h1, (eq_true h2), bI_1, bI_00, not_true_eq_false, not_false_eq_true, and_true, true_and, and_false, false_and, or_true, true_or, or_false, false_or, and_self, or_self, if_true, if_false, Bool.false_eq_true, reduceIte]; first | done | exact ⟨rfl, rfl⟩ | (simp_all; done)) hP hS (by decide) (by decide) (dk kX6_append_ok 19 rfl)
  · skip
    refine lv_aload_n hx hb (dk kX6_append_ok 8 rfl) rfl (lv_at hl 0 rfl) ?_
    refine lv_iconst (v := nI 1) hx hb (dk kX6_append_ok 9 rfl) rfl ?_
    refine cvD (As := [.int (nI 1)]) (rest := []) (rfSet cI ad F k r ps sl sd ne fa bu hs st ln pt (nI 1)) ⟨hx, hb, hml, hown, hts⟩ (tX6_fails l D cI cQ cL ad N (rfSet cI ad F k r ps sl sd ne fa bu hs st ln pt (nI 0)) k hk r ps sl sd ne fa bu hs st ln pt (nI 0) (rfSet_at) (nI 1)) (cwV9 1 hts mcX6_fails (ac20 _ (List.mem_of_getElem? (i := 15) rfl)) miX6_fails meX6_fails mini_RX6 rfl rfl hdX6_fails ⟨Nat.le_of_ble_eq_true rfl, Nat.le_of_ble_eq_true rfl⟩) hDi hK hP hNW hS hk0 rfSet_at.1 rfl rfl hl.1 rfl (Nat.le_of_ble_eq_true rfl) (by decide) (dk kX6_append_ok 10 rfl) rfSet_rfSet (fun H locs hP hS => ?_)
    exact hret _ _ _ _ _ _ _ _ rfl (by simp (config := { decide := true }) only [dp, Bool.true_and, Bool.false_and, decide_true, decide_false, Bool.not_true, Bool.not_false, h1, bI_1, bI_00, not_true_eq_false, not_false_eq_true, and_true, true_and, and_false, false_and, or_true, true_or, or_false, false_or, and_self, or_self, if_true, if_false, Bool.false_eq_true, reduceIte]; first | done | exact ⟨rfl, rfl⟩ | (simp_all; done)) hP hS (by decide) (by decide) (dk kX6_append_ok 11 rfl)
set_option maxRecDepth 100000 in
set_option maxHeartbeats 4000000 in
theorem tX6_clearBuffer (l : Launch) (D : va_G) (cI cQ cL : ClassId) (ad : Nat → Nat) (N : Nat) (F : Nat → va_E) (k : Nat) (hk : k + 7 < N) (r ps sl sd ne fa bu : Nat → Int32) (hs : Bool) (st ln pt : Nat) (th : Int32) (hR : rfAt cI ad F k r ps sl sd ne fa bu hs st ln pt th) : MX l yX6_clearBuffer (Cond.code yX6_clearBuffer cX6_clearBuffer 2 (some .int) :: AW) ({ frames := 0, cells := 0, slots := 0, locals := 0 } : Room) D cI cQ cL ad N F [.ref (ad k)] (dp (some (.int (nI ln))) (rfSet cI ad F k r ps sl sd ne fa bu hs st 0 pt (nI 0))) 0 0 := by
  refine mx_i (ty := .int) (by decide +kernel) rfl (Nat.le_of_ble_eq_true rfl) (fun p e s m below meth cd Q ls hx hb hml hown hts hDi hP hK hNW hS hret hl => ?_)
  have hown : s.vm.findClass RX6 = some m.cls := hown
  have hk0 : k < N := by omega
  have hk1 : k + 1 < N := by omega
  have hk2 : k + 2 < N := by omega
  have hk3 : k + 3 < N := by omega
  have hk4 : k + 4 < N := by omega
  have hk5 : k + 5 < N := by omega
  have hk6 : k + 6 < N := by omega
  have hk7 : k + 7 < N := by omega
  have hP : va_P D vwCl (iW ad N (rfSet cI ad F k r ps sl sd ne fa bu hs st ln pt th)) s.heap := by rw [rfSet_self hR]; exact hP
  have hl : lv_has ls 2 [(0, .ref (ad k))] := hl
  refine lv_aload_n hx hb (dk kX6_clearBuffer_ok 0 rfl) rfl (lv_at hl 0 rfl) ?_
  refine lv_iconst (v := nI 0) hx hb (dk kX6_clearBuffer_ok 1 rfl) rfl ?_
  refine pf (rfSet cI ad F k r ps sl sd ne fa bu hs st ln pt (nI 0)) hx hb hts (fun w h => List.mem_cons_of_mem _ (acX6 w h)) tyX6 tyX6_ok nmX6 hown hK hDi hP hS hk0 rfSet_at.1 rfl 11 (by decide) (hts _ (List.mem_cons_of_mem _ (ac18 _ (List.mem_of_getElem? (i := 4) rfl)))) (fun _ h => h) rfl (ty := .int) rfl rfl rfl (Nat.le_of_ble_eq_true rfl) (dk kX6_clearBuffer_ok 2 rfl) rfSet_u0 (fun H locs hP hS => ?_)
  refine lv_aload_n hx hb (dk kX6_clearBuffer_ok 3 rfl) rfl (lv_at hl 0 rfl) ?_
  refine gf hx hb hts (fun w h => List.mem_cons_of_mem _ (acX6 w h)) hown hK hP hk0 rfSet_at.1 rfl 9 (by decide) (hts _ (List.mem_cons_of_mem _ (ac21 _ (List.mem_of_getElem? (i := 15) rfl)))) (fun _ h => h) rfl (dk kX6_clearBuffer_ok 4 rfl) ?_
  refine lv_istore_n (lv' := [(1, .int (nI ln)), (0, .ref (ad k))]) hx hb (dk kX6_clearBuffer_ok 5 rfl) rfl hl (by decide) rfl (fun ls hl => ?_)
  refine lv_aload_n hx hb (dk kX6_clearBuffer_ok 6 rfl) rfl (lv_at hl 1 rfl) ?_
  refine lv_iconst (v := nI 0) hx hb (dk kX6_clearBuffer_ok 7 rfl) rfl ?_
  refine pf (rfSet cI ad F k r ps sl sd ne fa bu hs st 0 pt (nI 0)) hx hb hts (fun w h => List.mem_cons_of_mem _ (acX6 w h)) tyX6 tyX6_ok nmX6 hown hK hDi hP hS hk0 rfSet_at.1 rfl 9 (by decide) (hts _ (List.mem_cons_of_mem _ (ac21 _ (List.mem_of_getElem? (i := 15) rfl)))) (fun _ h => h) rfl (ty := .int) rfl rfl rfl (Nat.le_of_ble_eq_true rfl) (dk kX6_clearBuffer_ok 8 rfl) rfSet_u0 (fun H locs hP hS => ?_)
  refine lv_iload_n hx hb (dk kX6_clearBuffer_ok 9 rfl) rfl (lv_at hl 0 rfl) ?_
  exact hret _ _ _ _ _ _ _ _ rfl (by exact ⟨rfl, rfl⟩) hP hS (by decide) (by decide) (dk kX6_clearBuffer_ok 10 rfl)
set_option maxRecDepth 100000 in
set_option maxHeartbeats 4000000 in
theorem tX6_keep (l : Launch) (D : va_G) (cI cQ cL : ClassId) (ad : Nat → Nat) (N : Nat) (F : Nat → va_E) (k : Nat) (hk : k + 7 < N) (r ps sl sd ne fa bu : Nat → Int32) (hs : Bool) (st ln pt : Nat) (th : Int32) (hR : rfAt cI ad F k r ps sl sd ne fa bu hs st ln pt th) : MX l yX6_keep (Cond.code yX6_keep cX6_keep 2 (some .int) :: AW) ({ frames := 3, cells := 0, slots := 0, locals := 64 } : Room) D cI cQ cL ad N F [.ref (ad k)] (dp (some (.int (nI (potn r)))) (rfSet cI ad F k r ps r sd ne fa bu true st ln pt (nI 0))) 0 0 := by
  refine mx_i (ty := .int) (by decide +kernel) rfl (Nat.le_of_ble_eq_true rfl) (fun p e s m below meth cd Q ls hx hb hml hown hts hDi hP hK hNW hS hret hl => ?_)
  have hown : s.vm.findClass RX6 = some m.cls := hown
  have hk0 : k < N := by omega
  have hk1 : k + 1 < N := by omega
  have hk2 : k + 2 < N := by omega
  have hk3 : k + 3 < N := by omega
  have hk4 : k + 4 < N := by omega
  have hk5 : k + 5 < N := by omega
  have hk6 : k + 6 < N := by omega
  have hk7 : k + 7 < N := by omega
  have hP : va_P D vwCl (iW ad N (rfSet cI ad F k r ps sl sd ne fa bu hs st ln pt th)) s.heap := by rw [rfSet_self hR]; exact hP
  have hl : lv_has ls 2 [(0, .ref (ad k))] := hl
  refine lv_aload_n hx hb (dk kX6_keep_ok 0 rfl) rfl (lv_at hl 0 rfl) ?_
  refine lv_iconst (v := nI 0) hx hb (dk kX6_keep_ok 1 rfl) rfl ?_
  refine pf (rfSet cI ad F k r ps sl sd ne fa bu hs st ln pt (nI 0)) hx hb hts (fun w h => List.mem_cons_of_mem _ (acX6 w h)) tyX6 tyX6_ok nmX6 hown hK hDi hP hS hk0 rfSet_at.1 rfl 11 (by decide) (hts _ (List.mem_cons_of_mem _ (ac18 _ (List.mem_of_getElem? (i := 4) rfl)))) (fun _ h => h) rfl (ty := .int) rfl rfl rfl (Nat.le_of_ble_eq_true rfl) (dk kX6_keep_ok 2 rfl) rfSet_u0 (fun H locs hP hS => ?_)
  refine lv_iconst (v := nI 0) hx hb (dk kX6_keep_ok 3 rfl) rfl ?_
  refine lv_istore_n (lv' := [(1, .int (nI 0)), (0, .ref (ad k))]) hx hb (dk kX6_keep_ok 4 rfl) rfl hl (by decide) rfl (fun ls hl => ?_)
  have L7 : ∀ (fu : Nat) (i : Nat) (H : Heap) (locs : List Loc), va_P D vwCl (iW ad N (rfSet cI ad F k r ps (cp9 sl r 0 i) sd ne fa bu hs st ln pt (nI 0))) H → va_S (iA ad N s.heap.size) s.heap H locs → i ≤ 60 → 60 - i < fu → ∀ ls : Array Slot, lv_has ls 2 [(0, .ref (ad k)), (1, .int (nI i))] → W p l e ({ frames := 3, cells := 0, slots := 0, locals := 64 } : Room) s m ([.ref (ad k)] : List Value).toArray below meth cd H locs 0 0 Q (F0 m 7 ls []) := by
    intro fu
    induction fu with
    | zero => intros; omega
    | succ fu ih7 =>
      intro i H locs hP hS hi hm7 ls hl
      refine lv_iload_n hx hb (dk kX6_keep_ok 5 rfl) rfl (lv_at hl 1 rfl) ?_
      refine lv_bipush (v := nI 60) hx hb (dk kX6_keep_ok 6 rfl) rfl ?_
      refine n_icmp_ge (tgt := 31) hx hb (by omega) (by decide) (dk kX6_keep_ok 7 rfl) (by decide) (fun h1 => ?_) (fun h1 => ?_)
      · skip
        refine lv_aload_n hx hb (dk kX6_keep_ok 18 rfl) rfl (lv_at hl 0 rfl) ?_
        refine lv_iconst (v := nI 1) hx hb (dk kX6_keep_ok 19 rfl) rfl ?_
        refine pf (rfSet cI ad F k r ps (cp9 sl r 0 i) sd ne fa bu true st ln pt (nI 0)) hx hb hts (fun w h => List.mem_cons_of_mem _ (acX6 w h)) tyX6 tyX6_ok nmX6 hown hK hDi hP hS hk0 rfSet_at.1 rfl 7 (by decide) (hts _ (List.mem_cons_of_mem _ (ac22 _ (List.mem_of_getElem? (i := 9) rfl)))) (fun _ h => h) rfl (ty := .boolean) rfl rfl rfl (Nat.le_of_ble_eq_true rfl) (dk kX6_keep_ok 20 rfl) (rfSet_u0 (hs' := true)) (fun H locs hP hS => ?_)
        refine lv_aload_n hx hb (dk kX6_keep_ok 21 rfl) rfl (lv_at hl 0 rfl) ?_
        refine cvR (As := []) (rest := []) ⟨hx, hb, hml, hown, hts⟩ (tX6_pottedInAll l D cI cQ cL ad N (rfSet cI ad F k r ps (cp9 sl r 0 i) sd ne fa bu true st ln pt (nI 0)) k hk r ps (cp9 sl r 0 i) sd ne fa bu true st ln pt (nI 0) (rfSet_at)) (cwV9 0 hts mcX6_pottedInAll (ac22 _ (List.mem_of_getElem? (i := 10) rfl)) miX6_pottedInAll meX6_pottedInAll mini_RX6 rfl rfl hdX6_pottedInAll ⟨Nat.le_of_ble_eq_true rfl, Nat.le_of_ble_eq_true rfl⟩) hK hP hNW hk0 rfSet_at.1 rfl rfl hl.1 rfl (Nat.le_of_ble_eq_true rfl) (by decide) (dk kX6_keep_ok 22 rfl) ?_
        exact hret _ _ _ _ _ _ _ _ rfl (by exact ⟨rfl, rfl⟩) (rf_ext (by rw [show i = 60 by omega] at hP; exact hP) (h3 := fun _ h9 => cp9_lo h9)) hS (by decide) (by decide) (dk kX6_keep_ok 23 rfl)
      · skip
        refine lv_aload_n hx hb (dk kX6_keep_ok 8 rfl) rfl (lv_at hl 0 rfl) ?_
        refine gf hx hb hts (fun w h => List.mem_cons_of_mem _ (acX6 w h)) hown hK hP hk0 rfSet_at.1 rfl 2 (by decide) (hts _ (List.mem_cons_of_mem _ (ac17 _ (List.mem_of_getElem? (i := 19) rfl)))) (fun _ h => h) rfl (dk kX6_keep_ok 9 rfl) ?_
        refine lv_iload_n hx hb (dk kX6_keep_ok 10 rfl) rfl (lv_at hl 1 rfl) ?_
        refine lv_aload_n hx hb (dk kX6_keep_ok 11 rfl) rfl (lv_at hl 0 rfl) ?_
        refine gf hx hb hts (fun w h => List.mem_cons_of_mem _ (acX6 w h)) hown hK hP hk0 rfSet_at.1 rfl 0 (by decide) (hts _ (List.mem_cons_of_mem _ (ac17 _ (List.mem_of_getElem? (i := 17) rfl)))) (fun _ h => h) rfl (dk kX6_keep_ok 12 rfl) ?_
        refine lv_iload_n hx hb (dk kX6_keep_ok 13 rfl) rfl (lv_at hl 1 rfl) ?_
        refine ald (j := i) hx hb hK hP hk1 rfSet_at.2.1 rfl (by omega) (by decide) (dk kX6_keep_ok 14 rfl) ?_
        refine ast (rfSet cI ad F k r ps (upd (cp9 sl r 0 i) i (r i)) sd ne fa bu hs st ln pt (nI 0)) (j := i) hx hb hK hDi hP hS hk3 rfSet_at.2.2.2.1 rfl (by omega) (by decide) (dk kX6_keep_ok 15 rfl) rfSet_u3 (fun H locs hP hS => ?_)
        refine lv_iinc (v := nI (i + 1)) (lv' := [(1, .int (nI (i + 1))), (0, .ref (ad k))]) hx hb (dk kX6_keep_ok 16 rfl) hl (k := 1) rfl (n_inc _) (by decide) rfl (fun ls hl => ?_)
        refine lv_goto (tgt := 7) hx hb (dk kX6_keep_ok 17 rfl) (by decide) ?_
        exact ih7 (i + 1) _ _ (by first | (rw [cp9_0]; exact hP) | (rw [← cp9_s0]; exact hP)) hS (by omega) (by omega) ls (lv_sub hl [1, 0] rfl)
  exact L7 _ 0 _ _ (by first | (rw [cp9_0]; exact hP) | (rw [← cp9_s0]; exact hP)) hS (by omega) (Nat.lt_succ_self _) ls (lv_sub hl [1, 0] rfl)
end
/-! from refspec4 -/
section
def tk (bu : Nat → Int32) (ln a b : Nat) (p : Bool × Nat) : Bool × Nat := if p.1 = true then (tks bu ln p.2 a b, tkn bu ln p.2 a b) else p
def rprt (bu : Nat → Int32) (ln pt : Nat) : Bool × Nat := if tks bu ln pt 102 102 = true then tk bu ln 49 57 (tk bu ln 48 55 (tk bu ln 48 51 (true, tkn bu ln pt 102 102))) else tk bu ln 48 55 (tk bu ln 49 54 (tk bu ln 97 109 (tk bu ln 97 109 (tk bu ln 108 108 (true, tkn bu ln pt 102 102)))))
def rwhL (bu : Nat → Int32) (ln : Nat) : Nat → Bool → Nat → Bool × Nat
  | 0, g, p => (g, p)
  | n + 1, g, p => if g = true ∧ p < ln then (if tks bu ln p 59 59 = true then rwhL bu ln n (rprt bu ln (tkn bu ln p 59 59)).1 (rprt bu ln (tkn bu ln p 59 59)).2 else rwhL bu ln n false (tkn bu ln p 59 59)) else (g, p)
def rwh (bu : Nat → Int32) (ln : Nat) : Bool × Nat := rwhL bu ln (ln + 1) (rprt bu ln 0).1 (rprt bu ln 0).2
theorem tkn_ge (bu : Nat → Int32) (ln p a b : Nat) : p ≤ tkn bu ln p a b := by
  unfold tkn
  split <;> omega
theorem tk_ge (bu : Nat → Int32) (ln a b : Nat) (p : Bool × Nat) : p.2 ≤ (tk bu ln a b p).2 := by
  unfold tk
  split
  · exact tkn_ge _ _ _ _ _
  · exact Nat.le_refl _
theorem rprt_ge (bu : Nat → Int32) (ln p : Nat) : p ≤ (rprt bu ln p).2 := by
  have h0 := tkn_ge bu ln p 102 102
  unfold rprt
  split
  · exact Nat.le_trans h0 (Nat.le_trans (tk_ge bu ln 48 51 (true, tkn bu ln p 102 102)) (Nat.le_trans (tk_ge bu ln 48 55 _) (tk_ge bu ln 49 57 _)))
  · exact Nat.le_trans h0 (Nat.le_trans (tk_ge bu ln 108 108 (true, tkn bu ln p 102 102)) (Nat.le_trans (tk_ge bu ln 97 109 _) (Nat.le_trans (tk_ge bu ln 97 109 _) (Nat.le_trans (tk_ge bu ln 49 54 _) (tk_ge bu ln 48 55 _)))))
theorem tkn_le {bu : Nat → Int32} {ln p a b : Nat} (h : p ≤ ln) : tkn bu ln p a b ≤ ln := by
  unfold tkn tks
  split
  · next h1 =>
    simp only [Bool.and_eq_true, decide_eq_true_eq] at h1
    omega
  · exact h
theorem tk_le {bu : Nat → Int32} {ln a b : Nat} {p : Bool × Nat} (h : p.2 ≤ ln) : (tk bu ln a b p).2 ≤ ln := by
  unfold tk
  split
  · exact tkn_le h
  · exact h
theorem rprt_le {bu : Nat → Int32} {ln p : Nat} (h : p ≤ ln) : (rprt bu ln p).2 ≤ ln := by
  unfold rprt
  split
  · exact tk_le (tk_le (tk_le (tkn_le h)))
  · exact tk_le (tk_le (tk_le (tk_le (tk_le (tkn_le h)))))
theorem tkn_up {bu : Nat → Int32} {ln p a b : Nat} (h : tks bu ln p a b = true) : tkn bu ln p a b = p + 1 := by
  unfold tkn
  rw [if_pos h]
theorem rwhL_end {bu : Nat → Int32} {ln : Nat} {g : Bool} {p : Nat} (h : ¬ (g = true ∧ p < ln)) : ∀ n, rwhL bu ln n g p = (g, p)
  | 0 => rfl
  | n + 1 => by
    simp only [rwhL]
    rw [if_neg h]
-- what a flight brings
def rFx (r : Nat → Int32) (w d f : Nat) : Nat → Int32 := rfx r w (ldg (r w) (nI d) (stp w f)) (ix (r 56))
def aBr (r : Nat → Int32) (w d f a : Nat) : Int32 := if a = 0 then nI (rtm (rFx r w d f) (1 - (1 - w / 4 % 2))) - nI (rtm (rFx r w d f) (1 - w / 4 % 2)) else nI (rcc (rFx r w d f) (1 - w / 4 % 2) + rcc (rFx r w d f) (1 - w / 4 % 2 + 2))
def rbW (r : Nat → Int32) (j : Nat) : Nat := 4 * ix (r 56) + j / 72
def rbI (r : Nat → Int32) (j : Nat) : Int32 := nI 100 * aBr r (rbW r j) (j / 9 % 8) (j % 9 + 1) 0 + aBr r (rbW r j) (j / 9 % 8) (j % 9 + 1) 1
def rbst (r : Nat → Int32) (sd : Nat → Int32) : Nat → Int32 × Int32 × (Nat → Int32)
  | 0 => (-1, nI 0, sd)
  | j + 1 => if rwn r (rbW r j) = 0 then (if (rbst r sd j).1 = -1 then (nI (100 * rbW r j + 10 * (j / 9 % 8) + (j % 9 + 1)), rbI r j, r) else if rbI r j ≤ (rbst r sd j).2.1 then ((rbst r sd j).1, (rbst r sd j).2.1, r) else (nI (100 * rbW r j + 10 * (j / 9 % 8) + (j % 9 + 1)), rbI r j, r)) else rbst r sd j
def gI (r : Nat → Int32) (x d f a : Int32) : Bool := if btw x (nI 0) (nI 15) = true then (if btw d (nI 0) (nI 7) = true then (if btw f (nI 1) (nI 9) = true then (if btw a (nI 0) (nI 1) = true then (if rwn r (ix x) = 0 then true else false) else false) else false) else false) else false
def tI (x d f a : Int32) : Int32 := if btw x (nI 0) (nI 15) = true then (if btw d (nI 0) (nI 7) = true then (if btw f (nI 1) (nI 9) = true then (if btw a (nI 0) (nI 1) = true then nI 0 else nI 2) else nI 2) else nI 2) else nI 1
def pI (r : Nat → Int32) (x d f a : Int32) : Int32 := if btw x (nI 0) (nI 15) = true then (if btw d (nI 0) (nI 7) = true then (if btw f (nI 1) (nI 9) = true then (if btw a (nI 0) (nI 1) = true then (if rwn r (ix x) = 0 then aBr r (ix x) (ix d) (ix f) (ix a) else -1000) else nI 0) else nI 0) else nI 0) else nI 0
theorem rtm_le (r : Nat → Int32) (k : Nat) : rtm r k ≤ 32 := by
  have h1 := rpt_le r k
  have h2 := rpt_le r (k + 2)
  unfold rtm
  omega
end
/-! from reft -/
section
set_option maxRecDepth 100000 in
set_option maxHeartbeats 4000000 in
theorem tX6_takes (l : Launch) (D : va_G) (cI cQ cL : ClassId) (ad : Nat → Nat) (N : Nat) (F : Nat → va_E) (k : Nat) (hk : k + 7 < N) (r ps sl sd ne fa bu : Nat → Int32) (hs : Bool) (st ln pt : Nat) (th : Int32) (hR : rfAt cI ad F k r ps sl sd ne fa bu hs st ln pt th) (x : Int32) (a : Nat) (hxa : x = nI a) (y : Int32) (b : Nat) (hyb : y = nI b) (hln : ln ≤ 60) (hpt9 : pt ≤ 60) : MX l yX6_takes (Cond.code yX6_takes cX6_takes 4 (some .boolean) :: AW) ({ frames := 1, cells := 0, slots := 0, locals := 22 } : Room) D cI cQ cL ad N F [.ref (ad k), .int x, .int y] (dp (some (.int (bI (tks bu ln pt a b)))) (rfSet cI ad F k r ps sl sd ne fa bu hs st ln (tkn bu ln pt a b) th)) 0 0 := by
  refine mx_i (ty := .boolean) (by decide +kernel) rfl (Nat.le_of_ble_eq_true rfl) (fun p e s m below meth cd Q ls hx hb hml hown hts hDi hP hK hNW hS hret hl => ?_)
  have hown : s.vm.findClass RX6 = some m.cls := hown
  subst hxa
  subst hyb
  have hk0 : k < N := by omega
  have hk1 : k + 1 < N := by omega
  have hk2 : k + 2 < N := by omega
  have hk3 : k + 3 < N := by omega
  have hk4 : k + 4 < N := by omega
  have hk5 : k + 5 < N := by omega
  have hk6 : k + 6 < N := by omega
  have hk7 : k + 7 < N := by omega
  have hP : va_P D vwCl (iW ad N (rfSet cI ad F k r ps sl sd ne fa bu hs st ln pt th)) s.heap := by rw [rfSet_self hR]; exact hP
  have hl : lv_has ls 4 [(0, .ref (ad k)), (1, .int (nI a)), (2, .int (nI b))] := hl
  refine lv_aload_n hx hb (dk kX6_takes_ok 0 rfl) rfl (lv_at hl 0 rfl) ?_
  refine gf hx hb hts (fun w h => List.mem_cons_of_mem _ (acX6 w h)) hown hK hP hk0 rfSet_at.1 rfl 10 (by decide) (hts _ (List.mem_cons_of_mem _ (ac21 _ (List.mem_of_getElem? (i := 16) rfl)))) (fun _ h => h) rfl (dk kX6_takes_ok 1 rfl) ?_
  refine lv_aload_n hx hb (dk kX6_takes_ok 2 rfl) rfl (lv_at hl 0 rfl) ?_
  refine gf hx hb hts (fun w h => List.mem_cons_of_mem _ (acX6 w h)) hown hK hP hk0 rfSet_at.1 rfl 9 (by decide) (hts _ (List.mem_cons_of_mem _ (ac21 _ (List.mem_of_getElem? (i := 15) rfl)))) (fun _ h => h) rfl (dk kX6_takes_ok 3 rfl) ?_
  refine n_icmp_ge (tgt := 32) hx hb (by have hpt := hpt9; omega) (by have hpt := hpt9; omega) (dk kX6_takes_ok 4 rfl) (by decide) (fun h1 => ?_) (fun h1 => ?_)
  · skip
    refine lv_iconst (v := nI 0) hx hb (dk kX6_takes_ok 16 rfl) rfl ?_
    refine lv_istore_n (lv' := [(3, .int (nI 0)), (0, .ref (ad k)), (1, .int (nI a)), (2, .int (nI b))]) hx hb (dk kX6_takes_ok 17 rfl) rfl hl (by decide) rfl (fun ls hl => ?_)
    refine lv_aload_n hx hb (dk kX6_takes_ok 18 rfl) rfl (lv_at hl 1 rfl) ?_
    refine lv_dup hx hb (dk kX6_takes_ok 19 rfl) rfl ?_
    refine gf hx hb hts (fun w h => List.mem_cons_of_mem _ (acX6 w h)) hown hK hP hk0 rfSet_at.1 rfl 10 (by decide) (hts _ (List.mem_cons_of_mem _ (ac21 _ (List.mem_of_getElem? (i := 16) rfl)))) (fun _ h => h) rfl (dk kX6_takes_ok 20 rfl) ?_
    refine lv_iload_n hx hb (dk kX6_takes_ok 21 rfl) rfl (lv_at hl 0 rfl) ?_
    refine n_if_eq (tgt := 47) hx hb (by decide) (dk kX6_takes_ok 22 rfl) (by decide) ?_ (fun h9 => absurd h9 (by decide))
    intro _
    refine lv_iconst (v := nI 0) hx hb (dk kX6_takes_ok 25 rfl) rfl ?_
    refine n_iadd hx hb (dk kX6_takes_ok 26 rfl) ?_
    refine pf (rfSet cI ad F k r ps sl sd ne fa bu hs st ln (pt + 0) th) hx hb hts (fun w h => List.mem_cons_of_mem _ (acX6 w h)) tyX6 tyX6_ok nmX6 hown hK hDi hP hS hk0 rfSet_at.1 rfl 10 (by decide) (hts _ (List.mem_cons_of_mem _ (ac21 _ (List.mem_of_getElem? (i := 16) rfl)))) (fun _ h => h) rfl (ty := .int) rfl rfl rfl (Nat.le_of_ble_eq_true rfl) (dk kX6_takes_ok 27 rfl) rfSet_u0 (fun H locs hP hS => ?_)
    refine lv_iload_n hx hb (dk kX6_takes_ok 28 rfl) rfl (lv_at hl 0 rfl) ?_
    exact hret _ _ _ _ _ _ _ _ rfl (by simp only [dp, tks, tkn, (eq_true h1), (eq_false (Nat.not_lt.mpr h1)), decide_true, decide_false, not_true_eq_false, not_false_eq_true, and_true, true_and, and_false, false_and, or_true, true_or, or_false, false_or, and_self, or_self, if_true, if_false, Bool.false_eq_true, reduceIte, Bool.and_true, Bool.true_and, Bool.and_false, Bool.false_and, bI_1, bI_00]; first | done | exact ⟨rfl, rfl⟩ | rfl) hP hS (by decide) (by decide) (dk kX6_takes_ok 29 rfl)
  · skip
    refine lv_aload_n hx hb (dk kX6_takes_ok 5 rfl) rfl (lv_at hl 0 rfl) ?_
    refine gf hx hb hts (fun w h => List.mem_cons_of_mem _ (acX6 w h)) hown hK hP hk0 rfSet_at.1 rfl 6 (by decide) (hts _ (List.mem_cons_of_mem _ (ac17 _ (List.mem_of_getElem? (i := 23) rfl)))) (fun _ h => h) rfl (dk kX6_takes_ok 6 rfl) ?_
    refine lv_aload_n hx hb (dk kX6_takes_ok 7 rfl) rfl (lv_at hl 0 rfl) ?_
    refine gf hx hb hts (fun w h => List.mem_cons_of_mem _ (acX6 w h)) hown hK hP hk0 rfSet_at.1 rfl 10 (by decide) (hts _ (List.mem_cons_of_mem _ (ac21 _ (List.mem_of_getElem? (i := 16) rfl)))) (fun _ h => h) rfl (dk kX6_takes_ok 8 rfl) ?_
    refine ald (j := pt) hx hb hK hP hk7 rfSet_at.2.2.2.2.2.2.2 rfl (by omega) (by decide) (dk kX6_takes_ok 9 rfl) ?_
    refine lv_iload_n hx hb (dk kX6_takes_ok 10 rfl) rfl (lv_at hl 1 rfl) ?_
    refine lv_iload_n hx hb (dk kX6_takes_ok 11 rfl) rfl (lv_at hl 2 rfl) ?_
    refine csP (As := [.int (bu pt), .int (nI a), .int (nI b)]) (rest := []) ⟨hx, hb, hml, hown, hts⟩ (tX6_in l (bu pt) (nI a) (nI b)) (cwS9 3 hts mcX6_in (ac19 _ (List.mem_of_getElem? (i := 12) rfl)) msX6_in mini_RX6 rfl rfl hdX6_in ⟨Nat.le_of_ble_eq_true rfl, Nat.le_of_ble_eq_true rfl⟩) rfl hl.1 rfl (Nat.le_of_ble_eq_true rfl) (by decide) (dk kX6_takes_ok 12 rfl) ?_
    refine b_if_eq (tgt := 32) hx hb (dk kX6_takes_ok 13 rfl) (by decide) (fun h2 => ?_) (fun h2 => ?_)
    · skip
      refine lv_iconst (v := nI 0) hx hb (dk kX6_takes_ok 16 rfl) rfl ?_
      refine lv_istore_n (lv' := [(3, .int (nI 0)), (0, .ref (ad k)), (1, .int (nI a)), (2, .int (nI b))]) hx hb (dk kX6_takes_ok 17 rfl) rfl hl (by decide) rfl (fun ls hl => ?_)
      refine lv_aload_n hx hb (dk kX6_takes_ok 18 rfl) rfl (lv_at hl 1 rfl) ?_
      refine lv_dup hx hb (dk kX6_takes_ok 19 rfl) rfl ?_
      refine gf hx hb hts (fun w h => List.mem_cons_of_mem _ (acX6 w h)) hown hK hP hk0 rfSet_at.1 rfl 10 (by decide) (hts _ (List.mem_cons_of_mem _ (ac21 _ (List.mem_of_getElem? (i := 16) rfl)))) (fun _ h => h) rfl (dk kX6_takes_ok 20 rfl) ?_
      refine lv_iload_n hx hb (dk kX6_takes_ok 21 rfl) rfl (lv_at hl 0 rfl) ?_
      refine n_if_eq (tgt := 47) hx hb (by decide) (dk kX6_takes_ok 22 rfl) (by decide) ?_ (fun h9 => absurd h9 (by decide))
      intro _
      refine lv_iconst (v := nI 0) hx hb (dk kX6_takes_ok 25 rfl) rfl ?_
      refine n_iadd hx hb (dk kX6_takes_ok 26 rfl) ?_
      refine pf (rfSet cI ad F k r ps sl sd ne fa bu hs st ln (pt + 0) th) hx hb hts (fun w h => List.mem_cons_of_mem _ (acX6 w h)) tyX6 tyX6_ok nmX6 hown hK hDi hP hS hk0 rfSet_at.1 rfl 10 (by decide) (hts _ (List.mem_cons_of_mem _ (ac21 _ (List.mem_of_getElem? (i := 16) rfl)))) (fun _ h => h) rfl (ty := .int) rfl rfl rfl (Nat.le_of_ble_eq_true rfl) (dk kX6_takes_ok 27 rfl) rfSet_u0 (fun H locs hP hS => ?_)
      refine lv_iload_n hx hb (dk kX6_takes_ok 28 rfl) rfl (lv_at hl 0 rfl) ?_
      exact hret _ _ _ _ _ _ _ _ rfl (by simp only [dp, tks, tkn, (eq_true h1), (eq_false (Nat.not_le.mpr h1)), h2, decide_true, decide_false, not_true_eq_false, not_false_eq_true, and_true, true_and, and_false, false_and, or_true, true_or, or_false, false_or, and_self, or_self, if_true, if_false, Bool.false_eq_true, reduceIte, Bool.and_true, Bool.true_and, Bool.and_false, Bool.false_and, bI_1, bI_00]; first | done | exact ⟨rfl, rfl⟩ | rfl) hP hS (by decide) (by decide) (dk kX6_takes_ok 29 rfl)
    · skip
      refine lv_iconst (v := nI 1) hx hb (dk kX6_takes_ok 14 rfl) rfl ?_
      refine lv_goto (tgt := 33) hx hb (dk kX6_takes_ok 15 rfl) (by decide) ?_
      refine lv_istore_n (lv' := [(3, .int (nI 1)), (0, .ref (ad k)), (1, .int (nI a)), (2, .int (nI b))]) hx hb (dk kX6_takes_ok 17 rfl) rfl hl (by decide) rfl (fun ls hl => ?_)
      refine lv_aload_n hx hb (dk kX6_takes_ok 18 rfl) rfl (lv_at hl 1 rfl) ?_
      refine lv_dup hx hb (dk kX6_takes_ok 19 rfl) rfl ?_
      refine gf hx hb hts (fun w h => List.mem_cons_of_mem _ (acX6 w h)) hown hK hP hk0 rfSet_at.1 rfl 10 (by decide) (hts _ (List.mem_cons_of_mem _ (ac21 _ (List.mem_of_getElem? (i := 16) rfl)))) (fun _ h => h) rfl (dk kX6_takes_ok 20 rfl) ?_
      refine lv_iload_n hx hb (dk kX6_takes_ok 21 rfl) rfl (lv_at hl 0 rfl) ?_
      refine n_if_eq (tgt := 47) hx hb (by decide) (dk kX6_takes_ok 22 rfl) (by decide) (fun h9 => absurd h9 (by decide)) ?_
      intro _
      refine lv_iconst (v := nI 1) hx hb (dk kX6_takes_ok 23 rfl) rfl ?_
      refine lv_goto (tgt := 48) hx hb (dk kX6_takes_ok 24 rfl) (by decide) ?_
      refine n_iadd hx hb (dk kX6_takes_ok 26 rfl) ?_
      refine pf (rfSet cI ad F k r ps sl sd ne fa bu hs st ln (pt + 1) th) hx hb hts (fun w h => List.mem_cons_of_mem _ (acX6 w h)) tyX6 tyX6_ok nmX6 hown hK hDi hP hS hk0 rfSet_at.1 rfl 10 (by decide) (hts _ (List.mem_cons_of_mem _ (ac21 _ (List.mem_of_getElem? (i := 16) rfl)))) (fun _ h => h) rfl (ty := .int) rfl rfl rfl (Nat.le_of_ble_eq_true rfl) (dk kX6_takes_ok 27 rfl) rfSet_u0 (fun H locs hP hS => ?_)
      refine lv_iload_n hx hb (dk kX6_takes_ok 28 rfl) rfl (lv_at hl 0 rfl) ?_
      exact hret _ _ _ _ _ _ _ _ rfl (by simp only [dp, tks, tkn, (eq_true h1), (eq_false (Nat.not_le.mpr h1)), h2, decide_true, decide_false, not_true_eq_false, not_false_eq_true, and_true, true_and, and_false, false_and, or_true, true_or, or_false, false_or, and_self, or_self, if_true, if_false, Bool.false_eq_true, reduceIte, Bool.and_true, Bool.true_and, Bool.and_false, Bool.false_and, bI_1, bI_00]; first | done | exact ⟨rfl, rfl⟩ | rfl) hP hS (by decide) (by decide) (dk kX6_takes_ok 29 rfl)
set_option maxRecDepth 100000 in
set_option maxHeartbeats 4000000 in
theorem tX6_part (l : Launch) (D : va_G) (cI cQ cL : ClassId) (ad : Nat → Nat) (N : Nat) (F : Nat → va_E) (k : Nat) (hk : k + 7 < N) (r ps sl sd ne fa bu : Nat → Int32) (hs : Bool) (st ln pt : Nat) (th : Int32) (hR : rfAt cI ad F k r ps sl sd ne fa bu hs st ln pt th) (hln : ln ≤ 60) (hpt : pt ≤ ln) : MX l yX6_part (Cond.code yX6_part cX6_part 1 (some .boolean) :: AW) ({ frames := 2, cells := 0, slots := 0, locals := 45 } : Room) D cI cQ cL ad N F [.ref (ad k)] (dp (some (.int (bI ((rprt bu ln pt).1)))) (rfSet cI ad F k r ps sl sd ne fa bu hs st ln ((rprt bu ln pt).2) th)) 0 0 := by
  refine mx_i (ty := .boolean) (by decide +kernel) rfl (Nat.le_of_ble_eq_true rfl) (fun p e s m below meth cd Q ls hx hb hml hown hts hDi hP hK hNW hS hret hl => ?_)
  have hown : s.vm.findClass RX6 = some m.cls := hown
  have hk0 : k < N := by omega
  have hk1 : k + 1 < N := by omega
  have hk2 : k + 2 < N := by omega
  have hk3 : k + 3 < N := by omega
  have hk4 : k + 4 < N := by omega
  have hk5 : k + 5 < N := by omega
  have hk6 : k + 6 < N := by omega
  have hk7 : k + 7 < N := by omega
  have hP : va_P D vwCl (iW ad N (rfSet cI ad F k r ps sl sd ne fa bu hs st ln pt th)) s.heap := by rw [rfSet_self hR]; exact hP
  have hl : lv_has ls 1 [(0, .ref (ad k))] := hl
  refine lv_aload_n hx hb (dk kX6_part_ok 0 rfl) rfl (lv_at hl 0 rfl) ?_
  refine lv_bipush (v := nI 102) hx hb (dk kX6_part_ok 1 rfl) rfl ?_
  refine lv_bipush (v := nI 102) hx hb (dk kX6_part_ok 2 rfl) rfl ?_
  refine cvD (As := [.int (nI 102), .int (nI 102)]) (rest := []) (rfSet cI ad F k r ps sl sd ne fa bu hs st ln (tkn bu ln pt 102 102) th) ⟨hx, hb, hml, hown, hts⟩ (tX6_takes l D cI cQ cL ad N (rfSet cI ad F k r ps sl sd ne fa bu hs st ln pt th) k hk r ps sl sd ne fa bu hs st ln pt th (rfSet_at) (nI 102) 102 rfl (nI 102) 102 rfl hln (Nat.le_trans hpt hln)) (cwV9 2 hts mcX6_takes (ac21 _ (List.mem_of_getElem? (i := 17) rfl)) miX6_takes meX6_takes mini_RX6 rfl rfl hdX6_takes ⟨Nat.le_of_ble_eq_true rfl, Nat.le_of_ble_eq_true rfl⟩) hDi hK hP hNW hS hk0 rfSet_at.1 rfl rfl hl.1 rfl (Nat.le_of_ble_eq_true rfl) (by decide) (dk kX6_part_ok 3 rfl) rfSet_rfSet (fun H locs hP hS => ?_)
  refine b_if_eq (tgt := 50) hx hb (dk kX6_part_ok 4 rfl) (by decide) (fun h1 => ?_) (fun h1 => ?_)
  · skip
    refine lv_aload_n hx hb (dk kX6_part_ok 24 rfl) rfl (lv_at hl 0 rfl) ?_
    refine lv_bipush (v := nI 108) hx hb (dk kX6_part_ok 25 rfl) rfl ?_
    refine lv_bipush (v := nI 108) hx hb (dk kX6_part_ok 26 rfl) rfl ?_
    refine cvD (As := [.int (nI 108), .int (nI 108)]) (rest := []) (rfSet cI ad F k r ps sl sd ne fa bu hs st ln (tkn bu ln (tkn bu ln pt 102 102) 108 108) th) ⟨hx, hb, hml, hown, hts⟩ (tX6_takes l D cI cQ cL ad N (rfSet cI ad F k r ps sl sd ne fa bu hs st ln (tkn bu ln pt 102 102) th) k hk r ps sl sd ne fa bu hs st ln (tkn bu ln pt 102 102) th (rfSet_at) (nI 108) 108 rfl (nI 108) 108 rfl hln (Nat.le_trans (tkn_le hpt) hln)) (cwV9 2 hts mcX6_takes (ac21 _ (List.mem_of_getElem? (i := 17) rfl)) miX6_takes meX6_takes mini_RX6 rfl rfl hdX6_takes ⟨Nat.le_of_ble_eq_true rfl, Nat.le_of_ble_eq_true rfl⟩) hDi hK hP hNW hS hk0 rfSet_at.1 rfl rfl hl.1 rfl (Nat.le_of_ble_eq_true rfl) (by decide) (dk kX6_part_ok 27 rfl) rfSet_rfSet (fun H locs hP hS => ?_)
    refine b_if_eq (tgt := 109) hx hb (dk kX6_part_ok 28 rfl) (by decide) (fun h2 => ?_) (fun h2 => ?_)
    · skip
      refine lv_iconst (v := nI 0) hx hb (dk kX6_part_ok 51 rfl) rfl ?_
      exact hret _ _ _ _ _ _ _ _ rfl (by simp only [dp, rprt, tk, h1, h2, not_true_eq_false, not_false_eq_true, and_true, true_and, and_false, false_and, or_true, true_or, or_false, false_or, and_self, or_self, if_true, if_false, Bool.false_eq_true, reduceIte, bI_1, bI_00]; first | done | exact ⟨rfl, rfl⟩ | (simp_all [tkn]; done)) hP hS (by decide) (by decide) (dk kX6_part_ok 52 rfl)
    · skip
      refine lv_aload_n hx hb (dk kX6_part_ok 29 rfl) rfl (lv_at hl 0 rfl) ?_
      refine lv_bipush (v := nI 97) hx hb (dk kX6_part_ok 30 rfl) rfl ?_
      refine lv_bipush (v := nI 109) hx hb (dk kX6_part_ok 31 rfl) rfl ?_
      refine cvD (As := [.int (nI 97), .int (nI 109)]) (rest := []) (rfSet cI ad F k r ps sl sd ne fa bu hs st ln (tkn bu ln (tkn bu ln (tkn bu ln pt 102 102) 108 108) 97 109) th) ⟨hx, hb, hml, hown, hts⟩ (tX6_takes l D cI cQ cL ad N (rfSet cI ad F k r ps sl sd ne fa bu hs st ln (tkn bu ln (tkn bu ln pt 102 102) 108 108) th) k hk r ps sl sd ne fa bu hs st ln (tkn bu ln (tkn bu ln pt 102 102) 108 108) th (rfSet_at) (nI 97) 97 rfl (nI 109) 109 rfl hln (Nat.le_trans (tkn_le (tkn_le hpt)) hln)) (cwV9 2 hts mcX6_takes (ac21 _ (List.mem_of_getElem? (i := 17) rfl)) miX6_takes meX6_takes mini_RX6 rfl rfl hdX6_takes ⟨Nat.le_of_ble_eq_true rfl, Nat.le_of_ble_eq_true rfl⟩) hDi hK hP hNW hS hk0 rfSet_at.1 rfl rfl hl.1 rfl (Nat.le_of_ble_eq_true rfl) (by decide) (dk kX6_part_ok 32 rfl) rfSet_rfSet (fun H locs hP hS => ?_)
      refine b_if_eq (tgt := 109) hx hb (dk kX6_part_ok 33 rfl) (by decide) (fun h3 => ?_) (fun h3 => ?_)
      · skip
        refine lv_iconst (v := nI 0) hx hb (dk kX6_part_ok 51 rfl) rfl ?_
        exact hret _ _ _ _ _ _ _ _ rfl (by simp only [dp, rprt, tk, h1, h2, h3, not_true_eq_false, not_false_eq_true, and_true, true_and, and_false, false_and, or_true, true_or, or_false, false_or, and_self, or_self, if_true, if_false, Bool.false_eq_true, reduceIte, bI_1, bI_00]; first | done | exact ⟨rfl, rfl⟩ | (simp_all [tkn]; done)) hP hS (by decide) (by decide) (dk kX6_part_ok 52 rfl)
      · skip
        refine lv_aload_n hx hb (dk kX6_part_ok 34 rfl) rfl (lv_at hl 0 rfl) ?_
        refine lv_bipush (v := nI 97) hx hb (dk kX6_part_ok 35 rfl) rfl ?_
        refine lv_bipush (v := nI 109) hx hb (dk kX6_part_ok 36 rfl) rfl ?_
        refine cvD (As := [.int (nI 97), .int (nI 109)]) (rest := []) (rfSet cI ad F k r ps sl sd ne fa bu hs st ln (tkn bu ln (tkn bu ln (tkn bu ln (tkn bu ln pt 102 102) 108 108) 97 109) 97 109) th) ⟨hx, hb, hml, hown, hts⟩ (tX6_takes l D cI cQ cL ad N (rfSet cI ad F k r ps sl sd ne fa bu hs st ln (tkn bu ln (tkn bu ln (tkn bu ln pt 102 102) 108 108) 97 109) th) k hk r ps sl sd ne fa bu hs st ln (tkn bu ln (tkn bu ln (tkn bu ln pt 102 102) 108 108) 97 109) th (rfSet_at) (nI 97) 97 rfl (nI 109) 109 rfl hln (Nat.le_trans (tkn_le (tkn_le (tkn_le hpt))) hln)) (cwV9 2 hts mcX6_takes (ac21 _ (List.mem_of_getElem? (i := 17) rfl)) miX6_takes meX6_takes mini_RX6 rfl rfl hdX6_takes ⟨Nat.le_of_ble_eq_true rfl, Nat.le_of_ble_eq_true rfl⟩) hDi hK hP hNW hS hk0 rfSet_at.1 rfl rfl hl.1 rfl (Nat.le_of_ble_eq_true rfl) (by decide) (dk kX6_part_ok 37 rfl) rfSet_rfSet (fun H locs hP hS => ?_)
        refine b_if_eq (tgt := 109) hx hb (dk kX6_part_ok 38 rfl) (by decide) (fun h4 => ?_) (fun h4 => ?_)
        · skip
          refine lv_iconst (v := nI 0) hx hb (dk kX6_part_ok 51 rfl) rfl ?_
          exact hret _ _ _ _ _ _ _ _ rfl (by simp only [dp, rprt, tk, h1, h2, h3, h4, not_true_eq_false, not_false_eq_true, and_true, true_and, and_false, false_and, or_true, true_or, or_false, false_or, and_self, or_self, if_true, if_false, Bool.false_eq_true, reduceIte, bI_1, bI_00]; first | done | exact ⟨rfl, rfl⟩ | (simp_all [tkn]; done)) hP hS (by decide) (by decide) (dk kX6_part_ok 52 rfl)
        · skip
          refine lv_aload_n hx hb (dk kX6_part_ok 39 rfl) rfl (lv_at hl 0 rfl) ?_
          refine lv_bipush (v := nI 49) hx hb (dk kX6_part_ok 40 rfl) rfl ?_
          refine lv_bipush (v := nI 54) hx hb (dk kX6_part_ok 41 rfl) rfl ?_
          refine cvD (As := [.int (nI 49), .int (nI 54)]) (rest := []) (rfSet cI ad F k r ps sl sd ne fa bu hs st ln (tkn bu ln (tkn bu ln (tkn bu ln (tkn bu ln (tkn bu ln pt 102 102) 108 108) 97 109) 97 109) 49 54) th) ⟨hx, hb, hml, hown, hts⟩ (tX6_takes l D cI cQ cL ad N (rfSet cI ad F k r ps sl sd ne fa bu hs st ln (tkn bu ln (tkn bu ln (tkn bu ln (tkn bu ln pt 102 102) 108 108) 97 109) 97 109) th) k hk r ps sl sd ne fa bu hs st ln (tkn bu ln (tkn bu ln (tkn bu ln (tkn bu ln pt 102 102) 108 108) 97 109) 97 109) th (rfSet_at) (nI 49) 49 rfl (nI 54) 54 rfl hln (Nat.le_trans (tkn_le (tkn_le (tkn_le (tkn_le hpt)))) hln)) (cwV9 2 hts mcX6_takes (ac21 _ (List.mem_of_getElem? (i := 17) rfl)) miX6_takes meX6_takes mini_RX6 rfl rfl hdX6_takes ⟨Nat.le_of_ble_eq_true rfl, Nat.le_of_ble_eq_true rfl⟩) hDi hK hP hNW hS hk0 rfSet_at.1 rfl rfl hl.1 rfl (Nat.le_of_ble_eq_true rfl) (by decide) (dk kX6_part_ok 42 rfl) rfSet_rfSet (fun H locs hP hS => ?_)
          refine b_if_eq (tgt := 109) hx hb (dk kX6_part_ok 43 rfl) (by decide) (fun h5 => ?_) (fun h5 => ?_)
          · skip
            refine lv_iconst (v := nI 0) hx hb (dk kX6_part_ok 51 rfl) rfl ?_
            exact hret _ _ _ _ _ _ _ _ rfl (by simp only [dp, rprt, tk, h1, h2, h3, h4, h5, not_true_eq_false, not_false_eq_true, and_true, true_and, and_false, false_and, or_true, true_or, or_false, false_or, and_self, or_self, if_true, if_false, Bool.false_eq_true, reduceIte, bI_1, bI_00]; first | done | exact ⟨rfl, rfl⟩ | (simp_all [tkn]; done)) hP hS (by decide) (by decide) (dk kX6_part_ok 52 rfl)
          · skip
            refine lv_aload_n hx hb (dk kX6_part_ok 44 rfl) rfl (lv_at hl 0 rfl) ?_
            refine lv_bipush (v := nI 48) hx hb (dk kX6_part_ok 45 rfl) rfl ?_
            refine lv_bipush (v := nI 55) hx hb (dk kX6_part_ok 46 rfl) rfl ?_
            refine cvD (As := [.int (nI 48), .int (nI 55)]) (rest := []) (rfSet cI ad F k r ps sl sd ne fa bu hs st ln (tkn bu ln (tkn bu ln (tkn bu ln (tkn bu ln (tkn bu ln (tkn bu ln pt 102 102) 108 108) 97 109) 97 109) 49 54) 48 55) th) ⟨hx, hb, hml, hown, hts⟩ (tX6_takes l D cI cQ cL ad N (rfSet cI ad F k r ps sl sd ne fa bu hs st ln (tkn bu ln (tkn bu ln (tkn bu ln (tkn bu ln (tkn bu ln pt 102 102) 108 108) 97 109) 97 109) 49 54) th) k hk r ps sl sd ne fa bu hs st ln (tkn bu ln (tkn bu ln (tkn bu ln (tkn bu ln (tkn bu ln pt 102 102) 108 108) 97 109) 97 109) 49 54) th (rfSet_at) (nI 48) 48 rfl (nI 55) 55 rfl hln (Nat.le_trans (tkn_le (tkn_le (tkn_le (tkn_le (tkn_le hpt))))) hln)) (cwV9 2 hts mcX6_takes (ac21 _ (List.mem_of_getElem? (i := 17) rfl)) miX6_takes meX6_takes mini_RX6 rfl rfl hdX6_takes ⟨Nat.le_of_ble_eq_true rfl, Nat.le_of_ble_eq_true rfl⟩) hDi hK hP hNW hS hk0 rfSet_at.1 rfl rfl hl.1 rfl (Nat.le_of_ble_eq_true rfl) (by decide) (dk kX6_part_ok 47 rfl) rfSet_rfSet (fun H locs hP hS => ?_)
            refine b_if_eq (tgt := 109) hx hb (dk kX6_part_ok 48 rfl) (by decide) (fun h6 => ?_) (fun h6 => ?_)
            · skip
              refine lv_iconst (v := nI 0) hx hb (dk kX6_part_ok 51 rfl) rfl ?_
              exact hret _ _ _ _ _ _ _ _ rfl (by simp only [dp, rprt, tk, h1, h2, h3, h4, h5, h6, not_true_eq_false, not_false_eq_true, and_true, true_and, and_false, false_and, or_true, true_or, or_false, false_or, and_self, or_self, if_true, if_false, Bool.false_eq_true, reduceIte, bI_1, bI_00]; first | done | exact ⟨rfl, rfl⟩ | (simp_all [tkn]; done)) hP hS (by decide) (by decide) (dk kX6_part_ok 52 rfl)
            · skip
              refine lv_iconst (v := nI 1) hx hb (dk kX6_part_ok 49 rfl) rfl ?_
              refine lv_goto (tgt := 110) hx hb (dk kX6_part_ok 50 rfl) (by decide) ?_
              exact hret _ _ _ _ _ _ _ _ rfl (by simp only [dp, rprt, tk, h1, h2, h3, h4, h5, h6, not_true_eq_false, not_false_eq_true, and_true, true_and, and_false, false_and, or_true, true_or, or_false, false_or, and_self, or_self, if_true, if_false, Bool.false_eq_true, reduceIte, bI_1, bI_00]; first | done | exact ⟨rfl, rfl⟩ | (simp_all [tkn]; done)) hP hS (by decide) (by decide) (dk kX6_part_ok 52 rfl)
  · skip
    refine lv_aload_n hx hb (dk kX6_part_ok 5 rfl) rfl (lv_at hl 0 rfl) ?_
    refine lv_bipush (v := nI 48) hx hb (dk kX6_part_ok 6 rfl) rfl ?_
    refine lv_bipush (v := nI 51) hx hb (dk kX6_part_ok 7 rfl) rfl ?_
    refine cvD (As := [.int (nI 48), .int (nI 51)]) (rest := []) (rfSet cI ad F k r ps sl sd ne fa bu hs st ln (tkn bu ln (tkn bu ln pt 102 102) 48 51) th) ⟨hx, hb, hml, hown, hts⟩ (tX6_takes l D cI cQ cL ad N (rfSet cI ad F k r ps sl sd ne fa bu hs st ln (tkn bu ln pt 102 102) th) k hk r ps sl sd ne fa bu hs st ln (tkn bu ln pt 102 102) th (rfSet_at) (nI 48) 48 rfl (nI 51) 51 rfl hln (Nat.le_trans (tkn_le hpt) hln)) (cwV9 2 hts mcX6_takes (ac21 _ (List.mem_of_getElem? (i := 17) rfl)) miX6_takes meX6_takes mini_RX6 rfl rfl hdX6_takes ⟨Nat.le_of_ble_eq_true rfl, Nat.le_of_ble_eq_true rfl⟩) hDi hK hP hNW hS hk0 rfSet_at.1 rfl rfl hl.1 rfl (Nat.le_of_ble_eq_true rfl) (by decide) (dk kX6_part_ok 8 rfl) rfSet_rfSet (fun H locs hP hS => ?_)
    refine b_if_eq (tgt := 48) hx hb (dk kX6_part_ok 9 rfl) (by decide) (fun h7 => ?_) (fun h7 => ?_)
    · skip
      refine lv_iconst (v := nI 0) hx hb (dk kX6_part_ok 22 rfl) rfl ?_
      exact hret _ _ _ _ _ _ _ _ rfl (by simp only [dp, rprt, tk, h1, h7, not_true_eq_false, not_false_eq_true, and_true, true_and, and_false, false_and, or_true, true_or, or_false, false_or, and_self, or_self, if_true, if_false, Bool.false_eq_true, reduceIte, bI_1, bI_00]; first | done | exact ⟨rfl, rfl⟩ | (simp_all [tkn]; done)) hP hS (by decide) (by decide) (dk kX6_part_ok 23 rfl)
    · skip
      refine lv_aload_n hx hb (dk kX6_part_ok 10 rfl) rfl (lv_at hl 0 rfl) ?_
      refine lv_bipush (v := nI 48) hx hb (dk kX6_part_ok 11 rfl) rfl ?_
      refine lv_bipush (v := nI 55) hx hb (dk kX6_part_ok 12 rfl) rfl ?_
      refine cvD (As := [.int (nI 48), .int (nI 55)]) (rest := []) (rfSet cI ad F k r ps sl sd ne fa bu hs st ln (tkn bu ln (tkn bu ln (tkn bu ln pt 102 102) 48 51) 48 55) th) ⟨hx, hb, hml, hown, hts⟩ (tX6_takes l D cI cQ cL ad N (rfSet cI ad F k r ps sl sd ne fa bu hs st ln (tkn bu ln (tkn bu ln pt 102 102) 48 51) th) k hk r ps sl sd ne fa bu hs st ln (tkn bu ln (tkn bu ln pt 102 102) 48 51) th (rfSet_at) (nI 48) 48 rfl (nI 55) 55 rfl hln (Nat.le_trans (tkn_le (tkn_le hpt)) hln)) (cwV9 2 hts mcX6_takes (ac21 _ (List.mem_of_getElem? (i := 17) rfl)) miX6_takes meX6_takes mini_RX6 rfl rfl hdX6_takes ⟨Nat.le_of_ble_eq_true rfl, Nat.le_of_ble_eq_true rfl⟩) hDi hK hP hNW hS hk0 rfSet_at.1 rfl rfl hl.1 rfl (Nat.le_of_ble_eq_true rfl) (by decide) (dk kX6_part_ok 13 rfl) rfSet_rfSet (fun H locs hP hS => ?_)
      refine b_if_eq (tgt := 48) hx hb (dk kX6_part_ok 14 rfl) (by decide) (fun h8 => ?_) (fun h8 => ?_)
      · skip
        refine lv_iconst (v := nI 0) hx hb (dk kX6_part_ok 22 rfl) rfl ?_
        exact hret _ _ _ _ _ _ _ _ rfl (by simp only [dp, rprt, tk, h1, h7, h8, not_true_eq_false, not_false_eq_true, and_true, true_and, and_false, false_and, or_true, true_or, or_false, false_or, and_self, or_self, if_true, if_false, Bool.false_eq_true, reduceIte, bI_1, bI_00]; first | done | exact ⟨rfl, rfl⟩ | (simp_all [tkn]; done)) hP hS (by decide) (by decide) (dk kX6_part_ok 23 rfl)
      · skip
        refine lv_aload_n hx hb (dk kX6_part_ok 15 rfl) rfl (lv_at hl 0 rfl) ?_
        refine lv_bipush (v := nI 49) hx hb (dk kX6_part_ok 16 rfl) rfl ?_
        refine lv_bipush (v := nI 57) hx hb (dk kX6_part_ok 17 rfl) rfl ?_
        refine cvD (As := [.int (nI 49), .int (nI 57)]) (rest := []) (rfSet cI ad F k r ps sl sd ne fa bu hs st ln (tkn bu ln (tkn bu ln (tkn bu ln (tkn bu ln pt 102 102) 48 51) 48 55) 49 57) th) ⟨hx, hb, hml, hown, hts⟩ (tX6_takes l D cI cQ cL ad N (rfSet cI ad F k r ps sl sd ne fa bu hs st ln (tkn bu ln (tkn bu ln (tkn bu ln pt 102 102) 48 51) 48 55) th) k hk r ps sl sd ne fa bu hs st ln (tkn bu ln (tkn bu ln (tkn bu ln pt 102 102) 48 51) 48 55) th (rfSet_at) (nI 49) 49 rfl (nI 57) 57 rfl hln (Nat.le_trans (tkn_le (tkn_le (tkn_le hpt))) hln)) (cwV9 2 hts mcX6_takes (ac21 _ (List.mem_of_getElem? (i := 17) rfl)) miX6_takes meX6_takes mini_RX6 rfl rfl hdX6_takes ⟨Nat.le_of_ble_eq_true rfl, Nat.le_of_ble_eq_true rfl⟩) hDi hK hP hNW hS hk0 rfSet_at.1 rfl rfl hl.1 rfl (Nat.le_of_ble_eq_true rfl) (by decide) (dk kX6_part_ok 18 rfl) rfSet_rfSet (fun H locs hP hS => ?_)
        refine b_if_eq (tgt := 48) hx hb (dk kX6_part_ok 19 rfl) (by decide) (fun h9 => ?_) (fun h9 => ?_)
        · skip
          refine lv_iconst (v := nI 0) hx hb (dk kX6_part_ok 22 rfl) rfl ?_
          exact hret _ _ _ _ _ _ _ _ rfl (by simp only [dp, rprt, tk, h1, h7, h8, h9, not_true_eq_false, not_false_eq_true, and_true, true_and, and_false, false_and, or_true, true_or, or_false, false_or, and_self, or_self, if_true, if_false, Bool.false_eq_true, reduceIte, bI_1, bI_00]; first | done | exact ⟨rfl, rfl⟩ | (simp_all [tkn]; done)) hP hS (by decide) (by decide) (dk kX6_part_ok 23 rfl)
        · skip
          refine lv_iconst (v := nI 1) hx hb (dk kX6_part_ok 20 rfl) rfl ?_
          refine lv_goto (tgt := 49) hx hb (dk kX6_part_ok 21 rfl) (by decide) ?_
          exact hret _ _ _ _ _ _ _ _ rfl (by simp only [dp, rprt, tk, h1, h7, h8, h9, not_true_eq_false, not_false_eq_true, and_true, true_and, and_false, false_and, or_true, true_or, or_false, false_or, and_self, or_self, if_true, if_false, Bool.false_eq_true, reduceIte, bI_1, bI_00]; first | done | exact ⟨rfl, rfl⟩ | (simp_all [tkn]; done)) hP hS (by decide) (by decide) (dk kX6_part_ok 23 rfl)
set_option maxRecDepth 100000 in
set_option maxHeartbeats 4000000 in
theorem tX6_isWhole (l : Launch) (D : va_G) (cI cQ cL : ClassId) (ad : Nat → Nat) (N : Nat) (F : Nat → va_E) (k : Nat) (hk : k + 7 < N) (r ps sl sd ne fa bu : Nat → Int32) (hs : Bool) (st ln pt : Nat) (th : Int32) (hR : rfAt cI ad F k r ps sl sd ne fa bu hs st ln pt th) (hln : ln ≤ 60) : MX l yX6_isWhole (Cond.code yX6_isWhole cX6_isWhole 2 (some .boolean) :: AW) ({ frames := 3, cells := 0, slots := 0, locals := 65 } : Room) D cI cQ cL ad N F [.ref (ad k)] (dp (some (.int (bI ((rwh bu ln).1)))) (rfSet cI ad F k r ps sl sd ne fa bu hs st ln ((rwh bu ln).2) th)) 0 0 := by
  refine mx_i (ty := .boolean) (by decide +kernel) rfl (Nat.le_of_ble_eq_true rfl) (fun p e s m below meth cd Q ls hx hb hml hown hts hDi hP hK hNW hS hret hl => ?_)
  have hown : s.vm.findClass RX6 = some m.cls := hown
  have hk0 : k < N := by omega
  have hk1 : k + 1 < N := by omega
  have hk2 : k + 2 < N := by omega
  have hk3 : k + 3 < N := by omega
  have hk4 : k + 4 < N := by omega
  have hk5 : k + 5 < N := by omega
  have hk6 : k + 6 < N := by omega
  have hk7 : k + 7 < N := by omega
  have hP : va_P D vwCl (iW ad N (rfSet cI ad F k r ps sl sd ne fa bu hs st ln pt th)) s.heap := by rw [rfSet_self hR]; exact hP
  have hl : lv_has ls 2 [(0, .ref (ad k))] := hl
  refine lv_aload_n hx hb (dk kX6_isWhole_ok 0 rfl) rfl (lv_at hl 0 rfl) ?_
  refine lv_iconst (v := nI 0) hx hb (dk kX6_isWhole_ok 1 rfl) rfl ?_
  refine pf (rfSet cI ad F k r ps sl sd ne fa bu hs st ln 0 th) hx hb hts (fun w h => List.mem_cons_of_mem _ (acX6 w h)) tyX6 tyX6_ok nmX6 hown hK hDi hP hS hk0 rfSet_at.1 rfl 10 (by decide) (hts _ (List.mem_cons_of_mem _ (ac21 _ (List.mem_of_getElem? (i := 16) rfl)))) (fun _ h => h) rfl (ty := .int) rfl rfl rfl (Nat.le_of_ble_eq_true rfl) (dk kX6_isWhole_ok 2 rfl) rfSet_u0 (fun H locs hP hS => ?_)
  refine lv_aload_n hx hb (dk kX6_isWhole_ok 3 rfl) rfl (lv_at hl 0 rfl) ?_
  refine cvD (As := []) (rest := []) (rfSet cI ad F k r ps sl sd ne fa bu hs st ln ((rprt bu ln 0).2) th) ⟨hx, hb, hml, hown, hts⟩ (tX6_part l D cI cQ cL ad N (rfSet cI ad F k r ps sl sd ne fa bu hs st ln 0 th) k hk r ps sl sd ne fa bu hs st ln 0 th (rfSet_at) hln (Nat.zero_le _)) (cwV9 0 hts mcX6_part (ac21 _ (List.mem_of_getElem? (i := 21) rfl)) miX6_part meX6_part mini_RX6 rfl rfl hdX6_part ⟨Nat.le_of_ble_eq_true rfl, Nat.le_of_ble_eq_true rfl⟩) hDi hK hP hNW hS hk0 rfSet_at.1 rfl rfl hl.1 rfl (Nat.le_of_ble_eq_true rfl) (by decide) (dk kX6_isWhole_ok 4 rfl) rfSet_rfSet (fun H locs hP hS => ?_)
  refine lv_istore_n (lv' := [(1, .int (bI ((rprt bu ln 0).1))), (0, .ref (ad k))]) hx hb (dk kX6_isWhole_ok 5 rfl) rfl hl (by decide) rfl (fun ls hl => ?_)
  have L10 : ∀ (fu : Nat) (m9 : Nat) (g : Bool) (p2 : Nat) (x1 : Int32) (H : Heap) (locs : List Loc), va_P D vwCl (iW ad N (rfSet cI ad F k r ps sl sd ne fa bu hs st ln p2 th)) H → va_S (iA ad N s.heap.size) s.heap H locs → x1 = bI g → p2 ≤ ln → (if g = true then 1 else 0) + (ln - p2) ≤ m9 → rwh bu ln = rwhL bu ln m9 g p2 → m9 < fu → ∀ ls : Array Slot, lv_has ls 2 [(0, .ref (ad k)), (1, .int x1)] → W p l e ({ frames := 3, cells := 0, slots := 0, locals := 65 } : Room) s m ([.ref (ad k)] : List Value).toArray below meth cd H locs 0 0 Q (F0 m 10 ls []) := by
    intro fu
    induction fu with
    | zero => intros; omega
    | succ fu ih10 =>
      intro m9 g p2 x1 H locs hP hS ex1 hp2 hm9 hr hm10 ls hl
      subst ex1
      refine lv_iload_n hx hb (dk kX6_isWhole_ok 6 rfl) rfl (lv_at hl 1 rfl) ?_
      refine b_if_eq (tgt := 52) hx hb (dk kX6_isWhole_ok 7 rfl) (by decide) (fun h1 => ?_) (fun h1 => ?_)
      · skip
        refine lv_iload_n hx hb (dk kX6_isWhole_ok 26 rfl) rfl (lv_at hl 1 rfl) ?_
        exact hret _ _ _ _ _ _ _ _ (bI_nar _) (by rw [hr, rwhL_end (by intro h9; first | (rw [h1] at h9; exact absurd h9.1 (by decide)) | omega)]; first | exact ⟨rfl, rfl⟩ | (simp_all [dp]; done)) hP hS (by decide) (by decide) (dk kX6_isWhole_ok 27 rfl)
      · skip
        refine lv_aload_n hx hb (dk kX6_isWhole_ok 8 rfl) rfl (lv_at hl 0 rfl) ?_
        refine gf hx hb hts (fun w h => List.mem_cons_of_mem _ (acX6 w h)) hown hK hP hk0 rfSet_at.1 rfl 10 (by decide) (hts _ (List.mem_cons_of_mem _ (ac21 _ (List.mem_of_getElem? (i := 16) rfl)))) (fun _ h => h) rfl (dk kX6_isWhole_ok 9 rfl) ?_
        refine lv_aload_n hx hb (dk kX6_isWhole_ok 10 rfl) rfl (lv_at hl 0 rfl) ?_
        refine gf hx hb hts (fun w h => List.mem_cons_of_mem _ (acX6 w h)) hown hK hP hk0 rfSet_at.1 rfl 9 (by decide) (hts _ (List.mem_cons_of_mem _ (ac21 _ (List.mem_of_getElem? (i := 15) rfl)))) (fun _ h => h) rfl (dk kX6_isWhole_ok 11 rfl) ?_
        refine n_icmp_ge (tgt := 52) hx hb (by omega) (by omega) (dk kX6_isWhole_ok 12 rfl) (by decide) (fun h2 => ?_) (fun h2 => ?_)
        · skip
          refine lv_iload_n hx hb (dk kX6_isWhole_ok 26 rfl) rfl (lv_at hl 1 rfl) ?_
          exact hret _ _ _ _ _ _ _ _ (bI_nar _) (by rw [hr, rwhL_end (by intro h9; first | (rw [rfl] at h9; exact absurd h9.1 (by decide)) | omega)]; first | exact ⟨rfl, rfl⟩ | (simp_all [dp]; done)) hP hS (by decide) (by decide) (dk kX6_isWhole_ok 27 rfl)
        · skip
          refine lv_aload_n hx hb (dk kX6_isWhole_ok 13 rfl) rfl (lv_at hl 0 rfl) ?_
          refine lv_bipush (v := nI 59) hx hb (dk kX6_isWhole_ok 14 rfl) rfl ?_
          refine lv_bipush (v := nI 59) hx hb (dk kX6_isWhole_ok 15 rfl) rfl ?_
          refine cvD (As := [.int (nI 59), .int (nI 59)]) (rest := []) (rfSet cI ad F k r ps sl sd ne fa bu hs st ln (tkn bu ln p2 59 59) th) ⟨hx, hb, hml, hown, hts⟩ (tX6_takes l D cI cQ cL ad N (rfSet cI ad F k r ps sl sd ne fa bu hs st ln p2 th) k hk r ps sl sd ne fa bu hs st ln p2 th (rfSet_at) (nI 59) 59 rfl (nI 59) 59 rfl hln (Nat.le_trans hp2 hln)) (cwV9 2 hts mcX6_takes (ac21 _ (List.mem_of_getElem? (i := 17) rfl)) miX6_takes meX6_takes mini_RX6 rfl rfl hdX6_takes ⟨Nat.le_of_ble_eq_true rfl, Nat.le_of_ble_eq_true rfl⟩) hDi hK hP hNW hS hk0 rfSet_at.1 rfl rfl hl.1 rfl (Nat.le_of_ble_eq_true rfl) (by decide) (dk kX6_isWhole_ok 16 rfl) rfSet_rfSet (fun H locs hP hS => ?_)
          refine b_if_eq (tgt := 47) hx hb (dk kX6_isWhole_ok 17 rfl) (by decide) (fun h3 => ?_) (fun h3 => ?_)
          · skip
            refine lv_iconst (v := nI 0) hx hb (dk kX6_isWhole_ok 23 rfl) rfl ?_
            refine lv_istore_n (lv' := [(1, .int (nI 0)), (0, .ref (ad k))]) hx hb (dk kX6_isWhole_ok 24 rfl) rfl hl (by decide) rfl (fun ls hl => ?_)
            refine lv_goto (tgt := 10) hx hb (dk kX6_isWhole_ok 25 rfl) (by decide) ?_
            exact ih10 (m9 - 1) false (tkn bu ln p2 59 59) _ _ _ hP hS (by first | rfl | exact (bI_t (by assumption)).symm | exact (bI_f (by assumption)).symm) (by first | exact rprt_le (tkn_le hp2) | exact tkn_le hp2) (by have h9 := h1; rw [if_pos h9] at hm9; have h7 := tkn_ge bu ln p2 59 59; rw [if_neg (by decide)]; omega) (by have h9 := h1; rw [if_pos h9] at hm9; rw [hr, show m9 = (m9 - 1) + 1 by omega]; simp only [rwhL]; rw [if_pos ⟨h9, by omega⟩, if_neg (by rw [h3]; decide)]; rfl) (by have h9 := h1; rw [if_pos h9] at hm9; omega) ls (lv_sub hl [1, 0] rfl)
          · skip
            refine lv_aload_n hx hb (dk kX6_isWhole_ok 18 rfl) rfl (lv_at hl 0 rfl) ?_
            refine cvD (As := []) (rest := []) (rfSet cI ad F k r ps sl sd ne fa bu hs st ln ((rprt bu ln (tkn bu ln p2 59 59)).2) th) ⟨hx, hb, hml, hown, hts⟩ (tX6_part l D cI cQ cL ad N (rfSet cI ad F k r ps sl sd ne fa bu hs st ln (tkn bu ln p2 59 59) th) k hk r ps sl sd ne fa bu hs st ln (tkn bu ln p2 59 59) th (rfSet_at) hln (tkn_le hp2)) (cwV9 0 hts mcX6_part (ac21 _ (List.mem_of_getElem? (i := 21) rfl)) miX6_part meX6_part mini_RX6 rfl rfl hdX6_part ⟨Nat.le_of_ble_eq_true rfl, Nat.le_of_ble_eq_true rfl⟩) hDi hK hP hNW hS hk0 rfSet_at.1 rfl rfl hl.1 rfl (Nat.le_of_ble_eq_true rfl) (by decide) (dk kX6_isWhole_ok 19 rfl) rfSet_rfSet (fun H locs hP hS => ?_)
            refine b_if_eq (tgt := 47) hx hb (dk kX6_isWhole_ok 20 rfl) (by decide) (fun h4 => ?_) (fun h4 => ?_)
            · skip
              refine lv_iconst (v := nI 0) hx hb (dk kX6_isWhole_ok 23 rfl) rfl ?_
              refine lv_istore_n (lv' := [(1, .int (nI 0)), (0, .ref (ad k))]) hx hb (dk kX6_isWhole_ok 24 rfl) rfl hl (by decide) rfl (fun ls hl => ?_)
              refine lv_goto (tgt := 10) hx hb (dk kX6_isWhole_ok 25 rfl) (by decide) ?_
              exact ih10 (m9 - 1) false ((rprt bu ln (tkn bu ln p2 59 59)).2) _ _ _ hP hS (by first | rfl | exact (bI_t (by assumption)).symm | exact (bI_f (by assumption)).symm) (by first | exact rprt_le (tkn_le hp2) | exact tkn_le hp2) (by have h9 := h1; rw [if_pos h9] at hm9; have h8 := rprt_ge bu ln (tkn bu ln p2 59 59); have h7 := tkn_up h3; split <;> omega) (by have h9 := h1; rw [if_pos h9] at hm9; rw [hr, show m9 = (m9 - 1) + 1 by omega]; simp only [rwhL]; rw [if_pos ⟨h9, by omega⟩, if_pos h3]; rw [h4]; rfl) (by have h9 := h1; rw [if_pos h9] at hm9; omega) ls (lv_sub hl [1, 0] rfl)
            · skip
              refine lv_iconst (v := nI 1) hx hb (dk kX6_isWhole_ok 21 rfl) rfl ?_
              refine lv_goto (tgt := 48) hx hb (dk kX6_isWhole_ok 22 rfl) (by decide) ?_
              refine lv_istore_n (lv' := [(1, .int (nI 1)), (0, .ref (ad k))]) hx hb (dk kX6_isWhole_ok 24 rfl) rfl hl (by decide) rfl (fun ls hl => ?_)
              refine lv_goto (tgt := 10) hx hb (dk kX6_isWhole_ok 25 rfl) (by decide) ?_
              exact ih10 (m9 - 1) true ((rprt bu ln (tkn bu ln p2 59 59)).2) _ _ _ hP hS (by first | rfl | exact (bI_t (by assumption)).symm | exact (bI_f (by assumption)).symm) (by first | exact rprt_le (tkn_le hp2) | exact tkn_le hp2) (by have h9 := h1; rw [if_pos h9] at hm9; have h8 := rprt_ge bu ln (tkn bu ln p2 59 59); have h7 := tkn_up h3; split <;> omega) (by have h9 := h1; rw [if_pos h9] at hm9; rw [hr, show m9 = (m9 - 1) + 1 by omega]; simp only [rwhL]; rw [if_pos ⟨h9, by omega⟩, if_pos h3]; rw [h4]; rfl) (by have h9 := h1; rw [if_pos h9] at hm9; omega) ls (lv_sub hl [1, 0] rfl)
  exact L10 _ (ln + 1) ((rprt bu ln 0).1) ((rprt bu ln 0).2) _ _ _ hP hS (by rfl) (by exact rprt_le (Nat.zero_le _)) (by split <;> omega) (by rfl) (Nat.lt_succ_self _) ls (lv_sub hl [1, 0] rfl)
set_option maxRecDepth 100000 in
set_option maxHeartbeats 4000000 in
theorem tX6_firstError (l : Launch) (D : va_G) (cI cQ cL : ClassId) (ad : Nat → Nat) (N : Nat) (F : Nat → va_E) (k : Nat) (hk : k + 7 < N) (r ps sl sd ne fa bu : Nat → Int32) (hs : Bool) (st ln pt : Nat) (th : Int32) (hR : rfAt cI ad F k r ps sl sd ne fa bu hs st ln pt th) (hln : ln ≤ 60) : MX l yX6_firstError (Cond.code yX6_firstError cX6_firstError 1 (some .int) :: AW) ({ frames := 4, cells := 0, slots := 0, locals := 86 } : Room) D cI cQ cL ad N F [.ref (ad k)] (dp (some (.int (nI (if (rwh bu ln).1 = true then ln else (rwh bu ln).2)))) (rfSet cI ad F k r ps sl sd ne fa bu hs st ln ((rwh bu ln).2) (nI 0))) 0 0 := by
  refine mx_i (ty := .int) (by decide +kernel) rfl (Nat.le_of_ble_eq_true rfl) (fun p e s m below meth cd Q ls hx hb hml hown hts hDi hP hK hNW hS hret hl => ?_)
  have hown : s.vm.findClass RX6 = some m.cls := hown
  have hk0 : k < N := by omega
  have hk1 : k + 1 < N := by omega
  have hk2 : k + 2 < N := by omega
  have hk3 : k + 3 < N := by omega
  have hk4 : k + 4 < N := by omega
  have hk5 : k + 5 < N := by omega
  have hk6 : k + 6 < N := by omega
  have hk7 : k + 7 < N := by omega
  have hP : va_P D vwCl (iW ad N (rfSet cI ad F k r ps sl sd ne fa bu hs st ln pt th)) s.heap := by rw [rfSet_self hR]; exact hP
  have hl : lv_has ls 1 [(0, .ref (ad k))] := hl
  refine lv_aload_n hx hb (dk kX6_firstError_ok 0 rfl) rfl (lv_at hl 0 rfl) ?_
  refine lv_iconst (v := nI 0) hx hb (dk kX6_firstError_ok 1 rfl) rfl ?_
  refine pf (rfSet cI ad F k r ps sl sd ne fa bu hs st ln pt (nI 0)) hx hb hts (fun w h => List.mem_cons_of_mem _ (acX6 w h)) tyX6 tyX6_ok nmX6 hown hK hDi hP hS hk0 rfSet_at.1 rfl 11 (by decide) (hts _ (List.mem_cons_of_mem _ (ac18 _ (List.mem_of_getElem? (i := 4) rfl)))) (fun _ h => h) rfl (ty := .int) rfl rfl rfl (Nat.le_of_ble_eq_true rfl) (dk kX6_firstError_ok 2 rfl) rfSet_u0 (fun H locs hP hS => ?_)
  refine lv_aload_n hx hb (dk kX6_firstError_ok 3 rfl) rfl (lv_at hl 0 rfl) ?_
  refine cvD (As := []) (rest := []) (rfSet cI ad F k r ps sl sd ne fa bu hs st ln ((rwh bu ln).2) (nI 0)) ⟨hx, hb, hml, hown, hts⟩ (tX6_isWhole l D cI cQ cL ad N (rfSet cI ad F k r ps sl sd ne fa bu hs st ln pt (nI 0)) k hk r ps sl sd ne fa bu hs st ln pt (nI 0) (rfSet_at) hln) (cwV9 0 hts mcX6_isWhole (ac22 _ (List.mem_of_getElem? (i := 1) rfl)) miX6_isWhole meX6_isWhole mini_RX6 rfl rfl hdX6_isWhole ⟨Nat.le_of_ble_eq_true rfl, Nat.le_of_ble_eq_true rfl⟩) hDi hK hP hNW hS hk0 rfSet_at.1 rfl rfl hl.1 rfl (Nat.le_of_ble_eq_true rfl) (by decide) (dk kX6_firstError_ok 4 rfl) rfSet_rfSet (fun H locs hP hS => ?_)
  refine b_if_eq (tgt := 19) hx hb (dk kX6_firstError_ok 5 rfl) (by decide) (fun h1 => ?_) (fun h1 => ?_)
  · skip
    refine lv_aload_n hx hb (dk kX6_firstError_ok 9 rfl) rfl (lv_at hl 0 rfl) ?_
    refine gf hx hb hts (fun w h => List.mem_cons_of_mem _ (acX6 w h)) hown hK hP hk0 rfSet_at.1 rfl 10 (by decide) (hts _ (List.mem_cons_of_mem _ (ac21 _ (List.mem_of_getElem? (i := 16) rfl)))) (fun _ h => h) rfl (dk kX6_firstError_ok 10 rfl) ?_
    exact hret _ _ _ _ _ _ _ _ rfl (by simp only [dp, h1, not_true_eq_false, not_false_eq_true, and_true, true_and, and_false, false_and, or_true, true_or, or_false, false_or, and_self, or_self, if_true, if_false, Bool.false_eq_true, reduceIte]) hP hS (by decide) (by decide) (dk kX6_firstError_ok 11 rfl)
  · skip
    refine lv_aload_n hx hb (dk kX6_firstError_ok 6 rfl) rfl (lv_at hl 0 rfl) ?_
    refine gf hx hb hts (fun w h => List.mem_cons_of_mem _ (acX6 w h)) hown hK hP hk0 rfSet_at.1 rfl 9 (by decide) (hts _ (List.mem_cons_of_mem _ (ac21 _ (List.mem_of_getElem? (i := 15) rfl)))) (fun _ h => h) rfl (dk kX6_firstError_ok 7 rfl) ?_
    refine lv_goto (tgt := 23) hx hb (dk kX6_firstError_ok 8 rfl) (by decide) ?_
    exact hret _ _ _ _ _ _ _ _ rfl (by simp only [dp, h1, not_true_eq_false, not_false_eq_true, and_true, true_and, and_false, false_and, or_true, true_or, or_false, false_or, and_self, or_self, if_true, if_false, Bool.false_eq_true, reduceIte]) hP hS (by decide) (by decide) (dk kX6_firstError_ok 11 rfl)
set_option maxRecDepth 100000 in
set_option maxHeartbeats 4000000 in
theorem tX6_brings (l : Launch) (D : va_G) (cI cQ cL : ClassId) (ad : Nat → Nat) (N : Nat) (F : Nat → va_E) (k : Nat) (hk : k + 7 < N) (r ps sl sd ne fa bu : Nat → Int32) (hs : Bool) (st ln pt : Nat) (th : Int32) (hR : rfAt cI ad F k r ps sl sd ne fa bu hs st ln pt th) (x : Int32) (w : Nat) (hxw : x = nI w) (hw : w < 16) (y : Int32) (d : Nat) (hyd : y = nI d) (hd : d < 8) (z : Int32) (f : Nat) (hzf : z = nI f) (hf : f < 2 ^ 30) (v : Int32) (a : Nat) (hva : v = nI a) (ha : a < 2 ^ 31) (hrk : rok r) (hwn : rwn r w = 0) : MX l yX6_brings (Cond.code yX6_brings cX6_brings 8 (some .int) :: AW) ({ frames := 5, cells := 0, slots := 0, locals := 109 } : Room) D cI cQ cL ad N F [.ref (ad k), .int x, .int y, .int z, .int v] (dp (some (.int (aBr r w d f a))) (rfSet cI ad F k r ps sl r ne fa bu hs st ln pt th)) 0 0 := by
  refine mx_i (ty := .int) (by decide +kernel) rfl (Nat.le_of_ble_eq_true rfl) (fun p e s m below meth cd Q ls hx hb hml hown hts hDi hP hK hNW hS hret hl => ?_)
  have hown : s.vm.findClass RX6 = some m.cls := hown
  subst hxw
  subst hyd
  subst hzf
  subst hva
  have hk0 : k < N := by omega
  have hk1 : k + 1 < N := by omega
  have hk2 : k + 2 < N := by omega
  have hk3 : k + 3 < N := by omega
  have hk4 : k + 4 < N := by omega
  have hk5 : k + 5 < N := by omega
  have hk6 : k + 6 < N := by omega
  have hk7 : k + 7 < N := by omega
  have hP : va_P D vwCl (iW ad N (rfSet cI ad F k r ps sl sd ne fa bu hs st ln pt th)) s.heap := by rw [rfSet_self hR]; exact hP
  have hl : lv_has ls 8 [(0, .ref (ad k)), (1, .int (nI w)), (2, .int (nI d)), (3, .int (nI f)), (4, .int (nI a))] := hl
  refine lv_aload_n hx hb (dk kX6_brings_ok 0 rfl) rfl (lv_at hl 0 rfl) ?_
  refine cvDv (As := []) (rest := []) (rfSet cI ad F k r ps sl r ne fa bu hs st ln pt th) ⟨hx, hb, hml, hown, hts⟩ (tX6_putAside l D cI cQ cL ad N (rfSet cI ad F k r ps sl sd ne fa bu hs st ln pt th) k hk r ps sl sd ne fa bu hs st ln pt th (rfSet_at)) (cwV9 0 hts mcX6_putAside (ac24 _ (List.mem_of_getElem? (i := 14) rfl)) miX6_putAside meX6_putAside mini_RX6 rfl rfl hdX6_putAside ⟨Nat.le_of_ble_eq_true rfl, Nat.le_of_ble_eq_true rfl⟩) hDi hK hP hNW hS hk0 rfSet_at.1 rfl rfl hl.1 rfl (Nat.le_of_ble_eq_true rfl) (by decide) (dk kX6_brings_ok 1 rfl) rfSet_rfSet (fun H locs hP hS => ?_)
  refine lv_aload_n hx hb (dk kX6_brings_ok 2 rfl) rfl (lv_at hl 0 rfl) ?_
  refine lv_iload_n hx hb (dk kX6_brings_ok 3 rfl) rfl (lv_at hl 1 rfl) ?_
  refine lv_iload_n hx hb (dk kX6_brings_ok 4 rfl) rfl (lv_at hl 2 rfl) ?_
  refine lv_iload_n hx hb (dk kX6_brings_ok 5 rfl) rfl (lv_at hl 3 rfl) ?_
  refine cvD (As := [.int (nI w), .int (nI d), .int (nI f)]) (rest := []) (rfSet cI ad F k (rfx r w (ldg (r w) (nI d) (stp w f)) (ix (r 56))) ps sl r ne fa bu hs st ln pt th) ⟨hx, hb, hml, hown, hts⟩ (tX6_flies l D cI cQ cL ad N (rfSet cI ad F k r ps sl r ne fa bu hs st ln pt th) k hk r ps sl r ne fa bu hs st ln pt th (rfSet_at) (nI w) w rfl (by omega) (nI d) d rfl (by omega) (nI f) f rfl (by omega) (rok_c9 hrk hw hwn) (rok_l0 hrk hw hwn) (ix (r 56)) hrk.1.1 hrk.1.2 hrk.2.1) (cwV9 3 hts mcX6_flies (ac21 _ (List.mem_of_getElem? (i := 3) rfl)) miX6_flies meX6_flies mini_RX6 rfl rfl hdX6_flies ⟨Nat.le_of_ble_eq_true rfl, Nat.le_of_ble_eq_true rfl⟩) hDi hK hP hNW hS hk0 rfSet_at.1 rfl rfl hl.1 rfl (Nat.le_of_ble_eq_true rfl) (by decide) (dk kX6_brings_ok 6 rfl) rfSet_rfSet (fun H locs hP hS => ?_)
  refine lv_istore (lv' := [(5, .int (fans (ldg (r w) (nI d) (stp w f)))), (0, .ref (ad k)), (1, .int (nI w)), (2, .int (nI d)), (3, .int (nI f)), (4, .int (nI a))]) hx hb (dk kX6_brings_ok 7 rfl) hl (by decide) rfl (fun ls hl => ?_)
  refine lv_iconst (v := nI 1) hx hb (dk kX6_brings_ok 8 rfl) rfl ?_
  refine lv_iload_n hx hb (dk kX6_brings_ok 9 rfl) rfl (lv_at hl 2 rfl) ?_
  refine lv_iconst (v := nI 4) hx hb (dk kX6_brings_ok 10 rfl) rfl ?_
  refine n_idiv hx hb (by omega) (by decide) (by decide) (dk kX6_brings_ok 11 rfl) ?_
  refine lv_iconst (v := nI 2) hx hb (dk kX6_brings_ok 12 rfl) rfl ?_
  refine n_irem hx hb (by omega) (by decide) (by decide) (dk kX6_brings_ok 13 rfl) ?_
  refine n_isub hx hb (by omega) (dk kX6_brings_ok 14 rfl) ?_
  refine lv_istore (lv' := [(6, .int (nI (1 - ((w / 4) % 2)))), (5, .int (fans (ldg (r w) (nI d) (stp w f)))), (0, .ref (ad k)), (1, .int (nI w)), (2, .int (nI d)), (3, .int (nI f)), (4, .int (nI a))]) hx hb (dk kX6_brings_ok 15 rfl) hl (by decide) rfl (fun ls hl => ?_)
  refine lv_iload hx hb (dk kX6_brings_ok 16 rfl) (lv_at hl 6 rfl) ?_
  refine n_if_ne (tgt := 45) hx hb (by omega) (dk kX6_brings_ok 17 rfl) (by decide) (fun h1 => ?_) (fun h1 => ?_)
  · skip
    refine lv_aload_n hx hb (dk kX6_brings_ok 28 rfl) rfl (lv_at hl 2 rfl) ?_
    refine lv_iload hx hb (dk kX6_brings_ok 29 rfl) (lv_at hl 0 rfl) ?_
    refine cvR (As := [.int (nI (1 - ((w / 4) % 2)))]) (rest := []) ⟨hx, hb, hml, hown, hts⟩ (tX6_coveredOf l D cI cQ cL ad N (rfSet cI ad F k (rfx r w (ldg (r w) (nI d) (stp w f)) (ix (r 56))) ps sl r ne fa bu hs st ln pt th) k hk (rfx r w (ldg (r w) (nI d) (stp w f)) (ix (r 56))) ps sl r ne fa bu hs st ln pt th (rfSet_at) (nI (1 - ((w / 4) % 2))) (1 - ((w / 4) % 2)) rfl (by omega)) (cwV9 1 hts mcX6_coveredOf (ac23 _ (List.mem_of_getElem? (i := 2) rfl)) miX6_coveredOf meX6_coveredOf mini_RX6 rfl rfl hdX6_coveredOf ⟨Nat.le_of_ble_eq_true rfl, Nat.le_of_ble_eq_true rfl⟩) hK hP hNW hk0 rfSet_at.1 rfl rfl hl.1 rfl (Nat.le_of_ble_eq_true rfl) (by decide) (dk kX6_brings_ok 30 rfl) ?_
    refine lv_aload_n hx hb (dk kX6_brings_ok 31 rfl) rfl (lv_at hl 2 rfl) ?_
    refine lv_iload hx hb (dk kX6_brings_ok 32 rfl) (lv_at hl 0 rfl) ?_
    refine lv_iconst (v := nI 2) hx hb (dk kX6_brings_ok 33 rfl) rfl ?_
    refine n_iadd hx hb (dk kX6_brings_ok 34 rfl) ?_
    refine cvR (As := [.int (nI ((1 - ((w / 4) % 2)) + 2))]) (rest := [.int (nI (rcc (rfx r w (ldg (r w) (nI d) (stp w f)) (ix (r 56))) (1 - ((w / 4) % 2))))]) ⟨hx, hb, hml, hown, hts⟩ (tX6_coveredOf l D cI cQ cL ad N (rfSet cI ad F k (rfx r w (ldg (r w) (nI d) (stp w f)) (ix (r 56))) ps sl r ne fa bu hs st ln pt th) k hk (rfx r w (ldg (r w) (nI d) (stp w f)) (ix (r 56))) ps sl r ne fa bu hs st ln pt th (rfSet_at) (nI ((1 - ((w / 4) % 2)) + 2)) ((1 - ((w / 4) % 2)) + 2) rfl (by omega)) (cwV9 1 hts mcX6_coveredOf (ac23 _ (List.mem_of_getElem? (i := 2) rfl)) miX6_coveredOf meX6_coveredOf mini_RX6 rfl rfl hdX6_coveredOf ⟨Nat.le_of_ble_eq_true rfl, Nat.le_of_ble_eq_true rfl⟩) hK hP hNW hk0 rfSet_at.1 rfl rfl hl.1 rfl (Nat.le_of_ble_eq_true rfl) (by decide) (dk kX6_brings_ok 35 rfl) ?_
    refine n_iadd hx hb (dk kX6_brings_ok 36 rfl) ?_
    refine lv_istore (lv' := [(7, .int (nI ((rcc (rfx r w (ldg (r w) (nI d) (stp w f)) (ix (r 56))) (1 - ((w / 4) % 2))) + (rcc (rfx r w (ldg (r w) (nI d) (stp w f)) (ix (r 56))) ((1 - ((w / 4) % 2)) + 2))))), (6, .int (nI (1 - ((w / 4) % 2)))), (5, .int (fans (ldg (r w) (nI d) (stp w f)))), (0, .ref (ad k)), (1, .int (nI w)), (2, .int (nI d)), (3, .int (nI f)), (4, .int (nI a))]) hx hb (dk kX6_brings_ok 37 rfl) hl (by decide) rfl (fun ls hl => ?_)
    refine lv_aload_n hx hb (dk kX6_brings_ok 38 rfl) rfl (lv_at hl 3 rfl) ?_
    refine cvDv (As := []) (rest := []) (rfSet cI ad F k r ps sl r ne fa bu hs st ln pt th) ⟨hx, hb, hml, hown, hts⟩ (tX6_takeBack l D cI cQ cL ad N (rfSet cI ad F k (rfx r w (ldg (r w) (nI d) (stp w f)) (ix (r 56))) ps sl r ne fa bu hs st ln pt th) k hk (rfx r w (ldg (r w) (nI d) (stp w f)) (ix (r 56))) ps sl r ne fa bu hs st ln pt th (rfSet_at)) (cwV9 0 hts mcX6_takeBack (ac24 _ (List.mem_of_getElem? (i := 18) rfl)) miX6_takeBack meX6_takeBack mini_RX6 rfl rfl hdX6_takeBack ⟨Nat.le_of_ble_eq_true rfl, Nat.le_of_ble_eq_true rfl⟩) hDi hK hP hNW hS hk0 rfSet_at.1 rfl rfl hl.1 rfl (Nat.le_of_ble_eq_true rfl) (by decide) (dk kX6_brings_ok 39 rfl) rfSet_rfSet (fun H locs hP hS => ?_)
    refine lv_iload hx hb (dk kX6_brings_ok 40 rfl) (lv_at hl 0 rfl) ?_
    exact hret _ _ _ _ _ _ _ _ rfl (by simp only [dp, aBr, rFx, (eq_false h1), not_true_eq_false, not_false_eq_true, and_true, true_and, and_false, false_and, or_true, true_or, or_false, false_or, and_self, or_self, if_true, if_false, Bool.false_eq_true, reduceIte]; first | done | exact ⟨rfl, rfl⟩) hP hS (by decide) (by decide) (dk kX6_brings_ok 41 rfl)
  · skip
    refine lv_aload_n hx hb (dk kX6_brings_ok 18 rfl) rfl (lv_at hl 2 rfl) ?_
    refine lv_iconst (v := nI 1) hx hb (dk kX6_brings_ok 19 rfl) rfl ?_
    refine lv_iload hx hb (dk kX6_brings_ok 20 rfl) (lv_at hl 0 rfl) ?_
    refine n_isub hx hb (by omega) (dk kX6_brings_ok 21 rfl) ?_
    refine cvR (As := [.int (nI (1 - (1 - ((w / 4) % 2))))]) (rest := []) ⟨hx, hb, hml, hown, hts⟩ (tX6_team l D cI cQ cL ad N (rfSet cI ad F k (rfx r w (ldg (r w) (nI d) (stp w f)) (ix (r 56))) ps sl r ne fa bu hs st ln pt th) k hk (rfx r w (ldg (r w) (nI d) (stp w f)) (ix (r 56))) ps sl r ne fa bu hs st ln pt th (rfSet_at) (nI (1 - (1 - ((w / 4) % 2)))) (1 - (1 - ((w / 4) % 2))) rfl (by omega)) (cwV9 1 hts mcX6_team (ac24 _ (List.mem_of_getElem? (i := 2) rfl)) miX6_team meX6_team mini_RX6 rfl rfl hdX6_team ⟨Nat.le_of_ble_eq_true rfl, Nat.le_of_ble_eq_true rfl⟩) hK hP hNW hk0 rfSet_at.1 rfl rfl hl.1 rfl (Nat.le_of_ble_eq_true rfl) (by decide) (dk kX6_brings_ok 22 rfl) ?_
    refine lv_aload_n hx hb (dk kX6_brings_ok 23 rfl) rfl (lv_at hl 2 rfl) ?_
    refine lv_iload hx hb (dk kX6_brings_ok 24 rfl) (lv_at hl 0 rfl) ?_
    refine cvR (As := [.int (nI (1 - ((w / 4) % 2)))]) (rest := [.int (nI (rtm (rfx r w (ldg (r w) (nI d) (stp w f)) (ix (r 56))) (1 - (1 - ((w / 4) % 2)))))]) ⟨hx, hb, hml, hown, hts⟩ (tX6_team l D cI cQ cL ad N (rfSet cI ad F k (rfx r w (ldg (r w) (nI d) (stp w f)) (ix (r 56))) ps sl r ne fa bu hs st ln pt th) k hk (rfx r w (ldg (r w) (nI d) (stp w f)) (ix (r 56))) ps sl r ne fa bu hs st ln pt th (rfSet_at) (nI (1 - ((w / 4) % 2))) (1 - ((w / 4) % 2)) rfl (by omega)) (cwV9 1 hts mcX6_team (ac24 _ (List.mem_of_getElem? (i := 2) rfl)) miX6_team meX6_team mini_RX6 rfl rfl hdX6_team ⟨Nat.le_of_ble_eq_true rfl, Nat.le_of_ble_eq_true rfl⟩) hK hP hNW hk0 rfSet_at.1 rfl rfl hl.1 rfl (Nat.le_of_ble_eq_true rfl) (by decide) (dk kX6_brings_ok 25 rfl) ?_
    refine lv_isub hx hb (dk kX6_brings_ok 26 rfl) ?_
    refine lv_goto (tgt := 60) hx hb (dk kX6_brings_ok 27 rfl) (by decide) ?_
    refine lv_istore (lv' := [(7, .int ((nI (rtm (rfx r w (ldg (r w) (nI d) (stp w f)) (ix (r 56))) (1 - (1 - ((w / 4) % 2))))) - (nI (rtm (rfx r w (ldg (r w) (nI d) (stp w f)) (ix (r 56))) (1 - ((w / 4) % 2)))))), (6, .int (nI (1 - ((w / 4) % 2)))), (5, .int (fans (ldg (r w) (nI d) (stp w f)))), (0, .ref (ad k)), (1, .int (nI w)), (2, .int (nI d)), (3, .int (nI f)), (4, .int (nI a))]) hx hb (dk kX6_brings_ok 37 rfl) hl (by decide) rfl (fun ls hl => ?_)
    refine lv_aload_n hx hb (dk kX6_brings_ok 38 rfl) rfl (lv_at hl 3 rfl) ?_
    refine cvDv (As := []) (rest := []) (rfSet cI ad F k r ps sl r ne fa bu hs st ln pt th) ⟨hx, hb, hml, hown, hts⟩ (tX6_takeBack l D cI cQ cL ad N (rfSet cI ad F k (rfx r w (ldg (r w) (nI d) (stp w f)) (ix (r 56))) ps sl r ne fa bu hs st ln pt th) k hk (rfx r w (ldg (r w) (nI d) (stp w f)) (ix (r 56))) ps sl r ne fa bu hs st ln pt th (rfSet_at)) (cwV9 0 hts mcX6_takeBack (ac24 _ (List.mem_of_getElem? (i := 18) rfl)) miX6_takeBack meX6_takeBack mini_RX6 rfl rfl hdX6_takeBack ⟨Nat.le_of_ble_eq_true rfl, Nat.le_of_ble_eq_true rfl⟩) hDi hK hP hNW hS hk0 rfSet_at.1 rfl rfl hl.1 rfl (Nat.le_of_ble_eq_true rfl) (by decide) (dk kX6_brings_ok 39 rfl) rfSet_rfSet (fun H locs hP hS => ?_)
    refine lv_iload hx hb (dk kX6_brings_ok 40 rfl) (lv_at hl 0 rfl) ?_
    exact hret _ _ _ _ _ _ _ _ rfl (by simp only [dp, aBr, rFx, (eq_true h1), not_true_eq_false, not_false_eq_true, and_true, true_and, and_false, false_and, or_true, true_or, or_false, false_or, and_self, or_self, if_true, if_false, Bool.false_eq_true, reduceIte]; first | done | exact ⟨rfl, rfl⟩) hP hS (by decide) (by decide) (dk kX6_brings_ok 41 rfl)
set_option maxRecDepth 100000 in
set_option maxHeartbeats 4000000 in
theorem tX6_bestFlight (l : Launch) (D : va_G) (cI cQ cL : ClassId) (ad : Nat → Nat) (N : Nat) (F : Nat → va_E) (k : Nat) (hk : k + 7 < N) (r ps sl sd ne fa bu : Nat → Int32) (hs : Bool) (st ln pt : Nat) (th : Int32) (hR : rfAt cI ad F k r ps sl sd ne fa bu hs st ln pt th) (hrk : rok r) : MX l yX6_bestFlight (Cond.code yX6_bestFlight cX6_bestFlight 8 (some .int) :: AW) ({ frames := 6, cells := 0, slots := 0, locals := 136 } : Room) D cI cQ cL ad N F [.ref (ad k)] (dp (some (.int ((rbst r sd 288).1))) (rfSet cI ad F k r ps sl ((rbst r sd 288).2.2) ne fa bu hs st ln pt th)) 0 0 := by
  refine mx_i (ty := .int) (by decide +kernel) rfl (Nat.le_of_ble_eq_true rfl) (fun p e s m below meth cd Q ls hx hb hml hown hts hDi hP hK hNW hS hret hl => ?_)
  have hown : s.vm.findClass RX6 = some m.cls := hown
  have ht9 := hrk.1.1
  have hk0 : k < N := by omega
  have hk1 : k + 1 < N := by omega
  have hk2 : k + 2 < N := by omega
  have hk3 : k + 3 < N := by omega
  have hk4 : k + 4 < N := by omega
  have hk5 : k + 5 < N := by omega
  have hk6 : k + 6 < N := by omega
  have hk7 : k + 7 < N := by omega
  have hP : va_P D vwCl (iW ad N (rfSet cI ad F k r ps sl sd ne fa bu hs st ln pt th)) s.heap := by rw [rfSet_self hR]; exact hP
  have hl : lv_has ls 8 [(0, .ref (ad k))] := hl
  refine lv_iconst (v := -1) hx hb (dk kX6_bestFlight_0_ok 0 rfl) rfl ?_
  refine lv_istore_n (lv' := [(1, .int (-1)), (0, .ref (ad k))]) hx hb (dk kX6_bestFlight_0_ok 1 rfl) rfl hl (by decide) rfl (fun ls hl => ?_)
  refine lv_iconst (v := nI 0) hx hb (dk kX6_bestFlight_0_ok 2 rfl) rfl ?_
  refine lv_istore_n (lv' := [(2, .int (nI 0)), (1, .int (-1)), (0, .ref (ad k))]) hx hb (dk kX6_bestFlight_0_ok 3 rfl) rfl hl (by decide) rfl (fun ls hl => ?_)
  refine lv_iconst (v := nI 0) hx hb (dk kX6_bestFlight_0_ok 4 rfl) rfl ?_
  refine lv_istore_n (lv' := [(3, .int (nI 0)), (2, .int (nI 0)), (1, .int (-1)), (0, .ref (ad k))]) hx hb (dk kX6_bestFlight_0_ok 5 rfl) rfl hl (by decide) rfl (fun ls hl => ?_)
  have L6 : ∀ (fu : Nat) (i : Nat) (x1 : Int32) (x2 : Int32) (H : Heap) (locs : List Loc), va_P D vwCl (iW ad N (rfSet cI ad F k r ps sl ((rbst r sd i).2.2) ne fa bu hs st ln pt th)) H → va_S (iA ad N s.heap.size) s.heap H locs → x1 = (rbst r sd i).1 → x2 = (rbst r sd i).2.1 → i ≤ 288 → 288 - i < fu → ∀ ls : Array Slot, lv_has ls 8 [(0, .ref (ad k)), (1, .int x1), (2, .int x2), (3, .int (nI i))] → W p l e ({ frames := 6, cells := 0, slots := 0, locals := 136 } : Room) s m ([.ref (ad k)] : List Value).toArray below meth cd H locs 0 0 Q (F0 m 6 ls []) := by
    intro fu
    induction fu with
    | zero => intros; omega
    | succ fu ih6 =>
      intro i x1 x2 H locs hP hS ex1 ex2 hi hm6 ls hl
      subst ex1
      subst ex2
      refine lv_iload_n hx hb (dk kX6_bestFlight_0_ok 6 rfl) rfl (lv_at hl 3 rfl) ?_
      refine lv_sipush (v := nI 288) hx hb (dk kX6_bestFlight_0_ok 7 rfl) rfl ?_
      refine n_icmp_ge (tgt := 118) hx hb (by first | omega | (have q1 := rwn_le r (4 * ix (r 56) + i / 72); omega)) (by decide) (dk kX6_bestFlight_0_ok 8 rfl) (by decide) (fun h1 => ?_) (fun h1 => ?_)
      · skip
        refine lv_iload_n hx hb (dk kX6_bestFlight_1_ok 12 rfl) rfl (lv_at hl 1 rfl) ?_
        exact hret _ _ _ _ _ _ _ _ rfl (by rw [show i = 288 by omega]; exact ⟨rfl, rfl⟩) hP hS (by decide) (by decide) (dk kX6_bestFlight_1_ok 13 rfl)
      · skip
        refine lv_iconst (v := nI 4) hx hb (dk kX6_bestFlight_0_ok 9 rfl) rfl ?_
        refine lv_aload_n hx hb (dk kX6_bestFlight_0_ok 10 rfl) rfl (lv_at hl 0 rfl) ?_
        refine gf hx hb hts (fun w h => List.mem_cons_of_mem _ (acX6 w h)) hown hK hP hk0 rfSet_at.1 rfl 0 (by decide) (hts _ (List.mem_cons_of_mem _ (ac17 _ (List.mem_of_getElem? (i := 17) rfl)))) (fun _ h => h) rfl (dk kX6_bestFlight_0_ok 11 rfl) ?_
        refine lv_bipush (v := nI 56) hx hb (dk kX6_bestFlight_0_ok 12 rfl) rfl ?_
        refine ald (j := 56) hx hb hK hP hk1 rfSet_at.2.1 rfl (by omega) (by decide) (dk kX6_bestFlight_0_ok 13 rfl) ?_
        rw [show r 56 = nI (ix (r 56)) from hrk.1.2]
        refine n_imul hx hb (dk kX6_bestFlight_0_ok 14 rfl) ?_
        refine lv_iload_n hx hb (dk kX6_bestFlight_0_ok 15 rfl) rfl (lv_at hl 3 rfl) ?_
        refine lv_bipush (v := nI 72) hx hb (dk kX6_bestFlight_0_ok 16 rfl) rfl ?_
        refine n_idiv hx hb (by first | omega | (have q1 := rwn_le r (4 * ix (r 56) + i / 72); omega)) (by decide) (by decide) (dk kX6_bestFlight_0_ok 17 rfl) ?_
        refine n_iadd hx hb (dk kX6_bestFlight_0_ok 18 rfl) ?_
        refine lv_istore (lv' := [(4, .int (nI ((4 * (ix (r 56))) + (i / 72)))), (0, .ref (ad k)), (1, .int ((rbst r sd i).1)), (2, .int ((rbst r sd i).2.1)), (3, .int (nI i))]) hx hb (dk kX6_bestFlight_0_ok 19 rfl) hl (by decide) rfl (fun ls hl => ?_)
        refine lv_aload_n hx hb (dk kX6_bestFlight_0_ok 20 rfl) rfl (lv_at hl 1 rfl) ?_
        refine lv_iload hx hb (dk kX6_bestFlight_0_ok 21 rfl) (lv_at hl 0 rfl) ?_
        refine cvR (As := [.int (nI ((4 * (ix (r 56))) + (i / 72)))]) (rest := []) ⟨hx, hb, hml, hown, hts⟩ (tX6_whyNot l D cI cQ cL ad N (rfSet cI ad F k r ps sl ((rbst r sd i).2.2) ne fa bu hs st ln pt th) k hk r ps sl ((rbst r sd i).2.2) ne fa bu hs st ln pt th (rfSet_at) (nI ((4 * (ix (r 56))) + (i / 72))) ((4 * (ix (r 56))) + (i / 72)) rfl (by omega)) (cwV9 1 hts mcX6_whyNot (ac20 _ (List.mem_of_getElem? (i := 19) rfl)) miX6_whyNot meX6_whyNot mini_RX6 rfl rfl hdX6_whyNot ⟨Nat.le_of_ble_eq_true rfl, Nat.le_of_ble_eq_true rfl⟩) hK hP hNW hk0 rfSet_at.1 rfl rfl hl.1 rfl (Nat.le_of_ble_eq_true rfl) (by decide) (dk kX6_bestFlight_0_ok 22 rfl) ?_
        refine n_if_ne (tgt := 112) hx hb (by first | omega | (have q1 := rwn_le r (4 * ix (r 56) + i / 72); omega)) (dk kX6_bestFlight_0_ok 23 rfl) (by decide) (fun h2 => ?_) (fun h2 => ?_)
        · skip
          refine lv_iinc (v := nI (i + 1)) (lv' := [(3, .int (nI (i + 1))), (4, .int (nI ((4 * (ix (r 56))) + (i / 72)))), (0, .ref (ad k)), (1, .int ((rbst r sd i).1)), (2, .int ((rbst r sd i).2.1))]) hx hb (dk kX6_bestFlight_1_ok 10 rfl) hl (k := 4) rfl (n_inc _) (by decide) rfl (fun ls hl => ?_)
          refine lv_goto (tgt := 6) hx hb (dk kX6_bestFlight_1_ok 11 rfl) (by decide) ?_
          exact ih6 (i + 1) _ _ _ _ (by first | exact hP | (simp only [rbst, rbW, rbI, (eq_true h1), (eq_false (Nat.not_le.mpr h1)), (eq_false h2), not_true_eq_false, not_false_eq_true, and_true, true_and, and_false, false_and, or_true, true_or, or_false, false_or, and_self, or_self, if_true, if_false, Bool.false_eq_true, reduceIte]; exact hP)) hS (by simp only [rbst, rbW, rbI, (eq_true h1), (eq_false (Nat.not_le.mpr h1)), (eq_false h2), not_true_eq_false, not_false_eq_true, and_true, true_and, and_false, false_and, or_true, true_or, or_false, false_or, and_self, or_self, if_true, if_false, Bool.false_eq_true, reduceIte]) (by simp only [rbst, rbW, rbI, (eq_true h1), (eq_false (Nat.not_le.mpr h1)), (eq_false h2), not_true_eq_false, not_false_eq_true, and_true, true_and, and_false, false_and, or_true, true_or, or_false, false_or, and_self, or_self, if_true, if_false, Bool.false_eq_true, reduceIte]) (by omega) (by omega) ls (lv_sub hl [2, 3, 4, 0] rfl)
        · skip
          refine lv_iload_n hx hb (dk kX6_bestFlight_0_ok 24 rfl) rfl (lv_at hl 4 rfl) ?_
          refine lv_bipush (v := nI 9) hx hb (dk kX6_bestFlight_0_ok 25 rfl) rfl ?_
          refine n_idiv hx hb (by first | omega | (have q1 := rwn_le r (4 * ix (r 56) + i / 72); omega)) (by decide) (by decide) (dk kX6_bestFlight_0_ok 26 rfl) ?_
          refine lv_bipush (v := nI 8) hx hb (dk kX6_bestFlight_0_ok 27 rfl) rfl ?_
          refine n_irem hx hb (by first | omega | (have q1 := rwn_le r (4 * ix (r 56) + i / 72); omega)) (by decide) (by decide) (dk kX6_bestFlight_0_ok 28 rfl) ?_
          refine lv_istore (lv' := [(5, .int (nI ((i / 9) % 8))), (4, .int (nI ((4 * (ix (r 56))) + (i / 72)))), (0, .ref (ad k)), (1, .int ((rbst r sd i).1)), (2, .int ((rbst r sd i).2.1)), (3, .int (nI i))]) hx hb (dk kX6_bestFlight_0_ok 29 rfl) hl (by decide) rfl (fun ls hl => ?_)
          refine lv_iload_n hx hb (dk kX6_bestFlight_0_ok 30 rfl) rfl (lv_at hl 5 rfl) ?_
          refine lv_bipush (v := nI 9) hx hb (dk kX6_bestFlight_0_ok 31 rfl) rfl ?_
          refine n_irem hx hb (by first | omega | (have q1 := rwn_le r (4 * ix (r 56) + i / 72); omega)) (by decide) (by decide) (dk kX6_bestFlight_0_ok 32 rfl) ?_
          refine lv_iconst (v := nI 1) hx hb (dk kX6_bestFlight_0_ok 33 rfl) rfl ?_
          refine n_iadd hx hb (dk kX6_bestFlight_0_ok 34 rfl) ?_
          refine lv_istore (lv' := [(6, .int (nI ((i % 9) + 1))), (5, .int (nI ((i / 9) % 8))), (4, .int (nI ((4 * (ix (r 56))) + (i / 72)))), (0, .ref (ad k)), (1, .int ((rbst r sd i).1)), (2, .int ((rbst r sd i).2.1)), (3, .int (nI i))]) hx hb (dk kX6_bestFlight_0_ok 35 rfl) hl (by decide) rfl (fun ls hl => ?_)
          refine lv_bipush (v := nI 100) hx hb (dk kX6_bestFlight_0_ok 36 rfl) rfl ?_
          refine lv_aload_n hx hb (dk kX6_bestFlight_0_ok 37 rfl) rfl (lv_at hl 3 rfl) ?_
          refine lv_iload hx hb (dk kX6_bestFlight_0_ok 38 rfl) (lv_at hl 2 rfl) ?_
          refine lv_iload hx hb (dk kX6_bestFlight_0_ok 39 rfl) (lv_at hl 1 rfl) ?_
          refine lv_iload hx hb (dk kX6_bestFlight_0_ok 40 rfl) (lv_at hl 0 rfl) ?_
          refine lv_iconst (v := nI 0) hx hb (dk kX6_bestFlight_0_ok 41 rfl) rfl ?_
          refine cvD (As := [.int (nI ((4 * (ix (r 56))) + (i / 72))), .int (nI ((i / 9) % 8)), .int (nI ((i % 9) + 1)), .int (nI 0)]) (rest := [.int (nI 100)]) (rfSet cI ad F k r ps sl r ne fa bu hs st ln pt th) ⟨hx, hb, hml, hown, hts⟩ (tX6_brings l D cI cQ cL ad N (rfSet cI ad F k r ps sl ((rbst r sd i).2.2) ne fa bu hs st ln pt th) k hk r ps sl ((rbst r sd i).2.2) ne fa bu hs st ln pt th (rfSet_at) (nI ((4 * (ix (r 56))) + (i / 72))) ((4 * (ix (r 56))) + (i / 72)) rfl (by omega) (nI ((i / 9) % 8)) ((i / 9) % 8) rfl (by omega) (nI ((i % 9) + 1)) ((i % 9) + 1) rfl (by omega) (nI 0) 0 rfl (by omega) hrk h2) (cwV9 4 hts mcX6_brings (ac24 _ (List.mem_of_getElem? (i := 22) rfl)) miX6_brings meX6_brings mini_RX6 rfl rfl hdX6_brings ⟨Nat.le_of_ble_eq_true rfl, Nat.le_of_ble_eq_true rfl⟩) hDi hK hP hNW hS hk0 rfSet_at.1 rfl rfl hl.1 rfl (Nat.le_of_ble_eq_true rfl) (by decide) (dk kX6_bestFlight_0_ok 42 rfl) rfSet_rfSet (fun H locs hP hS => ?_)
          refine lv_imul hx hb (dk kX6_bestFlight_0_ok 43 rfl) ?_
          refine lv_aload_n hx hb (dk kX6_bestFlight_0_ok 44 rfl) rfl (lv_at hl 3 rfl) ?_
          refine lv_iload hx hb (dk kX6_bestFlight_0_ok 45 rfl) (lv_at hl 2 rfl) ?_
          refine lv_iload hx hb (dk kX6_bestFlight_0_ok 46 rfl) (lv_at hl 1 rfl) ?_
          refine lv_iload hx hb (dk kX6_bestFlight_0_ok 47 rfl) (lv_at hl 0 rfl) ?_
          refine lv_iconst (v := nI 1) hx hb (dk kX6_bestFlight_0_ok 48 rfl) rfl ?_
          refine cvD (As := [.int (nI ((4 * (ix (r 56))) + (i / 72))), .int (nI ((i / 9) % 8)), .int (nI ((i % 9) + 1)), .int (nI 1)]) (rest := [.int ((nI 100) * (aBr r ((4 * (ix (r 56))) + (i / 72)) ((i / 9) % 8) ((i % 9) + 1) 0))]) (rfSet cI ad F k r ps sl r ne fa bu hs st ln pt th) ⟨hx, hb, hml, hown, hts⟩ (tX6_brings l D cI cQ cL ad N (rfSet cI ad F k r ps sl r ne fa bu hs st ln pt th) k hk r ps sl r ne fa bu hs st ln pt th (rfSet_at) (nI ((4 * (ix (r 56))) + (i / 72))) ((4 * (ix (r 56))) + (i / 72)) rfl (by omega) (nI ((i / 9) % 8)) ((i / 9) % 8) rfl (by omega) (nI ((i % 9) + 1)) ((i % 9) + 1) rfl (by omega) (nI 1) 1 rfl (by omega) hrk h2) (cwV9 4 hts mcX6_brings (ac24 _ (List.mem_of_getElem? (i := 22) rfl)) miX6_brings meX6_brings mini_RX6 rfl rfl hdX6_brings ⟨Nat.le_of_ble_eq_true rfl, Nat.le_of_ble_eq_true rfl⟩) hDi hK hP hNW hS hk0 rfSet_at.1 rfl rfl hl.1 rfl (Nat.le_of_ble_eq_true rfl) (by decide) (dk kX6_bestFlight_0_ok 49 rfl) rfSet_rfSet (fun H locs hP hS => ?_)
          refine lv_iadd hx hb (dk kX6_bestFlight_0_ok 50 rfl) ?_
          refine lv_istore (lv' := [(7, .int (((nI 100) * (aBr r ((4 * (ix (r 56))) + (i / 72)) ((i / 9) % 8) ((i % 9) + 1) 0)) + (aBr r ((4 * (ix (r 56))) + (i / 72)) ((i / 9) % 8) ((i % 9) + 1) 1))), (6, .int (nI ((i % 9) + 1))), (5, .int (nI ((i / 9) % 8))), (4, .int (nI ((4 * (ix (r 56))) + (i / 72)))), (0, .ref (ad k)), (1, .int ((rbst r sd i).1)), (2, .int ((rbst r sd i).2.1)), (3, .int (nI i))]) hx hb (dk kX6_bestFlight_0_ok 51 rfl) hl (by decide) rfl (fun ls hl => ?_)
          refine lv_iload_n hx hb (dk kX6_bestFlight_0_ok 52 rfl) rfl (lv_at hl 5 rfl) ?_
          refine lv_iconst (v := -1) hx hb (dk kX6_bestFlight_0_ok 53 rfl) rfl ?_
          refine lv_icmp_eq (tgt := 94) hx hb (dk kX6_bestFlight_0_ok 54 rfl) (by decide) (fun h3 => ?_) (fun h3 => ?_)
          · skip
            refine lv_bipush (v := nI 100) hx hb (dk kX6_bestFlight_0_ok 58 rfl) rfl ?_
            refine lv_iload hx hb (dk kX6_bestFlight_0_ok 59 rfl) (lv_at hl 3 rfl) ?_
            refine n_imul hx hb (dk kX6_bestFlight_1_ok 0 rfl) ?_
            refine lv_bipush (v := nI 10) hx hb (dk kX6_bestFlight_1_ok 1 rfl) rfl ?_
            refine lv_iload hx hb (dk kX6_bestFlight_1_ok 2 rfl) (lv_at hl 2 rfl) ?_
            refine n_imul hx hb (dk kX6_bestFlight_1_ok 3 rfl) ?_
            refine n_iadd hx hb (dk kX6_bestFlight_1_ok 4 rfl) ?_
            refine lv_iload hx hb (dk kX6_bestFlight_1_ok 5 rfl) (lv_at hl 1 rfl) ?_
            refine n_iadd hx hb (dk kX6_bestFlight_1_ok 6 rfl) ?_
            refine lv_istore_n (lv' := [(1, .int (nI (((100 * ((4 * (ix (r 56))) + (i / 72))) + (10 * ((i / 9) % 8))) + ((i % 9) + 1)))), (7, .int (((nI 100) * (aBr r ((4 * (ix (r 56))) + (i / 72)) ((i / 9) % 8) ((i % 9) + 1) 0)) + (aBr r ((4 * (ix (r 56))) + (i / 72)) ((i / 9) % 8) ((i % 9) + 1) 1))), (6, .int (nI ((i % 9) + 1))), (5, .int (nI ((i / 9) % 8))), (4, .int (nI ((4 * (ix (r 56))) + (i / 72)))), (0, .ref (ad k)), (2, .int ((rbst r sd i).2.1)), (3, .int (nI i))]) hx hb (dk kX6_bestFlight_1_ok 7 rfl) rfl hl (by decide) rfl (fun ls hl => ?_)
            refine lv_iload hx hb (dk kX6_bestFlight_1_ok 8 rfl) (lv_at hl 1 rfl) ?_
            refine lv_istore_n (lv' := [(2, .int (((nI 100) * (aBr r ((4 * (ix (r 56))) + (i / 72)) ((i / 9) % 8) ((i % 9) + 1) 0)) + (aBr r ((4 * (ix (r 56))) + (i / 72)) ((i / 9) % 8) ((i % 9) + 1) 1))), (1, .int (nI (((100 * ((4 * (ix (r 56))) + (i / 72))) + (10 * ((i / 9) % 8))) + ((i % 9) + 1)))), (7, .int (((nI 100) * (aBr r ((4 * (ix (r 56))) + (i / 72)) ((i / 9) % 8) ((i % 9) + 1) 0)) + (aBr r ((4 * (ix (r 56))) + (i / 72)) ((i / 9) % 8) ((i % 9) + 1) 1))), (6, .int (nI ((i % 9) + 1))), (5, .int (nI ((i / 9) % 8))), (4, .int (nI ((4 * (ix (r 56))) + (i / 72)))), (0, .ref (ad k)), (3, .int (nI i))]) hx hb (dk kX6_bestFlight_1_ok 9 rfl) rfl hl (by decide) rfl (fun ls hl => ?_)
            refine lv_iinc (v := nI (i + 1)) (lv' := [(3, .int (nI (i + 1))), (2, .int (((nI 100) * (aBr r ((4 * (ix (r 56))) + (i / 72)) ((i / 9) % 8) ((i % 9) + 1) 0)) + (aBr r ((4 * (ix (r 56))) + (i / 72)) ((i / 9) % 8) ((i % 9) + 1) 1))), (1, .int (nI (((100 * ((4 * (ix (r 56))) + (i / 72))) + (10 * ((i / 9) % 8))) + ((i % 9) + 1)))), (7, .int (((nI 100) * (aBr r ((4 * (ix (r 56))) + (i / 72)) ((i / 9) % 8) ((i % 9) + 1) 0)) + (aBr r ((4 * (ix (r 56))) + (i / 72)) ((i / 9) % 8) ((i % 9) + 1) 1))), (6, .int (nI ((i % 9) + 1))), (5, .int (nI ((i / 9) % 8))), (4, .int (nI ((4 * (ix (r 56))) + (i / 72)))), (0, .ref (ad k))]) hx hb (dk kX6_bestFlight_1_ok 10 rfl) hl (k := 7) rfl (n_inc _) (by decide) rfl (fun ls hl => ?_)
            refine lv_goto (tgt := 6) hx hb (dk kX6_bestFlight_1_ok 11 rfl) (by decide) ?_
            exact ih6 (i + 1) _ _ _ _ (by first | exact hP | (simp only [rbst, rbW, rbI, (eq_true h1), (eq_false (Nat.not_le.mpr h1)), (eq_true h2), (eq_true h3), not_true_eq_false, not_false_eq_true, and_true, true_and, and_false, false_and, or_true, true_or, or_false, false_or, and_self, or_self, if_true, if_false, Bool.false_eq_true, reduceIte]; exact hP)) hS (by simp only [rbst, rbW, rbI, (eq_true h1), (eq_false (Nat.not_le.mpr h1)), (eq_true h2), (eq_true h3), not_true_eq_false, not_false_eq_true, and_true, true_and, and_false, false_and, or_true, true_or, or_false, false_or, and_self, or_self, if_true, if_false, Bool.false_eq_true, reduceIte]) (by simp only [rbst, rbW, rbI, (eq_true h1), (eq_false (Nat.not_le.mpr h1)), (eq_true h2), (eq_true h3), not_true_eq_false, not_false_eq_true, and_true, true_and, and_false, false_and, or_true, true_or, or_false, false_or, and_self, or_self, if_true, if_false, Bool.false_eq_true, reduceIte]) (by omega) (by omega) ls (lv_sub hl [7, 2, 1, 0] rfl)
          · skip
            refine lv_iload hx hb (dk kX6_bestFlight_0_ok 55 rfl) (lv_at hl 0 rfl) ?_
            refine lv_iload_n hx hb (dk kX6_bestFlight_0_ok 56 rfl) rfl (lv_at hl 6 rfl) ?_
            refine lv_icmp_le (tgt := 112) hx hb (dk kX6_bestFlight_0_ok 57 rfl) (by decide) (fun h4 => ?_) (fun h4 => ?_)
            · skip
              refine lv_iinc (v := nI (i + 1)) (lv' := [(3, .int (nI (i + 1))), (7, .int (((nI 100) * (aBr r ((4 * (ix (r 56))) + (i / 72)) ((i / 9) % 8) ((i % 9) + 1) 0)) + (aBr r ((4 * (ix (r 56))) + (i / 72)) ((i / 9) % 8) ((i % 9) + 1) 1))), (6, .int (nI ((i % 9) + 1))), (5, .int (nI ((i / 9) % 8))), (4, .int (nI ((4 * (ix (r 56))) + (i / 72)))), (0, .ref (ad k)), (1, .int ((rbst r sd i).1)), (2, .int ((rbst r sd i).2.1))]) hx hb (dk kX6_bestFlight_1_ok 10 rfl) hl (k := 7) rfl (n_inc _) (by decide) rfl (fun ls hl => ?_)
              refine lv_goto (tgt := 6) hx hb (dk kX6_bestFlight_1_ok 11 rfl) (by decide) ?_
              exact ih6 (i + 1) _ _ _ _ (by first | exact hP | (simp only [rbst, rbW, rbI, (eq_true h1), (eq_false (Nat.not_le.mpr h1)), (eq_true h2), (eq_false h3), (eq_true h4), not_true_eq_false, not_false_eq_true, and_true, true_and, and_false, false_and, or_true, true_or, or_false, false_or, and_self, or_self, if_true, if_false, Bool.false_eq_true, reduceIte]; exact hP)) hS (by simp only [rbst, rbW, rbI, (eq_true h1), (eq_false (Nat.not_le.mpr h1)), (eq_true h2), (eq_false h3), (eq_true h4), not_true_eq_false, not_false_eq_true, and_true, true_and, and_false, false_and, or_true, true_or, or_false, false_or, and_self, or_self, if_true, if_false, Bool.false_eq_true, reduceIte]) (by simp only [rbst, rbW, rbI, (eq_true h1), (eq_false (Nat.not_le.mpr h1)), (eq_true h2), (eq_false h3), (eq_true h4), not_true_eq_false, not_false_eq_true, and_true, true_and, and_false, false_and, or_true, true_or, or_false, false_or, and_self, or_self, if_true, if_false, Bool.false_eq_true, reduceIte]) (by omega) (by omega) ls (lv_sub hl [5, 6, 7, 0] rfl)
            · skip
              refine lv_bipush (v := nI 100) hx hb (dk kX6_bestFlight_0_ok 58 rfl) rfl ?_
              refine lv_iload hx hb (dk kX6_bestFlight_0_ok 59 rfl) (lv_at hl 3 rfl) ?_
              refine n_imul hx hb (dk kX6_bestFlight_1_ok 0 rfl) ?_
              refine lv_bipush (v := nI 10) hx hb (dk kX6_bestFlight_1_ok 1 rfl) rfl ?_
              refine lv_iload hx hb (dk kX6_bestFlight_1_ok 2 rfl) (lv_at hl 2 rfl) ?_
              refine n_imul hx hb (dk kX6_bestFlight_1_ok 3 rfl) ?_
              refine n_iadd hx hb (dk kX6_bestFlight_1_ok 4 rfl) ?_
              refine lv_iload hx hb (dk kX6_bestFlight_1_ok 5 rfl) (lv_at hl 1 rfl) ?_
              refine n_iadd hx hb (dk kX6_bestFlight_1_ok 6 rfl) ?_
              refine lv_istore_n (lv' := [(1, .int (nI (((100 * ((4 * (ix (r 56))) + (i / 72))) + (10 * ((i / 9) % 8))) + ((i % 9) + 1)))), (7, .int (((nI 100) * (aBr r ((4 * (ix (r 56))) + (i / 72)) ((i / 9) % 8) ((i % 9) + 1) 0)) + (aBr r ((4 * (ix (r 56))) + (i / 72)) ((i / 9) % 8) ((i % 9) + 1) 1))), (6, .int (nI ((i % 9) + 1))), (5, .int (nI ((i / 9) % 8))), (4, .int (nI ((4 * (ix (r 56))) + (i / 72)))), (0, .ref (ad k)), (2, .int ((rbst r sd i).2.1)), (3, .int (nI i))]) hx hb (dk kX6_bestFlight_1_ok 7 rfl) rfl hl (by decide) rfl (fun ls hl => ?_)
              refine lv_iload hx hb (dk kX6_bestFlight_1_ok 8 rfl) (lv_at hl 1 rfl) ?_
              refine lv_istore_n (lv' := [(2, .int (((nI 100) * (aBr r ((4 * (ix (r 56))) + (i / 72)) ((i / 9) % 8) ((i % 9) + 1) 0)) + (aBr r ((4 * (ix (r 56))) + (i / 72)) ((i / 9) % 8) ((i % 9) + 1) 1))), (1, .int (nI (((100 * ((4 * (ix (r 56))) + (i / 72))) + (10 * ((i / 9) % 8))) + ((i % 9) + 1)))), (7, .int (((nI 100) * (aBr r ((4 * (ix (r 56))) + (i / 72)) ((i / 9) % 8) ((i % 9) + 1) 0)) + (aBr r ((4 * (ix (r 56))) + (i / 72)) ((i / 9) % 8) ((i % 9) + 1) 1))), (6, .int (nI ((i % 9) + 1))), (5, .int (nI ((i / 9) % 8))), (4, .int (nI ((4 * (ix (r 56))) + (i / 72)))), (0, .ref (ad k)), (3, .int (nI i))]) hx hb (dk kX6_bestFlight_1_ok 9 rfl) rfl hl (by decide) rfl (fun ls hl => ?_)
              refine lv_iinc (v := nI (i + 1)) (lv' := [(3, .int (nI (i + 1))), (2, .int (((nI 100) * (aBr r ((4 * (ix (r 56))) + (i / 72)) ((i / 9) % 8) ((i % 9) + 1) 0)) + (aBr r ((4 * (ix (r 56))) + (i / 72)) ((i / 9) % 8) ((i % 9) + 1) 1))), (1, .int (nI (((100 * ((4 * (ix (r 56))) + (i / 72))) + (10 * ((i / 9) % 8))) + ((i % 9) + 1)))), (7, .int (((nI 100) * (aBr r ((4 * (ix (r 56))) + (i / 72)) ((i / 9) % 8) ((i % 9) + 1) 0)) + (aBr r ((4 * (ix (r 56))) + (i / 72)) ((i / 9) % 8) ((i % 9) + 1) 1))), (6, .int (nI ((i % 9) + 1))), (5, .int (nI ((i / 9) % 8))), (4, .int (nI ((4 * (ix (r 56))) + (i / 72)))), (0, .ref (ad k))]) hx hb (dk kX6_bestFlight_1_ok 10 rfl) hl (k := 7) rfl (n_inc _) (by decide) rfl (fun ls hl => ?_)
              refine lv_goto (tgt := 6) hx hb (dk kX6_bestFlight_1_ok 11 rfl) (by decide) ?_
              exact ih6 (i + 1) _ _ _ _ (by first | exact hP | (simp only [rbst, rbW, rbI, (eq_true h1), (eq_false (Nat.not_le.mpr h1)), (eq_true h2), (eq_false h3), (eq_false h4), not_true_eq_false, not_false_eq_true, and_true, true_and, and_false, false_and, or_true, true_or, or_false, false_or, and_self, or_self, if_true, if_false, Bool.false_eq_true, reduceIte]; exact hP)) hS (by simp only [rbst, rbW, rbI, (eq_true h1), (eq_false (Nat.not_le.mpr h1)), (eq_true h2), (eq_false h3), (eq_false h4), not_true_eq_false, not_false_eq_true, and_true, true_and, and_false, false_and, or_true, true_or, or_false, false_or, and_self, or_self, if_true, if_false, Bool.false_eq_true, reduceIte]) (by simp only [rbst, rbW, rbI, (eq_true h1), (eq_false (Nat.not_le.mpr h1)), (eq_true h2), (eq_false h3), (eq_false h4), not_true_eq_false, not_false_eq_true, and_true, true_and, and_false, false_and, or_true, true_or, or_false, false_or, and_self, or_self, if_true, if_false, Bool.false_eq_true, reduceIte]) (by omega) (by omega) ls (lv_sub hl [7, 2, 1, 0] rfl)
  exact L6 _ 0 _ _ _ _ (by first | exact hP | (simp only [rbst, rbW, rbI, not_true_eq_false, not_false_eq_true, and_true, true_and, and_false, false_and, or_true, true_or, or_false, false_or, and_self, or_self, if_true, if_false, Bool.false_eq_true, reduceIte]; exact hP)) hS (by first | rfl | omega) (by first | rfl | omega) (by first | rfl | omega) (Nat.lt_succ_self _) ls (lv_sub hl [3, 2, 1, 0] rfl)
set_option maxRecDepth 100000 in
set_option maxHeartbeats 4000000 in
theorem tX6_best (l : Launch) (D : va_G) (cI cQ cL : ClassId) (ad : Nat → Nat) (N : Nat) (F : Nat → va_E) (k : Nat) (hk : k + 7 < N) (r ps sl sd ne fa bu : Nat → Int32) (hs : Bool) (st ln pt : Nat) (th : Int32) (hR : rfAt cI ad F k r ps sl sd ne fa bu hs st ln pt th) (hrk : rok r) : MX l yX6_best (Cond.code yX6_best cX6_best 1 (some .int) :: AW) ({ frames := 7, cells := 0, slots := 0, locals := 163 } : Room) D cI cQ cL ad N F [.ref (ad k)] (dp (some (.int ((rbst r sd 288).1))) (rfSet cI ad F k r ps sl ((rbst r sd 288).2.2) ne fa bu hs st ln pt (nI 0))) 0 0 := by
  refine mx_i (ty := .int) (by decide +kernel) rfl (Nat.le_of_ble_eq_true rfl) (fun p e s m below meth cd Q ls hx hb hml hown hts hDi hP hK hNW hS hret hl => ?_)
  have hown : s.vm.findClass RX6 = some m.cls := hown
  have hk0 : k < N := by omega
  have hk1 : k + 1 < N := by omega
  have hk2 : k + 2 < N := by omega
  have hk3 : k + 3 < N := by omega
  have hk4 : k + 4 < N := by omega
  have hk5 : k + 5 < N := by omega
  have hk6 : k + 6 < N := by omega
  have hk7 : k + 7 < N := by omega
  have hP : va_P D vwCl (iW ad N (rfSet cI ad F k r ps sl sd ne fa bu hs st ln pt th)) s.heap := by rw [rfSet_self hR]; exact hP
  have hl : lv_has ls 1 [(0, .ref (ad k))] := hl
  refine lv_aload_n hx hb (dk kX6_best_ok 0 rfl) rfl (lv_at hl 0 rfl) ?_
  refine lv_iconst (v := nI 0) hx hb (dk kX6_best_ok 1 rfl) rfl ?_
  refine pf (rfSet cI ad F k r ps sl sd ne fa bu hs st ln pt (nI 0)) hx hb hts (fun w h => List.mem_cons_of_mem _ (acX6 w h)) tyX6 tyX6_ok nmX6 hown hK hDi hP hS hk0 rfSet_at.1 rfl 11 (by decide) (hts _ (List.mem_cons_of_mem _ (ac18 _ (List.mem_of_getElem? (i := 4) rfl)))) (fun _ h => h) rfl (ty := .int) rfl rfl rfl (Nat.le_of_ble_eq_true rfl) (dk kX6_best_ok 2 rfl) rfSet_u0 (fun H locs hP hS => ?_)
  refine lv_aload_n hx hb (dk kX6_best_ok 3 rfl) rfl (lv_at hl 0 rfl) ?_
  refine cvD (As := []) (rest := []) (rfSet cI ad F k r ps sl ((rbst r sd 288).2.2) ne fa bu hs st ln pt (nI 0)) ⟨hx, hb, hml, hown, hts⟩ (tX6_bestFlight l D cI cQ cL ad N (rfSet cI ad F k r ps sl sd ne fa bu hs st ln pt (nI 0)) k hk r ps sl sd ne fa bu hs st ln pt (nI 0) (rfSet_at) hrk) (cwV9 0 hts mcX6_bestFlight (ac25 _ (List.mem_of_getElem? (i := 2) rfl)) miX6_bestFlight meX6_bestFlight mini_RX6 rfl rfl hdX6_bestFlight ⟨Nat.le_of_ble_eq_true rfl, Nat.le_of_ble_eq_true rfl⟩) hDi hK hP hNW hS hk0 rfSet_at.1 rfl rfl hl.1 rfl (Nat.le_of_ble_eq_true rfl) (by decide) (dk kX6_best_ok 4 rfl) rfSet_rfSet (fun H locs hP hS => ?_)
  exact hret _ _ _ _ _ _ _ _ rfl (by exact ⟨rfl, rfl⟩) hP hS (by decide) (by decide) (dk kX6_best_ok 5 rfl)
set_option maxRecDepth 100000 in
set_option maxHeartbeats 4000000 in
theorem tX6_ifFlown (l : Launch) (D : va_G) (cI cQ cL : ClassId) (ad : Nat → Nat) (N : Nat) (F : Nat → va_E) (k : Nat) (hk : k + 7 < N) (r ps sl sd ne fa bu : Nat → Int32) (hs : Bool) (st ln pt : Nat) (th : Int32) (hR : rfAt cI ad F k r ps sl sd ne fa bu hs st ln pt th) (x y z z2 : Int32) (hrk : rok r) : MX l yX6_ifFlown (Cond.code yX6_ifFlown cX6_ifFlown 5 (some .int) :: AW) ({ frames := 6, cells := 0, slots := 0, locals := 136 } : Room) D cI cQ cL ad N F [.ref (ad k), .int x, .int y, .int z, .int z2] (dp (some (.int (pI r x y z z2))) (rfSet cI ad F k r ps sl (if gI r x y z z2 = true then r else sd) ne fa bu hs st ln pt (tI x y z z2))) 0 0 := by
  refine mx_i (ty := .int) (by decide +kernel) rfl (Nat.le_of_ble_eq_true rfl) (fun p e s m below meth cd Q ls hx hb hml hown hts hDi hP hK hNW hS hret hl => ?_)
  have hown : s.vm.findClass RX6 = some m.cls := hown
  have hk0 : k < N := by omega
  have hk1 : k + 1 < N := by omega
  have hk2 : k + 2 < N := by omega
  have hk3 : k + 3 < N := by omega
  have hk4 : k + 4 < N := by omega
  have hk5 : k + 5 < N := by omega
  have hk6 : k + 6 < N := by omega
  have hk7 : k + 7 < N := by omega
  have hP : va_P D vwCl (iW ad N (rfSet cI ad F k r ps sl sd ne fa bu hs st ln pt th)) s.heap := by rw [rfSet_self hR]; exact hP
  have hl : lv_has ls 5 [(0, .ref (ad k)), (1, .int x), (2, .int y), (3, .int z), (4, .int z2)] := hl
  refine lv_aload_n hx hb (dk kX6_ifFlown_ok 0 rfl) rfl (lv_at hl 0 rfl) ?_
  refine lv_iconst (v := nI 0) hx hb (dk kX6_ifFlown_ok 1 rfl) rfl ?_
  refine pf (rfSet cI ad F k r ps sl sd ne fa bu hs st ln pt (nI 0)) hx hb hts (fun w h => List.mem_cons_of_mem _ (acX6 w h)) tyX6 tyX6_ok nmX6 hown hK hDi hP hS hk0 rfSet_at.1 rfl 11 (by decide) (hts _ (List.mem_cons_of_mem _ (ac18 _ (List.mem_of_getElem? (i := 4) rfl)))) (fun _ h => h) rfl (ty := .int) rfl rfl rfl (Nat.le_of_ble_eq_true rfl) (dk kX6_ifFlown_ok 2 rfl) rfSet_u0 (fun H locs hP hS => ?_)
  refine lv_iload_n hx hb (dk kX6_ifFlown_ok 3 rfl) rfl (lv_at hl 1 rfl) ?_
  refine lv_iconst (v := nI 0) hx hb (dk kX6_ifFlown_ok 4 rfl) rfl ?_
  refine lv_bipush (v := nI 15) hx hb (dk kX6_ifFlown_ok 5 rfl) rfl ?_
  refine csP (As := [.int x, .int (nI 0), .int (nI 15)]) (rest := []) ⟨hx, hb, hml, hown, hts⟩ (tX6_in l x (nI 0) (nI 15)) (cwS9 3 hts mcX6_in (ac19 _ (List.mem_of_getElem? (i := 12) rfl)) msX6_in mini_RX6 rfl rfl hdX6_in ⟨Nat.le_of_ble_eq_true rfl, Nat.le_of_ble_eq_true rfl⟩) rfl hl.1 rfl (Nat.le_of_ble_eq_true rfl) (by decide) (dk kX6_ifFlown_ok 6 rfl) ?_
  refine b_if_ne (tgt := 21) hx hb (dk kX6_ifFlown_ok 7 rfl) (by decide) (fun h1 => ?_) (fun h1 => ?_)
  · skip
    refine lv_iload_n hx hb (dk kX6_ifFlown_ok 12 rfl) rfl (lv_at hl 2 rfl) ?_
    refine lv_iconst (v := nI 0) hx hb (dk kX6_ifFlown_ok 13 rfl) rfl ?_
    refine lv_bipush (v := nI 7) hx hb (dk kX6_ifFlown_ok 14 rfl) rfl ?_
    refine csP (As := [.int y, .int (nI 0), .int (nI 7)]) (rest := []) ⟨hx, hb, hml, hown, hts⟩ (tX6_in l y (nI 0) (nI 7)) (cwS9 3 hts mcX6_in (ac19 _ (List.mem_of_getElem? (i := 12) rfl)) msX6_in mini_RX6 rfl rfl hdX6_in ⟨Nat.le_of_ble_eq_true rfl, Nat.le_of_ble_eq_true rfl⟩) rfl hl.1 rfl (Nat.le_of_ble_eq_true rfl) (by decide) (dk kX6_ifFlown_ok 15 rfl) ?_
    refine b_if_eq (tgt := 51) hx hb (dk kX6_ifFlown_ok 16 rfl) (by decide) (fun h2 => ?_) (fun h2 => ?_)
    · skip
      refine lv_aload_n hx hb (dk kX6_ifFlown_ok 27 rfl) rfl (lv_at hl 0 rfl) ?_
      refine lv_iconst (v := nI 2) hx hb (dk kX6_ifFlown_ok 28 rfl) rfl ?_
      refine cvD (As := [.int (nI 2)]) (rest := []) (rfSet cI ad F k r ps sl sd ne fa bu hs st ln pt (nI 2)) ⟨hx, hb, hml, hown, hts⟩ (tX6_fails l D cI cQ cL ad N (rfSet cI ad F k r ps sl sd ne fa bu hs st ln pt (nI 0)) k hk r ps sl sd ne fa bu hs st ln pt (nI 0) (rfSet_at) (nI 2)) (cwV9 1 hts mcX6_fails (ac20 _ (List.mem_of_getElem? (i := 15) rfl)) miX6_fails meX6_fails mini_RX6 rfl rfl hdX6_fails ⟨Nat.le_of_ble_eq_true rfl, Nat.le_of_ble_eq_true rfl⟩) hDi hK hP hNW hS hk0 rfSet_at.1 rfl rfl hl.1 rfl (Nat.le_of_ble_eq_true rfl) (by decide) (dk kX6_ifFlown_ok 29 rfl) rfSet_rfSet (fun H locs hP hS => ?_)
      exact hret _ _ _ _ _ _ _ _ rfl (by simp (config := { decide := true }) only [dp, tI, pI, gI, h1, h2, bI_1, bI_00, not_true_eq_false, not_false_eq_true, and_true, true_and, and_false, false_and, or_true, true_or, or_false, false_or, and_self, or_self, if_true, if_false, Bool.false_eq_true, reduceIte]; first | done | exact ⟨rfl, rfl⟩ | (simp_all; done)) hP hS (by decide) (by decide) (dk kX6_ifFlown_ok 30 rfl)
    · skip
      refine lv_iload_n hx hb (dk kX6_ifFlown_ok 17 rfl) rfl (lv_at hl 3 rfl) ?_
      refine lv_iconst (v := nI 1) hx hb (dk kX6_ifFlown_ok 18 rfl) rfl ?_
      refine lv_bipush (v := nI 9) hx hb (dk kX6_ifFlown_ok 19 rfl) rfl ?_
      refine csP (As := [.int z, .int (nI 1), .int (nI 9)]) (rest := []) ⟨hx, hb, hml, hown, hts⟩ (tX6_in l z (nI 1) (nI 9)) (cwS9 3 hts mcX6_in (ac19 _ (List.mem_of_getElem? (i := 12) rfl)) msX6_in mini_RX6 rfl rfl hdX6_in ⟨Nat.le_of_ble_eq_true rfl, Nat.le_of_ble_eq_true rfl⟩) rfl hl.1 rfl (Nat.le_of_ble_eq_true rfl) (by decide) (dk kX6_ifFlown_ok 20 rfl) ?_
      refine b_if_eq (tgt := 51) hx hb (dk kX6_ifFlown_ok 21 rfl) (by decide) (fun h3 => ?_) (fun h3 => ?_)
      · skip
        refine lv_aload_n hx hb (dk kX6_ifFlown_ok 27 rfl) rfl (lv_at hl 0 rfl) ?_
        refine lv_iconst (v := nI 2) hx hb (dk kX6_ifFlown_ok 28 rfl) rfl ?_
        refine cvD (As := [.int (nI 2)]) (rest := []) (rfSet cI ad F k r ps sl sd ne fa bu hs st ln pt (nI 2)) ⟨hx, hb, hml, hown, hts⟩ (tX6_fails l D cI cQ cL ad N (rfSet cI ad F k r ps sl sd ne fa bu hs st ln pt (nI 0)) k hk r ps sl sd ne fa bu hs st ln pt (nI 0) (rfSet_at) (nI 2)) (cwV9 1 hts mcX6_fails (ac20 _ (List.mem_of_getElem? (i := 15) rfl)) miX6_fails meX6_fails mini_RX6 rfl rfl hdX6_fails ⟨Nat.le_of_ble_eq_true rfl, Nat.le_of_ble_eq_true rfl⟩) hDi hK hP hNW hS hk0 rfSet_at.1 rfl rfl hl.1 rfl (Nat.le_of_ble_eq_true rfl) (by decide) (dk kX6_ifFlown_ok 29 rfl) rfSet_rfSet (fun H locs hP hS => ?_)
        exact hret _ _ _ _ _ _ _ _ rfl (by simp (config := { decide := true }) only [dp, tI, pI, gI, h1, h2, h3, bI_1, bI_00, not_true_eq_false, not_false_eq_true, and_true, true_and, and_false, false_and, or_true, true_or, or_false, false_or, and_self, or_self, if_true, if_false, Bool.false_eq_true, reduceIte]; first | done | exact ⟨rfl, rfl⟩ | (simp_all; done)) hP hS (by decide) (by decide) (dk kX6_ifFlown_ok 30 rfl)
      · skip
        refine lv_iload hx hb (dk kX6_ifFlown_ok 22 rfl) (lv_at hl 4 rfl) ?_
        refine lv_iconst (v := nI 0) hx hb (dk kX6_ifFlown_ok 23 rfl) rfl ?_
        refine lv_iconst (v := nI 1) hx hb (dk kX6_ifFlown_ok 24 rfl) rfl ?_
        refine csP (As := [.int z2, .int (nI 0), .int (nI 1)]) (rest := []) ⟨hx, hb, hml, hown, hts⟩ (tX6_in l z2 (nI 0) (nI 1)) (cwS9 3 hts mcX6_in (ac19 _ (List.mem_of_getElem? (i := 12) rfl)) msX6_in mini_RX6 rfl rfl hdX6_in ⟨Nat.le_of_ble_eq_true rfl, Nat.le_of_ble_eq_true rfl⟩) rfl hl.1 rfl (Nat.le_of_ble_eq_true rfl) (by decide) (dk kX6_ifFlown_ok 25 rfl) ?_
        refine b_if_ne (tgt := 57) hx hb (dk kX6_ifFlown_ok 26 rfl) (by decide) (fun h4 => ?_) (fun h4 => ?_)
        · skip
          refine lv_aload_n hx hb (dk kX6_ifFlown_ok 31 rfl) rfl (lv_at hl 0 rfl) ?_
          refine lv_iload_n hx hb (dk kX6_ifFlown_ok 32 rfl) rfl (lv_at hl 1 rfl) ?_
          refine cvR (As := [.int x]) (rest := []) ⟨hx, hb, hml, hown, hts⟩ (tX6_whyNot l D cI cQ cL ad N (rfSet cI ad F k r ps sl sd ne fa bu hs st ln pt (nI 0)) k hk r ps sl sd ne fa bu hs st ln pt (nI 0) (rfSet_at) x (ix x) (btw_eq h1) (by have := btw_le h1; omega)) (cwV9 1 hts mcX6_whyNot (ac20 _ (List.mem_of_getElem? (i := 19) rfl)) miX6_whyNot meX6_whyNot mini_RX6 rfl rfl hdX6_whyNot ⟨Nat.le_of_ble_eq_true rfl, Nat.le_of_ble_eq_true rfl⟩) hK hP hNW hk0 rfSet_at.1 rfl rfl hl.1 rfl (Nat.le_of_ble_eq_true rfl) (by decide) (dk kX6_ifFlown_ok 33 rfl) ?_
          refine n_if_eq (tgt := 71) hx hb (by have q1 := rwn_le r (ix x); omega) (dk kX6_ifFlown_ok 34 rfl) (by decide) (fun h5 => ?_) (fun h5 => ?_)
          · skip
            refine lv_aload_n hx hb (dk kX6_ifFlown_ok 37 rfl) rfl (lv_at hl 0 rfl) ?_
            refine lv_iload_n hx hb (dk kX6_ifFlown_ok 38 rfl) rfl (lv_at hl 1 rfl) ?_
            refine lv_iload_n hx hb (dk kX6_ifFlown_ok 39 rfl) rfl (lv_at hl 2 rfl) ?_
            refine lv_iload_n hx hb (dk kX6_ifFlown_ok 40 rfl) rfl (lv_at hl 3 rfl) ?_
            refine lv_iload hx hb (dk kX6_ifFlown_ok 41 rfl) (lv_at hl 4 rfl) ?_
            refine cvD (As := [.int x, .int y, .int z, .int z2]) (rest := []) (rfSet cI ad F k r ps sl r ne fa bu hs st ln pt (nI 0)) ⟨hx, hb, hml, hown, hts⟩ (tX6_brings l D cI cQ cL ad N (rfSet cI ad F k r ps sl sd ne fa bu hs st ln pt (nI 0)) k hk r ps sl sd ne fa bu hs st ln pt (nI 0) (rfSet_at) x (ix x) (btw_eq h1) (by have := btw_le h1; omega) y (ix y) (btw_eq h2) (by have := btw_le h2; omega) z (ix z) (btw_eq h3) (by have := btw_le h3; omega) z2 (ix z2) (btw_eq h4) (by have := btw_le h4; omega) hrk h5) (cwV9 4 hts mcX6_brings (ac24 _ (List.mem_of_getElem? (i := 22) rfl)) miX6_brings meX6_brings mini_RX6 rfl rfl hdX6_brings ⟨Nat.le_of_ble_eq_true rfl, Nat.le_of_ble_eq_true rfl⟩) hDi hK hP hNW hS hk0 rfSet_at.1 rfl rfl hl.1 rfl (Nat.le_of_ble_eq_true rfl) (by decide) (dk kX6_ifFlown_ok 42 rfl) rfSet_rfSet (fun H locs hP hS => ?_)
            exact hret _ _ _ _ _ _ _ _ rfl (by simp (config := { decide := true }) only [dp, tI, pI, gI, h1, h2, h3, h4, (eq_true h5), bI_1, bI_00, not_true_eq_false, not_false_eq_true, and_true, true_and, and_false, false_and, or_true, true_or, or_false, false_or, and_self, or_self, if_true, if_false, Bool.false_eq_true, reduceIte]; first | done | exact ⟨rfl, rfl⟩ | (simp_all; done)) hP hS (by decide) (by decide) (dk kX6_ifFlown_ok 43 rfl)
          · skip
            refine lv_sipush (v := -1000) hx hb (dk kX6_ifFlown_ok 35 rfl) rfl ?_
            refine lv_goto (tgt := 80) hx hb (dk kX6_ifFlown_ok 36 rfl) (by decide) ?_
            exact hret _ _ _ _ _ _ _ _ rfl (by simp (config := { decide := true }) only [dp, tI, pI, gI, h1, h2, h3, h4, (eq_false h5), bI_1, bI_00, not_true_eq_false, not_false_eq_true, and_true, true_and, and_false, false_and, or_true, true_or, or_false, false_or, and_self, or_self, if_true, if_false, Bool.false_eq_true, reduceIte]; first | done | exact ⟨rfl, rfl⟩ | (simp_all; done)) hP hS (by decide) (by decide) (dk kX6_ifFlown_ok 43 rfl)
        · skip
          refine lv_aload_n hx hb (dk kX6_ifFlown_ok 27 rfl) rfl (lv_at hl 0 rfl) ?_
          refine lv_iconst (v := nI 2) hx hb (dk kX6_ifFlown_ok 28 rfl) rfl ?_
          refine cvD (As := [.int (nI 2)]) (rest := []) (rfSet cI ad F k r ps sl sd ne fa bu hs st ln pt (nI 2)) ⟨hx, hb, hml, hown, hts⟩ (tX6_fails l D cI cQ cL ad N (rfSet cI ad F k r ps sl sd ne fa bu hs st ln pt (nI 0)) k hk r ps sl sd ne fa bu hs st ln pt (nI 0) (rfSet_at) (nI 2)) (cwV9 1 hts mcX6_fails (ac20 _ (List.mem_of_getElem? (i := 15) rfl)) miX6_fails meX6_fails mini_RX6 rfl rfl hdX6_fails ⟨Nat.le_of_ble_eq_true rfl, Nat.le_of_ble_eq_true rfl⟩) hDi hK hP hNW hS hk0 rfSet_at.1 rfl rfl hl.1 rfl (Nat.le_of_ble_eq_true rfl) (by decide) (dk kX6_ifFlown_ok 29 rfl) rfSet_rfSet (fun H locs hP hS => ?_)
          exact hret _ _ _ _ _ _ _ _ rfl (by simp (config := { decide := true }) only [dp, tI, pI, gI, h1, h2, h3, h4, bI_1, bI_00, not_true_eq_false, not_false_eq_true, and_true, true_and, and_false, false_and, or_true, true_or, or_false, false_or, and_self, or_self, if_true, if_false, Bool.false_eq_true, reduceIte]; first | done | exact ⟨rfl, rfl⟩ | (simp_all; done)) hP hS (by decide) (by decide) (dk kX6_ifFlown_ok 30 rfl)
  · skip
    refine lv_aload_n hx hb (dk kX6_ifFlown_ok 8 rfl) rfl (lv_at hl 0 rfl) ?_
    refine lv_iconst (v := nI 1) hx hb (dk kX6_ifFlown_ok 9 rfl) rfl ?_
    refine cvD (As := [.int (nI 1)]) (rest := []) (rfSet cI ad F k r ps sl sd ne fa bu hs st ln pt (nI 1)) ⟨hx, hb, hml, hown, hts⟩ (tX6_fails l D cI cQ cL ad N (rfSet cI ad F k r ps sl sd ne fa bu hs st ln pt (nI 0)) k hk r ps sl sd ne fa bu hs st ln pt (nI 0) (rfSet_at) (nI 1)) (cwV9 1 hts mcX6_fails (ac20 _ (List.mem_of_getElem? (i := 15) rfl)) miX6_fails meX6_fails mini_RX6 rfl rfl hdX6_fails ⟨Nat.le_of_ble_eq_true rfl, Nat.le_of_ble_eq_true rfl⟩) hDi hK hP hNW hS hk0 rfSet_at.1 rfl rfl hl.1 rfl (Nat.le_of_ble_eq_true rfl) (by decide) (dk kX6_ifFlown_ok 10 rfl) rfSet_rfSet (fun H locs hP hS => ?_)
    exact hret _ _ _ _ _ _ _ _ rfl (by simp (config := { decide := true }) only [dp, tI, pI, gI, h1, bI_1, bI_00, not_true_eq_false, not_false_eq_true, and_true, true_and, and_false, false_and, or_true, true_or, or_false, false_or, and_self, or_self, if_true, if_false, Bool.false_eq_true, reduceIte]; first | done | exact ⟨rfl, rfl⟩ | (simp_all; done)) hP hS (by decide) (by decide) (dk kX6_ifFlown_ok 11 rfl)
end
/-! from clspec -/
section
theorem lt78 (x : Int32) : (nI 7 < x) ↔ (nI 8 ≤ x) := by
  rw [Int32.lt_iff_toInt_lt, Int32.le_iff_toInt_le, nI_toInt (by decide), nI_toInt (by decide)]
  omega
theorem rng_ok {x a m : Int32} (h : btw x a m = true) : ¬ x < a ∧ ¬ m < x := by
  simpa only [btw, Bool.and_eq_true, Bool.not_eq_true', decide_eq_false_iff_not] using h
theorem rng_bad {x a m : Int32} (h1 : ¬ x < a) (h2 : ¬ m < x) : btw x a m = true := by
  simp only [btw, h1, h2, decide_false, Bool.not_false, Bool.and_self]
theorem dir_ok {x : Int32} (h : btw x (nI 0) (nI 7) = true) : ¬ x < 0 ∧ ¬ nI 8 ≤ x := ⟨(rng_ok h).1, fun q => (rng_ok h).2 ((lt78 x).mpr q)⟩
theorem dir_bad {x : Int32} (h1 : ¬ x < 0) (h2 : ¬ nI 8 ≤ x) : btw x (nI 0) (nI 7) = true := rng_bad h1 (fun q => h2 ((lt78 x).mp q))
theorem ff_tt {b : Bool} (h1 : b = false) (h2 : b = true) : False := by rw [h1] at h2; exact absurd h2 (by decide)
theorem btw_ne {y : Int32} {m j : Nat} (h : btw y (nI 0) (nI m) = false) (hj : j ≤ m) (hm : m < 2 ^ 31) (e : y = nI j) : False := by
  rw [e, btw_nI ⟨Nat.zero_le _, hj⟩ hm] at h
  exact absurd h (by decide)
theorem btw_all {y : Int32} {m : Nat} (hm : m < 2 ^ 31) (h : btw y (nI 0) (nI m) = true) (hn : ∀ j, j ≤ m → y ≠ nI j) : False := by
  obtain ⟨j, e, -, hj⟩ := btw_of (by decide) hm h
  exact hn j hj e
-- answers of the class
def cWink (c b v g : Nat → Int32) (t w : Nat) (k : Int32) : Int32 := if k = nI 0 then nI (w / 4) else if k = nI 1 then (if w % 4 < 2 then nI 1 else nI 0) else if k = nI 2 then c w else if k = nI 3 then pls c b w else if k = nI 4 then bI (cov v w) else if k = nI 5 then g w else nI (wnf c v t w)
def cPile (c b v : Nat → Int32) (q k : Int32) : Int32 := if k = nI 0 then nI (hgt c q) else if k = nI 1 then top c v q else if k = nI 2 then top c b q else msk (fun i => decide (c i = q)) 16
def cCol (c b v h j : Nat → Int32) (w : Nat) (k : Int32) : Int32 := if k = nI 0 then nI (potc c w) else if k = nI 1 then nI (covc v w) else if k = nI 2 then nI 4 - nI (potc c w) - nI (covc v w) else if k = nI 3 then nI (ptc c v w) else if k = nI 4 then h w else if k = nI 5 then j w else nI (cnt (oth v w) 16)
def cCnt (c b v g h : Nat → Int32) (t : Nat) (u z : Int32) (m9 : Nat) (k : Int32) : Int32 := if k = nI 0 then (if over c = true then -1 else nI t) else if k = nI 1 then (if over c = true then nI 1 else nI 0) else if k = nI 2 then nI (potn c) else if k = nI 3 then nI (sm (fun i => if bot c b i = true then hgt c (c i) - 1 else 0) 16) else if k = nI 4 then nI ((covc v 0 + covc v (0 + 2)) + (covc v 1 + covc v (1 + 2))) else if k = nI 5 then nI (cnt (bot c b) 16) else if k = nI 6 then mxi (bot c b) (fun i => nI (hgt c (c i))) 16 else if k = nI 7 then smi g 16 else if k = nI 8 then u else if k = nI 9 then smi h 4 else if k = nI 10 then nI (ptt c v 0) else if k = nI 11 then nI (ptt c v 1) else if k = nI 12 then z else nI m9
def cLan (c : Nat → Int32) (w : Nat) (d : Int32) (f : Nat) : Int32 := if pot c w = true then -2 else fans (ldg (c w) d (stp w f))
theorem cl4_nI {w : Nat} (h : w < 4) : cl4 (nI w) = true := by
  have h1 : ¬ nI w < 0 := nI_pos (by omega)
  have h2 : ¬ nI 4 ≤ nI w := fun q => absurd ((nI_leI (by decide) (by omega)).mp q) (by omega)
  simp [cl4, h1, h2]
theorem st_touch {D : va_G} {cl : List vw_C} {cI : ClassId} {ad : Nat → Nat} {N : Nat} {F : Nat → va_E} {H : Heap} {k : Nat} {c b v g h j : Nat → Int32} {t u z : Int32} (hS : stAt cI ad F k c b v g h j t u z) (hP : va_P D cl (iW ad N F) H) : va_P D cl (iW ad N (sSet cI ad F k c b v g h j t u z)) H := by
  rw [sSet_self hS]
  exact hP
theorem gt_touch {D : va_G} {cl : List vw_C} {cI : ClassId} {ad : Nat → Nat} {N : Nat} {F : Nat → va_E} {H : Heap} {k : Nat} {a : Nat → Int32} {n : Nat} (hT : gtAt cI ad F k a n) (hP : va_P D cl (iW ad N F) H) : va_P D cl (iW ad N (gtSet cI ad F k a n)) H := by
  rw [gtSet_self hT]
  exact hP
end
/-! from clreq -/
section
set_option maxRecDepth 100000 in
set_option maxHeartbeats 4000000 in
theorem tX5_requireWink_ok (l : Launch) (x : Int32) (hr1 : wk x = true) : MPv l yX5_requireWink (Cond.code yX5_requireWink cX5_requireWink 1 none :: AW) ({ frames := 6, cells := 0, slots := 0, locals := 82 } : Room) [.int x] := by
  refine mp_v (by decide +kernel) rfl (Nat.le_of_ble_eq_true rfl) (fun p e s m below meth cd Q ls hx hb hml hown hts hret hl => ?_)
  have hown : s.vm.findClass RX5 = some m.cls := hown
  have hl : lv_has ls 1 [(0, .int x)] := hl
  refine lv_iload_n hx hb (dk kX5_requireWink_ok 0 rfl) rfl (lv_at hl 0 rfl) ?_
  refine csP (As := [.int x]) (rest := []) ⟨hx, hb, hml, hown, hts⟩ (tX5_isWink l x) (cwS9 1 hts mcX5_isWink (ac8 _ (List.mem_of_getElem? (i := 22) rfl)) msX5_isWink mini_RX5 rfl rfl hdX5_isWink ⟨Nat.le_of_ble_eq_true rfl, Nat.le_of_ble_eq_true rfl⟩) rfl hl.1 rfl (Nat.le_of_ble_eq_true rfl) (by decide) (dk kX5_requireWink_ok 1 rfl) ?_
  refine b_if_ne (tgt := 18) hx hb (dk kX5_requireWink_ok 2 rfl) (by decide) (fun h1 => ?_) (fun h1 => ?_)
  · skip
    exact hret _ _ (dk kX5_requireWink_ok 8 rfl)
  · exact absurd (hr1.symm.trans h1) (by decide)
set_option maxRecDepth 100000 in
set_option maxHeartbeats 4000000 in
theorem tX5_requireWink_b1 (l : Launch) (hst : l.stackTraces = false) (D : va_G) (cI cQ cL : ClassId) (ad : Nat → Nat) (N : Nat) (F : Nat → va_E) (x : Int32) (hr1 : wk x = false) : MT l yX5_requireWink (Cond.code yX5_requireWink cX5_requireWink 1 none :: AW) ({ frames := 6, cells := 1, slots := 6, locals := 82 } : Room) D cI cQ cL ad N F [.int x] eI 1 6 := by
  refine mt_of (ret := none) hst (by decide +kernel) rfl (Nat.le_of_ble_eq_true rfl) (fun p e s m below meth cd Q ls hx hb hml hown hts hDi hP hK hNW hS hX hthr hthrW hout hl => ?_)
  have hown : s.vm.findClass RX5 = some m.cls := hown
  have hl : lv_has ls 1 [(0, .int x)] := hl
  refine lv_iload_n hx hb (dk kX5_requireWink_ok 0 rfl) rfl (lv_at hl 0 rfl) ?_
  refine csP (As := [.int x]) (rest := []) ⟨hx, hb, hml, hown, hts⟩ (tX5_isWink l x) (cwS9 1 hts mcX5_isWink (ac8 _ (List.mem_of_getElem? (i := 22) rfl)) msX5_isWink mini_RX5 rfl rfl hdX5_isWink ⟨Nat.le_of_ble_eq_true rfl, Nat.le_of_ble_eq_true rfl⟩) rfl hl.1 rfl (Nat.le_of_ble_eq_true rfl) (by decide) (dk kX5_requireWink_ok 1 rfl) ?_
  refine b_if_ne (tgt := 18) hx hb (dk kX5_requireWink_ok 2 rfl) (by decide) (fun h1 => ?_) (fun h1 => ?_)
  · exact absurd (hr1.symm.trans h1) (by decide)
  · skip
    exact hthrW 196 200 355 7 "a wink is 0 to 15" ls [] _ _ 0 0 (by decide) (by decide) hP hS hl.1 (dk kX5_requireWink_ok 3 rfl) (dk kX5_requireWink_ok 4 rfl) (dk kX5_requireWink_ok 5 rfl) (dk kX5_requireWink_ok 6 rfl) (dk kX5_requireWink_ok 7 rfl) (by decide) (by decide) (by decide) (by decide) (by decide) (by decide)
set_option maxRecDepth 100000 in
set_option maxHeartbeats 4000000 in
theorem tX5_requireCell_ok (l : Launch) (x y : Int32) (hr1 : on x y = true) : MPv l yX5_requireCell (Cond.code yX5_requireCell cX5_requireCell 2 none :: AW) ({ frames := 6, cells := 0, slots := 0, locals := 82 } : Room) [.int x, .int y] := by
  refine mp_v (by decide +kernel) rfl (Nat.le_of_ble_eq_true rfl) (fun p e s m below meth cd Q ls hx hb hml hown hts hret hl => ?_)
  have hown : s.vm.findClass RX5 = some m.cls := hown
  have hl : lv_has ls 2 [(0, .int x), (1, .int y)] := hl
  refine lv_iload_n hx hb (dk kX5_requireCell_ok 0 rfl) rfl (lv_at hl 0 rfl) ?_
  refine lv_iload_n hx hb (dk kX5_requireCell_ok 1 rfl) rfl (lv_at hl 1 rfl) ?_
  refine csP (As := [.int x, .int y]) (rest := []) ⟨hx, hb, hml, hown, hts⟩ (tX5_isOnMat l x y) (cwS9 2 hts mcX5_isOnMat (ac5 _ (List.mem_of_getElem? (i := 20) rfl)) msX5_isOnMat mini_RX5 rfl rfl hdX5_isOnMat ⟨Nat.le_of_ble_eq_true rfl, Nat.le_of_ble_eq_true rfl⟩) rfl hl.1 rfl (Nat.le_of_ble_eq_true rfl) (by decide) (dk kX5_requireCell_ok 2 rfl) ?_
  refine b_if_ne (tgt := 19) hx hb (dk kX5_requireCell_ok 3 rfl) (by decide) (fun h1 => ?_) (fun h1 => ?_)
  · skip
    exact hret _ _ (dk kX5_requireCell_ok 9 rfl)
  · exact absurd (hr1.symm.trans h1) (by decide)
set_option maxRecDepth 100000 in
set_option maxHeartbeats 4000000 in
theorem tX5_requireCell_b1 (l : Launch) (hst : l.stackTraces = false) (D : va_G) (cI cQ cL : ClassId) (ad : Nat → Nat) (N : Nat) (F : Nat → va_E) (x y : Int32) (hr1 : on x y = false) : MT l yX5_requireCell (Cond.code yX5_requireCell cX5_requireCell 2 none :: AW) ({ frames := 6, cells := 1, slots := 6, locals := 82 } : Room) D cI cQ cL ad N F [.int x, .int y] eI 1 6 := by
  refine mt_of (ret := none) hst (by decide +kernel) rfl (Nat.le_of_ble_eq_true rfl) (fun p e s m below meth cd Q ls hx hb hml hown hts hDi hP hK hNW hS hX hthr hthrW hout hl => ?_)
  have hown : s.vm.findClass RX5 = some m.cls := hown
  have hl : lv_has ls 2 [(0, .int x), (1, .int y)] := hl
  refine lv_iload_n hx hb (dk kX5_requireCell_ok 0 rfl) rfl (lv_at hl 0 rfl) ?_
  refine lv_iload_n hx hb (dk kX5_requireCell_ok 1 rfl) rfl (lv_at hl 1 rfl) ?_
  refine csP (As := [.int x, .int y]) (rest := []) ⟨hx, hb, hml, hown, hts⟩ (tX5_isOnMat l x y) (cwS9 2 hts mcX5_isOnMat (ac5 _ (List.mem_of_getElem? (i := 20) rfl)) msX5_isOnMat mini_RX5 rfl rfl hdX5_isOnMat ⟨Nat.le_of_ble_eq_true rfl, Nat.le_of_ble_eq_true rfl⟩) rfl hl.1 rfl (Nat.le_of_ble_eq_true rfl) (by decide) (dk kX5_requireCell_ok 2 rfl) ?_
  refine b_if_ne (tgt := 19) hx hb (dk kX5_requireCell_ok 3 rfl) (by decide) (fun h1 => ?_) (fun h1 => ?_)
  · exact absurd (hr1.symm.trans h1) (by decide)
  · skip
    exact hthrW 196 200 361 8 "x and y are 0 to 12" ls [] _ _ 0 0 (by decide) (by decide) hP hS hl.1 (dk kX5_requireCell_ok 4 rfl) (dk kX5_requireCell_ok 5 rfl) (dk kX5_requireCell_ok 6 rfl) (dk kX5_requireCell_ok 7 rfl) (dk kX5_requireCell_ok 8 rfl) (by decide) (by decide) (by decide) (by decide) (by decide) (by decide)
set_option maxRecDepth 100000 in
set_option maxHeartbeats 4000000 in
theorem tX5_requireDirection_ok (l : Launch) (x : Int32) (hr1 : btw x (nI 0) (nI 7) = true) : MPv l yX5_requireDirection (Cond.code yX5_requireDirection cX5_requireDirection 1 none :: AW) ({ frames := 6, cells := 0, slots := 0, locals := 82 } : Room) [.int x] := by
  refine mp_v (by decide +kernel) rfl (Nat.le_of_ble_eq_true rfl) (fun p e s m below meth cd Q ls hx hb hml hown hts hret hl => ?_)
  have hown : s.vm.findClass RX5 = some m.cls := hown
  have hl : lv_has ls 1 [(0, .int x)] := hl
  refine lv_iload_n hx hb (dk kX5_requireDirection_ok 0 rfl) rfl (lv_at hl 0 rfl) ?_
  refine lv_if_lt (tgt := 10) hx hb (dk kX5_requireDirection_ok 1 rfl) (by decide) (fun h1 => ?_) (fun h1 => ?_)
  · exact absurd h1 (dir_ok hr1).1
  · skip
    refine lv_iload_n hx hb (dk kX5_requireDirection_ok 2 rfl) rfl (lv_at hl 0 rfl) ?_
    refine lv_bipush (v := nI 8) hx hb (dk kX5_requireDirection_ok 3 rfl) rfl ?_
    refine lv_icmp_lt (tgt := 21) hx hb (dk kX5_requireDirection_ok 4 rfl) (by decide) (fun h2 => ?_) (fun h2 => ?_)
    · skip
      exact hret _ _ (dk kX5_requireDirection_ok 10 rfl)
    · exact absurd (Int32.not_lt.mp h2) (dir_ok hr1).2
set_option maxRecDepth 100000 in
set_option maxHeartbeats 4000000 in
theorem tX5_requireDirection_b1 (l : Launch) (hst : l.stackTraces = false) (D : va_G) (cI cQ cL : ClassId) (ad : Nat → Nat) (N : Nat) (F : Nat → va_E) (x : Int32) (hr1 : btw x (nI 0) (nI 7) = false) : MT l yX5_requireDirection (Cond.code yX5_requireDirection cX5_requireDirection 1 none :: AW) ({ frames := 6, cells := 1, slots := 6, locals := 82 } : Room) D cI cQ cL ad N F [.int x] eA 1 6 := by
  refine mt_of (ret := none) hst (by decide +kernel) rfl (Nat.le_of_ble_eq_true rfl) (fun p e s m below meth cd Q ls hx hb hml hown hts hDi hP hK hNW hS hX hthr hthrW hout hl => ?_)
  have hown : s.vm.findClass RX5 = some m.cls := hown
  have hl : lv_has ls 1 [(0, .int x)] := hl
  refine lv_iload_n hx hb (dk kX5_requireDirection_ok 0 rfl) rfl (lv_at hl 0 rfl) ?_
  refine lv_if_lt (tgt := 10) hx hb (dk kX5_requireDirection_ok 1 rfl) (by decide) (fun h1 => ?_) (fun h1 => ?_)
  · skip
    exact hthrW 104 108 370 10 "a direction is 0 to 7" ls [] _ _ 0 0 (by decide) (by decide) hP hS hl.1 (dk kX5_requireDirection_ok 5 rfl) (dk kX5_requireDirection_ok 6 rfl) (dk kX5_requireDirection_ok 7 rfl) (dk kX5_requireDirection_ok 8 rfl) (dk kX5_requireDirection_ok 9 rfl) (by decide) (by decide) (by decide) (by decide) (by decide) (by decide)
  · skip
    refine lv_iload_n hx hb (dk kX5_requireDirection_ok 2 rfl) rfl (lv_at hl 0 rfl) ?_
    refine lv_bipush (v := nI 8) hx hb (dk kX5_requireDirection_ok 3 rfl) rfl ?_
    refine lv_icmp_lt (tgt := 21) hx hb (dk kX5_requireDirection_ok 4 rfl) (by decide) (fun h2 => ?_) (fun h2 => ?_)
    · exact (ff_tt hr1 (dir_bad h1 (Int32.not_le.mpr h2))).elim
    · skip
      exact hthrW 104 108 370 10 "a direction is 0 to 7" ls [] _ _ 0 0 (by decide) (by decide) hP hS hl.1 (dk kX5_requireDirection_ok 5 rfl) (dk kX5_requireDirection_ok 6 rfl) (dk kX5_requireDirection_ok 7 rfl) (dk kX5_requireDirection_ok 8 rfl) (dk kX5_requireDirection_ok 9 rfl) (by decide) (by decide) (by decide) (by decide) (by decide) (by decide)
set_option maxRecDepth 100000 in
set_option maxHeartbeats 4000000 in
theorem tX5_requireFlight_ok (l : Launch) (x y : Int32) (hr1 : btw x (nI 0) (nI 7) = true) (hr2 : btw y (nI 1) (nI 9) = true) : MPv l yX5_requireFlight (Cond.code yX5_requireFlight cX5_requireFlight 2 none :: AW) ({ frames := 7, cells := 0, slots := 0, locals := 102 } : Room) [.int x, .int y] := by
  refine mp_v (by decide +kernel) rfl (Nat.le_of_ble_eq_true rfl) (fun p e s m below meth cd Q ls hx hb hml hown hts hret hl => ?_)
  have hown : s.vm.findClass RX5 = some m.cls := hown
  have hl : lv_has ls 2 [(0, .int x), (1, .int y)] := hl
  refine lv_iload_n hx hb (dk kX5_requireFlight_ok 0 rfl) rfl (lv_at hl 0 rfl) ?_
  refine csPv (As := [.int x]) (rest := []) ⟨hx, hb, hml, hown, hts⟩ (tX5_requireDirection_ok l x hr1) (cwS9 1 hts mcX5_requireDirection (ac9 _ (List.mem_of_getElem? (i := 1) rfl)) msX5_requireDirection mini_RX5 rfl rfl hdX5_requireDirection ⟨Nat.le_of_ble_eq_true rfl, Nat.le_of_ble_eq_true rfl⟩) rfl hl.1 rfl (Nat.le_of_ble_eq_true rfl) (by decide) (dk kX5_requireFlight_ok 1 rfl) ?_
  refine lv_iload_n hx hb (dk kX5_requireFlight_ok 2 rfl) rfl (lv_at hl 1 rfl) ?_
  refine lv_iconst (v := nI 1) hx hb (dk kX5_requireFlight_ok 3 rfl) rfl ?_
  refine lv_icmp_lt (tgt := 15) hx hb (dk kX5_requireFlight_ok 4 rfl) (by decide) (fun h1 => ?_) (fun h1 => ?_)
  · exact absurd h1 (rng_ok hr2).1
  · skip
    refine lv_iload_n hx hb (dk kX5_requireFlight_ok 5 rfl) rfl (lv_at hl 1 rfl) ?_
    refine lv_bipush (v := nI 9) hx hb (dk kX5_requireFlight_ok 6 rfl) rfl ?_
    refine lv_icmp_le (tgt := 26) hx hb (dk kX5_requireFlight_ok 7 rfl) (by decide) (fun h2 => ?_) (fun h2 => ?_)
    · skip
      exact hret _ _ (dk kX5_requireFlight_ok 13 rfl)
    · exact absurd (Int32.not_le.mp h2) (rng_ok hr2).2
set_option maxRecDepth 100000 in
set_option maxHeartbeats 4000000 in
theorem tX5_requireFlight_b1 (l : Launch) (hst : l.stackTraces = false) (D : va_G) (cI cQ cL : ClassId) (ad : Nat → Nat) (N : Nat) (F : Nat → va_E) (x y : Int32) (hr1 : btw x (nI 0) (nI 7) = false) : MT l yX5_requireFlight (Cond.code yX5_requireFlight cX5_requireFlight 2 none :: AW) ({ frames := 7, cells := 1, slots := 6, locals := 102 } : Room) D cI cQ cL ad N F [.int x, .int y] eA 1 6 := by
  refine mt_of (ret := none) hst (by decide +kernel) rfl (Nat.le_of_ble_eq_true rfl) (fun p e s m below meth cd Q ls hx hb hml hown hts hDi hP hK hNW hS hX hthr hthrW hout hl => ?_)
  have hown : s.vm.findClass RX5 = some m.cls := hown
  have hl : lv_has ls 2 [(0, .int x), (1, .int y)] := hl
  refine lv_iload_n hx hb (dk kX5_requireFlight_ok 0 rfl) rfl (lv_at hl 0 rfl) ?_
  exact csT (As := [.int x]) (rest := []) ⟨hx, hb, hml, hown, hts⟩ (tX5_requireDirection_b1 l hst D cI cQ cL ad N F x hr1) (cwS9 1 hts mcX5_requireDirection (ac9 _ (List.mem_of_getElem? (i := 1) rfl)) msX5_requireDirection mini_RX5 rfl rfl hdX5_requireDirection ⟨Nat.le_of_ble_eq_true rfl, Nat.le_of_ble_eq_true rfl⟩) hDi hK hP hNW hS hX rfl hl.1 rfl (Nat.le_of_ble_eq_true rfl) (by decide) (dk kX5_requireFlight_ok 1 rfl) (fun H locs q ce hP hS h1 h2 h3 => hout _ _ _ H locs q ce _ _ hP hS h1 h2 h3 (by decide) (by decide))
set_option maxRecDepth 100000 in
set_option maxHeartbeats 4000000 in
theorem tX5_requireFlight_b2 (l : Launch) (hst : l.stackTraces = false) (D : va_G) (cI cQ cL : ClassId) (ad : Nat → Nat) (N : Nat) (F : Nat → va_E) (x y : Int32) (hr1 : btw x (nI 0) (nI 7) = true) (hr2 : btw y (nI 1) (nI 9) = false) : MT l yX5_requireFlight (Cond.code yX5_requireFlight cX5_requireFlight 2 none :: AW) ({ frames := 7, cells := 1, slots := 6, locals := 102 } : Room) D cI cQ cL ad N F [.int x, .int y] eA 1 6 := by
  refine mt_of (ret := none) hst (by decide +kernel) rfl (Nat.le_of_ble_eq_true rfl) (fun p e s m below meth cd Q ls hx hb hml hown hts hDi hP hK hNW hS hX hthr hthrW hout hl => ?_)
  have hown : s.vm.findClass RX5 = some m.cls := hown
  have hl : lv_has ls 2 [(0, .int x), (1, .int y)] := hl
  refine lv_iload_n hx hb (dk kX5_requireFlight_ok 0 rfl) rfl (lv_at hl 0 rfl) ?_
  refine csPv (As := [.int x]) (rest := []) ⟨hx, hb, hml, hown, hts⟩ (tX5_requireDirection_ok l x hr1) (cwS9 1 hts mcX5_requireDirection (ac9 _ (List.mem_of_getElem? (i := 1) rfl)) msX5_requireDirection mini_RX5 rfl rfl hdX5_requireDirection ⟨Nat.le_of_ble_eq_true rfl, Nat.le_of_ble_eq_true rfl⟩) rfl hl.1 rfl (Nat.le_of_ble_eq_true rfl) (by decide) (dk kX5_requireFlight_ok 1 rfl) ?_
  refine lv_iload_n hx hb (dk kX5_requireFlight_ok 2 rfl) rfl (lv_at hl 1 rfl) ?_
  refine lv_iconst (v := nI 1) hx hb (dk kX5_requireFlight_ok 3 rfl) rfl ?_
  refine lv_icmp_lt (tgt := 15) hx hb (dk kX5_requireFlight_ok 4 rfl) (by decide) (fun h1 => ?_) (fun h1 => ?_)
  · skip
    exact hthrW 104 108 366 15 "a force is 1 to 9" ls [] _ _ 0 0 (by decide) (by decide) hP hS hl.1 (dk kX5_requireFlight_ok 8 rfl) (dk kX5_requireFlight_ok 9 rfl) (dk kX5_requireFlight_ok 10 rfl) (dk kX5_requireFlight_ok 11 rfl) (dk kX5_requireFlight_ok 12 rfl) (by decide) (by decide) (by decide) (by decide) (by decide) (by decide)
  · skip
    refine lv_iload_n hx hb (dk kX5_requireFlight_ok 5 rfl) rfl (lv_at hl 1 rfl) ?_
    refine lv_bipush (v := nI 9) hx hb (dk kX5_requireFlight_ok 6 rfl) rfl ?_
    refine lv_icmp_le (tgt := 26) hx hb (dk kX5_requireFlight_ok 7 rfl) (by decide) (fun h2 => ?_) (fun h2 => ?_)
    · exact (ff_tt hr2 (rng_bad h1 (Int32.not_lt.mpr h2))).elim
    · skip
      exact hthrW 104 108 366 15 "a force is 1 to 9" ls [] _ _ 0 0 (by decide) (by decide) hP hS hl.1 (dk kX5_requireFlight_ok 8 rfl) (dk kX5_requireFlight_ok 9 rfl) (dk kX5_requireFlight_ok 10 rfl) (dk kX5_requireFlight_ok 11 rfl) (dk kX5_requireFlight_ok 12 rfl) (by decide) (by decide) (by decide) (by decide) (by decide) (by decide)
set_option maxRecDepth 100000 in
set_option maxHeartbeats 4000000 in
theorem tX5_requireLift_ok (l : Launch) (x y : Int32) (hr2 : btw x (nI 1) (nI 6) = true) (hr1 : btw y (nI 0) (nI 7) = true) : MPv l yX5_requireLift (Cond.code yX5_requireLift cX5_requireLift 2 none :: AW) ({ frames := 7, cells := 0, slots := 0, locals := 102 } : Room) [.int x, .int y] := by
  refine mp_v (by decide +kernel) rfl (Nat.le_of_ble_eq_true rfl) (fun p e s m below meth cd Q ls hx hb hml hown hts hret hl => ?_)
  have hown : s.vm.findClass RX5 = some m.cls := hown
  have hl : lv_has ls 2 [(0, .int x), (1, .int y)] := hl
  refine lv_iload_n hx hb (dk kX5_requireLift_ok 0 rfl) rfl (lv_at hl 0 rfl) ?_
  refine lv_iconst (v := nI 1) hx hb (dk kX5_requireLift_ok 1 rfl) rfl ?_
  refine lv_icmp_lt (tgt := 11) hx hb (dk kX5_requireLift_ok 2 rfl) (by decide) (fun h1 => ?_) (fun h1 => ?_)
  · exact absurd h1 (rng_ok hr2).1
  · skip
    refine lv_iload_n hx hb (dk kX5_requireLift_ok 3 rfl) rfl (lv_at hl 0 rfl) ?_
    refine lv_bipush (v := nI 6) hx hb (dk kX5_requireLift_ok 4 rfl) rfl ?_
    refine lv_icmp_le (tgt := 22) hx hb (dk kX5_requireLift_ok 5 rfl) (by decide) (fun h2 => ?_) (fun h2 => ?_)
    · skip
      refine lv_iload_n hx hb (dk kX5_requireLift_ok 11 rfl) rfl (lv_at hl 1 rfl) ?_
      refine csPv (As := [.int y]) (rest := []) ⟨hx, hb, hml, hown, hts⟩ (tX5_requireDirection_ok l y hr1) (cwS9 1 hts mcX5_requireDirection (ac9 _ (List.mem_of_getElem? (i := 1) rfl)) msX5_requireDirection mini_RX5 rfl rfl hdX5_requireDirection ⟨Nat.le_of_ble_eq_true rfl, Nat.le_of_ble_eq_true rfl⟩) rfl hl.1 rfl (Nat.le_of_ble_eq_true rfl) (by decide) (dk kX5_requireLift_ok 12 rfl) ?_
      exact hret _ _ (dk kX5_requireLift_ok 13 rfl)
    · exact absurd (Int32.not_le.mp h2) (rng_ok hr2).2
set_option maxRecDepth 100000 in
set_option maxHeartbeats 4000000 in
theorem tX5_requireLift_b1 (l : Launch) (hst : l.stackTraces = false) (D : va_G) (cI cQ cL : ClassId) (ad : Nat → Nat) (N : Nat) (F : Nat → va_E) (x y : Int32) (hr2 : btw x (nI 1) (nI 6) = false) : MT l yX5_requireLift (Cond.code yX5_requireLift cX5_requireLift 2 none :: AW) ({ frames := 6, cells := 1, slots := 6, locals := 82 } : Room) D cI cQ cL ad N F [.int x, .int y] eA 1 6 := by
  refine mt_of (ret := none) hst (by decide +kernel) rfl (Nat.le_of_ble_eq_true rfl) (fun p e s m below meth cd Q ls hx hb hml hown hts hDi hP hK hNW hS hX hthr hthrW hout hl => ?_)
  have hown : s.vm.findClass RX5 = some m.cls := hown
  have hl : lv_has ls 2 [(0, .int x), (1, .int y)] := hl
  refine lv_iload_n hx hb (dk kX5_requireLift_ok 0 rfl) rfl (lv_at hl 0 rfl) ?_
  refine lv_iconst (v := nI 1) hx hb (dk kX5_requireLift_ok 1 rfl) rfl ?_
  refine lv_icmp_lt (tgt := 11) hx hb (dk kX5_requireLift_ok 2 rfl) (by decide) (fun h1 => ?_) (fun h1 => ?_)
  · skip
    exact hthrW 104 108 368 11 "1 to 6 winks are lifted" ls [] _ _ 0 0 (by decide) (by decide) hP hS hl.1 (dk kX5_requireLift_ok 6 rfl) (dk kX5_requireLift_ok 7 rfl) (dk kX5_requireLift_ok 8 rfl) (dk kX5_requireLift_ok 9 rfl) (dk kX5_requireLift_ok 10 rfl) (by decide) (by decide) (by decide) (by decide) (by decide) (by decide)
  · skip
    refine lv_iload_n hx hb (dk kX5_requireLift_ok 3 rfl) rfl (lv_at hl 0 rfl) ?_
    refine lv_bipush (v := nI 6) hx hb (dk kX5_requireLift_ok 4 rfl) rfl ?_
    refine lv_icmp_le (tgt := 22) hx hb (dk kX5_requireLift_ok 5 rfl) (by decide) (fun h2 => ?_) (fun h2 => ?_)
    · exact (ff_tt hr2 (rng_bad h1 (Int32.not_lt.mpr h2))).elim
    · skip
      exact hthrW 104 108 368 11 "1 to 6 winks are lifted" ls [] _ _ 0 0 (by decide) (by decide) hP hS hl.1 (dk kX5_requireLift_ok 6 rfl) (dk kX5_requireLift_ok 7 rfl) (dk kX5_requireLift_ok 8 rfl) (dk kX5_requireLift_ok 9 rfl) (dk kX5_requireLift_ok 10 rfl) (by decide) (by decide) (by decide) (by decide) (by decide) (by decide)
set_option maxRecDepth 100000 in
set_option maxHeartbeats 4000000 in
theorem tX5_requireLift_b2 (l : Launch) (hst : l.stackTraces = false) (D : va_G) (cI cQ cL : ClassId) (ad : Nat → Nat) (N : Nat) (F : Nat → va_E) (x y : Int32) (hr2 : btw x (nI 1) (nI 6) = true) (hr1 : btw y (nI 0) (nI 7) = false) : MT l yX5_requireLift (Cond.code yX5_requireLift cX5_requireLift 2 none :: AW) ({ frames := 7, cells := 1, slots := 6, locals := 102 } : Room) D cI cQ cL ad N F [.int x, .int y] eA 1 6 := by
  refine mt_of (ret := none) hst (by decide +kernel) rfl (Nat.le_of_ble_eq_true rfl) (fun p e s m below meth cd Q ls hx hb hml hown hts hDi hP hK hNW hS hX hthr hthrW hout hl => ?_)
  have hown : s.vm.findClass RX5 = some m.cls := hown
  have hl : lv_has ls 2 [(0, .int x), (1, .int y)] := hl
  refine lv_iload_n hx hb (dk kX5_requireLift_ok 0 rfl) rfl (lv_at hl 0 rfl) ?_
  refine lv_iconst (v := nI 1) hx hb (dk kX5_requireLift_ok 1 rfl) rfl ?_
  refine lv_icmp_lt (tgt := 11) hx hb (dk kX5_requireLift_ok 2 rfl) (by decide) (fun h1 => ?_) (fun h1 => ?_)
  · exact absurd h1 (rng_ok hr2).1
  · skip
    refine lv_iload_n hx hb (dk kX5_requireLift_ok 3 rfl) rfl (lv_at hl 0 rfl) ?_
    refine lv_bipush (v := nI 6) hx hb (dk kX5_requireLift_ok 4 rfl) rfl ?_
    refine lv_icmp_le (tgt := 22) hx hb (dk kX5_requireLift_ok 5 rfl) (by decide) (fun h2 => ?_) (fun h2 => ?_)
    · skip
      refine lv_iload_n hx hb (dk kX5_requireLift_ok 11 rfl) rfl (lv_at hl 1 rfl) ?_
      exact csT (As := [.int y]) (rest := []) ⟨hx, hb, hml, hown, hts⟩ (tX5_requireDirection_b1 l hst D cI cQ cL ad N F y hr1) (cwS9 1 hts mcX5_requireDirection (ac9 _ (List.mem_of_getElem? (i := 1) rfl)) msX5_requireDirection mini_RX5 rfl rfl hdX5_requireDirection ⟨Nat.le_of_ble_eq_true rfl, Nat.le_of_ble_eq_true rfl⟩) hDi hK hP hNW hS hX rfl hl.1 rfl (Nat.le_of_ble_eq_true rfl) (by decide) (dk kX5_requireLift_ok 12 rfl) (fun H locs q ce hP hS h1 h2 h3 => hout _ _ _ H locs q ce _ _ hP hS h1 h2 h3 (by decide) (by decide))
    · exact absurd (Int32.not_le.mp h2) (rng_ok hr2).2
end
/-! from cllook -/
section
set_option maxRecDepth 100000 in
set_option maxHeartbeats 4000000 in
theorem tX5_wink (l : Launch) (D : va_G) (cI cQ cL : ClassId) (ad : Nat → Nat) (N : Nat) (F : Nat → va_E) (hk : 76 < N) (c b v g h j : Nat → Int32) (t : Nat) (u z : Int32) (hN : stAt cI ad F 1 c b v g h j (nI t) u z) (c8 b8 v8 g8 h8 j8 : Nat → Int32) (t8 : Nat) (u8 z8 : Int32) (hSn : stAt cI ad F 9 c8 b8 v8 g8 h8 j8 (nI t8) u8 z8) (n9 m9 : Nat) (hn9 : n9 < 6) (hm9 : m9 ≤ 6) (hPa : paAt cQ ad F 17 n9 m9) (a : Nat → Int32) (n : Nat) (hn60 : n ≤ 60) (hT : gtAt cI ad F 67 a n) (c6 b6 v6 : Nat → Int32) (hM6 : matAt cI ad F 69 c6 b6 v6) (a7 d7 q7 : Nat → Int32) (hO : roAt cI ad F 73 a7 d7 q7) (hs : Bool) (hC : F 0 = .inr (5, [.ref (ad 1), .ref (ad 9), .ref (ad 17), .ref (ad 67), .ref (ad 69), .ref (ad 73), .int (bI hs)])) (ht : t < 4) (x : Int32) (w : Nat) (hxw : x = nI w) (hw : w < 16) (y : Int32) (hy9 : btw y (nI 0) (nI 6) = true) : MR l yX5_wink (Cond.code yX5_wink cX5_wink 3 (some .int) :: AW) ({ frames := 7, cells := 0, slots := 0, locals := 102 } : Room) D cI cQ cL ad N F [.ref (ad 0), .int x, .int y] (.int (cWink c b v g t w y)) := by
  refine mr_i (ty := .int) (by decide +kernel) rfl rfl rfl rfl (Nat.le_of_ble_eq_true rfl) (fun p e s m below meth cd Q ls hx hb hml hown hts hP hK hNW hret hl => ?_)
  have hown : s.vm.findClass RX5 = some m.cls := hown
  subst hxw
  have hz0 : 0 < N := by omega
  have hz1 : 1 < N := by omega
  have hz1___1 : 1 + 1 < N := by omega
  have hz1___1___1 : 1 + 1 + 1 < N := by omega
  have hz1___1___2 : 1 + 1 + 2 < N := by omega
  have hz1___1___3 : 1 + 1 + 3 < N := by omega
  have hz1___5 : 1 + 5 < N := by omega
  have hz1___6 : 1 + 6 < N := by omega
  have hz1___7 : 1 + 7 < N := by omega
  have hz9 : 9 < N := by omega
  have hz17 : 17 < N := by omega
  have hz17___1 : 17 + 1 < N := by omega
  have hz67 : 67 < N := by omega
  have hz67___1 : 67 + 1 < N := by omega
  have hz69 : 69 < N := by omega
  have hz69___1 : 69 + 1 < N := by omega
  have hz69___2 : 69 + 2 < N := by omega
  have hz69___3 : 69 + 3 < N := by omega
  have hz73 : 73 < N := by omega
  have hz1___1___3 : 1 + 1 + 3 < N := by omega
  have hz69___3 : 69 + 3 < N := by omega
  have hl : lv_has ls 3 [(0, .ref (ad 0)), (1, .int (nI w)), (2, .int y)] := hl
  refine lv_iload_n hx hb (dk kX5_wink_ok 0 rfl) rfl (lv_at hl 1 rfl) ?_
  refine csPv (As := [.int (nI w)]) (rest := []) ⟨hx, hb, hml, hown, hts⟩ (tX5_requireWink_ok l (nI w) (wk_nI hw)) (cwS9 1 hts mcX5_requireWink (ac9 _ (List.mem_of_getElem? (i := 6) rfl)) msX5_requireWink mini_RX5 rfl rfl hdX5_requireWink ⟨Nat.le_of_ble_eq_true rfl, Nat.le_of_ble_eq_true rfl⟩) rfl hl.1 rfl (Nat.le_of_ble_eq_true rfl) (by decide) (dk kX5_wink_ok 1 rfl) ?_
  refine lv_iload_n hx hb (dk kX5_wink_ok 2 rfl) rfl (lv_at hl 2 rfl) ?_
  rcases Classical.em (y = nI 0) with hs1 | hs1
  · skip
    refine sw_in (off := 43) (tgt := 48) 0 hx hb (dk kX5_wink_ok 3 rfl) hs1 rfl rfl rfl (by decide) ?_
    refine lv_iload_n hx hb (dk kX5_wink_ok 4 rfl) rfl (lv_at hl 1 rfl) ?_
    refine csP (As := [.int (nI w)]) (rest := []) ⟨hx, hb, hml, hown, hts⟩ (tX5_colourOf l (nI w) w rfl (by omega)) (cwS9 1 hts mcX5_colourOf (ac7 _ (List.mem_of_getElem? (i := 2) rfl)) msX5_colourOf mini_RX5 rfl rfl hdX5_colourOf ⟨Nat.le_of_ble_eq_true rfl, Nat.le_of_ble_eq_true rfl⟩) rfl hl.1 rfl (Nat.le_of_ble_eq_true rfl) (by decide) (dk kX5_wink_ok 5 rfl) ?_
    exact hret _ _ _ (by simp (config := { decide := true }) only [cWink, (eq_true hs1), bI_1, bI_00, not_true_eq_false, not_false_eq_true, and_true, true_and, and_false, false_and, or_true, true_or, or_false, false_or, and_self, or_self, if_true, if_false, Bool.false_eq_true, reduceIte]; first | done | rfl | (simp_all; done)) (dk kX5_wink_ok 6 rfl)
  rcases Classical.em (y = nI 1) with hs2 | hs2
  · skip
    refine sw_in (off := 48) (tgt := 53) 1 hx hb (dk kX5_wink_ok 3 rfl) hs2 rfl rfl rfl (by decide) ?_
    refine lv_iload_n hx hb (dk kX5_wink_ok 7 rfl) rfl (lv_at hl 1 rfl) ?_
    refine csP (As := [.int (nI w)]) (rest := []) ⟨hx, hb, hml, hown, hts⟩ (tX5_isLarge l (nI w) w rfl (by omega)) (cwS9 1 hts mcX5_isLarge (ac6 _ (List.mem_of_getElem? (i := 23) rfl)) msX5_isLarge mini_RX5 rfl rfl hdX5_isLarge ⟨Nat.le_of_ble_eq_true rfl, Nat.le_of_ble_eq_true rfl⟩) rfl hl.1 rfl (Nat.le_of_ble_eq_true rfl) (by decide) (dk kX5_wink_ok 8 rfl) ?_
    refine b_if_eq (tgt := 64) hx hb (dk kX5_wink_ok 9 rfl) (by decide) (fun h3 => ?_) (fun h3 => ?_)
    · replace h3 := of_decide_eq_false h3
      refine lv_iconst (v := nI 0) hx hb (dk kX5_wink_ok 12 rfl) rfl ?_
      exact hret _ _ _ (by simp (config := { decide := true }) only [cWink, (eq_false hs1), (eq_true hs2), (eq_false h3), bI_1, bI_00, not_true_eq_false, not_false_eq_true, and_true, true_and, and_false, false_and, or_true, true_or, or_false, false_or, and_self, or_self, if_true, if_false, Bool.false_eq_true, reduceIte]; first | done | rfl | (simp_all; done)) (dk kX5_wink_ok 13 rfl)
    · replace h3 := of_decide_eq_true h3
      refine lv_iconst (v := nI 1) hx hb (dk kX5_wink_ok 10 rfl) rfl ?_
      refine lv_goto (tgt := 65) hx hb (dk kX5_wink_ok 11 rfl) (by decide) ?_
      exact hret _ _ _ (by simp (config := { decide := true }) only [cWink, (eq_false hs1), (eq_true hs2), (eq_true h3), bI_1, bI_00, not_true_eq_false, not_false_eq_true, and_true, true_and, and_false, false_and, or_true, true_or, or_false, false_or, and_self, or_self, if_true, if_false, Bool.false_eq_true, reduceIte]; first | done | rfl | (simp_all; done)) (dk kX5_wink_ok 13 rfl)
  rcases Classical.em (y = nI 2) with hs4 | hs4
  · skip
    refine sw_in (off := 61) (tgt := 66) 2 hx hb (dk kX5_wink_ok 3 rfl) hs4 rfl rfl rfl (by decide) ?_
    refine lv_aload_n hx hb (dk kX5_wink_ok 14 rfl) rfl (lv_at hl 0 rfl) ?_
    refine gf hx hb hts (fun w h => List.mem_cons_of_mem _ (acX5 w h)) hown hK hP hz0 hC rfl 0 (by decide) (hts _ (List.mem_cons_of_mem _ (ac7 _ (List.mem_of_getElem? (i := 21) rfl)))) (fun _ h => h) rfl (dk kX5_wink_ok 15 rfl) ?_
    refine gfN hx hb hts (fun w h => List.mem_cons_of_mem _ (acX4 w h)) hown hK hP hz1 hN.1 rfl 0 (by decide) (nf2 hNW) (fun _ h => h) rfl (dk kX5_wink_ok 16 rfl) ?_
    refine gfN hx hb hts (fun w h => List.mem_cons_of_mem _ (acX1 w h)) hown hK hP hz1___1 hN.2.1.1 rfl 0 (by decide) (nf1 hNW) (fun _ h => h) rfl (dk kX5_wink_ok 17 rfl) ?_
    refine lv_iload_n hx hb (dk kX5_wink_ok 18 rfl) rfl (lv_at hl 1 rfl) ?_
    refine ald (j := w) hx hb hK hP hz1___1___1 hN.2.1.2.1 rfl (by omega) (by decide) (dk kX5_wink_ok 19 rfl) ?_
    exact hret _ _ _ (by simp (config := { decide := true }) only [cWink, (eq_false hs1), (eq_false hs2), (eq_true hs4), bI_1, bI_00, not_true_eq_false, not_false_eq_true, and_true, true_and, and_false, false_and, or_true, true_or, or_false, false_or, and_self, or_self, if_true, if_false, Bool.false_eq_true, reduceIte]; first | done | rfl | (simp_all; done)) (dk kX5_wink_ok 20 rfl)
  rcases Classical.em (y = nI 3) with hs5 | hs5
  · skip
    refine sw_in (off := 74) (tgt := 79) 3 hx hb (dk kX5_wink_ok 3 rfl) hs5 rfl rfl rfl (by decide) ?_
    refine lv_aload_n hx hb (dk kX5_wink_ok 21 rfl) rfl (lv_at hl 0 rfl) ?_
    refine gf hx hb hts (fun w h => List.mem_cons_of_mem _ (acX5 w h)) hown hK hP hz0 hC rfl 0 (by decide) (hts _ (List.mem_cons_of_mem _ (ac7 _ (List.mem_of_getElem? (i := 21) rfl)))) (fun _ h => h) rfl (dk kX5_wink_ok 22 rfl) ?_
    refine gfN hx hb hts (fun w h => List.mem_cons_of_mem _ (acX4 w h)) hown hK hP hz1 hN.1 rfl 0 (by decide) (nf2 hNW) (fun _ h => h) rfl (dk kX5_wink_ok 23 rfl) ?_
    refine lv_iload_n hx hb (dk kX5_wink_ok 24 rfl) rfl (lv_at hl 1 rfl) ?_
    refine cvR (As := [.int (nI w)]) (rest := []) ⟨hx, hb, hml, hown, hts⟩ (tX1_placeOf l D cI cQ cL ad N F (1 + 1) (by omega) c b v hN.2.1 (nI w) w rfl (by omega)) (cwV9 1 hts mcX1_placeOf (ac12 _ (List.mem_of_getElem? (i := 4) rfl)) miX1_placeOf meX1_placeOf mini_RX1 rfl rfl hdX1_placeOf ⟨Nat.le_of_ble_eq_true rfl, Nat.le_of_ble_eq_true rfl⟩) hK hP hNW hz1___1 hN.2.1.1 rfl rfl hl.1 rfl (Nat.le_of_ble_eq_true rfl) (by decide) (dk kX5_wink_ok 25 rfl) ?_
    exact hret _ _ _ (by simp (config := { decide := true }) only [cWink, (eq_false hs1), (eq_false hs2), (eq_false hs4), (eq_true hs5), bI_1, bI_00, not_true_eq_false, not_false_eq_true, and_true, true_and, and_false, false_and, or_true, true_or, or_false, false_or, and_self, or_self, if_true, if_false, Bool.false_eq_true, reduceIte]; first | done | rfl | (simp_all; done)) (dk kX5_wink_ok 26 rfl)
  rcases Classical.em (y = nI 4) with hs6 | hs6
  · skip
    refine sw_in (off := 86) (tgt := 91) 4 hx hb (dk kX5_wink_ok 3 rfl) hs6 rfl rfl rfl (by decide) ?_
    refine lv_aload_n hx hb (dk kX5_wink_ok 27 rfl) rfl (lv_at hl 0 rfl) ?_
    refine gf hx hb hts (fun w h => List.mem_cons_of_mem _ (acX5 w h)) hown hK hP hz0 hC rfl 0 (by decide) (hts _ (List.mem_cons_of_mem _ (ac7 _ (List.mem_of_getElem? (i := 21) rfl)))) (fun _ h => h) rfl (dk kX5_wink_ok 28 rfl) ?_
    refine gfN hx hb hts (fun w h => List.mem_cons_of_mem _ (acX4 w h)) hown hK hP hz1 hN.1 rfl 0 (by decide) (nf2 hNW) (fun _ h => h) rfl (dk kX5_wink_ok 29 rfl) ?_
    refine lv_iload_n hx hb (dk kX5_wink_ok 30 rfl) rfl (lv_at hl 1 rfl) ?_
    refine cvR (As := [.int (nI w)]) (rest := []) ⟨hx, hb, hml, hown, hts⟩ (tX1_isCovered l D cI cQ cL ad N F (1 + 1) (by omega) c b v hN.2.1 (nI w) w rfl (by omega)) (cwV9 1 hts mcX1_isCovered (ac10 _ (List.mem_of_getElem? (i := 16) rfl)) miX1_isCovered meX1_isCovered mini_RX1 rfl rfl hdX1_isCovered ⟨Nat.le_of_ble_eq_true rfl, Nat.le_of_ble_eq_true rfl⟩) hK hP hNW hz1___1 hN.2.1.1 rfl rfl hl.1 rfl (Nat.le_of_ble_eq_true rfl) (by decide) (dk kX5_wink_ok 31 rfl) ?_
    refine b_if_eq (tgt := 109) hx hb (dk kX5_wink_ok 32 rfl) (by decide) (fun h7 => ?_) (fun h7 => ?_)
    · skip
      refine lv_iconst (v := nI 0) hx hb (dk kX5_wink_ok 35 rfl) rfl ?_
      exact hret _ _ _ (by simp (config := { decide := true }) only [cWink, (eq_false hs1), (eq_false hs2), (eq_false hs4), (eq_false hs5), (eq_true hs6), h7, bI_1, bI_00, not_true_eq_false, not_false_eq_true, and_true, true_and, and_false, false_and, or_true, true_or, or_false, false_or, and_self, or_self, if_true, if_false, Bool.false_eq_true, reduceIte]; first | done | rfl | (simp_all; done)) (dk kX5_wink_ok 36 rfl)
    · skip
      refine lv_iconst (v := nI 1) hx hb (dk kX5_wink_ok 33 rfl) rfl ?_
      refine lv_goto (tgt := 110) hx hb (dk kX5_wink_ok 34 rfl) (by decide) ?_
      exact hret _ _ _ (by simp (config := { decide := true }) only [cWink, (eq_false hs1), (eq_false hs2), (eq_false hs4), (eq_false hs5), (eq_true hs6), h7, bI_1, bI_00, not_true_eq_false, not_false_eq_true, and_true, true_and, and_false, false_and, or_true, true_or, or_false, false_or, and_self, or_self, if_true, if_false, Bool.false_eq_true, reduceIte]; first | done | rfl | (simp_all; done)) (dk kX5_wink_ok 36 rfl)
  rcases Classical.em (y = nI 5) with hs8 | hs8
  · skip
    refine sw_in (off := 106) (tgt := 111) 5 hx hb (dk kX5_wink_ok 3 rfl) hs8 rfl rfl rfl (by decide) ?_
    refine lv_aload_n hx hb (dk kX5_wink_ok 37 rfl) rfl (lv_at hl 0 rfl) ?_
    refine gf hx hb hts (fun w h => List.mem_cons_of_mem _ (acX5 w h)) hown hK hP hz0 hC rfl 0 (by decide) (hts _ (List.mem_cons_of_mem _ (ac7 _ (List.mem_of_getElem? (i := 21) rfl)))) (fun _ h => h) rfl (dk kX5_wink_ok 38 rfl) ?_
    refine gfN hx hb hts (fun w h => List.mem_cons_of_mem _ (acX4 w h)) hown hK hP hz1 hN.1 rfl 1 (by decide) (nf3 hNW) (fun _ h => h) rfl (dk kX5_wink_ok 39 rfl) ?_
    refine lv_iload_n hx hb (dk kX5_wink_ok 40 rfl) rfl (lv_at hl 1 rfl) ?_
    refine ald (j := w) hx hb hK hP hz1___5 hN.2.2.1 rfl (by omega) (by decide) (dk kX5_wink_ok 41 rfl) ?_
    exact hret _ _ _ (by simp (config := { decide := true }) only [cWink, (eq_false hs1), (eq_false hs2), (eq_false hs4), (eq_false hs5), (eq_false hs6), (eq_true hs8), bI_1, bI_00, not_true_eq_false, not_false_eq_true, and_true, true_and, and_false, false_and, or_true, true_or, or_false, false_or, and_self, or_self, if_true, if_false, Bool.false_eq_true, reduceIte]; first | done | rfl | (simp_all; done)) (dk kX5_wink_ok 42 rfl)
  rcases Classical.em (y = nI 6) with hs9 | hs9
  · skip
    refine sw_in (off := 116) (tgt := 121) 6 hx hb (dk kX5_wink_ok 3 rfl) hs9 rfl rfl rfl (by decide) ?_
    refine lv_aload_n hx hb (dk kX5_wink_ok 43 rfl) rfl (lv_at hl 0 rfl) ?_
    refine gf hx hb hts (fun w h => List.mem_cons_of_mem _ (acX5 w h)) hown hK hP hz0 hC rfl 0 (by decide) (hts _ (List.mem_cons_of_mem _ (ac7 _ (List.mem_of_getElem? (i := 21) rfl)))) (fun _ h => h) rfl (dk kX5_wink_ok 44 rfl) ?_
    refine lv_iload_n hx hb (dk kX5_wink_ok 45 rfl) rfl (lv_at hl 1 rfl) ?_
    refine cvR (As := [.int (nI w)]) (rest := []) ⟨hx, hb, hml, hown, hts⟩ (tX4_whyNotFlown l D cI cQ cL ad N F 1 (by omega) c b v g h j t u z hN ht (nI w) w rfl (by omega)) (cwV9 1 hts mcX4_whyNotFlown (ac9 _ (List.mem_of_getElem? (i := 12) rfl)) miX4_whyNotFlown meX4_whyNotFlown mini_RX4 rfl rfl hdX4_whyNotFlown ⟨Nat.le_of_ble_eq_true rfl, Nat.le_of_ble_eq_true rfl⟩) hK hP hNW hz1 hN.1 rfl rfl hl.1 rfl (Nat.le_of_ble_eq_true rfl) (by decide) (dk kX5_wink_ok 46 rfl) ?_
    exact hret _ _ _ (by simp (config := { decide := true }) only [cWink, (eq_false hs1), (eq_false hs2), (eq_false hs4), (eq_false hs5), (eq_false hs6), (eq_false hs8), (eq_true hs9), bI_1, bI_00, not_true_eq_false, not_false_eq_true, and_true, true_and, and_false, false_and, or_true, true_or, or_false, false_or, and_self, or_self, if_true, if_false, Bool.false_eq_true, reduceIte]; first | done | rfl | (simp_all; done)) (dk kX5_wink_ok 47 rfl)
  refine lv_tableOut (tgt := 130) hx hb (dk kX5_wink_ok 3 rfl) (sw_out 7 (by intro k9 hk9; rcases k9 with _ | _ | _ | _ | _ | _ | _ | _ <;> first | assumption | omega)) (by decide) ?_
  exact (btw_all (m := 6) (by decide) hy9 (fun j9 hj9 e9 => by rcases (show j9 = 0 ∨ j9 = 1 ∨ j9 = 2 ∨ j9 = 3 ∨ j9 = 4 ∨ j9 = 5 ∨ j9 = 6 by omega) with rfl | rfl | rfl | rfl | rfl | rfl | rfl <;> contradiction)).elim
set_option maxRecDepth 100000 in
set_option maxHeartbeats 4000000 in
theorem tX5_wink_b1 (l : Launch) (hst : l.stackTraces = false) (D : va_G) (cI cQ cL : ClassId) (ad : Nat → Nat) (N : Nat) (F : Nat → va_E) (hk : 76 < N) (c b v g h j : Nat → Int32) (t : Nat) (u z : Int32) (hN : stAt cI ad F 1 c b v g h j (nI t) u z) (c8 b8 v8 g8 h8 j8 : Nat → Int32) (t8 : Nat) (u8 z8 : Int32) (hSn : stAt cI ad F 9 c8 b8 v8 g8 h8 j8 (nI t8) u8 z8) (n9 m9 : Nat) (hn9 : n9 < 6) (hm9 : m9 ≤ 6) (hPa : paAt cQ ad F 17 n9 m9) (a : Nat → Int32) (n : Nat) (hn60 : n ≤ 60) (hT : gtAt cI ad F 67 a n) (c6 b6 v6 : Nat → Int32) (hM6 : matAt cI ad F 69 c6 b6 v6) (a7 d7 q7 : Nat → Int32) (hO : roAt cI ad F 73 a7 d7 q7) (hs : Bool) (hC : F 0 = .inr (5, [.ref (ad 1), .ref (ad 9), .ref (ad 17), .ref (ad 67), .ref (ad 69), .ref (ad 73), .int (bI hs)])) (x y : Int32) (hwk : wk x = false) : MT l yX5_wink (Cond.code yX5_wink cX5_wink 3 (some .int) :: AW) ({ frames := 7, cells := 1, slots := 6, locals := 102 } : Room) D cI cQ cL ad N F [.ref (ad 0), .int x, .int y] eI 1 6 := by
  refine mt_of (ret := (some .int)) hst (by decide +kernel) rfl (Nat.le_of_ble_eq_true rfl) (fun p e s m below meth cd Q ls hx hb hml hown hts hDi hP hK hNW hS hX hthr hthrW hout hl => ?_)
  have hown : s.vm.findClass RX5 = some m.cls := hown
  have hz0 : 0 < N := by omega
  have hz1 : 1 < N := by omega
  have hz1___1 : 1 + 1 < N := by omega
  have hz1___1___1 : 1 + 1 + 1 < N := by omega
  have hz1___1___2 : 1 + 1 + 2 < N := by omega
  have hz1___1___3 : 1 + 1 + 3 < N := by omega
  have hz1___5 : 1 + 5 < N := by omega
  have hz1___6 : 1 + 6 < N := by omega
  have hz1___7 : 1 + 7 < N := by omega
  have hz9 : 9 < N := by omega
  have hz17 : 17 < N := by omega
  have hz17___1 : 17 + 1 < N := by omega
  have hz67 : 67 < N := by omega
  have hz67___1 : 67 + 1 < N := by omega
  have hz69 : 69 < N := by omega
  have hz69___1 : 69 + 1 < N := by omega
  have hz69___2 : 69 + 2 < N := by omega
  have hz69___3 : 69 + 3 < N := by omega
  have hz73 : 73 < N := by omega
  have hz1___1___3 : 1 + 1 + 3 < N := by omega
  have hz69___3 : 69 + 3 < N := by omega
  have hl : lv_has ls 3 [(0, .ref (ad 0)), (1, .int x), (2, .int y)] := hl
  refine lv_iload_n hx hb (dk kX5_wink_ok 0 rfl) rfl (lv_at hl 1 rfl) ?_
  exact csT (As := [.int x]) (rest := []) ⟨hx, hb, hml, hown, hts⟩ (tX5_requireWink_b1 l hst D cI cQ cL ad N F x hwk) (cwS9 1 hts mcX5_requireWink (ac9 _ (List.mem_of_getElem? (i := 6) rfl)) msX5_requireWink mini_RX5 rfl rfl hdX5_requireWink ⟨Nat.le_of_ble_eq_true rfl, Nat.le_of_ble_eq_true rfl⟩) hDi hK hP hNW hS hX rfl hl.1 rfl (Nat.le_of_ble_eq_true rfl) (by decide) (dk kX5_wink_ok 1 rfl) (fun H locs q ce hP hS h1 h2 h3 => hout _ _ _ H locs q ce _ _ hP hS h1 h2 h3 (by decide) (by decide))
set_option maxRecDepth 100000 in
set_option maxHeartbeats 4000000 in
theorem tX5_wink_b2 (l : Launch) (hst : l.stackTraces = false) (D : va_G) (cI cQ cL : ClassId) (ad : Nat → Nat) (N : Nat) (F : Nat → va_E) (hk : 76 < N) (c b v g h j : Nat → Int32) (t : Nat) (u z : Int32) (hN : stAt cI ad F 1 c b v g h j (nI t) u z) (c8 b8 v8 g8 h8 j8 : Nat → Int32) (t8 : Nat) (u8 z8 : Int32) (hSn : stAt cI ad F 9 c8 b8 v8 g8 h8 j8 (nI t8) u8 z8) (n9 m9 : Nat) (hn9 : n9 < 6) (hm9 : m9 ≤ 6) (hPa : paAt cQ ad F 17 n9 m9) (a : Nat → Int32) (n : Nat) (hn60 : n ≤ 60) (hT : gtAt cI ad F 67 a n) (c6 b6 v6 : Nat → Int32) (hM6 : matAt cI ad F 69 c6 b6 v6) (a7 d7 q7 : Nat → Int32) (hO : roAt cI ad F 73 a7 d7 q7) (hs : Bool) (hC : F 0 = .inr (5, [.ref (ad 1), .ref (ad 9), .ref (ad 17), .ref (ad 67), .ref (ad 69), .ref (ad 73), .int (bI hs)])) (x : Int32) (w : Nat) (hxw : x = nI w) (hw : w < 16) (y : Int32) (hy9 : btw y (nI 0) (nI 6) = false) : MT l yX5_wink (Cond.code yX5_wink cX5_wink 3 (some .int) :: AW) ({ frames := 7, cells := 1, slots := 6, locals := 102 } : Room) D cI cQ cL ad N F [.ref (ad 0), .int x, .int y] eA 1 6 := by
  refine mt_of (ret := (some .int)) hst (by decide +kernel) rfl (Nat.le_of_ble_eq_true rfl) (fun p e s m below meth cd Q ls hx hb hml hown hts hDi hP hK hNW hS hX hthr hthrW hout hl => ?_)
  have hown : s.vm.findClass RX5 = some m.cls := hown
  subst hxw
  have hz0 : 0 < N := by omega
  have hz1 : 1 < N := by omega
  have hz1___1 : 1 + 1 < N := by omega
  have hz1___1___1 : 1 + 1 + 1 < N := by omega
  have hz1___1___2 : 1 + 1 + 2 < N := by omega
  have hz1___1___3 : 1 + 1 + 3 < N := by omega
  have hz1___5 : 1 + 5 < N := by omega
  have hz1___6 : 1 + 6 < N := by omega
  have hz1___7 : 1 + 7 < N := by omega
  have hz9 : 9 < N := by omega
  have hz17 : 17 < N := by omega
  have hz17___1 : 17 + 1 < N := by omega
  have hz67 : 67 < N := by omega
  have hz67___1 : 67 + 1 < N := by omega
  have hz69 : 69 < N := by omega
  have hz69___1 : 69 + 1 < N := by omega
  have hz69___2 : 69 + 2 < N := by omega
  have hz69___3 : 69 + 3 < N := by omega
  have hz73 : 73 < N := by omega
  have hz1___1___3 : 1 + 1 + 3 < N := by omega
  have hz69___3 : 69 + 3 < N := by omega
  have hl : lv_has ls 3 [(0, .ref (ad 0)), (1, .int (nI w)), (2, .int y)] := hl
  refine lv_iload_n hx hb (dk kX5_wink_ok 0 rfl) rfl (lv_at hl 1 rfl) ?_
  refine csPv (As := [.int (nI w)]) (rest := []) ⟨hx, hb, hml, hown, hts⟩ (tX5_requireWink_ok l (nI w) (wk_nI hw)) (cwS9 1 hts mcX5_requireWink (ac9 _ (List.mem_of_getElem? (i := 6) rfl)) msX5_requireWink mini_RX5 rfl rfl hdX5_requireWink ⟨Nat.le_of_ble_eq_true rfl, Nat.le_of_ble_eq_true rfl⟩) rfl hl.1 rfl (Nat.le_of_ble_eq_true rfl) (by decide) (dk kX5_wink_ok 1 rfl) ?_
  refine lv_iload_n hx hb (dk kX5_wink_ok 2 rfl) rfl (lv_at hl 2 rfl) ?_
  rcases Classical.em (y = nI 0) with hs1 | hs1
  · exact (btw_ne hy9 (j := 0) (by decide) (by decide) hs1).elim
  rcases Classical.em (y = nI 1) with hs2 | hs2
  · exact (btw_ne hy9 (j := 1) (by decide) (by decide) hs2).elim
  rcases Classical.em (y = nI 2) with hs3 | hs3
  · exact (btw_ne hy9 (j := 2) (by decide) (by decide) hs3).elim
  rcases Classical.em (y = nI 3) with hs4 | hs4
  · exact (btw_ne hy9 (j := 3) (by decide) (by decide) hs4).elim
  rcases Classical.em (y = nI 4) with hs5 | hs5
  · exact (btw_ne hy9 (j := 4) (by decide) (by decide) hs5).elim
  rcases Classical.em (y = nI 5) with hs6 | hs6
  · exact (btw_ne hy9 (j := 5) (by decide) (by decide) hs6).elim
  rcases Classical.em (y = nI 6) with hs7 | hs7
  · exact (btw_ne hy9 (j := 6) (by decide) (by decide) hs7).elim
  refine lv_tableOut (tgt := 130) hx hb (dk kX5_wink_ok 3 rfl) (sw_out 7 (by intro k9 hk9; rcases k9 with _ | _ | _ | _ | _ | _ | _ | _ <;> first | assumption | omega)) (by decide) ?_
  exact hthr 104 108 180 130 "what is 0 to 6" ls [] _ _ 0 0 (by decide) (by decide) hP hS hl.1 (dk kX5_wink_ok 48 rfl) (dk kX5_wink_ok 49 rfl) (dk kX5_wink_ok 50 rfl) (dk kX5_wink_ok 51 rfl) (dk kX5_wink_ok 52 rfl) (by decide) (by decide) (by decide) (by decide) (by decide) (by decide)
set_option maxRecDepth 100000 in
set_option maxHeartbeats 4000000 in
theorem tX5_pile (l : Launch) (D : va_G) (cI cQ cL : ClassId) (ad : Nat → Nat) (N : Nat) (F : Nat → va_E) (hk : 76 < N) (c b v g h j : Nat → Int32) (t : Nat) (u z : Int32) (hN : stAt cI ad F 1 c b v g h j (nI t) u z) (c8 b8 v8 g8 h8 j8 : Nat → Int32) (t8 : Nat) (u8 z8 : Int32) (hSn : stAt cI ad F 9 c8 b8 v8 g8 h8 j8 (nI t8) u8 z8) (n9 m9 : Nat) (hn9 : n9 < 6) (hm9 : m9 ≤ 6) (hPa : paAt cQ ad F 17 n9 m9) (a : Nat → Int32) (n : Nat) (hn60 : n ≤ 60) (hT : gtAt cI ad F 67 a n) (c6 b6 v6 : Nat → Int32) (hM6 : matAt cI ad F 69 c6 b6 v6) (a7 d7 q7 : Nat → Int32) (hO : roAt cI ad F 73 a7 d7 q7) (hs : Bool) (hC : F 0 = .inr (5, [.ref (ad 1), .ref (ad 9), .ref (ad 17), .ref (ad 67), .ref (ad 69), .ref (ad 73), .int (bI hs)])) (x y k9 : Int32) (hon : on x y = true) (hy9 : btw k9 (nI 0) (nI 3) = true) : MR l yX5_pile (Cond.code yX5_pile cX5_pile 5 (some .int) :: AW) ({ frames := 7, cells := 0, slots := 0, locals := 103 } : Room) D cI cQ cL ad N F [.ref (ad 0), .int x, .int y, .int k9] (.int (cPile c b v (cat x y) k9)) := by
  refine mr_i (ty := .int) (by decide +kernel) rfl rfl rfl rfl (Nat.le_of_ble_eq_true rfl) (fun p e s m below meth cd Q ls hx hb hml hown hts hP hK hNW hret hl => ?_)
  have hown : s.vm.findClass RX5 = some m.cls := hown
  have hz0 : 0 < N := by omega
  have hz1 : 1 < N := by omega
  have hz1___1 : 1 + 1 < N := by omega
  have hz1___1___1 : 1 + 1 + 1 < N := by omega
  have hz1___1___2 : 1 + 1 + 2 < N := by omega
  have hz1___1___3 : 1 + 1 + 3 < N := by omega
  have hz1___5 : 1 + 5 < N := by omega
  have hz1___6 : 1 + 6 < N := by omega
  have hz1___7 : 1 + 7 < N := by omega
  have hz9 : 9 < N := by omega
  have hz17 : 17 < N := by omega
  have hz17___1 : 17 + 1 < N := by omega
  have hz67 : 67 < N := by omega
  have hz67___1 : 67 + 1 < N := by omega
  have hz69 : 69 < N := by omega
  have hz69___1 : 69 + 1 < N := by omega
  have hz69___2 : 69 + 2 < N := by omega
  have hz69___3 : 69 + 3 < N := by omega
  have hz73 : 73 < N := by omega
  have hz1___1___3 : 1 + 1 + 3 < N := by omega
  have hz69___3 : 69 + 3 < N := by omega
  have hl : lv_has ls 5 [(0, .ref (ad 0)), (1, .int x), (2, .int y), (3, .int k9)] := hl
  refine lv_iload_n hx hb (dk kX5_pile_ok 0 rfl) rfl (lv_at hl 1 rfl) ?_
  refine lv_iload_n hx hb (dk kX5_pile_ok 1 rfl) rfl (lv_at hl 2 rfl) ?_
  refine csPv (As := [.int x, .int y]) (rest := []) ⟨hx, hb, hml, hown, hts⟩ (tX5_requireCell_ok l x y hon) (cwS9 2 hts mcX5_requireCell (ac10 _ (List.mem_of_getElem? (i := 0) rfl)) msX5_requireCell mini_RX5 rfl rfl hdX5_requireCell ⟨Nat.le_of_ble_eq_true rfl, Nat.le_of_ble_eq_true rfl⟩) rfl hl.1 rfl (Nat.le_of_ble_eq_true rfl) (by decide) (dk kX5_pile_ok 2 rfl) ?_
  refine lv_iload_n hx hb (dk kX5_pile_ok 3 rfl) rfl (lv_at hl 1 rfl) ?_
  refine lv_iload_n hx hb (dk kX5_pile_ok 4 rfl) rfl (lv_at hl 2 rfl) ?_
  refine csP (As := [.int x, .int y]) (rest := []) ⟨hx, hb, hml, hown, hts⟩ (tX5_cellAt l x y) (cwS9 2 hts mcX5_cellAt (ac0 _ (List.mem_of_getElem? (i := 17) rfl)) msX5_cellAt mini_RX5 rfl rfl hdX5_cellAt ⟨Nat.le_of_ble_eq_true rfl, Nat.le_of_ble_eq_true rfl⟩) rfl hl.1 rfl (Nat.le_of_ble_eq_true rfl) (by decide) (dk kX5_pile_ok 5 rfl) ?_
  refine lv_istore (lv' := [(4, .int (cat x y)), (0, .ref (ad 0)), (1, .int x), (2, .int y), (3, .int k9)]) hx hb (dk kX5_pile_ok 6 rfl) hl (by decide) rfl (fun ls hl => ?_)
  refine lv_iload_n hx hb (dk kX5_pile_ok 7 rfl) rfl (lv_at hl 4 rfl) ?_
  rcases Classical.em (k9 = nI 0) with hs1 | hs1
  · skip
    refine sw_in (off := 31) (tgt := 44) 0 hx hb (dk kX5_pile_ok 8 rfl) hs1 rfl rfl rfl (by decide) ?_
    refine lv_aload_n hx hb (dk kX5_pile_ok 9 rfl) rfl (lv_at hl 1 rfl) ?_
    refine gf hx hb hts (fun w h => List.mem_cons_of_mem _ (acX5 w h)) hown hK hP hz0 hC rfl 0 (by decide) (hts _ (List.mem_cons_of_mem _ (ac7 _ (List.mem_of_getElem? (i := 21) rfl)))) (fun _ h => h) rfl (dk kX5_pile_ok 10 rfl) ?_
    refine gfN hx hb hts (fun w h => List.mem_cons_of_mem _ (acX4 w h)) hown hK hP hz1 hN.1 rfl 0 (by decide) (nf2 hNW) (fun _ h => h) rfl (dk kX5_pile_ok 11 rfl) ?_
    refine lv_iload hx hb (dk kX5_pile_ok 12 rfl) (lv_at hl 0 rfl) ?_
    refine cvR (As := [.int (cat x y)]) (rest := []) ⟨hx, hb, hml, hown, hts⟩ (tX1_heightAt l D cI cQ cL ad N F (1 + 1) (by omega) c b v hN.2.1 (cat x y)) (cwV9 1 hts mcX1_heightAt (ac10 _ (List.mem_of_getElem? (i := 14) rfl)) miX1_heightAt meX1_heightAt mini_RX1 rfl rfl hdX1_heightAt ⟨Nat.le_of_ble_eq_true rfl, Nat.le_of_ble_eq_true rfl⟩) hK hP hNW hz1___1 hN.2.1.1 rfl rfl hl.1 rfl (Nat.le_of_ble_eq_true rfl) (by decide) (dk kX5_pile_ok 13 rfl) ?_
    exact hret _ _ _ (by simp (config := { decide := true }) only [cPile, (eq_true hs1), bI_1, bI_00, not_true_eq_false, not_false_eq_true, and_true, true_and, and_false, false_and, or_true, true_or, or_false, false_or, and_self, or_self, if_true, if_false, Bool.false_eq_true, reduceIte]; first | done | rfl | (simp_all; done)) (dk kX5_pile_ok 14 rfl)
  rcases Classical.em (k9 = nI 1) with hs2 | hs2
  · skip
    refine sw_in (off := 44) (tgt := 57) 1 hx hb (dk kX5_pile_ok 8 rfl) hs2 rfl rfl rfl (by decide) ?_
    refine lv_aload_n hx hb (dk kX5_pile_ok 15 rfl) rfl (lv_at hl 1 rfl) ?_
    refine gf hx hb hts (fun w h => List.mem_cons_of_mem _ (acX5 w h)) hown hK hP hz0 hC rfl 0 (by decide) (hts _ (List.mem_cons_of_mem _ (ac7 _ (List.mem_of_getElem? (i := 21) rfl)))) (fun _ h => h) rfl (dk kX5_pile_ok 16 rfl) ?_
    refine gfN hx hb hts (fun w h => List.mem_cons_of_mem _ (acX4 w h)) hown hK hP hz1 hN.1 rfl 0 (by decide) (nf2 hNW) (fun _ h => h) rfl (dk kX5_pile_ok 17 rfl) ?_
    refine lv_iload hx hb (dk kX5_pile_ok 18 rfl) (lv_at hl 0 rfl) ?_
    refine cvR (As := [.int (cat x y)]) (rest := []) ⟨hx, hb, hml, hown, hts⟩ (tX1_topAt l D cI cQ cL ad N F (1 + 1) (by omega) c b v hN.2.1 (cat x y)) (cwV9 1 hts mcX1_topAt (ac12 _ (List.mem_of_getElem? (i := 8) rfl)) miX1_topAt meX1_topAt mini_RX1 rfl rfl hdX1_topAt ⟨Nat.le_of_ble_eq_true rfl, Nat.le_of_ble_eq_true rfl⟩) hK hP hNW hz1___1 hN.2.1.1 rfl rfl hl.1 rfl (Nat.le_of_ble_eq_true rfl) (by decide) (dk kX5_pile_ok 19 rfl) ?_
    exact hret _ _ _ (by simp (config := { decide := true }) only [cPile, (eq_false hs1), (eq_true hs2), bI_1, bI_00, not_true_eq_false, not_false_eq_true, and_true, true_and, and_false, false_and, or_true, true_or, or_false, false_or, and_self, or_self, if_true, if_false, Bool.false_eq_true, reduceIte]; first | done | rfl | (simp_all; done)) (dk kX5_pile_ok 20 rfl)
  rcases Classical.em (k9 = nI 2) with hs3 | hs3
  · skip
    refine sw_in (off := 57) (tgt := 70) 2 hx hb (dk kX5_pile_ok 8 rfl) hs3 rfl rfl rfl (by decide) ?_
    refine lv_aload_n hx hb (dk kX5_pile_ok 21 rfl) rfl (lv_at hl 1 rfl) ?_
    refine gf hx hb hts (fun w h => List.mem_cons_of_mem _ (acX5 w h)) hown hK hP hz0 hC rfl 0 (by decide) (hts _ (List.mem_cons_of_mem _ (ac7 _ (List.mem_of_getElem? (i := 21) rfl)))) (fun _ h => h) rfl (dk kX5_pile_ok 22 rfl) ?_
    refine gfN hx hb hts (fun w h => List.mem_cons_of_mem _ (acX4 w h)) hown hK hP hz1 hN.1 rfl 0 (by decide) (nf2 hNW) (fun _ h => h) rfl (dk kX5_pile_ok 23 rfl) ?_
    refine lv_iload hx hb (dk kX5_pile_ok 24 rfl) (lv_at hl 0 rfl) ?_
    refine cvR (As := [.int (cat x y)]) (rest := []) ⟨hx, hb, hml, hown, hts⟩ (tX1_bottomAt l D cI cQ cL ad N F (1 + 1) (by omega) c b v hN.2.1 (cat x y)) (cwV9 1 hts mcX1_bottomAt (ac12 _ (List.mem_of_getElem? (i := 9) rfl)) miX1_bottomAt meX1_bottomAt mini_RX1 rfl rfl hdX1_bottomAt ⟨Nat.le_of_ble_eq_true rfl, Nat.le_of_ble_eq_true rfl⟩) hK hP hNW hz1___1 hN.2.1.1 rfl rfl hl.1 rfl (Nat.le_of_ble_eq_true rfl) (by decide) (dk kX5_pile_ok 25 rfl) ?_
    exact hret _ _ _ (by simp (config := { decide := true }) only [cPile, (eq_false hs1), (eq_false hs2), (eq_true hs3), bI_1, bI_00, not_true_eq_false, not_false_eq_true, and_true, true_and, and_false, false_and, or_true, true_or, or_false, false_or, and_self, or_self, if_true, if_false, Bool.false_eq_true, reduceIte]; first | done | rfl | (simp_all; done)) (dk kX5_pile_ok 26 rfl)
  rcases Classical.em (k9 = nI 3) with hs4 | hs4
  · skip
    refine sw_in (off := 70) (tgt := 83) 3 hx hb (dk kX5_pile_ok 8 rfl) hs4 rfl rfl rfl (by decide) ?_
    refine lv_aload_n hx hb (dk kX5_pile_ok 27 rfl) rfl (lv_at hl 1 rfl) ?_
    refine gf hx hb hts (fun w h => List.mem_cons_of_mem _ (acX5 w h)) hown hK hP hz0 hC rfl 0 (by decide) (hts _ (List.mem_cons_of_mem _ (ac7 _ (List.mem_of_getElem? (i := 21) rfl)))) (fun _ h => h) rfl (dk kX5_pile_ok 28 rfl) ?_
    refine gfN hx hb hts (fun w h => List.mem_cons_of_mem _ (acX4 w h)) hown hK hP hz1 hN.1 rfl 0 (by decide) (nf2 hNW) (fun _ h => h) rfl (dk kX5_pile_ok 29 rfl) ?_
    refine lv_iload hx hb (dk kX5_pile_ok 30 rfl) (lv_at hl 0 rfl) ?_
    refine cvR (As := [.int (cat x y)]) (rest := []) ⟨hx, hb, hml, hown, hts⟩ (tX1_coloursAt l D cI cQ cL ad N F (1 + 1) (by omega) c b v hN.2.1 (cat x y)) (cwV9 1 hts mcX1_coloursAt (ac12 _ (List.mem_of_getElem? (i := 13) rfl)) miX1_coloursAt meX1_coloursAt mini_RX1 rfl rfl hdX1_coloursAt ⟨Nat.le_of_ble_eq_true rfl, Nat.le_of_ble_eq_true rfl⟩) hK hP hNW hz1___1 hN.2.1.1 rfl rfl hl.1 rfl (Nat.le_of_ble_eq_true rfl) (by decide) (dk kX5_pile_ok 31 rfl) ?_
    exact hret _ _ _ (by simp (config := { decide := true }) only [cPile, (eq_false hs1), (eq_false hs2), (eq_false hs3), (eq_true hs4), bI_1, bI_00, not_true_eq_false, not_false_eq_true, and_true, true_and, and_false, false_and, or_true, true_or, or_false, false_or, and_self, or_self, if_true, if_false, Bool.false_eq_true, reduceIte]; first | done | rfl | (simp_all; done)) (dk kX5_pile_ok 32 rfl)
  refine lv_tableOut (tgt := 96) hx hb (dk kX5_pile_ok 8 rfl) (sw_out 4 (by intro k9 hk9; rcases k9 with _ | _ | _ | _ | _ <;> first | assumption | omega)) (by decide) ?_
  exact (btw_all (m := 3) (by decide) hy9 (fun j9 hj9 e9 => by rcases (show j9 = 0 ∨ j9 = 1 ∨ j9 = 2 ∨ j9 = 3 by omega) with rfl | rfl | rfl | rfl <;> contradiction)).elim
set_option maxRecDepth 100000 in
set_option maxHeartbeats 4000000 in
theorem tX5_pile_b1 (l : Launch) (hst : l.stackTraces = false) (D : va_G) (cI cQ cL : ClassId) (ad : Nat → Nat) (N : Nat) (F : Nat → va_E) (hk : 76 < N) (c b v g h j : Nat → Int32) (t : Nat) (u z : Int32) (hN : stAt cI ad F 1 c b v g h j (nI t) u z) (c8 b8 v8 g8 h8 j8 : Nat → Int32) (t8 : Nat) (u8 z8 : Int32) (hSn : stAt cI ad F 9 c8 b8 v8 g8 h8 j8 (nI t8) u8 z8) (n9 m9 : Nat) (hn9 : n9 < 6) (hm9 : m9 ≤ 6) (hPa : paAt cQ ad F 17 n9 m9) (a : Nat → Int32) (n : Nat) (hn60 : n ≤ 60) (hT : gtAt cI ad F 67 a n) (c6 b6 v6 : Nat → Int32) (hM6 : matAt cI ad F 69 c6 b6 v6) (a7 d7 q7 : Nat → Int32) (hO : roAt cI ad F 73 a7 d7 q7) (hs : Bool) (hC : F 0 = .inr (5, [.ref (ad 1), .ref (ad 9), .ref (ad 17), .ref (ad 67), .ref (ad 69), .ref (ad 73), .int (bI hs)])) (x y k9 : Int32) (hon : on x y = false) : MT l yX5_pile (Cond.code yX5_pile cX5_pile 5 (some .int) :: AW) ({ frames := 7, cells := 1, slots := 6, locals := 103 } : Room) D cI cQ cL ad N F [.ref (ad 0), .int x, .int y, .int k9] eI 1 6 := by
  refine mt_of (ret := (some .int)) hst (by decide +kernel) rfl (Nat.le_of_ble_eq_true rfl) (fun p e s m below meth cd Q ls hx hb hml hown hts hDi hP hK hNW hS hX hthr hthrW hout hl => ?_)
  have hown : s.vm.findClass RX5 = some m.cls := hown
  have hz0 : 0 < N := by omega
  have hz1 : 1 < N := by omega
  have hz1___1 : 1 + 1 < N := by omega
  have hz1___1___1 : 1 + 1 + 1 < N := by omega
  have hz1___1___2 : 1 + 1 + 2 < N := by omega
  have hz1___1___3 : 1 + 1 + 3 < N := by omega
  have hz1___5 : 1 + 5 < N := by omega
  have hz1___6 : 1 + 6 < N := by omega
  have hz1___7 : 1 + 7 < N := by omega
  have hz9 : 9 < N := by omega
  have hz17 : 17 < N := by omega
  have hz17___1 : 17 + 1 < N := by omega
  have hz67 : 67 < N := by omega
  have hz67___1 : 67 + 1 < N := by omega
  have hz69 : 69 < N := by omega
  have hz69___1 : 69 + 1 < N := by omega
  have hz69___2 : 69 + 2 < N := by omega
  have hz69___3 : 69 + 3 < N := by omega
  have hz73 : 73 < N := by omega
  have hz1___1___3 : 1 + 1 + 3 < N := by omega
  have hz69___3 : 69 + 3 < N := by omega
  have hl : lv_has ls 5 [(0, .ref (ad 0)), (1, .int x), (2, .int y), (3, .int k9)] := hl
  refine lv_iload_n hx hb (dk kX5_pile_ok 0 rfl) rfl (lv_at hl 1 rfl) ?_
  refine lv_iload_n hx hb (dk kX5_pile_ok 1 rfl) rfl (lv_at hl 2 rfl) ?_
  exact csT (As := [.int x, .int y]) (rest := []) ⟨hx, hb, hml, hown, hts⟩ (tX5_requireCell_b1 l hst D cI cQ cL ad N F x y hon) (cwS9 2 hts mcX5_requireCell (ac10 _ (List.mem_of_getElem? (i := 0) rfl)) msX5_requireCell mini_RX5 rfl rfl hdX5_requireCell ⟨Nat.le_of_ble_eq_true rfl, Nat.le_of_ble_eq_true rfl⟩) hDi hK hP hNW hS hX rfl hl.1 rfl (Nat.le_of_ble_eq_true rfl) (by decide) (dk kX5_pile_ok 2 rfl) (fun H locs q ce hP hS h1 h2 h3 => hout _ _ _ H locs q ce _ _ hP hS h1 h2 h3 (by decide) (by decide))
set_option maxRecDepth 100000 in
set_option maxHeartbeats 4000000 in
theorem tX5_pile_b2 (l : Launch) (hst : l.stackTraces = false) (D : va_G) (cI cQ cL : ClassId) (ad : Nat → Nat) (N : Nat) (F : Nat → va_E) (hk : 76 < N) (c b v g h j : Nat → Int32) (t : Nat) (u z : Int32) (hN : stAt cI ad F 1 c b v g h j (nI t) u z) (c8 b8 v8 g8 h8 j8 : Nat → Int32) (t8 : Nat) (u8 z8 : Int32) (hSn : stAt cI ad F 9 c8 b8 v8 g8 h8 j8 (nI t8) u8 z8) (n9 m9 : Nat) (hn9 : n9 < 6) (hm9 : m9 ≤ 6) (hPa : paAt cQ ad F 17 n9 m9) (a : Nat → Int32) (n : Nat) (hn60 : n ≤ 60) (hT : gtAt cI ad F 67 a n) (c6 b6 v6 : Nat → Int32) (hM6 : matAt cI ad F 69 c6 b6 v6) (a7 d7 q7 : Nat → Int32) (hO : roAt cI ad F 73 a7 d7 q7) (hs : Bool) (hC : F 0 = .inr (5, [.ref (ad 1), .ref (ad 9), .ref (ad 17), .ref (ad 67), .ref (ad 69), .ref (ad 73), .int (bI hs)])) (x y k9 : Int32) (hon : on x y = true) (hy9 : btw k9 (nI 0) (nI 3) = false) : MT l yX5_pile (Cond.code yX5_pile cX5_pile 5 (some .int) :: AW) ({ frames := 7, cells := 1, slots := 6, locals := 103 } : Room) D cI cQ cL ad N F [.ref (ad 0), .int x, .int y, .int k9] eA 1 6 := by
  refine mt_of (ret := (some .int)) hst (by decide +kernel) rfl (Nat.le_of_ble_eq_true rfl) (fun p e s m below meth cd Q ls hx hb hml hown hts hDi hP hK hNW hS hX hthr hthrW hout hl => ?_)
  have hown : s.vm.findClass RX5 = some m.cls := hown
  have hz0 : 0 < N := by omega
  have hz1 : 1 < N := by omega
  have hz1___1 : 1 + 1 < N := by omega
  have hz1___1___1 : 1 + 1 + 1 < N := by omega
  have hz1___1___2 : 1 + 1 + 2 < N := by omega
  have hz1___1___3 : 1 + 1 + 3 < N := by omega
  have hz1___5 : 1 + 5 < N := by omega
  have hz1___6 : 1 + 6 < N := by omega
  have hz1___7 : 1 + 7 < N := by omega
  have hz9 : 9 < N := by omega
  have hz17 : 17 < N := by omega
  have hz17___1 : 17 + 1 < N := by omega
  have hz67 : 67 < N := by omega
  have hz67___1 : 67 + 1 < N := by omega
  have hz69 : 69 < N := by omega
  have hz69___1 : 69 + 1 < N := by omega
  have hz69___2 : 69 + 2 < N := by omega
  have hz69___3 : 69 + 3 < N := by omega
  have hz73 : 73 < N := by omega
  have hz1___1___3 : 1 + 1 + 3 < N := by omega
  have hz69___3 : 69 + 3 < N := by omega
  have hl : lv_has ls 5 [(0, .ref (ad 0)), (1, .int x), (2, .int y), (3, .int k9)] := hl
  refine lv_iload_n hx hb (dk kX5_pile_ok 0 rfl) rfl (lv_at hl 1 rfl) ?_
  refine lv_iload_n hx hb (dk kX5_pile_ok 1 rfl) rfl (lv_at hl 2 rfl) ?_
  refine csPv (As := [.int x, .int y]) (rest := []) ⟨hx, hb, hml, hown, hts⟩ (tX5_requireCell_ok l x y hon) (cwS9 2 hts mcX5_requireCell (ac10 _ (List.mem_of_getElem? (i := 0) rfl)) msX5_requireCell mini_RX5 rfl rfl hdX5_requireCell ⟨Nat.le_of_ble_eq_true rfl, Nat.le_of_ble_eq_true rfl⟩) rfl hl.1 rfl (Nat.le_of_ble_eq_true rfl) (by decide) (dk kX5_pile_ok 2 rfl) ?_
  refine lv_iload_n hx hb (dk kX5_pile_ok 3 rfl) rfl (lv_at hl 1 rfl) ?_
  refine lv_iload_n hx hb (dk kX5_pile_ok 4 rfl) rfl (lv_at hl 2 rfl) ?_
  refine csP (As := [.int x, .int y]) (rest := []) ⟨hx, hb, hml, hown, hts⟩ (tX5_cellAt l x y) (cwS9 2 hts mcX5_cellAt (ac0 _ (List.mem_of_getElem? (i := 17) rfl)) msX5_cellAt mini_RX5 rfl rfl hdX5_cellAt ⟨Nat.le_of_ble_eq_true rfl, Nat.le_of_ble_eq_true rfl⟩) rfl hl.1 rfl (Nat.le_of_ble_eq_true rfl) (by decide) (dk kX5_pile_ok 5 rfl) ?_
  refine lv_istore (lv' := [(4, .int (cat x y)), (0, .ref (ad 0)), (1, .int x), (2, .int y), (3, .int k9)]) hx hb (dk kX5_pile_ok 6 rfl) hl (by decide) rfl (fun ls hl => ?_)
  refine lv_iload_n hx hb (dk kX5_pile_ok 7 rfl) rfl (lv_at hl 4 rfl) ?_
  rcases Classical.em (k9 = nI 0) with hs1 | hs1
  · exact (btw_ne hy9 (j := 0) (by decide) (by decide) hs1).elim
  rcases Classical.em (k9 = nI 1) with hs2 | hs2
  · exact (btw_ne hy9 (j := 1) (by decide) (by decide) hs2).elim
  rcases Classical.em (k9 = nI 2) with hs3 | hs3
  · exact (btw_ne hy9 (j := 2) (by decide) (by decide) hs3).elim
  rcases Classical.em (k9 = nI 3) with hs4 | hs4
  · exact (btw_ne hy9 (j := 3) (by decide) (by decide) hs4).elim
  refine lv_tableOut (tgt := 96) hx hb (dk kX5_pile_ok 8 rfl) (sw_out 4 (by intro k9 hk9; rcases k9 with _ | _ | _ | _ | _ <;> first | assumption | omega)) (by decide) ?_
  exact hthr 104 108 191 96 "what is 0 to 3" ls [] _ _ 0 0 (by decide) (by decide) hP hS hl.1 (dk kX5_pile_ok 33 rfl) (dk kX5_pile_ok 34 rfl) (dk kX5_pile_ok 35 rfl) (dk kX5_pile_ok 36 rfl) (dk kX5_pile_ok 37 rfl) (by decide) (by decide) (by decide) (by decide) (by decide) (by decide)
set_option maxRecDepth 100000 in
set_option maxHeartbeats 4000000 in
theorem tX5_colour (l : Launch) (D : va_G) (cI cQ cL : ClassId) (ad : Nat → Nat) (N : Nat) (F : Nat → va_E) (hk : 76 < N) (c b v g h j : Nat → Int32) (t : Nat) (u z : Int32) (hN : stAt cI ad F 1 c b v g h j (nI t) u z) (c8 b8 v8 g8 h8 j8 : Nat → Int32) (t8 : Nat) (u8 z8 : Int32) (hSn : stAt cI ad F 9 c8 b8 v8 g8 h8 j8 (nI t8) u8 z8) (n9 m9 : Nat) (hn9 : n9 < 6) (hm9 : m9 ≤ 6) (hPa : paAt cQ ad F 17 n9 m9) (a : Nat → Int32) (n : Nat) (hn60 : n ≤ 60) (hT : gtAt cI ad F 67 a n) (c6 b6 v6 : Nat → Int32) (hM6 : matAt cI ad F 69 c6 b6 v6) (a7 d7 q7 : Nat → Int32) (hO : roAt cI ad F 73 a7 d7 q7) (hs : Bool) (hC : F 0 = .inr (5, [.ref (ad 1), .ref (ad 9), .ref (ad 17), .ref (ad 67), .ref (ad 69), .ref (ad 73), .int (bI hs)])) (x : Int32) (w : Nat) (hxw : x = nI w) (hw : w < 4) (y : Int32) (hy9 : btw y (nI 0) (nI 6) = true) : MR l yX5_colour (Cond.code yX5_colour cX5_colour 3 (some .int) :: AW) ({ frames := 6, cells := 0, slots := 0, locals := 82 } : Room) D cI cQ cL ad N F [.ref (ad 0), .int x, .int y] (.int (cCol c b v h j w y)) := by
  refine mr_i (ty := .int) (by decide +kernel) rfl rfl rfl rfl (Nat.le_of_ble_eq_true rfl) (fun p e s m below meth cd Q ls hx hb hml hown hts hP hK hNW hret hl => ?_)
  have hown : s.vm.findClass RX5 = some m.cls := hown
  subst hxw
  have hz0 : 0 < N := by omega
  have hz1 : 1 < N := by omega
  have hz1___1 : 1 + 1 < N := by omega
  have hz1___1___1 : 1 + 1 + 1 < N := by omega
  have hz1___1___2 : 1 + 1 + 2 < N := by omega
  have hz1___1___3 : 1 + 1 + 3 < N := by omega
  have hz1___5 : 1 + 5 < N := by omega
  have hz1___6 : 1 + 6 < N := by omega
  have hz1___7 : 1 + 7 < N := by omega
  have hz9 : 9 < N := by omega
  have hz17 : 17 < N := by omega
  have hz17___1 : 17 + 1 < N := by omega
  have hz67 : 67 < N := by omega
  have hz67___1 : 67 + 1 < N := by omega
  have hz69 : 69 < N := by omega
  have hz69___1 : 69 + 1 < N := by omega
  have hz69___2 : 69 + 2 < N := by omega
  have hz69___3 : 69 + 3 < N := by omega
  have hz73 : 73 < N := by omega
  have hz1___1___3 : 1 + 1 + 3 < N := by omega
  have hz69___3 : 69 + 3 < N := by omega
  have hl : lv_has ls 3 [(0, .ref (ad 0)), (1, .int (nI w)), (2, .int y)] := hl
  refine lv_iload_n hx hb (dk kX5_colour_0_ok 0 rfl) rfl (lv_at hl 1 rfl) ?_
  refine csP (As := [.int (nI w)]) (rest := []) ⟨hx, hb, hml, hown, hts⟩ (tX5_isColour l (nI w)) (cwS9 1 hts mcX5_isColour (ac12 _ (List.mem_of_getElem? (i := 17) rfl)) msX5_isColour mini_RX5 rfl rfl hdX5_isColour ⟨Nat.le_of_ble_eq_true rfl, Nat.le_of_ble_eq_true rfl⟩) rfl hl.1 rfl (Nat.le_of_ble_eq_true rfl) (by decide) (dk kX5_colour_0_ok 1 rfl) ?_
  refine b_if_ne (tgt := 17) hx hb (dk kX5_colour_0_ok 2 rfl) (by decide) (fun h1 => ?_) (fun h1 => ?_)
  · skip
    refine lv_iload_n hx hb (dk kX5_colour_0_ok 8 rfl) rfl (lv_at hl 2 rfl) ?_
    rcases Classical.em (y = nI 0) with hs2 | hs2
    · skip
      refine sw_in (off := 42) (tgt := 60) 0 hx hb (dk kX5_colour_0_ok 9 rfl) hs2 rfl rfl rfl (by decide) ?_
      refine lv_aload_n hx hb (dk kX5_colour_0_ok 10 rfl) rfl (lv_at hl 0 rfl) ?_
      refine gf hx hb hts (fun w h => List.mem_cons_of_mem _ (acX5 w h)) hown hK hP hz0 hC rfl 0 (by decide) (hts _ (List.mem_cons_of_mem _ (ac7 _ (List.mem_of_getElem? (i := 21) rfl)))) (fun _ h => h) rfl (dk kX5_colour_0_ok 11 rfl) ?_
      refine gfN hx hb hts (fun w h => List.mem_cons_of_mem _ (acX4 w h)) hown hK hP hz1 hN.1 rfl 0 (by decide) (nf2 hNW) (fun _ h => h) rfl (dk kX5_colour_0_ok 12 rfl) ?_
      refine lv_iload_n hx hb (dk kX5_colour_0_ok 13 rfl) rfl (lv_at hl 1 rfl) ?_
      refine cvR (As := [.int (nI w)]) (rest := []) ⟨hx, hb, hml, hown, hts⟩ (tX1_pottedOf l D cI cQ cL ad N F (1 + 1) (by omega) c b v hN.2.1 (nI w) w rfl (by omega)) (cwV9 1 hts mcX1_pottedOf (ac12 _ (List.mem_of_getElem? (i := 20) rfl)) miX1_pottedOf meX1_pottedOf mini_RX1 rfl rfl hdX1_pottedOf ⟨Nat.le_of_ble_eq_true rfl, Nat.le_of_ble_eq_true rfl⟩) hK hP hNW hz1___1 hN.2.1.1 rfl rfl hl.1 rfl (Nat.le_of_ble_eq_true rfl) (by decide) (dk kX5_colour_0_ok 14 rfl) ?_
      exact hret _ _ _ (by simp (config := { decide := true }) only [cCol, h1, (eq_true hs2), bI_1, bI_00, not_true_eq_false, not_false_eq_true, and_true, true_and, and_false, false_and, or_true, true_or, or_false, false_or, and_self, or_self, if_true, if_false, Bool.false_eq_true, reduceIte]; first | done | rfl | (simp_all; done)) (dk kX5_colour_0_ok 15 rfl)
    rcases Classical.em (y = nI 1) with hs3 | hs3
    · skip
      refine sw_in (off := 54) (tgt := 72) 1 hx hb (dk kX5_colour_0_ok 9 rfl) hs3 rfl rfl rfl (by decide) ?_
      refine lv_aload_n hx hb (dk kX5_colour_0_ok 16 rfl) rfl (lv_at hl 0 rfl) ?_
      refine gf hx hb hts (fun w h => List.mem_cons_of_mem _ (acX5 w h)) hown hK hP hz0 hC rfl 0 (by decide) (hts _ (List.mem_cons_of_mem _ (ac7 _ (List.mem_of_getElem? (i := 21) rfl)))) (fun _ h => h) rfl (dk kX5_colour_0_ok 17 rfl) ?_
      refine gfN hx hb hts (fun w h => List.mem_cons_of_mem _ (acX4 w h)) hown hK hP hz1 hN.1 rfl 0 (by decide) (nf2 hNW) (fun _ h => h) rfl (dk kX5_colour_0_ok 18 rfl) ?_
      refine lv_iload_n hx hb (dk kX5_colour_0_ok 19 rfl) rfl (lv_at hl 1 rfl) ?_
      refine cvR (As := [.int (nI w)]) (rest := []) ⟨hx, hb, hml, hown, hts⟩ (tX1_coveredOf l D cI cQ cL ad N F (1 + 1) (by omega) c b v hN.2.1 (nI w) w rfl (by omega)) (cwV9 1 hts mcX1_coveredOf (ac12 _ (List.mem_of_getElem? (i := 21) rfl)) miX1_coveredOf meX1_coveredOf mini_RX1 rfl rfl hdX1_coveredOf ⟨Nat.le_of_ble_eq_true rfl, Nat.le_of_ble_eq_true rfl⟩) hK hP hNW hz1___1 hN.2.1.1 rfl rfl hl.1 rfl (Nat.le_of_ble_eq_true rfl) (by decide) (dk kX5_colour_0_ok 20 rfl) ?_
      exact hret _ _ _ (by simp (config := { decide := true }) only [cCol, h1, (eq_false hs2), (eq_true hs3), bI_1, bI_00, not_true_eq_false, not_false_eq_true, and_true, true_and, and_false, false_and, or_true, true_or, or_false, false_or, and_self, or_self, if_true, if_false, Bool.false_eq_true, reduceIte]; first | done | rfl | (simp_all; done)) (dk kX5_colour_0_ok 21 rfl)
    rcases Classical.em (y = nI 2) with hs4 | hs4
    · skip
      refine sw_in (off := 66) (tgt := 84) 2 hx hb (dk kX5_colour_0_ok 9 rfl) hs4 rfl rfl rfl (by decide) ?_
      refine lv_iconst (v := nI 4) hx hb (dk kX5_colour_0_ok 22 rfl) rfl ?_
      refine lv_aload_n hx hb (dk kX5_colour_0_ok 23 rfl) rfl (lv_at hl 0 rfl) ?_
      refine gf hx hb hts (fun w h => List.mem_cons_of_mem _ (acX5 w h)) hown hK hP hz0 hC rfl 0 (by decide) (hts _ (List.mem_cons_of_mem _ (ac7 _ (List.mem_of_getElem? (i := 21) rfl)))) (fun _ h => h) rfl (dk kX5_colour_0_ok 24 rfl) ?_
      refine gfN hx hb hts (fun w h => List.mem_cons_of_mem _ (acX4 w h)) hown hK hP hz1 hN.1 rfl 0 (by decide) (nf2 hNW) (fun _ h => h) rfl (dk kX5_colour_0_ok 25 rfl) ?_
      refine lv_iload_n hx hb (dk kX5_colour_0_ok 26 rfl) rfl (lv_at hl 1 rfl) ?_
      refine cvR (As := [.int (nI w)]) (rest := [.int (nI 4)]) ⟨hx, hb, hml, hown, hts⟩ (tX1_pottedOf l D cI cQ cL ad N F (1 + 1) (by omega) c b v hN.2.1 (nI w) w rfl (by omega)) (cwV9 1 hts mcX1_pottedOf (ac12 _ (List.mem_of_getElem? (i := 20) rfl)) miX1_pottedOf meX1_pottedOf mini_RX1 rfl rfl hdX1_pottedOf ⟨Nat.le_of_ble_eq_true rfl, Nat.le_of_ble_eq_true rfl⟩) hK hP hNW hz1___1 hN.2.1.1 rfl rfl hl.1 rfl (Nat.le_of_ble_eq_true rfl) (by decide) (dk kX5_colour_0_ok 27 rfl) ?_
      refine lv_isub hx hb (dk kX5_colour_0_ok 28 rfl) ?_
      refine lv_aload_n hx hb (dk kX5_colour_0_ok 29 rfl) rfl (lv_at hl 0 rfl) ?_
      refine gf hx hb hts (fun w h => List.mem_cons_of_mem _ (acX5 w h)) hown hK hP hz0 hC rfl 0 (by decide) (hts _ (List.mem_cons_of_mem _ (ac7 _ (List.mem_of_getElem? (i := 21) rfl)))) (fun _ h => h) rfl (dk kX5_colour_0_ok 30 rfl) ?_
      refine gfN hx hb hts (fun w h => List.mem_cons_of_mem _ (acX4 w h)) hown hK hP hz1 hN.1 rfl 0 (by decide) (nf2 hNW) (fun _ h => h) rfl (dk kX5_colour_0_ok 31 rfl) ?_
      refine lv_iload_n hx hb (dk kX5_colour_0_ok 32 rfl) rfl (lv_at hl 1 rfl) ?_
      refine cvR (As := [.int (nI w)]) (rest := [.int ((nI 4) - (nI (potc c w)))]) ⟨hx, hb, hml, hown, hts⟩ (tX1_coveredOf l D cI cQ cL ad N F (1 + 1) (by omega) c b v hN.2.1 (nI w) w rfl (by omega)) (cwV9 1 hts mcX1_coveredOf (ac12 _ (List.mem_of_getElem? (i := 21) rfl)) miX1_coveredOf meX1_coveredOf mini_RX1 rfl rfl hdX1_coveredOf ⟨Nat.le_of_ble_eq_true rfl, Nat.le_of_ble_eq_true rfl⟩) hK hP hNW hz1___1 hN.2.1.1 rfl rfl hl.1 rfl (Nat.le_of_ble_eq_true rfl) (by decide) (dk kX5_colour_0_ok 33 rfl) ?_
      refine lv_isub hx hb (dk kX5_colour_0_ok 34 rfl) ?_
      exact hret _ _ _ (by simp (config := { decide := true }) only [cCol, h1, (eq_false hs2), (eq_false hs3), (eq_true hs4), bI_1, bI_00, not_true_eq_false, not_false_eq_true, and_true, true_and, and_false, false_and, or_true, true_or, or_false, false_or, and_self, or_self, if_true, if_false, Bool.false_eq_true, reduceIte]; first | done | rfl | (simp_all; done)) (dk kX5_colour_0_ok 35 rfl)
    rcases Classical.em (y = nI 3) with hs5 | hs5
    · skip
      refine sw_in (off := 92) (tgt := 110) 3 hx hb (dk kX5_colour_0_ok 9 rfl) hs5 rfl rfl rfl (by decide) ?_
      refine lv_aload_n hx hb (dk kX5_colour_0_ok 36 rfl) rfl (lv_at hl 0 rfl) ?_
      refine gf hx hb hts (fun w h => List.mem_cons_of_mem _ (acX5 w h)) hown hK hP hz0 hC rfl 0 (by decide) (hts _ (List.mem_cons_of_mem _ (ac7 _ (List.mem_of_getElem? (i := 21) rfl)))) (fun _ h => h) rfl (dk kX5_colour_0_ok 37 rfl) ?_
      refine gfN hx hb hts (fun w h => List.mem_cons_of_mem _ (acX4 w h)) hown hK hP hz1 hN.1 rfl 0 (by decide) (nf2 hNW) (fun _ h => h) rfl (dk kX5_colour_0_ok 38 rfl) ?_
      refine lv_iload_n hx hb (dk kX5_colour_0_ok 39 rfl) rfl (lv_at hl 1 rfl) ?_
      refine cvR (As := [.int (nI w)]) (rest := []) ⟨hx, hb, hml, hown, hts⟩ (tX1_pointsOf l D cI cQ cL ad N F (1 + 1) (by omega) c b v hN.2.1 (nI w) w rfl (by omega)) (cwV9 1 hts mcX1_pointsOf (ac12 _ (List.mem_of_getElem? (i := 22) rfl)) miX1_pointsOf meX1_pointsOf mini_RX1 rfl rfl hdX1_pointsOf ⟨Nat.le_of_ble_eq_true rfl, Nat.le_of_ble_eq_true rfl⟩) hK hP hNW hz1___1 hN.2.1.1 rfl rfl hl.1 rfl (Nat.le_of_ble_eq_true rfl) (by decide) (dk kX5_colour_0_ok 40 rfl) ?_
      exact hret _ _ _ (by simp (config := { decide := true }) only [cCol, h1, (eq_false hs2), (eq_false hs3), (eq_false hs4), (eq_true hs5), bI_1, bI_00, not_true_eq_false, not_false_eq_true, and_true, true_and, and_false, false_and, or_true, true_or, or_false, false_or, and_self, or_self, if_true, if_false, Bool.false_eq_true, reduceIte]; first | done | rfl | (simp_all; done)) (dk kX5_colour_0_ok 41 rfl)
    rcases Classical.em (y = nI 4) with hs6 | hs6
    · skip
      refine sw_in (off := 104) (tgt := 122) 4 hx hb (dk kX5_colour_0_ok 9 rfl) hs6 rfl rfl rfl (by decide) ?_
      refine lv_aload_n hx hb (dk kX5_colour_0_ok 42 rfl) rfl (lv_at hl 0 rfl) ?_
      refine gf hx hb hts (fun w h => List.mem_cons_of_mem _ (acX5 w h)) hown hK hP hz0 hC rfl 0 (by decide) (hts _ (List.mem_cons_of_mem _ (ac7 _ (List.mem_of_getElem? (i := 21) rfl)))) (fun _ h => h) rfl (dk kX5_colour_0_ok 43 rfl) ?_
      refine gfN hx hb hts (fun w h => List.mem_cons_of_mem _ (acX4 w h)) hown hK hP hz1 hN.1 rfl 2 (by decide) (nf4 hNW) (fun _ h => h) rfl (dk kX5_colour_0_ok 44 rfl) ?_
      refine lv_iload_n hx hb (dk kX5_colour_0_ok 45 rfl) rfl (lv_at hl 1 rfl) ?_
      refine ald (j := w) hx hb hK hP hz1___6 hN.2.2.2.1 rfl (by omega) (by decide) (dk kX5_colour_0_ok 46 rfl) ?_
      exact hret _ _ _ (by simp (config := { decide := true }) only [cCol, h1, (eq_false hs2), (eq_false hs3), (eq_false hs4), (eq_false hs5), (eq_true hs6), bI_1, bI_00, not_true_eq_false, not_false_eq_true, and_true, true_and, and_false, false_and, or_true, true_or, or_false, false_or, and_self, or_self, if_true, if_false, Bool.false_eq_true, reduceIte]; first | done | rfl | (simp_all; done)) (dk kX5_colour_0_ok 47 rfl)
    rcases Classical.em (y = nI 5) with hs7 | hs7
    · skip
      refine sw_in (off := 114) (tgt := 132) 5 hx hb (dk kX5_colour_0_ok 9 rfl) hs7 rfl rfl rfl (by decide) ?_
      refine lv_aload_n hx hb (dk kX5_colour_0_ok 48 rfl) rfl (lv_at hl 0 rfl) ?_
      refine gf hx hb hts (fun w h => List.mem_cons_of_mem _ (acX5 w h)) hown hK hP hz0 hC rfl 0 (by decide) (hts _ (List.mem_cons_of_mem _ (ac7 _ (List.mem_of_getElem? (i := 21) rfl)))) (fun _ h => h) rfl (dk kX5_colour_0_ok 49 rfl) ?_
      refine gfN hx hb hts (fun w h => List.mem_cons_of_mem _ (acX4 w h)) hown hK hP hz1 hN.1 rfl 3 (by decide) (nf5 hNW) (fun _ h => h) rfl (dk kX5_colour_0_ok 50 rfl) ?_
      refine lv_iload_n hx hb (dk kX5_colour_0_ok 51 rfl) rfl (lv_at hl 1 rfl) ?_
      refine ald (j := w) hx hb hK hP hz1___7 hN.2.2.2.2 rfl (by omega) (by decide) (dk kX5_colour_0_ok 52 rfl) ?_
      exact hret _ _ _ (by simp (config := { decide := true }) only [cCol, h1, (eq_false hs2), (eq_false hs3), (eq_false hs4), (eq_false hs5), (eq_false hs6), (eq_true hs7), bI_1, bI_00, not_true_eq_false, not_false_eq_true, and_true, true_and, and_false, false_and, or_true, true_or, or_false, false_or, and_self, or_self, if_true, if_false, Bool.false_eq_true, reduceIte]; first | done | rfl | (simp_all; done)) (dk kX5_colour_0_ok 53 rfl)
    rcases Classical.em (y = nI 6) with hs8 | hs8
    · skip
      refine sw_in (off := 124) (tgt := 142) 6 hx hb (dk kX5_colour_0_ok 9 rfl) hs8 rfl rfl rfl (by decide) ?_
      refine lv_aload_n hx hb (dk kX5_colour_0_ok 54 rfl) rfl (lv_at hl 0 rfl) ?_
      refine gf hx hb hts (fun w h => List.mem_cons_of_mem _ (acX5 w h)) hown hK hP hz0 hC rfl 0 (by decide) (hts _ (List.mem_cons_of_mem _ (ac7 _ (List.mem_of_getElem? (i := 21) rfl)))) (fun _ h => h) rfl (dk kX5_colour_0_ok 55 rfl) ?_
      refine gfN hx hb hts (fun w h => List.mem_cons_of_mem _ (acX4 w h)) hown hK hP hz1 hN.1 rfl 0 (by decide) (nf2 hNW) (fun _ h => h) rfl (dk kX5_colour_0_ok 56 rfl) ?_
      refine lv_iload_n hx hb (dk kX5_colour_0_ok 57 rfl) rfl (lv_at hl 1 rfl) ?_
      refine cvR (As := [.int (nI w)]) (rest := []) ⟨hx, hb, hml, hown, hts⟩ (tX1_othersBelow l D cI cQ cL ad N F (1 + 1) (by omega) c b v hN.2.1 (nI w) w rfl (by omega)) (cwV9 1 hts mcX1_othersBelow (ac12 _ (List.mem_of_getElem? (i := 23) rfl)) miX1_othersBelow meX1_othersBelow mini_RX1 rfl rfl hdX1_othersBelow ⟨Nat.le_of_ble_eq_true rfl, Nat.le_of_ble_eq_true rfl⟩) hK hP hNW hz1___1 hN.2.1.1 rfl rfl hl.1 rfl (Nat.le_of_ble_eq_true rfl) (by decide) (dk kX5_colour_0_ok 58 rfl) ?_
      exact hret _ _ _ (by simp (config := { decide := true }) only [cCol, h1, (eq_false hs2), (eq_false hs3), (eq_false hs4), (eq_false hs5), (eq_false hs6), (eq_false hs7), (eq_true hs8), bI_1, bI_00, not_true_eq_false, not_false_eq_true, and_true, true_and, and_false, false_and, or_true, true_or, or_false, false_or, and_self, or_self, if_true, if_false, Bool.false_eq_true, reduceIte]; first | done | rfl | (simp_all; done)) (dk kX5_colour_0_ok 59 rfl)
    refine lv_tableOut (tgt := 154) hx hb (dk kX5_colour_0_ok 9 rfl) (sw_out 7 (by intro k9 hk9; rcases k9 with _ | _ | _ | _ | _ | _ | _ | _ <;> first | assumption | omega)) (by decide) ?_
    exact (btw_all (m := 6) (by decide) hy9 (fun j9 hj9 e9 => by rcases (show j9 = 0 ∨ j9 = 1 ∨ j9 = 2 ∨ j9 = 3 ∨ j9 = 4 ∨ j9 = 5 ∨ j9 = 6 by omega) with rfl | rfl | rfl | rfl | rfl | rfl | rfl <;> contradiction)).elim
  · exact absurd ((cl4_nI hw).symm.trans h1) (by decide)
set_option maxRecDepth 100000 in
set_option maxHeartbeats 4000000 in
theorem tX5_colour_b1 (l : Launch) (hst : l.stackTraces = false) (D : va_G) (cI cQ cL : ClassId) (ad : Nat → Nat) (N : Nat) (F : Nat → va_E) (hk : 76 < N) (c b v g h j : Nat → Int32) (t : Nat) (u z : Int32) (hN : stAt cI ad F 1 c b v g h j (nI t) u z) (c8 b8 v8 g8 h8 j8 : Nat → Int32) (t8 : Nat) (u8 z8 : Int32) (hSn : stAt cI ad F 9 c8 b8 v8 g8 h8 j8 (nI t8) u8 z8) (n9 m9 : Nat) (hn9 : n9 < 6) (hm9 : m9 ≤ 6) (hPa : paAt cQ ad F 17 n9 m9) (a : Nat → Int32) (n : Nat) (hn60 : n ≤ 60) (hT : gtAt cI ad F 67 a n) (c6 b6 v6 : Nat → Int32) (hM6 : matAt cI ad F 69 c6 b6 v6) (a7 d7 q7 : Nat → Int32) (hO : roAt cI ad F 73 a7 d7 q7) (hs : Bool) (hC : F 0 = .inr (5, [.ref (ad 1), .ref (ad 9), .ref (ad 17), .ref (ad 67), .ref (ad 69), .ref (ad 73), .int (bI hs)])) (x y : Int32) (hwk : cl4 x = false) : MT l yX5_colour (Cond.code yX5_colour cX5_colour 3 (some .int) :: AW) ({ frames := 6, cells := 1, slots := 6, locals := 82 } : Room) D cI cQ cL ad N F [.ref (ad 0), .int x, .int y] eI 1 6 := by
  refine mt_of (ret := (some .int)) hst (by decide +kernel) rfl (Nat.le_of_ble_eq_true rfl) (fun p e s m below meth cd Q ls hx hb hml hown hts hDi hP hK hNW hS hX hthr hthrW hout hl => ?_)
  have hown : s.vm.findClass RX5 = some m.cls := hown
  have hz0 : 0 < N := by omega
  have hz1 : 1 < N := by omega
  have hz1___1 : 1 + 1 < N := by omega
  have hz1___1___1 : 1 + 1 + 1 < N := by omega
  have hz1___1___2 : 1 + 1 + 2 < N := by omega
  have hz1___1___3 : 1 + 1 + 3 < N := by omega
  have hz1___5 : 1 + 5 < N := by omega
  have hz1___6 : 1 + 6 < N := by omega
  have hz1___7 : 1 + 7 < N := by omega
  have hz9 : 9 < N := by omega
  have hz17 : 17 < N := by omega
  have hz17___1 : 17 + 1 < N := by omega
  have hz67 : 67 < N := by omega
  have hz67___1 : 67 + 1 < N := by omega
  have hz69 : 69 < N := by omega
  have hz69___1 : 69 + 1 < N := by omega
  have hz69___2 : 69 + 2 < N := by omega
  have hz69___3 : 69 + 3 < N := by omega
  have hz73 : 73 < N := by omega
  have hz1___1___3 : 1 + 1 + 3 < N := by omega
  have hz69___3 : 69 + 3 < N := by omega
  have hl : lv_has ls 3 [(0, .ref (ad 0)), (1, .int x), (2, .int y)] := hl
  refine lv_iload_n hx hb (dk kX5_colour_0_ok 0 rfl) rfl (lv_at hl 1 rfl) ?_
  refine csP (As := [.int x]) (rest := []) ⟨hx, hb, hml, hown, hts⟩ (tX5_isColour l x) (cwS9 1 hts mcX5_isColour (ac12 _ (List.mem_of_getElem? (i := 17) rfl)) msX5_isColour mini_RX5 rfl rfl hdX5_isColour ⟨Nat.le_of_ble_eq_true rfl, Nat.le_of_ble_eq_true rfl⟩) rfl hl.1 rfl (Nat.le_of_ble_eq_true rfl) (by decide) (dk kX5_colour_0_ok 1 rfl) ?_
  refine b_if_ne (tgt := 17) hx hb (dk kX5_colour_0_ok 2 rfl) (by decide) (fun h1 => ?_) (fun h1 => ?_)
  · exact absurd (hwk.symm.trans h1) (by decide)
  · skip
    exact hthr 196 200 198 7 "a colour is 0 to 3" ls [] _ _ 0 0 (by decide) (by decide) hP hS hl.1 (dk kX5_colour_0_ok 3 rfl) (dk kX5_colour_0_ok 4 rfl) (dk kX5_colour_0_ok 5 rfl) (dk kX5_colour_0_ok 6 rfl) (dk kX5_colour_0_ok 7 rfl) (by decide) (by decide) (by decide) (by decide) (by decide) (by decide)
set_option maxRecDepth 100000 in
set_option maxHeartbeats 4000000 in
theorem tX5_colour_b2 (l : Launch) (hst : l.stackTraces = false) (D : va_G) (cI cQ cL : ClassId) (ad : Nat → Nat) (N : Nat) (F : Nat → va_E) (hk : 76 < N) (c b v g h j : Nat → Int32) (t : Nat) (u z : Int32) (hN : stAt cI ad F 1 c b v g h j (nI t) u z) (c8 b8 v8 g8 h8 j8 : Nat → Int32) (t8 : Nat) (u8 z8 : Int32) (hSn : stAt cI ad F 9 c8 b8 v8 g8 h8 j8 (nI t8) u8 z8) (n9 m9 : Nat) (hn9 : n9 < 6) (hm9 : m9 ≤ 6) (hPa : paAt cQ ad F 17 n9 m9) (a : Nat → Int32) (n : Nat) (hn60 : n ≤ 60) (hT : gtAt cI ad F 67 a n) (c6 b6 v6 : Nat → Int32) (hM6 : matAt cI ad F 69 c6 b6 v6) (a7 d7 q7 : Nat → Int32) (hO : roAt cI ad F 73 a7 d7 q7) (hs : Bool) (hC : F 0 = .inr (5, [.ref (ad 1), .ref (ad 9), .ref (ad 17), .ref (ad 67), .ref (ad 69), .ref (ad 73), .int (bI hs)])) (x : Int32) (w : Nat) (hxw : x = nI w) (hw : w < 4) (y : Int32) (hy9 : btw y (nI 0) (nI 6) = false) : MT l yX5_colour (Cond.code yX5_colour cX5_colour 3 (some .int) :: AW) ({ frames := 6, cells := 1, slots := 6, locals := 82 } : Room) D cI cQ cL ad N F [.ref (ad 0), .int x, .int y] eA 1 6 := by
  refine mt_of (ret := (some .int)) hst (by decide +kernel) rfl (Nat.le_of_ble_eq_true rfl) (fun p e s m below meth cd Q ls hx hb hml hown hts hDi hP hK hNW hS hX hthr hthrW hout hl => ?_)
  have hown : s.vm.findClass RX5 = some m.cls := hown
  subst hxw
  have hz0 : 0 < N := by omega
  have hz1 : 1 < N := by omega
  have hz1___1 : 1 + 1 < N := by omega
  have hz1___1___1 : 1 + 1 + 1 < N := by omega
  have hz1___1___2 : 1 + 1 + 2 < N := by omega
  have hz1___1___3 : 1 + 1 + 3 < N := by omega
  have hz1___5 : 1 + 5 < N := by omega
  have hz1___6 : 1 + 6 < N := by omega
  have hz1___7 : 1 + 7 < N := by omega
  have hz9 : 9 < N := by omega
  have hz17 : 17 < N := by omega
  have hz17___1 : 17 + 1 < N := by omega
  have hz67 : 67 < N := by omega
  have hz67___1 : 67 + 1 < N := by omega
  have hz69 : 69 < N := by omega
  have hz69___1 : 69 + 1 < N := by omega
  have hz69___2 : 69 + 2 < N := by omega
  have hz69___3 : 69 + 3 < N := by omega
  have hz73 : 73 < N := by omega
  have hz1___1___3 : 1 + 1 + 3 < N := by omega
  have hz69___3 : 69 + 3 < N := by omega
  have hl : lv_has ls 3 [(0, .ref (ad 0)), (1, .int (nI w)), (2, .int y)] := hl
  refine lv_iload_n hx hb (dk kX5_colour_0_ok 0 rfl) rfl (lv_at hl 1 rfl) ?_
  refine csP (As := [.int (nI w)]) (rest := []) ⟨hx, hb, hml, hown, hts⟩ (tX5_isColour l (nI w)) (cwS9 1 hts mcX5_isColour (ac12 _ (List.mem_of_getElem? (i := 17) rfl)) msX5_isColour mini_RX5 rfl rfl hdX5_isColour ⟨Nat.le_of_ble_eq_true rfl, Nat.le_of_ble_eq_true rfl⟩) rfl hl.1 rfl (Nat.le_of_ble_eq_true rfl) (by decide) (dk kX5_colour_0_ok 1 rfl) ?_
  refine b_if_ne (tgt := 17) hx hb (dk kX5_colour_0_ok 2 rfl) (by decide) (fun h1 => ?_) (fun h1 => ?_)
  · skip
    refine lv_iload_n hx hb (dk kX5_colour_0_ok 8 rfl) rfl (lv_at hl 2 rfl) ?_
    rcases Classical.em (y = nI 0) with hs2 | hs2
    · exact (btw_ne hy9 (j := 0) (by decide) (by decide) hs2).elim
    rcases Classical.em (y = nI 1) with hs3 | hs3
    · exact (btw_ne hy9 (j := 1) (by decide) (by decide) hs3).elim
    rcases Classical.em (y = nI 2) with hs4 | hs4
    · exact (btw_ne hy9 (j := 2) (by decide) (by decide) hs4).elim
    rcases Classical.em (y = nI 3) with hs5 | hs5
    · exact (btw_ne hy9 (j := 3) (by decide) (by decide) hs5).elim
    rcases Classical.em (y = nI 4) with hs6 | hs6
    · exact (btw_ne hy9 (j := 4) (by decide) (by decide) hs6).elim
    rcases Classical.em (y = nI 5) with hs7 | hs7
    · exact (btw_ne hy9 (j := 5) (by decide) (by decide) hs7).elim
    rcases Classical.em (y = nI 6) with hs8 | hs8
    · exact (btw_ne hy9 (j := 6) (by decide) (by decide) hs8).elim
    refine lv_tableOut (tgt := 154) hx hb (dk kX5_colour_0_ok 9 rfl) (sw_out 7 (by intro k9 hk9; rcases k9 with _ | _ | _ | _ | _ | _ | _ | _ <;> first | assumption | omega)) (by decide) ?_
    exact hthr 104 108 180 154 "what is 0 to 6" ls [] _ _ 0 0 (by decide) (by decide) hP hS hl.1 (dk kX5_colour_1_ok 0 rfl) (dk kX5_colour_1_ok 1 rfl) (dk kX5_colour_1_ok 2 rfl) (dk kX5_colour_1_ok 3 rfl) (dk kX5_colour_1_ok 4 rfl) (by decide) (by decide) (by decide) (by decide) (by decide) (by decide)
  · exact absurd ((cl4_nI hw).symm.trans h1) (by decide)
set_option maxRecDepth 100000 in
set_option maxHeartbeats 4000000 in
theorem tX5_count (l : Launch) (D : va_G) (cI cQ cL : ClassId) (ad : Nat → Nat) (N : Nat) (F : Nat → va_E) (hk : 76 < N) (c b v g h j : Nat → Int32) (t : Nat) (u z : Int32) (hN : stAt cI ad F 1 c b v g h j (nI t) u z) (c8 b8 v8 g8 h8 j8 : Nat → Int32) (t8 : Nat) (u8 z8 : Int32) (hSn : stAt cI ad F 9 c8 b8 v8 g8 h8 j8 (nI t8) u8 z8) (n9 m9 : Nat) (hn9 : n9 < 6) (hm9 : m9 ≤ 6) (hPa : paAt cQ ad F 17 n9 m9) (a : Nat → Int32) (n : Nat) (hn60 : n ≤ 60) (hT : gtAt cI ad F 67 a n) (c6 b6 v6 : Nat → Int32) (hM6 : matAt cI ad F 69 c6 b6 v6) (a7 d7 q7 : Nat → Int32) (hO : roAt cI ad F 73 a7 d7 q7) (hs : Bool) (hC : F 0 = .inr (5, [.ref (ad 1), .ref (ad 9), .ref (ad 17), .ref (ad 67), .ref (ad 69), .ref (ad 73), .int (bI hs)])) (y : Int32) (hy9 : btw y (nI 0) (nI 13) = true) : MR l yX5_count (Cond.code yX5_count cX5_count 2 (some .int) :: AW) ({ frames := 6, cells := 0, slots := 0, locals := 87 } : Room) D cI cQ cL ad N F [.ref (ad 0), .int y] (.int (cCnt c b v g h t u z m9 y)) := by
  refine mr_i (ty := .int) (by decide +kernel) rfl rfl rfl rfl (Nat.le_of_ble_eq_true rfl) (fun p e s m below meth cd Q ls hx hb hml hown hts hP hK hNW hret hl => ?_)
  have hown : s.vm.findClass RX5 = some m.cls := hown
  have hz0 : 0 < N := by omega
  have hz1 : 1 < N := by omega
  have hz1___1 : 1 + 1 < N := by omega
  have hz1___1___1 : 1 + 1 + 1 < N := by omega
  have hz1___1___2 : 1 + 1 + 2 < N := by omega
  have hz1___1___3 : 1 + 1 + 3 < N := by omega
  have hz1___5 : 1 + 5 < N := by omega
  have hz1___6 : 1 + 6 < N := by omega
  have hz1___7 : 1 + 7 < N := by omega
  have hz9 : 9 < N := by omega
  have hz17 : 17 < N := by omega
  have hz17___1 : 17 + 1 < N := by omega
  have hz67 : 67 < N := by omega
  have hz67___1 : 67 + 1 < N := by omega
  have hz69 : 69 < N := by omega
  have hz69___1 : 69 + 1 < N := by omega
  have hz69___2 : 69 + 2 < N := by omega
  have hz69___3 : 69 + 3 < N := by omega
  have hz73 : 73 < N := by omega
  have hz1___1___3 : 1 + 1 + 3 < N := by omega
  have hz69___3 : 69 + 3 < N := by omega
  have hl : lv_has ls 2 [(0, .ref (ad 0)), (1, .int y)] := hl
  refine lv_iload_n hx hb (dk kX5_count_0_ok 0 rfl) rfl (lv_at hl 1 rfl) ?_
  rcases Classical.em (y = nI 0) with hs1 | hs1
  · skip
    refine sw_in (off := 71) (tgt := 72) 0 hx hb (dk kX5_count_0_ok 1 rfl) hs1 rfl rfl rfl (by decide) ?_
    refine lv_aload_n hx hb (dk kX5_count_0_ok 2 rfl) rfl (lv_at hl 0 rfl) ?_
    refine gf hx hb hts (fun w h => List.mem_cons_of_mem _ (acX5 w h)) hown hK hP hz0 hC rfl 0 (by decide) (hts _ (List.mem_cons_of_mem _ (ac7 _ (List.mem_of_getElem? (i := 21) rfl)))) (fun _ h => h) rfl (dk kX5_count_0_ok 3 rfl) ?_
    refine gfN hx hb hts (fun w h => List.mem_cons_of_mem _ (acX4 w h)) hown hK hP hz1 hN.1 rfl 0 (by decide) (nf2 hNW) (fun _ h => h) rfl (dk kX5_count_0_ok 4 rfl) ?_
    refine cvR (As := []) (rest := []) ⟨hx, hb, hml, hown, hts⟩ (tX1_isOver l D cI cQ cL ad N F (1 + 1) (by omega) c b v hN.2.1) (cwV9 0 hts mcX1_isOver (ac10 _ (List.mem_of_getElem? (i := 15) rfl)) miX1_isOver meX1_isOver mini_RX1 rfl rfl hdX1_isOver ⟨Nat.le_of_ble_eq_true rfl, Nat.le_of_ble_eq_true rfl⟩) hK hP hNW hz1___1 hN.2.1.1 rfl rfl hl.1 rfl (Nat.le_of_ble_eq_true rfl) (by decide) (dk kX5_count_0_ok 5 rfl) ?_
    refine b_if_eq (tgt := 89) hx hb (dk kX5_count_0_ok 6 rfl) (by decide) (fun h2 => ?_) (fun h2 => ?_)
    · skip
      refine lv_aload_n hx hb (dk kX5_count_0_ok 9 rfl) rfl (lv_at hl 0 rfl) ?_
      refine gf hx hb hts (fun w h => List.mem_cons_of_mem _ (acX5 w h)) hown hK hP hz0 hC rfl 0 (by decide) (hts _ (List.mem_cons_of_mem _ (ac7 _ (List.mem_of_getElem? (i := 21) rfl)))) (fun _ h => h) rfl (dk kX5_count_0_ok 10 rfl) ?_
      refine gfN hx hb hts (fun w h => List.mem_cons_of_mem _ (acX4 w h)) hown hK hP hz1 hN.1 rfl 4 (by decide) (nf6 hNW) (fun _ h => h) rfl (dk kX5_count_0_ok 11 rfl) ?_
      exact hret _ _ _ (by simp (config := { decide := true }) only [cCnt, (eq_true hs1), h2, bI_1, bI_00, not_true_eq_false, not_false_eq_true, and_true, true_and, and_false, false_and, or_true, true_or, or_false, false_or, and_self, or_self, if_true, if_false, Bool.false_eq_true, reduceIte]; first | done | rfl | (simp_all; done)) (dk kX5_count_0_ok 12 rfl)
    · skip
      refine lv_iconst (v := -1) hx hb (dk kX5_count_0_ok 7 rfl) rfl ?_
      refine lv_goto (tgt := 96) hx hb (dk kX5_count_0_ok 8 rfl) (by decide) ?_
      exact hret _ _ _ (by simp (config := { decide := true }) only [cCnt, (eq_true hs1), h2, bI_1, bI_00, not_true_eq_false, not_false_eq_true, and_true, true_and, and_false, false_and, or_true, true_or, or_false, false_or, and_self, or_self, if_true, if_false, Bool.false_eq_true, reduceIte]; first | done | rfl | (simp_all; done)) (dk kX5_count_0_ok 12 rfl)
  rcases Classical.em (y = nI 1) with hs3 | hs3
  · skip
    refine sw_in (off := 96) (tgt := 97) 1 hx hb (dk kX5_count_0_ok 1 rfl) hs3 rfl rfl rfl (by decide) ?_
    refine lv_aload_n hx hb (dk kX5_count_0_ok 13 rfl) rfl (lv_at hl 0 rfl) ?_
    refine gf hx hb hts (fun w h => List.mem_cons_of_mem _ (acX5 w h)) hown hK hP hz0 hC rfl 0 (by decide) (hts _ (List.mem_cons_of_mem _ (ac7 _ (List.mem_of_getElem? (i := 21) rfl)))) (fun _ h => h) rfl (dk kX5_count_0_ok 14 rfl) ?_
    refine gfN hx hb hts (fun w h => List.mem_cons_of_mem _ (acX4 w h)) hown hK hP hz1 hN.1 rfl 0 (by decide) (nf2 hNW) (fun _ h => h) rfl (dk kX5_count_0_ok 15 rfl) ?_
    refine cvR (As := []) (rest := []) ⟨hx, hb, hml, hown, hts⟩ (tX1_isOver l D cI cQ cL ad N F (1 + 1) (by omega) c b v hN.2.1) (cwV9 0 hts mcX1_isOver (ac10 _ (List.mem_of_getElem? (i := 15) rfl)) miX1_isOver meX1_isOver mini_RX1 rfl rfl hdX1_isOver ⟨Nat.le_of_ble_eq_true rfl, Nat.le_of_ble_eq_true rfl⟩) hK hP hNW hz1___1 hN.2.1.1 rfl rfl hl.1 rfl (Nat.le_of_ble_eq_true rfl) (by decide) (dk kX5_count_0_ok 16 rfl) ?_
    refine b_if_eq (tgt := 114) hx hb (dk kX5_count_0_ok 17 rfl) (by decide) (fun h4 => ?_) (fun h4 => ?_)
    · skip
      refine lv_iconst (v := nI 0) hx hb (dk kX5_count_0_ok 20 rfl) rfl ?_
      exact hret _ _ _ (by simp (config := { decide := true }) only [cCnt, (eq_false hs1), (eq_true hs3), h4, bI_1, bI_00, not_true_eq_false, not_false_eq_true, and_true, true_and, and_false, false_and, or_true, true_or, or_false, false_or, and_self, or_self, if_true, if_false, Bool.false_eq_true, reduceIte]; first | done | rfl | (simp_all; done)) (dk kX5_count_0_ok 21 rfl)
    · skip
      refine lv_iconst (v := nI 1) hx hb (dk kX5_count_0_ok 18 rfl) rfl ?_
      refine lv_goto (tgt := 115) hx hb (dk kX5_count_0_ok 19 rfl) (by decide) ?_
      exact hret _ _ _ (by simp (config := { decide := true }) only [cCnt, (eq_false hs1), (eq_true hs3), h4, bI_1, bI_00, not_true_eq_false, not_false_eq_true, and_true, true_and, and_false, false_and, or_true, true_or, or_false, false_or, and_self, or_self, if_true, if_false, Bool.false_eq_true, reduceIte]; first | done | rfl | (simp_all; done)) (dk kX5_count_0_ok 21 rfl)
  rcases Classical.em (y = nI 2) with hs5 | hs5
  · skip
    refine sw_in (off := 115) (tgt := 116) 2 hx hb (dk kX5_count_0_ok 1 rfl) hs5 rfl rfl rfl (by decide) ?_
    refine lv_aload_n hx hb (dk kX5_count_0_ok 22 rfl) rfl (lv_at hl 0 rfl) ?_
    refine gf hx hb hts (fun w h => List.mem_cons_of_mem _ (acX5 w h)) hown hK hP hz0 hC rfl 0 (by decide) (hts _ (List.mem_cons_of_mem _ (ac7 _ (List.mem_of_getElem? (i := 21) rfl)))) (fun _ h => h) rfl (dk kX5_count_0_ok 23 rfl) ?_
    refine gfN hx hb hts (fun w h => List.mem_cons_of_mem _ (acX4 w h)) hown hK hP hz1 hN.1 rfl 0 (by decide) (nf2 hNW) (fun _ h => h) rfl (dk kX5_count_0_ok 24 rfl) ?_
    refine cvR (As := []) (rest := []) ⟨hx, hb, hml, hown, hts⟩ (tX1_potted l D cI cQ cL ad N F (1 + 1) (by omega) c b v hN.2.1) (cwV9 0 hts mcX1_potted (ac11 _ (List.mem_of_getElem? (i := 20) rfl)) miX1_potted meX1_potted mini_RX1 rfl rfl hdX1_potted ⟨Nat.le_of_ble_eq_true rfl, Nat.le_of_ble_eq_true rfl⟩) hK hP hNW hz1___1 hN.2.1.1 rfl rfl hl.1 rfl (Nat.le_of_ble_eq_true rfl) (by decide) (dk kX5_count_0_ok 25 rfl) ?_
    exact hret _ _ _ (by simp (config := { decide := true }) only [cCnt, (eq_false hs1), (eq_false hs3), (eq_true hs5), bI_1, bI_00, not_true_eq_false, not_false_eq_true, and_true, true_and, and_false, false_and, or_true, true_or, or_false, false_or, and_self, or_self, if_true, if_false, Bool.false_eq_true, reduceIte]; first | done | rfl | (simp_all; done)) (dk kX5_count_0_ok 26 rfl)
  rcases Classical.em (y = nI 3) with hs6 | hs6
  · skip
    refine sw_in (off := 126) (tgt := 127) 3 hx hb (dk kX5_count_0_ok 1 rfl) hs6 rfl rfl rfl (by decide) ?_
    refine lv_aload_n hx hb (dk kX5_count_0_ok 27 rfl) rfl (lv_at hl 0 rfl) ?_
    refine gf hx hb hts (fun w h => List.mem_cons_of_mem _ (acX5 w h)) hown hK hP hz0 hC rfl 0 (by decide) (hts _ (List.mem_cons_of_mem _ (ac7 _ (List.mem_of_getElem? (i := 21) rfl)))) (fun _ h => h) rfl (dk kX5_count_0_ok 28 rfl) ?_
    refine gfN hx hb hts (fun w h => List.mem_cons_of_mem _ (acX4 w h)) hown hK hP hz1 hN.1 rfl 0 (by decide) (nf2 hNW) (fun _ h => h) rfl (dk kX5_count_0_ok 29 rfl) ?_
    refine cvR (As := []) (rest := []) ⟨hx, hb, hml, hown, hts⟩ (tX1_coveredByPiles l D cI cQ cL ad N F (1 + 1) (by omega) c b v hN.2.1) (cwV9 0 hts mcX1_coveredByPiles (ac13 _ (List.mem_of_getElem? (i := 3) rfl)) miX1_coveredByPiles meX1_coveredByPiles mini_RX1 rfl rfl hdX1_coveredByPiles ⟨Nat.le_of_ble_eq_true rfl, Nat.le_of_ble_eq_true rfl⟩) hK hP hNW hz1___1 hN.2.1.1 rfl rfl hl.1 rfl (Nat.le_of_ble_eq_true rfl) (by decide) (dk kX5_count_0_ok 30 rfl) ?_
    exact hret _ _ _ (by simp (config := { decide := true }) only [cCnt, (eq_false hs1), (eq_false hs3), (eq_false hs5), (eq_true hs6), bI_1, bI_00, not_true_eq_false, not_false_eq_true, and_true, true_and, and_false, false_and, or_true, true_or, or_false, false_or, and_self, or_self, if_true, if_false, Bool.false_eq_true, reduceIte]; first | done | rfl | (simp_all; done)) (dk kX5_count_0_ok 31 rfl)
  rcases Classical.em (y = nI 4) with hs7 | hs7
  · skip
    refine sw_in (off := 137) (tgt := 138) 4 hx hb (dk kX5_count_0_ok 1 rfl) hs7 rfl rfl rfl (by decide) ?_
    refine lv_aload_n hx hb (dk kX5_count_0_ok 32 rfl) rfl (lv_at hl 0 rfl) ?_
    refine gf hx hb hts (fun w h => List.mem_cons_of_mem _ (acX5 w h)) hown hK hP hz0 hC rfl 0 (by decide) (hts _ (List.mem_cons_of_mem _ (ac7 _ (List.mem_of_getElem? (i := 21) rfl)))) (fun _ h => h) rfl (dk kX5_count_0_ok 33 rfl) ?_
    refine gfN hx hb hts (fun w h => List.mem_cons_of_mem _ (acX4 w h)) hown hK hP hz1 hN.1 rfl 0 (by decide) (nf2 hNW) (fun _ h => h) rfl (dk kX5_count_0_ok 34 rfl) ?_
    refine cvR (As := []) (rest := []) ⟨hx, hb, hml, hown, hts⟩ (tX1_coveredByWinks l D cI cQ cL ad N F (1 + 1) (by omega) c b v hN.2.1) (cwV9 0 hts mcX1_coveredByWinks (ac13 _ (List.mem_of_getElem? (i := 7) rfl)) miX1_coveredByWinks meX1_coveredByWinks mini_RX1 rfl rfl hdX1_coveredByWinks ⟨Nat.le_of_ble_eq_true rfl, Nat.le_of_ble_eq_true rfl⟩) hK hP hNW hz1___1 hN.2.1.1 rfl rfl hl.1 rfl (Nat.le_of_ble_eq_true rfl) (by decide) (dk kX5_count_0_ok 35 rfl) ?_
    exact hret _ _ _ (by simp (config := { decide := true }) only [cCnt, (eq_false hs1), (eq_false hs3), (eq_false hs5), (eq_false hs6), (eq_true hs7), bI_1, bI_00, not_true_eq_false, not_false_eq_true, and_true, true_and, and_false, false_and, or_true, true_or, or_false, false_or, and_self, or_self, if_true, if_false, Bool.false_eq_true, reduceIte]; first | done | rfl | (simp_all; done)) (dk kX5_count_0_ok 36 rfl)
  rcases Classical.em (y = nI 5) with hs8 | hs8
  · skip
    refine sw_in (off := 148) (tgt := 149) 5 hx hb (dk kX5_count_0_ok 1 rfl) hs8 rfl rfl rfl (by decide) ?_
    refine lv_aload_n hx hb (dk kX5_count_0_ok 37 rfl) rfl (lv_at hl 0 rfl) ?_
    refine gf hx hb hts (fun w h => List.mem_cons_of_mem _ (acX5 w h)) hown hK hP hz0 hC rfl 0 (by decide) (hts _ (List.mem_cons_of_mem _ (ac7 _ (List.mem_of_getElem? (i := 21) rfl)))) (fun _ h => h) rfl (dk kX5_count_0_ok 38 rfl) ?_
    refine gfN hx hb hts (fun w h => List.mem_cons_of_mem _ (acX4 w h)) hown hK hP hz1 hN.1 rfl 0 (by decide) (nf2 hNW) (fun _ h => h) rfl (dk kX5_count_0_ok 39 rfl) ?_
    refine cvR (As := []) (rest := []) ⟨hx, hb, hml, hown, hts⟩ (tX1_piles l D cI cQ cL ad N F (1 + 1) (by omega) c b v hN.2.1) (cwV9 0 hts mcX1_piles (ac13 _ (List.mem_of_getElem? (i := 11) rfl)) miX1_piles meX1_piles mini_RX1 rfl rfl hdX1_piles ⟨Nat.le_of_ble_eq_true rfl, Nat.le_of_ble_eq_true rfl⟩) hK hP hNW hz1___1 hN.2.1.1 rfl rfl hl.1 rfl (Nat.le_of_ble_eq_true rfl) (by decide) (dk kX5_count_0_ok 40 rfl) ?_
    exact hret _ _ _ (by simp (config := { decide := true }) only [cCnt, (eq_false hs1), (eq_false hs3), (eq_false hs5), (eq_false hs6), (eq_false hs7), (eq_true hs8), bI_1, bI_00, not_true_eq_false, not_false_eq_true, and_true, true_and, and_false, false_and, or_true, true_or, or_false, false_or, and_self, or_self, if_true, if_false, Bool.false_eq_true, reduceIte]; first | done | rfl | (simp_all; done)) (dk kX5_count_0_ok 41 rfl)
  rcases Classical.em (y = nI 6) with hs9 | hs9
  · skip
    refine sw_in (off := 159) (tgt := 160) 6 hx hb (dk kX5_count_0_ok 1 rfl) hs9 rfl rfl rfl (by decide) ?_
    refine lv_aload_n hx hb (dk kX5_count_0_ok 42 rfl) rfl (lv_at hl 0 rfl) ?_
    refine gf hx hb hts (fun w h => List.mem_cons_of_mem _ (acX5 w h)) hown hK hP hz0 hC rfl 0 (by decide) (hts _ (List.mem_cons_of_mem _ (ac7 _ (List.mem_of_getElem? (i := 21) rfl)))) (fun _ h => h) rfl (dk kX5_count_0_ok 43 rfl) ?_
    refine gfN hx hb hts (fun w h => List.mem_cons_of_mem _ (acX4 w h)) hown hK hP hz1 hN.1 rfl 0 (by decide) (nf2 hNW) (fun _ h => h) rfl (dk kX5_count_0_ok 44 rfl) ?_
    refine cvR (As := []) (rest := []) ⟨hx, hb, hml, hown, hts⟩ (tX1_highest l D cI cQ cL ad N F (1 + 1) (by omega) c b v hN.2.1) (cwV9 0 hts mcX1_highest (ac13 _ (List.mem_of_getElem? (i := 15) rfl)) miX1_highest meX1_highest mini_RX1 rfl rfl hdX1_highest ⟨Nat.le_of_ble_eq_true rfl, Nat.le_of_ble_eq_true rfl⟩) hK hP hNW hz1___1 hN.2.1.1 rfl rfl hl.1 rfl (Nat.le_of_ble_eq_true rfl) (by decide) (dk kX5_count_0_ok 45 rfl) ?_
    exact hret _ _ _ (by simp (config := { decide := true }) only [cCnt, (eq_false hs1), (eq_false hs3), (eq_false hs5), (eq_false hs6), (eq_false hs7), (eq_false hs8), (eq_true hs9), bI_1, bI_00, not_true_eq_false, not_false_eq_true, and_true, true_and, and_false, false_and, or_true, true_or, or_false, false_or, and_self, or_self, if_true, if_false, Bool.false_eq_true, reduceIte]; first | done | rfl | (simp_all; done)) (dk kX5_count_0_ok 46 rfl)
  rcases Classical.em (y = nI 7) with hs10 | hs10
  · skip
    refine sw_in (off := 170) (tgt := 171) 7 hx hb (dk kX5_count_0_ok 1 rfl) hs10 rfl rfl rfl (by decide) ?_
    refine lv_aload_n hx hb (dk kX5_count_0_ok 47 rfl) rfl (lv_at hl 0 rfl) ?_
    refine gf hx hb hts (fun w h => List.mem_cons_of_mem _ (acX5 w h)) hown hK hP hz0 hC rfl 0 (by decide) (hts _ (List.mem_cons_of_mem _ (ac7 _ (List.mem_of_getElem? (i := 21) rfl)))) (fun _ h => h) rfl (dk kX5_count_0_ok 48 rfl) ?_
    refine cvR (As := []) (rest := []) ⟨hx, hb, hml, hown, hts⟩ (tX4_allFlights l D cI cQ cL ad N F 1 (by omega) c b v g h j t u z hN) (cwV9 0 hts mcX4_allFlights (ac13 _ (List.mem_of_getElem? (i := 19) rfl)) miX4_allFlights meX4_allFlights mini_RX4 rfl rfl hdX4_allFlights ⟨Nat.le_of_ble_eq_true rfl, Nat.le_of_ble_eq_true rfl⟩) hK hP hNW hz1 hN.1 rfl rfl hl.1 rfl (Nat.le_of_ble_eq_true rfl) (by decide) (dk kX5_count_0_ok 49 rfl) ?_
    exact hret _ _ _ (by simp (config := { decide := true }) only [cCnt, (eq_false hs1), (eq_false hs3), (eq_false hs5), (eq_false hs6), (eq_false hs7), (eq_false hs8), (eq_false hs9), (eq_true hs10), bI_1, bI_00, not_true_eq_false, not_false_eq_true, and_true, true_and, and_false, false_and, or_true, true_or, or_false, false_or, and_self, or_self, if_true, if_false, Bool.false_eq_true, reduceIte]; first | done | rfl | (simp_all; done)) (dk kX5_count_0_ok 50 rfl)
  rcases Classical.em (y = nI 8) with hs11 | hs11
  · skip
    refine sw_in (off := 178) (tgt := 179) 8 hx hb (dk kX5_count_0_ok 1 rfl) hs11 rfl rfl rfl (by decide) ?_
    refine lv_aload_n hx hb (dk kX5_count_0_ok 51 rfl) rfl (lv_at hl 0 rfl) ?_
    refine gf hx hb hts (fun w h => List.mem_cons_of_mem _ (acX5 w h)) hown hK hP hz0 hC rfl 0 (by decide) (hts _ (List.mem_cons_of_mem _ (ac7 _ (List.mem_of_getElem? (i := 21) rfl)))) (fun _ h => h) rfl (dk kX5_count_0_ok 52 rfl) ?_
    refine gfN hx hb hts (fun w h => List.mem_cons_of_mem _ (acX4 w h)) hown hK hP hz1 hN.1 rfl 5 (by decide) (nf7 hNW) (fun _ h => h) rfl (dk kX5_count_0_ok 53 rfl) ?_
    exact hret _ _ _ (by simp (config := { decide := true }) only [cCnt, (eq_false hs1), (eq_false hs3), (eq_false hs5), (eq_false hs6), (eq_false hs7), (eq_false hs8), (eq_false hs9), (eq_false hs10), (eq_true hs11), bI_1, bI_00, not_true_eq_false, not_false_eq_true, and_true, true_and, and_false, false_and, or_true, true_or, or_false, false_or, and_self, or_self, if_true, if_false, Bool.false_eq_true, reduceIte]; first | done | rfl | (simp_all; done)) (dk kX5_count_0_ok 54 rfl)
  rcases Classical.em (y = nI 9) with hs12 | hs12
  · skip
    refine sw_in (off := 186) (tgt := 187) 9 hx hb (dk kX5_count_0_ok 1 rfl) hs12 rfl rfl rfl (by decide) ?_
    refine lv_aload_n hx hb (dk kX5_count_0_ok 55 rfl) rfl (lv_at hl 0 rfl) ?_
    refine gf hx hb hts (fun w h => List.mem_cons_of_mem _ (acX5 w h)) hown hK hP hz0 hC rfl 0 (by decide) (hts _ (List.mem_cons_of_mem _ (ac7 _ (List.mem_of_getElem? (i := 21) rfl)))) (fun _ h => h) rfl (dk kX5_count_0_ok 56 rfl) ?_
    refine cvR (As := []) (rest := []) ⟨hx, hb, hml, hown, hts⟩ (tX4_allFouls l D cI cQ cL ad N F 1 (by omega) c b v g h j t u z hN) (cwV9 0 hts mcX4_allFouls (ac13 _ (List.mem_of_getElem? (i := 23) rfl)) miX4_allFouls meX4_allFouls mini_RX4 rfl rfl hdX4_allFouls ⟨Nat.le_of_ble_eq_true rfl, Nat.le_of_ble_eq_true rfl⟩) hK hP hNW hz1 hN.1 rfl rfl hl.1 rfl (Nat.le_of_ble_eq_true rfl) (by decide) (dk kX5_count_0_ok 57 rfl) ?_
    exact hret _ _ _ (by simp (config := { decide := true }) only [cCnt, (eq_false hs1), (eq_false hs3), (eq_false hs5), (eq_false hs6), (eq_false hs7), (eq_false hs8), (eq_false hs9), (eq_false hs10), (eq_false hs11), (eq_true hs12), bI_1, bI_00, not_true_eq_false, not_false_eq_true, and_true, true_and, and_false, false_and, or_true, true_or, or_false, false_or, and_self, or_self, if_true, if_false, Bool.false_eq_true, reduceIte]; first | done | rfl | (simp_all; done)) (dk kX5_count_0_ok 58 rfl)
  rcases Classical.em (y = nI 10) with hs13 | hs13
  · skip
    refine sw_in (off := 194) (tgt := 195) 10 hx hb (dk kX5_count_0_ok 1 rfl) hs13 rfl rfl rfl (by decide) ?_
    refine lv_aload_n hx hb (dk kX5_count_0_ok 59 rfl) rfl (lv_at hl 0 rfl) ?_
    refine gf hx hb hts (fun w h => List.mem_cons_of_mem _ (acX5 w h)) hown hK hP hz0 hC rfl 0 (by decide) (hts _ (List.mem_cons_of_mem _ (ac7 _ (List.mem_of_getElem? (i := 21) rfl)))) (fun _ h => h) rfl (dk kX5_count_1_ok 0 rfl) ?_
    refine gfN hx hb hts (fun w h => List.mem_cons_of_mem _ (acX4 w h)) hown hK hP hz1 hN.1 rfl 0 (by decide) (nf2 hNW) (fun _ h => h) rfl (dk kX5_count_1_ok 1 rfl) ?_
    refine lv_iconst (v := nI 0) hx hb (dk kX5_count_1_ok 2 rfl) rfl ?_
    refine cvR (As := [.int (nI 0)]) (rest := []) ⟨hx, hb, hml, hown, hts⟩ (tX1_pointsOfTeam l D cI cQ cL ad N F (1 + 1) (by omega) c b v hN.2.1 (nI 0) 0 rfl (by omega)) (cwV9 1 hts mcX1_pointsOfTeam (ac14 _ (List.mem_of_getElem? (i := 3) rfl)) miX1_pointsOfTeam meX1_pointsOfTeam mini_RX1 rfl rfl hdX1_pointsOfTeam ⟨Nat.le_of_ble_eq_true rfl, Nat.le_of_ble_eq_true rfl⟩) hK hP hNW hz1___1 hN.2.1.1 rfl rfl hl.1 rfl (Nat.le_of_ble_eq_true rfl) (by decide) (dk kX5_count_1_ok 3 rfl) ?_
    exact hret _ _ _ (by simp (config := { decide := true }) only [cCnt, (eq_false hs1), (eq_false hs3), (eq_false hs5), (eq_false hs6), (eq_false hs7), (eq_false hs8), (eq_false hs9), (eq_false hs10), (eq_false hs11), (eq_false hs12), (eq_true hs13), bI_1, bI_00, not_true_eq_false, not_false_eq_true, and_true, true_and, and_false, false_and, or_true, true_or, or_false, false_or, and_self, or_self, if_true, if_false, Bool.false_eq_true, reduceIte]; first | done | rfl | (simp_all; done)) (dk kX5_count_1_ok 4 rfl)
  rcases Classical.em (y = nI 11) with hs14 | hs14
  · skip
    refine sw_in (off := 206) (tgt := 207) 11 hx hb (dk kX5_count_0_ok 1 rfl) hs14 rfl rfl rfl (by decide) ?_
    refine lv_aload_n hx hb (dk kX5_count_1_ok 5 rfl) rfl (lv_at hl 0 rfl) ?_
    refine gf hx hb hts (fun w h => List.mem_cons_of_mem _ (acX5 w h)) hown hK hP hz0 hC rfl 0 (by decide) (hts _ (List.mem_cons_of_mem _ (ac7 _ (List.mem_of_getElem? (i := 21) rfl)))) (fun _ h => h) rfl (dk kX5_count_1_ok 6 rfl) ?_
    refine gfN hx hb hts (fun w h => List.mem_cons_of_mem _ (acX4 w h)) hown hK hP hz1 hN.1 rfl 0 (by decide) (nf2 hNW) (fun _ h => h) rfl (dk kX5_count_1_ok 7 rfl) ?_
    refine lv_iconst (v := nI 1) hx hb (dk kX5_count_1_ok 8 rfl) rfl ?_
    refine cvR (As := [.int (nI 1)]) (rest := []) ⟨hx, hb, hml, hown, hts⟩ (tX1_pointsOfTeam l D cI cQ cL ad N F (1 + 1) (by omega) c b v hN.2.1 (nI 1) 1 rfl (by omega)) (cwV9 1 hts mcX1_pointsOfTeam (ac14 _ (List.mem_of_getElem? (i := 3) rfl)) miX1_pointsOfTeam meX1_pointsOfTeam mini_RX1 rfl rfl hdX1_pointsOfTeam ⟨Nat.le_of_ble_eq_true rfl, Nat.le_of_ble_eq_true rfl⟩) hK hP hNW hz1___1 hN.2.1.1 rfl rfl hl.1 rfl (Nat.le_of_ble_eq_true rfl) (by decide) (dk kX5_count_1_ok 9 rfl) ?_
    exact hret _ _ _ (by simp (config := { decide := true }) only [cCnt, (eq_false hs1), (eq_false hs3), (eq_false hs5), (eq_false hs6), (eq_false hs7), (eq_false hs8), (eq_false hs9), (eq_false hs10), (eq_false hs11), (eq_false hs12), (eq_false hs13), (eq_true hs14), bI_1, bI_00, not_true_eq_false, not_false_eq_true, and_true, true_and, and_false, false_and, or_true, true_or, or_false, false_or, and_self, or_self, if_true, if_false, Bool.false_eq_true, reduceIte]; first | done | rfl | (simp_all; done)) (dk kX5_count_1_ok 10 rfl)
  rcases Classical.em (y = nI 12) with hs15 | hs15
  · skip
    refine sw_in (off := 218) (tgt := 219) 12 hx hb (dk kX5_count_0_ok 1 rfl) hs15 rfl rfl rfl (by decide) ?_
    refine lv_aload_n hx hb (dk kX5_count_1_ok 11 rfl) rfl (lv_at hl 0 rfl) ?_
    refine gf hx hb hts (fun w h => List.mem_cons_of_mem _ (acX5 w h)) hown hK hP hz0 hC rfl 0 (by decide) (hts _ (List.mem_cons_of_mem _ (ac7 _ (List.mem_of_getElem? (i := 21) rfl)))) (fun _ h => h) rfl (dk kX5_count_1_ok 12 rfl) ?_
    refine gfN hx hb hts (fun w h => List.mem_cons_of_mem _ (acX4 w h)) hown hK hP hz1 hN.1 rfl 6 (by decide) (nf8 hNW) (fun _ h => h) rfl (dk kX5_count_1_ok 13 rfl) ?_
    exact hret _ _ _ (by simp (config := { decide := true }) only [cCnt, (eq_false hs1), (eq_false hs3), (eq_false hs5), (eq_false hs6), (eq_false hs7), (eq_false hs8), (eq_false hs9), (eq_false hs10), (eq_false hs11), (eq_false hs12), (eq_false hs13), (eq_false hs14), (eq_true hs15), bI_1, bI_00, not_true_eq_false, not_false_eq_true, and_true, true_and, and_false, false_and, or_true, true_or, or_false, false_or, and_self, or_self, if_true, if_false, Bool.false_eq_true, reduceIte]; first | done | rfl | (simp_all; done)) (dk kX5_count_1_ok 14 rfl)
  rcases Classical.em (y = nI 13) with hs16 | hs16
  · skip
    refine sw_in (off := 226) (tgt := 227) 13 hx hb (dk kX5_count_0_ok 1 rfl) hs16 rfl rfl rfl (by decide) ?_
    refine lv_aload_n hx hb (dk kX5_count_1_ok 15 rfl) rfl (lv_at hl 0 rfl) ?_
    refine gf hx hb hts (fun w h => List.mem_cons_of_mem _ (acX5 w h)) hown hK hP hz0 hC rfl 2 (by decide) (hts _ (List.mem_cons_of_mem _ (ac8 _ (List.mem_of_getElem? (i := 2) rfl)))) (fun _ h => h) rfl (dk kX5_count_1_ok 16 rfl) ?_
    refine gfN hx hb hts (fun w h => List.mem_cons_of_mem _ (acX2 w h)) hown hK hP hz17 hPa.1 rfl 2 (by decide) (nf9 hNW) (fun _ h => h) rfl (dk kX5_count_1_ok 17 rfl) ?_
    exact hret _ _ _ (by simp (config := { decide := true }) only [cCnt, (eq_false hs1), (eq_false hs3), (eq_false hs5), (eq_false hs6), (eq_false hs7), (eq_false hs8), (eq_false hs9), (eq_false hs10), (eq_false hs11), (eq_false hs12), (eq_false hs13), (eq_false hs14), (eq_false hs15), (eq_true hs16), bI_1, bI_00, not_true_eq_false, not_false_eq_true, and_true, true_and, and_false, false_and, or_true, true_or, or_false, false_or, and_self, or_self, if_true, if_false, Bool.false_eq_true, reduceIte]; first | done | rfl | (simp_all; done)) (dk kX5_count_1_ok 18 rfl)
  refine lv_tableOut (tgt := 235) hx hb (dk kX5_count_0_ok 1 rfl) (sw_out 14 (by intro k9 hk9; rcases k9 with _ | _ | _ | _ | _ | _ | _ | _ | _ | _ | _ | _ | _ | _ | _ <;> first | assumption | omega)) (by decide) ?_
  exact (btw_all (m := 13) (by decide) hy9 (fun j9 hj9 e9 => by rcases (show j9 = 0 ∨ j9 = 1 ∨ j9 = 2 ∨ j9 = 3 ∨ j9 = 4 ∨ j9 = 5 ∨ j9 = 6 ∨ j9 = 7 ∨ j9 = 8 ∨ j9 = 9 ∨ j9 = 10 ∨ j9 = 11 ∨ j9 = 12 ∨ j9 = 13 by omega) with rfl | rfl | rfl | rfl | rfl | rfl | rfl | rfl | rfl | rfl | rfl | rfl | rfl | rfl <;> contradiction)).elim
set_option maxRecDepth 100000 in
set_option maxHeartbeats 4000000 in
theorem tX5_count_b1 (l : Launch) (hst : l.stackTraces = false) (D : va_G) (cI cQ cL : ClassId) (ad : Nat → Nat) (N : Nat) (F : Nat → va_E) (hk : 76 < N) (c b v g h j : Nat → Int32) (t : Nat) (u z : Int32) (hN : stAt cI ad F 1 c b v g h j (nI t) u z) (c8 b8 v8 g8 h8 j8 : Nat → Int32) (t8 : Nat) (u8 z8 : Int32) (hSn : stAt cI ad F 9 c8 b8 v8 g8 h8 j8 (nI t8) u8 z8) (n9 m9 : Nat) (hn9 : n9 < 6) (hm9 : m9 ≤ 6) (hPa : paAt cQ ad F 17 n9 m9) (a : Nat → Int32) (n : Nat) (hn60 : n ≤ 60) (hT : gtAt cI ad F 67 a n) (c6 b6 v6 : Nat → Int32) (hM6 : matAt cI ad F 69 c6 b6 v6) (a7 d7 q7 : Nat → Int32) (hO : roAt cI ad F 73 a7 d7 q7) (hs : Bool) (hC : F 0 = .inr (5, [.ref (ad 1), .ref (ad 9), .ref (ad 17), .ref (ad 67), .ref (ad 69), .ref (ad 73), .int (bI hs)])) (y : Int32) (hy9 : btw y (nI 0) (nI 13) = false) : MT l yX5_count (Cond.code yX5_count cX5_count 2 (some .int) :: AW) ({ frames := 6, cells := 1, slots := 6, locals := 82 } : Room) D cI cQ cL ad N F [.ref (ad 0), .int y] eA 1 6 := by
  refine mt_of (ret := (some .int)) hst (by decide +kernel) rfl (Nat.le_of_ble_eq_true rfl) (fun p e s m below meth cd Q ls hx hb hml hown hts hDi hP hK hNW hS hX hthr hthrW hout hl => ?_)
  have hown : s.vm.findClass RX5 = some m.cls := hown
  have hz0 : 0 < N := by omega
  have hz1 : 1 < N := by omega
  have hz1___1 : 1 + 1 < N := by omega
  have hz1___1___1 : 1 + 1 + 1 < N := by omega
  have hz1___1___2 : 1 + 1 + 2 < N := by omega
  have hz1___1___3 : 1 + 1 + 3 < N := by omega
  have hz1___5 : 1 + 5 < N := by omega
  have hz1___6 : 1 + 6 < N := by omega
  have hz1___7 : 1 + 7 < N := by omega
  have hz9 : 9 < N := by omega
  have hz17 : 17 < N := by omega
  have hz17___1 : 17 + 1 < N := by omega
  have hz67 : 67 < N := by omega
  have hz67___1 : 67 + 1 < N := by omega
  have hz69 : 69 < N := by omega
  have hz69___1 : 69 + 1 < N := by omega
  have hz69___2 : 69 + 2 < N := by omega
  have hz69___3 : 69 + 3 < N := by omega
  have hz73 : 73 < N := by omega
  have hz1___1___3 : 1 + 1 + 3 < N := by omega
  have hz69___3 : 69 + 3 < N := by omega
  have hl : lv_has ls 2 [(0, .ref (ad 0)), (1, .int y)] := hl
  refine lv_iload_n hx hb (dk kX5_count_0_ok 0 rfl) rfl (lv_at hl 1 rfl) ?_
  rcases Classical.em (y = nI 0) with hs1 | hs1
  · exact (btw_ne hy9 (j := 0) (by decide) (by decide) hs1).elim
  rcases Classical.em (y = nI 1) with hs2 | hs2
  · exact (btw_ne hy9 (j := 1) (by decide) (by decide) hs2).elim
  rcases Classical.em (y = nI 2) with hs3 | hs3
  · exact (btw_ne hy9 (j := 2) (by decide) (by decide) hs3).elim
  rcases Classical.em (y = nI 3) with hs4 | hs4
  · exact (btw_ne hy9 (j := 3) (by decide) (by decide) hs4).elim
  rcases Classical.em (y = nI 4) with hs5 | hs5
  · exact (btw_ne hy9 (j := 4) (by decide) (by decide) hs5).elim
  rcases Classical.em (y = nI 5) with hs6 | hs6
  · exact (btw_ne hy9 (j := 5) (by decide) (by decide) hs6).elim
  rcases Classical.em (y = nI 6) with hs7 | hs7
  · exact (btw_ne hy9 (j := 6) (by decide) (by decide) hs7).elim
  rcases Classical.em (y = nI 7) with hs8 | hs8
  · exact (btw_ne hy9 (j := 7) (by decide) (by decide) hs8).elim
  rcases Classical.em (y = nI 8) with hs9 | hs9
  · exact (btw_ne hy9 (j := 8) (by decide) (by decide) hs9).elim
  rcases Classical.em (y = nI 9) with hs10 | hs10
  · exact (btw_ne hy9 (j := 9) (by decide) (by decide) hs10).elim
  rcases Classical.em (y = nI 10) with hs11 | hs11
  · exact (btw_ne hy9 (j := 10) (by decide) (by decide) hs11).elim
  rcases Classical.em (y = nI 11) with hs12 | hs12
  · exact (btw_ne hy9 (j := 11) (by decide) (by decide) hs12).elim
  rcases Classical.em (y = nI 12) with hs13 | hs13
  · exact (btw_ne hy9 (j := 12) (by decide) (by decide) hs13).elim
  rcases Classical.em (y = nI 13) with hs14 | hs14
  · exact (btw_ne hy9 (j := 13) (by decide) (by decide) hs14).elim
  refine lv_tableOut (tgt := 235) hx hb (dk kX5_count_0_ok 1 rfl) (sw_out 14 (by intro k9 hk9; rcases k9 with _ | _ | _ | _ | _ | _ | _ | _ | _ | _ | _ | _ | _ | _ | _ <;> first | assumption | omega)) (by decide) ?_
  exact hthr 104 108 246 235 "what is 0 to 13" ls [] _ _ 0 0 (by decide) (by decide) hP hS hl.1 (dk kX5_count_1_ok 19 rfl) (dk kX5_count_1_ok 20 rfl) (dk kX5_count_1_ok 21 rfl) (dk kX5_count_1_ok 22 rfl) (dk kX5_count_1_ok 23 rfl) (by decide) (by decide) (by decide) (by decide) (by decide) (by decide)
set_option maxRecDepth 100000 in
set_option maxHeartbeats 4000000 in
theorem tX5_why (l : Launch) (D : va_G) (cI cQ cL : ClassId) (ad : Nat → Nat) (N : Nat) (F : Nat → va_E) (hk : 76 < N) (c b v g h j : Nat → Int32) (t : Nat) (u z : Int32) (hN : stAt cI ad F 1 c b v g h j (nI t) u z) (c8 b8 v8 g8 h8 j8 : Nat → Int32) (t8 : Nat) (u8 z8 : Int32) (hSn : stAt cI ad F 9 c8 b8 v8 g8 h8 j8 (nI t8) u8 z8) (n9 m9 : Nat) (hn9 : n9 < 6) (hm9 : m9 ≤ 6) (hPa : paAt cQ ad F 17 n9 m9) (a : Nat → Int32) (n : Nat) (hn60 : n ≤ 60) (hT : gtAt cI ad F 67 a n) (c6 b6 v6 : Nat → Int32) (hM6 : matAt cI ad F 69 c6 b6 v6) (a7 d7 q7 : Nat → Int32) (hO : roAt cI ad F 73 a7 d7 q7) (hs : Bool) (hC : F 0 = .inr (5, [.ref (ad 1), .ref (ad 9), .ref (ad 17), .ref (ad 67), .ref (ad 69), .ref (ad 73), .int (bI hs)])) (x y k9 : Int32) (f : Nat) (hkf : k9 = nI f) (hf : 1 ≤ f ∧ f ≤ 6) (d : Int32) (hd9 : btw d (nI 0) (nI 7) = true) (hon : on x y = true) : MR l yX5_why (Cond.code yX5_why cX5_why 5 (some .int) :: AW) ({ frames := 8, cells := 0, slots := 0, locals := 123 } : Room) D cI cQ cL ad N F [.ref (ad 0), .int x, .int y, .int k9, .int d] (.int (nI (wnl c b v t z x y f d))) := by
  refine mr_i (ty := .int) (by decide +kernel) rfl rfl rfl rfl (Nat.le_of_ble_eq_true rfl) (fun p e s m below meth cd Q ls hx hb hml hown hts hP hK hNW hret hl => ?_)
  have hown : s.vm.findClass RX5 = some m.cls := hown
  subst hkf
  have hz0 : 0 < N := by omega
  have hz1 : 1 < N := by omega
  have hz1___1 : 1 + 1 < N := by omega
  have hz1___1___1 : 1 + 1 + 1 < N := by omega
  have hz1___1___2 : 1 + 1 + 2 < N := by omega
  have hz1___1___3 : 1 + 1 + 3 < N := by omega
  have hz1___5 : 1 + 5 < N := by omega
  have hz1___6 : 1 + 6 < N := by omega
  have hz1___7 : 1 + 7 < N := by omega
  have hz9 : 9 < N := by omega
  have hz17 : 17 < N := by omega
  have hz17___1 : 17 + 1 < N := by omega
  have hz67 : 67 < N := by omega
  have hz67___1 : 67 + 1 < N := by omega
  have hz69 : 69 < N := by omega
  have hz69___1 : 69 + 1 < N := by omega
  have hz69___2 : 69 + 2 < N := by omega
  have hz69___3 : 69 + 3 < N := by omega
  have hz73 : 73 < N := by omega
  have hz1___1___3 : 1 + 1 + 3 < N := by omega
  have hz69___3 : 69 + 3 < N := by omega
  have hl : lv_has ls 5 [(0, .ref (ad 0)), (1, .int x), (2, .int y), (3, .int (nI f)), (4, .int d)] := hl
  refine lv_iload_n hx hb (dk kX5_why_ok 0 rfl) rfl (lv_at hl 1 rfl) ?_
  refine lv_iload_n hx hb (dk kX5_why_ok 1 rfl) rfl (lv_at hl 2 rfl) ?_
  refine csPv (As := [.int x, .int y]) (rest := []) ⟨hx, hb, hml, hown, hts⟩ (tX5_requireCell_ok l x y hon) (cwS9 2 hts mcX5_requireCell (ac10 _ (List.mem_of_getElem? (i := 0) rfl)) msX5_requireCell mini_RX5 rfl rfl hdX5_requireCell ⟨Nat.le_of_ble_eq_true rfl, Nat.le_of_ble_eq_true rfl⟩) rfl hl.1 rfl (Nat.le_of_ble_eq_true rfl) (by decide) (dk kX5_why_ok 2 rfl) ?_
  refine lv_iload_n hx hb (dk kX5_why_ok 3 rfl) rfl (lv_at hl 3 rfl) ?_
  refine lv_iload hx hb (dk kX5_why_ok 4 rfl) (lv_at hl 4 rfl) ?_
  refine csPv (As := [.int (nI f), .int d]) (rest := []) ⟨hx, hb, hml, hown, hts⟩ (tX5_requireLift_ok l (nI f) d (btw_nI hf) hd9) (cwS9 2 hts mcX5_requireLift (ac10 _ (List.mem_of_getElem? (i := 3) rfl)) msX5_requireLift mini_RX5 rfl rfl hdX5_requireLift ⟨Nat.le_of_ble_eq_true rfl, Nat.le_of_ble_eq_true rfl⟩) rfl hl.1 rfl (Nat.le_of_ble_eq_true rfl) (by decide) (dk kX5_why_ok 5 rfl) ?_
  refine lv_aload_n hx hb (dk kX5_why_ok 6 rfl) rfl (lv_at hl 0 rfl) ?_
  refine gf hx hb hts (fun w h => List.mem_cons_of_mem _ (acX5 w h)) hown hK hP hz0 hC rfl 0 (by decide) (hts _ (List.mem_cons_of_mem _ (ac7 _ (List.mem_of_getElem? (i := 21) rfl)))) (fun _ h => h) rfl (dk kX5_why_ok 7 rfl) ?_
  refine lv_iload_n hx hb (dk kX5_why_ok 8 rfl) rfl (lv_at hl 1 rfl) ?_
  refine lv_iload_n hx hb (dk kX5_why_ok 9 rfl) rfl (lv_at hl 2 rfl) ?_
  refine lv_iload_n hx hb (dk kX5_why_ok 10 rfl) rfl (lv_at hl 3 rfl) ?_
  refine lv_iload hx hb (dk kX5_why_ok 11 rfl) (lv_at hl 4 rfl) ?_
  refine cvR (As := [.int x, .int y, .int (nI f), .int d]) (rest := []) ⟨hx, hb, hml, hown, hts⟩ (tX4_whyNotLifted l D cI cQ cL ad N F 1 (by omega) c b v g h j t u z hN x y (nI f) f rfl (by omega) (by omega) d) (cwV9 4 hts mcX4_whyNotLifted (ac10 _ (List.mem_of_getElem? (i := 6) rfl)) miX4_whyNotLifted meX4_whyNotLifted mini_RX4 rfl rfl hdX4_whyNotLifted ⟨Nat.le_of_ble_eq_true rfl, Nat.le_of_ble_eq_true rfl⟩) hK hP hNW hz1 hN.1 rfl rfl hl.1 rfl (Nat.le_of_ble_eq_true rfl) (by decide) (dk kX5_why_ok 12 rfl) ?_
  exact hret _ _ _ (by rfl) (dk kX5_why_ok 13 rfl)
set_option maxRecDepth 100000 in
set_option maxHeartbeats 4000000 in
theorem tX5_why_b1 (l : Launch) (hst : l.stackTraces = false) (D : va_G) (cI cQ cL : ClassId) (ad : Nat → Nat) (N : Nat) (F : Nat → va_E) (hk : 76 < N) (c b v g h j : Nat → Int32) (t : Nat) (u z : Int32) (hN : stAt cI ad F 1 c b v g h j (nI t) u z) (c8 b8 v8 g8 h8 j8 : Nat → Int32) (t8 : Nat) (u8 z8 : Int32) (hSn : stAt cI ad F 9 c8 b8 v8 g8 h8 j8 (nI t8) u8 z8) (n9 m9 : Nat) (hn9 : n9 < 6) (hm9 : m9 ≤ 6) (hPa : paAt cQ ad F 17 n9 m9) (a : Nat → Int32) (n : Nat) (hn60 : n ≤ 60) (hT : gtAt cI ad F 67 a n) (c6 b6 v6 : Nat → Int32) (hM6 : matAt cI ad F 69 c6 b6 v6) (a7 d7 q7 : Nat → Int32) (hO : roAt cI ad F 73 a7 d7 q7) (hs : Bool) (hC : F 0 = .inr (5, [.ref (ad 1), .ref (ad 9), .ref (ad 17), .ref (ad 67), .ref (ad 69), .ref (ad 73), .int (bI hs)])) (x y k9 d : Int32) (hon : on x y = false) : MT l yX5_why (Cond.code yX5_why cX5_why 5 (some .int) :: AW) ({ frames := 7, cells := 1, slots := 6, locals := 103 } : Room) D cI cQ cL ad N F [.ref (ad 0), .int x, .int y, .int k9, .int d] eI 1 6 := by
  refine mt_of (ret := (some .int)) hst (by decide +kernel) rfl (Nat.le_of_ble_eq_true rfl) (fun p e s m below meth cd Q ls hx hb hml hown hts hDi hP hK hNW hS hX hthr hthrW hout hl => ?_)
  have hown : s.vm.findClass RX5 = some m.cls := hown
  have hz0 : 0 < N := by omega
  have hz1 : 1 < N := by omega
  have hz1___1 : 1 + 1 < N := by omega
  have hz1___1___1 : 1 + 1 + 1 < N := by omega
  have hz1___1___2 : 1 + 1 + 2 < N := by omega
  have hz1___1___3 : 1 + 1 + 3 < N := by omega
  have hz1___5 : 1 + 5 < N := by omega
  have hz1___6 : 1 + 6 < N := by omega
  have hz1___7 : 1 + 7 < N := by omega
  have hz9 : 9 < N := by omega
  have hz17 : 17 < N := by omega
  have hz17___1 : 17 + 1 < N := by omega
  have hz67 : 67 < N := by omega
  have hz67___1 : 67 + 1 < N := by omega
  have hz69 : 69 < N := by omega
  have hz69___1 : 69 + 1 < N := by omega
  have hz69___2 : 69 + 2 < N := by omega
  have hz69___3 : 69 + 3 < N := by omega
  have hz73 : 73 < N := by omega
  have hz1___1___3 : 1 + 1 + 3 < N := by omega
  have hz69___3 : 69 + 3 < N := by omega
  have hl : lv_has ls 5 [(0, .ref (ad 0)), (1, .int x), (2, .int y), (3, .int k9), (4, .int d)] := hl
  refine lv_iload_n hx hb (dk kX5_why_ok 0 rfl) rfl (lv_at hl 1 rfl) ?_
  refine lv_iload_n hx hb (dk kX5_why_ok 1 rfl) rfl (lv_at hl 2 rfl) ?_
  exact csT (As := [.int x, .int y]) (rest := []) ⟨hx, hb, hml, hown, hts⟩ (tX5_requireCell_b1 l hst D cI cQ cL ad N F x y hon) (cwS9 2 hts mcX5_requireCell (ac10 _ (List.mem_of_getElem? (i := 0) rfl)) msX5_requireCell mini_RX5 rfl rfl hdX5_requireCell ⟨Nat.le_of_ble_eq_true rfl, Nat.le_of_ble_eq_true rfl⟩) hDi hK hP hNW hS hX rfl hl.1 rfl (Nat.le_of_ble_eq_true rfl) (by decide) (dk kX5_why_ok 2 rfl) (fun H locs q ce hP hS h1 h2 h3 => hout _ _ _ H locs q ce _ _ hP hS h1 h2 h3 (by decide) (by decide))
set_option maxRecDepth 100000 in
set_option maxHeartbeats 4000000 in
theorem tX5_why_b2 (l : Launch) (hst : l.stackTraces = false) (D : va_G) (cI cQ cL : ClassId) (ad : Nat → Nat) (N : Nat) (F : Nat → va_E) (hk : 76 < N) (c b v g h j : Nat → Int32) (t : Nat) (u z : Int32) (hN : stAt cI ad F 1 c b v g h j (nI t) u z) (c8 b8 v8 g8 h8 j8 : Nat → Int32) (t8 : Nat) (u8 z8 : Int32) (hSn : stAt cI ad F 9 c8 b8 v8 g8 h8 j8 (nI t8) u8 z8) (n9 m9 : Nat) (hn9 : n9 < 6) (hm9 : m9 ≤ 6) (hPa : paAt cQ ad F 17 n9 m9) (a : Nat → Int32) (n : Nat) (hn60 : n ≤ 60) (hT : gtAt cI ad F 67 a n) (c6 b6 v6 : Nat → Int32) (hM6 : matAt cI ad F 69 c6 b6 v6) (a7 d7 q7 : Nat → Int32) (hO : roAt cI ad F 73 a7 d7 q7) (hs : Bool) (hC : F 0 = .inr (5, [.ref (ad 1), .ref (ad 9), .ref (ad 17), .ref (ad 67), .ref (ad 69), .ref (ad 73), .int (bI hs)])) (x y k9 d : Int32) (hon : on x y = true) (hl9 : btw k9 (nI 1) (nI 6) = false) : MT l yX5_why (Cond.code yX5_why cX5_why 5 (some .int) :: AW) ({ frames := 7, cells := 1, slots := 6, locals := 103 } : Room) D cI cQ cL ad N F [.ref (ad 0), .int x, .int y, .int k9, .int d] eA 1 6 := by
  refine mt_of (ret := (some .int)) hst (by decide +kernel) rfl (Nat.le_of_ble_eq_true rfl) (fun p e s m below meth cd Q ls hx hb hml hown hts hDi hP hK hNW hS hX hthr hthrW hout hl => ?_)
  have hown : s.vm.findClass RX5 = some m.cls := hown
  have hz0 : 0 < N := by omega
  have hz1 : 1 < N := by omega
  have hz1___1 : 1 + 1 < N := by omega
  have hz1___1___1 : 1 + 1 + 1 < N := by omega
  have hz1___1___2 : 1 + 1 + 2 < N := by omega
  have hz1___1___3 : 1 + 1 + 3 < N := by omega
  have hz1___5 : 1 + 5 < N := by omega
  have hz1___6 : 1 + 6 < N := by omega
  have hz1___7 : 1 + 7 < N := by omega
  have hz9 : 9 < N := by omega
  have hz17 : 17 < N := by omega
  have hz17___1 : 17 + 1 < N := by omega
  have hz67 : 67 < N := by omega
  have hz67___1 : 67 + 1 < N := by omega
  have hz69 : 69 < N := by omega
  have hz69___1 : 69 + 1 < N := by omega
  have hz69___2 : 69 + 2 < N := by omega
  have hz69___3 : 69 + 3 < N := by omega
  have hz73 : 73 < N := by omega
  have hz1___1___3 : 1 + 1 + 3 < N := by omega
  have hz69___3 : 69 + 3 < N := by omega
  have hl : lv_has ls 5 [(0, .ref (ad 0)), (1, .int x), (2, .int y), (3, .int k9), (4, .int d)] := hl
  refine lv_iload_n hx hb (dk kX5_why_ok 0 rfl) rfl (lv_at hl 1 rfl) ?_
  refine lv_iload_n hx hb (dk kX5_why_ok 1 rfl) rfl (lv_at hl 2 rfl) ?_
  refine csPv (As := [.int x, .int y]) (rest := []) ⟨hx, hb, hml, hown, hts⟩ (tX5_requireCell_ok l x y hon) (cwS9 2 hts mcX5_requireCell (ac10 _ (List.mem_of_getElem? (i := 0) rfl)) msX5_requireCell mini_RX5 rfl rfl hdX5_requireCell ⟨Nat.le_of_ble_eq_true rfl, Nat.le_of_ble_eq_true rfl⟩) rfl hl.1 rfl (Nat.le_of_ble_eq_true rfl) (by decide) (dk kX5_why_ok 2 rfl) ?_
  refine lv_iload_n hx hb (dk kX5_why_ok 3 rfl) rfl (lv_at hl 3 rfl) ?_
  refine lv_iload hx hb (dk kX5_why_ok 4 rfl) (lv_at hl 4 rfl) ?_
  exact csT (As := [.int k9, .int d]) (rest := []) ⟨hx, hb, hml, hown, hts⟩ (tX5_requireLift_b1 l hst D cI cQ cL ad N F k9 d hl9) (cwS9 2 hts mcX5_requireLift (ac10 _ (List.mem_of_getElem? (i := 3) rfl)) msX5_requireLift mini_RX5 rfl rfl hdX5_requireLift ⟨Nat.le_of_ble_eq_true rfl, Nat.le_of_ble_eq_true rfl⟩) hDi hK hP hNW hS hX rfl hl.1 rfl (Nat.le_of_ble_eq_true rfl) (by decide) (dk kX5_why_ok 5 rfl) (fun H locs q ce hP hS h1 h2 h3 => hout _ _ _ H locs q ce _ _ hP hS h1 h2 h3 (by decide) (by decide))
set_option maxRecDepth 100000 in
set_option maxHeartbeats 4000000 in
theorem tX5_why_b3 (l : Launch) (hst : l.stackTraces = false) (D : va_G) (cI cQ cL : ClassId) (ad : Nat → Nat) (N : Nat) (F : Nat → va_E) (hk : 76 < N) (c b v g h j : Nat → Int32) (t : Nat) (u z : Int32) (hN : stAt cI ad F 1 c b v g h j (nI t) u z) (c8 b8 v8 g8 h8 j8 : Nat → Int32) (t8 : Nat) (u8 z8 : Int32) (hSn : stAt cI ad F 9 c8 b8 v8 g8 h8 j8 (nI t8) u8 z8) (n9 m9 : Nat) (hn9 : n9 < 6) (hm9 : m9 ≤ 6) (hPa : paAt cQ ad F 17 n9 m9) (a : Nat → Int32) (n : Nat) (hn60 : n ≤ 60) (hT : gtAt cI ad F 67 a n) (c6 b6 v6 : Nat → Int32) (hM6 : matAt cI ad F 69 c6 b6 v6) (a7 d7 q7 : Nat → Int32) (hO : roAt cI ad F 73 a7 d7 q7) (hs : Bool) (hC : F 0 = .inr (5, [.ref (ad 1), .ref (ad 9), .ref (ad 17), .ref (ad 67), .ref (ad 69), .ref (ad 73), .int (bI hs)])) (x y k9 d : Int32) (hon : on x y = true) (hl9 : btw k9 (nI 1) (nI 6) = true) (hd9 : btw d (nI 0) (nI 7) = false) : MT l yX5_why (Cond.code yX5_why cX5_why 5 (some .int) :: AW) ({ frames := 8, cells := 1, slots := 6, locals := 123 } : Room) D cI cQ cL ad N F [.ref (ad 0), .int x, .int y, .int k9, .int d] eA 1 6 := by
  refine mt_of (ret := (some .int)) hst (by decide +kernel) rfl (Nat.le_of_ble_eq_true rfl) (fun p e s m below meth cd Q ls hx hb hml hown hts hDi hP hK hNW hS hX hthr hthrW hout hl => ?_)
  have hown : s.vm.findClass RX5 = some m.cls := hown
  have hz0 : 0 < N := by omega
  have hz1 : 1 < N := by omega
  have hz1___1 : 1 + 1 < N := by omega
  have hz1___1___1 : 1 + 1 + 1 < N := by omega
  have hz1___1___2 : 1 + 1 + 2 < N := by omega
  have hz1___1___3 : 1 + 1 + 3 < N := by omega
  have hz1___5 : 1 + 5 < N := by omega
  have hz1___6 : 1 + 6 < N := by omega
  have hz1___7 : 1 + 7 < N := by omega
  have hz9 : 9 < N := by omega
  have hz17 : 17 < N := by omega
  have hz17___1 : 17 + 1 < N := by omega
  have hz67 : 67 < N := by omega
  have hz67___1 : 67 + 1 < N := by omega
  have hz69 : 69 < N := by omega
  have hz69___1 : 69 + 1 < N := by omega
  have hz69___2 : 69 + 2 < N := by omega
  have hz69___3 : 69 + 3 < N := by omega
  have hz73 : 73 < N := by omega
  have hz1___1___3 : 1 + 1 + 3 < N := by omega
  have hz69___3 : 69 + 3 < N := by omega
  have hl : lv_has ls 5 [(0, .ref (ad 0)), (1, .int x), (2, .int y), (3, .int k9), (4, .int d)] := hl
  refine lv_iload_n hx hb (dk kX5_why_ok 0 rfl) rfl (lv_at hl 1 rfl) ?_
  refine lv_iload_n hx hb (dk kX5_why_ok 1 rfl) rfl (lv_at hl 2 rfl) ?_
  refine csPv (As := [.int x, .int y]) (rest := []) ⟨hx, hb, hml, hown, hts⟩ (tX5_requireCell_ok l x y hon) (cwS9 2 hts mcX5_requireCell (ac10 _ (List.mem_of_getElem? (i := 0) rfl)) msX5_requireCell mini_RX5 rfl rfl hdX5_requireCell ⟨Nat.le_of_ble_eq_true rfl, Nat.le_of_ble_eq_true rfl⟩) rfl hl.1 rfl (Nat.le_of_ble_eq_true rfl) (by decide) (dk kX5_why_ok 2 rfl) ?_
  refine lv_iload_n hx hb (dk kX5_why_ok 3 rfl) rfl (lv_at hl 3 rfl) ?_
  refine lv_iload hx hb (dk kX5_why_ok 4 rfl) (lv_at hl 4 rfl) ?_
  exact csT (As := [.int k9, .int d]) (rest := []) ⟨hx, hb, hml, hown, hts⟩ (tX5_requireLift_b2 l hst D cI cQ cL ad N F k9 d hl9 hd9) (cwS9 2 hts mcX5_requireLift (ac10 _ (List.mem_of_getElem? (i := 3) rfl)) msX5_requireLift mini_RX5 rfl rfl hdX5_requireLift ⟨Nat.le_of_ble_eq_true rfl, Nat.le_of_ble_eq_true rfl⟩) hDi hK hP hNW hS hX rfl hl.1 rfl (Nat.le_of_ble_eq_true rfl) (by decide) (dk kX5_why_ok 5 rfl) (fun H locs q ce hP hS h1 h2 h3 => hout _ _ _ H locs q ce _ _ hP hS h1 h2 h3 (by decide) (by decide))
set_option maxRecDepth 100000 in
set_option maxHeartbeats 4000000 in
theorem tX5_lands (l : Launch) (D : va_G) (cI cQ cL : ClassId) (ad : Nat → Nat) (N : Nat) (F : Nat → va_E) (hk : 76 < N) (c b v g h j : Nat → Int32) (t : Nat) (u z : Int32) (hN : stAt cI ad F 1 c b v g h j (nI t) u z) (c8 b8 v8 g8 h8 j8 : Nat → Int32) (t8 : Nat) (u8 z8 : Int32) (hSn : stAt cI ad F 9 c8 b8 v8 g8 h8 j8 (nI t8) u8 z8) (n9 m9 : Nat) (hn9 : n9 < 6) (hm9 : m9 ≤ 6) (hPa : paAt cQ ad F 17 n9 m9) (a : Nat → Int32) (n : Nat) (hn60 : n ≤ 60) (hT : gtAt cI ad F 67 a n) (c6 b6 v6 : Nat → Int32) (hM6 : matAt cI ad F 69 c6 b6 v6) (a7 d7 q7 : Nat → Int32) (hO : roAt cI ad F 73 a7 d7 q7) (hs : Bool) (hC : F 0 = .inr (5, [.ref (ad 1), .ref (ad 9), .ref (ad 17), .ref (ad 67), .ref (ad 69), .ref (ad 73), .int (bI hs)])) (x : Int32) (w : Nat) (hxw : x = nI w) (hw : w < 16) (d : Int32) (hd9 : btw d (nI 0) (nI 7) = true) (k9 : Int32) (f : Nat) (hkf : k9 = nI f) (hf : 1 ≤ f ∧ f ≤ 9) : MR l yX5_lands (Cond.code yX5_lands cX5_lands 4 (some .int) :: AW) ({ frames := 8, cells := 0, slots := 0, locals := 123 } : Room) D cI cQ cL ad N F [.ref (ad 0), .int x, .int d, .int k9] (.int (cLan c w d f)) := by
  refine mr_i (ty := .int) (by decide +kernel) rfl rfl rfl rfl (Nat.le_of_ble_eq_true rfl) (fun p e s m below meth cd Q ls hx hb hml hown hts hP hK hNW hret hl => ?_)
  have hown : s.vm.findClass RX5 = some m.cls := hown
  subst hxw
  subst hkf
  have hst : stp w f < 2 ^ 31 := by unfold stp; split <;> omega
  have hz0 : 0 < N := by omega
  have hz1 : 1 < N := by omega
  have hz1___1 : 1 + 1 < N := by omega
  have hz1___1___1 : 1 + 1 + 1 < N := by omega
  have hz1___1___2 : 1 + 1 + 2 < N := by omega
  have hz1___1___3 : 1 + 1 + 3 < N := by omega
  have hz1___5 : 1 + 5 < N := by omega
  have hz1___6 : 1 + 6 < N := by omega
  have hz1___7 : 1 + 7 < N := by omega
  have hz9 : 9 < N := by omega
  have hz17 : 17 < N := by omega
  have hz17___1 : 17 + 1 < N := by omega
  have hz67 : 67 < N := by omega
  have hz67___1 : 67 + 1 < N := by omega
  have hz69 : 69 < N := by omega
  have hz69___1 : 69 + 1 < N := by omega
  have hz69___2 : 69 + 2 < N := by omega
  have hz69___3 : 69 + 3 < N := by omega
  have hz73 : 73 < N := by omega
  have hz1___1___3 : 1 + 1 + 3 < N := by omega
  have hz69___3 : 69 + 3 < N := by omega
  have hl : lv_has ls 4 [(0, .ref (ad 0)), (1, .int (nI w)), (2, .int d), (3, .int (nI f))] := hl
  refine lv_iload_n hx hb (dk kX5_lands_ok 0 rfl) rfl (lv_at hl 1 rfl) ?_
  refine csPv (As := [.int (nI w)]) (rest := []) ⟨hx, hb, hml, hown, hts⟩ (tX5_requireWink_ok l (nI w) (wk_nI hw)) (cwS9 1 hts mcX5_requireWink (ac9 _ (List.mem_of_getElem? (i := 6) rfl)) msX5_requireWink mini_RX5 rfl rfl hdX5_requireWink ⟨Nat.le_of_ble_eq_true rfl, Nat.le_of_ble_eq_true rfl⟩) rfl hl.1 rfl (Nat.le_of_ble_eq_true rfl) (by decide) (dk kX5_lands_ok 1 rfl) ?_
  refine lv_iload_n hx hb (dk kX5_lands_ok 2 rfl) rfl (lv_at hl 2 rfl) ?_
  refine lv_iload_n hx hb (dk kX5_lands_ok 3 rfl) rfl (lv_at hl 3 rfl) ?_
  refine csPv (As := [.int d, .int (nI f)]) (rest := []) ⟨hx, hb, hml, hown, hts⟩ (tX5_requireFlight_ok l d (nI f) hd9 (btw_nI hf)) (cwS9 2 hts mcX5_requireFlight (ac9 _ (List.mem_of_getElem? (i := 9) rfl)) msX5_requireFlight mini_RX5 rfl rfl hdX5_requireFlight ⟨Nat.le_of_ble_eq_true rfl, Nat.le_of_ble_eq_true rfl⟩) rfl hl.1 rfl (Nat.le_of_ble_eq_true rfl) (by decide) (dk kX5_lands_ok 4 rfl) ?_
  refine lv_aload_n hx hb (dk kX5_lands_ok 5 rfl) rfl (lv_at hl 0 rfl) ?_
  refine gf hx hb hts (fun w h => List.mem_cons_of_mem _ (acX5 w h)) hown hK hP hz0 hC rfl 0 (by decide) (hts _ (List.mem_cons_of_mem _ (ac7 _ (List.mem_of_getElem? (i := 21) rfl)))) (fun _ h => h) rfl (dk kX5_lands_ok 6 rfl) ?_
  refine gfN hx hb hts (fun w h => List.mem_cons_of_mem _ (acX4 w h)) hown hK hP hz1 hN.1 rfl 0 (by decide) (nf2 hNW) (fun _ h => h) rfl (dk kX5_lands_ok 7 rfl) ?_
  refine lv_iload_n hx hb (dk kX5_lands_ok 8 rfl) rfl (lv_at hl 1 rfl) ?_
  refine cvR (As := [.int (nI w)]) (rest := []) ⟨hx, hb, hml, hown, hts⟩ (tX1_isPotted l D cI cQ cL ad N F (1 + 1) (by omega) c b v hN.2.1 (nI w) w rfl (by omega)) (cwV9 1 hts mcX1_isPotted (ac14 _ (List.mem_of_getElem? (i := 4) rfl)) miX1_isPotted meX1_isPotted mini_RX1 rfl rfl hdX1_isPotted ⟨Nat.le_of_ble_eq_true rfl, Nat.le_of_ble_eq_true rfl⟩) hK hP hNW hz1___1 hN.2.1.1 rfl rfl hl.1 rfl (Nat.le_of_ble_eq_true rfl) (by decide) (dk kX5_lands_ok 9 rfl) ?_
  refine b_if_eq (tgt := 26) hx hb (dk kX5_lands_ok 10 rfl) (by decide) (fun h1 => ?_) (fun h1 => ?_)
  · skip
    refine lv_aload_n hx hb (dk kX5_lands_ok 13 rfl) rfl (lv_at hl 0 rfl) ?_
    refine gf hx hb hts (fun w h => List.mem_cons_of_mem _ (acX5 w h)) hown hK hP hz0 hC rfl 0 (by decide) (hts _ (List.mem_cons_of_mem _ (ac7 _ (List.mem_of_getElem? (i := 21) rfl)))) (fun _ h => h) rfl (dk kX5_lands_ok 14 rfl) ?_
    refine gfN hx hb hts (fun w h => List.mem_cons_of_mem _ (acX4 w h)) hown hK hP hz1 hN.1 rfl 0 (by decide) (nf2 hNW) (fun _ h => h) rfl (dk kX5_lands_ok 15 rfl) ?_
    refine gfN hx hb hts (fun w h => List.mem_cons_of_mem _ (acX1 w h)) hown hK hP hz1___1 hN.2.1.1 rfl 0 (by decide) (nf1 hNW) (fun _ h => h) rfl (dk kX5_lands_ok 16 rfl) ?_
    refine lv_iload_n hx hb (dk kX5_lands_ok 17 rfl) rfl (lv_at hl 1 rfl) ?_
    refine ald (j := w) hx hb hK hP hz1___1___1 hN.2.1.2.1 rfl (by omega) (by decide) (dk kX5_lands_ok 18 rfl) ?_
    refine lv_iload_n hx hb (dk kX5_lands_ok 19 rfl) rfl (lv_at hl 2 rfl) ?_
    refine lv_iload_n hx hb (dk kX5_lands_ok 20 rfl) rfl (lv_at hl 1 rfl) ?_
    refine lv_iload_n hx hb (dk kX5_lands_ok 21 rfl) rfl (lv_at hl 3 rfl) ?_
    refine csP (As := [.int (nI w), .int (nI f)]) (rest := [.int d, .int (c w)]) ⟨hx, hb, hml, hown, hts⟩ (tX5_stepsOf l (nI w) w rfl (by omega) (nI f) f rfl (by omega)) (cwS9 2 hts mcX5_stepsOf (ac14 _ (List.mem_of_getElem? (i := 5) rfl)) msX5_stepsOf mini_RX5 rfl rfl hdX5_stepsOf ⟨Nat.le_of_ble_eq_true rfl, Nat.le_of_ble_eq_true rfl⟩) rfl hl.1 rfl (Nat.le_of_ble_eq_true rfl) (by decide) (dk kX5_lands_ok 22 rfl) ?_
    refine csP (As := [.int (c w), .int d, .int (nI (stp w f))]) (rest := []) ⟨hx, hb, hml, hown, hts⟩ (tX5_landing l (c w) d (nI (stp w f)) (stp w f) rfl (by omega)) (cwS9 3 hts mcX5_landing (ac14 _ (List.mem_of_getElem? (i := 6) rfl)) msX5_landing mini_RX5 rfl rfl hdX5_landing ⟨Nat.le_of_ble_eq_true rfl, Nat.le_of_ble_eq_true rfl⟩) rfl hl.1 rfl (Nat.le_of_ble_eq_true rfl) (by decide) (dk kX5_lands_ok 23 rfl) ?_
    refine csP (As := [.int (ldg (c w) d (stp w f))]) (rest := []) ⟨hx, hb, hml, hown, hts⟩ (tX5_flightAnswer l (ldg (c w) d (stp w f))) (cwS9 1 hts mcX5_flightAnswer (ac14 _ (List.mem_of_getElem? (i := 7) rfl)) msX5_flightAnswer mini_RX5 rfl rfl hdX5_flightAnswer ⟨Nat.le_of_ble_eq_true rfl, Nat.le_of_ble_eq_true rfl⟩) rfl hl.1 rfl (Nat.le_of_ble_eq_true rfl) (by decide) (dk kX5_lands_ok 24 rfl) ?_
    exact hret _ _ _ (by simp (config := { decide := true }) only [cLan, h1, not_true_eq_false, not_false_eq_true, and_true, true_and, and_false, false_and, or_true, true_or, or_false, false_or, and_self, or_self, if_true, if_false, Bool.false_eq_true, reduceIte]; first | done | rfl) (dk kX5_lands_ok 25 rfl)
  · skip
    refine lv_bipush (v := -2) hx hb (dk kX5_lands_ok 11 rfl) rfl ?_
    exact hret _ _ _ (by simp (config := { decide := true }) only [cLan, h1, not_true_eq_false, not_false_eq_true, and_true, true_and, and_false, false_and, or_true, true_or, or_false, false_or, and_self, or_self, if_true, if_false, Bool.false_eq_true, reduceIte]; first | done | rfl) (dk kX5_lands_ok 12 rfl)
set_option maxRecDepth 100000 in
set_option maxHeartbeats 4000000 in
theorem tX5_lands_b1 (l : Launch) (hst : l.stackTraces = false) (D : va_G) (cI cQ cL : ClassId) (ad : Nat → Nat) (N : Nat) (F : Nat → va_E) (hk : 76 < N) (c b v g h j : Nat → Int32) (t : Nat) (u z : Int32) (hN : stAt cI ad F 1 c b v g h j (nI t) u z) (c8 b8 v8 g8 h8 j8 : Nat → Int32) (t8 : Nat) (u8 z8 : Int32) (hSn : stAt cI ad F 9 c8 b8 v8 g8 h8 j8 (nI t8) u8 z8) (n9 m9 : Nat) (hn9 : n9 < 6) (hm9 : m9 ≤ 6) (hPa : paAt cQ ad F 17 n9 m9) (a : Nat → Int32) (n : Nat) (hn60 : n ≤ 60) (hT : gtAt cI ad F 67 a n) (c6 b6 v6 : Nat → Int32) (hM6 : matAt cI ad F 69 c6 b6 v6) (a7 d7 q7 : Nat → Int32) (hO : roAt cI ad F 73 a7 d7 q7) (hs : Bool) (hC : F 0 = .inr (5, [.ref (ad 1), .ref (ad 9), .ref (ad 17), .ref (ad 67), .ref (ad 69), .ref (ad 73), .int (bI hs)])) (x d k9 : Int32) (hwk : wk x = false) : MT l yX5_lands (Cond.code yX5_lands cX5_lands 4 (some .int) :: AW) ({ frames := 7, cells := 1, slots := 6, locals := 102 } : Room) D cI cQ cL ad N F [.ref (ad 0), .int x, .int d, .int k9] eI 1 6 := by
  refine mt_of (ret := (some .int)) hst (by decide +kernel) rfl (Nat.le_of_ble_eq_true rfl) (fun p e s m below meth cd Q ls hx hb hml hown hts hDi hP hK hNW hS hX hthr hthrW hout hl => ?_)
  have hown : s.vm.findClass RX5 = some m.cls := hown
  have hz0 : 0 < N := by omega
  have hz1 : 1 < N := by omega
  have hz1___1 : 1 + 1 < N := by omega
  have hz1___1___1 : 1 + 1 + 1 < N := by omega
  have hz1___1___2 : 1 + 1 + 2 < N := by omega
  have hz1___1___3 : 1 + 1 + 3 < N := by omega
  have hz1___5 : 1 + 5 < N := by omega
  have hz1___6 : 1 + 6 < N := by omega
  have hz1___7 : 1 + 7 < N := by omega
  have hz9 : 9 < N := by omega
  have hz17 : 17 < N := by omega
  have hz17___1 : 17 + 1 < N := by omega
  have hz67 : 67 < N := by omega
  have hz67___1 : 67 + 1 < N := by omega
  have hz69 : 69 < N := by omega
  have hz69___1 : 69 + 1 < N := by omega
  have hz69___2 : 69 + 2 < N := by omega
  have hz69___3 : 69 + 3 < N := by omega
  have hz73 : 73 < N := by omega
  have hz1___1___3 : 1 + 1 + 3 < N := by omega
  have hz69___3 : 69 + 3 < N := by omega
  have hl : lv_has ls 4 [(0, .ref (ad 0)), (1, .int x), (2, .int d), (3, .int k9)] := hl
  refine lv_iload_n hx hb (dk kX5_lands_ok 0 rfl) rfl (lv_at hl 1 rfl) ?_
  exact csT (As := [.int x]) (rest := []) ⟨hx, hb, hml, hown, hts⟩ (tX5_requireWink_b1 l hst D cI cQ cL ad N F x hwk) (cwS9 1 hts mcX5_requireWink (ac9 _ (List.mem_of_getElem? (i := 6) rfl)) msX5_requireWink mini_RX5 rfl rfl hdX5_requireWink ⟨Nat.le_of_ble_eq_true rfl, Nat.le_of_ble_eq_true rfl⟩) hDi hK hP hNW hS hX rfl hl.1 rfl (Nat.le_of_ble_eq_true rfl) (by decide) (dk kX5_lands_ok 1 rfl) (fun H locs q ce hP hS h1 h2 h3 => hout _ _ _ H locs q ce _ _ hP hS h1 h2 h3 (by decide) (by decide))
set_option maxRecDepth 100000 in
set_option maxHeartbeats 4000000 in
theorem tX5_lands_b2 (l : Launch) (hst : l.stackTraces = false) (D : va_G) (cI cQ cL : ClassId) (ad : Nat → Nat) (N : Nat) (F : Nat → va_E) (hk : 76 < N) (c b v g h j : Nat → Int32) (t : Nat) (u z : Int32) (hN : stAt cI ad F 1 c b v g h j (nI t) u z) (c8 b8 v8 g8 h8 j8 : Nat → Int32) (t8 : Nat) (u8 z8 : Int32) (hSn : stAt cI ad F 9 c8 b8 v8 g8 h8 j8 (nI t8) u8 z8) (n9 m9 : Nat) (hn9 : n9 < 6) (hm9 : m9 ≤ 6) (hPa : paAt cQ ad F 17 n9 m9) (a : Nat → Int32) (n : Nat) (hn60 : n ≤ 60) (hT : gtAt cI ad F 67 a n) (c6 b6 v6 : Nat → Int32) (hM6 : matAt cI ad F 69 c6 b6 v6) (a7 d7 q7 : Nat → Int32) (hO : roAt cI ad F 73 a7 d7 q7) (hs : Bool) (hC : F 0 = .inr (5, [.ref (ad 1), .ref (ad 9), .ref (ad 17), .ref (ad 67), .ref (ad 69), .ref (ad 73), .int (bI hs)])) (x : Int32) (w : Nat) (hxw : x = nI w) (hw : w < 16) (d k9 : Int32) (hd9 : btw d (nI 0) (nI 7) = false) : MT l yX5_lands (Cond.code yX5_lands cX5_lands 4 (some .int) :: AW) ({ frames := 8, cells := 1, slots := 6, locals := 123 } : Room) D cI cQ cL ad N F [.ref (ad 0), .int x, .int d, .int k9] eA 1 6 := by
  refine mt_of (ret := (some .int)) hst (by decide +kernel) rfl (Nat.le_of_ble_eq_true rfl) (fun p e s m below meth cd Q ls hx hb hml hown hts hDi hP hK hNW hS hX hthr hthrW hout hl => ?_)
  have hown : s.vm.findClass RX5 = some m.cls := hown
  subst hxw
  have hz0 : 0 < N := by omega
  have hz1 : 1 < N := by omega
  have hz1___1 : 1 + 1 < N := by omega
  have hz1___1___1 : 1 + 1 + 1 < N := by omega
  have hz1___1___2 : 1 + 1 + 2 < N := by omega
  have hz1___1___3 : 1 + 1 + 3 < N := by omega
  have hz1___5 : 1 + 5 < N := by omega
  have hz1___6 : 1 + 6 < N := by omega
  have hz1___7 : 1 + 7 < N := by omega
  have hz9 : 9 < N := by omega
  have hz17 : 17 < N := by omega
  have hz17___1 : 17 + 1 < N := by omega
  have hz67 : 67 < N := by omega
  have hz67___1 : 67 + 1 < N := by omega
  have hz69 : 69 < N := by omega
  have hz69___1 : 69 + 1 < N := by omega
  have hz69___2 : 69 + 2 < N := by omega
  have hz69___3 : 69 + 3 < N := by omega
  have hz73 : 73 < N := by omega
  have hz1___1___3 : 1 + 1 + 3 < N := by omega
  have hz69___3 : 69 + 3 < N := by omega
  have hl : lv_has ls 4 [(0, .ref (ad 0)), (1, .int (nI w)), (2, .int d), (3, .int k9)] := hl
  refine lv_iload_n hx hb (dk kX5_lands_ok 0 rfl) rfl (lv_at hl 1 rfl) ?_
  refine csPv (As := [.int (nI w)]) (rest := []) ⟨hx, hb, hml, hown, hts⟩ (tX5_requireWink_ok l (nI w) (wk_nI hw)) (cwS9 1 hts mcX5_requireWink (ac9 _ (List.mem_of_getElem? (i := 6) rfl)) msX5_requireWink mini_RX5 rfl rfl hdX5_requireWink ⟨Nat.le_of_ble_eq_true rfl, Nat.le_of_ble_eq_true rfl⟩) rfl hl.1 rfl (Nat.le_of_ble_eq_true rfl) (by decide) (dk kX5_lands_ok 1 rfl) ?_
  refine lv_iload_n hx hb (dk kX5_lands_ok 2 rfl) rfl (lv_at hl 2 rfl) ?_
  refine lv_iload_n hx hb (dk kX5_lands_ok 3 rfl) rfl (lv_at hl 3 rfl) ?_
  exact csT (As := [.int d, .int k9]) (rest := []) ⟨hx, hb, hml, hown, hts⟩ (tX5_requireFlight_b1 l hst D cI cQ cL ad N F d k9 hd9) (cwS9 2 hts mcX5_requireFlight (ac9 _ (List.mem_of_getElem? (i := 9) rfl)) msX5_requireFlight mini_RX5 rfl rfl hdX5_requireFlight ⟨Nat.le_of_ble_eq_true rfl, Nat.le_of_ble_eq_true rfl⟩) hDi hK hP hNW hS hX rfl hl.1 rfl (Nat.le_of_ble_eq_true rfl) (by decide) (dk kX5_lands_ok 4 rfl) (fun H locs q ce hP hS h1 h2 h3 => hout _ _ _ H locs q ce _ _ hP hS h1 h2 h3 (by decide) (by decide))
set_option maxRecDepth 100000 in
set_option maxHeartbeats 4000000 in
theorem tX5_lands_b3 (l : Launch) (hst : l.stackTraces = false) (D : va_G) (cI cQ cL : ClassId) (ad : Nat → Nat) (N : Nat) (F : Nat → va_E) (hk : 76 < N) (c b v g h j : Nat → Int32) (t : Nat) (u z : Int32) (hN : stAt cI ad F 1 c b v g h j (nI t) u z) (c8 b8 v8 g8 h8 j8 : Nat → Int32) (t8 : Nat) (u8 z8 : Int32) (hSn : stAt cI ad F 9 c8 b8 v8 g8 h8 j8 (nI t8) u8 z8) (n9 m9 : Nat) (hn9 : n9 < 6) (hm9 : m9 ≤ 6) (hPa : paAt cQ ad F 17 n9 m9) (a : Nat → Int32) (n : Nat) (hn60 : n ≤ 60) (hT : gtAt cI ad F 67 a n) (c6 b6 v6 : Nat → Int32) (hM6 : matAt cI ad F 69 c6 b6 v6) (a7 d7 q7 : Nat → Int32) (hO : roAt cI ad F 73 a7 d7 q7) (hs : Bool) (hC : F 0 = .inr (5, [.ref (ad 1), .ref (ad 9), .ref (ad 17), .ref (ad 67), .ref (ad 69), .ref (ad 73), .int (bI hs)])) (x : Int32) (w : Nat) (hxw : x = nI w) (hw : w < 16) (d k9 : Int32) (hd9 : btw d (nI 0) (nI 7) = true) (hf9 : btw k9 (nI 1) (nI 9) = false) : MT l yX5_lands (Cond.code yX5_lands cX5_lands 4 (some .int) :: AW) ({ frames := 8, cells := 1, slots := 6, locals := 123 } : Room) D cI cQ cL ad N F [.ref (ad 0), .int x, .int d, .int k9] eA 1 6 := by
  refine mt_of (ret := (some .int)) hst (by decide +kernel) rfl (Nat.le_of_ble_eq_true rfl) (fun p e s m below meth cd Q ls hx hb hml hown hts hDi hP hK hNW hS hX hthr hthrW hout hl => ?_)
  have hown : s.vm.findClass RX5 = some m.cls := hown
  subst hxw
  have hz0 : 0 < N := by omega
  have hz1 : 1 < N := by omega
  have hz1___1 : 1 + 1 < N := by omega
  have hz1___1___1 : 1 + 1 + 1 < N := by omega
  have hz1___1___2 : 1 + 1 + 2 < N := by omega
  have hz1___1___3 : 1 + 1 + 3 < N := by omega
  have hz1___5 : 1 + 5 < N := by omega
  have hz1___6 : 1 + 6 < N := by omega
  have hz1___7 : 1 + 7 < N := by omega
  have hz9 : 9 < N := by omega
  have hz17 : 17 < N := by omega
  have hz17___1 : 17 + 1 < N := by omega
  have hz67 : 67 < N := by omega
  have hz67___1 : 67 + 1 < N := by omega
  have hz69 : 69 < N := by omega
  have hz69___1 : 69 + 1 < N := by omega
  have hz69___2 : 69 + 2 < N := by omega
  have hz69___3 : 69 + 3 < N := by omega
  have hz73 : 73 < N := by omega
  have hz1___1___3 : 1 + 1 + 3 < N := by omega
  have hz69___3 : 69 + 3 < N := by omega
  have hl : lv_has ls 4 [(0, .ref (ad 0)), (1, .int (nI w)), (2, .int d), (3, .int k9)] := hl
  refine lv_iload_n hx hb (dk kX5_lands_ok 0 rfl) rfl (lv_at hl 1 rfl) ?_
  refine csPv (As := [.int (nI w)]) (rest := []) ⟨hx, hb, hml, hown, hts⟩ (tX5_requireWink_ok l (nI w) (wk_nI hw)) (cwS9 1 hts mcX5_requireWink (ac9 _ (List.mem_of_getElem? (i := 6) rfl)) msX5_requireWink mini_RX5 rfl rfl hdX5_requireWink ⟨Nat.le_of_ble_eq_true rfl, Nat.le_of_ble_eq_true rfl⟩) rfl hl.1 rfl (Nat.le_of_ble_eq_true rfl) (by decide) (dk kX5_lands_ok 1 rfl) ?_
  refine lv_iload_n hx hb (dk kX5_lands_ok 2 rfl) rfl (lv_at hl 2 rfl) ?_
  refine lv_iload_n hx hb (dk kX5_lands_ok 3 rfl) rfl (lv_at hl 3 rfl) ?_
  exact csT (As := [.int d, .int k9]) (rest := []) ⟨hx, hb, hml, hown, hts⟩ (tX5_requireFlight_b2 l hst D cI cQ cL ad N F d k9 hd9 hf9) (cwS9 2 hts mcX5_requireFlight (ac9 _ (List.mem_of_getElem? (i := 9) rfl)) msX5_requireFlight mini_RX5 rfl rfl hdX5_requireFlight ⟨Nat.le_of_ble_eq_true rfl, Nat.le_of_ble_eq_true rfl⟩) hDi hK hP hNW hS hX rfl hl.1 rfl (Nat.le_of_ble_eq_true rfl) (by decide) (dk kX5_lands_ok 4 rfl) (fun H locs q ce hP hS h1 h2 h3 => hout _ _ _ H locs q ce _ _ hP hS h1 h2 h3 (by decide) (by decide))
end
/-! from clmove -/
section
set_option maxRecDepth 100000 in
set_option maxHeartbeats 4000000 in
theorem tX5_fly (l : Launch) (D : va_G) (cI cQ cL : ClassId) (ad : Nat → Nat) (N : Nat) (F : Nat → va_E) (hk : 76 < N) (c b v g h j : Nat → Int32) (t : Nat) (u z : Int32) (hN : stAt cI ad F 1 c b v g h j (nI t) u z) (c8 b8 v8 g8 h8 j8 : Nat → Int32) (t8 : Nat) (u8 z8 : Int32) (hSn : stAt cI ad F 9 c8 b8 v8 g8 h8 j8 (nI t8) u8 z8) (n9 m9 : Nat) (hn9 : n9 < 6) (hm9 : m9 ≤ 6) (hPa : paAt cQ ad F 17 n9 m9) (a : Nat → Int32) (n : Nat) (hn60 : n ≤ 60) (hT : gtAt cI ad F 67 a n) (c6 b6 v6 : Nat → Int32) (hM6 : matAt cI ad F 69 c6 b6 v6) (a7 d7 q7 : Nat → Int32) (hO : roAt cI ad F 73 a7 d7 q7) (hs : Bool) (hC : F 0 = .inr (5, [.ref (ad 1), .ref (ad 9), .ref (ad 17), .ref (ad 67), .ref (ad 69), .ref (ad 73), .int (bI hs)])) (cr br vr gr hr9 jr : Nat → Int32) (tr : Nat) (ur zr : Int32) (hRi : stAt cI ad F (17 + 2 + 8 * n9) cr br vr gr hr9 jr (nI tr) ur zr) (ht : t < 4) (x : Int32) (w : Nat) (hxw : x = nI w) (hw : w < 16) (d : Int32) (hd9 : btw d (nI 0) (nI 7) = true) (k9 : Int32) (f : Nat) (hkf : k9 = nI f) (hf : 1 ≤ f ∧ f ≤ 9) (hwn : wnf c v t w = 0) : MX l yX5_fly (Cond.code yX5_fly cX5_fly 4 (some .int) :: AW) ({ frames := 8, cells := 0, slots := 0, locals := 123 } : Room) D cI cQ cL ad N F [.ref (ad 0), .int x, .int d, .int k9] (dp (some (.int (fans (flE c w d f)))) (sSet cI ad (paSet cQ ad (sSet cI ad F (17 + 2 + 8 * n9) c b v g h j (nI t) u z) 17 ((n9 + 1) % 6) (min (m9 + 1) 6)) 1 (mov1 c b v w (rest9 w (flE c w d f))) (mov2 c b v w (rest9 w (flE c w d f))) (mov3 c b v w (rest9 w (flE c w d f))) (upd g w (g w + nI 1)) (flH h w (flE c w d f)) ((flP (mov1 c b v w (rest9 w (flE c w d f))) t w (flE c w d f) (flH j w (flE c w d f))).1) (nI ((flP (mov1 c b v w (rest9 w (flE c w d f))) t w (flE c w d f) (flH j w (flE c w d f))).2)) u z)) 0 0 := by
  refine mx_i (ty := .int) (by decide +kernel) rfl (Nat.le_of_ble_eq_true rfl) (fun p e s m below meth cd Q ls hx hb hml hown hts hDi hP hK hNW hS hret hl => ?_)
  have hown : s.vm.findClass RX5 = some m.cls := hown
  subst hxw
  subst hkf
  have hst : stp w f < 2 ^ 31 := by unfold stp; split <;> omega
  have hz0 : 0 < N := by omega
  have hz1 : 1 < N := by omega
  have hz1___1 : 1 + 1 < N := by omega
  have hz1___1___1 : 1 + 1 + 1 < N := by omega
  have hz1___1___2 : 1 + 1 + 2 < N := by omega
  have hz1___1___3 : 1 + 1 + 3 < N := by omega
  have hz1___5 : 1 + 5 < N := by omega
  have hz1___6 : 1 + 6 < N := by omega
  have hz1___7 : 1 + 7 < N := by omega
  have hz9 : 9 < N := by omega
  have hz17 : 17 < N := by omega
  have hz17___1 : 17 + 1 < N := by omega
  have hz67 : 67 < N := by omega
  have hz67___1 : 67 + 1 < N := by omega
  have hz69 : 69 < N := by omega
  have hz69___1 : 69 + 1 < N := by omega
  have hz69___2 : 69 + 2 < N := by omega
  have hz69___3 : 69 + 3 < N := by omega
  have hz73 : 73 < N := by omega
  have hz1___1___3 : 1 + 1 + 3 < N := by omega
  have hz69___3 : 69 + 3 < N := by omega
  have hl : lv_has ls 4 [(0, .ref (ad 0)), (1, .int (nI w)), (2, .int d), (3, .int (nI f))] := hl
  refine lv_iload_n hx hb (dk kX5_fly_ok 0 rfl) rfl (lv_at hl 1 rfl) ?_
  refine csPv (As := [.int (nI w)]) (rest := []) ⟨hx, hb, hml, hown, hts⟩ (tX5_requireWink_ok l (nI w) (wk_nI hw)) (cwS9 1 hts mcX5_requireWink (ac9 _ (List.mem_of_getElem? (i := 6) rfl)) msX5_requireWink mini_RX5 rfl rfl hdX5_requireWink ⟨Nat.le_of_ble_eq_true rfl, Nat.le_of_ble_eq_true rfl⟩) rfl hl.1 rfl (Nat.le_of_ble_eq_true rfl) (by decide) (dk kX5_fly_ok 1 rfl) ?_
  refine lv_iload_n hx hb (dk kX5_fly_ok 2 rfl) rfl (lv_at hl 2 rfl) ?_
  refine lv_iload_n hx hb (dk kX5_fly_ok 3 rfl) rfl (lv_at hl 3 rfl) ?_
  refine csPv (As := [.int d, .int (nI f)]) (rest := []) ⟨hx, hb, hml, hown, hts⟩ (tX5_requireFlight_ok l d (nI f) hd9 (btw_nI hf)) (cwS9 2 hts mcX5_requireFlight (ac9 _ (List.mem_of_getElem? (i := 9) rfl)) msX5_requireFlight mini_RX5 rfl rfl hdX5_requireFlight ⟨Nat.le_of_ble_eq_true rfl, Nat.le_of_ble_eq_true rfl⟩) rfl hl.1 rfl (Nat.le_of_ble_eq_true rfl) (by decide) (dk kX5_fly_ok 4 rfl) ?_
  refine lv_aload_n hx hb (dk kX5_fly_ok 5 rfl) rfl (lv_at hl 0 rfl) ?_
  refine gf hx hb hts (fun w h => List.mem_cons_of_mem _ (acX5 w h)) hown hK hP hz0 hC rfl 0 (by decide) (hts _ (List.mem_cons_of_mem _ (ac7 _ (List.mem_of_getElem? (i := 21) rfl)))) (fun _ h => h) rfl (dk kX5_fly_ok 6 rfl) ?_
  refine lv_iload_n hx hb (dk kX5_fly_ok 7 rfl) rfl (lv_at hl 1 rfl) ?_
  refine cvR (As := [.int (nI w)]) (rest := []) ⟨hx, hb, hml, hown, hts⟩ (tX4_whyNotFlown l D cI cQ cL ad N F 1 (by omega) c b v g h j t u z hN ht (nI w) w rfl (by omega)) (cwV9 1 hts mcX4_whyNotFlown (ac9 _ (List.mem_of_getElem? (i := 12) rfl)) miX4_whyNotFlown meX4_whyNotFlown mini_RX4 rfl rfl hdX4_whyNotFlown ⟨Nat.le_of_ble_eq_true rfl, Nat.le_of_ble_eq_true rfl⟩) hK hP hNW hz1 hN.1 rfl rfl hl.1 rfl (Nat.le_of_ble_eq_true rfl) (by decide) (dk kX5_fly_ok 8 rfl) ?_
  refine n_if_eq (tgt := 30) hx hb (by first | omega | (have q1 := wnf_le c v t w; omega)) (dk kX5_fly_ok 9 rfl) (by decide) (fun h1 => ?_) (fun h1 => ?_)
  · skip
    refine lv_aload_n hx hb (dk kX5_fly_ok 15 rfl) rfl (lv_at hl 0 rfl) ?_
    refine gf hx hb hts (fun w h => List.mem_cons_of_mem _ (acX5 w h)) hown hK hP hz0 hC rfl 2 (by decide) (hts _ (List.mem_cons_of_mem _ (ac8 _ (List.mem_of_getElem? (i := 2) rfl)))) (fun _ h => h) rfl (dk kX5_fly_ok 16 rfl) ?_
    refine lv_aload_n hx hb (dk kX5_fly_ok 17 rfl) rfl (lv_at hl 0 rfl) ?_
    refine gf hx hb hts (fun w h => List.mem_cons_of_mem _ (acX5 w h)) hown hK hP hz0 hC rfl 0 (by decide) (hts _ (List.mem_cons_of_mem _ (ac7 _ (List.mem_of_getElem? (i := 21) rfl)))) (fun _ h => h) rfl (dk kX5_fly_ok 18 rfl) ?_
    refine cvDv (As := [.ref (ad 1)]) (rest := []) (paSet cQ ad (sSet cI ad F (17 + 2 + 8 * n9) c b v g h j (nI t) u z) 17 ((n9 + 1) % 6) (min (m9 + 1) 6)) ⟨hx, hb, hml, hown, hts⟩ (tX2_save l D cI cQ cL ad N F 17 n9 m9 hn9 hm9 (by omega) hPa cr br vr gr hr9 jr tr ur zr hRi (by omega) 1 (by omega) c b v g h j t u z hN (by omega)) (cwV9 1 hts mcX2_save (ac9 _ (List.mem_of_getElem? (i := 16) rfl)) miX2_save meX2_save mini_RX2 rfl rfl hdX2_save ⟨Nat.le_of_ble_eq_true rfl, Nat.le_of_ble_eq_true rfl⟩) hDi hK hP hNW hS hz17 hPa.1 rfl rfl hl.1 rfl (Nat.le_of_ble_eq_true rfl) (by decide) (dk kX5_fly_ok 19 rfl) rfl (fun H locs hP hS => ?_)
    refine lv_aload_n hx hb (dk kX5_fly_ok 20 rfl) rfl (lv_at hl 0 rfl) ?_
    refine gf hx hb hts (fun w h => List.mem_cons_of_mem _ (acX5 w h)) hown hK hP hz0 ((paSet_out (by omega)).trans ((sSet_out (by omega)).trans hC)) rfl 0 (by decide) (hts _ (List.mem_cons_of_mem _ (ac7 _ (List.mem_of_getElem? (i := 21) rfl)))) (fun _ h => h) rfl (dk kX5_fly_ok 21 rfl) ?_
    refine lv_iload_n hx hb (dk kX5_fly_ok 22 rfl) rfl (lv_at hl 1 rfl) ?_
    refine lv_iload_n hx hb (dk kX5_fly_ok 23 rfl) rfl (lv_at hl 2 rfl) ?_
    refine lv_iload_n hx hb (dk kX5_fly_ok 24 rfl) rfl (lv_at hl 3 rfl) ?_
    refine cvD (As := [.int (nI w), .int d, .int (nI f)]) (rest := []) (sSet cI ad (paSet cQ ad (sSet cI ad F (17 + 2 + 8 * n9) c b v g h j (nI t) u z) 17 ((n9 + 1) % 6) (min (m9 + 1) 6)) 1 (mov1 c b v w (rest9 w (flE c w d f))) (mov2 c b v w (rest9 w (flE c w d f))) (mov3 c b v w (rest9 w (flE c w d f))) (upd g w (g w + nI 1)) (flH h w (flE c w d f)) ((flP (mov1 c b v w (rest9 w (flE c w d f))) t w (flE c w d f) (flH j w (flE c w d f))).1) (nI ((flP (mov1 c b v w (rest9 w (flE c w d f))) t w (flE c w d f) (flH j w (flE c w d f))).2)) u z) ⟨hx, hb, hml, hown, hts⟩ (tX4_carryOutFlight l D cI cQ cL ad N (paSet cQ ad (sSet cI ad F (17 + 2 + 8 * n9) c b v g h j (nI t) u z) 17 ((n9 + 1) % 6) (min (m9 + 1) 6)) 1 (by omega) c b v g h j t u z (stAt_keep (stAt_keep hN (fun i _ _ => sSet_out (by omega))) (fun i _ _ => paSet_out (by omega))) ht (nI w) w rfl (by omega) d (nI f) f rfl (by omega)) (cwV9 3 hts mcX4_carryOutFlight (ac9 _ (List.mem_of_getElem? (i := 20) rfl)) miX4_carryOutFlight meX4_carryOutFlight mini_RX4 rfl rfl hdX4_carryOutFlight ⟨Nat.le_of_ble_eq_true rfl, Nat.le_of_ble_eq_true rfl⟩) hDi hK hP hNW hS hz1 (stAt_keep (stAt_keep hN (fun i _ _ => sSet_out (by omega))) (fun i _ _ => paSet_out (by omega))).1 rfl rfl hl.1 rfl (Nat.le_of_ble_eq_true rfl) (by decide) (dk kX5_fly_ok 25 rfl) rfl (fun H locs hP hS => ?_)
    exact hret _ _ _ _ _ _ _ _ rfl (by exact ⟨rfl, rfl⟩) hP hS (by decide) (by decide) (dk kX5_fly_ok 26 rfl)
  · exact absurd hwn h1
set_option maxRecDepth 100000 in
set_option maxHeartbeats 4000000 in
theorem tX5_flyX_b1 (l : Launch) (hst : l.stackTraces = false) (D : va_G) (cI cQ cL : ClassId) (ad : Nat → Nat) (N : Nat) (F : Nat → va_E) (hk : 76 < N) (c b v g h j : Nat → Int32) (t : Nat) (u z : Int32) (hN : stAt cI ad F 1 c b v g h j (nI t) u z) (c8 b8 v8 g8 h8 j8 : Nat → Int32) (t8 : Nat) (u8 z8 : Int32) (hSn : stAt cI ad F 9 c8 b8 v8 g8 h8 j8 (nI t8) u8 z8) (n9 m9 : Nat) (hn9 : n9 < 6) (hm9 : m9 ≤ 6) (hPa : paAt cQ ad F 17 n9 m9) (a : Nat → Int32) (n : Nat) (hn60 : n ≤ 60) (hT : gtAt cI ad F 67 a n) (c6 b6 v6 : Nat → Int32) (hM6 : matAt cI ad F 69 c6 b6 v6) (a7 d7 q7 : Nat → Int32) (hO : roAt cI ad F 73 a7 d7 q7) (hs : Bool) (hC : F 0 = .inr (5, [.ref (ad 1), .ref (ad 9), .ref (ad 17), .ref (ad 67), .ref (ad 69), .ref (ad 73), .int (bI hs)])) (x d k9 : Int32) (hwk : wk x = false) : MT l yX5_fly (Cond.code yX5_fly cX5_fly 4 (some .int) :: AW) ({ frames := 7, cells := 1, slots := 6, locals := 102 } : Room) D cI cQ cL ad N F [.ref (ad 0), .int x, .int d, .int k9] eI 1 6 := by
  refine mt_of (ret := (some .int)) hst (by decide +kernel) rfl (Nat.le_of_ble_eq_true rfl) (fun p e s m below meth cd Q ls hx hb hml hown hts hDi hP hK hNW hS hX hthr hthrW hout hl => ?_)
  have hown : s.vm.findClass RX5 = some m.cls := hown
  have hz0 : 0 < N := by omega
  have hz1 : 1 < N := by omega
  have hz1___1 : 1 + 1 < N := by omega
  have hz1___1___1 : 1 + 1 + 1 < N := by omega
  have hz1___1___2 : 1 + 1 + 2 < N := by omega
  have hz1___1___3 : 1 + 1 + 3 < N := by omega
  have hz1___5 : 1 + 5 < N := by omega
  have hz1___6 : 1 + 6 < N := by omega
  have hz1___7 : 1 + 7 < N := by omega
  have hz9 : 9 < N := by omega
  have hz17 : 17 < N := by omega
  have hz17___1 : 17 + 1 < N := by omega
  have hz67 : 67 < N := by omega
  have hz67___1 : 67 + 1 < N := by omega
  have hz69 : 69 < N := by omega
  have hz69___1 : 69 + 1 < N := by omega
  have hz69___2 : 69 + 2 < N := by omega
  have hz69___3 : 69 + 3 < N := by omega
  have hz73 : 73 < N := by omega
  have hz1___1___3 : 1 + 1 + 3 < N := by omega
  have hz69___3 : 69 + 3 < N := by omega
  have hl : lv_has ls 4 [(0, .ref (ad 0)), (1, .int x), (2, .int d), (3, .int k9)] := hl
  refine lv_iload_n hx hb (dk kX5_fly_ok 0 rfl) rfl (lv_at hl 1 rfl) ?_
  exact csT (As := [.int x]) (rest := []) ⟨hx, hb, hml, hown, hts⟩ (tX5_requireWink_b1 l hst D cI cQ cL ad N F x hwk) (cwS9 1 hts mcX5_requireWink (ac9 _ (List.mem_of_getElem? (i := 6) rfl)) msX5_requireWink mini_RX5 rfl rfl hdX5_requireWink ⟨Nat.le_of_ble_eq_true rfl, Nat.le_of_ble_eq_true rfl⟩) hDi hK hP hNW hS hX rfl hl.1 rfl (Nat.le_of_ble_eq_true rfl) (by decide) (dk kX5_fly_ok 1 rfl) (fun H locs q ce hP hS h1 h2 h3 => hout _ _ _ H locs q ce _ _ hP hS h1 h2 h3 (by decide) (by decide))
set_option maxRecDepth 100000 in
set_option maxHeartbeats 4000000 in
theorem tX5_flyX_b2 (l : Launch) (hst : l.stackTraces = false) (D : va_G) (cI cQ cL : ClassId) (ad : Nat → Nat) (N : Nat) (F : Nat → va_E) (hk : 76 < N) (c b v g h j : Nat → Int32) (t : Nat) (u z : Int32) (hN : stAt cI ad F 1 c b v g h j (nI t) u z) (c8 b8 v8 g8 h8 j8 : Nat → Int32) (t8 : Nat) (u8 z8 : Int32) (hSn : stAt cI ad F 9 c8 b8 v8 g8 h8 j8 (nI t8) u8 z8) (n9 m9 : Nat) (hn9 : n9 < 6) (hm9 : m9 ≤ 6) (hPa : paAt cQ ad F 17 n9 m9) (a : Nat → Int32) (n : Nat) (hn60 : n ≤ 60) (hT : gtAt cI ad F 67 a n) (c6 b6 v6 : Nat → Int32) (hM6 : matAt cI ad F 69 c6 b6 v6) (a7 d7 q7 : Nat → Int32) (hO : roAt cI ad F 73 a7 d7 q7) (hs : Bool) (hC : F 0 = .inr (5, [.ref (ad 1), .ref (ad 9), .ref (ad 17), .ref (ad 67), .ref (ad 69), .ref (ad 73), .int (bI hs)])) (x : Int32) (w : Nat) (hxw : x = nI w) (hw : w < 16) (d k9 : Int32) (hd9 : btw d (nI 0) (nI 7) = false) : MT l yX5_fly (Cond.code yX5_fly cX5_fly 4 (some .int) :: AW) ({ frames := 8, cells := 1, slots := 6, locals := 123 } : Room) D cI cQ cL ad N F [.ref (ad 0), .int x, .int d, .int k9] eA 1 6 := by
  refine mt_of (ret := (some .int)) hst (by decide +kernel) rfl (Nat.le_of_ble_eq_true rfl) (fun p e s m below meth cd Q ls hx hb hml hown hts hDi hP hK hNW hS hX hthr hthrW hout hl => ?_)
  have hown : s.vm.findClass RX5 = some m.cls := hown
  subst hxw
  have hz0 : 0 < N := by omega
  have hz1 : 1 < N := by omega
  have hz1___1 : 1 + 1 < N := by omega
  have hz1___1___1 : 1 + 1 + 1 < N := by omega
  have hz1___1___2 : 1 + 1 + 2 < N := by omega
  have hz1___1___3 : 1 + 1 + 3 < N := by omega
  have hz1___5 : 1 + 5 < N := by omega
  have hz1___6 : 1 + 6 < N := by omega
  have hz1___7 : 1 + 7 < N := by omega
  have hz9 : 9 < N := by omega
  have hz17 : 17 < N := by omega
  have hz17___1 : 17 + 1 < N := by omega
  have hz67 : 67 < N := by omega
  have hz67___1 : 67 + 1 < N := by omega
  have hz69 : 69 < N := by omega
  have hz69___1 : 69 + 1 < N := by omega
  have hz69___2 : 69 + 2 < N := by omega
  have hz69___3 : 69 + 3 < N := by omega
  have hz73 : 73 < N := by omega
  have hz1___1___3 : 1 + 1 + 3 < N := by omega
  have hz69___3 : 69 + 3 < N := by omega
  have hl : lv_has ls 4 [(0, .ref (ad 0)), (1, .int (nI w)), (2, .int d), (3, .int k9)] := hl
  refine lv_iload_n hx hb (dk kX5_fly_ok 0 rfl) rfl (lv_at hl 1 rfl) ?_
  refine csPv (As := [.int (nI w)]) (rest := []) ⟨hx, hb, hml, hown, hts⟩ (tX5_requireWink_ok l (nI w) (wk_nI hw)) (cwS9 1 hts mcX5_requireWink (ac9 _ (List.mem_of_getElem? (i := 6) rfl)) msX5_requireWink mini_RX5 rfl rfl hdX5_requireWink ⟨Nat.le_of_ble_eq_true rfl, Nat.le_of_ble_eq_true rfl⟩) rfl hl.1 rfl (Nat.le_of_ble_eq_true rfl) (by decide) (dk kX5_fly_ok 1 rfl) ?_
  refine lv_iload_n hx hb (dk kX5_fly_ok 2 rfl) rfl (lv_at hl 2 rfl) ?_
  refine lv_iload_n hx hb (dk kX5_fly_ok 3 rfl) rfl (lv_at hl 3 rfl) ?_
  exact csT (As := [.int d, .int k9]) (rest := []) ⟨hx, hb, hml, hown, hts⟩ (tX5_requireFlight_b1 l hst D cI cQ cL ad N F d k9 hd9) (cwS9 2 hts mcX5_requireFlight (ac9 _ (List.mem_of_getElem? (i := 9) rfl)) msX5_requireFlight mini_RX5 rfl rfl hdX5_requireFlight ⟨Nat.le_of_ble_eq_true rfl, Nat.le_of_ble_eq_true rfl⟩) hDi hK hP hNW hS hX rfl hl.1 rfl (Nat.le_of_ble_eq_true rfl) (by decide) (dk kX5_fly_ok 4 rfl) (fun H locs q ce hP hS h1 h2 h3 => hout _ _ _ H locs q ce _ _ hP hS h1 h2 h3 (by decide) (by decide))
set_option maxRecDepth 100000 in
set_option maxHeartbeats 4000000 in
theorem tX5_flyX_b3 (l : Launch) (hst : l.stackTraces = false) (D : va_G) (cI cQ cL : ClassId) (ad : Nat → Nat) (N : Nat) (F : Nat → va_E) (hk : 76 < N) (c b v g h j : Nat → Int32) (t : Nat) (u z : Int32) (hN : stAt cI ad F 1 c b v g h j (nI t) u z) (c8 b8 v8 g8 h8 j8 : Nat → Int32) (t8 : Nat) (u8 z8 : Int32) (hSn : stAt cI ad F 9 c8 b8 v8 g8 h8 j8 (nI t8) u8 z8) (n9 m9 : Nat) (hn9 : n9 < 6) (hm9 : m9 ≤ 6) (hPa : paAt cQ ad F 17 n9 m9) (a : Nat → Int32) (n : Nat) (hn60 : n ≤ 60) (hT : gtAt cI ad F 67 a n) (c6 b6 v6 : Nat → Int32) (hM6 : matAt cI ad F 69 c6 b6 v6) (a7 d7 q7 : Nat → Int32) (hO : roAt cI ad F 73 a7 d7 q7) (hs : Bool) (hC : F 0 = .inr (5, [.ref (ad 1), .ref (ad 9), .ref (ad 17), .ref (ad 67), .ref (ad 69), .ref (ad 73), .int (bI hs)])) (x : Int32) (w : Nat) (hxw : x = nI w) (hw : w < 16) (d k9 : Int32) (hd9 : btw d (nI 0) (nI 7) = true) (hf9 : btw k9 (nI 1) (nI 9) = false) : MT l yX5_fly (Cond.code yX5_fly cX5_fly 4 (some .int) :: AW) ({ frames := 8, cells := 1, slots := 6, locals := 123 } : Room) D cI cQ cL ad N F [.ref (ad 0), .int x, .int d, .int k9] eA 1 6 := by
  refine mt_of (ret := (some .int)) hst (by decide +kernel) rfl (Nat.le_of_ble_eq_true rfl) (fun p e s m below meth cd Q ls hx hb hml hown hts hDi hP hK hNW hS hX hthr hthrW hout hl => ?_)
  have hown : s.vm.findClass RX5 = some m.cls := hown
  subst hxw
  have hz0 : 0 < N := by omega
  have hz1 : 1 < N := by omega
  have hz1___1 : 1 + 1 < N := by omega
  have hz1___1___1 : 1 + 1 + 1 < N := by omega
  have hz1___1___2 : 1 + 1 + 2 < N := by omega
  have hz1___1___3 : 1 + 1 + 3 < N := by omega
  have hz1___5 : 1 + 5 < N := by omega
  have hz1___6 : 1 + 6 < N := by omega
  have hz1___7 : 1 + 7 < N := by omega
  have hz9 : 9 < N := by omega
  have hz17 : 17 < N := by omega
  have hz17___1 : 17 + 1 < N := by omega
  have hz67 : 67 < N := by omega
  have hz67___1 : 67 + 1 < N := by omega
  have hz69 : 69 < N := by omega
  have hz69___1 : 69 + 1 < N := by omega
  have hz69___2 : 69 + 2 < N := by omega
  have hz69___3 : 69 + 3 < N := by omega
  have hz73 : 73 < N := by omega
  have hz1___1___3 : 1 + 1 + 3 < N := by omega
  have hz69___3 : 69 + 3 < N := by omega
  have hl : lv_has ls 4 [(0, .ref (ad 0)), (1, .int (nI w)), (2, .int d), (3, .int k9)] := hl
  refine lv_iload_n hx hb (dk kX5_fly_ok 0 rfl) rfl (lv_at hl 1 rfl) ?_
  refine csPv (As := [.int (nI w)]) (rest := []) ⟨hx, hb, hml, hown, hts⟩ (tX5_requireWink_ok l (nI w) (wk_nI hw)) (cwS9 1 hts mcX5_requireWink (ac9 _ (List.mem_of_getElem? (i := 6) rfl)) msX5_requireWink mini_RX5 rfl rfl hdX5_requireWink ⟨Nat.le_of_ble_eq_true rfl, Nat.le_of_ble_eq_true rfl⟩) rfl hl.1 rfl (Nat.le_of_ble_eq_true rfl) (by decide) (dk kX5_fly_ok 1 rfl) ?_
  refine lv_iload_n hx hb (dk kX5_fly_ok 2 rfl) rfl (lv_at hl 2 rfl) ?_
  refine lv_iload_n hx hb (dk kX5_fly_ok 3 rfl) rfl (lv_at hl 3 rfl) ?_
  exact csT (As := [.int d, .int k9]) (rest := []) ⟨hx, hb, hml, hown, hts⟩ (tX5_requireFlight_b2 l hst D cI cQ cL ad N F d k9 hd9 hf9) (cwS9 2 hts mcX5_requireFlight (ac9 _ (List.mem_of_getElem? (i := 9) rfl)) msX5_requireFlight mini_RX5 rfl rfl hdX5_requireFlight ⟨Nat.le_of_ble_eq_true rfl, Nat.le_of_ble_eq_true rfl⟩) hDi hK hP hNW hS hX rfl hl.1 rfl (Nat.le_of_ble_eq_true rfl) (by decide) (dk kX5_fly_ok 4 rfl) (fun H locs q ce hP hS h1 h2 h3 => hout _ _ _ H locs q ce _ _ hP hS h1 h2 h3 (by decide) (by decide))
set_option maxRecDepth 100000 in
set_option maxHeartbeats 4000000 in
theorem tX5_flyX_b4 (l : Launch) (hst : l.stackTraces = false) (D : va_G) (cI cQ cL : ClassId) (ad : Nat → Nat) (N : Nat) (F : Nat → va_E) (hk : 76 < N) (c b v g h j : Nat → Int32) (t : Nat) (u z : Int32) (hN : stAt cI ad F 1 c b v g h j (nI t) u z) (c8 b8 v8 g8 h8 j8 : Nat → Int32) (t8 : Nat) (u8 z8 : Int32) (hSn : stAt cI ad F 9 c8 b8 v8 g8 h8 j8 (nI t8) u8 z8) (n9 m9 : Nat) (hn9 : n9 < 6) (hm9 : m9 ≤ 6) (hPa : paAt cQ ad F 17 n9 m9) (a : Nat → Int32) (n : Nat) (hn60 : n ≤ 60) (hT : gtAt cI ad F 67 a n) (c6 b6 v6 : Nat → Int32) (hM6 : matAt cI ad F 69 c6 b6 v6) (a7 d7 q7 : Nat → Int32) (hO : roAt cI ad F 73 a7 d7 q7) (hs : Bool) (hC : F 0 = .inr (5, [.ref (ad 1), .ref (ad 9), .ref (ad 17), .ref (ad 67), .ref (ad 69), .ref (ad 73), .int (bI hs)])) (ht : t < 4) (x : Int32) (w : Nat) (hxw : x = nI w) (hw : w < 16) (d : Int32) (hd9 : btw d (nI 0) (nI 7) = true) (k9 : Int32) (f : Nat) (hkf : k9 = nI f) (hf : 1 ≤ f ∧ f ≤ 9) (hwn : wnf c v t w ≠ 0) : MT l yX5_fly (Cond.code yX5_fly cX5_fly 4 (some .int) :: AW) ({ frames := 8, cells := 1, slots := 6, locals := 123 } : Room) D cI cQ cL ad N F [.ref (ad 0), .int x, .int d, .int k9] eS 1 6 := by
  refine mt_of (ret := (some .int)) hst (by decide +kernel) rfl (Nat.le_of_ble_eq_true rfl) (fun p e s m below meth cd Q ls hx hb hml hown hts hDi hP hK hNW hS hX hthr hthrW hout hl => ?_)
  have hown : s.vm.findClass RX5 = some m.cls := hown
  subst hxw
  subst hkf
  have hz0 : 0 < N := by omega
  have hz1 : 1 < N := by omega
  have hz1___1 : 1 + 1 < N := by omega
  have hz1___1___1 : 1 + 1 + 1 < N := by omega
  have hz1___1___2 : 1 + 1 + 2 < N := by omega
  have hz1___1___3 : 1 + 1 + 3 < N := by omega
  have hz1___5 : 1 + 5 < N := by omega
  have hz1___6 : 1 + 6 < N := by omega
  have hz1___7 : 1 + 7 < N := by omega
  have hz9 : 9 < N := by omega
  have hz17 : 17 < N := by omega
  have hz17___1 : 17 + 1 < N := by omega
  have hz67 : 67 < N := by omega
  have hz67___1 : 67 + 1 < N := by omega
  have hz69 : 69 < N := by omega
  have hz69___1 : 69 + 1 < N := by omega
  have hz69___2 : 69 + 2 < N := by omega
  have hz69___3 : 69 + 3 < N := by omega
  have hz73 : 73 < N := by omega
  have hz1___1___3 : 1 + 1 + 3 < N := by omega
  have hz69___3 : 69 + 3 < N := by omega
  have hl : lv_has ls 4 [(0, .ref (ad 0)), (1, .int (nI w)), (2, .int d), (3, .int (nI f))] := hl
  refine lv_iload_n hx hb (dk kX5_fly_ok 0 rfl) rfl (lv_at hl 1 rfl) ?_
  refine csPv (As := [.int (nI w)]) (rest := []) ⟨hx, hb, hml, hown, hts⟩ (tX5_requireWink_ok l (nI w) (wk_nI hw)) (cwS9 1 hts mcX5_requireWink (ac9 _ (List.mem_of_getElem? (i := 6) rfl)) msX5_requireWink mini_RX5 rfl rfl hdX5_requireWink ⟨Nat.le_of_ble_eq_true rfl, Nat.le_of_ble_eq_true rfl⟩) rfl hl.1 rfl (Nat.le_of_ble_eq_true rfl) (by decide) (dk kX5_fly_ok 1 rfl) ?_
  refine lv_iload_n hx hb (dk kX5_fly_ok 2 rfl) rfl (lv_at hl 2 rfl) ?_
  refine lv_iload_n hx hb (dk kX5_fly_ok 3 rfl) rfl (lv_at hl 3 rfl) ?_
  refine csPv (As := [.int d, .int (nI f)]) (rest := []) ⟨hx, hb, hml, hown, hts⟩ (tX5_requireFlight_ok l d (nI f) hd9 (btw_nI hf)) (cwS9 2 hts mcX5_requireFlight (ac9 _ (List.mem_of_getElem? (i := 9) rfl)) msX5_requireFlight mini_RX5 rfl rfl hdX5_requireFlight ⟨Nat.le_of_ble_eq_true rfl, Nat.le_of_ble_eq_true rfl⟩) rfl hl.1 rfl (Nat.le_of_ble_eq_true rfl) (by decide) (dk kX5_fly_ok 4 rfl) ?_
  refine lv_aload_n hx hb (dk kX5_fly_ok 5 rfl) rfl (lv_at hl 0 rfl) ?_
  refine gf hx hb hts (fun w h => List.mem_cons_of_mem _ (acX5 w h)) hown hK hP hz0 hC rfl 0 (by decide) (hts _ (List.mem_cons_of_mem _ (ac7 _ (List.mem_of_getElem? (i := 21) rfl)))) (fun _ h => h) rfl (dk kX5_fly_ok 6 rfl) ?_
  refine lv_iload_n hx hb (dk kX5_fly_ok 7 rfl) rfl (lv_at hl 1 rfl) ?_
  refine cvR (As := [.int (nI w)]) (rest := []) ⟨hx, hb, hml, hown, hts⟩ (tX4_whyNotFlown l D cI cQ cL ad N F 1 (by omega) c b v g h j t u z hN ht (nI w) w rfl (by omega)) (cwV9 1 hts mcX4_whyNotFlown (ac9 _ (List.mem_of_getElem? (i := 12) rfl)) miX4_whyNotFlown meX4_whyNotFlown mini_RX4 rfl rfl hdX4_whyNotFlown ⟨Nat.le_of_ble_eq_true rfl, Nat.le_of_ble_eq_true rfl⟩) hK hP hNW hz1 hN.1 rfl rfl hl.1 rfl (Nat.le_of_ble_eq_true rfl) (by decide) (dk kX5_fly_ok 8 rfl) ?_
  refine n_if_eq (tgt := 30) hx hb (by first | omega | (have q1 := wnf_le c v t w; omega)) (dk kX5_fly_ok 9 rfl) (by decide) (fun h1 => ?_) (fun h1 => ?_)
  · exact absurd h1 hwn
  · skip
    exact hthr 63 67 65 20 "the wink can not fly" ls [] _ _ 0 0 (by decide) (by decide) hP hS hl.1 (dk kX5_fly_ok 10 rfl) (dk kX5_fly_ok 11 rfl) (dk kX5_fly_ok 12 rfl) (dk kX5_fly_ok 13 rfl) (dk kX5_fly_ok 14 rfl) (by decide) (by decide) (by decide) (by decide) (by decide) (by decide)
set_option maxRecDepth 100000 in
set_option maxHeartbeats 4000000 in
theorem tX5_lift (l : Launch) (D : va_G) (cI cQ cL : ClassId) (ad : Nat → Nat) (N : Nat) (F : Nat → va_E) (hk : 76 < N) (c b v g h j : Nat → Int32) (t : Nat) (u z : Int32) (hN : stAt cI ad F 1 c b v g h j (nI t) u z) (c8 b8 v8 g8 h8 j8 : Nat → Int32) (t8 : Nat) (u8 z8 : Int32) (hSn : stAt cI ad F 9 c8 b8 v8 g8 h8 j8 (nI t8) u8 z8) (n9 m9 : Nat) (hn9 : n9 < 6) (hm9 : m9 ≤ 6) (hPa : paAt cQ ad F 17 n9 m9) (a : Nat → Int32) (n : Nat) (hn60 : n ≤ 60) (hT : gtAt cI ad F 67 a n) (c6 b6 v6 : Nat → Int32) (hM6 : matAt cI ad F 69 c6 b6 v6) (a7 d7 q7 : Nat → Int32) (hO : roAt cI ad F 73 a7 d7 q7) (hs : Bool) (hC : F 0 = .inr (5, [.ref (ad 1), .ref (ad 9), .ref (ad 17), .ref (ad 67), .ref (ad 69), .ref (ad 73), .int (bI hs)])) (cr br vr gr hr9 jr : Nat → Int32) (tr : Nat) (ur zr : Int32) (hRi : stAt cI ad F (17 + 2 + 8 * n9) cr br vr gr hr9 jr (nI tr) ur zr) (ht : t < 4) (x y k9 : Int32) (f : Nat) (hkf : k9 = nI f) (hf : 1 ≤ f ∧ f ≤ 6) (d : Int32) (hd9 : btw d (nI 0) (nI 7) = true) (hon : on x y = true) (hwn : wnl c b v t z x y f d = 0) : MX l yX5_lift (Cond.code yX5_lift cX5_lift 5 (some .int) :: AW) ({ frames := 8, cells := 0, slots := 0, locals := 123 } : Room) D cI cQ cL ad N F [.ref (ad 0), .int x, .int y, .int k9, .int d] (dp (some (.int (nI (hgt (liC c b v x y f d) (cat x y))))) (sSet cI ad (paSet cQ ad (sSet cI ad F (17 + 2 + 8 * n9) c b v g h j (nI t) u z) 17 ((n9 + 1) % 6) (min (m9 + 1) 6)) 1 (liC c b v x y f d) (liB c b v x y f d) (liV c b v x y f d) g h ((pasg (liC c b v x y f d) t 8 j t).1) (nI ((pasg (liC c b v x y f d) t 8 j t).2)) (u + nI 1) z)) 0 0 := by
  refine mx_i (ty := .int) (by decide +kernel) rfl (Nat.le_of_ble_eq_true rfl) (fun p e s m below meth cd Q ls hx hb hml hown hts hDi hP hK hNW hS hret hl => ?_)
  have hown : s.vm.findClass RX5 = some m.cls := hown
  subst hkf
  have hz0 : 0 < N := by omega
  have hz1 : 1 < N := by omega
  have hz1___1 : 1 + 1 < N := by omega
  have hz1___1___1 : 1 + 1 + 1 < N := by omega
  have hz1___1___2 : 1 + 1 + 2 < N := by omega
  have hz1___1___3 : 1 + 1 + 3 < N := by omega
  have hz1___5 : 1 + 5 < N := by omega
  have hz1___6 : 1 + 6 < N := by omega
  have hz1___7 : 1 + 7 < N := by omega
  have hz9 : 9 < N := by omega
  have hz17 : 17 < N := by omega
  have hz17___1 : 17 + 1 < N := by omega
  have hz67 : 67 < N := by omega
  have hz67___1 : 67 + 1 < N := by omega
  have hz69 : 69 < N := by omega
  have hz69___1 : 69 + 1 < N := by omega
  have hz69___2 : 69 + 2 < N := by omega
  have hz69___3 : 69 + 3 < N := by omega
  have hz73 : 73 < N := by omega
  have hz1___1___3 : 1 + 1 + 3 < N := by omega
  have hz69___3 : 69 + 3 < N := by omega
  have hl : lv_has ls 5 [(0, .ref (ad 0)), (1, .int x), (2, .int y), (3, .int (nI f)), (4, .int d)] := hl
  refine lv_iload_n hx hb (dk kX5_lift_ok 0 rfl) rfl (lv_at hl 1 rfl) ?_
  refine lv_iload_n hx hb (dk kX5_lift_ok 1 rfl) rfl (lv_at hl 2 rfl) ?_
  refine csPv (As := [.int x, .int y]) (rest := []) ⟨hx, hb, hml, hown, hts⟩ (tX5_requireCell_ok l x y hon) (cwS9 2 hts mcX5_requireCell (ac10 _ (List.mem_of_getElem? (i := 0) rfl)) msX5_requireCell mini_RX5 rfl rfl hdX5_requireCell ⟨Nat.le_of_ble_eq_true rfl, Nat.le_of_ble_eq_true rfl⟩) rfl hl.1 rfl (Nat.le_of_ble_eq_true rfl) (by decide) (dk kX5_lift_ok 2 rfl) ?_
  refine lv_iload_n hx hb (dk kX5_lift_ok 3 rfl) rfl (lv_at hl 3 rfl) ?_
  refine lv_iload hx hb (dk kX5_lift_ok 4 rfl) (lv_at hl 4 rfl) ?_
  refine csPv (As := [.int (nI f), .int d]) (rest := []) ⟨hx, hb, hml, hown, hts⟩ (tX5_requireLift_ok l (nI f) d (btw_nI hf) hd9) (cwS9 2 hts mcX5_requireLift (ac10 _ (List.mem_of_getElem? (i := 3) rfl)) msX5_requireLift mini_RX5 rfl rfl hdX5_requireLift ⟨Nat.le_of_ble_eq_true rfl, Nat.le_of_ble_eq_true rfl⟩) rfl hl.1 rfl (Nat.le_of_ble_eq_true rfl) (by decide) (dk kX5_lift_ok 5 rfl) ?_
  refine lv_aload_n hx hb (dk kX5_lift_ok 6 rfl) rfl (lv_at hl 0 rfl) ?_
  refine gf hx hb hts (fun w h => List.mem_cons_of_mem _ (acX5 w h)) hown hK hP hz0 hC rfl 0 (by decide) (hts _ (List.mem_cons_of_mem _ (ac7 _ (List.mem_of_getElem? (i := 21) rfl)))) (fun _ h => h) rfl (dk kX5_lift_ok 7 rfl) ?_
  refine lv_iload_n hx hb (dk kX5_lift_ok 8 rfl) rfl (lv_at hl 1 rfl) ?_
  refine lv_iload_n hx hb (dk kX5_lift_ok 9 rfl) rfl (lv_at hl 2 rfl) ?_
  refine lv_iload_n hx hb (dk kX5_lift_ok 10 rfl) rfl (lv_at hl 3 rfl) ?_
  refine lv_iload hx hb (dk kX5_lift_ok 11 rfl) (lv_at hl 4 rfl) ?_
  refine cvR (As := [.int x, .int y, .int (nI f), .int d]) (rest := []) ⟨hx, hb, hml, hown, hts⟩ (tX4_whyNotLifted l D cI cQ cL ad N F 1 (by omega) c b v g h j t u z hN x y (nI f) f rfl (by omega) (by omega) d) (cwV9 4 hts mcX4_whyNotLifted (ac10 _ (List.mem_of_getElem? (i := 6) rfl)) miX4_whyNotLifted meX4_whyNotLifted mini_RX4 rfl rfl hdX4_whyNotLifted ⟨Nat.le_of_ble_eq_true rfl, Nat.le_of_ble_eq_true rfl⟩) hK hP hNW hz1 hN.1 rfl rfl hl.1 rfl (Nat.le_of_ble_eq_true rfl) (by decide) (dk kX5_lift_ok 12 rfl) ?_
  refine n_if_eq (tgt := 36) hx hb (by first | omega | (have q1 := wnl_le c b v t z x y f d; omega)) (dk kX5_lift_ok 13 rfl) (by decide) (fun h1 => ?_) (fun h1 => ?_)
  · skip
    refine lv_aload_n hx hb (dk kX5_lift_ok 19 rfl) rfl (lv_at hl 0 rfl) ?_
    refine gf hx hb hts (fun w h => List.mem_cons_of_mem _ (acX5 w h)) hown hK hP hz0 hC rfl 2 (by decide) (hts _ (List.mem_cons_of_mem _ (ac8 _ (List.mem_of_getElem? (i := 2) rfl)))) (fun _ h => h) rfl (dk kX5_lift_ok 20 rfl) ?_
    refine lv_aload_n hx hb (dk kX5_lift_ok 21 rfl) rfl (lv_at hl 0 rfl) ?_
    refine gf hx hb hts (fun w h => List.mem_cons_of_mem _ (acX5 w h)) hown hK hP hz0 hC rfl 0 (by decide) (hts _ (List.mem_cons_of_mem _ (ac7 _ (List.mem_of_getElem? (i := 21) rfl)))) (fun _ h => h) rfl (dk kX5_lift_ok 22 rfl) ?_
    refine cvDv (As := [.ref (ad 1)]) (rest := []) (paSet cQ ad (sSet cI ad F (17 + 2 + 8 * n9) c b v g h j (nI t) u z) 17 ((n9 + 1) % 6) (min (m9 + 1) 6)) ⟨hx, hb, hml, hown, hts⟩ (tX2_save l D cI cQ cL ad N F 17 n9 m9 hn9 hm9 (by omega) hPa cr br vr gr hr9 jr tr ur zr hRi (by omega) 1 (by omega) c b v g h j t u z hN (by omega)) (cwV9 1 hts mcX2_save (ac9 _ (List.mem_of_getElem? (i := 16) rfl)) miX2_save meX2_save mini_RX2 rfl rfl hdX2_save ⟨Nat.le_of_ble_eq_true rfl, Nat.le_of_ble_eq_true rfl⟩) hDi hK hP hNW hS hz17 hPa.1 rfl rfl hl.1 rfl (Nat.le_of_ble_eq_true rfl) (by decide) (dk kX5_lift_ok 23 rfl) rfl (fun H locs hP hS => ?_)
    refine lv_aload_n hx hb (dk kX5_lift_ok 24 rfl) rfl (lv_at hl 0 rfl) ?_
    refine gf hx hb hts (fun w h => List.mem_cons_of_mem _ (acX5 w h)) hown hK hP hz0 ((paSet_out (by omega)).trans ((sSet_out (by omega)).trans hC)) rfl 0 (by decide) (hts _ (List.mem_cons_of_mem _ (ac7 _ (List.mem_of_getElem? (i := 21) rfl)))) (fun _ h => h) rfl (dk kX5_lift_ok 25 rfl) ?_
    refine lv_iload_n hx hb (dk kX5_lift_ok 26 rfl) rfl (lv_at hl 1 rfl) ?_
    refine lv_iload_n hx hb (dk kX5_lift_ok 27 rfl) rfl (lv_at hl 2 rfl) ?_
    refine lv_iload_n hx hb (dk kX5_lift_ok 28 rfl) rfl (lv_at hl 3 rfl) ?_
    refine lv_iload hx hb (dk kX5_lift_ok 29 rfl) (lv_at hl 4 rfl) ?_
    refine cvDv (As := [.int x, .int y, .int (nI f), .int d]) (rest := []) (sSet cI ad (paSet cQ ad (sSet cI ad F (17 + 2 + 8 * n9) c b v g h j (nI t) u z) 17 ((n9 + 1) % 6) (min (m9 + 1) 6)) 1 (liC c b v x y f d) (liB c b v x y f d) (liV c b v x y f d) g h ((pasg (liC c b v x y f d) t 8 j t).1) (nI ((pasg (liC c b v x y f d) t 8 j t).2)) (u + nI 1) z) ⟨hx, hb, hml, hown, hts⟩ (tX4_carryOutLift l D cI cQ cL ad N (paSet cQ ad (sSet cI ad F (17 + 2 + 8 * n9) c b v g h j (nI t) u z) 17 ((n9 + 1) % 6) (min (m9 + 1) 6)) 1 (by omega) c b v g h j t u z (stAt_keep (stAt_keep hN (fun i _ _ => sSet_out (by omega))) (fun i _ _ => paSet_out (by omega))) ht x y (nI f) f rfl (by omega) (by omega) d) (cwV9 4 hts mcX4_carryOutLift (ac10 _ (List.mem_of_getElem? (i := 10) rfl)) miX4_carryOutLift meX4_carryOutLift mini_RX4 rfl rfl hdX4_carryOutLift ⟨Nat.le_of_ble_eq_true rfl, Nat.le_of_ble_eq_true rfl⟩) hDi hK hP hNW hS hz1 (stAt_keep (stAt_keep hN (fun i _ _ => sSet_out (by omega))) (fun i _ _ => paSet_out (by omega))).1 rfl rfl hl.1 rfl (Nat.le_of_ble_eq_true rfl) (by decide) (dk kX5_lift_ok 30 rfl) rfl (fun H locs hP hS => ?_)
    refine lv_aload_n hx hb (dk kX5_lift_ok 31 rfl) rfl (lv_at hl 0 rfl) ?_
    refine gf hx hb hts (fun w h => List.mem_cons_of_mem _ (acX5 w h)) hown hK hP hz0 ((sSet_out (by omega)).trans ((paSet_out (by omega)).trans ((sSet_out (by omega)).trans hC))) rfl 0 (by decide) (hts _ (List.mem_cons_of_mem _ (ac7 _ (List.mem_of_getElem? (i := 21) rfl)))) (fun _ h => h) rfl (dk kX5_lift_ok 32 rfl) ?_
    refine gfN hx hb hts (fun w h => List.mem_cons_of_mem _ (acX4 w h)) hown hK hP hz1 (sSet_at (stAt_keep (stAt_keep hN (fun i _ _ => sSet_out (by omega))) (fun i _ _ => paSet_out (by omega)))).1 rfl 0 (by decide) (nf2 hNW) (fun _ h => h) rfl (dk kX5_lift_ok 33 rfl) ?_
    refine lv_iload_n hx hb (dk kX5_lift_ok 34 rfl) rfl (lv_at hl 1 rfl) ?_
    refine lv_iload_n hx hb (dk kX5_lift_ok 35 rfl) rfl (lv_at hl 2 rfl) ?_
    refine csP (As := [.int x, .int y]) (rest := [.ref (ad (1 + 1))]) ⟨hx, hb, hml, hown, hts⟩ (tX5_cellAt l x y) (cwS9 2 hts mcX5_cellAt (ac0 _ (List.mem_of_getElem? (i := 17) rfl)) msX5_cellAt mini_RX5 rfl rfl hdX5_cellAt ⟨Nat.le_of_ble_eq_true rfl, Nat.le_of_ble_eq_true rfl⟩) rfl hl.1 rfl (Nat.le_of_ble_eq_true rfl) (by decide) (dk kX5_lift_ok 36 rfl) ?_
    refine cvR (As := [.int (cat x y)]) (rest := []) ⟨hx, hb, hml, hown, hts⟩ (tX1_heightAt l D cI cQ cL ad N (sSet cI ad (paSet cQ ad (sSet cI ad F (17 + 2 + 8 * n9) c b v g h j (nI t) u z) 17 ((n9 + 1) % 6) (min (m9 + 1) 6)) 1 (liC c b v x y f d) (liB c b v x y f d) (liV c b v x y f d) g h ((pasg (liC c b v x y f d) t 8 j t).1) (nI ((pasg (liC c b v x y f d) t 8 j t).2)) (u + nI 1) z) (1 + 1) (by omega) (liC c b v x y f d) (liB c b v x y f d) (liV c b v x y f d) (sSet_at (stAt_keep (stAt_keep hN (fun i _ _ => sSet_out (by omega))) (fun i _ _ => paSet_out (by omega)))).2.1 (cat x y)) (cwV9 1 hts mcX1_heightAt (ac10 _ (List.mem_of_getElem? (i := 14) rfl)) miX1_heightAt meX1_heightAt mini_RX1 rfl rfl hdX1_heightAt ⟨Nat.le_of_ble_eq_true rfl, Nat.le_of_ble_eq_true rfl⟩) hK hP hNW hz1___1 (sSet_at (stAt_keep (stAt_keep hN (fun i _ _ => sSet_out (by omega))) (fun i _ _ => paSet_out (by omega)))).2.1.1 rfl rfl hl.1 rfl (Nat.le_of_ble_eq_true rfl) (by decide) (dk kX5_lift_ok 37 rfl) ?_
    exact hret _ _ _ _ _ _ _ _ rfl (by exact ⟨rfl, rfl⟩) hP hS (by decide) (by decide) (dk kX5_lift_ok 38 rfl)
  · exact absurd hwn h1
set_option maxRecDepth 100000 in
set_option maxHeartbeats 4000000 in
theorem tX5_liftX_b1 (l : Launch) (hst : l.stackTraces = false) (D : va_G) (cI cQ cL : ClassId) (ad : Nat → Nat) (N : Nat) (F : Nat → va_E) (hk : 76 < N) (c b v g h j : Nat → Int32) (t : Nat) (u z : Int32) (hN : stAt cI ad F 1 c b v g h j (nI t) u z) (c8 b8 v8 g8 h8 j8 : Nat → Int32) (t8 : Nat) (u8 z8 : Int32) (hSn : stAt cI ad F 9 c8 b8 v8 g8 h8 j8 (nI t8) u8 z8) (n9 m9 : Nat) (hn9 : n9 < 6) (hm9 : m9 ≤ 6) (hPa : paAt cQ ad F 17 n9 m9) (a : Nat → Int32) (n : Nat) (hn60 : n ≤ 60) (hT : gtAt cI ad F 67 a n) (c6 b6 v6 : Nat → Int32) (hM6 : matAt cI ad F 69 c6 b6 v6) (a7 d7 q7 : Nat → Int32) (hO : roAt cI ad F 73 a7 d7 q7) (hs : Bool) (hC : F 0 = .inr (5, [.ref (ad 1), .ref (ad 9), .ref (ad 17), .ref (ad 67), .ref (ad 69), .ref (ad 73), .int (bI hs)])) (x y k9 d : Int32) (hon : on x y = false) : MT l yX5_lift (Cond.code yX5_lift cX5_lift 5 (some .int) :: AW) ({ frames := 7, cells := 1, slots := 6, locals := 103 } : Room) D cI cQ cL ad N F [.ref (ad 0), .int x, .int y, .int k9, .int d] eI 1 6 := by
  refine mt_of (ret := (some .int)) hst (by decide +kernel) rfl (Nat.le_of_ble_eq_true rfl) (fun p e s m below meth cd Q ls hx hb hml hown hts hDi hP hK hNW hS hX hthr hthrW hout hl => ?_)
  have hown : s.vm.findClass RX5 = some m.cls := hown
  have hz0 : 0 < N := by omega
  have hz1 : 1 < N := by omega
  have hz1___1 : 1 + 1 < N := by omega
  have hz1___1___1 : 1 + 1 + 1 < N := by omega
  have hz1___1___2 : 1 + 1 + 2 < N := by omega
  have hz1___1___3 : 1 + 1 + 3 < N := by omega
  have hz1___5 : 1 + 5 < N := by omega
  have hz1___6 : 1 + 6 < N := by omega
  have hz1___7 : 1 + 7 < N := by omega
  have hz9 : 9 < N := by omega
  have hz17 : 17 < N := by omega
  have hz17___1 : 17 + 1 < N := by omega
  have hz67 : 67 < N := by omega
  have hz67___1 : 67 + 1 < N := by omega
  have hz69 : 69 < N := by omega
  have hz69___1 : 69 + 1 < N := by omega
  have hz69___2 : 69 + 2 < N := by omega
  have hz69___3 : 69 + 3 < N := by omega
  have hz73 : 73 < N := by omega
  have hz1___1___3 : 1 + 1 + 3 < N := by omega
  have hz69___3 : 69 + 3 < N := by omega
  have hl : lv_has ls 5 [(0, .ref (ad 0)), (1, .int x), (2, .int y), (3, .int k9), (4, .int d)] := hl
  refine lv_iload_n hx hb (dk kX5_lift_ok 0 rfl) rfl (lv_at hl 1 rfl) ?_
  refine lv_iload_n hx hb (dk kX5_lift_ok 1 rfl) rfl (lv_at hl 2 rfl) ?_
  exact csT (As := [.int x, .int y]) (rest := []) ⟨hx, hb, hml, hown, hts⟩ (tX5_requireCell_b1 l hst D cI cQ cL ad N F x y hon) (cwS9 2 hts mcX5_requireCell (ac10 _ (List.mem_of_getElem? (i := 0) rfl)) msX5_requireCell mini_RX5 rfl rfl hdX5_requireCell ⟨Nat.le_of_ble_eq_true rfl, Nat.le_of_ble_eq_true rfl⟩) hDi hK hP hNW hS hX rfl hl.1 rfl (Nat.le_of_ble_eq_true rfl) (by decide) (dk kX5_lift_ok 2 rfl) (fun H locs q ce hP hS h1 h2 h3 => hout _ _ _ H locs q ce _ _ hP hS h1 h2 h3 (by decide) (by decide))
set_option maxRecDepth 100000 in
set_option maxHeartbeats 4000000 in
theorem tX5_liftX_b2 (l : Launch) (hst : l.stackTraces = false) (D : va_G) (cI cQ cL : ClassId) (ad : Nat → Nat) (N : Nat) (F : Nat → va_E) (hk : 76 < N) (c b v g h j : Nat → Int32) (t : Nat) (u z : Int32) (hN : stAt cI ad F 1 c b v g h j (nI t) u z) (c8 b8 v8 g8 h8 j8 : Nat → Int32) (t8 : Nat) (u8 z8 : Int32) (hSn : stAt cI ad F 9 c8 b8 v8 g8 h8 j8 (nI t8) u8 z8) (n9 m9 : Nat) (hn9 : n9 < 6) (hm9 : m9 ≤ 6) (hPa : paAt cQ ad F 17 n9 m9) (a : Nat → Int32) (n : Nat) (hn60 : n ≤ 60) (hT : gtAt cI ad F 67 a n) (c6 b6 v6 : Nat → Int32) (hM6 : matAt cI ad F 69 c6 b6 v6) (a7 d7 q7 : Nat → Int32) (hO : roAt cI ad F 73 a7 d7 q7) (hs : Bool) (hC : F 0 = .inr (5, [.ref (ad 1), .ref (ad 9), .ref (ad 17), .ref (ad 67), .ref (ad 69), .ref (ad 73), .int (bI hs)])) (x y k9 d : Int32) (hon : on x y = true) (hl9 : btw k9 (nI 1) (nI 6) = false) : MT l yX5_lift (Cond.code yX5_lift cX5_lift 5 (some .int) :: AW) ({ frames := 7, cells := 1, slots := 6, locals := 103 } : Room) D cI cQ cL ad N F [.ref (ad 0), .int x, .int y, .int k9, .int d] eA 1 6 := by
  refine mt_of (ret := (some .int)) hst (by decide +kernel) rfl (Nat.le_of_ble_eq_true rfl) (fun p e s m below meth cd Q ls hx hb hml hown hts hDi hP hK hNW hS hX hthr hthrW hout hl => ?_)
  have hown : s.vm.findClass RX5 = some m.cls := hown
  have hz0 : 0 < N := by omega
  have hz1 : 1 < N := by omega
  have hz1___1 : 1 + 1 < N := by omega
  have hz1___1___1 : 1 + 1 + 1 < N := by omega
  have hz1___1___2 : 1 + 1 + 2 < N := by omega
  have hz1___1___3 : 1 + 1 + 3 < N := by omega
  have hz1___5 : 1 + 5 < N := by omega
  have hz1___6 : 1 + 6 < N := by omega
  have hz1___7 : 1 + 7 < N := by omega
  have hz9 : 9 < N := by omega
  have hz17 : 17 < N := by omega
  have hz17___1 : 17 + 1 < N := by omega
  have hz67 : 67 < N := by omega
  have hz67___1 : 67 + 1 < N := by omega
  have hz69 : 69 < N := by omega
  have hz69___1 : 69 + 1 < N := by omega
  have hz69___2 : 69 + 2 < N := by omega
  have hz69___3 : 69 + 3 < N := by omega
  have hz73 : 73 < N := by omega
  have hz1___1___3 : 1 + 1 + 3 < N := by omega
  have hz69___3 : 69 + 3 < N := by omega
  have hl : lv_has ls 5 [(0, .ref (ad 0)), (1, .int x), (2, .int y), (3, .int k9), (4, .int d)] := hl
  refine lv_iload_n hx hb (dk kX5_lift_ok 0 rfl) rfl (lv_at hl 1 rfl) ?_
  refine lv_iload_n hx hb (dk kX5_lift_ok 1 rfl) rfl (lv_at hl 2 rfl) ?_
  refine csPv (As := [.int x, .int y]) (rest := []) ⟨hx, hb, hml, hown, hts⟩ (tX5_requireCell_ok l x y hon) (cwS9 2 hts mcX5_requireCell (ac10 _ (List.mem_of_getElem? (i := 0) rfl)) msX5_requireCell mini_RX5 rfl rfl hdX5_requireCell ⟨Nat.le_of_ble_eq_true rfl, Nat.le_of_ble_eq_true rfl⟩) rfl hl.1 rfl (Nat.le_of_ble_eq_true rfl) (by decide) (dk kX5_lift_ok 2 rfl) ?_
  refine lv_iload_n hx hb (dk kX5_lift_ok 3 rfl) rfl (lv_at hl 3 rfl) ?_
  refine lv_iload hx hb (dk kX5_lift_ok 4 rfl) (lv_at hl 4 rfl) ?_
  exact csT (As := [.int k9, .int d]) (rest := []) ⟨hx, hb, hml, hown, hts⟩ (tX5_requireLift_b1 l hst D cI cQ cL ad N F k9 d hl9) (cwS9 2 hts mcX5_requireLift (ac10 _ (List.mem_of_getElem? (i := 3) rfl)) msX5_requireLift mini_RX5 rfl rfl hdX5_requireLift ⟨Nat.le_of_ble_eq_true rfl, Nat.le_of_ble_eq_true rfl⟩) hDi hK hP hNW hS hX rfl hl.1 rfl (Nat.le_of_ble_eq_true rfl) (by decide) (dk kX5_lift_ok 5 rfl) (fun H locs q ce hP hS h1 h2 h3 => hout _ _ _ H locs q ce _ _ hP hS h1 h2 h3 (by decide) (by decide))
set_option maxRecDepth 100000 in
set_option maxHeartbeats 4000000 in
theorem tX5_liftX_b3 (l : Launch) (hst : l.stackTraces = false) (D : va_G) (cI cQ cL : ClassId) (ad : Nat → Nat) (N : Nat) (F : Nat → va_E) (hk : 76 < N) (c b v g h j : Nat → Int32) (t : Nat) (u z : Int32) (hN : stAt cI ad F 1 c b v g h j (nI t) u z) (c8 b8 v8 g8 h8 j8 : Nat → Int32) (t8 : Nat) (u8 z8 : Int32) (hSn : stAt cI ad F 9 c8 b8 v8 g8 h8 j8 (nI t8) u8 z8) (n9 m9 : Nat) (hn9 : n9 < 6) (hm9 : m9 ≤ 6) (hPa : paAt cQ ad F 17 n9 m9) (a : Nat → Int32) (n : Nat) (hn60 : n ≤ 60) (hT : gtAt cI ad F 67 a n) (c6 b6 v6 : Nat → Int32) (hM6 : matAt cI ad F 69 c6 b6 v6) (a7 d7 q7 : Nat → Int32) (hO : roAt cI ad F 73 a7 d7 q7) (hs : Bool) (hC : F 0 = .inr (5, [.ref (ad 1), .ref (ad 9), .ref (ad 17), .ref (ad 67), .ref (ad 69), .ref (ad 73), .int (bI hs)])) (x y k9 d : Int32) (hon : on x y = true) (hl9 : btw k9 (nI 1) (nI 6) = true) (hd9 : btw d (nI 0) (nI 7) = false) : MT l yX5_lift (Cond.code yX5_lift cX5_lift 5 (some .int) :: AW) ({ frames := 8, cells := 1, slots := 6, locals := 123 } : Room) D cI cQ cL ad N F [.ref (ad 0), .int x, .int y, .int k9, .int d] eA 1 6 := by
  refine mt_of (ret := (some .int)) hst (by decide +kernel) rfl (Nat.le_of_ble_eq_true rfl) (fun p e s m below meth cd Q ls hx hb hml hown hts hDi hP hK hNW hS hX hthr hthrW hout hl => ?_)
  have hown : s.vm.findClass RX5 = some m.cls := hown
  have hz0 : 0 < N := by omega
  have hz1 : 1 < N := by omega
  have hz1___1 : 1 + 1 < N := by omega
  have hz1___1___1 : 1 + 1 + 1 < N := by omega
  have hz1___1___2 : 1 + 1 + 2 < N := by omega
  have hz1___1___3 : 1 + 1 + 3 < N := by omega
  have hz1___5 : 1 + 5 < N := by omega
  have hz1___6 : 1 + 6 < N := by omega
  have hz1___7 : 1 + 7 < N := by omega
  have hz9 : 9 < N := by omega
  have hz17 : 17 < N := by omega
  have hz17___1 : 17 + 1 < N := by omega
  have hz67 : 67 < N := by omega
  have hz67___1 : 67 + 1 < N := by omega
  have hz69 : 69 < N := by omega
  have hz69___1 : 69 + 1 < N := by omega
  have hz69___2 : 69 + 2 < N := by omega
  have hz69___3 : 69 + 3 < N := by omega
  have hz73 : 73 < N := by omega
  have hz1___1___3 : 1 + 1 + 3 < N := by omega
  have hz69___3 : 69 + 3 < N := by omega
  have hl : lv_has ls 5 [(0, .ref (ad 0)), (1, .int x), (2, .int y), (3, .int k9), (4, .int d)] := hl
  refine lv_iload_n hx hb (dk kX5_lift_ok 0 rfl) rfl (lv_at hl 1 rfl) ?_
  refine lv_iload_n hx hb (dk kX5_lift_ok 1 rfl) rfl (lv_at hl 2 rfl) ?_
  refine csPv (As := [.int x, .int y]) (rest := []) ⟨hx, hb, hml, hown, hts⟩ (tX5_requireCell_ok l x y hon) (cwS9 2 hts mcX5_requireCell (ac10 _ (List.mem_of_getElem? (i := 0) rfl)) msX5_requireCell mini_RX5 rfl rfl hdX5_requireCell ⟨Nat.le_of_ble_eq_true rfl, Nat.le_of_ble_eq_true rfl⟩) rfl hl.1 rfl (Nat.le_of_ble_eq_true rfl) (by decide) (dk kX5_lift_ok 2 rfl) ?_
  refine lv_iload_n hx hb (dk kX5_lift_ok 3 rfl) rfl (lv_at hl 3 rfl) ?_
  refine lv_iload hx hb (dk kX5_lift_ok 4 rfl) (lv_at hl 4 rfl) ?_
  exact csT (As := [.int k9, .int d]) (rest := []) ⟨hx, hb, hml, hown, hts⟩ (tX5_requireLift_b2 l hst D cI cQ cL ad N F k9 d hl9 hd9) (cwS9 2 hts mcX5_requireLift (ac10 _ (List.mem_of_getElem? (i := 3) rfl)) msX5_requireLift mini_RX5 rfl rfl hdX5_requireLift ⟨Nat.le_of_ble_eq_true rfl, Nat.le_of_ble_eq_true rfl⟩) hDi hK hP hNW hS hX rfl hl.1 rfl (Nat.le_of_ble_eq_true rfl) (by decide) (dk kX5_lift_ok 5 rfl) (fun H locs q ce hP hS h1 h2 h3 => hout _ _ _ H locs q ce _ _ hP hS h1 h2 h3 (by decide) (by decide))
set_option maxRecDepth 100000 in
set_option maxHeartbeats 4000000 in
theorem tX5_liftX_b4 (l : Launch) (hst : l.stackTraces = false) (D : va_G) (cI cQ cL : ClassId) (ad : Nat → Nat) (N : Nat) (F : Nat → va_E) (hk : 76 < N) (c b v g h j : Nat → Int32) (t : Nat) (u z : Int32) (hN : stAt cI ad F 1 c b v g h j (nI t) u z) (c8 b8 v8 g8 h8 j8 : Nat → Int32) (t8 : Nat) (u8 z8 : Int32) (hSn : stAt cI ad F 9 c8 b8 v8 g8 h8 j8 (nI t8) u8 z8) (n9 m9 : Nat) (hn9 : n9 < 6) (hm9 : m9 ≤ 6) (hPa : paAt cQ ad F 17 n9 m9) (a : Nat → Int32) (n : Nat) (hn60 : n ≤ 60) (hT : gtAt cI ad F 67 a n) (c6 b6 v6 : Nat → Int32) (hM6 : matAt cI ad F 69 c6 b6 v6) (a7 d7 q7 : Nat → Int32) (hO : roAt cI ad F 73 a7 d7 q7) (hs : Bool) (hC : F 0 = .inr (5, [.ref (ad 1), .ref (ad 9), .ref (ad 17), .ref (ad 67), .ref (ad 69), .ref (ad 73), .int (bI hs)])) (x y k9 : Int32) (f : Nat) (hkf : k9 = nI f) (hf : 1 ≤ f ∧ f ≤ 6) (d : Int32) (hd9 : btw d (nI 0) (nI 7) = true) (hon : on x y = true) (hwn : wnl c b v t z x y f d ≠ 0) : MT l yX5_lift (Cond.code yX5_lift cX5_lift 5 (some .int) :: AW) ({ frames := 8, cells := 1, slots := 6, locals := 123 } : Room) D cI cQ cL ad N F [.ref (ad 0), .int x, .int y, .int k9, .int d] eS 1 6 := by
  refine mt_of (ret := (some .int)) hst (by decide +kernel) rfl (Nat.le_of_ble_eq_true rfl) (fun p e s m below meth cd Q ls hx hb hml hown hts hDi hP hK hNW hS hX hthr hthrW hout hl => ?_)
  have hown : s.vm.findClass RX5 = some m.cls := hown
  subst hkf
  have hz0 : 0 < N := by omega
  have hz1 : 1 < N := by omega
  have hz1___1 : 1 + 1 < N := by omega
  have hz1___1___1 : 1 + 1 + 1 < N := by omega
  have hz1___1___2 : 1 + 1 + 2 < N := by omega
  have hz1___1___3 : 1 + 1 + 3 < N := by omega
  have hz1___5 : 1 + 5 < N := by omega
  have hz1___6 : 1 + 6 < N := by omega
  have hz1___7 : 1 + 7 < N := by omega
  have hz9 : 9 < N := by omega
  have hz17 : 17 < N := by omega
  have hz17___1 : 17 + 1 < N := by omega
  have hz67 : 67 < N := by omega
  have hz67___1 : 67 + 1 < N := by omega
  have hz69 : 69 < N := by omega
  have hz69___1 : 69 + 1 < N := by omega
  have hz69___2 : 69 + 2 < N := by omega
  have hz69___3 : 69 + 3 < N := by omega
  have hz73 : 73 < N := by omega
  have hz1___1___3 : 1 + 1 + 3 < N := by omega
  have hz69___3 : 69 + 3 < N := by omega
  have hl : lv_has ls 5 [(0, .ref (ad 0)), (1, .int x), (2, .int y), (3, .int (nI f)), (4, .int d)] := hl
  refine lv_iload_n hx hb (dk kX5_lift_ok 0 rfl) rfl (lv_at hl 1 rfl) ?_
  refine lv_iload_n hx hb (dk kX5_lift_ok 1 rfl) rfl (lv_at hl 2 rfl) ?_
  refine csPv (As := [.int x, .int y]) (rest := []) ⟨hx, hb, hml, hown, hts⟩ (tX5_requireCell_ok l x y hon) (cwS9 2 hts mcX5_requireCell (ac10 _ (List.mem_of_getElem? (i := 0) rfl)) msX5_requireCell mini_RX5 rfl rfl hdX5_requireCell ⟨Nat.le_of_ble_eq_true rfl, Nat.le_of_ble_eq_true rfl⟩) rfl hl.1 rfl (Nat.le_of_ble_eq_true rfl) (by decide) (dk kX5_lift_ok 2 rfl) ?_
  refine lv_iload_n hx hb (dk kX5_lift_ok 3 rfl) rfl (lv_at hl 3 rfl) ?_
  refine lv_iload hx hb (dk kX5_lift_ok 4 rfl) (lv_at hl 4 rfl) ?_
  refine csPv (As := [.int (nI f), .int d]) (rest := []) ⟨hx, hb, hml, hown, hts⟩ (tX5_requireLift_ok l (nI f) d (btw_nI hf) hd9) (cwS9 2 hts mcX5_requireLift (ac10 _ (List.mem_of_getElem? (i := 3) rfl)) msX5_requireLift mini_RX5 rfl rfl hdX5_requireLift ⟨Nat.le_of_ble_eq_true rfl, Nat.le_of_ble_eq_true rfl⟩) rfl hl.1 rfl (Nat.le_of_ble_eq_true rfl) (by decide) (dk kX5_lift_ok 5 rfl) ?_
  refine lv_aload_n hx hb (dk kX5_lift_ok 6 rfl) rfl (lv_at hl 0 rfl) ?_
  refine gf hx hb hts (fun w h => List.mem_cons_of_mem _ (acX5 w h)) hown hK hP hz0 hC rfl 0 (by decide) (hts _ (List.mem_cons_of_mem _ (ac7 _ (List.mem_of_getElem? (i := 21) rfl)))) (fun _ h => h) rfl (dk kX5_lift_ok 7 rfl) ?_
  refine lv_iload_n hx hb (dk kX5_lift_ok 8 rfl) rfl (lv_at hl 1 rfl) ?_
  refine lv_iload_n hx hb (dk kX5_lift_ok 9 rfl) rfl (lv_at hl 2 rfl) ?_
  refine lv_iload_n hx hb (dk kX5_lift_ok 10 rfl) rfl (lv_at hl 3 rfl) ?_
  refine lv_iload hx hb (dk kX5_lift_ok 11 rfl) (lv_at hl 4 rfl) ?_
  refine cvR (As := [.int x, .int y, .int (nI f), .int d]) (rest := []) ⟨hx, hb, hml, hown, hts⟩ (tX4_whyNotLifted l D cI cQ cL ad N F 1 (by omega) c b v g h j t u z hN x y (nI f) f rfl (by omega) (by omega) d) (cwV9 4 hts mcX4_whyNotLifted (ac10 _ (List.mem_of_getElem? (i := 6) rfl)) miX4_whyNotLifted meX4_whyNotLifted mini_RX4 rfl rfl hdX4_whyNotLifted ⟨Nat.le_of_ble_eq_true rfl, Nat.le_of_ble_eq_true rfl⟩) hK hP hNW hz1 hN.1 rfl rfl hl.1 rfl (Nat.le_of_ble_eq_true rfl) (by decide) (dk kX5_lift_ok 12 rfl) ?_
  refine n_if_eq (tgt := 36) hx hb (by first | omega | (have q1 := wnl_le c b v t z x y f d; omega)) (dk kX5_lift_ok 13 rfl) (by decide) (fun h1 => ?_) (fun h1 => ?_)
  · exact absurd h1 hwn
  · skip
    exact hthr 63 67 88 26 "the pile can not be lifted" ls [] _ _ 0 0 (by decide) (by decide) hP hS hl.1 (dk kX5_lift_ok 14 rfl) (dk kX5_lift_ok 15 rfl) (dk kX5_lift_ok 16 rfl) (dk kX5_lift_ok 17 rfl) (dk kX5_lift_ok 18 rfl) (by decide) (by decide) (by decide) (by decide) (by decide) (by decide)
set_option maxRecDepth 100000 in
set_option maxHeartbeats 4000000 in
theorem tX5_set (l : Launch) (D : va_G) (cI cQ cL : ClassId) (ad : Nat → Nat) (N : Nat) (F : Nat → va_E) (hk : 76 < N) (c b v g h j : Nat → Int32) (t : Nat) (u z : Int32) (hN : stAt cI ad F 1 c b v g h j (nI t) u z) (c8 b8 v8 g8 h8 j8 : Nat → Int32) (t8 : Nat) (u8 z8 : Int32) (hSn : stAt cI ad F 9 c8 b8 v8 g8 h8 j8 (nI t8) u8 z8) (n9 m9 : Nat) (hn9 : n9 < 6) (hm9 : m9 ≤ 6) (hPa : paAt cQ ad F 17 n9 m9) (a : Nat → Int32) (n : Nat) (hn60 : n ≤ 60) (hT : gtAt cI ad F 67 a n) (c6 b6 v6 : Nat → Int32) (hM6 : matAt cI ad F 69 c6 b6 v6) (a7 d7 q7 : Nat → Int32) (hO : roAt cI ad F 73 a7 d7 q7) (hs : Bool) (hC : F 0 = .inr (5, [.ref (ad 1), .ref (ad 9), .ref (ad 17), .ref (ad 67), .ref (ad 69), .ref (ad 73), .int (bI hs)])) (cr br vr gr hr9 jr : Nat → Int32) (tr : Nat) (ur zr : Int32) (hRi : stAt cI ad F (17 + 2 + 8 * n9) cr br vr gr hr9 jr (nI tr) ur zr) (x : Int32) (hx9 : btw x (nI 1) (nI 6) = true) : MX l yX5_set (Cond.code yX5_set cX5_set 3 (some .int) :: AW) ({ frames := 4, cells := 0, slots := 0, locals := 81 } : Room) D cI cQ cL ad N F [.ref (ad 0), .int x] (dp (some (.int z)) (sSet cI ad (paSet cQ ad (sSet cI ad F (17 + 2 + 8 * n9) c b v g h j (nI t) u z) 17 ((n9 + 1) % 6) (min (m9 + 1) 6)) 1 c b v g h j (nI t) u x)) 0 0 := by
  refine mx_i (ty := .int) (by decide +kernel) rfl (Nat.le_of_ble_eq_true rfl) (fun p e s m below meth cd Q ls hx hb hml hown hts hDi hP hK hNW hS hret hl => ?_)
  have hown : s.vm.findClass RX5 = some m.cls := hown
  have hz0 : 0 < N := by omega
  have hz1 : 1 < N := by omega
  have hz1___1 : 1 + 1 < N := by omega
  have hz1___1___1 : 1 + 1 + 1 < N := by omega
  have hz1___1___2 : 1 + 1 + 2 < N := by omega
  have hz1___1___3 : 1 + 1 + 3 < N := by omega
  have hz1___5 : 1 + 5 < N := by omega
  have hz1___6 : 1 + 6 < N := by omega
  have hz1___7 : 1 + 7 < N := by omega
  have hz9 : 9 < N := by omega
  have hz17 : 17 < N := by omega
  have hz17___1 : 17 + 1 < N := by omega
  have hz67 : 67 < N := by omega
  have hz67___1 : 67 + 1 < N := by omega
  have hz69 : 69 < N := by omega
  have hz69___1 : 69 + 1 < N := by omega
  have hz69___2 : 69 + 2 < N := by omega
  have hz69___3 : 69 + 3 < N := by omega
  have hz73 : 73 < N := by omega
  have hz1___1___3 : 1 + 1 + 3 < N := by omega
  have hz69___3 : 69 + 3 < N := by omega
  have hl : lv_has ls 3 [(0, .ref (ad 0)), (1, .int x)] := hl
  refine lv_iload_n hx hb (dk kX5_set_ok 0 rfl) rfl (lv_at hl 1 rfl) ?_
  refine lv_iconst (v := nI 1) hx hb (dk kX5_set_ok 1 rfl) rfl ?_
  refine lv_icmp_lt (tgt := 11) hx hb (dk kX5_set_ok 2 rfl) (by decide) (fun h1 => ?_) (fun h1 => ?_)
  · exact absurd h1 (rng_ok hx9).1
  · skip
    refine lv_iload_n hx hb (dk kX5_set_ok 3 rfl) rfl (lv_at hl 1 rfl) ?_
    refine lv_bipush (v := nI 6) hx hb (dk kX5_set_ok 4 rfl) rfl ?_
    refine lv_icmp_le (tgt := 21) hx hb (dk kX5_set_ok 5 rfl) (by decide) (fun h2 => ?_) (fun h2 => ?_)
    · skip
      refine lv_aload_n hx hb (dk kX5_set_ok 11 rfl) rfl (lv_at hl 0 rfl) ?_
      refine gf hx hb hts (fun w h => List.mem_cons_of_mem _ (acX5 w h)) hown hK hP hz0 hC rfl 2 (by decide) (hts _ (List.mem_cons_of_mem _ (ac8 _ (List.mem_of_getElem? (i := 2) rfl)))) (fun _ h => h) rfl (dk kX5_set_ok 12 rfl) ?_
      refine lv_aload_n hx hb (dk kX5_set_ok 13 rfl) rfl (lv_at hl 0 rfl) ?_
      refine gf hx hb hts (fun w h => List.mem_cons_of_mem _ (acX5 w h)) hown hK hP hz0 hC rfl 0 (by decide) (hts _ (List.mem_cons_of_mem _ (ac7 _ (List.mem_of_getElem? (i := 21) rfl)))) (fun _ h => h) rfl (dk kX5_set_ok 14 rfl) ?_
      refine cvDv (As := [.ref (ad 1)]) (rest := []) (paSet cQ ad (sSet cI ad F (17 + 2 + 8 * n9) c b v g h j (nI t) u z) 17 ((n9 + 1) % 6) (min (m9 + 1) 6)) ⟨hx, hb, hml, hown, hts⟩ (tX2_save l D cI cQ cL ad N F 17 n9 m9 hn9 hm9 (by omega) hPa cr br vr gr hr9 jr tr ur zr hRi (by omega) 1 (by omega) c b v g h j t u z hN (by omega)) (cwV9 1 hts mcX2_save (ac9 _ (List.mem_of_getElem? (i := 16) rfl)) miX2_save meX2_save mini_RX2 rfl rfl hdX2_save ⟨Nat.le_of_ble_eq_true rfl, Nat.le_of_ble_eq_true rfl⟩) hDi hK hP hNW hS hz17 hPa.1 rfl rfl hl.1 rfl (Nat.le_of_ble_eq_true rfl) (by decide) (dk kX5_set_ok 15 rfl) rfl (fun H locs hP hS => ?_)
      refine lv_aload_n hx hb (dk kX5_set_ok 16 rfl) rfl (lv_at hl 0 rfl) ?_
      refine gf hx hb hts (fun w h => List.mem_cons_of_mem _ (acX5 w h)) hown hK hP hz0 ((paSet_out (by omega)).trans ((sSet_out (by omega)).trans hC)) rfl 0 (by decide) (hts _ (List.mem_cons_of_mem _ (ac7 _ (List.mem_of_getElem? (i := 21) rfl)))) (fun _ h => h) rfl (dk kX5_set_ok 17 rfl) ?_
      refine gfN hx hb hts (fun w h => List.mem_cons_of_mem _ (acX4 w h)) hown hK hP hz1 (stAt_keep (stAt_keep hN (fun i _ _ => sSet_out (by omega))) (fun i _ _ => paSet_out (by omega))).1 rfl 6 (by decide) (nf8 hNW) (fun _ h => h) rfl (dk kX5_set_ok 18 rfl) ?_
      refine lv_istore_n (lv' := [(2, .int z), (0, .ref (ad 0)), (1, .int x)]) hx hb (dk kX5_set_ok 19 rfl) rfl hl (by decide) rfl (fun ls hl => ?_)
      refine lv_aload_n hx hb (dk kX5_set_ok 20 rfl) rfl (lv_at hl 1 rfl) ?_
      refine gf hx hb hts (fun w h => List.mem_cons_of_mem _ (acX5 w h)) hown hK hP hz0 ((paSet_out (by omega)).trans ((sSet_out (by omega)).trans hC)) rfl 0 (by decide) (hts _ (List.mem_cons_of_mem _ (ac7 _ (List.mem_of_getElem? (i := 21) rfl)))) (fun _ h => h) rfl (dk kX5_set_ok 21 rfl) ?_
      refine lv_iload_n hx hb (dk kX5_set_ok 22 rfl) rfl (lv_at hl 2 rfl) ?_
      replace hP := st_touch (stAt_keep (stAt_keep hN (fun i _ _ => sSet_out (by omega))) (fun i _ _ => paSet_out (by omega))) hP
      refine pfN (sSet cI ad (paSet cQ ad (sSet cI ad F (17 + 2 + 8 * n9) c b v g h j (nI t) u z) 17 ((n9 + 1) % 6) (min (m9 + 1) 6)) 1 c b v g h j (nI t) u x) hx hb hts (fun w h => List.mem_cons_of_mem _ (acX4 w h)) tyX4 tyX4_ok nmX4 hown hK hDi hP hS hz1 (sSet_at (stAt_keep (stAt_keep hN (fun i _ _ => sSet_out (by omega))) (fun i _ _ => paSet_out (by omega)))).1 rfl 6 (by decide) (nf8 hNW) (fun _ h => h) rfl (ty := .int) rfl rfl rfl (Nat.le_of_ble_eq_true rfl) (dk kX5_set_ok 23 rfl) sSet_0 (fun H locs hP hS => ?_)
      refine lv_iload_n hx hb (dk kX5_set_ok 24 rfl) rfl (lv_at hl 0 rfl) ?_
      exact hret _ _ _ _ _ _ _ _ rfl (by exact ⟨rfl, rfl⟩) hP hS (by decide) (by decide) (dk kX5_set_ok 25 rfl)
    · exact absurd (Int32.not_le.mp h2) (rng_ok hx9).2
set_option maxRecDepth 100000 in
set_option maxHeartbeats 4000000 in
theorem tX5_setX_b1 (l : Launch) (hst : l.stackTraces = false) (D : va_G) (cI cQ cL : ClassId) (ad : Nat → Nat) (N : Nat) (F : Nat → va_E) (hk : 76 < N) (c b v g h j : Nat → Int32) (t : Nat) (u z : Int32) (hN : stAt cI ad F 1 c b v g h j (nI t) u z) (c8 b8 v8 g8 h8 j8 : Nat → Int32) (t8 : Nat) (u8 z8 : Int32) (hSn : stAt cI ad F 9 c8 b8 v8 g8 h8 j8 (nI t8) u8 z8) (n9 m9 : Nat) (hn9 : n9 < 6) (hm9 : m9 ≤ 6) (hPa : paAt cQ ad F 17 n9 m9) (a : Nat → Int32) (n : Nat) (hn60 : n ≤ 60) (hT : gtAt cI ad F 67 a n) (c6 b6 v6 : Nat → Int32) (hM6 : matAt cI ad F 69 c6 b6 v6) (a7 d7 q7 : Nat → Int32) (hO : roAt cI ad F 73 a7 d7 q7) (hs : Bool) (hC : F 0 = .inr (5, [.ref (ad 1), .ref (ad 9), .ref (ad 17), .ref (ad 67), .ref (ad 69), .ref (ad 73), .int (bI hs)])) (x : Int32) (hx9 : btw x (nI 1) (nI 6) = false) : MT l yX5_set (Cond.code yX5_set cX5_set 3 (some .int) :: AW) ({ frames := 6, cells := 1, slots := 6, locals := 82 } : Room) D cI cQ cL ad N F [.ref (ad 0), .int x] eA 1 6 := by
  refine mt_of (ret := (some .int)) hst (by decide +kernel) rfl (Nat.le_of_ble_eq_true rfl) (fun p e s m below meth cd Q ls hx hb hml hown hts hDi hP hK hNW hS hX hthr hthrW hout hl => ?_)
  have hown : s.vm.findClass RX5 = some m.cls := hown
  have hz0 : 0 < N := by omega
  have hz1 : 1 < N := by omega
  have hz1___1 : 1 + 1 < N := by omega
  have hz1___1___1 : 1 + 1 + 1 < N := by omega
  have hz1___1___2 : 1 + 1 + 2 < N := by omega
  have hz1___1___3 : 1 + 1 + 3 < N := by omega
  have hz1___5 : 1 + 5 < N := by omega
  have hz1___6 : 1 + 6 < N := by omega
  have hz1___7 : 1 + 7 < N := by omega
  have hz9 : 9 < N := by omega
  have hz17 : 17 < N := by omega
  have hz17___1 : 17 + 1 < N := by omega
  have hz67 : 67 < N := by omega
  have hz67___1 : 67 + 1 < N := by omega
  have hz69 : 69 < N := by omega
  have hz69___1 : 69 + 1 < N := by omega
  have hz69___2 : 69 + 2 < N := by omega
  have hz69___3 : 69 + 3 < N := by omega
  have hz73 : 73 < N := by omega
  have hz1___1___3 : 1 + 1 + 3 < N := by omega
  have hz69___3 : 69 + 3 < N := by omega
  have hl : lv_has ls 3 [(0, .ref (ad 0)), (1, .int x)] := hl
  refine lv_iload_n hx hb (dk kX5_set_ok 0 rfl) rfl (lv_at hl 1 rfl) ?_
  refine lv_iconst (v := nI 1) hx hb (dk kX5_set_ok 1 rfl) rfl ?_
  refine lv_icmp_lt (tgt := 11) hx hb (dk kX5_set_ok 2 rfl) (by decide) (fun h1 => ?_) (fun h1 => ?_)
  · skip
    exact hthr 104 108 106 11 "the setting is 1 to 6" ls [] _ _ 0 0 (by decide) (by decide) hP hS hl.1 (dk kX5_set_ok 6 rfl) (dk kX5_set_ok 7 rfl) (dk kX5_set_ok 8 rfl) (dk kX5_set_ok 9 rfl) (dk kX5_set_ok 10 rfl) (by decide) (by decide) (by decide) (by decide) (by decide) (by decide)
  · skip
    refine lv_iload_n hx hb (dk kX5_set_ok 3 rfl) rfl (lv_at hl 1 rfl) ?_
    refine lv_bipush (v := nI 6) hx hb (dk kX5_set_ok 4 rfl) rfl ?_
    refine lv_icmp_le (tgt := 21) hx hb (dk kX5_set_ok 5 rfl) (by decide) (fun h2 => ?_) (fun h2 => ?_)
    · exact (ff_tt hx9 (rng_bad h1 (Int32.not_lt.mpr h2))).elim
    · skip
      exact hthr 104 108 106 11 "the setting is 1 to 6" ls [] _ _ 0 0 (by decide) (by decide) hP hS hl.1 (dk kX5_set_ok 6 rfl) (dk kX5_set_ok 7 rfl) (dk kX5_set_ok 8 rfl) (dk kX5_set_ok 9 rfl) (dk kX5_set_ok 10 rfl) (by decide) (by decide) (by decide) (by decide) (by decide) (by decide)
set_option maxRecDepth 100000 in
set_option maxHeartbeats 4000000 in
theorem tX5_put (l : Launch) (D : va_G) (cI cQ cL : ClassId) (ad : Nat → Nat) (N : Nat) (F : Nat → va_E) (hk : 76 < N) (c b v g h j : Nat → Int32) (t : Nat) (u z : Int32) (hN : stAt cI ad F 1 c b v g h j (nI t) u z) (c8 b8 v8 g8 h8 j8 : Nat → Int32) (t8 : Nat) (u8 z8 : Int32) (hSn : stAt cI ad F 9 c8 b8 v8 g8 h8 j8 (nI t8) u8 z8) (n9 m9 : Nat) (hn9 : n9 < 6) (hm9 : m9 ≤ 6) (hPa : paAt cQ ad F 17 n9 m9) (a : Nat → Int32) (n : Nat) (hn60 : n ≤ 60) (hT : gtAt cI ad F 67 a n) (c6 b6 v6 : Nat → Int32) (hM6 : matAt cI ad F 69 c6 b6 v6) (a7 d7 q7 : Nat → Int32) (hO : roAt cI ad F 73 a7 d7 q7) (hs : Bool) (hC : F 0 = .inr (5, [.ref (ad 1), .ref (ad 9), .ref (ad 17), .ref (ad 67), .ref (ad 69), .ref (ad 73), .int (bI hs)])) (cr br vr gr hr9 jr : Nat → Int32) (tr : Nat) (ur zr : Int32) (hRi : stAt cI ad F (17 + 2 + 8 * n9) cr br vr gr hr9 jr (nI tr) ur zr) (x : Int32) (w : Nat) (hxw : x = nI w) (hw : w < 16) (y k9 : Int32) (hon : on y k9 = true) (hov : over c = false) (hcv : cov v w = false) : MX l yX5_put (Cond.code yX5_put cX5_put 5 (some .int) :: AW) ({ frames := 7, cells := 0, slots := 0, locals := 103 } : Room) D cI cQ cL ad N F [.ref (ad 0), .int x, .int y, .int k9] (dp (some (.int (nI (hgt (mov1 c b v w (cat y k9)) (cat y k9))))) (sSet cI ad (paSet cQ ad (sSet cI ad F (17 + 2 + 8 * n9) c b v g h j (nI t) u z) 17 ((n9 + 1) % 6) (min (m9 + 1) 6)) 1 (mov1 c b v w (cat y k9)) (mov2 c b v w (cat y k9)) (mov3 c b v w (cat y k9)) g h j (nI t) u z)) 0 0 := by
  refine mx_i (ty := .int) (by decide +kernel) rfl (Nat.le_of_ble_eq_true rfl) (fun p e s m below meth cd Q ls hx hb hml hown hts hDi hP hK hNW hS hret hl => ?_)
  have hown : s.vm.findClass RX5 = some m.cls := hown
  subst hxw
  have hz0 : 0 < N := by omega
  have hz1 : 1 < N := by omega
  have hz1___1 : 1 + 1 < N := by omega
  have hz1___1___1 : 1 + 1 + 1 < N := by omega
  have hz1___1___2 : 1 + 1 + 2 < N := by omega
  have hz1___1___3 : 1 + 1 + 3 < N := by omega
  have hz1___5 : 1 + 5 < N := by omega
  have hz1___6 : 1 + 6 < N := by omega
  have hz1___7 : 1 + 7 < N := by omega
  have hz9 : 9 < N := by omega
  have hz17 : 17 < N := by omega
  have hz17___1 : 17 + 1 < N := by omega
  have hz67 : 67 < N := by omega
  have hz67___1 : 67 + 1 < N := by omega
  have hz69 : 69 < N := by omega
  have hz69___1 : 69 + 1 < N := by omega
  have hz69___2 : 69 + 2 < N := by omega
  have hz69___3 : 69 + 3 < N := by omega
  have hz73 : 73 < N := by omega
  have hz1___1___3 : 1 + 1 + 3 < N := by omega
  have hz69___3 : 69 + 3 < N := by omega
  have hl : lv_has ls 5 [(0, .ref (ad 0)), (1, .int (nI w)), (2, .int y), (3, .int k9)] := hl
  refine lv_iload_n hx hb (dk kX5_put_ok 0 rfl) rfl (lv_at hl 1 rfl) ?_
  refine csPv (As := [.int (nI w)]) (rest := []) ⟨hx, hb, hml, hown, hts⟩ (tX5_requireWink_ok l (nI w) (wk_nI hw)) (cwS9 1 hts mcX5_requireWink (ac9 _ (List.mem_of_getElem? (i := 6) rfl)) msX5_requireWink mini_RX5 rfl rfl hdX5_requireWink ⟨Nat.le_of_ble_eq_true rfl, Nat.le_of_ble_eq_true rfl⟩) rfl hl.1 rfl (Nat.le_of_ble_eq_true rfl) (by decide) (dk kX5_put_ok 1 rfl) ?_
  refine lv_iload_n hx hb (dk kX5_put_ok 2 rfl) rfl (lv_at hl 2 rfl) ?_
  refine lv_iload_n hx hb (dk kX5_put_ok 3 rfl) rfl (lv_at hl 3 rfl) ?_
  refine csPv (As := [.int y, .int k9]) (rest := []) ⟨hx, hb, hml, hown, hts⟩ (tX5_requireCell_ok l y k9 hon) (cwS9 2 hts mcX5_requireCell (ac10 _ (List.mem_of_getElem? (i := 0) rfl)) msX5_requireCell mini_RX5 rfl rfl hdX5_requireCell ⟨Nat.le_of_ble_eq_true rfl, Nat.le_of_ble_eq_true rfl⟩) rfl hl.1 rfl (Nat.le_of_ble_eq_true rfl) (by decide) (dk kX5_put_ok 4 rfl) ?_
  refine lv_aload_n hx hb (dk kX5_put_ok 5 rfl) rfl (lv_at hl 0 rfl) ?_
  refine gf hx hb hts (fun w h => List.mem_cons_of_mem _ (acX5 w h)) hown hK hP hz0 hC rfl 0 (by decide) (hts _ (List.mem_cons_of_mem _ (ac7 _ (List.mem_of_getElem? (i := 21) rfl)))) (fun _ h => h) rfl (dk kX5_put_ok 6 rfl) ?_
  refine gfN hx hb hts (fun w h => List.mem_cons_of_mem _ (acX4 w h)) hown hK hP hz1 hN.1 rfl 0 (by decide) (nf2 hNW) (fun _ h => h) rfl (dk kX5_put_ok 7 rfl) ?_
  refine cvR (As := []) (rest := []) ⟨hx, hb, hml, hown, hts⟩ (tX1_isOver l D cI cQ cL ad N F (1 + 1) (by omega) c b v hN.2.1) (cwV9 0 hts mcX1_isOver (ac10 _ (List.mem_of_getElem? (i := 15) rfl)) miX1_isOver meX1_isOver mini_RX1 rfl rfl hdX1_isOver ⟨Nat.le_of_ble_eq_true rfl, Nat.le_of_ble_eq_true rfl⟩) hK hP hNW hz1___1 hN.2.1.1 rfl rfl hl.1 rfl (Nat.le_of_ble_eq_true rfl) (by decide) (dk kX5_put_ok 8 rfl) ?_
  refine b_if_ne (tgt := 36) hx hb (dk kX5_put_ok 9 rfl) (by decide) (fun h1 => ?_) (fun h1 => ?_)
  · exact absurd (hov.symm.trans h1) (by decide)
  · skip
    refine lv_aload_n hx hb (dk kX5_put_ok 10 rfl) rfl (lv_at hl 0 rfl) ?_
    refine gf hx hb hts (fun w h => List.mem_cons_of_mem _ (acX5 w h)) hown hK hP hz0 hC rfl 0 (by decide) (hts _ (List.mem_cons_of_mem _ (ac7 _ (List.mem_of_getElem? (i := 21) rfl)))) (fun _ h => h) rfl (dk kX5_put_ok 11 rfl) ?_
    refine gfN hx hb hts (fun w h => List.mem_cons_of_mem _ (acX4 w h)) hown hK hP hz1 hN.1 rfl 0 (by decide) (nf2 hNW) (fun _ h => h) rfl (dk kX5_put_ok 12 rfl) ?_
    refine lv_iload_n hx hb (dk kX5_put_ok 13 rfl) rfl (lv_at hl 1 rfl) ?_
    refine cvR (As := [.int (nI w)]) (rest := []) ⟨hx, hb, hml, hown, hts⟩ (tX1_isCovered l D cI cQ cL ad N F (1 + 1) (by omega) c b v hN.2.1 (nI w) w rfl (by omega)) (cwV9 1 hts mcX1_isCovered (ac10 _ (List.mem_of_getElem? (i := 16) rfl)) miX1_isCovered meX1_isCovered mini_RX1 rfl rfl hdX1_isCovered ⟨Nat.le_of_ble_eq_true rfl, Nat.le_of_ble_eq_true rfl⟩) hK hP hNW hz1___1 hN.2.1.1 rfl rfl hl.1 rfl (Nat.le_of_ble_eq_true rfl) (by decide) (dk kX5_put_ok 14 rfl) ?_
    refine b_if_eq (tgt := 46) hx hb (dk kX5_put_ok 15 rfl) (by decide) (fun h2 => ?_) (fun h2 => ?_)
    · skip
      refine lv_aload_n hx hb (dk kX5_put_ok 21 rfl) rfl (lv_at hl 0 rfl) ?_
      refine gf hx hb hts (fun w h => List.mem_cons_of_mem _ (acX5 w h)) hown hK hP hz0 hC rfl 2 (by decide) (hts _ (List.mem_cons_of_mem _ (ac8 _ (List.mem_of_getElem? (i := 2) rfl)))) (fun _ h => h) rfl (dk kX5_put_ok 22 rfl) ?_
      refine lv_aload_n hx hb (dk kX5_put_ok 23 rfl) rfl (lv_at hl 0 rfl) ?_
      refine gf hx hb hts (fun w h => List.mem_cons_of_mem _ (acX5 w h)) hown hK hP hz0 hC rfl 0 (by decide) (hts _ (List.mem_cons_of_mem _ (ac7 _ (List.mem_of_getElem? (i := 21) rfl)))) (fun _ h => h) rfl (dk kX5_put_ok 24 rfl) ?_
      refine cvDv (As := [.ref (ad 1)]) (rest := []) (paSet cQ ad (sSet cI ad F (17 + 2 + 8 * n9) c b v g h j (nI t) u z) 17 ((n9 + 1) % 6) (min (m9 + 1) 6)) ⟨hx, hb, hml, hown, hts⟩ (tX2_save l D cI cQ cL ad N F 17 n9 m9 hn9 hm9 (by omega) hPa cr br vr gr hr9 jr tr ur zr hRi (by omega) 1 (by omega) c b v g h j t u z hN (by omega)) (cwV9 1 hts mcX2_save (ac9 _ (List.mem_of_getElem? (i := 16) rfl)) miX2_save meX2_save mini_RX2 rfl rfl hdX2_save ⟨Nat.le_of_ble_eq_true rfl, Nat.le_of_ble_eq_true rfl⟩) hDi hK hP hNW hS hz17 hPa.1 rfl rfl hl.1 rfl (Nat.le_of_ble_eq_true rfl) (by decide) (dk kX5_put_ok 25 rfl) rfl (fun H locs hP hS => ?_)
      refine lv_iload_n hx hb (dk kX5_put_ok 26 rfl) rfl (lv_at hl 2 rfl) ?_
      refine lv_iload_n hx hb (dk kX5_put_ok 27 rfl) rfl (lv_at hl 3 rfl) ?_
      refine csP (As := [.int y, .int k9]) (rest := []) ⟨hx, hb, hml, hown, hts⟩ (tX5_cellAt l y k9) (cwS9 2 hts mcX5_cellAt (ac0 _ (List.mem_of_getElem? (i := 17) rfl)) msX5_cellAt mini_RX5 rfl rfl hdX5_cellAt ⟨Nat.le_of_ble_eq_true rfl, Nat.le_of_ble_eq_true rfl⟩) rfl hl.1 rfl (Nat.le_of_ble_eq_true rfl) (by decide) (dk kX5_put_ok 28 rfl) ?_
      refine lv_istore (lv' := [(4, .int (cat y k9)), (0, .ref (ad 0)), (1, .int (nI w)), (2, .int y), (3, .int k9)]) hx hb (dk kX5_put_ok 29 rfl) hl (by decide) rfl (fun ls hl => ?_)
      refine lv_aload_n hx hb (dk kX5_put_ok 30 rfl) rfl (lv_at hl 1 rfl) ?_
      refine gf hx hb hts (fun w h => List.mem_cons_of_mem _ (acX5 w h)) hown hK hP hz0 ((paSet_out (by omega)).trans ((sSet_out (by omega)).trans hC)) rfl 0 (by decide) (hts _ (List.mem_cons_of_mem _ (ac7 _ (List.mem_of_getElem? (i := 21) rfl)))) (fun _ h => h) rfl (dk kX5_put_ok 31 rfl) ?_
      refine gfN hx hb hts (fun w h => List.mem_cons_of_mem _ (acX4 w h)) hown hK hP hz1 (stAt_keep (stAt_keep hN (fun i _ _ => sSet_out (by omega))) (fun i _ _ => paSet_out (by omega))).1 rfl 0 (by decide) (nf2 hNW) (fun _ h => h) rfl (dk kX5_put_ok 32 rfl) ?_
      refine lv_iload_n hx hb (dk kX5_put_ok 33 rfl) rfl (lv_at hl 2 rfl) ?_
      refine lv_iload hx hb (dk kX5_put_ok 34 rfl) (lv_at hl 0 rfl) ?_
      replace hP := st_touch (stAt_keep (stAt_keep hN (fun i _ _ => sSet_out (by omega))) (fun i _ _ => paSet_out (by omega))) hP
      refine cvDv (As := [.int (nI w), .int (cat y k9)]) (rest := []) (sSet cI ad (paSet cQ ad (sSet cI ad F (17 + 2 + 8 * n9) c b v g h j (nI t) u z) 17 ((n9 + 1) % 6) (min (m9 + 1) 6)) 1 (mov1 c b v w (cat y k9)) (mov2 c b v w (cat y k9)) (mov3 c b v w (cat y k9)) g h j (nI t) u z) ⟨hx, hb, hml, hown, hts⟩ (tX1_move l D cI cQ cL ad N (sSet cI ad (paSet cQ ad (sSet cI ad F (17 + 2 + 8 * n9) c b v g h j (nI t) u z) 17 ((n9 + 1) % 6) (min (m9 + 1) 6)) 1 c b v g h j (nI t) u z) (1 + 1) (by omega) c b v (sSet_at (stAt_keep (stAt_keep hN (fun i _ _ => sSet_out (by omega))) (fun i _ _ => paSet_out (by omega)))).2.1 (nI w) w rfl (by omega) (cat y k9)) (cwV9 2 hts mcX1_move (ac10 _ (List.mem_of_getElem? (i := 17) rfl)) miX1_move meX1_move mini_RX1 rfl rfl hdX1_move ⟨Nat.le_of_ble_eq_true rfl, Nat.le_of_ble_eq_true rfl⟩) hDi hK hP hNW hS hz1___1 (sSet_at (stAt_keep (stAt_keep hN (fun i _ _ => sSet_out (by omega))) (fun i _ _ => paSet_out (by omega)))).2.1.1 rfl rfl hl.1 rfl (Nat.le_of_ble_eq_true rfl) (by decide) (dk kX5_put_ok 35 rfl) sSet_m (fun H locs hP hS => ?_)
      refine lv_aload_n hx hb (dk kX5_put_ok 36 rfl) rfl (lv_at hl 1 rfl) ?_
      refine gf hx hb hts (fun w h => List.mem_cons_of_mem _ (acX5 w h)) hown hK hP hz0 ((sSet_out (by omega)).trans ((paSet_out (by omega)).trans ((sSet_out (by omega)).trans hC))) rfl 0 (by decide) (hts _ (List.mem_cons_of_mem _ (ac7 _ (List.mem_of_getElem? (i := 21) rfl)))) (fun _ h => h) rfl (dk kX5_put_ok 37 rfl) ?_
      refine gfN hx hb hts (fun w h => List.mem_cons_of_mem _ (acX4 w h)) hown hK hP hz1 (sSet_at (stAt_keep (stAt_keep hN (fun i _ _ => sSet_out (by omega))) (fun i _ _ => paSet_out (by omega)))).1 rfl 0 (by decide) (nf2 hNW) (fun _ h => h) rfl (dk kX5_put_ok 38 rfl) ?_
      refine lv_iload hx hb (dk kX5_put_ok 39 rfl) (lv_at hl 0 rfl) ?_
      refine cvR (As := [.int (cat y k9)]) (rest := []) ⟨hx, hb, hml, hown, hts⟩ (tX1_heightAt l D cI cQ cL ad N (sSet cI ad (paSet cQ ad (sSet cI ad F (17 + 2 + 8 * n9) c b v g h j (nI t) u z) 17 ((n9 + 1) % 6) (min (m9 + 1) 6)) 1 (mov1 c b v w (cat y k9)) (mov2 c b v w (cat y k9)) (mov3 c b v w (cat y k9)) g h j (nI t) u z) (1 + 1) (by omega) (mov1 c b v w (cat y k9)) (mov2 c b v w (cat y k9)) (mov3 c b v w (cat y k9)) (sSet_at (stAt_keep (stAt_keep hN (fun i _ _ => sSet_out (by omega))) (fun i _ _ => paSet_out (by omega)))).2.1 (cat y k9)) (cwV9 1 hts mcX1_heightAt (ac10 _ (List.mem_of_getElem? (i := 14) rfl)) miX1_heightAt meX1_heightAt mini_RX1 rfl rfl hdX1_heightAt ⟨Nat.le_of_ble_eq_true rfl, Nat.le_of_ble_eq_true rfl⟩) hK hP hNW hz1___1 (sSet_at (stAt_keep (stAt_keep hN (fun i _ _ => sSet_out (by omega))) (fun i _ _ => paSet_out (by omega)))).2.1.1 rfl rfl hl.1 rfl (Nat.le_of_ble_eq_true rfl) (by decide) (dk kX5_put_ok 40 rfl) ?_
      exact hret _ _ _ _ _ _ _ _ rfl (by exact ⟨rfl, rfl⟩) hP hS (by decide) (by decide) (dk kX5_put_ok 41 rfl)
    · exact absurd (hcv.symm.trans h2) (by decide)
set_option maxRecDepth 100000 in
set_option maxHeartbeats 4000000 in
theorem tX5_putX_b1 (l : Launch) (hst : l.stackTraces = false) (D : va_G) (cI cQ cL : ClassId) (ad : Nat → Nat) (N : Nat) (F : Nat → va_E) (hk : 76 < N) (c b v g h j : Nat → Int32) (t : Nat) (u z : Int32) (hN : stAt cI ad F 1 c b v g h j (nI t) u z) (c8 b8 v8 g8 h8 j8 : Nat → Int32) (t8 : Nat) (u8 z8 : Int32) (hSn : stAt cI ad F 9 c8 b8 v8 g8 h8 j8 (nI t8) u8 z8) (n9 m9 : Nat) (hn9 : n9 < 6) (hm9 : m9 ≤ 6) (hPa : paAt cQ ad F 17 n9 m9) (a : Nat → Int32) (n : Nat) (hn60 : n ≤ 60) (hT : gtAt cI ad F 67 a n) (c6 b6 v6 : Nat → Int32) (hM6 : matAt cI ad F 69 c6 b6 v6) (a7 d7 q7 : Nat → Int32) (hO : roAt cI ad F 73 a7 d7 q7) (hs : Bool) (hC : F 0 = .inr (5, [.ref (ad 1), .ref (ad 9), .ref (ad 17), .ref (ad 67), .ref (ad 69), .ref (ad 73), .int (bI hs)])) (x y k9 : Int32) (hwk : wk x = false) : MT l yX5_put (Cond.code yX5_put cX5_put 5 (some .int) :: AW) ({ frames := 7, cells := 1, slots := 6, locals := 102 } : Room) D cI cQ cL ad N F [.ref (ad 0), .int x, .int y, .int k9] eI 1 6 := by
  refine mt_of (ret := (some .int)) hst (by decide +kernel) rfl (Nat.le_of_ble_eq_true rfl) (fun p e s m below meth cd Q ls hx hb hml hown hts hDi hP hK hNW hS hX hthr hthrW hout hl => ?_)
  have hown : s.vm.findClass RX5 = some m.cls := hown
  have hz0 : 0 < N := by omega
  have hz1 : 1 < N := by omega
  have hz1___1 : 1 + 1 < N := by omega
  have hz1___1___1 : 1 + 1 + 1 < N := by omega
  have hz1___1___2 : 1 + 1 + 2 < N := by omega
  have hz1___1___3 : 1 + 1 + 3 < N := by omega
  have hz1___5 : 1 + 5 < N := by omega
  have hz1___6 : 1 + 6 < N := by omega
  have hz1___7 : 1 + 7 < N := by omega
  have hz9 : 9 < N := by omega
  have hz17 : 17 < N := by omega
  have hz17___1 : 17 + 1 < N := by omega
  have hz67 : 67 < N := by omega
  have hz67___1 : 67 + 1 < N := by omega
  have hz69 : 69 < N := by omega
  have hz69___1 : 69 + 1 < N := by omega
  have hz69___2 : 69 + 2 < N := by omega
  have hz69___3 : 69 + 3 < N := by omega
  have hz73 : 73 < N := by omega
  have hz1___1___3 : 1 + 1 + 3 < N := by omega
  have hz69___3 : 69 + 3 < N := by omega
  have hl : lv_has ls 5 [(0, .ref (ad 0)), (1, .int x), (2, .int y), (3, .int k9)] := hl
  refine lv_iload_n hx hb (dk kX5_put_ok 0 rfl) rfl (lv_at hl 1 rfl) ?_
  exact csT (As := [.int x]) (rest := []) ⟨hx, hb, hml, hown, hts⟩ (tX5_requireWink_b1 l hst D cI cQ cL ad N F x hwk) (cwS9 1 hts mcX5_requireWink (ac9 _ (List.mem_of_getElem? (i := 6) rfl)) msX5_requireWink mini_RX5 rfl rfl hdX5_requireWink ⟨Nat.le_of_ble_eq_true rfl, Nat.le_of_ble_eq_true rfl⟩) hDi hK hP hNW hS hX rfl hl.1 rfl (Nat.le_of_ble_eq_true rfl) (by decide) (dk kX5_put_ok 1 rfl) (fun H locs q ce hP hS h1 h2 h3 => hout _ _ _ H locs q ce _ _ hP hS h1 h2 h3 (by decide) (by decide))
set_option maxRecDepth 100000 in
set_option maxHeartbeats 4000000 in
theorem tX5_putX_b2 (l : Launch) (hst : l.stackTraces = false) (D : va_G) (cI cQ cL : ClassId) (ad : Nat → Nat) (N : Nat) (F : Nat → va_E) (hk : 76 < N) (c b v g h j : Nat → Int32) (t : Nat) (u z : Int32) (hN : stAt cI ad F 1 c b v g h j (nI t) u z) (c8 b8 v8 g8 h8 j8 : Nat → Int32) (t8 : Nat) (u8 z8 : Int32) (hSn : stAt cI ad F 9 c8 b8 v8 g8 h8 j8 (nI t8) u8 z8) (n9 m9 : Nat) (hn9 : n9 < 6) (hm9 : m9 ≤ 6) (hPa : paAt cQ ad F 17 n9 m9) (a : Nat → Int32) (n : Nat) (hn60 : n ≤ 60) (hT : gtAt cI ad F 67 a n) (c6 b6 v6 : Nat → Int32) (hM6 : matAt cI ad F 69 c6 b6 v6) (a7 d7 q7 : Nat → Int32) (hO : roAt cI ad F 73 a7 d7 q7) (hs : Bool) (hC : F 0 = .inr (5, [.ref (ad 1), .ref (ad 9), .ref (ad 17), .ref (ad 67), .ref (ad 69), .ref (ad 73), .int (bI hs)])) (x : Int32) (w : Nat) (hxw : x = nI w) (hw : w < 16) (y k9 : Int32) (hon : on y k9 = false) : MT l yX5_put (Cond.code yX5_put cX5_put 5 (some .int) :: AW) ({ frames := 7, cells := 1, slots := 6, locals := 103 } : Room) D cI cQ cL ad N F [.ref (ad 0), .int x, .int y, .int k9] eI 1 6 := by
  refine mt_of (ret := (some .int)) hst (by decide +kernel) rfl (Nat.le_of_ble_eq_true rfl) (fun p e s m below meth cd Q ls hx hb hml hown hts hDi hP hK hNW hS hX hthr hthrW hout hl => ?_)
  have hown : s.vm.findClass RX5 = some m.cls := hown
  subst hxw
  have hz0 : 0 < N := by omega
  have hz1 : 1 < N := by omega
  have hz1___1 : 1 + 1 < N := by omega
  have hz1___1___1 : 1 + 1 + 1 < N := by omega
  have hz1___1___2 : 1 + 1 + 2 < N := by omega
  have hz1___1___3 : 1 + 1 + 3 < N := by omega
  have hz1___5 : 1 + 5 < N := by omega
  have hz1___6 : 1 + 6 < N := by omega
  have hz1___7 : 1 + 7 < N := by omega
  have hz9 : 9 < N := by omega
  have hz17 : 17 < N := by omega
  have hz17___1 : 17 + 1 < N := by omega
  have hz67 : 67 < N := by omega
  have hz67___1 : 67 + 1 < N := by omega
  have hz69 : 69 < N := by omega
  have hz69___1 : 69 + 1 < N := by omega
  have hz69___2 : 69 + 2 < N := by omega
  have hz69___3 : 69 + 3 < N := by omega
  have hz73 : 73 < N := by omega
  have hz1___1___3 : 1 + 1 + 3 < N := by omega
  have hz69___3 : 69 + 3 < N := by omega
  have hl : lv_has ls 5 [(0, .ref (ad 0)), (1, .int (nI w)), (2, .int y), (3, .int k9)] := hl
  refine lv_iload_n hx hb (dk kX5_put_ok 0 rfl) rfl (lv_at hl 1 rfl) ?_
  refine csPv (As := [.int (nI w)]) (rest := []) ⟨hx, hb, hml, hown, hts⟩ (tX5_requireWink_ok l (nI w) (wk_nI hw)) (cwS9 1 hts mcX5_requireWink (ac9 _ (List.mem_of_getElem? (i := 6) rfl)) msX5_requireWink mini_RX5 rfl rfl hdX5_requireWink ⟨Nat.le_of_ble_eq_true rfl, Nat.le_of_ble_eq_true rfl⟩) rfl hl.1 rfl (Nat.le_of_ble_eq_true rfl) (by decide) (dk kX5_put_ok 1 rfl) ?_
  refine lv_iload_n hx hb (dk kX5_put_ok 2 rfl) rfl (lv_at hl 2 rfl) ?_
  refine lv_iload_n hx hb (dk kX5_put_ok 3 rfl) rfl (lv_at hl 3 rfl) ?_
  exact csT (As := [.int y, .int k9]) (rest := []) ⟨hx, hb, hml, hown, hts⟩ (tX5_requireCell_b1 l hst D cI cQ cL ad N F y k9 hon) (cwS9 2 hts mcX5_requireCell (ac10 _ (List.mem_of_getElem? (i := 0) rfl)) msX5_requireCell mini_RX5 rfl rfl hdX5_requireCell ⟨Nat.le_of_ble_eq_true rfl, Nat.le_of_ble_eq_true rfl⟩) hDi hK hP hNW hS hX rfl hl.1 rfl (Nat.le_of_ble_eq_true rfl) (by decide) (dk kX5_put_ok 4 rfl) (fun H locs q ce hP hS h1 h2 h3 => hout _ _ _ H locs q ce _ _ hP hS h1 h2 h3 (by decide) (by decide))
set_option maxRecDepth 100000 in
set_option maxHeartbeats 4000000 in
theorem tX5_putX_b3 (l : Launch) (hst : l.stackTraces = false) (D : va_G) (cI cQ cL : ClassId) (ad : Nat → Nat) (N : Nat) (F : Nat → va_E) (hk : 76 < N) (c b v g h j : Nat → Int32) (t : Nat) (u z : Int32) (hN : stAt cI ad F 1 c b v g h j (nI t) u z) (c8 b8 v8 g8 h8 j8 : Nat → Int32) (t8 : Nat) (u8 z8 : Int32) (hSn : stAt cI ad F 9 c8 b8 v8 g8 h8 j8 (nI t8) u8 z8) (n9 m9 : Nat) (hn9 : n9 < 6) (hm9 : m9 ≤ 6) (hPa : paAt cQ ad F 17 n9 m9) (a : Nat → Int32) (n : Nat) (hn60 : n ≤ 60) (hT : gtAt cI ad F 67 a n) (c6 b6 v6 : Nat → Int32) (hM6 : matAt cI ad F 69 c6 b6 v6) (a7 d7 q7 : Nat → Int32) (hO : roAt cI ad F 73 a7 d7 q7) (hs : Bool) (hC : F 0 = .inr (5, [.ref (ad 1), .ref (ad 9), .ref (ad 17), .ref (ad 67), .ref (ad 69), .ref (ad 73), .int (bI hs)])) (x : Int32) (w : Nat) (hxw : x = nI w) (hw : w < 16) (y k9 : Int32) (hon : on y k9 = true) (hov : over c = true) : MT l yX5_put (Cond.code yX5_put cX5_put 5 (some .int) :: AW) ({ frames := 7, cells := 1, slots := 6, locals := 103 } : Room) D cI cQ cL ad N F [.ref (ad 0), .int x, .int y, .int k9] eS 1 6 := by
  refine mt_of (ret := (some .int)) hst (by decide +kernel) rfl (Nat.le_of_ble_eq_true rfl) (fun p e s m below meth cd Q ls hx hb hml hown hts hDi hP hK hNW hS hX hthr hthrW hout hl => ?_)
  have hown : s.vm.findClass RX5 = some m.cls := hown
  subst hxw
  have hz0 : 0 < N := by omega
  have hz1 : 1 < N := by omega
  have hz1___1 : 1 + 1 < N := by omega
  have hz1___1___1 : 1 + 1 + 1 < N := by omega
  have hz1___1___2 : 1 + 1 + 2 < N := by omega
  have hz1___1___3 : 1 + 1 + 3 < N := by omega
  have hz1___5 : 1 + 5 < N := by omega
  have hz1___6 : 1 + 6 < N := by omega
  have hz1___7 : 1 + 7 < N := by omega
  have hz9 : 9 < N := by omega
  have hz17 : 17 < N := by omega
  have hz17___1 : 17 + 1 < N := by omega
  have hz67 : 67 < N := by omega
  have hz67___1 : 67 + 1 < N := by omega
  have hz69 : 69 < N := by omega
  have hz69___1 : 69 + 1 < N := by omega
  have hz69___2 : 69 + 2 < N := by omega
  have hz69___3 : 69 + 3 < N := by omega
  have hz73 : 73 < N := by omega
  have hz1___1___3 : 1 + 1 + 3 < N := by omega
  have hz69___3 : 69 + 3 < N := by omega
  have hl : lv_has ls 5 [(0, .ref (ad 0)), (1, .int (nI w)), (2, .int y), (3, .int k9)] := hl
  refine lv_iload_n hx hb (dk kX5_put_ok 0 rfl) rfl (lv_at hl 1 rfl) ?_
  refine csPv (As := [.int (nI w)]) (rest := []) ⟨hx, hb, hml, hown, hts⟩ (tX5_requireWink_ok l (nI w) (wk_nI hw)) (cwS9 1 hts mcX5_requireWink (ac9 _ (List.mem_of_getElem? (i := 6) rfl)) msX5_requireWink mini_RX5 rfl rfl hdX5_requireWink ⟨Nat.le_of_ble_eq_true rfl, Nat.le_of_ble_eq_true rfl⟩) rfl hl.1 rfl (Nat.le_of_ble_eq_true rfl) (by decide) (dk kX5_put_ok 1 rfl) ?_
  refine lv_iload_n hx hb (dk kX5_put_ok 2 rfl) rfl (lv_at hl 2 rfl) ?_
  refine lv_iload_n hx hb (dk kX5_put_ok 3 rfl) rfl (lv_at hl 3 rfl) ?_
  refine csPv (As := [.int y, .int k9]) (rest := []) ⟨hx, hb, hml, hown, hts⟩ (tX5_requireCell_ok l y k9 hon) (cwS9 2 hts mcX5_requireCell (ac10 _ (List.mem_of_getElem? (i := 0) rfl)) msX5_requireCell mini_RX5 rfl rfl hdX5_requireCell ⟨Nat.le_of_ble_eq_true rfl, Nat.le_of_ble_eq_true rfl⟩) rfl hl.1 rfl (Nat.le_of_ble_eq_true rfl) (by decide) (dk kX5_put_ok 4 rfl) ?_
  refine lv_aload_n hx hb (dk kX5_put_ok 5 rfl) rfl (lv_at hl 0 rfl) ?_
  refine gf hx hb hts (fun w h => List.mem_cons_of_mem _ (acX5 w h)) hown hK hP hz0 hC rfl 0 (by decide) (hts _ (List.mem_cons_of_mem _ (ac7 _ (List.mem_of_getElem? (i := 21) rfl)))) (fun _ h => h) rfl (dk kX5_put_ok 6 rfl) ?_
  refine gfN hx hb hts (fun w h => List.mem_cons_of_mem _ (acX4 w h)) hown hK hP hz1 hN.1 rfl 0 (by decide) (nf2 hNW) (fun _ h => h) rfl (dk kX5_put_ok 7 rfl) ?_
  refine cvR (As := []) (rest := []) ⟨hx, hb, hml, hown, hts⟩ (tX1_isOver l D cI cQ cL ad N F (1 + 1) (by omega) c b v hN.2.1) (cwV9 0 hts mcX1_isOver (ac10 _ (List.mem_of_getElem? (i := 15) rfl)) miX1_isOver meX1_isOver mini_RX1 rfl rfl hdX1_isOver ⟨Nat.le_of_ble_eq_true rfl, Nat.le_of_ble_eq_true rfl⟩) hK hP hNW hz1___1 hN.2.1.1 rfl rfl hl.1 rfl (Nat.le_of_ble_eq_true rfl) (by decide) (dk kX5_put_ok 8 rfl) ?_
  refine b_if_ne (tgt := 36) hx hb (dk kX5_put_ok 9 rfl) (by decide) (fun h1 => ?_) (fun h1 => ?_)
  · skip
    exact hthr 63 67 121 36 "the wink can not be put" ls [] _ _ 0 0 (by decide) (by decide) hP hS hl.1 (dk kX5_put_ok 16 rfl) (dk kX5_put_ok 17 rfl) (dk kX5_put_ok 18 rfl) (dk kX5_put_ok 19 rfl) (dk kX5_put_ok 20 rfl) (by decide) (by decide) (by decide) (by decide) (by decide) (by decide)
  · exact absurd (hov.symm.trans h1) (by decide)
set_option maxRecDepth 100000 in
set_option maxHeartbeats 4000000 in
theorem tX5_putX_b4 (l : Launch) (hst : l.stackTraces = false) (D : va_G) (cI cQ cL : ClassId) (ad : Nat → Nat) (N : Nat) (F : Nat → va_E) (hk : 76 < N) (c b v g h j : Nat → Int32) (t : Nat) (u z : Int32) (hN : stAt cI ad F 1 c b v g h j (nI t) u z) (c8 b8 v8 g8 h8 j8 : Nat → Int32) (t8 : Nat) (u8 z8 : Int32) (hSn : stAt cI ad F 9 c8 b8 v8 g8 h8 j8 (nI t8) u8 z8) (n9 m9 : Nat) (hn9 : n9 < 6) (hm9 : m9 ≤ 6) (hPa : paAt cQ ad F 17 n9 m9) (a : Nat → Int32) (n : Nat) (hn60 : n ≤ 60) (hT : gtAt cI ad F 67 a n) (c6 b6 v6 : Nat → Int32) (hM6 : matAt cI ad F 69 c6 b6 v6) (a7 d7 q7 : Nat → Int32) (hO : roAt cI ad F 73 a7 d7 q7) (hs : Bool) (hC : F 0 = .inr (5, [.ref (ad 1), .ref (ad 9), .ref (ad 17), .ref (ad 67), .ref (ad 69), .ref (ad 73), .int (bI hs)])) (x : Int32) (w : Nat) (hxw : x = nI w) (hw : w < 16) (y k9 : Int32) (hon : on y k9 = true) (hov : over c = false) (hcv : cov v w = true) : MT l yX5_put (Cond.code yX5_put cX5_put 5 (some .int) :: AW) ({ frames := 7, cells := 1, slots := 6, locals := 103 } : Room) D cI cQ cL ad N F [.ref (ad 0), .int x, .int y, .int k9] eS 1 6 := by
  refine mt_of (ret := (some .int)) hst (by decide +kernel) rfl (Nat.le_of_ble_eq_true rfl) (fun p e s m below meth cd Q ls hx hb hml hown hts hDi hP hK hNW hS hX hthr hthrW hout hl => ?_)
  have hown : s.vm.findClass RX5 = some m.cls := hown
  subst hxw
  have hz0 : 0 < N := by omega
  have hz1 : 1 < N := by omega
  have hz1___1 : 1 + 1 < N := by omega
  have hz1___1___1 : 1 + 1 + 1 < N := by omega
  have hz1___1___2 : 1 + 1 + 2 < N := by omega
  have hz1___1___3 : 1 + 1 + 3 < N := by omega
  have hz1___5 : 1 + 5 < N := by omega
  have hz1___6 : 1 + 6 < N := by omega
  have hz1___7 : 1 + 7 < N := by omega
  have hz9 : 9 < N := by omega
  have hz17 : 17 < N := by omega
  have hz17___1 : 17 + 1 < N := by omega
  have hz67 : 67 < N := by omega
  have hz67___1 : 67 + 1 < N := by omega
  have hz69 : 69 < N := by omega
  have hz69___1 : 69 + 1 < N := by omega
  have hz69___2 : 69 + 2 < N := by omega
  have hz69___3 : 69 + 3 < N := by omega
  have hz73 : 73 < N := by omega
  have hz1___1___3 : 1 + 1 + 3 < N := by omega
  have hz69___3 : 69 + 3 < N := by omega
  have hl : lv_has ls 5 [(0, .ref (ad 0)), (1, .int (nI w)), (2, .int y), (3, .int k9)] := hl
  refine lv_iload_n hx hb (dk kX5_put_ok 0 rfl) rfl (lv_at hl 1 rfl) ?_
  refine csPv (As := [.int (nI w)]) (rest := []) ⟨hx, hb, hml, hown, hts⟩ (tX5_requireWink_ok l (nI w) (wk_nI hw)) (cwS9 1 hts mcX5_requireWink (ac9 _ (List.mem_of_getElem? (i := 6) rfl)) msX5_requireWink mini_RX5 rfl rfl hdX5_requireWink ⟨Nat.le_of_ble_eq_true rfl, Nat.le_of_ble_eq_true rfl⟩) rfl hl.1 rfl (Nat.le_of_ble_eq_true rfl) (by decide) (dk kX5_put_ok 1 rfl) ?_
  refine lv_iload_n hx hb (dk kX5_put_ok 2 rfl) rfl (lv_at hl 2 rfl) ?_
  refine lv_iload_n hx hb (dk kX5_put_ok 3 rfl) rfl (lv_at hl 3 rfl) ?_
  refine csPv (As := [.int y, .int k9]) (rest := []) ⟨hx, hb, hml, hown, hts⟩ (tX5_requireCell_ok l y k9 hon) (cwS9 2 hts mcX5_requireCell (ac10 _ (List.mem_of_getElem? (i := 0) rfl)) msX5_requireCell mini_RX5 rfl rfl hdX5_requireCell ⟨Nat.le_of_ble_eq_true rfl, Nat.le_of_ble_eq_true rfl⟩) rfl hl.1 rfl (Nat.le_of_ble_eq_true rfl) (by decide) (dk kX5_put_ok 4 rfl) ?_
  refine lv_aload_n hx hb (dk kX5_put_ok 5 rfl) rfl (lv_at hl 0 rfl) ?_
  refine gf hx hb hts (fun w h => List.mem_cons_of_mem _ (acX5 w h)) hown hK hP hz0 hC rfl 0 (by decide) (hts _ (List.mem_cons_of_mem _ (ac7 _ (List.mem_of_getElem? (i := 21) rfl)))) (fun _ h => h) rfl (dk kX5_put_ok 6 rfl) ?_
  refine gfN hx hb hts (fun w h => List.mem_cons_of_mem _ (acX4 w h)) hown hK hP hz1 hN.1 rfl 0 (by decide) (nf2 hNW) (fun _ h => h) rfl (dk kX5_put_ok 7 rfl) ?_
  refine cvR (As := []) (rest := []) ⟨hx, hb, hml, hown, hts⟩ (tX1_isOver l D cI cQ cL ad N F (1 + 1) (by omega) c b v hN.2.1) (cwV9 0 hts mcX1_isOver (ac10 _ (List.mem_of_getElem? (i := 15) rfl)) miX1_isOver meX1_isOver mini_RX1 rfl rfl hdX1_isOver ⟨Nat.le_of_ble_eq_true rfl, Nat.le_of_ble_eq_true rfl⟩) hK hP hNW hz1___1 hN.2.1.1 rfl rfl hl.1 rfl (Nat.le_of_ble_eq_true rfl) (by decide) (dk kX5_put_ok 8 rfl) ?_
  refine b_if_ne (tgt := 36) hx hb (dk kX5_put_ok 9 rfl) (by decide) (fun h1 => ?_) (fun h1 => ?_)
  · exact absurd (hov.symm.trans h1) (by decide)
  · skip
    refine lv_aload_n hx hb (dk kX5_put_ok 10 rfl) rfl (lv_at hl 0 rfl) ?_
    refine gf hx hb hts (fun w h => List.mem_cons_of_mem _ (acX5 w h)) hown hK hP hz0 hC rfl 0 (by decide) (hts _ (List.mem_cons_of_mem _ (ac7 _ (List.mem_of_getElem? (i := 21) rfl)))) (fun _ h => h) rfl (dk kX5_put_ok 11 rfl) ?_
    refine gfN hx hb hts (fun w h => List.mem_cons_of_mem _ (acX4 w h)) hown hK hP hz1 hN.1 rfl 0 (by decide) (nf2 hNW) (fun _ h => h) rfl (dk kX5_put_ok 12 rfl) ?_
    refine lv_iload_n hx hb (dk kX5_put_ok 13 rfl) rfl (lv_at hl 1 rfl) ?_
    refine cvR (As := [.int (nI w)]) (rest := []) ⟨hx, hb, hml, hown, hts⟩ (tX1_isCovered l D cI cQ cL ad N F (1 + 1) (by omega) c b v hN.2.1 (nI w) w rfl (by omega)) (cwV9 1 hts mcX1_isCovered (ac10 _ (List.mem_of_getElem? (i := 16) rfl)) miX1_isCovered meX1_isCovered mini_RX1 rfl rfl hdX1_isCovered ⟨Nat.le_of_ble_eq_true rfl, Nat.le_of_ble_eq_true rfl⟩) hK hP hNW hz1___1 hN.2.1.1 rfl rfl hl.1 rfl (Nat.le_of_ble_eq_true rfl) (by decide) (dk kX5_put_ok 14 rfl) ?_
    refine b_if_eq (tgt := 46) hx hb (dk kX5_put_ok 15 rfl) (by decide) (fun h2 => ?_) (fun h2 => ?_)
    · exact absurd (hcv.symm.trans h2) (by decide)
    · skip
      exact hthr 63 67 121 36 "the wink can not be put" ls [] _ _ 0 0 (by decide) (by decide) hP hS hl.1 (dk kX5_put_ok 16 rfl) (dk kX5_put_ok 17 rfl) (dk kX5_put_ok 18 rfl) (dk kX5_put_ok 19 rfl) (dk kX5_put_ok 20 rfl) (by decide) (by decide) (by decide) (by decide) (by decide) (by decide)
set_option maxRecDepth 100000 in
set_option maxHeartbeats 4000000 in
theorem tX5_append (l : Launch) (D : va_G) (cI cQ cL : ClassId) (ad : Nat → Nat) (N : Nat) (F : Nat → va_E) (hk : 76 < N) (c b v g h j : Nat → Int32) (t : Nat) (u z : Int32) (hN : stAt cI ad F 1 c b v g h j (nI t) u z) (c8 b8 v8 g8 h8 j8 : Nat → Int32) (t8 : Nat) (u8 z8 : Int32) (hSn : stAt cI ad F 9 c8 b8 v8 g8 h8 j8 (nI t8) u8 z8) (n9 m9 : Nat) (hn9 : n9 < 6) (hm9 : m9 ≤ 6) (hPa : paAt cQ ad F 17 n9 m9) (a : Nat → Int32) (n : Nat) (hn60 : n ≤ 60) (hT : gtAt cI ad F 67 a n) (c6 b6 v6 : Nat → Int32) (hM6 : matAt cI ad F 69 c6 b6 v6) (a7 d7 q7 : Nat → Int32) (hO : roAt cI ad F 73 a7 d7 q7) (hs : Bool) (hC : F 0 = .inr (5, [.ref (ad 1), .ref (ad 9), .ref (ad 17), .ref (ad 67), .ref (ad 69), .ref (ad 73), .int (bI hs)])) (x : Int32) (hx9 : btw x (nI 33) (nI 126) = true) (hlt : n < 60) : MX l yX5_append (Cond.code yX5_append cX5_append 2 (some .int) :: AW) ({ frames := 1, cells := 0, slots := 0, locals := 21 } : Room) D cI cQ cL ad N F [.ref (ad 0), .int x] (dp (some (.int (nI (n + 1)))) (gtSet cI ad F 67 (upd a n x) (n + 1))) 0 0 := by
  refine mx_i (ty := .int) (by decide +kernel) rfl (Nat.le_of_ble_eq_true rfl) (fun p e s m below meth cd Q ls hx hb hml hown hts hDi hP hK hNW hS hret hl => ?_)
  have hown : s.vm.findClass RX5 = some m.cls := hown
  have hz0 : 0 < N := by omega
  have hz1 : 1 < N := by omega
  have hz1___1 : 1 + 1 < N := by omega
  have hz1___1___1 : 1 + 1 + 1 < N := by omega
  have hz1___1___2 : 1 + 1 + 2 < N := by omega
  have hz1___1___3 : 1 + 1 + 3 < N := by omega
  have hz1___5 : 1 + 5 < N := by omega
  have hz1___6 : 1 + 6 < N := by omega
  have hz1___7 : 1 + 7 < N := by omega
  have hz9 : 9 < N := by omega
  have hz17 : 17 < N := by omega
  have hz17___1 : 17 + 1 < N := by omega
  have hz67 : 67 < N := by omega
  have hz67___1 : 67 + 1 < N := by omega
  have hz69 : 69 < N := by omega
  have hz69___1 : 69 + 1 < N := by omega
  have hz69___2 : 69 + 2 < N := by omega
  have hz69___3 : 69 + 3 < N := by omega
  have hz73 : 73 < N := by omega
  have hz1___1___3 : 1 + 1 + 3 < N := by omega
  have hz69___3 : 69 + 3 < N := by omega
  have hl : lv_has ls 2 [(0, .ref (ad 0)), (1, .int x)] := hl
  refine lv_iload_n hx hb (dk kX5_append_ok 0 rfl) rfl (lv_at hl 1 rfl) ?_
  refine lv_bipush (v := nI 33) hx hb (dk kX5_append_ok 1 rfl) rfl ?_
  refine lv_icmp_lt (tgt := 12) hx hb (dk kX5_append_ok 2 rfl) (by decide) (fun h1 => ?_) (fun h1 => ?_)
  · exact absurd h1 (rng_ok hx9).1
  · skip
    refine lv_iload_n hx hb (dk kX5_append_ok 3 rfl) rfl (lv_at hl 1 rfl) ?_
    refine lv_bipush (v := nI 126) hx hb (dk kX5_append_ok 4 rfl) rfl ?_
    refine lv_icmp_le (tgt := 22) hx hb (dk kX5_append_ok 5 rfl) (by decide) (fun h2 => ?_) (fun h2 => ?_)
    · skip
      refine lv_aload_n hx hb (dk kX5_append_ok 11 rfl) rfl (lv_at hl 0 rfl) ?_
      refine gf hx hb hts (fun w h => List.mem_cons_of_mem _ (acX5 w h)) hown hK hP hz0 hC rfl 3 (by decide) (hts _ (List.mem_cons_of_mem _ (ac8 _ (List.mem_of_getElem? (i := 5) rfl)))) (fun _ h => h) rfl (dk kX5_append_ok 12 rfl) ?_
      refine gfN hx hb hts (fun w h => List.mem_cons_of_mem _ (acX0 w h)) hown hK hP hz67 hT.1 rfl 1 (by decide) (nf10 hNW) (fun _ h => h) rfl (dk kX5_append_ok 13 rfl) ?_
      refine lv_bipush (v := nI 60) hx hb (dk kX5_append_ok 14 rfl) rfl ?_
      refine n_icmp_lt (tgt := 44) hx hb (by omega) (by decide) (dk kX5_append_ok 15 rfl) (by decide) (fun h3 => ?_) (fun h3 => ?_)
      · skip
        refine lv_aload_n hx hb (dk kX5_append_ok 21 rfl) rfl (lv_at hl 0 rfl) ?_
        refine gf hx hb hts (fun w h => List.mem_cons_of_mem _ (acX5 w h)) hown hK hP hz0 hC rfl 3 (by decide) (hts _ (List.mem_cons_of_mem _ (ac8 _ (List.mem_of_getElem? (i := 5) rfl)))) (fun _ h => h) rfl (dk kX5_append_ok 22 rfl) ?_
        refine lv_iload_n hx hb (dk kX5_append_ok 23 rfl) rfl (lv_at hl 1 rfl) ?_
        refine cvDv (As := [.int x]) (rest := []) (gtSet cI ad F 67 (upd a n x) (n + 1)) ⟨hx, hb, hml, hown, hts⟩ (tX0_add l D cI cQ cL ad N F 67 (by omega) a n hn60 hT x) (cwV9 1 hts mcX0_add (ac10 _ (List.mem_of_getElem? (i := 18) rfl)) miX0_add meX0_add mini_RX0 rfl rfl hdX0_add ⟨Nat.le_of_ble_eq_true rfl, Nat.le_of_ble_eq_true rfl⟩) hDi hK hP hNW hS hz67 hT.1 rfl rfl hl.1 rfl (Nat.le_of_ble_eq_true rfl) (by decide) (dk kX5_append_ok 24 rfl) (if_pos (by omega)) (fun H locs hP hS => ?_)
        refine lv_aload_n hx hb (dk kX5_append_ok 25 rfl) rfl (lv_at hl 0 rfl) ?_
        refine gf hx hb hts (fun w h => List.mem_cons_of_mem _ (acX5 w h)) hown hK hP hz0 ((gtSet_out (by omega)).trans hC) rfl 3 (by decide) (hts _ (List.mem_cons_of_mem _ (ac8 _ (List.mem_of_getElem? (i := 5) rfl)))) (fun _ h => h) rfl (dk kX5_append_ok 26 rfl) ?_
        refine gfN hx hb hts (fun w h => List.mem_cons_of_mem _ (acX0 w h)) hown hK hP hz67 gtSet_at.1 rfl 1 (by decide) (nf10 hNW) (fun _ h => h) rfl (dk kX5_append_ok 27 rfl) ?_
        exact hret _ _ _ _ _ _ _ _ rfl (by exact ⟨rfl, rfl⟩) hP hS (by decide) (by decide) (dk kX5_append_ok 28 rfl)
      · exact absurd hlt (Nat.not_lt.mpr h3)
    · exact absurd (Int32.not_le.mp h2) (rng_ok hx9).2
set_option maxRecDepth 100000 in
set_option maxHeartbeats 4000000 in
theorem tX5_appendX_b1 (l : Launch) (hst : l.stackTraces = false) (D : va_G) (cI cQ cL : ClassId) (ad : Nat → Nat) (N : Nat) (F : Nat → va_E) (hk : 76 < N) (c b v g h j : Nat → Int32) (t : Nat) (u z : Int32) (hN : stAt cI ad F 1 c b v g h j (nI t) u z) (c8 b8 v8 g8 h8 j8 : Nat → Int32) (t8 : Nat) (u8 z8 : Int32) (hSn : stAt cI ad F 9 c8 b8 v8 g8 h8 j8 (nI t8) u8 z8) (n9 m9 : Nat) (hn9 : n9 < 6) (hm9 : m9 ≤ 6) (hPa : paAt cQ ad F 17 n9 m9) (a : Nat → Int32) (n : Nat) (hn60 : n ≤ 60) (hT : gtAt cI ad F 67 a n) (c6 b6 v6 : Nat → Int32) (hM6 : matAt cI ad F 69 c6 b6 v6) (a7 d7 q7 : Nat → Int32) (hO : roAt cI ad F 73 a7 d7 q7) (hs : Bool) (hC : F 0 = .inr (5, [.ref (ad 1), .ref (ad 9), .ref (ad 17), .ref (ad 67), .ref (ad 69), .ref (ad 73), .int (bI hs)])) (x : Int32) (hx9 : btw x (nI 33) (nI 126) = false) : MT l yX5_append (Cond.code yX5_append cX5_append 2 (some .int) :: AW) ({ frames := 6, cells := 1, slots := 6, locals := 82 } : Room) D cI cQ cL ad N F [.ref (ad 0), .int x] eA 1 6 := by
  refine mt_of (ret := (some .int)) hst (by decide +kernel) rfl (Nat.le_of_ble_eq_true rfl) (fun p e s m below meth cd Q ls hx hb hml hown hts hDi hP hK hNW hS hX hthr hthrW hout hl => ?_)
  have hown : s.vm.findClass RX5 = some m.cls := hown
  have hz0 : 0 < N := by omega
  have hz1 : 1 < N := by omega
  have hz1___1 : 1 + 1 < N := by omega
  have hz1___1___1 : 1 + 1 + 1 < N := by omega
  have hz1___1___2 : 1 + 1 + 2 < N := by omega
  have hz1___1___3 : 1 + 1 + 3 < N := by omega
  have hz1___5 : 1 + 5 < N := by omega
  have hz1___6 : 1 + 6 < N := by omega
  have hz1___7 : 1 + 7 < N := by omega
  have hz9 : 9 < N := by omega
  have hz17 : 17 < N := by omega
  have hz17___1 : 17 + 1 < N := by omega
  have hz67 : 67 < N := by omega
  have hz67___1 : 67 + 1 < N := by omega
  have hz69 : 69 < N := by omega
  have hz69___1 : 69 + 1 < N := by omega
  have hz69___2 : 69 + 2 < N := by omega
  have hz69___3 : 69 + 3 < N := by omega
  have hz73 : 73 < N := by omega
  have hz1___1___3 : 1 + 1 + 3 < N := by omega
  have hz69___3 : 69 + 3 < N := by omega
  have hl : lv_has ls 2 [(0, .ref (ad 0)), (1, .int x)] := hl
  refine lv_iload_n hx hb (dk kX5_append_ok 0 rfl) rfl (lv_at hl 1 rfl) ?_
  refine lv_bipush (v := nI 33) hx hb (dk kX5_append_ok 1 rfl) rfl ?_
  refine lv_icmp_lt (tgt := 12) hx hb (dk kX5_append_ok 2 rfl) (by decide) (fun h1 => ?_) (fun h1 => ?_)
  · skip
    exact hthr 104 108 126 12 "a character code is 33 to 126" ls [] _ _ 0 0 (by decide) (by decide) hP hS hl.1 (dk kX5_append_ok 6 rfl) (dk kX5_append_ok 7 rfl) (dk kX5_append_ok 8 rfl) (dk kX5_append_ok 9 rfl) (dk kX5_append_ok 10 rfl) (by decide) (by decide) (by decide) (by decide) (by decide) (by decide)
  · skip
    refine lv_iload_n hx hb (dk kX5_append_ok 3 rfl) rfl (lv_at hl 1 rfl) ?_
    refine lv_bipush (v := nI 126) hx hb (dk kX5_append_ok 4 rfl) rfl ?_
    refine lv_icmp_le (tgt := 22) hx hb (dk kX5_append_ok 5 rfl) (by decide) (fun h2 => ?_) (fun h2 => ?_)
    · exact (ff_tt hx9 (rng_bad h1 (Int32.not_lt.mpr h2))).elim
    · skip
      exact hthr 104 108 126 12 "a character code is 33 to 126" ls [] _ _ 0 0 (by decide) (by decide) hP hS hl.1 (dk kX5_append_ok 6 rfl) (dk kX5_append_ok 7 rfl) (dk kX5_append_ok 8 rfl) (dk kX5_append_ok 9 rfl) (dk kX5_append_ok 10 rfl) (by decide) (by decide) (by decide) (by decide) (by decide) (by decide)
set_option maxRecDepth 100000 in
set_option maxHeartbeats 4000000 in
theorem tX5_appendX_b2 (l : Launch) (hst : l.stackTraces = false) (D : va_G) (cI cQ cL : ClassId) (ad : Nat → Nat) (N : Nat) (F : Nat → va_E) (hk : 76 < N) (c b v g h j : Nat → Int32) (t : Nat) (u z : Int32) (hN : stAt cI ad F 1 c b v g h j (nI t) u z) (c8 b8 v8 g8 h8 j8 : Nat → Int32) (t8 : Nat) (u8 z8 : Int32) (hSn : stAt cI ad F 9 c8 b8 v8 g8 h8 j8 (nI t8) u8 z8) (n9 m9 : Nat) (hn9 : n9 < 6) (hm9 : m9 ≤ 6) (hPa : paAt cQ ad F 17 n9 m9) (a : Nat → Int32) (n : Nat) (hn60 : n ≤ 60) (hT : gtAt cI ad F 67 a n) (c6 b6 v6 : Nat → Int32) (hM6 : matAt cI ad F 69 c6 b6 v6) (a7 d7 q7 : Nat → Int32) (hO : roAt cI ad F 73 a7 d7 q7) (hs : Bool) (hC : F 0 = .inr (5, [.ref (ad 1), .ref (ad 9), .ref (ad 17), .ref (ad 67), .ref (ad 69), .ref (ad 73), .int (bI hs)])) (x : Int32) (hx9 : btw x (nI 33) (nI 126) = true) (hge : 60 ≤ n) : MT l yX5_append (Cond.code yX5_append cX5_append 2 (some .int) :: AW) ({ frames := 6, cells := 1, slots := 6, locals := 82 } : Room) D cI cQ cL ad N F [.ref (ad 0), .int x] eS 1 6 := by
  refine mt_of (ret := (some .int)) hst (by decide +kernel) rfl (Nat.le_of_ble_eq_true rfl) (fun p e s m below meth cd Q ls hx hb hml hown hts hDi hP hK hNW hS hX hthr hthrW hout hl => ?_)
  have hown : s.vm.findClass RX5 = some m.cls := hown
  have hz0 : 0 < N := by omega
  have hz1 : 1 < N := by omega
  have hz1___1 : 1 + 1 < N := by omega
  have hz1___1___1 : 1 + 1 + 1 < N := by omega
  have hz1___1___2 : 1 + 1 + 2 < N := by omega
  have hz1___1___3 : 1 + 1 + 3 < N := by omega
  have hz1___5 : 1 + 5 < N := by omega
  have hz1___6 : 1 + 6 < N := by omega
  have hz1___7 : 1 + 7 < N := by omega
  have hz9 : 9 < N := by omega
  have hz17 : 17 < N := by omega
  have hz17___1 : 17 + 1 < N := by omega
  have hz67 : 67 < N := by omega
  have hz67___1 : 67 + 1 < N := by omega
  have hz69 : 69 < N := by omega
  have hz69___1 : 69 + 1 < N := by omega
  have hz69___2 : 69 + 2 < N := by omega
  have hz69___3 : 69 + 3 < N := by omega
  have hz73 : 73 < N := by omega
  have hz1___1___3 : 1 + 1 + 3 < N := by omega
  have hz69___3 : 69 + 3 < N := by omega
  have hl : lv_has ls 2 [(0, .ref (ad 0)), (1, .int x)] := hl
  refine lv_iload_n hx hb (dk kX5_append_ok 0 rfl) rfl (lv_at hl 1 rfl) ?_
  refine lv_bipush (v := nI 33) hx hb (dk kX5_append_ok 1 rfl) rfl ?_
  refine lv_icmp_lt (tgt := 12) hx hb (dk kX5_append_ok 2 rfl) (by decide) (fun h1 => ?_) (fun h1 => ?_)
  · exact absurd h1 (rng_ok hx9).1
  · skip
    refine lv_iload_n hx hb (dk kX5_append_ok 3 rfl) rfl (lv_at hl 1 rfl) ?_
    refine lv_bipush (v := nI 126) hx hb (dk kX5_append_ok 4 rfl) rfl ?_
    refine lv_icmp_le (tgt := 22) hx hb (dk kX5_append_ok 5 rfl) (by decide) (fun h2 => ?_) (fun h2 => ?_)
    · skip
      refine lv_aload_n hx hb (dk kX5_append_ok 11 rfl) rfl (lv_at hl 0 rfl) ?_
      refine gf hx hb hts (fun w h => List.mem_cons_of_mem _ (acX5 w h)) hown hK hP hz0 hC rfl 3 (by decide) (hts _ (List.mem_cons_of_mem _ (ac8 _ (List.mem_of_getElem? (i := 5) rfl)))) (fun _ h => h) rfl (dk kX5_append_ok 12 rfl) ?_
      refine gfN hx hb hts (fun w h => List.mem_cons_of_mem _ (acX0 w h)) hown hK hP hz67 hT.1 rfl 1 (by decide) (nf10 hNW) (fun _ h => h) rfl (dk kX5_append_ok 13 rfl) ?_
      refine lv_bipush (v := nI 60) hx hb (dk kX5_append_ok 14 rfl) rfl ?_
      refine n_icmp_lt (tgt := 44) hx hb (by omega) (by decide) (dk kX5_append_ok 15 rfl) (by decide) (fun h3 => ?_) (fun h3 => ?_)
      · exact absurd h3 (Nat.not_lt.mpr hge)
      · skip
        exact hthr 63 67 131 34 "the buffer is full" ls [] _ _ 0 0 (by decide) (by decide) hP hS hl.1 (dk kX5_append_ok 16 rfl) (dk kX5_append_ok 17 rfl) (dk kX5_append_ok 18 rfl) (dk kX5_append_ok 19 rfl) (dk kX5_append_ok 20 rfl) (by decide) (by decide) (by decide) (by decide) (by decide) (by decide)
    · exact absurd (Int32.not_le.mp h2) (rng_ok hx9).2
set_option maxRecDepth 100000 in
set_option maxHeartbeats 4000000 in
theorem tX5_clearBuffer (l : Launch) (D : va_G) (cI cQ cL : ClassId) (ad : Nat → Nat) (N : Nat) (F : Nat → va_E) (hk : 76 < N) (c b v g h j : Nat → Int32) (t : Nat) (u z : Int32) (hN : stAt cI ad F 1 c b v g h j (nI t) u z) (c8 b8 v8 g8 h8 j8 : Nat → Int32) (t8 : Nat) (u8 z8 : Int32) (hSn : stAt cI ad F 9 c8 b8 v8 g8 h8 j8 (nI t8) u8 z8) (n9 m9 : Nat) (hn9 : n9 < 6) (hm9 : m9 ≤ 6) (hPa : paAt cQ ad F 17 n9 m9) (a : Nat → Int32) (n : Nat) (hn60 : n ≤ 60) (hT : gtAt cI ad F 67 a n) (c6 b6 v6 : Nat → Int32) (hM6 : matAt cI ad F 69 c6 b6 v6) (a7 d7 q7 : Nat → Int32) (hO : roAt cI ad F 73 a7 d7 q7) (hs : Bool) (hC : F 0 = .inr (5, [.ref (ad 1), .ref (ad 9), .ref (ad 17), .ref (ad 67), .ref (ad 69), .ref (ad 73), .int (bI hs)])) : MX l yX5_clearBuffer (Cond.code yX5_clearBuffer cX5_clearBuffer 2 (some .int) :: AW) ({ frames := 0, cells := 0, slots := 0, locals := 0 } : Room) D cI cQ cL ad N F [.ref (ad 0)] (dp (some (.int (nI n))) (gtSet cI ad F 67 a 0)) 0 0 := by
  refine mx_i (ty := .int) (by decide +kernel) rfl (Nat.le_of_ble_eq_true rfl) (fun p e s m below meth cd Q ls hx hb hml hown hts hDi hP hK hNW hS hret hl => ?_)
  have hown : s.vm.findClass RX5 = some m.cls := hown
  have hz0 : 0 < N := by omega
  have hz1 : 1 < N := by omega
  have hz1___1 : 1 + 1 < N := by omega
  have hz1___1___1 : 1 + 1 + 1 < N := by omega
  have hz1___1___2 : 1 + 1 + 2 < N := by omega
  have hz1___1___3 : 1 + 1 + 3 < N := by omega
  have hz1___5 : 1 + 5 < N := by omega
  have hz1___6 : 1 + 6 < N := by omega
  have hz1___7 : 1 + 7 < N := by omega
  have hz9 : 9 < N := by omega
  have hz17 : 17 < N := by omega
  have hz17___1 : 17 + 1 < N := by omega
  have hz67 : 67 < N := by omega
  have hz67___1 : 67 + 1 < N := by omega
  have hz69 : 69 < N := by omega
  have hz69___1 : 69 + 1 < N := by omega
  have hz69___2 : 69 + 2 < N := by omega
  have hz69___3 : 69 + 3 < N := by omega
  have hz73 : 73 < N := by omega
  have hz1___1___3 : 1 + 1 + 3 < N := by omega
  have hz69___3 : 69 + 3 < N := by omega
  have hl : lv_has ls 2 [(0, .ref (ad 0))] := hl
  refine lv_aload_n hx hb (dk kX5_clearBuffer_ok 0 rfl) rfl (lv_at hl 0 rfl) ?_
  refine gf hx hb hts (fun w h => List.mem_cons_of_mem _ (acX5 w h)) hown hK hP hz0 hC rfl 3 (by decide) (hts _ (List.mem_cons_of_mem _ (ac8 _ (List.mem_of_getElem? (i := 5) rfl)))) (fun _ h => h) rfl (dk kX5_clearBuffer_ok 1 rfl) ?_
  refine gfN hx hb hts (fun w h => List.mem_cons_of_mem _ (acX0 w h)) hown hK hP hz67 hT.1 rfl 1 (by decide) (nf10 hNW) (fun _ h => h) rfl (dk kX5_clearBuffer_ok 2 rfl) ?_
  refine lv_istore_n (lv' := [(1, .int (nI n)), (0, .ref (ad 0))]) hx hb (dk kX5_clearBuffer_ok 3 rfl) rfl hl (by decide) rfl (fun ls hl => ?_)
  refine lv_aload_n hx hb (dk kX5_clearBuffer_ok 4 rfl) rfl (lv_at hl 1 rfl) ?_
  refine gf hx hb hts (fun w h => List.mem_cons_of_mem _ (acX5 w h)) hown hK hP hz0 hC rfl 3 (by decide) (hts _ (List.mem_cons_of_mem _ (ac8 _ (List.mem_of_getElem? (i := 5) rfl)))) (fun _ h => h) rfl (dk kX5_clearBuffer_ok 5 rfl) ?_
  refine lv_iconst (v := nI 0) hx hb (dk kX5_clearBuffer_ok 6 rfl) rfl ?_
  replace hP := gt_touch hT hP
  refine pfN (gtSet cI ad F 67 a 0) hx hb hts (fun w h => List.mem_cons_of_mem _ (acX0 w h)) tyX0 tyX0_ok nmX0 hown hK hDi hP hS hz67 gtSet_at.1 rfl 1 (by decide) (nf10 hNW) (fun _ h => h) rfl (ty := .int) rfl rfl rfl (Nat.le_of_ble_eq_true rfl) (dk kX5_clearBuffer_ok 7 rfl) gtSet_u0 (fun H locs hP hS => ?_)
  refine lv_iload_n hx hb (dk kX5_clearBuffer_ok 8 rfl) rfl (lv_at hl 0 rfl) ?_
  exact hret _ _ _ _ _ _ _ _ rfl (by exact ⟨rfl, rfl⟩) hP hS (by decide) (by decide) (dk kX5_clearBuffer_ok 9 rfl)
set_option maxRecDepth 100000 in
set_option maxHeartbeats 4000000 in
theorem tX5_firstError (l : Launch) (D : va_G) (cI cQ cL : ClassId) (ad : Nat → Nat) (N : Nat) (F : Nat → va_E) (hk : 76 < N) (c b v g h j : Nat → Int32) (t : Nat) (u z : Int32) (hN : stAt cI ad F 1 c b v g h j (nI t) u z) (c8 b8 v8 g8 h8 j8 : Nat → Int32) (t8 : Nat) (u8 z8 : Int32) (hSn : stAt cI ad F 9 c8 b8 v8 g8 h8 j8 (nI t8) u8 z8) (n9 m9 : Nat) (hn9 : n9 < 6) (hm9 : m9 ≤ 6) (hPa : paAt cQ ad F 17 n9 m9) (a : Nat → Int32) (n : Nat) (hn60 : n ≤ 60) (hT : gtAt cI ad F 67 a n) (c6 b6 v6 : Nat → Int32) (hM6 : matAt cI ad F 69 c6 b6 v6) (a7 d7 q7 : Nat → Int32) (hO : roAt cI ad F 73 a7 d7 q7) (hs : Bool) (hC : F 0 = .inr (5, [.ref (ad 1), .ref (ad 9), .ref (ad 17), .ref (ad 67), .ref (ad 69), .ref (ad 73), .int (bI hs)])) : MR l yX5_firstError (Cond.code yX5_firstError cX5_firstError 1 (some .int) :: AW) ({ frames := 6, cells := 0, slots := 0, locals := 82 } : Room) D cI cQ cL ad N F [.ref (ad 0)] (.int (nI (eri a n 0 (nI 0)))) := by
  refine mr_i (ty := .int) (by decide +kernel) rfl rfl rfl rfl (Nat.le_of_ble_eq_true rfl) (fun p e s m below meth cd Q ls hx hb hml hown hts hP hK hNW hret hl => ?_)
  have hown : s.vm.findClass RX5 = some m.cls := hown
  have hz0 : 0 < N := by omega
  have hz1 : 1 < N := by omega
  have hz1___1 : 1 + 1 < N := by omega
  have hz1___1___1 : 1 + 1 + 1 < N := by omega
  have hz1___1___2 : 1 + 1 + 2 < N := by omega
  have hz1___1___3 : 1 + 1 + 3 < N := by omega
  have hz1___5 : 1 + 5 < N := by omega
  have hz1___6 : 1 + 6 < N := by omega
  have hz1___7 : 1 + 7 < N := by omega
  have hz9 : 9 < N := by omega
  have hz17 : 17 < N := by omega
  have hz17___1 : 17 + 1 < N := by omega
  have hz67 : 67 < N := by omega
  have hz67___1 : 67 + 1 < N := by omega
  have hz69 : 69 < N := by omega
  have hz69___1 : 69 + 1 < N := by omega
  have hz69___2 : 69 + 2 < N := by omega
  have hz69___3 : 69 + 3 < N := by omega
  have hz73 : 73 < N := by omega
  have hz1___1___3 : 1 + 1 + 3 < N := by omega
  have hz69___3 : 69 + 3 < N := by omega
  have hl : lv_has ls 1 [(0, .ref (ad 0))] := hl
  refine lv_aload_n hx hb (dk kX5_firstError_ok 0 rfl) rfl (lv_at hl 0 rfl) ?_
  refine gf hx hb hts (fun w h => List.mem_cons_of_mem _ (acX5 w h)) hown hK hP hz0 hC rfl 3 (by decide) (hts _ (List.mem_cons_of_mem _ (ac8 _ (List.mem_of_getElem? (i := 5) rfl)))) (fun _ h => h) rfl (dk kX5_firstError_ok 1 rfl) ?_
  refine cvR (As := []) (rest := []) ⟨hx, hb, hml, hown, hts⟩ (tX0_errorIndex l D cI cQ cL ad N F 67 (by omega) a n hn60 hT) (cwV9 0 hts mcX0_errorIndex (ac10 _ (List.mem_of_getElem? (i := 22) rfl)) miX0_errorIndex meX0_errorIndex mini_RX0 rfl rfl hdX0_errorIndex ⟨Nat.le_of_ble_eq_true rfl, Nat.le_of_ble_eq_true rfl⟩) hK hP hNW hz67 hT.1 rfl rfl hl.1 rfl (Nat.le_of_ble_eq_true rfl) (by decide) (dk kX5_firstError_ok 2 rfl) ?_
  exact hret _ _ _ (by rfl) (dk kX5_firstError_ok 3 rfl)
set_option maxRecDepth 100000 in
set_option maxHeartbeats 4000000 in
theorem tX5_keep (l : Launch) (D : va_G) (cI cQ cL : ClassId) (ad : Nat → Nat) (N : Nat) (F : Nat → va_E) (hk : 76 < N) (c b v g h j : Nat → Int32) (t : Nat) (u z : Int32) (hN : stAt cI ad F 1 c b v g h j (nI t) u z) (c8 b8 v8 g8 h8 j8 : Nat → Int32) (t8 : Nat) (u8 z8 : Int32) (hSn : stAt cI ad F 9 c8 b8 v8 g8 h8 j8 (nI t8) u8 z8) (n9 m9 : Nat) (hn9 : n9 < 6) (hm9 : m9 ≤ 6) (hPa : paAt cQ ad F 17 n9 m9) (a : Nat → Int32) (n : Nat) (hn60 : n ≤ 60) (hT : gtAt cI ad F 67 a n) (c6 b6 v6 : Nat → Int32) (hM6 : matAt cI ad F 69 c6 b6 v6) (a7 d7 q7 : Nat → Int32) (hO : roAt cI ad F 73 a7 d7 q7) (hs : Bool) (hC : F 0 = .inr (5, [.ref (ad 1), .ref (ad 9), .ref (ad 17), .ref (ad 67), .ref (ad 69), .ref (ad 73), .int (bI hs)])) : MX l yX5_keep (Cond.code yX5_keep cX5_keep 1 (some .int) :: AW) ({ frames := 3, cells := 0, slots := 0, locals := 60 } : Room) D cI cQ cL ad N F [.ref (ad 0)] (dp (some (.int (nI (potn c)))) (va_up (sSet cI ad F 9 c b v g h j (nI t) u z) 0 (.inr (5, [.ref (ad 1), .ref (ad 9), .ref (ad 17), .ref (ad 67), .ref (ad 69), .ref (ad 73), .int (bI true)])))) 0 0 := by
  refine mx_i (ty := .int) (by decide +kernel) rfl (Nat.le_of_ble_eq_true rfl) (fun p e s m below meth cd Q ls hx hb hml hown hts hDi hP hK hNW hS hret hl => ?_)
  have hown : s.vm.findClass RX5 = some m.cls := hown
  have hz0 : 0 < N := by omega
  have hz1 : 1 < N := by omega
  have hz1___1 : 1 + 1 < N := by omega
  have hz1___1___1 : 1 + 1 + 1 < N := by omega
  have hz1___1___2 : 1 + 1 + 2 < N := by omega
  have hz1___1___3 : 1 + 1 + 3 < N := by omega
  have hz1___5 : 1 + 5 < N := by omega
  have hz1___6 : 1 + 6 < N := by omega
  have hz1___7 : 1 + 7 < N := by omega
  have hz9 : 9 < N := by omega
  have hz17 : 17 < N := by omega
  have hz17___1 : 17 + 1 < N := by omega
  have hz67 : 67 < N := by omega
  have hz67___1 : 67 + 1 < N := by omega
  have hz69 : 69 < N := by omega
  have hz69___1 : 69 + 1 < N := by omega
  have hz69___2 : 69 + 2 < N := by omega
  have hz69___3 : 69 + 3 < N := by omega
  have hz73 : 73 < N := by omega
  have hz1___1___3 : 1 + 1 + 3 < N := by omega
  have hz69___3 : 69 + 3 < N := by omega
  have hl : lv_has ls 1 [(0, .ref (ad 0))] := hl
  refine lv_aload_n hx hb (dk kX5_keep_ok 0 rfl) rfl (lv_at hl 0 rfl) ?_
  refine gf hx hb hts (fun w h => List.mem_cons_of_mem _ (acX5 w h)) hown hK hP hz0 hC rfl 1 (by decide) (hts _ (List.mem_cons_of_mem _ (ac7 _ (List.mem_of_getElem? (i := 22) rfl)))) (fun _ h => h) rfl (dk kX5_keep_ok 1 rfl) ?_
  refine lv_aload_n hx hb (dk kX5_keep_ok 2 rfl) rfl (lv_at hl 0 rfl) ?_
  refine gf hx hb hts (fun w h => List.mem_cons_of_mem _ (acX5 w h)) hown hK hP hz0 hC rfl 0 (by decide) (hts _ (List.mem_cons_of_mem _ (ac7 _ (List.mem_of_getElem? (i := 21) rfl)))) (fun _ h => h) rfl (dk kX5_keep_ok 3 rfl) ?_
  refine cvDv (As := [.ref (ad 1)]) (rest := []) (sSet cI ad F 9 c b v g h j (nI t) u z) ⟨hx, hb, hml, hown, hts⟩ (tX4_copyFrom l D cI cQ cL ad N F 9 (by omega) c8 b8 v8 g8 h8 j8 t8 u8 z8 hSn 1 (by omega) c b v g h j t u z hN (by omega)) (cwV9 1 hts mcX4_copyFrom (ac11 _ (List.mem_of_getElem? (i := 19) rfl)) miX4_copyFrom meX4_copyFrom mini_RX4 rfl rfl hdX4_copyFrom ⟨Nat.le_of_ble_eq_true rfl, Nat.le_of_ble_eq_true rfl⟩) hDi hK hP hNW hS hz9 hSn.1 rfl rfl hl.1 rfl (Nat.le_of_ble_eq_true rfl) (by decide) (dk kX5_keep_ok 4 rfl) rfl (fun H locs hP hS => ?_)
  refine lv_aload_n hx hb (dk kX5_keep_ok 5 rfl) rfl (lv_at hl 0 rfl) ?_
  refine lv_iconst (v := nI 1) hx hb (dk kX5_keep_ok 6 rfl) rfl ?_
  refine pf (va_up (sSet cI ad F 9 c b v g h j (nI t) u z) 0 (.inr (5, [.ref (ad 1), .ref (ad 9), .ref (ad 17), .ref (ad 67), .ref (ad 69), .ref (ad 73), .int (bI true)]))) hx hb hts (fun w h => List.mem_cons_of_mem _ (acX5 w h)) tyX5 tyX5_ok nmX5 hown hK hDi hP hS hz0 ((sSet_out (by omega)).trans hC) rfl 6 (by decide) (hts _ (List.mem_cons_of_mem _ (ac8 _ (List.mem_of_getElem? (i := 11) rfl)))) (fun _ h => h) rfl (ty := .boolean) rfl rfl rfl (Nat.le_of_ble_eq_true rfl) (dk kX5_keep_ok 7 rfl) rfl (fun H locs hP hS => ?_)
  refine lv_aload_n hx hb (dk kX5_keep_ok 8 rfl) rfl (lv_at hl 0 rfl) ?_
  refine gf hx hb hts (fun w h => List.mem_cons_of_mem _ (acX5 w h)) hown hK hP hz0 (va_up_self _ _ _) rfl 0 (by decide) (hts _ (List.mem_cons_of_mem _ (ac7 _ (List.mem_of_getElem? (i := 21) rfl)))) (fun _ h => h) rfl (dk kX5_keep_ok 9 rfl) ?_
  refine gfN hx hb hts (fun w h => List.mem_cons_of_mem _ (acX4 w h)) hown hK hP hz1 (stAt_keep (stAt_keep hN (fun i _ _ => sSet_out (by omega))) (fun i _ _ => va_up_ne _ _ (by omega))).1 rfl 0 (by decide) (nf2 hNW) (fun _ h => h) rfl (dk kX5_keep_ok 10 rfl) ?_
  refine cvR (As := []) (rest := []) ⟨hx, hb, hml, hown, hts⟩ (tX1_potted l D cI cQ cL ad N (va_up (sSet cI ad F 9 c b v g h j (nI t) u z) 0 (.inr (5, [.ref (ad 1), .ref (ad 9), .ref (ad 17), .ref (ad 67), .ref (ad 69), .ref (ad 73), .int (bI true)]))) (1 + 1) (by omega) c b v (stAt_keep (stAt_keep hN (fun i _ _ => sSet_out (by omega))) (fun i _ _ => va_up_ne _ _ (by omega))).2.1) (cwV9 0 hts mcX1_potted (ac11 _ (List.mem_of_getElem? (i := 20) rfl)) miX1_potted meX1_potted mini_RX1 rfl rfl hdX1_potted ⟨Nat.le_of_ble_eq_true rfl, Nat.le_of_ble_eq_true rfl⟩) hK hP hNW hz1___1 (stAt_keep (stAt_keep hN (fun i _ _ => sSet_out (by omega))) (fun i _ _ => va_up_ne _ _ (by omega))).2.1.1 rfl rfl hl.1 rfl (Nat.le_of_ble_eq_true rfl) (by decide) (dk kX5_keep_ok 11 rfl) ?_
  exact hret _ _ _ _ _ _ _ _ rfl (by exact ⟨rfl, rfl⟩) hP hS (by decide) (by decide) (dk kX5_keep_ok 12 rfl)
set_option maxRecDepth 100000 in
set_option maxHeartbeats 4000000 in
theorem tX5_goBack (l : Launch) (D : va_G) (cI cQ cL : ClassId) (ad : Nat → Nat) (N : Nat) (F : Nat → va_E) (hk : 76 < N) (c b v g h j : Nat → Int32) (t : Nat) (u z : Int32) (hN : stAt cI ad F 1 c b v g h j (nI t) u z) (c8 b8 v8 g8 h8 j8 : Nat → Int32) (t8 : Nat) (u8 z8 : Int32) (hSn : stAt cI ad F 9 c8 b8 v8 g8 h8 j8 (nI t8) u8 z8) (n9 m9 : Nat) (hn9 : n9 < 6) (hm9 : m9 ≤ 6) (hPa : paAt cQ ad F 17 n9 m9) (a : Nat → Int32) (n : Nat) (hn60 : n ≤ 60) (hT : gtAt cI ad F 67 a n) (c6 b6 v6 : Nat → Int32) (hM6 : matAt cI ad F 69 c6 b6 v6) (a7 d7 q7 : Nat → Int32) (hO : roAt cI ad F 73 a7 d7 q7) (hs : Bool) (hC : F 0 = .inr (5, [.ref (ad 1), .ref (ad 9), .ref (ad 17), .ref (ad 67), .ref (ad 69), .ref (ad 73), .int (bI hs)])) (cr br vr gr hr9 jr : Nat → Int32) (tr : Nat) (ur zr : Int32) (hRi : stAt cI ad F (17 + 2 + 8 * n9) cr br vr gr hr9 jr (nI tr) ur zr) (hh : hs = true) : MX l yX5_goBack (Cond.code yX5_goBack cX5_goBack 1 (some .int) :: AW) ({ frames := 4, cells := 0, slots := 0, locals := 81 } : Room) D cI cQ cL ad N F [.ref (ad 0)] (dp (some (.int (nI (potn c8)))) (sSet cI ad (paSet cQ ad (sSet cI ad F (17 + 2 + 8 * n9) c b v g h j (nI t) u z) 17 ((n9 + 1) % 6) (min (m9 + 1) 6)) 1 c8 b8 v8 g8 h8 j8 (nI t8) u8 z8)) 0 0 := by
  refine mx_i (ty := .int) (by decide +kernel) rfl (Nat.le_of_ble_eq_true rfl) (fun p e s m below meth cd Q ls hx hb hml hown hts hDi hP hK hNW hS hret hl => ?_)
  have hown : s.vm.findClass RX5 = some m.cls := hown
  have hz0 : 0 < N := by omega
  have hz1 : 1 < N := by omega
  have hz1___1 : 1 + 1 < N := by omega
  have hz1___1___1 : 1 + 1 + 1 < N := by omega
  have hz1___1___2 : 1 + 1 + 2 < N := by omega
  have hz1___1___3 : 1 + 1 + 3 < N := by omega
  have hz1___5 : 1 + 5 < N := by omega
  have hz1___6 : 1 + 6 < N := by omega
  have hz1___7 : 1 + 7 < N := by omega
  have hz9 : 9 < N := by omega
  have hz17 : 17 < N := by omega
  have hz17___1 : 17 + 1 < N := by omega
  have hz67 : 67 < N := by omega
  have hz67___1 : 67 + 1 < N := by omega
  have hz69 : 69 < N := by omega
  have hz69___1 : 69 + 1 < N := by omega
  have hz69___2 : 69 + 2 < N := by omega
  have hz69___3 : 69 + 3 < N := by omega
  have hz73 : 73 < N := by omega
  have hz1___1___3 : 1 + 1 + 3 < N := by omega
  have hz69___3 : 69 + 3 < N := by omega
  have hl : lv_has ls 1 [(0, .ref (ad 0))] := hl
  refine lv_aload_n hx hb (dk kX5_goBack_ok 0 rfl) rfl (lv_at hl 0 rfl) ?_
  refine gf hx hb hts (fun w h => List.mem_cons_of_mem _ (acX5 w h)) hown hK hP hz0 hC rfl 6 (by decide) (hts _ (List.mem_cons_of_mem _ (ac8 _ (List.mem_of_getElem? (i := 11) rfl)))) (fun _ h => h) rfl (dk kX5_goBack_ok 1 rfl) ?_
  refine b_if_ne (tgt := 17) hx hb (dk kX5_goBack_ok 2 rfl) (by decide) (fun h1 => ?_) (fun h1 => ?_)
  · skip
    refine lv_aload_n hx hb (dk kX5_goBack_ok 8 rfl) rfl (lv_at hl 0 rfl) ?_
    refine gf hx hb hts (fun w h => List.mem_cons_of_mem _ (acX5 w h)) hown hK hP hz0 hC rfl 2 (by decide) (hts _ (List.mem_cons_of_mem _ (ac8 _ (List.mem_of_getElem? (i := 2) rfl)))) (fun _ h => h) rfl (dk kX5_goBack_ok 9 rfl) ?_
    refine lv_aload_n hx hb (dk kX5_goBack_ok 10 rfl) rfl (lv_at hl 0 rfl) ?_
    refine gf hx hb hts (fun w h => List.mem_cons_of_mem _ (acX5 w h)) hown hK hP hz0 hC rfl 0 (by decide) (hts _ (List.mem_cons_of_mem _ (ac7 _ (List.mem_of_getElem? (i := 21) rfl)))) (fun _ h => h) rfl (dk kX5_goBack_ok 11 rfl) ?_
    refine cvDv (As := [.ref (ad 1)]) (rest := []) (paSet cQ ad (sSet cI ad F (17 + 2 + 8 * n9) c b v g h j (nI t) u z) 17 ((n9 + 1) % 6) (min (m9 + 1) 6)) ⟨hx, hb, hml, hown, hts⟩ (tX2_save l D cI cQ cL ad N F 17 n9 m9 hn9 hm9 (by omega) hPa cr br vr gr hr9 jr tr ur zr hRi (by omega) 1 (by omega) c b v g h j t u z hN (by omega)) (cwV9 1 hts mcX2_save (ac9 _ (List.mem_of_getElem? (i := 16) rfl)) miX2_save meX2_save mini_RX2 rfl rfl hdX2_save ⟨Nat.le_of_ble_eq_true rfl, Nat.le_of_ble_eq_true rfl⟩) hDi hK hP hNW hS hz17 hPa.1 rfl rfl hl.1 rfl (Nat.le_of_ble_eq_true rfl) (by decide) (dk kX5_goBack_ok 12 rfl) rfl (fun H locs hP hS => ?_)
    refine lv_aload_n hx hb (dk kX5_goBack_ok 13 rfl) rfl (lv_at hl 0 rfl) ?_
    refine gf hx hb hts (fun w h => List.mem_cons_of_mem _ (acX5 w h)) hown hK hP hz0 ((paSet_out (by omega)).trans ((sSet_out (by omega)).trans hC)) rfl 0 (by decide) (hts _ (List.mem_cons_of_mem _ (ac7 _ (List.mem_of_getElem? (i := 21) rfl)))) (fun _ h => h) rfl (dk kX5_goBack_ok 14 rfl) ?_
    refine lv_aload_n hx hb (dk kX5_goBack_ok 15 rfl) rfl (lv_at hl 0 rfl) ?_
    refine gf hx hb hts (fun w h => List.mem_cons_of_mem _ (acX5 w h)) hown hK hP hz0 ((paSet_out (by omega)).trans ((sSet_out (by omega)).trans hC)) rfl 1 (by decide) (hts _ (List.mem_cons_of_mem _ (ac7 _ (List.mem_of_getElem? (i := 22) rfl)))) (fun _ h => h) rfl (dk kX5_goBack_ok 16 rfl) ?_
    refine cvDv (As := [.ref (ad 9)]) (rest := []) (sSet cI ad (paSet cQ ad (sSet cI ad F (17 + 2 + 8 * n9) c b v g h j (nI t) u z) 17 ((n9 + 1) % 6) (min (m9 + 1) 6)) 1 c8 b8 v8 g8 h8 j8 (nI t8) u8 z8) ⟨hx, hb, hml, hown, hts⟩ (tX4_copyFrom l D cI cQ cL ad N (paSet cQ ad (sSet cI ad F (17 + 2 + 8 * n9) c b v g h j (nI t) u z) 17 ((n9 + 1) % 6) (min (m9 + 1) 6)) 1 (by omega) c b v g h j t u z (stAt_keep (stAt_keep hN (fun i _ _ => sSet_out (by omega))) (fun i _ _ => paSet_out (by omega))) 9 (by omega) c8 b8 v8 g8 h8 j8 t8 u8 z8 (stAt_keep (stAt_keep hSn (fun i _ _ => sSet_out (by omega))) (fun i _ _ => paSet_out (by omega))) (by omega)) (cwV9 1 hts mcX4_copyFrom (ac11 _ (List.mem_of_getElem? (i := 19) rfl)) miX4_copyFrom meX4_copyFrom mini_RX4 rfl rfl hdX4_copyFrom ⟨Nat.le_of_ble_eq_true rfl, Nat.le_of_ble_eq_true rfl⟩) hDi hK hP hNW hS hz1 (stAt_keep (stAt_keep hN (fun i _ _ => sSet_out (by omega))) (fun i _ _ => paSet_out (by omega))).1 rfl rfl hl.1 rfl (Nat.le_of_ble_eq_true rfl) (by decide) (dk kX5_goBack_ok 17 rfl) rfl (fun H locs hP hS => ?_)
    refine lv_aload_n hx hb (dk kX5_goBack_ok 18 rfl) rfl (lv_at hl 0 rfl) ?_
    refine gf hx hb hts (fun w h => List.mem_cons_of_mem _ (acX5 w h)) hown hK hP hz0 ((sSet_out (by omega)).trans ((paSet_out (by omega)).trans ((sSet_out (by omega)).trans hC))) rfl 0 (by decide) (hts _ (List.mem_cons_of_mem _ (ac7 _ (List.mem_of_getElem? (i := 21) rfl)))) (fun _ h => h) rfl (dk kX5_goBack_ok 19 rfl) ?_
    refine gfN hx hb hts (fun w h => List.mem_cons_of_mem _ (acX4 w h)) hown hK hP hz1 (sSet_at (stAt_keep (stAt_keep hN (fun i _ _ => sSet_out (by omega))) (fun i _ _ => paSet_out (by omega)))).1 rfl 0 (by decide) (nf2 hNW) (fun _ h => h) rfl (dk kX5_goBack_ok 20 rfl) ?_
    refine cvR (As := []) (rest := []) ⟨hx, hb, hml, hown, hts⟩ (tX1_potted l D cI cQ cL ad N (sSet cI ad (paSet cQ ad (sSet cI ad F (17 + 2 + 8 * n9) c b v g h j (nI t) u z) 17 ((n9 + 1) % 6) (min (m9 + 1) 6)) 1 c8 b8 v8 g8 h8 j8 (nI t8) u8 z8) (1 + 1) (by omega) c8 b8 v8 (sSet_at (stAt_keep (stAt_keep hN (fun i _ _ => sSet_out (by omega))) (fun i _ _ => paSet_out (by omega)))).2.1) (cwV9 0 hts mcX1_potted (ac11 _ (List.mem_of_getElem? (i := 20) rfl)) miX1_potted meX1_potted mini_RX1 rfl rfl hdX1_potted ⟨Nat.le_of_ble_eq_true rfl, Nat.le_of_ble_eq_true rfl⟩) hK hP hNW hz1___1 (sSet_at (stAt_keep (stAt_keep hN (fun i _ _ => sSet_out (by omega))) (fun i _ _ => paSet_out (by omega)))).2.1.1 rfl rfl hl.1 rfl (Nat.le_of_ble_eq_true rfl) (by decide) (dk kX5_goBack_ok 21 rfl) ?_
    exact hret _ _ _ _ _ _ _ _ rfl (by exact ⟨rfl, rfl⟩) hP hS (by decide) (by decide) (dk kX5_goBack_ok 22 rfl)
  · exact absurd (hh.symm.trans h1) (by decide)
set_option maxRecDepth 100000 in
set_option maxHeartbeats 4000000 in
theorem tX5_goBackX_b1 (l : Launch) (hst : l.stackTraces = false) (D : va_G) (cI cQ cL : ClassId) (ad : Nat → Nat) (N : Nat) (F : Nat → va_E) (hk : 76 < N) (c b v g h j : Nat → Int32) (t : Nat) (u z : Int32) (hN : stAt cI ad F 1 c b v g h j (nI t) u z) (c8 b8 v8 g8 h8 j8 : Nat → Int32) (t8 : Nat) (u8 z8 : Int32) (hSn : stAt cI ad F 9 c8 b8 v8 g8 h8 j8 (nI t8) u8 z8) (n9 m9 : Nat) (hn9 : n9 < 6) (hm9 : m9 ≤ 6) (hPa : paAt cQ ad F 17 n9 m9) (a : Nat → Int32) (n : Nat) (hn60 : n ≤ 60) (hT : gtAt cI ad F 67 a n) (c6 b6 v6 : Nat → Int32) (hM6 : matAt cI ad F 69 c6 b6 v6) (a7 d7 q7 : Nat → Int32) (hO : roAt cI ad F 73 a7 d7 q7) (hs : Bool) (hC : F 0 = .inr (5, [.ref (ad 1), .ref (ad 9), .ref (ad 17), .ref (ad 67), .ref (ad 69), .ref (ad 73), .int (bI hs)])) (hh : hs = false) : MT l yX5_goBack (Cond.code yX5_goBack cX5_goBack 1 (some .int) :: AW) ({ frames := 6, cells := 1, slots := 6, locals := 82 } : Room) D cI cQ cL ad N F [.ref (ad 0)] eS 1 6 := by
  refine mt_of (ret := (some .int)) hst (by decide +kernel) rfl (Nat.le_of_ble_eq_true rfl) (fun p e s m below meth cd Q ls hx hb hml hown hts hDi hP hK hNW hS hX hthr hthrW hout hl => ?_)
  have hown : s.vm.findClass RX5 = some m.cls := hown
  have hz0 : 0 < N := by omega
  have hz1 : 1 < N := by omega
  have hz1___1 : 1 + 1 < N := by omega
  have hz1___1___1 : 1 + 1 + 1 < N := by omega
  have hz1___1___2 : 1 + 1 + 2 < N := by omega
  have hz1___1___3 : 1 + 1 + 3 < N := by omega
  have hz1___5 : 1 + 5 < N := by omega
  have hz1___6 : 1 + 6 < N := by omega
  have hz1___7 : 1 + 7 < N := by omega
  have hz9 : 9 < N := by omega
  have hz17 : 17 < N := by omega
  have hz17___1 : 17 + 1 < N := by omega
  have hz67 : 67 < N := by omega
  have hz67___1 : 67 + 1 < N := by omega
  have hz69 : 69 < N := by omega
  have hz69___1 : 69 + 1 < N := by omega
  have hz69___2 : 69 + 2 < N := by omega
  have hz69___3 : 69 + 3 < N := by omega
  have hz73 : 73 < N := by omega
  have hz1___1___3 : 1 + 1 + 3 < N := by omega
  have hz69___3 : 69 + 3 < N := by omega
  have hl : lv_has ls 1 [(0, .ref (ad 0))] := hl
  refine lv_aload_n hx hb (dk kX5_goBack_ok 0 rfl) rfl (lv_at hl 0 rfl) ?_
  refine gf hx hb hts (fun w h => List.mem_cons_of_mem _ (acX5 w h)) hown hK hP hz0 hC rfl 6 (by decide) (hts _ (List.mem_cons_of_mem _ (ac8 _ (List.mem_of_getElem? (i := 11) rfl)))) (fun _ h => h) rfl (dk kX5_goBack_ok 1 rfl) ?_
  refine b_if_ne (tgt := 17) hx hb (dk kX5_goBack_ok 2 rfl) (by decide) (fun h1 => ?_) (fun h1 => ?_)
  · exact absurd (hh.symm.trans h1) (by decide)
  · skip
    exact hthr 63 67 154 7 "there is no snapshot" ls [] _ _ 0 0 (by decide) (by decide) hP hS hl.1 (dk kX5_goBack_ok 3 rfl) (dk kX5_goBack_ok 4 rfl) (dk kX5_goBack_ok 5 rfl) (dk kX5_goBack_ok 6 rfl) (dk kX5_goBack_ok 7 rfl) (by decide) (by decide) (by decide) (by decide) (by decide) (by decide)
set_option maxRecDepth 100000 in
set_option maxHeartbeats 4000000 in
theorem tX5_undo (l : Launch) (D : va_G) (cI cQ cL : ClassId) (ad : Nat → Nat) (N : Nat) (F : Nat → va_E) (hk : 76 < N) (c b v g h j : Nat → Int32) (t : Nat) (u z : Int32) (hN : stAt cI ad F 1 c b v g h j (nI t) u z) (c8 b8 v8 g8 h8 j8 : Nat → Int32) (t8 : Nat) (u8 z8 : Int32) (hSn : stAt cI ad F 9 c8 b8 v8 g8 h8 j8 (nI t8) u8 z8) (n9 m9 : Nat) (hn9 : n9 < 6) (hm9 : m9 ≤ 6) (hPa : paAt cQ ad F 17 n9 m9) (a : Nat → Int32) (n : Nat) (hn60 : n ≤ 60) (hT : gtAt cI ad F 67 a n) (c6 b6 v6 : Nat → Int32) (hM6 : matAt cI ad F 69 c6 b6 v6) (a7 d7 q7 : Nat → Int32) (hO : roAt cI ad F 73 a7 d7 q7) (hs : Bool) (hC : F 0 = .inr (5, [.ref (ad 1), .ref (ad 9), .ref (ad 17), .ref (ad 67), .ref (ad 69), .ref (ad 73), .int (bI hs)])) (cr br vr gr hr9 jr : Nat → Int32) (tr : Nat) (ur zr : Int32) (hRi : stAt cI ad F (17 + 2 + 8 * ((n9 + 6 - 1) % 6)) cr br vr gr hr9 jr (nI tr) ur zr) (hm0 : 1 ≤ m9) : MX l yX5_undo (Cond.code yX5_undo cX5_undo 1 (some .int) :: AW) ({ frames := 4, cells := 0, slots := 0, locals := 81 } : Room) D cI cQ cL ad N F [.ref (ad 0)] (dp (some (.int (nI (m9 - 1)))) (sSet cI ad (paSet cQ ad F 17 ((n9 + 6 - 1) % 6) (m9 - 1)) 1 cr br vr gr hr9 jr (nI tr) ur zr)) 0 0 := by
  refine mx_i (ty := .int) (by decide +kernel) rfl (Nat.le_of_ble_eq_true rfl) (fun p e s m below meth cd Q ls hx hb hml hown hts hDi hP hK hNW hS hret hl => ?_)
  have hown : s.vm.findClass RX5 = some m.cls := hown
  have hz0 : 0 < N := by omega
  have hz1 : 1 < N := by omega
  have hz1___1 : 1 + 1 < N := by omega
  have hz1___1___1 : 1 + 1 + 1 < N := by omega
  have hz1___1___2 : 1 + 1 + 2 < N := by omega
  have hz1___1___3 : 1 + 1 + 3 < N := by omega
  have hz1___5 : 1 + 5 < N := by omega
  have hz1___6 : 1 + 6 < N := by omega
  have hz1___7 : 1 + 7 < N := by omega
  have hz9 : 9 < N := by omega
  have hz17 : 17 < N := by omega
  have hz17___1 : 17 + 1 < N := by omega
  have hz67 : 67 < N := by omega
  have hz67___1 : 67 + 1 < N := by omega
  have hz69 : 69 < N := by omega
  have hz69___1 : 69 + 1 < N := by omega
  have hz69___2 : 69 + 2 < N := by omega
  have hz69___3 : 69 + 3 < N := by omega
  have hz73 : 73 < N := by omega
  have hz1___1___3 : 1 + 1 + 3 < N := by omega
  have hz69___3 : 69 + 3 < N := by omega
  have hl : lv_has ls 1 [(0, .ref (ad 0))] := hl
  refine lv_aload_n hx hb (dk kX5_undo_ok 0 rfl) rfl (lv_at hl 0 rfl) ?_
  refine gf hx hb hts (fun w h => List.mem_cons_of_mem _ (acX5 w h)) hown hK hP hz0 hC rfl 2 (by decide) (hts _ (List.mem_cons_of_mem _ (ac8 _ (List.mem_of_getElem? (i := 2) rfl)))) (fun _ h => h) rfl (dk kX5_undo_ok 1 rfl) ?_
  refine gfN hx hb hts (fun w h => List.mem_cons_of_mem _ (acX2 w h)) hown hK hP hz17 hPa.1 rfl 2 (by decide) (nf9 hNW) (fun _ h => h) rfl (dk kX5_undo_ok 2 rfl) ?_
  refine n_if_ne (tgt := 20) hx hb (by omega) (dk kX5_undo_ok 3 rfl) (by decide) (fun h1 => ?_) (fun h1 => ?_)
  · skip
    refine lv_aload_n hx hb (dk kX5_undo_ok 9 rfl) rfl (lv_at hl 0 rfl) ?_
    refine gf hx hb hts (fun w h => List.mem_cons_of_mem _ (acX5 w h)) hown hK hP hz0 hC rfl 2 (by decide) (hts _ (List.mem_cons_of_mem _ (ac8 _ (List.mem_of_getElem? (i := 2) rfl)))) (fun _ h => h) rfl (dk kX5_undo_ok 10 rfl) ?_
    refine lv_aload_n hx hb (dk kX5_undo_ok 11 rfl) rfl (lv_at hl 0 rfl) ?_
    refine gf hx hb hts (fun w h => List.mem_cons_of_mem _ (acX5 w h)) hown hK hP hz0 hC rfl 0 (by decide) (hts _ (List.mem_cons_of_mem _ (ac7 _ (List.mem_of_getElem? (i := 21) rfl)))) (fun _ h => h) rfl (dk kX5_undo_ok 12 rfl) ?_
    refine cvDv (As := [.ref (ad 1)]) (rest := []) (sSet cI ad (paSet cQ ad F 17 ((n9 + 6 - 1) % 6) (m9 - 1)) 1 cr br vr gr hr9 jr (nI tr) ur zr) ⟨hx, hb, hml, hown, hts⟩ (tX2_restore l D cI cQ cL ad N F 17 n9 m9 hn9 hm9 (by omega) (by omega) hPa cr br vr gr hr9 jr tr ur zr hRi (by omega) 1 (by omega) c b v g h j t u z hN (by omega)) (cwV9 1 hts mcX2_restore (ac12 _ (List.mem_of_getElem? (i := 0) rfl)) miX2_restore meX2_restore mini_RX2 rfl rfl hdX2_restore ⟨Nat.le_of_ble_eq_true rfl, Nat.le_of_ble_eq_true rfl⟩) hDi hK hP hNW hS hz17 hPa.1 rfl rfl hl.1 rfl (Nat.le_of_ble_eq_true rfl) (by decide) (dk kX5_undo_ok 13 rfl) rfl (fun H locs hP hS => ?_)
    refine lv_aload_n hx hb (dk kX5_undo_ok 14 rfl) rfl (lv_at hl 0 rfl) ?_
    refine gf hx hb hts (fun w h => List.mem_cons_of_mem _ (acX5 w h)) hown hK hP hz0 ((sSet_out (by omega)).trans ((paSet_out (by omega)).trans hC)) rfl 2 (by decide) (hts _ (List.mem_cons_of_mem _ (ac8 _ (List.mem_of_getElem? (i := 2) rfl)))) (fun _ h => h) rfl (dk kX5_undo_ok 15 rfl) ?_
    refine gfN hx hb hts (fun w h => List.mem_cons_of_mem _ (acX2 w h)) hown hK hP hz17 (paAt_keep paSet_at (fun i _ _ => sSet_out (by omega))).1 rfl 2 (by decide) (nf9 hNW) (fun _ h => h) rfl (dk kX5_undo_ok 16 rfl) ?_
    exact hret _ _ _ _ _ _ _ _ rfl (by exact ⟨rfl, rfl⟩) hP hS (by decide) (by decide) (dk kX5_undo_ok 17 rfl)
  · exact absurd h1 (by omega)
set_option maxRecDepth 100000 in
set_option maxHeartbeats 4000000 in
theorem tX5_undoX_b1 (l : Launch) (hst : l.stackTraces = false) (D : va_G) (cI cQ cL : ClassId) (ad : Nat → Nat) (N : Nat) (F : Nat → va_E) (hk : 76 < N) (c b v g h j : Nat → Int32) (t : Nat) (u z : Int32) (hN : stAt cI ad F 1 c b v g h j (nI t) u z) (c8 b8 v8 g8 h8 j8 : Nat → Int32) (t8 : Nat) (u8 z8 : Int32) (hSn : stAt cI ad F 9 c8 b8 v8 g8 h8 j8 (nI t8) u8 z8) (n9 m9 : Nat) (hn9 : n9 < 6) (hm9 : m9 ≤ 6) (hPa : paAt cQ ad F 17 n9 m9) (a : Nat → Int32) (n : Nat) (hn60 : n ≤ 60) (hT : gtAt cI ad F 67 a n) (c6 b6 v6 : Nat → Int32) (hM6 : matAt cI ad F 69 c6 b6 v6) (a7 d7 q7 : Nat → Int32) (hO : roAt cI ad F 73 a7 d7 q7) (hs : Bool) (hC : F 0 = .inr (5, [.ref (ad 1), .ref (ad 9), .ref (ad 17), .ref (ad 67), .ref (ad 69), .ref (ad 73), .int (bI hs)])) (hm0 : m9 = 0) : MT l yX5_undo (Cond.code yX5_undo cX5_undo 1 (some .int) :: AW) ({ frames := 6, cells := 1, slots := 6, locals := 82 } : Room) D cI cQ cL ad N F [.ref (ad 0)] eS 1 6 := by
  refine mt_of (ret := (some .int)) hst (by decide +kernel) rfl (Nat.le_of_ble_eq_true rfl) (fun p e s m below meth cd Q ls hx hb hml hown hts hDi hP hK hNW hS hX hthr hthrW hout hl => ?_)
  have hown : s.vm.findClass RX5 = some m.cls := hown
  have hz0 : 0 < N := by omega
  have hz1 : 1 < N := by omega
  have hz1___1 : 1 + 1 < N := by omega
  have hz1___1___1 : 1 + 1 + 1 < N := by omega
  have hz1___1___2 : 1 + 1 + 2 < N := by omega
  have hz1___1___3 : 1 + 1 + 3 < N := by omega
  have hz1___5 : 1 + 5 < N := by omega
  have hz1___6 : 1 + 6 < N := by omega
  have hz1___7 : 1 + 7 < N := by omega
  have hz9 : 9 < N := by omega
  have hz17 : 17 < N := by omega
  have hz17___1 : 17 + 1 < N := by omega
  have hz67 : 67 < N := by omega
  have hz67___1 : 67 + 1 < N := by omega
  have hz69 : 69 < N := by omega
  have hz69___1 : 69 + 1 < N := by omega
  have hz69___2 : 69 + 2 < N := by omega
  have hz69___3 : 69 + 3 < N := by omega
  have hz73 : 73 < N := by omega
  have hz1___1___3 : 1 + 1 + 3 < N := by omega
  have hz69___3 : 69 + 3 < N := by omega
  have hl : lv_has ls 1 [(0, .ref (ad 0))] := hl
  refine lv_aload_n hx hb (dk kX5_undo_ok 0 rfl) rfl (lv_at hl 0 rfl) ?_
  refine gf hx hb hts (fun w h => List.mem_cons_of_mem _ (acX5 w h)) hown hK hP hz0 hC rfl 2 (by decide) (hts _ (List.mem_cons_of_mem _ (ac8 _ (List.mem_of_getElem? (i := 2) rfl)))) (fun _ h => h) rfl (dk kX5_undo_ok 1 rfl) ?_
  refine gfN hx hb hts (fun w h => List.mem_cons_of_mem _ (acX2 w h)) hown hK hP hz17 hPa.1 rfl 2 (by decide) (nf9 hNW) (fun _ h => h) rfl (dk kX5_undo_ok 2 rfl) ?_
  refine n_if_ne (tgt := 20) hx hb (by omega) (dk kX5_undo_ok 3 rfl) (by decide) (fun h1 => ?_) (fun h1 => ?_)
  · exact absurd hm0 h1
  · skip
    exact hthr 63 67 159 10 "there is no saved state" ls [] _ _ 0 0 (by decide) (by decide) hP hS hl.1 (dk kX5_undo_ok 4 rfl) (dk kX5_undo_ok 5 rfl) (dk kX5_undo_ok 6 rfl) (dk kX5_undo_ok 7 rfl) (dk kX5_undo_ok 8 rfl) (by decide) (by decide) (by decide) (by decide) (by decide) (by decide)
set_option maxRecDepth 100000 in
set_option maxHeartbeats 4000000 in
theorem tX5_playX_b1 (l : Launch) (hst : l.stackTraces = false) (D : va_G) (cI cQ cL : ClassId) (ad : Nat → Nat) (N : Nat) (F : Nat → va_E) (hk : 76 < N) (c b v g h j : Nat → Int32) (t : Nat) (u z : Int32) (hN : stAt cI ad F 1 c b v g h j (nI t) u z) (c8 b8 v8 g8 h8 j8 : Nat → Int32) (t8 : Nat) (u8 z8 : Int32) (hSn : stAt cI ad F 9 c8 b8 v8 g8 h8 j8 (nI t8) u8 z8) (n9 m9 : Nat) (hn9 : n9 < 6) (hm9 : m9 ≤ 6) (hPa : paAt cQ ad F 17 n9 m9) (a : Nat → Int32) (n : Nat) (hn60 : n ≤ 60) (hT : gtAt cI ad F 67 a n) (c6 b6 v6 : Nat → Int32) (hM6 : matAt cI ad F 69 c6 b6 v6) (a7 d7 q7 : Nat → Int32) (hO : roAt cI ad F 73 a7 d7 q7) (hs : Bool) (hC : F 0 = .inr (5, [.ref (ad 1), .ref (ad 9), .ref (ad 17), .ref (ad 67), .ref (ad 69), .ref (ad 73), .int (bI hs)])) (hh : sta a n ≠ nI 8) : MT l yX5_play (Cond.code yX5_play cX5_play 2 (some .int) :: AW) ({ frames := 6, cells := 1, slots := 6, locals := 82 } : Room) D cI cQ cL ad N F [.ref (ad 0)] eA 1 6 := by
  refine mt_of (ret := (some .int)) hst (by decide +kernel) rfl (Nat.le_of_ble_eq_true rfl) (fun p e s m below meth cd Q ls hx hb hml hown hts hDi hP hK hNW hS hX hthr hthrW hout hl => ?_)
  have hown : s.vm.findClass RX5 = some m.cls := hown
  have hz0 : 0 < N := by omega
  have hz1 : 1 < N := by omega
  have hz1___1 : 1 + 1 < N := by omega
  have hz1___1___1 : 1 + 1 + 1 < N := by omega
  have hz1___1___2 : 1 + 1 + 2 < N := by omega
  have hz1___1___3 : 1 + 1 + 3 < N := by omega
  have hz1___5 : 1 + 5 < N := by omega
  have hz1___6 : 1 + 6 < N := by omega
  have hz1___7 : 1 + 7 < N := by omega
  have hz9 : 9 < N := by omega
  have hz17 : 17 < N := by omega
  have hz17___1 : 17 + 1 < N := by omega
  have hz67 : 67 < N := by omega
  have hz67___1 : 67 + 1 < N := by omega
  have hz69 : 69 < N := by omega
  have hz69___1 : 69 + 1 < N := by omega
  have hz69___2 : 69 + 2 < N := by omega
  have hz69___3 : 69 + 3 < N := by omega
  have hz73 : 73 < N := by omega
  have hz1___1___3 : 1 + 1 + 3 < N := by omega
  have hz69___3 : 69 + 3 < N := by omega
  have hl : lv_has ls 2 [(0, .ref (ad 0))] := hl
  refine lv_aload_n hx hb (dk kX5_play_ok 0 rfl) rfl (lv_at hl 0 rfl) ?_
  refine gf hx hb hts (fun w h => List.mem_cons_of_mem _ (acX5 w h)) hown hK hP hz0 hC rfl 3 (by decide) (hts _ (List.mem_cons_of_mem _ (ac8 _ (List.mem_of_getElem? (i := 5) rfl)))) (fun _ h => h) rfl (dk kX5_play_ok 1 rfl) ?_
  refine cvR (As := []) (rest := []) ⟨hx, hb, hml, hown, hts⟩ (tX0_isComplete l D cI cQ cL ad N F 67 (by omega) a n hn60 hT) (cwV9 0 hts mcX0_isComplete (ac11 _ (List.mem_of_getElem? (i := 11) rfl)) miX0_isComplete meX0_isComplete mini_RX0 rfl rfl hdX0_isComplete ⟨Nat.le_of_ble_eq_true rfl, Nat.le_of_ble_eq_true rfl⟩) hK hP hNW hz67 hT.1 rfl rfl hl.1 rfl (Nat.le_of_ble_eq_true rfl) (by decide) (dk kX5_play_ok 2 rfl) ?_
  refine b_if_ne (tgt := 20) hx hb (dk kX5_play_ok 3 rfl) (by decide) (fun h1 => ?_) (fun h1 => ?_)
  · exact absurd (of_decide_eq_true h1) hh
  · replace h1 := of_decide_eq_false h1
    exact hthr 104 108 143 10 "the buffer is not a complete game" ls [] _ _ 0 0 (by decide) (by decide) hP hS hl.1 (dk kX5_play_ok 4 rfl) (dk kX5_play_ok 5 rfl) (dk kX5_play_ok 6 rfl) (dk kX5_play_ok 7 rfl) (dk kX5_play_ok 8 rfl) (by decide) (by decide) (by decide) (by decide) (by decide) (by decide)
set_option maxRecDepth 100000 in
set_option maxHeartbeats 4000000 in
theorem tX5_tryFlight (l : Launch) (D : va_G) (cI cQ cL : ClassId) (ad : Nat → Nat) (N : Nat) (F : Nat → va_E) (hk : 76 < N) (c b v g h j : Nat → Int32) (t : Nat) (u z : Int32) (hN : stAt cI ad F 1 c b v g h j (nI t) u z) (c8 b8 v8 g8 h8 j8 : Nat → Int32) (t8 : Nat) (u8 z8 : Int32) (hSn : stAt cI ad F 9 c8 b8 v8 g8 h8 j8 (nI t8) u8 z8) (n9 m9 : Nat) (hn9 : n9 < 6) (hm9 : m9 ≤ 6) (hPa : paAt cQ ad F 17 n9 m9) (a : Nat → Int32) (n : Nat) (hn60 : n ≤ 60) (hT : gtAt cI ad F 67 a n) (c6 b6 v6 : Nat → Int32) (hM6 : matAt cI ad F 69 c6 b6 v6) (a7 d7 q7 : Nat → Int32) (hO : roAt cI ad F 73 a7 d7 q7) (hs : Bool) (hC : F 0 = .inr (5, [.ref (ad 1), .ref (ad 9), .ref (ad 17), .ref (ad 67), .ref (ad 69), .ref (ad 73), .int (bI hs)])) (x : Int32) (w : Nat) (hxw : x = nI w) (hw : w < 16) (d : Int32) (k9 : Int32) (f : Nat) (hkf : k9 = nI f) (hf : 1 ≤ f ∧ f ≤ 9) : MX l yX5_tryFlight (Cond.code yX5_tryFlight cX5_tryFlight 5 none :: AW) ({ frames := 3, cells := 0, slots := 0, locals := 68 } : Room) D cI cQ cL ad N F [.ref (ad 0), .int x, .int d, .int k9] (dp none (mSet cI F 69 (mov1 c b v w (rest9 w (ldg (c w) d (stp w f)))) (mov2 c b v w (rest9 w (ldg (c w) d (stp w f)))) (mov3 c b v w (rest9 w (ldg (c w) d (stp w f)))))) 0 0 := by
  refine mx_v (by decide +kernel) rfl (Nat.le_of_ble_eq_true rfl) (fun p e s m below meth cd Q ls hx hb hml hown hts hDi hP hK hNW hS hret hl => ?_)
  have hown : s.vm.findClass RX5 = some m.cls := hown
  subst hxw
  subst hkf
  have hst : stp w f < 2 ^ 31 := by unfold stp; split <;> omega
  have hz0 : 0 < N := by omega
  have hz1 : 1 < N := by omega
  have hz1___1 : 1 + 1 < N := by omega
  have hz1___1___1 : 1 + 1 + 1 < N := by omega
  have hz1___1___2 : 1 + 1 + 2 < N := by omega
  have hz1___1___3 : 1 + 1 + 3 < N := by omega
  have hz1___5 : 1 + 5 < N := by omega
  have hz1___6 : 1 + 6 < N := by omega
  have hz1___7 : 1 + 7 < N := by omega
  have hz9 : 9 < N := by omega
  have hz17 : 17 < N := by omega
  have hz17___1 : 17 + 1 < N := by omega
  have hz67 : 67 < N := by omega
  have hz67___1 : 67 + 1 < N := by omega
  have hz69 : 69 < N := by omega
  have hz69___1 : 69 + 1 < N := by omega
  have hz69___2 : 69 + 2 < N := by omega
  have hz69___3 : 69 + 3 < N := by omega
  have hz73 : 73 < N := by omega
  have hz1___1___3 : 1 + 1 + 3 < N := by omega
  have hz69___3 : 69 + 3 < N := by omega
  have hl : lv_has ls 5 [(0, .ref (ad 0)), (1, .int (nI w)), (2, .int d), (3, .int (nI f))] := hl
  refine lv_aload_n hx hb (dk kX5_tryFlight_ok 0 rfl) rfl (lv_at hl 0 rfl) ?_
  refine gf hx hb hts (fun w h => List.mem_cons_of_mem _ (acX5 w h)) hown hK hP hz0 hC rfl 4 (by decide) (hts _ (List.mem_cons_of_mem _ (ac8 _ (List.mem_of_getElem? (i := 7) rfl)))) (fun _ h => h) rfl (dk kX5_tryFlight_ok 1 rfl) ?_
  refine lv_aload_n hx hb (dk kX5_tryFlight_ok 2 rfl) rfl (lv_at hl 0 rfl) ?_
  refine gf hx hb hts (fun w h => List.mem_cons_of_mem _ (acX5 w h)) hown hK hP hz0 hC rfl 0 (by decide) (hts _ (List.mem_cons_of_mem _ (ac7 _ (List.mem_of_getElem? (i := 21) rfl)))) (fun _ h => h) rfl (dk kX5_tryFlight_ok 3 rfl) ?_
  refine gfN hx hb hts (fun w h => List.mem_cons_of_mem _ (acX4 w h)) hown hK hP hz1 hN.1 rfl 0 (by decide) (nf2 hNW) (fun _ h => h) rfl (dk kX5_tryFlight_ok 4 rfl) ?_
  refine cvDv (As := [.ref (ad (1 + 1))]) (rest := []) (mSet cI F 69 c b v) ⟨hx, hb, hml, hown, hts⟩ (tX1_copyFrom l D cI cQ cL ad N F 69 (by omega) c6 b6 v6 hM6 (1 + 1) (by omega) (by omega) c b v hN.2.1) (cwV9 1 hts mcX1_copyFrom (ac14 _ (List.mem_of_getElem? (i := 8) rfl)) miX1_copyFrom meX1_copyFrom mini_RX1 rfl rfl hdX1_copyFrom ⟨Nat.le_of_ble_eq_true rfl, Nat.le_of_ble_eq_true rfl⟩) hDi hK hP hNW hS hz69 hM6.1 rfl rfl hl.1 rfl (Nat.le_of_ble_eq_true rfl) (by decide) (dk kX5_tryFlight_ok 5 rfl) rfl (fun H locs hP hS => ?_)
  refine lv_aload_n hx hb (dk kX5_tryFlight_ok 6 rfl) rfl (lv_at hl 0 rfl) ?_
  refine gf hx hb hts (fun w h => List.mem_cons_of_mem _ (acX5 w h)) hown hK hP hz0 ((mSet_out (by omega)).trans hC) rfl 4 (by decide) (hts _ (List.mem_cons_of_mem _ (ac8 _ (List.mem_of_getElem? (i := 7) rfl)))) (fun _ h => h) rfl (dk kX5_tryFlight_ok 7 rfl) ?_
  refine gfN hx hb hts (fun w h => List.mem_cons_of_mem _ (acX1 w h)) hown hK hP hz69 (mSet_at hM6).1 rfl 0 (by decide) (nf1 hNW) (fun _ h => h) rfl (dk kX5_tryFlight_ok 8 rfl) ?_
  refine lv_iload_n hx hb (dk kX5_tryFlight_ok 9 rfl) rfl (lv_at hl 1 rfl) ?_
  refine ald (j := w) hx hb hK hP hz69___1 (mSet_at hM6).2.1 rfl (by omega) (by decide) (dk kX5_tryFlight_ok 10 rfl) ?_
  refine lv_iload_n hx hb (dk kX5_tryFlight_ok 11 rfl) rfl (lv_at hl 2 rfl) ?_
  refine lv_iload_n hx hb (dk kX5_tryFlight_ok 12 rfl) rfl (lv_at hl 1 rfl) ?_
  refine lv_iload_n hx hb (dk kX5_tryFlight_ok 13 rfl) rfl (lv_at hl 3 rfl) ?_
  refine csP (As := [.int (nI w), .int (nI f)]) (rest := [.int d, .int (c w)]) ⟨hx, hb, hml, hown, hts⟩ (tX5_stepsOf l (nI w) w rfl (by omega) (nI f) f rfl (by omega)) (cwS9 2 hts mcX5_stepsOf (ac14 _ (List.mem_of_getElem? (i := 5) rfl)) msX5_stepsOf mini_RX5 rfl rfl hdX5_stepsOf ⟨Nat.le_of_ble_eq_true rfl, Nat.le_of_ble_eq_true rfl⟩) rfl hl.1 rfl (Nat.le_of_ble_eq_true rfl) (by decide) (dk kX5_tryFlight_ok 14 rfl) ?_
  refine csP (As := [.int (c w), .int d, .int (nI (stp w f))]) (rest := []) ⟨hx, hb, hml, hown, hts⟩ (tX5_landing l (c w) d (nI (stp w f)) (stp w f) rfl (by omega)) (cwS9 3 hts mcX5_landing (ac14 _ (List.mem_of_getElem? (i := 6) rfl)) msX5_landing mini_RX5 rfl rfl hdX5_landing ⟨Nat.le_of_ble_eq_true rfl, Nat.le_of_ble_eq_true rfl⟩) rfl hl.1 rfl (Nat.le_of_ble_eq_true rfl) (by decide) (dk kX5_tryFlight_ok 15 rfl) ?_
  refine lv_istore (lv' := [(4, .int (ldg (c w) d (stp w f))), (0, .ref (ad 0)), (1, .int (nI w)), (2, .int d), (3, .int (nI f))]) hx hb (dk kX5_tryFlight_ok 16 rfl) hl (by decide) rfl (fun ls hl => ?_)
  refine lv_aload_n hx hb (dk kX5_tryFlight_ok 17 rfl) rfl (lv_at hl 1 rfl) ?_
  refine gf hx hb hts (fun w h => List.mem_cons_of_mem _ (acX5 w h)) hown hK hP hz0 ((mSet_out (by omega)).trans hC) rfl 4 (by decide) (hts _ (List.mem_cons_of_mem _ (ac8 _ (List.mem_of_getElem? (i := 7) rfl)))) (fun _ h => h) rfl (dk kX5_tryFlight_ok 18 rfl) ?_
  refine lv_iload_n hx hb (dk kX5_tryFlight_ok 19 rfl) rfl (lv_at hl 2 rfl) ?_
  refine lv_iload_n hx hb (dk kX5_tryFlight_ok 20 rfl) rfl (lv_at hl 2 rfl) ?_
  refine lv_iload hx hb (dk kX5_tryFlight_ok 21 rfl) (lv_at hl 0 rfl) ?_
  refine csP (As := [.int (nI w), .int (ldg (c w) d (stp w f))]) (rest := [.int (nI w), .ref (ad 69)]) ⟨hx, hb, hml, hown, hts⟩ (tX5_restingCell l (nI w) w rfl (by omega) (ldg (c w) d (stp w f))) (cwS9 2 hts mcX5_restingCell (ac14 _ (List.mem_of_getElem? (i := 9) rfl)) msX5_restingCell mini_RX5 rfl rfl hdX5_restingCell ⟨Nat.le_of_ble_eq_true rfl, Nat.le_of_ble_eq_true rfl⟩) rfl hl.1 rfl (Nat.le_of_ble_eq_true rfl) (by decide) (dk kX5_tryFlight_ok 22 rfl) ?_
  refine cvDv (As := [.int (nI w), .int (rest9 w (ldg (c w) d (stp w f)))]) (rest := []) (mSet cI F 69 (mov1 c b v w (rest9 w (ldg (c w) d (stp w f)))) (mov2 c b v w (rest9 w (ldg (c w) d (stp w f)))) (mov3 c b v w (rest9 w (ldg (c w) d (stp w f))))) ⟨hx, hb, hml, hown, hts⟩ (tX1_move l D cI cQ cL ad N (mSet cI F 69 c b v) 69 (by omega) c b v (mSet_at hM6) (nI w) w rfl (by omega) (rest9 w (ldg (c w) d (stp w f)))) (cwV9 2 hts mcX1_move (ac10 _ (List.mem_of_getElem? (i := 17) rfl)) miX1_move meX1_move mini_RX1 rfl rfl hdX1_move ⟨Nat.le_of_ble_eq_true rfl, Nat.le_of_ble_eq_true rfl⟩) hDi hK hP hNW hS hz69 (mSet_at hM6).1 rfl rfl hl.1 rfl (Nat.le_of_ble_eq_true rfl) (by decide) (dk kX5_tryFlight_ok 23 rfl) mSet_mSet (fun H locs hP hS => ?_)
  exact hret _ _ _ _ _ _ _ (by exact ⟨rfl, rfl⟩) hP hS (by decide) (by decide) (dk kX5_tryFlight_ok 24 rfl)
end
/-! from clspec2 -/
section
theorem m_touch {D : va_G} {cl : List vw_C} {cI : ClassId} {ad : Nat → Nat} {N : Nat} {F : Nat → va_E} {H : Heap} {k : Nat} {c b v : Nat → Int32} (hM : matAt cI ad F k c b v) (hP : va_P D cl (iW ad N F) H) : va_P D cl (iW ad N (mSet cI F k c b v)) H := by
  rw [mSet_self hM]
  exact hP
def cM1 (c b v : Nat → Int32) (w : Nat) (d : Int32) (f : Nat) : Nat → Int32 := mov1 c b v w (rest9 w (ldg (c w) d (stp w f)))
def cM2 (c b v : Nat → Int32) (w : Nat) (d : Int32) (f : Nat) : Nat → Int32 := mov2 c b v w (rest9 w (ldg (c w) d (stp w f)))
def cM3 (c b v : Nat → Int32) (w : Nat) (d : Int32) (f : Nat) : Nat → Int32 := mov3 c b v w (rest9 w (ldg (c w) d (stp w f)))
def cLd (c b v : Nat → Int32) (w : Nat) (d : Int32) (f : Nat) : Int32 := nI (ptt (cM1 c b v w d f) (cM3 c b v w d f) (w / 4 % 2)) - nI (ptt (cM1 c b v w d f) (cM3 c b v w d f) (1 - w / 4 % 2))
def cCv (c b v : Nat → Int32) (w : Nat) (d : Int32) (f : Nat) : Nat := covc (cM3 c b v w d f) (1 - w / 4 % 2) + covc (cM3 c b v w d f) (1 - w / 4 % 2 + 2)
def cIf (c b v : Nat → Int32) (w : Nat) (d : Int32) (f : Nat) (y : Int32) : Int32 := if y = 0 then cLd c b v w d f else nI (cCv c b v w d f)
abbrev CSt : Type := Int32 × Int32 × Int32 × (Nat → Int32) × (Nat → Int32) × (Nat → Int32)
def cNw (c b v : Nat → Int32) (w i : Nat) : CSt := (nI (100 * w + 10 * (i / 9) + (i % 9 + 1)), cLd c b v w (nI (i / 9)) (i % 9 + 1), nI (cCv c b v w (nI (i / 9)) (i % 9 + 1)), cM1 c b v w (nI (i / 9)) (i % 9 + 1), cM2 c b v w (nI (i / 9)) (i % 9 + 1), cM3 c b v w (nI (i / 9)) (i % 9 + 1))
def cOl (c b v : Nat → Int32) (w i : Nat) (s : CSt) : CSt := (s.1, s.2.1, s.2.2.1, cM1 c b v w (nI (i / 9)) (i % 9 + 1), cM2 c b v w (nI (i / 9)) (i % 9 + 1), cM3 c b v w (nI (i / 9)) (i % 9 + 1))
def cbI (c b v : Nat → Int32) (w : Nat) : Nat → CSt → CSt
  | 0, s => s
  | i + 1, s => if (cbI c b v w i s).1 = -1 then cNw c b v w i else if (cbI c b v w i s).2.1 < cLd c b v w (nI (i / 9)) (i % 9 + 1) then cNw c b v w i else if cLd c b v w (nI (i / 9)) (i % 9 + 1) = (cbI c b v w i s).2.1 then (if nI (cCv c b v w (nI (i / 9)) (i % 9 + 1)) ≤ (cbI c b v w i s).2.2.1 then cOl c b v w i (cbI c b v w i s) else cNw c b v w i) else cOl c b v w i (cbI c b v w i s)
def cbO (c b v : Nat → Int32) (t : Nat) (s : CSt) : Nat → CSt
  | 0 => s
  | w + 1 => if wnf c v t w = 0 then cbI c b v w 72 (cbO c b v t s w) else cbO c b v t s w
theorem cbO_0 {c b v : Nat → Int32} {t : Nat} {s : CSt} : cbO c b v t s 0 = s := rfl
theorem cbO_s {c b v : Nat → Int32} {t w : Nat} {s : CSt} (h : wnf c v t w = 0) : cbO c b v t s (w + 1) = cbI c b v w 72 (cbO c b v t s w) := by
  simp only [cbO, h, if_true]
theorem cbO_n {c b v : Nat → Int32} {t w : Nat} {s : CSt} (h : wnf c v t w ≠ 0) : cbO c b v t s (w + 1) = cbO c b v t s w := by
  simp only [cbO, if_neg h]
theorem cbI_0 {c b v : Nat → Int32} {w : Nat} {s : CSt} : cbI c b v w 0 s = s := rfl
end
/-! from cltry -/
section
set_option maxRecDepth 100000 in
set_option maxHeartbeats 4000000 in
theorem tX5_ifFlown (l : Launch) (D : va_G) (cI cQ cL : ClassId) (ad : Nat → Nat) (N : Nat) (F : Nat → va_E) (hk : 76 < N) (c b v g h j : Nat → Int32) (t : Nat) (u z : Int32) (hN : stAt cI ad F 1 c b v g h j (nI t) u z) (c8 b8 v8 g8 h8 j8 : Nat → Int32) (t8 : Nat) (u8 z8 : Int32) (hSn : stAt cI ad F 9 c8 b8 v8 g8 h8 j8 (nI t8) u8 z8) (n9 m9 : Nat) (hn9 : n9 < 6) (hm9 : m9 ≤ 6) (hPa : paAt cQ ad F 17 n9 m9) (a : Nat → Int32) (n : Nat) (hn60 : n ≤ 60) (hT : gtAt cI ad F 67 a n) (c6 b6 v6 : Nat → Int32) (hM6 : matAt cI ad F 69 c6 b6 v6) (a7 d7 q7 : Nat → Int32) (hO : roAt cI ad F 73 a7 d7 q7) (hs : Bool) (hC : F 0 = .inr (5, [.ref (ad 1), .ref (ad 9), .ref (ad 17), .ref (ad 67), .ref (ad 69), .ref (ad 73), .int (bI hs)])) (ht : t < 4) (x : Int32) (w : Nat) (hxw : x = nI w) (hw : w < 16) (d : Int32) (hd9 : btw d (nI 0) (nI 7) = true) (k9 : Int32) (f : Nat) (hkf : k9 = nI f) (hf : 1 ≤ f ∧ f ≤ 9) (y : Int32) (hy9 : btw y (nI 0) (nI 1) = true) (hwn : wnf c v t w = 0) : MX l yX5_ifFlown (Cond.code yX5_ifFlown cX5_ifFlown 5 (some .int) :: AW) ({ frames := 8, cells := 0, slots := 0, locals := 123 } : Room) D cI cQ cL ad N F [.ref (ad 0), .int x, .int d, .int k9, .int y] (dp (some (.int (cIf c b v w d f y))) (mSet cI F 69 (cM1 c b v w d f) (cM2 c b v w d f) (cM3 c b v w d f))) 0 0 := by
  refine mx_i (ty := .int) (by decide +kernel) rfl (Nat.le_of_ble_eq_true rfl) (fun p e s m below meth cd Q ls hx hb hml hown hts hDi hP hK hNW hS hret hl => ?_)
  have hown : s.vm.findClass RX5 = some m.cls := hown
  subst hxw
  subst hkf
  have hst : stp w f < 2 ^ 31 := by unfold stp; split <;> omega
  have hz0 : 0 < N := by omega
  have hz1 : 1 < N := by omega
  have hz1___1 : 1 + 1 < N := by omega
  have hz1___1___1 : 1 + 1 + 1 < N := by omega
  have hz1___1___2 : 1 + 1 + 2 < N := by omega
  have hz1___1___3 : 1 + 1 + 3 < N := by omega
  have hz1___5 : 1 + 5 < N := by omega
  have hz1___6 : 1 + 6 < N := by omega
  have hz1___7 : 1 + 7 < N := by omega
  have hz9 : 9 < N := by omega
  have hz17 : 17 < N := by omega
  have hz17___1 : 17 + 1 < N := by omega
  have hz67 : 67 < N := by omega
  have hz67___1 : 67 + 1 < N := by omega
  have hz69 : 69 < N := by omega
  have hz69___1 : 69 + 1 < N := by omega
  have hz69___2 : 69 + 2 < N := by omega
  have hz69___3 : 69 + 3 < N := by omega
  have hz73 : 73 < N := by omega
  have hz1___1___3 : 1 + 1 + 3 < N := by omega
  have hz69___3 : 69 + 3 < N := by omega
  have hl : lv_has ls 5 [(0, .ref (ad 0)), (1, .int (nI w)), (2, .int d), (3, .int (nI f)), (4, .int y)] := hl
  refine lv_iload_n hx hb (dk kX5_ifFlown_ok 0 rfl) rfl (lv_at hl 1 rfl) ?_
  refine csPv (As := [.int (nI w)]) (rest := []) ⟨hx, hb, hml, hown, hts⟩ (tX5_requireWink_ok l (nI w) (wk_nI hw)) (cwS9 1 hts mcX5_requireWink (ac9 _ (List.mem_of_getElem? (i := 6) rfl)) msX5_requireWink mini_RX5 rfl rfl hdX5_requireWink ⟨Nat.le_of_ble_eq_true rfl, Nat.le_of_ble_eq_true rfl⟩) rfl hl.1 rfl (Nat.le_of_ble_eq_true rfl) (by decide) (dk kX5_ifFlown_ok 1 rfl) ?_
  refine lv_iload_n hx hb (dk kX5_ifFlown_ok 2 rfl) rfl (lv_at hl 2 rfl) ?_
  refine lv_iload_n hx hb (dk kX5_ifFlown_ok 3 rfl) rfl (lv_at hl 3 rfl) ?_
  refine csPv (As := [.int d, .int (nI f)]) (rest := []) ⟨hx, hb, hml, hown, hts⟩ (tX5_requireFlight_ok l d (nI f) hd9 (btw_nI hf)) (cwS9 2 hts mcX5_requireFlight (ac9 _ (List.mem_of_getElem? (i := 9) rfl)) msX5_requireFlight mini_RX5 rfl rfl hdX5_requireFlight ⟨Nat.le_of_ble_eq_true rfl, Nat.le_of_ble_eq_true rfl⟩) rfl hl.1 rfl (Nat.le_of_ble_eq_true rfl) (by decide) (dk kX5_ifFlown_ok 4 rfl) ?_
  refine lv_iload hx hb (dk kX5_ifFlown_ok 5 rfl) (lv_at hl 4 rfl) ?_
  refine lv_if_lt (tgt := 20) hx hb (dk kX5_ifFlown_ok 6 rfl) (by decide) (fun h1 => ?_) (fun h1 => ?_)
  · exact absurd h1 (rng_ok hy9).1
  · skip
    refine lv_iload hx hb (dk kX5_ifFlown_ok 7 rfl) (lv_at hl 4 rfl) ?_
    refine lv_iconst (v := nI 1) hx hb (dk kX5_ifFlown_ok 8 rfl) rfl ?_
    refine lv_icmp_le (tgt := 31) hx hb (dk kX5_ifFlown_ok 9 rfl) (by decide) (fun h2 => ?_) (fun h2 => ?_)
    · skip
      refine lv_aload_n hx hb (dk kX5_ifFlown_ok 15 rfl) rfl (lv_at hl 0 rfl) ?_
      refine gf hx hb hts (fun w h => List.mem_cons_of_mem _ (acX5 w h)) hown hK hP hz0 hC rfl 0 (by decide) (hts _ (List.mem_cons_of_mem _ (ac7 _ (List.mem_of_getElem? (i := 21) rfl)))) (fun _ h => h) rfl (dk kX5_ifFlown_ok 16 rfl) ?_
      refine lv_iload_n hx hb (dk kX5_ifFlown_ok 17 rfl) rfl (lv_at hl 1 rfl) ?_
      refine cvR (As := [.int (nI w)]) (rest := []) ⟨hx, hb, hml, hown, hts⟩ (tX4_whyNotFlown l D cI cQ cL ad N F 1 (by omega) c b v g h j t u z hN ht (nI w) w rfl (by omega)) (cwV9 1 hts mcX4_whyNotFlown (ac9 _ (List.mem_of_getElem? (i := 12) rfl)) miX4_whyNotFlown meX4_whyNotFlown mini_RX4 rfl rfl hdX4_whyNotFlown ⟨Nat.le_of_ble_eq_true rfl, Nat.le_of_ble_eq_true rfl⟩) hK hP hNW hz1 hN.1 rfl rfl hl.1 rfl (Nat.le_of_ble_eq_true rfl) (by decide) (dk kX5_ifFlown_ok 18 rfl) ?_
      refine n_if_eq (tgt := 46) hx hb (by first | omega | (have q1 := wnf_le c v t w; omega)) (dk kX5_ifFlown_ok 19 rfl) (by decide) (fun h3 => ?_) (fun h3 => ?_)
      · skip
        refine lv_aload_n hx hb (dk kX5_ifFlown_ok 22 rfl) rfl (lv_at hl 0 rfl) ?_
        refine lv_iload_n hx hb (dk kX5_ifFlown_ok 23 rfl) rfl (lv_at hl 1 rfl) ?_
        refine lv_iload_n hx hb (dk kX5_ifFlown_ok 24 rfl) rfl (lv_at hl 2 rfl) ?_
        refine lv_iload_n hx hb (dk kX5_ifFlown_ok 25 rfl) rfl (lv_at hl 3 rfl) ?_
        refine cvDv (As := [.int (nI w), .int d, .int (nI f)]) (rest := []) (mSet cI F 69 (mov1 c b v w (rest9 w (ldg (c w) d (stp w f)))) (mov2 c b v w (rest9 w (ldg (c w) d (stp w f)))) (mov3 c b v w (rest9 w (ldg (c w) d (stp w f))))) ⟨hx, hb, hml, hown, hts⟩ (tX5_tryFlight l D cI cQ cL ad N F (by omega) c b v g h j t u z hN c8 b8 v8 g8 h8 j8 t8 u8 z8 hSn n9 m9 hn9 hm9 hPa a n hn60 hT c6 b6 v6 hM6 a7 d7 q7 hO hs hC (nI w) w rfl (by omega) d (nI f) f rfl (by omega)) (cwV9 3 hts mcX5_tryFlight (ac14 _ (List.mem_of_getElem? (i := 10) rfl)) miX5_tryFlight meX5_tryFlight mini_RX5 rfl rfl hdX5_tryFlight ⟨Nat.le_of_ble_eq_true rfl, Nat.le_of_ble_eq_true rfl⟩) hDi hK hP hNW hS hz0 hC rfl rfl hl.1 rfl (Nat.le_of_ble_eq_true rfl) (by decide) (dk kX5_ifFlown_ok 26 rfl) rfl (fun H locs hP hS => ?_)
        refine lv_iload hx hb (dk kX5_ifFlown_ok 27 rfl) (lv_at hl 4 rfl) ?_
        refine lv_if_ne (tgt := 72) hx hb (dk kX5_ifFlown_ok 28 rfl) (by decide) (fun h4 => ?_) (fun h4 => ?_)
        · skip
          refine lv_aload_n hx hb (dk kX5_ifFlown_ok 35 rfl) rfl (lv_at hl 0 rfl) ?_
          refine gf hx hb hts (fun w h => List.mem_cons_of_mem _ (acX5 w h)) hown hK hP hz0 ((mSet_out (by omega)).trans hC) rfl 4 (by decide) (hts _ (List.mem_cons_of_mem _ (ac8 _ (List.mem_of_getElem? (i := 7) rfl)))) (fun _ h => h) rfl (dk kX5_ifFlown_ok 36 rfl) ?_
          refine lv_iconst (v := nI 1) hx hb (dk kX5_ifFlown_ok 37 rfl) rfl ?_
          refine lv_iload_n hx hb (dk kX5_ifFlown_ok 38 rfl) rfl (lv_at hl 1 rfl) ?_
          refine csP (As := [.int (nI w)]) (rest := [.int (nI 1), .ref (ad 69)]) ⟨hx, hb, hml, hown, hts⟩ (tX5_teamOf l (nI w) w rfl (by omega)) (cwS9 1 hts mcX5_teamOf (ac14 _ (List.mem_of_getElem? (i := 14) rfl)) msX5_teamOf mini_RX5 rfl rfl hdX5_teamOf ⟨Nat.le_of_ble_eq_true rfl, Nat.le_of_ble_eq_true rfl⟩) rfl hl.1 rfl (Nat.le_of_ble_eq_true rfl) (by decide) (dk kX5_ifFlown_ok 39 rfl) ?_
          refine n_isub hx hb (by omega) (dk kX5_ifFlown_ok 40 rfl) ?_
          refine cvR (As := [.int (nI (1 - (w / 4 % 2)))]) (rest := []) ⟨hx, hb, hml, hown, hts⟩ (tX1_coveredOfTeam l D cI cQ cL ad N (mSet cI F 69 (mov1 c b v w (rest9 w (ldg (c w) d (stp w f)))) (mov2 c b v w (rest9 w (ldg (c w) d (stp w f)))) (mov3 c b v w (rest9 w (ldg (c w) d (stp w f))))) 69 (by omega) (mov1 c b v w (rest9 w (ldg (c w) d (stp w f)))) (mov2 c b v w (rest9 w (ldg (c w) d (stp w f)))) (mov3 c b v w (rest9 w (ldg (c w) d (stp w f)))) (mSet_at hM6) (nI (1 - (w / 4 % 2))) (1 - (w / 4 % 2)) rfl (by omega)) (cwV9 1 hts mcX1_coveredOfTeam (ac14 _ (List.mem_of_getElem? (i := 21) rfl)) miX1_coveredOfTeam meX1_coveredOfTeam mini_RX1 rfl rfl hdX1_coveredOfTeam ⟨Nat.le_of_ble_eq_true rfl, Nat.le_of_ble_eq_true rfl⟩) hK hP hNW hz69 (mSet_at hM6).1 rfl rfl hl.1 rfl (Nat.le_of_ble_eq_true rfl) (by decide) (dk kX5_ifFlown_ok 41 rfl) ?_
          exact hret _ _ _ _ _ _ _ _ rfl (by simp only [dp, cIf, cLd, cCv, cM1, cM2, cM3, (eq_false h1), (eq_true h2), (eq_true h3), (eq_false h4), not_true_eq_false, not_false_eq_true, and_true, true_and, and_false, false_and, or_true, true_or, or_false, false_or, and_self, or_self, if_true, if_false, Bool.false_eq_true, reduceIte]) hP hS (by decide) (by decide) (dk kX5_ifFlown_ok 42 rfl)
        · skip
          refine lv_aload_n hx hb (dk kX5_ifFlown_ok 29 rfl) rfl (lv_at hl 0 rfl) ?_
          refine gf hx hb hts (fun w h => List.mem_cons_of_mem _ (acX5 w h)) hown hK hP hz0 ((mSet_out (by omega)).trans hC) rfl 4 (by decide) (hts _ (List.mem_cons_of_mem _ (ac8 _ (List.mem_of_getElem? (i := 7) rfl)))) (fun _ h => h) rfl (dk kX5_ifFlown_ok 30 rfl) ?_
          refine lv_iload_n hx hb (dk kX5_ifFlown_ok 31 rfl) rfl (lv_at hl 1 rfl) ?_
          refine csP (As := [.int (nI w)]) (rest := [.ref (ad 69)]) ⟨hx, hb, hml, hown, hts⟩ (tX5_teamOf l (nI w) w rfl (by omega)) (cwS9 1 hts mcX5_teamOf (ac14 _ (List.mem_of_getElem? (i := 14) rfl)) msX5_teamOf mini_RX5 rfl rfl hdX5_teamOf ⟨Nat.le_of_ble_eq_true rfl, Nat.le_of_ble_eq_true rfl⟩) rfl hl.1 rfl (Nat.le_of_ble_eq_true rfl) (by decide) (dk kX5_ifFlown_ok 32 rfl) ?_
          refine cvR (As := [.int (nI (w / 4 % 2))]) (rest := []) ⟨hx, hb, hml, hown, hts⟩ (tX1_leadOf l D cI cQ cL ad N (mSet cI F 69 (mov1 c b v w (rest9 w (ldg (c w) d (stp w f)))) (mov2 c b v w (rest9 w (ldg (c w) d (stp w f)))) (mov3 c b v w (rest9 w (ldg (c w) d (stp w f))))) 69 (by omega) (mov1 c b v w (rest9 w (ldg (c w) d (stp w f)))) (mov2 c b v w (rest9 w (ldg (c w) d (stp w f)))) (mov3 c b v w (rest9 w (ldg (c w) d (stp w f)))) (mSet_at hM6) (nI (w / 4 % 2)) (w / 4 % 2) rfl (by omega)) (cwV9 1 hts mcX1_leadOf (ac14 _ (List.mem_of_getElem? (i := 17) rfl)) miX1_leadOf meX1_leadOf mini_RX1 rfl rfl hdX1_leadOf ⟨Nat.le_of_ble_eq_true rfl, Nat.le_of_ble_eq_true rfl⟩) hK hP hNW hz69 (mSet_at hM6).1 rfl rfl hl.1 rfl (Nat.le_of_ble_eq_true rfl) (by decide) (dk kX5_ifFlown_ok 33 rfl) ?_
          refine lv_goto (tgt := 85) hx hb (dk kX5_ifFlown_ok 34 rfl) (by decide) ?_
          exact hret _ _ _ _ _ _ _ _ rfl (by simp only [dp, cIf, cLd, cCv, cM1, cM2, cM3, (eq_false h1), (eq_true h2), (eq_true h3), (eq_true h4), not_true_eq_false, not_false_eq_true, and_true, true_and, and_false, false_and, or_true, true_or, or_false, false_or, and_self, or_self, if_true, if_false, Bool.false_eq_true, reduceIte]) hP hS (by decide) (by decide) (dk kX5_ifFlown_ok 42 rfl)
      · exact absurd hwn h3
    · exact absurd (Int32.not_le.mp h2) (rng_ok hy9).2
set_option maxRecDepth 100000 in
set_option maxHeartbeats 4000000 in
theorem tX5_ifFlownX (l : Launch) (D : va_G) (cI cQ cL : ClassId) (ad : Nat → Nat) (N : Nat) (F : Nat → va_E) (hk : 76 < N) (c b v g h j : Nat → Int32) (t : Nat) (u z : Int32) (hN : stAt cI ad F 1 c b v g h j (nI t) u z) (c8 b8 v8 g8 h8 j8 : Nat → Int32) (t8 : Nat) (u8 z8 : Int32) (hSn : stAt cI ad F 9 c8 b8 v8 g8 h8 j8 (nI t8) u8 z8) (n9 m9 : Nat) (hn9 : n9 < 6) (hm9 : m9 ≤ 6) (hPa : paAt cQ ad F 17 n9 m9) (a : Nat → Int32) (n : Nat) (hn60 : n ≤ 60) (hT : gtAt cI ad F 67 a n) (c6 b6 v6 : Nat → Int32) (hM6 : matAt cI ad F 69 c6 b6 v6) (a7 d7 q7 : Nat → Int32) (hO : roAt cI ad F 73 a7 d7 q7) (hs : Bool) (hC : F 0 = .inr (5, [.ref (ad 1), .ref (ad 9), .ref (ad 17), .ref (ad 67), .ref (ad 69), .ref (ad 73), .int (bI hs)])) (ht : t < 4) (x : Int32) (w : Nat) (hxw : x = nI w) (hw : w < 16) (d : Int32) (hd9 : btw d (nI 0) (nI 7) = true) (k9 : Int32) (f : Nat) (hkf : k9 = nI f) (hf : 1 ≤ f ∧ f ≤ 9) (y : Int32) (hy9 : btw y (nI 0) (nI 1) = true) (hwn : wnf c v t w ≠ 0) : MR l yX5_ifFlown (Cond.code yX5_ifFlown cX5_ifFlown 5 (some .int) :: AW) ({ frames := 8, cells := 0, slots := 0, locals := 123 } : Room) D cI cQ cL ad N F [.ref (ad 0), .int x, .int d, .int k9, .int y] (.int (-1000)) := by
  refine mr_i (ty := .int) (by decide +kernel) rfl rfl rfl rfl (Nat.le_of_ble_eq_true rfl) (fun p e s m below meth cd Q ls hx hb hml hown hts hP hK hNW hret hl => ?_)
  have hown : s.vm.findClass RX5 = some m.cls := hown
  subst hxw
  subst hkf
  have hz0 : 0 < N := by omega
  have hz1 : 1 < N := by omega
  have hz1___1 : 1 + 1 < N := by omega
  have hz1___1___1 : 1 + 1 + 1 < N := by omega
  have hz1___1___2 : 1 + 1 + 2 < N := by omega
  have hz1___1___3 : 1 + 1 + 3 < N := by omega
  have hz1___5 : 1 + 5 < N := by omega
  have hz1___6 : 1 + 6 < N := by omega
  have hz1___7 : 1 + 7 < N := by omega
  have hz9 : 9 < N := by omega
  have hz17 : 17 < N := by omega
  have hz17___1 : 17 + 1 < N := by omega
  have hz67 : 67 < N := by omega
  have hz67___1 : 67 + 1 < N := by omega
  have hz69 : 69 < N := by omega
  have hz69___1 : 69 + 1 < N := by omega
  have hz69___2 : 69 + 2 < N := by omega
  have hz69___3 : 69 + 3 < N := by omega
  have hz73 : 73 < N := by omega
  have hz1___1___3 : 1 + 1 + 3 < N := by omega
  have hz69___3 : 69 + 3 < N := by omega
  have hl : lv_has ls 5 [(0, .ref (ad 0)), (1, .int (nI w)), (2, .int d), (3, .int (nI f)), (4, .int y)] := hl
  refine lv_iload_n hx hb (dk kX5_ifFlown_ok 0 rfl) rfl (lv_at hl 1 rfl) ?_
  refine csPv (As := [.int (nI w)]) (rest := []) ⟨hx, hb, hml, hown, hts⟩ (tX5_requireWink_ok l (nI w) (wk_nI hw)) (cwS9 1 hts mcX5_requireWink (ac9 _ (List.mem_of_getElem? (i := 6) rfl)) msX5_requireWink mini_RX5 rfl rfl hdX5_requireWink ⟨Nat.le_of_ble_eq_true rfl, Nat.le_of_ble_eq_true rfl⟩) rfl hl.1 rfl (Nat.le_of_ble_eq_true rfl) (by decide) (dk kX5_ifFlown_ok 1 rfl) ?_
  refine lv_iload_n hx hb (dk kX5_ifFlown_ok 2 rfl) rfl (lv_at hl 2 rfl) ?_
  refine lv_iload_n hx hb (dk kX5_ifFlown_ok 3 rfl) rfl (lv_at hl 3 rfl) ?_
  refine csPv (As := [.int d, .int (nI f)]) (rest := []) ⟨hx, hb, hml, hown, hts⟩ (tX5_requireFlight_ok l d (nI f) hd9 (btw_nI hf)) (cwS9 2 hts mcX5_requireFlight (ac9 _ (List.mem_of_getElem? (i := 9) rfl)) msX5_requireFlight mini_RX5 rfl rfl hdX5_requireFlight ⟨Nat.le_of_ble_eq_true rfl, Nat.le_of_ble_eq_true rfl⟩) rfl hl.1 rfl (Nat.le_of_ble_eq_true rfl) (by decide) (dk kX5_ifFlown_ok 4 rfl) ?_
  refine lv_iload hx hb (dk kX5_ifFlown_ok 5 rfl) (lv_at hl 4 rfl) ?_
  refine lv_if_lt (tgt := 20) hx hb (dk kX5_ifFlown_ok 6 rfl) (by decide) (fun h1 => ?_) (fun h1 => ?_)
  · exact absurd h1 (rng_ok hy9).1
  · skip
    refine lv_iload hx hb (dk kX5_ifFlown_ok 7 rfl) (lv_at hl 4 rfl) ?_
    refine lv_iconst (v := nI 1) hx hb (dk kX5_ifFlown_ok 8 rfl) rfl ?_
    refine lv_icmp_le (tgt := 31) hx hb (dk kX5_ifFlown_ok 9 rfl) (by decide) (fun h2 => ?_) (fun h2 => ?_)
    · skip
      refine lv_aload_n hx hb (dk kX5_ifFlown_ok 15 rfl) rfl (lv_at hl 0 rfl) ?_
      refine gf hx hb hts (fun w h => List.mem_cons_of_mem _ (acX5 w h)) hown hK hP hz0 hC rfl 0 (by decide) (hts _ (List.mem_cons_of_mem _ (ac7 _ (List.mem_of_getElem? (i := 21) rfl)))) (fun _ h => h) rfl (dk kX5_ifFlown_ok 16 rfl) ?_
      refine lv_iload_n hx hb (dk kX5_ifFlown_ok 17 rfl) rfl (lv_at hl 1 rfl) ?_
      refine cvR (As := [.int (nI w)]) (rest := []) ⟨hx, hb, hml, hown, hts⟩ (tX4_whyNotFlown l D cI cQ cL ad N F 1 (by omega) c b v g h j t u z hN ht (nI w) w rfl (by omega)) (cwV9 1 hts mcX4_whyNotFlown (ac9 _ (List.mem_of_getElem? (i := 12) rfl)) miX4_whyNotFlown meX4_whyNotFlown mini_RX4 rfl rfl hdX4_whyNotFlown ⟨Nat.le_of_ble_eq_true rfl, Nat.le_of_ble_eq_true rfl⟩) hK hP hNW hz1 hN.1 rfl rfl hl.1 rfl (Nat.le_of_ble_eq_true rfl) (by decide) (dk kX5_ifFlown_ok 18 rfl) ?_
      refine n_if_eq (tgt := 46) hx hb (by first | omega | (have q1 := wnf_le c v t w; omega)) (dk kX5_ifFlown_ok 19 rfl) (by decide) (fun h3 => ?_) (fun h3 => ?_)
      · exact absurd h3 hwn
      · skip
        refine lv_sipush (v := -1000) hx hb (dk kX5_ifFlown_ok 20 rfl) rfl ?_
        exact hret _ _ _ (by rfl) (dk kX5_ifFlown_ok 21 rfl)
    · exact absurd (Int32.not_le.mp h2) (rng_ok hy9).2
set_option maxRecDepth 100000 in
set_option maxHeartbeats 4000000 in
theorem tX5_ifFlownX_b1 (l : Launch) (hst : l.stackTraces = false) (D : va_G) (cI cQ cL : ClassId) (ad : Nat → Nat) (N : Nat) (F : Nat → va_E) (hk : 76 < N) (c b v g h j : Nat → Int32) (t : Nat) (u z : Int32) (hN : stAt cI ad F 1 c b v g h j (nI t) u z) (c8 b8 v8 g8 h8 j8 : Nat → Int32) (t8 : Nat) (u8 z8 : Int32) (hSn : stAt cI ad F 9 c8 b8 v8 g8 h8 j8 (nI t8) u8 z8) (n9 m9 : Nat) (hn9 : n9 < 6) (hm9 : m9 ≤ 6) (hPa : paAt cQ ad F 17 n9 m9) (a : Nat → Int32) (n : Nat) (hn60 : n ≤ 60) (hT : gtAt cI ad F 67 a n) (c6 b6 v6 : Nat → Int32) (hM6 : matAt cI ad F 69 c6 b6 v6) (a7 d7 q7 : Nat → Int32) (hO : roAt cI ad F 73 a7 d7 q7) (hs : Bool) (hC : F 0 = .inr (5, [.ref (ad 1), .ref (ad 9), .ref (ad 17), .ref (ad 67), .ref (ad 69), .ref (ad 73), .int (bI hs)])) (x d k9 : Int32) (hwk : wk x = false) (y : Int32) : MT l yX5_ifFlown (Cond.code yX5_ifFlown cX5_ifFlown 5 (some .int) :: AW) ({ frames := 7, cells := 1, slots := 6, locals := 102 } : Room) D cI cQ cL ad N F [.ref (ad 0), .int x, .int d, .int k9, .int y] eI 1 6 := by
  refine mt_of (ret := (some .int)) hst (by decide +kernel) rfl (Nat.le_of_ble_eq_true rfl) (fun p e s m below meth cd Q ls hx hb hml hown hts hDi hP hK hNW hS hX hthr hthrW hout hl => ?_)
  have hown : s.vm.findClass RX5 = some m.cls := hown
  have hz0 : 0 < N := by omega
  have hz1 : 1 < N := by omega
  have hz1___1 : 1 + 1 < N := by omega
  have hz1___1___1 : 1 + 1 + 1 < N := by omega
  have hz1___1___2 : 1 + 1 + 2 < N := by omega
  have hz1___1___3 : 1 + 1 + 3 < N := by omega
  have hz1___5 : 1 + 5 < N := by omega
  have hz1___6 : 1 + 6 < N := by omega
  have hz1___7 : 1 + 7 < N := by omega
  have hz9 : 9 < N := by omega
  have hz17 : 17 < N := by omega
  have hz17___1 : 17 + 1 < N := by omega
  have hz67 : 67 < N := by omega
  have hz67___1 : 67 + 1 < N := by omega
  have hz69 : 69 < N := by omega
  have hz69___1 : 69 + 1 < N := by omega
  have hz69___2 : 69 + 2 < N := by omega
  have hz69___3 : 69 + 3 < N := by omega
  have hz73 : 73 < N := by omega
  have hz1___1___3 : 1 + 1 + 3 < N := by omega
  have hz69___3 : 69 + 3 < N := by omega
  have hl : lv_has ls 5 [(0, .ref (ad 0)), (1, .int x), (2, .int d), (3, .int k9), (4, .int y)] := hl
  refine lv_iload_n hx hb (dk kX5_ifFlown_ok 0 rfl) rfl (lv_at hl 1 rfl) ?_
  exact csT (As := [.int x]) (rest := []) ⟨hx, hb, hml, hown, hts⟩ (tX5_requireWink_b1 l hst D cI cQ cL ad N F x hwk) (cwS9 1 hts mcX5_requireWink (ac9 _ (List.mem_of_getElem? (i := 6) rfl)) msX5_requireWink mini_RX5 rfl rfl hdX5_requireWink ⟨Nat.le_of_ble_eq_true rfl, Nat.le_of_ble_eq_true rfl⟩) hDi hK hP hNW hS hX rfl hl.1 rfl (Nat.le_of_ble_eq_true rfl) (by decide) (dk kX5_ifFlown_ok 1 rfl) (fun H locs q ce hP hS h1 h2 h3 => hout _ _ _ H locs q ce _ _ hP hS h1 h2 h3 (by decide) (by decide))
set_option maxRecDepth 100000 in
set_option maxHeartbeats 4000000 in
theorem tX5_ifFlownX_b2 (l : Launch) (hst : l.stackTraces = false) (D : va_G) (cI cQ cL : ClassId) (ad : Nat → Nat) (N : Nat) (F : Nat → va_E) (hk : 76 < N) (c b v g h j : Nat → Int32) (t : Nat) (u z : Int32) (hN : stAt cI ad F 1 c b v g h j (nI t) u z) (c8 b8 v8 g8 h8 j8 : Nat → Int32) (t8 : Nat) (u8 z8 : Int32) (hSn : stAt cI ad F 9 c8 b8 v8 g8 h8 j8 (nI t8) u8 z8) (n9 m9 : Nat) (hn9 : n9 < 6) (hm9 : m9 ≤ 6) (hPa : paAt cQ ad F 17 n9 m9) (a : Nat → Int32) (n : Nat) (hn60 : n ≤ 60) (hT : gtAt cI ad F 67 a n) (c6 b6 v6 : Nat → Int32) (hM6 : matAt cI ad F 69 c6 b6 v6) (a7 d7 q7 : Nat → Int32) (hO : roAt cI ad F 73 a7 d7 q7) (hs : Bool) (hC : F 0 = .inr (5, [.ref (ad 1), .ref (ad 9), .ref (ad 17), .ref (ad 67), .ref (ad 69), .ref (ad 73), .int (bI hs)])) (x : Int32) (w : Nat) (hxw : x = nI w) (hw : w < 16) (d k9 : Int32) (hd9 : btw d (nI 0) (nI 7) = false) (y : Int32) : MT l yX5_ifFlown (Cond.code yX5_ifFlown cX5_ifFlown 5 (some .int) :: AW) ({ frames := 8, cells := 1, slots := 6, locals := 123 } : Room) D cI cQ cL ad N F [.ref (ad 0), .int x, .int d, .int k9, .int y] eA 1 6 := by
  refine mt_of (ret := (some .int)) hst (by decide +kernel) rfl (Nat.le_of_ble_eq_true rfl) (fun p e s m below meth cd Q ls hx hb hml hown hts hDi hP hK hNW hS hX hthr hthrW hout hl => ?_)
  have hown : s.vm.findClass RX5 = some m.cls := hown
  subst hxw
  have hz0 : 0 < N := by omega
  have hz1 : 1 < N := by omega
  have hz1___1 : 1 + 1 < N := by omega
  have hz1___1___1 : 1 + 1 + 1 < N := by omega
  have hz1___1___2 : 1 + 1 + 2 < N := by omega
  have hz1___1___3 : 1 + 1 + 3 < N := by omega
  have hz1___5 : 1 + 5 < N := by omega
  have hz1___6 : 1 + 6 < N := by omega
  have hz1___7 : 1 + 7 < N := by omega
  have hz9 : 9 < N := by omega
  have hz17 : 17 < N := by omega
  have hz17___1 : 17 + 1 < N := by omega
  have hz67 : 67 < N := by omega
  have hz67___1 : 67 + 1 < N := by omega
  have hz69 : 69 < N := by omega
  have hz69___1 : 69 + 1 < N := by omega
  have hz69___2 : 69 + 2 < N := by omega
  have hz69___3 : 69 + 3 < N := by omega
  have hz73 : 73 < N := by omega
  have hz1___1___3 : 1 + 1 + 3 < N := by omega
  have hz69___3 : 69 + 3 < N := by omega
  have hl : lv_has ls 5 [(0, .ref (ad 0)), (1, .int (nI w)), (2, .int d), (3, .int k9), (4, .int y)] := hl
  refine lv_iload_n hx hb (dk kX5_ifFlown_ok 0 rfl) rfl (lv_at hl 1 rfl) ?_
  refine csPv (As := [.int (nI w)]) (rest := []) ⟨hx, hb, hml, hown, hts⟩ (tX5_requireWink_ok l (nI w) (wk_nI hw)) (cwS9 1 hts mcX5_requireWink (ac9 _ (List.mem_of_getElem? (i := 6) rfl)) msX5_requireWink mini_RX5 rfl rfl hdX5_requireWink ⟨Nat.le_of_ble_eq_true rfl, Nat.le_of_ble_eq_true rfl⟩) rfl hl.1 rfl (Nat.le_of_ble_eq_true rfl) (by decide) (dk kX5_ifFlown_ok 1 rfl) ?_
  refine lv_iload_n hx hb (dk kX5_ifFlown_ok 2 rfl) rfl (lv_at hl 2 rfl) ?_
  refine lv_iload_n hx hb (dk kX5_ifFlown_ok 3 rfl) rfl (lv_at hl 3 rfl) ?_
  exact csT (As := [.int d, .int k9]) (rest := []) ⟨hx, hb, hml, hown, hts⟩ (tX5_requireFlight_b1 l hst D cI cQ cL ad N F d k9 hd9) (cwS9 2 hts mcX5_requireFlight (ac9 _ (List.mem_of_getElem? (i := 9) rfl)) msX5_requireFlight mini_RX5 rfl rfl hdX5_requireFlight ⟨Nat.le_of_ble_eq_true rfl, Nat.le_of_ble_eq_true rfl⟩) hDi hK hP hNW hS hX rfl hl.1 rfl (Nat.le_of_ble_eq_true rfl) (by decide) (dk kX5_ifFlown_ok 4 rfl) (fun H locs q ce hP hS h1 h2 h3 => hout _ _ _ H locs q ce _ _ hP hS h1 h2 h3 (by decide) (by decide))
set_option maxRecDepth 100000 in
set_option maxHeartbeats 4000000 in
theorem tX5_ifFlownX_b3 (l : Launch) (hst : l.stackTraces = false) (D : va_G) (cI cQ cL : ClassId) (ad : Nat → Nat) (N : Nat) (F : Nat → va_E) (hk : 76 < N) (c b v g h j : Nat → Int32) (t : Nat) (u z : Int32) (hN : stAt cI ad F 1 c b v g h j (nI t) u z) (c8 b8 v8 g8 h8 j8 : Nat → Int32) (t8 : Nat) (u8 z8 : Int32) (hSn : stAt cI ad F 9 c8 b8 v8 g8 h8 j8 (nI t8) u8 z8) (n9 m9 : Nat) (hn9 : n9 < 6) (hm9 : m9 ≤ 6) (hPa : paAt cQ ad F 17 n9 m9) (a : Nat → Int32) (n : Nat) (hn60 : n ≤ 60) (hT : gtAt cI ad F 67 a n) (c6 b6 v6 : Nat → Int32) (hM6 : matAt cI ad F 69 c6 b6 v6) (a7 d7 q7 : Nat → Int32) (hO : roAt cI ad F 73 a7 d7 q7) (hs : Bool) (hC : F 0 = .inr (5, [.ref (ad 1), .ref (ad 9), .ref (ad 17), .ref (ad 67), .ref (ad 69), .ref (ad 73), .int (bI hs)])) (x : Int32) (w : Nat) (hxw : x = nI w) (hw : w < 16) (d k9 : Int32) (hd9 : btw d (nI 0) (nI 7) = true) (hf9 : btw k9 (nI 1) (nI 9) = false) (y : Int32) : MT l yX5_ifFlown (Cond.code yX5_ifFlown cX5_ifFlown 5 (some .int) :: AW) ({ frames := 8, cells := 1, slots := 6, locals := 123 } : Room) D cI cQ cL ad N F [.ref (ad 0), .int x, .int d, .int k9, .int y] eA 1 6 := by
  refine mt_of (ret := (some .int)) hst (by decide +kernel) rfl (Nat.le_of_ble_eq_true rfl) (fun p e s m below meth cd Q ls hx hb hml hown hts hDi hP hK hNW hS hX hthr hthrW hout hl => ?_)
  have hown : s.vm.findClass RX5 = some m.cls := hown
  subst hxw
  have hz0 : 0 < N := by omega
  have hz1 : 1 < N := by omega
  have hz1___1 : 1 + 1 < N := by omega
  have hz1___1___1 : 1 + 1 + 1 < N := by omega
  have hz1___1___2 : 1 + 1 + 2 < N := by omega
  have hz1___1___3 : 1 + 1 + 3 < N := by omega
  have hz1___5 : 1 + 5 < N := by omega
  have hz1___6 : 1 + 6 < N := by omega
  have hz1___7 : 1 + 7 < N := by omega
  have hz9 : 9 < N := by omega
  have hz17 : 17 < N := by omega
  have hz17___1 : 17 + 1 < N := by omega
  have hz67 : 67 < N := by omega
  have hz67___1 : 67 + 1 < N := by omega
  have hz69 : 69 < N := by omega
  have hz69___1 : 69 + 1 < N := by omega
  have hz69___2 : 69 + 2 < N := by omega
  have hz69___3 : 69 + 3 < N := by omega
  have hz73 : 73 < N := by omega
  have hz1___1___3 : 1 + 1 + 3 < N := by omega
  have hz69___3 : 69 + 3 < N := by omega
  have hl : lv_has ls 5 [(0, .ref (ad 0)), (1, .int (nI w)), (2, .int d), (3, .int k9), (4, .int y)] := hl
  refine lv_iload_n hx hb (dk kX5_ifFlown_ok 0 rfl) rfl (lv_at hl 1 rfl) ?_
  refine csPv (As := [.int (nI w)]) (rest := []) ⟨hx, hb, hml, hown, hts⟩ (tX5_requireWink_ok l (nI w) (wk_nI hw)) (cwS9 1 hts mcX5_requireWink (ac9 _ (List.mem_of_getElem? (i := 6) rfl)) msX5_requireWink mini_RX5 rfl rfl hdX5_requireWink ⟨Nat.le_of_ble_eq_true rfl, Nat.le_of_ble_eq_true rfl⟩) rfl hl.1 rfl (Nat.le_of_ble_eq_true rfl) (by decide) (dk kX5_ifFlown_ok 1 rfl) ?_
  refine lv_iload_n hx hb (dk kX5_ifFlown_ok 2 rfl) rfl (lv_at hl 2 rfl) ?_
  refine lv_iload_n hx hb (dk kX5_ifFlown_ok 3 rfl) rfl (lv_at hl 3 rfl) ?_
  exact csT (As := [.int d, .int k9]) (rest := []) ⟨hx, hb, hml, hown, hts⟩ (tX5_requireFlight_b2 l hst D cI cQ cL ad N F d k9 hd9 hf9) (cwS9 2 hts mcX5_requireFlight (ac9 _ (List.mem_of_getElem? (i := 9) rfl)) msX5_requireFlight mini_RX5 rfl rfl hdX5_requireFlight ⟨Nat.le_of_ble_eq_true rfl, Nat.le_of_ble_eq_true rfl⟩) hDi hK hP hNW hS hX rfl hl.1 rfl (Nat.le_of_ble_eq_true rfl) (by decide) (dk kX5_ifFlown_ok 4 rfl) (fun H locs q ce hP hS h1 h2 h3 => hout _ _ _ H locs q ce _ _ hP hS h1 h2 h3 (by decide) (by decide))
set_option maxRecDepth 100000 in
set_option maxHeartbeats 4000000 in
theorem tX5_ifFlownX_b4 (l : Launch) (hst : l.stackTraces = false) (D : va_G) (cI cQ cL : ClassId) (ad : Nat → Nat) (N : Nat) (F : Nat → va_E) (hk : 76 < N) (c b v g h j : Nat → Int32) (t : Nat) (u z : Int32) (hN : stAt cI ad F 1 c b v g h j (nI t) u z) (c8 b8 v8 g8 h8 j8 : Nat → Int32) (t8 : Nat) (u8 z8 : Int32) (hSn : stAt cI ad F 9 c8 b8 v8 g8 h8 j8 (nI t8) u8 z8) (n9 m9 : Nat) (hn9 : n9 < 6) (hm9 : m9 ≤ 6) (hPa : paAt cQ ad F 17 n9 m9) (a : Nat → Int32) (n : Nat) (hn60 : n ≤ 60) (hT : gtAt cI ad F 67 a n) (c6 b6 v6 : Nat → Int32) (hM6 : matAt cI ad F 69 c6 b6 v6) (a7 d7 q7 : Nat → Int32) (hO : roAt cI ad F 73 a7 d7 q7) (hs : Bool) (hC : F 0 = .inr (5, [.ref (ad 1), .ref (ad 9), .ref (ad 17), .ref (ad 67), .ref (ad 69), .ref (ad 73), .int (bI hs)])) (x : Int32) (w : Nat) (hxw : x = nI w) (hw : w < 16) (d : Int32) (hd9 : btw d (nI 0) (nI 7) = true) (k9 : Int32) (f : Nat) (hkf : k9 = nI f) (hf : 1 ≤ f ∧ f ≤ 9) (y : Int32) (hy9 : btw y (nI 0) (nI 1) = false) : MT l yX5_ifFlown (Cond.code yX5_ifFlown cX5_ifFlown 5 (some .int) :: AW) ({ frames := 8, cells := 1, slots := 6, locals := 123 } : Room) D cI cQ cL ad N F [.ref (ad 0), .int x, .int d, .int k9, .int y] eA 1 6 := by
  refine mt_of (ret := (some .int)) hst (by decide +kernel) rfl (Nat.le_of_ble_eq_true rfl) (fun p e s m below meth cd Q ls hx hb hml hown hts hDi hP hK hNW hS hX hthr hthrW hout hl => ?_)
  have hown : s.vm.findClass RX5 = some m.cls := hown
  subst hxw
  subst hkf
  have hz0 : 0 < N := by omega
  have hz1 : 1 < N := by omega
  have hz1___1 : 1 + 1 < N := by omega
  have hz1___1___1 : 1 + 1 + 1 < N := by omega
  have hz1___1___2 : 1 + 1 + 2 < N := by omega
  have hz1___1___3 : 1 + 1 + 3 < N := by omega
  have hz1___5 : 1 + 5 < N := by omega
  have hz1___6 : 1 + 6 < N := by omega
  have hz1___7 : 1 + 7 < N := by omega
  have hz9 : 9 < N := by omega
  have hz17 : 17 < N := by omega
  have hz17___1 : 17 + 1 < N := by omega
  have hz67 : 67 < N := by omega
  have hz67___1 : 67 + 1 < N := by omega
  have hz69 : 69 < N := by omega
  have hz69___1 : 69 + 1 < N := by omega
  have hz69___2 : 69 + 2 < N := by omega
  have hz69___3 : 69 + 3 < N := by omega
  have hz73 : 73 < N := by omega
  have hz1___1___3 : 1 + 1 + 3 < N := by omega
  have hz69___3 : 69 + 3 < N := by omega
  have hl : lv_has ls 5 [(0, .ref (ad 0)), (1, .int (nI w)), (2, .int d), (3, .int (nI f)), (4, .int y)] := hl
  refine lv_iload_n hx hb (dk kX5_ifFlown_ok 0 rfl) rfl (lv_at hl 1 rfl) ?_
  refine csPv (As := [.int (nI w)]) (rest := []) ⟨hx, hb, hml, hown, hts⟩ (tX5_requireWink_ok l (nI w) (wk_nI hw)) (cwS9 1 hts mcX5_requireWink (ac9 _ (List.mem_of_getElem? (i := 6) rfl)) msX5_requireWink mini_RX5 rfl rfl hdX5_requireWink ⟨Nat.le_of_ble_eq_true rfl, Nat.le_of_ble_eq_true rfl⟩) rfl hl.1 rfl (Nat.le_of_ble_eq_true rfl) (by decide) (dk kX5_ifFlown_ok 1 rfl) ?_
  refine lv_iload_n hx hb (dk kX5_ifFlown_ok 2 rfl) rfl (lv_at hl 2 rfl) ?_
  refine lv_iload_n hx hb (dk kX5_ifFlown_ok 3 rfl) rfl (lv_at hl 3 rfl) ?_
  refine csPv (As := [.int d, .int (nI f)]) (rest := []) ⟨hx, hb, hml, hown, hts⟩ (tX5_requireFlight_ok l d (nI f) hd9 (btw_nI hf)) (cwS9 2 hts mcX5_requireFlight (ac9 _ (List.mem_of_getElem? (i := 9) rfl)) msX5_requireFlight mini_RX5 rfl rfl hdX5_requireFlight ⟨Nat.le_of_ble_eq_true rfl, Nat.le_of_ble_eq_true rfl⟩) rfl hl.1 rfl (Nat.le_of_ble_eq_true rfl) (by decide) (dk kX5_ifFlown_ok 4 rfl) ?_
  refine lv_iload hx hb (dk kX5_ifFlown_ok 5 rfl) (lv_at hl 4 rfl) ?_
  refine lv_if_lt (tgt := 20) hx hb (dk kX5_ifFlown_ok 6 rfl) (by decide) (fun h1 => ?_) (fun h1 => ?_)
  · skip
    exact hthrW 104 108 260 20 "what is 0 or 1" ls [] _ _ 0 0 (by decide) (by decide) hP hS hl.1 (dk kX5_ifFlown_ok 10 rfl) (dk kX5_ifFlown_ok 11 rfl) (dk kX5_ifFlown_ok 12 rfl) (dk kX5_ifFlown_ok 13 rfl) (dk kX5_ifFlown_ok 14 rfl) (by decide) (by decide) (by decide) (by decide) (by decide) (by decide)
  · skip
    refine lv_iload hx hb (dk kX5_ifFlown_ok 7 rfl) (lv_at hl 4 rfl) ?_
    refine lv_iconst (v := nI 1) hx hb (dk kX5_ifFlown_ok 8 rfl) rfl ?_
    refine lv_icmp_le (tgt := 31) hx hb (dk kX5_ifFlown_ok 9 rfl) (by decide) (fun h2 => ?_) (fun h2 => ?_)
    · exact (ff_tt hy9 (rng_bad h1 (Int32.not_lt.mpr h2))).elim
    · skip
      exact hthrW 104 108 260 20 "what is 0 or 1" ls [] _ _ 0 0 (by decide) (by decide) hP hS hl.1 (dk kX5_ifFlown_ok 10 rfl) (dk kX5_ifFlown_ok 11 rfl) (dk kX5_ifFlown_ok 12 rfl) (dk kX5_ifFlown_ok 13 rfl) (dk kX5_ifFlown_ok 14 rfl) (by decide) (by decide) (by decide) (by decide) (by decide) (by decide)
set_option maxRecDepth 100000 in
set_option maxHeartbeats 4000000 in
theorem tX5_best (l : Launch) (D : va_G) (cI cQ cL : ClassId) (ad : Nat → Nat) (N : Nat) (F : Nat → va_E) (hk : 76 < N) (c b v g h j : Nat → Int32) (t : Nat) (u z : Int32) (hN : stAt cI ad F 1 c b v g h j (nI t) u z) (c8 b8 v8 g8 h8 j8 : Nat → Int32) (t8 : Nat) (u8 z8 : Int32) (hSn : stAt cI ad F 9 c8 b8 v8 g8 h8 j8 (nI t8) u8 z8) (n9 m9 : Nat) (hn9 : n9 < 6) (hm9 : m9 ≤ 6) (hPa : paAt cQ ad F 17 n9 m9) (a : Nat → Int32) (n : Nat) (hn60 : n ≤ 60) (hT : gtAt cI ad F 67 a n) (c6 b6 v6 : Nat → Int32) (hM6 : matAt cI ad F 69 c6 b6 v6) (a7 d7 q7 : Nat → Int32) (hO : roAt cI ad F 73 a7 d7 q7) (hs : Bool) (hC : F 0 = .inr (5, [.ref (ad 1), .ref (ad 9), .ref (ad 17), .ref (ad 67), .ref (ad 69), .ref (ad 73), .int (bI hs)])) (ht : t < 4) : MX l yX5_best (Cond.code yX5_best cX5_best 11 (some .int) :: AW) ({ frames := 5, cells := 0, slots := 0, locals := 108 } : Room) D cI cQ cL ad N F [.ref (ad 0)] (dp (some (.int (cbO c b v t ((-1 : Int32), nI 0, nI 0, c6, b6, v6) 16).1)) (mSet cI F 69 ((cbO c b v t ((-1 : Int32), nI 0, nI 0, c6, b6, v6) 16).2.2.2.1) ((cbO c b v t ((-1 : Int32), nI 0, nI 0, c6, b6, v6) 16).2.2.2.2.1) ((cbO c b v t ((-1 : Int32), nI 0, nI 0, c6, b6, v6) 16).2.2.2.2.2))) 0 0 := by
  refine mx_i (ty := .int) (by decide +kernel) rfl (Nat.le_of_ble_eq_true rfl) (fun p e s m below meth cd Q ls hx hb hml hown hts hDi hP hK hNW hS hret hl => ?_)
  have hown : s.vm.findClass RX5 = some m.cls := hown
  have hz0 : 0 < N := by omega
  have hz1 : 1 < N := by omega
  have hz1___1 : 1 + 1 < N := by omega
  have hz1___1___1 : 1 + 1 + 1 < N := by omega
  have hz1___1___2 : 1 + 1 + 2 < N := by omega
  have hz1___1___3 : 1 + 1 + 3 < N := by omega
  have hz1___5 : 1 + 5 < N := by omega
  have hz1___6 : 1 + 6 < N := by omega
  have hz1___7 : 1 + 7 < N := by omega
  have hz9 : 9 < N := by omega
  have hz17 : 17 < N := by omega
  have hz17___1 : 17 + 1 < N := by omega
  have hz67 : 67 < N := by omega
  have hz67___1 : 67 + 1 < N := by omega
  have hz69 : 69 < N := by omega
  have hz69___1 : 69 + 1 < N := by omega
  have hz69___2 : 69 + 2 < N := by omega
  have hz69___3 : 69 + 3 < N := by omega
  have hz73 : 73 < N := by omega
  have hz1___1___3 : 1 + 1 + 3 < N := by omega
  have hz69___3 : 69 + 3 < N := by omega
  have hl : lv_has ls 11 [(0, .ref (ad 0))] := hl
  refine lv_iconst (v := -1) hx hb (dk kX5_best_0_ok 0 rfl) rfl ?_
  refine lv_istore_n (lv' := [(1, .int (-1)), (0, .ref (ad 0))]) hx hb (dk kX5_best_0_ok 1 rfl) rfl hl (by decide) rfl (fun ls hl => ?_)
  refine lv_iconst (v := nI 0) hx hb (dk kX5_best_0_ok 2 rfl) rfl ?_
  refine lv_istore_n (lv' := [(2, .int (nI 0)), (1, .int (-1)), (0, .ref (ad 0))]) hx hb (dk kX5_best_0_ok 3 rfl) rfl hl (by decide) rfl (fun ls hl => ?_)
  refine lv_iconst (v := nI 0) hx hb (dk kX5_best_0_ok 4 rfl) rfl ?_
  refine lv_istore_n (lv' := [(3, .int (nI 0)), (2, .int (nI 0)), (1, .int (-1)), (0, .ref (ad 0))]) hx hb (dk kX5_best_0_ok 5 rfl) rfl hl (by decide) rfl (fun ls hl => ?_)
  refine lv_iconst (v := nI 0) hx hb (dk kX5_best_0_ok 6 rfl) rfl ?_
  refine lv_istore (lv' := [(4, .int (nI 0)), (3, .int (nI 0)), (2, .int (nI 0)), (1, .int (-1)), (0, .ref (ad 0))]) hx hb (dk kX5_best_0_ok 7 rfl) hl (by decide) rfl (fun ls hl => ?_)
  have L9 : ∀ (fu : Nat) (w : Nat) (x1 : Int32) (x2 : Int32) (x3 : Int32) (H : Heap) (locs : List Loc), va_P D vwCl (iW ad N (mSet cI F 69 ((cbO c b v t ((-1 : Int32), nI 0, nI 0, c6, b6, v6) w).2.2.2.1) ((cbO c b v t ((-1 : Int32), nI 0, nI 0, c6, b6, v6) w).2.2.2.2.1) ((cbO c b v t ((-1 : Int32), nI 0, nI 0, c6, b6, v6) w).2.2.2.2.2))) H → va_S (iA ad N s.heap.size) s.heap H locs → x1 = (cbO c b v t ((-1 : Int32), nI 0, nI 0, c6, b6, v6) w).1 → x2 = (cbO c b v t ((-1 : Int32), nI 0, nI 0, c6, b6, v6) w).2.1 → x3 = (cbO c b v t ((-1 : Int32), nI 0, nI 0, c6, b6, v6) w).2.2.1 → w ≤ 16 → 16 - w < fu → ∀ ls : Array Slot, lv_has ls 11 [(0, .ref (ad 0)), (1, .int x1), (2, .int x2), (3, .int x3), (4, .int (nI w))] → W p l e ({ frames := 5, cells := 0, slots := 0, locals := 108 } : Room) s m ([.ref (ad 0)] : List Value).toArray below meth cd H locs 0 0 Q (F0 m 9 ls []) := by
    intro fu
    induction fu with
    | zero => intros; omega
    | succ fu ih9 =>
      intro w x1 x2 x3 H locs hP hS ex1 ex2 ex3 hw hme9 ls hl
      subst ex1
      subst ex2
      subst ex3
      refine lv_iload hx hb (dk kX5_best_0_ok 8 rfl) (lv_at hl 4 rfl) ?_
      refine lv_bipush (v := nI 16) hx hb (dk kX5_best_0_ok 9 rfl) rfl ?_
      refine n_icmp_ge (tgt := 154) hx hb (by first | omega | (have q1 := wnf_le c v t w; omega)) (by decide) (dk kX5_best_0_ok 10 rfl) (by decide) (fun h1 => ?_) (fun h1 => ?_)
      · skip
        refine lv_iload_n hx hb (dk kX5_best_1_ok 22 rfl) rfl (lv_at hl 1 rfl) ?_
        exact hret _ _ _ _ _ _ _ _ rfl (by rw [show w = 16 by omega]; exact ⟨rfl, rfl⟩) hP hS (by decide) (by decide) (dk kX5_best_1_ok 23 rfl)
      · skip
        refine lv_aload_n hx hb (dk kX5_best_0_ok 11 rfl) rfl (lv_at hl 0 rfl) ?_
        refine gf hx hb hts (fun w h => List.mem_cons_of_mem _ (acX5 w h)) hown hK hP hz0 ((mSet_out (by omega)).trans hC) rfl 0 (by decide) (hts _ (List.mem_cons_of_mem _ (ac7 _ (List.mem_of_getElem? (i := 21) rfl)))) (fun _ h => h) rfl (dk kX5_best_0_ok 12 rfl) ?_
        refine lv_iload hx hb (dk kX5_best_0_ok 13 rfl) (lv_at hl 4 rfl) ?_
        refine cvR (As := [.int (nI w)]) (rest := []) ⟨hx, hb, hml, hown, hts⟩ (tX4_whyNotFlown l D cI cQ cL ad N (mSet cI F 69 ((cbO c b v t ((-1 : Int32), nI 0, nI 0, c6, b6, v6) w).2.2.2.1) ((cbO c b v t ((-1 : Int32), nI 0, nI 0, c6, b6, v6) w).2.2.2.2.1) ((cbO c b v t ((-1 : Int32), nI 0, nI 0, c6, b6, v6) w).2.2.2.2.2)) 1 (by omega) c b v g h j t u z (stAt_keep hN (fun i _ _ => mSet_out (by omega))) ht (nI w) w rfl (by omega)) (cwV9 1 hts mcX4_whyNotFlown (ac9 _ (List.mem_of_getElem? (i := 12) rfl)) miX4_whyNotFlown meX4_whyNotFlown mini_RX4 rfl rfl hdX4_whyNotFlown ⟨Nat.le_of_ble_eq_true rfl, Nat.le_of_ble_eq_true rfl⟩) hK hP hNW hz1 (stAt_keep hN (fun i _ _ => mSet_out (by omega))).1 rfl rfl hl.1 rfl (Nat.le_of_ble_eq_true rfl) (by decide) (dk kX5_best_0_ok 14 rfl) ?_
        refine n_if_eq (tgt := 31) hx hb (by first | omega | (have q1 := wnf_le c v t w; omega)) (dk kX5_best_0_ok 15 rfl) (by decide) (fun h2 => ?_) (fun h2 => ?_)
        · skip
          refine lv_iload hx hb (dk kX5_best_0_ok 17 rfl) (lv_at hl 4 rfl) ?_
          refine csP (As := [.int (nI w)]) (rest := []) ⟨hx, hb, hml, hown, hts⟩ (tX5_teamOf l (nI w) w rfl (by omega)) (cwS9 1 hts mcX5_teamOf (ac14 _ (List.mem_of_getElem? (i := 14) rfl)) msX5_teamOf mini_RX5 rfl rfl hdX5_teamOf ⟨Nat.le_of_ble_eq_true rfl, Nat.le_of_ble_eq_true rfl⟩) rfl hl.1 rfl (Nat.le_of_ble_eq_true rfl) (by decide) (dk kX5_best_0_ok 18 rfl) ?_
          refine lv_istore (lv' := [(5, .int (nI (w / 4 % 2))), (0, .ref (ad 0)), (1, .int ((cbO c b v t ((-1 : Int32), nI 0, nI 0, c6, b6, v6) w).1)), (2, .int ((cbO c b v t ((-1 : Int32), nI 0, nI 0, c6, b6, v6) w).2.1)), (3, .int ((cbO c b v t ((-1 : Int32), nI 0, nI 0, c6, b6, v6) w).2.2.1)), (4, .int (nI w))]) hx hb (dk kX5_best_0_ok 19 rfl) hl (by decide) rfl (fun ls hl => ?_)
          refine lv_iconst (v := nI 0) hx hb (dk kX5_best_0_ok 20 rfl) rfl ?_
          refine lv_istore (lv' := [(6, .int (nI 0)), (5, .int (nI (w / 4 % 2))), (0, .ref (ad 0)), (1, .int ((cbO c b v t ((-1 : Int32), nI 0, nI 0, c6, b6, v6) w).1)), (2, .int ((cbO c b v t ((-1 : Int32), nI 0, nI 0, c6, b6, v6) w).2.1)), (3, .int ((cbO c b v t ((-1 : Int32), nI 0, nI 0, c6, b6, v6) w).2.2.1)), (4, .int (nI w))]) hx hb (dk kX5_best_0_ok 21 rfl) hl (by decide) rfl (fun ls hl => ?_)
          have L41 : ∀ (fu : Nat) (i : Nat) (x1 : Int32) (x2 : Int32) (x3 : Int32) (H : Heap) (locs : List Loc), va_P D vwCl (iW ad N (mSet cI F 69 ((cbI c b v w i (cbO c b v t ((-1 : Int32), nI 0, nI 0, c6, b6, v6) w)).2.2.2.1) ((cbI c b v w i (cbO c b v t ((-1 : Int32), nI 0, nI 0, c6, b6, v6) w)).2.2.2.2.1) ((cbI c b v w i (cbO c b v t ((-1 : Int32), nI 0, nI 0, c6, b6, v6) w)).2.2.2.2.2))) H → va_S (iA ad N s.heap.size) s.heap H locs → x1 = (cbI c b v w i (cbO c b v t ((-1 : Int32), nI 0, nI 0, c6, b6, v6) w)).1 → x2 = (cbI c b v w i (cbO c b v t ((-1 : Int32), nI 0, nI 0, c6, b6, v6) w)).2.1 → x3 = (cbI c b v w i (cbO c b v t ((-1 : Int32), nI 0, nI 0, c6, b6, v6) w)).2.2.1 → i ≤ 72 → 72 - i < fu → ∀ ls : Array Slot, lv_has ls 11 [(0, .ref (ad 0)), (1, .int x1), (2, .int x2), (3, .int x3), (4, .int (nI w)), (5, .int (nI (w / 4 % 2))), (6, .int (nI i))] → W p l e ({ frames := 5, cells := 0, slots := 0, locals := 108 } : Room) s m ([.ref (ad 0)] : List Value).toArray below meth cd H locs 0 0 Q (F0 m 41 ls []) := by
            intro fu
            induction fu with
            | zero => intros; omega
            | succ fu ih41 =>
              intro i x1 x2 x3 H locs hP hS ex1 ex2 ex3 hi hme41 ls hl
              subst ex1
              subst ex2
              subst ex3
              refine lv_iload hx hb (dk kX5_best_0_ok 22 rfl) (lv_at hl 6 rfl) ?_
              refine lv_bipush (v := nI 72) hx hb (dk kX5_best_0_ok 23 rfl) rfl ?_
              refine n_icmp_ge (tgt := 148) hx hb (by first | omega | (have q1 := wnf_le c v t w; omega)) (by decide) (dk kX5_best_0_ok 24 rfl) (by decide) (fun h3 => ?_) (fun h3 => ?_)
              · skip
                refine lv_iinc (v := nI (w + 1)) (lv' := [(4, .int (nI (w + 1))), (0, .ref (ad 0)), (1, .int ((cbI c b v w i (cbO c b v t ((-1 : Int32), nI 0, nI 0, c6, b6, v6) w)).1)), (2, .int ((cbI c b v w i (cbO c b v t ((-1 : Int32), nI 0, nI 0, c6, b6, v6) w)).2.1)), (3, .int ((cbI c b v w i (cbO c b v t ((-1 : Int32), nI 0, nI 0, c6, b6, v6) w)).2.2.1)), (5, .int (nI (w / 4 % 2))), (6, .int (nI i))]) hx hb (dk kX5_best_1_ok 20 rfl) hl (k := 4) rfl (n_inc _) (by decide) rfl (fun ls hl => ?_)
                refine lv_goto (tgt := 9) hx hb (dk kX5_best_1_ok 21 rfl) (by decide) ?_
                exact ih9 (w + 1) _ _ _ _ _ (by first | (rw [cbO_0]; exact m_touch hM6 hP) | (rw [cbO_n h2]; exact hP) | (obtain rfl : i = 72 := (by omega); rw [cbO_s h2]; exact hP)) hS (by first | (rw [cbO_n h2]; done) | (obtain rfl : i = 72 := (by omega); rw [cbO_s h2])) (by first | (rw [cbO_n h2]; done) | (obtain rfl : i = 72 := (by omega); rw [cbO_s h2])) (by first | (rw [cbO_n h2]; done) | (obtain rfl : i = 72 := (by omega); rw [cbO_s h2])) (by omega) (by omega) ls (lv_sub hl [1, 2, 3, 4, 0] rfl)
              · skip
                refine lv_iload hx hb (dk kX5_best_0_ok 25 rfl) (lv_at hl 6 rfl) ?_
                refine lv_bipush (v := nI 9) hx hb (dk kX5_best_0_ok 26 rfl) rfl ?_
                refine n_idiv hx hb (by first | omega | (have q1 := wnf_le c v t w; omega)) (by decide) (by decide) (dk kX5_best_0_ok 27 rfl) ?_
                refine lv_istore (lv' := [(7, .int (nI (i / 9))), (0, .ref (ad 0)), (1, .int ((cbI c b v w i (cbO c b v t ((-1 : Int32), nI 0, nI 0, c6, b6, v6) w)).1)), (2, .int ((cbI c b v w i (cbO c b v t ((-1 : Int32), nI 0, nI 0, c6, b6, v6) w)).2.1)), (3, .int ((cbI c b v w i (cbO c b v t ((-1 : Int32), nI 0, nI 0, c6, b6, v6) w)).2.2.1)), (4, .int (nI w)), (5, .int (nI (w / 4 % 2))), (6, .int (nI i))]) hx hb (dk kX5_best_0_ok 28 rfl) hl (by decide) rfl (fun ls hl => ?_)
                refine lv_iload hx hb (dk kX5_best_0_ok 29 rfl) (lv_at hl 7 rfl) ?_
                refine lv_bipush (v := nI 9) hx hb (dk kX5_best_0_ok 30 rfl) rfl ?_
                refine n_irem hx hb (by first | omega | (have q1 := wnf_le c v t w; omega)) (by decide) (by decide) (dk kX5_best_0_ok 31 rfl) ?_
                refine lv_iconst (v := nI 1) hx hb (dk kX5_best_0_ok 32 rfl) rfl ?_
                refine n_iadd hx hb (dk kX5_best_0_ok 33 rfl) ?_
                refine lv_istore (lv' := [(8, .int (nI ((i % 9) + 1))), (7, .int (nI (i / 9))), (0, .ref (ad 0)), (1, .int ((cbI c b v w i (cbO c b v t ((-1 : Int32), nI 0, nI 0, c6, b6, v6) w)).1)), (2, .int ((cbI c b v w i (cbO c b v t ((-1 : Int32), nI 0, nI 0, c6, b6, v6) w)).2.1)), (3, .int ((cbI c b v w i (cbO c b v t ((-1 : Int32), nI 0, nI 0, c6, b6, v6) w)).2.2.1)), (4, .int (nI w)), (5, .int (nI (w / 4 % 2))), (6, .int (nI i))]) hx hb (dk kX5_best_0_ok 34 rfl) hl (by decide) rfl (fun ls hl => ?_)
                refine lv_aload_n hx hb (dk kX5_best_0_ok 35 rfl) rfl (lv_at hl 2 rfl) ?_
                refine lv_iload hx hb (dk kX5_best_0_ok 36 rfl) (lv_at hl 6 rfl) ?_
                refine lv_iload hx hb (dk kX5_best_0_ok 37 rfl) (lv_at hl 1 rfl) ?_
                refine lv_iload hx hb (dk kX5_best_0_ok 38 rfl) (lv_at hl 0 rfl) ?_
                refine cvDv (As := [.int (nI w), .int (nI (i / 9)), .int (nI ((i % 9) + 1))]) (rest := []) (mSet cI F 69 (mov1 c b v w (rest9 w (ldg (c w) (nI (i / 9)) (stp w ((i % 9) + 1))))) (mov2 c b v w (rest9 w (ldg (c w) (nI (i / 9)) (stp w ((i % 9) + 1))))) (mov3 c b v w (rest9 w (ldg (c w) (nI (i / 9)) (stp w ((i % 9) + 1)))))) ⟨hx, hb, hml, hown, hts⟩ (tX5_tryFlight l D cI cQ cL ad N (mSet cI F 69 ((cbI c b v w i (cbO c b v t ((-1 : Int32), nI 0, nI 0, c6, b6, v6) w)).2.2.2.1) ((cbI c b v w i (cbO c b v t ((-1 : Int32), nI 0, nI 0, c6, b6, v6) w)).2.2.2.2.1) ((cbI c b v w i (cbO c b v t ((-1 : Int32), nI 0, nI 0, c6, b6, v6) w)).2.2.2.2.2)) (by omega) c b v g h j t u z (stAt_keep hN (fun i _ _ => mSet_out (by omega))) c8 b8 v8 g8 h8 j8 t8 u8 z8 (stAt_keep hSn (fun i _ _ => mSet_out (by omega))) n9 m9 hn9 hm9 (paAt_keep hPa (fun i _ _ => mSet_out (by omega))) a n hn60 (gtAt_keep hT (fun i _ _ => mSet_out (by omega))) ((cbI c b v w i (cbO c b v t ((-1 : Int32), nI 0, nI 0, c6, b6, v6) w)).2.2.2.1) ((cbI c b v w i (cbO c b v t ((-1 : Int32), nI 0, nI 0, c6, b6, v6) w)).2.2.2.2.1) ((cbI c b v w i (cbO c b v t ((-1 : Int32), nI 0, nI 0, c6, b6, v6) w)).2.2.2.2.2) (mSet_at hM6) a7 d7 q7 (roAt_keep hO (fun i _ _ => mSet_out (by omega))) hs ((mSet_out (by omega)).trans hC) (nI w) w rfl (by omega) (nI (i / 9)) (nI ((i % 9) + 1)) ((i % 9) + 1) rfl (by omega)) (cwV9 3 hts mcX5_tryFlight (ac14 _ (List.mem_of_getElem? (i := 10) rfl)) miX5_tryFlight meX5_tryFlight mini_RX5 rfl rfl hdX5_tryFlight ⟨Nat.le_of_ble_eq_true rfl, Nat.le_of_ble_eq_true rfl⟩) hDi hK hP hNW hS hz0 ((mSet_out (by omega)).trans hC) rfl rfl hl.1 rfl (Nat.le_of_ble_eq_true rfl) (by decide) (dk kX5_best_0_ok 39 rfl) mSet_mSet (fun H locs hP hS => ?_)
                refine lv_aload_n hx hb (dk kX5_best_0_ok 40 rfl) rfl (lv_at hl 2 rfl) ?_
                refine gf hx hb hts (fun w h => List.mem_cons_of_mem _ (acX5 w h)) hown hK hP hz0 ((mSet_out (by omega)).trans hC) rfl 4 (by decide) (hts _ (List.mem_cons_of_mem _ (ac8 _ (List.mem_of_getElem? (i := 7) rfl)))) (fun _ h => h) rfl (dk kX5_best_0_ok 41 rfl) ?_
                refine lv_iload hx hb (dk kX5_best_0_ok 42 rfl) (lv_at hl 7 rfl) ?_
                refine cvR (As := [.int (nI (w / 4 % 2))]) (rest := []) ⟨hx, hb, hml, hown, hts⟩ (tX1_leadOf l D cI cQ cL ad N (mSet cI F 69 (mov1 c b v w (rest9 w (ldg (c w) (nI (i / 9)) (stp w ((i % 9) + 1))))) (mov2 c b v w (rest9 w (ldg (c w) (nI (i / 9)) (stp w ((i % 9) + 1))))) (mov3 c b v w (rest9 w (ldg (c w) (nI (i / 9)) (stp w ((i % 9) + 1)))))) 69 (by omega) (mov1 c b v w (rest9 w (ldg (c w) (nI (i / 9)) (stp w ((i % 9) + 1))))) (mov2 c b v w (rest9 w (ldg (c w) (nI (i / 9)) (stp w ((i % 9) + 1))))) (mov3 c b v w (rest9 w (ldg (c w) (nI (i / 9)) (stp w ((i % 9) + 1))))) (mSet_at hM6) (nI (w / 4 % 2)) (w / 4 % 2) rfl (by omega)) (cwV9 1 hts mcX1_leadOf (ac14 _ (List.mem_of_getElem? (i := 17) rfl)) miX1_leadOf meX1_leadOf mini_RX1 rfl rfl hdX1_leadOf ⟨Nat.le_of_ble_eq_true rfl, Nat.le_of_ble_eq_true rfl⟩) hK hP hNW hz69 (mSet_at hM6).1 rfl rfl hl.1 rfl (Nat.le_of_ble_eq_true rfl) (by decide) (dk kX5_best_0_ok 43 rfl) ?_
                refine lv_istore (lv' := [(9, .int (nI (ptt (mov1 c b v w (rest9 w (ldg (c w) (nI (i / 9)) (stp w ((i % 9) + 1))))) (mov3 c b v w (rest9 w (ldg (c w) (nI (i / 9)) (stp w ((i % 9) + 1))))) (w / 4 % 2)) - nI (ptt (mov1 c b v w (rest9 w (ldg (c w) (nI (i / 9)) (stp w ((i % 9) + 1))))) (mov3 c b v w (rest9 w (ldg (c w) (nI (i / 9)) (stp w ((i % 9) + 1))))) (1 - (w / 4 % 2))))), (8, .int (nI ((i % 9) + 1))), (7, .int (nI (i / 9))), (0, .ref (ad 0)), (1, .int ((cbI c b v w i (cbO c b v t ((-1 : Int32), nI 0, nI 0, c6, b6, v6) w)).1)), (2, .int ((cbI c b v w i (cbO c b v t ((-1 : Int32), nI 0, nI 0, c6, b6, v6) w)).2.1)), (3, .int ((cbI c b v w i (cbO c b v t ((-1 : Int32), nI 0, nI 0, c6, b6, v6) w)).2.2.1)), (4, .int (nI w)), (5, .int (nI (w / 4 % 2))), (6, .int (nI i))]) hx hb (dk kX5_best_0_ok 44 rfl) hl (by decide) rfl (fun ls hl => ?_)
                refine lv_aload_n hx hb (dk kX5_best_0_ok 45 rfl) rfl (lv_at hl 3 rfl) ?_
                refine gf hx hb hts (fun w h => List.mem_cons_of_mem _ (acX5 w h)) hown hK hP hz0 ((mSet_out (by omega)).trans hC) rfl 4 (by decide) (hts _ (List.mem_cons_of_mem _ (ac8 _ (List.mem_of_getElem? (i := 7) rfl)))) (fun _ h => h) rfl (dk kX5_best_0_ok 46 rfl) ?_
                refine lv_iconst (v := nI 1) hx hb (dk kX5_best_0_ok 47 rfl) rfl ?_
                refine lv_iload hx hb (dk kX5_best_0_ok 48 rfl) (lv_at hl 8 rfl) ?_
                refine n_isub hx hb (by omega) (dk kX5_best_0_ok 49 rfl) ?_
                refine cvR (As := [.int (nI (1 - (w / 4 % 2)))]) (rest := []) ⟨hx, hb, hml, hown, hts⟩ (tX1_coveredOfTeam l D cI cQ cL ad N (mSet cI F 69 (mov1 c b v w (rest9 w (ldg (c w) (nI (i / 9)) (stp w ((i % 9) + 1))))) (mov2 c b v w (rest9 w (ldg (c w) (nI (i / 9)) (stp w ((i % 9) + 1))))) (mov3 c b v w (rest9 w (ldg (c w) (nI (i / 9)) (stp w ((i % 9) + 1)))))) 69 (by omega) (mov1 c b v w (rest9 w (ldg (c w) (nI (i / 9)) (stp w ((i % 9) + 1))))) (mov2 c b v w (rest9 w (ldg (c w) (nI (i / 9)) (stp w ((i % 9) + 1))))) (mov3 c b v w (rest9 w (ldg (c w) (nI (i / 9)) (stp w ((i % 9) + 1))))) (mSet_at hM6) (nI (1 - (w / 4 % 2))) (1 - (w / 4 % 2)) rfl (by omega)) (cwV9 1 hts mcX1_coveredOfTeam (ac14 _ (List.mem_of_getElem? (i := 21) rfl)) miX1_coveredOfTeam meX1_coveredOfTeam mini_RX1 rfl rfl hdX1_coveredOfTeam ⟨Nat.le_of_ble_eq_true rfl, Nat.le_of_ble_eq_true rfl⟩) hK hP hNW hz69 (mSet_at hM6).1 rfl rfl hl.1 rfl (Nat.le_of_ble_eq_true rfl) (by decide) (dk kX5_best_0_ok 50 rfl) ?_
                refine lv_istore (lv' := [(10, .int (nI (covc (mov3 c b v w (rest9 w (ldg (c w) (nI (i / 9)) (stp w ((i % 9) + 1))))) (1 - (w / 4 % 2)) + covc (mov3 c b v w (rest9 w (ldg (c w) (nI (i / 9)) (stp w ((i % 9) + 1))))) ((1 - (w / 4 % 2)) + 2)))), (9, .int (nI (ptt (mov1 c b v w (rest9 w (ldg (c w) (nI (i / 9)) (stp w ((i % 9) + 1))))) (mov3 c b v w (rest9 w (ldg (c w) (nI (i / 9)) (stp w ((i % 9) + 1))))) (w / 4 % 2)) - nI (ptt (mov1 c b v w (rest9 w (ldg (c w) (nI (i / 9)) (stp w ((i % 9) + 1))))) (mov3 c b v w (rest9 w (ldg (c w) (nI (i / 9)) (stp w ((i % 9) + 1))))) (1 - (w / 4 % 2))))), (8, .int (nI ((i % 9) + 1))), (7, .int (nI (i / 9))), (0, .ref (ad 0)), (1, .int ((cbI c b v w i (cbO c b v t ((-1 : Int32), nI 0, nI 0, c6, b6, v6) w)).1)), (2, .int ((cbI c b v w i (cbO c b v t ((-1 : Int32), nI 0, nI 0, c6, b6, v6) w)).2.1)), (3, .int ((cbI c b v w i (cbO c b v t ((-1 : Int32), nI 0, nI 0, c6, b6, v6) w)).2.2.1)), (4, .int (nI w)), (5, .int (nI (w / 4 % 2))), (6, .int (nI i))]) hx hb (dk kX5_best_0_ok 51 rfl) hl (by decide) rfl (fun ls hl => ?_)
                refine lv_iload_n hx hb (dk kX5_best_0_ok 52 rfl) rfl (lv_at hl 5 rfl) ?_
                refine lv_iconst (v := -1) hx hb (dk kX5_best_0_ok 53 rfl) rfl ?_
                refine lv_icmp_eq (tgt := 121) hx hb (dk kX5_best_0_ok 54 rfl) (by decide) (fun h4 => ?_) (fun h4 => ?_)
                · skip
                  refine lv_bipush (v := nI 100) hx hb (dk kX5_best_1_ok 4 rfl) rfl ?_
                  refine lv_iload hx hb (dk kX5_best_1_ok 5 rfl) (lv_at hl 8 rfl) ?_
                  refine n_imul hx hb (dk kX5_best_1_ok 6 rfl) ?_
                  refine lv_bipush (v := nI 10) hx hb (dk kX5_best_1_ok 7 rfl) rfl ?_
                  refine lv_iload hx hb (dk kX5_best_1_ok 8 rfl) (lv_at hl 3 rfl) ?_
                  refine n_imul hx hb (dk kX5_best_1_ok 9 rfl) ?_
                  refine n_iadd hx hb (dk kX5_best_1_ok 10 rfl) ?_
                  refine lv_iload hx hb (dk kX5_best_1_ok 11 rfl) (lv_at hl 2 rfl) ?_
                  refine n_iadd hx hb (dk kX5_best_1_ok 12 rfl) ?_
                  refine lv_istore_n (lv' := [(1, .int (nI (((100 * w) + (10 * (i / 9))) + ((i % 9) + 1)))), (10, .int (nI (covc (mov3 c b v w (rest9 w (ldg (c w) (nI (i / 9)) (stp w ((i % 9) + 1))))) (1 - (w / 4 % 2)) + covc (mov3 c b v w (rest9 w (ldg (c w) (nI (i / 9)) (stp w ((i % 9) + 1))))) ((1 - (w / 4 % 2)) + 2)))), (9, .int (nI (ptt (mov1 c b v w (rest9 w (ldg (c w) (nI (i / 9)) (stp w ((i % 9) + 1))))) (mov3 c b v w (rest9 w (ldg (c w) (nI (i / 9)) (stp w ((i % 9) + 1))))) (w / 4 % 2)) - nI (ptt (mov1 c b v w (rest9 w (ldg (c w) (nI (i / 9)) (stp w ((i % 9) + 1))))) (mov3 c b v w (rest9 w (ldg (c w) (nI (i / 9)) (stp w ((i % 9) + 1))))) (1 - (w / 4 % 2))))), (8, .int (nI ((i % 9) + 1))), (7, .int (nI (i / 9))), (0, .ref (ad 0)), (2, .int ((cbI c b v w i (cbO c b v t ((-1 : Int32), nI 0, nI 0, c6, b6, v6) w)).2.1)), (3, .int ((cbI c b v w i (cbO c b v t ((-1 : Int32), nI 0, nI 0, c6, b6, v6) w)).2.2.1)), (4, .int (nI w)), (5, .int (nI (w / 4 % 2))), (6, .int (nI i))]) hx hb (dk kX5_best_1_ok 13 rfl) rfl hl (by decide) rfl (fun ls hl => ?_)
                  refine lv_iload hx hb (dk kX5_best_1_ok 14 rfl) (lv_at hl 2 rfl) ?_
                  refine lv_istore_n (lv' := [(2, .int (nI (ptt (mov1 c b v w (rest9 w (ldg (c w) (nI (i / 9)) (stp w ((i % 9) + 1))))) (mov3 c b v w (rest9 w (ldg (c w) (nI (i / 9)) (stp w ((i % 9) + 1))))) (w / 4 % 2)) - nI (ptt (mov1 c b v w (rest9 w (ldg (c w) (nI (i / 9)) (stp w ((i % 9) + 1))))) (mov3 c b v w (rest9 w (ldg (c w) (nI (i / 9)) (stp w ((i % 9) + 1))))) (1 - (w / 4 % 2))))), (1, .int (nI (((100 * w) + (10 * (i / 9))) + ((i % 9) + 1)))), (10, .int (nI (covc (mov3 c b v w (rest9 w (ldg (c w) (nI (i / 9)) (stp w ((i % 9) + 1))))) (1 - (w / 4 % 2)) + covc (mov3 c b v w (rest9 w (ldg (c w) (nI (i / 9)) (stp w ((i % 9) + 1))))) ((1 - (w / 4 % 2)) + 2)))), (9, .int (nI (ptt (mov1 c b v w (rest9 w (ldg (c w) (nI (i / 9)) (stp w ((i % 9) + 1))))) (mov3 c b v w (rest9 w (ldg (c w) (nI (i / 9)) (stp w ((i % 9) + 1))))) (w / 4 % 2)) - nI (ptt (mov1 c b v w (rest9 w (ldg (c w) (nI (i / 9)) (stp w ((i % 9) + 1))))) (mov3 c b v w (rest9 w (ldg (c w) (nI (i / 9)) (stp w ((i % 9) + 1))))) (1 - (w / 4 % 2))))), (8, .int (nI ((i % 9) + 1))), (7, .int (nI (i / 9))), (0, .ref (ad 0)), (3, .int ((cbI c b v w i (cbO c b v t ((-1 : Int32), nI 0, nI 0, c6, b6, v6) w)).2.2.1)), (4, .int (nI w)), (5, .int (nI (w / 4 % 2))), (6, .int (nI i))]) hx hb (dk kX5_best_1_ok 15 rfl) rfl hl (by decide) rfl (fun ls hl => ?_)
                  refine lv_iload hx hb (dk kX5_best_1_ok 16 rfl) (lv_at hl 2 rfl) ?_
                  refine lv_istore_n (lv' := [(3, .int (nI (covc (mov3 c b v w (rest9 w (ldg (c w) (nI (i / 9)) (stp w ((i % 9) + 1))))) (1 - (w / 4 % 2)) + covc (mov3 c b v w (rest9 w (ldg (c w) (nI (i / 9)) (stp w ((i % 9) + 1))))) ((1 - (w / 4 % 2)) + 2)))), (2, .int (nI (ptt (mov1 c b v w (rest9 w (ldg (c w) (nI (i / 9)) (stp w ((i % 9) + 1))))) (mov3 c b v w (rest9 w (ldg (c w) (nI (i / 9)) (stp w ((i % 9) + 1))))) (w / 4 % 2)) - nI (ptt (mov1 c b v w (rest9 w (ldg (c w) (nI (i / 9)) (stp w ((i % 9) + 1))))) (mov3 c b v w (rest9 w (ldg (c w) (nI (i / 9)) (stp w ((i % 9) + 1))))) (1 - (w / 4 % 2))))), (1, .int (nI (((100 * w) + (10 * (i / 9))) + ((i % 9) + 1)))), (10, .int (nI (covc (mov3 c b v w (rest9 w (ldg (c w) (nI (i / 9)) (stp w ((i % 9) + 1))))) (1 - (w / 4 % 2)) + covc (mov3 c b v w (rest9 w (ldg (c w) (nI (i / 9)) (stp w ((i % 9) + 1))))) ((1 - (w / 4 % 2)) + 2)))), (9, .int (nI (ptt (mov1 c b v w (rest9 w (ldg (c w) (nI (i / 9)) (stp w ((i % 9) + 1))))) (mov3 c b v w (rest9 w (ldg (c w) (nI (i / 9)) (stp w ((i % 9) + 1))))) (w / 4 % 2)) - nI (ptt (mov1 c b v w (rest9 w (ldg (c w) (nI (i / 9)) (stp w ((i % 9) + 1))))) (mov3 c b v w (rest9 w (ldg (c w) (nI (i / 9)) (stp w ((i % 9) + 1))))) (1 - (w / 4 % 2))))), (8, .int (nI ((i % 9) + 1))), (7, .int (nI (i / 9))), (0, .ref (ad 0)), (4, .int (nI w)), (5, .int (nI (w / 4 % 2))), (6, .int (nI i))]) hx hb (dk kX5_best_1_ok 17 rfl) rfl hl (by decide) rfl (fun ls hl => ?_)
                  refine lv_iinc (v := nI (i + 1)) (lv' := [(6, .int (nI (i + 1))), (3, .int (nI (covc (mov3 c b v w (rest9 w (ldg (c w) (nI (i / 9)) (stp w ((i % 9) + 1))))) (1 - (w / 4 % 2)) + covc (mov3 c b v w (rest9 w (ldg (c w) (nI (i / 9)) (stp w ((i % 9) + 1))))) ((1 - (w / 4 % 2)) + 2)))), (2, .int (nI (ptt (mov1 c b v w (rest9 w (ldg (c w) (nI (i / 9)) (stp w ((i % 9) + 1))))) (mov3 c b v w (rest9 w (ldg (c w) (nI (i / 9)) (stp w ((i % 9) + 1))))) (w / 4 % 2)) - nI (ptt (mov1 c b v w (rest9 w (ldg (c w) (nI (i / 9)) (stp w ((i % 9) + 1))))) (mov3 c b v w (rest9 w (ldg (c w) (nI (i / 9)) (stp w ((i % 9) + 1))))) (1 - (w / 4 % 2))))), (1, .int (nI (((100 * w) + (10 * (i / 9))) + ((i % 9) + 1)))), (10, .int (nI (covc (mov3 c b v w (rest9 w (ldg (c w) (nI (i / 9)) (stp w ((i % 9) + 1))))) (1 - (w / 4 % 2)) + covc (mov3 c b v w (rest9 w (ldg (c w) (nI (i / 9)) (stp w ((i % 9) + 1))))) ((1 - (w / 4 % 2)) + 2)))), (9, .int (nI (ptt (mov1 c b v w (rest9 w (ldg (c w) (nI (i / 9)) (stp w ((i % 9) + 1))))) (mov3 c b v w (rest9 w (ldg (c w) (nI (i / 9)) (stp w ((i % 9) + 1))))) (w / 4 % 2)) - nI (ptt (mov1 c b v w (rest9 w (ldg (c w) (nI (i / 9)) (stp w ((i % 9) + 1))))) (mov3 c b v w (rest9 w (ldg (c w) (nI (i / 9)) (stp w ((i % 9) + 1))))) (1 - (w / 4 % 2))))), (8, .int (nI ((i % 9) + 1))), (7, .int (nI (i / 9))), (0, .ref (ad 0)), (4, .int (nI w)), (5, .int (nI (w / 4 % 2)))]) hx hb (dk kX5_best_1_ok 18 rfl) hl (k := 10) rfl (n_inc _) (by decide) rfl (fun ls hl => ?_)
                  refine lv_goto (tgt := 41) hx hb (dk kX5_best_1_ok 19 rfl) (by decide) ?_
                  exact ih41 (i + 1) _ _ _ _ _ (by first | (rw [cbI_0]; exact hP) | (simp only [cbI, cNw, cOl, cLd, cCv, cM1, cM2, cM3, (eq_true h1), (eq_false (Nat.not_le.mpr h1)), (eq_true h2), (eq_true h3), (eq_false (Nat.not_le.mpr h3)), (eq_true h4), not_true_eq_false, not_false_eq_true, and_true, true_and, and_false, false_and, or_true, true_or, or_false, false_or, and_self, or_self, if_true, if_false, Bool.false_eq_true, reduceIte]; exact hP)) hS (by simp only [cbI, cNw, cOl, cLd, cCv, cM1, cM2, cM3, (eq_true h1), (eq_false (Nat.not_le.mpr h1)), (eq_true h2), (eq_true h3), (eq_false (Nat.not_le.mpr h3)), (eq_true h4), not_true_eq_false, not_false_eq_true, and_true, true_and, and_false, false_and, or_true, true_or, or_false, false_or, and_self, or_self, if_true, if_false, Bool.false_eq_true, reduceIte]) (by simp only [cbI, cNw, cOl, cLd, cCv, cM1, cM2, cM3, (eq_true h1), (eq_false (Nat.not_le.mpr h1)), (eq_true h2), (eq_true h3), (eq_false (Nat.not_le.mpr h3)), (eq_true h4), not_true_eq_false, not_false_eq_true, and_true, true_and, and_false, false_and, or_true, true_or, or_false, false_or, and_self, or_self, if_true, if_false, Bool.false_eq_true, reduceIte]) (by simp only [cbI, cNw, cOl, cLd, cCv, cM1, cM2, cM3, (eq_true h1), (eq_false (Nat.not_le.mpr h1)), (eq_true h2), (eq_true h3), (eq_false (Nat.not_le.mpr h3)), (eq_true h4), not_true_eq_false, not_false_eq_true, and_true, true_and, and_false, false_and, or_true, true_or, or_false, false_or, and_self, or_self, if_true, if_false, Bool.false_eq_true, reduceIte]) (by omega) (by omega) ls (lv_sub hl [8, 3, 2, 1, 9, 10, 0] rfl)
                · skip
                  refine lv_iload hx hb (dk kX5_best_0_ok 55 rfl) (lv_at hl 1 rfl) ?_
                  refine lv_iload_n hx hb (dk kX5_best_0_ok 56 rfl) rfl (lv_at hl 6 rfl) ?_
                  refine lv_icmp_gt (tgt := 121) hx hb (dk kX5_best_0_ok 57 rfl) (by decide) (fun h5 => ?_) (fun h5 => ?_)
                  · skip
                    refine lv_bipush (v := nI 100) hx hb (dk kX5_best_1_ok 4 rfl) rfl ?_
                    refine lv_iload hx hb (dk kX5_best_1_ok 5 rfl) (lv_at hl 8 rfl) ?_
                    refine n_imul hx hb (dk kX5_best_1_ok 6 rfl) ?_
                    refine lv_bipush (v := nI 10) hx hb (dk kX5_best_1_ok 7 rfl) rfl ?_
                    refine lv_iload hx hb (dk kX5_best_1_ok 8 rfl) (lv_at hl 3 rfl) ?_
                    refine n_imul hx hb (dk kX5_best_1_ok 9 rfl) ?_
                    refine n_iadd hx hb (dk kX5_best_1_ok 10 rfl) ?_
                    refine lv_iload hx hb (dk kX5_best_1_ok 11 rfl) (lv_at hl 2 rfl) ?_
                    refine n_iadd hx hb (dk kX5_best_1_ok 12 rfl) ?_
                    refine lv_istore_n (lv' := [(1, .int (nI (((100 * w) + (10 * (i / 9))) + ((i % 9) + 1)))), (10, .int (nI (covc (mov3 c b v w (rest9 w (ldg (c w) (nI (i / 9)) (stp w ((i % 9) + 1))))) (1 - (w / 4 % 2)) + covc (mov3 c b v w (rest9 w (ldg (c w) (nI (i / 9)) (stp w ((i % 9) + 1))))) ((1 - (w / 4 % 2)) + 2)))), (9, .int (nI (ptt (mov1 c b v w (rest9 w (ldg (c w) (nI (i / 9)) (stp w ((i % 9) + 1))))) (mov3 c b v w (rest9 w (ldg (c w) (nI (i / 9)) (stp w ((i % 9) + 1))))) (w / 4 % 2)) - nI (ptt (mov1 c b v w (rest9 w (ldg (c w) (nI (i / 9)) (stp w ((i % 9) + 1))))) (mov3 c b v w (rest9 w (ldg (c w) (nI (i / 9)) (stp w ((i % 9) + 1))))) (1 - (w / 4 % 2))))), (8, .int (nI ((i % 9) + 1))), (7, .int (nI (i / 9))), (0, .ref (ad 0)), (2, .int ((cbI c b v w i (cbO c b v t ((-1 : Int32), nI 0, nI 0, c6, b6, v6) w)).2.1)), (3, .int ((cbI c b v w i (cbO c b v t ((-1 : Int32), nI 0, nI 0, c6, b6, v6) w)).2.2.1)), (4, .int (nI w)), (5, .int (nI (w / 4 % 2))), (6, .int (nI i))]) hx hb (dk kX5_best_1_ok 13 rfl) rfl hl (by decide) rfl (fun ls hl => ?_)
                    refine lv_iload hx hb (dk kX5_best_1_ok 14 rfl) (lv_at hl 2 rfl) ?_
                    refine lv_istore_n (lv' := [(2, .int (nI (ptt (mov1 c b v w (rest9 w (ldg (c w) (nI (i / 9)) (stp w ((i % 9) + 1))))) (mov3 c b v w (rest9 w (ldg (c w) (nI (i / 9)) (stp w ((i % 9) + 1))))) (w / 4 % 2)) - nI (ptt (mov1 c b v w (rest9 w (ldg (c w) (nI (i / 9)) (stp w ((i % 9) + 1))))) (mov3 c b v w (rest9 w (ldg (c w) (nI (i / 9)) (stp w ((i % 9) + 1))))) (1 - (w / 4 % 2))))), (1, .int (nI (((100 * w) + (10 * (i / 9))) + ((i % 9) + 1)))), (10, .int (nI (covc (mov3 c b v w (rest9 w (ldg (c w) (nI (i / 9)) (stp w ((i % 9) + 1))))) (1 - (w / 4 % 2)) + covc (mov3 c b v w (rest9 w (ldg (c w) (nI (i / 9)) (stp w ((i % 9) + 1))))) ((1 - (w / 4 % 2)) + 2)))), (9, .int (nI (ptt (mov1 c b v w (rest9 w (ldg (c w) (nI (i / 9)) (stp w ((i % 9) + 1))))) (mov3 c b v w (rest9 w (ldg (c w) (nI (i / 9)) (stp w ((i % 9) + 1))))) (w / 4 % 2)) - nI (ptt (mov1 c b v w (rest9 w (ldg (c w) (nI (i / 9)) (stp w ((i % 9) + 1))))) (mov3 c b v w (rest9 w (ldg (c w) (nI (i / 9)) (stp w ((i % 9) + 1))))) (1 - (w / 4 % 2))))), (8, .int (nI ((i % 9) + 1))), (7, .int (nI (i / 9))), (0, .ref (ad 0)), (3, .int ((cbI c b v w i (cbO c b v t ((-1 : Int32), nI 0, nI 0, c6, b6, v6) w)).2.2.1)), (4, .int (nI w)), (5, .int (nI (w / 4 % 2))), (6, .int (nI i))]) hx hb (dk kX5_best_1_ok 15 rfl) rfl hl (by decide) rfl (fun ls hl => ?_)
                    refine lv_iload hx hb (dk kX5_best_1_ok 16 rfl) (lv_at hl 2 rfl) ?_
                    refine lv_istore_n (lv' := [(3, .int (nI (covc (mov3 c b v w (rest9 w (ldg (c w) (nI (i / 9)) (stp w ((i % 9) + 1))))) (1 - (w / 4 % 2)) + covc (mov3 c b v w (rest9 w (ldg (c w) (nI (i / 9)) (stp w ((i % 9) + 1))))) ((1 - (w / 4 % 2)) + 2)))), (2, .int (nI (ptt (mov1 c b v w (rest9 w (ldg (c w) (nI (i / 9)) (stp w ((i % 9) + 1))))) (mov3 c b v w (rest9 w (ldg (c w) (nI (i / 9)) (stp w ((i % 9) + 1))))) (w / 4 % 2)) - nI (ptt (mov1 c b v w (rest9 w (ldg (c w) (nI (i / 9)) (stp w ((i % 9) + 1))))) (mov3 c b v w (rest9 w (ldg (c w) (nI (i / 9)) (stp w ((i % 9) + 1))))) (1 - (w / 4 % 2))))), (1, .int (nI (((100 * w) + (10 * (i / 9))) + ((i % 9) + 1)))), (10, .int (nI (covc (mov3 c b v w (rest9 w (ldg (c w) (nI (i / 9)) (stp w ((i % 9) + 1))))) (1 - (w / 4 % 2)) + covc (mov3 c b v w (rest9 w (ldg (c w) (nI (i / 9)) (stp w ((i % 9) + 1))))) ((1 - (w / 4 % 2)) + 2)))), (9, .int (nI (ptt (mov1 c b v w (rest9 w (ldg (c w) (nI (i / 9)) (stp w ((i % 9) + 1))))) (mov3 c b v w (rest9 w (ldg (c w) (nI (i / 9)) (stp w ((i % 9) + 1))))) (w / 4 % 2)) - nI (ptt (mov1 c b v w (rest9 w (ldg (c w) (nI (i / 9)) (stp w ((i % 9) + 1))))) (mov3 c b v w (rest9 w (ldg (c w) (nI (i / 9)) (stp w ((i % 9) + 1))))) (1 - (w / 4 % 2))))), (8, .int (nI ((i % 9) + 1))), (7, .int (nI (i / 9))), (0, .ref (ad 0)), (4, .int (nI w)), (5, .int (nI (w / 4 % 2))), (6, .int (nI i))]) hx hb (dk kX5_best_1_ok 17 rfl) rfl hl (by decide) rfl (fun ls hl => ?_)
                    refine lv_iinc (v := nI (i + 1)) (lv' := [(6, .int (nI (i + 1))), (3, .int (nI (covc (mov3 c b v w (rest9 w (ldg (c w) (nI (i / 9)) (stp w ((i % 9) + 1))))) (1 - (w / 4 % 2)) + covc (mov3 c b v w (rest9 w (ldg (c w) (nI (i / 9)) (stp w ((i % 9) + 1))))) ((1 - (w / 4 % 2)) + 2)))), (2, .int (nI (ptt (mov1 c b v w (rest9 w (ldg (c w) (nI (i / 9)) (stp w ((i % 9) + 1))))) (mov3 c b v w (rest9 w (ldg (c w) (nI (i / 9)) (stp w ((i % 9) + 1))))) (w / 4 % 2)) - nI (ptt (mov1 c b v w (rest9 w (ldg (c w) (nI (i / 9)) (stp w ((i % 9) + 1))))) (mov3 c b v w (rest9 w (ldg (c w) (nI (i / 9)) (stp w ((i % 9) + 1))))) (1 - (w / 4 % 2))))), (1, .int (nI (((100 * w) + (10 * (i / 9))) + ((i % 9) + 1)))), (10, .int (nI (covc (mov3 c b v w (rest9 w (ldg (c w) (nI (i / 9)) (stp w ((i % 9) + 1))))) (1 - (w / 4 % 2)) + covc (mov3 c b v w (rest9 w (ldg (c w) (nI (i / 9)) (stp w ((i % 9) + 1))))) ((1 - (w / 4 % 2)) + 2)))), (9, .int (nI (ptt (mov1 c b v w (rest9 w (ldg (c w) (nI (i / 9)) (stp w ((i % 9) + 1))))) (mov3 c b v w (rest9 w (ldg (c w) (nI (i / 9)) (stp w ((i % 9) + 1))))) (w / 4 % 2)) - nI (ptt (mov1 c b v w (rest9 w (ldg (c w) (nI (i / 9)) (stp w ((i % 9) + 1))))) (mov3 c b v w (rest9 w (ldg (c w) (nI (i / 9)) (stp w ((i % 9) + 1))))) (1 - (w / 4 % 2))))), (8, .int (nI ((i % 9) + 1))), (7, .int (nI (i / 9))), (0, .ref (ad 0)), (4, .int (nI w)), (5, .int (nI (w / 4 % 2)))]) hx hb (dk kX5_best_1_ok 18 rfl) hl (k := 10) rfl (n_inc _) (by decide) rfl (fun ls hl => ?_)
                    refine lv_goto (tgt := 41) hx hb (dk kX5_best_1_ok 19 rfl) (by decide) ?_
                    exact ih41 (i + 1) _ _ _ _ _ (by first | (rw [cbI_0]; exact hP) | (simp only [cbI, cNw, cOl, cLd, cCv, cM1, cM2, cM3, (eq_true h1), (eq_false (Nat.not_le.mpr h1)), (eq_true h2), (eq_true h3), (eq_false (Nat.not_le.mpr h3)), (eq_false h4), (eq_true h5), not_true_eq_false, not_false_eq_true, and_true, true_and, and_false, false_and, or_true, true_or, or_false, false_or, and_self, or_self, if_true, if_false, Bool.false_eq_true, reduceIte]; exact hP)) hS (by simp only [cbI, cNw, cOl, cLd, cCv, cM1, cM2, cM3, (eq_true h1), (eq_false (Nat.not_le.mpr h1)), (eq_true h2), (eq_true h3), (eq_false (Nat.not_le.mpr h3)), (eq_false h4), (eq_true h5), not_true_eq_false, not_false_eq_true, and_true, true_and, and_false, false_and, or_true, true_or, or_false, false_or, and_self, or_self, if_true, if_false, Bool.false_eq_true, reduceIte]) (by simp only [cbI, cNw, cOl, cLd, cCv, cM1, cM2, cM3, (eq_true h1), (eq_false (Nat.not_le.mpr h1)), (eq_true h2), (eq_true h3), (eq_false (Nat.not_le.mpr h3)), (eq_false h4), (eq_true h5), not_true_eq_false, not_false_eq_true, and_true, true_and, and_false, false_and, or_true, true_or, or_false, false_or, and_self, or_self, if_true, if_false, Bool.false_eq_true, reduceIte]) (by simp only [cbI, cNw, cOl, cLd, cCv, cM1, cM2, cM3, (eq_true h1), (eq_false (Nat.not_le.mpr h1)), (eq_true h2), (eq_true h3), (eq_false (Nat.not_le.mpr h3)), (eq_false h4), (eq_true h5), not_true_eq_false, not_false_eq_true, and_true, true_and, and_false, false_and, or_true, true_or, or_false, false_or, and_self, or_self, if_true, if_false, Bool.false_eq_true, reduceIte]) (by omega) (by omega) ls (lv_sub hl [8, 3, 2, 1, 9, 10, 0] rfl)
                  · skip
                    refine lv_iload hx hb (dk kX5_best_0_ok 58 rfl) (lv_at hl 1 rfl) ?_
                    refine lv_iload_n hx hb (dk kX5_best_0_ok 59 rfl) rfl (lv_at hl 6 rfl) ?_
                    refine lv_icmp_ne (tgt := 142) hx hb (dk kX5_best_1_ok 0 rfl) (by decide) (fun h6 => ?_) (fun h6 => ?_)
                    · skip
                      refine lv_iinc (v := nI (i + 1)) (lv' := [(6, .int (nI (i + 1))), (10, .int (nI (covc (mov3 c b v w (rest9 w (ldg (c w) (nI (i / 9)) (stp w ((i % 9) + 1))))) (1 - (w / 4 % 2)) + covc (mov3 c b v w (rest9 w (ldg (c w) (nI (i / 9)) (stp w ((i % 9) + 1))))) ((1 - (w / 4 % 2)) + 2)))), (9, .int (nI (ptt (mov1 c b v w (rest9 w (ldg (c w) (nI (i / 9)) (stp w ((i % 9) + 1))))) (mov3 c b v w (rest9 w (ldg (c w) (nI (i / 9)) (stp w ((i % 9) + 1))))) (w / 4 % 2)) - nI (ptt (mov1 c b v w (rest9 w (ldg (c w) (nI (i / 9)) (stp w ((i % 9) + 1))))) (mov3 c b v w (rest9 w (ldg (c w) (nI (i / 9)) (stp w ((i % 9) + 1))))) (1 - (w / 4 % 2))))), (8, .int (nI ((i % 9) + 1))), (7, .int (nI (i / 9))), (0, .ref (ad 0)), (1, .int ((cbI c b v w i (cbO c b v t ((-1 : Int32), nI 0, nI 0, c6, b6, v6) w)).1)), (2, .int ((cbI c b v w i (cbO c b v t ((-1 : Int32), nI 0, nI 0, c6, b6, v6) w)).2.1)), (3, .int ((cbI c b v w i (cbO c b v t ((-1 : Int32), nI 0, nI 0, c6, b6, v6) w)).2.2.1)), (4, .int (nI w)), (5, .int (nI (w / 4 % 2)))]) hx hb (dk kX5_best_1_ok 18 rfl) hl (k := 10) rfl (n_inc _) (by decide) rfl (fun ls hl => ?_)
                      refine lv_goto (tgt := 41) hx hb (dk kX5_best_1_ok 19 rfl) (by decide) ?_
                      exact ih41 (i + 1) _ _ _ _ _ (by first | (rw [cbI_0]; exact hP) | (simp only [cbI, cNw, cOl, cLd, cCv, cM1, cM2, cM3, (eq_true h1), (eq_false (Nat.not_le.mpr h1)), (eq_true h2), (eq_true h3), (eq_false (Nat.not_le.mpr h3)), (eq_false h4), (eq_false h5), (eq_false h6), not_true_eq_false, not_false_eq_true, and_true, true_and, and_false, false_and, or_true, true_or, or_false, false_or, and_self, or_self, if_true, if_false, Bool.false_eq_true, reduceIte]; exact hP)) hS (by simp only [cbI, cNw, cOl, cLd, cCv, cM1, cM2, cM3, (eq_true h1), (eq_false (Nat.not_le.mpr h1)), (eq_true h2), (eq_true h3), (eq_false (Nat.not_le.mpr h3)), (eq_false h4), (eq_false h5), (eq_false h6), not_true_eq_false, not_false_eq_true, and_true, true_and, and_false, false_and, or_true, true_or, or_false, false_or, and_self, or_self, if_true, if_false, Bool.false_eq_true, reduceIte]) (by simp only [cbI, cNw, cOl, cLd, cCv, cM1, cM2, cM3, (eq_true h1), (eq_false (Nat.not_le.mpr h1)), (eq_true h2), (eq_true h3), (eq_false (Nat.not_le.mpr h3)), (eq_false h4), (eq_false h5), (eq_false h6), not_true_eq_false, not_false_eq_true, and_true, true_and, and_false, false_and, or_true, true_or, or_false, false_or, and_self, or_self, if_true, if_false, Bool.false_eq_true, reduceIte]) (by simp only [cbI, cNw, cOl, cLd, cCv, cM1, cM2, cM3, (eq_true h1), (eq_false (Nat.not_le.mpr h1)), (eq_true h2), (eq_true h3), (eq_false (Nat.not_le.mpr h3)), (eq_false h4), (eq_false h5), (eq_false h6), not_true_eq_false, not_false_eq_true, and_true, true_and, and_false, false_and, or_true, true_or, or_false, false_or, and_self, or_self, if_true, if_false, Bool.false_eq_true, reduceIte]) (by omega) (by omega) ls (lv_sub hl [5, 6, 7, 8, 9, 10, 0] rfl)
                    · skip
                      refine lv_iload hx hb (dk kX5_best_1_ok 1 rfl) (lv_at hl 0 rfl) ?_
                      refine lv_iload_n hx hb (dk kX5_best_1_ok 2 rfl) rfl (lv_at hl 7 rfl) ?_
                      refine lv_icmp_le (tgt := 142) hx hb (dk kX5_best_1_ok 3 rfl) (by decide) (fun h7 => ?_) (fun h7 => ?_)
                      · skip
                        refine lv_iinc (v := nI (i + 1)) (lv' := [(6, .int (nI (i + 1))), (10, .int (nI (covc (mov3 c b v w (rest9 w (ldg (c w) (nI (i / 9)) (stp w ((i % 9) + 1))))) (1 - (w / 4 % 2)) + covc (mov3 c b v w (rest9 w (ldg (c w) (nI (i / 9)) (stp w ((i % 9) + 1))))) ((1 - (w / 4 % 2)) + 2)))), (9, .int (nI (ptt (mov1 c b v w (rest9 w (ldg (c w) (nI (i / 9)) (stp w ((i % 9) + 1))))) (mov3 c b v w (rest9 w (ldg (c w) (nI (i / 9)) (stp w ((i % 9) + 1))))) (w / 4 % 2)) - nI (ptt (mov1 c b v w (rest9 w (ldg (c w) (nI (i / 9)) (stp w ((i % 9) + 1))))) (mov3 c b v w (rest9 w (ldg (c w) (nI (i / 9)) (stp w ((i % 9) + 1))))) (1 - (w / 4 % 2))))), (8, .int (nI ((i % 9) + 1))), (7, .int (nI (i / 9))), (0, .ref (ad 0)), (1, .int ((cbI c b v w i (cbO c b v t ((-1 : Int32), nI 0, nI 0, c6, b6, v6) w)).1)), (2, .int ((cbI c b v w i (cbO c b v t ((-1 : Int32), nI 0, nI 0, c6, b6, v6) w)).2.1)), (3, .int ((cbI c b v w i (cbO c b v t ((-1 : Int32), nI 0, nI 0, c6, b6, v6) w)).2.2.1)), (4, .int (nI w)), (5, .int (nI (w / 4 % 2)))]) hx hb (dk kX5_best_1_ok 18 rfl) hl (k := 10) rfl (n_inc _) (by decide) rfl (fun ls hl => ?_)
                        refine lv_goto (tgt := 41) hx hb (dk kX5_best_1_ok 19 rfl) (by decide) ?_
                        exact ih41 (i + 1) _ _ _ _ _ (by first | (rw [cbI_0]; exact hP) | (simp only [cbI, cNw, cOl, cLd, cCv, cM1, cM2, cM3, (eq_true h1), (eq_false (Nat.not_le.mpr h1)), (eq_true h2), (eq_true h3), (eq_false (Nat.not_le.mpr h3)), (eq_false h4), (eq_false h5), (eq_true h6), (eq_true h7), not_true_eq_false, not_false_eq_true, and_true, true_and, and_false, false_and, or_true, true_or, or_false, false_or, and_self, or_self, if_true, if_false, Bool.false_eq_true, reduceIte]; exact hP)) hS (by simp only [cbI, cNw, cOl, cLd, cCv, cM1, cM2, cM3, (eq_true h1), (eq_false (Nat.not_le.mpr h1)), (eq_true h2), (eq_true h3), (eq_false (Nat.not_le.mpr h3)), (eq_false h4), (eq_false h5), (eq_true h6), (eq_true h7), not_true_eq_false, not_false_eq_true, and_true, true_and, and_false, false_and, or_true, true_or, or_false, false_or, and_self, or_self, if_true, if_false, Bool.false_eq_true, reduceIte]) (by simp only [cbI, cNw, cOl, cLd, cCv, cM1, cM2, cM3, (eq_true h1), (eq_false (Nat.not_le.mpr h1)), (eq_true h2), (eq_true h3), (eq_false (Nat.not_le.mpr h3)), (eq_false h4), (eq_false h5), (eq_true h6), (eq_true h7), not_true_eq_false, not_false_eq_true, and_true, true_and, and_false, false_and, or_true, true_or, or_false, false_or, and_self, or_self, if_true, if_false, Bool.false_eq_true, reduceIte]) (by simp only [cbI, cNw, cOl, cLd, cCv, cM1, cM2, cM3, (eq_true h1), (eq_false (Nat.not_le.mpr h1)), (eq_true h2), (eq_true h3), (eq_false (Nat.not_le.mpr h3)), (eq_false h4), (eq_false h5), (eq_true h6), (eq_true h7), not_true_eq_false, not_false_eq_true, and_true, true_and, and_false, false_and, or_true, true_or, or_false, false_or, and_self, or_self, if_true, if_false, Bool.false_eq_true, reduceIte]) (by omega) (by omega) ls (lv_sub hl [5, 6, 7, 8, 9, 10, 0] rfl)
                      · skip
                        refine lv_bipush (v := nI 100) hx hb (dk kX5_best_1_ok 4 rfl) rfl ?_
                        refine lv_iload hx hb (dk kX5_best_1_ok 5 rfl) (lv_at hl 8 rfl) ?_
                        refine n_imul hx hb (dk kX5_best_1_ok 6 rfl) ?_
                        refine lv_bipush (v := nI 10) hx hb (dk kX5_best_1_ok 7 rfl) rfl ?_
                        refine lv_iload hx hb (dk kX5_best_1_ok 8 rfl) (lv_at hl 3 rfl) ?_
                        refine n_imul hx hb (dk kX5_best_1_ok 9 rfl) ?_
                        refine n_iadd hx hb (dk kX5_best_1_ok 10 rfl) ?_
                        refine lv_iload hx hb (dk kX5_best_1_ok 11 rfl) (lv_at hl 2 rfl) ?_
                        refine n_iadd hx hb (dk kX5_best_1_ok 12 rfl) ?_
                        refine lv_istore_n (lv' := [(1, .int (nI (((100 * w) + (10 * (i / 9))) + ((i % 9) + 1)))), (10, .int (nI (covc (mov3 c b v w (rest9 w (ldg (c w) (nI (i / 9)) (stp w ((i % 9) + 1))))) (1 - (w / 4 % 2)) + covc (mov3 c b v w (rest9 w (ldg (c w) (nI (i / 9)) (stp w ((i % 9) + 1))))) ((1 - (w / 4 % 2)) + 2)))), (9, .int (nI (ptt (mov1 c b v w (rest9 w (ldg (c w) (nI (i / 9)) (stp w ((i % 9) + 1))))) (mov3 c b v w (rest9 w (ldg (c w) (nI (i / 9)) (stp w ((i % 9) + 1))))) (w / 4 % 2)) - nI (ptt (mov1 c b v w (rest9 w (ldg (c w) (nI (i / 9)) (stp w ((i % 9) + 1))))) (mov3 c b v w (rest9 w (ldg (c w) (nI (i / 9)) (stp w ((i % 9) + 1))))) (1 - (w / 4 % 2))))), (8, .int (nI ((i % 9) + 1))), (7, .int (nI (i / 9))), (0, .ref (ad 0)), (2, .int ((cbI c b v w i (cbO c b v t ((-1 : Int32), nI 0, nI 0, c6, b6, v6) w)).2.1)), (3, .int ((cbI c b v w i (cbO c b v t ((-1 : Int32), nI 0, nI 0, c6, b6, v6) w)).2.2.1)), (4, .int (nI w)), (5, .int (nI (w / 4 % 2))), (6, .int (nI i))]) hx hb (dk kX5_best_1_ok 13 rfl) rfl hl (by decide) rfl (fun ls hl => ?_)
                        refine lv_iload hx hb (dk kX5_best_1_ok 14 rfl) (lv_at hl 2 rfl) ?_
                        refine lv_istore_n (lv' := [(2, .int (nI (ptt (mov1 c b v w (rest9 w (ldg (c w) (nI (i / 9)) (stp w ((i % 9) + 1))))) (mov3 c b v w (rest9 w (ldg (c w) (nI (i / 9)) (stp w ((i % 9) + 1))))) (w / 4 % 2)) - nI (ptt (mov1 c b v w (rest9 w (ldg (c w) (nI (i / 9)) (stp w ((i % 9) + 1))))) (mov3 c b v w (rest9 w (ldg (c w) (nI (i / 9)) (stp w ((i % 9) + 1))))) (1 - (w / 4 % 2))))), (1, .int (nI (((100 * w) + (10 * (i / 9))) + ((i % 9) + 1)))), (10, .int (nI (covc (mov3 c b v w (rest9 w (ldg (c w) (nI (i / 9)) (stp w ((i % 9) + 1))))) (1 - (w / 4 % 2)) + covc (mov3 c b v w (rest9 w (ldg (c w) (nI (i / 9)) (stp w ((i % 9) + 1))))) ((1 - (w / 4 % 2)) + 2)))), (9, .int (nI (ptt (mov1 c b v w (rest9 w (ldg (c w) (nI (i / 9)) (stp w ((i % 9) + 1))))) (mov3 c b v w (rest9 w (ldg (c w) (nI (i / 9)) (stp w ((i % 9) + 1))))) (w / 4 % 2)) - nI (ptt (mov1 c b v w (rest9 w (ldg (c w) (nI (i / 9)) (stp w ((i % 9) + 1))))) (mov3 c b v w (rest9 w (ldg (c w) (nI (i / 9)) (stp w ((i % 9) + 1))))) (1 - (w / 4 % 2))))), (8, .int (nI ((i % 9) + 1))), (7, .int (nI (i / 9))), (0, .ref (ad 0)), (3, .int ((cbI c b v w i (cbO c b v t ((-1 : Int32), nI 0, nI 0, c6, b6, v6) w)).2.2.1)), (4, .int (nI w)), (5, .int (nI (w / 4 % 2))), (6, .int (nI i))]) hx hb (dk kX5_best_1_ok 15 rfl) rfl hl (by decide) rfl (fun ls hl => ?_)
                        refine lv_iload hx hb (dk kX5_best_1_ok 16 rfl) (lv_at hl 2 rfl) ?_
                        refine lv_istore_n (lv' := [(3, .int (nI (covc (mov3 c b v w (rest9 w (ldg (c w) (nI (i / 9)) (stp w ((i % 9) + 1))))) (1 - (w / 4 % 2)) + covc (mov3 c b v w (rest9 w (ldg (c w) (nI (i / 9)) (stp w ((i % 9) + 1))))) ((1 - (w / 4 % 2)) + 2)))), (2, .int (nI (ptt (mov1 c b v w (rest9 w (ldg (c w) (nI (i / 9)) (stp w ((i % 9) + 1))))) (mov3 c b v w (rest9 w (ldg (c w) (nI (i / 9)) (stp w ((i % 9) + 1))))) (w / 4 % 2)) - nI (ptt (mov1 c b v w (rest9 w (ldg (c w) (nI (i / 9)) (stp w ((i % 9) + 1))))) (mov3 c b v w (rest9 w (ldg (c w) (nI (i / 9)) (stp w ((i % 9) + 1))))) (1 - (w / 4 % 2))))), (1, .int (nI (((100 * w) + (10 * (i / 9))) + ((i % 9) + 1)))), (10, .int (nI (covc (mov3 c b v w (rest9 w (ldg (c w) (nI (i / 9)) (stp w ((i % 9) + 1))))) (1 - (w / 4 % 2)) + covc (mov3 c b v w (rest9 w (ldg (c w) (nI (i / 9)) (stp w ((i % 9) + 1))))) ((1 - (w / 4 % 2)) + 2)))), (9, .int (nI (ptt (mov1 c b v w (rest9 w (ldg (c w) (nI (i / 9)) (stp w ((i % 9) + 1))))) (mov3 c b v w (rest9 w (ldg (c w) (nI (i / 9)) (stp w ((i % 9) + 1))))) (w / 4 % 2)) - nI (ptt (mov1 c b v w (rest9 w (ldg (c w) (nI (i / 9)) (stp w ((i % 9) + 1))))) (mov3 c b v w (rest9 w (ldg (c w) (nI (i / 9)) (stp w ((i % 9) + 1))))) (1 - (w / 4 % 2))))), (8, .int (nI ((i % 9) + 1))), (7, .int (nI (i / 9))), (0, .ref (ad 0)), (4, .int (nI w)), (5, .int (nI (w / 4 % 2))), (6, .int (nI i))]) hx hb (dk kX5_best_1_ok 17 rfl) rfl hl (by decide) rfl (fun ls hl => ?_)
                        refine lv_iinc (v := nI (i + 1)) (lv' := [(6, .int (nI (i + 1))), (3, .int (nI (covc (mov3 c b v w (rest9 w (ldg (c w) (nI (i / 9)) (stp w ((i % 9) + 1))))) (1 - (w / 4 % 2)) + covc (mov3 c b v w (rest9 w (ldg (c w) (nI (i / 9)) (stp w ((i % 9) + 1))))) ((1 - (w / 4 % 2)) + 2)))), (2, .int (nI (ptt (mov1 c b v w (rest9 w (ldg (c w) (nI (i / 9)) (stp w ((i % 9) + 1))))) (mov3 c b v w (rest9 w (ldg (c w) (nI (i / 9)) (stp w ((i % 9) + 1))))) (w / 4 % 2)) - nI (ptt (mov1 c b v w (rest9 w (ldg (c w) (nI (i / 9)) (stp w ((i % 9) + 1))))) (mov3 c b v w (rest9 w (ldg (c w) (nI (i / 9)) (stp w ((i % 9) + 1))))) (1 - (w / 4 % 2))))), (1, .int (nI (((100 * w) + (10 * (i / 9))) + ((i % 9) + 1)))), (10, .int (nI (covc (mov3 c b v w (rest9 w (ldg (c w) (nI (i / 9)) (stp w ((i % 9) + 1))))) (1 - (w / 4 % 2)) + covc (mov3 c b v w (rest9 w (ldg (c w) (nI (i / 9)) (stp w ((i % 9) + 1))))) ((1 - (w / 4 % 2)) + 2)))), (9, .int (nI (ptt (mov1 c b v w (rest9 w (ldg (c w) (nI (i / 9)) (stp w ((i % 9) + 1))))) (mov3 c b v w (rest9 w (ldg (c w) (nI (i / 9)) (stp w ((i % 9) + 1))))) (w / 4 % 2)) - nI (ptt (mov1 c b v w (rest9 w (ldg (c w) (nI (i / 9)) (stp w ((i % 9) + 1))))) (mov3 c b v w (rest9 w (ldg (c w) (nI (i / 9)) (stp w ((i % 9) + 1))))) (1 - (w / 4 % 2))))), (8, .int (nI ((i % 9) + 1))), (7, .int (nI (i / 9))), (0, .ref (ad 0)), (4, .int (nI w)), (5, .int (nI (w / 4 % 2)))]) hx hb (dk kX5_best_1_ok 18 rfl) hl (k := 10) rfl (n_inc _) (by decide) rfl (fun ls hl => ?_)
                        refine lv_goto (tgt := 41) hx hb (dk kX5_best_1_ok 19 rfl) (by decide) ?_
                        exact ih41 (i + 1) _ _ _ _ _ (by first | (rw [cbI_0]; exact hP) | (simp only [cbI, cNw, cOl, cLd, cCv, cM1, cM2, cM3, (eq_true h1), (eq_false (Nat.not_le.mpr h1)), (eq_true h2), (eq_true h3), (eq_false (Nat.not_le.mpr h3)), (eq_false h4), (eq_false h5), (eq_true h6), (eq_false h7), not_true_eq_false, not_false_eq_true, and_true, true_and, and_false, false_and, or_true, true_or, or_false, false_or, and_self, or_self, if_true, if_false, Bool.false_eq_true, reduceIte]; exact hP)) hS (by simp only [cbI, cNw, cOl, cLd, cCv, cM1, cM2, cM3, (eq_true h1), (eq_false (Nat.not_le.mpr h1)), (eq_true h2), (eq_true h3), (eq_false (Nat.not_le.mpr h3)), (eq_false h4), (eq_false h5), (eq_true h6), (eq_false h7), not_true_eq_false, not_false_eq_true, and_true, true_and, and_false, false_and, or_true, true_or, or_false, false_or, and_self, or_self, if_true, if_false, Bool.false_eq_true, reduceIte]) (by simp only [cbI, cNw, cOl, cLd, cCv, cM1, cM2, cM3, (eq_true h1), (eq_false (Nat.not_le.mpr h1)), (eq_true h2), (eq_true h3), (eq_false (Nat.not_le.mpr h3)), (eq_false h4), (eq_false h5), (eq_true h6), (eq_false h7), not_true_eq_false, not_false_eq_true, and_true, true_and, and_false, false_and, or_true, true_or, or_false, false_or, and_self, or_self, if_true, if_false, Bool.false_eq_true, reduceIte]) (by simp only [cbI, cNw, cOl, cLd, cCv, cM1, cM2, cM3, (eq_true h1), (eq_false (Nat.not_le.mpr h1)), (eq_true h2), (eq_true h3), (eq_false (Nat.not_le.mpr h3)), (eq_false h4), (eq_false h5), (eq_true h6), (eq_false h7), not_true_eq_false, not_false_eq_true, and_true, true_and, and_false, false_and, or_true, true_or, or_false, false_or, and_self, or_self, if_true, if_false, Bool.false_eq_true, reduceIte]) (by omega) (by omega) ls (lv_sub hl [8, 3, 2, 1, 9, 10, 0] rfl)
          exact L41 _ 0 _ _ _ _ _ (by first | (rw [cbI_0]; exact hP) | (simp only [cbI, cNw, cOl, cLd, cCv, cM1, cM2, cM3, (eq_true h1), (eq_false (Nat.not_le.mpr h1)), (eq_true h2), not_true_eq_false, not_false_eq_true, and_true, true_and, and_false, false_and, or_true, true_or, or_false, false_or, and_self, or_self, if_true, if_false, Bool.false_eq_true, reduceIte]; exact hP)) hS (by first | rfl | omega) (by first | rfl | omega) (by first | rfl | omega) (by first | rfl | omega) (Nat.lt_succ_self _) ls (lv_sub hl [2, 3, 4, 5, 6, 1, 0] rfl)
        · skip
          refine lv_goto (tgt := 148) hx hb (dk kX5_best_0_ok 16 rfl) (by decide) ?_
          refine lv_iinc (v := nI (w + 1)) (lv' := [(4, .int (nI (w + 1))), (0, .ref (ad 0)), (1, .int ((cbO c b v t ((-1 : Int32), nI 0, nI 0, c6, b6, v6) w).1)), (2, .int ((cbO c b v t ((-1 : Int32), nI 0, nI 0, c6, b6, v6) w).2.1)), (3, .int ((cbO c b v t ((-1 : Int32), nI 0, nI 0, c6, b6, v6) w).2.2.1))]) hx hb (dk kX5_best_1_ok 20 rfl) hl (k := 4) rfl (n_inc _) (by decide) rfl (fun ls hl => ?_)
          refine lv_goto (tgt := 9) hx hb (dk kX5_best_1_ok 21 rfl) (by decide) ?_
          exact ih9 (w + 1) _ _ _ _ _ (by first | (rw [cbO_0]; exact m_touch hM6 hP) | (rw [cbO_n h2]; exact hP) | (obtain rfl : i = 72 := (by omega); rw [cbO_s h2]; exact hP)) hS (by first | (rw [cbO_n h2]; done) | (obtain rfl : i = 72 := (by omega); rw [cbO_s h2])) (by first | (rw [cbO_n h2]; done) | (obtain rfl : i = 72 := (by omega); rw [cbO_s h2])) (by first | (rw [cbO_n h2]; done) | (obtain rfl : i = 72 := (by omega); rw [cbO_s h2])) (by omega) (by omega) ls (lv_sub hl [1, 2, 3, 4, 0] rfl)
  exact L9 _ 0 _ _ _ _ _ (by first | (rw [cbO_0]; exact m_touch hM6 hP) | (rw [cbO_n hN]; exact hP) | (obtain rfl : i = 72 := (by omega); rw [cbO_s hN]; exact hP)) hS (by first | rfl | omega) (by first | rfl | omega) (by first | rfl | omega) (by first | rfl | omega) (Nat.lt_succ_self _) ls (lv_sub hl [4, 3, 2, 1, 0] rfl)
set_option maxRecDepth 100000 in
set_option maxHeartbeats 4000000 in
theorem tX5_flightsTo (l : Launch) (D : va_G) (cI cQ cL : ClassId) (ad : Nat → Nat) (N : Nat) (F : Nat → va_E) (hk : 76 < N) (c b v g h j : Nat → Int32) (t : Nat) (u z : Int32) (hN : stAt cI ad F 1 c b v g h j (nI t) u z) (c8 b8 v8 g8 h8 j8 : Nat → Int32) (t8 : Nat) (u8 z8 : Int32) (hSn : stAt cI ad F 9 c8 b8 v8 g8 h8 j8 (nI t8) u8 z8) (n9 m9 : Nat) (hn9 : n9 < 6) (hm9 : m9 ≤ 6) (hPa : paAt cQ ad F 17 n9 m9) (a : Nat → Int32) (n : Nat) (hn60 : n ≤ 60) (hT : gtAt cI ad F 67 a n) (c6 b6 v6 : Nat → Int32) (hM6 : matAt cI ad F 69 c6 b6 v6) (a7 d7 q7 : Nat → Int32) (hO : roAt cI ad F 73 a7 d7 q7) (hs : Bool) (hC : F 0 = .inr (5, [.ref (ad 1), .ref (ad 9), .ref (ad 17), .ref (ad 67), .ref (ad 69), .ref (ad 73), .int (bI hs)])) (x : Int32) (w : Nat) (hxw : x = nI w) (hw : w < 16) (hc9 : pot c w = false → cell9 (c w)) (hpt : pot c w = false) : MX l yX5_flightsTo (Cond.code yX5_flightsTo cX5_flightsTo 2 (some .int) :: AW) ({ frames := 7, cells := 0, slots := 0, locals := 102 } : Room) D cI cQ cL ad N F [.ref (ad 0), .int x] (dp (some (.int ((few a7 d7 q7 (ix (c w)) (decide (w % 4 < 2))).1 (if decide (w % 4 < 2) = true then ix (c w) else 169 + ix (c w))))) (roSet cI ad F 73 ((few a7 d7 q7 (ix (c w)) (decide (w % 4 < 2))).1) ((few a7 d7 q7 (ix (c w)) (decide (w % 4 < 2))).2.1) ((few a7 d7 q7 (ix (c w)) (decide (w % 4 < 2))).2.2))) 0 0 := by
  refine mx_i (ty := .int) (by decide +kernel) rfl (Nat.le_of_ble_eq_true rfl) (fun p e s m below meth cd Q ls hx hb hml hown hts hDi hP hK hNW hS hret hl => ?_)
  have hown : s.vm.findClass RX5 = some m.cls := hown
  subst hxw
  have hz0 : 0 < N := by omega
  have hz1 : 1 < N := by omega
  have hz1___1 : 1 + 1 < N := by omega
  have hz1___1___1 : 1 + 1 + 1 < N := by omega
  have hz1___1___2 : 1 + 1 + 2 < N := by omega
  have hz1___1___3 : 1 + 1 + 3 < N := by omega
  have hz1___5 : 1 + 5 < N := by omega
  have hz1___6 : 1 + 6 < N := by omega
  have hz1___7 : 1 + 7 < N := by omega
  have hz9 : 9 < N := by omega
  have hz17 : 17 < N := by omega
  have hz17___1 : 17 + 1 < N := by omega
  have hz67 : 67 < N := by omega
  have hz67___1 : 67 + 1 < N := by omega
  have hz69 : 69 < N := by omega
  have hz69___1 : 69 + 1 < N := by omega
  have hz69___2 : 69 + 2 < N := by omega
  have hz69___3 : 69 + 3 < N := by omega
  have hz73 : 73 < N := by omega
  have hz1___1___3 : 1 + 1 + 3 < N := by omega
  have hz69___3 : 69 + 3 < N := by omega
  have hl : lv_has ls 2 [(0, .ref (ad 0)), (1, .int (nI w))] := hl
  refine lv_iload_n hx hb (dk kX5_flightsTo_ok 0 rfl) rfl (lv_at hl 1 rfl) ?_
  refine csPv (As := [.int (nI w)]) (rest := []) ⟨hx, hb, hml, hown, hts⟩ (tX5_requireWink_ok l (nI w) (wk_nI hw)) (cwS9 1 hts mcX5_requireWink (ac9 _ (List.mem_of_getElem? (i := 6) rfl)) msX5_requireWink mini_RX5 rfl rfl hdX5_requireWink ⟨Nat.le_of_ble_eq_true rfl, Nat.le_of_ble_eq_true rfl⟩) rfl hl.1 rfl (Nat.le_of_ble_eq_true rfl) (by decide) (dk kX5_flightsTo_ok 1 rfl) ?_
  refine lv_aload_n hx hb (dk kX5_flightsTo_ok 2 rfl) rfl (lv_at hl 0 rfl) ?_
  refine gf hx hb hts (fun w h => List.mem_cons_of_mem _ (acX5 w h)) hown hK hP hz0 hC rfl 0 (by decide) (hts _ (List.mem_cons_of_mem _ (ac7 _ (List.mem_of_getElem? (i := 21) rfl)))) (fun _ h => h) rfl (dk kX5_flightsTo_ok 3 rfl) ?_
  refine gfN hx hb hts (fun w h => List.mem_cons_of_mem _ (acX4 w h)) hown hK hP hz1 hN.1 rfl 0 (by decide) (nf2 hNW) (fun _ h => h) rfl (dk kX5_flightsTo_ok 4 rfl) ?_
  refine lv_iload_n hx hb (dk kX5_flightsTo_ok 5 rfl) rfl (lv_at hl 1 rfl) ?_
  refine cvR (As := [.int (nI w)]) (rest := []) ⟨hx, hb, hml, hown, hts⟩ (tX1_isPotted l D cI cQ cL ad N F (1 + 1) (by omega) c b v hN.2.1 (nI w) w rfl (by omega)) (cwV9 1 hts mcX1_isPotted (ac14 _ (List.mem_of_getElem? (i := 4) rfl)) miX1_isPotted meX1_isPotted mini_RX1 rfl rfl hdX1_isPotted ⟨Nat.le_of_ble_eq_true rfl, Nat.le_of_ble_eq_true rfl⟩) hK hP hNW hz1___1 hN.2.1.1 rfl rfl hl.1 rfl (Nat.le_of_ble_eq_true rfl) (by decide) (dk kX5_flightsTo_ok 6 rfl) ?_
  refine b_if_eq (tgt := 22) hx hb (dk kX5_flightsTo_ok 7 rfl) (by decide) (fun h1 => ?_) (fun h1 => ?_)
  · skip
    refine lv_aload_n hx hb (dk kX5_flightsTo_ok 10 rfl) rfl (lv_at hl 0 rfl) ?_
    refine gf hx hb hts (fun w h => List.mem_cons_of_mem _ (acX5 w h)) hown hK hP hz0 hC rfl 5 (by decide) (hts _ (List.mem_cons_of_mem _ (ac8 _ (List.mem_of_getElem? (i := 10) rfl)))) (fun _ h => h) rfl (dk kX5_flightsTo_ok 11 rfl) ?_
    refine lv_aload_n hx hb (dk kX5_flightsTo_ok 12 rfl) rfl (lv_at hl 0 rfl) ?_
    refine gf hx hb hts (fun w h => List.mem_cons_of_mem _ (acX5 w h)) hown hK hP hz0 hC rfl 0 (by decide) (hts _ (List.mem_cons_of_mem _ (ac7 _ (List.mem_of_getElem? (i := 21) rfl)))) (fun _ h => h) rfl (dk kX5_flightsTo_ok 13 rfl) ?_
    refine gfN hx hb hts (fun w h => List.mem_cons_of_mem _ (acX4 w h)) hown hK hP hz1 hN.1 rfl 0 (by decide) (nf2 hNW) (fun _ h => h) rfl (dk kX5_flightsTo_ok 14 rfl) ?_
    refine gfN hx hb hts (fun w h => List.mem_cons_of_mem _ (acX1 w h)) hown hK hP hz1___1 hN.2.1.1 rfl 0 (by decide) (nf1 hNW) (fun _ h => h) rfl (dk kX5_flightsTo_ok 15 rfl) ?_
    refine lv_iload_n hx hb (dk kX5_flightsTo_ok 16 rfl) rfl (lv_at hl 1 rfl) ?_
    refine ald (j := w) hx hb hK hP hz1___1___1 hN.2.1.2.1 rfl (by omega) (by decide) (dk kX5_flightsTo_ok 17 rfl) ?_
    refine lv_iload_n hx hb (dk kX5_flightsTo_ok 18 rfl) rfl (lv_at hl 1 rfl) ?_
    refine csP (As := [.int (nI w)]) (rest := [.int (c w), .ref (ad 73)]) ⟨hx, hb, hml, hown, hts⟩ (tX5_isLarge l (nI w) w rfl (by omega)) (cwS9 1 hts mcX5_isLarge (ac6 _ (List.mem_of_getElem? (i := 23) rfl)) msX5_isLarge mini_RX5 rfl rfl hdX5_isLarge ⟨Nat.le_of_ble_eq_true rfl, Nat.le_of_ble_eq_true rfl⟩) rfl hl.1 rfl (Nat.le_of_ble_eq_true rfl) (by decide) (dk kX5_flightsTo_ok 19 rfl) ?_
    refine cvD (As := [.int (c w), .int (bI (decide (w % 4 < 2)))]) (rest := []) (roSet cI ad F 73 ((few a7 d7 q7 (ix (c w)) (decide (w % 4 < 2))).1) ((few a7 d7 q7 (ix (c w)) (decide (w % 4 < 2))).2.1) ((few a7 d7 q7 (ix (c w)) (decide (w % 4 < 2))).2.2)) ⟨hx, hb, hml, hown, hts⟩ (tX3_fewest l D cI cQ cL ad N F 73 (by omega) a7 d7 q7 hO (c w) (ix (c w)) (cell9_ix (hc9 h1)).1 (cell9_ix (hc9 h1)).2 (decide (w % 4 < 2))) (cwV9 2 hts mcX3_fewest (ac14 _ (List.mem_of_getElem? (i := 22) rfl)) miX3_fewest meX3_fewest mini_RX3 rfl rfl hdX3_fewest ⟨Nat.le_of_ble_eq_true rfl, Nat.le_of_ble_eq_true rfl⟩) hDi hK hP hNW hS hz73 hO.1 rfl rfl hl.1 rfl (Nat.le_of_ble_eq_true rfl) (by decide) (dk kX5_flightsTo_ok 20 rfl) rfl (fun H locs hP hS => ?_)
    exact hret _ _ _ _ _ _ _ _ rfl (by exact ⟨rfl, rfl⟩) hP hS (by decide) (by decide) (dk kX5_flightsTo_ok 21 rfl)
  · exact (ff_tt hpt h1).elim
set_option maxRecDepth 100000 in
set_option maxHeartbeats 4000000 in
theorem tX5_flightsToX (l : Launch) (D : va_G) (cI cQ cL : ClassId) (ad : Nat → Nat) (N : Nat) (F : Nat → va_E) (hk : 76 < N) (c b v g h j : Nat → Int32) (t : Nat) (u z : Int32) (hN : stAt cI ad F 1 c b v g h j (nI t) u z) (c8 b8 v8 g8 h8 j8 : Nat → Int32) (t8 : Nat) (u8 z8 : Int32) (hSn : stAt cI ad F 9 c8 b8 v8 g8 h8 j8 (nI t8) u8 z8) (n9 m9 : Nat) (hn9 : n9 < 6) (hm9 : m9 ≤ 6) (hPa : paAt cQ ad F 17 n9 m9) (a : Nat → Int32) (n : Nat) (hn60 : n ≤ 60) (hT : gtAt cI ad F 67 a n) (c6 b6 v6 : Nat → Int32) (hM6 : matAt cI ad F 69 c6 b6 v6) (a7 d7 q7 : Nat → Int32) (hO : roAt cI ad F 73 a7 d7 q7) (hs : Bool) (hC : F 0 = .inr (5, [.ref (ad 1), .ref (ad 9), .ref (ad 17), .ref (ad 67), .ref (ad 69), .ref (ad 73), .int (bI hs)])) (x : Int32) (w : Nat) (hxw : x = nI w) (hw : w < 16) (hpt : pot c w = true) : MR l yX5_flightsTo (Cond.code yX5_flightsTo cX5_flightsTo 2 (some .int) :: AW) ({ frames := 7, cells := 0, slots := 0, locals := 102 } : Room) D cI cQ cL ad N F [.ref (ad 0), .int x] (.int (nI 0)) := by
  refine mr_i (ty := .int) (by decide +kernel) rfl rfl rfl rfl (Nat.le_of_ble_eq_true rfl) (fun p e s m below meth cd Q ls hx hb hml hown hts hP hK hNW hret hl => ?_)
  have hown : s.vm.findClass RX5 = some m.cls := hown
  subst hxw
  have hz0 : 0 < N := by omega
  have hz1 : 1 < N := by omega
  have hz1___1 : 1 + 1 < N := by omega
  have hz1___1___1 : 1 + 1 + 1 < N := by omega
  have hz1___1___2 : 1 + 1 + 2 < N := by omega
  have hz1___1___3 : 1 + 1 + 3 < N := by omega
  have hz1___5 : 1 + 5 < N := by omega
  have hz1___6 : 1 + 6 < N := by omega
  have hz1___7 : 1 + 7 < N := by omega
  have hz9 : 9 < N := by omega
  have hz17 : 17 < N := by omega
  have hz17___1 : 17 + 1 < N := by omega
  have hz67 : 67 < N := by omega
  have hz67___1 : 67 + 1 < N := by omega
  have hz69 : 69 < N := by omega
  have hz69___1 : 69 + 1 < N := by omega
  have hz69___2 : 69 + 2 < N := by omega
  have hz69___3 : 69 + 3 < N := by omega
  have hz73 : 73 < N := by omega
  have hz1___1___3 : 1 + 1 + 3 < N := by omega
  have hz69___3 : 69 + 3 < N := by omega
  have hl : lv_has ls 2 [(0, .ref (ad 0)), (1, .int (nI w))] := hl
  refine lv_iload_n hx hb (dk kX5_flightsTo_ok 0 rfl) rfl (lv_at hl 1 rfl) ?_
  refine csPv (As := [.int (nI w)]) (rest := []) ⟨hx, hb, hml, hown, hts⟩ (tX5_requireWink_ok l (nI w) (wk_nI hw)) (cwS9 1 hts mcX5_requireWink (ac9 _ (List.mem_of_getElem? (i := 6) rfl)) msX5_requireWink mini_RX5 rfl rfl hdX5_requireWink ⟨Nat.le_of_ble_eq_true rfl, Nat.le_of_ble_eq_true rfl⟩) rfl hl.1 rfl (Nat.le_of_ble_eq_true rfl) (by decide) (dk kX5_flightsTo_ok 1 rfl) ?_
  refine lv_aload_n hx hb (dk kX5_flightsTo_ok 2 rfl) rfl (lv_at hl 0 rfl) ?_
  refine gf hx hb hts (fun w h => List.mem_cons_of_mem _ (acX5 w h)) hown hK hP hz0 hC rfl 0 (by decide) (hts _ (List.mem_cons_of_mem _ (ac7 _ (List.mem_of_getElem? (i := 21) rfl)))) (fun _ h => h) rfl (dk kX5_flightsTo_ok 3 rfl) ?_
  refine gfN hx hb hts (fun w h => List.mem_cons_of_mem _ (acX4 w h)) hown hK hP hz1 hN.1 rfl 0 (by decide) (nf2 hNW) (fun _ h => h) rfl (dk kX5_flightsTo_ok 4 rfl) ?_
  refine lv_iload_n hx hb (dk kX5_flightsTo_ok 5 rfl) rfl (lv_at hl 1 rfl) ?_
  refine cvR (As := [.int (nI w)]) (rest := []) ⟨hx, hb, hml, hown, hts⟩ (tX1_isPotted l D cI cQ cL ad N F (1 + 1) (by omega) c b v hN.2.1 (nI w) w rfl (by omega)) (cwV9 1 hts mcX1_isPotted (ac14 _ (List.mem_of_getElem? (i := 4) rfl)) miX1_isPotted meX1_isPotted mini_RX1 rfl rfl hdX1_isPotted ⟨Nat.le_of_ble_eq_true rfl, Nat.le_of_ble_eq_true rfl⟩) hK hP hNW hz1___1 hN.2.1.1 rfl rfl hl.1 rfl (Nat.le_of_ble_eq_true rfl) (by decide) (dk kX5_flightsTo_ok 6 rfl) ?_
  refine b_if_eq (tgt := 22) hx hb (dk kX5_flightsTo_ok 7 rfl) (by decide) (fun h1 => ?_) (fun h1 => ?_)
  · exact absurd (hpt.symm.trans h1) (by decide)
  · skip
    refine lv_iconst (v := nI 0) hx hb (dk kX5_flightsTo_ok 8 rfl) rfl ?_
    refine lv_goto (tgt := 45) hx hb (dk kX5_flightsTo_ok 9 rfl) (by decide) ?_
    exact hret _ _ _ (by rfl) (dk kX5_flightsTo_ok 21 rfl)
set_option maxRecDepth 100000 in
set_option maxHeartbeats 4000000 in
theorem tX5_flightsToX_b1 (l : Launch) (hst : l.stackTraces = false) (D : va_G) (cI cQ cL : ClassId) (ad : Nat → Nat) (N : Nat) (F : Nat → va_E) (hk : 76 < N) (c b v g h j : Nat → Int32) (t : Nat) (u z : Int32) (hN : stAt cI ad F 1 c b v g h j (nI t) u z) (c8 b8 v8 g8 h8 j8 : Nat → Int32) (t8 : Nat) (u8 z8 : Int32) (hSn : stAt cI ad F 9 c8 b8 v8 g8 h8 j8 (nI t8) u8 z8) (n9 m9 : Nat) (hn9 : n9 < 6) (hm9 : m9 ≤ 6) (hPa : paAt cQ ad F 17 n9 m9) (a : Nat → Int32) (n : Nat) (hn60 : n ≤ 60) (hT : gtAt cI ad F 67 a n) (c6 b6 v6 : Nat → Int32) (hM6 : matAt cI ad F 69 c6 b6 v6) (a7 d7 q7 : Nat → Int32) (hO : roAt cI ad F 73 a7 d7 q7) (hs : Bool) (hC : F 0 = .inr (5, [.ref (ad 1), .ref (ad 9), .ref (ad 17), .ref (ad 67), .ref (ad 69), .ref (ad 73), .int (bI hs)])) (x : Int32) (hwk : wk x = false) : MT l yX5_flightsTo (Cond.code yX5_flightsTo cX5_flightsTo 2 (some .int) :: AW) ({ frames := 7, cells := 1, slots := 6, locals := 102 } : Room) D cI cQ cL ad N F [.ref (ad 0), .int x] eI 1 6 := by
  refine mt_of (ret := (some .int)) hst (by decide +kernel) rfl (Nat.le_of_ble_eq_true rfl) (fun p e s m below meth cd Q ls hx hb hml hown hts hDi hP hK hNW hS hX hthr hthrW hout hl => ?_)
  have hown : s.vm.findClass RX5 = some m.cls := hown
  have hz0 : 0 < N := by omega
  have hz1 : 1 < N := by omega
  have hz1___1 : 1 + 1 < N := by omega
  have hz1___1___1 : 1 + 1 + 1 < N := by omega
  have hz1___1___2 : 1 + 1 + 2 < N := by omega
  have hz1___1___3 : 1 + 1 + 3 < N := by omega
  have hz1___5 : 1 + 5 < N := by omega
  have hz1___6 : 1 + 6 < N := by omega
  have hz1___7 : 1 + 7 < N := by omega
  have hz9 : 9 < N := by omega
  have hz17 : 17 < N := by omega
  have hz17___1 : 17 + 1 < N := by omega
  have hz67 : 67 < N := by omega
  have hz67___1 : 67 + 1 < N := by omega
  have hz69 : 69 < N := by omega
  have hz69___1 : 69 + 1 < N := by omega
  have hz69___2 : 69 + 2 < N := by omega
  have hz69___3 : 69 + 3 < N := by omega
  have hz73 : 73 < N := by omega
  have hz1___1___3 : 1 + 1 + 3 < N := by omega
  have hz69___3 : 69 + 3 < N := by omega
  have hl : lv_has ls 2 [(0, .ref (ad 0)), (1, .int x)] := hl
  refine lv_iload_n hx hb (dk kX5_flightsTo_ok 0 rfl) rfl (lv_at hl 1 rfl) ?_
  exact csT (As := [.int x]) (rest := []) ⟨hx, hb, hml, hown, hts⟩ (tX5_requireWink_b1 l hst D cI cQ cL ad N F x hwk) (cwS9 1 hts mcX5_requireWink (ac9 _ (List.mem_of_getElem? (i := 6) rfl)) msX5_requireWink mini_RX5 rfl rfl hdX5_requireWink ⟨Nat.le_of_ble_eq_true rfl, Nat.le_of_ble_eq_true rfl⟩) hDi hK hP hNW hS hX rfl hl.1 rfl (Nat.le_of_ble_eq_true rfl) (by decide) (dk kX5_flightsTo_ok 1 rfl) (fun H locs q ce hP hS h1 h2 h3 => hout _ _ _ H locs q ce _ _ hP hS h1 h2 h3 (by decide) (by decide))
end
