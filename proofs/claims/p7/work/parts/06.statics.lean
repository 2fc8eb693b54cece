set_option maxRecDepth 100000 in
set_option maxHeartbeats 4000000 in
theorem tX5_isWink (l : Launch) (x : Int32) : MP l yX5_isWink (Cond.code yX5_isWink cX5_isWink 1 (some .boolean) :: AW) ({ frames := 0, cells := 0, slots := 0, locals := 0 } : Room) [.int x] (.int (bI (wk x))) := by
  refine mp_i (ty := .boolean) (by decide +kernel) rfl rfl rfl (bI_nar _) (Nat.le_of_ble_eq_true rfl) (fun p e s m below meth cd Q ls hx hb hml hown hts hret hl => ?_)
  have hown : s.vm.findClass RX5 = some m.cls := hown
  have hl : lv_has ls 1 [(0, .int x)] := hl
  refine lv_iload_n hx hb (dk kX5_isWink_ok 0 rfl) rfl (lv_at hl 0 rfl) ?_
  refine lv_if_lt (tgt := 14) hx hb (dk kX5_isWink_ok 1 rfl) (by decide) (fun h1 => ?_) (fun h1 => ?_)
  · skip
    refine lv_iconst (v := nI 0) hx hb (dk kX5_isWink_ok 7 rfl) rfl ?_
    exact hret _ _ _ (by simp [wk, h1, bI]) (dk kX5_isWink_ok 8 rfl)
  · skip
    refine lv_iload_n hx hb (dk kX5_isWink_ok 2 rfl) rfl (lv_at hl 0 rfl) ?_
    refine lv_bipush (v := nI 16) hx hb (dk kX5_isWink_ok 3 rfl) rfl ?_
    refine lv_icmp_ge (tgt := 14) hx hb (dk kX5_isWink_ok 4 rfl) (by decide) (fun h2 => ?_) (fun h2 => ?_)
    · skip
      refine lv_iconst (v := nI 0) hx hb (dk kX5_isWink_ok 7 rfl) rfl ?_
      exact hret _ _ _ (by simp [wk, h1, h2, bI]) (dk kX5_isWink_ok 8 rfl)
    · skip
      refine lv_iconst (v := nI 1) hx hb (dk kX5_isWink_ok 5 rfl) rfl ?_
      refine lv_goto (tgt := 15) hx hb (dk kX5_isWink_ok 6 rfl) (by decide) ?_
      exact hret _ _ _ (by simp [wk, h1, h2, bI]) (dk kX5_isWink_ok 8 rfl)
set_option maxRecDepth 100000 in
set_option maxHeartbeats 4000000 in
theorem tX5_isColour (l : Launch) (x : Int32) : MP l yX5_isColour (Cond.code yX5_isColour cX5_isColour 1 (some .boolean) :: AW) ({ frames := 0, cells := 0, slots := 0, locals := 0 } : Room) [.int x] (.int (bI (cl4 x))) := by
  refine mp_i (ty := .boolean) (by decide +kernel) rfl rfl rfl (bI_nar _) (Nat.le_of_ble_eq_true rfl) (fun p e s m below meth cd Q ls hx hb hml hown hts hret hl => ?_)
  have hown : s.vm.findClass RX5 = some m.cls := hown
  have hl : lv_has ls 1 [(0, .int x)] := hl
  refine lv_iload_n hx hb (dk kX5_isColour_ok 0 rfl) rfl (lv_at hl 0 rfl) ?_
  refine lv_if_lt (tgt := 13) hx hb (dk kX5_isColour_ok 1 rfl) (by decide) (fun h1 => ?_) (fun h1 => ?_)
  · skip
    refine lv_iconst (v := nI 0) hx hb (dk kX5_isColour_ok 7 rfl) rfl ?_
    exact hret _ _ _ (by simp [cl4, h1, bI]) (dk kX5_isColour_ok 8 rfl)
  · skip
    refine lv_iload_n hx hb (dk kX5_isColour_ok 2 rfl) rfl (lv_at hl 0 rfl) ?_
    refine lv_iconst (v := nI 4) hx hb (dk kX5_isColour_ok 3 rfl) rfl ?_
    refine lv_icmp_ge (tgt := 13) hx hb (dk kX5_isColour_ok 4 rfl) (by decide) (fun h2 => ?_) (fun h2 => ?_)
    · skip
      refine lv_iconst (v := nI 0) hx hb (dk kX5_isColour_ok 7 rfl) rfl ?_
      exact hret _ _ _ (by simp [cl4, h1, h2, bI]) (dk kX5_isColour_ok 8 rfl)
    · skip
      refine lv_iconst (v := nI 1) hx hb (dk kX5_isColour_ok 5 rfl) rfl ?_
      refine lv_goto (tgt := 14) hx hb (dk kX5_isColour_ok 6 rfl) (by decide) ?_
      exact hret _ _ _ (by simp [cl4, h1, h2, bI]) (dk kX5_isColour_ok 8 rfl)
set_option maxRecDepth 100000 in
set_option maxHeartbeats 4000000 in
theorem tX5_isOnMat (l : Launch) (x y : Int32) : MP l yX5_isOnMat (Cond.code yX5_isOnMat cX5_isOnMat 2 (some .boolean) :: AW) ({ frames := 0, cells := 0, slots := 0, locals := 0 } : Room) [.int x, .int y] (.int (bI (on x y))) := by
  refine mp_i (ty := .boolean) (by decide +kernel) rfl rfl rfl (bI_nar _) (Nat.le_of_ble_eq_true rfl) (fun p e s m below meth cd Q ls hx hb hml hown hts hret hl => ?_)
  have hown : s.vm.findClass RX5 = some m.cls := hown
  have hl : lv_has ls 2 [(0, .int x), (1, .int y)] := hl
  refine lv_iload_n hx hb (dk kX5_isOnMat_ok 0 rfl) rfl (lv_at hl 0 rfl) ?_
  refine lv_if_lt (tgt := 24) hx hb (dk kX5_isOnMat_ok 1 rfl) (by decide) (fun h1 => ?_) (fun h1 => ?_)
  · skip
    refine lv_iconst (v := nI 0) hx hb (dk kX5_isOnMat_ok 12 rfl) rfl ?_
    exact hret _ _ _ (by simp [on, h1, bI]) (dk kX5_isOnMat_ok 13 rfl)
  · skip
    refine lv_iload_n hx hb (dk kX5_isOnMat_ok 2 rfl) rfl (lv_at hl 0 rfl) ?_
    refine lv_bipush (v := nI 13) hx hb (dk kX5_isOnMat_ok 3 rfl) rfl ?_
    refine lv_icmp_ge (tgt := 24) hx hb (dk kX5_isOnMat_ok 4 rfl) (by decide) (fun h2 => ?_) (fun h2 => ?_)
    · skip
      refine lv_iconst (v := nI 0) hx hb (dk kX5_isOnMat_ok 12 rfl) rfl ?_
      exact hret _ _ _ (by simp [on, h1, h2, bI]) (dk kX5_isOnMat_ok 13 rfl)
    · skip
      refine lv_iload_n hx hb (dk kX5_isOnMat_ok 5 rfl) rfl (lv_at hl 1 rfl) ?_
      refine lv_if_lt (tgt := 24) hx hb (dk kX5_isOnMat_ok 6 rfl) (by decide) (fun h3 => ?_) (fun h3 => ?_)
      · skip
        refine lv_iconst (v := nI 0) hx hb (dk kX5_isOnMat_ok 12 rfl) rfl ?_
        exact hret _ _ _ (by simp [on, h1, h2, h3, bI]) (dk kX5_isOnMat_ok 13 rfl)
      · skip
        refine lv_iload_n hx hb (dk kX5_isOnMat_ok 7 rfl) rfl (lv_at hl 1 rfl) ?_
        refine lv_bipush (v := nI 13) hx hb (dk kX5_isOnMat_ok 8 rfl) rfl ?_
        refine lv_icmp_ge (tgt := 24) hx hb (dk kX5_isOnMat_ok 9 rfl) (by decide) (fun h4 => ?_) (fun h4 => ?_)
        · skip
          refine lv_iconst (v := nI 0) hx hb (dk kX5_isOnMat_ok 12 rfl) rfl ?_
          exact hret _ _ _ (by simp [on, h1, h2, h3, h4, bI]) (dk kX5_isOnMat_ok 13 rfl)
        · skip
          refine lv_iconst (v := nI 1) hx hb (dk kX5_isOnMat_ok 10 rfl) rfl ?_
          refine lv_goto (tgt := 25) hx hb (dk kX5_isOnMat_ok 11 rfl) (by decide) ?_
          exact hret _ _ _ (by simp [on, h1, h2, h3, h4, bI]) (dk kX5_isOnMat_ok 13 rfl)
set_option maxRecDepth 100000 in
set_option maxHeartbeats 4000000 in
theorem tX5_cellAt (l : Launch) (x y : Int32) : MP l yX5_cellAt (Cond.code yX5_cellAt cX5_cellAt 2 (some .int) :: AW) ({ frames := 0, cells := 0, slots := 0, locals := 0 } : Room) [.int x, .int y] (.int (cat x y)) := by
  refine mp_i (ty := .int) (by decide +kernel) rfl rfl rfl rfl (Nat.le_of_ble_eq_true rfl) (fun p e s m below meth cd Q ls hx hb hml hown hts hret hl => ?_)
  have hown : s.vm.findClass RX5 = some m.cls := hown
  have hl : lv_has ls 2 [(0, .int x), (1, .int y)] := hl
  refine lv_bipush (v := nI 13) hx hb (dk kX5_cellAt_ok 0 rfl) rfl ?_
  refine lv_iload_n hx hb (dk kX5_cellAt_ok 1 rfl) rfl (lv_at hl 1 rfl) ?_
  refine lv_imul hx hb (dk kX5_cellAt_ok 2 rfl) ?_
  refine lv_iload_n hx hb (dk kX5_cellAt_ok 3 rfl) rfl (lv_at hl 0 rfl) ?_
  refine lv_iadd hx hb (dk kX5_cellAt_ok 4 rfl) ?_
  exact hret _ _ _ (by rfl) (dk kX5_cellAt_ok 5 rfl)
set_option maxRecDepth 100000 in
set_option maxHeartbeats 4000000 in
theorem tX5_eastOf (l : Launch) (d : Int32) : MP l yX5_eastOf (Cond.code yX5_eastOf cX5_eastOf 1 (some .int) :: AW) ({ frames := 0, cells := 0, slots := 0, locals := 0 } : Room) [.int d] (.int (ea d)) := by
  refine mp_i (ty := .int) (by decide +kernel) rfl rfl rfl rfl (Nat.le_of_ble_eq_true rfl) (fun p e s m below meth cd Q ls hx hb hml hown hts hret hl => ?_)
  have hown : s.vm.findClass RX5 = some m.cls := hown
  have hl : lv_has ls 1 [(0, .int d)] := hl
  refine lv_iload_n hx hb (dk kX5_eastOf_ok 0 rfl) rfl (lv_at hl 0 rfl) ?_
  refine lv_iconst (v := nI 1) hx hb (dk kX5_eastOf_ok 1 rfl) rfl ?_
  refine lv_icmp_lt (tgt := 14) hx hb (dk kX5_eastOf_ok 2 rfl) (by decide) (fun h1 => ?_) (fun h1 => ?_)
  · skip
    refine lv_iload_n hx hb (dk kX5_eastOf_ok 8 rfl) rfl (lv_at hl 0 rfl) ?_
    refine lv_iconst (v := nI 5) hx hb (dk kX5_eastOf_ok 9 rfl) rfl ?_
    refine lv_icmp_lt (tgt := 23) hx hb (dk kX5_eastOf_ok 10 rfl) (by decide) (fun h2 => ?_) (fun h2 => ?_)
    · skip
      refine lv_iconst (v := nI 0) hx hb (dk kX5_eastOf_ok 13 rfl) rfl ?_
      exact hret _ _ _ (by simp [ea, h1, h2]) (dk kX5_eastOf_ok 14 rfl)
    · skip
      refine lv_iconst (v := -1) hx hb (dk kX5_eastOf_ok 11 rfl) rfl ?_
      refine lv_goto (tgt := 24) hx hb (dk kX5_eastOf_ok 12 rfl) (by decide) ?_
      exact hret _ _ _ (by simp [ea, h1, h2]) (dk kX5_eastOf_ok 14 rfl)
  · skip
    refine lv_iload_n hx hb (dk kX5_eastOf_ok 3 rfl) rfl (lv_at hl 0 rfl) ?_
    refine lv_iconst (v := nI 3) hx hb (dk kX5_eastOf_ok 4 rfl) rfl ?_
    refine lv_icmp_gt (tgt := 14) hx hb (dk kX5_eastOf_ok 5 rfl) (by decide) (fun h3 => ?_) (fun h3 => ?_)
    · skip
      refine lv_iload_n hx hb (dk kX5_eastOf_ok 8 rfl) rfl (lv_at hl 0 rfl) ?_
      refine lv_iconst (v := nI 5) hx hb (dk kX5_eastOf_ok 9 rfl) rfl ?_
      refine lv_icmp_lt (tgt := 23) hx hb (dk kX5_eastOf_ok 10 rfl) (by decide) (fun h4 => ?_) (fun h4 => ?_)
      · skip
        refine lv_iconst (v := nI 0) hx hb (dk kX5_eastOf_ok 13 rfl) rfl ?_
        exact hret _ _ _ (by simp [ea, h1, h3, h4]) (dk kX5_eastOf_ok 14 rfl)
      · skip
        refine lv_iconst (v := -1) hx hb (dk kX5_eastOf_ok 11 rfl) rfl ?_
        refine lv_goto (tgt := 24) hx hb (dk kX5_eastOf_ok 12 rfl) (by decide) ?_
        exact hret _ _ _ (by simp [ea, h1, h3, h4]) (dk kX5_eastOf_ok 14 rfl)
    · skip
      refine lv_iconst (v := nI 1) hx hb (dk kX5_eastOf_ok 6 rfl) rfl ?_
      refine lv_goto (tgt := 24) hx hb (dk kX5_eastOf_ok 7 rfl) (by decide) ?_
      exact hret _ _ _ (by simp [ea, h1, h3]) (dk kX5_eastOf_ok 14 rfl)
set_option maxRecDepth 100000 in
set_option maxHeartbeats 4000000 in
theorem tX5_southOf (l : Launch) (d : Int32) : MP l yX5_southOf (Cond.code yX5_southOf cX5_southOf 1 (some .int) :: AW) ({ frames := 0, cells := 0, slots := 0, locals := 0 } : Room) [.int d] (.int (so d)) := by
  refine mp_i (ty := .int) (by decide +kernel) rfl rfl rfl rfl (Nat.le_of_ble_eq_true rfl) (fun p e s m below meth cd Q ls hx hb hml hown hts hret hl => ?_)
  have hown : s.vm.findClass RX5 = some m.cls := hown
  have hl : lv_has ls 1 [(0, .int d)] := hl
  refine lv_iload_n hx hb (dk kX5_southOf_ok 0 rfl) rfl (lv_at hl 0 rfl) ?_
  refine lv_iconst (v := nI 3) hx hb (dk kX5_southOf_ok 1 rfl) rfl ?_
  refine lv_icmp_lt (tgt := 14) hx hb (dk kX5_southOf_ok 2 rfl) (by decide) (fun h1 => ?_) (fun h1 => ?_)
  · skip
    refine lv_iload_n hx hb (dk kX5_southOf_ok 8 rfl) rfl (lv_at hl 0 rfl) ?_
    refine lv_iconst (v := nI 2) hx hb (dk kX5_southOf_ok 9 rfl) rfl ?_
    refine lv_icmp_eq (tgt := 25) hx hb (dk kX5_southOf_ok 10 rfl) (by decide) (fun h2 => ?_) (fun h2 => ?_)
    · skip
      refine lv_iconst (v := nI 0) hx hb (dk kX5_southOf_ok 14 rfl) rfl ?_
      refine lv_goto (tgt := 30) hx hb (dk kX5_southOf_ok 15 rfl) (by decide) ?_
      exact hret _ _ _ (by unfold so; (repeat' split) <;> first | rfl | (exfalso; simp_all; done) | (exfalso; revert h1 h2; subst_vars; decide) | (exfalso; subst_vars; simp_all (decide := true))) (dk kX5_southOf_ok 17 rfl)
    · skip
      refine lv_iload_n hx hb (dk kX5_southOf_ok 11 rfl) rfl (lv_at hl 0 rfl) ?_
      refine lv_bipush (v := nI 6) hx hb (dk kX5_southOf_ok 12 rfl) rfl ?_
      refine lv_icmp_ne (tgt := 29) hx hb (dk kX5_southOf_ok 13 rfl) (by decide) (fun h3 => ?_) (fun h3 => ?_)
      · skip
        refine lv_iconst (v := -1) hx hb (dk kX5_southOf_ok 16 rfl) rfl ?_
        exact hret _ _ _ (by unfold so; (repeat' split) <;> first | rfl | (exfalso; simp_all; done) | (exfalso; revert h1 h2 h3; subst_vars; decide) | (exfalso; subst_vars; simp_all (decide := true))) (dk kX5_southOf_ok 17 rfl)
      · skip
        refine lv_iconst (v := nI 0) hx hb (dk kX5_southOf_ok 14 rfl) rfl ?_
        refine lv_goto (tgt := 30) hx hb (dk kX5_southOf_ok 15 rfl) (by decide) ?_
        exact hret _ _ _ (by unfold so; (repeat' split) <;> first | rfl | (exfalso; simp_all; done) | (exfalso; revert h1 h2 h3; subst_vars; decide) | (exfalso; subst_vars; simp_all (decide := true))) (dk kX5_southOf_ok 17 rfl)
  · skip
    refine lv_iload_n hx hb (dk kX5_southOf_ok 3 rfl) rfl (lv_at hl 0 rfl) ?_
    refine lv_iconst (v := nI 5) hx hb (dk kX5_southOf_ok 4 rfl) rfl ?_
    refine lv_icmp_gt (tgt := 14) hx hb (dk kX5_southOf_ok 5 rfl) (by decide) (fun h4 => ?_) (fun h4 => ?_)
    · skip
      refine lv_iload_n hx hb (dk kX5_southOf_ok 8 rfl) rfl (lv_at hl 0 rfl) ?_
      refine lv_iconst (v := nI 2) hx hb (dk kX5_southOf_ok 9 rfl) rfl ?_
      refine lv_icmp_eq (tgt := 25) hx hb (dk kX5_southOf_ok 10 rfl) (by decide) (fun h5 => ?_) (fun h5 => ?_)
      · skip
        refine lv_iconst (v := nI 0) hx hb (dk kX5_southOf_ok 14 rfl) rfl ?_
        refine lv_goto (tgt := 30) hx hb (dk kX5_southOf_ok 15 rfl) (by decide) ?_
        exact hret _ _ _ (by unfold so; (repeat' split) <;> first | rfl | (exfalso; simp_all; done) | (exfalso; revert h1 h4 h5; subst_vars; decide) | (exfalso; subst_vars; simp_all (decide := true))) (dk kX5_southOf_ok 17 rfl)
      · skip
        refine lv_iload_n hx hb (dk kX5_southOf_ok 11 rfl) rfl (lv_at hl 0 rfl) ?_
        refine lv_bipush (v := nI 6) hx hb (dk kX5_southOf_ok 12 rfl) rfl ?_
        refine lv_icmp_ne (tgt := 29) hx hb (dk kX5_southOf_ok 13 rfl) (by decide) (fun h6 => ?_) (fun h6 => ?_)
        · skip
          refine lv_iconst (v := -1) hx hb (dk kX5_southOf_ok 16 rfl) rfl ?_
          exact hret _ _ _ (by unfold so; (repeat' split) <;> first | rfl | (exfalso; simp_all; done) | (exfalso; revert h1 h4 h5 h6; subst_vars; decide) | (exfalso; subst_vars; simp_all (decide := true))) (dk kX5_southOf_ok 17 rfl)
        · skip
          refine lv_iconst (v := nI 0) hx hb (dk kX5_southOf_ok 14 rfl) rfl ?_
          refine lv_goto (tgt := 30) hx hb (dk kX5_southOf_ok 15 rfl) (by decide) ?_
          exact hret _ _ _ (by unfold so; (repeat' split) <;> first | rfl | (exfalso; simp_all; done) | (exfalso; revert h1 h4 h5 h6; subst_vars; decide) | (exfalso; subst_vars; simp_all (decide := true))) (dk kX5_southOf_ok 17 rfl)
    · skip
      refine lv_iconst (v := nI 1) hx hb (dk kX5_southOf_ok 6 rfl) rfl ?_
      refine lv_goto (tgt := 30) hx hb (dk kX5_southOf_ok 7 rfl) (by decide) ?_
      exact hret _ _ _ (by unfold so; (repeat' split) <;> first | rfl | (exfalso; simp_all; done) | (exfalso; revert h1 h4; subst_vars; decide) | (exfalso; subst_vars; simp_all (decide := true))) (dk kX5_southOf_ok 17 rfl)
set_option maxRecDepth 100000 in
set_option maxHeartbeats 4000000 in
theorem tX5_colourOf (l : Launch) (x : Int32) (w : Nat) (hxw : x = nI w) (hw : w < 2 ^ 31) : MP l yX5_colourOf (Cond.code yX5_colourOf cX5_colourOf 1 (some .int) :: AW) ({ frames := 0, cells := 0, slots := 0, locals := 0 } : Room) [.int x] (.int (nI (w / 4))) := by
  refine mp_i (ty := .int) (by decide +kernel) rfl rfl rfl rfl (Nat.le_of_ble_eq_true rfl) (fun p e s m below meth cd Q ls hx hb hml hown hts hret hl => ?_)
  have hown : s.vm.findClass RX5 = some m.cls := hown
  subst hxw
  have hl : lv_has ls 1 [(0, .int (nI w))] := hl
  refine lv_iload_n hx hb (dk kX5_colourOf_ok 0 rfl) rfl (lv_at hl 0 rfl) ?_
  refine lv_iconst (v := nI 4) hx hb (dk kX5_colourOf_ok 1 rfl) rfl ?_
  refine n_idiv hx hb (by omega) (by decide) (by decide) (dk kX5_colourOf_ok 2 rfl) ?_
  exact hret _ _ _ (by first | rfl | assumption | omega | (simp_all; done)) (dk kX5_colourOf_ok 3 rfl)
set_option maxRecDepth 100000 in
set_option maxHeartbeats 4000000 in
theorem tX5_teamOf (l : Launch) (x : Int32) (w : Nat) (hxw : x = nI w) (hw : w < 2 ^ 31) : MP l yX5_teamOf (Cond.code yX5_teamOf cX5_teamOf 1 (some .int) :: AW) ({ frames := 1, cells := 0, slots := 0, locals := 20 } : Room) [.int x] (.int (nI (w / 4 % 2))) := by
  refine mp_i (ty := .int) (by decide +kernel) rfl rfl rfl rfl (Nat.le_of_ble_eq_true rfl) (fun p e s m below meth cd Q ls hx hb hml hown hts hret hl => ?_)
  have hown : s.vm.findClass RX5 = some m.cls := hown
  subst hxw
  have hl : lv_has ls 1 [(0, .int (nI w))] := hl
  refine lv_iload_n hx hb (dk kX5_teamOf_ok 0 rfl) rfl (lv_at hl 0 rfl) ?_
  refine csP (As := [.int (nI w)]) (rest := []) ⟨hx, hb, hml, hown, hts⟩ (tX5_colourOf l (nI w) w rfl (by omega)) (cwS9 1 hts mcX5_colourOf (ac7 _ (List.mem_of_getElem? (i := 2) rfl)) msX5_colourOf mini_RX5 rfl rfl hdX5_colourOf ⟨Nat.le_of_ble_eq_true rfl, Nat.le_of_ble_eq_true rfl⟩) rfl hl.1 rfl (Nat.le_of_ble_eq_true rfl) (by decide) (dk kX5_teamOf_ok 1 rfl) ?_
  refine lv_iconst (v := nI 2) hx hb (dk kX5_teamOf_ok 2 rfl) rfl ?_
  refine n_irem hx hb (by omega) (by decide) (by decide) (dk kX5_teamOf_ok 3 rfl) ?_
  exact hret _ _ _ (by first | rfl | assumption | omega | (simp_all; done)) (dk kX5_teamOf_ok 4 rfl)
set_option maxRecDepth 100000 in
set_option maxHeartbeats 4000000 in
theorem tX5_isLarge (l : Launch) (x : Int32) (w : Nat) (hxw : x = nI w) (hw : w < 2 ^ 31) : MP l yX5_isLarge (Cond.code yX5_isLarge cX5_isLarge 1 (some .boolean) :: AW) ({ frames := 0, cells := 0, slots := 0, locals := 0 } : Room) [.int x] (.int (bI (decide (w % 4 < 2)))) := by
  refine mp_i (ty := .boolean) (by decide +kernel) rfl rfl rfl (bI_nar _) (Nat.le_of_ble_eq_true rfl) (fun p e s m below meth cd Q ls hx hb hml hown hts hret hl => ?_)
  have hown : s.vm.findClass RX5 = some m.cls := hown
  subst hxw
  have hl : lv_has ls 1 [(0, .int (nI w))] := hl
  refine lv_iload_n hx hb (dk kX5_isLarge_ok 0 rfl) rfl (lv_at hl 0 rfl) ?_
  refine lv_iconst (v := nI 4) hx hb (dk kX5_isLarge_ok 1 rfl) rfl ?_
  refine n_irem hx hb (by omega) (by decide) (by decide) (dk kX5_isLarge_ok 2 rfl) ?_
  refine lv_iconst (v := nI 2) hx hb (dk kX5_isLarge_ok 3 rfl) rfl ?_
  refine n_icmp_ge (tgt := 11) hx hb (by omega) (by decide) (dk kX5_isLarge_ok 4 rfl) (by decide) (fun h1 => ?_) (fun h1 => ?_)
  · skip
    refine lv_iconst (v := nI 0) hx hb (dk kX5_isLarge_ok 7 rfl) rfl ?_
    exact hret _ _ _ (by first | (rw [decide_eq_true (by omega)]; rfl) | (rw [decide_eq_false (by omega)]; rfl)) (dk kX5_isLarge_ok 8 rfl)
  · skip
    refine lv_iconst (v := nI 1) hx hb (dk kX5_isLarge_ok 5 rfl) rfl ?_
    refine lv_goto (tgt := 12) hx hb (dk kX5_isLarge_ok 6 rfl) (by decide) ?_
    exact hret _ _ _ (by first | (rw [decide_eq_true (by omega)]; rfl) | (rw [decide_eq_false (by omega)]; rfl)) (dk kX5_isLarge_ok 8 rfl)
set_option maxRecDepth 100000 in
set_option maxHeartbeats 4000000 in
theorem tX5_stepsOf (l : Launch) (x : Int32) (w : Nat) (hxw : x = nI w) (hw : w < 2 ^ 31) (y : Int32) (f : Nat) (hyf : y = nI f) (hf : f < 2 ^ 30) : MP l yX5_stepsOf (Cond.code yX5_stepsOf cX5_stepsOf 2 (some .int) :: AW) ({ frames := 1, cells := 0, slots := 0, locals := 20 } : Room) [.int x, .int y] (.int (nI (stp w f))) := by
  refine mp_i (ty := .int) (by decide +kernel) rfl rfl rfl rfl (Nat.le_of_ble_eq_true rfl) (fun p e s m below meth cd Q ls hx hb hml hown hts hret hl => ?_)
  have hown : s.vm.findClass RX5 = some m.cls := hown
  subst hxw
  subst hyf
  have hl : lv_has ls 2 [(0, .int (nI w)), (1, .int (nI f))] := hl
  refine lv_iload_n hx hb (dk kX5_stepsOf_ok 0 rfl) rfl (lv_at hl 0 rfl) ?_
  refine csP (As := [.int (nI w)]) (rest := []) ⟨hx, hb, hml, hown, hts⟩ (tX5_isLarge l (nI w) w rfl (by omega)) (cwS9 1 hts mcX5_isLarge (ac6 _ (List.mem_of_getElem? (i := 23) rfl)) msX5_isLarge mini_RX5 rfl rfl hdX5_isLarge ⟨Nat.le_of_ble_eq_true rfl, Nat.le_of_ble_eq_true rfl⟩) rfl hl.1 rfl (Nat.le_of_ble_eq_true rfl) (by decide) (dk kX5_stepsOf_ok 1 rfl) ?_
  refine b_if_eq (tgt := 11) hx hb (dk kX5_stepsOf_ok 2 rfl) (by decide) (fun h1 => ?_) (fun h1 => ?_)
  · replace h1 := of_decide_eq_false h1
    refine lv_iload_n hx hb (dk kX5_stepsOf_ok 5 rfl) rfl (lv_at hl 1 rfl) ?_
    refine lv_iconst (v := nI 1) hx hb (dk kX5_stepsOf_ok 6 rfl) rfl ?_
    refine n_iadd hx hb (dk kX5_stepsOf_ok 7 rfl) ?_
    exact hret _ _ _ (by unfold stp; split <;> first | rfl | (exfalso; omega)) (dk kX5_stepsOf_ok 8 rfl)
  · replace h1 := of_decide_eq_true h1
    refine lv_iload_n hx hb (dk kX5_stepsOf_ok 3 rfl) rfl (lv_at hl 1 rfl) ?_
    refine lv_goto (tgt := 14) hx hb (dk kX5_stepsOf_ok 4 rfl) (by decide) ?_
    exact hret _ _ _ (by unfold stp; split <;> first | rfl | (exfalso; omega)) (dk kX5_stepsOf_ok 8 rfl)
set_option maxRecDepth 100000 in
set_option maxHeartbeats 4000000 in
theorem tX5_baseOf (l : Launch) (x : Int32) (w : Nat) (hxw : x = nI w) (hw : w < 4) : MP l yX5_baseOf (Cond.code yX5_baseOf cX5_baseOf 1 (some .int) :: AW) ({ frames := 1, cells := 0, slots := 0, locals := 21 } : Room) [.int x] (.int (nI (bs w))) := by
  refine mp_i (ty := .int) (by decide +kernel) rfl rfl rfl rfl (Nat.le_of_ble_eq_true rfl) (fun p e s m below meth cd Q ls hx hb hml hown hts hret hl => ?_)
  have hown : s.vm.findClass RX5 = some m.cls := hown
  subst hxw
  have hl : lv_has ls 1 [(0, .int (nI w))] := hl
  refine lv_iload_n hx hb (dk kX5_baseOf_ok 0 rfl) rfl (lv_at hl 0 rfl) ?_
  rcases Classical.em (nI w = nI 0) with hs1 | hs1
  · skip
    refine sw_in (off := 27) (tgt := 28) 0 hx hb (dk kX5_baseOf_ok 1 rfl) hs1 rfl rfl rfl (by decide) ?_
    refine lv_iconst (v := nI 0) hx hb (dk kX5_baseOf_ok 2 rfl) rfl ?_
    refine lv_iconst (v := nI 0) hx hb (dk kX5_baseOf_ok 3 rfl) rfl ?_
    refine csP (As := [.int (nI 0), .int (nI 0)]) (rest := []) ⟨hx, hb, hml, hown, hts⟩ (tX5_cellAt l (nI 0) (nI 0)) (cwS9 2 hts mcX5_cellAt (ac0 _ (List.mem_of_getElem? (i := 17) rfl)) msX5_cellAt mini_RX5 rfl rfl hdX5_cellAt ⟨Nat.le_of_ble_eq_true rfl, Nat.le_of_ble_eq_true rfl⟩) rfl hl.1 rfl (Nat.le_of_ble_eq_true rfl) (by decide) (dk kX5_baseOf_ok 4 rfl) ?_
    exact hret _ _ _ (by rcases (show w = 0 ∨ w = 1 ∨ w = 2 ∨ w = 3 by omega) with rfl | rfl | rfl | rfl <;> first | rfl | (exfalso; revert hs1; decide)) (dk kX5_baseOf_ok 5 rfl)
  rcases Classical.em (nI w = nI 1) with hs2 | hs2
  · skip
    refine sw_in (off := 33) (tgt := 34) 1 hx hb (dk kX5_baseOf_ok 1 rfl) hs2 rfl rfl rfl (by decide) ?_
    refine lv_bipush (v := nI 12) hx hb (dk kX5_baseOf_ok 6 rfl) rfl ?_
    refine lv_iconst (v := nI 0) hx hb (dk kX5_baseOf_ok 7 rfl) rfl ?_
    refine csP (As := [.int (nI 12), .int (nI 0)]) (rest := []) ⟨hx, hb, hml, hown, hts⟩ (tX5_cellAt l (nI 12) (nI 0)) (cwS9 2 hts mcX5_cellAt (ac0 _ (List.mem_of_getElem? (i := 17) rfl)) msX5_cellAt mini_RX5 rfl rfl hdX5_cellAt ⟨Nat.le_of_ble_eq_true rfl, Nat.le_of_ble_eq_true rfl⟩) rfl hl.1 rfl (Nat.le_of_ble_eq_true rfl) (by decide) (dk kX5_baseOf_ok 8 rfl) ?_
    exact hret _ _ _ (by rcases (show w = 0 ∨ w = 1 ∨ w = 2 ∨ w = 3 by omega) with rfl | rfl | rfl | rfl <;> first | rfl | (exfalso; revert hs1 hs2; decide)) (dk kX5_baseOf_ok 9 rfl)
  rcases Classical.em (nI w = nI 2) with hs3 | hs3
  · skip
    refine sw_in (off := 40) (tgt := 41) 2 hx hb (dk kX5_baseOf_ok 1 rfl) hs3 rfl rfl rfl (by decide) ?_
    refine lv_bipush (v := nI 12) hx hb (dk kX5_baseOf_ok 10 rfl) rfl ?_
    refine lv_bipush (v := nI 12) hx hb (dk kX5_baseOf_ok 11 rfl) rfl ?_
    refine csP (As := [.int (nI 12), .int (nI 12)]) (rest := []) ⟨hx, hb, hml, hown, hts⟩ (tX5_cellAt l (nI 12) (nI 12)) (cwS9 2 hts mcX5_cellAt (ac0 _ (List.mem_of_getElem? (i := 17) rfl)) msX5_cellAt mini_RX5 rfl rfl hdX5_cellAt ⟨Nat.le_of_ble_eq_true rfl, Nat.le_of_ble_eq_true rfl⟩) rfl hl.1 rfl (Nat.le_of_ble_eq_true rfl) (by decide) (dk kX5_baseOf_ok 12 rfl) ?_
    exact hret _ _ _ (by rcases (show w = 0 ∨ w = 1 ∨ w = 2 ∨ w = 3 by omega) with rfl | rfl | rfl | rfl <;> first | rfl | (exfalso; revert hs1 hs2 hs3; decide)) (dk kX5_baseOf_ok 13 rfl)
  refine lv_tableOut (tgt := 49) hx hb (dk kX5_baseOf_ok 1 rfl) (sw_out 3 (by intro k9 hk9; rcases k9 with _ | _ | _ | _ <;> first | assumption | omega)) (by decide) ?_
  refine lv_iconst (v := nI 0) hx hb (dk kX5_baseOf_ok 14 rfl) rfl ?_
  refine lv_bipush (v := nI 12) hx hb (dk kX5_baseOf_ok 15 rfl) rfl ?_
  refine csP (As := [.int (nI 0), .int (nI 12)]) (rest := []) ⟨hx, hb, hml, hown, hts⟩ (tX5_cellAt l (nI 0) (nI 12)) (cwS9 2 hts mcX5_cellAt (ac0 _ (List.mem_of_getElem? (i := 17) rfl)) msX5_cellAt mini_RX5 rfl rfl hdX5_cellAt ⟨Nat.le_of_ble_eq_true rfl, Nat.le_of_ble_eq_true rfl⟩) rfl hl.1 rfl (Nat.le_of_ble_eq_true rfl) (by decide) (dk kX5_baseOf_ok 16 rfl) ?_
  exact hret _ _ _ (by rcases (show w = 0 ∨ w = 1 ∨ w = 2 ∨ w = 3 by omega) with rfl | rfl | rfl | rfl <;> first | rfl | (exfalso; revert hs1 hs2 hs3; decide)) (dk kX5_baseOf_ok 17 rfl)
set_option maxRecDepth 100000 in
set_option maxHeartbeats 4000000 in
theorem tX5_cellBeside (l : Launch) (x y d : Int32) : MP l yX5_cellBeside (Cond.code yX5_cellBeside cX5_cellBeside 5 (some .int) :: AW) ({ frames := 1, cells := 0, slots := 0, locals := 21 } : Room) [.int x, .int y, .int d] (.int (beside x y d)) := by
  refine mp_i (ty := .int) (by decide +kernel) rfl rfl rfl rfl (Nat.le_of_ble_eq_true rfl) (fun p e s m below meth cd Q ls hx hb hml hown hts hret hl => ?_)
  have hown : s.vm.findClass RX5 = some m.cls := hown
  have hl : lv_has ls 5 [(0, .int x), (1, .int y), (2, .int d)] := hl
  refine lv_iload_n hx hb (dk kX5_cellBeside_ok 0 rfl) rfl (lv_at hl 0 rfl) ?_
  refine lv_iload_n hx hb (dk kX5_cellBeside_ok 1 rfl) rfl (lv_at hl 2 rfl) ?_
  refine csP (As := [.int d]) (rest := [.int x]) ⟨hx, hb, hml, hown, hts⟩ (tX5_eastOf l d) (cwS9 1 hts mcX5_eastOf (ac5 _ (List.mem_of_getElem? (i := 14) rfl)) msX5_eastOf mini_RX5 rfl rfl hdX5_eastOf ⟨Nat.le_of_ble_eq_true rfl, Nat.le_of_ble_eq_true rfl⟩) rfl hl.1 rfl (Nat.le_of_ble_eq_true rfl) (by decide) (dk kX5_cellBeside_ok 2 rfl) ?_
  refine lv_iadd hx hb (dk kX5_cellBeside_ok 3 rfl) ?_
  refine lv_istore_n (lv' := [(3, .int (x + (ea d))), (0, .int x), (1, .int y), (2, .int d)]) hx hb (dk kX5_cellBeside_ok 4 rfl) rfl hl (by decide) rfl (fun ls hl => ?_)
  refine lv_iload_n hx hb (dk kX5_cellBeside_ok 5 rfl) rfl (lv_at hl 2 rfl) ?_
  refine lv_iload_n hx hb (dk kX5_cellBeside_ok 6 rfl) rfl (lv_at hl 3 rfl) ?_
  refine csP (As := [.int d]) (rest := [.int y]) ⟨hx, hb, hml, hown, hts⟩ (tX5_southOf l d) (cwS9 1 hts mcX5_southOf (ac5 _ (List.mem_of_getElem? (i := 17) rfl)) msX5_southOf mini_RX5 rfl rfl hdX5_southOf ⟨Nat.le_of_ble_eq_true rfl, Nat.le_of_ble_eq_true rfl⟩) rfl hl.1 rfl (Nat.le_of_ble_eq_true rfl) (by decide) (dk kX5_cellBeside_ok 7 rfl) ?_
  refine lv_iadd hx hb (dk kX5_cellBeside_ok 8 rfl) ?_
  refine lv_istore (lv' := [(4, .int (y + (so d))), (3, .int (x + (ea d))), (0, .int x), (1, .int y), (2, .int d)]) hx hb (dk kX5_cellBeside_ok 9 rfl) hl (by decide) rfl (fun ls hl => ?_)
  refine lv_iload_n hx hb (dk kX5_cellBeside_ok 10 rfl) rfl (lv_at hl 1 rfl) ?_
  refine lv_iload hx hb (dk kX5_cellBeside_ok 11 rfl) (lv_at hl 0 rfl) ?_
  refine csP (As := [.int (x + (ea d)), .int (y + (so d))]) (rest := []) ⟨hx, hb, hml, hown, hts⟩ (tX5_isOnMat l (x + (ea d)) (y + (so d))) (cwS9 2 hts mcX5_isOnMat (ac5 _ (List.mem_of_getElem? (i := 20) rfl)) msX5_isOnMat mini_RX5 rfl rfl hdX5_isOnMat ⟨Nat.le_of_ble_eq_true rfl, Nat.le_of_ble_eq_true rfl⟩) rfl hl.1 rfl (Nat.le_of_ble_eq_true rfl) (by decide) (dk kX5_cellBeside_ok 12 rfl) ?_
  refine b_if_eq (tgt := 33) hx hb (dk kX5_cellBeside_ok 13 rfl) (by decide) (fun h1 => ?_) (fun h1 => ?_)
  · skip
    refine lv_iconst (v := -1) hx hb (dk kX5_cellBeside_ok 18 rfl) rfl ?_
    exact hret _ _ _ (by simp [beside, h1]) (dk kX5_cellBeside_ok 19 rfl)
  · skip
    refine lv_iload_n hx hb (dk kX5_cellBeside_ok 14 rfl) rfl (lv_at hl 1 rfl) ?_
    refine lv_iload hx hb (dk kX5_cellBeside_ok 15 rfl) (lv_at hl 0 rfl) ?_
    refine csP (As := [.int (x + (ea d)), .int (y + (so d))]) (rest := []) ⟨hx, hb, hml, hown, hts⟩ (tX5_cellAt l (x + (ea d)) (y + (so d))) (cwS9 2 hts mcX5_cellAt (ac0 _ (List.mem_of_getElem? (i := 17) rfl)) msX5_cellAt mini_RX5 rfl rfl hdX5_cellAt ⟨Nat.le_of_ble_eq_true rfl, Nat.le_of_ble_eq_true rfl⟩) rfl hl.1 rfl (Nat.le_of_ble_eq_true rfl) (by decide) (dk kX5_cellBeside_ok 16 rfl) ?_
    refine lv_goto (tgt := 34) hx hb (dk kX5_cellBeside_ok 17 rfl) (by decide) ?_
    exact hret _ _ _ (by simp [beside, h1]) (dk kX5_cellBeside_ok 19 rfl)
set_option maxRecDepth 100000 in
set_option maxHeartbeats 4000000 in
theorem tX5_landing (l : Launch) (q d z : Int32) (f : Nat) (hzf : z = nI f) (hf : f < 2 ^ 31) : MP l yX5_landing (Cond.code yX5_landing cX5_landing 9 (some .int) :: AW) ({ frames := 1, cells := 0, slots := 0, locals := 21 } : Room) [.int q, .int d, .int z] (.int (ldg q d f)) := by
  refine mp_i (ty := .int) (by decide +kernel) rfl rfl rfl rfl (Nat.le_of_ble_eq_true rfl) (fun p e s m below meth cd Q ls hx hb hml hown hts hret hl => ?_)
  have hown : s.vm.findClass RX5 = some m.cls := hown
  subst hzf
  have hl : lv_has ls 9 [(0, .int q), (1, .int d), (2, .int (nI f))] := hl
  refine lv_iload_n hx hb (dk kX5_landing_0_ok 0 rfl) rfl (lv_at hl 0 rfl) ?_
  refine lv_bipush (v := nI 13) hx hb (dk kX5_landing_0_ok 1 rfl) rfl ?_
  refine lv_irem hx hb (dk kX5_landing_0_ok 2 rfl) (by decide) ?_
  refine lv_istore_n (lv' := [(3, .int (q - q / (nI 13) * (nI 13))), (0, .int q), (1, .int d), (2, .int (nI f))]) hx hb (dk kX5_landing_0_ok 3 rfl) rfl hl (by decide) rfl (fun ls hl => ?_)
  refine lv_iload_n hx hb (dk kX5_landing_0_ok 4 rfl) rfl (lv_at hl 1 rfl) ?_
  refine lv_bipush (v := nI 13) hx hb (dk kX5_landing_0_ok 5 rfl) rfl ?_
  refine lv_idiv hx hb (dk kX5_landing_0_ok 6 rfl) (by decide) ?_
  refine lv_istore (lv' := [(4, .int (q / (nI 13))), (3, .int (q - q / (nI 13) * (nI 13))), (0, .int q), (1, .int d), (2, .int (nI f))]) hx hb (dk kX5_landing_0_ok 7 rfl) hl (by decide) rfl (fun ls hl => ?_)
  refine lv_iload_n hx hb (dk kX5_landing_0_ok 8 rfl) rfl (lv_at hl 3 rfl) ?_
  refine csP (As := [.int d]) (rest := []) ⟨hx, hb, hml, hown, hts⟩ (tX5_eastOf l d) (cwS9 1 hts mcX5_eastOf (ac5 _ (List.mem_of_getElem? (i := 14) rfl)) msX5_eastOf mini_RX5 rfl rfl hdX5_eastOf ⟨Nat.le_of_ble_eq_true rfl, Nat.le_of_ble_eq_true rfl⟩) rfl hl.1 rfl (Nat.le_of_ble_eq_true rfl) (by decide) (dk kX5_landing_0_ok 9 rfl) ?_
  refine lv_istore (lv' := [(5, .int (ea d)), (4, .int (q / (nI 13))), (3, .int (q - q / (nI 13) * (nI 13))), (0, .int q), (1, .int d), (2, .int (nI f))]) hx hb (dk kX5_landing_0_ok 10 rfl) hl (by decide) rfl (fun ls hl => ?_)
  refine lv_iload_n hx hb (dk kX5_landing_0_ok 11 rfl) rfl (lv_at hl 4 rfl) ?_
  refine csP (As := [.int d]) (rest := []) ⟨hx, hb, hml, hown, hts⟩ (tX5_southOf l d) (cwS9 1 hts mcX5_southOf (ac5 _ (List.mem_of_getElem? (i := 17) rfl)) msX5_southOf mini_RX5 rfl rfl hdX5_southOf ⟨Nat.le_of_ble_eq_true rfl, Nat.le_of_ble_eq_true rfl⟩) rfl hl.1 rfl (Nat.le_of_ble_eq_true rfl) (by decide) (dk kX5_landing_0_ok 12 rfl) ?_
  refine lv_istore (lv' := [(6, .int (so d)), (5, .int (ea d)), (4, .int (q / (nI 13))), (3, .int (q - q / (nI 13) * (nI 13))), (0, .int q), (1, .int d), (2, .int (nI f))]) hx hb (dk kX5_landing_0_ok 13 rfl) hl (by decide) rfl (fun ls hl => ?_)
  refine lv_iconst (v := nI 0) hx hb (dk kX5_landing_0_ok 14 rfl) rfl ?_
  refine lv_istore (lv' := [(7, .int (nI 0)), (6, .int (so d)), (5, .int (ea d)), (4, .int (q / (nI 13))), (3, .int (q - q / (nI 13) * (nI 13))), (0, .int q), (1, .int d), (2, .int (nI f))]) hx hb (dk kX5_landing_0_ok 15 rfl) hl (by decide) rfl (fun ls hl => ?_)
  refine lv_iconst (v := nI 0) hx hb (dk kX5_landing_0_ok 16 rfl) rfl ?_
  refine lv_istore (lv' := [(8, .int (nI 0)), (7, .int (nI 0)), (6, .int (so d)), (5, .int (ea d)), (4, .int (q / (nI 13))), (3, .int (q - q / (nI 13) * (nI 13))), (0, .int q), (1, .int d), (2, .int (nI f))]) hx hb (dk kX5_landing_0_ok 17 rfl) hl (by decide) rfl (fun ls hl => ?_)
  have L29 : ∀ (fu : Nat) (i : Nat) (x y u v : Int32) (b : Bool) (x7 : Int32), x7 = bI b → i ≤ f → ldg q d f = ldL (f - i) x y u v b → f - i < fu → ∀ ls : Array Slot, lv_has ls 9 [(0, .int q), (1, .int d), (2, .int (nI f)), (3, .int x), (4, .int y), (5, .int u), (6, .int v), (7, .int x7), (8, .int (nI i))] → W p l e ({ frames := 1, cells := 0, slots := 0, locals := 21 } : Room) s m ([.int q, .int d, .int (nI f)] : List Value).toArray below meth cd s.heap [] 0 0 Q (F0 m 29 ls []) := by
    intro fu
    induction fu with
    | zero => intros; omega
    | succ fu ih29 =>
      intro i x y u v b x7 ex7 hi hr hm29 ls hl
      subst ex7
      refine lv_iload hx hb (dk kX5_landing_0_ok 18 rfl) (lv_at hl 8 rfl) ?_
      refine lv_iload_n hx hb (dk kX5_landing_0_ok 19 rfl) rfl (lv_at hl 2 rfl) ?_
      refine n_icmp_ge (tgt := 103) hx hb (by omega) (by omega) (dk kX5_landing_0_ok 20 rfl) (by decide) (fun h1 => ?_) (fun h1 => ?_)
      · skip
        refine lv_iload_n hx hb (dk kX5_landing_0_ok 59 rfl) rfl (lv_at hl 3 rfl) ?_
        refine lv_iload hx hb (dk kX5_landing_1_ok 0 rfl) (lv_at hl 4 rfl) ?_
        refine csP (As := [.int x, .int y]) (rest := []) ⟨hx, hb, hml, hown, hts⟩ (tX5_cellAt l x y) (cwS9 2 hts mcX5_cellAt (ac0 _ (List.mem_of_getElem? (i := 17) rfl)) msX5_cellAt mini_RX5 rfl rfl hdX5_cellAt ⟨Nat.le_of_ble_eq_true rfl, Nat.le_of_ble_eq_true rfl⟩) rfl hl.1 rfl (Nat.le_of_ble_eq_true rfl) (by decide) (dk kX5_landing_1_ok 1 rfl) ?_
        exact hret _ _ _ (by first | (rw [hr, show f - i = (f - (i + 1)) + 1 by omega]; simp [ldL, h1]; done) | (rw [hr, show f - i = 0 by omega]; rfl)) (dk kX5_landing_1_ok 2 rfl)
      · skip
        refine lv_iload_n hx hb (dk kX5_landing_0_ok 21 rfl) rfl (lv_at hl 3 rfl) ?_
        refine lv_iload hx hb (dk kX5_landing_0_ok 22 rfl) (lv_at hl 5 rfl) ?_
        refine lv_iadd hx hb (dk kX5_landing_0_ok 23 rfl) ?_
        refine lv_iload hx hb (dk kX5_landing_0_ok 24 rfl) (lv_at hl 4 rfl) ?_
        refine lv_iload hx hb (dk kX5_landing_0_ok 25 rfl) (lv_at hl 6 rfl) ?_
        refine lv_iadd hx hb (dk kX5_landing_0_ok 26 rfl) ?_
        refine csP (As := [.int (x + u), .int (y + v)]) (rest := []) ⟨hx, hb, hml, hown, hts⟩ (tX5_isOnMat l (x + u) (y + v)) (cwS9 2 hts mcX5_isOnMat (ac5 _ (List.mem_of_getElem? (i := 20) rfl)) msX5_isOnMat mini_RX5 rfl rfl hdX5_isOnMat ⟨Nat.le_of_ble_eq_true rfl, Nat.le_of_ble_eq_true rfl⟩) rfl hl.1 rfl (Nat.le_of_ble_eq_true rfl) (by decide) (dk kX5_landing_0_ok 27 rfl) ?_
        refine b_if_ne (tgt := 85) hx hb (dk kX5_landing_0_ok 28 rfl) (by decide) (fun h2 => ?_) (fun h2 => ?_)
        · skip
          refine lv_iload_n hx hb (dk kX5_landing_0_ok 49 rfl) rfl (lv_at hl 3 rfl) ?_
          refine lv_iload hx hb (dk kX5_landing_0_ok 50 rfl) (lv_at hl 5 rfl) ?_
          refine lv_iadd hx hb (dk kX5_landing_0_ok 51 rfl) ?_
          refine lv_istore_n (lv' := [(3, .int (x + u)), (0, .int q), (1, .int d), (2, .int (nI f)), (4, .int y), (5, .int u), (6, .int v), (7, .int (bI b)), (8, .int (nI i))]) hx hb (dk kX5_landing_0_ok 52 rfl) rfl hl (by decide) rfl (fun ls hl => ?_)
          refine lv_iload hx hb (dk kX5_landing_0_ok 53 rfl) (lv_at hl 4 rfl) ?_
          refine lv_iload hx hb (dk kX5_landing_0_ok 54 rfl) (lv_at hl 6 rfl) ?_
          refine lv_iadd hx hb (dk kX5_landing_0_ok 55 rfl) ?_
          refine lv_istore (lv' := [(4, .int (y + v)), (3, .int (x + u)), (0, .int q), (1, .int d), (2, .int (nI f)), (5, .int u), (6, .int v), (7, .int (bI b)), (8, .int (nI i))]) hx hb (dk kX5_landing_0_ok 56 rfl) hl (by decide) rfl (fun ls hl => ?_)
          refine lv_iinc (v := nI (i + 1)) (lv' := [(8, .int (nI (i + 1))), (4, .int (y + v)), (3, .int (x + u)), (0, .int q), (1, .int d), (2, .int (nI f)), (5, .int u), (6, .int v), (7, .int (bI b))]) hx hb (dk kX5_landing_0_ok 57 rfl) hl (k := 8) rfl (n_inc _) (by decide) rfl (fun ls hl => ?_)
          refine lv_goto (tgt := 29) hx hb (dk kX5_landing_0_ok 58 rfl) (by decide) ?_
          exact ih29 (i + 1) (x + u) (y + v) u v b _ (by rfl) (by omega) (by rw [hr, show f - i = (f - (i + 1)) + 1 by omega]; simp [ldL, h1, h2]) (by omega) ls (lv_sub hl [3, 4, 5, 2, 1, 6, 7, 8, 0] rfl)
        · skip
          refine lv_iload hx hb (dk kX5_landing_0_ok 29 rfl) (lv_at hl 5 rfl) ?_
          refine lv_ineg hx hb (dk kX5_landing_0_ok 30 rfl) ?_
          refine lv_istore (lv' := [(5, .int (-u)), (0, .int q), (1, .int d), (2, .int (nI f)), (3, .int x), (4, .int y), (6, .int v), (7, .int (bI b)), (8, .int (nI i))]) hx hb (dk kX5_landing_0_ok 31 rfl) hl (by decide) rfl (fun ls hl => ?_)
          refine lv_iload hx hb (dk kX5_landing_0_ok 32 rfl) (lv_at hl 6 rfl) ?_
          refine lv_ineg hx hb (dk kX5_landing_0_ok 33 rfl) ?_
          refine lv_istore (lv' := [(6, .int (-v)), (5, .int (-u)), (0, .int q), (1, .int d), (2, .int (nI f)), (3, .int x), (4, .int y), (7, .int (bI b)), (8, .int (nI i))]) hx hb (dk kX5_landing_0_ok 34 rfl) hl (by decide) rfl (fun ls hl => ?_)
          refine lv_iload hx hb (dk kX5_landing_0_ok 35 rfl) (lv_at hl 7 rfl) ?_
          refine b_if_ne (tgt := 80) hx hb (dk kX5_landing_0_ok 36 rfl) (by decide) (fun h3 => ?_) (fun h3 => ?_)
          · skip
            refine lv_iconst (v := -1) hx hb (dk kX5_landing_0_ok 45 rfl) rfl ?_
            exact hret _ _ _ (by first | (rw [hr, show f - i = (f - (i + 1)) + 1 by omega]; simp [ldL, h1, h2, h3]; done) | (rw [hr, show f - i = 0 by omega]; rfl)) (dk kX5_landing_0_ok 46 rfl)
          · skip
            refine lv_iload_n hx hb (dk kX5_landing_0_ok 37 rfl) rfl (lv_at hl 5 rfl) ?_
            refine lv_iload hx hb (dk kX5_landing_0_ok 38 rfl) (lv_at hl 1 rfl) ?_
            refine lv_iadd hx hb (dk kX5_landing_0_ok 39 rfl) ?_
            refine lv_iload hx hb (dk kX5_landing_0_ok 40 rfl) (lv_at hl 6 rfl) ?_
            refine lv_iload hx hb (dk kX5_landing_0_ok 41 rfl) (lv_at hl 0 rfl) ?_
            refine lv_iadd hx hb (dk kX5_landing_0_ok 42 rfl) ?_
            refine csP (As := [.int (x + (-u)), .int (y + (-v))]) (rest := []) ⟨hx, hb, hml, hown, hts⟩ (tX5_isOnMat l (x + (-u)) (y + (-v))) (cwS9 2 hts mcX5_isOnMat (ac5 _ (List.mem_of_getElem? (i := 20) rfl)) msX5_isOnMat mini_RX5 rfl rfl hdX5_isOnMat ⟨Nat.le_of_ble_eq_true rfl, Nat.le_of_ble_eq_true rfl⟩) rfl hl.1 rfl (Nat.le_of_ble_eq_true rfl) (by decide) (dk kX5_landing_0_ok 43 rfl) ?_
            refine b_if_ne (tgt := 82) hx hb (dk kX5_landing_0_ok 44 rfl) (by decide) (fun h4 => ?_) (fun h4 => ?_)
            · skip
              refine lv_iconst (v := nI 1) hx hb (dk kX5_landing_0_ok 47 rfl) rfl ?_
              refine lv_istore (lv' := [(7, .int (nI 1)), (6, .int (-v)), (5, .int (-u)), (0, .int q), (1, .int d), (2, .int (nI f)), (3, .int x), (4, .int y), (8, .int (nI i))]) hx hb (dk kX5_landing_0_ok 48 rfl) hl (by decide) rfl (fun ls hl => ?_)
              refine lv_iload_n hx hb (dk kX5_landing_0_ok 49 rfl) rfl (lv_at hl 6 rfl) ?_
              refine lv_iload hx hb (dk kX5_landing_0_ok 50 rfl) (lv_at hl 2 rfl) ?_
              refine lv_iadd hx hb (dk kX5_landing_0_ok 51 rfl) ?_
              refine lv_istore_n (lv' := [(3, .int (x + (-u))), (7, .int (nI 1)), (6, .int (-v)), (5, .int (-u)), (0, .int q), (1, .int d), (2, .int (nI f)), (4, .int y), (8, .int (nI i))]) hx hb (dk kX5_landing_0_ok 52 rfl) rfl hl (by decide) rfl (fun ls hl => ?_)
              refine lv_iload hx hb (dk kX5_landing_0_ok 53 rfl) (lv_at hl 7 rfl) ?_
              refine lv_iload hx hb (dk kX5_landing_0_ok 54 rfl) (lv_at hl 2 rfl) ?_
              refine lv_iadd hx hb (dk kX5_landing_0_ok 55 rfl) ?_
              refine lv_istore (lv' := [(4, .int (y + (-v))), (3, .int (x + (-u))), (7, .int (nI 1)), (6, .int (-v)), (5, .int (-u)), (0, .int q), (1, .int d), (2, .int (nI f)), (8, .int (nI i))]) hx hb (dk kX5_landing_0_ok 56 rfl) hl (by decide) rfl (fun ls hl => ?_)
              refine lv_iinc (v := nI (i + 1)) (lv' := [(8, .int (nI (i + 1))), (4, .int (y + (-v))), (3, .int (x + (-u))), (7, .int (nI 1)), (6, .int (-v)), (5, .int (-u)), (0, .int q), (1, .int d), (2, .int (nI f))]) hx hb (dk kX5_landing_0_ok 57 rfl) hl (k := 8) rfl (n_inc _) (by decide) rfl (fun ls hl => ?_)
              refine lv_goto (tgt := 29) hx hb (dk kX5_landing_0_ok 58 rfl) (by decide) ?_
              exact ih29 (i + 1) (x + (-u)) (y + (-v)) (-u) (-v) true _ (by rfl) (by omega) (by rw [hr, show f - i = (f - (i + 1)) + 1 by omega]; simp [ldL, h1, h2, h3, h4]) (by omega) ls (lv_sub hl [6, 7, 8, 2, 1, 5, 4, 3, 0] rfl)
            · skip
              refine lv_iconst (v := -1) hx hb (dk kX5_landing_0_ok 45 rfl) rfl ?_
              exact hret _ _ _ (by first | (rw [hr, show f - i = (f - (i + 1)) + 1 by omega]; simp [ldL, h1, h2, h3, h4]; done) | (rw [hr, show f - i = 0 by omega]; rfl)) (dk kX5_landing_0_ok 46 rfl)
  exact L29 _ 0 (q - q / nI 13 * nI 13) (q / nI 13) (ea d) (so d) false _ (by first | rfl | omega) (by first | rfl | omega) (by first | rfl | omega) (Nat.lt_succ_self _) ls (lv_sub hl [6, 7, 8, 5, 4, 3, 2, 1, 0] rfl)
set_option maxRecDepth 100000 in
set_option maxHeartbeats 4000000 in
theorem tX5_restingCell (l : Launch) (x : Int32) (w : Nat) (hxw : x = nI w) (hw : w < 16) (q : Int32) : MP l yX5_restingCell (Cond.code yX5_restingCell cX5_restingCell 2 (some .int) :: AW) ({ frames := 2, cells := 0, slots := 0, locals := 41 } : Room) [.int x, .int q] (.int (rest9 w q)) := by
  refine mp_i (ty := .int) (by decide +kernel) rfl rfl rfl rfl (Nat.le_of_ble_eq_true rfl) (fun p e s m below meth cd Q ls hx hb hml hown hts hret hl => ?_)
  have hown : s.vm.findClass RX5 = some m.cls := hown
  subst hxw
  have hl : lv_has ls 2 [(0, .int (nI w)), (1, .int q)] := hl
  refine lv_iload_n hx hb (dk kX5_restingCell_ok 0 rfl) rfl (lv_at hl 1 rfl) ?_
  refine lv_iconst (v := -1) hx hb (dk kX5_restingCell_ok 1 rfl) rfl ?_
  refine lv_icmp_ne (tgt := 15) hx hb (dk kX5_restingCell_ok 2 rfl) (by decide) (fun h1 => ?_) (fun h1 => ?_)
  · skip
    refine lv_iload_n hx hb (dk kX5_restingCell_ok 7 rfl) rfl (lv_at hl 1 rfl) ?_
    exact hret _ _ _ (by simp [rest9, h1]) (dk kX5_restingCell_ok 8 rfl)
  · skip
    refine lv_iload_n hx hb (dk kX5_restingCell_ok 3 rfl) rfl (lv_at hl 0 rfl) ?_
    refine csP (As := [.int (nI w)]) (rest := []) ⟨hx, hb, hml, hown, hts⟩ (tX5_colourOf l (nI w) w rfl (by omega)) (cwS9 1 hts mcX5_colourOf (ac7 _ (List.mem_of_getElem? (i := 2) rfl)) msX5_colourOf mini_RX5 rfl rfl hdX5_colourOf ⟨Nat.le_of_ble_eq_true rfl, Nat.le_of_ble_eq_true rfl⟩) rfl hl.1 rfl (Nat.le_of_ble_eq_true rfl) (by decide) (dk kX5_restingCell_ok 4 rfl) ?_
    refine csP (As := [.int (nI (w / 4))]) (rest := []) ⟨hx, hb, hml, hown, hts⟩ (tX5_baseOf l (nI (w / 4)) (w / 4) rfl (by omega)) (cwS9 1 hts mcX5_baseOf (ac7 _ (List.mem_of_getElem? (i := 3) rfl)) msX5_baseOf mini_RX5 rfl rfl hdX5_baseOf ⟨Nat.le_of_ble_eq_true rfl, Nat.le_of_ble_eq_true rfl⟩) rfl hl.1 rfl (Nat.le_of_ble_eq_true rfl) (by decide) (dk kX5_restingCell_ok 5 rfl) ?_
    refine lv_goto (tgt := 16) hx hb (dk kX5_restingCell_ok 6 rfl) (by decide) ?_
    exact hret _ _ _ (by simp [rest9, h1]) (dk kX5_restingCell_ok 8 rfl)
set_option maxRecDepth 100000 in
set_option maxHeartbeats 4000000 in
theorem tX5_flightAnswer (l : Launch) (q : Int32) : MP l yX5_flightAnswer (Cond.code yX5_flightAnswer cX5_flightAnswer 1 (some .int) :: AW) ({ frames := 0, cells := 0, slots := 0, locals := 0 } : Room) [.int q] (.int (fans q)) := by
  refine mp_i (ty := .int) (by decide +kernel) rfl rfl rfl rfl (Nat.le_of_ble_eq_true rfl) (fun p e s m below meth cd Q ls hx hb hml hown hts hret hl => ?_)
  have hown : s.vm.findClass RX5 = some m.cls := hown
  have hl : lv_has ls 1 [(0, .int q)] := hl
  refine lv_iload_n hx hb (dk kX5_flightAnswer_ok 0 rfl) rfl (lv_at hl 0 rfl) ?_
  refine lv_bipush (v := nI 84) hx hb (dk kX5_flightAnswer_ok 1 rfl) rfl ?_
  refine lv_icmp_ne (tgt := 12) hx hb (dk kX5_flightAnswer_ok 2 rfl) (by decide) (fun h1 => ?_) (fun h1 => ?_)
  · skip
    refine lv_iload_n hx hb (dk kX5_flightAnswer_ok 5 rfl) rfl (lv_at hl 0 rfl) ?_
    exact hret _ _ _ (by simp [fans, h1]) (dk kX5_flightAnswer_ok 6 rfl)
  · skip
    refine lv_sipush (v := nI 169) hx hb (dk kX5_flightAnswer_ok 3 rfl) rfl ?_
    refine lv_goto (tgt := 13) hx hb (dk kX5_flightAnswer_ok 4 rfl) (by decide) ?_
    exact hret _ _ _ (by simp [fans, h1]) (dk kX5_flightAnswer_ok 6 rfl)
set_option maxRecDepth 100000 in
set_option maxHeartbeats 4000000 in
theorem tX5_colourOf_r (l : Launch) (x : Int32) : MP l yX5_colourOf (Cond.code yX5_colourOf cX5_colourOf 1 (some .int) :: AW) ({ frames := 0, cells := 0, slots := 0, locals := 0 } : Room) [.int x] (.int (x / nI 4)) := by
  refine mp_i (ty := .int) (by decide +kernel) rfl rfl rfl rfl (Nat.le_of_ble_eq_true rfl) (fun p e s m below meth cd Q ls hx hb hml hown hts hret hl => ?_)
  have hown : s.vm.findClass RX5 = some m.cls := hown
  have hl : lv_has ls 1 [(0, .int x)] := hl
  refine lv_iload_n hx hb (dk kX5_colourOf_ok 0 rfl) rfl (lv_at hl 0 rfl) ?_
  refine lv_iconst (v := nI 4) hx hb (dk kX5_colourOf_ok 1 rfl) rfl ?_
  refine lv_idiv hx hb (dk kX5_colourOf_ok 2 rfl) (by decide) ?_
  exact hret _ _ _ (by rfl) (dk kX5_colourOf_ok 3 rfl)
