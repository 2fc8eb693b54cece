theorem mini_RJxe99ae : Cond.initialized RJxe99ae ∈ AW := ac25 _ (List.mem_of_getElem? (i := 19) rfl)
theorem mini_RJxf58ca : Cond.initialized RJxf58ca ∈ AW := ac26 _ (List.mem_of_getElem? (i := 4) rfl)
set_option maxRecDepth 100000 in
set_option maxHeartbeats 4000000 in
theorem tJxe99ae_isNaN_b9ae7 (l : Launch) (x : UInt64) (hn : Op.cmpValue (FP.dcmp x x) .l = 0) : MP l yJxe99ae_isNaN_b9ae7 (Cond.code yJxe99ae_isNaN_b9ae7 cJxe99ae_isNaN_b9ae7 2 (some .boolean) :: AW) ({ frames := 0, cells := 0, slots := 0, locals := 0 } : Room) [.double x] (.int (nI 0)) := by
  refine mp_i (ty := .boolean) (by decide +kernel) rfl rfl rfl rfl (Nat.le_of_ble_eq_true rfl) (fun p e s m below meth cd Q ls hx hb hml hown hts hret hl => ?_)
  have hown : s.vm.findClass RJxe99ae = some m.cls := hown
  have hl : lv_has ls 2 [(0, .double x)] := hl
  refine lv_dload_n hx hb (dk kJxe99ae_isNaN_b9ae7_ok 0 rfl) rfl (lv_at hl 0 rfl) ?_
  refine lv_dload_n hx hb (dk kJxe99ae_isNaN_b9ae7_ok 1 rfl) rfl (lv_at hl 0 rfl) ?_
  refine lv_dcmp hx hb (dk kJxe99ae_isNaN_b9ae7_ok 2 rfl) ?_
  refine lv_if_eq (tgt := 10) hx hb (dk kJxe99ae_isNaN_b9ae7_ok 3 rfl) (by decide) (fun h1 => ?_) (fun h1 => ?_)
  · skip
    refine lv_iconst (v := nI 0) hx hb (dk kJxe99ae_isNaN_b9ae7_ok 6 rfl) rfl ?_
    exact hret _ _ _ (by rfl) (dk kJxe99ae_isNaN_b9ae7_ok 7 rfl)
  · exact absurd hn h1
set_option maxRecDepth 100000 in
set_option maxHeartbeats 4000000 in
theorem tJxe99ae_doubleToLongBits_ccdee (l : Launch) (x : UInt64) (hn : Op.cmpValue (FP.dcmp x x) .l = 0) : MP l yJxe99ae_doubleToLongBits_ccdee (Cond.code yJxe99ae_doubleToLongBits_ccdee cJxe99ae_doubleToLongBits_ccdee 2 (some .long) :: AW) ({ frames := 1, cells := 0, slots := 0, locals := 21 } : Room) [.double x] (.long ((x).toInt64)) := by
  refine mp_l (by decide +kernel) rfl (Nat.le_of_ble_eq_true rfl) (fun p e s m below meth cd Q ls hx hb hml hown hts hret hl => ?_)
  have hown : s.vm.findClass RJxe99ae = some m.cls := hown
  have hl : lv_has ls 2 [(0, .double x)] := hl
  refine lv_dload_n hx hb (dk kJxe99ae_doubleToLongBits_ccdee_ok 0 rfl) rfl (lv_at hl 0 rfl) ?_
  refine csP (As := [.double x]) (rest := []) ⟨hx, hb, hml, hown, hts⟩ (tJxe99ae_isNaN_b9ae7 l x hn) (cwS9 1 hts mcJxe99ae_isNaN_b9ae7 (ac25 _ (List.mem_of_getElem? (i := 17) rfl)) msJxe99ae_isNaN_b9ae7 mini_RJxe99ae rfl rfl hdJxe99ae_isNaN_b9ae7 ⟨Nat.le_of_ble_eq_true rfl, Nat.le_of_ble_eq_true rfl⟩) rfl hl.1 rfl (Nat.le_of_ble_eq_true rfl) (by decide) (dk kJxe99ae_doubleToLongBits_ccdee_ok 1 rfl) ?_
  refine n_if_ne (tgt := 12) hx hb (by decide) (dk kJxe99ae_doubleToLongBits_ccdee_ok 2 rfl) (by decide) (fun h9 => absurd h9 (by decide)) ?_
  intro _
  refine lv_dload_n hx hb (dk kJxe99ae_doubleToLongBits_ccdee_ok 3 rfl) rfl (lv_at hl 0 rfl) ?_
  refine vn_d2l hx hb (by rw [hml, hl.1]) hown (hts _ (List.mem_cons_of_mem _ (ac25 _ (List.mem_of_getElem? (i := 12) rfl)))) (hts _ (List.mem_cons_of_mem _ (ac25 _ (List.mem_of_getElem? (i := 13) rfl)))) (hts _ (List.mem_cons_of_mem _ (ac25 _ (List.mem_of_getElem? (i := 14) rfl)))) (hts _ (List.mem_cons_of_mem _ (ac25 _ (List.mem_of_getElem? (i := 15) rfl)))) (Nat.le_of_ble_eq_true rfl) (Nat.le_of_ble_eq_true rfl) (dk kJxe99ae_doubleToLongBits_ccdee_ok 4 rfl) ?_
  exact hret _ _ _ (by rfl) (dk kJxe99ae_doubleToLongBits_ccdee_ok 5 rfl)
