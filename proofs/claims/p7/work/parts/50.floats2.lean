set_option maxRecDepth 100000 in
set_option maxHeartbeats 4000000 in
theorem tJxf58ca_isNaN_12338 (l : Launch) (x : UInt32) (hn : Op.cmpValue (FP.fcmp x x) .l = 0) : MP l yJxf58ca_isNaN_12338 (Cond.code yJxf58ca_isNaN_12338 cJxf58ca_isNaN_12338 1 (some .boolean) :: AW) ({ frames := 0, cells := 0, slots := 0, locals := 0 } : Room) [.float x] (.int (nI 0)) := by
  refine mp_iF (ty := .boolean) (by decide +kernel) rfl rfl (Nat.le_of_ble_eq_true rfl) (fun p e s m below meth cd Q ls hx hb hml hown hts hret hl => ?_)
  have hown : s.vm.findClass RJxf58ca = some m.cls := hown
  have hl : lv_has ls 1 [(0, .float x)] := hl
  refine lv_fload_n hx hb (dk kJxf58ca_isNaN_12338_ok 0 rfl) rfl (lv_at hl 0 rfl) ?_
  refine lv_fload_n hx hb (dk kJxf58ca_isNaN_12338_ok 1 rfl) rfl (lv_at hl 0 rfl) ?_
  refine lv_fcmp hx hb (dk kJxf58ca_isNaN_12338_ok 2 rfl) ?_
  refine lv_if_eq (tgt := 10) hx hb (dk kJxf58ca_isNaN_12338_ok 3 rfl) (by decide) (fun h1 => ?_) (fun h1 => ?_)
  · skip
    refine lv_iconst (v := nI 0) hx hb (dk kJxf58ca_isNaN_12338_ok 6 rfl) rfl ?_
    exact hret _ _ _ (by rfl) (dk kJxf58ca_isNaN_12338_ok 7 rfl)
  · exact absurd hn h1
set_option maxRecDepth 100000 in
set_option maxHeartbeats 4000000 in
theorem tJxf58ca_floatToIntBits_5c35a (l : Launch) (x : UInt32) (hn : Op.cmpValue (FP.fcmp x x) .l = 0) : MP l yJxf58ca_floatToIntBits_5c35a (Cond.code yJxf58ca_floatToIntBits_5c35a cJxf58ca_floatToIntBits_5c35a 1 (some .int) :: AW) ({ frames := 1, cells := 0, slots := 0, locals := 20 } : Room) [.float x] (.int ((x).toInt32)) := by
  refine mp_iF (ty := .int) (by decide +kernel) rfl rfl (Nat.le_of_ble_eq_true rfl) (fun p e s m below meth cd Q ls hx hb hml hown hts hret hl => ?_)
  have hown : s.vm.findClass RJxf58ca = some m.cls := hown
  have hl : lv_has ls 1 [(0, .float x)] := hl
  refine lv_fload_n hx hb (dk kJxf58ca_floatToIntBits_5c35a_ok 0 rfl) rfl (lv_at hl 0 rfl) ?_
  refine csP (As := [.float x]) (rest := []) ⟨hx, hb, hml, hown, hts⟩ (tJxf58ca_isNaN_12338 l x hn) (cwS9 1 hts mcJxf58ca_isNaN_12338 (ac26 _ (List.mem_of_getElem? (i := 2) rfl)) msJxf58ca_isNaN_12338 mini_RJxf58ca rfl rfl hdJxf58ca_isNaN_12338 ⟨Nat.le_of_ble_eq_true rfl, Nat.le_of_ble_eq_true rfl⟩) rfl hl.1 rfl (Nat.le_of_ble_eq_true rfl) (by decide) (dk kJxf58ca_floatToIntBits_5c35a_ok 1 rfl) ?_
  refine n_if_ne (tgt := 12) hx hb (by decide) (dk kJxf58ca_floatToIntBits_5c35a_ok 2 rfl) (by decide) (fun h9 => absurd h9 (by decide)) ?_
  intro _
  refine lv_fload_n hx hb (dk kJxf58ca_floatToIntBits_5c35a_ok 3 rfl) rfl (lv_at hl 0 rfl) ?_
  refine vn_f2i hx hb (by rw [hml, hl.1]) hown (hts _ (List.mem_cons_of_mem _ (ac25 _ (List.mem_of_getElem? (i := 21) rfl)))) (hts _ (List.mem_cons_of_mem _ (ac25 _ (List.mem_of_getElem? (i := 22) rfl)))) (hts _ (List.mem_cons_of_mem _ (ac25 _ (List.mem_of_getElem? (i := 23) rfl)))) (hts _ (List.mem_cons_of_mem _ (ac26 _ (List.mem_of_getElem? (i := 0) rfl)))) (Nat.le_of_ble_eq_true rfl) (Nat.le_of_ble_eq_true rfl) (dk kJxf58ca_floatToIntBits_5c35a_ok 4 rfl) ?_
  exact hret _ _ _ (by rfl) (dk kJxf58ca_floatToIntBits_5c35a_ok 5 rfl)
