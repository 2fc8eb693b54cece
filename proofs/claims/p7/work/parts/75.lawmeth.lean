set_option maxRecDepth 100000 in
set_option maxHeartbeats 4000000 in
theorem tL_fly (l : Launch) (D : va_G) (cI cQ cL : ClassId) (ad : Nat → Nat) (N : Nat) (F : Nat → va_E) (hN : 85 < N) (fs : List Value) (hF0 : F 0 = .inr (5, fs)) (a1 a2 a3 : Int32) (G : Nat → va_E) (o : Nat → Int64) (hG : G 85 = .inl (cL, 1, .inr (.inl o))) (r : Int32) {rm : Room} (hM : MX l yX5_fly (Cond.code yX5_fly cX5_fly 4 (some .int) :: AW) rm D cI cQ cL ad N F [.ref (ad 0), .int a1, .int a2, .int a3] (dp (some (.int r)) G) 0 0) (hrc : rm.cells = 0) (hrs : rm.slots = 0) (hfr : rm.frames + 1 ≤ 12) (hlo : 8 + (4 + 11) + rm.locals ≤ 450) : ML l yL_fly (Cond.codeWith yL_fly cL_fly 6 (some .int) [(0, 12, 15, 13), (0, 12, 19, 15), (0, 12, 23, 17)] :: LW) ({ frames := 12, cells := 1, slots := 6, locals := 450 } : Room) D cI cQ cL ad N F [.ref (ad 0), .int a1, .int a2, .int a3, .ref (ad 85)] (nI 0) (va_up G 85 (.inl (cL, 1, .inr (.inl (vp_updL o 0 r.toInt64))))) 1 6 := by
  refine ml_of (by decide +kernel) (Nat.le_of_ble_eq_true rfl) (fun p e s m below meth cd Q ls hx hb hml hown hts htab hDi hP hK hNW hS hX hXN hret hl => ?_)
  have hown : s.vm.findClass RL = some m.cls := hown
  have hl : lv_has ls 6 [(0, .ref (ad 0)), (1, .int a1), (2, .int a2), (3, .int a3), (4, .ref (ad 85))] := hl
  refine lv_aload hx hb (dk kL_fly_ok 0 rfl) (lv_at hl 4 rfl) ?_
  refine lv_iconst (v := nI 0) hx hb (dk kL_fly_ok 1 rfl) rfl ?_
  refine lv_aload_n hx hb (dk kL_fly_ok 2 rfl) rfl (lv_at hl 0 rfl) ?_
  refine lv_iload_n hx hb (dk kL_fly_ok 3 rfl) rfl (lv_at hl 1 rfl) ?_
  refine lv_iload_n hx hb (dk kL_fly_ok 4 rfl) rfl (lv_at hl 2 rfl) ?_
  refine lv_iload_n hx hb (dk kL_fly_ok 5 rfl) rfl (lv_at hl 3 rfl) ?_
  refine cvD G (As := [.int a1, .int a2, .int a3]) (rest := [.int (nI 0), .ref (ad 85)]) ⟨hx, hb, hml, hown, hts⟩ hM (cwVL 3 hts mcX5_fly (lc0 _ (List.mem_of_getElem? (i := 3) rfl)) miX5_fly meX5_fly mini_RX5 hrc hrs hdX5_fly ⟨hfr, hlo⟩) hDi hK hP hNW hS (k := 0) (by omega) hF0 rfl rfl hl.1 rfl (Nat.le_of_ble_eq_true rfl) ⟨Nat.le_of_ble_eq_true rfl, Nat.le_of_ble_eq_true rfl⟩ (dk kL_fly_ok 6 rfl) rfl (fun H locs hP hS => ?_)
  refine lv_i2l (v := r.toInt64) hx hb (dk kL_fly_ok 7 rfl) rfl ?_
  refine lst _ (k := 85) hx hb hK hDi hP hS hN hG (dk kL_fly_ok 8 rfl) rfl (fun H locs hP hS => ?_)
  refine lv_goto (tgt := 27) hx hb (dk kL_fly_ok 9 rfl) (by decide) ?_
  refine lv_iconst (v := nI 0) hx hb (dk kL_fly_ok 19 rfl) rfl ?_
  exact hret _ _ _ _ _ _ hP hS (by decide) (by decide) (dk kL_fly_ok 20 rfl)
set_option maxRecDepth 100000 in
set_option maxHeartbeats 4000000 in
theorem tL_fly_x (l : Launch) (D : va_G) (cI cQ cL : ClassId) (ad : Nat → Nat) (N : Nat) (F : Nat → va_E) (hN : 85 < N) (fs : List Value) (hF0 : F 0 = .inr (5, fs)) (a1 a2 a3 : Int32) (E : String) (kk : Nat) (hE : (E = eI ∧ kk = 1) ∨ (E = eA ∧ kk = 2) ∨ (E = eS ∧ kk = 3)) {rm : Room} (hM : MT l yX5_fly (Cond.code yX5_fly cX5_fly 4 (some .int) :: AW) rm D cI cQ cL ad N F [.ref (ad 0), .int a1, .int a2, .int a3] E 1 6) (hrc : rm.cells = 1) (hrs : rm.slots = 6) (hfr : rm.frames + 1 ≤ 12) (hlo : 8 + (4 + 11) + rm.locals ≤ 450) : ML l yL_fly (Cond.codeWith yL_fly cL_fly 6 (some .int) [(0, 12, 15, 13), (0, 12, 19, 15), (0, 12, 23, 17)] :: LW) ({ frames := 12, cells := 1, slots := 6, locals := 450 } : Room) D cI cQ cL ad N F [.ref (ad 0), .int a1, .int a2, .int a3, .ref (ad 85)] (nI kk) F 1 6 := by
  refine ml_of (by decide +kernel) (Nat.le_of_ble_eq_true rfl) (fun p e s m below meth cd Q ls hx hb hml hown hts htab hDi hP hK hNW hS hX hXN hret hl => ?_)
  have hown : s.vm.findClass RL = some m.cls := hown
  have hl : lv_has ls 6 [(0, .ref (ad 0)), (1, .int a1), (2, .int a2), (3, .int a3), (4, .ref (ad 85))] := hl
  refine lv_aload hx hb (dk kL_fly_ok 0 rfl) (lv_at hl 4 rfl) ?_
  refine lv_iconst (v := nI 0) hx hb (dk kL_fly_ok 1 rfl) rfl ?_
  refine lv_aload_n hx hb (dk kL_fly_ok 2 rfl) rfl (lv_at hl 0 rfl) ?_
  refine lv_iload_n hx hb (dk kL_fly_ok 3 rfl) rfl (lv_at hl 1 rfl) ?_
  refine lv_iload_n hx hb (dk kL_fly_ok 4 rfl) rfl (lv_at hl 2 rfl) ?_
  refine lv_iload_n hx hb (dk kL_fly_ok 5 rfl) rfl (lv_at hl 3 rfl) ?_
  refine cvT (As := [.int a1, .int a2, .int a3]) (rest := [.int (nI 0), .ref (ad 85)]) ⟨hx, hb, hml, hown, hts⟩ hM (cwVL 3 hts mcX5_fly (lc0 _ (List.mem_of_getElem? (i := 3) rfl)) miX5_fly meX5_fly mini_RX5 hrc hrs hdX5_fly ⟨hfr, hlo⟩) hDi hK hP hNW hS hX (k := 0) (by omega) hF0 rfl rfl hl.1 rfl (Nat.le_of_ble_eq_true rfl) ⟨Nat.le_of_ble_eq_true rfl, Nat.le_of_ble_eq_true rfl⟩ (dk kL_fly_ok 6 rfl) (fun H locs q ce hP hS hq hcv hcl => ?_)
  rcases hE with ⟨rfl, rfl⟩ | ⟨rfl, rfl⟩ | ⟨rfl, rfl⟩
  · refine vx_catch (name := "java/lang/IndexOutOfBoundsException") hown [] ⟨0, 12, 15, 13⟩ [⟨0, 12, 19, 15⟩, ⟨0, 12, 23, 17⟩] (by rw [htab]; rfl) ?_ (by decide) (by decide) (hts _ (lc0 _ (List.mem_of_getElem? (i := 0) rfl))) (XWc hX (List.mem_of_getElem? (i := 2) rfl)) hq hcv hcl ?_
    · exact fun z hz => nomatch hz
    · refine lv_astore (lv' := [(5, .ref q), (0, .ref (ad 0)), (1, .int a1), (2, .int a2), (3, .int a3), (4, .ref (ad 85))]) hx hb (dk kL_fly_ok 10 rfl) hl (by decide) rfl (fun ls hl => ?_)
      refine lv_iconst (v := nI 1) hx hb (dk kL_fly_ok 11 rfl) rfl ?_
      exact hret _ _ _ _ _ _ hP hS (by decide) (by decide) (dk kL_fly_ok 12 rfl)
  · refine vx_catch (name := "java/lang/IllegalArgumentException") hown [⟨0, 12, 15, 13⟩] ⟨0, 12, 19, 15⟩ [⟨0, 12, 23, 17⟩] (by rw [htab]; rfl) ?_ (by decide) (by decide) (hts _ (lc0 _ (List.mem_of_getElem? (i := 1) rfl))) (XWc hX (List.mem_of_getElem? (i := 1) rfl)) hq hcv hcl ?_
    · intro z hz
      rcases List.mem_singleton.mp hz with rfl
      · exact Or.inr ⟨by decide, "java/lang/IndexOutOfBoundsException", hts _ (lc0 _ (List.mem_of_getElem? (i := 0) rfl)), XNn hXN (List.mem_of_getElem? (i := 4) rfl)⟩
    · refine lv_astore (lv' := [(5, .ref q), (0, .ref (ad 0)), (1, .int a1), (2, .int a2), (3, .int a3), (4, .ref (ad 85))]) hx hb (dk kL_fly_ok 13 rfl) hl (by decide) rfl (fun ls hl => ?_)
      refine lv_iconst (v := nI 2) hx hb (dk kL_fly_ok 14 rfl) rfl ?_
      exact hret _ _ _ _ _ _ hP hS (by decide) (by decide) (dk kL_fly_ok 15 rfl)
  · refine vx_catch (name := "java/lang/IllegalStateException") hown [⟨0, 12, 15, 13⟩, ⟨0, 12, 19, 15⟩] ⟨0, 12, 23, 17⟩ [] (by rw [htab]; rfl) ?_ (by decide) (by decide) (hts _ (lc0 _ (List.mem_of_getElem? (i := 2) rfl))) (XWc hX (List.mem_of_getElem? (i := 0) rfl)) hq hcv hcl ?_
    · intro z hz
      rcases (by simpa using hz : z = ⟨0, 12, 15, 13⟩ ∨ z = ⟨0, 12, 19, 15⟩) with rfl | rfl
      · exact Or.inr ⟨by decide, "java/lang/IndexOutOfBoundsException", hts _ (lc0 _ (List.mem_of_getElem? (i := 0) rfl)), XNn hXN (List.mem_of_getElem? (i := 2) rfl)⟩
      · exact Or.inr ⟨by decide, "java/lang/IllegalArgumentException", hts _ (lc0 _ (List.mem_of_getElem? (i := 1) rfl)), XNn hXN (List.mem_of_getElem? (i := 3) rfl)⟩
    · refine lv_astore (lv' := [(5, .ref q), (0, .ref (ad 0)), (1, .int a1), (2, .int a2), (3, .int a3), (4, .ref (ad 85))]) hx hb (dk kL_fly_ok 16 rfl) hl (by decide) rfl (fun ls hl => ?_)
      refine lv_iconst (v := nI 3) hx hb (dk kL_fly_ok 17 rfl) rfl ?_
      exact hret _ _ _ _ _ _ hP hS (by decide) (by decide) (dk kL_fly_ok 18 rfl)
set_option maxRecDepth 100000 in
set_option maxHeartbeats 4000000 in
theorem tL_lift (l : Launch) (D : va_G) (cI cQ cL : ClassId) (ad : Nat → Nat) (N : Nat) (F : Nat → va_E) (hN : 85 < N) (fs : List Value) (hF0 : F 0 = .inr (5, fs)) (a1 a2 a3 a4 : Int32) (G : Nat → va_E) (o : Nat → Int64) (hG : G 85 = .inl (cL, 1, .inr (.inl o))) (r : Int32) {rm : Room} (hM : MX l yX5_lift (Cond.code yX5_lift cX5_lift 5 (some .int) :: AW) rm D cI cQ cL ad N F [.ref (ad 0), .int a1, .int a2, .int a3, .int a4] (dp (some (.int r)) G) 0 0) (hrc : rm.cells = 0) (hrs : rm.slots = 0) (hfr : rm.frames + 1 ≤ 12) (hlo : 8 + (5 + 11) + rm.locals ≤ 450) : ML l yL_lift (Cond.codeWith yL_lift cL_lift 7 (some .int) [(0, 14, 17, 13), (0, 14, 21, 15), (0, 14, 25, 17)] :: LW) ({ frames := 12, cells := 1, slots := 6, locals := 450 } : Room) D cI cQ cL ad N F [.ref (ad 0), .int a1, .int a2, .int a3, .int a4, .ref (ad 85)] (nI 0) (va_up G 85 (.inl (cL, 1, .inr (.inl (vp_updL o 0 r.toInt64))))) 1 6 := by
  refine ml_of (by decide +kernel) (Nat.le_of_ble_eq_true rfl) (fun p e s m below meth cd Q ls hx hb hml hown hts htab hDi hP hK hNW hS hX hXN hret hl => ?_)
  have hown : s.vm.findClass RL = some m.cls := hown
  have hl : lv_has ls 7 [(0, .ref (ad 0)), (1, .int a1), (2, .int a2), (3, .int a3), (4, .int a4), (5, .ref (ad 85))] := hl
  refine lv_aload hx hb (dk kL_lift_ok 0 rfl) (lv_at hl 5 rfl) ?_
  refine lv_iconst (v := nI 0) hx hb (dk kL_lift_ok 1 rfl) rfl ?_
  refine lv_aload_n hx hb (dk kL_lift_ok 2 rfl) rfl (lv_at hl 0 rfl) ?_
  refine lv_iload_n hx hb (dk kL_lift_ok 3 rfl) rfl (lv_at hl 1 rfl) ?_
  refine lv_iload_n hx hb (dk kL_lift_ok 4 rfl) rfl (lv_at hl 2 rfl) ?_
  refine lv_iload_n hx hb (dk kL_lift_ok 5 rfl) rfl (lv_at hl 3 rfl) ?_
  refine lv_iload hx hb (dk kL_lift_ok 6 rfl) (lv_at hl 4 rfl) ?_
  refine cvD G (As := [.int a1, .int a2, .int a3, .int a4]) (rest := [.int (nI 0), .ref (ad 85)]) ⟨hx, hb, hml, hown, hts⟩ hM (cwVL 4 hts mcX5_lift (lc0 _ (List.mem_of_getElem? (i := 4) rfl)) miX5_lift meX5_lift mini_RX5 hrc hrs hdX5_lift ⟨hfr, hlo⟩) hDi hK hP hNW hS (k := 0) (by omega) hF0 rfl rfl hl.1 rfl (Nat.le_of_ble_eq_true rfl) ⟨Nat.le_of_ble_eq_true rfl, Nat.le_of_ble_eq_true rfl⟩ (dk kL_lift_ok 7 rfl) rfl (fun H locs hP hS => ?_)
  refine lv_i2l (v := r.toInt64) hx hb (dk kL_lift_ok 8 rfl) rfl ?_
  refine lst _ (k := 85) hx hb hK hDi hP hS hN hG (dk kL_lift_ok 9 rfl) rfl (fun H locs hP hS => ?_)
  refine lv_goto (tgt := 29) hx hb (dk kL_lift_ok 10 rfl) (by decide) ?_
  refine lv_iconst (v := nI 0) hx hb (dk kL_lift_ok 20 rfl) rfl ?_
  exact hret _ _ _ _ _ _ hP hS (by decide) (by decide) (dk kL_lift_ok 21 rfl)
set_option maxRecDepth 100000 in
set_option maxHeartbeats 4000000 in
theorem tL_lift_x (l : Launch) (D : va_G) (cI cQ cL : ClassId) (ad : Nat → Nat) (N : Nat) (F : Nat → va_E) (hN : 85 < N) (fs : List Value) (hF0 : F 0 = .inr (5, fs)) (a1 a2 a3 a4 : Int32) (E : String) (kk : Nat) (hE : (E = eI ∧ kk = 1) ∨ (E = eA ∧ kk = 2) ∨ (E = eS ∧ kk = 3)) {rm : Room} (hM : MT l yX5_lift (Cond.code yX5_lift cX5_lift 5 (some .int) :: AW) rm D cI cQ cL ad N F [.ref (ad 0), .int a1, .int a2, .int a3, .int a4] E 1 6) (hrc : rm.cells = 1) (hrs : rm.slots = 6) (hfr : rm.frames + 1 ≤ 12) (hlo : 8 + (5 + 11) + rm.locals ≤ 450) : ML l yL_lift (Cond.codeWith yL_lift cL_lift 7 (some .int) [(0, 14, 17, 13), (0, 14, 21, 15), (0, 14, 25, 17)] :: LW) ({ frames := 12, cells := 1, slots := 6, locals := 450 } : Room) D cI cQ cL ad N F [.ref (ad 0), .int a1, .int a2, .int a3, .int a4, .ref (ad 85)] (nI kk) F 1 6 := by
  refine ml_of (by decide +kernel) (Nat.le_of_ble_eq_true rfl) (fun p e s m below meth cd Q ls hx hb hml hown hts htab hDi hP hK hNW hS hX hXN hret hl => ?_)
  have hown : s.vm.findClass RL = some m.cls := hown
  have hl : lv_has ls 7 [(0, .ref (ad 0)), (1, .int a1), (2, .int a2), (3, .int a3), (4, .int a4), (5, .ref (ad 85))] := hl
  refine lv_aload hx hb (dk kL_lift_ok 0 rfl) (lv_at hl 5 rfl) ?_
  refine lv_iconst (v := nI 0) hx hb (dk kL_lift_ok 1 rfl) rfl ?_
  refine lv_aload_n hx hb (dk kL_lift_ok 2 rfl) rfl (lv_at hl 0 rfl) ?_
  refine lv_iload_n hx hb (dk kL_lift_ok 3 rfl) rfl (lv_at hl 1 rfl) ?_
  refine lv_iload_n hx hb (dk kL_lift_ok 4 rfl) rfl (lv_at hl 2 rfl) ?_
  refine lv_iload_n hx hb (dk kL_lift_ok 5 rfl) rfl (lv_at hl 3 rfl) ?_
  refine lv_iload hx hb (dk kL_lift_ok 6 rfl) (lv_at hl 4 rfl) ?_
  refine cvT (As := [.int a1, .int a2, .int a3, .int a4]) (rest := [.int (nI 0), .ref (ad 85)]) ⟨hx, hb, hml, hown, hts⟩ hM (cwVL 4 hts mcX5_lift (lc0 _ (List.mem_of_getElem? (i := 4) rfl)) miX5_lift meX5_lift mini_RX5 hrc hrs hdX5_lift ⟨hfr, hlo⟩) hDi hK hP hNW hS hX (k := 0) (by omega) hF0 rfl rfl hl.1 rfl (Nat.le_of_ble_eq_true rfl) ⟨Nat.le_of_ble_eq_true rfl, Nat.le_of_ble_eq_true rfl⟩ (dk kL_lift_ok 7 rfl) (fun H locs q ce hP hS hq hcv hcl => ?_)
  rcases hE with ⟨rfl, rfl⟩ | ⟨rfl, rfl⟩ | ⟨rfl, rfl⟩
  · refine vx_catch (name := "java/lang/IndexOutOfBoundsException") hown [] ⟨0, 14, 17, 13⟩ [⟨0, 14, 21, 15⟩, ⟨0, 14, 25, 17⟩] (by rw [htab]; rfl) ?_ (by decide) (by decide) (hts _ (lc0 _ (List.mem_of_getElem? (i := 0) rfl))) (XWc hX (List.mem_of_getElem? (i := 2) rfl)) hq hcv hcl ?_
    · exact fun z hz => nomatch hz
    · refine lv_astore (lv' := [(6, .ref q), (0, .ref (ad 0)), (1, .int a1), (2, .int a2), (3, .int a3), (4, .int a4), (5, .ref (ad 85))]) hx hb (dk kL_lift_ok 11 rfl) hl (by decide) rfl (fun ls hl => ?_)
      refine lv_iconst (v := nI 1) hx hb (dk kL_lift_ok 12 rfl) rfl ?_
      exact hret _ _ _ _ _ _ hP hS (by decide) (by decide) (dk kL_lift_ok 13 rfl)
  · refine vx_catch (name := "java/lang/IllegalArgumentException") hown [⟨0, 14, 17, 13⟩] ⟨0, 14, 21, 15⟩ [⟨0, 14, 25, 17⟩] (by rw [htab]; rfl) ?_ (by decide) (by decide) (hts _ (lc0 _ (List.mem_of_getElem? (i := 1) rfl))) (XWc hX (List.mem_of_getElem? (i := 1) rfl)) hq hcv hcl ?_
    · intro z hz
      rcases List.mem_singleton.mp hz with rfl
      · exact Or.inr ⟨by decide, "java/lang/IndexOutOfBoundsException", hts _ (lc0 _ (List.mem_of_getElem? (i := 0) rfl)), XNn hXN (List.mem_of_getElem? (i := 4) rfl)⟩
    · refine lv_astore (lv' := [(6, .ref q), (0, .ref (ad 0)), (1, .int a1), (2, .int a2), (3, .int a3), (4, .int a4), (5, .ref (ad 85))]) hx hb (dk kL_lift_ok 14 rfl) hl (by decide) rfl (fun ls hl => ?_)
      refine lv_iconst (v := nI 2) hx hb (dk kL_lift_ok 15 rfl) rfl ?_
      exact hret _ _ _ _ _ _ hP hS (by decide) (by decide) (dk kL_lift_ok 16 rfl)
  · refine vx_catch (name := "java/lang/IllegalStateException") hown [⟨0, 14, 17, 13⟩, ⟨0, 14, 21, 15⟩] ⟨0, 14, 25, 17⟩ [] (by rw [htab]; rfl) ?_ (by decide) (by decide) (hts _ (lc0 _ (List.mem_of_getElem? (i := 2) rfl))) (XWc hX (List.mem_of_getElem? (i := 0) rfl)) hq hcv hcl ?_
    · intro z hz
      rcases (by simpa using hz : z = ⟨0, 14, 17, 13⟩ ∨ z = ⟨0, 14, 21, 15⟩) with rfl | rfl
      · exact Or.inr ⟨by decide, "java/lang/IndexOutOfBoundsException", hts _ (lc0 _ (List.mem_of_getElem? (i := 0) rfl)), XNn hXN (List.mem_of_getElem? (i := 2) rfl)⟩
      · exact Or.inr ⟨by decide, "java/lang/IllegalArgumentException", hts _ (lc0 _ (List.mem_of_getElem? (i := 1) rfl)), XNn hXN (List.mem_of_getElem? (i := 3) rfl)⟩
    · refine lv_astore (lv' := [(6, .ref q), (0, .ref (ad 0)), (1, .int a1), (2, .int a2), (3, .int a3), (4, .int a4), (5, .ref (ad 85))]) hx hb (dk kL_lift_ok 17 rfl) hl (by decide) rfl (fun ls hl => ?_)
      refine lv_iconst (v := nI 3) hx hb (dk kL_lift_ok 18 rfl) rfl ?_
      exact hret _ _ _ _ _ _ hP hS (by decide) (by decide) (dk kL_lift_ok 19 rfl)
set_option maxRecDepth 100000 in
set_option maxHeartbeats 4000000 in
theorem tL_set (l : Launch) (D : va_G) (cI cQ cL : ClassId) (ad : Nat → Nat) (N : Nat) (F : Nat → va_E) (hN : 85 < N) (fs : List Value) (hF0 : F 0 = .inr (5, fs)) (a1 : Int32) (G : Nat → va_E) (o : Nat → Int64) (hG : G 85 = .inl (cL, 1, .inr (.inl o))) (r : Int32) {rm : Room} (hM : MX l yX5_set (Cond.code yX5_set cX5_set 3 (some .int) :: AW) rm D cI cQ cL ad N F [.ref (ad 0), .int a1] (dp (some (.int r)) G) 0 0) (hrc : rm.cells = 0) (hrs : rm.slots = 0) (hfr : rm.frames + 1 ≤ 12) (hlo : 8 + (3 + 11) + rm.locals ≤ 450) : ML l yL_set (Cond.codeWith yL_set cL_set 4 (some .int) [(0, 9, 12, 15)] :: LW) ({ frames := 12, cells := 1, slots := 6, locals := 450 } : Room) D cI cQ cL ad N F [.ref (ad 0), .int a1, .ref (ad 85)] (nI 0) (va_up G 85 (.inl (cL, 1, .inr (.inl (vp_updL o 0 r.toInt64))))) 1 6 := by
  refine ml_of (by decide +kernel) (Nat.le_of_ble_eq_true rfl) (fun p e s m below meth cd Q ls hx hb hml hown hts htab hDi hP hK hNW hS hX hXN hret hl => ?_)
  have hown : s.vm.findClass RL = some m.cls := hown
  have hl : lv_has ls 4 [(0, .ref (ad 0)), (1, .int a1), (2, .ref (ad 85))] := hl
  refine lv_aload_n hx hb (dk kL_set_ok 0 rfl) rfl (lv_at hl 2 rfl) ?_
  refine lv_iconst (v := nI 0) hx hb (dk kL_set_ok 1 rfl) rfl ?_
  refine lv_aload_n hx hb (dk kL_set_ok 2 rfl) rfl (lv_at hl 0 rfl) ?_
  refine lv_iload_n hx hb (dk kL_set_ok 3 rfl) rfl (lv_at hl 1 rfl) ?_
  refine cvD G (As := [.int a1]) (rest := [.int (nI 0), .ref (ad 85)]) ⟨hx, hb, hml, hown, hts⟩ hM (cwVL 1 hts mcX5_set (lc0 _ (List.mem_of_getElem? (i := 5) rfl)) miX5_set meX5_set mini_RX5 hrc hrs hdX5_set ⟨hfr, hlo⟩) hDi hK hP hNW hS (k := 0) (by omega) hF0 rfl rfl hl.1 rfl (Nat.le_of_ble_eq_true rfl) ⟨Nat.le_of_ble_eq_true rfl, Nat.le_of_ble_eq_true rfl⟩ (dk kL_set_ok 4 rfl) rfl (fun H locs hP hS => ?_)
  refine lv_i2l (v := r.toInt64) hx hb (dk kL_set_ok 5 rfl) rfl ?_
  refine lst _ (k := 85) hx hb hK hDi hP hS hN hG (dk kL_set_ok 6 rfl) rfl (fun H locs hP hS => ?_)
  refine lv_goto (tgt := 15) hx hb (dk kL_set_ok 7 rfl) (by decide) ?_
  refine lv_iconst (v := nI 0) hx hb (dk kL_set_ok 11 rfl) rfl ?_
  exact hret _ _ _ _ _ _ hP hS (by decide) (by decide) (dk kL_set_ok 12 rfl)
set_option maxRecDepth 100000 in
set_option maxHeartbeats 4000000 in
theorem tL_set_x (l : Launch) (D : va_G) (cI cQ cL : ClassId) (ad : Nat → Nat) (N : Nat) (F : Nat → va_E) (hN : 85 < N) (fs : List Value) (hF0 : F 0 = .inr (5, fs)) (a1 : Int32) (E : String) (kk : Nat) (hE : (E = eA ∧ kk = 1)) {rm : Room} (hM : MT l yX5_set (Cond.code yX5_set cX5_set 3 (some .int) :: AW) rm D cI cQ cL ad N F [.ref (ad 0), .int a1] E 1 6) (hrc : rm.cells = 1) (hrs : rm.slots = 6) (hfr : rm.frames + 1 ≤ 12) (hlo : 8 + (3 + 11) + rm.locals ≤ 450) : ML l yL_set (Cond.codeWith yL_set cL_set 4 (some .int) [(0, 9, 12, 15)] :: LW) ({ frames := 12, cells := 1, slots := 6, locals := 450 } : Room) D cI cQ cL ad N F [.ref (ad 0), .int a1, .ref (ad 85)] (nI kk) F 1 6 := by
  refine ml_of (by decide +kernel) (Nat.le_of_ble_eq_true rfl) (fun p e s m below meth cd Q ls hx hb hml hown hts htab hDi hP hK hNW hS hX hXN hret hl => ?_)
  have hown : s.vm.findClass RL = some m.cls := hown
  have hl : lv_has ls 4 [(0, .ref (ad 0)), (1, .int a1), (2, .ref (ad 85))] := hl
  refine lv_aload_n hx hb (dk kL_set_ok 0 rfl) rfl (lv_at hl 2 rfl) ?_
  refine lv_iconst (v := nI 0) hx hb (dk kL_set_ok 1 rfl) rfl ?_
  refine lv_aload_n hx hb (dk kL_set_ok 2 rfl) rfl (lv_at hl 0 rfl) ?_
  refine lv_iload_n hx hb (dk kL_set_ok 3 rfl) rfl (lv_at hl 1 rfl) ?_
  refine cvT (As := [.int a1]) (rest := [.int (nI 0), .ref (ad 85)]) ⟨hx, hb, hml, hown, hts⟩ hM (cwVL 1 hts mcX5_set (lc0 _ (List.mem_of_getElem? (i := 5) rfl)) miX5_set meX5_set mini_RX5 hrc hrs hdX5_set ⟨hfr, hlo⟩) hDi hK hP hNW hS hX (k := 0) (by omega) hF0 rfl rfl hl.1 rfl (Nat.le_of_ble_eq_true rfl) ⟨Nat.le_of_ble_eq_true rfl, Nat.le_of_ble_eq_true rfl⟩ (dk kL_set_ok 4 rfl) (fun H locs q ce hP hS hq hcv hcl => ?_)
  rcases hE with ⟨rfl, rfl⟩
  · refine vx_catch (name := "java/lang/IllegalArgumentException") hown [] ⟨0, 9, 12, 15⟩ [] (by rw [htab]; rfl) ?_ (by decide) (by decide) (hts _ (lc0 _ (List.mem_of_getElem? (i := 1) rfl))) (XWc hX (List.mem_of_getElem? (i := 1) rfl)) hq hcv hcl ?_
    · exact fun z hz => nomatch hz
    · refine lv_astore_n (lv' := [(3, .ref q), (0, .ref (ad 0)), (1, .int a1), (2, .ref (ad 85))]) hx hb (dk kL_set_ok 8 rfl) rfl hl (by decide) rfl (fun ls hl => ?_)
      refine lv_iconst (v := nI 1) hx hb (dk kL_set_ok 9 rfl) rfl ?_
      exact hret _ _ _ _ _ _ hP hS (by decide) (by decide) (dk kL_set_ok 10 rfl)
set_option maxRecDepth 100000 in
set_option maxHeartbeats 4000000 in
theorem tL_put (l : Launch) (D : va_G) (cI cQ cL : ClassId) (ad : Nat → Nat) (N : Nat) (F : Nat → va_E) (hN : 85 < N) (fs : List Value) (hF0 : F 0 = .inr (5, fs)) (a1 a2 a3 : Int32) (G : Nat → va_E) (o : Nat → Int64) (hG : G 85 = .inl (cL, 1, .inr (.inl o))) (r : Int32) {rm : Room} (hM : MX l yX5_put (Cond.code yX5_put cX5_put 5 (some .int) :: AW) rm D cI cQ cL ad N F [.ref (ad 0), .int a1, .int a2, .int a3] (dp (some (.int r)) G) 0 0) (hrc : rm.cells = 0) (hrs : rm.slots = 0) (hfr : rm.frames + 1 ≤ 12) (hlo : 8 + (5 + 11) + rm.locals ≤ 450) : ML l yL_put (Cond.codeWith yL_put cL_put 6 (some .int) [(0, 12, 15, 13), (0, 12, 19, 17)] :: LW) ({ frames := 12, cells := 1, slots := 6, locals := 450 } : Room) D cI cQ cL ad N F [.ref (ad 0), .int a1, .int a2, .int a3, .ref (ad 85)] (nI 0) (va_up G 85 (.inl (cL, 1, .inr (.inl (vp_updL o 0 r.toInt64))))) 1 6 := by
  refine ml_of (by decide +kernel) (Nat.le_of_ble_eq_true rfl) (fun p e s m below meth cd Q ls hx hb hml hown hts htab hDi hP hK hNW hS hX hXN hret hl => ?_)
  have hown : s.vm.findClass RL = some m.cls := hown
  have hl : lv_has ls 6 [(0, .ref (ad 0)), (1, .int a1), (2, .int a2), (3, .int a3), (4, .ref (ad 85))] := hl
  refine lv_aload hx hb (dk kL_put_ok 0 rfl) (lv_at hl 4 rfl) ?_
  refine lv_iconst (v := nI 0) hx hb (dk kL_put_ok 1 rfl) rfl ?_
  refine lv_aload_n hx hb (dk kL_put_ok 2 rfl) rfl (lv_at hl 0 rfl) ?_
  refine lv_iload_n hx hb (dk kL_put_ok 3 rfl) rfl (lv_at hl 1 rfl) ?_
  refine lv_iload_n hx hb (dk kL_put_ok 4 rfl) rfl (lv_at hl 2 rfl) ?_
  refine lv_iload_n hx hb (dk kL_put_ok 5 rfl) rfl (lv_at hl 3 rfl) ?_
  refine cvD G (As := [.int a1, .int a2, .int a3]) (rest := [.int (nI 0), .ref (ad 85)]) ⟨hx, hb, hml, hown, hts⟩ hM (cwVL 3 hts mcX5_put (lc0 _ (List.mem_of_getElem? (i := 6) rfl)) miX5_put meX5_put mini_RX5 hrc hrs hdX5_put ⟨hfr, hlo⟩) hDi hK hP hNW hS (k := 0) (by omega) hF0 rfl rfl hl.1 rfl (Nat.le_of_ble_eq_true rfl) ⟨Nat.le_of_ble_eq_true rfl, Nat.le_of_ble_eq_true rfl⟩ (dk kL_put_ok 6 rfl) rfl (fun H locs hP hS => ?_)
  refine lv_i2l (v := r.toInt64) hx hb (dk kL_put_ok 7 rfl) rfl ?_
  refine lst _ (k := 85) hx hb hK hDi hP hS hN hG (dk kL_put_ok 8 rfl) rfl (fun H locs hP hS => ?_)
  refine lv_goto (tgt := 23) hx hb (dk kL_put_ok 9 rfl) (by decide) ?_
  refine lv_iconst (v := nI 0) hx hb (dk kL_put_ok 16 rfl) rfl ?_
  exact hret _ _ _ _ _ _ hP hS (by decide) (by decide) (dk kL_put_ok 17 rfl)
set_option maxRecDepth 100000 in
set_option maxHeartbeats 4000000 in
theorem tL_put_x (l : Launch) (D : va_G) (cI cQ cL : ClassId) (ad : Nat → Nat) (N : Nat) (F : Nat → va_E) (hN : 85 < N) (fs : List Value) (hF0 : F 0 = .inr (5, fs)) (a1 a2 a3 : Int32) (E : String) (kk : Nat) (hE : (E = eI ∧ kk = 1) ∨ (E = eS ∧ kk = 2)) {rm : Room} (hM : MT l yX5_put (Cond.code yX5_put cX5_put 5 (some .int) :: AW) rm D cI cQ cL ad N F [.ref (ad 0), .int a1, .int a2, .int a3] E 1 6) (hrc : rm.cells = 1) (hrs : rm.slots = 6) (hfr : rm.frames + 1 ≤ 12) (hlo : 8 + (5 + 11) + rm.locals ≤ 450) : ML l yL_put (Cond.codeWith yL_put cL_put 6 (some .int) [(0, 12, 15, 13), (0, 12, 19, 17)] :: LW) ({ frames := 12, cells := 1, slots := 6, locals := 450 } : Room) D cI cQ cL ad N F [.ref (ad 0), .int a1, .int a2, .int a3, .ref (ad 85)] (nI kk) F 1 6 := by
  refine ml_of (by decide +kernel) (Nat.le_of_ble_eq_true rfl) (fun p e s m below meth cd Q ls hx hb hml hown hts htab hDi hP hK hNW hS hX hXN hret hl => ?_)
  have hown : s.vm.findClass RL = some m.cls := hown
  have hl : lv_has ls 6 [(0, .ref (ad 0)), (1, .int a1), (2, .int a2), (3, .int a3), (4, .ref (ad 85))] := hl
  refine lv_aload hx hb (dk kL_put_ok 0 rfl) (lv_at hl 4 rfl) ?_
  refine lv_iconst (v := nI 0) hx hb (dk kL_put_ok 1 rfl) rfl ?_
  refine lv_aload_n hx hb (dk kL_put_ok 2 rfl) rfl (lv_at hl 0 rfl) ?_
  refine lv_iload_n hx hb (dk kL_put_ok 3 rfl) rfl (lv_at hl 1 rfl) ?_
  refine lv_iload_n hx hb (dk kL_put_ok 4 rfl) rfl (lv_at hl 2 rfl) ?_
  refine lv_iload_n hx hb (dk kL_put_ok 5 rfl) rfl (lv_at hl 3 rfl) ?_
  refine cvT (As := [.int a1, .int a2, .int a3]) (rest := [.int (nI 0), .ref (ad 85)]) ⟨hx, hb, hml, hown, hts⟩ hM (cwVL 3 hts mcX5_put (lc0 _ (List.mem_of_getElem? (i := 6) rfl)) miX5_put meX5_put mini_RX5 hrc hrs hdX5_put ⟨hfr, hlo⟩) hDi hK hP hNW hS hX (k := 0) (by omega) hF0 rfl rfl hl.1 rfl (Nat.le_of_ble_eq_true rfl) ⟨Nat.le_of_ble_eq_true rfl, Nat.le_of_ble_eq_true rfl⟩ (dk kL_put_ok 6 rfl) (fun H locs q ce hP hS hq hcv hcl => ?_)
  rcases hE with ⟨rfl, rfl⟩ | ⟨rfl, rfl⟩
  · refine vx_catch (name := "java/lang/IndexOutOfBoundsException") hown [] ⟨0, 12, 15, 13⟩ [⟨0, 12, 19, 17⟩] (by rw [htab]; rfl) ?_ (by decide) (by decide) (hts _ (lc0 _ (List.mem_of_getElem? (i := 0) rfl))) (XWc hX (List.mem_of_getElem? (i := 2) rfl)) hq hcv hcl ?_
    · exact fun z hz => nomatch hz
    · refine lv_astore (lv' := [(5, .ref q), (0, .ref (ad 0)), (1, .int a1), (2, .int a2), (3, .int a3), (4, .ref (ad 85))]) hx hb (dk kL_put_ok 10 rfl) hl (by decide) rfl (fun ls hl => ?_)
      refine lv_iconst (v := nI 1) hx hb (dk kL_put_ok 11 rfl) rfl ?_
      exact hret _ _ _ _ _ _ hP hS (by decide) (by decide) (dk kL_put_ok 12 rfl)
  · refine vx_catch (name := "java/lang/IllegalStateException") hown [⟨0, 12, 15, 13⟩] ⟨0, 12, 19, 17⟩ [] (by rw [htab]; rfl) ?_ (by decide) (by decide) (hts _ (lc0 _ (List.mem_of_getElem? (i := 2) rfl))) (XWc hX (List.mem_of_getElem? (i := 0) rfl)) hq hcv hcl ?_
    · intro z hz
      rcases List.mem_singleton.mp hz with rfl
      · exact Or.inr ⟨by decide, "java/lang/IndexOutOfBoundsException", hts _ (lc0 _ (List.mem_of_getElem? (i := 0) rfl)), XNn hXN (List.mem_of_getElem? (i := 2) rfl)⟩
    · refine lv_astore (lv' := [(5, .ref q), (0, .ref (ad 0)), (1, .int a1), (2, .int a2), (3, .int a3), (4, .ref (ad 85))]) hx hb (dk kL_put_ok 13 rfl) hl (by decide) rfl (fun ls hl => ?_)
      refine lv_iconst (v := nI 2) hx hb (dk kL_put_ok 14 rfl) rfl ?_
      exact hret _ _ _ _ _ _ hP hS (by decide) (by decide) (dk kL_put_ok 15 rfl)
set_option maxRecDepth 100000 in
set_option maxHeartbeats 4000000 in
theorem tL_append (l : Launch) (D : va_G) (cI cQ cL : ClassId) (ad : Nat → Nat) (N : Nat) (F : Nat → va_E) (hN : 85 < N) (fs : List Value) (hF0 : F 0 = .inr (5, fs)) (a1 : Int32) (G : Nat → va_E) (o : Nat → Int64) (hG : G 85 = .inl (cL, 1, .inr (.inl o))) (r : Int32) {rm : Room} (hM : MX l yX5_append (Cond.code yX5_append cX5_append 2 (some .int) :: AW) rm D cI cQ cL ad N F [.ref (ad 0), .int a1] (dp (some (.int r)) G) 0 0) (hrc : rm.cells = 0) (hrs : rm.slots = 0) (hfr : rm.frames + 1 ≤ 12) (hlo : 8 + (2 + 11) + rm.locals ≤ 450) : ML l yL_append (Cond.codeWith yL_append cL_append 4 (some .int) [(0, 9, 12, 15), (0, 9, 15, 17)] :: LW) ({ frames := 12, cells := 1, slots := 6, locals := 450 } : Room) D cI cQ cL ad N F [.ref (ad 0), .int a1, .ref (ad 85)] (nI 0) (va_up G 85 (.inl (cL, 1, .inr (.inl (vp_updL o 0 r.toInt64))))) 1 6 := by
  refine ml_of (by decide +kernel) (Nat.le_of_ble_eq_true rfl) (fun p e s m below meth cd Q ls hx hb hml hown hts htab hDi hP hK hNW hS hX hXN hret hl => ?_)
  have hown : s.vm.findClass RL = some m.cls := hown
  have hl : lv_has ls 4 [(0, .ref (ad 0)), (1, .int a1), (2, .ref (ad 85))] := hl
  refine lv_aload_n hx hb (dk kL_append_ok 0 rfl) rfl (lv_at hl 2 rfl) ?_
  refine lv_iconst (v := nI 0) hx hb (dk kL_append_ok 1 rfl) rfl ?_
  refine lv_aload_n hx hb (dk kL_append_ok 2 rfl) rfl (lv_at hl 0 rfl) ?_
  refine lv_iload_n hx hb (dk kL_append_ok 3 rfl) rfl (lv_at hl 1 rfl) ?_
  refine cvD G (As := [.int a1]) (rest := [.int (nI 0), .ref (ad 85)]) ⟨hx, hb, hml, hown, hts⟩ hM (cwVL 1 hts mcX5_append (lc0 _ (List.mem_of_getElem? (i := 7) rfl)) miX5_append meX5_append mini_RX5 hrc hrs hdX5_append ⟨hfr, hlo⟩) hDi hK hP hNW hS (k := 0) (by omega) hF0 rfl rfl hl.1 rfl (Nat.le_of_ble_eq_true rfl) ⟨Nat.le_of_ble_eq_true rfl, Nat.le_of_ble_eq_true rfl⟩ (dk kL_append_ok 4 rfl) rfl (fun H locs hP hS => ?_)
  refine lv_i2l (v := r.toInt64) hx hb (dk kL_append_ok 5 rfl) rfl ?_
  refine lst _ (k := 85) hx hb hK hDi hP hS hN hG (dk kL_append_ok 6 rfl) rfl (fun H locs hP hS => ?_)
  refine lv_goto (tgt := 18) hx hb (dk kL_append_ok 7 rfl) (by decide) ?_
  refine lv_iconst (v := nI 0) hx hb (dk kL_append_ok 14 rfl) rfl ?_
  exact hret _ _ _ _ _ _ hP hS (by decide) (by decide) (dk kL_append_ok 15 rfl)
set_option maxRecDepth 100000 in
set_option maxHeartbeats 4000000 in
theorem tL_append_x (l : Launch) (D : va_G) (cI cQ cL : ClassId) (ad : Nat → Nat) (N : Nat) (F : Nat → va_E) (hN : 85 < N) (fs : List Value) (hF0 : F 0 = .inr (5, fs)) (a1 : Int32) (E : String) (kk : Nat) (hE : (E = eA ∧ kk = 1) ∨ (E = eS ∧ kk = 2)) {rm : Room} (hM : MT l yX5_append (Cond.code yX5_append cX5_append 2 (some .int) :: AW) rm D cI cQ cL ad N F [.ref (ad 0), .int a1] E 1 6) (hrc : rm.cells = 1) (hrs : rm.slots = 6) (hfr : rm.frames + 1 ≤ 12) (hlo : 8 + (2 + 11) + rm.locals ≤ 450) : ML l yL_append (Cond.codeWith yL_append cL_append 4 (some .int) [(0, 9, 12, 15), (0, 9, 15, 17)] :: LW) ({ frames := 12, cells := 1, slots := 6, locals := 450 } : Room) D cI cQ cL ad N F [.ref (ad 0), .int a1, .ref (ad 85)] (nI kk) F 1 6 := by
  refine ml_of (by decide +kernel) (Nat.le_of_ble_eq_true rfl) (fun p e s m below meth cd Q ls hx hb hml hown hts htab hDi hP hK hNW hS hX hXN hret hl => ?_)
  have hown : s.vm.findClass RL = some m.cls := hown
  have hl : lv_has ls 4 [(0, .ref (ad 0)), (1, .int a1), (2, .ref (ad 85))] := hl
  refine lv_aload_n hx hb (dk kL_append_ok 0 rfl) rfl (lv_at hl 2 rfl) ?_
  refine lv_iconst (v := nI 0) hx hb (dk kL_append_ok 1 rfl) rfl ?_
  refine lv_aload_n hx hb (dk kL_append_ok 2 rfl) rfl (lv_at hl 0 rfl) ?_
  refine lv_iload_n hx hb (dk kL_append_ok 3 rfl) rfl (lv_at hl 1 rfl) ?_
  refine cvT (As := [.int a1]) (rest := [.int (nI 0), .ref (ad 85)]) ⟨hx, hb, hml, hown, hts⟩ hM (cwVL 1 hts mcX5_append (lc0 _ (List.mem_of_getElem? (i := 7) rfl)) miX5_append meX5_append mini_RX5 hrc hrs hdX5_append ⟨hfr, hlo⟩) hDi hK hP hNW hS hX (k := 0) (by omega) hF0 rfl rfl hl.1 rfl (Nat.le_of_ble_eq_true rfl) ⟨Nat.le_of_ble_eq_true rfl, Nat.le_of_ble_eq_true rfl⟩ (dk kL_append_ok 4 rfl) (fun H locs q ce hP hS hq hcv hcl => ?_)
  rcases hE with ⟨rfl, rfl⟩ | ⟨rfl, rfl⟩
  · refine vx_catch (name := "java/lang/IllegalArgumentException") hown [] ⟨0, 9, 12, 15⟩ [⟨0, 9, 15, 17⟩] (by rw [htab]; rfl) ?_ (by decide) (by decide) (hts _ (lc0 _ (List.mem_of_getElem? (i := 1) rfl))) (XWc hX (List.mem_of_getElem? (i := 1) rfl)) hq hcv hcl ?_
    · exact fun z hz => nomatch hz
    · refine lv_astore_n (lv' := [(3, .ref q), (0, .ref (ad 0)), (1, .int a1), (2, .ref (ad 85))]) hx hb (dk kL_append_ok 8 rfl) rfl hl (by decide) rfl (fun ls hl => ?_)
      refine lv_iconst (v := nI 1) hx hb (dk kL_append_ok 9 rfl) rfl ?_
      exact hret _ _ _ _ _ _ hP hS (by decide) (by decide) (dk kL_append_ok 10 rfl)
  · refine vx_catch (name := "java/lang/IllegalStateException") hown [⟨0, 9, 12, 15⟩] ⟨0, 9, 15, 17⟩ [] (by rw [htab]; rfl) ?_ (by decide) (by decide) (hts _ (lc0 _ (List.mem_of_getElem? (i := 2) rfl))) (XWc hX (List.mem_of_getElem? (i := 0) rfl)) hq hcv hcl ?_
    · intro z hz
      rcases List.mem_singleton.mp hz with rfl
      · exact Or.inr ⟨by decide, "java/lang/IllegalArgumentException", hts _ (lc0 _ (List.mem_of_getElem? (i := 1) rfl)), XNn hXN (List.mem_of_getElem? (i := 3) rfl)⟩
    · refine lv_astore_n (lv' := [(3, .ref q), (0, .ref (ad 0)), (1, .int a1), (2, .ref (ad 85))]) hx hb (dk kL_append_ok 11 rfl) rfl hl (by decide) rfl (fun ls hl => ?_)
      refine lv_iconst (v := nI 2) hx hb (dk kL_append_ok 12 rfl) rfl ?_
      exact hret _ _ _ _ _ _ hP hS (by decide) (by decide) (dk kL_append_ok 13 rfl)
set_option maxRecDepth 100000 in
set_option maxHeartbeats 4000000 in
theorem tL_play (l : Launch) (D : va_G) (cI cQ cL : ClassId) (ad : Nat → Nat) (N : Nat) (F : Nat → va_E) (hN : 85 < N) (fs : List Value) (hF0 : F 0 = .inr (5, fs)) (r : Int32) (PG : (Nat → va_E) → Prop) (hPG : ∀ G, PG G → ∃ o, G 85 = .inl (cL, 1, .inr (.inl o))) {rm : Room} (hM : MX l yX5_play (Cond.code yX5_play cX5_play 2 (some .int) :: AW) rm D cI cQ cL ad N F [.ref (ad 0)] (fun v9 G9 => v9 = some (.int r) ∧ PG G9) 0 0) (hrc : rm.cells = 0) (hrs : rm.slots = 0) (hfr : rm.frames + 1 ≤ 12) (hlo : 8 + (2 + 11) + rm.locals ≤ 450) : MLE l yL_play (Cond.codeWith yL_play cL_play 3 (some .int) [(0, 8, 11, 15)] :: LW) ({ frames := 12, cells := 1, slots := 6, locals := 450 } : Room) D cI cQ cL ad N F [.ref (ad 0), .ref (ad 85)] (nI 0) (fun G9 => ∃ (G : Nat → va_E) (o : Nat → Int64), PG G ∧ G 85 = .inl (cL, 1, .inr (.inl o)) ∧ G9 = va_up G 85 (.inl (cL, 1, .inr (.inl (vp_updL o 0 r.toInt64))))) 1 6 := by
  refine mlE_of (by decide +kernel) (Nat.le_of_ble_eq_true rfl) (fun p e s m below meth cd Q ls hx hb hml hown hts htab hDi hP hK hNW hS hX hXN hret hl => ?_)
  have hown : s.vm.findClass RL = some m.cls := hown
  have hl : lv_has ls 3 [(0, .ref (ad 0)), (1, .ref (ad 85))] := hl
  refine lv_aload_n hx hb (dk kL_play_ok 0 rfl) rfl (lv_at hl 1 rfl) ?_
  refine lv_iconst (v := nI 0) hx hb (dk kL_play_ok 1 rfl) rfl ?_
  refine lv_aload_n hx hb (dk kL_play_ok 2 rfl) rfl (lv_at hl 0 rfl) ?_
  refine cvE (P9 := PG) (As := []) (rest := [.int (nI 0), .ref (ad 85)]) ⟨hx, hb, hml, hown, hts⟩ hM (cwVL 0 hts mcX5_play (lc0 _ (List.mem_of_getElem? (i := 8) rfl)) miX5_play meX5_play mini_RX5 hrc hrs hdX5_play ⟨hfr, hlo⟩) hDi hK hP hNW hS (k := 0) (by omega) hF0 rfl rfl hl.1 rfl (Nat.le_of_ble_eq_true rfl) ⟨Nat.le_of_ble_eq_true rfl, Nat.le_of_ble_eq_true rfl⟩ (dk kL_play_ok 3 rfl) (fun G H locs hG9 hP hS => ?_)
  obtain ⟨o, hG⟩ := hPG G hG9
  refine lv_i2l (v := r.toInt64) hx hb (dk kL_play_ok 4 rfl) rfl ?_
  refine lst _ (k := 85) hx hb hK hDi hP hS hN hG (dk kL_play_ok 5 rfl) rfl (fun H locs hP hS => ?_)
  refine lv_goto (tgt := 14) hx hb (dk kL_play_ok 6 rfl) (by decide) ?_
  refine lv_iconst (v := nI 0) hx hb (dk kL_play_ok 10 rfl) rfl ?_
  exact hret _ _ _ _ _ _ _ ⟨G, o, hG9, hG, rfl⟩ hP hS (by decide) (by decide) (dk kL_play_ok 11 rfl)
set_option maxRecDepth 100000 in
set_option maxHeartbeats 4000000 in
theorem tL_play_x (l : Launch) (D : va_G) (cI cQ cL : ClassId) (ad : Nat → Nat) (N : Nat) (F : Nat → va_E) (hN : 85 < N) (fs : List Value) (hF0 : F 0 = .inr (5, fs)) (E : String) (kk : Nat) (hE : (E = eA ∧ kk = 1)) {rm : Room} (hM : MT l yX5_play (Cond.code yX5_play cX5_play 2 (some .int) :: AW) rm D cI cQ cL ad N F [.ref (ad 0)] E 1 6) (hrc : rm.cells = 1) (hrs : rm.slots = 6) (hfr : rm.frames + 1 ≤ 12) (hlo : 8 + (2 + 11) + rm.locals ≤ 450) : ML l yL_play (Cond.codeWith yL_play cL_play 3 (some .int) [(0, 8, 11, 15)] :: LW) ({ frames := 12, cells := 1, slots := 6, locals := 450 } : Room) D cI cQ cL ad N F [.ref (ad 0), .ref (ad 85)] (nI kk) F 1 6 := by
  refine ml_of (by decide +kernel) (Nat.le_of_ble_eq_true rfl) (fun p e s m below meth cd Q ls hx hb hml hown hts htab hDi hP hK hNW hS hX hXN hret hl => ?_)
  have hown : s.vm.findClass RL = some m.cls := hown
  have hl : lv_has ls 3 [(0, .ref (ad 0)), (1, .ref (ad 85))] := hl
  refine lv_aload_n hx hb (dk kL_play_ok 0 rfl) rfl (lv_at hl 1 rfl) ?_
  refine lv_iconst (v := nI 0) hx hb (dk kL_play_ok 1 rfl) rfl ?_
  refine lv_aload_n hx hb (dk kL_play_ok 2 rfl) rfl (lv_at hl 0 rfl) ?_
  refine cvT (As := []) (rest := [.int (nI 0), .ref (ad 85)]) ⟨hx, hb, hml, hown, hts⟩ hM (cwVL 0 hts mcX5_play (lc0 _ (List.mem_of_getElem? (i := 8) rfl)) miX5_play meX5_play mini_RX5 hrc hrs hdX5_play ⟨hfr, hlo⟩) hDi hK hP hNW hS hX (k := 0) (by omega) hF0 rfl rfl hl.1 rfl (Nat.le_of_ble_eq_true rfl) ⟨Nat.le_of_ble_eq_true rfl, Nat.le_of_ble_eq_true rfl⟩ (dk kL_play_ok 3 rfl) (fun H locs q ce hP hS hq hcv hcl => ?_)
  rcases hE with ⟨rfl, rfl⟩
  · refine vx_catch (name := "java/lang/IllegalArgumentException") hown [] ⟨0, 8, 11, 15⟩ [] (by rw [htab]; rfl) ?_ (by decide) (by decide) (hts _ (lc0 _ (List.mem_of_getElem? (i := 1) rfl))) (XWc hX (List.mem_of_getElem? (i := 1) rfl)) hq hcv hcl ?_
    · exact fun z hz => nomatch hz
    · refine lv_astore_n (lv' := [(2, .ref q), (0, .ref (ad 0)), (1, .ref (ad 85))]) hx hb (dk kL_play_ok 7 rfl) rfl hl (by decide) rfl (fun ls hl => ?_)
      refine lv_iconst (v := nI 1) hx hb (dk kL_play_ok 8 rfl) rfl ?_
      exact hret _ _ _ _ _ _ hP hS (by decide) (by decide) (dk kL_play_ok 9 rfl)
set_option maxRecDepth 100000 in
set_option maxHeartbeats 4000000 in
theorem tL_goBack (l : Launch) (D : va_G) (cI cQ cL : ClassId) (ad : Nat → Nat) (N : Nat) (F : Nat → va_E) (hN : 85 < N) (fs : List Value) (hF0 : F 0 = .inr (5, fs)) (G : Nat → va_E) (o : Nat → Int64) (hG : G 85 = .inl (cL, 1, .inr (.inl o))) (r : Int32) {rm : Room} (hM : MX l yX5_goBack (Cond.code yX5_goBack cX5_goBack 1 (some .int) :: AW) rm D cI cQ cL ad N F [.ref (ad 0)] (dp (some (.int r)) G) 0 0) (hrc : rm.cells = 0) (hrs : rm.slots = 0) (hfr : rm.frames + 1 ≤ 12) (hlo : 8 + (1 + 11) + rm.locals ≤ 450) : ML l yL_goBack (Cond.codeWith yL_goBack cL_goBack 3 (some .int) [(0, 8, 11, 17)] :: LW) ({ frames := 12, cells := 1, slots := 6, locals := 450 } : Room) D cI cQ cL ad N F [.ref (ad 0), .ref (ad 85)] (nI 0) (va_up G 85 (.inl (cL, 1, .inr (.inl (vp_updL o 0 r.toInt64))))) 1 6 := by
  refine ml_of (by decide +kernel) (Nat.le_of_ble_eq_true rfl) (fun p e s m below meth cd Q ls hx hb hml hown hts htab hDi hP hK hNW hS hX hXN hret hl => ?_)
  have hown : s.vm.findClass RL = some m.cls := hown
  have hl : lv_has ls 3 [(0, .ref (ad 0)), (1, .ref (ad 85))] := hl
  refine lv_aload_n hx hb (dk kL_goBack_ok 0 rfl) rfl (lv_at hl 1 rfl) ?_
  refine lv_iconst (v := nI 0) hx hb (dk kL_goBack_ok 1 rfl) rfl ?_
  refine lv_aload_n hx hb (dk kL_goBack_ok 2 rfl) rfl (lv_at hl 0 rfl) ?_
  refine cvD G (As := []) (rest := [.int (nI 0), .ref (ad 85)]) ⟨hx, hb, hml, hown, hts⟩ hM (cwVL 0 hts mcX5_goBack (lc0 _ (List.mem_of_getElem? (i := 9) rfl)) miX5_goBack meX5_goBack mini_RX5 hrc hrs hdX5_goBack ⟨hfr, hlo⟩) hDi hK hP hNW hS (k := 0) (by omega) hF0 rfl rfl hl.1 rfl (Nat.le_of_ble_eq_true rfl) ⟨Nat.le_of_ble_eq_true rfl, Nat.le_of_ble_eq_true rfl⟩ (dk kL_goBack_ok 3 rfl) rfl (fun H locs hP hS => ?_)
  refine lv_i2l (v := r.toInt64) hx hb (dk kL_goBack_ok 4 rfl) rfl ?_
  refine lst _ (k := 85) hx hb hK hDi hP hS hN hG (dk kL_goBack_ok 5 rfl) rfl (fun H locs hP hS => ?_)
  refine lv_goto (tgt := 14) hx hb (dk kL_goBack_ok 6 rfl) (by decide) ?_
  refine lv_iconst (v := nI 0) hx hb (dk kL_goBack_ok 10 rfl) rfl ?_
  exact hret _ _ _ _ _ _ hP hS (by decide) (by decide) (dk kL_goBack_ok 11 rfl)
set_option maxRecDepth 100000 in
set_option maxHeartbeats 4000000 in
theorem tL_goBack_x (l : Launch) (D : va_G) (cI cQ cL : ClassId) (ad : Nat → Nat) (N : Nat) (F : Nat → va_E) (hN : 85 < N) (fs : List Value) (hF0 : F 0 = .inr (5, fs)) (E : String) (kk : Nat) (hE : (E = eS ∧ kk = 1)) {rm : Room} (hM : MT l yX5_goBack (Cond.code yX5_goBack cX5_goBack 1 (some .int) :: AW) rm D cI cQ cL ad N F [.ref (ad 0)] E 1 6) (hrc : rm.cells = 1) (hrs : rm.slots = 6) (hfr : rm.frames + 1 ≤ 12) (hlo : 8 + (1 + 11) + rm.locals ≤ 450) : ML l yL_goBack (Cond.codeWith yL_goBack cL_goBack 3 (some .int) [(0, 8, 11, 17)] :: LW) ({ frames := 12, cells := 1, slots := 6, locals := 450 } : Room) D cI cQ cL ad N F [.ref (ad 0), .ref (ad 85)] (nI kk) F 1 6 := by
  refine ml_of (by decide +kernel) (Nat.le_of_ble_eq_true rfl) (fun p e s m below meth cd Q ls hx hb hml hown hts htab hDi hP hK hNW hS hX hXN hret hl => ?_)
  have hown : s.vm.findClass RL = some m.cls := hown
  have hl : lv_has ls 3 [(0, .ref (ad 0)), (1, .ref (ad 85))] := hl
  refine lv_aload_n hx hb (dk kL_goBack_ok 0 rfl) rfl (lv_at hl 1 rfl) ?_
  refine lv_iconst (v := nI 0) hx hb (dk kL_goBack_ok 1 rfl) rfl ?_
  refine lv_aload_n hx hb (dk kL_goBack_ok 2 rfl) rfl (lv_at hl 0 rfl) ?_
  refine cvT (As := []) (rest := [.int (nI 0), .ref (ad 85)]) ⟨hx, hb, hml, hown, hts⟩ hM (cwVL 0 hts mcX5_goBack (lc0 _ (List.mem_of_getElem? (i := 9) rfl)) miX5_goBack meX5_goBack mini_RX5 hrc hrs hdX5_goBack ⟨hfr, hlo⟩) hDi hK hP hNW hS hX (k := 0) (by omega) hF0 rfl rfl hl.1 rfl (Nat.le_of_ble_eq_true rfl) ⟨Nat.le_of_ble_eq_true rfl, Nat.le_of_ble_eq_true rfl⟩ (dk kL_goBack_ok 3 rfl) (fun H locs q ce hP hS hq hcv hcl => ?_)
  rcases hE with ⟨rfl, rfl⟩
  · refine vx_catch (name := "java/lang/IllegalStateException") hown [] ⟨0, 8, 11, 17⟩ [] (by rw [htab]; rfl) ?_ (by decide) (by decide) (hts _ (lc0 _ (List.mem_of_getElem? (i := 2) rfl))) (XWc hX (List.mem_of_getElem? (i := 0) rfl)) hq hcv hcl ?_
    · exact fun z hz => nomatch hz
    · refine lv_astore_n (lv' := [(2, .ref q), (0, .ref (ad 0)), (1, .ref (ad 85))]) hx hb (dk kL_goBack_ok 7 rfl) rfl hl (by decide) rfl (fun ls hl => ?_)
      refine lv_iconst (v := nI 1) hx hb (dk kL_goBack_ok 8 rfl) rfl ?_
      exact hret _ _ _ _ _ _ hP hS (by decide) (by decide) (dk kL_goBack_ok 9 rfl)
set_option maxRecDepth 100000 in
set_option maxHeartbeats 4000000 in
theorem tL_undo (l : Launch) (D : va_G) (cI cQ cL : ClassId) (ad : Nat → Nat) (N : Nat) (F : Nat → va_E) (hN : 85 < N) (fs : List Value) (hF0 : F 0 = .inr (5, fs)) (G : Nat → va_E) (o : Nat → Int64) (hG : G 85 = .inl (cL, 1, .inr (.inl o))) (r : Int32) {rm : Room} (hM : MX l yX5_undo (Cond.code yX5_undo cX5_undo 1 (some .int) :: AW) rm D cI cQ cL ad N F [.ref (ad 0)] (dp (some (.int r)) G) 0 0) (hrc : rm.cells = 0) (hrs : rm.slots = 0) (hfr : rm.frames + 1 ≤ 12) (hlo : 8 + (1 + 11) + rm.locals ≤ 450) : ML l yL_undo (Cond.codeWith yL_undo cL_undo 3 (some .int) [(0, 8, 11, 17)] :: LW) ({ frames := 12, cells := 1, slots := 6, locals := 450 } : Room) D cI cQ cL ad N F [.ref (ad 0), .ref (ad 85)] (nI 0) (va_up G 85 (.inl (cL, 1, .inr (.inl (vp_updL o 0 r.toInt64))))) 1 6 := by
  refine ml_of (by decide +kernel) (Nat.le_of_ble_eq_true rfl) (fun p e s m below meth cd Q ls hx hb hml hown hts htab hDi hP hK hNW hS hX hXN hret hl => ?_)
  have hown : s.vm.findClass RL = some m.cls := hown
  have hl : lv_has ls 3 [(0, .ref (ad 0)), (1, .ref (ad 85))] := hl
  refine lv_aload_n hx hb (dk kL_undo_ok 0 rfl) rfl (lv_at hl 1 rfl) ?_
  refine lv_iconst (v := nI 0) hx hb (dk kL_undo_ok 1 rfl) rfl ?_
  refine lv_aload_n hx hb (dk kL_undo_ok 2 rfl) rfl (lv_at hl 0 rfl) ?_
  refine cvD G (As := []) (rest := [.int (nI 0), .ref (ad 85)]) ⟨hx, hb, hml, hown, hts⟩ hM (cwVL 0 hts mcX5_undo (lc0 _ (List.mem_of_getElem? (i := 10) rfl)) miX5_undo meX5_undo mini_RX5 hrc hrs hdX5_undo ⟨hfr, hlo⟩) hDi hK hP hNW hS (k := 0) (by omega) hF0 rfl rfl hl.1 rfl (Nat.le_of_ble_eq_true rfl) ⟨Nat.le_of_ble_eq_true rfl, Nat.le_of_ble_eq_true rfl⟩ (dk kL_undo_ok 3 rfl) rfl (fun H locs hP hS => ?_)
  refine lv_i2l (v := r.toInt64) hx hb (dk kL_undo_ok 4 rfl) rfl ?_
  refine lst _ (k := 85) hx hb hK hDi hP hS hN hG (dk kL_undo_ok 5 rfl) rfl (fun H locs hP hS => ?_)
  refine lv_goto (tgt := 14) hx hb (dk kL_undo_ok 6 rfl) (by decide) ?_
  refine lv_iconst (v := nI 0) hx hb (dk kL_undo_ok 10 rfl) rfl ?_
  exact hret _ _ _ _ _ _ hP hS (by decide) (by decide) (dk kL_undo_ok 11 rfl)
set_option maxRecDepth 100000 in
set_option maxHeartbeats 4000000 in
theorem tL_undo_x (l : Launch) (D : va_G) (cI cQ cL : ClassId) (ad : Nat → Nat) (N : Nat) (F : Nat → va_E) (hN : 85 < N) (fs : List Value) (hF0 : F 0 = .inr (5, fs)) (E : String) (kk : Nat) (hE : (E = eS ∧ kk = 1)) {rm : Room} (hM : MT l yX5_undo (Cond.code yX5_undo cX5_undo 1 (some .int) :: AW) rm D cI cQ cL ad N F [.ref (ad 0)] E 1 6) (hrc : rm.cells = 1) (hrs : rm.slots = 6) (hfr : rm.frames + 1 ≤ 12) (hlo : 8 + (1 + 11) + rm.locals ≤ 450) : ML l yL_undo (Cond.codeWith yL_undo cL_undo 3 (some .int) [(0, 8, 11, 17)] :: LW) ({ frames := 12, cells := 1, slots := 6, locals := 450 } : Room) D cI cQ cL ad N F [.ref (ad 0), .ref (ad 85)] (nI kk) F 1 6 := by
  refine ml_of (by decide +kernel) (Nat.le_of_ble_eq_true rfl) (fun p e s m below meth cd Q ls hx hb hml hown hts htab hDi hP hK hNW hS hX hXN hret hl => ?_)
  have hown : s.vm.findClass RL = some m.cls := hown
  have hl : lv_has ls 3 [(0, .ref (ad 0)), (1, .ref (ad 85))] := hl
  refine lv_aload_n hx hb (dk kL_undo_ok 0 rfl) rfl (lv_at hl 1 rfl) ?_
  refine lv_iconst (v := nI 0) hx hb (dk kL_undo_ok 1 rfl) rfl ?_
  refine lv_aload_n hx hb (dk kL_undo_ok 2 rfl) rfl (lv_at hl 0 rfl) ?_
  refine cvT (As := []) (rest := [.int (nI 0), .ref (ad 85)]) ⟨hx, hb, hml, hown, hts⟩ hM (cwVL 0 hts mcX5_undo (lc0 _ (List.mem_of_getElem? (i := 10) rfl)) miX5_undo meX5_undo mini_RX5 hrc hrs hdX5_undo ⟨hfr, hlo⟩) hDi hK hP hNW hS hX (k := 0) (by omega) hF0 rfl rfl hl.1 rfl (Nat.le_of_ble_eq_true rfl) ⟨Nat.le_of_ble_eq_true rfl, Nat.le_of_ble_eq_true rfl⟩ (dk kL_undo_ok 3 rfl) (fun H locs q ce hP hS hq hcv hcl => ?_)
  rcases hE with ⟨rfl, rfl⟩
  · refine vx_catch (name := "java/lang/IllegalStateException") hown [] ⟨0, 8, 11, 17⟩ [] (by rw [htab]; rfl) ?_ (by decide) (by decide) (hts _ (lc0 _ (List.mem_of_getElem? (i := 2) rfl))) (XWc hX (List.mem_of_getElem? (i := 0) rfl)) hq hcv hcl ?_
    · exact fun z hz => nomatch hz
    · refine lv_astore_n (lv' := [(2, .ref q), (0, .ref (ad 0)), (1, .ref (ad 85))]) hx hb (dk kL_undo_ok 7 rfl) rfl hl (by decide) rfl (fun ls hl => ?_)
      refine lv_iconst (v := nI 1) hx hb (dk kL_undo_ok 8 rfl) rfl ?_
      exact hret _ _ _ _ _ _ hP hS (by decide) (by decide) (dk kL_undo_ok 9 rfl)
set_option maxRecDepth 100000 in
set_option maxHeartbeats 4000000 in
theorem tL_wink (l : Launch) (D : va_G) (cI cQ cL : ClassId) (ad : Nat → Nat) (N : Nat) (F : Nat → va_E) (hN : 85 < N) (fs : List Value) (hF0 : F 0 = .inr (5, fs)) (a1 a2 : Int32) (G : Nat → va_E) (o : Nat → Int64) (hG : G 85 = .inl (cL, 1, .inr (.inl o))) (r : Int32) {rm : Room} (hM : MX l yX5_wink (Cond.code yX5_wink cX5_wink 3 (some .int) :: AW) rm D cI cQ cL ad N F [.ref (ad 0), .int a1, .int a2] (dp (some (.int r)) G) 0 0) (hrc : rm.cells = 0) (hrs : rm.slots = 0) (hfr : rm.frames + 1 ≤ 12) (hlo : 8 + (3 + 11) + rm.locals ≤ 450) : ML l yL_wink (Cond.codeWith yL_wink cL_wink 5 (some .int) [(0, 10, 13, 13), (0, 10, 17, 15)] :: LW) ({ frames := 12, cells := 1, slots := 6, locals := 450 } : Room) D cI cQ cL ad N F [.ref (ad 0), .int a1, .int a2, .ref (ad 85)] (nI 0) (va_up G 85 (.inl (cL, 1, .inr (.inl (vp_updL o 0 r.toInt64))))) 1 6 := by
  refine ml_of (by decide +kernel) (Nat.le_of_ble_eq_true rfl) (fun p e s m below meth cd Q ls hx hb hml hown hts htab hDi hP hK hNW hS hX hXN hret hl => ?_)
  have hown : s.vm.findClass RL = some m.cls := hown
  have hl : lv_has ls 5 [(0, .ref (ad 0)), (1, .int a1), (2, .int a2), (3, .ref (ad 85))] := hl
  refine lv_aload_n hx hb (dk kL_wink_ok 0 rfl) rfl (lv_at hl 3 rfl) ?_
  refine lv_iconst (v := nI 0) hx hb (dk kL_wink_ok 1 rfl) rfl ?_
  refine lv_aload_n hx hb (dk kL_wink_ok 2 rfl) rfl (lv_at hl 0 rfl) ?_
  refine lv_iload_n hx hb (dk kL_wink_ok 3 rfl) rfl (lv_at hl 1 rfl) ?_
  refine lv_iload_n hx hb (dk kL_wink_ok 4 rfl) rfl (lv_at hl 2 rfl) ?_
  refine cvD G (As := [.int a1, .int a2]) (rest := [.int (nI 0), .ref (ad 85)]) ⟨hx, hb, hml, hown, hts⟩ hM (cwVL 2 hts mcX5_wink (lc0 _ (List.mem_of_getElem? (i := 11) rfl)) miX5_wink meX5_wink mini_RX5 hrc hrs hdX5_wink ⟨hfr, hlo⟩) hDi hK hP hNW hS (k := 0) (by omega) hF0 rfl rfl hl.1 rfl (Nat.le_of_ble_eq_true rfl) ⟨Nat.le_of_ble_eq_true rfl, Nat.le_of_ble_eq_true rfl⟩ (dk kL_wink_ok 5 rfl) rfl (fun H locs hP hS => ?_)
  refine lv_i2l (v := r.toInt64) hx hb (dk kL_wink_ok 6 rfl) rfl ?_
  refine lst _ (k := 85) hx hb hK hDi hP hS hN hG (dk kL_wink_ok 7 rfl) rfl (fun H locs hP hS => ?_)
  refine lv_goto (tgt := 21) hx hb (dk kL_wink_ok 8 rfl) (by decide) ?_
  refine lv_iconst (v := nI 0) hx hb (dk kL_wink_ok 15 rfl) rfl ?_
  exact hret _ _ _ _ _ _ hP hS (by decide) (by decide) (dk kL_wink_ok 16 rfl)
set_option maxRecDepth 100000 in
set_option maxHeartbeats 4000000 in
theorem tL_wink_x (l : Launch) (D : va_G) (cI cQ cL : ClassId) (ad : Nat → Nat) (N : Nat) (F : Nat → va_E) (hN : 85 < N) (fs : List Value) (hF0 : F 0 = .inr (5, fs)) (a1 a2 : Int32) (E : String) (kk : Nat) (hE : (E = eI ∧ kk = 1) ∨ (E = eA ∧ kk = 2)) {rm : Room} (hM : MT l yX5_wink (Cond.code yX5_wink cX5_wink 3 (some .int) :: AW) rm D cI cQ cL ad N F [.ref (ad 0), .int a1, .int a2] E 1 6) (hrc : rm.cells = 1) (hrs : rm.slots = 6) (hfr : rm.frames + 1 ≤ 12) (hlo : 8 + (3 + 11) + rm.locals ≤ 450) : ML l yL_wink (Cond.codeWith yL_wink cL_wink 5 (some .int) [(0, 10, 13, 13), (0, 10, 17, 15)] :: LW) ({ frames := 12, cells := 1, slots := 6, locals := 450 } : Room) D cI cQ cL ad N F [.ref (ad 0), .int a1, .int a2, .ref (ad 85)] (nI kk) F 1 6 := by
  refine ml_of (by decide +kernel) (Nat.le_of_ble_eq_true rfl) (fun p e s m below meth cd Q ls hx hb hml hown hts htab hDi hP hK hNW hS hX hXN hret hl => ?_)
  have hown : s.vm.findClass RL = some m.cls := hown
  have hl : lv_has ls 5 [(0, .ref (ad 0)), (1, .int a1), (2, .int a2), (3, .ref (ad 85))] := hl
  refine lv_aload_n hx hb (dk kL_wink_ok 0 rfl) rfl (lv_at hl 3 rfl) ?_
  refine lv_iconst (v := nI 0) hx hb (dk kL_wink_ok 1 rfl) rfl ?_
  refine lv_aload_n hx hb (dk kL_wink_ok 2 rfl) rfl (lv_at hl 0 rfl) ?_
  refine lv_iload_n hx hb (dk kL_wink_ok 3 rfl) rfl (lv_at hl 1 rfl) ?_
  refine lv_iload_n hx hb (dk kL_wink_ok 4 rfl) rfl (lv_at hl 2 rfl) ?_
  refine cvT (As := [.int a1, .int a2]) (rest := [.int (nI 0), .ref (ad 85)]) ⟨hx, hb, hml, hown, hts⟩ hM (cwVL 2 hts mcX5_wink (lc0 _ (List.mem_of_getElem? (i := 11) rfl)) miX5_wink meX5_wink mini_RX5 hrc hrs hdX5_wink ⟨hfr, hlo⟩) hDi hK hP hNW hS hX (k := 0) (by omega) hF0 rfl rfl hl.1 rfl (Nat.le_of_ble_eq_true rfl) ⟨Nat.le_of_ble_eq_true rfl, Nat.le_of_ble_eq_true rfl⟩ (dk kL_wink_ok 5 rfl) (fun H locs q ce hP hS hq hcv hcl => ?_)
  rcases hE with ⟨rfl, rfl⟩ | ⟨rfl, rfl⟩
  · refine vx_catch (name := "java/lang/IndexOutOfBoundsException") hown [] ⟨0, 10, 13, 13⟩ [⟨0, 10, 17, 15⟩] (by rw [htab]; rfl) ?_ (by decide) (by decide) (hts _ (lc0 _ (List.mem_of_getElem? (i := 0) rfl))) (XWc hX (List.mem_of_getElem? (i := 2) rfl)) hq hcv hcl ?_
    · exact fun z hz => nomatch hz
    · refine lv_astore (lv' := [(4, .ref q), (0, .ref (ad 0)), (1, .int a1), (2, .int a2), (3, .ref (ad 85))]) hx hb (dk kL_wink_ok 9 rfl) hl (by decide) rfl (fun ls hl => ?_)
      refine lv_iconst (v := nI 1) hx hb (dk kL_wink_ok 10 rfl) rfl ?_
      exact hret _ _ _ _ _ _ hP hS (by decide) (by decide) (dk kL_wink_ok 11 rfl)
  · refine vx_catch (name := "java/lang/IllegalArgumentException") hown [⟨0, 10, 13, 13⟩] ⟨0, 10, 17, 15⟩ [] (by rw [htab]; rfl) ?_ (by decide) (by decide) (hts _ (lc0 _ (List.mem_of_getElem? (i := 1) rfl))) (XWc hX (List.mem_of_getElem? (i := 1) rfl)) hq hcv hcl ?_
    · intro z hz
      rcases List.mem_singleton.mp hz with rfl
      · exact Or.inr ⟨by decide, "java/lang/IndexOutOfBoundsException", hts _ (lc0 _ (List.mem_of_getElem? (i := 0) rfl)), XNn hXN (List.mem_of_getElem? (i := 4) rfl)⟩
    · refine lv_astore (lv' := [(4, .ref q), (0, .ref (ad 0)), (1, .int a1), (2, .int a2), (3, .ref (ad 85))]) hx hb (dk kL_wink_ok 12 rfl) hl (by decide) rfl (fun ls hl => ?_)
      refine lv_iconst (v := nI 2) hx hb (dk kL_wink_ok 13 rfl) rfl ?_
      exact hret _ _ _ _ _ _ hP hS (by decide) (by decide) (dk kL_wink_ok 14 rfl)
set_option maxRecDepth 100000 in
set_option maxHeartbeats 4000000 in
theorem tL_pile (l : Launch) (D : va_G) (cI cQ cL : ClassId) (ad : Nat → Nat) (N : Nat) (F : Nat → va_E) (hN : 85 < N) (fs : List Value) (hF0 : F 0 = .inr (5, fs)) (a1 a2 a3 : Int32) (G : Nat → va_E) (o : Nat → Int64) (hG : G 85 = .inl (cL, 1, .inr (.inl o))) (r : Int32) {rm : Room} (hM : MX l yX5_pile (Cond.code yX5_pile cX5_pile 5 (some .int) :: AW) rm D cI cQ cL ad N F [.ref (ad 0), .int a1, .int a2, .int a3] (dp (some (.int r)) G) 0 0) (hrc : rm.cells = 0) (hrs : rm.slots = 0) (hfr : rm.frames + 1 ≤ 12) (hlo : 8 + (5 + 11) + rm.locals ≤ 450) : ML l yL_pile (Cond.codeWith yL_pile cL_pile 6 (some .int) [(0, 12, 15, 13), (0, 12, 19, 15)] :: LW) ({ frames := 12, cells := 1, slots := 6, locals := 450 } : Room) D cI cQ cL ad N F [.ref (ad 0), .int a1, .int a2, .int a3, .ref (ad 85)] (nI 0) (va_up G 85 (.inl (cL, 1, .inr (.inl (vp_updL o 0 r.toInt64))))) 1 6 := by
  refine ml_of (by decide +kernel) (Nat.le_of_ble_eq_true rfl) (fun p e s m below meth cd Q ls hx hb hml hown hts htab hDi hP hK hNW hS hX hXN hret hl => ?_)
  have hown : s.vm.findClass RL = some m.cls := hown
  have hl : lv_has ls 6 [(0, .ref (ad 0)), (1, .int a1), (2, .int a2), (3, .int a3), (4, .ref (ad 85))] := hl
  refine lv_aload hx hb (dk kL_pile_ok 0 rfl) (lv_at hl 4 rfl) ?_
  refine lv_iconst (v := nI 0) hx hb (dk kL_pile_ok 1 rfl) rfl ?_
  refine lv_aload_n hx hb (dk kL_pile_ok 2 rfl) rfl (lv_at hl 0 rfl) ?_
  refine lv_iload_n hx hb (dk kL_pile_ok 3 rfl) rfl (lv_at hl 1 rfl) ?_
  refine lv_iload_n hx hb (dk kL_pile_ok 4 rfl) rfl (lv_at hl 2 rfl) ?_
  refine lv_iload_n hx hb (dk kL_pile_ok 5 rfl) rfl (lv_at hl 3 rfl) ?_
  refine cvD G (As := [.int a1, .int a2, .int a3]) (rest := [.int (nI 0), .ref (ad 85)]) ⟨hx, hb, hml, hown, hts⟩ hM (cwVL 3 hts mcX5_pile (lc0 _ (List.mem_of_getElem? (i := 12) rfl)) miX5_pile meX5_pile mini_RX5 hrc hrs hdX5_pile ⟨hfr, hlo⟩) hDi hK hP hNW hS (k := 0) (by omega) hF0 rfl rfl hl.1 rfl (Nat.le_of_ble_eq_true rfl) ⟨Nat.le_of_ble_eq_true rfl, Nat.le_of_ble_eq_true rfl⟩ (dk kL_pile_ok 6 rfl) rfl (fun H locs hP hS => ?_)
  refine lv_i2l (v := r.toInt64) hx hb (dk kL_pile_ok 7 rfl) rfl ?_
  refine lst _ (k := 85) hx hb hK hDi hP hS hN hG (dk kL_pile_ok 8 rfl) rfl (fun H locs hP hS => ?_)
  refine lv_goto (tgt := 23) hx hb (dk kL_pile_ok 9 rfl) (by decide) ?_
  refine lv_iconst (v := nI 0) hx hb (dk kL_pile_ok 16 rfl) rfl ?_
  exact hret _ _ _ _ _ _ hP hS (by decide) (by decide) (dk kL_pile_ok 17 rfl)
set_option maxRecDepth 100000 in
set_option maxHeartbeats 4000000 in
theorem tL_pile_x (l : Launch) (D : va_G) (cI cQ cL : ClassId) (ad : Nat → Nat) (N : Nat) (F : Nat → va_E) (hN : 85 < N) (fs : List Value) (hF0 : F 0 = .inr (5, fs)) (a1 a2 a3 : Int32) (E : String) (kk : Nat) (hE : (E = eI ∧ kk = 1) ∨ (E = eA ∧ kk = 2)) {rm : Room} (hM : MT l yX5_pile (Cond.code yX5_pile cX5_pile 5 (some .int) :: AW) rm D cI cQ cL ad N F [.ref (ad 0), .int a1, .int a2, .int a3] E 1 6) (hrc : rm.cells = 1) (hrs : rm.slots = 6) (hfr : rm.frames + 1 ≤ 12) (hlo : 8 + (5 + 11) + rm.locals ≤ 450) : ML l yL_pile (Cond.codeWith yL_pile cL_pile 6 (some .int) [(0, 12, 15, 13), (0, 12, 19, 15)] :: LW) ({ frames := 12, cells := 1, slots := 6, locals := 450 } : Room) D cI cQ cL ad N F [.ref (ad 0), .int a1, .int a2, .int a3, .ref (ad 85)] (nI kk) F 1 6 := by
  refine ml_of (by decide +kernel) (Nat.le_of_ble_eq_true rfl) (fun p e s m below meth cd Q ls hx hb hml hown hts htab hDi hP hK hNW hS hX hXN hret hl => ?_)
  have hown : s.vm.findClass RL = some m.cls := hown
  have hl : lv_has ls 6 [(0, .ref (ad 0)), (1, .int a1), (2, .int a2), (3, .int a3), (4, .ref (ad 85))] := hl
  refine lv_aload hx hb (dk kL_pile_ok 0 rfl) (lv_at hl 4 rfl) ?_
  refine lv_iconst (v := nI 0) hx hb (dk kL_pile_ok 1 rfl) rfl ?_
  refine lv_aload_n hx hb (dk kL_pile_ok 2 rfl) rfl (lv_at hl 0 rfl) ?_
  refine lv_iload_n hx hb (dk kL_pile_ok 3 rfl) rfl (lv_at hl 1 rfl) ?_
  refine lv_iload_n hx hb (dk kL_pile_ok 4 rfl) rfl (lv_at hl 2 rfl) ?_
  refine lv_iload_n hx hb (dk kL_pile_ok 5 rfl) rfl (lv_at hl 3 rfl) ?_
  refine cvT (As := [.int a1, .int a2, .int a3]) (rest := [.int (nI 0), .ref (ad 85)]) ⟨hx, hb, hml, hown, hts⟩ hM (cwVL 3 hts mcX5_pile (lc0 _ (List.mem_of_getElem? (i := 12) rfl)) miX5_pile meX5_pile mini_RX5 hrc hrs hdX5_pile ⟨hfr, hlo⟩) hDi hK hP hNW hS hX (k := 0) (by omega) hF0 rfl rfl hl.1 rfl (Nat.le_of_ble_eq_true rfl) ⟨Nat.le_of_ble_eq_true rfl, Nat.le_of_ble_eq_true rfl⟩ (dk kL_pile_ok 6 rfl) (fun H locs q ce hP hS hq hcv hcl => ?_)
  rcases hE with ⟨rfl, rfl⟩ | ⟨rfl, rfl⟩
  · refine vx_catch (name := "java/lang/IndexOutOfBoundsException") hown [] ⟨0, 12, 15, 13⟩ [⟨0, 12, 19, 15⟩] (by rw [htab]; rfl) ?_ (by decide) (by decide) (hts _ (lc0 _ (List.mem_of_getElem? (i := 0) rfl))) (XWc hX (List.mem_of_getElem? (i := 2) rfl)) hq hcv hcl ?_
    · exact fun z hz => nomatch hz
    · refine lv_astore (lv' := [(5, .ref q), (0, .ref (ad 0)), (1, .int a1), (2, .int a2), (3, .int a3), (4, .ref (ad 85))]) hx hb (dk kL_pile_ok 10 rfl) hl (by decide) rfl (fun ls hl => ?_)
      refine lv_iconst (v := nI 1) hx hb (dk kL_pile_ok 11 rfl) rfl ?_
      exact hret _ _ _ _ _ _ hP hS (by decide) (by decide) (dk kL_pile_ok 12 rfl)
  · refine vx_catch (name := "java/lang/IllegalArgumentException") hown [⟨0, 12, 15, 13⟩] ⟨0, 12, 19, 15⟩ [] (by rw [htab]; rfl) ?_ (by decide) (by decide) (hts _ (lc0 _ (List.mem_of_getElem? (i := 1) rfl))) (XWc hX (List.mem_of_getElem? (i := 1) rfl)) hq hcv hcl ?_
    · intro z hz
      rcases List.mem_singleton.mp hz with rfl
      · exact Or.inr ⟨by decide, "java/lang/IndexOutOfBoundsException", hts _ (lc0 _ (List.mem_of_getElem? (i := 0) rfl)), XNn hXN (List.mem_of_getElem? (i := 4) rfl)⟩
    · refine lv_astore (lv' := [(5, .ref q), (0, .ref (ad 0)), (1, .int a1), (2, .int a2), (3, .int a3), (4, .ref (ad 85))]) hx hb (dk kL_pile_ok 13 rfl) hl (by decide) rfl (fun ls hl => ?_)
      refine lv_iconst (v := nI 2) hx hb (dk kL_pile_ok 14 rfl) rfl ?_
      exact hret _ _ _ _ _ _ hP hS (by decide) (by decide) (dk kL_pile_ok 15 rfl)
set_option maxRecDepth 100000 in
set_option maxHeartbeats 4000000 in
theorem tL_colour (l : Launch) (D : va_G) (cI cQ cL : ClassId) (ad : Nat → Nat) (N : Nat) (F : Nat → va_E) (hN : 85 < N) (fs : List Value) (hF0 : F 0 = .inr (5, fs)) (a1 a2 : Int32) (G : Nat → va_E) (o : Nat → Int64) (hG : G 85 = .inl (cL, 1, .inr (.inl o))) (r : Int32) {rm : Room} (hM : MX l yX5_colour (Cond.code yX5_colour cX5_colour 3 (some .int) :: AW) rm D cI cQ cL ad N F [.ref (ad 0), .int a1, .int a2] (dp (some (.int r)) G) 0 0) (hrc : rm.cells = 0) (hrs : rm.slots = 0) (hfr : rm.frames + 1 ≤ 12) (hlo : 8 + (3 + 11) + rm.locals ≤ 450) : ML l yL_colour (Cond.codeWith yL_colour cL_colour 5 (some .int) [(0, 10, 13, 13), (0, 10, 17, 15)] :: LW) ({ frames := 12, cells := 1, slots := 6, locals := 450 } : Room) D cI cQ cL ad N F [.ref (ad 0), .int a1, .int a2, .ref (ad 85)] (nI 0) (va_up G 85 (.inl (cL, 1, .inr (.inl (vp_updL o 0 r.toInt64))))) 1 6 := by
  refine ml_of (by decide +kernel) (Nat.le_of_ble_eq_true rfl) (fun p e s m below meth cd Q ls hx hb hml hown hts htab hDi hP hK hNW hS hX hXN hret hl => ?_)
  have hown : s.vm.findClass RL = some m.cls := hown
  have hl : lv_has ls 5 [(0, .ref (ad 0)), (1, .int a1), (2, .int a2), (3, .ref (ad 85))] := hl
  refine lv_aload_n hx hb (dk kL_colour_ok 0 rfl) rfl (lv_at hl 3 rfl) ?_
  refine lv_iconst (v := nI 0) hx hb (dk kL_colour_ok 1 rfl) rfl ?_
  refine lv_aload_n hx hb (dk kL_colour_ok 2 rfl) rfl (lv_at hl 0 rfl) ?_
  refine lv_iload_n hx hb (dk kL_colour_ok 3 rfl) rfl (lv_at hl 1 rfl) ?_
  refine lv_iload_n hx hb (dk kL_colour_ok 4 rfl) rfl (lv_at hl 2 rfl) ?_
  refine cvD G (As := [.int a1, .int a2]) (rest := [.int (nI 0), .ref (ad 85)]) ⟨hx, hb, hml, hown, hts⟩ hM (cwVL 2 hts mcX5_colour (lc0 _ (List.mem_of_getElem? (i := 13) rfl)) miX5_colour meX5_colour mini_RX5 hrc hrs hdX5_colour ⟨hfr, hlo⟩) hDi hK hP hNW hS (k := 0) (by omega) hF0 rfl rfl hl.1 rfl (Nat.le_of_ble_eq_true rfl) ⟨Nat.le_of_ble_eq_true rfl, Nat.le_of_ble_eq_true rfl⟩ (dk kL_colour_ok 5 rfl) rfl (fun H locs hP hS => ?_)
  refine lv_i2l (v := r.toInt64) hx hb (dk kL_colour_ok 6 rfl) rfl ?_
  refine lst _ (k := 85) hx hb hK hDi hP hS hN hG (dk kL_colour_ok 7 rfl) rfl (fun H locs hP hS => ?_)
  refine lv_goto (tgt := 21) hx hb (dk kL_colour_ok 8 rfl) (by decide) ?_
  refine lv_iconst (v := nI 0) hx hb (dk kL_colour_ok 15 rfl) rfl ?_
  exact hret _ _ _ _ _ _ hP hS (by decide) (by decide) (dk kL_colour_ok 16 rfl)
set_option maxRecDepth 100000 in
set_option maxHeartbeats 4000000 in
theorem tL_colour_x (l : Launch) (D : va_G) (cI cQ cL : ClassId) (ad : Nat → Nat) (N : Nat) (F : Nat → va_E) (hN : 85 < N) (fs : List Value) (hF0 : F 0 = .inr (5, fs)) (a1 a2 : Int32) (E : String) (kk : Nat) (hE : (E = eI ∧ kk = 1) ∨ (E = eA ∧ kk = 2)) {rm : Room} (hM : MT l yX5_colour (Cond.code yX5_colour cX5_colour 3 (some .int) :: AW) rm D cI cQ cL ad N F [.ref (ad 0), .int a1, .int a2] E 1 6) (hrc : rm.cells = 1) (hrs : rm.slots = 6) (hfr : rm.frames + 1 ≤ 12) (hlo : 8 + (3 + 11) + rm.locals ≤ 450) : ML l yL_colour (Cond.codeWith yL_colour cL_colour 5 (some .int) [(0, 10, 13, 13), (0, 10, 17, 15)] :: LW) ({ frames := 12, cells := 1, slots := 6, locals := 450 } : Room) D cI cQ cL ad N F [.ref (ad 0), .int a1, .int a2, .ref (ad 85)] (nI kk) F 1 6 := by
  refine ml_of (by decide +kernel) (Nat.le_of_ble_eq_true rfl) (fun p e s m below meth cd Q ls hx hb hml hown hts htab hDi hP hK hNW hS hX hXN hret hl => ?_)
  have hown : s.vm.findClass RL = some m.cls := hown
  have hl : lv_has ls 5 [(0, .ref (ad 0)), (1, .int a1), (2, .int a2), (3, .ref (ad 85))] := hl
  refine lv_aload_n hx hb (dk kL_colour_ok 0 rfl) rfl (lv_at hl 3 rfl) ?_
  refine lv_iconst (v := nI 0) hx hb (dk kL_colour_ok 1 rfl) rfl ?_
  refine lv_aload_n hx hb (dk kL_colour_ok 2 rfl) rfl (lv_at hl 0 rfl) ?_
  refine lv_iload_n hx hb (dk kL_colour_ok 3 rfl) rfl (lv_at hl 1 rfl) ?_
  refine lv_iload_n hx hb (dk kL_colour_ok 4 rfl) rfl (lv_at hl 2 rfl) ?_
  refine cvT (As := [.int a1, .int a2]) (rest := [.int (nI 0), .ref (ad 85)]) ⟨hx, hb, hml, hown, hts⟩ hM (cwVL 2 hts mcX5_colour (lc0 _ (List.mem_of_getElem? (i := 13) rfl)) miX5_colour meX5_colour mini_RX5 hrc hrs hdX5_colour ⟨hfr, hlo⟩) hDi hK hP hNW hS hX (k := 0) (by omega) hF0 rfl rfl hl.1 rfl (Nat.le_of_ble_eq_true rfl) ⟨Nat.le_of_ble_eq_true rfl, Nat.le_of_ble_eq_true rfl⟩ (dk kL_colour_ok 5 rfl) (fun H locs q ce hP hS hq hcv hcl => ?_)
  rcases hE with ⟨rfl, rfl⟩ | ⟨rfl, rfl⟩
  · refine vx_catch (name := "java/lang/IndexOutOfBoundsException") hown [] ⟨0, 10, 13, 13⟩ [⟨0, 10, 17, 15⟩] (by rw [htab]; rfl) ?_ (by decide) (by decide) (hts _ (lc0 _ (List.mem_of_getElem? (i := 0) rfl))) (XWc hX (List.mem_of_getElem? (i := 2) rfl)) hq hcv hcl ?_
    · exact fun z hz => nomatch hz
    · refine lv_astore (lv' := [(4, .ref q), (0, .ref (ad 0)), (1, .int a1), (2, .int a2), (3, .ref (ad 85))]) hx hb (dk kL_colour_ok 9 rfl) hl (by decide) rfl (fun ls hl => ?_)
      refine lv_iconst (v := nI 1) hx hb (dk kL_colour_ok 10 rfl) rfl ?_
      exact hret _ _ _ _ _ _ hP hS (by decide) (by decide) (dk kL_colour_ok 11 rfl)
  · refine vx_catch (name := "java/lang/IllegalArgumentException") hown [⟨0, 10, 13, 13⟩] ⟨0, 10, 17, 15⟩ [] (by rw [htab]; rfl) ?_ (by decide) (by decide) (hts _ (lc0 _ (List.mem_of_getElem? (i := 1) rfl))) (XWc hX (List.mem_of_getElem? (i := 1) rfl)) hq hcv hcl ?_
    · intro z hz
      rcases List.mem_singleton.mp hz with rfl
      · exact Or.inr ⟨by decide, "java/lang/IndexOutOfBoundsException", hts _ (lc0 _ (List.mem_of_getElem? (i := 0) rfl)), XNn hXN (List.mem_of_getElem? (i := 4) rfl)⟩
    · refine lv_astore (lv' := [(4, .ref q), (0, .ref (ad 0)), (1, .int a1), (2, .int a2), (3, .ref (ad 85))]) hx hb (dk kL_colour_ok 12 rfl) hl (by decide) rfl (fun ls hl => ?_)
      refine lv_iconst (v := nI 2) hx hb (dk kL_colour_ok 13 rfl) rfl ?_
      exact hret _ _ _ _ _ _ hP hS (by decide) (by decide) (dk kL_colour_ok 14 rfl)
set_option maxRecDepth 100000 in
set_option maxHeartbeats 4000000 in
theorem tL_count (l : Launch) (D : va_G) (cI cQ cL : ClassId) (ad : Nat → Nat) (N : Nat) (F : Nat → va_E) (hN : 85 < N) (fs : List Value) (hF0 : F 0 = .inr (5, fs)) (a1 : Int32) (G : Nat → va_E) (o : Nat → Int64) (hG : G 85 = .inl (cL, 1, .inr (.inl o))) (r : Int32) {rm : Room} (hM : MX l yX5_count (Cond.code yX5_count cX5_count 2 (some .int) :: AW) rm D cI cQ cL ad N F [.ref (ad 0), .int a1] (dp (some (.int r)) G) 0 0) (hrc : rm.cells = 0) (hrs : rm.slots = 0) (hfr : rm.frames + 1 ≤ 12) (hlo : 8 + (2 + 11) + rm.locals ≤ 450) : ML l yL_count (Cond.codeWith yL_count cL_count 4 (some .int) [(0, 9, 12, 15)] :: LW) ({ frames := 12, cells := 1, slots := 6, locals := 450 } : Room) D cI cQ cL ad N F [.ref (ad 0), .int a1, .ref (ad 85)] (nI 0) (va_up G 85 (.inl (cL, 1, .inr (.inl (vp_updL o 0 r.toInt64))))) 1 6 := by
  refine ml_of (by decide +kernel) (Nat.le_of_ble_eq_true rfl) (fun p e s m below meth cd Q ls hx hb hml hown hts htab hDi hP hK hNW hS hX hXN hret hl => ?_)
  have hown : s.vm.findClass RL = some m.cls := hown
  have hl : lv_has ls 4 [(0, .ref (ad 0)), (1, .int a1), (2, .ref (ad 85))] := hl
  refine lv_aload_n hx hb (dk kL_count_ok 0 rfl) rfl (lv_at hl 2 rfl) ?_
  refine lv_iconst (v := nI 0) hx hb (dk kL_count_ok 1 rfl) rfl ?_
  refine lv_aload_n hx hb (dk kL_count_ok 2 rfl) rfl (lv_at hl 0 rfl) ?_
  refine lv_iload_n hx hb (dk kL_count_ok 3 rfl) rfl (lv_at hl 1 rfl) ?_
  refine cvD G (As := [.int a1]) (rest := [.int (nI 0), .ref (ad 85)]) ⟨hx, hb, hml, hown, hts⟩ hM (cwVL 1 hts mcX5_count (lc0 _ (List.mem_of_getElem? (i := 14) rfl)) miX5_count meX5_count mini_RX5 hrc hrs hdX5_count ⟨hfr, hlo⟩) hDi hK hP hNW hS (k := 0) (by omega) hF0 rfl rfl hl.1 rfl (Nat.le_of_ble_eq_true rfl) ⟨Nat.le_of_ble_eq_true rfl, Nat.le_of_ble_eq_true rfl⟩ (dk kL_count_ok 4 rfl) rfl (fun H locs hP hS => ?_)
  refine lv_i2l (v := r.toInt64) hx hb (dk kL_count_ok 5 rfl) rfl ?_
  refine lst _ (k := 85) hx hb hK hDi hP hS hN hG (dk kL_count_ok 6 rfl) rfl (fun H locs hP hS => ?_)
  refine lv_goto (tgt := 15) hx hb (dk kL_count_ok 7 rfl) (by decide) ?_
  refine lv_iconst (v := nI 0) hx hb (dk kL_count_ok 11 rfl) rfl ?_
  exact hret _ _ _ _ _ _ hP hS (by decide) (by decide) (dk kL_count_ok 12 rfl)
set_option maxRecDepth 100000 in
set_option maxHeartbeats 4000000 in
theorem tL_count_x (l : Launch) (D : va_G) (cI cQ cL : ClassId) (ad : Nat → Nat) (N : Nat) (F : Nat → va_E) (hN : 85 < N) (fs : List Value) (hF0 : F 0 = .inr (5, fs)) (a1 : Int32) (E : String) (kk : Nat) (hE : (E = eA ∧ kk = 1)) {rm : Room} (hM : MT l yX5_count (Cond.code yX5_count cX5_count 2 (some .int) :: AW) rm D cI cQ cL ad N F [.ref (ad 0), .int a1] E 1 6) (hrc : rm.cells = 1) (hrs : rm.slots = 6) (hfr : rm.frames + 1 ≤ 12) (hlo : 8 + (2 + 11) + rm.locals ≤ 450) : ML l yL_count (Cond.codeWith yL_count cL_count 4 (some .int) [(0, 9, 12, 15)] :: LW) ({ frames := 12, cells := 1, slots := 6, locals := 450 } : Room) D cI cQ cL ad N F [.ref (ad 0), .int a1, .ref (ad 85)] (nI kk) F 1 6 := by
  refine ml_of (by decide +kernel) (Nat.le_of_ble_eq_true rfl) (fun p e s m below meth cd Q ls hx hb hml hown hts htab hDi hP hK hNW hS hX hXN hret hl => ?_)
  have hown : s.vm.findClass RL = some m.cls := hown
  have hl : lv_has ls 4 [(0, .ref (ad 0)), (1, .int a1), (2, .ref (ad 85))] := hl
  refine lv_aload_n hx hb (dk kL_count_ok 0 rfl) rfl (lv_at hl 2 rfl) ?_
  refine lv_iconst (v := nI 0) hx hb (dk kL_count_ok 1 rfl) rfl ?_
  refine lv_aload_n hx hb (dk kL_count_ok 2 rfl) rfl (lv_at hl 0 rfl) ?_
  refine lv_iload_n hx hb (dk kL_count_ok 3 rfl) rfl (lv_at hl 1 rfl) ?_
  refine cvT (As := [.int a1]) (rest := [.int (nI 0), .ref (ad 85)]) ⟨hx, hb, hml, hown, hts⟩ hM (cwVL 1 hts mcX5_count (lc0 _ (List.mem_of_getElem? (i := 14) rfl)) miX5_count meX5_count mini_RX5 hrc hrs hdX5_count ⟨hfr, hlo⟩) hDi hK hP hNW hS hX (k := 0) (by omega) hF0 rfl rfl hl.1 rfl (Nat.le_of_ble_eq_true rfl) ⟨Nat.le_of_ble_eq_true rfl, Nat.le_of_ble_eq_true rfl⟩ (dk kL_count_ok 4 rfl) (fun H locs q ce hP hS hq hcv hcl => ?_)
  rcases hE with ⟨rfl, rfl⟩
  · refine vx_catch (name := "java/lang/IllegalArgumentException") hown [] ⟨0, 9, 12, 15⟩ [] (by rw [htab]; rfl) ?_ (by decide) (by decide) (hts _ (lc0 _ (List.mem_of_getElem? (i := 1) rfl))) (XWc hX (List.mem_of_getElem? (i := 1) rfl)) hq hcv hcl ?_
    · exact fun z hz => nomatch hz
    · refine lv_astore_n (lv' := [(3, .ref q), (0, .ref (ad 0)), (1, .int a1), (2, .ref (ad 85))]) hx hb (dk kL_count_ok 8 rfl) rfl hl (by decide) rfl (fun ls hl => ?_)
      refine lv_iconst (v := nI 1) hx hb (dk kL_count_ok 9 rfl) rfl ?_
      exact hret _ _ _ _ _ _ hP hS (by decide) (by decide) (dk kL_count_ok 10 rfl)
set_option maxRecDepth 100000 in
set_option maxHeartbeats 4000000 in
theorem tL_why (l : Launch) (D : va_G) (cI cQ cL : ClassId) (ad : Nat → Nat) (N : Nat) (F : Nat → va_E) (hN : 85 < N) (fs : List Value) (hF0 : F 0 = .inr (5, fs)) (a1 a2 a3 a4 : Int32) (G : Nat → va_E) (o : Nat → Int64) (hG : G 85 = .inl (cL, 1, .inr (.inl o))) (r : Int32) {rm : Room} (hM : MX l yX5_why (Cond.code yX5_why cX5_why 5 (some .int) :: AW) rm D cI cQ cL ad N F [.ref (ad 0), .int a1, .int a2, .int a3, .int a4] (dp (some (.int r)) G) 0 0) (hrc : rm.cells = 0) (hrs : rm.slots = 0) (hfr : rm.frames + 1 ≤ 12) (hlo : 8 + (5 + 11) + rm.locals ≤ 450) : ML l yL_why (Cond.codeWith yL_why cL_why 7 (some .int) [(0, 14, 17, 13), (0, 14, 21, 15)] :: LW) ({ frames := 12, cells := 1, slots := 6, locals := 450 } : Room) D cI cQ cL ad N F [.ref (ad 0), .int a1, .int a2, .int a3, .int a4, .ref (ad 85)] (nI 0) (va_up G 85 (.inl (cL, 1, .inr (.inl (vp_updL o 0 r.toInt64))))) 1 6 := by
  refine ml_of (by decide +kernel) (Nat.le_of_ble_eq_true rfl) (fun p e s m below meth cd Q ls hx hb hml hown hts htab hDi hP hK hNW hS hX hXN hret hl => ?_)
  have hown : s.vm.findClass RL = some m.cls := hown
  have hl : lv_has ls 7 [(0, .ref (ad 0)), (1, .int a1), (2, .int a2), (3, .int a3), (4, .int a4), (5, .ref (ad 85))] := hl
  refine lv_aload hx hb (dk kL_why_ok 0 rfl) (lv_at hl 5 rfl) ?_
  refine lv_iconst (v := nI 0) hx hb (dk kL_why_ok 1 rfl) rfl ?_
  refine lv_aload_n hx hb (dk kL_why_ok 2 rfl) rfl (lv_at hl 0 rfl) ?_
  refine lv_iload_n hx hb (dk kL_why_ok 3 rfl) rfl (lv_at hl 1 rfl) ?_
  refine lv_iload_n hx hb (dk kL_why_ok 4 rfl) rfl (lv_at hl 2 rfl) ?_
  refine lv_iload_n hx hb (dk kL_why_ok 5 rfl) rfl (lv_at hl 3 rfl) ?_
  refine lv_iload hx hb (dk kL_why_ok 6 rfl) (lv_at hl 4 rfl) ?_
  refine cvD G (As := [.int a1, .int a2, .int a3, .int a4]) (rest := [.int (nI 0), .ref (ad 85)]) ⟨hx, hb, hml, hown, hts⟩ hM (cwVL 4 hts mcX5_why (lc0 _ (List.mem_of_getElem? (i := 15) rfl)) miX5_why meX5_why mini_RX5 hrc hrs hdX5_why ⟨hfr, hlo⟩) hDi hK hP hNW hS (k := 0) (by omega) hF0 rfl rfl hl.1 rfl (Nat.le_of_ble_eq_true rfl) ⟨Nat.le_of_ble_eq_true rfl, Nat.le_of_ble_eq_true rfl⟩ (dk kL_why_ok 7 rfl) rfl (fun H locs hP hS => ?_)
  refine lv_i2l (v := r.toInt64) hx hb (dk kL_why_ok 8 rfl) rfl ?_
  refine lst _ (k := 85) hx hb hK hDi hP hS hN hG (dk kL_why_ok 9 rfl) rfl (fun H locs hP hS => ?_)
  refine lv_goto (tgt := 25) hx hb (dk kL_why_ok 10 rfl) (by decide) ?_
  refine lv_iconst (v := nI 0) hx hb (dk kL_why_ok 17 rfl) rfl ?_
  exact hret _ _ _ _ _ _ hP hS (by decide) (by decide) (dk kL_why_ok 18 rfl)
set_option maxRecDepth 100000 in
set_option maxHeartbeats 4000000 in
theorem tL_why_x (l : Launch) (D : va_G) (cI cQ cL : ClassId) (ad : Nat → Nat) (N : Nat) (F : Nat → va_E) (hN : 85 < N) (fs : List Value) (hF0 : F 0 = .inr (5, fs)) (a1 a2 a3 a4 : Int32) (E : String) (kk : Nat) (hE : (E = eI ∧ kk = 1) ∨ (E = eA ∧ kk = 2)) {rm : Room} (hM : MT l yX5_why (Cond.code yX5_why cX5_why 5 (some .int) :: AW) rm D cI cQ cL ad N F [.ref (ad 0), .int a1, .int a2, .int a3, .int a4] E 1 6) (hrc : rm.cells = 1) (hrs : rm.slots = 6) (hfr : rm.frames + 1 ≤ 12) (hlo : 8 + (5 + 11) + rm.locals ≤ 450) : ML l yL_why (Cond.codeWith yL_why cL_why 7 (some .int) [(0, 14, 17, 13), (0, 14, 21, 15)] :: LW) ({ frames := 12, cells := 1, slots := 6, locals := 450 } : Room) D cI cQ cL ad N F [.ref (ad 0), .int a1, .int a2, .int a3, .int a4, .ref (ad 85)] (nI kk) F 1 6 := by
  refine ml_of (by decide +kernel) (Nat.le_of_ble_eq_true rfl) (fun p e s m below meth cd Q ls hx hb hml hown hts htab hDi hP hK hNW hS hX hXN hret hl => ?_)
  have hown : s.vm.findClass RL = some m.cls := hown
  have hl : lv_has ls 7 [(0, .ref (ad 0)), (1, .int a1), (2, .int a2), (3, .int a3), (4, .int a4), (5, .ref (ad 85))] := hl
  refine lv_aload hx hb (dk kL_why_ok 0 rfl) (lv_at hl 5 rfl) ?_
  refine lv_iconst (v := nI 0) hx hb (dk kL_why_ok 1 rfl) rfl ?_
  refine lv_aload_n hx hb (dk kL_why_ok 2 rfl) rfl (lv_at hl 0 rfl) ?_
  refine lv_iload_n hx hb (dk kL_why_ok 3 rfl) rfl (lv_at hl 1 rfl) ?_
  refine lv_iload_n hx hb (dk kL_why_ok 4 rfl) rfl (lv_at hl 2 rfl) ?_
  refine lv_iload_n hx hb (dk kL_why_ok 5 rfl) rfl (lv_at hl 3 rfl) ?_
  refine lv_iload hx hb (dk kL_why_ok 6 rfl) (lv_at hl 4 rfl) ?_
  refine cvT (As := [.int a1, .int a2, .int a3, .int a4]) (rest := [.int (nI 0), .ref (ad 85)]) ⟨hx, hb, hml, hown, hts⟩ hM (cwVL 4 hts mcX5_why (lc0 _ (List.mem_of_getElem? (i := 15) rfl)) miX5_why meX5_why mini_RX5 hrc hrs hdX5_why ⟨hfr, hlo⟩) hDi hK hP hNW hS hX (k := 0) (by omega) hF0 rfl rfl hl.1 rfl (Nat.le_of_ble_eq_true rfl) ⟨Nat.le_of_ble_eq_true rfl, Nat.le_of_ble_eq_true rfl⟩ (dk kL_why_ok 7 rfl) (fun H locs q ce hP hS hq hcv hcl => ?_)
  rcases hE with ⟨rfl, rfl⟩ | ⟨rfl, rfl⟩
  · refine vx_catch (name := "java/lang/IndexOutOfBoundsException") hown [] ⟨0, 14, 17, 13⟩ [⟨0, 14, 21, 15⟩] (by rw [htab]; rfl) ?_ (by decide) (by decide) (hts _ (lc0 _ (List.mem_of_getElem? (i := 0) rfl))) (XWc hX (List.mem_of_getElem? (i := 2) rfl)) hq hcv hcl ?_
    · exact fun z hz => nomatch hz
    · refine lv_astore (lv' := [(6, .ref q), (0, .ref (ad 0)), (1, .int a1), (2, .int a2), (3, .int a3), (4, .int a4), (5, .ref (ad 85))]) hx hb (dk kL_why_ok 11 rfl) hl (by decide) rfl (fun ls hl => ?_)
      refine lv_iconst (v := nI 1) hx hb (dk kL_why_ok 12 rfl) rfl ?_
      exact hret _ _ _ _ _ _ hP hS (by decide) (by decide) (dk kL_why_ok 13 rfl)
  · refine vx_catch (name := "java/lang/IllegalArgumentException") hown [⟨0, 14, 17, 13⟩] ⟨0, 14, 21, 15⟩ [] (by rw [htab]; rfl) ?_ (by decide) (by decide) (hts _ (lc0 _ (List.mem_of_getElem? (i := 1) rfl))) (XWc hX (List.mem_of_getElem? (i := 1) rfl)) hq hcv hcl ?_
    · intro z hz
      rcases List.mem_singleton.mp hz with rfl
      · exact Or.inr ⟨by decide, "java/lang/IndexOutOfBoundsException", hts _ (lc0 _ (List.mem_of_getElem? (i := 0) rfl)), XNn hXN (List.mem_of_getElem? (i := 4) rfl)⟩
    · refine lv_astore (lv' := [(6, .ref q), (0, .ref (ad 0)), (1, .int a1), (2, .int a2), (3, .int a3), (4, .int a4), (5, .ref (ad 85))]) hx hb (dk kL_why_ok 14 rfl) hl (by decide) rfl (fun ls hl => ?_)
      refine lv_iconst (v := nI 2) hx hb (dk kL_why_ok 15 rfl) rfl ?_
      exact hret _ _ _ _ _ _ hP hS (by decide) (by decide) (dk kL_why_ok 16 rfl)
set_option maxRecDepth 100000 in
set_option maxHeartbeats 4000000 in
theorem tL_lands (l : Launch) (D : va_G) (cI cQ cL : ClassId) (ad : Nat → Nat) (N : Nat) (F : Nat → va_E) (hN : 85 < N) (fs : List Value) (hF0 : F 0 = .inr (5, fs)) (a1 a2 a3 : Int32) (G : Nat → va_E) (o : Nat → Int64) (hG : G 85 = .inl (cL, 1, .inr (.inl o))) (r : Int32) {rm : Room} (hM : MX l yX5_lands (Cond.code yX5_lands cX5_lands 4 (some .int) :: AW) rm D cI cQ cL ad N F [.ref (ad 0), .int a1, .int a2, .int a3] (dp (some (.int r)) G) 0 0) (hrc : rm.cells = 0) (hrs : rm.slots = 0) (hfr : rm.frames + 1 ≤ 12) (hlo : 8 + (4 + 11) + rm.locals ≤ 450) : ML l yL_lands (Cond.codeWith yL_lands cL_lands 6 (some .int) [(0, 12, 15, 13), (0, 12, 19, 15)] :: LW) ({ frames := 12, cells := 1, slots := 6, locals := 450 } : Room) D cI cQ cL ad N F [.ref (ad 0), .int a1, .int a2, .int a3, .ref (ad 85)] (nI 0) (va_up G 85 (.inl (cL, 1, .inr (.inl (vp_updL o 0 r.toInt64))))) 1 6 := by
  refine ml_of (by decide +kernel) (Nat.le_of_ble_eq_true rfl) (fun p e s m below meth cd Q ls hx hb hml hown hts htab hDi hP hK hNW hS hX hXN hret hl => ?_)
  have hown : s.vm.findClass RL = some m.cls := hown
  have hl : lv_has ls 6 [(0, .ref (ad 0)), (1, .int a1), (2, .int a2), (3, .int a3), (4, .ref (ad 85))] := hl
  refine lv_aload hx hb (dk kL_lands_ok 0 rfl) (lv_at hl 4 rfl) ?_
  refine lv_iconst (v := nI 0) hx hb (dk kL_lands_ok 1 rfl) rfl ?_
  refine lv_aload_n hx hb (dk kL_lands_ok 2 rfl) rfl (lv_at hl 0 rfl) ?_
  refine lv_iload_n hx hb (dk kL_lands_ok 3 rfl) rfl (lv_at hl 1 rfl) ?_
  refine lv_iload_n hx hb (dk kL_lands_ok 4 rfl) rfl (lv_at hl 2 rfl) ?_
  refine lv_iload_n hx hb (dk kL_lands_ok 5 rfl) rfl (lv_at hl 3 rfl) ?_
  refine cvD G (As := [.int a1, .int a2, .int a3]) (rest := [.int (nI 0), .ref (ad 85)]) ⟨hx, hb, hml, hown, hts⟩ hM (cwVL 3 hts mcX5_lands (lc0 _ (List.mem_of_getElem? (i := 16) rfl)) miX5_lands meX5_lands mini_RX5 hrc hrs hdX5_lands ⟨hfr, hlo⟩) hDi hK hP hNW hS (k := 0) (by omega) hF0 rfl rfl hl.1 rfl (Nat.le_of_ble_eq_true rfl) ⟨Nat.le_of_ble_eq_true rfl, Nat.le_of_ble_eq_true rfl⟩ (dk kL_lands_ok 6 rfl) rfl (fun H locs hP hS => ?_)
  refine lv_i2l (v := r.toInt64) hx hb (dk kL_lands_ok 7 rfl) rfl ?_
  refine lst _ (k := 85) hx hb hK hDi hP hS hN hG (dk kL_lands_ok 8 rfl) rfl (fun H locs hP hS => ?_)
  refine lv_goto (tgt := 23) hx hb (dk kL_lands_ok 9 rfl) (by decide) ?_
  refine lv_iconst (v := nI 0) hx hb (dk kL_lands_ok 16 rfl) rfl ?_
  exact hret _ _ _ _ _ _ hP hS (by decide) (by decide) (dk kL_lands_ok 17 rfl)
set_option maxRecDepth 100000 in
set_option maxHeartbeats 4000000 in
theorem tL_lands_x (l : Launch) (D : va_G) (cI cQ cL : ClassId) (ad : Nat → Nat) (N : Nat) (F : Nat → va_E) (hN : 85 < N) (fs : List Value) (hF0 : F 0 = .inr (5, fs)) (a1 a2 a3 : Int32) (E : String) (kk : Nat) (hE : (E = eI ∧ kk = 1) ∨ (E = eA ∧ kk = 2)) {rm : Room} (hM : MT l yX5_lands (Cond.code yX5_lands cX5_lands 4 (some .int) :: AW) rm D cI cQ cL ad N F [.ref (ad 0), .int a1, .int a2, .int a3] E 1 6) (hrc : rm.cells = 1) (hrs : rm.slots = 6) (hfr : rm.frames + 1 ≤ 12) (hlo : 8 + (4 + 11) + rm.locals ≤ 450) : ML l yL_lands (Cond.codeWith yL_lands cL_lands 6 (some .int) [(0, 12, 15, 13), (0, 12, 19, 15)] :: LW) ({ frames := 12, cells := 1, slots := 6, locals := 450 } : Room) D cI cQ cL ad N F [.ref (ad 0), .int a1, .int a2, .int a3, .ref (ad 85)] (nI kk) F 1 6 := by
  refine ml_of (by decide +kernel) (Nat.le_of_ble_eq_true rfl) (fun p e s m below meth cd Q ls hx hb hml hown hts htab hDi hP hK hNW hS hX hXN hret hl => ?_)
  have hown : s.vm.findClass RL = some m.cls := hown
  have hl : lv_has ls 6 [(0, .ref (ad 0)), (1, .int a1), (2, .int a2), (3, .int a3), (4, .ref (ad 85))] := hl
  refine lv_aload hx hb (dk kL_lands_ok 0 rfl) (lv_at hl 4 rfl) ?_
  refine lv_iconst (v := nI 0) hx hb (dk kL_lands_ok 1 rfl) rfl ?_
  refine lv_aload_n hx hb (dk kL_lands_ok 2 rfl) rfl (lv_at hl 0 rfl) ?_
  refine lv_iload_n hx hb (dk kL_lands_ok 3 rfl) rfl (lv_at hl 1 rfl) ?_
  refine lv_iload_n hx hb (dk kL_lands_ok 4 rfl) rfl (lv_at hl 2 rfl) ?_
  refine lv_iload_n hx hb (dk kL_lands_ok 5 rfl) rfl (lv_at hl 3 rfl) ?_
  refine cvT (As := [.int a1, .int a2, .int a3]) (rest := [.int (nI 0), .ref (ad 85)]) ⟨hx, hb, hml, hown, hts⟩ hM (cwVL 3 hts mcX5_lands (lc0 _ (List.mem_of_getElem? (i := 16) rfl)) miX5_lands meX5_lands mini_RX5 hrc hrs hdX5_lands ⟨hfr, hlo⟩) hDi hK hP hNW hS hX (k := 0) (by omega) hF0 rfl rfl hl.1 rfl (Nat.le_of_ble_eq_true rfl) ⟨Nat.le_of_ble_eq_true rfl, Nat.le_of_ble_eq_true rfl⟩ (dk kL_lands_ok 6 rfl) (fun H locs q ce hP hS hq hcv hcl => ?_)
  rcases hE with ⟨rfl, rfl⟩ | ⟨rfl, rfl⟩
  · refine vx_catch (name := "java/lang/IndexOutOfBoundsException") hown [] ⟨0, 12, 15, 13⟩ [⟨0, 12, 19, 15⟩] (by rw [htab]; rfl) ?_ (by decide) (by decide) (hts _ (lc0 _ (List.mem_of_getElem? (i := 0) rfl))) (XWc hX (List.mem_of_getElem? (i := 2) rfl)) hq hcv hcl ?_
    · exact fun z hz => nomatch hz
    · refine lv_astore (lv' := [(5, .ref q), (0, .ref (ad 0)), (1, .int a1), (2, .int a2), (3, .int a3), (4, .ref (ad 85))]) hx hb (dk kL_lands_ok 10 rfl) hl (by decide) rfl (fun ls hl => ?_)
      refine lv_iconst (v := nI 1) hx hb (dk kL_lands_ok 11 rfl) rfl ?_
      exact hret _ _ _ _ _ _ hP hS (by decide) (by decide) (dk kL_lands_ok 12 rfl)
  · refine vx_catch (name := "java/lang/IllegalArgumentException") hown [⟨0, 12, 15, 13⟩] ⟨0, 12, 19, 15⟩ [] (by rw [htab]; rfl) ?_ (by decide) (by decide) (hts _ (lc0 _ (List.mem_of_getElem? (i := 1) rfl))) (XWc hX (List.mem_of_getElem? (i := 1) rfl)) hq hcv hcl ?_
    · intro z hz
      rcases List.mem_singleton.mp hz with rfl
      · exact Or.inr ⟨by decide, "java/lang/IndexOutOfBoundsException", hts _ (lc0 _ (List.mem_of_getElem? (i := 0) rfl)), XNn hXN (List.mem_of_getElem? (i := 4) rfl)⟩
    · refine lv_astore (lv' := [(5, .ref q), (0, .ref (ad 0)), (1, .int a1), (2, .int a2), (3, .int a3), (4, .ref (ad 85))]) hx hb (dk kL_lands_ok 13 rfl) hl (by decide) rfl (fun ls hl => ?_)
      refine lv_iconst (v := nI 2) hx hb (dk kL_lands_ok 14 rfl) rfl ?_
      exact hret _ _ _ _ _ _ hP hS (by decide) (by decide) (dk kL_lands_ok 15 rfl)
set_option maxRecDepth 100000 in
set_option maxHeartbeats 4000000 in
theorem tL_ifFlown (l : Launch) (D : va_G) (cI cQ cL : ClassId) (ad : Nat → Nat) (N : Nat) (F : Nat → va_E) (hN : 85 < N) (fs : List Value) (hF0 : F 0 = .inr (5, fs)) (a1 a2 a3 a4 : Int32) (G : Nat → va_E) (o : Nat → Int64) (hG : G 85 = .inl (cL, 1, .inr (.inl o))) (r : Int32) {rm : Room} (hM : MX l yX5_ifFlown (Cond.code yX5_ifFlown cX5_ifFlown 5 (some .int) :: AW) rm D cI cQ cL ad N F [.ref (ad 0), .int a1, .int a2, .int a3, .int a4] (dp (some (.int r)) G) 0 0) (hrc : rm.cells = 0) (hrs : rm.slots = 0) (hfr : rm.frames + 1 ≤ 12) (hlo : 8 + (5 + 11) + rm.locals ≤ 450) : ML l yL_ifFlown (Cond.codeWith yL_ifFlown cL_ifFlown 7 (some .int) [(0, 14, 17, 13), (0, 14, 21, 15)] :: LW) ({ frames := 12, cells := 1, slots := 6, locals := 450 } : Room) D cI cQ cL ad N F [.ref (ad 0), .int a1, .int a2, .int a3, .int a4, .ref (ad 85)] (nI 0) (va_up G 85 (.inl (cL, 1, .inr (.inl (vp_updL o 0 r.toInt64))))) 1 6 := by
  refine ml_of (by decide +kernel) (Nat.le_of_ble_eq_true rfl) (fun p e s m below meth cd Q ls hx hb hml hown hts htab hDi hP hK hNW hS hX hXN hret hl => ?_)
  have hown : s.vm.findClass RL = some m.cls := hown
  have hl : lv_has ls 7 [(0, .ref (ad 0)), (1, .int a1), (2, .int a2), (3, .int a3), (4, .int a4), (5, .ref (ad 85))] := hl
  refine lv_aload hx hb (dk kL_ifFlown_ok 0 rfl) (lv_at hl 5 rfl) ?_
  refine lv_iconst (v := nI 0) hx hb (dk kL_ifFlown_ok 1 rfl) rfl ?_
  refine lv_aload_n hx hb (dk kL_ifFlown_ok 2 rfl) rfl (lv_at hl 0 rfl) ?_
  refine lv_iload_n hx hb (dk kL_ifFlown_ok 3 rfl) rfl (lv_at hl 1 rfl) ?_
  refine lv_iload_n hx hb (dk kL_ifFlown_ok 4 rfl) rfl (lv_at hl 2 rfl) ?_
  refine lv_iload_n hx hb (dk kL_ifFlown_ok 5 rfl) rfl (lv_at hl 3 rfl) ?_
  refine lv_iload hx hb (dk kL_ifFlown_ok 6 rfl) (lv_at hl 4 rfl) ?_
  refine cvD G (As := [.int a1, .int a2, .int a3, .int a4]) (rest := [.int (nI 0), .ref (ad 85)]) ⟨hx, hb, hml, hown, hts⟩ hM (cwVL 4 hts mcX5_ifFlown (lc0 _ (List.mem_of_getElem? (i := 17) rfl)) miX5_ifFlown meX5_ifFlown mini_RX5 hrc hrs hdX5_ifFlown ⟨hfr, hlo⟩) hDi hK hP hNW hS (k := 0) (by omega) hF0 rfl rfl hl.1 rfl (Nat.le_of_ble_eq_true rfl) ⟨Nat.le_of_ble_eq_true rfl, Nat.le_of_ble_eq_true rfl⟩ (dk kL_ifFlown_ok 7 rfl) rfl (fun H locs hP hS => ?_)
  refine lv_i2l (v := r.toInt64) hx hb (dk kL_ifFlown_ok 8 rfl) rfl ?_
  refine lst _ (k := 85) hx hb hK hDi hP hS hN hG (dk kL_ifFlown_ok 9 rfl) rfl (fun H locs hP hS => ?_)
  refine lv_goto (tgt := 25) hx hb (dk kL_ifFlown_ok 10 rfl) (by decide) ?_
  refine lv_iconst (v := nI 0) hx hb (dk kL_ifFlown_ok 17 rfl) rfl ?_
  exact hret _ _ _ _ _ _ hP hS (by decide) (by decide) (dk kL_ifFlown_ok 18 rfl)
set_option maxRecDepth 100000 in
set_option maxHeartbeats 4000000 in
theorem tL_ifFlown_x (l : Launch) (D : va_G) (cI cQ cL : ClassId) (ad : Nat → Nat) (N : Nat) (F : Nat → va_E) (hN : 85 < N) (fs : List Value) (hF0 : F 0 = .inr (5, fs)) (a1 a2 a3 a4 : Int32) (E : String) (kk : Nat) (hE : (E = eI ∧ kk = 1) ∨ (E = eA ∧ kk = 2)) {rm : Room} (hM : MT l yX5_ifFlown (Cond.code yX5_ifFlown cX5_ifFlown 5 (some .int) :: AW) rm D cI cQ cL ad N F [.ref (ad 0), .int a1, .int a2, .int a3, .int a4] E 1 6) (hrc : rm.cells = 1) (hrs : rm.slots = 6) (hfr : rm.frames + 1 ≤ 12) (hlo : 8 + (5 + 11) + rm.locals ≤ 450) : ML l yL_ifFlown (Cond.codeWith yL_ifFlown cL_ifFlown 7 (some .int) [(0, 14, 17, 13), (0, 14, 21, 15)] :: LW) ({ frames := 12, cells := 1, slots := 6, locals := 450 } : Room) D cI cQ cL ad N F [.ref (ad 0), .int a1, .int a2, .int a3, .int a4, .ref (ad 85)] (nI kk) F 1 6 := by
  refine ml_of (by decide +kernel) (Nat.le_of_ble_eq_true rfl) (fun p e s m below meth cd Q ls hx hb hml hown hts htab hDi hP hK hNW hS hX hXN hret hl => ?_)
  have hown : s.vm.findClass RL = some m.cls := hown
  have hl : lv_has ls 7 [(0, .ref (ad 0)), (1, .int a1), (2, .int a2), (3, .int a3), (4, .int a4), (5, .ref (ad 85))] := hl
  refine lv_aload hx hb (dk kL_ifFlown_ok 0 rfl) (lv_at hl 5 rfl) ?_
  refine lv_iconst (v := nI 0) hx hb (dk kL_ifFlown_ok 1 rfl) rfl ?_
  refine lv_aload_n hx hb (dk kL_ifFlown_ok 2 rfl) rfl (lv_at hl 0 rfl) ?_
  refine lv_iload_n hx hb (dk kL_ifFlown_ok 3 rfl) rfl (lv_at hl 1 rfl) ?_
  refine lv_iload_n hx hb (dk kL_ifFlown_ok 4 rfl) rfl (lv_at hl 2 rfl) ?_
  refine lv_iload_n hx hb (dk kL_ifFlown_ok 5 rfl) rfl (lv_at hl 3 rfl) ?_
  refine lv_iload hx hb (dk kL_ifFlown_ok 6 rfl) (lv_at hl 4 rfl) ?_
  refine cvT (As := [.int a1, .int a2, .int a3, .int a4]) (rest := [.int (nI 0), .ref (ad 85)]) ⟨hx, hb, hml, hown, hts⟩ hM (cwVL 4 hts mcX5_ifFlown (lc0 _ (List.mem_of_getElem? (i := 17) rfl)) miX5_ifFlown meX5_ifFlown mini_RX5 hrc hrs hdX5_ifFlown ⟨hfr, hlo⟩) hDi hK hP hNW hS hX (k := 0) (by omega) hF0 rfl rfl hl.1 rfl (Nat.le_of_ble_eq_true rfl) ⟨Nat.le_of_ble_eq_true rfl, Nat.le_of_ble_eq_true rfl⟩ (dk kL_ifFlown_ok 7 rfl) (fun H locs q ce hP hS hq hcv hcl => ?_)
  rcases hE with ⟨rfl, rfl⟩ | ⟨rfl, rfl⟩
  · refine vx_catch (name := "java/lang/IndexOutOfBoundsException") hown [] ⟨0, 14, 17, 13⟩ [⟨0, 14, 21, 15⟩] (by rw [htab]; rfl) ?_ (by decide) (by decide) (hts _ (lc0 _ (List.mem_of_getElem? (i := 0) rfl))) (XWc hX (List.mem_of_getElem? (i := 2) rfl)) hq hcv hcl ?_
    · exact fun z hz => nomatch hz
    · refine lv_astore (lv' := [(6, .ref q), (0, .ref (ad 0)), (1, .int a1), (2, .int a2), (3, .int a3), (4, .int a4), (5, .ref (ad 85))]) hx hb (dk kL_ifFlown_ok 11 rfl) hl (by decide) rfl (fun ls hl => ?_)
      refine lv_iconst (v := nI 1) hx hb (dk kL_ifFlown_ok 12 rfl) rfl ?_
      exact hret _ _ _ _ _ _ hP hS (by decide) (by decide) (dk kL_ifFlown_ok 13 rfl)
  · refine vx_catch (name := "java/lang/IllegalArgumentException") hown [⟨0, 14, 17, 13⟩] ⟨0, 14, 21, 15⟩ [] (by rw [htab]; rfl) ?_ (by decide) (by decide) (hts _ (lc0 _ (List.mem_of_getElem? (i := 1) rfl))) (XWc hX (List.mem_of_getElem? (i := 1) rfl)) hq hcv hcl ?_
    · intro z hz
      rcases List.mem_singleton.mp hz with rfl
      · exact Or.inr ⟨by decide, "java/lang/IndexOutOfBoundsException", hts _ (lc0 _ (List.mem_of_getElem? (i := 0) rfl)), XNn hXN (List.mem_of_getElem? (i := 4) rfl)⟩
    · refine lv_astore (lv' := [(6, .ref q), (0, .ref (ad 0)), (1, .int a1), (2, .int a2), (3, .int a3), (4, .int a4), (5, .ref (ad 85))]) hx hb (dk kL_ifFlown_ok 14 rfl) hl (by decide) rfl (fun ls hl => ?_)
      refine lv_iconst (v := nI 2) hx hb (dk kL_ifFlown_ok 15 rfl) rfl ?_
      exact hret _ _ _ _ _ _ hP hS (by decide) (by decide) (dk kL_ifFlown_ok 16 rfl)
set_option maxRecDepth 100000 in
set_option maxHeartbeats 4000000 in
theorem tL_flightsTo (l : Launch) (D : va_G) (cI cQ cL : ClassId) (ad : Nat → Nat) (N : Nat) (F : Nat → va_E) (hN : 85 < N) (fs : List Value) (hF0 : F 0 = .inr (5, fs)) (a1 : Int32) (G : Nat → va_E) (o : Nat → Int64) (hG : G 85 = .inl (cL, 1, .inr (.inl o))) (r : Int32) {rm : Room} (hM : MX l yX5_flightsTo (Cond.code yX5_flightsTo cX5_flightsTo 2 (some .int) :: AW) rm D cI cQ cL ad N F [.ref (ad 0), .int a1] (dp (some (.int r)) G) 0 0) (hrc : rm.cells = 0) (hrs : rm.slots = 0) (hfr : rm.frames + 1 ≤ 12) (hlo : 8 + (2 + 11) + rm.locals ≤ 450) : ML l yL_flightsTo (Cond.codeWith yL_flightsTo cL_flightsTo 4 (some .int) [(0, 9, 12, 13)] :: LW) ({ frames := 12, cells := 1, slots := 6, locals := 450 } : Room) D cI cQ cL ad N F [.ref (ad 0), .int a1, .ref (ad 85)] (nI 0) (va_up G 85 (.inl (cL, 1, .inr (.inl (vp_updL o 0 r.toInt64))))) 1 6 := by
  refine ml_of (by decide +kernel) (Nat.le_of_ble_eq_true rfl) (fun p e s m below meth cd Q ls hx hb hml hown hts htab hDi hP hK hNW hS hX hXN hret hl => ?_)
  have hown : s.vm.findClass RL = some m.cls := hown
  have hl : lv_has ls 4 [(0, .ref (ad 0)), (1, .int a1), (2, .ref (ad 85))] := hl
  refine lv_aload_n hx hb (dk kL_flightsTo_ok 0 rfl) rfl (lv_at hl 2 rfl) ?_
  refine lv_iconst (v := nI 0) hx hb (dk kL_flightsTo_ok 1 rfl) rfl ?_
  refine lv_aload_n hx hb (dk kL_flightsTo_ok 2 rfl) rfl (lv_at hl 0 rfl) ?_
  refine lv_iload_n hx hb (dk kL_flightsTo_ok 3 rfl) rfl (lv_at hl 1 rfl) ?_
  refine cvD G (As := [.int a1]) (rest := [.int (nI 0), .ref (ad 85)]) ⟨hx, hb, hml, hown, hts⟩ hM (cwVL 1 hts mcX5_flightsTo (lc0 _ (List.mem_of_getElem? (i := 18) rfl)) miX5_flightsTo meX5_flightsTo mini_RX5 hrc hrs hdX5_flightsTo ⟨hfr, hlo⟩) hDi hK hP hNW hS (k := 0) (by omega) hF0 rfl rfl hl.1 rfl (Nat.le_of_ble_eq_true rfl) ⟨Nat.le_of_ble_eq_true rfl, Nat.le_of_ble_eq_true rfl⟩ (dk kL_flightsTo_ok 4 rfl) rfl (fun H locs hP hS => ?_)
  refine lv_i2l (v := r.toInt64) hx hb (dk kL_flightsTo_ok 5 rfl) rfl ?_
  refine lst _ (k := 85) hx hb hK hDi hP hS hN hG (dk kL_flightsTo_ok 6 rfl) rfl (fun H locs hP hS => ?_)
  refine lv_goto (tgt := 15) hx hb (dk kL_flightsTo_ok 7 rfl) (by decide) ?_
  refine lv_iconst (v := nI 0) hx hb (dk kL_flightsTo_ok 11 rfl) rfl ?_
  exact hret _ _ _ _ _ _ hP hS (by decide) (by decide) (dk kL_flightsTo_ok 12 rfl)
set_option maxRecDepth 100000 in
set_option maxHeartbeats 4000000 in
theorem tL_flightsTo_x (l : Launch) (D : va_G) (cI cQ cL : ClassId) (ad : Nat → Nat) (N : Nat) (F : Nat → va_E) (hN : 85 < N) (fs : List Value) (hF0 : F 0 = .inr (5, fs)) (a1 : Int32) (E : String) (kk : Nat) (hE : (E = eI ∧ kk = 1)) {rm : Room} (hM : MT l yX5_flightsTo (Cond.code yX5_flightsTo cX5_flightsTo 2 (some .int) :: AW) rm D cI cQ cL ad N F [.ref (ad 0), .int a1] E 1 6) (hrc : rm.cells = 1) (hrs : rm.slots = 6) (hfr : rm.frames + 1 ≤ 12) (hlo : 8 + (2 + 11) + rm.locals ≤ 450) : ML l yL_flightsTo (Cond.codeWith yL_flightsTo cL_flightsTo 4 (some .int) [(0, 9, 12, 13)] :: LW) ({ frames := 12, cells := 1, slots := 6, locals := 450 } : Room) D cI cQ cL ad N F [.ref (ad 0), .int a1, .ref (ad 85)] (nI kk) F 1 6 := by
  refine ml_of (by decide +kernel) (Nat.le_of_ble_eq_true rfl) (fun p e s m below meth cd Q ls hx hb hml hown hts htab hDi hP hK hNW hS hX hXN hret hl => ?_)
  have hown : s.vm.findClass RL = some m.cls := hown
  have hl : lv_has ls 4 [(0, .ref (ad 0)), (1, .int a1), (2, .ref (ad 85))] := hl
  refine lv_aload_n hx hb (dk kL_flightsTo_ok 0 rfl) rfl (lv_at hl 2 rfl) ?_
  refine lv_iconst (v := nI 0) hx hb (dk kL_flightsTo_ok 1 rfl) rfl ?_
  refine lv_aload_n hx hb (dk kL_flightsTo_ok 2 rfl) rfl (lv_at hl 0 rfl) ?_
  refine lv_iload_n hx hb (dk kL_flightsTo_ok 3 rfl) rfl (lv_at hl 1 rfl) ?_
  refine cvT (As := [.int a1]) (rest := [.int (nI 0), .ref (ad 85)]) ⟨hx, hb, hml, hown, hts⟩ hM (cwVL 1 hts mcX5_flightsTo (lc0 _ (List.mem_of_getElem? (i := 18) rfl)) miX5_flightsTo meX5_flightsTo mini_RX5 hrc hrs hdX5_flightsTo ⟨hfr, hlo⟩) hDi hK hP hNW hS hX (k := 0) (by omega) hF0 rfl rfl hl.1 rfl (Nat.le_of_ble_eq_true rfl) ⟨Nat.le_of_ble_eq_true rfl, Nat.le_of_ble_eq_true rfl⟩ (dk kL_flightsTo_ok 4 rfl) (fun H locs q ce hP hS hq hcv hcl => ?_)
  rcases hE with ⟨rfl, rfl⟩
  · refine vx_catch (name := "java/lang/IndexOutOfBoundsException") hown [] ⟨0, 9, 12, 13⟩ [] (by rw [htab]; rfl) ?_ (by decide) (by decide) (hts _ (lc0 _ (List.mem_of_getElem? (i := 0) rfl))) (XWc hX (List.mem_of_getElem? (i := 2) rfl)) hq hcv hcl ?_
    · exact fun z hz => nomatch hz
    · refine lv_astore_n (lv' := [(3, .ref q), (0, .ref (ad 0)), (1, .int a1), (2, .ref (ad 85))]) hx hb (dk kL_flightsTo_ok 8 rfl) rfl hl (by decide) rfl (fun ls hl => ?_)
      refine lv_iconst (v := nI 1) hx hb (dk kL_flightsTo_ok 9 rfl) rfl ?_
      exact hret _ _ _ _ _ _ hP hS (by decide) (by decide) (dk kL_flightsTo_ok 10 rfl)
