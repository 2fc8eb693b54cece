set_option maxRecDepth 100000 in
set_option maxHeartbeats 4000000 in
theorem tX1_copyFrom (l : Launch) (D : va_G) (cI cQ cL : ClassId) (ad : Nat → Nat) (N : Nat) (F : Nat → va_E) (k : Nat) (hk : k + 3 < N) (c b v : Nat → Int32) (hM : matAt cI ad F k c b v) (k2 : Nat) (hq : k2 + 3 < N) (hd : k + 3 < k2 ∨ k2 + 3 < k) (c2 b2 v2 : Nat → Int32) (hM2 : matAt cI ad F k2 c2 b2 v2) : MX l yX1_copyFrom (Cond.code yX1_copyFrom cX1_copyFrom 2 none :: AW) ({ frames := 1, cells := 0, slots := 0, locals := 18 } : Room) D cI cQ cL ad N F [.ref (ad k), .ref (ad k2)] (dp none (mSet cI F k c2 b2 v2)) 0 0 := by
  refine mx_v (by decide +kernel) rfl (Nat.le_of_ble_eq_true rfl) (fun p e s m below meth cd Q ls hx hb hml hown hts hDi hP hK hNW hS hret hl => ?_)
  have hown : s.vm.findClass RX1 = some m.cls := hown
  have hk0 : k < N := by omega
  have hk1 : k + 1 < N := by omega
  have hk2 : k + 2 < N := by omega
  have hk3 : k + 3 < N := hk
  have hq0 : k2 < N := by omega
  have hq1 : k2 + 1 < N := by omega
  have hq2 : k2 + 2 < N := by omega
  have hq3 : k2 + 3 < N := hq
  have hP : va_P D vwCl (iW ad N (mSet cI F k c b v)) s.heap := by rw [mSet_self hM]; exact hP
  have hl : lv_has ls 2 [(0, .ref (ad k)), (1, .ref (ad k2))] := hl
  refine lv_aload_n hx hb (dk kX1_copyFrom_ok 0 rfl) rfl (lv_at hl 1 rfl) ?_
  refine gf hx hb hts (fun w h => List.mem_cons_of_mem _ (acX1 w h)) hown hK hP hq0 (mSet_oth hM2 hd).1 rfl 0 (by decide) (hts _ (List.mem_cons_of_mem _ (ac0 _ (List.mem_of_getElem? (i := 22) rfl)))) (fun _ h => h) rfl (dk kX1_copyFrom_ok 1 rfl) ?_
  refine lv_iconst (v := nI 0) hx hb (dk kX1_copyFrom_ok 2 rfl) rfl ?_
  refine lv_aload_n hx hb (dk kX1_copyFrom_ok 3 rfl) rfl (lv_at hl 0 rfl) ?_
  refine gf hx hb hts (fun w h => List.mem_cons_of_mem _ (acX1 w h)) hown hK hP hk0 (mSet_at hM).1 rfl 0 (by decide) (hts _ (List.mem_cons_of_mem _ (ac0 _ (List.mem_of_getElem? (i := 22) rfl)))) (fun _ h => h) rfl (dk kX1_copyFrom_ok 4 rfl) ?_
  refine lv_iconst (v := nI 0) hx hb (dk kX1_copyFrom_ok 5 rfl) rfl ?_
  refine lv_bipush (v := nI 16) hx hb (dk kX1_copyFrom_ok 6 rfl) rfl ?_
  refine cpy (mSet cI F k c2 b v) hx hb (by rw [hml, hl.1]) hown (hts _ (List.mem_cons_of_mem _ (ac1 _ (List.mem_of_getElem? (i := 5) rfl)))) (hts _ (List.mem_cons_of_mem _ (ac1 _ (List.mem_of_getElem? (i := 6) rfl)))) (hts _ (List.mem_cons_of_mem _ (ac1 _ (List.mem_of_getElem? (i := 7) rfl)))) (hts _ (List.mem_cons_of_mem _ (ac1 _ (List.mem_of_getElem? (i := 8) rfl)))) hK hDi hP hS hq1 (mSet_oth hM2 hd).2.1 hk1 (mSet_at hM).2.1 (by decide) (Nat.le_of_ble_eq_true rfl) (Nat.le_of_ble_eq_true rfl) (dk kX1_copyFrom_ok 7 rfl) mSet_c (fun H locs hP hS => ?_)
  refine lv_aload_n hx hb (dk kX1_copyFrom_ok 8 rfl) rfl (lv_at hl 1 rfl) ?_
  refine gf hx hb hts (fun w h => List.mem_cons_of_mem _ (acX1 w h)) hown hK hP hq0 (mSet_oth hM2 hd).1 rfl 1 (by decide) (hts _ (List.mem_cons_of_mem _ (ac0 _ (List.mem_of_getElem? (i := 23) rfl)))) (fun _ h => h) rfl (dk kX1_copyFrom_ok 9 rfl) ?_
  refine lv_iconst (v := nI 0) hx hb (dk kX1_copyFrom_ok 10 rfl) rfl ?_
  refine lv_aload_n hx hb (dk kX1_copyFrom_ok 11 rfl) rfl (lv_at hl 0 rfl) ?_
  refine gf hx hb hts (fun w h => List.mem_cons_of_mem _ (acX1 w h)) hown hK hP hk0 (mSet_at hM).1 rfl 1 (by decide) (hts _ (List.mem_cons_of_mem _ (ac0 _ (List.mem_of_getElem? (i := 23) rfl)))) (fun _ h => h) rfl (dk kX1_copyFrom_ok 12 rfl) ?_
  refine lv_iconst (v := nI 0) hx hb (dk kX1_copyFrom_ok 13 rfl) rfl ?_
  refine lv_bipush (v := nI 16) hx hb (dk kX1_copyFrom_ok 14 rfl) rfl ?_
  refine cpy (mSet cI F k c2 b2 v) hx hb (by rw [hml, hl.1]) hown (hts _ (List.mem_cons_of_mem _ (ac1 _ (List.mem_of_getElem? (i := 5) rfl)))) (hts _ (List.mem_cons_of_mem _ (ac1 _ (List.mem_of_getElem? (i := 6) rfl)))) (hts _ (List.mem_cons_of_mem _ (ac1 _ (List.mem_of_getElem? (i := 7) rfl)))) (hts _ (List.mem_cons_of_mem _ (ac1 _ (List.mem_of_getElem? (i := 8) rfl)))) hK hDi hP hS hq2 (mSet_oth hM2 hd).2.2.1 hk2 (mSet_at hM).2.2.1 (by decide) (Nat.le_of_ble_eq_true rfl) (Nat.le_of_ble_eq_true rfl) (dk kX1_copyFrom_ok 15 rfl) mSet_b (fun H locs hP hS => ?_)
  refine lv_aload_n hx hb (dk kX1_copyFrom_ok 16 rfl) rfl (lv_at hl 1 rfl) ?_
  refine gf hx hb hts (fun w h => List.mem_cons_of_mem _ (acX1 w h)) hown hK hP hq0 (mSet_oth hM2 hd).1 rfl 2 (by decide) (hts _ (List.mem_cons_of_mem _ (ac1 _ (List.mem_of_getElem? (i := 0) rfl)))) (fun _ h => h) rfl (dk kX1_copyFrom_ok 17 rfl) ?_
  refine lv_iconst (v := nI 0) hx hb (dk kX1_copyFrom_ok 18 rfl) rfl ?_
  refine lv_aload_n hx hb (dk kX1_copyFrom_ok 19 rfl) rfl (lv_at hl 0 rfl) ?_
  refine gf hx hb hts (fun w h => List.mem_cons_of_mem _ (acX1 w h)) hown hK hP hk0 (mSet_at hM).1 rfl 2 (by decide) (hts _ (List.mem_cons_of_mem _ (ac1 _ (List.mem_of_getElem? (i := 0) rfl)))) (fun _ h => h) rfl (dk kX1_copyFrom_ok 20 rfl) ?_
  refine lv_iconst (v := nI 0) hx hb (dk kX1_copyFrom_ok 21 rfl) rfl ?_
  refine lv_bipush (v := nI 16) hx hb (dk kX1_copyFrom_ok 22 rfl) rfl ?_
  refine cpy (mSet cI F k c2 b2 v2) hx hb (by rw [hml, hl.1]) hown (hts _ (List.mem_cons_of_mem _ (ac1 _ (List.mem_of_getElem? (i := 5) rfl)))) (hts _ (List.mem_cons_of_mem _ (ac1 _ (List.mem_of_getElem? (i := 6) rfl)))) (hts _ (List.mem_cons_of_mem _ (ac1 _ (List.mem_of_getElem? (i := 7) rfl)))) (hts _ (List.mem_cons_of_mem _ (ac1 _ (List.mem_of_getElem? (i := 8) rfl)))) hK hDi hP hS hq3 (mSet_oth hM2 hd).2.2.2 hk3 (mSet_at hM).2.2.2 (by decide) (Nat.le_of_ble_eq_true rfl) (Nat.le_of_ble_eq_true rfl) (dk kX1_copyFrom_ok 23 rfl) mSet_v (fun H locs hP hS => ?_)
  exact hret _ _ _ _ _ _ _ (by exact ⟨rfl, rfl⟩) hP hS (by decide) (by decide) (dk kX1_copyFrom_ok 24 rfl)
set_option maxRecDepth 100000 in
set_option maxHeartbeats 4000000 in
theorem tX4_whyNotFlown (l : Launch) (D : va_G) (cI cQ cL : ClassId) (ad : Nat → Nat) (N : Nat) (F : Nat → va_E) (k : Nat) (hk : k + 7 < N) (c b v g h j : Nat → Int32) (t : Nat) (u z : Int32) (hS0 : stAt cI ad F k c b v g h j (nI t) u z) (ht : t < 4) (x : Int32) (w : Nat) (hxw : x = nI w) (hw : w < 16) : MR l yX4_whyNotFlown (Cond.code yX4_whyNotFlown cX4_whyNotFlown 2 (some .int) :: AW) ({ frames := 3, cells := 0, slots := 0, locals := 65 } : Room) D cI cQ cL ad N F [.ref (ad k), .int x] (.int (nI (wnf c v t w))) := by
  refine mr_i (ty := .int) (by decide +kernel) rfl rfl rfl rfl (Nat.le_of_ble_eq_true rfl) (fun p e s m below meth cd Q ls hx hb hml hown hts hP hK hNW hret hl => ?_)
  have hown : s.vm.findClass RX4 = some m.cls := hown
  subst hxw
  have hk0 : k < N := by omega
  have hk1 : k + 1 < N := by omega
  have hk11 : k + 1 + 1 < N := by omega
  have hk12 : k + 1 + 2 < N := by omega
  have hk13 : k + 1 + 3 < N := by omega
  have hkm : k + 1 + 3 < N := by omega
  have hk5 : k + 5 < N := by omega
  have hk6 : k + 6 < N := by omega
  have hk7 : k + 7 < N := hk
  have hl : lv_has ls 2 [(0, .ref (ad k)), (1, .int (nI w))] := hl
  refine lv_aload_n hx hb (dk kX4_whyNotFlown_ok 0 rfl) rfl (lv_at hl 0 rfl) ?_
  refine gf hx hb hts (fun w h => List.mem_cons_of_mem _ (acX4 w h)) hown hK hP hk0 hS0.1 rfl 0 (by decide) (hts _ (List.mem_cons_of_mem _ (ac4 _ (List.mem_of_getElem? (i := 3) rfl)))) (fun _ h => h) rfl (dk kX4_whyNotFlown_ok 1 rfl) ?_
  refine cvR (As := []) (rest := []) ⟨hx, hb, hml, hown, hts⟩ (tX1_isOver l D cI cQ cL ad N F (k + 1) hkm c b v hS0.2.1) (cwV9 0 hts mcX1_isOver (ac6 _ (List.mem_of_getElem? (i := 10) rfl)) miX1_isOver meX1_isOver mini_RX1 rfl rfl hdX1_isOver ⟨Nat.le_of_ble_eq_true rfl, Nat.le_of_ble_eq_true rfl⟩) hK hP hNW hk1 hS0.2.1.1 rfl rfl hl.1 rfl (Nat.le_of_ble_eq_true rfl) (by decide) (dk kX4_whyNotFlown_ok 2 rfl) ?_
  refine b_if_eq (tgt := 12) hx hb (dk kX4_whyNotFlown_ok 3 rfl) (by decide) (fun h1 => ?_) (fun h1 => ?_)
  · skip
    refine lv_iload_n hx hb (dk kX4_whyNotFlown_ok 6 rfl) rfl (lv_at hl 1 rfl) ?_
    refine csPN (As := [.int (nI w)]) (rest := []) ⟨hx, hb, hml, hown, hts⟩ (tX5_colourOf l (nI w) w rfl (by omega)) (cwN9 1 hts mcX5_colourOf (nm6 hNW) mini_RX5 rfl rfl hdX5_colourOf ⟨Nat.le_of_ble_eq_true rfl, Nat.le_of_ble_eq_true rfl⟩) (hts _ (List.mem_cons_of_mem _ msX5_colourOf)) rfl hl.1 rfl (Nat.le_of_ble_eq_true rfl) (by decide) (dk kX4_whyNotFlown_ok 7 rfl) ?_
    refine lv_aload_n hx hb (dk kX4_whyNotFlown_ok 8 rfl) rfl (lv_at hl 0 rfl) ?_
    refine gf hx hb hts (fun w h => List.mem_cons_of_mem _ (acX4 w h)) hown hK hP hk0 hS0.1 rfl 4 (by decide) (hts _ (List.mem_cons_of_mem _ (ac4 _ (List.mem_of_getElem? (i := 7) rfl)))) (fun _ h => h) rfl (dk kX4_whyNotFlown_ok 9 rfl) ?_
    refine n_icmp_eq (tgt := 25) hx hb (by omega) (by omega) (dk kX4_whyNotFlown_ok 10 rfl) (by decide) (fun h2 => ?_) (fun h2 => ?_)
    · skip
      refine lv_aload_n hx hb (dk kX4_whyNotFlown_ok 13 rfl) rfl (lv_at hl 0 rfl) ?_
      refine gf hx hb hts (fun w h => List.mem_cons_of_mem _ (acX4 w h)) hown hK hP hk0 hS0.1 rfl 0 (by decide) (hts _ (List.mem_cons_of_mem _ (ac4 _ (List.mem_of_getElem? (i := 3) rfl)))) (fun _ h => h) rfl (dk kX4_whyNotFlown_ok 14 rfl) ?_
      refine lv_iload_n hx hb (dk kX4_whyNotFlown_ok 15 rfl) rfl (lv_at hl 1 rfl) ?_
      refine cvR (As := [.int (nI w)]) (rest := []) ⟨hx, hb, hml, hown, hts⟩ (tX1_isPotted l D cI cQ cL ad N F (k + 1) hkm c b v hS0.2.1 (nI w) w rfl (by omega)) (cwV9 1 hts mcX1_isPotted (ac6 _ (List.mem_of_getElem? (i := 14) rfl)) miX1_isPotted meX1_isPotted mini_RX1 rfl rfl hdX1_isPotted ⟨Nat.le_of_ble_eq_true rfl, Nat.le_of_ble_eq_true rfl⟩) hK hP hNW hk1 hS0.2.1.1 rfl rfl hl.1 rfl (Nat.le_of_ble_eq_true rfl) (by decide) (dk kX4_whyNotFlown_ok 16 rfl) ?_
      refine b_if_eq (tgt := 38) hx hb (dk kX4_whyNotFlown_ok 17 rfl) (by decide) (fun h3 => ?_) (fun h3 => ?_)
      · skip
        refine lv_aload_n hx hb (dk kX4_whyNotFlown_ok 20 rfl) rfl (lv_at hl 0 rfl) ?_
        refine gf hx hb hts (fun w h => List.mem_cons_of_mem _ (acX4 w h)) hown hK hP hk0 hS0.1 rfl 0 (by decide) (hts _ (List.mem_cons_of_mem _ (ac4 _ (List.mem_of_getElem? (i := 3) rfl)))) (fun _ h => h) rfl (dk kX4_whyNotFlown_ok 21 rfl) ?_
        refine lv_iload_n hx hb (dk kX4_whyNotFlown_ok 22 rfl) rfl (lv_at hl 1 rfl) ?_
        refine cvR (As := [.int (nI w)]) (rest := []) ⟨hx, hb, hml, hown, hts⟩ (tX1_isCovered l D cI cQ cL ad N F (k + 1) hkm c b v hS0.2.1 (nI w) w rfl (by omega)) (cwV9 1 hts mcX1_isCovered (ac6 _ (List.mem_of_getElem? (i := 15) rfl)) miX1_isCovered meX1_isCovered mini_RX1 rfl rfl hdX1_isCovered ⟨Nat.le_of_ble_eq_true rfl, Nat.le_of_ble_eq_true rfl⟩) hK hP hNW hk1 hS0.2.1.1 rfl rfl hl.1 rfl (Nat.le_of_ble_eq_true rfl) (by decide) (dk kX4_whyNotFlown_ok 23 rfl) ?_
        refine b_if_eq (tgt := 53) hx hb (dk kX4_whyNotFlown_ok 24 rfl) (by decide) (fun h4 => ?_) (fun h4 => ?_)
        · skip
          refine lv_iconst (v := nI 0) hx hb (dk kX4_whyNotFlown_ok 27 rfl) rfl ?_
          exact hret _ _ _ (by simp [wnf, h1, h2, h3, h4]) (dk kX4_whyNotFlown_ok 28 rfl)
        · skip
          refine lv_iconst (v := nI 4) hx hb (dk kX4_whyNotFlown_ok 25 rfl) rfl ?_
          refine lv_goto (tgt := 54) hx hb (dk kX4_whyNotFlown_ok 26 rfl) (by decide) ?_
          exact hret _ _ _ (by simp [wnf, h1, h2, h3, h4]) (dk kX4_whyNotFlown_ok 28 rfl)
      · skip
        refine lv_iconst (v := nI 3) hx hb (dk kX4_whyNotFlown_ok 18 rfl) rfl ?_
        exact hret _ _ _ (by simp [wnf, h1, h2, h3]) (dk kX4_whyNotFlown_ok 19 rfl)
    · skip
      refine lv_iconst (v := nI 2) hx hb (dk kX4_whyNotFlown_ok 11 rfl) rfl ?_
      exact hret _ _ _ (by simp [wnf, h1, h2]) (dk kX4_whyNotFlown_ok 12 rfl)
  · skip
    refine lv_iconst (v := nI 1) hx hb (dk kX4_whyNotFlown_ok 4 rfl) rfl ?_
    exact hret _ _ _ (by simp [wnf, h1]) (dk kX4_whyNotFlown_ok 5 rfl)
set_option maxRecDepth 100000 in
set_option maxHeartbeats 4000000 in
theorem tX4_whyNotLifted (l : Launch) (D : va_G) (cI cQ cL : ClassId) (ad : Nat → Nat) (N : Nat) (F : Nat → va_E) (k : Nat) (hk : k + 7 < N) (c b v g h j : Nat → Int32) (t : Nat) (u z : Int32) (hS0 : stAt cI ad F k c b v g h j (nI t) u z) (x y m9 : Int32) (n : Nat) (hmn : m9 = nI n) (hn1 : 1 ≤ n) (hn : n < 2 ^ 31) (d : Int32) : MR l yX4_whyNotLifted (Cond.code yX4_whyNotLifted cX4_whyNotLifted 6 (some .int) :: AW) ({ frames := 3, cells := 0, slots := 0, locals := 65 } : Room) D cI cQ cL ad N F [.ref (ad k), .int x, .int y, .int m9, .int d] (.int (nI (wnl c b v t z x y n d))) := by
  refine mr_i (ty := .int) (by decide +kernel) rfl rfl rfl rfl (Nat.le_of_ble_eq_true rfl) (fun p e s m below meth cd Q ls hx hb hml hown hts hP hK hNW hret hl => ?_)
  have hown : s.vm.findClass RX4 = some m.cls := hown
  subst hmn
  have hk0 : k < N := by omega
  have hk1 : k + 1 < N := by omega
  have hk11 : k + 1 + 1 < N := by omega
  have hk12 : k + 1 + 2 < N := by omega
  have hk13 : k + 1 + 3 < N := by omega
  have hkm : k + 1 + 3 < N := by omega
  have hk5 : k + 5 < N := by omega
  have hk6 : k + 6 < N := by omega
  have hk7 : k + 7 < N := hk
  have hl : lv_has ls 6 [(0, .ref (ad k)), (1, .int x), (2, .int y), (3, .int (nI n)), (4, .int d)] := hl
  refine lv_aload_n hx hb (dk kX4_whyNotLifted_ok 0 rfl) rfl (lv_at hl 0 rfl) ?_
  refine gf hx hb hts (fun w h => List.mem_cons_of_mem _ (acX4 w h)) hown hK hP hk0 hS0.1 rfl 0 (by decide) (hts _ (List.mem_cons_of_mem _ (ac4 _ (List.mem_of_getElem? (i := 3) rfl)))) (fun _ h => h) rfl (dk kX4_whyNotLifted_ok 1 rfl) ?_
  refine cvR (As := []) (rest := []) ⟨hx, hb, hml, hown, hts⟩ (tX1_isOver l D cI cQ cL ad N F (k + 1) hkm c b v hS0.2.1) (cwV9 0 hts mcX1_isOver (ac6 _ (List.mem_of_getElem? (i := 10) rfl)) miX1_isOver meX1_isOver mini_RX1 rfl rfl hdX1_isOver ⟨Nat.le_of_ble_eq_true rfl, Nat.le_of_ble_eq_true rfl⟩) hK hP hNW hk1 hS0.2.1.1 rfl rfl hl.1 rfl (Nat.le_of_ble_eq_true rfl) (by decide) (dk kX4_whyNotLifted_ok 2 rfl) ?_
  refine b_if_eq (tgt := 12) hx hb (dk kX4_whyNotLifted_ok 3 rfl) (by decide) (fun h1 => ?_) (fun h1 => ?_)
  · skip
    refine lv_iload_n hx hb (dk kX4_whyNotLifted_ok 6 rfl) rfl (lv_at hl 1 rfl) ?_
    refine lv_iload_n hx hb (dk kX4_whyNotLifted_ok 7 rfl) rfl (lv_at hl 2 rfl) ?_
    refine csPN (As := [.int x, .int y]) (rest := []) ⟨hx, hb, hml, hown, hts⟩ (tX5_cellAt l x y) (cwN9 2 hts mcX5_cellAt (nm13 hNW) mini_RX5 rfl rfl hdX5_cellAt ⟨Nat.le_of_ble_eq_true rfl, Nat.le_of_ble_eq_true rfl⟩) (hts _ (List.mem_cons_of_mem _ msX5_cellAt)) rfl hl.1 rfl (Nat.le_of_ble_eq_true rfl) (by decide) (dk kX4_whyNotLifted_ok 8 rfl) ?_
    refine lv_istore (lv' := [(5, .int (cat x y)), (0, .ref (ad k)), (1, .int x), (2, .int y), (3, .int (nI n)), (4, .int d)]) hx hb (dk kX4_whyNotLifted_ok 9 rfl) hl (by decide) rfl (fun ls hl => ?_)
    refine lv_aload_n hx hb (dk kX4_whyNotLifted_ok 10 rfl) rfl (lv_at hl 1 rfl) ?_
    refine gf hx hb hts (fun w h => List.mem_cons_of_mem _ (acX4 w h)) hown hK hP hk0 hS0.1 rfl 0 (by decide) (hts _ (List.mem_cons_of_mem _ (ac4 _ (List.mem_of_getElem? (i := 3) rfl)))) (fun _ h => h) rfl (dk kX4_whyNotLifted_ok 11 rfl) ?_
    refine lv_iload hx hb (dk kX4_whyNotLifted_ok 12 rfl) (lv_at hl 0 rfl) ?_
    refine lv_iload_n hx hb (dk kX4_whyNotLifted_ok 13 rfl) rfl (lv_at hl 4 rfl) ?_
    refine cvR (As := [.int (cat x y), .int (nI n)]) (rest := []) ⟨hx, hb, hml, hown, hts⟩ (tX1_lowestOfUpper l D cI cQ cL ad N F (k + 1) hkm c b v hS0.2.1 (cat x y) (nI n) n rfl (by omega) (by omega)) (cwV9 2 hts mcX1_lowestOfUpper (ac6 _ (List.mem_of_getElem? (i := 16) rfl)) miX1_lowestOfUpper meX1_lowestOfUpper mini_RX1 rfl rfl hdX1_lowestOfUpper ⟨Nat.le_of_ble_eq_true rfl, Nat.le_of_ble_eq_true rfl⟩) hK hP hNW hk1 hS0.2.1.1 rfl rfl hl.1 rfl (Nat.le_of_ble_eq_true rfl) (by decide) (dk kX4_whyNotLifted_ok 14 rfl) ?_
    refine lv_iconst (v := -1) hx hb (dk kX4_whyNotLifted_ok 15 rfl) rfl ?_
    refine lv_icmp_ne (tgt := 35) hx hb (dk kX4_whyNotLifted_ok 16 rfl) (by decide) (fun h2 => ?_) (fun h2 => ?_)
    · skip
      refine lv_aload_n hx hb (dk kX4_whyNotLifted_ok 19 rfl) rfl (lv_at hl 1 rfl) ?_
      refine gf hx hb hts (fun w h => List.mem_cons_of_mem _ (acX4 w h)) hown hK hP hk0 hS0.1 rfl 0 (by decide) (hts _ (List.mem_cons_of_mem _ (ac4 _ (List.mem_of_getElem? (i := 3) rfl)))) (fun _ h => h) rfl (dk kX4_whyNotLifted_ok 20 rfl) ?_
      refine lv_iload hx hb (dk kX4_whyNotLifted_ok 21 rfl) (lv_at hl 0 rfl) ?_
      refine cvR (As := [.int (cat x y)]) (rest := []) ⟨hx, hb, hml, hown, hts⟩ (tX1_topAt l D cI cQ cL ad N F (k + 1) hkm c b v hS0.2.1 (cat x y)) (cwV9 1 hts mcX1_topAt (ac6 _ (List.mem_of_getElem? (i := 20) rfl)) miX1_topAt meX1_topAt mini_RX1 rfl rfl hdX1_topAt ⟨Nat.le_of_ble_eq_true rfl, Nat.le_of_ble_eq_true rfl⟩) hK hP hNW hk1 hS0.2.1.1 rfl rfl hl.1 rfl (Nat.le_of_ble_eq_true rfl) (by decide) (dk kX4_whyNotLifted_ok 22 rfl) ?_
      refine csPN (As := [.int (top c v (cat x y))]) (rest := []) ⟨hx, hb, hml, hown, hts⟩ (tX5_colourOf_r l (top c v (cat x y))) (cwN9 1 hts mcX5_colourOf (nm6 hNW) mini_RX5 rfl rfl hdX5_colourOf ⟨Nat.le_of_ble_eq_true rfl, Nat.le_of_ble_eq_true rfl⟩) (hts _ (List.mem_cons_of_mem _ msX5_colourOf)) rfl hl.1 rfl (Nat.le_of_ble_eq_true rfl) (by decide) (dk kX4_whyNotLifted_ok 23 rfl) ?_
      refine lv_aload_n hx hb (dk kX4_whyNotLifted_ok 24 rfl) rfl (lv_at hl 1 rfl) ?_
      refine gf hx hb hts (fun w h => List.mem_cons_of_mem _ (acX4 w h)) hown hK hP hk0 hS0.1 rfl 4 (by decide) (hts _ (List.mem_cons_of_mem _ (ac4 _ (List.mem_of_getElem? (i := 7) rfl)))) (fun _ h => h) rfl (dk kX4_whyNotLifted_ok 25 rfl) ?_
      refine lv_icmp_eq (tgt := 56) hx hb (dk kX4_whyNotLifted_ok 26 rfl) (by decide) (fun h3 => ?_) (fun h3 => ?_)
      · skip
        refine lv_iload_n hx hb (dk kX4_whyNotLifted_ok 29 rfl) rfl (lv_at hl 4 rfl) ?_
        refine lv_aload_n hx hb (dk kX4_whyNotLifted_ok 30 rfl) rfl (lv_at hl 1 rfl) ?_
        refine gf hx hb hts (fun w h => List.mem_cons_of_mem _ (acX4 w h)) hown hK hP hk0 hS0.1 rfl 6 (by decide) (hts _ (List.mem_cons_of_mem _ (ac4 _ (List.mem_of_getElem? (i := 9) rfl)))) (fun _ h => h) rfl (dk kX4_whyNotLifted_ok 31 rfl) ?_
        refine lv_icmp_le (tgt := 66) hx hb (dk kX4_whyNotLifted_ok 32 rfl) (by decide) (fun h4 => ?_) (fun h4 => ?_)
        · skip
          refine lv_iload_n hx hb (dk kX4_whyNotLifted_ok 35 rfl) rfl (lv_at hl 2 rfl) ?_
          refine lv_iload_n hx hb (dk kX4_whyNotLifted_ok 36 rfl) rfl (lv_at hl 3 rfl) ?_
          refine lv_iload hx hb (dk kX4_whyNotLifted_ok 37 rfl) (lv_at hl 5 rfl) ?_
          refine csPN (As := [.int x, .int y, .int d]) (rest := []) ⟨hx, hb, hml, hown, hts⟩ (tX5_cellBeside l x y d) (cwN9 3 hts mcX5_cellBeside (nm14 hNW) mini_RX5 rfl rfl hdX5_cellBeside ⟨Nat.le_of_ble_eq_true rfl, Nat.le_of_ble_eq_true rfl⟩) (hts _ (List.mem_cons_of_mem _ msX5_cellBeside)) rfl hl.1 rfl (Nat.le_of_ble_eq_true rfl) (by decide) (dk kX4_whyNotLifted_ok 38 rfl) ?_
          refine lv_iconst (v := -1) hx hb (dk kX4_whyNotLifted_ok 39 rfl) rfl ?_
          refine lv_icmp_ne (tgt := 81) hx hb (dk kX4_whyNotLifted_ok 40 rfl) (by decide) (fun h5 => ?_) (fun h5 => ?_)
          · skip
            refine lv_iconst (v := nI 0) hx hb (dk kX4_whyNotLifted_ok 43 rfl) rfl ?_
            exact hret _ _ _ (by simp only [wnl, h1, (eq_false h2), (eq_true h3), (eq_true h4), (eq_false h5), not_true_eq_false, not_false_eq_true, and_true, true_and, and_false, false_and, or_true, true_or, or_false, false_or, and_self, or_self, if_true, if_false, Bool.false_eq_true, reduceIte]) (dk kX4_whyNotLifted_ok 44 rfl)
          · skip
            refine lv_iconst (v := nI 5) hx hb (dk kX4_whyNotLifted_ok 41 rfl) rfl ?_
            refine lv_goto (tgt := 82) hx hb (dk kX4_whyNotLifted_ok 42 rfl) (by decide) ?_
            exact hret _ _ _ (by simp only [wnl, h1, (eq_false h2), (eq_true h3), (eq_true h4), (eq_true h5), not_true_eq_false, not_false_eq_true, and_true, true_and, and_false, false_and, or_true, true_or, or_false, false_or, and_self, or_self, if_true, if_false, Bool.false_eq_true, reduceIte]) (dk kX4_whyNotLifted_ok 44 rfl)
        · skip
          refine lv_iconst (v := nI 4) hx hb (dk kX4_whyNotLifted_ok 33 rfl) rfl ?_
          exact hret _ _ _ (by simp only [wnl, h1, (eq_false h2), (eq_true h3), (eq_false h4), not_true_eq_false, not_false_eq_true, and_true, true_and, and_false, false_and, or_true, true_or, or_false, false_or, and_self, or_self, if_true, if_false, Bool.false_eq_true, reduceIte]) (dk kX4_whyNotLifted_ok 34 rfl)
      · skip
        refine lv_iconst (v := nI 3) hx hb (dk kX4_whyNotLifted_ok 27 rfl) rfl ?_
        exact hret _ _ _ (by simp only [wnl, h1, (eq_false h2), (eq_false h3), not_true_eq_false, not_false_eq_true, and_true, true_and, and_false, false_and, or_true, true_or, or_false, false_or, and_self, or_self, if_true, if_false, Bool.false_eq_true, reduceIte]) (dk kX4_whyNotLifted_ok 28 rfl)
    · skip
      refine lv_iconst (v := nI 2) hx hb (dk kX4_whyNotLifted_ok 17 rfl) rfl ?_
      exact hret _ _ _ (by simp only [wnl, h1, (eq_true h2), not_true_eq_false, not_false_eq_true, and_true, true_and, and_false, false_and, or_true, true_or, or_false, false_or, and_self, or_self, if_true, if_false, Bool.false_eq_true, reduceIte]) (dk kX4_whyNotLifted_ok 18 rfl)
  · skip
    refine lv_iconst (v := nI 1) hx hb (dk kX4_whyNotLifted_ok 4 rfl) rfl ?_
    exact hret _ _ _ (by simp only [wnl, h1, not_true_eq_false, not_false_eq_true, and_true, true_and, and_false, false_and, or_true, true_or, or_false, false_or, and_self, or_self, if_true, if_false, Bool.false_eq_true, reduceIte]) (dk kX4_whyNotLifted_ok 5 rfl)
set_option maxRecDepth 100000 in
set_option maxHeartbeats 4000000 in
theorem tX4_allFlights (l : Launch) (D : va_G) (cI cQ cL : ClassId) (ad : Nat → Nat) (N : Nat) (F : Nat → va_E) (k : Nat) (hk : k + 7 < N) (c b v g h j : Nat → Int32) (t : Nat) (u z : Int32) (hS0 : stAt cI ad F k c b v g h j (nI t) u z) : MR l yX4_allFlights (Cond.code yX4_allFlights cX4_allFlights 3 (some .int) :: AW) ({ frames := 0, cells := 0, slots := 0, locals := 0 } : Room) D cI cQ cL ad N F [.ref (ad k)] (.int (smi g 16)) := by
  refine mr_i (ty := .int) (by decide +kernel) rfl rfl rfl rfl (Nat.le_of_ble_eq_true rfl) (fun p e s m below meth cd Q ls hx hb hml hown hts hP hK hNW hret hl => ?_)
  have hown : s.vm.findClass RX4 = some m.cls := hown
  have hk0 : k < N := by omega
  have hk1 : k + 1 < N := by omega
  have hk11 : k + 1 + 1 < N := by omega
  have hk12 : k + 1 + 2 < N := by omega
  have hk13 : k + 1 + 3 < N := by omega
  have hkm : k + 1 + 3 < N := by omega
  have hk5 : k + 5 < N := by omega
  have hk6 : k + 6 < N := by omega
  have hk7 : k + 7 < N := hk
  have hl : lv_has ls 3 [(0, .ref (ad k))] := hl
  refine lv_iconst (v := nI 0) hx hb (dk kX4_allFlights_ok 0 rfl) rfl ?_
  refine lv_istore_n (lv' := [(1, .int (nI 0)), (0, .ref (ad k))]) hx hb (dk kX4_allFlights_ok 1 rfl) rfl hl (by decide) rfl (fun ls hl => ?_)
  refine lv_iconst (v := nI 0) hx hb (dk kX4_allFlights_ok 2 rfl) rfl ?_
  refine lv_istore_n (lv' := [(2, .int (nI 0)), (1, .int (nI 0)), (0, .ref (ad k))]) hx hb (dk kX4_allFlights_ok 3 rfl) rfl hl (by decide) rfl (fun ls hl => ?_)
  have L4 : ∀ (fu : Nat) (i : Nat) (x1 : Int32), x1 = smi g i → i ≤ 16 → 16 - i < fu → ∀ ls : Array Slot, lv_has ls 3 [(0, .ref (ad k)), (1, .int x1), (2, .int (nI i))] → W p l e ({ frames := 0, cells := 0, slots := 0, locals := 0 } : Room) s m ([.ref (ad k)] : List Value).toArray below meth cd s.heap [] 0 0 Q (F0 m 4 ls []) := by
    intro fu
    induction fu with
    | zero => intros; omega
    | succ fu ih4 =>
      intro i x1 ex1 hi hm4 ls hl
      subst ex1
      refine lv_iload_n hx hb (dk kX4_allFlights_ok 4 rfl) rfl (lv_at hl 2 rfl) ?_
      refine lv_bipush (v := nI 16) hx hb (dk kX4_allFlights_ok 5 rfl) rfl ?_
      refine n_icmp_ge (tgt := 25) hx hb (by omega) (by decide) (dk kX4_allFlights_ok 6 rfl) (by decide) (fun h1 => ?_) (fun h1 => ?_)
      · skip
        refine lv_iload_n hx hb (dk kX4_allFlights_ok 16 rfl) rfl (lv_at hl 1 rfl) ?_
        exact hret _ _ _ (by rw [show i = 16 by omega] <;> rfl) (dk kX4_allFlights_ok 17 rfl)
      · skip
        refine lv_iload_n hx hb (dk kX4_allFlights_ok 7 rfl) rfl (lv_at hl 1 rfl) ?_
        refine lv_aload_n hx hb (dk kX4_allFlights_ok 8 rfl) rfl (lv_at hl 0 rfl) ?_
        refine gf hx hb hts (fun w h => List.mem_cons_of_mem _ (acX4 w h)) hown hK hP hk0 hS0.1 rfl 1 (by decide) (hts _ (List.mem_cons_of_mem _ (ac4 _ (List.mem_of_getElem? (i := 4) rfl)))) (fun _ h => h) rfl (dk kX4_allFlights_ok 9 rfl) ?_
        refine lv_iload_n hx hb (dk kX4_allFlights_ok 10 rfl) rfl (lv_at hl 2 rfl) ?_
        refine ald (j := i) hx hb hK hP hk5 hS0.2.2.1 rfl (by omega) (by decide) (dk kX4_allFlights_ok 11 rfl) ?_
        refine lv_iadd hx hb (dk kX4_allFlights_ok 12 rfl) ?_
        refine lv_istore_n (lv' := [(1, .int ((smi g i) + (g i))), (0, .ref (ad k)), (2, .int (nI i))]) hx hb (dk kX4_allFlights_ok 13 rfl) rfl hl (by decide) rfl (fun ls hl => ?_)
        refine lv_iinc (v := nI (i + 1)) (lv' := [(2, .int (nI (i + 1))), (1, .int ((smi g i) + (g i))), (0, .ref (ad k))]) hx hb (dk kX4_allFlights_ok 14 rfl) hl (k := 2) rfl (n_inc _) (by decide) rfl (fun ls hl => ?_)
        refine lv_goto (tgt := 4) hx hb (dk kX4_allFlights_ok 15 rfl) (by decide) ?_
        exact ih4 (i + 1) _ (by rfl) (by omega) (by omega) ls (lv_sub hl [2, 1, 0] rfl)
  exact L4 _ 0 _ (by first | rfl | omega) (by first | rfl | omega) (Nat.lt_succ_self _) ls (lv_sub hl [2, 1, 0] rfl)
set_option maxRecDepth 100000 in
set_option maxHeartbeats 4000000 in
theorem tX4_allFouls (l : Launch) (D : va_G) (cI cQ cL : ClassId) (ad : Nat → Nat) (N : Nat) (F : Nat → va_E) (k : Nat) (hk : k + 7 < N) (c b v g h j : Nat → Int32) (t : Nat) (u z : Int32) (hS0 : stAt cI ad F k c b v g h j (nI t) u z) : MR l yX4_allFouls (Cond.code yX4_allFouls cX4_allFouls 3 (some .int) :: AW) ({ frames := 0, cells := 0, slots := 0, locals := 0 } : Room) D cI cQ cL ad N F [.ref (ad k)] (.int (smi h 4)) := by
  refine mr_i (ty := .int) (by decide +kernel) rfl rfl rfl rfl (Nat.le_of_ble_eq_true rfl) (fun p e s m below meth cd Q ls hx hb hml hown hts hP hK hNW hret hl => ?_)
  have hown : s.vm.findClass RX4 = some m.cls := hown
  have hk0 : k < N := by omega
  have hk1 : k + 1 < N := by omega
  have hk11 : k + 1 + 1 < N := by omega
  have hk12 : k + 1 + 2 < N := by omega
  have hk13 : k + 1 + 3 < N := by omega
  have hkm : k + 1 + 3 < N := by omega
  have hk5 : k + 5 < N := by omega
  have hk6 : k + 6 < N := by omega
  have hk7 : k + 7 < N := hk
  have hl : lv_has ls 3 [(0, .ref (ad k))] := hl
  refine lv_iconst (v := nI 0) hx hb (dk kX4_allFouls_ok 0 rfl) rfl ?_
  refine lv_istore_n (lv' := [(1, .int (nI 0)), (0, .ref (ad k))]) hx hb (dk kX4_allFouls_ok 1 rfl) rfl hl (by decide) rfl (fun ls hl => ?_)
  refine lv_iconst (v := nI 0) hx hb (dk kX4_allFouls_ok 2 rfl) rfl ?_
  refine lv_istore_n (lv' := [(2, .int (nI 0)), (1, .int (nI 0)), (0, .ref (ad k))]) hx hb (dk kX4_allFouls_ok 3 rfl) rfl hl (by decide) rfl (fun ls hl => ?_)
  have L4 : ∀ (fu : Nat) (i : Nat) (x1 : Int32), x1 = smi h i → i ≤ 4 → 4 - i < fu → ∀ ls : Array Slot, lv_has ls 3 [(0, .ref (ad k)), (1, .int x1), (2, .int (nI i))] → W p l e ({ frames := 0, cells := 0, slots := 0, locals := 0 } : Room) s m ([.ref (ad k)] : List Value).toArray below meth cd s.heap [] 0 0 Q (F0 m 4 ls []) := by
    intro fu
    induction fu with
    | zero => intros; omega
    | succ fu ih4 =>
      intro i x1 ex1 hi hm4 ls hl
      subst ex1
      refine lv_iload_n hx hb (dk kX4_allFouls_ok 4 rfl) rfl (lv_at hl 2 rfl) ?_
      refine lv_iconst (v := nI 4) hx hb (dk kX4_allFouls_ok 5 rfl) rfl ?_
      refine n_icmp_ge (tgt := 24) hx hb (by omega) (by decide) (dk kX4_allFouls_ok 6 rfl) (by decide) (fun h1 => ?_) (fun h1 => ?_)
      · skip
        refine lv_iload_n hx hb (dk kX4_allFouls_ok 16 rfl) rfl (lv_at hl 1 rfl) ?_
        exact hret _ _ _ (by rw [show i = 4 by omega] <;> rfl) (dk kX4_allFouls_ok 17 rfl)
      · skip
        refine lv_iload_n hx hb (dk kX4_allFouls_ok 7 rfl) rfl (lv_at hl 1 rfl) ?_
        refine lv_aload_n hx hb (dk kX4_allFouls_ok 8 rfl) rfl (lv_at hl 0 rfl) ?_
        refine gf hx hb hts (fun w h => List.mem_cons_of_mem _ (acX4 w h)) hown hK hP hk0 hS0.1 rfl 2 (by decide) (hts _ (List.mem_cons_of_mem _ (ac4 _ (List.mem_of_getElem? (i := 5) rfl)))) (fun _ h => h) rfl (dk kX4_allFouls_ok 9 rfl) ?_
        refine lv_iload_n hx hb (dk kX4_allFouls_ok 10 rfl) rfl (lv_at hl 2 rfl) ?_
        refine ald (j := i) hx hb hK hP hk6 hS0.2.2.2.1 rfl (by omega) (by decide) (dk kX4_allFouls_ok 11 rfl) ?_
        refine lv_iadd hx hb (dk kX4_allFouls_ok 12 rfl) ?_
        refine lv_istore_n (lv' := [(1, .int ((smi h i) + (h i))), (0, .ref (ad k)), (2, .int (nI i))]) hx hb (dk kX4_allFouls_ok 13 rfl) rfl hl (by decide) rfl (fun ls hl => ?_)
        refine lv_iinc (v := nI (i + 1)) (lv' := [(2, .int (nI (i + 1))), (1, .int ((smi h i) + (h i))), (0, .ref (ad k))]) hx hb (dk kX4_allFouls_ok 14 rfl) hl (k := 2) rfl (n_inc _) (by decide) rfl (fun ls hl => ?_)
        refine lv_goto (tgt := 4) hx hb (dk kX4_allFouls_ok 15 rfl) (by decide) ?_
        exact ih4 (i + 1) _ (by rfl) (by omega) (by omega) ls (lv_sub hl [2, 1, 0] rfl)
  exact L4 _ 0 _ (by first | rfl | omega) (by first | rfl | omega) (Nat.lt_succ_self _) ls (lv_sub hl [2, 1, 0] rfl)
set_option maxRecDepth 100000 in
set_option maxHeartbeats 4000000 in
theorem tX4_passTurn (l : Launch) (D : va_G) (cI cQ cL : ClassId) (ad : Nat → Nat) (N : Nat) (F : Nat → va_E) (k : Nat) (hk : k + 7 < N) (c b v g h j : Nat → Int32) (t : Nat) (u z : Int32) (hS0 : stAt cI ad F k c b v g h j (nI t) u z) (ht : t < 4) : MX l yX4_passTurn (Cond.code yX4_passTurn cX4_passTurn 3 none :: AW) ({ frames := 2, cells := 0, slots := 0, locals := 44 } : Room) D cI cQ cL ad N F [.ref (ad k)] (dp none (sSet cI ad F k c b v g h ((pasg c t 8 j t).1) (nI ((pasg c t 8 j t).2)) u z)) 0 0 := by
  refine mx_v (by decide +kernel) rfl (Nat.le_of_ble_eq_true rfl) (fun p e s m below meth cd Q ls hx hb hml hown hts hDi hP hK hNW hS hret hl => ?_)
  have hown : s.vm.findClass RX4 = some m.cls := hown
  have hk0 : k < N := by omega
  have hk1 : k + 1 < N := by omega
  have hk11 : k + 1 + 1 < N := by omega
  have hk12 : k + 1 + 2 < N := by omega
  have hk13 : k + 1 + 3 < N := by omega
  have hkm : k + 1 + 3 < N := by omega
  have hk5 : k + 5 < N := by omega
  have hk6 : k + 6 < N := by omega
  have hk7 : k + 7 < N := hk
  have hP : va_P D vwCl (iW ad N (sSet cI ad F k c b v g h j (nI t) u z)) s.heap := by rw [sSet_self hS0]; exact hP
  have hl : lv_has ls 3 [(0, .ref (ad k))] := hl
  refine lv_aload_n hx hb (dk kX4_passTurn_ok 0 rfl) rfl (lv_at hl 0 rfl) ?_
  refine gf hx hb hts (fun w h => List.mem_cons_of_mem _ (acX4 w h)) hown hK hP hk0 (sSet_at hS0).1 rfl 4 (by decide) (hts _ (List.mem_cons_of_mem _ (ac4 _ (List.mem_of_getElem? (i := 7) rfl)))) (fun _ h => h) rfl (dk kX4_passTurn_ok 1 rfl) ?_
  refine lv_istore_n (lv' := [(1, .int (nI t)), (0, .ref (ad k))]) hx hb (dk kX4_passTurn_ok 2 rfl) rfl hl (by decide) rfl (fun ls hl => ?_)
  refine lv_iconst (v := nI 0) hx hb (dk kX4_passTurn_ok 3 rfl) rfl ?_
  refine lv_istore_n (lv' := [(2, .int (nI 0)), (1, .int (nI t)), (0, .ref (ad k))]) hx hb (dk kX4_passTurn_ok 4 rfl) rfl hl (by decide) rfl (fun ls hl => ?_)
  have L7 : ∀ (fu : Nat) (i q : Nat) (j2 : Nat → Int32) (H : Heap) (locs : List Loc), va_P D vwCl (iW ad N (sSet cI ad F k c b v g h j2 (nI t) u z)) H → va_S (iA ad N s.heap.size) s.heap H locs → i ≤ 8 → q < 4 → pasg c t 8 j t = pasg c t (8 - i) j2 q → 8 - i < fu → ∀ ls : Array Slot, lv_has ls 3 [(0, .ref (ad k)), (1, .int (nI q)), (2, .int (nI i))] → W p l e ({ frames := 2, cells := 0, slots := 0, locals := 44 } : Room) s m ([.ref (ad k)] : List Value).toArray below meth cd H locs 0 0 Q (F0 m 7 ls []) := by
    intro fu
    induction fu with
    | zero => intros; omega
    | succ fu ih7 =>
      intro i q j2 H locs hP hS hi hq hr hm7 ls hl
      refine lv_iload_n hx hb (dk kX4_passTurn_ok 5 rfl) rfl (lv_at hl 2 rfl) ?_
      refine lv_bipush (v := nI 8) hx hb (dk kX4_passTurn_ok 6 rfl) rfl ?_
      refine n_icmp_ge (tgt := 64) hx hb (by omega) (by decide) (dk kX4_passTurn_ok 7 rfl) (by decide) (fun h1 => ?_) (fun h1 => ?_)
      · skip
        exact hret _ _ _ _ _ _ _ (by refine ⟨rfl, ?_⟩; first | (rw [hr, show 8 - i = (8 - (i + 1)) + 1 by omega]; simp only [pasg, (eq_true h1), (eq_false (Nat.not_lt.mpr h1)), not_true_eq_false, not_false_eq_true, and_true, true_and, and_false, false_and, or_true, true_or, or_false, false_or, and_self, or_self, if_true, if_false, Bool.false_eq_true, reduceIte]; done) | (rw [hr, show 8 - i = 0 by omega]; rfl)) hP hS (by decide) (by decide) (dk kX4_passTurn_ok 39 rfl)
      · skip
        refine lv_iload_n hx hb (dk kX4_passTurn_ok 8 rfl) rfl (lv_at hl 1 rfl) ?_
        refine lv_iconst (v := nI 1) hx hb (dk kX4_passTurn_ok 9 rfl) rfl ?_
        refine n_iadd hx hb (dk kX4_passTurn_ok 10 rfl) ?_
        refine lv_iconst (v := nI 4) hx hb (dk kX4_passTurn_ok 11 rfl) rfl ?_
        refine n_irem hx hb (by omega) (by decide) (by decide) (dk kX4_passTurn_ok 12 rfl) ?_
        refine lv_istore_n (lv' := [(1, .int (nI ((q + 1) % 4))), (0, .ref (ad k)), (2, .int (nI i))]) hx hb (dk kX4_passTurn_ok 13 rfl) rfl hl (by decide) rfl (fun ls hl => ?_)
        refine lv_aload_n hx hb (dk kX4_passTurn_ok 14 rfl) rfl (lv_at hl 1 rfl) ?_
        refine gf hx hb hts (fun w h => List.mem_cons_of_mem _ (acX4 w h)) hown hK hP hk0 (sSet_at hS0).1 rfl 0 (by decide) (hts _ (List.mem_cons_of_mem _ (ac4 _ (List.mem_of_getElem? (i := 3) rfl)))) (fun _ h => h) rfl (dk kX4_passTurn_ok 15 rfl) ?_
        refine lv_iload_n hx hb (dk kX4_passTurn_ok 16 rfl) rfl (lv_at hl 0 rfl) ?_
        refine cvR (As := [.int (nI ((q + 1) % 4))]) (rest := []) ⟨hx, hb, hml, hown, hts⟩ (tX1_isAllPotted l D cI cQ cL ad N (sSet cI ad F k c b v g h j2 (nI t) u z) (k + 1) hkm c b v (sSet_at hS0).2.1 (nI ((q + 1) % 4)) ((q + 1) % 4) rfl (by omega)) (cwV9 1 hts mcX1_isAllPotted (ac7 _ (List.mem_of_getElem? (i := 4) rfl)) miX1_isAllPotted meX1_isAllPotted mini_RX1 rfl rfl hdX1_isAllPotted ⟨Nat.le_of_ble_eq_true rfl, Nat.le_of_ble_eq_true rfl⟩) hK hP hNW hk1 (sSet_at hS0).2.1.1 rfl rfl hl.1 rfl (Nat.le_of_ble_eq_true rfl) (by decide) (dk kX4_passTurn_ok 17 rfl) ?_
        refine b_if_eq (tgt := 33) hx hb (dk kX4_passTurn_ok 18 rfl) (by decide) (fun h2 => ?_) (fun h2 => ?_)
        · replace h2 := of_decide_eq_false h2
          refine lv_aload_n hx hb (dk kX4_passTurn_ok 20 rfl) rfl (lv_at hl 1 rfl) ?_
          refine gf hx hb hts (fun w h => List.mem_cons_of_mem _ (acX4 w h)) hown hK hP hk0 (sSet_at hS0).1 rfl 3 (by decide) (hts _ (List.mem_cons_of_mem _ (ac4 _ (List.mem_of_getElem? (i := 6) rfl)))) (fun _ h => h) rfl (dk kX4_passTurn_ok 21 rfl) ?_
          refine lv_iload_n hx hb (dk kX4_passTurn_ok 22 rfl) rfl (lv_at hl 0 rfl) ?_
          refine ald (j := ((q + 1) % 4)) hx hb hK hP hk7 (sSet_at hS0).2.2.2.2 rfl (by omega) (by decide) (dk kX4_passTurn_ok 23 rfl) ?_
          refine lv_if_ne (tgt := 48) hx hb (dk kX4_passTurn_ok 24 rfl) (by decide) (fun h3 => ?_) (fun h3 => ?_)
          · skip
            refine lv_aload_n hx hb (dk kX4_passTurn_ok 29 rfl) rfl (lv_at hl 1 rfl) ?_
            refine gf hx hb hts (fun w h => List.mem_cons_of_mem _ (acX4 w h)) hown hK hP hk0 (sSet_at hS0).1 rfl 3 (by decide) (hts _ (List.mem_cons_of_mem _ (ac4 _ (List.mem_of_getElem? (i := 6) rfl)))) (fun _ h => h) rfl (dk kX4_passTurn_ok 30 rfl) ?_
            refine lv_iload_n hx hb (dk kX4_passTurn_ok 31 rfl) rfl (lv_at hl 0 rfl) ?_
            refine lv_dup2_11 hx hb (dk kX4_passTurn_ok 32 rfl) rfl rfl ?_
            refine ald (j := ((q + 1) % 4)) hx hb hK hP hk7 (sSet_at hS0).2.2.2.2 rfl (by omega) (by decide) (dk kX4_passTurn_ok 33 rfl) ?_
            refine lv_iconst (v := nI 1) hx hb (dk kX4_passTurn_ok 34 rfl) rfl ?_
            refine lv_isub hx hb (dk kX4_passTurn_ok 35 rfl) ?_
            refine ast (sSet cI ad F k c b v g h (upd j2 ((q + 1) % 4) ((j2 ((q + 1) % 4)) - (nI 1))) (nI t) u z) (j := ((q + 1) % 4)) hx hb hK hDi hP hS hk7 (sSet_at hS0).2.2.2.2 rfl (by omega) (by decide) (dk kX4_passTurn_ok 36 rfl) sSet_j (fun H locs hP hS => ?_)
            refine lv_iinc (v := nI (i + 1)) (lv' := [(2, .int (nI (i + 1))), (1, .int (nI ((q + 1) % 4))), (0, .ref (ad k))]) hx hb (dk kX4_passTurn_ok 37 rfl) hl (k := 2) rfl (n_inc _) (by decide) rfl (fun ls hl => ?_)
            refine lv_goto (tgt := 7) hx hb (dk kX4_passTurn_ok 38 rfl) (by decide) ?_
            exact ih7 (i + 1) ((q + 1) % 4) (upd j2 ((q + 1) % 4) ((j2 ((q + 1) % 4)) - (nI 1))) _ _ hP hS (by omega) (by omega) (by rw [hr, show 8 - i = (8 - (i + 1)) + 1 by omega]; simp only [pasg, (eq_true h1), (eq_false (Nat.not_le.mpr h1)), (eq_false h2), (eq_false h3), not_true_eq_false, not_false_eq_true, and_true, true_and, and_false, false_and, or_true, true_or, or_false, false_or, and_self, or_self, if_true, if_false, Bool.false_eq_true, reduceIte]) (by omega) ls (lv_sub hl [2, 1, 0] rfl)
          · skip
            refine lv_aload_n hx hb (dk kX4_passTurn_ok 25 rfl) rfl (lv_at hl 1 rfl) ?_
            refine lv_iload_n hx hb (dk kX4_passTurn_ok 26 rfl) rfl (lv_at hl 0 rfl) ?_
            refine pf (sSet cI ad F k c b v g h j2 (nI ((q + 1) % 4)) u z) hx hb hts (fun w h => List.mem_cons_of_mem _ (acX4 w h)) tyX4 tyX4_ok nmX4 hown hK hDi hP hS hk0 (sSet_at hS0).1 rfl 4 (by decide) (hts _ (List.mem_cons_of_mem _ (ac4 _ (List.mem_of_getElem? (i := 7) rfl)))) (fun _ h => h) rfl (ty := .int) rfl rfl rfl (Nat.le_of_ble_eq_true rfl) (dk kX4_passTurn_ok 27 rfl) sSet_0 (fun H locs hP hS => ?_)
            exact hret _ _ _ _ _ _ _ (by refine ⟨rfl, ?_⟩; first | (rw [hr, show 8 - i = (8 - (i + 1)) + 1 by omega]; simp only [pasg, (eq_true h1), (eq_false (Nat.not_le.mpr h1)), (eq_false h2), (eq_true h3), not_true_eq_false, not_false_eq_true, and_true, true_and, and_false, false_and, or_true, true_or, or_false, false_or, and_self, or_self, if_true, if_false, Bool.false_eq_true, reduceIte]; done) | (rw [hr, show 8 - i = 0 by omega]; rfl)) hP hS (by decide) (by decide) (dk kX4_passTurn_ok 28 rfl)
        · replace h2 := of_decide_eq_true h2
          refine lv_goto (tgt := 58) hx hb (dk kX4_passTurn_ok 19 rfl) (by decide) ?_
          refine lv_iinc (v := nI (i + 1)) (lv' := [(2, .int (nI (i + 1))), (1, .int (nI ((q + 1) % 4))), (0, .ref (ad k))]) hx hb (dk kX4_passTurn_ok 37 rfl) hl (k := 2) rfl (n_inc _) (by decide) rfl (fun ls hl => ?_)
          refine lv_goto (tgt := 7) hx hb (dk kX4_passTurn_ok 38 rfl) (by decide) ?_
          exact ih7 (i + 1) ((q + 1) % 4) j2 _ _ hP hS (by omega) (by omega) (by rw [hr, show 8 - i = (8 - (i + 1)) + 1 by omega]; simp only [pasg, (eq_true h1), (eq_false (Nat.not_le.mpr h1)), (eq_true h2), not_true_eq_false, not_false_eq_true, and_true, true_and, and_false, false_and, or_true, true_or, or_false, false_or, and_self, or_self, if_true, if_false, Bool.false_eq_true, reduceIte]) (by omega) ls (lv_sub hl [2, 1, 0] rfl)
  exact L7 _ 0 t j _ _ hP hS (by first | omega | rfl) (by first | omega | rfl) (by first | omega | rfl) (Nat.lt_succ_self _) ls (lv_sub hl [2, 1, 0] rfl)
set_option maxRecDepth 100000 in
set_option maxHeartbeats 4000000 in
theorem tX4_carryOutFlight (l : Launch) (D : va_G) (cI cQ cL : ClassId) (ad : Nat → Nat) (N : Nat) (F : Nat → va_E) (k : Nat) (hk : k + 7 < N) (c b v g h j : Nat → Int32) (t : Nat) (u z : Int32) (hS0 : stAt cI ad F k c b v g h j (nI t) u z) (ht : t < 4) (x : Int32) (w : Nat) (hxw : x = nI w) (hw : w < 16) (d y : Int32) (f : Nat) (hyf : y = nI f) (hf : f < 2 ^ 30) : MX l yX4_carryOutFlight (Cond.code yX4_carryOutFlight cX4_carryOutFlight 6 (some .int) :: AW) ({ frames := 3, cells := 0, slots := 0, locals := 68 } : Room) D cI cQ cL ad N F [.ref (ad k), .int x, .int d, .int y] (dp (some (.int (fans (flE c w d f)))) (sSet cI ad F k (mov1 c b v w (rest9 w (flE c w d f))) (mov2 c b v w (rest9 w (flE c w d f))) (mov3 c b v w (rest9 w (flE c w d f))) (upd g w (g w + nI 1)) (flH h w (flE c w d f)) ((flP (mov1 c b v w (rest9 w (flE c w d f))) t w (flE c w d f) (flH j w (flE c w d f))).1) (nI ((flP (mov1 c b v w (rest9 w (flE c w d f))) t w (flE c w d f) (flH j w (flE c w d f))).2)) u z)) 0 0 := by
  refine mx_i (ty := .int) (by decide +kernel) rfl (Nat.le_of_ble_eq_true rfl) (fun p e s m below meth cd Q ls hx hb hml hown hts hDi hP hK hNW hS hret hl => ?_)
  have hown : s.vm.findClass RX4 = some m.cls := hown
  subst hxw
  subst hyf
  have hst : stp w f < 2 ^ 31 := by unfold stp; split <;> omega
  have hk0 : k < N := by omega
  have hk1 : k + 1 < N := by omega
  have hk11 : k + 1 + 1 < N := by omega
  have hk12 : k + 1 + 2 < N := by omega
  have hk13 : k + 1 + 3 < N := by omega
  have hkm : k + 1 + 3 < N := by omega
  have hk5 : k + 5 < N := by omega
  have hk6 : k + 6 < N := by omega
  have hk7 : k + 7 < N := hk
  have hP : va_P D vwCl (iW ad N (sSet cI ad F k c b v g h j (nI t) u z)) s.heap := by rw [sSet_self hS0]; exact hP
  have hl : lv_has ls 6 [(0, .ref (ad k)), (1, .int (nI w)), (2, .int d), (3, .int (nI f))] := hl
  refine lv_iload_n hx hb (dk kX4_carryOutFlight_0_ok 0 rfl) rfl (lv_at hl 1 rfl) ?_
  refine csPN (As := [.int (nI w)]) (rest := []) ⟨hx, hb, hml, hown, hts⟩ (tX5_colourOf l (nI w) w rfl (by omega)) (cwN9 1 hts mcX5_colourOf (nm6 hNW) mini_RX5 rfl rfl hdX5_colourOf ⟨Nat.le_of_ble_eq_true rfl, Nat.le_of_ble_eq_true rfl⟩) (hts _ (List.mem_cons_of_mem _ msX5_colourOf)) rfl hl.1 rfl (Nat.le_of_ble_eq_true rfl) (by decide) (dk kX4_carryOutFlight_0_ok 1 rfl) ?_
  refine lv_istore (lv' := [(4, .int (nI (w / 4))), (0, .ref (ad k)), (1, .int (nI w)), (2, .int d), (3, .int (nI f))]) hx hb (dk kX4_carryOutFlight_0_ok 2 rfl) hl (by decide) rfl (fun ls hl => ?_)
  refine lv_aload_n hx hb (dk kX4_carryOutFlight_0_ok 3 rfl) rfl (lv_at hl 1 rfl) ?_
  refine gf hx hb hts (fun w h => List.mem_cons_of_mem _ (acX4 w h)) hown hK hP hk0 (sSet_at hS0).1 rfl 0 (by decide) (hts _ (List.mem_cons_of_mem _ (ac4 _ (List.mem_of_getElem? (i := 3) rfl)))) (fun _ h => h) rfl (dk kX4_carryOutFlight_0_ok 4 rfl) ?_
  refine gfN hx hb hts (fun w h => List.mem_cons_of_mem _ (acX1 w h)) hown hK hP hk1 (sSet_at hS0).2.1.1 rfl 0 (by decide) (nf0 hNW) (fun _ h => h) rfl (dk kX4_carryOutFlight_0_ok 5 rfl) ?_
  refine lv_iload_n hx hb (dk kX4_carryOutFlight_0_ok 6 rfl) rfl (lv_at hl 2 rfl) ?_
  refine ald (j := w) hx hb hK hP hk11 (sSet_at hS0).2.1.2.1 rfl (by omega) (by decide) (dk kX4_carryOutFlight_0_ok 7 rfl) ?_
  refine lv_iload_n hx hb (dk kX4_carryOutFlight_0_ok 8 rfl) rfl (lv_at hl 3 rfl) ?_
  refine lv_iload_n hx hb (dk kX4_carryOutFlight_0_ok 9 rfl) rfl (lv_at hl 2 rfl) ?_
  refine lv_iload_n hx hb (dk kX4_carryOutFlight_0_ok 10 rfl) rfl (lv_at hl 4 rfl) ?_
  refine csPN (As := [.int (nI w), .int (nI f)]) (rest := [.int d, .int (c w)]) ⟨hx, hb, hml, hown, hts⟩ (tX5_stepsOf l (nI w) w rfl (by omega) (nI f) f rfl (by omega)) (cwN9 2 hts mcX5_stepsOf (nm9 hNW) mini_RX5 rfl rfl hdX5_stepsOf ⟨Nat.le_of_ble_eq_true rfl, Nat.le_of_ble_eq_true rfl⟩) (hts _ (List.mem_cons_of_mem _ msX5_stepsOf)) rfl hl.1 rfl (Nat.le_of_ble_eq_true rfl) (by decide) (dk kX4_carryOutFlight_0_ok 11 rfl) ?_
  refine csPN (As := [.int (c w), .int d, .int (nI (stp w f))]) (rest := []) ⟨hx, hb, hml, hown, hts⟩ (tX5_landing l (c w) d (nI (stp w f)) (stp w f) rfl (by omega)) (cwN9 3 hts mcX5_landing (nm10 hNW) mini_RX5 rfl rfl hdX5_landing ⟨Nat.le_of_ble_eq_true rfl, Nat.le_of_ble_eq_true rfl⟩) (hts _ (List.mem_cons_of_mem _ msX5_landing)) rfl hl.1 rfl (Nat.le_of_ble_eq_true rfl) (by decide) (dk kX4_carryOutFlight_0_ok 12 rfl) ?_
  refine lv_istore (lv' := [(5, .int (ldg (c w) d (stp w f))), (4, .int (nI (w / 4))), (0, .ref (ad k)), (1, .int (nI w)), (2, .int d), (3, .int (nI f))]) hx hb (dk kX4_carryOutFlight_0_ok 13 rfl) hl (by decide) rfl (fun ls hl => ?_)
  refine lv_aload_n hx hb (dk kX4_carryOutFlight_0_ok 14 rfl) rfl (lv_at hl 2 rfl) ?_
  refine gf hx hb hts (fun w h => List.mem_cons_of_mem _ (acX4 w h)) hown hK hP hk0 (sSet_at hS0).1 rfl 0 (by decide) (hts _ (List.mem_cons_of_mem _ (ac4 _ (List.mem_of_getElem? (i := 3) rfl)))) (fun _ h => h) rfl (dk kX4_carryOutFlight_0_ok 15 rfl) ?_
  refine lv_iload_n hx hb (dk kX4_carryOutFlight_0_ok 16 rfl) rfl (lv_at hl 3 rfl) ?_
  refine lv_iload_n hx hb (dk kX4_carryOutFlight_0_ok 17 rfl) rfl (lv_at hl 3 rfl) ?_
  refine lv_iload hx hb (dk kX4_carryOutFlight_0_ok 18 rfl) (lv_at hl 0 rfl) ?_
  refine csPN (As := [.int (nI w), .int (ldg (c w) d (stp w f))]) (rest := [.int (nI w), .ref (ad (k + 1))]) ⟨hx, hb, hml, hown, hts⟩ (tX5_restingCell l (nI w) w rfl (by omega) (ldg (c w) d (stp w f))) (cwN9 2 hts mcX5_restingCell (nm11 hNW) mini_RX5 rfl rfl hdX5_restingCell ⟨Nat.le_of_ble_eq_true rfl, Nat.le_of_ble_eq_true rfl⟩) (hts _ (List.mem_cons_of_mem _ msX5_restingCell)) rfl hl.1 rfl (Nat.le_of_ble_eq_true rfl) (by decide) (dk kX4_carryOutFlight_0_ok 19 rfl) ?_
  refine cvDv (As := [.int (nI w), .int (rest9 w (ldg (c w) d (stp w f)))]) (rest := []) (sSet cI ad F k (mov1 c b v w (rest9 w (ldg (c w) d (stp w f)))) (mov2 c b v w (rest9 w (ldg (c w) d (stp w f)))) (mov3 c b v w (rest9 w (ldg (c w) d (stp w f)))) g h j (nI t) u z) ⟨hx, hb, hml, hown, hts⟩ (tX1_move l D cI cQ cL ad N (sSet cI ad F k c b v g h j (nI t) u z) (k + 1) hkm c b v (sSet_at hS0).2.1 (nI w) w rfl (by omega) (rest9 w (ldg (c w) d (stp w f)))) (cwV9 2 hts mcX1_move (ac7 _ (List.mem_of_getElem? (i := 9) rfl)) miX1_move meX1_move mini_RX1 rfl rfl hdX1_move ⟨Nat.le_of_ble_eq_true rfl, Nat.le_of_ble_eq_true rfl⟩) hDi hK hP hNW hS hk1 (sSet_at hS0).2.1.1 rfl rfl hl.1 rfl (Nat.le_of_ble_eq_true rfl) (by decide) (dk kX4_carryOutFlight_0_ok 20 rfl) sSet_m (fun H locs hP hS => ?_)
  refine lv_aload_n hx hb (dk kX4_carryOutFlight_0_ok 21 rfl) rfl (lv_at hl 2 rfl) ?_
  refine gf hx hb hts (fun w h => List.mem_cons_of_mem _ (acX4 w h)) hown hK hP hk0 (sSet_at hS0).1 rfl 1 (by decide) (hts _ (List.mem_cons_of_mem _ (ac4 _ (List.mem_of_getElem? (i := 4) rfl)))) (fun _ h => h) rfl (dk kX4_carryOutFlight_0_ok 22 rfl) ?_
  refine lv_iload_n hx hb (dk kX4_carryOutFlight_0_ok 23 rfl) rfl (lv_at hl 3 rfl) ?_
  refine lv_dup2_11 hx hb (dk kX4_carryOutFlight_0_ok 24 rfl) rfl rfl ?_
  refine ald (j := w) hx hb hK hP hk5 (sSet_at hS0).2.2.1 rfl (by omega) (by decide) (dk kX4_carryOutFlight_0_ok 25 rfl) ?_
  refine lv_iconst (v := nI 1) hx hb (dk kX4_carryOutFlight_0_ok 26 rfl) rfl ?_
  refine lv_iadd hx hb (dk kX4_carryOutFlight_0_ok 27 rfl) ?_
  refine ast (sSet cI ad F k (mov1 c b v w (rest9 w (ldg (c w) d (stp w f)))) (mov2 c b v w (rest9 w (ldg (c w) d (stp w f)))) (mov3 c b v w (rest9 w (ldg (c w) d (stp w f)))) (upd g w ((g w) + (nI 1))) h j (nI t) u z) (j := w) hx hb hK hDi hP hS hk5 (sSet_at hS0).2.2.1 rfl (by omega) (by decide) (dk kX4_carryOutFlight_0_ok 28 rfl) sSet_g (fun H locs hP hS => ?_)
  refine lv_iload hx hb (dk kX4_carryOutFlight_0_ok 29 rfl) (lv_at hl 0 rfl) ?_
  refine lv_iconst (v := -1) hx hb (dk kX4_carryOutFlight_0_ok 30 rfl) rfl ?_
  refine lv_icmp_ne (tgt := 78) hx hb (dk kX4_carryOutFlight_0_ok 31 rfl) (by decide) (fun h1 => ?_) (fun h1 => ?_)
  · skip
    refine lv_iload hx hb (dk kX4_carryOutFlight_0_ok 48 rfl) (lv_at hl 0 rfl) ?_
    refine lv_bipush (v := nI 84) hx hb (dk kX4_carryOutFlight_0_ok 49 rfl) rfl ?_
    refine lv_icmp_ne (tgt := 97) hx hb (dk kX4_carryOutFlight_0_ok 50 rfl) (by decide) (fun h2 => ?_) (fun h2 => ?_)
    · skip
      refine lv_aload_n hx hb (dk kX4_carryOutFlight_0_ok 56 rfl) rfl (lv_at hl 2 rfl) ?_
      refine cvDv (As := []) (rest := []) (sSet cI ad F k (mov1 c b v w (rest9 w (ldg (c w) d (stp w f)))) (mov2 c b v w (rest9 w (ldg (c w) d (stp w f)))) (mov3 c b v w (rest9 w (ldg (c w) d (stp w f)))) (upd g w ((g w) + (nI 1))) h ((pasg (mov1 c b v w (rest9 w (ldg (c w) d (stp w f)))) t 8 j t).1) (nI ((pasg (mov1 c b v w (rest9 w (ldg (c w) d (stp w f)))) t 8 j t).2)) u z) ⟨hx, hb, hml, hown, hts⟩ (tX4_passTurn l D cI cQ cL ad N (sSet cI ad F k (mov1 c b v w (rest9 w (ldg (c w) d (stp w f)))) (mov2 c b v w (rest9 w (ldg (c w) d (stp w f)))) (mov3 c b v w (rest9 w (ldg (c w) d (stp w f)))) (upd g w ((g w) + (nI 1))) h j (nI t) u z) k hk (mov1 c b v w (rest9 w (ldg (c w) d (stp w f)))) (mov2 c b v w (rest9 w (ldg (c w) d (stp w f)))) (mov3 c b v w (rest9 w (ldg (c w) d (stp w f)))) (upd g w ((g w) + (nI 1))) h j t u z (sSet_at hS0) ht) (cwV9 0 hts mcX4_passTurn (ac7 _ (List.mem_of_getElem? (i := 13) rfl)) miX4_passTurn meX4_passTurn mini_RX4 rfl rfl hdX4_passTurn ⟨Nat.le_of_ble_eq_true rfl, Nat.le_of_ble_eq_true rfl⟩) hDi hK hP hNW hS hk0 (sSet_at hS0).1 rfl rfl hl.1 rfl (Nat.le_of_ble_eq_true rfl) (by decide) (dk kX4_carryOutFlight_0_ok 57 rfl) sSet_sSet (fun H locs hP hS => ?_)
      refine lv_iload hx hb (dk kX4_carryOutFlight_0_ok 58 rfl) (lv_at hl 0 rfl) ?_
      refine csPN (As := [.int (ldg (c w) d (stp w f))]) (rest := []) ⟨hx, hb, hml, hown, hts⟩ (tX5_flightAnswer l (ldg (c w) d (stp w f))) (cwN9 1 hts mcX5_flightAnswer (nm12 hNW) mini_RX5 rfl rfl hdX5_flightAnswer ⟨Nat.le_of_ble_eq_true rfl, Nat.le_of_ble_eq_true rfl⟩) (hts _ (List.mem_cons_of_mem _ msX5_flightAnswer)) rfl hl.1 rfl (Nat.le_of_ble_eq_true rfl) (by decide) (dk kX4_carryOutFlight_0_ok 59 rfl) ?_
      exact hret _ _ _ _ _ _ _ _ rfl (by simp only [dp, flE, flH, flP, (eq_false h1), (eq_false h2), not_true_eq_false, not_false_eq_true, and_true, true_and, and_false, false_and, or_true, true_or, or_false, false_or, and_self, or_self, if_true, if_false, Bool.false_eq_true, reduceIte]) hP hS (by decide) (by decide) (dk kX4_carryOutFlight_1_ok 0 rfl)
    · skip
      refine lv_aload_n hx hb (dk kX4_carryOutFlight_0_ok 51 rfl) rfl (lv_at hl 2 rfl) ?_
      refine gf hx hb hts (fun w h => List.mem_cons_of_mem _ (acX4 w h)) hown hK hP hk0 (sSet_at hS0).1 rfl 0 (by decide) (hts _ (List.mem_cons_of_mem _ (ac4 _ (List.mem_of_getElem? (i := 3) rfl)))) (fun _ h => h) rfl (dk kX4_carryOutFlight_0_ok 52 rfl) ?_
      refine lv_iload hx hb (dk kX4_carryOutFlight_0_ok 53 rfl) (lv_at hl 1 rfl) ?_
      refine cvR (As := [.int (nI (w / 4))]) (rest := []) ⟨hx, hb, hml, hown, hts⟩ (tX1_isAllPotted l D cI cQ cL ad N (sSet cI ad F k (mov1 c b v w (rest9 w (ldg (c w) d (stp w f)))) (mov2 c b v w (rest9 w (ldg (c w) d (stp w f)))) (mov3 c b v w (rest9 w (ldg (c w) d (stp w f)))) (upd g w ((g w) + (nI 1))) h j (nI t) u z) (k + 1) hkm (mov1 c b v w (rest9 w (ldg (c w) d (stp w f)))) (mov2 c b v w (rest9 w (ldg (c w) d (stp w f)))) (mov3 c b v w (rest9 w (ldg (c w) d (stp w f)))) (sSet_at hS0).2.1 (nI (w / 4)) (w / 4) rfl (by omega)) (cwV9 1 hts mcX1_isAllPotted (ac7 _ (List.mem_of_getElem? (i := 4) rfl)) miX1_isAllPotted meX1_isAllPotted mini_RX1 rfl rfl hdX1_isAllPotted ⟨Nat.le_of_ble_eq_true rfl, Nat.le_of_ble_eq_true rfl⟩) hK hP hNW hk1 (sSet_at hS0).2.1.1 rfl rfl hl.1 rfl (Nat.le_of_ble_eq_true rfl) (by decide) (dk kX4_carryOutFlight_0_ok 54 rfl) ?_
      refine b_if_eq (tgt := 101) hx hb (dk kX4_carryOutFlight_0_ok 55 rfl) (by decide) (fun h3 => ?_) (fun h3 => ?_)
      · replace h3 := of_decide_eq_false h3
        refine lv_iload hx hb (dk kX4_carryOutFlight_0_ok 58 rfl) (lv_at hl 0 rfl) ?_
        refine csPN (As := [.int (ldg (c w) d (stp w f))]) (rest := []) ⟨hx, hb, hml, hown, hts⟩ (tX5_flightAnswer l (ldg (c w) d (stp w f))) (cwN9 1 hts mcX5_flightAnswer (nm12 hNW) mini_RX5 rfl rfl hdX5_flightAnswer ⟨Nat.le_of_ble_eq_true rfl, Nat.le_of_ble_eq_true rfl⟩) (hts _ (List.mem_cons_of_mem _ msX5_flightAnswer)) rfl hl.1 rfl (Nat.le_of_ble_eq_true rfl) (by decide) (dk kX4_carryOutFlight_0_ok 59 rfl) ?_
        exact hret _ _ _ _ _ _ _ _ rfl (by simp only [dp, flE, flH, flP, (eq_false h1), (eq_true h2), (eq_false h3), not_true_eq_false, not_false_eq_true, and_true, true_and, and_false, false_and, or_true, true_or, or_false, false_or, and_self, or_self, if_true, if_false, Bool.false_eq_true, reduceIte]) hP hS (by decide) (by decide) (dk kX4_carryOutFlight_1_ok 0 rfl)
      · replace h3 := of_decide_eq_true h3
        refine lv_aload_n hx hb (dk kX4_carryOutFlight_0_ok 56 rfl) rfl (lv_at hl 2 rfl) ?_
        refine cvDv (As := []) (rest := []) (sSet cI ad F k (mov1 c b v w (rest9 w (ldg (c w) d (stp w f)))) (mov2 c b v w (rest9 w (ldg (c w) d (stp w f)))) (mov3 c b v w (rest9 w (ldg (c w) d (stp w f)))) (upd g w ((g w) + (nI 1))) h ((pasg (mov1 c b v w (rest9 w (ldg (c w) d (stp w f)))) t 8 j t).1) (nI ((pasg (mov1 c b v w (rest9 w (ldg (c w) d (stp w f)))) t 8 j t).2)) u z) ⟨hx, hb, hml, hown, hts⟩ (tX4_passTurn l D cI cQ cL ad N (sSet cI ad F k (mov1 c b v w (rest9 w (ldg (c w) d (stp w f)))) (mov2 c b v w (rest9 w (ldg (c w) d (stp w f)))) (mov3 c b v w (rest9 w (ldg (c w) d (stp w f)))) (upd g w ((g w) + (nI 1))) h j (nI t) u z) k hk (mov1 c b v w (rest9 w (ldg (c w) d (stp w f)))) (mov2 c b v w (rest9 w (ldg (c w) d (stp w f)))) (mov3 c b v w (rest9 w (ldg (c w) d (stp w f)))) (upd g w ((g w) + (nI 1))) h j t u z (sSet_at hS0) ht) (cwV9 0 hts mcX4_passTurn (ac7 _ (List.mem_of_getElem? (i := 13) rfl)) miX4_passTurn meX4_passTurn mini_RX4 rfl rfl hdX4_passTurn ⟨Nat.le_of_ble_eq_true rfl, Nat.le_of_ble_eq_true rfl⟩) hDi hK hP hNW hS hk0 (sSet_at hS0).1 rfl rfl hl.1 rfl (Nat.le_of_ble_eq_true rfl) (by decide) (dk kX4_carryOutFlight_0_ok 57 rfl) sSet_sSet (fun H locs hP hS => ?_)
        refine lv_iload hx hb (dk kX4_carryOutFlight_0_ok 58 rfl) (lv_at hl 0 rfl) ?_
        refine csPN (As := [.int (ldg (c w) d (stp w f))]) (rest := []) ⟨hx, hb, hml, hown, hts⟩ (tX5_flightAnswer l (ldg (c w) d (stp w f))) (cwN9 1 hts mcX5_flightAnswer (nm12 hNW) mini_RX5 rfl rfl hdX5_flightAnswer ⟨Nat.le_of_ble_eq_true rfl, Nat.le_of_ble_eq_true rfl⟩) (hts _ (List.mem_cons_of_mem _ msX5_flightAnswer)) rfl hl.1 rfl (Nat.le_of_ble_eq_true rfl) (by decide) (dk kX4_carryOutFlight_0_ok 59 rfl) ?_
        exact hret _ _ _ _ _ _ _ _ rfl (by simp only [dp, flE, flH, flP, (eq_false h1), (eq_true h2), (eq_true h3), not_true_eq_false, not_false_eq_true, and_true, true_and, and_false, false_and, or_true, true_or, or_false, false_or, and_self, or_self, if_true, if_false, Bool.false_eq_true, reduceIte]) hP hS (by decide) (by decide) (dk kX4_carryOutFlight_1_ok 0 rfl)
  · skip
    refine lv_aload_n hx hb (dk kX4_carryOutFlight_0_ok 32 rfl) rfl (lv_at hl 2 rfl) ?_
    refine gf hx hb hts (fun w h => List.mem_cons_of_mem _ (acX4 w h)) hown hK hP hk0 (sSet_at hS0).1 rfl 2 (by decide) (hts _ (List.mem_cons_of_mem _ (ac4 _ (List.mem_of_getElem? (i := 5) rfl)))) (fun _ h => h) rfl (dk kX4_carryOutFlight_0_ok 33 rfl) ?_
    refine lv_iload hx hb (dk kX4_carryOutFlight_0_ok 34 rfl) (lv_at hl 1 rfl) ?_
    refine lv_dup2_11 hx hb (dk kX4_carryOutFlight_0_ok 35 rfl) rfl rfl ?_
    refine ald (j := (w / 4)) hx hb hK hP hk6 (sSet_at hS0).2.2.2.1 rfl (by omega) (by decide) (dk kX4_carryOutFlight_0_ok 36 rfl) ?_
    refine lv_iconst (v := nI 1) hx hb (dk kX4_carryOutFlight_0_ok 37 rfl) rfl ?_
    refine lv_iadd hx hb (dk kX4_carryOutFlight_0_ok 38 rfl) ?_
    refine ast (sSet cI ad F k (mov1 c b v w (rest9 w (ldg (c w) d (stp w f)))) (mov2 c b v w (rest9 w (ldg (c w) d (stp w f)))) (mov3 c b v w (rest9 w (ldg (c w) d (stp w f)))) (upd g w ((g w) + (nI 1))) (upd h (w / 4) ((h (w / 4)) + (nI 1))) j (nI t) u z) (j := (w / 4)) hx hb hK hDi hP hS hk6 (sSet_at hS0).2.2.2.1 rfl (by omega) (by decide) (dk kX4_carryOutFlight_0_ok 39 rfl) sSet_h (fun H locs hP hS => ?_)
    refine lv_aload_n hx hb (dk kX4_carryOutFlight_0_ok 40 rfl) rfl (lv_at hl 2 rfl) ?_
    refine gf hx hb hts (fun w h => List.mem_cons_of_mem _ (acX4 w h)) hown hK hP hk0 (sSet_at hS0).1 rfl 3 (by decide) (hts _ (List.mem_cons_of_mem _ (ac4 _ (List.mem_of_getElem? (i := 6) rfl)))) (fun _ h => h) rfl (dk kX4_carryOutFlight_0_ok 41 rfl) ?_
    refine lv_iload hx hb (dk kX4_carryOutFlight_0_ok 42 rfl) (lv_at hl 1 rfl) ?_
    refine lv_dup2_11 hx hb (dk kX4_carryOutFlight_0_ok 43 rfl) rfl rfl ?_
    refine ald (j := (w / 4)) hx hb hK hP hk7 (sSet_at hS0).2.2.2.2 rfl (by omega) (by decide) (dk kX4_carryOutFlight_0_ok 44 rfl) ?_
    refine lv_iconst (v := nI 1) hx hb (dk kX4_carryOutFlight_0_ok 45 rfl) rfl ?_
    refine lv_iadd hx hb (dk kX4_carryOutFlight_0_ok 46 rfl) ?_
    refine ast (sSet cI ad F k (mov1 c b v w (rest9 w (ldg (c w) d (stp w f)))) (mov2 c b v w (rest9 w (ldg (c w) d (stp w f)))) (mov3 c b v w (rest9 w (ldg (c w) d (stp w f)))) (upd g w ((g w) + (nI 1))) (upd h (w / 4) ((h (w / 4)) + (nI 1))) (upd j (w / 4) ((j (w / 4)) + (nI 1))) (nI t) u z) (j := (w / 4)) hx hb hK hDi hP hS hk7 (sSet_at hS0).2.2.2.2 rfl (by omega) (by decide) (dk kX4_carryOutFlight_0_ok 47 rfl) sSet_j (fun H locs hP hS => ?_)
    refine lv_iload hx hb (dk kX4_carryOutFlight_0_ok 48 rfl) (lv_at hl 0 rfl) ?_
    refine lv_bipush (v := nI 84) hx hb (dk kX4_carryOutFlight_0_ok 49 rfl) rfl ?_
    refine lv_icmp_ne (tgt := 97) hx hb (dk kX4_carryOutFlight_0_ok 50 rfl) (by decide) (fun h4 => ?_) (fun h4 => ?_)
    · skip
      refine lv_aload_n hx hb (dk kX4_carryOutFlight_0_ok 56 rfl) rfl (lv_at hl 2 rfl) ?_
      refine cvDv (As := []) (rest := []) (sSet cI ad F k (mov1 c b v w (rest9 w (ldg (c w) d (stp w f)))) (mov2 c b v w (rest9 w (ldg (c w) d (stp w f)))) (mov3 c b v w (rest9 w (ldg (c w) d (stp w f)))) (upd g w ((g w) + (nI 1))) (upd h (w / 4) ((h (w / 4)) + (nI 1))) ((pasg (mov1 c b v w (rest9 w (ldg (c w) d (stp w f)))) t 8 (upd j (w / 4) ((j (w / 4)) + (nI 1))) t).1) (nI ((pasg (mov1 c b v w (rest9 w (ldg (c w) d (stp w f)))) t 8 (upd j (w / 4) ((j (w / 4)) + (nI 1))) t).2)) u z) ⟨hx, hb, hml, hown, hts⟩ (tX4_passTurn l D cI cQ cL ad N (sSet cI ad F k (mov1 c b v w (rest9 w (ldg (c w) d (stp w f)))) (mov2 c b v w (rest9 w (ldg (c w) d (stp w f)))) (mov3 c b v w (rest9 w (ldg (c w) d (stp w f)))) (upd g w ((g w) + (nI 1))) (upd h (w / 4) ((h (w / 4)) + (nI 1))) (upd j (w / 4) ((j (w / 4)) + (nI 1))) (nI t) u z) k hk (mov1 c b v w (rest9 w (ldg (c w) d (stp w f)))) (mov2 c b v w (rest9 w (ldg (c w) d (stp w f)))) (mov3 c b v w (rest9 w (ldg (c w) d (stp w f)))) (upd g w ((g w) + (nI 1))) (upd h (w / 4) ((h (w / 4)) + (nI 1))) (upd j (w / 4) ((j (w / 4)) + (nI 1))) t u z (sSet_at hS0) ht) (cwV9 0 hts mcX4_passTurn (ac7 _ (List.mem_of_getElem? (i := 13) rfl)) miX4_passTurn meX4_passTurn mini_RX4 rfl rfl hdX4_passTurn ⟨Nat.le_of_ble_eq_true rfl, Nat.le_of_ble_eq_true rfl⟩) hDi hK hP hNW hS hk0 (sSet_at hS0).1 rfl rfl hl.1 rfl (Nat.le_of_ble_eq_true rfl) (by decide) (dk kX4_carryOutFlight_0_ok 57 rfl) sSet_sSet (fun H locs hP hS => ?_)
      refine lv_iload hx hb (dk kX4_carryOutFlight_0_ok 58 rfl) (lv_at hl 0 rfl) ?_
      refine csPN (As := [.int (ldg (c w) d (stp w f))]) (rest := []) ⟨hx, hb, hml, hown, hts⟩ (tX5_flightAnswer l (ldg (c w) d (stp w f))) (cwN9 1 hts mcX5_flightAnswer (nm12 hNW) mini_RX5 rfl rfl hdX5_flightAnswer ⟨Nat.le_of_ble_eq_true rfl, Nat.le_of_ble_eq_true rfl⟩) (hts _ (List.mem_cons_of_mem _ msX5_flightAnswer)) rfl hl.1 rfl (Nat.le_of_ble_eq_true rfl) (by decide) (dk kX4_carryOutFlight_0_ok 59 rfl) ?_
      exact hret _ _ _ _ _ _ _ _ rfl (by simp only [dp, flE, flH, flP, (eq_true h1), (eq_false h4), not_true_eq_false, not_false_eq_true, and_true, true_and, and_false, false_and, or_true, true_or, or_false, false_or, and_self, or_self, if_true, if_false, Bool.false_eq_true, reduceIte]) hP hS (by decide) (by decide) (dk kX4_carryOutFlight_1_ok 0 rfl)
    · skip
      refine lv_aload_n hx hb (dk kX4_carryOutFlight_0_ok 51 rfl) rfl (lv_at hl 2 rfl) ?_
      refine gf hx hb hts (fun w h => List.mem_cons_of_mem _ (acX4 w h)) hown hK hP hk0 (sSet_at hS0).1 rfl 0 (by decide) (hts _ (List.mem_cons_of_mem _ (ac4 _ (List.mem_of_getElem? (i := 3) rfl)))) (fun _ h => h) rfl (dk kX4_carryOutFlight_0_ok 52 rfl) ?_
      refine lv_iload hx hb (dk kX4_carryOutFlight_0_ok 53 rfl) (lv_at hl 1 rfl) ?_
      refine cvR (As := [.int (nI (w / 4))]) (rest := []) ⟨hx, hb, hml, hown, hts⟩ (tX1_isAllPotted l D cI cQ cL ad N (sSet cI ad F k (mov1 c b v w (rest9 w (ldg (c w) d (stp w f)))) (mov2 c b v w (rest9 w (ldg (c w) d (stp w f)))) (mov3 c b v w (rest9 w (ldg (c w) d (stp w f)))) (upd g w ((g w) + (nI 1))) (upd h (w / 4) ((h (w / 4)) + (nI 1))) (upd j (w / 4) ((j (w / 4)) + (nI 1))) (nI t) u z) (k + 1) hkm (mov1 c b v w (rest9 w (ldg (c w) d (stp w f)))) (mov2 c b v w (rest9 w (ldg (c w) d (stp w f)))) (mov3 c b v w (rest9 w (ldg (c w) d (stp w f)))) (sSet_at hS0).2.1 (nI (w / 4)) (w / 4) rfl (by omega)) (cwV9 1 hts mcX1_isAllPotted (ac7 _ (List.mem_of_getElem? (i := 4) rfl)) miX1_isAllPotted meX1_isAllPotted mini_RX1 rfl rfl hdX1_isAllPotted ⟨Nat.le_of_ble_eq_true rfl, Nat.le_of_ble_eq_true rfl⟩) hK hP hNW hk1 (sSet_at hS0).2.1.1 rfl rfl hl.1 rfl (Nat.le_of_ble_eq_true rfl) (by decide) (dk kX4_carryOutFlight_0_ok 54 rfl) ?_
      refine b_if_eq (tgt := 101) hx hb (dk kX4_carryOutFlight_0_ok 55 rfl) (by decide) (fun h5 => ?_) (fun h5 => ?_)
      · replace h5 := of_decide_eq_false h5
        refine lv_iload hx hb (dk kX4_carryOutFlight_0_ok 58 rfl) (lv_at hl 0 rfl) ?_
        refine csPN (As := [.int (ldg (c w) d (stp w f))]) (rest := []) ⟨hx, hb, hml, hown, hts⟩ (tX5_flightAnswer l (ldg (c w) d (stp w f))) (cwN9 1 hts mcX5_flightAnswer (nm12 hNW) mini_RX5 rfl rfl hdX5_flightAnswer ⟨Nat.le_of_ble_eq_true rfl, Nat.le_of_ble_eq_true rfl⟩) (hts _ (List.mem_cons_of_mem _ msX5_flightAnswer)) rfl hl.1 rfl (Nat.le_of_ble_eq_true rfl) (by decide) (dk kX4_carryOutFlight_0_ok 59 rfl) ?_
        exact hret _ _ _ _ _ _ _ _ rfl (by simp only [dp, flE, flH, flP, (eq_true h1), (eq_true h4), (eq_false h5), not_true_eq_false, not_false_eq_true, and_true, true_and, and_false, false_and, or_true, true_or, or_false, false_or, and_self, or_self, if_true, if_false, Bool.false_eq_true, reduceIte]) hP hS (by decide) (by decide) (dk kX4_carryOutFlight_1_ok 0 rfl)
      · replace h5 := of_decide_eq_true h5
        refine lv_aload_n hx hb (dk kX4_carryOutFlight_0_ok 56 rfl) rfl (lv_at hl 2 rfl) ?_
        refine cvDv (As := []) (rest := []) (sSet cI ad F k (mov1 c b v w (rest9 w (ldg (c w) d (stp w f)))) (mov2 c b v w (rest9 w (ldg (c w) d (stp w f)))) (mov3 c b v w (rest9 w (ldg (c w) d (stp w f)))) (upd g w ((g w) + (nI 1))) (upd h (w / 4) ((h (w / 4)) + (nI 1))) ((pasg (mov1 c b v w (rest9 w (ldg (c w) d (stp w f)))) t 8 (upd j (w / 4) ((j (w / 4)) + (nI 1))) t).1) (nI ((pasg (mov1 c b v w (rest9 w (ldg (c w) d (stp w f)))) t 8 (upd j (w / 4) ((j (w / 4)) + (nI 1))) t).2)) u z) ⟨hx, hb, hml, hown, hts⟩ (tX4_passTurn l D cI cQ cL ad N (sSet cI ad F k (mov1 c b v w (rest9 w (ldg (c w) d (stp w f)))) (mov2 c b v w (rest9 w (ldg (c w) d (stp w f)))) (mov3 c b v w (rest9 w (ldg (c w) d (stp w f)))) (upd g w ((g w) + (nI 1))) (upd h (w / 4) ((h (w / 4)) + (nI 1))) (upd j (w / 4) ((j (w / 4)) + (nI 1))) (nI t) u z) k hk (mov1 c b v w (rest9 w (ldg (c w) d (stp w f)))) (mov2 c b v w (rest9 w (ldg (c w) d (stp w f)))) (mov3 c b v w (rest9 w (ldg (c w) d (stp w f)))) (upd g w ((g w) + (nI 1))) (upd h (w / 4) ((h (w / 4)) + (nI 1))) (upd j (w / 4) ((j (w / 4)) + (nI 1))) t u z (sSet_at hS0) ht) (cwV9 0 hts mcX4_passTurn (ac7 _ (List.mem_of_getElem? (i := 13) rfl)) miX4_passTurn meX4_passTurn mini_RX4 rfl rfl hdX4_passTurn ⟨Nat.le_of_ble_eq_true rfl, Nat.le_of_ble_eq_true rfl⟩) hDi hK hP hNW hS hk0 (sSet_at hS0).1 rfl rfl hl.1 rfl (Nat.le_of_ble_eq_true rfl) (by decide) (dk kX4_carryOutFlight_0_ok 57 rfl) sSet_sSet (fun H locs hP hS => ?_)
        refine lv_iload hx hb (dk kX4_carryOutFlight_0_ok 58 rfl) (lv_at hl 0 rfl) ?_
        refine csPN (As := [.int (ldg (c w) d (stp w f))]) (rest := []) ⟨hx, hb, hml, hown, hts⟩ (tX5_flightAnswer l (ldg (c w) d (stp w f))) (cwN9 1 hts mcX5_flightAnswer (nm12 hNW) mini_RX5 rfl rfl hdX5_flightAnswer ⟨Nat.le_of_ble_eq_true rfl, Nat.le_of_ble_eq_true rfl⟩) (hts _ (List.mem_cons_of_mem _ msX5_flightAnswer)) rfl hl.1 rfl (Nat.le_of_ble_eq_true rfl) (by decide) (dk kX4_carryOutFlight_0_ok 59 rfl) ?_
        exact hret _ _ _ _ _ _ _ _ rfl (by simp only [dp, flE, flH, flP, (eq_true h1), (eq_true h4), (eq_true h5), not_true_eq_false, not_false_eq_true, and_true, true_and, and_false, false_and, or_true, true_or, or_false, false_or, and_self, or_self, if_true, if_false, Bool.false_eq_true, reduceIte]) hP hS (by decide) (by decide) (dk kX4_carryOutFlight_1_ok 0 rfl)
set_option maxRecDepth 100000 in
set_option maxHeartbeats 4000000 in
theorem tX4_carryOutLift (l : Launch) (D : va_G) (cI cQ cL : ClassId) (ad : Nat → Nat) (N : Nat) (F : Nat → va_E) (k : Nat) (hk : k + 7 < N) (c b v g h j : Nat → Int32) (t : Nat) (u z : Int32) (hS0 : stAt cI ad F k c b v g h j (nI t) u z) (ht : t < 4) (x y m9 : Int32) (n : Nat) (hmn : m9 = nI n) (hn1 : 1 ≤ n) (hn : n < 2 ^ 31) (d : Int32) : MX l yX4_carryOutLift (Cond.code yX4_carryOutLift cX4_carryOutLift 6 none :: AW) ({ frames := 3, cells := 0, slots := 0, locals := 68 } : Room) D cI cQ cL ad N F [.ref (ad k), .int x, .int y, .int m9, .int d] (dp none (sSet cI ad F k (liC c b v x y n d) (liB c b v x y n d) (liV c b v x y n d) g h ((pasg (liC c b v x y n d) t 8 j t).1) (nI ((pasg (liC c b v x y n d) t 8 j t).2)) (u + nI 1) z)) 0 0 := by
  refine mx_v (by decide +kernel) rfl (Nat.le_of_ble_eq_true rfl) (fun p e s m below meth cd Q ls hx hb hml hown hts hDi hP hK hNW hS hret hl => ?_)
  have hown : s.vm.findClass RX4 = some m.cls := hown
  subst hmn
  have hk0 : k < N := by omega
  have hk1 : k + 1 < N := by omega
  have hk11 : k + 1 + 1 < N := by omega
  have hk12 : k + 1 + 2 < N := by omega
  have hk13 : k + 1 + 3 < N := by omega
  have hkm : k + 1 + 3 < N := by omega
  have hk5 : k + 5 < N := by omega
  have hk6 : k + 6 < N := by omega
  have hk7 : k + 7 < N := hk
  have hP : va_P D vwCl (iW ad N (sSet cI ad F k c b v g h j (nI t) u z)) s.heap := by rw [sSet_self hS0]; exact hP
  have hl : lv_has ls 6 [(0, .ref (ad k)), (1, .int x), (2, .int y), (3, .int (nI n)), (4, .int d)] := hl
  refine lv_aload_n hx hb (dk kX4_carryOutLift_ok 0 rfl) rfl (lv_at hl 0 rfl) ?_
  refine gf hx hb hts (fun w h => List.mem_cons_of_mem _ (acX4 w h)) hown hK hP hk0 (sSet_at hS0).1 rfl 0 (by decide) (hts _ (List.mem_cons_of_mem _ (ac4 _ (List.mem_of_getElem? (i := 3) rfl)))) (fun _ h => h) rfl (dk kX4_carryOutLift_ok 1 rfl) ?_
  refine lv_iload_n hx hb (dk kX4_carryOutLift_ok 2 rfl) rfl (lv_at hl 1 rfl) ?_
  refine lv_iload_n hx hb (dk kX4_carryOutLift_ok 3 rfl) rfl (lv_at hl 2 rfl) ?_
  refine csPN (As := [.int x, .int y]) (rest := [.ref (ad (k + 1))]) ⟨hx, hb, hml, hown, hts⟩ (tX5_cellAt l x y) (cwN9 2 hts mcX5_cellAt (nm13 hNW) mini_RX5 rfl rfl hdX5_cellAt ⟨Nat.le_of_ble_eq_true rfl, Nat.le_of_ble_eq_true rfl⟩) (hts _ (List.mem_cons_of_mem _ msX5_cellAt)) rfl hl.1 rfl (Nat.le_of_ble_eq_true rfl) (by decide) (dk kX4_carryOutLift_ok 4 rfl) ?_
  refine lv_iload_n hx hb (dk kX4_carryOutLift_ok 5 rfl) rfl (lv_at hl 3 rfl) ?_
  refine cvR (As := [.int (cat x y), .int (nI n)]) (rest := []) ⟨hx, hb, hml, hown, hts⟩ (tX1_lowestOfUpper l D cI cQ cL ad N (sSet cI ad F k c b v g h j (nI t) u z) (k + 1) hkm c b v (sSet_at hS0).2.1 (cat x y) (nI n) n rfl (by omega) (by omega)) (cwV9 2 hts mcX1_lowestOfUpper (ac6 _ (List.mem_of_getElem? (i := 16) rfl)) miX1_lowestOfUpper meX1_lowestOfUpper mini_RX1 rfl rfl hdX1_lowestOfUpper ⟨Nat.le_of_ble_eq_true rfl, Nat.le_of_ble_eq_true rfl⟩) hK hP hNW hk1 (sSet_at hS0).2.1.1 rfl rfl hl.1 rfl (Nat.le_of_ble_eq_true rfl) (by decide) (dk kX4_carryOutLift_ok 6 rfl) ?_
  refine lv_istore (lv' := [(5, .int (low c b v (cat x y) n)), (0, .ref (ad k)), (1, .int x), (2, .int y), (3, .int (nI n)), (4, .int d)]) hx hb (dk kX4_carryOutLift_ok 7 rfl) hl (by decide) rfl (fun ls hl => ?_)
  refine lv_iload hx hb (dk kX4_carryOutLift_ok 8 rfl) (lv_at hl 0 rfl) ?_
  refine csPN (As := [.int (low c b v (cat x y) n)]) (rest := []) ⟨hx, hb, hml, hown, hts⟩ (tX5_isWink l (low c b v (cat x y) n)) (cwN9 1 hts mcX5_isWink (nm15 hNW) mini_RX5 rfl rfl hdX5_isWink ⟨Nat.le_of_ble_eq_true rfl, Nat.le_of_ble_eq_true rfl⟩) (hts _ (List.mem_cons_of_mem _ msX5_isWink)) rfl hl.1 rfl (Nat.le_of_ble_eq_true rfl) (by decide) (dk kX4_carryOutLift_ok 9 rfl) ?_
  refine b_if_eq (tgt := 39) hx hb (dk kX4_carryOutLift_ok 10 rfl) (by decide) (fun h1 => ?_) (fun h1 => ?_)
  · skip
    refine lv_aload_n hx hb (dk kX4_carryOutLift_ok 19 rfl) rfl (lv_at hl 1 rfl) ?_
    refine lv_dup hx hb (dk kX4_carryOutLift_ok 20 rfl) rfl ?_
    refine gf hx hb hts (fun w h => List.mem_cons_of_mem _ (acX4 w h)) hown hK hP hk0 (sSet_at hS0).1 rfl 5 (by decide) (hts _ (List.mem_cons_of_mem _ (ac4 _ (List.mem_of_getElem? (i := 8) rfl)))) (fun _ h => h) rfl (dk kX4_carryOutLift_ok 21 rfl) ?_
    refine lv_iconst (v := nI 1) hx hb (dk kX4_carryOutLift_ok 22 rfl) rfl ?_
    refine lv_iadd hx hb (dk kX4_carryOutLift_ok 23 rfl) ?_
    refine pf (sSet cI ad F k c b v g h j (nI t) (u + (nI 1)) z) hx hb hts (fun w h => List.mem_cons_of_mem _ (acX4 w h)) tyX4 tyX4_ok nmX4 hown hK hDi hP hS hk0 (sSet_at hS0).1 rfl 5 (by decide) (hts _ (List.mem_cons_of_mem _ (ac4 _ (List.mem_of_getElem? (i := 8) rfl)))) (fun _ h => h) rfl (ty := .int) rfl rfl rfl (Nat.le_of_ble_eq_true rfl) (dk kX4_carryOutLift_ok 24 rfl) sSet_0 (fun H locs hP hS => ?_)
    refine lv_aload_n hx hb (dk kX4_carryOutLift_ok 25 rfl) rfl (lv_at hl 1 rfl) ?_
    refine cvDv (As := []) (rest := []) (sSet cI ad F k c b v g h ((pasg c t 8 j t).1) (nI ((pasg c t 8 j t).2)) (u + (nI 1)) z) ⟨hx, hb, hml, hown, hts⟩ (tX4_passTurn l D cI cQ cL ad N (sSet cI ad F k c b v g h j (nI t) (u + (nI 1)) z) k hk c b v g h j t (u + (nI 1)) z (sSet_at hS0) ht) (cwV9 0 hts mcX4_passTurn (ac7 _ (List.mem_of_getElem? (i := 13) rfl)) miX4_passTurn meX4_passTurn mini_RX4 rfl rfl hdX4_passTurn ⟨Nat.le_of_ble_eq_true rfl, Nat.le_of_ble_eq_true rfl⟩) hDi hK hP hNW hS hk0 (sSet_at hS0).1 rfl rfl hl.1 rfl (Nat.le_of_ble_eq_true rfl) (by decide) (dk kX4_carryOutLift_ok 26 rfl) sSet_sSet (fun H locs hP hS => ?_)
    exact hret _ _ _ _ _ _ _ (by simp only [dp, liC, liB, liV, h1, not_true_eq_false, not_false_eq_true, and_true, true_and, and_false, false_and, or_true, true_or, or_false, false_or, and_self, or_self, if_true, if_false, Bool.false_eq_true, reduceIte]) hP hS (by decide) (by decide) (dk kX4_carryOutLift_ok 27 rfl)
  · skip
    refine lv_aload_n hx hb (dk kX4_carryOutLift_ok 11 rfl) rfl (lv_at hl 1 rfl) ?_
    refine gf hx hb hts (fun w h => List.mem_cons_of_mem _ (acX4 w h)) hown hK hP hk0 (sSet_at hS0).1 rfl 0 (by decide) (hts _ (List.mem_cons_of_mem _ (ac4 _ (List.mem_of_getElem? (i := 3) rfl)))) (fun _ h => h) rfl (dk kX4_carryOutLift_ok 12 rfl) ?_
    refine lv_iload hx hb (dk kX4_carryOutLift_ok 13 rfl) (lv_at hl 0 rfl) ?_
    refine lv_iload_n hx hb (dk kX4_carryOutLift_ok 14 rfl) rfl (lv_at hl 2 rfl) ?_
    refine lv_iload_n hx hb (dk kX4_carryOutLift_ok 15 rfl) rfl (lv_at hl 3 rfl) ?_
    refine lv_iload hx hb (dk kX4_carryOutLift_ok 16 rfl) (lv_at hl 5 rfl) ?_
    refine csPN (As := [.int x, .int y, .int d]) (rest := [.int (low c b v (cat x y) n), .ref (ad (k + 1))]) ⟨hx, hb, hml, hown, hts⟩ (tX5_cellBeside l x y d) (cwN9 3 hts mcX5_cellBeside (nm14 hNW) mini_RX5 rfl rfl hdX5_cellBeside ⟨Nat.le_of_ble_eq_true rfl, Nat.le_of_ble_eq_true rfl⟩) (hts _ (List.mem_cons_of_mem _ msX5_cellBeside)) rfl hl.1 rfl (Nat.le_of_ble_eq_true rfl) (by decide) (dk kX4_carryOutLift_ok 17 rfl) ?_
    refine cvDv (As := [.int (low c b v (cat x y) n), .int (beside x y d)]) (rest := []) (sSet cI ad F k (mov1 c b v (ix (low c b v (cat x y) n)) (beside x y d)) (mov2 c b v (ix (low c b v (cat x y) n)) (beside x y d)) (mov3 c b v (ix (low c b v (cat x y) n)) (beside x y d)) g h j (nI t) u z) ⟨hx, hb, hml, hown, hts⟩ (tX1_move l D cI cQ cL ad N (sSet cI ad F k c b v g h j (nI t) u z) (k + 1) hkm c b v (sSet_at hS0).2.1 (low c b v (cat x y) n) (ix (low c b v (cat x y) n)) (wk_eq h1) (by have := wk_lt h1; omega) (beside x y d)) (cwV9 2 hts mcX1_move (ac7 _ (List.mem_of_getElem? (i := 9) rfl)) miX1_move meX1_move mini_RX1 rfl rfl hdX1_move ⟨Nat.le_of_ble_eq_true rfl, Nat.le_of_ble_eq_true rfl⟩) hDi hK hP hNW hS hk1 (sSet_at hS0).2.1.1 rfl rfl hl.1 rfl (Nat.le_of_ble_eq_true rfl) (by decide) (dk kX4_carryOutLift_ok 18 rfl) sSet_m (fun H locs hP hS => ?_)
    refine lv_aload_n hx hb (dk kX4_carryOutLift_ok 19 rfl) rfl (lv_at hl 1 rfl) ?_
    refine lv_dup hx hb (dk kX4_carryOutLift_ok 20 rfl) rfl ?_
    refine gf hx hb hts (fun w h => List.mem_cons_of_mem _ (acX4 w h)) hown hK hP hk0 (sSet_at hS0).1 rfl 5 (by decide) (hts _ (List.mem_cons_of_mem _ (ac4 _ (List.mem_of_getElem? (i := 8) rfl)))) (fun _ h => h) rfl (dk kX4_carryOutLift_ok 21 rfl) ?_
    refine lv_iconst (v := nI 1) hx hb (dk kX4_carryOutLift_ok 22 rfl) rfl ?_
    refine lv_iadd hx hb (dk kX4_carryOutLift_ok 23 rfl) ?_
    refine pf (sSet cI ad F k (mov1 c b v (ix (low c b v (cat x y) n)) (beside x y d)) (mov2 c b v (ix (low c b v (cat x y) n)) (beside x y d)) (mov3 c b v (ix (low c b v (cat x y) n)) (beside x y d)) g h j (nI t) (u + (nI 1)) z) hx hb hts (fun w h => List.mem_cons_of_mem _ (acX4 w h)) tyX4 tyX4_ok nmX4 hown hK hDi hP hS hk0 (sSet_at hS0).1 rfl 5 (by decide) (hts _ (List.mem_cons_of_mem _ (ac4 _ (List.mem_of_getElem? (i := 8) rfl)))) (fun _ h => h) rfl (ty := .int) rfl rfl rfl (Nat.le_of_ble_eq_true rfl) (dk kX4_carryOutLift_ok 24 rfl) sSet_0 (fun H locs hP hS => ?_)
    refine lv_aload_n hx hb (dk kX4_carryOutLift_ok 25 rfl) rfl (lv_at hl 1 rfl) ?_
    refine cvDv (As := []) (rest := []) (sSet cI ad F k (mov1 c b v (ix (low c b v (cat x y) n)) (beside x y d)) (mov2 c b v (ix (low c b v (cat x y) n)) (beside x y d)) (mov3 c b v (ix (low c b v (cat x y) n)) (beside x y d)) g h ((pasg (mov1 c b v (ix (low c b v (cat x y) n)) (beside x y d)) t 8 j t).1) (nI ((pasg (mov1 c b v (ix (low c b v (cat x y) n)) (beside x y d)) t 8 j t).2)) (u + (nI 1)) z) ⟨hx, hb, hml, hown, hts⟩ (tX4_passTurn l D cI cQ cL ad N (sSet cI ad F k (mov1 c b v (ix (low c b v (cat x y) n)) (beside x y d)) (mov2 c b v (ix (low c b v (cat x y) n)) (beside x y d)) (mov3 c b v (ix (low c b v (cat x y) n)) (beside x y d)) g h j (nI t) (u + (nI 1)) z) k hk (mov1 c b v (ix (low c b v (cat x y) n)) (beside x y d)) (mov2 c b v (ix (low c b v (cat x y) n)) (beside x y d)) (mov3 c b v (ix (low c b v (cat x y) n)) (beside x y d)) g h j t (u + (nI 1)) z (sSet_at hS0) ht) (cwV9 0 hts mcX4_passTurn (ac7 _ (List.mem_of_getElem? (i := 13) rfl)) miX4_passTurn meX4_passTurn mini_RX4 rfl rfl hdX4_passTurn ⟨Nat.le_of_ble_eq_true rfl, Nat.le_of_ble_eq_true rfl⟩) hDi hK hP hNW hS hk0 (sSet_at hS0).1 rfl rfl hl.1 rfl (Nat.le_of_ble_eq_true rfl) (by decide) (dk kX4_carryOutLift_ok 26 rfl) sSet_sSet (fun H locs hP hS => ?_)
    exact hret _ _ _ _ _ _ _ (by simp only [dp, liC, liB, liV, h1, not_true_eq_false, not_false_eq_true, and_true, true_and, and_false, false_and, or_true, true_or, or_false, false_or, and_self, or_self, if_true, if_false, Bool.false_eq_true, reduceIte]) hP hS (by decide) (by decide) (dk kX4_carryOutLift_ok 27 rfl)
