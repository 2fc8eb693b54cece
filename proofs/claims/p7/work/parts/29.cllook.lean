set_option maxRecDepth 100000 in
set_option maxHeartbeats 4000000 in
theorem tX5_wink (l : Launch) (D : va_G) (cI cQ cL : ClassId) (ad : Nat → Nat) (N : Nat) (F : Nat → va_E) (hk : 76 < N) (c b v g h j : Nat → Int32) (t : Nat) (u z : Int32) (hN : stAt cI ad F 1 c b v g h j (nI t) u z) (c8 b8 v8 g8 h8 j8 : Nat → Int32) (t8 : Nat) (u8 z8 : Int32) (hSn : stAt cI ad F 9 c8 b8 v8 g8 h8 j8 (nI t8) u8 z8) (n9 m9 : Nat) (hn9 : n9 < 6) (hm9 : m9 ≤ 6) (hPa : paAt cQ ad F 17 n9 m9) (a : Nat → Int32) (n : Nat) (hn60 : n ≤ 60) (hT : gtAt cI ad F 67 a n) (c6 b6 v6 : Nat → Int32) (hM6 : matAt cI ad F 69 c6 b6 v6) (a7 d7 q7 : Nat → Int32) (hO : roAt cI ad F 73 a7 d7 q7) (hs : Bool) (hC : F 0 = .inr (5, [.ref (ad 1), .ref (ad 9), .ref (ad 17), .ref (ad 67), .ref (ad 69), .ref (ad 73), .int (bI hs)])) (ht : t < 4) (x : Int32) (w : Nat) (hxw : x = nI w) (hw : w < 16) (y : Int32) (hy9 : btw y (nI 0) (nI 6) = true) : MR l yX5_wink (Cond.code yX5_wink cX5_wink 3 (some .int) :: AW) ({ frames := 7, cells := 0, slots := 0, locals := 102 } : Room) D cI cQ cL ad N F [.ref (ad 0), .int x, .int y] (.int (cWink c b v g t w y)) := by
  refine mr_i (ty := .int) (by decide +kernel) rfl rfl rfl rfl (Nat.le_of_ble_eq_true rfl) (fun p e s m below meth cd Q ls hx hb hml hown hts hP hK hNW hret hl => ?_)
  have hown : s.vm.findClass RX5 = some m.cls := hown
  subst hxw
  have hz0 : 0 < N := by omega
  have hz1 : 1 < N := by omega
  have hz1___1 : 1 + 1 < N := by omega
  have hz1___1___1 : 1 + 1 + 1 < N := by omega
  have hz1___1___2 : 1 + 1 + 2 < N := by omega
  have hz1___1___3 : 1 + 1 + 3 < N := by omega
  have hz1___5 : 1 + 5 < N := by omega
  have hz1___6 : 1 + 6 < N := by omega
  have hz1___7 : 1 + 7 < N := by omega
  have hz9 : 9 < N := by omega
  have hz17 : 17 < N := by omega
  have hz17___1 : 17 + 1 < N := by omega
  have hz67 : 67 < N := by omega
  have hz67___1 : 67 + 1 < N := by omega
  have hz69 : 69 < N := by omega
  have hz69___1 : 69 + 1 < N := by omega
  have hz69___2 : 69 + 2 < N := by omega
  have hz69___3 : 69 + 3 < N := by omega
  have hz73 : 73 < N := by omega
  have hz1___1___3 : 1 + 1 + 3 < N := by omega
  have hz69___3 : 69 + 3 < N := by omega
  have hl : lv_has ls 3 [(0, .ref (ad 0)), (1, .int (nI w)), (2, .int y)] := hl
  refine lv_iload_n hx hb (dk kX5_wink_ok 0 rfl) rfl (lv_at hl 1 rfl) ?_
  refine csPv (As := [.int (nI w)]) (rest := []) ⟨hx, hb, hml, hown, hts⟩ (tX5_requireWink_ok l (nI w) (wk_nI hw)) (cwS9 1 hts mcX5_requireWink (ac9 _ (List.mem_of_getElem? (i := 6) rfl)) msX5_requireWink mini_RX5 rfl rfl hdX5_requireWink ⟨Nat.le_of_ble_eq_true rfl, Nat.le_of_ble_eq_true rfl⟩) rfl hl.1 rfl (Nat.le_of_ble_eq_true rfl) (by decide) (dk kX5_wink_ok 1 rfl) ?_
  refine lv_iload_n hx hb (dk kX5_wink_ok 2 rfl) rfl (lv_at hl 2 rfl) ?_
  rcases Classical.em (y = nI 0) with hs1 | hs1
  · skip
    refine sw_in (off := 43) (tgt := 48) 0 hx hb (dk kX5_wink_ok 3 rfl) hs1 rfl rfl rfl (by decide) ?_
    refine lv_iload_n hx hb (dk kX5_wink_ok 4 rfl) rfl (lv_at hl 1 rfl) ?_
    refine csP (As := [.int (nI w)]) (rest := []) ⟨hx, hb, hml, hown, hts⟩ (tX5_colourOf l (nI w) w rfl (by omega)) (cwS9 1 hts mcX5_colourOf (ac7 _ (List.mem_of_getElem? (i := 2) rfl)) msX5_colourOf mini_RX5 rfl rfl hdX5_colourOf ⟨Nat.le_of_ble_eq_true rfl, Nat.le_of_ble_eq_true rfl⟩) rfl hl.1 rfl (Nat.le_of_ble_eq_true rfl) (by decide) (dk kX5_wink_ok 5 rfl) ?_
    exact hret _ _ _ (by simp (config := { decide := true }) only [cWink, (eq_true hs1), bI_1, bI_00, not_true_eq_false, not_false_eq_true, and_true, true_and, and_false, false_and, or_true, true_or, or_false, false_or, and_self, or_self, if_true, if_false, Bool.false_eq_true, reduceIte]; first | done | rfl | (simp_all; done)) (dk kX5_wink_ok 6 rfl)
  rcases Classical.em (y = nI 1) with hs2 | hs2
  · skip
    refine sw_in (off := 48) (tgt := 53) 1 hx hb (dk kX5_wink_ok 3 rfl) hs2 rfl rfl rfl (by decide) ?_
    refine lv_iload_n hx hb (dk kX5_wink_ok 7 rfl) rfl (lv_at hl 1 rfl) ?_
    refine csP (As := [.int (nI w)]) (rest := []) ⟨hx, hb, hml, hown, hts⟩ (tX5_isLarge l (nI w) w rfl (by omega)) (cwS9 1 hts mcX5_isLarge (ac6 _ (List.mem_of_getElem? (i := 23) rfl)) msX5_isLarge mini_RX5 rfl rfl hdX5_isLarge ⟨Nat.le_of_ble_eq_true rfl, Nat.le_of_ble_eq_true rfl⟩) rfl hl.1 rfl (Nat.le_of_ble_eq_true rfl) (by decide) (dk kX5_wink_ok 8 rfl) ?_
    refine b_if_eq (tgt := 64) hx hb (dk kX5_wink_ok 9 rfl) (by decide) (fun h3 => ?_) (fun h3 => ?_)
    · replace h3 := of_decide_eq_false h3
      refine lv_iconst (v := nI 0) hx hb (dk kX5_wink_ok 12 rfl) rfl ?_
      exact hret _ _ _ (by simp (config := { decide := true }) only [cWink, (eq_false hs1), (eq_true hs2), (eq_false h3), bI_1, bI_00, not_true_eq_false, not_false_eq_true, and_true, true_and, and_false, false_and, or_true, true_or, or_false, false_or, and_self, or_self, if_true, if_false, Bool.false_eq_true, reduceIte]; first | done | rfl | (simp_all; done)) (dk kX5_wink_ok 13 rfl)
    · replace h3 := of_decide_eq_true h3
      refine lv_iconst (v := nI 1) hx hb (dk kX5_wink_ok 10 rfl) rfl ?_
      refine lv_goto (tgt := 65) hx hb (dk kX5_wink_ok 11 rfl) (by decide) ?_
      exact hret _ _ _ (by simp (config := { decide := true }) only [cWink, (eq_false hs1), (eq_true hs2), (eq_true h3), bI_1, bI_00, not_true_eq_false, not_false_eq_true, and_true, true_and, and_false, false_and, or_true, true_or, or_false, false_or, and_self, or_self, if_true, if_false, Bool.false_eq_true, reduceIte]; first | done | rfl | (simp_all; done)) (dk kX5_wink_ok 13 rfl)
  rcases Classical.em (y = nI 2) with hs4 | hs4
  · skip
    refine sw_in (off := 61) (tgt := 66) 2 hx hb (dk kX5_wink_ok 3 rfl) hs4 rfl rfl rfl (by decide) ?_
    refine lv_aload_n hx hb (dk kX5_wink_ok 14 rfl) rfl (lv_at hl 0 rfl) ?_
    refine gf hx hb hts (fun w h => List.mem_cons_of_mem _ (acX5 w h)) hown hK hP hz0 hC rfl 0 (by decide) (hts _ (List.mem_cons_of_mem _ (ac7 _ (List.mem_of_getElem? (i := 21) rfl)))) (fun _ h => h) rfl (dk kX5_wink_ok 15 rfl) ?_
    refine gfN hx hb hts (fun w h => List.mem_cons_of_mem _ (acX4 w h)) hown hK hP hz1 hN.1 rfl 0 (by decide) (nf2 hNW) (fun _ h => h) rfl (dk kX5_wink_ok 16 rfl) ?_
    refine gfN hx hb hts (fun w h => List.mem_cons_of_mem _ (acX1 w h)) hown hK hP hz1___1 hN.2.1.1 rfl 0 (by decide) (nf1 hNW) (fun _ h => h) rfl (dk kX5_wink_ok 17 rfl) ?_
    refine lv_iload_n hx hb (dk kX5_wink_ok 18 rfl) rfl (lv_at hl 1 rfl) ?_
    refine ald (j := w) hx hb hK hP hz1___1___1 hN.2.1.2.1 rfl (by omega) (by decide) (dk kX5_wink_ok 19 rfl) ?_
    exact hret _ _ _ (by simp (config := { decide := true }) only [cWink, (eq_false hs1), (eq_false hs2), (eq_true hs4), bI_1, bI_00, not_true_eq_false, not_false_eq_true, and_true, true_and, and_false, false_and, or_true, true_or, or_false, false_or, and_self, or_self, if_true, if_false, Bool.false_eq_true, reduceIte]; first | done | rfl | (simp_all; done)) (dk kX5_wink_ok 20 rfl)
  rcases Classical.em (y = nI 3) with hs5 | hs5
  · skip
    refine sw_in (off := 74) (tgt := 79) 3 hx hb (dk kX5_wink_ok 3 rfl) hs5 rfl rfl rfl (by decide) ?_
    refine lv_aload_n hx hb (dk kX5_wink_ok 21 rfl) rfl (lv_at hl 0 rfl) ?_
    refine gf hx hb hts (fun w h => List.mem_cons_of_mem _ (acX5 w h)) hown hK hP hz0 hC rfl 0 (by decide) (hts _ (List.mem_cons_of_mem _ (ac7 _ (List.mem_of_getElem? (i := 21) rfl)))) (fun _ h => h) rfl (dk kX5_wink_ok 22 rfl) ?_
    refine gfN hx hb hts (fun w h => List.mem_cons_of_mem _ (acX4 w h)) hown hK hP hz1 hN.1 rfl 0 (by decide) (nf2 hNW) (fun _ h => h) rfl (dk kX5_wink_ok 23 rfl) ?_
    refine lv_iload_n hx hb (dk kX5_wink_ok 24 rfl) rfl (lv_at hl 1 rfl) ?_
    refine cvR (As := [.int (nI w)]) (rest := []) ⟨hx, hb, hml, hown, hts⟩ (tX1_placeOf l D cI cQ cL ad N F (1 + 1) (by omega) c b v hN.2.1 (nI w) w rfl (by omega)) (cwV9 1 hts mcX1_placeOf (ac12 _ (List.mem_of_getElem? (i := 4) rfl)) miX1_placeOf meX1_placeOf mini_RX1 rfl rfl hdX1_placeOf ⟨Nat.le_of_ble_eq_true rfl, Nat.le_of_ble_eq_true rfl⟩) hK hP hNW hz1___1 hN.2.1.1 rfl rfl hl.1 rfl (Nat.le_of_ble_eq_true rfl) (by decide) (dk kX5_wink_ok 25 rfl) ?_
    exact hret _ _ _ (by simp (config := { decide := true }) only [cWink, (eq_false hs1), (eq_false hs2), (eq_false hs4), (eq_true hs5), bI_1, bI_00, not_true_eq_false, not_false_eq_true, and_true, true_and, and_false, false_and, or_true, true_or, or_false, false_or, and_self, or_self, if_true, if_false, Bool.false_eq_true, reduceIte]; first | done | rfl | (simp_all; done)) (dk kX5_wink_ok 26 rfl)
  rcases Classical.em (y = nI 4) with hs6 | hs6
  · skip
    refine sw_in (off := 86) (tgt := 91) 4 hx hb (dk kX5_wink_ok 3 rfl) hs6 rfl rfl rfl (by decide) ?_
    refine lv_aload_n hx hb (dk kX5_wink_ok 27 rfl) rfl (lv_at hl 0 rfl) ?_
    refine gf hx hb hts (fun w h => List.mem_cons_of_mem _ (acX5 w h)) hown hK hP hz0 hC rfl 0 (by decide) (hts _ (List.mem_cons_of_mem _ (ac7 _ (List.mem_of_getElem? (i := 21) rfl)))) (fun _ h => h) rfl (dk kX5_wink_ok 28 rfl) ?_
    refine gfN hx hb hts (fun w h => List.mem_cons_of_mem _ (acX4 w h)) hown hK hP hz1 hN.1 rfl 0 (by decide) (nf2 hNW) (fun _ h => h) rfl (dk kX5_wink_ok 29 rfl) ?_
    refine lv_iload_n hx hb (dk kX5_wink_ok 30 rfl) rfl (lv_at hl 1 rfl) ?_
    refine cvR (As := [.int (nI w)]) (rest := []) ⟨hx, hb, hml, hown, hts⟩ (tX1_isCovered l D cI cQ cL ad N F (1 + 1) (by omega) c b v hN.2.1 (nI w) w rfl (by omega)) (cwV9 1 hts mcX1_isCovered (ac10 _ (List.mem_of_getElem? (i := 16) rfl)) miX1_isCovered meX1_isCovered mini_RX1 rfl rfl hdX1_isCovered ⟨Nat.le_of_ble_eq_true rfl, Nat.le_of_ble_eq_true rfl⟩) hK hP hNW hz1___1 hN.2.1.1 rfl rfl hl.1 rfl (Nat.le_of_ble_eq_true rfl) (by decide) (dk kX5_wink_ok 31 rfl) ?_
    refine b_if_eq (tgt := 109) hx hb (dk kX5_wink_ok 32 rfl) (by decide) (fun h7 => ?_) (fun h7 => ?_)
    · skip
      refine lv_iconst (v := nI 0) hx hb (dk kX5_wink_ok 35 rfl) rfl ?_
      exact hret _ _ _ (by simp (config := { decide := true }) only [cWink, (eq_false hs1), (eq_false hs2), (eq_false hs4), (eq_false hs5), (eq_true hs6), h7, bI_1, bI_00, not_true_eq_false, not_false_eq_true, and_true, true_and, and_false, false_and, or_true, true_or, or_false, false_or, and_self, or_self, if_true, if_false, Bool.false_eq_true, reduceIte]; first | done | rfl | (simp_all; done)) (dk kX5_wink_ok 36 rfl)
    · skip
      refine lv_iconst (v := nI 1) hx hb (dk kX5_wink_ok 33 rfl) rfl ?_
      refine lv_goto (tgt := 110) hx hb (dk kX5_wink_ok 34 rfl) (by decide) ?_
      exact hret _ _ _ (by simp (config := { decide := true }) only [cWink, (eq_false hs1), (eq_false hs2), (eq_false hs4), (eq_false hs5), (eq_true hs6), h7, bI_1, bI_00, not_true_eq_false, not_false_eq_true, and_true, true_and, and_false, false_and, or_true, true_or, or_false, false_or, and_self, or_self, if_true, if_false, Bool.false_eq_true, reduceIte]; first | done | rfl | (simp_all; done)) (dk kX5_wink_ok 36 rfl)
  rcases Classical.em (y = nI 5) with hs8 | hs8
  · skip
    refine sw_in (off := 106) (tgt := 111) 5 hx hb (dk kX5_wink_ok 3 rfl) hs8 rfl rfl rfl (by decide) ?_
    refine lv_aload_n hx hb (dk kX5_wink_ok 37 rfl) rfl (lv_at hl 0 rfl) ?_
    refine gf hx hb hts (fun w h => List.mem_cons_of_mem _ (acX5 w h)) hown hK hP hz0 hC rfl 0 (by decide) (hts _ (List.mem_cons_of_mem _ (ac7 _ (List.mem_of_getElem? (i := 21) rfl)))) (fun _ h => h) rfl (dk kX5_wink_ok 38 rfl) ?_
    refine gfN hx hb hts (fun w h => List.mem_cons_of_mem _ (acX4 w h)) hown hK hP hz1 hN.1 rfl 1 (by decide) (nf3 hNW) (fun _ h => h) rfl (dk kX5_wink_ok 39 rfl) ?_
    refine lv_iload_n hx hb (dk kX5_wink_ok 40 rfl) rfl (lv_at hl 1 rfl) ?_
    refine ald (j := w) hx hb hK hP hz1___5 hN.2.2.1 rfl (by omega) (by decide) (dk kX5_wink_ok 41 rfl) ?_
    exact hret _ _ _ (by simp (config := { decide := true }) only [cWink, (eq_false hs1), (eq_false hs2), (eq_false hs4), (eq_false hs5), (eq_false hs6), (eq_true hs8), bI_1, bI_00, not_true_eq_false, not_false_eq_true, and_true, true_and, and_false, false_and, or_true, true_or, or_false, false_or, and_self, or_self, if_true, if_false, Bool.false_eq_true, reduceIte]; first | done | rfl | (simp_all; done)) (dk kX5_wink_ok 42 rfl)
  rcases Classical.em (y = nI 6) with hs9 | hs9
  · skip
    refine sw_in (off := 116) (tgt := 121) 6 hx hb (dk kX5_wink_ok 3 rfl) hs9 rfl rfl rfl (by decide) ?_
    refine lv_aload_n hx hb (dk kX5_wink_ok 43 rfl) rfl (lv_at hl 0 rfl) ?_
    refine gf hx hb hts (fun w h => List.mem_cons_of_mem _ (acX5 w h)) hown hK hP hz0 hC rfl 0 (by decide) (hts _ (List.mem_cons_of_mem _ (ac7 _ (List.mem_of_getElem? (i := 21) rfl)))) (fun _ h => h) rfl (dk kX5_wink_ok 44 rfl) ?_
    refine lv_iload_n hx hb (dk kX5_wink_ok 45 rfl) rfl (lv_at hl 1 rfl) ?_
    refine cvR (As := [.int (nI w)]) (rest := []) ⟨hx, hb, hml, hown, hts⟩ (tX4_whyNotFlown l D cI cQ cL ad N F 1 (by omega) c b v g h j t u z hN ht (nI w) w rfl (by omega)) (cwV9 1 hts mcX4_whyNotFlown (ac9 _ (List.mem_of_getElem? (i := 12) rfl)) miX4_whyNotFlown meX4_whyNotFlown mini_RX4 rfl rfl hdX4_whyNotFlown ⟨Nat.le_of_ble_eq_true rfl, Nat.le_of_ble_eq_true rfl⟩) hK hP hNW hz1 hN.1 rfl rfl hl.1 rfl (Nat.le_of_ble_eq_true rfl) (by decide) (dk kX5_wink_ok 46 rfl) ?_
    exact hret _ _ _ (by simp (config := { decide := true }) only [cWink, (eq_false hs1), (eq_false hs2), (eq_false hs4), (eq_false hs5), (eq_false hs6), (eq_false hs8), (eq_true hs9), bI_1, bI_00, not_true_eq_false, not_false_eq_true, and_true, true_and, and_false, false_and, or_true, true_or, or_false, false_or, and_self, or_self, if_true, if_false, Bool.false_eq_true, reduceIte]; first | done | rfl | (simp_all; done)) (dk kX5_wink_ok 47 rfl)
  refine lv_tableOut (tgt := 130) hx hb (dk kX5_wink_ok 3 rfl) (sw_out 7 (by intro k9 hk9; rcases k9 with _ | _ | _ | _ | _ | _ | _ | _ <;> first | assumption | omega)) (by decide) ?_
  exact (btw_all (m := 6) (by decide) hy9 (fun j9 hj9 e9 => by rcases (show j9 = 0 ∨ j9 = 1 ∨ j9 = 2 ∨ j9 = 3 ∨ j9 = 4 ∨ j9 = 5 ∨ j9 = 6 by omega) with rfl | rfl | rfl | rfl | rfl | rfl | rfl <;> contradiction)).elim
set_option maxRecDepth 100000 in
set_option maxHeartbeats 4000000 in
theorem tX5_wink_b1 (l : Launch) (hst : l.stackTraces = false) (D : va_G) (cI cQ cL : ClassId) (ad : Nat → Nat) (N : Nat) (F : Nat → va_E) (hk : 76 < N) (c b v g h j : Nat → Int32) (t : Nat) (u z : Int32) (hN : stAt cI ad F 1 c b v g h j (nI t) u z) (c8 b8 v8 g8 h8 j8 : Nat → Int32) (t8 : Nat) (u8 z8 : Int32) (hSn : stAt cI ad F 9 c8 b8 v8 g8 h8 j8 (nI t8) u8 z8) (n9 m9 : Nat) (hn9 : n9 < 6) (hm9 : m9 ≤ 6) (hPa : paAt cQ ad F 17 n9 m9) (a : Nat → Int32) (n : Nat) (hn60 : n ≤ 60) (hT : gtAt cI ad F 67 a n) (c6 b6 v6 : Nat → Int32) (hM6 : matAt cI ad F 69 c6 b6 v6) (a7 d7 q7 : Nat → Int32) (hO : roAt cI ad F 73 a7 d7 q7) (hs : Bool) (hC : F 0 = .inr (5, [.ref (ad 1), .ref (ad 9), .ref (ad 17), .ref (ad 67), .ref (ad 69), .ref (ad 73), .int (bI hs)])) (x y : Int32) (hwk : wk x = false) : MT l yX5_wink (Cond.code yX5_wink cX5_wink 3 (some .int) :: AW) ({ frames := 7, cells := 1, slots := 6, locals := 102 } : Room) D cI cQ cL ad N F [.ref (ad 0), .int x, .int y] eI 1 6 := by
  refine mt_of (ret := (some .int)) hst (by decide +kernel) rfl (Nat.le_of_ble_eq_true rfl) (fun p e s m below meth cd Q ls hx hb hml hown hts hDi hP hK hNW hS hX hthr hthrW hout hl => ?_)
  have hown : s.vm.findClass RX5 = some m.cls := hown
  have hz0 : 0 < N := by omega
  have hz1 : 1 < N := by omega
  have hz1___1 : 1 + 1 < N := by omega
  have hz1___1___1 : 1 + 1 + 1 < N := by omega
  have hz1___1___2 : 1 + 1 + 2 < N := by omega
  have hz1___1___3 : 1 + 1 + 3 < N := by omega
  have hz1___5 : 1 + 5 < N := by omega
  have hz1___6 : 1 + 6 < N := by omega
  have hz1___7 : 1 + 7 < N := by omega
  have hz9 : 9 < N := by omega
  have hz17 : 17 < N := by omega
  have hz17___1 : 17 + 1 < N := by omega
  have hz67 : 67 < N := by omega
  have hz67___1 : 67 + 1 < N := by omega
  have hz69 : 69 < N := by omega
  have hz69___1 : 69 + 1 < N := by omega
  have hz69___2 : 69 + 2 < N := by omega
  have hz69___3 : 69 + 3 < N := by omega
  have hz73 : 73 < N := by omega
  have hz1___1___3 : 1 + 1 + 3 < N := by omega
  have hz69___3 : 69 + 3 < N := by omega
  have hl : lv_has ls 3 [(0, .ref (ad 0)), (1, .int x), (2, .int y)] := hl
  refine lv_iload_n hx hb (dk kX5_wink_ok 0 rfl) rfl (lv_at hl 1 rfl) ?_
  exact csT (As := [.int x]) (rest := []) ⟨hx, hb, hml, hown, hts⟩ (tX5_requireWink_b1 l hst D cI cQ cL ad N F x hwk) (cwS9 1 hts mcX5_requireWink (ac9 _ (List.mem_of_getElem? (i := 6) rfl)) msX5_requireWink mini_RX5 rfl rfl hdX5_requireWink ⟨Nat.le_of_ble_eq_true rfl, Nat.le_of_ble_eq_true rfl⟩) hDi hK hP hNW hS hX rfl hl.1 rfl (Nat.le_of_ble_eq_true rfl) (by decide) (dk kX5_wink_ok 1 rfl) (fun H locs q ce hP hS h1 h2 h3 => hout _ _ _ H locs q ce _ _ hP hS h1 h2 h3 (by decide) (by decide))
set_option maxRecDepth 100000 in
set_option maxHeartbeats 4000000 in
theorem tX5_wink_b2 (l : Launch) (hst : l.stackTraces = false) (D : va_G) (cI cQ cL : ClassId) (ad : Nat → Nat) (N : Nat) (F : Nat → va_E) (hk : 76 < N) (c b v g h j : Nat → Int32) (t : Nat) (u z : Int32) (hN : stAt cI ad F 1 c b v g h j (nI t) u z) (c8 b8 v8 g8 h8 j8 : Nat → Int32) (t8 : Nat) (u8 z8 : Int32) (hSn : stAt cI ad F 9 c8 b8 v8 g8 h8 j8 (nI t8) u8 z8) (n9 m9 : Nat) (hn9 : n9 < 6) (hm9 : m9 ≤ 6) (hPa : paAt cQ ad F 17 n9 m9) (a : Nat → Int32) (n : Nat) (hn60 : n ≤ 60) (hT : gtAt cI ad F 67 a n) (c6 b6 v6 : Nat → Int32) (hM6 : matAt cI ad F 69 c6 b6 v6) (a7 d7 q7 : Nat → Int32) (hO : roAt cI ad F 73 a7 d7 q7) (hs : Bool) (hC : F 0 = .inr (5, [.ref (ad 1), .ref (ad 9), .ref (ad 17), .ref (ad 67), .ref (ad 69), .ref (ad 73), .int (bI hs)])) (x : Int32) (w : Nat) (hxw : x = nI w) (hw : w < 16) (y : Int32) (hy9 : btw y (nI 0) (nI 6) = false) : MT l yX5_wink (Cond.code yX5_wink cX5_wink 3 (some .int) :: AW) ({ frames := 7, cells := 1, slots := 6, locals := 102 } : Room) D cI cQ cL ad N F [.ref (ad 0), .int x, .int y] eA 1 6 := by
  refine mt_of (ret := (some .int)) hst (by decide +kernel) rfl (Nat.le_of_ble_eq_true rfl) (fun p e s m below meth cd Q ls hx hb hml hown hts hDi hP hK hNW hS hX hthr hthrW hout hl => ?_)
  have hown : s.vm.findClass RX5 = some m.cls := hown
  subst hxw
  have hz0 : 0 < N := by omega
  have hz1 : 1 < N := by omega
  have hz1___1 : 1 + 1 < N := by omega
  have hz1___1___1 : 1 + 1 + 1 < N := by omega
  have hz1___1___2 : 1 + 1 + 2 < N := by omega
  have hz1___1___3 : 1 + 1 + 3 < N := by omega
  have hz1___5 : 1 + 5 < N := by omega
  have hz1___6 : 1 + 6 < N := by omega
  have hz1___7 : 1 + 7 < N := by omega
  have hz9 : 9 < N := by omega
  have hz17 : 17 < N := by omega
  have hz17___1 : 17 + 1 < N := by omega
  have hz67 : 67 < N := by omega
  have hz67___1 : 67 + 1 < N := by omega
  have hz69 : 69 < N := by omega
  have hz69___1 : 69 + 1 < N := by omega
  have hz69___2 : 69 + 2 < N := by omega
  have hz69___3 : 69 + 3 < N := by omega
  have hz73 : 73 < N := by omega
  have hz1___1___3 : 1 + 1 + 3 < N := by omega
  have hz69___3 : 69 + 3 < N := by omega
  have hl : lv_has ls 3 [(0, .ref (ad 0)), (1, .int (nI w)), (2, .int y)] := hl
  refine lv_iload_n hx hb (dk kX5_wink_ok 0 rfl) rfl (lv_at hl 1 rfl) ?_
  refine csPv (As := [.int (nI w)]) (rest := []) ⟨hx, hb, hml, hown, hts⟩ (tX5_requireWink_ok l (nI w) (wk_nI hw)) (cwS9 1 hts mcX5_requireWink (ac9 _ (List.mem_of_getElem? (i := 6) rfl)) msX5_requireWink mini_RX5 rfl rfl hdX5_requireWink ⟨Nat.le_of_ble_eq_true rfl, Nat.le_of_ble_eq_true rfl⟩) rfl hl.1 rfl (Nat.le_of_ble_eq_true rfl) (by decide) (dk kX5_wink_ok 1 rfl) ?_
  refine lv_iload_n hx hb (dk kX5_wink_ok 2 rfl) rfl (lv_at hl 2 rfl) ?_
  rcases Classical.em (y = nI 0) with hs1 | hs1
  · exact (btw_ne hy9 (j := 0) (by decide) (by decide) hs1).elim
  rcases Classical.em (y = nI 1) with hs2 | hs2
  · exact (btw_ne hy9 (j := 1) (by decide) (by decide) hs2).elim
  rcases Classical.em (y = nI 2) with hs3 | hs3
  · exact (btw_ne hy9 (j := 2) (by decide) (by decide) hs3).elim
  rcases Classical.em (y = nI 3) with hs4 | hs4
  · exact (btw_ne hy9 (j := 3) (by decide) (by decide) hs4).elim
  rcases Classical.em (y = nI 4) with hs5 | hs5
  · exact (btw_ne hy9 (j := 4) (by decide) (by decide) hs5).elim
  rcases Classical.em (y = nI 5) with hs6 | hs6
  · exact (btw_ne hy9 (j := 5) (by decide) (by decide) hs6).elim
  rcases Classical.em (y = nI 6) with hs7 | hs7
  · exact (btw_ne hy9 (j := 6) (by decide) (by decide) hs7).elim
  refine lv_tableOut (tgt := 130) hx hb (dk kX5_wink_ok 3 rfl) (sw_out 7 (by intro k9 hk9; rcases k9 with _ | _ | _ | _ | _ | _ | _ | _ <;> first | assumption | omega)) (by decide) ?_
  exact hthr 104 108 180 130 "what is 0 to 6" ls [] _ _ 0 0 (by decide) (by decide) hP hS hl.1 (dk kX5_wink_ok 48 rfl) (dk kX5_wink_ok 49 rfl) (dk kX5_wink_ok 50 rfl) (dk kX5_wink_ok 51 rfl) (dk kX5_wink_ok 52 rfl) (by decide) (by decide) (by decide) (by decide) (by decide) (by decide)
set_option maxRecDepth 100000 in
set_option maxHeartbeats 4000000 in
theorem tX5_pile (l : Launch) (D : va_G) (cI cQ cL : ClassId) (ad : Nat → Nat) (N : Nat) (F : Nat → va_E) (hk : 76 < N) (c b v g h j : Nat → Int32) (t : Nat) (u z : Int32) (hN : stAt cI ad F 1 c b v g h j (nI t) u z) (c8 b8 v8 g8 h8 j8 : Nat → Int32) (t8 : Nat) (u8 z8 : Int32) (hSn : stAt cI ad F 9 c8 b8 v8 g8 h8 j8 (nI t8) u8 z8) (n9 m9 : Nat) (hn9 : n9 < 6) (hm9 : m9 ≤ 6) (hPa : paAt cQ ad F 17 n9 m9) (a : Nat → Int32) (n : Nat) (hn60 : n ≤ 60) (hT : gtAt cI ad F 67 a n) (c6 b6 v6 : Nat → Int32) (hM6 : matAt cI ad F 69 c6 b6 v6) (a7 d7 q7 : Nat → Int32) (hO : roAt cI ad F 73 a7 d7 q7) (hs : Bool) (hC : F 0 = .inr (5, [.ref (ad 1), .ref (ad 9), .ref (ad 17), .ref (ad 67), .ref (ad 69), .ref (ad 73), .int (bI hs)])) (x y k9 : Int32) (hon : on x y = true) (hy9 : btw k9 (nI 0) (nI 3) = true) : MR l yX5_pile (Cond.code yX5_pile cX5_pile 5 (some .int) :: AW) ({ frames := 7, cells := 0, slots := 0, locals := 103 } : Room) D cI cQ cL ad N F [.ref (ad 0), .int x, .int y, .int k9] (.int (cPile c b v (cat x y) k9)) := by
  refine mr_i (ty := .int) (by decide +kernel) rfl rfl rfl rfl (Nat.le_of_ble_eq_true rfl) (fun p e s m below meth cd Q ls hx hb hml hown hts hP hK hNW hret hl => ?_)
  have hown : s.vm.findClass RX5 = some m.cls := hown
  have hz0 : 0 < N := by omega
  have hz1 : 1 < N := by omega
  have hz1___1 : 1 + 1 < N := by omega
  have hz1___1___1 : 1 + 1 + 1 < N := by omega
  have hz1___1___2 : 1 + 1 + 2 < N := by omega
  have hz1___1___3 : 1 + 1 + 3 < N := by omega
  have hz1___5 : 1 + 5 < N := by omega
  have hz1___6 : 1 + 6 < N := by omega
  have hz1___7 : 1 + 7 < N := by omega
  have hz9 : 9 < N := by omega
  have hz17 : 17 < N := by omega
  have hz17___1 : 17 + 1 < N := by omega
  have hz67 : 67 < N := by omega
  have hz67___1 : 67 + 1 < N := by omega
  have hz69 : 69 < N := by omega
  have hz69___1 : 69 + 1 < N := by omega
  have hz69___2 : 69 + 2 < N := by omega
  have hz69___3 : 69 + 3 < N := by omega
  have hz73 : 73 < N := by omega
  have hz1___1___3 : 1 + 1 + 3 < N := by omega
  have hz69___3 : 69 + 3 < N := by omega
  have hl : lv_has ls 5 [(0, .ref (ad 0)), (1, .int x), (2, .int y), (3, .int k9)] := hl
  refine lv_iload_n hx hb (dk kX5_pile_ok 0 rfl) rfl (lv_at hl 1 rfl) ?_
  refine lv_iload_n hx hb (dk kX5_pile_ok 1 rfl) rfl (lv_at hl 2 rfl) ?_
  refine csPv (As := [.int x, .int y]) (rest := []) ⟨hx, hb, hml, hown, hts⟩ (tX5_requireCell_ok l x y hon) (cwS9 2 hts mcX5_requireCell (ac10 _ (List.mem_of_getElem? (i := 0) rfl)) msX5_requireCell mini_RX5 rfl rfl hdX5_requireCell ⟨Nat.le_of_ble_eq_true rfl, Nat.le_of_ble_eq_true rfl⟩) rfl hl.1 rfl (Nat.le_of_ble_eq_true rfl) (by decide) (dk kX5_pile_ok 2 rfl) ?_
  refine lv_iload_n hx hb (dk kX5_pile_ok 3 rfl) rfl (lv_at hl 1 rfl) ?_
  refine lv_iload_n hx hb (dk kX5_pile_ok 4 rfl) rfl (lv_at hl 2 rfl) ?_
  refine csP (As := [.int x, .int y]) (rest := []) ⟨hx, hb, hml, hown, hts⟩ (tX5_cellAt l x y) (cwS9 2 hts mcX5_cellAt (ac0 _ (List.mem_of_getElem? (i := 17) rfl)) msX5_cellAt mini_RX5 rfl rfl hdX5_cellAt ⟨Nat.le_of_ble_eq_true rfl, Nat.le_of_ble_eq_true rfl⟩) rfl hl.1 rfl (Nat.le_of_ble_eq_true rfl) (by decide) (dk kX5_pile_ok 5 rfl) ?_
  refine lv_istore (lv' := [(4, .int (cat x y)), (0, .ref (ad 0)), (1, .int x), (2, .int y), (3, .int k9)]) hx hb (dk kX5_pile_ok 6 rfl) hl (by decide) rfl (fun ls hl => ?_)
  refine lv_iload_n hx hb (dk kX5_pile_ok 7 rfl) rfl (lv_at hl 4 rfl) ?_
  rcases Classical.em (k9 = nI 0) with hs1 | hs1
  · skip
    refine sw_in (off := 31) (tgt := 44) 0 hx hb (dk kX5_pile_ok 8 rfl) hs1 rfl rfl rfl (by decide) ?_
    refine lv_aload_n hx hb (dk kX5_pile_ok 9 rfl) rfl (lv_at hl 1 rfl) ?_
    refine gf hx hb hts (fun w h => List.mem_cons_of_mem _ (acX5 w h)) hown hK hP hz0 hC rfl 0 (by decide) (hts _ (List.mem_cons_of_mem _ (ac7 _ (List.mem_of_getElem? (i := 21) rfl)))) (fun _ h => h) rfl (dk kX5_pile_ok 10 rfl) ?_
    refine gfN hx hb hts (fun w h => List.mem_cons_of_mem _ (acX4 w h)) hown hK hP hz1 hN.1 rfl 0 (by decide) (nf2 hNW) (fun _ h => h) rfl (dk kX5_pile_ok 11 rfl) ?_
    refine lv_iload hx hb (dk kX5_pile_ok 12 rfl) (lv_at hl 0 rfl) ?_
    refine cvR (As := [.int (cat x y)]) (rest := []) ⟨hx, hb, hml, hown, hts⟩ (tX1_heightAt l D cI cQ cL ad N F (1 + 1) (by omega) c b v hN.2.1 (cat x y)) (cwV9 1 hts mcX1_heightAt (ac10 _ (List.mem_of_getElem? (i := 14) rfl)) miX1_heightAt meX1_heightAt mini_RX1 rfl rfl hdX1_heightAt ⟨Nat.le_of_ble_eq_true rfl, Nat.le_of_ble_eq_true rfl⟩) hK hP hNW hz1___1 hN.2.1.1 rfl rfl hl.1 rfl (Nat.le_of_ble_eq_true rfl) (by decide) (dk kX5_pile_ok 13 rfl) ?_
    exact hret _ _ _ (by simp (config := { decide := true }) only [cPile, (eq_true hs1), bI_1, bI_00, not_true_eq_false, not_false_eq_true, and_true, true_and, and_false, false_and, or_true, true_or, or_false, false_or, and_self, or_self, if_true, if_false, Bool.false_eq_true, reduceIte]; first | done | rfl | (simp_all; done)) (dk kX5_pile_ok 14 rfl)
  rcases Classical.em (k9 = nI 1) with hs2 | hs2
  · skip
    refine sw_in (off := 44) (tgt := 57) 1 hx hb (dk kX5_pile_ok 8 rfl) hs2 rfl rfl rfl (by decide) ?_
    refine lv_aload_n hx hb (dk kX5_pile_ok 15 rfl) rfl (lv_at hl 1 rfl) ?_
    refine gf hx hb hts (fun w h => List.mem_cons_of_mem _ (acX5 w h)) hown hK hP hz0 hC rfl 0 (by decide) (hts _ (List.mem_cons_of_mem _ (ac7 _ (List.mem_of_getElem? (i := 21) rfl)))) (fun _ h => h) rfl (dk kX5_pile_ok 16 rfl) ?_
    refine gfN hx hb hts (fun w h => List.mem_cons_of_mem _ (acX4 w h)) hown hK hP hz1 hN.1 rfl 0 (by decide) (nf2 hNW) (fun _ h => h) rfl (dk kX5_pile_ok 17 rfl) ?_
    refine lv_iload hx hb (dk kX5_pile_ok 18 rfl) (lv_at hl 0 rfl) ?_
    refine cvR (As := [.int (cat x y)]) (rest := []) ⟨hx, hb, hml, hown, hts⟩ (tX1_topAt l D cI cQ cL ad N F (1 + 1) (by omega) c b v hN.2.1 (cat x y)) (cwV9 1 hts mcX1_topAt (ac12 _ (List.mem_of_getElem? (i := 8) rfl)) miX1_topAt meX1_topAt mini_RX1 rfl rfl hdX1_topAt ⟨Nat.le_of_ble_eq_true rfl, Nat.le_of_ble_eq_true rfl⟩) hK hP hNW hz1___1 hN.2.1.1 rfl rfl hl.1 rfl (Nat.le_of_ble_eq_true rfl) (by decide) (dk kX5_pile_ok 19 rfl) ?_
    exact hret _ _ _ (by simp (config := { decide := true }) only [cPile, (eq_false hs1), (eq_true hs2), bI_1, bI_00, not_true_eq_false, not_false_eq_true, and_true, true_and, and_false, false_and, or_true, true_or, or_false, false_or, and_self, or_self, if_true, if_false, Bool.false_eq_true, reduceIte]; first | done | rfl | (simp_all; done)) (dk kX5_pile_ok 20 rfl)
  rcases Classical.em (k9 = nI 2) with hs3 | hs3
  · skip
    refine sw_in (off := 57) (tgt := 70) 2 hx hb (dk kX5_pile_ok 8 rfl) hs3 rfl rfl rfl (by decide) ?_
    refine lv_aload_n hx hb (dk kX5_pile_ok 21 rfl) rfl (lv_at hl 1 rfl) ?_
    refine gf hx hb hts (fun w h => List.mem_cons_of_mem _ (acX5 w h)) hown hK hP hz0 hC rfl 0 (by decide) (hts _ (List.mem_cons_of_mem _ (ac7 _ (List.mem_of_getElem? (i := 21) rfl)))) (fun _ h => h) rfl (dk kX5_pile_ok 22 rfl) ?_
    refine gfN hx hb hts (fun w h => List.mem_cons_of_mem _ (acX4 w h)) hown hK hP hz1 hN.1 rfl 0 (by decide) (nf2 hNW) (fun _ h => h) rfl (dk kX5_pile_ok 23 rfl) ?_
    refine lv_iload hx hb (dk kX5_pile_ok 24 rfl) (lv_at hl 0 rfl) ?_
    refine cvR (As := [.int (cat x y)]) (rest := []) ⟨hx, hb, hml, hown, hts⟩ (tX1_bottomAt l D cI cQ cL ad N F (1 + 1) (by omega) c b v hN.2.1 (cat x y)) (cwV9 1 hts mcX1_bottomAt (ac12 _ (List.mem_of_getElem? (i := 9) rfl)) miX1_bottomAt meX1_bottomAt mini_RX1 rfl rfl hdX1_bottomAt ⟨Nat.le_of_ble_eq_true rfl, Nat.le_of_ble_eq_true rfl⟩) hK hP hNW hz1___1 hN.2.1.1 rfl rfl hl.1 rfl (Nat.le_of_ble_eq_true rfl) (by decide) (dk kX5_pile_ok 25 rfl) ?_
    exact hret _ _ _ (by simp (config := { decide := true }) only [cPile, (eq_false hs1), (eq_false hs2), (eq_true hs3), bI_1, bI_00, not_true_eq_false, not_false_eq_true, and_true, true_and, and_false, false_and, or_true, true_or, or_false, false_or, and_self, or_self, if_true, if_false, Bool.false_eq_true, reduceIte]; first | done | rfl | (simp_all; done)) (dk kX5_pile_ok 26 rfl)
  rcases Classical.em (k9 = nI 3) with hs4 | hs4
  · skip
    refine sw_in (off := 70) (tgt := 83) 3 hx hb (dk kX5_pile_ok 8 rfl) hs4 rfl rfl rfl (by decide) ?_
    refine lv_aload_n hx hb (dk kX5_pile_ok 27 rfl) rfl (lv_at hl 1 rfl) ?_
    refine gf hx hb hts (fun w h => List.mem_cons_of_mem _ (acX5 w h)) hown hK hP hz0 hC rfl 0 (by decide) (hts _ (List.mem_cons_of_mem _ (ac7 _ (List.mem_of_getElem? (i := 21) rfl)))) (fun _ h => h) rfl (dk kX5_pile_ok 28 rfl) ?_
    refine gfN hx hb hts (fun w h => List.mem_cons_of_mem _ (acX4 w h)) hown hK hP hz1 hN.1 rfl 0 (by decide) (nf2 hNW) (fun _ h => h) rfl (dk kX5_pile_ok 29 rfl) ?_
    refine lv_iload hx hb (dk kX5_pile_ok 30 rfl) (lv_at hl 0 rfl) ?_
    refine cvR (As := [.int (cat x y)]) (rest := []) ⟨hx, hb, hml, hown, hts⟩ (tX1_coloursAt l D cI cQ cL ad N F (1 + 1) (by omega) c b v hN.2.1 (cat x y)) (cwV9 1 hts mcX1_coloursAt (ac12 _ (List.mem_of_getElem? (i := 13) rfl)) miX1_coloursAt meX1_coloursAt mini_RX1 rfl rfl hdX1_coloursAt ⟨Nat.le_of_ble_eq_true rfl, Nat.le_of_ble_eq_true rfl⟩) hK hP hNW hz1___1 hN.2.1.1 rfl rfl hl.1 rfl (Nat.le_of_ble_eq_true rfl) (by decide) (dk kX5_pile_ok 31 rfl) ?_
    exact hret _ _ _ (by simp (config := { decide := true }) only [cPile, (eq_false hs1), (eq_false hs2), (eq_false hs3), (eq_true hs4), bI_1, bI_00, not_true_eq_false, not_false_eq_true, and_true, true_and, and_false, false_and, or_true, true_or, or_false, false_or, and_self, or_self, if_true, if_false, Bool.false_eq_true, reduceIte]; first | done | rfl | (simp_all; done)) (dk kX5_pile_ok 32 rfl)
  refine lv_tableOut (tgt := 96) hx hb (dk kX5_pile_ok 8 rfl) (sw_out 4 (by intro k9 hk9; rcases k9 with _ | _ | _ | _ | _ <;> first | assumption | omega)) (by decide) ?_
  exact (btw_all (m := 3) (by decide) hy9 (fun j9 hj9 e9 => by rcases (show j9 = 0 ∨ j9 = 1 ∨ j9 = 2 ∨ j9 = 3 by omega) with rfl | rfl | rfl | rfl <;> contradiction)).elim
set_option maxRecDepth 100000 in
set_option maxHeartbeats 4000000 in
theorem tX5_pile_b1 (l : Launch) (hst : l.stackTraces = false) (D : va_G) (cI cQ cL : ClassId) (ad : Nat → Nat) (N : Nat) (F : Nat → va_E) (hk : 76 < N) (c b v g h j : Nat → Int32) (t : Nat) (u z : Int32) (hN : stAt cI ad F 1 c b v g h j (nI t) u z) (c8 b8 v8 g8 h8 j8 : Nat → Int32) (t8 : Nat) (u8 z8 : Int32) (hSn : stAt cI ad F 9 c8 b8 v8 g8 h8 j8 (nI t8) u8 z8) (n9 m9 : Nat) (hn9 : n9 < 6) (hm9 : m9 ≤ 6) (hPa : paAt cQ ad F 17 n9 m9) (a : Nat → Int32) (n : Nat) (hn60 : n ≤ 60) (hT : gtAt cI ad F 67 a n) (c6 b6 v6 : Nat → Int32) (hM6 : matAt cI ad F 69 c6 b6 v6) (a7 d7 q7 : Nat → Int32) (hO : roAt cI ad F 73 a7 d7 q7) (hs : Bool) (hC : F 0 = .inr (5, [.ref (ad 1), .ref (ad 9), .ref (ad 17), .ref (ad 67), .ref (ad 69), .ref (ad 73), .int (bI hs)])) (x y k9 : Int32) (hon : on x y = false) : MT l yX5_pile (Cond.code yX5_pile cX5_pile 5 (some .int) :: AW) ({ frames := 7, cells := 1, slots := 6, locals := 103 } : Room) D cI cQ cL ad N F [.ref (ad 0), .int x, .int y, .int k9] eI 1 6 := by
  refine mt_of (ret := (some .int)) hst (by decide +kernel) rfl (Nat.le_of_ble_eq_true rfl) (fun p e s m below meth cd Q ls hx hb hml hown hts hDi hP hK hNW hS hX hthr hthrW hout hl => ?_)
  have hown : s.vm.findClass RX5 = some m.cls := hown
  have hz0 : 0 < N := by omega
  have hz1 : 1 < N := by omega
  have hz1___1 : 1 + 1 < N := by omega
  have hz1___1___1 : 1 + 1 + 1 < N := by omega
  have hz1___1___2 : 1 + 1 + 2 < N := by omega
  have hz1___1___3 : 1 + 1 + 3 < N := by omega
  have hz1___5 : 1 + 5 < N := by omega
  have hz1___6 : 1 + 6 < N := by omega
  have hz1___7 : 1 + 7 < N := by omega
  have hz9 : 9 < N := by omega
  have hz17 : 17 < N := by omega
  have hz17___1 : 17 + 1 < N := by omega
  have hz67 : 67 < N := by omega
  have hz67___1 : 67 + 1 < N := by omega
  have hz69 : 69 < N := by omega
  have hz69___1 : 69 + 1 < N := by omega
  have hz69___2 : 69 + 2 < N := by omega
  have hz69___3 : 69 + 3 < N := by omega
  have hz73 : 73 < N := by omega
  have hz1___1___3 : 1 + 1 + 3 < N := by omega
  have hz69___3 : 69 + 3 < N := by omega
  have hl : lv_has ls 5 [(0, .ref (ad 0)), (1, .int x), (2, .int y), (3, .int k9)] := hl
  refine lv_iload_n hx hb (dk kX5_pile_ok 0 rfl) rfl (lv_at hl 1 rfl) ?_
  refine lv_iload_n hx hb (dk kX5_pile_ok 1 rfl) rfl (lv_at hl 2 rfl) ?_
  exact csT (As := [.int x, .int y]) (rest := []) ⟨hx, hb, hml, hown, hts⟩ (tX5_requireCell_b1 l hst D cI cQ cL ad N F x y hon) (cwS9 2 hts mcX5_requireCell (ac10 _ (List.mem_of_getElem? (i := 0) rfl)) msX5_requireCell mini_RX5 rfl rfl hdX5_requireCell ⟨Nat.le_of_ble_eq_true rfl, Nat.le_of_ble_eq_true rfl⟩) hDi hK hP hNW hS hX rfl hl.1 rfl (Nat.le_of_ble_eq_true rfl) (by decide) (dk kX5_pile_ok 2 rfl) (fun H locs q ce hP hS h1 h2 h3 => hout _ _ _ H locs q ce _ _ hP hS h1 h2 h3 (by decide) (by decide))
set_option maxRecDepth 100000 in
set_option maxHeartbeats 4000000 in
theorem tX5_pile_b2 (l : Launch) (hst : l.stackTraces = false) (D : va_G) (cI cQ cL : ClassId) (ad : Nat → Nat) (N : Nat) (F : Nat → va_E) (hk : 76 < N) (c b v g h j : Nat → Int32) (t : Nat) (u z : Int32) (hN : stAt cI ad F 1 c b v g h j (nI t) u z) (c8 b8 v8 g8 h8 j8 : Nat → Int32) (t8 : Nat) (u8 z8 : Int32) (hSn : stAt cI ad F 9 c8 b8 v8 g8 h8 j8 (nI t8) u8 z8) (n9 m9 : Nat) (hn9 : n9 < 6) (hm9 : m9 ≤ 6) (hPa : paAt cQ ad F 17 n9 m9) (a : Nat → Int32) (n : Nat) (hn60 : n ≤ 60) (hT : gtAt cI ad F 67 a n) (c6 b6 v6 : Nat → Int32) (hM6 : matAt cI ad F 69 c6 b6 v6) (a7 d7 q7 : Nat → Int32) (hO : roAt cI ad F 73 a7 d7 q7) (hs : Bool) (hC : F 0 = .inr (5, [.ref (ad 1), .ref (ad 9), .ref (ad 17), .ref (ad 67), .ref (ad 69), .ref (ad 73), .int (bI hs)])) (x y k9 : Int32) (hon : on x y = true) (hy9 : btw k9 (nI 0) (nI 3) = false) : MT l yX5_pile (Cond.code yX5_pile cX5_pile 5 (some .int) :: AW) ({ frames := 7, cells := 1, slots := 6, locals := 103 } : Room) D cI cQ cL ad N F [.ref (ad 0), .int x, .int y, .int k9] eA 1 6 := by
  refine mt_of (ret := (some .int)) hst (by decide +kernel) rfl (Nat.le_of_ble_eq_true rfl) (fun p e s m below meth cd Q ls hx hb hml hown hts hDi hP hK hNW hS hX hthr hthrW hout hl => ?_)
  have hown : s.vm.findClass RX5 = some m.cls := hown
  have hz0 : 0 < N := by omega
  have hz1 : 1 < N := by omega
  have hz1___1 : 1 + 1 < N := by omega
  have hz1___1___1 : 1 + 1 + 1 < N := by omega
  have hz1___1___2 : 1 + 1 + 2 < N := by omega
  have hz1___1___3 : 1 + 1 + 3 < N := by omega
  have hz1___5 : 1 + 5 < N := by omega
  have hz1___6 : 1 + 6 < N := by omega
  have hz1___7 : 1 + 7 < N := by omega
  have hz9 : 9 < N := by omega
  have hz17 : 17 < N := by omega
  have hz17___1 : 17 + 1 < N := by omega
  have hz67 : 67 < N := by omega
  have hz67___1 : 67 + 1 < N := by omega
  have hz69 : 69 < N := by omega
  have hz69___1 : 69 + 1 < N := by omega
  have hz69___2 : 69 + 2 < N := by omega
  have hz69___3 : 69 + 3 < N := by omega
  have hz73 : 73 < N := by omega
  have hz1___1___3 : 1 + 1 + 3 < N := by omega
  have hz69___3 : 69 + 3 < N := by omega
  have hl : lv_has ls 5 [(0, .ref (ad 0)), (1, .int x), (2, .int y), (3, .int k9)] := hl
  refine lv_iload_n hx hb (dk kX5_pile_ok 0 rfl) rfl (lv_at hl 1 rfl) ?_
  refine lv_iload_n hx hb (dk kX5_pile_ok 1 rfl) rfl (lv_at hl 2 rfl) ?_
  refine csPv (As := [.int x, .int y]) (rest := []) ⟨hx, hb, hml, hown, hts⟩ (tX5_requireCell_ok l x y hon) (cwS9 2 hts mcX5_requireCell (ac10 _ (List.mem_of_getElem? (i := 0) rfl)) msX5_requireCell mini_RX5 rfl rfl hdX5_requireCell ⟨Nat.le_of_ble_eq_true rfl, Nat.le_of_ble_eq_true rfl⟩) rfl hl.1 rfl (Nat.le_of_ble_eq_true rfl) (by decide) (dk kX5_pile_ok 2 rfl) ?_
  refine lv_iload_n hx hb (dk kX5_pile_ok 3 rfl) rfl (lv_at hl 1 rfl) ?_
  refine lv_iload_n hx hb (dk kX5_pile_ok 4 rfl) rfl (lv_at hl 2 rfl) ?_
  refine csP (As := [.int x, .int y]) (rest := []) ⟨hx, hb, hml, hown, hts⟩ (tX5_cellAt l x y) (cwS9 2 hts mcX5_cellAt (ac0 _ (List.mem_of_getElem? (i := 17) rfl)) msX5_cellAt mini_RX5 rfl rfl hdX5_cellAt ⟨Nat.le_of_ble_eq_true rfl, Nat.le_of_ble_eq_true rfl⟩) rfl hl.1 rfl (Nat.le_of_ble_eq_true rfl) (by decide) (dk kX5_pile_ok 5 rfl) ?_
  refine lv_istore (lv' := [(4, .int (cat x y)), (0, .ref (ad 0)), (1, .int x), (2, .int y), (3, .int k9)]) hx hb (dk kX5_pile_ok 6 rfl) hl (by decide) rfl (fun ls hl => ?_)
  refine lv_iload_n hx hb (dk kX5_pile_ok 7 rfl) rfl (lv_at hl 4 rfl) ?_
  rcases Classical.em (k9 = nI 0) with hs1 | hs1
  · exact (btw_ne hy9 (j := 0) (by decide) (by decide) hs1).elim
  rcases Classical.em (k9 = nI 1) with hs2 | hs2
  · exact (btw_ne hy9 (j := 1) (by decide) (by decide) hs2).elim
  rcases Classical.em (k9 = nI 2) with hs3 | hs3
  · exact (btw_ne hy9 (j := 2) (by decide) (by decide) hs3).elim
  rcases Classical.em (k9 = nI 3) with hs4 | hs4
  · exact (btw_ne hy9 (j := 3) (by decide) (by decide) hs4).elim
  refine lv_tableOut (tgt := 96) hx hb (dk kX5_pile_ok 8 rfl) (sw_out 4 (by intro k9 hk9; rcases k9 with _ | _ | _ | _ | _ <;> first | assumption | omega)) (by decide) ?_
  exact hthr 104 108 191 96 "what is 0 to 3" ls [] _ _ 0 0 (by decide) (by decide) hP hS hl.1 (dk kX5_pile_ok 33 rfl) (dk kX5_pile_ok 34 rfl) (dk kX5_pile_ok 35 rfl) (dk kX5_pile_ok 36 rfl) (dk kX5_pile_ok 37 rfl) (by decide) (by decide) (by decide) (by decide) (by decide) (by decide)
set_option maxRecDepth 100000 in
set_option maxHeartbeats 4000000 in
theorem tX5_colour (l : Launch) (D : va_G) (cI cQ cL : ClassId) (ad : Nat → Nat) (N : Nat) (F : Nat → va_E) (hk : 76 < N) (c b v g h j : Nat → Int32) (t : Nat) (u z : Int32) (hN : stAt cI ad F 1 c b v g h j (nI t) u z) (c8 b8 v8 g8 h8 j8 : Nat → Int32) (t8 : Nat) (u8 z8 : Int32) (hSn : stAt cI ad F 9 c8 b8 v8 g8 h8 j8 (nI t8) u8 z8) (n9 m9 : Nat) (hn9 : n9 < 6) (hm9 : m9 ≤ 6) (hPa : paAt cQ ad F 17 n9 m9) (a : Nat → Int32) (n : Nat) (hn60 : n ≤ 60) (hT : gtAt cI ad F 67 a n) (c6 b6 v6 : Nat → Int32) (hM6 : matAt cI ad F 69 c6 b6 v6) (a7 d7 q7 : Nat → Int32) (hO : roAt cI ad F 73 a7 d7 q7) (hs : Bool) (hC : F 0 = .inr (5, [.ref (ad 1), .ref (ad 9), .ref (ad 17), .ref (ad 67), .ref (ad 69), .ref (ad 73), .int (bI hs)])) (x : Int32) (w : Nat) (hxw : x = nI w) (hw : w < 4) (y : Int32) (hy9 : btw y (nI 0) (nI 6) = true) : MR l yX5_colour (Cond.code yX5_colour cX5_colour 3 (some .int) :: AW) ({ frames := 6, cells := 0, slots := 0, locals := 82 } : Room) D cI cQ cL ad N F [.ref (ad 0), .int x, .int y] (.int (cCol c b v h j w y)) := by
  refine mr_i (ty := .int) (by decide +kernel) rfl rfl rfl rfl (Nat.le_of_ble_eq_true rfl) (fun p e s m below meth cd Q ls hx hb hml hown hts hP hK hNW hret hl => ?_)
  have hown : s.vm.findClass RX5 = some m.cls := hown
  subst hxw
  have hz0 : 0 < N := by omega
  have hz1 : 1 < N := by omega
  have hz1___1 : 1 + 1 < N := by omega
  have hz1___1___1 : 1 + 1 + 1 < N := by omega
  have hz1___1___2 : 1 + 1 + 2 < N := by omega
  have hz1___1___3 : 1 + 1 + 3 < N := by omega
  have hz1___5 : 1 + 5 < N := by omega
  have hz1___6 : 1 + 6 < N := by omega
  have hz1___7 : 1 + 7 < N := by omega
  have hz9 : 9 < N := by omega
  have hz17 : 17 < N := by omega
  have hz17___1 : 17 + 1 < N := by omega
  have hz67 : 67 < N := by omega
  have hz67___1 : 67 + 1 < N := by omega
  have hz69 : 69 < N := by omega
  have hz69___1 : 69 + 1 < N := by omega
  have hz69___2 : 69 + 2 < N := by omega
  have hz69___3 : 69 + 3 < N := by omega
  have hz73 : 73 < N := by omega
  have hz1___1___3 : 1 + 1 + 3 < N := by omega
  have hz69___3 : 69 + 3 < N := by omega
  have hl : lv_has ls 3 [(0, .ref (ad 0)), (1, .int (nI w)), (2, .int y)] := hl
  refine lv_iload_n hx hb (dk kX5_colour_0_ok 0 rfl) rfl (lv_at hl 1 rfl) ?_
  refine csP (As := [.int (nI w)]) (rest := []) ⟨hx, hb, hml, hown, hts⟩ (tX5_isColour l (nI w)) (cwS9 1 hts mcX5_isColour (ac12 _ (List.mem_of_getElem? (i := 17) rfl)) msX5_isColour mini_RX5 rfl rfl hdX5_isColour ⟨Nat.le_of_ble_eq_true rfl, Nat.le_of_ble_eq_true rfl⟩) rfl hl.1 rfl (Nat.le_of_ble_eq_true rfl) (by decide) (dk kX5_colour_0_ok 1 rfl) ?_
  refine b_if_ne (tgt := 17) hx hb (dk kX5_colour_0_ok 2 rfl) (by decide) (fun h1 => ?_) (fun h1 => ?_)
  · skip
    refine lv_iload_n hx hb (dk kX5_colour_0_ok 8 rfl) rfl (lv_at hl 2 rfl) ?_
    rcases Classical.em (y = nI 0) with hs2 | hs2
    · skip
      refine sw_in (off := 42) (tgt := 60) 0 hx hb (dk kX5_colour_0_ok 9 rfl) hs2 rfl rfl rfl (by decide) ?_
      refine lv_aload_n hx hb (dk kX5_colour_0_ok 10 rfl) rfl (lv_at hl 0 rfl) ?_
      refine gf hx hb hts (fun w h => List.mem_cons_of_mem _ (acX5 w h)) hown hK hP hz0 hC rfl 0 (by decide) (hts _ (List.mem_cons_of_mem _ (ac7 _ (List.mem_of_getElem? (i := 21) rfl)))) (fun _ h => h) rfl (dk kX5_colour_0_ok 11 rfl) ?_
      refine gfN hx hb hts (fun w h => List.mem_cons_of_mem _ (acX4 w h)) hown hK hP hz1 hN.1 rfl 0 (by decide) (nf2 hNW) (fun _ h => h) rfl (dk kX5_colour_0_ok 12 rfl) ?_
      refine lv_iload_n hx hb (dk kX5_colour_0_ok 13 rfl) rfl (lv_at hl 1 rfl) ?_
      refine cvR (As := [.int (nI w)]) (rest := []) ⟨hx, hb, hml, hown, hts⟩ (tX1_pottedOf l D cI cQ cL ad N F (1 + 1) (by omega) c b v hN.2.1 (nI w) w rfl (by omega)) (cwV9 1 hts mcX1_pottedOf (ac12 _ (List.mem_of_getElem? (i := 20) rfl)) miX1_pottedOf meX1_pottedOf mini_RX1 rfl rfl hdX1_pottedOf ⟨Nat.le_of_ble_eq_true rfl, Nat.le_of_ble_eq_true rfl⟩) hK hP hNW hz1___1 hN.2.1.1 rfl rfl hl.1 rfl (Nat.le_of_ble_eq_true rfl) (by decide) (dk kX5_colour_0_ok 14 rfl) ?_
      exact hret _ _ _ (by simp (config := { decide := true }) only [cCol, h1, (eq_true hs2), bI_1, bI_00, not_true_eq_false, not_false_eq_true, and_true, true_and, and_false, false_and, or_true, true_or, or_false, false_or, and_self, or_self, if_true, if_false, Bool.false_eq_true, reduceIte]; first | done | rfl | (simp_all; done)) (dk kX5_colour_0_ok 15 rfl)
    rcases Classical.em (y = nI 1) with hs3 | hs3
    · skip
      refine sw_in (off := 54) (tgt := 72) 1 hx hb (dk kX5_colour_0_ok 9 rfl) hs3 rfl rfl rfl (by decide) ?_
      refine lv_aload_n hx hb (dk kX5_colour_0_ok 16 rfl) rfl (lv_at hl 0 rfl) ?_
      refine gf hx hb hts (fun w h => List.mem_cons_of_mem _ (acX5 w h)) hown hK hP hz0 hC rfl 0 (by decide) (hts _ (List.mem_cons_of_mem _ (ac7 _ (List.mem_of_getElem? (i := 21) rfl)))) (fun _ h => h) rfl (dk kX5_colour_0_ok 17 rfl) ?_
      refine gfN hx hb hts (fun w h => List.mem_cons_of_mem _ (acX4 w h)) hown hK hP hz1 hN.1 rfl 0 (by decide) (nf2 hNW) (fun _ h => h) rfl (dk kX5_colour_0_ok 18 rfl) ?_
      refine lv_iload_n hx hb (dk kX5_colour_0_ok 19 rfl) rfl (lv_at hl 1 rfl) ?_
      refine cvR (As := [.int (nI w)]) (rest := []) ⟨hx, hb, hml, hown, hts⟩ (tX1_coveredOf l D cI cQ cL ad N F (1 + 1) (by omega) c b v hN.2.1 (nI w) w rfl (by omega)) (cwV9 1 hts mcX1_coveredOf (ac12 _ (List.mem_of_getElem? (i := 21) rfl)) miX1_coveredOf meX1_coveredOf mini_RX1 rfl rfl hdX1_coveredOf ⟨Nat.le_of_ble_eq_true rfl, Nat.le_of_ble_eq_true rfl⟩) hK hP hNW hz1___1 hN.2.1.1 rfl rfl hl.1 rfl (Nat.le_of_ble_eq_true rfl) (by decide) (dk kX5_colour_0_ok 20 rfl) ?_
      exact hret _ _ _ (by simp (config := { decide := true }) only [cCol, h1, (eq_false hs2), (eq_true hs3), bI_1, bI_00, not_true_eq_false, not_false_eq_true, and_true, true_and, and_false, false_and, or_true, true_or, or_false, false_or, and_self, or_self, if_true, if_false, Bool.false_eq_true, reduceIte]; first | done | rfl | (simp_all; done)) (dk kX5_colour_0_ok 21 rfl)
    rcases Classical.em (y = nI 2) with hs4 | hs4
    · skip
      refine sw_in (off := 66) (tgt := 84) 2 hx hb (dk kX5_colour_0_ok 9 rfl) hs4 rfl rfl rfl (by decide) ?_
      refine lv_iconst (v := nI 4) hx hb (dk kX5_colour_0_ok 22 rfl) rfl ?_
      refine lv_aload_n hx hb (dk kX5_colour_0_ok 23 rfl) rfl (lv_at hl 0 rfl) ?_
      refine gf hx hb hts (fun w h => List.mem_cons_of_mem _ (acX5 w h)) hown hK hP hz0 hC rfl 0 (by decide) (hts _ (List.mem_cons_of_mem _ (ac7 _ (List.mem_of_getElem? (i := 21) rfl)))) (fun _ h => h) rfl (dk kX5_colour_0_ok 24 rfl) ?_
      refine gfN hx hb hts (fun w h => List.mem_cons_of_mem _ (acX4 w h)) hown hK hP hz1 hN.1 rfl 0 (by decide) (nf2 hNW) (fun _ h => h) rfl (dk kX5_colour_0_ok 25 rfl) ?_
      refine lv_iload_n hx hb (dk kX5_colour_0_ok 26 rfl) rfl (lv_at hl 1 rfl) ?_
      refine cvR (As := [.int (nI w)]) (rest := [.int (nI 4)]) ⟨hx, hb, hml, hown, hts⟩ (tX1_pottedOf l D cI cQ cL ad N F (1 + 1) (by omega) c b v hN.2.1 (nI w) w rfl (by omega)) (cwV9 1 hts mcX1_pottedOf (ac12 _ (List.mem_of_getElem? (i := 20) rfl)) miX1_pottedOf meX1_pottedOf mini_RX1 rfl rfl hdX1_pottedOf ⟨Nat.le_of_ble_eq_true rfl, Nat.le_of_ble_eq_true rfl⟩) hK hP hNW hz1___1 hN.2.1.1 rfl rfl hl.1 rfl (Nat.le_of_ble_eq_true rfl) (by decide) (dk kX5_colour_0_ok 27 rfl) ?_
      refine lv_isub hx hb (dk kX5_colour_0_ok 28 rfl) ?_
      refine lv_aload_n hx hb (dk kX5_colour_0_ok 29 rfl) rfl (lv_at hl 0 rfl) ?_
      refine gf hx hb hts (fun w h => List.mem_cons_of_mem _ (acX5 w h)) hown hK hP hz0 hC rfl 0 (by decide) (hts _ (List.mem_cons_of_mem _ (ac7 _ (List.mem_of_getElem? (i := 21) rfl)))) (fun _ h => h) rfl (dk kX5_colour_0_ok 30 rfl) ?_
      refine gfN hx hb hts (fun w h => List.mem_cons_of_mem _ (acX4 w h)) hown hK hP hz1 hN.1 rfl 0 (by decide) (nf2 hNW) (fun _ h => h) rfl (dk kX5_colour_0_ok 31 rfl) ?_
      refine lv_iload_n hx hb (dk kX5_colour_0_ok 32 rfl) rfl (lv_at hl 1 rfl) ?_
      refine cvR (As := [.int (nI w)]) (rest := [.int ((nI 4) - (nI (potc c w)))]) ⟨hx, hb, hml, hown, hts⟩ (tX1_coveredOf l D cI cQ cL ad N F (1 + 1) (by omega) c b v hN.2.1 (nI w) w rfl (by omega)) (cwV9 1 hts mcX1_coveredOf (ac12 _ (List.mem_of_getElem? (i := 21) rfl)) miX1_coveredOf meX1_coveredOf mini_RX1 rfl rfl hdX1_coveredOf ⟨Nat.le_of_ble_eq_true rfl, Nat.le_of_ble_eq_true rfl⟩) hK hP hNW hz1___1 hN.2.1.1 rfl rfl hl.1 rfl (Nat.le_of_ble_eq_true rfl) (by decide) (dk kX5_colour_0_ok 33 rfl) ?_
      refine lv_isub hx hb (dk kX5_colour_0_ok 34 rfl) ?_
      exact hret _ _ _ (by simp (config := { decide := true }) only [cCol, h1, (eq_false hs2), (eq_false hs3), (eq_true hs4), bI_1, bI_00, not_true_eq_false, not_false_eq_true, and_true, true_and, and_false, false_and, or_true, true_or, or_false, false_or, and_self, or_self, if_true, if_false, Bool.false_eq_true, reduceIte]; first | done | rfl | (simp_all; done)) (dk kX5_colour_0_ok 35 rfl)
    rcases Classical.em (y = nI 3) with hs5 | hs5
    · skip
      refine sw_in (off := 92) (tgt := 110) 3 hx hb (dk kX5_colour_0_ok 9 rfl) hs5 rfl rfl rfl (by decide) ?_
      refine lv_aload_n hx hb (dk kX5_colour_0_ok 36 rfl) rfl (lv_at hl 0 rfl) ?_
      refine gf hx hb hts (fun w h => List.mem_cons_of_mem _ (acX5 w h)) hown hK hP hz0 hC rfl 0 (by decide) (hts _ (List.mem_cons_of_mem _ (ac7 _ (List.mem_of_getElem? (i := 21) rfl)))) (fun _ h => h) rfl (dk kX5_colour_0_ok 37 rfl) ?_
      refine gfN hx hb hts (fun w h => List.mem_cons_of_mem _ (acX4 w h)) hown hK hP hz1 hN.1 rfl 0 (by decide) (nf2 hNW) (fun _ h => h) rfl (dk kX5_colour_0_ok 38 rfl) ?_
      refine lv_iload_n hx hb (dk kX5_colour_0_ok 39 rfl) rfl (lv_at hl 1 rfl) ?_
      refine cvR (As := [.int (nI w)]) (rest := []) ⟨hx, hb, hml, hown, hts⟩ (tX1_pointsOf l D cI cQ cL ad N F (1 + 1) (by omega) c b v hN.2.1 (nI w) w rfl (by omega)) (cwV9 1 hts mcX1_pointsOf (ac12 _ (List.mem_of_getElem? (i := 22) rfl)) miX1_pointsOf meX1_pointsOf mini_RX1 rfl rfl hdX1_pointsOf ⟨Nat.le_of_ble_eq_true rfl, Nat.le_of_ble_eq_true rfl⟩) hK hP hNW hz1___1 hN.2.1.1 rfl rfl hl.1 rfl (Nat.le_of_ble_eq_true rfl) (by decide) (dk kX5_colour_0_ok 40 rfl) ?_
      exact hret _ _ _ (by simp (config := { decide := true }) only [cCol, h1, (eq_false hs2), (eq_false hs3), (eq_false hs4), (eq_true hs5), bI_1, bI_00, not_true_eq_false, not_false_eq_true, and_true, true_and, and_false, false_and, or_true, true_or, or_false, false_or, and_self, or_self, if_true, if_false, Bool.false_eq_true, reduceIte]; first | done | rfl | (simp_all; done)) (dk kX5_colour_0_ok 41 rfl)
    rcases Classical.em (y = nI 4) with hs6 | hs6
    · skip
      refine sw_in (off := 104) (tgt := 122) 4 hx hb (dk kX5_colour_0_ok 9 rfl) hs6 rfl rfl rfl (by decide) ?_
      refine lv_aload_n hx hb (dk kX5_colour_0_ok 42 rfl) rfl (lv_at hl 0 rfl) ?_
      refine gf hx hb hts (fun w h => List.mem_cons_of_mem _ (acX5 w h)) hown hK hP hz0 hC rfl 0 (by decide) (hts _ (List.mem_cons_of_mem _ (ac7 _ (List.mem_of_getElem? (i := 21) rfl)))) (fun _ h => h) rfl (dk kX5_colour_0_ok 43 rfl) ?_
      refine gfN hx hb hts (fun w h => List.mem_cons_of_mem _ (acX4 w h)) hown hK hP hz1 hN.1 rfl 2 (by decide) (nf4 hNW) (fun _ h => h) rfl (dk kX5_colour_0_ok 44 rfl) ?_
      refine lv_iload_n hx hb (dk kX5_colour_0_ok 45 rfl) rfl (lv_at hl 1 rfl) ?_
      refine ald (j := w) hx hb hK hP hz1___6 hN.2.2.2.1 rfl (by omega) (by decide) (dk kX5_colour_0_ok 46 rfl) ?_
      exact hret _ _ _ (by simp (config := { decide := true }) only [cCol, h1, (eq_false hs2), (eq_false hs3), (eq_false hs4), (eq_false hs5), (eq_true hs6), bI_1, bI_00, not_true_eq_false, not_false_eq_true, and_true, true_and, and_false, false_and, or_true, true_or, or_false, false_or, and_self, or_self, if_true, if_false, Bool.false_eq_true, reduceIte]; first | done | rfl | (simp_all; done)) (dk kX5_colour_0_ok 47 rfl)
    rcases Classical.em (y = nI 5) with hs7 | hs7
    · skip
      refine sw_in (off := 114) (tgt := 132) 5 hx hb (dk kX5_colour_0_ok 9 rfl) hs7 rfl rfl rfl (by decide) ?_
      refine lv_aload_n hx hb (dk kX5_colour_0_ok 48 rfl) rfl (lv_at hl 0 rfl) ?_
      refine gf hx hb hts (fun w h => List.mem_cons_of_mem _ (acX5 w h)) hown hK hP hz0 hC rfl 0 (by decide) (hts _ (List.mem_cons_of_mem _ (ac7 _ (List.mem_of_getElem? (i := 21) rfl)))) (fun _ h => h) rfl (dk kX5_colour_0_ok 49 rfl) ?_
      refine gfN hx hb hts (fun w h => List.mem_cons_of_mem _ (acX4 w h)) hown hK hP hz1 hN.1 rfl 3 (by decide) (nf5 hNW) (fun _ h => h) rfl (dk kX5_colour_0_ok 50 rfl) ?_
      refine lv_iload_n hx hb (dk kX5_colour_0_ok 51 rfl) rfl (lv_at hl 1 rfl) ?_
      refine ald (j := w) hx hb hK hP hz1___7 hN.2.2.2.2 rfl (by omega) (by decide) (dk kX5_colour_0_ok 52 rfl) ?_
      exact hret _ _ _ (by simp (config := { decide := true }) only [cCol, h1, (eq_false hs2), (eq_false hs3), (eq_false hs4), (eq_false hs5), (eq_false hs6), (eq_true hs7), bI_1, bI_00, not_true_eq_false, not_false_eq_true, and_true, true_and, and_false, false_and, or_true, true_or, or_false, false_or, and_self, or_self, if_true, if_false, Bool.false_eq_true, reduceIte]; first | done | rfl | (simp_all; done)) (dk kX5_colour_0_ok 53 rfl)
    rcases Classical.em (y = nI 6) with hs8 | hs8
    · skip
      refine sw_in (off := 124) (tgt := 142) 6 hx hb (dk kX5_colour_0_ok 9 rfl) hs8 rfl rfl rfl (by decide) ?_
      refine lv_aload_n hx hb (dk kX5_colour_0_ok 54 rfl) rfl (lv_at hl 0 rfl) ?_
      refine gf hx hb hts (fun w h => List.mem_cons_of_mem _ (acX5 w h)) hown hK hP hz0 hC rfl 0 (by decide) (hts _ (List.mem_cons_of_mem _ (ac7 _ (List.mem_of_getElem? (i := 21) rfl)))) (fun _ h => h) rfl (dk kX5_colour_0_ok 55 rfl) ?_
      refine gfN hx hb hts (fun w h => List.mem_cons_of_mem _ (acX4 w h)) hown hK hP hz1 hN.1 rfl 0 (by decide) (nf2 hNW) (fun _ h => h) rfl (dk kX5_colour_0_ok 56 rfl) ?_
      refine lv_iload_n hx hb (dk kX5_colour_0_ok 57 rfl) rfl (lv_at hl 1 rfl) ?_
      refine cvR (As := [.int (nI w)]) (rest := []) ⟨hx, hb, hml, hown, hts⟩ (tX1_othersBelow l D cI cQ cL ad N F (1 + 1) (by omega) c b v hN.2.1 (nI w) w rfl (by omega)) (cwV9 1 hts mcX1_othersBelow (ac12 _ (List.mem_of_getElem? (i := 23) rfl)) miX1_othersBelow meX1_othersBelow mini_RX1 rfl rfl hdX1_othersBelow ⟨Nat.le_of_ble_eq_true rfl, Nat.le_of_ble_eq_true rfl⟩) hK hP hNW hz1___1 hN.2.1.1 rfl rfl hl.1 rfl (Nat.le_of_ble_eq_true rfl) (by decide) (dk kX5_colour_0_ok 58 rfl) ?_
      exact hret _ _ _ (by simp (config := { decide := true }) only [cCol, h1, (eq_false hs2), (eq_false hs3), (eq_false hs4), (eq_false hs5), (eq_false hs6), (eq_false hs7), (eq_true hs8), bI_1, bI_00, not_true_eq_false, not_false_eq_true, and_true, true_and, and_false, false_and, or_true, true_or, or_false, false_or, and_self, or_self, if_true, if_false, Bool.false_eq_true, reduceIte]; first | done | rfl | (simp_all; done)) (dk kX5_colour_0_ok 59 rfl)
    refine lv_tableOut (tgt := 154) hx hb (dk kX5_colour_0_ok 9 rfl) (sw_out 7 (by intro k9 hk9; rcases k9 with _ | _ | _ | _ | _ | _ | _ | _ <;> first | assumption | omega)) (by decide) ?_
    exact (btw_all (m := 6) (by decide) hy9 (fun j9 hj9 e9 => by rcases (show j9 = 0 ∨ j9 = 1 ∨ j9 = 2 ∨ j9 = 3 ∨ j9 = 4 ∨ j9 = 5 ∨ j9 = 6 by omega) with rfl | rfl | rfl | rfl | rfl | rfl | rfl <;> contradiction)).elim
  · exact absurd ((cl4_nI hw).symm.trans h1) (by decide)
set_option maxRecDepth 100000 in
set_option maxHeartbeats 4000000 in
theorem tX5_colour_b1 (l : Launch) (hst : l.stackTraces = false) (D : va_G) (cI cQ cL : ClassId) (ad : Nat → Nat) (N : Nat) (F : Nat → va_E) (hk : 76 < N) (c b v g h j : Nat → Int32) (t : Nat) (u z : Int32) (hN : stAt cI ad F 1 c b v g h j (nI t) u z) (c8 b8 v8 g8 h8 j8 : Nat → Int32) (t8 : Nat) (u8 z8 : Int32) (hSn : stAt cI ad F 9 c8 b8 v8 g8 h8 j8 (nI t8) u8 z8) (n9 m9 : Nat) (hn9 : n9 < 6) (hm9 : m9 ≤ 6) (hPa : paAt cQ ad F 17 n9 m9) (a : Nat → Int32) (n : Nat) (hn60 : n ≤ 60) (hT : gtAt cI ad F 67 a n) (c6 b6 v6 : Nat → Int32) (hM6 : matAt cI ad F 69 c6 b6 v6) (a7 d7 q7 : Nat → Int32) (hO : roAt cI ad F 73 a7 d7 q7) (hs : Bool) (hC : F 0 = .inr (5, [.ref (ad 1), .ref (ad 9), .ref (ad 17), .ref (ad 67), .ref (ad 69), .ref (ad 73), .int (bI hs)])) (x y : Int32) (hwk : cl4 x = false) : MT l yX5_colour (Cond.code yX5_colour cX5_colour 3 (some .int) :: AW) ({ frames := 6, cells := 1, slots := 6, locals := 82 } : Room) D cI cQ cL ad N F [.ref (ad 0), .int x, .int y] eI 1 6 := by
  refine mt_of (ret := (some .int)) hst (by decide +kernel) rfl (Nat.le_of_ble_eq_true rfl) (fun p e s m below meth cd Q ls hx hb hml hown hts hDi hP hK hNW hS hX hthr hthrW hout hl => ?_)
  have hown : s.vm.findClass RX5 = some m.cls := hown
  have hz0 : 0 < N := by omega
  have hz1 : 1 < N := by omega
  have hz1___1 : 1 + 1 < N := by omega
  have hz1___1___1 : 1 + 1 + 1 < N := by omega
  have hz1___1___2 : 1 + 1 + 2 < N := by omega
  have hz1___1___3 : 1 + 1 + 3 < N := by omega
  have hz1___5 : 1 + 5 < N := by omega
  have hz1___6 : 1 + 6 < N := by omega
  have hz1___7 : 1 + 7 < N := by omega
  have hz9 : 9 < N := by omega
  have hz17 : 17 < N := by omega
  have hz17___1 : 17 + 1 < N := by omega
  have hz67 : 67 < N := by omega
  have hz67___1 : 67 + 1 < N := by omega
  have hz69 : 69 < N := by omega
  have hz69___1 : 69 + 1 < N := by omega
  have hz69___2 : 69 + 2 < N := by omega
  have hz69___3 : 69 + 3 < N := by omega
  have hz73 : 73 < N := by omega
  have hz1___1___3 : 1 + 1 + 3 < N := by omega
  have hz69___3 : 69 + 3 < N := by omega
  have hl : lv_has ls 3 [(0, .ref (ad 0)), (1, .int x), (2, .int y)] := hl
  refine lv_iload_n hx hb (dk kX5_colour_0_ok 0 rfl) rfl (lv_at hl 1 rfl) ?_
  refine csP (As := [.int x]) (rest := []) ⟨hx, hb, hml, hown, hts⟩ (tX5_isColour l x) (cwS9 1 hts mcX5_isColour (ac12 _ (List.mem_of_getElem? (i := 17) rfl)) msX5_isColour mini_RX5 rfl rfl hdX5_isColour ⟨Nat.le_of_ble_eq_true rfl, Nat.le_of_ble_eq_true rfl⟩) rfl hl.1 rfl (Nat.le_of_ble_eq_true rfl) (by decide) (dk kX5_colour_0_ok 1 rfl) ?_
  refine b_if_ne (tgt := 17) hx hb (dk kX5_colour_0_ok 2 rfl) (by decide) (fun h1 => ?_) (fun h1 => ?_)
  · exact absurd (hwk.symm.trans h1) (by decide)
  · skip
    exact hthr 196 200 198 7 "a colour is 0 to 3" ls [] _ _ 0 0 (by decide) (by decide) hP hS hl.1 (dk kX5_colour_0_ok 3 rfl) (dk kX5_colour_0_ok 4 rfl) (dk kX5_colour_0_ok 5 rfl) (dk kX5_colour_0_ok 6 rfl) (dk kX5_colour_0_ok 7 rfl) (by decide) (by decide) (by decide) (by decide) (by decide) (by decide)
set_option maxRecDepth 100000 in
set_option maxHeartbeats 4000000 in
theorem tX5_colour_b2 (l : Launch) (hst : l.stackTraces = false) (D : va_G) (cI cQ cL : ClassId) (ad : Nat → Nat) (N : Nat) (F : Nat → va_E) (hk : 76 < N) (c b v g h j : Nat → Int32) (t : Nat) (u z : Int32) (hN : stAt cI ad F 1 c b v g h j (nI t) u z) (c8 b8 v8 g8 h8 j8 : Nat → Int32) (t8 : Nat) (u8 z8 : Int32) (hSn : stAt cI ad F 9 c8 b8 v8 g8 h8 j8 (nI t8) u8 z8) (n9 m9 : Nat) (hn9 : n9 < 6) (hm9 : m9 ≤ 6) (hPa : paAt cQ ad F 17 n9 m9) (a : Nat → Int32) (n : Nat) (hn60 : n ≤ 60) (hT : gtAt cI ad F 67 a n) (c6 b6 v6 : Nat → Int32) (hM6 : matAt cI ad F 69 c6 b6 v6) (a7 d7 q7 : Nat → Int32) (hO : roAt cI ad F 73 a7 d7 q7) (hs : Bool) (hC : F 0 = .inr (5, [.ref (ad 1), .ref (ad 9), .ref (ad 17), .ref (ad 67), .ref (ad 69), .ref (ad 73), .int (bI hs)])) (x : Int32) (w : Nat) (hxw : x = nI w) (hw : w < 4) (y : Int32) (hy9 : btw y (nI 0) (nI 6) = false) : MT l yX5_colour (Cond.code yX5_colour cX5_colour 3 (some .int) :: AW) ({ frames := 6, cells := 1, slots := 6, locals := 82 } : Room) D cI cQ cL ad N F [.ref (ad 0), .int x, .int y] eA 1 6 := by
  refine mt_of (ret := (some .int)) hst (by decide +kernel) rfl (Nat.le_of_ble_eq_true rfl) (fun p e s m below meth cd Q ls hx hb hml hown hts hDi hP hK hNW hS hX hthr hthrW hout hl => ?_)
  have hown : s.vm.findClass RX5 = some m.cls := hown
  subst hxw
  have hz0 : 0 < N := by omega
  have hz1 : 1 < N := by omega
  have hz1___1 : 1 + 1 < N := by omega
  have hz1___1___1 : 1 + 1 + 1 < N := by omega
  have hz1___1___2 : 1 + 1 + 2 < N := by omega
  have hz1___1___3 : 1 + 1 + 3 < N := by omega
  have hz1___5 : 1 + 5 < N := by omega
  have hz1___6 : 1 + 6 < N := by omega
  have hz1___7 : 1 + 7 < N := by omega
  have hz9 : 9 < N := by omega
  have hz17 : 17 < N := by omega
  have hz17___1 : 17 + 1 < N := by omega
  have hz67 : 67 < N := by omega
  have hz67___1 : 67 + 1 < N := by omega
  have hz69 : 69 < N := by omega
  have hz69___1 : 69 + 1 < N := by omega
  have hz69___2 : 69 + 2 < N := by omega
  have hz69___3 : 69 + 3 < N := by omega
  have hz73 : 73 < N := by omega
  have hz1___1___3 : 1 + 1 + 3 < N := by omega
  have hz69___3 : 69 + 3 < N := by omega
  have hl : lv_has ls 3 [(0, .ref (ad 0)), (1, .int (nI w)), (2, .int y)] := hl
  refine lv_iload_n hx hb (dk kX5_colour_0_ok 0 rfl) rfl (lv_at hl 1 rfl) ?_
  refine csP (As := [.int (nI w)]) (rest := []) ⟨hx, hb, hml, hown, hts⟩ (tX5_isColour l (nI w)) (cwS9 1 hts mcX5_isColour (ac12 _ (List.mem_of_getElem? (i := 17) rfl)) msX5_isColour mini_RX5 rfl rfl hdX5_isColour ⟨Nat.le_of_ble_eq_true rfl, Nat.le_of_ble_eq_true rfl⟩) rfl hl.1 rfl (Nat.le_of_ble_eq_true rfl) (by decide) (dk kX5_colour_0_ok 1 rfl) ?_
  refine b_if_ne (tgt := 17) hx hb (dk kX5_colour_0_ok 2 rfl) (by decide) (fun h1 => ?_) (fun h1 => ?_)
  · skip
    refine lv_iload_n hx hb (dk kX5_colour_0_ok 8 rfl) rfl (lv_at hl 2 rfl) ?_
    rcases Classical.em (y = nI 0) with hs2 | hs2
    · exact (btw_ne hy9 (j := 0) (by decide) (by decide) hs2).elim
    rcases Classical.em (y = nI 1) with hs3 | hs3
    · exact (btw_ne hy9 (j := 1) (by decide) (by decide) hs3).elim
    rcases Classical.em (y = nI 2) with hs4 | hs4
    · exact (btw_ne hy9 (j := 2) (by decide) (by decide) hs4).elim
    rcases Classical.em (y = nI 3) with hs5 | hs5
    · exact (btw_ne hy9 (j := 3) (by decide) (by decide) hs5).elim
    rcases Classical.em (y = nI 4) with hs6 | hs6
    · exact (btw_ne hy9 (j := 4) (by decide) (by decide) hs6).elim
    rcases Classical.em (y = nI 5) with hs7 | hs7
    · exact (btw_ne hy9 (j := 5) (by decide) (by decide) hs7).elim
    rcases Classical.em (y = nI 6) with hs8 | hs8
    · exact (btw_ne hy9 (j := 6) (by decide) (by decide) hs8).elim
    refine lv_tableOut (tgt := 154) hx hb (dk kX5_colour_0_ok 9 rfl) (sw_out 7 (by intro k9 hk9; rcases k9 with _ | _ | _ | _ | _ | _ | _ | _ <;> first | assumption | omega)) (by decide) ?_
    exact hthr 104 108 180 154 "what is 0 to 6" ls [] _ _ 0 0 (by decide) (by decide) hP hS hl.1 (dk kX5_colour_1_ok 0 rfl) (dk kX5_colour_1_ok 1 rfl) (dk kX5_colour_1_ok 2 rfl) (dk kX5_colour_1_ok 3 rfl) (dk kX5_colour_1_ok 4 rfl) (by decide) (by decide) (by decide) (by decide) (by decide) (by decide)
  · exact absurd ((cl4_nI hw).symm.trans h1) (by decide)
set_option maxRecDepth 100000 in
set_option maxHeartbeats 4000000 in
theorem tX5_count (l : Launch) (D : va_G) (cI cQ cL : ClassId) (ad : Nat → Nat) (N : Nat) (F : Nat → va_E) (hk : 76 < N) (c b v g h j : Nat → Int32) (t : Nat) (u z : Int32) (hN : stAt cI ad F 1 c b v g h j (nI t) u z) (c8 b8 v8 g8 h8 j8 : Nat → Int32) (t8 : Nat) (u8 z8 : Int32) (hSn : stAt cI ad F 9 c8 b8 v8 g8 h8 j8 (nI t8) u8 z8) (n9 m9 : Nat) (hn9 : n9 < 6) (hm9 : m9 ≤ 6) (hPa : paAt cQ ad F 17 n9 m9) (a : Nat → Int32) (n : Nat) (hn60 : n ≤ 60) (hT : gtAt cI ad F 67 a n) (c6 b6 v6 : Nat → Int32) (hM6 : matAt cI ad F 69 c6 b6 v6) (a7 d7 q7 : Nat → Int32) (hO : roAt cI ad F 73 a7 d7 q7) (hs : Bool) (hC : F 0 = .inr (5, [.ref (ad 1), .ref (ad 9), .ref (ad 17), .ref (ad 67), .ref (ad 69), .ref (ad 73), .int (bI hs)])) (y : Int32) (hy9 : btw y (nI 0) (nI 13) = true) : MR l yX5_count (Cond.code yX5_count cX5_count 2 (some .int) :: AW) ({ frames := 6, cells := 0, slots := 0, locals := 87 } : Room) D cI cQ cL ad N F [.ref (ad 0), .int y] (.int (cCnt c b v g h t u z m9 y)) := by
  refine mr_i (ty := .int) (by decide +kernel) rfl rfl rfl rfl (Nat.le_of_ble_eq_true rfl) (fun p e s m below meth cd Q ls hx hb hml hown hts hP hK hNW hret hl => ?_)
  have hown : s.vm.findClass RX5 = some m.cls := hown
  have hz0 : 0 < N := by omega
  have hz1 : 1 < N := by omega
  have hz1___1 : 1 + 1 < N := by omega
  have hz1___1___1 : 1 + 1 + 1 < N := by omega
  have hz1___1___2 : 1 + 1 + 2 < N := by omega
  have hz1___1___3 : 1 + 1 + 3 < N := by omega
  have hz1___5 : 1 + 5 < N := by omega
  have hz1___6 : 1 + 6 < N := by omega
  have hz1___7 : 1 + 7 < N := by omega
  have hz9 : 9 < N := by omega
  have hz17 : 17 < N := by omega
  have hz17___1 : 17 + 1 < N := by omega
  have hz67 : 67 < N := by omega
  have hz67___1 : 67 + 1 < N := by omega
  have hz69 : 69 < N := by omega
  have hz69___1 : 69 + 1 < N := by omega
  have hz69___2 : 69 + 2 < N := by omega
  have hz69___3 : 69 + 3 < N := by omega
  have hz73 : 73 < N := by omega
  have hz1___1___3 : 1 + 1 + 3 < N := by omega
  have hz69___3 : 69 + 3 < N := by omega
  have hl : lv_has ls 2 [(0, .ref (ad 0)), (1, .int y)] := hl
  refine lv_iload_n hx hb (dk kX5_count_0_ok 0 rfl) rfl (lv_at hl 1 rfl) ?_
  rcases Classical.em (y = nI 0) with hs1 | hs1
  · skip
    refine sw_in (off := 71) (tgt := 72) 0 hx hb (dk kX5_count_0_ok 1 rfl) hs1 rfl rfl rfl (by decide) ?_
    refine lv_aload_n hx hb (dk kX5_count_0_ok 2 rfl) rfl (lv_at hl 0 rfl) ?_
    refine gf hx hb hts (fun w h => List.mem_cons_of_mem _ (acX5 w h)) hown hK hP hz0 hC rfl 0 (by decide) (hts _ (List.mem_cons_of_mem _ (ac7 _ (List.mem_of_getElem? (i := 21) rfl)))) (fun _ h => h) rfl (dk kX5_count_0_ok 3 rfl) ?_
    refine gfN hx hb hts (fun w h => List.mem_cons_of_mem _ (acX4 w h)) hown hK hP hz1 hN.1 rfl 0 (by decide) (nf2 hNW) (fun _ h => h) rfl (dk kX5_count_0_ok 4 rfl) ?_
    refine cvR (As := []) (rest := []) ⟨hx, hb, hml, hown, hts⟩ (tX1_isOver l D cI cQ cL ad N F (1 + 1) (by omega) c b v hN.2.1) (cwV9 0 hts mcX1_isOver (ac10 _ (List.mem_of_getElem? (i := 15) rfl)) miX1_isOver meX1_isOver mini_RX1 rfl rfl hdX1_isOver ⟨Nat.le_of_ble_eq_true rfl, Nat.le_of_ble_eq_true rfl⟩) hK hP hNW hz1___1 hN.2.1.1 rfl rfl hl.1 rfl (Nat.le_of_ble_eq_true rfl) (by decide) (dk kX5_count_0_ok 5 rfl) ?_
    refine b_if_eq (tgt := 89) hx hb (dk kX5_count_0_ok 6 rfl) (by decide) (fun h2 => ?_) (fun h2 => ?_)
    · skip
      refine lv_aload_n hx hb (dk kX5_count_0_ok 9 rfl) rfl (lv_at hl 0 rfl) ?_
      refine gf hx hb hts (fun w h => List.mem_cons_of_mem _ (acX5 w h)) hown hK hP hz0 hC rfl 0 (by decide) (hts _ (List.mem_cons_of_mem _ (ac7 _ (List.mem_of_getElem? (i := 21) rfl)))) (fun _ h => h) rfl (dk kX5_count_0_ok 10 rfl) ?_
      refine gfN hx hb hts (fun w h => List.mem_cons_of_mem _ (acX4 w h)) hown hK hP hz1 hN.1 rfl 4 (by decide) (nf6 hNW) (fun _ h => h) rfl (dk kX5_count_0_ok 11 rfl) ?_
      exact hret _ _ _ (by simp (config := { decide := true }) only [cCnt, (eq_true hs1), h2, bI_1, bI_00, not_true_eq_false, not_false_eq_true, and_true, true_and, and_false, false_and, or_true, true_or, or_false, false_or, and_self, or_self, if_true, if_false, Bool.false_eq_true, reduceIte]; first | done | rfl | (simp_all; done)) (dk kX5_count_0_ok 12 rfl)
    · skip
      refine lv_iconst (v := -1) hx hb (dk kX5_count_0_ok 7 rfl) rfl ?_
      refine lv_goto (tgt := 96) hx hb (dk kX5_count_0_ok 8 rfl) (by decide) ?_
      exact hret _ _ _ (by simp (config := { decide := true }) only [cCnt, (eq_true hs1), h2, bI_1, bI_00, not_true_eq_false, not_false_eq_true, and_true, true_and, and_false, false_and, or_true, true_or, or_false, false_or, and_self, or_self, if_true, if_false, Bool.false_eq_true, reduceIte]; first | done | rfl | (simp_all; done)) (dk kX5_count_0_ok 12 rfl)
  rcases Classical.em (y = nI 1) with hs3 | hs3
  · skip
    refine sw_in (off := 96) (tgt := 97) 1 hx hb (dk kX5_count_0_ok 1 rfl) hs3 rfl rfl rfl (by decide) ?_
    refine lv_aload_n hx hb (dk kX5_count_0_ok 13 rfl) rfl (lv_at hl 0 rfl) ?_
    refine gf hx hb hts (fun w h => List.mem_cons_of_mem _ (acX5 w h)) hown hK hP hz0 hC rfl 0 (by decide) (hts _ (List.mem_cons_of_mem _ (ac7 _ (List.mem_of_getElem? (i := 21) rfl)))) (fun _ h => h) rfl (dk kX5_count_0_ok 14 rfl) ?_
    refine gfN hx hb hts (fun w h => List.mem_cons_of_mem _ (acX4 w h)) hown hK hP hz1 hN.1 rfl 0 (by decide) (nf2 hNW) (fun _ h => h) rfl (dk kX5_count_0_ok 15 rfl) ?_
    refine cvR (As := []) (rest := []) ⟨hx, hb, hml, hown, hts⟩ (tX1_isOver l D cI cQ cL ad N F (1 + 1) (by omega) c b v hN.2.1) (cwV9 0 hts mcX1_isOver (ac10 _ (List.mem_of_getElem? (i := 15) rfl)) miX1_isOver meX1_isOver mini_RX1 rfl rfl hdX1_isOver ⟨Nat.le_of_ble_eq_true rfl, Nat.le_of_ble_eq_true rfl⟩) hK hP hNW hz1___1 hN.2.1.1 rfl rfl hl.1 rfl (Nat.le_of_ble_eq_true rfl) (by decide) (dk kX5_count_0_ok 16 rfl) ?_
    refine b_if_eq (tgt := 114) hx hb (dk kX5_count_0_ok 17 rfl) (by decide) (fun h4 => ?_) (fun h4 => ?_)
    · skip
      refine lv_iconst (v := nI 0) hx hb (dk kX5_count_0_ok 20 rfl) rfl ?_
      exact hret _ _ _ (by simp (config := { decide := true }) only [cCnt, (eq_false hs1), (eq_true hs3), h4, bI_1, bI_00, not_true_eq_false, not_false_eq_true, and_true, true_and, and_false, false_and, or_true, true_or, or_false, false_or, and_self, or_self, if_true, if_false, Bool.false_eq_true, reduceIte]; first | done | rfl | (simp_all; done)) (dk kX5_count_0_ok 21 rfl)
    · skip
      refine lv_iconst (v := nI 1) hx hb (dk kX5_count_0_ok 18 rfl) rfl ?_
      refine lv_goto (tgt := 115) hx hb (dk kX5_count_0_ok 19 rfl) (by decide) ?_
      exact hret _ _ _ (by simp (config := { decide := true }) only [cCnt, (eq_false hs1), (eq_true hs3), h4, bI_1, bI_00, not_true_eq_false, not_false_eq_true, and_true, true_and, and_false, false_and, or_true, true_or, or_false, false_or, and_self, or_self, if_true, if_false, Bool.false_eq_true, reduceIte]; first | done | rfl | (simp_all; done)) (dk kX5_count_0_ok 21 rfl)
  rcases Classical.em (y = nI 2) with hs5 | hs5
  · skip
    refine sw_in (off := 115) (tgt := 116) 2 hx hb (dk kX5_count_0_ok 1 rfl) hs5 rfl rfl rfl (by decide) ?_
    refine lv_aload_n hx hb (dk kX5_count_0_ok 22 rfl) rfl (lv_at hl 0 rfl) ?_
    refine gf hx hb hts (fun w h => List.mem_cons_of_mem _ (acX5 w h)) hown hK hP hz0 hC rfl 0 (by decide) (hts _ (List.mem_cons_of_mem _ (ac7 _ (List.mem_of_getElem? (i := 21) rfl)))) (fun _ h => h) rfl (dk kX5_count_0_ok 23 rfl) ?_
    refine gfN hx hb hts (fun w h => List.mem_cons_of_mem _ (acX4 w h)) hown hK hP hz1 hN.1 rfl 0 (by decide) (nf2 hNW) (fun _ h => h) rfl (dk kX5_count_0_ok 24 rfl) ?_
    refine cvR (As := []) (rest := []) ⟨hx, hb, hml, hown, hts⟩ (tX1_potted l D cI cQ cL ad N F (1 + 1) (by omega) c b v hN.2.1) (cwV9 0 hts mcX1_potted (ac11 _ (List.mem_of_getElem? (i := 20) rfl)) miX1_potted meX1_potted mini_RX1 rfl rfl hdX1_potted ⟨Nat.le_of_ble_eq_true rfl, Nat.le_of_ble_eq_true rfl⟩) hK hP hNW hz1___1 hN.2.1.1 rfl rfl hl.1 rfl (Nat.le_of_ble_eq_true rfl) (by decide) (dk kX5_count_0_ok 25 rfl) ?_
    exact hret _ _ _ (by simp (config := { decide := true }) only [cCnt, (eq_false hs1), (eq_false hs3), (eq_true hs5), bI_1, bI_00, not_true_eq_false, not_false_eq_true, and_true, true_and, and_false, false_and, or_true, true_or, or_false, false_or, and_self, or_self, if_true, if_false, Bool.false_eq_true, reduceIte]; first | done | rfl | (simp_all; done)) (dk kX5_count_0_ok 26 rfl)
  rcases Classical.em (y = nI 3) with hs6 | hs6
  · skip
    refine sw_in (off := 126) (tgt := 127) 3 hx hb (dk kX5_count_0_ok 1 rfl) hs6 rfl rfl rfl (by decide) ?_
    refine lv_aload_n hx hb (dk kX5_count_0_ok 27 rfl) rfl (lv_at hl 0 rfl) ?_
    refine gf hx hb hts (fun w h => List.mem_cons_of_mem _ (acX5 w h)) hown hK hP hz0 hC rfl 0 (by decide) (hts _ (List.mem_cons_of_mem _ (ac7 _ (List.mem_of_getElem? (i := 21) rfl)))) (fun _ h => h) rfl (dk kX5_count_0_ok 28 rfl) ?_
    refine gfN hx hb hts (fun w h => List.mem_cons_of_mem _ (acX4 w h)) hown hK hP hz1 hN.1 rfl 0 (by decide) (nf2 hNW) (fun _ h => h) rfl (dk kX5_count_0_ok 29 rfl) ?_
    refine cvR (As := []) (rest := []) ⟨hx, hb, hml, hown, hts⟩ (tX1_coveredByPiles l D cI cQ cL ad N F (1 + 1) (by omega) c b v hN.2.1) (cwV9 0 hts mcX1_coveredByPiles (ac13 _ (List.mem_of_getElem? (i := 3) rfl)) miX1_coveredByPiles meX1_coveredByPiles mini_RX1 rfl rfl hdX1_coveredByPiles ⟨Nat.le_of_ble_eq_true rfl, Nat.le_of_ble_eq_true rfl⟩) hK hP hNW hz1___1 hN.2.1.1 rfl rfl hl.1 rfl (Nat.le_of_ble_eq_true rfl) (by decide) (dk kX5_count_0_ok 30 rfl) ?_
    exact hret _ _ _ (by simp (config := { decide := true }) only [cCnt, (eq_false hs1), (eq_false hs3), (eq_false hs5), (eq_true hs6), bI_1, bI_00, not_true_eq_false, not_false_eq_true, and_true, true_and, and_false, false_and, or_true, true_or, or_false, false_or, and_self, or_self, if_true, if_false, Bool.false_eq_true, reduceIte]; first | done | rfl | (simp_all; done)) (dk kX5_count_0_ok 31 rfl)
  rcases Classical.em (y = nI 4) with hs7 | hs7
  · skip
    refine sw_in (off := 137) (tgt := 138) 4 hx hb (dk kX5_count_0_ok 1 rfl) hs7 rfl rfl rfl (by decide) ?_
    refine lv_aload_n hx hb (dk kX5_count_0_ok 32 rfl) rfl (lv_at hl 0 rfl) ?_
    refine gf hx hb hts (fun w h => List.mem_cons_of_mem _ (acX5 w h)) hown hK hP hz0 hC rfl 0 (by decide) (hts _ (List.mem_cons_of_mem _ (ac7 _ (List.mem_of_getElem? (i := 21) rfl)))) (fun _ h => h) rfl (dk kX5_count_0_ok 33 rfl) ?_
    refine gfN hx hb hts (fun w h => List.mem_cons_of_mem _ (acX4 w h)) hown hK hP hz1 hN.1 rfl 0 (by decide) (nf2 hNW) (fun _ h => h) rfl (dk kX5_count_0_ok 34 rfl) ?_
    refine cvR (As := []) (rest := []) ⟨hx, hb, hml, hown, hts⟩ (tX1_coveredByWinks l D cI cQ cL ad N F (1 + 1) (by omega) c b v hN.2.1) (cwV9 0 hts mcX1_coveredByWinks (ac13 _ (List.mem_of_getElem? (i := 7) rfl)) miX1_coveredByWinks meX1_coveredByWinks mini_RX1 rfl rfl hdX1_coveredByWinks ⟨Nat.le_of_ble_eq_true rfl, Nat.le_of_ble_eq_true rfl⟩) hK hP hNW hz1___1 hN.2.1.1 rfl rfl hl.1 rfl (Nat.le_of_ble_eq_true rfl) (by decide) (dk kX5_count_0_ok 35 rfl) ?_
    exact hret _ _ _ (by simp (config := { decide := true }) only [cCnt, (eq_false hs1), (eq_false hs3), (eq_false hs5), (eq_false hs6), (eq_true hs7), bI_1, bI_00, not_true_eq_false, not_false_eq_true, and_true, true_and, and_false, false_and, or_true, true_or, or_false, false_or, and_self, or_self, if_true, if_false, Bool.false_eq_true, reduceIte]; first | done | rfl | (simp_all; done)) (dk kX5_count_0_ok 36 rfl)
  rcases Classical.em (y = nI 5) with hs8 | hs8
  · skip
    refine sw_in (off := 148) (tgt := 149) 5 hx hb (dk kX5_count_0_ok 1 rfl) hs8 rfl rfl rfl (by decide) ?_
    refine lv_aload_n hx hb (dk kX5_count_0_ok 37 rfl) rfl (lv_at hl 0 rfl) ?_
    refine gf hx hb hts (fun w h => List.mem_cons_of_mem _ (acX5 w h)) hown hK hP hz0 hC rfl 0 (by decide) (hts _ (List.mem_cons_of_mem _ (ac7 _ (List.mem_of_getElem? (i := 21) rfl)))) (fun _ h => h) rfl (dk kX5_count_0_ok 38 rfl) ?_
    refine gfN hx hb hts (fun w h => List.mem_cons_of_mem _ (acX4 w h)) hown hK hP hz1 hN.1 rfl 0 (by decide) (nf2 hNW) (fun _ h => h) rfl (dk kX5_count_0_ok 39 rfl) ?_
    refine cvR (As := []) (rest := []) ⟨hx, hb, hml, hown, hts⟩ (tX1_piles l D cI cQ cL ad N F (1 + 1) (by omega) c b v hN.2.1) (cwV9 0 hts mcX1_piles (ac13 _ (List.mem_of_getElem? (i := 11) rfl)) miX1_piles meX1_piles mini_RX1 rfl rfl hdX1_piles ⟨Nat.le_of_ble_eq_true rfl, Nat.le_of_ble_eq_true rfl⟩) hK hP hNW hz1___1 hN.2.1.1 rfl rfl hl.1 rfl (Nat.le_of_ble_eq_true rfl) (by decide) (dk kX5_count_0_ok 40 rfl) ?_
    exact hret _ _ _ (by simp (config := { decide := true }) only [cCnt, (eq_false hs1), (eq_false hs3), (eq_false hs5), (eq_false hs6), (eq_false hs7), (eq_true hs8), bI_1, bI_00, not_true_eq_false, not_false_eq_true, and_true, true_and, and_false, false_and, or_true, true_or, or_false, false_or, and_self, or_self, if_true, if_false, Bool.false_eq_true, reduceIte]; first | done | rfl | (simp_all; done)) (dk kX5_count_0_ok 41 rfl)
  rcases Classical.em (y = nI 6) with hs9 | hs9
  · skip
    refine sw_in (off := 159) (tgt := 160) 6 hx hb (dk kX5_count_0_ok 1 rfl) hs9 rfl rfl rfl (by decide) ?_
    refine lv_aload_n hx hb (dk kX5_count_0_ok 42 rfl) rfl (lv_at hl 0 rfl) ?_
    refine gf hx hb hts (fun w h => List.mem_cons_of_mem _ (acX5 w h)) hown hK hP hz0 hC rfl 0 (by decide) (hts _ (List.mem_cons_of_mem _ (ac7 _ (List.mem_of_getElem? (i := 21) rfl)))) (fun _ h => h) rfl (dk kX5_count_0_ok 43 rfl) ?_
    refine gfN hx hb hts (fun w h => List.mem_cons_of_mem _ (acX4 w h)) hown hK hP hz1 hN.1 rfl 0 (by decide) (nf2 hNW) (fun _ h => h) rfl (dk kX5_count_0_ok 44 rfl) ?_
    refine cvR (As := []) (rest := []) ⟨hx, hb, hml, hown, hts⟩ (tX1_highest l D cI cQ cL ad N F (1 + 1) (by omega) c b v hN.2.1) (cwV9 0 hts mcX1_highest (ac13 _ (List.mem_of_getElem? (i := 15) rfl)) miX1_highest meX1_highest mini_RX1 rfl rfl hdX1_highest ⟨Nat.le_of_ble_eq_true rfl, Nat.le_of_ble_eq_true rfl⟩) hK hP hNW hz1___1 hN.2.1.1 rfl rfl hl.1 rfl (Nat.le_of_ble_eq_true rfl) (by decide) (dk kX5_count_0_ok 45 rfl) ?_
    exact hret _ _ _ (by simp (config := { decide := true }) only [cCnt, (eq_false hs1), (eq_false hs3), (eq_false hs5), (eq_false hs6), (eq_false hs7), (eq_false hs8), (eq_true hs9), bI_1, bI_00, not_true_eq_false, not_false_eq_true, and_true, true_and, and_false, false_and, or_true, true_or, or_false, false_or, and_self, or_self, if_true, if_false, Bool.false_eq_true, reduceIte]; first | done | rfl | (simp_all; done)) (dk kX5_count_0_ok 46 rfl)
  rcases Classical.em (y = nI 7) with hs10 | hs10
  · skip
    refine sw_in (off := 170) (tgt := 171) 7 hx hb (dk kX5_count_0_ok 1 rfl) hs10 rfl rfl rfl (by decide) ?_
    refine lv_aload_n hx hb (dk kX5_count_0_ok 47 rfl) rfl (lv_at hl 0 rfl) ?_
    refine gf hx hb hts (fun w h => List.mem_cons_of_mem _ (acX5 w h)) hown hK hP hz0 hC rfl 0 (by decide) (hts _ (List.mem_cons_of_mem _ (ac7 _ (List.mem_of_getElem? (i := 21) rfl)))) (fun _ h => h) rfl (dk kX5_count_0_ok 48 rfl) ?_
    refine cvR (As := []) (rest := []) ⟨hx, hb, hml, hown, hts⟩ (tX4_allFlights l D cI cQ cL ad N F 1 (by omega) c b v g h j t u z hN) (cwV9 0 hts mcX4_allFlights (ac13 _ (List.mem_of_getElem? (i := 19) rfl)) miX4_allFlights meX4_allFlights mini_RX4 rfl rfl hdX4_allFlights ⟨Nat.le_of_ble_eq_true rfl, Nat.le_of_ble_eq_true rfl⟩) hK hP hNW hz1 hN.1 rfl rfl hl.1 rfl (Nat.le_of_ble_eq_true rfl) (by decide) (dk kX5_count_0_ok 49 rfl) ?_
    exact hret _ _ _ (by simp (config := { decide := true }) only [cCnt, (eq_false hs1), (eq_false hs3), (eq_false hs5), (eq_false hs6), (eq_false hs7), (eq_false hs8), (eq_false hs9), (eq_true hs10), bI_1, bI_00, not_true_eq_false, not_false_eq_true, and_true, true_and, and_false, false_and, or_true, true_or, or_false, false_or, and_self, or_self, if_true, if_false, Bool.false_eq_true, reduceIte]; first | done | rfl | (simp_all; done)) (dk kX5_count_0_ok 50 rfl)
  rcases Classical.em (y = nI 8) with hs11 | hs11
  · skip
    refine sw_in (off := 178) (tgt := 179) 8 hx hb (dk kX5_count_0_ok 1 rfl) hs11 rfl rfl rfl (by decide) ?_
    refine lv_aload_n hx hb (dk kX5_count_0_ok 51 rfl) rfl (lv_at hl 0 rfl) ?_
    refine gf hx hb hts (fun w h => List.mem_cons_of_mem _ (acX5 w h)) hown hK hP hz0 hC rfl 0 (by decide) (hts _ (List.mem_cons_of_mem _ (ac7 _ (List.mem_of_getElem? (i := 21) rfl)))) (fun _ h => h) rfl (dk kX5_count_0_ok 52 rfl) ?_
    refine gfN hx hb hts (fun w h => List.mem_cons_of_mem _ (acX4 w h)) hown hK hP hz1 hN.1 rfl 5 (by decide) (nf7 hNW) (fun _ h => h) rfl (dk kX5_count_0_ok 53 rfl) ?_
    exact hret _ _ _ (by simp (config := { decide := true }) only [cCnt, (eq_false hs1), (eq_false hs3), (eq_false hs5), (eq_false hs6), (eq_false hs7), (eq_false hs8), (eq_false hs9), (eq_false hs10), (eq_true hs11), bI_1, bI_00, not_true_eq_false, not_false_eq_true, and_true, true_and, and_false, false_and, or_true, true_or, or_false, false_or, and_self, or_self, if_true, if_false, Bool.false_eq_true, reduceIte]; first | done | rfl | (simp_all; done)) (dk kX5_count_0_ok 54 rfl)
  rcases Classical.em (y = nI 9) with hs12 | hs12
  · skip
    refine sw_in (off := 186) (tgt := 187) 9 hx hb (dk kX5_count_0_ok 1 rfl) hs12 rfl rfl rfl (by decide) ?_
    refine lv_aload_n hx hb (dk kX5_count_0_ok 55 rfl) rfl (lv_at hl 0 rfl) ?_
    refine gf hx hb hts (fun w h => List.mem_cons_of_mem _ (acX5 w h)) hown hK hP hz0 hC rfl 0 (by decide) (hts _ (List.mem_cons_of_mem _ (ac7 _ (List.mem_of_getElem? (i := 21) rfl)))) (fun _ h => h) rfl (dk kX5_count_0_ok 56 rfl) ?_
    refine cvR (As := []) (rest := []) ⟨hx, hb, hml, hown, hts⟩ (tX4_allFouls l D cI cQ cL ad N F 1 (by omega) c b v g h j t u z hN) (cwV9 0 hts mcX4_allFouls (ac13 _ (List.mem_of_getElem? (i := 23) rfl)) miX4_allFouls meX4_allFouls mini_RX4 rfl rfl hdX4_allFouls ⟨Nat.le_of_ble_eq_true rfl, Nat.le_of_ble_eq_true rfl⟩) hK hP hNW hz1 hN.1 rfl rfl hl.1 rfl (Nat.le_of_ble_eq_true rfl) (by decide) (dk kX5_count_0_ok 57 rfl) ?_
    exact hret _ _ _ (by simp (config := { decide := true }) only [cCnt, (eq_false hs1), (eq_false hs3), (eq_false hs5), (eq_false hs6), (eq_false hs7), (eq_false hs8), (eq_false hs9), (eq_false hs10), (eq_false hs11), (eq_true hs12), bI_1, bI_00, not_true_eq_false, not_false_eq_true, and_true, true_and, and_false, false_and, or_true, true_or, or_false, false_or, and_self, or_self, if_true, if_false, Bool.false_eq_true, reduceIte]; first | done | rfl | (simp_all; done)) (dk kX5_count_0_ok 58 rfl)
  rcases Classical.em (y = nI 10) with hs13 | hs13
  · skip
    refine sw_in (off := 194) (tgt := 195) 10 hx hb (dk kX5_count_0_ok 1 rfl) hs13 rfl rfl rfl (by decide) ?_
    refine lv_aload_n hx hb (dk kX5_count_0_ok 59 rfl) rfl (lv_at hl 0 rfl) ?_
    refine gf hx hb hts (fun w h => List.mem_cons_of_mem _ (acX5 w h)) hown hK hP hz0 hC rfl 0 (by decide) (hts _ (List.mem_cons_of_mem _ (ac7 _ (List.mem_of_getElem? (i := 21) rfl)))) (fun _ h => h) rfl (dk kX5_count_1_ok 0 rfl) ?_
    refine gfN hx hb hts (fun w h => List.mem_cons_of_mem _ (acX4 w h)) hown hK hP hz1 hN.1 rfl 0 (by decide) (nf2 hNW) (fun _ h => h) rfl (dk kX5_count_1_ok 1 rfl) ?_
    refine lv_iconst (v := nI 0) hx hb (dk kX5_count_1_ok 2 rfl) rfl ?_
    refine cvR (As := [.int (nI 0)]) (rest := []) ⟨hx, hb, hml, hown, hts⟩ (tX1_pointsOfTeam l D cI cQ cL ad N F (1 + 1) (by omega) c b v hN.2.1 (nI 0) 0 rfl (by omega)) (cwV9 1 hts mcX1_pointsOfTeam (ac14 _ (List.mem_of_getElem? (i := 3) rfl)) miX1_pointsOfTeam meX1_pointsOfTeam mini_RX1 rfl rfl hdX1_pointsOfTeam ⟨Nat.le_of_ble_eq_true rfl, Nat.le_of_ble_eq_true rfl⟩) hK hP hNW hz1___1 hN.2.1.1 rfl rfl hl.1 rfl (Nat.le_of_ble_eq_true rfl) (by decide) (dk kX5_count_1_ok 3 rfl) ?_
    exact hret _ _ _ (by simp (config := { decide := true }) only [cCnt, (eq_false hs1), (eq_false hs3), (eq_false hs5), (eq_false hs6), (eq_false hs7), (eq_false hs8), (eq_false hs9), (eq_false hs10), (eq_false hs11), (eq_false hs12), (eq_true hs13), bI_1, bI_00, not_true_eq_false, not_false_eq_true, and_true, true_and, and_false, false_and, or_true, true_or, or_false, false_or, and_self, or_self, if_true, if_false, Bool.false_eq_true, reduceIte]; first | done | rfl | (simp_all; done)) (dk kX5_count_1_ok 4 rfl)
  rcases Classical.em (y = nI 11) with hs14 | hs14
  · skip
    refine sw_in (off := 206) (tgt := 207) 11 hx hb (dk kX5_count_0_ok 1 rfl) hs14 rfl rfl rfl (by decide) ?_
    refine lv_aload_n hx hb (dk kX5_count_1_ok 5 rfl) rfl (lv_at hl 0 rfl) ?_
    refine gf hx hb hts (fun w h => List.mem_cons_of_mem _ (acX5 w h)) hown hK hP hz0 hC rfl 0 (by decide) (hts _ (List.mem_cons_of_mem _ (ac7 _ (List.mem_of_getElem? (i := 21) rfl)))) (fun _ h => h) rfl (dk kX5_count_1_ok 6 rfl) ?_
    refine gfN hx hb hts (fun w h => List.mem_cons_of_mem _ (acX4 w h)) hown hK hP hz1 hN.1 rfl 0 (by decide) (nf2 hNW) (fun _ h => h) rfl (dk kX5_count_1_ok 7 rfl) ?_
    refine lv_iconst (v := nI 1) hx hb (dk kX5_count_1_ok 8 rfl) rfl ?_
    refine cvR (As := [.int (nI 1)]) (rest := []) ⟨hx, hb, hml, hown, hts⟩ (tX1_pointsOfTeam l D cI cQ cL ad N F (1 + 1) (by omega) c b v hN.2.1 (nI 1) 1 rfl (by omega)) (cwV9 1 hts mcX1_pointsOfTeam (ac14 _ (List.mem_of_getElem? (i := 3) rfl)) miX1_pointsOfTeam meX1_pointsOfTeam mini_RX1 rfl rfl hdX1_pointsOfTeam ⟨Nat.le_of_ble_eq_true rfl, Nat.le_of_ble_eq_true rfl⟩) hK hP hNW hz1___1 hN.2.1.1 rfl rfl hl.1 rfl (Nat.le_of_ble_eq_true rfl) (by decide) (dk kX5_count_1_ok 9 rfl) ?_
    exact hret _ _ _ (by simp (config := { decide := true }) only [cCnt, (eq_false hs1), (eq_false hs3), (eq_false hs5), (eq_false hs6), (eq_false hs7), (eq_false hs8), (eq_false hs9), (eq_false hs10), (eq_false hs11), (eq_false hs12), (eq_false hs13), (eq_true hs14), bI_1, bI_00, not_true_eq_false, not_false_eq_true, and_true, true_and, and_false, false_and, or_true, true_or, or_false, false_or, and_self, or_self, if_true, if_false, Bool.false_eq_true, reduceIte]; first | done | rfl | (simp_all; done)) (dk kX5_count_1_ok 10 rfl)
  rcases Classical.em (y = nI 12) with hs15 | hs15
  · skip
    refine sw_in (off := 218) (tgt := 219) 12 hx hb (dk kX5_count_0_ok 1 rfl) hs15 rfl rfl rfl (by decide) ?_
    refine lv_aload_n hx hb (dk kX5_count_1_ok 11 rfl) rfl (lv_at hl 0 rfl) ?_
    refine gf hx hb hts (fun w h => List.mem_cons_of_mem _ (acX5 w h)) hown hK hP hz0 hC rfl 0 (by decide) (hts _ (List.mem_cons_of_mem _ (ac7 _ (List.mem_of_getElem? (i := 21) rfl)))) (fun _ h => h) rfl (dk kX5_count_1_ok 12 rfl) ?_
    refine gfN hx hb hts (fun w h => List.mem_cons_of_mem _ (acX4 w h)) hown hK hP hz1 hN.1 rfl 6 (by decide) (nf8 hNW) (fun _ h => h) rfl (dk kX5_count_1_ok 13 rfl) ?_
    exact hret _ _ _ (by simp (config := { decide := true }) only [cCnt, (eq_false hs1), (eq_false hs3), (eq_false hs5), (eq_false hs6), (eq_false hs7), (eq_false hs8), (eq_false hs9), (eq_false hs10), (eq_false hs11), (eq_false hs12), (eq_false hs13), (eq_false hs14), (eq_true hs15), bI_1, bI_00, not_true_eq_false, not_false_eq_true, and_true, true_and, and_false, false_and, or_true, true_or, or_false, false_or, and_self, or_self, if_true, if_false, Bool.false_eq_true, reduceIte]; first | done | rfl | (simp_all; done)) (dk kX5_count_1_ok 14 rfl)
  rcases Classical.em (y = nI 13) with hs16 | hs16
  · skip
    refine sw_in (off := 226) (tgt := 227) 13 hx hb (dk kX5_count_0_ok 1 rfl) hs16 rfl rfl rfl (by decide) ?_
    refine lv_aload_n hx hb (dk kX5_count_1_ok 15 rfl) rfl (lv_at hl 0 rfl) ?_
    refine gf hx hb hts (fun w h => List.mem_cons_of_mem _ (acX5 w h)) hown hK hP hz0 hC rfl 2 (by decide) (hts _ (List.mem_cons_of_mem _ (ac8 _ (List.mem_of_getElem? (i := 2) rfl)))) (fun _ h => h) rfl (dk kX5_count_1_ok 16 rfl) ?_
    refine gfN hx hb hts (fun w h => List.mem_cons_of_mem _ (acX2 w h)) hown hK hP hz17 hPa.1 rfl 2 (by decide) (nf9 hNW) (fun _ h => h) rfl (dk kX5_count_1_ok 17 rfl) ?_
    exact hret _ _ _ (by simp (config := { decide := true }) only [cCnt, (eq_false hs1), (eq_false hs3), (eq_false hs5), (eq_false hs6), (eq_false hs7), (eq_false hs8), (eq_false hs9), (eq_false hs10), (eq_false hs11), (eq_false hs12), (eq_false hs13), (eq_false hs14), (eq_false hs15), (eq_true hs16), bI_1, bI_00, not_true_eq_false, not_false_eq_true, and_true, true_and, and_false, false_and, or_true, true_or, or_false, false_or, and_self, or_self, if_true, if_false, Bool.false_eq_true, reduceIte]; first | done | rfl | (simp_all; done)) (dk kX5_count_1_ok 18 rfl)
  refine lv_tableOut (tgt := 235) hx hb (dk kX5_count_0_ok 1 rfl) (sw_out 14 (by intro k9 hk9; rcases k9 with _ | _ | _ | _ | _ | _ | _ | _ | _ | _ | _ | _ | _ | _ | _ <;> first | assumption | omega)) (by decide) ?_
  exact (btw_all (m := 13) (by decide) hy9 (fun j9 hj9 e9 => by rcases (show j9 = 0 ∨ j9 = 1 ∨ j9 = 2 ∨ j9 = 3 ∨ j9 = 4 ∨ j9 = 5 ∨ j9 = 6 ∨ j9 = 7 ∨ j9 = 8 ∨ j9 = 9 ∨ j9 = 10 ∨ j9 = 11 ∨ j9 = 12 ∨ j9 = 13 by omega) with rfl | rfl | rfl | rfl | rfl | rfl | rfl | rfl | rfl | rfl | rfl | rfl | rfl | rfl <;> contradiction)).elim
set_option maxRecDepth 100000 in
set_option maxHeartbeats 4000000 in
theorem tX5_count_b1 (l : Launch) (hst : l.stackTraces = false) (D : va_G) (cI cQ cL : ClassId) (ad : Nat → Nat) (N : Nat) (F : Nat → va_E) (hk : 76 < N) (c b v g h j : Nat → Int32) (t : Nat) (u z : Int32) (hN : stAt cI ad F 1 c b v g h j (nI t) u z) (c8 b8 v8 g8 h8 j8 : Nat → Int32) (t8 : Nat) (u8 z8 : Int32) (hSn : stAt cI ad F 9 c8 b8 v8 g8 h8 j8 (nI t8) u8 z8) (n9 m9 : Nat) (hn9 : n9 < 6) (hm9 : m9 ≤ 6) (hPa : paAt cQ ad F 17 n9 m9) (a : Nat → Int32) (n : Nat) (hn60 : n ≤ 60) (hT : gtAt cI ad F 67 a n) (c6 b6 v6 : Nat → Int32) (hM6 : matAt cI ad F 69 c6 b6 v6) (a7 d7 q7 : Nat → Int32) (hO : roAt cI ad F 73 a7 d7 q7) (hs : Bool) (hC : F 0 = .inr (5, [.ref (ad 1), .ref (ad 9), .ref (ad 17), .ref (ad 67), .ref (ad 69), .ref (ad 73), .int (bI hs)])) (y : Int32) (hy9 : btw y (nI 0) (nI 13) = false) : MT l yX5_count (Cond.code yX5_count cX5_count 2 (some .int) :: AW) ({ frames := 6, cells := 1, slots := 6, locals := 82 } : Room) D cI cQ cL ad N F [.ref (ad 0), .int y] eA 1 6 := by
  refine mt_of (ret := (some .int)) hst (by decide +kernel) rfl (Nat.le_of_ble_eq_true rfl) (fun p e s m below meth cd Q ls hx hb hml hown hts hDi hP hK hNW hS hX hthr hthrW hout hl => ?_)
  have hown : s.vm.findClass RX5 = some m.cls := hown
  have hz0 : 0 < N := by omega
  have hz1 : 1 < N := by omega
  have hz1___1 : 1 + 1 < N := by omega
  have hz1___1___1 : 1 + 1 + 1 < N := by omega
  have hz1___1___2 : 1 + 1 + 2 < N := by omega
  have hz1___1___3 : 1 + 1 + 3 < N := by omega
  have hz1___5 : 1 + 5 < N := by omega
  have hz1___6 : 1 + 6 < N := by omega
  have hz1___7 : 1 + 7 < N := by omega
  have hz9 : 9 < N := by omega
  have hz17 : 17 < N := by omega
  have hz17___1 : 17 + 1 < N := by omega
  have hz67 : 67 < N := by omega
  have hz67___1 : 67 + 1 < N := by omega
  have hz69 : 69 < N := by omega
  have hz69___1 : 69 + 1 < N := by omega
  have hz69___2 : 69 + 2 < N := by omega
  have hz69___3 : 69 + 3 < N := by omega
  have hz73 : 73 < N := by omega
  have hz1___1___3 : 1 + 1 + 3 < N := by omega
  have hz69___3 : 69 + 3 < N := by omega
  have hl : lv_has ls 2 [(0, .ref (ad 0)), (1, .int y)] := hl
  refine lv_iload_n hx hb (dk kX5_count_0_ok 0 rfl) rfl (lv_at hl 1 rfl) ?_
  rcases Classical.em (y = nI 0) with hs1 | hs1
  · exact (btw_ne hy9 (j := 0) (by decide) (by decide) hs1).elim
  rcases Classical.em (y = nI 1) with hs2 | hs2
  · exact (btw_ne hy9 (j := 1) (by decide) (by decide) hs2).elim
  rcases Classical.em (y = nI 2) with hs3 | hs3
  · exact (btw_ne hy9 (j := 2) (by decide) (by decide) hs3).elim
  rcases Classical.em (y = nI 3) with hs4 | hs4
  · exact (btw_ne hy9 (j := 3) (by decide) (by decide) hs4).elim
  rcases Classical.em (y = nI 4) with hs5 | hs5
  · exact (btw_ne hy9 (j := 4) (by decide) (by decide) hs5).elim
  rcases Classical.em (y = nI 5) with hs6 | hs6
  · exact (btw_ne hy9 (j := 5) (by decide) (by decide) hs6).elim
  rcases Classical.em (y = nI 6) with hs7 | hs7
  · exact (btw_ne hy9 (j := 6) (by decide) (by decide) hs7).elim
  rcases Classical.em (y = nI 7) with hs8 | hs8
  · exact (btw_ne hy9 (j := 7) (by decide) (by decide) hs8).elim
  rcases Classical.em (y = nI 8) with hs9 | hs9
  · exact (btw_ne hy9 (j := 8) (by decide) (by decide) hs9).elim
  rcases Classical.em (y = nI 9) with hs10 | hs10
  · exact (btw_ne hy9 (j := 9) (by decide) (by decide) hs10).elim
  rcases Classical.em (y = nI 10) with hs11 | hs11
  · exact (btw_ne hy9 (j := 10) (by decide) (by decide) hs11).elim
  rcases Classical.em (y = nI 11) with hs12 | hs12
  · exact (btw_ne hy9 (j := 11) (by decide) (by decide) hs12).elim
  rcases Classical.em (y = nI 12) with hs13 | hs13
  · exact (btw_ne hy9 (j := 12) (by decide) (by decide) hs13).elim
  rcases Classical.em (y = nI 13) with hs14 | hs14
  · exact (btw_ne hy9 (j := 13) (by decide) (by decide) hs14).elim
  refine lv_tableOut (tgt := 235) hx hb (dk kX5_count_0_ok 1 rfl) (sw_out 14 (by intro k9 hk9; rcases k9 with _ | _ | _ | _ | _ | _ | _ | _ | _ | _ | _ | _ | _ | _ | _ <;> first | assumption | omega)) (by decide) ?_
  exact hthr 104 108 246 235 "what is 0 to 13" ls [] _ _ 0 0 (by decide) (by decide) hP hS hl.1 (dk kX5_count_1_ok 19 rfl) (dk kX5_count_1_ok 20 rfl) (dk kX5_count_1_ok 21 rfl) (dk kX5_count_1_ok 22 rfl) (dk kX5_count_1_ok 23 rfl) (by decide) (by decide) (by decide) (by decide) (by decide) (by decide)
set_option maxRecDepth 100000 in
set_option maxHeartbeats 4000000 in
theorem tX5_why (l : Launch) (D : va_G) (cI cQ cL : ClassId) (ad : Nat → Nat) (N : Nat) (F : Nat → va_E) (hk : 76 < N) (c b v g h j : Nat → Int32) (t : Nat) (u z : Int32) (hN : stAt cI ad F 1 c b v g h j (nI t) u z) (c8 b8 v8 g8 h8 j8 : Nat → Int32) (t8 : Nat) (u8 z8 : Int32) (hSn : stAt cI ad F 9 c8 b8 v8 g8 h8 j8 (nI t8) u8 z8) (n9 m9 : Nat) (hn9 : n9 < 6) (hm9 : m9 ≤ 6) (hPa : paAt cQ ad F 17 n9 m9) (a : Nat → Int32) (n : Nat) (hn60 : n ≤ 60) (hT : gtAt cI ad F 67 a n) (c6 b6 v6 : Nat → Int32) (hM6 : matAt cI ad F 69 c6 b6 v6) (a7 d7 q7 : Nat → Int32) (hO : roAt cI ad F 73 a7 d7 q7) (hs : Bool) (hC : F 0 = .inr (5, [.ref (ad 1), .ref (ad 9), .ref (ad 17), .ref (ad 67), .ref (ad 69), .ref (ad 73), .int (bI hs)])) (x y k9 : Int32) (f : Nat) (hkf : k9 = nI f) (hf : 1 ≤ f ∧ f ≤ 6) (d : Int32) (hd9 : btw d (nI 0) (nI 7) = true) (hon : on x y = true) : MR l yX5_why (Cond.code yX5_why cX5_why 5 (some .int) :: AW) ({ frames := 8, cells := 0, slots := 0, locals := 123 } : Room) D cI cQ cL ad N F [.ref (ad 0), .int x, .int y, .int k9, .int d] (.int (nI (wnl c b v t z x y f d))) := by
  refine mr_i (ty := .int) (by decide +kernel) rfl rfl rfl rfl (Nat.le_of_ble_eq_true rfl) (fun p e s m below meth cd Q ls hx hb hml hown hts hP hK hNW hret hl => ?_)
  have hown : s.vm.findClass RX5 = some m.cls := hown
  subst hkf
  have hz0 : 0 < N := by omega
  have hz1 : 1 < N := by omega
  have hz1___1 : 1 + 1 < N := by omega
  have hz1___1___1 : 1 + 1 + 1 < N := by omega
  have hz1___1___2 : 1 + 1 + 2 < N := by omega
  have hz1___1___3 : 1 + 1 + 3 < N := by omega
  have hz1___5 : 1 + 5 < N := by omega
  have hz1___6 : 1 + 6 < N := by omega
  have hz1___7 : 1 + 7 < N := by omega
  have hz9 : 9 < N := by omega
  have hz17 : 17 < N := by omega
  have hz17___1 : 17 + 1 < N := by omega
  have hz67 : 67 < N := by omega
  have hz67___1 : 67 + 1 < N := by omega
  have hz69 : 69 < N := by omega
  have hz69___1 : 69 + 1 < N := by omega
  have hz69___2 : 69 + 2 < N := by omega
  have hz69___3 : 69 + 3 < N := by omega
  have hz73 : 73 < N := by omega
  have hz1___1___3 : 1 + 1 + 3 < N := by omega
  have hz69___3 : 69 + 3 < N := by omega
  have hl : lv_has ls 5 [(0, .ref (ad 0)), (1, .int x), (2, .int y), (3, .int (nI f)), (4, .int d)] := hl
  refine lv_iload_n hx hb (dk kX5_why_ok 0 rfl) rfl (lv_at hl 1 rfl) ?_
  refine lv_iload_n hx hb (dk kX5_why_ok 1 rfl) rfl (lv_at hl 2 rfl) ?_
  refine csPv (As := [.int x, .int y]) (rest := []) ⟨hx, hb, hml, hown, hts⟩ (tX5_requireCell_ok l x y hon) (cwS9 2 hts mcX5_requireCell (ac10 _ (List.mem_of_getElem? (i := 0) rfl)) msX5_requireCell mini_RX5 rfl rfl hdX5_requireCell ⟨Nat.le_of_ble_eq_true rfl, Nat.le_of_ble_eq_true rfl⟩) rfl hl.1 rfl (Nat.le_of_ble_eq_true rfl) (by decide) (dk kX5_why_ok 2 rfl) ?_
  refine lv_iload_n hx hb (dk kX5_why_ok 3 rfl) rfl (lv_at hl 3 rfl) ?_
  refine lv_iload hx hb (dk kX5_why_ok 4 rfl) (lv_at hl 4 rfl) ?_
  refine csPv (As := [.int (nI f), .int d]) (rest := []) ⟨hx, hb, hml, hown, hts⟩ (tX5_requireLift_ok l (nI f) d (btw_nI hf) hd9) (cwS9 2 hts mcX5_requireLift (ac10 _ (List.mem_of_getElem? (i := 3) rfl)) msX5_requireLift mini_RX5 rfl rfl hdX5_requireLift ⟨Nat.le_of_ble_eq_true rfl, Nat.le_of_ble_eq_true rfl⟩) rfl hl.1 rfl (Nat.le_of_ble_eq_true rfl) (by decide) (dk kX5_why_ok 5 rfl) ?_
  refine lv_aload_n hx hb (dk kX5_why_ok 6 rfl) rfl (lv_at hl 0 rfl) ?_
  refine gf hx hb hts (fun w h => List.mem_cons_of_mem _ (acX5 w h)) hown hK hP hz0 hC rfl 0 (by decide) (hts _ (List.mem_cons_of_mem _ (ac7 _ (List.mem_of_getElem? (i := 21) rfl)))) (fun _ h => h) rfl (dk kX5_why_ok 7 rfl) ?_
  refine lv_iload_n hx hb (dk kX5_why_ok 8 rfl) rfl (lv_at hl 1 rfl) ?_
  refine lv_iload_n hx hb (dk kX5_why_ok 9 rfl) rfl (lv_at hl 2 rfl) ?_
  refine lv_iload_n hx hb (dk kX5_why_ok 10 rfl) rfl (lv_at hl 3 rfl) ?_
  refine lv_iload hx hb (dk kX5_why_ok 11 rfl) (lv_at hl 4 rfl) ?_
  refine cvR (As := [.int x, .int y, .int (nI f), .int d]) (rest := []) ⟨hx, hb, hml, hown, hts⟩ (tX4_whyNotLifted l D cI cQ cL ad N F 1 (by omega) c b v g h j t u z hN x y (nI f) f rfl (by omega) (by omega) d) (cwV9 4 hts mcX4_whyNotLifted (ac10 _ (List.mem_of_getElem? (i := 6) rfl)) miX4_whyNotLifted meX4_whyNotLifted mini_RX4 rfl rfl hdX4_whyNotLifted ⟨Nat.le_of_ble_eq_true rfl, Nat.le_of_ble_eq_true rfl⟩) hK hP hNW hz1 hN.1 rfl rfl hl.1 rfl (Nat.le_of_ble_eq_true rfl) (by decide) (dk kX5_why_ok 12 rfl) ?_
  exact hret _ _ _ (by rfl) (dk kX5_why_ok 13 rfl)
set_option maxRecDepth 100000 in
set_option maxHeartbeats 4000000 in
theorem tX5_why_b1 (l : Launch) (hst : l.stackTraces = false) (D : va_G) (cI cQ cL : ClassId) (ad : Nat → Nat) (N : Nat) (F : Nat → va_E) (hk : 76 < N) (c b v g h j : Nat → Int32) (t : Nat) (u z : Int32) (hN : stAt cI ad F 1 c b v g h j (nI t) u z) (c8 b8 v8 g8 h8 j8 : Nat → Int32) (t8 : Nat) (u8 z8 : Int32) (hSn : stAt cI ad F 9 c8 b8 v8 g8 h8 j8 (nI t8) u8 z8) (n9 m9 : Nat) (hn9 : n9 < 6) (hm9 : m9 ≤ 6) (hPa : paAt cQ ad F 17 n9 m9) (a : Nat → Int32) (n : Nat) (hn60 : n ≤ 60) (hT : gtAt cI ad F 67 a n) (c6 b6 v6 : Nat → Int32) (hM6 : matAt cI ad F 69 c6 b6 v6) (a7 d7 q7 : Nat → Int32) (hO : roAt cI ad F 73 a7 d7 q7) (hs : Bool) (hC : F 0 = .inr (5, [.ref (ad 1), .ref (ad 9), .ref (ad 17), .ref (ad 67), .ref (ad 69), .ref (ad 73), .int (bI hs)])) (x y k9 d : Int32) (hon : on x y = false) : MT l yX5_why (Cond.code yX5_why cX5_why 5 (some .int) :: AW) ({ frames := 7, cells := 1, slots := 6, locals := 103 } : Room) D cI cQ cL ad N F [.ref (ad 0), .int x, .int y, .int k9, .int d] eI 1 6 := by
  refine mt_of (ret := (some .int)) hst (by decide +kernel) rfl (Nat.le_of_ble_eq_true rfl) (fun p e s m below meth cd Q ls hx hb hml hown hts hDi hP hK hNW hS hX hthr hthrW hout hl => ?_)
  have hown : s.vm.findClass RX5 = some m.cls := hown
  have hz0 : 0 < N := by omega
  have hz1 : 1 < N := by omega
  have hz1___1 : 1 + 1 < N := by omega
  have hz1___1___1 : 1 + 1 + 1 < N := by omega
  have hz1___1___2 : 1 + 1 + 2 < N := by omega
  have hz1___1___3 : 1 + 1 + 3 < N := by omega
  have hz1___5 : 1 + 5 < N := by omega
  have hz1___6 : 1 + 6 < N := by omega
  have hz1___7 : 1 + 7 < N := by omega
  have hz9 : 9 < N := by omega
  have hz17 : 17 < N := by omega
  have hz17___1 : 17 + 1 < N := by omega
  have hz67 : 67 < N := by omega
  have hz67___1 : 67 + 1 < N := by omega
  have hz69 : 69 < N := by omega
  have hz69___1 : 69 + 1 < N := by omega
  have hz69___2 : 69 + 2 < N := by omega
  have hz69___3 : 69 + 3 < N := by omega
  have hz73 : 73 < N := by omega
  have hz1___1___3 : 1 + 1 + 3 < N := by omega
  have hz69___3 : 69 + 3 < N := by omega
  have hl : lv_has ls 5 [(0, .ref (ad 0)), (1, .int x), (2, .int y), (3, .int k9), (4, .int d)] := hl
  refine lv_iload_n hx hb (dk kX5_why_ok 0 rfl) rfl (lv_at hl 1 rfl) ?_
  refine lv_iload_n hx hb (dk kX5_why_ok 1 rfl) rfl (lv_at hl 2 rfl) ?_
  exact csT (As := [.int x, .int y]) (rest := []) ⟨hx, hb, hml, hown, hts⟩ (tX5_requireCell_b1 l hst D cI cQ cL ad N F x y hon) (cwS9 2 hts mcX5_requireCell (ac10 _ (List.mem_of_getElem? (i := 0) rfl)) msX5_requireCell mini_RX5 rfl rfl hdX5_requireCell ⟨Nat.le_of_ble_eq_true rfl, Nat.le_of_ble_eq_true rfl⟩) hDi hK hP hNW hS hX rfl hl.1 rfl (Nat.le_of_ble_eq_true rfl) (by decide) (dk kX5_why_ok 2 rfl) (fun H locs q ce hP hS h1 h2 h3 => hout _ _ _ H locs q ce _ _ hP hS h1 h2 h3 (by decide) (by decide))
set_option maxRecDepth 100000 in
set_option maxHeartbeats 4000000 in
theorem tX5_why_b2 (l : Launch) (hst : l.stackTraces = false) (D : va_G) (cI cQ cL : ClassId) (ad : Nat → Nat) (N : Nat) (F : Nat → va_E) (hk : 76 < N) (c b v g h j : Nat → Int32) (t : Nat) (u z : Int32) (hN : stAt cI ad F 1 c b v g h j (nI t) u z) (c8 b8 v8 g8 h8 j8 : Nat → Int32) (t8 : Nat) (u8 z8 : Int32) (hSn : stAt cI ad F 9 c8 b8 v8 g8 h8 j8 (nI t8) u8 z8) (n9 m9 : Nat) (hn9 : n9 < 6) (hm9 : m9 ≤ 6) (hPa : paAt cQ ad F 17 n9 m9) (a : Nat → Int32) (n : Nat) (hn60 : n ≤ 60) (hT : gtAt cI ad F 67 a n) (c6 b6 v6 : Nat → Int32) (hM6 : matAt cI ad F 69 c6 b6 v6) (a7 d7 q7 : Nat → Int32) (hO : roAt cI ad F 73 a7 d7 q7) (hs : Bool) (hC : F 0 = .inr (5, [.ref (ad 1), .ref (ad 9), .ref (ad 17), .ref (ad 67), .ref (ad 69), .ref (ad 73), .int (bI hs)])) (x y k9 d : Int32) (hon : on x y = true) (hl9 : btw k9 (nI 1) (nI 6) = false) : MT l yX5_why (Cond.code yX5_why cX5_why 5 (some .int) :: AW) ({ frames := 7, cells := 1, slots := 6, locals := 103 } : Room) D cI cQ cL ad N F [.ref (ad 0), .int x, .int y, .int k9, .int d] eA 1 6 := by
  refine mt_of (ret := (some .int)) hst (by decide +kernel) rfl (Nat.le_of_ble_eq_true rfl) (fun p e s m below meth cd Q ls hx hb hml hown hts hDi hP hK hNW hS hX hthr hthrW hout hl => ?_)
  have hown : s.vm.findClass RX5 = some m.cls := hown
  have hz0 : 0 < N := by omega
  have hz1 : 1 < N := by omega
  have hz1___1 : 1 + 1 < N := by omega
  have hz1___1___1 : 1 + 1 + 1 < N := by omega
  have hz1___1___2 : 1 + 1 + 2 < N := by omega
  have hz1___1___3 : 1 + 1 + 3 < N := by omega
  have hz1___5 : 1 + 5 < N := by omega
  have hz1___6 : 1 + 6 < N := by omega
  have hz1___7 : 1 + 7 < N := by omega
  have hz9 : 9 < N := by omega
  have hz17 : 17 < N := by omega
  have hz17___1 : 17 + 1 < N := by omega
  have hz67 : 67 < N := by omega
  have hz67___1 : 67 + 1 < N := by omega
  have hz69 : 69 < N := by omega
  have hz69___1 : 69 + 1 < N := by omega
  have hz69___2 : 69 + 2 < N := by omega
  have hz69___3 : 69 + 3 < N := by omega
  have hz73 : 73 < N := by omega
  have hz1___1___3 : 1 + 1 + 3 < N := by omega
  have hz69___3 : 69 + 3 < N := by omega
  have hl : lv_has ls 5 [(0, .ref (ad 0)), (1, .int x), (2, .int y), (3, .int k9), (4, .int d)] := hl
  refine lv_iload_n hx hb (dk kX5_why_ok 0 rfl) rfl (lv_at hl 1 rfl) ?_
  refine lv_iload_n hx hb (dk kX5_why_ok 1 rfl) rfl (lv_at hl 2 rfl) ?_
  refine csPv (As := [.int x, .int y]) (rest := []) ⟨hx, hb, hml, hown, hts⟩ (tX5_requireCell_ok l x y hon) (cwS9 2 hts mcX5_requireCell (ac10 _ (List.mem_of_getElem? (i := 0) rfl)) msX5_requireCell mini_RX5 rfl rfl hdX5_requireCell ⟨Nat.le_of_ble_eq_true rfl, Nat.le_of_ble_eq_true rfl⟩) rfl hl.1 rfl (Nat.le_of_ble_eq_true rfl) (by decide) (dk kX5_why_ok 2 rfl) ?_
  refine lv_iload_n hx hb (dk kX5_why_ok 3 rfl) rfl (lv_at hl 3 rfl) ?_
  refine lv_iload hx hb (dk kX5_why_ok 4 rfl) (lv_at hl 4 rfl) ?_
  exact csT (As := [.int k9, .int d]) (rest := []) ⟨hx, hb, hml, hown, hts⟩ (tX5_requireLift_b1 l hst D cI cQ cL ad N F k9 d hl9) (cwS9 2 hts mcX5_requireLift (ac10 _ (List.mem_of_getElem? (i := 3) rfl)) msX5_requireLift mini_RX5 rfl rfl hdX5_requireLift ⟨Nat.le_of_ble_eq_true rfl, Nat.le_of_ble_eq_true rfl⟩) hDi hK hP hNW hS hX rfl hl.1 rfl (Nat.le_of_ble_eq_true rfl) (by decide) (dk kX5_why_ok 5 rfl) (fun H locs q ce hP hS h1 h2 h3 => hout _ _ _ H locs q ce _ _ hP hS h1 h2 h3 (by decide) (by decide))
set_option maxRecDepth 100000 in
set_option maxHeartbeats 4000000 in
theorem tX5_why_b3 (l : Launch) (hst : l.stackTraces = false) (D : va_G) (cI cQ cL : ClassId) (ad : Nat → Nat) (N : Nat) (F : Nat → va_E) (hk : 76 < N) (c b v g h j : Nat → Int32) (t : Nat) (u z : Int32) (hN : stAt cI ad F 1 c b v g h j (nI t) u z) (c8 b8 v8 g8 h8 j8 : Nat → Int32) (t8 : Nat) (u8 z8 : Int32) (hSn : stAt cI ad F 9 c8 b8 v8 g8 h8 j8 (nI t8) u8 z8) (n9 m9 : Nat) (hn9 : n9 < 6) (hm9 : m9 ≤ 6) (hPa : paAt cQ ad F 17 n9 m9) (a : Nat → Int32) (n : Nat) (hn60 : n ≤ 60) (hT : gtAt cI ad F 67 a n) (c6 b6 v6 : Nat → Int32) (hM6 : matAt cI ad F 69 c6 b6 v6) (a7 d7 q7 : Nat → Int32) (hO : roAt cI ad F 73 a7 d7 q7) (hs : Bool) (hC : F 0 = .inr (5, [.ref (ad 1), .ref (ad 9), .ref (ad 17), .ref (ad 67), .ref (ad 69), .ref (ad 73), .int (bI hs)])) (x y k9 d : Int32) (hon : on x y = true) (hl9 : btw k9 (nI 1) (nI 6) = true) (hd9 : btw d (nI 0) (nI 7) = false) : MT l yX5_why (Cond.code yX5_why cX5_why 5 (some .int) :: AW) ({ frames := 8, cells := 1, slots := 6, locals := 123 } : Room) D cI cQ cL ad N F [.ref (ad 0), .int x, .int y, .int k9, .int d] eA 1 6 := by
  refine mt_of (ret := (some .int)) hst (by decide +kernel) rfl (Nat.le_of_ble_eq_true rfl) (fun p e s m below meth cd Q ls hx hb hml hown hts hDi hP hK hNW hS hX hthr hthrW hout hl => ?_)
  have hown : s.vm.findClass RX5 = some m.cls := hown
  have hz0 : 0 < N := by omega
  have hz1 : 1 < N := by omega
  have hz1___1 : 1 + 1 < N := by omega
  have hz1___1___1 : 1 + 1 + 1 < N := by omega
  have hz1___1___2 : 1 + 1 + 2 < N := by omega
  have hz1___1___3 : 1 + 1 + 3 < N := by omega
  have hz1___5 : 1 + 5 < N := by omega
  have hz1___6 : 1 + 6 < N := by omega
  have hz1___7 : 1 + 7 < N := by omega
  have hz9 : 9 < N := by omega
  have hz17 : 17 < N := by omega
  have hz17___1 : 17 + 1 < N := by omega
  have hz67 : 67 < N := by omega
  have hz67___1 : 67 + 1 < N := by omega
  have hz69 : 69 < N := by omega
  have hz69___1 : 69 + 1 < N := by omega
  have hz69___2 : 69 + 2 < N := by omega
  have hz69___3 : 69 + 3 < N := by omega
  have hz73 : 73 < N := by omega
  have hz1___1___3 : 1 + 1 + 3 < N := by omega
  have hz69___3 : 69 + 3 < N := by omega
  have hl : lv_has ls 5 [(0, .ref (ad 0)), (1, .int x), (2, .int y), (3, .int k9), (4, .int d)] := hl
  refine lv_iload_n hx hb (dk kX5_why_ok 0 rfl) rfl (lv_at hl 1 rfl) ?_
  refine lv_iload_n hx hb (dk kX5_why_ok 1 rfl) rfl (lv_at hl 2 rfl) ?_
  refine csPv (As := [.int x, .int y]) (rest := []) ⟨hx, hb, hml, hown, hts⟩ (tX5_requireCell_ok l x y hon) (cwS9 2 hts mcX5_requireCell (ac10 _ (List.mem_of_getElem? (i := 0) rfl)) msX5_requireCell mini_RX5 rfl rfl hdX5_requireCell ⟨Nat.le_of_ble_eq_true rfl, Nat.le_of_ble_eq_true rfl⟩) rfl hl.1 rfl (Nat.le_of_ble_eq_true rfl) (by decide) (dk kX5_why_ok 2 rfl) ?_
  refine lv_iload_n hx hb (dk kX5_why_ok 3 rfl) rfl (lv_at hl 3 rfl) ?_
  refine lv_iload hx hb (dk kX5_why_ok 4 rfl) (lv_at hl 4 rfl) ?_
  exact csT (As := [.int k9, .int d]) (rest := []) ⟨hx, hb, hml, hown, hts⟩ (tX5_requireLift_b2 l hst D cI cQ cL ad N F k9 d hl9 hd9) (cwS9 2 hts mcX5_requireLift (ac10 _ (List.mem_of_getElem? (i := 3) rfl)) msX5_requireLift mini_RX5 rfl rfl hdX5_requireLift ⟨Nat.le_of_ble_eq_true rfl, Nat.le_of_ble_eq_true rfl⟩) hDi hK hP hNW hS hX rfl hl.1 rfl (Nat.le_of_ble_eq_true rfl) (by decide) (dk kX5_why_ok 5 rfl) (fun H locs q ce hP hS h1 h2 h3 => hout _ _ _ H locs q ce _ _ hP hS h1 h2 h3 (by decide) (by decide))
set_option maxRecDepth 100000 in
set_option maxHeartbeats 4000000 in
theorem tX5_lands (l : Launch) (D : va_G) (cI cQ cL : ClassId) (ad : Nat → Nat) (N : Nat) (F : Nat → va_E) (hk : 76 < N) (c b v g h j : Nat → Int32) (t : Nat) (u z : Int32) (hN : stAt cI ad F 1 c b v g h j (nI t) u z) (c8 b8 v8 g8 h8 j8 : Nat → Int32) (t8 : Nat) (u8 z8 : Int32) (hSn : stAt cI ad F 9 c8 b8 v8 g8 h8 j8 (nI t8) u8 z8) (n9 m9 : Nat) (hn9 : n9 < 6) (hm9 : m9 ≤ 6) (hPa : paAt cQ ad F 17 n9 m9) (a : Nat → Int32) (n : Nat) (hn60 : n ≤ 60) (hT : gtAt cI ad F 67 a n) (c6 b6 v6 : Nat → Int32) (hM6 : matAt cI ad F 69 c6 b6 v6) (a7 d7 q7 : Nat → Int32) (hO : roAt cI ad F 73 a7 d7 q7) (hs : Bool) (hC : F 0 = .inr (5, [.ref (ad 1), .ref (ad 9), .ref (ad 17), .ref (ad 67), .ref (ad 69), .ref (ad 73), .int (bI hs)])) (x : Int32) (w : Nat) (hxw : x = nI w) (hw : w < 16) (d : Int32) (hd9 : btw d (nI 0) (nI 7) = true) (k9 : Int32) (f : Nat) (hkf : k9 = nI f) (hf : 1 ≤ f ∧ f ≤ 9) : MR l yX5_lands (Cond.code yX5_lands cX5_lands 4 (some .int) :: AW) ({ frames := 8, cells := 0, slots := 0, locals := 123 } : Room) D cI cQ cL ad N F [.ref (ad 0), .int x, .int d, .int k9] (.int (cLan c w d f)) := by
  refine mr_i (ty := .int) (by decide +kernel) rfl rfl rfl rfl (Nat.le_of_ble_eq_true rfl) (fun p e s m below meth cd Q ls hx hb hml hown hts hP hK hNW hret hl => ?_)
  have hown : s.vm.findClass RX5 = some m.cls := hown
  subst hxw
  subst hkf
  have hst : stp w f < 2 ^ 31 := by unfold stp; split <;> omega
  have hz0 : 0 < N := by omega
  have hz1 : 1 < N := by omega
  have hz1___1 : 1 + 1 < N := by omega
  have hz1___1___1 : 1 + 1 + 1 < N := by omega
  have hz1___1___2 : 1 + 1 + 2 < N := by omega
  have hz1___1___3 : 1 + 1 + 3 < N := by omega
  have hz1___5 : 1 + 5 < N := by omega
  have hz1___6 : 1 + 6 < N := by omega
  have hz1___7 : 1 + 7 < N := by omega
  have hz9 : 9 < N := by omega
  have hz17 : 17 < N := by omega
  have hz17___1 : 17 + 1 < N := by omega
  have hz67 : 67 < N := by omega
  have hz67___1 : 67 + 1 < N := by omega
  have hz69 : 69 < N := by omega
  have hz69___1 : 69 + 1 < N := by omega
  have hz69___2 : 69 + 2 < N := by omega
  have hz69___3 : 69 + 3 < N := by omega
  have hz73 : 73 < N := by omega
  have hz1___1___3 : 1 + 1 + 3 < N := by omega
  have hz69___3 : 69 + 3 < N := by omega
  have hl : lv_has ls 4 [(0, .ref (ad 0)), (1, .int (nI w)), (2, .int d), (3, .int (nI f))] := hl
  refine lv_iload_n hx hb (dk kX5_lands_ok 0 rfl) rfl (lv_at hl 1 rfl) ?_
  refine csPv (As := [.int (nI w)]) (rest := []) ⟨hx, hb, hml, hown, hts⟩ (tX5_requireWink_ok l (nI w) (wk_nI hw)) (cwS9 1 hts mcX5_requireWink (ac9 _ (List.mem_of_getElem? (i := 6) rfl)) msX5_requireWink mini_RX5 rfl rfl hdX5_requireWink ⟨Nat.le_of_ble_eq_true rfl, Nat.le_of_ble_eq_true rfl⟩) rfl hl.1 rfl (Nat.le_of_ble_eq_true rfl) (by decide) (dk kX5_lands_ok 1 rfl) ?_
  refine lv_iload_n hx hb (dk kX5_lands_ok 2 rfl) rfl (lv_at hl 2 rfl) ?_
  refine lv_iload_n hx hb (dk kX5_lands_ok 3 rfl) rfl (lv_at hl 3 rfl) ?_
  refine csPv (As := [.int d, .int (nI f)]) (rest := []) ⟨hx, hb, hml, hown, hts⟩ (tX5_requireFlight_ok l d (nI f) hd9 (btw_nI hf)) (cwS9 2 hts mcX5_requireFlight (ac9 _ (List.mem_of_getElem? (i := 9) rfl)) msX5_requireFlight mini_RX5 rfl rfl hdX5_requireFlight ⟨Nat.le_of_ble_eq_true rfl, Nat.le_of_ble_eq_true rfl⟩) rfl hl.1 rfl (Nat.le_of_ble_eq_true rfl) (by decide) (dk kX5_lands_ok 4 rfl) ?_
  refine lv_aload_n hx hb (dk kX5_lands_ok 5 rfl) rfl (lv_at hl 0 rfl) ?_
  refine gf hx hb hts (fun w h => List.mem_cons_of_mem _ (acX5 w h)) hown hK hP hz0 hC rfl 0 (by decide) (hts _ (List.mem_cons_of_mem _ (ac7 _ (List.mem_of_getElem? (i := 21) rfl)))) (fun _ h => h) rfl (dk kX5_lands_ok 6 rfl) ?_
  refine gfN hx hb hts (fun w h => List.mem_cons_of_mem _ (acX4 w h)) hown hK hP hz1 hN.1 rfl 0 (by decide) (nf2 hNW) (fun _ h => h) rfl (dk kX5_lands_ok 7 rfl) ?_
  refine lv_iload_n hx hb (dk kX5_lands_ok 8 rfl) rfl (lv_at hl 1 rfl) ?_
  refine cvR (As := [.int (nI w)]) (rest := []) ⟨hx, hb, hml, hown, hts⟩ (tX1_isPotted l D cI cQ cL ad N F (1 + 1) (by omega) c b v hN.2.1 (nI w) w rfl (by omega)) (cwV9 1 hts mcX1_isPotted (ac14 _ (List.mem_of_getElem? (i := 4) rfl)) miX1_isPotted meX1_isPotted mini_RX1 rfl rfl hdX1_isPotted ⟨Nat.le_of_ble_eq_true rfl, Nat.le_of_ble_eq_true rfl⟩) hK hP hNW hz1___1 hN.2.1.1 rfl rfl hl.1 rfl (Nat.le_of_ble_eq_true rfl) (by decide) (dk kX5_lands_ok 9 rfl) ?_
  refine b_if_eq (tgt := 26) hx hb (dk kX5_lands_ok 10 rfl) (by decide) (fun h1 => ?_) (fun h1 => ?_)
  · skip
    refine lv_aload_n hx hb (dk kX5_lands_ok 13 rfl) rfl (lv_at hl 0 rfl) ?_
    refine gf hx hb hts (fun w h => List.mem_cons_of_mem _ (acX5 w h)) hown hK hP hz0 hC rfl 0 (by decide) (hts _ (List.mem_cons_of_mem _ (ac7 _ (List.mem_of_getElem? (i := 21) rfl)))) (fun _ h => h) rfl (dk kX5_lands_ok 14 rfl) ?_
    refine gfN hx hb hts (fun w h => List.mem_cons_of_mem _ (acX4 w h)) hown hK hP hz1 hN.1 rfl 0 (by decide) (nf2 hNW) (fun _ h => h) rfl (dk kX5_lands_ok 15 rfl) ?_
    refine gfN hx hb hts (fun w h => List.mem_cons_of_mem _ (acX1 w h)) hown hK hP hz1___1 hN.2.1.1 rfl 0 (by decide) (nf1 hNW) (fun _ h => h) rfl (dk kX5_lands_ok 16 rfl) ?_
    refine lv_iload_n hx hb (dk kX5_lands_ok 17 rfl) rfl (lv_at hl 1 rfl) ?_
    refine ald (j := w) hx hb hK hP hz1___1___1 hN.2.1.2.1 rfl (by omega) (by decide) (dk kX5_lands_ok 18 rfl) ?_
    refine lv_iload_n hx hb (dk kX5_lands_ok 19 rfl) rfl (lv_at hl 2 rfl) ?_
    refine lv_iload_n hx hb (dk kX5_lands_ok 20 rfl) rfl (lv_at hl 1 rfl) ?_
    refine lv_iload_n hx hb (dk kX5_lands_ok 21 rfl) rfl (lv_at hl 3 rfl) ?_
    refine csP (As := [.int (nI w), .int (nI f)]) (rest := [.int d, .int (c w)]) ⟨hx, hb, hml, hown, hts⟩ (tX5_stepsOf l (nI w) w rfl (by omega) (nI f) f rfl (by omega)) (cwS9 2 hts mcX5_stepsOf (ac14 _ (List.mem_of_getElem? (i := 5) rfl)) msX5_stepsOf mini_RX5 rfl rfl hdX5_stepsOf ⟨Nat.le_of_ble_eq_true rfl, Nat.le_of_ble_eq_true rfl⟩) rfl hl.1 rfl (Nat.le_of_ble_eq_true rfl) (by decide) (dk kX5_lands_ok 22 rfl) ?_
    refine csP (As := [.int (c w), .int d, .int (nI (stp w f))]) (rest := []) ⟨hx, hb, hml, hown, hts⟩ (tX5_landing l (c w) d (nI (stp w f)) (stp w f) rfl (by omega)) (cwS9 3 hts mcX5_landing (ac14 _ (List.mem_of_getElem? (i := 6) rfl)) msX5_landing mini_RX5 rfl rfl hdX5_landing ⟨Nat.le_of_ble_eq_true rfl, Nat.le_of_ble_eq_true rfl⟩) rfl hl.1 rfl (Nat.le_of_ble_eq_true rfl) (by decide) (dk kX5_lands_ok 23 rfl) ?_
    refine csP (As := [.int (ldg (c w) d (stp w f))]) (rest := []) ⟨hx, hb, hml, hown, hts⟩ (tX5_flightAnswer l (ldg (c w) d (stp w f))) (cwS9 1 hts mcX5_flightAnswer (ac14 _ (List.mem_of_getElem? (i := 7) rfl)) msX5_flightAnswer mini_RX5 rfl rfl hdX5_flightAnswer ⟨Nat.le_of_ble_eq_true rfl, Nat.le_of_ble_eq_true rfl⟩) rfl hl.1 rfl (Nat.le_of_ble_eq_true rfl) (by decide) (dk kX5_lands_ok 24 rfl) ?_
    exact hret _ _ _ (by simp (config := { decide := true }) only [cLan, h1, not_true_eq_false, not_false_eq_true, and_true, true_and, and_false, false_and, or_true, true_or, or_false, false_or, and_self, or_self, if_true, if_false, Bool.false_eq_true, reduceIte]; first | done | rfl) (dk kX5_lands_ok 25 rfl)
  · skip
    refine lv_bipush (v := -2) hx hb (dk kX5_lands_ok 11 rfl) rfl ?_
    exact hret _ _ _ (by simp (config := { decide := true }) only [cLan, h1, not_true_eq_false, not_false_eq_true, and_true, true_and, and_false, false_and, or_true, true_or, or_false, false_or, and_self, or_self, if_true, if_false, Bool.false_eq_true, reduceIte]; first | done | rfl) (dk kX5_lands_ok 12 rfl)
set_option maxRecDepth 100000 in
set_option maxHeartbeats 4000000 in
theorem tX5_lands_b1 (l : Launch) (hst : l.stackTraces = false) (D : va_G) (cI cQ cL : ClassId) (ad : Nat → Nat) (N : Nat) (F : Nat → va_E) (hk : 76 < N) (c b v g h j : Nat → Int32) (t : Nat) (u z : Int32) (hN : stAt cI ad F 1 c b v g h j (nI t) u z) (c8 b8 v8 g8 h8 j8 : Nat → Int32) (t8 : Nat) (u8 z8 : Int32) (hSn : stAt cI ad F 9 c8 b8 v8 g8 h8 j8 (nI t8) u8 z8) (n9 m9 : Nat) (hn9 : n9 < 6) (hm9 : m9 ≤ 6) (hPa : paAt cQ ad F 17 n9 m9) (a : Nat → Int32) (n : Nat) (hn60 : n ≤ 60) (hT : gtAt cI ad F 67 a n) (c6 b6 v6 : Nat → Int32) (hM6 : matAt cI ad F 69 c6 b6 v6) (a7 d7 q7 : Nat → Int32) (hO : roAt cI ad F 73 a7 d7 q7) (hs : Bool) (hC : F 0 = .inr (5, [.ref (ad 1), .ref (ad 9), .ref (ad 17), .ref (ad 67), .ref (ad 69), .ref (ad 73), .int (bI hs)])) (x d k9 : Int32) (hwk : wk x = false) : MT l yX5_lands (Cond.code yX5_lands cX5_lands 4 (some .int) :: AW) ({ frames := 7, cells := 1, slots := 6, locals := 102 } : Room) D cI cQ cL ad N F [.ref (ad 0), .int x, .int d, .int k9] eI 1 6 := by
  refine mt_of (ret := (some .int)) hst (by decide +kernel) rfl (Nat.le_of_ble_eq_true rfl) (fun p e s m below meth cd Q ls hx hb hml hown hts hDi hP hK hNW hS hX hthr hthrW hout hl => ?_)
  have hown : s.vm.findClass RX5 = some m.cls := hown
  have hz0 : 0 < N := by omega
  have hz1 : 1 < N := by omega
  have hz1___1 : 1 + 1 < N := by omega
  have hz1___1___1 : 1 + 1 + 1 < N := by omega
  have hz1___1___2 : 1 + 1 + 2 < N := by omega
  have hz1___1___3 : 1 + 1 + 3 < N := by omega
  have hz1___5 : 1 + 5 < N := by omega
  have hz1___6 : 1 + 6 < N := by omega
  have hz1___7 : 1 + 7 < N := by omega
  have hz9 : 9 < N := by omega
  have hz17 : 17 < N := by omega
  have hz17___1 : 17 + 1 < N := by omega
  have hz67 : 67 < N := by omega
  have hz67___1 : 67 + 1 < N := by omega
  have hz69 : 69 < N := by omega
  have hz69___1 : 69 + 1 < N := by omega
  have hz69___2 : 69 + 2 < N := by omega
  have hz69___3 : 69 + 3 < N := by omega
  have hz73 : 73 < N := by omega
  have hz1___1___3 : 1 + 1 + 3 < N := by omega
  have hz69___3 : 69 + 3 < N := by omega
  have hl : lv_has ls 4 [(0, .ref (ad 0)), (1, .int x), (2, .int d), (3, .int k9)] := hl
  refine lv_iload_n hx hb (dk kX5_lands_ok 0 rfl) rfl (lv_at hl 1 rfl) ?_
  exact csT (As := [.int x]) (rest := []) ⟨hx, hb, hml, hown, hts⟩ (tX5_requireWink_b1 l hst D cI cQ cL ad N F x hwk) (cwS9 1 hts mcX5_requireWink (ac9 _ (List.mem_of_getElem? (i := 6) rfl)) msX5_requireWink mini_RX5 rfl rfl hdX5_requireWink ⟨Nat.le_of_ble_eq_true rfl, Nat.le_of_ble_eq_true rfl⟩) hDi hK hP hNW hS hX rfl hl.1 rfl (Nat.le_of_ble_eq_true rfl) (by decide) (dk kX5_lands_ok 1 rfl) (fun H locs q ce hP hS h1 h2 h3 => hout _ _ _ H locs q ce _ _ hP hS h1 h2 h3 (by decide) (by decide))
set_option maxRecDepth 100000 in
set_option maxHeartbeats 4000000 in
theorem tX5_lands_b2 (l : Launch) (hst : l.stackTraces = false) (D : va_G) (cI cQ cL : ClassId) (ad : Nat → Nat) (N : Nat) (F : Nat → va_E) (hk : 76 < N) (c b v g h j : Nat → Int32) (t : Nat) (u z : Int32) (hN : stAt cI ad F 1 c b v g h j (nI t) u z) (c8 b8 v8 g8 h8 j8 : Nat → Int32) (t8 : Nat) (u8 z8 : Int32) (hSn : stAt cI ad F 9 c8 b8 v8 g8 h8 j8 (nI t8) u8 z8) (n9 m9 : Nat) (hn9 : n9 < 6) (hm9 : m9 ≤ 6) (hPa : paAt cQ ad F 17 n9 m9) (a : Nat → Int32) (n : Nat) (hn60 : n ≤ 60) (hT : gtAt cI ad F 67 a n) (c6 b6 v6 : Nat → Int32) (hM6 : matAt cI ad F 69 c6 b6 v6) (a7 d7 q7 : Nat → Int32) (hO : roAt cI ad F 73 a7 d7 q7) (hs : Bool) (hC : F 0 = .inr (5, [.ref (ad 1), .ref (ad 9), .ref (ad 17), .ref (ad 67), .ref (ad 69), .ref (ad 73), .int (bI hs)])) (x : Int32) (w : Nat) (hxw : x = nI w) (hw : w < 16) (d k9 : Int32) (hd9 : btw d (nI 0) (nI 7) = false) : MT l yX5_lands (Cond.code yX5_lands cX5_lands 4 (some .int) :: AW) ({ frames := 8, cells := 1, slots := 6, locals := 123 } : Room) D cI cQ cL ad N F [.ref (ad 0), .int x, .int d, .int k9] eA 1 6 := by
  refine mt_of (ret := (some .int)) hst (by decide +kernel) rfl (Nat.le_of_ble_eq_true rfl) (fun p e s m below meth cd Q ls hx hb hml hown hts hDi hP hK hNW hS hX hthr hthrW hout hl => ?_)
  have hown : s.vm.findClass RX5 = some m.cls := hown
  subst hxw
  have hz0 : 0 < N := by omega
  have hz1 : 1 < N := by omega
  have hz1___1 : 1 + 1 < N := by omega
  have hz1___1___1 : 1 + 1 + 1 < N := by omega
  have hz1___1___2 : 1 + 1 + 2 < N := by omega
  have hz1___1___3 : 1 + 1 + 3 < N := by omega
  have hz1___5 : 1 + 5 < N := by omega
  have hz1___6 : 1 + 6 < N := by omega
  have hz1___7 : 1 + 7 < N := by omega
  have hz9 : 9 < N := by omega
  have hz17 : 17 < N := by omega
  have hz17___1 : 17 + 1 < N := by omega
  have hz67 : 67 < N := by omega
  have hz67___1 : 67 + 1 < N := by omega
  have hz69 : 69 < N := by omega
  have hz69___1 : 69 + 1 < N := by omega
  have hz69___2 : 69 + 2 < N := by omega
  have hz69___3 : 69 + 3 < N := by omega
  have hz73 : 73 < N := by omega
  have hz1___1___3 : 1 + 1 + 3 < N := by omega
  have hz69___3 : 69 + 3 < N := by omega
  have hl : lv_has ls 4 [(0, .ref (ad 0)), (1, .int (nI w)), (2, .int d), (3, .int k9)] := hl
  refine lv_iload_n hx hb (dk kX5_lands_ok 0 rfl) rfl (lv_at hl 1 rfl) ?_
  refine csPv (As := [.int (nI w)]) (rest := []) ⟨hx, hb, hml, hown, hts⟩ (tX5_requireWink_ok l (nI w) (wk_nI hw)) (cwS9 1 hts mcX5_requireWink (ac9 _ (List.mem_of_getElem? (i := 6) rfl)) msX5_requireWink mini_RX5 rfl rfl hdX5_requireWink ⟨Nat.le_of_ble_eq_true rfl, Nat.le_of_ble_eq_true rfl⟩) rfl hl.1 rfl (Nat.le_of_ble_eq_true rfl) (by decide) (dk kX5_lands_ok 1 rfl) ?_
  refine lv_iload_n hx hb (dk kX5_lands_ok 2 rfl) rfl (lv_at hl 2 rfl) ?_
  refine lv_iload_n hx hb (dk kX5_lands_ok 3 rfl) rfl (lv_at hl 3 rfl) ?_
  exact csT (As := [.int d, .int k9]) (rest := []) ⟨hx, hb, hml, hown, hts⟩ (tX5_requireFlight_b1 l hst D cI cQ cL ad N F d k9 hd9) (cwS9 2 hts mcX5_requireFlight (ac9 _ (List.mem_of_getElem? (i := 9) rfl)) msX5_requireFlight mini_RX5 rfl rfl hdX5_requireFlight ⟨Nat.le_of_ble_eq_true rfl, Nat.le_of_ble_eq_true rfl⟩) hDi hK hP hNW hS hX rfl hl.1 rfl (Nat.le_of_ble_eq_true rfl) (by decide) (dk kX5_lands_ok 4 rfl) (fun H locs q ce hP hS h1 h2 h3 => hout _ _ _ H locs q ce _ _ hP hS h1 h2 h3 (by decide) (by decide))
set_option maxRecDepth 100000 in
set_option maxHeartbeats 4000000 in
theorem tX5_lands_b3 (l : Launch) (hst : l.stackTraces = false) (D : va_G) (cI cQ cL : ClassId) (ad : Nat → Nat) (N : Nat) (F : Nat → va_E) (hk : 76 < N) (c b v g h j : Nat → Int32) (t : Nat) (u z : Int32) (hN : stAt cI ad F 1 c b v g h j (nI t) u z) (c8 b8 v8 g8 h8 j8 : Nat → Int32) (t8 : Nat) (u8 z8 : Int32) (hSn : stAt cI ad F 9 c8 b8 v8 g8 h8 j8 (nI t8) u8 z8) (n9 m9 : Nat) (hn9 : n9 < 6) (hm9 : m9 ≤ 6) (hPa : paAt cQ ad F 17 n9 m9) (a : Nat → Int32) (n : Nat) (hn60 : n ≤ 60) (hT : gtAt cI ad F 67 a n) (c6 b6 v6 : Nat → Int32) (hM6 : matAt cI ad F 69 c6 b6 v6) (a7 d7 q7 : Nat → Int32) (hO : roAt cI ad F 73 a7 d7 q7) (hs : Bool) (hC : F 0 = .inr (5, [.ref (ad 1), .ref (ad 9), .ref (ad 17), .ref (ad 67), .ref (ad 69), .ref (ad 73), .int (bI hs)])) (x : Int32) (w : Nat) (hxw : x = nI w) (hw : w < 16) (d k9 : Int32) (hd9 : btw d (nI 0) (nI 7) = true) (hf9 : btw k9 (nI 1) (nI 9) = false) : MT l yX5_lands (Cond.code yX5_lands cX5_lands 4 (some .int) :: AW) ({ frames := 8, cells := 1, slots := 6, locals := 123 } : Room) D cI cQ cL ad N F [.ref (ad 0), .int x, .int d, .int k9] eA 1 6 := by
  refine mt_of (ret := (some .int)) hst (by decide +kernel) rfl (Nat.le_of_ble_eq_true rfl) (fun p e s m below meth cd Q ls hx hb hml hown hts hDi hP hK hNW hS hX hthr hthrW hout hl => ?_)
  have hown : s.vm.findClass RX5 = some m.cls := hown
  subst hxw
  have hz0 : 0 < N := by omega
  have hz1 : 1 < N := by omega
  have hz1___1 : 1 + 1 < N := by omega
  have hz1___1___1 : 1 + 1 + 1 < N := by omega
  have hz1___1___2 : 1 + 1 + 2 < N := by omega
  have hz1___1___3 : 1 + 1 + 3 < N := by omega
  have hz1___5 : 1 + 5 < N := by omega
  have hz1___6 : 1 + 6 < N := by omega
  have hz1___7 : 1 + 7 < N := by omega
  have hz9 : 9 < N := by omega
  have hz17 : 17 < N := by omega
  have hz17___1 : 17 + 1 < N := by omega
  have hz67 : 67 < N := by omega
  have hz67___1 : 67 + 1 < N := by omega
  have hz69 : 69 < N := by omega
  have hz69___1 : 69 + 1 < N := by omega
  have hz69___2 : 69 + 2 < N := by omega
  have hz69___3 : 69 + 3 < N := by omega
  have hz73 : 73 < N := by omega
  have hz1___1___3 : 1 + 1 + 3 < N := by omega
  have hz69___3 : 69 + 3 < N := by omega
  have hl : lv_has ls 4 [(0, .ref (ad 0)), (1, .int (nI w)), (2, .int d), (3, .int k9)] := hl
  refine lv_iload_n hx hb (dk kX5_lands_ok 0 rfl) rfl (lv_at hl 1 rfl) ?_
  refine csPv (As := [.int (nI w)]) (rest := []) ⟨hx, hb, hml, hown, hts⟩ (tX5_requireWink_ok l (nI w) (wk_nI hw)) (cwS9 1 hts mcX5_requireWink (ac9 _ (List.mem_of_getElem? (i := 6) rfl)) msX5_requireWink mini_RX5 rfl rfl hdX5_requireWink ⟨Nat.le_of_ble_eq_true rfl, Nat.le_of_ble_eq_true rfl⟩) rfl hl.1 rfl (Nat.le_of_ble_eq_true rfl) (by decide) (dk kX5_lands_ok 1 rfl) ?_
  refine lv_iload_n hx hb (dk kX5_lands_ok 2 rfl) rfl (lv_at hl 2 rfl) ?_
  refine lv_iload_n hx hb (dk kX5_lands_ok 3 rfl) rfl (lv_at hl 3 rfl) ?_
  exact csT (As := [.int d, .int k9]) (rest := []) ⟨hx, hb, hml, hown, hts⟩ (tX5_requireFlight_b2 l hst D cI cQ cL ad N F d k9 hd9 hf9) (cwS9 2 hts mcX5_requireFlight (ac9 _ (List.mem_of_getElem? (i := 9) rfl)) msX5_requireFlight mini_RX5 rfl rfl hdX5_requireFlight ⟨Nat.le_of_ble_eq_true rfl, Nat.le_of_ble_eq_true rfl⟩) hDi hK hP hNW hS hX rfl hl.1 rfl (Nat.le_of_ble_eq_true rfl) (by decide) (dk kX5_lands_ok 4 rfl) (fun H locs q ce hP hS h1 h2 h3 => hout _ _ _ H locs q ce _ _ hP hS h1 h2 h3 (by decide) (by decide))
