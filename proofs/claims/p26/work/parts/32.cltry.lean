set_option maxRecDepth 100000 in
set_option maxHeartbeats 4000000 in
theorem tX5_ifFlown (l : Launch) (D : va_G) (cI cQ cL : ClassId) (ad : Nat → Nat) (N : Nat) (F : Nat → va_E) (hk : 76 < N) (c b v g h j : Nat → Int32) (t : Nat) (u z : Int32) (hN : stAt cI ad F 1 c b v g h j (nI t) u z) (c8 b8 v8 g8 h8 j8 : Nat → Int32) (t8 : Nat) (u8 z8 : Int32) (hSn : stAt cI ad F 9 c8 b8 v8 g8 h8 j8 (nI t8) u8 z8) (n9 m9 : Nat) (hn9 : n9 < 6) (hm9 : m9 ≤ 6) (hPa : paAt cQ ad F 17 n9 m9) (a : Nat → Int32) (n : Nat) (hn60 : n ≤ 60) (hT : gtAt cI ad F 67 a n) (c6 b6 v6 : Nat → Int32) (hM6 : matAt cI ad F 69 c6 b6 v6) (a7 d7 q7 : Nat → Int32) (hO : roAt cI ad F 73 a7 d7 q7) (hs : Bool) (hC : F 0 = .inr (5, [.ref (ad 1), .ref (ad 9), .ref (ad 17), .ref (ad 67), .ref (ad 69), .ref (ad 73), .int (bI hs)])) (ht : t < 4) (x : Int32) (w : Nat) (hxw : x = nI w) (hw : w < 16) (d : Int32) (hd9 : btw d (nI 0) (nI 7) = true) (k9 : Int32) (f : Nat) (hkf : k9 = nI f) (hf : 1 ≤ f ∧ f ≤ 9) (y : Int32) (hy9 : btw y (nI 0) (nI 1) = true) (hwn : wnf c v t w = 0) : MX l yX5_ifFlown (Cond.code yX5_ifFlown cX5_ifFlown 5 (some .int) :: AW) ({ frames := 8, cells := 0, slots := 0, locals := 123 } : Room) D cI cQ cL ad N F [.ref (ad 0), .int x, .int d, .int k9, .int y] (dp (some (.int (cIf c b v w d f y))) (mSet cI F 69 (cM1 c b v w d f) (cM2 c b v w d f) (cM3 c b v w d f))) 0 0 := by
  refine mx_i (ty := .int) (by decide +kernel) rfl (Nat.le_of_ble_eq_true rfl) (fun p e s m below meth cd Q ls hx hb hml hown hts hDi hP hK hNW hS hret hl => ?_)
  have hown : s.vm.findClass RX5 = some m.cls := hown
  subst hxw
  subst hkf
  have hst : stp w f < 2 ^ 31 := by unfold stp; split <;> omega
  have hz0 : 0 < N := by omega
  have hz1 : 1 < N := by omega
  have hz1___1 : 1 + 1 < N := by omega
  have hz1___1___1 : 1 + 1 + 1 < N := by omega
  have hz1___1___2 : 1 + 1 + 2 < N := by omega
  have hz1___1___3 : 1 + 1 + 3 < N := by omega
  have hz1___5 : 1 + 5 < N := by omega
  have hz1___6 : 1 + 6 < N := by omega
  have hz1___7 : 1 + 7 < N := by omega
  have hz9 : 9 < N := by omega
  have hz17 : 17 < N := by omega
  have hz17___1 : 17 + 1 < N := by omega
  have hz67 : 67 < N := by omega
  have hz67___1 : 67 + 1 < N := by omega
  have hz69 : 69 < N := by omega
  have hz69___1 : 69 + 1 < N := by omega
  have hz69___2 : 69 + 2 < N := by omega
  have hz69___3 : 69 + 3 < N := by omega
  have hz73 : 73 < N := by omega
  have hz1___1___3 : 1 + 1 + 3 < N := by omega
  have hz69___3 : 69 + 3 < N := by omega
  have hl : lv_has ls 5 [(0, .ref (ad 0)), (1, .int (nI w)), (2, .int d), (3, .int (nI f)), (4, .int y)] := hl
  refine lv_iload_n hx hb (dk kX5_ifFlown_ok 0 rfl) rfl (lv_at hl 1 rfl) ?_
  refine csPv (As := [.int (nI w)]) (rest := []) ⟨hx, hb, hml, hown, hts⟩ (tX5_requireWink_ok l (nI w) (wk_nI hw)) (cwS9 1 hts mcX5_requireWink (ac8 _ (List.mem_of_getElem? (i := 20) rfl)) msX5_requireWink mini_RX5 rfl rfl hdX5_requireWink ⟨Nat.le_of_ble_eq_true rfl, Nat.le_of_ble_eq_true rfl⟩) rfl hl.1 rfl (Nat.le_of_ble_eq_true rfl) (by decide) (dk kX5_ifFlown_ok 1 rfl) ?_
  refine lv_iload_n hx hb (dk kX5_ifFlown_ok 2 rfl) rfl (lv_at hl 2 rfl) ?_
  refine lv_iload_n hx hb (dk kX5_ifFlown_ok 3 rfl) rfl (lv_at hl 3 rfl) ?_
  refine csPv (As := [.int d, .int (nI f)]) (rest := []) ⟨hx, hb, hml, hown, hts⟩ (tX5_requireFlight_ok l d (nI f) hd9 (btw_nI hf)) (cwS9 2 hts mcX5_requireFlight (ac8 _ (List.mem_of_getElem? (i := 23) rfl)) msX5_requireFlight mini_RX5 rfl rfl hdX5_requireFlight ⟨Nat.le_of_ble_eq_true rfl, Nat.le_of_ble_eq_true rfl⟩) rfl hl.1 rfl (Nat.le_of_ble_eq_true rfl) (by decide) (dk kX5_ifFlown_ok 4 rfl) ?_
  refine lv_iload hx hb (dk kX5_ifFlown_ok 5 rfl) (lv_at hl 4 rfl) ?_
  refine lv_if_lt (tgt := 20) hx hb (dk kX5_ifFlown_ok 6 rfl) (by decide) (fun h1 => ?_) (fun h1 => ?_)
  · exact absurd h1 (rng_ok hy9).1
  · skip
    refine lv_iload hx hb (dk kX5_ifFlown_ok 7 rfl) (lv_at hl 4 rfl) ?_
    refine lv_iconst (v := nI 1) hx hb (dk kX5_ifFlown_ok 8 rfl) rfl ?_
    refine lv_icmp_le (tgt := 31) hx hb (dk kX5_ifFlown_ok 9 rfl) (by decide) (fun h2 => ?_) (fun h2 => ?_)
    · skip
      refine lv_aload_n hx hb (dk kX5_ifFlown_ok 15 rfl) rfl (lv_at hl 0 rfl) ?_
      refine gf hx hb hts (fun w h => List.mem_cons_of_mem _ (acX5 w h)) hown hK hP hz0 hC rfl 0 (by decide) (hts _ (List.mem_cons_of_mem _ (ac7 _ (List.mem_of_getElem? (i := 10) rfl)))) (fun _ h => h) rfl (dk kX5_ifFlown_ok 16 rfl) ?_
      refine lv_iload_n hx hb (dk kX5_ifFlown_ok 17 rfl) rfl (lv_at hl 1 rfl) ?_
      refine cvR (As := [.int (nI w)]) (rest := []) ⟨hx, hb, hml, hown, hts⟩ (tX4_whyNotFlown l D cI cQ cL ad N F 1 (by omega) c b v g h j t u z hN ht (nI w) w rfl (by omega)) (cwV9 1 hts mcX4_whyNotFlown (ac9 _ (List.mem_of_getElem? (i := 2) rfl)) miX4_whyNotFlown meX4_whyNotFlown mini_RX4 rfl rfl hdX4_whyNotFlown ⟨Nat.le_of_ble_eq_true rfl, Nat.le_of_ble_eq_true rfl⟩) hK hP hNW hz1 hN.1 rfl rfl hl.1 rfl (Nat.le_of_ble_eq_true rfl) (by decide) (dk kX5_ifFlown_ok 18 rfl) ?_
      refine n_if_eq (tgt := 46) hx hb (by first | omega | (have q1 := wnf_le c v t w; omega)) (dk kX5_ifFlown_ok 19 rfl) (by decide) (fun h3 => ?_) (fun h3 => ?_)
      · skip
        refine lv_aload_n hx hb (dk kX5_ifFlown_ok 22 rfl) rfl (lv_at hl 0 rfl) ?_
        refine lv_iload_n hx hb (dk kX5_ifFlown_ok 23 rfl) rfl (lv_at hl 1 rfl) ?_
        refine lv_iload_n hx hb (dk kX5_ifFlown_ok 24 rfl) rfl (lv_at hl 2 rfl) ?_
        refine lv_iload_n hx hb (dk kX5_ifFlown_ok 25 rfl) rfl (lv_at hl 3 rfl) ?_
        refine cvDv (As := [.int (nI w), .int d, .int (nI f)]) (rest := []) (mSet cI F 69 (mov1 c b v w (rest9 w (ldg (c w) d (stp w f)))) (mov2 c b v w (rest9 w (ldg (c w) d (stp w f)))) (mov3 c b v w (rest9 w (ldg (c w) d (stp w f))))) ⟨hx, hb, hml, hown, hts⟩ (tX5_tryFlight l D cI cQ cL ad N F (by omega) c b v g h j t u z hN c8 b8 v8 g8 h8 j8 t8 u8 z8 hSn n9 m9 hn9 hm9 hPa a n hn60 hT c6 b6 v6 hM6 a7 d7 q7 hO hs hC (nI w) w rfl (by omega) d (nI f) f rfl (by omega)) (cwV9 3 hts mcX5_tryFlight (ac12 _ (List.mem_of_getElem? (i := 18) rfl)) miX5_tryFlight meX5_tryFlight mini_RX5 rfl rfl hdX5_tryFlight ⟨Nat.le_of_ble_eq_true rfl, Nat.le_of_ble_eq_true rfl⟩) hDi hK hP hNW hS hz0 hC rfl rfl hl.1 rfl (Nat.le_of_ble_eq_true rfl) (by decide) (dk kX5_ifFlown_ok 26 rfl) rfl (fun H locs hP hS => ?_)
        refine lv_iload hx hb (dk kX5_ifFlown_ok 27 rfl) (lv_at hl 4 rfl) ?_
        refine lv_if_ne (tgt := 72) hx hb (dk kX5_ifFlown_ok 28 rfl) (by decide) (fun h4 => ?_) (fun h4 => ?_)
        · skip
          refine lv_aload_n hx hb (dk kX5_ifFlown_ok 35 rfl) rfl (lv_at hl 0 rfl) ?_
          refine gf hx hb hts (fun w h => List.mem_cons_of_mem _ (acX5 w h)) hown hK hP hz0 ((mSet_out (by omega)).trans hC) rfl 4 (by decide) (hts _ (List.mem_cons_of_mem _ (ac7 _ (List.mem_of_getElem? (i := 21) rfl)))) (fun _ h => h) rfl (dk kX5_ifFlown_ok 36 rfl) ?_
          refine lv_iconst (v := nI 1) hx hb (dk kX5_ifFlown_ok 37 rfl) rfl ?_
          refine lv_iload_n hx hb (dk kX5_ifFlown_ok 38 rfl) rfl (lv_at hl 1 rfl) ?_
          refine csP (As := [.int (nI w)]) (rest := [.int (nI 1), .ref (ad 69)]) ⟨hx, hb, hml, hown, hts⟩ (tX5_teamOf l (nI w) w rfl (by omega)) (cwS9 1 hts mcX5_teamOf (ac12 _ (List.mem_of_getElem? (i := 22) rfl)) msX5_teamOf mini_RX5 rfl rfl hdX5_teamOf ⟨Nat.le_of_ble_eq_true rfl, Nat.le_of_ble_eq_true rfl⟩) rfl hl.1 rfl (Nat.le_of_ble_eq_true rfl) (by decide) (dk kX5_ifFlown_ok 39 rfl) ?_
          refine n_isub hx hb (by omega) (dk kX5_ifFlown_ok 40 rfl) ?_
          refine cvR (As := [.int (nI (1 - (w / 4 % 2)))]) (rest := []) ⟨hx, hb, hml, hown, hts⟩ (tX1_coveredOfTeam l D cI cQ cL ad N (mSet cI F 69 (mov1 c b v w (rest9 w (ldg (c w) d (stp w f)))) (mov2 c b v w (rest9 w (ldg (c w) d (stp w f)))) (mov3 c b v w (rest9 w (ldg (c w) d (stp w f))))) 69 (by omega) (mov1 c b v w (rest9 w (ldg (c w) d (stp w f)))) (mov2 c b v w (rest9 w (ldg (c w) d (stp w f)))) (mov3 c b v w (rest9 w (ldg (c w) d (stp w f)))) (mSet_at hM6) (nI (1 - (w / 4 % 2))) (1 - (w / 4 % 2)) rfl (by omega)) (cwV9 1 hts mcX1_coveredOfTeam (ac13 _ (List.mem_of_getElem? (i := 5) rfl)) miX1_coveredOfTeam meX1_coveredOfTeam mini_RX1 rfl rfl hdX1_coveredOfTeam ⟨Nat.le_of_ble_eq_true rfl, Nat.le_of_ble_eq_true rfl⟩) hK hP hNW hz69 (mSet_at hM6).1 rfl rfl hl.1 rfl (Nat.le_of_ble_eq_true rfl) (by decide) (dk kX5_ifFlown_ok 41 rfl) ?_
          exact hret _ _ _ _ _ _ _ _ rfl (by simp only [dp, cIf, cLd, cCv, cM1, cM2, cM3, (eq_false h1), (eq_true h2), (eq_true h3), (eq_false h4), not_true_eq_false, not_false_eq_true, and_true, true_and, and_false, false_and, or_true, true_or, or_false, false_or, and_self, or_self, if_true, if_false, Bool.false_eq_true, reduceIte]) hP hS (by decide) (by decide) (dk kX5_ifFlown_ok 42 rfl)
        · skip
          refine lv_aload_n hx hb (dk kX5_ifFlown_ok 29 rfl) rfl (lv_at hl 0 rfl) ?_
          refine gf hx hb hts (fun w h => List.mem_cons_of_mem _ (acX5 w h)) hown hK hP hz0 ((mSet_out (by omega)).trans hC) rfl 4 (by decide) (hts _ (List.mem_cons_of_mem _ (ac7 _ (List.mem_of_getElem? (i := 21) rfl)))) (fun _ h => h) rfl (dk kX5_ifFlown_ok 30 rfl) ?_
          refine lv_iload_n hx hb (dk kX5_ifFlown_ok 31 rfl) rfl (lv_at hl 1 rfl) ?_
          refine csP (As := [.int (nI w)]) (rest := [.ref (ad 69)]) ⟨hx, hb, hml, hown, hts⟩ (tX5_teamOf l (nI w) w rfl (by omega)) (cwS9 1 hts mcX5_teamOf (ac12 _ (List.mem_of_getElem? (i := 22) rfl)) msX5_teamOf mini_RX5 rfl rfl hdX5_teamOf ⟨Nat.le_of_ble_eq_true rfl, Nat.le_of_ble_eq_true rfl⟩) rfl hl.1 rfl (Nat.le_of_ble_eq_true rfl) (by decide) (dk kX5_ifFlown_ok 32 rfl) ?_
          refine cvR (As := [.int (nI (w / 4 % 2))]) (rest := []) ⟨hx, hb, hml, hown, hts⟩ (tX1_leadOf l D cI cQ cL ad N (mSet cI F 69 (mov1 c b v w (rest9 w (ldg (c w) d (stp w f)))) (mov2 c b v w (rest9 w (ldg (c w) d (stp w f)))) (mov3 c b v w (rest9 w (ldg (c w) d (stp w f))))) 69 (by omega) (mov1 c b v w (rest9 w (ldg (c w) d (stp w f)))) (mov2 c b v w (rest9 w (ldg (c w) d (stp w f)))) (mov3 c b v w (rest9 w (ldg (c w) d (stp w f)))) (mSet_at hM6) (nI (w / 4 % 2)) (w / 4 % 2) rfl (by omega)) (cwV9 1 hts mcX1_leadOf (ac13 _ (List.mem_of_getElem? (i := 1) rfl)) miX1_leadOf meX1_leadOf mini_RX1 rfl rfl hdX1_leadOf ⟨Nat.le_of_ble_eq_true rfl, Nat.le_of_ble_eq_true rfl⟩) hK hP hNW hz69 (mSet_at hM6).1 rfl rfl hl.1 rfl (Nat.le_of_ble_eq_true rfl) (by decide) (dk kX5_ifFlown_ok 33 rfl) ?_
          refine lv_goto (tgt := 85) hx hb (dk kX5_ifFlown_ok 34 rfl) (by decide) ?_
          exact hret _ _ _ _ _ _ _ _ rfl (by simp only [dp, cIf, cLd, cCv, cM1, cM2, cM3, (eq_false h1), (eq_true h2), (eq_true h3), (eq_true h4), not_true_eq_false, not_false_eq_true, and_true, true_and, and_false, false_and, or_true, true_or, or_false, false_or, and_self, or_self, if_true, if_false, Bool.false_eq_true, reduceIte]) hP hS (by decide) (by decide) (dk kX5_ifFlown_ok 42 rfl)
      · exact absurd hwn h3
    · exact absurd (Int32.not_le.mp h2) (rng_ok hy9).2
set_option maxRecDepth 100000 in
set_option maxHeartbeats 4000000 in
theorem tX5_ifFlownX (l : Launch) (D : va_G) (cI cQ cL : ClassId) (ad : Nat → Nat) (N : Nat) (F : Nat → va_E) (hk : 76 < N) (c b v g h j : Nat → Int32) (t : Nat) (u z : Int32) (hN : stAt cI ad F 1 c b v g h j (nI t) u z) (c8 b8 v8 g8 h8 j8 : Nat → Int32) (t8 : Nat) (u8 z8 : Int32) (hSn : stAt cI ad F 9 c8 b8 v8 g8 h8 j8 (nI t8) u8 z8) (n9 m9 : Nat) (hn9 : n9 < 6) (hm9 : m9 ≤ 6) (hPa : paAt cQ ad F 17 n9 m9) (a : Nat → Int32) (n : Nat) (hn60 : n ≤ 60) (hT : gtAt cI ad F 67 a n) (c6 b6 v6 : Nat → Int32) (hM6 : matAt cI ad F 69 c6 b6 v6) (a7 d7 q7 : Nat → Int32) (hO : roAt cI ad F 73 a7 d7 q7) (hs : Bool) (hC : F 0 = .inr (5, [.ref (ad 1), .ref (ad 9), .ref (ad 17), .ref (ad 67), .ref (ad 69), .ref (ad 73), .int (bI hs)])) (ht : t < 4) (x : Int32) (w : Nat) (hxw : x = nI w) (hw : w < 16) (d : Int32) (hd9 : btw d (nI 0) (nI 7) = true) (k9 : Int32) (f : Nat) (hkf : k9 = nI f) (hf : 1 ≤ f ∧ f ≤ 9) (y : Int32) (hy9 : btw y (nI 0) (nI 1) = true) (hwn : wnf c v t w ≠ 0) : MR l yX5_ifFlown (Cond.code yX5_ifFlown cX5_ifFlown 5 (some .int) :: AW) ({ frames := 8, cells := 0, slots := 0, locals := 123 } : Room) D cI cQ cL ad N F [.ref (ad 0), .int x, .int d, .int k9, .int y] (.int (-1000)) := by
  refine mr_i (ty := .int) (by decide +kernel) rfl rfl rfl rfl (Nat.le_of_ble_eq_true rfl) (fun p e s m below meth cd Q ls hx hb hml hown hts hP hK hNW hret hl => ?_)
  have hown : s.vm.findClass RX5 = some m.cls := hown
  subst hxw
  subst hkf
  have hz0 : 0 < N := by omega
  have hz1 : 1 < N := by omega
  have hz1___1 : 1 + 1 < N := by omega
  have hz1___1___1 : 1 + 1 + 1 < N := by omega
  have hz1___1___2 : 1 + 1 + 2 < N := by omega
  have hz1___1___3 : 1 + 1 + 3 < N := by omega
  have hz1___5 : 1 + 5 < N := by omega
  have hz1___6 : 1 + 6 < N := by omega
  have hz1___7 : 1 + 7 < N := by omega
  have hz9 : 9 < N := by omega
  have hz17 : 17 < N := by omega
  have hz17___1 : 17 + 1 < N := by omega
  have hz67 : 67 < N := by omega
  have hz67___1 : 67 + 1 < N := by omega
  have hz69 : 69 < N := by omega
  have hz69___1 : 69 + 1 < N := by omega
  have hz69___2 : 69 + 2 < N := by omega
  have hz69___3 : 69 + 3 < N := by omega
  have hz73 : 73 < N := by omega
  have hz1___1___3 : 1 + 1 + 3 < N := by omega
  have hz69___3 : 69 + 3 < N := by omega
  have hl : lv_has ls 5 [(0, .ref (ad 0)), (1, .int (nI w)), (2, .int d), (3, .int (nI f)), (4, .int y)] := hl
  refine lv_iload_n hx hb (dk kX5_ifFlown_ok 0 rfl) rfl (lv_at hl 1 rfl) ?_
  refine csPv (As := [.int (nI w)]) (rest := []) ⟨hx, hb, hml, hown, hts⟩ (tX5_requireWink_ok l (nI w) (wk_nI hw)) (cwS9 1 hts mcX5_requireWink (ac8 _ (List.mem_of_getElem? (i := 20) rfl)) msX5_requireWink mini_RX5 rfl rfl hdX5_requireWink ⟨Nat.le_of_ble_eq_true rfl, Nat.le_of_ble_eq_true rfl⟩) rfl hl.1 rfl (Nat.le_of_ble_eq_true rfl) (by decide) (dk kX5_ifFlown_ok 1 rfl) ?_
  refine lv_iload_n hx hb (dk kX5_ifFlown_ok 2 rfl) rfl (lv_at hl 2 rfl) ?_
  refine lv_iload_n hx hb (dk kX5_ifFlown_ok 3 rfl) rfl (lv_at hl 3 rfl) ?_
  refine csPv (As := [.int d, .int (nI f)]) (rest := []) ⟨hx, hb, hml, hown, hts⟩ (tX5_requireFlight_ok l d (nI f) hd9 (btw_nI hf)) (cwS9 2 hts mcX5_requireFlight (ac8 _ (List.mem_of_getElem? (i := 23) rfl)) msX5_requireFlight mini_RX5 rfl rfl hdX5_requireFlight ⟨Nat.le_of_ble_eq_true rfl, Nat.le_of_ble_eq_true rfl⟩) rfl hl.1 rfl (Nat.le_of_ble_eq_true rfl) (by decide) (dk kX5_ifFlown_ok 4 rfl) ?_
  refine lv_iload hx hb (dk kX5_ifFlown_ok 5 rfl) (lv_at hl 4 rfl) ?_
  refine lv_if_lt (tgt := 20) hx hb (dk kX5_ifFlown_ok 6 rfl) (by decide) (fun h1 => ?_) (fun h1 => ?_)
  · exact absurd h1 (rng_ok hy9).1
  · skip
    refine lv_iload hx hb (dk kX5_ifFlown_ok 7 rfl) (lv_at hl 4 rfl) ?_
    refine lv_iconst (v := nI 1) hx hb (dk kX5_ifFlown_ok 8 rfl) rfl ?_
    refine lv_icmp_le (tgt := 31) hx hb (dk kX5_ifFlown_ok 9 rfl) (by decide) (fun h2 => ?_) (fun h2 => ?_)
    · skip
      refine lv_aload_n hx hb (dk kX5_ifFlown_ok 15 rfl) rfl (lv_at hl 0 rfl) ?_
      refine gf hx hb hts (fun w h => List.mem_cons_of_mem _ (acX5 w h)) hown hK hP hz0 hC rfl 0 (by decide) (hts _ (List.mem_cons_of_mem _ (ac7 _ (List.mem_of_getElem? (i := 10) rfl)))) (fun _ h => h) rfl (dk kX5_ifFlown_ok 16 rfl) ?_
      refine lv_iload_n hx hb (dk kX5_ifFlown_ok 17 rfl) rfl (lv_at hl 1 rfl) ?_
      refine cvR (As := [.int (nI w)]) (rest := []) ⟨hx, hb, hml, hown, hts⟩ (tX4_whyNotFlown l D cI cQ cL ad N F 1 (by omega) c b v g h j t u z hN ht (nI w) w rfl (by omega)) (cwV9 1 hts mcX4_whyNotFlown (ac9 _ (List.mem_of_getElem? (i := 2) rfl)) miX4_whyNotFlown meX4_whyNotFlown mini_RX4 rfl rfl hdX4_whyNotFlown ⟨Nat.le_of_ble_eq_true rfl, Nat.le_of_ble_eq_true rfl⟩) hK hP hNW hz1 hN.1 rfl rfl hl.1 rfl (Nat.le_of_ble_eq_true rfl) (by decide) (dk kX5_ifFlown_ok 18 rfl) ?_
      refine n_if_eq (tgt := 46) hx hb (by first | omega | (have q1 := wnf_le c v t w; omega)) (dk kX5_ifFlown_ok 19 rfl) (by decide) (fun h3 => ?_) (fun h3 => ?_)
      · exact absurd h3 hwn
      · skip
        refine lv_sipush (v := -1000) hx hb (dk kX5_ifFlown_ok 20 rfl) rfl ?_
        exact hret _ _ _ (by rfl) (dk kX5_ifFlown_ok 21 rfl)
    · exact absurd (Int32.not_le.mp h2) (rng_ok hy9).2
set_option maxRecDepth 100000 in
set_option maxHeartbeats 4000000 in
theorem tX5_flightsToX (l : Launch) (D : va_G) (cI cQ cL : ClassId) (ad : Nat → Nat) (N : Nat) (F : Nat → va_E) (hk : 76 < N) (c b v g h j : Nat → Int32) (t : Nat) (u z : Int32) (hN : stAt cI ad F 1 c b v g h j (nI t) u z) (c8 b8 v8 g8 h8 j8 : Nat → Int32) (t8 : Nat) (u8 z8 : Int32) (hSn : stAt cI ad F 9 c8 b8 v8 g8 h8 j8 (nI t8) u8 z8) (n9 m9 : Nat) (hn9 : n9 < 6) (hm9 : m9 ≤ 6) (hPa : paAt cQ ad F 17 n9 m9) (a : Nat → Int32) (n : Nat) (hn60 : n ≤ 60) (hT : gtAt cI ad F 67 a n) (c6 b6 v6 : Nat → Int32) (hM6 : matAt cI ad F 69 c6 b6 v6) (a7 d7 q7 : Nat → Int32) (hO : roAt cI ad F 73 a7 d7 q7) (hs : Bool) (hC : F 0 = .inr (5, [.ref (ad 1), .ref (ad 9), .ref (ad 17), .ref (ad 67), .ref (ad 69), .ref (ad 73), .int (bI hs)])) (x : Int32) (w : Nat) (hxw : x = nI w) (hw : w < 16) (hpt : pot c w = true) : MR l yX5_flightsTo (Cond.code yX5_flightsTo cX5_flightsTo 2 (some .int) :: AW) ({ frames := 7, cells := 0, slots := 0, locals := 102 } : Room) D cI cQ cL ad N F [.ref (ad 0), .int x] (.int (nI 0)) := by
  refine mr_i (ty := .int) (by decide +kernel) rfl rfl rfl rfl (Nat.le_of_ble_eq_true rfl) (fun p e s m below meth cd Q ls hx hb hml hown hts hP hK hNW hret hl => ?_)
  have hown : s.vm.findClass RX5 = some m.cls := hown
  subst hxw
  have hz0 : 0 < N := by omega
  have hz1 : 1 < N := by omega
  have hz1___1 : 1 + 1 < N := by omega
  have hz1___1___1 : 1 + 1 + 1 < N := by omega
  have hz1___1___2 : 1 + 1 + 2 < N := by omega
  have hz1___1___3 : 1 + 1 + 3 < N := by omega
  have hz1___5 : 1 + 5 < N := by omega
  have hz1___6 : 1 + 6 < N := by omega
  have hz1___7 : 1 + 7 < N := by omega
  have hz9 : 9 < N := by omega
  have hz17 : 17 < N := by omega
  have hz17___1 : 17 + 1 < N := by omega
  have hz67 : 67 < N := by omega
  have hz67___1 : 67 + 1 < N := by omega
  have hz69 : 69 < N := by omega
  have hz69___1 : 69 + 1 < N := by omega
  have hz69___2 : 69 + 2 < N := by omega
  have hz69___3 : 69 + 3 < N := by omega
  have hz73 : 73 < N := by omega
  have hz1___1___3 : 1 + 1 + 3 < N := by omega
  have hz69___3 : 69 + 3 < N := by omega
  have hl : lv_has ls 2 [(0, .ref (ad 0)), (1, .int (nI w))] := hl
  refine lv_iload_n hx hb (dk kX5_flightsTo_ok 0 rfl) rfl (lv_at hl 1 rfl) ?_
  refine csPv (As := [.int (nI w)]) (rest := []) ⟨hx, hb, hml, hown, hts⟩ (tX5_requireWink_ok l (nI w) (wk_nI hw)) (cwS9 1 hts mcX5_requireWink (ac8 _ (List.mem_of_getElem? (i := 20) rfl)) msX5_requireWink mini_RX5 rfl rfl hdX5_requireWink ⟨Nat.le_of_ble_eq_true rfl, Nat.le_of_ble_eq_true rfl⟩) rfl hl.1 rfl (Nat.le_of_ble_eq_true rfl) (by decide) (dk kX5_flightsTo_ok 1 rfl) ?_
  refine lv_aload_n hx hb (dk kX5_flightsTo_ok 2 rfl) rfl (lv_at hl 0 rfl) ?_
  refine gf hx hb hts (fun w h => List.mem_cons_of_mem _ (acX5 w h)) hown hK hP hz0 hC rfl 0 (by decide) (hts _ (List.mem_cons_of_mem _ (ac7 _ (List.mem_of_getElem? (i := 10) rfl)))) (fun _ h => h) rfl (dk kX5_flightsTo_ok 3 rfl) ?_
  refine gfN hx hb hts (fun w h => List.mem_cons_of_mem _ (acX4 w h)) hown hK hP hz1 hN.1 rfl 0 (by decide) (nf2 hNW) (fun _ h => h) rfl (dk kX5_flightsTo_ok 4 rfl) ?_
  refine lv_iload_n hx hb (dk kX5_flightsTo_ok 5 rfl) rfl (lv_at hl 1 rfl) ?_
  refine cvR (As := [.int (nI w)]) (rest := []) ⟨hx, hb, hml, hown, hts⟩ (tX1_isPotted l D cI cQ cL ad N F (1 + 1) (by omega) c b v hN.2.1 (nI w) w rfl (by omega)) (cwV9 1 hts mcX1_isPotted (ac12 _ (List.mem_of_getElem? (i := 12) rfl)) miX1_isPotted meX1_isPotted mini_RX1 rfl rfl hdX1_isPotted ⟨Nat.le_of_ble_eq_true rfl, Nat.le_of_ble_eq_true rfl⟩) hK hP hNW hz1___1 hN.2.1.1 rfl rfl hl.1 rfl (Nat.le_of_ble_eq_true rfl) (by decide) (dk kX5_flightsTo_ok 6 rfl) ?_
  refine b_if_eq (tgt := 22) hx hb (dk kX5_flightsTo_ok 7 rfl) (by decide) (fun h1 => ?_) (fun h1 => ?_)
  · exact absurd (hpt.symm.trans h1) (by decide)
  · skip
    refine lv_iconst (v := nI 0) hx hb (dk kX5_flightsTo_ok 8 rfl) rfl ?_
    refine lv_goto (tgt := 45) hx hb (dk kX5_flightsTo_ok 9 rfl) (by decide) ?_
    exact hret _ _ _ (by rfl) (dk kX5_flightsTo_ok 21 rfl)
