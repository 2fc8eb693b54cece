set_option maxRecDepth 100000 in
set_option maxHeartbeats 4000000 in
theorem tX5_ifFlown (l : Launch) (D : va_G) (cI cQ cL : ClassId) (ad : Nat → Nat) (N : Nat) (F : Nat → va_E) (hk : 76 < N) (c b v g h j : Nat → Int32) (t : Nat) (u z : Int32) (hN : stAt cI ad F 1 c b v g h j (nI t) u z) (c8 b8 v8 g8 h8 j8 : Nat → Int32) (t8 : Nat) (u8 z8 : Int32) (hSn : stAt cI ad F 9 c8 b8 v8 g8 h8 j8 (nI t8) u8 z8) (n9 m9 : Nat) (hn9 : n9 < 6) (hm9 : m9 ≤ 6) (hPa : paAt cQ ad F 17 n9 m9) (a : Nat → Int32) (n : Nat) (hn60 : n ≤ 60) (hT : gtAt cI ad F 67 a n) (c6 b6 v6 : Nat → Int32) (hM6 : matAt cI ad F 69 c6 b6 v6) (a7 d7 q7 : Nat → Int32) (hO : roAt cI ad F 73 a7 d7 q7) (hs : Bool) (hC : F 0 = .inr (5, [.ref (ad 1), .ref (ad 9), .ref (ad 17), .ref (ad 67), .ref (ad 69), .ref (ad 73), .int (bI hs)])) (ht : t < 4) (x : Int32) (w : Nat) (hxw : x = nI w) (hw : w < 16) (d : Int32) (hd9 : btw d (nI 0) (nI 7) = true) (k9 : Int32) (f : Nat) (hkf : k9 = nI f) (hf : 1 ≤ f ∧ f ≤ 9) (y : Int32) (hy9 : btw y (nI 0) (nI 1) = true) (hwn : wnf c v t w = 0) : MX l yX5_ifFlown (Cond.code yX5_ifFlown cX5_ifFlown 5 (some .int) :: AW) ({ frames := 8, cells := 0, slots := 0, locals := 123 } : Room) D cI cQ cL ad N F [.ref (ad 0), .int x, .int d, .int k9, .int y] (dp (some (.int (cIf c b v w d f y))) (mSet cI F 69 (cM1 c b v w d f) (cM2 c b v w d f) (cM3 c b v w d f))) 0 0 := by
  refine mx_i (ty := .int) (by decide +kernel) rfl (Nat.le_of_ble_eq_true rfl) (fun p e s m below meth cd Q ls hx hb hml hown hts hDi hP hK hNW hS hret hl => ?_)
  have hown : s.vm.findClass RX5 = some m.cls := hown
  subst hxw
  subst hkf
  have hst : stp w f < 2 ^ 31 := by unfold stp; split <;> omega
  have hz0 : 0 < N := by omega
  have hz1 : 1 < N := by omega
  have hz1___1 : 1 + 1 < N := by omega
  have hz1___1___1 : 1 + 1 + 1 < N := by omega
  have hz1___1___2 : 1 + 1 + 2 < N := by omega
  have hz1___1___3 : 1 + 1 + 3 < N := by omega
  have hz1___5 : 1 + 5 < N := by omega
  have hz1___6 : 1 + 6 < N := by omega
  have hz1___7 : 1 + 7 < N := by omega
  have hz9 : 9 < N := by omega
  have hz17 : 17 < N := by omega
  have hz17___1 : 17 + 1 < N := by omega
  have hz67 : 67 < N := by omega
  have hz67___1 : 67 + 1 < N := by omega
  have hz69 : 69 < N := by omega
  have hz69___1 : 69 + 1 < N := by omega
  have hz69___2 : 69 + 2 < N := by omega
  have hz69___3 : 69 + 3 < N := by omega
  have hz73 : 73 < N := by omega
  have hz1___1___3 : 1 + 1 + 3 < N := by omega
  have hz69___3 : 69 + 3 < N := by omega
  have hl : lv_has ls 5 [(0, .ref (ad 0)), (1, .int (nI w)), (2, .int d), (3, .int (nI f)), (4, .int y)] := hl
  refine lv_iload_n hx hb (dk kX5_ifFlown_ok 0 rfl) rfl (lv_at hl 1 rfl) ?_
  refine csPv (As := [.int (nI w)]) (rest := []) ⟨hx, hb, hml, hown, hts⟩ (tX5_requireWink_ok l (nI w) (wk_nI hw)) (cwS9 1 hts mcX5_requireWink (ac9 _ (List.mem_of_getElem? (i := 6) rfl)) msX5_requireWink mini_RX5 rfl rfl hdX5_requireWink ⟨Nat.le_of_ble_eq_true rfl, Nat.le_of_ble_eq_true rfl⟩) rfl hl.1 rfl (Nat.le_of_ble_eq_true rfl) (by decide) (dk kX5_ifFlown_ok 1 rfl) ?_
  refine lv_iload_n hx hb (dk kX5_ifFlown_ok 2 rfl) rfl (lv_at hl 2 rfl) ?_
  refine lv_iload_n hx hb (dk kX5_ifFlown_ok 3 rfl) rfl (lv_at hl 3 rfl) ?_
  refine csPv (As := [.int d, .int (nI f)]) (rest := []) ⟨hx, hb, hml, hown, hts⟩ (tX5_requireFlight_ok l d (nI f) hd9 (btw_nI hf)) (cwS9 2 hts mcX5_requireFlight (ac9 _ (List.mem_of_getElem? (i := 9) rfl)) msX5_requireFlight mini_RX5 rfl rfl hdX5_requireFlight ⟨Nat.le_of_ble_eq_true rfl, Nat.le_of_ble_eq_true rfl⟩) rfl hl.1 rfl (Nat.le_of_ble_eq_true rfl) (by decide) (dk kX5_ifFlown_ok 4 rfl) ?_
  refine lv_iload hx hb (dk kX5_ifFlown_ok 5 rfl) (lv_at hl 4 rfl) ?_
  refine lv_if_lt (tgt := 20) hx hb (dk kX5_ifFlown_ok 6 rfl) (by decide) (fun h1 => ?_) (fun h1 => ?_)
  · exact absurd h1 (rng_ok hy9).1
  · skip
    refine lv_iload hx hb (dk kX5_ifFlown_ok 7 rfl) (lv_at hl 4 rfl) ?_
    refine lv_iconst (v := nI 1) hx hb (dk kX5_ifFlown_ok 8 rfl) rfl ?_
    refine lv_icmp_le (tgt := 31) hx hb (dk kX5_ifFlown_ok 9 rfl) (by decide) (fun h2 => ?_) (fun h2 => ?_)
    · skip
      refine lv_aload_n hx hb (dk kX5_ifFlown_ok 15 rfl) rfl (lv_at hl 0 rfl) ?_
      refine gf hx hb hts (fun w h => List.mem_cons_of_mem _ (acX5 w h)) hown hK hP hz0 hC rfl 0 (by decide) (hts _ (List.mem_cons_of_mem _ (ac7 _ (List.mem_of_getElem? (i := 21) rfl)))) (fun _ h => h) rfl (dk kX5_ifFlown_ok 16 rfl) ?_
      refine lv_iload_n hx hb (dk kX5_ifFlown_ok 17 rfl) rfl (lv_at hl 1 rfl) ?_
      refine cvR (As := [.int (nI w)]) (rest := []) ⟨hx, hb, hml, hown, hts⟩ (tX4_whyNotFlown l D cI cQ cL ad N F 1 (by omega) c b v g h j t u z hN ht (nI w) w rfl (by omega)) (cwV9 1 hts mcX4_whyNotFlown (ac9 _ (List.mem_of_getElem? (i := 12) rfl)) miX4_whyNotFlown meX4_whyNotFlown mini_RX4 rfl rfl hdX4_whyNotFlown ⟨Nat.le_of_ble_eq_true rfl, Nat.le_of_ble_eq_true rfl⟩) hK hP hNW hz1 hN.1 rfl rfl hl.1 rfl (Nat.le_of_ble_eq_true rfl) (by decide) (dk kX5_ifFlown_ok 18 rfl) ?_
      refine n_if_eq (tgt := 46) hx hb (by first | omega | (have q1 := wnf_le c v t w; omega)) (dk kX5_ifFlown_ok 19 rfl) (by decide) (fun h3 => ?_) (fun h3 => ?_)
      · skip
        refine lv_aload_n hx hb (dk kX5_ifFlown_ok 22 rfl) rfl (lv_at hl 0 rfl) ?_
        refine lv_iload_n hx hb (dk kX5_ifFlown_ok 23 rfl) rfl (lv_at hl 1 rfl) ?_
        refine lv_iload_n hx hb (dk kX5_ifFlown_ok 24 rfl) rfl (lv_at hl 2 rfl) ?_
        refine lv_iload_n hx hb (dk kX5_ifFlown_ok 25 rfl) rfl (lv_at hl 3 rfl) ?_
        refine cvDv (As := [.int (nI w), .int d, .int (nI f)]) (rest := []) (mSet cI F 69 (mov1 c b v w (rest9 w (ldg (c w) d (stp w f)))) (mov2 c b v w (rest9 w (ldg (c w) d (stp w f)))) (mov3 c b v w (rest9 w (ldg (c w) d (stp w f))))) ⟨hx, hb, hml, hown, hts⟩ (tX5_tryFlight l D cI cQ cL ad N F (by omega) c b v g h j t u z hN c8 b8 v8 g8 h8 j8 t8 u8 z8 hSn n9 m9 hn9 hm9 hPa a n hn60 hT c6 b6 v6 hM6 a7 d7 q7 hO hs hC (nI w) w rfl (by omega) d (nI f) f rfl (by omega)) (cwV9 3 hts mcX5_tryFlight (ac14 _ (List.mem_of_getElem? (i := 10) rfl)) miX5_tryFlight meX5_tryFlight mini_RX5 rfl rfl hdX5_tryFlight ⟨Nat.le_of_ble_eq_true rfl, Nat.le_of_ble_eq_true rfl⟩) hDi hK hP hNW hS hz0 hC rfl rfl hl.1 rfl (Nat.le_of_ble_eq_true rfl) (by decide) (dk kX5_ifFlown_ok 26 rfl) rfl (fun H locs hP hS => ?_)
        refine lv_iload hx hb (dk kX5_ifFlown_ok 27 rfl) (lv_at hl 4 rfl) ?_
        refine lv_if_ne (tgt := 72) hx hb (dk kX5_ifFlown_ok 28 rfl) (by decide) (fun h4 => ?_) (fun h4 => ?_)
        · skip
          refine lv_aload_n hx hb (dk kX5_ifFlown_ok 35 rfl) rfl (lv_at hl 0 rfl) ?_
          refine gf hx hb hts (fun w h => List.mem_cons_of_mem _ (acX5 w h)) hown hK hP hz0 ((mSet_out (by omega)).trans hC) rfl 4 (by decide) (hts _ (List.mem_cons_of_mem _ (ac8 _ (List.mem_of_getElem? (i := 7) rfl)))) (fun _ h => h) rfl (dk kX5_ifFlown_ok 36 rfl) ?_
          refine lv_iconst (v := nI 1) hx hb (dk kX5_ifFlown_ok 37 rfl) rfl ?_
          refine lv_iload_n hx hb (dk kX5_ifFlown_ok 38 rfl) rfl (lv_at hl 1 rfl) ?_
          refine csP (As := [.int (nI w)]) (rest := [.int (nI 1), .ref (ad 69)]) ⟨hx, hb, hml, hown, hts⟩ (tX5_teamOf l (nI w) w rfl (by omega)) (cwS9 1 hts mcX5_teamOf (ac14 _ (List.mem_of_getElem? (i := 14) rfl)) msX5_teamOf mini_RX5 rfl rfl hdX5_teamOf ⟨Nat.le_of_ble_eq_true rfl, Nat.le_of_ble_eq_true rfl⟩) rfl hl.1 rfl (Nat.le_of_ble_eq_true rfl) (by decide) (dk kX5_ifFlown_ok 39 rfl) ?_
          refine n_isub hx hb (by omega) (dk kX5_ifFlown_ok 40 rfl) ?_
          refine cvR (As := [.int (nI (1 - (w / 4 % 2)))]) (rest := []) ⟨hx, hb, hml, hown, hts⟩ (tX1_coveredOfTeam l D cI cQ cL ad N (mSet cI F 69 (mov1 c b v w (rest9 w (ldg (c w) d (stp w f)))) (mov2 c b v w (rest9 w (ldg (c w) d (stp w f)))) (mov3 c b v w (rest9 w (ldg (c w) d (stp w f))))) 69 (by omega) (mov1 c b v w (rest9 w (ldg (c w) d (stp w f)))) (mov2 c b v w (rest9 w (ldg (c w) d (stp w f)))) (mov3 c b v w (rest9 w (ldg (c w) d (stp w f)))) (mSet_at hM6) (nI (1 - (w / 4 % 2))) (1 - (w / 4 % 2)) rfl (by omega)) (cwV9 1 hts mcX1_coveredOfTeam (ac14 _ (List.mem_of_getElem? (i := 21) rfl)) miX1_coveredOfTeam meX1_coveredOfTeam mini_RX1 rfl rfl hdX1_coveredOfTeam ⟨Nat.le_of_ble_eq_true rfl, Nat.le_of_ble_eq_true rfl⟩) hK hP hNW hz69 (mSet_at hM6).1 rfl rfl hl.1 rfl (Nat.le_of_ble_eq_true rfl) (by decide) (dk kX5_ifFlown_ok 41 rfl) ?_
          exact hret _ _ _ _ _ _ _ _ rfl (by simp only [dp, cIf, cLd, cCv, cM1, cM2, cM3, (eq_false h1), (eq_true h2), (eq_true h3), (eq_false h4), not_true_eq_false, not_false_eq_true, and_true, true_and, and_false, false_and, or_true, true_or, or_false, false_or, and_self, or_self, if_true, if_false, Bool.false_eq_true, reduceIte]) hP hS (by decide) (by decide) (dk kX5_ifFlown_ok 42 rfl)
        · skip
          refine lv_aload_n hx hb (dk kX5_ifFlown_ok 29 rfl) rfl (lv_at hl 0 rfl) ?_
          refine gf hx hb hts (fun w h => List.mem_cons_of_mem _ (acX5 w h)) hown hK hP hz0 ((mSet_out (by omega)).trans hC) rfl 4 (by decide) (hts _ (List.mem_cons_of_mem _ (ac8 _ (List.mem_of_getElem? (i := 7) rfl)))) (fun _ h => h) rfl (dk kX5_ifFlown_ok 30 rfl) ?_
          refine lv_iload_n hx hb (dk kX5_ifFlown_ok 31 rfl) rfl (lv_at hl 1 rfl) ?_
          refine csP (As := [.int (nI w)]) (rest := [.ref (ad 69)]) ⟨hx, hb, hml, hown, hts⟩ (tX5_teamOf l (nI w) w rfl (by omega)) (cwS9 1 hts mcX5_teamOf (ac14 _ (List.mem_of_getElem? (i := 14) rfl)) msX5_teamOf mini_RX5 rfl rfl hdX5_teamOf ⟨Nat.le_of_ble_eq_true rfl, Nat.le_of_ble_eq_true rfl⟩) rfl hl.1 rfl (Nat.le_of_ble_eq_true rfl) (by decide) (dk kX5_ifFlown_ok 32 rfl) ?_
          refine cvR (As := [.int (nI (w / 4 % 2))]) (rest := []) ⟨hx, hb, hml, hown, hts⟩ (tX1_leadOf l D cI cQ cL ad N (mSet cI F 69 (mov1 c b v w (rest9 w (ldg (c w) d (stp w f)))) (mov2 c b v w (rest9 w (ldg (c w) d (stp w f)))) (mov3 c b v w (rest9 w (ldg (c w) d (stp w f))))) 69 (by omega) (mov1 c b v w (rest9 w (ldg (c w) d (stp w f)))) (mov2 c b v w (rest9 w (ldg (c w) d (stp w f)))) (mov3 c b v w (rest9 w (ldg (c w) d (stp w f)))) (mSet_at hM6) (nI (w / 4 % 2)) (w / 4 % 2) rfl (by omega)) (cwV9 1 hts mcX1_leadOf (ac14 _ (List.mem_of_getElem? (i := 17) rfl)) miX1_leadOf meX1_leadOf mini_RX1 rfl rfl hdX1_leadOf ⟨Nat.le_of_ble_eq_true rfl, Nat.le_of_ble_eq_true rfl⟩) hK hP hNW hz69 (mSet_at hM6).1 rfl rfl hl.1 rfl (Nat.le_of_ble_eq_true rfl) (by decide) (dk kX5_ifFlown_ok 33 rfl) ?_
          refine lv_goto (tgt := 85) hx hb (dk kX5_ifFlown_ok 34 rfl) (by decide) ?_
          exact hret _ _ _ _ _ _ _ _ rfl (by simp only [dp, cIf, cLd, cCv, cM1, cM2, cM3, (eq_false h1), (eq_true h2), (eq_true h3), (eq_true h4), not_true_eq_false, not_false_eq_true, and_true, true_and, and_false, false_and, or_true, true_or, or_false, false_or, and_self, or_self, if_true, if_false, Bool.false_eq_true, reduceIte]) hP hS (by decide) (by decide) (dk kX5_ifFlown_ok 42 rfl)
      · exact absurd hwn h3
    · exact absurd (Int32.not_le.mp h2) (rng_ok hy9).2
set_option maxRecDepth 100000 in
set_option maxHeartbeats 4000000 in
theorem tX5_ifFlownX (l : Launch) (D : va_G) (cI cQ cL : ClassId) (ad : Nat → Nat) (N : Nat) (F : Nat → va_E) (hk : 76 < N) (c b v g h j : Nat → Int32) (t : Nat) (u z : Int32) (hN : stAt cI ad F 1 c b v g h j (nI t) u z) (c8 b8 v8 g8 h8 j8 : Nat → Int32) (t8 : Nat) (u8 z8 : Int32) (hSn : stAt cI ad F 9 c8 b8 v8 g8 h8 j8 (nI t8) u8 z8) (n9 m9 : Nat) (hn9 : n9 < 6) (hm9 : m9 ≤ 6) (hPa : paAt cQ ad F 17 n9 m9) (a : Nat → Int32) (n : Nat) (hn60 : n ≤ 60) (hT : gtAt cI ad F 67 a n) (c6 b6 v6 : Nat → Int32) (hM6 : matAt cI ad F 69 c6 b6 v6) (a7 d7 q7 : Nat → Int32) (hO : roAt cI ad F 73 a7 d7 q7) (hs : Bool) (hC : F 0 = .inr (5, [.ref (ad 1), .ref (ad 9), .ref (ad 17), .ref (ad 67), .ref (ad 69), .ref (ad 73), .int (bI hs)])) (ht : t < 4) (x : Int32) (w : Nat) (hxw : x = nI w) (hw : w < 16) (d : Int32) (hd9 : btw d (nI 0) (nI 7) = true) (k9 : Int32) (f : Nat) (hkf : k9 = nI f) (hf : 1 ≤ f ∧ f ≤ 9) (y : Int32) (hy9 : btw y (nI 0) (nI 1) = true) (hwn : wnf c v t w ≠ 0) : MR l yX5_ifFlown (Cond.code yX5_ifFlown cX5_ifFlown 5 (some .int) :: AW) ({ frames := 8, cells := 0, slots := 0, locals := 123 } : Room) D cI cQ cL ad N F [.ref (ad 0), .int x, .int d, .int k9, .int y] (.int (-1000)) := by
  refine mr_i (ty := .int) (by decide +kernel) rfl rfl rfl rfl (Nat.le_of_ble_eq_true rfl) (fun p e s m below meth cd Q ls hx hb hml hown hts hP hK hNW hret hl => ?_)
  have hown : s.vm.findClass RX5 = some m.cls := hown
  subst hxw
  subst hkf
  have hz0 : 0 < N := by omega
  have hz1 : 1 < N := by omega
  have hz1___1 : 1 + 1 < N := by omega
  have hz1___1___1 : 1 + 1 + 1 < N := by omega
  have hz1___1___2 : 1 + 1 + 2 < N := by omega
  have hz1___1___3 : 1 + 1 + 3 < N := by omega
  have hz1___5 : 1 + 5 < N := by omega
  have hz1___6 : 1 + 6 < N := by omega
  have hz1___7 : 1 + 7 < N := by omega
  have hz9 : 9 < N := by omega
  have hz17 : 17 < N := by omega
  have hz17___1 : 17 + 1 < N := by omega
  have hz67 : 67 < N := by omega
  have hz67___1 : 67 + 1 < N := by omega
  have hz69 : 69 < N := by omega
  have hz69___1 : 69 + 1 < N := by omega
  have hz69___2 : 69 + 2 < N := by omega
  have hz69___3 : 69 + 3 < N := by omega
  have hz73 : 73 < N := by omega
  have hz1___1___3 : 1 + 1 + 3 < N := by omega
  have hz69___3 : 69 + 3 < N := by omega
  have hl : lv_has ls 5 [(0, .ref (ad 0)), (1, .int (nI w)), (2, .int d), (3, .int (nI f)), (4, .int y)] := hl
  refine lv_iload_n hx hb (dk kX5_ifFlown_ok 0 rfl) rfl (lv_at hl 1 rfl) ?_
  refine csPv (As := [.int (nI w)]) (rest := []) ⟨hx, hb, hml, hown, hts⟩ (tX5_requireWink_ok l (nI w) (wk_nI hw)) (cwS9 1 hts mcX5_requireWink (ac9 _ (List.mem_of_getElem? (i := 6) rfl)) msX5_requireWink mini_RX5 rfl rfl hdX5_requireWink ⟨Nat.le_of_ble_eq_true rfl, Nat.le_of_ble_eq_true rfl⟩) rfl hl.1 rfl (Nat.le_of_ble_eq_true rfl) (by decide) (dk kX5_ifFlown_ok 1 rfl) ?_
  refine lv_iload_n hx hb (dk kX5_ifFlown_ok 2 rfl) rfl (lv_at hl 2 rfl) ?_
  refine lv_iload_n hx hb (dk kX5_ifFlown_ok 3 rfl) rfl (lv_at hl 3 rfl) ?_
  refine csPv (As := [.int d, .int (nI f)]) (rest := []) ⟨hx, hb, hml, hown, hts⟩ (tX5_requireFlight_ok l d (nI f) hd9 (btw_nI hf)) (cwS9 2 hts mcX5_requireFlight (ac9 _ (List.mem_of_getElem? (i := 9) rfl)) msX5_requireFlight mini_RX5 rfl rfl hdX5_requireFlight ⟨Nat.le_of_ble_eq_true rfl, Nat.le_of_ble_eq_true rfl⟩) rfl hl.1 rfl (Nat.le_of_ble_eq_true rfl) (by decide) (dk kX5_ifFlown_ok 4 rfl) ?_
  refine lv_iload hx hb (dk kX5_ifFlown_ok 5 rfl) (lv_at hl 4 rfl) ?_
  refine lv_if_lt (tgt := 20) hx hb (dk kX5_ifFlown_ok 6 rfl) (by decide) (fun h1 => ?_) (fun h1 => ?_)
  · exact absurd h1 (rng_ok hy9).1
  · skip
    refine lv_iload hx hb (dk kX5_ifFlown_ok 7 rfl) (lv_at hl 4 rfl) ?_
    refine lv_iconst (v := nI 1) hx hb (dk kX5_ifFlown_ok 8 rfl) rfl ?_
    refine lv_icmp_le (tgt := 31) hx hb (dk kX5_ifFlown_ok 9 rfl) (by decide) (fun h2 => ?_) (fun h2 => ?_)
    · skip
      refine lv_aload_n hx hb (dk kX5_ifFlown_ok 15 rfl) rfl (lv_at hl 0 rfl) ?_
      refine gf hx hb hts (fun w h => List.mem_cons_of_mem _ (acX5 w h)) hown hK hP hz0 hC rfl 0 (by decide) (hts _ (List.mem_cons_of_mem _ (ac7 _ (List.mem_of_getElem? (i := 21) rfl)))) (fun _ h => h) rfl (dk kX5_ifFlown_ok 16 rfl) ?_
      refine lv_iload_n hx hb (dk kX5_ifFlown_ok 17 rfl) rfl (lv_at hl 1 rfl) ?_
      refine cvR (As := [.int (nI w)]) (rest := []) ⟨hx, hb, hml, hown, hts⟩ (tX4_whyNotFlown l D cI cQ cL ad N F 1 (by omega) c b v g h j t u z hN ht (nI w) w rfl (by omega)) (cwV9 1 hts mcX4_whyNotFlown (ac9 _ (List.mem_of_getElem? (i := 12) rfl)) miX4_whyNotFlown meX4_whyNotFlown mini_RX4 rfl rfl hdX4_whyNotFlown ⟨Nat.le_of_ble_eq_true rfl, Nat.le_of_ble_eq_true rfl⟩) hK hP hNW hz1 hN.1 rfl rfl hl.1 rfl (Nat.le_of_ble_eq_true rfl) (by decide) (dk kX5_ifFlown_ok 18 rfl) ?_
      refine n_if_eq (tgt := 46) hx hb (by first | omega | (have q1 := wnf_le c v t w; omega)) (dk kX5_ifFlown_ok 19 rfl) (by decide) (fun h3 => ?_) (fun h3 => ?_)
      · exact absurd h3 hwn
      · skip
        refine lv_sipush (v := -1000) hx hb (dk kX5_ifFlown_ok 20 rfl) rfl ?_
        exact hret _ _ _ (by rfl) (dk kX5_ifFlown_ok 21 rfl)
    · exact absurd (Int32.not_le.mp h2) (rng_ok hy9).2
set_option maxRecDepth 100000 in
set_option maxHeartbeats 4000000 in
theorem tX5_ifFlownX_b1 (l : Launch) (hst : l.stackTraces = false) (D : va_G) (cI cQ cL : ClassId) (ad : Nat → Nat) (N : Nat) (F : Nat → va_E) (hk : 76 < N) (c b v g h j : Nat → Int32) (t : Nat) (u z : Int32) (hN : stAt cI ad F 1 c b v g h j (nI t) u z) (c8 b8 v8 g8 h8 j8 : Nat → Int32) (t8 : Nat) (u8 z8 : Int32) (hSn : stAt cI ad F 9 c8 b8 v8 g8 h8 j8 (nI t8) u8 z8) (n9 m9 : Nat) (hn9 : n9 < 6) (hm9 : m9 ≤ 6) (hPa : paAt cQ ad F 17 n9 m9) (a : Nat → Int32) (n : Nat) (hn60 : n ≤ 60) (hT : gtAt cI ad F 67 a n) (c6 b6 v6 : Nat → Int32) (hM6 : matAt cI ad F 69 c6 b6 v6) (a7 d7 q7 : Nat → Int32) (hO : roAt cI ad F 73 a7 d7 q7) (hs : Bool) (hC : F 0 = .inr (5, [.ref (ad 1), .ref (ad 9), .ref (ad 17), .ref (ad 67), .ref (ad 69), .ref (ad 73), .int (bI hs)])) (x d k9 : Int32) (hwk : wk x = false) (y : Int32) : MT l yX5_ifFlown (Cond.code yX5_ifFlown cX5_ifFlown 5 (some .int) :: AW) ({ frames := 7, cells := 1, slots := 6, locals := 102 } : Room) D cI cQ cL ad N F [.ref (ad 0), .int x, .int d, .int k9, .int y] eI 1 6 := by
  refine mt_of (ret := (some .int)) hst (by decide +kernel) rfl (Nat.le_of_ble_eq_true rfl) (fun p e s m below meth cd Q ls hx hb hml hown hts hDi hP hK hNW hS hX hthr hthrW hout hl => ?_)
  have hown : s.vm.findClass RX5 = some m.cls := hown
  have hz0 : 0 < N := by omega
  have hz1 : 1 < N := by omega
  have hz1___1 : 1 + 1 < N := by omega
  have hz1___1___1 : 1 + 1 + 1 < N := by omega
  have hz1___1___2 : 1 + 1 + 2 < N := by omega
  have hz1___1___3 : 1 + 1 + 3 < N := by omega
  have hz1___5 : 1 + 5 < N := by omega
  have hz1___6 : 1 + 6 < N := by omega
  have hz1___7 : 1 + 7 < N := by omega
  have hz9 : 9 < N := by omega
  have hz17 : 17 < N := by omega
  have hz17___1 : 17 + 1 < N := by omega
  have hz67 : 67 < N := by omega
  have hz67___1 : 67 + 1 < N := by omega
  have hz69 : 69 < N := by omega
  have hz69___1 : 69 + 1 < N := by omega
  have hz69___2 : 69 + 2 < N := by omega
  have hz69___3 : 69 + 3 < N := by omega
  have hz73 : 73 < N := by omega
  have hz1___1___3 : 1 + 1 + 3 < N := by omega
  have hz69___3 : 69 + 3 < N := by omega
  have hl : lv_has ls 5 [(0, .ref (ad 0)), (1, .int x), (2, .int d), (3, .int k9), (4, .int y)] := hl
  refine lv_iload_n hx hb (dk kX5_ifFlown_ok 0 rfl) rfl (lv_at hl 1 rfl) ?_
  exact csT (As := [.int x]) (rest := []) ⟨hx, hb, hml, hown, hts⟩ (tX5_requireWink_b1 l hst D cI cQ cL ad N F x hwk) (cwS9 1 hts mcX5_requireWink (ac9 _ (List.mem_of_getElem? (i := 6) rfl)) msX5_requireWink mini_RX5 rfl rfl hdX5_requireWink ⟨Nat.le_of_ble_eq_true rfl, Nat.le_of_ble_eq_true rfl⟩) hDi hK hP hNW hS hX rfl hl.1 rfl (Nat.le_of_ble_eq_true rfl) (by decide) (dk kX5_ifFlown_ok 1 rfl) (fun H locs q ce hP hS h1 h2 h3 => hout _ _ _ H locs q ce _ _ hP hS h1 h2 h3 (by decide) (by decide))
set_option maxRecDepth 100000 in
set_option maxHeartbeats 4000000 in
theorem tX5_ifFlownX_b2 (l : Launch) (hst : l.stackTraces = false) (D : va_G) (cI cQ cL : ClassId) (ad : Nat → Nat) (N : Nat) (F : Nat → va_E) (hk : 76 < N) (c b v g h j : Nat → Int32) (t : Nat) (u z : Int32) (hN : stAt cI ad F 1 c b v g h j (nI t) u z) (c8 b8 v8 g8 h8 j8 : Nat → Int32) (t8 : Nat) (u8 z8 : Int32) (hSn : stAt cI ad F 9 c8 b8 v8 g8 h8 j8 (nI t8) u8 z8) (n9 m9 : Nat) (hn9 : n9 < 6) (hm9 : m9 ≤ 6) (hPa : paAt cQ ad F 17 n9 m9) (a : Nat → Int32) (n : Nat) (hn60 : n ≤ 60) (hT : gtAt cI ad F 67 a n) (c6 b6 v6 : Nat → Int32) (hM6 : matAt cI ad F 69 c6 b6 v6) (a7 d7 q7 : Nat → Int32) (hO : roAt cI ad F 73 a7 d7 q7) (hs : Bool) (hC : F 0 = .inr (5, [.ref (ad 1), .ref (ad 9), .ref (ad 17), .ref (ad 67), .ref (ad 69), .ref (ad 73), .int (bI hs)])) (x : Int32) (w : Nat) (hxw : x = nI w) (hw : w < 16) (d k9 : Int32) (hd9 : btw d (nI 0) (nI 7) = false) (y : Int32) : MT l yX5_ifFlown (Cond.code yX5_ifFlown cX5_ifFlown 5 (some .int) :: AW) ({ frames := 8, cells := 1, slots := 6, locals := 123 } : Room) D cI cQ cL ad N F [.ref (ad 0), .int x, .int d, .int k9, .int y] eA 1 6 := by
  refine mt_of (ret := (some .int)) hst (by decide +kernel) rfl (Nat.le_of_ble_eq_true rfl) (fun p e s m below meth cd Q ls hx hb hml hown hts hDi hP hK hNW hS hX hthr hthrW hout hl => ?_)
  have hown : s.vm.findClass RX5 = some m.cls := hown
  subst hxw
  have hz0 : 0 < N := by omega
  have hz1 : 1 < N := by omega
  have hz1___1 : 1 + 1 < N := by omega
  have hz1___1___1 : 1 + 1 + 1 < N := by omega
  have hz1___1___2 : 1 + 1 + 2 < N := by omega
  have hz1___1___3 : 1 + 1 + 3 < N := by omega
  have hz1___5 : 1 + 5 < N := by omega
  have hz1___6 : 1 + 6 < N := by omega
  have hz1___7 : 1 + 7 < N := by omega
  have hz9 : 9 < N := by omega
  have hz17 : 17 < N := by omega
  have hz17___1 : 17 + 1 < N := by omega
  have hz67 : 67 < N := by omega
  have hz67___1 : 67 + 1 < N := by omega
  have hz69 : 69 < N := by omega
  have hz69___1 : 69 + 1 < N := by omega
  have hz69___2 : 69 + 2 < N := by omega
  have hz69___3 : 69 + 3 < N := by omega
  have hz73 : 73 < N := by omega
  have hz1___1___3 : 1 + 1 + 3 < N := by omega
  have hz69___3 : 69 + 3 < N := by omega
  have hl : lv_has ls 5 [(0, .ref (ad 0)), (1, .int (nI w)), (2, .int d), (3, .int k9), (4, .int y)] := hl
  refine lv_iload_n hx hb (dk kX5_ifFlown_ok 0 rfl) rfl (lv_at hl 1 rfl) ?_
  refine csPv (As := [.int (nI w)]) (rest := []) ⟨hx, hb, hml, hown, hts⟩ (tX5_requireWink_ok l (nI w) (wk_nI hw)) (cwS9 1 hts mcX5_requireWink (ac9 _ (List.mem_of_getElem? (i := 6) rfl)) msX5_requireWink mini_RX5 rfl rfl hdX5_requireWink ⟨Nat.le_of_ble_eq_true rfl, Nat.le_of_ble_eq_true rfl⟩) rfl hl.1 rfl (Nat.le_of_ble_eq_true rfl) (by decide) (dk kX5_ifFlown_ok 1 rfl) ?_
  refine lv_iload_n hx hb (dk kX5_ifFlown_ok 2 rfl) rfl (lv_at hl 2 rfl) ?_
  refine lv_iload_n hx hb (dk kX5_ifFlown_ok 3 rfl) rfl (lv_at hl 3 rfl) ?_
  exact csT (As := [.int d, .int k9]) (rest := []) ⟨hx, hb, hml, hown, hts⟩ (tX5_requireFlight_b1 l hst D cI cQ cL ad N F d k9 hd9) (cwS9 2 hts mcX5_requireFlight (ac9 _ (List.mem_of_getElem? (i := 9) rfl)) msX5_requireFlight mini_RX5 rfl rfl hdX5_requireFlight ⟨Nat.le_of_ble_eq_true rfl, Nat.le_of_ble_eq_true rfl⟩) hDi hK hP hNW hS hX rfl hl.1 rfl (Nat.le_of_ble_eq_true rfl) (by decide) (dk kX5_ifFlown_ok 4 rfl) (fun H locs q ce hP hS h1 h2 h3 => hout _ _ _ H locs q ce _ _ hP hS h1 h2 h3 (by decide) (by decide))
set_option maxRecDepth 100000 in
set_option maxHeartbeats 4000000 in
theorem tX5_ifFlownX_b3 (l : Launch) (hst : l.stackTraces = false) (D : va_G) (cI cQ cL : ClassId) (ad : Nat → Nat) (N : Nat) (F : Nat → va_E) (hk : 76 < N) (c b v g h j : Nat → Int32) (t : Nat) (u z : Int32) (hN : stAt cI ad F 1 c b v g h j (nI t) u z) (c8 b8 v8 g8 h8 j8 : Nat → Int32) (t8 : Nat) (u8 z8 : Int32) (hSn : stAt cI ad F 9 c8 b8 v8 g8 h8 j8 (nI t8) u8 z8) (n9 m9 : Nat) (hn9 : n9 < 6) (hm9 : m9 ≤ 6) (hPa : paAt cQ ad F 17 n9 m9) (a : Nat → Int32) (n : Nat) (hn60 : n ≤ 60) (hT : gtAt cI ad F 67 a n) (c6 b6 v6 : Nat → Int32) (hM6 : matAt cI ad F 69 c6 b6 v6) (a7 d7 q7 : Nat → Int32) (hO : roAt cI ad F 73 a7 d7 q7) (hs : Bool) (hC : F 0 = .inr (5, [.ref (ad 1), .ref (ad 9), .ref (ad 17), .ref (ad 67), .ref (ad 69), .ref (ad 73), .int (bI hs)])) (x : Int32) (w : Nat) (hxw : x = nI w) (hw : w < 16) (d k9 : Int32) (hd9 : btw d (nI 0) (nI 7) = true) (hf9 : btw k9 (nI 1) (nI 9) = false) (y : Int32) : MT l yX5_ifFlown (Cond.code yX5_ifFlown cX5_ifFlown 5 (some .int) :: AW) ({ frames := 8, cells := 1, slots := 6, locals := 123 } : Room) D cI cQ cL ad N F [.ref (ad 0), .int x, .int d, .int k9, .int y] eA 1 6 := by
  refine mt_of (ret := (some .int)) hst (by decide +kernel) rfl (Nat.le_of_ble_eq_true rfl) (fun p e s m below meth cd Q ls hx hb hml hown hts hDi hP hK hNW hS hX hthr hthrW hout hl => ?_)
  have hown : s.vm.findClass RX5 = some m.cls := hown
  subst hxw
  have hz0 : 0 < N := by omega
  have hz1 : 1 < N := by omega
  have hz1___1 : 1 + 1 < N := by omega
  have hz1___1___1 : 1 + 1 + 1 < N := by omega
  have hz1___1___2 : 1 + 1 + 2 < N := by omega
  have hz1___1___3 : 1 + 1 + 3 < N := by omega
  have hz1___5 : 1 + 5 < N := by omega
  have hz1___6 : 1 + 6 < N := by omega
  have hz1___7 : 1 + 7 < N := by omega
  have hz9 : 9 < N := by omega
  have hz17 : 17 < N := by omega
  have hz17___1 : 17 + 1 < N := by omega
  have hz67 : 67 < N := by omega
  have hz67___1 : 67 + 1 < N := by omega
  have hz69 : 69 < N := by omega
  have hz69___1 : 69 + 1 < N := by omega
  have hz69___2 : 69 + 2 < N := by omega
  have hz69___3 : 69 + 3 < N := by omega
  have hz73 : 73 < N := by omega
  have hz1___1___3 : 1 + 1 + 3 < N := by omega
  have hz69___3 : 69 + 3 < N := by omega
  have hl : lv_has ls 5 [(0, .ref (ad 0)), (1, .int (nI w)), (2, .int d), (3, .int k9), (4, .int y)] := hl
  refine lv_iload_n hx hb (dk kX5_ifFlown_ok 0 rfl) rfl (lv_at hl 1 rfl) ?_
  refine csPv (As := [.int (nI w)]) (rest := []) ⟨hx, hb, hml, hown, hts⟩ (tX5_requireWink_ok l (nI w) (wk_nI hw)) (cwS9 1 hts mcX5_requireWink (ac9 _ (List.mem_of_getElem? (i := 6) rfl)) msX5_requireWink mini_RX5 rfl rfl hdX5_requireWink ⟨Nat.le_of_ble_eq_true rfl, Nat.le_of_ble_eq_true rfl⟩) rfl hl.1 rfl (Nat.le_of_ble_eq_true rfl) (by decide) (dk kX5_ifFlown_ok 1 rfl) ?_
  refine lv_iload_n hx hb (dk kX5_ifFlown_ok 2 rfl) rfl (lv_at hl 2 rfl) ?_
  refine lv_iload_n hx hb (dk kX5_ifFlown_ok 3 rfl) rfl (lv_at hl 3 rfl) ?_
  exact csT (As := [.int d, .int k9]) (rest := []) ⟨hx, hb, hml, hown, hts⟩ (tX5_requireFlight_b2 l hst D cI cQ cL ad N F d k9 hd9 hf9) (cwS9 2 hts mcX5_requireFlight (ac9 _ (List.mem_of_getElem? (i := 9) rfl)) msX5_requireFlight mini_RX5 rfl rfl hdX5_requireFlight ⟨Nat.le_of_ble_eq_true rfl, Nat.le_of_ble_eq_true rfl⟩) hDi hK hP hNW hS hX rfl hl.1 rfl (Nat.le_of_ble_eq_true rfl) (by decide) (dk kX5_ifFlown_ok 4 rfl) (fun H locs q ce hP hS h1 h2 h3 => hout _ _ _ H locs q ce _ _ hP hS h1 h2 h3 (by decide) (by decide))
set_option maxRecDepth 100000 in
set_option maxHeartbeats 4000000 in
theorem tX5_ifFlownX_b4 (l : Launch) (hst : l.stackTraces = false) (D : va_G) (cI cQ cL : ClassId) (ad : Nat → Nat) (N : Nat) (F : Nat → va_E) (hk : 76 < N) (c b v g h j : Nat → Int32) (t : Nat) (u z : Int32) (hN : stAt cI ad F 1 c b v g h j (nI t) u z) (c8 b8 v8 g8 h8 j8 : Nat → Int32) (t8 : Nat) (u8 z8 : Int32) (hSn : stAt cI ad F 9 c8 b8 v8 g8 h8 j8 (nI t8) u8 z8) (n9 m9 : Nat) (hn9 : n9 < 6) (hm9 : m9 ≤ 6) (hPa : paAt cQ ad F 17 n9 m9) (a : Nat → Int32) (n : Nat) (hn60 : n ≤ 60) (hT : gtAt cI ad F 67 a n) (c6 b6 v6 : Nat → Int32) (hM6 : matAt cI ad F 69 c6 b6 v6) (a7 d7 q7 : Nat → Int32) (hO : roAt cI ad F 73 a7 d7 q7) (hs : Bool) (hC : F 0 = .inr (5, [.ref (ad 1), .ref (ad 9), .ref (ad 17), .ref (ad 67), .ref (ad 69), .ref (ad 73), .int (bI hs)])) (x : Int32) (w : Nat) (hxw : x = nI w) (hw : w < 16) (d : Int32) (hd9 : btw d (nI 0) (nI 7) = true) (k9 : Int32) (f : Nat) (hkf : k9 = nI f) (hf : 1 ≤ f ∧ f ≤ 9) (y : Int32) (hy9 : btw y (nI 0) (nI 1) = false) : MT l yX5_ifFlown (Cond.code yX5_ifFlown cX5_ifFlown 5 (some .int) :: AW) ({ frames := 8, cells := 1, slots := 6, locals := 123 } : Room) D cI cQ cL ad N F [.ref (ad 0), .int x, .int d, .int k9, .int y] eA 1 6 := by
  refine mt_of (ret := (some .int)) hst (by decide +kernel) rfl (Nat.le_of_ble_eq_true rfl) (fun p e s m below meth cd Q ls hx hb hml hown hts hDi hP hK hNW hS hX hthr hthrW hout hl => ?_)
  have hown : s.vm.findClass RX5 = some m.cls := hown
  subst hxw
  subst hkf
  have hz0 : 0 < N := by omega
  have hz1 : 1 < N := by omega
  have hz1___1 : 1 + 1 < N := by omega
  have hz1___1___1 : 1 + 1 + 1 < N := by omega
  have hz1___1___2 : 1 + 1 + 2 < N := by omega
  have hz1___1___3 : 1 + 1 + 3 < N := by omega
  have hz1___5 : 1 + 5 < N := by omega
  have hz1___6 : 1 + 6 < N := by omega
  have hz1___7 : 1 + 7 < N := by omega
  have hz9 : 9 < N := by omega
  have hz17 : 17 < N := by omega
  have hz17___1 : 17 + 1 < N := by omega
  have hz67 : 67 < N := by omega
  have hz67___1 : 67 + 1 < N := by omega
  have hz69 : 69 < N := by omega
  have hz69___1 : 69 + 1 < N := by omega
  have hz69___2 : 69 + 2 < N := by omega
  have hz69___3 : 69 + 3 < N := by omega
  have hz73 : 73 < N := by omega
  have hz1___1___3 : 1 + 1 + 3 < N := by omega
  have hz69___3 : 69 + 3 < N := by omega
  have hl : lv_has ls 5 [(0, .ref (ad 0)), (1, .int (nI w)), (2, .int d), (3, .int (nI f)), (4, .int y)] := hl
  refine lv_iload_n hx hb (dk kX5_ifFlown_ok 0 rfl) rfl (lv_at hl 1 rfl) ?_
  refine csPv (As := [.int (nI w)]) (rest := []) ⟨hx, hb, hml, hown, hts⟩ (tX5_requireWink_ok l (nI w) (wk_nI hw)) (cwS9 1 hts mcX5_requireWink (ac9 _ (List.mem_of_getElem? (i := 6) rfl)) msX5_requireWink mini_RX5 rfl rfl hdX5_requireWink ⟨Nat.le_of_ble_eq_true rfl, Nat.le_of_ble_eq_true rfl⟩) rfl hl.1 rfl (Nat.le_of_ble_eq_true rfl) (by decide) (dk kX5_ifFlown_ok 1 rfl) ?_
  refine lv_iload_n hx hb (dk kX5_ifFlown_ok 2 rfl) rfl (lv_at hl 2 rfl) ?_
  refine lv_iload_n hx hb (dk kX5_ifFlown_ok 3 rfl) rfl (lv_at hl 3 rfl) ?_
  refine csPv (As := [.int d, .int (nI f)]) (rest := []) ⟨hx, hb, hml, hown, hts⟩ (tX5_requireFlight_ok l d (nI f) hd9 (btw_nI hf)) (cwS9 2 hts mcX5_requireFlight (ac9 _ (List.mem_of_getElem? (i := 9) rfl)) msX5_requireFlight mini_RX5 rfl rfl hdX5_requireFlight ⟨Nat.le_of_ble_eq_true rfl, Nat.le_of_ble_eq_true rfl⟩) rfl hl.1 rfl (Nat.le_of_ble_eq_true rfl) (by decide) (dk kX5_ifFlown_ok 4 rfl) ?_
  refine lv_iload hx hb (dk kX5_ifFlown_ok 5 rfl) (lv_at hl 4 rfl) ?_
  refine lv_if_lt (tgt := 20) hx hb (dk kX5_ifFlown_ok 6 rfl) (by decide) (fun h1 => ?_) (fun h1 => ?_)
  · skip
    exact hthrW 104 108 260 20 "what is 0 or 1" ls [] _ _ 0 0 (by decide) (by decide) hP hS hl.1 (dk kX5_ifFlown_ok 10 rfl) (dk kX5_ifFlown_ok 11 rfl) (dk kX5_ifFlown_ok 12 rfl) (dk kX5_ifFlown_ok 13 rfl) (dk kX5_ifFlown_ok 14 rfl) (by decide) (by decide) (by decide) (by decide) (by decide) (by decide)
  · skip
    refine lv_iload hx hb (dk kX5_ifFlown_ok 7 rfl) (lv_at hl 4 rfl) ?_
    refine lv_iconst (v := nI 1) hx hb (dk kX5_ifFlown_ok 8 rfl) rfl ?_
    refine lv_icmp_le (tgt := 31) hx hb (dk kX5_ifFlown_ok 9 rfl) (by decide) (fun h2 => ?_) (fun h2 => ?_)
    · exact (ff_tt hy9 (rng_bad h1 (Int32.not_lt.mpr h2))).elim
    · skip
      exact hthrW 104 108 260 20 "what is 0 or 1" ls [] _ _ 0 0 (by decide) (by decide) hP hS hl.1 (dk kX5_ifFlown_ok 10 rfl) (dk kX5_ifFlown_ok 11 rfl) (dk kX5_ifFlown_ok 12 rfl) (dk kX5_ifFlown_ok 13 rfl) (dk kX5_ifFlown_ok 14 rfl) (by decide) (by decide) (by decide) (by decide) (by decide) (by decide)
set_option maxRecDepth 100000 in
set_option maxHeartbeats 4000000 in
theorem tX5_best (l : Launch) (D : va_G) (cI cQ cL : ClassId) (ad : Nat → Nat) (N : Nat) (F : Nat → va_E) (hk : 76 < N) (c b v g h j : Nat → Int32) (t : Nat) (u z : Int32) (hN : stAt cI ad F 1 c b v g h j (nI t) u z) (c8 b8 v8 g8 h8 j8 : Nat → Int32) (t8 : Nat) (u8 z8 : Int32) (hSn : stAt cI ad F 9 c8 b8 v8 g8 h8 j8 (nI t8) u8 z8) (n9 m9 : Nat) (hn9 : n9 < 6) (hm9 : m9 ≤ 6) (hPa : paAt cQ ad F 17 n9 m9) (a : Nat → Int32) (n : Nat) (hn60 : n ≤ 60) (hT : gtAt cI ad F 67 a n) (c6 b6 v6 : Nat → Int32) (hM6 : matAt cI ad F 69 c6 b6 v6) (a7 d7 q7 : Nat → Int32) (hO : roAt cI ad F 73 a7 d7 q7) (hs : Bool) (hC : F 0 = .inr (5, [.ref (ad 1), .ref (ad 9), .ref (ad 17), .ref (ad 67), .ref (ad 69), .ref (ad 73), .int (bI hs)])) (ht : t < 4) : MX l yX5_best (Cond.code yX5_best cX5_best 11 (some .int) :: AW) ({ frames := 5, cells := 0, slots := 0, locals := 108 } : Room) D cI cQ cL ad N F [.ref (ad 0)] (dp (some (.int (cbO c b v t ((-1 : Int32), nI 0, nI 0, c6, b6, v6) 16).1)) (mSet cI F 69 ((cbO c b v t ((-1 : Int32), nI 0, nI 0, c6, b6, v6) 16).2.2.2.1) ((cbO c b v t ((-1 : Int32), nI 0, nI 0, c6, b6, v6) 16).2.2.2.2.1) ((cbO c b v t ((-1 : Int32), nI 0, nI 0, c6, b6, v6) 16).2.2.2.2.2))) 0 0 := by
  refine mx_i (ty := .int) (by decide +kernel) rfl (Nat.le_of_ble_eq_true rfl) (fun p e s m below meth cd Q ls hx hb hml hown hts hDi hP hK hNW hS hret hl => ?_)
  have hown : s.vm.findClass RX5 = some m.cls := hown
  have hz0 : 0 < N := by omega
  have hz1 : 1 < N := by omega
  have hz1___1 : 1 + 1 < N := by omega
  have hz1___1___1 : 1 + 1 + 1 < N := by omega
  have hz1___1___2 : 1 + 1 + 2 < N := by omega
  have hz1___1___3 : 1 + 1 + 3 < N := by omega
  have hz1___5 : 1 + 5 < N := by omega
  have hz1___6 : 1 + 6 < N := by omega
  have hz1___7 : 1 + 7 < N := by omega
  have hz9 : 9 < N := by omega
  have hz17 : 17 < N := by omega
  have hz17___1 : 17 + 1 < N := by omega
  have hz67 : 67 < N := by omega
  have hz67___1 : 67 + 1 < N := by omega
  have hz69 : 69 < N := by omega
  have hz69___1 : 69 + 1 < N := by omega
  have hz69___2 : 69 + 2 < N := by omega
  have hz69___3 : 69 + 3 < N := by omega
  have hz73 : 73 < N := by omega
  have hz1___1___3 : 1 + 1 + 3 < N := by omega
  have hz69___3 : 69 + 3 < N := by omega
  have hl : lv_has ls 11 [(0, .ref (ad 0))] := hl
  refine lv_iconst (v := -1) hx hb (dk kX5_best_0_ok 0 rfl) rfl ?_
  refine lv_istore_n (lv' := [(1, .int (-1)), (0, .ref (ad 0))]) hx hb (dk kX5_best_0_ok 1 rfl) rfl hl (by decide) rfl (fun ls hl => ?_)
  refine lv_iconst (v := nI 0) hx hb (dk kX5_best_0_ok 2 rfl) rfl ?_
  refine lv_istore_n (lv' := [(2, .int (nI 0)), (1, .int (-1)), (0, .ref (ad 0))]) hx hb (dk kX5_best_0_ok 3 rfl) rfl hl (by decide) rfl (fun ls hl => ?_)
  refine lv_iconst (v := nI 0) hx hb (dk kX5_best_0_ok 4 rfl) rfl ?_
  refine lv_istore_n (lv' := [(3, .int (nI 0)), (2, .int (nI 0)), (1, .int (-1)), (0, .ref (ad 0))]) hx hb (dk kX5_best_0_ok 5 rfl) rfl hl (by decide) rfl (fun ls hl => ?_)
  refine lv_iconst (v := nI 0) hx hb (dk kX5_best_0_ok 6 rfl) rfl ?_
  refine lv_istore (lv' := [(4, .int (nI 0)), (3, .int (nI 0)), (2, .int (nI 0)), (1, .int (-1)), (0, .ref (ad 0))]) hx hb (dk kX5_best_0_ok 7 rfl) hl (by decide) rfl (fun ls hl => ?_)
  have L9 : ∀ (fu : Nat) (w : Nat) (x1 : Int32) (x2 : Int32) (x3 : Int32) (H : Heap) (locs : List Loc), va_P D vwCl (iW ad N (mSet cI F 69 ((cbO c b v t ((-1 : Int32), nI 0, nI 0, c6, b6, v6) w).2.2.2.1) ((cbO c b v t ((-1 : Int32), nI 0, nI 0, c6, b6, v6) w).2.2.2.2.1) ((cbO c b v t ((-1 : Int32), nI 0, nI 0, c6, b6, v6) w).2.2.2.2.2))) H → va_S (iA ad N s.heap.size) s.heap H locs → x1 = (cbO c b v t ((-1 : Int32), nI 0, nI 0, c6, b6, v6) w).1 → x2 = (cbO c b v t ((-1 : Int32), nI 0, nI 0, c6, b6, v6) w).2.1 → x3 = (cbO c b v t ((-1 : Int32), nI 0, nI 0, c6, b6, v6) w).2.2.1 → w ≤ 16 → 16 - w < fu → ∀ ls : Array Slot, lv_has ls 11 [(0, .ref (ad 0)), (1, .int x1), (2, .int x2), (3, .int x3), (4, .int (nI w))] → W p l e ({ frames := 5, cells := 0, slots := 0, locals := 108 } : Room) s m ([.ref (ad 0)] : List Value).toArray below meth cd H locs 0 0 Q (F0 m 9 ls []) := by
    intro fu
    induction fu with
    | zero => intros; omega
    | succ fu ih9 =>
      intro w x1 x2 x3 H locs hP hS ex1 ex2 ex3 hw hme9 ls hl
      subst ex1
      subst ex2
      subst ex3
      refine lv_iload hx hb (dk kX5_best_0_ok 8 rfl) (lv_at hl 4 rfl) ?_
      refine lv_bipush (v := nI 16) hx hb (dk kX5_best_0_ok 9 rfl) rfl ?_
      refine n_icmp_ge (tgt := 154) hx hb (by first | omega | (have q1 := wnf_le c v t w; omega)) (by decide) (dk kX5_best_0_ok 10 rfl) (by decide) (fun h1 => ?_) (fun h1 => ?_)
      · skip
        refine lv_iload_n hx hb (dk kX5_best_1_ok 22 rfl) rfl (lv_at hl 1 rfl) ?_
        exact hret _ _ _ _ _ _ _ _ rfl (by rw [show w = 16 by omega]; exact ⟨rfl, rfl⟩) hP hS (by decide) (by decide) (dk kX5_best_1_ok 23 rfl)
      · skip
        refine lv_aload_n hx hb (dk kX5_best_0_ok 11 rfl) rfl (lv_at hl 0 rfl) ?_
        refine gf hx hb hts (fun w h => List.mem_cons_of_mem _ (acX5 w h)) hown hK hP hz0 ((mSet_out (by omega)).trans hC) rfl 0 (by decide) (hts _ (List.mem_cons_of_mem _ (ac7 _ (List.mem_of_getElem? (i := 21) rfl)))) (fun _ h => h) rfl (dk kX5_best_0_ok 12 rfl) ?_
        refine lv_iload hx hb (dk kX5_best_0_ok 13 rfl) (lv_at hl 4 rfl) ?_
        refine cvR (As := [.int (nI w)]) (rest := []) ⟨hx, hb, hml, hown, hts⟩ (tX4_whyNotFlown l D cI cQ cL ad N (mSet cI F 69 ((cbO c b v t ((-1 : Int32), nI 0, nI 0, c6, b6, v6) w).2.2.2.1) ((cbO c b v t ((-1 : Int32), nI 0, nI 0, c6, b6, v6) w).2.2.2.2.1) ((cbO c b v t ((-1 : Int32), nI 0, nI 0, c6, b6, v6) w).2.2.2.2.2)) 1 (by omega) c b v g h j t u z (stAt_keep hN (fun i _ _ => mSet_out (by omega))) ht (nI w) w rfl (by omega)) (cwV9 1 hts mcX4_whyNotFlown (ac9 _ (List.mem_of_getElem? (i := 12) rfl)) miX4_whyNotFlown meX4_whyNotFlown mini_RX4 rfl rfl hdX4_whyNotFlown ⟨Nat.le_of_ble_eq_true rfl, Nat.le_of_ble_eq_true rfl⟩) hK hP hNW hz1 (stAt_keep hN (fun i _ _ => mSet_out (by omega))).1 rfl rfl hl.1 rfl (Nat.le_of_ble_eq_true rfl) (by decide) (dk kX5_best_0_ok 14 rfl) ?_
        refine n_if_eq (tgt := 31) hx hb (by first | omega | (have q1 := wnf_le c v t w; omega)) (dk kX5_best_0_ok 15 rfl) (by decide) (fun h2 => ?_) (fun h2 => ?_)
        · skip
          refine lv_iload hx hb (dk kX5_best_0_ok 17 rfl) (lv_at hl 4 rfl) ?_
          refine csP (As := [.int (nI w)]) (rest := []) ⟨hx, hb, hml, hown, hts⟩ (tX5_teamOf l (nI w) w rfl (by omega)) (cwS9 1 hts mcX5_teamOf (ac14 _ (List.mem_of_getElem? (i := 14) rfl)) msX5_teamOf mini_RX5 rfl rfl hdX5_teamOf ⟨Nat.le_of_ble_eq_true rfl, Nat.le_of_ble_eq_true rfl⟩) rfl hl.1 rfl (Nat.le_of_ble_eq_true rfl) (by decide) (dk kX5_best_0_ok 18 rfl) ?_
          refine lv_istore (lv' := [(5, .int (nI (w / 4 % 2))), (0, .ref (ad 0)), (1, .int ((cbO c b v t ((-1 : Int32), nI 0, nI 0, c6, b6, v6) w).1)), (2, .int ((cbO c b v t ((-1 : Int32), nI 0, nI 0, c6, b6, v6) w).2.1)), (3, .int ((cbO c b v t ((-1 : Int32), nI 0, nI 0, c6, b6, v6) w).2.2.1)), (4, .int (nI w))]) hx hb (dk kX5_best_0_ok 19 rfl) hl (by decide) rfl (fun ls hl => ?_)
          refine lv_iconst (v := nI 0) hx hb (dk kX5_best_0_ok 20 rfl) rfl ?_
          refine lv_istore (lv' := [(6, .int (nI 0)), (5, .int (nI (w / 4 % 2))), (0, .ref (ad 0)), (1, .int ((cbO c b v t ((-1 : Int32), nI 0, nI 0, c6, b6, v6) w).1)), (2, .int ((cbO c b v t ((-1 : Int32), nI 0, nI 0, c6, b6, v6) w).2.1)), (3, .int ((cbO c b v t ((-1 : Int32), nI 0, nI 0, c6, b6, v6) w).2.2.1)), (4, .int (nI w))]) hx hb (dk kX5_best_0_ok 21 rfl) hl (by decide) rfl (fun ls hl => ?_)
          have L41 : ∀ (fu : Nat) (i : Nat) (x1 : Int32) (x2 : Int32) (x3 : Int32) (H : Heap) (locs : List Loc), va_P D vwCl (iW ad N (mSet cI F 69 ((cbI c b v w i (cbO c b v t ((-1 : Int32), nI 0, nI 0, c6, b6, v6) w)).2.2.2.1) ((cbI c b v w i (cbO c b v t ((-1 : Int32), nI 0, nI 0, c6, b6, v6) w)).2.2.2.2.1) ((cbI c b v w i (cbO c b v t ((-1 : Int32), nI 0, nI 0, c6, b6, v6) w)).2.2.2.2.2))) H → va_S (iA ad N s.heap.size) s.heap H locs → x1 = (cbI c b v w i (cbO c b v t ((-1 : Int32), nI 0, nI 0, c6, b6, v6) w)).1 → x2 = (cbI c b v w i (cbO c b v t ((-1 : Int32), nI 0, nI 0, c6, b6, v6) w)).2.1 → x3 = (cbI c b v w i (cbO c b v t ((-1 : Int32), nI 0, nI 0, c6, b6, v6) w)).2.2.1 → i ≤ 72 → 72 - i < fu → ∀ ls : Array Slot, lv_has ls 11 [(0, .ref (ad 0)), (1, .int x1), (2, .int x2), (3, .int x3), (4, .int (nI w)), (5, .int (nI (w / 4 % 2))), (6, .int (nI i))] → W p l e ({ frames := 5, cells := 0, slots := 0, locals := 108 } : Room) s m ([.ref (ad 0)] : List Value).toArray below meth cd H locs 0 0 Q (F0 m 41 ls []) := by
            intro fu
            induction fu with
            | zero => intros; omega
            | succ fu ih41 =>
              intro i x1 x2 x3 H locs hP hS ex1 ex2 ex3 hi hme41 ls hl
              subst ex1
              subst ex2
              subst ex3
              refine lv_iload hx hb (dk kX5_best_0_ok 22 rfl) (lv_at hl 6 rfl) ?_
              refine lv_bipush (v := nI 72) hx hb (dk kX5_best_0_ok 23 rfl) rfl ?_
              refine n_icmp_ge (tgt := 148) hx hb (by first | omega | (have q1 := wnf_le c v t w; omega)) (by decide) (dk kX5_best_0_ok 24 rfl) (by decide) (fun h3 => ?_) (fun h3 => ?_)
              · skip
                refine lv_iinc (v := nI (w + 1)) (lv' := [(4, .int (nI (w + 1))), (0, .ref (ad 0)), (1, .int ((cbI c b v w i (cbO c b v t ((-1 : Int32), nI 0, nI 0, c6, b6, v6) w)).1)), (2, .int ((cbI c b v w i (cbO c b v t ((-1 : Int32), nI 0, nI 0, c6, b6, v6) w)).2.1)), (3, .int ((cbI c b v w i (cbO c b v t ((-1 : Int32), nI 0, nI 0, c6, b6, v6) w)).2.2.1)), (5, .int (nI (w / 4 % 2))), (6, .int (nI i))]) hx hb (dk kX5_best_1_ok 20 rfl) hl (k := 4) rfl (n_inc _) (by decide) rfl (fun ls hl => ?_)
                refine lv_goto (tgt := 9) hx hb (dk kX5_best_1_ok 21 rfl) (by decide) ?_
                exact ih9 (w + 1) _ _ _ _ _ (by first | (rw [cbO_0]; exact m_touch hM6 hP) | (rw [cbO_n h2]; exact hP) | (obtain rfl : i = 72 := (by omega); rw [cbO_s h2]; exact hP)) hS (by first | (rw [cbO_n h2]; done) | (obtain rfl : i = 72 := (by omega); rw [cbO_s h2])) (by first | (rw [cbO_n h2]; done) | (obtain rfl : i = 72 := (by omega); rw [cbO_s h2])) (by first | (rw [cbO_n h2]; done) | (obtain rfl : i = 72 := (by omega); rw [cbO_s h2])) (by omega) (by omega) ls (lv_sub hl [1, 2, 3, 4, 0] rfl)
              · skip
                refine lv_iload hx hb (dk kX5_best_0_ok 25 rfl) (lv_at hl 6 rfl) ?_
                refine lv_bipush (v := nI 9) hx hb (dk kX5_best_0_ok 26 rfl) rfl ?_
                refine n_idiv hx hb (by first | omega | (have q1 := wnf_le c v t w; omega)) (by decide) (by decide) (dk kX5_best_0_ok 27 rfl) ?_
                refine lv_istore (lv' := [(7, .int (nI (i / 9))), (0, .ref (ad 0)), (1, .int ((cbI c b v w i (cbO c b v t ((-1 : Int32), nI 0, nI 0, c6, b6, v6) w)).1)), (2, .int ((cbI c b v w i (cbO c b v t ((-1 : Int32), nI 0, nI 0, c6, b6, v6) w)).2.1)), (3, .int ((cbI c b v w i (cbO c b v t ((-1 : Int32), nI 0, nI 0, c6, b6, v6) w)).2.2.1)), (4, .int (nI w)), (5, .int (nI (w / 4 % 2))), (6, .int (nI i))]) hx hb (dk kX5_best_0_ok 28 rfl) hl (by decide) rfl (fun ls hl => ?_)
                refine lv_iload hx hb (dk kX5_best_0_ok 29 rfl) (lv_at hl 7 rfl) ?_
                refine lv_bipush (v := nI 9) hx hb (dk kX5_best_0_ok 30 rfl) rfl ?_
                refine n_irem hx hb (by first | omega | (have q1 := wnf_le c v t w; omega)) (by decide) (by decide) (dk kX5_best_0_ok 31 rfl) ?_
                refine lv_iconst (v := nI 1) hx hb (dk kX5_best_0_ok 32 rfl) rfl ?_
                refine n_iadd hx hb (dk kX5_best_0_ok 33 rfl) ?_
                refine lv_istore (lv' := [(8, .int (nI ((i % 9) + 1))), (7, .int (nI (i / 9))), (0, .ref (ad 0)), (1, .int ((cbI c b v w i (cbO c b v t ((-1 : Int32), nI 0, nI 0, c6, b6, v6) w)).1)), (2, .int ((cbI c b v w i (cbO c b v t ((-1 : Int32), nI 0, nI 0, c6, b6, v6) w)).2.1)), (3, .int ((cbI c b v w i (cbO c b v t ((-1 : Int32), nI 0, nI 0, c6, b6, v6) w)).2.2.1)), (4, .int (nI w)), (5, .int (nI (w / 4 % 2))), (6, .int (nI i))]) hx hb (dk kX5_best_0_ok 34 rfl) hl (by decide) rfl (fun ls hl => ?_)
                refine lv_aload_n hx hb (dk kX5_best_0_ok 35 rfl) rfl (lv_at hl 2 rfl) ?_
                refine lv_iload hx hb (dk kX5_best_0_ok 36 rfl) (lv_at hl 6 rfl) ?_
                refine lv_iload hx hb (dk kX5_best_0_ok 37 rfl) (lv_at hl 1 rfl) ?_
                refine lv_iload hx hb (dk kX5_best_0_ok 38 rfl) (lv_at hl 0 rfl) ?_
                refine cvDv (As := [.int (nI w), .int (nI (i / 9)), .int (nI ((i % 9) + 1))]) (rest := []) (mSet cI F 69 (mov1 c b v w (rest9 w (ldg (c w) (nI (i / 9)) (stp w ((i % 9) + 1))))) (mov2 c b v w (rest9 w (ldg (c w) (nI (i / 9)) (stp w ((i % 9) + 1))))) (mov3 c b v w (rest9 w (ldg (c w) (nI (i / 9)) (stp w ((i % 9) + 1)))))) ⟨hx, hb, hml, hown, hts⟩ (tX5_tryFlight l D cI cQ cL ad N (mSet cI F 69 ((cbI c b v w i (cbO c b v t ((-1 : Int32), nI 0, nI 0, c6, b6, v6) w)).2.2.2.1) ((cbI c b v w i (cbO c b v t ((-1 : Int32), nI 0, nI 0, c6, b6, v6) w)).2.2.2.2.1) ((cbI c b v w i (cbO c b v t ((-1 : Int32), nI 0, nI 0, c6, b6, v6) w)).2.2.2.2.2)) (by omega) c b v g h j t u z (stAt_keep hN (fun i _ _ => mSet_out (by omega))) c8 b8 v8 g8 h8 j8 t8 u8 z8 (stAt_keep hSn (fun i _ _ => mSet_out (by omega))) n9 m9 hn9 hm9 (paAt_keep hPa (fun i _ _ => mSet_out (by omega))) a n hn60 (gtAt_keep hT (fun i _ _ => mSet_out (by omega))) ((cbI c b v w i (cbO c b v t ((-1 : Int32), nI 0, nI 0, c6, b6, v6) w)).2.2.2.1) ((cbI c b v w i (cbO c b v t ((-1 : Int32), nI 0, nI 0, c6, b6, v6) w)).2.2.2.2.1) ((cbI c b v w i (cbO c b v t ((-1 : Int32), nI 0, nI 0, c6, b6, v6) w)).2.2.2.2.2) (mSet_at hM6) a7 d7 q7 (roAt_keep hO (fun i _ _ => mSet_out (by omega))) hs ((mSet_out (by omega)).trans hC) (nI w) w rfl (by omega) (nI (i / 9)) (nI ((i % 9) + 1)) ((i % 9) + 1) rfl (by omega)) (cwV9 3 hts mcX5_tryFlight (ac14 _ (List.mem_of_getElem? (i := 10) rfl)) miX5_tryFlight meX5_tryFlight mini_RX5 rfl rfl hdX5_tryFlight ⟨Nat.le_of_ble_eq_true rfl, Nat.le_of_ble_eq_true rfl⟩) hDi hK hP hNW hS hz0 ((mSet_out (by omega)).trans hC) rfl rfl hl.1 rfl (Nat.le_of_ble_eq_true rfl) (by decide) (dk kX5_best_0_ok 39 rfl) mSet_mSet (fun H locs hP hS => ?_)
                refine lv_aload_n hx hb (dk kX5_best_0_ok 40 rfl) rfl (lv_at hl 2 rfl) ?_
                refine gf hx hb hts (fun w h => List.mem_cons_of_mem _ (acX5 w h)) hown hK hP hz0 ((mSet_out (by omega)).trans hC) rfl 4 (by decide) (hts _ (List.mem_cons_of_mem _ (ac8 _ (List.mem_of_getElem? (i := 7) rfl)))) (fun _ h => h) rfl (dk kX5_best_0_ok 41 rfl) ?_
                refine lv_iload hx hb (dk kX5_best_0_ok 42 rfl) (lv_at hl 7 rfl) ?_
                refine cvR (As := [.int (nI (w / 4 % 2))]) (rest := []) ⟨hx, hb, hml, hown, hts⟩ (tX1_leadOf l D cI cQ cL ad N (mSet cI F 69 (mov1 c b v w (rest9 w (ldg (c w) (nI (i / 9)) (stp w ((i % 9) + 1))))) (mov2 c b v w (rest9 w (ldg (c w) (nI (i / 9)) (stp w ((i % 9) + 1))))) (mov3 c b v w (rest9 w (ldg (c w) (nI (i / 9)) (stp w ((i % 9) + 1)))))) 69 (by omega) (mov1 c b v w (rest9 w (ldg (c w) (nI (i / 9)) (stp w ((i % 9) + 1))))) (mov2 c b v w (rest9 w (ldg (c w) (nI (i / 9)) (stp w ((i % 9) + 1))))) (mov3 c b v w (rest9 w (ldg (c w) (nI (i / 9)) (stp w ((i % 9) + 1))))) (mSet_at hM6) (nI (w / 4 % 2)) (w / 4 % 2) rfl (by omega)) (cwV9 1 hts mcX1_leadOf (ac14 _ (List.mem_of_getElem? (i := 17) rfl)) miX1_leadOf meX1_leadOf mini_RX1 rfl rfl hdX1_leadOf ⟨Nat.le_of_ble_eq_true rfl, Nat.le_of_ble_eq_true rfl⟩) hK hP hNW hz69 (mSet_at hM6).1 rfl rfl hl.1 rfl (Nat.le_of_ble_eq_true rfl) (by decide) (dk kX5_best_0_ok 43 rfl) ?_
                refine lv_istore (lv' := [(9, .int (nI (ptt (mov1 c b v w (rest9 w (ldg (c w) (nI (i / 9)) (stp w ((i % 9) + 1))))) (mov3 c b v w (rest9 w (ldg (c w) (nI (i / 9)) (stp w ((i % 9) + 1))))) (w / 4 % 2)) - nI (ptt (mov1 c b v w (rest9 w (ldg (c w) (nI (i / 9)) (stp w ((i % 9) + 1))))) (mov3 c b v w (rest9 w (ldg (c w) (nI (i / 9)) (stp w ((i % 9) + 1))))) (1 - (w / 4 % 2))))), (8, .int (nI ((i % 9) + 1))), (7, .int (nI (i / 9))), (0, .ref (ad 0)), (1, .int ((cbI c b v w i (cbO c b v t ((-1 : Int32), nI 0, nI 0, c6, b6, v6) w)).1)), (2, .int ((cbI c b v w i (cbO c b v t ((-1 : Int32), nI 0, nI 0, c6, b6, v6) w)).2.1)), (3, .int ((cbI c b v w i (cbO c b v t ((-1 : Int32), nI 0, nI 0, c6, b6, v6) w)).2.2.1)), (4, .int (nI w)), (5, .int (nI (w / 4 % 2))), (6, .int (nI i))]) hx hb (dk kX5_best_0_ok 44 rfl) hl (by decide) rfl (fun ls hl => ?_)
                refine lv_aload_n hx hb (dk kX5_best_0_ok 45 rfl) rfl (lv_at hl 3 rfl) ?_
                refine gf hx hb hts (fun w h => List.mem_cons_of_mem _ (acX5 w h)) hown hK hP hz0 ((mSet_out (by omega)).trans hC) rfl 4 (by decide) (hts _ (List.mem_cons_of_mem _ (ac8 _ (List.mem_of_getElem? (i := 7) rfl)))) (fun _ h => h) rfl (dk kX5_best_0_ok 46 rfl) ?_
                refine lv_iconst (v := nI 1) hx hb (dk kX5_best_0_ok 47 rfl) rfl ?_
                refine lv_iload hx hb (dk kX5_best_0_ok 48 rfl) (lv_at hl 8 rfl) ?_
                refine n_isub hx hb (by omega) (dk kX5_best_0_ok 49 rfl) ?_
                refine cvR (As := [.int (nI (1 - (w / 4 % 2)))]) (rest := []) ⟨hx, hb, hml, hown, hts⟩ (tX1_coveredOfTeam l D cI cQ cL ad N (mSet cI F 69 (mov1 c b v w (rest9 w (ldg (c w) (nI (i / 9)) (stp w ((i % 9) + 1))))) (mov2 c b v w (rest9 w (ldg (c w) (nI (i / 9)) (stp w ((i % 9) + 1))))) (mov3 c b v w (rest9 w (ldg (c w) (nI (i / 9)) (stp w ((i % 9) + 1)))))) 69 (by omega) (mov1 c b v w (rest9 w (ldg (c w) (nI (i / 9)) (stp w ((i % 9) + 1))))) (mov2 c b v w (rest9 w (ldg (c w) (nI (i / 9)) (stp w ((i % 9) + 1))))) (mov3 c b v w (rest9 w (ldg (c w) (nI (i / 9)) (stp w ((i % 9) + 1))))) (mSet_at hM6) (nI (1 - (w / 4 % 2))) (1 - (w / 4 % 2)) rfl (by omega)) (cwV9 1 hts mcX1_coveredOfTeam (ac14 _ (List.mem_of_getElem? (i := 21) rfl)) miX1_coveredOfTeam meX1_coveredOfTeam mini_RX1 rfl rfl hdX1_coveredOfTeam ⟨Nat.le_of_ble_eq_true rfl, Nat.le_of_ble_eq_true rfl⟩) hK hP hNW hz69 (mSet_at hM6).1 rfl rfl hl.1 rfl (Nat.le_of_ble_eq_true rfl) (by decide) (dk kX5_best_0_ok 50 rfl) ?_
                refine lv_istore (lv' := [(10, .int (nI (covc (mov3 c b v w (rest9 w (ldg (c w) (nI (i / 9)) (stp w ((i % 9) + 1))))) (1 - (w / 4 % 2)) + covc (mov3 c b v w (rest9 w (ldg (c w) (nI (i / 9)) (stp w ((i % 9) + 1))))) ((1 - (w / 4 % 2)) + 2)))), (9, .int (nI (ptt (mov1 c b v w (rest9 w (ldg (c w) (nI (i / 9)) (stp w ((i % 9) + 1))))) (mov3 c b v w (rest9 w (ldg (c w) (nI (i / 9)) (stp w ((i % 9) + 1))))) (w / 4 % 2)) - nI (ptt (mov1 c b v w (rest9 w (ldg (c w) (nI (i / 9)) (stp w ((i % 9) + 1))))) (mov3 c b v w (rest9 w (ldg (c w) (nI (i / 9)) (stp w ((i % 9) + 1))))) (1 - (w / 4 % 2))))), (8, .int (nI ((i % 9) + 1))), (7, .int (nI (i / 9))), (0, .ref (ad 0)), (1, .int ((cbI c b v w i (cbO c b v t ((-1 : Int32), nI 0, nI 0, c6, b6, v6) w)).1)), (2, .int ((cbI c b v w i (cbO c b v t ((-1 : Int32), nI 0, nI 0, c6, b6, v6) w)).2.1)), (3, .int ((cbI c b v w i (cbO c b v t ((-1 : Int32), nI 0, nI 0, c6, b6, v6) w)).2.2.1)), (4, .int (nI w)), (5, .int (nI (w / 4 % 2))), (6, .int (nI i))]) hx hb (dk kX5_best_0_ok 51 rfl) hl (by decide) rfl (fun ls hl => ?_)
                refine lv_iload_n hx hb (dk kX5_best_0_ok 52 rfl) rfl (lv_at hl 5 rfl) ?_
                refine lv_iconst (v := -1) hx hb (dk kX5_best_0_ok 53 rfl) rfl ?_
                refine lv_icmp_eq (tgt := 121) hx hb (dk kX5_best_0_ok 54 rfl) (by decide) (fun h4 => ?_) (fun h4 => ?_)
                · skip
                  refine lv_bipush (v := nI 100) hx hb (dk kX5_best_1_ok 4 rfl) rfl ?_
                  refine lv_iload hx hb (dk kX5_best_1_ok 5 rfl) (lv_at hl 8 rfl) ?_
                  refine n_imul hx hb (dk kX5_best_1_ok 6 rfl) ?_
                  refine lv_bipush (v := nI 10) hx hb (dk kX5_best_1_ok 7 rfl) rfl ?_
                  refine lv_iload hx hb (dk kX5_best_1_ok 8 rfl) (lv_at hl 3 rfl) ?_
                  refine n_imul hx hb (dk kX5_best_1_ok 9 rfl) ?_
                  refine n_iadd hx hb (dk kX5_best_1_ok 10 rfl) ?_
                  refine lv_iload hx hb (dk kX5_best_1_ok 11 rfl) (lv_at hl 2 rfl) ?_
                  refine n_iadd hx hb (dk kX5_best_1_ok 12 rfl) ?_
                  refine lv_istore_n (lv' := [(1, .int (nI (((100 * w) + (10 * (i / 9))) + ((i % 9) + 1)))), (10, .int (nI (covc (mov3 c b v w (rest9 w (ldg (c w) (nI (i / 9)) (stp w ((i % 9) + 1))))) (1 - (w / 4 % 2)) + covc (mov3 c b v w (rest9 w (ldg (c w) (nI (i / 9)) (stp w ((i % 9) + 1))))) ((1 - (w / 4 % 2)) + 2)))), (9, .int (nI (ptt (mov1 c b v w (rest9 w (ldg (c w) (nI (i / 9)) (stp w ((i % 9) + 1))))) (mov3 c b v w (rest9 w (ldg (c w) (nI (i / 9)) (stp w ((i % 9) + 1))))) (w / 4 % 2)) - nI (ptt (mov1 c b v w (rest9 w (ldg (c w) (nI (i / 9)) (stp w ((i % 9) + 1))))) (mov3 c b v w (rest9 w (ldg (c w) (nI (i / 9)) (stp w ((i % 9) + 1))))) (1 - (w / 4 % 2))))), (8, .int (nI ((i % 9) + 1))), (7, .int (nI (i / 9))), (0, .ref (ad 0)), (2, .int ((cbI c b v w i (cbO c b v t ((-1 : Int32), nI 0, nI 0, c6, b6, v6) w)).2.1)), (3, .int ((cbI c b v w i (cbO c b v t ((-1 : Int32), nI 0, nI 0, c6, b6, v6) w)).2.2.1)), (4, .int (nI w)), (5, .int (nI (w / 4 % 2))), (6, .int (nI i))]) hx hb (dk kX5_best_1_ok 13 rfl) rfl hl (by decide) rfl (fun ls hl => ?_)
                  refine lv_iload hx hb (dk kX5_best_1_ok 14 rfl) (lv_at hl 2 rfl) ?_
                  refine lv_istore_n (lv' := [(2, .int (nI (ptt (mov1 c b v w (rest9 w (ldg (c w) (nI (i / 9)) (stp w ((i % 9) + 1))))) (mov3 c b v w (rest9 w (ldg (c w) (nI (i / 9)) (stp w ((i % 9) + 1))))) (w / 4 % 2)) - nI (ptt (mov1 c b v w (rest9 w (ldg (c w) (nI (i / 9)) (stp w ((i % 9) + 1))))) (mov3 c b v w (rest9 w (ldg (c w) (nI (i / 9)) (stp w ((i % 9) + 1))))) (1 - (w / 4 % 2))))), (1, .int (nI (((100 * w) + (10 * (i / 9))) + ((i % 9) + 1)))), (10, .int (nI (covc (mov3 c b v w (rest9 w (ldg (c w) (nI (i / 9)) (stp w ((i % 9) + 1))))) (1 - (w / 4 % 2)) + covc (mov3 c b v w (rest9 w (ldg (c w) (nI (i / 9)) (stp w ((i % 9) + 1))))) ((1 - (w / 4 % 2)) + 2)))), (9, .int (nI (ptt (mov1 c b v w (rest9 w (ldg (c w) (nI (i / 9)) (stp w ((i % 9) + 1))))) (mov3 c b v w (rest9 w (ldg (c w) (nI (i / 9)) (stp w ((i % 9) + 1))))) (w / 4 % 2)) - nI (ptt (mov1 c b v w (rest9 w (ldg (c w) (nI (i / 9)) (stp w ((i % 9) + 1))))) (mov3 c b v w (rest9 w (ldg (c w) (nI (i / 9)) (stp w ((i % 9) + 1))))) (1 - (w / 4 % 2))))), (8, .int (nI ((i % 9) + 1))), (7, .int (nI (i / 9))), (0, .ref (ad 0)), (3, .int ((cbI c b v w i (cbO c b v t ((-1 : Int32), nI 0, nI 0, c6, b6, v6) w)).2.2.1)), (4, .int (nI w)), (5, .int (nI (w / 4 % 2))), (6, .int (nI i))]) hx hb (dk kX5_best_1_ok 15 rfl) rfl hl (by decide) rfl (fun ls hl => ?_)
                  refine lv_iload hx hb (dk kX5_best_1_ok 16 rfl) (lv_at hl 2 rfl) ?_
                  refine lv_istore_n (lv' := [(3, .int (nI (covc (mov3 c b v w (rest9 w (ldg (c w) (nI (i / 9)) (stp w ((i % 9) + 1))))) (1 - (w / 4 % 2)) + covc (mov3 c b v w (rest9 w (ldg (c w) (nI (i / 9)) (stp w ((i % 9) + 1))))) ((1 - (w / 4 % 2)) + 2)))), (2, .int (nI (ptt (mov1 c b v w (rest9 w (ldg (c w) (nI (i / 9)) (stp w ((i % 9) + 1))))) (mov3 c b v w (rest9 w (ldg (c w) (nI (i / 9)) (stp w ((i % 9) + 1))))) (w / 4 % 2)) - nI (ptt (mov1 c b v w (rest9 w (ldg (c w) (nI (i / 9)) (stp w ((i % 9) + 1))))) (mov3 c b v w (rest9 w (ldg (c w) (nI (i / 9)) (stp w ((i % 9) + 1))))) (1 - (w / 4 % 2))))), (1, .int (nI (((100 * w) + (10 * (i / 9))) + ((i % 9) + 1)))), (10, .int (nI (covc (mov3 c b v w (rest9 w (ldg (c w) (nI (i / 9)) (stp w ((i % 9) + 1))))) (1 - (w / 4 % 2)) + covc (mov3 c b v w (rest9 w (ldg (c w) (nI (i / 9)) (stp w ((i % 9) + 1))))) ((1 - (w / 4 % 2)) + 2)))), (9, .int (nI (ptt (mov1 c b v w (rest9 w (ldg (c w) (nI (i / 9)) (stp w ((i % 9) + 1))))) (mov3 c b v w (rest9 w (ldg (c w) (nI (i / 9)) (stp w ((i % 9) + 1))))) (w / 4 % 2)) - nI (ptt (mov1 c b v w (rest9 w (ldg (c w) (nI (i / 9)) (stp w ((i % 9) + 1))))) (mov3 c b v w (rest9 w (ldg (c w) (nI (i / 9)) (stp w ((i % 9) + 1))))) (1 - (w / 4 % 2))))), (8, .int (nI ((i % 9) + 1))), (7, .int (nI (i / 9))), (0, .ref (ad 0)), (4, .int (nI w)), (5, .int (nI (w / 4 % 2))), (6, .int (nI i))]) hx hb (dk kX5_best_1_ok 17 rfl) rfl hl (by decide) rfl (fun ls hl => ?_)
                  refine lv_iinc (v := nI (i + 1)) (lv' := [(6, .int (nI (i + 1))), (3, .int (nI (covc (mov3 c b v w (rest9 w (ldg (c w) (nI (i / 9)) (stp w ((i % 9) + 1))))) (1 - (w / 4 % 2)) + covc (mov3 c b v w (rest9 w (ldg (c w) (nI (i / 9)) (stp w ((i % 9) + 1))))) ((1 - (w / 4 % 2)) + 2)))), (2, .int (nI (ptt (mov1 c b v w (rest9 w (ldg (c w) (nI (i / 9)) (stp w ((i % 9) + 1))))) (mov3 c b v w (rest9 w (ldg (c w) (nI (i / 9)) (stp w ((i % 9) + 1))))) (w / 4 % 2)) - nI (ptt (mov1 c b v w (rest9 w (ldg (c w) (nI (i / 9)) (stp w ((i % 9) + 1))))) (mov3 c b v w (rest9 w (ldg (c w) (nI (i / 9)) (stp w ((i % 9) + 1))))) (1 - (w / 4 % 2))))), (1, .int (nI (((100 * w) + (10 * (i / 9))) + ((i % 9) + 1)))), (10, .int (nI (covc (mov3 c b v w (rest9 w (ldg (c w) (nI (i / 9)) (stp w ((i % 9) + 1))))) (1 - (w / 4 % 2)) + covc (mov3 c b v w (rest9 w (ldg (c w) (nI (i / 9)) (stp w ((i % 9) + 1))))) ((1 - (w / 4 % 2)) + 2)))), (9, .int (nI (ptt (mov1 c b v w (rest9 w (ldg (c w) (nI (i / 9)) (stp w ((i % 9) + 1))))) (mov3 c b v w (rest9 w (ldg (c w) (nI (i / 9)) (stp w ((i % 9) + 1))))) (w / 4 % 2)) - nI (ptt (mov1 c b v w (rest9 w (ldg (c w) (nI (i / 9)) (stp w ((i % 9) + 1))))) (mov3 c b v w (rest9 w (ldg (c w) (nI (i / 9)) (stp w ((i % 9) + 1))))) (1 - (w / 4 % 2))))), (8, .int (nI ((i % 9) + 1))), (7, .int (nI (i / 9))), (0, .ref (ad 0)), (4, .int (nI w)), (5, .int (nI (w / 4 % 2)))]) hx hb (dk kX5_best_1_ok 18 rfl) hl (k := 10) rfl (n_inc _) (by decide) rfl (fun ls hl => ?_)
                  refine lv_goto (tgt := 41) hx hb (dk kX5_best_1_ok 19 rfl) (by decide) ?_
                  exact ih41 (i + 1) _ _ _ _ _ (by first | (rw [cbI_0]; exact hP) | (simp only [cbI, cNw, cOl, cLd, cCv, cM1, cM2, cM3, (eq_true h1), (eq_false (Nat.not_le.mpr h1)), (eq_true h2), (eq_true h3), (eq_false (Nat.not_le.mpr h3)), (eq_true h4), not_true_eq_false, not_false_eq_true, and_true, true_and, and_false, false_and, or_true, true_or, or_false, false_or, and_self, or_self, if_true, if_false, Bool.false_eq_true, reduceIte]; exact hP)) hS (by simp only [cbI, cNw, cOl, cLd, cCv, cM1, cM2, cM3, (eq_true h1), (eq_false (Nat.not_le.mpr h1)), (eq_true h2), (eq_true h3), (eq_false (Nat.not_le.mpr h3)), (eq_true h4), not_true_eq_false, not_false_eq_true, and_true, true_and, and_false, false_and, or_true, true_or, or_false, false_or, and_self, or_self, if_true, if_false, Bool.false_eq_true, reduceIte]) (by simp only [cbI, cNw, cOl, cLd, cCv, cM1, cM2, cM3, (eq_true h1), (eq_false (Nat.not_le.mpr h1)), (eq_true h2), (eq_true h3), (eq_false (Nat.not_le.mpr h3)), (eq_true h4), not_true_eq_false, not_false_eq_true, and_true, true_and, and_false, false_and, or_true, true_or, or_false, false_or, and_self, or_self, if_true, if_false, Bool.false_eq_true, reduceIte]) (by simp only [cbI, cNw, cOl, cLd, cCv, cM1, cM2, cM3, (eq_true h1), (eq_false (Nat.not_le.mpr h1)), (eq_true h2), (eq_true h3), (eq_false (Nat.not_le.mpr h3)), (eq_true h4), not_true_eq_false, not_false_eq_true, and_true, true_and, and_false, false_and, or_true, true_or, or_false, false_or, and_self, or_self, if_true, if_false, Bool.false_eq_true, reduceIte]) (by omega) (by omega) ls (lv_sub hl [8, 3, 2, 1, 9, 10, 0] rfl)
                · skip
                  refine lv_iload hx hb (dk kX5_best_0_ok 55 rfl) (lv_at hl 1 rfl) ?_
                  refine lv_iload_n hx hb (dk kX5_best_0_ok 56 rfl) rfl (lv_at hl 6 rfl) ?_
                  refine lv_icmp_gt (tgt := 121) hx hb (dk kX5_best_0_ok 57 rfl) (by decide) (fun h5 => ?_) (fun h5 => ?_)
                  · skip
                    refine lv_bipush (v := nI 100) hx hb (dk kX5_best_1_ok 4 rfl) rfl ?_
                    refine lv_iload hx hb (dk kX5_best_1_ok 5 rfl) (lv_at hl 8 rfl) ?_
                    refine n_imul hx hb (dk kX5_best_1_ok 6 rfl) ?_
                    refine lv_bipush (v := nI 10) hx hb (dk kX5_best_1_ok 7 rfl) rfl ?_
                    refine lv_iload hx hb (dk kX5_best_1_ok 8 rfl) (lv_at hl 3 rfl) ?_
                    refine n_imul hx hb (dk kX5_best_1_ok 9 rfl) ?_
                    refine n_iadd hx hb (dk kX5_best_1_ok 10 rfl) ?_
                    refine lv_iload hx hb (dk kX5_best_1_ok 11 rfl) (lv_at hl 2 rfl) ?_
                    refine n_iadd hx hb (dk kX5_best_1_ok 12 rfl) ?_
                    refine lv_istore_n (lv' := [(1, .int (nI (((100 * w) + (10 * (i / 9))) + ((i % 9) + 1)))), (10, .int (nI (covc (mov3 c b v w (rest9 w (ldg (c w) (nI (i / 9)) (stp w ((i % 9) + 1))))) (1 - (w / 4 % 2)) + covc (mov3 c b v w (rest9 w (ldg (c w) (nI (i / 9)) (stp w ((i % 9) + 1))))) ((1 - (w / 4 % 2)) + 2)))), (9, .int (nI (ptt (mov1 c b v w (rest9 w (ldg (c w) (nI (i / 9)) (stp w ((i % 9) + 1))))) (mov3 c b v w (rest9 w (ldg (c w) (nI (i / 9)) (stp w ((i % 9) + 1))))) (w / 4 % 2)) - nI (ptt (mov1 c b v w (rest9 w (ldg (c w) (nI (i / 9)) (stp w ((i % 9) + 1))))) (mov3 c b v w (rest9 w (ldg (c w) (nI (i / 9)) (stp w ((i % 9) + 1))))) (1 - (w / 4 % 2))))), (8, .int (nI ((i % 9) + 1))), (7, .int (nI (i / 9))), (0, .ref (ad 0)), (2, .int ((cbI c b v w i (cbO c b v t ((-1 : Int32), nI 0, nI 0, c6, b6, v6) w)).2.1)), (3, .int ((cbI c b v w i (cbO c b v t ((-1 : Int32), nI 0, nI 0, c6, b6, v6) w)).2.2.1)), (4, .int (nI w)), (5, .int (nI (w / 4 % 2))), (6, .int (nI i))]) hx hb (dk kX5_best_1_ok 13 rfl) rfl hl (by decide) rfl (fun ls hl => ?_)
                    refine lv_iload hx hb (dk kX5_best_1_ok 14 rfl) (lv_at hl 2 rfl) ?_
                    refine lv_istore_n (lv' := [(2, .int (nI (ptt (mov1 c b v w (rest9 w (ldg (c w) (nI (i / 9)) (stp w ((i % 9) + 1))))) (mov3 c b v w (rest9 w (ldg (c w) (nI (i / 9)) (stp w ((i % 9) + 1))))) (w / 4 % 2)) - nI (ptt (mov1 c b v w (rest9 w (ldg (c w) (nI (i / 9)) (stp w ((i % 9) + 1))))) (mov3 c b v w (rest9 w (ldg (c w) (nI (i / 9)) (stp w ((i % 9) + 1))))) (1 - (w / 4 % 2))))), (1, .int (nI (((100 * w) + (10 * (i / 9))) + ((i % 9) + 1)))), (10, .int (nI (covc (mov3 c b v w (rest9 w (ldg (c w) (nI (i / 9)) (stp w ((i % 9) + 1))))) (1 - (w / 4 % 2)) + covc (mov3 c b v w (rest9 w (ldg (c w) (nI (i / 9)) (stp w ((i % 9) + 1))))) ((1 - (w / 4 % 2)) + 2)))), (9, .int (nI (ptt (mov1 c b v w (rest9 w (ldg (c w) (nI (i / 9)) (stp w ((i % 9) + 1))))) (mov3 c b v w (rest9 w (ldg (c w) (nI (i / 9)) (stp w ((i % 9) + 1))))) (w / 4 % 2)) - nI (ptt (mov1 c b v w (rest9 w (ldg (c w) (nI (i / 9)) (stp w ((i % 9) + 1))))) (mov3 c b v w (rest9 w (ldg (c w) (nI (i / 9)) (stp w ((i % 9) + 1))))) (1 - (w / 4 % 2))))), (8, .int (nI ((i % 9) + 1))), (7, .int (nI (i / 9))), (0, .ref (ad 0)), (3, .int ((cbI c b v w i (cbO c b v t ((-1 : Int32), nI 0, nI 0, c6, b6, v6) w)).2.2.1)), (4, .int (nI w)), (5, .int (nI (w / 4 % 2))), (6, .int (nI i))]) hx hb (dk kX5_best_1_ok 15 rfl) rfl hl (by decide) rfl (fun ls hl => ?_)
                    refine lv_iload hx hb (dk kX5_best_1_ok 16 rfl) (lv_at hl 2 rfl) ?_
                    refine lv_istore_n (lv' := [(3, .int (nI (covc (mov3 c b v w (rest9 w (ldg (c w) (nI (i / 9)) (stp w ((i % 9) + 1))))) (1 - (w / 4 % 2)) + covc (mov3 c b v w (rest9 w (ldg (c w) (nI (i / 9)) (stp w ((i % 9) + 1))))) ((1 - (w / 4 % 2)) + 2)))), (2, .int (nI (ptt (mov1 c b v w (rest9 w (ldg (c w) (nI (i / 9)) (stp w ((i % 9) + 1))))) (mov3 c b v w (rest9 w (ldg (c w) (nI (i / 9)) (stp w ((i % 9) + 1))))) (w / 4 % 2)) - nI (ptt (mov1 c b v w (rest9 w (ldg (c w) (nI (i / 9)) (stp w ((i % 9) + 1))))) (mov3 c b v w (rest9 w (ldg (c w) (nI (i / 9)) (stp w ((i % 9) + 1))))) (1 - (w / 4 % 2))))), (1, .int (nI (((100 * w) + (10 * (i / 9))) + ((i % 9) + 1)))), (10, .int (nI (covc (mov3 c b v w (rest9 w (ldg (c w) (nI (i / 9)) (stp w ((i % 9) + 1))))) (1 - (w / 4 % 2)) + covc (mov3 c b v w (rest9 w (ldg (c w) (nI (i / 9)) (stp w ((i % 9) + 1))))) ((1 - (w / 4 % 2)) + 2)))), (9, .int (nI (ptt (mov1 c b v w (rest9 w (ldg (c w) (nI (i / 9)) (stp w ((i % 9) + 1))))) (mov3 c b v w (rest9 w (ldg (c w) (nI (i / 9)) (stp w ((i % 9) + 1))))) (w / 4 % 2)) - nI (ptt (mov1 c b v w (rest9 w (ldg (c w) (nI (i / 9)) (stp w ((i % 9) + 1))))) (mov3 c b v w (rest9 w (ldg (c w) (nI (i / 9)) (stp w ((i % 9) + 1))))) (1 - (w / 4 % 2))))), (8, .int (nI ((i % 9) + 1))), (7, .int (nI (i / 9))), (0, .ref (ad 0)), (4, .int (nI w)), (5, .int (nI (w / 4 % 2))), (6, .int (nI i))]) hx hb (dk kX5_best_1_ok 17 rfl) rfl hl (by decide) rfl (fun ls hl => ?_)
                    refine lv_iinc (v := nI (i + 1)) (lv' := [(6, .int (nI (i + 1))), (3, .int (nI (covc (mov3 c b v w (rest9 w (ldg (c w) (nI (i / 9)) (stp w ((i % 9) + 1))))) (1 - (w / 4 % 2)) + covc (mov3 c b v w (rest9 w (ldg (c w) (nI (i / 9)) (stp w ((i % 9) + 1))))) ((1 - (w / 4 % 2)) + 2)))), (2, .int (nI (ptt (mov1 c b v w (rest9 w (ldg (c w) (nI (i / 9)) (stp w ((i % 9) + 1))))) (mov3 c b v w (rest9 w (ldg (c w) (nI (i / 9)) (stp w ((i % 9) + 1))))) (w / 4 % 2)) - nI (ptt (mov1 c b v w (rest9 w (ldg (c w) (nI (i / 9)) (stp w ((i % 9) + 1))))) (mov3 c b v w (rest9 w (ldg (c w) (nI (i / 9)) (stp w ((i % 9) + 1))))) (1 - (w / 4 % 2))))), (1, .int (nI (((100 * w) + (10 * (i / 9))) + ((i % 9) + 1)))), (10, .int (nI (covc (mov3 c b v w (rest9 w (ldg (c w) (nI (i / 9)) (stp w ((i % 9) + 1))))) (1 - (w / 4 % 2)) + covc (mov3 c b v w (rest9 w (ldg (c w) (nI (i / 9)) (stp w ((i % 9) + 1))))) ((1 - (w / 4 % 2)) + 2)))), (9, .int (nI (ptt (mov1 c b v w (rest9 w (ldg (c w) (nI (i / 9)) (stp w ((i % 9) + 1))))) (mov3 c b v w (rest9 w (ldg (c w) (nI (i / 9)) (stp w ((i % 9) + 1))))) (w / 4 % 2)) - nI (ptt (mov1 c b v w (rest9 w (ldg (c w) (nI (i / 9)) (stp w ((i % 9) + 1))))) (mov3 c b v w (rest9 w (ldg (c w) (nI (i / 9)) (stp w ((i % 9) + 1))))) (1 - (w / 4 % 2))))), (8, .int (nI ((i % 9) + 1))), (7, .int (nI (i / 9))), (0, .ref (ad 0)), (4, .int (nI w)), (5, .int (nI (w / 4 % 2)))]) hx hb (dk kX5_best_1_ok 18 rfl) hl (k := 10) rfl (n_inc _) (by decide) rfl (fun ls hl => ?_)
                    refine lv_goto (tgt := 41) hx hb (dk kX5_best_1_ok 19 rfl) (by decide) ?_
                    exact ih41 (i + 1) _ _ _ _ _ (by first | (rw [cbI_0]; exact hP) | (simp only [cbI, cNw, cOl, cLd, cCv, cM1, cM2, cM3, (eq_true h1), (eq_false (Nat.not_le.mpr h1)), (eq_true h2), (eq_true h3), (eq_false (Nat.not_le.mpr h3)), (eq_false h4), (eq_true h5), not_true_eq_false, not_false_eq_true, and_true, true_and, and_false, false_and, or_true, true_or, or_false, false_or, and_self, or_self, if_true, if_false, Bool.false_eq_true, reduceIte]; exact hP)) hS (by simp only [cbI, cNw, cOl, cLd, cCv, cM1, cM2, cM3, (eq_true h1), (eq_false (Nat.not_le.mpr h1)), (eq_true h2), (eq_true h3), (eq_false (Nat.not_le.mpr h3)), (eq_false h4), (eq_true h5), not_true_eq_false, not_false_eq_true, and_true, true_and, and_false, false_and, or_true, true_or, or_false, false_or, and_self, or_self, if_true, if_false, Bool.false_eq_true, reduceIte]) (by simp only [cbI, cNw, cOl, cLd, cCv, cM1, cM2, cM3, (eq_true h1), (eq_false (Nat.not_le.mpr h1)), (eq_true h2), (eq_true h3), (eq_false (Nat.not_le.mpr h3)), (eq_false h4), (eq_true h5), not_true_eq_false, not_false_eq_true, and_true, true_and, and_false, false_and, or_true, true_or, or_false, false_or, and_self, or_self, if_true, if_false, Bool.false_eq_true, reduceIte]) (by simp only [cbI, cNw, cOl, cLd, cCv, cM1, cM2, cM3, (eq_true h1), (eq_false (Nat.not_le.mpr h1)), (eq_true h2), (eq_true h3), (eq_false (Nat.not_le.mpr h3)), (eq_false h4), (eq_true h5), not_true_eq_false, not_false_eq_true, and_true, true_and, and_false, false_and, or_true, true_or, or_false, false_or, and_self, or_self, if_true, if_false, Bool.false_eq_true, reduceIte]) (by omega) (by omega) ls (lv_sub hl [8, 3, 2, 1, 9, 10, 0] rfl)
                  · skip
                    refine lv_iload hx hb (dk kX5_best_0_ok 58 rfl) (lv_at hl 1 rfl) ?_
                    refine lv_iload_n hx hb (dk kX5_best_0_ok 59 rfl) rfl (lv_at hl 6 rfl) ?_
                    refine lv_icmp_ne (tgt := 142) hx hb (dk kX5_best_1_ok 0 rfl) (by decide) (fun h6 => ?_) (fun h6 => ?_)
                    · skip
                      refine lv_iinc (v := nI (i + 1)) (lv' := [(6, .int (nI (i + 1))), (10, .int (nI (covc (mov3 c b v w (rest9 w (ldg (c w) (nI (i / 9)) (stp w ((i % 9) + 1))))) (1 - (w / 4 % 2)) + covc (mov3 c b v w (rest9 w (ldg (c w) (nI (i / 9)) (stp w ((i % 9) + 1))))) ((1 - (w / 4 % 2)) + 2)))), (9, .int (nI (ptt (mov1 c b v w (rest9 w (ldg (c w) (nI (i / 9)) (stp w ((i % 9) + 1))))) (mov3 c b v w (rest9 w (ldg (c w) (nI (i / 9)) (stp w ((i % 9) + 1))))) (w / 4 % 2)) - nI (ptt (mov1 c b v w (rest9 w (ldg (c w) (nI (i / 9)) (stp w ((i % 9) + 1))))) (mov3 c b v w (rest9 w (ldg (c w) (nI (i / 9)) (stp w ((i % 9) + 1))))) (1 - (w / 4 % 2))))), (8, .int (nI ((i % 9) + 1))), (7, .int (nI (i / 9))), (0, .ref (ad 0)), (1, .int ((cbI c b v w i (cbO c b v t ((-1 : Int32), nI 0, nI 0, c6, b6, v6) w)).1)), (2, .int ((cbI c b v w i (cbO c b v t ((-1 : Int32), nI 0, nI 0, c6, b6, v6) w)).2.1)), (3, .int ((cbI c b v w i (cbO c b v t ((-1 : Int32), nI 0, nI 0, c6, b6, v6) w)).2.2.1)), (4, .int (nI w)), (5, .int (nI (w / 4 % 2)))]) hx hb (dk kX5_best_1_ok 18 rfl) hl (k := 10) rfl (n_inc _) (by decide) rfl (fun ls hl => ?_)
                      refine lv_goto (tgt := 41) hx hb (dk kX5_best_1_ok 19 rfl) (by decide) ?_
                      exact ih41 (i + 1) _ _ _ _ _ (by first | (rw [cbI_0]; exact hP) | (simp only [cbI, cNw, cOl, cLd, cCv, cM1, cM2, cM3, (eq_true h1), (eq_false (Nat.not_le.mpr h1)), (eq_true h2), (eq_true h3), (eq_false (Nat.not_le.mpr h3)), (eq_false h4), (eq_false h5), (eq_false h6), not_true_eq_false, not_false_eq_true, and_true, true_and, and_false, false_and, or_true, true_or, or_false, false_or, and_self, or_self, if_true, if_false, Bool.false_eq_true, reduceIte]; exact hP)) hS (by simp only [cbI, cNw, cOl, cLd, cCv, cM1, cM2, cM3, (eq_true h1), (eq_false (Nat.not_le.mpr h1)), (eq_true h2), (eq_true h3), (eq_false (Nat.not_le.mpr h3)), (eq_false h4), (eq_false h5), (eq_false h6), not_true_eq_false, not_false_eq_true, and_true, true_and, and_false, false_and, or_true, true_or, or_false, false_or, and_self, or_self, if_true, if_false, Bool.false_eq_true, reduceIte]) (by simp only [cbI, cNw, cOl, cLd, cCv, cM1, cM2, cM3, (eq_true h1), (eq_false (Nat.not_le.mpr h1)), (eq_true h2), (eq_true h3), (eq_false (Nat.not_le.mpr h3)), (eq_false h4), (eq_false h5), (eq_false h6), not_true_eq_false, not_false_eq_true, and_true, true_and, and_false, false_and, or_true, true_or, or_false, false_or, and_self, or_self, if_true, if_false, Bool.false_eq_true, reduceIte]) (by simp only [cbI, cNw, cOl, cLd, cCv, cM1, cM2, cM3, (eq_true h1), (eq_false (Nat.not_le.mpr h1)), (eq_true h2), (eq_true h3), (eq_false (Nat.not_le.mpr h3)), (eq_false h4), (eq_false h5), (eq_false h6), not_true_eq_false, not_false_eq_true, and_true, true_and, and_false, false_and, or_true, true_or, or_false, false_or, and_self, or_self, if_true, if_false, Bool.false_eq_true, reduceIte]) (by omega) (by omega) ls (lv_sub hl [5, 6, 7, 8, 9, 10, 0] rfl)
                    · skip
                      refine lv_iload hx hb (dk kX5_best_1_ok 1 rfl) (lv_at hl 0 rfl) ?_
                      refine lv_iload_n hx hb (dk kX5_best_1_ok 2 rfl) rfl (lv_at hl 7 rfl) ?_
                      refine lv_icmp_le (tgt := 142) hx hb (dk kX5_best_1_ok 3 rfl) (by decide) (fun h7 => ?_) (fun h7 => ?_)
                      · skip
                        refine lv_iinc (v := nI (i + 1)) (lv' := [(6, .int (nI (i + 1))), (10, .int (nI (covc (mov3 c b v w (rest9 w (ldg (c w) (nI (i / 9)) (stp w ((i % 9) + 1))))) (1 - (w / 4 % 2)) + covc (mov3 c b v w (rest9 w (ldg (c w) (nI (i / 9)) (stp w ((i % 9) + 1))))) ((1 - (w / 4 % 2)) + 2)))), (9, .int (nI (ptt (mov1 c b v w (rest9 w (ldg (c w) (nI (i / 9)) (stp w ((i % 9) + 1))))) (mov3 c b v w (rest9 w (ldg (c w) (nI (i / 9)) (stp w ((i % 9) + 1))))) (w / 4 % 2)) - nI (ptt (mov1 c b v w (rest9 w (ldg (c w) (nI (i / 9)) (stp w ((i % 9) + 1))))) (mov3 c b v w (rest9 w (ldg (c w) (nI (i / 9)) (stp w ((i % 9) + 1))))) (1 - (w / 4 % 2))))), (8, .int (nI ((i % 9) + 1))), (7, .int (nI (i / 9))), (0, .ref (ad 0)), (1, .int ((cbI c b v w i (cbO c b v t ((-1 : Int32), nI 0, nI 0, c6, b6, v6) w)).1)), (2, .int ((cbI c b v w i (cbO c b v t ((-1 : Int32), nI 0, nI 0, c6, b6, v6) w)).2.1)), (3, .int ((cbI c b v w i (cbO c b v t ((-1 : Int32), nI 0, nI 0, c6, b6, v6) w)).2.2.1)), (4, .int (nI w)), (5, .int (nI (w / 4 % 2)))]) hx hb (dk kX5_best_1_ok 18 rfl) hl (k := 10) rfl (n_inc _) (by decide) rfl (fun ls hl => ?_)
                        refine lv_goto (tgt := 41) hx hb (dk kX5_best_1_ok 19 rfl) (by decide) ?_
                        exact ih41 (i + 1) _ _ _ _ _ (by first | (rw [cbI_0]; exact hP) | (simp only [cbI, cNw, cOl, cLd, cCv, cM1, cM2, cM3, (eq_true h1), (eq_false (Nat.not_le.mpr h1)), (eq_true h2), (eq_true h3), (eq_false (Nat.not_le.mpr h3)), (eq_false h4), (eq_false h5), (eq_true h6), (eq_true h7), not_true_eq_false, not_false_eq_true, and_true, true_and, and_false, false_and, or_true, true_or, or_false, false_or, and_self, or_self, if_true, if_false, Bool.false_eq_true, reduceIte]; exact hP)) hS (by simp only [cbI, cNw, cOl, cLd, cCv, cM1, cM2, cM3, (eq_true h1), (eq_false (Nat.not_le.mpr h1)), (eq_true h2), (eq_true h3), (eq_false (Nat.not_le.mpr h3)), (eq_false h4), (eq_false h5), (eq_true h6), (eq_true h7), not_true_eq_false, not_false_eq_true, and_true, true_and, and_false, false_and, or_true, true_or, or_false, false_or, and_self, or_self, if_true, if_false, Bool.false_eq_true, reduceIte]) (by simp only [cbI, cNw, cOl, cLd, cCv, cM1, cM2, cM3, (eq_true h1), (eq_false (Nat.not_le.mpr h1)), (eq_true h2), (eq_true h3), (eq_false (Nat.not_le.mpr h3)), (eq_false h4), (eq_false h5), (eq_true h6), (eq_true h7), not_true_eq_false, not_false_eq_true, and_true, true_and, and_false, false_and, or_true, true_or, or_false, false_or, and_self, or_self, if_true, if_false, Bool.false_eq_true, reduceIte]) (by simp only [cbI, cNw, cOl, cLd, cCv, cM1, cM2, cM3, (eq_true h1), (eq_false (Nat.not_le.mpr h1)), (eq_true h2), (eq_true h3), (eq_false (Nat.not_le.mpr h3)), (eq_false h4), (eq_false h5), (eq_true h6), (eq_true h7), not_true_eq_false, not_false_eq_true, and_true, true_and, and_false, false_and, or_true, true_or, or_false, false_or, and_self, or_self, if_true, if_false, Bool.false_eq_true, reduceIte]) (by omega) (by omega) ls (lv_sub hl [5, 6, 7, 8, 9, 10, 0] rfl)
                      · skip
                        refine lv_bipush (v := nI 100) hx hb (dk kX5_best_1_ok 4 rfl) rfl ?_
                        refine lv_iload hx hb (dk kX5_best_1_ok 5 rfl) (lv_at hl 8 rfl) ?_
                        refine n_imul hx hb (dk kX5_best_1_ok 6 rfl) ?_
                        refine lv_bipush (v := nI 10) hx hb (dk kX5_best_1_ok 7 rfl) rfl ?_
                        refine lv_iload hx hb (dk kX5_best_1_ok 8 rfl) (lv_at hl 3 rfl) ?_
                        refine n_imul hx hb (dk kX5_best_1_ok 9 rfl) ?_
                        refine n_iadd hx hb (dk kX5_best_1_ok 10 rfl) ?_
                        refine lv_iload hx hb (dk kX5_best_1_ok 11 rfl) (lv_at hl 2 rfl) ?_
                        refine n_iadd hx hb (dk kX5_best_1_ok 12 rfl) ?_
                        refine lv_istore_n (lv' := [(1, .int (nI (((100 * w) + (10 * (i / 9))) + ((i % 9) + 1)))), (10, .int (nI (covc (mov3 c b v w (rest9 w (ldg (c w) (nI (i / 9)) (stp w ((i % 9) + 1))))) (1 - (w / 4 % 2)) + covc (mov3 c b v w (rest9 w (ldg (c w) (nI (i / 9)) (stp w ((i % 9) + 1))))) ((1 - (w / 4 % 2)) + 2)))), (9, .int (nI (ptt (mov1 c b v w (rest9 w (ldg (c w) (nI (i / 9)) (stp w ((i % 9) + 1))))) (mov3 c b v w (rest9 w (ldg (c w) (nI (i / 9)) (stp w ((i % 9) + 1))))) (w / 4 % 2)) - nI (ptt (mov1 c b v w (rest9 w (ldg (c w) (nI (i / 9)) (stp w ((i % 9) + 1))))) (mov3 c b v w (rest9 w (ldg (c w) (nI (i / 9)) (stp w ((i % 9) + 1))))) (1 - (w / 4 % 2))))), (8, .int (nI ((i % 9) + 1))), (7, .int (nI (i / 9))), (0, .ref (ad 0)), (2, .int ((cbI c b v w i (cbO c b v t ((-1 : Int32), nI 0, nI 0, c6, b6, v6) w)).2.1)), (3, .int ((cbI c b v w i (cbO c b v t ((-1 : Int32), nI 0, nI 0, c6, b6, v6) w)).2.2.1)), (4, .int (nI w)), (5, .int (nI (w / 4 % 2))), (6, .int (nI i))]) hx hb (dk kX5_best_1_ok 13 rfl) rfl hl (by decide) rfl (fun ls hl => ?_)
                        refine lv_iload hx hb (dk kX5_best_1_ok 14 rfl) (lv_at hl 2 rfl) ?_
                        refine lv_istore_n (lv' := [(2, .int (nI (ptt (mov1 c b v w (rest9 w (ldg (c w) (nI (i / 9)) (stp w ((i % 9) + 1))))) (mov3 c b v w (rest9 w (ldg (c w) (nI (i / 9)) (stp w ((i % 9) + 1))))) (w / 4 % 2)) - nI (ptt (mov1 c b v w (rest9 w (ldg (c w) (nI (i / 9)) (stp w ((i % 9) + 1))))) (mov3 c b v w (rest9 w (ldg (c w) (nI (i / 9)) (stp w ((i % 9) + 1))))) (1 - (w / 4 % 2))))), (1, .int (nI (((100 * w) + (10 * (i / 9))) + ((i % 9) + 1)))), (10, .int (nI (covc (mov3 c b v w (rest9 w (ldg (c w) (nI (i / 9)) (stp w ((i % 9) + 1))))) (1 - (w / 4 % 2)) + covc (mov3 c b v w (rest9 w (ldg (c w) (nI (i / 9)) (stp w ((i % 9) + 1))))) ((1 - (w / 4 % 2)) + 2)))), (9, .int (nI (ptt (mov1 c b v w (rest9 w (ldg (c w) (nI (i / 9)) (stp w ((i % 9) + 1))))) (mov3 c b v w (rest9 w (ldg (c w) (nI (i / 9)) (stp w ((i % 9) + 1))))) (w / 4 % 2)) - nI (ptt (mov1 c b v w (rest9 w (ldg (c w) (nI (i / 9)) (stp w ((i % 9) + 1))))) (mov3 c b v w (rest9 w (ldg (c w) (nI (i / 9)) (stp w ((i % 9) + 1))))) (1 - (w / 4 % 2))))), (8, .int (nI ((i % 9) + 1))), (7, .int (nI (i / 9))), (0, .ref (ad 0)), (3, .int ((cbI c b v w i (cbO c b v t ((-1 : Int32), nI 0, nI 0, c6, b6, v6) w)).2.2.1)), (4, .int (nI w)), (5, .int (nI (w / 4 % 2))), (6, .int (nI i))]) hx hb (dk kX5_best_1_ok 15 rfl) rfl hl (by decide) rfl (fun ls hl => ?_)
                        refine lv_iload hx hb (dk kX5_best_1_ok 16 rfl) (lv_at hl 2 rfl) ?_
                        refine lv_istore_n (lv' := [(3, .int (nI (covc (mov3 c b v w (rest9 w (ldg (c w) (nI (i / 9)) (stp w ((i % 9) + 1))))) (1 - (w / 4 % 2)) + covc (mov3 c b v w (rest9 w (ldg (c w) (nI (i / 9)) (stp w ((i % 9) + 1))))) ((1 - (w / 4 % 2)) + 2)))), (2, .int (nI (ptt (mov1 c b v w (rest9 w (ldg (c w) (nI (i / 9)) (stp w ((i % 9) + 1))))) (mov3 c b v w (rest9 w (ldg (c w) (nI (i / 9)) (stp w ((i % 9) + 1))))) (w / 4 % 2)) - nI (ptt (mov1 c b v w (rest9 w (ldg (c w) (nI (i / 9)) (stp w ((i % 9) + 1))))) (mov3 c b v w (rest9 w (ldg (c w) (nI (i / 9)) (stp w ((i % 9) + 1))))) (1 - (w / 4 % 2))))), (1, .int (nI (((100 * w) + (10 * (i / 9))) + ((i % 9) + 1)))), (10, .int (nI (covc (mov3 c b v w (rest9 w (ldg (c w) (nI (i / 9)) (stp w ((i % 9) + 1))))) (1 - (w / 4 % 2)) + covc (mov3 c b v w (rest9 w (ldg (c w) (nI (i / 9)) (stp w ((i % 9) + 1))))) ((1 - (w / 4 % 2)) + 2)))), (9, .int (nI (ptt (mov1 c b v w (rest9 w (ldg (c w) (nI (i / 9)) (stp w ((i % 9) + 1))))) (mov3 c b v w (rest9 w (ldg (c w) (nI (i / 9)) (stp w ((i % 9) + 1))))) (w / 4 % 2)) - nI (ptt (mov1 c b v w (rest9 w (ldg (c w) (nI (i / 9)) (stp w ((i % 9) + 1))))) (mov3 c b v w (rest9 w (ldg (c w) (nI (i / 9)) (stp w ((i % 9) + 1))))) (1 - (w / 4 % 2))))), (8, .int (nI ((i % 9) + 1))), (7, .int (nI (i / 9))), (0, .ref (ad 0)), (4, .int (nI w)), (5, .int (nI (w / 4 % 2))), (6, .int (nI i))]) hx hb (dk kX5_best_1_ok 17 rfl) rfl hl (by decide) rfl (fun ls hl => ?_)
                        refine lv_iinc (v := nI (i + 1)) (lv' := [(6, .int (nI (i + 1))), (3, .int (nI (covc (mov3 c b v w (rest9 w (ldg (c w) (nI (i / 9)) (stp w ((i % 9) + 1))))) (1 - (w / 4 % 2)) + covc (mov3 c b v w (rest9 w (ldg (c w) (nI (i / 9)) (stp w ((i % 9) + 1))))) ((1 - (w / 4 % 2)) + 2)))), (2, .int (nI (ptt (mov1 c b v w (rest9 w (ldg (c w) (nI (i / 9)) (stp w ((i % 9) + 1))))) (mov3 c b v w (rest9 w (ldg (c w) (nI (i / 9)) (stp w ((i % 9) + 1))))) (w / 4 % 2)) - nI (ptt (mov1 c b v w (rest9 w (ldg (c w) (nI (i / 9)) (stp w ((i % 9) + 1))))) (mov3 c b v w (rest9 w (ldg (c w) (nI (i / 9)) (stp w ((i % 9) + 1))))) (1 - (w / 4 % 2))))), (1, .int (nI (((100 * w) + (10 * (i / 9))) + ((i % 9) + 1)))), (10, .int (nI (covc (mov3 c b v w (rest9 w (ldg (c w) (nI (i / 9)) (stp w ((i % 9) + 1))))) (1 - (w / 4 % 2)) + covc (mov3 c b v w (rest9 w (ldg (c w) (nI (i / 9)) (stp w ((i % 9) + 1))))) ((1 - (w / 4 % 2)) + 2)))), (9, .int (nI (ptt (mov1 c b v w (rest9 w (ldg (c w) (nI (i / 9)) (stp w ((i % 9) + 1))))) (mov3 c b v w (rest9 w (ldg (c w) (nI (i / 9)) (stp w ((i % 9) + 1))))) (w / 4 % 2)) - nI (ptt (mov1 c b v w (rest9 w (ldg (c w) (nI (i / 9)) (stp w ((i % 9) + 1))))) (mov3 c b v w (rest9 w (ldg (c w) (nI (i / 9)) (stp w ((i % 9) + 1))))) (1 - (w / 4 % 2))))), (8, .int (nI ((i % 9) + 1))), (7, .int (nI (i / 9))), (0, .ref (ad 0)), (4, .int (nI w)), (5, .int (nI (w / 4 % 2)))]) hx hb (dk kX5_best_1_ok 18 rfl) hl (k := 10) rfl (n_inc _) (by decide) rfl (fun ls hl => ?_)
                        refine lv_goto (tgt := 41) hx hb (dk kX5_best_1_ok 19 rfl) (by decide) ?_
                        exact ih41 (i + 1) _ _ _ _ _ (by first | (rw [cbI_0]; exact hP) | (simp only [cbI, cNw, cOl, cLd, cCv, cM1, cM2, cM3, (eq_true h1), (eq_false (Nat.not_le.mpr h1)), (eq_true h2), (eq_true h3), (eq_false (Nat.not_le.mpr h3)), (eq_false h4), (eq_false h5), (eq_true h6), (eq_false h7), not_true_eq_false, not_false_eq_true, and_true, true_and, and_false, false_and, or_true, true_or, or_false, false_or, and_self, or_self, if_true, if_false, Bool.false_eq_true, reduceIte]; exact hP)) hS (by simp only [cbI, cNw, cOl, cLd, cCv, cM1, cM2, cM3, (eq_true h1), (eq_false (Nat.not_le.mpr h1)), (eq_true h2), (eq_true h3), (eq_false (Nat.not_le.mpr h3)), (eq_false h4), (eq_false h5), (eq_true h6), (eq_false h7), not_true_eq_false, not_false_eq_true, and_true, true_and, and_false, false_and, or_true, true_or, or_false, false_or, and_self, or_self, if_true, if_false, Bool.false_eq_true, reduceIte]) (by simp only [cbI, cNw, cOl, cLd, cCv, cM1, cM2, cM3, (eq_true h1), (eq_false (Nat.not_le.mpr h1)), (eq_true h2), (eq_true h3), (eq_false (Nat.not_le.mpr h3)), (eq_false h4), (eq_false h5), (eq_true h6), (eq_false h7), not_true_eq_false, not_false_eq_true, and_true, true_and, and_false, false_and, or_true, true_or, or_false, false_or, and_self, or_self, if_true, if_false, Bool.false_eq_true, reduceIte]) (by simp only [cbI, cNw, cOl, cLd, cCv, cM1, cM2, cM3, (eq_true h1), (eq_false (Nat.not_le.mpr h1)), (eq_true h2), (eq_true h3), (eq_false (Nat.not_le.mpr h3)), (eq_false h4), (eq_false h5), (eq_true h6), (eq_false h7), not_true_eq_false, not_false_eq_true, and_true, true_and, and_false, false_and, or_true, true_or, or_false, false_or, and_self, or_self, if_true, if_false, Bool.false_eq_true, reduceIte]) (by omega) (by omega) ls (lv_sub hl [8, 3, 2, 1, 9, 10, 0] rfl)
          exact L41 _ 0 _ _ _ _ _ (by first | (rw [cbI_0]; exact hP) | (simp only [cbI, cNw, cOl, cLd, cCv, cM1, cM2, cM3, (eq_true h1), (eq_false (Nat.not_le.mpr h1)), (eq_true h2), not_true_eq_false, not_false_eq_true, and_true, true_and, and_false, false_and, or_true, true_or, or_false, false_or, and_self, or_self, if_true, if_false, Bool.false_eq_true, reduceIte]; exact hP)) hS (by first | rfl | omega) (by first | rfl | omega) (by first | rfl | omega) (by first | rfl | omega) (Nat.lt_succ_self _) ls (lv_sub hl [2, 3, 4, 5, 6, 1, 0] rfl)
        · skip
          refine lv_goto (tgt := 148) hx hb (dk kX5_best_0_ok 16 rfl) (by decide) ?_
          refine lv_iinc (v := nI (w + 1)) (lv' := [(4, .int (nI (w + 1))), (0, .ref (ad 0)), (1, .int ((cbO c b v t ((-1 : Int32), nI 0, nI 0, c6, b6, v6) w).1)), (2, .int ((cbO c b v t ((-1 : Int32), nI 0, nI 0, c6, b6, v6) w).2.1)), (3, .int ((cbO c b v t ((-1 : Int32), nI 0, nI 0, c6, b6, v6) w).2.2.1))]) hx hb (dk kX5_best_1_ok 20 rfl) hl (k := 4) rfl (n_inc _) (by decide) rfl (fun ls hl => ?_)
          refine lv_goto (tgt := 9) hx hb (dk kX5_best_1_ok 21 rfl) (by decide) ?_
          exact ih9 (w + 1) _ _ _ _ _ (by first | (rw [cbO_0]; exact m_touch hM6 hP) | (rw [cbO_n h2]; exact hP) | (obtain rfl : i = 72 := (by omega); rw [cbO_s h2]; exact hP)) hS (by first | (rw [cbO_n h2]; done) | (obtain rfl : i = 72 := (by omega); rw [cbO_s h2])) (by first | (rw [cbO_n h2]; done) | (obtain rfl : i = 72 := (by omega); rw [cbO_s h2])) (by first | (rw [cbO_n h2]; done) | (obtain rfl : i = 72 := (by omega); rw [cbO_s h2])) (by omega) (by omega) ls (lv_sub hl [1, 2, 3, 4, 0] rfl)
  exact L9 _ 0 _ _ _ _ _ (by first | (rw [cbO_0]; exact m_touch hM6 hP) | (rw [cbO_n hN]; exact hP) | (obtain rfl : i = 72 := (by omega); rw [cbO_s hN]; exact hP)) hS (by first | rfl | omega) (by first | rfl | omega) (by first | rfl | omega) (by first | rfl | omega) (Nat.lt_succ_self _) ls (lv_sub hl [4, 3, 2, 1, 0] rfl)
set_option maxRecDepth 100000 in
set_option maxHeartbeats 4000000 in
theorem tX5_flightsTo (l : Launch) (D : va_G) (cI cQ cL : ClassId) (ad : Nat → Nat) (N : Nat) (F : Nat → va_E) (hk : 76 < N) (c b v g h j : Nat → Int32) (t : Nat) (u z : Int32) (hN : stAt cI ad F 1 c b v g h j (nI t) u z) (c8 b8 v8 g8 h8 j8 : Nat → Int32) (t8 : Nat) (u8 z8 : Int32) (hSn : stAt cI ad F 9 c8 b8 v8 g8 h8 j8 (nI t8) u8 z8) (n9 m9 : Nat) (hn9 : n9 < 6) (hm9 : m9 ≤ 6) (hPa : paAt cQ ad F 17 n9 m9) (a : Nat → Int32) (n : Nat) (hn60 : n ≤ 60) (hT : gtAt cI ad F 67 a n) (c6 b6 v6 : Nat → Int32) (hM6 : matAt cI ad F 69 c6 b6 v6) (a7 d7 q7 : Nat → Int32) (hO : roAt cI ad F 73 a7 d7 q7) (hs : Bool) (hC : F 0 = .inr (5, [.ref (ad 1), .ref (ad 9), .ref (ad 17), .ref (ad 67), .ref (ad 69), .ref (ad 73), .int (bI hs)])) (x : Int32) (w : Nat) (hxw : x = nI w) (hw : w < 16) (hc9 : pot c w = false → cell9 (c w)) (hpt : pot c w = false) : MX l yX5_flightsTo (Cond.code yX5_flightsTo cX5_flightsTo 2 (some .int) :: AW) ({ frames := 7, cells := 0, slots := 0, locals := 102 } : Room) D cI cQ cL ad N F [.ref (ad 0), .int x] (dp (some (.int ((few a7 d7 q7 (ix (c w)) (decide (w % 4 < 2))).1 (if decide (w % 4 < 2) = true then ix (c w) else 169 + ix (c w))))) (roSet cI ad F 73 ((few a7 d7 q7 (ix (c w)) (decide (w % 4 < 2))).1) ((few a7 d7 q7 (ix (c w)) (decide (w % 4 < 2))).2.1) ((few a7 d7 q7 (ix (c w)) (decide (w % 4 < 2))).2.2))) 0 0 := by
  refine mx_i (ty := .int) (by decide +kernel) rfl (Nat.le_of_ble_eq_true rfl) (fun p e s m below meth cd Q ls hx hb hml hown hts hDi hP hK hNW hS hret hl => ?_)
  have hown : s.vm.findClass RX5 = some m.cls := hown
  subst hxw
  have hz0 : 0 < N := by omega
  have hz1 : 1 < N := by omega
  have hz1___1 : 1 + 1 < N := by omega
  have hz1___1___1 : 1 + 1 + 1 < N := by omega
  have hz1___1___2 : 1 + 1 + 2 < N := by omega
  have hz1___1___3 : 1 + 1 + 3 < N := by omega
  have hz1___5 : 1 + 5 < N := by omega
  have hz1___6 : 1 + 6 < N := by omega
  have hz1___7 : 1 + 7 < N := by omega
  have hz9 : 9 < N := by omega
  have hz17 : 17 < N := by omega
  have hz17___1 : 17 + 1 < N := by omega
  have hz67 : 67 < N := by omega
  have hz67___1 : 67 + 1 < N := by omega
  have hz69 : 69 < N := by omega
  have hz69___1 : 69 + 1 < N := by omega
  have hz69___2 : 69 + 2 < N := by omega
  have hz69___3 : 69 + 3 < N := by omega
  have hz73 : 73 < N := by omega
  have hz1___1___3 : 1 + 1 + 3 < N := by omega
  have hz69___3 : 69 + 3 < N := by omega
  have hl : lv_has ls 2 [(0, .ref (ad 0)), (1, .int (nI w))] := hl
  refine lv_iload_n hx hb (dk kX5_flightsTo_ok 0 rfl) rfl (lv_at hl 1 rfl) ?_
  refine csPv (As := [.int (nI w)]) (rest := []) ⟨hx, hb, hml, hown, hts⟩ (tX5_requireWink_ok l (nI w) (wk_nI hw)) (cwS9 1 hts mcX5_requireWink (ac9 _ (List.mem_of_getElem? (i := 6) rfl)) msX5_requireWink mini_RX5 rfl rfl hdX5_requireWink ⟨Nat.le_of_ble_eq_true rfl, Nat.le_of_ble_eq_true rfl⟩) rfl hl.1 rfl (Nat.le_of_ble_eq_true rfl) (by decide) (dk kX5_flightsTo_ok 1 rfl) ?_
  refine lv_aload_n hx hb (dk kX5_flightsTo_ok 2 rfl) rfl (lv_at hl 0 rfl) ?_
  refine gf hx hb hts (fun w h => List.mem_cons_of_mem _ (acX5 w h)) hown hK hP hz0 hC rfl 0 (by decide) (hts _ (List.mem_cons_of_mem _ (ac7 _ (List.mem_of_getElem? (i := 21) rfl)))) (fun _ h => h) rfl (dk kX5_flightsTo_ok 3 rfl) ?_
  refine gfN hx hb hts (fun w h => List.mem_cons_of_mem _ (acX4 w h)) hown hK hP hz1 hN.1 rfl 0 (by decide) (nf2 hNW) (fun _ h => h) rfl (dk kX5_flightsTo_ok 4 rfl) ?_
  refine lv_iload_n hx hb (dk kX5_flightsTo_ok 5 rfl) rfl (lv_at hl 1 rfl) ?_
  refine cvR (As := [.int (nI w)]) (rest := []) ⟨hx, hb, hml, hown, hts⟩ (tX1_isPotted l D cI cQ cL ad N F (1 + 1) (by omega) c b v hN.2.1 (nI w) w rfl (by omega)) (cwV9 1 hts mcX1_isPotted (ac14 _ (List.mem_of_getElem? (i := 4) rfl)) miX1_isPotted meX1_isPotted mini_RX1 rfl rfl hdX1_isPotted ⟨Nat.le_of_ble_eq_true rfl, Nat.le_of_ble_eq_true rfl⟩) hK hP hNW hz1___1 hN.2.1.1 rfl rfl hl.1 rfl (Nat.le_of_ble_eq_true rfl) (by decide) (dk kX5_flightsTo_ok 6 rfl) ?_
  refine b_if_eq (tgt := 22) hx hb (dk kX5_flightsTo_ok 7 rfl) (by decide) (fun h1 => ?_) (fun h1 => ?_)
  · skip
    refine lv_aload_n hx hb (dk kX5_flightsTo_ok 10 rfl) rfl (lv_at hl 0 rfl) ?_
    refine gf hx hb hts (fun w h => List.mem_cons_of_mem _ (acX5 w h)) hown hK hP hz0 hC rfl 5 (by decide) (hts _ (List.mem_cons_of_mem _ (ac8 _ (List.mem_of_getElem? (i := 10) rfl)))) (fun _ h => h) rfl (dk kX5_flightsTo_ok 11 rfl) ?_
    refine lv_aload_n hx hb (dk kX5_flightsTo_ok 12 rfl) rfl (lv_at hl 0 rfl) ?_
    refine gf hx hb hts (fun w h => List.mem_cons_of_mem _ (acX5 w h)) hown hK hP hz0 hC rfl 0 (by decide) (hts _ (List.mem_cons_of_mem _ (ac7 _ (List.mem_of_getElem? (i := 21) rfl)))) (fun _ h => h) rfl (dk kX5_flightsTo_ok 13 rfl) ?_
    refine gfN hx hb hts (fun w h => List.mem_cons_of_mem _ (acX4 w h)) hown hK hP hz1 hN.1 rfl 0 (by decide) (nf2 hNW) (fun _ h => h) rfl (dk kX5_flightsTo_ok 14 rfl) ?_
    refine gfN hx hb hts (fun w h => List.mem_cons_of_mem _ (acX1 w h)) hown hK hP hz1___1 hN.2.1.1 rfl 0 (by decide) (nf1 hNW) (fun _ h => h) rfl (dk kX5_flightsTo_ok 15 rfl) ?_
    refine lv_iload_n hx hb (dk kX5_flightsTo_ok 16 rfl) rfl (lv_at hl 1 rfl) ?_
    refine ald (j := w) hx hb hK hP hz1___1___1 hN.2.1.2.1 rfl (by omega) (by decide) (dk kX5_flightsTo_ok 17 rfl) ?_
    refine lv_iload_n hx hb (dk kX5_flightsTo_ok 18 rfl) rfl (lv_at hl 1 rfl) ?_
    refine csP (As := [.int (nI w)]) (rest := [.int (c w), .ref (ad 73)]) ⟨hx, hb, hml, hown, hts⟩ (tX5_isLarge l (nI w) w rfl (by omega)) (cwS9 1 hts mcX5_isLarge (ac6 _ (List.mem_of_getElem? (i := 23) rfl)) msX5_isLarge mini_RX5 rfl rfl hdX5_isLarge ⟨Nat.le_of_ble_eq_true rfl, Nat.le_of_ble_eq_true rfl⟩) rfl hl.1 rfl (Nat.le_of_ble_eq_true rfl) (by decide) (dk kX5_flightsTo_ok 19 rfl) ?_
    refine cvD (As := [.int (c w), .int (bI (decide (w % 4 < 2)))]) (rest := []) (roSet cI ad F 73 ((few a7 d7 q7 (ix (c w)) (decide (w % 4 < 2))).1) ((few a7 d7 q7 (ix (c w)) (decide (w % 4 < 2))).2.1) ((few a7 d7 q7 (ix (c w)) (decide (w % 4 < 2))).2.2)) ⟨hx, hb, hml, hown, hts⟩ (tX3_fewest l D cI cQ cL ad N F 73 (by omega) a7 d7 q7 hO (c w) (ix (c w)) (cell9_ix (hc9 h1)).1 (cell9_ix (hc9 h1)).2 (decide (w % 4 < 2))) (cwV9 2 hts mcX3_fewest (ac14 _ (List.mem_of_getElem? (i := 22) rfl)) miX3_fewest meX3_fewest mini_RX3 rfl rfl hdX3_fewest ⟨Nat.le_of_ble_eq_true rfl, Nat.le_of_ble_eq_true rfl⟩) hDi hK hP hNW hS hz73 hO.1 rfl rfl hl.1 rfl (Nat.le_of_ble_eq_true rfl) (by decide) (dk kX5_flightsTo_ok 20 rfl) rfl (fun H locs hP hS => ?_)
    exact hret _ _ _ _ _ _ _ _ rfl (by exact ⟨rfl, rfl⟩) hP hS (by decide) (by decide) (dk kX5_flightsTo_ok 21 rfl)
  · exact (ff_tt hpt h1).elim
set_option maxRecDepth 100000 in
set_option maxHeartbeats 4000000 in
theorem tX5_flightsToX (l : Launch) (D : va_G) (cI cQ cL : ClassId) (ad : Nat → Nat) (N : Nat) (F : Nat → va_E) (hk : 76 < N) (c b v g h j : Nat → Int32) (t : Nat) (u z : Int32) (hN : stAt cI ad F 1 c b v g h j (nI t) u z) (c8 b8 v8 g8 h8 j8 : Nat → Int32) (t8 : Nat) (u8 z8 : Int32) (hSn : stAt cI ad F 9 c8 b8 v8 g8 h8 j8 (nI t8) u8 z8) (n9 m9 : Nat) (hn9 : n9 < 6) (hm9 : m9 ≤ 6) (hPa : paAt cQ ad F 17 n9 m9) (a : Nat → Int32) (n : Nat) (hn60 : n ≤ 60) (hT : gtAt cI ad F 67 a n) (c6 b6 v6 : Nat → Int32) (hM6 : matAt cI ad F 69 c6 b6 v6) (a7 d7 q7 : Nat → Int32) (hO : roAt cI ad F 73 a7 d7 q7) (hs : Bool) (hC : F 0 = .inr (5, [.ref (ad 1), .ref (ad 9), .ref (ad 17), .ref (ad 67), .ref (ad 69), .ref (ad 73), .int (bI hs)])) (x : Int32) (w : Nat) (hxw : x = nI w) (hw : w < 16) (hpt : pot c w = true) : MR l yX5_flightsTo (Cond.code yX5_flightsTo cX5_flightsTo 2 (some .int) :: AW) ({ frames := 7, cells := 0, slots := 0, locals := 102 } : Room) D cI cQ cL ad N F [.ref (ad 0), .int x] (.int (nI 0)) := by
  refine mr_i (ty := .int) (by decide +kernel) rfl rfl rfl rfl (Nat.le_of_ble_eq_true rfl) (fun p e s m below meth cd Q ls hx hb hml hown hts hP hK hNW hret hl => ?_)
  have hown : s.vm.findClass RX5 = some m.cls := hown
  subst hxw
  have hz0 : 0 < N := by omega
  have hz1 : 1 < N := by omega
  have hz1___1 : 1 + 1 < N := by omega
  have hz1___1___1 : 1 + 1 + 1 < N := by omega
  have hz1___1___2 : 1 + 1 + 2 < N := by omega
  have hz1___1___3 : 1 + 1 + 3 < N := by omega
  have hz1___5 : 1 + 5 < N := by omega
  have hz1___6 : 1 + 6 < N := by omega
  have hz1___7 : 1 + 7 < N := by omega
  have hz9 : 9 < N := by omega
  have hz17 : 17 < N := by omega
  have hz17___1 : 17 + 1 < N := by omega
  have hz67 : 67 < N := by omega
  have hz67___1 : 67 + 1 < N := by omega
  have hz69 : 69 < N := by omega
  have hz69___1 : 69 + 1 < N := by omega
  have hz69___2 : 69 + 2 < N := by omega
  have hz69___3 : 69 + 3 < N := by omega
  have hz73 : 73 < N := by omega
  have hz1___1___3 : 1 + 1 + 3 < N := by omega
  have hz69___3 : 69 + 3 < N := by omega
  have hl : lv_has ls 2 [(0, .ref (ad 0)), (1, .int (nI w))] := hl
  refine lv_iload_n hx hb (dk kX5_flightsTo_ok 0 rfl) rfl (lv_at hl 1 rfl) ?_
  refine csPv (As := [.int (nI w)]) (rest := []) ⟨hx, hb, hml, hown, hts⟩ (tX5_requireWink_ok l (nI w) (wk_nI hw)) (cwS9 1 hts mcX5_requireWink (ac9 _ (List.mem_of_getElem? (i := 6) rfl)) msX5_requireWink mini_RX5 rfl rfl hdX5_requireWink ⟨Nat.le_of_ble_eq_true rfl, Nat.le_of_ble_eq_true rfl⟩) rfl hl.1 rfl (Nat.le_of_ble_eq_true rfl) (by decide) (dk kX5_flightsTo_ok 1 rfl) ?_
  refine lv_aload_n hx hb (dk kX5_flightsTo_ok 2 rfl) rfl (lv_at hl 0 rfl) ?_
  refine gf hx hb hts (fun w h => List.mem_cons_of_mem _ (acX5 w h)) hown hK hP hz0 hC rfl 0 (by decide) (hts _ (List.mem_cons_of_mem _ (ac7 _ (List.mem_of_getElem? (i := 21) rfl)))) (fun _ h => h) rfl (dk kX5_flightsTo_ok 3 rfl) ?_
  refine gfN hx hb hts (fun w h => List.mem_cons_of_mem _ (acX4 w h)) hown hK hP hz1 hN.1 rfl 0 (by decide) (nf2 hNW) (fun _ h => h) rfl (dk kX5_flightsTo_ok 4 rfl) ?_
  refine lv_iload_n hx hb (dk kX5_flightsTo_ok 5 rfl) rfl (lv_at hl 1 rfl) ?_
  refine cvR (As := [.int (nI w)]) (rest := []) ⟨hx, hb, hml, hown, hts⟩ (tX1_isPotted l D cI cQ cL ad N F (1 + 1) (by omega) c b v hN.2.1 (nI w) w rfl (by omega)) (cwV9 1 hts mcX1_isPotted (ac14 _ (List.mem_of_getElem? (i := 4) rfl)) miX1_isPotted meX1_isPotted mini_RX1 rfl rfl hdX1_isPotted ⟨Nat.le_of_ble_eq_true rfl, Nat.le_of_ble_eq_true rfl⟩) hK hP hNW hz1___1 hN.2.1.1 rfl rfl hl.1 rfl (Nat.le_of_ble_eq_true rfl) (by decide) (dk kX5_flightsTo_ok 6 rfl) ?_
  refine b_if_eq (tgt := 22) hx hb (dk kX5_flightsTo_ok 7 rfl) (by decide) (fun h1 => ?_) (fun h1 => ?_)
  · exact absurd (hpt.symm.trans h1) (by decide)
  · skip
    refine lv_iconst (v := nI 0) hx hb (dk kX5_flightsTo_ok 8 rfl) rfl ?_
    refine lv_goto (tgt := 45) hx hb (dk kX5_flightsTo_ok 9 rfl) (by decide) ?_
    exact hret _ _ _ (by rfl) (dk kX5_flightsTo_ok 21 rfl)
set_option maxRecDepth 100000 in
set_option maxHeartbeats 4000000 in
theorem tX5_flightsToX_b1 (l : Launch) (hst : l.stackTraces = false) (D : va_G) (cI cQ cL : ClassId) (ad : Nat → Nat) (N : Nat) (F : Nat → va_E) (hk : 76 < N) (c b v g h j : Nat → Int32) (t : Nat) (u z : Int32) (hN : stAt cI ad F 1 c b v g h j (nI t) u z) (c8 b8 v8 g8 h8 j8 : Nat → Int32) (t8 : Nat) (u8 z8 : Int32) (hSn : stAt cI ad F 9 c8 b8 v8 g8 h8 j8 (nI t8) u8 z8) (n9 m9 : Nat) (hn9 : n9 < 6) (hm9 : m9 ≤ 6) (hPa : paAt cQ ad F 17 n9 m9) (a : Nat → Int32) (n : Nat) (hn60 : n ≤ 60) (hT : gtAt cI ad F 67 a n) (c6 b6 v6 : Nat → Int32) (hM6 : matAt cI ad F 69 c6 b6 v6) (a7 d7 q7 : Nat → Int32) (hO : roAt cI ad F 73 a7 d7 q7) (hs : Bool) (hC : F 0 = .inr (5, [.ref (ad 1), .ref (ad 9), .ref (ad 17), .ref (ad 67), .ref (ad 69), .ref (ad 73), .int (bI hs)])) (x : Int32) (hwk : wk x = false) : MT l yX5_flightsTo (Cond.code yX5_flightsTo cX5_flightsTo 2 (some .int) :: AW) ({ frames := 7, cells := 1, slots := 6, locals := 102 } : Room) D cI cQ cL ad N F [.ref (ad 0), .int x] eI 1 6 := by
  refine mt_of (ret := (some .int)) hst (by decide +kernel) rfl (Nat.le_of_ble_eq_true rfl) (fun p e s m below meth cd Q ls hx hb hml hown hts hDi hP hK hNW hS hX hthr hthrW hout hl => ?_)
  have hown : s.vm.findClass RX5 = some m.cls := hown
  have hz0 : 0 < N := by omega
  have hz1 : 1 < N := by omega
  have hz1___1 : 1 + 1 < N := by omega
  have hz1___1___1 : 1 + 1 + 1 < N := by omega
  have hz1___1___2 : 1 + 1 + 2 < N := by omega
  have hz1___1___3 : 1 + 1 + 3 < N := by omega
  have hz1___5 : 1 + 5 < N := by omega
  have hz1___6 : 1 + 6 < N := by omega
  have hz1___7 : 1 + 7 < N := by omega
  have hz9 : 9 < N := by omega
  have hz17 : 17 < N := by omega
  have hz17___1 : 17 + 1 < N := by omega
  have hz67 : 67 < N := by omega
  have hz67___1 : 67 + 1 < N := by omega
  have hz69 : 69 < N := by omega
  have hz69___1 : 69 + 1 < N := by omega
  have hz69___2 : 69 + 2 < N := by omega
  have hz69___3 : 69 + 3 < N := by omega
  have hz73 : 73 < N := by omega
  have hz1___1___3 : 1 + 1 + 3 < N := by omega
  have hz69___3 : 69 + 3 < N := by omega
  have hl : lv_has ls 2 [(0, .ref (ad 0)), (1, .int x)] := hl
  refine lv_iload_n hx hb (dk kX5_flightsTo_ok 0 rfl) rfl (lv_at hl 1 rfl) ?_
  exact csT (As := [.int x]) (rest := []) ⟨hx, hb, hml, hown, hts⟩ (tX5_requireWink_b1 l hst D cI cQ cL ad N F x hwk) (cwS9 1 hts mcX5_requireWink (ac9 _ (List.mem_of_getElem? (i := 6) rfl)) msX5_requireWink mini_RX5 rfl rfl hdX5_requireWink ⟨Nat.le_of_ble_eq_true rfl, Nat.le_of_ble_eq_true rfl⟩) hDi hK hP hNW hS hX rfl hl.1 rfl (Nat.le_of_ble_eq_true rfl) (by decide) (dk kX5_flightsTo_ok 1 rfl) (fun H locs q ce hP hS h1 h2 h3 => hout _ _ _ H locs q ce _ _ hP hS h1 h2 h3 (by decide) (by decide))
