set_option maxRecDepth 100000 in
set_option maxHeartbeats 4000000 in
theorem tX5_fly (l : Launch) (D : va_G) (cI cQ cL : ClassId) (ad : Nat → Nat) (N : Nat) (F : Nat → va_E) (hk : 76 < N) (c b v g h j : Nat → Int32) (t : Nat) (u z : Int32) (hN : stAt cI ad F 1 c b v g h j (nI t) u z) (c8 b8 v8 g8 h8 j8 : Nat → Int32) (t8 : Nat) (u8 z8 : Int32) (hSn : stAt cI ad F 9 c8 b8 v8 g8 h8 j8 (nI t8) u8 z8) (n9 m9 : Nat) (hn9 : n9 < 6) (hm9 : m9 ≤ 6) (hPa : paAt cQ ad F 17 n9 m9) (a : Nat → Int32) (n : Nat) (hn60 : n ≤ 60) (hT : gtAt cI ad F 67 a n) (c6 b6 v6 : Nat → Int32) (hM6 : matAt cI ad F 69 c6 b6 v6) (a7 d7 q7 : Nat → Int32) (hO : roAt cI ad F 73 a7 d7 q7) (hs : Bool) (hC : F 0 = .inr (5, [.ref (ad 1), .ref (ad 9), .ref (ad 17), .ref (ad 67), .ref (ad 69), .ref (ad 73), .int (bI hs)])) (cr br vr gr hr9 jr : Nat → Int32) (tr : Nat) (ur zr : Int32) (hRi : stAt cI ad F (17 + 2 + 8 * n9) cr br vr gr hr9 jr (nI tr) ur zr) (ht : t < 4) (x : Int32) (w : Nat) (hxw : x = nI w) (hw : w < 16) (d : Int32) (hd9 : btw d (nI 0) (nI 7) = true) (k9 : Int32) (f : Nat) (hkf : k9 = nI f) (hf : 1 ≤ f ∧ f ≤ 9) (hwn : wnf c v t w = 0) : MX l yX5_fly (Cond.code yX5_fly cX5_fly 4 (some .int) :: AW) ({ frames := 8, cells := 0, slots := 0, locals := 123 } : Room) D cI cQ cL ad N F [.ref (ad 0), .int x, .int d, .int k9] (dp (some (.int (fans (flE c w d f)))) (sSet cI ad (paSet cQ ad (sSet cI ad F (17 + 2 + 8 * n9) c b v g h j (nI t) u z) 17 ((n9 + 1) % 6) (min (m9 + 1) 6)) 1 (mov1 c b v w (rest9 w (flE c w d f))) (mov2 c b v w (rest9 w (flE c w d f))) (mov3 c b v w (rest9 w (flE c w d f))) (upd g w (g w + nI 1)) (flH h w (flE c w d f)) ((flP (mov1 c b v w (rest9 w (flE c w d f))) t w (flE c w d f) (flH j w (flE c w d f))).1) (nI ((flP (mov1 c b v w (rest9 w (flE c w d f))) t w (flE c w d f) (flH j w (flE c w d f))).2)) u z)) 0 0 := by
  refine mx_i (ty := .int) (by decide +kernel) rfl (Nat.le_of_ble_eq_true rfl) (fun p e s m below meth cd Q ls hx hb hml hown hts hDi hP hK hNW hS hret hl => ?_)
  have hown : s.vm.findClass RX5 = some m.cls := hown
  subst hxw
  subst hkf
  have hst : stp w f < 2 ^ 31 := by unfold stp; split <;> omega
  have hz0 : 0 < N := by omega
  have hz1 : 1 < N := by omega
  have hz1___1 : 1 + 1 < N := by omega
  have hz1___1___1 : 1 + 1 + 1 < N := by omega
  have hz1___1___2 : 1 + 1 + 2 < N := by omega
  have hz1___1___3 : 1 + 1 + 3 < N := by omega
  have hz1___5 : 1 + 5 < N := by omega
  have hz1___6 : 1 + 6 < N := by omega
  have hz1___7 : 1 + 7 < N := by omega
  have hz9 : 9 < N := by omega
  have hz17 : 17 < N := by omega
  have hz17___1 : 17 + 1 < N := by omega
  have hz67 : 67 < N := by omega
  have hz67___1 : 67 + 1 < N := by omega
  have hz69 : 69 < N := by omega
  have hz69___1 : 69 + 1 < N := by omega
  have hz69___2 : 69 + 2 < N := by omega
  have hz69___3 : 69 + 3 < N := by omega
  have hz73 : 73 < N := by omega
  have hz1___1___3 : 1 + 1 + 3 < N := by omega
  have hz69___3 : 69 + 3 < N := by omega
  have hl : lv_has ls 4 [(0, .ref (ad 0)), (1, .int (nI w)), (2, .int d), (3, .int (nI f))] := hl
  refine lv_iload_n hx hb (dk kX5_fly_ok 0 rfl) rfl (lv_at hl 1 rfl) ?_
  refine csPv (As := [.int (nI w)]) (rest := []) ⟨hx, hb, hml, hown, hts⟩ (tX5_requireWink_ok l (nI w) (wk_nI hw)) (cwS9 1 hts mcX5_requireWink (ac9 _ (List.mem_of_getElem? (i := 6) rfl)) msX5_requireWink mini_RX5 rfl rfl hdX5_requireWink ⟨Nat.le_of_ble_eq_true rfl, Nat.le_of_ble_eq_true rfl⟩) rfl hl.1 rfl (Nat.le_of_ble_eq_true rfl) (by decide) (dk kX5_fly_ok 1 rfl) ?_
  refine lv_iload_n hx hb (dk kX5_fly_ok 2 rfl) rfl (lv_at hl 2 rfl) ?_
  refine lv_iload_n hx hb (dk kX5_fly_ok 3 rfl) rfl (lv_at hl 3 rfl) ?_
  refine csPv (As := [.int d, .int (nI f)]) (rest := []) ⟨hx, hb, hml, hown, hts⟩ (tX5_requireFlight_ok l d (nI f) hd9 (btw_nI hf)) (cwS9 2 hts mcX5_requireFlight (ac9 _ (List.mem_of_getElem? (i := 9) rfl)) msX5_requireFlight mini_RX5 rfl rfl hdX5_requireFlight ⟨Nat.le_of_ble_eq_true rfl, Nat.le_of_ble_eq_true rfl⟩) rfl hl.1 rfl (Nat.le_of_ble_eq_true rfl) (by decide) (dk kX5_fly_ok 4 rfl) ?_
  refine lv_aload_n hx hb (dk kX5_fly_ok 5 rfl) rfl (lv_at hl 0 rfl) ?_
  refine gf hx hb hts (fun w h => List.mem_cons_of_mem _ (acX5 w h)) hown hK hP hz0 hC rfl 0 (by decide) (hts _ (List.mem_cons_of_mem _ (ac7 _ (List.mem_of_getElem? (i := 21) rfl)))) (fun _ h => h) rfl (dk kX5_fly_ok 6 rfl) ?_
  refine lv_iload_n hx hb (dk kX5_fly_ok 7 rfl) rfl (lv_at hl 1 rfl) ?_
  refine cvR (As := [.int (nI w)]) (rest := []) ⟨hx, hb, hml, hown, hts⟩ (tX4_whyNotFlown l D cI cQ cL ad N F 1 (by omega) c b v g h j t u z hN ht (nI w) w rfl (by omega)) (cwV9 1 hts mcX4_whyNotFlown (ac9 _ (List.mem_of_getElem? (i := 12) rfl)) miX4_whyNotFlown meX4_whyNotFlown mini_RX4 rfl rfl hdX4_whyNotFlown ⟨Nat.le_of_ble_eq_true rfl, Nat.le_of_ble_eq_true rfl⟩) hK hP hNW hz1 hN.1 rfl rfl hl.1 rfl (Nat.le_of_ble_eq_true rfl) (by decide) (dk kX5_fly_ok 8 rfl) ?_
  refine n_if_eq (tgt := 30) hx hb (by first | omega | (have q1 := wnf_le c v t w; omega)) (dk kX5_fly_ok 9 rfl) (by decide) (fun h1 => ?_) (fun h1 => ?_)
  · skip
    refine lv_aload_n hx hb (dk kX5_fly_ok 15 rfl) rfl (lv_at hl 0 rfl) ?_
    refine gf hx hb hts (fun w h => List.mem_cons_of_mem _ (acX5 w h)) hown hK hP hz0 hC rfl 2 (by decide) (hts _ (List.mem_cons_of_mem _ (ac8 _ (List.mem_of_getElem? (i := 2) rfl)))) (fun _ h => h) rfl (dk kX5_fly_ok 16 rfl) ?_
    refine lv_aload_n hx hb (dk kX5_fly_ok 17 rfl) rfl (lv_at hl 0 rfl) ?_
    refine gf hx hb hts (fun w h => List.mem_cons_of_mem _ (acX5 w h)) hown hK hP hz0 hC rfl 0 (by decide) (hts _ (List.mem_cons_of_mem _ (ac7 _ (List.mem_of_getElem? (i := 21) rfl)))) (fun _ h => h) rfl (dk kX5_fly_ok 18 rfl) ?_
    refine cvDv (As := [.ref (ad 1)]) (rest := []) (paSet cQ ad (sSet cI ad F (17 + 2 + 8 * n9) c b v g h j (nI t) u z) 17 ((n9 + 1) % 6) (min (m9 + 1) 6)) ⟨hx, hb, hml, hown, hts⟩ (tX2_save l D cI cQ cL ad N F 17 n9 m9 hn9 hm9 (by omega) hPa cr br vr gr hr9 jr tr ur zr hRi (by omega) 1 (by omega) c b v g h j t u z hN (by omega)) (cwV9 1 hts mcX2_save (ac9 _ (List.mem_of_getElem? (i := 16) rfl)) miX2_save meX2_save mini_RX2 rfl rfl hdX2_save ⟨Nat.le_of_ble_eq_true rfl, Nat.le_of_ble_eq_true rfl⟩) hDi hK hP hNW hS hz17 hPa.1 rfl rfl hl.1 rfl (Nat.le_of_ble_eq_true rfl) (by decide) (dk kX5_fly_ok 19 rfl) rfl (fun H locs hP hS => ?_)
    refine lv_aload_n hx hb (dk kX5_fly_ok 20 rfl) rfl (lv_at hl 0 rfl) ?_
    refine gf hx hb hts (fun w h => List.mem_cons_of_mem _ (acX5 w h)) hown hK hP hz0 ((paSet_out (by omega)).trans ((sSet_out (by omega)).trans hC)) rfl 0 (by decide) (hts _ (List.mem_cons_of_mem _ (ac7 _ (List.mem_of_getElem? (i := 21) rfl)))) (fun _ h => h) rfl (dk kX5_fly_ok 21 rfl) ?_
    refine lv_iload_n hx hb (dk kX5_fly_ok 22 rfl) rfl (lv_at hl 1 rfl) ?_
    refine lv_iload_n hx hb (dk kX5_fly_ok 23 rfl) rfl (lv_at hl 2 rfl) ?_
    refine lv_iload_n hx hb (dk kX5_fly_ok 24 rfl) rfl (lv_at hl 3 rfl) ?_
    refine cvD (As := [.int (nI w), .int d, .int (nI f)]) (rest := []) (sSet cI ad (paSet cQ ad (sSet cI ad F (17 + 2 + 8 * n9) c b v g h j (nI t) u z) 17 ((n9 + 1) % 6) (min (m9 + 1) 6)) 1 (mov1 c b v w (rest9 w (flE c w d f))) (mov2 c b v w (rest9 w (flE c w d f))) (mov3 c b v w (rest9 w (flE c w d f))) (upd g w (g w + nI 1)) (flH h w (flE c w d f)) ((flP (mov1 c b v w (rest9 w (flE c w d f))) t w (flE c w d f) (flH j w (flE c w d f))).1) (nI ((flP (mov1 c b v w (rest9 w (flE c w d f))) t w (flE c w d f) (flH j w (flE c w d f))).2)) u z) ⟨hx, hb, hml, hown, hts⟩ (tX4_carryOutFlight l D cI cQ cL ad N (paSet cQ ad (sSet cI ad F (17 + 2 + 8 * n9) c b v g h j (nI t) u z) 17 ((n9 + 1) % 6) (min (m9 + 1) 6)) 1 (by omega) c b v g h j t u z (stAt_keep (stAt_keep hN (fun i _ _ => sSet_out (by omega))) (fun i _ _ => paSet_out (by omega))) ht (nI w) w rfl (by omega) d (nI f) f rfl (by omega)) (cwV9 3 hts mcX4_carryOutFlight (ac9 _ (List.mem_of_getElem? (i := 20) rfl)) miX4_carryOutFlight meX4_carryOutFlight mini_RX4 rfl rfl hdX4_carryOutFlight ⟨Nat.le_of_ble_eq_true rfl, Nat.le_of_ble_eq_true rfl⟩) hDi hK hP hNW hS hz1 (stAt_keep (stAt_keep hN (fun i _ _ => sSet_out (by omega))) (fun i _ _ => paSet_out (by omega))).1 rfl rfl hl.1 rfl (Nat.le_of_ble_eq_true rfl) (by decide) (dk kX5_fly_ok 25 rfl) rfl (fun H locs hP hS => ?_)
    exact hret _ _ _ _ _ _ _ _ rfl (by exact ⟨rfl, rfl⟩) hP hS (by decide) (by decide) (dk kX5_fly_ok 26 rfl)
  · exact absurd hwn h1
set_option maxRecDepth 100000 in
set_option maxHeartbeats 4000000 in
theorem tX5_flyX_b1 (l : Launch) (hst : l.stackTraces = false) (D : va_G) (cI cQ cL : ClassId) (ad : Nat → Nat) (N : Nat) (F : Nat → va_E) (hk : 76 < N) (c b v g h j : Nat → Int32) (t : Nat) (u z : Int32) (hN : stAt cI ad F 1 c b v g h j (nI t) u z) (c8 b8 v8 g8 h8 j8 : Nat → Int32) (t8 : Nat) (u8 z8 : Int32) (hSn : stAt cI ad F 9 c8 b8 v8 g8 h8 j8 (nI t8) u8 z8) (n9 m9 : Nat) (hn9 : n9 < 6) (hm9 : m9 ≤ 6) (hPa : paAt cQ ad F 17 n9 m9) (a : Nat → Int32) (n : Nat) (hn60 : n ≤ 60) (hT : gtAt cI ad F 67 a n) (c6 b6 v6 : Nat → Int32) (hM6 : matAt cI ad F 69 c6 b6 v6) (a7 d7 q7 : Nat → Int32) (hO : roAt cI ad F 73 a7 d7 q7) (hs : Bool) (hC : F 0 = .inr (5, [.ref (ad 1), .ref (ad 9), .ref (ad 17), .ref (ad 67), .ref (ad 69), .ref (ad 73), .int (bI hs)])) (x d k9 : Int32) (hwk : wk x = false) : MT l yX5_fly (Cond.code yX5_fly cX5_fly 4 (some .int) :: AW) ({ frames := 7, cells := 1, slots := 6, locals := 102 } : Room) D cI cQ cL ad N F [.ref (ad 0), .int x, .int d, .int k9] eI 1 6 := by
  refine mt_of (ret := (some .int)) hst (by decide +kernel) rfl (Nat.le_of_ble_eq_true rfl) (fun p e s m below meth cd Q ls hx hb hml hown hts hDi hP hK hNW hS hX hthr hthrW hout hl => ?_)
  have hown : s.vm.findClass RX5 = some m.cls := hown
  have hz0 : 0 < N := by omega
  have hz1 : 1 < N := by omega
  have hz1___1 : 1 + 1 < N := by omega
  have hz1___1___1 : 1 + 1 + 1 < N := by omega
  have hz1___1___2 : 1 + 1 + 2 < N := by omega
  have hz1___1___3 : 1 + 1 + 3 < N := by omega
  have hz1___5 : 1 + 5 < N := by omega
  have hz1___6 : 1 + 6 < N := by omega
  have hz1___7 : 1 + 7 < N := by omega
  have hz9 : 9 < N := by omega
  have hz17 : 17 < N := by omega
  have hz17___1 : 17 + 1 < N := by omega
  have hz67 : 67 < N := by omega
  have hz67___1 : 67 + 1 < N := by omega
  have hz69 : 69 < N := by omega
  have hz69___1 : 69 + 1 < N := by omega
  have hz69___2 : 69 + 2 < N := by omega
  have hz69___3 : 69 + 3 < N := by omega
  have hz73 : 73 < N := by omega
  have hz1___1___3 : 1 + 1 + 3 < N := by omega
  have hz69___3 : 69 + 3 < N := by omega
  have hl : lv_has ls 4 [(0, .ref (ad 0)), (1, .int x), (2, .int d), (3, .int k9)] := hl
  refine lv_iload_n hx hb (dk kX5_fly_ok 0 rfl) rfl (lv_at hl 1 rfl) ?_
  exact csT (As := [.int x]) (rest := []) ⟨hx, hb, hml, hown, hts⟩ (tX5_requireWink_b1 l hst D cI cQ cL ad N F x hwk) (cwS9 1 hts mcX5_requireWink (ac9 _ (List.mem_of_getElem? (i := 6) rfl)) msX5_requireWink mini_RX5 rfl rfl hdX5_requireWink ⟨Nat.le_of_ble_eq_true rfl, Nat.le_of_ble_eq_true rfl⟩) hDi hK hP hNW hS hX rfl hl.1 rfl (Nat.le_of_ble_eq_true rfl) (by decide) (dk kX5_fly_ok 1 rfl) (fun H locs q ce hP hS h1 h2 h3 => hout _ _ _ H locs q ce _ _ hP hS h1 h2 h3 (by decide) (by decide))
set_option maxRecDepth 100000 in
set_option maxHeartbeats 4000000 in
theorem tX5_flyX_b2 (l : Launch) (hst : l.stackTraces = false) (D : va_G) (cI cQ cL : ClassId) (ad : Nat → Nat) (N : Nat) (F : Nat → va_E) (hk : 76 < N) (c b v g h j : Nat → Int32) (t : Nat) (u z : Int32) (hN : stAt cI ad F 1 c b v g h j (nI t) u z) (c8 b8 v8 g8 h8 j8 : Nat → Int32) (t8 : Nat) (u8 z8 : Int32) (hSn : stAt cI ad F 9 c8 b8 v8 g8 h8 j8 (nI t8) u8 z8) (n9 m9 : Nat) (hn9 : n9 < 6) (hm9 : m9 ≤ 6) (hPa : paAt cQ ad F 17 n9 m9) (a : Nat → Int32) (n : Nat) (hn60 : n ≤ 60) (hT : gtAt cI ad F 67 a n) (c6 b6 v6 : Nat → Int32) (hM6 : matAt cI ad F 69 c6 b6 v6) (a7 d7 q7 : Nat → Int32) (hO : roAt cI ad F 73 a7 d7 q7) (hs : Bool) (hC : F 0 = .inr (5, [.ref (ad 1), .ref (ad 9), .ref (ad 17), .ref (ad 67), .ref (ad 69), .ref (ad 73), .int (bI hs)])) (x : Int32) (w : Nat) (hxw : x = nI w) (hw : w < 16) (d k9 : Int32) (hd9 : btw d (nI 0) (nI 7) = false) : MT l yX5_fly (Cond.code yX5_fly cX5_fly 4 (some .int) :: AW) ({ frames := 8, cells := 1, slots := 6, locals := 123 } : Room) D cI cQ cL ad N F [.ref (ad 0), .int x, .int d, .int k9] eA 1 6 := by
  refine mt_of (ret := (some .int)) hst (by decide +kernel) rfl (Nat.le_of_ble_eq_true rfl) (fun p e s m below meth cd Q ls hx hb hml hown hts hDi hP hK hNW hS hX hthr hthrW hout hl => ?_)
  have hown : s.vm.findClass RX5 = some m.cls := hown
  subst hxw
  have hz0 : 0 < N := by omega
  have hz1 : 1 < N := by omega
  have hz1___1 : 1 + 1 < N := by omega
  have hz1___1___1 : 1 + 1 + 1 < N := by omega
  have hz1___1___2 : 1 + 1 + 2 < N := by omega
  have hz1___1___3 : 1 + 1 + 3 < N := by omega
  have hz1___5 : 1 + 5 < N := by omega
  have hz1___6 : 1 + 6 < N := by omega
  have hz1___7 : 1 + 7 < N := by omega
  have hz9 : 9 < N := by omega
  have hz17 : 17 < N := by omega
  have hz17___1 : 17 + 1 < N := by omega
  have hz67 : 67 < N := by omega
  have hz67___1 : 67 + 1 < N := by omega
  have hz69 : 69 < N := by omega
  have hz69___1 : 69 + 1 < N := by omega
  have hz69___2 : 69 + 2 < N := by omega
  have hz69___3 : 69 + 3 < N := by omega
  have hz73 : 73 < N := by omega
  have hz1___1___3 : 1 + 1 + 3 < N := by omega
  have hz69___3 : 69 + 3 < N := by omega
  have hl : lv_has ls 4 [(0, .ref (ad 0)), (1, .int (nI w)), (2, .int d), (3, .int k9)] := hl
  refine lv_iload_n hx hb (dk kX5_fly_ok 0 rfl) rfl (lv_at hl 1 rfl) ?_
  refine csPv (As := [.int (nI w)]) (rest := []) ⟨hx, hb, hml, hown, hts⟩ (tX5_requireWink_ok l (nI w) (wk_nI hw)) (cwS9 1 hts mcX5_requireWink (ac9 _ (List.mem_of_getElem? (i := 6) rfl)) msX5_requireWink mini_RX5 rfl rfl hdX5_requireWink ⟨Nat.le_of_ble_eq_true rfl, Nat.le_of_ble_eq_true rfl⟩) rfl hl.1 rfl (Nat.le_of_ble_eq_true rfl) (by decide) (dk kX5_fly_ok 1 rfl) ?_
  refine lv_iload_n hx hb (dk kX5_fly_ok 2 rfl) rfl (lv_at hl 2 rfl) ?_
  refine lv_iload_n hx hb (dk kX5_fly_ok 3 rfl) rfl (lv_at hl 3 rfl) ?_
  exact csT (As := [.int d, .int k9]) (rest := []) ⟨hx, hb, hml, hown, hts⟩ (tX5_requireFlight_b1 l hst D cI cQ cL ad N F d k9 hd9) (cwS9 2 hts mcX5_requireFlight (ac9 _ (List.mem_of_getElem? (i := 9) rfl)) msX5_requireFlight mini_RX5 rfl rfl hdX5_requireFlight ⟨Nat.le_of_ble_eq_true rfl, Nat.le_of_ble_eq_true rfl⟩) hDi hK hP hNW hS hX rfl hl.1 rfl (Nat.le_of_ble_eq_true rfl) (by decide) (dk kX5_fly_ok 4 rfl) (fun H locs q ce hP hS h1 h2 h3 => hout _ _ _ H locs q ce _ _ hP hS h1 h2 h3 (by decide) (by decide))
set_option maxRecDepth 100000 in
set_option maxHeartbeats 4000000 in
theorem tX5_flyX_b3 (l : Launch) (hst : l.stackTraces = false) (D : va_G) (cI cQ cL : ClassId) (ad : Nat → Nat) (N : Nat) (F : Nat → va_E) (hk : 76 < N) (c b v g h j : Nat → Int32) (t : Nat) (u z : Int32) (hN : stAt cI ad F 1 c b v g h j (nI t) u z) (c8 b8 v8 g8 h8 j8 : Nat → Int32) (t8 : Nat) (u8 z8 : Int32) (hSn : stAt cI ad F 9 c8 b8 v8 g8 h8 j8 (nI t8) u8 z8) (n9 m9 : Nat) (hn9 : n9 < 6) (hm9 : m9 ≤ 6) (hPa : paAt cQ ad F 17 n9 m9) (a : Nat → Int32) (n : Nat) (hn60 : n ≤ 60) (hT : gtAt cI ad F 67 a n) (c6 b6 v6 : Nat → Int32) (hM6 : matAt cI ad F 69 c6 b6 v6) (a7 d7 q7 : Nat → Int32) (hO : roAt cI ad F 73 a7 d7 q7) (hs : Bool) (hC : F 0 = .inr (5, [.ref (ad 1), .ref (ad 9), .ref (ad 17), .ref (ad 67), .ref (ad 69), .ref (ad 73), .int (bI hs)])) (x : Int32) (w : Nat) (hxw : x = nI w) (hw : w < 16) (d k9 : Int32) (hd9 : btw d (nI 0) (nI 7) = true) (hf9 : btw k9 (nI 1) (nI 9) = false) : MT l yX5_fly (Cond.code yX5_fly cX5_fly 4 (some .int) :: AW) ({ frames := 8, cells := 1, slots := 6, locals := 123 } : Room) D cI cQ cL ad N F [.ref (ad 0), .int x, .int d, .int k9] eA 1 6 := by
  refine mt_of (ret := (some .int)) hst (by decide +kernel) rfl (Nat.le_of_ble_eq_true rfl) (fun p e s m below meth cd Q ls hx hb hml hown hts hDi hP hK hNW hS hX hthr hthrW hout hl => ?_)
  have hown : s.vm.findClass RX5 = some m.cls := hown
  subst hxw
  have hz0 : 0 < N := by omega
  have hz1 : 1 < N := by omega
  have hz1___1 : 1 + 1 < N := by omega
  have hz1___1___1 : 1 + 1 + 1 < N := by omega
  have hz1___1___2 : 1 + 1 + 2 < N := by omega
  have hz1___1___3 : 1 + 1 + 3 < N := by omega
  have hz1___5 : 1 + 5 < N := by omega
  have hz1___6 : 1 + 6 < N := by omega
  have hz1___7 : 1 + 7 < N := by omega
  have hz9 : 9 < N := by omega
  have hz17 : 17 < N := by omega
  have hz17___1 : 17 + 1 < N := by omega
  have hz67 : 67 < N := by omega
  have hz67___1 : 67 + 1 < N := by omega
  have hz69 : 69 < N := by omega
  have hz69___1 : 69 + 1 < N := by omega
  have hz69___2 : 69 + 2 < N := by omega
  have hz69___3 : 69 + 3 < N := by omega
  have hz73 : 73 < N := by omega
  have hz1___1___3 : 1 + 1 + 3 < N := by omega
  have hz69___3 : 69 + 3 < N := by omega
  have hl : lv_has ls 4 [(0, .ref (ad 0)), (1, .int (nI w)), (2, .int d), (3, .int k9)] := hl
  refine lv_iload_n hx hb (dk kX5_fly_ok 0 rfl) rfl (lv_at hl 1 rfl) ?_
  refine csPv (As := [.int (nI w)]) (rest := []) ⟨hx, hb, hml, hown, hts⟩ (tX5_requireWink_ok l (nI w) (wk_nI hw)) (cwS9 1 hts mcX5_requireWink (ac9 _ (List.mem_of_getElem? (i := 6) rfl)) msX5_requireWink mini_RX5 rfl rfl hdX5_requireWink ⟨Nat.le_of_ble_eq_true rfl, Nat.le_of_ble_eq_true rfl⟩) rfl hl.1 rfl (Nat.le_of_ble_eq_true rfl) (by decide) (dk kX5_fly_ok 1 rfl) ?_
  refine lv_iload_n hx hb (dk kX5_fly_ok 2 rfl) rfl (lv_at hl 2 rfl) ?_
  refine lv_iload_n hx hb (dk kX5_fly_ok 3 rfl) rfl (lv_at hl 3 rfl) ?_
  exact csT (As := [.int d, .int k9]) (rest := []) ⟨hx, hb, hml, hown, hts⟩ (tX5_requireFlight_b2 l hst D cI cQ cL ad N F d k9 hd9 hf9) (cwS9 2 hts mcX5_requireFlight (ac9 _ (List.mem_of_getElem? (i := 9) rfl)) msX5_requireFlight mini_RX5 rfl rfl hdX5_requireFlight ⟨Nat.le_of_ble_eq_true rfl, Nat.le_of_ble_eq_true rfl⟩) hDi hK hP hNW hS hX rfl hl.1 rfl (Nat.le_of_ble_eq_true rfl) (by decide) (dk kX5_fly_ok 4 rfl) (fun H locs q ce hP hS h1 h2 h3 => hout _ _ _ H locs q ce _ _ hP hS h1 h2 h3 (by decide) (by decide))
set_option maxRecDepth 100000 in
set_option maxHeartbeats 4000000 in
theorem tX5_flyX_b4 (l : Launch) (hst : l.stackTraces = false) (D : va_G) (cI cQ cL : ClassId) (ad : Nat → Nat) (N : Nat) (F : Nat → va_E) (hk : 76 < N) (c b v g h j : Nat → Int32) (t : Nat) (u z : Int32) (hN : stAt cI ad F 1 c b v g h j (nI t) u z) (c8 b8 v8 g8 h8 j8 : Nat → Int32) (t8 : Nat) (u8 z8 : Int32) (hSn : stAt cI ad F 9 c8 b8 v8 g8 h8 j8 (nI t8) u8 z8) (n9 m9 : Nat) (hn9 : n9 < 6) (hm9 : m9 ≤ 6) (hPa : paAt cQ ad F 17 n9 m9) (a : Nat → Int32) (n : Nat) (hn60 : n ≤ 60) (hT : gtAt cI ad F 67 a n) (c6 b6 v6 : Nat → Int32) (hM6 : matAt cI ad F 69 c6 b6 v6) (a7 d7 q7 : Nat → Int32) (hO : roAt cI ad F 73 a7 d7 q7) (hs : Bool) (hC : F 0 = .inr (5, [.ref (ad 1), .ref (ad 9), .ref (ad 17), .ref (ad 67), .ref (ad 69), .ref (ad 73), .int (bI hs)])) (ht : t < 4) (x : Int32) (w : Nat) (hxw : x = nI w) (hw : w < 16) (d : Int32) (hd9 : btw d (nI 0) (nI 7) = true) (k9 : Int32) (f : Nat) (hkf : k9 = nI f) (hf : 1 ≤ f ∧ f ≤ 9) (hwn : wnf c v t w ≠ 0) : MT l yX5_fly (Cond.code yX5_fly cX5_fly 4 (some .int) :: AW) ({ frames := 8, cells := 1, slots := 6, locals := 123 } : Room) D cI cQ cL ad N F [.ref (ad 0), .int x, .int d, .int k9] eS 1 6 := by
  refine mt_of (ret := (some .int)) hst (by decide +kernel) rfl (Nat.le_of_ble_eq_true rfl) (fun p e s m below meth cd Q ls hx hb hml hown hts hDi hP hK hNW hS hX hthr hthrW hout hl => ?_)
  have hown : s.vm.findClass RX5 = some m.cls := hown
  subst hxw
  subst hkf
  have hz0 : 0 < N := by omega
  have hz1 : 1 < N := by omega
  have hz1___1 : 1 + 1 < N := by omega
  have hz1___1___1 : 1 + 1 + 1 < N := by omega
  have hz1___1___2 : 1 + 1 + 2 < N := by omega
  have hz1___1___3 : 1 + 1 + 3 < N := by omega
  have hz1___5 : 1 + 5 < N := by omega
  have hz1___6 : 1 + 6 < N := by omega
  have hz1___7 : 1 + 7 < N := by omega
  have hz9 : 9 < N := by omega
  have hz17 : 17 < N := by omega
  have hz17___1 : 17 + 1 < N := by omega
  have hz67 : 67 < N := by omega
  have hz67___1 : 67 + 1 < N := by omega
  have hz69 : 69 < N := by omega
  have hz69___1 : 69 + 1 < N := by omega
  have hz69___2 : 69 + 2 < N := by omega
  have hz69___3 : 69 + 3 < N := by omega
  have hz73 : 73 < N := by omega
  have hz1___1___3 : 1 + 1 + 3 < N := by omega
  have hz69___3 : 69 + 3 < N := by omega
  have hl : lv_has ls 4 [(0, .ref (ad 0)), (1, .int (nI w)), (2, .int d), (3, .int (nI f))] := hl
  refine lv_iload_n hx hb (dk kX5_fly_ok 0 rfl) rfl (lv_at hl 1 rfl) ?_
  refine csPv (As := [.int (nI w)]) (rest := []) ⟨hx, hb, hml, hown, hts⟩ (tX5_requireWink_ok l (nI w) (wk_nI hw)) (cwS9 1 hts mcX5_requireWink (ac9 _ (List.mem_of_getElem? (i := 6) rfl)) msX5_requireWink mini_RX5 rfl rfl hdX5_requireWink ⟨Nat.le_of_ble_eq_true rfl, Nat.le_of_ble_eq_true rfl⟩) rfl hl.1 rfl (Nat.le_of_ble_eq_true rfl) (by decide) (dk kX5_fly_ok 1 rfl) ?_
  refine lv_iload_n hx hb (dk kX5_fly_ok 2 rfl) rfl (lv_at hl 2 rfl) ?_
  refine lv_iload_n hx hb (dk kX5_fly_ok 3 rfl) rfl (lv_at hl 3 rfl) ?_
  refine csPv (As := [.int d, .int (nI f)]) (rest := []) ⟨hx, hb, hml, hown, hts⟩ (tX5_requireFlight_ok l d (nI f) hd9 (btw_nI hf)) (cwS9 2 hts mcX5_requireFlight (ac9 _ (List.mem_of_getElem? (i := 9) rfl)) msX5_requireFlight mini_RX5 rfl rfl hdX5_requireFlight ⟨Nat.le_of_ble_eq_true rfl, Nat.le_of_ble_eq_true rfl⟩) rfl hl.1 rfl (Nat.le_of_ble_eq_true rfl) (by decide) (dk kX5_fly_ok 4 rfl) ?_
  refine lv_aload_n hx hb (dk kX5_fly_ok 5 rfl) rfl (lv_at hl 0 rfl) ?_
  refine gf hx hb hts (fun w h => List.mem_cons_of_mem _ (acX5 w h)) hown hK hP hz0 hC rfl 0 (by decide) (hts _ (List.mem_cons_of_mem _ (ac7 _ (List.mem_of_getElem? (i := 21) rfl)))) (fun _ h => h) rfl (dk kX5_fly_ok 6 rfl) ?_
  refine lv_iload_n hx hb (dk kX5_fly_ok 7 rfl) rfl (lv_at hl 1 rfl) ?_
  refine cvR (As := [.int (nI w)]) (rest := []) ⟨hx, hb, hml, hown, hts⟩ (tX4_whyNotFlown l D cI cQ cL ad N F 1 (by omega) c b v g h j t u z hN ht (nI w) w rfl (by omega)) (cwV9 1 hts mcX4_whyNotFlown (ac9 _ (List.mem_of_getElem? (i := 12) rfl)) miX4_whyNotFlown meX4_whyNotFlown mini_RX4 rfl rfl hdX4_whyNotFlown ⟨Nat.le_of_ble_eq_true rfl, Nat.le_of_ble_eq_true rfl⟩) hK hP hNW hz1 hN.1 rfl rfl hl.1 rfl (Nat.le_of_ble_eq_true rfl) (by decide) (dk kX5_fly_ok 8 rfl) ?_
  refine n_if_eq (tgt := 30) hx hb (by first | omega | (have q1 := wnf_le c v t w; omega)) (dk kX5_fly_ok 9 rfl) (by decide) (fun h1 => ?_) (fun h1 => ?_)
  · exact absurd h1 hwn
  · skip
    exact hthr 63 67 65 20 "the wink can not fly" ls [] _ _ 0 0 (by decide) (by decide) hP hS hl.1 (dk kX5_fly_ok 10 rfl) (dk kX5_fly_ok 11 rfl) (dk kX5_fly_ok 12 rfl) (dk kX5_fly_ok 13 rfl) (dk kX5_fly_ok 14 rfl) (by decide) (by decide) (by decide) (by decide) (by decide) (by decide)
set_option maxRecDepth 100000 in
set_option maxHeartbeats 4000000 in
theorem tX5_lift (l : Launch) (D : va_G) (cI cQ cL : ClassId) (ad : Nat → Nat) (N : Nat) (F : Nat → va_E) (hk : 76 < N) (c b v g h j : Nat → Int32) (t : Nat) (u z : Int32) (hN : stAt cI ad F 1 c b v g h j (nI t) u z) (c8 b8 v8 g8 h8 j8 : Nat → Int32) (t8 : Nat) (u8 z8 : Int32) (hSn : stAt cI ad F 9 c8 b8 v8 g8 h8 j8 (nI t8) u8 z8) (n9 m9 : Nat) (hn9 : n9 < 6) (hm9 : m9 ≤ 6) (hPa : paAt cQ ad F 17 n9 m9) (a : Nat → Int32) (n : Nat) (hn60 : n ≤ 60) (hT : gtAt cI ad F 67 a n) (c6 b6 v6 : Nat → Int32) (hM6 : matAt cI ad F 69 c6 b6 v6) (a7 d7 q7 : Nat → Int32) (hO : roAt cI ad F 73 a7 d7 q7) (hs : Bool) (hC : F 0 = .inr (5, [.ref (ad 1), .ref (ad 9), .ref (ad 17), .ref (ad 67), .ref (ad 69), .ref (ad 73), .int (bI hs)])) (cr br vr gr hr9 jr : Nat → Int32) (tr : Nat) (ur zr : Int32) (hRi : stAt cI ad F (17 + 2 + 8 * n9) cr br vr gr hr9 jr (nI tr) ur zr) (ht : t < 4) (x y k9 : Int32) (f : Nat) (hkf : k9 = nI f) (hf : 1 ≤ f ∧ f ≤ 6) (d : Int32) (hd9 : btw d (nI 0) (nI 7) = true) (hon : on x y = true) (hwn : wnl c b v t z x y f d = 0) : MX l yX5_lift (Cond.code yX5_lift cX5_lift 5 (some .int) :: AW) ({ frames := 8, cells := 0, slots := 0, locals := 123 } : Room) D cI cQ cL ad N F [.ref (ad 0), .int x, .int y, .int k9, .int d] (dp (some (.int (nI (hgt (liC c b v x y f d) (cat x y))))) (sSet cI ad (paSet cQ ad (sSet cI ad F (17 + 2 + 8 * n9) c b v g h j (nI t) u z) 17 ((n9 + 1) % 6) (min (m9 + 1) 6)) 1 (liC c b v x y f d) (liB c b v x y f d) (liV c b v x y f d) g h ((pasg (liC c b v x y f d) t 8 j t).1) (nI ((pasg (liC c b v x y f d) t 8 j t).2)) (u + nI 1) z)) 0 0 := by
  refine mx_i (ty := .int) (by decide +kernel) rfl (Nat.le_of_ble_eq_true rfl) (fun p e s m below meth cd Q ls hx hb hml hown hts hDi hP hK hNW hS hret hl => ?_)
  have hown : s.vm.findClass RX5 = some m.cls := hown
  subst hkf
  have hz0 : 0 < N := by omega
  have hz1 : 1 < N := by omega
  have hz1___1 : 1 + 1 < N := by omega
  have hz1___1___1 : 1 + 1 + 1 < N := by omega
  have hz1___1___2 : 1 + 1 + 2 < N := by omega
  have hz1___1___3 : 1 + 1 + 3 < N := by omega
  have hz1___5 : 1 + 5 < N := by omega
  have hz1___6 : 1 + 6 < N := by omega
  have hz1___7 : 1 + 7 < N := by omega
  have hz9 : 9 < N := by omega
  have hz17 : 17 < N := by omega
  have hz17___1 : 17 + 1 < N := by omega
  have hz67 : 67 < N := by omega
  have hz67___1 : 67 + 1 < N := by omega
  have hz69 : 69 < N := by omega
  have hz69___1 : 69 + 1 < N := by omega
  have hz69___2 : 69 + 2 < N := by omega
  have hz69___3 : 69 + 3 < N := by omega
  have hz73 : 73 < N := by omega
  have hz1___1___3 : 1 + 1 + 3 < N := by omega
  have hz69___3 : 69 + 3 < N := by omega
  have hl : lv_has ls 5 [(0, .ref (ad 0)), (1, .int x), (2, .int y), (3, .int (nI f)), (4, .int d)] := hl
  refine lv_iload_n hx hb (dk kX5_lift_ok 0 rfl) rfl (lv_at hl 1 rfl) ?_
  refine lv_iload_n hx hb (dk kX5_lift_ok 1 rfl) rfl (lv_at hl 2 rfl) ?_
  refine csPv (As := [.int x, .int y]) (rest := []) ⟨hx, hb, hml, hown, hts⟩ (tX5_requireCell_ok l x y hon) (cwS9 2 hts mcX5_requireCell (ac10 _ (List.mem_of_getElem? (i := 0) rfl)) msX5_requireCell mini_RX5 rfl rfl hdX5_requireCell ⟨Nat.le_of_ble_eq_true rfl, Nat.le_of_ble_eq_true rfl⟩) rfl hl.1 rfl (Nat.le_of_ble_eq_true rfl) (by decide) (dk kX5_lift_ok 2 rfl) ?_
  refine lv_iload_n hx hb (dk kX5_lift_ok 3 rfl) rfl (lv_at hl 3 rfl) ?_
  refine lv_iload hx hb (dk kX5_lift_ok 4 rfl) (lv_at hl 4 rfl) ?_
  refine csPv (As := [.int (nI f), .int d]) (rest := []) ⟨hx, hb, hml, hown, hts⟩ (tX5_requireLift_ok l (nI f) d (btw_nI hf) hd9) (cwS9 2 hts mcX5_requireLift (ac10 _ (List.mem_of_getElem? (i := 3) rfl)) msX5_requireLift mini_RX5 rfl rfl hdX5_requireLift ⟨Nat.le_of_ble_eq_true rfl, Nat.le_of_ble_eq_true rfl⟩) rfl hl.1 rfl (Nat.le_of_ble_eq_true rfl) (by decide) (dk kX5_lift_ok 5 rfl) ?_
  refine lv_aload_n hx hb (dk kX5_lift_ok 6 rfl) rfl (lv_at hl 0 rfl) ?_
  refine gf hx hb hts (fun w h => List.mem_cons_of_mem _ (acX5 w h)) hown hK hP hz0 hC rfl 0 (by decide) (hts _ (List.mem_cons_of_mem _ (ac7 _ (List.mem_of_getElem? (i := 21) rfl)))) (fun _ h => h) rfl (dk kX5_lift_ok 7 rfl) ?_
  refine lv_iload_n hx hb (dk kX5_lift_ok 8 rfl) rfl (lv_at hl 1 rfl) ?_
  refine lv_iload_n hx hb (dk kX5_lift_ok 9 rfl) rfl (lv_at hl 2 rfl) ?_
  refine lv_iload_n hx hb (dk kX5_lift_ok 10 rfl) rfl (lv_at hl 3 rfl) ?_
  refine lv_iload hx hb (dk kX5_lift_ok 11 rfl) (lv_at hl 4 rfl) ?_
  refine cvR (As := [.int x, .int y, .int (nI f), .int d]) (rest := []) ⟨hx, hb, hml, hown, hts⟩ (tX4_whyNotLifted l D cI cQ cL ad N F 1 (by omega) c b v g h j t u z hN x y (nI f) f rfl (by omega) (by omega) d) (cwV9 4 hts mcX4_whyNotLifted (ac10 _ (List.mem_of_getElem? (i := 6) rfl)) miX4_whyNotLifted meX4_whyNotLifted mini_RX4 rfl rfl hdX4_whyNotLifted ⟨Nat.le_of_ble_eq_true rfl, Nat.le_of_ble_eq_true rfl⟩) hK hP hNW hz1 hN.1 rfl rfl hl.1 rfl (Nat.le_of_ble_eq_true rfl) (by decide) (dk kX5_lift_ok 12 rfl) ?_
  refine n_if_eq (tgt := 36) hx hb (by first | omega | (have q1 := wnl_le c b v t z x y f d; omega)) (dk kX5_lift_ok 13 rfl) (by decide) (fun h1 => ?_) (fun h1 => ?_)
  · skip
    refine lv_aload_n hx hb (dk kX5_lift_ok 19 rfl) rfl (lv_at hl 0 rfl) ?_
    refine gf hx hb hts (fun w h => List.mem_cons_of_mem _ (acX5 w h)) hown hK hP hz0 hC rfl 2 (by decide) (hts _ (List.mem_cons_of_mem _ (ac8 _ (List.mem_of_getElem? (i := 2) rfl)))) (fun _ h => h) rfl (dk kX5_lift_ok 20 rfl) ?_
    refine lv_aload_n hx hb (dk kX5_lift_ok 21 rfl) rfl (lv_at hl 0 rfl) ?_
    refine gf hx hb hts (fun w h => List.mem_cons_of_mem _ (acX5 w h)) hown hK hP hz0 hC rfl 0 (by decide) (hts _ (List.mem_cons_of_mem _ (ac7 _ (List.mem_of_getElem? (i := 21) rfl)))) (fun _ h => h) rfl (dk kX5_lift_ok 22 rfl) ?_
    refine cvDv (As := [.ref (ad 1)]) (rest := []) (paSet cQ ad (sSet cI ad F (17 + 2 + 8 * n9) c b v g h j (nI t) u z) 17 ((n9 + 1) % 6) (min (m9 + 1) 6)) ⟨hx, hb, hml, hown, hts⟩ (tX2_save l D cI cQ cL ad N F 17 n9 m9 hn9 hm9 (by omega) hPa cr br vr gr hr9 jr tr ur zr hRi (by omega) 1 (by omega) c b v g h j t u z hN (by omega)) (cwV9 1 hts mcX2_save (ac9 _ (List.mem_of_getElem? (i := 16) rfl)) miX2_save meX2_save mini_RX2 rfl rfl hdX2_save ⟨Nat.le_of_ble_eq_true rfl, Nat.le_of_ble_eq_true rfl⟩) hDi hK hP hNW hS hz17 hPa.1 rfl rfl hl.1 rfl (Nat.le_of_ble_eq_true rfl) (by decide) (dk kX5_lift_ok 23 rfl) rfl (fun H locs hP hS => ?_)
    refine lv_aload_n hx hb (dk kX5_lift_ok 24 rfl) rfl (lv_at hl 0 rfl) ?_
    refine gf hx hb hts (fun w h => List.mem_cons_of_mem _ (acX5 w h)) hown hK hP hz0 ((paSet_out (by omega)).trans ((sSet_out (by omega)).trans hC)) rfl 0 (by decide) (hts _ (List.mem_cons_of_mem _ (ac7 _ (List.mem_of_getElem? (i := 21) rfl)))) (fun _ h => h) rfl (dk kX5_lift_ok 25 rfl) ?_
    refine lv_iload_n hx hb (dk kX5_lift_ok 26 rfl) rfl (lv_at hl 1 rfl) ?_
    refine lv_iload_n hx hb (dk kX5_lift_ok 27 rfl) rfl (lv_at hl 2 rfl) ?_
    refine lv_iload_n hx hb (dk kX5_lift_ok 28 rfl) rfl (lv_at hl 3 rfl) ?_
    refine lv_iload hx hb (dk kX5_lift_ok 29 rfl) (lv_at hl 4 rfl) ?_
    refine cvDv (As := [.int x, .int y, .int (nI f), .int d]) (rest := []) (sSet cI ad (paSet cQ ad (sSet cI ad F (17 + 2 + 8 * n9) c b v g h j (nI t) u z) 17 ((n9 + 1) % 6) (min (m9 + 1) 6)) 1 (liC c b v x y f d) (liB c b v x y f d) (liV c b v x y f d) g h ((pasg (liC c b v x y f d) t 8 j t).1) (nI ((pasg (liC c b v x y f d) t 8 j t).2)) (u + nI 1) z) ⟨hx, hb, hml, hown, hts⟩ (tX4_carryOutLift l D cI cQ cL ad N (paSet cQ ad (sSet cI ad F (17 + 2 + 8 * n9) c b v g h j (nI t) u z) 17 ((n9 + 1) % 6) (min (m9 + 1) 6)) 1 (by omega) c b v g h j t u z (stAt_keep (stAt_keep hN (fun i _ _ => sSet_out (by omega))) (fun i _ _ => paSet_out (by omega))) ht x y (nI f) f rfl (by omega) (by omega) d) (cwV9 4 hts mcX4_carryOutLift (ac10 _ (List.mem_of_getElem? (i := 10) rfl)) miX4_carryOutLift meX4_carryOutLift mini_RX4 rfl rfl hdX4_carryOutLift ⟨Nat.le_of_ble_eq_true rfl, Nat.le_of_ble_eq_true rfl⟩) hDi hK hP hNW hS hz1 (stAt_keep (stAt_keep hN (fun i _ _ => sSet_out (by omega))) (fun i _ _ => paSet_out (by omega))).1 rfl rfl hl.1 rfl (Nat.le_of_ble_eq_true rfl) (by decide) (dk kX5_lift_ok 30 rfl) rfl (fun H locs hP hS => ?_)
    refine lv_aload_n hx hb (dk kX5_lift_ok 31 rfl) rfl (lv_at hl 0 rfl) ?_
    refine gf hx hb hts (fun w h => List.mem_cons_of_mem _ (acX5 w h)) hown hK hP hz0 ((sSet_out (by omega)).trans ((paSet_out (by omega)).trans ((sSet_out (by omega)).trans hC))) rfl 0 (by decide) (hts _ (List.mem_cons_of_mem _ (ac7 _ (List.mem_of_getElem? (i := 21) rfl)))) (fun _ h => h) rfl (dk kX5_lift_ok 32 rfl) ?_
    refine gfN hx hb hts (fun w h => List.mem_cons_of_mem _ (acX4 w h)) hown hK hP hz1 (sSet_at (stAt_keep (stAt_keep hN (fun i _ _ => sSet_out (by omega))) (fun i _ _ => paSet_out (by omega)))).1 rfl 0 (by decide) (nf2 hNW) (fun _ h => h) rfl (dk kX5_lift_ok 33 rfl) ?_
    refine lv_iload_n hx hb (dk kX5_lift_ok 34 rfl) rfl (lv_at hl 1 rfl) ?_
    refine lv_iload_n hx hb (dk kX5_lift_ok 35 rfl) rfl (lv_at hl 2 rfl) ?_
    refine csP (As := [.int x, .int y]) (rest := [.ref (ad (1 + 1))]) ⟨hx, hb, hml, hown, hts⟩ (tX5_cellAt l x y) (cwS9 2 hts mcX5_cellAt (ac0 _ (List.mem_of_getElem? (i := 17) rfl)) msX5_cellAt mini_RX5 rfl rfl hdX5_cellAt ⟨Nat.le_of_ble_eq_true rfl, Nat.le_of_ble_eq_true rfl⟩) rfl hl.1 rfl (Nat.le_of_ble_eq_true rfl) (by decide) (dk kX5_lift_ok 36 rfl) ?_
    refine cvR (As := [.int (cat x y)]) (rest := []) ⟨hx, hb, hml, hown, hts⟩ (tX1_heightAt l D cI cQ cL ad N (sSet cI ad (paSet cQ ad (sSet cI ad F (17 + 2 + 8 * n9) c b v g h j (nI t) u z) 17 ((n9 + 1) % 6) (min (m9 + 1) 6)) 1 (liC c b v x y f d) (liB c b v x y f d) (liV c b v x y f d) g h ((pasg (liC c b v x y f d) t 8 j t).1) (nI ((pasg (liC c b v x y f d) t 8 j t).2)) (u + nI 1) z) (1 + 1) (by omega) (liC c b v x y f d) (liB c b v x y f d) (liV c b v x y f d) (sSet_at (stAt_keep (stAt_keep hN (fun i _ _ => sSet_out (by omega))) (fun i _ _ => paSet_out (by omega)))).2.1 (cat x y)) (cwV9 1 hts mcX1_heightAt (ac10 _ (List.mem_of_getElem? (i := 14) rfl)) miX1_heightAt meX1_heightAt mini_RX1 rfl rfl hdX1_heightAt ⟨Nat.le_of_ble_eq_true rfl, Nat.le_of_ble_eq_true rfl⟩) hK hP hNW hz1___1 (sSet_at (stAt_keep (stAt_keep hN (fun i _ _ => sSet_out (by omega))) (fun i _ _ => paSet_out (by omega)))).2.1.1 rfl rfl hl.1 rfl (Nat.le_of_ble_eq_true rfl) (by decide) (dk kX5_lift_ok 37 rfl) ?_
    exact hret _ _ _ _ _ _ _ _ rfl (by exact ⟨rfl, rfl⟩) hP hS (by decide) (by decide) (dk kX5_lift_ok 38 rfl)
  · exact absurd hwn h1
set_option maxRecDepth 100000 in
set_option maxHeartbeats 4000000 in
theorem tX5_liftX_b1 (l : Launch) (hst : l.stackTraces = false) (D : va_G) (cI cQ cL : ClassId) (ad : Nat → Nat) (N : Nat) (F : Nat → va_E) (hk : 76 < N) (c b v g h j : Nat → Int32) (t : Nat) (u z : Int32) (hN : stAt cI ad F 1 c b v g h j (nI t) u z) (c8 b8 v8 g8 h8 j8 : Nat → Int32) (t8 : Nat) (u8 z8 : Int32) (hSn : stAt cI ad F 9 c8 b8 v8 g8 h8 j8 (nI t8) u8 z8) (n9 m9 : Nat) (hn9 : n9 < 6) (hm9 : m9 ≤ 6) (hPa : paAt cQ ad F 17 n9 m9) (a : Nat → Int32) (n : Nat) (hn60 : n ≤ 60) (hT : gtAt cI ad F 67 a n) (c6 b6 v6 : Nat → Int32) (hM6 : matAt cI ad F 69 c6 b6 v6) (a7 d7 q7 : Nat → Int32) (hO : roAt cI ad F 73 a7 d7 q7) (hs : Bool) (hC : F 0 = .inr (5, [.ref (ad 1), .ref (ad 9), .ref (ad 17), .ref (ad 67), .ref (ad 69), .ref (ad 73), .int (bI hs)])) (x y k9 d : Int32) (hon : on x y = false) : MT l yX5_lift (Cond.code yX5_lift cX5_lift 5 (some .int) :: AW) ({ frames := 7, cells := 1, slots := 6, locals := 103 } : Room) D cI cQ cL ad N F [.ref (ad 0), .int x, .int y, .int k9, .int d] eI 1 6 := by
  refine mt_of (ret := (some .int)) hst (by decide +kernel) rfl (Nat.le_of_ble_eq_true rfl) (fun p e s m below meth cd Q ls hx hb hml hown hts hDi hP hK hNW hS hX hthr hthrW hout hl => ?_)
  have hown : s.vm.findClass RX5 = some m.cls := hown
  have hz0 : 0 < N := by omega
  have hz1 : 1 < N := by omega
  have hz1___1 : 1 + 1 < N := by omega
  have hz1___1___1 : 1 + 1 + 1 < N := by omega
  have hz1___1___2 : 1 + 1 + 2 < N := by omega
  have hz1___1___3 : 1 + 1 + 3 < N := by omega
  have hz1___5 : 1 + 5 < N := by omega
  have hz1___6 : 1 + 6 < N := by omega
  have hz1___7 : 1 + 7 < N := by omega
  have hz9 : 9 < N := by omega
  have hz17 : 17 < N := by omega
  have hz17___1 : 17 + 1 < N := by omega
  have hz67 : 67 < N := by omega
  have hz67___1 : 67 + 1 < N := by omega
  have hz69 : 69 < N := by omega
  have hz69___1 : 69 + 1 < N := by omega
  have hz69___2 : 69 + 2 < N := by omega
  have hz69___3 : 69 + 3 < N := by omega
  have hz73 : 73 < N := by omega
  have hz1___1___3 : 1 + 1 + 3 < N := by omega
  have hz69___3 : 69 + 3 < N := by omega
  have hl : lv_has ls 5 [(0, .ref (ad 0)), (1, .int x), (2, .int y), (3, .int k9), (4, .int d)] := hl
  refine lv_iload_n hx hb (dk kX5_lift_ok 0 rfl) rfl (lv_at hl 1 rfl) ?_
  refine lv_iload_n hx hb (dk kX5_lift_ok 1 rfl) rfl (lv_at hl 2 rfl) ?_
  exact csT (As := [.int x, .int y]) (rest := []) ⟨hx, hb, hml, hown, hts⟩ (tX5_requireCell_b1 l hst D cI cQ cL ad N F x y hon) (cwS9 2 hts mcX5_requireCell (ac10 _ (List.mem_of_getElem? (i := 0) rfl)) msX5_requireCell mini_RX5 rfl rfl hdX5_requireCell ⟨Nat.le_of_ble_eq_true rfl, Nat.le_of_ble_eq_true rfl⟩) hDi hK hP hNW hS hX rfl hl.1 rfl (Nat.le_of_ble_eq_true rfl) (by decide) (dk kX5_lift_ok 2 rfl) (fun H locs q ce hP hS h1 h2 h3 => hout _ _ _ H locs q ce _ _ hP hS h1 h2 h3 (by decide) (by decide))
set_option maxRecDepth 100000 in
set_option maxHeartbeats 4000000 in
theorem tX5_liftX_b2 (l : Launch) (hst : l.stackTraces = false) (D : va_G) (cI cQ cL : ClassId) (ad : Nat → Nat) (N : Nat) (F : Nat → va_E) (hk : 76 < N) (c b v g h j : Nat → Int32) (t : Nat) (u z : Int32) (hN : stAt cI ad F 1 c b v g h j (nI t) u z) (c8 b8 v8 g8 h8 j8 : Nat → Int32) (t8 : Nat) (u8 z8 : Int32) (hSn : stAt cI ad F 9 c8 b8 v8 g8 h8 j8 (nI t8) u8 z8) (n9 m9 : Nat) (hn9 : n9 < 6) (hm9 : m9 ≤ 6) (hPa : paAt cQ ad F 17 n9 m9) (a : Nat → Int32) (n : Nat) (hn60 : n ≤ 60) (hT : gtAt cI ad F 67 a n) (c6 b6 v6 : Nat → Int32) (hM6 : matAt cI ad F 69 c6 b6 v6) (a7 d7 q7 : Nat → Int32) (hO : roAt cI ad F 73 a7 d7 q7) (hs : Bool) (hC : F 0 = .inr (5, [.ref (ad 1), .ref (ad 9), .ref (ad 17), .ref (ad 67), .ref (ad 69), .ref (ad 73), .int (bI hs)])) (x y k9 d : Int32) (hon : on x y = true) (hl9 : btw k9 (nI 1) (nI 6) = false) : MT l yX5_lift (Cond.code yX5_lift cX5_lift 5 (some .int) :: AW) ({ frames := 7, cells := 1, slots := 6, locals := 103 } : Room) D cI cQ cL ad N F [.ref (ad 0), .int x, .int y, .int k9, .int d] eA 1 6 := by
  refine mt_of (ret := (some .int)) hst (by decide +kernel) rfl (Nat.le_of_ble_eq_true rfl) (fun p e s m below meth cd Q ls hx hb hml hown hts hDi hP hK hNW hS hX hthr hthrW hout hl => ?_)
  have hown : s.vm.findClass RX5 = some m.cls := hown
  have hz0 : 0 < N := by omega
  have hz1 : 1 < N := by omega
  have hz1___1 : 1 + 1 < N := by omega
  have hz1___1___1 : 1 + 1 + 1 < N := by omega
  have hz1___1___2 : 1 + 1 + 2 < N := by omega
  have hz1___1___3 : 1 + 1 + 3 < N := by omega
  have hz1___5 : 1 + 5 < N := by omega
  have hz1___6 : 1 + 6 < N := by omega
  have hz1___7 : 1 + 7 < N := by omega
  have hz9 : 9 < N := by omega
  have hz17 : 17 < N := by omega
  have hz17___1 : 17 + 1 < N := by omega
  have hz67 : 67 < N := by omega
  have hz67___1 : 67 + 1 < N := by omega
  have hz69 : 69 < N := by omega
  have hz69___1 : 69 + 1 < N := by omega
  have hz69___2 : 69 + 2 < N := by omega
  have hz69___3 : 69 + 3 < N := by omega
  have hz73 : 73 < N := by omega
  have hz1___1___3 : 1 + 1 + 3 < N := by omega
  have hz69___3 : 69 + 3 < N := by omega
  have hl : lv_has ls 5 [(0, .ref (ad 0)), (1, .int x), (2, .int y), (3, .int k9), (4, .int d)] := hl
  refine lv_iload_n hx hb (dk kX5_lift_ok 0 rfl) rfl (lv_at hl 1 rfl) ?_
  refine lv_iload_n hx hb (dk kX5_lift_ok 1 rfl) rfl (lv_at hl 2 rfl) ?_
  refine csPv (As := [.int x, .int y]) (rest := []) ⟨hx, hb, hml, hown, hts⟩ (tX5_requireCell_ok l x y hon) (cwS9 2 hts mcX5_requireCell (ac10 _ (List.mem_of_getElem? (i := 0) rfl)) msX5_requireCell mini_RX5 rfl rfl hdX5_requireCell ⟨Nat.le_of_ble_eq_true rfl, Nat.le_of_ble_eq_true rfl⟩) rfl hl.1 rfl (Nat.le_of_ble_eq_true rfl) (by decide) (dk kX5_lift_ok 2 rfl) ?_
  refine lv_iload_n hx hb (dk kX5_lift_ok 3 rfl) rfl (lv_at hl 3 rfl) ?_
  refine lv_iload hx hb (dk kX5_lift_ok 4 rfl) (lv_at hl 4 rfl) ?_
  exact csT (As := [.int k9, .int d]) (rest := []) ⟨hx, hb, hml, hown, hts⟩ (tX5_requireLift_b1 l hst D cI cQ cL ad N F k9 d hl9) (cwS9 2 hts mcX5_requireLift (ac10 _ (List.mem_of_getElem? (i := 3) rfl)) msX5_requireLift mini_RX5 rfl rfl hdX5_requireLift ⟨Nat.le_of_ble_eq_true rfl, Nat.le_of_ble_eq_true rfl⟩) hDi hK hP hNW hS hX rfl hl.1 rfl (Nat.le_of_ble_eq_true rfl) (by decide) (dk kX5_lift_ok 5 rfl) (fun H locs q ce hP hS h1 h2 h3 => hout _ _ _ H locs q ce _ _ hP hS h1 h2 h3 (by decide) (by decide))
set_option maxRecDepth 100000 in
set_option maxHeartbeats 4000000 in
theorem tX5_liftX_b3 (l : Launch) (hst : l.stackTraces = false) (D : va_G) (cI cQ cL : ClassId) (ad : Nat → Nat) (N : Nat) (F : Nat → va_E) (hk : 76 < N) (c b v g h j : Nat → Int32) (t : Nat) (u z : Int32) (hN : stAt cI ad F 1 c b v g h j (nI t) u z) (c8 b8 v8 g8 h8 j8 : Nat → Int32) (t8 : Nat) (u8 z8 : Int32) (hSn : stAt cI ad F 9 c8 b8 v8 g8 h8 j8 (nI t8) u8 z8) (n9 m9 : Nat) (hn9 : n9 < 6) (hm9 : m9 ≤ 6) (hPa : paAt cQ ad F 17 n9 m9) (a : Nat → Int32) (n : Nat) (hn60 : n ≤ 60) (hT : gtAt cI ad F 67 a n) (c6 b6 v6 : Nat → Int32) (hM6 : matAt cI ad F 69 c6 b6 v6) (a7 d7 q7 : Nat → Int32) (hO : roAt cI ad F 73 a7 d7 q7) (hs : Bool) (hC : F 0 = .inr (5, [.ref (ad 1), .ref (ad 9), .ref (ad 17), .ref (ad 67), .ref (ad 69), .ref (ad 73), .int (bI hs)])) (x y k9 d : Int32) (hon : on x y = true) (hl9 : btw k9 (nI 1) (nI 6) = true) (hd9 : btw d (nI 0) (nI 7) = false) : MT l yX5_lift (Cond.code yX5_lift cX5_lift 5 (some .int) :: AW) ({ frames := 8, cells := 1, slots := 6, locals := 123 } : Room) D cI cQ cL ad N F [.ref (ad 0), .int x, .int y, .int k9, .int d] eA 1 6 := by
  refine mt_of (ret := (some .int)) hst (by decide +kernel) rfl (Nat.le_of_ble_eq_true rfl) (fun p e s m below meth cd Q ls hx hb hml hown hts hDi hP hK hNW hS hX hthr hthrW hout hl => ?_)
  have hown : s.vm.findClass RX5 = some m.cls := hown
  have hz0 : 0 < N := by omega
  have hz1 : 1 < N := by omega
  have hz1___1 : 1 + 1 < N := by omega
  have hz1___1___1 : 1 + 1 + 1 < N := by omega
  have hz1___1___2 : 1 + 1 + 2 < N := by omega
  have hz1___1___3 : 1 + 1 + 3 < N := by omega
  have hz1___5 : 1 + 5 < N := by omega
  have hz1___6 : 1 + 6 < N := by omega
  have hz1___7 : 1 + 7 < N := by omega
  have hz9 : 9 < N := by omega
  have hz17 : 17 < N := by omega
  have hz17___1 : 17 + 1 < N := by omega
  have hz67 : 67 < N := by omega
  have hz67___1 : 67 + 1 < N := by omega
  have hz69 : 69 < N := by omega
  have hz69___1 : 69 + 1 < N := by omega
  have hz69___2 : 69 + 2 < N := by omega
  have hz69___3 : 69 + 3 < N := by omega
  have hz73 : 73 < N := by omega
  have hz1___1___3 : 1 + 1 + 3 < N := by omega
  have hz69___3 : 69 + 3 < N := by omega
  have hl : lv_has ls 5 [(0, .ref (ad 0)), (1, .int x), (2, .int y), (3, .int k9), (4, .int d)] := hl
  refine lv_iload_n hx hb (dk kX5_lift_ok 0 rfl) rfl (lv_at hl 1 rfl) ?_
  refine lv_iload_n hx hb (dk kX5_lift_ok 1 rfl) rfl (lv_at hl 2 rfl) ?_
  refine csPv (As := [.int x, .int y]) (rest := []) ⟨hx, hb, hml, hown, hts⟩ (tX5_requireCell_ok l x y hon) (cwS9 2 hts mcX5_requireCell (ac10 _ (List.mem_of_getElem? (i := 0) rfl)) msX5_requireCell mini_RX5 rfl rfl hdX5_requireCell ⟨Nat.le_of_ble_eq_true rfl, Nat.le_of_ble_eq_true rfl⟩) rfl hl.1 rfl (Nat.le_of_ble_eq_true rfl) (by decide) (dk kX5_lift_ok 2 rfl) ?_
  refine lv_iload_n hx hb (dk kX5_lift_ok 3 rfl) rfl (lv_at hl 3 rfl) ?_
  refine lv_iload hx hb (dk kX5_lift_ok 4 rfl) (lv_at hl 4 rfl) ?_
  exact csT (As := [.int k9, .int d]) (rest := []) ⟨hx, hb, hml, hown, hts⟩ (tX5_requireLift_b2 l hst D cI cQ cL ad N F k9 d hl9 hd9) (cwS9 2 hts mcX5_requireLift (ac10 _ (List.mem_of_getElem? (i := 3) rfl)) msX5_requireLift mini_RX5 rfl rfl hdX5_requireLift ⟨Nat.le_of_ble_eq_true rfl, Nat.le_of_ble_eq_true rfl⟩) hDi hK hP hNW hS hX rfl hl.1 rfl (Nat.le_of_ble_eq_true rfl) (by decide) (dk kX5_lift_ok 5 rfl) (fun H locs q ce hP hS h1 h2 h3 => hout _ _ _ H locs q ce _ _ hP hS h1 h2 h3 (by decide) (by decide))
set_option maxRecDepth 100000 in
set_option maxHeartbeats 4000000 in
theorem tX5_liftX_b4 (l : Launch) (hst : l.stackTraces = false) (D : va_G) (cI cQ cL : ClassId) (ad : Nat → Nat) (N : Nat) (F : Nat → va_E) (hk : 76 < N) (c b v g h j : Nat → Int32) (t : Nat) (u z : Int32) (hN : stAt cI ad F 1 c b v g h j (nI t) u z) (c8 b8 v8 g8 h8 j8 : Nat → Int32) (t8 : Nat) (u8 z8 : Int32) (hSn : stAt cI ad F 9 c8 b8 v8 g8 h8 j8 (nI t8) u8 z8) (n9 m9 : Nat) (hn9 : n9 < 6) (hm9 : m9 ≤ 6) (hPa : paAt cQ ad F 17 n9 m9) (a : Nat → Int32) (n : Nat) (hn60 : n ≤ 60) (hT : gtAt cI ad F 67 a n) (c6 b6 v6 : Nat → Int32) (hM6 : matAt cI ad F 69 c6 b6 v6) (a7 d7 q7 : Nat → Int32) (hO : roAt cI ad F 73 a7 d7 q7) (hs : Bool) (hC : F 0 = .inr (5, [.ref (ad 1), .ref (ad 9), .ref (ad 17), .ref (ad 67), .ref (ad 69), .ref (ad 73), .int (bI hs)])) (x y k9 : Int32) (f : Nat) (hkf : k9 = nI f) (hf : 1 ≤ f ∧ f ≤ 6) (d : Int32) (hd9 : btw d (nI 0) (nI 7) = true) (hon : on x y = true) (hwn : wnl c b v t z x y f d ≠ 0) : MT l yX5_lift (Cond.code yX5_lift cX5_lift 5 (some .int) :: AW) ({ frames := 8, cells := 1, slots := 6, locals := 123 } : Room) D cI cQ cL ad N F [.ref (ad 0), .int x, .int y, .int k9, .int d] eS 1 6 := by
  refine mt_of (ret := (some .int)) hst (by decide +kernel) rfl (Nat.le_of_ble_eq_true rfl) (fun p e s m below meth cd Q ls hx hb hml hown hts hDi hP hK hNW hS hX hthr hthrW hout hl => ?_)
  have hown : s.vm.findClass RX5 = some m.cls := hown
  subst hkf
  have hz0 : 0 < N := by omega
  have hz1 : 1 < N := by omega
  have hz1___1 : 1 + 1 < N := by omega
  have hz1___1___1 : 1 + 1 + 1 < N := by omega
  have hz1___1___2 : 1 + 1 + 2 < N := by omega
  have hz1___1___3 : 1 + 1 + 3 < N := by omega
  have hz1___5 : 1 + 5 < N := by omega
  have hz1___6 : 1 + 6 < N := by omega
  have hz1___7 : 1 + 7 < N := by omega
  have hz9 : 9 < N := by omega
  have hz17 : 17 < N := by omega
  have hz17___1 : 17 + 1 < N := by omega
  have hz67 : 67 < N := by omega
  have hz67___1 : 67 + 1 < N := by omega
  have hz69 : 69 < N := by omega
  have hz69___1 : 69 + 1 < N := by omega
  have hz69___2 : 69 + 2 < N := by omega
  have hz69___3 : 69 + 3 < N := by omega
  have hz73 : 73 < N := by omega
  have hz1___1___3 : 1 + 1 + 3 < N := by omega
  have hz69___3 : 69 + 3 < N := by omega
  have hl : lv_has ls 5 [(0, .ref (ad 0)), (1, .int x), (2, .int y), (3, .int (nI f)), (4, .int d)] := hl
  refine lv_iload_n hx hb (dk kX5_lift_ok 0 rfl) rfl (lv_at hl 1 rfl) ?_
  refine lv_iload_n hx hb (dk kX5_lift_ok 1 rfl) rfl (lv_at hl 2 rfl) ?_
  refine csPv (As := [.int x, .int y]) (rest := []) ⟨hx, hb, hml, hown, hts⟩ (tX5_requireCell_ok l x y hon) (cwS9 2 hts mcX5_requireCell (ac10 _ (List.mem_of_getElem? (i := 0) rfl)) msX5_requireCell mini_RX5 rfl rfl hdX5_requireCell ⟨Nat.le_of_ble_eq_true rfl, Nat.le_of_ble_eq_true rfl⟩) rfl hl.1 rfl (Nat.le_of_ble_eq_true rfl) (by decide) (dk kX5_lift_ok 2 rfl) ?_
  refine lv_iload_n hx hb (dk kX5_lift_ok 3 rfl) rfl (lv_at hl 3 rfl) ?_
  refine lv_iload hx hb (dk kX5_lift_ok 4 rfl) (lv_at hl 4 rfl) ?_
  refine csPv (As := [.int (nI f), .int d]) (rest := []) ⟨hx, hb, hml, hown, hts⟩ (tX5_requireLift_ok l (nI f) d (btw_nI hf) hd9) (cwS9 2 hts mcX5_requireLift (ac10 _ (List.mem_of_getElem? (i := 3) rfl)) msX5_requireLift mini_RX5 rfl rfl hdX5_requireLift ⟨Nat.le_of_ble_eq_true rfl, Nat.le_of_ble_eq_true rfl⟩) rfl hl.1 rfl (Nat.le_of_ble_eq_true rfl) (by decide) (dk kX5_lift_ok 5 rfl) ?_
  refine lv_aload_n hx hb (dk kX5_lift_ok 6 rfl) rfl (lv_at hl 0 rfl) ?_
  refine gf hx hb hts (fun w h => List.mem_cons_of_mem _ (acX5 w h)) hown hK hP hz0 hC rfl 0 (by decide) (hts _ (List.mem_cons_of_mem _ (ac7 _ (List.mem_of_getElem? (i := 21) rfl)))) (fun _ h => h) rfl (dk kX5_lift_ok 7 rfl) ?_
  refine lv_iload_n hx hb (dk kX5_lift_ok 8 rfl) rfl (lv_at hl 1 rfl) ?_
  refine lv_iload_n hx hb (dk kX5_lift_ok 9 rfl) rfl (lv_at hl 2 rfl) ?_
  refine lv_iload_n hx hb (dk kX5_lift_ok 10 rfl) rfl (lv_at hl 3 rfl) ?_
  refine lv_iload hx hb (dk kX5_lift_ok 11 rfl) (lv_at hl 4 rfl) ?_
  refine cvR (As := [.int x, .int y, .int (nI f), .int d]) (rest := []) ⟨hx, hb, hml, hown, hts⟩ (tX4_whyNotLifted l D cI cQ cL ad N F 1 (by omega) c b v g h j t u z hN x y (nI f) f rfl (by omega) (by omega) d) (cwV9 4 hts mcX4_whyNotLifted (ac10 _ (List.mem_of_getElem? (i := 6) rfl)) miX4_whyNotLifted meX4_whyNotLifted mini_RX4 rfl rfl hdX4_whyNotLifted ⟨Nat.le_of_ble_eq_true rfl, Nat.le_of_ble_eq_true rfl⟩) hK hP hNW hz1 hN.1 rfl rfl hl.1 rfl (Nat.le_of_ble_eq_true rfl) (by decide) (dk kX5_lift_ok 12 rfl) ?_
  refine n_if_eq (tgt := 36) hx hb (by first | omega | (have q1 := wnl_le c b v t z x y f d; omega)) (dk kX5_lift_ok 13 rfl) (by decide) (fun h1 => ?_) (fun h1 => ?_)
  · exact absurd h1 hwn
  · skip
    exact hthr 63 67 88 26 "the pile can not be lifted" ls [] _ _ 0 0 (by decide) (by decide) hP hS hl.1 (dk kX5_lift_ok 14 rfl) (dk kX5_lift_ok 15 rfl) (dk kX5_lift_ok 16 rfl) (dk kX5_lift_ok 17 rfl) (dk kX5_lift_ok 18 rfl) (by decide) (by decide) (by decide) (by decide) (by decide) (by decide)
set_option maxRecDepth 100000 in
set_option maxHeartbeats 4000000 in
theorem tX5_set (l : Launch) (D : va_G) (cI cQ cL : ClassId) (ad : Nat → Nat) (N : Nat) (F : Nat → va_E) (hk : 76 < N) (c b v g h j : Nat → Int32) (t : Nat) (u z : Int32) (hN : stAt cI ad F 1 c b v g h j (nI t) u z) (c8 b8 v8 g8 h8 j8 : Nat → Int32) (t8 : Nat) (u8 z8 : Int32) (hSn : stAt cI ad F 9 c8 b8 v8 g8 h8 j8 (nI t8) u8 z8) (n9 m9 : Nat) (hn9 : n9 < 6) (hm9 : m9 ≤ 6) (hPa : paAt cQ ad F 17 n9 m9) (a : Nat → Int32) (n : Nat) (hn60 : n ≤ 60) (hT : gtAt cI ad F 67 a n) (c6 b6 v6 : Nat → Int32) (hM6 : matAt cI ad F 69 c6 b6 v6) (a7 d7 q7 : Nat → Int32) (hO : roAt cI ad F 73 a7 d7 q7) (hs : Bool) (hC : F 0 = .inr (5, [.ref (ad 1), .ref (ad 9), .ref (ad 17), .ref (ad 67), .ref (ad 69), .ref (ad 73), .int (bI hs)])) (cr br vr gr hr9 jr : Nat → Int32) (tr : Nat) (ur zr : Int32) (hRi : stAt cI ad F (17 + 2 + 8 * n9) cr br vr gr hr9 jr (nI tr) ur zr) (x : Int32) (hx9 : btw x (nI 1) (nI 6) = true) : MX l yX5_set (Cond.code yX5_set cX5_set 3 (some .int) :: AW) ({ frames := 4, cells := 0, slots := 0, locals := 81 } : Room) D cI cQ cL ad N F [.ref (ad 0), .int x] (dp (some (.int z)) (sSet cI ad (paSet cQ ad (sSet cI ad F (17 + 2 + 8 * n9) c b v g h j (nI t) u z) 17 ((n9 + 1) % 6) (min (m9 + 1) 6)) 1 c b v g h j (nI t) u x)) 0 0 := by
  refine mx_i (ty := .int) (by decide +kernel) rfl (Nat.le_of_ble_eq_true rfl) (fun p e s m below meth cd Q ls hx hb hml hown hts hDi hP hK hNW hS hret hl => ?_)
  have hown : s.vm.findClass RX5 = some m.cls := hown
  have hz0 : 0 < N := by omega
  have hz1 : 1 < N := by omega
  have hz1___1 : 1 + 1 < N := by omega
  have hz1___1___1 : 1 + 1 + 1 < N := by omega
  have hz1___1___2 : 1 + 1 + 2 < N := by omega
  have hz1___1___3 : 1 + 1 + 3 < N := by omega
  have hz1___5 : 1 + 5 < N := by omega
  have hz1___6 : 1 + 6 < N := by omega
  have hz1___7 : 1 + 7 < N := by omega
  have hz9 : 9 < N := by omega
  have hz17 : 17 < N := by omega
  have hz17___1 : 17 + 1 < N := by omega
  have hz67 : 67 < N := by omega
  have hz67___1 : 67 + 1 < N := by omega
  have hz69 : 69 < N := by omega
  have hz69___1 : 69 + 1 < N := by omega
  have hz69___2 : 69 + 2 < N := by omega
  have hz69___3 : 69 + 3 < N := by omega
  have hz73 : 73 < N := by omega
  have hz1___1___3 : 1 + 1 + 3 < N := by omega
  have hz69___3 : 69 + 3 < N := by omega
  have hl : lv_has ls 3 [(0, .ref (ad 0)), (1, .int x)] := hl
  refine lv_iload_n hx hb (dk kX5_set_ok 0 rfl) rfl (lv_at hl 1 rfl) ?_
  refine lv_iconst (v := nI 1) hx hb (dk kX5_set_ok 1 rfl) rfl ?_
  refine lv_icmp_lt (tgt := 11) hx hb (dk kX5_set_ok 2 rfl) (by decide) (fun h1 => ?_) (fun h1 => ?_)
  · exact absurd h1 (rng_ok hx9).1
  · skip
    refine lv_iload_n hx hb (dk kX5_set_ok 3 rfl) rfl (lv_at hl 1 rfl) ?_
    refine lv_bipush (v := nI 6) hx hb (dk kX5_set_ok 4 rfl) rfl ?_
    refine lv_icmp_le (tgt := 21) hx hb (dk kX5_set_ok 5 rfl) (by decide) (fun h2 => ?_) (fun h2 => ?_)
    · skip
      refine lv_aload_n hx hb (dk kX5_set_ok 11 rfl) rfl (lv_at hl 0 rfl) ?_
      refine gf hx hb hts (fun w h => List.mem_cons_of_mem _ (acX5 w h)) hown hK hP hz0 hC rfl 2 (by decide) (hts _ (List.mem_cons_of_mem _ (ac8 _ (List.mem_of_getElem? (i := 2) rfl)))) (fun _ h => h) rfl (dk kX5_set_ok 12 rfl) ?_
      refine lv_aload_n hx hb (dk kX5_set_ok 13 rfl) rfl (lv_at hl 0 rfl) ?_
      refine gf hx hb hts (fun w h => List.mem_cons_of_mem _ (acX5 w h)) hown hK hP hz0 hC rfl 0 (by decide) (hts _ (List.mem_cons_of_mem _ (ac7 _ (List.mem_of_getElem? (i := 21) rfl)))) (fun _ h => h) rfl (dk kX5_set_ok 14 rfl) ?_
      refine cvDv (As := [.ref (ad 1)]) (rest := []) (paSet cQ ad (sSet cI ad F (17 + 2 + 8 * n9) c b v g h j (nI t) u z) 17 ((n9 + 1) % 6) (min (m9 + 1) 6)) ⟨hx, hb, hml, hown, hts⟩ (tX2_save l D cI cQ cL ad N F 17 n9 m9 hn9 hm9 (by omega) hPa cr br vr gr hr9 jr tr ur zr hRi (by omega) 1 (by omega) c b v g h j t u z hN (by omega)) (cwV9 1 hts mcX2_save (ac9 _ (List.mem_of_getElem? (i := 16) rfl)) miX2_save meX2_save mini_RX2 rfl rfl hdX2_save ⟨Nat.le_of_ble_eq_true rfl, Nat.le_of_ble_eq_true rfl⟩) hDi hK hP hNW hS hz17 hPa.1 rfl rfl hl.1 rfl (Nat.le_of_ble_eq_true rfl) (by decide) (dk kX5_set_ok 15 rfl) rfl (fun H locs hP hS => ?_)
      refine lv_aload_n hx hb (dk kX5_set_ok 16 rfl) rfl (lv_at hl 0 rfl) ?_
      refine gf hx hb hts (fun w h => List.mem_cons_of_mem _ (acX5 w h)) hown hK hP hz0 ((paSet_out (by omega)).trans ((sSet_out (by omega)).trans hC)) rfl 0 (by decide) (hts _ (List.mem_cons_of_mem _ (ac7 _ (List.mem_of_getElem? (i := 21) rfl)))) (fun _ h => h) rfl (dk kX5_set_ok 17 rfl) ?_
      refine gfN hx hb hts (fun w h => List.mem_cons_of_mem _ (acX4 w h)) hown hK hP hz1 (stAt_keep (stAt_keep hN (fun i _ _ => sSet_out (by omega))) (fun i _ _ => paSet_out (by omega))).1 rfl 6 (by decide) (nf8 hNW) (fun _ h => h) rfl (dk kX5_set_ok 18 rfl) ?_
      refine lv_istore_n (lv' := [(2, .int z), (0, .ref (ad 0)), (1, .int x)]) hx hb (dk kX5_set_ok 19 rfl) rfl hl (by decide) rfl (fun ls hl => ?_)
      refine lv_aload_n hx hb (dk kX5_set_ok 20 rfl) rfl (lv_at hl 1 rfl) ?_
      refine gf hx hb hts (fun w h => List.mem_cons_of_mem _ (acX5 w h)) hown hK hP hz0 ((paSet_out (by omega)).trans ((sSet_out (by omega)).trans hC)) rfl 0 (by decide) (hts _ (List.mem_cons_of_mem _ (ac7 _ (List.mem_of_getElem? (i := 21) rfl)))) (fun _ h => h) rfl (dk kX5_set_ok 21 rfl) ?_
      refine lv_iload_n hx hb (dk kX5_set_ok 22 rfl) rfl (lv_at hl 2 rfl) ?_
      replace hP := st_touch (stAt_keep (stAt_keep hN (fun i _ _ => sSet_out (by omega))) (fun i _ _ => paSet_out (by omega))) hP
      refine pfN (sSet cI ad (paSet cQ ad (sSet cI ad F (17 + 2 + 8 * n9) c b v g h j (nI t) u z) 17 ((n9 + 1) % 6) (min (m9 + 1) 6)) 1 c b v g h j (nI t) u x) hx hb hts (fun w h => List.mem_cons_of_mem _ (acX4 w h)) tyX4 tyX4_ok nmX4 hown hK hDi hP hS hz1 (sSet_at (stAt_keep (stAt_keep hN (fun i _ _ => sSet_out (by omega))) (fun i _ _ => paSet_out (by omega)))).1 rfl 6 (by decide) (nf8 hNW) (fun _ h => h) rfl (ty := .int) rfl rfl rfl (Nat.le_of_ble_eq_true rfl) (dk kX5_set_ok 23 rfl) sSet_0 (fun H locs hP hS => ?_)
      refine lv_iload_n hx hb (dk kX5_set_ok 24 rfl) rfl (lv_at hl 0 rfl) ?_
      exact hret _ _ _ _ _ _ _ _ rfl (by exact ⟨rfl, rfl⟩) hP hS (by decide) (by decide) (dk kX5_set_ok 25 rfl)
    · exact absurd (Int32.not_le.mp h2) (rng_ok hx9).2
set_option maxRecDepth 100000 in
set_option maxHeartbeats 4000000 in
theorem tX5_setX_b1 (l : Launch) (hst : l.stackTraces = false) (D : va_G) (cI cQ cL : ClassId) (ad : Nat → Nat) (N : Nat) (F : Nat → va_E) (hk : 76 < N) (c b v g h j : Nat → Int32) (t : Nat) (u z : Int32) (hN : stAt cI ad F 1 c b v g h j (nI t) u z) (c8 b8 v8 g8 h8 j8 : Nat → Int32) (t8 : Nat) (u8 z8 : Int32) (hSn : stAt cI ad F 9 c8 b8 v8 g8 h8 j8 (nI t8) u8 z8) (n9 m9 : Nat) (hn9 : n9 < 6) (hm9 : m9 ≤ 6) (hPa : paAt cQ ad F 17 n9 m9) (a : Nat → Int32) (n : Nat) (hn60 : n ≤ 60) (hT : gtAt cI ad F 67 a n) (c6 b6 v6 : Nat → Int32) (hM6 : matAt cI ad F 69 c6 b6 v6) (a7 d7 q7 : Nat → Int32) (hO : roAt cI ad F 73 a7 d7 q7) (hs : Bool) (hC : F 0 = .inr (5, [.ref (ad 1), .ref (ad 9), .ref (ad 17), .ref (ad 67), .ref (ad 69), .ref (ad 73), .int (bI hs)])) (x : Int32) (hx9 : btw x (nI 1) (nI 6) = false) : MT l yX5_set (Cond.code yX5_set cX5_set 3 (some .int) :: AW) ({ frames := 6, cells := 1, slots := 6, locals := 82 } : Room) D cI cQ cL ad N F [.ref (ad 0), .int x] eA 1 6 := by
  refine mt_of (ret := (some .int)) hst (by decide +kernel) rfl (Nat.le_of_ble_eq_true rfl) (fun p e s m below meth cd Q ls hx hb hml hown hts hDi hP hK hNW hS hX hthr hthrW hout hl => ?_)
  have hown : s.vm.findClass RX5 = some m.cls := hown
  have hz0 : 0 < N := by omega
  have hz1 : 1 < N := by omega
  have hz1___1 : 1 + 1 < N := by omega
  have hz1___1___1 : 1 + 1 + 1 < N := by omega
  have hz1___1___2 : 1 + 1 + 2 < N := by omega
  have hz1___1___3 : 1 + 1 + 3 < N := by omega
  have hz1___5 : 1 + 5 < N := by omega
  have hz1___6 : 1 + 6 < N := by omega
  have hz1___7 : 1 + 7 < N := by omega
  have hz9 : 9 < N := by omega
  have hz17 : 17 < N := by omega
  have hz17___1 : 17 + 1 < N := by omega
  have hz67 : 67 < N := by omega
  have hz67___1 : 67 + 1 < N := by omega
  have hz69 : 69 < N := by omega
  have hz69___1 : 69 + 1 < N := by omega
  have hz69___2 : 69 + 2 < N := by omega
  have hz69___3 : 69 + 3 < N := by omega
  have hz73 : 73 < N := by omega
  have hz1___1___3 : 1 + 1 + 3 < N := by omega
  have hz69___3 : 69 + 3 < N := by omega
  have hl : lv_has ls 3 [(0, .ref (ad 0)), (1, .int x)] := hl
  refine lv_iload_n hx hb (dk kX5_set_ok 0 rfl) rfl (lv_at hl 1 rfl) ?_
  refine lv_iconst (v := nI 1) hx hb (dk kX5_set_ok 1 rfl) rfl ?_
  refine lv_icmp_lt (tgt := 11) hx hb (dk kX5_set_ok 2 rfl) (by decide) (fun h1 => ?_) (fun h1 => ?_)
  · skip
    exact hthr 104 108 106 11 "the setting is 1 to 6" ls [] _ _ 0 0 (by decide) (by decide) hP hS hl.1 (dk kX5_set_ok 6 rfl) (dk kX5_set_ok 7 rfl) (dk kX5_set_ok 8 rfl) (dk kX5_set_ok 9 rfl) (dk kX5_set_ok 10 rfl) (by decide) (by decide) (by decide) (by decide) (by decide) (by decide)
  · skip
    refine lv_iload_n hx hb (dk kX5_set_ok 3 rfl) rfl (lv_at hl 1 rfl) ?_
    refine lv_bipush (v := nI 6) hx hb (dk kX5_set_ok 4 rfl) rfl ?_
    refine lv_icmp_le (tgt := 21) hx hb (dk kX5_set_ok 5 rfl) (by decide) (fun h2 => ?_) (fun h2 => ?_)
    · exact (ff_tt hx9 (rng_bad h1 (Int32.not_lt.mpr h2))).elim
    · skip
      exact hthr 104 108 106 11 "the setting is 1 to 6" ls [] _ _ 0 0 (by decide) (by decide) hP hS hl.1 (dk kX5_set_ok 6 rfl) (dk kX5_set_ok 7 rfl) (dk kX5_set_ok 8 rfl) (dk kX5_set_ok 9 rfl) (dk kX5_set_ok 10 rfl) (by decide) (by decide) (by decide) (by decide) (by decide) (by decide)
set_option maxRecDepth 100000 in
set_option maxHeartbeats 4000000 in
theorem tX5_put (l : Launch) (D : va_G) (cI cQ cL : ClassId) (ad : Nat → Nat) (N : Nat) (F : Nat → va_E) (hk : 76 < N) (c b v g h j : Nat → Int32) (t : Nat) (u z : Int32) (hN : stAt cI ad F 1 c b v g h j (nI t) u z) (c8 b8 v8 g8 h8 j8 : Nat → Int32) (t8 : Nat) (u8 z8 : Int32) (hSn : stAt cI ad F 9 c8 b8 v8 g8 h8 j8 (nI t8) u8 z8) (n9 m9 : Nat) (hn9 : n9 < 6) (hm9 : m9 ≤ 6) (hPa : paAt cQ ad F 17 n9 m9) (a : Nat → Int32) (n : Nat) (hn60 : n ≤ 60) (hT : gtAt cI ad F 67 a n) (c6 b6 v6 : Nat → Int32) (hM6 : matAt cI ad F 69 c6 b6 v6) (a7 d7 q7 : Nat → Int32) (hO : roAt cI ad F 73 a7 d7 q7) (hs : Bool) (hC : F 0 = .inr (5, [.ref (ad 1), .ref (ad 9), .ref (ad 17), .ref (ad 67), .ref (ad 69), .ref (ad 73), .int (bI hs)])) (cr br vr gr hr9 jr : Nat → Int32) (tr : Nat) (ur zr : Int32) (hRi : stAt cI ad F (17 + 2 + 8 * n9) cr br vr gr hr9 jr (nI tr) ur zr) (x : Int32) (w : Nat) (hxw : x = nI w) (hw : w < 16) (y k9 : Int32) (hon : on y k9 = true) (hov : over c = false) (hcv : cov v w = false) : MX l yX5_put (Cond.code yX5_put cX5_put 5 (some .int) :: AW) ({ frames := 7, cells := 0, slots := 0, locals := 103 } : Room) D cI cQ cL ad N F [.ref (ad 0), .int x, .int y, .int k9] (dp (some (.int (nI (hgt (mov1 c b v w (cat y k9)) (cat y k9))))) (sSet cI ad (paSet cQ ad (sSet cI ad F (17 + 2 + 8 * n9) c b v g h j (nI t) u z) 17 ((n9 + 1) % 6) (min (m9 + 1) 6)) 1 (mov1 c b v w (cat y k9)) (mov2 c b v w (cat y k9)) (mov3 c b v w (cat y k9)) g h j (nI t) u z)) 0 0 := by
  refine mx_i (ty := .int) (by decide +kernel) rfl (Nat.le_of_ble_eq_true rfl) (fun p e s m below meth cd Q ls hx hb hml hown hts hDi hP hK hNW hS hret hl => ?_)
  have hown : s.vm.findClass RX5 = some m.cls := hown
  subst hxw
  have hz0 : 0 < N := by omega
  have hz1 : 1 < N := by omega
  have hz1___1 : 1 + 1 < N := by omega
  have hz1___1___1 : 1 + 1 + 1 < N := by omega
  have hz1___1___2 : 1 + 1 + 2 < N := by omega
  have hz1___1___3 : 1 + 1 + 3 < N := by omega
  have hz1___5 : 1 + 5 < N := by omega
  have hz1___6 : 1 + 6 < N := by omega
  have hz1___7 : 1 + 7 < N := by omega
  have hz9 : 9 < N := by omega
  have hz17 : 17 < N := by omega
  have hz17___1 : 17 + 1 < N := by omega
  have hz67 : 67 < N := by omega
  have hz67___1 : 67 + 1 < N := by omega
  have hz69 : 69 < N := by omega
  have hz69___1 : 69 + 1 < N := by omega
  have hz69___2 : 69 + 2 < N := by omega
  have hz69___3 : 69 + 3 < N := by omega
  have hz73 : 73 < N := by omega
  have hz1___1___3 : 1 + 1 + 3 < N := by omega
  have hz69___3 : 69 + 3 < N := by omega
  have hl : lv_has ls 5 [(0, .ref (ad 0)), (1, .int (nI w)), (2, .int y), (3, .int k9)] := hl
  refine lv_iload_n hx hb (dk kX5_put_ok 0 rfl) rfl (lv_at hl 1 rfl) ?_
  refine csPv (As := [.int (nI w)]) (rest := []) ⟨hx, hb, hml, hown, hts⟩ (tX5_requireWink_ok l (nI w) (wk_nI hw)) (cwS9 1 hts mcX5_requireWink (ac9 _ (List.mem_of_getElem? (i := 6) rfl)) msX5_requireWink mini_RX5 rfl rfl hdX5_requireWink ⟨Nat.le_of_ble_eq_true rfl, Nat.le_of_ble_eq_true rfl⟩) rfl hl.1 rfl (Nat.le_of_ble_eq_true rfl) (by decide) (dk kX5_put_ok 1 rfl) ?_
  refine lv_iload_n hx hb (dk kX5_put_ok 2 rfl) rfl (lv_at hl 2 rfl) ?_
  refine lv_iload_n hx hb (dk kX5_put_ok 3 rfl) rfl (lv_at hl 3 rfl) ?_
  refine csPv (As := [.int y, .int k9]) (rest := []) ⟨hx, hb, hml, hown, hts⟩ (tX5_requireCell_ok l y k9 hon) (cwS9 2 hts mcX5_requireCell (ac10 _ (List.mem_of_getElem? (i := 0) rfl)) msX5_requireCell mini_RX5 rfl rfl hdX5_requireCell ⟨Nat.le_of_ble_eq_true rfl, Nat.le_of_ble_eq_true rfl⟩) rfl hl.1 rfl (Nat.le_of_ble_eq_true rfl) (by decide) (dk kX5_put_ok 4 rfl) ?_
  refine lv_aload_n hx hb (dk kX5_put_ok 5 rfl) rfl (lv_at hl 0 rfl) ?_
  refine gf hx hb hts (fun w h => List.mem_cons_of_mem _ (acX5 w h)) hown hK hP hz0 hC rfl 0 (by decide) (hts _ (List.mem_cons_of_mem _ (ac7 _ (List.mem_of_getElem? (i := 21) rfl)))) (fun _ h => h) rfl (dk kX5_put_ok 6 rfl) ?_
  refine gfN hx hb hts (fun w h => List.mem_cons_of_mem _ (acX4 w h)) hown hK hP hz1 hN.1 rfl 0 (by decide) (nf2 hNW) (fun _ h => h) rfl (dk kX5_put_ok 7 rfl) ?_
  refine cvR (As := []) (rest := []) ⟨hx, hb, hml, hown, hts⟩ (tX1_isOver l D cI cQ cL ad N F (1 + 1) (by omega) c b v hN.2.1) (cwV9 0 hts mcX1_isOver (ac10 _ (List.mem_of_getElem? (i := 15) rfl)) miX1_isOver meX1_isOver mini_RX1 rfl rfl hdX1_isOver ⟨Nat.le_of_ble_eq_true rfl, Nat.le_of_ble_eq_true rfl⟩) hK hP hNW hz1___1 hN.2.1.1 rfl rfl hl.1 rfl (Nat.le_of_ble_eq_true rfl) (by decide) (dk kX5_put_ok 8 rfl) ?_
  refine b_if_ne (tgt := 36) hx hb (dk kX5_put_ok 9 rfl) (by decide) (fun h1 => ?_) (fun h1 => ?_)
  · exact absurd (hov.symm.trans h1) (by decide)
  · skip
    refine lv_aload_n hx hb (dk kX5_put_ok 10 rfl) rfl (lv_at hl 0 rfl) ?_
    refine gf hx hb hts (fun w h => List.mem_cons_of_mem _ (acX5 w h)) hown hK hP hz0 hC rfl 0 (by decide) (hts _ (List.mem_cons_of_mem _ (ac7 _ (List.mem_of_getElem? (i := 21) rfl)))) (fun _ h => h) rfl (dk kX5_put_ok 11 rfl) ?_
    refine gfN hx hb hts (fun w h => List.mem_cons_of_mem _ (acX4 w h)) hown hK hP hz1 hN.1 rfl 0 (by decide) (nf2 hNW) (fun _ h => h) rfl (dk kX5_put_ok 12 rfl) ?_
    refine lv_iload_n hx hb (dk kX5_put_ok 13 rfl) rfl (lv_at hl 1 rfl) ?_
    refine cvR (As := [.int (nI w)]) (rest := []) ⟨hx, hb, hml, hown, hts⟩ (tX1_isCovered l D cI cQ cL ad N F (1 + 1) (by omega) c b v hN.2.1 (nI w) w rfl (by omega)) (cwV9 1 hts mcX1_isCovered (ac10 _ (List.mem_of_getElem? (i := 16) rfl)) miX1_isCovered meX1_isCovered mini_RX1 rfl rfl hdX1_isCovered ⟨Nat.le_of_ble_eq_true rfl, Nat.le_of_ble_eq_true rfl⟩) hK hP hNW hz1___1 hN.2.1.1 rfl rfl hl.1 rfl (Nat.le_of_ble_eq_true rfl) (by decide) (dk kX5_put_ok 14 rfl) ?_
    refine b_if_eq (tgt := 46) hx hb (dk kX5_put_ok 15 rfl) (by decide) (fun h2 => ?_) (fun h2 => ?_)
    · skip
      refine lv_aload_n hx hb (dk kX5_put_ok 21 rfl) rfl (lv_at hl 0 rfl) ?_
      refine gf hx hb hts (fun w h => List.mem_cons_of_mem _ (acX5 w h)) hown hK hP hz0 hC rfl 2 (by decide) (hts _ (List.mem_cons_of_mem _ (ac8 _ (List.mem_of_getElem? (i := 2) rfl)))) (fun _ h => h) rfl (dk kX5_put_ok 22 rfl) ?_
      refine lv_aload_n hx hb (dk kX5_put_ok 23 rfl) rfl (lv_at hl 0 rfl) ?_
      refine gf hx hb hts (fun w h => List.mem_cons_of_mem _ (acX5 w h)) hown hK hP hz0 hC rfl 0 (by decide) (hts _ (List.mem_cons_of_mem _ (ac7 _ (List.mem_of_getElem? (i := 21) rfl)))) (fun _ h => h) rfl (dk kX5_put_ok 24 rfl) ?_
      refine cvDv (As := [.ref (ad 1)]) (rest := []) (paSet cQ ad (sSet cI ad F (17 + 2 + 8 * n9) c b v g h j (nI t) u z) 17 ((n9 + 1) % 6) (min (m9 + 1) 6)) ⟨hx, hb, hml, hown, hts⟩ (tX2_save l D cI cQ cL ad N F 17 n9 m9 hn9 hm9 (by omega) hPa cr br vr gr hr9 jr tr ur zr hRi (by omega) 1 (by omega) c b v g h j t u z hN (by omega)) (cwV9 1 hts mcX2_save (ac9 _ (List.mem_of_getElem? (i := 16) rfl)) miX2_save meX2_save mini_RX2 rfl rfl hdX2_save ⟨Nat.le_of_ble_eq_true rfl, Nat.le_of_ble_eq_true rfl⟩) hDi hK hP hNW hS hz17 hPa.1 rfl rfl hl.1 rfl (Nat.le_of_ble_eq_true rfl) (by decide) (dk kX5_put_ok 25 rfl) rfl (fun H locs hP hS => ?_)
      refine lv_iload_n hx hb (dk kX5_put_ok 26 rfl) rfl (lv_at hl 2 rfl) ?_
      refine lv_iload_n hx hb (dk kX5_put_ok 27 rfl) rfl (lv_at hl 3 rfl) ?_
      refine csP (As := [.int y, .int k9]) (rest := []) ⟨hx, hb, hml, hown, hts⟩ (tX5_cellAt l y k9) (cwS9 2 hts mcX5_cellAt (ac0 _ (List.mem_of_getElem? (i := 17) rfl)) msX5_cellAt mini_RX5 rfl rfl hdX5_cellAt ⟨Nat.le_of_ble_eq_true rfl, Nat.le_of_ble_eq_true rfl⟩) rfl hl.1 rfl (Nat.le_of_ble_eq_true rfl) (by decide) (dk kX5_put_ok 28 rfl) ?_
      refine lv_istore (lv' := [(4, .int (cat y k9)), (0, .ref (ad 0)), (1, .int (nI w)), (2, .int y), (3, .int k9)]) hx hb (dk kX5_put_ok 29 rfl) hl (by decide) rfl (fun ls hl => ?_)
      refine lv_aload_n hx hb (dk kX5_put_ok 30 rfl) rfl (lv_at hl 1 rfl) ?_
      refine gf hx hb hts (fun w h => List.mem_cons_of_mem _ (acX5 w h)) hown hK hP hz0 ((paSet_out (by omega)).trans ((sSet_out (by omega)).trans hC)) rfl 0 (by decide) (hts _ (List.mem_cons_of_mem _ (ac7 _ (List.mem_of_getElem? (i := 21) rfl)))) (fun _ h => h) rfl (dk kX5_put_ok 31 rfl) ?_
      refine gfN hx hb hts (fun w h => List.mem_cons_of_mem _ (acX4 w h)) hown hK hP hz1 (stAt_keep (stAt_keep hN (fun i _ _ => sSet_out (by omega))) (fun i _ _ => paSet_out (by omega))).1 rfl 0 (by decide) (nf2 hNW) (fun _ h => h) rfl (dk kX5_put_ok 32 rfl) ?_
      refine lv_iload_n hx hb (dk kX5_put_ok 33 rfl) rfl (lv_at hl 2 rfl) ?_
      refine lv_iload hx hb (dk kX5_put_ok 34 rfl) (lv_at hl 0 rfl) ?_
      replace hP := st_touch (stAt_keep (stAt_keep hN (fun i _ _ => sSet_out (by omega))) (fun i _ _ => paSet_out (by omega))) hP
      refine cvDv (As := [.int (nI w), .int (cat y k9)]) (rest := []) (sSet cI ad (paSet cQ ad (sSet cI ad F (17 + 2 + 8 * n9) c b v g h j (nI t) u z) 17 ((n9 + 1) % 6) (min (m9 + 1) 6)) 1 (mov1 c b v w (cat y k9)) (mov2 c b v w (cat y k9)) (mov3 c b v w (cat y k9)) g h j (nI t) u z) ⟨hx, hb, hml, hown, hts⟩ (tX1_move l D cI cQ cL ad N (sSet cI ad (paSet cQ ad (sSet cI ad F (17 + 2 + 8 * n9) c b v g h j (nI t) u z) 17 ((n9 + 1) % 6) (min (m9 + 1) 6)) 1 c b v g h j (nI t) u z) (1 + 1) (by omega) c b v (sSet_at (stAt_keep (stAt_keep hN (fun i _ _ => sSet_out (by omega))) (fun i _ _ => paSet_out (by omega)))).2.1 (nI w) w rfl (by omega) (cat y k9)) (cwV9 2 hts mcX1_move (ac10 _ (List.mem_of_getElem? (i := 17) rfl)) miX1_move meX1_move mini_RX1 rfl rfl hdX1_move ⟨Nat.le_of_ble_eq_true rfl, Nat.le_of_ble_eq_true rfl⟩) hDi hK hP hNW hS hz1___1 (sSet_at (stAt_keep (stAt_keep hN (fun i _ _ => sSet_out (by omega))) (fun i _ _ => paSet_out (by omega)))).2.1.1 rfl rfl hl.1 rfl (Nat.le_of_ble_eq_true rfl) (by decide) (dk kX5_put_ok 35 rfl) sSet_m (fun H locs hP hS => ?_)
      refine lv_aload_n hx hb (dk kX5_put_ok 36 rfl) rfl (lv_at hl 1 rfl) ?_
      refine gf hx hb hts (fun w h => List.mem_cons_of_mem _ (acX5 w h)) hown hK hP hz0 ((sSet_out (by omega)).trans ((paSet_out (by omega)).trans ((sSet_out (by omega)).trans hC))) rfl 0 (by decide) (hts _ (List.mem_cons_of_mem _ (ac7 _ (List.mem_of_getElem? (i := 21) rfl)))) (fun _ h => h) rfl (dk kX5_put_ok 37 rfl) ?_
      refine gfN hx hb hts (fun w h => List.mem_cons_of_mem _ (acX4 w h)) hown hK hP hz1 (sSet_at (stAt_keep (stAt_keep hN (fun i _ _ => sSet_out (by omega))) (fun i _ _ => paSet_out (by omega)))).1 rfl 0 (by decide) (nf2 hNW) (fun _ h => h) rfl (dk kX5_put_ok 38 rfl) ?_
      refine lv_iload hx hb (dk kX5_put_ok 39 rfl) (lv_at hl 0 rfl) ?_
      refine cvR (As := [.int (cat y k9)]) (rest := []) ⟨hx, hb, hml, hown, hts⟩ (tX1_heightAt l D cI cQ cL ad N (sSet cI ad (paSet cQ ad (sSet cI ad F (17 + 2 + 8 * n9) c b v g h j (nI t) u z) 17 ((n9 + 1) % 6) (min (m9 + 1) 6)) 1 (mov1 c b v w (cat y k9)) (mov2 c b v w (cat y k9)) (mov3 c b v w (cat y k9)) g h j (nI t) u z) (1 + 1) (by omega) (mov1 c b v w (cat y k9)) (mov2 c b v w (cat y k9)) (mov3 c b v w (cat y k9)) (sSet_at (stAt_keep (stAt_keep hN (fun i _ _ => sSet_out (by omega))) (fun i _ _ => paSet_out (by omega)))).2.1 (cat y k9)) (cwV9 1 hts mcX1_heightAt (ac10 _ (List.mem_of_getElem? (i := 14) rfl)) miX1_heightAt meX1_heightAt mini_RX1 rfl rfl hdX1_heightAt ⟨Nat.le_of_ble_eq_true rfl, Nat.le_of_ble_eq_true rfl⟩) hK hP hNW hz1___1 (sSet_at (stAt_keep (stAt_keep hN (fun i _ _ => sSet_out (by omega))) (fun i _ _ => paSet_out (by omega)))).2.1.1 rfl rfl hl.1 rfl (Nat.le_of_ble_eq_true rfl) (by decide) (dk kX5_put_ok 40 rfl) ?_
      exact hret _ _ _ _ _ _ _ _ rfl (by exact ⟨rfl, rfl⟩) hP hS (by decide) (by decide) (dk kX5_put_ok 41 rfl)
    · exact absurd (hcv.symm.trans h2) (by decide)
set_option maxRecDepth 100000 in
set_option maxHeartbeats 4000000 in
theorem tX5_putX_b1 (l : Launch) (hst : l.stackTraces = false) (D : va_G) (cI cQ cL : ClassId) (ad : Nat → Nat) (N : Nat) (F : Nat → va_E) (hk : 76 < N) (c b v g h j : Nat → Int32) (t : Nat) (u z : Int32) (hN : stAt cI ad F 1 c b v g h j (nI t) u z) (c8 b8 v8 g8 h8 j8 : Nat → Int32) (t8 : Nat) (u8 z8 : Int32) (hSn : stAt cI ad F 9 c8 b8 v8 g8 h8 j8 (nI t8) u8 z8) (n9 m9 : Nat) (hn9 : n9 < 6) (hm9 : m9 ≤ 6) (hPa : paAt cQ ad F 17 n9 m9) (a : Nat → Int32) (n : Nat) (hn60 : n ≤ 60) (hT : gtAt cI ad F 67 a n) (c6 b6 v6 : Nat → Int32) (hM6 : matAt cI ad F 69 c6 b6 v6) (a7 d7 q7 : Nat → Int32) (hO : roAt cI ad F 73 a7 d7 q7) (hs : Bool) (hC : F 0 = .inr (5, [.ref (ad 1), .ref (ad 9), .ref (ad 17), .ref (ad 67), .ref (ad 69), .ref (ad 73), .int (bI hs)])) (x y k9 : Int32) (hwk : wk x = false) : MT l yX5_put (Cond.code yX5_put cX5_put 5 (some .int) :: AW) ({ frames := 7, cells := 1, slots := 6, locals := 102 } : Room) D cI cQ cL ad N F [.ref (ad 0), .int x, .int y, .int k9] eI 1 6 := by
  refine mt_of (ret := (some .int)) hst (by decide +kernel) rfl (Nat.le_of_ble_eq_true rfl) (fun p e s m below meth cd Q ls hx hb hml hown hts hDi hP hK hNW hS hX hthr hthrW hout hl => ?_)
  have hown : s.vm.findClass RX5 = some m.cls := hown
  have hz0 : 0 < N := by omega
  have hz1 : 1 < N := by omega
  have hz1___1 : 1 + 1 < N := by omega
  have hz1___1___1 : 1 + 1 + 1 < N := by omega
  have hz1___1___2 : 1 + 1 + 2 < N := by omega
  have hz1___1___3 : 1 + 1 + 3 < N := by omega
  have hz1___5 : 1 + 5 < N := by omega
  have hz1___6 : 1 + 6 < N := by omega
  have hz1___7 : 1 + 7 < N := by omega
  have hz9 : 9 < N := by omega
  have hz17 : 17 < N := by omega
  have hz17___1 : 17 + 1 < N := by omega
  have hz67 : 67 < N := by omega
  have hz67___1 : 67 + 1 < N := by omega
  have hz69 : 69 < N := by omega
  have hz69___1 : 69 + 1 < N := by omega
  have hz69___2 : 69 + 2 < N := by omega
  have hz69___3 : 69 + 3 < N := by omega
  have hz73 : 73 < N := by omega
  have hz1___1___3 : 1 + 1 + 3 < N := by omega
  have hz69___3 : 69 + 3 < N := by omega
  have hl : lv_has ls 5 [(0, .ref (ad 0)), (1, .int x), (2, .int y), (3, .int k9)] := hl
  refine lv_iload_n hx hb (dk kX5_put_ok 0 rfl) rfl (lv_at hl 1 rfl) ?_
  exact csT (As := [.int x]) (rest := []) ⟨hx, hb, hml, hown, hts⟩ (tX5_requireWink_b1 l hst D cI cQ cL ad N F x hwk) (cwS9 1 hts mcX5_requireWink (ac9 _ (List.mem_of_getElem? (i := 6) rfl)) msX5_requireWink mini_RX5 rfl rfl hdX5_requireWink ⟨Nat.le_of_ble_eq_true rfl, Nat.le_of_ble_eq_true rfl⟩) hDi hK hP hNW hS hX rfl hl.1 rfl (Nat.le_of_ble_eq_true rfl) (by decide) (dk kX5_put_ok 1 rfl) (fun H locs q ce hP hS h1 h2 h3 => hout _ _ _ H locs q ce _ _ hP hS h1 h2 h3 (by decide) (by decide))
set_option maxRecDepth 100000 in
set_option maxHeartbeats 4000000 in
theorem tX5_putX_b2 (l : Launch) (hst : l.stackTraces = false) (D : va_G) (cI cQ cL : ClassId) (ad : Nat → Nat) (N : Nat) (F : Nat → va_E) (hk : 76 < N) (c b v g h j : Nat → Int32) (t : Nat) (u z : Int32) (hN : stAt cI ad F 1 c b v g h j (nI t) u z) (c8 b8 v8 g8 h8 j8 : Nat → Int32) (t8 : Nat) (u8 z8 : Int32) (hSn : stAt cI ad F 9 c8 b8 v8 g8 h8 j8 (nI t8) u8 z8) (n9 m9 : Nat) (hn9 : n9 < 6) (hm9 : m9 ≤ 6) (hPa : paAt cQ ad F 17 n9 m9) (a : Nat → Int32) (n : Nat) (hn60 : n ≤ 60) (hT : gtAt cI ad F 67 a n) (c6 b6 v6 : Nat → Int32) (hM6 : matAt cI ad F 69 c6 b6 v6) (a7 d7 q7 : Nat → Int32) (hO : roAt cI ad F 73 a7 d7 q7) (hs : Bool) (hC : F 0 = .inr (5, [.ref (ad 1), .ref (ad 9), .ref (ad 17), .ref (ad 67), .ref (ad 69), .ref (ad 73), .int (bI hs)])) (x : Int32) (w : Nat) (hxw : x = nI w) (hw : w < 16) (y k9 : Int32) (hon : on y k9 = false) : MT l yX5_put (Cond.code yX5_put cX5_put 5 (some .int) :: AW) ({ frames := 7, cells := 1, slots := 6, locals := 103 } : Room) D cI cQ cL ad N F [.ref (ad 0), .int x, .int y, .int k9] eI 1 6 := by
  refine mt_of (ret := (some .int)) hst (by decide +kernel) rfl (Nat.le_of_ble_eq_true rfl) (fun p e s m below meth cd Q ls hx hb hml hown hts hDi hP hK hNW hS hX hthr hthrW hout hl => ?_)
  have hown : s.vm.findClass RX5 = some m.cls := hown
  subst hxw
  have hz0 : 0 < N := by omega
  have hz1 : 1 < N := by omega
  have hz1___1 : 1 + 1 < N := by omega
  have hz1___1___1 : 1 + 1 + 1 < N := by omega
  have hz1___1___2 : 1 + 1 + 2 < N := by omega
  have hz1___1___3 : 1 + 1 + 3 < N := by omega
  have hz1___5 : 1 + 5 < N := by omega
  have hz1___6 : 1 + 6 < N := by omega
  have hz1___7 : 1 + 7 < N := by omega
  have hz9 : 9 < N := by omega
  have hz17 : 17 < N := by omega
  have hz17___1 : 17 + 1 < N := by omega
  have hz67 : 67 < N := by omega
  have hz67___1 : 67 + 1 < N := by omega
  have hz69 : 69 < N := by omega
  have hz69___1 : 69 + 1 < N := by omega
  have hz69___2 : 69 + 2 < N := by omega
  have hz69___3 : 69 + 3 < N := by omega
  have hz73 : 73 < N := by omega
  have hz1___1___3 : 1 + 1 + 3 < N := by omega
  have hz69___3 : 69 + 3 < N := by omega
  have hl : lv_has ls 5 [(0, .ref (ad 0)), (1, .int (nI w)), (2, .int y), (3, .int k9)] := hl
  refine lv_iload_n hx hb (dk kX5_put_ok 0 rfl) rfl (lv_at hl 1 rfl) ?_
  refine csPv (As := [.int (nI w)]) (rest := []) ⟨hx, hb, hml, hown, hts⟩ (tX5_requireWink_ok l (nI w) (wk_nI hw)) (cwS9 1 hts mcX5_requireWink (ac9 _ (List.mem_of_getElem? (i := 6) rfl)) msX5_requireWink mini_RX5 rfl rfl hdX5_requireWink ⟨Nat.le_of_ble_eq_true rfl, Nat.le_of_ble_eq_true rfl⟩) rfl hl.1 rfl (Nat.le_of_ble_eq_true rfl) (by decide) (dk kX5_put_ok 1 rfl) ?_
  refine lv_iload_n hx hb (dk kX5_put_ok 2 rfl) rfl (lv_at hl 2 rfl) ?_
  refine lv_iload_n hx hb (dk kX5_put_ok 3 rfl) rfl (lv_at hl 3 rfl) ?_
  exact csT (As := [.int y, .int k9]) (rest := []) ⟨hx, hb, hml, hown, hts⟩ (tX5_requireCell_b1 l hst D cI cQ cL ad N F y k9 hon) (cwS9 2 hts mcX5_requireCell (ac10 _ (List.mem_of_getElem? (i := 0) rfl)) msX5_requireCell mini_RX5 rfl rfl hdX5_requireCell ⟨Nat.le_of_ble_eq_true rfl, Nat.le_of_ble_eq_true rfl⟩) hDi hK hP hNW hS hX rfl hl.1 rfl (Nat.le_of_ble_eq_true rfl) (by decide) (dk kX5_put_ok 4 rfl) (fun H locs q ce hP hS h1 h2 h3 => hout _ _ _ H locs q ce _ _ hP hS h1 h2 h3 (by decide) (by decide))
set_option maxRecDepth 100000 in
set_option maxHeartbeats 4000000 in
theorem tX5_putX_b3 (l : Launch) (hst : l.stackTraces = false) (D : va_G) (cI cQ cL : ClassId) (ad : Nat → Nat) (N : Nat) (F : Nat → va_E) (hk : 76 < N) (c b v g h j : Nat → Int32) (t : Nat) (u z : Int32) (hN : stAt cI ad F 1 c b v g h j (nI t) u z) (c8 b8 v8 g8 h8 j8 : Nat → Int32) (t8 : Nat) (u8 z8 : Int32) (hSn : stAt cI ad F 9 c8 b8 v8 g8 h8 j8 (nI t8) u8 z8) (n9 m9 : Nat) (hn9 : n9 < 6) (hm9 : m9 ≤ 6) (hPa : paAt cQ ad F 17 n9 m9) (a : Nat → Int32) (n : Nat) (hn60 : n ≤ 60) (hT : gtAt cI ad F 67 a n) (c6 b6 v6 : Nat → Int32) (hM6 : matAt cI ad F 69 c6 b6 v6) (a7 d7 q7 : Nat → Int32) (hO : roAt cI ad F 73 a7 d7 q7) (hs : Bool) (hC : F 0 = .inr (5, [.ref (ad 1), .ref (ad 9), .ref (ad 17), .ref (ad 67), .ref (ad 69), .ref (ad 73), .int (bI hs)])) (x : Int32) (w : Nat) (hxw : x = nI w) (hw : w < 16) (y k9 : Int32) (hon : on y k9 = true) (hov : over c = true) : MT l yX5_put (Cond.code yX5_put cX5_put 5 (some .int) :: AW) ({ frames := 7, cells := 1, slots := 6, locals := 103 } : Room) D cI cQ cL ad N F [.ref (ad 0), .int x, .int y, .int k9] eS 1 6 := by
  refine mt_of (ret := (some .int)) hst (by decide +kernel) rfl (Nat.le_of_ble_eq_true rfl) (fun p e s m below meth cd Q ls hx hb hml hown hts hDi hP hK hNW hS hX hthr hthrW hout hl => ?_)
  have hown : s.vm.findClass RX5 = some m.cls := hown
  subst hxw
  have hz0 : 0 < N := by omega
  have hz1 : 1 < N := by omega
  have hz1___1 : 1 + 1 < N := by omega
  have hz1___1___1 : 1 + 1 + 1 < N := by omega
  have hz1___1___2 : 1 + 1 + 2 < N := by omega
  have hz1___1___3 : 1 + 1 + 3 < N := by omega
  have hz1___5 : 1 + 5 < N := by omega
  have hz1___6 : 1 + 6 < N := by omega
  have hz1___7 : 1 + 7 < N := by omega
  have hz9 : 9 < N := by omega
  have hz17 : 17 < N := by omega
  have hz17___1 : 17 + 1 < N := by omega
  have hz67 : 67 < N := by omega
  have hz67___1 : 67 + 1 < N := by omega
  have hz69 : 69 < N := by omega
  have hz69___1 : 69 + 1 < N := by omega
  have hz69___2 : 69 + 2 < N := by omega
  have hz69___3 : 69 + 3 < N := by omega
  have hz73 : 73 < N := by omega
  have hz1___1___3 : 1 + 1 + 3 < N := by omega
  have hz69___3 : 69 + 3 < N := by omega
  have hl : lv_has ls 5 [(0, .ref (ad 0)), (1, .int (nI w)), (2, .int y), (3, .int k9)] := hl
  refine lv_iload_n hx hb (dk kX5_put_ok 0 rfl) rfl (lv_at hl 1 rfl) ?_
  refine csPv (As := [.int (nI w)]) (rest := []) ⟨hx, hb, hml, hown, hts⟩ (tX5_requireWink_ok l (nI w) (wk_nI hw)) (cwS9 1 hts mcX5_requireWink (ac9 _ (List.mem_of_getElem? (i := 6) rfl)) msX5_requireWink mini_RX5 rfl rfl hdX5_requireWink ⟨Nat.le_of_ble_eq_true rfl, Nat.le_of_ble_eq_true rfl⟩) rfl hl.1 rfl (Nat.le_of_ble_eq_true rfl) (by decide) (dk kX5_put_ok 1 rfl) ?_
  refine lv_iload_n hx hb (dk kX5_put_ok 2 rfl) rfl (lv_at hl 2 rfl) ?_
  refine lv_iload_n hx hb (dk kX5_put_ok 3 rfl) rfl (lv_at hl 3 rfl) ?_
  refine csPv (As := [.int y, .int k9]) (rest := []) ⟨hx, hb, hml, hown, hts⟩ (tX5_requireCell_ok l y k9 hon) (cwS9 2 hts mcX5_requireCell (ac10 _ (List.mem_of_getElem? (i := 0) rfl)) msX5_requireCell mini_RX5 rfl rfl hdX5_requireCell ⟨Nat.le_of_ble_eq_true rfl, Nat.le_of_ble_eq_true rfl⟩) rfl hl.1 rfl (Nat.le_of_ble_eq_true rfl) (by decide) (dk kX5_put_ok 4 rfl) ?_
  refine lv_aload_n hx hb (dk kX5_put_ok 5 rfl) rfl (lv_at hl 0 rfl) ?_
  refine gf hx hb hts (fun w h => List.mem_cons_of_mem _ (acX5 w h)) hown hK hP hz0 hC rfl 0 (by decide) (hts _ (List.mem_cons_of_mem _ (ac7 _ (List.mem_of_getElem? (i := 21) rfl)))) (fun _ h => h) rfl (dk kX5_put_ok 6 rfl) ?_
  refine gfN hx hb hts (fun w h => List.mem_cons_of_mem _ (acX4 w h)) hown hK hP hz1 hN.1 rfl 0 (by decide) (nf2 hNW) (fun _ h => h) rfl (dk kX5_put_ok 7 rfl) ?_
  refine cvR (As := []) (rest := []) ⟨hx, hb, hml, hown, hts⟩ (tX1_isOver l D cI cQ cL ad N F (1 + 1) (by omega) c b v hN.2.1) (cwV9 0 hts mcX1_isOver (ac10 _ (List.mem_of_getElem? (i := 15) rfl)) miX1_isOver meX1_isOver mini_RX1 rfl rfl hdX1_isOver ⟨Nat.le_of_ble_eq_true rfl, Nat.le_of_ble_eq_true rfl⟩) hK hP hNW hz1___1 hN.2.1.1 rfl rfl hl.1 rfl (Nat.le_of_ble_eq_true rfl) (by decide) (dk kX5_put_ok 8 rfl) ?_
  refine b_if_ne (tgt := 36) hx hb (dk kX5_put_ok 9 rfl) (by decide) (fun h1 => ?_) (fun h1 => ?_)
  · skip
    exact hthr 63 67 121 36 "the wink can not be put" ls [] _ _ 0 0 (by decide) (by decide) hP hS hl.1 (dk kX5_put_ok 16 rfl) (dk kX5_put_ok 17 rfl) (dk kX5_put_ok 18 rfl) (dk kX5_put_ok 19 rfl) (dk kX5_put_ok 20 rfl) (by decide) (by decide) (by decide) (by decide) (by decide) (by decide)
  · exact absurd (hov.symm.trans h1) (by decide)
set_option maxRecDepth 100000 in
set_option maxHeartbeats 4000000 in
theorem tX5_putX_b4 (l : Launch) (hst : l.stackTraces = false) (D : va_G) (cI cQ cL : ClassId) (ad : Nat → Nat) (N : Nat) (F : Nat → va_E) (hk : 76 < N) (c b v g h j : Nat → Int32) (t : Nat) (u z : Int32) (hN : stAt cI ad F 1 c b v g h j (nI t) u z) (c8 b8 v8 g8 h8 j8 : Nat → Int32) (t8 : Nat) (u8 z8 : Int32) (hSn : stAt cI ad F 9 c8 b8 v8 g8 h8 j8 (nI t8) u8 z8) (n9 m9 : Nat) (hn9 : n9 < 6) (hm9 : m9 ≤ 6) (hPa : paAt cQ ad F 17 n9 m9) (a : Nat → Int32) (n : Nat) (hn60 : n ≤ 60) (hT : gtAt cI ad F 67 a n) (c6 b6 v6 : Nat → Int32) (hM6 : matAt cI ad F 69 c6 b6 v6) (a7 d7 q7 : Nat → Int32) (hO : roAt cI ad F 73 a7 d7 q7) (hs : Bool) (hC : F 0 = .inr (5, [.ref (ad 1), .ref (ad 9), .ref (ad 17), .ref (ad 67), .ref (ad 69), .ref (ad 73), .int (bI hs)])) (x : Int32) (w : Nat) (hxw : x = nI w) (hw : w < 16) (y k9 : Int32) (hon : on y k9 = true) (hov : over c = false) (hcv : cov v w = true) : MT l yX5_put (Cond.code yX5_put cX5_put 5 (some .int) :: AW) ({ frames := 7, cells := 1, slots := 6, locals := 103 } : Room) D cI cQ cL ad N F [.ref (ad 0), .int x, .int y, .int k9] eS 1 6 := by
  refine mt_of (ret := (some .int)) hst (by decide +kernel) rfl (Nat.le_of_ble_eq_true rfl) (fun p e s m below meth cd Q ls hx hb hml hown hts hDi hP hK hNW hS hX hthr hthrW hout hl => ?_)
  have hown : s.vm.findClass RX5 = some m.cls := hown
  subst hxw
  have hz0 : 0 < N := by omega
  have hz1 : 1 < N := by omega
  have hz1___1 : 1 + 1 < N := by omega
  have hz1___1___1 : 1 + 1 + 1 < N := by omega
  have hz1___1___2 : 1 + 1 + 2 < N := by omega
  have hz1___1___3 : 1 + 1 + 3 < N := by omega
  have hz1___5 : 1 + 5 < N := by omega
  have hz1___6 : 1 + 6 < N := by omega
  have hz1___7 : 1 + 7 < N := by omega
  have hz9 : 9 < N := by omega
  have hz17 : 17 < N := by omega
  have hz17___1 : 17 + 1 < N := by omega
  have hz67 : 67 < N := by omega
  have hz67___1 : 67 + 1 < N := by omega
  have hz69 : 69 < N := by omega
  have hz69___1 : 69 + 1 < N := by omega
  have hz69___2 : 69 + 2 < N := by omega
  have hz69___3 : 69 + 3 < N := by omega
  have hz73 : 73 < N := by omega
  have hz1___1___3 : 1 + 1 + 3 < N := by omega
  have hz69___3 : 69 + 3 < N := by omega
  have hl : lv_has ls 5 [(0, .ref (ad 0)), (1, .int (nI w)), (2, .int y), (3, .int k9)] := hl
  refine lv_iload_n hx hb (dk kX5_put_ok 0 rfl) rfl (lv_at hl 1 rfl) ?_
  refine csPv (As := [.int (nI w)]) (rest := []) ⟨hx, hb, hml, hown, hts⟩ (tX5_requireWink_ok l (nI w) (wk_nI hw)) (cwS9 1 hts mcX5_requireWink (ac9 _ (List.mem_of_getElem? (i := 6) rfl)) msX5_requireWink mini_RX5 rfl rfl hdX5_requireWink ⟨Nat.le_of_ble_eq_true rfl, Nat.le_of_ble_eq_true rfl⟩) rfl hl.1 rfl (Nat.le_of_ble_eq_true rfl) (by decide) (dk kX5_put_ok 1 rfl) ?_
  refine lv_iload_n hx hb (dk kX5_put_ok 2 rfl) rfl (lv_at hl 2 rfl) ?_
  refine lv_iload_n hx hb (dk kX5_put_ok 3 rfl) rfl (lv_at hl 3 rfl) ?_
  refine csPv (As := [.int y, .int k9]) (rest := []) ⟨hx, hb, hml, hown, hts⟩ (tX5_requireCell_ok l y k9 hon) (cwS9 2 hts mcX5_requireCell (ac10 _ (List.mem_of_getElem? (i := 0) rfl)) msX5_requireCell mini_RX5 rfl rfl hdX5_requireCell ⟨Nat.le_of_ble_eq_true rfl, Nat.le_of_ble_eq_true rfl⟩) rfl hl.1 rfl (Nat.le_of_ble_eq_true rfl) (by decide) (dk kX5_put_ok 4 rfl) ?_
  refine lv_aload_n hx hb (dk kX5_put_ok 5 rfl) rfl (lv_at hl 0 rfl) ?_
  refine gf hx hb hts (fun w h => List.mem_cons_of_mem _ (acX5 w h)) hown hK hP hz0 hC rfl 0 (by decide) (hts _ (List.mem_cons_of_mem _ (ac7 _ (List.mem_of_getElem? (i := 21) rfl)))) (fun _ h => h) rfl (dk kX5_put_ok 6 rfl) ?_
  refine gfN hx hb hts (fun w h => List.mem_cons_of_mem _ (acX4 w h)) hown hK hP hz1 hN.1 rfl 0 (by decide) (nf2 hNW) (fun _ h => h) rfl (dk kX5_put_ok 7 rfl) ?_
  refine cvR (As := []) (rest := []) ⟨hx, hb, hml, hown, hts⟩ (tX1_isOver l D cI cQ cL ad N F (1 + 1) (by omega) c b v hN.2.1) (cwV9 0 hts mcX1_isOver (ac10 _ (List.mem_of_getElem? (i := 15) rfl)) miX1_isOver meX1_isOver mini_RX1 rfl rfl hdX1_isOver ⟨Nat.le_of_ble_eq_true rfl, Nat.le_of_ble_eq_true rfl⟩) hK hP hNW hz1___1 hN.2.1.1 rfl rfl hl.1 rfl (Nat.le_of_ble_eq_true rfl) (by decide) (dk kX5_put_ok 8 rfl) ?_
  refine b_if_ne (tgt := 36) hx hb (dk kX5_put_ok 9 rfl) (by decide) (fun h1 => ?_) (fun h1 => ?_)
  · exact absurd (hov.symm.trans h1) (by decide)
  · skip
    refine lv_aload_n hx hb (dk kX5_put_ok 10 rfl) rfl (lv_at hl 0 rfl) ?_
    refine gf hx hb hts (fun w h => List.mem_cons_of_mem _ (acX5 w h)) hown hK hP hz0 hC rfl 0 (by decide) (hts _ (List.mem_cons_of_mem _ (ac7 _ (List.mem_of_getElem? (i := 21) rfl)))) (fun _ h => h) rfl (dk kX5_put_ok 11 rfl) ?_
    refine gfN hx hb hts (fun w h => List.mem_cons_of_mem _ (acX4 w h)) hown hK hP hz1 hN.1 rfl 0 (by decide) (nf2 hNW) (fun _ h => h) rfl (dk kX5_put_ok 12 rfl) ?_
    refine lv_iload_n hx hb (dk kX5_put_ok 13 rfl) rfl (lv_at hl 1 rfl) ?_
    refine cvR (As := [.int (nI w)]) (rest := []) ⟨hx, hb, hml, hown, hts⟩ (tX1_isCovered l D cI cQ cL ad N F (1 + 1) (by omega) c b v hN.2.1 (nI w) w rfl (by omega)) (cwV9 1 hts mcX1_isCovered (ac10 _ (List.mem_of_getElem? (i := 16) rfl)) miX1_isCovered meX1_isCovered mini_RX1 rfl rfl hdX1_isCovered ⟨Nat.le_of_ble_eq_true rfl, Nat.le_of_ble_eq_true rfl⟩) hK hP hNW hz1___1 hN.2.1.1 rfl rfl hl.1 rfl (Nat.le_of_ble_eq_true rfl) (by decide) (dk kX5_put_ok 14 rfl) ?_
    refine b_if_eq (tgt := 46) hx hb (dk kX5_put_ok 15 rfl) (by decide) (fun h2 => ?_) (fun h2 => ?_)
    · exact absurd (hcv.symm.trans h2) (by decide)
    · skip
      exact hthr 63 67 121 36 "the wink can not be put" ls [] _ _ 0 0 (by decide) (by decide) hP hS hl.1 (dk kX5_put_ok 16 rfl) (dk kX5_put_ok 17 rfl) (dk kX5_put_ok 18 rfl) (dk kX5_put_ok 19 rfl) (dk kX5_put_ok 20 rfl) (by decide) (by decide) (by decide) (by decide) (by decide) (by decide)
set_option maxRecDepth 100000 in
set_option maxHeartbeats 4000000 in
theorem tX5_append (l : Launch) (D : va_G) (cI cQ cL : ClassId) (ad : Nat → Nat) (N : Nat) (F : Nat → va_E) (hk : 76 < N) (c b v g h j : Nat → Int32) (t : Nat) (u z : Int32) (hN : stAt cI ad F 1 c b v g h j (nI t) u z) (c8 b8 v8 g8 h8 j8 : Nat → Int32) (t8 : Nat) (u8 z8 : Int32) (hSn : stAt cI ad F 9 c8 b8 v8 g8 h8 j8 (nI t8) u8 z8) (n9 m9 : Nat) (hn9 : n9 < 6) (hm9 : m9 ≤ 6) (hPa : paAt cQ ad F 17 n9 m9) (a : Nat → Int32) (n : Nat) (hn60 : n ≤ 60) (hT : gtAt cI ad F 67 a n) (c6 b6 v6 : Nat → Int32) (hM6 : matAt cI ad F 69 c6 b6 v6) (a7 d7 q7 : Nat → Int32) (hO : roAt cI ad F 73 a7 d7 q7) (hs : Bool) (hC : F 0 = .inr (5, [.ref (ad 1), .ref (ad 9), .ref (ad 17), .ref (ad 67), .ref (ad 69), .ref (ad 73), .int (bI hs)])) (x : Int32) (hx9 : btw x (nI 33) (nI 126) = true) (hlt : n < 60) : MX l yX5_append (Cond.code yX5_append cX5_append 2 (some .int) :: AW) ({ frames := 1, cells := 0, slots := 0, locals := 21 } : Room) D cI cQ cL ad N F [.ref (ad 0), .int x] (dp (some (.int (nI (n + 1)))) (gtSet cI ad F 67 (upd a n x) (n + 1))) 0 0 := by
  refine mx_i (ty := .int) (by decide +kernel) rfl (Nat.le_of_ble_eq_true rfl) (fun p e s m below meth cd Q ls hx hb hml hown hts hDi hP hK hNW hS hret hl => ?_)
  have hown : s.vm.findClass RX5 = some m.cls := hown
  have hz0 : 0 < N := by omega
  have hz1 : 1 < N := by omega
  have hz1___1 : 1 + 1 < N := by omega
  have hz1___1___1 : 1 + 1 + 1 < N := by omega
  have hz1___1___2 : 1 + 1 + 2 < N := by omega
  have hz1___1___3 : 1 + 1 + 3 < N := by omega
  have hz1___5 : 1 + 5 < N := by omega
  have hz1___6 : 1 + 6 < N := by omega
  have hz1___7 : 1 + 7 < N := by omega
  have hz9 : 9 < N := by omega
  have hz17 : 17 < N := by omega
  have hz17___1 : 17 + 1 < N := by omega
  have hz67 : 67 < N := by omega
  have hz67___1 : 67 + 1 < N := by omega
  have hz69 : 69 < N := by omega
  have hz69___1 : 69 + 1 < N := by omega
  have hz69___2 : 69 + 2 < N := by omega
  have hz69___3 : 69 + 3 < N := by omega
  have hz73 : 73 < N := by omega
  have hz1___1___3 : 1 + 1 + 3 < N := by omega
  have hz69___3 : 69 + 3 < N := by omega
  have hl : lv_has ls 2 [(0, .ref (ad 0)), (1, .int x)] := hl
  refine lv_iload_n hx hb (dk kX5_append_ok 0 rfl) rfl (lv_at hl 1 rfl) ?_
  refine lv_bipush (v := nI 33) hx hb (dk kX5_append_ok 1 rfl) rfl ?_
  refine lv_icmp_lt (tgt := 12) hx hb (dk kX5_append_ok 2 rfl) (by decide) (fun h1 => ?_) (fun h1 => ?_)
  · exact absurd h1 (rng_ok hx9).1
  · skip
    refine lv_iload_n hx hb (dk kX5_append_ok 3 rfl) rfl (lv_at hl 1 rfl) ?_
    refine lv_bipush (v := nI 126) hx hb (dk kX5_append_ok 4 rfl) rfl ?_
    refine lv_icmp_le (tgt := 22) hx hb (dk kX5_append_ok 5 rfl) (by decide) (fun h2 => ?_) (fun h2 => ?_)
    · skip
      refine lv_aload_n hx hb (dk kX5_append_ok 11 rfl) rfl (lv_at hl 0 rfl) ?_
      refine gf hx hb hts (fun w h => List.mem_cons_of_mem _ (acX5 w h)) hown hK hP hz0 hC rfl 3 (by decide) (hts _ (List.mem_cons_of_mem _ (ac8 _ (List.mem_of_getElem? (i := 5) rfl)))) (fun _ h => h) rfl (dk kX5_append_ok 12 rfl) ?_
      refine gfN hx hb hts (fun w h => List.mem_cons_of_mem _ (acX0 w h)) hown hK hP hz67 hT.1 rfl 1 (by decide) (nf10 hNW) (fun _ h => h) rfl (dk kX5_append_ok 13 rfl) ?_
      refine lv_bipush (v := nI 60) hx hb (dk kX5_append_ok 14 rfl) rfl ?_
      refine n_icmp_lt (tgt := 44) hx hb (by omega) (by decide) (dk kX5_append_ok 15 rfl) (by decide) (fun h3 => ?_) (fun h3 => ?_)
      · skip
        refine lv_aload_n hx hb (dk kX5_append_ok 21 rfl) rfl (lv_at hl 0 rfl) ?_
        refine gf hx hb hts (fun w h => List.mem_cons_of_mem _ (acX5 w h)) hown hK hP hz0 hC rfl 3 (by decide) (hts _ (List.mem_cons_of_mem _ (ac8 _ (List.mem_of_getElem? (i := 5) rfl)))) (fun _ h => h) rfl (dk kX5_append_ok 22 rfl) ?_
        refine lv_iload_n hx hb (dk kX5_append_ok 23 rfl) rfl (lv_at hl 1 rfl) ?_
        refine cvDv (As := [.int x]) (rest := []) (gtSet cI ad F 67 (upd a n x) (n + 1)) ⟨hx, hb, hml, hown, hts⟩ (tX0_add l D cI cQ cL ad N F 67 (by omega) a n hn60 hT x) (cwV9 1 hts mcX0_add (ac10 _ (List.mem_of_getElem? (i := 18) rfl)) miX0_add meX0_add mini_RX0 rfl rfl hdX0_add ⟨Nat.le_of_ble_eq_true rfl, Nat.le_of_ble_eq_true rfl⟩) hDi hK hP hNW hS hz67 hT.1 rfl rfl hl.1 rfl (Nat.le_of_ble_eq_true rfl) (by decide) (dk kX5_append_ok 24 rfl) (if_pos (by omega)) (fun H locs hP hS => ?_)
        refine lv_aload_n hx hb (dk kX5_append_ok 25 rfl) rfl (lv_at hl 0 rfl) ?_
        refine gf hx hb hts (fun w h => List.mem_cons_of_mem _ (acX5 w h)) hown hK hP hz0 ((gtSet_out (by omega)).trans hC) rfl 3 (by decide) (hts _ (List.mem_cons_of_mem _ (ac8 _ (List.mem_of_getElem? (i := 5) rfl)))) (fun _ h => h) rfl (dk kX5_append_ok 26 rfl) ?_
        refine gfN hx hb hts (fun w h => List.mem_cons_of_mem _ (acX0 w h)) hown hK hP hz67 gtSet_at.1 rfl 1 (by decide) (nf10 hNW) (fun _ h => h) rfl (dk kX5_append_ok 27 rfl) ?_
        exact hret _ _ _ _ _ _ _ _ rfl (by exact ⟨rfl, rfl⟩) hP hS (by decide) (by decide) (dk kX5_append_ok 28 rfl)
      · exact absurd hlt (Nat.not_lt.mpr h3)
    · exact absurd (Int32.not_le.mp h2) (rng_ok hx9).2
set_option maxRecDepth 100000 in
set_option maxHeartbeats 4000000 in
theorem tX5_appendX_b1 (l : Launch) (hst : l.stackTraces = false) (D : va_G) (cI cQ cL : ClassId) (ad : Nat → Nat) (N : Nat) (F : Nat → va_E) (hk : 76 < N) (c b v g h j : Nat → Int32) (t : Nat) (u z : Int32) (hN : stAt cI ad F 1 c b v g h j (nI t) u z) (c8 b8 v8 g8 h8 j8 : Nat → Int32) (t8 : Nat) (u8 z8 : Int32) (hSn : stAt cI ad F 9 c8 b8 v8 g8 h8 j8 (nI t8) u8 z8) (n9 m9 : Nat) (hn9 : n9 < 6) (hm9 : m9 ≤ 6) (hPa : paAt cQ ad F 17 n9 m9) (a : Nat → Int32) (n : Nat) (hn60 : n ≤ 60) (hT : gtAt cI ad F 67 a n) (c6 b6 v6 : Nat → Int32) (hM6 : matAt cI ad F 69 c6 b6 v6) (a7 d7 q7 : Nat → Int32) (hO : roAt cI ad F 73 a7 d7 q7) (hs : Bool) (hC : F 0 = .inr (5, [.ref (ad 1), .ref (ad 9), .ref (ad 17), .ref (ad 67), .ref (ad 69), .ref (ad 73), .int (bI hs)])) (x : Int32) (hx9 : btw x (nI 33) (nI 126) = false) : MT l yX5_append (Cond.code yX5_append cX5_append 2 (some .int) :: AW) ({ frames := 6, cells := 1, slots := 6, locals := 82 } : Room) D cI cQ cL ad N F [.ref (ad 0), .int x] eA 1 6 := by
  refine mt_of (ret := (some .int)) hst (by decide +kernel) rfl (Nat.le_of_ble_eq_true rfl) (fun p e s m below meth cd Q ls hx hb hml hown hts hDi hP hK hNW hS hX hthr hthrW hout hl => ?_)
  have hown : s.vm.findClass RX5 = some m.cls := hown
  have hz0 : 0 < N := by omega
  have hz1 : 1 < N := by omega
  have hz1___1 : 1 + 1 < N := by omega
  have hz1___1___1 : 1 + 1 + 1 < N := by omega
  have hz1___1___2 : 1 + 1 + 2 < N := by omega
  have hz1___1___3 : 1 + 1 + 3 < N := by omega
  have hz1___5 : 1 + 5 < N := by omega
  have hz1___6 : 1 + 6 < N := by omega
  have hz1___7 : 1 + 7 < N := by omega
  have hz9 : 9 < N := by omega
  have hz17 : 17 < N := by omega
  have hz17___1 : 17 + 1 < N := by omega
  have hz67 : 67 < N := by omega
  have hz67___1 : 67 + 1 < N := by omega
  have hz69 : 69 < N := by omega
  have hz69___1 : 69 + 1 < N := by omega
  have hz69___2 : 69 + 2 < N := by omega
  have hz69___3 : 69 + 3 < N := by omega
  have hz73 : 73 < N := by omega
  have hz1___1___3 : 1 + 1 + 3 < N := by omega
  have hz69___3 : 69 + 3 < N := by omega
  have hl : lv_has ls 2 [(0, .ref (ad 0)), (1, .int x)] := hl
  refine lv_iload_n hx hb (dk kX5_append_ok 0 rfl) rfl (lv_at hl 1 rfl) ?_
  refine lv_bipush (v := nI 33) hx hb (dk kX5_append_ok 1 rfl) rfl ?_
  refine lv_icmp_lt (tgt := 12) hx hb (dk kX5_append_ok 2 rfl) (by decide) (fun h1 => ?_) (fun h1 => ?_)
  · skip
    exact hthr 104 108 126 12 "a character code is 33 to 126" ls [] _ _ 0 0 (by decide) (by decide) hP hS hl.1 (dk kX5_append_ok 6 rfl) (dk kX5_append_ok 7 rfl) (dk kX5_append_ok 8 rfl) (dk kX5_append_ok 9 rfl) (dk kX5_append_ok 10 rfl) (by decide) (by decide) (by decide) (by decide) (by decide) (by decide)
  · skip
    refine lv_iload_n hx hb (dk kX5_append_ok 3 rfl) rfl (lv_at hl 1 rfl) ?_
    refine lv_bipush (v := nI 126) hx hb (dk kX5_append_ok 4 rfl) rfl ?_
    refine lv_icmp_le (tgt := 22) hx hb (dk kX5_append_ok 5 rfl) (by decide) (fun h2 => ?_) (fun h2 => ?_)
    · exact (ff_tt hx9 (rng_bad h1 (Int32.not_lt.mpr h2))).elim
    · skip
      exact hthr 104 108 126 12 "a character code is 33 to 126" ls [] _ _ 0 0 (by decide) (by decide) hP hS hl.1 (dk kX5_append_ok 6 rfl) (dk kX5_append_ok 7 rfl) (dk kX5_append_ok 8 rfl) (dk kX5_append_ok 9 rfl) (dk kX5_append_ok 10 rfl) (by decide) (by decide) (by decide) (by decide) (by decide) (by decide)
set_option maxRecDepth 100000 in
set_option maxHeartbeats 4000000 in
theorem tX5_appendX_b2 (l : Launch) (hst : l.stackTraces = false) (D : va_G) (cI cQ cL : ClassId) (ad : Nat → Nat) (N : Nat) (F : Nat → va_E) (hk : 76 < N) (c b v g h j : Nat → Int32) (t : Nat) (u z : Int32) (hN : stAt cI ad F 1 c b v g h j (nI t) u z) (c8 b8 v8 g8 h8 j8 : Nat → Int32) (t8 : Nat) (u8 z8 : Int32) (hSn : stAt cI ad F 9 c8 b8 v8 g8 h8 j8 (nI t8) u8 z8) (n9 m9 : Nat) (hn9 : n9 < 6) (hm9 : m9 ≤ 6) (hPa : paAt cQ ad F 17 n9 m9) (a : Nat → Int32) (n : Nat) (hn60 : n ≤ 60) (hT : gtAt cI ad F 67 a n) (c6 b6 v6 : Nat → Int32) (hM6 : matAt cI ad F 69 c6 b6 v6) (a7 d7 q7 : Nat → Int32) (hO : roAt cI ad F 73 a7 d7 q7) (hs : Bool) (hC : F 0 = .inr (5, [.ref (ad 1), .ref (ad 9), .ref (ad 17), .ref (ad 67), .ref (ad 69), .ref (ad 73), .int (bI hs)])) (x : Int32) (hx9 : btw x (nI 33) (nI 126) = true) (hge : 60 ≤ n) : MT l yX5_append (Cond.code yX5_append cX5_append 2 (some .int) :: AW) ({ frames := 6, cells := 1, slots := 6, locals := 82 } : Room) D cI cQ cL ad N F [.ref (ad 0), .int x] eS 1 6 := by
  refine mt_of (ret := (some .int)) hst (by decide +kernel) rfl (Nat.le_of_ble_eq_true rfl) (fun p e s m below meth cd Q ls hx hb hml hown hts hDi hP hK hNW hS hX hthr hthrW hout hl => ?_)
  have hown : s.vm.findClass RX5 = some m.cls := hown
  have hz0 : 0 < N := by omega
  have hz1 : 1 < N := by omega
  have hz1___1 : 1 + 1 < N := by omega
  have hz1___1___1 : 1 + 1 + 1 < N := by omega
  have hz1___1___2 : 1 + 1 + 2 < N := by omega
  have hz1___1___3 : 1 + 1 + 3 < N := by omega
  have hz1___5 : 1 + 5 < N := by omega
  have hz1___6 : 1 + 6 < N := by omega
  have hz1___7 : 1 + 7 < N := by omega
  have hz9 : 9 < N := by omega
  have hz17 : 17 < N := by omega
  have hz17___1 : 17 + 1 < N := by omega
  have hz67 : 67 < N := by omega
  have hz67___1 : 67 + 1 < N := by omega
  have hz69 : 69 < N := by omega
  have hz69___1 : 69 + 1 < N := by omega
  have hz69___2 : 69 + 2 < N := by omega
  have hz69___3 : 69 + 3 < N := by omega
  have hz73 : 73 < N := by omega
  have hz1___1___3 : 1 + 1 + 3 < N := by omega
  have hz69___3 : 69 + 3 < N := by omega
  have hl : lv_has ls 2 [(0, .ref (ad 0)), (1, .int x)] := hl
  refine lv_iload_n hx hb (dk kX5_append_ok 0 rfl) rfl (lv_at hl 1 rfl) ?_
  refine lv_bipush (v := nI 33) hx hb (dk kX5_append_ok 1 rfl) rfl ?_
  refine lv_icmp_lt (tgt := 12) hx hb (dk kX5_append_ok 2 rfl) (by decide) (fun h1 => ?_) (fun h1 => ?_)
  · exact absurd h1 (rng_ok hx9).1
  · skip
    refine lv_iload_n hx hb (dk kX5_append_ok 3 rfl) rfl (lv_at hl 1 rfl) ?_
    refine lv_bipush (v := nI 126) hx hb (dk kX5_append_ok 4 rfl) rfl ?_
    refine lv_icmp_le (tgt := 22) hx hb (dk kX5_append_ok 5 rfl) (by decide) (fun h2 => ?_) (fun h2 => ?_)
    · skip
      refine lv_aload_n hx hb (dk kX5_append_ok 11 rfl) rfl (lv_at hl 0 rfl) ?_
      refine gf hx hb hts (fun w h => List.mem_cons_of_mem _ (acX5 w h)) hown hK hP hz0 hC rfl 3 (by decide) (hts _ (List.mem_cons_of_mem _ (ac8 _ (List.mem_of_getElem? (i := 5) rfl)))) (fun _ h => h) rfl (dk kX5_append_ok 12 rfl) ?_
      refine gfN hx hb hts (fun w h => List.mem_cons_of_mem _ (acX0 w h)) hown hK hP hz67 hT.1 rfl 1 (by decide) (nf10 hNW) (fun _ h => h) rfl (dk kX5_append_ok 13 rfl) ?_
      refine lv_bipush (v := nI 60) hx hb (dk kX5_append_ok 14 rfl) rfl ?_
      refine n_icmp_lt (tgt := 44) hx hb (by omega) (by decide) (dk kX5_append_ok 15 rfl) (by decide) (fun h3 => ?_) (fun h3 => ?_)
      · exact absurd h3 (Nat.not_lt.mpr hge)
      · skip
        exact hthr 63 67 131 34 "the buffer is full" ls [] _ _ 0 0 (by decide) (by decide) hP hS hl.1 (dk kX5_append_ok 16 rfl) (dk kX5_append_ok 17 rfl) (dk kX5_append_ok 18 rfl) (dk kX5_append_ok 19 rfl) (dk kX5_append_ok 20 rfl) (by decide) (by decide) (by decide) (by decide) (by decide) (by decide)
    · exact absurd (Int32.not_le.mp h2) (rng_ok hx9).2
set_option maxRecDepth 100000 in
set_option maxHeartbeats 4000000 in
theorem tX5_clearBuffer (l : Launch) (D : va_G) (cI cQ cL : ClassId) (ad : Nat → Nat) (N : Nat) (F : Nat → va_E) (hk : 76 < N) (c b v g h j : Nat → Int32) (t : Nat) (u z : Int32) (hN : stAt cI ad F 1 c b v g h j (nI t) u z) (c8 b8 v8 g8 h8 j8 : Nat → Int32) (t8 : Nat) (u8 z8 : Int32) (hSn : stAt cI ad F 9 c8 b8 v8 g8 h8 j8 (nI t8) u8 z8) (n9 m9 : Nat) (hn9 : n9 < 6) (hm9 : m9 ≤ 6) (hPa : paAt cQ ad F 17 n9 m9) (a : Nat → Int32) (n : Nat) (hn60 : n ≤ 60) (hT : gtAt cI ad F 67 a n) (c6 b6 v6 : Nat → Int32) (hM6 : matAt cI ad F 69 c6 b6 v6) (a7 d7 q7 : Nat → Int32) (hO : roAt cI ad F 73 a7 d7 q7) (hs : Bool) (hC : F 0 = .inr (5, [.ref (ad 1), .ref (ad 9), .ref (ad 17), .ref (ad 67), .ref (ad 69), .ref (ad 73), .int (bI hs)])) : MX l yX5_clearBuffer (Cond.code yX5_clearBuffer cX5_clearBuffer 2 (some .int) :: AW) ({ frames := 0, cells := 0, slots := 0, locals := 0 } : Room) D cI cQ cL ad N F [.ref (ad 0)] (dp (some (.int (nI n))) (gtSet cI ad F 67 a 0)) 0 0 := by
  refine mx_i (ty := .int) (by decide +kernel) rfl (Nat.le_of_ble_eq_true rfl) (fun p e s m below meth cd Q ls hx hb hml hown hts hDi hP hK hNW hS hret hl => ?_)
  have hown : s.vm.findClass RX5 = some m.cls := hown
  have hz0 : 0 < N := by omega
  have hz1 : 1 < N := by omega
  have hz1___1 : 1 + 1 < N := by omega
  have hz1___1___1 : 1 + 1 + 1 < N := by omega
  have hz1___1___2 : 1 + 1 + 2 < N := by omega
  have hz1___1___3 : 1 + 1 + 3 < N := by omega
  have hz1___5 : 1 + 5 < N := by omega
  have hz1___6 : 1 + 6 < N := by omega
  have hz1___7 : 1 + 7 < N := by omega
  have hz9 : 9 < N := by omega
  have hz17 : 17 < N := by omega
  have hz17___1 : 17 + 1 < N := by omega
  have hz67 : 67 < N := by omega
  have hz67___1 : 67 + 1 < N := by omega
  have hz69 : 69 < N := by omega
  have hz69___1 : 69 + 1 < N := by omega
  have hz69___2 : 69 + 2 < N := by omega
  have hz69___3 : 69 + 3 < N := by omega
  have hz73 : 73 < N := by omega
  have hz1___1___3 : 1 + 1 + 3 < N := by omega
  have hz69___3 : 69 + 3 < N := by omega
  have hl : lv_has ls 2 [(0, .ref (ad 0))] := hl
  refine lv_aload_n hx hb (dk kX5_clearBuffer_ok 0 rfl) rfl (lv_at hl 0 rfl) ?_
  refine gf hx hb hts (fun w h => List.mem_cons_of_mem _ (acX5 w h)) hown hK hP hz0 hC rfl 3 (by decide) (hts _ (List.mem_cons_of_mem _ (ac8 _ (List.mem_of_getElem? (i := 5) rfl)))) (fun _ h => h) rfl (dk kX5_clearBuffer_ok 1 rfl) ?_
  refine gfN hx hb hts (fun w h => List.mem_cons_of_mem _ (acX0 w h)) hown hK hP hz67 hT.1 rfl 1 (by decide) (nf10 hNW) (fun _ h => h) rfl (dk kX5_clearBuffer_ok 2 rfl) ?_
  refine lv_istore_n (lv' := [(1, .int (nI n)), (0, .ref (ad 0))]) hx hb (dk kX5_clearBuffer_ok 3 rfl) rfl hl (by decide) rfl (fun ls hl => ?_)
  refine lv_aload_n hx hb (dk kX5_clearBuffer_ok 4 rfl) rfl (lv_at hl 1 rfl) ?_
  refine gf hx hb hts (fun w h => List.mem_cons_of_mem _ (acX5 w h)) hown hK hP hz0 hC rfl 3 (by decide) (hts _ (List.mem_cons_of_mem _ (ac8 _ (List.mem_of_getElem? (i := 5) rfl)))) (fun _ h => h) rfl (dk kX5_clearBuffer_ok 5 rfl) ?_
  refine lv_iconst (v := nI 0) hx hb (dk kX5_clearBuffer_ok 6 rfl) rfl ?_
  replace hP := gt_touch hT hP
  refine pfN (gtSet cI ad F 67 a 0) hx hb hts (fun w h => List.mem_cons_of_mem _ (acX0 w h)) tyX0 tyX0_ok nmX0 hown hK hDi hP hS hz67 gtSet_at.1 rfl 1 (by decide) (nf10 hNW) (fun _ h => h) rfl (ty := .int) rfl rfl rfl (Nat.le_of_ble_eq_true rfl) (dk kX5_clearBuffer_ok 7 rfl) gtSet_u0 (fun H locs hP hS => ?_)
  refine lv_iload_n hx hb (dk kX5_clearBuffer_ok 8 rfl) rfl (lv_at hl 0 rfl) ?_
  exact hret _ _ _ _ _ _ _ _ rfl (by exact ⟨rfl, rfl⟩) hP hS (by decide) (by decide) (dk kX5_clearBuffer_ok 9 rfl)
set_option maxRecDepth 100000 in
set_option maxHeartbeats 4000000 in
theorem tX5_firstError (l : Launch) (D : va_G) (cI cQ cL : ClassId) (ad : Nat → Nat) (N : Nat) (F : Nat → va_E) (hk : 76 < N) (c b v g h j : Nat → Int32) (t : Nat) (u z : Int32) (hN : stAt cI ad F 1 c b v g h j (nI t) u z) (c8 b8 v8 g8 h8 j8 : Nat → Int32) (t8 : Nat) (u8 z8 : Int32) (hSn : stAt cI ad F 9 c8 b8 v8 g8 h8 j8 (nI t8) u8 z8) (n9 m9 : Nat) (hn9 : n9 < 6) (hm9 : m9 ≤ 6) (hPa : paAt cQ ad F 17 n9 m9) (a : Nat → Int32) (n : Nat) (hn60 : n ≤ 60) (hT : gtAt cI ad F 67 a n) (c6 b6 v6 : Nat → Int32) (hM6 : matAt cI ad F 69 c6 b6 v6) (a7 d7 q7 : Nat → Int32) (hO : roAt cI ad F 73 a7 d7 q7) (hs : Bool) (hC : F 0 = .inr (5, [.ref (ad 1), .ref (ad 9), .ref (ad 17), .ref (ad 67), .ref (ad 69), .ref (ad 73), .int (bI hs)])) : MR l yX5_firstError (Cond.code yX5_firstError cX5_firstError 1 (some .int) :: AW) ({ frames := 6, cells := 0, slots := 0, locals := 82 } : Room) D cI cQ cL ad N F [.ref (ad 0)] (.int (nI (eri a n 0 (nI 0)))) := by
  refine mr_i (ty := .int) (by decide +kernel) rfl rfl rfl rfl (Nat.le_of_ble_eq_true rfl) (fun p e s m below meth cd Q ls hx hb hml hown hts hP hK hNW hret hl => ?_)
  have hown : s.vm.findClass RX5 = some m.cls := hown
  have hz0 : 0 < N := by omega
  have hz1 : 1 < N := by omega
  have hz1___1 : 1 + 1 < N := by omega
  have hz1___1___1 : 1 + 1 + 1 < N := by omega
  have hz1___1___2 : 1 + 1 + 2 < N := by omega
  have hz1___1___3 : 1 + 1 + 3 < N := by omega
  have hz1___5 : 1 + 5 < N := by omega
  have hz1___6 : 1 + 6 < N := by omega
  have hz1___7 : 1 + 7 < N := by omega
  have hz9 : 9 < N := by omega
  have hz17 : 17 < N := by omega
  have hz17___1 : 17 + 1 < N := by omega
  have hz67 : 67 < N := by omega
  have hz67___1 : 67 + 1 < N := by omega
  have hz69 : 69 < N := by omega
  have hz69___1 : 69 + 1 < N := by omega
  have hz69___2 : 69 + 2 < N := by omega
  have hz69___3 : 69 + 3 < N := by omega
  have hz73 : 73 < N := by omega
  have hz1___1___3 : 1 + 1 + 3 < N := by omega
  have hz69___3 : 69 + 3 < N := by omega
  have hl : lv_has ls 1 [(0, .ref (ad 0))] := hl
  refine lv_aload_n hx hb (dk kX5_firstError_ok 0 rfl) rfl (lv_at hl 0 rfl) ?_
  refine gf hx hb hts (fun w h => List.mem_cons_of_mem _ (acX5 w h)) hown hK hP hz0 hC rfl 3 (by decide) (hts _ (List.mem_cons_of_mem _ (ac8 _ (List.mem_of_getElem? (i := 5) rfl)))) (fun _ h => h) rfl (dk kX5_firstError_ok 1 rfl) ?_
  refine cvR (As := []) (rest := []) ⟨hx, hb, hml, hown, hts⟩ (tX0_errorIndex l D cI cQ cL ad N F 67 (by omega) a n hn60 hT) (cwV9 0 hts mcX0_errorIndex (ac10 _ (List.mem_of_getElem? (i := 22) rfl)) miX0_errorIndex meX0_errorIndex mini_RX0 rfl rfl hdX0_errorIndex ⟨Nat.le_of_ble_eq_true rfl, Nat.le_of_ble_eq_true rfl⟩) hK hP hNW hz67 hT.1 rfl rfl hl.1 rfl (Nat.le_of_ble_eq_true rfl) (by decide) (dk kX5_firstError_ok 2 rfl) ?_
  exact hret _ _ _ (by rfl) (dk kX5_firstError_ok 3 rfl)
set_option maxRecDepth 100000 in
set_option maxHeartbeats 4000000 in
theorem tX5_keep (l : Launch) (D : va_G) (cI cQ cL : ClassId) (ad : Nat → Nat) (N : Nat) (F : Nat → va_E) (hk : 76 < N) (c b v g h j : Nat → Int32) (t : Nat) (u z : Int32) (hN : stAt cI ad F 1 c b v g h j (nI t) u z) (c8 b8 v8 g8 h8 j8 : Nat → Int32) (t8 : Nat) (u8 z8 : Int32) (hSn : stAt cI ad F 9 c8 b8 v8 g8 h8 j8 (nI t8) u8 z8) (n9 m9 : Nat) (hn9 : n9 < 6) (hm9 : m9 ≤ 6) (hPa : paAt cQ ad F 17 n9 m9) (a : Nat → Int32) (n : Nat) (hn60 : n ≤ 60) (hT : gtAt cI ad F 67 a n) (c6 b6 v6 : Nat → Int32) (hM6 : matAt cI ad F 69 c6 b6 v6) (a7 d7 q7 : Nat → Int32) (hO : roAt cI ad F 73 a7 d7 q7) (hs : Bool) (hC : F 0 = .inr (5, [.ref (ad 1), .ref (ad 9), .ref (ad 17), .ref (ad 67), .ref (ad 69), .ref (ad 73), .int (bI hs)])) : MX l yX5_keep (Cond.code yX5_keep cX5_keep 1 (some .int) :: AW) ({ frames := 3, cells := 0, slots := 0, locals := 60 } : Room) D cI cQ cL ad N F [.ref (ad 0)] (dp (some (.int (nI (potn c)))) (va_up (sSet cI ad F 9 c b v g h j (nI t) u z) 0 (.inr (5, [.ref (ad 1), .ref (ad 9), .ref (ad 17), .ref (ad 67), .ref (ad 69), .ref (ad 73), .int (bI true)])))) 0 0 := by
  refine mx_i (ty := .int) (by decide +kernel) rfl (Nat.le_of_ble_eq_true rfl) (fun p e s m below meth cd Q ls hx hb hml hown hts hDi hP hK hNW hS hret hl => ?_)
  have hown : s.vm.findClass RX5 = some m.cls := hown
  have hz0 : 0 < N := by omega
  have hz1 : 1 < N := by omega
  have hz1___1 : 1 + 1 < N := by omega
  have hz1___1___1 : 1 + 1 + 1 < N := by omega
  have hz1___1___2 : 1 + 1 + 2 < N := by omega
  have hz1___1___3 : 1 + 1 + 3 < N := by omega
  have hz1___5 : 1 + 5 < N := by omega
  have hz1___6 : 1 + 6 < N := by omega
  have hz1___7 : 1 + 7 < N := by omega
  have hz9 : 9 < N := by omega
  have hz17 : 17 < N := by omega
  have hz17___1 : 17 + 1 < N := by omega
  have hz67 : 67 < N := by omega
  have hz67___1 : 67 + 1 < N := by omega
  have hz69 : 69 < N := by omega
  have hz69___1 : 69 + 1 < N := by omega
  have hz69___2 : 69 + 2 < N := by omega
  have hz69___3 : 69 + 3 < N := by omega
  have hz73 : 73 < N := by omega
  have hz1___1___3 : 1 + 1 + 3 < N := by omega
  have hz69___3 : 69 + 3 < N := by omega
  have hl : lv_has ls 1 [(0, .ref (ad 0))] := hl
  refine lv_aload_n hx hb (dk kX5_keep_ok 0 rfl) rfl (lv_at hl 0 rfl) ?_
  refine gf hx hb hts (fun w h => List.mem_cons_of_mem _ (acX5 w h)) hown hK hP hz0 hC rfl 1 (by decide) (hts _ (List.mem_cons_of_mem _ (ac7 _ (List.mem_of_getElem? (i := 22) rfl)))) (fun _ h => h) rfl (dk kX5_keep_ok 1 rfl) ?_
  refine lv_aload_n hx hb (dk kX5_keep_ok 2 rfl) rfl (lv_at hl 0 rfl) ?_
  refine gf hx hb hts (fun w h => List.mem_cons_of_mem _ (acX5 w h)) hown hK hP hz0 hC rfl 0 (by decide) (hts _ (List.mem_cons_of_mem _ (ac7 _ (List.mem_of_getElem? (i := 21) rfl)))) (fun _ h => h) rfl (dk kX5_keep_ok 3 rfl) ?_
  refine cvDv (As := [.ref (ad 1)]) (rest := []) (sSet cI ad F 9 c b v g h j (nI t) u z) ⟨hx, hb, hml, hown, hts⟩ (tX4_copyFrom l D cI cQ cL ad N F 9 (by omega) c8 b8 v8 g8 h8 j8 t8 u8 z8 hSn 1 (by omega) c b v g h j t u z hN (by omega)) (cwV9 1 hts mcX4_copyFrom (ac11 _ (List.mem_of_getElem? (i := 19) rfl)) miX4_copyFrom meX4_copyFrom mini_RX4 rfl rfl hdX4_copyFrom ⟨Nat.le_of_ble_eq_true rfl, Nat.le_of_ble_eq_true rfl⟩) hDi hK hP hNW hS hz9 hSn.1 rfl rfl hl.1 rfl (Nat.le_of_ble_eq_true rfl) (by decide) (dk kX5_keep_ok 4 rfl) rfl (fun H locs hP hS => ?_)
  refine lv_aload_n hx hb (dk kX5_keep_ok 5 rfl) rfl (lv_at hl 0 rfl) ?_
  refine lv_iconst (v := nI 1) hx hb (dk kX5_keep_ok 6 rfl) rfl ?_
  refine pf (va_up (sSet cI ad F 9 c b v g h j (nI t) u z) 0 (.inr (5, [.ref (ad 1), .ref (ad 9), .ref (ad 17), .ref (ad 67), .ref (ad 69), .ref (ad 73), .int (bI true)]))) hx hb hts (fun w h => List.mem_cons_of_mem _ (acX5 w h)) tyX5 tyX5_ok nmX5 hown hK hDi hP hS hz0 ((sSet_out (by omega)).trans hC) rfl 6 (by decide) (hts _ (List.mem_cons_of_mem _ (ac8 _ (List.mem_of_getElem? (i := 11) rfl)))) (fun _ h => h) rfl (ty := .boolean) rfl rfl rfl (Nat.le_of_ble_eq_true rfl) (dk kX5_keep_ok 7 rfl) rfl (fun H locs hP hS => ?_)
  refine lv_aload_n hx hb (dk kX5_keep_ok 8 rfl) rfl (lv_at hl 0 rfl) ?_
  refine gf hx hb hts (fun w h => List.mem_cons_of_mem _ (acX5 w h)) hown hK hP hz0 (va_up_self _ _ _) rfl 0 (by decide) (hts _ (List.mem_cons_of_mem _ (ac7 _ (List.mem_of_getElem? (i := 21) rfl)))) (fun _ h => h) rfl (dk kX5_keep_ok 9 rfl) ?_
  refine gfN hx hb hts (fun w h => List.mem_cons_of_mem _ (acX4 w h)) hown hK hP hz1 (stAt_keep (stAt_keep hN (fun i _ _ => sSet_out (by omega))) (fun i _ _ => va_up_ne _ _ (by omega))).1 rfl 0 (by decide) (nf2 hNW) (fun _ h => h) rfl (dk kX5_keep_ok 10 rfl) ?_
  refine cvR (As := []) (rest := []) ⟨hx, hb, hml, hown, hts⟩ (tX1_potted l D cI cQ cL ad N (va_up (sSet cI ad F 9 c b v g h j (nI t) u z) 0 (.inr (5, [.ref (ad 1), .ref (ad 9), .ref (ad 17), .ref (ad 67), .ref (ad 69), .ref (ad 73), .int (bI true)]))) (1 + 1) (by omega) c b v (stAt_keep (stAt_keep hN (fun i _ _ => sSet_out (by omega))) (fun i _ _ => va_up_ne _ _ (by omega))).2.1) (cwV9 0 hts mcX1_potted (ac11 _ (List.mem_of_getElem? (i := 20) rfl)) miX1_potted meX1_potted mini_RX1 rfl rfl hdX1_potted ⟨Nat.le_of_ble_eq_true rfl, Nat.le_of_ble_eq_true rfl⟩) hK hP hNW hz1___1 (stAt_keep (stAt_keep hN (fun i _ _ => sSet_out (by omega))) (fun i _ _ => va_up_ne _ _ (by omega))).2.1.1 rfl rfl hl.1 rfl (Nat.le_of_ble_eq_true rfl) (by decide) (dk kX5_keep_ok 11 rfl) ?_
  exact hret _ _ _ _ _ _ _ _ rfl (by exact ⟨rfl, rfl⟩) hP hS (by decide) (by decide) (dk kX5_keep_ok 12 rfl)
set_option maxRecDepth 100000 in
set_option maxHeartbeats 4000000 in
theorem tX5_goBack (l : Launch) (D : va_G) (cI cQ cL : ClassId) (ad : Nat → Nat) (N : Nat) (F : Nat → va_E) (hk : 76 < N) (c b v g h j : Nat → Int32) (t : Nat) (u z : Int32) (hN : stAt cI ad F 1 c b v g h j (nI t) u z) (c8 b8 v8 g8 h8 j8 : Nat → Int32) (t8 : Nat) (u8 z8 : Int32) (hSn : stAt cI ad F 9 c8 b8 v8 g8 h8 j8 (nI t8) u8 z8) (n9 m9 : Nat) (hn9 : n9 < 6) (hm9 : m9 ≤ 6) (hPa : paAt cQ ad F 17 n9 m9) (a : Nat → Int32) (n : Nat) (hn60 : n ≤ 60) (hT : gtAt cI ad F 67 a n) (c6 b6 v6 : Nat → Int32) (hM6 : matAt cI ad F 69 c6 b6 v6) (a7 d7 q7 : Nat → Int32) (hO : roAt cI ad F 73 a7 d7 q7) (hs : Bool) (hC : F 0 = .inr (5, [.ref (ad 1), .ref (ad 9), .ref (ad 17), .ref (ad 67), .ref (ad 69), .ref (ad 73), .int (bI hs)])) (cr br vr gr hr9 jr : Nat → Int32) (tr : Nat) (ur zr : Int32) (hRi : stAt cI ad F (17 + 2 + 8 * n9) cr br vr gr hr9 jr (nI tr) ur zr) (hh : hs = true) : MX l yX5_goBack (Cond.code yX5_goBack cX5_goBack 1 (some .int) :: AW) ({ frames := 4, cells := 0, slots := 0, locals := 81 } : Room) D cI cQ cL ad N F [.ref (ad 0)] (dp (some (.int (nI (potn c8)))) (sSet cI ad (paSet cQ ad (sSet cI ad F (17 + 2 + 8 * n9) c b v g h j (nI t) u z) 17 ((n9 + 1) % 6) (min (m9 + 1) 6)) 1 c8 b8 v8 g8 h8 j8 (nI t8) u8 z8)) 0 0 := by
  refine mx_i (ty := .int) (by decide +kernel) rfl (Nat.le_of_ble_eq_true rfl) (fun p e s m below meth cd Q ls hx hb hml hown hts hDi hP hK hNW hS hret hl => ?_)
  have hown : s.vm.findClass RX5 = some m.cls := hown
  have hz0 : 0 < N := by omega
  have hz1 : 1 < N := by omega
  have hz1___1 : 1 + 1 < N := by omega
  have hz1___1___1 : 1 + 1 + 1 < N := by omega
  have hz1___1___2 : 1 + 1 + 2 < N := by omega
  have hz1___1___3 : 1 + 1 + 3 < N := by omega
  have hz1___5 : 1 + 5 < N := by omega
  have hz1___6 : 1 + 6 < N := by omega
  have hz1___7 : 1 + 7 < N := by omega
  have hz9 : 9 < N := by omega
  have hz17 : 17 < N := by omega
  have hz17___1 : 17 + 1 < N := by omega
  have hz67 : 67 < N := by omega
  have hz67___1 : 67 + 1 < N := by omega
  have hz69 : 69 < N := by omega
  have hz69___1 : 69 + 1 < N := by omega
  have hz69___2 : 69 + 2 < N := by omega
  have hz69___3 : 69 + 3 < N := by omega
  have hz73 : 73 < N := by omega
  have hz1___1___3 : 1 + 1 + 3 < N := by omega
  have hz69___3 : 69 + 3 < N := by omega
  have hl : lv_has ls 1 [(0, .ref (ad 0))] := hl
  refine lv_aload_n hx hb (dk kX5_goBack_ok 0 rfl) rfl (lv_at hl 0 rfl) ?_
  refine gf hx hb hts (fun w h => List.mem_cons_of_mem _ (acX5 w h)) hown hK hP hz0 hC rfl 6 (by decide) (hts _ (List.mem_cons_of_mem _ (ac8 _ (List.mem_of_getElem? (i := 11) rfl)))) (fun _ h => h) rfl (dk kX5_goBack_ok 1 rfl) ?_
  refine b_if_ne (tgt := 17) hx hb (dk kX5_goBack_ok 2 rfl) (by decide) (fun h1 => ?_) (fun h1 => ?_)
  · skip
    refine lv_aload_n hx hb (dk kX5_goBack_ok 8 rfl) rfl (lv_at hl 0 rfl) ?_
    refine gf hx hb hts (fun w h => List.mem_cons_of_mem _ (acX5 w h)) hown hK hP hz0 hC rfl 2 (by decide) (hts _ (List.mem_cons_of_mem _ (ac8 _ (List.mem_of_getElem? (i := 2) rfl)))) (fun _ h => h) rfl (dk kX5_goBack_ok 9 rfl) ?_
    refine lv_aload_n hx hb (dk kX5_goBack_ok 10 rfl) rfl (lv_at hl 0 rfl) ?_
    refine gf hx hb hts (fun w h => List.mem_cons_of_mem _ (acX5 w h)) hown hK hP hz0 hC rfl 0 (by decide) (hts _ (List.mem_cons_of_mem _ (ac7 _ (List.mem_of_getElem? (i := 21) rfl)))) (fun _ h => h) rfl (dk kX5_goBack_ok 11 rfl) ?_
    refine cvDv (As := [.ref (ad 1)]) (rest := []) (paSet cQ ad (sSet cI ad F (17 + 2 + 8 * n9) c b v g h j (nI t) u z) 17 ((n9 + 1) % 6) (min (m9 + 1) 6)) ⟨hx, hb, hml, hown, hts⟩ (tX2_save l D cI cQ cL ad N F 17 n9 m9 hn9 hm9 (by omega) hPa cr br vr gr hr9 jr tr ur zr hRi (by omega) 1 (by omega) c b v g h j t u z hN (by omega)) (cwV9 1 hts mcX2_save (ac9 _ (List.mem_of_getElem? (i := 16) rfl)) miX2_save meX2_save mini_RX2 rfl rfl hdX2_save ⟨Nat.le_of_ble_eq_true rfl, Nat.le_of_ble_eq_true rfl⟩) hDi hK hP hNW hS hz17 hPa.1 rfl rfl hl.1 rfl (Nat.le_of_ble_eq_true rfl) (by decide) (dk kX5_goBack_ok 12 rfl) rfl (fun H locs hP hS => ?_)
    refine lv_aload_n hx hb (dk kX5_goBack_ok 13 rfl) rfl (lv_at hl 0 rfl) ?_
    refine gf hx hb hts (fun w h => List.mem_cons_of_mem _ (acX5 w h)) hown hK hP hz0 ((paSet_out (by omega)).trans ((sSet_out (by omega)).trans hC)) rfl 0 (by decide) (hts _ (List.mem_cons_of_mem _ (ac7 _ (List.mem_of_getElem? (i := 21) rfl)))) (fun _ h => h) rfl (dk kX5_goBack_ok 14 rfl) ?_
    refine lv_aload_n hx hb (dk kX5_goBack_ok 15 rfl) rfl (lv_at hl 0 rfl) ?_
    refine gf hx hb hts (fun w h => List.mem_cons_of_mem _ (acX5 w h)) hown hK hP hz0 ((paSet_out (by omega)).trans ((sSet_out (by omega)).trans hC)) rfl 1 (by decide) (hts _ (List.mem_cons_of_mem _ (ac7 _ (List.mem_of_getElem? (i := 22) rfl)))) (fun _ h => h) rfl (dk kX5_goBack_ok 16 rfl) ?_
    refine cvDv (As := [.ref (ad 9)]) (rest := []) (sSet cI ad (paSet cQ ad (sSet cI ad F (17 + 2 + 8 * n9) c b v g h j (nI t) u z) 17 ((n9 + 1) % 6) (min (m9 + 1) 6)) 1 c8 b8 v8 g8 h8 j8 (nI t8) u8 z8) ⟨hx, hb, hml, hown, hts⟩ (tX4_copyFrom l D cI cQ cL ad N (paSet cQ ad (sSet cI ad F (17 + 2 + 8 * n9) c b v g h j (nI t) u z) 17 ((n9 + 1) % 6) (min (m9 + 1) 6)) 1 (by omega) c b v g h j t u z (stAt_keep (stAt_keep hN (fun i _ _ => sSet_out (by omega))) (fun i _ _ => paSet_out (by omega))) 9 (by omega) c8 b8 v8 g8 h8 j8 t8 u8 z8 (stAt_keep (stAt_keep hSn (fun i _ _ => sSet_out (by omega))) (fun i _ _ => paSet_out (by omega))) (by omega)) (cwV9 1 hts mcX4_copyFrom (ac11 _ (List.mem_of_getElem? (i := 19) rfl)) miX4_copyFrom meX4_copyFrom mini_RX4 rfl rfl hdX4_copyFrom ⟨Nat.le_of_ble_eq_true rfl, Nat.le_of_ble_eq_true rfl⟩) hDi hK hP hNW hS hz1 (stAt_keep (stAt_keep hN (fun i _ _ => sSet_out (by omega))) (fun i _ _ => paSet_out (by omega))).1 rfl rfl hl.1 rfl (Nat.le_of_ble_eq_true rfl) (by decide) (dk kX5_goBack_ok 17 rfl) rfl (fun H locs hP hS => ?_)
    refine lv_aload_n hx hb (dk kX5_goBack_ok 18 rfl) rfl (lv_at hl 0 rfl) ?_
    refine gf hx hb hts (fun w h => List.mem_cons_of_mem _ (acX5 w h)) hown hK hP hz0 ((sSet_out (by omega)).trans ((paSet_out (by omega)).trans ((sSet_out (by omega)).trans hC))) rfl 0 (by decide) (hts _ (List.mem_cons_of_mem _ (ac7 _ (List.mem_of_getElem? (i := 21) rfl)))) (fun _ h => h) rfl (dk kX5_goBack_ok 19 rfl) ?_
    refine gfN hx hb hts (fun w h => List.mem_cons_of_mem _ (acX4 w h)) hown hK hP hz1 (sSet_at (stAt_keep (stAt_keep hN (fun i _ _ => sSet_out (by omega))) (fun i _ _ => paSet_out (by omega)))).1 rfl 0 (by decide) (nf2 hNW) (fun _ h => h) rfl (dk kX5_goBack_ok 20 rfl) ?_
    refine cvR (As := []) (rest := []) ⟨hx, hb, hml, hown, hts⟩ (tX1_potted l D cI cQ cL ad N (sSet cI ad (paSet cQ ad (sSet cI ad F (17 + 2 + 8 * n9) c b v g h j (nI t) u z) 17 ((n9 + 1) % 6) (min (m9 + 1) 6)) 1 c8 b8 v8 g8 h8 j8 (nI t8) u8 z8) (1 + 1) (by omega) c8 b8 v8 (sSet_at (stAt_keep (stAt_keep hN (fun i _ _ => sSet_out (by omega))) (fun i _ _ => paSet_out (by omega)))).2.1) (cwV9 0 hts mcX1_potted (ac11 _ (List.mem_of_getElem? (i := 20) rfl)) miX1_potted meX1_potted mini_RX1 rfl rfl hdX1_potted ⟨Nat.le_of_ble_eq_true rfl, Nat.le_of_ble_eq_true rfl⟩) hK hP hNW hz1___1 (sSet_at (stAt_keep (stAt_keep hN (fun i _ _ => sSet_out (by omega))) (fun i _ _ => paSet_out (by omega)))).2.1.1 rfl rfl hl.1 rfl (Nat.le_of_ble_eq_true rfl) (by decide) (dk kX5_goBack_ok 21 rfl) ?_
    exact hret _ _ _ _ _ _ _ _ rfl (by exact ⟨rfl, rfl⟩) hP hS (by decide) (by decide) (dk kX5_goBack_ok 22 rfl)
  · exact absurd (hh.symm.trans h1) (by decide)
set_option maxRecDepth 100000 in
set_option maxHeartbeats 4000000 in
theorem tX5_goBackX_b1 (l : Launch) (hst : l.stackTraces = false) (D : va_G) (cI cQ cL : ClassId) (ad : Nat → Nat) (N : Nat) (F : Nat → va_E) (hk : 76 < N) (c b v g h j : Nat → Int32) (t : Nat) (u z : Int32) (hN : stAt cI ad F 1 c b v g h j (nI t) u z) (c8 b8 v8 g8 h8 j8 : Nat → Int32) (t8 : Nat) (u8 z8 : Int32) (hSn : stAt cI ad F 9 c8 b8 v8 g8 h8 j8 (nI t8) u8 z8) (n9 m9 : Nat) (hn9 : n9 < 6) (hm9 : m9 ≤ 6) (hPa : paAt cQ ad F 17 n9 m9) (a : Nat → Int32) (n : Nat) (hn60 : n ≤ 60) (hT : gtAt cI ad F 67 a n) (c6 b6 v6 : Nat → Int32) (hM6 : matAt cI ad F 69 c6 b6 v6) (a7 d7 q7 : Nat → Int32) (hO : roAt cI ad F 73 a7 d7 q7) (hs : Bool) (hC : F 0 = .inr (5, [.ref (ad 1), .ref (ad 9), .ref (ad 17), .ref (ad 67), .ref (ad 69), .ref (ad 73), .int (bI hs)])) (hh : hs = false) : MT l yX5_goBack (Cond.code yX5_goBack cX5_goBack 1 (some .int) :: AW) ({ frames := 6, cells := 1, slots := 6, locals := 82 } : Room) D cI cQ cL ad N F [.ref (ad 0)] eS 1 6 := by
  refine mt_of (ret := (some .int)) hst (by decide +kernel) rfl (Nat.le_of_ble_eq_true rfl) (fun p e s m below meth cd Q ls hx hb hml hown hts hDi hP hK hNW hS hX hthr hthrW hout hl => ?_)
  have hown : s.vm.findClass RX5 = some m.cls := hown
  have hz0 : 0 < N := by omega
  have hz1 : 1 < N := by omega
  have hz1___1 : 1 + 1 < N := by omega
  have hz1___1___1 : 1 + 1 + 1 < N := by omega
  have hz1___1___2 : 1 + 1 + 2 < N := by omega
  have hz1___1___3 : 1 + 1 + 3 < N := by omega
  have hz1___5 : 1 + 5 < N := by omega
  have hz1___6 : 1 + 6 < N := by omega
  have hz1___7 : 1 + 7 < N := by omega
  have hz9 : 9 < N := by omega
  have hz17 : 17 < N := by omega
  have hz17___1 : 17 + 1 < N := by omega
  have hz67 : 67 < N := by omega
  have hz67___1 : 67 + 1 < N := by omega
  have hz69 : 69 < N := by omega
  have hz69___1 : 69 + 1 < N := by omega
  have hz69___2 : 69 + 2 < N := by omega
  have hz69___3 : 69 + 3 < N := by omega
  have hz73 : 73 < N := by omega
  have hz1___1___3 : 1 + 1 + 3 < N := by omega
  have hz69___3 : 69 + 3 < N := by omega
  have hl : lv_has ls 1 [(0, .ref (ad 0))] := hl
  refine lv_aload_n hx hb (dk kX5_goBack_ok 0 rfl) rfl (lv_at hl 0 rfl) ?_
  refine gf hx hb hts (fun w h => List.mem_cons_of_mem _ (acX5 w h)) hown hK hP hz0 hC rfl 6 (by decide) (hts _ (List.mem_cons_of_mem _ (ac8 _ (List.mem_of_getElem? (i := 11) rfl)))) (fun _ h => h) rfl (dk kX5_goBack_ok 1 rfl) ?_
  refine b_if_ne (tgt := 17) hx hb (dk kX5_goBack_ok 2 rfl) (by decide) (fun h1 => ?_) (fun h1 => ?_)
  · exact absurd (hh.symm.trans h1) (by decide)
  · skip
    exact hthr 63 67 154 7 "there is no snapshot" ls [] _ _ 0 0 (by decide) (by decide) hP hS hl.1 (dk kX5_goBack_ok 3 rfl) (dk kX5_goBack_ok 4 rfl) (dk kX5_goBack_ok 5 rfl) (dk kX5_goBack_ok 6 rfl) (dk kX5_goBack_ok 7 rfl) (by decide) (by decide) (by decide) (by decide) (by decide) (by decide)
set_option maxRecDepth 100000 in
set_option maxHeartbeats 4000000 in
theorem tX5_undo (l : Launch) (D : va_G) (cI cQ cL : ClassId) (ad : Nat → Nat) (N : Nat) (F : Nat → va_E) (hk : 76 < N) (c b v g h j : Nat → Int32) (t : Nat) (u z : Int32) (hN : stAt cI ad F 1 c b v g h j (nI t) u z) (c8 b8 v8 g8 h8 j8 : Nat → Int32) (t8 : Nat) (u8 z8 : Int32) (hSn : stAt cI ad F 9 c8 b8 v8 g8 h8 j8 (nI t8) u8 z8) (n9 m9 : Nat) (hn9 : n9 < 6) (hm9 : m9 ≤ 6) (hPa : paAt cQ ad F 17 n9 m9) (a : Nat → Int32) (n : Nat) (hn60 : n ≤ 60) (hT : gtAt cI ad F 67 a n) (c6 b6 v6 : Nat → Int32) (hM6 : matAt cI ad F 69 c6 b6 v6) (a7 d7 q7 : Nat → Int32) (hO : roAt cI ad F 73 a7 d7 q7) (hs : Bool) (hC : F 0 = .inr (5, [.ref (ad 1), .ref (ad 9), .ref (ad 17), .ref (ad 67), .ref (ad 69), .ref (ad 73), .int (bI hs)])) (cr br vr gr hr9 jr : Nat → Int32) (tr : Nat) (ur zr : Int32) (hRi : stAt cI ad F (17 + 2 + 8 * ((n9 + 6 - 1) % 6)) cr br vr gr hr9 jr (nI tr) ur zr) (hm0 : 1 ≤ m9) : MX l yX5_undo (Cond.code yX5_undo cX5_undo 1 (some .int) :: AW) ({ frames := 4, cells := 0, slots := 0, locals := 81 } : Room) D cI cQ cL ad N F [.ref (ad 0)] (dp (some (.int (nI (m9 - 1)))) (sSet cI ad (paSet cQ ad F 17 ((n9 + 6 - 1) % 6) (m9 - 1)) 1 cr br vr gr hr9 jr (nI tr) ur zr)) 0 0 := by
  refine mx_i (ty := .int) (by decide +kernel) rfl (Nat.le_of_ble_eq_true rfl) (fun p e s m below meth cd Q ls hx hb hml hown hts hDi hP hK hNW hS hret hl => ?_)
  have hown : s.vm.findClass RX5 = some m.cls := hown
  have hz0 : 0 < N := by omega
  have hz1 : 1 < N := by omega
  have hz1___1 : 1 + 1 < N := by omega
  have hz1___1___1 : 1 + 1 + 1 < N := by omega
  have hz1___1___2 : 1 + 1 + 2 < N := by omega
  have hz1___1___3 : 1 + 1 + 3 < N := by omega
  have hz1___5 : 1 + 5 < N := by omega
  have hz1___6 : 1 + 6 < N := by omega
  have hz1___7 : 1 + 7 < N := by omega
  have hz9 : 9 < N := by omega
  have hz17 : 17 < N := by omega
  have hz17___1 : 17 + 1 < N := by omega
  have hz67 : 67 < N := by omega
  have hz67___1 : 67 + 1 < N := by omega
  have hz69 : 69 < N := by omega
  have hz69___1 : 69 + 1 < N := by omega
  have hz69___2 : 69 + 2 < N := by omega
  have hz69___3 : 69 + 3 < N := by omega
  have hz73 : 73 < N := by omega
  have hz1___1___3 : 1 + 1 + 3 < N := by omega
  have hz69___3 : 69 + 3 < N := by omega
  have hl : lv_has ls 1 [(0, .ref (ad 0))] := hl
  refine lv_aload_n hx hb (dk kX5_undo_ok 0 rfl) rfl (lv_at hl 0 rfl) ?_
  refine gf hx hb hts (fun w h => List.mem_cons_of_mem _ (acX5 w h)) hown hK hP hz0 hC rfl 2 (by decide) (hts _ (List.mem_cons_of_mem _ (ac8 _ (List.mem_of_getElem? (i := 2) rfl)))) (fun _ h => h) rfl (dk kX5_undo_ok 1 rfl) ?_
  refine gfN hx hb hts (fun w h => List.mem_cons_of_mem _ (acX2 w h)) hown hK hP hz17 hPa.1 rfl 2 (by decide) (nf9 hNW) (fun _ h => h) rfl (dk kX5_undo_ok 2 rfl) ?_
  refine n_if_ne (tgt := 20) hx hb (by omega) (dk kX5_undo_ok 3 rfl) (by decide) (fun h1 => ?_) (fun h1 => ?_)
  · skip
    refine lv_aload_n hx hb (dk kX5_undo_ok 9 rfl) rfl (lv_at hl 0 rfl) ?_
    refine gf hx hb hts (fun w h => List.mem_cons_of_mem _ (acX5 w h)) hown hK hP hz0 hC rfl 2 (by decide) (hts _ (List.mem_cons_of_mem _ (ac8 _ (List.mem_of_getElem? (i := 2) rfl)))) (fun _ h => h) rfl (dk kX5_undo_ok 10 rfl) ?_
    refine lv_aload_n hx hb (dk kX5_undo_ok 11 rfl) rfl (lv_at hl 0 rfl) ?_
    refine gf hx hb hts (fun w h => List.mem_cons_of_mem _ (acX5 w h)) hown hK hP hz0 hC rfl 0 (by decide) (hts _ (List.mem_cons_of_mem _ (ac7 _ (List.mem_of_getElem? (i := 21) rfl)))) (fun _ h => h) rfl (dk kX5_undo_ok 12 rfl) ?_
    refine cvDv (As := [.ref (ad 1)]) (rest := []) (sSet cI ad (paSet cQ ad F 17 ((n9 + 6 - 1) % 6) (m9 - 1)) 1 cr br vr gr hr9 jr (nI tr) ur zr) ⟨hx, hb, hml, hown, hts⟩ (tX2_restore l D cI cQ cL ad N F 17 n9 m9 hn9 hm9 (by omega) (by omega) hPa cr br vr gr hr9 jr tr ur zr hRi (by omega) 1 (by omega) c b v g h j t u z hN (by omega)) (cwV9 1 hts mcX2_restore (ac12 _ (List.mem_of_getElem? (i := 0) rfl)) miX2_restore meX2_restore mini_RX2 rfl rfl hdX2_restore ⟨Nat.le_of_ble_eq_true rfl, Nat.le_of_ble_eq_true rfl⟩) hDi hK hP hNW hS hz17 hPa.1 rfl rfl hl.1 rfl (Nat.le_of_ble_eq_true rfl) (by decide) (dk kX5_undo_ok 13 rfl) rfl (fun H locs hP hS => ?_)
    refine lv_aload_n hx hb (dk kX5_undo_ok 14 rfl) rfl (lv_at hl 0 rfl) ?_
    refine gf hx hb hts (fun w h => List.mem_cons_of_mem _ (acX5 w h)) hown hK hP hz0 ((sSet_out (by omega)).trans ((paSet_out (by omega)).trans hC)) rfl 2 (by decide) (hts _ (List.mem_cons_of_mem _ (ac8 _ (List.mem_of_getElem? (i := 2) rfl)))) (fun _ h => h) rfl (dk kX5_undo_ok 15 rfl) ?_
    refine gfN hx hb hts (fun w h => List.mem_cons_of_mem _ (acX2 w h)) hown hK hP hz17 (paAt_keep paSet_at (fun i _ _ => sSet_out (by omega))).1 rfl 2 (by decide) (nf9 hNW) (fun _ h => h) rfl (dk kX5_undo_ok 16 rfl) ?_
    exact hret _ _ _ _ _ _ _ _ rfl (by exact ⟨rfl, rfl⟩) hP hS (by decide) (by decide) (dk kX5_undo_ok 17 rfl)
  · exact absurd h1 (by omega)
set_option maxRecDepth 100000 in
set_option maxHeartbeats 4000000 in
theorem tX5_undoX_b1 (l : Launch) (hst : l.stackTraces = false) (D : va_G) (cI cQ cL : ClassId) (ad : Nat → Nat) (N : Nat) (F : Nat → va_E) (hk : 76 < N) (c b v g h j : Nat → Int32) (t : Nat) (u z : Int32) (hN : stAt cI ad F 1 c b v g h j (nI t) u z) (c8 b8 v8 g8 h8 j8 : Nat → Int32) (t8 : Nat) (u8 z8 : Int32) (hSn : stAt cI ad F 9 c8 b8 v8 g8 h8 j8 (nI t8) u8 z8) (n9 m9 : Nat) (hn9 : n9 < 6) (hm9 : m9 ≤ 6) (hPa : paAt cQ ad F 17 n9 m9) (a : Nat → Int32) (n : Nat) (hn60 : n ≤ 60) (hT : gtAt cI ad F 67 a n) (c6 b6 v6 : Nat → Int32) (hM6 : matAt cI ad F 69 c6 b6 v6) (a7 d7 q7 : Nat → Int32) (hO : roAt cI ad F 73 a7 d7 q7) (hs : Bool) (hC : F 0 = .inr (5, [.ref (ad 1), .ref (ad 9), .ref (ad 17), .ref (ad 67), .ref (ad 69), .ref (ad 73), .int (bI hs)])) (hm0 : m9 = 0) : MT l yX5_undo (Cond.code yX5_undo cX5_undo 1 (some .int) :: AW) ({ frames := 6, cells := 1, slots := 6, locals := 82 } : Room) D cI cQ cL ad N F [.ref (ad 0)] eS 1 6 := by
  refine mt_of (ret := (some .int)) hst (by decide +kernel) rfl (Nat.le_of_ble_eq_true rfl) (fun p e s m below meth cd Q ls hx hb hml hown hts hDi hP hK hNW hS hX hthr hthrW hout hl => ?_)
  have hown : s.vm.findClass RX5 = some m.cls := hown
  have hz0 : 0 < N := by omega
  have hz1 : 1 < N := by omega
  have hz1___1 : 1 + 1 < N := by omega
  have hz1___1___1 : 1 + 1 + 1 < N := by omega
  have hz1___1___2 : 1 + 1 + 2 < N := by omega
  have hz1___1___3 : 1 + 1 + 3 < N := by omega
  have hz1___5 : 1 + 5 < N := by omega
  have hz1___6 : 1 + 6 < N := by omega
  have hz1___7 : 1 + 7 < N := by omega
  have hz9 : 9 < N := by omega
  have hz17 : 17 < N := by omega
  have hz17___1 : 17 + 1 < N := by omega
  have hz67 : 67 < N := by omega
  have hz67___1 : 67 + 1 < N := by omega
  have hz69 : 69 < N := by omega
  have hz69___1 : 69 + 1 < N := by omega
  have hz69___2 : 69 + 2 < N := by omega
  have hz69___3 : 69 + 3 < N := by omega
  have hz73 : 73 < N := by omega
  have hz1___1___3 : 1 + 1 + 3 < N := by omega
  have hz69___3 : 69 + 3 < N := by omega
  have hl : lv_has ls 1 [(0, .ref (ad 0))] := hl
  refine lv_aload_n hx hb (dk kX5_undo_ok 0 rfl) rfl (lv_at hl 0 rfl) ?_
  refine gf hx hb hts (fun w h => List.mem_cons_of_mem _ (acX5 w h)) hown hK hP hz0 hC rfl 2 (by decide) (hts _ (List.mem_cons_of_mem _ (ac8 _ (List.mem_of_getElem? (i := 2) rfl)))) (fun _ h => h) rfl (dk kX5_undo_ok 1 rfl) ?_
  refine gfN hx hb hts (fun w h => List.mem_cons_of_mem _ (acX2 w h)) hown hK hP hz17 hPa.1 rfl 2 (by decide) (nf9 hNW) (fun _ h => h) rfl (dk kX5_undo_ok 2 rfl) ?_
  refine n_if_ne (tgt := 20) hx hb (by omega) (dk kX5_undo_ok 3 rfl) (by decide) (fun h1 => ?_) (fun h1 => ?_)
  · exact absurd hm0 h1
  · skip
    exact hthr 63 67 159 10 "there is no saved state" ls [] _ _ 0 0 (by decide) (by decide) hP hS hl.1 (dk kX5_undo_ok 4 rfl) (dk kX5_undo_ok 5 rfl) (dk kX5_undo_ok 6 rfl) (dk kX5_undo_ok 7 rfl) (dk kX5_undo_ok 8 rfl) (by decide) (by decide) (by decide) (by decide) (by decide) (by decide)
set_option maxRecDepth 100000 in
set_option maxHeartbeats 4000000 in
theorem tX5_playX_b1 (l : Launch) (hst : l.stackTraces = false) (D : va_G) (cI cQ cL : ClassId) (ad : Nat → Nat) (N : Nat) (F : Nat → va_E) (hk : 76 < N) (c b v g h j : Nat → Int32) (t : Nat) (u z : Int32) (hN : stAt cI ad F 1 c b v g h j (nI t) u z) (c8 b8 v8 g8 h8 j8 : Nat → Int32) (t8 : Nat) (u8 z8 : Int32) (hSn : stAt cI ad F 9 c8 b8 v8 g8 h8 j8 (nI t8) u8 z8) (n9 m9 : Nat) (hn9 : n9 < 6) (hm9 : m9 ≤ 6) (hPa : paAt cQ ad F 17 n9 m9) (a : Nat → Int32) (n : Nat) (hn60 : n ≤ 60) (hT : gtAt cI ad F 67 a n) (c6 b6 v6 : Nat → Int32) (hM6 : matAt cI ad F 69 c6 b6 v6) (a7 d7 q7 : Nat → Int32) (hO : roAt cI ad F 73 a7 d7 q7) (hs : Bool) (hC : F 0 = .inr (5, [.ref (ad 1), .ref (ad 9), .ref (ad 17), .ref (ad 67), .ref (ad 69), .ref (ad 73), .int (bI hs)])) (hh : sta a n ≠ nI 8) : MT l yX5_play (Cond.code yX5_play cX5_play 2 (some .int) :: AW) ({ frames := 6, cells := 1, slots := 6, locals := 82 } : Room) D cI cQ cL ad N F [.ref (ad 0)] eA 1 6 := by
  refine mt_of (ret := (some .int)) hst (by decide +kernel) rfl (Nat.le_of_ble_eq_true rfl) (fun p e s m below meth cd Q ls hx hb hml hown hts hDi hP hK hNW hS hX hthr hthrW hout hl => ?_)
  have hown : s.vm.findClass RX5 = some m.cls := hown
  have hz0 : 0 < N := by omega
  have hz1 : 1 < N := by omega
  have hz1___1 : 1 + 1 < N := by omega
  have hz1___1___1 : 1 + 1 + 1 < N := by omega
  have hz1___1___2 : 1 + 1 + 2 < N := by omega
  have hz1___1___3 : 1 + 1 + 3 < N := by omega
  have hz1___5 : 1 + 5 < N := by omega
  have hz1___6 : 1 + 6 < N := by omega
  have hz1___7 : 1 + 7 < N := by omega
  have hz9 : 9 < N := by omega
  have hz17 : 17 < N := by omega
  have hz17___1 : 17 + 1 < N := by omega
  have hz67 : 67 < N := by omega
  have hz67___1 : 67 + 1 < N := by omega
  have hz69 : 69 < N := by omega
  have hz69___1 : 69 + 1 < N := by omega
  have hz69___2 : 69 + 2 < N := by omega
  have hz69___3 : 69 + 3 < N := by omega
  have hz73 : 73 < N := by omega
  have hz1___1___3 : 1 + 1 + 3 < N := by omega
  have hz69___3 : 69 + 3 < N := by omega
  have hl : lv_has ls 2 [(0, .ref (ad 0))] := hl
  refine lv_aload_n hx hb (dk kX5_play_ok 0 rfl) rfl (lv_at hl 0 rfl) ?_
  refine gf hx hb hts (fun w h => List.mem_cons_of_mem _ (acX5 w h)) hown hK hP hz0 hC rfl 3 (by decide) (hts _ (List.mem_cons_of_mem _ (ac8 _ (List.mem_of_getElem? (i := 5) rfl)))) (fun _ h => h) rfl (dk kX5_play_ok 1 rfl) ?_
  refine cvR (As := []) (rest := []) ⟨hx, hb, hml, hown, hts⟩ (tX0_isComplete l D cI cQ cL ad N F 67 (by omega) a n hn60 hT) (cwV9 0 hts mcX0_isComplete (ac11 _ (List.mem_of_getElem? (i := 11) rfl)) miX0_isComplete meX0_isComplete mini_RX0 rfl rfl hdX0_isComplete ⟨Nat.le_of_ble_eq_true rfl, Nat.le_of_ble_eq_true rfl⟩) hK hP hNW hz67 hT.1 rfl rfl hl.1 rfl (Nat.le_of_ble_eq_true rfl) (by decide) (dk kX5_play_ok 2 rfl) ?_
  refine b_if_ne (tgt := 20) hx hb (dk kX5_play_ok 3 rfl) (by decide) (fun h1 => ?_) (fun h1 => ?_)
  · exact absurd (of_decide_eq_true h1) hh
  · replace h1 := of_decide_eq_false h1
    exact hthr 104 108 143 10 "the buffer is not a complete game" ls [] _ _ 0 0 (by decide) (by decide) hP hS hl.1 (dk kX5_play_ok 4 rfl) (dk kX5_play_ok 5 rfl) (dk kX5_play_ok 6 rfl) (dk kX5_play_ok 7 rfl) (dk kX5_play_ok 8 rfl) (by decide) (by decide) (by decide) (by decide) (by decide) (by decide)
set_option maxRecDepth 100000 in
set_option maxHeartbeats 4000000 in
theorem tX5_tryFlight (l : Launch) (D : va_G) (cI cQ cL : ClassId) (ad : Nat → Nat) (N : Nat) (F : Nat → va_E) (hk : 76 < N) (c b v g h j : Nat → Int32) (t : Nat) (u z : Int32) (hN : stAt cI ad F 1 c b v g h j (nI t) u z) (c8 b8 v8 g8 h8 j8 : Nat → Int32) (t8 : Nat) (u8 z8 : Int32) (hSn : stAt cI ad F 9 c8 b8 v8 g8 h8 j8 (nI t8) u8 z8) (n9 m9 : Nat) (hn9 : n9 < 6) (hm9 : m9 ≤ 6) (hPa : paAt cQ ad F 17 n9 m9) (a : Nat → Int32) (n : Nat) (hn60 : n ≤ 60) (hT : gtAt cI ad F 67 a n) (c6 b6 v6 : Nat → Int32) (hM6 : matAt cI ad F 69 c6 b6 v6) (a7 d7 q7 : Nat → Int32) (hO : roAt cI ad F 73 a7 d7 q7) (hs : Bool) (hC : F 0 = .inr (5, [.ref (ad 1), .ref (ad 9), .ref (ad 17), .ref (ad 67), .ref (ad 69), .ref (ad 73), .int (bI hs)])) (x : Int32) (w : Nat) (hxw : x = nI w) (hw : w < 16) (d : Int32) (k9 : Int32) (f : Nat) (hkf : k9 = nI f) (hf : 1 ≤ f ∧ f ≤ 9) : MX l yX5_tryFlight (Cond.code yX5_tryFlight cX5_tryFlight 5 none :: AW) ({ frames := 3, cells := 0, slots := 0, locals := 68 } : Room) D cI cQ cL ad N F [.ref (ad 0), .int x, .int d, .int k9] (dp none (mSet cI F 69 (mov1 c b v w (rest9 w (ldg (c w) d (stp w f)))) (mov2 c b v w (rest9 w (ldg (c w) d (stp w f)))) (mov3 c b v w (rest9 w (ldg (c w) d (stp w f)))))) 0 0 := by
  refine mx_v (by decide +kernel) rfl (Nat.le_of_ble_eq_true rfl) (fun p e s m below meth cd Q ls hx hb hml hown hts hDi hP hK hNW hS hret hl => ?_)
  have hown : s.vm.findClass RX5 = some m.cls := hown
  subst hxw
  subst hkf
  have hst : stp w f < 2 ^ 31 := by unfold stp; split <;> omega
  have hz0 : 0 < N := by omega
  have hz1 : 1 < N := by omega
  have hz1___1 : 1 + 1 < N := by omega
  have hz1___1___1 : 1 + 1 + 1 < N := by omega
  have hz1___1___2 : 1 + 1 + 2 < N := by omega
  have hz1___1___3 : 1 + 1 + 3 < N := by omega
  have hz1___5 : 1 + 5 < N := by omega
  have hz1___6 : 1 + 6 < N := by omega
  have hz1___7 : 1 + 7 < N := by omega
  have hz9 : 9 < N := by omega
  have hz17 : 17 < N := by omega
  have hz17___1 : 17 + 1 < N := by omega
  have hz67 : 67 < N := by omega
  have hz67___1 : 67 + 1 < N := by omega
  have hz69 : 69 < N := by omega
  have hz69___1 : 69 + 1 < N := by omega
  have hz69___2 : 69 + 2 < N := by omega
  have hz69___3 : 69 + 3 < N := by omega
  have hz73 : 73 < N := by omega
  have hz1___1___3 : 1 + 1 + 3 < N := by omega
  have hz69___3 : 69 + 3 < N := by omega
  have hl : lv_has ls 5 [(0, .ref (ad 0)), (1, .int (nI w)), (2, .int d), (3, .int (nI f))] := hl
  refine lv_aload_n hx hb (dk kX5_tryFlight_ok 0 rfl) rfl (lv_at hl 0 rfl) ?_
  refine gf hx hb hts (fun w h => List.mem_cons_of_mem _ (acX5 w h)) hown hK hP hz0 hC rfl 4 (by decide) (hts _ (List.mem_cons_of_mem _ (ac8 _ (List.mem_of_getElem? (i := 7) rfl)))) (fun _ h => h) rfl (dk kX5_tryFlight_ok 1 rfl) ?_
  refine lv_aload_n hx hb (dk kX5_tryFlight_ok 2 rfl) rfl (lv_at hl 0 rfl) ?_
  refine gf hx hb hts (fun w h => List.mem_cons_of_mem _ (acX5 w h)) hown hK hP hz0 hC rfl 0 (by decide) (hts _ (List.mem_cons_of_mem _ (ac7 _ (List.mem_of_getElem? (i := 21) rfl)))) (fun _ h => h) rfl (dk kX5_tryFlight_ok 3 rfl) ?_
  refine gfN hx hb hts (fun w h => List.mem_cons_of_mem _ (acX4 w h)) hown hK hP hz1 hN.1 rfl 0 (by decide) (nf2 hNW) (fun _ h => h) rfl (dk kX5_tryFlight_ok 4 rfl) ?_
  refine cvDv (As := [.ref (ad (1 + 1))]) (rest := []) (mSet cI F 69 c b v) ⟨hx, hb, hml, hown, hts⟩ (tX1_copyFrom l D cI cQ cL ad N F 69 (by omega) c6 b6 v6 hM6 (1 + 1) (by omega) (by omega) c b v hN.2.1) (cwV9 1 hts mcX1_copyFrom (ac14 _ (List.mem_of_getElem? (i := 8) rfl)) miX1_copyFrom meX1_copyFrom mini_RX1 rfl rfl hdX1_copyFrom ⟨Nat.le_of_ble_eq_true rfl, Nat.le_of_ble_eq_true rfl⟩) hDi hK hP hNW hS hz69 hM6.1 rfl rfl hl.1 rfl (Nat.le_of_ble_eq_true rfl) (by decide) (dk kX5_tryFlight_ok 5 rfl) rfl (fun H locs hP hS => ?_)
  refine lv_aload_n hx hb (dk kX5_tryFlight_ok 6 rfl) rfl (lv_at hl 0 rfl) ?_
  refine gf hx hb hts (fun w h => List.mem_cons_of_mem _ (acX5 w h)) hown hK hP hz0 ((mSet_out (by omega)).trans hC) rfl 4 (by decide) (hts _ (List.mem_cons_of_mem _ (ac8 _ (List.mem_of_getElem? (i := 7) rfl)))) (fun _ h => h) rfl (dk kX5_tryFlight_ok 7 rfl) ?_
  refine gfN hx hb hts (fun w h => List.mem_cons_of_mem _ (acX1 w h)) hown hK hP hz69 (mSet_at hM6).1 rfl 0 (by decide) (nf1 hNW) (fun _ h => h) rfl (dk kX5_tryFlight_ok 8 rfl) ?_
  refine lv_iload_n hx hb (dk kX5_tryFlight_ok 9 rfl) rfl (lv_at hl 1 rfl) ?_
  refine ald (j := w) hx hb hK hP hz69___1 (mSet_at hM6).2.1 rfl (by omega) (by decide) (dk kX5_tryFlight_ok 10 rfl) ?_
  refine lv_iload_n hx hb (dk kX5_tryFlight_ok 11 rfl) rfl (lv_at hl 2 rfl) ?_
  refine lv_iload_n hx hb (dk kX5_tryFlight_ok 12 rfl) rfl (lv_at hl 1 rfl) ?_
  refine lv_iload_n hx hb (dk kX5_tryFlight_ok 13 rfl) rfl (lv_at hl 3 rfl) ?_
  refine csP (As := [.int (nI w), .int (nI f)]) (rest := [.int d, .int (c w)]) ⟨hx, hb, hml, hown, hts⟩ (tX5_stepsOf l (nI w) w rfl (by omega) (nI f) f rfl (by omega)) (cwS9 2 hts mcX5_stepsOf (ac14 _ (List.mem_of_getElem? (i := 5) rfl)) msX5_stepsOf mini_RX5 rfl rfl hdX5_stepsOf ⟨Nat.le_of_ble_eq_true rfl, Nat.le_of_ble_eq_true rfl⟩) rfl hl.1 rfl (Nat.le_of_ble_eq_true rfl) (by decide) (dk kX5_tryFlight_ok 14 rfl) ?_
  refine csP (As := [.int (c w), .int d, .int (nI (stp w f))]) (rest := []) ⟨hx, hb, hml, hown, hts⟩ (tX5_landing l (c w) d (nI (stp w f)) (stp w f) rfl (by omega)) (cwS9 3 hts mcX5_landing (ac14 _ (List.mem_of_getElem? (i := 6) rfl)) msX5_landing mini_RX5 rfl rfl hdX5_landing ⟨Nat.le_of_ble_eq_true rfl, Nat.le_of_ble_eq_true rfl⟩) rfl hl.1 rfl (Nat.le_of_ble_eq_true rfl) (by decide) (dk kX5_tryFlight_ok 15 rfl) ?_
  refine lv_istore (lv' := [(4, .int (ldg (c w) d (stp w f))), (0, .ref (ad 0)), (1, .int (nI w)), (2, .int d), (3, .int (nI f))]) hx hb (dk kX5_tryFlight_ok 16 rfl) hl (by decide) rfl (fun ls hl => ?_)
  refine lv_aload_n hx hb (dk kX5_tryFlight_ok 17 rfl) rfl (lv_at hl 1 rfl) ?_
  refine gf hx hb hts (fun w h => List.mem_cons_of_mem _ (acX5 w h)) hown hK hP hz0 ((mSet_out (by omega)).trans hC) rfl 4 (by decide) (hts _ (List.mem_cons_of_mem _ (ac8 _ (List.mem_of_getElem? (i := 7) rfl)))) (fun _ h => h) rfl (dk kX5_tryFlight_ok 18 rfl) ?_
  refine lv_iload_n hx hb (dk kX5_tryFlight_ok 19 rfl) rfl (lv_at hl 2 rfl) ?_
  refine lv_iload_n hx hb (dk kX5_tryFlight_ok 20 rfl) rfl (lv_at hl 2 rfl) ?_
  refine lv_iload hx hb (dk kX5_tryFlight_ok 21 rfl) (lv_at hl 0 rfl) ?_
  refine csP (As := [.int (nI w), .int (ldg (c w) d (stp w f))]) (rest := [.int (nI w), .ref (ad 69)]) ⟨hx, hb, hml, hown, hts⟩ (tX5_restingCell l (nI w) w rfl (by omega) (ldg (c w) d (stp w f))) (cwS9 2 hts mcX5_restingCell (ac14 _ (List.mem_of_getElem? (i := 9) rfl)) msX5_restingCell mini_RX5 rfl rfl hdX5_restingCell ⟨Nat.le_of_ble_eq_true rfl, Nat.le_of_ble_eq_true rfl⟩) rfl hl.1 rfl (Nat.le_of_ble_eq_true rfl) (by decide) (dk kX5_tryFlight_ok 22 rfl) ?_
  refine cvDv (As := [.int (nI w), .int (rest9 w (ldg (c w) d (stp w f)))]) (rest := []) (mSet cI F 69 (mov1 c b v w (rest9 w (ldg (c w) d (stp w f)))) (mov2 c b v w (rest9 w (ldg (c w) d (stp w f)))) (mov3 c b v w (rest9 w (ldg (c w) d (stp w f))))) ⟨hx, hb, hml, hown, hts⟩ (tX1_move l D cI cQ cL ad N (mSet cI F 69 c b v) 69 (by omega) c b v (mSet_at hM6) (nI w) w rfl (by omega) (rest9 w (ldg (c w) d (stp w f)))) (cwV9 2 hts mcX1_move (ac10 _ (List.mem_of_getElem? (i := 17) rfl)) miX1_move meX1_move mini_RX1 rfl rfl hdX1_move ⟨Nat.le_of_ble_eq_true rfl, Nat.le_of_ble_eq_true rfl⟩) hDi hK hP hNW hS hz69 (mSet_at hM6).1 rfl rfl hl.1 rfl (Nat.le_of_ble_eq_true rfl) (by decide) (dk kX5_tryFlight_ok 23 rfl) mSet_mSet (fun H locs hP hS => ?_)
  exact hret _ _ _ _ _ _ _ (by exact ⟨rfl, rfl⟩) hP hS (by decide) (by decide) (dk kX5_tryFlight_ok 24 rfl)
