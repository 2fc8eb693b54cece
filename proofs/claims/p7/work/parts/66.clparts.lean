theorem cod_at {a : Nat → Int32} {n i : Nat} (h : i < n) : cod a n i = a i := by unfold cod; rw [if_pos h]
set_option maxRecDepth 100000 in
set_option maxHeartbeats 4000000 in
theorem tX5_doFlightPart (l : Launch) (D : va_G) (cI cQ cL : ClassId) (ad : Nat → Nat) (N : Nat) (F : Nat → va_E) (hk : 76 < N) (c b v g h j : Nat → Int32) (t : Nat) (u z : Int32) (hN : stAt cI ad F 1 c b v g h j (nI t) u z) (a : Nat → Int32) (n : Nat) (hn60 : n ≤ 60) (hT : gtAt cI ad F 67 a n) (hs : Bool) (hC : F 0 = .inr (5, [.ref (ad 1), .ref (ad 9), .ref (ad 17), .ref (ad 67), .ref (ad 69), .ref (ad 73), .int (bI hs)])) (ht : t < 4) (k : Nat) (hkn : k + 3 < n) (e9 d f : Nat) (he : e9 < 4) (hd : d < 8) (hf : 1 ≤ f ∧ f ≤ 9) (h1 : a (k + 1) = nI (48 + e9)) (h2 : a (k + 2) = nI (48 + d)) (h3 : a (k + 3) = nI (48 + f)) (hwn : wnf c v t (4 * t + e9) = 0) : MX l yX5_doFlightPart (Cond.code yX5_doFlightPart cX5_doFlightPart 3 (some .boolean) :: AW) ({ frames := 4, cells := 0, slots := 0, locals := 93 } : Room) D cI cQ cL ad N F [.ref (ad 0), .int (nI k)] (dp (some (.int (nI 1))) (sSet cI ad F 1 (mov1 c b v (4 * t + e9) (rest9 (4 * t + e9) (flE c (4 * t + e9) (nI d) f))) (mov2 c b v (4 * t + e9) (rest9 (4 * t + e9) (flE c (4 * t + e9) (nI d) f))) (mov3 c b v (4 * t + e9) (rest9 (4 * t + e9) (flE c (4 * t + e9) (nI d) f))) (upd g (4 * t + e9) (g (4 * t + e9) + nI 1)) (flH h (4 * t + e9) (flE c (4 * t + e9) (nI d) f)) ((flP (mov1 c b v (4 * t + e9) (rest9 (4 * t + e9) (flE c (4 * t + e9) (nI d) f))) t (4 * t + e9) (flE c (4 * t + e9) (nI d) f) (flH j (4 * t + e9) (flE c (4 * t + e9) (nI d) f))).1) (nI ((flP (mov1 c b v (4 * t + e9) (rest9 (4 * t + e9) (flE c (4 * t + e9) (nI d) f))) t (4 * t + e9) (flE c (4 * t + e9) (nI d) f) (flH j (4 * t + e9) (flE c (4 * t + e9) (nI d) f))).2)) u z)) 0 0 := by
  refine mx_i (ty := .boolean) (by decide +kernel) rfl (Nat.le_of_ble_eq_true rfl) (fun p e s m below meth cd Q ls hx hb hml hown hts hDi hP hK hNW hS hret hl => ?_)
  have hown : s.vm.findClass RX5 = some m.cls := hown
  have k1 : cod a n (k + 1) = nI (48 + e9) := (cod_at (by omega)).trans h1
  have k2 : cod a n (k + 2) = nI (48 + d) := (cod_at (by omega)).trans h2
  have k3 : cod a n (k + 3) = nI (48 + f) := (cod_at (by omega)).trans h3
  have hl : lv_has ls 3 [(0, .ref (ad 0)), (1, .int (nI k))] := hl
  refine lv_iconst (v := nI 4) hx hb (dk kX5_doFlightPart_ok 0 rfl) rfl ?_
  refine lv_aload_n hx hb (dk kX5_doFlightPart_ok 1 rfl) rfl (lv_at hl 0 rfl) ?_
  refine gf hx hb hts (fun w h => List.mem_cons_of_mem _ (acX5 w h)) hown hK hP (by omega) hC rfl 0 (by decide) (hts _ (List.mem_cons_of_mem _ (ac7 _ (List.mem_of_getElem? (i := 21) rfl)))) (fun _ h => h) rfl (dk kX5_doFlightPart_ok 2 rfl) ?_
  refine gfN hx hb hts (fun w h => List.mem_cons_of_mem _ (acX4 w h)) hown hK hP (by omega) hN.1 rfl 4 (by decide) (nf6 hNW) (fun _ h => h) rfl (dk kX5_doFlightPart_ok 3 rfl) ?_
  refine n_imul hx hb (dk kX5_doFlightPart_ok 4 rfl) ?_
  refine lv_aload_n hx hb (dk kX5_doFlightPart_ok 5 rfl) rfl (lv_at hl 0 rfl) ?_
  refine gf hx hb hts (fun w h => List.mem_cons_of_mem _ (acX5 w h)) hown hK hP (by omega) hC rfl 3 (by decide) (hts _ (List.mem_cons_of_mem _ (ac8 _ (List.mem_of_getElem? (i := 5) rfl)))) (fun _ h => h) rfl (dk kX5_doFlightPart_ok 6 rfl) ?_
  refine lv_iload_n hx hb (dk kX5_doFlightPart_ok 7 rfl) rfl (lv_at hl 1 rfl) ?_
  refine lv_iconst (v := nI 1) hx hb (dk kX5_doFlightPart_ok 8 rfl) rfl ?_
  refine n_iadd hx hb (dk kX5_doFlightPart_ok 9 rfl) ?_
  refine cvR (As := [.int (nI (k + 1))]) (rest := [.int (nI (4 * t))]) ⟨hx, hb, hml, hown, hts⟩ (tX0_codeAt l D cI cQ cL ad N F 67 (by omega) a n hn60 hT (nI (k + 1)) (k + 1) rfl (by omega)) (cwV9 1 hts mcX0_codeAt (ac11 _ (List.mem_of_getElem? (i := 2) rfl)) miX0_codeAt meX0_codeAt mini_RX0 rfl rfl hdX0_codeAt ⟨Nat.le_of_ble_eq_true rfl, Nat.le_of_ble_eq_true rfl⟩) hK hP hNW (by omega) hT.1 rfl rfl hl.1 rfl (Nat.le_of_ble_eq_true rfl) ⟨Nat.le_of_ble_eq_true rfl, Nat.le_of_ble_eq_true rfl⟩ (dk kX5_doFlightPart_ok 10 rfl) ?_
  rw [k1]
  refine n_iadd hx hb (dk kX5_doFlightPart_ok 11 rfl) ?_
  refine lv_bipush (v := nI 48) hx hb (dk kX5_doFlightPart_ok 12 rfl) rfl ?_
  refine n_isub hx hb (by omega) (dk kX5_doFlightPart_ok 13 rfl) ?_
  rw [show 4 * t + (48 + e9) - 48 = 4 * t + e9 by omega]
  refine lv_istore_n (lv' := [(2, .int (nI (4 * t + e9))), (0, .ref (ad 0)), (1, .int (nI k))]) hx hb (dk kX5_doFlightPart_ok 14 rfl) rfl hl (by decide) rfl (fun ls hl => ?_)
  refine lv_iload_n hx hb (dk kX5_doFlightPart_ok 15 rfl) rfl (lv_at hl 0 rfl) ?_
  refine csP (As := [.int (nI (4 * t + e9))]) (rest := []) ⟨hx, hb, hml, hown, hts⟩ (tX5_isWink l (nI (4 * t + e9))) (cwS9 1 hts mcX5_isWink (ac8 _ (List.mem_of_getElem? (i := 22) rfl)) msX5_isWink mini_RX5 rfl rfl hdX5_isWink ⟨Nat.le_of_ble_eq_true rfl, Nat.le_of_ble_eq_true rfl⟩) rfl hl.1 rfl (Nat.le_of_ble_eq_true rfl) ⟨Nat.le_of_ble_eq_true rfl, Nat.le_of_ble_eq_true rfl⟩ (dk kX5_doFlightPart_ok 16 rfl) ?_
  rw [wk_nI (show 4 * t + e9 < 16 by omega)]
  refine b_if_eq (tgt := 42) hx hb (dk kX5_doFlightPart_ok 17 rfl) (by decide) (fun h9 => nomatch h9) (fun _ => ?_)
  refine lv_aload_n hx hb (dk kX5_doFlightPart_ok 18 rfl) rfl (lv_at hl 1 rfl) ?_
  refine gf hx hb hts (fun w h => List.mem_cons_of_mem _ (acX5 w h)) hown hK hP (by omega) hC rfl 0 (by decide) (hts _ (List.mem_cons_of_mem _ (ac7 _ (List.mem_of_getElem? (i := 21) rfl)))) (fun _ h => h) rfl (dk kX5_doFlightPart_ok 19 rfl) ?_
  refine lv_iload_n hx hb (dk kX5_doFlightPart_ok 20 rfl) rfl (lv_at hl 0 rfl) ?_
  refine cvR (As := [.int (nI (4 * t + e9))]) (rest := []) ⟨hx, hb, hml, hown, hts⟩ (tX4_whyNotFlown l D cI cQ cL ad N F 1 (by omega) c b v g h j t u z hN ht (nI (4 * t + e9)) (4 * t + e9) rfl (by omega)) (cwV9 1 hts mcX4_whyNotFlown (ac9 _ (List.mem_of_getElem? (i := 12) rfl)) miX4_whyNotFlown meX4_whyNotFlown mini_RX4 rfl rfl hdX4_whyNotFlown ⟨Nat.le_of_ble_eq_true rfl, Nat.le_of_ble_eq_true rfl⟩) hK hP hNW (by omega) hN.1 rfl rfl hl.1 rfl (Nat.le_of_ble_eq_true rfl) ⟨Nat.le_of_ble_eq_true rfl, Nat.le_of_ble_eq_true rfl⟩ (dk kX5_doFlightPart_ok 21 rfl) ?_
  refine n_if_eq (tgt := 44) hx hb (by have q1 := wnf_le c v t (4 * t + e9); omega) (dk kX5_doFlightPart_ok 22 rfl) (by decide) (fun _ => ?_) (fun h9 => absurd hwn h9)
  refine lv_aload_n hx hb (dk kX5_doFlightPart_ok 25 rfl) rfl (lv_at hl 1 rfl) ?_
  refine gf hx hb hts (fun w h => List.mem_cons_of_mem _ (acX5 w h)) hown hK hP (by omega) hC rfl 0 (by decide) (hts _ (List.mem_cons_of_mem _ (ac7 _ (List.mem_of_getElem? (i := 21) rfl)))) (fun _ h => h) rfl (dk kX5_doFlightPart_ok 26 rfl) ?_
  refine lv_iload_n hx hb (dk kX5_doFlightPart_ok 27 rfl) rfl (lv_at hl 0 rfl) ?_
  refine lv_aload_n hx hb (dk kX5_doFlightPart_ok 28 rfl) rfl (lv_at hl 1 rfl) ?_
  refine gf hx hb hts (fun w h => List.mem_cons_of_mem _ (acX5 w h)) hown hK hP (by omega) hC rfl 3 (by decide) (hts _ (List.mem_cons_of_mem _ (ac8 _ (List.mem_of_getElem? (i := 5) rfl)))) (fun _ h => h) rfl (dk kX5_doFlightPart_ok 29 rfl) ?_
  refine lv_iload_n hx hb (dk kX5_doFlightPart_ok 30 rfl) rfl (lv_at hl 2 rfl) ?_
  refine lv_iconst (v := nI 2) hx hb (dk kX5_doFlightPart_ok 31 rfl) rfl ?_
  refine n_iadd hx hb (dk kX5_doFlightPart_ok 32 rfl) ?_
  refine cvR (As := [.int (nI (k + 2))]) (rest := [.int (nI (4 * t + e9)), .ref (ad 1)]) ⟨hx, hb, hml, hown, hts⟩ (tX0_codeAt l D cI cQ cL ad N F 67 (by omega) a n hn60 hT (nI (k + 2)) (k + 2) rfl (by omega)) (cwV9 1 hts mcX0_codeAt (ac11 _ (List.mem_of_getElem? (i := 2) rfl)) miX0_codeAt meX0_codeAt mini_RX0 rfl rfl hdX0_codeAt ⟨Nat.le_of_ble_eq_true rfl, Nat.le_of_ble_eq_true rfl⟩) hK hP hNW (by omega) hT.1 rfl rfl hl.1 rfl (Nat.le_of_ble_eq_true rfl) ⟨Nat.le_of_ble_eq_true rfl, Nat.le_of_ble_eq_true rfl⟩ (dk kX5_doFlightPart_ok 33 rfl) ?_
  rw [k2]
  refine lv_bipush (v := nI 48) hx hb (dk kX5_doFlightPart_ok 34 rfl) rfl ?_
  refine n_isub hx hb (by omega) (dk kX5_doFlightPart_ok 35 rfl) ?_
  rw [show 48 + d - 48 = d by omega]
  refine lv_aload_n hx hb (dk kX5_doFlightPart_ok 36 rfl) rfl (lv_at hl 1 rfl) ?_
  refine gf hx hb hts (fun w h => List.mem_cons_of_mem _ (acX5 w h)) hown hK hP (by omega) hC rfl 3 (by decide) (hts _ (List.mem_cons_of_mem _ (ac8 _ (List.mem_of_getElem? (i := 5) rfl)))) (fun _ h => h) rfl (dk kX5_doFlightPart_ok 37 rfl) ?_
  refine lv_iload_n hx hb (dk kX5_doFlightPart_ok 38 rfl) rfl (lv_at hl 2 rfl) ?_
  refine lv_iconst (v := nI 3) hx hb (dk kX5_doFlightPart_ok 39 rfl) rfl ?_
  refine n_iadd hx hb (dk kX5_doFlightPart_ok 40 rfl) ?_
  refine cvR (As := [.int (nI (k + 3))]) (rest := [.int (nI d), .int (nI (4 * t + e9)), .ref (ad 1)]) ⟨hx, hb, hml, hown, hts⟩ (tX0_codeAt l D cI cQ cL ad N F 67 (by omega) a n hn60 hT (nI (k + 3)) (k + 3) rfl (by omega)) (cwV9 1 hts mcX0_codeAt (ac11 _ (List.mem_of_getElem? (i := 2) rfl)) miX0_codeAt meX0_codeAt mini_RX0 rfl rfl hdX0_codeAt ⟨Nat.le_of_ble_eq_true rfl, Nat.le_of_ble_eq_true rfl⟩) hK hP hNW (by omega) hT.1 rfl rfl hl.1 rfl (Nat.le_of_ble_eq_true rfl) ⟨Nat.le_of_ble_eq_true rfl, Nat.le_of_ble_eq_true rfl⟩ (dk kX5_doFlightPart_ok 41 rfl) ?_
  rw [k3]
  refine lv_bipush (v := nI 48) hx hb (dk kX5_doFlightPart_ok 42 rfl) rfl ?_
  refine n_isub hx hb (by omega) (dk kX5_doFlightPart_ok 43 rfl) ?_
  rw [show 48 + f - 48 = f by omega]
  refine cvD (As := [.int (nI (4 * t + e9)), .int (nI d), .int (nI f)]) (rest := []) (sSet cI ad F 1 (mov1 c b v (4 * t + e9) (rest9 (4 * t + e9) (flE c (4 * t + e9) (nI d) f))) (mov2 c b v (4 * t + e9) (rest9 (4 * t + e9) (flE c (4 * t + e9) (nI d) f))) (mov3 c b v (4 * t + e9) (rest9 (4 * t + e9) (flE c (4 * t + e9) (nI d) f))) (upd g (4 * t + e9) (g (4 * t + e9) + nI 1)) (flH h (4 * t + e9) (flE c (4 * t + e9) (nI d) f)) ((flP (mov1 c b v (4 * t + e9) (rest9 (4 * t + e9) (flE c (4 * t + e9) (nI d) f))) t (4 * t + e9) (flE c (4 * t + e9) (nI d) f) (flH j (4 * t + e9) (flE c (4 * t + e9) (nI d) f))).1) (nI ((flP (mov1 c b v (4 * t + e9) (rest9 (4 * t + e9) (flE c (4 * t + e9) (nI d) f))) t (4 * t + e9) (flE c (4 * t + e9) (nI d) f) (flH j (4 * t + e9) (flE c (4 * t + e9) (nI d) f))).2)) u z) ⟨hx, hb, hml, hown, hts⟩ (tX4_carryOutFlight l D cI cQ cL ad N F 1 (by omega) c b v g h j t u z hN ht (nI (4 * t + e9)) (4 * t + e9) rfl (by omega) (nI d) (nI f) f rfl (by omega)) (cwV9 3 hts mcX4_carryOutFlight (ac9 _ (List.mem_of_getElem? (i := 20) rfl)) miX4_carryOutFlight meX4_carryOutFlight mini_RX4 rfl rfl hdX4_carryOutFlight ⟨Nat.le_of_ble_eq_true rfl, Nat.le_of_ble_eq_true rfl⟩) hDi hK hP hNW hS (by omega) hN.1 rfl rfl hl.1 rfl (Nat.le_of_ble_eq_true rfl) ⟨Nat.le_of_ble_eq_true rfl, Nat.le_of_ble_eq_true rfl⟩ (dk kX5_doFlightPart_ok 44 rfl) rfl (fun H locs hP hS => ?_)
  refine lv_pop hx hb (dk kX5_doFlightPart_ok 45 rfl) rfl ?_
  refine lv_iconst (v := nI 1) hx hb (dk kX5_doFlightPart_ok 46 rfl) rfl ?_
  exact hret _ _ _ _ _ _ _ _ rfl ⟨rfl, rfl⟩ hP hS (by decide) (by decide) (dk kX5_doFlightPart_ok 47 rfl)
set_option maxRecDepth 100000 in
set_option maxHeartbeats 4000000 in
theorem tX5_doFlightPartX (l : Launch) (D : va_G) (cI cQ cL : ClassId) (ad : Nat → Nat) (N : Nat) (F : Nat → va_E) (hk : 76 < N) (c b v g h j : Nat → Int32) (t : Nat) (u z : Int32) (hN : stAt cI ad F 1 c b v g h j (nI t) u z) (a : Nat → Int32) (n : Nat) (hn60 : n ≤ 60) (hT : gtAt cI ad F 67 a n) (hs : Bool) (hC : F 0 = .inr (5, [.ref (ad 1), .ref (ad 9), .ref (ad 17), .ref (ad 67), .ref (ad 69), .ref (ad 73), .int (bI hs)])) (ht : t < 4) (k : Nat) (hkn : k + 3 < n) (e9 d f : Nat) (he : e9 < 4) (hd : d < 8) (hf : 1 ≤ f ∧ f ≤ 9) (h1 : a (k + 1) = nI (48 + e9)) (h2 : a (k + 2) = nI (48 + d)) (h3 : a (k + 3) = nI (48 + f)) (hwn : wnf c v t (4 * t + e9) ≠ 0) : MR l yX5_doFlightPart (Cond.code yX5_doFlightPart cX5_doFlightPart 3 (some .boolean) :: AW) ({ frames := 4, cells := 0, slots := 0, locals := 93 } : Room) D cI cQ cL ad N F [.ref (ad 0), .int (nI k)] (.int (nI 0)) := by
  refine mr_i (ty := .boolean) (by decide +kernel) rfl rfl rfl rfl (Nat.le_of_ble_eq_true rfl) (fun p e s m below meth cd Q ls hx hb hml hown hts hP hK hNW hret hl => ?_)
  have hown : s.vm.findClass RX5 = some m.cls := hown
  have k1 : cod a n (k + 1) = nI (48 + e9) := (cod_at (by omega)).trans h1
  have k2 : cod a n (k + 2) = nI (48 + d) := (cod_at (by omega)).trans h2
  have k3 : cod a n (k + 3) = nI (48 + f) := (cod_at (by omega)).trans h3
  have hl : lv_has ls 3 [(0, .ref (ad 0)), (1, .int (nI k))] := hl
  refine lv_iconst (v := nI 4) hx hb (dk kX5_doFlightPart_ok 0 rfl) rfl ?_
  refine lv_aload_n hx hb (dk kX5_doFlightPart_ok 1 rfl) rfl (lv_at hl 0 rfl) ?_
  refine gf hx hb hts (fun w h => List.mem_cons_of_mem _ (acX5 w h)) hown hK hP (by omega) hC rfl 0 (by decide) (hts _ (List.mem_cons_of_mem _ (ac7 _ (List.mem_of_getElem? (i := 21) rfl)))) (fun _ h => h) rfl (dk kX5_doFlightPart_ok 2 rfl) ?_
  refine gfN hx hb hts (fun w h => List.mem_cons_of_mem _ (acX4 w h)) hown hK hP (by omega) hN.1 rfl 4 (by decide) (nf6 hNW) (fun _ h => h) rfl (dk kX5_doFlightPart_ok 3 rfl) ?_
  refine n_imul hx hb (dk kX5_doFlightPart_ok 4 rfl) ?_
  refine lv_aload_n hx hb (dk kX5_doFlightPart_ok 5 rfl) rfl (lv_at hl 0 rfl) ?_
  refine gf hx hb hts (fun w h => List.mem_cons_of_mem _ (acX5 w h)) hown hK hP (by omega) hC rfl 3 (by decide) (hts _ (List.mem_cons_of_mem _ (ac8 _ (List.mem_of_getElem? (i := 5) rfl)))) (fun _ h => h) rfl (dk kX5_doFlightPart_ok 6 rfl) ?_
  refine lv_iload_n hx hb (dk kX5_doFlightPart_ok 7 rfl) rfl (lv_at hl 1 rfl) ?_
  refine lv_iconst (v := nI 1) hx hb (dk kX5_doFlightPart_ok 8 rfl) rfl ?_
  refine n_iadd hx hb (dk kX5_doFlightPart_ok 9 rfl) ?_
  refine cvR (As := [.int (nI (k + 1))]) (rest := [.int (nI (4 * t))]) ⟨hx, hb, hml, hown, hts⟩ (tX0_codeAt l D cI cQ cL ad N F 67 (by omega) a n hn60 hT (nI (k + 1)) (k + 1) rfl (by omega)) (cwV9 1 hts mcX0_codeAt (ac11 _ (List.mem_of_getElem? (i := 2) rfl)) miX0_codeAt meX0_codeAt mini_RX0 rfl rfl hdX0_codeAt ⟨Nat.le_of_ble_eq_true rfl, Nat.le_of_ble_eq_true rfl⟩) hK hP hNW (by omega) hT.1 rfl rfl hl.1 rfl (Nat.le_of_ble_eq_true rfl) ⟨Nat.le_of_ble_eq_true rfl, Nat.le_of_ble_eq_true rfl⟩ (dk kX5_doFlightPart_ok 10 rfl) ?_
  rw [k1]
  refine n_iadd hx hb (dk kX5_doFlightPart_ok 11 rfl) ?_
  refine lv_bipush (v := nI 48) hx hb (dk kX5_doFlightPart_ok 12 rfl) rfl ?_
  refine n_isub hx hb (by omega) (dk kX5_doFlightPart_ok 13 rfl) ?_
  rw [show 4 * t + (48 + e9) - 48 = 4 * t + e9 by omega]
  refine lv_istore_n (lv' := [(2, .int (nI (4 * t + e9))), (0, .ref (ad 0)), (1, .int (nI k))]) hx hb (dk kX5_doFlightPart_ok 14 rfl) rfl hl (by decide) rfl (fun ls hl => ?_)
  refine lv_iload_n hx hb (dk kX5_doFlightPart_ok 15 rfl) rfl (lv_at hl 0 rfl) ?_
  refine csP (As := [.int (nI (4 * t + e9))]) (rest := []) ⟨hx, hb, hml, hown, hts⟩ (tX5_isWink l (nI (4 * t + e9))) (cwS9 1 hts mcX5_isWink (ac8 _ (List.mem_of_getElem? (i := 22) rfl)) msX5_isWink mini_RX5 rfl rfl hdX5_isWink ⟨Nat.le_of_ble_eq_true rfl, Nat.le_of_ble_eq_true rfl⟩) rfl hl.1 rfl (Nat.le_of_ble_eq_true rfl) ⟨Nat.le_of_ble_eq_true rfl, Nat.le_of_ble_eq_true rfl⟩ (dk kX5_doFlightPart_ok 16 rfl) ?_
  rw [wk_nI (show 4 * t + e9 < 16 by omega)]
  refine b_if_eq (tgt := 42) hx hb (dk kX5_doFlightPart_ok 17 rfl) (by decide) (fun h9 => nomatch h9) (fun _ => ?_)
  refine lv_aload_n hx hb (dk kX5_doFlightPart_ok 18 rfl) rfl (lv_at hl 1 rfl) ?_
  refine gf hx hb hts (fun w h => List.mem_cons_of_mem _ (acX5 w h)) hown hK hP (by omega) hC rfl 0 (by decide) (hts _ (List.mem_cons_of_mem _ (ac7 _ (List.mem_of_getElem? (i := 21) rfl)))) (fun _ h => h) rfl (dk kX5_doFlightPart_ok 19 rfl) ?_
  refine lv_iload_n hx hb (dk kX5_doFlightPart_ok 20 rfl) rfl (lv_at hl 0 rfl) ?_
  refine cvR (As := [.int (nI (4 * t + e9))]) (rest := []) ⟨hx, hb, hml, hown, hts⟩ (tX4_whyNotFlown l D cI cQ cL ad N F 1 (by omega) c b v g h j t u z hN ht (nI (4 * t + e9)) (4 * t + e9) rfl (by omega)) (cwV9 1 hts mcX4_whyNotFlown (ac9 _ (List.mem_of_getElem? (i := 12) rfl)) miX4_whyNotFlown meX4_whyNotFlown mini_RX4 rfl rfl hdX4_whyNotFlown ⟨Nat.le_of_ble_eq_true rfl, Nat.le_of_ble_eq_true rfl⟩) hK hP hNW (by omega) hN.1 rfl rfl hl.1 rfl (Nat.le_of_ble_eq_true rfl) ⟨Nat.le_of_ble_eq_true rfl, Nat.le_of_ble_eq_true rfl⟩ (dk kX5_doFlightPart_ok 21 rfl) ?_
  refine n_if_eq (tgt := 44) hx hb (by have q1 := wnf_le c v t (4 * t + e9); omega) (dk kX5_doFlightPart_ok 22 rfl) (by decide) (fun h9 => absurd h9 hwn) (fun _ => ?_)
  refine lv_iconst (v := nI 0) hx hb (dk kX5_doFlightPart_ok 23 rfl) rfl ?_
  exact hret _ _ _ rfl (dk kX5_doFlightPart_ok 24 rfl)
set_option maxRecDepth 100000 in
set_option maxHeartbeats 4000000 in
theorem tX5_doLiftPart (l : Launch) (D : va_G) (cI cQ cL : ClassId) (ad : Nat → Nat) (N : Nat) (F : Nat → va_E) (hk : 76 < N) (c b v g h j : Nat → Int32) (t : Nat) (u z : Int32) (hN : stAt cI ad F 1 c b v g h j (nI t) u z) (a : Nat → Int32) (n : Nat) (hn60 : n ≤ 60) (hT : gtAt cI ad F 67 a n) (hs : Bool) (hC : F 0 = .inr (5, [.ref (ad 1), .ref (ad 9), .ref (ad 17), .ref (ad 67), .ref (ad 69), .ref (ad 73), .int (bI hs)])) (ht : t < 4) (k : Nat) (hkn : k + 4 < n) (x9 y9 f d : Nat) (hx9 : x9 < 13) (hy9 : y9 < 13) (hf : 1 ≤ f ∧ f ≤ 6) (hd : d < 8) (h1 : a (k + 1) = nI (97 + x9)) (h2 : a (k + 2) = nI (97 + y9)) (h3 : a (k + 3) = nI (48 + f)) (h4 : a (k + 4) = nI (48 + d)) (hwn : wnl c b v t z (nI x9) (nI y9) f (nI d) = 0) : MX l yX5_doLiftPart (Cond.code yX5_doLiftPart cX5_doLiftPart 6 (some .boolean) :: AW) ({ frames := 4, cells := 0, slots := 0, locals := 93 } : Room) D cI cQ cL ad N F [.ref (ad 0), .int (nI k)] (dp (some (.int (nI 1))) (sSet cI ad F 1 (liC c b v (nI x9) (nI y9) f (nI d)) (liB c b v (nI x9) (nI y9) f (nI d)) (liV c b v (nI x9) (nI y9) f (nI d)) g h ((pasg (liC c b v (nI x9) (nI y9) f (nI d)) t 8 j t).1) (nI ((pasg (liC c b v (nI x9) (nI y9) f (nI d)) t 8 j t).2)) (u + nI 1) z)) 0 0 := by
  refine mx_i (ty := .boolean) (by decide +kernel) rfl (Nat.le_of_ble_eq_true rfl) (fun p e s m below meth cd Q ls hx hb hml hown hts hDi hP hK hNW hS hret hl => ?_)
  have hown : s.vm.findClass RX5 = some m.cls := hown
  have k1 : cod a n (k + 1) = nI (97 + x9) := (cod_at (by omega)).trans h1
  have k2 : cod a n (k + 2) = nI (97 + y9) := (cod_at (by omega)).trans h2
  have k3 : cod a n (k + 3) = nI (48 + f) := (cod_at (by omega)).trans h3
  have k4 : cod a n (k + 4) = nI (48 + d) := (cod_at (by omega)).trans h4
  have hl : lv_has ls 6 [(0, .ref (ad 0)), (1, .int (nI k))] := hl
  refine lv_aload_n hx hb (dk kX5_doLiftPart_ok 0 rfl) rfl (lv_at hl 0 rfl) ?_
  refine gf hx hb hts (fun w h => List.mem_cons_of_mem _ (acX5 w h)) hown hK hP (by omega) hC rfl 3 (by decide) (hts _ (List.mem_cons_of_mem _ (ac8 _ (List.mem_of_getElem? (i := 5) rfl)))) (fun _ h => h) rfl (dk kX5_doLiftPart_ok 1 rfl) ?_
  refine lv_iload_n hx hb (dk kX5_doLiftPart_ok 2 rfl) rfl (lv_at hl 1 rfl) ?_
  refine lv_iconst (v := nI 1) hx hb (dk kX5_doLiftPart_ok 3 rfl) rfl ?_
  refine n_iadd hx hb (dk kX5_doLiftPart_ok 4 rfl) ?_
  refine cvR (As := [.int (nI (k + 1))]) (rest := []) ⟨hx, hb, hml, hown, hts⟩ (tX0_codeAt l D cI cQ cL ad N F 67 (by omega) a n hn60 hT (nI (k + 1)) (k + 1) rfl (by omega)) (cwV9 1 hts mcX0_codeAt (ac11 _ (List.mem_of_getElem? (i := 2) rfl)) miX0_codeAt meX0_codeAt mini_RX0 rfl rfl hdX0_codeAt ⟨Nat.le_of_ble_eq_true rfl, Nat.le_of_ble_eq_true rfl⟩) hK hP hNW (by omega) hT.1 rfl rfl hl.1 rfl (Nat.le_of_ble_eq_true rfl) ⟨Nat.le_of_ble_eq_true rfl, Nat.le_of_ble_eq_true rfl⟩ (dk kX5_doLiftPart_ok 5 rfl) ?_
  rw [k1]
  refine lv_bipush (v := nI 97) hx hb (dk kX5_doLiftPart_ok 6 rfl) rfl ?_
  refine n_isub hx hb (by omega) (dk kX5_doLiftPart_ok 7 rfl) ?_
  rw [show 97 + x9 - 97 = x9 by omega]
  refine lv_istore_n (lv' := [(2, .int (nI x9)), (0, .ref (ad 0)), (1, .int (nI k))]) hx hb (dk kX5_doLiftPart_ok 8 rfl) rfl hl (by decide) rfl (fun ls hl => ?_)
  refine lv_aload_n hx hb (dk kX5_doLiftPart_ok 9 rfl) rfl (lv_at hl 1 rfl) ?_
  refine gf hx hb hts (fun w h => List.mem_cons_of_mem _ (acX5 w h)) hown hK hP (by omega) hC rfl 3 (by decide) (hts _ (List.mem_cons_of_mem _ (ac8 _ (List.mem_of_getElem? (i := 5) rfl)))) (fun _ h => h) rfl (dk kX5_doLiftPart_ok 10 rfl) ?_
  refine lv_iload_n hx hb (dk kX5_doLiftPart_ok 11 rfl) rfl (lv_at hl 2 rfl) ?_
  refine lv_iconst (v := nI 2) hx hb (dk kX5_doLiftPart_ok 12 rfl) rfl ?_
  refine n_iadd hx hb (dk kX5_doLiftPart_ok 13 rfl) ?_
  refine cvR (As := [.int (nI (k + 2))]) (rest := []) ⟨hx, hb, hml, hown, hts⟩ (tX0_codeAt l D cI cQ cL ad N F 67 (by omega) a n hn60 hT (nI (k + 2)) (k + 2) rfl (by omega)) (cwV9 1 hts mcX0_codeAt (ac11 _ (List.mem_of_getElem? (i := 2) rfl)) miX0_codeAt meX0_codeAt mini_RX0 rfl rfl hdX0_codeAt ⟨Nat.le_of_ble_eq_true rfl, Nat.le_of_ble_eq_true rfl⟩) hK hP hNW (by omega) hT.1 rfl rfl hl.1 rfl (Nat.le_of_ble_eq_true rfl) ⟨Nat.le_of_ble_eq_true rfl, Nat.le_of_ble_eq_true rfl⟩ (dk kX5_doLiftPart_ok 14 rfl) ?_
  rw [k2]
  refine lv_bipush (v := nI 97) hx hb (dk kX5_doLiftPart_ok 15 rfl) rfl ?_
  refine n_isub hx hb (by omega) (dk kX5_doLiftPart_ok 16 rfl) ?_
  rw [show 97 + y9 - 97 = y9 by omega]
  refine lv_istore_n (lv' := [(3, .int (nI y9)), (2, .int (nI x9)), (0, .ref (ad 0)), (1, .int (nI k))]) hx hb (dk kX5_doLiftPart_ok 17 rfl) rfl hl (by decide) rfl (fun ls hl => ?_)
  refine lv_aload_n hx hb (dk kX5_doLiftPart_ok 18 rfl) rfl (lv_at hl 2 rfl) ?_
  refine gf hx hb hts (fun w h => List.mem_cons_of_mem _ (acX5 w h)) hown hK hP (by omega) hC rfl 3 (by decide) (hts _ (List.mem_cons_of_mem _ (ac8 _ (List.mem_of_getElem? (i := 5) rfl)))) (fun _ h => h) rfl (dk kX5_doLiftPart_ok 19 rfl) ?_
  refine lv_iload_n hx hb (dk kX5_doLiftPart_ok 20 rfl) rfl (lv_at hl 3 rfl) ?_
  refine lv_iconst (v := nI 3) hx hb (dk kX5_doLiftPart_ok 21 rfl) rfl ?_
  refine n_iadd hx hb (dk kX5_doLiftPart_ok 22 rfl) ?_
  refine cvR (As := [.int (nI (k + 3))]) (rest := []) ⟨hx, hb, hml, hown, hts⟩ (tX0_codeAt l D cI cQ cL ad N F 67 (by omega) a n hn60 hT (nI (k + 3)) (k + 3) rfl (by omega)) (cwV9 1 hts mcX0_codeAt (ac11 _ (List.mem_of_getElem? (i := 2) rfl)) miX0_codeAt meX0_codeAt mini_RX0 rfl rfl hdX0_codeAt ⟨Nat.le_of_ble_eq_true rfl, Nat.le_of_ble_eq_true rfl⟩) hK hP hNW (by omega) hT.1 rfl rfl hl.1 rfl (Nat.le_of_ble_eq_true rfl) ⟨Nat.le_of_ble_eq_true rfl, Nat.le_of_ble_eq_true rfl⟩ (dk kX5_doLiftPart_ok 23 rfl) ?_
  rw [k3]
  refine lv_bipush (v := nI 48) hx hb (dk kX5_doLiftPart_ok 24 rfl) rfl ?_
  refine n_isub hx hb (by omega) (dk kX5_doLiftPart_ok 25 rfl) ?_
  rw [show 48 + f - 48 = f by omega]
  refine lv_istore (lv' := [(4, .int (nI f)), (3, .int (nI y9)), (2, .int (nI x9)), (0, .ref (ad 0)), (1, .int (nI k))]) hx hb (dk kX5_doLiftPart_ok 26 rfl) hl (by decide) rfl (fun ls hl => ?_)
  refine lv_aload_n hx hb (dk kX5_doLiftPart_ok 27 rfl) rfl (lv_at hl 3 rfl) ?_
  refine gf hx hb hts (fun w h => List.mem_cons_of_mem _ (acX5 w h)) hown hK hP (by omega) hC rfl 3 (by decide) (hts _ (List.mem_cons_of_mem _ (ac8 _ (List.mem_of_getElem? (i := 5) rfl)))) (fun _ h => h) rfl (dk kX5_doLiftPart_ok 28 rfl) ?_
  refine lv_iload_n hx hb (dk kX5_doLiftPart_ok 29 rfl) rfl (lv_at hl 4 rfl) ?_
  refine lv_iconst (v := nI 4) hx hb (dk kX5_doLiftPart_ok 30 rfl) rfl ?_
  refine n_iadd hx hb (dk kX5_doLiftPart_ok 31 rfl) ?_
  refine cvR (As := [.int (nI (k + 4))]) (rest := []) ⟨hx, hb, hml, hown, hts⟩ (tX0_codeAt l D cI cQ cL ad N F 67 (by omega) a n hn60 hT (nI (k + 4)) (k + 4) rfl (by omega)) (cwV9 1 hts mcX0_codeAt (ac11 _ (List.mem_of_getElem? (i := 2) rfl)) miX0_codeAt meX0_codeAt mini_RX0 rfl rfl hdX0_codeAt ⟨Nat.le_of_ble_eq_true rfl, Nat.le_of_ble_eq_true rfl⟩) hK hP hNW (by omega) hT.1 rfl rfl hl.1 rfl (Nat.le_of_ble_eq_true rfl) ⟨Nat.le_of_ble_eq_true rfl, Nat.le_of_ble_eq_true rfl⟩ (dk kX5_doLiftPart_ok 32 rfl) ?_
  rw [k4]
  refine lv_bipush (v := nI 48) hx hb (dk kX5_doLiftPart_ok 33 rfl) rfl ?_
  refine n_isub hx hb (by omega) (dk kX5_doLiftPart_ok 34 rfl) ?_
  rw [show 48 + d - 48 = d by omega]
  refine lv_istore (lv' := [(5, .int (nI d)), (4, .int (nI f)), (3, .int (nI y9)), (2, .int (nI x9)), (0, .ref (ad 0)), (1, .int (nI k))]) hx hb (dk kX5_doLiftPart_ok 35 rfl) hl (by decide) rfl (fun ls hl => ?_)
  refine lv_aload_n hx hb (dk kX5_doLiftPart_ok 36 rfl) rfl (lv_at hl 4 rfl) ?_
  refine gf hx hb hts (fun w h => List.mem_cons_of_mem _ (acX5 w h)) hown hK hP (by omega) hC rfl 0 (by decide) (hts _ (List.mem_cons_of_mem _ (ac7 _ (List.mem_of_getElem? (i := 21) rfl)))) (fun _ h => h) rfl (dk kX5_doLiftPart_ok 37 rfl) ?_
  refine lv_iload_n hx hb (dk kX5_doLiftPart_ok 38 rfl) rfl (lv_at hl 3 rfl) ?_
  refine lv_iload_n hx hb (dk kX5_doLiftPart_ok 39 rfl) rfl (lv_at hl 2 rfl) ?_
  refine lv_iload hx hb (dk kX5_doLiftPart_ok 40 rfl) (lv_at hl 1 rfl) ?_
  refine lv_iload hx hb (dk kX5_doLiftPart_ok 41 rfl) (lv_at hl 0 rfl) ?_
  refine cvR (As := [.int (nI x9), .int (nI y9), .int (nI f), .int (nI d)]) (rest := []) ⟨hx, hb, hml, hown, hts⟩ (tX4_whyNotLifted l D cI cQ cL ad N F 1 (by omega) c b v g h j t u z hN (nI x9) (nI y9) (nI f) f rfl hf.1 (by omega) (nI d)) (cwV9 4 hts mcX4_whyNotLifted (ac10 _ (List.mem_of_getElem? (i := 6) rfl)) miX4_whyNotLifted meX4_whyNotLifted mini_RX4 rfl rfl hdX4_whyNotLifted ⟨Nat.le_of_ble_eq_true rfl, Nat.le_of_ble_eq_true rfl⟩) hK hP hNW (by omega) hN.1 rfl rfl hl.1 rfl (Nat.le_of_ble_eq_true rfl) ⟨Nat.le_of_ble_eq_true rfl, Nat.le_of_ble_eq_true rfl⟩ (dk kX5_doLiftPart_ok 42 rfl) ?_
  refine n_if_eq (tgt := 76) hx hb (by have q1 := wnl_le c b v t z (nI x9) (nI y9) f (nI d); omega) (dk kX5_doLiftPart_ok 43 rfl) (by decide) (fun _ => ?_) (fun h9 => absurd hwn h9)
  refine lv_aload_n hx hb (dk kX5_doLiftPart_ok 46 rfl) rfl (lv_at hl 4 rfl) ?_
  refine gf hx hb hts (fun w h => List.mem_cons_of_mem _ (acX5 w h)) hown hK hP (by omega) hC rfl 0 (by decide) (hts _ (List.mem_cons_of_mem _ (ac7 _ (List.mem_of_getElem? (i := 21) rfl)))) (fun _ h => h) rfl (dk kX5_doLiftPart_ok 47 rfl) ?_
  refine lv_iload_n hx hb (dk kX5_doLiftPart_ok 48 rfl) rfl (lv_at hl 3 rfl) ?_
  refine lv_iload_n hx hb (dk kX5_doLiftPart_ok 49 rfl) rfl (lv_at hl 2 rfl) ?_
  refine lv_iload hx hb (dk kX5_doLiftPart_ok 50 rfl) (lv_at hl 1 rfl) ?_
  refine lv_iload hx hb (dk kX5_doLiftPart_ok 51 rfl) (lv_at hl 0 rfl) ?_
  refine cvDv (As := [.int (nI x9), .int (nI y9), .int (nI f), .int (nI d)]) (rest := []) (sSet cI ad F 1 (liC c b v (nI x9) (nI y9) f (nI d)) (liB c b v (nI x9) (nI y9) f (nI d)) (liV c b v (nI x9) (nI y9) f (nI d)) g h ((pasg (liC c b v (nI x9) (nI y9) f (nI d)) t 8 j t).1) (nI ((pasg (liC c b v (nI x9) (nI y9) f (nI d)) t 8 j t).2)) (u + nI 1) z) ⟨hx, hb, hml, hown, hts⟩ (tX4_carryOutLift l D cI cQ cL ad N F 1 (by omega) c b v g h j t u z hN ht (nI x9) (nI y9) (nI f) f rfl hf.1 (by omega) (nI d)) (cwV9 4 hts mcX4_carryOutLift (ac10 _ (List.mem_of_getElem? (i := 10) rfl)) miX4_carryOutLift meX4_carryOutLift mini_RX4 rfl rfl hdX4_carryOutLift ⟨Nat.le_of_ble_eq_true rfl, Nat.le_of_ble_eq_true rfl⟩) hDi hK hP hNW hS (by omega) hN.1 rfl rfl hl.1 rfl (Nat.le_of_ble_eq_true rfl) ⟨Nat.le_of_ble_eq_true rfl, Nat.le_of_ble_eq_true rfl⟩ (dk kX5_doLiftPart_ok 52 rfl) rfl (fun H locs hP hS => ?_)
  refine lv_iconst (v := nI 1) hx hb (dk kX5_doLiftPart_ok 53 rfl) rfl ?_
  exact hret _ _ _ _ _ _ _ _ rfl ⟨rfl, rfl⟩ hP hS (by decide) (by decide) (dk kX5_doLiftPart_ok 54 rfl)
set_option maxRecDepth 100000 in
set_option maxHeartbeats 4000000 in
theorem tX5_doLiftPartX (l : Launch) (D : va_G) (cI cQ cL : ClassId) (ad : Nat → Nat) (N : Nat) (F : Nat → va_E) (hk : 76 < N) (c b v g h j : Nat → Int32) (t : Nat) (u z : Int32) (hN : stAt cI ad F 1 c b v g h j (nI t) u z) (a : Nat → Int32) (n : Nat) (hn60 : n ≤ 60) (hT : gtAt cI ad F 67 a n) (hs : Bool) (hC : F 0 = .inr (5, [.ref (ad 1), .ref (ad 9), .ref (ad 17), .ref (ad 67), .ref (ad 69), .ref (ad 73), .int (bI hs)])) (ht : t < 4) (k : Nat) (hkn : k + 4 < n) (x9 y9 f d : Nat) (hx9 : x9 < 13) (hy9 : y9 < 13) (hf : 1 ≤ f ∧ f ≤ 6) (hd : d < 8) (h1 : a (k + 1) = nI (97 + x9)) (h2 : a (k + 2) = nI (97 + y9)) (h3 : a (k + 3) = nI (48 + f)) (h4 : a (k + 4) = nI (48 + d)) (hwn : wnl c b v t z (nI x9) (nI y9) f (nI d) ≠ 0) : MR l yX5_doLiftPart (Cond.code yX5_doLiftPart cX5_doLiftPart 6 (some .boolean) :: AW) ({ frames := 4, cells := 0, slots := 0, locals := 93 } : Room) D cI cQ cL ad N F [.ref (ad 0), .int (nI k)] (.int (nI 0)) := by
  refine mr_i (ty := .boolean) (by decide +kernel) rfl rfl rfl rfl (Nat.le_of_ble_eq_true rfl) (fun p e s m below meth cd Q ls hx hb hml hown hts hP hK hNW hret hl => ?_)
  have hown : s.vm.findClass RX5 = some m.cls := hown
  have k1 : cod a n (k + 1) = nI (97 + x9) := (cod_at (by omega)).trans h1
  have k2 : cod a n (k + 2) = nI (97 + y9) := (cod_at (by omega)).trans h2
  have k3 : cod a n (k + 3) = nI (48 + f) := (cod_at (by omega)).trans h3
  have k4 : cod a n (k + 4) = nI (48 + d) := (cod_at (by omega)).trans h4
  have hl : lv_has ls 6 [(0, .ref (ad 0)), (1, .int (nI k))] := hl
  refine lv_aload_n hx hb (dk kX5_doLiftPart_ok 0 rfl) rfl (lv_at hl 0 rfl) ?_
  refine gf hx hb hts (fun w h => List.mem_cons_of_mem _ (acX5 w h)) hown hK hP (by omega) hC rfl 3 (by decide) (hts _ (List.mem_cons_of_mem _ (ac8 _ (List.mem_of_getElem? (i := 5) rfl)))) (fun _ h => h) rfl (dk kX5_doLiftPart_ok 1 rfl) ?_
  refine lv_iload_n hx hb (dk kX5_doLiftPart_ok 2 rfl) rfl (lv_at hl 1 rfl) ?_
  refine lv_iconst (v := nI 1) hx hb (dk kX5_doLiftPart_ok 3 rfl) rfl ?_
  refine n_iadd hx hb (dk kX5_doLiftPart_ok 4 rfl) ?_
  refine cvR (As := [.int (nI (k + 1))]) (rest := []) ⟨hx, hb, hml, hown, hts⟩ (tX0_codeAt l D cI cQ cL ad N F 67 (by omega) a n hn60 hT (nI (k + 1)) (k + 1) rfl (by omega)) (cwV9 1 hts mcX0_codeAt (ac11 _ (List.mem_of_getElem? (i := 2) rfl)) miX0_codeAt meX0_codeAt mini_RX0 rfl rfl hdX0_codeAt ⟨Nat.le_of_ble_eq_true rfl, Nat.le_of_ble_eq_true rfl⟩) hK hP hNW (by omega) hT.1 rfl rfl hl.1 rfl (Nat.le_of_ble_eq_true rfl) ⟨Nat.le_of_ble_eq_true rfl, Nat.le_of_ble_eq_true rfl⟩ (dk kX5_doLiftPart_ok 5 rfl) ?_
  rw [k1]
  refine lv_bipush (v := nI 97) hx hb (dk kX5_doLiftPart_ok 6 rfl) rfl ?_
  refine n_isub hx hb (by omega) (dk kX5_doLiftPart_ok 7 rfl) ?_
  rw [show 97 + x9 - 97 = x9 by omega]
  refine lv_istore_n (lv' := [(2, .int (nI x9)), (0, .ref (ad 0)), (1, .int (nI k))]) hx hb (dk kX5_doLiftPart_ok 8 rfl) rfl hl (by decide) rfl (fun ls hl => ?_)
  refine lv_aload_n hx hb (dk kX5_doLiftPart_ok 9 rfl) rfl (lv_at hl 1 rfl) ?_
  refine gf hx hb hts (fun w h => List.mem_cons_of_mem _ (acX5 w h)) hown hK hP (by omega) hC rfl 3 (by decide) (hts _ (List.mem_cons_of_mem _ (ac8 _ (List.mem_of_getElem? (i := 5) rfl)))) (fun _ h => h) rfl (dk kX5_doLiftPart_ok 10 rfl) ?_
  refine lv_iload_n hx hb (dk kX5_doLiftPart_ok 11 rfl) rfl (lv_at hl 2 rfl) ?_
  refine lv_iconst (v := nI 2) hx hb (dk kX5_doLiftPart_ok 12 rfl) rfl ?_
  refine n_iadd hx hb (dk kX5_doLiftPart_ok 13 rfl) ?_
  refine cvR (As := [.int (nI (k + 2))]) (rest := []) ⟨hx, hb, hml, hown, hts⟩ (tX0_codeAt l D cI cQ cL ad N F 67 (by omega) a n hn60 hT (nI (k + 2)) (k + 2) rfl (by omega)) (cwV9 1 hts mcX0_codeAt (ac11 _ (List.mem_of_getElem? (i := 2) rfl)) miX0_codeAt meX0_codeAt mini_RX0 rfl rfl hdX0_codeAt ⟨Nat.le_of_ble_eq_true rfl, Nat.le_of_ble_eq_true rfl⟩) hK hP hNW (by omega) hT.1 rfl rfl hl.1 rfl (Nat.le_of_ble_eq_true rfl) ⟨Nat.le_of_ble_eq_true rfl, Nat.le_of_ble_eq_true rfl⟩ (dk kX5_doLiftPart_ok 14 rfl) ?_
  rw [k2]
  refine lv_bipush (v := nI 97) hx hb (dk kX5_doLiftPart_ok 15 rfl) rfl ?_
  refine n_isub hx hb (by omega) (dk kX5_doLiftPart_ok 16 rfl) ?_
  rw [show 97 + y9 - 97 = y9 by omega]
  refine lv_istore_n (lv' := [(3, .int (nI y9)), (2, .int (nI x9)), (0, .ref (ad 0)), (1, .int (nI k))]) hx hb (dk kX5_doLiftPart_ok 17 rfl) rfl hl (by decide) rfl (fun ls hl => ?_)
  refine lv_aload_n hx hb (dk kX5_doLiftPart_ok 18 rfl) rfl (lv_at hl 2 rfl) ?_
  refine gf hx hb hts (fun w h => List.mem_cons_of_mem _ (acX5 w h)) hown hK hP (by omega) hC rfl 3 (by decide) (hts _ (List.mem_cons_of_mem _ (ac8 _ (List.mem_of_getElem? (i := 5) rfl)))) (fun _ h => h) rfl (dk kX5_doLiftPart_ok 19 rfl) ?_
  refine lv_iload_n hx hb (dk kX5_doLiftPart_ok 20 rfl) rfl (lv_at hl 3 rfl) ?_
  refine lv_iconst (v := nI 3) hx hb (dk kX5_doLiftPart_ok 21 rfl) rfl ?_
  refine n_iadd hx hb (dk kX5_doLiftPart_ok 22 rfl) ?_
  refine cvR (As := [.int (nI (k + 3))]) (rest := []) ⟨hx, hb, hml, hown, hts⟩ (tX0_codeAt l D cI cQ cL ad N F 67 (by omega) a n hn60 hT (nI (k + 3)) (k + 3) rfl (by omega)) (cwV9 1 hts mcX0_codeAt (ac11 _ (List.mem_of_getElem? (i := 2) rfl)) miX0_codeAt meX0_codeAt mini_RX0 rfl rfl hdX0_codeAt ⟨Nat.le_of_ble_eq_true rfl, Nat.le_of_ble_eq_true rfl⟩) hK hP hNW (by omega) hT.1 rfl rfl hl.1 rfl (Nat.le_of_ble_eq_true rfl) ⟨Nat.le_of_ble_eq_true rfl, Nat.le_of_ble_eq_true rfl⟩ (dk kX5_doLiftPart_ok 23 rfl) ?_
  rw [k3]
  refine lv_bipush (v := nI 48) hx hb (dk kX5_doLiftPart_ok 24 rfl) rfl ?_
  refine n_isub hx hb (by omega) (dk kX5_doLiftPart_ok 25 rfl) ?_
  rw [show 48 + f - 48 = f by omega]
  refine lv_istore (lv' := [(4, .int (nI f)), (3, .int (nI y9)), (2, .int (nI x9)), (0, .ref (ad 0)), (1, .int (nI k))]) hx hb (dk kX5_doLiftPart_ok 26 rfl) hl (by decide) rfl (fun ls hl => ?_)
  refine lv_aload_n hx hb (dk kX5_doLiftPart_ok 27 rfl) rfl (lv_at hl 3 rfl) ?_
  refine gf hx hb hts (fun w h => List.mem_cons_of_mem _ (acX5 w h)) hown hK hP (by omega) hC rfl 3 (by decide) (hts _ (List.mem_cons_of_mem _ (ac8 _ (List.mem_of_getElem? (i := 5) rfl)))) (fun _ h => h) rfl (dk kX5_doLiftPart_ok 28 rfl) ?_
  refine lv_iload_n hx hb (dk kX5_doLiftPart_ok 29 rfl) rfl (lv_at hl 4 rfl) ?_
  refine lv_iconst (v := nI 4) hx hb (dk kX5_doLiftPart_ok 30 rfl) rfl ?_
  refine n_iadd hx hb (dk kX5_doLiftPart_ok 31 rfl) ?_
  refine cvR (As := [.int (nI (k + 4))]) (rest := []) ⟨hx, hb, hml, hown, hts⟩ (tX0_codeAt l D cI cQ cL ad N F 67 (by omega) a n hn60 hT (nI (k + 4)) (k + 4) rfl (by omega)) (cwV9 1 hts mcX0_codeAt (ac11 _ (List.mem_of_getElem? (i := 2) rfl)) miX0_codeAt meX0_codeAt mini_RX0 rfl rfl hdX0_codeAt ⟨Nat.le_of_ble_eq_true rfl, Nat.le_of_ble_eq_true rfl⟩) hK hP hNW (by omega) hT.1 rfl rfl hl.1 rfl (Nat.le_of_ble_eq_true rfl) ⟨Nat.le_of_ble_eq_true rfl, Nat.le_of_ble_eq_true rfl⟩ (dk kX5_doLiftPart_ok 32 rfl) ?_
  rw [k4]
  refine lv_bipush (v := nI 48) hx hb (dk kX5_doLiftPart_ok 33 rfl) rfl ?_
  refine n_isub hx hb (by omega) (dk kX5_doLiftPart_ok 34 rfl) ?_
  rw [show 48 + d - 48 = d by omega]
  refine lv_istore (lv' := [(5, .int (nI d)), (4, .int (nI f)), (3, .int (nI y9)), (2, .int (nI x9)), (0, .ref (ad 0)), (1, .int (nI k))]) hx hb (dk kX5_doLiftPart_ok 35 rfl) hl (by decide) rfl (fun ls hl => ?_)
  refine lv_aload_n hx hb (dk kX5_doLiftPart_ok 36 rfl) rfl (lv_at hl 4 rfl) ?_
  refine gf hx hb hts (fun w h => List.mem_cons_of_mem _ (acX5 w h)) hown hK hP (by omega) hC rfl 0 (by decide) (hts _ (List.mem_cons_of_mem _ (ac7 _ (List.mem_of_getElem? (i := 21) rfl)))) (fun _ h => h) rfl (dk kX5_doLiftPart_ok 37 rfl) ?_
  refine lv_iload_n hx hb (dk kX5_doLiftPart_ok 38 rfl) rfl (lv_at hl 3 rfl) ?_
  refine lv_iload_n hx hb (dk kX5_doLiftPart_ok 39 rfl) rfl (lv_at hl 2 rfl) ?_
  refine lv_iload hx hb (dk kX5_doLiftPart_ok 40 rfl) (lv_at hl 1 rfl) ?_
  refine lv_iload hx hb (dk kX5_doLiftPart_ok 41 rfl) (lv_at hl 0 rfl) ?_
  refine cvR (As := [.int (nI x9), .int (nI y9), .int (nI f), .int (nI d)]) (rest := []) ⟨hx, hb, hml, hown, hts⟩ (tX4_whyNotLifted l D cI cQ cL ad N F 1 (by omega) c b v g h j t u z hN (nI x9) (nI y9) (nI f) f rfl hf.1 (by omega) (nI d)) (cwV9 4 hts mcX4_whyNotLifted (ac10 _ (List.mem_of_getElem? (i := 6) rfl)) miX4_whyNotLifted meX4_whyNotLifted mini_RX4 rfl rfl hdX4_whyNotLifted ⟨Nat.le_of_ble_eq_true rfl, Nat.le_of_ble_eq_true rfl⟩) hK hP hNW (by omega) hN.1 rfl rfl hl.1 rfl (Nat.le_of_ble_eq_true rfl) ⟨Nat.le_of_ble_eq_true rfl, Nat.le_of_ble_eq_true rfl⟩ (dk kX5_doLiftPart_ok 42 rfl) ?_
  refine n_if_eq (tgt := 76) hx hb (by have q1 := wnl_le c b v t z (nI x9) (nI y9) f (nI d); omega) (dk kX5_doLiftPart_ok 43 rfl) (by decide) (fun h9 => absurd h9 hwn) (fun _ => ?_)
  refine lv_iconst (v := nI 0) hx hb (dk kX5_doLiftPart_ok 44 rfl) rfl ?_
  exact hret _ _ _ rfl (dk kX5_doLiftPart_ok 45 rfl)
