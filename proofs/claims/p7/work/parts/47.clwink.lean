set_option maxRecDepth 100000 in
set_option maxHeartbeats 4000000 in
theorem tX5_withWinks (l : Launch) (D : va_G) (cI cQ cL : ClassId) (ad : Nat → Nat) (N : Nat) (F : Nat → va_E) (hk : 76 < N) (c b v g h j : Nat → Int32) (t : Nat) (u z : Int32) (hN : stAt cI ad F 1 c b v g h j (nI t) u z) (c8 b8 v8 g8 h8 j8 : Nat → Int32) (t8 : Nat) (u8 z8 : Int32) (hSn : stAt cI ad F 9 c8 b8 v8 g8 h8 j8 (nI t8) u8 z8) (n9 m9 : Nat) (hn9 : n9 < 6) (hm9 : m9 ≤ 6) (hPa : paAt cQ ad F 17 n9 m9) (a : Nat → Int32) (n : Nat) (hn60 : n ≤ 60) (hT : gtAt cI ad F 67 a n) (c6 b6 v6 : Nat → Int32) (hM6 : matAt cI ad F 69 c6 b6 v6) (a7 d7 q7 : Nat → Int32) (hO : roAt cI ad F 73 a7 d7 q7) (hs : Bool) (hC : F 0 = .inr (5, [.ref (ad 1), .ref (ad 9), .ref (ad 17), .ref (ad 67), .ref (ad 69), .ref (ad 73), .int (bI hs)])) (ht : t < 4) (hc9 : ∀ w, w < 16 → pot c w = false → cell9 (c w)) (x : Int64) : MX l yX5_withWinks (Cond.code yX5_withWinks cX5_withWinks 7 (some .long) :: AW) ({ frames := 9, cells := 0, slots := 0, locals := 146 } : Room) D cI cQ cL ad N F [.ref (ad 0), .long x] (dp (some (.long (cwD c b v g t (a7, d7, q7) 16 x))) (roSet cI ad F 73 (cRo c (a7, d7, q7) 16).1 (cRo c (a7, d7, q7) 16).2.1 (cRo c (a7, d7, q7) 16).2.2)) 0 0 := by
  refine mx_l (by decide +kernel) rfl (Nat.le_of_ble_eq_true rfl) (fun p e s m below meth cd Q ls hx hb hml hown hts hDi hP hK hNW hS hret hl => ?_)
  have hown : s.vm.findClass RX5 = some m.cls := hown
  have hz0 : 0 < N := by omega
  have hz1 : 1 < N := by omega
  have hz1___1 : 1 + 1 < N := by omega
  have hz1___1___1 : 1 + 1 + 1 < N := by omega
  have hz1___1___2 : 1 + 1 + 2 < N := by omega
  have hz1___1___3 : 1 + 1 + 3 < N := by omega
  have hz1___5 : 1 + 5 < N := by omega
  have hz1___6 : 1 + 6 < N := by omega
  have hz1___7 : 1 + 7 < N := by omega
  have hz9 : 9 < N := by omega
  have hz17 : 17 < N := by omega
  have hz17___1 : 17 + 1 < N := by omega
  have hz67 : 67 < N := by omega
  have hz67___1 : 67 + 1 < N := by omega
  have hz69 : 69 < N := by omega
  have hz69___1 : 69 + 1 < N := by omega
  have hz69___2 : 69 + 2 < N := by omega
  have hz69___3 : 69 + 3 < N := by omega
  have hz73 : 73 < N := by omega
  have hz1___1___3 : 1 + 1 + 3 < N := by omega
  have hz69___3 : 69 + 3 < N := by omega
  have hl : lv_has ls 7 [(0, .ref (ad 0)), (1, .long x)] := hl
  refine lv_lload_n hx hb (dk kX5_withWinks_ok 0 rfl) rfl (lv_at hl 1 rfl) ?_
  refine lv_lstore_n (lv' := [(3, .long x), (0, .ref (ad 0)), (1, .long x)]) hx hb (dk kX5_withWinks_ok 1 rfl) rfl hl (by decide) rfl (fun ls hl => ?_)
  refine lv_iconst (v := nI 0) hx hb (dk kX5_withWinks_ok 2 rfl) rfl ?_
  refine lv_istore (lv' := [(5, .int (nI 0)), (3, .long x), (0, .ref (ad 0)), (1, .long x)]) hx hb (dk kX5_withWinks_ok 3 rfl) hl (by decide) rfl (fun ls hl => ?_)
  have L5 : ∀ (fu : Nat) (w : Nat) (x3 : Int64) (H : Heap) (locs : List Loc), va_P D vwCl (iW ad N (roSet cI ad F 73 ((cRo c (a7, d7, q7) w).1) ((cRo c (a7, d7, q7) w).2.1) ((cRo c (a7, d7, q7) w).2.2))) H → va_S (iA ad N s.heap.size) s.heap H locs → x3 = cwD c b v g t (a7, d7, q7) w x → w ≤ 16 → 16 - w < fu → ∀ ls : Array Slot, lv_has ls 7 [(0, .ref (ad 0)), (1, .long x), (3, .long x3), (5, .int (nI w))] → W p l e ({ frames := 9, cells := 0, slots := 0, locals := 146 } : Room) s m ([.ref (ad 0), .long x] : List Value).toArray below meth cd H locs 0 0 Q (F0 m 5 ls []) := by
    intro fu
    induction fu with
    | zero => intros; omega
    | succ fu ih5 =>
      intro w x3 H locs hP hS ex3 hw hme5 ls hl
      subst ex3
      refine lv_iload hx hb (dk kX5_withWinks_ok 4 rfl) (lv_at hl 3 rfl) ?_
      refine lv_bipush (v := nI 16) hx hb (dk kX5_withWinks_ok 5 rfl) rfl ?_
      refine n_icmp_ge (tgt := 74) hx hb (by omega) (by decide) (dk kX5_withWinks_ok 6 rfl) (by decide) (fun h1 => ?_) (fun h1 => ?_)
      · skip
        refine lv_lload_n hx hb (dk kX5_withWinks_ok 40 rfl) rfl (lv_at hl 2 rfl) ?_
        exact hret _ _ _ _ _ _ _ _  (by rw [show w = 16 by omega]; exact ⟨rfl, rfl⟩) hP hS (by decide) (by decide) (dk kX5_withWinks_ok 41 rfl)
      · skip
        refine lv_iconst (v := nI 0) hx hb (dk kX5_withWinks_ok 7 rfl) rfl ?_
        refine lv_istore (lv' := [(6, .int (nI 0)), (0, .ref (ad 0)), (1, .long x), (3, .long (cwD c b v g t (a7, d7, q7) w x)), (5, .int (nI w))]) hx hb (dk kX5_withWinks_ok 8 rfl) hl (by decide) rfl (fun ls hl => ?_)
        have L15 : ∀ (fu : Nat) (i : Nat) (x3 : Int64) (H : Heap) (locs : List Loc), va_P D vwCl (iW ad N (roSet cI ad F 73 ((cRo c (a7, d7, q7) w).1) ((cRo c (a7, d7, q7) w).2.1) ((cRo c (a7, d7, q7) w).2.2))) H → va_S (iA ad N s.heap.size) s.heap H locs → x3 = fo (fun k9 => cWink c b v g t w (nI k9)) i (cwD c b v g t (a7, d7, q7) w x) → i ≤ 7 → 7 - i < fu → ∀ ls : Array Slot, lv_has ls 7 [(0, .ref (ad 0)), (1, .long x), (3, .long x3), (5, .int (nI w)), (6, .int (nI i))] → W p l e ({ frames := 9, cells := 0, slots := 0, locals := 146 } : Room) s m ([.ref (ad 0), .long x] : List Value).toArray below meth cd H locs 0 0 Q (F0 m 15 ls []) := by
          intro fu
          induction fu with
          | zero => intros; omega
          | succ fu ih15 =>
            intro i x3 H locs hP hS ex3 hi hme15 ls hl
            subst ex3
            refine lv_iload hx hb (dk kX5_withWinks_ok 9 rfl) (lv_at hl 4 rfl) ?_
            refine lv_bipush (v := nI 6) hx hb (dk kX5_withWinks_ok 10 rfl) rfl ?_
            refine n_icmp_gt (tgt := 42) hx hb (by omega) (by decide) (dk kX5_withWinks_ok 11 rfl) (by decide) (fun h2 => ?_) (fun h2 => ?_)
            · skip
              refine lv_lload_n hx hb (dk kX5_withWinks_ok 22 rfl) rfl (lv_at hl 2 rfl) ?_
              refine lv_aload_n hx hb (dk kX5_withWinks_ok 23 rfl) rfl (lv_at hl 0 rfl) ?_
              refine lv_iload hx hb (dk kX5_withWinks_ok 24 rfl) (lv_at hl 3 rfl) ?_
              refine lv_iconst (v := nI 3) hx hb (dk kX5_withWinks_ok 25 rfl) rfl ?_
              refine lv_iconst (v := nI 5) hx hb (dk kX5_withWinks_ok 26 rfl) rfl ?_
              refine cvR (As := [.int (nI w), .int (nI 3), .int (nI 5)]) (rest := [.long (fo (fun k9 => cWink c b v g t w (nI k9)) i (cwD c b v g t (a7, d7, q7) w x))]) ⟨hx, hb, hml, hown, hts⟩ (tX5_lands l D cI cQ cL ad N (roSet cI ad F 73 ((cRo c (a7, d7, q7) w).1) ((cRo c (a7, d7, q7) w).2.1) ((cRo c (a7, d7, q7) w).2.2)) (by omega) c b v g h j t u z (stAt_keep hN (fun i _ _ => roSet_out (by omega))) c8 b8 v8 g8 h8 j8 t8 u8 z8 (stAt_keep hSn (fun i _ _ => roSet_out (by omega))) n9 m9 hn9 hm9 (paAt_keep hPa (fun i _ _ => roSet_out (by omega))) a n hn60 (gtAt_keep hT (fun i _ _ => roSet_out (by omega))) c6 b6 v6 (matAt_keep hM6 (fun i _ _ => roSet_out (by omega))) ((cRo c (a7, d7, q7) w).1) ((cRo c (a7, d7, q7) w).2.1) ((cRo c (a7, d7, q7) w).2.2) roSet_at hs ((roSet_out (by omega)).trans hC) (nI w) w rfl (by omega) (nI 3) (btw_nI (by omega)) (nI 5) 5 rfl (by omega)) (cwV9 3 hts mcX5_lands (ac15 _ (List.mem_of_getElem? (i := 11) rfl)) miX5_lands meX5_lands mini_RX5 rfl rfl hdX5_lands ⟨Nat.le_of_ble_eq_true rfl, Nat.le_of_ble_eq_true rfl⟩) hK hP hNW hz0 ((roSet_out (by omega)).trans hC) rfl rfl hl.1 rfl (Nat.le_of_ble_eq_true rfl) (by decide) (dk kX5_withWinks_ok 27 rfl) ?_
              refine lv_i2l hx hb (dk kX5_withWinks_ok 28 rfl) rfl ?_
              refine csP (As := [.long (fo (fun k9 => cWink c b v g t w (nI k9)) i (cwD c b v g t (a7, d7, q7) w x)), .long ((cLan c w (nI 3) 5).toInt64)]) (rest := []) ⟨hx, hb, hml, hown, hts⟩ (tX5_mixed l (fo (fun k9 => cWink c b v g t w (nI k9)) i (cwD c b v g t (a7, d7, q7) w x)) ((cLan c w (nI 3) 5).toInt64)) (cwS9 2 hts mcX5_mixed (ac15 _ (List.mem_of_getElem? (i := 8) rfl)) msX5_mixed mini_RX5 rfl rfl hdX5_mixed ⟨Nat.le_of_ble_eq_true rfl, Nat.le_of_ble_eq_true rfl⟩) rfl hl.1 rfl (Nat.le_of_ble_eq_true rfl) (by decide) (dk kX5_withWinks_ok 29 rfl) ?_
              refine lv_lstore_n (lv' := [(3, .long (mxd (fo (fun k9 => cWink c b v g t w (nI k9)) i (cwD c b v g t (a7, d7, q7) w x)) ((cLan c w (nI 3) 5).toInt64))), (0, .ref (ad 0)), (1, .long x), (5, .int (nI w)), (6, .int (nI i))]) hx hb (dk kX5_withWinks_ok 30 rfl) rfl hl (by decide) rfl (fun ls hl => ?_)
              refine lv_lload_n hx hb (dk kX5_withWinks_ok 31 rfl) rfl (lv_at hl 0 rfl) ?_
              rcases (Bool.eq_false_or_eq_true (pot c w)) with hsp3 | hsp3
              · skip
                refine lv_aload_n hx hb (dk kX5_withWinks_ok 32 rfl) rfl (lv_at hl 1 rfl) ?_
                refine lv_iload hx hb (dk kX5_withWinks_ok 33 rfl) (lv_at hl 3 rfl) ?_
                refine cvR (As := [.int (nI w)]) (rest := [.long (mxd (fo (fun k9 => cWink c b v g t w (nI k9)) i (cwD c b v g t (a7, d7, q7) w x)) ((cLan c w (nI 3) 5).toInt64))]) ⟨hx, hb, hml, hown, hts⟩ (tX5_flightsToX l D cI cQ cL ad N (roSet cI ad F 73 ((cRo c (a7, d7, q7) w).1) ((cRo c (a7, d7, q7) w).2.1) ((cRo c (a7, d7, q7) w).2.2)) (by omega) c b v g h j t u z (stAt_keep hN (fun i _ _ => roSet_out (by omega))) c8 b8 v8 g8 h8 j8 t8 u8 z8 (stAt_keep hSn (fun i _ _ => roSet_out (by omega))) n9 m9 hn9 hm9 (paAt_keep hPa (fun i _ _ => roSet_out (by omega))) a n hn60 (gtAt_keep hT (fun i _ _ => roSet_out (by omega))) c6 b6 v6 (matAt_keep hM6 (fun i _ _ => roSet_out (by omega))) ((cRo c (a7, d7, q7) w).1) ((cRo c (a7, d7, q7) w).2.1) ((cRo c (a7, d7, q7) w).2.2) roSet_at hs ((roSet_out (by omega)).trans hC) (nI w) w rfl (by omega) hsp3) (cwV9 1 hts mcX5_flightsTo (ac15 _ (List.mem_of_getElem? (i := 15) rfl)) miX5_flightsTo meX5_flightsTo mini_RX5 rfl rfl hdX5_flightsTo ⟨Nat.le_of_ble_eq_true rfl, Nat.le_of_ble_eq_true rfl⟩) hK hP hNW hz0 ((roSet_out (by omega)).trans hC) rfl rfl hl.1 rfl (Nat.le_of_ble_eq_true rfl) (by decide) (dk kX5_withWinks_ok 34 rfl) ?_
                refine lv_i2l hx hb (dk kX5_withWinks_ok 35 rfl) rfl ?_
                refine csP (As := [.long (mxd (fo (fun k9 => cWink c b v g t w (nI k9)) i (cwD c b v g t (a7, d7, q7) w x)) ((cLan c w (nI 3) 5).toInt64)), .long ((nI 0).toInt64)]) (rest := []) ⟨hx, hb, hml, hown, hts⟩ (tX5_mixed l (mxd (fo (fun k9 => cWink c b v g t w (nI k9)) i (cwD c b v g t (a7, d7, q7) w x)) ((cLan c w (nI 3) 5).toInt64)) ((nI 0).toInt64)) (cwS9 2 hts mcX5_mixed (ac15 _ (List.mem_of_getElem? (i := 8) rfl)) msX5_mixed mini_RX5 rfl rfl hdX5_mixed ⟨Nat.le_of_ble_eq_true rfl, Nat.le_of_ble_eq_true rfl⟩) rfl hl.1 rfl (Nat.le_of_ble_eq_true rfl) (by decide) (dk kX5_withWinks_ok 36 rfl) ?_
                refine lv_lstore_n (lv' := [(3, .long (mxd (mxd (fo (fun k9 => cWink c b v g t w (nI k9)) i (cwD c b v g t (a7, d7, q7) w x)) ((cLan c w (nI 3) 5).toInt64)) ((nI 0).toInt64))), (0, .ref (ad 0)), (1, .long x), (5, .int (nI w)), (6, .int (nI i))]) hx hb (dk kX5_withWinks_ok 37 rfl) rfl hl (by decide) rfl (fun ls hl => ?_)
                refine lv_iinc (v := nI (w + 1)) (lv' := [(5, .int (nI (w + 1))), (3, .long (mxd (mxd (fo (fun k9 => cWink c b v g t w (nI k9)) i (cwD c b v g t (a7, d7, q7) w x)) ((cLan c w (nI 3) 5).toInt64)) ((nI 0).toInt64))), (0, .ref (ad 0)), (1, .long x), (6, .int (nI i))]) hx hb (dk kX5_withWinks_ok 38 rfl) hl (k := 3) rfl (n_inc _) (by decide) rfl (fun ls hl => ?_)
                refine lv_goto (tgt := 5) hx hb (dk kX5_withWinks_ok 39 rfl) (by decide) ?_
                exact ih5 (w + 1) _ _ _ (by first | (rw [cRo_0]; exact ro_touch hO hP) | (rw [cRo_p hsp3]; exact hP) | (rw [cRo_n hsp3]; exact hP)) hS (by obtain rfl : i = 7 := (by omega); first | exact cwD_p hsp3 | exact cwD_n hsp3) (by omega) (by omega) ls (lv_sub hl [2, 3, 1, 0] rfl)
              · skip
                refine lv_aload_n hx hb (dk kX5_withWinks_ok 32 rfl) rfl (lv_at hl 1 rfl) ?_
                refine lv_iload hx hb (dk kX5_withWinks_ok 33 rfl) (lv_at hl 3 rfl) ?_
                refine cvD (As := [.int (nI w)]) (rest := [.long (mxd (fo (fun k9 => cWink c b v g t w (nI k9)) i (cwD c b v g t (a7, d7, q7) w x)) ((cLan c w (nI 3) 5).toInt64))]) (roSet cI ad F 73 ((few ((cRo c (a7, d7, q7) w).1) ((cRo c (a7, d7, q7) w).2.1) ((cRo c (a7, d7, q7) w).2.2) (ix (c w)) (decide (w % 4 < 2))).1) ((few ((cRo c (a7, d7, q7) w).1) ((cRo c (a7, d7, q7) w).2.1) ((cRo c (a7, d7, q7) w).2.2) (ix (c w)) (decide (w % 4 < 2))).2.1) ((few ((cRo c (a7, d7, q7) w).1) ((cRo c (a7, d7, q7) w).2.1) ((cRo c (a7, d7, q7) w).2.2) (ix (c w)) (decide (w % 4 < 2))).2.2)) ⟨hx, hb, hml, hown, hts⟩ (tX5_flightsTo l D cI cQ cL ad N (roSet cI ad F 73 ((cRo c (a7, d7, q7) w).1) ((cRo c (a7, d7, q7) w).2.1) ((cRo c (a7, d7, q7) w).2.2)) (by omega) c b v g h j t u z (stAt_keep hN (fun i _ _ => roSet_out (by omega))) c8 b8 v8 g8 h8 j8 t8 u8 z8 (stAt_keep hSn (fun i _ _ => roSet_out (by omega))) n9 m9 hn9 hm9 (paAt_keep hPa (fun i _ _ => roSet_out (by omega))) a n hn60 (gtAt_keep hT (fun i _ _ => roSet_out (by omega))) c6 b6 v6 (matAt_keep hM6 (fun i _ _ => roSet_out (by omega))) ((cRo c (a7, d7, q7) w).1) ((cRo c (a7, d7, q7) w).2.1) ((cRo c (a7, d7, q7) w).2.2) roSet_at hs ((roSet_out (by omega)).trans hC) (nI w) w rfl (by omega) (hc9 w (by omega)) hsp3) (cwV9 1 hts mcX5_flightsTo (ac15 _ (List.mem_of_getElem? (i := 15) rfl)) miX5_flightsTo meX5_flightsTo mini_RX5 rfl rfl hdX5_flightsTo ⟨Nat.le_of_ble_eq_true rfl, Nat.le_of_ble_eq_true rfl⟩) hDi hK hP hNW hS hz0 ((roSet_out (by omega)).trans hC) rfl rfl hl.1 rfl (Nat.le_of_ble_eq_true rfl) (by decide) (dk kX5_withWinks_ok 34 rfl) roSet_roSet (fun H locs hP hS => ?_)
                refine lv_i2l hx hb (dk kX5_withWinks_ok 35 rfl) rfl ?_
                refine csP (As := [.long (mxd (fo (fun k9 => cWink c b v g t w (nI k9)) i (cwD c b v g t (a7, d7, q7) w x)) ((cLan c w (nI 3) 5).toInt64)), .long (((few ((cRo c (a7, d7, q7) w).1) ((cRo c (a7, d7, q7) w).2.1) ((cRo c (a7, d7, q7) w).2.2) (ix (c w)) (decide (w % 4 < 2))).1 (if decide (w % 4 < 2) = true then ix (c w) else 169 + ix (c w))).toInt64)]) (rest := []) ⟨hx, hb, hml, hown, hts⟩ (tX5_mixed l (mxd (fo (fun k9 => cWink c b v g t w (nI k9)) i (cwD c b v g t (a7, d7, q7) w x)) ((cLan c w (nI 3) 5).toInt64)) (((few ((cRo c (a7, d7, q7) w).1) ((cRo c (a7, d7, q7) w).2.1) ((cRo c (a7, d7, q7) w).2.2) (ix (c w)) (decide (w % 4 < 2))).1 (if decide (w % 4 < 2) = true then ix (c w) else 169 + ix (c w))).toInt64)) (cwS9 2 hts mcX5_mixed (ac15 _ (List.mem_of_getElem? (i := 8) rfl)) msX5_mixed mini_RX5 rfl rfl hdX5_mixed ⟨Nat.le_of_ble_eq_true rfl, Nat.le_of_ble_eq_true rfl⟩) rfl hl.1 rfl (Nat.le_of_ble_eq_true rfl) (by decide) (dk kX5_withWinks_ok 36 rfl) ?_
                refine lv_lstore_n (lv' := [(3, .long (mxd (mxd (fo (fun k9 => cWink c b v g t w (nI k9)) i (cwD c b v g t (a7, d7, q7) w x)) ((cLan c w (nI 3) 5).toInt64)) (((few ((cRo c (a7, d7, q7) w).1) ((cRo c (a7, d7, q7) w).2.1) ((cRo c (a7, d7, q7) w).2.2) (ix (c w)) (decide (w % 4 < 2))).1 (if decide (w % 4 < 2) = true then ix (c w) else 169 + ix (c w))).toInt64))), (0, .ref (ad 0)), (1, .long x), (5, .int (nI w)), (6, .int (nI i))]) hx hb (dk kX5_withWinks_ok 37 rfl) rfl hl (by decide) rfl (fun ls hl => ?_)
                refine lv_iinc (v := nI (w + 1)) (lv' := [(5, .int (nI (w + 1))), (3, .long (mxd (mxd (fo (fun k9 => cWink c b v g t w (nI k9)) i (cwD c b v g t (a7, d7, q7) w x)) ((cLan c w (nI 3) 5).toInt64)) (((few ((cRo c (a7, d7, q7) w).1) ((cRo c (a7, d7, q7) w).2.1) ((cRo c (a7, d7, q7) w).2.2) (ix (c w)) (decide (w % 4 < 2))).1 (if decide (w % 4 < 2) = true then ix (c w) else 169 + ix (c w))).toInt64))), (0, .ref (ad 0)), (1, .long x), (6, .int (nI i))]) hx hb (dk kX5_withWinks_ok 38 rfl) hl (k := 3) rfl (n_inc _) (by decide) rfl (fun ls hl => ?_)
                refine lv_goto (tgt := 5) hx hb (dk kX5_withWinks_ok 39 rfl) (by decide) ?_
                exact ih5 (w + 1) _ _ _ (by first | (rw [cRo_0]; exact ro_touch hO hP) | (rw [cRo_p hsp3]; exact hP) | (rw [cRo_n hsp3]; exact hP)) hS (by obtain rfl : i = 7 := (by omega); first | exact cwD_p hsp3 | exact cwD_n hsp3) (by omega) (by omega) ls (lv_sub hl [2, 3, 1, 0] rfl)
            · skip
              refine lv_lload_n hx hb (dk kX5_withWinks_ok 12 rfl) rfl (lv_at hl 2 rfl) ?_
              refine lv_aload_n hx hb (dk kX5_withWinks_ok 13 rfl) rfl (lv_at hl 0 rfl) ?_
              refine lv_iload hx hb (dk kX5_withWinks_ok 14 rfl) (lv_at hl 3 rfl) ?_
              refine lv_iload hx hb (dk kX5_withWinks_ok 15 rfl) (lv_at hl 4 rfl) ?_
              refine cvR (As := [.int (nI w), .int (nI i)]) (rest := [.long (fo (fun k9 => cWink c b v g t w (nI k9)) i (cwD c b v g t (a7, d7, q7) w x))]) ⟨hx, hb, hml, hown, hts⟩ (tX5_wink l D cI cQ cL ad N (roSet cI ad F 73 ((cRo c (a7, d7, q7) w).1) ((cRo c (a7, d7, q7) w).2.1) ((cRo c (a7, d7, q7) w).2.2)) (by omega) c b v g h j t u z (stAt_keep hN (fun i _ _ => roSet_out (by omega))) c8 b8 v8 g8 h8 j8 t8 u8 z8 (stAt_keep hSn (fun i _ _ => roSet_out (by omega))) n9 m9 hn9 hm9 (paAt_keep hPa (fun i _ _ => roSet_out (by omega))) a n hn60 (gtAt_keep hT (fun i _ _ => roSet_out (by omega))) c6 b6 v6 (matAt_keep hM6 (fun i _ _ => roSet_out (by omega))) ((cRo c (a7, d7, q7) w).1) ((cRo c (a7, d7, q7) w).2.1) ((cRo c (a7, d7, q7) w).2.2) roSet_at hs ((roSet_out (by omega)).trans hC) ht (nI w) w rfl (by omega) (nI i) (btw_nI ⟨Nat.zero_le _, by omega⟩)) (cwV9 2 hts mcX5_wink (ac15 _ (List.mem_of_getElem? (i := 4) rfl)) miX5_wink meX5_wink mini_RX5 rfl rfl hdX5_wink ⟨Nat.le_of_ble_eq_true rfl, Nat.le_of_ble_eq_true rfl⟩) hK hP hNW hz0 ((roSet_out (by omega)).trans hC) rfl rfl hl.1 rfl (Nat.le_of_ble_eq_true rfl) (by decide) (dk kX5_withWinks_ok 16 rfl) ?_
              refine lv_i2l hx hb (dk kX5_withWinks_ok 17 rfl) rfl ?_
              refine csP (As := [.long (fo (fun k9 => cWink c b v g t w (nI k9)) i (cwD c b v g t (a7, d7, q7) w x)), .long ((cWink c b v g t w (nI i)).toInt64)]) (rest := []) ⟨hx, hb, hml, hown, hts⟩ (tX5_mixed l (fo (fun k9 => cWink c b v g t w (nI k9)) i (cwD c b v g t (a7, d7, q7) w x)) ((cWink c b v g t w (nI i)).toInt64)) (cwS9 2 hts mcX5_mixed (ac15 _ (List.mem_of_getElem? (i := 8) rfl)) msX5_mixed mini_RX5 rfl rfl hdX5_mixed ⟨Nat.le_of_ble_eq_true rfl, Nat.le_of_ble_eq_true rfl⟩) rfl hl.1 rfl (Nat.le_of_ble_eq_true rfl) (by decide) (dk kX5_withWinks_ok 18 rfl) ?_
              refine lv_lstore_n (lv' := [(3, .long (mxd (fo (fun k9 => cWink c b v g t w (nI k9)) i (cwD c b v g t (a7, d7, q7) w x)) ((cWink c b v g t w (nI i)).toInt64))), (0, .ref (ad 0)), (1, .long x), (5, .int (nI w)), (6, .int (nI i))]) hx hb (dk kX5_withWinks_ok 19 rfl) rfl hl (by decide) rfl (fun ls hl => ?_)
              refine lv_iinc (v := nI (i + 1)) (lv' := [(6, .int (nI (i + 1))), (3, .long (mxd (fo (fun k9 => cWink c b v g t w (nI k9)) i (cwD c b v g t (a7, d7, q7) w x)) ((cWink c b v g t w (nI i)).toInt64))), (0, .ref (ad 0)), (1, .long x), (5, .int (nI w))]) hx hb (dk kX5_withWinks_ok 20 rfl) hl (k := 4) rfl (n_inc _) (by decide) rfl (fun ls hl => ?_)
              refine lv_goto (tgt := 15) hx hb (dk kX5_withWinks_ok 21 rfl) (by decide) ?_
              exact ih15 (i + 1) _ _ _ hP hS (by exact fo_s (A := (fun k9 => cWink c b v g t w (nI k9)))) (by omega) (by omega) ls (lv_sub hl [2, 3, 1, 4, 0] rfl)
        exact L15 _ 0 _ _ _ hP hS (by first | rfl | omega) (by first | rfl | omega) (Nat.lt_succ_self _) ls (lv_sub hl [1, 2, 3, 4, 0] rfl)
  exact L5 _ 0 _ _ _ (by first | (rw [cRo_0]; exact ro_touch hO hP) | (rw [cRo_p hpt]; exact hP) | (rw [cRo_n hpt]; exact hP)) hS (by first | rfl | omega) (by first | rfl | omega) (Nat.lt_succ_self _) ls (lv_sub hl [2, 3, 1, 0] rfl)
