set_option maxRecDepth 100000 in
set_option maxHeartbeats 4000000 in
theorem tX5_mixed (l : Launch) (x y : Int64) : MP l yX5_mixed (Cond.code yX5_mixed cX5_mixed 4 (some .long) :: AW) ({ frames := 0, cells := 0, slots := 0, locals := 0 } : Room) [.long x, .long y] (.long (mxd x y)) := by
  refine mp_l (by decide +kernel) rfl (Nat.le_of_ble_eq_true rfl) (fun p e s m below meth cd Q ls hx hb hml hown hts hret hl => ?_)
  have hown : s.vm.findClass RX5 = some m.cls := hown
  have hl : lv_has ls 4 [(0, .long x), (2, .long y)] := hl
  refine lv_ldc2 (v := (31)) hx hb hown (hts _ (List.mem_cons_of_mem _ (ac15 _ (List.mem_of_getElem? (i := 3) rfl)))) (dk kX5_mixed_ok 0 rfl) ?_
  refine lv_lload_n hx hb (dk kX5_mixed_ok 1 rfl) rfl (lv_at hl 0 rfl) ?_
  refine lv_lmul hx hb (dk kX5_mixed_ok 2 rfl) ?_
  refine lv_lload_n hx hb (dk kX5_mixed_ok 3 rfl) rfl (lv_at hl 1 rfl) ?_
  refine lv_ladd hx hb (dk kX5_mixed_ok 4 rfl) ?_
  exact hret _ _ _ (by rfl) (dk kX5_mixed_ok 5 rfl)
set_option maxRecDepth 100000 in
set_option maxHeartbeats 4000000 in
theorem tX5_pottedShare (l : Launch) (D : va_G) (cI cQ cL : ClassId) (ad : Nat → Nat) (N : Nat) (F : Nat → va_E) (hk : 76 < N) (c b v g h j : Nat → Int32) (t : Nat) (u z : Int32) (hN : stAt cI ad F 1 c b v g h j (nI t) u z) (c8 b8 v8 g8 h8 j8 : Nat → Int32) (t8 : Nat) (u8 z8 : Int32) (hSn : stAt cI ad F 9 c8 b8 v8 g8 h8 j8 (nI t8) u8 z8) (n9 m9 : Nat) (hn9 : n9 < 6) (hm9 : m9 ≤ 6) (hPa : paAt cQ ad F 17 n9 m9) (a : Nat → Int32) (n : Nat) (hn60 : n ≤ 60) (hT : gtAt cI ad F 67 a n) (c6 b6 v6 : Nat → Int32) (hM6 : matAt cI ad F 69 c6 b6 v6) (a7 d7 q7 : Nat → Int32) (hO : roAt cI ad F 73 a7 d7 q7) (hs : Bool) (hC : F 0 = .inr (5, [.ref (ad 1), .ref (ad 9), .ref (ad 17), .ref (ad 67), .ref (ad 69), .ref (ad 73), .int (bI hs)])) : MR l yX5_pottedShare (Cond.code yX5_pottedShare cX5_pottedShare 1 (some .double) :: AW) ({ frames := 6, cells := 0, slots := 0, locals := 82 } : Room) D cI cQ cL ad N F [.ref (ad 0)] (.double (shr (potn c))) := by
  refine mr_d (by decide +kernel) rfl (Nat.le_of_ble_eq_true rfl) (fun p e s m below meth cd Q ls hx hb hml hown hts hP hK hNW hret hl => ?_)
  have hown : s.vm.findClass RX5 = some m.cls := hown
  have hz0 : 0 < N := by omega
  have hz1 : 1 < N := by omega
  have hz1___1 : 1 + 1 < N := by omega
  have hz1___1___1 : 1 + 1 + 1 < N := by omega
  have hz1___1___2 : 1 + 1 + 2 < N := by omega
  have hz1___1___3 : 1 + 1 + 3 < N := by omega
  have hz1___5 : 1 + 5 < N := by omega
  have hz1___6 : 1 + 6 < N := by omega
  have hz1___7 : 1 + 7 < N := by omega
  have hz9 : 9 < N := by omega
  have hz17 : 17 < N := by omega
  have hz17___1 : 17 + 1 < N := by omega
  have hz67 : 67 < N := by omega
  have hz67___1 : 67 + 1 < N := by omega
  have hz69 : 69 < N := by omega
  have hz69___1 : 69 + 1 < N := by omega
  have hz69___2 : 69 + 2 < N := by omega
  have hz69___3 : 69 + 3 < N := by omega
  have hz73 : 73 < N := by omega
  have hz1___1___3 : 1 + 1 + 3 < N := by omega
  have hz69___3 : 69 + 3 < N := by omega
  have hl : lv_has ls 1 [(0, .ref (ad 0))] := hl
  refine lv_aload_n hx hb (dk kX5_pottedShare_ok 0 rfl) rfl (lv_at hl 0 rfl) ?_
  refine gf hx hb hts (fun w h => List.mem_cons_of_mem _ (acX5 w h)) hown hK hP hz0 hC rfl 0 (by decide) (hts _ (List.mem_cons_of_mem _ (ac7 _ (List.mem_of_getElem? (i := 21) rfl)))) (fun _ h => h) rfl (dk kX5_pottedShare_ok 1 rfl) ?_
  refine gfN hx hb hts (fun w h => List.mem_cons_of_mem _ (acX4 w h)) hown hK hP hz1 hN.1 rfl 0 (by decide) (nf2 hNW) (fun _ h => h) rfl (dk kX5_pottedShare_ok 2 rfl) ?_
  refine cvR (As := []) (rest := []) ⟨hx, hb, hml, hown, hts⟩ (tX1_potted l D cI cQ cL ad N F (1 + 1) (by omega) c b v hN.2.1) (cwV9 0 hts mcX1_potted (ac11 _ (List.mem_of_getElem? (i := 20) rfl)) miX1_potted meX1_potted mini_RX1 rfl rfl hdX1_potted ⟨Nat.le_of_ble_eq_true rfl, Nat.le_of_ble_eq_true rfl⟩) hK hP hNW hz1___1 hN.2.1.1 rfl rfl hl.1 rfl (Nat.le_of_ble_eq_true rfl) (by decide) (dk kX5_pottedShare_ok 3 rfl) ?_
  refine lv_i2d hx hb (dk kX5_pottedShare_ok 4 rfl) ?_
  refine lv_ldc2d (v := (4625196817309499392)) hx hb hown (hts _ (List.mem_cons_of_mem _ (ac15 _ (List.mem_of_getElem? (i := 2) rfl)))) (dk kX5_pottedShare_ok 5 rfl) ?_
  refine lv_ddiv hx hb (dk kX5_pottedShare_ok 6 rfl) (shr_ok (potn_le c)) ?_
  exact hret _ _ _ (by rfl) (dk kX5_pottedShare_ok 7 rfl)
set_option maxRecDepth 100000 in
set_option maxHeartbeats 4000000 in
theorem tX5_meanPile (l : Launch) (D : va_G) (cI cQ cL : ClassId) (ad : Nat → Nat) (N : Nat) (F : Nat → va_E) (hk : 76 < N) (c b v g h j : Nat → Int32) (t : Nat) (u z : Int32) (hN : stAt cI ad F 1 c b v g h j (nI t) u z) (c8 b8 v8 g8 h8 j8 : Nat → Int32) (t8 : Nat) (u8 z8 : Int32) (hSn : stAt cI ad F 9 c8 b8 v8 g8 h8 j8 (nI t8) u8 z8) (n9 m9 : Nat) (hn9 : n9 < 6) (hm9 : m9 ≤ 6) (hPa : paAt cQ ad F 17 n9 m9) (a : Nat → Int32) (n : Nat) (hn60 : n ≤ 60) (hT : gtAt cI ad F 67 a n) (c6 b6 v6 : Nat → Int32) (hM6 : matAt cI ad F 69 c6 b6 v6) (a7 d7 q7 : Nat → Int32) (hO : roAt cI ad F 73 a7 d7 q7) (hs : Bool) (hC : F 0 = .inr (5, [.ref (ad 1), .ref (ad 9), .ref (ad 17), .ref (ad 67), .ref (ad 69), .ref (ad 73), .int (bI hs)])) : MR l yX5_meanPile (Cond.code yX5_meanPile cX5_meanPile 2 (some .float) :: AW) ({ frames := 6, cells := 0, slots := 0, locals := 82 } : Room) D cI cQ cL ad N F [.ref (ad 0)] (.float (mea (cnt (bot c b) 16) (potn c))) := by
  refine mr_f (by decide +kernel) rfl (Nat.le_of_ble_eq_true rfl) (fun p e s m below meth cd Q ls hx hb hml hown hts hP hK hNW hret hl => ?_)
  have hown : s.vm.findClass RX5 = some m.cls := hown
  have hz0 : 0 < N := by omega
  have hz1 : 1 < N := by omega
  have hz1___1 : 1 + 1 < N := by omega
  have hz1___1___1 : 1 + 1 + 1 < N := by omega
  have hz1___1___2 : 1 + 1 + 2 < N := by omega
  have hz1___1___3 : 1 + 1 + 3 < N := by omega
  have hz1___5 : 1 + 5 < N := by omega
  have hz1___6 : 1 + 6 < N := by omega
  have hz1___7 : 1 + 7 < N := by omega
  have hz9 : 9 < N := by omega
  have hz17 : 17 < N := by omega
  have hz17___1 : 17 + 1 < N := by omega
  have hz67 : 67 < N := by omega
  have hz67___1 : 67 + 1 < N := by omega
  have hz69 : 69 < N := by omega
  have hz69___1 : 69 + 1 < N := by omega
  have hz69___2 : 69 + 2 < N := by omega
  have hz69___3 : 69 + 3 < N := by omega
  have hz73 : 73 < N := by omega
  have hz1___1___3 : 1 + 1 + 3 < N := by omega
  have hz69___3 : 69 + 3 < N := by omega
  have hl : lv_has ls 2 [(0, .ref (ad 0))] := hl
  refine lv_aload_n hx hb (dk kX5_meanPile_ok 0 rfl) rfl (lv_at hl 0 rfl) ?_
  refine gf hx hb hts (fun w h => List.mem_cons_of_mem _ (acX5 w h)) hown hK hP hz0 hC rfl 0 (by decide) (hts _ (List.mem_cons_of_mem _ (ac7 _ (List.mem_of_getElem? (i := 21) rfl)))) (fun _ h => h) rfl (dk kX5_meanPile_ok 1 rfl) ?_
  refine gfN hx hb hts (fun w h => List.mem_cons_of_mem _ (acX4 w h)) hown hK hP hz1 hN.1 rfl 0 (by decide) (nf2 hNW) (fun _ h => h) rfl (dk kX5_meanPile_ok 2 rfl) ?_
  refine cvR (As := []) (rest := []) ⟨hx, hb, hml, hown, hts⟩ (tX1_piles l D cI cQ cL ad N F (1 + 1) (by omega) c b v hN.2.1) (cwV9 0 hts mcX1_piles (ac13 _ (List.mem_of_getElem? (i := 11) rfl)) miX1_piles meX1_piles mini_RX1 rfl rfl hdX1_piles ⟨Nat.le_of_ble_eq_true rfl, Nat.le_of_ble_eq_true rfl⟩) hK hP hNW hz1___1 hN.2.1.1 rfl rfl hl.1 rfl (Nat.le_of_ble_eq_true rfl) (by decide) (dk kX5_meanPile_ok 3 rfl) ?_
  refine lv_istore_n (lv' := [(1, .int (nI (cnt (bot c b) 16))), (0, .ref (ad 0))]) hx hb (dk kX5_meanPile_ok 4 rfl) rfl hl (by decide) rfl (fun ls hl => ?_)
  refine lv_iload_n hx hb (dk kX5_meanPile_ok 5 rfl) rfl (lv_at hl 0 rfl) ?_
  refine n_if_ne (tgt := 19) hx hb (by have q1 := piles_le c b; omega) (dk kX5_meanPile_ok 6 rfl) (by decide) (fun h1 => ?_) (fun h1 => ?_)
  · skip
    refine lv_bipush (v := nI 16) hx hb (dk kX5_meanPile_ok 9 rfl) rfl ?_
    refine lv_aload_n hx hb (dk kX5_meanPile_ok 10 rfl) rfl (lv_at hl 1 rfl) ?_
    refine gf hx hb hts (fun w h => List.mem_cons_of_mem _ (acX5 w h)) hown hK hP hz0 hC rfl 0 (by decide) (hts _ (List.mem_cons_of_mem _ (ac7 _ (List.mem_of_getElem? (i := 21) rfl)))) (fun _ h => h) rfl (dk kX5_meanPile_ok 11 rfl) ?_
    refine gfN hx hb hts (fun w h => List.mem_cons_of_mem _ (acX4 w h)) hown hK hP hz1 hN.1 rfl 0 (by decide) (nf2 hNW) (fun _ h => h) rfl (dk kX5_meanPile_ok 12 rfl) ?_
    refine cvR (As := []) (rest := [.int (nI 16)]) ⟨hx, hb, hml, hown, hts⟩ (tX1_potted l D cI cQ cL ad N F (1 + 1) (by omega) c b v hN.2.1) (cwV9 0 hts mcX1_potted (ac11 _ (List.mem_of_getElem? (i := 20) rfl)) miX1_potted meX1_potted mini_RX1 rfl rfl hdX1_potted ⟨Nat.le_of_ble_eq_true rfl, Nat.le_of_ble_eq_true rfl⟩) hK hP hNW hz1___1 hN.2.1.1 rfl rfl hl.1 rfl (Nat.le_of_ble_eq_true rfl) (by decide) (dk kX5_meanPile_ok 13 rfl) ?_
    refine n_isub hx hb (by have q1 := potn_le c; omega) (dk kX5_meanPile_ok 14 rfl) ?_
    refine lv_i2f hx hb (dk kX5_meanPile_ok 15 rfl) ?_
    refine lv_iload_n hx hb (dk kX5_meanPile_ok 16 rfl) rfl (lv_at hl 0 rfl) ?_
    refine lv_i2f hx hb (dk kX5_meanPile_ok 17 rfl) ?_
    refine lv_fdiv hx hb (dk kX5_meanPile_ok 18 rfl) (mea_ok (potn_le c) (piles_le c b) (by assumption)) ?_
    exact hret _ _ _ (by simp only [mea, (eq_false h1), not_true_eq_false, not_false_eq_true, and_true, true_and, and_false, false_and, or_true, true_or, or_false, false_or, and_self, or_self, if_true, if_false, Bool.false_eq_true, reduceIte]; first | done | rfl) (dk kX5_meanPile_ok 19 rfl)
  · skip
    refine lv_fconst0 hx hb (dk kX5_meanPile_ok 7 rfl) ?_
    refine lv_goto (tgt := 36) hx hb (dk kX5_meanPile_ok 8 rfl) (by decide) ?_
    exact hret _ _ _ (by simp only [mea, (eq_true h1), not_true_eq_false, not_false_eq_true, and_true, true_and, and_false, false_and, or_true, true_or, or_false, false_or, and_self, or_self, if_true, if_false, Bool.false_eq_true, reduceIte]; first | done | rfl) (dk kX5_meanPile_ok 19 rfl)
set_option maxRecDepth 100000 in
set_option maxHeartbeats 4000000 in
theorem tX5_withColours (l : Launch) (D : va_G) (cI cQ cL : ClassId) (ad : Nat → Nat) (N : Nat) (F : Nat → va_E) (hk : 76 < N) (c b v g h j : Nat → Int32) (t : Nat) (u z : Int32) (hN : stAt cI ad F 1 c b v g h j (nI t) u z) (c8 b8 v8 g8 h8 j8 : Nat → Int32) (t8 : Nat) (u8 z8 : Int32) (hSn : stAt cI ad F 9 c8 b8 v8 g8 h8 j8 (nI t8) u8 z8) (n9 m9 : Nat) (hn9 : n9 < 6) (hm9 : m9 ≤ 6) (hPa : paAt cQ ad F 17 n9 m9) (a : Nat → Int32) (n : Nat) (hn60 : n ≤ 60) (hT : gtAt cI ad F 67 a n) (c6 b6 v6 : Nat → Int32) (hM6 : matAt cI ad F 69 c6 b6 v6) (a7 d7 q7 : Nat → Int32) (hO : roAt cI ad F 73 a7 d7 q7) (hs : Bool) (hC : F 0 = .inr (5, [.ref (ad 1), .ref (ad 9), .ref (ad 17), .ref (ad 67), .ref (ad 69), .ref (ad 73), .int (bI hs)])) (x : Int64) : MR l yX5_withColours (Cond.code yX5_withColours cX5_withColours 7 (some .long) :: AW) ({ frames := 7, cells := 0, slots := 0, locals := 104 } : Room) D cI cQ cL ad N F [.ref (ad 0), .long x] (.long (fo2 (fun w9 k9 => cCol c b v h j w9 (nI k9)) 7 4 x)) := by
  refine mr_l (by decide +kernel) rfl (Nat.le_of_ble_eq_true rfl) (fun p e s m below meth cd Q ls hx hb hml hown hts hP hK hNW hret hl => ?_)
  have hown : s.vm.findClass RX5 = some m.cls := hown
  have hz0 : 0 < N := by omega
  have hz1 : 1 < N := by omega
  have hz1___1 : 1 + 1 < N := by omega
  have hz1___1___1 : 1 + 1 + 1 < N := by omega
  have hz1___1___2 : 1 + 1 + 2 < N := by omega
  have hz1___1___3 : 1 + 1 + 3 < N := by omega
  have hz1___5 : 1 + 5 < N := by omega
  have hz1___6 : 1 + 6 < N := by omega
  have hz1___7 : 1 + 7 < N := by omega
  have hz9 : 9 < N := by omega
  have hz17 : 17 < N := by omega
  have hz17___1 : 17 + 1 < N := by omega
  have hz67 : 67 < N := by omega
  have hz67___1 : 67 + 1 < N := by omega
  have hz69 : 69 < N := by omega
  have hz69___1 : 69 + 1 < N := by omega
  have hz69___2 : 69 + 2 < N := by omega
  have hz69___3 : 69 + 3 < N := by omega
  have hz73 : 73 < N := by omega
  have hz1___1___3 : 1 + 1 + 3 < N := by omega
  have hz69___3 : 69 + 3 < N := by omega
  have hl : lv_has ls 7 [(0, .ref (ad 0)), (1, .long x)] := hl
  refine lv_lload_n hx hb (dk kX5_withColours_ok 0 rfl) rfl (lv_at hl 1 rfl) ?_
  refine lv_lstore_n (lv' := [(3, .long x), (0, .ref (ad 0)), (1, .long x)]) hx hb (dk kX5_withColours_ok 1 rfl) rfl hl (by decide) rfl (fun ls hl => ?_)
  refine lv_iconst (v := nI 0) hx hb (dk kX5_withColours_ok 2 rfl) rfl ?_
  refine lv_istore (lv' := [(5, .int (nI 0)), (3, .long x), (0, .ref (ad 0)), (1, .long x)]) hx hb (dk kX5_withColours_ok 3 rfl) hl (by decide) rfl (fun ls hl => ?_)
  have L5 : ∀ (fu : Nat) (i : Nat) (x3 : Int64), x3 = fo2 (fun w9 k9 => cCol c b v h j w9 (nI k9)) 7 i x → i ≤ 4 → 4 - i < fu → ∀ ls : Array Slot, lv_has ls 7 [(0, .ref (ad 0)), (1, .long x), (3, .long x3), (5, .int (nI i))] → W p l e ({ frames := 7, cells := 0, slots := 0, locals := 104 } : Room) s m ([.ref (ad 0), .long x] : List Value).toArray below meth cd s.heap [] 0 0 Q (F0 m 5 ls []) := by
    intro fu
    induction fu with
    | zero => intros; omega
    | succ fu ih5 =>
      intro i x3 ex3 hi hme5 ls hl
      subst ex3
      refine lv_iload hx hb (dk kX5_withColours_ok 4 rfl) (lv_at hl 3 rfl) ?_
      refine lv_iconst (v := nI 4) hx hb (dk kX5_withColours_ok 5 rfl) rfl ?_
      refine n_icmp_ge (tgt := 47) hx hb (by omega) (by decide) (dk kX5_withColours_ok 6 rfl) (by decide) (fun h1 => ?_) (fun h1 => ?_)
      · skip
        refine lv_lload_n hx hb (dk kX5_withColours_ok 24 rfl) rfl (lv_at hl 2 rfl) ?_
        exact hret _ _ _ (by rw [show i = 4 by omega]) (dk kX5_withColours_ok 25 rfl)
      · skip
        refine lv_iconst (v := nI 0) hx hb (dk kX5_withColours_ok 7 rfl) rfl ?_
        refine lv_istore (lv' := [(6, .int (nI 0)), (0, .ref (ad 0)), (1, .long x), (3, .long (fo2 (fun w9 k9 => cCol c b v h j w9 (nI k9)) 7 i x)), (5, .int (nI i))]) hx hb (dk kX5_withColours_ok 8 rfl) hl (by decide) rfl (fun ls hl => ?_)
        have L14 : ∀ (fu : Nat) (q : Nat) (x3 : Int64), x3 = fo ((fun w9 k9 => cCol c b v h j w9 (nI k9)) i) q (fo2 (fun w9 k9 => cCol c b v h j w9 (nI k9)) 7 i x) → q ≤ 7 → 7 - q < fu → ∀ ls : Array Slot, lv_has ls 7 [(0, .ref (ad 0)), (1, .long x), (3, .long x3), (5, .int (nI i)), (6, .int (nI q))] → W p l e ({ frames := 7, cells := 0, slots := 0, locals := 104 } : Room) s m ([.ref (ad 0), .long x] : List Value).toArray below meth cd s.heap [] 0 0 Q (F0 m 14 ls []) := by
          intro fu
          induction fu with
          | zero => intros; omega
          | succ fu ih14 =>
            intro q x3 ex3 hq hme14 ls hl
            subst ex3
            refine lv_iload hx hb (dk kX5_withColours_ok 9 rfl) (lv_at hl 4 rfl) ?_
            refine lv_bipush (v := nI 6) hx hb (dk kX5_withColours_ok 10 rfl) rfl ?_
            refine n_icmp_gt (tgt := 41) hx hb (by omega) (by decide) (dk kX5_withColours_ok 11 rfl) (by decide) (fun h2 => ?_) (fun h2 => ?_)
            · skip
              refine lv_iinc (v := nI (i + 1)) (lv' := [(5, .int (nI (i + 1))), (0, .ref (ad 0)), (1, .long x), (3, .long (fo ((fun w9 k9 => cCol c b v h j w9 (nI k9)) i) q (fo2 (fun w9 k9 => cCol c b v h j w9 (nI k9)) 7 i x))), (6, .int (nI q))]) hx hb (dk kX5_withColours_ok 22 rfl) hl (k := 3) rfl (n_inc _) (by decide) rfl (fun ls hl => ?_)
              refine lv_goto (tgt := 5) hx hb (dk kX5_withColours_ok 23 rfl) (by decide) ?_
              exact ih5 (i + 1) _ (by obtain rfl : q = 7 := (by omega); exact fo2_s (A := (fun w9 k9 => cCol c b v h j w9 (nI k9)))) (by omega) (by omega) ls (lv_sub hl [1, 2, 3, 0] rfl)
            · skip
              refine lv_lload_n hx hb (dk kX5_withColours_ok 12 rfl) rfl (lv_at hl 2 rfl) ?_
              refine lv_aload_n hx hb (dk kX5_withColours_ok 13 rfl) rfl (lv_at hl 0 rfl) ?_
              refine lv_iload hx hb (dk kX5_withColours_ok 14 rfl) (lv_at hl 3 rfl) ?_
              refine lv_iload hx hb (dk kX5_withColours_ok 15 rfl) (lv_at hl 4 rfl) ?_
              refine cvR (As := [.int (nI i), .int (nI q)]) (rest := [.long (fo ((fun w9 k9 => cCol c b v h j w9 (nI k9)) i) q (fo2 (fun w9 k9 => cCol c b v h j w9 (nI k9)) 7 i x))]) ⟨hx, hb, hml, hown, hts⟩ (tX5_colour l D cI cQ cL ad N F (by omega) c b v g h j t u z hN c8 b8 v8 g8 h8 j8 t8 u8 z8 hSn n9 m9 hn9 hm9 hPa a n hn60 hT c6 b6 v6 hM6 a7 d7 q7 hO hs hC (nI i) i rfl (by omega) (nI q) (btw_nI ⟨Nat.zero_le _, by omega⟩)) (cwV9 2 hts mcX5_colour (ac15 _ (List.mem_of_getElem? (i := 19) rfl)) miX5_colour meX5_colour mini_RX5 rfl rfl hdX5_colour ⟨Nat.le_of_ble_eq_true rfl, Nat.le_of_ble_eq_true rfl⟩) hK hP hNW hz0 hC rfl rfl hl.1 rfl (Nat.le_of_ble_eq_true rfl) (by decide) (dk kX5_withColours_ok 16 rfl) ?_
              refine lv_i2l hx hb (dk kX5_withColours_ok 17 rfl) rfl ?_
              refine csP (As := [.long (fo ((fun w9 k9 => cCol c b v h j w9 (nI k9)) i) q (fo2 (fun w9 k9 => cCol c b v h j w9 (nI k9)) 7 i x)), .long ((cCol c b v h j i (nI q)).toInt64)]) (rest := []) ⟨hx, hb, hml, hown, hts⟩ (tX5_mixed l (fo ((fun w9 k9 => cCol c b v h j w9 (nI k9)) i) q (fo2 (fun w9 k9 => cCol c b v h j w9 (nI k9)) 7 i x)) ((cCol c b v h j i (nI q)).toInt64)) (cwS9 2 hts mcX5_mixed (ac15 _ (List.mem_of_getElem? (i := 8) rfl)) msX5_mixed mini_RX5 rfl rfl hdX5_mixed ⟨Nat.le_of_ble_eq_true rfl, Nat.le_of_ble_eq_true rfl⟩) rfl hl.1 rfl (Nat.le_of_ble_eq_true rfl) (by decide) (dk kX5_withColours_ok 18 rfl) ?_
              refine lv_lstore_n (lv' := [(3, .long (mxd (fo ((fun w9 k9 => cCol c b v h j w9 (nI k9)) i) q (fo2 (fun w9 k9 => cCol c b v h j w9 (nI k9)) 7 i x)) ((cCol c b v h j i (nI q)).toInt64))), (0, .ref (ad 0)), (1, .long x), (5, .int (nI i)), (6, .int (nI q))]) hx hb (dk kX5_withColours_ok 19 rfl) rfl hl (by decide) rfl (fun ls hl => ?_)
              refine lv_iinc (v := nI (q + 1)) (lv' := [(6, .int (nI (q + 1))), (3, .long (mxd (fo ((fun w9 k9 => cCol c b v h j w9 (nI k9)) i) q (fo2 (fun w9 k9 => cCol c b v h j w9 (nI k9)) 7 i x)) ((cCol c b v h j i (nI q)).toInt64))), (0, .ref (ad 0)), (1, .long x), (5, .int (nI i))]) hx hb (dk kX5_withColours_ok 20 rfl) hl (k := 4) rfl (n_inc _) (by decide) rfl (fun ls hl => ?_)
              refine lv_goto (tgt := 14) hx hb (dk kX5_withColours_ok 21 rfl) (by decide) ?_
              exact ih14 (q + 1) _ (by exact fo_s (A := (fun w9 k9 => cCol c b v h j w9 (nI k9)) i)) (by omega) (by omega) ls (lv_sub hl [2, 3, 1, 4, 0] rfl)
        exact L14 _ 0 _ (by first | rfl | omega) (by first | rfl | omega) (Nat.lt_succ_self _) ls (lv_sub hl [1, 2, 3, 4, 0] rfl)
  exact L5 _ 0 _ (by first | rfl | omega) (by first | rfl | omega) (Nat.lt_succ_self _) ls (lv_sub hl [2, 3, 1, 0] rfl)
set_option maxRecDepth 100000 in
set_option maxHeartbeats 4000000 in
theorem tX5_withPiles (l : Launch) (D : va_G) (cI cQ cL : ClassId) (ad : Nat → Nat) (N : Nat) (F : Nat → va_E) (hk : 76 < N) (c b v g h j : Nat → Int32) (t : Nat) (u z : Int32) (hN : stAt cI ad F 1 c b v g h j (nI t) u z) (c8 b8 v8 g8 h8 j8 : Nat → Int32) (t8 : Nat) (u8 z8 : Int32) (hSn : stAt cI ad F 9 c8 b8 v8 g8 h8 j8 (nI t8) u8 z8) (n9 m9 : Nat) (hn9 : n9 < 6) (hm9 : m9 ≤ 6) (hPa : paAt cQ ad F 17 n9 m9) (a : Nat → Int32) (n : Nat) (hn60 : n ≤ 60) (hT : gtAt cI ad F 67 a n) (c6 b6 v6 : Nat → Int32) (hM6 : matAt cI ad F 69 c6 b6 v6) (a7 d7 q7 : Nat → Int32) (hO : roAt cI ad F 73 a7 d7 q7) (hs : Bool) (hC : F 0 = .inr (5, [.ref (ad 1), .ref (ad 9), .ref (ad 17), .ref (ad 67), .ref (ad 69), .ref (ad 73), .int (bI hs)])) (x : Int64) : MR l yX5_withPiles (Cond.code yX5_withPiles cX5_withPiles 7 (some .long) :: AW) ({ frames := 8, cells := 0, slots := 0, locals := 127 } : Room) D cI cQ cL ad N F [.ref (ad 0), .long x] (.long (foP (fun w9 => decide (top c v (nI w9) = -1)) (fun w9 k9 => cPile c b v (cat (nI (w9 % 13)) (nI (w9 / 13))) (nI k9)) 4 169 x)) := by
  refine mr_l (by decide +kernel) rfl (Nat.le_of_ble_eq_true rfl) (fun p e s m below meth cd Q ls hx hb hml hown hts hP hK hNW hret hl => ?_)
  have hown : s.vm.findClass RX5 = some m.cls := hown
  have hz0 : 0 < N := by omega
  have hz1 : 1 < N := by omega
  have hz1___1 : 1 + 1 < N := by omega
  have hz1___1___1 : 1 + 1 + 1 < N := by omega
  have hz1___1___2 : 1 + 1 + 2 < N := by omega
  have hz1___1___3 : 1 + 1 + 3 < N := by omega
  have hz1___5 : 1 + 5 < N := by omega
  have hz1___6 : 1 + 6 < N := by omega
  have hz1___7 : 1 + 7 < N := by omega
  have hz9 : 9 < N := by omega
  have hz17 : 17 < N := by omega
  have hz17___1 : 17 + 1 < N := by omega
  have hz67 : 67 < N := by omega
  have hz67___1 : 67 + 1 < N := by omega
  have hz69 : 69 < N := by omega
  have hz69___1 : 69 + 1 < N := by omega
  have hz69___2 : 69 + 2 < N := by omega
  have hz69___3 : 69 + 3 < N := by omega
  have hz73 : 73 < N := by omega
  have hz1___1___3 : 1 + 1 + 3 < N := by omega
  have hz69___3 : 69 + 3 < N := by omega
  have hl : lv_has ls 7 [(0, .ref (ad 0)), (1, .long x)] := hl
  refine lv_lload_n hx hb (dk kX5_withPiles_ok 0 rfl) rfl (lv_at hl 1 rfl) ?_
  refine lv_lstore_n (lv' := [(3, .long x), (0, .ref (ad 0)), (1, .long x)]) hx hb (dk kX5_withPiles_ok 1 rfl) rfl hl (by decide) rfl (fun ls hl => ?_)
  refine lv_iconst (v := nI 0) hx hb (dk kX5_withPiles_ok 2 rfl) rfl ?_
  refine lv_istore (lv' := [(5, .int (nI 0)), (3, .long x), (0, .ref (ad 0)), (1, .long x)]) hx hb (dk kX5_withPiles_ok 3 rfl) hl (by decide) rfl (fun ls hl => ?_)
  have L5 : ∀ (fu : Nat) (i : Nat) (x3 : Int64), x3 = foP (fun w9 => decide (top c v (nI w9) = -1)) (fun w9 k9 => cPile c b v (cat (nI (w9 % 13)) (nI (w9 / 13))) (nI k9)) 4 i x → i ≤ 169 → 169 - i < fu → ∀ ls : Array Slot, lv_has ls 7 [(0, .ref (ad 0)), (1, .long x), (3, .long x3), (5, .int (nI i))] → W p l e ({ frames := 8, cells := 0, slots := 0, locals := 127 } : Room) s m ([.ref (ad 0), .long x] : List Value).toArray below meth cd s.heap [] 0 0 Q (F0 m 5 ls []) := by
    intro fu
    induction fu with
    | zero => intros; omega
    | succ fu ih5 =>
      intro i x3 ex3 hi hme5 ls hl
      subst ex3
      refine lv_iload hx hb (dk kX5_withPiles_ok 4 rfl) (lv_at hl 3 rfl) ?_
      refine lv_sipush (v := nI 169) hx hb (dk kX5_withPiles_ok 5 rfl) rfl ?_
      refine n_icmp_ge (tgt := 75) hx hb (by omega) (by decide) (dk kX5_withPiles_ok 6 rfl) (by decide) (fun h1 => ?_) (fun h1 => ?_)
      · skip
        refine lv_lload_n hx hb (dk kX5_withPiles_ok 37 rfl) rfl (lv_at hl 2 rfl) ?_
        exact hret _ _ _ (by rw [show i = 169 by omega]) (dk kX5_withPiles_ok 38 rfl)
      · skip
        refine lv_aload_n hx hb (dk kX5_withPiles_ok 7 rfl) rfl (lv_at hl 0 rfl) ?_
        refine gf hx hb hts (fun w h => List.mem_cons_of_mem _ (acX5 w h)) hown hK hP hz0 hC rfl 0 (by decide) (hts _ (List.mem_cons_of_mem _ (ac7 _ (List.mem_of_getElem? (i := 21) rfl)))) (fun _ h => h) rfl (dk kX5_withPiles_ok 8 rfl) ?_
        refine gfN hx hb hts (fun w h => List.mem_cons_of_mem _ (acX4 w h)) hown hK hP hz1 hN.1 rfl 0 (by decide) (nf2 hNW) (fun _ h => h) rfl (dk kX5_withPiles_ok 9 rfl) ?_
        refine lv_iload hx hb (dk kX5_withPiles_ok 10 rfl) (lv_at hl 3 rfl) ?_
        refine cvR (As := [.int (nI i)]) (rest := []) ⟨hx, hb, hml, hown, hts⟩ (tX1_topAt l D cI cQ cL ad N F (1 + 1) (by omega) c b v hN.2.1 (nI i)) (cwV9 1 hts mcX1_topAt (ac12 _ (List.mem_of_getElem? (i := 8) rfl)) miX1_topAt meX1_topAt mini_RX1 rfl rfl hdX1_topAt ⟨Nat.le_of_ble_eq_true rfl, Nat.le_of_ble_eq_true rfl⟩) hK hP hNW hz1___1 hN.2.1.1 rfl rfl hl.1 rfl (Nat.le_of_ble_eq_true rfl) (by decide) (dk kX5_withPiles_ok 11 rfl) ?_
        refine lv_iconst (v := -1) hx hb (dk kX5_withPiles_ok 12 rfl) rfl ?_
        refine lv_icmp_ne (tgt := 32) hx hb (dk kX5_withPiles_ok 13 rfl) (by decide) (fun h2 => ?_) (fun h2 => ?_)
        · skip
          refine lv_iconst (v := nI 0) hx hb (dk kX5_withPiles_ok 15 rfl) rfl ?_
          refine lv_istore (lv' := [(6, .int (nI 0)), (0, .ref (ad 0)), (1, .long x), (3, .long (foP (fun w9 => decide (top c v (nI w9) = -1)) (fun w9 k9 => cPile c b v (cat (nI (w9 % 13)) (nI (w9 / 13))) (nI k9)) 4 i x)), (5, .int (nI i))]) hx hb (dk kX5_withPiles_ok 16 rfl) hl (by decide) rfl (fun ls hl => ?_)
          have L35 : ∀ (fu : Nat) (q : Nat) (x3 : Int64), x3 = fo ((fun w9 k9 => cPile c b v (cat (nI (w9 % 13)) (nI (w9 / 13))) (nI k9)) i) q (foP (fun w9 => decide (top c v (nI w9) = -1)) (fun w9 k9 => cPile c b v (cat (nI (w9 % 13)) (nI (w9 / 13))) (nI k9)) 4 i x) → q ≤ 4 → 4 - q < fu → ∀ ls : Array Slot, lv_has ls 7 [(0, .ref (ad 0)), (1, .long x), (3, .long x3), (5, .int (nI i)), (6, .int (nI q))] → W p l e ({ frames := 8, cells := 0, slots := 0, locals := 127 } : Room) s m ([.ref (ad 0), .long x] : List Value).toArray below meth cd s.heap [] 0 0 Q (F0 m 35 ls []) := by
            intro fu
            induction fu with
            | zero => intros; omega
            | succ fu ih35 =>
              intro q x3 ex3 hq hme35 ls hl
              subst ex3
              refine lv_iload hx hb (dk kX5_withPiles_ok 17 rfl) (lv_at hl 4 rfl) ?_
              refine lv_iconst (v := nI 3) hx hb (dk kX5_withPiles_ok 18 rfl) rfl ?_
              refine n_icmp_gt (tgt := 69) hx hb (by omega) (by decide) (dk kX5_withPiles_ok 19 rfl) (by decide) (fun h3 => ?_) (fun h3 => ?_)
              · skip
                refine lv_iinc (v := nI (i + 1)) (lv' := [(5, .int (nI (i + 1))), (0, .ref (ad 0)), (1, .long x), (3, .long (fo ((fun w9 k9 => cPile c b v (cat (nI (w9 % 13)) (nI (w9 / 13))) (nI k9)) i) q (foP (fun w9 => decide (top c v (nI w9) = -1)) (fun w9 k9 => cPile c b v (cat (nI (w9 % 13)) (nI (w9 / 13))) (nI k9)) 4 i x))), (6, .int (nI q))]) hx hb (dk kX5_withPiles_ok 35 rfl) hl (k := 3) rfl (n_inc _) (by decide) rfl (fun ls hl => ?_)
                refine lv_goto (tgt := 5) hx hb (dk kX5_withPiles_ok 36 rfl) (by decide) ?_
                exact ih5 (i + 1) _ (by first | exact foP_t (T := (fun w9 => decide (top c v (nI w9) = -1))) (A := (fun w9 k9 => cPile c b v (cat (nI (w9 % 13)) (nI (w9 / 13))) (nI k9))) (decide_eq_true h2) | (obtain rfl : q = 4 := (by omega); exact foP_f (T := (fun w9 => decide (top c v (nI w9) = -1))) (A := (fun w9 k9 => cPile c b v (cat (nI (w9 % 13)) (nI (w9 / 13))) (nI k9))) (decide_eq_false h2))) (by omega) (by omega) ls (lv_sub hl [1, 2, 3, 0] rfl)
              · skip
                refine lv_lload_n hx hb (dk kX5_withPiles_ok 20 rfl) rfl (lv_at hl 2 rfl) ?_
                refine lv_aload_n hx hb (dk kX5_withPiles_ok 21 rfl) rfl (lv_at hl 0 rfl) ?_
                refine lv_iload hx hb (dk kX5_withPiles_ok 22 rfl) (lv_at hl 3 rfl) ?_
                refine lv_bipush (v := nI 13) hx hb (dk kX5_withPiles_ok 23 rfl) rfl ?_
                refine n_irem hx hb (by omega) (by decide) (by decide) (dk kX5_withPiles_ok 24 rfl) ?_
                refine lv_iload hx hb (dk kX5_withPiles_ok 25 rfl) (lv_at hl 3 rfl) ?_
                refine lv_bipush (v := nI 13) hx hb (dk kX5_withPiles_ok 26 rfl) rfl ?_
                refine n_idiv hx hb (by omega) (by decide) (by decide) (dk kX5_withPiles_ok 27 rfl) ?_
                refine lv_iload hx hb (dk kX5_withPiles_ok 28 rfl) (lv_at hl 4 rfl) ?_
                refine cvR (As := [.int (nI (i % 13)), .int (nI (i / 13)), .int (nI q)]) (rest := [.long (fo ((fun w9 k9 => cPile c b v (cat (nI (w9 % 13)) (nI (w9 / 13))) (nI k9)) i) q (foP (fun w9 => decide (top c v (nI w9) = -1)) (fun w9 k9 => cPile c b v (cat (nI (w9 % 13)) (nI (w9 / 13))) (nI k9)) 4 i x))]) ⟨hx, hb, hml, hown, hts⟩ (tX5_pile l D cI cQ cL ad N F (by omega) c b v g h j t u z hN c8 b8 v8 g8 h8 j8 t8 u8 z8 hSn n9 m9 hn9 hm9 hPa a n hn60 hT c6 b6 v6 hM6 a7 d7 q7 hO hs hC (nI (i % 13)) (nI (i / 13)) (nI q) (on_cell (by omega)) (btw_nI ⟨Nat.zero_le _, by omega⟩)) (cwV9 3 hts mcX5_pile (ac15 _ (List.mem_of_getElem? (i := 23) rfl)) miX5_pile meX5_pile mini_RX5 rfl rfl hdX5_pile ⟨Nat.le_of_ble_eq_true rfl, Nat.le_of_ble_eq_true rfl⟩) hK hP hNW hz0 hC rfl rfl hl.1 rfl (Nat.le_of_ble_eq_true rfl) (by decide) (dk kX5_withPiles_ok 29 rfl) ?_
                refine lv_i2l hx hb (dk kX5_withPiles_ok 30 rfl) rfl ?_
                refine csP (As := [.long (fo ((fun w9 k9 => cPile c b v (cat (nI (w9 % 13)) (nI (w9 / 13))) (nI k9)) i) q (foP (fun w9 => decide (top c v (nI w9) = -1)) (fun w9 k9 => cPile c b v (cat (nI (w9 % 13)) (nI (w9 / 13))) (nI k9)) 4 i x)), .long ((cPile c b v (cat (nI (i % 13)) (nI (i / 13))) (nI q)).toInt64)]) (rest := []) ⟨hx, hb, hml, hown, hts⟩ (tX5_mixed l (fo ((fun w9 k9 => cPile c b v (cat (nI (w9 % 13)) (nI (w9 / 13))) (nI k9)) i) q (foP (fun w9 => decide (top c v (nI w9) = -1)) (fun w9 k9 => cPile c b v (cat (nI (w9 % 13)) (nI (w9 / 13))) (nI k9)) 4 i x)) ((cPile c b v (cat (nI (i % 13)) (nI (i / 13))) (nI q)).toInt64)) (cwS9 2 hts mcX5_mixed (ac15 _ (List.mem_of_getElem? (i := 8) rfl)) msX5_mixed mini_RX5 rfl rfl hdX5_mixed ⟨Nat.le_of_ble_eq_true rfl, Nat.le_of_ble_eq_true rfl⟩) rfl hl.1 rfl (Nat.le_of_ble_eq_true rfl) (by decide) (dk kX5_withPiles_ok 31 rfl) ?_
                refine lv_lstore_n (lv' := [(3, .long (mxd (fo ((fun w9 k9 => cPile c b v (cat (nI (w9 % 13)) (nI (w9 / 13))) (nI k9)) i) q (foP (fun w9 => decide (top c v (nI w9) = -1)) (fun w9 k9 => cPile c b v (cat (nI (w9 % 13)) (nI (w9 / 13))) (nI k9)) 4 i x)) ((cPile c b v (cat (nI (i % 13)) (nI (i / 13))) (nI q)).toInt64))), (0, .ref (ad 0)), (1, .long x), (5, .int (nI i)), (6, .int (nI q))]) hx hb (dk kX5_withPiles_ok 32 rfl) rfl hl (by decide) rfl (fun ls hl => ?_)
                refine lv_iinc (v := nI (q + 1)) (lv' := [(6, .int (nI (q + 1))), (3, .long (mxd (fo ((fun w9 k9 => cPile c b v (cat (nI (w9 % 13)) (nI (w9 / 13))) (nI k9)) i) q (foP (fun w9 => decide (top c v (nI w9) = -1)) (fun w9 k9 => cPile c b v (cat (nI (w9 % 13)) (nI (w9 / 13))) (nI k9)) 4 i x)) ((cPile c b v (cat (nI (i % 13)) (nI (i / 13))) (nI q)).toInt64))), (0, .ref (ad 0)), (1, .long x), (5, .int (nI i))]) hx hb (dk kX5_withPiles_ok 33 rfl) hl (k := 4) rfl (n_inc _) (by decide) rfl (fun ls hl => ?_)
                refine lv_goto (tgt := 35) hx hb (dk kX5_withPiles_ok 34 rfl) (by decide) ?_
                exact ih35 (q + 1) _ (by exact fo_s (A := (fun w9 k9 => cPile c b v (cat (nI (w9 % 13)) (nI (w9 / 13))) (nI k9)) i)) (by omega) (by omega) ls (lv_sub hl [2, 3, 1, 4, 0] rfl)
          exact L35 _ 0 _ (by first | rfl | omega) (by first | rfl | omega) (Nat.lt_succ_self _) ls (lv_sub hl [1, 2, 3, 4, 0] rfl)
        · skip
          refine lv_goto (tgt := 69) hx hb (dk kX5_withPiles_ok 14 rfl) (by decide) ?_
          refine lv_iinc (v := nI (i + 1)) (lv' := [(5, .int (nI (i + 1))), (0, .ref (ad 0)), (1, .long x), (3, .long (foP (fun w9 => decide (top c v (nI w9) = -1)) (fun w9 k9 => cPile c b v (cat (nI (w9 % 13)) (nI (w9 / 13))) (nI k9)) 4 i x))]) hx hb (dk kX5_withPiles_ok 35 rfl) hl (k := 3) rfl (n_inc _) (by decide) rfl (fun ls hl => ?_)
          refine lv_goto (tgt := 5) hx hb (dk kX5_withPiles_ok 36 rfl) (by decide) ?_
          exact ih5 (i + 1) _ (by first | exact foP_t (T := (fun w9 => decide (top c v (nI w9) = -1))) (A := (fun w9 k9 => cPile c b v (cat (nI (w9 % 13)) (nI (w9 / 13))) (nI k9))) (decide_eq_true h2) | (obtain rfl : q = 4 := (by omega); exact foP_f (T := (fun w9 => decide (top c v (nI w9) = -1))) (A := (fun w9 k9 => cPile c b v (cat (nI (w9 % 13)) (nI (w9 / 13))) (nI k9))) (decide_eq_false h2))) (by omega) (by omega) ls (lv_sub hl [1, 2, 3, 0] rfl)
  exact L5 _ 0 _ (by first | rfl | omega) (by first | rfl | omega) (Nat.lt_succ_self _) ls (lv_sub hl [2, 3, 1, 0] rfl)
set_option maxRecDepth 100000 in
set_option maxHeartbeats 4000000 in
theorem tX5_withText (l : Launch) (D : va_G) (cI cQ cL : ClassId) (ad : Nat → Nat) (N : Nat) (F : Nat → va_E) (hk : 76 < N) (c b v g h j : Nat → Int32) (t : Nat) (u z : Int32) (hN : stAt cI ad F 1 c b v g h j (nI t) u z) (c8 b8 v8 g8 h8 j8 : Nat → Int32) (t8 : Nat) (u8 z8 : Int32) (hSn : stAt cI ad F 9 c8 b8 v8 g8 h8 j8 (nI t8) u8 z8) (n9 m9 : Nat) (hn9 : n9 < 6) (hm9 : m9 ≤ 6) (hPa : paAt cQ ad F 17 n9 m9) (a : Nat → Int32) (n : Nat) (hn60 : n ≤ 60) (hT : gtAt cI ad F 67 a n) (c6 b6 v6 : Nat → Int32) (hM6 : matAt cI ad F 69 c6 b6 v6) (a7 d7 q7 : Nat → Int32) (hO : roAt cI ad F 73 a7 d7 q7) (hs : Bool) (hC : F 0 = .inr (5, [.ref (ad 1), .ref (ad 9), .ref (ad 17), .ref (ad 67), .ref (ad 69), .ref (ad 73), .int (bI hs)])) (x : Int64) : MR l yX5_withText (Cond.code yX5_withText cX5_withText 6 (some .long) :: AW) ({ frames := 6, cells := 0, slots := 0, locals := 82 } : Room) D cI cQ cL ad N F [.ref (ad 0), .long x] (.long (fo (fun k9 => cod a n k9) n (mxd x (nI n).toInt64))) := by
  refine mr_l (by decide +kernel) rfl (Nat.le_of_ble_eq_true rfl) (fun p e s m below meth cd Q ls hx hb hml hown hts hP hK hNW hret hl => ?_)
  have hown : s.vm.findClass RX5 = some m.cls := hown
  have hz0 : 0 < N := by omega
  have hz1 : 1 < N := by omega
  have hz1___1 : 1 + 1 < N := by omega
  have hz1___1___1 : 1 + 1 + 1 < N := by omega
  have hz1___1___2 : 1 + 1 + 2 < N := by omega
  have hz1___1___3 : 1 + 1 + 3 < N := by omega
  have hz1___5 : 1 + 5 < N := by omega
  have hz1___6 : 1 + 6 < N := by omega
  have hz1___7 : 1 + 7 < N := by omega
  have hz9 : 9 < N := by omega
  have hz17 : 17 < N := by omega
  have hz17___1 : 17 + 1 < N := by omega
  have hz67 : 67 < N := by omega
  have hz67___1 : 67 + 1 < N := by omega
  have hz69 : 69 < N := by omega
  have hz69___1 : 69 + 1 < N := by omega
  have hz69___2 : 69 + 2 < N := by omega
  have hz69___3 : 69 + 3 < N := by omega
  have hz73 : 73 < N := by omega
  have hz1___1___3 : 1 + 1 + 3 < N := by omega
  have hz69___3 : 69 + 3 < N := by omega
  have hl : lv_has ls 6 [(0, .ref (ad 0)), (1, .long x)] := hl
  refine lv_lload_n hx hb (dk kX5_withText_ok 0 rfl) rfl (lv_at hl 1 rfl) ?_
  refine lv_aload_n hx hb (dk kX5_withText_ok 1 rfl) rfl (lv_at hl 0 rfl) ?_
  refine gf hx hb hts (fun w h => List.mem_cons_of_mem _ (acX5 w h)) hown hK hP hz0 hC rfl 3 (by decide) (hts _ (List.mem_cons_of_mem _ (ac8 _ (List.mem_of_getElem? (i := 5) rfl)))) (fun _ h => h) rfl (dk kX5_withText_ok 2 rfl) ?_
  refine gfN hx hb hts (fun w h => List.mem_cons_of_mem _ (acX0 w h)) hown hK hP hz67 hT.1 rfl 1 (by decide) (nf10 hNW) (fun _ h => h) rfl (dk kX5_withText_ok 3 rfl) ?_
  refine lv_i2l hx hb (dk kX5_withText_ok 4 rfl) rfl ?_
  refine csP (As := [.long x, .long ((nI n).toInt64)]) (rest := []) ⟨hx, hb, hml, hown, hts⟩ (tX5_mixed l x ((nI n).toInt64)) (cwS9 2 hts mcX5_mixed (ac15 _ (List.mem_of_getElem? (i := 8) rfl)) msX5_mixed mini_RX5 rfl rfl hdX5_mixed ⟨Nat.le_of_ble_eq_true rfl, Nat.le_of_ble_eq_true rfl⟩) rfl hl.1 rfl (Nat.le_of_ble_eq_true rfl) (by decide) (dk kX5_withText_ok 5 rfl) ?_
  refine lv_lstore_n (lv' := [(3, .long (mxd x ((nI n).toInt64))), (0, .ref (ad 0)), (1, .long x)]) hx hb (dk kX5_withText_ok 6 rfl) rfl hl (by decide) rfl (fun ls hl => ?_)
  refine lv_iconst (v := nI 0) hx hb (dk kX5_withText_ok 7 rfl) rfl ?_
  refine lv_istore (lv' := [(5, .int (nI 0)), (3, .long (mxd x ((nI n).toInt64))), (0, .ref (ad 0)), (1, .long x)]) hx hb (dk kX5_withText_ok 8 rfl) hl (by decide) rfl (fun ls hl => ?_)
  have L16 : ∀ (fu : Nat) (i : Nat) (x3 : Int64), x3 = fo (fun k9 => cod a n k9) i (mxd x (nI n).toInt64) → i ≤ n → n - i < fu → ∀ ls : Array Slot, lv_has ls 6 [(0, .ref (ad 0)), (1, .long x), (3, .long x3), (5, .int (nI i))] → W p l e ({ frames := 6, cells := 0, slots := 0, locals := 82 } : Room) s m ([.ref (ad 0), .long x] : List Value).toArray below meth cd s.heap [] 0 0 Q (F0 m 16 ls []) := by
    intro fu
    induction fu with
    | zero => intros; omega
    | succ fu ih16 =>
      intro i x3 ex3 hi hme16 ls hl
      subst ex3
      refine lv_iload hx hb (dk kX5_withText_ok 9 rfl) (lv_at hl 3 rfl) ?_
      refine lv_aload_n hx hb (dk kX5_withText_ok 10 rfl) rfl (lv_at hl 0 rfl) ?_
      refine gf hx hb hts (fun w h => List.mem_cons_of_mem _ (acX5 w h)) hown hK hP hz0 hC rfl 3 (by decide) (hts _ (List.mem_cons_of_mem _ (ac8 _ (List.mem_of_getElem? (i := 5) rfl)))) (fun _ h => h) rfl (dk kX5_withText_ok 11 rfl) ?_
      refine gfN hx hb hts (fun w h => List.mem_cons_of_mem _ (acX0 w h)) hown hK hP hz67 hT.1 rfl 1 (by decide) (nf10 hNW) (fun _ h => h) rfl (dk kX5_withText_ok 12 rfl) ?_
      refine n_icmp_ge (tgt := 49) hx hb (by omega) (by omega) (dk kX5_withText_ok 13 rfl) (by decide) (fun h1 => ?_) (fun h1 => ?_)
      · skip
        refine lv_lload_n hx hb (dk kX5_withText_ok 24 rfl) rfl (lv_at hl 2 rfl) ?_
        exact hret _ _ _ (by rw [show i = n by omega]) (dk kX5_withText_ok 25 rfl)
      · skip
        refine lv_lload_n hx hb (dk kX5_withText_ok 14 rfl) rfl (lv_at hl 2 rfl) ?_
        refine lv_aload_n hx hb (dk kX5_withText_ok 15 rfl) rfl (lv_at hl 0 rfl) ?_
        refine gf hx hb hts (fun w h => List.mem_cons_of_mem _ (acX5 w h)) hown hK hP hz0 hC rfl 3 (by decide) (hts _ (List.mem_cons_of_mem _ (ac8 _ (List.mem_of_getElem? (i := 5) rfl)))) (fun _ h => h) rfl (dk kX5_withText_ok 16 rfl) ?_
        refine lv_iload hx hb (dk kX5_withText_ok 17 rfl) (lv_at hl 3 rfl) ?_
        refine cvR (As := [.int (nI i)]) (rest := [.long (fo (fun k9 => cod a n k9) i (mxd x (nI n).toInt64))]) ⟨hx, hb, hml, hown, hts⟩ (tX0_codeAt l D cI cQ cL ad N F 67 (by omega) a n hn60 hT (nI i) i rfl (by omega)) (cwV9 1 hts mcX0_codeAt (ac11 _ (List.mem_of_getElem? (i := 2) rfl)) miX0_codeAt meX0_codeAt mini_RX0 rfl rfl hdX0_codeAt ⟨Nat.le_of_ble_eq_true rfl, Nat.le_of_ble_eq_true rfl⟩) hK hP hNW hz67 hT.1 rfl rfl hl.1 rfl (Nat.le_of_ble_eq_true rfl) (by decide) (dk kX5_withText_ok 18 rfl) ?_
        refine lv_i2l hx hb (dk kX5_withText_ok 19 rfl) rfl ?_
        refine csP (As := [.long (fo (fun k9 => cod a n k9) i (mxd x (nI n).toInt64)), .long ((cod a n i).toInt64)]) (rest := []) ⟨hx, hb, hml, hown, hts⟩ (tX5_mixed l (fo (fun k9 => cod a n k9) i (mxd x (nI n).toInt64)) ((cod a n i).toInt64)) (cwS9 2 hts mcX5_mixed (ac15 _ (List.mem_of_getElem? (i := 8) rfl)) msX5_mixed mini_RX5 rfl rfl hdX5_mixed ⟨Nat.le_of_ble_eq_true rfl, Nat.le_of_ble_eq_true rfl⟩) rfl hl.1 rfl (Nat.le_of_ble_eq_true rfl) (by decide) (dk kX5_withText_ok 20 rfl) ?_
        refine lv_lstore_n (lv' := [(3, .long (mxd (fo (fun k9 => cod a n k9) i (mxd x (nI n).toInt64)) ((cod a n i).toInt64))), (0, .ref (ad 0)), (1, .long x), (5, .int (nI i))]) hx hb (dk kX5_withText_ok 21 rfl) rfl hl (by decide) rfl (fun ls hl => ?_)
        refine lv_iinc (v := nI (i + 1)) (lv' := [(5, .int (nI (i + 1))), (3, .long (mxd (fo (fun k9 => cod a n k9) i (mxd x (nI n).toInt64)) ((cod a n i).toInt64))), (0, .ref (ad 0)), (1, .long x)]) hx hb (dk kX5_withText_ok 22 rfl) hl (k := 3) rfl (n_inc _) (by decide) rfl (fun ls hl => ?_)
        refine lv_goto (tgt := 16) hx hb (dk kX5_withText_ok 23 rfl) (by decide) ?_
        exact ih16 (i + 1) _ (by exact fo_s (A := (fun k9 => cod a n k9))) (by omega) (by omega) ls (lv_sub hl [2, 3, 1, 0] rfl)
  exact L16 _ 0 _ (by first | rfl | omega) (by first | rfl | omega) (Nat.lt_succ_self _) ls (lv_sub hl [2, 3, 1, 0] rfl)
