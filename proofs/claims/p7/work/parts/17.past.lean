set_option maxRecDepth 100000 in
set_option maxHeartbeats 4000000 in
theorem tX3_fewest (l : Launch) (D : va_G) (cI cQ cL : ClassId) (ad : Nat → Nat) (N : Nat) (F : Nat → va_E) (k : Nat) (hk : k + 3 < N) (a d q : Nat → Int32) (hO : roAt cI ad F k a d q) (x : Int32) (w : Nat) (hxw : x = nI w) (hw : w < 169) (g : Bool) : MX l yX3_fewest (Cond.code yX3_fewest cX3_fewest 4 (some .int) :: AW) ({ frames := 3, cells := 0, slots := 0, locals := 76 } : Room) D cI cQ cL ad N F [.ref (ad k), .int x, .int (bI g)] (dp (some (.int ((few a d q w g).1 (if g = true then w else 169 + w)))) (roSet cI ad F k (few a d q w g).1 (few a d q w g).2.1 (few a d q w g).2.2)) 0 0 := by
  refine mx_i (ty := .int) (by decide +kernel) rfl (Nat.le_of_ble_eq_true rfl) (fun p e s m below meth cd Q ls hx hb hml hown hts hDi hP hK hNW hS hret hl => ?_)
  have hown : s.vm.findClass RX3 = some m.cls := hown
  subst hxw
  have hk0 : k < N := by omega
  have hk1 : k + 1 < N := by omega
  have hk2 : k + 2 < N := by omega
  have hk3 : k + 3 < N := hk
  have hP : va_P D vwCl (iW ad N (roSet cI ad F k a d q)) s.heap := by rw [roSet_self hO]; exact hP
  have hl : lv_has ls 4 [(0, .ref (ad k)), (1, .int (nI w)), (2, .int (bI g))] := hl
  refine lv_iload_n hx hb (dk kX3_fewest_ok 0 rfl) rfl (lv_at hl 1 rfl) ?_
  refine n_if_lt (tgt := 11) hx hb (by omega) (dk kX3_fewest_ok 1 rfl) (by decide) ?_
  refine lv_iload_n hx hb (dk kX3_fewest_ok 2 rfl) rfl (lv_at hl 1 rfl) ?_
  refine lv_sipush (v := nI 169) hx hb (dk kX3_fewest_ok 3 rfl) rfl ?_
  refine n_icmp_lt (tgt := 13) hx hb (by omega) (by decide) (dk kX3_fewest_ok 4 rfl) (by decide) (fun h1 => ?_) (fun h1 => ?_)
  · skip
    refine lv_iload_n hx hb (dk kX3_fewest_ok 7 rfl) rfl (lv_at hl 2 rfl) ?_
    refine b_if_eq (tgt := 21) hx hb (dk kX3_fewest_ok 8 rfl) (by decide) (fun h2 => ?_) (fun h2 => ?_)
    · skip
      refine lv_sipush (v := nI 169) hx hb (dk kX3_fewest_ok 11 rfl) rfl ?_
      refine lv_iload_n hx hb (dk kX3_fewest_ok 12 rfl) rfl (lv_at hl 1 rfl) ?_
      refine n_iadd hx hb (dk kX3_fewest_ok 13 rfl) ?_
      refine lv_istore_n (lv' := [(3, .int (nI (169 + w))), (0, .ref (ad k)), (1, .int (nI w)), (2, .int (bI g))]) hx hb (dk kX3_fewest_ok 14 rfl) rfl hl (by decide) rfl (fun ls hl => ?_)
      refine lv_aload_n hx hb (dk kX3_fewest_ok 15 rfl) rfl (lv_at hl 1 rfl) ?_
      refine gf hx hb hts (fun w h => List.mem_cons_of_mem _ (acX3 w h)) hown hK hP hk0 roSet_at.1 rfl 0 (by decide) (hts _ (List.mem_cons_of_mem _ (ac5 _ (List.mem_of_getElem? (i := 11) rfl)))) (fun _ h => h) rfl (dk kX3_fewest_ok 16 rfl) ?_
      refine lv_iload_n hx hb (dk kX3_fewest_ok 17 rfl) rfl (lv_at hl 0 rfl) ?_
      refine ald (j := (169 + w)) hx hb hK hP hk1 roSet_at.2.1 rfl (by omega) (by decide) (dk kX3_fewest_ok 18 rfl) ?_
      refine lv_if_ne (tgt := 56) hx hb (dk kX3_fewest_ok 19 rfl) (by decide) (fun h3 => ?_) (fun h3 => ?_)
      · skip
        refine lv_aload_n hx hb (dk kX3_fewest_ok 32 rfl) rfl (lv_at hl 1 rfl) ?_
        refine gf hx hb hts (fun w h => List.mem_cons_of_mem _ (acX3 w h)) hown hK hP hk0 roSet_at.1 rfl 0 (by decide) (hts _ (List.mem_cons_of_mem _ (ac5 _ (List.mem_of_getElem? (i := 11) rfl)))) (fun _ h => h) rfl (dk kX3_fewest_ok 33 rfl) ?_
        refine lv_iload_n hx hb (dk kX3_fewest_ok 34 rfl) rfl (lv_at hl 0 rfl) ?_
        refine ald (j := (169 + w)) hx hb hK hP hk1 roSet_at.2.1 rfl (by omega) (by decide) (dk kX3_fewest_ok 35 rfl) ?_
        exact hret _ _ _ _ _ _ _ _ rfl (by first | (exfalso; omega) | (simp only [few, dp, (eq_true h1), (eq_false (Nat.not_le.mpr h1)), h2, (eq_false h3), not_true_eq_false, not_false_eq_true, and_true, true_and, and_false, false_and, or_true, true_or, or_false, false_or, and_self, or_self, if_true, if_false, Bool.false_eq_true, reduceIte, upd]; first | done | exact ⟨rfl, rfl⟩)) hP hS (by decide) (by decide) (dk kX3_fewest_ok 36 rfl)
      · skip
        refine lv_aload_n hx hb (dk kX3_fewest_ok 20 rfl) rfl (lv_at hl 1 rfl) ?_
        refine gf hx hb hts (fun w h => List.mem_cons_of_mem _ (acX3 w h)) hown hK hP hk0 roSet_at.1 rfl 0 (by decide) (hts _ (List.mem_cons_of_mem _ (ac5 _ (List.mem_of_getElem? (i := 11) rfl)))) (fun _ h => h) rfl (dk kX3_fewest_ok 21 rfl) ?_
        refine lv_iload_n hx hb (dk kX3_fewest_ok 22 rfl) rfl (lv_at hl 0 rfl) ?_
        refine lv_aload_n hx hb (dk kX3_fewest_ok 23 rfl) rfl (lv_at hl 1 rfl) ?_
        refine lv_iload_n hx hb (dk kX3_fewest_ok 24 rfl) rfl (lv_at hl 2 rfl) ?_
        refine lv_iload_n hx hb (dk kX3_fewest_ok 25 rfl) rfl (lv_at hl 3 rfl) ?_
        refine b_if_eq (tgt := 51) hx hb (dk kX3_fewest_ok 26 rfl) (by decide) (fun h4 => ?_) (fun h4 => ?_)
        · skip
          refine lv_iconst (v := nI 1) hx hb (dk kX3_fewest_ok 29 rfl) rfl ?_
          refine cvD (As := [.int (nI w), .int (nI 1)]) (rest := [.int (nI (169 + w)), .ref (ad (k + 1))]) (roSet cI ad F k a ((sea q w 1).2.1) ((sea q w 1).2.2)) ⟨hx, hb, hml, hown, hts⟩ (tX3_search l D cI cQ cL ad N (roSet cI ad F k a d q) k hk a d q (roSet_at) (nI w) w rfl (by omega) (nI 1) 1 rfl (by omega)) (cwV9 2 hts mcX3_search (ac6 _ (List.mem_of_getElem? (i := 5) rfl)) miX3_search meX3_search mini_RX3 rfl rfl hdX3_search ⟨Nat.le_of_ble_eq_true rfl, Nat.le_of_ble_eq_true rfl⟩) hDi hK hP hNW hS hk0 roSet_at.1 rfl rfl hl.1 rfl (Nat.le_of_ble_eq_true rfl) (by decide) (dk kX3_fewest_ok 30 rfl) roSet_roSet (fun H locs hP hS => ?_)
          refine ast (roSet cI ad F k (upd a (169 + w) ((sea q w 1).1)) ((sea q w 1).2.1) ((sea q w 1).2.2)) (j := (169 + w)) hx hb hK hDi hP hS hk1 roSet_at.2.1 rfl (by omega) (by decide) (dk kX3_fewest_ok 31 rfl) roSet_u1 (fun H locs hP hS => ?_)
          refine lv_aload_n hx hb (dk kX3_fewest_ok 32 rfl) rfl (lv_at hl 1 rfl) ?_
          refine gf hx hb hts (fun w h => List.mem_cons_of_mem _ (acX3 w h)) hown hK hP hk0 roSet_at.1 rfl 0 (by decide) (hts _ (List.mem_cons_of_mem _ (ac5 _ (List.mem_of_getElem? (i := 11) rfl)))) (fun _ h => h) rfl (dk kX3_fewest_ok 33 rfl) ?_
          refine lv_iload_n hx hb (dk kX3_fewest_ok 34 rfl) rfl (lv_at hl 0 rfl) ?_
          refine ald (j := (169 + w)) hx hb hK hP hk1 roSet_at.2.1 rfl (by omega) (by decide) (dk kX3_fewest_ok 35 rfl) ?_
          exact hret _ _ _ _ _ _ _ _ rfl (by first | (exfalso; omega) | (simp only [few, dp, (eq_true h1), (eq_false (Nat.not_le.mpr h1)), h2, (eq_true h3), h4, not_true_eq_false, not_false_eq_true, and_true, true_and, and_false, false_and, or_true, true_or, or_false, false_or, and_self, or_self, if_true, if_false, Bool.false_eq_true, reduceIte, upd]; first | done | exact ⟨rfl, rfl⟩)) hP hS (by decide) (by decide) (dk kX3_fewest_ok 36 rfl)
        · exact absurd (h2.symm.trans h4) (by decide)
    · skip
      refine lv_iload_n hx hb (dk kX3_fewest_ok 9 rfl) rfl (lv_at hl 1 rfl) ?_
      refine lv_goto (tgt := 26) hx hb (dk kX3_fewest_ok 10 rfl) (by decide) ?_
      refine lv_istore_n (lv' := [(3, .int (nI w)), (0, .ref (ad k)), (1, .int (nI w)), (2, .int (bI g))]) hx hb (dk kX3_fewest_ok 14 rfl) rfl hl (by decide) rfl (fun ls hl => ?_)
      refine lv_aload_n hx hb (dk kX3_fewest_ok 15 rfl) rfl (lv_at hl 1 rfl) ?_
      refine gf hx hb hts (fun w h => List.mem_cons_of_mem _ (acX3 w h)) hown hK hP hk0 roSet_at.1 rfl 0 (by decide) (hts _ (List.mem_cons_of_mem _ (ac5 _ (List.mem_of_getElem? (i := 11) rfl)))) (fun _ h => h) rfl (dk kX3_fewest_ok 16 rfl) ?_
      refine lv_iload_n hx hb (dk kX3_fewest_ok 17 rfl) rfl (lv_at hl 0 rfl) ?_
      refine ald (j := w) hx hb hK hP hk1 roSet_at.2.1 rfl (by omega) (by decide) (dk kX3_fewest_ok 18 rfl) ?_
      refine lv_if_ne (tgt := 56) hx hb (dk kX3_fewest_ok 19 rfl) (by decide) (fun h5 => ?_) (fun h5 => ?_)
      · skip
        refine lv_aload_n hx hb (dk kX3_fewest_ok 32 rfl) rfl (lv_at hl 1 rfl) ?_
        refine gf hx hb hts (fun w h => List.mem_cons_of_mem _ (acX3 w h)) hown hK hP hk0 roSet_at.1 rfl 0 (by decide) (hts _ (List.mem_cons_of_mem _ (ac5 _ (List.mem_of_getElem? (i := 11) rfl)))) (fun _ h => h) rfl (dk kX3_fewest_ok 33 rfl) ?_
        refine lv_iload_n hx hb (dk kX3_fewest_ok 34 rfl) rfl (lv_at hl 0 rfl) ?_
        refine ald (j := w) hx hb hK hP hk1 roSet_at.2.1 rfl (by omega) (by decide) (dk kX3_fewest_ok 35 rfl) ?_
        exact hret _ _ _ _ _ _ _ _ rfl (by first | (exfalso; omega) | (simp only [few, dp, (eq_true h1), (eq_false (Nat.not_le.mpr h1)), h2, (eq_false h5), not_true_eq_false, not_false_eq_true, and_true, true_and, and_false, false_and, or_true, true_or, or_false, false_or, and_self, or_self, if_true, if_false, Bool.false_eq_true, reduceIte, upd]; first | done | exact ⟨rfl, rfl⟩)) hP hS (by decide) (by decide) (dk kX3_fewest_ok 36 rfl)
      · skip
        refine lv_aload_n hx hb (dk kX3_fewest_ok 20 rfl) rfl (lv_at hl 1 rfl) ?_
        refine gf hx hb hts (fun w h => List.mem_cons_of_mem _ (acX3 w h)) hown hK hP hk0 roSet_at.1 rfl 0 (by decide) (hts _ (List.mem_cons_of_mem _ (ac5 _ (List.mem_of_getElem? (i := 11) rfl)))) (fun _ h => h) rfl (dk kX3_fewest_ok 21 rfl) ?_
        refine lv_iload_n hx hb (dk kX3_fewest_ok 22 rfl) rfl (lv_at hl 0 rfl) ?_
        refine lv_aload_n hx hb (dk kX3_fewest_ok 23 rfl) rfl (lv_at hl 1 rfl) ?_
        refine lv_iload_n hx hb (dk kX3_fewest_ok 24 rfl) rfl (lv_at hl 2 rfl) ?_
        refine lv_iload_n hx hb (dk kX3_fewest_ok 25 rfl) rfl (lv_at hl 3 rfl) ?_
        refine b_if_eq (tgt := 51) hx hb (dk kX3_fewest_ok 26 rfl) (by decide) (fun h6 => ?_) (fun h6 => ?_)
        · exact absurd (h2.symm.trans h6) (by decide)
        · skip
          refine lv_iconst (v := nI 0) hx hb (dk kX3_fewest_ok 27 rfl) rfl ?_
          refine lv_goto (tgt := 52) hx hb (dk kX3_fewest_ok 28 rfl) (by decide) ?_
          refine cvD (As := [.int (nI w), .int (nI 0)]) (rest := [.int (nI w), .ref (ad (k + 1))]) (roSet cI ad F k a ((sea q w 0).2.1) ((sea q w 0).2.2)) ⟨hx, hb, hml, hown, hts⟩ (tX3_search l D cI cQ cL ad N (roSet cI ad F k a d q) k hk a d q (roSet_at) (nI w) w rfl (by omega) (nI 0) 0 rfl (by omega)) (cwV9 2 hts mcX3_search (ac6 _ (List.mem_of_getElem? (i := 5) rfl)) miX3_search meX3_search mini_RX3 rfl rfl hdX3_search ⟨Nat.le_of_ble_eq_true rfl, Nat.le_of_ble_eq_true rfl⟩) hDi hK hP hNW hS hk0 roSet_at.1 rfl rfl hl.1 rfl (Nat.le_of_ble_eq_true rfl) (by decide) (dk kX3_fewest_ok 30 rfl) roSet_roSet (fun H locs hP hS => ?_)
          refine ast (roSet cI ad F k (upd a w ((sea q w 0).1)) ((sea q w 0).2.1) ((sea q w 0).2.2)) (j := w) hx hb hK hDi hP hS hk1 roSet_at.2.1 rfl (by omega) (by decide) (dk kX3_fewest_ok 31 rfl) roSet_u1 (fun H locs hP hS => ?_)
          refine lv_aload_n hx hb (dk kX3_fewest_ok 32 rfl) rfl (lv_at hl 1 rfl) ?_
          refine gf hx hb hts (fun w h => List.mem_cons_of_mem _ (acX3 w h)) hown hK hP hk0 roSet_at.1 rfl 0 (by decide) (hts _ (List.mem_cons_of_mem _ (ac5 _ (List.mem_of_getElem? (i := 11) rfl)))) (fun _ h => h) rfl (dk kX3_fewest_ok 33 rfl) ?_
          refine lv_iload_n hx hb (dk kX3_fewest_ok 34 rfl) rfl (lv_at hl 0 rfl) ?_
          refine ald (j := w) hx hb hK hP hk1 roSet_at.2.1 rfl (by omega) (by decide) (dk kX3_fewest_ok 35 rfl) ?_
          exact hret _ _ _ _ _ _ _ _ rfl (by first | (exfalso; omega) | (simp only [few, dp, (eq_true h1), (eq_false (Nat.not_le.mpr h1)), h2, (eq_true h5), h6, not_true_eq_false, not_false_eq_true, and_true, true_and, and_false, false_and, or_true, true_or, or_false, false_or, and_self, or_self, if_true, if_false, Bool.false_eq_true, reduceIte, upd]; first | done | exact ⟨rfl, rfl⟩)) hP hS (by decide) (by decide) (dk kX3_fewest_ok 36 rfl)
  · skip
    refine lv_iconst (v := -1) hx hb (dk kX3_fewest_ok 5 rfl) rfl ?_
    exact hret _ _ _ _ _ _ _ _ rfl (by first | (exfalso; omega) | (simp only [few, dp, (eq_true h1), (eq_false (Nat.not_lt.mpr h1)), not_true_eq_false, not_false_eq_true, and_true, true_and, and_false, false_and, or_true, true_or, or_false, false_or, and_self, or_self, if_true, if_false, Bool.false_eq_true, reduceIte, upd]; first | done | exact ⟨rfl, rfl⟩)) hP hS (by decide) (by decide) (dk kX3_fewest_ok 6 rfl)
set_option maxRecDepth 100000 in
set_option maxHeartbeats 4000000 in
theorem tX2_save (l : Launch) (D : va_G) (cI cQ cL : ClassId) (ad : Nat → Nat) (N : Nat) (F : Nat → va_E) (k : Nat) (n m9 : Nat) (hn : n < 6) (hm9 : m9 ≤ 6) (hk : k + 1 < N) (hPa : paAt cQ ad F k n m9) (c b v g h j : Nat → Int32) (t : Nat) (u z : Int32) (hS0 : stAt cI ad F (k + 2 + 8 * n) c b v g h j (nI t) u z) (hks7 : k + 2 + 8 * n + 7 < N) (k2 : Nat) (hq : k2 + 7 < N) (c2 b2 v2 g2 h2 j2 : Nat → Int32) (t2 : Nat) (u2 z2 : Int32) (hS2 : stAt cI ad F k2 c2 b2 v2 g2 h2 j2 (nI t2) u2 z2) (hd : k2 + 7 < k ∨ k + 2 + 8 * 5 + 7 < k2) : MX l yX2_save (Cond.code yX2_save cX2_save 2 none :: AW) ({ frames := 3, cells := 0, slots := 0, locals := 60 } : Room) D cI cQ cL ad N F [.ref (ad k), .ref (ad k2)] (dp none (paSet cQ ad (sSet cI ad F (k + 2 + 8 * n) c2 b2 v2 g2 h2 j2 (nI t2) u2 z2) k ((n + 1) % 6) (min (m9 + 1) 6))) 0 0 := by
  refine mx_v (by decide +kernel) rfl (Nat.le_of_ble_eq_true rfl) (fun p e s m below meth cd Q ls hx hb hml hown hts hDi hP hK hNW hS hret hl => ?_)
  have hown : s.vm.findClass RX2 = some m.cls := hown
  have hk0 : k < N := by omega
  have hk1 : k + 1 < N := hk
  have hks : k + 2 + 8 * n < N := by omega
  have hq0 : k2 < N := by omega
  have hl : lv_has ls 2 [(0, .ref (ad k)), (1, .ref (ad k2))] := hl
  refine lv_aload_n hx hb (dk kX2_save_ok 0 rfl) rfl (lv_at hl 0 rfl) ?_
  refine gf hx hb hts (fun w h => List.mem_cons_of_mem _ (acX2 w h)) hown hK hP hk0 hPa.1 rfl 0 (by decide) (hts _ (List.mem_cons_of_mem _ (ac4 _ (List.mem_of_getElem? (i := 15) rfl)))) (fun _ h => h) rfl (dk kX2_save_ok 1 rfl) ?_
  refine lv_aload_n hx hb (dk kX2_save_ok 2 rfl) rfl (lv_at hl 0 rfl) ?_
  refine gf hx hb hts (fun w h => List.mem_cons_of_mem _ (acX2 w h)) hown hK hP hk0 hPa.1 rfl 1 (by decide) (hts _ (List.mem_cons_of_mem _ (ac4 _ (List.mem_of_getElem? (i := 16) rfl)))) (fun _ h => h) rfl (dk kX2_save_ok 3 rfl) ?_
  refine aldq hx hb hK hP hk1 hPa.2 (by omega) (by decide) rfl (dk kX2_save_ok 4 rfl) ?_
  refine lv_ifnull hx hb (dk kX2_save_ok 5 rfl) ?_
  refine lv_aload_n hx hb (dk kX2_save_ok 6 rfl) rfl (lv_at hl 0 rfl) ?_
  refine gf hx hb hts (fun w h => List.mem_cons_of_mem _ (acX2 w h)) hown hK hP hk0 hPa.1 rfl 0 (by decide) (hts _ (List.mem_cons_of_mem _ (ac4 _ (List.mem_of_getElem? (i := 15) rfl)))) (fun _ h => h) rfl (dk kX2_save_ok 7 rfl) ?_
  refine lv_aload_n hx hb (dk kX2_save_ok 8 rfl) rfl (lv_at hl 0 rfl) ?_
  refine gf hx hb hts (fun w h => List.mem_cons_of_mem _ (acX2 w h)) hown hK hP hk0 hPa.1 rfl 1 (by decide) (hts _ (List.mem_cons_of_mem _ (ac4 _ (List.mem_of_getElem? (i := 16) rfl)))) (fun _ h => h) rfl (dk kX2_save_ok 9 rfl) ?_
  refine aldq hx hb hK hP hk1 hPa.2 (by omega) (by decide) rfl (dk kX2_save_ok 10 rfl) ?_
  refine lv_aload_n hx hb (dk kX2_save_ok 11 rfl) rfl (lv_at hl 1 rfl) ?_
  refine cvDv (As := [.ref (ad k2)]) (rest := []) (paSet cQ ad (sSet cI ad F (k + 2 + 8 * n) c2 b2 v2 g2 h2 j2 (nI t2) u2 z2) k n m9) ⟨hx, hb, hml, hown, hts⟩ (tX4_copyFrom l D cI cQ cL ad N F (k + 2 + 8 * n) (by omega) c b v g h j t u z hS0 k2 hq c2 b2 v2 g2 h2 j2 t2 u2 z2 hS2 (by omega)) (cwV9 1 hts mcX4_copyFrom (ac5 _ (List.mem_of_getElem? (i := 6) rfl)) miX4_copyFrom meX4_copyFrom mini_RX4 rfl rfl hdX4_copyFrom ⟨Nat.le_of_ble_eq_true rfl, Nat.le_of_ble_eq_true rfl⟩) hDi hK hP hNW hS hks hS0.1 rfl rfl hl.1 rfl (Nat.le_of_ble_eq_true rfl) (by decide) (dk kX2_save_ok 12 rfl) (paSet_self (paAt_keep hPa (fun i _ _ => sSet_out (by omega)))).symm (fun H locs hP hS => ?_)
  refine lv_aload_n hx hb (dk kX2_save_ok 13 rfl) rfl (lv_at hl 0 rfl) ?_
  refine lv_aload_n hx hb (dk kX2_save_ok 14 rfl) rfl (lv_at hl 0 rfl) ?_
  refine gf hx hb hts (fun w h => List.mem_cons_of_mem _ (acX2 w h)) hown hK hP hk0 paSet_at.1 rfl 1 (by decide) (hts _ (List.mem_cons_of_mem _ (ac4 _ (List.mem_of_getElem? (i := 16) rfl)))) (fun _ h => h) rfl (dk kX2_save_ok 15 rfl) ?_
  refine lv_iconst (v := nI 1) hx hb (dk kX2_save_ok 16 rfl) rfl ?_
  refine n_iadd hx hb (dk kX2_save_ok 17 rfl) ?_
  refine lv_bipush (v := nI 6) hx hb (dk kX2_save_ok 18 rfl) rfl ?_
  refine n_irem hx hb (by omega) (by decide) (by decide) (dk kX2_save_ok 19 rfl) ?_
  refine pf (paSet cQ ad (sSet cI ad F (k + 2 + 8 * n) c2 b2 v2 g2 h2 j2 (nI t2) u2 z2) k ((n + 1) % 6) m9) hx hb hts (fun w h => List.mem_cons_of_mem _ (acX2 w h)) tyX2 tyX2_ok nmX2 hown hK hDi hP hS hk0 paSet_at.1 rfl 1 (by decide) (hts _ (List.mem_cons_of_mem _ (ac4 _ (List.mem_of_getElem? (i := 16) rfl)))) (fun _ h => h) rfl (ty := .int) rfl rfl rfl (Nat.le_of_ble_eq_true rfl) (dk kX2_save_ok 20 rfl) paSet_u0 (fun H locs hP hS => ?_)
  refine lv_aload_n hx hb (dk kX2_save_ok 21 rfl) rfl (lv_at hl 0 rfl) ?_
  refine lv_aload_n hx hb (dk kX2_save_ok 22 rfl) rfl (lv_at hl 0 rfl) ?_
  refine gf hx hb hts (fun w h => List.mem_cons_of_mem _ (acX2 w h)) hown hK hP hk0 paSet_at.1 rfl 2 (by decide) (hts _ (List.mem_cons_of_mem _ (ac4 _ (List.mem_of_getElem? (i := 17) rfl)))) (fun _ h => h) rfl (dk kX2_save_ok 23 rfl) ?_
  refine lv_iconst (v := nI 1) hx hb (dk kX2_save_ok 24 rfl) rfl ?_
  refine n_iadd hx hb (dk kX2_save_ok 25 rfl) ?_
  refine lv_bipush (v := nI 6) hx hb (dk kX2_save_ok 26 rfl) rfl ?_
  refine n_mmin (by omega) (by decide) hx hb (by rw [hml, hl.1]) hown (hts _ (List.mem_cons_of_mem _ (ac5 _ (List.mem_of_getElem? (i := 3) rfl)))) (hts _ (List.mem_cons_of_mem _ (ac5 _ (List.mem_of_getElem? (i := 4) rfl)))) (hts _ (List.mem_cons_of_mem _ (ac2 _ (List.mem_of_getElem? (i := 10) rfl)))) (hts _ (List.mem_cons_of_mem _ (ac5 _ (List.mem_of_getElem? (i := 5) rfl)))) (Nat.le_of_ble_eq_true rfl) (Nat.le_of_ble_eq_true rfl) (Nat.le_of_ble_eq_true rfl) (Nat.le_of_ble_eq_true rfl) (dk kX2_save_ok 27 rfl) ?_
  refine pf (paSet cQ ad (sSet cI ad F (k + 2 + 8 * n) c2 b2 v2 g2 h2 j2 (nI t2) u2 z2) k ((n + 1) % 6) (min (m9 + 1) 6)) hx hb hts (fun w h => List.mem_cons_of_mem _ (acX2 w h)) tyX2 tyX2_ok nmX2 hown hK hDi hP hS hk0 paSet_at.1 rfl 2 (by decide) (hts _ (List.mem_cons_of_mem _ (ac4 _ (List.mem_of_getElem? (i := 17) rfl)))) (fun _ h => h) rfl (ty := .int) rfl rfl rfl (Nat.le_of_ble_eq_true rfl) (dk kX2_save_ok 28 rfl) paSet_u0 (fun H locs hP hS => ?_)
  exact hret _ _ _ _ _ _ _ (by exact ⟨rfl, rfl⟩) hP hS (by decide) (by decide) (dk kX2_save_ok 29 rfl)
set_option maxRecDepth 100000 in
set_option maxHeartbeats 4000000 in
theorem tX2_restore (l : Launch) (D : va_G) (cI cQ cL : ClassId) (ad : Nat → Nat) (N : Nat) (F : Nat → va_E) (k : Nat) (n m9 : Nat) (hn : n < 6) (hm9 : m9 ≤ 6) (hm0 : 1 ≤ m9) (hk : k + 1 < N) (hPa : paAt cQ ad F k n m9) (c b v g h j : Nat → Int32) (t : Nat) (u z : Int32) (hS0 : stAt cI ad F (k + 2 + 8 * ((n + 6 - 1) % 6)) c b v g h j (nI t) u z) (hks7 : k + 2 + 8 * ((n + 6 - 1) % 6) + 7 < N) (k2 : Nat) (hq : k2 + 7 < N) (c2 b2 v2 g2 h2 j2 : Nat → Int32) (t2 : Nat) (u2 z2 : Int32) (hS2 : stAt cI ad F k2 c2 b2 v2 g2 h2 j2 (nI t2) u2 z2) (hd : k2 + 7 < k ∨ k + 2 + 8 * 5 + 7 < k2) : MX l yX2_restore (Cond.code yX2_restore cX2_restore 2 none :: AW) ({ frames := 3, cells := 0, slots := 0, locals := 60 } : Room) D cI cQ cL ad N F [.ref (ad k), .ref (ad k2)] (dp none (sSet cI ad (paSet cQ ad F k ((n + 6 - 1) % 6) (m9 - 1)) k2 c b v g h j (nI t) u z)) 0 0 := by
  refine mx_v (by decide +kernel) rfl (Nat.le_of_ble_eq_true rfl) (fun p e s m below meth cd Q ls hx hb hml hown hts hDi hP hK hNW hS hret hl => ?_)
  have hown : s.vm.findClass RX2 = some m.cls := hown
  have hk0 : k < N := by omega
  have hk1 : k + 1 < N := hk
  have hq0 : k2 < N := by omega
  have hP : va_P D vwCl (iW ad N (paSet cQ ad F k n m9)) s.heap := by rw [paSet_self hPa]; exact hP
  have hl : lv_has ls 2 [(0, .ref (ad k)), (1, .ref (ad k2))] := hl
  refine lv_aload_n hx hb (dk kX2_restore_ok 0 rfl) rfl (lv_at hl 0 rfl) ?_
  refine lv_aload_n hx hb (dk kX2_restore_ok 1 rfl) rfl (lv_at hl 0 rfl) ?_
  refine gf hx hb hts (fun w h => List.mem_cons_of_mem _ (acX2 w h)) hown hK hP hk0 paSet_at.1 rfl 1 (by decide) (hts _ (List.mem_cons_of_mem _ (ac4 _ (List.mem_of_getElem? (i := 16) rfl)))) (fun _ h => h) rfl (dk kX2_restore_ok 2 rfl) ?_
  refine lv_bipush (v := nI 6) hx hb (dk kX2_restore_ok 3 rfl) rfl ?_
  refine n_iadd hx hb (dk kX2_restore_ok 4 rfl) ?_
  refine lv_iconst (v := nI 1) hx hb (dk kX2_restore_ok 5 rfl) rfl ?_
  refine n_isub hx hb (by omega) (dk kX2_restore_ok 6 rfl) ?_
  refine lv_bipush (v := nI 6) hx hb (dk kX2_restore_ok 7 rfl) rfl ?_
  refine n_irem hx hb (by omega) (by decide) (by decide) (dk kX2_restore_ok 8 rfl) ?_
  refine pf (paSet cQ ad F k (((n + 6) - 1) % 6) m9) hx hb hts (fun w h => List.mem_cons_of_mem _ (acX2 w h)) tyX2 tyX2_ok nmX2 hown hK hDi hP hS hk0 paSet_at.1 rfl 1 (by decide) (hts _ (List.mem_cons_of_mem _ (ac4 _ (List.mem_of_getElem? (i := 16) rfl)))) (fun _ h => h) rfl (ty := .int) rfl rfl rfl (Nat.le_of_ble_eq_true rfl) (dk kX2_restore_ok 9 rfl) paSet_u0 (fun H locs hP hS => ?_)
  refine lv_aload_n hx hb (dk kX2_restore_ok 10 rfl) rfl (lv_at hl 0 rfl) ?_
  refine lv_dup hx hb (dk kX2_restore_ok 11 rfl) rfl ?_
  refine gf hx hb hts (fun w h => List.mem_cons_of_mem _ (acX2 w h)) hown hK hP hk0 paSet_at.1 rfl 2 (by decide) (hts _ (List.mem_cons_of_mem _ (ac4 _ (List.mem_of_getElem? (i := 17) rfl)))) (fun _ h => h) rfl (dk kX2_restore_ok 12 rfl) ?_
  refine lv_iconst (v := nI 1) hx hb (dk kX2_restore_ok 13 rfl) rfl ?_
  refine n_isub hx hb (by omega) (dk kX2_restore_ok 14 rfl) ?_
  refine pf (paSet cQ ad F k (((n + 6) - 1) % 6) (m9 - 1)) hx hb hts (fun w h => List.mem_cons_of_mem _ (acX2 w h)) tyX2 tyX2_ok nmX2 hown hK hDi hP hS hk0 paSet_at.1 rfl 2 (by decide) (hts _ (List.mem_cons_of_mem _ (ac4 _ (List.mem_of_getElem? (i := 17) rfl)))) (fun _ h => h) rfl (ty := .int) rfl rfl rfl (Nat.le_of_ble_eq_true rfl) (dk kX2_restore_ok 15 rfl) paSet_u0 (fun H locs hP hS => ?_)
  refine lv_aload_n hx hb (dk kX2_restore_ok 16 rfl) rfl (lv_at hl 0 rfl) ?_
  refine gf hx hb hts (fun w h => List.mem_cons_of_mem _ (acX2 w h)) hown hK hP hk0 paSet_at.1 rfl 0 (by decide) (hts _ (List.mem_cons_of_mem _ (ac4 _ (List.mem_of_getElem? (i := 15) rfl)))) (fun _ h => h) rfl (dk kX2_restore_ok 17 rfl) ?_
  refine lv_aload_n hx hb (dk kX2_restore_ok 18 rfl) rfl (lv_at hl 0 rfl) ?_
  refine gf hx hb hts (fun w h => List.mem_cons_of_mem _ (acX2 w h)) hown hK hP hk0 paSet_at.1 rfl 1 (by decide) (hts _ (List.mem_cons_of_mem _ (ac4 _ (List.mem_of_getElem? (i := 16) rfl)))) (fun _ h => h) rfl (dk kX2_restore_ok 19 rfl) ?_
  refine aldq hx hb hK hP hk1 paSet_at.2 (by omega) (by decide) rfl (dk kX2_restore_ok 20 rfl) ?_
  refine lv_ifnull hx hb (dk kX2_restore_ok 21 rfl) ?_
  refine lv_aload_n hx hb (dk kX2_restore_ok 22 rfl) rfl (lv_at hl 1 rfl) ?_
  refine lv_aload_n hx hb (dk kX2_restore_ok 23 rfl) rfl (lv_at hl 0 rfl) ?_
  refine gf hx hb hts (fun w h => List.mem_cons_of_mem _ (acX2 w h)) hown hK hP hk0 paSet_at.1 rfl 0 (by decide) (hts _ (List.mem_cons_of_mem _ (ac4 _ (List.mem_of_getElem? (i := 15) rfl)))) (fun _ h => h) rfl (dk kX2_restore_ok 24 rfl) ?_
  refine lv_aload_n hx hb (dk kX2_restore_ok 25 rfl) rfl (lv_at hl 0 rfl) ?_
  refine gf hx hb hts (fun w h => List.mem_cons_of_mem _ (acX2 w h)) hown hK hP hk0 paSet_at.1 rfl 1 (by decide) (hts _ (List.mem_cons_of_mem _ (ac4 _ (List.mem_of_getElem? (i := 16) rfl)))) (fun _ h => h) rfl (dk kX2_restore_ok 26 rfl) ?_
  refine aldq hx hb hK hP hk1 paSet_at.2 (by omega) (by decide) rfl (dk kX2_restore_ok 27 rfl) ?_
  refine cvDv (As := [.ref (ad (k + 2 + 8 * ((n + 6 - 1) % 6)))]) (rest := []) (sSet cI ad (paSet cQ ad F k (((n + 6) - 1) % 6) (m9 - 1)) k2 c b v g h j (nI t) u z) ⟨hx, hb, hml, hown, hts⟩ (tX4_copyFrom l D cI cQ cL ad N (paSet cQ ad F k (((n + 6) - 1) % 6) (m9 - 1)) k2 hq c2 b2 v2 g2 h2 j2 t2 u2 z2 (stAt_keep hS2 (fun i _ _ => paSet_out (by omega))) (k + 2 + 8 * ((n + 6 - 1) % 6)) (by omega) c b v g h j t u z (stAt_keep hS0 (fun i _ _ => paSet_out (by omega))) (by omega)) (cwV9 1 hts mcX4_copyFrom (ac5 _ (List.mem_of_getElem? (i := 6) rfl)) miX4_copyFrom meX4_copyFrom mini_RX4 rfl rfl hdX4_copyFrom ⟨Nat.le_of_ble_eq_true rfl, Nat.le_of_ble_eq_true rfl⟩) hDi hK hP hNW hS hq0 (stAt_keep hS2 (fun i _ _ => paSet_out (by omega))).1 rfl rfl hl.1 rfl (Nat.le_of_ble_eq_true rfl) (by decide) (dk kX2_restore_ok 28 rfl) rfl (fun H locs hP hS => ?_)
  exact hret _ _ _ _ _ _ _ (by exact ⟨rfl, rfl⟩) hP hS (by decide) (by decide) (dk kX2_restore_ok 29 rfl)
