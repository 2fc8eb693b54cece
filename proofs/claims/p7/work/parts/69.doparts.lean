set_option maxRecDepth 100000 in
set_option maxHeartbeats 4000000 in
theorem tX5_doParts (l : Launch) (D : va_G) (cI cQ cL : ClassId) (ad : Nat → Nat) (N : Nat) (F : Nat → va_E) (hk : 76 < N) (r b v g h j : Nat → Int32) (t : Nat) (u z : Int32) (hN : stAt cI ad F 1 r b v g h j (nI t) u z) (a : Nat → Int32) (n : Nat) (hn60 : n ≤ 60) (hT : gtAt cI ad F 67 a n) (hs : Bool) (hC : F 0 = .inr (5, [.ref (ad 1), .ref (ad 9), .ref (ad 17), .ref (ad 67), .ref (ad 69), .ref (ad 73), .int (bI hs)])) (Np : Nat → Nat) (Wp : Nat → Nat → Nat) (HP : Pos r b v g h j t u z Np Wp) (hwf : wfT a n 61 0) : MX l yX5_doParts (Cond.code yX5_doParts cX5_doParts 4 (some .int) :: AW) ({ frames := 5, cells := 0, slots := 0, locals := 120 } : Room) D cI cQ cL ad N F [.ref (ad 0)] (fun v9 G9 => v9 = some (.int (nI (rRun a n 61 0 r 0).1)) ∧ ∃ (b1 v1 g1 h1 j1 : Nat → Int32) (t1 : Nat) (u1 : Int32) (N1 : Nat → Nat) (W1 : Nat → Nat → Nat), Pos (rRun a n 61 0 r 0).2 b1 v1 g1 h1 j1 t1 u1 z N1 W1 ∧ G9 = sSet cI ad F 1 (rRun a n 61 0 r 0).2 b1 v1 g1 h1 j1 (nI t1) u1 z) 0 0 := by
  refine mx_i (ty := .int) (by decide +kernel) rfl (Nat.le_of_ble_eq_true rfl) (fun p e s m below meth cd Q ls hx hb hml hown hts hDi hP hK hNW hS hret hl => ?_)
  have hown : s.vm.findClass RX5 = some m.cls := hown
  have hl : lv_has ls 4 [(0, .ref (ad 0))] := hl
  have hP : va_P D vwCl (iW ad N (sSet cI ad F 1 r b v g h j (nI t) u z)) s.heap := by rw [sSet_self hN]; exact hP
  refine lv_iconst (v := nI 0) hx hb (dk kX5_doParts_ok 0 rfl) rfl ?_
  refine lv_istore_n (lv' := [(1, .int (nI 0)), (0, .ref (ad 0))]) hx hb (dk kX5_doParts_ok 1 rfl) rfl hl (by decide) rfl (fun ls hl => ?_)
  refine lv_iconst (v := nI 0) hx hb (dk kX5_doParts_ok 2 rfl) rfl ?_
  refine lv_istore_n (lv' := [(2, .int (nI 0)), (1, .int (nI 0)), (0, .ref (ad 0))]) hx hb (dk kX5_doParts_ok 3 rfl) rfl hl (by decide) rfl (fun ls hl => ?_)
  generalize hres : rRun a n 61 0 r 0 = res at hret
  have L4 : ∀ (fu k : Nat) (r b v g h j : Nat → Int32) (t : Nat) (u : Int32) (Np : Nat → Nat) (Wp : Nat → Nat → Nat) (dn : Nat) (H : Heap) (locs : List Loc), Pos r b v g h j t u z Np Wp → va_P D vwCl (iW ad N (sSet cI ad F 1 r b v g h j (nI t) u z)) H → va_S (iA ad N s.heap.size) s.heap H locs → wfT a n fu k → rRun a n fu k r dn = res → dn ≤ k → k ≤ n + 6 → ∀ ls : Array Slot, lv_has ls 4 [(0, .ref (ad 0)), (1, .int (nI dn)), (2, .int (nI k))] → W p l e ({ frames := 5, cells := 0, slots := 0, locals := 120 } : Room) s m [Value.ref (ad 0)].toArray below meth cd H locs 0 0 Q (F0 m 4 ls []) := by
    intro fu
    induction fu with
    | zero =>
      intro k r b v g h j t u Np Wp dn H locs HP hP hS hwf hr hdk hk6 ls hl
      have hC2 : (sSet cI ad F 1 r b v g h j (nI t) u z) 0 = .inr (5, [.ref (ad 1), .ref (ad 9), .ref (ad 17), .ref (ad 67), .ref (ad 69), .ref (ad 73), .int (bI hs)]) := (sSet_out (Or.inl (by decide))).trans hC
      have hT2 : gtAt cI ad (sSet cI ad F 1 r b v g h j (nI t) u z) 67 a n := gtAt_keep hT (fun i _ _ => sSet_out (by omega))
      have hN2 : stAt cI ad (sSet cI ad F 1 r b v g h j (nI t) u z) 1 r b v g h j (nI t) u z := sSet_at hN
      refine lv_iload_n hx hb (dk kX5_doParts_ok 4 rfl) rfl (lv_at hl 2 rfl) ?_
      refine lv_aload_n hx hb (dk kX5_doParts_ok 5 rfl) rfl (lv_at hl 0 rfl) ?_
      refine gf hx hb hts (fun w h => List.mem_cons_of_mem _ (acX5 w h)) hown hK hP (by omega) hC2 rfl 3 (by decide) (hts _ (List.mem_cons_of_mem _ (ac8 _ (List.mem_of_getElem? (i := 5) rfl)))) (fun _ h => h) rfl (dk kX5_doParts_ok 6 rfl) ?_
      refine gfN hx hb hts (fun w h => List.mem_cons_of_mem _ (acX0 w h)) hown hK hP (by omega) hT2.1 rfl 1 (by decide) (nf10 hNW) (fun _ h => h) rfl (dk kX5_doParts_ok 7 rfl) ?_
      refine n_icmp_ge (tgt := 78) hx hb (by omega) (by omega) (dk kX5_doParts_ok 8 rfl) (by decide) (fun h1 => ?_) (fun h1 => ?_)
      · skip
        rw [rRun_end h1] at hr
        subst hr
        refine lv_iload_n hx hb (dk kX5_doParts_ok 42 rfl) rfl (lv_at hl 1 rfl) ?_
        exact hret _ _ _ _ _ _ _ _ rfl ⟨rfl, b, v, g, h, j, t, u, Np, Wp, HP, rfl⟩ hP hS (by decide) (by decide) (dk kX5_doParts_ok 43 rfl)
      · exact absurd (show n ≤ k from hwf) (by omega)
    | succ fu ih =>
      intro k r b v g h j t u Np Wp dn H locs HP hP hS hwf hr hdk hk6 ls hl
      have hC2 : (sSet cI ad F 1 r b v g h j (nI t) u z) 0 = .inr (5, [.ref (ad 1), .ref (ad 9), .ref (ad 17), .ref (ad 67), .ref (ad 69), .ref (ad 73), .int (bI hs)]) := (sSet_out (Or.inl (by decide))).trans hC
      have hT2 : gtAt cI ad (sSet cI ad F 1 r b v g h j (nI t) u z) 67 a n := gtAt_keep hT (fun i _ _ => sSet_out (by omega))
      have hN2 : stAt cI ad (sSet cI ad F 1 r b v g h j (nI t) u z) 1 r b v g h j (nI t) u z := sSet_at hN
      refine lv_iload_n hx hb (dk kX5_doParts_ok 4 rfl) rfl (lv_at hl 2 rfl) ?_
      refine lv_aload_n hx hb (dk kX5_doParts_ok 5 rfl) rfl (lv_at hl 0 rfl) ?_
      refine gf hx hb hts (fun w h => List.mem_cons_of_mem _ (acX5 w h)) hown hK hP (by omega) hC2 rfl 3 (by decide) (hts _ (List.mem_cons_of_mem _ (ac8 _ (List.mem_of_getElem? (i := 5) rfl)))) (fun _ h => h) rfl (dk kX5_doParts_ok 6 rfl) ?_
      refine gfN hx hb hts (fun w h => List.mem_cons_of_mem _ (acX0 w h)) hown hK hP (by omega) hT2.1 rfl 1 (by decide) (nf10 hNW) (fun _ h => h) rfl (dk kX5_doParts_ok 7 rfl) ?_
      refine n_icmp_ge (tgt := 78) hx hb (by omega) (by omega) (dk kX5_doParts_ok 8 rfl) (by decide) (fun h1 => ?_) (fun h1 => ?_)
      · skip
        rw [rRun_end h1] at hr
        subst hr
        refine lv_iload_n hx hb (dk kX5_doParts_ok 42 rfl) rfl (lv_at hl 1 rfl) ?_
        exact hret _ _ _ _ _ _ _ _ rfl ⟨rfl, b, v, g, h, j, t, u, Np, Wp, HP, rfl⟩ hP hS (by decide) (by decide) (dk kX5_doParts_ok 43 rfl)
      · skip
        rcases hwf with h9 | ⟨e9, d, f, hpf, hwf⟩ | ⟨x9, y9, f, d, hpl, hwf⟩
        · exact absurd h9 (by omega)
        · skip
          obtain ⟨q1, q2, q3, q4, q5, q6, q7, q8⟩ := id hpf
          refine lv_aload_n hx hb (dk kX5_doParts_ok 9 rfl) rfl (lv_at hl 0 rfl) ?_
          refine gf hx hb hts (fun w h => List.mem_cons_of_mem _ (acX5 w h)) hown hK hP (by omega) hC2 rfl 3 (by decide) (hts _ (List.mem_cons_of_mem _ (ac8 _ (List.mem_of_getElem? (i := 5) rfl)))) (fun _ h => h) rfl (dk kX5_doParts_ok 10 rfl) ?_
          refine lv_iload_n hx hb (dk kX5_doParts_ok 11 rfl) rfl (lv_at hl 2 rfl) ?_
          refine cvR (As := [.int (nI k)]) (rest := []) ⟨hx, hb, hml, hown, hts⟩ (tX0_codeAt l D cI cQ cL ad N _ 67 (by omega) a n hn60 hT2 (nI k) k rfl (by omega)) (cwV9 1 hts mcX0_codeAt (ac11 _ (List.mem_of_getElem? (i := 2) rfl)) miX0_codeAt meX0_codeAt mini_RX0 rfl rfl hdX0_codeAt ⟨Nat.le_of_ble_eq_true rfl, Nat.le_of_ble_eq_true rfl⟩) hK hP hNW (by omega) hT2.1 rfl rfl hl.1 rfl (Nat.le_of_ble_eq_true rfl) ⟨Nat.le_of_ble_eq_true rfl, Nat.le_of_ble_eq_true rfl⟩ (dk kX5_doParts_ok 12 rfl) ?_
          rw [cod_at (show k < n by omega), q5]
          refine lv_bipush (v := nI 102) hx hb (dk kX5_doParts_ok 13 rfl) rfl ?_
          refine n_icmp_ne (tgt := 32) hx hb (by decide) (by decide) (dk kX5_doParts_ok 14 rfl) (by decide) (fun h9 => absurd rfl h9) (fun _ => ?_)
          refine lv_iconst (v := nI 1) hx hb (dk kX5_doParts_ok 15 rfl) rfl ?_
          refine lv_goto (tgt := 33) hx hb (dk kX5_doParts_ok 16 rfl) (by decide) ?_
          refine lv_istore_n (lv' := [(3, .int (nI 1)), (0, .ref (ad 0)), (1, .int (nI dn)), (2, .int (nI k))]) hx hb (dk kX5_doParts_ok 18 rfl) rfl hl (by decide) rfl (fun ls hl => ?_)
          refine lv_iload_n hx hb (dk kX5_doParts_ok 19 rfl) rfl (lv_at hl 0 rfl) ?_
          refine n_if_eq (tgt := 49) hx hb (by decide) (dk kX5_doParts_ok 20 rfl) (by decide) (fun h9 => absurd h9 (by decide)) (fun _ => ?_)
          refine lv_aload_n hx hb (dk kX5_doParts_ok 21 rfl) rfl (lv_at hl 1 rfl) ?_
          refine lv_iload_n hx hb (dk kX5_doParts_ok 22 rfl) rfl (lv_at hl 3 rfl) ?_
          have hw16 : 4 * t + e9 < 16 := by have := HP.tlt; omega
          have hiff : wnf r v t (4 * t + e9) = rwn r (4 * t + e9) := HP.wnfN hw16
          by_cases hwn : wnf r v t (4 * t + e9) = 0
          · skip
            obtain ⟨ho9, -, hpt9, -⟩ := wnf_0 hwn
            obtain ⟨ht9, -⟩ := HP.t_of ho9
            obtain ⟨N2, W2, HP2, hext⟩ := HP.fly hw16 hwn (ldg_q HP hw16 hpt9 (nI d) (stp (4 * t + e9) f))
            rw [rRun_f hpf ht9 (by rw [← hiff]; exact hwn)] at hr
            refine cvD (As := [.int (nI k)]) (rest := []) (sSet cI ad F 1 (mov1 r b v (4 * t + e9) (rest9 (4 * t + e9) (flE r (4 * t + e9) (nI d) f))) (mov2 r b v (4 * t + e9) (rest9 (4 * t + e9) (flE r (4 * t + e9) (nI d) f))) (mov3 r b v (4 * t + e9) (rest9 (4 * t + e9) (flE r (4 * t + e9) (nI d) f))) (upd g (4 * t + e9) (g (4 * t + e9) + nI 1)) (flH h (4 * t + e9) (flE r (4 * t + e9) (nI d) f)) ((flP (mov1 r b v (4 * t + e9) (rest9 (4 * t + e9) (flE r (4 * t + e9) (nI d) f))) t (4 * t + e9) (flE r (4 * t + e9) (nI d) f) (flH j (4 * t + e9) (flE r (4 * t + e9) (nI d) f))).1) (nI ((flP (mov1 r b v (4 * t + e9) (rest9 (4 * t + e9) (flE r (4 * t + e9) (nI d) f))) t (4 * t + e9) (flE r (4 * t + e9) (nI d) f) (flH j (4 * t + e9) (flE r (4 * t + e9) (nI d) f))).2)) u z) ⟨hx, hb, hml, hown, hts⟩ (tX5_doFlightPart l D cI cQ cL ad N (sSet cI ad F 1 r b v g h j (nI t) u z) hk r b v g h j t u z hN2 a n hn60 hT2 hs hC2 HP.tlt k q1 e9 d f q2 q3 q4 q6 q7 q8 hwn) (cwV9 1 hts mcX5_doFlightPart (ac11 _ (List.mem_of_getElem? (i := 3) rfl)) miX5_doFlightPart meX5_doFlightPart mini_RX5 rfl rfl hdX5_doFlightPart ⟨Nat.le_of_ble_eq_true rfl, Nat.le_of_ble_eq_true rfl⟩) hDi hK hP hNW hS (by omega) hC2 rfl rfl hl.1 rfl (Nat.le_of_ble_eq_true rfl) ⟨Nat.le_of_ble_eq_true rfl, Nat.le_of_ble_eq_true rfl⟩ (dk kX5_doParts_ok 23 rfl) sSet_sSet (fun H locs hP hS => ?_)
            have hP := st_cell hP hext
            refine n_if_eq (tgt := 57) hx hb (by decide) (dk kX5_doParts_ok 24 rfl) (by decide) (fun h9 => absurd h9 (by decide)) (fun _ => ?_)
            refine lv_goto (tgt := 59) hx hb (dk kX5_doParts_ok 25 rfl) (by decide) ?_
            refine lv_iinc (v := nI (dn + 1)) (lv' := [(1, .int (nI (dn + 1))), (3, .int (nI 1)), (0, .ref (ad 0)), (2, .int (nI k))]) hx hb (dk kX5_doParts_ok 32 rfl) hl (k := 2) rfl (n_inc _) (by decide) rfl (fun ls hl => ?_)
            refine lv_iload_n hx hb (dk kX5_doParts_ok 33 rfl) rfl (lv_at hl 3 rfl) ?_
            refine lv_iload_n hx hb (dk kX5_doParts_ok 34 rfl) rfl (lv_at hl 1 rfl) ?_
            refine n_if_eq (tgt := 71) hx hb (by decide) (dk kX5_doParts_ok 35 rfl) (by decide) (fun h9 => absurd h9 (by decide)) (fun _ => ?_)
            refine lv_iconst (v := nI 5) hx hb (dk kX5_doParts_ok 36 rfl) rfl ?_
            refine lv_goto (tgt := 73) hx hb (dk kX5_doParts_ok 37 rfl) (by decide) ?_
            refine n_iadd hx hb (dk kX5_doParts_ok 39 rfl) ?_
            refine lv_istore_n (lv' := [(2, .int (nI (k + 5))), (1, .int (nI (dn + 1))), (3, .int (nI 1)), (0, .ref (ad 0))]) hx hb (dk kX5_doParts_ok 40 rfl) rfl hl (by decide) rfl (fun ls hl => ?_)
            refine lv_goto (tgt := 4) hx hb (dk kX5_doParts_ok 41 rfl) (by decide) ?_
            exact ih (k + 5) _ _ _ _ _ _ _ _ _ _ (dn + 1) _ _ HP2 hP hS hwf hr (by omega) (by omega) ls (lv_sub hl [3, 1, 0] rfl)
          · skip
            rw [rRun_fx hpf (by
              by_cases ho9 : over r = true
              · exact rwn_over1 ho9
              · rw [(HP.t_of (bool_ff ho9)).1, ← hiff]; exact hwn)] at hr
            subst hr
            refine cvR (As := [.int (nI k)]) (rest := []) ⟨hx, hb, hml, hown, hts⟩ (tX5_doFlightPartX l D cI cQ cL ad N (sSet cI ad F 1 r b v g h j (nI t) u z) hk r b v g h j t u z hN2 a n hn60 hT2 hs hC2 HP.tlt k q1 e9 d f q2 q3 q4 q6 q7 q8 hwn) (cwV9 1 hts mcX5_doFlightPart (ac11 _ (List.mem_of_getElem? (i := 3) rfl)) miX5_doFlightPart meX5_doFlightPart mini_RX5 rfl rfl hdX5_doFlightPart ⟨Nat.le_of_ble_eq_true rfl, Nat.le_of_ble_eq_true rfl⟩) hK hP hNW (by omega) hC2 rfl rfl hl.1 rfl (Nat.le_of_ble_eq_true rfl) ⟨Nat.le_of_ble_eq_true rfl, Nat.le_of_ble_eq_true rfl⟩ (dk kX5_doParts_ok 23 rfl) ?_
            refine n_if_eq (tgt := 57) hx hb (by decide) (dk kX5_doParts_ok 24 rfl) (by decide) (fun _ => ?_) (fun h9 => absurd rfl h9)
            refine lv_iload_n hx hb (dk kX5_doParts_ok 30 rfl) rfl (lv_at hl 2 rfl) ?_
            exact hret _ _ _ _ _ _ _ _ rfl ⟨rfl, b, v, g, h, j, t, u, Np, Wp, HP, rfl⟩ hP hS (by decide) (by decide) (dk kX5_doParts_ok 31 rfl)
        · skip
          obtain ⟨q1, q2, q3, q4, q5, q6, q7, q8, q9, q10⟩ := id hpl
          refine lv_aload_n hx hb (dk kX5_doParts_ok 9 rfl) rfl (lv_at hl 0 rfl) ?_
          refine gf hx hb hts (fun w h => List.mem_cons_of_mem _ (acX5 w h)) hown hK hP (by omega) hC2 rfl 3 (by decide) (hts _ (List.mem_cons_of_mem _ (ac8 _ (List.mem_of_getElem? (i := 5) rfl)))) (fun _ h => h) rfl (dk kX5_doParts_ok 10 rfl) ?_
          refine lv_iload_n hx hb (dk kX5_doParts_ok 11 rfl) rfl (lv_at hl 2 rfl) ?_
          refine cvR (As := [.int (nI k)]) (rest := []) ⟨hx, hb, hml, hown, hts⟩ (tX0_codeAt l D cI cQ cL ad N _ 67 (by omega) a n hn60 hT2 (nI k) k rfl (by omega)) (cwV9 1 hts mcX0_codeAt (ac11 _ (List.mem_of_getElem? (i := 2) rfl)) miX0_codeAt meX0_codeAt mini_RX0 rfl rfl hdX0_codeAt ⟨Nat.le_of_ble_eq_true rfl, Nat.le_of_ble_eq_true rfl⟩) hK hP hNW (by omega) hT2.1 rfl rfl hl.1 rfl (Nat.le_of_ble_eq_true rfl) ⟨Nat.le_of_ble_eq_true rfl, Nat.le_of_ble_eq_true rfl⟩ (dk kX5_doParts_ok 12 rfl) ?_
          rw [cod_at (show k < n by omega), q6]
          refine lv_bipush (v := nI 102) hx hb (dk kX5_doParts_ok 13 rfl) rfl ?_
          refine n_icmp_ne (tgt := 32) hx hb (by decide) (by decide) (dk kX5_doParts_ok 14 rfl) (by decide) (fun _ => ?_) (fun h9 => absurd h9 (by decide))
          refine lv_iconst (v := nI 0) hx hb (dk kX5_doParts_ok 17 rfl) rfl ?_
          refine lv_istore_n (lv' := [(3, .int (nI 0)), (0, .ref (ad 0)), (1, .int (nI dn)), (2, .int (nI k))]) hx hb (dk kX5_doParts_ok 18 rfl) rfl hl (by decide) rfl (fun ls hl => ?_)
          refine lv_iload_n hx hb (dk kX5_doParts_ok 19 rfl) rfl (lv_at hl 0 rfl) ?_
          refine n_if_eq (tgt := 49) hx hb (by decide) (dk kX5_doParts_ok 20 rfl) (by decide) (fun _ => ?_) (fun h9 => absurd rfl h9)
          refine lv_aload_n hx hb (dk kX5_doParts_ok 26 rfl) rfl (lv_at hl 1 rfl) ?_
          refine lv_iload_n hx hb (dk kX5_doParts_ok 27 rfl) rfl (lv_at hl 3 rfl) ?_
          have hiff : wnl r b v t z (nI x9) (nI y9) f (nI d) = rwl r (13 * y9 + x9) f d := HP.why q2 q3 q4.1
          by_cases hwn : wnl r b v t z (nI x9) (nI y9) f (nI d) = 0
          · skip
            have ho9 : over r = false := (rwl_z (by rw [← hiff]; exact hwn)).1
            obtain ⟨ht9, -⟩ := HP.t_of ho9
            obtain ⟨N2, W2, HP2, hext, -⟩ := HP.lift q2 q3 q4 q5 (by rw [← hiff]; exact hwn)
            rw [rRun_l hpl ht9 (by rw [← hiff]; exact hwn)] at hr
            refine cvD (As := [.int (nI k)]) (rest := []) (sSet cI ad F 1 (liC r b v (nI x9) (nI y9) f (nI d)) (liB r b v (nI x9) (nI y9) f (nI d)) (liV r b v (nI x9) (nI y9) f (nI d)) g h ((pasg (liC r b v (nI x9) (nI y9) f (nI d)) t 8 j t).1) (nI ((pasg (liC r b v (nI x9) (nI y9) f (nI d)) t 8 j t).2)) (u + nI 1) z) ⟨hx, hb, hml, hown, hts⟩ (tX5_doLiftPart l D cI cQ cL ad N (sSet cI ad F 1 r b v g h j (nI t) u z) hk r b v g h j t u z hN2 a n hn60 hT2 hs hC2 HP.tlt k q1 x9 y9 f d q2 q3 q4 q5 q7 q8 q9 q10 hwn) (cwV9 1 hts mcX5_doLiftPart (ac11 _ (List.mem_of_getElem? (i := 7) rfl)) miX5_doLiftPart meX5_doLiftPart mini_RX5 rfl rfl hdX5_doLiftPart ⟨Nat.le_of_ble_eq_true rfl, Nat.le_of_ble_eq_true rfl⟩) hDi hK hP hNW hS (by omega) hC2 rfl rfl hl.1 rfl (Nat.le_of_ble_eq_true rfl) ⟨Nat.le_of_ble_eq_true rfl, Nat.le_of_ble_eq_true rfl⟩ (dk kX5_doParts_ok 28 rfl) sSet_sSet (fun H locs hP hS => ?_)
            have hP := st_cell hP hext
            refine n_if_ne (tgt := 59) hx hb (by decide) (dk kX5_doParts_ok 29 rfl) (by decide) (fun _ => ?_) (fun h9 => absurd h9 (by decide))
            refine lv_iinc (v := nI (dn + 1)) (lv' := [(1, .int (nI (dn + 1))), (3, .int (nI 0)), (0, .ref (ad 0)), (2, .int (nI k))]) hx hb (dk kX5_doParts_ok 32 rfl) hl (k := 2) rfl (n_inc _) (by decide) rfl (fun ls hl => ?_)
            refine lv_iload_n hx hb (dk kX5_doParts_ok 33 rfl) rfl (lv_at hl 3 rfl) ?_
            refine lv_iload_n hx hb (dk kX5_doParts_ok 34 rfl) rfl (lv_at hl 1 rfl) ?_
            refine n_if_eq (tgt := 71) hx hb (by decide) (dk kX5_doParts_ok 35 rfl) (by decide) (fun _ => ?_) (fun h9 => absurd rfl h9)
            refine lv_bipush (v := nI 6) hx hb (dk kX5_doParts_ok 38 rfl) rfl ?_
            refine n_iadd hx hb (dk kX5_doParts_ok 39 rfl) ?_
            refine lv_istore_n (lv' := [(2, .int (nI (k + 6))), (1, .int (nI (dn + 1))), (3, .int (nI 0)), (0, .ref (ad 0))]) hx hb (dk kX5_doParts_ok 40 rfl) rfl hl (by decide) rfl (fun ls hl => ?_)
            refine lv_goto (tgt := 4) hx hb (dk kX5_doParts_ok 41 rfl) (by decide) ?_
            exact ih (k + 6) _ _ _ _ _ _ _ _ _ _ (dn + 1) _ _ HP2 hP hS hwf hr (by omega) (by omega) ls (lv_sub hl [3, 1, 0] rfl)
          · skip
            rw [rRun_lx hpl (by rw [← hiff]; exact hwn)] at hr
            subst hr
            refine cvR (As := [.int (nI k)]) (rest := []) ⟨hx, hb, hml, hown, hts⟩ (tX5_doLiftPartX l D cI cQ cL ad N (sSet cI ad F 1 r b v g h j (nI t) u z) hk r b v g h j t u z hN2 a n hn60 hT2 hs hC2 HP.tlt k q1 x9 y9 f d q2 q3 q4 q5 q7 q8 q9 q10 hwn) (cwV9 1 hts mcX5_doLiftPart (ac11 _ (List.mem_of_getElem? (i := 7) rfl)) miX5_doLiftPart meX5_doLiftPart mini_RX5 rfl rfl hdX5_doLiftPart ⟨Nat.le_of_ble_eq_true rfl, Nat.le_of_ble_eq_true rfl⟩) hK hP hNW (by omega) hC2 rfl rfl hl.1 rfl (Nat.le_of_ble_eq_true rfl) ⟨Nat.le_of_ble_eq_true rfl, Nat.le_of_ble_eq_true rfl⟩ (dk kX5_doParts_ok 28 rfl) ?_
            refine n_if_ne (tgt := 59) hx hb (by decide) (dk kX5_doParts_ok 29 rfl) (by decide) (fun h9 => absurd rfl h9) (fun _ => ?_)
            refine lv_iload_n hx hb (dk kX5_doParts_ok 30 rfl) rfl (lv_at hl 2 rfl) ?_
            exact hret _ _ _ _ _ _ _ _ rfl ⟨rfl, b, v, g, h, j, t, u, Np, Wp, HP, rfl⟩ hP hS (by decide) (by decide) (dk kX5_doParts_ok 31 rfl)
  exact L4 61 0 r b v g h j t u Np Wp 0 _ _ HP hP hS hwf hres (Nat.le_refl 0) (Nat.zero_le _) ls (lv_sub hl [2, 1, 0] rfl)
