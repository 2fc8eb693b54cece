set_option maxRecDepth 100000 in
set_option maxHeartbeats 4000000 in
theorem tX5_play (l : Launch) (D : va_G) (cI cQ cL : ClassId) (ad : Nat → Nat) (N : Nat) (F : Nat → va_E) (hk : 76 < N) (r b v g h j : Nat → Int32) (t : Nat) (u z : Int32) (hN : stAt cI ad F 1 r b v g h j (nI t) u z) (a : Nat → Int32) (n : Nat) (hn60 : n ≤ 60) (hT : gtAt cI ad F 67 a n) (hs : Bool) (hC : F 0 = .inr (5, [.ref (ad 1), .ref (ad 9), .ref (ad 17), .ref (ad 67), .ref (ad 69), .ref (ad 73), .int (bI hs)])) (n9 m9 : Nat) (hn9 : n9 < 6) (hm9 : m9 ≤ 6) (hPa : paAt cQ ad F 17 n9 m9) (cr br vr gr hr9 jr : Nat → Int32) (tr : Nat) (ur zr : Int32) (hRi : stAt cI ad F (17 + 2 + 8 * n9) cr br vr gr hr9 jr (nI tr) ur zr) (Np : Nat → Nat) (Wp : Nat → Nat → Nat) (HP : Pos r b v g h j t u z Np Wp) (hwf : wfT a n 61 0) (hcm : sta a n = nI 8) : MX l yX5_play (Cond.code yX5_play cX5_play 2 (some .int) :: AW) ({ frames := 6, cells := 0, slots := 0, locals := 145 } : Room) D cI cQ cL ad N F [.ref (ad 0)] (fun v9 G9 => v9 = some (.int (nI (rRun a n 61 0 r 0).1)) ∧ ∃ (b1 v1 g1 h1 j1 : Nat → Int32) (t1 : Nat) (u1 : Int32) (N1 : Nat → Nat) (W1 : Nat → Nat → Nat), Pos (rRun a n 61 0 r 0).2 b1 v1 g1 h1 j1 t1 u1 z N1 W1 ∧ G9 = gtSet cI ad (sSet cI ad (paSet cQ ad (sSet cI ad F (17 + 2 + 8 * n9) r b v g h j (nI t) u z) 17 ((n9 + 1) % 6) (min (m9 + 1) 6)) 1 (rRun a n 61 0 r 0).2 b1 v1 g1 h1 j1 (nI t1) u1 z) 67 a 0) 0 0 := by
  refine mx_i (ty := .int) (by decide +kernel) rfl (Nat.le_of_ble_eq_true rfl) (fun p e s m below meth cd Q ls hx hb hml hown hts hDi hP hK hNW hS hret hl => ?_)
  have hown : s.vm.findClass RX5 = some m.cls := hown
  have hl : lv_has ls 2 [(0, .ref (ad 0))] := hl
  refine lv_aload_n hx hb (dk kX5_play_ok 0 rfl) rfl (lv_at hl 0 rfl) ?_
  refine gf hx hb hts (fun w h => List.mem_cons_of_mem _ (acX5 w h)) hown hK hP (by omega) hC rfl 3 (by decide) (hts _ (List.mem_cons_of_mem _ (ac8 _ (List.mem_of_getElem? (i := 5) rfl)))) (fun _ h => h) rfl (dk kX5_play_ok 1 rfl) ?_
  refine cvR (As := []) (rest := []) ⟨hx, hb, hml, hown, hts⟩ (tX0_isComplete l D cI cQ cL ad N F 67 (by omega) a n hn60 hT) (cwV9 0 hts mcX0_isComplete (ac11 _ (List.mem_of_getElem? (i := 11) rfl)) miX0_isComplete meX0_isComplete mini_RX0 rfl rfl hdX0_isComplete ⟨Nat.le_of_ble_eq_true rfl, Nat.le_of_ble_eq_true rfl⟩) hK hP hNW (by omega) hT.1 rfl rfl hl.1 rfl (Nat.le_of_ble_eq_true rfl) ⟨Nat.le_of_ble_eq_true rfl, Nat.le_of_ble_eq_true rfl⟩ (dk kX5_play_ok 2 rfl) ?_
  refine b_if_ne (tgt := 20) hx hb (dk kX5_play_ok 3 rfl) (by decide) (fun _ => ?_) (fun h9 => absurd hcm (of_decide_eq_false h9))
  refine lv_aload_n hx hb (dk kX5_play_ok 9 rfl) rfl (lv_at hl 0 rfl) ?_
  refine gf hx hb hts (fun w h => List.mem_cons_of_mem _ (acX5 w h)) hown hK hP (by omega) hC rfl 2 (by decide) (hts _ (List.mem_cons_of_mem _ (ac8 _ (List.mem_of_getElem? (i := 2) rfl)))) (fun _ h => h) rfl (dk kX5_play_ok 10 rfl) ?_
  refine lv_aload_n hx hb (dk kX5_play_ok 11 rfl) rfl (lv_at hl 0 rfl) ?_
  refine gf hx hb hts (fun w h => List.mem_cons_of_mem _ (acX5 w h)) hown hK hP (by omega) hC rfl 0 (by decide) (hts _ (List.mem_cons_of_mem _ (ac7 _ (List.mem_of_getElem? (i := 21) rfl)))) (fun _ h => h) rfl (dk kX5_play_ok 12 rfl) ?_
  refine cvDv (As := [.ref (ad 1)]) (rest := []) (paSet cQ ad (sSet cI ad F (17 + 2 + 8 * n9) r b v g h j (nI t) u z) 17 ((n9 + 1) % 6) (min (m9 + 1) 6)) ⟨hx, hb, hml, hown, hts⟩ (tX2_save l D cI cQ cL ad N F 17 n9 m9 hn9 hm9 (by omega) hPa cr br vr gr hr9 jr tr ur zr hRi (by omega) 1 (by omega) r b v g h j t u z hN (by omega)) (cwV9 1 hts mcX2_save (ac9 _ (List.mem_of_getElem? (i := 16) rfl)) miX2_save meX2_save mini_RX2 rfl rfl hdX2_save ⟨Nat.le_of_ble_eq_true rfl, Nat.le_of_ble_eq_true rfl⟩) hDi hK hP hNW hS (by omega) hPa.1 rfl rfl hl.1 rfl (Nat.le_of_ble_eq_true rfl) ⟨Nat.le_of_ble_eq_true rfl, Nat.le_of_ble_eq_true rfl⟩ (dk kX5_play_ok 13 rfl) rfl (fun H locs hP hS => ?_)
  have out : ∀ i, (i < 17 ∨ 18 < i) → (i < 17 + 2 + 8 * n9 ∨ 17 + 2 + 8 * n9 + 7 < i) → (paSet cQ ad (sSet cI ad F (17 + 2 + 8 * n9) r b v g h j (nI t) u z) 17 ((n9 + 1) % 6) (min (m9 + 1) 6)) i = F i := fun i h1 h2 => (paSet_out (by omega)).trans (sSet_out (by omega))
  have hC2 : (paSet cQ ad (sSet cI ad F (17 + 2 + 8 * n9) r b v g h j (nI t) u z) 17 ((n9 + 1) % 6) (min (m9 + 1) 6)) 0 = .inr (5, [.ref (ad 1), .ref (ad 9), .ref (ad 17), .ref (ad 67), .ref (ad 69), .ref (ad 73), .int (bI hs)]) := (out 0 (by omega) (by omega)).trans hC
  have hN2 : stAt cI ad (paSet cQ ad (sSet cI ad F (17 + 2 + 8 * n9) r b v g h j (nI t) u z) 17 ((n9 + 1) % 6) (min (m9 + 1) 6)) 1 r b v g h j (nI t) u z := stAt_keep hN (fun i _ _ => out i (by omega) (by omega))
  have hT2 : gtAt cI ad (paSet cQ ad (sSet cI ad F (17 + 2 + 8 * n9) r b v g h j (nI t) u z) 17 ((n9 + 1) % 6) (min (m9 + 1) 6)) 67 a n := gtAt_keep hT (fun i _ _ => out i (by omega) (by omega))
  refine lv_aload_n hx hb (dk kX5_play_ok 14 rfl) rfl (lv_at hl 0 rfl) ?_
  refine cvE (As := []) (rest := []) ⟨hx, hb, hml, hown, hts⟩ (tX5_doParts l D cI cQ cL ad N (paSet cQ ad (sSet cI ad F (17 + 2 + 8 * n9) r b v g h j (nI t) u z) 17 ((n9 + 1) % 6) (min (m9 + 1) 6)) hk r b v g h j t u z hN2 a n hn60 hT2 hs hC2 Np Wp HP hwf) (cwV9 0 hts mcX5_doParts (ac11 _ (List.mem_of_getElem? (i := 15) rfl)) miX5_doParts meX5_doParts mini_RX5 rfl rfl hdX5_doParts ⟨Nat.le_of_ble_eq_true rfl, Nat.le_of_ble_eq_true rfl⟩) hDi hK hP hNW hS (by omega) hC2 rfl rfl hl.1 rfl (Nat.le_of_ble_eq_true rfl) ⟨Nat.le_of_ble_eq_true rfl, Nat.le_of_ble_eq_true rfl⟩ (dk kX5_play_ok 15 rfl) (fun F9 H locs hq hP hS => ?_)
  obtain ⟨b1, v1, g1, h1, j1, t1, u1, N1, W1, HP1, rfl⟩ := hq
  refine lv_istore_n (lv' := [(1, .int (nI (rRun a n 61 0 r 0).1)), (0, .ref (ad 0))]) hx hb (dk kX5_play_ok 16 rfl) rfl hl (by decide) rfl (fun ls hl => ?_)
  have hT3 : gtAt cI ad (sSet cI ad (paSet cQ ad (sSet cI ad F (17 + 2 + 8 * n9) r b v g h j (nI t) u z) 17 ((n9 + 1) % 6) (min (m9 + 1) 6)) 1 (rRun a n 61 0 r 0).2 b1 v1 g1 h1 j1 (nI t1) u1 z) 67 a n := gtAt_keep hT2 (fun i _ _ => sSet_out (by omega))
  have hP := gt_touch hT3 hP
  refine lv_aload_n hx hb (dk kX5_play_ok 17 rfl) rfl (lv_at hl 1 rfl) ?_
  have hC3 : (gtSet cI ad (sSet cI ad (paSet cQ ad (sSet cI ad F (17 + 2 + 8 * n9) r b v g h j (nI t) u z) 17 ((n9 + 1) % 6) (min (m9 + 1) 6)) 1 (rRun a n 61 0 r 0).2 b1 v1 g1 h1 j1 (nI t1) u1 z) 67 a n) 0 = .inr (5, [.ref (ad 1), .ref (ad 9), .ref (ad 17), .ref (ad 67), .ref (ad 69), .ref (ad 73), .int (bI hs)]) := (gtSet_out (by omega)).trans ((sSet_out (by omega)).trans hC2)
  refine gf hx hb hts (fun w h => List.mem_cons_of_mem _ (acX5 w h)) hown hK hP (by omega) hC3 rfl 3 (by decide) (hts _ (List.mem_cons_of_mem _ (ac8 _ (List.mem_of_getElem? (i := 5) rfl)))) (fun _ h => h) rfl (dk kX5_play_ok 18 rfl) ?_
  refine lv_iconst (v := nI 0) hx hb (dk kX5_play_ok 19 rfl) rfl ?_
  refine pfN (gtSet cI ad (sSet cI ad (paSet cQ ad (sSet cI ad F (17 + 2 + 8 * n9) r b v g h j (nI t) u z) 17 ((n9 + 1) % 6) (min (m9 + 1) 6)) 1 (rRun a n 61 0 r 0).2 b1 v1 g1 h1 j1 (nI t1) u1 z) 67 a 0) hx hb hts (fun w h => List.mem_cons_of_mem _ (acX0 w h)) tyX0 tyX0_ok nmX0 hown hK hDi hP hS (by omega) gtSet_at.1 rfl 1 (by decide) (nf10 hNW) (fun _ h => h) rfl (ty := .int) rfl rfl rfl (Nat.le_of_ble_eq_true rfl) (dk kX5_play_ok 20 rfl) gtSet_u0 (fun H locs hP hS => ?_)
  refine lv_iload_n hx hb (dk kX5_play_ok 21 rfl) rfl (lv_at hl 0 rfl) ?_
  exact hret _ _ _ _ _ _ _ _ rfl ⟨rfl, b1, v1, g1, h1, j1, t1, u1, N1, W1, HP1, rfl⟩ hP hS (by decide) (by decide) (dk kX5_play_ok 22 rfl)
set_option maxRecDepth 100000 in
set_option maxHeartbeats 4000000 in
theorem tX6_play (l : Launch) (D : va_G) (cI cQ cL : ClassId) (ad : Nat → Nat) (N : Nat) (F : Nat → va_E) (k : Nat) (hk : k + 7 < N) (r ps sl sd ne fa bu : Nat → Int32) (hs : Bool) (st ln pt : Nat) (th : Int32) (hR : rfAt cI ad F k r ps sl sd ne fa bu hs st ln pt th) (hst6 : st ≤ 6) (hln : ln ≤ 60) (b v g h j : Nat → Int32) (t : Nat) (u z : Int32) (Np : Nat → Nat) (Wp : Nat → Nat → Nat) (HP : Pos r b v g h j t u z Np Wp) (hwf : wfT bu ln 61 0) (hh : (rwh bu ln).1 = true) : MX l yX6_play (Cond.code yX6_play cX6_play 3 (some .int) :: AW) ({ frames := 6, cells := 0, slots := 0, locals := 140 } : Room) D cI cQ cL ad N F [.ref (ad k)] (dp (some (.int (nI (rRun bu ln 61 0 r 0).1))) (rfSet cI ad F k (rRun bu ln 61 0 r 0).2 (rcP ps r st) sl sd ne fa bu hs (rcS st) 0 ((rwh bu ln).2) (nI 0))) 0 0 := by
  refine mx_i (ty := .int) (by decide +kernel) rfl (Nat.le_of_ble_eq_true rfl) (fun p e s m below meth cd Q ls hx hb hml hown hts hDi hP hK hNW hS hret hl => ?_)
  have hown : s.vm.findClass RX6 = some m.cls := hown
  have hP : va_P D vwCl (iW ad N (rfSet cI ad F k r ps sl sd ne fa bu hs st ln pt th)) s.heap := by rw [rfSet_self hR]; exact hP
  have hl : lv_has ls 3 [(0, .ref (ad k))] := hl
  refine lv_aload_n hx hb (dk kX6_play_ok 0 rfl) rfl (lv_at hl 0 rfl) ?_
  refine lv_iconst (v := nI 0) hx hb (dk kX6_play_ok 1 rfl) rfl ?_
  refine pf (rfSet cI ad F k r ps sl sd ne fa bu hs st ln pt (nI 0)) hx hb hts (fun w h => List.mem_cons_of_mem _ (acX6 w h)) tyX6 tyX6_ok nmX6 hown hK hDi hP hS (by omega) rfSet_at.1 rfl 11 (by decide) (hts _ (List.mem_cons_of_mem _ (ac18 _ (List.mem_of_getElem? (i := 4) rfl)))) (fun _ h => h) rfl (ty := .int) rfl rfl rfl (Nat.le_of_ble_eq_true rfl) (dk kX6_play_ok 2 rfl) rfSet_u0 (fun H locs hP hS => ?_)
  refine lv_aload_n hx hb (dk kX6_play_ok 3 rfl) rfl (lv_at hl 0 rfl) ?_
  refine cvD (As := []) (rest := []) (rfSet cI ad F k r ps sl sd ne fa bu hs st ln ((rwh bu ln).2) (nI 0)) ⟨hx, hb, hml, hown, hts⟩ (tX6_isWhole l D cI cQ cL ad N _ k hk r ps sl sd ne fa bu hs st ln pt (nI 0) rfSet_at hln) (cwV9 0 hts mcX6_isWhole (ac22 _ (List.mem_of_getElem? (i := 1) rfl)) miX6_isWhole meX6_isWhole mini_RX6 rfl rfl hdX6_isWhole ⟨Nat.le_of_ble_eq_true rfl, Nat.le_of_ble_eq_true rfl⟩) hDi hK hP hNW hS (by omega) rfSet_at.1 rfl rfl hl.1 rfl (Nat.le_of_ble_eq_true rfl) ⟨Nat.le_of_ble_eq_true rfl, Nat.le_of_ble_eq_true rfl⟩ (dk kX6_play_ok 4 rfl) rfSet_rfSet (fun H locs hP hS => ?_)
  refine b_if_ne (tgt := 18) hx hb (dk kX6_play_ok 5 rfl) (by decide) (fun _ => ?_) (fun h9 => absurd (hh.symm.trans h9) (by decide))
  refine lv_aload_n hx hb (dk kX6_play_ok 10 rfl) rfl (lv_at hl 0 rfl) ?_
  refine cvDv (As := []) (rest := []) (rfSet cI ad F k r (rcP ps r st) sl sd ne fa bu hs (rcS st) ln ((rwh bu ln).2) (nI 0)) ⟨hx, hb, hml, hown, hts⟩ (tX6_record l D cI cQ cL ad N _ k hk r ps sl sd ne fa bu hs st ln ((rwh bu ln).2) (nI 0) rfSet_at hst6) (cwV9 0 hts mcX6_record (ac20 _ (List.mem_of_getElem? (i := 23) rfl)) miX6_record meX6_record mini_RX6 rfl rfl hdX6_record ⟨Nat.le_of_ble_eq_true rfl, Nat.le_of_ble_eq_true rfl⟩) hDi hK hP hNW hS (by omega) rfSet_at.1 rfl rfl hl.1 rfl (Nat.le_of_ble_eq_true rfl) ⟨Nat.le_of_ble_eq_true rfl, Nat.le_of_ble_eq_true rfl⟩ (dk kX6_play_ok 11 rfl) rfSet_rfSet (fun H locs hP hS => ?_)
  refine lv_iconst (v := nI 0) hx hb (dk kX6_play_ok 12 rfl) rfl ?_
  refine lv_istore_n (lv' := [(1, .int (nI 0)), (0, .ref (ad k))]) hx hb (dk kX6_play_ok 13 rfl) rfl hl (by decide) rfl (fun ls hl => ?_)
  refine lv_iconst (v := nI 0) hx hb (dk kX6_play_ok 14 rfl) rfl ?_
  refine lv_istore_n (lv' := [(2, .int (nI 0)), (1, .int (nI 0)), (0, .ref (ad k))]) hx hb (dk kX6_play_ok 15 rfl) rfl hl (by decide) rfl (fun ls hl => ?_)
  generalize hres : rRun bu ln 61 0 r 0 = res at hret
  have L26 : ∀ (fu q : Nat) (rr b v g h j : Nat → Int32) (t : Nat) (u : Int32) (Np : Nat → Nat) (Wp : Nat → Nat → Nat) (dn : Nat) (H : Heap) (locs : List Loc), Pos rr b v g h j t u z Np Wp → va_P D vwCl (iW ad N (rfSet cI ad F k rr (rcP ps r st) sl sd ne fa bu hs (rcS st) ln ((rwh bu ln).2) (nI 0))) H → va_S (iA ad N s.heap.size) s.heap H locs → wfT bu ln fu q → rRun bu ln fu q rr dn = res → dn ≤ q → q ≤ ln + 6 → ∀ ls : Array Slot, lv_has ls 3 [(0, .ref (ad k)), (1, .int (nI dn)), (2, .int (nI q))] → W p l e ({ frames := 6, cells := 0, slots := 0, locals := 140 } : Room) s m [Value.ref (ad k)].toArray below meth cd H locs 0 0 Q (F0 m 26 ls []) := by
    intro fu
    induction fu with
    | zero =>
      intro q rr b v g h j t u Np Wp dn H locs HP hP hS hwf hr hdk hk6 ls hl
      have hR : rfAt cI ad (rfSet cI ad F k rr (rcP ps r st) sl sd ne fa bu hs (rcS st) ln ((rwh bu ln).2) (nI 0)) k rr (rcP ps r st) sl sd ne fa bu hs (rcS st) ln ((rwh bu ln).2) (nI 0) := rfSet_at
      refine lv_iload_n hx hb (dk kX6_play_ok 16 rfl) rfl (lv_at hl 2 rfl) ?_
      refine lv_aload_n hx hb (dk kX6_play_ok 17 rfl) rfl (lv_at hl 0 rfl) ?_
      refine gf hx hb hts (fun w h => List.mem_cons_of_mem _ (acX6 w h)) hown hK hP (by omega) hR.1 rfl 9 (by decide) (hts _ (List.mem_cons_of_mem _ (ac21 _ (List.mem_of_getElem? (i := 15) rfl)))) (fun _ h => h) rfl (dk kX6_play_ok 18 rfl) ?_
      refine n_icmp_ge (tgt := 68) hx hb (by omega) (by omega) (dk kX6_play_ok 19 rfl) (by decide) (fun h1 => ?_) (fun h1 => ?_)
      · skip
        rw [rRun_end h1] at hr
        subst hr
        refine lv_aload_n hx hb (dk kX6_play_ok 38 rfl) rfl (lv_at hl 0 rfl) ?_
        refine lv_iconst (v := nI 0) hx hb (dk kX6_play_ok 39 rfl) rfl ?_
        refine pf (rfSet cI ad F k rr (rcP ps r st) sl sd ne fa bu hs (rcS st) 0 ((rwh bu ln).2) (nI 0)) hx hb hts (fun w h => List.mem_cons_of_mem _ (acX6 w h)) tyX6 tyX6_ok nmX6 hown hK hDi hP hS (by omega) rfSet_at.1 rfl 9 (by decide) (hts _ (List.mem_cons_of_mem _ (ac21 _ (List.mem_of_getElem? (i := 15) rfl)))) (fun _ h => h) rfl (ty := .int) rfl rfl rfl (Nat.le_of_ble_eq_true rfl) (dk kX6_play_ok 40 rfl) rfSet_u0 (fun H locs hP hS => ?_)
        refine lv_iload_n hx hb (dk kX6_play_ok 41 rfl) rfl (lv_at hl 1 rfl) ?_
        exact hret _ _ _ _ _ _ _ _ rfl ⟨rfl, rfl⟩ hP hS (by decide) (by decide) (dk kX6_play_ok 42 rfl)
      · exact absurd (show ln ≤ q from hwf) (by omega)
    | succ fu ih =>
      intro q rr b v g h j t u Np Wp dn H locs HP hP hS hwf hr hdk hk6 ls hl
      have hR : rfAt cI ad (rfSet cI ad F k rr (rcP ps r st) sl sd ne fa bu hs (rcS st) ln ((rwh bu ln).2) (nI 0)) k rr (rcP ps r st) sl sd ne fa bu hs (rcS st) ln ((rwh bu ln).2) (nI 0) := rfSet_at
      refine lv_iload_n hx hb (dk kX6_play_ok 16 rfl) rfl (lv_at hl 2 rfl) ?_
      refine lv_aload_n hx hb (dk kX6_play_ok 17 rfl) rfl (lv_at hl 0 rfl) ?_
      refine gf hx hb hts (fun w h => List.mem_cons_of_mem _ (acX6 w h)) hown hK hP (by omega) hR.1 rfl 9 (by decide) (hts _ (List.mem_cons_of_mem _ (ac21 _ (List.mem_of_getElem? (i := 15) rfl)))) (fun _ h => h) rfl (dk kX6_play_ok 18 rfl) ?_
      refine n_icmp_ge (tgt := 68) hx hb (by omega) (by omega) (dk kX6_play_ok 19 rfl) (by decide) (fun h1 => ?_) (fun h1 => ?_)
      · skip
        rw [rRun_end h1] at hr
        subst hr
        refine lv_aload_n hx hb (dk kX6_play_ok 38 rfl) rfl (lv_at hl 0 rfl) ?_
        refine lv_iconst (v := nI 0) hx hb (dk kX6_play_ok 39 rfl) rfl ?_
        refine pf (rfSet cI ad F k rr (rcP ps r st) sl sd ne fa bu hs (rcS st) 0 ((rwh bu ln).2) (nI 0)) hx hb hts (fun w h => List.mem_cons_of_mem _ (acX6 w h)) tyX6 tyX6_ok nmX6 hown hK hDi hP hS (by omega) rfSet_at.1 rfl 9 (by decide) (hts _ (List.mem_cons_of_mem _ (ac21 _ (List.mem_of_getElem? (i := 15) rfl)))) (fun _ h => h) rfl (ty := .int) rfl rfl rfl (Nat.le_of_ble_eq_true rfl) (dk kX6_play_ok 40 rfl) rfSet_u0 (fun H locs hP hS => ?_)
        refine lv_iload_n hx hb (dk kX6_play_ok 41 rfl) rfl (lv_at hl 1 rfl) ?_
        exact hret _ _ _ _ _ _ _ _ rfl ⟨rfl, rfl⟩ hP hS (by decide) (by decide) (dk kX6_play_ok 42 rfl)
      · skip
        rcases hwf with h9 | ⟨e9, d, f, hpf, hwf⟩ | ⟨x9, y9, f, d, hpl, hwf⟩
        · exact absurd h9 (by omega)
        · skip
          obtain ⟨q1, q2, q3, q4, q5, q6, q7, q8⟩ := id hpf
          obtain ⟨hTu, hLo, hC9, hFl, hLi⟩ := HP.rok
          refine lv_aload_n hx hb (dk kX6_play_ok 20 rfl) rfl (lv_at hl 0 rfl) ?_
          refine lv_iload_n hx hb (dk kX6_play_ok 21 rfl) rfl (lv_at hl 2 rfl) ?_
          have hw16 : 4 * ix (rr 56) + e9 < 16 := by have := hTu.1; omega
          by_cases hwn : rwn rr (4 * ix (rr 56) + e9) = 0
          · skip
            obtain ⟨ht9, ht10⟩ := HP.t_of (rwn_over hwn)
            have hpt9 : pot rr (4 * ix (rr 56) + e9) = false := (rwn_0 hwn).2.2.1
            have hwn5 : wnf rr v t (4 * ix (rr 56) + e9) = 0 := (HP.wnfN hw16).trans hwn
            obtain ⟨N2, W2, HP2, -⟩ := HP.fly hw16 hwn5 (ldg_q HP hw16 hpt9 (nI d) (stp (4 * ix (rr 56) + e9) f))
            rw [rRun_f hpf rfl hwn] at hr
            rw [← ht9] at HP2
            refine cvD (As := [.int (nI q)]) (rest := []) (rfSet cI ad F k (rfx rr (4 * ix (rr 56) + e9) (ldg (rr (4 * ix (rr 56) + e9)) (nI d) (stp (4 * ix (rr 56) + e9) f)) (ix (rr 56))) (rcP ps r st) sl sd ne fa bu hs (rcS st) ln ((rwh bu ln).2) (nI 0)) ⟨hx, hb, hml, hown, hts⟩ (tX6_doesF l D cI cQ cL ad N _ k hk rr (rcP ps r st) sl sd ne fa bu hs (rcS st) ln ((rwh bu ln).2) (nI 0) hR (ix (rr 56)) hTu.1 hTu.2 q (by omega) e9 d f q2 q3 q4 q5 q6 q7 q8 (hC9 _ hw16 hpt9) (hFl _ hw16 hwn) hLo hwn) (cwV9 1 hts mcX6_does (ac22 _ (List.mem_of_getElem? (i := 5) rfl)) miX6_does meX6_does mini_RX6 rfl rfl hdX6_does ⟨Nat.le_of_ble_eq_true rfl, Nat.le_of_ble_eq_true rfl⟩) hDi hK hP hNW hS (by omega) hR.1 rfl rfl hl.1 rfl (Nat.le_of_ble_eq_true rfl) ⟨Nat.le_of_ble_eq_true rfl, Nat.le_of_ble_eq_true rfl⟩ (dk kX6_play_ok 22 rfl) rfSet_rfSet (fun H locs hP hS => ?_)
            have hR : rfAt cI ad (rfSet cI ad F k (rfx rr (4 * ix (rr 56) + e9) (ldg (rr (4 * ix (rr 56) + e9)) (nI d) (stp (4 * ix (rr 56) + e9) f)) (ix (rr 56))) (rcP ps r st) sl sd ne fa bu hs (rcS st) ln ((rwh bu ln).2) (nI 0)) k (rfx rr (4 * ix (rr 56) + e9) (ldg (rr (4 * ix (rr 56) + e9)) (nI d) (stp (4 * ix (rr 56) + e9) f)) (ix (rr 56))) (rcP ps r st) sl sd ne fa bu hs (rcS st) ln ((rwh bu ln).2) (nI 0) := rfSet_at
            refine n_if_eq (tgt := 68) hx hb (by decide) (dk kX6_play_ok 23 rfl) (by decide) (fun h9 => absurd h9 (by decide)) (fun _ => ?_)
            refine lv_iinc (v := nI (dn + 1)) (lv' := [(1, .int (nI (dn + 1))), (0, .ref (ad k)), (2, .int (nI q))]) hx hb (dk kX6_play_ok 24 rfl) hl (k := 1) rfl (n_inc _) (by decide) rfl (fun ls hl => ?_)
            refine lv_iload_n hx hb (dk kX6_play_ok 25 rfl) rfl (lv_at hl 2 rfl) ?_
            refine lv_aload_n hx hb (dk kX6_play_ok 26 rfl) rfl (lv_at hl 1 rfl) ?_
            refine gf hx hb hts (fun w h => List.mem_cons_of_mem _ (acX6 w h)) hown hK hP (by omega) hR.1 rfl 6 (by decide) (hts _ (List.mem_cons_of_mem _ (ac17 _ (List.mem_of_getElem? (i := 23) rfl)))) (fun _ h => h) rfl (dk kX6_play_ok 27 rfl) ?_
            refine lv_iload_n hx hb (dk kX6_play_ok 28 rfl) rfl (lv_at hl 2 rfl) ?_
            refine ald (j := q) hx hb hK hP (k := k + 7) (by omega) hR.2.2.2.2.2.2.2 rfl (by omega) (by decide) (dk kX6_play_ok 29 rfl) ?_
            rw [q5]
            refine lv_bipush (v := nI 102) hx hb (dk kX6_play_ok 30 rfl) rfl ?_
            refine n_icmp_ne (tgt := 61) hx hb (by decide) (by decide) (dk kX6_play_ok 31 rfl) (by decide) (fun h9 => absurd rfl h9) (fun _ => ?_)
            refine lv_iconst (v := nI 5) hx hb (dk kX6_play_ok 32 rfl) rfl ?_
            refine lv_goto (tgt := 63) hx hb (dk kX6_play_ok 33 rfl) (by decide) ?_
            refine n_iadd hx hb (dk kX6_play_ok 35 rfl) ?_
            refine lv_istore_n (lv' := [(2, .int (nI (q + 5))), (1, .int (nI (dn + 1))), (0, .ref (ad k))]) hx hb (dk kX6_play_ok 36 rfl) rfl hl (by decide) rfl (fun ls hl => ?_)
            refine lv_goto (tgt := 26) hx hb (dk kX6_play_ok 37 rfl) (by decide) ?_
            exact ih (q + 5) _ _ _ _ _ _ _ _ _ _ (dn + 1) _ _ HP2 hP hS hwf hr (by omega) (by omega) ls (lv_sub hl [2, 1, 0] rfl)
          · skip
            rw [rRun_fx hpf hwn] at hr
            subst hr
            refine cvR (As := [.int (nI q)]) (rest := []) ⟨hx, hb, hml, hown, hts⟩ (tX6_doesFX l D cI cQ cL ad N _ k hk rr (rcP ps r st) sl sd ne fa bu hs (rcS st) ln ((rwh bu ln).2) (nI 0) hR (ix (rr 56)) hTu.1 hTu.2 q (by omega) e9 d f q2 q3 q4 q5 q6 q7 q8 hwn) (cwV9 1 hts mcX6_does (ac22 _ (List.mem_of_getElem? (i := 5) rfl)) miX6_does meX6_does mini_RX6 rfl rfl hdX6_does ⟨Nat.le_of_ble_eq_true rfl, Nat.le_of_ble_eq_true rfl⟩) hK hP hNW (by omega) hR.1 rfl rfl hl.1 rfl (Nat.le_of_ble_eq_true rfl) ⟨Nat.le_of_ble_eq_true rfl, Nat.le_of_ble_eq_true rfl⟩ (dk kX6_play_ok 22 rfl) ?_
            refine n_if_eq (tgt := 68) hx hb (by decide) (dk kX6_play_ok 23 rfl) (by decide) (fun _ => ?_) (fun h9 => absurd rfl h9)
            refine lv_aload_n hx hb (dk kX6_play_ok 38 rfl) rfl (lv_at hl 0 rfl) ?_
            refine lv_iconst (v := nI 0) hx hb (dk kX6_play_ok 39 rfl) rfl ?_
            refine pf (rfSet cI ad F k rr (rcP ps r st) sl sd ne fa bu hs (rcS st) 0 ((rwh bu ln).2) (nI 0)) hx hb hts (fun w h => List.mem_cons_of_mem _ (acX6 w h)) tyX6 tyX6_ok nmX6 hown hK hDi hP hS (by omega) rfSet_at.1 rfl 9 (by decide) (hts _ (List.mem_cons_of_mem _ (ac21 _ (List.mem_of_getElem? (i := 15) rfl)))) (fun _ h => h) rfl (ty := .int) rfl rfl rfl (Nat.le_of_ble_eq_true rfl) (dk kX6_play_ok 40 rfl) rfSet_u0 (fun H locs hP hS => ?_)
            refine lv_iload_n hx hb (dk kX6_play_ok 41 rfl) rfl (lv_at hl 1 rfl) ?_
            exact hret _ _ _ _ _ _ _ _ rfl ⟨rfl, rfl⟩ hP hS (by decide) (by decide) (dk kX6_play_ok 42 rfl)
        · skip
          obtain ⟨q1, q2, q3, q4, q5, q6, q7, q8, q9, q10⟩ := id hpl
          obtain ⟨hTu, hLo, hC9, hFl, hLi⟩ := HP.rok
          refine lv_aload_n hx hb (dk kX6_play_ok 20 rfl) rfl (lv_at hl 0 rfl) ?_
          refine lv_iload_n hx hb (dk kX6_play_ok 21 rfl) rfl (lv_at hl 2 rfl) ?_
          by_cases hwn : rwl rr (13 * y9 + x9) f d = 0
          · skip
            obtain ⟨ht9, ht10⟩ := HP.t_of (rwl_z hwn).1
            obtain ⟨N2, W2, HP2, -, -⟩ := HP.lift q2 q3 q4 q5 hwn
            rw [rRun_l hpl rfl hwn] at hr
            rw [← ht9] at HP2
            refine cvD (As := [.int (nI q)]) (rest := []) (rfSet cI ad F k (rlx rr (13 * y9 + x9) f d (ix (rr 56))) (rcP ps r st) sl sd ne fa bu hs (rcS st) ln ((rwh bu ln).2) (nI 0)) ⟨hx, hb, hml, hown, hts⟩ (tX6_doesL l D cI cQ cL ad N _ k hk rr (rcP ps r st) sl sd ne fa bu hs (rcS st) ln ((rwh bu ln).2) (nI 0) hR (ix (rr 56)) hTu.1 hTu.2 q (by omega) x9 y9 f d q2 q3 q4 q5 q6 q7 q8 q9 q10 (rwl_z hwn).2.1 (hLi _ f d (by omega) q4.1 q4.2 q5 hwn) hLo hwn) (cwV9 1 hts mcX6_does (ac22 _ (List.mem_of_getElem? (i := 5) rfl)) miX6_does meX6_does mini_RX6 rfl rfl hdX6_does ⟨Nat.le_of_ble_eq_true rfl, Nat.le_of_ble_eq_true rfl⟩) hDi hK hP hNW hS (by omega) hR.1 rfl rfl hl.1 rfl (Nat.le_of_ble_eq_true rfl) ⟨Nat.le_of_ble_eq_true rfl, Nat.le_of_ble_eq_true rfl⟩ (dk kX6_play_ok 22 rfl) rfSet_rfSet (fun H locs hP hS => ?_)
            have hR : rfAt cI ad (rfSet cI ad F k (rlx rr (13 * y9 + x9) f d (ix (rr 56))) (rcP ps r st) sl sd ne fa bu hs (rcS st) ln ((rwh bu ln).2) (nI 0)) k (rlx rr (13 * y9 + x9) f d (ix (rr 56))) (rcP ps r st) sl sd ne fa bu hs (rcS st) ln ((rwh bu ln).2) (nI 0) := rfSet_at
            refine n_if_eq (tgt := 68) hx hb (by decide) (dk kX6_play_ok 23 rfl) (by decide) (fun h9 => absurd h9 (by decide)) (fun _ => ?_)
            refine lv_iinc (v := nI (dn + 1)) (lv' := [(1, .int (nI (dn + 1))), (0, .ref (ad k)), (2, .int (nI q))]) hx hb (dk kX6_play_ok 24 rfl) hl (k := 1) rfl (n_inc _) (by decide) rfl (fun ls hl => ?_)
            refine lv_iload_n hx hb (dk kX6_play_ok 25 rfl) rfl (lv_at hl 2 rfl) ?_
            refine lv_aload_n hx hb (dk kX6_play_ok 26 rfl) rfl (lv_at hl 1 rfl) ?_
            refine gf hx hb hts (fun w h => List.mem_cons_of_mem _ (acX6 w h)) hown hK hP (by omega) hR.1 rfl 6 (by decide) (hts _ (List.mem_cons_of_mem _ (ac17 _ (List.mem_of_getElem? (i := 23) rfl)))) (fun _ h => h) rfl (dk kX6_play_ok 27 rfl) ?_
            refine lv_iload_n hx hb (dk kX6_play_ok 28 rfl) rfl (lv_at hl 2 rfl) ?_
            refine ald (j := q) hx hb hK hP (k := k + 7) (by omega) hR.2.2.2.2.2.2.2 rfl (by omega) (by decide) (dk kX6_play_ok 29 rfl) ?_
            rw [q6]
            refine lv_bipush (v := nI 102) hx hb (dk kX6_play_ok 30 rfl) rfl ?_
            refine n_icmp_ne (tgt := 61) hx hb (by decide) (by decide) (dk kX6_play_ok 31 rfl) (by decide) (fun _ => ?_) (fun h9 => absurd h9 (by decide))
            refine lv_bipush (v := nI 6) hx hb (dk kX6_play_ok 34 rfl) rfl ?_
            refine n_iadd hx hb (dk kX6_play_ok 35 rfl) ?_
            refine lv_istore_n (lv' := [(2, .int (nI (q + 6))), (1, .int (nI (dn + 1))), (0, .ref (ad k))]) hx hb (dk kX6_play_ok 36 rfl) rfl hl (by decide) rfl (fun ls hl => ?_)
            refine lv_goto (tgt := 26) hx hb (dk kX6_play_ok 37 rfl) (by decide) ?_
            exact ih (q + 6) _ _ _ _ _ _ _ _ _ _ (dn + 1) _ _ HP2 hP hS hwf hr (by omega) (by omega) ls (lv_sub hl [2, 1, 0] rfl)
          · skip
            rw [rRun_lx hpl hwn] at hr
            subst hr
            refine cvR (As := [.int (nI q)]) (rest := []) ⟨hx, hb, hml, hown, hts⟩ (tX6_doesLX l D cI cQ cL ad N _ k hk rr (rcP ps r st) sl sd ne fa bu hs (rcS st) ln ((rwh bu ln).2) (nI 0) hR (ix (rr 56)) hTu.1 hTu.2 q (by omega) x9 y9 f d q2 q3 q4 q5 q6 q7 q8 q9 q10 hwn) (cwV9 1 hts mcX6_does (ac22 _ (List.mem_of_getElem? (i := 5) rfl)) miX6_does meX6_does mini_RX6 rfl rfl hdX6_does ⟨Nat.le_of_ble_eq_true rfl, Nat.le_of_ble_eq_true rfl⟩) hK hP hNW (by omega) hR.1 rfl rfl hl.1 rfl (Nat.le_of_ble_eq_true rfl) ⟨Nat.le_of_ble_eq_true rfl, Nat.le_of_ble_eq_true rfl⟩ (dk kX6_play_ok 22 rfl) ?_
            refine n_if_eq (tgt := 68) hx hb (by decide) (dk kX6_play_ok 23 rfl) (by decide) (fun _ => ?_) (fun h9 => absurd rfl h9)
            refine lv_aload_n hx hb (dk kX6_play_ok 38 rfl) rfl (lv_at hl 0 rfl) ?_
            refine lv_iconst (v := nI 0) hx hb (dk kX6_play_ok 39 rfl) rfl ?_
            refine pf (rfSet cI ad F k rr (rcP ps r st) sl sd ne fa bu hs (rcS st) 0 ((rwh bu ln).2) (nI 0)) hx hb hts (fun w h => List.mem_cons_of_mem _ (acX6 w h)) tyX6 tyX6_ok nmX6 hown hK hDi hP hS (by omega) rfSet_at.1 rfl 9 (by decide) (hts _ (List.mem_cons_of_mem _ (ac21 _ (List.mem_of_getElem? (i := 15) rfl)))) (fun _ h => h) rfl (ty := .int) rfl rfl rfl (Nat.le_of_ble_eq_true rfl) (dk kX6_play_ok 40 rfl) rfSet_u0 (fun H locs hP hS => ?_)
            refine lv_iload_n hx hb (dk kX6_play_ok 41 rfl) rfl (lv_at hl 1 rfl) ?_
            exact hret _ _ _ _ _ _ _ _ rfl ⟨rfl, rfl⟩ hP hS (by decide) (by decide) (dk kX6_play_ok 42 rfl)
  exact L26 61 0 r b v g h j t u Np Wp 0 _ _ HP hP hS hwf hres (Nat.le_refl 0) (Nat.zero_le _) ls (lv_sub hl [2, 1, 0] rfl)
