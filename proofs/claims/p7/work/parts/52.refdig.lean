set_option maxRecDepth 100000 in
set_option maxHeartbeats 4000000 in
theorem tX6_digest (l : Launch) (D : va_G) (cI cQ cL : ClassId) (ad : Nat → Nat) (N : Nat) (F : Nat → va_E) (k : Nat) (hk : k + 7 < N) (r ps sl sd ne fa bu : Nat → Int32) (hs : Bool) (st ln pt : Nat) (th : Int32) (hR : rfAt cI ad F k r ps sl sd ne fa bu hs st ln pt th) (nf : Nat → Nat) (hnf : rNF r nf) (hrk : rok r) (hln : ln ≤ 60) : MX l yX6_digest (Cond.code yX6_digest cX6_digest 4 (some .long) :: AW) ({ frames := 7, cells := 0, slots := 0, locals := 163 } : Room) D cI cQ cL ad N F [.ref (ad k)] (fun v9 G9 => v9 = some (.long (fo bu ln (rd3 r nf st sd hs ln))) ∧ ∃ ne9 fa9, G9 = rfSet cI ad F k r ps sl ((rbst r sd 288).2.2) ne9 fa9 bu hs st ln pt (nI 0)) 0 0 := by
  refine mx_l (by decide +kernel) rfl (Nat.le_of_ble_eq_true rfl) (fun p e s m below meth cd Q ls hx hb hml hown hts hDi hP hK hNW hS hret hl => ?_)
  have hown : s.vm.findClass RX6 = some m.cls := hown
  have hk0 : k < N := by omega
  have hk1 : k + 1 < N := by omega
  have hk2 : k + 2 < N := by omega
  have hk3 : k + 3 < N := by omega
  have hk4 : k + 4 < N := by omega
  have hk5 : k + 5 < N := by omega
  have hk6 : k + 6 < N := by omega
  have hk7 : k + 7 < N := by omega
  have hP : va_P D vwCl (iW ad N (rfSet cI ad F k r ps sl sd ne fa bu hs st ln pt th)) s.heap := by rw [rfSet_self hR]; exact hP
  have hl : lv_has ls 4 [(0, .ref (ad k))] := hl
  refine lv_aload_n hx hb (dk kX6_digest_0_ok 0 rfl) rfl (lv_at hl 0 rfl) ?_
  refine lv_iconst (v := nI 0) hx hb (dk kX6_digest_0_ok 1 rfl) rfl ?_
  refine pf (rfSet cI ad F k r ps sl sd ne fa bu hs st ln pt (nI 0)) hx hb hts (fun w h => List.mem_cons_of_mem _ (acX6 w h)) tyX6 tyX6_ok nmX6 hown hK hDi hP hS hk0 rfSet_at.1 rfl 11 (by decide) (hts _ (List.mem_cons_of_mem _ (ac18 _ (List.mem_of_getElem? (i := 4) rfl)))) (fun _ h => h) rfl (ty := .int) rfl rfl rfl (Nat.le_of_ble_eq_true rfl) (dk kX6_digest_0_ok 2 rfl) rfSet_u0 (fun H locs hP hS => ?_)
  refine lv_ldc2 (v := (3823)) hx hb hown (hts _ (List.mem_cons_of_mem _ (ac26 _ (List.mem_of_getElem? (i := 6) rfl)))) (dk kX6_digest_0_ok 3 rfl) ?_
  refine lv_lstore_n (lv' := [(1, .long 3823), (0, .ref (ad k))]) hx hb (dk kX6_digest_0_ok 4 rfl) rfl hl (by decide) rfl (fun ls hl => ?_)
  refine lv_iconst (v := nI 0) hx hb (dk kX6_digest_0_ok 5 rfl) rfl ?_
  refine lv_istore_n (lv' := [(3, .int (nI 0)), (1, .long 3823), (0, .ref (ad k))]) hx hb (dk kX6_digest_0_ok 6 rfl) rfl hl (by decide) rfl (fun ls hl => ?_)
  have L11 : ∀ (fu : Nat) (i : Nat) (x1 : Int64) (H : Heap) (locs : List Loc), va_P D vwCl (iW ad N (rfSet cI ad F k r ps sl sd ne fa bu hs st ln pt (nI 0))) H → va_S (iA ad N s.heap.size) s.heap H locs → x1 = fo (fun k9 => aNum r st k9) i 3823 → i ≤ 14 → 14 - i < fu → ∀ ls : Array Slot, lv_has ls 4 [(0, .ref (ad k)), (1, .long x1), (3, .int (nI i))] → W p l e ({ frames := 7, cells := 0, slots := 0, locals := 163 } : Room) s m ([.ref (ad k)] : List Value).toArray below meth cd H locs 0 0 Q (F0 m 11 ls []) := by
    intro fu
    induction fu with
    | zero => intros; omega
    | succ fu ih11 =>
      intro i x1 H locs hP hS ex1 hi hme11 ls hl
      subst ex1
      refine lv_iload_n hx hb (dk kX6_digest_0_ok 7 rfl) rfl (lv_at hl 2 rfl) ?_
      refine lv_bipush (v := nI 14) hx hb (dk kX6_digest_0_ok 8 rfl) rfl ?_
      refine n_icmp_ge (tgt := 36) hx hb (by omega) (by decide) (dk kX6_digest_0_ok 9 rfl) (by decide) (fun h1 => ?_) (fun h1 => ?_)
      · skip
        refine lv_aload_n hx hb (dk kX6_digest_0_ok 21 rfl) rfl (lv_at hl 0 rfl) ?_
        refine lv_aload_n hx hb (dk kX6_digest_0_ok 22 rfl) rfl (lv_at hl 0 rfl) ?_
        refine lv_lload_n hx hb (dk kX6_digest_0_ok 23 rfl) rfl (lv_at hl 1 rfl) ?_
        refine cvE (As := [.long (fo (fun k9 => aNum r st k9) i 3823)]) (rest := [.ref (ad k)]) ⟨hx, hb, hml, hown, hts⟩ (tX6_ofWinks l D cI cQ cL ad N (rfSet cI ad F k r ps sl sd ne fa bu hs st ln pt (nI 0)) k hk r ps sl sd ne fa bu hs st ln pt (nI 0) (rfSet_at) (fo (fun k9 => aNum r st k9) i 3823) nf hnf) (cwV9 1 hts mcX6_ofWinks (ac26 _ (List.mem_of_getElem? (i := 7) rfl)) miX6_ofWinks meX6_ofWinks mini_RX6 rfl rfl hdX6_ofWinks ⟨Nat.le_of_ble_eq_true rfl, Nat.le_of_ble_eq_true rfl⟩) hDi hK hP hNW hS hk0 rfSet_at.1 rfl rfl hl.1 rfl (Nat.le_of_ble_eq_true rfl) (by decide) (dk kX6_digest_0_ok 24 rfl) (fun G9 H locs hp9 hP hS => ?_)
        obtain ⟨ne9, fa9, rfl⟩ := hp9
        rw [rfSet_rfSet] at hP
        refine cvR (As := [.long (rwE r nf (fo (fun k9 => aNum r st k9) i 3823))]) (rest := []) ⟨hx, hb, hml, hown, hts⟩ (tX6_ofCells l D cI cQ cL ad N (rfSet cI ad F k r ps sl sd ne9 fa9 bu hs st ln pt (nI 0)) k hk r ps sl sd ne9 fa9 bu hs st ln pt (nI 0) (rfSet_at) (rwE r nf (fo (fun k9 => aNum r st k9) i 3823))) (cwV9 1 hts mcX6_ofCells (ac26 _ (List.mem_of_getElem? (i := 11) rfl)) miX6_ofCells meX6_ofCells mini_RX6 rfl rfl hdX6_ofCells ⟨Nat.le_of_ble_eq_true rfl, Nat.le_of_ble_eq_true rfl⟩) hK hP hNW hk0 rfSet_at.1 rfl rfl hl.1 rfl (Nat.le_of_ble_eq_true rfl) (by decide) (dk kX6_digest_0_ok 25 rfl) ?_
        refine lv_lstore_n (lv' := [(1, .long (foP (fun w9 => decide (hgt r (nI w9) = 0)) (fun w9 k9 => aPile r (nI w9) k9) 4 169 (rwE r nf (fo (fun k9 => aNum r st k9) i 3823)))), (0, .ref (ad k)), (3, .int (nI i))]) hx hb (dk kX6_digest_0_ok 26 rfl) rfl hl (by decide) rfl (fun ls hl => ?_)
        refine lv_ldc2 (v := (31)) hx hb hown (hts _ (List.mem_cons_of_mem _ (ac25 _ (List.mem_of_getElem? (i := 11) rfl)))) (dk kX6_digest_0_ok 27 rfl) ?_
        refine lv_lload_n hx hb (dk kX6_digest_0_ok 28 rfl) rfl (lv_at hl 0 rfl) ?_
        refine lv_lmul hx hb (dk kX6_digest_0_ok 29 rfl) ?_
        refine lv_aload_n hx hb (dk kX6_digest_0_ok 30 rfl) rfl (lv_at hl 1 rfl) ?_
        refine cvD (As := []) (rest := [.long (31 * (foP (fun w9 => decide (hgt r (nI w9) = 0)) (fun w9 k9 => aPile r (nI w9) k9) 4 169 (rwE r nf (fo (fun k9 => aNum r st k9) i 3823))))]) (rfSet cI ad F k r ps sl ((rbst r sd 288).2.2) ne9 fa9 bu hs st ln pt (nI 0)) ⟨hx, hb, hml, hown, hts⟩ (tX6_bestFlight l D cI cQ cL ad N (rfSet cI ad F k r ps sl sd ne9 fa9 bu hs st ln pt (nI 0)) k hk r ps sl sd ne9 fa9 bu hs st ln pt (nI 0) (rfSet_at) hrk) (cwV9 0 hts mcX6_bestFlight (ac25 _ (List.mem_of_getElem? (i := 2) rfl)) miX6_bestFlight meX6_bestFlight mini_RX6 rfl rfl hdX6_bestFlight ⟨Nat.le_of_ble_eq_true rfl, Nat.le_of_ble_eq_true rfl⟩) hDi hK hP hNW hS hk0 rfSet_at.1 rfl rfl hl.1 rfl (Nat.le_of_ble_eq_true rfl) (by decide) (dk kX6_digest_0_ok 31 rfl) rfSet_rfSet (fun H locs hP hS => ?_)
        refine lv_i2l hx hb (dk kX6_digest_0_ok 32 rfl) rfl ?_
        refine lv_ladd hx hb (dk kX6_digest_0_ok 33 rfl) ?_
        refine lv_lstore_n (lv' := [(1, .long ((31 * (foP (fun w9 => decide (hgt r (nI w9) = 0)) (fun w9 k9 => aPile r (nI w9) k9) 4 169 (rwE r nf (fo (fun k9 => aNum r st k9) i 3823)))) + (((rbst r sd 288).1).toInt64))), (0, .ref (ad k)), (3, .int (nI i))]) hx hb (dk kX6_digest_0_ok 34 rfl) rfl hl (by decide) rfl (fun ls hl => ?_)
        refine lv_ldc2 (v := (31)) hx hb hown (hts _ (List.mem_cons_of_mem _ (ac25 _ (List.mem_of_getElem? (i := 11) rfl)))) (dk kX6_digest_0_ok 35 rfl) ?_
        refine lv_lload_n hx hb (dk kX6_digest_0_ok 36 rfl) rfl (lv_at hl 0 rfl) ?_
        refine lv_lmul hx hb (dk kX6_digest_0_ok 37 rfl) ?_
        refine lv_aload_n hx hb (dk kX6_digest_0_ok 38 rfl) rfl (lv_at hl 1 rfl) ?_
        refine cvD (As := []) (rest := [.long (31 * ((31 * (foP (fun w9 => decide (hgt r (nI w9) = 0)) (fun w9 k9 => aPile r (nI w9) k9) 4 169 (rwE r nf (fo (fun k9 => aNum r st k9) i 3823)))) + (((rbst r sd 288).1).toInt64)))]) (rfSet cI ad F k r ps sl ((rbst r sd 288).2.2) ne9 fa9 bu hs st ln pt (nI 0)) ⟨hx, hb, hml, hown, hts⟩ (tX6_pottedShare l D cI cQ cL ad N (rfSet cI ad F k r ps sl ((rbst r sd 288).2.2) ne9 fa9 bu hs st ln pt (nI 0)) k hk r ps sl ((rbst r sd 288).2.2) ne9 fa9 bu hs st ln pt (nI 0) (rfSet_at)) (cwV9 0 hts mcX6_pottedShare (ac26 _ (List.mem_of_getElem? (i := 15) rfl)) miX6_pottedShare meX6_pottedShare mini_RX6 rfl rfl hdX6_pottedShare ⟨Nat.le_of_ble_eq_true rfl, Nat.le_of_ble_eq_true rfl⟩) hDi hK hP hNW hS hk0 rfSet_at.1 rfl rfl hl.1 rfl (Nat.le_of_ble_eq_true rfl) (by decide) (dk kX6_digest_0_ok 39 rfl) rfSet_rfSet (fun H locs hP hS => ?_)
        refine csP (As := [.double (shr (potn r))]) (rest := [.long (31 * ((31 * (foP (fun w9 => decide (hgt r (nI w9) = 0)) (fun w9 k9 => aPile r (nI w9) k9) 4 169 (rwE r nf (fo (fun k9 => aNum r st k9) i 3823)))) + (((rbst r sd 288).1).toInt64)))]) ⟨hx, hb, hml, hown, hts⟩ (tJxe99ae_doubleToLongBits_ccdee l (shr (potn r)) (shr_cmp (potn_le r))) (cwS9 1 hts mcJxe99ae_doubleToLongBits_ccdee (ac26 _ (List.mem_of_getElem? (i := 19) rfl)) msJxe99ae_doubleToLongBits_ccdee mini_RJxe99ae rfl rfl hdJxe99ae_doubleToLongBits_ccdee ⟨Nat.le_of_ble_eq_true rfl, Nat.le_of_ble_eq_true rfl⟩) rfl hl.1 rfl (Nat.le_of_ble_eq_true rfl) (by decide) (dk kX6_digest_0_ok 40 rfl) ?_
        refine lv_ladd hx hb (dk kX6_digest_0_ok 41 rfl) ?_
        refine lv_lstore_n (lv' := [(1, .long ((31 * ((31 * (foP (fun w9 => decide (hgt r (nI w9) = 0)) (fun w9 k9 => aPile r (nI w9) k9) 4 169 (rwE r nf (fo (fun k9 => aNum r st k9) i 3823)))) + (((rbst r sd 288).1).toInt64))) + ((shr (potn r)).toInt64))), (0, .ref (ad k)), (3, .int (nI i))]) hx hb (dk kX6_digest_0_ok 42 rfl) rfl hl (by decide) rfl (fun ls hl => ?_)
        refine lv_ldc2 (v := (31)) hx hb hown (hts _ (List.mem_cons_of_mem _ (ac25 _ (List.mem_of_getElem? (i := 11) rfl)))) (dk kX6_digest_0_ok 43 rfl) ?_
        refine lv_lload_n hx hb (dk kX6_digest_0_ok 44 rfl) rfl (lv_at hl 0 rfl) ?_
        refine lv_lmul hx hb (dk kX6_digest_0_ok 45 rfl) ?_
        refine lv_aload_n hx hb (dk kX6_digest_0_ok 46 rfl) rfl (lv_at hl 1 rfl) ?_
        refine cvD (As := []) (rest := [.long (31 * ((31 * ((31 * (foP (fun w9 => decide (hgt r (nI w9) = 0)) (fun w9 k9 => aPile r (nI w9) k9) 4 169 (rwE r nf (fo (fun k9 => aNum r st k9) i 3823)))) + (((rbst r sd 288).1).toInt64))) + ((shr (potn r)).toInt64)))]) (rfSet cI ad F k r ps sl ((rbst r sd 288).2.2) ne9 fa9 bu hs st ln pt (nI 0)) ⟨hx, hb, hml, hown, hts⟩ (tX6_meanPile l D cI cQ cL ad N (rfSet cI ad F k r ps sl ((rbst r sd 288).2.2) ne9 fa9 bu hs st ln pt (nI 0)) k hk r ps sl ((rbst r sd 288).2.2) ne9 fa9 bu hs st ln pt (nI 0) (rfSet_at)) (cwV9 0 hts mcX6_meanPile (ac26 _ (List.mem_of_getElem? (i := 22) rfl)) miX6_meanPile meX6_meanPile mini_RX6 rfl rfl hdX6_meanPile ⟨Nat.le_of_ble_eq_true rfl, Nat.le_of_ble_eq_true rfl⟩) hDi hK hP hNW hS hk0 rfSet_at.1 rfl rfl hl.1 rfl (Nat.le_of_ble_eq_true rfl) (by decide) (dk kX6_digest_0_ok 47 rfl) rfSet_rfSet (fun H locs hP hS => ?_)
        refine csP (As := [.float (mea (rpl r) (potn r))]) (rest := [.long (31 * ((31 * ((31 * (foP (fun w9 => decide (hgt r (nI w9) = 0)) (fun w9 k9 => aPile r (nI w9) k9) 4 169 (rwE r nf (fo (fun k9 => aNum r st k9) i 3823)))) + (((rbst r sd 288).1).toInt64))) + ((shr (potn r)).toInt64)))]) ⟨hx, hb, hml, hown, hts⟩ (tJxf58ca_floatToIntBits_5c35a l (mea (rpl r) (potn r)) (mea_cmp (potn_le r) (rpl_le r))) (cwS9 1 hts mcJxf58ca_floatToIntBits_5c35a (ac27 _ (List.mem_of_getElem? (i := 2) rfl)) msJxf58ca_floatToIntBits_5c35a mini_RJxf58ca rfl rfl hdJxf58ca_floatToIntBits_5c35a ⟨Nat.le_of_ble_eq_true rfl, Nat.le_of_ble_eq_true rfl⟩) rfl hl.1 rfl (Nat.le_of_ble_eq_true rfl) (by decide) (dk kX6_digest_0_ok 48 rfl) ?_
        refine lv_i2l hx hb (dk kX6_digest_0_ok 49 rfl) rfl ?_
        refine lv_ladd hx hb (dk kX6_digest_0_ok 50 rfl) ?_
        refine lv_lstore_n (lv' := [(1, .long ((31 * ((31 * ((31 * (foP (fun w9 => decide (hgt r (nI w9) = 0)) (fun w9 k9 => aPile r (nI w9) k9) 4 169 (rwE r nf (fo (fun k9 => aNum r st k9) i 3823)))) + (((rbst r sd 288).1).toInt64))) + ((shr (potn r)).toInt64))) + (((mea (rpl r) (potn r)).toInt32).toInt64))), (0, .ref (ad k)), (3, .int (nI i))]) hx hb (dk kX6_digest_0_ok 51 rfl) rfl hl (by decide) rfl (fun ls hl => ?_)
        refine lv_ldc2 (v := (31)) hx hb hown (hts _ (List.mem_cons_of_mem _ (ac25 _ (List.mem_of_getElem? (i := 11) rfl)))) (dk kX6_digest_0_ok 52 rfl) ?_
        refine lv_lload_n hx hb (dk kX6_digest_0_ok 53 rfl) rfl (lv_at hl 0 rfl) ?_
        refine lv_lmul hx hb (dk kX6_digest_0_ok 54 rfl) ?_
        refine lv_aload_n hx hb (dk kX6_digest_0_ok 55 rfl) rfl (lv_at hl 1 rfl) ?_
        refine gf hx hb hts (fun w h => List.mem_cons_of_mem _ (acX6 w h)) hown hK hP hk0 rfSet_at.1 rfl 7 (by decide) (hts _ (List.mem_cons_of_mem _ (ac22 _ (List.mem_of_getElem? (i := 9) rfl)))) (fun _ h => h) rfl (dk kX6_digest_0_ok 56 rfl) ?_
        refine b_if_eq (tgt := 103) hx hb (dk kX6_digest_0_ok 57 rfl) (by decide) (fun h2 => ?_) (fun h2 => ?_)
        · skip
          refine lv_iconst (v := nI 0) hx hb (dk kX6_digest_1_ok 0 rfl) rfl ?_
          refine lv_i2l hx hb (dk kX6_digest_1_ok 1 rfl) rfl ?_
          refine lv_ladd hx hb (dk kX6_digest_1_ok 2 rfl) ?_
          refine lv_lstore_n (lv' := [(1, .long ((31 * ((31 * ((31 * ((31 * (foP (fun w9 => decide (hgt r (nI w9) = 0)) (fun w9 k9 => aPile r (nI w9) k9) 4 169 (rwE r nf (fo (fun k9 => aNum r st k9) i 3823)))) + (((rbst r sd 288).1).toInt64))) + ((shr (potn r)).toInt64))) + (((mea (rpl r) (potn r)).toInt32).toInt64))) + ((nI 0).toInt64))), (0, .ref (ad k)), (3, .int (nI i))]) hx hb (dk kX6_digest_1_ok 3 rfl) rfl hl (by decide) rfl (fun ls hl => ?_)
          refine lv_ldc2 (v := (31)) hx hb hown (hts _ (List.mem_cons_of_mem _ (ac25 _ (List.mem_of_getElem? (i := 11) rfl)))) (dk kX6_digest_1_ok 4 rfl) ?_
          refine lv_lload_n hx hb (dk kX6_digest_1_ok 5 rfl) rfl (lv_at hl 0 rfl) ?_
          refine lv_lmul hx hb (dk kX6_digest_1_ok 6 rfl) ?_
          refine lv_aload_n hx hb (dk kX6_digest_1_ok 7 rfl) rfl (lv_at hl 1 rfl) ?_
          refine gf hx hb hts (fun w h => List.mem_cons_of_mem _ (acX6 w h)) hown hK hP hk0 rfSet_at.1 rfl 9 (by decide) (hts _ (List.mem_cons_of_mem _ (ac21 _ (List.mem_of_getElem? (i := 15) rfl)))) (fun _ h => h) rfl (dk kX6_digest_1_ok 8 rfl) ?_
          refine lv_i2l hx hb (dk kX6_digest_1_ok 9 rfl) rfl ?_
          refine lv_ladd hx hb (dk kX6_digest_1_ok 10 rfl) ?_
          refine lv_lstore_n (lv' := [(1, .long ((31 * ((31 * ((31 * ((31 * ((31 * (foP (fun w9 => decide (hgt r (nI w9) = 0)) (fun w9 k9 => aPile r (nI w9) k9) 4 169 (rwE r nf (fo (fun k9 => aNum r st k9) i 3823)))) + (((rbst r sd 288).1).toInt64))) + ((shr (potn r)).toInt64))) + (((mea (rpl r) (potn r)).toInt32).toInt64))) + ((nI 0).toInt64))) + ((nI ln).toInt64))), (0, .ref (ad k)), (3, .int (nI i))]) hx hb (dk kX6_digest_1_ok 11 rfl) rfl hl (by decide) rfl (fun ls hl => ?_)
          refine lv_iconst (v := nI 0) hx hb (dk kX6_digest_1_ok 12 rfl) rfl ?_
          refine lv_istore_n (lv' := [(3, .int (nI 0)), (1, .long ((31 * ((31 * ((31 * ((31 * ((31 * (foP (fun w9 => decide (hgt r (nI w9) = 0)) (fun w9 k9 => aPile r (nI w9) k9) 4 169 (rwE r nf (fo (fun k9 => aNum r st k9) i 3823)))) + (((rbst r sd 288).1).toInt64))) + ((shr (potn r)).toInt64))) + (((mea (rpl r) (potn r)).toInt32).toInt64))) + ((nI 0).toInt64))) + ((nI ln).toInt64))), (0, .ref (ad k))]) hx hb (dk kX6_digest_1_ok 13 rfl) rfl hl (by decide) rfl (fun ls hl => ?_)
          have L121 : ∀ (fu : Nat) (i : Nat) (x1 : Int64) (H : Heap) (locs : List Loc), va_P D vwCl (iW ad N (rfSet cI ad F k r ps sl ((rbst r sd 288).2.2) ne9 fa9 bu hs st ln pt (nI 0))) H → va_S (iA ad N s.heap.size) s.heap H locs → x1 = fo bu i (rd3 r nf st sd hs ln) → i ≤ ln → ln - i < fu → ∀ ls : Array Slot, lv_has ls 4 [(0, .ref (ad k)), (1, .long x1), (3, .int (nI i))] → W p l e ({ frames := 7, cells := 0, slots := 0, locals := 163 } : Room) s m ([.ref (ad k)] : List Value).toArray below meth cd H locs 0 0 Q (F0 m 121 ls []) := by
            intro fu
            induction fu with
            | zero => intros; omega
            | succ fu ih121 =>
              intro i x1 H locs hP hS ex1 hi hme121 ls hl
              subst ex1
              refine lv_iload_n hx hb (dk kX6_digest_1_ok 14 rfl) rfl (lv_at hl 2 rfl) ?_
              refine lv_aload_n hx hb (dk kX6_digest_1_ok 15 rfl) rfl (lv_at hl 0 rfl) ?_
              refine gf hx hb hts (fun w h => List.mem_cons_of_mem _ (acX6 w h)) hown hK hP hk0 rfSet_at.1 rfl 9 (by decide) (hts _ (List.mem_cons_of_mem _ (ac21 _ (List.mem_of_getElem? (i := 15) rfl)))) (fun _ h => h) rfl (dk kX6_digest_1_ok 16 rfl) ?_
              refine n_icmp_ge (tgt := 149) hx hb (by omega) (by omega) (dk kX6_digest_1_ok 17 rfl) (by decide) (fun h3 => ?_) (fun h3 => ?_)
              · skip
                refine lv_lload_n hx hb (dk kX6_digest_1_ok 30 rfl) rfl (lv_at hl 1 rfl) ?_
                exact hret _ _ _ _ _ _ _ _  (by rw [show i = ln by omega]; exact ⟨rfl, _, _, rfl⟩) hP hS (by decide) (by decide) (dk kX6_digest_1_ok 31 rfl)
              · skip
                refine lv_ldc2 (v := (31)) hx hb hown (hts _ (List.mem_cons_of_mem _ (ac25 _ (List.mem_of_getElem? (i := 11) rfl)))) (dk kX6_digest_1_ok 18 rfl) ?_
                refine lv_lload_n hx hb (dk kX6_digest_1_ok 19 rfl) rfl (lv_at hl 1 rfl) ?_
                refine lv_lmul hx hb (dk kX6_digest_1_ok 20 rfl) ?_
                refine lv_aload_n hx hb (dk kX6_digest_1_ok 21 rfl) rfl (lv_at hl 0 rfl) ?_
                refine gf hx hb hts (fun w h => List.mem_cons_of_mem _ (acX6 w h)) hown hK hP hk0 rfSet_at.1 rfl 6 (by decide) (hts _ (List.mem_cons_of_mem _ (ac17 _ (List.mem_of_getElem? (i := 23) rfl)))) (fun _ h => h) rfl (dk kX6_digest_1_ok 22 rfl) ?_
                refine lv_iload_n hx hb (dk kX6_digest_1_ok 23 rfl) rfl (lv_at hl 2 rfl) ?_
                refine ald (j := i) hx hb hK hP hk7 rfSet_at.2.2.2.2.2.2.2 rfl (by omega) (by decide) (dk kX6_digest_1_ok 24 rfl) ?_
                refine lv_i2l hx hb (dk kX6_digest_1_ok 25 rfl) rfl ?_
                refine lv_ladd hx hb (dk kX6_digest_1_ok 26 rfl) ?_
                refine lv_lstore_n (lv' := [(1, .long ((31 * (fo bu i (rd3 r nf st sd hs ln))) + ((bu i).toInt64))), (0, .ref (ad k)), (3, .int (nI i))]) hx hb (dk kX6_digest_1_ok 27 rfl) rfl hl (by decide) rfl (fun ls hl => ?_)
                refine lv_iinc (v := nI (i + 1)) (lv' := [(3, .int (nI (i + 1))), (1, .long ((31 * (fo bu i (rd3 r nf st sd hs ln))) + ((bu i).toInt64))), (0, .ref (ad k))]) hx hb (dk kX6_digest_1_ok 28 rfl) hl (k := 2) rfl (n_inc _) (by decide) rfl (fun ls hl => ?_)
                refine lv_goto (tgt := 121) hx hb (dk kX6_digest_1_ok 29 rfl) (by decide) ?_
                exact ih121 (i + 1) _ _ _ hP hS (by exact fo_s (A := bu)) (by omega) (by omega) ls (lv_sub hl [2, 1, 0] rfl)
          exact L121 _ 0 _ _ _ hP hS (by first | omega | (rw [rd3, bI_t h2, rd2, rd1, show (14 : Nat) = i by omega]; rfl) | (rw [rd3, bI_f h2, rd2, rd1, show (14 : Nat) = i by omega]; rfl)) (by first | omega | (rw [rd3, bI_t h2, rd2, rd1, show (14 : Nat) = i by omega]; rfl) | (rw [rd3, bI_f h2, rd2, rd1, show (14 : Nat) = i by omega]; rfl)) (Nat.lt_succ_self _) ls (lv_sub hl [2, 1, 0] rfl)
        · skip
          refine lv_iconst (v := nI 1) hx hb (dk kX6_digest_0_ok 58 rfl) rfl ?_
          refine lv_goto (tgt := 104) hx hb (dk kX6_digest_0_ok 59 rfl) (by decide) ?_
          refine lv_i2l hx hb (dk kX6_digest_1_ok 1 rfl) rfl ?_
          refine lv_ladd hx hb (dk kX6_digest_1_ok 2 rfl) ?_
          refine lv_lstore_n (lv' := [(1, .long ((31 * ((31 * ((31 * ((31 * (foP (fun w9 => decide (hgt r (nI w9) = 0)) (fun w9 k9 => aPile r (nI w9) k9) 4 169 (rwE r nf (fo (fun k9 => aNum r st k9) i 3823)))) + (((rbst r sd 288).1).toInt64))) + ((shr (potn r)).toInt64))) + (((mea (rpl r) (potn r)).toInt32).toInt64))) + ((nI 1).toInt64))), (0, .ref (ad k)), (3, .int (nI i))]) hx hb (dk kX6_digest_1_ok 3 rfl) rfl hl (by decide) rfl (fun ls hl => ?_)
          refine lv_ldc2 (v := (31)) hx hb hown (hts _ (List.mem_cons_of_mem _ (ac25 _ (List.mem_of_getElem? (i := 11) rfl)))) (dk kX6_digest_1_ok 4 rfl) ?_
          refine lv_lload_n hx hb (dk kX6_digest_1_ok 5 rfl) rfl (lv_at hl 0 rfl) ?_
          refine lv_lmul hx hb (dk kX6_digest_1_ok 6 rfl) ?_
          refine lv_aload_n hx hb (dk kX6_digest_1_ok 7 rfl) rfl (lv_at hl 1 rfl) ?_
          refine gf hx hb hts (fun w h => List.mem_cons_of_mem _ (acX6 w h)) hown hK hP hk0 rfSet_at.1 rfl 9 (by decide) (hts _ (List.mem_cons_of_mem _ (ac21 _ (List.mem_of_getElem? (i := 15) rfl)))) (fun _ h => h) rfl (dk kX6_digest_1_ok 8 rfl) ?_
          refine lv_i2l hx hb (dk kX6_digest_1_ok 9 rfl) rfl ?_
          refine lv_ladd hx hb (dk kX6_digest_1_ok 10 rfl) ?_
          refine lv_lstore_n (lv' := [(1, .long ((31 * ((31 * ((31 * ((31 * ((31 * (foP (fun w9 => decide (hgt r (nI w9) = 0)) (fun w9 k9 => aPile r (nI w9) k9) 4 169 (rwE r nf (fo (fun k9 => aNum r st k9) i 3823)))) + (((rbst r sd 288).1).toInt64))) + ((shr (potn r)).toInt64))) + (((mea (rpl r) (potn r)).toInt32).toInt64))) + ((nI 1).toInt64))) + ((nI ln).toInt64))), (0, .ref (ad k)), (3, .int (nI i))]) hx hb (dk kX6_digest_1_ok 11 rfl) rfl hl (by decide) rfl (fun ls hl => ?_)
          refine lv_iconst (v := nI 0) hx hb (dk kX6_digest_1_ok 12 rfl) rfl ?_
          refine lv_istore_n (lv' := [(3, .int (nI 0)), (1, .long ((31 * ((31 * ((31 * ((31 * ((31 * (foP (fun w9 => decide (hgt r (nI w9) = 0)) (fun w9 k9 => aPile r (nI w9) k9) 4 169 (rwE r nf (fo (fun k9 => aNum r st k9) i 3823)))) + (((rbst r sd 288).1).toInt64))) + ((shr (potn r)).toInt64))) + (((mea (rpl r) (potn r)).toInt32).toInt64))) + ((nI 1).toInt64))) + ((nI ln).toInt64))), (0, .ref (ad k))]) hx hb (dk kX6_digest_1_ok 13 rfl) rfl hl (by decide) rfl (fun ls hl => ?_)
          have L121 : ∀ (fu : Nat) (i : Nat) (x1 : Int64) (H : Heap) (locs : List Loc), va_P D vwCl (iW ad N (rfSet cI ad F k r ps sl ((rbst r sd 288).2.2) ne9 fa9 bu hs st ln pt (nI 0))) H → va_S (iA ad N s.heap.size) s.heap H locs → x1 = fo bu i (rd3 r nf st sd hs ln) → i ≤ ln → ln - i < fu → ∀ ls : Array Slot, lv_has ls 4 [(0, .ref (ad k)), (1, .long x1), (3, .int (nI i))] → W p l e ({ frames := 7, cells := 0, slots := 0, locals := 163 } : Room) s m ([.ref (ad k)] : List Value).toArray below meth cd H locs 0 0 Q (F0 m 121 ls []) := by
            intro fu
            induction fu with
            | zero => intros; omega
            | succ fu ih121 =>
              intro i x1 H locs hP hS ex1 hi hme121 ls hl
              subst ex1
              refine lv_iload_n hx hb (dk kX6_digest_1_ok 14 rfl) rfl (lv_at hl 2 rfl) ?_
              refine lv_aload_n hx hb (dk kX6_digest_1_ok 15 rfl) rfl (lv_at hl 0 rfl) ?_
              refine gf hx hb hts (fun w h => List.mem_cons_of_mem _ (acX6 w h)) hown hK hP hk0 rfSet_at.1 rfl 9 (by decide) (hts _ (List.mem_cons_of_mem _ (ac21 _ (List.mem_of_getElem? (i := 15) rfl)))) (fun _ h => h) rfl (dk kX6_digest_1_ok 16 rfl) ?_
              refine n_icmp_ge (tgt := 149) hx hb (by omega) (by omega) (dk kX6_digest_1_ok 17 rfl) (by decide) (fun h4 => ?_) (fun h4 => ?_)
              · skip
                refine lv_lload_n hx hb (dk kX6_digest_1_ok 30 rfl) rfl (lv_at hl 1 rfl) ?_
                exact hret _ _ _ _ _ _ _ _  (by rw [show i = ln by omega]; exact ⟨rfl, _, _, rfl⟩) hP hS (by decide) (by decide) (dk kX6_digest_1_ok 31 rfl)
              · skip
                refine lv_ldc2 (v := (31)) hx hb hown (hts _ (List.mem_cons_of_mem _ (ac25 _ (List.mem_of_getElem? (i := 11) rfl)))) (dk kX6_digest_1_ok 18 rfl) ?_
                refine lv_lload_n hx hb (dk kX6_digest_1_ok 19 rfl) rfl (lv_at hl 1 rfl) ?_
                refine lv_lmul hx hb (dk kX6_digest_1_ok 20 rfl) ?_
                refine lv_aload_n hx hb (dk kX6_digest_1_ok 21 rfl) rfl (lv_at hl 0 rfl) ?_
                refine gf hx hb hts (fun w h => List.mem_cons_of_mem _ (acX6 w h)) hown hK hP hk0 rfSet_at.1 rfl 6 (by decide) (hts _ (List.mem_cons_of_mem _ (ac17 _ (List.mem_of_getElem? (i := 23) rfl)))) (fun _ h => h) rfl (dk kX6_digest_1_ok 22 rfl) ?_
                refine lv_iload_n hx hb (dk kX6_digest_1_ok 23 rfl) rfl (lv_at hl 2 rfl) ?_
                refine ald (j := i) hx hb hK hP hk7 rfSet_at.2.2.2.2.2.2.2 rfl (by omega) (by decide) (dk kX6_digest_1_ok 24 rfl) ?_
                refine lv_i2l hx hb (dk kX6_digest_1_ok 25 rfl) rfl ?_
                refine lv_ladd hx hb (dk kX6_digest_1_ok 26 rfl) ?_
                refine lv_lstore_n (lv' := [(1, .long ((31 * (fo bu i (rd3 r nf st sd hs ln))) + ((bu i).toInt64))), (0, .ref (ad k)), (3, .int (nI i))]) hx hb (dk kX6_digest_1_ok 27 rfl) rfl hl (by decide) rfl (fun ls hl => ?_)
                refine lv_iinc (v := nI (i + 1)) (lv' := [(3, .int (nI (i + 1))), (1, .long ((31 * (fo bu i (rd3 r nf st sd hs ln))) + ((bu i).toInt64))), (0, .ref (ad k))]) hx hb (dk kX6_digest_1_ok 28 rfl) hl (k := 2) rfl (n_inc _) (by decide) rfl (fun ls hl => ?_)
                refine lv_goto (tgt := 121) hx hb (dk kX6_digest_1_ok 29 rfl) (by decide) ?_
                exact ih121 (i + 1) _ _ _ hP hS (by exact fo_s (A := bu)) (by omega) (by omega) ls (lv_sub hl [2, 1, 0] rfl)
          exact L121 _ 0 _ _ _ hP hS (by first | omega | (rw [rd3, bI_t h2, rd2, rd1, show (14 : Nat) = i by omega]; rfl) | (rw [rd3, bI_f h2, rd2, rd1, show (14 : Nat) = i by omega]; rfl)) (by first | omega | (rw [rd3, bI_t h2, rd2, rd1, show (14 : Nat) = i by omega]; rfl) | (rw [rd3, bI_f h2, rd2, rd1, show (14 : Nat) = i by omega]; rfl)) (Nat.lt_succ_self _) ls (lv_sub hl [2, 1, 0] rfl)
      · skip
        refine lv_ldc2 (v := (31)) hx hb hown (hts _ (List.mem_cons_of_mem _ (ac25 _ (List.mem_of_getElem? (i := 11) rfl)))) (dk kX6_digest_0_ok 10 rfl) ?_
        refine lv_lload_n hx hb (dk kX6_digest_0_ok 11 rfl) rfl (lv_at hl 1 rfl) ?_
        refine lv_lmul hx hb (dk kX6_digest_0_ok 12 rfl) ?_
        refine lv_aload_n hx hb (dk kX6_digest_0_ok 13 rfl) rfl (lv_at hl 0 rfl) ?_
        refine lv_iload_n hx hb (dk kX6_digest_0_ok 14 rfl) rfl (lv_at hl 2 rfl) ?_
        refine cvR (As := [.int (nI i)]) (rest := [.long (31 * (fo (fun k9 => aNum r st k9) i 3823))]) ⟨hx, hb, hml, hown, hts⟩ (tX6_number l D cI cQ cL ad N (rfSet cI ad F k r ps sl sd ne fa bu hs st ln pt (nI 0)) k hk r ps sl sd ne fa bu hs st ln pt (nI 0) (rfSet_at) (nI i) i rfl (by omega)) (cwV9 1 hts mcX6_number (ac24 _ (List.mem_of_getElem? (i := 6) rfl)) miX6_number meX6_number mini_RX6 rfl rfl hdX6_number ⟨Nat.le_of_ble_eq_true rfl, Nat.le_of_ble_eq_true rfl⟩) hK hP hNW hk0 rfSet_at.1 rfl rfl hl.1 rfl (Nat.le_of_ble_eq_true rfl) (by decide) (dk kX6_digest_0_ok 15 rfl) ?_
        refine lv_i2l hx hb (dk kX6_digest_0_ok 16 rfl) rfl ?_
        refine lv_ladd hx hb (dk kX6_digest_0_ok 17 rfl) ?_
        refine lv_lstore_n (lv' := [(1, .long ((31 * (fo (fun k9 => aNum r st k9) i 3823)) + ((aNum r st i).toInt64))), (0, .ref (ad k)), (3, .int (nI i))]) hx hb (dk kX6_digest_0_ok 18 rfl) rfl hl (by decide) rfl (fun ls hl => ?_)
        refine lv_iinc (v := nI (i + 1)) (lv' := [(3, .int (nI (i + 1))), (1, .long ((31 * (fo (fun k9 => aNum r st k9) i 3823)) + ((aNum r st i).toInt64))), (0, .ref (ad k))]) hx hb (dk kX6_digest_0_ok 19 rfl) hl (k := 2) rfl (n_inc _) (by decide) rfl (fun ls hl => ?_)
        refine lv_goto (tgt := 11) hx hb (dk kX6_digest_0_ok 20 rfl) (by decide) ?_
        exact ih11 (i + 1) _ _ _ hP hS (by exact fo_s (A := fun k9 => aNum r st k9)) (by omega) (by omega) ls (lv_sub hl [2, 1, 0] rfl)
  exact L11 _ 0 _ _ _ hP hS (by first | rfl | omega) (by first | rfl | omega) (Nat.lt_succ_self _) ls (lv_sub hl [2, 1, 0] rfl)
