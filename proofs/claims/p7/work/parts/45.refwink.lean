set_option maxRecDepth 100000 in
set_option maxHeartbeats 4000000 in
theorem tX6_ofWinks (l : Launch) (D : va_G) (cI cQ cL : ClassId) (ad : Nat → Nat) (N : Nat) (F : Nat → va_E) (k : Nat) (hk : k + 7 < N) (r ps sl sd ne fa bu : Nat → Int32) (hs : Bool) (st ln pt : Nat) (th : Int32) (hR : rfAt cI ad F k r ps sl sd ne fa bu hs st ln pt th) (x : Int64) (nf : Nat → Nat) (hnf : rNF r nf) : MX l yX6_ofWinks (Cond.code yX6_ofWinks cX6_ofWinks 7 (some .long) :: AW) ({ frames := 5, cells := 0, slots := 0, locals := 107 } : Room) D cI cQ cL ad N F [.ref (ad k), .long x] (fun v9 G9 => v9 = some (.long (rwE r nf x)) ∧ ∃ ne9 fa9, G9 = rfSet cI ad F k r ps sl sd ne9 fa9 bu hs st ln pt th) 0 0 := by
  refine mx_l (by decide +kernel) rfl (Nat.le_of_ble_eq_true rfl) (fun p e s m below meth cd Q ls hx hb hml hown hts hDi hP hK hNW hS hret hl => ?_)
  have hown : s.vm.findClass RX6 = some m.cls := hown
  have hk0 : k < N := by omega
  have hk1 : k + 1 < N := by omega
  have hk2 : k + 2 < N := by omega
  have hk3 : k + 3 < N := by omega
  have hk4 : k + 4 < N := by omega
  have hk5 : k + 5 < N := by omega
  have hk6 : k + 6 < N := by omega
  have hk7 : k + 7 < N := by omega
  have hP : va_P D vwCl (iW ad N (rfSet cI ad F k r ps sl sd ne fa bu hs st ln pt th)) s.heap := by rw [rfSet_self hR]; exact hP
  have hl : lv_has ls 7 [(0, .ref (ad k)), (1, .long x)] := hl
  refine lv_lload_n hx hb (dk kX6_ofWinks_0_ok 0 rfl) rfl (lv_at hl 1 rfl) ?_
  refine lv_lstore_n (lv' := [(3, .long x), (0, .ref (ad k)), (1, .long x)]) hx hb (dk kX6_ofWinks_0_ok 1 rfl) rfl hl (by decide) rfl (fun ls hl => ?_)
  refine lv_iconst (v := nI 0) hx hb (dk kX6_ofWinks_0_ok 2 rfl) rfl ?_
  refine lv_istore (lv' := [(5, .int (nI 0)), (3, .long x), (0, .ref (ad k)), (1, .long x)]) hx hb (dk kX6_ofWinks_0_ok 3 rfl) hl (by decide) rfl (fun ls hl => ?_)
  have L5 : ∀ (fu : Nat) (w : Nat) (ne2 fa2 : Nat → Int32) (x3 : Int64) (H : Heap) (locs : List Loc), va_P D vwCl (iW ad N (rfSet cI ad F k r ps sl sd ne2 fa2 bu hs st ln pt th)) H → va_S (iA ad N s.heap.size) s.heap H locs → x3 = rwD r nf w x → w ≤ 16 → 16 - w < fu → ∀ ls : Array Slot, lv_has ls 7 [(0, .ref (ad k)), (1, .long x), (3, .long x3), (5, .int (nI w))] → W p l e ({ frames := 5, cells := 0, slots := 0, locals := 107 } : Room) s m ([.ref (ad k), .long x] : List Value).toArray below meth cd H locs 0 0 Q (F0 m 5 ls []) := by
    intro fu
    induction fu with
    | zero => intros; omega
    | succ fu ih5 =>
      intro w ne2 fa2 x3 H locs hP hS ex3 hw hme5 ls hl
      subst ex3
      refine lv_iload hx hb (dk kX6_ofWinks_0_ok 4 rfl) (lv_at hl 3 rfl) ?_
      refine lv_bipush (v := nI 16) hx hb (dk kX6_ofWinks_0_ok 5 rfl) rfl ?_
      refine n_icmp_ge (tgt := 80) hx hb (by omega) (by decide) (dk kX6_ofWinks_0_ok 6 rfl) (by decide) (fun h1 => ?_) (fun h1 => ?_)
      · skip
        refine lv_iconst (v := nI 0) hx hb (dk kX6_ofWinks_0_ok 46 rfl) rfl ?_
        refine lv_istore (lv' := [(5, .int (nI 0)), (0, .ref (ad k)), (1, .long x), (3, .long (rwD r nf w x))]) hx hb (dk kX6_ofWinks_0_ok 47 rfl) hl (by decide) rfl (fun ls hl => ?_)
        have L83 : ∀ (fu : Nat) (c9 : Nat) (x3 : Int64) (H : Heap) (locs : List Loc), va_P D vwCl (iW ad N (rfSet cI ad F k r ps sl sd ne2 fa2 bu hs st ln pt th)) H → va_S (iA ad N s.heap.size) s.heap H locs → x3 = fo2 (aCol r) 7 c9 (rwD r nf 16 x) → c9 ≤ 4 → 4 - c9 < fu → ∀ ls : Array Slot, lv_has ls 7 [(0, .ref (ad k)), (1, .long x), (3, .long x3), (5, .int (nI c9))] → W p l e ({ frames := 5, cells := 0, slots := 0, locals := 107 } : Room) s m ([.ref (ad k), .long x] : List Value).toArray below meth cd H locs 0 0 Q (F0 m 83 ls []) := by
          intro fu
          induction fu with
          | zero => intros; omega
          | succ fu ih83 =>
            intro c9 x3 H locs hP hS ex3 hc hme83 ls hl
            subst ex3
            refine lv_iload hx hb (dk kX6_ofWinks_0_ok 48 rfl) (lv_at hl 3 rfl) ?_
            refine lv_iconst (v := nI 4) hx hb (dk kX6_ofWinks_0_ok 49 rfl) rfl ?_
            refine n_icmp_ge (tgt := 127) hx hb (by omega) (by decide) (dk kX6_ofWinks_0_ok 50 rfl) (by decide) (fun h2 => ?_) (fun h2 => ?_)
            · skip
              refine lv_lload_n hx hb (dk kX6_ofWinks_1_ok 10 rfl) rfl (lv_at hl 2 rfl) ?_
              exact hret _ _ _ _ _ _ _ _  (by rw [show c9 = 4 by omega]; exact ⟨rfl, _, _, rfl⟩) hP hS (by decide) (by decide) (dk kX6_ofWinks_1_ok 11 rfl)
            · skip
              refine lv_iconst (v := nI 0) hx hb (dk kX6_ofWinks_0_ok 51 rfl) rfl ?_
              refine lv_istore (lv' := [(6, .int (nI 0)), (0, .ref (ad k)), (1, .long x), (3, .long (fo2 (aCol r) 7 c9 (rwD r nf 16 x))), (5, .int (nI c9))]) hx hb (dk kX6_ofWinks_0_ok 52 rfl) hl (by decide) rfl (fun ls hl => ?_)
              have L92 : ∀ (fu : Nat) (i : Nat) (x3 : Int64) (H : Heap) (locs : List Loc), va_P D vwCl (iW ad N (rfSet cI ad F k r ps sl sd ne2 fa2 bu hs st ln pt th)) H → va_S (iA ad N s.heap.size) s.heap H locs → x3 = fo (aCol r c9) i (fo2 (aCol r) 7 c9 (rwD r nf 16 x)) → i ≤ 7 → 7 - i < fu → ∀ ls : Array Slot, lv_has ls 7 [(0, .ref (ad k)), (1, .long x), (3, .long x3), (5, .int (nI c9)), (6, .int (nI i))] → W p l e ({ frames := 5, cells := 0, slots := 0, locals := 107 } : Room) s m ([.ref (ad k), .long x] : List Value).toArray below meth cd H locs 0 0 Q (F0 m 92 ls []) := by
                intro fu
                induction fu with
                | zero => intros; omega
                | succ fu ih92 =>
                  intro i x3 H locs hP hS ex3 hi hme92 ls hl
                  subst ex3
                  refine lv_iload hx hb (dk kX6_ofWinks_0_ok 53 rfl) (lv_at hl 4 rfl) ?_
                  refine lv_bipush (v := nI 7) hx hb (dk kX6_ofWinks_0_ok 54 rfl) rfl ?_
                  refine n_icmp_ge (tgt := 121) hx hb (by omega) (by decide) (dk kX6_ofWinks_0_ok 55 rfl) (by decide) (fun h3 => ?_) (fun h3 => ?_)
                  · skip
                    refine lv_iinc (v := nI (c9 + 1)) (lv' := [(5, .int (nI (c9 + 1))), (0, .ref (ad k)), (1, .long x), (3, .long (fo (aCol r c9) i (fo2 (aCol r) 7 c9 (rwD r nf 16 x)))), (6, .int (nI i))]) hx hb (dk kX6_ofWinks_1_ok 8 rfl) hl (k := 3) rfl (n_inc _) (by decide) rfl (fun ls hl => ?_)
                    refine lv_goto (tgt := 83) hx hb (dk kX6_ofWinks_1_ok 9 rfl) (by decide) ?_
                    exact ih83 (c9 + 1) _ _ _ hP hS (by obtain rfl : i = 7 := (by omega); exact fo2_s (A := aCol r)) (by omega) (by omega) ls (lv_sub hl [1, 2, 3, 0] rfl)
                  · skip
                    refine lv_ldc2 (v := (31)) hx hb hown (hts _ (List.mem_cons_of_mem _ (ac25 _ (List.mem_of_getElem? (i := 11) rfl)))) (dk kX6_ofWinks_0_ok 56 rfl) ?_
                    refine lv_lload_n hx hb (dk kX6_ofWinks_0_ok 57 rfl) rfl (lv_at hl 2 rfl) ?_
                    refine lv_lmul hx hb (dk kX6_ofWinks_0_ok 58 rfl) ?_
                    refine lv_aload_n hx hb (dk kX6_ofWinks_0_ok 59 rfl) rfl (lv_at hl 0 rfl) ?_
                    refine lv_iload hx hb (dk kX6_ofWinks_1_ok 0 rfl) (lv_at hl 3 rfl) ?_
                    refine lv_iload hx hb (dk kX6_ofWinks_1_ok 1 rfl) (lv_at hl 4 rfl) ?_
                    refine cvR (As := [.int (nI c9), .int (nI i)]) (rest := [.long (31 * (fo (aCol r c9) i (fo2 (aCol r) 7 c9 (rwD r nf 16 x))))]) ⟨hx, hb, hml, hown, hts⟩ (tX6_ofColour l D cI cQ cL ad N (rfSet cI ad F k r ps sl sd ne2 fa2 bu hs st ln pt th) k hk r ps sl sd ne2 fa2 bu hs st ln pt th (rfSet_at) (nI c9) c9 rfl (by omega) (nI i) i rfl (by omega)) (cwV9 2 hts mcX6_ofColour (ac23 _ (List.mem_of_getElem? (i := 10) rfl)) miX6_ofColour meX6_ofColour mini_RX6 rfl rfl hdX6_ofColour ⟨Nat.le_of_ble_eq_true rfl, Nat.le_of_ble_eq_true rfl⟩) hK hP hNW hk0 rfSet_at.1 rfl rfl hl.1 rfl (Nat.le_of_ble_eq_true rfl) (by decide) (dk kX6_ofWinks_1_ok 2 rfl) ?_
                    refine lv_i2l hx hb (dk kX6_ofWinks_1_ok 3 rfl) rfl ?_
                    refine lv_ladd hx hb (dk kX6_ofWinks_1_ok 4 rfl) ?_
                    refine lv_lstore_n (lv' := [(3, .long ((31 * (fo (aCol r c9) i (fo2 (aCol r) 7 c9 (rwD r nf 16 x)))) + ((aCol r c9 i).toInt64))), (0, .ref (ad k)), (1, .long x), (5, .int (nI c9)), (6, .int (nI i))]) hx hb (dk kX6_ofWinks_1_ok 5 rfl) rfl hl (by decide) rfl (fun ls hl => ?_)
                    refine lv_iinc (v := nI (i + 1)) (lv' := [(6, .int (nI (i + 1))), (3, .long ((31 * (fo (aCol r c9) i (fo2 (aCol r) 7 c9 (rwD r nf 16 x)))) + ((aCol r c9 i).toInt64))), (0, .ref (ad k)), (1, .long x), (5, .int (nI c9))]) hx hb (dk kX6_ofWinks_1_ok 6 rfl) hl (k := 4) rfl (n_inc _) (by decide) rfl (fun ls hl => ?_)
                    refine lv_goto (tgt := 92) hx hb (dk kX6_ofWinks_1_ok 7 rfl) (by decide) ?_
                    exact ih92 (i + 1) _ _ _ hP hS (by exact fo_s (A := aCol r c9)) (by omega) (by omega) ls (lv_sub hl [2, 3, 1, 4, 0] rfl)
              exact L92 _ 0 _ _ _ hP hS (by first | rfl | omega) (by first | rfl | omega) (Nat.lt_succ_self _) ls (lv_sub hl [1, 2, 3, 4, 0] rfl)
        exact L83 _ 0 _ _ _ hP hS (by first | omega | (rw [show w = 16 by omega]; rfl)) (by first | omega | (rw [show w = 16 by omega]; rfl)) (Nat.lt_succ_self _) ls (lv_sub hl [1, 2, 3, 0] rfl)
      · skip
        refine lv_iconst (v := nI 0) hx hb (dk kX6_ofWinks_0_ok 7 rfl) rfl ?_
        refine lv_istore (lv' := [(6, .int (nI 0)), (0, .ref (ad k)), (1, .long x), (3, .long (rwD r nf w x)), (5, .int (nI w))]) hx hb (dk kX6_ofWinks_0_ok 8 rfl) hl (by decide) rfl (fun ls hl => ?_)
        have L15 : ∀ (fu : Nat) (i : Nat) (x3 : Int64) (H : Heap) (locs : List Loc), va_P D vwCl (iW ad N (rfSet cI ad F k r ps sl sd ne2 fa2 bu hs st ln pt th)) H → va_S (iA ad N s.heap.size) s.heap H locs → x3 = fo (aWink r w) i (rwD r nf w x) → i ≤ 7 → 7 - i < fu → ∀ ls : Array Slot, lv_has ls 7 [(0, .ref (ad k)), (1, .long x), (3, .long x3), (5, .int (nI w)), (6, .int (nI i))] → W p l e ({ frames := 5, cells := 0, slots := 0, locals := 107 } : Room) s m ([.ref (ad k), .long x] : List Value).toArray below meth cd H locs 0 0 Q (F0 m 15 ls []) := by
          intro fu
          induction fu with
          | zero => intros; omega
          | succ fu ih15 =>
            intro i x3 H locs hP hS ex3 hi hme15 ls hl
            subst ex3
            refine lv_iload hx hb (dk kX6_ofWinks_0_ok 9 rfl) (lv_at hl 4 rfl) ?_
            refine lv_bipush (v := nI 7) hx hb (dk kX6_ofWinks_0_ok 10 rfl) rfl ?_
            refine n_icmp_ge (tgt := 44) hx hb (by omega) (by decide) (dk kX6_ofWinks_0_ok 11 rfl) (by decide) (fun h4 => ?_) (fun h4 => ?_)
            · skip
              refine lv_ldc2 (v := (31)) hx hb hown (hts _ (List.mem_cons_of_mem _ (ac25 _ (List.mem_of_getElem? (i := 11) rfl)))) (dk kX6_ofWinks_0_ok 24 rfl) ?_
              refine lv_lload_n hx hb (dk kX6_ofWinks_0_ok 25 rfl) rfl (lv_at hl 2 rfl) ?_
              refine lv_lmul hx hb (dk kX6_ofWinks_0_ok 26 rfl) ?_
              refine lv_aload_n hx hb (dk kX6_ofWinks_0_ok 27 rfl) rfl (lv_at hl 0 rfl) ?_
              refine lv_iload hx hb (dk kX6_ofWinks_0_ok 28 rfl) (lv_at hl 3 rfl) ?_
              refine lv_iconst (v := nI 3) hx hb (dk kX6_ofWinks_0_ok 29 rfl) rfl ?_
              refine lv_iconst (v := nI 5) hx hb (dk kX6_ofWinks_0_ok 30 rfl) rfl ?_
              refine cvR (As := [.int (nI w), .int (nI 3), .int (nI 5)]) (rest := [.long (31 * (fo (aWink r w) i (rwD r nf w x)))]) ⟨hx, hb, hml, hown, hts⟩ (tX6_landing l D cI cQ cL ad N (rfSet cI ad F k r ps sl sd ne2 fa2 bu hs st ln pt th) k hk r ps sl sd ne2 fa2 bu hs st ln pt th (rfSet_at) (nI w) w rfl (by omega) (nI 3) 3 rfl (by omega) (nI 5) 5 rfl (by omega) (fun h9 => ⟨_, (hnf w (by omega) h9).2.1, (hnf w (by omega) h9).1⟩)) (cwV9 3 hts mcX6_landing (ac24 _ (List.mem_of_getElem? (i := 10) rfl)) miX6_landing meX6_landing mini_RX6 rfl rfl hdX6_landing ⟨Nat.le_of_ble_eq_true rfl, Nat.le_of_ble_eq_true rfl⟩) hK hP hNW hk0 rfSet_at.1 rfl rfl hl.1 rfl (Nat.le_of_ble_eq_true rfl) (by decide) (dk kX6_ofWinks_0_ok 31 rfl) ?_
              refine lv_i2l hx hb (dk kX6_ofWinks_0_ok 32 rfl) rfl ?_
              refine lv_ladd hx hb (dk kX6_ofWinks_0_ok 33 rfl) ?_
              refine lv_lstore_n (lv' := [(3, .long ((31 * (fo (aWink r w) i (rwD r nf w x))) + ((aLan r w 3 5).toInt64))), (0, .ref (ad k)), (1, .long x), (5, .int (nI w)), (6, .int (nI i))]) hx hb (dk kX6_ofWinks_0_ok 34 rfl) rfl hl (by decide) rfl (fun ls hl => ?_)
              refine lv_ldc2 (v := (31)) hx hb hown (hts _ (List.mem_cons_of_mem _ (ac25 _ (List.mem_of_getElem? (i := 11) rfl)))) (dk kX6_ofWinks_0_ok 35 rfl) ?_
              refine lv_lload_n hx hb (dk kX6_ofWinks_0_ok 36 rfl) rfl (lv_at hl 0 rfl) ?_
              refine lv_lmul hx hb (dk kX6_ofWinks_0_ok 37 rfl) ?_
              rcases (Bool.eq_false_or_eq_true (pot r w)) with hsp5 | hsp5
              · skip
                refine lv_aload_n hx hb (dk kX6_ofWinks_0_ok 38 rfl) rfl (lv_at hl 1 rfl) ?_
                refine lv_iload hx hb (dk kX6_ofWinks_0_ok 39 rfl) (lv_at hl 3 rfl) ?_
                refine cvR (As := [.int (nI w)]) (rest := [.long (31 * ((31 * (fo (aWink r w) i (rwD r nf w x))) + ((aLan r w 3 5).toInt64)))]) ⟨hx, hb, hml, hown, hts⟩ (tX6_fewestP l D cI cQ cL ad N (rfSet cI ad F k r ps sl sd ne2 fa2 bu hs st ln pt th) k hk r ps sl sd ne2 fa2 bu hs st ln pt th (rfSet_at) (nI w) w rfl (by omega) hsp5) (cwV9 1 hts mcX6_fewest (ac25 _ (List.mem_of_getElem? (i := 6) rfl)) miX6_fewest meX6_fewest mini_RX6 rfl rfl hdX6_fewest ⟨Nat.le_of_ble_eq_true rfl, Nat.le_of_ble_eq_true rfl⟩) hK hP hNW hk0 rfSet_at.1 rfl rfl hl.1 rfl (Nat.le_of_ble_eq_true rfl) (by decide) (dk kX6_ofWinks_0_ok 40 rfl) ?_
                refine lv_i2l hx hb (dk kX6_ofWinks_0_ok 41 rfl) rfl ?_
                refine lv_ladd hx hb (dk kX6_ofWinks_0_ok 42 rfl) ?_
                refine lv_lstore_n (lv' := [(3, .long ((31 * ((31 * (fo (aWink r w) i (rwD r nf w x))) + ((aLan r w 3 5).toInt64))) + ((nI 0).toInt64))), (0, .ref (ad k)), (1, .long x), (5, .int (nI w)), (6, .int (nI i))]) hx hb (dk kX6_ofWinks_0_ok 43 rfl) rfl hl (by decide) rfl (fun ls hl => ?_)
                refine lv_iinc (v := nI (w + 1)) (lv' := [(5, .int (nI (w + 1))), (3, .long ((31 * ((31 * (fo (aWink r w) i (rwD r nf w x))) + ((aLan r w 3 5).toInt64))) + ((nI 0).toInt64))), (0, .ref (ad k)), (1, .long x), (6, .int (nI i))]) hx hb (dk kX6_ofWinks_0_ok 44 rfl) hl (k := 3) rfl (n_inc _) (by decide) rfl (fun ls hl => ?_)
                refine lv_goto (tgt := 5) hx hb (dk kX6_ofWinks_0_ok 45 rfl) (by decide) ?_
                exact ih5 (w + 1) ne2 fa2 _ _ _ hP hS (by obtain rfl : i = 7 := (by omega); first | exact rwD_p hsp5 | exact rwD_n hsp5) (by omega) (by omega) ls (lv_sub hl [2, 3, 1, 0] rfl)
              · skip
                refine lv_aload_n hx hb (dk kX6_ofWinks_0_ok 38 rfl) rfl (lv_at hl 1 rfl) ?_
                refine lv_iload hx hb (dk kX6_ofWinks_0_ok 39 rfl) (lv_at hl 3 rfl) ?_
                refine cvE (As := [.int (nI w)]) (rest := [.long (31 * ((31 * (fo (aWink r w) i (rwD r nf w x))) + ((aLan r w 3 5).toInt64)))]) ⟨hx, hb, hml, hown, hts⟩ (tX6_fewest l D cI cQ cL ad N (rfSet cI ad F k r ps sl sd ne2 fa2 bu hs st ln pt th) k hk r ps sl sd ne2 fa2 bu hs st ln pt th (rfSet_at) (nI w) w rfl (by omega) (ix (r w)) (nf w) (hnf w (by omega) hsp5).1 (hnf w (by omega) hsp5).2.1 (hnf w (by omega) hsp5).2.2.1 hsp5 (hnf w (by omega) hsp5).2.2.2) (cwV9 1 hts mcX6_fewest (ac25 _ (List.mem_of_getElem? (i := 6) rfl)) miX6_fewest meX6_fewest mini_RX6 rfl rfl hdX6_fewest ⟨Nat.le_of_ble_eq_true rfl, Nat.le_of_ble_eq_true rfl⟩) hDi hK hP hNW hS hk0 rfSet_at.1 rfl rfl hl.1 rfl (Nat.le_of_ble_eq_true rfl) (by decide) (dk kX6_ofWinks_0_ok 40 rfl) (fun G9 H locs hp9 hP hS => ?_)
                obtain ⟨ne9, fa9, rfl⟩ := hp9
                rw [rfSet_rfSet] at hP
                refine lv_i2l hx hb (dk kX6_ofWinks_0_ok 41 rfl) rfl ?_
                refine lv_ladd hx hb (dk kX6_ofWinks_0_ok 42 rfl) ?_
                refine lv_lstore_n (lv' := [(3, .long ((31 * ((31 * (fo (aWink r w) i (rwD r nf w x))) + ((aLan r w 3 5).toInt64))) + ((nI (nf w)).toInt64))), (0, .ref (ad k)), (1, .long x), (5, .int (nI w)), (6, .int (nI i))]) hx hb (dk kX6_ofWinks_0_ok 43 rfl) rfl hl (by decide) rfl (fun ls hl => ?_)
                refine lv_iinc (v := nI (w + 1)) (lv' := [(5, .int (nI (w + 1))), (3, .long ((31 * ((31 * (fo (aWink r w) i (rwD r nf w x))) + ((aLan r w 3 5).toInt64))) + ((nI (nf w)).toInt64))), (0, .ref (ad k)), (1, .long x), (6, .int (nI i))]) hx hb (dk kX6_ofWinks_0_ok 44 rfl) hl (k := 3) rfl (n_inc _) (by decide) rfl (fun ls hl => ?_)
                refine lv_goto (tgt := 5) hx hb (dk kX6_ofWinks_0_ok 45 rfl) (by decide) ?_
                exact ih5 (w + 1) ne9 fa9 _ _ _ hP hS (by obtain rfl : i = 7 := (by omega); first | exact rwD_p hsp5 | exact rwD_n hsp5) (by omega) (by omega) ls (lv_sub hl [2, 3, 1, 0] rfl)
            · skip
              refine lv_ldc2 (v := (31)) hx hb hown (hts _ (List.mem_cons_of_mem _ (ac25 _ (List.mem_of_getElem? (i := 11) rfl)))) (dk kX6_ofWinks_0_ok 12 rfl) ?_
              refine lv_lload_n hx hb (dk kX6_ofWinks_0_ok 13 rfl) rfl (lv_at hl 2 rfl) ?_
              refine lv_lmul hx hb (dk kX6_ofWinks_0_ok 14 rfl) ?_
              refine lv_aload_n hx hb (dk kX6_ofWinks_0_ok 15 rfl) rfl (lv_at hl 0 rfl) ?_
              refine lv_iload hx hb (dk kX6_ofWinks_0_ok 16 rfl) (lv_at hl 3 rfl) ?_
              refine lv_iload hx hb (dk kX6_ofWinks_0_ok 17 rfl) (lv_at hl 4 rfl) ?_
              refine cvR (As := [.int (nI w), .int (nI i)]) (rest := [.long (31 * (fo (aWink r w) i (rwD r nf w x)))]) ⟨hx, hb, hml, hown, hts⟩ (tX6_ofWink l D cI cQ cL ad N (rfSet cI ad F k r ps sl sd ne2 fa2 bu hs st ln pt th) k hk r ps sl sd ne2 fa2 bu hs st ln pt th (rfSet_at) (nI w) w rfl (by omega) (nI i) i rfl (by omega)) (cwV9 2 hts mcX6_ofWink (ac22 _ (List.mem_of_getElem? (i := 14) rfl)) miX6_ofWink meX6_ofWink mini_RX6 rfl rfl hdX6_ofWink ⟨Nat.le_of_ble_eq_true rfl, Nat.le_of_ble_eq_true rfl⟩) hK hP hNW hk0 rfSet_at.1 rfl rfl hl.1 rfl (Nat.le_of_ble_eq_true rfl) (by decide) (dk kX6_ofWinks_0_ok 18 rfl) ?_
              refine lv_i2l hx hb (dk kX6_ofWinks_0_ok 19 rfl) rfl ?_
              refine lv_ladd hx hb (dk kX6_ofWinks_0_ok 20 rfl) ?_
              refine lv_lstore_n (lv' := [(3, .long ((31 * (fo (aWink r w) i (rwD r nf w x))) + ((aWink r w i).toInt64))), (0, .ref (ad k)), (1, .long x), (5, .int (nI w)), (6, .int (nI i))]) hx hb (dk kX6_ofWinks_0_ok 21 rfl) rfl hl (by decide) rfl (fun ls hl => ?_)
              refine lv_iinc (v := nI (i + 1)) (lv' := [(6, .int (nI (i + 1))), (3, .long ((31 * (fo (aWink r w) i (rwD r nf w x))) + ((aWink r w i).toInt64))), (0, .ref (ad k)), (1, .long x), (5, .int (nI w))]) hx hb (dk kX6_ofWinks_0_ok 22 rfl) hl (k := 4) rfl (n_inc _) (by decide) rfl (fun ls hl => ?_)
              refine lv_goto (tgt := 15) hx hb (dk kX6_ofWinks_0_ok 23 rfl) (by decide) ?_
              exact ih15 (i + 1) _ _ _ hP hS (by exact fo_s (A := aWink r w)) (by omega) (by omega) ls (lv_sub hl [2, 3, 1, 4, 0] rfl)
        exact L15 _ 0 _ _ _ hP hS (by first | rfl | omega) (by first | rfl | omega) (Nat.lt_succ_self _) ls (lv_sub hl [1, 2, 3, 4, 0] rfl)
  exact L5 _ 0 ne fa _ _ _ hP hS (by first | rfl | omega) (by first | rfl | omega) (Nat.lt_succ_self _) ls (lv_sub hl [2, 3, 1, 0] rfl)
