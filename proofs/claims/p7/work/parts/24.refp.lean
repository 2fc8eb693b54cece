set_option maxRecDepth 100000 in
set_option maxHeartbeats 4000000 in
theorem tX6_ofWink (l : Launch) (D : va_G) (cI cQ cL : ClassId) (ad : Nat → Nat) (N : Nat) (F : Nat → va_E) (k : Nat) (hk : k + 7 < N) (r ps sl sd ne fa bu : Nat → Int32) (hs : Bool) (st ln pt : Nat) (th : Int32) (hR : rfAt cI ad F k r ps sl sd ne fa bu hs st ln pt th) (x : Int32) (w : Nat) (hxw : x = nI w) (hw : w < 16) (y : Int32) (a : Nat) (hya : y = nI a) (ha : a < 2 ^ 31) : MR l yX6_ofWink (Cond.code yX6_ofWink cX6_ofWink 3 (some .int) :: AW) ({ frames := 4, cells := 0, slots := 0, locals := 85 } : Room) D cI cQ cL ad N F [.ref (ad k), .int x, .int y] (.int (aWink r w a)) := by
  refine mr_i (ty := .int) (by decide +kernel) rfl rfl rfl rfl (Nat.le_of_ble_eq_true rfl) (fun p e s m below meth cd Q ls hx hb hml hown hts hP hK hNW hret hl => ?_)
  have hown : s.vm.findClass RX6 = some m.cls := hown
  subst hxw
  subst hya
  have hk0 : k < N := by omega
  have hk1 : k + 1 < N := by omega
  have hk2 : k + 2 < N := by omega
  have hk3 : k + 3 < N := by omega
  have hk4 : k + 4 < N := by omega
  have hk5 : k + 5 < N := by omega
  have hk6 : k + 6 < N := by omega
  have hk7 : k + 7 < N := by omega
  have hl : lv_has ls 3 [(0, .ref (ad k)), (1, .int (nI w)), (2, .int (nI a))] := hl
  refine lv_iload_n hx hb (dk kX6_ofWink_0_ok 0 rfl) rfl (lv_at hl 2 rfl) ?_
  refine n_if_ne (tgt := 10) hx hb (by omega) (dk kX6_ofWink_0_ok 1 rfl) (by decide) (fun h1 => ?_) (fun h1 => ?_)
  · skip
    refine lv_iload_n hx hb (dk kX6_ofWink_0_ok 6 rfl) rfl (lv_at hl 2 rfl) ?_
    refine lv_iconst (v := nI 1) hx hb (dk kX6_ofWink_0_ok 7 rfl) rfl ?_
    refine n_icmp_ne (tgt := 30) hx hb (by omega) (by decide) (dk kX6_ofWink_0_ok 8 rfl) (by decide) (fun h2 => ?_) (fun h2 => ?_)
    · skip
      refine lv_iload_n hx hb (dk kX6_ofWink_0_ok 18 rfl) rfl (lv_at hl 2 rfl) ?_
      refine lv_iconst (v := nI 2) hx hb (dk kX6_ofWink_0_ok 19 rfl) rfl ?_
      refine n_icmp_ne (tgt := 46) hx hb (by omega) (by decide) (dk kX6_ofWink_0_ok 20 rfl) (by decide) (fun h3 => ?_) (fun h3 => ?_)
      · skip
        refine lv_iload_n hx hb (dk kX6_ofWink_0_ok 28 rfl) rfl (lv_at hl 2 rfl) ?_
        refine lv_iconst (v := nI 3) hx hb (dk kX6_ofWink_0_ok 29 rfl) rfl ?_
        refine n_icmp_ne (tgt := 63) hx hb (by omega) (by decide) (dk kX6_ofWink_0_ok 30 rfl) (by decide) (fun h4 => ?_) (fun h4 => ?_)
        · skip
          refine lv_iload_n hx hb (dk kX6_ofWink_0_ok 38 rfl) rfl (lv_at hl 2 rfl) ?_
          refine lv_iconst (v := nI 4) hx hb (dk kX6_ofWink_0_ok 39 rfl) rfl ?_
          refine n_icmp_ne (tgt := 84) hx hb (by omega) (by decide) (dk kX6_ofWink_0_ok 40 rfl) (by decide) (fun h5 => ?_) (fun h5 => ?_)
          · skip
            refine lv_iload_n hx hb (dk kX6_ofWink_0_ok 49 rfl) rfl (lv_at hl 2 rfl) ?_
            refine lv_iconst (v := nI 5) hx hb (dk kX6_ofWink_0_ok 50 rfl) rfl ?_
            refine n_icmp_ne (tgt := 101) hx hb (by omega) (by decide) (dk kX6_ofWink_0_ok 51 rfl) (by decide) (fun h6 => ?_) (fun h6 => ?_)
            · skip
              refine lv_aload_n hx hb (dk kX6_ofWink_0_ok 59 rfl) rfl (lv_at hl 0 rfl) ?_
              refine lv_iload_n hx hb (dk kX6_ofWink_1_ok 0 rfl) rfl (lv_at hl 1 rfl) ?_
              refine cvR (As := [.int (nI w)]) (rest := []) ⟨hx, hb, hml, hown, hts⟩ (tX6_whyNot l D cI cQ cL ad N F k hk r ps sl sd ne fa bu hs st ln pt th hR (nI w) w rfl (by omega)) (cwV9 1 hts mcX6_whyNot (ac20 _ (List.mem_of_getElem? (i := 19) rfl)) miX6_whyNot meX6_whyNot mini_RX6 rfl rfl hdX6_whyNot ⟨Nat.le_of_ble_eq_true rfl, Nat.le_of_ble_eq_true rfl⟩) hK hP hNW hk0 hR.1 rfl rfl hl.1 rfl (Nat.le_of_ble_eq_true rfl) (by decide) (dk kX6_ofWink_1_ok 1 rfl) ?_
              exact hret _ _ _ (by simp (config := { decide := true }) only [aWink, (eq_false h1), (eq_false h2), (eq_false h3), (eq_false h4), (eq_false h5), (eq_false h6), bI_1, bI_00, not_true_eq_false, not_false_eq_true, and_true, true_and, and_false, false_and, or_true, true_or, or_false, false_or, and_self, or_self, if_true, if_false, Bool.false_eq_true, reduceIte]; first | done | rfl | (simp_all; done)) (dk kX6_ofWink_1_ok 2 rfl)
            · skip
              refine lv_aload_n hx hb (dk kX6_ofWink_0_ok 52 rfl) rfl (lv_at hl 0 rfl) ?_
              refine gf hx hb hts (fun w h => List.mem_cons_of_mem _ (acX6 w h)) hown hK hP hk0 hR.1 rfl 0 (by decide) (hts _ (List.mem_cons_of_mem _ (ac17 _ (List.mem_of_getElem? (i := 17) rfl)))) (fun _ h => h) rfl (dk kX6_ofWink_0_ok 53 rfl) ?_
              refine lv_bipush (v := nI 32) hx hb (dk kX6_ofWink_0_ok 54 rfl) rfl ?_
              refine lv_iload_n hx hb (dk kX6_ofWink_0_ok 55 rfl) rfl (lv_at hl 1 rfl) ?_
              refine n_iadd hx hb (dk kX6_ofWink_0_ok 56 rfl) ?_
              refine ald (j := (32 + w)) hx hb hK hP hk1 hR.2.1 rfl (by omega) (by decide) (dk kX6_ofWink_0_ok 57 rfl) ?_
              refine lv_goto (tgt := 106) hx hb (dk kX6_ofWink_0_ok 58 rfl) (by decide) ?_
              exact hret _ _ _ (by simp (config := { decide := true }) only [aWink, (eq_false h1), (eq_false h2), (eq_false h3), (eq_false h4), (eq_false h5), (eq_true h6), bI_1, bI_00, not_true_eq_false, not_false_eq_true, and_true, true_and, and_false, false_and, or_true, true_or, or_false, false_or, and_self, or_self, if_true, if_false, Bool.false_eq_true, reduceIte]; first | done | rfl | (simp_all; done)) (dk kX6_ofWink_1_ok 2 rfl)
          · skip
            refine lv_aload_n hx hb (dk kX6_ofWink_0_ok 41 rfl) rfl (lv_at hl 0 rfl) ?_
            refine lv_iload_n hx hb (dk kX6_ofWink_0_ok 42 rfl) rfl (lv_at hl 1 rfl) ?_
            refine cvR (As := [.int (nI w)]) (rest := []) ⟨hx, hb, hml, hown, hts⟩ (tX6_isCovered l D cI cQ cL ad N F k hk r ps sl sd ne fa bu hs st ln pt th hR (nI w) w rfl (by omega)) (cwV9 1 hts mcX6_isCovered (ac18 _ (List.mem_of_getElem? (i := 18) rfl)) miX6_isCovered meX6_isCovered mini_RX6 rfl rfl hdX6_isCovered ⟨Nat.le_of_ble_eq_true rfl, Nat.le_of_ble_eq_true rfl⟩) hK hP hNW hk0 hR.1 rfl rfl hl.1 rfl (Nat.le_of_ble_eq_true rfl) (by decide) (dk kX6_ofWink_0_ok 43 rfl) ?_
            refine b_if_eq (tgt := 80) hx hb (dk kX6_ofWink_0_ok 44 rfl) (by decide) (fun h7 => ?_) (fun h7 => ?_)
            · skip
              refine lv_iconst (v := nI 0) hx hb (dk kX6_ofWink_0_ok 47 rfl) rfl ?_
              refine lv_goto (tgt := 106) hx hb (dk kX6_ofWink_0_ok 48 rfl) (by decide) ?_
              exact hret _ _ _ (by simp (config := { decide := true }) only [aWink, (eq_false h1), (eq_false h2), (eq_false h3), (eq_false h4), (eq_true h5), h7, bI_1, bI_00, not_true_eq_false, not_false_eq_true, and_true, true_and, and_false, false_and, or_true, true_or, or_false, false_or, and_self, or_self, if_true, if_false, Bool.false_eq_true, reduceIte]; first | done | rfl | (simp_all; done)) (dk kX6_ofWink_1_ok 2 rfl)
            · skip
              refine lv_iconst (v := nI 1) hx hb (dk kX6_ofWink_0_ok 45 rfl) rfl ?_
              refine lv_goto (tgt := 106) hx hb (dk kX6_ofWink_0_ok 46 rfl) (by decide) ?_
              exact hret _ _ _ (by simp (config := { decide := true }) only [aWink, (eq_false h1), (eq_false h2), (eq_false h3), (eq_false h4), (eq_true h5), h7, bI_1, bI_00, not_true_eq_false, not_false_eq_true, and_true, true_and, and_false, false_and, or_true, true_or, or_false, false_or, and_self, or_self, if_true, if_false, Bool.false_eq_true, reduceIte]; first | done | rfl | (simp_all; done)) (dk kX6_ofWink_1_ok 2 rfl)
        · skip
          refine lv_aload_n hx hb (dk kX6_ofWink_0_ok 31 rfl) rfl (lv_at hl 0 rfl) ?_
          refine gf hx hb hts (fun w h => List.mem_cons_of_mem _ (acX6 w h)) hown hK hP hk0 hR.1 rfl 0 (by decide) (hts _ (List.mem_cons_of_mem _ (ac17 _ (List.mem_of_getElem? (i := 17) rfl)))) (fun _ h => h) rfl (dk kX6_ofWink_0_ok 32 rfl) ?_
          refine lv_bipush (v := nI 16) hx hb (dk kX6_ofWink_0_ok 33 rfl) rfl ?_
          refine lv_iload_n hx hb (dk kX6_ofWink_0_ok 34 rfl) rfl (lv_at hl 1 rfl) ?_
          refine n_iadd hx hb (dk kX6_ofWink_0_ok 35 rfl) ?_
          refine ald (j := (16 + w)) hx hb hK hP hk1 hR.2.1 rfl (by omega) (by decide) (dk kX6_ofWink_0_ok 36 rfl) ?_
          refine lv_goto (tgt := 106) hx hb (dk kX6_ofWink_0_ok 37 rfl) (by decide) ?_
          exact hret _ _ _ (by simp (config := { decide := true }) only [aWink, (eq_false h1), (eq_false h2), (eq_false h3), (eq_true h4), bI_1, bI_00, not_true_eq_false, not_false_eq_true, and_true, true_and, and_false, false_and, or_true, true_or, or_false, false_or, and_self, or_self, if_true, if_false, Bool.false_eq_true, reduceIte]; first | done | rfl | (simp_all; done)) (dk kX6_ofWink_1_ok 2 rfl)
      · skip
        refine lv_aload_n hx hb (dk kX6_ofWink_0_ok 21 rfl) rfl (lv_at hl 0 rfl) ?_
        refine gf hx hb hts (fun w h => List.mem_cons_of_mem _ (acX6 w h)) hown hK hP hk0 hR.1 rfl 0 (by decide) (hts _ (List.mem_cons_of_mem _ (ac17 _ (List.mem_of_getElem? (i := 17) rfl)))) (fun _ h => h) rfl (dk kX6_ofWink_0_ok 22 rfl) ?_
        refine lv_iconst (v := nI 0) hx hb (dk kX6_ofWink_0_ok 23 rfl) rfl ?_
        refine lv_iload_n hx hb (dk kX6_ofWink_0_ok 24 rfl) rfl (lv_at hl 1 rfl) ?_
        refine n_iadd0 hx hb (dk kX6_ofWink_0_ok 25 rfl) ?_
        refine ald (j := w) hx hb hK hP hk1 hR.2.1 rfl (by omega) (by decide) (dk kX6_ofWink_0_ok 26 rfl) ?_
        refine lv_goto (tgt := 106) hx hb (dk kX6_ofWink_0_ok 27 rfl) (by decide) ?_
        exact hret _ _ _ (by simp (config := { decide := true }) only [aWink, (eq_false h1), (eq_false h2), (eq_true h3), bI_1, bI_00, not_true_eq_false, not_false_eq_true, and_true, true_and, and_false, false_and, or_true, true_or, or_false, false_or, and_self, or_self, if_true, if_false, Bool.false_eq_true, reduceIte]; first | done | rfl | (simp_all; done)) (dk kX6_ofWink_1_ok 2 rfl)
    · skip
      refine lv_iload_n hx hb (dk kX6_ofWink_0_ok 9 rfl) rfl (lv_at hl 1 rfl) ?_
      refine lv_iconst (v := nI 4) hx hb (dk kX6_ofWink_0_ok 10 rfl) rfl ?_
      refine n_irem hx hb (by omega) (by decide) (by decide) (dk kX6_ofWink_0_ok 11 rfl) ?_
      refine lv_iconst (v := nI 2) hx hb (dk kX6_ofWink_0_ok 12 rfl) rfl ?_
      refine n_icmp_ge (tgt := 26) hx hb (by omega) (by decide) (dk kX6_ofWink_0_ok 13 rfl) (by decide) (fun h8 => ?_) (fun h8 => ?_)
      · skip
        refine lv_iconst (v := nI 0) hx hb (dk kX6_ofWink_0_ok 16 rfl) rfl ?_
        refine lv_goto (tgt := 106) hx hb (dk kX6_ofWink_0_ok 17 rfl) (by decide) ?_
        exact hret _ _ _ (by simp (config := { decide := true }) only [aWink, (eq_false h1), (eq_true h2), (eq_true h8), (eq_false (Nat.not_lt.mpr h8)), bI_1, bI_00, not_true_eq_false, not_false_eq_true, and_true, true_and, and_false, false_and, or_true, true_or, or_false, false_or, and_self, or_self, if_true, if_false, Bool.false_eq_true, reduceIte]; first | done | rfl | (simp_all; done)) (dk kX6_ofWink_1_ok 2 rfl)
      · skip
        refine lv_iconst (v := nI 1) hx hb (dk kX6_ofWink_0_ok 14 rfl) rfl ?_
        refine lv_goto (tgt := 106) hx hb (dk kX6_ofWink_0_ok 15 rfl) (by decide) ?_
        exact hret _ _ _ (by simp (config := { decide := true }) only [aWink, (eq_false h1), (eq_true h2), (eq_true h8), (eq_false (Nat.not_le.mpr h8)), bI_1, bI_00, not_true_eq_false, not_false_eq_true, and_true, true_and, and_false, false_and, or_true, true_or, or_false, false_or, and_self, or_self, if_true, if_false, Bool.false_eq_true, reduceIte]; first | done | rfl | (simp_all; done)) (dk kX6_ofWink_1_ok 2 rfl)
  · skip
    refine lv_iload_n hx hb (dk kX6_ofWink_0_ok 2 rfl) rfl (lv_at hl 1 rfl) ?_
    refine lv_iconst (v := nI 4) hx hb (dk kX6_ofWink_0_ok 3 rfl) rfl ?_
    refine n_idiv hx hb (by omega) (by decide) (by decide) (dk kX6_ofWink_0_ok 4 rfl) ?_
    refine lv_goto (tgt := 106) hx hb (dk kX6_ofWink_0_ok 5 rfl) (by decide) ?_
    exact hret _ _ _ (by simp (config := { decide := true }) only [aWink, (eq_true h1), bI_1, bI_00, not_true_eq_false, not_false_eq_true, and_true, true_and, and_false, false_and, or_true, true_or, or_false, false_or, and_self, or_self, if_true, if_false, Bool.false_eq_true, reduceIte]; first | done | rfl | (simp_all; done)) (dk kX6_ofWink_1_ok 2 rfl)
set_option maxRecDepth 100000 in
set_option maxHeartbeats 4000000 in
theorem tX6_ofPile (l : Launch) (D : va_G) (cI cQ cL : ClassId) (ad : Nat → Nat) (N : Nat) (F : Nat → va_E) (k : Nat) (hk : k + 7 < N) (r ps sl sd ne fa bu : Nat → Int32) (hs : Bool) (st ln pt : Nat) (th : Int32) (hR : rfAt cI ad F k r ps sl sd ne fa bu hs st ln pt th) (q : Int32) (y : Int32) (a : Nat) (hya : y = nI a) (ha : a < 2 ^ 31) : MR l yX6_ofPile (Cond.code yX6_ofPile cX6_ofPile 4 (some .int) :: AW) ({ frames := 1, cells := 0, slots := 0, locals := 23 } : Room) D cI cQ cL ad N F [.ref (ad k), .int q, .int y] (.int (aPile r q a)) := by
  refine mr_i (ty := .int) (by decide +kernel) rfl rfl rfl rfl (Nat.le_of_ble_eq_true rfl) (fun p e s m below meth cd Q ls hx hb hml hown hts hP hK hNW hret hl => ?_)
  have hown : s.vm.findClass RX6 = some m.cls := hown
  subst hya
  have hh16 := hgt_le r q
  have hk0 : k < N := by omega
  have hk1 : k + 1 < N := by omega
  have hk2 : k + 2 < N := by omega
  have hk3 : k + 3 < N := by omega
  have hk4 : k + 4 < N := by omega
  have hk5 : k + 5 < N := by omega
  have hk6 : k + 6 < N := by omega
  have hk7 : k + 7 < N := by omega
  have hl : lv_has ls 4 [(0, .ref (ad k)), (1, .int q), (2, .int (nI a))] := hl
  refine lv_aload_n hx hb (dk kX6_ofPile_ok 0 rfl) rfl (lv_at hl 0 rfl) ?_
  refine lv_iload_n hx hb (dk kX6_ofPile_ok 1 rfl) rfl (lv_at hl 1 rfl) ?_
  refine cvR (As := [.int q]) (rest := []) ⟨hx, hb, hml, hown, hts⟩ (tX6_lying l D cI cQ cL ad N F k hk r ps sl sd ne fa bu hs st ln pt th hR q) (cwV9 1 hts mcX6_lying (ac18 _ (List.mem_of_getElem? (i := 10) rfl)) miX6_lying meX6_lying mini_RX6 rfl rfl hdX6_lying ⟨Nat.le_of_ble_eq_true rfl, Nat.le_of_ble_eq_true rfl⟩) hK hP hNW hk0 hR.1 rfl rfl hl.1 rfl (Nat.le_of_ble_eq_true rfl) (by decide) (dk kX6_ofPile_ok 2 rfl) ?_
  refine lv_istore_n (lv' := [(3, .int (nI (hgt r q))), (0, .ref (ad k)), (1, .int q), (2, .int (nI a))]) hx hb (dk kX6_ofPile_ok 3 rfl) rfl hl (by decide) rfl (fun ls hl => ?_)
  refine lv_iload_n hx hb (dk kX6_ofPile_ok 4 rfl) rfl (lv_at hl 3 rfl) ?_
  refine n_if_ne (tgt := 14) hx hb (by omega) (dk kX6_ofPile_ok 5 rfl) (by decide) (fun h1 => ?_) (fun h1 => ?_)
  · skip
    refine lv_iload_n hx hb (dk kX6_ofPile_ok 8 rfl) rfl (lv_at hl 3 rfl) ?_
    refine lv_iconst (v := nI 1) hx hb (dk kX6_ofPile_ok 9 rfl) rfl ?_
    refine n_icmp_ne (tgt := 30) hx hb (by omega) (by decide) (dk kX6_ofPile_ok 10 rfl) (by decide) (fun h2 => ?_) (fun h2 => ?_)
    · skip
      refine lv_iload_n hx hb (dk kX6_ofPile_ok 18 rfl) rfl (lv_at hl 3 rfl) ?_
      refine lv_iconst (v := nI 2) hx hb (dk kX6_ofPile_ok 19 rfl) rfl ?_
      refine n_icmp_ne (tgt := 44) hx hb (by omega) (by decide) (dk kX6_ofPile_ok 20 rfl) (by decide) (fun h3 => ?_) (fun h3 => ?_)
      · skip
        refine lv_aload_n hx hb (dk kX6_ofPile_ok 26 rfl) rfl (lv_at hl 1 rfl) ?_
        refine lv_iload_n hx hb (dk kX6_ofPile_ok 27 rfl) rfl (lv_at hl 2 rfl) ?_
        refine cvR (As := [.int q]) (rest := []) ⟨hx, hb, hml, hown, hts⟩ (tX6_colours l D cI cQ cL ad N F k hk r ps sl sd ne fa bu hs st ln pt th hR q) (cwV9 1 hts mcX6_colours (ac22 _ (List.mem_of_getElem? (i := 18) rfl)) miX6_colours meX6_colours mini_RX6 rfl rfl hdX6_colours ⟨Nat.le_of_ble_eq_true rfl, Nat.le_of_ble_eq_true rfl⟩) hK hP hNW hk0 hR.1 rfl rfl hl.1 rfl (Nat.le_of_ble_eq_true rfl) (by decide) (dk kX6_ofPile_ok 28 rfl) ?_
        exact hret _ _ _ (by simp (config := { decide := true }) only [aPile, (eq_false h1), (eq_false h2), (eq_false h3), bI_1, bI_00, not_true_eq_false, not_false_eq_true, and_true, true_and, and_false, false_and, or_true, true_or, or_false, false_or, and_self, or_self, if_true, if_false, Bool.false_eq_true, reduceIte]; first | done | rfl | (simp_all; done)) (dk kX6_ofPile_ok 29 rfl)
      · skip
        refine lv_aload_n hx hb (dk kX6_ofPile_ok 21 rfl) rfl (lv_at hl 1 rfl) ?_
        refine lv_iload_n hx hb (dk kX6_ofPile_ok 22 rfl) rfl (lv_at hl 2 rfl) ?_
        refine lv_iconst (v := nI 0) hx hb (dk kX6_ofPile_ok 23 rfl) rfl ?_
        refine cvR (As := [.int q, .int (nI 0)]) (rest := []) ⟨hx, hb, hml, hown, hts⟩ (tX6_winkAt l D cI cQ cL ad N F k hk r ps sl sd ne fa bu hs st ln pt th hR q (nI 0)) (cwV9 2 hts mcX6_winkAt (ac20 _ (List.mem_of_getElem? (i := 8) rfl)) miX6_winkAt meX6_winkAt mini_RX6 rfl rfl hdX6_winkAt ⟨Nat.le_of_ble_eq_true rfl, Nat.le_of_ble_eq_true rfl⟩) hK hP hNW hk0 hR.1 rfl rfl hl.1 rfl (Nat.le_of_ble_eq_true rfl) (by decide) (dk kX6_ofPile_ok 24 rfl) ?_
        refine lv_goto (tgt := 49) hx hb (dk kX6_ofPile_ok 25 rfl) (by decide) ?_
        exact hret _ _ _ (by simp (config := { decide := true }) only [aPile, (eq_false h1), (eq_false h2), (eq_true h3), bI_1, bI_00, not_true_eq_false, not_false_eq_true, and_true, true_and, and_false, false_and, or_true, true_or, or_false, false_or, and_self, or_self, if_true, if_false, Bool.false_eq_true, reduceIte]; first | done | rfl | (simp_all; done)) (dk kX6_ofPile_ok 29 rfl)
    · skip
      refine lv_aload_n hx hb (dk kX6_ofPile_ok 11 rfl) rfl (lv_at hl 1 rfl) ?_
      refine lv_iload_n hx hb (dk kX6_ofPile_ok 12 rfl) rfl (lv_at hl 2 rfl) ?_
      refine lv_iload_n hx hb (dk kX6_ofPile_ok 13 rfl) rfl (lv_at hl 0 rfl) ?_
      refine lv_iconst (v := nI 1) hx hb (dk kX6_ofPile_ok 14 rfl) rfl ?_
      refine lv_isub hx hb (dk kX6_ofPile_ok 15 rfl) ?_
      refine cvR (As := [.int q, .int ((nI (hgt r q)) - (nI 1))]) (rest := []) ⟨hx, hb, hml, hown, hts⟩ (tX6_winkAt l D cI cQ cL ad N F k hk r ps sl sd ne fa bu hs st ln pt th hR q ((nI (hgt r q)) - (nI 1))) (cwV9 2 hts mcX6_winkAt (ac20 _ (List.mem_of_getElem? (i := 8) rfl)) miX6_winkAt meX6_winkAt mini_RX6 rfl rfl hdX6_winkAt ⟨Nat.le_of_ble_eq_true rfl, Nat.le_of_ble_eq_true rfl⟩) hK hP hNW hk0 hR.1 rfl rfl hl.1 rfl (Nat.le_of_ble_eq_true rfl) (by decide) (dk kX6_ofPile_ok 16 rfl) ?_
      refine lv_goto (tgt := 49) hx hb (dk kX6_ofPile_ok 17 rfl) (by decide) ?_
      exact hret _ _ _ (by simp (config := { decide := true }) only [aPile, (eq_false h1), (eq_true h2), bI_1, bI_00, not_true_eq_false, not_false_eq_true, and_true, true_and, and_false, false_and, or_true, true_or, or_false, false_or, and_self, or_self, if_true, if_false, Bool.false_eq_true, reduceIte]; first | done | rfl | (simp_all; done)) (dk kX6_ofPile_ok 29 rfl)
  · skip
    refine lv_iload_n hx hb (dk kX6_ofPile_ok 6 rfl) rfl (lv_at hl 0 rfl) ?_
    refine lv_goto (tgt := 49) hx hb (dk kX6_ofPile_ok 7 rfl) (by decide) ?_
    exact hret _ _ _ (by simp (config := { decide := true }) only [aPile, (eq_true h1), bI_1, bI_00, not_true_eq_false, not_false_eq_true, and_true, true_and, and_false, false_and, or_true, true_or, or_false, false_or, and_self, or_self, if_true, if_false, Bool.false_eq_true, reduceIte]; first | done | rfl | (simp_all; done)) (dk kX6_ofPile_ok 29 rfl)
set_option maxRecDepth 100000 in
set_option maxHeartbeats 4000000 in
theorem tX6_ofColour (l : Launch) (D : va_G) (cI cQ cL : ClassId) (ad : Nat → Nat) (N : Nat) (F : Nat → va_E) (k : Nat) (hk : k + 7 < N) (r ps sl sd ne fa bu : Nat → Int32) (hs : Bool) (st ln pt : Nat) (th : Int32) (hR : rfAt cI ad F k r ps sl sd ne fa bu hs st ln pt th) (x : Int32) (w : Nat) (hxw : x = nI w) (hw : w < 4) (y : Int32) (a : Nat) (hya : y = nI a) (ha : a < 2 ^ 31) : MR l yX6_ofColour (Cond.code yX6_ofColour cX6_ofColour 3 (some .int) :: AW) ({ frames := 3, cells := 0, slots := 0, locals := 67 } : Room) D cI cQ cL ad N F [.ref (ad k), .int x, .int y] (.int (aCol r w a)) := by
  refine mr_i (ty := .int) (by decide +kernel) rfl rfl rfl rfl (Nat.le_of_ble_eq_true rfl) (fun p e s m below meth cd Q ls hx hb hml hown hts hP hK hNW hret hl => ?_)
  have hown : s.vm.findClass RX6 = some m.cls := hown
  subst hxw
  subst hya
  have hk0 : k < N := by omega
  have hk1 : k + 1 < N := by omega
  have hk2 : k + 2 < N := by omega
  have hk3 : k + 3 < N := by omega
  have hk4 : k + 4 < N := by omega
  have hk5 : k + 5 < N := by omega
  have hk6 : k + 6 < N := by omega
  have hk7 : k + 7 < N := by omega
  have hl : lv_has ls 3 [(0, .ref (ad k)), (1, .int (nI w)), (2, .int (nI a))] := hl
  refine lv_iload_n hx hb (dk kX6_ofColour_ok 0 rfl) rfl (lv_at hl 2 rfl) ?_
  refine n_if_ne (tgt := 12) hx hb (by omega) (dk kX6_ofColour_ok 1 rfl) (by decide) (fun h1 => ?_) (fun h1 => ?_)
  · skip
    refine lv_iload_n hx hb (dk kX6_ofColour_ok 6 rfl) rfl (lv_at hl 2 rfl) ?_
    refine lv_iconst (v := nI 1) hx hb (dk kX6_ofColour_ok 7 rfl) rfl ?_
    refine n_icmp_ne (tgt := 25) hx hb (by omega) (by decide) (dk kX6_ofColour_ok 8 rfl) (by decide) (fun h2 => ?_) (fun h2 => ?_)
    · skip
      refine lv_iload_n hx hb (dk kX6_ofColour_ok 13 rfl) rfl (lv_at hl 2 rfl) ?_
      refine lv_iconst (v := nI 2) hx hb (dk kX6_ofColour_ok 14 rfl) rfl ?_
      refine n_icmp_ne (tgt := 46) hx hb (by omega) (by decide) (dk kX6_ofColour_ok 15 rfl) (by decide) (fun h3 => ?_) (fun h3 => ?_)
      · skip
        refine lv_iload_n hx hb (dk kX6_ofColour_ok 26 rfl) rfl (lv_at hl 2 rfl) ?_
        refine lv_iconst (v := nI 3) hx hb (dk kX6_ofColour_ok 27 rfl) rfl ?_
        refine n_icmp_ne (tgt := 59) hx hb (by omega) (by decide) (dk kX6_ofColour_ok 28 rfl) (by decide) (fun h4 => ?_) (fun h4 => ?_)
        · skip
          refine lv_iload_n hx hb (dk kX6_ofColour_ok 33 rfl) rfl (lv_at hl 2 rfl) ?_
          refine lv_iconst (v := nI 4) hx hb (dk kX6_ofColour_ok 34 rfl) rfl ?_
          refine n_icmp_ne (tgt := 76) hx hb (by omega) (by decide) (dk kX6_ofColour_ok 35 rfl) (by decide) (fun h5 => ?_) (fun h5 => ?_)
          · skip
            refine lv_iload_n hx hb (dk kX6_ofColour_ok 43 rfl) rfl (lv_at hl 2 rfl) ?_
            refine lv_iconst (v := nI 5) hx hb (dk kX6_ofColour_ok 44 rfl) rfl ?_
            refine n_icmp_ne (tgt := 93) hx hb (by omega) (by decide) (dk kX6_ofColour_ok 45 rfl) (by decide) (fun h6 => ?_) (fun h6 => ?_)
            · skip
              refine lv_aload_n hx hb (dk kX6_ofColour_ok 53 rfl) rfl (lv_at hl 0 rfl) ?_
              refine lv_iload_n hx hb (dk kX6_ofColour_ok 54 rfl) rfl (lv_at hl 1 rfl) ?_
              refine cvR (As := [.int (nI w)]) (rest := []) ⟨hx, hb, hml, hown, hts⟩ (tX6_below l D cI cQ cL ad N F k hk r ps sl sd ne fa bu hs st ln pt th hR (nI w) w rfl (by omega)) (cwV9 1 hts mcX6_below (ac23 _ (List.mem_of_getElem? (i := 6) rfl)) miX6_below meX6_below mini_RX6 rfl rfl hdX6_below ⟨Nat.le_of_ble_eq_true rfl, Nat.le_of_ble_eq_true rfl⟩) hK hP hNW hk0 hR.1 rfl rfl hl.1 rfl (Nat.le_of_ble_eq_true rfl) (by decide) (dk kX6_ofColour_ok 55 rfl) ?_
              exact hret _ _ _ (by simp (config := { decide := true }) only [aCol, (eq_false h1), (eq_false h2), (eq_false h3), (eq_false h4), (eq_false h5), (eq_false h6), bI_1, bI_00, not_true_eq_false, not_false_eq_true, and_true, true_and, and_false, false_and, or_true, true_or, or_false, false_or, and_self, or_self, if_true, if_false, Bool.false_eq_true, reduceIte]; first | done | rfl | (simp_all; done)) (dk kX6_ofColour_ok 56 rfl)
            · skip
              refine lv_aload_n hx hb (dk kX6_ofColour_ok 46 rfl) rfl (lv_at hl 0 rfl) ?_
              refine gf hx hb hts (fun w h => List.mem_cons_of_mem _ (acX6 w h)) hown hK hP hk0 hR.1 rfl 0 (by decide) (hts _ (List.mem_cons_of_mem _ (ac17 _ (List.mem_of_getElem? (i := 17) rfl)))) (fun _ h => h) rfl (dk kX6_ofColour_ok 47 rfl) ?_
              refine lv_bipush (v := nI 52) hx hb (dk kX6_ofColour_ok 48 rfl) rfl ?_
              refine lv_iload_n hx hb (dk kX6_ofColour_ok 49 rfl) rfl (lv_at hl 1 rfl) ?_
              refine n_iadd hx hb (dk kX6_ofColour_ok 50 rfl) ?_
              refine ald (j := (52 + w)) hx hb hK hP hk1 hR.2.1 rfl (by omega) (by decide) (dk kX6_ofColour_ok 51 rfl) ?_
              refine lv_goto (tgt := 98) hx hb (dk kX6_ofColour_ok 52 rfl) (by decide) ?_
              exact hret _ _ _ (by simp (config := { decide := true }) only [aCol, (eq_false h1), (eq_false h2), (eq_false h3), (eq_false h4), (eq_false h5), (eq_true h6), bI_1, bI_00, not_true_eq_false, not_false_eq_true, and_true, true_and, and_false, false_and, or_true, true_or, or_false, false_or, and_self, or_self, if_true, if_false, Bool.false_eq_true, reduceIte]; first | done | rfl | (simp_all; done)) (dk kX6_ofColour_ok 56 rfl)
          · skip
            refine lv_aload_n hx hb (dk kX6_ofColour_ok 36 rfl) rfl (lv_at hl 0 rfl) ?_
            refine gf hx hb hts (fun w h => List.mem_cons_of_mem _ (acX6 w h)) hown hK hP hk0 hR.1 rfl 0 (by decide) (hts _ (List.mem_cons_of_mem _ (ac17 _ (List.mem_of_getElem? (i := 17) rfl)))) (fun _ h => h) rfl (dk kX6_ofColour_ok 37 rfl) ?_
            refine lv_bipush (v := nI 48) hx hb (dk kX6_ofColour_ok 38 rfl) rfl ?_
            refine lv_iload_n hx hb (dk kX6_ofColour_ok 39 rfl) rfl (lv_at hl 1 rfl) ?_
            refine n_iadd hx hb (dk kX6_ofColour_ok 40 rfl) ?_
            refine ald (j := (48 + w)) hx hb hK hP hk1 hR.2.1 rfl (by omega) (by decide) (dk kX6_ofColour_ok 41 rfl) ?_
            refine lv_goto (tgt := 98) hx hb (dk kX6_ofColour_ok 42 rfl) (by decide) ?_
            exact hret _ _ _ (by simp (config := { decide := true }) only [aCol, (eq_false h1), (eq_false h2), (eq_false h3), (eq_false h4), (eq_true h5), bI_1, bI_00, not_true_eq_false, not_false_eq_true, and_true, true_and, and_false, false_and, or_true, true_or, or_false, false_or, and_self, or_self, if_true, if_false, Bool.false_eq_true, reduceIte]; first | done | rfl | (simp_all; done)) (dk kX6_ofColour_ok 56 rfl)
        · skip
          refine lv_aload_n hx hb (dk kX6_ofColour_ok 29 rfl) rfl (lv_at hl 0 rfl) ?_
          refine lv_iload_n hx hb (dk kX6_ofColour_ok 30 rfl) rfl (lv_at hl 1 rfl) ?_
          refine cvR (As := [.int (nI w)]) (rest := []) ⟨hx, hb, hml, hown, hts⟩ (tX6_points l D cI cQ cL ad N F k hk r ps sl sd ne fa bu hs st ln pt th hR (nI w) w rfl (by omega)) (cwV9 1 hts mcX6_points (ac18 _ (List.mem_of_getElem? (i := 22) rfl)) miX6_points meX6_points mini_RX6 rfl rfl hdX6_points ⟨Nat.le_of_ble_eq_true rfl, Nat.le_of_ble_eq_true rfl⟩) hK hP hNW hk0 hR.1 rfl rfl hl.1 rfl (Nat.le_of_ble_eq_true rfl) (by decide) (dk kX6_ofColour_ok 31 rfl) ?_
          refine lv_goto (tgt := 98) hx hb (dk kX6_ofColour_ok 32 rfl) (by decide) ?_
          exact hret _ _ _ (by simp (config := { decide := true }) only [aCol, (eq_false h1), (eq_false h2), (eq_false h3), (eq_true h4), bI_1, bI_00, not_true_eq_false, not_false_eq_true, and_true, true_and, and_false, false_and, or_true, true_or, or_false, false_or, and_self, or_self, if_true, if_false, Bool.false_eq_true, reduceIte]; first | done | rfl | (simp_all; done)) (dk kX6_ofColour_ok 56 rfl)
      · skip
        refine lv_iconst (v := nI 4) hx hb (dk kX6_ofColour_ok 16 rfl) rfl ?_
        refine lv_aload_n hx hb (dk kX6_ofColour_ok 17 rfl) rfl (lv_at hl 0 rfl) ?_
        refine lv_iload_n hx hb (dk kX6_ofColour_ok 18 rfl) rfl (lv_at hl 1 rfl) ?_
        refine cvR (As := [.int (nI w)]) (rest := [.int (nI 4)]) ⟨hx, hb, hml, hown, hts⟩ (tX6_pottedOf l D cI cQ cL ad N F k hk r ps sl sd ne fa bu hs st ln pt th hR (nI w) w rfl (by omega)) (cwV9 1 hts mcX6_pottedOf (ac18 _ (List.mem_of_getElem? (i := 14) rfl)) miX6_pottedOf meX6_pottedOf mini_RX6 rfl rfl hdX6_pottedOf ⟨Nat.le_of_ble_eq_true rfl, Nat.le_of_ble_eq_true rfl⟩) hK hP hNW hk0 hR.1 rfl rfl hl.1 rfl (Nat.le_of_ble_eq_true rfl) (by decide) (dk kX6_ofColour_ok 19 rfl) ?_
        refine lv_isub hx hb (dk kX6_ofColour_ok 20 rfl) ?_
        refine lv_aload_n hx hb (dk kX6_ofColour_ok 21 rfl) rfl (lv_at hl 0 rfl) ?_
        refine lv_iload_n hx hb (dk kX6_ofColour_ok 22 rfl) rfl (lv_at hl 1 rfl) ?_
        refine cvR (As := [.int (nI w)]) (rest := [.int ((nI 4) - (nI (potc r w)))]) ⟨hx, hb, hml, hown, hts⟩ (tX6_coveredOf l D cI cQ cL ad N F k hk r ps sl sd ne fa bu hs st ln pt th hR (nI w) w rfl (by omega)) (cwV9 1 hts mcX6_coveredOf (ac23 _ (List.mem_of_getElem? (i := 2) rfl)) miX6_coveredOf meX6_coveredOf mini_RX6 rfl rfl hdX6_coveredOf ⟨Nat.le_of_ble_eq_true rfl, Nat.le_of_ble_eq_true rfl⟩) hK hP hNW hk0 hR.1 rfl rfl hl.1 rfl (Nat.le_of_ble_eq_true rfl) (by decide) (dk kX6_ofColour_ok 23 rfl) ?_
        refine lv_isub hx hb (dk kX6_ofColour_ok 24 rfl) ?_
        refine lv_goto (tgt := 98) hx hb (dk kX6_ofColour_ok 25 rfl) (by decide) ?_
        exact hret _ _ _ (by simp (config := { decide := true }) only [aCol, (eq_false h1), (eq_false h2), (eq_true h3), bI_1, bI_00, not_true_eq_false, not_false_eq_true, and_true, true_and, and_false, false_and, or_true, true_or, or_false, false_or, and_self, or_self, if_true, if_false, Bool.false_eq_true, reduceIte]; first | done | rfl | (simp_all; done)) (dk kX6_ofColour_ok 56 rfl)
    · skip
      refine lv_aload_n hx hb (dk kX6_ofColour_ok 9 rfl) rfl (lv_at hl 0 rfl) ?_
      refine lv_iload_n hx hb (dk kX6_ofColour_ok 10 rfl) rfl (lv_at hl 1 rfl) ?_
      refine cvR (As := [.int (nI w)]) (rest := []) ⟨hx, hb, hml, hown, hts⟩ (tX6_coveredOf l D cI cQ cL ad N F k hk r ps sl sd ne fa bu hs st ln pt th hR (nI w) w rfl (by omega)) (cwV9 1 hts mcX6_coveredOf (ac23 _ (List.mem_of_getElem? (i := 2) rfl)) miX6_coveredOf meX6_coveredOf mini_RX6 rfl rfl hdX6_coveredOf ⟨Nat.le_of_ble_eq_true rfl, Nat.le_of_ble_eq_true rfl⟩) hK hP hNW hk0 hR.1 rfl rfl hl.1 rfl (Nat.le_of_ble_eq_true rfl) (by decide) (dk kX6_ofColour_ok 11 rfl) ?_
      refine lv_goto (tgt := 98) hx hb (dk kX6_ofColour_ok 12 rfl) (by decide) ?_
      exact hret _ _ _ (by simp (config := { decide := true }) only [aCol, (eq_false h1), (eq_true h2), bI_1, bI_00, not_true_eq_false, not_false_eq_true, and_true, true_and, and_false, false_and, or_true, true_or, or_false, false_or, and_self, or_self, if_true, if_false, Bool.false_eq_true, reduceIte]; first | done | rfl | (simp_all; done)) (dk kX6_ofColour_ok 56 rfl)
  · skip
    refine lv_aload_n hx hb (dk kX6_ofColour_ok 2 rfl) rfl (lv_at hl 0 rfl) ?_
    refine lv_iload_n hx hb (dk kX6_ofColour_ok 3 rfl) rfl (lv_at hl 1 rfl) ?_
    refine cvR (As := [.int (nI w)]) (rest := []) ⟨hx, hb, hml, hown, hts⟩ (tX6_pottedOf l D cI cQ cL ad N F k hk r ps sl sd ne fa bu hs st ln pt th hR (nI w) w rfl (by omega)) (cwV9 1 hts mcX6_pottedOf (ac18 _ (List.mem_of_getElem? (i := 14) rfl)) miX6_pottedOf meX6_pottedOf mini_RX6 rfl rfl hdX6_pottedOf ⟨Nat.le_of_ble_eq_true rfl, Nat.le_of_ble_eq_true rfl⟩) hK hP hNW hk0 hR.1 rfl rfl hl.1 rfl (Nat.le_of_ble_eq_true rfl) (by decide) (dk kX6_ofColour_ok 4 rfl) ?_
    refine lv_goto (tgt := 98) hx hb (dk kX6_ofColour_ok 5 rfl) (by decide) ?_
    exact hret _ _ _ (by simp (config := { decide := true }) only [aCol, (eq_true h1), bI_1, bI_00, not_true_eq_false, not_false_eq_true, and_true, true_and, and_false, false_and, or_true, true_or, or_false, false_or, and_self, or_self, if_true, if_false, Bool.false_eq_true, reduceIte]; first | done | rfl | (simp_all; done)) (dk kX6_ofColour_ok 56 rfl)
set_option maxRecDepth 100000 in
set_option maxHeartbeats 4000000 in
theorem tX6_number (l : Launch) (D : va_G) (cI cQ cL : ClassId) (ad : Nat → Nat) (N : Nat) (F : Nat → va_E) (k : Nat) (hk : k + 7 < N) (r ps sl sd ne fa bu : Nat → Int32) (hs : Bool) (st ln pt : Nat) (th : Int32) (hR : rfAt cI ad F k r ps sl sd ne fa bu hs st ln pt th) (y : Int32) (a : Nat) (hya : y = nI a) (ha : a < 14) : MR l yX6_number (Cond.code yX6_number cX6_number 2 (some .int) :: AW) ({ frames := 4, cells := 0, slots := 0, locals := 88 } : Room) D cI cQ cL ad N F [.ref (ad k), .int y] (.int (aNum r st a)) := by
  refine mr_i (ty := .int) (by decide +kernel) rfl rfl rfl rfl (Nat.le_of_ble_eq_true rfl) (fun p e s m below meth cd Q ls hx hb hml hown hts hP hK hNW hret hl => ?_)
  have hown : s.vm.findClass RX6 = some m.cls := hown
  subst hya
  have hk0 : k < N := by omega
  have hk1 : k + 1 < N := by omega
  have hk2 : k + 2 < N := by omega
  have hk3 : k + 3 < N := by omega
  have hk4 : k + 4 < N := by omega
  have hk5 : k + 5 < N := by omega
  have hk6 : k + 6 < N := by omega
  have hk7 : k + 7 < N := by omega
  have hl : lv_has ls 2 [(0, .ref (ad k)), (1, .int (nI a))] := hl
  refine lv_iload_n hx hb (dk kX6_number_0_ok 0 rfl) rfl (lv_at hl 1 rfl) ?_
  refine lv_iconst (v := nI 5) hx hb (dk kX6_number_0_ok 1 rfl) rfl ?_
  refine n_icmp_ge (tgt := 67) hx hb (by omega) (by decide) (dk kX6_number_0_ok 2 rfl) (by decide) (fun h1 => ?_) (fun h1 => ?_)
  · skip
    refine lv_iload_n hx hb (dk kX6_number_0_ok 34 rfl) rfl (lv_at hl 1 rfl) ?_
    refine lv_bipush (v := nI 10) hx hb (dk kX6_number_0_ok 35 rfl) rfl ?_
    refine n_icmp_ge (tgt := 162) hx hb (by omega) (by decide) (dk kX6_number_0_ok 36 rfl) (by decide) (fun h2 => ?_) (fun h2 => ?_)
    · skip
      refine lv_iload_n hx hb (dk kX6_number_1_ok 25 rfl) rfl (lv_at hl 1 rfl) ?_
      refine lv_bipush (v := nI 12) hx hb (dk kX6_number_1_ok 26 rfl) rfl ?_
      refine n_icmp_ge (tgt := 179) hx hb (by omega) (by decide) (dk kX6_number_1_ok 27 rfl) (by decide) (fun h3 => ?_) (fun h3 => ?_)
      · skip
        refine lv_iload_n hx hb (dk kX6_number_1_ok 34 rfl) rfl (lv_at hl 1 rfl) ?_
        refine lv_bipush (v := nI 12) hx hb (dk kX6_number_1_ok 35 rfl) rfl ?_
        refine n_icmp_ne (tgt := 195) hx hb (by omega) (by decide) (dk kX6_number_1_ok 36 rfl) (by decide) (fun h4 => ?_) (fun h4 => ?_)
        · skip
          refine lv_aload_n hx hb (dk kX6_number_1_ok 42 rfl) rfl (lv_at hl 0 rfl) ?_
          refine gf hx hb hts (fun w h => List.mem_cons_of_mem _ (acX6 w h)) hown hK hP hk0 hR.1 rfl 8 (by decide) (hts _ (List.mem_cons_of_mem _ (ac18 _ (List.mem_of_getElem? (i := 5) rfl)))) (fun _ h => h) rfl (dk kX6_number_1_ok 43 rfl) ?_
          exact hret _ _ _ (by simp (config := { decide := true }) only [aNum, (eq_true h1), (eq_false (Nat.not_lt.mpr h1)), (eq_true h2), (eq_false (Nat.not_lt.mpr h2)), (eq_true h3), (eq_false (Nat.not_lt.mpr h3)), (eq_false h4), bI_1, bI_00, not_true_eq_false, not_false_eq_true, and_true, true_and, and_false, false_and, or_true, true_or, or_false, false_or, and_self, or_self, if_true, if_false, Bool.false_eq_true, reduceIte]; first | done | rfl | (simp_all; done)) (dk kX6_number_1_ok 44 rfl)
        · skip
          refine lv_aload_n hx hb (dk kX6_number_1_ok 37 rfl) rfl (lv_at hl 0 rfl) ?_
          refine gf hx hb hts (fun w h => List.mem_cons_of_mem _ (acX6 w h)) hown hK hP hk0 hR.1 rfl 0 (by decide) (hts _ (List.mem_cons_of_mem _ (ac17 _ (List.mem_of_getElem? (i := 17) rfl)))) (fun _ h => h) rfl (dk kX6_number_1_ok 38 rfl) ?_
          refine lv_bipush (v := nI 57) hx hb (dk kX6_number_1_ok 39 rfl) rfl ?_
          refine ald (j := 57) hx hb hK hP hk1 hR.2.1 rfl (by omega) (by decide) (dk kX6_number_1_ok 40 rfl) ?_
          refine lv_goto (tgt := 199) hx hb (dk kX6_number_1_ok 41 rfl) (by decide) ?_
          exact hret _ _ _ (by simp (config := { decide := true }) only [aNum, (eq_true h1), (eq_false (Nat.not_lt.mpr h1)), (eq_true h2), (eq_false (Nat.not_lt.mpr h2)), (eq_true h3), (eq_false (Nat.not_lt.mpr h3)), (eq_true h4), bI_1, bI_00, not_true_eq_false, not_false_eq_true, and_true, true_and, and_false, false_and, or_true, true_or, or_false, false_or, and_self, or_self, if_true, if_false, Bool.false_eq_true, reduceIte]; first | done | rfl | (simp_all; done)) (dk kX6_number_1_ok 44 rfl)
      · skip
        refine lv_aload_n hx hb (dk kX6_number_1_ok 28 rfl) rfl (lv_at hl 0 rfl) ?_
        refine lv_iload_n hx hb (dk kX6_number_1_ok 29 rfl) rfl (lv_at hl 1 rfl) ?_
        refine lv_bipush (v := nI 10) hx hb (dk kX6_number_1_ok 30 rfl) rfl ?_
        refine n_isub hx hb (by omega) (dk kX6_number_1_ok 31 rfl) ?_
        refine cvR (As := [.int (nI (a - 10))]) (rest := []) ⟨hx, hb, hml, hown, hts⟩ (tX6_team l D cI cQ cL ad N F k hk r ps sl sd ne fa bu hs st ln pt th hR (nI (a - 10)) (a - 10) rfl (by omega)) (cwV9 1 hts mcX6_team (ac24 _ (List.mem_of_getElem? (i := 2) rfl)) miX6_team meX6_team mini_RX6 rfl rfl hdX6_team ⟨Nat.le_of_ble_eq_true rfl, Nat.le_of_ble_eq_true rfl⟩) hK hP hNW hk0 hR.1 rfl rfl hl.1 rfl (Nat.le_of_ble_eq_true rfl) (by decide) (dk kX6_number_1_ok 32 rfl) ?_
        refine lv_goto (tgt := 199) hx hb (dk kX6_number_1_ok 33 rfl) (by decide) ?_
        exact hret _ _ _ (by simp (config := { decide := true }) only [aNum, (eq_true h1), (eq_false (Nat.not_lt.mpr h1)), (eq_true h2), (eq_false (Nat.not_lt.mpr h2)), (eq_true h3), (eq_false (Nat.not_le.mpr h3)), bI_1, bI_00, not_true_eq_false, not_false_eq_true, and_true, true_and, and_false, false_and, or_true, true_or, or_false, false_or, and_self, or_self, if_true, if_false, Bool.false_eq_true, reduceIte]; first | done | rfl | (simp_all; done)) (dk kX6_number_1_ok 44 rfl)
    · skip
      refine lv_iload_n hx hb (dk kX6_number_0_ok 37 rfl) rfl (lv_at hl 1 rfl) ?_
      refine lv_iconst (v := nI 5) hx hb (dk kX6_number_0_ok 38 rfl) rfl ?_
      refine n_icmp_ne (tgt := 85) hx hb (by omega) (by decide) (dk kX6_number_0_ok 39 rfl) (by decide) (fun h5 => ?_) (fun h5 => ?_)
      · skip
        refine lv_iload_n hx hb (dk kX6_number_0_ok 43 rfl) rfl (lv_at hl 1 rfl) ?_
        refine lv_bipush (v := nI 6) hx hb (dk kX6_number_0_ok 44 rfl) rfl ?_
        refine n_icmp_ne (tgt := 98) hx hb (by omega) (by decide) (dk kX6_number_0_ok 45 rfl) (by decide) (fun h6 => ?_) (fun h6 => ?_)
        · skip
          refine lv_iload_n hx hb (dk kX6_number_0_ok 49 rfl) rfl (lv_at hl 1 rfl) ?_
          refine lv_bipush (v := nI 7) hx hb (dk kX6_number_0_ok 50 rfl) rfl ?_
          refine n_icmp_ne (tgt := 114) hx hb (by omega) (by decide) (dk kX6_number_0_ok 51 rfl) (by decide) (fun h7 => ?_) (fun h7 => ?_)
          · skip
            refine lv_iload_n hx hb (dk kX6_number_0_ok 57 rfl) rfl (lv_at hl 1 rfl) ?_
            refine lv_bipush (v := nI 8) hx hb (dk kX6_number_0_ok 58 rfl) rfl ?_
            refine n_icmp_ne (tgt := 130) hx hb (by omega) (by decide) (dk kX6_number_0_ok 59 rfl) (by decide) (fun h8 => ?_) (fun h8 => ?_)
            · skip
              refine lv_aload_n hx hb (dk kX6_number_1_ok 5 rfl) rfl (lv_at hl 0 rfl) ?_
              refine gf hx hb hts (fun w h => List.mem_cons_of_mem _ (acX6 w h)) hown hK hP hk0 hR.1 rfl 0 (by decide) (hts _ (List.mem_cons_of_mem _ (ac17 _ (List.mem_of_getElem? (i := 17) rfl)))) (fun _ h => h) rfl (dk kX6_number_1_ok 6 rfl) ?_
              refine lv_bipush (v := nI 48) hx hb (dk kX6_number_1_ok 7 rfl) rfl ?_
              refine ald (j := 48) hx hb hK hP hk1 hR.2.1 rfl (by omega) (by decide) (dk kX6_number_1_ok 8 rfl) ?_
              refine lv_aload_n hx hb (dk kX6_number_1_ok 9 rfl) rfl (lv_at hl 0 rfl) ?_
              refine gf hx hb hts (fun w h => List.mem_cons_of_mem _ (acX6 w h)) hown hK hP hk0 hR.1 rfl 0 (by decide) (hts _ (List.mem_cons_of_mem _ (ac17 _ (List.mem_of_getElem? (i := 17) rfl)))) (fun _ h => h) rfl (dk kX6_number_1_ok 10 rfl) ?_
              refine lv_bipush (v := nI 49) hx hb (dk kX6_number_1_ok 11 rfl) rfl ?_
              refine ald (j := 49) hx hb hK hP hk1 hR.2.1 rfl (by omega) (by decide) (dk kX6_number_1_ok 12 rfl) ?_
              refine lv_iadd hx hb (dk kX6_number_1_ok 13 rfl) ?_
              refine lv_aload_n hx hb (dk kX6_number_1_ok 14 rfl) rfl (lv_at hl 0 rfl) ?_
              refine gf hx hb hts (fun w h => List.mem_cons_of_mem _ (acX6 w h)) hown hK hP hk0 hR.1 rfl 0 (by decide) (hts _ (List.mem_cons_of_mem _ (ac17 _ (List.mem_of_getElem? (i := 17) rfl)))) (fun _ h => h) rfl (dk kX6_number_1_ok 15 rfl) ?_
              refine lv_bipush (v := nI 50) hx hb (dk kX6_number_1_ok 16 rfl) rfl ?_
              refine ald (j := 50) hx hb hK hP hk1 hR.2.1 rfl (by omega) (by decide) (dk kX6_number_1_ok 17 rfl) ?_
              refine lv_iadd hx hb (dk kX6_number_1_ok 18 rfl) ?_
              refine lv_aload_n hx hb (dk kX6_number_1_ok 19 rfl) rfl (lv_at hl 0 rfl) ?_
              refine gf hx hb hts (fun w h => List.mem_cons_of_mem _ (acX6 w h)) hown hK hP hk0 hR.1 rfl 0 (by decide) (hts _ (List.mem_cons_of_mem _ (ac17 _ (List.mem_of_getElem? (i := 17) rfl)))) (fun _ h => h) rfl (dk kX6_number_1_ok 20 rfl) ?_
              refine lv_bipush (v := nI 51) hx hb (dk kX6_number_1_ok 21 rfl) rfl ?_
              refine ald (j := 51) hx hb hK hP hk1 hR.2.1 rfl (by omega) (by decide) (dk kX6_number_1_ok 22 rfl) ?_
              refine lv_iadd hx hb (dk kX6_number_1_ok 23 rfl) ?_
              exact hret _ _ _ (by simp (config := { decide := true }) only [aNum, (eq_true h1), (eq_false (Nat.not_lt.mpr h1)), (eq_true h2), (eq_false (Nat.not_le.mpr h2)), (eq_false h5), (eq_false h6), (eq_false h7), (eq_false h8), bI_1, bI_00, not_true_eq_false, not_false_eq_true, and_true, true_and, and_false, false_and, or_true, true_or, or_false, false_or, and_self, or_self, if_true, if_false, Bool.false_eq_true, reduceIte]; first | done | rfl | (simp_all; done)) (dk kX6_number_1_ok 24 rfl)
            · skip
              refine lv_aload_n hx hb (dk kX6_number_1_ok 0 rfl) rfl (lv_at hl 0 rfl) ?_
              refine gf hx hb hts (fun w h => List.mem_cons_of_mem _ (acX6 w h)) hown hK hP hk0 hR.1 rfl 0 (by decide) (hts _ (List.mem_cons_of_mem _ (ac17 _ (List.mem_of_getElem? (i := 17) rfl)))) (fun _ h => h) rfl (dk kX6_number_1_ok 1 rfl) ?_
              refine lv_bipush (v := nI 59) hx hb (dk kX6_number_1_ok 2 rfl) rfl ?_
              refine ald (j := 59) hx hb hK hP hk1 hR.2.1 rfl (by omega) (by decide) (dk kX6_number_1_ok 3 rfl) ?_
              refine lv_goto (tgt := 161) hx hb (dk kX6_number_1_ok 4 rfl) (by decide) ?_
              exact hret _ _ _ (by simp (config := { decide := true }) only [aNum, (eq_true h1), (eq_false (Nat.not_lt.mpr h1)), (eq_true h2), (eq_false (Nat.not_le.mpr h2)), (eq_false h5), (eq_false h6), (eq_false h7), (eq_true h8), bI_1, bI_00, not_true_eq_false, not_false_eq_true, and_true, true_and, and_false, false_and, or_true, true_or, or_false, false_or, and_self, or_self, if_true, if_false, Bool.false_eq_true, reduceIte]; first | done | rfl | (simp_all; done)) (dk kX6_number_1_ok 24 rfl)
          · skip
            refine lv_aload_n hx hb (dk kX6_number_0_ok 52 rfl) rfl (lv_at hl 0 rfl) ?_
            refine gf hx hb hts (fun w h => List.mem_cons_of_mem _ (acX6 w h)) hown hK hP hk0 hR.1 rfl 0 (by decide) (hts _ (List.mem_cons_of_mem _ (ac17 _ (List.mem_of_getElem? (i := 17) rfl)))) (fun _ h => h) rfl (dk kX6_number_0_ok 53 rfl) ?_
            refine lv_bipush (v := nI 58) hx hb (dk kX6_number_0_ok 54 rfl) rfl ?_
            refine ald (j := 58) hx hb hK hP hk1 hR.2.1 rfl (by omega) (by decide) (dk kX6_number_0_ok 55 rfl) ?_
            refine lv_goto (tgt := 161) hx hb (dk kX6_number_0_ok 56 rfl) (by decide) ?_
            exact hret _ _ _ (by simp (config := { decide := true }) only [aNum, (eq_true h1), (eq_false (Nat.not_lt.mpr h1)), (eq_true h2), (eq_false (Nat.not_le.mpr h2)), (eq_false h5), (eq_false h6), (eq_true h7), bI_1, bI_00, not_true_eq_false, not_false_eq_true, and_true, true_and, and_false, false_and, or_true, true_or, or_false, false_or, and_self, or_self, if_true, if_false, Bool.false_eq_true, reduceIte]; first | done | rfl | (simp_all; done)) (dk kX6_number_1_ok 24 rfl)
        · skip
          refine lv_aload_n hx hb (dk kX6_number_0_ok 46 rfl) rfl (lv_at hl 0 rfl) ?_
          refine cvR (As := []) (rest := []) ⟨hx, hb, hml, hown, hts⟩ (tX6_highest l D cI cQ cL ad N F k hk r ps sl sd ne fa bu hs st ln pt th hR) (cwV9 0 hts mcX6_highest (ac23 _ (List.mem_of_getElem? (i := 22) rfl)) miX6_highest meX6_highest mini_RX6 rfl rfl hdX6_highest ⟨Nat.le_of_ble_eq_true rfl, Nat.le_of_ble_eq_true rfl⟩) hK hP hNW hk0 hR.1 rfl rfl hl.1 rfl (Nat.le_of_ble_eq_true rfl) (by decide) (dk kX6_number_0_ok 47 rfl) ?_
          refine lv_goto (tgt := 161) hx hb (dk kX6_number_0_ok 48 rfl) (by decide) ?_
          exact hret _ _ _ (by simp (config := { decide := true }) only [aNum, (eq_true h1), (eq_false (Nat.not_lt.mpr h1)), (eq_true h2), (eq_false (Nat.not_le.mpr h2)), (eq_false h5), (eq_true h6), bI_1, bI_00, not_true_eq_false, not_false_eq_true, and_true, true_and, and_false, false_and, or_true, true_or, or_false, false_or, and_self, or_self, if_true, if_false, Bool.false_eq_true, reduceIte]; first | done | rfl | (simp_all; done)) (dk kX6_number_1_ok 24 rfl)
      · skip
        refine lv_aload_n hx hb (dk kX6_number_0_ok 40 rfl) rfl (lv_at hl 0 rfl) ?_
        refine cvR (As := []) (rest := []) ⟨hx, hb, hml, hown, hts⟩ (tX6_piles l D cI cQ cL ad N F k hk r ps sl sd ne fa bu hs st ln pt th hR) (cwV9 0 hts mcX6_piles (ac23 _ (List.mem_of_getElem? (i := 18) rfl)) miX6_piles meX6_piles mini_RX6 rfl rfl hdX6_piles ⟨Nat.le_of_ble_eq_true rfl, Nat.le_of_ble_eq_true rfl⟩) hK hP hNW hk0 hR.1 rfl rfl hl.1 rfl (Nat.le_of_ble_eq_true rfl) (by decide) (dk kX6_number_0_ok 41 rfl) ?_
        refine lv_goto (tgt := 161) hx hb (dk kX6_number_0_ok 42 rfl) (by decide) ?_
        exact hret _ _ _ (by simp (config := { decide := true }) only [aNum, (eq_true h1), (eq_false (Nat.not_lt.mpr h1)), (eq_true h2), (eq_false (Nat.not_le.mpr h2)), (eq_true h5), bI_1, bI_00, not_true_eq_false, not_false_eq_true, and_true, true_and, and_false, false_and, or_true, true_or, or_false, false_or, and_self, or_self, if_true, if_false, Bool.false_eq_true, reduceIte]; first | done | rfl | (simp_all; done)) (dk kX6_number_1_ok 24 rfl)
  · skip
    refine lv_iload_n hx hb (dk kX6_number_0_ok 3 rfl) rfl (lv_at hl 1 rfl) ?_
    refine n_if_ne (tgt := 30) hx hb (by omega) (dk kX6_number_0_ok 4 rfl) (by decide) (fun h9 => ?_) (fun h9 => ?_)
    · skip
      refine lv_iload_n hx hb (dk kX6_number_0_ok 15 rfl) rfl (lv_at hl 1 rfl) ?_
      refine lv_iconst (v := nI 1) hx hb (dk kX6_number_0_ok 16 rfl) rfl ?_
      refine n_icmp_ne (tgt := 50) hx hb (by omega) (by decide) (dk kX6_number_0_ok 17 rfl) (by decide) (fun h10 => ?_) (fun h10 => ?_)
      · skip
        refine lv_iload_n hx hb (dk kX6_number_0_ok 25 rfl) rfl (lv_at hl 1 rfl) ?_
        refine lv_iconst (v := nI 2) hx hb (dk kX6_number_0_ok 26 rfl) rfl ?_
        refine n_icmp_ne (tgt := 62) hx hb (by omega) (by decide) (dk kX6_number_0_ok 27 rfl) (by decide) (fun h11 => ?_) (fun h11 => ?_)
        · skip
          refine lv_aload_n hx hb (dk kX6_number_0_ok 31 rfl) rfl (lv_at hl 0 rfl) ?_
          refine cvR (As := []) (rest := []) ⟨hx, hb, hml, hown, hts⟩ (tX6_covered l D cI cQ cL ad N F k hk r ps sl sd ne fa bu hs st ln pt th hR) (cwV9 0 hts mcX6_covered (ac23 _ (List.mem_of_getElem? (i := 14) rfl)) miX6_covered meX6_covered mini_RX6 rfl rfl hdX6_covered ⟨Nat.le_of_ble_eq_true rfl, Nat.le_of_ble_eq_true rfl⟩) hK hP hNW hk0 hR.1 rfl rfl hl.1 rfl (Nat.le_of_ble_eq_true rfl) (by decide) (dk kX6_number_0_ok 32 rfl) ?_
          exact hret _ _ _ (by simp (config := { decide := true }) only [aNum, (eq_true h1), (eq_false (Nat.not_le.mpr h1)), (eq_false h9), (eq_false h10), (eq_false h11), bI_1, bI_00, not_true_eq_false, not_false_eq_true, and_true, true_and, and_false, false_and, or_true, true_or, or_false, false_or, and_self, or_self, if_true, if_false, Bool.false_eq_true, reduceIte]; first | done | rfl | (simp_all; done)) (dk kX6_number_0_ok 33 rfl)
        · skip
          refine lv_aload_n hx hb (dk kX6_number_0_ok 28 rfl) rfl (lv_at hl 0 rfl) ?_
          refine cvR (As := []) (rest := []) ⟨hx, hb, hml, hown, hts⟩ (tX6_pottedInAll l D cI cQ cL ad N F k hk r ps sl sd ne fa bu hs st ln pt th hR) (cwV9 0 hts mcX6_pottedInAll (ac22 _ (List.mem_of_getElem? (i := 10) rfl)) miX6_pottedInAll meX6_pottedInAll mini_RX6 rfl rfl hdX6_pottedInAll ⟨Nat.le_of_ble_eq_true rfl, Nat.le_of_ble_eq_true rfl⟩) hK hP hNW hk0 hR.1 rfl rfl hl.1 rfl (Nat.le_of_ble_eq_true rfl) (by decide) (dk kX6_number_0_ok 29 rfl) ?_
          refine lv_goto (tgt := 66) hx hb (dk kX6_number_0_ok 30 rfl) (by decide) ?_
          exact hret _ _ _ (by simp (config := { decide := true }) only [aNum, (eq_true h1), (eq_false (Nat.not_le.mpr h1)), (eq_false h9), (eq_false h10), (eq_true h11), bI_1, bI_00, not_true_eq_false, not_false_eq_true, and_true, true_and, and_false, false_and, or_true, true_or, or_false, false_or, and_self, or_self, if_true, if_false, Bool.false_eq_true, reduceIte]; first | done | rfl | (simp_all; done)) (dk kX6_number_0_ok 33 rfl)
      · skip
        refine lv_aload_n hx hb (dk kX6_number_0_ok 18 rfl) rfl (lv_at hl 0 rfl) ?_
        refine cvR (As := []) (rest := []) ⟨hx, hb, hml, hown, hts⟩ (tX6_isOver l D cI cQ cL ad N F k hk r ps sl sd ne fa bu hs st ln pt th hR) (cwV9 0 hts mcX6_isOver (ac19 _ (List.mem_of_getElem? (i := 2) rfl)) miX6_isOver meX6_isOver mini_RX6 rfl rfl hdX6_isOver ⟨Nat.le_of_ble_eq_true rfl, Nat.le_of_ble_eq_true rfl⟩) hK hP hNW hk0 hR.1 rfl rfl hl.1 rfl (Nat.le_of_ble_eq_true rfl) (by decide) (dk kX6_number_0_ok 19 rfl) ?_
        refine b_if_eq (tgt := 46) hx hb (dk kX6_number_0_ok 20 rfl) (by decide) (fun h12 => ?_) (fun h12 => ?_)
        · skip
          refine lv_iconst (v := nI 0) hx hb (dk kX6_number_0_ok 23 rfl) rfl ?_
          refine lv_goto (tgt := 66) hx hb (dk kX6_number_0_ok 24 rfl) (by decide) ?_
          exact hret _ _ _ (by simp (config := { decide := true }) only [aNum, (eq_true h1), (eq_false (Nat.not_le.mpr h1)), (eq_false h9), (eq_true h10), h12, bI_1, bI_00, not_true_eq_false, not_false_eq_true, and_true, true_and, and_false, false_and, or_true, true_or, or_false, false_or, and_self, or_self, if_true, if_false, Bool.false_eq_true, reduceIte]; first | done | rfl | (simp_all; done)) (dk kX6_number_0_ok 33 rfl)
        · skip
          refine lv_iconst (v := nI 1) hx hb (dk kX6_number_0_ok 21 rfl) rfl ?_
          refine lv_goto (tgt := 66) hx hb (dk kX6_number_0_ok 22 rfl) (by decide) ?_
          exact hret _ _ _ (by simp (config := { decide := true }) only [aNum, (eq_true h1), (eq_false (Nat.not_le.mpr h1)), (eq_false h9), (eq_true h10), h12, bI_1, bI_00, not_true_eq_false, not_false_eq_true, and_true, true_and, and_false, false_and, or_true, true_or, or_false, false_or, and_self, or_self, if_true, if_false, Bool.false_eq_true, reduceIte]; first | done | rfl | (simp_all; done)) (dk kX6_number_0_ok 33 rfl)
    · skip
      refine lv_aload_n hx hb (dk kX6_number_0_ok 5 rfl) rfl (lv_at hl 0 rfl) ?_
      refine cvR (As := []) (rest := []) ⟨hx, hb, hml, hown, hts⟩ (tX6_isOver l D cI cQ cL ad N F k hk r ps sl sd ne fa bu hs st ln pt th hR) (cwV9 0 hts mcX6_isOver (ac19 _ (List.mem_of_getElem? (i := 2) rfl)) miX6_isOver meX6_isOver mini_RX6 rfl rfl hdX6_isOver ⟨Nat.le_of_ble_eq_true rfl, Nat.le_of_ble_eq_true rfl⟩) hK hP hNW hk0 hR.1 rfl rfl hl.1 rfl (Nat.le_of_ble_eq_true rfl) (by decide) (dk kX6_number_0_ok 6 rfl) ?_
      refine b_if_eq (tgt := 20) hx hb (dk kX6_number_0_ok 7 rfl) (by decide) (fun h13 => ?_) (fun h13 => ?_)
      · skip
        refine lv_aload_n hx hb (dk kX6_number_0_ok 10 rfl) rfl (lv_at hl 0 rfl) ?_
        refine gf hx hb hts (fun w h => List.mem_cons_of_mem _ (acX6 w h)) hown hK hP hk0 hR.1 rfl 0 (by decide) (hts _ (List.mem_cons_of_mem _ (ac17 _ (List.mem_of_getElem? (i := 17) rfl)))) (fun _ h => h) rfl (dk kX6_number_0_ok 11 rfl) ?_
        refine lv_bipush (v := nI 56) hx hb (dk kX6_number_0_ok 12 rfl) rfl ?_
        refine ald (j := 56) hx hb hK hP hk1 hR.2.1 rfl (by omega) (by decide) (dk kX6_number_0_ok 13 rfl) ?_
        refine lv_goto (tgt := 66) hx hb (dk kX6_number_0_ok 14 rfl) (by decide) ?_
        exact hret _ _ _ (by simp (config := { decide := true }) only [aNum, (eq_true h1), (eq_false (Nat.not_le.mpr h1)), (eq_true h9), h13, bI_1, bI_00, not_true_eq_false, not_false_eq_true, and_true, true_and, and_false, false_and, or_true, true_or, or_false, false_or, and_self, or_self, if_true, if_false, Bool.false_eq_true, reduceIte]; first | done | rfl | (simp_all; done)) (dk kX6_number_0_ok 33 rfl)
      · skip
        refine lv_iconst (v := -1) hx hb (dk kX6_number_0_ok 8 rfl) rfl ?_
        refine lv_goto (tgt := 66) hx hb (dk kX6_number_0_ok 9 rfl) (by decide) ?_
        exact hret _ _ _ (by simp (config := { decide := true }) only [aNum, (eq_true h1), (eq_false (Nat.not_le.mpr h1)), (eq_true h9), h13, bI_1, bI_00, not_true_eq_false, not_false_eq_true, and_true, true_and, and_false, false_and, or_true, true_or, or_false, false_or, and_self, or_self, if_true, if_false, Bool.false_eq_true, reduceIte]; first | done | rfl | (simp_all; done)) (dk kX6_number_0_ok 33 rfl)
set_option maxRecDepth 100000 in
set_option maxHeartbeats 4000000 in
theorem tX6_landing (l : Launch) (D : va_G) (cI cQ cL : ClassId) (ad : Nat → Nat) (N : Nat) (F : Nat → va_E) (k : Nat) (hk : k + 7 < N) (r ps sl sd ne fa bu : Nat → Int32) (hs : Bool) (st ln pt : Nat) (th : Int32) (hR : rfAt cI ad F k r ps sl sd ne fa bu hs st ln pt th) (x : Int32) (w : Nat) (hxw : x = nI w) (hw : w < 16) (y : Int32) (d : Nat) (hyd : y = nI d) (hd : d < 8) (z : Int32) (f : Nat) (hzf : z = nI f) (hf : f < 2 ^ 30) (hc9 : pot r w = false → cell9 (r w)) : MR l yX6_landing (Cond.code yX6_landing cX6_landing 4 (some .int) :: AW) ({ frames := 2, cells := 0, slots := 0, locals := 50 } : Room) D cI cQ cL ad N F [.ref (ad k), .int x, .int y, .int z] (.int (aLan r w d f)) := by
  refine mr_i (ty := .int) (by decide +kernel) rfl rfl rfl rfl (Nat.le_of_ble_eq_true rfl) (fun p e s m below meth cd Q ls hx hb hml hown hts hP hK hNW hret hl => ?_)
  have hown : s.vm.findClass RX6 = some m.cls := hown
  subst hxw
  subst hyd
  subst hzf
  have hst : stp w f < 2 ^ 31 := by unfold stp; split <;> omega
  have hk0 : k < N := by omega
  have hk1 : k + 1 < N := by omega
  have hk2 : k + 2 < N := by omega
  have hk3 : k + 3 < N := by omega
  have hk4 : k + 4 < N := by omega
  have hk5 : k + 5 < N := by omega
  have hk6 : k + 6 < N := by omega
  have hk7 : k + 7 < N := by omega
  have hl : lv_has ls 4 [(0, .ref (ad k)), (1, .int (nI w)), (2, .int (nI d)), (3, .int (nI f))] := hl
  refine lv_aload_n hx hb (dk kX6_landing_ok 0 rfl) rfl (lv_at hl 0 rfl) ?_
  refine lv_iload_n hx hb (dk kX6_landing_ok 1 rfl) rfl (lv_at hl 1 rfl) ?_
  refine cvR (As := [.int (nI w)]) (rest := []) ⟨hx, hb, hml, hown, hts⟩ (tX6_isPotted l D cI cQ cL ad N F k hk r ps sl sd ne fa bu hs st ln pt th hR (nI w) w rfl (by omega)) (cwV9 1 hts mcX6_isPotted (ac18 _ (List.mem_of_getElem? (i := 6) rfl)) miX6_isPotted meX6_isPotted mini_RX6 rfl rfl hdX6_isPotted ⟨Nat.le_of_ble_eq_true rfl, Nat.le_of_ble_eq_true rfl⟩) hK hP hNW hk0 hR.1 rfl rfl hl.1 rfl (Nat.le_of_ble_eq_true rfl) (by decide) (dk kX6_landing_ok 2 rfl) ?_
  refine b_if_eq (tgt := 13) hx hb (dk kX6_landing_ok 3 rfl) (by decide) (fun h1 => ?_) (fun h1 => ?_)
  · skip
    refine lv_aload_n hx hb (dk kX6_landing_ok 6 rfl) rfl (lv_at hl 0 rfl) ?_
    refine gf hx hb hts (fun w h => List.mem_cons_of_mem _ (acX6 w h)) hown hK hP hk0 hR.1 rfl 0 (by decide) (hts _ (List.mem_cons_of_mem _ (ac17 _ (List.mem_of_getElem? (i := 17) rfl)))) (fun _ h => h) rfl (dk kX6_landing_ok 7 rfl) ?_
    refine lv_iconst (v := nI 0) hx hb (dk kX6_landing_ok 8 rfl) rfl ?_
    refine lv_iload_n hx hb (dk kX6_landing_ok 9 rfl) rfl (lv_at hl 1 rfl) ?_
    refine n_iadd0 hx hb (dk kX6_landing_ok 10 rfl) ?_
    refine ald (j := w) hx hb hK hP hk1 hR.2.1 rfl (by omega) (by decide) (dk kX6_landing_ok 11 rfl) ?_
    refine lv_iload_n hx hb (dk kX6_landing_ok 12 rfl) rfl (lv_at hl 2 rfl) ?_
    refine lv_iload_n hx hb (dk kX6_landing_ok 13 rfl) rfl (lv_at hl 1 rfl) ?_
    refine lv_iload_n hx hb (dk kX6_landing_ok 14 rfl) rfl (lv_at hl 3 rfl) ?_
    refine csP (As := [.int (nI w), .int (nI f)]) (rest := [.int (nI d), .int (r w)]) ⟨hx, hb, hml, hown, hts⟩ (tX6_steps l (nI w) w rfl (by omega) (nI f) f rfl (by omega)) (cwS9 2 hts mcX6_steps (ac19 _ (List.mem_of_getElem? (i := 15) rfl)) msX6_steps mini_RX6 rfl rfl hdX6_steps ⟨Nat.le_of_ble_eq_true rfl, Nat.le_of_ble_eq_true rfl⟩) rfl hl.1 rfl (Nat.le_of_ble_eq_true rfl) (by decide) (dk kX6_landing_ok 15 rfl) ?_
    refine csP (As := [.int (r w), .int (nI d), .int (nI (stp w f))]) (rest := []) ⟨hx, hb, hml, hown, hts⟩ (tX6_leads l (r w) (hc9 h1) (nI d) d rfl (by omega) (nI (stp w f)) (stp w f) rfl (by omega)) (cwS9 3 hts mcX6_leads (ac19 _ (List.mem_of_getElem? (i := 18) rfl)) msX6_leads mini_RX6 rfl rfl hdX6_leads ⟨Nat.le_of_ble_eq_true rfl, Nat.le_of_ble_eq_true rfl⟩) rfl hl.1 rfl (Nat.le_of_ble_eq_true rfl) (by decide) (dk kX6_landing_ok 16 rfl) ?_
    refine csP (As := [.int (ldg (r w) (nI d) (stp w f))]) (rest := []) ⟨hx, hb, hml, hown, hts⟩ (tX6_told l (ldg (r w) (nI d) (stp w f))) (cwS9 1 hts mcX6_told (ac20 _ (List.mem_of_getElem? (i := 5) rfl)) msX6_told mini_RX6 rfl rfl hdX6_told ⟨Nat.le_of_ble_eq_true rfl, Nat.le_of_ble_eq_true rfl⟩) rfl hl.1 rfl (Nat.le_of_ble_eq_true rfl) (by decide) (dk kX6_landing_ok 17 rfl) ?_
    exact hret _ _ _ (by simp (config := { decide := true }) only [aLan, h1, bI_1, bI_00, not_true_eq_false, not_false_eq_true, and_true, true_and, and_false, false_and, or_true, true_or, or_false, false_or, and_self, or_self, if_true, if_false, Bool.false_eq_true, reduceIte]; first | done | rfl | (simp_all; done)) (dk kX6_landing_ok 18 rfl)
  · skip
    refine lv_bipush (v := -2) hx hb (dk kX6_landing_ok 4 rfl) rfl ?_
    refine lv_goto (tgt := 33) hx hb (dk kX6_landing_ok 5 rfl) (by decide) ?_
    exact hret _ _ _ (by simp (config := { decide := true }) only [aLan, h1, bI_1, bI_00, not_true_eq_false, not_false_eq_true, and_true, true_and, and_false, false_and, or_true, true_or, or_false, false_or, and_self, or_self, if_true, if_false, Bool.false_eq_true, reduceIte]; first | done | rfl | (simp_all; done)) (dk kX6_landing_ok 18 rfl)
set_option maxRecDepth 100000 in
set_option maxHeartbeats 4000000 in
theorem tX6_wink (l : Launch) (D : va_G) (cI cQ cL : ClassId) (ad : Nat → Nat) (N : Nat) (F : Nat → va_E) (k : Nat) (hk : k + 7 < N) (r ps sl sd ne fa bu : Nat → Int32) (hs : Bool) (st ln pt : Nat) (th : Int32) (hR : rfAt cI ad F k r ps sl sd ne fa bu hs st ln pt th) (x y : Int32) : MX l yX6_wink (Cond.code yX6_wink cX6_wink 3 (some .int) :: AW) ({ frames := 5, cells := 0, slots := 0, locals := 107 } : Room) D cI cQ cL ad N F [.ref (ad k), .int x, .int y] (dp (some (.int (pW r x y))) (rfSet cI ad F k r ps sl sd ne fa bu hs st ln pt (tW x y 15 6))) 0 0 := by
  refine mx_i (ty := .int) (by decide +kernel) rfl (Nat.le_of_ble_eq_true rfl) (fun p e s m below meth cd Q ls hx hb hml hown hts hDi hP hK hNW hS hret hl => ?_)
  have hown : s.vm.findClass RX6 = some m.cls := hown
  have hk0 : k < N := by omega
  have hk1 : k + 1 < N := by omega
  have hk2 : k + 2 < N := by omega
  have hk3 : k + 3 < N := by omega
  have hk4 : k + 4 < N := by omega
  have hk5 : k + 5 < N := by omega
  have hk6 : k + 6 < N := by omega
  have hk7 : k + 7 < N := by omega
  have hP : va_P D vwCl (iW ad N (rfSet cI ad F k r ps sl sd ne fa bu hs st ln pt th)) s.heap := by rw [rfSet_self hR]; exact hP
  have hl : lv_has ls 3 [(0, .ref (ad k)), (1, .int x), (2, .int y)] := hl
  refine lv_aload_n hx hb (dk kX6_wink_ok 0 rfl) rfl (lv_at hl 0 rfl) ?_
  refine lv_iconst (v := nI 0) hx hb (dk kX6_wink_ok 1 rfl) rfl ?_
  refine pf (rfSet cI ad F k r ps sl sd ne fa bu hs st ln pt (nI 0)) hx hb hts (fun w h => List.mem_cons_of_mem _ (acX6 w h)) tyX6 tyX6_ok nmX6 hown hK hDi hP hS hk0 rfSet_at.1 rfl 11 (by decide) (hts _ (List.mem_cons_of_mem _ (ac18 _ (List.mem_of_getElem? (i := 4) rfl)))) (fun _ h => h) rfl (ty := .int) rfl rfl rfl (Nat.le_of_ble_eq_true rfl) (dk kX6_wink_ok 2 rfl) rfSet_u0 (fun H locs hP hS => ?_)
  refine lv_iload_n hx hb (dk kX6_wink_ok 3 rfl) rfl (lv_at hl 1 rfl) ?_
  refine lv_iconst (v := nI 0) hx hb (dk kX6_wink_ok 4 rfl) rfl ?_
  refine lv_bipush (v := nI 15) hx hb (dk kX6_wink_ok 5 rfl) rfl ?_
  refine csP (As := [.int x, .int (nI 0), .int (nI 15)]) (rest := []) ⟨hx, hb, hml, hown, hts⟩ (tX6_in l x (nI 0) (nI 15)) (cwS9 3 hts mcX6_in (ac19 _ (List.mem_of_getElem? (i := 12) rfl)) msX6_in mini_RX6 rfl rfl hdX6_in ⟨Nat.le_of_ble_eq_true rfl, Nat.le_of_ble_eq_true rfl⟩) rfl hl.1 rfl (Nat.le_of_ble_eq_true rfl) (by decide) (dk kX6_wink_ok 6 rfl) ?_
  refine b_if_ne (tgt := 21) hx hb (dk kX6_wink_ok 7 rfl) (by decide) (fun h1 => ?_) (fun h1 => ?_)
  · skip
    refine lv_iload_n hx hb (dk kX6_wink_ok 12 rfl) rfl (lv_at hl 2 rfl) ?_
    refine lv_iconst (v := nI 0) hx hb (dk kX6_wink_ok 13 rfl) rfl ?_
    refine lv_bipush (v := nI 6) hx hb (dk kX6_wink_ok 14 rfl) rfl ?_
    refine csP (As := [.int y, .int (nI 0), .int (nI 6)]) (rest := []) ⟨hx, hb, hml, hown, hts⟩ (tX6_in l y (nI 0) (nI 6)) (cwS9 3 hts mcX6_in (ac19 _ (List.mem_of_getElem? (i := 12) rfl)) msX6_in mini_RX6 rfl rfl hdX6_in ⟨Nat.le_of_ble_eq_true rfl, Nat.le_of_ble_eq_true rfl⟩) rfl hl.1 rfl (Nat.le_of_ble_eq_true rfl) (by decide) (dk kX6_wink_ok 15 rfl) ?_
    refine b_if_eq (tgt := 40) hx hb (dk kX6_wink_ok 16 rfl) (by decide) (fun h2 => ?_) (fun h2 => ?_)
    · skip
      refine lv_aload_n hx hb (dk kX6_wink_ok 22 rfl) rfl (lv_at hl 0 rfl) ?_
      refine lv_iconst (v := nI 2) hx hb (dk kX6_wink_ok 23 rfl) rfl ?_
      refine cvD (As := [.int (nI 2)]) (rest := []) (rfSet cI ad F k r ps sl sd ne fa bu hs st ln pt (nI 2)) ⟨hx, hb, hml, hown, hts⟩ (tX6_fails l D cI cQ cL ad N (rfSet cI ad F k r ps sl sd ne fa bu hs st ln pt (nI 0)) k hk r ps sl sd ne fa bu hs st ln pt (nI 0) (rfSet_at) (nI 2)) (cwV9 1 hts mcX6_fails (ac20 _ (List.mem_of_getElem? (i := 15) rfl)) miX6_fails meX6_fails mini_RX6 rfl rfl hdX6_fails ⟨Nat.le_of_ble_eq_true rfl, Nat.le_of_ble_eq_true rfl⟩) hDi hK hP hNW hS hk0 rfSet_at.1 rfl rfl hl.1 rfl (Nat.le_of_ble_eq_true rfl) (by decide) (dk kX6_wink_ok 24 rfl) rfSet_rfSet (fun H locs hP hS => ?_)
      exact hret _ _ _ _ _ _ _ _ rfl (by simp (config := { decide := true }) only [dp, tW, pW, h1, h2, bI_1, bI_00, not_true_eq_false, not_false_eq_true, and_true, true_and, and_false, false_and, or_true, true_or, or_false, false_or, and_self, or_self, if_true, if_false, Bool.false_eq_true, reduceIte]; first | done | exact ⟨rfl, rfl⟩ | (simp_all; done)) hP hS (by decide) (by decide) (dk kX6_wink_ok 25 rfl)
    · skip
      refine lv_aload_n hx hb (dk kX6_wink_ok 17 rfl) rfl (lv_at hl 0 rfl) ?_
      refine lv_iload_n hx hb (dk kX6_wink_ok 18 rfl) rfl (lv_at hl 1 rfl) ?_
      refine lv_iload_n hx hb (dk kX6_wink_ok 19 rfl) rfl (lv_at hl 2 rfl) ?_
      refine cvR (As := [.int x, .int y]) (rest := []) ⟨hx, hb, hml, hown, hts⟩ (tX6_ofWink l D cI cQ cL ad N (rfSet cI ad F k r ps sl sd ne fa bu hs st ln pt (nI 0)) k hk r ps sl sd ne fa bu hs st ln pt (nI 0) (rfSet_at) x (ix x) (btw_eq h1) (by have := btw_le h1; omega) y (ix y) (btw_eq h2) (by have := btw_le h2; omega)) (cwV9 2 hts mcX6_ofWink (ac22 _ (List.mem_of_getElem? (i := 14) rfl)) miX6_ofWink meX6_ofWink mini_RX6 rfl rfl hdX6_ofWink ⟨Nat.le_of_ble_eq_true rfl, Nat.le_of_ble_eq_true rfl⟩) hK hP hNW hk0 rfSet_at.1 rfl rfl hl.1 rfl (Nat.le_of_ble_eq_true rfl) (by decide) (dk kX6_wink_ok 20 rfl) ?_
      refine lv_goto (tgt := 45) hx hb (dk kX6_wink_ok 21 rfl) (by decide) ?_
      exact hret _ _ _ _ _ _ _ _ rfl (by simp (config := { decide := true }) only [dp, tW, pW, h1, h2, bI_1, bI_00, not_true_eq_false, not_false_eq_true, and_true, true_and, and_false, false_and, or_true, true_or, or_false, false_or, and_self, or_self, if_true, if_false, Bool.false_eq_true, reduceIte]; first | done | exact ⟨rfl, rfl⟩ | (simp_all; done)) hP hS (by decide) (by decide) (dk kX6_wink_ok 25 rfl)
  · skip
    refine lv_aload_n hx hb (dk kX6_wink_ok 8 rfl) rfl (lv_at hl 0 rfl) ?_
    refine lv_iconst (v := nI 1) hx hb (dk kX6_wink_ok 9 rfl) rfl ?_
    refine cvD (As := [.int (nI 1)]) (rest := []) (rfSet cI ad F k r ps sl sd ne fa bu hs st ln pt (nI 1)) ⟨hx, hb, hml, hown, hts⟩ (tX6_fails l D cI cQ cL ad N (rfSet cI ad F k r ps sl sd ne fa bu hs st ln pt (nI 0)) k hk r ps sl sd ne fa bu hs st ln pt (nI 0) (rfSet_at) (nI 1)) (cwV9 1 hts mcX6_fails (ac20 _ (List.mem_of_getElem? (i := 15) rfl)) miX6_fails meX6_fails mini_RX6 rfl rfl hdX6_fails ⟨Nat.le_of_ble_eq_true rfl, Nat.le_of_ble_eq_true rfl⟩) hDi hK hP hNW hS hk0 rfSet_at.1 rfl rfl hl.1 rfl (Nat.le_of_ble_eq_true rfl) (by decide) (dk kX6_wink_ok 10 rfl) rfSet_rfSet (fun H locs hP hS => ?_)
    exact hret _ _ _ _ _ _ _ _ rfl (by simp (config := { decide := true }) only [dp, tW, pW, h1, bI_1, bI_00, not_true_eq_false, not_false_eq_true, and_true, true_and, and_false, false_and, or_true, true_or, or_false, false_or, and_self, or_self, if_true, if_false, Bool.false_eq_true, reduceIte]; first | done | exact ⟨rfl, rfl⟩ | (simp_all; done)) hP hS (by decide) (by decide) (dk kX6_wink_ok 11 rfl)
set_option maxRecDepth 100000 in
set_option maxHeartbeats 4000000 in
theorem tX6_colour (l : Launch) (D : va_G) (cI cQ cL : ClassId) (ad : Nat → Nat) (N : Nat) (F : Nat → va_E) (k : Nat) (hk : k + 7 < N) (r ps sl sd ne fa bu : Nat → Int32) (hs : Bool) (st ln pt : Nat) (th : Int32) (hR : rfAt cI ad F k r ps sl sd ne fa bu hs st ln pt th) (x y : Int32) : MX l yX6_colour (Cond.code yX6_colour cX6_colour 3 (some .int) :: AW) ({ frames := 4, cells := 0, slots := 0, locals := 89 } : Room) D cI cQ cL ad N F [.ref (ad k), .int x, .int y] (dp (some (.int (pC r x y))) (rfSet cI ad F k r ps sl sd ne fa bu hs st ln pt (tW x y 3 6))) 0 0 := by
  refine mx_i (ty := .int) (by decide +kernel) rfl (Nat.le_of_ble_eq_true rfl) (fun p e s m below meth cd Q ls hx hb hml hown hts hDi hP hK hNW hS hret hl => ?_)
  have hown : s.vm.findClass RX6 = some m.cls := hown
  have hk0 : k < N := by omega
  have hk1 : k + 1 < N := by omega
  have hk2 : k + 2 < N := by omega
  have hk3 : k + 3 < N := by omega
  have hk4 : k + 4 < N := by omega
  have hk5 : k + 5 < N := by omega
  have hk6 : k + 6 < N := by omega
  have hk7 : k + 7 < N := by omega
  have hP : va_P D vwCl (iW ad N (rfSet cI ad F k r ps sl sd ne fa bu hs st ln pt th)) s.heap := by rw [rfSet_self hR]; exact hP
  have hl : lv_has ls 3 [(0, .ref (ad k)), (1, .int x), (2, .int y)] := hl
  refine lv_aload_n hx hb (dk kX6_colour_ok 0 rfl) rfl (lv_at hl 0 rfl) ?_
  refine lv_iconst (v := nI 0) hx hb (dk kX6_colour_ok 1 rfl) rfl ?_
  refine pf (rfSet cI ad F k r ps sl sd ne fa bu hs st ln pt (nI 0)) hx hb hts (fun w h => List.mem_cons_of_mem _ (acX6 w h)) tyX6 tyX6_ok nmX6 hown hK hDi hP hS hk0 rfSet_at.1 rfl 11 (by decide) (hts _ (List.mem_cons_of_mem _ (ac18 _ (List.mem_of_getElem? (i := 4) rfl)))) (fun _ h => h) rfl (ty := .int) rfl rfl rfl (Nat.le_of_ble_eq_true rfl) (dk kX6_colour_ok 2 rfl) rfSet_u0 (fun H locs hP hS => ?_)
  refine lv_iload_n hx hb (dk kX6_colour_ok 3 rfl) rfl (lv_at hl 1 rfl) ?_
  refine lv_iconst (v := nI 0) hx hb (dk kX6_colour_ok 4 rfl) rfl ?_
  refine lv_iconst (v := nI 3) hx hb (dk kX6_colour_ok 5 rfl) rfl ?_
  refine csP (As := [.int x, .int (nI 0), .int (nI 3)]) (rest := []) ⟨hx, hb, hml, hown, hts⟩ (tX6_in l x (nI 0) (nI 3)) (cwS9 3 hts mcX6_in (ac19 _ (List.mem_of_getElem? (i := 12) rfl)) msX6_in mini_RX6 rfl rfl hdX6_in ⟨Nat.le_of_ble_eq_true rfl, Nat.le_of_ble_eq_true rfl⟩) rfl hl.1 rfl (Nat.le_of_ble_eq_true rfl) (by decide) (dk kX6_colour_ok 6 rfl) ?_
  refine b_if_ne (tgt := 20) hx hb (dk kX6_colour_ok 7 rfl) (by decide) (fun h1 => ?_) (fun h1 => ?_)
  · skip
    refine lv_iload_n hx hb (dk kX6_colour_ok 12 rfl) rfl (lv_at hl 2 rfl) ?_
    refine lv_iconst (v := nI 0) hx hb (dk kX6_colour_ok 13 rfl) rfl ?_
    refine lv_bipush (v := nI 6) hx hb (dk kX6_colour_ok 14 rfl) rfl ?_
    refine csP (As := [.int y, .int (nI 0), .int (nI 6)]) (rest := []) ⟨hx, hb, hml, hown, hts⟩ (tX6_in l y (nI 0) (nI 6)) (cwS9 3 hts mcX6_in (ac19 _ (List.mem_of_getElem? (i := 12) rfl)) msX6_in mini_RX6 rfl rfl hdX6_in ⟨Nat.le_of_ble_eq_true rfl, Nat.le_of_ble_eq_true rfl⟩) rfl hl.1 rfl (Nat.le_of_ble_eq_true rfl) (by decide) (dk kX6_colour_ok 15 rfl) ?_
    refine b_if_eq (tgt := 39) hx hb (dk kX6_colour_ok 16 rfl) (by decide) (fun h2 => ?_) (fun h2 => ?_)
    · skip
      refine lv_aload_n hx hb (dk kX6_colour_ok 22 rfl) rfl (lv_at hl 0 rfl) ?_
      refine lv_iconst (v := nI 2) hx hb (dk kX6_colour_ok 23 rfl) rfl ?_
      refine cvD (As := [.int (nI 2)]) (rest := []) (rfSet cI ad F k r ps sl sd ne fa bu hs st ln pt (nI 2)) ⟨hx, hb, hml, hown, hts⟩ (tX6_fails l D cI cQ cL ad N (rfSet cI ad F k r ps sl sd ne fa bu hs st ln pt (nI 0)) k hk r ps sl sd ne fa bu hs st ln pt (nI 0) (rfSet_at) (nI 2)) (cwV9 1 hts mcX6_fails (ac20 _ (List.mem_of_getElem? (i := 15) rfl)) miX6_fails meX6_fails mini_RX6 rfl rfl hdX6_fails ⟨Nat.le_of_ble_eq_true rfl, Nat.le_of_ble_eq_true rfl⟩) hDi hK hP hNW hS hk0 rfSet_at.1 rfl rfl hl.1 rfl (Nat.le_of_ble_eq_true rfl) (by decide) (dk kX6_colour_ok 24 rfl) rfSet_rfSet (fun H locs hP hS => ?_)
      exact hret _ _ _ _ _ _ _ _ rfl (by simp (config := { decide := true }) only [dp, tW, pC, h1, h2, bI_1, bI_00, not_true_eq_false, not_false_eq_true, and_true, true_and, and_false, false_and, or_true, true_or, or_false, false_or, and_self, or_self, if_true, if_false, Bool.false_eq_true, reduceIte]; first | done | exact ⟨rfl, rfl⟩ | (simp_all; done)) hP hS (by decide) (by decide) (dk kX6_colour_ok 25 rfl)
    · skip
      refine lv_aload_n hx hb (dk kX6_colour_ok 17 rfl) rfl (lv_at hl 0 rfl) ?_
      refine lv_iload_n hx hb (dk kX6_colour_ok 18 rfl) rfl (lv_at hl 1 rfl) ?_
      refine lv_iload_n hx hb (dk kX6_colour_ok 19 rfl) rfl (lv_at hl 2 rfl) ?_
      refine cvR (As := [.int x, .int y]) (rest := []) ⟨hx, hb, hml, hown, hts⟩ (tX6_ofColour l D cI cQ cL ad N (rfSet cI ad F k r ps sl sd ne fa bu hs st ln pt (nI 0)) k hk r ps sl sd ne fa bu hs st ln pt (nI 0) (rfSet_at) x (ix x) (btw_eq h1) (by have := btw_le h1; omega) y (ix y) (btw_eq h2) (by have := btw_le h2; omega)) (cwV9 2 hts mcX6_ofColour (ac23 _ (List.mem_of_getElem? (i := 10) rfl)) miX6_ofColour meX6_ofColour mini_RX6 rfl rfl hdX6_ofColour ⟨Nat.le_of_ble_eq_true rfl, Nat.le_of_ble_eq_true rfl⟩) hK hP hNW hk0 rfSet_at.1 rfl rfl hl.1 rfl (Nat.le_of_ble_eq_true rfl) (by decide) (dk kX6_colour_ok 20 rfl) ?_
      refine lv_goto (tgt := 44) hx hb (dk kX6_colour_ok 21 rfl) (by decide) ?_
      exact hret _ _ _ _ _ _ _ _ rfl (by simp (config := { decide := true }) only [dp, tW, pC, h1, h2, bI_1, bI_00, not_true_eq_false, not_false_eq_true, and_true, true_and, and_false, false_and, or_true, true_or, or_false, false_or, and_self, or_self, if_true, if_false, Bool.false_eq_true, reduceIte]; first | done | exact ⟨rfl, rfl⟩ | (simp_all; done)) hP hS (by decide) (by decide) (dk kX6_colour_ok 25 rfl)
  · skip
    refine lv_aload_n hx hb (dk kX6_colour_ok 8 rfl) rfl (lv_at hl 0 rfl) ?_
    refine lv_iconst (v := nI 1) hx hb (dk kX6_colour_ok 9 rfl) rfl ?_
    refine cvD (As := [.int (nI 1)]) (rest := []) (rfSet cI ad F k r ps sl sd ne fa bu hs st ln pt (nI 1)) ⟨hx, hb, hml, hown, hts⟩ (tX6_fails l D cI cQ cL ad N (rfSet cI ad F k r ps sl sd ne fa bu hs st ln pt (nI 0)) k hk r ps sl sd ne fa bu hs st ln pt (nI 0) (rfSet_at) (nI 1)) (cwV9 1 hts mcX6_fails (ac20 _ (List.mem_of_getElem? (i := 15) rfl)) miX6_fails meX6_fails mini_RX6 rfl rfl hdX6_fails ⟨Nat.le_of_ble_eq_true rfl, Nat.le_of_ble_eq_true rfl⟩) hDi hK hP hNW hS hk0 rfSet_at.1 rfl rfl hl.1 rfl (Nat.le_of_ble_eq_true rfl) (by decide) (dk kX6_colour_ok 10 rfl) rfSet_rfSet (fun H locs hP hS => ?_)
    exact hret _ _ _ _ _ _ _ _ rfl (by simp (config := { decide := true }) only [dp, tW, pC, h1, bI_1, bI_00, not_true_eq_false, not_false_eq_true, and_true, true_and, and_false, false_and, or_true, true_or, or_false, false_or, and_self, or_self, if_true, if_false, Bool.false_eq_true, reduceIte]; first | done | exact ⟨rfl, rfl⟩ | (simp_all; done)) hP hS (by decide) (by decide) (dk kX6_colour_ok 11 rfl)
set_option maxRecDepth 100000 in
set_option maxHeartbeats 4000000 in
theorem tX6_pile (l : Launch) (D : va_G) (cI cQ cL : ClassId) (ad : Nat → Nat) (N : Nat) (F : Nat → va_E) (k : Nat) (hk : k + 7 < N) (r ps sl sd ne fa bu : Nat → Int32) (hs : Bool) (st ln pt : Nat) (th : Int32) (hR : rfAt cI ad F k r ps sl sd ne fa bu hs st ln pt th) (x y z : Int32) : MX l yX6_pile (Cond.code yX6_pile cX6_pile 4 (some .int) :: AW) ({ frames := 2, cells := 0, slots := 0, locals := 46 } : Room) D cI cQ cL ad N F [.ref (ad k), .int x, .int y, .int z] (dp (some (.int (pP r x y z))) (rfSet cI ad F k r ps sl sd ne fa bu hs st ln pt (tP x y z))) 0 0 := by
  refine mx_i (ty := .int) (by decide +kernel) rfl (Nat.le_of_ble_eq_true rfl) (fun p e s m below meth cd Q ls hx hb hml hown hts hDi hP hK hNW hS hret hl => ?_)
  have hown : s.vm.findClass RX6 = some m.cls := hown
  have hk0 : k < N := by omega
  have hk1 : k + 1 < N := by omega
  have hk2 : k + 2 < N := by omega
  have hk3 : k + 3 < N := by omega
  have hk4 : k + 4 < N := by omega
  have hk5 : k + 5 < N := by omega
  have hk6 : k + 6 < N := by omega
  have hk7 : k + 7 < N := by omega
  have hP : va_P D vwCl (iW ad N (rfSet cI ad F k r ps sl sd ne fa bu hs st ln pt th)) s.heap := by rw [rfSet_self hR]; exact hP
  have hl : lv_has ls 4 [(0, .ref (ad k)), (1, .int x), (2, .int y), (3, .int z)] := hl
  refine lv_aload_n hx hb (dk kX6_pile_ok 0 rfl) rfl (lv_at hl 0 rfl) ?_
  refine lv_iconst (v := nI 0) hx hb (dk kX6_pile_ok 1 rfl) rfl ?_
  refine pf (rfSet cI ad F k r ps sl sd ne fa bu hs st ln pt (nI 0)) hx hb hts (fun w h => List.mem_cons_of_mem _ (acX6 w h)) tyX6 tyX6_ok nmX6 hown hK hDi hP hS hk0 rfSet_at.1 rfl 11 (by decide) (hts _ (List.mem_cons_of_mem _ (ac18 _ (List.mem_of_getElem? (i := 4) rfl)))) (fun _ h => h) rfl (ty := .int) rfl rfl rfl (Nat.le_of_ble_eq_true rfl) (dk kX6_pile_ok 2 rfl) rfSet_u0 (fun H locs hP hS => ?_)
  refine lv_iload_n hx hb (dk kX6_pile_ok 3 rfl) rfl (lv_at hl 1 rfl) ?_
  refine lv_iconst (v := nI 0) hx hb (dk kX6_pile_ok 4 rfl) rfl ?_
  refine lv_bipush (v := nI 12) hx hb (dk kX6_pile_ok 5 rfl) rfl ?_
  refine csP (As := [.int x, .int (nI 0), .int (nI 12)]) (rest := []) ⟨hx, hb, hml, hown, hts⟩ (tX6_in l x (nI 0) (nI 12)) (cwS9 3 hts mcX6_in (ac19 _ (List.mem_of_getElem? (i := 12) rfl)) msX6_in mini_RX6 rfl rfl hdX6_in ⟨Nat.le_of_ble_eq_true rfl, Nat.le_of_ble_eq_true rfl⟩) rfl hl.1 rfl (Nat.le_of_ble_eq_true rfl) (by decide) (dk kX6_pile_ok 6 rfl) ?_
  refine b_if_eq (tgt := 25) hx hb (dk kX6_pile_ok 7 rfl) (by decide) (fun h1 => ?_) (fun h1 => ?_)
  · skip
    refine lv_aload_n hx hb (dk kX6_pile_ok 13 rfl) rfl (lv_at hl 0 rfl) ?_
    refine lv_iconst (v := nI 1) hx hb (dk kX6_pile_ok 14 rfl) rfl ?_
    refine cvD (As := [.int (nI 1)]) (rest := []) (rfSet cI ad F k r ps sl sd ne fa bu hs st ln pt (nI 1)) ⟨hx, hb, hml, hown, hts⟩ (tX6_fails l D cI cQ cL ad N (rfSet cI ad F k r ps sl sd ne fa bu hs st ln pt (nI 0)) k hk r ps sl sd ne fa bu hs st ln pt (nI 0) (rfSet_at) (nI 1)) (cwV9 1 hts mcX6_fails (ac20 _ (List.mem_of_getElem? (i := 15) rfl)) miX6_fails meX6_fails mini_RX6 rfl rfl hdX6_fails ⟨Nat.le_of_ble_eq_true rfl, Nat.le_of_ble_eq_true rfl⟩) hDi hK hP hNW hS hk0 rfSet_at.1 rfl rfl hl.1 rfl (Nat.le_of_ble_eq_true rfl) (by decide) (dk kX6_pile_ok 15 rfl) rfSet_rfSet (fun H locs hP hS => ?_)
    exact hret _ _ _ _ _ _ _ _ rfl (by simp (config := { decide := true }) only [dp, tP, pP, h1, bI_1, bI_00, not_true_eq_false, not_false_eq_true, and_true, true_and, and_false, false_and, or_true, true_or, or_false, false_or, and_self, or_self, if_true, if_false, Bool.false_eq_true, reduceIte]; first | done | exact ⟨rfl, rfl⟩ | (simp_all; done)) hP hS (by decide) (by decide) (dk kX6_pile_ok 16 rfl)
  · skip
    refine lv_iload_n hx hb (dk kX6_pile_ok 8 rfl) rfl (lv_at hl 2 rfl) ?_
    refine lv_iconst (v := nI 0) hx hb (dk kX6_pile_ok 9 rfl) rfl ?_
    refine lv_bipush (v := nI 12) hx hb (dk kX6_pile_ok 10 rfl) rfl ?_
    refine csP (As := [.int y, .int (nI 0), .int (nI 12)]) (rest := []) ⟨hx, hb, hml, hown, hts⟩ (tX6_in l y (nI 0) (nI 12)) (cwS9 3 hts mcX6_in (ac19 _ (List.mem_of_getElem? (i := 12) rfl)) msX6_in mini_RX6 rfl rfl hdX6_in ⟨Nat.le_of_ble_eq_true rfl, Nat.le_of_ble_eq_true rfl⟩) rfl hl.1 rfl (Nat.le_of_ble_eq_true rfl) (by decide) (dk kX6_pile_ok 11 rfl) ?_
    refine b_if_ne (tgt := 31) hx hb (dk kX6_pile_ok 12 rfl) (by decide) (fun h2 => ?_) (fun h2 => ?_)
    · skip
      refine lv_iload_n hx hb (dk kX6_pile_ok 17 rfl) rfl (lv_at hl 3 rfl) ?_
      refine lv_iconst (v := nI 0) hx hb (dk kX6_pile_ok 18 rfl) rfl ?_
      refine lv_iconst (v := nI 3) hx hb (dk kX6_pile_ok 19 rfl) rfl ?_
      refine csP (As := [.int z, .int (nI 0), .int (nI 3)]) (rest := []) ⟨hx, hb, hml, hown, hts⟩ (tX6_in l z (nI 0) (nI 3)) (cwS9 3 hts mcX6_in (ac19 _ (List.mem_of_getElem? (i := 12) rfl)) msX6_in mini_RX6 rfl rfl hdX6_in ⟨Nat.le_of_ble_eq_true rfl, Nat.le_of_ble_eq_true rfl⟩) rfl hl.1 rfl (Nat.le_of_ble_eq_true rfl) (by decide) (dk kX6_pile_ok 20 rfl) ?_
      refine b_if_eq (tgt := 54) hx hb (dk kX6_pile_ok 21 rfl) (by decide) (fun h3 => ?_) (fun h3 => ?_)
      · skip
        refine lv_aload_n hx hb (dk kX6_pile_ok 31 rfl) rfl (lv_at hl 0 rfl) ?_
        refine lv_iconst (v := nI 2) hx hb (dk kX6_pile_ok 32 rfl) rfl ?_
        refine cvD (As := [.int (nI 2)]) (rest := []) (rfSet cI ad F k r ps sl sd ne fa bu hs st ln pt (nI 2)) ⟨hx, hb, hml, hown, hts⟩ (tX6_fails l D cI cQ cL ad N (rfSet cI ad F k r ps sl sd ne fa bu hs st ln pt (nI 0)) k hk r ps sl sd ne fa bu hs st ln pt (nI 0) (rfSet_at) (nI 2)) (cwV9 1 hts mcX6_fails (ac20 _ (List.mem_of_getElem? (i := 15) rfl)) miX6_fails meX6_fails mini_RX6 rfl rfl hdX6_fails ⟨Nat.le_of_ble_eq_true rfl, Nat.le_of_ble_eq_true rfl⟩) hDi hK hP hNW hS hk0 rfSet_at.1 rfl rfl hl.1 rfl (Nat.le_of_ble_eq_true rfl) (by decide) (dk kX6_pile_ok 33 rfl) rfSet_rfSet (fun H locs hP hS => ?_)
        exact hret _ _ _ _ _ _ _ _ rfl (by simp (config := { decide := true }) only [dp, tP, pP, h1, h2, h3, bI_1, bI_00, not_true_eq_false, not_false_eq_true, and_true, true_and, and_false, false_and, or_true, true_or, or_false, false_or, and_self, or_self, if_true, if_false, Bool.false_eq_true, reduceIte]; first | done | exact ⟨rfl, rfl⟩ | (simp_all; done)) hP hS (by decide) (by decide) (dk kX6_pile_ok 34 rfl)
      · skip
        refine lv_aload_n hx hb (dk kX6_pile_ok 22 rfl) rfl (lv_at hl 0 rfl) ?_
        refine lv_bipush (v := nI 13) hx hb (dk kX6_pile_ok 23 rfl) rfl ?_
        refine lv_iload_n hx hb (dk kX6_pile_ok 24 rfl) rfl (lv_at hl 2 rfl) ?_
        refine lv_imul hx hb (dk kX6_pile_ok 25 rfl) ?_
        refine lv_iload_n hx hb (dk kX6_pile_ok 26 rfl) rfl (lv_at hl 1 rfl) ?_
        refine lv_iadd hx hb (dk kX6_pile_ok 27 rfl) ?_
        refine lv_iload_n hx hb (dk kX6_pile_ok 28 rfl) rfl (lv_at hl 3 rfl) ?_
        refine cvR (As := [.int (((nI 13) * y) + x), .int z]) (rest := []) ⟨hx, hb, hml, hown, hts⟩ (tX6_ofPile l D cI cQ cL ad N (rfSet cI ad F k r ps sl sd ne fa bu hs st ln pt (nI 0)) k hk r ps sl sd ne fa bu hs st ln pt (nI 0) (rfSet_at) (((nI 13) * y) + x) z (ix z) (btw_eq h3) (by have := btw_le h3; omega)) (cwV9 2 hts mcX6_ofPile (ac22 _ (List.mem_of_getElem? (i := 22) rfl)) miX6_ofPile meX6_ofPile mini_RX6 rfl rfl hdX6_ofPile ⟨Nat.le_of_ble_eq_true rfl, Nat.le_of_ble_eq_true rfl⟩) hK hP hNW hk0 rfSet_at.1 rfl rfl hl.1 rfl (Nat.le_of_ble_eq_true rfl) (by decide) (dk kX6_pile_ok 29 rfl) ?_
        refine lv_goto (tgt := 59) hx hb (dk kX6_pile_ok 30 rfl) (by decide) ?_
        exact hret _ _ _ _ _ _ _ _ rfl (by simp (config := { decide := true }) only [dp, tP, pP, h1, h2, h3, bI_1, bI_00, not_true_eq_false, not_false_eq_true, and_true, true_and, and_false, false_and, or_true, true_or, or_false, false_or, and_self, or_self, if_true, if_false, Bool.false_eq_true, reduceIte]; first | done | exact ⟨rfl, rfl⟩ | (simp_all; done)) hP hS (by decide) (by decide) (dk kX6_pile_ok 34 rfl)
    · skip
      refine lv_aload_n hx hb (dk kX6_pile_ok 13 rfl) rfl (lv_at hl 0 rfl) ?_
      refine lv_iconst (v := nI 1) hx hb (dk kX6_pile_ok 14 rfl) rfl ?_
      refine cvD (As := [.int (nI 1)]) (rest := []) (rfSet cI ad F k r ps sl sd ne fa bu hs st ln pt (nI 1)) ⟨hx, hb, hml, hown, hts⟩ (tX6_fails l D cI cQ cL ad N (rfSet cI ad F k r ps sl sd ne fa bu hs st ln pt (nI 0)) k hk r ps sl sd ne fa bu hs st ln pt (nI 0) (rfSet_at) (nI 1)) (cwV9 1 hts mcX6_fails (ac20 _ (List.mem_of_getElem? (i := 15) rfl)) miX6_fails meX6_fails mini_RX6 rfl rfl hdX6_fails ⟨Nat.le_of_ble_eq_true rfl, Nat.le_of_ble_eq_true rfl⟩) hDi hK hP hNW hS hk0 rfSet_at.1 rfl rfl hl.1 rfl (Nat.le_of_ble_eq_true rfl) (by decide) (dk kX6_pile_ok 15 rfl) rfSet_rfSet (fun H locs hP hS => ?_)
      exact hret _ _ _ _ _ _ _ _ rfl (by simp (config := { decide := true }) only [dp, tP, pP, h1, h2, bI_1, bI_00, not_true_eq_false, not_false_eq_true, and_true, true_and, and_false, false_and, or_true, true_or, or_false, false_or, and_self, or_self, if_true, if_false, Bool.false_eq_true, reduceIte]; first | done | exact ⟨rfl, rfl⟩ | (simp_all; done)) hP hS (by decide) (by decide) (dk kX6_pile_ok 16 rfl)
set_option maxRecDepth 100000 in
set_option maxHeartbeats 4000000 in
theorem tX6_count (l : Launch) (D : va_G) (cI cQ cL : ClassId) (ad : Nat → Nat) (N : Nat) (F : Nat → va_E) (k : Nat) (hk : k + 7 < N) (r ps sl sd ne fa bu : Nat → Int32) (hs : Bool) (st ln pt : Nat) (th : Int32) (hR : rfAt cI ad F k r ps sl sd ne fa bu hs st ln pt th) (x : Int32) : MX l yX6_count (Cond.code yX6_count cX6_count 2 (some .int) :: AW) ({ frames := 5, cells := 0, slots := 0, locals := 109 } : Room) D cI cQ cL ad N F [.ref (ad k), .int x] (dp (some (.int (pN r st x))) (rfSet cI ad F k r ps sl sd ne fa bu hs st ln pt (tN x))) 0 0 := by
  refine mx_i (ty := .int) (by decide +kernel) rfl (Nat.le_of_ble_eq_true rfl) (fun p e s m below meth cd Q ls hx hb hml hown hts hDi hP hK hNW hS hret hl => ?_)
  have hown : s.vm.findClass RX6 = some m.cls := hown
  have hk0 : k < N := by omega
  have hk1 : k + 1 < N := by omega
  have hk2 : k + 2 < N := by omega
  have hk3 : k + 3 < N := by omega
  have hk4 : k + 4 < N := by omega
  have hk5 : k + 5 < N := by omega
  have hk6 : k + 6 < N := by omega
  have hk7 : k + 7 < N := by omega
  have hP : va_P D vwCl (iW ad N (rfSet cI ad F k r ps sl sd ne fa bu hs st ln pt th)) s.heap := by rw [rfSet_self hR]; exact hP
  have hl : lv_has ls 2 [(0, .ref (ad k)), (1, .int x)] := hl
  refine lv_aload_n hx hb (dk kX6_count_ok 0 rfl) rfl (lv_at hl 0 rfl) ?_
  refine lv_iconst (v := nI 0) hx hb (dk kX6_count_ok 1 rfl) rfl ?_
  refine pf (rfSet cI ad F k r ps sl sd ne fa bu hs st ln pt (nI 0)) hx hb hts (fun w h => List.mem_cons_of_mem _ (acX6 w h)) tyX6 tyX6_ok nmX6 hown hK hDi hP hS hk0 rfSet_at.1 rfl 11 (by decide) (hts _ (List.mem_cons_of_mem _ (ac18 _ (List.mem_of_getElem? (i := 4) rfl)))) (fun _ h => h) rfl (ty := .int) rfl rfl rfl (Nat.le_of_ble_eq_true rfl) (dk kX6_count_ok 2 rfl) rfSet_u0 (fun H locs hP hS => ?_)
  refine lv_iload_n hx hb (dk kX6_count_ok 3 rfl) rfl (lv_at hl 1 rfl) ?_
  refine lv_iconst (v := nI 0) hx hb (dk kX6_count_ok 4 rfl) rfl ?_
  refine lv_bipush (v := nI 13) hx hb (dk kX6_count_ok 5 rfl) rfl ?_
  refine csP (As := [.int x, .int (nI 0), .int (nI 13)]) (rest := []) ⟨hx, hb, hml, hown, hts⟩ (tX6_in l x (nI 0) (nI 13)) (cwS9 3 hts mcX6_in (ac19 _ (List.mem_of_getElem? (i := 12) rfl)) msX6_in mini_RX6 rfl rfl hdX6_in ⟨Nat.le_of_ble_eq_true rfl, Nat.le_of_ble_eq_true rfl⟩) rfl hl.1 rfl (Nat.le_of_ble_eq_true rfl) (by decide) (dk kX6_count_ok 6 rfl) ?_
  refine b_if_eq (tgt := 23) hx hb (dk kX6_count_ok 7 rfl) (by decide) (fun h1 => ?_) (fun h1 => ?_)
  · skip
    refine lv_aload_n hx hb (dk kX6_count_ok 12 rfl) rfl (lv_at hl 0 rfl) ?_
    refine lv_iconst (v := nI 1) hx hb (dk kX6_count_ok 13 rfl) rfl ?_
    refine cvD (As := [.int (nI 1)]) (rest := []) (rfSet cI ad F k r ps sl sd ne fa bu hs st ln pt (nI 1)) ⟨hx, hb, hml, hown, hts⟩ (tX6_fails l D cI cQ cL ad N (rfSet cI ad F k r ps sl sd ne fa bu hs st ln pt (nI 0)) k hk r ps sl sd ne fa bu hs st ln pt (nI 0) (rfSet_at) (nI 1)) (cwV9 1 hts mcX6_fails (ac20 _ (List.mem_of_getElem? (i := 15) rfl)) miX6_fails meX6_fails mini_RX6 rfl rfl hdX6_fails ⟨Nat.le_of_ble_eq_true rfl, Nat.le_of_ble_eq_true rfl⟩) hDi hK hP hNW hS hk0 rfSet_at.1 rfl rfl hl.1 rfl (Nat.le_of_ble_eq_true rfl) (by decide) (dk kX6_count_ok 14 rfl) rfSet_rfSet (fun H locs hP hS => ?_)
    exact hret _ _ _ _ _ _ _ _ rfl (by simp (config := { decide := true }) only [dp, tN, pN, h1, bI_1, bI_00, not_true_eq_false, not_false_eq_true, and_true, true_and, and_false, false_and, or_true, true_or, or_false, false_or, and_self, or_self, if_true, if_false, Bool.false_eq_true, reduceIte]; first | done | exact ⟨rfl, rfl⟩ | (simp_all; done)) hP hS (by decide) (by decide) (dk kX6_count_ok 15 rfl)
  · skip
    refine lv_aload_n hx hb (dk kX6_count_ok 8 rfl) rfl (lv_at hl 0 rfl) ?_
    refine lv_iload_n hx hb (dk kX6_count_ok 9 rfl) rfl (lv_at hl 1 rfl) ?_
    refine cvR (As := [.int x]) (rest := []) ⟨hx, hb, hml, hown, hts⟩ (tX6_number l D cI cQ cL ad N (rfSet cI ad F k r ps sl sd ne fa bu hs st ln pt (nI 0)) k hk r ps sl sd ne fa bu hs st ln pt (nI 0) (rfSet_at) x (ix x) (btw_eq h1) (by have := btw_le h1; omega)) (cwV9 1 hts mcX6_number (ac24 _ (List.mem_of_getElem? (i := 6) rfl)) miX6_number meX6_number mini_RX6 rfl rfl hdX6_number ⟨Nat.le_of_ble_eq_true rfl, Nat.le_of_ble_eq_true rfl⟩) hK hP hNW hk0 rfSet_at.1 rfl rfl hl.1 rfl (Nat.le_of_ble_eq_true rfl) (by decide) (dk kX6_count_ok 10 rfl) ?_
    refine lv_goto (tgt := 28) hx hb (dk kX6_count_ok 11 rfl) (by decide) ?_
    exact hret _ _ _ _ _ _ _ _ rfl (by simp (config := { decide := true }) only [dp, tN, pN, h1, bI_1, bI_00, not_true_eq_false, not_false_eq_true, and_true, true_and, and_false, false_and, or_true, true_or, or_false, false_or, and_self, or_self, if_true, if_false, Bool.false_eq_true, reduceIte]; first | done | exact ⟨rfl, rfl⟩ | (simp_all; done)) hP hS (by decide) (by decide) (dk kX6_count_ok 15 rfl)
set_option maxRecDepth 100000 in
set_option maxHeartbeats 4000000 in
theorem tX6_why (l : Launch) (D : va_G) (cI cQ cL : ClassId) (ad : Nat → Nat) (N : Nat) (F : Nat → va_E) (k : Nat) (hk : k + 7 < N) (r ps sl sd ne fa bu : Nat → Int32) (hs : Bool) (st ln pt : Nat) (th : Int32) (hR : rfAt cI ad F k r ps sl sd ne fa bu hs st ln pt th) (x y z z2 : Int32) : MX l yX6_why (Cond.code yX6_why cX6_why 5 (some .int) :: AW) ({ frames := 4, cells := 0, slots := 0, locals := 88 } : Room) D cI cQ cL ad N F [.ref (ad k), .int x, .int y, .int z, .int z2] (dp (some (.int (pY r x y z z2))) (rfSet cI ad F k r ps sl sd ne fa bu hs st ln pt (tY x y z z2))) 0 0 := by
  refine mx_i (ty := .int) (by decide +kernel) rfl (Nat.le_of_ble_eq_true rfl) (fun p e s m below meth cd Q ls hx hb hml hown hts hDi hP hK hNW hS hret hl => ?_)
  have hown : s.vm.findClass RX6 = some m.cls := hown
  have hk0 : k < N := by omega
  have hk1 : k + 1 < N := by omega
  have hk2 : k + 2 < N := by omega
  have hk3 : k + 3 < N := by omega
  have hk4 : k + 4 < N := by omega
  have hk5 : k + 5 < N := by omega
  have hk6 : k + 6 < N := by omega
  have hk7 : k + 7 < N := by omega
  have hP : va_P D vwCl (iW ad N (rfSet cI ad F k r ps sl sd ne fa bu hs st ln pt th)) s.heap := by rw [rfSet_self hR]; exact hP
  have hl : lv_has ls 5 [(0, .ref (ad k)), (1, .int x), (2, .int y), (3, .int z), (4, .int z2)] := hl
  refine lv_aload_n hx hb (dk kX6_why_ok 0 rfl) rfl (lv_at hl 0 rfl) ?_
  refine lv_iconst (v := nI 0) hx hb (dk kX6_why_ok 1 rfl) rfl ?_
  refine pf (rfSet cI ad F k r ps sl sd ne fa bu hs st ln pt (nI 0)) hx hb hts (fun w h => List.mem_cons_of_mem _ (acX6 w h)) tyX6 tyX6_ok nmX6 hown hK hDi hP hS hk0 rfSet_at.1 rfl 11 (by decide) (hts _ (List.mem_cons_of_mem _ (ac18 _ (List.mem_of_getElem? (i := 4) rfl)))) (fun _ h => h) rfl (ty := .int) rfl rfl rfl (Nat.le_of_ble_eq_true rfl) (dk kX6_why_ok 2 rfl) rfSet_u0 (fun H locs hP hS => ?_)
  refine lv_iload_n hx hb (dk kX6_why_ok 3 rfl) rfl (lv_at hl 1 rfl) ?_
  refine lv_iconst (v := nI 0) hx hb (dk kX6_why_ok 4 rfl) rfl ?_
  refine lv_bipush (v := nI 12) hx hb (dk kX6_why_ok 5 rfl) rfl ?_
  refine csP (As := [.int x, .int (nI 0), .int (nI 12)]) (rest := []) ⟨hx, hb, hml, hown, hts⟩ (tX6_in l x (nI 0) (nI 12)) (cwS9 3 hts mcX6_in (ac19 _ (List.mem_of_getElem? (i := 12) rfl)) msX6_in mini_RX6 rfl rfl hdX6_in ⟨Nat.le_of_ble_eq_true rfl, Nat.le_of_ble_eq_true rfl⟩) rfl hl.1 rfl (Nat.le_of_ble_eq_true rfl) (by decide) (dk kX6_why_ok 6 rfl) ?_
  refine b_if_eq (tgt := 25) hx hb (dk kX6_why_ok 7 rfl) (by decide) (fun h1 => ?_) (fun h1 => ?_)
  · skip
    refine lv_aload_n hx hb (dk kX6_why_ok 13 rfl) rfl (lv_at hl 0 rfl) ?_
    refine lv_iconst (v := nI 1) hx hb (dk kX6_why_ok 14 rfl) rfl ?_
    refine cvD (As := [.int (nI 1)]) (rest := []) (rfSet cI ad F k r ps sl sd ne fa bu hs st ln pt (nI 1)) ⟨hx, hb, hml, hown, hts⟩ (tX6_fails l D cI cQ cL ad N (rfSet cI ad F k r ps sl sd ne fa bu hs st ln pt (nI 0)) k hk r ps sl sd ne fa bu hs st ln pt (nI 0) (rfSet_at) (nI 1)) (cwV9 1 hts mcX6_fails (ac20 _ (List.mem_of_getElem? (i := 15) rfl)) miX6_fails meX6_fails mini_RX6 rfl rfl hdX6_fails ⟨Nat.le_of_ble_eq_true rfl, Nat.le_of_ble_eq_true rfl⟩) hDi hK hP hNW hS hk0 rfSet_at.1 rfl rfl hl.1 rfl (Nat.le_of_ble_eq_true rfl) (by decide) (dk kX6_why_ok 15 rfl) rfSet_rfSet (fun H locs hP hS => ?_)
    exact hret _ _ _ _ _ _ _ _ rfl (by simp (config := { decide := true }) only [dp, tY, pY, h1, bI_1, bI_00, not_true_eq_false, not_false_eq_true, and_true, true_and, and_false, false_and, or_true, true_or, or_false, false_or, and_self, or_self, if_true, if_false, Bool.false_eq_true, reduceIte]; first | done | exact ⟨rfl, rfl⟩ | (simp_all; done)) hP hS (by decide) (by decide) (dk kX6_why_ok 16 rfl)
  · skip
    refine lv_iload_n hx hb (dk kX6_why_ok 8 rfl) rfl (lv_at hl 2 rfl) ?_
    refine lv_iconst (v := nI 0) hx hb (dk kX6_why_ok 9 rfl) rfl ?_
    refine lv_bipush (v := nI 12) hx hb (dk kX6_why_ok 10 rfl) rfl ?_
    refine csP (As := [.int y, .int (nI 0), .int (nI 12)]) (rest := []) ⟨hx, hb, hml, hown, hts⟩ (tX6_in l y (nI 0) (nI 12)) (cwS9 3 hts mcX6_in (ac19 _ (List.mem_of_getElem? (i := 12) rfl)) msX6_in mini_RX6 rfl rfl hdX6_in ⟨Nat.le_of_ble_eq_true rfl, Nat.le_of_ble_eq_true rfl⟩) rfl hl.1 rfl (Nat.le_of_ble_eq_true rfl) (by decide) (dk kX6_why_ok 11 rfl) ?_
    refine b_if_ne (tgt := 31) hx hb (dk kX6_why_ok 12 rfl) (by decide) (fun h2 => ?_) (fun h2 => ?_)
    · skip
      refine lv_iload_n hx hb (dk kX6_why_ok 17 rfl) rfl (lv_at hl 3 rfl) ?_
      refine lv_iconst (v := nI 1) hx hb (dk kX6_why_ok 18 rfl) rfl ?_
      refine lv_bipush (v := nI 6) hx hb (dk kX6_why_ok 19 rfl) rfl ?_
      refine csP (As := [.int z, .int (nI 1), .int (nI 6)]) (rest := []) ⟨hx, hb, hml, hown, hts⟩ (tX6_in l z (nI 1) (nI 6)) (cwS9 3 hts mcX6_in (ac19 _ (List.mem_of_getElem? (i := 12) rfl)) msX6_in mini_RX6 rfl rfl hdX6_in ⟨Nat.le_of_ble_eq_true rfl, Nat.le_of_ble_eq_true rfl⟩) rfl hl.1 rfl (Nat.le_of_ble_eq_true rfl) (by decide) (dk kX6_why_ok 20 rfl) ?_
      refine b_if_eq (tgt := 68) hx hb (dk kX6_why_ok 21 rfl) (by decide) (fun h3 => ?_) (fun h3 => ?_)
      · skip
        refine lv_aload_n hx hb (dk kX6_why_ok 37 rfl) rfl (lv_at hl 0 rfl) ?_
        refine lv_iconst (v := nI 2) hx hb (dk kX6_why_ok 38 rfl) rfl ?_
        refine cvD (As := [.int (nI 2)]) (rest := []) (rfSet cI ad F k r ps sl sd ne fa bu hs st ln pt (nI 2)) ⟨hx, hb, hml, hown, hts⟩ (tX6_fails l D cI cQ cL ad N (rfSet cI ad F k r ps sl sd ne fa bu hs st ln pt (nI 0)) k hk r ps sl sd ne fa bu hs st ln pt (nI 0) (rfSet_at) (nI 2)) (cwV9 1 hts mcX6_fails (ac20 _ (List.mem_of_getElem? (i := 15) rfl)) miX6_fails meX6_fails mini_RX6 rfl rfl hdX6_fails ⟨Nat.le_of_ble_eq_true rfl, Nat.le_of_ble_eq_true rfl⟩) hDi hK hP hNW hS hk0 rfSet_at.1 rfl rfl hl.1 rfl (Nat.le_of_ble_eq_true rfl) (by decide) (dk kX6_why_ok 39 rfl) rfSet_rfSet (fun H locs hP hS => ?_)
        exact hret _ _ _ _ _ _ _ _ rfl (by simp (config := { decide := true }) only [dp, tY, pY, h1, h2, h3, bI_1, bI_00, not_true_eq_false, not_false_eq_true, and_true, true_and, and_false, false_and, or_true, true_or, or_false, false_or, and_self, or_self, if_true, if_false, Bool.false_eq_true, reduceIte]; first | done | exact ⟨rfl, rfl⟩ | (simp_all; done)) hP hS (by decide) (by decide) (dk kX6_why_ok 40 rfl)
      · skip
        refine lv_iload hx hb (dk kX6_why_ok 22 rfl) (lv_at hl 4 rfl) ?_
        refine lv_iconst (v := nI 0) hx hb (dk kX6_why_ok 23 rfl) rfl ?_
        refine lv_bipush (v := nI 7) hx hb (dk kX6_why_ok 24 rfl) rfl ?_
        refine csP (As := [.int z2, .int (nI 0), .int (nI 7)]) (rest := []) ⟨hx, hb, hml, hown, hts⟩ (tX6_in l z2 (nI 0) (nI 7)) (cwS9 3 hts mcX6_in (ac19 _ (List.mem_of_getElem? (i := 12) rfl)) msX6_in mini_RX6 rfl rfl hdX6_in ⟨Nat.le_of_ble_eq_true rfl, Nat.le_of_ble_eq_true rfl⟩) rfl hl.1 rfl (Nat.le_of_ble_eq_true rfl) (by decide) (dk kX6_why_ok 25 rfl) ?_
        refine b_if_eq (tgt := 68) hx hb (dk kX6_why_ok 26 rfl) (by decide) (fun h4 => ?_) (fun h4 => ?_)
        · skip
          refine lv_aload_n hx hb (dk kX6_why_ok 37 rfl) rfl (lv_at hl 0 rfl) ?_
          refine lv_iconst (v := nI 2) hx hb (dk kX6_why_ok 38 rfl) rfl ?_
          refine cvD (As := [.int (nI 2)]) (rest := []) (rfSet cI ad F k r ps sl sd ne fa bu hs st ln pt (nI 2)) ⟨hx, hb, hml, hown, hts⟩ (tX6_fails l D cI cQ cL ad N (rfSet cI ad F k r ps sl sd ne fa bu hs st ln pt (nI 0)) k hk r ps sl sd ne fa bu hs st ln pt (nI 0) (rfSet_at) (nI 2)) (cwV9 1 hts mcX6_fails (ac20 _ (List.mem_of_getElem? (i := 15) rfl)) miX6_fails meX6_fails mini_RX6 rfl rfl hdX6_fails ⟨Nat.le_of_ble_eq_true rfl, Nat.le_of_ble_eq_true rfl⟩) hDi hK hP hNW hS hk0 rfSet_at.1 rfl rfl hl.1 rfl (Nat.le_of_ble_eq_true rfl) (by decide) (dk kX6_why_ok 39 rfl) rfSet_rfSet (fun H locs hP hS => ?_)
          exact hret _ _ _ _ _ _ _ _ rfl (by simp (config := { decide := true }) only [dp, tY, pY, h1, h2, h3, h4, bI_1, bI_00, not_true_eq_false, not_false_eq_true, and_true, true_and, and_false, false_and, or_true, true_or, or_false, false_or, and_self, or_self, if_true, if_false, Bool.false_eq_true, reduceIte]; first | done | exact ⟨rfl, rfl⟩ | (simp_all; done)) hP hS (by decide) (by decide) (dk kX6_why_ok 40 rfl)
        · skip
          refine lv_aload_n hx hb (dk kX6_why_ok 27 rfl) rfl (lv_at hl 0 rfl) ?_
          refine lv_bipush (v := nI 13) hx hb (dk kX6_why_ok 28 rfl) rfl ?_
          refine lv_iload_n hx hb (dk kX6_why_ok 29 rfl) rfl (lv_at hl 2 rfl) ?_
          refine lv_imul hx hb (dk kX6_why_ok 30 rfl) ?_
          refine lv_iload_n hx hb (dk kX6_why_ok 31 rfl) rfl (lv_at hl 1 rfl) ?_
          refine lv_iadd hx hb (dk kX6_why_ok 32 rfl) ?_
          refine lv_iload_n hx hb (dk kX6_why_ok 33 rfl) rfl (lv_at hl 3 rfl) ?_
          refine lv_iload hx hb (dk kX6_why_ok 34 rfl) (lv_at hl 4 rfl) ?_
          refine cvR (As := [.int (((nI 13) * y) + x), .int z, .int z2]) (rest := []) ⟨hx, hb, hml, hown, hts⟩ (tX6_whyNotLifted l D cI cQ cL ad N (rfSet cI ad F k r ps sl sd ne fa bu hs st ln pt (nI 0)) k hk r ps sl sd ne fa bu hs st ln pt (nI 0) (rfSet_at) (((nI 13) * y) + x) (13 * ix y + ix x) (cell_eq h2 h1) (cell_lt h2 h1) z (ix z) (btw_eq h3) (by have := btw_le h3; omega) z2 (ix z2) (btw_eq h4) (by have := btw_le h4; omega)) (cwV9 3 hts mcX6_whyNotLifted (ac21 _ (List.mem_of_getElem? (i := 7) rfl)) miX6_whyNotLifted meX6_whyNotLifted mini_RX6 rfl rfl hdX6_whyNotLifted ⟨Nat.le_of_ble_eq_true rfl, Nat.le_of_ble_eq_true rfl⟩) hK hP hNW hk0 rfSet_at.1 rfl rfl hl.1 rfl (Nat.le_of_ble_eq_true rfl) (by decide) (dk kX6_why_ok 35 rfl) ?_
          refine lv_goto (tgt := 73) hx hb (dk kX6_why_ok 36 rfl) (by decide) ?_
          exact hret _ _ _ _ _ _ _ _ rfl (by simp (config := { decide := true }) only [dp, tY, pY, h1, h2, h3, h4, bI_1, bI_00, not_true_eq_false, not_false_eq_true, and_true, true_and, and_false, false_and, or_true, true_or, or_false, false_or, and_self, or_self, if_true, if_false, Bool.false_eq_true, reduceIte]; first | done | exact ⟨rfl, rfl⟩ | (simp_all; done)) hP hS (by decide) (by decide) (dk kX6_why_ok 40 rfl)
    · skip
      refine lv_aload_n hx hb (dk kX6_why_ok 13 rfl) rfl (lv_at hl 0 rfl) ?_
      refine lv_iconst (v := nI 1) hx hb (dk kX6_why_ok 14 rfl) rfl ?_
      refine cvD (As := [.int (nI 1)]) (rest := []) (rfSet cI ad F k r ps sl sd ne fa bu hs st ln pt (nI 1)) ⟨hx, hb, hml, hown, hts⟩ (tX6_fails l D cI cQ cL ad N (rfSet cI ad F k r ps sl sd ne fa bu hs st ln pt (nI 0)) k hk r ps sl sd ne fa bu hs st ln pt (nI 0) (rfSet_at) (nI 1)) (cwV9 1 hts mcX6_fails (ac20 _ (List.mem_of_getElem? (i := 15) rfl)) miX6_fails meX6_fails mini_RX6 rfl rfl hdX6_fails ⟨Nat.le_of_ble_eq_true rfl, Nat.le_of_ble_eq_true rfl⟩) hDi hK hP hNW hS hk0 rfSet_at.1 rfl rfl hl.1 rfl (Nat.le_of_ble_eq_true rfl) (by decide) (dk kX6_why_ok 15 rfl) rfSet_rfSet (fun H locs hP hS => ?_)
      exact hret _ _ _ _ _ _ _ _ rfl (by simp (config := { decide := true }) only [dp, tY, pY, h1, h2, bI_1, bI_00, not_true_eq_false, not_false_eq_true, and_true, true_and, and_false, false_and, or_true, true_or, or_false, false_or, and_self, or_self, if_true, if_false, Bool.false_eq_true, reduceIte]; first | done | exact ⟨rfl, rfl⟩ | (simp_all; done)) hP hS (by decide) (by decide) (dk kX6_why_ok 16 rfl)
set_option maxRecDepth 100000 in
set_option maxHeartbeats 4000000 in
theorem tX6_lands (l : Launch) (D : va_G) (cI cQ cL : ClassId) (ad : Nat → Nat) (N : Nat) (F : Nat → va_E) (k : Nat) (hk : k + 7 < N) (r ps sl sd ne fa bu : Nat → Int32) (hs : Bool) (st ln pt : Nat) (th : Int32) (hR : rfAt cI ad F k r ps sl sd ne fa bu hs st ln pt th) (x y z : Int32) (hrk : rok r) : MX l yX6_lands (Cond.code yX6_lands cX6_lands 4 (some .int) :: AW) ({ frames := 3, cells := 0, slots := 0, locals := 73 } : Room) D cI cQ cL ad N F [.ref (ad k), .int x, .int y, .int z] (dp (some (.int (pL r x y z))) (rfSet cI ad F k r ps sl sd ne fa bu hs st ln pt (tL x y z))) 0 0 := by
  refine mx_i (ty := .int) (by decide +kernel) rfl (Nat.le_of_ble_eq_true rfl) (fun p e s m below meth cd Q ls hx hb hml hown hts hDi hP hK hNW hS hret hl => ?_)
  have hown : s.vm.findClass RX6 = some m.cls := hown
  have hk0 : k < N := by omega
  have hk1 : k + 1 < N := by omega
  have hk2 : k + 2 < N := by omega
  have hk3 : k + 3 < N := by omega
  have hk4 : k + 4 < N := by omega
  have hk5 : k + 5 < N := by omega
  have hk6 : k + 6 < N := by omega
  have hk7 : k + 7 < N := by omega
  have hP : va_P D vwCl (iW ad N (rfSet cI ad F k r ps sl sd ne fa bu hs st ln pt th)) s.heap := by rw [rfSet_self hR]; exact hP
  have hl : lv_has ls 4 [(0, .ref (ad k)), (1, .int x), (2, .int y), (3, .int z)] := hl
  refine lv_aload_n hx hb (dk kX6_lands_ok 0 rfl) rfl (lv_at hl 0 rfl) ?_
  refine lv_iconst (v := nI 0) hx hb (dk kX6_lands_ok 1 rfl) rfl ?_
  refine pf (rfSet cI ad F k r ps sl sd ne fa bu hs st ln pt (nI 0)) hx hb hts (fun w h => List.mem_cons_of_mem _ (acX6 w h)) tyX6 tyX6_ok nmX6 hown hK hDi hP hS hk0 rfSet_at.1 rfl 11 (by decide) (hts _ (List.mem_cons_of_mem _ (ac18 _ (List.mem_of_getElem? (i := 4) rfl)))) (fun _ h => h) rfl (ty := .int) rfl rfl rfl (Nat.le_of_ble_eq_true rfl) (dk kX6_lands_ok 2 rfl) rfSet_u0 (fun H locs hP hS => ?_)
  refine lv_iload_n hx hb (dk kX6_lands_ok 3 rfl) rfl (lv_at hl 1 rfl) ?_
  refine lv_iconst (v := nI 0) hx hb (dk kX6_lands_ok 4 rfl) rfl ?_
  refine lv_bipush (v := nI 15) hx hb (dk kX6_lands_ok 5 rfl) rfl ?_
  refine csP (As := [.int x, .int (nI 0), .int (nI 15)]) (rest := []) ⟨hx, hb, hml, hown, hts⟩ (tX6_in l x (nI 0) (nI 15)) (cwS9 3 hts mcX6_in (ac19 _ (List.mem_of_getElem? (i := 12) rfl)) msX6_in mini_RX6 rfl rfl hdX6_in ⟨Nat.le_of_ble_eq_true rfl, Nat.le_of_ble_eq_true rfl⟩) rfl hl.1 rfl (Nat.le_of_ble_eq_true rfl) (by decide) (dk kX6_lands_ok 6 rfl) ?_
  refine b_if_ne (tgt := 21) hx hb (dk kX6_lands_ok 7 rfl) (by decide) (fun h1 => ?_) (fun h1 => ?_)
  · skip
    refine lv_iload_n hx hb (dk kX6_lands_ok 12 rfl) rfl (lv_at hl 2 rfl) ?_
    refine lv_iconst (v := nI 0) hx hb (dk kX6_lands_ok 13 rfl) rfl ?_
    refine lv_bipush (v := nI 7) hx hb (dk kX6_lands_ok 14 rfl) rfl ?_
    refine csP (As := [.int y, .int (nI 0), .int (nI 7)]) (rest := []) ⟨hx, hb, hml, hown, hts⟩ (tX6_in l y (nI 0) (nI 7)) (cwS9 3 hts mcX6_in (ac19 _ (List.mem_of_getElem? (i := 12) rfl)) msX6_in mini_RX6 rfl rfl hdX6_in ⟨Nat.le_of_ble_eq_true rfl, Nat.le_of_ble_eq_true rfl⟩) rfl hl.1 rfl (Nat.le_of_ble_eq_true rfl) (by decide) (dk kX6_lands_ok 15 rfl) ?_
    refine b_if_eq (tgt := 51) hx hb (dk kX6_lands_ok 16 rfl) (by decide) (fun h2 => ?_) (fun h2 => ?_)
    · skip
      refine lv_aload_n hx hb (dk kX6_lands_ok 28 rfl) rfl (lv_at hl 0 rfl) ?_
      refine lv_iconst (v := nI 2) hx hb (dk kX6_lands_ok 29 rfl) rfl ?_
      refine cvD (As := [.int (nI 2)]) (rest := []) (rfSet cI ad F k r ps sl sd ne fa bu hs st ln pt (nI 2)) ⟨hx, hb, hml, hown, hts⟩ (tX6_fails l D cI cQ cL ad N (rfSet cI ad F k r ps sl sd ne fa bu hs st ln pt (nI 0)) k hk r ps sl sd ne fa bu hs st ln pt (nI 0) (rfSet_at) (nI 2)) (cwV9 1 hts mcX6_fails (ac20 _ (List.mem_of_getElem? (i := 15) rfl)) miX6_fails meX6_fails mini_RX6 rfl rfl hdX6_fails ⟨Nat.le_of_ble_eq_true rfl, Nat.le_of_ble_eq_true rfl⟩) hDi hK hP hNW hS hk0 rfSet_at.1 rfl rfl hl.1 rfl (Nat.le_of_ble_eq_true rfl) (by decide) (dk kX6_lands_ok 30 rfl) rfSet_rfSet (fun H locs hP hS => ?_)
      exact hret _ _ _ _ _ _ _ _ rfl (by simp (config := { decide := true }) only [dp, tL, pL, h1, h2, bI_1, bI_00, not_true_eq_false, not_false_eq_true, and_true, true_and, and_false, false_and, or_true, true_or, or_false, false_or, and_self, or_self, if_true, if_false, Bool.false_eq_true, reduceIte]; first | done | exact ⟨rfl, rfl⟩ | (simp_all; done)) hP hS (by decide) (by decide) (dk kX6_lands_ok 31 rfl)
    · skip
      refine lv_iload_n hx hb (dk kX6_lands_ok 17 rfl) rfl (lv_at hl 3 rfl) ?_
      refine lv_iconst (v := nI 1) hx hb (dk kX6_lands_ok 18 rfl) rfl ?_
      refine lv_bipush (v := nI 9) hx hb (dk kX6_lands_ok 19 rfl) rfl ?_
      refine csP (As := [.int z, .int (nI 1), .int (nI 9)]) (rest := []) ⟨hx, hb, hml, hown, hts⟩ (tX6_in l z (nI 1) (nI 9)) (cwS9 3 hts mcX6_in (ac19 _ (List.mem_of_getElem? (i := 12) rfl)) msX6_in mini_RX6 rfl rfl hdX6_in ⟨Nat.le_of_ble_eq_true rfl, Nat.le_of_ble_eq_true rfl⟩) rfl hl.1 rfl (Nat.le_of_ble_eq_true rfl) (by decide) (dk kX6_lands_ok 20 rfl) ?_
      refine b_if_eq (tgt := 51) hx hb (dk kX6_lands_ok 21 rfl) (by decide) (fun h3 => ?_) (fun h3 => ?_)
      · skip
        refine lv_aload_n hx hb (dk kX6_lands_ok 28 rfl) rfl (lv_at hl 0 rfl) ?_
        refine lv_iconst (v := nI 2) hx hb (dk kX6_lands_ok 29 rfl) rfl ?_
        refine cvD (As := [.int (nI 2)]) (rest := []) (rfSet cI ad F k r ps sl sd ne fa bu hs st ln pt (nI 2)) ⟨hx, hb, hml, hown, hts⟩ (tX6_fails l D cI cQ cL ad N (rfSet cI ad F k r ps sl sd ne fa bu hs st ln pt (nI 0)) k hk r ps sl sd ne fa bu hs st ln pt (nI 0) (rfSet_at) (nI 2)) (cwV9 1 hts mcX6_fails (ac20 _ (List.mem_of_getElem? (i := 15) rfl)) miX6_fails meX6_fails mini_RX6 rfl rfl hdX6_fails ⟨Nat.le_of_ble_eq_true rfl, Nat.le_of_ble_eq_true rfl⟩) hDi hK hP hNW hS hk0 rfSet_at.1 rfl rfl hl.1 rfl (Nat.le_of_ble_eq_true rfl) (by decide) (dk kX6_lands_ok 30 rfl) rfSet_rfSet (fun H locs hP hS => ?_)
        exact hret _ _ _ _ _ _ _ _ rfl (by simp (config := { decide := true }) only [dp, tL, pL, h1, h2, h3, bI_1, bI_00, not_true_eq_false, not_false_eq_true, and_true, true_and, and_false, false_and, or_true, true_or, or_false, false_or, and_self, or_self, if_true, if_false, Bool.false_eq_true, reduceIte]; first | done | exact ⟨rfl, rfl⟩ | (simp_all; done)) hP hS (by decide) (by decide) (dk kX6_lands_ok 31 rfl)
      · skip
        refine lv_aload_n hx hb (dk kX6_lands_ok 22 rfl) rfl (lv_at hl 0 rfl) ?_
        refine lv_iload_n hx hb (dk kX6_lands_ok 23 rfl) rfl (lv_at hl 1 rfl) ?_
        refine lv_iload_n hx hb (dk kX6_lands_ok 24 rfl) rfl (lv_at hl 2 rfl) ?_
        refine lv_iload_n hx hb (dk kX6_lands_ok 25 rfl) rfl (lv_at hl 3 rfl) ?_
        refine cvR (As := [.int x, .int y, .int z]) (rest := []) ⟨hx, hb, hml, hown, hts⟩ (tX6_landing l D cI cQ cL ad N (rfSet cI ad F k r ps sl sd ne fa bu hs st ln pt (nI 0)) k hk r ps sl sd ne fa bu hs st ln pt (nI 0) (rfSet_at) x (ix x) (btw_eq h1) (by have := btw_le h1; omega) y (ix y) (btw_eq h2) (by have := btw_le h2; omega) z (ix z) (btw_eq h3) (by have := btw_le h3; omega) (fun h9 => hrk.2.2.1 (ix x) (by have bh1 := btw_le h1; have bh2 := btw_le h2; have bh3 := btw_le h3; omega) h9)) (cwV9 3 hts mcX6_landing (ac24 _ (List.mem_of_getElem? (i := 10) rfl)) miX6_landing meX6_landing mini_RX6 rfl rfl hdX6_landing ⟨Nat.le_of_ble_eq_true rfl, Nat.le_of_ble_eq_true rfl⟩) hK hP hNW hk0 rfSet_at.1 rfl rfl hl.1 rfl (Nat.le_of_ble_eq_true rfl) (by decide) (dk kX6_lands_ok 26 rfl) ?_
        refine lv_goto (tgt := 56) hx hb (dk kX6_lands_ok 27 rfl) (by decide) ?_
        exact hret _ _ _ _ _ _ _ _ rfl (by simp (config := { decide := true }) only [dp, tL, pL, h1, h2, h3, bI_1, bI_00, not_true_eq_false, not_false_eq_true, and_true, true_and, and_false, false_and, or_true, true_or, or_false, false_or, and_self, or_self, if_true, if_false, Bool.false_eq_true, reduceIte]; first | done | exact ⟨rfl, rfl⟩ | (simp_all; done)) hP hS (by decide) (by decide) (dk kX6_lands_ok 31 rfl)
  · skip
    refine lv_aload_n hx hb (dk kX6_lands_ok 8 rfl) rfl (lv_at hl 0 rfl) ?_
    refine lv_iconst (v := nI 1) hx hb (dk kX6_lands_ok 9 rfl) rfl ?_
    refine cvD (As := [.int (nI 1)]) (rest := []) (rfSet cI ad F k r ps sl sd ne fa bu hs st ln pt (nI 1)) ⟨hx, hb, hml, hown, hts⟩ (tX6_fails l D cI cQ cL ad N (rfSet cI ad F k r ps sl sd ne fa bu hs st ln pt (nI 0)) k hk r ps sl sd ne fa bu hs st ln pt (nI 0) (rfSet_at) (nI 1)) (cwV9 1 hts mcX6_fails (ac20 _ (List.mem_of_getElem? (i := 15) rfl)) miX6_fails meX6_fails mini_RX6 rfl rfl hdX6_fails ⟨Nat.le_of_ble_eq_true rfl, Nat.le_of_ble_eq_true rfl⟩) hDi hK hP hNW hS hk0 rfSet_at.1 rfl rfl hl.1 rfl (Nat.le_of_ble_eq_true rfl) (by decide) (dk kX6_lands_ok 10 rfl) rfSet_rfSet (fun H locs hP hS => ?_)
    exact hret _ _ _ _ _ _ _ _ rfl (by simp (config := { decide := true }) only [dp, tL, pL, h1, bI_1, bI_00, not_true_eq_false, not_false_eq_true, and_true, true_and, and_false, false_and, or_true, true_or, or_false, false_or, and_self, or_self, if_true, if_false, Bool.false_eq_true, reduceIte]; first | done | exact ⟨rfl, rfl⟩ | (simp_all; done)) hP hS (by decide) (by decide) (dk kX6_lands_ok 11 rfl)
set_option maxRecDepth 100000 in
set_option maxHeartbeats 4000000 in
theorem tX6_fly (l : Launch) (D : va_G) (cI cQ cL : ClassId) (ad : Nat → Nat) (N : Nat) (F : Nat → va_E) (k : Nat) (hk : k + 7 < N) (r ps sl sd ne fa bu : Nat → Int32) (hs : Bool) (st ln pt : Nat) (th : Int32) (hR : rfAt cI ad F k r ps sl sd ne fa bu hs st ln pt th) (x y z : Int32) (hst6 : st ≤ 6) (hrk : rok r) : MX l yX6_fly (Cond.code yX6_fly cX6_fly 4 (some .int) :: AW) ({ frames := 5, cells := 0, slots := 0, locals := 109 } : Room) D cI cQ cL ad N F [.ref (ad k), .int x, .int y, .int z] (dp (some (.int (if gF r x y z = true then fans (ldg (r (ix x)) (nI (ix y)) (stp (ix x) (ix z))) else nI 0))) (rfSet cI ad F k (if gF r x y z = true then rfx r (ix x) (ldg (r (ix x)) (nI (ix y)) (stp (ix x) (ix z))) (ix (r 56)) else r) (if gF r x y z = true then rcP ps r st else ps) sl sd ne fa bu hs (if gF r x y z = true then rcS st else st) ln pt (tF r x y z))) 0 0 := by
  refine mx_i (ty := .int) (by decide +kernel) rfl (Nat.le_of_ble_eq_true rfl) (fun p e s m below meth cd Q ls hx hb hml hown hts hDi hP hK hNW hS hret hl => ?_)
  have hown : s.vm.findClass RX6 = some m.cls := hown
  have hk0 : k < N := by omega
  have hk1 : k + 1 < N := by omega
  have hk2 : k + 2 < N := by omega
  have hk3 : k + 3 < N := by omega
  have hk4 : k + 4 < N := by omega
  have hk5 : k + 5 < N := by omega
  have hk6 : k + 6 < N := by omega
  have hk7 : k + 7 < N := by omega
  have hP : va_P D vwCl (iW ad N (rfSet cI ad F k r ps sl sd ne fa bu hs st ln pt th)) s.heap := by rw [rfSet_self hR]; exact hP
  have hl : lv_has ls 4 [(0, .ref (ad k)), (1, .int x), (2, .int y), (3, .int z)] := hl
  refine lv_aload_n hx hb (dk kX6_fly_ok 0 rfl) rfl (lv_at hl 0 rfl) ?_
  refine lv_iconst (v := nI 0) hx hb (dk kX6_fly_ok 1 rfl) rfl ?_
  refine pf (rfSet cI ad F k r ps sl sd ne fa bu hs st ln pt (nI 0)) hx hb hts (fun w h => List.mem_cons_of_mem _ (acX6 w h)) tyX6 tyX6_ok nmX6 hown hK hDi hP hS hk0 rfSet_at.1 rfl 11 (by decide) (hts _ (List.mem_cons_of_mem _ (ac18 _ (List.mem_of_getElem? (i := 4) rfl)))) (fun _ h => h) rfl (ty := .int) rfl rfl rfl (Nat.le_of_ble_eq_true rfl) (dk kX6_fly_ok 2 rfl) rfSet_u0 (fun H locs hP hS => ?_)
  refine lv_iload_n hx hb (dk kX6_fly_ok 3 rfl) rfl (lv_at hl 1 rfl) ?_
  refine lv_iconst (v := nI 0) hx hb (dk kX6_fly_ok 4 rfl) rfl ?_
  refine lv_bipush (v := nI 15) hx hb (dk kX6_fly_ok 5 rfl) rfl ?_
  refine csP (As := [.int x, .int (nI 0), .int (nI 15)]) (rest := []) ⟨hx, hb, hml, hown, hts⟩ (tX6_in l x (nI 0) (nI 15)) (cwS9 3 hts mcX6_in (ac19 _ (List.mem_of_getElem? (i := 12) rfl)) msX6_in mini_RX6 rfl rfl hdX6_in ⟨Nat.le_of_ble_eq_true rfl, Nat.le_of_ble_eq_true rfl⟩) rfl hl.1 rfl (Nat.le_of_ble_eq_true rfl) (by decide) (dk kX6_fly_ok 6 rfl) ?_
  refine b_if_ne (tgt := 21) hx hb (dk kX6_fly_ok 7 rfl) (by decide) (fun h1 => ?_) (fun h1 => ?_)
  · skip
    refine lv_iload_n hx hb (dk kX6_fly_ok 12 rfl) rfl (lv_at hl 2 rfl) ?_
    refine lv_iconst (v := nI 0) hx hb (dk kX6_fly_ok 13 rfl) rfl ?_
    refine lv_bipush (v := nI 7) hx hb (dk kX6_fly_ok 14 rfl) rfl ?_
    refine csP (As := [.int y, .int (nI 0), .int (nI 7)]) (rest := []) ⟨hx, hb, hml, hown, hts⟩ (tX6_in l y (nI 0) (nI 7)) (cwS9 3 hts mcX6_in (ac19 _ (List.mem_of_getElem? (i := 12) rfl)) msX6_in mini_RX6 rfl rfl hdX6_in ⟨Nat.le_of_ble_eq_true rfl, Nat.le_of_ble_eq_true rfl⟩) rfl hl.1 rfl (Nat.le_of_ble_eq_true rfl) (by decide) (dk kX6_fly_ok 15 rfl) ?_
    refine b_if_eq (tgt := 41) hx hb (dk kX6_fly_ok 16 rfl) (by decide) (fun h2 => ?_) (fun h2 => ?_)
    · skip
      refine lv_aload_n hx hb (dk kX6_fly_ok 22 rfl) rfl (lv_at hl 0 rfl) ?_
      refine lv_iconst (v := nI 2) hx hb (dk kX6_fly_ok 23 rfl) rfl ?_
      refine cvD (As := [.int (nI 2)]) (rest := []) (rfSet cI ad F k r ps sl sd ne fa bu hs st ln pt (nI 2)) ⟨hx, hb, hml, hown, hts⟩ (tX6_fails l D cI cQ cL ad N (rfSet cI ad F k r ps sl sd ne fa bu hs st ln pt (nI 0)) k hk r ps sl sd ne fa bu hs st ln pt (nI 0) (rfSet_at) (nI 2)) (cwV9 1 hts mcX6_fails (ac20 _ (List.mem_of_getElem? (i := 15) rfl)) miX6_fails meX6_fails mini_RX6 rfl rfl hdX6_fails ⟨Nat.le_of_ble_eq_true rfl, Nat.le_of_ble_eq_true rfl⟩) hDi hK hP hNW hS hk0 rfSet_at.1 rfl rfl hl.1 rfl (Nat.le_of_ble_eq_true rfl) (by decide) (dk kX6_fly_ok 24 rfl) rfSet_rfSet (fun H locs hP hS => ?_)
      exact hret _ _ _ _ _ _ _ _ rfl (by simp (config := { decide := true }) only [dp, tF, gF, h1, h2, bI_1, bI_00, not_true_eq_false, not_false_eq_true, and_true, true_and, and_false, false_and, or_true, true_or, or_false, false_or, and_self, or_self, if_true, if_false, Bool.false_eq_true, reduceIte]; first | done | exact ⟨rfl, rfl⟩ | (simp_all; done)) hP hS (by decide) (by decide) (dk kX6_fly_ok 25 rfl)
    · skip
      refine lv_iload_n hx hb (dk kX6_fly_ok 17 rfl) rfl (lv_at hl 3 rfl) ?_
      refine lv_iconst (v := nI 1) hx hb (dk kX6_fly_ok 18 rfl) rfl ?_
      refine lv_bipush (v := nI 9) hx hb (dk kX6_fly_ok 19 rfl) rfl ?_
      refine csP (As := [.int z, .int (nI 1), .int (nI 9)]) (rest := []) ⟨hx, hb, hml, hown, hts⟩ (tX6_in l z (nI 1) (nI 9)) (cwS9 3 hts mcX6_in (ac19 _ (List.mem_of_getElem? (i := 12) rfl)) msX6_in mini_RX6 rfl rfl hdX6_in ⟨Nat.le_of_ble_eq_true rfl, Nat.le_of_ble_eq_true rfl⟩) rfl hl.1 rfl (Nat.le_of_ble_eq_true rfl) (by decide) (dk kX6_fly_ok 20 rfl) ?_
      refine b_if_ne (tgt := 47) hx hb (dk kX6_fly_ok 21 rfl) (by decide) (fun h3 => ?_) (fun h3 => ?_)
      · skip
        refine lv_aload_n hx hb (dk kX6_fly_ok 26 rfl) rfl (lv_at hl 0 rfl) ?_
        refine lv_iload_n hx hb (dk kX6_fly_ok 27 rfl) rfl (lv_at hl 1 rfl) ?_
        refine cvR (As := [.int x]) (rest := []) ⟨hx, hb, hml, hown, hts⟩ (tX6_whyNot l D cI cQ cL ad N (rfSet cI ad F k r ps sl sd ne fa bu hs st ln pt (nI 0)) k hk r ps sl sd ne fa bu hs st ln pt (nI 0) (rfSet_at) x (ix x) (btw_eq h1) (by have := btw_le h1; omega)) (cwV9 1 hts mcX6_whyNot (ac20 _ (List.mem_of_getElem? (i := 19) rfl)) miX6_whyNot meX6_whyNot mini_RX6 rfl rfl hdX6_whyNot ⟨Nat.le_of_ble_eq_true rfl, Nat.le_of_ble_eq_true rfl⟩) hK hP hNW hk0 rfSet_at.1 rfl rfl hl.1 rfl (Nat.le_of_ble_eq_true rfl) (by decide) (dk kX6_fly_ok 28 rfl) ?_
        refine n_if_eq (tgt := 61) hx hb (by have q1 := rwn_le r (ix x); omega) (dk kX6_fly_ok 29 rfl) (by decide) (fun h4 => ?_) (fun h4 => ?_)
        · skip
          refine lv_aload_n hx hb (dk kX6_fly_ok 34 rfl) rfl (lv_at hl 0 rfl) ?_
          refine cvDv (As := []) (rest := []) (rfSet cI ad F k r (rcP ps r st) sl sd ne fa bu hs (rcS st) ln pt (nI 0)) ⟨hx, hb, hml, hown, hts⟩ (tX6_record l D cI cQ cL ad N (rfSet cI ad F k r ps sl sd ne fa bu hs st ln pt (nI 0)) k hk r ps sl sd ne fa bu hs st ln pt (nI 0) (rfSet_at) hst6) (cwV9 0 hts mcX6_record (ac20 _ (List.mem_of_getElem? (i := 23) rfl)) miX6_record meX6_record mini_RX6 rfl rfl hdX6_record ⟨Nat.le_of_ble_eq_true rfl, Nat.le_of_ble_eq_true rfl⟩) hDi hK hP hNW hS hk0 rfSet_at.1 rfl rfl hl.1 rfl (Nat.le_of_ble_eq_true rfl) (by decide) (dk kX6_fly_ok 35 rfl) rfSet_rfSet (fun H locs hP hS => ?_)
          refine lv_aload_n hx hb (dk kX6_fly_ok 36 rfl) rfl (lv_at hl 0 rfl) ?_
          refine lv_iload_n hx hb (dk kX6_fly_ok 37 rfl) rfl (lv_at hl 1 rfl) ?_
          refine lv_iload_n hx hb (dk kX6_fly_ok 38 rfl) rfl (lv_at hl 2 rfl) ?_
          refine lv_iload_n hx hb (dk kX6_fly_ok 39 rfl) rfl (lv_at hl 3 rfl) ?_
          refine cvD (As := [.int x, .int y, .int z]) (rest := []) (rfSet cI ad F k (rfx r (ix x) (ldg (r (ix x)) (nI (ix y)) (stp (ix x) (ix z))) (ix (r 56))) (rcP ps r st) sl sd ne fa bu hs (rcS st) ln pt (nI 0)) ⟨hx, hb, hml, hown, hts⟩ (tX6_flies l D cI cQ cL ad N (rfSet cI ad F k r (rcP ps r st) sl sd ne fa bu hs (rcS st) ln pt (nI 0)) k hk r (rcP ps r st) sl sd ne fa bu hs (rcS st) ln pt (nI 0) (rfSet_at) x (ix x) (btw_eq h1) (by have := btw_le h1; omega) y (ix y) (btw_eq h2) (by have := btw_le h2; omega) z (ix z) (btw_eq h3) (by have := btw_le h3; omega) (rok_c9 hrk (by have bh1 := btw_le h1; have bh2 := btw_le h2; have bh3 := btw_le h3; omega) h4) (rok_l0 hrk (by have bh1 := btw_le h1; have bh2 := btw_le h2; have bh3 := btw_le h3; omega) h4) (ix (r 56)) hrk.1.1 hrk.1.2 hrk.2.1) (cwV9 3 hts mcX6_flies (ac21 _ (List.mem_of_getElem? (i := 3) rfl)) miX6_flies meX6_flies mini_RX6 rfl rfl hdX6_flies ⟨Nat.le_of_ble_eq_true rfl, Nat.le_of_ble_eq_true rfl⟩) hDi hK hP hNW hS hk0 rfSet_at.1 rfl rfl hl.1 rfl (Nat.le_of_ble_eq_true rfl) (by decide) (dk kX6_fly_ok 40 rfl) rfSet_rfSet (fun H locs hP hS => ?_)
          exact hret _ _ _ _ _ _ _ _ rfl (by simp (config := { decide := true }) only [dp, tF, gF, h1, h2, h3, (eq_true h4), bI_1, bI_00, not_true_eq_false, not_false_eq_true, and_true, true_and, and_false, false_and, or_true, true_or, or_false, false_or, and_self, or_self, if_true, if_false, Bool.false_eq_true, reduceIte]; first | done | exact ⟨rfl, rfl⟩ | (simp_all; done)) hP hS (by decide) (by decide) (dk kX6_fly_ok 41 rfl)
        · skip
          refine lv_aload_n hx hb (dk kX6_fly_ok 30 rfl) rfl (lv_at hl 0 rfl) ?_
          refine lv_iconst (v := nI 3) hx hb (dk kX6_fly_ok 31 rfl) rfl ?_
          refine cvD (As := [.int (nI 3)]) (rest := []) (rfSet cI ad F k r ps sl sd ne fa bu hs st ln pt (nI 3)) ⟨hx, hb, hml, hown, hts⟩ (tX6_fails l D cI cQ cL ad N (rfSet cI ad F k r ps sl sd ne fa bu hs st ln pt (nI 0)) k hk r ps sl sd ne fa bu hs st ln pt (nI 0) (rfSet_at) (nI 3)) (cwV9 1 hts mcX6_fails (ac20 _ (List.mem_of_getElem? (i := 15) rfl)) miX6_fails meX6_fails mini_RX6 rfl rfl hdX6_fails ⟨Nat.le_of_ble_eq_true rfl, Nat.le_of_ble_eq_true rfl⟩) hDi hK hP hNW hS hk0 rfSet_at.1 rfl rfl hl.1 rfl (Nat.le_of_ble_eq_true rfl) (by decide) (dk kX6_fly_ok 32 rfl) rfSet_rfSet (fun H locs hP hS => ?_)
          exact hret _ _ _ _ _ _ _ _ rfl (by simp (config := { decide := true }) only [dp, tF, gF, h1, h2, h3, (eq_false h4), bI_1, bI_00, not_true_eq_false, not_false_eq_true, and_true, true_and, and_false, false_and, or_true, true_or, or_false, false_or, and_self, or_self, if_true, if_false, Bool.false_eq_true, reduceIte]; first | done | exact ⟨rfl, rfl⟩ | (simp_all; done)) hP hS (by decide) (by decide) (dk kX6_fly_ok 33 rfl)
      · skip
        refine lv_aload_n hx hb (dk kX6_fly_ok 22 rfl) rfl (lv_at hl 0 rfl) ?_
        refine lv_iconst (v := nI 2) hx hb (dk kX6_fly_ok 23 rfl) rfl ?_
        refine cvD (As := [.int (nI 2)]) (rest := []) (rfSet cI ad F k r ps sl sd ne fa bu hs st ln pt (nI 2)) ⟨hx, hb, hml, hown, hts⟩ (tX6_fails l D cI cQ cL ad N (rfSet cI ad F k r ps sl sd ne fa bu hs st ln pt (nI 0)) k hk r ps sl sd ne fa bu hs st ln pt (nI 0) (rfSet_at) (nI 2)) (cwV9 1 hts mcX6_fails (ac20 _ (List.mem_of_getElem? (i := 15) rfl)) miX6_fails meX6_fails mini_RX6 rfl rfl hdX6_fails ⟨Nat.le_of_ble_eq_true rfl, Nat.le_of_ble_eq_true rfl⟩) hDi hK hP hNW hS hk0 rfSet_at.1 rfl rfl hl.1 rfl (Nat.le_of_ble_eq_true rfl) (by decide) (dk kX6_fly_ok 24 rfl) rfSet_rfSet (fun H locs hP hS => ?_)
        exact hret _ _ _ _ _ _ _ _ rfl (by simp (config := { decide := true }) only [dp, tF, gF, h1, h2, h3, bI_1, bI_00, not_true_eq_false, not_false_eq_true, and_true, true_and, and_false, false_and, or_true, true_or, or_false, false_or, and_self, or_self, if_true, if_false, Bool.false_eq_true, reduceIte]; first | done | exact ⟨rfl, rfl⟩ | (simp_all; done)) hP hS (by decide) (by decide) (dk kX6_fly_ok 25 rfl)
  · skip
    refine lv_aload_n hx hb (dk kX6_fly_ok 8 rfl) rfl (lv_at hl 0 rfl) ?_
    refine lv_iconst (v := nI 1) hx hb (dk kX6_fly_ok 9 rfl) rfl ?_
    refine cvD (As := [.int (nI 1)]) (rest := []) (rfSet cI ad F k r ps sl sd ne fa bu hs st ln pt (nI 1)) ⟨hx, hb, hml, hown, hts⟩ (tX6_fails l D cI cQ cL ad N (rfSet cI ad F k r ps sl sd ne fa bu hs st ln pt (nI 0)) k hk r ps sl sd ne fa bu hs st ln pt (nI 0) (rfSet_at) (nI 1)) (cwV9 1 hts mcX6_fails (ac20 _ (List.mem_of_getElem? (i := 15) rfl)) miX6_fails meX6_fails mini_RX6 rfl rfl hdX6_fails ⟨Nat.le_of_ble_eq_true rfl, Nat.le_of_ble_eq_true rfl⟩) hDi hK hP hNW hS hk0 rfSet_at.1 rfl rfl hl.1 rfl (Nat.le_of_ble_eq_true rfl) (by decide) (dk kX6_fly_ok 10 rfl) rfSet_rfSet (fun H locs hP hS => ?_)
    exact hret _ _ _ _ _ _ _ _ rfl (by simp (config := { decide := true }) only [dp, tF, gF, h1, bI_1, bI_00, not_true_eq_false, not_false_eq_true, and_true, true_and, and_false, false_and, or_true, true_or, or_false, false_or, and_self, or_self, if_true, if_false, Bool.false_eq_true, reduceIte]; first | done | exact ⟨rfl, rfl⟩ | (simp_all; done)) hP hS (by decide) (by decide) (dk kX6_fly_ok 11 rfl)
set_option maxRecDepth 100000 in
set_option maxHeartbeats 4000000 in
theorem tX6_lift (l : Launch) (D : va_G) (cI cQ cL : ClassId) (ad : Nat → Nat) (N : Nat) (F : Nat → va_E) (k : Nat) (hk : k + 7 < N) (r ps sl sd ne fa bu : Nat → Int32) (hs : Bool) (st ln pt : Nat) (th : Int32) (hR : rfAt cI ad F k r ps sl sd ne fa bu hs st ln pt th) (x y z z2 : Int32) (hst6 : st ≤ 6) (hrk : rok r) : MX l yX6_lift (Cond.code yX6_lift cX6_lift 5 (some .int) :: AW) ({ frames := 5, cells := 0, slots := 0, locals := 110 } : Room) D cI cQ cL ad N F [.ref (ad k), .int x, .int y, .int z, .int z2] (dp (some (.int (if gL r x y z z2 = true then nI (hgt r (nI (13 * ix y + ix x)) - ix z) else nI 0))) (rfSet cI ad F k (if gL r x y z z2 = true then rlx r (13 * ix y + ix x) (ix z) (ix z2) (ix (r 56)) else r) (if gL r x y z z2 = true then rcP ps r st else ps) sl sd ne fa bu hs (if gL r x y z z2 = true then rcS st else st) ln pt (tLi r x y z z2))) 0 0 := by
  refine mx_i (ty := .int) (by decide +kernel) rfl (Nat.le_of_ble_eq_true rfl) (fun p e s m below meth cd Q ls hx hb hml hown hts hDi hP hK hNW hS hret hl => ?_)
  have hown : s.vm.findClass RX6 = some m.cls := hown
  have hk0 : k < N := by omega
  have hk1 : k + 1 < N := by omega
  have hk2 : k + 2 < N := by omega
  have hk3 : k + 3 < N := by omega
  have hk4 : k + 4 < N := by omega
  have hk5 : k + 5 < N := by omega
  have hk6 : k + 6 < N := by omega
  have hk7 : k + 7 < N := by omega
  have hP : va_P D vwCl (iW ad N (rfSet cI ad F k r ps sl sd ne fa bu hs st ln pt th)) s.heap := by rw [rfSet_self hR]; exact hP
  have hl : lv_has ls 5 [(0, .ref (ad k)), (1, .int x), (2, .int y), (3, .int z), (4, .int z2)] := hl
  refine lv_aload_n hx hb (dk kX6_lift_ok 0 rfl) rfl (lv_at hl 0 rfl) ?_
  refine lv_iconst (v := nI 0) hx hb (dk kX6_lift_ok 1 rfl) rfl ?_
  refine pf (rfSet cI ad F k r ps sl sd ne fa bu hs st ln pt (nI 0)) hx hb hts (fun w h => List.mem_cons_of_mem _ (acX6 w h)) tyX6 tyX6_ok nmX6 hown hK hDi hP hS hk0 rfSet_at.1 rfl 11 (by decide) (hts _ (List.mem_cons_of_mem _ (ac18 _ (List.mem_of_getElem? (i := 4) rfl)))) (fun _ h => h) rfl (ty := .int) rfl rfl rfl (Nat.le_of_ble_eq_true rfl) (dk kX6_lift_ok 2 rfl) rfSet_u0 (fun H locs hP hS => ?_)
  refine lv_iload_n hx hb (dk kX6_lift_ok 3 rfl) rfl (lv_at hl 1 rfl) ?_
  refine lv_iconst (v := nI 0) hx hb (dk kX6_lift_ok 4 rfl) rfl ?_
  refine lv_bipush (v := nI 12) hx hb (dk kX6_lift_ok 5 rfl) rfl ?_
  refine csP (As := [.int x, .int (nI 0), .int (nI 12)]) (rest := []) ⟨hx, hb, hml, hown, hts⟩ (tX6_in l x (nI 0) (nI 12)) (cwS9 3 hts mcX6_in (ac19 _ (List.mem_of_getElem? (i := 12) rfl)) msX6_in mini_RX6 rfl rfl hdX6_in ⟨Nat.le_of_ble_eq_true rfl, Nat.le_of_ble_eq_true rfl⟩) rfl hl.1 rfl (Nat.le_of_ble_eq_true rfl) (by decide) (dk kX6_lift_ok 6 rfl) ?_
  refine b_if_eq (tgt := 25) hx hb (dk kX6_lift_ok 7 rfl) (by decide) (fun h1 => ?_) (fun h1 => ?_)
  · skip
    refine lv_aload_n hx hb (dk kX6_lift_ok 13 rfl) rfl (lv_at hl 0 rfl) ?_
    refine lv_iconst (v := nI 1) hx hb (dk kX6_lift_ok 14 rfl) rfl ?_
    refine cvD (As := [.int (nI 1)]) (rest := []) (rfSet cI ad F k r ps sl sd ne fa bu hs st ln pt (nI 1)) ⟨hx, hb, hml, hown, hts⟩ (tX6_fails l D cI cQ cL ad N (rfSet cI ad F k r ps sl sd ne fa bu hs st ln pt (nI 0)) k hk r ps sl sd ne fa bu hs st ln pt (nI 0) (rfSet_at) (nI 1)) (cwV9 1 hts mcX6_fails (ac20 _ (List.mem_of_getElem? (i := 15) rfl)) miX6_fails meX6_fails mini_RX6 rfl rfl hdX6_fails ⟨Nat.le_of_ble_eq_true rfl, Nat.le_of_ble_eq_true rfl⟩) hDi hK hP hNW hS hk0 rfSet_at.1 rfl rfl hl.1 rfl (Nat.le_of_ble_eq_true rfl) (by decide) (dk kX6_lift_ok 15 rfl) rfSet_rfSet (fun H locs hP hS => ?_)
    exact hret _ _ _ _ _ _ _ _ rfl (by simp (config := { decide := true }) only [dp, tLi, gL, h1, bI_1, bI_00, not_true_eq_false, not_false_eq_true, and_true, true_and, and_false, false_and, or_true, true_or, or_false, false_or, and_self, or_self, if_true, if_false, Bool.false_eq_true, reduceIte]; first | done | exact ⟨rfl, rfl⟩ | (simp_all; done)) hP hS (by decide) (by decide) (dk kX6_lift_ok 16 rfl)
  · skip
    refine lv_iload_n hx hb (dk kX6_lift_ok 8 rfl) rfl (lv_at hl 2 rfl) ?_
    refine lv_iconst (v := nI 0) hx hb (dk kX6_lift_ok 9 rfl) rfl ?_
    refine lv_bipush (v := nI 12) hx hb (dk kX6_lift_ok 10 rfl) rfl ?_
    refine csP (As := [.int y, .int (nI 0), .int (nI 12)]) (rest := []) ⟨hx, hb, hml, hown, hts⟩ (tX6_in l y (nI 0) (nI 12)) (cwS9 3 hts mcX6_in (ac19 _ (List.mem_of_getElem? (i := 12) rfl)) msX6_in mini_RX6 rfl rfl hdX6_in ⟨Nat.le_of_ble_eq_true rfl, Nat.le_of_ble_eq_true rfl⟩) rfl hl.1 rfl (Nat.le_of_ble_eq_true rfl) (by decide) (dk kX6_lift_ok 11 rfl) ?_
    refine b_if_ne (tgt := 31) hx hb (dk kX6_lift_ok 12 rfl) (by decide) (fun h2 => ?_) (fun h2 => ?_)
    · skip
      refine lv_iload_n hx hb (dk kX6_lift_ok 17 rfl) rfl (lv_at hl 3 rfl) ?_
      refine lv_iconst (v := nI 1) hx hb (dk kX6_lift_ok 18 rfl) rfl ?_
      refine lv_bipush (v := nI 6) hx hb (dk kX6_lift_ok 19 rfl) rfl ?_
      refine csP (As := [.int z, .int (nI 1), .int (nI 6)]) (rest := []) ⟨hx, hb, hml, hown, hts⟩ (tX6_in l z (nI 1) (nI 6)) (cwS9 3 hts mcX6_in (ac19 _ (List.mem_of_getElem? (i := 12) rfl)) msX6_in mini_RX6 rfl rfl hdX6_in ⟨Nat.le_of_ble_eq_true rfl, Nat.le_of_ble_eq_true rfl⟩) rfl hl.1 rfl (Nat.le_of_ble_eq_true rfl) (by decide) (dk kX6_lift_ok 20 rfl) ?_
      refine b_if_eq (tgt := 52) hx hb (dk kX6_lift_ok 21 rfl) (by decide) (fun h3 => ?_) (fun h3 => ?_)
      · skip
        refine lv_aload_n hx hb (dk kX6_lift_ok 27 rfl) rfl (lv_at hl 0 rfl) ?_
        refine lv_iconst (v := nI 2) hx hb (dk kX6_lift_ok 28 rfl) rfl ?_
        refine cvD (As := [.int (nI 2)]) (rest := []) (rfSet cI ad F k r ps sl sd ne fa bu hs st ln pt (nI 2)) ⟨hx, hb, hml, hown, hts⟩ (tX6_fails l D cI cQ cL ad N (rfSet cI ad F k r ps sl sd ne fa bu hs st ln pt (nI 0)) k hk r ps sl sd ne fa bu hs st ln pt (nI 0) (rfSet_at) (nI 2)) (cwV9 1 hts mcX6_fails (ac20 _ (List.mem_of_getElem? (i := 15) rfl)) miX6_fails meX6_fails mini_RX6 rfl rfl hdX6_fails ⟨Nat.le_of_ble_eq_true rfl, Nat.le_of_ble_eq_true rfl⟩) hDi hK hP hNW hS hk0 rfSet_at.1 rfl rfl hl.1 rfl (Nat.le_of_ble_eq_true rfl) (by decide) (dk kX6_lift_ok 29 rfl) rfSet_rfSet (fun H locs hP hS => ?_)
        exact hret _ _ _ _ _ _ _ _ rfl (by simp (config := { decide := true }) only [dp, tLi, gL, h1, h2, h3, bI_1, bI_00, not_true_eq_false, not_false_eq_true, and_true, true_and, and_false, false_and, or_true, true_or, or_false, false_or, and_self, or_self, if_true, if_false, Bool.false_eq_true, reduceIte]; first | done | exact ⟨rfl, rfl⟩ | (simp_all; done)) hP hS (by decide) (by decide) (dk kX6_lift_ok 30 rfl)
      · skip
        refine lv_iload hx hb (dk kX6_lift_ok 22 rfl) (lv_at hl 4 rfl) ?_
        refine lv_iconst (v := nI 0) hx hb (dk kX6_lift_ok 23 rfl) rfl ?_
        refine lv_bipush (v := nI 7) hx hb (dk kX6_lift_ok 24 rfl) rfl ?_
        refine csP (As := [.int z2, .int (nI 0), .int (nI 7)]) (rest := []) ⟨hx, hb, hml, hown, hts⟩ (tX6_in l z2 (nI 0) (nI 7)) (cwS9 3 hts mcX6_in (ac19 _ (List.mem_of_getElem? (i := 12) rfl)) msX6_in mini_RX6 rfl rfl hdX6_in ⟨Nat.le_of_ble_eq_true rfl, Nat.le_of_ble_eq_true rfl⟩) rfl hl.1 rfl (Nat.le_of_ble_eq_true rfl) (by decide) (dk kX6_lift_ok 25 rfl) ?_
        refine b_if_ne (tgt := 58) hx hb (dk kX6_lift_ok 26 rfl) (by decide) (fun h4 => ?_) (fun h4 => ?_)
        · skip
          refine lv_aload_n hx hb (dk kX6_lift_ok 31 rfl) rfl (lv_at hl 0 rfl) ?_
          refine lv_bipush (v := nI 13) hx hb (dk kX6_lift_ok 32 rfl) rfl ?_
          refine lv_iload_n hx hb (dk kX6_lift_ok 33 rfl) rfl (lv_at hl 2 rfl) ?_
          refine lv_imul hx hb (dk kX6_lift_ok 34 rfl) ?_
          refine lv_iload_n hx hb (dk kX6_lift_ok 35 rfl) rfl (lv_at hl 1 rfl) ?_
          refine lv_iadd hx hb (dk kX6_lift_ok 36 rfl) ?_
          refine lv_iload_n hx hb (dk kX6_lift_ok 37 rfl) rfl (lv_at hl 3 rfl) ?_
          refine lv_iload hx hb (dk kX6_lift_ok 38 rfl) (lv_at hl 4 rfl) ?_
          refine cvR (As := [.int (((nI 13) * y) + x), .int z, .int z2]) (rest := []) ⟨hx, hb, hml, hown, hts⟩ (tX6_whyNotLifted l D cI cQ cL ad N (rfSet cI ad F k r ps sl sd ne fa bu hs st ln pt (nI 0)) k hk r ps sl sd ne fa bu hs st ln pt (nI 0) (rfSet_at) (((nI 13) * y) + x) (13 * ix y + ix x) (cell_eq h2 h1) (cell_lt h2 h1) z (ix z) (btw_eq h3) (by have := btw_le h3; omega) z2 (ix z2) (btw_eq h4) (by have := btw_le h4; omega)) (cwV9 3 hts mcX6_whyNotLifted (ac21 _ (List.mem_of_getElem? (i := 7) rfl)) miX6_whyNotLifted meX6_whyNotLifted mini_RX6 rfl rfl hdX6_whyNotLifted ⟨Nat.le_of_ble_eq_true rfl, Nat.le_of_ble_eq_true rfl⟩) hK hP hNW hk0 rfSet_at.1 rfl rfl hl.1 rfl (Nat.le_of_ble_eq_true rfl) (by decide) (dk kX6_lift_ok 39 rfl) ?_
          refine n_if_eq (tgt := 80) hx hb (by have q1 := rwl_le r (13 * ix y + ix x) (ix z) (ix z2); omega) (dk kX6_lift_ok 40 rfl) (by decide) (fun h5 => ?_) (fun h5 => ?_)
          · skip
            refine lv_aload_n hx hb (dk kX6_lift_ok 45 rfl) rfl (lv_at hl 0 rfl) ?_
            refine cvDv (As := []) (rest := []) (rfSet cI ad F k r (rcP ps r st) sl sd ne fa bu hs (rcS st) ln pt (nI 0)) ⟨hx, hb, hml, hown, hts⟩ (tX6_record l D cI cQ cL ad N (rfSet cI ad F k r ps sl sd ne fa bu hs st ln pt (nI 0)) k hk r ps sl sd ne fa bu hs st ln pt (nI 0) (rfSet_at) hst6) (cwV9 0 hts mcX6_record (ac20 _ (List.mem_of_getElem? (i := 23) rfl)) miX6_record meX6_record mini_RX6 rfl rfl hdX6_record ⟨Nat.le_of_ble_eq_true rfl, Nat.le_of_ble_eq_true rfl⟩) hDi hK hP hNW hS hk0 rfSet_at.1 rfl rfl hl.1 rfl (Nat.le_of_ble_eq_true rfl) (by decide) (dk kX6_lift_ok 46 rfl) rfSet_rfSet (fun H locs hP hS => ?_)
            refine lv_aload_n hx hb (dk kX6_lift_ok 47 rfl) rfl (lv_at hl 0 rfl) ?_
            refine lv_bipush (v := nI 13) hx hb (dk kX6_lift_ok 48 rfl) rfl ?_
            refine lv_iload_n hx hb (dk kX6_lift_ok 49 rfl) rfl (lv_at hl 2 rfl) ?_
            refine lv_imul hx hb (dk kX6_lift_ok 50 rfl) ?_
            refine lv_iload_n hx hb (dk kX6_lift_ok 51 rfl) rfl (lv_at hl 1 rfl) ?_
            refine lv_iadd hx hb (dk kX6_lift_ok 52 rfl) ?_
            refine lv_iload_n hx hb (dk kX6_lift_ok 53 rfl) rfl (lv_at hl 3 rfl) ?_
            refine lv_iload hx hb (dk kX6_lift_ok 54 rfl) (lv_at hl 4 rfl) ?_
            refine cvD (As := [.int (((nI 13) * y) + x), .int z, .int z2]) (rest := []) (rfSet cI ad F k (rlx r (13 * ix y + ix x) (ix z) (ix z2) (ix (r 56))) (rcP ps r st) sl sd ne fa bu hs (rcS st) ln pt (nI 0)) ⟨hx, hb, hml, hown, hts⟩ (tX6_lifts l D cI cQ cL ad N (rfSet cI ad F k r (rcP ps r st) sl sd ne fa bu hs (rcS st) ln pt (nI 0)) k hk r (rcP ps r st) sl sd ne fa bu hs (rcS st) ln pt (nI 0) (rfSet_at) (((nI 13) * y) + x) (13 * ix y + ix x) (cell_eq h2 h1) (cell_lt h2 h1) z (ix z) (btw_eq h3) (by have := btw_le h3; omega) z2 (ix z2) (btw_eq h4) (by have := btw_le h4; omega) (rwl_0 h5) (hrk.2.2.2.2 _ _ _ (by have bh1 := btw_le h1; have bh2 := btw_le h2; have bh3 := btw_le h3; have bh4 := btw_le h4; omega) (by have bh1 := btw_le h1; have bh2 := btw_le h2; have bh3 := btw_le h3; have bh4 := btw_le h4; omega) (by have bh1 := btw_le h1; have bh2 := btw_le h2; have bh3 := btw_le h3; have bh4 := btw_le h4; omega) (by have bh1 := btw_le h1; have bh2 := btw_le h2; have bh3 := btw_le h3; have bh4 := btw_le h4; omega) h5) (ix (r 56)) hrk.1.1 hrk.1.2 hrk.2.1) (cwV9 3 hts mcX6_lifts (ac21 _ (List.mem_of_getElem? (i := 11) rfl)) miX6_lifts meX6_lifts mini_RX6 rfl rfl hdX6_lifts ⟨Nat.le_of_ble_eq_true rfl, Nat.le_of_ble_eq_true rfl⟩) hDi hK hP hNW hS hk0 rfSet_at.1 rfl rfl hl.1 rfl (Nat.le_of_ble_eq_true rfl) (by decide) (dk kX6_lift_ok 55 rfl) rfSet_rfSet (fun H locs hP hS => ?_)
            exact hret _ _ _ _ _ _ _ _ rfl (by simp (config := { decide := true }) only [dp, tLi, gL, h1, h2, h3, h4, (eq_true h5), bI_1, bI_00, not_true_eq_false, not_false_eq_true, and_true, true_and, and_false, false_and, or_true, true_or, or_false, false_or, and_self, or_self, if_true, if_false, Bool.false_eq_true, reduceIte]; first | done | exact ⟨rfl, rfl⟩ | (simp_all; done)) hP hS (by decide) (by decide) (dk kX6_lift_ok 56 rfl)
          · skip
            refine lv_aload_n hx hb (dk kX6_lift_ok 41 rfl) rfl (lv_at hl 0 rfl) ?_
            refine lv_iconst (v := nI 3) hx hb (dk kX6_lift_ok 42 rfl) rfl ?_
            refine cvD (As := [.int (nI 3)]) (rest := []) (rfSet cI ad F k r ps sl sd ne fa bu hs st ln pt (nI 3)) ⟨hx, hb, hml, hown, hts⟩ (tX6_fails l D cI cQ cL ad N (rfSet cI ad F k r ps sl sd ne fa bu hs st ln pt (nI 0)) k hk r ps sl sd ne fa bu hs st ln pt (nI 0) (rfSet_at) (nI 3)) (cwV9 1 hts mcX6_fails (ac20 _ (List.mem_of_getElem? (i := 15) rfl)) miX6_fails meX6_fails mini_RX6 rfl rfl hdX6_fails ⟨Nat.le_of_ble_eq_true rfl, Nat.le_of_ble_eq_true rfl⟩) hDi hK hP hNW hS hk0 rfSet_at.1 rfl rfl hl.1 rfl (Nat.le_of_ble_eq_true rfl) (by decide) (dk kX6_lift_ok 43 rfl) rfSet_rfSet (fun H locs hP hS => ?_)
            exact hret _ _ _ _ _ _ _ _ rfl (by simp (config := { decide := true }) only [dp, tLi, gL, h1, h2, h3, h4, (eq_false h5), bI_1, bI_00, not_true_eq_false, not_false_eq_true, and_true, true_and, and_false, false_and, or_true, true_or, or_false, false_or, and_self, or_self, if_true, if_false, Bool.false_eq_true, reduceIte]; first | done | exact ⟨rfl, rfl⟩ | (simp_all; done)) hP hS (by decide) (by decide) (dk kX6_lift_ok 44 rfl)
        · skip
          refine lv_aload_n hx hb (dk kX6_lift_ok 27 rfl) rfl (lv_at hl 0 rfl) ?_
          refine lv_iconst (v := nI 2) hx hb (dk kX6_lift_ok 28 rfl) rfl ?_
          refine cvD (As := [.int (nI 2)]) (rest := []) (rfSet cI ad F k r ps sl sd ne fa bu hs st ln pt (nI 2)) ⟨hx, hb, hml, hown, hts⟩ (tX6_fails l D cI cQ cL ad N (rfSet cI ad F k r ps sl sd ne fa bu hs st ln pt (nI 0)) k hk r ps sl sd ne fa bu hs st ln pt (nI 0) (rfSet_at) (nI 2)) (cwV9 1 hts mcX6_fails (ac20 _ (List.mem_of_getElem? (i := 15) rfl)) miX6_fails meX6_fails mini_RX6 rfl rfl hdX6_fails ⟨Nat.le_of_ble_eq_true rfl, Nat.le_of_ble_eq_true rfl⟩) hDi hK hP hNW hS hk0 rfSet_at.1 rfl rfl hl.1 rfl (Nat.le_of_ble_eq_true rfl) (by decide) (dk kX6_lift_ok 29 rfl) rfSet_rfSet (fun H locs hP hS => ?_)
          exact hret _ _ _ _ _ _ _ _ rfl (by simp (config := { decide := true }) only [dp, tLi, gL, h1, h2, h3, h4, bI_1, bI_00, not_true_eq_false, not_false_eq_true, and_true, true_and, and_false, false_and, or_true, true_or, or_false, false_or, and_self, or_self, if_true, if_false, Bool.false_eq_true, reduceIte]; first | done | exact ⟨rfl, rfl⟩ | (simp_all; done)) hP hS (by decide) (by decide) (dk kX6_lift_ok 30 rfl)
    · skip
      refine lv_aload_n hx hb (dk kX6_lift_ok 13 rfl) rfl (lv_at hl 0 rfl) ?_
      refine lv_iconst (v := nI 1) hx hb (dk kX6_lift_ok 14 rfl) rfl ?_
      refine cvD (As := [.int (nI 1)]) (rest := []) (rfSet cI ad F k r ps sl sd ne fa bu hs st ln pt (nI 1)) ⟨hx, hb, hml, hown, hts⟩ (tX6_fails l D cI cQ cL ad N (rfSet cI ad F k r ps sl sd ne fa bu hs st ln pt (nI 0)) k hk r ps sl sd ne fa bu hs st ln pt (nI 0) (rfSet_at) (nI 1)) (cwV9 1 hts mcX6_fails (ac20 _ (List.mem_of_getElem? (i := 15) rfl)) miX6_fails meX6_fails mini_RX6 rfl rfl hdX6_fails ⟨Nat.le_of_ble_eq_true rfl, Nat.le_of_ble_eq_true rfl⟩) hDi hK hP hNW hS hk0 rfSet_at.1 rfl rfl hl.1 rfl (Nat.le_of_ble_eq_true rfl) (by decide) (dk kX6_lift_ok 15 rfl) rfSet_rfSet (fun H locs hP hS => ?_)
      exact hret _ _ _ _ _ _ _ _ rfl (by simp (config := { decide := true }) only [dp, tLi, gL, h1, h2, bI_1, bI_00, not_true_eq_false, not_false_eq_true, and_true, true_and, and_false, false_and, or_true, true_or, or_false, false_or, and_self, or_self, if_true, if_false, Bool.false_eq_true, reduceIte]; first | done | exact ⟨rfl, rfl⟩ | (simp_all; done)) hP hS (by decide) (by decide) (dk kX6_lift_ok 16 rfl)
set_option maxRecDepth 100000 in
set_option maxHeartbeats 4000000 in
theorem tX6_set (l : Launch) (D : va_G) (cI cQ cL : ClassId) (ad : Nat → Nat) (N : Nat) (F : Nat → va_E) (k : Nat) (hk : k + 7 < N) (r ps sl sd ne fa bu : Nat → Int32) (hs : Bool) (st ln pt : Nat) (th : Int32) (hR : rfAt cI ad F k r ps sl sd ne fa bu hs st ln pt th) (x : Int32) (hst6 : st ≤ 6) : MX l yX6_set (Cond.code yX6_set cX6_set 3 (some .int) :: AW) ({ frames := 1, cells := 0, slots := 0, locals := 22 } : Room) D cI cQ cL ad N F [.ref (ad k), .int x] (dp (some (.int (if gS x = true then r 57 else nI 0))) (rfSet cI ad F k (if gS x = true then upd r 57 x else r) (if gS x = true then rcP ps r st else ps) sl sd ne fa bu hs (if gS x = true then rcS st else st) ln pt (if gS x = true then nI 0 else nI 1))) 0 0 := by
  refine mx_i (ty := .int) (by decide +kernel) rfl (Nat.le_of_ble_eq_true rfl) (fun p e s m below meth cd Q ls hx hb hml hown hts hDi hP hK hNW hS hret hl => ?_)
  have hown : s.vm.findClass RX6 = some m.cls := hown
  have hk0 : k < N := by omega
  have hk1 : k + 1 < N := by omega
  have hk2 : k + 2 < N := by omega
  have hk3 : k + 3 < N := by omega
  have hk4 : k + 4 < N := by omega
  have hk5 : k + 5 < N := by omega
  have hk6 : k + 6 < N := by omega
  have hk7 : k + 7 < N := by omega
  have hP : va_P D vwCl (iW ad N (rfSet cI ad F k r ps sl sd ne fa bu hs st ln pt th)) s.heap := by rw [rfSet_self hR]; exact hP
  have hl : lv_has ls 3 [(0, .ref (ad k)), (1, .int x)] := hl
  refine lv_aload_n hx hb (dk kX6_set_ok 0 rfl) rfl (lv_at hl 0 rfl) ?_
  refine lv_iconst (v := nI 0) hx hb (dk kX6_set_ok 1 rfl) rfl ?_
  refine pf (rfSet cI ad F k r ps sl sd ne fa bu hs st ln pt (nI 0)) hx hb hts (fun w h => List.mem_cons_of_mem _ (acX6 w h)) tyX6 tyX6_ok nmX6 hown hK hDi hP hS hk0 rfSet_at.1 rfl 11 (by decide) (hts _ (List.mem_cons_of_mem _ (ac18 _ (List.mem_of_getElem? (i := 4) rfl)))) (fun _ h => h) rfl (ty := .int) rfl rfl rfl (Nat.le_of_ble_eq_true rfl) (dk kX6_set_ok 2 rfl) rfSet_u0 (fun H locs hP hS => ?_)
  refine lv_iload_n hx hb (dk kX6_set_ok 3 rfl) rfl (lv_at hl 1 rfl) ?_
  refine lv_iconst (v := nI 1) hx hb (dk kX6_set_ok 4 rfl) rfl ?_
  refine lv_bipush (v := nI 6) hx hb (dk kX6_set_ok 5 rfl) rfl ?_
  refine csP (As := [.int x, .int (nI 1), .int (nI 6)]) (rest := []) ⟨hx, hb, hml, hown, hts⟩ (tX6_in l x (nI 1) (nI 6)) (cwS9 3 hts mcX6_in (ac19 _ (List.mem_of_getElem? (i := 12) rfl)) msX6_in mini_RX6 rfl rfl hdX6_in ⟨Nat.le_of_ble_eq_true rfl, Nat.le_of_ble_eq_true rfl⟩) rfl hl.1 rfl (Nat.le_of_ble_eq_true rfl) (by decide) (dk kX6_set_ok 6 rfl) ?_
  refine b_if_ne (tgt := 21) hx hb (dk kX6_set_ok 7 rfl) (by decide) (fun h1 => ?_) (fun h1 => ?_)
  · skip
    refine lv_aload_n hx hb (dk kX6_set_ok 12 rfl) rfl (lv_at hl 0 rfl) ?_
    refine cvDv (As := []) (rest := []) (rfSet cI ad F k r (rcP ps r st) sl sd ne fa bu hs (rcS st) ln pt (nI 0)) ⟨hx, hb, hml, hown, hts⟩ (tX6_record l D cI cQ cL ad N (rfSet cI ad F k r ps sl sd ne fa bu hs st ln pt (nI 0)) k hk r ps sl sd ne fa bu hs st ln pt (nI 0) (rfSet_at) hst6) (cwV9 0 hts mcX6_record (ac20 _ (List.mem_of_getElem? (i := 23) rfl)) miX6_record meX6_record mini_RX6 rfl rfl hdX6_record ⟨Nat.le_of_ble_eq_true rfl, Nat.le_of_ble_eq_true rfl⟩) hDi hK hP hNW hS hk0 rfSet_at.1 rfl rfl hl.1 rfl (Nat.le_of_ble_eq_true rfl) (by decide) (dk kX6_set_ok 13 rfl) rfSet_rfSet (fun H locs hP hS => ?_)
    refine lv_aload_n hx hb (dk kX6_set_ok 14 rfl) rfl (lv_at hl 0 rfl) ?_
    refine gf hx hb hts (fun w h => List.mem_cons_of_mem _ (acX6 w h)) hown hK hP hk0 rfSet_at.1 rfl 0 (by decide) (hts _ (List.mem_cons_of_mem _ (ac17 _ (List.mem_of_getElem? (i := 17) rfl)))) (fun _ h => h) rfl (dk kX6_set_ok 15 rfl) ?_
    refine lv_bipush (v := nI 57) hx hb (dk kX6_set_ok 16 rfl) rfl ?_
    refine ald (j := 57) hx hb hK hP hk1 rfSet_at.2.1 rfl (by omega) (by decide) (dk kX6_set_ok 17 rfl) ?_
    refine lv_istore_n (lv' := [(2, .int (r 57)), (0, .ref (ad k)), (1, .int x)]) hx hb (dk kX6_set_ok 18 rfl) rfl hl (by decide) rfl (fun ls hl => ?_)
    refine lv_aload_n hx hb (dk kX6_set_ok 19 rfl) rfl (lv_at hl 1 rfl) ?_
    refine gf hx hb hts (fun w h => List.mem_cons_of_mem _ (acX6 w h)) hown hK hP hk0 rfSet_at.1 rfl 0 (by decide) (hts _ (List.mem_cons_of_mem _ (ac17 _ (List.mem_of_getElem? (i := 17) rfl)))) (fun _ h => h) rfl (dk kX6_set_ok 20 rfl) ?_
    refine lv_bipush (v := nI 57) hx hb (dk kX6_set_ok 21 rfl) rfl ?_
    refine lv_iload_n hx hb (dk kX6_set_ok 22 rfl) rfl (lv_at hl 2 rfl) ?_
    refine ast (rfSet cI ad F k (upd r 57 x) (rcP ps r st) sl sd ne fa bu hs (rcS st) ln pt (nI 0)) (j := 57) hx hb hK hDi hP hS hk1 rfSet_at.2.1 rfl (by omega) (by decide) (dk kX6_set_ok 23 rfl) rfSet_u1 (fun H locs hP hS => ?_)
    refine lv_iload_n hx hb (dk kX6_set_ok 24 rfl) rfl (lv_at hl 0 rfl) ?_
    exact hret _ _ _ _ _ _ _ _ rfl (by simp (config := { decide := true }) only [dp, gS, h1, bI_1, bI_00, not_true_eq_false, not_false_eq_true, and_true, true_and, and_false, false_and, or_true, true_or, or_false, false_or, and_self, or_self, if_true, if_false, Bool.false_eq_true, reduceIte]; first | done | exact ⟨rfl, rfl⟩ | (simp_all; done)) hP hS (by decide) (by decide) (dk kX6_set_ok 25 rfl)
  · skip
    refine lv_aload_n hx hb (dk kX6_set_ok 8 rfl) rfl (lv_at hl 0 rfl) ?_
    refine lv_iconst (v := nI 1) hx hb (dk kX6_set_ok 9 rfl) rfl ?_
    refine cvD (As := [.int (nI 1)]) (rest := []) (rfSet cI ad F k r ps sl sd ne fa bu hs st ln pt (nI 1)) ⟨hx, hb, hml, hown, hts⟩ (tX6_fails l D cI cQ cL ad N (rfSet cI ad F k r ps sl sd ne fa bu hs st ln pt (nI 0)) k hk r ps sl sd ne fa bu hs st ln pt (nI 0) (rfSet_at) (nI 1)) (cwV9 1 hts mcX6_fails (ac20 _ (List.mem_of_getElem? (i := 15) rfl)) miX6_fails meX6_fails mini_RX6 rfl rfl hdX6_fails ⟨Nat.le_of_ble_eq_true rfl, Nat.le_of_ble_eq_true rfl⟩) hDi hK hP hNW hS hk0 rfSet_at.1 rfl rfl hl.1 rfl (Nat.le_of_ble_eq_true rfl) (by decide) (dk kX6_set_ok 10 rfl) rfSet_rfSet (fun H locs hP hS => ?_)
    exact hret _ _ _ _ _ _ _ _ rfl (by simp (config := { decide := true }) only [dp, gS, h1, bI_1, bI_00, not_true_eq_false, not_false_eq_true, and_true, true_and, and_false, false_and, or_true, true_or, or_false, false_or, and_self, or_self, if_true, if_false, Bool.false_eq_true, reduceIte]; first | done | exact ⟨rfl, rfl⟩ | (simp_all; done)) hP hS (by decide) (by decide) (dk kX6_set_ok 11 rfl)
set_option maxRecDepth 100000 in
set_option maxHeartbeats 4000000 in
theorem tX6_put (l : Launch) (D : va_G) (cI cQ cL : ClassId) (ad : Nat → Nat) (N : Nat) (F : Nat → va_E) (k : Nat) (hk : k + 7 < N) (r ps sl sd ne fa bu : Nat → Int32) (hs : Bool) (st ln pt : Nat) (th : Int32) (hR : rfAt cI ad F k r ps sl sd ne fa bu hs st ln pt th) (x y z : Int32) (hst6 : st ≤ 6) : MX l yX6_put (Cond.code yX6_put cX6_put 4 (some .int) :: AW) ({ frames := 3, cells := 0, slots := 0, locals := 64 } : Room) D cI cQ cL ad N F [.ref (ad k), .int x, .int y, .int z] (dp (some (.int (if gP r x y z = true then nI (hgt (rly r (ix x) (nI 13 * z + y)) (nI 13 * z + y)) else nI 0))) (rfSet cI ad F k (if gP r x y z = true then rly r (ix x) (nI 13 * z + y) else r) (if gP r x y z = true then rcP ps r st else ps) sl sd ne fa bu hs (if gP r x y z = true then rcS st else st) ln pt (tPu r x y z))) 0 0 := by
  refine mx_i (ty := .int) (by decide +kernel) rfl (Nat.le_of_ble_eq_true rfl) (fun p e s m below meth cd Q ls hx hb hml hown hts hDi hP hK hNW hS hret hl => ?_)
  have hown : s.vm.findClass RX6 = some m.cls := hown
  have hk0 : k < N := by omega
  have hk1 : k + 1 < N := by omega
  have hk2 : k + 2 < N := by omega
  have hk3 : k + 3 < N := by omega
  have hk4 : k + 4 < N := by omega
  have hk5 : k + 5 < N := by omega
  have hk6 : k + 6 < N := by omega
  have hk7 : k + 7 < N := by omega
  have hP : va_P D vwCl (iW ad N (rfSet cI ad F k r ps sl sd ne fa bu hs st ln pt th)) s.heap := by rw [rfSet_self hR]; exact hP
  have hl : lv_has ls 4 [(0, .ref (ad k)), (1, .int x), (2, .int y), (3, .int z)] := hl
  refine lv_aload_n hx hb (dk kX6_put_ok 0 rfl) rfl (lv_at hl 0 rfl) ?_
  refine lv_iconst (v := nI 0) hx hb (dk kX6_put_ok 1 rfl) rfl ?_
  refine pf (rfSet cI ad F k r ps sl sd ne fa bu hs st ln pt (nI 0)) hx hb hts (fun w h => List.mem_cons_of_mem _ (acX6 w h)) tyX6 tyX6_ok nmX6 hown hK hDi hP hS hk0 rfSet_at.1 rfl 11 (by decide) (hts _ (List.mem_cons_of_mem _ (ac18 _ (List.mem_of_getElem? (i := 4) rfl)))) (fun _ h => h) rfl (ty := .int) rfl rfl rfl (Nat.le_of_ble_eq_true rfl) (dk kX6_put_ok 2 rfl) rfSet_u0 (fun H locs hP hS => ?_)
  refine lv_iload_n hx hb (dk kX6_put_ok 3 rfl) rfl (lv_at hl 1 rfl) ?_
  refine lv_iconst (v := nI 0) hx hb (dk kX6_put_ok 4 rfl) rfl ?_
  refine lv_bipush (v := nI 15) hx hb (dk kX6_put_ok 5 rfl) rfl ?_
  refine csP (As := [.int x, .int (nI 0), .int (nI 15)]) (rest := []) ⟨hx, hb, hml, hown, hts⟩ (tX6_in l x (nI 0) (nI 15)) (cwS9 3 hts mcX6_in (ac19 _ (List.mem_of_getElem? (i := 12) rfl)) msX6_in mini_RX6 rfl rfl hdX6_in ⟨Nat.le_of_ble_eq_true rfl, Nat.le_of_ble_eq_true rfl⟩) rfl hl.1 rfl (Nat.le_of_ble_eq_true rfl) (by decide) (dk kX6_put_ok 6 rfl) ?_
  refine b_if_eq (tgt := 35) hx hb (dk kX6_put_ok 7 rfl) (by decide) (fun h1 => ?_) (fun h1 => ?_)
  · skip
    refine lv_aload_n hx hb (dk kX6_put_ok 18 rfl) rfl (lv_at hl 0 rfl) ?_
    refine lv_iconst (v := nI 1) hx hb (dk kX6_put_ok 19 rfl) rfl ?_
    refine cvD (As := [.int (nI 1)]) (rest := []) (rfSet cI ad F k r ps sl sd ne fa bu hs st ln pt (nI 1)) ⟨hx, hb, hml, hown, hts⟩ (tX6_fails l D cI cQ cL ad N (rfSet cI ad F k r ps sl sd ne fa bu hs st ln pt (nI 0)) k hk r ps sl sd ne fa bu hs st ln pt (nI 0) (rfSet_at) (nI 1)) (cwV9 1 hts mcX6_fails (ac20 _ (List.mem_of_getElem? (i := 15) rfl)) miX6_fails meX6_fails mini_RX6 rfl rfl hdX6_fails ⟨Nat.le_of_ble_eq_true rfl, Nat.le_of_ble_eq_true rfl⟩) hDi hK hP hNW hS hk0 rfSet_at.1 rfl rfl hl.1 rfl (Nat.le_of_ble_eq_true rfl) (by decide) (dk kX6_put_ok 20 rfl) rfSet_rfSet (fun H locs hP hS => ?_)
    exact hret _ _ _ _ _ _ _ _ rfl (by simp (config := { decide := true }) only [dp, tPu, gP, h1, bI_1, bI_00, not_true_eq_false, not_false_eq_true, and_true, true_and, and_false, false_and, or_true, true_or, or_false, false_or, and_self, or_self, if_true, if_false, Bool.false_eq_true, reduceIte]; first | done | exact ⟨rfl, rfl⟩ | (simp_all; done)) hP hS (by decide) (by decide) (dk kX6_put_ok 21 rfl)
  · skip
    refine lv_iload_n hx hb (dk kX6_put_ok 8 rfl) rfl (lv_at hl 2 rfl) ?_
    refine lv_iconst (v := nI 0) hx hb (dk kX6_put_ok 9 rfl) rfl ?_
    refine lv_bipush (v := nI 12) hx hb (dk kX6_put_ok 10 rfl) rfl ?_
    refine csP (As := [.int y, .int (nI 0), .int (nI 12)]) (rest := []) ⟨hx, hb, hml, hown, hts⟩ (tX6_in l y (nI 0) (nI 12)) (cwS9 3 hts mcX6_in (ac19 _ (List.mem_of_getElem? (i := 12) rfl)) msX6_in mini_RX6 rfl rfl hdX6_in ⟨Nat.le_of_ble_eq_true rfl, Nat.le_of_ble_eq_true rfl⟩) rfl hl.1 rfl (Nat.le_of_ble_eq_true rfl) (by decide) (dk kX6_put_ok 11 rfl) ?_
    refine b_if_eq (tgt := 35) hx hb (dk kX6_put_ok 12 rfl) (by decide) (fun h2 => ?_) (fun h2 => ?_)
    · skip
      refine lv_aload_n hx hb (dk kX6_put_ok 18 rfl) rfl (lv_at hl 0 rfl) ?_
      refine lv_iconst (v := nI 1) hx hb (dk kX6_put_ok 19 rfl) rfl ?_
      refine cvD (As := [.int (nI 1)]) (rest := []) (rfSet cI ad F k r ps sl sd ne fa bu hs st ln pt (nI 1)) ⟨hx, hb, hml, hown, hts⟩ (tX6_fails l D cI cQ cL ad N (rfSet cI ad F k r ps sl sd ne fa bu hs st ln pt (nI 0)) k hk r ps sl sd ne fa bu hs st ln pt (nI 0) (rfSet_at) (nI 1)) (cwV9 1 hts mcX6_fails (ac20 _ (List.mem_of_getElem? (i := 15) rfl)) miX6_fails meX6_fails mini_RX6 rfl rfl hdX6_fails ⟨Nat.le_of_ble_eq_true rfl, Nat.le_of_ble_eq_true rfl⟩) hDi hK hP hNW hS hk0 rfSet_at.1 rfl rfl hl.1 rfl (Nat.le_of_ble_eq_true rfl) (by decide) (dk kX6_put_ok 20 rfl) rfSet_rfSet (fun H locs hP hS => ?_)
      exact hret _ _ _ _ _ _ _ _ rfl (by simp (config := { decide := true }) only [dp, tPu, gP, h1, h2, bI_1, bI_00, not_true_eq_false, not_false_eq_true, and_true, true_and, and_false, false_and, or_true, true_or, or_false, false_or, and_self, or_self, if_true, if_false, Bool.false_eq_true, reduceIte]; first | done | exact ⟨rfl, rfl⟩ | (simp_all; done)) hP hS (by decide) (by decide) (dk kX6_put_ok 21 rfl)
    · skip
      refine lv_iload_n hx hb (dk kX6_put_ok 13 rfl) rfl (lv_at hl 3 rfl) ?_
      refine lv_iconst (v := nI 0) hx hb (dk kX6_put_ok 14 rfl) rfl ?_
      refine lv_bipush (v := nI 12) hx hb (dk kX6_put_ok 15 rfl) rfl ?_
      refine csP (As := [.int z, .int (nI 0), .int (nI 12)]) (rest := []) ⟨hx, hb, hml, hown, hts⟩ (tX6_in l z (nI 0) (nI 12)) (cwS9 3 hts mcX6_in (ac19 _ (List.mem_of_getElem? (i := 12) rfl)) msX6_in mini_RX6 rfl rfl hdX6_in ⟨Nat.le_of_ble_eq_true rfl, Nat.le_of_ble_eq_true rfl⟩) rfl hl.1 rfl (Nat.le_of_ble_eq_true rfl) (by decide) (dk kX6_put_ok 16 rfl) ?_
      refine b_if_ne (tgt := 41) hx hb (dk kX6_put_ok 17 rfl) (by decide) (fun h3 => ?_) (fun h3 => ?_)
      · skip
        refine lv_aload_n hx hb (dk kX6_put_ok 22 rfl) rfl (lv_at hl 0 rfl) ?_
        refine cvR (As := []) (rest := []) ⟨hx, hb, hml, hown, hts⟩ (tX6_isOver l D cI cQ cL ad N (rfSet cI ad F k r ps sl sd ne fa bu hs st ln pt (nI 0)) k hk r ps sl sd ne fa bu hs st ln pt (nI 0) (rfSet_at)) (cwV9 0 hts mcX6_isOver (ac19 _ (List.mem_of_getElem? (i := 2) rfl)) miX6_isOver meX6_isOver mini_RX6 rfl rfl hdX6_isOver ⟨Nat.le_of_ble_eq_true rfl, Nat.le_of_ble_eq_true rfl⟩) hK hP hNW hk0 rfSet_at.1 rfl rfl hl.1 rfl (Nat.le_of_ble_eq_true rfl) (by decide) (dk kX6_put_ok 23 rfl) ?_
        refine b_if_ne (tgt := 56) hx hb (dk kX6_put_ok 24 rfl) (by decide) (fun h4 => ?_) (fun h4 => ?_)
        · skip
          refine lv_aload_n hx hb (dk kX6_put_ok 29 rfl) rfl (lv_at hl 0 rfl) ?_
          refine lv_iconst (v := nI 2) hx hb (dk kX6_put_ok 30 rfl) rfl ?_
          refine cvD (As := [.int (nI 2)]) (rest := []) (rfSet cI ad F k r ps sl sd ne fa bu hs st ln pt (nI 2)) ⟨hx, hb, hml, hown, hts⟩ (tX6_fails l D cI cQ cL ad N (rfSet cI ad F k r ps sl sd ne fa bu hs st ln pt (nI 0)) k hk r ps sl sd ne fa bu hs st ln pt (nI 0) (rfSet_at) (nI 2)) (cwV9 1 hts mcX6_fails (ac20 _ (List.mem_of_getElem? (i := 15) rfl)) miX6_fails meX6_fails mini_RX6 rfl rfl hdX6_fails ⟨Nat.le_of_ble_eq_true rfl, Nat.le_of_ble_eq_true rfl⟩) hDi hK hP hNW hS hk0 rfSet_at.1 rfl rfl hl.1 rfl (Nat.le_of_ble_eq_true rfl) (by decide) (dk kX6_put_ok 31 rfl) rfSet_rfSet (fun H locs hP hS => ?_)
          exact hret _ _ _ _ _ _ _ _ rfl (by simp (config := { decide := true }) only [dp, tPu, gP, h1, h2, h3, h4, bI_1, bI_00, not_true_eq_false, not_false_eq_true, and_true, true_and, and_false, false_and, or_true, true_or, or_false, false_or, and_self, or_self, if_true, if_false, Bool.false_eq_true, reduceIte]; first | done | exact ⟨rfl, rfl⟩ | (simp_all; done)) hP hS (by decide) (by decide) (dk kX6_put_ok 32 rfl)
        · skip
          refine lv_aload_n hx hb (dk kX6_put_ok 25 rfl) rfl (lv_at hl 0 rfl) ?_
          refine lv_iload_n hx hb (dk kX6_put_ok 26 rfl) rfl (lv_at hl 1 rfl) ?_
          refine cvR (As := [.int x]) (rest := []) ⟨hx, hb, hml, hown, hts⟩ (tX6_isCovered l D cI cQ cL ad N (rfSet cI ad F k r ps sl sd ne fa bu hs st ln pt (nI 0)) k hk r ps sl sd ne fa bu hs st ln pt (nI 0) (rfSet_at) x (ix x) (btw_eq h1) (by have := btw_le h1; omega)) (cwV9 1 hts mcX6_isCovered (ac18 _ (List.mem_of_getElem? (i := 18) rfl)) miX6_isCovered meX6_isCovered mini_RX6 rfl rfl hdX6_isCovered ⟨Nat.le_of_ble_eq_true rfl, Nat.le_of_ble_eq_true rfl⟩) hK hP hNW hk0 rfSet_at.1 rfl rfl hl.1 rfl (Nat.le_of_ble_eq_true rfl) (by decide) (dk kX6_put_ok 27 rfl) ?_
          refine b_if_eq (tgt := 62) hx hb (dk kX6_put_ok 28 rfl) (by decide) (fun h5 => ?_) (fun h5 => ?_)
          · skip
            refine lv_aload_n hx hb (dk kX6_put_ok 33 rfl) rfl (lv_at hl 0 rfl) ?_
            refine cvDv (As := []) (rest := []) (rfSet cI ad F k r (rcP ps r st) sl sd ne fa bu hs (rcS st) ln pt (nI 0)) ⟨hx, hb, hml, hown, hts⟩ (tX6_record l D cI cQ cL ad N (rfSet cI ad F k r ps sl sd ne fa bu hs st ln pt (nI 0)) k hk r ps sl sd ne fa bu hs st ln pt (nI 0) (rfSet_at) hst6) (cwV9 0 hts mcX6_record (ac20 _ (List.mem_of_getElem? (i := 23) rfl)) miX6_record meX6_record mini_RX6 rfl rfl hdX6_record ⟨Nat.le_of_ble_eq_true rfl, Nat.le_of_ble_eq_true rfl⟩) hDi hK hP hNW hS hk0 rfSet_at.1 rfl rfl hl.1 rfl (Nat.le_of_ble_eq_true rfl) (by decide) (dk kX6_put_ok 34 rfl) rfSet_rfSet (fun H locs hP hS => ?_)
            refine lv_aload_n hx hb (dk kX6_put_ok 35 rfl) rfl (lv_at hl 0 rfl) ?_
            refine lv_iload_n hx hb (dk kX6_put_ok 36 rfl) rfl (lv_at hl 1 rfl) ?_
            refine lv_bipush (v := nI 13) hx hb (dk kX6_put_ok 37 rfl) rfl ?_
            refine lv_iload_n hx hb (dk kX6_put_ok 38 rfl) rfl (lv_at hl 3 rfl) ?_
            refine lv_imul hx hb (dk kX6_put_ok 39 rfl) ?_
            refine lv_iload_n hx hb (dk kX6_put_ok 40 rfl) rfl (lv_at hl 2 rfl) ?_
            refine lv_iadd hx hb (dk kX6_put_ok 41 rfl) ?_
            refine cvDv (As := [.int x, .int (((nI 13) * z) + y)]) (rest := []) (rfSet cI ad F k (rly r (ix x) (((nI 13) * z) + y)) (rcP ps r st) sl sd ne fa bu hs (rcS st) ln pt (nI 0)) ⟨hx, hb, hml, hown, hts⟩ (tX6_lay l D cI cQ cL ad N (rfSet cI ad F k r (rcP ps r st) sl sd ne fa bu hs (rcS st) ln pt (nI 0)) k hk r (rcP ps r st) sl sd ne fa bu hs (rcS st) ln pt (nI 0) (rfSet_at) x (ix x) (btw_eq h1) (by have := btw_le h1; omega) (((nI 13) * z) + y)) (cwV9 2 hts mcX6_lay (ac19 _ (List.mem_of_getElem? (i := 21) rfl)) miX6_lay meX6_lay mini_RX6 rfl rfl hdX6_lay ⟨Nat.le_of_ble_eq_true rfl, Nat.le_of_ble_eq_true rfl⟩) hDi hK hP hNW hS hk0 rfSet_at.1 rfl rfl hl.1 rfl (Nat.le_of_ble_eq_true rfl) (by decide) (dk kX6_put_ok 42 rfl) rfSet_rfSet (fun H locs hP hS => ?_)
            refine lv_aload_n hx hb (dk kX6_put_ok 43 rfl) rfl (lv_at hl 0 rfl) ?_
            refine lv_bipush (v := nI 13) hx hb (dk kX6_put_ok 44 rfl) rfl ?_
            refine lv_iload_n hx hb (dk kX6_put_ok 45 rfl) rfl (lv_at hl 3 rfl) ?_
            refine lv_imul hx hb (dk kX6_put_ok 46 rfl) ?_
            refine lv_iload_n hx hb (dk kX6_put_ok 47 rfl) rfl (lv_at hl 2 rfl) ?_
            refine lv_iadd hx hb (dk kX6_put_ok 48 rfl) ?_
            refine cvR (As := [.int (((nI 13) * z) + y)]) (rest := []) ⟨hx, hb, hml, hown, hts⟩ (tX6_lying l D cI cQ cL ad N (rfSet cI ad F k (rly r (ix x) (((nI 13) * z) + y)) (rcP ps r st) sl sd ne fa bu hs (rcS st) ln pt (nI 0)) k hk (rly r (ix x) (((nI 13) * z) + y)) (rcP ps r st) sl sd ne fa bu hs (rcS st) ln pt (nI 0) (rfSet_at) (((nI 13) * z) + y)) (cwV9 1 hts mcX6_lying (ac18 _ (List.mem_of_getElem? (i := 10) rfl)) miX6_lying meX6_lying mini_RX6 rfl rfl hdX6_lying ⟨Nat.le_of_ble_eq_true rfl, Nat.le_of_ble_eq_true rfl⟩) hK hP hNW hk0 rfSet_at.1 rfl rfl hl.1 rfl (Nat.le_of_ble_eq_true rfl) (by decide) (dk kX6_put_ok 49 rfl) ?_
            exact hret _ _ _ _ _ _ _ _ rfl (by simp (config := { decide := true }) only [dp, tPu, gP, h1, h2, h3, h4, h5, bI_1, bI_00, not_true_eq_false, not_false_eq_true, and_true, true_and, and_false, false_and, or_true, true_or, or_false, false_or, and_self, or_self, if_true, if_false, Bool.false_eq_true, reduceIte]; first | done | exact ⟨rfl, rfl⟩ | (simp_all; done)) hP hS (by decide) (by decide) (dk kX6_put_ok 50 rfl)
          · skip
            refine lv_aload_n hx hb (dk kX6_put_ok 29 rfl) rfl (lv_at hl 0 rfl) ?_
            refine lv_iconst (v := nI 2) hx hb (dk kX6_put_ok 30 rfl) rfl ?_
            refine cvD (As := [.int (nI 2)]) (rest := []) (rfSet cI ad F k r ps sl sd ne fa bu hs st ln pt (nI 2)) ⟨hx, hb, hml, hown, hts⟩ (tX6_fails l D cI cQ cL ad N (rfSet cI ad F k r ps sl sd ne fa bu hs st ln pt (nI 0)) k hk r ps sl sd ne fa bu hs st ln pt (nI 0) (rfSet_at) (nI 2)) (cwV9 1 hts mcX6_fails (ac20 _ (List.mem_of_getElem? (i := 15) rfl)) miX6_fails meX6_fails mini_RX6 rfl rfl hdX6_fails ⟨Nat.le_of_ble_eq_true rfl, Nat.le_of_ble_eq_true rfl⟩) hDi hK hP hNW hS hk0 rfSet_at.1 rfl rfl hl.1 rfl (Nat.le_of_ble_eq_true rfl) (by decide) (dk kX6_put_ok 31 rfl) rfSet_rfSet (fun H locs hP hS => ?_)
            exact hret _ _ _ _ _ _ _ _ rfl (by simp (config := { decide := true }) only [dp, tPu, gP, h1, h2, h3, h4, h5, bI_1, bI_00, not_true_eq_false, not_false_eq_true, and_true, true_and, and_false, false_and, or_true, true_or, or_false, false_or, and_self, or_self, if_true, if_false, Bool.false_eq_true, reduceIte]; first | done | exact ⟨rfl, rfl⟩ | (simp_all; done)) hP hS (by decide) (by decide) (dk kX6_put_ok 32 rfl)
      · skip
        refine lv_aload_n hx hb (dk kX6_put_ok 18 rfl) rfl (lv_at hl 0 rfl) ?_
        refine lv_iconst (v := nI 1) hx hb (dk kX6_put_ok 19 rfl) rfl ?_
        refine cvD (As := [.int (nI 1)]) (rest := []) (rfSet cI ad F k r ps sl sd ne fa bu hs st ln pt (nI 1)) ⟨hx, hb, hml, hown, hts⟩ (tX6_fails l D cI cQ cL ad N (rfSet cI ad F k r ps sl sd ne fa bu hs st ln pt (nI 0)) k hk r ps sl sd ne fa bu hs st ln pt (nI 0) (rfSet_at) (nI 1)) (cwV9 1 hts mcX6_fails (ac20 _ (List.mem_of_getElem? (i := 15) rfl)) miX6_fails meX6_fails mini_RX6 rfl rfl hdX6_fails ⟨Nat.le_of_ble_eq_true rfl, Nat.le_of_ble_eq_true rfl⟩) hDi hK hP hNW hS hk0 rfSet_at.1 rfl rfl hl.1 rfl (Nat.le_of_ble_eq_true rfl) (by decide) (dk kX6_put_ok 20 rfl) rfSet_rfSet (fun H locs hP hS => ?_)
        exact hret _ _ _ _ _ _ _ _ rfl (by simp (config := { decide := true }) only [dp, tPu, gP, h1, h2, h3, bI_1, bI_00, not_true_eq_false, not_false_eq_true, and_true, true_and, and_false, false_and, or_true, true_or, or_false, false_or, and_self, or_self, if_true, if_false, Bool.false_eq_true, reduceIte]; first | done | exact ⟨rfl, rfl⟩ | (simp_all; done)) hP hS (by decide) (by decide) (dk kX6_put_ok 21 rfl)
set_option maxRecDepth 100000 in
set_option maxHeartbeats 4000000 in
theorem tX6_append (l : Launch) (D : va_G) (cI cQ cL : ClassId) (ad : Nat → Nat) (N : Nat) (F : Nat → va_E) (k : Nat) (hk : k + 7 < N) (r ps sl sd ne fa bu : Nat → Int32) (hs : Bool) (st ln pt : Nat) (th : Int32) (hR : rfAt cI ad F k r ps sl sd ne fa bu hs st ln pt th) (x : Int32) (hln : ln ≤ 60) : MX l yX6_append (Cond.code yX6_append cX6_append 2 (some .int) :: AW) ({ frames := 1, cells := 0, slots := 0, locals := 22 } : Room) D cI cQ cL ad N F [.ref (ad k), .int x] (dp (some (.int (if (btw x (nI 33) (nI 126) && !(decide (ln = 60))) = true then nI (ln + 1) else nI 0))) (rfSet cI ad F k r ps sl sd ne fa (if (btw x (nI 33) (nI 126) && !(decide (ln = 60))) = true then upd bu ln x else bu) hs st (if (btw x (nI 33) (nI 126) && !(decide (ln = 60))) = true then ln + 1 else ln) pt (if btw x (nI 33) (nI 126) = true then (if ln = 60 then nI 2 else nI 0) else nI 1))) 0 0 := by
  refine mx_i (ty := .int) (by decide +kernel) rfl (Nat.le_of_ble_eq_true rfl) (fun p e s m below meth cd Q ls hx hb hml hown hts hDi hP hK hNW hS hret hl => ?_)
  have hown : s.vm.findClass RX6 = some m.cls := hown
  have hk0 : k < N := by omega
  have hk1 : k + 1 < N := by omega
  have hk2 : k + 2 < N := by omega
  have hk3 : k + 3 < N := by omega
  have hk4 : k + 4 < N := by omega
  have hk5 : k + 5 < N := by omega
  have hk6 : k + 6 < N := by omega
  have hk7 : k + 7 < N := by omega
  have hP : va_P D vwCl (iW ad N (rfSet cI ad F k r ps sl sd ne fa bu hs st ln pt th)) s.heap := by rw [rfSet_self hR]; exact hP
  have hl : lv_has ls 2 [(0, .ref (ad k)), (1, .int x)] := hl
  refine lv_aload_n hx hb (dk kX6_append_ok 0 rfl) rfl (lv_at hl 0 rfl) ?_
  refine lv_iconst (v := nI 0) hx hb (dk kX6_append_ok 1 rfl) rfl ?_
  refine pf (rfSet cI ad F k r ps sl sd ne fa bu hs st ln pt (nI 0)) hx hb hts (fun w h => List.mem_cons_of_mem _ (acX6 w h)) tyX6 tyX6_ok nmX6 hown hK hDi hP hS hk0 rfSet_at.1 rfl 11 (by decide) (hts _ (List.mem_cons_of_mem _ (ac18 _ (List.mem_of_getElem? (i := 4) rfl)))) (fun _ h => h) rfl (ty := .int) rfl rfl rfl (Nat.le_of_ble_eq_true rfl) (dk kX6_append_ok 2 rfl) rfSet_u0 (fun H locs hP hS => ?_)
  refine lv_iload_n hx hb (dk kX6_append_ok 3 rfl) rfl (lv_at hl 1 rfl) ?_
  refine lv_bipush (v := nI 33) hx hb (dk kX6_append_ok 4 rfl) rfl ?_
  refine lv_bipush (v := nI 126) hx hb (dk kX6_append_ok 5 rfl) rfl ?_
  refine csP (As := [.int x, .int (nI 33), .int (nI 126)]) (rest := []) ⟨hx, hb, hml, hown, hts⟩ (tX6_in l x (nI 33) (nI 126)) (cwS9 3 hts mcX6_in (ac19 _ (List.mem_of_getElem? (i := 12) rfl)) msX6_in mini_RX6 rfl rfl hdX6_in ⟨Nat.le_of_ble_eq_true rfl, Nat.le_of_ble_eq_true rfl⟩) rfl hl.1 rfl (Nat.le_of_ble_eq_true rfl) (by decide) (dk kX6_append_ok 6 rfl) ?_
  refine b_if_ne (tgt := 22) hx hb (dk kX6_append_ok 7 rfl) (by decide) (fun h1 => ?_) (fun h1 => ?_)
  · skip
    refine lv_aload_n hx hb (dk kX6_append_ok 12 rfl) rfl (lv_at hl 0 rfl) ?_
    refine gf hx hb hts (fun w h => List.mem_cons_of_mem _ (acX6 w h)) hown hK hP hk0 rfSet_at.1 rfl 9 (by decide) (hts _ (List.mem_cons_of_mem _ (ac21 _ (List.mem_of_getElem? (i := 15) rfl)))) (fun _ h => h) rfl (dk kX6_append_ok 13 rfl) ?_
    refine lv_bipush (v := nI 60) hx hb (dk kX6_append_ok 14 rfl) rfl ?_
    refine n_icmp_ne (tgt := 37) hx hb (by omega) (by decide) (dk kX6_append_ok 15 rfl) (by decide) (fun h2 => ?_) (fun h2 => ?_)
    · skip
      refine lv_aload_n hx hb (dk kX6_append_ok 20 rfl) rfl (lv_at hl 0 rfl) ?_
      refine gf hx hb hts (fun w h => List.mem_cons_of_mem _ (acX6 w h)) hown hK hP hk0 rfSet_at.1 rfl 6 (by decide) (hts _ (List.mem_cons_of_mem _ (ac17 _ (List.mem_of_getElem? (i := 23) rfl)))) (fun _ h => h) rfl (dk kX6_append_ok 21 rfl) ?_
      refine lv_aload_n hx hb (dk kX6_append_ok 22 rfl) rfl (lv_at hl 0 rfl) ?_
      refine gf hx hb hts (fun w h => List.mem_cons_of_mem _ (acX6 w h)) hown hK hP hk0 rfSet_at.1 rfl 9 (by decide) (hts _ (List.mem_cons_of_mem _ (ac21 _ (List.mem_of_getElem? (i := 15) rfl)))) (fun _ h => h) rfl (dk kX6_append_ok 23 rfl) ?_
      refine lv_iload_n hx hb (dk kX6_append_ok 24 rfl) rfl (lv_at hl 1 rfl) ?_
      refine ast (rfSet cI ad F k r ps sl sd ne fa (upd bu ln x) hs st ln pt (nI 0)) (j := ln) hx hb hK hDi hP hS hk7 rfSet_at.2.2.2.2.2.2.2 rfl (by omega) (by decide) (dk kX6_append_ok 25 rfl) rfSet_u7 (fun H locs hP hS => ?_)
      refine lv_aload_n hx hb (dk kX6_append_ok 26 rfl) rfl (lv_at hl 0 rfl) ?_
      refine lv_dup hx hb (dk kX6_append_ok 27 rfl) rfl ?_
      refine gf hx hb hts (fun w h => List.mem_cons_of_mem _ (acX6 w h)) hown hK hP hk0 rfSet_at.1 rfl 9 (by decide) (hts _ (List.mem_cons_of_mem _ (ac21 _ (List.mem_of_getElem? (i := 15) rfl)))) (fun _ h => h) rfl (dk kX6_append_ok 28 rfl) ?_
      refine lv_iconst (v := nI 1) hx hb (dk kX6_append_ok 29 rfl) rfl ?_
      refine n_iadd hx hb (dk kX6_append_ok 30 rfl) ?_
      refine pf (rfSet cI ad F k r ps sl sd ne fa (upd bu ln x) hs st (ln + 1) pt (nI 0)) hx hb hts (fun w h => List.mem_cons_of_mem _ (acX6 w h)) tyX6 tyX6_ok nmX6 hown hK hDi hP hS hk0 rfSet_at.1 rfl 9 (by decide) (hts _ (List.mem_cons_of_mem _ (ac21 _ (List.mem_of_getElem? (i := 15) rfl)))) (fun _ h => h) rfl (ty := .int) rfl rfl rfl (Nat.le_of_ble_eq_true rfl) (dk kX6_append_ok 31 rfl) rfSet_u0 (fun H locs hP hS => ?_)
      refine lv_aload_n hx hb (dk kX6_append_ok 32 rfl) rfl (lv_at hl 0 rfl) ?_
      refine gf hx hb hts (fun w h => List.mem_cons_of_mem _ (acX6 w h)) hown hK hP hk0 rfSet_at.1 rfl 9 (by decide) (hts _ (List.mem_cons_of_mem _ (ac21 _ (List.mem_of_getElem? (i := 15) rfl)))) (fun _ h => h) rfl (dk kX6_append_ok 33 rfl) ?_
      exact hret _ _ _ _ _ _ _ _ rfl (by simp (config := { decide := true }) only [dp, Bool.true_and, Bool.false_and, decide_true, decide_false, Bool.not_true, Bool.not_false, h1, (eq_false h2), bI_1, bI_00, not_true_eq_false, not_false_eq_true, and_true, true_and, and_false, false_and, or_true, true_or, or_false, false_or, and_self, or_self, if_true, if_false, Bool.false_eq_true, reduceIte]; first | done | exact ⟨rfl, rfl⟩ | (simp_all; done)) hP hS (by decide) (by decide) (dk kX6_append_ok 34 rfl)
    · skip
      refine lv_aload_n hx hb (dk kX6_append_ok 16 rfl) rfl (lv_at hl 0 rfl) ?_
      refine lv_iconst (v := nI 2) hx hb (dk kX6_append_ok 17 rfl) rfl ?_
      refine cvD (As := [.int (nI 2)]) (rest := []) (rfSet cI ad F k r ps sl sd ne fa bu hs st ln pt (nI 2)) ⟨hx, hb, hml, hown, hts⟩ (tX6_fails l D cI cQ cL ad N (rfSet cI ad F k r ps sl sd ne fa bu hs st ln pt (nI 0)) k hk r ps sl sd ne fa bu hs st ln pt (nI 0) (rfSet_at) (nI 2)) (cwV9 1 hts mcX6_fails (ac20 _ (List.mem_of_getElem? (i := 15) rfl)) miX6_fails meX6_fails mini_RX6 rfl rfl hdX6_fails ⟨Nat.le_of_ble_eq_true rfl, Nat.le_of_ble_eq_true rfl⟩) hDi hK hP hNW hS hk0 rfSet_at.1 rfl rfl hl.1 rfl (Nat.le_of_ble_eq_true rfl) (by decide) (dk kX6_append_ok 18 rfl) rfSet_rfSet (fun H locs hP hS => ?_)
      exact hret _ _ _ _ _ _ _ _ rfl (by simp (config := { decide := true }) only [dp, Bool.true_and, Bool.false_and, decide_true, decide_false, Bool.not_true, Bool.not_false, h1, (eq_true h2), bI_1, bI_00, not_true_eq_false, not_false_eq_true, and_true, true_and, and_false, false_and, or_true, true_or, or_false, false_or, and_self, or_self, if_true, if_false, Bool.false_eq_true, reduceIte]; first | done | exact ⟨rfl, rfl⟩ | (simp_all; done)) hP hS (by decide) (by decide) (dk kX6_append_ok 19 rfl)
  · skip
    refine lv_aload_n hx hb (dk kX6_append_ok 8 rfl) rfl (lv_at hl 0 rfl) ?_
    refine lv_iconst (v := nI 1) hx hb (dk kX6_append_ok 9 rfl) rfl ?_
    refine cvD (As := [.int (nI 1)]) (rest := []) (rfSet cI ad F k r ps sl sd ne fa bu hs st ln pt (nI 1)) ⟨hx, hb, hml, hown, hts⟩ (tX6_fails l D cI cQ cL ad N (rfSet cI ad F k r ps sl sd ne fa bu hs st ln pt (nI 0)) k hk r ps sl sd ne fa bu hs st ln pt (nI 0) (rfSet_at) (nI 1)) (cwV9 1 hts mcX6_fails (ac20 _ (List.mem_of_getElem? (i := 15) rfl)) miX6_fails meX6_fails mini_RX6 rfl rfl hdX6_fails ⟨Nat.le_of_ble_eq_true rfl, Nat.le_of_ble_eq_true rfl⟩) hDi hK hP hNW hS hk0 rfSet_at.1 rfl rfl hl.1 rfl (Nat.le_of_ble_eq_true rfl) (by decide) (dk kX6_append_ok 10 rfl) rfSet_rfSet (fun H locs hP hS => ?_)
    exact hret _ _ _ _ _ _ _ _ rfl (by simp (config := { decide := true }) only [dp, Bool.true_and, Bool.false_and, decide_true, decide_false, Bool.not_true, Bool.not_false, h1, bI_1, bI_00, not_true_eq_false, not_false_eq_true, and_true, true_and, and_false, false_and, or_true, true_or, or_false, false_or, and_self, or_self, if_true, if_false, Bool.false_eq_true, reduceIte]; first | done | exact ⟨rfl, rfl⟩ | (simp_all; done)) hP hS (by decide) (by decide) (dk kX6_append_ok 11 rfl)
set_option maxRecDepth 100000 in
set_option maxHeartbeats 4000000 in
theorem tX6_clearBuffer (l : Launch) (D : va_G) (cI cQ cL : ClassId) (ad : Nat → Nat) (N : Nat) (F : Nat → va_E) (k : Nat) (hk : k + 7 < N) (r ps sl sd ne fa bu : Nat → Int32) (hs : Bool) (st ln pt : Nat) (th : Int32) (hR : rfAt cI ad F k r ps sl sd ne fa bu hs st ln pt th) : MX l yX6_clearBuffer (Cond.code yX6_clearBuffer cX6_clearBuffer 2 (some .int) :: AW) ({ frames := 0, cells := 0, slots := 0, locals := 0 } : Room) D cI cQ cL ad N F [.ref (ad k)] (dp (some (.int (nI ln))) (rfSet cI ad F k r ps sl sd ne fa bu hs st 0 pt (nI 0))) 0 0 := by
  refine mx_i (ty := .int) (by decide +kernel) rfl (Nat.le_of_ble_eq_true rfl) (fun p e s m below meth cd Q ls hx hb hml hown hts hDi hP hK hNW hS hret hl => ?_)
  have hown : s.vm.findClass RX6 = some m.cls := hown
  have hk0 : k < N := by omega
  have hk1 : k + 1 < N := by omega
  have hk2 : k + 2 < N := by omega
  have hk3 : k + 3 < N := by omega
  have hk4 : k + 4 < N := by omega
  have hk5 : k + 5 < N := by omega
  have hk6 : k + 6 < N := by omega
  have hk7 : k + 7 < N := by omega
  have hP : va_P D vwCl (iW ad N (rfSet cI ad F k r ps sl sd ne fa bu hs st ln pt th)) s.heap := by rw [rfSet_self hR]; exact hP
  have hl : lv_has ls 2 [(0, .ref (ad k))] := hl
  refine lv_aload_n hx hb (dk kX6_clearBuffer_ok 0 rfl) rfl (lv_at hl 0 rfl) ?_
  refine lv_iconst (v := nI 0) hx hb (dk kX6_clearBuffer_ok 1 rfl) rfl ?_
  refine pf (rfSet cI ad F k r ps sl sd ne fa bu hs st ln pt (nI 0)) hx hb hts (fun w h => List.mem_cons_of_mem _ (acX6 w h)) tyX6 tyX6_ok nmX6 hown hK hDi hP hS hk0 rfSet_at.1 rfl 11 (by decide) (hts _ (List.mem_cons_of_mem _ (ac18 _ (List.mem_of_getElem? (i := 4) rfl)))) (fun _ h => h) rfl (ty := .int) rfl rfl rfl (Nat.le_of_ble_eq_true rfl) (dk kX6_clearBuffer_ok 2 rfl) rfSet_u0 (fun H locs hP hS => ?_)
  refine lv_aload_n hx hb (dk kX6_clearBuffer_ok 3 rfl) rfl (lv_at hl 0 rfl) ?_
  refine gf hx hb hts (fun w h => List.mem_cons_of_mem _ (acX6 w h)) hown hK hP hk0 rfSet_at.1 rfl 9 (by decide) (hts _ (List.mem_cons_of_mem _ (ac21 _ (List.mem_of_getElem? (i := 15) rfl)))) (fun _ h => h) rfl (dk kX6_clearBuffer_ok 4 rfl) ?_
  refine lv_istore_n (lv' := [(1, .int (nI ln)), (0, .ref (ad k))]) hx hb (dk kX6_clearBuffer_ok 5 rfl) rfl hl (by decide) rfl (fun ls hl => ?_)
  refine lv_aload_n hx hb (dk kX6_clearBuffer_ok 6 rfl) rfl (lv_at hl 1 rfl) ?_
  refine lv_iconst (v := nI 0) hx hb (dk kX6_clearBuffer_ok 7 rfl) rfl ?_
  refine pf (rfSet cI ad F k r ps sl sd ne fa bu hs st 0 pt (nI 0)) hx hb hts (fun w h => List.mem_cons_of_mem _ (acX6 w h)) tyX6 tyX6_ok nmX6 hown hK hDi hP hS hk0 rfSet_at.1 rfl 9 (by decide) (hts _ (List.mem_cons_of_mem _ (ac21 _ (List.mem_of_getElem? (i := 15) rfl)))) (fun _ h => h) rfl (ty := .int) rfl rfl rfl (Nat.le_of_ble_eq_true rfl) (dk kX6_clearBuffer_ok 8 rfl) rfSet_u0 (fun H locs hP hS => ?_)
  refine lv_iload_n hx hb (dk kX6_clearBuffer_ok 9 rfl) rfl (lv_at hl 0 rfl) ?_
  exact hret _ _ _ _ _ _ _ _ rfl (by exact ⟨rfl, rfl⟩) hP hS (by decide) (by decide) (dk kX6_clearBuffer_ok 10 rfl)
set_option maxRecDepth 100000 in
set_option maxHeartbeats 4000000 in
theorem tX6_keep (l : Launch) (D : va_G) (cI cQ cL : ClassId) (ad : Nat → Nat) (N : Nat) (F : Nat → va_E) (k : Nat) (hk : k + 7 < N) (r ps sl sd ne fa bu : Nat → Int32) (hs : Bool) (st ln pt : Nat) (th : Int32) (hR : rfAt cI ad F k r ps sl sd ne fa bu hs st ln pt th) : MX l yX6_keep (Cond.code yX6_keep cX6_keep 2 (some .int) :: AW) ({ frames := 3, cells := 0, slots := 0, locals := 64 } : Room) D cI cQ cL ad N F [.ref (ad k)] (dp (some (.int (nI (potn r)))) (rfSet cI ad F k r ps r sd ne fa bu true st ln pt (nI 0))) 0 0 := by
  refine mx_i (ty := .int) (by decide +kernel) rfl (Nat.le_of_ble_eq_true rfl) (fun p e s m below meth cd Q ls hx hb hml hown hts hDi hP hK hNW hS hret hl => ?_)
  have hown : s.vm.findClass RX6 = some m.cls := hown
  have hk0 : k < N := by omega
  have hk1 : k + 1 < N := by omega
  have hk2 : k + 2 < N := by omega
  have hk3 : k + 3 < N := by omega
  have hk4 : k + 4 < N := by omega
  have hk5 : k + 5 < N := by omega
  have hk6 : k + 6 < N := by omega
  have hk7 : k + 7 < N := by omega
  have hP : va_P D vwCl (iW ad N (rfSet cI ad F k r ps sl sd ne fa bu hs st ln pt th)) s.heap := by rw [rfSet_self hR]; exact hP
  have hl : lv_has ls 2 [(0, .ref (ad k))] := hl
  refine lv_aload_n hx hb (dk kX6_keep_ok 0 rfl) rfl (lv_at hl 0 rfl) ?_
  refine lv_iconst (v := nI 0) hx hb (dk kX6_keep_ok 1 rfl) rfl ?_
  refine pf (rfSet cI ad F k r ps sl sd ne fa bu hs st ln pt (nI 0)) hx hb hts (fun w h => List.mem_cons_of_mem _ (acX6 w h)) tyX6 tyX6_ok nmX6 hown hK hDi hP hS hk0 rfSet_at.1 rfl 11 (by decide) (hts _ (List.mem_cons_of_mem _ (ac18 _ (List.mem_of_getElem? (i := 4) rfl)))) (fun _ h => h) rfl (ty := .int) rfl rfl rfl (Nat.le_of_ble_eq_true rfl) (dk kX6_keep_ok 2 rfl) rfSet_u0 (fun H locs hP hS => ?_)
  refine lv_iconst (v := nI 0) hx hb (dk kX6_keep_ok 3 rfl) rfl ?_
  refine lv_istore_n (lv' := [(1, .int (nI 0)), (0, .ref (ad k))]) hx hb (dk kX6_keep_ok 4 rfl) rfl hl (by decide) rfl (fun ls hl => ?_)
  have L7 : ∀ (fu : Nat) (i : Nat) (H : Heap) (locs : List Loc), va_P D vwCl (iW ad N (rfSet cI ad F k r ps (cp9 sl r 0 i) sd ne fa bu hs st ln pt (nI 0))) H → va_S (iA ad N s.heap.size) s.heap H locs → i ≤ 60 → 60 - i < fu → ∀ ls : Array Slot, lv_has ls 2 [(0, .ref (ad k)), (1, .int (nI i))] → W p l e ({ frames := 3, cells := 0, slots := 0, locals := 64 } : Room) s m ([.ref (ad k)] : List Value).toArray below meth cd H locs 0 0 Q (F0 m 7 ls []) := by
    intro fu
    induction fu with
    | zero => intros; omega
    | succ fu ih7 =>
      intro i H locs hP hS hi hm7 ls hl
      refine lv_iload_n hx hb (dk kX6_keep_ok 5 rfl) rfl (lv_at hl 1 rfl) ?_
      refine lv_bipush (v := nI 60) hx hb (dk kX6_keep_ok 6 rfl) rfl ?_
      refine n_icmp_ge (tgt := 31) hx hb (by omega) (by decide) (dk kX6_keep_ok 7 rfl) (by decide) (fun h1 => ?_) (fun h1 => ?_)
      · skip
        refine lv_aload_n hx hb (dk kX6_keep_ok 18 rfl) rfl (lv_at hl 0 rfl) ?_
        refine lv_iconst (v := nI 1) hx hb (dk kX6_keep_ok 19 rfl) rfl ?_
        refine pf (rfSet cI ad F k r ps (cp9 sl r 0 i) sd ne fa bu true st ln pt (nI 0)) hx hb hts (fun w h => List.mem_cons_of_mem _ (acX6 w h)) tyX6 tyX6_ok nmX6 hown hK hDi hP hS hk0 rfSet_at.1 rfl 7 (by decide) (hts _ (List.mem_cons_of_mem _ (ac22 _ (List.mem_of_getElem? (i := 9) rfl)))) (fun _ h => h) rfl (ty := .boolean) rfl rfl rfl (Nat.le_of_ble_eq_true rfl) (dk kX6_keep_ok 20 rfl) (rfSet_u0 (hs' := true)) (fun H locs hP hS => ?_)
        refine lv_aload_n hx hb (dk kX6_keep_ok 21 rfl) rfl (lv_at hl 0 rfl) ?_
        refine cvR (As := []) (rest := []) ⟨hx, hb, hml, hown, hts⟩ (tX6_pottedInAll l D cI cQ cL ad N (rfSet cI ad F k r ps (cp9 sl r 0 i) sd ne fa bu true st ln pt (nI 0)) k hk r ps (cp9 sl r 0 i) sd ne fa bu true st ln pt (nI 0) (rfSet_at)) (cwV9 0 hts mcX6_pottedInAll (ac22 _ (List.mem_of_getElem? (i := 10) rfl)) miX6_pottedInAll meX6_pottedInAll mini_RX6 rfl rfl hdX6_pottedInAll ⟨Nat.le_of_ble_eq_true rfl, Nat.le_of_ble_eq_true rfl⟩) hK hP hNW hk0 rfSet_at.1 rfl rfl hl.1 rfl (Nat.le_of_ble_eq_true rfl) (by decide) (dk kX6_keep_ok 22 rfl) ?_
        exact hret _ _ _ _ _ _ _ _ rfl (by exact ⟨rfl, rfl⟩) (rf_ext (by rw [show i = 60 by omega] at hP; exact hP) (h3 := fun _ h9 => cp9_lo h9)) hS (by decide) (by decide) (dk kX6_keep_ok 23 rfl)
      · skip
        refine lv_aload_n hx hb (dk kX6_keep_ok 8 rfl) rfl (lv_at hl 0 rfl) ?_
        refine gf hx hb hts (fun w h => List.mem_cons_of_mem _ (acX6 w h)) hown hK hP hk0 rfSet_at.1 rfl 2 (by decide) (hts _ (List.mem_cons_of_mem _ (ac17 _ (List.mem_of_getElem? (i := 19) rfl)))) (fun _ h => h) rfl (dk kX6_keep_ok 9 rfl) ?_
        refine lv_iload_n hx hb (dk kX6_keep_ok 10 rfl) rfl (lv_at hl 1 rfl) ?_
        refine lv_aload_n hx hb (dk kX6_keep_ok 11 rfl) rfl (lv_at hl 0 rfl) ?_
        refine gf hx hb hts (fun w h => List.mem_cons_of_mem _ (acX6 w h)) hown hK hP hk0 rfSet_at.1 rfl 0 (by decide) (hts _ (List.mem_cons_of_mem _ (ac17 _ (List.mem_of_getElem? (i := 17) rfl)))) (fun _ h => h) rfl (dk kX6_keep_ok 12 rfl) ?_
        refine lv_iload_n hx hb (dk kX6_keep_ok 13 rfl) rfl (lv_at hl 1 rfl) ?_
        refine ald (j := i) hx hb hK hP hk1 rfSet_at.2.1 rfl (by omega) (by decide) (dk kX6_keep_ok 14 rfl) ?_
        refine ast (rfSet cI ad F k r ps (upd (cp9 sl r 0 i) i (r i)) sd ne fa bu hs st ln pt (nI 0)) (j := i) hx hb hK hDi hP hS hk3 rfSet_at.2.2.2.1 rfl (by omega) (by decide) (dk kX6_keep_ok 15 rfl) rfSet_u3 (fun H locs hP hS => ?_)
        refine lv_iinc (v := nI (i + 1)) (lv' := [(1, .int (nI (i + 1))), (0, .ref (ad k))]) hx hb (dk kX6_keep_ok 16 rfl) hl (k := 1) rfl (n_inc _) (by decide) rfl (fun ls hl => ?_)
        refine lv_goto (tgt := 7) hx hb (dk kX6_keep_ok 17 rfl) (by decide) ?_
        exact ih7 (i + 1) _ _ (by first | (rw [cp9_0]; exact hP) | (rw [← cp9_s0]; exact hP)) hS (by omega) (by omega) ls (lv_sub hl [1, 0] rfl)
  exact L7 _ 0 _ _ (by first | (rw [cp9_0]; exact hP) | (rw [← cp9_s0]; exact hP)) hS (by omega) (Nat.lt_succ_self _) ls (lv_sub hl [1, 0] rfl)
