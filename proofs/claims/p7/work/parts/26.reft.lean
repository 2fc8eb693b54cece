set_option maxRecDepth 100000 in
set_option maxHeartbeats 4000000 in
theorem tX6_takes (l : Launch) (D : va_G) (cI cQ cL : ClassId) (ad : Nat → Nat) (N : Nat) (F : Nat → va_E) (k : Nat) (hk : k + 7 < N) (r ps sl sd ne fa bu : Nat → Int32) (hs : Bool) (st ln pt : Nat) (th : Int32) (hR : rfAt cI ad F k r ps sl sd ne fa bu hs st ln pt th) (x : Int32) (a : Nat) (hxa : x = nI a) (y : Int32) (b : Nat) (hyb : y = nI b) (hln : ln ≤ 60) (hpt9 : pt ≤ 60) : MX l yX6_takes (Cond.code yX6_takes cX6_takes 4 (some .boolean) :: AW) ({ frames := 1, cells := 0, slots := 0, locals := 22 } : Room) D cI cQ cL ad N F [.ref (ad k), .int x, .int y] (dp (some (.int (bI (tks bu ln pt a b)))) (rfSet cI ad F k r ps sl sd ne fa bu hs st ln (tkn bu ln pt a b) th)) 0 0 := by
  refine mx_i (ty := .boolean) (by decide +kernel) rfl (Nat.le_of_ble_eq_true rfl) (fun p e s m below meth cd Q ls hx hb hml hown hts hDi hP hK hNW hS hret hl => ?_)
  have hown : s.vm.findClass RX6 = some m.cls := hown
  subst hxa
  subst hyb
  have hk0 : k < N := by omega
  have hk1 : k + 1 < N := by omega
  have hk2 : k + 2 < N := by omega
  have hk3 : k + 3 < N := by omega
  have hk4 : k + 4 < N := by omega
  have hk5 : k + 5 < N := by omega
  have hk6 : k + 6 < N := by omega
  have hk7 : k + 7 < N := by omega
  have hP : va_P D vwCl (iW ad N (rfSet cI ad F k r ps sl sd ne fa bu hs st ln pt th)) s.heap := by rw [rfSet_self hR]; exact hP
  have hl : lv_has ls 4 [(0, .ref (ad k)), (1, .int (nI a)), (2, .int (nI b))] := hl
  refine lv_aload_n hx hb (dk kX6_takes_ok 0 rfl) rfl (lv_at hl 0 rfl) ?_
  refine gf hx hb hts (fun w h => List.mem_cons_of_mem _ (acX6 w h)) hown hK hP hk0 rfSet_at.1 rfl 10 (by decide) (hts _ (List.mem_cons_of_mem _ (ac21 _ (List.mem_of_getElem? (i := 16) rfl)))) (fun _ h => h) rfl (dk kX6_takes_ok 1 rfl) ?_
  refine lv_aload_n hx hb (dk kX6_takes_ok 2 rfl) rfl (lv_at hl 0 rfl) ?_
  refine gf hx hb hts (fun w h => List.mem_cons_of_mem _ (acX6 w h)) hown hK hP hk0 rfSet_at.1 rfl 9 (by decide) (hts _ (List.mem_cons_of_mem _ (ac21 _ (List.mem_of_getElem? (i := 15) rfl)))) (fun _ h => h) rfl (dk kX6_takes_ok 3 rfl) ?_
  refine n_icmp_ge (tgt := 32) hx hb (by have hpt := hpt9; omega) (by have hpt := hpt9; omega) (dk kX6_takes_ok 4 rfl) (by decide) (fun h1 => ?_) (fun h1 => ?_)
  · skip
    refine lv_iconst (v := nI 0) hx hb (dk kX6_takes_ok 16 rfl) rfl ?_
    refine lv_istore_n (lv' := [(3, .int (nI 0)), (0, .ref (ad k)), (1, .int (nI a)), (2, .int (nI b))]) hx hb (dk kX6_takes_ok 17 rfl) rfl hl (by decide) rfl (fun ls hl => ?_)
    refine lv_aload_n hx hb (dk kX6_takes_ok 18 rfl) rfl (lv_at hl 1 rfl) ?_
    refine lv_dup hx hb (dk kX6_takes_ok 19 rfl) rfl ?_
    refine gf hx hb hts (fun w h => List.mem_cons_of_mem _ (acX6 w h)) hown hK hP hk0 rfSet_at.1 rfl 10 (by decide) (hts _ (List.mem_cons_of_mem _ (ac21 _ (List.mem_of_getElem? (i := 16) rfl)))) (fun _ h => h) rfl (dk kX6_takes_ok 20 rfl) ?_
    refine lv_iload_n hx hb (dk kX6_takes_ok 21 rfl) rfl (lv_at hl 0 rfl) ?_
    refine n_if_eq (tgt := 47) hx hb (by decide) (dk kX6_takes_ok 22 rfl) (by decide) ?_ (fun h9 => absurd h9 (by decide))
    intro _
    refine lv_iconst (v := nI 0) hx hb (dk kX6_takes_ok 25 rfl) rfl ?_
    refine n_iadd hx hb (dk kX6_takes_ok 26 rfl) ?_
    refine pf (rfSet cI ad F k r ps sl sd ne fa bu hs st ln (pt + 0) th) hx hb hts (fun w h => List.mem_cons_of_mem _ (acX6 w h)) tyX6 tyX6_ok nmX6 hown hK hDi hP hS hk0 rfSet_at.1 rfl 10 (by decide) (hts _ (List.mem_cons_of_mem _ (ac21 _ (List.mem_of_getElem? (i := 16) rfl)))) (fun _ h => h) rfl (ty := .int) rfl rfl rfl (Nat.le_of_ble_eq_true rfl) (dk kX6_takes_ok 27 rfl) rfSet_u0 (fun H locs hP hS => ?_)
    refine lv_iload_n hx hb (dk kX6_takes_ok 28 rfl) rfl (lv_at hl 0 rfl) ?_
    exact hret _ _ _ _ _ _ _ _ rfl (by simp only [dp, tks, tkn, (eq_true h1), (eq_false (Nat.not_lt.mpr h1)), decide_true, decide_false, not_true_eq_false, not_false_eq_true, and_true, true_and, and_false, false_and, or_true, true_or, or_false, false_or, and_self, or_self, if_true, if_false, Bool.false_eq_true, reduceIte, Bool.and_true, Bool.true_and, Bool.and_false, Bool.false_and, bI_1, bI_00]; first | done | exact ⟨rfl, rfl⟩ | rfl) hP hS (by decide) (by decide) (dk kX6_takes_ok 29 rfl)
  · skip
    refine lv_aload_n hx hb (dk kX6_takes_ok 5 rfl) rfl (lv_at hl 0 rfl) ?_
    refine gf hx hb hts (fun w h => List.mem_cons_of_mem _ (acX6 w h)) hown hK hP hk0 rfSet_at.1 rfl 6 (by decide) (hts _ (List.mem_cons_of_mem _ (ac17 _ (List.mem_of_getElem? (i := 23) rfl)))) (fun _ h => h) rfl (dk kX6_takes_ok 6 rfl) ?_
    refine lv_aload_n hx hb (dk kX6_takes_ok 7 rfl) rfl (lv_at hl 0 rfl) ?_
    refine gf hx hb hts (fun w h => List.mem_cons_of_mem _ (acX6 w h)) hown hK hP hk0 rfSet_at.1 rfl 10 (by decide) (hts _ (List.mem_cons_of_mem _ (ac21 _ (List.mem_of_getElem? (i := 16) rfl)))) (fun _ h => h) rfl (dk kX6_takes_ok 8 rfl) ?_
    refine ald (j := pt) hx hb hK hP hk7 rfSet_at.2.2.2.2.2.2.2 rfl (by omega) (by decide) (dk kX6_takes_ok 9 rfl) ?_
    refine lv_iload_n hx hb (dk kX6_takes_ok 10 rfl) rfl (lv_at hl 1 rfl) ?_
    refine lv_iload_n hx hb (dk kX6_takes_ok 11 rfl) rfl (lv_at hl 2 rfl) ?_
    refine csP (As := [.int (bu pt), .int (nI a), .int (nI b)]) (rest := []) ⟨hx, hb, hml, hown, hts⟩ (tX6_in l (bu pt) (nI a) (nI b)) (cwS9 3 hts mcX6_in (ac19 _ (List.mem_of_getElem? (i := 12) rfl)) msX6_in mini_RX6 rfl rfl hdX6_in ⟨Nat.le_of_ble_eq_true rfl, Nat.le_of_ble_eq_true rfl⟩) rfl hl.1 rfl (Nat.le_of_ble_eq_true rfl) (by decide) (dk kX6_takes_ok 12 rfl) ?_
    refine b_if_eq (tgt := 32) hx hb (dk kX6_takes_ok 13 rfl) (by decide) (fun h2 => ?_) (fun h2 => ?_)
    · skip
      refine lv_iconst (v := nI 0) hx hb (dk kX6_takes_ok 16 rfl) rfl ?_
      refine lv_istore_n (lv' := [(3, .int (nI 0)), (0, .ref (ad k)), (1, .int (nI a)), (2, .int (nI b))]) hx hb (dk kX6_takes_ok 17 rfl) rfl hl (by decide) rfl (fun ls hl => ?_)
      refine lv_aload_n hx hb (dk kX6_takes_ok 18 rfl) rfl (lv_at hl 1 rfl) ?_
      refine lv_dup hx hb (dk kX6_takes_ok 19 rfl) rfl ?_
      refine gf hx hb hts (fun w h => List.mem_cons_of_mem _ (acX6 w h)) hown hK hP hk0 rfSet_at.1 rfl 10 (by decide) (hts _ (List.mem_cons_of_mem _ (ac21 _ (List.mem_of_getElem? (i := 16) rfl)))) (fun _ h => h) rfl (dk kX6_takes_ok 20 rfl) ?_
      refine lv_iload_n hx hb (dk kX6_takes_ok 21 rfl) rfl (lv_at hl 0 rfl) ?_
      refine n_if_eq (tgt := 47) hx hb (by decide) (dk kX6_takes_ok 22 rfl) (by decide) ?_ (fun h9 => absurd h9 (by decide))
      intro _
      refine lv_iconst (v := nI 0) hx hb (dk kX6_takes_ok 25 rfl) rfl ?_
      refine n_iadd hx hb (dk kX6_takes_ok 26 rfl) ?_
      refine pf (rfSet cI ad F k r ps sl sd ne fa bu hs st ln (pt + 0) th) hx hb hts (fun w h => List.mem_cons_of_mem _ (acX6 w h)) tyX6 tyX6_ok nmX6 hown hK hDi hP hS hk0 rfSet_at.1 rfl 10 (by decide) (hts _ (List.mem_cons_of_mem _ (ac21 _ (List.mem_of_getElem? (i := 16) rfl)))) (fun _ h => h) rfl (ty := .int) rfl rfl rfl (Nat.le_of_ble_eq_true rfl) (dk kX6_takes_ok 27 rfl) rfSet_u0 (fun H locs hP hS => ?_)
      refine lv_iload_n hx hb (dk kX6_takes_ok 28 rfl) rfl (lv_at hl 0 rfl) ?_
      exact hret _ _ _ _ _ _ _ _ rfl (by simp only [dp, tks, tkn, (eq_true h1), (eq_false (Nat.not_le.mpr h1)), h2, decide_true, decide_false, not_true_eq_false, not_false_eq_true, and_true, true_and, and_false, false_and, or_true, true_or, or_false, false_or, and_self, or_self, if_true, if_false, Bool.false_eq_true, reduceIte, Bool.and_true, Bool.true_and, Bool.and_false, Bool.false_and, bI_1, bI_00]; first | done | exact ⟨rfl, rfl⟩ | rfl) hP hS (by decide) (by decide) (dk kX6_takes_ok 29 rfl)
    · skip
      refine lv_iconst (v := nI 1) hx hb (dk kX6_takes_ok 14 rfl) rfl ?_
      refine lv_goto (tgt := 33) hx hb (dk kX6_takes_ok 15 rfl) (by decide) ?_
      refine lv_istore_n (lv' := [(3, .int (nI 1)), (0, .ref (ad k)), (1, .int (nI a)), (2, .int (nI b))]) hx hb (dk kX6_takes_ok 17 rfl) rfl hl (by decide) rfl (fun ls hl => ?_)
      refine lv_aload_n hx hb (dk kX6_takes_ok 18 rfl) rfl (lv_at hl 1 rfl) ?_
      refine lv_dup hx hb (dk kX6_takes_ok 19 rfl) rfl ?_
      refine gf hx hb hts (fun w h => List.mem_cons_of_mem _ (acX6 w h)) hown hK hP hk0 rfSet_at.1 rfl 10 (by decide) (hts _ (List.mem_cons_of_mem _ (ac21 _ (List.mem_of_getElem? (i := 16) rfl)))) (fun _ h => h) rfl (dk kX6_takes_ok 20 rfl) ?_
      refine lv_iload_n hx hb (dk kX6_takes_ok 21 rfl) rfl (lv_at hl 0 rfl) ?_
      refine n_if_eq (tgt := 47) hx hb (by decide) (dk kX6_takes_ok 22 rfl) (by decide) (fun h9 => absurd h9 (by decide)) ?_
      intro _
      refine lv_iconst (v := nI 1) hx hb (dk kX6_takes_ok 23 rfl) rfl ?_
      refine lv_goto (tgt := 48) hx hb (dk kX6_takes_ok 24 rfl) (by decide) ?_
      refine n_iadd hx hb (dk kX6_takes_ok 26 rfl) ?_
      refine pf (rfSet cI ad F k r ps sl sd ne fa bu hs st ln (pt + 1) th) hx hb hts (fun w h => List.mem_cons_of_mem _ (acX6 w h)) tyX6 tyX6_ok nmX6 hown hK hDi hP hS hk0 rfSet_at.1 rfl 10 (by decide) (hts _ (List.mem_cons_of_mem _ (ac21 _ (List.mem_of_getElem? (i := 16) rfl)))) (fun _ h => h) rfl (ty := .int) rfl rfl rfl (Nat.le_of_ble_eq_true rfl) (dk kX6_takes_ok 27 rfl) rfSet_u0 (fun H locs hP hS => ?_)
      refine lv_iload_n hx hb (dk kX6_takes_ok 28 rfl) rfl (lv_at hl 0 rfl) ?_
      exact hret _ _ _ _ _ _ _ _ rfl (by simp only [dp, tks, tkn, (eq_true h1), (eq_false (Nat.not_le.mpr h1)), h2, decide_true, decide_false, not_true_eq_false, not_false_eq_true, and_true, true_and, and_false, false_and, or_true, true_or, or_false, false_or, and_self, or_self, if_true, if_false, Bool.false_eq_true, reduceIte, Bool.and_true, Bool.true_and, Bool.and_false, Bool.false_and, bI_1, bI_00]; first | done | exact ⟨rfl, rfl⟩ | rfl) hP hS (by decide) (by decide) (dk kX6_takes_ok 29 rfl)
set_option maxRecDepth 100000 in
set_option maxHeartbeats 4000000 in
theorem tX6_part (l : Launch) (D : va_G) (cI cQ cL : ClassId) (ad : Nat → Nat) (N : Nat) (F : Nat → va_E) (k : Nat) (hk : k + 7 < N) (r ps sl sd ne fa bu : Nat → Int32) (hs : Bool) (st ln pt : Nat) (th : Int32) (hR : rfAt cI ad F k r ps sl sd ne fa bu hs st ln pt th) (hln : ln ≤ 60) (hpt : pt ≤ ln) : MX l yX6_part (Cond.code yX6_part cX6_part 1 (some .boolean) :: AW) ({ frames := 2, cells := 0, slots := 0, locals := 45 } : Room) D cI cQ cL ad N F [.ref (ad k)] (dp (some (.int (bI ((rprt bu ln pt).1)))) (rfSet cI ad F k r ps sl sd ne fa bu hs st ln ((rprt bu ln pt).2) th)) 0 0 := by
  refine mx_i (ty := .boolean) (by decide +kernel) rfl (Nat.le_of_ble_eq_true rfl) (fun p e s m below meth cd Q ls hx hb hml hown hts hDi hP hK hNW hS hret hl => ?_)
  have hown : s.vm.findClass RX6 = some m.cls := hown
  have hk0 : k < N := by omega
  have hk1 : k + 1 < N := by omega
  have hk2 : k + 2 < N := by omega
  have hk3 : k + 3 < N := by omega
  have hk4 : k + 4 < N := by omega
  have hk5 : k + 5 < N := by omega
  have hk6 : k + 6 < N := by omega
  have hk7 : k + 7 < N := by omega
  have hP : va_P D vwCl (iW ad N (rfSet cI ad F k r ps sl sd ne fa bu hs st ln pt th)) s.heap := by rw [rfSet_self hR]; exact hP
  have hl : lv_has ls 1 [(0, .ref (ad k))] := hl
  refine lv_aload_n hx hb (dk kX6_part_ok 0 rfl) rfl (lv_at hl 0 rfl) ?_
  refine lv_bipush (v := nI 102) hx hb (dk kX6_part_ok 1 rfl) rfl ?_
  refine lv_bipush (v := nI 102) hx hb (dk kX6_part_ok 2 rfl) rfl ?_
  refine cvD (As := [.int (nI 102), .int (nI 102)]) (rest := []) (rfSet cI ad F k r ps sl sd ne fa bu hs st ln (tkn bu ln pt 102 102) th) ⟨hx, hb, hml, hown, hts⟩ (tX6_takes l D cI cQ cL ad N (rfSet cI ad F k r ps sl sd ne fa bu hs st ln pt th) k hk r ps sl sd ne fa bu hs st ln pt th (rfSet_at) (nI 102) 102 rfl (nI 102) 102 rfl hln (Nat.le_trans hpt hln)) (cwV9 2 hts mcX6_takes (ac21 _ (List.mem_of_getElem? (i := 17) rfl)) miX6_takes meX6_takes mini_RX6 rfl rfl hdX6_takes ⟨Nat.le_of_ble_eq_true rfl, Nat.le_of_ble_eq_true rfl⟩) hDi hK hP hNW hS hk0 rfSet_at.1 rfl rfl hl.1 rfl (Nat.le_of_ble_eq_true rfl) (by decide) (dk kX6_part_ok 3 rfl) rfSet_rfSet (fun H locs hP hS => ?_)
  refine b_if_eq (tgt := 50) hx hb (dk kX6_part_ok 4 rfl) (by decide) (fun h1 => ?_) (fun h1 => ?_)
  · skip
    refine lv_aload_n hx hb (dk kX6_part_ok 24 rfl) rfl (lv_at hl 0 rfl) ?_
    refine lv_bipush (v := nI 108) hx hb (dk kX6_part_ok 25 rfl) rfl ?_
    refine lv_bipush (v := nI 108) hx hb (dk kX6_part_ok 26 rfl) rfl ?_
    refine cvD (As := [.int (nI 108), .int (nI 108)]) (rest := []) (rfSet cI ad F k r ps sl sd ne fa bu hs st ln (tkn bu ln (tkn bu ln pt 102 102) 108 108) th) ⟨hx, hb, hml, hown, hts⟩ (tX6_takes l D cI cQ cL ad N (rfSet cI ad F k r ps sl sd ne fa bu hs st ln (tkn bu ln pt 102 102) th) k hk r ps sl sd ne fa bu hs st ln (tkn bu ln pt 102 102) th (rfSet_at) (nI 108) 108 rfl (nI 108) 108 rfl hln (Nat.le_trans (tkn_le hpt) hln)) (cwV9 2 hts mcX6_takes (ac21 _ (List.mem_of_getElem? (i := 17) rfl)) miX6_takes meX6_takes mini_RX6 rfl rfl hdX6_takes ⟨Nat.le_of_ble_eq_true rfl, Nat.le_of_ble_eq_true rfl⟩) hDi hK hP hNW hS hk0 rfSet_at.1 rfl rfl hl.1 rfl (Nat.le_of_ble_eq_true rfl) (by decide) (dk kX6_part_ok 27 rfl) rfSet_rfSet (fun H locs hP hS => ?_)
    refine b_if_eq (tgt := 109) hx hb (dk kX6_part_ok 28 rfl) (by decide) (fun h2 => ?_) (fun h2 => ?_)
    · skip
      refine lv_iconst (v := nI 0) hx hb (dk kX6_part_ok 51 rfl) rfl ?_
      exact hret _ _ _ _ _ _ _ _ rfl (by simp only [dp, rprt, tk, h1, h2, not_true_eq_false, not_false_eq_true, and_true, true_and, and_false, false_and, or_true, true_or, or_false, false_or, and_self, or_self, if_true, if_false, Bool.false_eq_true, reduceIte, bI_1, bI_00]; first | done | exact ⟨rfl, rfl⟩ | (simp_all [tkn]; done)) hP hS (by decide) (by decide) (dk kX6_part_ok 52 rfl)
    · skip
      refine lv_aload_n hx hb (dk kX6_part_ok 29 rfl) rfl (lv_at hl 0 rfl) ?_
      refine lv_bipush (v := nI 97) hx hb (dk kX6_part_ok 30 rfl) rfl ?_
      refine lv_bipush (v := nI 109) hx hb (dk kX6_part_ok 31 rfl) rfl ?_
      refine cvD (As := [.int (nI 97), .int (nI 109)]) (rest := []) (rfSet cI ad F k r ps sl sd ne fa bu hs st ln (tkn bu ln (tkn bu ln (tkn bu ln pt 102 102) 108 108) 97 109) th) ⟨hx, hb, hml, hown, hts⟩ (tX6_takes l D cI cQ cL ad N (rfSet cI ad F k r ps sl sd ne fa bu hs st ln (tkn bu ln (tkn bu ln pt 102 102) 108 108) th) k hk r ps sl sd ne fa bu hs st ln (tkn bu ln (tkn bu ln pt 102 102) 108 108) th (rfSet_at) (nI 97) 97 rfl (nI 109) 109 rfl hln (Nat.le_trans (tkn_le (tkn_le hpt)) hln)) (cwV9 2 hts mcX6_takes (ac21 _ (List.mem_of_getElem? (i := 17) rfl)) miX6_takes meX6_takes mini_RX6 rfl rfl hdX6_takes ⟨Nat.le_of_ble_eq_true rfl, Nat.le_of_ble_eq_true rfl⟩) hDi hK hP hNW hS hk0 rfSet_at.1 rfl rfl hl.1 rfl (Nat.le_of_ble_eq_true rfl) (by decide) (dk kX6_part_ok 32 rfl) rfSet_rfSet (fun H locs hP hS => ?_)
      refine b_if_eq (tgt := 109) hx hb (dk kX6_part_ok 33 rfl) (by decide) (fun h3 => ?_) (fun h3 => ?_)
      · skip
        refine lv_iconst (v := nI 0) hx hb (dk kX6_part_ok 51 rfl) rfl ?_
        exact hret _ _ _ _ _ _ _ _ rfl (by simp only [dp, rprt, tk, h1, h2, h3, not_true_eq_false, not_false_eq_true, and_true, true_and, and_false, false_and, or_true, true_or, or_false, false_or, and_self, or_self, if_true, if_false, Bool.false_eq_true, reduceIte, bI_1, bI_00]; first | done | exact ⟨rfl, rfl⟩ | (simp_all [tkn]; done)) hP hS (by decide) (by decide) (dk kX6_part_ok 52 rfl)
      · skip
        refine lv_aload_n hx hb (dk kX6_part_ok 34 rfl) rfl (lv_at hl 0 rfl) ?_
        refine lv_bipush (v := nI 97) hx hb (dk kX6_part_ok 35 rfl) rfl ?_
        refine lv_bipush (v := nI 109) hx hb (dk kX6_part_ok 36 rfl) rfl ?_
        refine cvD (As := [.int (nI 97), .int (nI 109)]) (rest := []) (rfSet cI ad F k r ps sl sd ne fa bu hs st ln (tkn bu ln (tkn bu ln (tkn bu ln (tkn bu ln pt 102 102) 108 108) 97 109) 97 109) th) ⟨hx, hb, hml, hown, hts⟩ (tX6_takes l D cI cQ cL ad N (rfSet cI ad F k r ps sl sd ne fa bu hs st ln (tkn bu ln (tkn bu ln (tkn bu ln pt 102 102) 108 108) 97 109) th) k hk r ps sl sd ne fa bu hs st ln (tkn bu ln (tkn bu ln (tkn bu ln pt 102 102) 108 108) 97 109) th (rfSet_at) (nI 97) 97 rfl (nI 109) 109 rfl hln (Nat.le_trans (tkn_le (tkn_le (tkn_le hpt))) hln)) (cwV9 2 hts mcX6_takes (ac21 _ (List.mem_of_getElem? (i := 17) rfl)) miX6_takes meX6_takes mini_RX6 rfl rfl hdX6_takes ⟨Nat.le_of_ble_eq_true rfl, Nat.le_of_ble_eq_true rfl⟩) hDi hK hP hNW hS hk0 rfSet_at.1 rfl rfl hl.1 rfl (Nat.le_of_ble_eq_true rfl) (by decide) (dk kX6_part_ok 37 rfl) rfSet_rfSet (fun H locs hP hS => ?_)
        refine b_if_eq (tgt := 109) hx hb (dk kX6_part_ok 38 rfl) (by decide) (fun h4 => ?_) (fun h4 => ?_)
        · skip
          refine lv_iconst (v := nI 0) hx hb (dk kX6_part_ok 51 rfl) rfl ?_
          exact hret _ _ _ _ _ _ _ _ rfl (by simp only [dp, rprt, tk, h1, h2, h3, h4, not_true_eq_false, not_false_eq_true, and_true, true_and, and_false, false_and, or_true, true_or, or_false, false_or, and_self, or_self, if_true, if_false, Bool.false_eq_true, reduceIte, bI_1, bI_00]; first | done | exact ⟨rfl, rfl⟩ | (simp_all [tkn]; done)) hP hS (by decide) (by decide) (dk kX6_part_ok 52 rfl)
        · skip
          refine lv_aload_n hx hb (dk kX6_part_ok 39 rfl) rfl (lv_at hl 0 rfl) ?_
          refine lv_bipush (v := nI 49) hx hb (dk kX6_part_ok 40 rfl) rfl ?_
          refine lv_bipush (v := nI 54) hx hb (dk kX6_part_ok 41 rfl) rfl ?_
          refine cvD (As := [.int (nI 49), .int (nI 54)]) (rest := []) (rfSet cI ad F k r ps sl sd ne fa bu hs st ln (tkn bu ln (tkn bu ln (tkn bu ln (tkn bu ln (tkn bu ln pt 102 102) 108 108) 97 109) 97 109) 49 54) th) ⟨hx, hb, hml, hown, hts⟩ (tX6_takes l D cI cQ cL ad N (rfSet cI ad F k r ps sl sd ne fa bu hs st ln (tkn bu ln (tkn bu ln (tkn bu ln (tkn bu ln pt 102 102) 108 108) 97 109) 97 109) th) k hk r ps sl sd ne fa bu hs st ln (tkn bu ln (tkn bu ln (tkn bu ln (tkn bu ln pt 102 102) 108 108) 97 109) 97 109) th (rfSet_at) (nI 49) 49 rfl (nI 54) 54 rfl hln (Nat.le_trans (tkn_le (tkn_le (tkn_le (tkn_le hpt)))) hln)) (cwV9 2 hts mcX6_takes (ac21 _ (List.mem_of_getElem? (i := 17) rfl)) miX6_takes meX6_takes mini_RX6 rfl rfl hdX6_takes ⟨Nat.le_of_ble_eq_true rfl, Nat.le_of_ble_eq_true rfl⟩) hDi hK hP hNW hS hk0 rfSet_at.1 rfl rfl hl.1 rfl (Nat.le_of_ble_eq_true rfl) (by decide) (dk kX6_part_ok 42 rfl) rfSet_rfSet (fun H locs hP hS => ?_)
          refine b_if_eq (tgt := 109) hx hb (dk kX6_part_ok 43 rfl) (by decide) (fun h5 => ?_) (fun h5 => ?_)
          · skip
            refine lv_iconst (v := nI 0) hx hb (dk kX6_part_ok 51 rfl) rfl ?_
            exact hret _ _ _ _ _ _ _ _ rfl (by simp only [dp, rprt, tk, h1, h2, h3, h4, h5, not_true_eq_false, not_false_eq_true, and_true, true_and, and_false, false_and, or_true, true_or, or_false, false_or, and_self, or_self, if_true, if_false, Bool.false_eq_true, reduceIte, bI_1, bI_00]; first | done | exact ⟨rfl, rfl⟩ | (simp_all [tkn]; done)) hP hS (by decide) (by decide) (dk kX6_part_ok 52 rfl)
          · skip
            refine lv_aload_n hx hb (dk kX6_part_ok 44 rfl) rfl (lv_at hl 0 rfl) ?_
            refine lv_bipush (v := nI 48) hx hb (dk kX6_part_ok 45 rfl) rfl ?_
            refine lv_bipush (v := nI 55) hx hb (dk kX6_part_ok 46 rfl) rfl ?_
            refine cvD (As := [.int (nI 48), .int (nI 55)]) (rest := []) (rfSet cI ad F k r ps sl sd ne fa bu hs st ln (tkn bu ln (tkn bu ln (tkn bu ln (tkn bu ln (tkn bu ln (tkn bu ln pt 102 102) 108 108) 97 109) 97 109) 49 54) 48 55) th) ⟨hx, hb, hml, hown, hts⟩ (tX6_takes l D cI cQ cL ad N (rfSet cI ad F k r ps sl sd ne fa bu hs st ln (tkn bu ln (tkn bu ln (tkn bu ln (tkn bu ln (tkn bu ln pt 102 102) 108 108) 97 109) 97 109) 49 54) th) k hk r ps sl sd ne fa bu hs st ln (tkn bu ln (tkn bu ln (tkn bu ln (tkn bu ln (tkn bu ln pt 102 102) 108 108) 97 109) 97 109) 49 54) th (rfSet_at) (nI 48) 48 rfl (nI 55) 55 rfl hln (Nat.le_trans (tkn_le (tkn_le (tkn_le (tkn_le (tkn_le hpt))))) hln)) (cwV9 2 hts mcX6_takes (ac21 _ (List.mem_of_getElem? (i := 17) rfl)) miX6_takes meX6_takes mini_RX6 rfl rfl hdX6_takes ⟨Nat.le_of_ble_eq_true rfl, Nat.le_of_ble_eq_true rfl⟩) hDi hK hP hNW hS hk0 rfSet_at.1 rfl rfl hl.1 rfl (Nat.le_of_ble_eq_true rfl) (by decide) (dk kX6_part_ok 47 rfl) rfSet_rfSet (fun H locs hP hS => ?_)
            refine b_if_eq (tgt := 109) hx hb (dk kX6_part_ok 48 rfl) (by decide) (fun h6 => ?_) (fun h6 => ?_)
            · skip
              refine lv_iconst (v := nI 0) hx hb (dk kX6_part_ok 51 rfl) rfl ?_
              exact hret _ _ _ _ _ _ _ _ rfl (by simp only [dp, rprt, tk, h1, h2, h3, h4, h5, h6, not_true_eq_false, not_false_eq_true, and_true, true_and, and_false, false_and, or_true, true_or, or_false, false_or, and_self, or_self, if_true, if_false, Bool.false_eq_true, reduceIte, bI_1, bI_00]; first | done | exact ⟨rfl, rfl⟩ | (simp_all [tkn]; done)) hP hS (by decide) (by decide) (dk kX6_part_ok 52 rfl)
            · skip
              refine lv_iconst (v := nI 1) hx hb (dk kX6_part_ok 49 rfl) rfl ?_
              refine lv_goto (tgt := 110) hx hb (dk kX6_part_ok 50 rfl) (by decide) ?_
              exact hret _ _ _ _ _ _ _ _ rfl (by simp only [dp, rprt, tk, h1, h2, h3, h4, h5, h6, not_true_eq_false, not_false_eq_true, and_true, true_and, and_false, false_and, or_true, true_or, or_false, false_or, and_self, or_self, if_true, if_false, Bool.false_eq_true, reduceIte, bI_1, bI_00]; first | done | exact ⟨rfl, rfl⟩ | (simp_all [tkn]; done)) hP hS (by decide) (by decide) (dk kX6_part_ok 52 rfl)
  · skip
    refine lv_aload_n hx hb (dk kX6_part_ok 5 rfl) rfl (lv_at hl 0 rfl) ?_
    refine lv_bipush (v := nI 48) hx hb (dk kX6_part_ok 6 rfl) rfl ?_
    refine lv_bipush (v := nI 51) hx hb (dk kX6_part_ok 7 rfl) rfl ?_
    refine cvD (As := [.int (nI 48), .int (nI 51)]) (rest := []) (rfSet cI ad F k r ps sl sd ne fa bu hs st ln (tkn bu ln (tkn bu ln pt 102 102) 48 51) th) ⟨hx, hb, hml, hown, hts⟩ (tX6_takes l D cI cQ cL ad N (rfSet cI ad F k r ps sl sd ne fa bu hs st ln (tkn bu ln pt 102 102) th) k hk r ps sl sd ne fa bu hs st ln (tkn bu ln pt 102 102) th (rfSet_at) (nI 48) 48 rfl (nI 51) 51 rfl hln (Nat.le_trans (tkn_le hpt) hln)) (cwV9 2 hts mcX6_takes (ac21 _ (List.mem_of_getElem? (i := 17) rfl)) miX6_takes meX6_takes mini_RX6 rfl rfl hdX6_takes ⟨Nat.le_of_ble_eq_true rfl, Nat.le_of_ble_eq_true rfl⟩) hDi hK hP hNW hS hk0 rfSet_at.1 rfl rfl hl.1 rfl (Nat.le_of_ble_eq_true rfl) (by decide) (dk kX6_part_ok 8 rfl) rfSet_rfSet (fun H locs hP hS => ?_)
    refine b_if_eq (tgt := 48) hx hb (dk kX6_part_ok 9 rfl) (by decide) (fun h7 => ?_) (fun h7 => ?_)
    · skip
      refine lv_iconst (v := nI 0) hx hb (dk kX6_part_ok 22 rfl) rfl ?_
      exact hret _ _ _ _ _ _ _ _ rfl (by simp only [dp, rprt, tk, h1, h7, not_true_eq_false, not_false_eq_true, and_true, true_and, and_false, false_and, or_true, true_or, or_false, false_or, and_self, or_self, if_true, if_false, Bool.false_eq_true, reduceIte, bI_1, bI_00]; first | done | exact ⟨rfl, rfl⟩ | (simp_all [tkn]; done)) hP hS (by decide) (by decide) (dk kX6_part_ok 23 rfl)
    · skip
      refine lv_aload_n hx hb (dk kX6_part_ok 10 rfl) rfl (lv_at hl 0 rfl) ?_
      refine lv_bipush (v := nI 48) hx hb (dk kX6_part_ok 11 rfl) rfl ?_
      refine lv_bipush (v := nI 55) hx hb (dk kX6_part_ok 12 rfl) rfl ?_
      refine cvD (As := [.int (nI 48), .int (nI 55)]) (rest := []) (rfSet cI ad F k r ps sl sd ne fa bu hs st ln (tkn bu ln (tkn bu ln (tkn bu ln pt 102 102) 48 51) 48 55) th) ⟨hx, hb, hml, hown, hts⟩ (tX6_takes l D cI cQ cL ad N (rfSet cI ad F k r ps sl sd ne fa bu hs st ln (tkn bu ln (tkn bu ln pt 102 102) 48 51) th) k hk r ps sl sd ne fa bu hs st ln (tkn bu ln (tkn bu ln pt 102 102) 48 51) th (rfSet_at) (nI 48) 48 rfl (nI 55) 55 rfl hln (Nat.le_trans (tkn_le (tkn_le hpt)) hln)) (cwV9 2 hts mcX6_takes (ac21 _ (List.mem_of_getElem? (i := 17) rfl)) miX6_takes meX6_takes mini_RX6 rfl rfl hdX6_takes ⟨Nat.le_of_ble_eq_true rfl, Nat.le_of_ble_eq_true rfl⟩) hDi hK hP hNW hS hk0 rfSet_at.1 rfl rfl hl.1 rfl (Nat.le_of_ble_eq_true rfl) (by decide) (dk kX6_part_ok 13 rfl) rfSet_rfSet (fun H locs hP hS => ?_)
      refine b_if_eq (tgt := 48) hx hb (dk kX6_part_ok 14 rfl) (by decide) (fun h8 => ?_) (fun h8 => ?_)
      · skip
        refine lv_iconst (v := nI 0) hx hb (dk kX6_part_ok 22 rfl) rfl ?_
        exact hret _ _ _ _ _ _ _ _ rfl (by simp only [dp, rprt, tk, h1, h7, h8, not_true_eq_false, not_false_eq_true, and_true, true_and, and_false, false_and, or_true, true_or, or_false, false_or, and_self, or_self, if_true, if_false, Bool.false_eq_true, reduceIte, bI_1, bI_00]; first | done | exact ⟨rfl, rfl⟩ | (simp_all [tkn]; done)) hP hS (by decide) (by decide) (dk kX6_part_ok 23 rfl)
      · skip
        refine lv_aload_n hx hb (dk kX6_part_ok 15 rfl) rfl (lv_at hl 0 rfl) ?_
        refine lv_bipush (v := nI 49) hx hb (dk kX6_part_ok 16 rfl) rfl ?_
        refine lv_bipush (v := nI 57) hx hb (dk kX6_part_ok 17 rfl) rfl ?_
        refine cvD (As := [.int (nI 49), .int (nI 57)]) (rest := []) (rfSet cI ad F k r ps sl sd ne fa bu hs st ln (tkn bu ln (tkn bu ln (tkn bu ln (tkn bu ln pt 102 102) 48 51) 48 55) 49 57) th) ⟨hx, hb, hml, hown, hts⟩ (tX6_takes l D cI cQ cL ad N (rfSet cI ad F k r ps sl sd ne fa bu hs st ln (tkn bu ln (tkn bu ln (tkn bu ln pt 102 102) 48 51) 48 55) th) k hk r ps sl sd ne fa bu hs st ln (tkn bu ln (tkn bu ln (tkn bu ln pt 102 102) 48 51) 48 55) th (rfSet_at) (nI 49) 49 rfl (nI 57) 57 rfl hln (Nat.le_trans (tkn_le (tkn_le (tkn_le hpt))) hln)) (cwV9 2 hts mcX6_takes (ac21 _ (List.mem_of_getElem? (i := 17) rfl)) miX6_takes meX6_takes mini_RX6 rfl rfl hdX6_takes ⟨Nat.le_of_ble_eq_true rfl, Nat.le_of_ble_eq_true rfl⟩) hDi hK hP hNW hS hk0 rfSet_at.1 rfl rfl hl.1 rfl (Nat.le_of_ble_eq_true rfl) (by decide) (dk kX6_part_ok 18 rfl) rfSet_rfSet (fun H locs hP hS => ?_)
        refine b_if_eq (tgt := 48) hx hb (dk kX6_part_ok 19 rfl) (by decide) (fun h9 => ?_) (fun h9 => ?_)
        · skip
          refine lv_iconst (v := nI 0) hx hb (dk kX6_part_ok 22 rfl) rfl ?_
          exact hret _ _ _ _ _ _ _ _ rfl (by simp only [dp, rprt, tk, h1, h7, h8, h9, not_true_eq_false, not_false_eq_true, and_true, true_and, and_false, false_and, or_true, true_or, or_false, false_or, and_self, or_self, if_true, if_false, Bool.false_eq_true, reduceIte, bI_1, bI_00]; first | done | exact ⟨rfl, rfl⟩ | (simp_all [tkn]; done)) hP hS (by decide) (by decide) (dk kX6_part_ok 23 rfl)
        · skip
          refine lv_iconst (v := nI 1) hx hb (dk kX6_part_ok 20 rfl) rfl ?_
          refine lv_goto (tgt := 49) hx hb (dk kX6_part_ok 21 rfl) (by decide) ?_
          exact hret _ _ _ _ _ _ _ _ rfl (by simp only [dp, rprt, tk, h1, h7, h8, h9, not_true_eq_false, not_false_eq_true, and_true, true_and, and_false, false_and, or_true, true_or, or_false, false_or, and_self, or_self, if_true, if_false, Bool.false_eq_true, reduceIte, bI_1, bI_00]; first | done | exact ⟨rfl, rfl⟩ | (simp_all [tkn]; done)) hP hS (by decide) (by decide) (dk kX6_part_ok 23 rfl)
set_option maxRecDepth 100000 in
set_option maxHeartbeats 4000000 in
theorem tX6_isWhole (l : Launch) (D : va_G) (cI cQ cL : ClassId) (ad : Nat → Nat) (N : Nat) (F : Nat → va_E) (k : Nat) (hk : k + 7 < N) (r ps sl sd ne fa bu : Nat → Int32) (hs : Bool) (st ln pt : Nat) (th : Int32) (hR : rfAt cI ad F k r ps sl sd ne fa bu hs st ln pt th) (hln : ln ≤ 60) : MX l yX6_isWhole (Cond.code yX6_isWhole cX6_isWhole 2 (some .boolean) :: AW) ({ frames := 3, cells := 0, slots := 0, locals := 65 } : Room) D cI cQ cL ad N F [.ref (ad k)] (dp (some (.int (bI ((rwh bu ln).1)))) (rfSet cI ad F k r ps sl sd ne fa bu hs st ln ((rwh bu ln).2) th)) 0 0 := by
  refine mx_i (ty := .boolean) (by decide +kernel) rfl (Nat.le_of_ble_eq_true rfl) (fun p e s m below meth cd Q ls hx hb hml hown hts hDi hP hK hNW hS hret hl => ?_)
  have hown : s.vm.findClass RX6 = some m.cls := hown
  have hk0 : k < N := by omega
  have hk1 : k + 1 < N := by omega
  have hk2 : k + 2 < N := by omega
  have hk3 : k + 3 < N := by omega
  have hk4 : k + 4 < N := by omega
  have hk5 : k + 5 < N := by omega
  have hk6 : k + 6 < N := by omega
  have hk7 : k + 7 < N := by omega
  have hP : va_P D vwCl (iW ad N (rfSet cI ad F k r ps sl sd ne fa bu hs st ln pt th)) s.heap := by rw [rfSet_self hR]; exact hP
  have hl : lv_has ls 2 [(0, .ref (ad k))] := hl
  refine lv_aload_n hx hb (dk kX6_isWhole_ok 0 rfl) rfl (lv_at hl 0 rfl) ?_
  refine lv_iconst (v := nI 0) hx hb (dk kX6_isWhole_ok 1 rfl) rfl ?_
  refine pf (rfSet cI ad F k r ps sl sd ne fa bu hs st ln 0 th) hx hb hts (fun w h => List.mem_cons_of_mem _ (acX6 w h)) tyX6 tyX6_ok nmX6 hown hK hDi hP hS hk0 rfSet_at.1 rfl 10 (by decide) (hts _ (List.mem_cons_of_mem _ (ac21 _ (List.mem_of_getElem? (i := 16) rfl)))) (fun _ h => h) rfl (ty := .int) rfl rfl rfl (Nat.le_of_ble_eq_true rfl) (dk kX6_isWhole_ok 2 rfl) rfSet_u0 (fun H locs hP hS => ?_)
  refine lv_aload_n hx hb (dk kX6_isWhole_ok 3 rfl) rfl (lv_at hl 0 rfl) ?_
  refine cvD (As := []) (rest := []) (rfSet cI ad F k r ps sl sd ne fa bu hs st ln ((rprt bu ln 0).2) th) ⟨hx, hb, hml, hown, hts⟩ (tX6_part l D cI cQ cL ad N (rfSet cI ad F k r ps sl sd ne fa bu hs st ln 0 th) k hk r ps sl sd ne fa bu hs st ln 0 th (rfSet_at) hln (Nat.zero_le _)) (cwV9 0 hts mcX6_part (ac21 _ (List.mem_of_getElem? (i := 21) rfl)) miX6_part meX6_part mini_RX6 rfl rfl hdX6_part ⟨Nat.le_of_ble_eq_true rfl, Nat.le_of_ble_eq_true rfl⟩) hDi hK hP hNW hS hk0 rfSet_at.1 rfl rfl hl.1 rfl (Nat.le_of_ble_eq_true rfl) (by decide) (dk kX6_isWhole_ok 4 rfl) rfSet_rfSet (fun H locs hP hS => ?_)
  refine lv_istore_n (lv' := [(1, .int (bI ((rprt bu ln 0).1))), (0, .ref (ad k))]) hx hb (dk kX6_isWhole_ok 5 rfl) rfl hl (by decide) rfl (fun ls hl => ?_)
  have L10 : ∀ (fu : Nat) (m9 : Nat) (g : Bool) (p2 : Nat) (x1 : Int32) (H : Heap) (locs : List Loc), va_P D vwCl (iW ad N (rfSet cI ad F k r ps sl sd ne fa bu hs st ln p2 th)) H → va_S (iA ad N s.heap.size) s.heap H locs → x1 = bI g → p2 ≤ ln → (if g = true then 1 else 0) + (ln - p2) ≤ m9 → rwh bu ln = rwhL bu ln m9 g p2 → m9 < fu → ∀ ls : Array Slot, lv_has ls 2 [(0, .ref (ad k)), (1, .int x1)] → W p l e ({ frames := 3, cells := 0, slots := 0, locals := 65 } : Room) s m ([.ref (ad k)] : List Value).toArray below meth cd H locs 0 0 Q (F0 m 10 ls []) := by
    intro fu
    induction fu with
    | zero => intros; omega
    | succ fu ih10 =>
      intro m9 g p2 x1 H locs hP hS ex1 hp2 hm9 hr hm10 ls hl
      subst ex1
      refine lv_iload_n hx hb (dk kX6_isWhole_ok 6 rfl) rfl (lv_at hl 1 rfl) ?_
      refine b_if_eq (tgt := 52) hx hb (dk kX6_isWhole_ok 7 rfl) (by decide) (fun h1 => ?_) (fun h1 => ?_)
      · skip
        refine lv_iload_n hx hb (dk kX6_isWhole_ok 26 rfl) rfl (lv_at hl 1 rfl) ?_
        exact hret _ _ _ _ _ _ _ _ (bI_nar _) (by rw [hr, rwhL_end (by intro h9; first | (rw [h1] at h9; exact absurd h9.1 (by decide)) | omega)]; first | exact ⟨rfl, rfl⟩ | (simp_all [dp]; done)) hP hS (by decide) (by decide) (dk kX6_isWhole_ok 27 rfl)
      · skip
        refine lv_aload_n hx hb (dk kX6_isWhole_ok 8 rfl) rfl (lv_at hl 0 rfl) ?_
        refine gf hx hb hts (fun w h => List.mem_cons_of_mem _ (acX6 w h)) hown hK hP hk0 rfSet_at.1 rfl 10 (by decide) (hts _ (List.mem_cons_of_mem _ (ac21 _ (List.mem_of_getElem? (i := 16) rfl)))) (fun _ h => h) rfl (dk kX6_isWhole_ok 9 rfl) ?_
        refine lv_aload_n hx hb (dk kX6_isWhole_ok 10 rfl) rfl (lv_at hl 0 rfl) ?_
        refine gf hx hb hts (fun w h => List.mem_cons_of_mem _ (acX6 w h)) hown hK hP hk0 rfSet_at.1 rfl 9 (by decide) (hts _ (List.mem_cons_of_mem _ (ac21 _ (List.mem_of_getElem? (i := 15) rfl)))) (fun _ h => h) rfl (dk kX6_isWhole_ok 11 rfl) ?_
        refine n_icmp_ge (tgt := 52) hx hb (by omega) (by omega) (dk kX6_isWhole_ok 12 rfl) (by decide) (fun h2 => ?_) (fun h2 => ?_)
        · skip
          refine lv_iload_n hx hb (dk kX6_isWhole_ok 26 rfl) rfl (lv_at hl 1 rfl) ?_
          exact hret _ _ _ _ _ _ _ _ (bI_nar _) (by rw [hr, rwhL_end (by intro h9; first | (rw [rfl] at h9; exact absurd h9.1 (by decide)) | omega)]; first | exact ⟨rfl, rfl⟩ | (simp_all [dp]; done)) hP hS (by decide) (by decide) (dk kX6_isWhole_ok 27 rfl)
        · skip
          refine lv_aload_n hx hb (dk kX6_isWhole_ok 13 rfl) rfl (lv_at hl 0 rfl) ?_
          refine lv_bipush (v := nI 59) hx hb (dk kX6_isWhole_ok 14 rfl) rfl ?_
          refine lv_bipush (v := nI 59) hx hb (dk kX6_isWhole_ok 15 rfl) rfl ?_
          refine cvD (As := [.int (nI 59), .int (nI 59)]) (rest := []) (rfSet cI ad F k r ps sl sd ne fa bu hs st ln (tkn bu ln p2 59 59) th) ⟨hx, hb, hml, hown, hts⟩ (tX6_takes l D cI cQ cL ad N (rfSet cI ad F k r ps sl sd ne fa bu hs st ln p2 th) k hk r ps sl sd ne fa bu hs st ln p2 th (rfSet_at) (nI 59) 59 rfl (nI 59) 59 rfl hln (Nat.le_trans hp2 hln)) (cwV9 2 hts mcX6_takes (ac21 _ (List.mem_of_getElem? (i := 17) rfl)) miX6_takes meX6_takes mini_RX6 rfl rfl hdX6_takes ⟨Nat.le_of_ble_eq_true rfl, Nat.le_of_ble_eq_true rfl⟩) hDi hK hP hNW hS hk0 rfSet_at.1 rfl rfl hl.1 rfl (Nat.le_of_ble_eq_true rfl) (by decide) (dk kX6_isWhole_ok 16 rfl) rfSet_rfSet (fun H locs hP hS => ?_)
          refine b_if_eq (tgt := 47) hx hb (dk kX6_isWhole_ok 17 rfl) (by decide) (fun h3 => ?_) (fun h3 => ?_)
          · skip
            refine lv_iconst (v := nI 0) hx hb (dk kX6_isWhole_ok 23 rfl) rfl ?_
            refine lv_istore_n (lv' := [(1, .int (nI 0)), (0, .ref (ad k))]) hx hb (dk kX6_isWhole_ok 24 rfl) rfl hl (by decide) rfl (fun ls hl => ?_)
            refine lv_goto (tgt := 10) hx hb (dk kX6_isWhole_ok 25 rfl) (by decide) ?_
            exact ih10 (m9 - 1) false (tkn bu ln p2 59 59) _ _ _ hP hS (by first | rfl | exact (bI_t (by assumption)).symm | exact (bI_f (by assumption)).symm) (by first | exact rprt_le (tkn_le hp2) | exact tkn_le hp2) (by have h9 := h1; rw [if_pos h9] at hm9; have h7 := tkn_ge bu ln p2 59 59; rw [if_neg (by decide)]; omega) (by have h9 := h1; rw [if_pos h9] at hm9; rw [hr, show m9 = (m9 - 1) + 1 by omega]; simp only [rwhL]; rw [if_pos ⟨h9, by omega⟩, if_neg (by rw [h3]; decide)]; rfl) (by have h9 := h1; rw [if_pos h9] at hm9; omega) ls (lv_sub hl [1, 0] rfl)
          · skip
            refine lv_aload_n hx hb (dk kX6_isWhole_ok 18 rfl) rfl (lv_at hl 0 rfl) ?_
            refine cvD (As := []) (rest := []) (rfSet cI ad F k r ps sl sd ne fa bu hs st ln ((rprt bu ln (tkn bu ln p2 59 59)).2) th) ⟨hx, hb, hml, hown, hts⟩ (tX6_part l D cI cQ cL ad N (rfSet cI ad F k r ps sl sd ne fa bu hs st ln (tkn bu ln p2 59 59) th) k hk r ps sl sd ne fa bu hs st ln (tkn bu ln p2 59 59) th (rfSet_at) hln (tkn_le hp2)) (cwV9 0 hts mcX6_part (ac21 _ (List.mem_of_getElem? (i := 21) rfl)) miX6_part meX6_part mini_RX6 rfl rfl hdX6_part ⟨Nat.le_of_ble_eq_true rfl, Nat.le_of_ble_eq_true rfl⟩) hDi hK hP hNW hS hk0 rfSet_at.1 rfl rfl hl.1 rfl (Nat.le_of_ble_eq_true rfl) (by decide) (dk kX6_isWhole_ok 19 rfl) rfSet_rfSet (fun H locs hP hS => ?_)
            refine b_if_eq (tgt := 47) hx hb (dk kX6_isWhole_ok 20 rfl) (by decide) (fun h4 => ?_) (fun h4 => ?_)
            · skip
              refine lv_iconst (v := nI 0) hx hb (dk kX6_isWhole_ok 23 rfl) rfl ?_
              refine lv_istore_n (lv' := [(1, .int (nI 0)), (0, .ref (ad k))]) hx hb (dk kX6_isWhole_ok 24 rfl) rfl hl (by decide) rfl (fun ls hl => ?_)
              refine lv_goto (tgt := 10) hx hb (dk kX6_isWhole_ok 25 rfl) (by decide) ?_
              exact ih10 (m9 - 1) false ((rprt bu ln (tkn bu ln p2 59 59)).2) _ _ _ hP hS (by first | rfl | exact (bI_t (by assumption)).symm | exact (bI_f (by assumption)).symm) (by first | exact rprt_le (tkn_le hp2) | exact tkn_le hp2) (by have h9 := h1; rw [if_pos h9] at hm9; have h8 := rprt_ge bu ln (tkn bu ln p2 59 59); have h7 := tkn_up h3; split <;> omega) (by have h9 := h1; rw [if_pos h9] at hm9; rw [hr, show m9 = (m9 - 1) + 1 by omega]; simp only [rwhL]; rw [if_pos ⟨h9, by omega⟩, if_pos h3]; rw [h4]; rfl) (by have h9 := h1; rw [if_pos h9] at hm9; omega) ls (lv_sub hl [1, 0] rfl)
            · skip
              refine lv_iconst (v := nI 1) hx hb (dk kX6_isWhole_ok 21 rfl) rfl ?_
              refine lv_goto (tgt := 48) hx hb (dk kX6_isWhole_ok 22 rfl) (by decide) ?_
              refine lv_istore_n (lv' := [(1, .int (nI 1)), (0, .ref (ad k))]) hx hb (dk kX6_isWhole_ok 24 rfl) rfl hl (by decide) rfl (fun ls hl => ?_)
              refine lv_goto (tgt := 10) hx hb (dk kX6_isWhole_ok 25 rfl) (by decide) ?_
              exact ih10 (m9 - 1) true ((rprt bu ln (tkn bu ln p2 59 59)).2) _ _ _ hP hS (by first | rfl | exact (bI_t (by assumption)).symm | exact (bI_f (by assumption)).symm) (by first | exact rprt_le (tkn_le hp2) | exact tkn_le hp2) (by have h9 := h1; rw [if_pos h9] at hm9; have h8 := rprt_ge bu ln (tkn bu ln p2 59 59); have h7 := tkn_up h3; split <;> omega) (by have h9 := h1; rw [if_pos h9] at hm9; rw [hr, show m9 = (m9 - 1) + 1 by omega]; simp only [rwhL]; rw [if_pos ⟨h9, by omega⟩, if_pos h3]; rw [h4]; rfl) (by have h9 := h1; rw [if_pos h9] at hm9; omega) ls (lv_sub hl [1, 0] rfl)
  exact L10 _ (ln + 1) ((rprt bu ln 0).1) ((rprt bu ln 0).2) _ _ _ hP hS (by rfl) (by exact rprt_le (Nat.zero_le _)) (by split <;> omega) (by rfl) (Nat.lt_succ_self _) ls (lv_sub hl [1, 0] rfl)
set_option maxRecDepth 100000 in
set_option maxHeartbeats 4000000 in
theorem tX6_firstError (l : Launch) (D : va_G) (cI cQ cL : ClassId) (ad : Nat → Nat) (N : Nat) (F : Nat → va_E) (k : Nat) (hk : k + 7 < N) (r ps sl sd ne fa bu : Nat → Int32) (hs : Bool) (st ln pt : Nat) (th : Int32) (hR : rfAt cI ad F k r ps sl sd ne fa bu hs st ln pt th) (hln : ln ≤ 60) : MX l yX6_firstError (Cond.code yX6_firstError cX6_firstError 1 (some .int) :: AW) ({ frames := 4, cells := 0, slots := 0, locals := 86 } : Room) D cI cQ cL ad N F [.ref (ad k)] (dp (some (.int (nI (if (rwh bu ln).1 = true then ln else (rwh bu ln).2)))) (rfSet cI ad F k r ps sl sd ne fa bu hs st ln ((rwh bu ln).2) (nI 0))) 0 0 := by
  refine mx_i (ty := .int) (by decide +kernel) rfl (Nat.le_of_ble_eq_true rfl) (fun p e s m below meth cd Q ls hx hb hml hown hts hDi hP hK hNW hS hret hl => ?_)
  have hown : s.vm.findClass RX6 = some m.cls := hown
  have hk0 : k < N := by omega
  have hk1 : k + 1 < N := by omega
  have hk2 : k + 2 < N := by omega
  have hk3 : k + 3 < N := by omega
  have hk4 : k + 4 < N := by omega
  have hk5 : k + 5 < N := by omega
  have hk6 : k + 6 < N := by omega
  have hk7 : k + 7 < N := by omega
  have hP : va_P D vwCl (iW ad N (rfSet cI ad F k r ps sl sd ne fa bu hs st ln pt th)) s.heap := by rw [rfSet_self hR]; exact hP
  have hl : lv_has ls 1 [(0, .ref (ad k))] := hl
  refine lv_aload_n hx hb (dk kX6_firstError_ok 0 rfl) rfl (lv_at hl 0 rfl) ?_
  refine lv_iconst (v := nI 0) hx hb (dk kX6_firstError_ok 1 rfl) rfl ?_
  refine pf (rfSet cI ad F k r ps sl sd ne fa bu hs st ln pt (nI 0)) hx hb hts (fun w h => List.mem_cons_of_mem _ (acX6 w h)) tyX6 tyX6_ok nmX6 hown hK hDi hP hS hk0 rfSet_at.1 rfl 11 (by decide) (hts _ (List.mem_cons_of_mem _ (ac18 _ (List.mem_of_getElem? (i := 4) rfl)))) (fun _ h => h) rfl (ty := .int) rfl rfl rfl (Nat.le_of_ble_eq_true rfl) (dk kX6_firstError_ok 2 rfl) rfSet_u0 (fun H locs hP hS => ?_)
  refine lv_aload_n hx hb (dk kX6_firstError_ok 3 rfl) rfl (lv_at hl 0 rfl) ?_
  refine cvD (As := []) (rest := []) (rfSet cI ad F k r ps sl sd ne fa bu hs st ln ((rwh bu ln).2) (nI 0)) ⟨hx, hb, hml, hown, hts⟩ (tX6_isWhole l D cI cQ cL ad N (rfSet cI ad F k r ps sl sd ne fa bu hs st ln pt (nI 0)) k hk r ps sl sd ne fa bu hs st ln pt (nI 0) (rfSet_at) hln) (cwV9 0 hts mcX6_isWhole (ac22 _ (List.mem_of_getElem? (i := 1) rfl)) miX6_isWhole meX6_isWhole mini_RX6 rfl rfl hdX6_isWhole ⟨Nat.le_of_ble_eq_true rfl, Nat.le_of_ble_eq_true rfl⟩) hDi hK hP hNW hS hk0 rfSet_at.1 rfl rfl hl.1 rfl (Nat.le_of_ble_eq_true rfl) (by decide) (dk kX6_firstError_ok 4 rfl) rfSet_rfSet (fun H locs hP hS => ?_)
  refine b_if_eq (tgt := 19) hx hb (dk kX6_firstError_ok 5 rfl) (by decide) (fun h1 => ?_) (fun h1 => ?_)
  · skip
    refine lv_aload_n hx hb (dk kX6_firstError_ok 9 rfl) rfl (lv_at hl 0 rfl) ?_
    refine gf hx hb hts (fun w h => List.mem_cons_of_mem _ (acX6 w h)) hown hK hP hk0 rfSet_at.1 rfl 10 (by decide) (hts _ (List.mem_cons_of_mem _ (ac21 _ (List.mem_of_getElem? (i := 16) rfl)))) (fun _ h => h) rfl (dk kX6_firstError_ok 10 rfl) ?_
    exact hret _ _ _ _ _ _ _ _ rfl (by simp only [dp, h1, not_true_eq_false, not_false_eq_true, and_true, true_and, and_false, false_and, or_true, true_or, or_false, false_or, and_self, or_self, if_true, if_false, Bool.false_eq_true, reduceIte]) hP hS (by decide) (by decide) (dk kX6_firstError_ok 11 rfl)
  · skip
    refine lv_aload_n hx hb (dk kX6_firstError_ok 6 rfl) rfl (lv_at hl 0 rfl) ?_
    refine gf hx hb hts (fun w h => List.mem_cons_of_mem _ (acX6 w h)) hown hK hP hk0 rfSet_at.1 rfl 9 (by decide) (hts _ (List.mem_cons_of_mem _ (ac21 _ (List.mem_of_getElem? (i := 15) rfl)))) (fun _ h => h) rfl (dk kX6_firstError_ok 7 rfl) ?_
    refine lv_goto (tgt := 23) hx hb (dk kX6_firstError_ok 8 rfl) (by decide) ?_
    exact hret _ _ _ _ _ _ _ _ rfl (by simp only [dp, h1, not_true_eq_false, not_false_eq_true, and_true, true_and, and_false, false_and, or_true, true_or, or_false, false_or, and_self, or_self, if_true, if_false, Bool.false_eq_true, reduceIte]) hP hS (by decide) (by decide) (dk kX6_firstError_ok 11 rfl)
set_option maxRecDepth 100000 in
set_option maxHeartbeats 4000000 in
theorem tX6_brings (l : Launch) (D : va_G) (cI cQ cL : ClassId) (ad : Nat → Nat) (N : Nat) (F : Nat → va_E) (k : Nat) (hk : k + 7 < N) (r ps sl sd ne fa bu : Nat → Int32) (hs : Bool) (st ln pt : Nat) (th : Int32) (hR : rfAt cI ad F k r ps sl sd ne fa bu hs st ln pt th) (x : Int32) (w : Nat) (hxw : x = nI w) (hw : w < 16) (y : Int32) (d : Nat) (hyd : y = nI d) (hd : d < 8) (z : Int32) (f : Nat) (hzf : z = nI f) (hf : f < 2 ^ 30) (v : Int32) (a : Nat) (hva : v = nI a) (ha : a < 2 ^ 31) (hrk : rok r) (hwn : rwn r w = 0) : MX l yX6_brings (Cond.code yX6_brings cX6_brings 8 (some .int) :: AW) ({ frames := 5, cells := 0, slots := 0, locals := 109 } : Room) D cI cQ cL ad N F [.ref (ad k), .int x, .int y, .int z, .int v] (dp (some (.int (aBr r w d f a))) (rfSet cI ad F k r ps sl r ne fa bu hs st ln pt th)) 0 0 := by
  refine mx_i (ty := .int) (by decide +kernel) rfl (Nat.le_of_ble_eq_true rfl) (fun p e s m below meth cd Q ls hx hb hml hown hts hDi hP hK hNW hS hret hl => ?_)
  have hown : s.vm.findClass RX6 = some m.cls := hown
  subst hxw
  subst hyd
  subst hzf
  subst hva
  have hk0 : k < N := by omega
  have hk1 : k + 1 < N := by omega
  have hk2 : k + 2 < N := by omega
  have hk3 : k + 3 < N := by omega
  have hk4 : k + 4 < N := by omega
  have hk5 : k + 5 < N := by omega
  have hk6 : k + 6 < N := by omega
  have hk7 : k + 7 < N := by omega
  have hP : va_P D vwCl (iW ad N (rfSet cI ad F k r ps sl sd ne fa bu hs st ln pt th)) s.heap := by rw [rfSet_self hR]; exact hP
  have hl : lv_has ls 8 [(0, .ref (ad k)), (1, .int (nI w)), (2, .int (nI d)), (3, .int (nI f)), (4, .int (nI a))] := hl
  refine lv_aload_n hx hb (dk kX6_brings_ok 0 rfl) rfl (lv_at hl 0 rfl) ?_
  refine cvDv (As := []) (rest := []) (rfSet cI ad F k r ps sl r ne fa bu hs st ln pt th) ⟨hx, hb, hml, hown, hts⟩ (tX6_putAside l D cI cQ cL ad N (rfSet cI ad F k r ps sl sd ne fa bu hs st ln pt th) k hk r ps sl sd ne fa bu hs st ln pt th (rfSet_at)) (cwV9 0 hts mcX6_putAside (ac24 _ (List.mem_of_getElem? (i := 14) rfl)) miX6_putAside meX6_putAside mini_RX6 rfl rfl hdX6_putAside ⟨Nat.le_of_ble_eq_true rfl, Nat.le_of_ble_eq_true rfl⟩) hDi hK hP hNW hS hk0 rfSet_at.1 rfl rfl hl.1 rfl (Nat.le_of_ble_eq_true rfl) (by decide) (dk kX6_brings_ok 1 rfl) rfSet_rfSet (fun H locs hP hS => ?_)
  refine lv_aload_n hx hb (dk kX6_brings_ok 2 rfl) rfl (lv_at hl 0 rfl) ?_
  refine lv_iload_n hx hb (dk kX6_brings_ok 3 rfl) rfl (lv_at hl 1 rfl) ?_
  refine lv_iload_n hx hb (dk kX6_brings_ok 4 rfl) rfl (lv_at hl 2 rfl) ?_
  refine lv_iload_n hx hb (dk kX6_brings_ok 5 rfl) rfl (lv_at hl 3 rfl) ?_
  refine cvD (As := [.int (nI w), .int (nI d), .int (nI f)]) (rest := []) (rfSet cI ad F k (rfx r w (ldg (r w) (nI d) (stp w f)) (ix (r 56))) ps sl r ne fa bu hs st ln pt th) ⟨hx, hb, hml, hown, hts⟩ (tX6_flies l D cI cQ cL ad N (rfSet cI ad F k r ps sl r ne fa bu hs st ln pt th) k hk r ps sl r ne fa bu hs st ln pt th (rfSet_at) (nI w) w rfl (by omega) (nI d) d rfl (by omega) (nI f) f rfl (by omega) (rok_c9 hrk hw hwn) (rok_l0 hrk hw hwn) (ix (r 56)) hrk.1.1 hrk.1.2 hrk.2.1) (cwV9 3 hts mcX6_flies (ac21 _ (List.mem_of_getElem? (i := 3) rfl)) miX6_flies meX6_flies mini_RX6 rfl rfl hdX6_flies ⟨Nat.le_of_ble_eq_true rfl, Nat.le_of_ble_eq_true rfl⟩) hDi hK hP hNW hS hk0 rfSet_at.1 rfl rfl hl.1 rfl (Nat.le_of_ble_eq_true rfl) (by decide) (dk kX6_brings_ok 6 rfl) rfSet_rfSet (fun H locs hP hS => ?_)
  refine lv_istore (lv' := [(5, .int (fans (ldg (r w) (nI d) (stp w f)))), (0, .ref (ad k)), (1, .int (nI w)), (2, .int (nI d)), (3, .int (nI f)), (4, .int (nI a))]) hx hb (dk kX6_brings_ok 7 rfl) hl (by decide) rfl (fun ls hl => ?_)
  refine lv_iconst (v := nI 1) hx hb (dk kX6_brings_ok 8 rfl) rfl ?_
  refine lv_iload_n hx hb (dk kX6_brings_ok 9 rfl) rfl (lv_at hl 2 rfl) ?_
  refine lv_iconst (v := nI 4) hx hb (dk kX6_brings_ok 10 rfl) rfl ?_
  refine n_idiv hx hb (by omega) (by decide) (by decide) (dk kX6_brings_ok 11 rfl) ?_
  refine lv_iconst (v := nI 2) hx hb (dk kX6_brings_ok 12 rfl) rfl ?_
  refine n_irem hx hb (by omega) (by decide) (by decide) (dk kX6_brings_ok 13 rfl) ?_
  refine n_isub hx hb (by omega) (dk kX6_brings_ok 14 rfl) ?_
  refine lv_istore (lv' := [(6, .int (nI (1 - ((w / 4) % 2)))), (5, .int (fans (ldg (r w) (nI d) (stp w f)))), (0, .ref (ad k)), (1, .int (nI w)), (2, .int (nI d)), (3, .int (nI f)), (4, .int (nI a))]) hx hb (dk kX6_brings_ok 15 rfl) hl (by decide) rfl (fun ls hl => ?_)
  refine lv_iload hx hb (dk kX6_brings_ok 16 rfl) (lv_at hl 6 rfl) ?_
  refine n_if_ne (tgt := 45) hx hb (by omega) (dk kX6_brings_ok 17 rfl) (by decide) (fun h1 => ?_) (fun h1 => ?_)
  · skip
    refine lv_aload_n hx hb (dk kX6_brings_ok 28 rfl) rfl (lv_at hl 2 rfl) ?_
    refine lv_iload hx hb (dk kX6_brings_ok 29 rfl) (lv_at hl 0 rfl) ?_
    refine cvR (As := [.int (nI (1 - ((w / 4) % 2)))]) (rest := []) ⟨hx, hb, hml, hown, hts⟩ (tX6_coveredOf l D cI cQ cL ad N (rfSet cI ad F k (rfx r w (ldg (r w) (nI d) (stp w f)) (ix (r 56))) ps sl r ne fa bu hs st ln pt th) k hk (rfx r w (ldg (r w) (nI d) (stp w f)) (ix (r 56))) ps sl r ne fa bu hs st ln pt th (rfSet_at) (nI (1 - ((w / 4) % 2))) (1 - ((w / 4) % 2)) rfl (by omega)) (cwV9 1 hts mcX6_coveredOf (ac23 _ (List.mem_of_getElem? (i := 2) rfl)) miX6_coveredOf meX6_coveredOf mini_RX6 rfl rfl hdX6_coveredOf ⟨Nat.le_of_ble_eq_true rfl, Nat.le_of_ble_eq_true rfl⟩) hK hP hNW hk0 rfSet_at.1 rfl rfl hl.1 rfl (Nat.le_of_ble_eq_true rfl) (by decide) (dk kX6_brings_ok 30 rfl) ?_
    refine lv_aload_n hx hb (dk kX6_brings_ok 31 rfl) rfl (lv_at hl 2 rfl) ?_
    refine lv_iload hx hb (dk kX6_brings_ok 32 rfl) (lv_at hl 0 rfl) ?_
    refine lv_iconst (v := nI 2) hx hb (dk kX6_brings_ok 33 rfl) rfl ?_
    refine n_iadd hx hb (dk kX6_brings_ok 34 rfl) ?_
    refine cvR (As := [.int (nI ((1 - ((w / 4) % 2)) + 2))]) (rest := [.int (nI (rcc (rfx r w (ldg (r w) (nI d) (stp w f)) (ix (r 56))) (1 - ((w / 4) % 2))))]) ⟨hx, hb, hml, hown, hts⟩ (tX6_coveredOf l D cI cQ cL ad N (rfSet cI ad F k (rfx r w (ldg (r w) (nI d) (stp w f)) (ix (r 56))) ps sl r ne fa bu hs st ln pt th) k hk (rfx r w (ldg (r w) (nI d) (stp w f)) (ix (r 56))) ps sl r ne fa bu hs st ln pt th (rfSet_at) (nI ((1 - ((w / 4) % 2)) + 2)) ((1 - ((w / 4) % 2)) + 2) rfl (by omega)) (cwV9 1 hts mcX6_coveredOf (ac23 _ (List.mem_of_getElem? (i := 2) rfl)) miX6_coveredOf meX6_coveredOf mini_RX6 rfl rfl hdX6_coveredOf ⟨Nat.le_of_ble_eq_true rfl, Nat.le_of_ble_eq_true rfl⟩) hK hP hNW hk0 rfSet_at.1 rfl rfl hl.1 rfl (Nat.le_of_ble_eq_true rfl) (by decide) (dk kX6_brings_ok 35 rfl) ?_
    refine n_iadd hx hb (dk kX6_brings_ok 36 rfl) ?_
    refine lv_istore (lv' := [(7, .int (nI ((rcc (rfx r w (ldg (r w) (nI d) (stp w f)) (ix (r 56))) (1 - ((w / 4) % 2))) + (rcc (rfx r w (ldg (r w) (nI d) (stp w f)) (ix (r 56))) ((1 - ((w / 4) % 2)) + 2))))), (6, .int (nI (1 - ((w / 4) % 2)))), (5, .int (fans (ldg (r w) (nI d) (stp w f)))), (0, .ref (ad k)), (1, .int (nI w)), (2, .int (nI d)), (3, .int (nI f)), (4, .int (nI a))]) hx hb (dk kX6_brings_ok 37 rfl) hl (by decide) rfl (fun ls hl => ?_)
    refine lv_aload_n hx hb (dk kX6_brings_ok 38 rfl) rfl (lv_at hl 3 rfl) ?_
    refine cvDv (As := []) (rest := []) (rfSet cI ad F k r ps sl r ne fa bu hs st ln pt th) ⟨hx, hb, hml, hown, hts⟩ (tX6_takeBack l D cI cQ cL ad N (rfSet cI ad F k (rfx r w (ldg (r w) (nI d) (stp w f)) (ix (r 56))) ps sl r ne fa bu hs st ln pt th) k hk (rfx r w (ldg (r w) (nI d) (stp w f)) (ix (r 56))) ps sl r ne fa bu hs st ln pt th (rfSet_at)) (cwV9 0 hts mcX6_takeBack (ac24 _ (List.mem_of_getElem? (i := 18) rfl)) miX6_takeBack meX6_takeBack mini_RX6 rfl rfl hdX6_takeBack ⟨Nat.le_of_ble_eq_true rfl, Nat.le_of_ble_eq_true rfl⟩) hDi hK hP hNW hS hk0 rfSet_at.1 rfl rfl hl.1 rfl (Nat.le_of_ble_eq_true rfl) (by decide) (dk kX6_brings_ok 39 rfl) rfSet_rfSet (fun H locs hP hS => ?_)
    refine lv_iload hx hb (dk kX6_brings_ok 40 rfl) (lv_at hl 0 rfl) ?_
    exact hret _ _ _ _ _ _ _ _ rfl (by simp only [dp, aBr, rFx, (eq_false h1), not_true_eq_false, not_false_eq_true, and_true, true_and, and_false, false_and, or_true, true_or, or_false, false_or, and_self, or_self, if_true, if_false, Bool.false_eq_true, reduceIte]; first | done | exact ⟨rfl, rfl⟩) hP hS (by decide) (by decide) (dk kX6_brings_ok 41 rfl)
  · skip
    refine lv_aload_n hx hb (dk kX6_brings_ok 18 rfl) rfl (lv_at hl 2 rfl) ?_
    refine lv_iconst (v := nI 1) hx hb (dk kX6_brings_ok 19 rfl) rfl ?_
    refine lv_iload hx hb (dk kX6_brings_ok 20 rfl) (lv_at hl 0 rfl) ?_
    refine n_isub hx hb (by omega) (dk kX6_brings_ok 21 rfl) ?_
    refine cvR (As := [.int (nI (1 - (1 - ((w / 4) % 2))))]) (rest := []) ⟨hx, hb, hml, hown, hts⟩ (tX6_team l D cI cQ cL ad N (rfSet cI ad F k (rfx r w (ldg (r w) (nI d) (stp w f)) (ix (r 56))) ps sl r ne fa bu hs st ln pt th) k hk (rfx r w (ldg (r w) (nI d) (stp w f)) (ix (r 56))) ps sl r ne fa bu hs st ln pt th (rfSet_at) (nI (1 - (1 - ((w / 4) % 2)))) (1 - (1 - ((w / 4) % 2))) rfl (by omega)) (cwV9 1 hts mcX6_team (ac24 _ (List.mem_of_getElem? (i := 2) rfl)) miX6_team meX6_team mini_RX6 rfl rfl hdX6_team ⟨Nat.le_of_ble_eq_true rfl, Nat.le_of_ble_eq_true rfl⟩) hK hP hNW hk0 rfSet_at.1 rfl rfl hl.1 rfl (Nat.le_of_ble_eq_true rfl) (by decide) (dk kX6_brings_ok 22 rfl) ?_
    refine lv_aload_n hx hb (dk kX6_brings_ok 23 rfl) rfl (lv_at hl 2 rfl) ?_
    refine lv_iload hx hb (dk kX6_brings_ok 24 rfl) (lv_at hl 0 rfl) ?_
    refine cvR (As := [.int (nI (1 - ((w / 4) % 2)))]) (rest := [.int (nI (rtm (rfx r w (ldg (r w) (nI d) (stp w f)) (ix (r 56))) (1 - (1 - ((w / 4) % 2)))))]) ⟨hx, hb, hml, hown, hts⟩ (tX6_team l D cI cQ cL ad N (rfSet cI ad F k (rfx r w (ldg (r w) (nI d) (stp w f)) (ix (r 56))) ps sl r ne fa bu hs st ln pt th) k hk (rfx r w (ldg (r w) (nI d) (stp w f)) (ix (r 56))) ps sl r ne fa bu hs st ln pt th (rfSet_at) (nI (1 - ((w / 4) % 2))) (1 - ((w / 4) % 2)) rfl (by omega)) (cwV9 1 hts mcX6_team (ac24 _ (List.mem_of_getElem? (i := 2) rfl)) miX6_team meX6_team mini_RX6 rfl rfl hdX6_team ⟨Nat.le_of_ble_eq_true rfl, Nat.le_of_ble_eq_true rfl⟩) hK hP hNW hk0 rfSet_at.1 rfl rfl hl.1 rfl (Nat.le_of_ble_eq_true rfl) (by decide) (dk kX6_brings_ok 25 rfl) ?_
    refine lv_isub hx hb (dk kX6_brings_ok 26 rfl) ?_
    refine lv_goto (tgt := 60) hx hb (dk kX6_brings_ok 27 rfl) (by decide) ?_
    refine lv_istore (lv' := [(7, .int ((nI (rtm (rfx r w (ldg (r w) (nI d) (stp w f)) (ix (r 56))) (1 - (1 - ((w / 4) % 2))))) - (nI (rtm (rfx r w (ldg (r w) (nI d) (stp w f)) (ix (r 56))) (1 - ((w / 4) % 2)))))), (6, .int (nI (1 - ((w / 4) % 2)))), (5, .int (fans (ldg (r w) (nI d) (stp w f)))), (0, .ref (ad k)), (1, .int (nI w)), (2, .int (nI d)), (3, .int (nI f)), (4, .int (nI a))]) hx hb (dk kX6_brings_ok 37 rfl) hl (by decide) rfl (fun ls hl => ?_)
    refine lv_aload_n hx hb (dk kX6_brings_ok 38 rfl) rfl (lv_at hl 3 rfl) ?_
    refine cvDv (As := []) (rest := []) (rfSet cI ad F k r ps sl r ne fa bu hs st ln pt th) ⟨hx, hb, hml, hown, hts⟩ (tX6_takeBack l D cI cQ cL ad N (rfSet cI ad F k (rfx r w (ldg (r w) (nI d) (stp w f)) (ix (r 56))) ps sl r ne fa bu hs st ln pt th) k hk (rfx r w (ldg (r w) (nI d) (stp w f)) (ix (r 56))) ps sl r ne fa bu hs st ln pt th (rfSet_at)) (cwV9 0 hts mcX6_takeBack (ac24 _ (List.mem_of_getElem? (i := 18) rfl)) miX6_takeBack meX6_takeBack mini_RX6 rfl rfl hdX6_takeBack ⟨Nat.le_of_ble_eq_true rfl, Nat.le_of_ble_eq_true rfl⟩) hDi hK hP hNW hS hk0 rfSet_at.1 rfl rfl hl.1 rfl (Nat.le_of_ble_eq_true rfl) (by decide) (dk kX6_brings_ok 39 rfl) rfSet_rfSet (fun H locs hP hS => ?_)
    refine lv_iload hx hb (dk kX6_brings_ok 40 rfl) (lv_at hl 0 rfl) ?_
    exact hret _ _ _ _ _ _ _ _ rfl (by simp only [dp, aBr, rFx, (eq_true h1), not_true_eq_false, not_false_eq_true, and_true, true_and, and_false, false_and, or_true, true_or, or_false, false_or, and_self, or_self, if_true, if_false, Bool.false_eq_true, reduceIte]; first | done | exact ⟨rfl, rfl⟩) hP hS (by decide) (by decide) (dk kX6_brings_ok 41 rfl)
set_option maxRecDepth 100000 in
set_option maxHeartbeats 4000000 in
theorem tX6_bestFlight (l : Launch) (D : va_G) (cI cQ cL : ClassId) (ad : Nat → Nat) (N : Nat) (F : Nat → va_E) (k : Nat) (hk : k + 7 < N) (r ps sl sd ne fa bu : Nat → Int32) (hs : Bool) (st ln pt : Nat) (th : Int32) (hR : rfAt cI ad F k r ps sl sd ne fa bu hs st ln pt th) (hrk : rok r) : MX l yX6_bestFlight (Cond.code yX6_bestFlight cX6_bestFlight 8 (some .int) :: AW) ({ frames := 6, cells := 0, slots := 0, locals := 136 } : Room) D cI cQ cL ad N F [.ref (ad k)] (dp (some (.int ((rbst r sd 288).1))) (rfSet cI ad F k r ps sl ((rbst r sd 288).2.2) ne fa bu hs st ln pt th)) 0 0 := by
  refine mx_i (ty := .int) (by decide +kernel) rfl (Nat.le_of_ble_eq_true rfl) (fun p e s m below meth cd Q ls hx hb hml hown hts hDi hP hK hNW hS hret hl => ?_)
  have hown : s.vm.findClass RX6 = some m.cls := hown
  have ht9 := hrk.1.1
  have hk0 : k < N := by omega
  have hk1 : k + 1 < N := by omega
  have hk2 : k + 2 < N := by omega
  have hk3 : k + 3 < N := by omega
  have hk4 : k + 4 < N := by omega
  have hk5 : k + 5 < N := by omega
  have hk6 : k + 6 < N := by omega
  have hk7 : k + 7 < N := by omega
  have hP : va_P D vwCl (iW ad N (rfSet cI ad F k r ps sl sd ne fa bu hs st ln pt th)) s.heap := by rw [rfSet_self hR]; exact hP
  have hl : lv_has ls 8 [(0, .ref (ad k))] := hl
  refine lv_iconst (v := -1) hx hb (dk kX6_bestFlight_0_ok 0 rfl) rfl ?_
  refine lv_istore_n (lv' := [(1, .int (-1)), (0, .ref (ad k))]) hx hb (dk kX6_bestFlight_0_ok 1 rfl) rfl hl (by decide) rfl (fun ls hl => ?_)
  refine lv_iconst (v := nI 0) hx hb (dk kX6_bestFlight_0_ok 2 rfl) rfl ?_
  refine lv_istore_n (lv' := [(2, .int (nI 0)), (1, .int (-1)), (0, .ref (ad k))]) hx hb (dk kX6_bestFlight_0_ok 3 rfl) rfl hl (by decide) rfl (fun ls hl => ?_)
  refine lv_iconst (v := nI 0) hx hb (dk kX6_bestFlight_0_ok 4 rfl) rfl ?_
  refine lv_istore_n (lv' := [(3, .int (nI 0)), (2, .int (nI 0)), (1, .int (-1)), (0, .ref (ad k))]) hx hb (dk kX6_bestFlight_0_ok 5 rfl) rfl hl (by decide) rfl (fun ls hl => ?_)
  have L6 : ∀ (fu : Nat) (i : Nat) (x1 : Int32) (x2 : Int32) (H : Heap) (locs : List Loc), va_P D vwCl (iW ad N (rfSet cI ad F k r ps sl ((rbst r sd i).2.2) ne fa bu hs st ln pt th)) H → va_S (iA ad N s.heap.size) s.heap H locs → x1 = (rbst r sd i).1 → x2 = (rbst r sd i).2.1 → i ≤ 288 → 288 - i < fu → ∀ ls : Array Slot, lv_has ls 8 [(0, .ref (ad k)), (1, .int x1), (2, .int x2), (3, .int (nI i))] → W p l e ({ frames := 6, cells := 0, slots := 0, locals := 136 } : Room) s m ([.ref (ad k)] : List Value).toArray below meth cd H locs 0 0 Q (F0 m 6 ls []) := by
    intro fu
    induction fu with
    | zero => intros; omega
    | succ fu ih6 =>
      intro i x1 x2 H locs hP hS ex1 ex2 hi hm6 ls hl
      subst ex1
      subst ex2
      refine lv_iload_n hx hb (dk kX6_bestFlight_0_ok 6 rfl) rfl (lv_at hl 3 rfl) ?_
      refine lv_sipush (v := nI 288) hx hb (dk kX6_bestFlight_0_ok 7 rfl) rfl ?_
      refine n_icmp_ge (tgt := 118) hx hb (by first | omega | (have q1 := rwn_le r (4 * ix (r 56) + i / 72); omega)) (by decide) (dk kX6_bestFlight_0_ok 8 rfl) (by decide) (fun h1 => ?_) (fun h1 => ?_)
      · skip
        refine lv_iload_n hx hb (dk kX6_bestFlight_1_ok 12 rfl) rfl (lv_at hl 1 rfl) ?_
        exact hret _ _ _ _ _ _ _ _ rfl (by rw [show i = 288 by omega]; exact ⟨rfl, rfl⟩) hP hS (by decide) (by decide) (dk kX6_bestFlight_1_ok 13 rfl)
      · skip
        refine lv_iconst (v := nI 4) hx hb (dk kX6_bestFlight_0_ok 9 rfl) rfl ?_
        refine lv_aload_n hx hb (dk kX6_bestFlight_0_ok 10 rfl) rfl (lv_at hl 0 rfl) ?_
        refine gf hx hb hts (fun w h => List.mem_cons_of_mem _ (acX6 w h)) hown hK hP hk0 rfSet_at.1 rfl 0 (by decide) (hts _ (List.mem_cons_of_mem _ (ac17 _ (List.mem_of_getElem? (i := 17) rfl)))) (fun _ h => h) rfl (dk kX6_bestFlight_0_ok 11 rfl) ?_
        refine lv_bipush (v := nI 56) hx hb (dk kX6_bestFlight_0_ok 12 rfl) rfl ?_
        refine ald (j := 56) hx hb hK hP hk1 rfSet_at.2.1 rfl (by omega) (by decide) (dk kX6_bestFlight_0_ok 13 rfl) ?_
        rw [show r 56 = nI (ix (r 56)) from hrk.1.2]
        refine n_imul hx hb (dk kX6_bestFlight_0_ok 14 rfl) ?_
        refine lv_iload_n hx hb (dk kX6_bestFlight_0_ok 15 rfl) rfl (lv_at hl 3 rfl) ?_
        refine lv_bipush (v := nI 72) hx hb (dk kX6_bestFlight_0_ok 16 rfl) rfl ?_
        refine n_idiv hx hb (by first | omega | (have q1 := rwn_le r (4 * ix (r 56) + i / 72); omega)) (by decide) (by decide) (dk kX6_bestFlight_0_ok 17 rfl) ?_
        refine n_iadd hx hb (dk kX6_bestFlight_0_ok 18 rfl) ?_
        refine lv_istore (lv' := [(4, .int (nI ((4 * (ix (r 56))) + (i / 72)))), (0, .ref (ad k)), (1, .int ((rbst r sd i).1)), (2, .int ((rbst r sd i).2.1)), (3, .int (nI i))]) hx hb (dk kX6_bestFlight_0_ok 19 rfl) hl (by decide) rfl (fun ls hl => ?_)
        refine lv_aload_n hx hb (dk kX6_bestFlight_0_ok 20 rfl) rfl (lv_at hl 1 rfl) ?_
        refine lv_iload hx hb (dk kX6_bestFlight_0_ok 21 rfl) (lv_at hl 0 rfl) ?_
        refine cvR (As := [.int (nI ((4 * (ix (r 56))) + (i / 72)))]) (rest := []) ⟨hx, hb, hml, hown, hts⟩ (tX6_whyNot l D cI cQ cL ad N (rfSet cI ad F k r ps sl ((rbst r sd i).2.2) ne fa bu hs st ln pt th) k hk r ps sl ((rbst r sd i).2.2) ne fa bu hs st ln pt th (rfSet_at) (nI ((4 * (ix (r 56))) + (i / 72))) ((4 * (ix (r 56))) + (i / 72)) rfl (by omega)) (cwV9 1 hts mcX6_whyNot (ac20 _ (List.mem_of_getElem? (i := 19) rfl)) miX6_whyNot meX6_whyNot mini_RX6 rfl rfl hdX6_whyNot ⟨Nat.le_of_ble_eq_true rfl, Nat.le_of_ble_eq_true rfl⟩) hK hP hNW hk0 rfSet_at.1 rfl rfl hl.1 rfl (Nat.le_of_ble_eq_true rfl) (by decide) (dk kX6_bestFlight_0_ok 22 rfl) ?_
        refine n_if_ne (tgt := 112) hx hb (by first | omega | (have q1 := rwn_le r (4 * ix (r 56) + i / 72); omega)) (dk kX6_bestFlight_0_ok 23 rfl) (by decide) (fun h2 => ?_) (fun h2 => ?_)
        · skip
          refine lv_iinc (v := nI (i + 1)) (lv' := [(3, .int (nI (i + 1))), (4, .int (nI ((4 * (ix (r 56))) + (i / 72)))), (0, .ref (ad k)), (1, .int ((rbst r sd i).1)), (2, .int ((rbst r sd i).2.1))]) hx hb (dk kX6_bestFlight_1_ok 10 rfl) hl (k := 4) rfl (n_inc _) (by decide) rfl (fun ls hl => ?_)
          refine lv_goto (tgt := 6) hx hb (dk kX6_bestFlight_1_ok 11 rfl) (by decide) ?_
          exact ih6 (i + 1) _ _ _ _ (by first | exact hP | (simp only [rbst, rbW, rbI, (eq_true h1), (eq_false (Nat.not_le.mpr h1)), (eq_false h2), not_true_eq_false, not_false_eq_true, and_true, true_and, and_false, false_and, or_true, true_or, or_false, false_or, and_self, or_self, if_true, if_false, Bool.false_eq_true, reduceIte]; exact hP)) hS (by simp only [rbst, rbW, rbI, (eq_true h1), (eq_false (Nat.not_le.mpr h1)), (eq_false h2), not_true_eq_false, not_false_eq_true, and_true, true_and, and_false, false_and, or_true, true_or, or_false, false_or, and_self, or_self, if_true, if_false, Bool.false_eq_true, reduceIte]) (by simp only [rbst, rbW, rbI, (eq_true h1), (eq_false (Nat.not_le.mpr h1)), (eq_false h2), not_true_eq_false, not_false_eq_true, and_true, true_and, and_false, false_and, or_true, true_or, or_false, false_or, and_self, or_self, if_true, if_false, Bool.false_eq_true, reduceIte]) (by omega) (by omega) ls (lv_sub hl [2, 3, 4, 0] rfl)
        · skip
          refine lv_iload_n hx hb (dk kX6_bestFlight_0_ok 24 rfl) rfl (lv_at hl 4 rfl) ?_
          refine lv_bipush (v := nI 9) hx hb (dk kX6_bestFlight_0_ok 25 rfl) rfl ?_
          refine n_idiv hx hb (by first | omega | (have q1 := rwn_le r (4 * ix (r 56) + i / 72); omega)) (by decide) (by decide) (dk kX6_bestFlight_0_ok 26 rfl) ?_
          refine lv_bipush (v := nI 8) hx hb (dk kX6_bestFlight_0_ok 27 rfl) rfl ?_
          refine n_irem hx hb (by first | omega | (have q1 := rwn_le r (4 * ix (r 56) + i / 72); omega)) (by decide) (by decide) (dk kX6_bestFlight_0_ok 28 rfl) ?_
          refine lv_istore (lv' := [(5, .int (nI ((i / 9) % 8))), (4, .int (nI ((4 * (ix (r 56))) + (i / 72)))), (0, .ref (ad k)), (1, .int ((rbst r sd i).1)), (2, .int ((rbst r sd i).2.1)), (3, .int (nI i))]) hx hb (dk kX6_bestFlight_0_ok 29 rfl) hl (by decide) rfl (fun ls hl => ?_)
          refine lv_iload_n hx hb (dk kX6_bestFlight_0_ok 30 rfl) rfl (lv_at hl 5 rfl) ?_
          refine lv_bipush (v := nI 9) hx hb (dk kX6_bestFlight_0_ok 31 rfl) rfl ?_
          refine n_irem hx hb (by first | omega | (have q1 := rwn_le r (4 * ix (r 56) + i / 72); omega)) (by decide) (by decide) (dk kX6_bestFlight_0_ok 32 rfl) ?_
          refine lv_iconst (v := nI 1) hx hb (dk kX6_bestFlight_0_ok 33 rfl) rfl ?_
          refine n_iadd hx hb (dk kX6_bestFlight_0_ok 34 rfl) ?_
          refine lv_istore (lv' := [(6, .int (nI ((i % 9) + 1))), (5, .int (nI ((i / 9) % 8))), (4, .int (nI ((4 * (ix (r 56))) + (i / 72)))), (0, .ref (ad k)), (1, .int ((rbst r sd i).1)), (2, .int ((rbst r sd i).2.1)), (3, .int (nI i))]) hx hb (dk kX6_bestFlight_0_ok 35 rfl) hl (by decide) rfl (fun ls hl => ?_)
          refine lv_bipush (v := nI 100) hx hb (dk kX6_bestFlight_0_ok 36 rfl) rfl ?_
          refine lv_aload_n hx hb (dk kX6_bestFlight_0_ok 37 rfl) rfl (lv_at hl 3 rfl) ?_
          refine lv_iload hx hb (dk kX6_bestFlight_0_ok 38 rfl) (lv_at hl 2 rfl) ?_
          refine lv_iload hx hb (dk kX6_bestFlight_0_ok 39 rfl) (lv_at hl 1 rfl) ?_
          refine lv_iload hx hb (dk kX6_bestFlight_0_ok 40 rfl) (lv_at hl 0 rfl) ?_
          refine lv_iconst (v := nI 0) hx hb (dk kX6_bestFlight_0_ok 41 rfl) rfl ?_
          refine cvD (As := [.int (nI ((4 * (ix (r 56))) + (i / 72))), .int (nI ((i / 9) % 8)), .int (nI ((i % 9) + 1)), .int (nI 0)]) (rest := [.int (nI 100)]) (rfSet cI ad F k r ps sl r ne fa bu hs st ln pt th) ⟨hx, hb, hml, hown, hts⟩ (tX6_brings l D cI cQ cL ad N (rfSet cI ad F k r ps sl ((rbst r sd i).2.2) ne fa bu hs st ln pt th) k hk r ps sl ((rbst r sd i).2.2) ne fa bu hs st ln pt th (rfSet_at) (nI ((4 * (ix (r 56))) + (i / 72))) ((4 * (ix (r 56))) + (i / 72)) rfl (by omega) (nI ((i / 9) % 8)) ((i / 9) % 8) rfl (by omega) (nI ((i % 9) + 1)) ((i % 9) + 1) rfl (by omega) (nI 0) 0 rfl (by omega) hrk h2) (cwV9 4 hts mcX6_brings (ac24 _ (List.mem_of_getElem? (i := 22) rfl)) miX6_brings meX6_brings mini_RX6 rfl rfl hdX6_brings ⟨Nat.le_of_ble_eq_true rfl, Nat.le_of_ble_eq_true rfl⟩) hDi hK hP hNW hS hk0 rfSet_at.1 rfl rfl hl.1 rfl (Nat.le_of_ble_eq_true rfl) (by decide) (dk kX6_bestFlight_0_ok 42 rfl) rfSet_rfSet (fun H locs hP hS => ?_)
          refine lv_imul hx hb (dk kX6_bestFlight_0_ok 43 rfl) ?_
          refine lv_aload_n hx hb (dk kX6_bestFlight_0_ok 44 rfl) rfl (lv_at hl 3 rfl) ?_
          refine lv_iload hx hb (dk kX6_bestFlight_0_ok 45 rfl) (lv_at hl 2 rfl) ?_
          refine lv_iload hx hb (dk kX6_bestFlight_0_ok 46 rfl) (lv_at hl 1 rfl) ?_
          refine lv_iload hx hb (dk kX6_bestFlight_0_ok 47 rfl) (lv_at hl 0 rfl) ?_
          refine lv_iconst (v := nI 1) hx hb (dk kX6_bestFlight_0_ok 48 rfl) rfl ?_
          refine cvD (As := [.int (nI ((4 * (ix (r 56))) + (i / 72))), .int (nI ((i / 9) % 8)), .int (nI ((i % 9) + 1)), .int (nI 1)]) (rest := [.int ((nI 100) * (aBr r ((4 * (ix (r 56))) + (i / 72)) ((i / 9) % 8) ((i % 9) + 1) 0))]) (rfSet cI ad F k r ps sl r ne fa bu hs st ln pt th) ⟨hx, hb, hml, hown, hts⟩ (tX6_brings l D cI cQ cL ad N (rfSet cI ad F k r ps sl r ne fa bu hs st ln pt th) k hk r ps sl r ne fa bu hs st ln pt th (rfSet_at) (nI ((4 * (ix (r 56))) + (i / 72))) ((4 * (ix (r 56))) + (i / 72)) rfl (by omega) (nI ((i / 9) % 8)) ((i / 9) % 8) rfl (by omega) (nI ((i % 9) + 1)) ((i % 9) + 1) rfl (by omega) (nI 1) 1 rfl (by omega) hrk h2) (cwV9 4 hts mcX6_brings (ac24 _ (List.mem_of_getElem? (i := 22) rfl)) miX6_brings meX6_brings mini_RX6 rfl rfl hdX6_brings ⟨Nat.le_of_ble_eq_true rfl, Nat.le_of_ble_eq_true rfl⟩) hDi hK hP hNW hS hk0 rfSet_at.1 rfl rfl hl.1 rfl (Nat.le_of_ble_eq_true rfl) (by decide) (dk kX6_bestFlight_0_ok 49 rfl) rfSet_rfSet (fun H locs hP hS => ?_)
          refine lv_iadd hx hb (dk kX6_bestFlight_0_ok 50 rfl) ?_
          refine lv_istore (lv' := [(7, .int (((nI 100) * (aBr r ((4 * (ix (r 56))) + (i / 72)) ((i / 9) % 8) ((i % 9) + 1) 0)) + (aBr r ((4 * (ix (r 56))) + (i / 72)) ((i / 9) % 8) ((i % 9) + 1) 1))), (6, .int (nI ((i % 9) + 1))), (5, .int (nI ((i / 9) % 8))), (4, .int (nI ((4 * (ix (r 56))) + (i / 72)))), (0, .ref (ad k)), (1, .int ((rbst r sd i).1)), (2, .int ((rbst r sd i).2.1)), (3, .int (nI i))]) hx hb (dk kX6_bestFlight_0_ok 51 rfl) hl (by decide) rfl (fun ls hl => ?_)
          refine lv_iload_n hx hb (dk kX6_bestFlight_0_ok 52 rfl) rfl (lv_at hl 5 rfl) ?_
          refine lv_iconst (v := -1) hx hb (dk kX6_bestFlight_0_ok 53 rfl) rfl ?_
          refine lv_icmp_eq (tgt := 94) hx hb (dk kX6_bestFlight_0_ok 54 rfl) (by decide) (fun h3 => ?_) (fun h3 => ?_)
          · skip
            refine lv_bipush (v := nI 100) hx hb (dk kX6_bestFlight_0_ok 58 rfl) rfl ?_
            refine lv_iload hx hb (dk kX6_bestFlight_0_ok 59 rfl) (lv_at hl 3 rfl) ?_
            refine n_imul hx hb (dk kX6_bestFlight_1_ok 0 rfl) ?_
            refine lv_bipush (v := nI 10) hx hb (dk kX6_bestFlight_1_ok 1 rfl) rfl ?_
            refine lv_iload hx hb (dk kX6_bestFlight_1_ok 2 rfl) (lv_at hl 2 rfl) ?_
            refine n_imul hx hb (dk kX6_bestFlight_1_ok 3 rfl) ?_
            refine n_iadd hx hb (dk kX6_bestFlight_1_ok 4 rfl) ?_
            refine lv_iload hx hb (dk kX6_bestFlight_1_ok 5 rfl) (lv_at hl 1 rfl) ?_
            refine n_iadd hx hb (dk kX6_bestFlight_1_ok 6 rfl) ?_
            refine lv_istore_n (lv' := [(1, .int (nI (((100 * ((4 * (ix (r 56))) + (i / 72))) + (10 * ((i / 9) % 8))) + ((i % 9) + 1)))), (7, .int (((nI 100) * (aBr r ((4 * (ix (r 56))) + (i / 72)) ((i / 9) % 8) ((i % 9) + 1) 0)) + (aBr r ((4 * (ix (r 56))) + (i / 72)) ((i / 9) % 8) ((i % 9) + 1) 1))), (6, .int (nI ((i % 9) + 1))), (5, .int (nI ((i / 9) % 8))), (4, .int (nI ((4 * (ix (r 56))) + (i / 72)))), (0, .ref (ad k)), (2, .int ((rbst r sd i).2.1)), (3, .int (nI i))]) hx hb (dk kX6_bestFlight_1_ok 7 rfl) rfl hl (by decide) rfl (fun ls hl => ?_)
            refine lv_iload hx hb (dk kX6_bestFlight_1_ok 8 rfl) (lv_at hl 1 rfl) ?_
            refine lv_istore_n (lv' := [(2, .int (((nI 100) * (aBr r ((4 * (ix (r 56))) + (i / 72)) ((i / 9) % 8) ((i % 9) + 1) 0)) + (aBr r ((4 * (ix (r 56))) + (i / 72)) ((i / 9) % 8) ((i % 9) + 1) 1))), (1, .int (nI (((100 * ((4 * (ix (r 56))) + (i / 72))) + (10 * ((i / 9) % 8))) + ((i % 9) + 1)))), (7, .int (((nI 100) * (aBr r ((4 * (ix (r 56))) + (i / 72)) ((i / 9) % 8) ((i % 9) + 1) 0)) + (aBr r ((4 * (ix (r 56))) + (i / 72)) ((i / 9) % 8) ((i % 9) + 1) 1))), (6, .int (nI ((i % 9) + 1))), (5, .int (nI ((i / 9) % 8))), (4, .int (nI ((4 * (ix (r 56))) + (i / 72)))), (0, .ref (ad k)), (3, .int (nI i))]) hx hb (dk kX6_bestFlight_1_ok 9 rfl) rfl hl (by decide) rfl (fun ls hl => ?_)
            refine lv_iinc (v := nI (i + 1)) (lv' := [(3, .int (nI (i + 1))), (2, .int (((nI 100) * (aBr r ((4 * (ix (r 56))) + (i / 72)) ((i / 9) % 8) ((i % 9) + 1) 0)) + (aBr r ((4 * (ix (r 56))) + (i / 72)) ((i / 9) % 8) ((i % 9) + 1) 1))), (1, .int (nI (((100 * ((4 * (ix (r 56))) + (i / 72))) + (10 * ((i / 9) % 8))) + ((i % 9) + 1)))), (7, .int (((nI 100) * (aBr r ((4 * (ix (r 56))) + (i / 72)) ((i / 9) % 8) ((i % 9) + 1) 0)) + (aBr r ((4 * (ix (r 56))) + (i / 72)) ((i / 9) % 8) ((i % 9) + 1) 1))), (6, .int (nI ((i % 9) + 1))), (5, .int (nI ((i / 9) % 8))), (4, .int (nI ((4 * (ix (r 56))) + (i / 72)))), (0, .ref (ad k))]) hx hb (dk kX6_bestFlight_1_ok 10 rfl) hl (k := 7) rfl (n_inc _) (by decide) rfl (fun ls hl => ?_)
            refine lv_goto (tgt := 6) hx hb (dk kX6_bestFlight_1_ok 11 rfl) (by decide) ?_
            exact ih6 (i + 1) _ _ _ _ (by first | exact hP | (simp only [rbst, rbW, rbI, (eq_true h1), (eq_false (Nat.not_le.mpr h1)), (eq_true h2), (eq_true h3), not_true_eq_false, not_false_eq_true, and_true, true_and, and_false, false_and, or_true, true_or, or_false, false_or, and_self, or_self, if_true, if_false, Bool.false_eq_true, reduceIte]; exact hP)) hS (by simp only [rbst, rbW, rbI, (eq_true h1), (eq_false (Nat.not_le.mpr h1)), (eq_true h2), (eq_true h3), not_true_eq_false, not_false_eq_true, and_true, true_and, and_false, false_and, or_true, true_or, or_false, false_or, and_self, or_self, if_true, if_false, Bool.false_eq_true, reduceIte]) (by simp only [rbst, rbW, rbI, (eq_true h1), (eq_false (Nat.not_le.mpr h1)), (eq_true h2), (eq_true h3), not_true_eq_false, not_false_eq_true, and_true, true_and, and_false, false_and, or_true, true_or, or_false, false_or, and_self, or_self, if_true, if_false, Bool.false_eq_true, reduceIte]) (by omega) (by omega) ls (lv_sub hl [7, 2, 1, 0] rfl)
          · skip
            refine lv_iload hx hb (dk kX6_bestFlight_0_ok 55 rfl) (lv_at hl 0 rfl) ?_
            refine lv_iload_n hx hb (dk kX6_bestFlight_0_ok 56 rfl) rfl (lv_at hl 6 rfl) ?_
            refine lv_icmp_le (tgt := 112) hx hb (dk kX6_bestFlight_0_ok 57 rfl) (by decide) (fun h4 => ?_) (fun h4 => ?_)
            · skip
              refine lv_iinc (v := nI (i + 1)) (lv' := [(3, .int (nI (i + 1))), (7, .int (((nI 100) * (aBr r ((4 * (ix (r 56))) + (i / 72)) ((i / 9) % 8) ((i % 9) + 1) 0)) + (aBr r ((4 * (ix (r 56))) + (i / 72)) ((i / 9) % 8) ((i % 9) + 1) 1))), (6, .int (nI ((i % 9) + 1))), (5, .int (nI ((i / 9) % 8))), (4, .int (nI ((4 * (ix (r 56))) + (i / 72)))), (0, .ref (ad k)), (1, .int ((rbst r sd i).1)), (2, .int ((rbst r sd i).2.1))]) hx hb (dk kX6_bestFlight_1_ok 10 rfl) hl (k := 7) rfl (n_inc _) (by decide) rfl (fun ls hl => ?_)
              refine lv_goto (tgt := 6) hx hb (dk kX6_bestFlight_1_ok 11 rfl) (by decide) ?_
              exact ih6 (i + 1) _ _ _ _ (by first | exact hP | (simp only [rbst, rbW, rbI, (eq_true h1), (eq_false (Nat.not_le.mpr h1)), (eq_true h2), (eq_false h3), (eq_true h4), not_true_eq_false, not_false_eq_true, and_true, true_and, and_false, false_and, or_true, true_or, or_false, false_or, and_self, or_self, if_true, if_false, Bool.false_eq_true, reduceIte]; exact hP)) hS (by simp only [rbst, rbW, rbI, (eq_true h1), (eq_false (Nat.not_le.mpr h1)), (eq_true h2), (eq_false h3), (eq_true h4), not_true_eq_false, not_false_eq_true, and_true, true_and, and_false, false_and, or_true, true_or, or_false, false_or, and_self, or_self, if_true, if_false, Bool.false_eq_true, reduceIte]) (by simp only [rbst, rbW, rbI, (eq_true h1), (eq_false (Nat.not_le.mpr h1)), (eq_true h2), (eq_false h3), (eq_true h4), not_true_eq_false, not_false_eq_true, and_true, true_and, and_false, false_and, or_true, true_or, or_false, false_or, and_self, or_self, if_true, if_false, Bool.false_eq_true, reduceIte]) (by omega) (by omega) ls (lv_sub hl [5, 6, 7, 0] rfl)
            · skip
              refine lv_bipush (v := nI 100) hx hb (dk kX6_bestFlight_0_ok 58 rfl) rfl ?_
              refine lv_iload hx hb (dk kX6_bestFlight_0_ok 59 rfl) (lv_at hl 3 rfl) ?_
              refine n_imul hx hb (dk kX6_bestFlight_1_ok 0 rfl) ?_
              refine lv_bipush (v := nI 10) hx hb (dk kX6_bestFlight_1_ok 1 rfl) rfl ?_
              refine lv_iload hx hb (dk kX6_bestFlight_1_ok 2 rfl) (lv_at hl 2 rfl) ?_
              refine n_imul hx hb (dk kX6_bestFlight_1_ok 3 rfl) ?_
              refine n_iadd hx hb (dk kX6_bestFlight_1_ok 4 rfl) ?_
              refine lv_iload hx hb (dk kX6_bestFlight_1_ok 5 rfl) (lv_at hl 1 rfl) ?_
              refine n_iadd hx hb (dk kX6_bestFlight_1_ok 6 rfl) ?_
              refine lv_istore_n (lv' := [(1, .int (nI (((100 * ((4 * (ix (r 56))) + (i / 72))) + (10 * ((i / 9) % 8))) + ((i % 9) + 1)))), (7, .int (((nI 100) * (aBr r ((4 * (ix (r 56))) + (i / 72)) ((i / 9) % 8) ((i % 9) + 1) 0)) + (aBr r ((4 * (ix (r 56))) + (i / 72)) ((i / 9) % 8) ((i % 9) + 1) 1))), (6, .int (nI ((i % 9) + 1))), (5, .int (nI ((i / 9) % 8))), (4, .int (nI ((4 * (ix (r 56))) + (i / 72)))), (0, .ref (ad k)), (2, .int ((rbst r sd i).2.1)), (3, .int (nI i))]) hx hb (dk kX6_bestFlight_1_ok 7 rfl) rfl hl (by decide) rfl (fun ls hl => ?_)
              refine lv_iload hx hb (dk kX6_bestFlight_1_ok 8 rfl) (lv_at hl 1 rfl) ?_
              refine lv_istore_n (lv' := [(2, .int (((nI 100) * (aBr r ((4 * (ix (r 56))) + (i / 72)) ((i / 9) % 8) ((i % 9) + 1) 0)) + (aBr r ((4 * (ix (r 56))) + (i / 72)) ((i / 9) % 8) ((i % 9) + 1) 1))), (1, .int (nI (((100 * ((4 * (ix (r 56))) + (i / 72))) + (10 * ((i / 9) % 8))) + ((i % 9) + 1)))), (7, .int (((nI 100) * (aBr r ((4 * (ix (r 56))) + (i / 72)) ((i / 9) % 8) ((i % 9) + 1) 0)) + (aBr r ((4 * (ix (r 56))) + (i / 72)) ((i / 9) % 8) ((i % 9) + 1) 1))), (6, .int (nI ((i % 9) + 1))), (5, .int (nI ((i / 9) % 8))), (4, .int (nI ((4 * (ix (r 56))) + (i / 72)))), (0, .ref (ad k)), (3, .int (nI i))]) hx hb (dk kX6_bestFlight_1_ok 9 rfl) rfl hl (by decide) rfl (fun ls hl => ?_)
              refine lv_iinc (v := nI (i + 1)) (lv' := [(3, .int (nI (i + 1))), (2, .int (((nI 100) * (aBr r ((4 * (ix (r 56))) + (i / 72)) ((i / 9) % 8) ((i % 9) + 1) 0)) + (aBr r ((4 * (ix (r 56))) + (i / 72)) ((i / 9) % 8) ((i % 9) + 1) 1))), (1, .int (nI (((100 * ((4 * (ix (r 56))) + (i / 72))) + (10 * ((i / 9) % 8))) + ((i % 9) + 1)))), (7, .int (((nI 100) * (aBr r ((4 * (ix (r 56))) + (i / 72)) ((i / 9) % 8) ((i % 9) + 1) 0)) + (aBr r ((4 * (ix (r 56))) + (i / 72)) ((i / 9) % 8) ((i % 9) + 1) 1))), (6, .int (nI ((i % 9) + 1))), (5, .int (nI ((i / 9) % 8))), (4, .int (nI ((4 * (ix (r 56))) + (i / 72)))), (0, .ref (ad k))]) hx hb (dk kX6_bestFlight_1_ok 10 rfl) hl (k := 7) rfl (n_inc _) (by decide) rfl (fun ls hl => ?_)
              refine lv_goto (tgt := 6) hx hb (dk kX6_bestFlight_1_ok 11 rfl) (by decide) ?_
              exact ih6 (i + 1) _ _ _ _ (by first | exact hP | (simp only [rbst, rbW, rbI, (eq_true h1), (eq_false (Nat.not_le.mpr h1)), (eq_true h2), (eq_false h3), (eq_false h4), not_true_eq_false, not_false_eq_true, and_true, true_and, and_false, false_and, or_true, true_or, or_false, false_or, and_self, or_self, if_true, if_false, Bool.false_eq_true, reduceIte]; exact hP)) hS (by simp only [rbst, rbW, rbI, (eq_true h1), (eq_false (Nat.not_le.mpr h1)), (eq_true h2), (eq_false h3), (eq_false h4), not_true_eq_false, not_false_eq_true, and_true, true_and, and_false, false_and, or_true, true_or, or_false, false_or, and_self, or_self, if_true, if_false, Bool.false_eq_true, reduceIte]) (by simp only [rbst, rbW, rbI, (eq_true h1), (eq_false (Nat.not_le.mpr h1)), (eq_true h2), (eq_false h3), (eq_false h4), not_true_eq_false, not_false_eq_true, and_true, true_and, and_false, false_and, or_true, true_or, or_false, false_or, and_self, or_self, if_true, if_false, Bool.false_eq_true, reduceIte]) (by omega) (by omega) ls (lv_sub hl [7, 2, 1, 0] rfl)
  exact L6 _ 0 _ _ _ _ (by first | exact hP | (simp only [rbst, rbW, rbI, not_true_eq_false, not_false_eq_true, and_true, true_and, and_false, false_and, or_true, true_or, or_false, false_or, and_self, or_self, if_true, if_false, Bool.false_eq_true, reduceIte]; exact hP)) hS (by first | rfl | omega) (by first | rfl | omega) (by first | rfl | omega) (Nat.lt_succ_self _) ls (lv_sub hl [3, 2, 1, 0] rfl)
set_option maxRecDepth 100000 in
set_option maxHeartbeats 4000000 in
theorem tX6_best (l : Launch) (D : va_G) (cI cQ cL : ClassId) (ad : Nat → Nat) (N : Nat) (F : Nat → va_E) (k : Nat) (hk : k + 7 < N) (r ps sl sd ne fa bu : Nat → Int32) (hs : Bool) (st ln pt : Nat) (th : Int32) (hR : rfAt cI ad F k r ps sl sd ne fa bu hs st ln pt th) (hrk : rok r) : MX l yX6_best (Cond.code yX6_best cX6_best 1 (some .int) :: AW) ({ frames := 7, cells := 0, slots := 0, locals := 163 } : Room) D cI cQ cL ad N F [.ref (ad k)] (dp (some (.int ((rbst r sd 288).1))) (rfSet cI ad F k r ps sl ((rbst r sd 288).2.2) ne fa bu hs st ln pt (nI 0))) 0 0 := by
  refine mx_i (ty := .int) (by decide +kernel) rfl (Nat.le_of_ble_eq_true rfl) (fun p e s m below meth cd Q ls hx hb hml hown hts hDi hP hK hNW hS hret hl => ?_)
  have hown : s.vm.findClass RX6 = some m.cls := hown
  have hk0 : k < N := by omega
  have hk1 : k + 1 < N := by omega
  have hk2 : k + 2 < N := by omega
  have hk3 : k + 3 < N := by omega
  have hk4 : k + 4 < N := by omega
  have hk5 : k + 5 < N := by omega
  have hk6 : k + 6 < N := by omega
  have hk7 : k + 7 < N := by omega
  have hP : va_P D vwCl (iW ad N (rfSet cI ad F k r ps sl sd ne fa bu hs st ln pt th)) s.heap := by rw [rfSet_self hR]; exact hP
  have hl : lv_has ls 1 [(0, .ref (ad k))] := hl
  refine lv_aload_n hx hb (dk kX6_best_ok 0 rfl) rfl (lv_at hl 0 rfl) ?_
  refine lv_iconst (v := nI 0) hx hb (dk kX6_best_ok 1 rfl) rfl ?_
  refine pf (rfSet cI ad F k r ps sl sd ne fa bu hs st ln pt (nI 0)) hx hb hts (fun w h => List.mem_cons_of_mem _ (acX6 w h)) tyX6 tyX6_ok nmX6 hown hK hDi hP hS hk0 rfSet_at.1 rfl 11 (by decide) (hts _ (List.mem_cons_of_mem _ (ac18 _ (List.mem_of_getElem? (i := 4) rfl)))) (fun _ h => h) rfl (ty := .int) rfl rfl rfl (Nat.le_of_ble_eq_true rfl) (dk kX6_best_ok 2 rfl) rfSet_u0 (fun H locs hP hS => ?_)
  refine lv_aload_n hx hb (dk kX6_best_ok 3 rfl) rfl (lv_at hl 0 rfl) ?_
  refine cvD (As := []) (rest := []) (rfSet cI ad F k r ps sl ((rbst r sd 288).2.2) ne fa bu hs st ln pt (nI 0)) ⟨hx, hb, hml, hown, hts⟩ (tX6_bestFlight l D cI cQ cL ad N (rfSet cI ad F k r ps sl sd ne fa bu hs st ln pt (nI 0)) k hk r ps sl sd ne fa bu hs st ln pt (nI 0) (rfSet_at) hrk) (cwV9 0 hts mcX6_bestFlight (ac25 _ (List.mem_of_getElem? (i := 2) rfl)) miX6_bestFlight meX6_bestFlight mini_RX6 rfl rfl hdX6_bestFlight ⟨Nat.le_of_ble_eq_true rfl, Nat.le_of_ble_eq_true rfl⟩) hDi hK hP hNW hS hk0 rfSet_at.1 rfl rfl hl.1 rfl (Nat.le_of_ble_eq_true rfl) (by decide) (dk kX6_best_ok 4 rfl) rfSet_rfSet (fun H locs hP hS => ?_)
  exact hret _ _ _ _ _ _ _ _ rfl (by exact ⟨rfl, rfl⟩) hP hS (by decide) (by decide) (dk kX6_best_ok 5 rfl)
set_option maxRecDepth 100000 in
set_option maxHeartbeats 4000000 in
theorem tX6_ifFlown (l : Launch) (D : va_G) (cI cQ cL : ClassId) (ad : Nat → Nat) (N : Nat) (F : Nat → va_E) (k : Nat) (hk : k + 7 < N) (r ps sl sd ne fa bu : Nat → Int32) (hs : Bool) (st ln pt : Nat) (th : Int32) (hR : rfAt cI ad F k r ps sl sd ne fa bu hs st ln pt th) (x y z z2 : Int32) (hrk : rok r) : MX l yX6_ifFlown (Cond.code yX6_ifFlown cX6_ifFlown 5 (some .int) :: AW) ({ frames := 6, cells := 0, slots := 0, locals := 136 } : Room) D cI cQ cL ad N F [.ref (ad k), .int x, .int y, .int z, .int z2] (dp (some (.int (pI r x y z z2))) (rfSet cI ad F k r ps sl (if gI r x y z z2 = true then r else sd) ne fa bu hs st ln pt (tI x y z z2))) 0 0 := by
  refine mx_i (ty := .int) (by decide +kernel) rfl (Nat.le_of_ble_eq_true rfl) (fun p e s m below meth cd Q ls hx hb hml hown hts hDi hP hK hNW hS hret hl => ?_)
  have hown : s.vm.findClass RX6 = some m.cls := hown
  have hk0 : k < N := by omega
  have hk1 : k + 1 < N := by omega
  have hk2 : k + 2 < N := by omega
  have hk3 : k + 3 < N := by omega
  have hk4 : k + 4 < N := by omega
  have hk5 : k + 5 < N := by omega
  have hk6 : k + 6 < N := by omega
  have hk7 : k + 7 < N := by omega
  have hP : va_P D vwCl (iW ad N (rfSet cI ad F k r ps sl sd ne fa bu hs st ln pt th)) s.heap := by rw [rfSet_self hR]; exact hP
  have hl : lv_has ls 5 [(0, .ref (ad k)), (1, .int x), (2, .int y), (3, .int z), (4, .int z2)] := hl
  refine lv_aload_n hx hb (dk kX6_ifFlown_ok 0 rfl) rfl (lv_at hl 0 rfl) ?_
  refine lv_iconst (v := nI 0) hx hb (dk kX6_ifFlown_ok 1 rfl) rfl ?_
  refine pf (rfSet cI ad F k r ps sl sd ne fa bu hs st ln pt (nI 0)) hx hb hts (fun w h => List.mem_cons_of_mem _ (acX6 w h)) tyX6 tyX6_ok nmX6 hown hK hDi hP hS hk0 rfSet_at.1 rfl 11 (by decide) (hts _ (List.mem_cons_of_mem _ (ac18 _ (List.mem_of_getElem? (i := 4) rfl)))) (fun _ h => h) rfl (ty := .int) rfl rfl rfl (Nat.le_of_ble_eq_true rfl) (dk kX6_ifFlown_ok 2 rfl) rfSet_u0 (fun H locs hP hS => ?_)
  refine lv_iload_n hx hb (dk kX6_ifFlown_ok 3 rfl) rfl (lv_at hl 1 rfl) ?_
  refine lv_iconst (v := nI 0) hx hb (dk kX6_ifFlown_ok 4 rfl) rfl ?_
  refine lv_bipush (v := nI 15) hx hb (dk kX6_ifFlown_ok 5 rfl) rfl ?_
  refine csP (As := [.int x, .int (nI 0), .int (nI 15)]) (rest := []) ⟨hx, hb, hml, hown, hts⟩ (tX6_in l x (nI 0) (nI 15)) (cwS9 3 hts mcX6_in (ac19 _ (List.mem_of_getElem? (i := 12) rfl)) msX6_in mini_RX6 rfl rfl hdX6_in ⟨Nat.le_of_ble_eq_true rfl, Nat.le_of_ble_eq_true rfl⟩) rfl hl.1 rfl (Nat.le_of_ble_eq_true rfl) (by decide) (dk kX6_ifFlown_ok 6 rfl) ?_
  refine b_if_ne (tgt := 21) hx hb (dk kX6_ifFlown_ok 7 rfl) (by decide) (fun h1 => ?_) (fun h1 => ?_)
  · skip
    refine lv_iload_n hx hb (dk kX6_ifFlown_ok 12 rfl) rfl (lv_at hl 2 rfl) ?_
    refine lv_iconst (v := nI 0) hx hb (dk kX6_ifFlown_ok 13 rfl) rfl ?_
    refine lv_bipush (v := nI 7) hx hb (dk kX6_ifFlown_ok 14 rfl) rfl ?_
    refine csP (As := [.int y, .int (nI 0), .int (nI 7)]) (rest := []) ⟨hx, hb, hml, hown, hts⟩ (tX6_in l y (nI 0) (nI 7)) (cwS9 3 hts mcX6_in (ac19 _ (List.mem_of_getElem? (i := 12) rfl)) msX6_in mini_RX6 rfl rfl hdX6_in ⟨Nat.le_of_ble_eq_true rfl, Nat.le_of_ble_eq_true rfl⟩) rfl hl.1 rfl (Nat.le_of_ble_eq_true rfl) (by decide) (dk kX6_ifFlown_ok 15 rfl) ?_
    refine b_if_eq (tgt := 51) hx hb (dk kX6_ifFlown_ok 16 rfl) (by decide) (fun h2 => ?_) (fun h2 => ?_)
    · skip
      refine lv_aload_n hx hb (dk kX6_ifFlown_ok 27 rfl) rfl (lv_at hl 0 rfl) ?_
      refine lv_iconst (v := nI 2) hx hb (dk kX6_ifFlown_ok 28 rfl) rfl ?_
      refine cvD (As := [.int (nI 2)]) (rest := []) (rfSet cI ad F k r ps sl sd ne fa bu hs st ln pt (nI 2)) ⟨hx, hb, hml, hown, hts⟩ (tX6_fails l D cI cQ cL ad N (rfSet cI ad F k r ps sl sd ne fa bu hs st ln pt (nI 0)) k hk r ps sl sd ne fa bu hs st ln pt (nI 0) (rfSet_at) (nI 2)) (cwV9 1 hts mcX6_fails (ac20 _ (List.mem_of_getElem? (i := 15) rfl)) miX6_fails meX6_fails mini_RX6 rfl rfl hdX6_fails ⟨Nat.le_of_ble_eq_true rfl, Nat.le_of_ble_eq_true rfl⟩) hDi hK hP hNW hS hk0 rfSet_at.1 rfl rfl hl.1 rfl (Nat.le_of_ble_eq_true rfl) (by decide) (dk kX6_ifFlown_ok 29 rfl) rfSet_rfSet (fun H locs hP hS => ?_)
      exact hret _ _ _ _ _ _ _ _ rfl (by simp (config := { decide := true }) only [dp, tI, pI, gI, h1, h2, bI_1, bI_00, not_true_eq_false, not_false_eq_true, and_true, true_and, and_false, false_and, or_true, true_or, or_false, false_or, and_self, or_self, if_true, if_false, Bool.false_eq_true, reduceIte]; first | done | exact ⟨rfl, rfl⟩ | (simp_all; done)) hP hS (by decide) (by decide) (dk kX6_ifFlown_ok 30 rfl)
    · skip
      refine lv_iload_n hx hb (dk kX6_ifFlown_ok 17 rfl) rfl (lv_at hl 3 rfl) ?_
      refine lv_iconst (v := nI 1) hx hb (dk kX6_ifFlown_ok 18 rfl) rfl ?_
      refine lv_bipush (v := nI 9) hx hb (dk kX6_ifFlown_ok 19 rfl) rfl ?_
      refine csP (As := [.int z, .int (nI 1), .int (nI 9)]) (rest := []) ⟨hx, hb, hml, hown, hts⟩ (tX6_in l z (nI 1) (nI 9)) (cwS9 3 hts mcX6_in (ac19 _ (List.mem_of_getElem? (i := 12) rfl)) msX6_in mini_RX6 rfl rfl hdX6_in ⟨Nat.le_of_ble_eq_true rfl, Nat.le_of_ble_eq_true rfl⟩) rfl hl.1 rfl (Nat.le_of_ble_eq_true rfl) (by decide) (dk kX6_ifFlown_ok 20 rfl) ?_
      refine b_if_eq (tgt := 51) hx hb (dk kX6_ifFlown_ok 21 rfl) (by decide) (fun h3 => ?_) (fun h3 => ?_)
      · skip
        refine lv_aload_n hx hb (dk kX6_ifFlown_ok 27 rfl) rfl (lv_at hl 0 rfl) ?_
        refine lv_iconst (v := nI 2) hx hb (dk kX6_ifFlown_ok 28 rfl) rfl ?_
        refine cvD (As := [.int (nI 2)]) (rest := []) (rfSet cI ad F k r ps sl sd ne fa bu hs st ln pt (nI 2)) ⟨hx, hb, hml, hown, hts⟩ (tX6_fails l D cI cQ cL ad N (rfSet cI ad F k r ps sl sd ne fa bu hs st ln pt (nI 0)) k hk r ps sl sd ne fa bu hs st ln pt (nI 0) (rfSet_at) (nI 2)) (cwV9 1 hts mcX6_fails (ac20 _ (List.mem_of_getElem? (i := 15) rfl)) miX6_fails meX6_fails mini_RX6 rfl rfl hdX6_fails ⟨Nat.le_of_ble_eq_true rfl, Nat.le_of_ble_eq_true rfl⟩) hDi hK hP hNW hS hk0 rfSet_at.1 rfl rfl hl.1 rfl (Nat.le_of_ble_eq_true rfl) (by decide) (dk kX6_ifFlown_ok 29 rfl) rfSet_rfSet (fun H locs hP hS => ?_)
        exact hret _ _ _ _ _ _ _ _ rfl (by simp (config := { decide := true }) only [dp, tI, pI, gI, h1, h2, h3, bI_1, bI_00, not_true_eq_false, not_false_eq_true, and_true, true_and, and_false, false_and, or_true, true_or, or_false, false_or, and_self, or_self, if_true, if_false, Bool.false_eq_true, reduceIte]; first | done | exact ⟨rfl, rfl⟩ | (simp_all; done)) hP hS (by decide) (by decide) (dk kX6_ifFlown_ok 30 rfl)
      · skip
        refine lv_iload hx hb (dk kX6_ifFlown_ok 22 rfl) (lv_at hl 4 rfl) ?_
        refine lv_iconst (v := nI 0) hx hb (dk kX6_ifFlown_ok 23 rfl) rfl ?_
        refine lv_iconst (v := nI 1) hx hb (dk kX6_ifFlown_ok 24 rfl) rfl ?_
        refine csP (As := [.int z2, .int (nI 0), .int (nI 1)]) (rest := []) ⟨hx, hb, hml, hown, hts⟩ (tX6_in l z2 (nI 0) (nI 1)) (cwS9 3 hts mcX6_in (ac19 _ (List.mem_of_getElem? (i := 12) rfl)) msX6_in mini_RX6 rfl rfl hdX6_in ⟨Nat.le_of_ble_eq_true rfl, Nat.le_of_ble_eq_true rfl⟩) rfl hl.1 rfl (Nat.le_of_ble_eq_true rfl) (by decide) (dk kX6_ifFlown_ok 25 rfl) ?_
        refine b_if_ne (tgt := 57) hx hb (dk kX6_ifFlown_ok 26 rfl) (by decide) (fun h4 => ?_) (fun h4 => ?_)
        · skip
          refine lv_aload_n hx hb (dk kX6_ifFlown_ok 31 rfl) rfl (lv_at hl 0 rfl) ?_
          refine lv_iload_n hx hb (dk kX6_ifFlown_ok 32 rfl) rfl (lv_at hl 1 rfl) ?_
          refine cvR (As := [.int x]) (rest := []) ⟨hx, hb, hml, hown, hts⟩ (tX6_whyNot l D cI cQ cL ad N (rfSet cI ad F k r ps sl sd ne fa bu hs st ln pt (nI 0)) k hk r ps sl sd ne fa bu hs st ln pt (nI 0) (rfSet_at) x (ix x) (btw_eq h1) (by have := btw_le h1; omega)) (cwV9 1 hts mcX6_whyNot (ac20 _ (List.mem_of_getElem? (i := 19) rfl)) miX6_whyNot meX6_whyNot mini_RX6 rfl rfl hdX6_whyNot ⟨Nat.le_of_ble_eq_true rfl, Nat.le_of_ble_eq_true rfl⟩) hK hP hNW hk0 rfSet_at.1 rfl rfl hl.1 rfl (Nat.le_of_ble_eq_true rfl) (by decide) (dk kX6_ifFlown_ok 33 rfl) ?_
          refine n_if_eq (tgt := 71) hx hb (by have q1 := rwn_le r (ix x); omega) (dk kX6_ifFlown_ok 34 rfl) (by decide) (fun h5 => ?_) (fun h5 => ?_)
          · skip
            refine lv_aload_n hx hb (dk kX6_ifFlown_ok 37 rfl) rfl (lv_at hl 0 rfl) ?_
            refine lv_iload_n hx hb (dk kX6_ifFlown_ok 38 rfl) rfl (lv_at hl 1 rfl) ?_
            refine lv_iload_n hx hb (dk kX6_ifFlown_ok 39 rfl) rfl (lv_at hl 2 rfl) ?_
            refine lv_iload_n hx hb (dk kX6_ifFlown_ok 40 rfl) rfl (lv_at hl 3 rfl) ?_
            refine lv_iload hx hb (dk kX6_ifFlown_ok 41 rfl) (lv_at hl 4 rfl) ?_
            refine cvD (As := [.int x, .int y, .int z, .int z2]) (rest := []) (rfSet cI ad F k r ps sl r ne fa bu hs st ln pt (nI 0)) ⟨hx, hb, hml, hown, hts⟩ (tX6_brings l D cI cQ cL ad N (rfSet cI ad F k r ps sl sd ne fa bu hs st ln pt (nI 0)) k hk r ps sl sd ne fa bu hs st ln pt (nI 0) (rfSet_at) x (ix x) (btw_eq h1) (by have := btw_le h1; omega) y (ix y) (btw_eq h2) (by have := btw_le h2; omega) z (ix z) (btw_eq h3) (by have := btw_le h3; omega) z2 (ix z2) (btw_eq h4) (by have := btw_le h4; omega) hrk h5) (cwV9 4 hts mcX6_brings (ac24 _ (List.mem_of_getElem? (i := 22) rfl)) miX6_brings meX6_brings mini_RX6 rfl rfl hdX6_brings ⟨Nat.le_of_ble_eq_true rfl, Nat.le_of_ble_eq_true rfl⟩) hDi hK hP hNW hS hk0 rfSet_at.1 rfl rfl hl.1 rfl (Nat.le_of_ble_eq_true rfl) (by decide) (dk kX6_ifFlown_ok 42 rfl) rfSet_rfSet (fun H locs hP hS => ?_)
            exact hret _ _ _ _ _ _ _ _ rfl (by simp (config := { decide := true }) only [dp, tI, pI, gI, h1, h2, h3, h4, (eq_true h5), bI_1, bI_00, not_true_eq_false, not_false_eq_true, and_true, true_and, and_false, false_and, or_true, true_or, or_false, false_or, and_self, or_self, if_true, if_false, Bool.false_eq_true, reduceIte]; first | done | exact ⟨rfl, rfl⟩ | (simp_all; done)) hP hS (by decide) (by decide) (dk kX6_ifFlown_ok 43 rfl)
          · skip
            refine lv_sipush (v := -1000) hx hb (dk kX6_ifFlown_ok 35 rfl) rfl ?_
            refine lv_goto (tgt := 80) hx hb (dk kX6_ifFlown_ok 36 rfl) (by decide) ?_
            exact hret _ _ _ _ _ _ _ _ rfl (by simp (config := { decide := true }) only [dp, tI, pI, gI, h1, h2, h3, h4, (eq_false h5), bI_1, bI_00, not_true_eq_false, not_false_eq_true, and_true, true_and, and_false, false_and, or_true, true_or, or_false, false_or, and_self, or_self, if_true, if_false, Bool.false_eq_true, reduceIte]; first | done | exact ⟨rfl, rfl⟩ | (simp_all; done)) hP hS (by decide) (by decide) (dk kX6_ifFlown_ok 43 rfl)
        · skip
          refine lv_aload_n hx hb (dk kX6_ifFlown_ok 27 rfl) rfl (lv_at hl 0 rfl) ?_
          refine lv_iconst (v := nI 2) hx hb (dk kX6_ifFlown_ok 28 rfl) rfl ?_
          refine cvD (As := [.int (nI 2)]) (rest := []) (rfSet cI ad F k r ps sl sd ne fa bu hs st ln pt (nI 2)) ⟨hx, hb, hml, hown, hts⟩ (tX6_fails l D cI cQ cL ad N (rfSet cI ad F k r ps sl sd ne fa bu hs st ln pt (nI 0)) k hk r ps sl sd ne fa bu hs st ln pt (nI 0) (rfSet_at) (nI 2)) (cwV9 1 hts mcX6_fails (ac20 _ (List.mem_of_getElem? (i := 15) rfl)) miX6_fails meX6_fails mini_RX6 rfl rfl hdX6_fails ⟨Nat.le_of_ble_eq_true rfl, Nat.le_of_ble_eq_true rfl⟩) hDi hK hP hNW hS hk0 rfSet_at.1 rfl rfl hl.1 rfl (Nat.le_of_ble_eq_true rfl) (by decide) (dk kX6_ifFlown_ok 29 rfl) rfSet_rfSet (fun H locs hP hS => ?_)
          exact hret _ _ _ _ _ _ _ _ rfl (by simp (config := { decide := true }) only [dp, tI, pI, gI, h1, h2, h3, h4, bI_1, bI_00, not_true_eq_false, not_false_eq_true, and_true, true_and, and_false, false_and, or_true, true_or, or_false, false_or, and_self, or_self, if_true, if_false, Bool.false_eq_true, reduceIte]; first | done | exact ⟨rfl, rfl⟩ | (simp_all; done)) hP hS (by decide) (by decide) (dk kX6_ifFlown_ok 30 rfl)
  · skip
    refine lv_aload_n hx hb (dk kX6_ifFlown_ok 8 rfl) rfl (lv_at hl 0 rfl) ?_
    refine lv_iconst (v := nI 1) hx hb (dk kX6_ifFlown_ok 9 rfl) rfl ?_
    refine cvD (As := [.int (nI 1)]) (rest := []) (rfSet cI ad F k r ps sl sd ne fa bu hs st ln pt (nI 1)) ⟨hx, hb, hml, hown, hts⟩ (tX6_fails l D cI cQ cL ad N (rfSet cI ad F k r ps sl sd ne fa bu hs st ln pt (nI 0)) k hk r ps sl sd ne fa bu hs st ln pt (nI 0) (rfSet_at) (nI 1)) (cwV9 1 hts mcX6_fails (ac20 _ (List.mem_of_getElem? (i := 15) rfl)) miX6_fails meX6_fails mini_RX6 rfl rfl hdX6_fails ⟨Nat.le_of_ble_eq_true rfl, Nat.le_of_ble_eq_true rfl⟩) hDi hK hP hNW hS hk0 rfSet_at.1 rfl rfl hl.1 rfl (Nat.le_of_ble_eq_true rfl) (by decide) (dk kX6_ifFlown_ok 10 rfl) rfSet_rfSet (fun H locs hP hS => ?_)
    exact hret _ _ _ _ _ _ _ _ rfl (by simp (config := { decide := true }) only [dp, tI, pI, gI, h1, bI_1, bI_00, not_true_eq_false, not_false_eq_true, and_true, true_and, and_false, false_and, or_true, true_or, or_false, false_or, and_self, or_self, if_true, if_false, Bool.false_eq_true, reduceIte]; first | done | exact ⟨rfl, rfl⟩ | (simp_all; done)) hP hS (by decide) (by decide) (dk kX6_ifFlown_ok 11 rfl)
