set_option maxRecDepth 100000 in
set_option maxHeartbeats 4000000 in
theorem tX4_copyFrom (l : Launch) (D : va_G) (cI cQ cL : ClassId) (ad : Nat → Nat) (N : Nat) (F : Nat → va_E) (k : Nat) (hk : k + 7 < N) (c b v g h j : Nat → Int32) (t : Nat) (u z : Int32) (hS0 : stAt cI ad F k c b v g h j (nI t) u z) (k2 : Nat) (hq : k2 + 7 < N) (c2 b2 v2 g2 h2 j2 : Nat → Int32) (t2 : Nat) (u2 z2 : Int32) (hS2 : stAt cI ad F k2 c2 b2 v2 g2 h2 j2 (nI t2) u2 z2) (hd : k + 7 < k2 ∨ k2 + 7 < k) : MX l yX4_copyFrom (Cond.code yX4_copyFrom cX4_copyFrom 2 none :: AW) ({ frames := 2, cells := 0, slots := 0, locals := 39 } : Room) D cI cQ cL ad N F [.ref (ad k), .ref (ad k2)] (dp none (sSet cI ad F k c2 b2 v2 g2 h2 j2 (nI t2) u2 z2)) 0 0 := by
  refine mx_v (by decide +kernel) rfl (Nat.le_of_ble_eq_true rfl) (fun p e s m below meth cd Q ls hx hb hml hown hts hDi hP hK hNW hS hret hl => ?_)
  have hown : s.vm.findClass RX4 = some m.cls := hown
  have hk0 : k < N := by omega
  have hk1 : k + 1 < N := by omega
  have hk11 : k + 1 + 1 < N := by omega
  have hk12 : k + 1 + 2 < N := by omega
  have hk13 : k + 1 + 3 < N := by omega
  have hkm : k + 1 + 3 < N := by omega
  have hk5 : k + 5 < N := by omega
  have hk6 : k + 6 < N := by omega
  have hk7 : k + 7 < N := hk
  have hq0 : k2 < N := by omega
  have hq1 : k2 + 1 < N := by omega
  have hqm : k2 + 1 + 3 < N := by omega
  have hq5 : k2 + 5 < N := by omega
  have hq6 : k2 + 6 < N := by omega
  have hq7 : k2 + 7 < N := hq
  have hP : va_P D vwCl (iW ad N (sSet cI ad F k c b v g h j (nI t) u z)) s.heap := by rw [sSet_self hS0]; exact hP
  have hl : lv_has ls 2 [(0, .ref (ad k)), (1, .ref (ad k2))] := hl
  refine lv_aload_n hx hb (dk kX4_copyFrom_ok 0 rfl) rfl (lv_at hl 0 rfl) ?_
  refine gf hx hb hts (fun w h => List.mem_cons_of_mem _ (acX4 w h)) hown hK hP hk0 (sSet_at hS0).1 rfl 0 (by decide) (hts _ (List.mem_cons_of_mem _ (ac4 _ (List.mem_of_getElem? (i := 3) rfl)))) (fun _ h => h) rfl (dk kX4_copyFrom_ok 1 rfl) ?_
  refine lv_aload_n hx hb (dk kX4_copyFrom_ok 2 rfl) rfl (lv_at hl 1 rfl) ?_
  refine gf hx hb hts (fun w h => List.mem_cons_of_mem _ (acX4 w h)) hown hK hP hq0 (sSet_oth hS2 hd).1 rfl 0 (by decide) (hts _ (List.mem_cons_of_mem _ (ac4 _ (List.mem_of_getElem? (i := 3) rfl)))) (fun _ h => h) rfl (dk kX4_copyFrom_ok 3 rfl) ?_
  refine cvDv (As := [.ref (ad (k2 + 1))]) (rest := []) (sSet cI ad F k c2 b2 v2 g h j (nI t) u z) ⟨hx, hb, hml, hown, hts⟩ (tX1_copyFrom l D cI cQ cL ad N (sSet cI ad F k c b v g h j (nI t) u z) (k + 1) hkm c b v (sSet_at hS0).2.1 (k2 + 1) hqm (by omega) c2 b2 v2 (sSet_oth hS2 hd).2.1) (cwV9 1 hts mcX1_copyFrom (ac4 _ (List.mem_of_getElem? (i := 23) rfl)) miX1_copyFrom meX1_copyFrom mini_RX1 rfl rfl hdX1_copyFrom ⟨Nat.le_of_ble_eq_true rfl, Nat.le_of_ble_eq_true rfl⟩) hDi hK hP hNW hS hk1 (sSet_at hS0).2.1.1 rfl rfl hl.1 rfl (Nat.le_of_ble_eq_true rfl) (by decide) (dk kX4_copyFrom_ok 4 rfl) sSet_m (fun H locs hP hS => ?_)
  refine lv_aload_n hx hb (dk kX4_copyFrom_ok 5 rfl) rfl (lv_at hl 1 rfl) ?_
  refine gf hx hb hts (fun w h => List.mem_cons_of_mem _ (acX4 w h)) hown hK hP hq0 (sSet_oth hS2 hd).1 rfl 1 (by decide) (hts _ (List.mem_cons_of_mem _ (ac4 _ (List.mem_of_getElem? (i := 4) rfl)))) (fun _ h => h) rfl (dk kX4_copyFrom_ok 6 rfl) ?_
  refine lv_iconst (v := nI 0) hx hb (dk kX4_copyFrom_ok 7 rfl) rfl ?_
  refine lv_aload_n hx hb (dk kX4_copyFrom_ok 8 rfl) rfl (lv_at hl 0 rfl) ?_
  refine gf hx hb hts (fun w h => List.mem_cons_of_mem _ (acX4 w h)) hown hK hP hk0 (sSet_at hS0).1 rfl 1 (by decide) (hts _ (List.mem_cons_of_mem _ (ac4 _ (List.mem_of_getElem? (i := 4) rfl)))) (fun _ h => h) rfl (dk kX4_copyFrom_ok 9 rfl) ?_
  refine lv_iconst (v := nI 0) hx hb (dk kX4_copyFrom_ok 10 rfl) rfl ?_
  refine lv_bipush (v := nI 16) hx hb (dk kX4_copyFrom_ok 11 rfl) rfl ?_
  refine cpy (sSet cI ad F k c2 b2 v2 g2 h j (nI t) u z) hx hb (by rw [hml, hl.1]) hown (hts _ (List.mem_cons_of_mem _ (ac4 _ (List.mem_of_getElem? (i := 22) rfl)))) (hts _ (List.mem_cons_of_mem _ (ac1 _ (List.mem_of_getElem? (i := 6) rfl)))) (hts _ (List.mem_cons_of_mem _ (ac1 _ (List.mem_of_getElem? (i := 7) rfl)))) (hts _ (List.mem_cons_of_mem _ (ac1 _ (List.mem_of_getElem? (i := 8) rfl)))) hK hDi hP hS hq5 (sSet_oth hS2 hd).2.2.1 hk5 (sSet_at hS0).2.2.1 (by decide) (Nat.le_of_ble_eq_true rfl) (Nat.le_of_ble_eq_true rfl) (dk kX4_copyFrom_ok 12 rfl) sSet_g (fun H locs hP hS => ?_)
  refine lv_aload_n hx hb (dk kX4_copyFrom_ok 13 rfl) rfl (lv_at hl 1 rfl) ?_
  refine gf hx hb hts (fun w h => List.mem_cons_of_mem _ (acX4 w h)) hown hK hP hq0 (sSet_oth hS2 hd).1 rfl 2 (by decide) (hts _ (List.mem_cons_of_mem _ (ac4 _ (List.mem_of_getElem? (i := 5) rfl)))) (fun _ h => h) rfl (dk kX4_copyFrom_ok 14 rfl) ?_
  refine lv_iconst (v := nI 0) hx hb (dk kX4_copyFrom_ok 15 rfl) rfl ?_
  refine lv_aload_n hx hb (dk kX4_copyFrom_ok 16 rfl) rfl (lv_at hl 0 rfl) ?_
  refine gf hx hb hts (fun w h => List.mem_cons_of_mem _ (acX4 w h)) hown hK hP hk0 (sSet_at hS0).1 rfl 2 (by decide) (hts _ (List.mem_cons_of_mem _ (ac4 _ (List.mem_of_getElem? (i := 5) rfl)))) (fun _ h => h) rfl (dk kX4_copyFrom_ok 17 rfl) ?_
  refine lv_iconst (v := nI 0) hx hb (dk kX4_copyFrom_ok 18 rfl) rfl ?_
  refine lv_iconst (v := nI 4) hx hb (dk kX4_copyFrom_ok 19 rfl) rfl ?_
  refine cpy (sSet cI ad F k c2 b2 v2 g2 h2 j (nI t) u z) hx hb (by rw [hml, hl.1]) hown (hts _ (List.mem_cons_of_mem _ (ac4 _ (List.mem_of_getElem? (i := 22) rfl)))) (hts _ (List.mem_cons_of_mem _ (ac1 _ (List.mem_of_getElem? (i := 6) rfl)))) (hts _ (List.mem_cons_of_mem _ (ac1 _ (List.mem_of_getElem? (i := 7) rfl)))) (hts _ (List.mem_cons_of_mem _ (ac1 _ (List.mem_of_getElem? (i := 8) rfl)))) hK hDi hP hS hq6 (sSet_oth hS2 hd).2.2.2.1 hk6 (sSet_at hS0).2.2.2.1 (by decide) (Nat.le_of_ble_eq_true rfl) (Nat.le_of_ble_eq_true rfl) (dk kX4_copyFrom_ok 20 rfl) sSet_h (fun H locs hP hS => ?_)
  refine lv_aload_n hx hb (dk kX4_copyFrom_ok 21 rfl) rfl (lv_at hl 1 rfl) ?_
  refine gf hx hb hts (fun w h => List.mem_cons_of_mem _ (acX4 w h)) hown hK hP hq0 (sSet_oth hS2 hd).1 rfl 3 (by decide) (hts _ (List.mem_cons_of_mem _ (ac4 _ (List.mem_of_getElem? (i := 6) rfl)))) (fun _ h => h) rfl (dk kX4_copyFrom_ok 22 rfl) ?_
  refine lv_iconst (v := nI 0) hx hb (dk kX4_copyFrom_ok 23 rfl) rfl ?_
  refine lv_aload_n hx hb (dk kX4_copyFrom_ok 24 rfl) rfl (lv_at hl 0 rfl) ?_
  refine gf hx hb hts (fun w h => List.mem_cons_of_mem _ (acX4 w h)) hown hK hP hk0 (sSet_at hS0).1 rfl 3 (by decide) (hts _ (List.mem_cons_of_mem _ (ac4 _ (List.mem_of_getElem? (i := 6) rfl)))) (fun _ h => h) rfl (dk kX4_copyFrom_ok 25 rfl) ?_
  refine lv_iconst (v := nI 0) hx hb (dk kX4_copyFrom_ok 26 rfl) rfl ?_
  refine lv_iconst (v := nI 4) hx hb (dk kX4_copyFrom_ok 27 rfl) rfl ?_
  refine cpy (sSet cI ad F k c2 b2 v2 g2 h2 j2 (nI t) u z) hx hb (by rw [hml, hl.1]) hown (hts _ (List.mem_cons_of_mem _ (ac4 _ (List.mem_of_getElem? (i := 22) rfl)))) (hts _ (List.mem_cons_of_mem _ (ac1 _ (List.mem_of_getElem? (i := 6) rfl)))) (hts _ (List.mem_cons_of_mem _ (ac1 _ (List.mem_of_getElem? (i := 7) rfl)))) (hts _ (List.mem_cons_of_mem _ (ac1 _ (List.mem_of_getElem? (i := 8) rfl)))) hK hDi hP hS hq7 (sSet_oth hS2 hd).2.2.2.2 hk7 (sSet_at hS0).2.2.2.2 (by decide) (Nat.le_of_ble_eq_true rfl) (Nat.le_of_ble_eq_true rfl) (dk kX4_copyFrom_ok 28 rfl) sSet_j (fun H locs hP hS => ?_)
  refine lv_aload_n hx hb (dk kX4_copyFrom_ok 29 rfl) rfl (lv_at hl 0 rfl) ?_
  refine lv_aload_n hx hb (dk kX4_copyFrom_ok 30 rfl) rfl (lv_at hl 1 rfl) ?_
  refine gf hx hb hts (fun w h => List.mem_cons_of_mem _ (acX4 w h)) hown hK hP hq0 (sSet_oth hS2 hd).1 rfl 4 (by decide) (hts _ (List.mem_cons_of_mem _ (ac4 _ (List.mem_of_getElem? (i := 7) rfl)))) (fun _ h => h) rfl (dk kX4_copyFrom_ok 31 rfl) ?_
  refine pf (sSet cI ad F k c2 b2 v2 g2 h2 j2 (nI t2) u z) hx hb hts (fun w h => List.mem_cons_of_mem _ (acX4 w h)) tyX4 tyX4_ok nmX4 hown hK hDi hP hS hk0 (sSet_at hS0).1 rfl 4 (by decide) (hts _ (List.mem_cons_of_mem _ (ac4 _ (List.mem_of_getElem? (i := 7) rfl)))) (fun _ h => h) rfl (ty := .int) rfl rfl rfl (Nat.le_of_ble_eq_true rfl) (dk kX4_copyFrom_ok 32 rfl) sSet_0 (fun H locs hP hS => ?_)
  refine lv_aload_n hx hb (dk kX4_copyFrom_ok 33 rfl) rfl (lv_at hl 0 rfl) ?_
  refine lv_aload_n hx hb (dk kX4_copyFrom_ok 34 rfl) rfl (lv_at hl 1 rfl) ?_
  refine gf hx hb hts (fun w h => List.mem_cons_of_mem _ (acX4 w h)) hown hK hP hq0 (sSet_oth hS2 hd).1 rfl 5 (by decide) (hts _ (List.mem_cons_of_mem _ (ac4 _ (List.mem_of_getElem? (i := 8) rfl)))) (fun _ h => h) rfl (dk kX4_copyFrom_ok 35 rfl) ?_
  refine pf (sSet cI ad F k c2 b2 v2 g2 h2 j2 (nI t2) u2 z) hx hb hts (fun w h => List.mem_cons_of_mem _ (acX4 w h)) tyX4 tyX4_ok nmX4 hown hK hDi hP hS hk0 (sSet_at hS0).1 rfl 5 (by decide) (hts _ (List.mem_cons_of_mem _ (ac4 _ (List.mem_of_getElem? (i := 8) rfl)))) (fun _ h => h) rfl (ty := .int) rfl rfl rfl (Nat.le_of_ble_eq_true rfl) (dk kX4_copyFrom_ok 36 rfl) sSet_0 (fun H locs hP hS => ?_)
  refine lv_aload_n hx hb (dk kX4_copyFrom_ok 37 rfl) rfl (lv_at hl 0 rfl) ?_
  refine lv_aload_n hx hb (dk kX4_copyFrom_ok 38 rfl) rfl (lv_at hl 1 rfl) ?_
  refine gf hx hb hts (fun w h => List.mem_cons_of_mem _ (acX4 w h)) hown hK hP hq0 (sSet_oth hS2 hd).1 rfl 6 (by decide) (hts _ (List.mem_cons_of_mem _ (ac4 _ (List.mem_of_getElem? (i := 9) rfl)))) (fun _ h => h) rfl (dk kX4_copyFrom_ok 39 rfl) ?_
  refine pf (sSet cI ad F k c2 b2 v2 g2 h2 j2 (nI t2) u2 z2) hx hb hts (fun w h => List.mem_cons_of_mem _ (acX4 w h)) tyX4 tyX4_ok nmX4 hown hK hDi hP hS hk0 (sSet_at hS0).1 rfl 6 (by decide) (hts _ (List.mem_cons_of_mem _ (ac4 _ (List.mem_of_getElem? (i := 9) rfl)))) (fun _ h => h) rfl (ty := .int) rfl rfl rfl (Nat.le_of_ble_eq_true rfl) (dk kX4_copyFrom_ok 40 rfl) sSet_0 (fun H locs hP hS => ?_)
  exact hret _ _ _ _ _ _ _ (by exact ⟨rfl, rfl⟩) hP hS (by decide) (by decide) (dk kX4_copyFrom_ok 41 rfl)
set_option maxRecDepth 100000 in
set_option maxHeartbeats 4000000 in
theorem tX0_between (l : Launch) (x a b : Int32) : MP l yX0_between (Cond.code yX0_between cX0_between 3 (some .boolean) :: AW) ({ frames := 0, cells := 0, slots := 0, locals := 0 } : Room) [.int x, .int a, .int b] (.int (bI (btw x a b))) := by
  refine mp_i (ty := .boolean) (by decide +kernel) rfl rfl rfl (bI_nar _) (Nat.le_of_ble_eq_true rfl) (fun p e s m below meth cd Q ls hx hb hml hown hts hret hl => ?_)
  have hown : s.vm.findClass RX0 = some m.cls := hown
  have hl : lv_has ls 3 [(0, .int x), (1, .int a), (2, .int b)] := hl
  refine lv_iload_n hx hb (dk kX0_between_ok 0 rfl) rfl (lv_at hl 0 rfl) ?_
  refine lv_iload_n hx hb (dk kX0_between_ok 1 rfl) rfl (lv_at hl 1 rfl) ?_
  refine lv_icmp_lt (tgt := 14) hx hb (dk kX0_between_ok 2 rfl) (by decide) (fun h1 => ?_) (fun h1 => ?_)
  · skip
    refine lv_iconst (v := nI 0) hx hb (dk kX0_between_ok 8 rfl) rfl ?_
    exact hret _ _ _ (by simp only [btw, (eq_true h1), decide_true, decide_false, not_true_eq_false, not_false_eq_true, and_true, true_and, and_false, false_and, or_true, true_or, or_false, false_or, and_self, or_self, if_true, if_false, Bool.false_eq_true, reduceIte, Bool.not_true, Bool.not_false, Bool.and_true, Bool.true_and, Bool.and_false, Bool.false_and]; rfl) (dk kX0_between_ok 9 rfl)
  · skip
    refine lv_iload_n hx hb (dk kX0_between_ok 3 rfl) rfl (lv_at hl 0 rfl) ?_
    refine lv_iload_n hx hb (dk kX0_between_ok 4 rfl) rfl (lv_at hl 2 rfl) ?_
    refine lv_icmp_gt (tgt := 14) hx hb (dk kX0_between_ok 5 rfl) (by decide) (fun h2 => ?_) (fun h2 => ?_)
    · skip
      refine lv_iconst (v := nI 0) hx hb (dk kX0_between_ok 8 rfl) rfl ?_
      exact hret _ _ _ (by simp only [btw, (eq_false h1), (eq_true h2), decide_true, decide_false, not_true_eq_false, not_false_eq_true, and_true, true_and, and_false, false_and, or_true, true_or, or_false, false_or, and_self, or_self, if_true, if_false, Bool.false_eq_true, reduceIte, Bool.not_true, Bool.not_false, Bool.and_true, Bool.true_and, Bool.and_false, Bool.false_and]; rfl) (dk kX0_between_ok 9 rfl)
    · skip
      refine lv_iconst (v := nI 1) hx hb (dk kX0_between_ok 6 rfl) rfl ?_
      refine lv_goto (tgt := 15) hx hb (dk kX0_between_ok 7 rfl) (by decide) ?_
      exact hret _ _ _ (by simp only [btw, (eq_false h1), (eq_false h2), decide_true, decide_false, not_true_eq_false, not_false_eq_true, and_true, true_and, and_false, false_and, or_true, true_or, or_false, false_or, and_self, or_self, if_true, if_false, Bool.false_eq_true, reduceIte, Bool.not_true, Bool.not_false, Bool.and_true, Bool.true_and, Bool.and_false, Bool.false_and]; rfl) (dk kX0_between_ok 9 rfl)
set_option maxRecDepth 100000 in
set_option maxHeartbeats 4000000 in
theorem tX0_stateBehind (l : Launch) (s9 x : Int32) : MP l yX0_stateBehind (Cond.code yX0_stateBehind cX0_stateBehind 2 (some .int) :: AW) ({ frames := 1, cells := 0, slots := 0, locals := 22 } : Room) [.int s9, .int x] (.int (stb s9 x)) := by
  refine mp_i (ty := .int) (by decide +kernel) rfl rfl rfl rfl (Nat.le_of_ble_eq_true rfl) (fun p e s m below meth cd Q ls hx hb hml hown hts hret hl => ?_)
  have hown : s.vm.findClass RX0 = some m.cls := hown
  have hl : lv_has ls 2 [(0, .int s9), (1, .int x)] := hl
  refine lv_iload_n hx hb (dk kX0_stateBehind_0_ok 0 rfl) rfl (lv_at hl 0 rfl) ?_
  rcases Classical.em (s9 = nI 0) with hs1 | hs1
  · skip
    refine sw_in (off := 51) (tgt := 52) 0 hx hb (dk kX0_stateBehind_0_ok 1 rfl) hs1 rfl rfl rfl (by decide) ?_
    refine lv_iload_n hx hb (dk kX0_stateBehind_0_ok 2 rfl) rfl (lv_at hl 1 rfl) ?_
    refine lv_bipush (v := nI 102) hx hb (dk kX0_stateBehind_0_ok 3 rfl) rfl ?_
    refine lv_icmp_ne (tgt := 62) hx hb (dk kX0_stateBehind_0_ok 4 rfl) (by decide) (fun h2 => ?_) (fun h2 => ?_)
    · skip
      refine lv_iload_n hx hb (dk kX0_stateBehind_0_ok 7 rfl) rfl (lv_at hl 1 rfl) ?_
      refine lv_bipush (v := nI 108) hx hb (dk kX0_stateBehind_0_ok 8 rfl) rfl ?_
      refine lv_icmp_ne (tgt := 72) hx hb (dk kX0_stateBehind_0_ok 9 rfl) (by decide) (fun h3 => ?_) (fun h3 => ?_)
      · skip
        refine lv_iconst (v := -1) hx hb (dk kX0_stateBehind_0_ok 12 rfl) rfl ?_
        exact hret _ _ _ (by simp only [stb, (eq_true hs1), (eq_false h2), (eq_false h3), not_true_eq_false, not_false_eq_true, and_true, true_and, and_false, false_and, or_true, true_or, or_false, false_or, and_self, or_self, if_true, if_false, Bool.false_eq_true, reduceIte]) (dk kX0_stateBehind_0_ok 13 rfl)
      · skip
        refine lv_iconst (v := nI 4) hx hb (dk kX0_stateBehind_0_ok 10 rfl) rfl ?_
        refine lv_goto (tgt := 73) hx hb (dk kX0_stateBehind_0_ok 11 rfl) (by decide) ?_
        exact hret _ _ _ (by simp only [stb, (eq_true hs1), (eq_false h2), (eq_true h3), not_true_eq_false, not_false_eq_true, and_true, true_and, and_false, false_and, or_true, true_or, or_false, false_or, and_self, or_self, if_true, if_false, Bool.false_eq_true, reduceIte]) (dk kX0_stateBehind_0_ok 13 rfl)
    · skip
      refine lv_iconst (v := nI 1) hx hb (dk kX0_stateBehind_0_ok 5 rfl) rfl ?_
      refine lv_goto (tgt := 73) hx hb (dk kX0_stateBehind_0_ok 6 rfl) (by decide) ?_
      exact hret _ _ _ (by simp only [stb, (eq_true hs1), (eq_true h2), not_true_eq_false, not_false_eq_true, and_true, true_and, and_false, false_and, or_true, true_or, or_false, false_or, and_self, or_self, if_true, if_false, Bool.false_eq_true, reduceIte]) (dk kX0_stateBehind_0_ok 13 rfl)
  rcases Classical.em (s9 = nI 1) with hs4 | hs4
  · skip
    refine sw_in (off := 73) (tgt := 74) 1 hx hb (dk kX0_stateBehind_0_ok 1 rfl) hs4 rfl rfl rfl (by decide) ?_
    refine lv_iload_n hx hb (dk kX0_stateBehind_0_ok 14 rfl) rfl (lv_at hl 1 rfl) ?_
    refine lv_bipush (v := nI 48) hx hb (dk kX0_stateBehind_0_ok 15 rfl) rfl ?_
    refine lv_bipush (v := nI 51) hx hb (dk kX0_stateBehind_0_ok 16 rfl) rfl ?_
    refine csP (As := [.int x, .int (nI 48), .int (nI 51)]) (rest := []) ⟨hx, hb, hml, hown, hts⟩ (tX0_between l x (nI 48) (nI 51)) (cwS9 3 hts mcX0_between (ac0 _ (List.mem_of_getElem? (i := 6) rfl)) msX0_between mini_RX0 rfl rfl hdX0_between ⟨Nat.le_of_ble_eq_true rfl, Nat.le_of_ble_eq_true rfl⟩) rfl hl.1 rfl (Nat.le_of_ble_eq_true rfl) (by decide) (dk kX0_stateBehind_0_ok 17 rfl) ?_
    refine b_if_eq (tgt := 89) hx hb (dk kX0_stateBehind_0_ok 18 rfl) (by decide) (fun h5 => ?_) (fun h5 => ?_)
    · skip
      refine lv_iconst (v := -1) hx hb (dk kX0_stateBehind_0_ok 21 rfl) rfl ?_
      exact hret _ _ _ (by simp only [stb, (eq_false hs1), (eq_true hs4), h5, not_true_eq_false, not_false_eq_true, and_true, true_and, and_false, false_and, or_true, true_or, or_false, false_or, and_self, or_self, if_true, if_false, Bool.false_eq_true, reduceIte]) (dk kX0_stateBehind_0_ok 22 rfl)
    · skip
      refine lv_iconst (v := nI 2) hx hb (dk kX0_stateBehind_0_ok 19 rfl) rfl ?_
      refine lv_goto (tgt := 90) hx hb (dk kX0_stateBehind_0_ok 20 rfl) (by decide) ?_
      exact hret _ _ _ (by simp only [stb, (eq_false hs1), (eq_true hs4), h5, not_true_eq_false, not_false_eq_true, and_true, true_and, and_false, false_and, or_true, true_or, or_false, false_or, and_self, or_self, if_true, if_false, Bool.false_eq_true, reduceIte]) (dk kX0_stateBehind_0_ok 22 rfl)
  rcases Classical.em (s9 = nI 2) with hs6 | hs6
  · skip
    refine sw_in (off := 90) (tgt := 91) 2 hx hb (dk kX0_stateBehind_0_ok 1 rfl) hs6 rfl rfl rfl (by decide) ?_
    refine lv_iload_n hx hb (dk kX0_stateBehind_0_ok 23 rfl) rfl (lv_at hl 1 rfl) ?_
    refine lv_bipush (v := nI 48) hx hb (dk kX0_stateBehind_0_ok 24 rfl) rfl ?_
    refine lv_bipush (v := nI 55) hx hb (dk kX0_stateBehind_0_ok 25 rfl) rfl ?_
    refine csP (As := [.int x, .int (nI 48), .int (nI 55)]) (rest := []) ⟨hx, hb, hml, hown, hts⟩ (tX0_between l x (nI 48) (nI 55)) (cwS9 3 hts mcX0_between (ac0 _ (List.mem_of_getElem? (i := 6) rfl)) msX0_between mini_RX0 rfl rfl hdX0_between ⟨Nat.le_of_ble_eq_true rfl, Nat.le_of_ble_eq_true rfl⟩) rfl hl.1 rfl (Nat.le_of_ble_eq_true rfl) (by decide) (dk kX0_stateBehind_0_ok 26 rfl) ?_
    refine b_if_eq (tgt := 106) hx hb (dk kX0_stateBehind_0_ok 27 rfl) (by decide) (fun h7 => ?_) (fun h7 => ?_)
    · skip
      refine lv_iconst (v := -1) hx hb (dk kX0_stateBehind_0_ok 30 rfl) rfl ?_
      exact hret _ _ _ (by simp only [stb, (eq_false hs1), (eq_false hs4), (eq_true hs6), h7, not_true_eq_false, not_false_eq_true, and_true, true_and, and_false, false_and, or_true, true_or, or_false, false_or, and_self, or_self, if_true, if_false, Bool.false_eq_true, reduceIte]) (dk kX0_stateBehind_0_ok 31 rfl)
    · skip
      refine lv_iconst (v := nI 3) hx hb (dk kX0_stateBehind_0_ok 28 rfl) rfl ?_
      refine lv_goto (tgt := 107) hx hb (dk kX0_stateBehind_0_ok 29 rfl) (by decide) ?_
      exact hret _ _ _ (by simp only [stb, (eq_false hs1), (eq_false hs4), (eq_true hs6), h7, not_true_eq_false, not_false_eq_true, and_true, true_and, and_false, false_and, or_true, true_or, or_false, false_or, and_self, or_self, if_true, if_false, Bool.false_eq_true, reduceIte]) (dk kX0_stateBehind_0_ok 31 rfl)
  rcases Classical.em (s9 = nI 3) with hs8 | hs8
  · skip
    refine sw_in (off := 107) (tgt := 108) 3 hx hb (dk kX0_stateBehind_0_ok 1 rfl) hs8 rfl rfl rfl (by decide) ?_
    refine lv_iload_n hx hb (dk kX0_stateBehind_0_ok 32 rfl) rfl (lv_at hl 1 rfl) ?_
    refine lv_bipush (v := nI 49) hx hb (dk kX0_stateBehind_0_ok 33 rfl) rfl ?_
    refine lv_bipush (v := nI 57) hx hb (dk kX0_stateBehind_0_ok 34 rfl) rfl ?_
    refine csP (As := [.int x, .int (nI 49), .int (nI 57)]) (rest := []) ⟨hx, hb, hml, hown, hts⟩ (tX0_between l x (nI 49) (nI 57)) (cwS9 3 hts mcX0_between (ac0 _ (List.mem_of_getElem? (i := 6) rfl)) msX0_between mini_RX0 rfl rfl hdX0_between ⟨Nat.le_of_ble_eq_true rfl, Nat.le_of_ble_eq_true rfl⟩) rfl hl.1 rfl (Nat.le_of_ble_eq_true rfl) (by decide) (dk kX0_stateBehind_0_ok 35 rfl) ?_
    refine b_if_eq (tgt := 124) hx hb (dk kX0_stateBehind_0_ok 36 rfl) (by decide) (fun h9 => ?_) (fun h9 => ?_)
    · skip
      refine lv_iconst (v := -1) hx hb (dk kX0_stateBehind_0_ok 39 rfl) rfl ?_
      exact hret _ _ _ (by simp only [stb, (eq_false hs1), (eq_false hs4), (eq_false hs6), (eq_true hs8), h9, not_true_eq_false, not_false_eq_true, and_true, true_and, and_false, false_and, or_true, true_or, or_false, false_or, and_self, or_self, if_true, if_false, Bool.false_eq_true, reduceIte]) (dk kX0_stateBehind_0_ok 40 rfl)
    · skip
      refine lv_bipush (v := nI 8) hx hb (dk kX0_stateBehind_0_ok 37 rfl) rfl ?_
      refine lv_goto (tgt := 125) hx hb (dk kX0_stateBehind_0_ok 38 rfl) (by decide) ?_
      exact hret _ _ _ (by simp only [stb, (eq_false hs1), (eq_false hs4), (eq_false hs6), (eq_true hs8), h9, not_true_eq_false, not_false_eq_true, and_true, true_and, and_false, false_and, or_true, true_or, or_false, false_or, and_self, or_self, if_true, if_false, Bool.false_eq_true, reduceIte]) (dk kX0_stateBehind_0_ok 40 rfl)
  rcases Classical.em (s9 = nI 4) with hs10 | hs10
  · skip
    refine sw_in (off := 125) (tgt := 126) 4 hx hb (dk kX0_stateBehind_0_ok 1 rfl) hs10 rfl rfl rfl (by decide) ?_
    refine lv_iload_n hx hb (dk kX0_stateBehind_0_ok 41 rfl) rfl (lv_at hl 1 rfl) ?_
    refine lv_bipush (v := nI 97) hx hb (dk kX0_stateBehind_0_ok 42 rfl) rfl ?_
    refine lv_bipush (v := nI 109) hx hb (dk kX0_stateBehind_0_ok 43 rfl) rfl ?_
    refine csP (As := [.int x, .int (nI 97), .int (nI 109)]) (rest := []) ⟨hx, hb, hml, hown, hts⟩ (tX0_between l x (nI 97) (nI 109)) (cwS9 3 hts mcX0_between (ac0 _ (List.mem_of_getElem? (i := 6) rfl)) msX0_between mini_RX0 rfl rfl hdX0_between ⟨Nat.le_of_ble_eq_true rfl, Nat.le_of_ble_eq_true rfl⟩) rfl hl.1 rfl (Nat.le_of_ble_eq_true rfl) (by decide) (dk kX0_stateBehind_0_ok 44 rfl) ?_
    refine b_if_eq (tgt := 141) hx hb (dk kX0_stateBehind_0_ok 45 rfl) (by decide) (fun h11 => ?_) (fun h11 => ?_)
    · skip
      refine lv_iconst (v := -1) hx hb (dk kX0_stateBehind_0_ok 48 rfl) rfl ?_
      exact hret _ _ _ (by simp only [stb, (eq_false hs1), (eq_false hs4), (eq_false hs6), (eq_false hs8), (eq_true hs10), h11, not_true_eq_false, not_false_eq_true, and_true, true_and, and_false, false_and, or_true, true_or, or_false, false_or, and_self, or_self, if_true, if_false, Bool.false_eq_true, reduceIte]) (dk kX0_stateBehind_0_ok 49 rfl)
    · skip
      refine lv_iconst (v := nI 5) hx hb (dk kX0_stateBehind_0_ok 46 rfl) rfl ?_
      refine lv_goto (tgt := 142) hx hb (dk kX0_stateBehind_0_ok 47 rfl) (by decide) ?_
      exact hret _ _ _ (by simp only [stb, (eq_false hs1), (eq_false hs4), (eq_false hs6), (eq_false hs8), (eq_true hs10), h11, not_true_eq_false, not_false_eq_true, and_true, true_and, and_false, false_and, or_true, true_or, or_false, false_or, and_self, or_self, if_true, if_false, Bool.false_eq_true, reduceIte]) (dk kX0_stateBehind_0_ok 49 rfl)
  rcases Classical.em (s9 = nI 5) with hs12 | hs12
  · skip
    refine sw_in (off := 142) (tgt := 143) 5 hx hb (dk kX0_stateBehind_0_ok 1 rfl) hs12 rfl rfl rfl (by decide) ?_
    refine lv_iload_n hx hb (dk kX0_stateBehind_0_ok 50 rfl) rfl (lv_at hl 1 rfl) ?_
    refine lv_bipush (v := nI 97) hx hb (dk kX0_stateBehind_0_ok 51 rfl) rfl ?_
    refine lv_bipush (v := nI 109) hx hb (dk kX0_stateBehind_0_ok 52 rfl) rfl ?_
    refine csP (As := [.int x, .int (nI 97), .int (nI 109)]) (rest := []) ⟨hx, hb, hml, hown, hts⟩ (tX0_between l x (nI 97) (nI 109)) (cwS9 3 hts mcX0_between (ac0 _ (List.mem_of_getElem? (i := 6) rfl)) msX0_between mini_RX0 rfl rfl hdX0_between ⟨Nat.le_of_ble_eq_true rfl, Nat.le_of_ble_eq_true rfl⟩) rfl hl.1 rfl (Nat.le_of_ble_eq_true rfl) (by decide) (dk kX0_stateBehind_0_ok 53 rfl) ?_
    refine b_if_eq (tgt := 159) hx hb (dk kX0_stateBehind_0_ok 54 rfl) (by decide) (fun h13 => ?_) (fun h13 => ?_)
    · skip
      refine lv_iconst (v := -1) hx hb (dk kX0_stateBehind_0_ok 57 rfl) rfl ?_
      exact hret _ _ _ (by simp only [stb, (eq_false hs1), (eq_false hs4), (eq_false hs6), (eq_false hs8), (eq_false hs10), (eq_true hs12), h13, not_true_eq_false, not_false_eq_true, and_true, true_and, and_false, false_and, or_true, true_or, or_false, false_or, and_self, or_self, if_true, if_false, Bool.false_eq_true, reduceIte]) (dk kX0_stateBehind_0_ok 58 rfl)
    · skip
      refine lv_bipush (v := nI 6) hx hb (dk kX0_stateBehind_0_ok 55 rfl) rfl ?_
      refine lv_goto (tgt := 160) hx hb (dk kX0_stateBehind_0_ok 56 rfl) (by decide) ?_
      exact hret _ _ _ (by simp only [stb, (eq_false hs1), (eq_false hs4), (eq_false hs6), (eq_false hs8), (eq_false hs10), (eq_true hs12), h13, not_true_eq_false, not_false_eq_true, and_true, true_and, and_false, false_and, or_true, true_or, or_false, false_or, and_self, or_self, if_true, if_false, Bool.false_eq_true, reduceIte]) (dk kX0_stateBehind_0_ok 58 rfl)
  rcases Classical.em (s9 = nI 6) with hs14 | hs14
  · skip
    refine sw_in (off := 160) (tgt := 161) 6 hx hb (dk kX0_stateBehind_0_ok 1 rfl) hs14 rfl rfl rfl (by decide) ?_
    refine lv_iload_n hx hb (dk kX0_stateBehind_0_ok 59 rfl) rfl (lv_at hl 1 rfl) ?_
    refine lv_bipush (v := nI 49) hx hb (dk kX0_stateBehind_1_ok 0 rfl) rfl ?_
    refine lv_bipush (v := nI 54) hx hb (dk kX0_stateBehind_1_ok 1 rfl) rfl ?_
    refine csP (As := [.int x, .int (nI 49), .int (nI 54)]) (rest := []) ⟨hx, hb, hml, hown, hts⟩ (tX0_between l x (nI 49) (nI 54)) (cwS9 3 hts mcX0_between (ac0 _ (List.mem_of_getElem? (i := 6) rfl)) msX0_between mini_RX0 rfl rfl hdX0_between ⟨Nat.le_of_ble_eq_true rfl, Nat.le_of_ble_eq_true rfl⟩) rfl hl.1 rfl (Nat.le_of_ble_eq_true rfl) (by decide) (dk kX0_stateBehind_1_ok 2 rfl) ?_
    refine b_if_eq (tgt := 177) hx hb (dk kX0_stateBehind_1_ok 3 rfl) (by decide) (fun h15 => ?_) (fun h15 => ?_)
    · skip
      refine lv_iconst (v := -1) hx hb (dk kX0_stateBehind_1_ok 6 rfl) rfl ?_
      exact hret _ _ _ (by simp only [stb, (eq_false hs1), (eq_false hs4), (eq_false hs6), (eq_false hs8), (eq_false hs10), (eq_false hs12), (eq_true hs14), h15, not_true_eq_false, not_false_eq_true, and_true, true_and, and_false, false_and, or_true, true_or, or_false, false_or, and_self, or_self, if_true, if_false, Bool.false_eq_true, reduceIte]) (dk kX0_stateBehind_1_ok 7 rfl)
    · skip
      refine lv_bipush (v := nI 7) hx hb (dk kX0_stateBehind_1_ok 4 rfl) rfl ?_
      refine lv_goto (tgt := 178) hx hb (dk kX0_stateBehind_1_ok 5 rfl) (by decide) ?_
      exact hret _ _ _ (by simp only [stb, (eq_false hs1), (eq_false hs4), (eq_false hs6), (eq_false hs8), (eq_false hs10), (eq_false hs12), (eq_true hs14), h15, not_true_eq_false, not_false_eq_true, and_true, true_and, and_false, false_and, or_true, true_or, or_false, false_or, and_self, or_self, if_true, if_false, Bool.false_eq_true, reduceIte]) (dk kX0_stateBehind_1_ok 7 rfl)
  rcases Classical.em (s9 = nI 7) with hs16 | hs16
  · skip
    refine sw_in (off := 178) (tgt := 179) 7 hx hb (dk kX0_stateBehind_0_ok 1 rfl) hs16 rfl rfl rfl (by decide) ?_
    refine lv_iload_n hx hb (dk kX0_stateBehind_1_ok 8 rfl) rfl (lv_at hl 1 rfl) ?_
    refine lv_bipush (v := nI 48) hx hb (dk kX0_stateBehind_1_ok 9 rfl) rfl ?_
    refine lv_bipush (v := nI 55) hx hb (dk kX0_stateBehind_1_ok 10 rfl) rfl ?_
    refine csP (As := [.int x, .int (nI 48), .int (nI 55)]) (rest := []) ⟨hx, hb, hml, hown, hts⟩ (tX0_between l x (nI 48) (nI 55)) (cwS9 3 hts mcX0_between (ac0 _ (List.mem_of_getElem? (i := 6) rfl)) msX0_between mini_RX0 rfl rfl hdX0_between ⟨Nat.le_of_ble_eq_true rfl, Nat.le_of_ble_eq_true rfl⟩) rfl hl.1 rfl (Nat.le_of_ble_eq_true rfl) (by decide) (dk kX0_stateBehind_1_ok 11 rfl) ?_
    refine b_if_eq (tgt := 195) hx hb (dk kX0_stateBehind_1_ok 12 rfl) (by decide) (fun h17 => ?_) (fun h17 => ?_)
    · skip
      refine lv_iconst (v := -1) hx hb (dk kX0_stateBehind_1_ok 15 rfl) rfl ?_
      exact hret _ _ _ (by simp only [stb, (eq_false hs1), (eq_false hs4), (eq_false hs6), (eq_false hs8), (eq_false hs10), (eq_false hs12), (eq_false hs14), (eq_true hs16), h17, not_true_eq_false, not_false_eq_true, and_true, true_and, and_false, false_and, or_true, true_or, or_false, false_or, and_self, or_self, if_true, if_false, Bool.false_eq_true, reduceIte]) (dk kX0_stateBehind_1_ok 16 rfl)
    · skip
      refine lv_bipush (v := nI 8) hx hb (dk kX0_stateBehind_1_ok 13 rfl) rfl ?_
      refine lv_goto (tgt := 196) hx hb (dk kX0_stateBehind_1_ok 14 rfl) (by decide) ?_
      exact hret _ _ _ (by simp only [stb, (eq_false hs1), (eq_false hs4), (eq_false hs6), (eq_false hs8), (eq_false hs10), (eq_false hs12), (eq_false hs14), (eq_true hs16), h17, not_true_eq_false, not_false_eq_true, and_true, true_and, and_false, false_and, or_true, true_or, or_false, false_or, and_self, or_self, if_true, if_false, Bool.false_eq_true, reduceIte]) (dk kX0_stateBehind_1_ok 16 rfl)
  rcases Classical.em (s9 = nI 8) with hs18 | hs18
  · skip
    refine sw_in (off := 196) (tgt := 197) 8 hx hb (dk kX0_stateBehind_0_ok 1 rfl) hs18 rfl rfl rfl (by decide) ?_
    refine lv_iload_n hx hb (dk kX0_stateBehind_1_ok 17 rfl) rfl (lv_at hl 1 rfl) ?_
    refine lv_bipush (v := nI 59) hx hb (dk kX0_stateBehind_1_ok 18 rfl) rfl ?_
    refine lv_icmp_ne (tgt := 207) hx hb (dk kX0_stateBehind_1_ok 19 rfl) (by decide) (fun h19 => ?_) (fun h19 => ?_)
    · skip
      refine lv_iconst (v := -1) hx hb (dk kX0_stateBehind_1_ok 22 rfl) rfl ?_
      exact hret _ _ _ (by simp only [stb, (eq_false hs1), (eq_false hs4), (eq_false hs6), (eq_false hs8), (eq_false hs10), (eq_false hs12), (eq_false hs14), (eq_false hs16), (eq_true hs18), (eq_false h19), not_true_eq_false, not_false_eq_true, and_true, true_and, and_false, false_and, or_true, true_or, or_false, false_or, and_self, or_self, if_true, if_false, Bool.false_eq_true, reduceIte]) (dk kX0_stateBehind_1_ok 23 rfl)
    · skip
      refine lv_iconst (v := nI 0) hx hb (dk kX0_stateBehind_1_ok 20 rfl) rfl ?_
      refine lv_goto (tgt := 208) hx hb (dk kX0_stateBehind_1_ok 21 rfl) (by decide) ?_
      exact hret _ _ _ (by simp only [stb, (eq_false hs1), (eq_false hs4), (eq_false hs6), (eq_false hs8), (eq_false hs10), (eq_false hs12), (eq_false hs14), (eq_false hs16), (eq_true hs18), (eq_true h19), not_true_eq_false, not_false_eq_true, and_true, true_and, and_false, false_and, or_true, true_or, or_false, false_or, and_self, or_self, if_true, if_false, Bool.false_eq_true, reduceIte]) (dk kX0_stateBehind_1_ok 23 rfl)
  refine lv_tableOut (tgt := 209) hx hb (dk kX0_stateBehind_0_ok 1 rfl) (sw_out 9 (by intro k9 hk9; rcases k9 with _ | _ | _ | _ | _ | _ | _ | _ | _ | _ <;> first | assumption | omega)) (by decide) ?_
  refine lv_iconst (v := -1) hx hb (dk kX0_stateBehind_1_ok 24 rfl) rfl ?_
  exact hret _ _ _ (by simp only [stb, (eq_false hs1), (eq_false hs4), (eq_false hs6), (eq_false hs8), (eq_false hs10), (eq_false hs12), (eq_false hs14), (eq_false hs16), (eq_false hs18), not_true_eq_false, not_false_eq_true, and_true, true_and, and_false, false_and, or_true, true_or, or_false, false_or, and_self, or_self, if_true, if_false, Bool.false_eq_true, reduceIte]) (dk kX0_stateBehind_1_ok 25 rfl)
set_option maxRecDepth 100000 in
set_option maxHeartbeats 4000000 in
theorem tX0_codeAt (l : Launch) (D : va_G) (cI cQ cL : ClassId) (ad : Nat → Nat) (N : Nat) (F : Nat → va_E) (k : Nat) (hk : k + 1 < N) (a : Nat → Int32) (n : Nat) (hn60 : n ≤ 60) (hT : gtAt cI ad F k a n) (x : Int32) (i : Nat) (hxi : x = nI i) (hi : i < 2 ^ 31) : MR l yX0_codeAt (Cond.code yX0_codeAt cX0_codeAt 2 (some .int) :: AW) ({ frames := 0, cells := 0, slots := 0, locals := 0 } : Room) D cI cQ cL ad N F [.ref (ad k), .int x] (.int (cod a n i)) := by
  refine mr_i (ty := .int) (by decide +kernel) rfl rfl rfl rfl (Nat.le_of_ble_eq_true rfl) (fun p e s m below meth cd Q ls hx hb hml hown hts hP hK hNW hret hl => ?_)
  have hown : s.vm.findClass RX0 = some m.cls := hown
  subst hxi
  have hk0 : k < N := by omega
  have hk1 : k + 1 < N := hk
  have hl : lv_has ls 2 [(0, .ref (ad k)), (1, .int (nI i))] := hl
  refine lv_iload_n hx hb (dk kX0_codeAt_ok 0 rfl) rfl (lv_at hl 1 rfl) ?_
  refine n_if_lt (tgt := 21) hx hb (by omega) (dk kX0_codeAt_ok 1 rfl) (by decide) ?_
  refine lv_iload_n hx hb (dk kX0_codeAt_ok 2 rfl) rfl (lv_at hl 1 rfl) ?_
  refine lv_aload_n hx hb (dk kX0_codeAt_ok 3 rfl) rfl (lv_at hl 0 rfl) ?_
  refine gf hx hb hts (fun w h => List.mem_cons_of_mem _ (acX0 w h)) hown hK hP hk0 hT.1 rfl 1 (by decide) (hts _ (List.mem_cons_of_mem _ (ac0 _ (List.mem_of_getElem? (i := 5) rfl)))) (fun _ h => h) rfl (dk kX0_codeAt_ok 4 rfl) ?_
  refine n_icmp_ge (tgt := 21) hx hb (by omega) (by omega) (dk kX0_codeAt_ok 5 rfl) (by decide) (fun h1 => ?_) (fun h1 => ?_)
  · skip
    refine lv_iconst (v := nI 0) hx hb (dk kX0_codeAt_ok 11 rfl) rfl ?_
    exact hret _ _ _ (by first | (rw [cod, if_pos (by omega)]) | (rw [cod, if_neg (by omega)])) (dk kX0_codeAt_ok 12 rfl)
  · skip
    refine lv_aload_n hx hb (dk kX0_codeAt_ok 6 rfl) rfl (lv_at hl 0 rfl) ?_
    refine gf hx hb hts (fun w h => List.mem_cons_of_mem _ (acX0 w h)) hown hK hP hk0 hT.1 rfl 0 (by decide) (hts _ (List.mem_cons_of_mem _ (ac0 _ (List.mem_of_getElem? (i := 4) rfl)))) (fun _ h => h) rfl (dk kX0_codeAt_ok 7 rfl) ?_
    refine lv_iload_n hx hb (dk kX0_codeAt_ok 8 rfl) rfl (lv_at hl 1 rfl) ?_
    refine ald (j := i) hx hb hK hP hk1 hT.2 rfl (by omega) (by decide) (dk kX0_codeAt_ok 9 rfl) ?_
    refine lv_goto (tgt := 22) hx hb (dk kX0_codeAt_ok 10 rfl) (by decide) ?_
    exact hret _ _ _ (by first | (rw [cod, if_pos (by omega)]) | (rw [cod, if_neg (by omega)])) (dk kX0_codeAt_ok 12 rfl)
set_option maxRecDepth 100000 in
set_option maxHeartbeats 4000000 in
theorem tX0_errorIndex (l : Launch) (D : va_G) (cI cQ cL : ClassId) (ad : Nat → Nat) (N : Nat) (F : Nat → va_E) (k : Nat) (hk : k + 1 < N) (a : Nat → Int32) (n : Nat) (hn60 : n ≤ 60) (hT : gtAt cI ad F k a n) : MR l yX0_errorIndex (Cond.code yX0_errorIndex cX0_errorIndex 3 (some .int) :: AW) ({ frames := 2, cells := 0, slots := 0, locals := 43 } : Room) D cI cQ cL ad N F [.ref (ad k)] (.int (nI (eri a n 0 (nI 0)))) := by
  refine mr_i (ty := .int) (by decide +kernel) rfl rfl rfl rfl (Nat.le_of_ble_eq_true rfl) (fun p e s m below meth cd Q ls hx hb hml hown hts hP hK hNW hret hl => ?_)
  have hown : s.vm.findClass RX0 = some m.cls := hown
  have hk0 : k < N := by omega
  have hk1 : k + 1 < N := hk
  have hl : lv_has ls 3 [(0, .ref (ad k))] := hl
  refine lv_iconst (v := nI 0) hx hb (dk kX0_errorIndex_ok 0 rfl) rfl ?_
  refine lv_istore_n (lv' := [(1, .int (nI 0)), (0, .ref (ad k))]) hx hb (dk kX0_errorIndex_ok 1 rfl) rfl hl (by decide) rfl (fun ls hl => ?_)
  refine lv_iconst (v := nI 0) hx hb (dk kX0_errorIndex_ok 2 rfl) rfl ?_
  refine lv_istore_n (lv' := [(2, .int (nI 0)), (1, .int (nI 0)), (0, .ref (ad k))]) hx hb (dk kX0_errorIndex_ok 3 rfl) rfl hl (by decide) rfl (fun ls hl => ?_)
  have L4 : ∀ (fu : Nat) (i : Nat) (x : Int32), i ≤ n → eri a n 0 (nI 0) = eri a (n - i) i x → n - i < fu → ∀ ls : Array Slot, lv_has ls 3 [(0, .ref (ad k)), (1, .int x), (2, .int (nI i))] → W p l e ({ frames := 2, cells := 0, slots := 0, locals := 43 } : Room) s m ([.ref (ad k)] : List Value).toArray below meth cd s.heap [] 0 0 Q (F0 m 4 ls []) := by
    intro fu
    induction fu with
    | zero => intros; omega
    | succ fu ih4 =>
      intro i x hi hr hm4 ls hl
      refine lv_iload_n hx hb (dk kX0_errorIndex_ok 4 rfl) rfl (lv_at hl 2 rfl) ?_
      refine lv_aload_n hx hb (dk kX0_errorIndex_ok 5 rfl) rfl (lv_at hl 0 rfl) ?_
      refine gf hx hb hts (fun w h => List.mem_cons_of_mem _ (acX0 w h)) hown hK hP hk0 hT.1 rfl 1 (by decide) (hts _ (List.mem_cons_of_mem _ (ac0 _ (List.mem_of_getElem? (i := 5) rfl)))) (fun _ h => h) rfl (dk kX0_errorIndex_ok 6 rfl) ?_
      refine n_icmp_ge (tgt := 35) hx hb (by omega) (by omega) (dk kX0_errorIndex_ok 7 rfl) (by decide) (fun h1 => ?_) (fun h1 => ?_)
      · skip
        refine lv_aload_n hx hb (dk kX0_errorIndex_ok 21 rfl) rfl (lv_at hl 0 rfl) ?_
        refine gf hx hb hts (fun w h => List.mem_cons_of_mem _ (acX0 w h)) hown hK hP hk0 hT.1 rfl 1 (by decide) (hts _ (List.mem_cons_of_mem _ (ac0 _ (List.mem_of_getElem? (i := 5) rfl)))) (fun _ h => h) rfl (dk kX0_errorIndex_ok 22 rfl) ?_
        exact hret _ _ _ (by first | (rw [hr, show n - i = (n - (i + 1)) + 1 by omega]; simp only [eri]; rw [if_pos (by rw [show cod a n i = a i from if_pos (by omega)] at h2; exact h2)]) | (rw [hr, show n - i = 0 by omega]; simp only [eri]; rw [show n = i by omega])) (dk kX0_errorIndex_ok 23 rfl)
      · skip
        refine lv_iload_n hx hb (dk kX0_errorIndex_ok 8 rfl) rfl (lv_at hl 1 rfl) ?_
        refine lv_aload_n hx hb (dk kX0_errorIndex_ok 9 rfl) rfl (lv_at hl 0 rfl) ?_
        refine lv_iload_n hx hb (dk kX0_errorIndex_ok 10 rfl) rfl (lv_at hl 2 rfl) ?_
        refine cvR (As := [.int (nI i)]) (rest := [.int x]) ⟨hx, hb, hml, hown, hts⟩ (tX0_codeAt l D cI cQ cL ad N F k hk a n hn60 hT (nI i) i rfl (by omega)) (cwV9 1 hts mcX0_codeAt (ac0 _ (List.mem_of_getElem? (i := 10) rfl)) miX0_codeAt meX0_codeAt mini_RX0 rfl rfl hdX0_codeAt ⟨Nat.le_of_ble_eq_true rfl, Nat.le_of_ble_eq_true rfl⟩) hK hP hNW hk0 hT.1 rfl rfl hl.1 rfl (Nat.le_of_ble_eq_true rfl) (by decide) (dk kX0_errorIndex_ok 11 rfl) ?_
        refine csP (As := [.int x, .int (cod a n i)]) (rest := []) ⟨hx, hb, hml, hown, hts⟩ (tX0_stateBehind l x (cod a n i)) (cwS9 2 hts mcX0_stateBehind (ac0 _ (List.mem_of_getElem? (i := 14) rfl)) msX0_stateBehind mini_RX0 rfl rfl hdX0_stateBehind ⟨Nat.le_of_ble_eq_true rfl, Nat.le_of_ble_eq_true rfl⟩) rfl hl.1 rfl (Nat.le_of_ble_eq_true rfl) (by decide) (dk kX0_errorIndex_ok 12 rfl) ?_
        refine lv_istore_n (lv' := [(1, .int (stb x (cod a n i))), (0, .ref (ad k)), (2, .int (nI i))]) hx hb (dk kX0_errorIndex_ok 13 rfl) rfl hl (by decide) rfl (fun ls hl => ?_)
        refine lv_iload_n hx hb (dk kX0_errorIndex_ok 14 rfl) rfl (lv_at hl 0 rfl) ?_
        refine lv_iconst (v := -1) hx hb (dk kX0_errorIndex_ok 15 rfl) rfl ?_
        refine lv_icmp_ne (tgt := 29) hx hb (dk kX0_errorIndex_ok 16 rfl) (by decide) (fun h2 => ?_) (fun h2 => ?_)
        · skip
          refine lv_iinc (v := nI (i + 1)) (lv' := [(2, .int (nI (i + 1))), (1, .int (stb x (cod a n i))), (0, .ref (ad k))]) hx hb (dk kX0_errorIndex_ok 19 rfl) hl (k := 2) rfl (n_inc _) (by decide) rfl (fun ls hl => ?_)
          refine lv_goto (tgt := 4) hx hb (dk kX0_errorIndex_ok 20 rfl) (by decide) ?_
          exact ih4 (i + 1) (stb x (cod a n i)) (by omega) (by rw [hr, show n - i = (n - (i + 1)) + 1 by omega, show cod a n i = a i from if_pos (by omega)]; simp only [eri]; rw [if_neg (by rw [show cod a n i = a i from if_pos (by omega)] at h2; exact h2)]) (by omega) ls (lv_sub hl [2, 1, 0] rfl)
        · skip
          refine lv_iload_n hx hb (dk kX0_errorIndex_ok 17 rfl) rfl (lv_at hl 2 rfl) ?_
          exact hret _ _ _ (by first | (rw [hr, show n - i = (n - (i + 1)) + 1 by omega]; simp only [eri]; rw [if_pos (by rw [show cod a n i = a i from if_pos (by omega)] at h2; exact h2)]) | (rw [hr, show n - i = 0 by omega]; simp only [eri]; rw [show n = i by omega])) (dk kX0_errorIndex_ok 18 rfl)
  exact L4 _ 0 (nI 0) (by first | omega | rfl) (by first | omega | rfl) (Nat.lt_succ_self _) ls (lv_sub hl [2, 1, 0] rfl)
set_option maxRecDepth 100000 in
set_option maxHeartbeats 4000000 in
theorem tX0_isComplete (l : Launch) (D : va_G) (cI cQ cL : ClassId) (ad : Nat → Nat) (N : Nat) (F : Nat → va_E) (k : Nat) (hk : k + 1 < N) (a : Nat → Int32) (n : Nat) (hn60 : n ≤ 60) (hT : gtAt cI ad F k a n) : MR l yX0_isComplete (Cond.code yX0_isComplete cX0_isComplete 3 (some .boolean) :: AW) ({ frames := 2, cells := 0, slots := 0, locals := 43 } : Room) D cI cQ cL ad N F [.ref (ad k)] (.int (bI (decide (sta a n = nI 8)))) := by
  refine mr_i (ty := .boolean) (by decide +kernel) rfl rfl rfl (bI_nar _) (Nat.le_of_ble_eq_true rfl) (fun p e s m below meth cd Q ls hx hb hml hown hts hP hK hNW hret hl => ?_)
  have hown : s.vm.findClass RX0 = some m.cls := hown
  have hk0 : k < N := by omega
  have hk1 : k + 1 < N := hk
  have hl : lv_has ls 3 [(0, .ref (ad k))] := hl
  refine lv_iconst (v := nI 0) hx hb (dk kX0_isComplete_ok 0 rfl) rfl ?_
  refine lv_istore_n (lv' := [(1, .int (nI 0)), (0, .ref (ad k))]) hx hb (dk kX0_isComplete_ok 1 rfl) rfl hl (by decide) rfl (fun ls hl => ?_)
  refine lv_iconst (v := nI 0) hx hb (dk kX0_isComplete_ok 2 rfl) rfl ?_
  refine lv_istore_n (lv' := [(2, .int (nI 0)), (1, .int (nI 0)), (0, .ref (ad k))]) hx hb (dk kX0_isComplete_ok 3 rfl) rfl hl (by decide) rfl (fun ls hl => ?_)
  have L4 : ∀ (fu : Nat) (i : Nat) (x1 : Int32), x1 = sta a i → i ≤ n → n - i < fu → ∀ ls : Array Slot, lv_has ls 3 [(0, .ref (ad k)), (1, .int x1), (2, .int (nI i))] → W p l e ({ frames := 2, cells := 0, slots := 0, locals := 43 } : Room) s m ([.ref (ad k)] : List Value).toArray below meth cd s.heap [] 0 0 Q (F0 m 4 ls []) := by
    intro fu
    induction fu with
    | zero => intros; omega
    | succ fu ih4 =>
      intro i x1 ex1 hi hm4 ls hl
      subst ex1
      refine lv_iload_n hx hb (dk kX0_isComplete_ok 4 rfl) rfl (lv_at hl 2 rfl) ?_
      refine lv_aload_n hx hb (dk kX0_isComplete_ok 5 rfl) rfl (lv_at hl 0 rfl) ?_
      refine gf hx hb hts (fun w h => List.mem_cons_of_mem _ (acX0 w h)) hown hK hP hk0 hT.1 rfl 1 (by decide) (hts _ (List.mem_cons_of_mem _ (ac0 _ (List.mem_of_getElem? (i := 5) rfl)))) (fun _ h => h) rfl (dk kX0_isComplete_ok 6 rfl) ?_
      refine n_icmp_ge (tgt := 28) hx hb (by omega) (by omega) (dk kX0_isComplete_ok 7 rfl) (by decide) (fun h1 => ?_) (fun h1 => ?_)
      · skip
        refine lv_iload_n hx hb (dk kX0_isComplete_ok 16 rfl) rfl (lv_at hl 1 rfl) ?_
        refine lv_bipush (v := nI 8) hx hb (dk kX0_isComplete_ok 17 rfl) rfl ?_
        refine lv_icmp_ne (tgt := 38) hx hb (dk kX0_isComplete_ok 18 rfl) (by decide) (fun h2 => ?_) (fun h2 => ?_)
        · skip
          refine lv_iconst (v := nI 0) hx hb (dk kX0_isComplete_ok 21 rfl) rfl ?_
          exact hret _ _ _ (by rw [← show i = n by omega]; simp only [(eq_true h1), (eq_false (Nat.not_lt.mpr h1)), (eq_false h2), decide_true, decide_false]; rfl) (dk kX0_isComplete_ok 22 rfl)
        · skip
          refine lv_iconst (v := nI 1) hx hb (dk kX0_isComplete_ok 19 rfl) rfl ?_
          refine lv_goto (tgt := 39) hx hb (dk kX0_isComplete_ok 20 rfl) (by decide) ?_
          exact hret _ _ _ (by rw [← show i = n by omega]; simp only [(eq_true h1), (eq_false (Nat.not_lt.mpr h1)), (eq_true h2), decide_true, decide_false]; rfl) (dk kX0_isComplete_ok 22 rfl)
      · skip
        refine lv_iload_n hx hb (dk kX0_isComplete_ok 8 rfl) rfl (lv_at hl 1 rfl) ?_
        refine lv_aload_n hx hb (dk kX0_isComplete_ok 9 rfl) rfl (lv_at hl 0 rfl) ?_
        refine lv_iload_n hx hb (dk kX0_isComplete_ok 10 rfl) rfl (lv_at hl 2 rfl) ?_
        refine cvR (As := [.int (nI i)]) (rest := [.int (sta a i)]) ⟨hx, hb, hml, hown, hts⟩ (tX0_codeAt l D cI cQ cL ad N F k hk a n hn60 hT (nI i) i rfl (by omega)) (cwV9 1 hts mcX0_codeAt (ac0 _ (List.mem_of_getElem? (i := 10) rfl)) miX0_codeAt meX0_codeAt mini_RX0 rfl rfl hdX0_codeAt ⟨Nat.le_of_ble_eq_true rfl, Nat.le_of_ble_eq_true rfl⟩) hK hP hNW hk0 hT.1 rfl rfl hl.1 rfl (Nat.le_of_ble_eq_true rfl) (by decide) (dk kX0_isComplete_ok 11 rfl) ?_
        refine csP (As := [.int (sta a i), .int (cod a n i)]) (rest := []) ⟨hx, hb, hml, hown, hts⟩ (tX0_stateBehind l (sta a i) (cod a n i)) (cwS9 2 hts mcX0_stateBehind (ac0 _ (List.mem_of_getElem? (i := 14) rfl)) msX0_stateBehind mini_RX0 rfl rfl hdX0_stateBehind ⟨Nat.le_of_ble_eq_true rfl, Nat.le_of_ble_eq_true rfl⟩) rfl hl.1 rfl (Nat.le_of_ble_eq_true rfl) (by decide) (dk kX0_isComplete_ok 12 rfl) ?_
        refine lv_istore_n (lv' := [(1, .int (stb (sta a i) (cod a n i))), (0, .ref (ad k)), (2, .int (nI i))]) hx hb (dk kX0_isComplete_ok 13 rfl) rfl hl (by decide) rfl (fun ls hl => ?_)
        refine lv_iinc (v := nI (i + 1)) (lv' := [(2, .int (nI (i + 1))), (1, .int (stb (sta a i) (cod a n i))), (0, .ref (ad k))]) hx hb (dk kX0_isComplete_ok 14 rfl) hl (k := 2) rfl (n_inc _) (by decide) rfl (fun ls hl => ?_)
        refine lv_goto (tgt := 4) hx hb (dk kX0_isComplete_ok 15 rfl) (by decide) ?_
        exact ih4 (i + 1) _ (by rw [show cod a n i = a i from if_pos (by omega)]; rfl) (by omega) (by omega) ls (lv_sub hl [2, 1, 0] rfl)
  exact L4 _ 0 _ (by first | rfl | omega) (by first | rfl | omega) (Nat.lt_succ_self _) ls (lv_sub hl [2, 1, 0] rfl)
set_option maxRecDepth 100000 in
set_option maxHeartbeats 4000000 in
theorem tX0_add (l : Launch) (D : va_G) (cI cQ cL : ClassId) (ad : Nat → Nat) (N : Nat) (F : Nat → va_E) (k : Nat) (hk : k + 1 < N) (a : Nat → Int32) (n : Nat) (hn60 : n ≤ 60) (hT : gtAt cI ad F k a n) (x : Int32) : MX l yX0_add (Cond.code yX0_add cX0_add 2 none :: AW) ({ frames := 0, cells := 0, slots := 0, locals := 0 } : Room) D cI cQ cL ad N F [.ref (ad k), .int x] (dp none (if n < 60 then gtSet cI ad F k (upd a n x) (n + 1) else F)) 0 0 := by
  refine mx_v (by decide +kernel) rfl (Nat.le_of_ble_eq_true rfl) (fun p e s m below meth cd Q ls hx hb hml hown hts hDi hP hK hNW hS hret hl => ?_)
  have hown : s.vm.findClass RX0 = some m.cls := hown
  have hk0 : k < N := by omega
  have hk1 : k + 1 < N := hk
  have hP : va_P D vwCl (iW ad N (gtSet cI ad F k a n)) s.heap := by rw [gtSet_self hT]; exact hP
  have hl : lv_has ls 2 [(0, .ref (ad k)), (1, .int x)] := hl
  refine lv_aload_n hx hb (dk kX0_add_ok 0 rfl) rfl (lv_at hl 0 rfl) ?_
  refine gf hx hb hts (fun w h => List.mem_cons_of_mem _ (acX0 w h)) hown hK hP hk0 gtSet_at.1 rfl 1 (by decide) (hts _ (List.mem_cons_of_mem _ (ac0 _ (List.mem_of_getElem? (i := 5) rfl)))) (fun _ h => h) rfl (dk kX0_add_ok 1 rfl) ?_
  refine lv_bipush (v := nI 60) hx hb (dk kX0_add_ok 2 rfl) rfl ?_
  refine n_icmp_ge (tgt := 29) hx hb (by omega) (by decide) (dk kX0_add_ok 3 rfl) (by decide) (fun h1 => ?_) (fun h1 => ?_)
  · skip
    exact hret _ _ _ _ _ _ _ (by refine ⟨rfl, ?_⟩; first | (rw [if_pos (by omega)]) | (rw [if_neg (by omega), gtSet_self hT])) hP hS (by decide) (by decide) (dk kX0_add_ok 16 rfl)
  · skip
    refine lv_aload_n hx hb (dk kX0_add_ok 4 rfl) rfl (lv_at hl 0 rfl) ?_
    refine gf hx hb hts (fun w h => List.mem_cons_of_mem _ (acX0 w h)) hown hK hP hk0 gtSet_at.1 rfl 0 (by decide) (hts _ (List.mem_cons_of_mem _ (ac0 _ (List.mem_of_getElem? (i := 4) rfl)))) (fun _ h => h) rfl (dk kX0_add_ok 5 rfl) ?_
    refine lv_aload_n hx hb (dk kX0_add_ok 6 rfl) rfl (lv_at hl 0 rfl) ?_
    refine gf hx hb hts (fun w h => List.mem_cons_of_mem _ (acX0 w h)) hown hK hP hk0 gtSet_at.1 rfl 1 (by decide) (hts _ (List.mem_cons_of_mem _ (ac0 _ (List.mem_of_getElem? (i := 5) rfl)))) (fun _ h => h) rfl (dk kX0_add_ok 7 rfl) ?_
    refine lv_iload_n hx hb (dk kX0_add_ok 8 rfl) rfl (lv_at hl 1 rfl) ?_
    refine ast (gtSet cI ad F k (upd a n x) n) (j := n) hx hb hK hDi hP hS hk1 gtSet_at.2 rfl (by omega) (by decide) (dk kX0_add_ok 9 rfl) gtSet_u1 (fun H locs hP hS => ?_)
    refine lv_aload_n hx hb (dk kX0_add_ok 10 rfl) rfl (lv_at hl 0 rfl) ?_
    refine lv_dup hx hb (dk kX0_add_ok 11 rfl) rfl ?_
    refine gf hx hb hts (fun w h => List.mem_cons_of_mem _ (acX0 w h)) hown hK hP hk0 gtSet_at.1 rfl 1 (by decide) (hts _ (List.mem_cons_of_mem _ (ac0 _ (List.mem_of_getElem? (i := 5) rfl)))) (fun _ h => h) rfl (dk kX0_add_ok 12 rfl) ?_
    refine lv_iconst (v := nI 1) hx hb (dk kX0_add_ok 13 rfl) rfl ?_
    refine n_iadd hx hb (dk kX0_add_ok 14 rfl) ?_
    refine pf (gtSet cI ad F k (upd a n x) (n + 1)) hx hb hts (fun w h => List.mem_cons_of_mem _ (acX0 w h)) tyX0 tyX0_ok nmX0 hown hK hDi hP hS hk0 gtSet_at.1 rfl 1 (by decide) (hts _ (List.mem_cons_of_mem _ (ac0 _ (List.mem_of_getElem? (i := 5) rfl)))) (fun _ h => h) rfl (ty := .int) rfl rfl rfl (Nat.le_of_ble_eq_true rfl) (dk kX0_add_ok 15 rfl) gtSet_u0 (fun H locs hP hS => ?_)
    exact hret _ _ _ _ _ _ _ (by refine ⟨rfl, ?_⟩; first | (rw [if_pos (by omega)]) | (rw [if_neg (by omega), gtSet_self hT])) hP hS (by decide) (by decide) (dk kX0_add_ok 16 rfl)
set_option maxRecDepth 100000 in
set_option maxHeartbeats 4000000 in
theorem tJ7_fill_53178 (l : Launch) (D : va_G) (cI cQ cL : ClassId) (ad : Nat → Nat) (N : Nat) (F : Nat → va_E) (k : Nat) (hk : k < N) (g : Nat → Int32) (hA : F k = .inl (cI, 169, .inl g)) (x : Int32) : MX l yJ7_fill_53178 (Cond.code yJ7_fill_53178 cJ7_fill_53178 4 none :: AW) ({ frames := 0, cells := 0, slots := 0, locals := 0 } : Room) D cI cQ cL ad N F [.ref (ad k), .int x] (dp none (va_up F k (.inl (cI, 169, .inl (fun _ => x))))) 0 0 := by
  refine mx_v (by decide +kernel) rfl (Nat.le_of_ble_eq_true rfl) (fun p e s m below meth cd Q ls hx hb hml hown hts hDi hP hK hNW hS hret hl => ?_)
  have hown : s.vm.findClass RJ7 = some m.cls := hown
  have hP : va_P D vwCl (iW ad N (va_up F k (.inl (cI, 169, .inl g)))) s.heap := by rw [va_up_id hA]; exact hP
  have hl : lv_has ls 4 [(0, .ref (ad k)), (1, .int x)] := hl
  refine lv_iconst (v := nI 0) hx hb (dk kJ7_fill_53178_ok 0 rfl) rfl ?_
  refine lv_istore_n (lv' := [(2, .int (nI 0)), (0, .ref (ad k)), (1, .int x)]) hx hb (dk kJ7_fill_53178_ok 1 rfl) rfl hl (by decide) rfl (fun ls hl => ?_)
  refine lv_aload_n hx hb (dk kJ7_fill_53178_ok 2 rfl) rfl (lv_at hl 1 rfl) ?_
  refine alen hx hb hK hP hk (va_up_self _ _ _) (dk kJ7_fill_53178_ok 3 rfl) ?_
  refine lv_istore_n (lv' := [(3, .int (nI 169)), (2, .int (nI 0)), (0, .ref (ad k)), (1, .int x)]) hx hb (dk kJ7_fill_53178_ok 4 rfl) rfl hl (by decide) rfl (fun ls hl => ?_)
  have L5 : ∀ (fu : Nat) (i : Nat) (H : Heap) (locs : List Loc), va_P D vwCl (iW ad N (va_up F k (.inl (cI, 169, .inl (fl9 g i x))))) H → va_S (iA ad N s.heap.size) s.heap H locs → i ≤ 169 → 169 - i < fu → ∀ ls : Array Slot, lv_has ls 4 [(0, .ref (ad k)), (1, .int x), (2, .int (nI i)), (3, .int (nI 169))] → W p l e ({ frames := 0, cells := 0, slots := 0, locals := 0 } : Room) s m ([.ref (ad k), .int x] : List Value).toArray below meth cd H locs 0 0 Q (F0 m 5 ls []) := by
    intro fu
    induction fu with
    | zero => intros; omega
    | succ fu ih5 =>
      intro i H locs hP hS hi hm5 ls hl
      refine lv_iload_n hx hb (dk kJ7_fill_53178_ok 5 rfl) rfl (lv_at hl 2 rfl) ?_
      refine lv_iload_n hx hb (dk kJ7_fill_53178_ok 6 rfl) rfl (lv_at hl 3 rfl) ?_
      refine n_icmp_ge (tgt := 20) hx hb (by omega) (by decide) (dk kJ7_fill_53178_ok 7 rfl) (by decide) (fun h1 => ?_) (fun h1 => ?_)
      · skip
        exact hret _ _ _ _ _ _ _ (by exact ⟨rfl, rfl⟩) (fl9_end (g := g) (by rw [show i = 169 by omega] at hP; exact hP)) hS (by decide) (by decide) (dk kJ7_fill_53178_ok 14 rfl)
      · skip
        refine lv_aload_n hx hb (dk kJ7_fill_53178_ok 8 rfl) rfl (lv_at hl 0 rfl) ?_
        refine lv_iload_n hx hb (dk kJ7_fill_53178_ok 9 rfl) rfl (lv_at hl 2 rfl) ?_
        refine lv_iload_n hx hb (dk kJ7_fill_53178_ok 10 rfl) rfl (lv_at hl 1 rfl) ?_
        refine ast (va_up F k (.inl (cI, 169, .inl (upd (fl9 g i x) i x)))) (j := i) hx hb hK hDi hP hS hk (va_up_self _ _ _) rfl (by omega) (by decide) (dk kJ7_fill_53178_ok 11 rfl) va_up_up (fun H locs hP hS => ?_)
        refine lv_iinc (v := nI (i + 1)) (lv' := [(2, .int (nI (i + 1))), (0, .ref (ad k)), (1, .int x), (3, .int (nI 169))]) hx hb (dk kJ7_fill_53178_ok 12 rfl) hl (k := 2) rfl (n_inc _) (by decide) rfl (fun ls hl => ?_)
        refine lv_goto (tgt := 5) hx hb (dk kJ7_fill_53178_ok 13 rfl) (by decide) ?_
        exact ih5 (i + 1) _ _ (by first | (rw [fl9_0]; exact hP) | (rw [← fl9_s]; exact hP)) hS (by omega) (by omega) ls (lv_sub hl [1, 2, 0, 3] rfl)
  exact L5 _ 0 _ _ (by first | (rw [fl9_0]; exact hP) | (rw [← fl9_s]; exact hP)) hS (by first | omega | rfl) (Nat.lt_succ_self _) ls (lv_sub hl [2, 3, 1, 0] rfl)
set_option maxRecDepth 100000 in
set_option maxHeartbeats 4000000 in
theorem tX3_search (l : Launch) (D : va_G) (cI cQ cL : ClassId) (ad : Nat → Nat) (N : Nat) (F : Nat → va_E) (k : Nat) (hk : k + 3 < N) (a d q : Nat → Int32) (hO : roAt cI ad F k a d q) (x : Int32) (w : Nat) (hxw : x = nI w) (hw : w < 169) (y : Int32) (m9 : Nat) (hym : y = nI m9) (hm9 : m9 ≤ 1) : MX l yX3_search (Cond.code yX3_search cX3_search 8 (some .int) :: AW) ({ frames := 2, cells := 0, slots := 0, locals := 49 } : Room) D cI cQ cL ad N F [.ref (ad k), .int x, .int y] (dp (some (.int (sea q w m9).1)) (roSet cI ad F k a (sea q w m9).2.1 (sea q w m9).2.2)) 0 0 := by
  refine mx_i (ty := .int) (by decide +kernel) rfl (Nat.le_of_ble_eq_true rfl) (fun p e s m below meth cd Q ls hx hb hml hown hts hDi hP hK hNW hS hret hl => ?_)
  have hown : s.vm.findClass RX3 = some m.cls := hown
  subst hxw
  subst hym
  have hk0 : k < N := by omega
  have hk1 : k + 1 < N := by omega
  have hk2 : k + 2 < N := by omega
  have hk3 : k + 3 < N := hk
  have hP : va_P D vwCl (iW ad N (roSet cI ad F k a d q)) s.heap := by rw [roSet_self hO]; exact hP
  have hl : lv_has ls 8 [(0, .ref (ad k)), (1, .int (nI w)), (2, .int (nI m9))] := hl
  refine lv_aload_n hx hb (dk kX3_search_0_ok 0 rfl) rfl (lv_at hl 0 rfl) ?_
  refine gf hx hb hts (fun w h => List.mem_cons_of_mem _ (acX3 w h)) hown hK hP hk0 roSet_at.1 rfl 1 (by decide) (hts _ (List.mem_cons_of_mem _ (ac5 _ (List.mem_of_getElem? (i := 12) rfl)))) (fun _ h => h) rfl (dk kX3_search_0_ok 1 rfl) ?_
  refine lv_iconst (v := -1) hx hb (dk kX3_search_0_ok 2 rfl) rfl ?_
  refine csDv (As := [.ref (ad (k + 2)), .int (-1)]) (rest := []) (roSet cI ad F k a (fun _ => -1) q) ⟨hx, hb, hml, hown, hts⟩ (tJ7_fill_53178 l D cI cQ cL ad N (roSet cI ad F k a d q) (k + 2) hk2 d roSet_at.2.2.1 (-1)) (cwS9 2 hts mcJ7_fill_53178 (ac5 _ (List.mem_of_getElem? (i := 23) rfl)) msJ7_fill_53178 (ac6 _ (List.mem_of_getElem? (i := 1) rfl)) rfl rfl hdJ7_fill_53178 ⟨Nat.le_of_ble_eq_true rfl, Nat.le_of_ble_eq_true rfl⟩) hDi hK hP hNW hS rfl hl.1 rfl (Nat.le_of_ble_eq_true rfl) (by decide) (dk kX3_search_0_ok 3 rfl) roSet_u2 (fun H locs hP hS => ?_)
  refine lv_aload_n hx hb (dk kX3_search_0_ok 4 rfl) rfl (lv_at hl 0 rfl) ?_
  refine gf hx hb hts (fun w h => List.mem_cons_of_mem _ (acX3 w h)) hown hK hP hk0 roSet_at.1 rfl 1 (by decide) (hts _ (List.mem_cons_of_mem _ (ac5 _ (List.mem_of_getElem? (i := 12) rfl)))) (fun _ h => h) rfl (dk kX3_search_0_ok 5 rfl) ?_
  refine lv_iload_n hx hb (dk kX3_search_0_ok 6 rfl) rfl (lv_at hl 1 rfl) ?_
  refine lv_iconst (v := nI 0) hx hb (dk kX3_search_0_ok 7 rfl) rfl ?_
  refine ast (roSet cI ad F k a (upd (fun _ => -1) w (nI 0)) q) (j := w) hx hb hK hDi hP hS hk2 roSet_at.2.2.1 rfl (by omega) (by decide) (dk kX3_search_0_ok 8 rfl) roSet_u2 (fun H locs hP hS => ?_)
  refine lv_aload_n hx hb (dk kX3_search_0_ok 9 rfl) rfl (lv_at hl 0 rfl) ?_
  refine gf hx hb hts (fun w h => List.mem_cons_of_mem _ (acX3 w h)) hown hK hP hk0 roSet_at.1 rfl 2 (by decide) (hts _ (List.mem_cons_of_mem _ (ac5 _ (List.mem_of_getElem? (i := 13) rfl)))) (fun _ h => h) rfl (dk kX3_search_0_ok 10 rfl) ?_
  refine lv_iconst (v := nI 0) hx hb (dk kX3_search_0_ok 11 rfl) rfl ?_
  refine lv_iload_n hx hb (dk kX3_search_0_ok 12 rfl) rfl (lv_at hl 1 rfl) ?_
  refine ast (roSet cI ad F k a (upd (fun _ => -1) w (nI 0)) (upd q 0 (nI w))) (j := 0) hx hb hK hDi hP hS hk3 roSet_at.2.2.2 rfl (by omega) (by decide) (dk kX3_search_0_ok 13 rfl) roSet_u3 (fun H locs hP hS => ?_)
  refine lv_iconst (v := nI 1) hx hb (dk kX3_search_0_ok 14 rfl) rfl ?_
  refine lv_istore_n (lv' := [(3, .int (nI 1)), (0, .ref (ad k)), (1, .int (nI w)), (2, .int (nI m9))]) hx hb (dk kX3_search_0_ok 15 rfl) rfl hl (by decide) rfl (fun ls hl => ?_)
  refine lv_iconst (v := nI 0) hx hb (dk kX3_search_0_ok 16 rfl) rfl ?_
  refine lv_istore (lv' := [(4, .int (nI 0)), (3, .int (nI 1)), (0, .ref (ad k)), (1, .int (nI w)), (2, .int (nI m9))]) hx hb (dk kX3_search_0_ok 17 rfl) hl (by decide) rfl (fun ls hl => ?_)
  have L27 : ∀ (fu : Nat) (kk n : Nat) (d2 q2 : Nat → Int32) (H : Heap) (locs : List Loc), va_P D vwCl (iW ad N (roSet cI ad F k a d2 q2)) H → va_S (iA ad N s.heap.size) s.heap H locs → kk ≤ 169 → n ≤ 169 → (∀ i, i < n → cell9 (q2 i)) → sea q w m9 = srO m9 (170 - kk) kk d2 q2 n → 170 - kk < fu → ∀ ls : Array Slot, lv_has ls 8 [(0, .ref (ad k)), (1, .int (nI w)), (2, .int (nI m9)), (3, .int (nI n)), (4, .int (nI kk))] → W p l e ({ frames := 2, cells := 0, slots := 0, locals := 49 } : Room) s m ([.ref (ad k), .int (nI w), .int (nI m9)] : List Value).toArray below meth cd H locs 0 0 Q (F0 m 27 ls []) := by
    intro fu
    induction fu with
    | zero => intros; omega
    | succ fu ih27 =>
      intro kk n d2 q2 H locs hP hS hkk hn hq2 hr hm27 ls hl
      refine lv_iload hx hb (dk kX3_search_0_ok 18 rfl) (lv_at hl 4 rfl) ?_
      refine lv_iload_n hx hb (dk kX3_search_0_ok 19 rfl) rfl (lv_at hl 3 rfl) ?_
      refine n_icmp_ge (tgt := 161) hx hb (by omega) (by omega) (dk kX3_search_0_ok 20 rfl) (by decide) (fun h1 => ?_) (fun h1 => ?_)
      · skip
        refine lv_iconst (v := -1) hx hb (dk kX3_search_1_ok 29 rfl) rfl ?_
        exact hret _ _ _ _ _ _ _ _ rfl (by first | (have e9 := srO_hit (i := 170 - (kk + 1)) (r := d3 (ix (q2 kk)) + nI 1) (d' := d3) (q' := q3) (n' := n3) h1 h2 (hri.trans (by rw [show 72 - f = (72 - (f + 1)) + 1 by omega]; simp only [srI, (eq_true h1), (eq_false (Nat.not_lt.mpr h1)), not_true_eq_false, not_false_eq_true, and_true, true_and, and_false, false_and, or_true, true_or, or_false, false_or, and_self, or_self, if_true, if_false, Bool.false_eq_true, reduceIte])); rw [← show 170 - kk = (170 - (kk + 1)) + 1 by omega, ← hr] at e9; rw [e9]; exact ⟨rfl, rfl⟩) | (have e9 := srO_end (m := m9) (i := 170 - (kk + 1)) (k := kk) (n := n) (d := d2) (q := q2) (by omega); rw [← show 170 - kk = (170 - (kk + 1)) + 1 by omega, ← hr] at e9; rw [e9]; exact ⟨rfl, rfl⟩)) hP hS (by decide) (by decide) (dk kX3_search_1_ok 30 rfl)
      · skip
        refine lv_iload hx hb (dk kX3_search_0_ok 21 rfl) (lv_at hl 4 rfl) ?_
        refine lv_sipush (v := nI 169) hx hb (dk kX3_search_0_ok 22 rfl) rfl ?_
        refine n_icmp_ge (tgt := 161) hx hb (by omega) (by decide) (dk kX3_search_0_ok 23 rfl) (by decide) (fun h2 => ?_) (fun h2 => ?_)
        · skip
          refine lv_iconst (v := -1) hx hb (dk kX3_search_1_ok 29 rfl) rfl ?_
          exact hret _ _ _ _ _ _ _ _ rfl (by first | (have e9 := srO_hit (i := 170 - (kk + 1)) (r := d3 (ix (q2 kk)) + nI 1) (d' := d3) (q' := q3) (n' := n3) h1 h2 (hri.trans (by rw [show 72 - f = (72 - (f + 1)) + 1 by omega]; simp only [srI, (eq_true h1), (eq_false (Nat.not_le.mpr h1)), (eq_true h2), (eq_false (Nat.not_lt.mpr h2)), not_true_eq_false, not_false_eq_true, and_true, true_and, and_false, false_and, or_true, true_or, or_false, false_or, and_self, or_self, if_true, if_false, Bool.false_eq_true, reduceIte])); rw [← show 170 - kk = (170 - (kk + 1)) + 1 by omega, ← hr] at e9; rw [e9]; exact ⟨rfl, rfl⟩) | (have e9 := srO_end (m := m9) (i := 170 - (kk + 1)) (k := kk) (n := n) (d := d2) (q := q2) (by omega); rw [← show 170 - kk = (170 - (kk + 1)) + 1 by omega, ← hr] at e9; rw [e9]; exact ⟨rfl, rfl⟩)) hP hS (by decide) (by decide) (dk kX3_search_1_ok 30 rfl)
        · skip
          refine lv_aload_n hx hb (dk kX3_search_0_ok 24 rfl) rfl (lv_at hl 0 rfl) ?_
          refine gf hx hb hts (fun w h => List.mem_cons_of_mem _ (acX3 w h)) hown hK hP hk0 roSet_at.1 rfl 2 (by decide) (hts _ (List.mem_cons_of_mem _ (ac5 _ (List.mem_of_getElem? (i := 13) rfl)))) (fun _ h => h) rfl (dk kX3_search_0_ok 25 rfl) ?_
          refine lv_iload hx hb (dk kX3_search_0_ok 26 rfl) (lv_at hl 4 rfl) ?_
          refine ald (j := kk) hx hb hK hP hk3 roSet_at.2.2.2 rfl (by omega) (by decide) (dk kX3_search_0_ok 27 rfl) ?_
          refine lv_istore (lv' := [(5, .int (q2 kk)), (0, .ref (ad k)), (1, .int (nI w)), (2, .int (nI m9)), (3, .int (nI n)), (4, .int (nI kk))]) hx hb (dk kX3_search_0_ok 28 rfl) hl (by decide) rfl (fun ls hl => ?_)
          refine lv_iconst (v := nI 0) hx hb (dk kX3_search_0_ok 29 rfl) rfl ?_
          refine lv_istore (lv' := [(6, .int (nI 0)), (5, .int (q2 kk)), (0, .ref (ad k)), (1, .int (nI w)), (2, .int (nI m9)), (3, .int (nI n)), (4, .int (nI kk))]) hx hb (dk kX3_search_0_ok 30 rfl) hl (by decide) rfl (fun ls hl => ?_)
          have L53 : ∀ (fu : Nat) (f n3 : Nat) (d3 q3 : Nat → Int32) (H : Heap) (locs : List Loc), va_P D vwCl (iW ad N (roSet cI ad F k a d3 q3)) H → va_S (iA ad N s.heap.size) s.heap H locs → f ≤ 72 → n3 ≤ 169 → (∀ i, i < n3 → cell9 (q3 i)) → srI m9 (q2 kk) 72 0 d2 q2 n = srI m9 (q2 kk) (72 - f) f d3 q3 n3 → 72 - f < fu → ∀ ls : Array Slot, lv_has ls 8 [(0, .ref (ad k)), (1, .int (nI w)), (2, .int (nI m9)), (3, .int (nI n3)), (4, .int (nI kk)), (5, .int (q2 kk)), (6, .int (nI f))] → W p l e ({ frames := 2, cells := 0, slots := 0, locals := 49 } : Room) s m ([.ref (ad k), .int (nI w), .int (nI m9)] : List Value).toArray below meth cd H locs 0 0 Q (F0 m 53 ls []) := by
            intro fu
            induction fu with
            | zero => intros; omega
            | succ fu ih53 =>
              intro f n3 d3 q3 H locs hP hS hf hn3 hq3 hri hm53 ls hl
              have hc : cell9 (q2 kk) := hq2 kk h1
              refine lv_iload hx hb (dk kX3_search_0_ok 31 rfl) (lv_at hl 6 rfl) ?_
              refine lv_bipush (v := nI 72) hx hb (dk kX3_search_0_ok 32 rfl) rfl ?_
              refine n_icmp_ge (tgt := 155) hx hb (by omega) (by decide) (dk kX3_search_0_ok 33 rfl) (by decide) (fun h3 => ?_) (fun h3 => ?_)
              · skip
                refine lv_iinc (v := nI (kk + 1)) (lv' := [(4, .int (nI (kk + 1))), (0, .ref (ad k)), (1, .int (nI w)), (2, .int (nI m9)), (3, .int (nI n3)), (5, .int (q2 kk)), (6, .int (nI f))]) hx hb (dk kX3_search_1_ok 27 rfl) hl (k := 4) rfl (n_inc _) (by decide) rfl (fun ls hl => ?_)
                refine lv_goto (tgt := 27) hx hb (dk kX3_search_1_ok 28 rfl) (by decide) ?_
                exact ih27 (kk + 1) n3 d3 q3 _ _ hP hS (by omega) (by omega) (by exact hq3) (by rw [hr, show 170 - kk = (170 - (kk + 1)) + 1 by omega]; exact srO_miss h1 h2 (hri.trans (by rw [show 72 - f = 0 by omega]; rfl))) (by omega) ls (lv_sub hl [1, 2, 3, 4, 0] rfl)
              · skip
                refine lv_iload hx hb (dk kX3_search_0_ok 34 rfl) (lv_at hl 5 rfl) ?_
                refine lv_iload hx hb (dk kX3_search_0_ok 35 rfl) (lv_at hl 6 rfl) ?_
                refine lv_bipush (v := nI 9) hx hb (dk kX3_search_0_ok 36 rfl) rfl ?_
                refine n_idiv hx hb (by omega) (by decide) (by decide) (dk kX3_search_0_ok 37 rfl) ?_
                refine lv_iload hx hb (dk kX3_search_0_ok 38 rfl) (lv_at hl 6 rfl) ?_
                refine lv_bipush (v := nI 9) hx hb (dk kX3_search_0_ok 39 rfl) rfl ?_
                refine n_irem hx hb (by omega) (by decide) (by decide) (dk kX3_search_0_ok 40 rfl) ?_
                refine lv_iconst (v := nI 1) hx hb (dk kX3_search_0_ok 41 rfl) rfl ?_
                refine n_iadd hx hb (dk kX3_search_0_ok 42 rfl) ?_
                refine lv_iload_n hx hb (dk kX3_search_0_ok 43 rfl) rfl (lv_at hl 2 rfl) ?_
                refine n_iadd hx hb (dk kX3_search_0_ok 44 rfl) ?_
                refine csPN (As := [.int (q2 kk), .int (nI (f / 9)), .int (nI (((f % 9) + 1) + m9))]) (rest := []) ⟨hx, hb, hml, hown, hts⟩ (tX5_landing l (q2 kk) (nI (f / 9)) (nI (((f % 9) + 1) + m9)) (((f % 9) + 1) + m9) rfl (by omega)) (cwN9 3 hts mcX5_landing (nm8 hNW) mini_RX5 rfl rfl hdX5_landing ⟨Nat.le_of_ble_eq_true rfl, Nat.le_of_ble_eq_true rfl⟩) (hts _ (List.mem_cons_of_mem _ msX5_landing)) rfl hl.1 rfl (Nat.le_of_ble_eq_true rfl) (by decide) (dk kX3_search_0_ok 45 rfl) ?_
                refine lv_istore (lv' := [(7, .int (ldg (q2 kk) (nI (f / 9)) (((f % 9) + 1) + m9))), (0, .ref (ad k)), (1, .int (nI w)), (2, .int (nI m9)), (3, .int (nI n3)), (4, .int (nI kk)), (5, .int (q2 kk)), (6, .int (nI f))]) hx hb (dk kX3_search_0_ok 46 rfl) hl (by decide) rfl (fun ls hl => ?_)
                refine lv_iload hx hb (dk kX3_search_0_ok 47 rfl) (lv_at hl 0 rfl) ?_
                refine lv_bipush (v := nI 84) hx hb (dk kX3_search_0_ok 48 rfl) rfl ?_
                refine lv_icmp_ne (tgt := 98) hx hb (dk kX3_search_0_ok 49 rfl) (by decide) (fun h4 => ?_) (fun h4 => ?_)
                · skip
                  refine lv_iload hx hb (dk kX3_search_0_ok 57 rfl) (lv_at hl 0 rfl) ?_
                  refine lv_iconst (v := -1) hx hb (dk kX3_search_0_ok 58 rfl) rfl ?_
                  refine lv_icmp_eq (tgt := 149) hx hb (dk kX3_search_0_ok 59 rfl) (by decide) (fun h5 => ?_) (fun h5 => ?_)
                  · skip
                    refine lv_iinc (v := nI (f + 1)) (lv' := [(6, .int (nI (f + 1))), (7, .int (ldg (q2 kk) (nI (f / 9)) (((f % 9) + 1) + m9))), (0, .ref (ad k)), (1, .int (nI w)), (2, .int (nI m9)), (3, .int (nI n3)), (4, .int (nI kk)), (5, .int (q2 kk))]) hx hb (dk kX3_search_1_ok 25 rfl) hl (k := 7) rfl (n_inc _) (by decide) rfl (fun ls hl => ?_)
                    refine lv_goto (tgt := 53) hx hb (dk kX3_search_1_ok 26 rfl) (by decide) ?_
                    exact ih53 (f + 1) n3 d3 q3 _ _ hP hS (by omega) (by omega) (by first | exact hq3 | (intro i hi; unfold upd; split; exact (ldg_cell hc _ _).resolve_left (by assumption); exact hq3 i (by omega))) (by rw [hri, show 72 - f = (72 - (f + 1)) + 1 by omega]; simp only [srI, (eq_true h1), (eq_false (Nat.not_le.mpr h1)), (eq_true h2), (eq_false (Nat.not_le.mpr h2)), (eq_true h3), (eq_false (Nat.not_le.mpr h3)), (eq_false h4), (eq_true h5), not_true_eq_false, not_false_eq_true, and_true, true_and, and_false, false_and, or_true, true_or, or_false, false_or, and_self, or_self, if_true, if_false, Bool.false_eq_true, reduceIte]) (by omega) ls (lv_sub hl [2, 3, 4, 5, 6, 7, 0] rfl)
                  · skip
                    refine lv_aload_n hx hb (dk kX3_search_1_ok 0 rfl) rfl (lv_at hl 1 rfl) ?_
                    refine gf hx hb hts (fun w h => List.mem_cons_of_mem _ (acX3 w h)) hown hK hP hk0 roSet_at.1 rfl 1 (by decide) (hts _ (List.mem_cons_of_mem _ (ac5 _ (List.mem_of_getElem? (i := 12) rfl)))) (fun _ h => h) rfl (dk kX3_search_1_ok 1 rfl) ?_
                    refine lv_iload hx hb (dk kX3_search_1_ok 2 rfl) (lv_at hl 0 rfl) ?_
                    refine ald (j := (ix (ldg (q2 kk) (nI (f / 9)) (((f % 9) + 1) + m9)))) hx hb hK hP hk2 roSet_at.2.2.1 (cell9_ix ((ldg_cell hc _ _).resolve_left h5)).1 (cell9_ix ((ldg_cell hc _ _).resolve_left h5)).2 (by decide) (dk kX3_search_1_ok 3 rfl) ?_
                    refine lv_iconst (v := -1) hx hb (dk kX3_search_1_ok 4 rfl) rfl ?_
                    refine lv_icmp_ne (tgt := 149) hx hb (dk kX3_search_1_ok 5 rfl) (by decide) (fun h6 => ?_) (fun h6 => ?_)
                    · skip
                      refine lv_iinc (v := nI (f + 1)) (lv' := [(6, .int (nI (f + 1))), (7, .int (ldg (q2 kk) (nI (f / 9)) (((f % 9) + 1) + m9))), (0, .ref (ad k)), (1, .int (nI w)), (2, .int (nI m9)), (3, .int (nI n3)), (4, .int (nI kk)), (5, .int (q2 kk))]) hx hb (dk kX3_search_1_ok 25 rfl) hl (k := 7) rfl (n_inc _) (by decide) rfl (fun ls hl => ?_)
                      refine lv_goto (tgt := 53) hx hb (dk kX3_search_1_ok 26 rfl) (by decide) ?_
                      exact ih53 (f + 1) n3 d3 q3 _ _ hP hS (by omega) (by omega) (by first | exact hq3 | (intro i hi; unfold upd; split; exact (ldg_cell hc _ _).resolve_left (by assumption); exact hq3 i (by omega))) (by rw [hri, show 72 - f = (72 - (f + 1)) + 1 by omega]; simp only [srI, (eq_true h1), (eq_false (Nat.not_le.mpr h1)), (eq_true h2), (eq_false (Nat.not_le.mpr h2)), (eq_true h3), (eq_false (Nat.not_le.mpr h3)), (eq_false h4), (eq_false h5), (eq_false h6), not_true_eq_false, not_false_eq_true, and_true, true_and, and_false, false_and, or_true, true_or, or_false, false_or, and_self, or_self, if_true, if_false, Bool.false_eq_true, reduceIte]) (by omega) ls (lv_sub hl [2, 3, 4, 5, 6, 7, 0] rfl)
                    · skip
                      refine lv_iload_n hx hb (dk kX3_search_1_ok 6 rfl) rfl (lv_at hl 4 rfl) ?_
                      refine lv_sipush (v := nI 169) hx hb (dk kX3_search_1_ok 7 rfl) rfl ?_
                      refine n_icmp_ge (tgt := 149) hx hb (by omega) (by decide) (dk kX3_search_1_ok 8 rfl) (by decide) (fun h7 => ?_) (fun h7 => ?_)
                      · skip
                        refine lv_iinc (v := nI (f + 1)) (lv' := [(6, .int (nI (f + 1))), (7, .int (ldg (q2 kk) (nI (f / 9)) (((f % 9) + 1) + m9))), (0, .ref (ad k)), (1, .int (nI w)), (2, .int (nI m9)), (3, .int (nI n3)), (4, .int (nI kk)), (5, .int (q2 kk))]) hx hb (dk kX3_search_1_ok 25 rfl) hl (k := 7) rfl (n_inc _) (by decide) rfl (fun ls hl => ?_)
                        refine lv_goto (tgt := 53) hx hb (dk kX3_search_1_ok 26 rfl) (by decide) ?_
                        exact ih53 (f + 1) n3 d3 q3 _ _ hP hS (by omega) (by omega) (by first | exact hq3 | (intro i hi; unfold upd; split; exact (ldg_cell hc _ _).resolve_left (by assumption); exact hq3 i (by omega))) (by rw [hri, show 72 - f = (72 - (f + 1)) + 1 by omega]; simp only [srI, (eq_true h1), (eq_false (Nat.not_le.mpr h1)), (eq_true h2), (eq_false (Nat.not_le.mpr h2)), (eq_true h3), (eq_false (Nat.not_le.mpr h3)), (eq_false h4), (eq_false h5), (eq_true h6), (eq_true h7), (eq_false (Nat.not_lt.mpr h7)), not_true_eq_false, not_false_eq_true, and_true, true_and, and_false, false_and, or_true, true_or, or_false, false_or, and_self, or_self, if_true, if_false, Bool.false_eq_true, reduceIte]) (by omega) ls (lv_sub hl [2, 3, 4, 5, 6, 7, 0] rfl)
                      · skip
                        refine lv_aload_n hx hb (dk kX3_search_1_ok 9 rfl) rfl (lv_at hl 1 rfl) ?_
                        refine gf hx hb hts (fun w h => List.mem_cons_of_mem _ (acX3 w h)) hown hK hP hk0 roSet_at.1 rfl 1 (by decide) (hts _ (List.mem_cons_of_mem _ (ac5 _ (List.mem_of_getElem? (i := 12) rfl)))) (fun _ h => h) rfl (dk kX3_search_1_ok 10 rfl) ?_
                        refine lv_iload hx hb (dk kX3_search_1_ok 11 rfl) (lv_at hl 0 rfl) ?_
                        refine lv_aload_n hx hb (dk kX3_search_1_ok 12 rfl) rfl (lv_at hl 1 rfl) ?_
                        refine gf hx hb hts (fun w h => List.mem_cons_of_mem _ (acX3 w h)) hown hK hP hk0 roSet_at.1 rfl 1 (by decide) (hts _ (List.mem_cons_of_mem _ (ac5 _ (List.mem_of_getElem? (i := 12) rfl)))) (fun _ h => h) rfl (dk kX3_search_1_ok 13 rfl) ?_
                        refine lv_iload hx hb (dk kX3_search_1_ok 14 rfl) (lv_at hl 6 rfl) ?_
                        refine ald (j := (ix (q2 kk))) hx hb hK hP hk2 roSet_at.2.2.1 (cell9_ix hc).1 (cell9_ix hc).2 (by decide) (dk kX3_search_1_ok 15 rfl) ?_
                        refine lv_iconst (v := nI 1) hx hb (dk kX3_search_1_ok 16 rfl) rfl ?_
                        refine lv_iadd hx hb (dk kX3_search_1_ok 17 rfl) ?_
                        refine ast (roSet cI ad F k a (upd d3 (ix (ldg (q2 kk) (nI (f / 9)) (((f % 9) + 1) + m9))) ((d3 (ix (q2 kk))) + (nI 1))) q3) (j := (ix (ldg (q2 kk) (nI (f / 9)) (((f % 9) + 1) + m9)))) hx hb hK hDi hP hS hk2 roSet_at.2.2.1 (cell9_ix ((ldg_cell hc _ _).resolve_left h5)).1 (cell9_ix ((ldg_cell hc _ _).resolve_left h5)).2 (by decide) (dk kX3_search_1_ok 18 rfl) roSet_u2 (fun H locs hP hS => ?_)
                        refine lv_aload_n hx hb (dk kX3_search_1_ok 19 rfl) rfl (lv_at hl 1 rfl) ?_
                        refine gf hx hb hts (fun w h => List.mem_cons_of_mem _ (acX3 w h)) hown hK hP hk0 roSet_at.1 rfl 2 (by decide) (hts _ (List.mem_cons_of_mem _ (ac5 _ (List.mem_of_getElem? (i := 13) rfl)))) (fun _ h => h) rfl (dk kX3_search_1_ok 20 rfl) ?_
                        refine lv_iload_n hx hb (dk kX3_search_1_ok 21 rfl) rfl (lv_at hl 4 rfl) ?_
                        refine lv_iload hx hb (dk kX3_search_1_ok 22 rfl) (lv_at hl 0 rfl) ?_
                        refine ast (roSet cI ad F k a (upd d3 (ix (ldg (q2 kk) (nI (f / 9)) (((f % 9) + 1) + m9))) ((d3 (ix (q2 kk))) + (nI 1))) (upd q3 n3 (ldg (q2 kk) (nI (f / 9)) (((f % 9) + 1) + m9)))) (j := n3) hx hb hK hDi hP hS hk3 roSet_at.2.2.2 rfl (by omega) (by decide) (dk kX3_search_1_ok 23 rfl) roSet_u3 (fun H locs hP hS => ?_)
                        refine lv_iinc (v := nI (n3 + 1)) (lv' := [(3, .int (nI (n3 + 1))), (7, .int (ldg (q2 kk) (nI (f / 9)) (((f % 9) + 1) + m9))), (0, .ref (ad k)), (1, .int (nI w)), (2, .int (nI m9)), (4, .int (nI kk)), (5, .int (q2 kk)), (6, .int (nI f))]) hx hb (dk kX3_search_1_ok 24 rfl) hl (k := 4) rfl (n_inc _) (by decide) rfl (fun ls hl => ?_)
                        refine lv_iinc (v := nI (f + 1)) (lv' := [(6, .int (nI (f + 1))), (3, .int (nI (n3 + 1))), (7, .int (ldg (q2 kk) (nI (f / 9)) (((f % 9) + 1) + m9))), (0, .ref (ad k)), (1, .int (nI w)), (2, .int (nI m9)), (4, .int (nI kk)), (5, .int (q2 kk))]) hx hb (dk kX3_search_1_ok 25 rfl) hl (k := 7) rfl (n_inc _) (by decide) rfl (fun ls hl => ?_)
                        refine lv_goto (tgt := 53) hx hb (dk kX3_search_1_ok 26 rfl) (by decide) ?_
                        exact ih53 (f + 1) (n3 + 1) (upd d3 (ix (ldg (q2 kk) (nI (f / 9)) (((f % 9) + 1) + m9))) ((d3 (ix (q2 kk))) + (nI 1))) (upd q3 n3 (ldg (q2 kk) (nI (f / 9)) (((f % 9) + 1) + m9))) _ _ hP hS (by omega) (by omega) (by first | exact hq3 | (intro i hi; unfold upd; split; exact (ldg_cell hc _ _).resolve_left (by assumption); exact hq3 i (by omega))) (by rw [hri, show 72 - f = (72 - (f + 1)) + 1 by omega]; simp only [srI, (eq_true h1), (eq_false (Nat.not_le.mpr h1)), (eq_true h2), (eq_false (Nat.not_le.mpr h2)), (eq_true h3), (eq_false (Nat.not_le.mpr h3)), (eq_false h4), (eq_false h5), (eq_true h6), (eq_true h7), (eq_false (Nat.not_le.mpr h7)), not_true_eq_false, not_false_eq_true, and_true, true_and, and_false, false_and, or_true, true_or, or_false, false_or, and_self, or_self, if_true, if_false, Bool.false_eq_true, reduceIte]) (by omega) ls (lv_sub hl [3, 4, 5, 1, 6, 7, 0] rfl)
                · skip
                  refine lv_aload_n hx hb (dk kX3_search_0_ok 50 rfl) rfl (lv_at hl 1 rfl) ?_
                  refine gf hx hb hts (fun w h => List.mem_cons_of_mem _ (acX3 w h)) hown hK hP hk0 roSet_at.1 rfl 1 (by decide) (hts _ (List.mem_cons_of_mem _ (ac5 _ (List.mem_of_getElem? (i := 12) rfl)))) (fun _ h => h) rfl (dk kX3_search_0_ok 51 rfl) ?_
                  refine lv_iload hx hb (dk kX3_search_0_ok 52 rfl) (lv_at hl 6 rfl) ?_
                  refine ald (j := (ix (q2 kk))) hx hb hK hP hk2 roSet_at.2.2.1 (cell9_ix hc).1 (cell9_ix hc).2 (by decide) (dk kX3_search_0_ok 53 rfl) ?_
                  refine lv_iconst (v := nI 1) hx hb (dk kX3_search_0_ok 54 rfl) rfl ?_
                  refine lv_iadd hx hb (dk kX3_search_0_ok 55 rfl) ?_
                  exact hret _ _ _ _ _ _ _ _ rfl (by first | (have e9 := srO_hit (i := 170 - (kk + 1)) (r := d3 (ix (q2 kk)) + nI 1) (d' := d3) (q' := q3) (n' := n3) h1 h2 (hri.trans (by rw [show 72 - f = (72 - (f + 1)) + 1 by omega]; simp only [srI, (eq_true h1), (eq_false (Nat.not_le.mpr h1)), (eq_true h2), (eq_false (Nat.not_le.mpr h2)), (eq_true h3), (eq_false (Nat.not_le.mpr h3)), (eq_true h4), not_true_eq_false, not_false_eq_true, and_true, true_and, and_false, false_and, or_true, true_or, or_false, false_or, and_self, or_self, if_true, if_false, Bool.false_eq_true, reduceIte])); rw [← show 170 - kk = (170 - (kk + 1)) + 1 by omega, ← hr] at e9; rw [e9]; exact ⟨rfl, rfl⟩) | (have e9 := srO_end (m := m9) (i := 170 - (kk + 1)) (k := kk) (n := n) (d := d2) (q := q2) (by omega); rw [← show 170 - kk = (170 - (kk + 1)) + 1 by omega, ← hr] at e9; rw [e9]; exact ⟨rfl, rfl⟩)) hP hS (by decide) (by decide) (dk kX3_search_0_ok 56 rfl)
          exact L53 _ 0 n d2 q2 _ _ hP hS (by omega) (by omega) (by exact hq2) (by rfl) (Nat.lt_succ_self _) ls (lv_sub hl [2, 3, 4, 5, 6, 1, 0] rfl)
  exact L27 _ 0 1 (srD w) (upd q 0 (nI w)) _ _ hP hS (by omega) (by omega) (by intro i hi; rw [show i = 0 by omega]; exact ⟨w, hw, by simp [upd]⟩) (by rfl) (Nat.lt_succ_self _) ls (lv_sub hl [2, 3, 4, 1, 0] rfl)
