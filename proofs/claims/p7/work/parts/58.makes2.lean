theorem w2F_own {cI cQ : ClassId} {b0 : Nat} {F : Nat → va_E} {k : Nat} {e : va_E} : w2F cI cQ b0 (va_up F k e) k = w2F cI cQ b0 F k := by rw [w2F, w2F, w2R_own]
theorem w2F_up {cI cQ : ClassId} {b0 : Nat} {A : Nat → va_E} {k n : Nat} {e0 e1 : va_E} (h : k < n) : va_up (w2F cI cQ b0 (va_up A k e0) n) k e1 = va_up (w2F cI cQ b0 A n) k e1 := by
  rw [w2F, w2F, up_sw (k := k) (n := n + 1) (by omega), up_sw (k := k) (n := n + 1) (by omega), w2R_up h]
theorem w2F_at {cI cQ : ClassId} {b0 : Nat} {A : Nat → va_E} {k n : Nat} (h : k < n ∨ n + 49 < k) : w2F cI cQ b0 A n k = A k := by
  rw [w2F, va_up_ne _ _ (by omega), w2R_at 6 (by omega)]
def w5A (cI cQ : ClassId) (b0 : Nat) (F : Nat → va_E) : Nat → va_E := w3N cI b0 (w1N cI b0 (w0N cI b0 (w2F cI cQ b0 (w4N cI b0 (w4N cI b0 F 1) 9) 17) 67) 69) 73
def w5N (cI cQ : ClassId) (b0 : Nat) (F : Nat → va_E) : Nat → va_E := va_up (w5A cI cQ b0 F) 0 (.inr (5, [.ref (pb b0 1), .ref (pb b0 9), .ref (pb b0 17), .ref (pb b0 67), .ref (pb b0 69), .ref (pb b0 73), .int (bI false)]))
/-- the reference's row as it is made -/
def rI (i i2 : Nat) : Nat → Int32 := fun j => if j < i then nI (bs (j / 4)) else if 16 ≤ j ∧ j < 16 + i2 then nI ((j - 16) % 4) else 0
theorem rI_c {i : Nat} (hi : i < 16) : upd (rI i i) (0 + i) (nI (bs (i / 4))) = rI (i + 1) i := by
  funext j
  unfold upd rI
  by_cases h : j = 0 + i
  · rw [if_pos h, if_pos (show j < i + 1 by omega), show j = i by omega]
  · rw [if_neg h]
    by_cases h2 : j < i
    · rw [if_pos h2, if_pos (show j < i + 1 by omega)]
    · rw [if_neg h2, if_neg (show ¬ j < i + 1 by omega)]
theorem rI_p {i : Nat} (hi : i < 16) : upd (rI (i + 1) i) (16 + i) (nI (i % 4)) = rI (i + 1) (i + 1) := by
  funext j
  unfold upd rI
  by_cases h : j = 16 + i
  · rw [if_pos h, if_neg (show ¬ j < i + 1 by omega), if_pos (show 16 ≤ j ∧ j < 16 + (i + 1) by omega), show j - 16 = i by omega]
  · rw [if_neg h]
    by_cases h2 : j < i + 1
    · rw [if_pos h2, if_pos h2]
    · rw [if_neg h2, if_neg h2]
      by_cases h3 : 16 ≤ j ∧ j < 16 + i
      · rw [if_pos h3, if_pos (show 16 ≤ j ∧ j < 16 + (i + 1) by omega)]
      · rw [if_neg h3, if_neg (show ¬ (16 ≤ j ∧ j < 16 + (i + 1)) by omega)]
theorem rI_0 : rI 0 0 = fun _ => 0 := by
  funext j
  unfold rI
  rw [if_neg (by omega), if_neg (by omega)]
def z0 : Nat → Int32 := fun _ => 0
def row0 : Nat → Int32 := upd (rI 16 16) 57 (nI 3)
def w6W (cI : ClassId) (b0 : Nat) (F : Nat → va_E) (k : Nat) (r : Nat → Int32) : Nat → va_E := rfSet cI (pb b0) F k r z0 z0 z0 z0 z0 z0 false 0 0 0 (nI 0)
set_option maxRecDepth 100000 in
set_option maxHeartbeats 4000000 in
theorem tX5_init (l : Launch) (D : va_G) (cI cQ cL : ClassId) (b0 : Nat) (F : Nat → va_E) (hF : F 0 = .inr (5, [.null, .null, .null, .null, .null, .null, .int (bI false)])) : MK l yX5_init (Cond.code yX5_init cX5_init 1 none :: AW) ({ frames := 5, cells := 76, slots := 1457, locals := 104 } : Room) D cI cQ cL b0 (0 + 1) F (0) (77) (w5N cI cQ b0 F) 76 1457 := by
  refine mk_v (by decide +kernel) rfl (Nat.le_of_ble_eq_true rfl) rfl (fun p e s m below meth cd Q ls hx hb hml hown hts hin hsz hAO hP hK hNW hS hret hl => ?_)
  have hown : s.vm.findClass RX5 = some m.cls := hown
  have hb0 : b0 ≤ s.heap.size := by omega
  refine lv_aload_n hx hb (dk kX5_init_ok 0 rfl) rfl (lv_at hl 0 rfl) ?_
  refine W.objInit hx hb hown (hts _ (List.mem_cons_of_mem _ (ac7 _ (List.mem_of_getElem? (i := 19) rfl)))) (hts _ (List.mem_cons_of_mem _ (ac0 _ (List.mem_of_getElem? (i := 1) rfl)))) (hts _ (List.mem_cons_of_mem _ (ac0 _ (List.mem_of_getElem? (i := 2) rfl)))) rfl (by rw [hml]; exact hl.1) rfl (dk kX5_init_ok 1 rfl) (Nat.le_of_ble_eq_true rfl) (Nat.le_of_ble_eq_true rfl) ?_
  refine W.eq (g2 := F0 m 4 ls []) rfl ?_
  refine lv_aload_n hx hb (dk kX5_init_ok 2 rfl) rfl (lv_at hl 0 rfl) ?_
  refine nwO (ci := 4) hx hb hts (fun w h => List.mem_cons_of_mem _ (acX4 w h)) tyX4 tyX4_ok hown (hts _ (List.mem_cons_of_mem _ (ac7 _ (List.mem_of_getElem? (i := 20) rfl)))) (hts _ (List.mem_cons_of_mem _ (ac4 _ (List.mem_of_getElem? (i := 18) rfl)))) (hts _ (List.mem_cons_of_mem _ (ac4 _ (List.mem_of_getElem? (i := 19) rfl)))) hK hP hS hb0 (by omega) rfl ([.null, .null, .null, .null, .int (nI 0), .int (nI 0), .int (nI 0)]) (fun j hj => dv4 j hj) (Nat.le_of_ble_eq_true rfl) (Nat.le_of_ble_eq_true rfl) (dk kX5_init_ok 3 rfl) (fun H hP hS => ?_)
  refine lv_dup hx hb (dk kX5_init_ok 4 rfl) rfl ?_
  have hP : va_P D vwCl (iW (pb b0) (2) (va_up (F) 1 (.inr (4, [.null, .null, .null, .null, .int (nI 0), .int (nI 0), .int (nI 0)])))) H := hP
  refine cvKN ⟨hx, hb, hml, hown, hts⟩ (tX4_init l D cI cQ cL b0 _ 1 (va_up_self _ _ _)) (cwIN9 hts mcX4_init (nm0 hNW) miX4_init mini_RX4 rfl rfl rfl hdX4_init ⟨Nat.le_of_ble_eq_true rfl, Nat.le_of_ble_eq_true rfl⟩) hAO hK hP hNW hS (by omega) (by omega) hl.1 rfl (Nat.le_of_ble_eq_true rfl) ⟨Nat.le_of_ble_eq_true rfl, Nat.le_of_ble_eq_true rfl⟩ (dk kX5_init_ok 5 rfl) (fun H locs hP hS => ?_)
  rw [w4N_own] at hP
  have hP : va_P D vwCl (iW (pb b0) (9) (w4N cI b0 (F) 1)) H := hP
  refine pfF (va_up (w4N cI b0 (F) 1) 0 (.inr (5, [.ref (pb b0 1), .null, .null, .null, .null, .null, .int (bI false)]))) (ty := .object "SquopPiles$State") hx hb hts (fun w h => List.mem_cons_of_mem _ (acX5 w h)) tyX5 tyX5_ok nmX5 hown hK hP hS (k := 0) (by omega) (by rw [w4N_at (k := 0) (n := 1) (Or.inl (by decide))]; exact hF) rfl 0 (by decide) (hts _ (List.mem_cons_of_mem _ (ac7 _ (List.mem_of_getElem? (i := 21) rfl)))) (fun _ h => h) rfl hin rfl (by decide +kernel) rfl rfl (Nat.le_of_ble_eq_true rfl) (dk kX5_init_ok 6 rfl) (rfl) (fun H locs hP hS => ?_)
  refine lv_aload_n hx hb (dk kX5_init_ok 7 rfl) rfl (lv_at hl 0 rfl) ?_
  refine nwO (ci := 4) hx hb hts (fun w h => List.mem_cons_of_mem _ (acX4 w h)) tyX4 tyX4_ok hown (hts _ (List.mem_cons_of_mem _ (ac7 _ (List.mem_of_getElem? (i := 20) rfl)))) (hts _ (List.mem_cons_of_mem _ (ac4 _ (List.mem_of_getElem? (i := 18) rfl)))) (hts _ (List.mem_cons_of_mem _ (ac4 _ (List.mem_of_getElem? (i := 19) rfl)))) hK hP hS hb0 (by omega) rfl ([.null, .null, .null, .null, .int (nI 0), .int (nI 0), .int (nI 0)]) (fun j hj => dv4 j hj) (Nat.le_of_ble_eq_true rfl) (Nat.le_of_ble_eq_true rfl) (dk kX5_init_ok 8 rfl) (fun H hP hS => ?_)
  refine lv_dup hx hb (dk kX5_init_ok 9 rfl) rfl ?_
  have hP : va_P D vwCl (iW (pb b0) (10) (va_up (va_up (w4N cI b0 (F) 1) 0 (.inr (5, [.ref (pb b0 1), .null, .null, .null, .null, .null, .int (bI false)]))) 9 (.inr (4, [.null, .null, .null, .null, .int (nI 0), .int (nI 0), .int (nI 0)])))) H := hP
  refine cvKN ⟨hx, hb, hml, hown, hts⟩ (tX4_init l D cI cQ cL b0 _ 9 (va_up_self _ _ _)) (cwIN9 hts mcX4_init (nm0 hNW) miX4_init mini_RX4 rfl rfl rfl hdX4_init ⟨Nat.le_of_ble_eq_true rfl, Nat.le_of_ble_eq_true rfl⟩) hAO hK hP hNW hS (by omega) (by omega) hl.1 rfl (Nat.le_of_ble_eq_true rfl) ⟨Nat.le_of_ble_eq_true rfl, Nat.le_of_ble_eq_true rfl⟩ (dk kX5_init_ok 10 rfl) (fun H locs hP hS => ?_)
  rw [w4N_own] at hP
  have hP : va_P D vwCl (iW (pb b0) (17) (w4N cI b0 (va_up (w4N cI b0 (F) 1) 0 (.inr (5, [.ref (pb b0 1), .null, .null, .null, .null, .null, .int (bI false)]))) 9)) H := hP
  refine pfF (va_up (w4N cI b0 (w4N cI b0 (F) 1) 9) 0 (.inr (5, [.ref (pb b0 1), .ref (pb b0 9), .null, .null, .null, .null, .int (bI false)]))) (ty := .object "SquopPiles$State") hx hb hts (fun w h => List.mem_cons_of_mem _ (acX5 w h)) tyX5 tyX5_ok nmX5 hown hK hP hS (k := 0) (by omega) (by rw [w4N_at (k := 0) (n := 9) (Or.inl (by decide))]; exact va_up_self _ _ _) rfl 1 (by decide) (hts _ (List.mem_cons_of_mem _ (ac7 _ (List.mem_of_getElem? (i := 22) rfl)))) (fun _ h => h) rfl hin rfl (by decide +kernel) rfl rfl (Nat.le_of_ble_eq_true rfl) (dk kX5_init_ok 11 rfl) (w4N_up (k := 0) (n := 9) (by decide)) (fun H locs hP hS => ?_)
  refine lv_aload_n hx hb (dk kX5_init_ok 12 rfl) rfl (lv_at hl 0 rfl) ?_
  refine nwO (ci := 2) hx hb hts (fun w h => List.mem_cons_of_mem _ (acX2 w h)) tyX2 tyX2_ok hown (hts _ (List.mem_cons_of_mem _ (ac7 _ (List.mem_of_getElem? (i := 23) rfl)))) (hts _ (List.mem_cons_of_mem _ (ac8 _ (List.mem_of_getElem? (i := 0) rfl)))) (hts _ (List.mem_cons_of_mem _ (ac8 _ (List.mem_of_getElem? (i := 1) rfl)))) hK hP hS hb0 (by omega) rfl ([.null, .int (nI 0), .int (nI 0)]) (fun j hj => dv2 j hj) (Nat.le_of_ble_eq_true rfl) (Nat.le_of_ble_eq_true rfl) (dk kX5_init_ok 13 rfl) (fun H hP hS => ?_)
  refine lv_dup hx hb (dk kX5_init_ok 14 rfl) rfl ?_
  have hP : va_P D vwCl (iW (pb b0) (18) (va_up (va_up (w4N cI b0 (w4N cI b0 (F) 1) 9) 0 (.inr (5, [.ref (pb b0 1), .ref (pb b0 9), .null, .null, .null, .null, .int (bI false)]))) 17 (.inr (2, [.null, .int (nI 0), .int (nI 0)])))) H := hP
  refine cvK ⟨hx, hb, hml, hown, hts⟩ (tX2_init l D cI cQ cL b0 _ 17 (va_up_self _ _ _)) (cwI9 hts mcX2_init (ac8 _ (List.mem_of_getElem? (i := 12) rfl)) miX2_init mini_RX2 rfl rfl rfl hdX2_init ⟨Nat.le_of_ble_eq_true rfl, Nat.le_of_ble_eq_true rfl⟩) hAO hK hP hNW hS (by omega) (by omega) hl.1 rfl (Nat.le_of_ble_eq_true rfl) ⟨Nat.le_of_ble_eq_true rfl, Nat.le_of_ble_eq_true rfl⟩ (dk kX5_init_ok 15 rfl) (fun H locs hP hS => ?_)
  rw [w2F_own] at hP
  have hP : va_P D vwCl (iW (pb b0) (67) (w2F cI cQ b0 (va_up (w4N cI b0 (w4N cI b0 (F) 1) 9) 0 (.inr (5, [.ref (pb b0 1), .ref (pb b0 9), .null, .null, .null, .null, .int (bI false)]))) 17)) H := hP
  refine pfF (va_up (w2F cI cQ b0 (w4N cI b0 (w4N cI b0 (F) 1) 9) 17) 0 (.inr (5, [.ref (pb b0 1), .ref (pb b0 9), .ref (pb b0 17), .null, .null, .null, .int (bI false)]))) (ty := .object "SquopPiles$Past") hx hb hts (fun w h => List.mem_cons_of_mem _ (acX5 w h)) tyX5 tyX5_ok nmX5 hown hK hP hS (k := 0) (by omega) (by rw [w2F_at (k := 0) (n := 17) (Or.inl (by decide))]; exact va_up_self _ _ _) rfl 2 (by decide) (hts _ (List.mem_cons_of_mem _ (ac8 _ (List.mem_of_getElem? (i := 2) rfl)))) (fun _ h => h) rfl hin rfl (by decide +kernel) rfl rfl (Nat.le_of_ble_eq_true rfl) (dk kX5_init_ok 16 rfl) (w2F_up (k := 0) (n := 17) (by decide)) (fun H locs hP hS => ?_)
  refine lv_aload_n hx hb (dk kX5_init_ok 17 rfl) rfl (lv_at hl 0 rfl) ?_
  refine nwO (ci := 0) hx hb hts (fun w h => List.mem_cons_of_mem _ (acX0 w h)) tyX0 tyX0_ok hown (hts _ (List.mem_cons_of_mem _ (ac8 _ (List.mem_of_getElem? (i := 3) rfl)))) (hts _ (List.mem_cons_of_mem _ (ac8 _ (List.mem_of_getElem? (i := 4) rfl)))) (hts _ (List.mem_cons_of_mem _ (ac0 _ (List.mem_of_getElem? (i := 8) rfl)))) hK hP hS hb0 (by omega) rfl ([.null, .int (nI 0)]) (fun j hj => dv0 j hj) (Nat.le_of_ble_eq_true rfl) (Nat.le_of_ble_eq_true rfl) (dk kX5_init_ok 18 rfl) (fun H hP hS => ?_)
  refine lv_dup hx hb (dk kX5_init_ok 19 rfl) rfl ?_
  have hP : va_P D vwCl (iW (pb b0) (68) (va_up (va_up (w2F cI cQ b0 (w4N cI b0 (w4N cI b0 (F) 1) 9) 17) 0 (.inr (5, [.ref (pb b0 1), .ref (pb b0 9), .ref (pb b0 17), .null, .null, .null, .int (bI false)]))) 67 (.inr (0, [.null, .int (nI 0)])))) H := hP
  refine cvKN ⟨hx, hb, hml, hown, hts⟩ (tX0_init l D cI cQ cL b0 _ 67 (va_up_self _ _ _)) (cwIN9 hts mcX0_init (nm4 hNW) miX0_init mini_RX0 rfl rfl rfl hdX0_init ⟨Nat.le_of_ble_eq_true rfl, Nat.le_of_ble_eq_true rfl⟩) hAO hK hP hNW hS (by omega) (by omega) hl.1 rfl (Nat.le_of_ble_eq_true rfl) ⟨Nat.le_of_ble_eq_true rfl, Nat.le_of_ble_eq_true rfl⟩ (dk kX5_init_ok 20 rfl) (fun H locs hP hS => ?_)
  rw [w0N_own] at hP
  have hP : va_P D vwCl (iW (pb b0) (69) (w0N cI b0 (va_up (w2F cI cQ b0 (w4N cI b0 (w4N cI b0 (F) 1) 9) 17) 0 (.inr (5, [.ref (pb b0 1), .ref (pb b0 9), .ref (pb b0 17), .null, .null, .null, .int (bI false)]))) 67)) H := hP
  refine pfF (va_up (w0N cI b0 (w2F cI cQ b0 (w4N cI b0 (w4N cI b0 (F) 1) 9) 17) 67) 0 (.inr (5, [.ref (pb b0 1), .ref (pb b0 9), .ref (pb b0 17), .ref (pb b0 67), .null, .null, .int (bI false)]))) (ty := .object "SquopPiles$GameText") hx hb hts (fun w h => List.mem_cons_of_mem _ (acX5 w h)) tyX5 tyX5_ok nmX5 hown hK hP hS (k := 0) (by omega) (by rw [w0N_at (k := 0) (n := 67) (Or.inl (by decide))]; exact va_up_self _ _ _) rfl 3 (by decide) (hts _ (List.mem_cons_of_mem _ (ac8 _ (List.mem_of_getElem? (i := 5) rfl)))) (fun _ h => h) rfl hin rfl (by decide +kernel) rfl rfl (Nat.le_of_ble_eq_true rfl) (dk kX5_init_ok 21 rfl) (w0N_up (k := 0) (n := 67) (by decide)) (fun H locs hP hS => ?_)
  refine lv_aload_n hx hb (dk kX5_init_ok 22 rfl) rfl (lv_at hl 0 rfl) ?_
  refine nwO (ci := 1) hx hb hts (fun w h => List.mem_cons_of_mem _ (acX1 w h)) tyX1 tyX1_ok hown (hts _ (List.mem_cons_of_mem _ (ac8 _ (List.mem_of_getElem? (i := 6) rfl)))) (hts _ (List.mem_cons_of_mem _ (ac4 _ (List.mem_of_getElem? (i := 2) rfl)))) (hts _ (List.mem_cons_of_mem _ (ac1 _ (List.mem_of_getElem? (i := 14) rfl)))) hK hP hS hb0 (by omega) rfl ([.null, .null, .null]) (fun j hj => dv1 j hj) (Nat.le_of_ble_eq_true rfl) (Nat.le_of_ble_eq_true rfl) (dk kX5_init_ok 23 rfl) (fun H hP hS => ?_)
  refine lv_dup hx hb (dk kX5_init_ok 24 rfl) rfl ?_
  have hP : va_P D vwCl (iW (pb b0) (70) (va_up (va_up (w0N cI b0 (w2F cI cQ b0 (w4N cI b0 (w4N cI b0 (F) 1) 9) 17) 67) 0 (.inr (5, [.ref (pb b0 1), .ref (pb b0 9), .ref (pb b0 17), .ref (pb b0 67), .null, .null, .int (bI false)]))) 69 (.inr (1, [.null, .null, .null])))) H := hP
  refine cvK ⟨hx, hb, hml, hown, hts⟩ (tX1_init l D cI cQ cL b0 _ 69 (va_up_self _ _ _)) (cwI9 hts mcX1_init (ac8 _ (List.mem_of_getElem? (i := 17) rfl)) miX1_init mini_RX1 rfl rfl rfl hdX1_init ⟨Nat.le_of_ble_eq_true rfl, Nat.le_of_ble_eq_true rfl⟩) hAO hK hP hNW hS (by omega) (by omega) hl.1 rfl (Nat.le_of_ble_eq_true rfl) ⟨Nat.le_of_ble_eq_true rfl, Nat.le_of_ble_eq_true rfl⟩ (dk kX5_init_ok 25 rfl) (fun H locs hP hS => ?_)
  rw [w1N_own] at hP
  have hP : va_P D vwCl (iW (pb b0) (73) (w1N cI b0 (va_up (w0N cI b0 (w2F cI cQ b0 (w4N cI b0 (w4N cI b0 (F) 1) 9) 17) 67) 0 (.inr (5, [.ref (pb b0 1), .ref (pb b0 9), .ref (pb b0 17), .ref (pb b0 67), .null, .null, .int (bI false)]))) 69)) H := hP
  refine pfF (va_up (w1N cI b0 (w0N cI b0 (w2F cI cQ b0 (w4N cI b0 (w4N cI b0 (F) 1) 9) 17) 67) 69) 0 (.inr (5, [.ref (pb b0 1), .ref (pb b0 9), .ref (pb b0 17), .ref (pb b0 67), .ref (pb b0 69), .null, .int (bI false)]))) (ty := .object "SquopPiles$Mat") hx hb hts (fun w h => List.mem_cons_of_mem _ (acX5 w h)) tyX5 tyX5_ok nmX5 hown hK hP hS (k := 0) (by omega) (by rw [w1N_at (k := 0) (n := 69) (Or.inl (by decide))]; exact va_up_self _ _ _) rfl 4 (by decide) (hts _ (List.mem_cons_of_mem _ (ac8 _ (List.mem_of_getElem? (i := 7) rfl)))) (fun _ h => h) rfl hin rfl (by decide +kernel) rfl rfl (Nat.le_of_ble_eq_true rfl) (dk kX5_init_ok 26 rfl) (w1N_up (k := 0) (n := 69) (by decide)) (fun H locs hP hS => ?_)
  refine lv_aload_n hx hb (dk kX5_init_ok 27 rfl) rfl (lv_at hl 0 rfl) ?_
  refine nwO (ci := 3) hx hb hts (fun w h => List.mem_cons_of_mem _ (acX3 w h)) tyX3 tyX3_ok hown (hts _ (List.mem_cons_of_mem _ (ac8 _ (List.mem_of_getElem? (i := 8) rfl)))) (hts _ (List.mem_cons_of_mem _ (ac8 _ (List.mem_of_getElem? (i := 9) rfl)))) (hts _ (List.mem_cons_of_mem _ (ac6 _ (List.mem_of_getElem? (i := 8) rfl)))) hK hP hS hb0 (by omega) rfl ([.null, .null, .null]) (fun j hj => dv3 j hj) (Nat.le_of_ble_eq_true rfl) (Nat.le_of_ble_eq_true rfl) (dk kX5_init_ok 28 rfl) (fun H hP hS => ?_)
  refine lv_dup hx hb (dk kX5_init_ok 29 rfl) rfl ?_
  have hP : va_P D vwCl (iW (pb b0) (74) (va_up (va_up (w1N cI b0 (w0N cI b0 (w2F cI cQ b0 (w4N cI b0 (w4N cI b0 (F) 1) 9) 17) 67) 69) 0 (.inr (5, [.ref (pb b0 1), .ref (pb b0 9), .ref (pb b0 17), .ref (pb b0 67), .ref (pb b0 69), .null, .int (bI false)]))) 73 (.inr (3, [.null, .null, .null])))) H := hP
  refine cvKN ⟨hx, hb, hml, hown, hts⟩ (tX3_init l D cI cQ cL b0 _ 73 (va_up_self _ _ _)) (cwIN9 hts mcX3_init (nm5 hNW) miX3_init mini_RX3 rfl rfl rfl hdX3_init ⟨Nat.le_of_ble_eq_true rfl, Nat.le_of_ble_eq_true rfl⟩) hAO hK hP hNW hS (by omega) (by omega) hl.1 rfl (Nat.le_of_ble_eq_true rfl) ⟨Nat.le_of_ble_eq_true rfl, Nat.le_of_ble_eq_true rfl⟩ (dk kX5_init_ok 30 rfl) (fun H locs hP hS => ?_)
  rw [w3N_own] at hP
  have hP : va_P D vwCl (iW (pb b0) (77) (w3N cI b0 (va_up (w1N cI b0 (w0N cI b0 (w2F cI cQ b0 (w4N cI b0 (w4N cI b0 (F) 1) 9) 17) 67) 69) 0 (.inr (5, [.ref (pb b0 1), .ref (pb b0 9), .ref (pb b0 17), .ref (pb b0 67), .ref (pb b0 69), .null, .int (bI false)]))) 73)) H := hP
  refine pfF (va_up (w3N cI b0 (w1N cI b0 (w0N cI b0 (w2F cI cQ b0 (w4N cI b0 (w4N cI b0 (F) 1) 9) 17) 67) 69) 73) 0 (.inr (5, [.ref (pb b0 1), .ref (pb b0 9), .ref (pb b0 17), .ref (pb b0 67), .ref (pb b0 69), .ref (pb b0 73), .int (bI false)]))) (ty := .object "SquopPiles$Routes") hx hb hts (fun w h => List.mem_cons_of_mem _ (acX5 w h)) tyX5 tyX5_ok nmX5 hown hK hP hS (k := 0) (by omega) (by rw [w3N_at (k := 0) (n := 73) (Or.inl (by decide))]; exact va_up_self _ _ _) rfl 5 (by decide) (hts _ (List.mem_cons_of_mem _ (ac8 _ (List.mem_of_getElem? (i := 10) rfl)))) (fun _ h => h) rfl hin rfl (by decide +kernel) rfl rfl (Nat.le_of_ble_eq_true rfl) (dk kX5_init_ok 31 rfl) (w3N_up (k := 0) (n := 73) (by decide)) (fun H locs hP hS => ?_)
  refine lv_aload_n hx hb (dk kX5_init_ok 32 rfl) rfl (lv_at hl 0 rfl) ?_
  refine lv_iconst (v := nI 0) hx hb (dk kX5_init_ok 33 rfl) rfl ?_
  refine pfA (w5N cI cQ b0 F) (ty := .boolean) hx hb hts (fun w h => List.mem_cons_of_mem _ (acX5 w h)) tyX5 tyX5_ok nmX5 hown hK hP hS (k := 0) (by omega) (va_up_self _ _ _) rfl 6 (by decide) (hts _ (List.mem_cons_of_mem _ (ac8 _ (List.mem_of_getElem? (i := 11) rfl)))) (fun _ h => h) rfl (by decide +kernel) rfl rfl (Nat.le_of_ble_eq_true rfl) (dk kX5_init_ok 34 rfl) (bx_uu _ _ _ _) (fun H locs hP hS => ?_)
  exact hret _ _ _ _ hP hS (dk kX5_init_ok 35 rfl)
set_option maxRecDepth 100000 in
set_option maxHeartbeats 4000000 in
theorem tX6_init (l : Launch) (D : va_G) (cI cQ cL : ClassId) (b0 : Nat) (F : Nat → va_E) (k : Nat) (hF : F k = .inr (6, [.null, .null, .null, .null, .null, .null, .null, .int (bI false), .int (nI 0), .int (nI 0), .int (nI 0), .int (nI 0)])) : MK l yX6_init (Cond.code yX6_init cX6_init 2 none :: AW) ({ frames := 1, cells := 7, slots := 938, locals := 32 } : Room) D cI cQ cL b0 (k + 1) F (k) (k + 8) (w6W cI b0 F k row0) 7 938 := by
  refine mk_v (by decide +kernel) rfl (Nat.le_of_ble_eq_true rfl) rfl (fun p e s m below meth cd Q ls hx hb hml hown hts hin hsz hAO hP hK hNW hS hret hl => ?_)
  have hown : s.vm.findClass RX6 = some m.cls := hown
  have hb0 : b0 ≤ s.heap.size := by omega
  refine lv_aload_n hx hb (dk kX6_init_0_ok 0 rfl) rfl (lv_at hl 0 rfl) ?_
  refine W.objInit hx hb hown (hts _ (List.mem_cons_of_mem _ (ac17 _ (List.mem_of_getElem? (i := 16) rfl)))) (hts _ (List.mem_cons_of_mem _ (ac0 _ (List.mem_of_getElem? (i := 1) rfl)))) (hts _ (List.mem_cons_of_mem _ (ac0 _ (List.mem_of_getElem? (i := 2) rfl)))) rfl (by rw [hml]; exact hl.1) rfl (dk kX6_init_0_ok 1 rfl) (Nat.le_of_ble_eq_true rfl) (Nat.le_of_ble_eq_true rfl) ?_
  refine W.eq (g2 := F0 m 4 ls []) rfl ?_
  refine lv_aload_n hx hb (dk kX6_init_0_ok 2 rfl) rfl (lv_at hl 0 rfl) ?_
  refine lv_bipush (v := nI 60) hx hb (dk kX6_init_0_ok 3 rfl) rfl ?_
  refine nwI hx hb (hts _ (List.mem_cons_of_mem _ (ac0 _ (List.mem_of_getElem? (i := 3) rfl)))) hK hP hS hb0 (by omega) 60 rfl (by decide) (Nat.le_of_ble_eq_true rfl) (Nat.le_of_ble_eq_true rfl) (dk kX6_init_0_ok 4 rfl) (fun H hP hS => ?_)
  have hP : va_P D vwCl (iW (pb b0) (k + 2) (va_up (F) (k + 1) (.inl (cI, 60, .inl (fun _ => 0))))) H := hP
  refine pfF (va_up (va_up (F) (k + 1) (.inl (cI, 60, .inl (fun _ => 0)))) k (.inr (6, [.ref (pb b0 (k + 1)), .null, .null, .null, .null, .null, .null, .int (bI false), .int (nI 0), .int (nI 0), .int (nI 0), .int (nI 0)]))) (ty := .array .int) hx hb hts (fun w h => List.mem_cons_of_mem _ (acX6 w h)) tyX6 tyX6_ok nmX6 hown hK hP hS (k := k) (by omega) (by rw [va_up_ne _ _ (by omega)]; exact hF) rfl 0 (by decide) (hts _ (List.mem_cons_of_mem _ (ac17 _ (List.mem_of_getElem? (i := 17) rfl)))) (fun _ h => h) rfl hin rfl (by decide +kernel) rfl rfl (Nat.le_of_ble_eq_true rfl) (dk kX6_init_0_ok 5 rfl) (rfl) (fun H locs hP hS => ?_)
  refine lv_aload_n hx hb (dk kX6_init_0_ok 6 rfl) rfl (lv_at hl 0 rfl) ?_
  refine lv_sipush (v := nI 360) hx hb (dk kX6_init_0_ok 7 rfl) rfl ?_
  refine nwI hx hb (hts _ (List.mem_cons_of_mem _ (ac0 _ (List.mem_of_getElem? (i := 3) rfl)))) hK hP hS hb0 (by omega) 360 rfl (by decide) (Nat.le_of_ble_eq_true rfl) (Nat.le_of_ble_eq_true rfl) (dk kX6_init_0_ok 8 rfl) (fun H hP hS => ?_)
  have hP : va_P D vwCl (iW (pb b0) (k + 3) (va_up (va_up (va_up (F) (k + 1) (.inl (cI, 60, .inl (fun _ => 0)))) k (.inr (6, [.ref (pb b0 (k + 1)), .null, .null, .null, .null, .null, .null, .int (bI false), .int (nI 0), .int (nI 0), .int (nI 0), .int (nI 0)]))) (k + 2) (.inl (cI, 360, .inl (fun _ => 0))))) H := hP
  refine pfF (va_up (va_up (va_up (F) (k + 1) (.inl (cI, 60, .inl (fun _ => 0)))) (k + 2) (.inl (cI, 360, .inl (fun _ => 0)))) k (.inr (6, [.ref (pb b0 (k + 1)), .ref (pb b0 (k + 2)), .null, .null, .null, .null, .null, .int (bI false), .int (nI 0), .int (nI 0), .int (nI 0), .int (nI 0)]))) (ty := .array .int) hx hb hts (fun w h => List.mem_cons_of_mem _ (acX6 w h)) tyX6 tyX6_ok nmX6 hown hK hP hS (k := k) (by omega) (upk (by omega)) rfl 1 (by decide) (hts _ (List.mem_cons_of_mem _ (ac17 _ (List.mem_of_getElem? (i := 18) rfl)))) (fun _ h => h) rfl hin rfl (by decide +kernel) rfl rfl (Nat.le_of_ble_eq_true rfl) (dk kX6_init_0_ok 9 rfl) (up3) (fun H locs hP hS => ?_)
  refine lv_aload_n hx hb (dk kX6_init_0_ok 10 rfl) rfl (lv_at hl 0 rfl) ?_
  refine lv_bipush (v := nI 60) hx hb (dk kX6_init_0_ok 11 rfl) rfl ?_
  refine nwI hx hb (hts _ (List.mem_cons_of_mem _ (ac0 _ (List.mem_of_getElem? (i := 3) rfl)))) hK hP hS hb0 (by omega) 60 rfl (by decide) (Nat.le_of_ble_eq_true rfl) (Nat.le_of_ble_eq_true rfl) (dk kX6_init_0_ok 12 rfl) (fun H hP hS => ?_)
  have hP : va_P D vwCl (iW (pb b0) (k + 4) (va_up (va_up (va_up (va_up (F) (k + 1) (.inl (cI, 60, .inl (fun _ => 0)))) (k + 2) (.inl (cI, 360, .inl (fun _ => 0)))) k (.inr (6, [.ref (pb b0 (k + 1)), .ref (pb b0 (k + 2)), .null, .null, .null, .null, .null, .int (bI false), .int (nI 0), .int (nI 0), .int (nI 0), .int (nI 0)]))) (k + 3) (.inl (cI, 60, .inl (fun _ => 0))))) H := hP
  refine pfF (va_up (va_up (va_up (va_up (F) (k + 1) (.inl (cI, 60, .inl (fun _ => 0)))) (k + 2) (.inl (cI, 360, .inl (fun _ => 0)))) (k + 3) (.inl (cI, 60, .inl (fun _ => 0)))) k (.inr (6, [.ref (pb b0 (k + 1)), .ref (pb b0 (k + 2)), .ref (pb b0 (k + 3)), .null, .null, .null, .null, .int (bI false), .int (nI 0), .int (nI 0), .int (nI 0), .int (nI 0)]))) (ty := .array .int) hx hb hts (fun w h => List.mem_cons_of_mem _ (acX6 w h)) tyX6 tyX6_ok nmX6 hown hK hP hS (k := k) (by omega) (upk (by omega)) rfl 2 (by decide) (hts _ (List.mem_cons_of_mem _ (ac17 _ (List.mem_of_getElem? (i := 19) rfl)))) (fun _ h => h) rfl hin rfl (by decide +kernel) rfl rfl (Nat.le_of_ble_eq_true rfl) (dk kX6_init_0_ok 13 rfl) (up3) (fun H locs hP hS => ?_)
  refine lv_aload_n hx hb (dk kX6_init_0_ok 14 rfl) rfl (lv_at hl 0 rfl) ?_
  refine lv_bipush (v := nI 60) hx hb (dk kX6_init_0_ok 15 rfl) rfl ?_
  refine nwI hx hb (hts _ (List.mem_cons_of_mem _ (ac0 _ (List.mem_of_getElem? (i := 3) rfl)))) hK hP hS hb0 (by omega) 60 rfl (by decide) (Nat.le_of_ble_eq_true rfl) (Nat.le_of_ble_eq_true rfl) (dk kX6_init_0_ok 16 rfl) (fun H hP hS => ?_)
  have hP : va_P D vwCl (iW (pb b0) (k + 5) (va_up (va_up (va_up (va_up (va_up (F) (k + 1) (.inl (cI, 60, .inl (fun _ => 0)))) (k + 2) (.inl (cI, 360, .inl (fun _ => 0)))) (k + 3) (.inl (cI, 60, .inl (fun _ => 0)))) k (.inr (6, [.ref (pb b0 (k + 1)), .ref (pb b0 (k + 2)), .ref (pb b0 (k + 3)), .null, .null, .null, .null, .int (bI false), .int (nI 0), .int (nI 0), .int (nI 0), .int (nI 0)]))) (k + 4) (.inl (cI, 60, .inl (fun _ => 0))))) H := hP
  refine pfF (va_up (va_up (va_up (va_up (va_up (F) (k + 1) (.inl (cI, 60, .inl (fun _ => 0)))) (k + 2) (.inl (cI, 360, .inl (fun _ => 0)))) (k + 3) (.inl (cI, 60, .inl (fun _ => 0)))) (k + 4) (.inl (cI, 60, .inl (fun _ => 0)))) k (.inr (6, [.ref (pb b0 (k + 1)), .ref (pb b0 (k + 2)), .ref (pb b0 (k + 3)), .ref (pb b0 (k + 4)), .null, .null, .null, .int (bI false), .int (nI 0), .int (nI 0), .int (nI 0), .int (nI 0)]))) (ty := .array .int) hx hb hts (fun w h => List.mem_cons_of_mem _ (acX6 w h)) tyX6 tyX6_ok nmX6 hown hK hP hS (k := k) (by omega) (upk (by omega)) rfl 3 (by decide) (hts _ (List.mem_cons_of_mem _ (ac17 _ (List.mem_of_getElem? (i := 20) rfl)))) (fun _ h => h) rfl hin rfl (by decide +kernel) rfl rfl (Nat.le_of_ble_eq_true rfl) (dk kX6_init_0_ok 17 rfl) (up3) (fun H locs hP hS => ?_)
  refine lv_aload_n hx hb (dk kX6_init_0_ok 18 rfl) rfl (lv_at hl 0 rfl) ?_
  refine lv_sipush (v := nI 169) hx hb (dk kX6_init_0_ok 19 rfl) rfl ?_
  refine nwI hx hb (hts _ (List.mem_cons_of_mem _ (ac0 _ (List.mem_of_getElem? (i := 3) rfl)))) hK hP hS hb0 (by omega) 169 rfl (by decide) (Nat.le_of_ble_eq_true rfl) (Nat.le_of_ble_eq_true rfl) (dk kX6_init_0_ok 20 rfl) (fun H hP hS => ?_)
  have hP : va_P D vwCl (iW (pb b0) (k + 6) (va_up (va_up (va_up (va_up (va_up (va_up (F) (k + 1) (.inl (cI, 60, .inl (fun _ => 0)))) (k + 2) (.inl (cI, 360, .inl (fun _ => 0)))) (k + 3) (.inl (cI, 60, .inl (fun _ => 0)))) (k + 4) (.inl (cI, 60, .inl (fun _ => 0)))) k (.inr (6, [.ref (pb b0 (k + 1)), .ref (pb b0 (k + 2)), .ref (pb b0 (k + 3)), .ref (pb b0 (k + 4)), .null, .null, .null, .int (bI false), .int (nI 0), .int (nI 0), .int (nI 0), .int (nI 0)]))) (k + 5) (.inl (cI, 169, .inl (fun _ => 0))))) H := hP
  refine pfF (va_up (va_up (va_up (va_up (va_up (va_up (F) (k + 1) (.inl (cI, 60, .inl (fun _ => 0)))) (k + 2) (.inl (cI, 360, .inl (fun _ => 0)))) (k + 3) (.inl (cI, 60, .inl (fun _ => 0)))) (k + 4) (.inl (cI, 60, .inl (fun _ => 0)))) (k + 5) (.inl (cI, 169, .inl (fun _ => 0)))) k (.inr (6, [.ref (pb b0 (k + 1)), .ref (pb b0 (k + 2)), .ref (pb b0 (k + 3)), .ref (pb b0 (k + 4)), .ref (pb b0 (k + 5)), .null, .null, .int (bI false), .int (nI 0), .int (nI 0), .int (nI 0), .int (nI 0)]))) (ty := .array .int) hx hb hts (fun w h => List.mem_cons_of_mem _ (acX6 w h)) tyX6 tyX6_ok nmX6 hown hK hP hS (k := k) (by omega) (upk (by omega)) rfl 4 (by decide) (hts _ (List.mem_cons_of_mem _ (ac17 _ (List.mem_of_getElem? (i := 21) rfl)))) (fun _ h => h) rfl hin rfl (by decide +kernel) rfl rfl (Nat.le_of_ble_eq_true rfl) (dk kX6_init_0_ok 21 rfl) (up3) (fun H locs hP hS => ?_)
  refine lv_aload_n hx hb (dk kX6_init_0_ok 22 rfl) rfl (lv_at hl 0 rfl) ?_
  refine lv_sipush (v := nI 169) hx hb (dk kX6_init_0_ok 23 rfl) rfl ?_
  refine nwI hx hb (hts _ (List.mem_cons_of_mem _ (ac0 _ (List.mem_of_getElem? (i := 3) rfl)))) hK hP hS hb0 (by omega) 169 rfl (by decide) (Nat.le_of_ble_eq_true rfl) (Nat.le_of_ble_eq_true rfl) (dk kX6_init_0_ok 24 rfl) (fun H hP hS => ?_)
  have hP : va_P D vwCl (iW (pb b0) (k + 7) (va_up (va_up (va_up (va_up (va_up (va_up (va_up (F) (k + 1) (.inl (cI, 60, .inl (fun _ => 0)))) (k + 2) (.inl (cI, 360, .inl (fun _ => 0)))) (k + 3) (.inl (cI, 60, .inl (fun _ => 0)))) (k + 4) (.inl (cI, 60, .inl (fun _ => 0)))) (k + 5) (.inl (cI, 169, .inl (fun _ => 0)))) k (.inr (6, [.ref (pb b0 (k + 1)), .ref (pb b0 (k + 2)), .ref (pb b0 (k + 3)), .ref (pb b0 (k + 4)), .ref (pb b0 (k + 5)), .null, .null, .int (bI false), .int (nI 0), .int (nI 0), .int (nI 0), .int (nI 0)]))) (k + 6) (.inl (cI, 169, .inl (fun _ => 0))))) H := hP
  refine pfF (va_up (va_up (va_up (va_up (va_up (va_up (va_up (F) (k + 1) (.inl (cI, 60, .inl (fun _ => 0)))) (k + 2) (.inl (cI, 360, .inl (fun _ => 0)))) (k + 3) (.inl (cI, 60, .inl (fun _ => 0)))) (k + 4) (.inl (cI, 60, .inl (fun _ => 0)))) (k + 5) (.inl (cI, 169, .inl (fun _ => 0)))) (k + 6) (.inl (cI, 169, .inl (fun _ => 0)))) k (.inr (6, [.ref (pb b0 (k + 1)), .ref (pb b0 (k + 2)), .ref (pb b0 (k + 3)), .ref (pb b0 (k + 4)), .ref (pb b0 (k + 5)), .ref (pb b0 (k + 6)), .null, .int (bI false), .int (nI 0), .int (nI 0), .int (nI 0), .int (nI 0)]))) (ty := .array .int) hx hb hts (fun w h => List.mem_cons_of_mem _ (acX6 w h)) tyX6 tyX6_ok nmX6 hown hK hP hS (k := k) (by omega) (upk (by omega)) rfl 5 (by decide) (hts _ (List.mem_cons_of_mem _ (ac17 _ (List.mem_of_getElem? (i := 22) rfl)))) (fun _ h => h) rfl hin rfl (by decide +kernel) rfl rfl (Nat.le_of_ble_eq_true rfl) (dk kX6_init_0_ok 25 rfl) (up3) (fun H locs hP hS => ?_)
  refine lv_aload_n hx hb (dk kX6_init_0_ok 26 rfl) rfl (lv_at hl 0 rfl) ?_
  refine lv_bipush (v := nI 60) hx hb (dk kX6_init_0_ok 27 rfl) rfl ?_
  refine nwI hx hb (hts _ (List.mem_cons_of_mem _ (ac0 _ (List.mem_of_getElem? (i := 3) rfl)))) hK hP hS hb0 (by omega) 60 rfl (by decide) (Nat.le_of_ble_eq_true rfl) (Nat.le_of_ble_eq_true rfl) (dk kX6_init_0_ok 28 rfl) (fun H hP hS => ?_)
  have hP : va_P D vwCl (iW (pb b0) (k + 8) (va_up (va_up (va_up (va_up (va_up (va_up (va_up (va_up (F) (k + 1) (.inl (cI, 60, .inl (fun _ => 0)))) (k + 2) (.inl (cI, 360, .inl (fun _ => 0)))) (k + 3) (.inl (cI, 60, .inl (fun _ => 0)))) (k + 4) (.inl (cI, 60, .inl (fun _ => 0)))) (k + 5) (.inl (cI, 169, .inl (fun _ => 0)))) (k + 6) (.inl (cI, 169, .inl (fun _ => 0)))) k (.inr (6, [.ref (pb b0 (k + 1)), .ref (pb b0 (k + 2)), .ref (pb b0 (k + 3)), .ref (pb b0 (k + 4)), .ref (pb b0 (k + 5)), .ref (pb b0 (k + 6)), .null, .int (bI false), .int (nI 0), .int (nI 0), .int (nI 0), .int (nI 0)]))) (k + 7) (.inl (cI, 60, .inl (fun _ => 0))))) H := hP
  refine pfF (va_up (va_up (va_up (va_up (va_up (va_up (va_up (va_up (F) (k + 1) (.inl (cI, 60, .inl (fun _ => 0)))) (k + 2) (.inl (cI, 360, .inl (fun _ => 0)))) (k + 3) (.inl (cI, 60, .inl (fun _ => 0)))) (k + 4) (.inl (cI, 60, .inl (fun _ => 0)))) (k + 5) (.inl (cI, 169, .inl (fun _ => 0)))) (k + 6) (.inl (cI, 169, .inl (fun _ => 0)))) (k + 7) (.inl (cI, 60, .inl (fun _ => 0)))) k (.inr (6, [.ref (pb b0 (k + 1)), .ref (pb b0 (k + 2)), .ref (pb b0 (k + 3)), .ref (pb b0 (k + 4)), .ref (pb b0 (k + 5)), .ref (pb b0 (k + 6)), .ref (pb b0 (k + 7)), .int (bI false), .int (nI 0), .int (nI 0), .int (nI 0), .int (nI 0)]))) (ty := .array .int) hx hb hts (fun w h => List.mem_cons_of_mem _ (acX6 w h)) tyX6 tyX6_ok nmX6 hown hK hP hS (k := k) (by omega) (upk (by omega)) rfl 6 (by decide) (hts _ (List.mem_cons_of_mem _ (ac17 _ (List.mem_of_getElem? (i := 23) rfl)))) (fun _ h => h) rfl hin rfl (by decide +kernel) rfl rfl (Nat.le_of_ble_eq_true rfl) (dk kX6_init_0_ok 29 rfl) (up3) (fun H locs hP hS => ?_)
  have hP : va_P D vwCl (iW (pb b0) (k + 8) (w6W cI b0 F k (rI 0 0))) H := by
    rw [rI_0]
    refine Eq.mp ?_ hP
    congr 2
    funext j
    by_cases h0 : j = k
    · subst h0; rw [va_up_self]; simp [w6W, rfSet]
    · rw [va_up_ne _ _ h0]
      by_cases h1 : j < k ∨ k + 7 < j
      · rw [w6W, rfSet_out h1]; simp only [va_up]; repeat' split
        all_goals first | rfl | omega
      · rcases (show j = k + 1 ∨ j = k + 2 ∨ j = k + 3 ∨ j = k + 4 ∨ j = k + 5 ∨ j = k + 6 ∨ j = k + 7 by omega) with rfl | rfl | rfl | rfl | rfl | rfl | rfl <;> first | (simp [w6W, rfSet, va_up]; done) | (simp [w6W, rfSet, va_up]; rfl)
  have hR : ∀ r : Nat → Int32, rfAt cI (pb b0) (w6W cI b0 F k r) k r z0 z0 z0 z0 z0 z0 false 0 0 0 (nI 0) := fun r => rfSet_at
  have hU : ∀ r r2 : Nat → Int32, va_up (w6W cI b0 F k r) (k + 1) (.inl (cI, 60, .inl r2)) = w6W cI b0 F k r2 := fun r r2 => by
    funext j
    simp only [va_up, w6W, rfSet]
    repeat' split
    all_goals first | rfl | omega
  refine lv_iconst (v := nI 0) hx hb (dk kX6_init_0_ok 30 rfl) rfl ?_
  refine lv_istore_n (lv' := [(1, .int (nI 0)), (0, .ref (pb b0 k))]) hx hb (dk kX6_init_0_ok 31 rfl) rfl hl (by decide) rfl (fun ls hl => ?_)
  have L65 : ∀ (fu i : Nat) (H : Heap) (locs : List Loc), va_P D vwCl (iW (pb b0) (k + 8) (w6W cI b0 F k (rI i i))) H → va_S (bA b0) s.heap H locs → i ≤ 16 → 16 - i < fu → ∀ ls : Array Slot, lv_has ls 2 [(0, .ref (pb b0 k)), (1, .int (nI i))] → W p l e ({ frames := 1, cells := 7, slots := 938, locals := 32 } : Room) s m #[.ref (pb b0 k)] below meth cd H locs 7 938 Q (F0 m 65 ls []) := by
    intro fu
    induction fu with
    | zero => intros; omega
    | succ fu ih =>
      intro i H locs hP hS hi hm ls hl
      refine lv_iload_n hx hb (dk kX6_init_0_ok 32 rfl) rfl (lv_at hl 1 rfl) ?_
      refine lv_bipush (v := nI 16) hx hb (dk kX6_init_0_ok 33 rfl) rfl ?_
      refine n_icmp_ge (tgt := 103) hx hb (by omega) (by decide) (dk kX6_init_0_ok 34 rfl) (by decide) (fun h1 => ?_) (fun h1 => ?_)
      · have e9 : i = 16 := by omega
        subst e9
        refine lv_aload_n hx hb (dk kX6_init_0_ok 56 rfl) rfl (lv_at hl 0 rfl) ?_
        refine gf hx hb hts (fun w h => List.mem_cons_of_mem _ (acX6 w h)) hown hK hP (by omega) (hR _).1 rfl 0 (by decide) (hts _ (List.mem_cons_of_mem _ (ac17 _ (List.mem_of_getElem? (i := 17) rfl)))) (fun _ h => h) rfl (dk kX6_init_0_ok 57 rfl) ?_
        refine lv_bipush (v := nI 57) hx hb (dk kX6_init_0_ok 58 rfl) rfl ?_
        refine lv_iconst (v := nI 3) hx hb (dk kX6_init_0_ok 59 rfl) rfl ?_
        refine astA (w6W cI b0 F k row0) (j := 57) hx hb hK hP hS (by omega) (hR _).2.1 rfl (by decide) (by decide) (dk kX6_init_1_ok 0 rfl) (hU _ _) (fun H locs hP hS => ?_)
        exact hret _ _ _ _ hP hS (dk kX6_init_1_ok 1 rfl)
      · have hi2 : i < 16 := by omega
        refine lv_aload_n hx hb (dk kX6_init_0_ok 35 rfl) rfl (lv_at hl 0 rfl) ?_
        refine gf hx hb hts (fun w h => List.mem_cons_of_mem _ (acX6 w h)) hown hK hP (by omega) (hR _).1 rfl 0 (by decide) (hts _ (List.mem_cons_of_mem _ (ac17 _ (List.mem_of_getElem? (i := 17) rfl)))) (fun _ h => h) rfl (dk kX6_init_0_ok 36 rfl) ?_
        refine lv_iconst (v := nI 0) hx hb (dk kX6_init_0_ok 37 rfl) rfl ?_
        refine lv_iload_n hx hb (dk kX6_init_0_ok 38 rfl) rfl (lv_at hl 1 rfl) ?_
        refine n_iadd hx hb (dk kX6_init_0_ok 39 rfl) ?_
        refine lv_iload_n hx hb (dk kX6_init_0_ok 40 rfl) rfl (lv_at hl 1 rfl) ?_
        refine lv_iconst (v := nI 4) hx hb (dk kX6_init_0_ok 41 rfl) rfl ?_
        refine n_idiv hx hb (by omega) (by decide) (by decide) (dk kX6_init_0_ok 42 rfl) ?_
        refine csP (As := [.int (nI (i / 4))]) (rest := [.int (nI (0 + i)), .ref (pb b0 (k + 1))]) ⟨hx, hb, hml, hown, hts⟩ (tX6_base l (nI (i / 4)) (i / 4) rfl (by omega)) (cwS9 1 hts mcX6_base (ac18 _ (List.mem_of_getElem? (i := 0) rfl)) msX6_base mini_RX6 rfl rfl hdX6_base ⟨Nat.le_of_ble_eq_true rfl, Nat.le_of_ble_eq_true rfl⟩) rfl hl.1 rfl (Nat.le_of_ble_eq_true rfl) ⟨Nat.le_of_ble_eq_true rfl, Nat.le_of_ble_eq_true rfl⟩ (dk kX6_init_0_ok 43 rfl) ?_
        refine astA (w6W cI b0 F k (rI (i + 1) i)) (j := 0 + i) hx hb hK hP hS (by omega) (hR _).2.1 rfl (by omega) (by decide) (dk kX6_init_0_ok 44 rfl) (by rw [rI_c hi2]; exact hU _ _) (fun H locs hP hS => ?_)
        refine lv_aload_n hx hb (dk kX6_init_0_ok 45 rfl) rfl (lv_at hl 0 rfl) ?_
        refine gf hx hb hts (fun w h => List.mem_cons_of_mem _ (acX6 w h)) hown hK hP (by omega) (hR _).1 rfl 0 (by decide) (hts _ (List.mem_cons_of_mem _ (ac17 _ (List.mem_of_getElem? (i := 17) rfl)))) (fun _ h => h) rfl (dk kX6_init_0_ok 46 rfl) ?_
        refine lv_bipush (v := nI 16) hx hb (dk kX6_init_0_ok 47 rfl) rfl ?_
        refine lv_iload_n hx hb (dk kX6_init_0_ok 48 rfl) rfl (lv_at hl 1 rfl) ?_
        refine n_iadd hx hb (dk kX6_init_0_ok 49 rfl) ?_
        refine lv_iload_n hx hb (dk kX6_init_0_ok 50 rfl) rfl (lv_at hl 1 rfl) ?_
        refine lv_iconst (v := nI 4) hx hb (dk kX6_init_0_ok 51 rfl) rfl ?_
        refine n_irem hx hb (by omega) (by decide) (by decide) (dk kX6_init_0_ok 52 rfl) ?_
        refine astA (w6W cI b0 F k (rI (i + 1) (i + 1))) (j := 16 + i) hx hb hK hP hS (by omega) (hR _).2.1 rfl (by omega) (by decide) (dk kX6_init_0_ok 53 rfl) (by rw [rI_p hi2]; exact hU _ _) (fun H locs hP hS => ?_)
        refine lv_iinc (v := nI (i + 1)) (lv' := [(1, .int (nI (i + 1))), (0, .ref (pb b0 k))]) hx hb (dk kX6_init_0_ok 54 rfl) hl (k := 1) rfl (n_inc _) (by decide) rfl (fun ls hl => ?_)
        refine lv_goto (tgt := 65) hx hb (dk kX6_init_0_ok 55 rfl) (by decide) ?_
        exact ih (i + 1) _ _ hP hS (by omega) (by omega) ls (lv_sub hl [1, 0] rfl)
  exact L65 17 0 _ _ hP hS (by omega) (by omega) ls (lv_sub hl [1, 0] rfl)
