set_option maxRecDepth 100000 in
set_option maxHeartbeats 4000000 in
theorem tX4_copyFrom (l : Launch) (D : va_G) (cI cQ cL : ClassId) (ad : Nat → Nat) (N : Nat) (F : Nat → va_E) (k : Nat) (hk : k + 7 < N) (c b v g h j : Nat → Int32) (t : Nat) (u z : Int32) (hS0 : stAt cI ad F k c b v g h j (nI t) u z) (k2 : Nat) (hq : k2 + 7 < N) (c2 b2 v2 g2 h2 j2 : Nat → Int32) (t2 : Nat) (u2 z2 : Int32) (hS2 : stAt cI ad F k2 c2 b2 v2 g2 h2 j2 (nI t2) u2 z2) (hd : k + 7 < k2 ∨ k2 + 7 < k) : MX l yX4_copyFrom (Cond.code yX4_copyFrom cX4_copyFrom 2 none :: AW) ({ frames := 2, cells := 0, slots := 0, locals := 39 } : Room) D cI cQ cL ad N F [.ref (ad k), .ref (ad k2)] (dp none (sSet cI ad F k c2 b2 v2 g2 h2 j2 (nI t2) u2 z2)) 0 0 := by
  refine mx_v (by decide +kernel) rfl (Nat.le_of_ble_eq_true rfl) (fun p e s m below meth cd Q ls hx hb hml hown hts hDi hP hK hNW hS hret hl => ?_)
  have hown : s.vm.findClass RX4 = some m.cls := hown
  have hk0 : k < N := by omega
  have hk1 : k + 1 < N := by omega
  have hk11 : k + 1 + 1 < N := by omega
  have hk12 : k + 1 + 2 < N := by omega
  have hk13 : k + 1 + 3 < N := by omega
  have hkm : k + 1 + 3 < N := by omega
  have hk5 : k + 5 < N := by omega
  have hk6 : k + 6 < N := by omega
  have hk7 : k + 7 < N := hk
  have hq0 : k2 < N := by omega
  have hq1 : k2 + 1 < N := by omega
  have hqm : k2 + 1 + 3 < N := by omega
  have hq5 : k2 + 5 < N := by omega
  have hq6 : k2 + 6 < N := by omega
  have hq7 : k2 + 7 < N := hq
  have hP : va_P D vwCl (iW ad N (sSet cI ad F k c b v g h j (nI t) u z)) s.heap := by rw [sSet_self hS0]; exact hP
  have hl : lv_has ls 2 [(0, .ref (ad k)), (1, .ref (ad k2))] := hl
  refine lv_aload_n hx hb (dk kX4_copyFrom_ok 0 rfl) rfl (lv_at hl 0 rfl) ?_
  refine gf hx hb hts (fun w h => List.mem_cons_of_mem _ (acX4 w h)) hown hK hP hk0 (sSet_at hS0).1 rfl 0 (by decide) (hts _ (List.mem_cons_of_mem _ (ac3 _ (List.mem_of_getElem? (i := 16) rfl)))) (fun _ h => h) rfl (dk kX4_copyFrom_ok 1 rfl) ?_
  refine lv_aload_n hx hb (dk kX4_copyFrom_ok 2 rfl) rfl (lv_at hl 1 rfl) ?_
  refine gf hx hb hts (fun w h => List.mem_cons_of_mem _ (acX4 w h)) hown hK hP hq0 (sSet_oth hS2 hd).1 rfl 0 (by decide) (hts _ (List.mem_cons_of_mem _ (ac3 _ (List.mem_of_getElem? (i := 16) rfl)))) (fun _ h => h) rfl (dk kX4_copyFrom_ok 3 rfl) ?_
  refine cvDv (As := [.ref (ad (k2 + 1))]) (rest := []) (sSet cI ad F k c2 b2 v2 g h j (nI t) u z) ⟨hx, hb, hml, hown, hts⟩ (tX1_copyFrom l D cI cQ cL ad N (sSet cI ad F k c b v g h j (nI t) u z) (k + 1) hkm c b v (sSet_at hS0).2.1 (k2 + 1) hqm (by omega) c2 b2 v2 (sSet_oth hS2 hd).2.1) (cwV9 1 hts mcX1_copyFrom (ac4 _ (List.mem_of_getElem? (i := 12) rfl)) miX1_copyFrom meX1_copyFrom mini_RX1 rfl rfl hdX1_copyFrom ⟨Nat.le_of_ble_eq_true rfl, Nat.le_of_ble_eq_true rfl⟩) hDi hK hP hNW hS hk1 (sSet_at hS0).2.1.1 rfl rfl hl.1 rfl (Nat.le_of_ble_eq_true rfl) (by decide) (dk kX4_copyFrom_ok 4 rfl) sSet_m (fun H locs hP hS => ?_)
  refine lv_aload_n hx hb (dk kX4_copyFrom_ok 5 rfl) rfl (lv_at hl 1 rfl) ?_
  refine gf hx hb hts (fun w h => List.mem_cons_of_mem _ (acX4 w h)) hown hK hP hq0 (sSet_oth hS2 hd).1 rfl 1 (by decide) (hts _ (List.mem_cons_of_mem _ (ac3 _ (List.mem_of_getElem? (i := 17) rfl)))) (fun _ h => h) rfl (dk kX4_copyFrom_ok 6 rfl) ?_
  refine lv_iconst (v := nI 0) hx hb (dk kX4_copyFrom_ok 7 rfl) rfl ?_
  refine lv_aload_n hx hb (dk kX4_copyFrom_ok 8 rfl) rfl (lv_at hl 0 rfl) ?_
  refine gf hx hb hts (fun w h => List.mem_cons_of_mem _ (acX4 w h)) hown hK hP hk0 (sSet_at hS0).1 rfl 1 (by decide) (hts _ (List.mem_cons_of_mem _ (ac3 _ (List.mem_of_getElem? (i := 17) rfl)))) (fun _ h => h) rfl (dk kX4_copyFrom_ok 9 rfl) ?_
  refine lv_iconst (v := nI 0) hx hb (dk kX4_copyFrom_ok 10 rfl) rfl ?_
  refine lv_bipush (v := nI 16) hx hb (dk kX4_copyFrom_ok 11 rfl) rfl ?_
  refine cpy (sSet cI ad F k c2 b2 v2 g2 h j (nI t) u z) hx hb (by rw [hml, hl.1]) hown (hts _ (List.mem_cons_of_mem _ (ac4 _ (List.mem_of_getElem? (i := 11) rfl)))) (hts _ (List.mem_cons_of_mem _ (ac0 _ (List.mem_of_getElem? (i := 19) rfl)))) (hts _ (List.mem_cons_of_mem _ (ac0 _ (List.mem_of_getElem? (i := 20) rfl)))) (hts _ (List.mem_cons_of_mem _ (ac0 _ (List.mem_of_getElem? (i := 21) rfl)))) hK hDi hP hS hq5 (sSet_oth hS2 hd).2.2.1 hk5 (sSet_at hS0).2.2.1 (by decide) (Nat.le_of_ble_eq_true rfl) (Nat.le_of_ble_eq_true rfl) (dk kX4_copyFrom_ok 12 rfl) sSet_g (fun H locs hP hS => ?_)
  refine lv_aload_n hx hb (dk kX4_copyFrom_ok 13 rfl) rfl (lv_at hl 1 rfl) ?_
  refine gf hx hb hts (fun w h => List.mem_cons_of_mem _ (acX4 w h)) hown hK hP hq0 (sSet_oth hS2 hd).1 rfl 2 (by decide) (hts _ (List.mem_cons_of_mem _ (ac3 _ (List.mem_of_getElem? (i := 18) rfl)))) (fun _ h => h) rfl (dk kX4_copyFrom_ok 14 rfl) ?_
  refine lv_iconst (v := nI 0) hx hb (dk kX4_copyFrom_ok 15 rfl) rfl ?_
  refine lv_aload_n hx hb (dk kX4_copyFrom_ok 16 rfl) rfl (lv_at hl 0 rfl) ?_
  refine gf hx hb hts (fun w h => List.mem_cons_of_mem _ (acX4 w h)) hown hK hP hk0 (sSet_at hS0).1 rfl 2 (by decide) (hts _ (List.mem_cons_of_mem _ (ac3 _ (List.mem_of_getElem? (i := 18) rfl)))) (fun _ h => h) rfl (dk kX4_copyFrom_ok 17 rfl) ?_
  refine lv_iconst (v := nI 0) hx hb (dk kX4_copyFrom_ok 18 rfl) rfl ?_
  refine lv_iconst (v := nI 4) hx hb (dk kX4_copyFrom_ok 19 rfl) rfl ?_
  refine cpy (sSet cI ad F k c2 b2 v2 g2 h2 j (nI t) u z) hx hb (by rw [hml, hl.1]) hown (hts _ (List.mem_cons_of_mem _ (ac4 _ (List.mem_of_getElem? (i := 11) rfl)))) (hts _ (List.mem_cons_of_mem _ (ac0 _ (List.mem_of_getElem? (i := 19) rfl)))) (hts _ (List.mem_cons_of_mem _ (ac0 _ (List.mem_of_getElem? (i := 20) rfl)))) (hts _ (List.mem_cons_of_mem _ (ac0 _ (List.mem_of_getElem? (i := 21) rfl)))) hK hDi hP hS hq6 (sSet_oth hS2 hd).2.2.2.1 hk6 (sSet_at hS0).2.2.2.1 (by decide) (Nat.le_of_ble_eq_true rfl) (Nat.le_of_ble_eq_true rfl) (dk kX4_copyFrom_ok 20 rfl) sSet_h (fun H locs hP hS => ?_)
  refine lv_aload_n hx hb (dk kX4_copyFrom_ok 21 rfl) rfl (lv_at hl 1 rfl) ?_
  refine gf hx hb hts (fun w h => List.mem_cons_of_mem _ (acX4 w h)) hown hK hP hq0 (sSet_oth hS2 hd).1 rfl 3 (by decide) (hts _ (List.mem_cons_of_mem _ (ac3 _ (List.mem_of_getElem? (i := 19) rfl)))) (fun _ h => h) rfl (dk kX4_copyFrom_ok 22 rfl) ?_
  refine lv_iconst (v := nI 0) hx hb (dk kX4_copyFrom_ok 23 rfl) rfl ?_
  refine lv_aload_n hx hb (dk kX4_copyFrom_ok 24 rfl) rfl (lv_at hl 0 rfl) ?_
  refine gf hx hb hts (fun w h => List.mem_cons_of_mem _ (acX4 w h)) hown hK hP hk0 (sSet_at hS0).1 rfl 3 (by decide) (hts _ (List.mem_cons_of_mem _ (ac3 _ (List.mem_of_getElem? (i := 19) rfl)))) (fun _ h => h) rfl (dk kX4_copyFrom_ok 25 rfl) ?_
  refine lv_iconst (v := nI 0) hx hb (dk kX4_copyFrom_ok 26 rfl) rfl ?_
  refine lv_iconst (v := nI 4) hx hb (dk kX4_copyFrom_ok 27 rfl) rfl ?_
  refine cpy (sSet cI ad F k c2 b2 v2 g2 h2 j2 (nI t) u z) hx hb (by rw [hml, hl.1]) hown (hts _ (List.mem_cons_of_mem _ (ac4 _ (List.mem_of_getElem? (i := 11) rfl)))) (hts _ (List.mem_cons_of_mem _ (ac0 _ (List.mem_of_getElem? (i := 19) rfl)))) (hts _ (List.mem_cons_of_mem _ (ac0 _ (List.mem_of_getElem? (i := 20) rfl)))) (hts _ (List.mem_cons_of_mem _ (ac0 _ (List.mem_of_getElem? (i := 21) rfl)))) hK hDi hP hS hq7 (sSet_oth hS2 hd).2.2.2.2 hk7 (sSet_at hS0).2.2.2.2 (by decide) (Nat.le_of_ble_eq_true rfl) (Nat.le_of_ble_eq_true rfl) (dk kX4_copyFrom_ok 28 rfl) sSet_j (fun H locs hP hS => ?_)
  refine lv_aload_n hx hb (dk kX4_copyFrom_ok 29 rfl) rfl (lv_at hl 0 rfl) ?_
  refine lv_aload_n hx hb (dk kX4_copyFrom_ok 30 rfl) rfl (lv_at hl 1 rfl) ?_
  refine gf hx hb hts (fun w h => List.mem_cons_of_mem _ (acX4 w h)) hown hK hP hq0 (sSet_oth hS2 hd).1 rfl 4 (by decide) (hts _ (List.mem_cons_of_mem _ (ac3 _ (List.mem_of_getElem? (i := 20) rfl)))) (fun _ h => h) rfl (dk kX4_copyFrom_ok 31 rfl) ?_
  refine pf (sSet cI ad F k c2 b2 v2 g2 h2 j2 (nI t2) u z) hx hb hts (fun w h => List.mem_cons_of_mem _ (acX4 w h)) tyX4 tyX4_ok nmX4 hown hK hDi hP hS hk0 (sSet_at hS0).1 rfl 4 (by decide) (hts _ (List.mem_cons_of_mem _ (ac3 _ (List.mem_of_getElem? (i := 20) rfl)))) (fun _ h => h) rfl (ty := .int) rfl rfl rfl (Nat.le_of_ble_eq_true rfl) (dk kX4_copyFrom_ok 32 rfl) sSet_0 (fun H locs hP hS => ?_)
  refine lv_aload_n hx hb (dk kX4_copyFrom_ok 33 rfl) rfl (lv_at hl 0 rfl) ?_
  refine lv_aload_n hx hb (dk kX4_copyFrom_ok 34 rfl) rfl (lv_at hl 1 rfl) ?_
  refine gf hx hb hts (fun w h => List.mem_cons_of_mem _ (acX4 w h)) hown hK hP hq0 (sSet_oth hS2 hd).1 rfl 5 (by decide) (hts _ (List.mem_cons_of_mem _ (ac3 _ (List.mem_of_getElem? (i := 21) rfl)))) (fun _ h => h) rfl (dk kX4_copyFrom_ok 35 rfl) ?_
  refine pf (sSet cI ad F k c2 b2 v2 g2 h2 j2 (nI t2) u2 z) hx hb hts (fun w h => List.mem_cons_of_mem _ (acX4 w h)) tyX4 tyX4_ok nmX4 hown hK hDi hP hS hk0 (sSet_at hS0).1 rfl 5 (by decide) (hts _ (List.mem_cons_of_mem _ (ac3 _ (List.mem_of_getElem? (i := 21) rfl)))) (fun _ h => h) rfl (ty := .int) rfl rfl rfl (Nat.le_of_ble_eq_true rfl) (dk kX4_copyFrom_ok 36 rfl) sSet_0 (fun H locs hP hS => ?_)
  refine lv_aload_n hx hb (dk kX4_copyFrom_ok 37 rfl) rfl (lv_at hl 0 rfl) ?_
  refine lv_aload_n hx hb (dk kX4_copyFrom_ok 38 rfl) rfl (lv_at hl 1 rfl) ?_
  refine gf hx hb hts (fun w h => List.mem_cons_of_mem _ (acX4 w h)) hown hK hP hq0 (sSet_oth hS2 hd).1 rfl 6 (by decide) (hts _ (List.mem_cons_of_mem _ (ac3 _ (List.mem_of_getElem? (i := 22) rfl)))) (fun _ h => h) rfl (dk kX4_copyFrom_ok 39 rfl) ?_
  refine pf (sSet cI ad F k c2 b2 v2 g2 h2 j2 (nI t2) u2 z2) hx hb hts (fun w h => List.mem_cons_of_mem _ (acX4 w h)) tyX4 tyX4_ok nmX4 hown hK hDi hP hS hk0 (sSet_at hS0).1 rfl 6 (by decide) (hts _ (List.mem_cons_of_mem _ (ac3 _ (List.mem_of_getElem? (i := 22) rfl)))) (fun _ h => h) rfl (ty := .int) rfl rfl rfl (Nat.le_of_ble_eq_true rfl) (dk kX4_copyFrom_ok 40 rfl) sSet_0 (fun H locs hP hS => ?_)
  exact hret _ _ _ _ _ _ _ (by exact ⟨rfl, rfl⟩) hP hS (by decide) (by decide) (dk kX4_copyFrom_ok 41 rfl)
set_option maxRecDepth 100000 in
set_option maxHeartbeats 4000000 in
theorem tJ7_fill_53178 (l : Launch) (D : va_G) (cI cQ cL : ClassId) (ad : Nat → Nat) (N : Nat) (F : Nat → va_E) (k : Nat) (hk : k < N) (g : Nat → Int32) (hA : F k = .inl (cI, 169, .inl g)) (x : Int32) : MX l yJ7_fill_53178 (Cond.code yJ7_fill_53178 cJ7_fill_53178 4 none :: AW) ({ frames := 0, cells := 0, slots := 0, locals := 0 } : Room) D cI cQ cL ad N F [.ref (ad k), .int x] (dp none (va_up F k (.inl (cI, 169, .inl (fun _ => x))))) 0 0 := by
  refine mx_v (by decide +kernel) rfl (Nat.le_of_ble_eq_true rfl) (fun p e s m below meth cd Q ls hx hb hml hown hts hDi hP hK hNW hS hret hl => ?_)
  have hown : s.vm.findClass RJ7 = some m.cls := hown
  have hP : va_P D vwCl (iW ad N (va_up F k (.inl (cI, 169, .inl g)))) s.heap := by rw [va_up_id hA]; exact hP
  have hl : lv_has ls 4 [(0, .ref (ad k)), (1, .int x)] := hl
  refine lv_iconst (v := nI 0) hx hb (dk kJ7_fill_53178_ok 0 rfl) rfl ?_
  refine lv_istore_n (lv' := [(2, .int (nI 0)), (0, .ref (ad k)), (1, .int x)]) hx hb (dk kJ7_fill_53178_ok 1 rfl) rfl hl (by decide) rfl (fun ls hl => ?_)
  refine lv_aload_n hx hb (dk kJ7_fill_53178_ok 2 rfl) rfl (lv_at hl 1 rfl) ?_
  refine alen hx hb hK hP hk (va_up_self _ _ _) (dk kJ7_fill_53178_ok 3 rfl) ?_
  refine lv_istore_n (lv' := [(3, .int (nI 169)), (2, .int (nI 0)), (0, .ref (ad k)), (1, .int x)]) hx hb (dk kJ7_fill_53178_ok 4 rfl) rfl hl (by decide) rfl (fun ls hl => ?_)
  have L5 : ∀ (fu : Nat) (i : Nat) (H : Heap) (locs : List Loc), va_P D vwCl (iW ad N (va_up F k (.inl (cI, 169, .inl (fl9 g i x))))) H → va_S (iA ad N s.heap.size) s.heap H locs → i ≤ 169 → 169 - i < fu → ∀ ls : Array Slot, lv_has ls 4 [(0, .ref (ad k)), (1, .int x), (2, .int (nI i)), (3, .int (nI 169))] → W p l e ({ frames := 0, cells := 0, slots := 0, locals := 0 } : Room) s m ([.ref (ad k), .int x] : List Value).toArray below meth cd H locs 0 0 Q (F0 m 5 ls []) := by
    intro fu
    induction fu with
    | zero => intros; omega
    | succ fu ih5 =>
      intro i H locs hP hS hi hme5 ls hl
      refine lv_iload_n hx hb (dk kJ7_fill_53178_ok 5 rfl) rfl (lv_at hl 2 rfl) ?_
      refine lv_iload_n hx hb (dk kJ7_fill_53178_ok 6 rfl) rfl (lv_at hl 3 rfl) ?_
      refine n_icmp_ge (tgt := 20) hx hb (by omega) (by decide) (dk kJ7_fill_53178_ok 7 rfl) (by decide) (fun h1 => ?_) (fun h1 => ?_)
      · skip
        exact hret _ _ _ _ _ _ _ (by exact ⟨rfl, rfl⟩) (fl9_end (g := g) (by rw [show i = 169 by omega] at hP; exact hP)) hS (by decide) (by decide) (dk kJ7_fill_53178_ok 14 rfl)
      · skip
        refine lv_aload_n hx hb (dk kJ7_fill_53178_ok 8 rfl) rfl (lv_at hl 0 rfl) ?_
        refine lv_iload_n hx hb (dk kJ7_fill_53178_ok 9 rfl) rfl (lv_at hl 2 rfl) ?_
        refine lv_iload_n hx hb (dk kJ7_fill_53178_ok 10 rfl) rfl (lv_at hl 1 rfl) ?_
        refine ast (va_up F k (.inl (cI, 169, .inl (upd (fl9 g i x) i x)))) (j := i) hx hb hK hDi hP hS hk (va_up_self _ _ _) rfl (by omega) (by decide) (dk kJ7_fill_53178_ok 11 rfl) va_up_up (fun H locs hP hS => ?_)
        refine lv_iinc (v := nI (i + 1)) (lv' := [(2, .int (nI (i + 1))), (0, .ref (ad k)), (1, .int x), (3, .int (nI 169))]) hx hb (dk kJ7_fill_53178_ok 12 rfl) hl (k := 2) rfl (n_inc _) (by decide) rfl (fun ls hl => ?_)
        refine lv_goto (tgt := 5) hx hb (dk kJ7_fill_53178_ok 13 rfl) (by decide) ?_
        exact ih5 (i + 1) _ _ (by first | (rw [fl9_0]; exact hP) | (rw [← fl9_s]; exact hP)) hS (by omega) (by omega) ls (lv_sub hl [1, 2, 0, 3] rfl)
  exact L5 _ 0 _ _ (by first | (rw [fl9_0]; exact hP) | (rw [← fl9_s]; exact hP)) hS (by first | omega | rfl) (Nat.lt_succ_self _) ls (lv_sub hl [2, 3, 1, 0] rfl)
set_option maxRecDepth 100000 in
set_option maxHeartbeats 4000000 in
theorem tX3_search (l : Launch) (D : va_G) (cI cQ cL : ClassId) (ad : Nat → Nat) (N : Nat) (F : Nat → va_E) (k : Nat) (hk : k + 3 < N) (a d q : Nat → Int32) (hO : roAt cI ad F k a d q) (x : Int32) (w : Nat) (hxw : x = nI w) (hw : w < 169) (y : Int32) (m9 : Nat) (hym : y = nI m9) (hm9 : m9 ≤ 1) : MX l yX3_search (Cond.code yX3_search cX3_search 8 (some .int) :: AW) ({ frames := 2, cells := 0, slots := 0, locals := 49 } : Room) D cI cQ cL ad N F [.ref (ad k), .int x, .int y] (dp (some (.int (sea q w m9).1)) (roSet cI ad F k a (sea q w m9).2.1 (sea q w m9).2.2)) 0 0 := by
  refine mx_i (ty := .int) (by decide +kernel) rfl (Nat.le_of_ble_eq_true rfl) (fun p e s m below meth cd Q ls hx hb hml hown hts hDi hP hK hNW hS hret hl => ?_)
  have hown : s.vm.findClass RX3 = some m.cls := hown
  subst hxw
  subst hym
  have hk0 : k < N := by omega
  have hk1 : k + 1 < N := by omega
  have hk2 : k + 2 < N := by omega
  have hk3 : k + 3 < N := hk
  have hP : va_P D vwCl (iW ad N (roSet cI ad F k a d q)) s.heap := by rw [roSet_self hO]; exact hP
  have hl : lv_has ls 8 [(0, .ref (ad k)), (1, .int (nI w)), (2, .int (nI m9))] := hl
  refine lv_aload_n hx hb (dk kX3_search_0_ok 0 rfl) rfl (lv_at hl 0 rfl) ?_
  refine gf hx hb hts (fun w h => List.mem_cons_of_mem _ (acX3 w h)) hown hK hP hk0 roSet_at.1 rfl 1 (by decide) (hts _ (List.mem_cons_of_mem _ (ac5 _ (List.mem_of_getElem? (i := 1) rfl)))) (fun _ h => h) rfl (dk kX3_search_0_ok 1 rfl) ?_
  refine lv_iconst (v := -1) hx hb (dk kX3_search_0_ok 2 rfl) rfl ?_
  refine csDv (As := [.ref (ad (k + 2)), .int (-1)]) (rest := []) (roSet cI ad F k a (fun _ => -1) q) ⟨hx, hb, hml, hown, hts⟩ (tJ7_fill_53178 l D cI cQ cL ad N (roSet cI ad F k a d q) (k + 2) hk2 d roSet_at.2.2.1 (-1)) (cwS9 2 hts mcJ7_fill_53178 (ac5 _ (List.mem_of_getElem? (i := 12) rfl)) msJ7_fill_53178 (ac5 _ (List.mem_of_getElem? (i := 14) rfl)) rfl rfl hdJ7_fill_53178 ⟨Nat.le_of_ble_eq_true rfl, Nat.le_of_ble_eq_true rfl⟩) hDi hK hP hNW hS rfl hl.1 rfl (Nat.le_of_ble_eq_true rfl) (by decide) (dk kX3_search_0_ok 3 rfl) roSet_u2 (fun H locs hP hS => ?_)
  refine lv_aload_n hx hb (dk kX3_search_0_ok 4 rfl) rfl (lv_at hl 0 rfl) ?_
  refine gf hx hb hts (fun w h => List.mem_cons_of_mem _ (acX3 w h)) hown hK hP hk0 roSet_at.1 rfl 1 (by decide) (hts _ (List.mem_cons_of_mem _ (ac5 _ (List.mem_of_getElem? (i := 1) rfl)))) (fun _ h => h) rfl (dk kX3_search_0_ok 5 rfl) ?_
  refine lv_iload_n hx hb (dk kX3_search_0_ok 6 rfl) rfl (lv_at hl 1 rfl) ?_
  refine lv_iconst (v := nI 0) hx hb (dk kX3_search_0_ok 7 rfl) rfl ?_
  refine ast (roSet cI ad F k a (upd (fun _ => -1) w (nI 0)) q) (j := w) hx hb hK hDi hP hS hk2 roSet_at.2.2.1 rfl (by omega) (by decide) (dk kX3_search_0_ok 8 rfl) roSet_u2 (fun H locs hP hS => ?_)
  refine lv_aload_n hx hb (dk kX3_search_0_ok 9 rfl) rfl (lv_at hl 0 rfl) ?_
  refine gf hx hb hts (fun w h => List.mem_cons_of_mem _ (acX3 w h)) hown hK hP hk0 roSet_at.1 rfl 2 (by decide) (hts _ (List.mem_cons_of_mem _ (ac5 _ (List.mem_of_getElem? (i := 2) rfl)))) (fun _ h => h) rfl (dk kX3_search_0_ok 10 rfl) ?_
  refine lv_iconst (v := nI 0) hx hb (dk kX3_search_0_ok 11 rfl) rfl ?_
  refine lv_iload_n hx hb (dk kX3_search_0_ok 12 rfl) rfl (lv_at hl 1 rfl) ?_
  refine ast (roSet cI ad F k a (upd (fun _ => -1) w (nI 0)) (upd q 0 (nI w))) (j := 0) hx hb hK hDi hP hS hk3 roSet_at.2.2.2 rfl (by omega) (by decide) (dk kX3_search_0_ok 13 rfl) roSet_u3 (fun H locs hP hS => ?_)
  refine lv_iconst (v := nI 1) hx hb (dk kX3_search_0_ok 14 rfl) rfl ?_
  refine lv_istore_n (lv' := [(3, .int (nI 1)), (0, .ref (ad k)), (1, .int (nI w)), (2, .int (nI m9))]) hx hb (dk kX3_search_0_ok 15 rfl) rfl hl (by decide) rfl (fun ls hl => ?_)
  refine lv_iconst (v := nI 0) hx hb (dk kX3_search_0_ok 16 rfl) rfl ?_
  refine lv_istore (lv' := [(4, .int (nI 0)), (3, .int (nI 1)), (0, .ref (ad k)), (1, .int (nI w)), (2, .int (nI m9))]) hx hb (dk kX3_search_0_ok 17 rfl) hl (by decide) rfl (fun ls hl => ?_)
  have L27 : ∀ (fu : Nat) (kk n : Nat) (d2 q2 : Nat → Int32) (H : Heap) (locs : List Loc), va_P D vwCl (iW ad N (roSet cI ad F k a d2 q2)) H → va_S (iA ad N s.heap.size) s.heap H locs → kk ≤ 169 → n ≤ 169 → (∀ i, i < n → cell9 (q2 i)) → sea q w m9 = srO m9 (170 - kk) kk d2 q2 n → 170 - kk < fu → ∀ ls : Array Slot, lv_has ls 8 [(0, .ref (ad k)), (1, .int (nI w)), (2, .int (nI m9)), (3, .int (nI n)), (4, .int (nI kk))] → W p l e ({ frames := 2, cells := 0, slots := 0, locals := 49 } : Room) s m ([.ref (ad k), .int (nI w), .int (nI m9)] : List Value).toArray below meth cd H locs 0 0 Q (F0 m 27 ls []) := by
    intro fu
    induction fu with
    | zero => intros; omega
    | succ fu ih27 =>
      intro kk n d2 q2 H locs hP hS hkk hn hq2 hr hme27 ls hl
      refine lv_iload hx hb (dk kX3_search_0_ok 18 rfl) (lv_at hl 4 rfl) ?_
      refine lv_iload_n hx hb (dk kX3_search_0_ok 19 rfl) rfl (lv_at hl 3 rfl) ?_
      refine n_icmp_ge (tgt := 161) hx hb (by omega) (by omega) (dk kX3_search_0_ok 20 rfl) (by decide) (fun h1 => ?_) (fun h1 => ?_)
      · skip
        refine lv_iconst (v := -1) hx hb (dk kX3_search_1_ok 29 rfl) rfl ?_
        exact hret _ _ _ _ _ _ _ _ rfl (by first | (have e9 := srO_hit (i := 170 - (kk + 1)) (r := d3 (ix (q2 kk)) + nI 1) (d' := d3) (q' := q3) (n' := n3) h1 h2 (hri.trans (by rw [show 72 - f = (72 - (f + 1)) + 1 by omega]; simp only [srI, (eq_true h1), (eq_false (Nat.not_lt.mpr h1)), not_true_eq_false, not_false_eq_true, and_true, true_and, and_false, false_and, or_true, true_or, or_false, false_or, and_self, or_self, if_true, if_false, Bool.false_eq_true, reduceIte])); rw [← show 170 - kk = (170 - (kk + 1)) + 1 by omega, ← hr] at e9; rw [e9]; exact ⟨rfl, rfl⟩) | (have e9 := srO_end (m := m9) (i := 170 - (kk + 1)) (k := kk) (n := n) (d := d2) (q := q2) (by omega); rw [← show 170 - kk = (170 - (kk + 1)) + 1 by omega, ← hr] at e9; rw [e9]; exact ⟨rfl, rfl⟩)) hP hS (by decide) (by decide) (dk kX3_search_1_ok 30 rfl)
      · skip
        refine lv_iload hx hb (dk kX3_search_0_ok 21 rfl) (lv_at hl 4 rfl) ?_
        refine lv_sipush (v := nI 169) hx hb (dk kX3_search_0_ok 22 rfl) rfl ?_
        refine n_icmp_ge (tgt := 161) hx hb (by omega) (by decide) (dk kX3_search_0_ok 23 rfl) (by decide) (fun h2 => ?_) (fun h2 => ?_)
        · skip
          refine lv_iconst (v := -1) hx hb (dk kX3_search_1_ok 29 rfl) rfl ?_
          exact hret _ _ _ _ _ _ _ _ rfl (by first | (have e9 := srO_hit (i := 170 - (kk + 1)) (r := d3 (ix (q2 kk)) + nI 1) (d' := d3) (q' := q3) (n' := n3) h1 h2 (hri.trans (by rw [show 72 - f = (72 - (f + 1)) + 1 by omega]; simp only [srI, (eq_true h1), (eq_false (Nat.not_le.mpr h1)), (eq_true h2), (eq_false (Nat.not_lt.mpr h2)), not_true_eq_false, not_false_eq_true, and_true, true_and, and_false, false_and, or_true, true_or, or_false, false_or, and_self, or_self, if_true, if_false, Bool.false_eq_true, reduceIte])); rw [← show 170 - kk = (170 - (kk + 1)) + 1 by omega, ← hr] at e9; rw [e9]; exact ⟨rfl, rfl⟩) | (have e9 := srO_end (m := m9) (i := 170 - (kk + 1)) (k := kk) (n := n) (d := d2) (q := q2) (by omega); rw [← show 170 - kk = (170 - (kk + 1)) + 1 by omega, ← hr] at e9; rw [e9]; exact ⟨rfl, rfl⟩)) hP hS (by decide) (by decide) (dk kX3_search_1_ok 30 rfl)
        · skip
          refine lv_aload_n hx hb (dk kX3_search_0_ok 24 rfl) rfl (lv_at hl 0 rfl) ?_
          refine gf hx hb hts (fun w h => List.mem_cons_of_mem _ (acX3 w h)) hown hK hP hk0 roSet_at.1 rfl 2 (by decide) (hts _ (List.mem_cons_of_mem _ (ac5 _ (List.mem_of_getElem? (i := 2) rfl)))) (fun _ h => h) rfl (dk kX3_search_0_ok 25 rfl) ?_
          refine lv_iload hx hb (dk kX3_search_0_ok 26 rfl) (lv_at hl 4 rfl) ?_
          refine ald (j := kk) hx hb hK hP hk3 roSet_at.2.2.2 rfl (by omega) (by decide) (dk kX3_search_0_ok 27 rfl) ?_
          refine lv_istore (lv' := [(5, .int (q2 kk)), (0, .ref (ad k)), (1, .int (nI w)), (2, .int (nI m9)), (3, .int (nI n)), (4, .int (nI kk))]) hx hb (dk kX3_search_0_ok 28 rfl) hl (by decide) rfl (fun ls hl => ?_)
          refine lv_iconst (v := nI 0) hx hb (dk kX3_search_0_ok 29 rfl) rfl ?_
          refine lv_istore (lv' := [(6, .int (nI 0)), (5, .int (q2 kk)), (0, .ref (ad k)), (1, .int (nI w)), (2, .int (nI m9)), (3, .int (nI n)), (4, .int (nI kk))]) hx hb (dk kX3_search_0_ok 30 rfl) hl (by decide) rfl (fun ls hl => ?_)
          have L53 : ∀ (fu : Nat) (f n3 : Nat) (d3 q3 : Nat → Int32) (H : Heap) (locs : List Loc), va_P D vwCl (iW ad N (roSet cI ad F k a d3 q3)) H → va_S (iA ad N s.heap.size) s.heap H locs → f ≤ 72 → n3 ≤ 169 → (∀ i, i < n3 → cell9 (q3 i)) → srI m9 (q2 kk) 72 0 d2 q2 n = srI m9 (q2 kk) (72 - f) f d3 q3 n3 → 72 - f < fu → ∀ ls : Array Slot, lv_has ls 8 [(0, .ref (ad k)), (1, .int (nI w)), (2, .int (nI m9)), (3, .int (nI n3)), (4, .int (nI kk)), (5, .int (q2 kk)), (6, .int (nI f))] → W p l e ({ frames := 2, cells := 0, slots := 0, locals := 49 } : Room) s m ([.ref (ad k), .int (nI w), .int (nI m9)] : List Value).toArray below meth cd H locs 0 0 Q (F0 m 53 ls []) := by
            intro fu
            induction fu with
            | zero => intros; omega
            | succ fu ih53 =>
              intro f n3 d3 q3 H locs hP hS hf hn3 hq3 hri hme53 ls hl
              have hc : cell9 (q2 kk) := hq2 kk h1
              refine lv_iload hx hb (dk kX3_search_0_ok 31 rfl) (lv_at hl 6 rfl) ?_
              refine lv_bipush (v := nI 72) hx hb (dk kX3_search_0_ok 32 rfl) rfl ?_
              refine n_icmp_ge (tgt := 155) hx hb (by omega) (by decide) (dk kX3_search_0_ok 33 rfl) (by decide) (fun h3 => ?_) (fun h3 => ?_)
              · skip
                refine lv_iinc (v := nI (kk + 1)) (lv' := [(4, .int (nI (kk + 1))), (0, .ref (ad k)), (1, .int (nI w)), (2, .int (nI m9)), (3, .int (nI n3)), (5, .int (q2 kk)), (6, .int (nI f))]) hx hb (dk kX3_search_1_ok 27 rfl) hl (k := 4) rfl (n_inc _) (by decide) rfl (fun ls hl => ?_)
                refine lv_goto (tgt := 27) hx hb (dk kX3_search_1_ok 28 rfl) (by decide) ?_
                exact ih27 (kk + 1) n3 d3 q3 _ _ hP hS (by omega) (by omega) (by exact hq3) (by rw [hr, show 170 - kk = (170 - (kk + 1)) + 1 by omega]; exact srO_miss h1 h2 (hri.trans (by rw [show 72 - f = 0 by omega]; rfl))) (by omega) ls (lv_sub hl [1, 2, 3, 4, 0] rfl)
              · skip
                refine lv_iload hx hb (dk kX3_search_0_ok 34 rfl) (lv_at hl 5 rfl) ?_
                refine lv_iload hx hb (dk kX3_search_0_ok 35 rfl) (lv_at hl 6 rfl) ?_
                refine lv_bipush (v := nI 9) hx hb (dk kX3_search_0_ok 36 rfl) rfl ?_
                refine n_idiv hx hb (by omega) (by decide) (by decide) (dk kX3_search_0_ok 37 rfl) ?_
                refine lv_iload hx hb (dk kX3_search_0_ok 38 rfl) (lv_at hl 6 rfl) ?_
                refine lv_bipush (v := nI 9) hx hb (dk kX3_search_0_ok 39 rfl) rfl ?_
                refine n_irem hx hb (by omega) (by decide) (by decide) (dk kX3_search_0_ok 40 rfl) ?_
                refine lv_iconst (v := nI 1) hx hb (dk kX3_search_0_ok 41 rfl) rfl ?_
                refine n_iadd hx hb (dk kX3_search_0_ok 42 rfl) ?_
                refine lv_iload_n hx hb (dk kX3_search_0_ok 43 rfl) rfl (lv_at hl 2 rfl) ?_
                refine n_iadd hx hb (dk kX3_search_0_ok 44 rfl) ?_
                refine csPN (As := [.int (q2 kk), .int (nI (f / 9)), .int (nI (((f % 9) + 1) + m9))]) (rest := []) ⟨hx, hb, hml, hown, hts⟩ (tX5_landing l (q2 kk) (nI (f / 9)) (nI (((f % 9) + 1) + m9)) (((f % 9) + 1) + m9) rfl (by omega)) (cwN9 3 hts mcX5_landing (nm8 hNW) mini_RX5 rfl rfl hdX5_landing ⟨Nat.le_of_ble_eq_true rfl, Nat.le_of_ble_eq_true rfl⟩) (hts _ (List.mem_cons_of_mem _ msX5_landing)) rfl hl.1 rfl (Nat.le_of_ble_eq_true rfl) (by decide) (dk kX3_search_0_ok 45 rfl) ?_
                refine lv_istore (lv' := [(7, .int (ldg (q2 kk) (nI (f / 9)) (((f % 9) + 1) + m9))), (0, .ref (ad k)), (1, .int (nI w)), (2, .int (nI m9)), (3, .int (nI n3)), (4, .int (nI kk)), (5, .int (q2 kk)), (6, .int (nI f))]) hx hb (dk kX3_search_0_ok 46 rfl) hl (by decide) rfl (fun ls hl => ?_)
                refine lv_iload hx hb (dk kX3_search_0_ok 47 rfl) (lv_at hl 0 rfl) ?_
                refine lv_bipush (v := nI 84) hx hb (dk kX3_search_0_ok 48 rfl) rfl ?_
                refine lv_icmp_ne (tgt := 98) hx hb (dk kX3_search_0_ok 49 rfl) (by decide) (fun h4 => ?_) (fun h4 => ?_)
                · skip
                  refine lv_iload hx hb (dk kX3_search_0_ok 57 rfl) (lv_at hl 0 rfl) ?_
                  refine lv_iconst (v := -1) hx hb (dk kX3_search_0_ok 58 rfl) rfl ?_
                  refine lv_icmp_eq (tgt := 149) hx hb (dk kX3_search_0_ok 59 rfl) (by decide) (fun h5 => ?_) (fun h5 => ?_)
                  · skip
                    refine lv_iinc (v := nI (f + 1)) (lv' := [(6, .int (nI (f + 1))), (7, .int (ldg (q2 kk) (nI (f / 9)) (((f % 9) + 1) + m9))), (0, .ref (ad k)), (1, .int (nI w)), (2, .int (nI m9)), (3, .int (nI n3)), (4, .int (nI kk)), (5, .int (q2 kk))]) hx hb (dk kX3_search_1_ok 25 rfl) hl (k := 7) rfl (n_inc _) (by decide) rfl (fun ls hl => ?_)
                    refine lv_goto (tgt := 53) hx hb (dk kX3_search_1_ok 26 rfl) (by decide) ?_
                    exact ih53 (f + 1) n3 d3 q3 _ _ hP hS (by omega) (by omega) (by first | exact hq3 | (intro i hi; unfold upd; split; exact (ldg_cell hc _ _).resolve_left (by assumption); exact hq3 i (by omega))) (by rw [hri, show 72 - f = (72 - (f + 1)) + 1 by omega]; simp only [srI, (eq_true h1), (eq_false (Nat.not_le.mpr h1)), (eq_true h2), (eq_false (Nat.not_le.mpr h2)), (eq_true h3), (eq_false (Nat.not_le.mpr h3)), (eq_false h4), (eq_true h5), not_true_eq_false, not_false_eq_true, and_true, true_and, and_false, false_and, or_true, true_or, or_false, false_or, and_self, or_self, if_true, if_false, Bool.false_eq_true, reduceIte]) (by omega) ls (lv_sub hl [2, 3, 4, 5, 6, 7, 0] rfl)
                  · skip
                    refine lv_aload_n hx hb (dk kX3_search_1_ok 0 rfl) rfl (lv_at hl 1 rfl) ?_
                    refine gf hx hb hts (fun w h => List.mem_cons_of_mem _ (acX3 w h)) hown hK hP hk0 roSet_at.1 rfl 1 (by decide) (hts _ (List.mem_cons_of_mem _ (ac5 _ (List.mem_of_getElem? (i := 1) rfl)))) (fun _ h => h) rfl (dk kX3_search_1_ok 1 rfl) ?_
                    refine lv_iload hx hb (dk kX3_search_1_ok 2 rfl) (lv_at hl 0 rfl) ?_
                    refine ald (j := (ix (ldg (q2 kk) (nI (f / 9)) (((f % 9) + 1) + m9)))) hx hb hK hP hk2 roSet_at.2.2.1 (cell9_ix ((ldg_cell hc _ _).resolve_left h5)).1 (cell9_ix ((ldg_cell hc _ _).resolve_left h5)).2 (by decide) (dk kX3_search_1_ok 3 rfl) ?_
                    refine lv_iconst (v := -1) hx hb (dk kX3_search_1_ok 4 rfl) rfl ?_
                    refine lv_icmp_ne (tgt := 149) hx hb (dk kX3_search_1_ok 5 rfl) (by decide) (fun h6 => ?_) (fun h6 => ?_)
                    · skip
                      refine lv_iinc (v := nI (f + 1)) (lv' := [(6, .int (nI (f + 1))), (7, .int (ldg (q2 kk) (nI (f / 9)) (((f % 9) + 1) + m9))), (0, .ref (ad k)), (1, .int (nI w)), (2, .int (nI m9)), (3, .int (nI n3)), (4, .int (nI kk)), (5, .int (q2 kk))]) hx hb (dk kX3_search_1_ok 25 rfl) hl (k := 7) rfl (n_inc _) (by decide) rfl (fun ls hl => ?_)
                      refine lv_goto (tgt := 53) hx hb (dk kX3_search_1_ok 26 rfl) (by decide) ?_
                      exact ih53 (f + 1) n3 d3 q3 _ _ hP hS (by omega) (by omega) (by first | exact hq3 | (intro i hi; unfold upd; split; exact (ldg_cell hc _ _).resolve_left (by assumption); exact hq3 i (by omega))) (by rw [hri, show 72 - f = (72 - (f + 1)) + 1 by omega]; simp only [srI, (eq_true h1), (eq_false (Nat.not_le.mpr h1)), (eq_true h2), (eq_false (Nat.not_le.mpr h2)), (eq_true h3), (eq_false (Nat.not_le.mpr h3)), (eq_false h4), (eq_false h5), (eq_false h6), not_true_eq_false, not_false_eq_true, and_true, true_and, and_false, false_and, or_true, true_or, or_false, false_or, and_self, or_self, if_true, if_false, Bool.false_eq_true, reduceIte]) (by omega) ls (lv_sub hl [2, 3, 4, 5, 6, 7, 0] rfl)
                    · skip
                      refine lv_iload_n hx hb (dk kX3_search_1_ok 6 rfl) rfl (lv_at hl 4 rfl) ?_
                      refine lv_sipush (v := nI 169) hx hb (dk kX3_search_1_ok 7 rfl) rfl ?_
                      refine n_icmp_ge (tgt := 149) hx hb (by omega) (by decide) (dk kX3_search_1_ok 8 rfl) (by decide) (fun h7 => ?_) (fun h7 => ?_)
                      · skip
                        refine lv_iinc (v := nI (f + 1)) (lv' := [(6, .int (nI (f + 1))), (7, .int (ldg (q2 kk) (nI (f / 9)) (((f % 9) + 1) + m9))), (0, .ref (ad k)), (1, .int (nI w)), (2, .int (nI m9)), (3, .int (nI n3)), (4, .int (nI kk)), (5, .int (q2 kk))]) hx hb (dk kX3_search_1_ok 25 rfl) hl (k := 7) rfl (n_inc _) (by decide) rfl (fun ls hl => ?_)
                        refine lv_goto (tgt := 53) hx hb (dk kX3_search_1_ok 26 rfl) (by decide) ?_
                        exact ih53 (f + 1) n3 d3 q3 _ _ hP hS (by omega) (by omega) (by first | exact hq3 | (intro i hi; unfold upd; split; exact (ldg_cell hc _ _).resolve_left (by assumption); exact hq3 i (by omega))) (by rw [hri, show 72 - f = (72 - (f + 1)) + 1 by omega]; simp only [srI, (eq_true h1), (eq_false (Nat.not_le.mpr h1)), (eq_true h2), (eq_false (Nat.not_le.mpr h2)), (eq_true h3), (eq_false (Nat.not_le.mpr h3)), (eq_false h4), (eq_false h5), (eq_true h6), (eq_true h7), (eq_false (Nat.not_lt.mpr h7)), not_true_eq_false, not_false_eq_true, and_true, true_and, and_false, false_and, or_true, true_or, or_false, false_or, and_self, or_self, if_true, if_false, Bool.false_eq_true, reduceIte]) (by omega) ls (lv_sub hl [2, 3, 4, 5, 6, 7, 0] rfl)
                      · skip
                        refine lv_aload_n hx hb (dk kX3_search_1_ok 9 rfl) rfl (lv_at hl 1 rfl) ?_
                        refine gf hx hb hts (fun w h => List.mem_cons_of_mem _ (acX3 w h)) hown hK hP hk0 roSet_at.1 rfl 1 (by decide) (hts _ (List.mem_cons_of_mem _ (ac5 _ (List.mem_of_getElem? (i := 1) rfl)))) (fun _ h => h) rfl (dk kX3_search_1_ok 10 rfl) ?_
                        refine lv_iload hx hb (dk kX3_search_1_ok 11 rfl) (lv_at hl 0 rfl) ?_
                        refine lv_aload_n hx hb (dk kX3_search_1_ok 12 rfl) rfl (lv_at hl 1 rfl) ?_
                        refine gf hx hb hts (fun w h => List.mem_cons_of_mem _ (acX3 w h)) hown hK hP hk0 roSet_at.1 rfl 1 (by decide) (hts _ (List.mem_cons_of_mem _ (ac5 _ (List.mem_of_getElem? (i := 1) rfl)))) (fun _ h => h) rfl (dk kX3_search_1_ok 13 rfl) ?_
                        refine lv_iload hx hb (dk kX3_search_1_ok 14 rfl) (lv_at hl 6 rfl) ?_
                        refine ald (j := (ix (q2 kk))) hx hb hK hP hk2 roSet_at.2.2.1 (cell9_ix hc).1 (cell9_ix hc).2 (by decide) (dk kX3_search_1_ok 15 rfl) ?_
                        refine lv_iconst (v := nI 1) hx hb (dk kX3_search_1_ok 16 rfl) rfl ?_
                        refine lv_iadd hx hb (dk kX3_search_1_ok 17 rfl) ?_
                        refine ast (roSet cI ad F k a (upd d3 (ix (ldg (q2 kk) (nI (f / 9)) (((f % 9) + 1) + m9))) ((d3 (ix (q2 kk))) + (nI 1))) q3) (j := (ix (ldg (q2 kk) (nI (f / 9)) (((f % 9) + 1) + m9)))) hx hb hK hDi hP hS hk2 roSet_at.2.2.1 (cell9_ix ((ldg_cell hc _ _).resolve_left h5)).1 (cell9_ix ((ldg_cell hc _ _).resolve_left h5)).2 (by decide) (dk kX3_search_1_ok 18 rfl) roSet_u2 (fun H locs hP hS => ?_)
                        refine lv_aload_n hx hb (dk kX3_search_1_ok 19 rfl) rfl (lv_at hl 1 rfl) ?_
                        refine gf hx hb hts (fun w h => List.mem_cons_of_mem _ (acX3 w h)) hown hK hP hk0 roSet_at.1 rfl 2 (by decide) (hts _ (List.mem_cons_of_mem _ (ac5 _ (List.mem_of_getElem? (i := 2) rfl)))) (fun _ h => h) rfl (dk kX3_search_1_ok 20 rfl) ?_
                        refine lv_iload_n hx hb (dk kX3_search_1_ok 21 rfl) rfl (lv_at hl 4 rfl) ?_
                        refine lv_iload hx hb (dk kX3_search_1_ok 22 rfl) (lv_at hl 0 rfl) ?_
                        refine ast (roSet cI ad F k a (upd d3 (ix (ldg (q2 kk) (nI (f / 9)) (((f % 9) + 1) + m9))) ((d3 (ix (q2 kk))) + (nI 1))) (upd q3 n3 (ldg (q2 kk) (nI (f / 9)) (((f % 9) + 1) + m9)))) (j := n3) hx hb hK hDi hP hS hk3 roSet_at.2.2.2 rfl (by omega) (by decide) (dk kX3_search_1_ok 23 rfl) roSet_u3 (fun H locs hP hS => ?_)
                        refine lv_iinc (v := nI (n3 + 1)) (lv' := [(3, .int (nI (n3 + 1))), (7, .int (ldg (q2 kk) (nI (f / 9)) (((f % 9) + 1) + m9))), (0, .ref (ad k)), (1, .int (nI w)), (2, .int (nI m9)), (4, .int (nI kk)), (5, .int (q2 kk)), (6, .int (nI f))]) hx hb (dk kX3_search_1_ok 24 rfl) hl (k := 4) rfl (n_inc _) (by decide) rfl (fun ls hl => ?_)
                        refine lv_iinc (v := nI (f + 1)) (lv' := [(6, .int (nI (f + 1))), (3, .int (nI (n3 + 1))), (7, .int (ldg (q2 kk) (nI (f / 9)) (((f % 9) + 1) + m9))), (0, .ref (ad k)), (1, .int (nI w)), (2, .int (nI m9)), (4, .int (nI kk)), (5, .int (q2 kk))]) hx hb (dk kX3_search_1_ok 25 rfl) hl (k := 7) rfl (n_inc _) (by decide) rfl (fun ls hl => ?_)
                        refine lv_goto (tgt := 53) hx hb (dk kX3_search_1_ok 26 rfl) (by decide) ?_
                        exact ih53 (f + 1) (n3 + 1) (upd d3 (ix (ldg (q2 kk) (nI (f / 9)) (((f % 9) + 1) + m9))) ((d3 (ix (q2 kk))) + (nI 1))) (upd q3 n3 (ldg (q2 kk) (nI (f / 9)) (((f % 9) + 1) + m9))) _ _ hP hS (by omega) (by omega) (by first | exact hq3 | (intro i hi; unfold upd; split; exact (ldg_cell hc _ _).resolve_left (by assumption); exact hq3 i (by omega))) (by rw [hri, show 72 - f = (72 - (f + 1)) + 1 by omega]; simp only [srI, (eq_true h1), (eq_false (Nat.not_le.mpr h1)), (eq_true h2), (eq_false (Nat.not_le.mpr h2)), (eq_true h3), (eq_false (Nat.not_le.mpr h3)), (eq_false h4), (eq_false h5), (eq_true h6), (eq_true h7), (eq_false (Nat.not_le.mpr h7)), not_true_eq_false, not_false_eq_true, and_true, true_and, and_false, false_and, or_true, true_or, or_false, false_or, and_self, or_self, if_true, if_false, Bool.false_eq_true, reduceIte]) (by omega) ls (lv_sub hl [3, 4, 5, 1, 6, 7, 0] rfl)
                · skip
                  refine lv_aload_n hx hb (dk kX3_search_0_ok 50 rfl) rfl (lv_at hl 1 rfl) ?_
                  refine gf hx hb hts (fun w h => List.mem_cons_of_mem _ (acX3 w h)) hown hK hP hk0 roSet_at.1 rfl 1 (by decide) (hts _ (List.mem_cons_of_mem _ (ac5 _ (List.mem_of_getElem? (i := 1) rfl)))) (fun _ h => h) rfl (dk kX3_search_0_ok 51 rfl) ?_
                  refine lv_iload hx hb (dk kX3_search_0_ok 52 rfl) (lv_at hl 6 rfl) ?_
                  refine ald (j := (ix (q2 kk))) hx hb hK hP hk2 roSet_at.2.2.1 (cell9_ix hc).1 (cell9_ix hc).2 (by decide) (dk kX3_search_0_ok 53 rfl) ?_
                  refine lv_iconst (v := nI 1) hx hb (dk kX3_search_0_ok 54 rfl) rfl ?_
                  refine lv_iadd hx hb (dk kX3_search_0_ok 55 rfl) ?_
                  exact hret _ _ _ _ _ _ _ _ rfl (by first | (have e9 := srO_hit (i := 170 - (kk + 1)) (r := d3 (ix (q2 kk)) + nI 1) (d' := d3) (q' := q3) (n' := n3) h1 h2 (hri.trans (by rw [show 72 - f = (72 - (f + 1)) + 1 by omega]; simp only [srI, (eq_true h1), (eq_false (Nat.not_le.mpr h1)), (eq_true h2), (eq_false (Nat.not_le.mpr h2)), (eq_true h3), (eq_false (Nat.not_le.mpr h3)), (eq_true h4), not_true_eq_false, not_false_eq_true, and_true, true_and, and_false, false_and, or_true, true_or, or_false, false_or, and_self, or_self, if_true, if_false, Bool.false_eq_true, reduceIte])); rw [← show 170 - kk = (170 - (kk + 1)) + 1 by omega, ← hr] at e9; rw [e9]; exact ⟨rfl, rfl⟩) | (have e9 := srO_end (m := m9) (i := 170 - (kk + 1)) (k := kk) (n := n) (d := d2) (q := q2) (by omega); rw [← show 170 - kk = (170 - (kk + 1)) + 1 by omega, ← hr] at e9; rw [e9]; exact ⟨rfl, rfl⟩)) hP hS (by decide) (by decide) (dk kX3_search_0_ok 56 rfl)
          exact L53 _ 0 n d2 q2 _ _ hP hS (by omega) (by omega) (by exact hq2) (by rfl) (Nat.lt_succ_self _) ls (lv_sub hl [2, 3, 4, 5, 6, 1, 0] rfl)
  exact L27 _ 0 1 (srD w) (upd q 0 (nI w)) _ _ hP hS (by omega) (by omega) (by intro i hi; rw [show i = 0 by omega]; exact ⟨w, hw, by simp [upd]⟩) (by rfl) (Nat.lt_succ_self _) ls (lv_sub hl [2, 3, 4, 1, 0] rfl)
