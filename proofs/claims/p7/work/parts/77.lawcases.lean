set_option maxRecDepth 100000 in
set_option maxHeartbeats 4000000 in
theorem lw_fly {p : Program} {l : Launch} {e : Env} {s : State} {m : MethodId} {below : List Frame} {meth : Method} {c : Code} {H : Heap} {locs : List Loc} {cells slots : Nat} {Q : State → Prop} {ls : Array Slot} {D : va_G} {cI cQ cL : ClassId} {F : Nat → va_E} {b L i : Nat} {xs : Nat → Int32} {INV : (Nat → va_E) → Prop} (hC : LX p s m c b L xs D cI cQ cL) (hi : i + 5 ≤ L) (hP : va_P D vwCl (iW (pb s.heap.size) 86 F) H) (hS : va_S (iA (pb s.heap.size) 86 s.heap.size) s.heap H locs) (hcell : cells + 1 ≤ 601024) (hslot : slots + 6 ≤ 7293034) (hl : lv_has ls 9 (lvL b s.heap.size i)) (ST : STw0 l D cI cQ cL (pb s.heap.size) 86 yL_fly cL_fly 6 [(0, 12, 15, 13), (0, 12, 19, 15), (0, 12, 23, 17)] yX6_fly cX6_fly 4 F INV [.int (xs (i + 1)), .int (xs (i + 2)), .int (xs (i + 3))]) (kend : ∀ (G : Nat → va_E) (H1 : Heap) (locs1 : List Loc) (ls1 : Array Slot), INV G → va_P D vwCl (iW (pb s.heap.size) 86 G) H1 → va_S (iA (pb s.heap.size) 86 s.heap.size) s.heap H1 locs1 → lv_has ls1 9 (lvL b s.heap.size i) → W p l e room_1 s m #[Value.ref b] below meth c H1 locs1 (cells + 1) (slots + 6) Q (F0 m 881 ls1 [])) : W p l e room_1 s m #[Value.ref b] below meth c H locs cells slots Q (F0 m 144 ls []) := by
  obtain ⟨hx, hb, hml, hown, hts, hK, hNW, hX, hXN, hXs, hbl, hL30⟩ := hC
  have hDi : iD (pb s.heap.size) 86 := pb_D
  obtain ⟨kk, F1, fs, post, rm6, hML, h77, hM6, e1, e2, e3, e4, hq⟩ := ST
  refine lv_aload_n hx hb (dk kL_law_0_ok 25 rfl) rfl (lv_at hl 1 rfl) ?_
  refine lv_aload_n hx hb (dk kL_law_0_ok 26 rfl) rfl (lv_at hl 0 rfl) ?_
  refine lv_iload hx hb (dk kL_law_0_ok 27 rfl) (lv_at hl 4 rfl) ?_
  refine lv_iconst (v := nI 1) hx hb (dk kL_law_0_ok 28 rfl) rfl ?_
  refine n_iadd hx hb (dk kL_law_0_ok 29 rfl) ?_
  refine sld hx hb hXs hbl hL30 hS (i + 1) rfl (by omega) (dk kL_law_0_ok 30 rfl) ?_
  refine lv_aload_n hx hb (dk kL_law_0_ok 31 rfl) rfl (lv_at hl 0 rfl) ?_
  refine lv_iload hx hb (dk kL_law_0_ok 32 rfl) (lv_at hl 4 rfl) ?_
  refine lv_iconst (v := nI 2) hx hb (dk kL_law_0_ok 33 rfl) rfl ?_
  refine n_iadd hx hb (dk kL_law_0_ok 34 rfl) ?_
  refine sld hx hb hXs hbl hL30 hS (i + 2) rfl (by omega) (dk kL_law_0_ok 35 rfl) ?_
  refine lv_aload_n hx hb (dk kL_law_0_ok 36 rfl) rfl (lv_at hl 0 rfl) ?_
  refine lv_iload hx hb (dk kL_law_0_ok 37 rfl) (lv_at hl 4 rfl) ?_
  refine lv_iconst (v := nI 3) hx hb (dk kL_law_0_ok 38 rfl) rfl ?_
  refine n_iadd hx hb (dk kL_law_0_ok 39 rfl) ?_
  refine sld hx hb hXs hbl hL30 hS (i + 3) rfl (by omega) (dk kL_law_0_ok 40 rfl) ?_
  refine lv_aload_n hx hb (dk kL_law_0_ok 41 rfl) rfl (lv_at hl 3 rfl) ?_
  refine csL (As := [.ref (pb s.heap.size 0), .int (xs (i + 1)), .int (xs (i + 2)), .int (xs (i + 3)), .ref (pb s.heap.size 85)]) (rest := []) ⟨hx, hb, hml, hown, hts⟩ hML (vx_cwSW 5 hts (gInLS (lc0 _ (List.mem_of_getElem? (i := 23) rfl)) msL_fly mini_RL mcL_fly) rfl rfl rfl hdL_fly ⟨Nat.le_of_ble_eq_true rfl, Nat.le_of_ble_eq_true rfl⟩) hDi hK hP hNW hS hX hXN rfl hl.1 rfl (Nat.le_of_ble_eq_true rfl) ⟨hcell, hslot⟩ (dk kL_law_0_ok 42 rfl) (fun H locs hP hS => ?_)
  refine lv_istore (lv' := [(5, .int (nI kk)), (0, .ref b), (1, .ref (pb s.heap.size 0)), (2, .ref (pb s.heap.size 77)), (3, .ref (pb s.heap.size 85)), (4, .int (nI i))]) hx hb (dk kL_law_0_ok 43 rfl) hl (by decide) rfl (fun ls hl => ?_)
  refine lv_aload_n hx hb (dk kL_law_0_ok 44 rfl) rfl (lv_at hl 3 rfl) ?_
  refine lv_aload_n hx hb (dk kL_law_0_ok 45 rfl) rfl (lv_at hl 1 rfl) ?_
  refine lv_iload hx hb (dk kL_law_0_ok 46 rfl) (lv_at hl 5 rfl) ?_
  refine lv_iconst (v := nI 1) hx hb (dk kL_law_0_ok 47 rfl) rfl ?_
  refine n_iadd hx hb (dk kL_law_0_ok 48 rfl) ?_
  refine sld hx hb hXs hbl hL30 hS (i + 1) rfl (by omega) (dk kL_law_0_ok 49 rfl) ?_
  refine lv_aload_n hx hb (dk kL_law_0_ok 50 rfl) rfl (lv_at hl 1 rfl) ?_
  refine lv_iload hx hb (dk kL_law_0_ok 51 rfl) (lv_at hl 5 rfl) ?_
  refine lv_iconst (v := nI 2) hx hb (dk kL_law_0_ok 52 rfl) rfl ?_
  refine n_iadd hx hb (dk kL_law_0_ok 53 rfl) ?_
  refine sld hx hb hXs hbl hL30 hS (i + 2) rfl (by omega) (dk kL_law_0_ok 54 rfl) ?_
  refine lv_aload_n hx hb (dk kL_law_0_ok 55 rfl) rfl (lv_at hl 1 rfl) ?_
  refine lv_iload hx hb (dk kL_law_0_ok 56 rfl) (lv_at hl 5 rfl) ?_
  refine lv_iconst (v := nI 3) hx hb (dk kL_law_0_ok 57 rfl) rfl ?_
  refine n_iadd hx hb (dk kL_law_0_ok 58 rfl) ?_
  refine sld hx hb hXs hbl hL30 hS (i + 3) rfl (by omega) (dk kL_law_0_ok 59 rfl) ?_
  refine cvW (As := [.int (xs (i + 1)), .int (xs (i + 2)), .int (xs (i + 3))]) (rest := []) ⟨hx, hb, hml, hown, hts⟩ hM6 (cwVL 3 hts mcX6_fly (lc1 _ (List.mem_of_getElem? (i := 3) rfl)) miX6_fly meX6_fly mini_RX6 e1 e2 hdX6_fly ⟨e3, e4⟩) hDi hK hP hNW hS (k := 77) (by decide) h77 rfl rfl hl.1 rfl (Nat.le_of_ble_eq_true rfl) ⟨hcell, hslot⟩ (dk kL_law_1_ok 0 rfl) (fun v G H locs hp hP hS => ?_)
  obtain ⟨⟨b9, rfl⟩, hINV⟩ := hq v G hp
  refine W.eq (g2 := F0 m 191 ls [.int b9]) rfl ?_
  refine lv_istore (lv' := [(6, .int b9), (5, .int (nI kk)), (0, .ref b), (1, .ref (pb s.heap.size 0)), (2, .ref (pb s.heap.size 77)), (3, .ref (pb s.heap.size 85)), (4, .int (nI i))]) hx hb (dk kL_law_1_ok 1 rfl) hl (by decide) rfl (fun ls hl => ?_)
  exact lv_goto (tgt := 881) hx hb (dk kL_law_1_ok 2 rfl) (by decide) (kend G H locs ls hINV hP hS (lv_sub hl [2, 3, 4, 5, 6] rfl))
set_option maxRecDepth 100000 in
set_option maxHeartbeats 4000000 in
theorem lw_lift {p : Program} {l : Launch} {e : Env} {s : State} {m : MethodId} {below : List Frame} {meth : Method} {c : Code} {H : Heap} {locs : List Loc} {cells slots : Nat} {Q : State → Prop} {ls : Array Slot} {D : va_G} {cI cQ cL : ClassId} {F : Nat → va_E} {b L i : Nat} {xs : Nat → Int32} {INV : (Nat → va_E) → Prop} (hC : LX p s m c b L xs D cI cQ cL) (hi : i + 5 ≤ L) (hP : va_P D vwCl (iW (pb s.heap.size) 86 F) H) (hS : va_S (iA (pb s.heap.size) 86 s.heap.size) s.heap H locs) (hcell : cells + 1 ≤ 601024) (hslot : slots + 6 ≤ 7293034) (hl : lv_has ls 9 (lvL b s.heap.size i)) (ST : STw0 l D cI cQ cL (pb s.heap.size) 86 yL_lift cL_lift 7 [(0, 14, 17, 13), (0, 14, 21, 15), (0, 14, 25, 17)] yX6_lift cX6_lift 5 F INV [.int (xs (i + 1)), .int (xs (i + 2)), .int (xs (i + 3)), .int (xs (i + 4))]) (kend : ∀ (G : Nat → va_E) (H1 : Heap) (locs1 : List Loc) (ls1 : Array Slot), INV G → va_P D vwCl (iW (pb s.heap.size) 86 G) H1 → va_S (iA (pb s.heap.size) 86 s.heap.size) s.heap H1 locs1 → lv_has ls1 9 (lvL b s.heap.size i) → W p l e room_1 s m #[Value.ref b] below meth c H1 locs1 (cells + 1) (slots + 6) Q (F0 m 881 ls1 [])) : W p l e room_1 s m #[Value.ref b] below meth c H locs cells slots Q (F0 m 196 ls []) := by
  obtain ⟨hx, hb, hml, hown, hts, hK, hNW, hX, hXN, hXs, hbl, hL30⟩ := hC
  have hDi : iD (pb s.heap.size) 86 := pb_D
  obtain ⟨kk, F1, fs, post, rm6, hML, h77, hM6, e1, e2, e3, e4, hq⟩ := ST
  refine lv_aload_n hx hb (dk kL_law_1_ok 3 rfl) rfl (lv_at hl 1 rfl) ?_
  refine lv_aload_n hx hb (dk kL_law_1_ok 4 rfl) rfl (lv_at hl 0 rfl) ?_
  refine lv_iload hx hb (dk kL_law_1_ok 5 rfl) (lv_at hl 4 rfl) ?_
  refine lv_iconst (v := nI 1) hx hb (dk kL_law_1_ok 6 rfl) rfl ?_
  refine n_iadd hx hb (dk kL_law_1_ok 7 rfl) ?_
  refine sld hx hb hXs hbl hL30 hS (i + 1) rfl (by omega) (dk kL_law_1_ok 8 rfl) ?_
  refine lv_aload_n hx hb (dk kL_law_1_ok 9 rfl) rfl (lv_at hl 0 rfl) ?_
  refine lv_iload hx hb (dk kL_law_1_ok 10 rfl) (lv_at hl 4 rfl) ?_
  refine lv_iconst (v := nI 2) hx hb (dk kL_law_1_ok 11 rfl) rfl ?_
  refine n_iadd hx hb (dk kL_law_1_ok 12 rfl) ?_
  refine sld hx hb hXs hbl hL30 hS (i + 2) rfl (by omega) (dk kL_law_1_ok 13 rfl) ?_
  refine lv_aload_n hx hb (dk kL_law_1_ok 14 rfl) rfl (lv_at hl 0 rfl) ?_
  refine lv_iload hx hb (dk kL_law_1_ok 15 rfl) (lv_at hl 4 rfl) ?_
  refine lv_iconst (v := nI 3) hx hb (dk kL_law_1_ok 16 rfl) rfl ?_
  refine n_iadd hx hb (dk kL_law_1_ok 17 rfl) ?_
  refine sld hx hb hXs hbl hL30 hS (i + 3) rfl (by omega) (dk kL_law_1_ok 18 rfl) ?_
  refine lv_aload_n hx hb (dk kL_law_1_ok 19 rfl) rfl (lv_at hl 0 rfl) ?_
  refine lv_iload hx hb (dk kL_law_1_ok 20 rfl) (lv_at hl 4 rfl) ?_
  refine lv_iconst (v := nI 4) hx hb (dk kL_law_1_ok 21 rfl) rfl ?_
  refine n_iadd hx hb (dk kL_law_1_ok 22 rfl) ?_
  refine sld hx hb hXs hbl hL30 hS (i + 4) rfl (by omega) (dk kL_law_1_ok 23 rfl) ?_
  refine lv_aload_n hx hb (dk kL_law_1_ok 24 rfl) rfl (lv_at hl 3 rfl) ?_
  refine csL (As := [.ref (pb s.heap.size 0), .int (xs (i + 1)), .int (xs (i + 2)), .int (xs (i + 3)), .int (xs (i + 4)), .ref (pb s.heap.size 85)]) (rest := []) ⟨hx, hb, hml, hown, hts⟩ hML (vx_cwSW 6 hts (gInLS (lc1 _ (List.mem_of_getElem? (i := 4) rfl)) msL_lift mini_RL mcL_lift) rfl rfl rfl hdL_lift ⟨Nat.le_of_ble_eq_true rfl, Nat.le_of_ble_eq_true rfl⟩) hDi hK hP hNW hS hX hXN rfl hl.1 rfl (Nat.le_of_ble_eq_true rfl) ⟨hcell, hslot⟩ (dk kL_law_1_ok 25 rfl) (fun H locs hP hS => ?_)
  refine lv_istore (lv' := [(5, .int (nI kk)), (0, .ref b), (1, .ref (pb s.heap.size 0)), (2, .ref (pb s.heap.size 77)), (3, .ref (pb s.heap.size 85)), (4, .int (nI i))]) hx hb (dk kL_law_1_ok 26 rfl) hl (by decide) rfl (fun ls hl => ?_)
  refine lv_aload_n hx hb (dk kL_law_1_ok 27 rfl) rfl (lv_at hl 3 rfl) ?_
  refine lv_aload_n hx hb (dk kL_law_1_ok 28 rfl) rfl (lv_at hl 1 rfl) ?_
  refine lv_iload hx hb (dk kL_law_1_ok 29 rfl) (lv_at hl 5 rfl) ?_
  refine lv_iconst (v := nI 1) hx hb (dk kL_law_1_ok 30 rfl) rfl ?_
  refine n_iadd hx hb (dk kL_law_1_ok 31 rfl) ?_
  refine sld hx hb hXs hbl hL30 hS (i + 1) rfl (by omega) (dk kL_law_1_ok 32 rfl) ?_
  refine lv_aload_n hx hb (dk kL_law_1_ok 33 rfl) rfl (lv_at hl 1 rfl) ?_
  refine lv_iload hx hb (dk kL_law_1_ok 34 rfl) (lv_at hl 5 rfl) ?_
  refine lv_iconst (v := nI 2) hx hb (dk kL_law_1_ok 35 rfl) rfl ?_
  refine n_iadd hx hb (dk kL_law_1_ok 36 rfl) ?_
  refine sld hx hb hXs hbl hL30 hS (i + 2) rfl (by omega) (dk kL_law_1_ok 37 rfl) ?_
  refine lv_aload_n hx hb (dk kL_law_1_ok 38 rfl) rfl (lv_at hl 1 rfl) ?_
  refine lv_iload hx hb (dk kL_law_1_ok 39 rfl) (lv_at hl 5 rfl) ?_
  refine lv_iconst (v := nI 3) hx hb (dk kL_law_1_ok 40 rfl) rfl ?_
  refine n_iadd hx hb (dk kL_law_1_ok 41 rfl) ?_
  refine sld hx hb hXs hbl hL30 hS (i + 3) rfl (by omega) (dk kL_law_1_ok 42 rfl) ?_
  refine lv_aload_n hx hb (dk kL_law_1_ok 43 rfl) rfl (lv_at hl 1 rfl) ?_
  refine lv_iload hx hb (dk kL_law_1_ok 44 rfl) (lv_at hl 5 rfl) ?_
  refine lv_iconst (v := nI 4) hx hb (dk kL_law_1_ok 45 rfl) rfl ?_
  refine n_iadd hx hb (dk kL_law_1_ok 46 rfl) ?_
  refine sld hx hb hXs hbl hL30 hS (i + 4) rfl (by omega) (dk kL_law_1_ok 47 rfl) ?_
  refine cvW (As := [.int (xs (i + 1)), .int (xs (i + 2)), .int (xs (i + 3)), .int (xs (i + 4))]) (rest := []) ⟨hx, hb, hml, hown, hts⟩ hM6 (cwVL 4 hts mcX6_lift (lc1 _ (List.mem_of_getElem? (i := 7) rfl)) miX6_lift meX6_lift mini_RX6 e1 e2 hdX6_lift ⟨e3, e4⟩) hDi hK hP hNW hS (k := 77) (by decide) h77 rfl rfl hl.1 rfl (Nat.le_of_ble_eq_true rfl) ⟨hcell, hslot⟩ (dk kL_law_1_ok 48 rfl) (fun v G H locs hp hP hS => ?_)
  obtain ⟨⟨b9, rfl⟩, hINV⟩ := hq v G hp
  refine W.eq (g2 := F0 m 255 ls [.int b9]) rfl ?_
  refine lv_istore (lv' := [(6, .int b9), (5, .int (nI kk)), (0, .ref b), (1, .ref (pb s.heap.size 0)), (2, .ref (pb s.heap.size 77)), (3, .ref (pb s.heap.size 85)), (4, .int (nI i))]) hx hb (dk kL_law_1_ok 49 rfl) hl (by decide) rfl (fun ls hl => ?_)
  exact lv_goto (tgt := 881) hx hb (dk kL_law_1_ok 50 rfl) (by decide) (kend G H locs ls hINV hP hS (lv_sub hl [2, 3, 4, 5, 6] rfl))
set_option maxRecDepth 100000 in
set_option maxHeartbeats 4000000 in
theorem lw_set {p : Program} {l : Launch} {e : Env} {s : State} {m : MethodId} {below : List Frame} {meth : Method} {c : Code} {H : Heap} {locs : List Loc} {cells slots : Nat} {Q : State → Prop} {ls : Array Slot} {D : va_G} {cI cQ cL : ClassId} {F : Nat → va_E} {b L i : Nat} {xs : Nat → Int32} {INV : (Nat → va_E) → Prop} (hC : LX p s m c b L xs D cI cQ cL) (hi : i + 5 ≤ L) (hP : va_P D vwCl (iW (pb s.heap.size) 86 F) H) (hS : va_S (iA (pb s.heap.size) 86 s.heap.size) s.heap H locs) (hcell : cells + 1 ≤ 601024) (hslot : slots + 6 ≤ 7293034) (hl : lv_has ls 9 (lvL b s.heap.size i)) (ST : STw0 l D cI cQ cL (pb s.heap.size) 86 yL_set cL_set 4 [(0, 9, 12, 15)] yX6_set cX6_set 3 F INV [.int (xs (i + 1))]) (kend : ∀ (G : Nat → va_E) (H1 : Heap) (locs1 : List Loc) (ls1 : Array Slot), INV G → va_P D vwCl (iW (pb s.heap.size) 86 G) H1 → va_S (iA (pb s.heap.size) 86 s.heap.size) s.heap H1 locs1 → lv_has ls1 9 (lvL b s.heap.size i) → W p l e room_1 s m #[Value.ref b] below meth c H1 locs1 (cells + 1) (slots + 6) Q (F0 m 881 ls1 [])) : W p l e room_1 s m #[Value.ref b] below meth c H locs cells slots Q (F0 m 260 ls []) := by
  obtain ⟨hx, hb, hml, hown, hts, hK, hNW, hX, hXN, hXs, hbl, hL30⟩ := hC
  have hDi : iD (pb s.heap.size) 86 := pb_D
  obtain ⟨kk, F1, fs, post, rm6, hML, h77, hM6, e1, e2, e3, e4, hq⟩ := ST
  refine lv_aload_n hx hb (dk kL_law_1_ok 51 rfl) rfl (lv_at hl 1 rfl) ?_
  refine lv_aload_n hx hb (dk kL_law_1_ok 52 rfl) rfl (lv_at hl 0 rfl) ?_
  refine lv_iload hx hb (dk kL_law_1_ok 53 rfl) (lv_at hl 4 rfl) ?_
  refine lv_iconst (v := nI 1) hx hb (dk kL_law_1_ok 54 rfl) rfl ?_
  refine n_iadd hx hb (dk kL_law_1_ok 55 rfl) ?_
  refine sld hx hb hXs hbl hL30 hS (i + 1) rfl (by omega) (dk kL_law_1_ok 56 rfl) ?_
  refine lv_aload_n hx hb (dk kL_law_1_ok 57 rfl) rfl (lv_at hl 3 rfl) ?_
  refine csL (As := [.ref (pb s.heap.size 0), .int (xs (i + 1)), .ref (pb s.heap.size 85)]) (rest := []) ⟨hx, hb, hml, hown, hts⟩ hML (vx_cwSW 3 hts (gInLS (lc1 _ (List.mem_of_getElem? (i := 8) rfl)) msL_set mini_RL mcL_set) rfl rfl rfl hdL_set ⟨Nat.le_of_ble_eq_true rfl, Nat.le_of_ble_eq_true rfl⟩) hDi hK hP hNW hS hX hXN rfl hl.1 rfl (Nat.le_of_ble_eq_true rfl) ⟨hcell, hslot⟩ (dk kL_law_1_ok 58 rfl) (fun H locs hP hS => ?_)
  refine lv_istore (lv' := [(5, .int (nI kk)), (0, .ref b), (1, .ref (pb s.heap.size 0)), (2, .ref (pb s.heap.size 77)), (3, .ref (pb s.heap.size 85)), (4, .int (nI i))]) hx hb (dk kL_law_1_ok 59 rfl) hl (by decide) rfl (fun ls hl => ?_)
  refine lv_aload_n hx hb (dk kL_law_2_ok 0 rfl) rfl (lv_at hl 3 rfl) ?_
  refine lv_aload_n hx hb (dk kL_law_2_ok 1 rfl) rfl (lv_at hl 1 rfl) ?_
  refine lv_iload hx hb (dk kL_law_2_ok 2 rfl) (lv_at hl 5 rfl) ?_
  refine lv_iconst (v := nI 1) hx hb (dk kL_law_2_ok 3 rfl) rfl ?_
  refine n_iadd hx hb (dk kL_law_2_ok 4 rfl) ?_
  refine sld hx hb hXs hbl hL30 hS (i + 1) rfl (by omega) (dk kL_law_2_ok 5 rfl) ?_
  refine cvW (As := [.int (xs (i + 1))]) (rest := []) ⟨hx, hb, hml, hown, hts⟩ hM6 (cwVL 1 hts mcX6_set (lc1 _ (List.mem_of_getElem? (i := 11) rfl)) miX6_set meX6_set mini_RX6 e1 e2 hdX6_set ⟨e3, e4⟩) hDi hK hP hNW hS (k := 77) (by decide) h77 rfl rfl hl.1 rfl (Nat.le_of_ble_eq_true rfl) ⟨hcell, hslot⟩ (dk kL_law_2_ok 6 rfl) (fun v G H locs hp hP hS => ?_)
  obtain ⟨⟨b9, rfl⟩, hINV⟩ := hq v G hp
  refine W.eq (g2 := F0 m 283 ls [.int b9]) rfl ?_
  refine lv_istore (lv' := [(6, .int b9), (5, .int (nI kk)), (0, .ref b), (1, .ref (pb s.heap.size 0)), (2, .ref (pb s.heap.size 77)), (3, .ref (pb s.heap.size 85)), (4, .int (nI i))]) hx hb (dk kL_law_2_ok 7 rfl) hl (by decide) rfl (fun ls hl => ?_)
  exact lv_goto (tgt := 881) hx hb (dk kL_law_2_ok 8 rfl) (by decide) (kend G H locs ls hINV hP hS (lv_sub hl [2, 3, 4, 5, 6] rfl))
set_option maxRecDepth 100000 in
set_option maxHeartbeats 4000000 in
theorem lw_put {p : Program} {l : Launch} {e : Env} {s : State} {m : MethodId} {below : List Frame} {meth : Method} {c : Code} {H : Heap} {locs : List Loc} {cells slots : Nat} {Q : State → Prop} {ls : Array Slot} {D : va_G} {cI cQ cL : ClassId} {F : Nat → va_E} {b L i : Nat} {xs : Nat → Int32} {INV : (Nat → va_E) → Prop} (hC : LX p s m c b L xs D cI cQ cL) (hi : i + 5 ≤ L) (hP : va_P D vwCl (iW (pb s.heap.size) 86 F) H) (hS : va_S (iA (pb s.heap.size) 86 s.heap.size) s.heap H locs) (hcell : cells + 1 ≤ 601024) (hslot : slots + 6 ≤ 7293034) (hl : lv_has ls 9 (lvL b s.heap.size i)) (ST : STw0 l D cI cQ cL (pb s.heap.size) 86 yL_put cL_put 6 [(0, 12, 15, 13), (0, 12, 19, 17)] yX6_put cX6_put 4 F INV [.int (xs (i + 1)), .int (xs (i + 2)), .int (xs (i + 3))]) (kend : ∀ (G : Nat → va_E) (H1 : Heap) (locs1 : List Loc) (ls1 : Array Slot), INV G → va_P D vwCl (iW (pb s.heap.size) 86 G) H1 → va_S (iA (pb s.heap.size) 86 s.heap.size) s.heap H1 locs1 → lv_has ls1 9 (lvL b s.heap.size i) → W p l e room_1 s m #[Value.ref b] below meth c H1 locs1 (cells + 1) (slots + 6) Q (F0 m 881 ls1 [])) : W p l e room_1 s m #[Value.ref b] below meth c H locs cells slots Q (F0 m 288 ls []) := by
  obtain ⟨hx, hb, hml, hown, hts, hK, hNW, hX, hXN, hXs, hbl, hL30⟩ := hC
  have hDi : iD (pb s.heap.size) 86 := pb_D
  obtain ⟨kk, F1, fs, post, rm6, hML, h77, hM6, e1, e2, e3, e4, hq⟩ := ST
  refine lv_aload_n hx hb (dk kL_law_2_ok 9 rfl) rfl (lv_at hl 1 rfl) ?_
  refine lv_aload_n hx hb (dk kL_law_2_ok 10 rfl) rfl (lv_at hl 0 rfl) ?_
  refine lv_iload hx hb (dk kL_law_2_ok 11 rfl) (lv_at hl 4 rfl) ?_
  refine lv_iconst (v := nI 1) hx hb (dk kL_law_2_ok 12 rfl) rfl ?_
  refine n_iadd hx hb (dk kL_law_2_ok 13 rfl) ?_
  refine sld hx hb hXs hbl hL30 hS (i + 1) rfl (by omega) (dk kL_law_2_ok 14 rfl) ?_
  refine lv_aload_n hx hb (dk kL_law_2_ok 15 rfl) rfl (lv_at hl 0 rfl) ?_
  refine lv_iload hx hb (dk kL_law_2_ok 16 rfl) (lv_at hl 4 rfl) ?_
  refine lv_iconst (v := nI 2) hx hb (dk kL_law_2_ok 17 rfl) rfl ?_
  refine n_iadd hx hb (dk kL_law_2_ok 18 rfl) ?_
  refine sld hx hb hXs hbl hL30 hS (i + 2) rfl (by omega) (dk kL_law_2_ok 19 rfl) ?_
  refine lv_aload_n hx hb (dk kL_law_2_ok 20 rfl) rfl (lv_at hl 0 rfl) ?_
  refine lv_iload hx hb (dk kL_law_2_ok 21 rfl) (lv_at hl 4 rfl) ?_
  refine lv_iconst (v := nI 3) hx hb (dk kL_law_2_ok 22 rfl) rfl ?_
  refine n_iadd hx hb (dk kL_law_2_ok 23 rfl) ?_
  refine sld hx hb hXs hbl hL30 hS (i + 3) rfl (by omega) (dk kL_law_2_ok 24 rfl) ?_
  refine lv_aload_n hx hb (dk kL_law_2_ok 25 rfl) rfl (lv_at hl 3 rfl) ?_
  refine csL (As := [.ref (pb s.heap.size 0), .int (xs (i + 1)), .int (xs (i + 2)), .int (xs (i + 3)), .ref (pb s.heap.size 85)]) (rest := []) ⟨hx, hb, hml, hown, hts⟩ hML (vx_cwSW 5 hts (gInLS (lc1 _ (List.mem_of_getElem? (i := 12) rfl)) msL_put mini_RL mcL_put) rfl rfl rfl hdL_put ⟨Nat.le_of_ble_eq_true rfl, Nat.le_of_ble_eq_true rfl⟩) hDi hK hP hNW hS hX hXN rfl hl.1 rfl (Nat.le_of_ble_eq_true rfl) ⟨hcell, hslot⟩ (dk kL_law_2_ok 26 rfl) (fun H locs hP hS => ?_)
  refine lv_istore (lv' := [(5, .int (nI kk)), (0, .ref b), (1, .ref (pb s.heap.size 0)), (2, .ref (pb s.heap.size 77)), (3, .ref (pb s.heap.size 85)), (4, .int (nI i))]) hx hb (dk kL_law_2_ok 27 rfl) hl (by decide) rfl (fun ls hl => ?_)
  refine lv_aload_n hx hb (dk kL_law_2_ok 28 rfl) rfl (lv_at hl 3 rfl) ?_
  refine lv_aload_n hx hb (dk kL_law_2_ok 29 rfl) rfl (lv_at hl 1 rfl) ?_
  refine lv_iload hx hb (dk kL_law_2_ok 30 rfl) (lv_at hl 5 rfl) ?_
  refine lv_iconst (v := nI 1) hx hb (dk kL_law_2_ok 31 rfl) rfl ?_
  refine n_iadd hx hb (dk kL_law_2_ok 32 rfl) ?_
  refine sld hx hb hXs hbl hL30 hS (i + 1) rfl (by omega) (dk kL_law_2_ok 33 rfl) ?_
  refine lv_aload_n hx hb (dk kL_law_2_ok 34 rfl) rfl (lv_at hl 1 rfl) ?_
  refine lv_iload hx hb (dk kL_law_2_ok 35 rfl) (lv_at hl 5 rfl) ?_
  refine lv_iconst (v := nI 2) hx hb (dk kL_law_2_ok 36 rfl) rfl ?_
  refine n_iadd hx hb (dk kL_law_2_ok 37 rfl) ?_
  refine sld hx hb hXs hbl hL30 hS (i + 2) rfl (by omega) (dk kL_law_2_ok 38 rfl) ?_
  refine lv_aload_n hx hb (dk kL_law_2_ok 39 rfl) rfl (lv_at hl 1 rfl) ?_
  refine lv_iload hx hb (dk kL_law_2_ok 40 rfl) (lv_at hl 5 rfl) ?_
  refine lv_iconst (v := nI 3) hx hb (dk kL_law_2_ok 41 rfl) rfl ?_
  refine n_iadd hx hb (dk kL_law_2_ok 42 rfl) ?_
  refine sld hx hb hXs hbl hL30 hS (i + 3) rfl (by omega) (dk kL_law_2_ok 43 rfl) ?_
  refine cvW (As := [.int (xs (i + 1)), .int (xs (i + 2)), .int (xs (i + 3))]) (rest := []) ⟨hx, hb, hml, hown, hts⟩ hM6 (cwVL 3 hts mcX6_put (lc1 _ (List.mem_of_getElem? (i := 15) rfl)) miX6_put meX6_put mini_RX6 e1 e2 hdX6_put ⟨e3, e4⟩) hDi hK hP hNW hS (k := 77) (by decide) h77 rfl rfl hl.1 rfl (Nat.le_of_ble_eq_true rfl) ⟨hcell, hslot⟩ (dk kL_law_2_ok 44 rfl) (fun v G H locs hp hP hS => ?_)
  obtain ⟨⟨b9, rfl⟩, hINV⟩ := hq v G hp
  refine W.eq (g2 := F0 m 335 ls [.int b9]) rfl ?_
  refine lv_istore (lv' := [(6, .int b9), (5, .int (nI kk)), (0, .ref b), (1, .ref (pb s.heap.size 0)), (2, .ref (pb s.heap.size 77)), (3, .ref (pb s.heap.size 85)), (4, .int (nI i))]) hx hb (dk kL_law_2_ok 45 rfl) hl (by decide) rfl (fun ls hl => ?_)
  exact lv_goto (tgt := 881) hx hb (dk kL_law_2_ok 46 rfl) (by decide) (kend G H locs ls hINV hP hS (lv_sub hl [2, 3, 4, 5, 6] rfl))
set_option maxRecDepth 100000 in
set_option maxHeartbeats 4000000 in
theorem lw_append {p : Program} {l : Launch} {e : Env} {s : State} {m : MethodId} {below : List Frame} {meth : Method} {c : Code} {H : Heap} {locs : List Loc} {cells slots : Nat} {Q : State → Prop} {ls : Array Slot} {D : va_G} {cI cQ cL : ClassId} {F : Nat → va_E} {b L i : Nat} {xs : Nat → Int32} {INV : (Nat → va_E) → Prop} (hC : LX p s m c b L xs D cI cQ cL) (hi : i + 5 ≤ L) (hP : va_P D vwCl (iW (pb s.heap.size) 86 F) H) (hS : va_S (iA (pb s.heap.size) 86 s.heap.size) s.heap H locs) (hcell : cells + 1 ≤ 601024) (hslot : slots + 6 ≤ 7293034) (hl : lv_has ls 9 (lvL b s.heap.size i)) (ST : STw0 l D cI cQ cL (pb s.heap.size) 86 yL_append cL_append 4 [(0, 9, 12, 15), (0, 9, 15, 17)] yX6_append cX6_append 2 F INV [.int (xs (i + 1))]) (kend : ∀ (G : Nat → va_E) (H1 : Heap) (locs1 : List Loc) (ls1 : Array Slot), INV G → va_P D vwCl (iW (pb s.heap.size) 86 G) H1 → va_S (iA (pb s.heap.size) 86 s.heap.size) s.heap H1 locs1 → lv_has ls1 9 (lvL b s.heap.size i) → W p l e room_1 s m #[Value.ref b] below meth c H1 locs1 (cells + 1) (slots + 6) Q (F0 m 881 ls1 [])) : W p l e room_1 s m #[Value.ref b] below meth c H locs cells slots Q (F0 m 340 ls []) := by
  obtain ⟨hx, hb, hml, hown, hts, hK, hNW, hX, hXN, hXs, hbl, hL30⟩ := hC
  have hDi : iD (pb s.heap.size) 86 := pb_D
  obtain ⟨kk, F1, fs, post, rm6, hML, h77, hM6, e1, e2, e3, e4, hq⟩ := ST
  refine lv_aload_n hx hb (dk kL_law_2_ok 47 rfl) rfl (lv_at hl 1 rfl) ?_
  refine lv_aload_n hx hb (dk kL_law_2_ok 48 rfl) rfl (lv_at hl 0 rfl) ?_
  refine lv_iload hx hb (dk kL_law_2_ok 49 rfl) (lv_at hl 4 rfl) ?_
  refine lv_iconst (v := nI 1) hx hb (dk kL_law_2_ok 50 rfl) rfl ?_
  refine n_iadd hx hb (dk kL_law_2_ok 51 rfl) ?_
  refine sld hx hb hXs hbl hL30 hS (i + 1) rfl (by omega) (dk kL_law_2_ok 52 rfl) ?_
  refine lv_aload_n hx hb (dk kL_law_2_ok 53 rfl) rfl (lv_at hl 3 rfl) ?_
  refine csL (As := [.ref (pb s.heap.size 0), .int (xs (i + 1)), .ref (pb s.heap.size 85)]) (rest := []) ⟨hx, hb, hml, hown, hts⟩ hML (vx_cwSW 3 hts (gInLS (lc1 _ (List.mem_of_getElem? (i := 16) rfl)) msL_append mini_RL mcL_append) rfl rfl rfl hdL_append ⟨Nat.le_of_ble_eq_true rfl, Nat.le_of_ble_eq_true rfl⟩) hDi hK hP hNW hS hX hXN rfl hl.1 rfl (Nat.le_of_ble_eq_true rfl) ⟨hcell, hslot⟩ (dk kL_law_2_ok 54 rfl) (fun H locs hP hS => ?_)
  refine lv_istore (lv' := [(5, .int (nI kk)), (0, .ref b), (1, .ref (pb s.heap.size 0)), (2, .ref (pb s.heap.size 77)), (3, .ref (pb s.heap.size 85)), (4, .int (nI i))]) hx hb (dk kL_law_2_ok 55 rfl) hl (by decide) rfl (fun ls hl => ?_)
  refine lv_aload_n hx hb (dk kL_law_2_ok 56 rfl) rfl (lv_at hl 3 rfl) ?_
  refine lv_aload_n hx hb (dk kL_law_2_ok 57 rfl) rfl (lv_at hl 1 rfl) ?_
  refine lv_iload hx hb (dk kL_law_2_ok 58 rfl) (lv_at hl 5 rfl) ?_
  refine lv_iconst (v := nI 1) hx hb (dk kL_law_2_ok 59 rfl) rfl ?_
  refine n_iadd hx hb (dk kL_law_3_ok 0 rfl) ?_
  refine sld hx hb hXs hbl hL30 hS (i + 1) rfl (by omega) (dk kL_law_3_ok 1 rfl) ?_
  refine cvW (As := [.int (xs (i + 1))]) (rest := []) ⟨hx, hb, hml, hown, hts⟩ hM6 (cwVL 1 hts mcX6_append (lc1 _ (List.mem_of_getElem? (i := 19) rfl)) miX6_append meX6_append mini_RX6 e1 e2 hdX6_append ⟨e3, e4⟩) hDi hK hP hNW hS (k := 77) (by decide) h77 rfl rfl hl.1 rfl (Nat.le_of_ble_eq_true rfl) ⟨hcell, hslot⟩ (dk kL_law_3_ok 2 rfl) (fun v G H locs hp hP hS => ?_)
  obtain ⟨⟨b9, rfl⟩, hINV⟩ := hq v G hp
  refine W.eq (g2 := F0 m 363 ls [.int b9]) rfl ?_
  refine lv_istore (lv' := [(6, .int b9), (5, .int (nI kk)), (0, .ref b), (1, .ref (pb s.heap.size 0)), (2, .ref (pb s.heap.size 77)), (3, .ref (pb s.heap.size 85)), (4, .int (nI i))]) hx hb (dk kL_law_3_ok 3 rfl) hl (by decide) rfl (fun ls hl => ?_)
  exact lv_goto (tgt := 881) hx hb (dk kL_law_3_ok 4 rfl) (by decide) (kend G H locs ls hINV hP hS (lv_sub hl [2, 3, 4, 5, 6] rfl))
set_option maxRecDepth 100000 in
set_option maxHeartbeats 4000000 in
theorem lw_clearBuffer {p : Program} {l : Launch} {e : Env} {s : State} {m : MethodId} {below : List Frame} {meth : Method} {c : Code} {H : Heap} {locs : List Loc} {cells slots : Nat} {Q : State → Prop} {ls : Array Slot} {D : va_G} {cI cQ cL : ClassId} {F : Nat → va_E} {b L i : Nat} {xs : Nat → Int32} {INV : (Nat → va_E) → Prop} (hC : LX p s m c b L xs D cI cQ cL) (hi : i + 5 ≤ L) (hP : va_P D vwCl (iW (pb s.heap.size) 86 F) H) (hS : va_S (iA (pb s.heap.size) 86 s.heap.size) s.heap H locs) (hcell : cells + 1 ≤ 601024) (hslot : slots + 6 ≤ 7293034) (hl : lv_has ls 9 (lvL b s.heap.size i)) (ST : STs l D cI cQ cL (pb s.heap.size) 86 yX5_clearBuffer cX5_clearBuffer 2 yX6_clearBuffer cX6_clearBuffer 2 .int okI F INV) (kend : ∀ (G : Nat → va_E) (H1 : Heap) (locs1 : List Loc) (ls1 : Array Slot), INV G → va_P D vwCl (iW (pb s.heap.size) 86 G) H1 → va_S (iA (pb s.heap.size) 86 s.heap.size) s.heap H1 locs1 → lv_has ls1 9 (lvL b s.heap.size i) → W p l e room_1 s m #[Value.ref b] below meth c H1 locs1 (cells + 1) (slots + 6) Q (F0 m 881 ls1 [])) : W p l e room_1 s m #[Value.ref b] below meth c H locs cells slots Q (F0 m 368 ls []) := by
  obtain ⟨hx, hb, hml, hown, hts, hK, hNW, hX, hXN, hXs, hbl, hL30⟩ := hC
  have hDi : iD (pb s.heap.size) 86 := pb_D
  obtain ⟨b9, F1, f5, f6, post, rm5, rm6, hok, h00, hM5, d1, d2, d3, d4, h77, hM6, e1, e2, e3, e4, hq⟩ := ST
  obtain ⟨x, rfl⟩ := hok
  refine lv_aload_n hx hb (dk kL_law_3_ok 5 rfl) rfl (lv_at hl 1 rfl) ?_
  refine cvD F1 (As := []) (rest := []) ⟨hx, hb, hml, hown, hts⟩ hM5 (cwVL 0 hts mcX5_clearBuffer (lc1 _ (List.mem_of_getElem? (i := 20) rfl)) miX5_clearBuffer meX5_clearBuffer mini_RX5 d1 d2 hdX5_clearBuffer ⟨d3, d4⟩) hDi hK hP hNW hS (k := 0) (by decide) h00 rfl rfl hl.1 rfl (Nat.le_of_ble_eq_true rfl) ⟨Nat.le_trans (Nat.le_add_right _ 1) hcell, Nat.le_trans (Nat.le_add_right _ 6) hslot⟩ (dk kL_law_3_ok 6 rfl) rfl (fun H locs hP hS => ?_)
  refine lv_aload_n hx hb (dk kL_law_3_ok 7 rfl) rfl (lv_at hl 2 rfl) ?_
  refine cvW (As := []) (rest := [.int x]) ⟨hx, hb, hml, hown, hts⟩ hM6 (cwVL 0 hts mcX6_clearBuffer (lc1 _ (List.mem_of_getElem? (i := 21) rfl)) miX6_clearBuffer meX6_clearBuffer mini_RX6 e1 e2 hdX6_clearBuffer ⟨e3, e4⟩) hDi hK hP hNW hS (k := 77) (by decide) h77 rfl rfl hl.1 rfl (Nat.le_of_ble_eq_true rfl) ⟨Nat.le_trans (Nat.le_add_right _ 1) hcell, Nat.le_trans (Nat.le_add_right _ 6) hslot⟩ (dk kL_law_3_ok 8 rfl) (fun v G H locs hp hP hS => ?_)
  obtain ⟨rfl, hINV⟩ := hq v G hp
  refine W.widen (k := cells + 1) (n := slots + 6) (by omega) (by omega) ?_
  refine W.eq (g2 := F0 m 376 ls [.int x, .int x]) rfl ?_
  exact lv_icmp_eq (tgt := 881) hx hb (dk kL_law_3_ok 9 rfl) (by decide) (fun _ => kend G H locs ls hINV hP hS (lv_sub hl [0, 1, 2, 3, 4] rfl)) (fun h => absurd rfl h)
set_option maxRecDepth 100000 in
set_option maxHeartbeats 4000000 in
theorem lw_firstError {p : Program} {l : Launch} {e : Env} {s : State} {m : MethodId} {below : List Frame} {meth : Method} {c : Code} {H : Heap} {locs : List Loc} {cells slots : Nat} {Q : State → Prop} {ls : Array Slot} {D : va_G} {cI cQ cL : ClassId} {F : Nat → va_E} {b L i : Nat} {xs : Nat → Int32} {INV : (Nat → va_E) → Prop} (hC : LX p s m c b L xs D cI cQ cL) (hi : i + 5 ≤ L) (hP : va_P D vwCl (iW (pb s.heap.size) 86 F) H) (hS : va_S (iA (pb s.heap.size) 86 s.heap.size) s.heap H locs) (hcell : cells + 1 ≤ 601024) (hslot : slots + 6 ≤ 7293034) (hl : lv_has ls 9 (lvL b s.heap.size i)) (ST : STs0 l D cI cQ cL (pb s.heap.size) 86 yX5_firstError cX5_firstError 1 yX6_firstError cX6_firstError 1 .int okI F INV) (kend : ∀ (G : Nat → va_E) (H1 : Heap) (locs1 : List Loc) (ls1 : Array Slot), INV G → va_P D vwCl (iW (pb s.heap.size) 86 G) H1 → va_S (iA (pb s.heap.size) 86 s.heap.size) s.heap H1 locs1 → lv_has ls1 9 (lvL b s.heap.size i) → W p l e room_1 s m #[Value.ref b] below meth c H1 locs1 (cells + 1) (slots + 6) Q (F0 m 881 ls1 [])) : W p l e room_1 s m #[Value.ref b] below meth c H locs cells slots Q (F0 m 381 ls []) := by
  obtain ⟨hx, hb, hml, hown, hts, hK, hNW, hX, hXN, hXs, hbl, hL30⟩ := hC
  have hDi : iD (pb s.heap.size) 86 := pb_D
  obtain ⟨b9, F1, f5, f6, post, rm5, rm6, hok, h00, hM5, d1, d2, d3, d4, h77, hM6, e1, e2, e3, e4, hq⟩ := ST
  obtain ⟨x, rfl⟩ := hok
  refine lv_aload_n hx hb (dk kL_law_3_ok 12 rfl) rfl (lv_at hl 1 rfl) ?_
  refine cvD F1 (As := []) (rest := []) ⟨hx, hb, hml, hown, hts⟩ hM5 (cwVL 0 hts mcX5_firstError (lc1 _ (List.mem_of_getElem? (i := 22) rfl)) miX5_firstError meX5_firstError mini_RX5 d1 d2 hdX5_firstError ⟨d3, d4⟩) hDi hK hP hNW hS (k := 0) (by decide) h00 rfl rfl hl.1 rfl (Nat.le_of_ble_eq_true rfl) ⟨Nat.le_trans (Nat.le_add_right _ 1) hcell, Nat.le_trans (Nat.le_add_right _ 6) hslot⟩ (dk kL_law_3_ok 13 rfl) rfl (fun H locs hP hS => ?_)
  refine lv_pop hx hb (dk kL_law_3_ok 14 rfl) rfl ?_
  refine lv_aload_n hx hb (dk kL_law_3_ok 15 rfl) rfl (lv_at hl 2 rfl) ?_
  refine cvW (As := []) (rest := []) ⟨hx, hb, hml, hown, hts⟩ hM6 (cwVL 0 hts mcX6_firstError (lc1 _ (List.mem_of_getElem? (i := 23) rfl)) miX6_firstError meX6_firstError mini_RX6 e1 e2 hdX6_firstError ⟨e3, e4⟩) hDi hK hP hNW hS (k := 77) (by decide) h77 rfl rfl hl.1 rfl (Nat.le_of_ble_eq_true rfl) ⟨Nat.le_trans (Nat.le_add_right _ 1) hcell, Nat.le_trans (Nat.le_add_right _ 6) hslot⟩ (dk kL_law_3_ok 16 rfl) (fun v G H locs hp hP hS => ?_)
  obtain ⟨⟨b2, hok2, rfl⟩, hINV⟩ := hq v G hp
  obtain ⟨y, rfl⟩ := hok2
  refine W.widen (k := cells + 1) (n := slots + 6) (by omega) (by omega) ?_
  refine W.eq (g2 := F0 m 390 ls [.int y]) rfl ?_
  refine lv_pop hx hb (dk kL_law_3_ok 17 rfl) rfl ?_
  exact lv_goto (tgt := 881) hx hb (dk kL_law_3_ok 18 rfl) (by decide) (kend G H locs ls hINV hP hS (lv_sub hl [0, 1, 2, 3, 4] rfl))
set_option maxRecDepth 100000 in
set_option maxHeartbeats 4000000 in
theorem lw_play {p : Program} {l : Launch} {e : Env} {s : State} {m : MethodId} {below : List Frame} {meth : Method} {c : Code} {H : Heap} {locs : List Loc} {cells slots : Nat} {Q : State → Prop} {ls : Array Slot} {D : va_G} {cI cQ cL : ClassId} {F : Nat → va_E} {b L i : Nat} {xs : Nat → Int32} {INV : (Nat → va_E) → Prop} (hC : LX p s m c b L xs D cI cQ cL) (hi : i + 5 ≤ L) (hP : va_P D vwCl (iW (pb s.heap.size) 86 F) H) (hS : va_S (iA (pb s.heap.size) 86 s.heap.size) s.heap H locs) (hcell : cells + 1 ≤ 601024) (hslot : slots + 6 ≤ 7293034) (hl : lv_has ls 9 (lvL b s.heap.size i)) (ST : STw0E l D cI cQ cL (pb s.heap.size) 86 yL_play cL_play 3 [(0, 8, 11, 15)] yX6_play cX6_play 3 F INV []) (kend : ∀ (G : Nat → va_E) (H1 : Heap) (locs1 : List Loc) (ls1 : Array Slot), INV G → va_P D vwCl (iW (pb s.heap.size) 86 G) H1 → va_S (iA (pb s.heap.size) 86 s.heap.size) s.heap H1 locs1 → lv_has ls1 9 (lvL b s.heap.size i) → W p l e room_1 s m #[Value.ref b] below meth c H1 locs1 (cells + 1) (slots + 6) Q (F0 m 881 ls1 [])) : W p l e room_1 s m #[Value.ref b] below meth c H locs cells slots Q (F0 m 394 ls []) := by
  obtain ⟨hx, hb, hml, hown, hts, hK, hNW, hX, hXN, hXs, hbl, hL30⟩ := hC
  have hDi : iD (pb s.heap.size) 86 := pb_D
  obtain ⟨kk, PG, hML, hST⟩ := ST
  refine lv_aload_n hx hb (dk kL_law_3_ok 19 rfl) rfl (lv_at hl 1 rfl) ?_
  refine lv_aload_n hx hb (dk kL_law_3_ok 20 rfl) rfl (lv_at hl 3 rfl) ?_
  refine csLE (As := [.ref (pb s.heap.size 0), .ref (pb s.heap.size 85)]) (rest := []) ⟨hx, hb, hml, hown, hts⟩ hML (vx_cwSW 2 hts (gInLS (lc2 _ (List.mem_of_getElem? (i := 0) rfl)) msL_play mini_RL mcL_play) rfl rfl rfl hdL_play ⟨Nat.le_of_ble_eq_true rfl, Nat.le_of_ble_eq_true rfl⟩) hDi hK hP hNW hS hX hXN rfl hl.1 rfl (Nat.le_of_ble_eq_true rfl) ⟨hcell, hslot⟩ (dk kL_law_3_ok 21 rfl) (fun F1 H locs hPG hP hS => ?_)
  obtain ⟨fs, post, rm6, h77, hM6, e1, e2, e3, e4, hq⟩ := hST F1 hPG
  refine lv_istore (lv' := [(5, .int (nI kk)), (0, .ref b), (1, .ref (pb s.heap.size 0)), (2, .ref (pb s.heap.size 77)), (3, .ref (pb s.heap.size 85)), (4, .int (nI i))]) hx hb (dk kL_law_3_ok 22 rfl) hl (by decide) rfl (fun ls hl => ?_)
  refine lv_aload_n hx hb (dk kL_law_3_ok 23 rfl) rfl (lv_at hl 3 rfl) ?_
  refine cvW (As := []) (rest := []) ⟨hx, hb, hml, hown, hts⟩ hM6 (cwVL 0 hts mcX6_play (lc2 _ (List.mem_of_getElem? (i := 3) rfl)) miX6_play meX6_play mini_RX6 e1 e2 hdX6_play ⟨e3, e4⟩) hDi hK hP hNW hS (k := 77) (by decide) h77 rfl rfl hl.1 rfl (Nat.le_of_ble_eq_true rfl) ⟨hcell, hslot⟩ (dk kL_law_3_ok 24 rfl) (fun v G H locs hp hP hS => ?_)
  obtain ⟨⟨b9, rfl⟩, hINV⟩ := hq v G hp
  refine W.eq (g2 := F0 m 405 ls [.int b9]) rfl ?_
  refine lv_istore (lv' := [(6, .int b9), (5, .int (nI kk)), (0, .ref b), (1, .ref (pb s.heap.size 0)), (2, .ref (pb s.heap.size 77)), (3, .ref (pb s.heap.size 85)), (4, .int (nI i))]) hx hb (dk kL_law_3_ok 25 rfl) hl (by decide) rfl (fun ls hl => ?_)
  exact lv_goto (tgt := 881) hx hb (dk kL_law_3_ok 26 rfl) (by decide) (kend G H locs ls hINV hP hS (lv_sub hl [2, 3, 4, 5, 6] rfl))
set_option maxRecDepth 100000 in
set_option maxHeartbeats 4000000 in
theorem lw_keep {p : Program} {l : Launch} {e : Env} {s : State} {m : MethodId} {below : List Frame} {meth : Method} {c : Code} {H : Heap} {locs : List Loc} {cells slots : Nat} {Q : State → Prop} {ls : Array Slot} {D : va_G} {cI cQ cL : ClassId} {F : Nat → va_E} {b L i : Nat} {xs : Nat → Int32} {INV : (Nat → va_E) → Prop} (hC : LX p s m c b L xs D cI cQ cL) (hi : i + 5 ≤ L) (hP : va_P D vwCl (iW (pb s.heap.size) 86 F) H) (hS : va_S (iA (pb s.heap.size) 86 s.heap.size) s.heap H locs) (hcell : cells + 1 ≤ 601024) (hslot : slots + 6 ≤ 7293034) (hl : lv_has ls 9 (lvL b s.heap.size i)) (ST : STs0 l D cI cQ cL (pb s.heap.size) 86 yX5_keep cX5_keep 1 yX6_keep cX6_keep 2 .int okI F INV) (kend : ∀ (G : Nat → va_E) (H1 : Heap) (locs1 : List Loc) (ls1 : Array Slot), INV G → va_P D vwCl (iW (pb s.heap.size) 86 G) H1 → va_S (iA (pb s.heap.size) 86 s.heap.size) s.heap H1 locs1 → lv_has ls1 9 (lvL b s.heap.size i) → W p l e room_1 s m #[Value.ref b] below meth c H1 locs1 (cells + 1) (slots + 6) Q (F0 m 881 ls1 [])) : W p l e room_1 s m #[Value.ref b] below meth c H locs cells slots Q (F0 m 410 ls []) := by
  obtain ⟨hx, hb, hml, hown, hts, hK, hNW, hX, hXN, hXs, hbl, hL30⟩ := hC
  have hDi : iD (pb s.heap.size) 86 := pb_D
  obtain ⟨b9, F1, f5, f6, post, rm5, rm6, hok, h00, hM5, d1, d2, d3, d4, h77, hM6, e1, e2, e3, e4, hq⟩ := ST
  obtain ⟨x, rfl⟩ := hok
  refine lv_aload_n hx hb (dk kL_law_3_ok 27 rfl) rfl (lv_at hl 1 rfl) ?_
  refine cvD F1 (As := []) (rest := []) ⟨hx, hb, hml, hown, hts⟩ hM5 (cwVL 0 hts mcX5_keep (lc2 _ (List.mem_of_getElem? (i := 4) rfl)) miX5_keep meX5_keep mini_RX5 d1 d2 hdX5_keep ⟨d3, d4⟩) hDi hK hP hNW hS (k := 0) (by decide) h00 rfl rfl hl.1 rfl (Nat.le_of_ble_eq_true rfl) ⟨Nat.le_trans (Nat.le_add_right _ 1) hcell, Nat.le_trans (Nat.le_add_right _ 6) hslot⟩ (dk kL_law_3_ok 28 rfl) rfl (fun H locs hP hS => ?_)
  refine lv_pop hx hb (dk kL_law_3_ok 29 rfl) rfl ?_
  refine lv_aload_n hx hb (dk kL_law_3_ok 30 rfl) rfl (lv_at hl 2 rfl) ?_
  refine cvW (As := []) (rest := []) ⟨hx, hb, hml, hown, hts⟩ hM6 (cwVL 0 hts mcX6_keep (lc2 _ (List.mem_of_getElem? (i := 5) rfl)) miX6_keep meX6_keep mini_RX6 e1 e2 hdX6_keep ⟨e3, e4⟩) hDi hK hP hNW hS (k := 77) (by decide) h77 rfl rfl hl.1 rfl (Nat.le_of_ble_eq_true rfl) ⟨Nat.le_trans (Nat.le_add_right _ 1) hcell, Nat.le_trans (Nat.le_add_right _ 6) hslot⟩ (dk kL_law_3_ok 31 rfl) (fun v G H locs hp hP hS => ?_)
  obtain ⟨⟨b2, hok2, rfl⟩, hINV⟩ := hq v G hp
  obtain ⟨y, rfl⟩ := hok2
  refine W.widen (k := cells + 1) (n := slots + 6) (by omega) (by omega) ?_
  refine W.eq (g2 := F0 m 419 ls [.int y]) rfl ?_
  refine lv_pop hx hb (dk kL_law_3_ok 32 rfl) rfl ?_
  exact lv_goto (tgt := 881) hx hb (dk kL_law_3_ok 33 rfl) (by decide) (kend G H locs ls hINV hP hS (lv_sub hl [0, 1, 2, 3, 4] rfl))
set_option maxRecDepth 100000 in
set_option maxHeartbeats 4000000 in
theorem lw_goBack {p : Program} {l : Launch} {e : Env} {s : State} {m : MethodId} {below : List Frame} {meth : Method} {c : Code} {H : Heap} {locs : List Loc} {cells slots : Nat} {Q : State → Prop} {ls : Array Slot} {D : va_G} {cI cQ cL : ClassId} {F : Nat → va_E} {b L i : Nat} {xs : Nat → Int32} {INV : (Nat → va_E) → Prop} (hC : LX p s m c b L xs D cI cQ cL) (hi : i + 5 ≤ L) (hP : va_P D vwCl (iW (pb s.heap.size) 86 F) H) (hS : va_S (iA (pb s.heap.size) 86 s.heap.size) s.heap H locs) (hcell : cells + 1 ≤ 601024) (hslot : slots + 6 ≤ 7293034) (hl : lv_has ls 9 (lvL b s.heap.size i)) (ST : STw0 l D cI cQ cL (pb s.heap.size) 86 yL_goBack cL_goBack 3 [(0, 8, 11, 17)] yX6_goBack cX6_goBack 2 F INV []) (kend : ∀ (G : Nat → va_E) (H1 : Heap) (locs1 : List Loc) (ls1 : Array Slot), INV G → va_P D vwCl (iW (pb s.heap.size) 86 G) H1 → va_S (iA (pb s.heap.size) 86 s.heap.size) s.heap H1 locs1 → lv_has ls1 9 (lvL b s.heap.size i) → W p l e room_1 s m #[Value.ref b] below meth c H1 locs1 (cells + 1) (slots + 6) Q (F0 m 881 ls1 [])) : W p l e room_1 s m #[Value.ref b] below meth c H locs cells slots Q (F0 m 423 ls []) := by
  obtain ⟨hx, hb, hml, hown, hts, hK, hNW, hX, hXN, hXs, hbl, hL30⟩ := hC
  have hDi : iD (pb s.heap.size) 86 := pb_D
  obtain ⟨kk, F1, fs, post, rm6, hML, h77, hM6, e1, e2, e3, e4, hq⟩ := ST
  refine lv_aload_n hx hb (dk kL_law_3_ok 34 rfl) rfl (lv_at hl 1 rfl) ?_
  refine lv_aload_n hx hb (dk kL_law_3_ok 35 rfl) rfl (lv_at hl 3 rfl) ?_
  refine csL (As := [.ref (pb s.heap.size 0), .ref (pb s.heap.size 85)]) (rest := []) ⟨hx, hb, hml, hown, hts⟩ hML (vx_cwSW 2 hts (gInLS (lc2 _ (List.mem_of_getElem? (i := 6) rfl)) msL_goBack mini_RL mcL_goBack) rfl rfl rfl hdL_goBack ⟨Nat.le_of_ble_eq_true rfl, Nat.le_of_ble_eq_true rfl⟩) hDi hK hP hNW hS hX hXN rfl hl.1 rfl (Nat.le_of_ble_eq_true rfl) ⟨hcell, hslot⟩ (dk kL_law_3_ok 36 rfl) (fun H locs hP hS => ?_)
  refine lv_istore (lv' := [(5, .int (nI kk)), (0, .ref b), (1, .ref (pb s.heap.size 0)), (2, .ref (pb s.heap.size 77)), (3, .ref (pb s.heap.size 85)), (4, .int (nI i))]) hx hb (dk kL_law_3_ok 37 rfl) hl (by decide) rfl (fun ls hl => ?_)
  refine lv_aload_n hx hb (dk kL_law_3_ok 38 rfl) rfl (lv_at hl 3 rfl) ?_
  refine cvW (As := []) (rest := []) ⟨hx, hb, hml, hown, hts⟩ hM6 (cwVL 0 hts mcX6_goBack (lc2 _ (List.mem_of_getElem? (i := 9) rfl)) miX6_goBack meX6_goBack mini_RX6 e1 e2 hdX6_goBack ⟨e3, e4⟩) hDi hK hP hNW hS (k := 77) (by decide) h77 rfl rfl hl.1 rfl (Nat.le_of_ble_eq_true rfl) ⟨hcell, hslot⟩ (dk kL_law_3_ok 39 rfl) (fun v G H locs hp hP hS => ?_)
  obtain ⟨⟨b9, rfl⟩, hINV⟩ := hq v G hp
  refine W.eq (g2 := F0 m 434 ls [.int b9]) rfl ?_
  refine lv_istore (lv' := [(6, .int b9), (5, .int (nI kk)), (0, .ref b), (1, .ref (pb s.heap.size 0)), (2, .ref (pb s.heap.size 77)), (3, .ref (pb s.heap.size 85)), (4, .int (nI i))]) hx hb (dk kL_law_3_ok 40 rfl) hl (by decide) rfl (fun ls hl => ?_)
  exact lv_goto (tgt := 881) hx hb (dk kL_law_3_ok 41 rfl) (by decide) (kend G H locs ls hINV hP hS (lv_sub hl [2, 3, 4, 5, 6] rfl))
set_option maxRecDepth 100000 in
set_option maxHeartbeats 4000000 in
theorem lw_undo {p : Program} {l : Launch} {e : Env} {s : State} {m : MethodId} {below : List Frame} {meth : Method} {c : Code} {H : Heap} {locs : List Loc} {cells slots : Nat} {Q : State → Prop} {ls : Array Slot} {D : va_G} {cI cQ cL : ClassId} {F : Nat → va_E} {b L i : Nat} {xs : Nat → Int32} {INV : (Nat → va_E) → Prop} (hC : LX p s m c b L xs D cI cQ cL) (hi : i + 5 ≤ L) (hP : va_P D vwCl (iW (pb s.heap.size) 86 F) H) (hS : va_S (iA (pb s.heap.size) 86 s.heap.size) s.heap H locs) (hcell : cells + 1 ≤ 601024) (hslot : slots + 6 ≤ 7293034) (hl : lv_has ls 9 (lvL b s.heap.size i)) (ST : STw0 l D cI cQ cL (pb s.heap.size) 86 yL_undo cL_undo 3 [(0, 8, 11, 17)] yX6_undo cX6_undo 2 F INV []) (kend : ∀ (G : Nat → va_E) (H1 : Heap) (locs1 : List Loc) (ls1 : Array Slot), INV G → va_P D vwCl (iW (pb s.heap.size) 86 G) H1 → va_S (iA (pb s.heap.size) 86 s.heap.size) s.heap H1 locs1 → lv_has ls1 9 (lvL b s.heap.size i) → W p l e room_1 s m #[Value.ref b] below meth c H1 locs1 (cells + 1) (slots + 6) Q (F0 m 881 ls1 [])) : W p l e room_1 s m #[Value.ref b] below meth c H locs cells slots Q (F0 m 439 ls []) := by
  obtain ⟨hx, hb, hml, hown, hts, hK, hNW, hX, hXN, hXs, hbl, hL30⟩ := hC
  have hDi : iD (pb s.heap.size) 86 := pb_D
  obtain ⟨kk, F1, fs, post, rm6, hML, h77, hM6, e1, e2, e3, e4, hq⟩ := ST
  refine lv_aload_n hx hb (dk kL_law_3_ok 42 rfl) rfl (lv_at hl 1 rfl) ?_
  refine lv_aload_n hx hb (dk kL_law_3_ok 43 rfl) rfl (lv_at hl 3 rfl) ?_
  refine csL (As := [.ref (pb s.heap.size 0), .ref (pb s.heap.size 85)]) (rest := []) ⟨hx, hb, hml, hown, hts⟩ hML (vx_cwSW 2 hts (gInLS (lc2 _ (List.mem_of_getElem? (i := 10) rfl)) msL_undo mini_RL mcL_undo) rfl rfl rfl hdL_undo ⟨Nat.le_of_ble_eq_true rfl, Nat.le_of_ble_eq_true rfl⟩) hDi hK hP hNW hS hX hXN rfl hl.1 rfl (Nat.le_of_ble_eq_true rfl) ⟨hcell, hslot⟩ (dk kL_law_3_ok 44 rfl) (fun H locs hP hS => ?_)
  refine lv_istore (lv' := [(5, .int (nI kk)), (0, .ref b), (1, .ref (pb s.heap.size 0)), (2, .ref (pb s.heap.size 77)), (3, .ref (pb s.heap.size 85)), (4, .int (nI i))]) hx hb (dk kL_law_3_ok 45 rfl) hl (by decide) rfl (fun ls hl => ?_)
  refine lv_aload_n hx hb (dk kL_law_3_ok 46 rfl) rfl (lv_at hl 3 rfl) ?_
  refine cvW (As := []) (rest := []) ⟨hx, hb, hml, hown, hts⟩ hM6 (cwVL 0 hts mcX6_undo (lc2 _ (List.mem_of_getElem? (i := 13) rfl)) miX6_undo meX6_undo mini_RX6 e1 e2 hdX6_undo ⟨e3, e4⟩) hDi hK hP hNW hS (k := 77) (by decide) h77 rfl rfl hl.1 rfl (Nat.le_of_ble_eq_true rfl) ⟨hcell, hslot⟩ (dk kL_law_3_ok 47 rfl) (fun v G H locs hp hP hS => ?_)
  obtain ⟨⟨b9, rfl⟩, hINV⟩ := hq v G hp
  refine W.eq (g2 := F0 m 450 ls [.int b9]) rfl ?_
  refine lv_istore (lv' := [(6, .int b9), (5, .int (nI kk)), (0, .ref b), (1, .ref (pb s.heap.size 0)), (2, .ref (pb s.heap.size 77)), (3, .ref (pb s.heap.size 85)), (4, .int (nI i))]) hx hb (dk kL_law_3_ok 48 rfl) hl (by decide) rfl (fun ls hl => ?_)
  exact lv_goto (tgt := 881) hx hb (dk kL_law_3_ok 49 rfl) (by decide) (kend G H locs ls hINV hP hS (lv_sub hl [2, 3, 4, 5, 6] rfl))
set_option maxRecDepth 100000 in
set_option maxHeartbeats 4000000 in
theorem lw_wink {p : Program} {l : Launch} {e : Env} {s : State} {m : MethodId} {below : List Frame} {meth : Method} {c : Code} {H : Heap} {locs : List Loc} {cells slots : Nat} {Q : State → Prop} {ls : Array Slot} {D : va_G} {cI cQ cL : ClassId} {F : Nat → va_E} {b L i : Nat} {xs : Nat → Int32} {INV : (Nat → va_E) → Prop} (hC : LX p s m c b L xs D cI cQ cL) (hi : i + 5 ≤ L) (hP : va_P D vwCl (iW (pb s.heap.size) 86 F) H) (hS : va_S (iA (pb s.heap.size) 86 s.heap.size) s.heap H locs) (hcell : cells + 1 ≤ 601024) (hslot : slots + 6 ≤ 7293034) (hl : lv_has ls 9 (lvL b s.heap.size i)) (ST : STw0 l D cI cQ cL (pb s.heap.size) 86 yL_wink cL_wink 5 [(0, 10, 13, 13), (0, 10, 17, 15)] yX6_wink cX6_wink 3 F INV [.int (xs (i + 1)), .int (xs (i + 2))]) (kend : ∀ (G : Nat → va_E) (H1 : Heap) (locs1 : List Loc) (ls1 : Array Slot), INV G → va_P D vwCl (iW (pb s.heap.size) 86 G) H1 → va_S (iA (pb s.heap.size) 86 s.heap.size) s.heap H1 locs1 → lv_has ls1 9 (lvL b s.heap.size i) → W p l e room_1 s m #[Value.ref b] below meth c H1 locs1 (cells + 1) (slots + 6) Q (F0 m 881 ls1 [])) : W p l e room_1 s m #[Value.ref b] below meth c H locs cells slots Q (F0 m 455 ls []) := by
  obtain ⟨hx, hb, hml, hown, hts, hK, hNW, hX, hXN, hXs, hbl, hL30⟩ := hC
  have hDi : iD (pb s.heap.size) 86 := pb_D
  obtain ⟨kk, F1, fs, post, rm6, hML, h77, hM6, e1, e2, e3, e4, hq⟩ := ST
  refine lv_aload_n hx hb (dk kL_law_3_ok 50 rfl) rfl (lv_at hl 1 rfl) ?_
  refine lv_aload_n hx hb (dk kL_law_3_ok 51 rfl) rfl (lv_at hl 0 rfl) ?_
  refine lv_iload hx hb (dk kL_law_3_ok 52 rfl) (lv_at hl 4 rfl) ?_
  refine lv_iconst (v := nI 1) hx hb (dk kL_law_3_ok 53 rfl) rfl ?_
  refine n_iadd hx hb (dk kL_law_3_ok 54 rfl) ?_
  refine sld hx hb hXs hbl hL30 hS (i + 1) rfl (by omega) (dk kL_law_3_ok 55 rfl) ?_
  refine lv_aload_n hx hb (dk kL_law_3_ok 56 rfl) rfl (lv_at hl 0 rfl) ?_
  refine lv_iload hx hb (dk kL_law_3_ok 57 rfl) (lv_at hl 4 rfl) ?_
  refine lv_iconst (v := nI 2) hx hb (dk kL_law_3_ok 58 rfl) rfl ?_
  refine n_iadd hx hb (dk kL_law_3_ok 59 rfl) ?_
  refine sld hx hb hXs hbl hL30 hS (i + 2) rfl (by omega) (dk kL_law_4_ok 0 rfl) ?_
  refine lv_aload_n hx hb (dk kL_law_4_ok 1 rfl) rfl (lv_at hl 3 rfl) ?_
  refine csL (As := [.ref (pb s.heap.size 0), .int (xs (i + 1)), .int (xs (i + 2)), .ref (pb s.heap.size 85)]) (rest := []) ⟨hx, hb, hml, hown, hts⟩ hML (vx_cwSW 4 hts (gInLS (lc2 _ (List.mem_of_getElem? (i := 14) rfl)) msL_wink mini_RL mcL_wink) rfl rfl rfl hdL_wink ⟨Nat.le_of_ble_eq_true rfl, Nat.le_of_ble_eq_true rfl⟩) hDi hK hP hNW hS hX hXN rfl hl.1 rfl (Nat.le_of_ble_eq_true rfl) ⟨hcell, hslot⟩ (dk kL_law_4_ok 2 rfl) (fun H locs hP hS => ?_)
  refine lv_istore (lv' := [(5, .int (nI kk)), (0, .ref b), (1, .ref (pb s.heap.size 0)), (2, .ref (pb s.heap.size 77)), (3, .ref (pb s.heap.size 85)), (4, .int (nI i))]) hx hb (dk kL_law_4_ok 3 rfl) hl (by decide) rfl (fun ls hl => ?_)
  refine lv_aload_n hx hb (dk kL_law_4_ok 4 rfl) rfl (lv_at hl 3 rfl) ?_
  refine lv_aload_n hx hb (dk kL_law_4_ok 5 rfl) rfl (lv_at hl 1 rfl) ?_
  refine lv_iload hx hb (dk kL_law_4_ok 6 rfl) (lv_at hl 5 rfl) ?_
  refine lv_iconst (v := nI 1) hx hb (dk kL_law_4_ok 7 rfl) rfl ?_
  refine n_iadd hx hb (dk kL_law_4_ok 8 rfl) ?_
  refine sld hx hb hXs hbl hL30 hS (i + 1) rfl (by omega) (dk kL_law_4_ok 9 rfl) ?_
  refine lv_aload_n hx hb (dk kL_law_4_ok 10 rfl) rfl (lv_at hl 1 rfl) ?_
  refine lv_iload hx hb (dk kL_law_4_ok 11 rfl) (lv_at hl 5 rfl) ?_
  refine lv_iconst (v := nI 2) hx hb (dk kL_law_4_ok 12 rfl) rfl ?_
  refine n_iadd hx hb (dk kL_law_4_ok 13 rfl) ?_
  refine sld hx hb hXs hbl hL30 hS (i + 2) rfl (by omega) (dk kL_law_4_ok 14 rfl) ?_
  refine cvW (As := [.int (xs (i + 1)), .int (xs (i + 2))]) (rest := []) ⟨hx, hb, hml, hown, hts⟩ hM6 (cwVL 2 hts mcX6_wink (lc2 _ (List.mem_of_getElem? (i := 17) rfl)) miX6_wink meX6_wink mini_RX6 e1 e2 hdX6_wink ⟨e3, e4⟩) hDi hK hP hNW hS (k := 77) (by decide) h77 rfl rfl hl.1 rfl (Nat.le_of_ble_eq_true rfl) ⟨hcell, hslot⟩ (dk kL_law_4_ok 15 rfl) (fun v G H locs hp hP hS => ?_)
  obtain ⟨⟨b9, rfl⟩, hINV⟩ := hq v G hp
  refine W.eq (g2 := F0 m 490 ls [.int b9]) rfl ?_
  refine lv_istore (lv' := [(6, .int b9), (5, .int (nI kk)), (0, .ref b), (1, .ref (pb s.heap.size 0)), (2, .ref (pb s.heap.size 77)), (3, .ref (pb s.heap.size 85)), (4, .int (nI i))]) hx hb (dk kL_law_4_ok 16 rfl) hl (by decide) rfl (fun ls hl => ?_)
  exact lv_goto (tgt := 881) hx hb (dk kL_law_4_ok 17 rfl) (by decide) (kend G H locs ls hINV hP hS (lv_sub hl [2, 3, 4, 5, 6] rfl))
set_option maxRecDepth 100000 in
set_option maxHeartbeats 4000000 in
theorem lw_pile {p : Program} {l : Launch} {e : Env} {s : State} {m : MethodId} {below : List Frame} {meth : Method} {c : Code} {H : Heap} {locs : List Loc} {cells slots : Nat} {Q : State → Prop} {ls : Array Slot} {D : va_G} {cI cQ cL : ClassId} {F : Nat → va_E} {b L i : Nat} {xs : Nat → Int32} {INV : (Nat → va_E) → Prop} (hC : LX p s m c b L xs D cI cQ cL) (hi : i + 5 ≤ L) (hP : va_P D vwCl (iW (pb s.heap.size) 86 F) H) (hS : va_S (iA (pb s.heap.size) 86 s.heap.size) s.heap H locs) (hcell : cells + 1 ≤ 601024) (hslot : slots + 6 ≤ 7293034) (hl : lv_has ls 9 (lvL b s.heap.size i)) (ST : STw0 l D cI cQ cL (pb s.heap.size) 86 yL_pile cL_pile 6 [(0, 12, 15, 13), (0, 12, 19, 15)] yX6_pile cX6_pile 4 F INV [.int (xs (i + 1)), .int (xs (i + 2)), .int (xs (i + 3))]) (kend : ∀ (G : Nat → va_E) (H1 : Heap) (locs1 : List Loc) (ls1 : Array Slot), INV G → va_P D vwCl (iW (pb s.heap.size) 86 G) H1 → va_S (iA (pb s.heap.size) 86 s.heap.size) s.heap H1 locs1 → lv_has ls1 9 (lvL b s.heap.size i) → W p l e room_1 s m #[Value.ref b] below meth c H1 locs1 (cells + 1) (slots + 6) Q (F0 m 881 ls1 [])) : W p l e room_1 s m #[Value.ref b] below meth c H locs cells slots Q (F0 m 495 ls []) := by
  obtain ⟨hx, hb, hml, hown, hts, hK, hNW, hX, hXN, hXs, hbl, hL30⟩ := hC
  have hDi : iD (pb s.heap.size) 86 := pb_D
  obtain ⟨kk, F1, fs, post, rm6, hML, h77, hM6, e1, e2, e3, e4, hq⟩ := ST
  refine lv_aload_n hx hb (dk kL_law_4_ok 18 rfl) rfl (lv_at hl 1 rfl) ?_
  refine lv_aload_n hx hb (dk kL_law_4_ok 19 rfl) rfl (lv_at hl 0 rfl) ?_
  refine lv_iload hx hb (dk kL_law_4_ok 20 rfl) (lv_at hl 4 rfl) ?_
  refine lv_iconst (v := nI 1) hx hb (dk kL_law_4_ok 21 rfl) rfl ?_
  refine n_iadd hx hb (dk kL_law_4_ok 22 rfl) ?_
  refine sld hx hb hXs hbl hL30 hS (i + 1) rfl (by omega) (dk kL_law_4_ok 23 rfl) ?_
  refine lv_aload_n hx hb (dk kL_law_4_ok 24 rfl) rfl (lv_at hl 0 rfl) ?_
  refine lv_iload hx hb (dk kL_law_4_ok 25 rfl) (lv_at hl 4 rfl) ?_
  refine lv_iconst (v := nI 2) hx hb (dk kL_law_4_ok 26 rfl) rfl ?_
  refine n_iadd hx hb (dk kL_law_4_ok 27 rfl) ?_
  refine sld hx hb hXs hbl hL30 hS (i + 2) rfl (by omega) (dk kL_law_4_ok 28 rfl) ?_
  refine lv_aload_n hx hb (dk kL_law_4_ok 29 rfl) rfl (lv_at hl 0 rfl) ?_
  refine lv_iload hx hb (dk kL_law_4_ok 30 rfl) (lv_at hl 4 rfl) ?_
  refine lv_iconst (v := nI 3) hx hb (dk kL_law_4_ok 31 rfl) rfl ?_
  refine n_iadd hx hb (dk kL_law_4_ok 32 rfl) ?_
  refine sld hx hb hXs hbl hL30 hS (i + 3) rfl (by omega) (dk kL_law_4_ok 33 rfl) ?_
  refine lv_aload_n hx hb (dk kL_law_4_ok 34 rfl) rfl (lv_at hl 3 rfl) ?_
  refine csL (As := [.ref (pb s.heap.size 0), .int (xs (i + 1)), .int (xs (i + 2)), .int (xs (i + 3)), .ref (pb s.heap.size 85)]) (rest := []) ⟨hx, hb, hml, hown, hts⟩ hML (vx_cwSW 5 hts (gInLS (lc2 _ (List.mem_of_getElem? (i := 18) rfl)) msL_pile mini_RL mcL_pile) rfl rfl rfl hdL_pile ⟨Nat.le_of_ble_eq_true rfl, Nat.le_of_ble_eq_true rfl⟩) hDi hK hP hNW hS hX hXN rfl hl.1 rfl (Nat.le_of_ble_eq_true rfl) ⟨hcell, hslot⟩ (dk kL_law_4_ok 35 rfl) (fun H locs hP hS => ?_)
  refine lv_istore (lv' := [(5, .int (nI kk)), (0, .ref b), (1, .ref (pb s.heap.size 0)), (2, .ref (pb s.heap.size 77)), (3, .ref (pb s.heap.size 85)), (4, .int (nI i))]) hx hb (dk kL_law_4_ok 36 rfl) hl (by decide) rfl (fun ls hl => ?_)
  refine lv_aload_n hx hb (dk kL_law_4_ok 37 rfl) rfl (lv_at hl 3 rfl) ?_
  refine lv_aload_n hx hb (dk kL_law_4_ok 38 rfl) rfl (lv_at hl 1 rfl) ?_
  refine lv_iload hx hb (dk kL_law_4_ok 39 rfl) (lv_at hl 5 rfl) ?_
  refine lv_iconst (v := nI 1) hx hb (dk kL_law_4_ok 40 rfl) rfl ?_
  refine n_iadd hx hb (dk kL_law_4_ok 41 rfl) ?_
  refine sld hx hb hXs hbl hL30 hS (i + 1) rfl (by omega) (dk kL_law_4_ok 42 rfl) ?_
  refine lv_aload_n hx hb (dk kL_law_4_ok 43 rfl) rfl (lv_at hl 1 rfl) ?_
  refine lv_iload hx hb (dk kL_law_4_ok 44 rfl) (lv_at hl 5 rfl) ?_
  refine lv_iconst (v := nI 2) hx hb (dk kL_law_4_ok 45 rfl) rfl ?_
  refine n_iadd hx hb (dk kL_law_4_ok 46 rfl) ?_
  refine sld hx hb hXs hbl hL30 hS (i + 2) rfl (by omega) (dk kL_law_4_ok 47 rfl) ?_
  refine lv_aload_n hx hb (dk kL_law_4_ok 48 rfl) rfl (lv_at hl 1 rfl) ?_
  refine lv_iload hx hb (dk kL_law_4_ok 49 rfl) (lv_at hl 5 rfl) ?_
  refine lv_iconst (v := nI 3) hx hb (dk kL_law_4_ok 50 rfl) rfl ?_
  refine n_iadd hx hb (dk kL_law_4_ok 51 rfl) ?_
  refine sld hx hb hXs hbl hL30 hS (i + 3) rfl (by omega) (dk kL_law_4_ok 52 rfl) ?_
  refine cvW (As := [.int (xs (i + 1)), .int (xs (i + 2)), .int (xs (i + 3))]) (rest := []) ⟨hx, hb, hml, hown, hts⟩ hM6 (cwVL 3 hts mcX6_pile (lc2 _ (List.mem_of_getElem? (i := 21) rfl)) miX6_pile meX6_pile mini_RX6 e1 e2 hdX6_pile ⟨e3, e4⟩) hDi hK hP hNW hS (k := 77) (by decide) h77 rfl rfl hl.1 rfl (Nat.le_of_ble_eq_true rfl) ⟨hcell, hslot⟩ (dk kL_law_4_ok 53 rfl) (fun v G H locs hp hP hS => ?_)
  obtain ⟨⟨b9, rfl⟩, hINV⟩ := hq v G hp
  refine W.eq (g2 := F0 m 542 ls [.int b9]) rfl ?_
  refine lv_istore (lv' := [(6, .int b9), (5, .int (nI kk)), (0, .ref b), (1, .ref (pb s.heap.size 0)), (2, .ref (pb s.heap.size 77)), (3, .ref (pb s.heap.size 85)), (4, .int (nI i))]) hx hb (dk kL_law_4_ok 54 rfl) hl (by decide) rfl (fun ls hl => ?_)
  exact lv_goto (tgt := 881) hx hb (dk kL_law_4_ok 55 rfl) (by decide) (kend G H locs ls hINV hP hS (lv_sub hl [2, 3, 4, 5, 6] rfl))
set_option maxRecDepth 100000 in
set_option maxHeartbeats 4000000 in
theorem lw_colour {p : Program} {l : Launch} {e : Env} {s : State} {m : MethodId} {below : List Frame} {meth : Method} {c : Code} {H : Heap} {locs : List Loc} {cells slots : Nat} {Q : State → Prop} {ls : Array Slot} {D : va_G} {cI cQ cL : ClassId} {F : Nat → va_E} {b L i : Nat} {xs : Nat → Int32} {INV : (Nat → va_E) → Prop} (hC : LX p s m c b L xs D cI cQ cL) (hi : i + 5 ≤ L) (hP : va_P D vwCl (iW (pb s.heap.size) 86 F) H) (hS : va_S (iA (pb s.heap.size) 86 s.heap.size) s.heap H locs) (hcell : cells + 1 ≤ 601024) (hslot : slots + 6 ≤ 7293034) (hl : lv_has ls 9 (lvL b s.heap.size i)) (ST : STw0 l D cI cQ cL (pb s.heap.size) 86 yL_colour cL_colour 5 [(0, 10, 13, 13), (0, 10, 17, 15)] yX6_colour cX6_colour 3 F INV [.int (xs (i + 1)), .int (xs (i + 2))]) (kend : ∀ (G : Nat → va_E) (H1 : Heap) (locs1 : List Loc) (ls1 : Array Slot), INV G → va_P D vwCl (iW (pb s.heap.size) 86 G) H1 → va_S (iA (pb s.heap.size) 86 s.heap.size) s.heap H1 locs1 → lv_has ls1 9 (lvL b s.heap.size i) → W p l e room_1 s m #[Value.ref b] below meth c H1 locs1 (cells + 1) (slots + 6) Q (F0 m 881 ls1 [])) : W p l e room_1 s m #[Value.ref b] below meth c H locs cells slots Q (F0 m 547 ls []) := by
  obtain ⟨hx, hb, hml, hown, hts, hK, hNW, hX, hXN, hXs, hbl, hL30⟩ := hC
  have hDi : iD (pb s.heap.size) 86 := pb_D
  obtain ⟨kk, F1, fs, post, rm6, hML, h77, hM6, e1, e2, e3, e4, hq⟩ := ST
  refine lv_aload_n hx hb (dk kL_law_4_ok 56 rfl) rfl (lv_at hl 1 rfl) ?_
  refine lv_aload_n hx hb (dk kL_law_4_ok 57 rfl) rfl (lv_at hl 0 rfl) ?_
  refine lv_iload hx hb (dk kL_law_4_ok 58 rfl) (lv_at hl 4 rfl) ?_
  refine lv_iconst (v := nI 1) hx hb (dk kL_law_4_ok 59 rfl) rfl ?_
  refine n_iadd hx hb (dk kL_law_5_ok 0 rfl) ?_
  refine sld hx hb hXs hbl hL30 hS (i + 1) rfl (by omega) (dk kL_law_5_ok 1 rfl) ?_
  refine lv_aload_n hx hb (dk kL_law_5_ok 2 rfl) rfl (lv_at hl 0 rfl) ?_
  refine lv_iload hx hb (dk kL_law_5_ok 3 rfl) (lv_at hl 4 rfl) ?_
  refine lv_iconst (v := nI 2) hx hb (dk kL_law_5_ok 4 rfl) rfl ?_
  refine n_iadd hx hb (dk kL_law_5_ok 5 rfl) ?_
  refine sld hx hb hXs hbl hL30 hS (i + 2) rfl (by omega) (dk kL_law_5_ok 6 rfl) ?_
  refine lv_aload_n hx hb (dk kL_law_5_ok 7 rfl) rfl (lv_at hl 3 rfl) ?_
  refine csL (As := [.ref (pb s.heap.size 0), .int (xs (i + 1)), .int (xs (i + 2)), .ref (pb s.heap.size 85)]) (rest := []) ⟨hx, hb, hml, hown, hts⟩ hML (vx_cwSW 4 hts (gInLS (lc2 _ (List.mem_of_getElem? (i := 22) rfl)) msL_colour mini_RL mcL_colour) rfl rfl rfl hdL_colour ⟨Nat.le_of_ble_eq_true rfl, Nat.le_of_ble_eq_true rfl⟩) hDi hK hP hNW hS hX hXN rfl hl.1 rfl (Nat.le_of_ble_eq_true rfl) ⟨hcell, hslot⟩ (dk kL_law_5_ok 8 rfl) (fun H locs hP hS => ?_)
  refine lv_istore (lv' := [(5, .int (nI kk)), (0, .ref b), (1, .ref (pb s.heap.size 0)), (2, .ref (pb s.heap.size 77)), (3, .ref (pb s.heap.size 85)), (4, .int (nI i))]) hx hb (dk kL_law_5_ok 9 rfl) hl (by decide) rfl (fun ls hl => ?_)
  refine lv_aload_n hx hb (dk kL_law_5_ok 10 rfl) rfl (lv_at hl 3 rfl) ?_
  refine lv_aload_n hx hb (dk kL_law_5_ok 11 rfl) rfl (lv_at hl 1 rfl) ?_
  refine lv_iload hx hb (dk kL_law_5_ok 12 rfl) (lv_at hl 5 rfl) ?_
  refine lv_iconst (v := nI 1) hx hb (dk kL_law_5_ok 13 rfl) rfl ?_
  refine n_iadd hx hb (dk kL_law_5_ok 14 rfl) ?_
  refine sld hx hb hXs hbl hL30 hS (i + 1) rfl (by omega) (dk kL_law_5_ok 15 rfl) ?_
  refine lv_aload_n hx hb (dk kL_law_5_ok 16 rfl) rfl (lv_at hl 1 rfl) ?_
  refine lv_iload hx hb (dk kL_law_5_ok 17 rfl) (lv_at hl 5 rfl) ?_
  refine lv_iconst (v := nI 2) hx hb (dk kL_law_5_ok 18 rfl) rfl ?_
  refine n_iadd hx hb (dk kL_law_5_ok 19 rfl) ?_
  refine sld hx hb hXs hbl hL30 hS (i + 2) rfl (by omega) (dk kL_law_5_ok 20 rfl) ?_
  refine cvW (As := [.int (xs (i + 1)), .int (xs (i + 2))]) (rest := []) ⟨hx, hb, hml, hown, hts⟩ hM6 (cwVL 2 hts mcX6_colour (lc3 _ (List.mem_of_getElem? (i := 1) rfl)) miX6_colour meX6_colour mini_RX6 e1 e2 hdX6_colour ⟨e3, e4⟩) hDi hK hP hNW hS (k := 77) (by decide) h77 rfl rfl hl.1 rfl (Nat.le_of_ble_eq_true rfl) ⟨hcell, hslot⟩ (dk kL_law_5_ok 21 rfl) (fun v G H locs hp hP hS => ?_)
  obtain ⟨⟨b9, rfl⟩, hINV⟩ := hq v G hp
  refine W.eq (g2 := F0 m 582 ls [.int b9]) rfl ?_
  refine lv_istore (lv' := [(6, .int b9), (5, .int (nI kk)), (0, .ref b), (1, .ref (pb s.heap.size 0)), (2, .ref (pb s.heap.size 77)), (3, .ref (pb s.heap.size 85)), (4, .int (nI i))]) hx hb (dk kL_law_5_ok 22 rfl) hl (by decide) rfl (fun ls hl => ?_)
  exact lv_goto (tgt := 881) hx hb (dk kL_law_5_ok 23 rfl) (by decide) (kend G H locs ls hINV hP hS (lv_sub hl [2, 3, 4, 5, 6] rfl))
set_option maxRecDepth 100000 in
set_option maxHeartbeats 4000000 in
theorem lw_count {p : Program} {l : Launch} {e : Env} {s : State} {m : MethodId} {below : List Frame} {meth : Method} {c : Code} {H : Heap} {locs : List Loc} {cells slots : Nat} {Q : State → Prop} {ls : Array Slot} {D : va_G} {cI cQ cL : ClassId} {F : Nat → va_E} {b L i : Nat} {xs : Nat → Int32} {INV : (Nat → va_E) → Prop} (hC : LX p s m c b L xs D cI cQ cL) (hi : i + 5 ≤ L) (hP : va_P D vwCl (iW (pb s.heap.size) 86 F) H) (hS : va_S (iA (pb s.heap.size) 86 s.heap.size) s.heap H locs) (hcell : cells + 1 ≤ 601024) (hslot : slots + 6 ≤ 7293034) (hl : lv_has ls 9 (lvL b s.heap.size i)) (ST : STw0 l D cI cQ cL (pb s.heap.size) 86 yL_count cL_count 4 [(0, 9, 12, 15)] yX6_count cX6_count 2 F INV [.int (xs (i + 1))]) (kend : ∀ (G : Nat → va_E) (H1 : Heap) (locs1 : List Loc) (ls1 : Array Slot), INV G → va_P D vwCl (iW (pb s.heap.size) 86 G) H1 → va_S (iA (pb s.heap.size) 86 s.heap.size) s.heap H1 locs1 → lv_has ls1 9 (lvL b s.heap.size i) → W p l e room_1 s m #[Value.ref b] below meth c H1 locs1 (cells + 1) (slots + 6) Q (F0 m 881 ls1 [])) : W p l e room_1 s m #[Value.ref b] below meth c H locs cells slots Q (F0 m 587 ls []) := by
  obtain ⟨hx, hb, hml, hown, hts, hK, hNW, hX, hXN, hXs, hbl, hL30⟩ := hC
  have hDi : iD (pb s.heap.size) 86 := pb_D
  obtain ⟨kk, F1, fs, post, rm6, hML, h77, hM6, e1, e2, e3, e4, hq⟩ := ST
  refine lv_aload_n hx hb (dk kL_law_5_ok 24 rfl) rfl (lv_at hl 1 rfl) ?_
  refine lv_aload_n hx hb (dk kL_law_5_ok 25 rfl) rfl (lv_at hl 0 rfl) ?_
  refine lv_iload hx hb (dk kL_law_5_ok 26 rfl) (lv_at hl 4 rfl) ?_
  refine lv_iconst (v := nI 1) hx hb (dk kL_law_5_ok 27 rfl) rfl ?_
  refine n_iadd hx hb (dk kL_law_5_ok 28 rfl) ?_
  refine sld hx hb hXs hbl hL30 hS (i + 1) rfl (by omega) (dk kL_law_5_ok 29 rfl) ?_
  refine lv_aload_n hx hb (dk kL_law_5_ok 30 rfl) rfl (lv_at hl 3 rfl) ?_
  refine csL (As := [.ref (pb s.heap.size 0), .int (xs (i + 1)), .ref (pb s.heap.size 85)]) (rest := []) ⟨hx, hb, hml, hown, hts⟩ hML (vx_cwSW 3 hts (gInLS (lc3 _ (List.mem_of_getElem? (i := 2) rfl)) msL_count mini_RL mcL_count) rfl rfl rfl hdL_count ⟨Nat.le_of_ble_eq_true rfl, Nat.le_of_ble_eq_true rfl⟩) hDi hK hP hNW hS hX hXN rfl hl.1 rfl (Nat.le_of_ble_eq_true rfl) ⟨hcell, hslot⟩ (dk kL_law_5_ok 31 rfl) (fun H locs hP hS => ?_)
  refine lv_istore (lv' := [(5, .int (nI kk)), (0, .ref b), (1, .ref (pb s.heap.size 0)), (2, .ref (pb s.heap.size 77)), (3, .ref (pb s.heap.size 85)), (4, .int (nI i))]) hx hb (dk kL_law_5_ok 32 rfl) hl (by decide) rfl (fun ls hl => ?_)
  refine lv_aload_n hx hb (dk kL_law_5_ok 33 rfl) rfl (lv_at hl 3 rfl) ?_
  refine lv_aload_n hx hb (dk kL_law_5_ok 34 rfl) rfl (lv_at hl 1 rfl) ?_
  refine lv_iload hx hb (dk kL_law_5_ok 35 rfl) (lv_at hl 5 rfl) ?_
  refine lv_iconst (v := nI 1) hx hb (dk kL_law_5_ok 36 rfl) rfl ?_
  refine n_iadd hx hb (dk kL_law_5_ok 37 rfl) ?_
  refine sld hx hb hXs hbl hL30 hS (i + 1) rfl (by omega) (dk kL_law_5_ok 38 rfl) ?_
  refine cvW (As := [.int (xs (i + 1))]) (rest := []) ⟨hx, hb, hml, hown, hts⟩ hM6 (cwVL 1 hts mcX6_count (lc3 _ (List.mem_of_getElem? (i := 5) rfl)) miX6_count meX6_count mini_RX6 e1 e2 hdX6_count ⟨e3, e4⟩) hDi hK hP hNW hS (k := 77) (by decide) h77 rfl rfl hl.1 rfl (Nat.le_of_ble_eq_true rfl) ⟨hcell, hslot⟩ (dk kL_law_5_ok 39 rfl) (fun v G H locs hp hP hS => ?_)
  obtain ⟨⟨b9, rfl⟩, hINV⟩ := hq v G hp
  refine W.eq (g2 := F0 m 610 ls [.int b9]) rfl ?_
  refine lv_istore (lv' := [(6, .int b9), (5, .int (nI kk)), (0, .ref b), (1, .ref (pb s.heap.size 0)), (2, .ref (pb s.heap.size 77)), (3, .ref (pb s.heap.size 85)), (4, .int (nI i))]) hx hb (dk kL_law_5_ok 40 rfl) hl (by decide) rfl (fun ls hl => ?_)
  exact lv_goto (tgt := 881) hx hb (dk kL_law_5_ok 41 rfl) (by decide) (kend G H locs ls hINV hP hS (lv_sub hl [2, 3, 4, 5, 6] rfl))
set_option maxRecDepth 100000 in
set_option maxHeartbeats 4000000 in
theorem lw_why {p : Program} {l : Launch} {e : Env} {s : State} {m : MethodId} {below : List Frame} {meth : Method} {c : Code} {H : Heap} {locs : List Loc} {cells slots : Nat} {Q : State → Prop} {ls : Array Slot} {D : va_G} {cI cQ cL : ClassId} {F : Nat → va_E} {b L i : Nat} {xs : Nat → Int32} {INV : (Nat → va_E) → Prop} (hC : LX p s m c b L xs D cI cQ cL) (hi : i + 5 ≤ L) (hP : va_P D vwCl (iW (pb s.heap.size) 86 F) H) (hS : va_S (iA (pb s.heap.size) 86 s.heap.size) s.heap H locs) (hcell : cells + 1 ≤ 601024) (hslot : slots + 6 ≤ 7293034) (hl : lv_has ls 9 (lvL b s.heap.size i)) (ST : STw0 l D cI cQ cL (pb s.heap.size) 86 yL_why cL_why 7 [(0, 14, 17, 13), (0, 14, 21, 15)] yX6_why cX6_why 5 F INV [.int (xs (i + 1)), .int (xs (i + 2)), .int (xs (i + 3)), .int (xs (i + 4))]) (kend : ∀ (G : Nat → va_E) (H1 : Heap) (locs1 : List Loc) (ls1 : Array Slot), INV G → va_P D vwCl (iW (pb s.heap.size) 86 G) H1 → va_S (iA (pb s.heap.size) 86 s.heap.size) s.heap H1 locs1 → lv_has ls1 9 (lvL b s.heap.size i) → W p l e room_1 s m #[Value.ref b] below meth c H1 locs1 (cells + 1) (slots + 6) Q (F0 m 881 ls1 [])) : W p l e room_1 s m #[Value.ref b] below meth c H locs cells slots Q (F0 m 615 ls []) := by
  obtain ⟨hx, hb, hml, hown, hts, hK, hNW, hX, hXN, hXs, hbl, hL30⟩ := hC
  have hDi : iD (pb s.heap.size) 86 := pb_D
  obtain ⟨kk, F1, fs, post, rm6, hML, h77, hM6, e1, e2, e3, e4, hq⟩ := ST
  refine lv_aload_n hx hb (dk kL_law_5_ok 42 rfl) rfl (lv_at hl 1 rfl) ?_
  refine lv_aload_n hx hb (dk kL_law_5_ok 43 rfl) rfl (lv_at hl 0 rfl) ?_
  refine lv_iload hx hb (dk kL_law_5_ok 44 rfl) (lv_at hl 4 rfl) ?_
  refine lv_iconst (v := nI 1) hx hb (dk kL_law_5_ok 45 rfl) rfl ?_
  refine n_iadd hx hb (dk kL_law_5_ok 46 rfl) ?_
  refine sld hx hb hXs hbl hL30 hS (i + 1) rfl (by omega) (dk kL_law_5_ok 47 rfl) ?_
  refine lv_aload_n hx hb (dk kL_law_5_ok 48 rfl) rfl (lv_at hl 0 rfl) ?_
  refine lv_iload hx hb (dk kL_law_5_ok 49 rfl) (lv_at hl 4 rfl) ?_
  refine lv_iconst (v := nI 2) hx hb (dk kL_law_5_ok 50 rfl) rfl ?_
  refine n_iadd hx hb (dk kL_law_5_ok 51 rfl) ?_
  refine sld hx hb hXs hbl hL30 hS (i + 2) rfl (by omega) (dk kL_law_5_ok 52 rfl) ?_
  refine lv_aload_n hx hb (dk kL_law_5_ok 53 rfl) rfl (lv_at hl 0 rfl) ?_
  refine lv_iload hx hb (dk kL_law_5_ok 54 rfl) (lv_at hl 4 rfl) ?_
  refine lv_iconst (v := nI 3) hx hb (dk kL_law_5_ok 55 rfl) rfl ?_
  refine n_iadd hx hb (dk kL_law_5_ok 56 rfl) ?_
  refine sld hx hb hXs hbl hL30 hS (i + 3) rfl (by omega) (dk kL_law_5_ok 57 rfl) ?_
  refine lv_aload_n hx hb (dk kL_law_5_ok 58 rfl) rfl (lv_at hl 0 rfl) ?_
  refine lv_iload hx hb (dk kL_law_5_ok 59 rfl) (lv_at hl 4 rfl) ?_
  refine lv_iconst (v := nI 4) hx hb (dk kL_law_6_ok 0 rfl) rfl ?_
  refine n_iadd hx hb (dk kL_law_6_ok 1 rfl) ?_
  refine sld hx hb hXs hbl hL30 hS (i + 4) rfl (by omega) (dk kL_law_6_ok 2 rfl) ?_
  refine lv_aload_n hx hb (dk kL_law_6_ok 3 rfl) rfl (lv_at hl 3 rfl) ?_
  refine csL (As := [.ref (pb s.heap.size 0), .int (xs (i + 1)), .int (xs (i + 2)), .int (xs (i + 3)), .int (xs (i + 4)), .ref (pb s.heap.size 85)]) (rest := []) ⟨hx, hb, hml, hown, hts⟩ hML (vx_cwSW 6 hts (gInLS (lc3 _ (List.mem_of_getElem? (i := 6) rfl)) msL_why mini_RL mcL_why) rfl rfl rfl hdL_why ⟨Nat.le_of_ble_eq_true rfl, Nat.le_of_ble_eq_true rfl⟩) hDi hK hP hNW hS hX hXN rfl hl.1 rfl (Nat.le_of_ble_eq_true rfl) ⟨hcell, hslot⟩ (dk kL_law_6_ok 4 rfl) (fun H locs hP hS => ?_)
  refine lv_istore (lv' := [(5, .int (nI kk)), (0, .ref b), (1, .ref (pb s.heap.size 0)), (2, .ref (pb s.heap.size 77)), (3, .ref (pb s.heap.size 85)), (4, .int (nI i))]) hx hb (dk kL_law_6_ok 5 rfl) hl (by decide) rfl (fun ls hl => ?_)
  refine lv_aload_n hx hb (dk kL_law_6_ok 6 rfl) rfl (lv_at hl 3 rfl) ?_
  refine lv_aload_n hx hb (dk kL_law_6_ok 7 rfl) rfl (lv_at hl 1 rfl) ?_
  refine lv_iload hx hb (dk kL_law_6_ok 8 rfl) (lv_at hl 5 rfl) ?_
  refine lv_iconst (v := nI 1) hx hb (dk kL_law_6_ok 9 rfl) rfl ?_
  refine n_iadd hx hb (dk kL_law_6_ok 10 rfl) ?_
  refine sld hx hb hXs hbl hL30 hS (i + 1) rfl (by omega) (dk kL_law_6_ok 11 rfl) ?_
  refine lv_aload_n hx hb (dk kL_law_6_ok 12 rfl) rfl (lv_at hl 1 rfl) ?_
  refine lv_iload hx hb (dk kL_law_6_ok 13 rfl) (lv_at hl 5 rfl) ?_
  refine lv_iconst (v := nI 2) hx hb (dk kL_law_6_ok 14 rfl) rfl ?_
  refine n_iadd hx hb (dk kL_law_6_ok 15 rfl) ?_
  refine sld hx hb hXs hbl hL30 hS (i + 2) rfl (by omega) (dk kL_law_6_ok 16 rfl) ?_
  refine lv_aload_n hx hb (dk kL_law_6_ok 17 rfl) rfl (lv_at hl 1 rfl) ?_
  refine lv_iload hx hb (dk kL_law_6_ok 18 rfl) (lv_at hl 5 rfl) ?_
  refine lv_iconst (v := nI 3) hx hb (dk kL_law_6_ok 19 rfl) rfl ?_
  refine n_iadd hx hb (dk kL_law_6_ok 20 rfl) ?_
  refine sld hx hb hXs hbl hL30 hS (i + 3) rfl (by omega) (dk kL_law_6_ok 21 rfl) ?_
  refine lv_aload_n hx hb (dk kL_law_6_ok 22 rfl) rfl (lv_at hl 1 rfl) ?_
  refine lv_iload hx hb (dk kL_law_6_ok 23 rfl) (lv_at hl 5 rfl) ?_
  refine lv_iconst (v := nI 4) hx hb (dk kL_law_6_ok 24 rfl) rfl ?_
  refine n_iadd hx hb (dk kL_law_6_ok 25 rfl) ?_
  refine sld hx hb hXs hbl hL30 hS (i + 4) rfl (by omega) (dk kL_law_6_ok 26 rfl) ?_
  refine cvW (As := [.int (xs (i + 1)), .int (xs (i + 2)), .int (xs (i + 3)), .int (xs (i + 4))]) (rest := []) ⟨hx, hb, hml, hown, hts⟩ hM6 (cwVL 4 hts mcX6_why (lc3 _ (List.mem_of_getElem? (i := 9) rfl)) miX6_why meX6_why mini_RX6 e1 e2 hdX6_why ⟨e3, e4⟩) hDi hK hP hNW hS (k := 77) (by decide) h77 rfl rfl hl.1 rfl (Nat.le_of_ble_eq_true rfl) ⟨hcell, hslot⟩ (dk kL_law_6_ok 27 rfl) (fun v G H locs hp hP hS => ?_)
  obtain ⟨⟨b9, rfl⟩, hINV⟩ := hq v G hp
  refine W.eq (g2 := F0 m 674 ls [.int b9]) rfl ?_
  refine lv_istore (lv' := [(6, .int b9), (5, .int (nI kk)), (0, .ref b), (1, .ref (pb s.heap.size 0)), (2, .ref (pb s.heap.size 77)), (3, .ref (pb s.heap.size 85)), (4, .int (nI i))]) hx hb (dk kL_law_6_ok 28 rfl) hl (by decide) rfl (fun ls hl => ?_)
  exact lv_goto (tgt := 881) hx hb (dk kL_law_6_ok 29 rfl) (by decide) (kend G H locs ls hINV hP hS (lv_sub hl [2, 3, 4, 5, 6] rfl))
set_option maxRecDepth 100000 in
set_option maxHeartbeats 4000000 in
theorem lw_lands {p : Program} {l : Launch} {e : Env} {s : State} {m : MethodId} {below : List Frame} {meth : Method} {c : Code} {H : Heap} {locs : List Loc} {cells slots : Nat} {Q : State → Prop} {ls : Array Slot} {D : va_G} {cI cQ cL : ClassId} {F : Nat → va_E} {b L i : Nat} {xs : Nat → Int32} {INV : (Nat → va_E) → Prop} (hC : LX p s m c b L xs D cI cQ cL) (hi : i + 5 ≤ L) (hP : va_P D vwCl (iW (pb s.heap.size) 86 F) H) (hS : va_S (iA (pb s.heap.size) 86 s.heap.size) s.heap H locs) (hcell : cells + 1 ≤ 601024) (hslot : slots + 6 ≤ 7293034) (hl : lv_has ls 9 (lvL b s.heap.size i)) (ST : STw0 l D cI cQ cL (pb s.heap.size) 86 yL_lands cL_lands 6 [(0, 12, 15, 13), (0, 12, 19, 15)] yX6_lands cX6_lands 4 F INV [.int (xs (i + 1)), .int (xs (i + 2)), .int (xs (i + 3))]) (kend : ∀ (G : Nat → va_E) (H1 : Heap) (locs1 : List Loc) (ls1 : Array Slot), INV G → va_P D vwCl (iW (pb s.heap.size) 86 G) H1 → va_S (iA (pb s.heap.size) 86 s.heap.size) s.heap H1 locs1 → lv_has ls1 9 (lvL b s.heap.size i) → W p l e room_1 s m #[Value.ref b] below meth c H1 locs1 (cells + 1) (slots + 6) Q (F0 m 881 ls1 [])) : W p l e room_1 s m #[Value.ref b] below meth c H locs cells slots Q (F0 m 679 ls []) := by
  obtain ⟨hx, hb, hml, hown, hts, hK, hNW, hX, hXN, hXs, hbl, hL30⟩ := hC
  have hDi : iD (pb s.heap.size) 86 := pb_D
  obtain ⟨kk, F1, fs, post, rm6, hML, h77, hM6, e1, e2, e3, e4, hq⟩ := ST
  refine lv_aload_n hx hb (dk kL_law_6_ok 30 rfl) rfl (lv_at hl 1 rfl) ?_
  refine lv_aload_n hx hb (dk kL_law_6_ok 31 rfl) rfl (lv_at hl 0 rfl) ?_
  refine lv_iload hx hb (dk kL_law_6_ok 32 rfl) (lv_at hl 4 rfl) ?_
  refine lv_iconst (v := nI 1) hx hb (dk kL_law_6_ok 33 rfl) rfl ?_
  refine n_iadd hx hb (dk kL_law_6_ok 34 rfl) ?_
  refine sld hx hb hXs hbl hL30 hS (i + 1) rfl (by omega) (dk kL_law_6_ok 35 rfl) ?_
  refine lv_aload_n hx hb (dk kL_law_6_ok 36 rfl) rfl (lv_at hl 0 rfl) ?_
  refine lv_iload hx hb (dk kL_law_6_ok 37 rfl) (lv_at hl 4 rfl) ?_
  refine lv_iconst (v := nI 2) hx hb (dk kL_law_6_ok 38 rfl) rfl ?_
  refine n_iadd hx hb (dk kL_law_6_ok 39 rfl) ?_
  refine sld hx hb hXs hbl hL30 hS (i + 2) rfl (by omega) (dk kL_law_6_ok 40 rfl) ?_
  refine lv_aload_n hx hb (dk kL_law_6_ok 41 rfl) rfl (lv_at hl 0 rfl) ?_
  refine lv_iload hx hb (dk kL_law_6_ok 42 rfl) (lv_at hl 4 rfl) ?_
  refine lv_iconst (v := nI 3) hx hb (dk kL_law_6_ok 43 rfl) rfl ?_
  refine n_iadd hx hb (dk kL_law_6_ok 44 rfl) ?_
  refine sld hx hb hXs hbl hL30 hS (i + 3) rfl (by omega) (dk kL_law_6_ok 45 rfl) ?_
  refine lv_aload_n hx hb (dk kL_law_6_ok 46 rfl) rfl (lv_at hl 3 rfl) ?_
  refine csL (As := [.ref (pb s.heap.size 0), .int (xs (i + 1)), .int (xs (i + 2)), .int (xs (i + 3)), .ref (pb s.heap.size 85)]) (rest := []) ⟨hx, hb, hml, hown, hts⟩ hML (vx_cwSW 5 hts (gInLS (lc3 _ (List.mem_of_getElem? (i := 10) rfl)) msL_lands mini_RL mcL_lands) rfl rfl rfl hdL_lands ⟨Nat.le_of_ble_eq_true rfl, Nat.le_of_ble_eq_true rfl⟩) hDi hK hP hNW hS hX hXN rfl hl.1 rfl (Nat.le_of_ble_eq_true rfl) ⟨hcell, hslot⟩ (dk kL_law_6_ok 47 rfl) (fun H locs hP hS => ?_)
  refine lv_istore (lv' := [(5, .int (nI kk)), (0, .ref b), (1, .ref (pb s.heap.size 0)), (2, .ref (pb s.heap.size 77)), (3, .ref (pb s.heap.size 85)), (4, .int (nI i))]) hx hb (dk kL_law_6_ok 48 rfl) hl (by decide) rfl (fun ls hl => ?_)
  refine lv_aload_n hx hb (dk kL_law_6_ok 49 rfl) rfl (lv_at hl 3 rfl) ?_
  refine lv_aload_n hx hb (dk kL_law_6_ok 50 rfl) rfl (lv_at hl 1 rfl) ?_
  refine lv_iload hx hb (dk kL_law_6_ok 51 rfl) (lv_at hl 5 rfl) ?_
  refine lv_iconst (v := nI 1) hx hb (dk kL_law_6_ok 52 rfl) rfl ?_
  refine n_iadd hx hb (dk kL_law_6_ok 53 rfl) ?_
  refine sld hx hb hXs hbl hL30 hS (i + 1) rfl (by omega) (dk kL_law_6_ok 54 rfl) ?_
  refine lv_aload_n hx hb (dk kL_law_6_ok 55 rfl) rfl (lv_at hl 1 rfl) ?_
  refine lv_iload hx hb (dk kL_law_6_ok 56 rfl) (lv_at hl 5 rfl) ?_
  refine lv_iconst (v := nI 2) hx hb (dk kL_law_6_ok 57 rfl) rfl ?_
  refine n_iadd hx hb (dk kL_law_6_ok 58 rfl) ?_
  refine sld hx hb hXs hbl hL30 hS (i + 2) rfl (by omega) (dk kL_law_6_ok 59 rfl) ?_
  refine lv_aload_n hx hb (dk kL_law_7_ok 0 rfl) rfl (lv_at hl 1 rfl) ?_
  refine lv_iload hx hb (dk kL_law_7_ok 1 rfl) (lv_at hl 5 rfl) ?_
  refine lv_iconst (v := nI 3) hx hb (dk kL_law_7_ok 2 rfl) rfl ?_
  refine n_iadd hx hb (dk kL_law_7_ok 3 rfl) ?_
  refine sld hx hb hXs hbl hL30 hS (i + 3) rfl (by omega) (dk kL_law_7_ok 4 rfl) ?_
  refine cvW (As := [.int (xs (i + 1)), .int (xs (i + 2)), .int (xs (i + 3))]) (rest := []) ⟨hx, hb, hml, hown, hts⟩ hM6 (cwVL 3 hts mcX6_lands (lc3 _ (List.mem_of_getElem? (i := 13) rfl)) miX6_lands meX6_lands mini_RX6 e1 e2 hdX6_lands ⟨e3, e4⟩) hDi hK hP hNW hS (k := 77) (by decide) h77 rfl rfl hl.1 rfl (Nat.le_of_ble_eq_true rfl) ⟨hcell, hslot⟩ (dk kL_law_7_ok 5 rfl) (fun v G H locs hp hP hS => ?_)
  obtain ⟨⟨b9, rfl⟩, hINV⟩ := hq v G hp
  refine W.eq (g2 := F0 m 726 ls [.int b9]) rfl ?_
  refine lv_istore (lv' := [(6, .int b9), (5, .int (nI kk)), (0, .ref b), (1, .ref (pb s.heap.size 0)), (2, .ref (pb s.heap.size 77)), (3, .ref (pb s.heap.size 85)), (4, .int (nI i))]) hx hb (dk kL_law_7_ok 6 rfl) hl (by decide) rfl (fun ls hl => ?_)
  exact lv_goto (tgt := 881) hx hb (dk kL_law_7_ok 7 rfl) (by decide) (kend G H locs ls hINV hP hS (lv_sub hl [2, 3, 4, 5, 6] rfl))
set_option maxRecDepth 100000 in
set_option maxHeartbeats 4000000 in
theorem lw_ifFlown {p : Program} {l : Launch} {e : Env} {s : State} {m : MethodId} {below : List Frame} {meth : Method} {c : Code} {H : Heap} {locs : List Loc} {cells slots : Nat} {Q : State → Prop} {ls : Array Slot} {D : va_G} {cI cQ cL : ClassId} {F : Nat → va_E} {b L i : Nat} {xs : Nat → Int32} {INV : (Nat → va_E) → Prop} (hC : LX p s m c b L xs D cI cQ cL) (hi : i + 5 ≤ L) (hP : va_P D vwCl (iW (pb s.heap.size) 86 F) H) (hS : va_S (iA (pb s.heap.size) 86 s.heap.size) s.heap H locs) (hcell : cells + 1 ≤ 601024) (hslot : slots + 6 ≤ 7293034) (hl : lv_has ls 9 (lvL b s.heap.size i)) (ST : STw0 l D cI cQ cL (pb s.heap.size) 86 yL_ifFlown cL_ifFlown 7 [(0, 14, 17, 13), (0, 14, 21, 15)] yX6_ifFlown cX6_ifFlown 5 F INV [.int (xs (i + 1)), .int (xs (i + 2)), .int (xs (i + 3)), .int (xs (i + 4))]) (kend : ∀ (G : Nat → va_E) (H1 : Heap) (locs1 : List Loc) (ls1 : Array Slot), INV G → va_P D vwCl (iW (pb s.heap.size) 86 G) H1 → va_S (iA (pb s.heap.size) 86 s.heap.size) s.heap H1 locs1 → lv_has ls1 9 (lvL b s.heap.size i) → W p l e room_1 s m #[Value.ref b] below meth c H1 locs1 (cells + 1) (slots + 6) Q (F0 m 881 ls1 [])) : W p l e room_1 s m #[Value.ref b] below meth c H locs cells slots Q (F0 m 731 ls []) := by
  obtain ⟨hx, hb, hml, hown, hts, hK, hNW, hX, hXN, hXs, hbl, hL30⟩ := hC
  have hDi : iD (pb s.heap.size) 86 := pb_D
  obtain ⟨kk, F1, fs, post, rm6, hML, h77, hM6, e1, e2, e3, e4, hq⟩ := ST
  refine lv_aload_n hx hb (dk kL_law_7_ok 8 rfl) rfl (lv_at hl 1 rfl) ?_
  refine lv_aload_n hx hb (dk kL_law_7_ok 9 rfl) rfl (lv_at hl 0 rfl) ?_
  refine lv_iload hx hb (dk kL_law_7_ok 10 rfl) (lv_at hl 4 rfl) ?_
  refine lv_iconst (v := nI 1) hx hb (dk kL_law_7_ok 11 rfl) rfl ?_
  refine n_iadd hx hb (dk kL_law_7_ok 12 rfl) ?_
  refine sld hx hb hXs hbl hL30 hS (i + 1) rfl (by omega) (dk kL_law_7_ok 13 rfl) ?_
  refine lv_aload_n hx hb (dk kL_law_7_ok 14 rfl) rfl (lv_at hl 0 rfl) ?_
  refine lv_iload hx hb (dk kL_law_7_ok 15 rfl) (lv_at hl 4 rfl) ?_
  refine lv_iconst (v := nI 2) hx hb (dk kL_law_7_ok 16 rfl) rfl ?_
  refine n_iadd hx hb (dk kL_law_7_ok 17 rfl) ?_
  refine sld hx hb hXs hbl hL30 hS (i + 2) rfl (by omega) (dk kL_law_7_ok 18 rfl) ?_
  refine lv_aload_n hx hb (dk kL_law_7_ok 19 rfl) rfl (lv_at hl 0 rfl) ?_
  refine lv_iload hx hb (dk kL_law_7_ok 20 rfl) (lv_at hl 4 rfl) ?_
  refine lv_iconst (v := nI 3) hx hb (dk kL_law_7_ok 21 rfl) rfl ?_
  refine n_iadd hx hb (dk kL_law_7_ok 22 rfl) ?_
  refine sld hx hb hXs hbl hL30 hS (i + 3) rfl (by omega) (dk kL_law_7_ok 23 rfl) ?_
  refine lv_aload_n hx hb (dk kL_law_7_ok 24 rfl) rfl (lv_at hl 0 rfl) ?_
  refine lv_iload hx hb (dk kL_law_7_ok 25 rfl) (lv_at hl 4 rfl) ?_
  refine lv_iconst (v := nI 4) hx hb (dk kL_law_7_ok 26 rfl) rfl ?_
  refine n_iadd hx hb (dk kL_law_7_ok 27 rfl) ?_
  refine sld hx hb hXs hbl hL30 hS (i + 4) rfl (by omega) (dk kL_law_7_ok 28 rfl) ?_
  refine lv_aload_n hx hb (dk kL_law_7_ok 29 rfl) rfl (lv_at hl 3 rfl) ?_
  refine csL (As := [.ref (pb s.heap.size 0), .int (xs (i + 1)), .int (xs (i + 2)), .int (xs (i + 3)), .int (xs (i + 4)), .ref (pb s.heap.size 85)]) (rest := []) ⟨hx, hb, hml, hown, hts⟩ hML (vx_cwSW 6 hts (gInLS (lc3 _ (List.mem_of_getElem? (i := 14) rfl)) msL_ifFlown mini_RL mcL_ifFlown) rfl rfl rfl hdL_ifFlown ⟨Nat.le_of_ble_eq_true rfl, Nat.le_of_ble_eq_true rfl⟩) hDi hK hP hNW hS hX hXN rfl hl.1 rfl (Nat.le_of_ble_eq_true rfl) ⟨hcell, hslot⟩ (dk kL_law_7_ok 30 rfl) (fun H locs hP hS => ?_)
  refine lv_istore (lv' := [(5, .int (nI kk)), (0, .ref b), (1, .ref (pb s.heap.size 0)), (2, .ref (pb s.heap.size 77)), (3, .ref (pb s.heap.size 85)), (4, .int (nI i))]) hx hb (dk kL_law_7_ok 31 rfl) hl (by decide) rfl (fun ls hl => ?_)
  refine lv_aload_n hx hb (dk kL_law_7_ok 32 rfl) rfl (lv_at hl 3 rfl) ?_
  refine lv_aload_n hx hb (dk kL_law_7_ok 33 rfl) rfl (lv_at hl 1 rfl) ?_
  refine lv_iload hx hb (dk kL_law_7_ok 34 rfl) (lv_at hl 5 rfl) ?_
  refine lv_iconst (v := nI 1) hx hb (dk kL_law_7_ok 35 rfl) rfl ?_
  refine n_iadd hx hb (dk kL_law_7_ok 36 rfl) ?_
  refine sld hx hb hXs hbl hL30 hS (i + 1) rfl (by omega) (dk kL_law_7_ok 37 rfl) ?_
  refine lv_aload_n hx hb (dk kL_law_7_ok 38 rfl) rfl (lv_at hl 1 rfl) ?_
  refine lv_iload hx hb (dk kL_law_7_ok 39 rfl) (lv_at hl 5 rfl) ?_
  refine lv_iconst (v := nI 2) hx hb (dk kL_law_7_ok 40 rfl) rfl ?_
  refine n_iadd hx hb (dk kL_law_7_ok 41 rfl) ?_
  refine sld hx hb hXs hbl hL30 hS (i + 2) rfl (by omega) (dk kL_law_7_ok 42 rfl) ?_
  refine lv_aload_n hx hb (dk kL_law_7_ok 43 rfl) rfl (lv_at hl 1 rfl) ?_
  refine lv_iload hx hb (dk kL_law_7_ok 44 rfl) (lv_at hl 5 rfl) ?_
  refine lv_iconst (v := nI 3) hx hb (dk kL_law_7_ok 45 rfl) rfl ?_
  refine n_iadd hx hb (dk kL_law_7_ok 46 rfl) ?_
  refine sld hx hb hXs hbl hL30 hS (i + 3) rfl (by omega) (dk kL_law_7_ok 47 rfl) ?_
  refine lv_aload_n hx hb (dk kL_law_7_ok 48 rfl) rfl (lv_at hl 1 rfl) ?_
  refine lv_iload hx hb (dk kL_law_7_ok 49 rfl) (lv_at hl 5 rfl) ?_
  refine lv_iconst (v := nI 4) hx hb (dk kL_law_7_ok 50 rfl) rfl ?_
  refine n_iadd hx hb (dk kL_law_7_ok 51 rfl) ?_
  refine sld hx hb hXs hbl hL30 hS (i + 4) rfl (by omega) (dk kL_law_7_ok 52 rfl) ?_
  refine cvW (As := [.int (xs (i + 1)), .int (xs (i + 2)), .int (xs (i + 3)), .int (xs (i + 4))]) (rest := []) ⟨hx, hb, hml, hown, hts⟩ hM6 (cwVL 4 hts mcX6_ifFlown (lc3 _ (List.mem_of_getElem? (i := 17) rfl)) miX6_ifFlown meX6_ifFlown mini_RX6 e1 e2 hdX6_ifFlown ⟨e3, e4⟩) hDi hK hP hNW hS (k := 77) (by decide) h77 rfl rfl hl.1 rfl (Nat.le_of_ble_eq_true rfl) ⟨hcell, hslot⟩ (dk kL_law_7_ok 53 rfl) (fun v G H locs hp hP hS => ?_)
  obtain ⟨⟨b9, rfl⟩, hINV⟩ := hq v G hp
  refine W.eq (g2 := F0 m 790 ls [.int b9]) rfl ?_
  refine lv_istore (lv' := [(6, .int b9), (5, .int (nI kk)), (0, .ref b), (1, .ref (pb s.heap.size 0)), (2, .ref (pb s.heap.size 77)), (3, .ref (pb s.heap.size 85)), (4, .int (nI i))]) hx hb (dk kL_law_7_ok 54 rfl) hl (by decide) rfl (fun ls hl => ?_)
  exact lv_goto (tgt := 881) hx hb (dk kL_law_7_ok 55 rfl) (by decide) (kend G H locs ls hINV hP hS (lv_sub hl [2, 3, 4, 5, 6] rfl))
set_option maxRecDepth 100000 in
set_option maxHeartbeats 4000000 in
theorem lw_best {p : Program} {l : Launch} {e : Env} {s : State} {m : MethodId} {below : List Frame} {meth : Method} {c : Code} {H : Heap} {locs : List Loc} {cells slots : Nat} {Q : State → Prop} {ls : Array Slot} {D : va_G} {cI cQ cL : ClassId} {F : Nat → va_E} {b L i : Nat} {xs : Nat → Int32} {INV : (Nat → va_E) → Prop} (hC : LX p s m c b L xs D cI cQ cL) (hi : i + 5 ≤ L) (hP : va_P D vwCl (iW (pb s.heap.size) 86 F) H) (hS : va_S (iA (pb s.heap.size) 86 s.heap.size) s.heap H locs) (hcell : cells + 1 ≤ 601024) (hslot : slots + 6 ≤ 7293034) (hl : lv_has ls 9 (lvL b s.heap.size i)) (ST : STs0 l D cI cQ cL (pb s.heap.size) 86 yX5_best cX5_best 11 yX6_best cX6_best 1 .int okI F INV) (kend : ∀ (G : Nat → va_E) (H1 : Heap) (locs1 : List Loc) (ls1 : Array Slot), INV G → va_P D vwCl (iW (pb s.heap.size) 86 G) H1 → va_S (iA (pb s.heap.size) 86 s.heap.size) s.heap H1 locs1 → lv_has ls1 9 (lvL b s.heap.size i) → W p l e room_1 s m #[Value.ref b] below meth c H1 locs1 (cells + 1) (slots + 6) Q (F0 m 881 ls1 [])) : W p l e room_1 s m #[Value.ref b] below meth c H locs cells slots Q (F0 m 795 ls []) := by
  obtain ⟨hx, hb, hml, hown, hts, hK, hNW, hX, hXN, hXs, hbl, hL30⟩ := hC
  have hDi : iD (pb s.heap.size) 86 := pb_D
  obtain ⟨b9, F1, f5, f6, post, rm5, rm6, hok, h00, hM5, d1, d2, d3, d4, h77, hM6, e1, e2, e3, e4, hq⟩ := ST
  obtain ⟨x, rfl⟩ := hok
  refine lv_aload_n hx hb (dk kL_law_7_ok 56 rfl) rfl (lv_at hl 1 rfl) ?_
  refine cvD F1 (As := []) (rest := []) ⟨hx, hb, hml, hown, hts⟩ hM5 (cwVL 0 hts mcX5_best (lc3 _ (List.mem_of_getElem? (i := 18) rfl)) miX5_best meX5_best mini_RX5 d1 d2 hdX5_best ⟨d3, d4⟩) hDi hK hP hNW hS (k := 0) (by decide) h00 rfl rfl hl.1 rfl (Nat.le_of_ble_eq_true rfl) ⟨Nat.le_trans (Nat.le_add_right _ 1) hcell, Nat.le_trans (Nat.le_add_right _ 6) hslot⟩ (dk kL_law_7_ok 57 rfl) rfl (fun H locs hP hS => ?_)
  refine lv_pop hx hb (dk kL_law_7_ok 58 rfl) rfl ?_
  refine lv_aload_n hx hb (dk kL_law_7_ok 59 rfl) rfl (lv_at hl 2 rfl) ?_
  refine cvW (As := []) (rest := []) ⟨hx, hb, hml, hown, hts⟩ hM6 (cwVL 0 hts mcX6_best (lc3 _ (List.mem_of_getElem? (i := 19) rfl)) miX6_best meX6_best mini_RX6 e1 e2 hdX6_best ⟨e3, e4⟩) hDi hK hP hNW hS (k := 77) (by decide) h77 rfl rfl hl.1 rfl (Nat.le_of_ble_eq_true rfl) ⟨Nat.le_trans (Nat.le_add_right _ 1) hcell, Nat.le_trans (Nat.le_add_right _ 6) hslot⟩ (dk kL_law_8_ok 0 rfl) (fun v G H locs hp hP hS => ?_)
  obtain ⟨⟨b2, hok2, rfl⟩, hINV⟩ := hq v G hp
  obtain ⟨y, rfl⟩ := hok2
  refine W.widen (k := cells + 1) (n := slots + 6) (by omega) (by omega) ?_
  refine W.eq (g2 := F0 m 804 ls [.int y]) rfl ?_
  refine lv_pop hx hb (dk kL_law_8_ok 1 rfl) rfl ?_
  exact lv_goto (tgt := 881) hx hb (dk kL_law_8_ok 2 rfl) (by decide) (kend G H locs ls hINV hP hS (lv_sub hl [0, 1, 2, 3, 4] rfl))
set_option maxRecDepth 100000 in
set_option maxHeartbeats 4000000 in
theorem lw_flightsTo {p : Program} {l : Launch} {e : Env} {s : State} {m : MethodId} {below : List Frame} {meth : Method} {c : Code} {H : Heap} {locs : List Loc} {cells slots : Nat} {Q : State → Prop} {ls : Array Slot} {D : va_G} {cI cQ cL : ClassId} {F : Nat → va_E} {b L i : Nat} {xs : Nat → Int32} {INV : (Nat → va_E) → Prop} (hC : LX p s m c b L xs D cI cQ cL) (hi : i + 5 ≤ L) (hP : va_P D vwCl (iW (pb s.heap.size) 86 F) H) (hS : va_S (iA (pb s.heap.size) 86 s.heap.size) s.heap H locs) (hcell : cells + 1 ≤ 601024) (hslot : slots + 6 ≤ 7293034) (hl : lv_has ls 9 (lvL b s.heap.size i)) (ST : STw0 l D cI cQ cL (pb s.heap.size) 86 yL_flightsTo cL_flightsTo 4 [(0, 9, 12, 13)] yX6_flightsTo cX6_flightsTo 2 F INV [.int (xs (i + 1))]) (kend : ∀ (G : Nat → va_E) (H1 : Heap) (locs1 : List Loc) (ls1 : Array Slot), INV G → va_P D vwCl (iW (pb s.heap.size) 86 G) H1 → va_S (iA (pb s.heap.size) 86 s.heap.size) s.heap H1 locs1 → lv_has ls1 9 (lvL b s.heap.size i) → W p l e room_1 s m #[Value.ref b] below meth c H1 locs1 (cells + 1) (slots + 6) Q (F0 m 881 ls1 [])) : W p l e room_1 s m #[Value.ref b] below meth c H locs cells slots Q (F0 m 808 ls []) := by
  obtain ⟨hx, hb, hml, hown, hts, hK, hNW, hX, hXN, hXs, hbl, hL30⟩ := hC
  have hDi : iD (pb s.heap.size) 86 := pb_D
  obtain ⟨kk, F1, fs, post, rm6, hML, h77, hM6, e1, e2, e3, e4, hq⟩ := ST
  refine lv_aload_n hx hb (dk kL_law_8_ok 3 rfl) rfl (lv_at hl 1 rfl) ?_
  refine lv_aload_n hx hb (dk kL_law_8_ok 4 rfl) rfl (lv_at hl 0 rfl) ?_
  refine lv_iload hx hb (dk kL_law_8_ok 5 rfl) (lv_at hl 4 rfl) ?_
  refine lv_iconst (v := nI 1) hx hb (dk kL_law_8_ok 6 rfl) rfl ?_
  refine n_iadd hx hb (dk kL_law_8_ok 7 rfl) ?_
  refine sld hx hb hXs hbl hL30 hS (i + 1) rfl (by omega) (dk kL_law_8_ok 8 rfl) ?_
  refine lv_aload_n hx hb (dk kL_law_8_ok 9 rfl) rfl (lv_at hl 3 rfl) ?_
  refine csL (As := [.ref (pb s.heap.size 0), .int (xs (i + 1)), .ref (pb s.heap.size 85)]) (rest := []) ⟨hx, hb, hml, hown, hts⟩ hML (vx_cwSW 3 hts (gInLS (lc3 _ (List.mem_of_getElem? (i := 20) rfl)) msL_flightsTo mini_RL mcL_flightsTo) rfl rfl rfl hdL_flightsTo ⟨Nat.le_of_ble_eq_true rfl, Nat.le_of_ble_eq_true rfl⟩) hDi hK hP hNW hS hX hXN rfl hl.1 rfl (Nat.le_of_ble_eq_true rfl) ⟨hcell, hslot⟩ (dk kL_law_8_ok 10 rfl) (fun H locs hP hS => ?_)
  refine lv_istore (lv' := [(5, .int (nI kk)), (0, .ref b), (1, .ref (pb s.heap.size 0)), (2, .ref (pb s.heap.size 77)), (3, .ref (pb s.heap.size 85)), (4, .int (nI i))]) hx hb (dk kL_law_8_ok 11 rfl) hl (by decide) rfl (fun ls hl => ?_)
  refine lv_aload_n hx hb (dk kL_law_8_ok 12 rfl) rfl (lv_at hl 3 rfl) ?_
  refine lv_aload_n hx hb (dk kL_law_8_ok 13 rfl) rfl (lv_at hl 1 rfl) ?_
  refine lv_iload hx hb (dk kL_law_8_ok 14 rfl) (lv_at hl 5 rfl) ?_
  refine lv_iconst (v := nI 1) hx hb (dk kL_law_8_ok 15 rfl) rfl ?_
  refine n_iadd hx hb (dk kL_law_8_ok 16 rfl) ?_
  refine sld hx hb hXs hbl hL30 hS (i + 1) rfl (by omega) (dk kL_law_8_ok 17 rfl) ?_
  refine cvW (As := [.int (xs (i + 1))]) (rest := []) ⟨hx, hb, hml, hown, hts⟩ hM6 (cwVL 1 hts mcX6_flightsTo (lc3 _ (List.mem_of_getElem? (i := 23) rfl)) miX6_flightsTo meX6_flightsTo mini_RX6 e1 e2 hdX6_flightsTo ⟨e3, e4⟩) hDi hK hP hNW hS (k := 77) (by decide) h77 rfl rfl hl.1 rfl (Nat.le_of_ble_eq_true rfl) ⟨hcell, hslot⟩ (dk kL_law_8_ok 18 rfl) (fun v G H locs hp hP hS => ?_)
  obtain ⟨⟨b9, rfl⟩, hINV⟩ := hq v G hp
  refine W.eq (g2 := F0 m 831 ls [.int b9]) rfl ?_
  refine lv_istore (lv' := [(6, .int b9), (5, .int (nI kk)), (0, .ref b), (1, .ref (pb s.heap.size 0)), (2, .ref (pb s.heap.size 77)), (3, .ref (pb s.heap.size 85)), (4, .int (nI i))]) hx hb (dk kL_law_8_ok 19 rfl) hl (by decide) rfl (fun ls hl => ?_)
  exact lv_goto (tgt := 881) hx hb (dk kL_law_8_ok 20 rfl) (by decide) (kend G H locs ls hINV hP hS (lv_sub hl [2, 3, 4, 5, 6] rfl))
set_option maxRecDepth 100000 in
set_option maxHeartbeats 4000000 in
theorem lw_pottedShare {p : Program} {l : Launch} {e : Env} {s : State} {m : MethodId} {below : List Frame} {meth : Method} {c : Code} {H : Heap} {locs : List Loc} {cells slots : Nat} {Q : State → Prop} {ls : Array Slot} {D : va_G} {cI cQ cL : ClassId} {F : Nat → va_E} {b L i : Nat} {xs : Nat → Int32} {INV : (Nat → va_E) → Prop} (hC : LX p s m c b L xs D cI cQ cL) (hi : i + 5 ≤ L) (hP : va_P D vwCl (iW (pb s.heap.size) 86 F) H) (hS : va_S (iA (pb s.heap.size) 86 s.heap.size) s.heap H locs) (hcell : cells + 1 ≤ 601024) (hslot : slots + 6 ≤ 7293034) (hl : lv_has ls 9 (lvL b s.heap.size i)) (ST : STs0 l D cI cQ cL (pb s.heap.size) 86 yX5_pottedShare cX5_pottedShare 1 yX6_pottedShare cX6_pottedShare 1 .double okD F INV) (kend : ∀ (G : Nat → va_E) (H1 : Heap) (locs1 : List Loc) (ls1 : Array Slot), INV G → va_P D vwCl (iW (pb s.heap.size) 86 G) H1 → va_S (iA (pb s.heap.size) 86 s.heap.size) s.heap H1 locs1 → lv_has ls1 9 (lvL b s.heap.size i) → W p l e room_1 s m #[Value.ref b] below meth c H1 locs1 (cells + 1) (slots + 6) Q (F0 m 881 ls1 [])) : W p l e room_1 s m #[Value.ref b] below meth c H locs cells slots Q (F0 m 836 ls []) := by
  obtain ⟨hx, hb, hml, hown, hts, hK, hNW, hX, hXN, hXs, hbl, hL30⟩ := hC
  have hDi : iD (pb s.heap.size) 86 := pb_D
  obtain ⟨b9, F1, f5, f6, post, rm5, rm6, hok, h00, hM5, d1, d2, d3, d4, h77, hM6, e1, e2, e3, e4, hq⟩ := ST
  obtain ⟨x, rfl, hcmp⟩ := hok
  refine lv_aload_n hx hb (dk kL_law_8_ok 21 rfl) rfl (lv_at hl 1 rfl) ?_
  refine cvD F1 (As := []) (rest := []) ⟨hx, hb, hml, hown, hts⟩ hM5 (cwVL 0 hts mcX5_pottedShare (lc4 _ (List.mem_of_getElem? (i := 0) rfl)) miX5_pottedShare meX5_pottedShare mini_RX5 d1 d2 hdX5_pottedShare ⟨d3, d4⟩) hDi hK hP hNW hS (k := 0) (by decide) h00 rfl rfl hl.1 rfl (Nat.le_of_ble_eq_true rfl) ⟨Nat.le_trans (Nat.le_add_right _ 1) hcell, Nat.le_trans (Nat.le_add_right _ 6) hslot⟩ (dk kL_law_8_ok 22 rfl) rfl (fun H locs hP hS => ?_)
  refine lv_dstore (lv' := [(5, .double x), (0, .ref b), (1, .ref (pb s.heap.size 0)), (2, .ref (pb s.heap.size 77)), (3, .ref (pb s.heap.size 85)), (4, .int (nI i))]) hx hb (dk kL_law_8_ok 23 rfl) hl (by decide) rfl (fun ls hl => ?_)
  refine lv_aload_n hx hb (dk kL_law_8_ok 24 rfl) rfl (lv_at hl 3 rfl) ?_
  refine cvW (As := []) (rest := []) ⟨hx, hb, hml, hown, hts⟩ hM6 (cwVL 0 hts mcX6_pottedShare (lc4 _ (List.mem_of_getElem? (i := 1) rfl)) miX6_pottedShare meX6_pottedShare mini_RX6 e1 e2 hdX6_pottedShare ⟨e3, e4⟩) hDi hK hP hNW hS (k := 77) (by decide) h77 rfl rfl hl.1 rfl (Nat.le_of_ble_eq_true rfl) ⟨Nat.le_trans (Nat.le_add_right _ 1) hcell, Nat.le_trans (Nat.le_add_right _ 6) hslot⟩ (dk kL_law_8_ok 25 rfl) (fun v G H locs hp hP hS => ?_)
  obtain ⟨⟨b2, hok2, rfl⟩, hINV⟩ := hq v G hp
  obtain ⟨y, rfl, hcmp2⟩ := hok2
  refine W.widen (k := cells + 1) (n := slots + 6) (by omega) (by omega) ?_
  refine W.eq (g2 := F0 m 846 ls [.double y]) rfl ?_
  refine lv_dstore (lv' := [(7, .double y), (5, .double x), (0, .ref b), (1, .ref (pb s.heap.size 0)), (2, .ref (pb s.heap.size 77)), (3, .ref (pb s.heap.size 85)), (4, .int (nI i))]) hx hb (dk kL_law_8_ok 26 rfl) hl (by decide) rfl (fun ls hl => ?_)
  exact lv_goto (tgt := 881) hx hb (dk kL_law_8_ok 27 rfl) (by decide) (kend G H locs ls hINV hP hS (lv_sub hl [2, 3, 4, 5, 6] rfl))
set_option maxRecDepth 100000 in
set_option maxHeartbeats 4000000 in
theorem lw_meanPile {p : Program} {l : Launch} {e : Env} {s : State} {m : MethodId} {below : List Frame} {meth : Method} {c : Code} {H : Heap} {locs : List Loc} {cells slots : Nat} {Q : State → Prop} {ls : Array Slot} {D : va_G} {cI cQ cL : ClassId} {F : Nat → va_E} {b L i : Nat} {xs : Nat → Int32} {INV : (Nat → va_E) → Prop} (hC : LX p s m c b L xs D cI cQ cL) (hi : i + 5 ≤ L) (hP : va_P D vwCl (iW (pb s.heap.size) 86 F) H) (hS : va_S (iA (pb s.heap.size) 86 s.heap.size) s.heap H locs) (hcell : cells + 1 ≤ 601024) (hslot : slots + 6 ≤ 7293034) (hl : lv_has ls 9 (lvL b s.heap.size i)) (ST : STs0 l D cI cQ cL (pb s.heap.size) 86 yX5_meanPile cX5_meanPile 2 yX6_meanPile cX6_meanPile 1 .float okF F INV) (kend : ∀ (G : Nat → va_E) (H1 : Heap) (locs1 : List Loc) (ls1 : Array Slot), INV G → va_P D vwCl (iW (pb s.heap.size) 86 G) H1 → va_S (iA (pb s.heap.size) 86 s.heap.size) s.heap H1 locs1 → lv_has ls1 9 (lvL b s.heap.size i) → W p l e room_1 s m #[Value.ref b] below meth c H1 locs1 (cells + 1) (slots + 6) Q (F0 m 881 ls1 [])) : W p l e room_1 s m #[Value.ref b] below meth c H locs cells slots Q (F0 m 851 ls []) := by
  obtain ⟨hx, hb, hml, hown, hts, hK, hNW, hX, hXN, hXs, hbl, hL30⟩ := hC
  have hDi : iD (pb s.heap.size) 86 := pb_D
  obtain ⟨b9, F1, f5, f6, post, rm5, rm6, hok, h00, hM5, d1, d2, d3, d4, h77, hM6, e1, e2, e3, e4, hq⟩ := ST
  obtain ⟨x, rfl, hn64, hcmp⟩ := hok
  refine lv_aload_n hx hb (dk kL_law_8_ok 28 rfl) rfl (lv_at hl 1 rfl) ?_
  refine cvD F1 (As := []) (rest := []) ⟨hx, hb, hml, hown, hts⟩ hM5 (cwVL 0 hts mcX5_meanPile (lc4 _ (List.mem_of_getElem? (i := 2) rfl)) miX5_meanPile meX5_meanPile mini_RX5 d1 d2 hdX5_meanPile ⟨d3, d4⟩) hDi hK hP hNW hS (k := 0) (by decide) h00 rfl rfl hl.1 rfl (Nat.le_of_ble_eq_true rfl) ⟨Nat.le_trans (Nat.le_add_right _ 1) hcell, Nat.le_trans (Nat.le_add_right _ 6) hslot⟩ (dk kL_law_8_ok 29 rfl) rfl (fun H locs hP hS => ?_)
  refine lv_f2d hx hb (dk kL_law_8_ok 30 rfl) hn64 ?_
  refine lv_dstore (lv' := [(5, .double (FP.f2d x)), (0, .ref b), (1, .ref (pb s.heap.size 0)), (2, .ref (pb s.heap.size 77)), (3, .ref (pb s.heap.size 85)), (4, .int (nI i))]) hx hb (dk kL_law_8_ok 31 rfl) hl (by decide) rfl (fun ls hl => ?_)
  refine lv_aload_n hx hb (dk kL_law_8_ok 32 rfl) rfl (lv_at hl 3 rfl) ?_
  refine cvW (As := []) (rest := []) ⟨hx, hb, hml, hown, hts⟩ hM6 (cwVL 0 hts mcX6_meanPile (lc4 _ (List.mem_of_getElem? (i := 3) rfl)) miX6_meanPile meX6_meanPile mini_RX6 e1 e2 hdX6_meanPile ⟨e3, e4⟩) hDi hK hP hNW hS (k := 77) (by decide) h77 rfl rfl hl.1 rfl (Nat.le_of_ble_eq_true rfl) ⟨Nat.le_trans (Nat.le_add_right _ 1) hcell, Nat.le_trans (Nat.le_add_right _ 6) hslot⟩ (dk kL_law_8_ok 33 rfl) (fun v G H locs hp hP hS => ?_)
  obtain ⟨⟨b2, hok2, rfl⟩, hINV⟩ := hq v G hp
  obtain ⟨y, rfl, hn642, hcmp2⟩ := hok2
  refine W.widen (k := cells + 1) (n := slots + 6) (by omega) (by omega) ?_
  refine W.eq (g2 := F0 m 862 ls [.float y]) rfl ?_
  refine lv_f2d hx hb (dk kL_law_8_ok 34 rfl) hn642 ?_
  refine lv_dstore (lv' := [(7, .double (FP.f2d y)), (5, .double (FP.f2d x)), (0, .ref b), (1, .ref (pb s.heap.size 0)), (2, .ref (pb s.heap.size 77)), (3, .ref (pb s.heap.size 85)), (4, .int (nI i))]) hx hb (dk kL_law_8_ok 35 rfl) hl (by decide) rfl (fun ls hl => ?_)
  exact lv_goto (tgt := 881) hx hb (dk kL_law_8_ok 36 rfl) (by decide) (kend G H locs ls hINV hP hS (lv_sub hl [2, 3, 4, 5, 6] rfl))
set_option maxRecDepth 100000 in
set_option maxHeartbeats 4000000 in
theorem lw_digest {p : Program} {l : Launch} {e : Env} {s : State} {m : MethodId} {below : List Frame} {meth : Method} {c : Code} {H : Heap} {locs : List Loc} {cells slots : Nat} {Q : State → Prop} {ls : Array Slot} {D : va_G} {cI cQ cL : ClassId} {F : Nat → va_E} {b L i : Nat} {xs : Nat → Int32} {INV : (Nat → va_E) → Prop} (hC : LX p s m c b L xs D cI cQ cL) (hi : i + 5 ≤ L) (hP : va_P D vwCl (iW (pb s.heap.size) 86 F) H) (hS : va_S (iA (pb s.heap.size) 86 s.heap.size) s.heap H locs) (hcell : cells + 1 ≤ 601024) (hslot : slots + 6 ≤ 7293034) (hl : lv_has ls 9 (lvL b s.heap.size i)) (ST : STs0 l D cI cQ cL (pb s.heap.size) 86 yX5_digest cX5_digest 4 yX6_digest cX6_digest 4 .long okL F INV) (kend : ∀ (G : Nat → va_E) (H1 : Heap) (locs1 : List Loc) (ls1 : Array Slot), INV G → va_P D vwCl (iW (pb s.heap.size) 86 G) H1 → va_S (iA (pb s.heap.size) 86 s.heap.size) s.heap H1 locs1 → lv_has ls1 9 (lvL b s.heap.size i) → W p l e room_1 s m #[Value.ref b] below meth c H1 locs1 (cells + 1) (slots + 6) Q (F0 m 881 ls1 [])) : W p l e room_1 s m #[Value.ref b] below meth c H locs cells slots Q (F0 m 868 ls []) := by
  obtain ⟨hx, hb, hml, hown, hts, hK, hNW, hX, hXN, hXs, hbl, hL30⟩ := hC
  have hDi : iD (pb s.heap.size) 86 := pb_D
  obtain ⟨b9, F1, f5, f6, post, rm5, rm6, hok, h00, hM5, d1, d2, d3, d4, h77, hM6, e1, e2, e3, e4, hq⟩ := ST
  obtain ⟨x, rfl⟩ := hok
  refine lv_aload_n hx hb (dk kL_law_8_ok 37 rfl) rfl (lv_at hl 1 rfl) ?_
  refine cvD F1 (As := []) (rest := []) ⟨hx, hb, hml, hown, hts⟩ hM5 (cwVL 0 hts mcX5_digest (lc4 _ (List.mem_of_getElem? (i := 4) rfl)) miX5_digest meX5_digest mini_RX5 d1 d2 hdX5_digest ⟨d3, d4⟩) hDi hK hP hNW hS (k := 0) (by decide) h00 rfl rfl hl.1 rfl (Nat.le_of_ble_eq_true rfl) ⟨Nat.le_trans (Nat.le_add_right _ 1) hcell, Nat.le_trans (Nat.le_add_right _ 6) hslot⟩ (dk kL_law_8_ok 38 rfl) rfl (fun H locs hP hS => ?_)
  refine lv_pop2_2 hx hb (dk kL_law_8_ok 39 rfl) rfl ?_
  refine lv_aload_n hx hb (dk kL_law_8_ok 40 rfl) rfl (lv_at hl 2 rfl) ?_
  refine cvW (As := []) (rest := []) ⟨hx, hb, hml, hown, hts⟩ hM6 (cwVL 0 hts mcX6_digest (lc4 _ (List.mem_of_getElem? (i := 5) rfl)) miX6_digest meX6_digest mini_RX6 e1 e2 hdX6_digest ⟨e3, e4⟩) hDi hK hP hNW hS (k := 77) (by decide) h77 rfl rfl hl.1 rfl (Nat.le_of_ble_eq_true rfl) ⟨Nat.le_trans (Nat.le_add_right _ 1) hcell, Nat.le_trans (Nat.le_add_right _ 6) hslot⟩ (dk kL_law_8_ok 41 rfl) (fun v G H locs hp hP hS => ?_)
  obtain ⟨⟨b2, hok2, rfl⟩, hINV⟩ := hq v G hp
  obtain ⟨y, rfl⟩ := hok2
  refine W.widen (k := cells + 1) (n := slots + 6) (by omega) (by omega) ?_
  refine W.eq (g2 := F0 m 877 ls [.long y]) rfl ?_
  refine lv_pop2_2 hx hb (dk kL_law_8_ok 42 rfl) rfl ?_
  exact lv_goto (tgt := 881) hx hb (dk kL_law_8_ok 43 rfl) (by decide) (kend G H locs ls hINV hP hS (lv_sub hl [0, 1, 2, 3, 4] rfl))
