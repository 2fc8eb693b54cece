set_option maxRecDepth 100000 in
set_option maxHeartbeats 4000000 in
theorem tX6_doesF (l : Launch) (D : va_G) (cI cQ cL : ClassId) (ad : Nat → Nat) (N : Nat) (F : Nat → va_E) (k : Nat) (hk : k + 7 < N) (r ps sl sd ne fa bu : Nat → Int32) (hs : Bool) (st ln pt : Nat) (th : Int32) (hR : rfAt cI ad F k r ps sl sd ne fa bu hs st ln pt th) (t : Nat) (ht : t < 4) (hrt : r 56 = nI t) (pl : Nat) (hpl : pl + 3 < 60) (e9 d f : Nat) (he : e9 < 4) (hd : d < 8) (hf : 1 ≤ f ∧ f ≤ 9) (h0 : bu pl = nI 102) (h1 : bu (pl + 1) = nI (48 + e9)) (h2 : bu (pl + 2) = nI (48 + d)) (h3 : bu (pl + 3) = nI (48 + f)) (hc9 : cell9 (r (4 * t + e9))) (hl0 : r (52 + (4 * t + e9) / 4) = nI 0) (hlo : lo01 r) (hwn : rwn r (4 * t + e9) = 0) : MX l yX6_does (Cond.code yX6_does cX6_does 5 (some .boolean) :: AW) ({ frames := 5, cells := 0, slots := 0, locals := 110 } : Room) D cI cQ cL ad N F [.ref (ad k), .int (nI pl)] (dp (some (.int (nI 1))) (rfSet cI ad F k (rfx r (4 * t + e9) (ldg (r (4 * t + e9)) (nI d) (stp (4 * t + e9) f)) t) ps sl sd ne fa bu hs st ln pt th)) 0 0 := by
  refine mx_i (ty := .boolean) (by decide +kernel) rfl (Nat.le_of_ble_eq_true rfl) (fun p e s m below meth cd Q ls hx hb hml hown hts hDi hP hK hNW hS hret hl => ?_)
  have hown : s.vm.findClass RX6 = some m.cls := hown
  have hl : lv_has ls 5 [(0, .ref (ad k)), (1, .int (nI pl))] := hl
  refine lv_aload_n hx hb (dk kX6_does_0_ok 0 rfl) rfl (lv_at hl 0 rfl) ?_
  refine gf hx hb hts (fun w h => List.mem_cons_of_mem _ (acX6 w h)) hown hK hP (by omega) hR.1 rfl 6 (by decide) (hts _ (List.mem_cons_of_mem _ (ac17 _ (List.mem_of_getElem? (i := 23) rfl)))) (fun _ h => h) rfl (dk kX6_does_0_ok 1 rfl) ?_
  refine lv_iload_n hx hb (dk kX6_does_0_ok 2 rfl) rfl (lv_at hl 1 rfl) ?_
  refine ald (j := pl) hx hb hK hP (k := k + 7) (by omega) hR.2.2.2.2.2.2.2 rfl (by omega) (by decide) (dk kX6_does_0_ok 3 rfl) ?_
  rw [h0]
  refine lv_bipush (v := nI 102) hx hb (dk kX6_does_0_ok 4 rfl) rfl ?_
  refine n_icmp_ne (tgt := 86) hx hb (by decide) (by decide) (dk kX6_does_0_ok 5 rfl) (by decide) (fun h9 => absurd rfl h9) (fun _ => ?_)
  refine lv_iconst (v := nI 4) hx hb (dk kX6_does_0_ok 6 rfl) rfl ?_
  refine lv_aload_n hx hb (dk kX6_does_0_ok 7 rfl) rfl (lv_at hl 0 rfl) ?_
  refine gf hx hb hts (fun w h => List.mem_cons_of_mem _ (acX6 w h)) hown hK hP (by omega) hR.1 rfl 0 (by decide) (hts _ (List.mem_cons_of_mem _ (ac17 _ (List.mem_of_getElem? (i := 17) rfl)))) (fun _ h => h) rfl (dk kX6_does_0_ok 8 rfl) ?_
  refine lv_bipush (v := nI 56) hx hb (dk kX6_does_0_ok 9 rfl) rfl ?_
  refine ald (j := 56) hx hb hK hP (k := k + 1) (by omega) hR.2.1 rfl (by decide) (by decide) (dk kX6_does_0_ok 10 rfl) ?_
  rw [hrt]
  refine n_imul hx hb (dk kX6_does_0_ok 11 rfl) ?_
  refine lv_aload_n hx hb (dk kX6_does_0_ok 12 rfl) rfl (lv_at hl 0 rfl) ?_
  refine gf hx hb hts (fun w h => List.mem_cons_of_mem _ (acX6 w h)) hown hK hP (by omega) hR.1 rfl 6 (by decide) (hts _ (List.mem_cons_of_mem _ (ac17 _ (List.mem_of_getElem? (i := 23) rfl)))) (fun _ h => h) rfl (dk kX6_does_0_ok 13 rfl) ?_
  refine lv_iload_n hx hb (dk kX6_does_0_ok 14 rfl) rfl (lv_at hl 1 rfl) ?_
  refine lv_iconst (v := nI 1) hx hb (dk kX6_does_0_ok 15 rfl) rfl ?_
  refine n_iadd hx hb (dk kX6_does_0_ok 16 rfl) ?_
  refine ald (j := pl + 1) hx hb hK hP (k := k + 7) (by omega) hR.2.2.2.2.2.2.2 rfl (by omega) (by decide) (dk kX6_does_0_ok 17 rfl) ?_
  rw [h1]
  refine n_iadd hx hb (dk kX6_does_0_ok 18 rfl) ?_
  refine lv_bipush (v := nI 48) hx hb (dk kX6_does_0_ok 19 rfl) rfl ?_
  refine n_isub hx hb (by omega) (dk kX6_does_0_ok 20 rfl) ?_
  rw [show 4 * t + (48 + e9) - 48 = 4 * t + e9 by omega]
  refine lv_istore_n (lv' := [(2, .int (nI (4 * t + e9))), (0, .ref (ad k)), (1, .int (nI pl))]) hx hb (dk kX6_does_0_ok 21 rfl) rfl hl (by decide) rfl (fun ls hl => ?_)
  refine lv_aload_n hx hb (dk kX6_does_0_ok 22 rfl) rfl (lv_at hl 1 rfl) ?_
  refine lv_iload_n hx hb (dk kX6_does_0_ok 23 rfl) rfl (lv_at hl 0 rfl) ?_
  refine cvR (As := [.int (nI (4 * t + e9))]) (rest := []) ⟨hx, hb, hml, hown, hts⟩ (tX6_whyNot l D cI cQ cL ad N F k hk r ps sl sd ne fa bu hs st ln pt th hR (nI (4 * t + e9)) (4 * t + e9) rfl (by omega)) (cwV9 1 hts mcX6_whyNot (ac20 _ (List.mem_of_getElem? (i := 19) rfl)) miX6_whyNot meX6_whyNot mini_RX6 rfl rfl hdX6_whyNot ⟨Nat.le_of_ble_eq_true rfl, Nat.le_of_ble_eq_true rfl⟩) hK hP hNW (by omega) hR.1 rfl rfl hl.1 rfl (Nat.le_of_ble_eq_true rfl) ⟨Nat.le_of_ble_eq_true rfl, Nat.le_of_ble_eq_true rfl⟩ (dk kX6_does_0_ok 24 rfl) ?_
  refine n_if_ne (tgt := 45) hx hb (by have q1 := rwn_le r (4 * t + e9); omega) (dk kX6_does_0_ok 25 rfl) (by decide) (fun h9 => absurd hwn h9) (fun _ => ?_)
  refine lv_iconst (v := nI 1) hx hb (dk kX6_does_0_ok 26 rfl) rfl ?_
  refine lv_goto (tgt := 46) hx hb (dk kX6_does_0_ok 27 rfl) (by decide) ?_
  refine lv_istore_n (lv' := [(3, .int (nI 1)), (2, .int (nI (4 * t + e9))), (0, .ref (ad k)), (1, .int (nI pl))]) hx hb (dk kX6_does_0_ok 29 rfl) rfl hl (by decide) rfl (fun ls hl => ?_)
  refine lv_iload_n hx hb (dk kX6_does_0_ok 30 rfl) rfl (lv_at hl 0 rfl) ?_
  refine n_if_eq (tgt := 81) hx hb (by decide) (dk kX6_does_0_ok 31 rfl) (by decide) (fun h9 => absurd h9 (by decide)) (fun _ => ?_)
  refine lv_aload_n hx hb (dk kX6_does_0_ok 32 rfl) rfl (lv_at hl 2 rfl) ?_
  refine lv_iload_n hx hb (dk kX6_does_0_ok 33 rfl) rfl (lv_at hl 1 rfl) ?_
  refine lv_aload_n hx hb (dk kX6_does_0_ok 34 rfl) rfl (lv_at hl 2 rfl) ?_
  refine gf hx hb hts (fun w h => List.mem_cons_of_mem _ (acX6 w h)) hown hK hP (by omega) hR.1 rfl 6 (by decide) (hts _ (List.mem_cons_of_mem _ (ac17 _ (List.mem_of_getElem? (i := 23) rfl)))) (fun _ h => h) rfl (dk kX6_does_0_ok 35 rfl) ?_
  refine lv_iload_n hx hb (dk kX6_does_0_ok 36 rfl) rfl (lv_at hl 3 rfl) ?_
  refine lv_iconst (v := nI 2) hx hb (dk kX6_does_0_ok 37 rfl) rfl ?_
  refine n_iadd hx hb (dk kX6_does_0_ok 38 rfl) ?_
  refine ald (j := pl + 2) hx hb hK hP (k := k + 7) (by omega) hR.2.2.2.2.2.2.2 rfl (by omega) (by decide) (dk kX6_does_0_ok 39 rfl) ?_
  rw [h2]
  refine lv_bipush (v := nI 48) hx hb (dk kX6_does_0_ok 40 rfl) rfl ?_
  refine n_isub hx hb (by omega) (dk kX6_does_0_ok 41 rfl) ?_
  rw [show 48 + d - 48 = d by omega]
  refine lv_aload_n hx hb (dk kX6_does_0_ok 42 rfl) rfl (lv_at hl 2 rfl) ?_
  refine gf hx hb hts (fun w h => List.mem_cons_of_mem _ (acX6 w h)) hown hK hP (by omega) hR.1 rfl 6 (by decide) (hts _ (List.mem_cons_of_mem _ (ac17 _ (List.mem_of_getElem? (i := 23) rfl)))) (fun _ h => h) rfl (dk kX6_does_0_ok 43 rfl) ?_
  refine lv_iload_n hx hb (dk kX6_does_0_ok 44 rfl) rfl (lv_at hl 3 rfl) ?_
  refine lv_iconst (v := nI 3) hx hb (dk kX6_does_0_ok 45 rfl) rfl ?_
  refine n_iadd hx hb (dk kX6_does_0_ok 46 rfl) ?_
  refine ald (j := pl + 3) hx hb hK hP (k := k + 7) (by omega) hR.2.2.2.2.2.2.2 rfl (by omega) (by decide) (dk kX6_does_0_ok 47 rfl) ?_
  rw [h3]
  refine lv_bipush (v := nI 48) hx hb (dk kX6_does_0_ok 48 rfl) rfl ?_
  refine n_isub hx hb (by omega) (dk kX6_does_0_ok 49 rfl) ?_
  rw [show 48 + f - 48 = f by omega]
  refine cvD (As := [.int (nI (4 * t + e9)), .int (nI d), .int (nI f)]) (rest := []) (rfSet cI ad F k (rfx r (4 * t + e9) (ldg (r (4 * t + e9)) (nI d) (stp (4 * t + e9) f)) t) ps sl sd ne fa bu hs st ln pt th) ⟨hx, hb, hml, hown, hts⟩ (tX6_flies l D cI cQ cL ad N F k hk r ps sl sd ne fa bu hs st ln pt th hR (nI (4 * t + e9)) (4 * t + e9) rfl (by omega) (nI d) d rfl hd (nI f) f rfl (by omega) hc9 hl0 t ht hrt hlo) (cwV9 3 hts mcX6_flies (ac21 _ (List.mem_of_getElem? (i := 3) rfl)) miX6_flies meX6_flies mini_RX6 rfl rfl hdX6_flies ⟨Nat.le_of_ble_eq_true rfl, Nat.le_of_ble_eq_true rfl⟩) hDi hK hP hNW hS (by omega) hR.1 rfl rfl hl.1 rfl (Nat.le_of_ble_eq_true rfl) ⟨Nat.le_of_ble_eq_true rfl, Nat.le_of_ble_eq_true rfl⟩ (dk kX6_does_0_ok 50 rfl) rfl (fun H locs hP hS => ?_)
  refine lv_goto (tgt := 82) hx hb (dk kX6_does_0_ok 51 rfl) (by decide) ?_
  refine lv_istore (lv' := [(4, .int (fans (ldg (r (4 * t + e9)) (nI d) (stp (4 * t + e9) f)))), (3, .int (nI 1)), (2, .int (nI (4 * t + e9))), (0, .ref (ad k)), (1, .int (nI pl))]) hx hb (dk kX6_does_0_ok 53 rfl) hl (by decide) rfl (fun ls hl => ?_)
  refine lv_iload_n hx hb (dk kX6_does_0_ok 54 rfl) rfl (lv_at hl 1 rfl) ?_
  exact hret _ _ _ _ _ _ _ _ rfl ⟨rfl, rfl⟩ hP hS (by decide) (by decide) (dk kX6_does_0_ok 55 rfl)
set_option maxRecDepth 100000 in
set_option maxHeartbeats 4000000 in
theorem tX6_doesFX (l : Launch) (D : va_G) (cI cQ cL : ClassId) (ad : Nat → Nat) (N : Nat) (F : Nat → va_E) (k : Nat) (hk : k + 7 < N) (r ps sl sd ne fa bu : Nat → Int32) (hs : Bool) (st ln pt : Nat) (th : Int32) (hR : rfAt cI ad F k r ps sl sd ne fa bu hs st ln pt th) (t : Nat) (ht : t < 4) (hrt : r 56 = nI t) (pl : Nat) (hpl : pl + 3 < 60) (e9 d f : Nat) (he : e9 < 4) (hd : d < 8) (hf : 1 ≤ f ∧ f ≤ 9) (h0 : bu pl = nI 102) (h1 : bu (pl + 1) = nI (48 + e9)) (h2 : bu (pl + 2) = nI (48 + d)) (h3 : bu (pl + 3) = nI (48 + f)) (hwn : rwn r (4 * t + e9) ≠ 0) : MR l yX6_does (Cond.code yX6_does cX6_does 5 (some .boolean) :: AW) ({ frames := 5, cells := 0, slots := 0, locals := 110 } : Room) D cI cQ cL ad N F [.ref (ad k), .int (nI pl)] (.int (nI 0)) := by
  refine mr_i (ty := .boolean) (by decide +kernel) rfl rfl rfl rfl (Nat.le_of_ble_eq_true rfl) (fun p e s m below meth cd Q ls hx hb hml hown hts hP hK hNW hret hl => ?_)
  have hown : s.vm.findClass RX6 = some m.cls := hown
  have hl : lv_has ls 5 [(0, .ref (ad k)), (1, .int (nI pl))] := hl
  refine lv_aload_n hx hb (dk kX6_does_0_ok 0 rfl) rfl (lv_at hl 0 rfl) ?_
  refine gf hx hb hts (fun w h => List.mem_cons_of_mem _ (acX6 w h)) hown hK hP (by omega) hR.1 rfl 6 (by decide) (hts _ (List.mem_cons_of_mem _ (ac17 _ (List.mem_of_getElem? (i := 23) rfl)))) (fun _ h => h) rfl (dk kX6_does_0_ok 1 rfl) ?_
  refine lv_iload_n hx hb (dk kX6_does_0_ok 2 rfl) rfl (lv_at hl 1 rfl) ?_
  refine ald (j := pl) hx hb hK hP (k := k + 7) (by omega) hR.2.2.2.2.2.2.2 rfl (by omega) (by decide) (dk kX6_does_0_ok 3 rfl) ?_
  rw [h0]
  refine lv_bipush (v := nI 102) hx hb (dk kX6_does_0_ok 4 rfl) rfl ?_
  refine n_icmp_ne (tgt := 86) hx hb (by decide) (by decide) (dk kX6_does_0_ok 5 rfl) (by decide) (fun h9 => absurd rfl h9) (fun _ => ?_)
  refine lv_iconst (v := nI 4) hx hb (dk kX6_does_0_ok 6 rfl) rfl ?_
  refine lv_aload_n hx hb (dk kX6_does_0_ok 7 rfl) rfl (lv_at hl 0 rfl) ?_
  refine gf hx hb hts (fun w h => List.mem_cons_of_mem _ (acX6 w h)) hown hK hP (by omega) hR.1 rfl 0 (by decide) (hts _ (List.mem_cons_of_mem _ (ac17 _ (List.mem_of_getElem? (i := 17) rfl)))) (fun _ h => h) rfl (dk kX6_does_0_ok 8 rfl) ?_
  refine lv_bipush (v := nI 56) hx hb (dk kX6_does_0_ok 9 rfl) rfl ?_
  refine ald (j := 56) hx hb hK hP (k := k + 1) (by omega) hR.2.1 rfl (by decide) (by decide) (dk kX6_does_0_ok 10 rfl) ?_
  rw [hrt]
  refine n_imul hx hb (dk kX6_does_0_ok 11 rfl) ?_
  refine lv_aload_n hx hb (dk kX6_does_0_ok 12 rfl) rfl (lv_at hl 0 rfl) ?_
  refine gf hx hb hts (fun w h => List.mem_cons_of_mem _ (acX6 w h)) hown hK hP (by omega) hR.1 rfl 6 (by decide) (hts _ (List.mem_cons_of_mem _ (ac17 _ (List.mem_of_getElem? (i := 23) rfl)))) (fun _ h => h) rfl (dk kX6_does_0_ok 13 rfl) ?_
  refine lv_iload_n hx hb (dk kX6_does_0_ok 14 rfl) rfl (lv_at hl 1 rfl) ?_
  refine lv_iconst (v := nI 1) hx hb (dk kX6_does_0_ok 15 rfl) rfl ?_
  refine n_iadd hx hb (dk kX6_does_0_ok 16 rfl) ?_
  refine ald (j := pl + 1) hx hb hK hP (k := k + 7) (by omega) hR.2.2.2.2.2.2.2 rfl (by omega) (by decide) (dk kX6_does_0_ok 17 rfl) ?_
  rw [h1]
  refine n_iadd hx hb (dk kX6_does_0_ok 18 rfl) ?_
  refine lv_bipush (v := nI 48) hx hb (dk kX6_does_0_ok 19 rfl) rfl ?_
  refine n_isub hx hb (by omega) (dk kX6_does_0_ok 20 rfl) ?_
  rw [show 4 * t + (48 + e9) - 48 = 4 * t + e9 by omega]
  refine lv_istore_n (lv' := [(2, .int (nI (4 * t + e9))), (0, .ref (ad k)), (1, .int (nI pl))]) hx hb (dk kX6_does_0_ok 21 rfl) rfl hl (by decide) rfl (fun ls hl => ?_)
  refine lv_aload_n hx hb (dk kX6_does_0_ok 22 rfl) rfl (lv_at hl 1 rfl) ?_
  refine lv_iload_n hx hb (dk kX6_does_0_ok 23 rfl) rfl (lv_at hl 0 rfl) ?_
  refine cvR (As := [.int (nI (4 * t + e9))]) (rest := []) ⟨hx, hb, hml, hown, hts⟩ (tX6_whyNot l D cI cQ cL ad N F k hk r ps sl sd ne fa bu hs st ln pt th hR (nI (4 * t + e9)) (4 * t + e9) rfl (by omega)) (cwV9 1 hts mcX6_whyNot (ac20 _ (List.mem_of_getElem? (i := 19) rfl)) miX6_whyNot meX6_whyNot mini_RX6 rfl rfl hdX6_whyNot ⟨Nat.le_of_ble_eq_true rfl, Nat.le_of_ble_eq_true rfl⟩) hK hP hNW (by omega) hR.1 rfl rfl hl.1 rfl (Nat.le_of_ble_eq_true rfl) ⟨Nat.le_of_ble_eq_true rfl, Nat.le_of_ble_eq_true rfl⟩ (dk kX6_does_0_ok 24 rfl) ?_
  refine n_if_ne (tgt := 45) hx hb (by have q1 := rwn_le r (4 * t + e9); omega) (dk kX6_does_0_ok 25 rfl) (by decide) (fun _ => ?_) (fun h9 => absurd h9 hwn)
  refine lv_iconst (v := nI 0) hx hb (dk kX6_does_0_ok 28 rfl) rfl ?_
  refine lv_istore_n (lv' := [(3, .int (nI 0)), (2, .int (nI (4 * t + e9))), (0, .ref (ad k)), (1, .int (nI pl))]) hx hb (dk kX6_does_0_ok 29 rfl) rfl hl (by decide) rfl (fun ls hl => ?_)
  refine lv_iload_n hx hb (dk kX6_does_0_ok 30 rfl) rfl (lv_at hl 0 rfl) ?_
  refine n_if_eq (tgt := 81) hx hb (by decide) (dk kX6_does_0_ok 31 rfl) (by decide) (fun _ => ?_) (fun h9 => absurd rfl h9)
  refine lv_iconst (v := nI 0) hx hb (dk kX6_does_0_ok 52 rfl) rfl ?_
  refine lv_istore (lv' := [(4, .int (nI 0)), (3, .int (nI 0)), (2, .int (nI (4 * t + e9))), (0, .ref (ad k)), (1, .int (nI pl))]) hx hb (dk kX6_does_0_ok 53 rfl) hl (by decide) rfl (fun ls hl => ?_)
  refine lv_iload_n hx hb (dk kX6_does_0_ok 54 rfl) rfl (lv_at hl 1 rfl) ?_
  exact hret _ _ _ rfl (dk kX6_does_0_ok 55 rfl)
set_option maxRecDepth 100000 in
set_option maxHeartbeats 4000000 in
theorem tX6_doesL (l : Launch) (D : va_G) (cI cQ cL : ClassId) (ad : Nat → Nat) (N : Nat) (F : Nat → va_E) (k : Nat) (hk : k + 7 < N) (r ps sl sd ne fa bu : Nat → Int32) (hs : Bool) (st ln pt : Nat) (th : Int32) (hR : rfAt cI ad F k r ps sl sd ne fa bu hs st ln pt th) (t : Nat) (ht : t < 4) (hrt : r 56 = nI t) (pl : Nat) (hpl : pl + 4 < 60) (x9 y9 f d : Nat) (hx9 : x9 < 13) (hy9 : y9 < 13) (hf : 1 ≤ f ∧ f ≤ 6) (hd : d < 8) (h0 : bu pl = nI 108) (h1 : bu (pl + 1) = nI (97 + x9)) (h2 : bu (pl + 2) = nI (97 + y9)) (h3 : bu (pl + 3) = nI (48 + f)) (h4 : bu (pl + 4) = nI (48 + d)) (hnl : f ≤ hgt r (nI (13 * y9 + x9))) (hwl : rlW r (13 * y9 + x9) f d) (hlo : lo01 r) (hwn : rwl r (13 * y9 + x9) f d = 0) : MX l yX6_does (Cond.code yX6_does cX6_does 5 (some .boolean) :: AW) ({ frames := 5, cells := 0, slots := 0, locals := 110 } : Room) D cI cQ cL ad N F [.ref (ad k), .int (nI pl)] (dp (some (.int (nI 1))) (rfSet cI ad F k (rlx r (13 * y9 + x9) f d t) ps sl sd ne fa bu hs st ln pt th)) 0 0 := by
  refine mx_i (ty := .boolean) (by decide +kernel) rfl (Nat.le_of_ble_eq_true rfl) (fun p e s m below meth cd Q ls hx hb hml hown hts hDi hP hK hNW hS hret hl => ?_)
  have hown : s.vm.findClass RX6 = some m.cls := hown
  have hl : lv_has ls 5 [(0, .ref (ad k)), (1, .int (nI pl))] := hl
  refine lv_aload_n hx hb (dk kX6_does_0_ok 0 rfl) rfl (lv_at hl 0 rfl) ?_
  refine gf hx hb hts (fun w h => List.mem_cons_of_mem _ (acX6 w h)) hown hK hP (by omega) hR.1 rfl 6 (by decide) (hts _ (List.mem_cons_of_mem _ (ac17 _ (List.mem_of_getElem? (i := 23) rfl)))) (fun _ h => h) rfl (dk kX6_does_0_ok 1 rfl) ?_
  refine lv_iload_n hx hb (dk kX6_does_0_ok 2 rfl) rfl (lv_at hl 1 rfl) ?_
  refine ald (j := pl) hx hb hK hP (k := k + 7) (by omega) hR.2.2.2.2.2.2.2 rfl (by omega) (by decide) (dk kX6_does_0_ok 3 rfl) ?_
  rw [h0]
  refine lv_bipush (v := nI 102) hx hb (dk kX6_does_0_ok 4 rfl) rfl ?_
  refine n_icmp_ne (tgt := 86) hx hb (by decide) (by decide) (dk kX6_does_0_ok 5 rfl) (by decide) (fun _ => ?_) (fun h9 => absurd h9 (by decide))
  refine lv_bipush (v := nI 13) hx hb (dk kX6_does_0_ok 56 rfl) rfl ?_
  refine lv_aload_n hx hb (dk kX6_does_0_ok 57 rfl) rfl (lv_at hl 0 rfl) ?_
  refine gf hx hb hts (fun w h => List.mem_cons_of_mem _ (acX6 w h)) hown hK hP (by omega) hR.1 rfl 6 (by decide) (hts _ (List.mem_cons_of_mem _ (ac17 _ (List.mem_of_getElem? (i := 23) rfl)))) (fun _ h => h) rfl (dk kX6_does_0_ok 58 rfl) ?_
  refine lv_iload_n hx hb (dk kX6_does_0_ok 59 rfl) rfl (lv_at hl 1 rfl) ?_
  refine lv_iconst (v := nI 2) hx hb (dk kX6_does_1_ok 0 rfl) rfl ?_
  refine n_iadd hx hb (dk kX6_does_1_ok 1 rfl) ?_
  refine ald (j := pl + 2) hx hb hK hP (k := k + 7) (by omega) hR.2.2.2.2.2.2.2 rfl (by omega) (by decide) (dk kX6_does_1_ok 2 rfl) ?_
  rw [h2]
  refine lv_bipush (v := nI 97) hx hb (dk kX6_does_1_ok 3 rfl) rfl ?_
  refine n_isub hx hb (by omega) (dk kX6_does_1_ok 4 rfl) ?_
  rw [show 97 + y9 - 97 = y9 by omega]
  refine n_imul hx hb (dk kX6_does_1_ok 5 rfl) ?_
  refine lv_aload_n hx hb (dk kX6_does_1_ok 6 rfl) rfl (lv_at hl 0 rfl) ?_
  refine gf hx hb hts (fun w h => List.mem_cons_of_mem _ (acX6 w h)) hown hK hP (by omega) hR.1 rfl 6 (by decide) (hts _ (List.mem_cons_of_mem _ (ac17 _ (List.mem_of_getElem? (i := 23) rfl)))) (fun _ h => h) rfl (dk kX6_does_1_ok 7 rfl) ?_
  refine lv_iload_n hx hb (dk kX6_does_1_ok 8 rfl) rfl (lv_at hl 1 rfl) ?_
  refine lv_iconst (v := nI 1) hx hb (dk kX6_does_1_ok 9 rfl) rfl ?_
  refine n_iadd hx hb (dk kX6_does_1_ok 10 rfl) ?_
  refine ald (j := pl + 1) hx hb hK hP (k := k + 7) (by omega) hR.2.2.2.2.2.2.2 rfl (by omega) (by decide) (dk kX6_does_1_ok 11 rfl) ?_
  rw [h1]
  refine n_iadd hx hb (dk kX6_does_1_ok 12 rfl) ?_
  refine lv_bipush (v := nI 97) hx hb (dk kX6_does_1_ok 13 rfl) rfl ?_
  refine n_isub hx hb (by omega) (dk kX6_does_1_ok 14 rfl) ?_
  rw [show 13 * y9 + (97 + x9) - 97 = 13 * y9 + x9 by omega]
  refine lv_istore_n (lv' := [(2, .int (nI (13 * y9 + x9))), (0, .ref (ad k)), (1, .int (nI pl))]) hx hb (dk kX6_does_1_ok 15 rfl) rfl hl (by decide) rfl (fun ls hl => ?_)
  refine lv_aload_n hx hb (dk kX6_does_1_ok 16 rfl) rfl (lv_at hl 1 rfl) ?_
  refine lv_iload_n hx hb (dk kX6_does_1_ok 17 rfl) rfl (lv_at hl 0 rfl) ?_
  refine lv_aload_n hx hb (dk kX6_does_1_ok 18 rfl) rfl (lv_at hl 1 rfl) ?_
  refine gf hx hb hts (fun w h => List.mem_cons_of_mem _ (acX6 w h)) hown hK hP (by omega) hR.1 rfl 6 (by decide) (hts _ (List.mem_cons_of_mem _ (ac17 _ (List.mem_of_getElem? (i := 23) rfl)))) (fun _ h => h) rfl (dk kX6_does_1_ok 19 rfl) ?_
  refine lv_iload_n hx hb (dk kX6_does_1_ok 20 rfl) rfl (lv_at hl 2 rfl) ?_
  refine lv_iconst (v := nI 3) hx hb (dk kX6_does_1_ok 21 rfl) rfl ?_
  refine n_iadd hx hb (dk kX6_does_1_ok 22 rfl) ?_
  refine ald (j := pl + 3) hx hb hK hP (k := k + 7) (by omega) hR.2.2.2.2.2.2.2 rfl (by omega) (by decide) (dk kX6_does_1_ok 23 rfl) ?_
  rw [h3]
  refine lv_bipush (v := nI 48) hx hb (dk kX6_does_1_ok 24 rfl) rfl ?_
  refine n_isub hx hb (by omega) (dk kX6_does_1_ok 25 rfl) ?_
  rw [show 48 + f - 48 = f by omega]
  refine lv_aload_n hx hb (dk kX6_does_1_ok 26 rfl) rfl (lv_at hl 1 rfl) ?_
  refine gf hx hb hts (fun w h => List.mem_cons_of_mem _ (acX6 w h)) hown hK hP (by omega) hR.1 rfl 6 (by decide) (hts _ (List.mem_cons_of_mem _ (ac17 _ (List.mem_of_getElem? (i := 23) rfl)))) (fun _ h => h) rfl (dk kX6_does_1_ok 27 rfl) ?_
  refine lv_iload_n hx hb (dk kX6_does_1_ok 28 rfl) rfl (lv_at hl 2 rfl) ?_
  refine lv_iconst (v := nI 4) hx hb (dk kX6_does_1_ok 29 rfl) rfl ?_
  refine n_iadd hx hb (dk kX6_does_1_ok 30 rfl) ?_
  refine ald (j := pl + 4) hx hb hK hP (k := k + 7) (by omega) hR.2.2.2.2.2.2.2 rfl (by omega) (by decide) (dk kX6_does_1_ok 31 rfl) ?_
  rw [h4]
  refine lv_bipush (v := nI 48) hx hb (dk kX6_does_1_ok 32 rfl) rfl ?_
  refine n_isub hx hb (by omega) (dk kX6_does_1_ok 33 rfl) ?_
  rw [show 48 + d - 48 = d by omega]
  refine cvR (As := [.int (nI (13 * y9 + x9)), .int (nI f), .int (nI d)]) (rest := []) ⟨hx, hb, hml, hown, hts⟩ (tX6_whyNotLifted l D cI cQ cL ad N F k hk r ps sl sd ne fa bu hs st ln pt th hR (nI (13 * y9 + x9)) (13 * y9 + x9) rfl (by omega) (nI f) f rfl ⟨hf.1, by omega⟩ (nI d) d rfl hd) (cwV9 3 hts mcX6_whyNotLifted (ac21 _ (List.mem_of_getElem? (i := 7) rfl)) miX6_whyNotLifted meX6_whyNotLifted mini_RX6 rfl rfl hdX6_whyNotLifted ⟨Nat.le_of_ble_eq_true rfl, Nat.le_of_ble_eq_true rfl⟩) hK hP hNW (by omega) hR.1 rfl rfl hl.1 rfl (Nat.le_of_ble_eq_true rfl) ⟨Nat.le_of_ble_eq_true rfl, Nat.le_of_ble_eq_true rfl⟩ (dk kX6_does_1_ok 34 rfl) ?_
  refine n_if_ne (tgt := 147) hx hb (by have q1 := rwl_le r (13 * y9 + x9) f d; omega) (dk kX6_does_1_ok 35 rfl) (by decide) (fun h9 => absurd hwn h9) (fun _ => ?_)
  refine lv_iconst (v := nI 1) hx hb (dk kX6_does_1_ok 36 rfl) rfl ?_
  refine lv_goto (tgt := 148) hx hb (dk kX6_does_1_ok 37 rfl) (by decide) ?_
  refine lv_istore_n (lv' := [(3, .int (nI 1)), (2, .int (nI (13 * y9 + x9))), (0, .ref (ad k)), (1, .int (nI pl))]) hx hb (dk kX6_does_1_ok 39 rfl) rfl hl (by decide) rfl (fun ls hl => ?_)
  refine lv_iload_n hx hb (dk kX6_does_1_ok 40 rfl) rfl (lv_at hl 0 rfl) ?_
  refine n_if_eq (tgt := 183) hx hb (by decide) (dk kX6_does_1_ok 41 rfl) (by decide) (fun h9 => absurd h9 (by decide)) (fun _ => ?_)
  refine lv_aload_n hx hb (dk kX6_does_1_ok 42 rfl) rfl (lv_at hl 2 rfl) ?_
  refine lv_iload_n hx hb (dk kX6_does_1_ok 43 rfl) rfl (lv_at hl 1 rfl) ?_
  refine lv_aload_n hx hb (dk kX6_does_1_ok 44 rfl) rfl (lv_at hl 2 rfl) ?_
  refine gf hx hb hts (fun w h => List.mem_cons_of_mem _ (acX6 w h)) hown hK hP (by omega) hR.1 rfl 6 (by decide) (hts _ (List.mem_cons_of_mem _ (ac17 _ (List.mem_of_getElem? (i := 23) rfl)))) (fun _ h => h) rfl (dk kX6_does_1_ok 45 rfl) ?_
  refine lv_iload_n hx hb (dk kX6_does_1_ok 46 rfl) rfl (lv_at hl 3 rfl) ?_
  refine lv_iconst (v := nI 3) hx hb (dk kX6_does_1_ok 47 rfl) rfl ?_
  refine n_iadd hx hb (dk kX6_does_1_ok 48 rfl) ?_
  refine ald (j := pl + 3) hx hb hK hP (k := k + 7) (by omega) hR.2.2.2.2.2.2.2 rfl (by omega) (by decide) (dk kX6_does_1_ok 49 rfl) ?_
  rw [h3]
  refine lv_bipush (v := nI 48) hx hb (dk kX6_does_1_ok 50 rfl) rfl ?_
  refine n_isub hx hb (by omega) (dk kX6_does_1_ok 51 rfl) ?_
  rw [show 48 + f - 48 = f by omega]
  refine lv_aload_n hx hb (dk kX6_does_1_ok 52 rfl) rfl (lv_at hl 2 rfl) ?_
  refine gf hx hb hts (fun w h => List.mem_cons_of_mem _ (acX6 w h)) hown hK hP (by omega) hR.1 rfl 6 (by decide) (hts _ (List.mem_cons_of_mem _ (ac17 _ (List.mem_of_getElem? (i := 23) rfl)))) (fun _ h => h) rfl (dk kX6_does_1_ok 53 rfl) ?_
  refine lv_iload_n hx hb (dk kX6_does_1_ok 54 rfl) rfl (lv_at hl 3 rfl) ?_
  refine lv_iconst (v := nI 4) hx hb (dk kX6_does_1_ok 55 rfl) rfl ?_
  refine n_iadd hx hb (dk kX6_does_1_ok 56 rfl) ?_
  refine ald (j := pl + 4) hx hb hK hP (k := k + 7) (by omega) hR.2.2.2.2.2.2.2 rfl (by omega) (by decide) (dk kX6_does_1_ok 57 rfl) ?_
  rw [h4]
  refine lv_bipush (v := nI 48) hx hb (dk kX6_does_1_ok 58 rfl) rfl ?_
  refine n_isub hx hb (by omega) (dk kX6_does_1_ok 59 rfl) ?_
  rw [show 48 + d - 48 = d by omega]
  refine cvD (As := [.int (nI (13 * y9 + x9)), .int (nI f), .int (nI d)]) (rest := []) (rfSet cI ad F k (rlx r (13 * y9 + x9) f d t) ps sl sd ne fa bu hs st ln pt th) ⟨hx, hb, hml, hown, hts⟩ (tX6_lifts l D cI cQ cL ad N F k hk r ps sl sd ne fa bu hs st ln pt th hR (nI (13 * y9 + x9)) (13 * y9 + x9) rfl (by omega) (nI f) f rfl ⟨hf.1, by omega⟩ (nI d) d rfl hd hnl hwl t ht hrt hlo) (cwV9 3 hts mcX6_lifts (ac21 _ (List.mem_of_getElem? (i := 11) rfl)) miX6_lifts meX6_lifts mini_RX6 rfl rfl hdX6_lifts ⟨Nat.le_of_ble_eq_true rfl, Nat.le_of_ble_eq_true rfl⟩) hDi hK hP hNW hS (by omega) hR.1 rfl rfl hl.1 rfl (Nat.le_of_ble_eq_true rfl) ⟨Nat.le_of_ble_eq_true rfl, Nat.le_of_ble_eq_true rfl⟩ (dk kX6_does_2_ok 0 rfl) rfl (fun H locs hP hS => ?_)
  refine lv_goto (tgt := 184) hx hb (dk kX6_does_2_ok 1 rfl) (by decide) ?_
  refine lv_istore (lv' := [(4, .int (nI (hgt r (nI (13 * y9 + x9)) - f))), (3, .int (nI 1)), (2, .int (nI (13 * y9 + x9))), (0, .ref (ad k)), (1, .int (nI pl))]) hx hb (dk kX6_does_2_ok 3 rfl) hl (by decide) rfl (fun ls hl => ?_)
  refine lv_iload_n hx hb (dk kX6_does_2_ok 4 rfl) rfl (lv_at hl 1 rfl) ?_
  exact hret _ _ _ _ _ _ _ _ rfl ⟨rfl, rfl⟩ hP hS (by decide) (by decide) (dk kX6_does_2_ok 5 rfl)
set_option maxRecDepth 100000 in
set_option maxHeartbeats 4000000 in
theorem tX6_doesLX (l : Launch) (D : va_G) (cI cQ cL : ClassId) (ad : Nat → Nat) (N : Nat) (F : Nat → va_E) (k : Nat) (hk : k + 7 < N) (r ps sl sd ne fa bu : Nat → Int32) (hs : Bool) (st ln pt : Nat) (th : Int32) (hR : rfAt cI ad F k r ps sl sd ne fa bu hs st ln pt th) (t : Nat) (ht : t < 4) (hrt : r 56 = nI t) (pl : Nat) (hpl : pl + 4 < 60) (x9 y9 f d : Nat) (hx9 : x9 < 13) (hy9 : y9 < 13) (hf : 1 ≤ f ∧ f ≤ 6) (hd : d < 8) (h0 : bu pl = nI 108) (h1 : bu (pl + 1) = nI (97 + x9)) (h2 : bu (pl + 2) = nI (97 + y9)) (h3 : bu (pl + 3) = nI (48 + f)) (h4 : bu (pl + 4) = nI (48 + d)) (hwn : rwl r (13 * y9 + x9) f d ≠ 0) : MR l yX6_does (Cond.code yX6_does cX6_does 5 (some .boolean) :: AW) ({ frames := 5, cells := 0, slots := 0, locals := 110 } : Room) D cI cQ cL ad N F [.ref (ad k), .int (nI pl)] (.int (nI 0)) := by
  refine mr_i (ty := .boolean) (by decide +kernel) rfl rfl rfl rfl (Nat.le_of_ble_eq_true rfl) (fun p e s m below meth cd Q ls hx hb hml hown hts hP hK hNW hret hl => ?_)
  have hown : s.vm.findClass RX6 = some m.cls := hown
  have hl : lv_has ls 5 [(0, .ref (ad k)), (1, .int (nI pl))] := hl
  refine lv_aload_n hx hb (dk kX6_does_0_ok 0 rfl) rfl (lv_at hl 0 rfl) ?_
  refine gf hx hb hts (fun w h => List.mem_cons_of_mem _ (acX6 w h)) hown hK hP (by omega) hR.1 rfl 6 (by decide) (hts _ (List.mem_cons_of_mem _ (ac17 _ (List.mem_of_getElem? (i := 23) rfl)))) (fun _ h => h) rfl (dk kX6_does_0_ok 1 rfl) ?_
  refine lv_iload_n hx hb (dk kX6_does_0_ok 2 rfl) rfl (lv_at hl 1 rfl) ?_
  refine ald (j := pl) hx hb hK hP (k := k + 7) (by omega) hR.2.2.2.2.2.2.2 rfl (by omega) (by decide) (dk kX6_does_0_ok 3 rfl) ?_
  rw [h0]
  refine lv_bipush (v := nI 102) hx hb (dk kX6_does_0_ok 4 rfl) rfl ?_
  refine n_icmp_ne (tgt := 86) hx hb (by decide) (by decide) (dk kX6_does_0_ok 5 rfl) (by decide) (fun _ => ?_) (fun h9 => absurd h9 (by decide))
  refine lv_bipush (v := nI 13) hx hb (dk kX6_does_0_ok 56 rfl) rfl ?_
  refine lv_aload_n hx hb (dk kX6_does_0_ok 57 rfl) rfl (lv_at hl 0 rfl) ?_
  refine gf hx hb hts (fun w h => List.mem_cons_of_mem _ (acX6 w h)) hown hK hP (by omega) hR.1 rfl 6 (by decide) (hts _ (List.mem_cons_of_mem _ (ac17 _ (List.mem_of_getElem? (i := 23) rfl)))) (fun _ h => h) rfl (dk kX6_does_0_ok 58 rfl) ?_
  refine lv_iload_n hx hb (dk kX6_does_0_ok 59 rfl) rfl (lv_at hl 1 rfl) ?_
  refine lv_iconst (v := nI 2) hx hb (dk kX6_does_1_ok 0 rfl) rfl ?_
  refine n_iadd hx hb (dk kX6_does_1_ok 1 rfl) ?_
  refine ald (j := pl + 2) hx hb hK hP (k := k + 7) (by omega) hR.2.2.2.2.2.2.2 rfl (by omega) (by decide) (dk kX6_does_1_ok 2 rfl) ?_
  rw [h2]
  refine lv_bipush (v := nI 97) hx hb (dk kX6_does_1_ok 3 rfl) rfl ?_
  refine n_isub hx hb (by omega) (dk kX6_does_1_ok 4 rfl) ?_
  rw [show 97 + y9 - 97 = y9 by omega]
  refine n_imul hx hb (dk kX6_does_1_ok 5 rfl) ?_
  refine lv_aload_n hx hb (dk kX6_does_1_ok 6 rfl) rfl (lv_at hl 0 rfl) ?_
  refine gf hx hb hts (fun w h => List.mem_cons_of_mem _ (acX6 w h)) hown hK hP (by omega) hR.1 rfl 6 (by decide) (hts _ (List.mem_cons_of_mem _ (ac17 _ (List.mem_of_getElem? (i := 23) rfl)))) (fun _ h => h) rfl (dk kX6_does_1_ok 7 rfl) ?_
  refine lv_iload_n hx hb (dk kX6_does_1_ok 8 rfl) rfl (lv_at hl 1 rfl) ?_
  refine lv_iconst (v := nI 1) hx hb (dk kX6_does_1_ok 9 rfl) rfl ?_
  refine n_iadd hx hb (dk kX6_does_1_ok 10 rfl) ?_
  refine ald (j := pl + 1) hx hb hK hP (k := k + 7) (by omega) hR.2.2.2.2.2.2.2 rfl (by omega) (by decide) (dk kX6_does_1_ok 11 rfl) ?_
  rw [h1]
  refine n_iadd hx hb (dk kX6_does_1_ok 12 rfl) ?_
  refine lv_bipush (v := nI 97) hx hb (dk kX6_does_1_ok 13 rfl) rfl ?_
  refine n_isub hx hb (by omega) (dk kX6_does_1_ok 14 rfl) ?_
  rw [show 13 * y9 + (97 + x9) - 97 = 13 * y9 + x9 by omega]
  refine lv_istore_n (lv' := [(2, .int (nI (13 * y9 + x9))), (0, .ref (ad k)), (1, .int (nI pl))]) hx hb (dk kX6_does_1_ok 15 rfl) rfl hl (by decide) rfl (fun ls hl => ?_)
  refine lv_aload_n hx hb (dk kX6_does_1_ok 16 rfl) rfl (lv_at hl 1 rfl) ?_
  refine lv_iload_n hx hb (dk kX6_does_1_ok 17 rfl) rfl (lv_at hl 0 rfl) ?_
  refine lv_aload_n hx hb (dk kX6_does_1_ok 18 rfl) rfl (lv_at hl 1 rfl) ?_
  refine gf hx hb hts (fun w h => List.mem_cons_of_mem _ (acX6 w h)) hown hK hP (by omega) hR.1 rfl 6 (by decide) (hts _ (List.mem_cons_of_mem _ (ac17 _ (List.mem_of_getElem? (i := 23) rfl)))) (fun _ h => h) rfl (dk kX6_does_1_ok 19 rfl) ?_
  refine lv_iload_n hx hb (dk kX6_does_1_ok 20 rfl) rfl (lv_at hl 2 rfl) ?_
  refine lv_iconst (v := nI 3) hx hb (dk kX6_does_1_ok 21 rfl) rfl ?_
  refine n_iadd hx hb (dk kX6_does_1_ok 22 rfl) ?_
  refine ald (j := pl + 3) hx hb hK hP (k := k + 7) (by omega) hR.2.2.2.2.2.2.2 rfl (by omega) (by decide) (dk kX6_does_1_ok 23 rfl) ?_
  rw [h3]
  refine lv_bipush (v := nI 48) hx hb (dk kX6_does_1_ok 24 rfl) rfl ?_
  refine n_isub hx hb (by omega) (dk kX6_does_1_ok 25 rfl) ?_
  rw [show 48 + f - 48 = f by omega]
  refine lv_aload_n hx hb (dk kX6_does_1_ok 26 rfl) rfl (lv_at hl 1 rfl) ?_
  refine gf hx hb hts (fun w h => List.mem_cons_of_mem _ (acX6 w h)) hown hK hP (by omega) hR.1 rfl 6 (by decide) (hts _ (List.mem_cons_of_mem _ (ac17 _ (List.mem_of_getElem? (i := 23) rfl)))) (fun _ h => h) rfl (dk kX6_does_1_ok 27 rfl) ?_
  refine lv_iload_n hx hb (dk kX6_does_1_ok 28 rfl) rfl (lv_at hl 2 rfl) ?_
  refine lv_iconst (v := nI 4) hx hb (dk kX6_does_1_ok 29 rfl) rfl ?_
  refine n_iadd hx hb (dk kX6_does_1_ok 30 rfl) ?_
  refine ald (j := pl + 4) hx hb hK hP (k := k + 7) (by omega) hR.2.2.2.2.2.2.2 rfl (by omega) (by decide) (dk kX6_does_1_ok 31 rfl) ?_
  rw [h4]
  refine lv_bipush (v := nI 48) hx hb (dk kX6_does_1_ok 32 rfl) rfl ?_
  refine n_isub hx hb (by omega) (dk kX6_does_1_ok 33 rfl) ?_
  rw [show 48 + d - 48 = d by omega]
  refine cvR (As := [.int (nI (13 * y9 + x9)), .int (nI f), .int (nI d)]) (rest := []) ⟨hx, hb, hml, hown, hts⟩ (tX6_whyNotLifted l D cI cQ cL ad N F k hk r ps sl sd ne fa bu hs st ln pt th hR (nI (13 * y9 + x9)) (13 * y9 + x9) rfl (by omega) (nI f) f rfl ⟨hf.1, by omega⟩ (nI d) d rfl hd) (cwV9 3 hts mcX6_whyNotLifted (ac21 _ (List.mem_of_getElem? (i := 7) rfl)) miX6_whyNotLifted meX6_whyNotLifted mini_RX6 rfl rfl hdX6_whyNotLifted ⟨Nat.le_of_ble_eq_true rfl, Nat.le_of_ble_eq_true rfl⟩) hK hP hNW (by omega) hR.1 rfl rfl hl.1 rfl (Nat.le_of_ble_eq_true rfl) ⟨Nat.le_of_ble_eq_true rfl, Nat.le_of_ble_eq_true rfl⟩ (dk kX6_does_1_ok 34 rfl) ?_
  refine n_if_ne (tgt := 147) hx hb (by have q1 := rwl_le r (13 * y9 + x9) f d; omega) (dk kX6_does_1_ok 35 rfl) (by decide) (fun _ => ?_) (fun h9 => absurd h9 hwn)
  refine lv_iconst (v := nI 0) hx hb (dk kX6_does_1_ok 38 rfl) rfl ?_
  refine lv_istore_n (lv' := [(3, .int (nI 0)), (2, .int (nI (13 * y9 + x9))), (0, .ref (ad k)), (1, .int (nI pl))]) hx hb (dk kX6_does_1_ok 39 rfl) rfl hl (by decide) rfl (fun ls hl => ?_)
  refine lv_iload_n hx hb (dk kX6_does_1_ok 40 rfl) rfl (lv_at hl 0 rfl) ?_
  refine n_if_eq (tgt := 183) hx hb (by decide) (dk kX6_does_1_ok 41 rfl) (by decide) (fun _ => ?_) (fun h9 => absurd rfl h9)
  refine lv_iconst (v := nI 0) hx hb (dk kX6_does_2_ok 2 rfl) rfl ?_
  refine lv_istore (lv' := [(4, .int (nI 0)), (3, .int (nI 0)), (2, .int (nI (13 * y9 + x9))), (0, .ref (ad k)), (1, .int (nI pl))]) hx hb (dk kX6_does_2_ok 3 rfl) hl (by decide) rfl (fun ls hl => ?_)
  refine lv_iload_n hx hb (dk kX6_does_2_ok 4 rfl) rfl (lv_at hl 1 rfl) ?_
  exact hret _ _ _ rfl (dk kX6_does_2_ok 5 rfl)
