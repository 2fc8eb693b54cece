set_option maxRecDepth 100000 in
set_option maxHeartbeats 4000000 in
theorem tX6_goBack (l : Launch) (D : va_G) (cI cQ cL : ClassId) (ad : Nat → Nat) (N : Nat) (F : Nat → va_E) (k : Nat) (hk : k + 7 < N) (r ps sl sd ne fa bu : Nat → Int32) (hs : Bool) (st ln pt : Nat) (th : Int32) (hR : rfAt cI ad F k r ps sl sd ne fa bu hs st ln pt th) (hst6 : st ≤ 6) (hh : hs = true) : MX l yX6_goBack (Cond.code yX6_goBack cX6_goBack 2 (some .int) :: AW) ({ frames := 3, cells := 0, slots := 0, locals := 64 } : Room) D cI cQ cL ad N F [.ref (ad k)] (dp (some (.int (nI (potn sl)))) (rfSet cI ad F k sl (rcP ps r st) sl sd ne fa bu hs (rcS st) ln pt (nI 0))) 0 0 := by
  refine mx_i (ty := .int) (by decide +kernel) rfl (Nat.le_of_ble_eq_true rfl) (fun p e s m below meth cd Q ls hx hb hml hown hts hDi hP hK hNW hS hret hl => ?_)
  have hown : s.vm.findClass RX6 = some m.cls := hown
  have hk0 : k < N := by omega
  have hk1 : k + 1 < N := by omega
  have hk2 : k + 2 < N := by omega
  have hk3 : k + 3 < N := by omega
  have hk4 : k + 4 < N := by omega
  have hk5 : k + 5 < N := by omega
  have hk6 : k + 6 < N := by omega
  have hk7 : k + 7 < N := by omega
  have hP : va_P D vwCl (iW ad N (rfSet cI ad F k r ps sl sd ne fa bu hs st ln pt th)) s.heap := by rw [rfSet_self hR]; exact hP
  have hl : lv_has ls 2 [(0, .ref (ad k))] := hl
  refine lv_aload_n hx hb (dk kX6_goBack_ok 0 rfl) rfl (lv_at hl 0 rfl) ?_
  refine lv_iconst (v := nI 0) hx hb (dk kX6_goBack_ok 1 rfl) rfl ?_
  refine pf (rfSet cI ad F k r ps sl sd ne fa bu hs st ln pt (nI 0)) hx hb hts (fun w h => List.mem_cons_of_mem _ (acX6 w h)) tyX6 tyX6_ok nmX6 hown hK hDi hP hS hk0 rfSet_at.1 rfl 11 (by decide) (hts _ (List.mem_cons_of_mem _ (ac18 _ (List.mem_of_getElem? (i := 4) rfl)))) (fun _ h => h) rfl (ty := .int) rfl rfl rfl (Nat.le_of_ble_eq_true rfl) (dk kX6_goBack_ok 2 rfl) rfSet_u0 (fun H locs hP hS => ?_)
  refine lv_aload_n hx hb (dk kX6_goBack_ok 3 rfl) rfl (lv_at hl 0 rfl) ?_
  refine gf hx hb hts (fun w h => List.mem_cons_of_mem _ (acX6 w h)) hown hK hP hk0 rfSet_at.1 rfl 7 (by decide) (hts _ (List.mem_cons_of_mem _ (ac22 _ (List.mem_of_getElem? (i := 9) rfl)))) (fun _ h => h) rfl (dk kX6_goBack_ok 4 rfl) ?_
  refine b_if_ne (tgt := 18) hx hb (dk kX6_goBack_ok 5 rfl) (by decide) (fun h1 => ?_) (fun h1 => ?_)
  · skip
    refine lv_aload_n hx hb (dk kX6_goBack_ok 10 rfl) rfl (lv_at hl 0 rfl) ?_
    refine cvDv (As := []) (rest := []) (rfSet cI ad F k r (rcP ps r st) sl sd ne fa bu hs (rcS st) ln pt (nI 0)) ⟨hx, hb, hml, hown, hts⟩ (tX6_record l D cI cQ cL ad N (rfSet cI ad F k r ps sl sd ne fa bu hs st ln pt (nI 0)) k hk r ps sl sd ne fa bu hs st ln pt (nI 0) (rfSet_at) hst6) (cwV9 0 hts mcX6_record (ac20 _ (List.mem_of_getElem? (i := 23) rfl)) miX6_record meX6_record mini_RX6 rfl rfl hdX6_record ⟨Nat.le_of_ble_eq_true rfl, Nat.le_of_ble_eq_true rfl⟩) hDi hK hP hNW hS hk0 rfSet_at.1 rfl rfl hl.1 rfl (Nat.le_of_ble_eq_true rfl) (by decide) (dk kX6_goBack_ok 11 rfl) rfSet_rfSet (fun H locs hP hS => ?_)
    refine lv_iconst (v := nI 0) hx hb (dk kX6_goBack_ok 12 rfl) rfl ?_
    refine lv_istore_n (lv' := [(1, .int (nI 0)), (0, .ref (ad k))]) hx hb (dk kX6_goBack_ok 13 rfl) rfl hl (by decide) rfl (fun ls hl => ?_)
    have L24 : ∀ (fu : Nat) (i : Nat) (H : Heap) (locs : List Loc), va_P D vwCl (iW ad N (rfSet cI ad F k (cp9 r sl 0 i) (rcP ps r st) sl sd ne fa bu hs (rcS st) ln pt (nI 0))) H → va_S (iA ad N s.heap.size) s.heap H locs → i ≤ 60 → 60 - i < fu → ∀ ls : Array Slot, lv_has ls 2 [(0, .ref (ad k)), (1, .int (nI i))] → W p l e ({ frames := 3, cells := 0, slots := 0, locals := 64 } : Room) s m ([.ref (ad k)] : List Value).toArray below meth cd H locs 0 0 Q (F0 m 24 ls []) := by
      intro fu
      induction fu with
      | zero => intros; omega
      | succ fu ih24 =>
        intro i H locs hP hS hi hme24 ls hl
        refine lv_iload_n hx hb (dk kX6_goBack_ok 14 rfl) rfl (lv_at hl 1 rfl) ?_
        refine lv_bipush (v := nI 60) hx hb (dk kX6_goBack_ok 15 rfl) rfl ?_
        refine n_icmp_ge (tgt := 48) hx hb (by omega) (by decide) (dk kX6_goBack_ok 16 rfl) (by decide) (fun h2 => ?_) (fun h2 => ?_)
        · skip
          refine lv_aload_n hx hb (dk kX6_goBack_ok 27 rfl) rfl (lv_at hl 0 rfl) ?_
          refine cvR (As := []) (rest := []) ⟨hx, hb, hml, hown, hts⟩ (tX6_pottedInAll l D cI cQ cL ad N (rfSet cI ad F k (cp9 r sl 0 i) (rcP ps r st) sl sd ne fa bu hs (rcS st) ln pt (nI 0)) k hk (cp9 r sl 0 i) (rcP ps r st) sl sd ne fa bu hs (rcS st) ln pt (nI 0) (rfSet_at)) (cwV9 0 hts mcX6_pottedInAll (ac22 _ (List.mem_of_getElem? (i := 10) rfl)) miX6_pottedInAll meX6_pottedInAll mini_RX6 rfl rfl hdX6_pottedInAll ⟨Nat.le_of_ble_eq_true rfl, Nat.le_of_ble_eq_true rfl⟩) hK hP hNW hk0 rfSet_at.1 rfl rfl hl.1 rfl (Nat.le_of_ble_eq_true rfl) (by decide) (dk kX6_goBack_ok 28 rfl) ?_
          exact hret _ _ _ _ _ _ _ _ rfl (by refine ⟨?_, rfl⟩; rw [show i = 60 by omega, potn_cp]) (rf_ext (by rw [show i = 60 by omega] at hP; exact hP) (h1 := fun _ h9 => cp9_lo h9)) hS (by decide) (by decide) (dk kX6_goBack_ok 29 rfl)
        · skip
          refine lv_aload_n hx hb (dk kX6_goBack_ok 17 rfl) rfl (lv_at hl 0 rfl) ?_
          refine gf hx hb hts (fun w h => List.mem_cons_of_mem _ (acX6 w h)) hown hK hP hk0 rfSet_at.1 rfl 0 (by decide) (hts _ (List.mem_cons_of_mem _ (ac17 _ (List.mem_of_getElem? (i := 17) rfl)))) (fun _ h => h) rfl (dk kX6_goBack_ok 18 rfl) ?_
          refine lv_iload_n hx hb (dk kX6_goBack_ok 19 rfl) rfl (lv_at hl 1 rfl) ?_
          refine lv_aload_n hx hb (dk kX6_goBack_ok 20 rfl) rfl (lv_at hl 0 rfl) ?_
          refine gf hx hb hts (fun w h => List.mem_cons_of_mem _ (acX6 w h)) hown hK hP hk0 rfSet_at.1 rfl 2 (by decide) (hts _ (List.mem_cons_of_mem _ (ac17 _ (List.mem_of_getElem? (i := 19) rfl)))) (fun _ h => h) rfl (dk kX6_goBack_ok 21 rfl) ?_
          refine lv_iload_n hx hb (dk kX6_goBack_ok 22 rfl) rfl (lv_at hl 1 rfl) ?_
          refine ald (j := i) hx hb hK hP hk3 rfSet_at.2.2.2.1 rfl (by omega) (by decide) (dk kX6_goBack_ok 23 rfl) ?_
          refine ast (rfSet cI ad F k (upd (cp9 r sl 0 i) i (sl i)) (rcP ps r st) sl sd ne fa bu hs (rcS st) ln pt (nI 0)) (j := i) hx hb hK hDi hP hS hk1 rfSet_at.2.1 rfl (by omega) (by decide) (dk kX6_goBack_ok 24 rfl) rfSet_u1 (fun H locs hP hS => ?_)
          refine lv_iinc (v := nI (i + 1)) (lv' := [(1, .int (nI (i + 1))), (0, .ref (ad k))]) hx hb (dk kX6_goBack_ok 25 rfl) hl (k := 1) rfl (n_inc _) (by decide) rfl (fun ls hl => ?_)
          refine lv_goto (tgt := 24) hx hb (dk kX6_goBack_ok 26 rfl) (by decide) ?_
          exact ih24 (i + 1) _ _ (by first | (rw [cp9_0]; exact hP) | (rw [← cp9_s0]; exact hP)) hS (by omega) (by omega) ls (lv_sub hl [1, 0] rfl)
    exact L24 _ 0 _ _ (by first | (rw [cp9_0]; exact hP) | (rw [← cp9_s0]; exact hP)) hS (by omega) (Nat.lt_succ_self _) ls (lv_sub hl [1, 0] rfl)
  · exact absurd (hh.symm.trans h1) (by decide)
set_option maxRecDepth 100000 in
set_option maxHeartbeats 4000000 in
theorem tX6_goBackX (l : Launch) (D : va_G) (cI cQ cL : ClassId) (ad : Nat → Nat) (N : Nat) (F : Nat → va_E) (k : Nat) (hk : k + 7 < N) (r ps sl sd ne fa bu : Nat → Int32) (hs : Bool) (st ln pt : Nat) (th : Int32) (hR : rfAt cI ad F k r ps sl sd ne fa bu hs st ln pt th) (hh : hs = false) : MX l yX6_goBack (Cond.code yX6_goBack cX6_goBack 2 (some .int) :: AW) ({ frames := 1, cells := 0, slots := 0, locals := 21 } : Room) D cI cQ cL ad N F [.ref (ad k)] (dp (some (.int (nI 0))) (rfSet cI ad F k r ps sl sd ne fa bu hs st ln pt (nI 1))) 0 0 := by
  refine mx_i (ty := .int) (by decide +kernel) rfl (Nat.le_of_ble_eq_true rfl) (fun p e s m below meth cd Q ls hx hb hml hown hts hDi hP hK hNW hS hret hl => ?_)
  have hown : s.vm.findClass RX6 = some m.cls := hown
  have hk0 : k < N := by omega
  have hk1 : k + 1 < N := by omega
  have hk2 : k + 2 < N := by omega
  have hk3 : k + 3 < N := by omega
  have hk4 : k + 4 < N := by omega
  have hk5 : k + 5 < N := by omega
  have hk6 : k + 6 < N := by omega
  have hk7 : k + 7 < N := by omega
  have hP : va_P D vwCl (iW ad N (rfSet cI ad F k r ps sl sd ne fa bu hs st ln pt th)) s.heap := by rw [rfSet_self hR]; exact hP
  have hl : lv_has ls 2 [(0, .ref (ad k))] := hl
  refine lv_aload_n hx hb (dk kX6_goBack_ok 0 rfl) rfl (lv_at hl 0 rfl) ?_
  refine lv_iconst (v := nI 0) hx hb (dk kX6_goBack_ok 1 rfl) rfl ?_
  refine pf (rfSet cI ad F k r ps sl sd ne fa bu hs st ln pt (nI 0)) hx hb hts (fun w h => List.mem_cons_of_mem _ (acX6 w h)) tyX6 tyX6_ok nmX6 hown hK hDi hP hS hk0 rfSet_at.1 rfl 11 (by decide) (hts _ (List.mem_cons_of_mem _ (ac18 _ (List.mem_of_getElem? (i := 4) rfl)))) (fun _ h => h) rfl (ty := .int) rfl rfl rfl (Nat.le_of_ble_eq_true rfl) (dk kX6_goBack_ok 2 rfl) rfSet_u0 (fun H locs hP hS => ?_)
  refine lv_aload_n hx hb (dk kX6_goBack_ok 3 rfl) rfl (lv_at hl 0 rfl) ?_
  refine gf hx hb hts (fun w h => List.mem_cons_of_mem _ (acX6 w h)) hown hK hP hk0 rfSet_at.1 rfl 7 (by decide) (hts _ (List.mem_cons_of_mem _ (ac22 _ (List.mem_of_getElem? (i := 9) rfl)))) (fun _ h => h) rfl (dk kX6_goBack_ok 4 rfl) ?_
  refine b_if_ne (tgt := 18) hx hb (dk kX6_goBack_ok 5 rfl) (by decide) (fun h1 => ?_) (fun h1 => ?_)
  · exact absurd (hh.symm.trans h1) (by decide)
  · skip
    refine lv_aload_n hx hb (dk kX6_goBack_ok 6 rfl) rfl (lv_at hl 0 rfl) ?_
    refine lv_iconst (v := nI 1) hx hb (dk kX6_goBack_ok 7 rfl) rfl ?_
    refine cvD (As := [.int (nI 1)]) (rest := []) (rfSet cI ad F k r ps sl sd ne fa bu hs st ln pt (nI 1)) ⟨hx, hb, hml, hown, hts⟩ (tX6_fails l D cI cQ cL ad N (rfSet cI ad F k r ps sl sd ne fa bu hs st ln pt (nI 0)) k hk r ps sl sd ne fa bu hs st ln pt (nI 0) (rfSet_at) (nI 1)) (cwV9 1 hts mcX6_fails (ac20 _ (List.mem_of_getElem? (i := 15) rfl)) miX6_fails meX6_fails mini_RX6 rfl rfl hdX6_fails ⟨Nat.le_of_ble_eq_true rfl, Nat.le_of_ble_eq_true rfl⟩) hDi hK hP hNW hS hk0 rfSet_at.1 rfl rfl hl.1 rfl (Nat.le_of_ble_eq_true rfl) (by decide) (dk kX6_goBack_ok 8 rfl) rfSet_rfSet (fun H locs hP hS => ?_)
    exact hret _ _ _ _ _ _ _ _ rfl (by exact ⟨rfl, rfl⟩) hP hS (by decide) (by decide) (dk kX6_goBack_ok 9 rfl)
set_option maxRecDepth 100000 in
set_option maxHeartbeats 4000000 in
theorem tX6_undo (l : Launch) (D : va_G) (cI cQ cL : ClassId) (ad : Nat → Nat) (N : Nat) (F : Nat → va_E) (k : Nat) (hk : k + 7 < N) (r ps sl sd ne fa bu : Nat → Int32) (hs : Bool) (st ln pt : Nat) (th : Int32) (hR : rfAt cI ad F k r ps sl sd ne fa bu hs st ln pt th) (hst6 : st ≤ 6) (hs1 : 1 ≤ st) : MX l yX6_undo (Cond.code yX6_undo cX6_undo 2 (some .int) :: AW) ({ frames := 0, cells := 0, slots := 0, locals := 0 } : Room) D cI cQ cL ad N F [.ref (ad k)] (dp (some (.int (nI (st - 1)))) (rfSet cI ad F k (fun j9 => ps (60 * (st - 1) + j9)) ps sl sd ne fa bu hs (st - 1) ln pt (nI 0))) 0 0 := by
  refine mx_i (ty := .int) (by decide +kernel) rfl (Nat.le_of_ble_eq_true rfl) (fun p e s m below meth cd Q ls hx hb hml hown hts hDi hP hK hNW hS hret hl => ?_)
  have hown : s.vm.findClass RX6 = some m.cls := hown
  have hk0 : k < N := by omega
  have hk1 : k + 1 < N := by omega
  have hk2 : k + 2 < N := by omega
  have hk3 : k + 3 < N := by omega
  have hk4 : k + 4 < N := by omega
  have hk5 : k + 5 < N := by omega
  have hk6 : k + 6 < N := by omega
  have hk7 : k + 7 < N := by omega
  have hP : va_P D vwCl (iW ad N (rfSet cI ad F k r ps sl sd ne fa bu hs st ln pt th)) s.heap := by rw [rfSet_self hR]; exact hP
  have hl : lv_has ls 2 [(0, .ref (ad k))] := hl
  refine lv_aload_n hx hb (dk kX6_undo_ok 0 rfl) rfl (lv_at hl 0 rfl) ?_
  refine lv_iconst (v := nI 0) hx hb (dk kX6_undo_ok 1 rfl) rfl ?_
  refine pf (rfSet cI ad F k r ps sl sd ne fa bu hs st ln pt (nI 0)) hx hb hts (fun w h => List.mem_cons_of_mem _ (acX6 w h)) tyX6 tyX6_ok nmX6 hown hK hDi hP hS hk0 rfSet_at.1 rfl 11 (by decide) (hts _ (List.mem_cons_of_mem _ (ac18 _ (List.mem_of_getElem? (i := 4) rfl)))) (fun _ h => h) rfl (ty := .int) rfl rfl rfl (Nat.le_of_ble_eq_true rfl) (dk kX6_undo_ok 2 rfl) rfSet_u0 (fun H locs hP hS => ?_)
  refine lv_aload_n hx hb (dk kX6_undo_ok 3 rfl) rfl (lv_at hl 0 rfl) ?_
  refine gf hx hb hts (fun w h => List.mem_cons_of_mem _ (acX6 w h)) hown hK hP hk0 rfSet_at.1 rfl 8 (by decide) (hts _ (List.mem_cons_of_mem _ (ac18 _ (List.mem_of_getElem? (i := 5) rfl)))) (fun _ h => h) rfl (dk kX6_undo_ok 4 rfl) ?_
  refine n_if_ne (tgt := 18) hx hb (by omega) (dk kX6_undo_ok 5 rfl) (by decide) (fun h1 => ?_) (fun h1 => ?_)
  · skip
    refine lv_aload_n hx hb (dk kX6_undo_ok 10 rfl) rfl (lv_at hl 0 rfl) ?_
    refine lv_dup hx hb (dk kX6_undo_ok 11 rfl) rfl ?_
    refine gf hx hb hts (fun w h => List.mem_cons_of_mem _ (acX6 w h)) hown hK hP hk0 rfSet_at.1 rfl 8 (by decide) (hts _ (List.mem_cons_of_mem _ (ac18 _ (List.mem_of_getElem? (i := 5) rfl)))) (fun _ h => h) rfl (dk kX6_undo_ok 12 rfl) ?_
    refine lv_iconst (v := nI 1) hx hb (dk kX6_undo_ok 13 rfl) rfl ?_
    refine n_isub hx hb (by omega) (dk kX6_undo_ok 14 rfl) ?_
    refine pf (rfSet cI ad F k r ps sl sd ne fa bu hs (st - 1) ln pt (nI 0)) hx hb hts (fun w h => List.mem_cons_of_mem _ (acX6 w h)) tyX6 tyX6_ok nmX6 hown hK hDi hP hS hk0 rfSet_at.1 rfl 8 (by decide) (hts _ (List.mem_cons_of_mem _ (ac18 _ (List.mem_of_getElem? (i := 5) rfl)))) (fun _ h => h) rfl (ty := .int) rfl rfl rfl (Nat.le_of_ble_eq_true rfl) (dk kX6_undo_ok 15 rfl) rfSet_u0 (fun H locs hP hS => ?_)
    refine lv_iconst (v := nI 0) hx hb (dk kX6_undo_ok 16 rfl) rfl ?_
    refine lv_istore_n (lv' := [(1, .int (nI 0)), (0, .ref (ad k))]) hx hb (dk kX6_undo_ok 17 rfl) rfl hl (by decide) rfl (fun ls hl => ?_)
    have L30 : ∀ (fu : Nat) (i : Nat) (H : Heap) (locs : List Loc), va_P D vwCl (iW ad N (rfSet cI ad F k (cp9 r (fun j9 => ps (60 * (st - 1) + j9)) 0 i) ps sl sd ne fa bu hs (st - 1) ln pt (nI 0))) H → va_S (iA ad N s.heap.size) s.heap H locs → i ≤ 60 → 60 - i < fu → ∀ ls : Array Slot, lv_has ls 2 [(0, .ref (ad k)), (1, .int (nI i))] → W p l e ({ frames := 0, cells := 0, slots := 0, locals := 0 } : Room) s m ([.ref (ad k)] : List Value).toArray below meth cd H locs 0 0 Q (F0 m 30 ls []) := by
      intro fu
      induction fu with
      | zero => intros; omega
      | succ fu ih30 =>
        intro i H locs hP hS hi hme30 ls hl
        refine lv_iload_n hx hb (dk kX6_undo_ok 18 rfl) rfl (lv_at hl 1 rfl) ?_
        refine lv_bipush (v := nI 60) hx hb (dk kX6_undo_ok 19 rfl) rfl ?_
        refine n_icmp_ge (tgt := 62) hx hb (by omega) (by decide) (dk kX6_undo_ok 20 rfl) (by decide) (fun h2 => ?_) (fun h2 => ?_)
        · skip
          refine lv_aload_n hx hb (dk kX6_undo_ok 36 rfl) rfl (lv_at hl 0 rfl) ?_
          refine gf hx hb hts (fun w h => List.mem_cons_of_mem _ (acX6 w h)) hown hK hP hk0 rfSet_at.1 rfl 8 (by decide) (hts _ (List.mem_cons_of_mem _ (ac18 _ (List.mem_of_getElem? (i := 5) rfl)))) (fun _ h => h) rfl (dk kX6_undo_ok 37 rfl) ?_
          exact hret _ _ _ _ _ _ _ _ rfl (by exact ⟨rfl, rfl⟩) (rf_ext (by rw [show i = 60 by omega] at hP; exact hP) (r := cp9 r (fun j9 => ps (60 * (st - 1) + j9)) 0 60) (r' := fun j9 => ps (60 * (st - 1) + j9)) (h1 := fun _ h9 => cp9_lo (f := r) (g := fun j9 => ps (60 * (st - 1) + j9)) h9)) hS (by decide) (by decide) (dk kX6_undo_ok 38 rfl)
        · skip
          refine lv_aload_n hx hb (dk kX6_undo_ok 21 rfl) rfl (lv_at hl 0 rfl) ?_
          refine gf hx hb hts (fun w h => List.mem_cons_of_mem _ (acX6 w h)) hown hK hP hk0 rfSet_at.1 rfl 0 (by decide) (hts _ (List.mem_cons_of_mem _ (ac17 _ (List.mem_of_getElem? (i := 17) rfl)))) (fun _ h => h) rfl (dk kX6_undo_ok 22 rfl) ?_
          refine lv_iload_n hx hb (dk kX6_undo_ok 23 rfl) rfl (lv_at hl 1 rfl) ?_
          refine lv_aload_n hx hb (dk kX6_undo_ok 24 rfl) rfl (lv_at hl 0 rfl) ?_
          refine gf hx hb hts (fun w h => List.mem_cons_of_mem _ (acX6 w h)) hown hK hP hk0 rfSet_at.1 rfl 1 (by decide) (hts _ (List.mem_cons_of_mem _ (ac17 _ (List.mem_of_getElem? (i := 18) rfl)))) (fun _ h => h) rfl (dk kX6_undo_ok 25 rfl) ?_
          refine lv_bipush (v := nI 60) hx hb (dk kX6_undo_ok 26 rfl) rfl ?_
          refine lv_aload_n hx hb (dk kX6_undo_ok 27 rfl) rfl (lv_at hl 0 rfl) ?_
          refine gf hx hb hts (fun w h => List.mem_cons_of_mem _ (acX6 w h)) hown hK hP hk0 rfSet_at.1 rfl 8 (by decide) (hts _ (List.mem_cons_of_mem _ (ac18 _ (List.mem_of_getElem? (i := 5) rfl)))) (fun _ h => h) rfl (dk kX6_undo_ok 28 rfl) ?_
          refine n_imul hx hb (dk kX6_undo_ok 29 rfl) ?_
          refine lv_iload_n hx hb (dk kX6_undo_ok 30 rfl) rfl (lv_at hl 1 rfl) ?_
          refine n_iadd hx hb (dk kX6_undo_ok 31 rfl) ?_
          refine ald (j := ((60 * (st - 1)) + i)) hx hb hK hP hk2 rfSet_at.2.2.1 rfl (by omega) (by decide) (dk kX6_undo_ok 32 rfl) ?_
          refine ast (rfSet cI ad F k (upd (cp9 r (fun j9 => ps (60 * (st - 1) + j9)) 0 i) i (ps ((60 * (st - 1)) + i))) ps sl sd ne fa bu hs (st - 1) ln pt (nI 0)) (j := i) hx hb hK hDi hP hS hk1 rfSet_at.2.1 rfl (by omega) (by decide) (dk kX6_undo_ok 33 rfl) rfSet_u1 (fun H locs hP hS => ?_)
          refine lv_iinc (v := nI (i + 1)) (lv' := [(1, .int (nI (i + 1))), (0, .ref (ad k))]) hx hb (dk kX6_undo_ok 34 rfl) hl (k := 1) rfl (n_inc _) (by decide) rfl (fun ls hl => ?_)
          refine lv_goto (tgt := 30) hx hb (dk kX6_undo_ok 35 rfl) (by decide) ?_
          exact ih30 (i + 1) _ _ (by first | (rw [cp9_0]; exact hP) | (rw [← cp9_s0]; exact hP)) hS (by omega) (by omega) ls (lv_sub hl [1, 0] rfl)
    exact L30 _ 0 _ _ (by first | (rw [cp9_0]; exact hP) | (rw [← cp9_s0]; exact hP)) hS (by omega) (Nat.lt_succ_self _) ls (lv_sub hl [1, 0] rfl)
  · exact absurd h1 (by omega)
set_option maxRecDepth 100000 in
set_option maxHeartbeats 4000000 in
theorem tX6_undoX (l : Launch) (D : va_G) (cI cQ cL : ClassId) (ad : Nat → Nat) (N : Nat) (F : Nat → va_E) (k : Nat) (hk : k + 7 < N) (r ps sl sd ne fa bu : Nat → Int32) (hs : Bool) (st ln pt : Nat) (th : Int32) (hR : rfAt cI ad F k r ps sl sd ne fa bu hs st ln pt th) (hs0 : st = 0) : MX l yX6_undo (Cond.code yX6_undo cX6_undo 2 (some .int) :: AW) ({ frames := 1, cells := 0, slots := 0, locals := 21 } : Room) D cI cQ cL ad N F [.ref (ad k)] (dp (some (.int (nI 0))) (rfSet cI ad F k r ps sl sd ne fa bu hs st ln pt (nI 1))) 0 0 := by
  refine mx_i (ty := .int) (by decide +kernel) rfl (Nat.le_of_ble_eq_true rfl) (fun p e s m below meth cd Q ls hx hb hml hown hts hDi hP hK hNW hS hret hl => ?_)
  have hown : s.vm.findClass RX6 = some m.cls := hown
  have hk0 : k < N := by omega
  have hk1 : k + 1 < N := by omega
  have hk2 : k + 2 < N := by omega
  have hk3 : k + 3 < N := by omega
  have hk4 : k + 4 < N := by omega
  have hk5 : k + 5 < N := by omega
  have hk6 : k + 6 < N := by omega
  have hk7 : k + 7 < N := by omega
  have hP : va_P D vwCl (iW ad N (rfSet cI ad F k r ps sl sd ne fa bu hs st ln pt th)) s.heap := by rw [rfSet_self hR]; exact hP
  have hl : lv_has ls 2 [(0, .ref (ad k))] := hl
  refine lv_aload_n hx hb (dk kX6_undo_ok 0 rfl) rfl (lv_at hl 0 rfl) ?_
  refine lv_iconst (v := nI 0) hx hb (dk kX6_undo_ok 1 rfl) rfl ?_
  refine pf (rfSet cI ad F k r ps sl sd ne fa bu hs st ln pt (nI 0)) hx hb hts (fun w h => List.mem_cons_of_mem _ (acX6 w h)) tyX6 tyX6_ok nmX6 hown hK hDi hP hS hk0 rfSet_at.1 rfl 11 (by decide) (hts _ (List.mem_cons_of_mem _ (ac18 _ (List.mem_of_getElem? (i := 4) rfl)))) (fun _ h => h) rfl (ty := .int) rfl rfl rfl (Nat.le_of_ble_eq_true rfl) (dk kX6_undo_ok 2 rfl) rfSet_u0 (fun H locs hP hS => ?_)
  refine lv_aload_n hx hb (dk kX6_undo_ok 3 rfl) rfl (lv_at hl 0 rfl) ?_
  refine gf hx hb hts (fun w h => List.mem_cons_of_mem _ (acX6 w h)) hown hK hP hk0 rfSet_at.1 rfl 8 (by decide) (hts _ (List.mem_cons_of_mem _ (ac18 _ (List.mem_of_getElem? (i := 5) rfl)))) (fun _ h => h) rfl (dk kX6_undo_ok 4 rfl) ?_
  refine n_if_ne (tgt := 18) hx hb (by omega) (dk kX6_undo_ok 5 rfl) (by decide) (fun h1 => ?_) (fun h1 => ?_)
  · exact absurd hs0 h1
  · skip
    refine lv_aload_n hx hb (dk kX6_undo_ok 6 rfl) rfl (lv_at hl 0 rfl) ?_
    refine lv_iconst (v := nI 1) hx hb (dk kX6_undo_ok 7 rfl) rfl ?_
    refine cvD (As := [.int (nI 1)]) (rest := []) (rfSet cI ad F k r ps sl sd ne fa bu hs st ln pt (nI 1)) ⟨hx, hb, hml, hown, hts⟩ (tX6_fails l D cI cQ cL ad N (rfSet cI ad F k r ps sl sd ne fa bu hs st ln pt (nI 0)) k hk r ps sl sd ne fa bu hs st ln pt (nI 0) (rfSet_at) (nI 1)) (cwV9 1 hts mcX6_fails (ac20 _ (List.mem_of_getElem? (i := 15) rfl)) miX6_fails meX6_fails mini_RX6 rfl rfl hdX6_fails ⟨Nat.le_of_ble_eq_true rfl, Nat.le_of_ble_eq_true rfl⟩) hDi hK hP hNW hS hk0 rfSet_at.1 rfl rfl hl.1 rfl (Nat.le_of_ble_eq_true rfl) (by decide) (dk kX6_undo_ok 8 rfl) rfSet_rfSet (fun H locs hP hS => ?_)
    exact hret _ _ _ _ _ _ _ _ rfl (by exact ⟨rfl, rfl⟩) hP hS (by decide) (by decide) (dk kX6_undo_ok 9 rfl)
set_option maxRecDepth 100000 in
set_option maxHeartbeats 4000000 in
theorem tX6_pottedShare (l : Launch) (D : va_G) (cI cQ cL : ClassId) (ad : Nat → Nat) (N : Nat) (F : Nat → va_E) (k : Nat) (hk : k + 7 < N) (r ps sl sd ne fa bu : Nat → Int32) (hs : Bool) (st ln pt : Nat) (th : Int32) (hR : rfAt cI ad F k r ps sl sd ne fa bu hs st ln pt th) : MX l yX6_pottedShare (Cond.code yX6_pottedShare cX6_pottedShare 1 (some .double) :: AW) ({ frames := 3, cells := 0, slots := 0, locals := 64 } : Room) D cI cQ cL ad N F [.ref (ad k)] (dp (some (.double (shr (potn r)))) (rfSet cI ad F k r ps sl sd ne fa bu hs st ln pt (nI 0))) 0 0 := by
  refine mx_d (by decide +kernel) rfl (Nat.le_of_ble_eq_true rfl) (fun p e s m below meth cd Q ls hx hb hml hown hts hDi hP hK hNW hS hret hl => ?_)
  have hown : s.vm.findClass RX6 = some m.cls := hown
  have hk0 : k < N := by omega
  have hk1 : k + 1 < N := by omega
  have hk2 : k + 2 < N := by omega
  have hk3 : k + 3 < N := by omega
  have hk4 : k + 4 < N := by omega
  have hk5 : k + 5 < N := by omega
  have hk6 : k + 6 < N := by omega
  have hk7 : k + 7 < N := by omega
  have hP : va_P D vwCl (iW ad N (rfSet cI ad F k r ps sl sd ne fa bu hs st ln pt th)) s.heap := by rw [rfSet_self hR]; exact hP
  have hl : lv_has ls 1 [(0, .ref (ad k))] := hl
  refine lv_aload_n hx hb (dk kX6_pottedShare_ok 0 rfl) rfl (lv_at hl 0 rfl) ?_
  refine lv_iconst (v := nI 0) hx hb (dk kX6_pottedShare_ok 1 rfl) rfl ?_
  refine pf (rfSet cI ad F k r ps sl sd ne fa bu hs st ln pt (nI 0)) hx hb hts (fun w h => List.mem_cons_of_mem _ (acX6 w h)) tyX6 tyX6_ok nmX6 hown hK hDi hP hS hk0 rfSet_at.1 rfl 11 (by decide) (hts _ (List.mem_cons_of_mem _ (ac18 _ (List.mem_of_getElem? (i := 4) rfl)))) (fun _ h => h) rfl (ty := .int) rfl rfl rfl (Nat.le_of_ble_eq_true rfl) (dk kX6_pottedShare_ok 2 rfl) rfSet_u0 (fun H locs hP hS => ?_)
  refine lv_aload_n hx hb (dk kX6_pottedShare_ok 3 rfl) rfl (lv_at hl 0 rfl) ?_
  refine cvR (As := []) (rest := []) ⟨hx, hb, hml, hown, hts⟩ (tX6_pottedInAll l D cI cQ cL ad N (rfSet cI ad F k r ps sl sd ne fa bu hs st ln pt (nI 0)) k hk r ps sl sd ne fa bu hs st ln pt (nI 0) (rfSet_at)) (cwV9 0 hts mcX6_pottedInAll (ac22 _ (List.mem_of_getElem? (i := 10) rfl)) miX6_pottedInAll meX6_pottedInAll mini_RX6 rfl rfl hdX6_pottedInAll ⟨Nat.le_of_ble_eq_true rfl, Nat.le_of_ble_eq_true rfl⟩) hK hP hNW hk0 rfSet_at.1 rfl rfl hl.1 rfl (Nat.le_of_ble_eq_true rfl) (by decide) (dk kX6_pottedShare_ok 4 rfl) ?_
  refine lv_i2d hx hb (dk kX6_pottedShare_ok 5 rfl) ?_
  refine lv_ldc2d (v := (4625196817309499392)) hx hb hown (hts _ (List.mem_cons_of_mem _ (ac25 _ (List.mem_of_getElem? (i := 10) rfl)))) (dk kX6_pottedShare_ok 6 rfl) ?_
  refine lv_ddiv hx hb (dk kX6_pottedShare_ok 7 rfl) (shr_ok (potn_le r)) ?_
  exact hret _ _ _ _ _ _ _ _  (by exact ⟨rfl, rfl⟩) hP hS (by decide) (by decide) (dk kX6_pottedShare_ok 8 rfl)
set_option maxRecDepth 100000 in
set_option maxHeartbeats 4000000 in
theorem tX6_meanPile (l : Launch) (D : va_G) (cI cQ cL : ClassId) (ad : Nat → Nat) (N : Nat) (F : Nat → va_E) (k : Nat) (hk : k + 7 < N) (r ps sl sd ne fa bu : Nat → Int32) (hs : Bool) (st ln pt : Nat) (th : Int32) (hR : rfAt cI ad F k r ps sl sd ne fa bu hs st ln pt th) : MX l yX6_meanPile (Cond.code yX6_meanPile cX6_meanPile 1 (some .float) :: AW) ({ frames := 3, cells := 0, slots := 0, locals := 64 } : Room) D cI cQ cL ad N F [.ref (ad k)] (dp (some (.float (mea (rpl r) (potn r)))) (rfSet cI ad F k r ps sl sd ne fa bu hs st ln pt (nI 0))) 0 0 := by
  refine mx_f (by decide +kernel) rfl (Nat.le_of_ble_eq_true rfl) (fun p e s m below meth cd Q ls hx hb hml hown hts hDi hP hK hNW hS hret hl => ?_)
  have hown : s.vm.findClass RX6 = some m.cls := hown
  have hk0 : k < N := by omega
  have hk1 : k + 1 < N := by omega
  have hk2 : k + 2 < N := by omega
  have hk3 : k + 3 < N := by omega
  have hk4 : k + 4 < N := by omega
  have hk5 : k + 5 < N := by omega
  have hk6 : k + 6 < N := by omega
  have hk7 : k + 7 < N := by omega
  have hP : va_P D vwCl (iW ad N (rfSet cI ad F k r ps sl sd ne fa bu hs st ln pt th)) s.heap := by rw [rfSet_self hR]; exact hP
  have hl : lv_has ls 1 [(0, .ref (ad k))] := hl
  refine lv_aload_n hx hb (dk kX6_meanPile_ok 0 rfl) rfl (lv_at hl 0 rfl) ?_
  refine lv_iconst (v := nI 0) hx hb (dk kX6_meanPile_ok 1 rfl) rfl ?_
  refine pf (rfSet cI ad F k r ps sl sd ne fa bu hs st ln pt (nI 0)) hx hb hts (fun w h => List.mem_cons_of_mem _ (acX6 w h)) tyX6 tyX6_ok nmX6 hown hK hDi hP hS hk0 rfSet_at.1 rfl 11 (by decide) (hts _ (List.mem_cons_of_mem _ (ac18 _ (List.mem_of_getElem? (i := 4) rfl)))) (fun _ h => h) rfl (ty := .int) rfl rfl rfl (Nat.le_of_ble_eq_true rfl) (dk kX6_meanPile_ok 2 rfl) rfSet_u0 (fun H locs hP hS => ?_)
  refine lv_aload_n hx hb (dk kX6_meanPile_ok 3 rfl) rfl (lv_at hl 0 rfl) ?_
  refine cvR (As := []) (rest := []) ⟨hx, hb, hml, hown, hts⟩ (tX6_piles l D cI cQ cL ad N (rfSet cI ad F k r ps sl sd ne fa bu hs st ln pt (nI 0)) k hk r ps sl sd ne fa bu hs st ln pt (nI 0) (rfSet_at)) (cwV9 0 hts mcX6_piles (ac23 _ (List.mem_of_getElem? (i := 18) rfl)) miX6_piles meX6_piles mini_RX6 rfl rfl hdX6_piles ⟨Nat.le_of_ble_eq_true rfl, Nat.le_of_ble_eq_true rfl⟩) hK hP hNW hk0 rfSet_at.1 rfl rfl hl.1 rfl (Nat.le_of_ble_eq_true rfl) (by decide) (dk kX6_meanPile_ok 4 rfl) ?_
  refine n_if_ne (tgt := 16) hx hb (by have q1 := rpl_le r; omega) (dk kX6_meanPile_ok 5 rfl) (by decide) (fun h1 => ?_) (fun h1 => ?_)
  · skip
    refine lv_bipush (v := nI 16) hx hb (dk kX6_meanPile_ok 8 rfl) rfl ?_
    refine lv_aload_n hx hb (dk kX6_meanPile_ok 9 rfl) rfl (lv_at hl 0 rfl) ?_
    refine cvR (As := []) (rest := [.int (nI 16)]) ⟨hx, hb, hml, hown, hts⟩ (tX6_pottedInAll l D cI cQ cL ad N (rfSet cI ad F k r ps sl sd ne fa bu hs st ln pt (nI 0)) k hk r ps sl sd ne fa bu hs st ln pt (nI 0) (rfSet_at)) (cwV9 0 hts mcX6_pottedInAll (ac22 _ (List.mem_of_getElem? (i := 10) rfl)) miX6_pottedInAll meX6_pottedInAll mini_RX6 rfl rfl hdX6_pottedInAll ⟨Nat.le_of_ble_eq_true rfl, Nat.le_of_ble_eq_true rfl⟩) hK hP hNW hk0 rfSet_at.1 rfl rfl hl.1 rfl (Nat.le_of_ble_eq_true rfl) (by decide) (dk kX6_meanPile_ok 10 rfl) ?_
    refine n_isub hx hb (by have q1 := potn_le r; omega) (dk kX6_meanPile_ok 11 rfl) ?_
    refine lv_i2f hx hb (dk kX6_meanPile_ok 12 rfl) ?_
    refine lv_aload_n hx hb (dk kX6_meanPile_ok 13 rfl) rfl (lv_at hl 0 rfl) ?_
    refine cvR (As := []) (rest := [.float (FP.i2f (nI (16 - (potn r))))]) ⟨hx, hb, hml, hown, hts⟩ (tX6_piles l D cI cQ cL ad N (rfSet cI ad F k r ps sl sd ne fa bu hs st ln pt (nI 0)) k hk r ps sl sd ne fa bu hs st ln pt (nI 0) (rfSet_at)) (cwV9 0 hts mcX6_piles (ac23 _ (List.mem_of_getElem? (i := 18) rfl)) miX6_piles meX6_piles mini_RX6 rfl rfl hdX6_piles ⟨Nat.le_of_ble_eq_true rfl, Nat.le_of_ble_eq_true rfl⟩) hK hP hNW hk0 rfSet_at.1 rfl rfl hl.1 rfl (Nat.le_of_ble_eq_true rfl) (by decide) (dk kX6_meanPile_ok 14 rfl) ?_
    refine lv_i2f hx hb (dk kX6_meanPile_ok 15 rfl) ?_
    refine lv_fdiv hx hb (dk kX6_meanPile_ok 16 rfl) (mea_ok (potn_le r) (rpl_le r) (by assumption)) ?_
    exact hret _ _ _ _ _ _ _ _  (by simp only [dp, mea, (eq_false h1), not_true_eq_false, not_false_eq_true, and_true, true_and, and_false, false_and, or_true, true_or, or_false, false_or, and_self, or_self, if_true, if_false, Bool.false_eq_true, reduceIte]; first | done | exact ⟨rfl, rfl⟩ | rfl) hP hS (by decide) (by decide) (dk kX6_meanPile_ok 17 rfl)
  · skip
    refine lv_fconst0 hx hb (dk kX6_meanPile_ok 6 rfl) ?_
    refine lv_goto (tgt := 30) hx hb (dk kX6_meanPile_ok 7 rfl) (by decide) ?_
    exact hret _ _ _ _ _ _ _ _  (by simp only [dp, mea, (eq_true h1), not_true_eq_false, not_false_eq_true, and_true, true_and, and_false, false_and, or_true, true_or, or_false, false_or, and_self, or_self, if_true, if_false, Bool.false_eq_true, reduceIte]; first | done | exact ⟨rfl, rfl⟩ | rfl) hP hS (by decide) (by decide) (dk kX6_meanPile_ok 17 rfl)
set_option maxRecDepth 100000 in
set_option maxHeartbeats 4000000 in
theorem tX6_playX (l : Launch) (D : va_G) (cI cQ cL : ClassId) (ad : Nat → Nat) (N : Nat) (F : Nat → va_E) (k : Nat) (hk : k + 7 < N) (r ps sl sd ne fa bu : Nat → Int32) (hs : Bool) (st ln pt : Nat) (th : Int32) (hR : rfAt cI ad F k r ps sl sd ne fa bu hs st ln pt th) (hln : ln ≤ 60) (hh : (rwh bu ln).1 = false) : MX l yX6_play (Cond.code yX6_play cX6_play 3 (some .int) :: AW) ({ frames := 4, cells := 0, slots := 0, locals := 86 } : Room) D cI cQ cL ad N F [.ref (ad k)] (dp (some (.int (nI 0))) (rfSet cI ad F k r ps sl sd ne fa bu hs st ln ((rwh bu ln).2) (nI 1))) 0 0 := by
  refine mx_i (ty := .int) (by decide +kernel) rfl (Nat.le_of_ble_eq_true rfl) (fun p e s m below meth cd Q ls hx hb hml hown hts hDi hP hK hNW hS hret hl => ?_)
  have hown : s.vm.findClass RX6 = some m.cls := hown
  have hk0 : k < N := by omega
  have hk1 : k + 1 < N := by omega
  have hk2 : k + 2 < N := by omega
  have hk3 : k + 3 < N := by omega
  have hk4 : k + 4 < N := by omega
  have hk5 : k + 5 < N := by omega
  have hk6 : k + 6 < N := by omega
  have hk7 : k + 7 < N := by omega
  have hP : va_P D vwCl (iW ad N (rfSet cI ad F k r ps sl sd ne fa bu hs st ln pt th)) s.heap := by rw [rfSet_self hR]; exact hP
  have hl : lv_has ls 3 [(0, .ref (ad k))] := hl
  refine lv_aload_n hx hb (dk kX6_play_ok 0 rfl) rfl (lv_at hl 0 rfl) ?_
  refine lv_iconst (v := nI 0) hx hb (dk kX6_play_ok 1 rfl) rfl ?_
  refine pf (rfSet cI ad F k r ps sl sd ne fa bu hs st ln pt (nI 0)) hx hb hts (fun w h => List.mem_cons_of_mem _ (acX6 w h)) tyX6 tyX6_ok nmX6 hown hK hDi hP hS hk0 rfSet_at.1 rfl 11 (by decide) (hts _ (List.mem_cons_of_mem _ (ac18 _ (List.mem_of_getElem? (i := 4) rfl)))) (fun _ h => h) rfl (ty := .int) rfl rfl rfl (Nat.le_of_ble_eq_true rfl) (dk kX6_play_ok 2 rfl) rfSet_u0 (fun H locs hP hS => ?_)
  refine lv_aload_n hx hb (dk kX6_play_ok 3 rfl) rfl (lv_at hl 0 rfl) ?_
  refine cvD (As := []) (rest := []) (rfSet cI ad F k r ps sl sd ne fa bu hs st ln ((rwh bu ln).2) (nI 0)) ⟨hx, hb, hml, hown, hts⟩ (tX6_isWhole l D cI cQ cL ad N (rfSet cI ad F k r ps sl sd ne fa bu hs st ln pt (nI 0)) k hk r ps sl sd ne fa bu hs st ln pt (nI 0) (rfSet_at) hln) (cwV9 0 hts mcX6_isWhole (ac22 _ (List.mem_of_getElem? (i := 1) rfl)) miX6_isWhole meX6_isWhole mini_RX6 rfl rfl hdX6_isWhole ⟨Nat.le_of_ble_eq_true rfl, Nat.le_of_ble_eq_true rfl⟩) hDi hK hP hNW hS hk0 rfSet_at.1 rfl rfl hl.1 rfl (Nat.le_of_ble_eq_true rfl) (by decide) (dk kX6_play_ok 4 rfl) rfSet_rfSet (fun H locs hP hS => ?_)
  refine b_if_ne (tgt := 18) hx hb (dk kX6_play_ok 5 rfl) (by decide) (fun h1 => ?_) (fun h1 => ?_)
  · exact absurd (hh.symm.trans h1) (by decide)
  · skip
    refine lv_aload_n hx hb (dk kX6_play_ok 6 rfl) rfl (lv_at hl 0 rfl) ?_
    refine lv_iconst (v := nI 1) hx hb (dk kX6_play_ok 7 rfl) rfl ?_
    refine cvD (As := [.int (nI 1)]) (rest := []) (rfSet cI ad F k r ps sl sd ne fa bu hs st ln ((rwh bu ln).2) (nI 1)) ⟨hx, hb, hml, hown, hts⟩ (tX6_fails l D cI cQ cL ad N (rfSet cI ad F k r ps sl sd ne fa bu hs st ln ((rwh bu ln).2) (nI 0)) k hk r ps sl sd ne fa bu hs st ln ((rwh bu ln).2) (nI 0) (rfSet_at) (nI 1)) (cwV9 1 hts mcX6_fails (ac20 _ (List.mem_of_getElem? (i := 15) rfl)) miX6_fails meX6_fails mini_RX6 rfl rfl hdX6_fails ⟨Nat.le_of_ble_eq_true rfl, Nat.le_of_ble_eq_true rfl⟩) hDi hK hP hNW hS hk0 rfSet_at.1 rfl rfl hl.1 rfl (Nat.le_of_ble_eq_true rfl) (by decide) (dk kX6_play_ok 8 rfl) rfSet_rfSet (fun H locs hP hS => ?_)
    exact hret _ _ _ _ _ _ _ _ rfl (by exact ⟨rfl, rfl⟩) hP hS (by decide) (by decide) (dk kX6_play_ok 9 rfl)
set_option maxRecDepth 100000 in
set_option maxHeartbeats 4000000 in
theorem tX6_ofCells (l : Launch) (D : va_G) (cI cQ cL : ClassId) (ad : Nat → Nat) (N : Nat) (F : Nat → va_E) (k : Nat) (hk : k + 7 < N) (r ps sl sd ne fa bu : Nat → Int32) (hs : Bool) (st ln pt : Nat) (th : Int32) (hR : rfAt cI ad F k r ps sl sd ne fa bu hs st ln pt th) (x : Int64) : MR l yX6_ofCells (Cond.code yX6_ofCells cX6_ofCells 7 (some .long) :: AW) ({ frames := 2, cells := 0, slots := 0, locals := 46 } : Room) D cI cQ cL ad N F [.ref (ad k), .long x] (.long (foP (fun w9 => decide (hgt r (nI w9) = 0)) (fun w9 k9 => aPile r (nI w9) k9) 4 169 x)) := by
  refine mr_l (by decide +kernel) rfl (Nat.le_of_ble_eq_true rfl) (fun p e s m below meth cd Q ls hx hb hml hown hts hP hK hNW hret hl => ?_)
  have hown : s.vm.findClass RX6 = some m.cls := hown
  have hk0 : k < N := by omega
  have hk1 : k + 1 < N := by omega
  have hk2 : k + 2 < N := by omega
  have hk3 : k + 3 < N := by omega
  have hk4 : k + 4 < N := by omega
  have hk5 : k + 5 < N := by omega
  have hk6 : k + 6 < N := by omega
  have hk7 : k + 7 < N := by omega
  have hl : lv_has ls 7 [(0, .ref (ad k)), (1, .long x)] := hl
  refine lv_lload_n hx hb (dk kX6_ofCells_ok 0 rfl) rfl (lv_at hl 1 rfl) ?_
  refine lv_lstore_n (lv' := [(3, .long x), (0, .ref (ad k)), (1, .long x)]) hx hb (dk kX6_ofCells_ok 1 rfl) rfl hl (by decide) rfl (fun ls hl => ?_)
  refine lv_iconst (v := nI 0) hx hb (dk kX6_ofCells_ok 2 rfl) rfl ?_
  refine lv_istore (lv' := [(5, .int (nI 0)), (3, .long x), (0, .ref (ad k)), (1, .long x)]) hx hb (dk kX6_ofCells_ok 3 rfl) hl (by decide) rfl (fun ls hl => ?_)
  have L5 : ∀ (fu : Nat) (i : Nat) (x3 : Int64), x3 = foP (fun w9 => decide (hgt r (nI w9) = 0)) (fun w9 k9 => aPile r (nI w9) k9) 4 i x → i ≤ 169 → 169 - i < fu → ∀ ls : Array Slot, lv_has ls 7 [(0, .ref (ad k)), (1, .long x), (3, .long x3), (5, .int (nI i))] → W p l e ({ frames := 2, cells := 0, slots := 0, locals := 46 } : Room) s m ([.ref (ad k), .long x] : List Value).toArray below meth cd s.heap [] 0 0 Q (F0 m 5 ls []) := by
    intro fu
    induction fu with
    | zero => intros; omega
    | succ fu ih5 =>
      intro i x3 ex3 hi hme5 ls hl
      subst ex3
      refine lv_iload hx hb (dk kX6_ofCells_ok 4 rfl) (lv_at hl 3 rfl) ?_
      refine lv_sipush (v := nI 169) hx hb (dk kX6_ofCells_ok 5 rfl) rfl ?_
      refine n_icmp_ge (tgt := 59) hx hb (by first | omega | (have q1 := hgt_le r (nI i); omega)) (by decide) (dk kX6_ofCells_ok 6 rfl) (by decide) (fun h1 => ?_) (fun h1 => ?_)
      · skip
        refine lv_lload_n hx hb (dk kX6_ofCells_ok 30 rfl) rfl (lv_at hl 2 rfl) ?_
        exact hret _ _ _ (by rw [show i = 169 by omega]) (dk kX6_ofCells_ok 31 rfl)
      · skip
        refine lv_iconst (v := nI 0) hx hb (dk kX6_ofCells_ok 7 rfl) rfl ?_
        refine lv_istore (lv' := [(6, .int (nI 0)), (0, .ref (ad k)), (1, .long x), (3, .long (foP (fun w9 => decide (hgt r (nI w9) = 0)) (fun w9 k9 => aPile r (nI w9) k9) 4 i x)), (5, .int (nI i))]) hx hb (dk kX6_ofCells_ok 8 rfl) hl (by decide) rfl (fun ls hl => ?_)
        have L16 : ∀ (fu : Nat) (q : Nat) (x3 : Int64), x3 = fo ((fun w9 k9 => aPile r (nI w9) k9) i) q (foP (fun w9 => decide (hgt r (nI w9) = 0)) (fun w9 k9 => aPile r (nI w9) k9) 4 i x) → q ≤ 4 → (hgt r (nI i) = 0 → q = 0) → 4 - q < fu → ∀ ls : Array Slot, lv_has ls 7 [(0, .ref (ad k)), (1, .long x), (3, .long x3), (5, .int (nI i)), (6, .int (nI q))] → W p l e ({ frames := 2, cells := 0, slots := 0, locals := 46 } : Room) s m ([.ref (ad k), .long x] : List Value).toArray below meth cd s.heap [] 0 0 Q (F0 m 16 ls []) := by
          intro fu
          induction fu with
          | zero => intros; omega
          | succ fu ih16 =>
            intro q x3 ex3 hq hq0 hme16 ls hl
            subst ex3
            refine lv_iload hx hb (dk kX6_ofCells_ok 9 rfl) (lv_at hl 4 rfl) ?_
            refine lv_iconst (v := nI 4) hx hb (dk kX6_ofCells_ok 10 rfl) rfl ?_
            refine n_icmp_ge (tgt := 53) hx hb (by first | omega | (have q1 := hgt_le r (nI i); omega)) (by decide) (dk kX6_ofCells_ok 11 rfl) (by decide) (fun h2 => ?_) (fun h2 => ?_)
            · skip
              refine lv_iinc (v := nI (i + 1)) (lv' := [(5, .int (nI (i + 1))), (0, .ref (ad k)), (1, .long x), (3, .long (fo ((fun w9 k9 => aPile r (nI w9) k9) i) q (foP (fun w9 => decide (hgt r (nI w9) = 0)) (fun w9 k9 => aPile r (nI w9) k9) 4 i x))), (6, .int (nI q))]) hx hb (dk kX6_ofCells_ok 28 rfl) hl (k := 3) rfl (n_inc _) (by decide) rfl (fun ls hl => ?_)
              refine lv_goto (tgt := 5) hx hb (dk kX6_ofCells_ok 29 rfl) (by decide) ?_
              exact ih5 (i + 1) _ (by first | (have e4 : q = 4 := (by omega); have e5 : hgt r (nI i) ≠ 0 := (fun e9 => by have e6 := hq0 e9; omega); rw [e4]; exact foP_f (T := (fun w9 => decide (hgt r (nI w9) = 0))) (A := (fun w9 k9 => aPile r (nI w9) k9)) (decide_eq_false e5)) | (have e9 : hgt r (nI i) = 0 := (by omega); have e8 := hq0 e9; subst e8; exact foP_t (T := (fun w9 => decide (hgt r (nI w9) = 0))) (A := (fun w9 k9 => aPile r (nI w9) k9)) (decide_eq_true e9))) (by omega) (by omega) ls (lv_sub hl [1, 2, 3, 0] rfl)
            · skip
              refine lv_aload_n hx hb (dk kX6_ofCells_ok 12 rfl) rfl (lv_at hl 0 rfl) ?_
              refine lv_iload hx hb (dk kX6_ofCells_ok 13 rfl) (lv_at hl 3 rfl) ?_
              refine cvR (As := [.int (nI i)]) (rest := []) ⟨hx, hb, hml, hown, hts⟩ (tX6_lying l D cI cQ cL ad N F k hk r ps sl sd ne fa bu hs st ln pt th hR (nI i)) (cwV9 1 hts mcX6_lying (ac18 _ (List.mem_of_getElem? (i := 10) rfl)) miX6_lying meX6_lying mini_RX6 rfl rfl hdX6_lying ⟨Nat.le_of_ble_eq_true rfl, Nat.le_of_ble_eq_true rfl⟩) hK hP hNW hk0 hR.1 rfl rfl hl.1 rfl (Nat.le_of_ble_eq_true rfl) (by decide) (dk kX6_ofCells_ok 14 rfl) ?_
              refine n_if_le (tgt := 53) hx hb (by first | omega | (have q1 := hgt_le r (nI i); omega)) (dk kX6_ofCells_ok 15 rfl) (by decide) (fun h3 => ?_) (fun h3 => ?_)
              · skip
                refine lv_iinc (v := nI (i + 1)) (lv' := [(5, .int (nI (i + 1))), (0, .ref (ad k)), (1, .long x), (3, .long (fo ((fun w9 k9 => aPile r (nI w9) k9) i) q (foP (fun w9 => decide (hgt r (nI w9) = 0)) (fun w9 k9 => aPile r (nI w9) k9) 4 i x))), (6, .int (nI q))]) hx hb (dk kX6_ofCells_ok 28 rfl) hl (k := 3) rfl (n_inc _) (by decide) rfl (fun ls hl => ?_)
                refine lv_goto (tgt := 5) hx hb (dk kX6_ofCells_ok 29 rfl) (by decide) ?_
                exact ih5 (i + 1) _ (by first | (have e4 : q = 4 := (by omega); have e5 : hgt r (nI i) ≠ 0 := (fun e9 => by have e6 := hq0 e9; omega); rw [e4]; exact foP_f (T := (fun w9 => decide (hgt r (nI w9) = 0))) (A := (fun w9 k9 => aPile r (nI w9) k9)) (decide_eq_false e5)) | (have e9 : hgt r (nI i) = 0 := (by omega); have e8 := hq0 e9; subst e8; exact foP_t (T := (fun w9 => decide (hgt r (nI w9) = 0))) (A := (fun w9 k9 => aPile r (nI w9) k9)) (decide_eq_true e9))) (by omega) (by omega) ls (lv_sub hl [1, 2, 3, 0] rfl)
              · skip
                refine lv_ldc2 (v := (31)) hx hb hown (hts _ (List.mem_cons_of_mem _ (ac25 _ (List.mem_of_getElem? (i := 11) rfl)))) (dk kX6_ofCells_ok 16 rfl) ?_
                refine lv_lload_n hx hb (dk kX6_ofCells_ok 17 rfl) rfl (lv_at hl 2 rfl) ?_
                refine lv_lmul hx hb (dk kX6_ofCells_ok 18 rfl) ?_
                refine lv_aload_n hx hb (dk kX6_ofCells_ok 19 rfl) rfl (lv_at hl 0 rfl) ?_
                refine lv_iload hx hb (dk kX6_ofCells_ok 20 rfl) (lv_at hl 3 rfl) ?_
                refine lv_iload hx hb (dk kX6_ofCells_ok 21 rfl) (lv_at hl 4 rfl) ?_
                refine cvR (As := [.int (nI i), .int (nI q)]) (rest := [.long (31 * (fo ((fun w9 k9 => aPile r (nI w9) k9) i) q (foP (fun w9 => decide (hgt r (nI w9) = 0)) (fun w9 k9 => aPile r (nI w9) k9) 4 i x)))]) ⟨hx, hb, hml, hown, hts⟩ (tX6_ofPile l D cI cQ cL ad N F k hk r ps sl sd ne fa bu hs st ln pt th hR (nI i) (nI q) q rfl (by omega)) (cwV9 2 hts mcX6_ofPile (ac22 _ (List.mem_of_getElem? (i := 22) rfl)) miX6_ofPile meX6_ofPile mini_RX6 rfl rfl hdX6_ofPile ⟨Nat.le_of_ble_eq_true rfl, Nat.le_of_ble_eq_true rfl⟩) hK hP hNW hk0 hR.1 rfl rfl hl.1 rfl (Nat.le_of_ble_eq_true rfl) (by decide) (dk kX6_ofCells_ok 22 rfl) ?_
                refine lv_i2l hx hb (dk kX6_ofCells_ok 23 rfl) rfl ?_
                refine lv_ladd hx hb (dk kX6_ofCells_ok 24 rfl) ?_
                refine lv_lstore_n (lv' := [(3, .long ((31 * (fo ((fun w9 k9 => aPile r (nI w9) k9) i) q (foP (fun w9 => decide (hgt r (nI w9) = 0)) (fun w9 k9 => aPile r (nI w9) k9) 4 i x))) + ((aPile r (nI i) q).toInt64))), (0, .ref (ad k)), (1, .long x), (5, .int (nI i)), (6, .int (nI q))]) hx hb (dk kX6_ofCells_ok 25 rfl) rfl hl (by decide) rfl (fun ls hl => ?_)
                refine lv_iinc (v := nI (q + 1)) (lv' := [(6, .int (nI (q + 1))), (3, .long ((31 * (fo ((fun w9 k9 => aPile r (nI w9) k9) i) q (foP (fun w9 => decide (hgt r (nI w9) = 0)) (fun w9 k9 => aPile r (nI w9) k9) 4 i x))) + ((aPile r (nI i) q).toInt64))), (0, .ref (ad k)), (1, .long x), (5, .int (nI i))]) hx hb (dk kX6_ofCells_ok 26 rfl) hl (k := 4) rfl (n_inc _) (by decide) rfl (fun ls hl => ?_)
                refine lv_goto (tgt := 16) hx hb (dk kX6_ofCells_ok 27 rfl) (by decide) ?_
                exact ih16 (q + 1) _ (by exact fo_s (A := (fun w9 k9 => aPile r (nI w9) k9) i)) (by omega) (by omega) (by omega) ls (lv_sub hl [2, 3, 1, 4, 0] rfl)
        exact L16 _ 0 _ (by first | rfl | omega) (by first | rfl | omega) (by first | rfl | omega) (Nat.lt_succ_self _) ls (lv_sub hl [1, 2, 3, 4, 0] rfl)
  exact L5 _ 0 _ (by first | rfl | omega) (by first | rfl | omega) (Nat.lt_succ_self _) ls (lv_sub hl [2, 3, 1, 0] rfl)
