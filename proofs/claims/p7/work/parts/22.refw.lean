set_option maxRecDepth 100000 in
set_option maxHeartbeats 4000000 in
theorem tX6_fails (l : Launch) (D : va_G) (cI cQ cL : ClassId) (ad : Nat → Nat) (N : Nat) (F : Nat → va_E) (k : Nat) (hk : k + 7 < N) (r ps sl sd ne fa bu : Nat → Int32) (hs : Bool) (st ln pt : Nat) (th : Int32) (hR : rfAt cI ad F k r ps sl sd ne fa bu hs st ln pt th) (x : Int32) : MX l yX6_fails (Cond.code yX6_fails cX6_fails 2 (some .int) :: AW) ({ frames := 0, cells := 0, slots := 0, locals := 0 } : Room) D cI cQ cL ad N F [.ref (ad k), .int x] (dp (some (.int (nI 0))) (rfSet cI ad F k r ps sl sd ne fa bu hs st ln pt x)) 0 0 := by
  refine mx_i (ty := .int) (by decide +kernel) rfl (Nat.le_of_ble_eq_true rfl) (fun p e s m below meth cd Q ls hx hb hml hown hts hDi hP hK hNW hS hret hl => ?_)
  have hown : s.vm.findClass RX6 = some m.cls := hown
  have hk0 : k < N := by omega
  have hk1 : k + 1 < N := by omega
  have hk2 : k + 2 < N := by omega
  have hk3 : k + 3 < N := by omega
  have hk4 : k + 4 < N := by omega
  have hk5 : k + 5 < N := by omega
  have hk6 : k + 6 < N := by omega
  have hk7 : k + 7 < N := by omega
  have hP : va_P D vwCl (iW ad N (rfSet cI ad F k r ps sl sd ne fa bu hs st ln pt th)) s.heap := by rw [rfSet_self hR]; exact hP
  have hl : lv_has ls 2 [(0, .ref (ad k)), (1, .int x)] := hl
  refine lv_aload_n hx hb (dk kX6_fails_ok 0 rfl) rfl (lv_at hl 0 rfl) ?_
  refine lv_iload_n hx hb (dk kX6_fails_ok 1 rfl) rfl (lv_at hl 1 rfl) ?_
  refine pf (rfSet cI ad F k r ps sl sd ne fa bu hs st ln pt x) hx hb hts (fun w h => List.mem_cons_of_mem _ (acX6 w h)) tyX6 tyX6_ok nmX6 hown hK hDi hP hS hk0 rfSet_at.1 rfl 11 (by decide) (hts _ (List.mem_cons_of_mem _ (ac18 _ (List.mem_of_getElem? (i := 4) rfl)))) (fun _ h => h) rfl (ty := .int) rfl rfl rfl (Nat.le_of_ble_eq_true rfl) (dk kX6_fails_ok 2 rfl) rfSet_u0 (fun H locs hP hS => ?_)
  refine lv_iconst (v := nI 0) hx hb (dk kX6_fails_ok 3 rfl) rfl ?_
  exact hret _ _ _ _ _ _ _ _ rfl (by exact ⟨rfl, rfl⟩) hP hS (by decide) (by decide) (dk kX6_fails_ok 4 rfl)
set_option maxRecDepth 100000 in
set_option maxHeartbeats 4000000 in
theorem tX6_lay (l : Launch) (D : va_G) (cI cQ cL : ClassId) (ad : Nat → Nat) (N : Nat) (F : Nat → va_E) (k : Nat) (hk : k + 7 < N) (r ps sl sd ne fa bu : Nat → Int32) (hs : Bool) (st ln pt : Nat) (th : Int32) (hR : rfAt cI ad F k r ps sl sd ne fa bu hs st ln pt th) (x : Int32) (w : Nat) (hxw : x = nI w) (hw : w < 16) (q : Int32) : MX l yX6_lay (Cond.code yX6_lay cX6_lay 3 none :: AW) ({ frames := 1, cells := 0, slots := 0, locals := 23 } : Room) D cI cQ cL ad N F [.ref (ad k), .int x, .int q] (dp none (rfSet cI ad F k (rly r w q) ps sl sd ne fa bu hs st ln pt th)) 0 0 := by
  refine mx_v (by decide +kernel) rfl (Nat.le_of_ble_eq_true rfl) (fun p e s m below meth cd Q ls hx hb hml hown hts hDi hP hK hNW hS hret hl => ?_)
  have hown : s.vm.findClass RX6 = some m.cls := hown
  subst hxw
  have hk0 : k < N := by omega
  have hk1 : k + 1 < N := by omega
  have hk2 : k + 2 < N := by omega
  have hk3 : k + 3 < N := by omega
  have hk4 : k + 4 < N := by omega
  have hk5 : k + 5 < N := by omega
  have hk6 : k + 6 < N := by omega
  have hk7 : k + 7 < N := by omega
  have hP : va_P D vwCl (iW ad N (rfSet cI ad F k r ps sl sd ne fa bu hs st ln pt th)) s.heap := by rw [rfSet_self hR]; exact hP
  have hl : lv_has ls 3 [(0, .ref (ad k)), (1, .int (nI w)), (2, .int q)] := hl
  refine lv_aload_n hx hb (dk kX6_lay_ok 0 rfl) rfl (lv_at hl 0 rfl) ?_
  refine gf hx hb hts (fun w h => List.mem_cons_of_mem _ (acX6 w h)) hown hK hP hk0 rfSet_at.1 rfl 0 (by decide) (hts _ (List.mem_cons_of_mem _ (ac17 _ (List.mem_of_getElem? (i := 17) rfl)))) (fun _ h => h) rfl (dk kX6_lay_ok 1 rfl) ?_
  refine lv_iconst (v := nI 0) hx hb (dk kX6_lay_ok 2 rfl) rfl ?_
  refine lv_iload_n hx hb (dk kX6_lay_ok 3 rfl) rfl (lv_at hl 1 rfl) ?_
  refine n_iadd0 hx hb (dk kX6_lay_ok 4 rfl) ?_
  refine lv_iconst (v := -1) hx hb (dk kX6_lay_ok 5 rfl) rfl ?_
  refine ast (rfSet cI ad F k (upd r w (-1)) ps sl sd ne fa bu hs st ln pt th) (j := w) hx hb hK hDi hP hS hk1 rfSet_at.2.1 rfl (by omega) (by decide) (dk kX6_lay_ok 6 rfl) rfSet_u1 (fun H locs hP hS => ?_)
  refine lv_aload_n hx hb (dk kX6_lay_ok 7 rfl) rfl (lv_at hl 0 rfl) ?_
  refine gf hx hb hts (fun w h => List.mem_cons_of_mem _ (acX6 w h)) hown hK hP hk0 rfSet_at.1 rfl 0 (by decide) (hts _ (List.mem_cons_of_mem _ (ac17 _ (List.mem_of_getElem? (i := 17) rfl)))) (fun _ h => h) rfl (dk kX6_lay_ok 8 rfl) ?_
  refine lv_bipush (v := nI 16) hx hb (dk kX6_lay_ok 9 rfl) rfl ?_
  refine lv_iload_n hx hb (dk kX6_lay_ok 10 rfl) rfl (lv_at hl 1 rfl) ?_
  refine n_iadd hx hb (dk kX6_lay_ok 11 rfl) ?_
  refine lv_iconst (v := -1) hx hb (dk kX6_lay_ok 12 rfl) rfl ?_
  refine ast (rfSet cI ad F k (upd (upd r w (-1)) (16 + w) (-1)) ps sl sd ne fa bu hs st ln pt th) (j := (16 + w)) hx hb hK hDi hP hS hk1 rfSet_at.2.1 rfl (by omega) (by decide) (dk kX6_lay_ok 13 rfl) rfSet_u1 (fun H locs hP hS => ?_)
  refine lv_iload_n hx hb (dk kX6_lay_ok 14 rfl) rfl (lv_at hl 2 rfl) ?_
  refine lv_bipush (v := nI 84) hx hb (dk kX6_lay_ok 15 rfl) rfl ?_
  refine lv_icmp_eq (tgt := 48) hx hb (dk kX6_lay_ok 16 rfl) (by decide) (fun h1 => ?_) (fun h1 => ?_)
  · skip
    exact hret _ _ _ _ _ _ _ (by refine ⟨rfl, ?_⟩; simp only [rly, rly1, (eq_true h1), not_true_eq_false, not_false_eq_true, and_true, true_and, and_false, false_and, or_true, true_or, or_false, false_or, and_self, or_self, if_true, if_false, Bool.false_eq_true, reduceIte]) hP hS (by decide) (by decide) (dk kX6_lay_ok 33 rfl)
  · skip
    refine lv_aload_n hx hb (dk kX6_lay_ok 17 rfl) rfl (lv_at hl 0 rfl) ?_
    refine gf hx hb hts (fun w h => List.mem_cons_of_mem _ (acX6 w h)) hown hK hP hk0 rfSet_at.1 rfl 0 (by decide) (hts _ (List.mem_cons_of_mem _ (ac17 _ (List.mem_of_getElem? (i := 17) rfl)))) (fun _ h => h) rfl (dk kX6_lay_ok 18 rfl) ?_
    refine lv_bipush (v := nI 16) hx hb (dk kX6_lay_ok 19 rfl) rfl ?_
    refine lv_iload_n hx hb (dk kX6_lay_ok 20 rfl) rfl (lv_at hl 1 rfl) ?_
    refine n_iadd hx hb (dk kX6_lay_ok 21 rfl) ?_
    refine lv_aload_n hx hb (dk kX6_lay_ok 22 rfl) rfl (lv_at hl 0 rfl) ?_
    refine lv_iload_n hx hb (dk kX6_lay_ok 23 rfl) rfl (lv_at hl 2 rfl) ?_
    refine cvR (As := [.int q]) (rest := [.int (nI (16 + w)), .ref (ad (k + 1))]) ⟨hx, hb, hml, hown, hts⟩ (tX6_lying l D cI cQ cL ad N (rfSet cI ad F k (upd (upd r w (-1)) (16 + w) (-1)) ps sl sd ne fa bu hs st ln pt th) k hk (upd (upd r w (-1)) (16 + w) (-1)) ps sl sd ne fa bu hs st ln pt th (rfSet_at) q) (cwV9 1 hts mcX6_lying (ac18 _ (List.mem_of_getElem? (i := 10) rfl)) miX6_lying meX6_lying mini_RX6 rfl rfl hdX6_lying ⟨Nat.le_of_ble_eq_true rfl, Nat.le_of_ble_eq_true rfl⟩) hK hP hNW hk0 rfSet_at.1 rfl rfl hl.1 rfl (Nat.le_of_ble_eq_true rfl) (by decide) (dk kX6_lay_ok 24 rfl) ?_
    refine ast (rfSet cI ad F k (upd (upd (upd r w (-1)) (16 + w) (-1)) (16 + w) (nI (hgt (upd (upd r w (-1)) (16 + w) (-1)) q))) ps sl sd ne fa bu hs st ln pt th) (j := (16 + w)) hx hb hK hDi hP hS hk1 rfSet_at.2.1 rfl (by omega) (by decide) (dk kX6_lay_ok 25 rfl) rfSet_u1 (fun H locs hP hS => ?_)
    refine lv_aload_n hx hb (dk kX6_lay_ok 26 rfl) rfl (lv_at hl 0 rfl) ?_
    refine gf hx hb hts (fun w h => List.mem_cons_of_mem _ (acX6 w h)) hown hK hP hk0 rfSet_at.1 rfl 0 (by decide) (hts _ (List.mem_cons_of_mem _ (ac17 _ (List.mem_of_getElem? (i := 17) rfl)))) (fun _ h => h) rfl (dk kX6_lay_ok 27 rfl) ?_
    refine lv_iconst (v := nI 0) hx hb (dk kX6_lay_ok 28 rfl) rfl ?_
    refine lv_iload_n hx hb (dk kX6_lay_ok 29 rfl) rfl (lv_at hl 1 rfl) ?_
    refine n_iadd0 hx hb (dk kX6_lay_ok 30 rfl) ?_
    refine lv_iload_n hx hb (dk kX6_lay_ok 31 rfl) rfl (lv_at hl 2 rfl) ?_
    refine ast (rfSet cI ad F k (upd (upd (upd (upd r w (-1)) (16 + w) (-1)) (16 + w) (nI (hgt (upd (upd r w (-1)) (16 + w) (-1)) q))) w q) ps sl sd ne fa bu hs st ln pt th) (j := w) hx hb hK hDi hP hS hk1 rfSet_at.2.1 rfl (by omega) (by decide) (dk kX6_lay_ok 32 rfl) rfSet_u1 (fun H locs hP hS => ?_)
    exact hret _ _ _ _ _ _ _ (by refine ⟨rfl, ?_⟩; simp only [rly, rly1, (eq_false h1), not_true_eq_false, not_false_eq_true, and_true, true_and, and_false, false_and, or_true, true_or, or_false, false_or, and_self, or_self, if_true, if_false, Bool.false_eq_true, reduceIte]) hP hS (by decide) (by decide) (dk kX6_lay_ok 33 rfl)
set_option maxRecDepth 100000 in
set_option maxHeartbeats 4000000 in
theorem tX6_pass (l : Launch) (D : va_G) (cI cQ cL : ClassId) (ad : Nat → Nat) (N : Nat) (F : Nat → va_E) (k : Nat) (hk : k + 7 < N) (r ps sl sd ne fa bu : Nat → Int32) (hs : Bool) (st ln pt : Nat) (th : Int32) (hR : rfAt cI ad F k r ps sl sd ne fa bu hs st ln pt th) (t : Nat) (ht : t < 4) (hrt : r 56 = nI t) (hlo : lo01 r) : MX l yX6_pass (Cond.code yX6_pass cX6_pass 2 none :: AW) ({ frames := 3, cells := 0, slots := 0, locals := 64 } : Room) D cI cQ cL ad N F [.ref (ad k)] (dp none (rfSet cI ad F k (rpass r t) ps sl sd ne fa bu hs st ln pt th)) 0 0 := by
  refine mx_v (by decide +kernel) rfl (Nat.le_of_ble_eq_true rfl) (fun p e s m below meth cd Q ls hx hb hml hown hts hDi hP hK hNW hS hret hl => ?_)
  have hown : s.vm.findClass RX6 = some m.cls := hown
  have hk0 : k < N := by omega
  have hk1 : k + 1 < N := by omega
  have hk2 : k + 2 < N := by omega
  have hk3 : k + 3 < N := by omega
  have hk4 : k + 4 < N := by omega
  have hk5 : k + 5 < N := by omega
  have hk6 : k + 6 < N := by omega
  have hk7 : k + 7 < N := by omega
  have hP : va_P D vwCl (iW ad N (rfSet cI ad F k r ps sl sd ne fa bu hs st ln pt th)) s.heap := by rw [rfSet_self hR]; exact hP
  have hl : lv_has ls 2 [(0, .ref (ad k))] := hl
  refine lv_aload_n hx hb (dk kX6_pass_ok 0 rfl) rfl (lv_at hl 0 rfl) ?_
  refine cvR (As := []) (rest := []) ⟨hx, hb, hml, hown, hts⟩ (tX6_isOver l D cI cQ cL ad N (rfSet cI ad F k r ps sl sd ne fa bu hs st ln pt th) k hk r ps sl sd ne fa bu hs st ln pt th (rfSet_at)) (cwV9 0 hts mcX6_isOver (ac19 _ (List.mem_of_getElem? (i := 2) rfl)) miX6_isOver meX6_isOver mini_RX6 rfl rfl hdX6_isOver ⟨Nat.le_of_ble_eq_true rfl, Nat.le_of_ble_eq_true rfl⟩) hK hP hNW hk0 rfSet_at.1 rfl rfl hl.1 rfl (Nat.le_of_ble_eq_true rfl) (by decide) (dk kX6_pass_ok 1 rfl) ?_
  refine b_if_eq (tgt := 8) hx hb (dk kX6_pass_ok 2 rfl) (by decide) (fun h1 => ?_) (fun h1 => ?_)
  · skip
    refine lv_iconst (v := nI 1) hx hb (dk kX6_pass_ok 4 rfl) rfl ?_
    refine lv_istore_n (lv' := [(1, .int (nI 1)), (0, .ref (ad k))]) hx hb (dk kX6_pass_ok 5 rfl) rfl hl (by decide) rfl (fun ls hl => ?_)
    have L10 : ∀ (fu : Nat) (i t2 : Nat) (r2 : Nat → Int32) (g : Bool) (x1 : Int32) (H : Heap) (locs : List Loc), va_P D vwCl (iW ad N (rfSet cI ad F k r2 ps sl sd ne fa bu hs st ln pt th)) H → va_S (iA ad N s.heap.size) s.heap H locs → x1 = bI g → i ≤ 5 → t2 < 4 → r2 56 = nI t2 → lo01 r2 → (g = true → rps 8 r t = rps (8 - i) r2 t2 ∧ i + lsu r2 ≤ 4) → (g = false → rps 8 r t = r2) → (if g = true then 1 else 0) + (10 - i) < fu → ∀ ls : Array Slot, lv_has ls 2 [(0, .ref (ad k)), (1, .int x1)] → W p l e ({ frames := 3, cells := 0, slots := 0, locals := 64 } : Room) s m ([.ref (ad k)] : List Value).toArray below meth cd H locs 0 0 Q (F0 m 10 ls []) := by
      intro fu
      induction fu with
      | zero => intros; omega
      | succ fu ih10 =>
        intro i t2 r2 g x1 H locs hP hS ex1 hi ht2 hrt2 hlo2 hg1 hg0 hm10 ls hl
        subst ex1
        refine lv_iload_n hx hb (dk kX6_pass_ok 6 rfl) rfl (lv_at hl 1 rfl) ?_
        refine b_if_eq (tgt := 86) hx hb (dk kX6_pass_ok 7 rfl) (by decide) (fun h2 => ?_) (fun h2 => ?_)
        · skip
          exact hret _ _ _ _ _ _ _ (by refine ⟨rfl, ?_⟩; simp only [rpass, h1, h2, not_true_eq_false, not_false_eq_true, and_true, true_and, and_false, false_and, or_true, true_or, or_false, false_or, and_self, or_self, if_true, if_false, Bool.false_eq_true, reduceIte]; first | done | (rw [hg0 (by assumption)])) hP hS (by decide) (by decide) (dk kX6_pass_ok 52 rfl)
        · skip
          refine lv_aload_n hx hb (dk kX6_pass_ok 8 rfl) rfl (lv_at hl 0 rfl) ?_
          refine gf hx hb hts (fun w h => List.mem_cons_of_mem _ (acX6 w h)) hown hK hP hk0 rfSet_at.1 rfl 0 (by decide) (hts _ (List.mem_cons_of_mem _ (ac17 _ (List.mem_of_getElem? (i := 17) rfl)))) (fun _ h => h) rfl (dk kX6_pass_ok 9 rfl) ?_
          refine lv_bipush (v := nI 56) hx hb (dk kX6_pass_ok 10 rfl) rfl ?_
          refine lv_aload_n hx hb (dk kX6_pass_ok 11 rfl) rfl (lv_at hl 0 rfl) ?_
          refine gf hx hb hts (fun w h => List.mem_cons_of_mem _ (acX6 w h)) hown hK hP hk0 rfSet_at.1 rfl 0 (by decide) (hts _ (List.mem_cons_of_mem _ (ac17 _ (List.mem_of_getElem? (i := 17) rfl)))) (fun _ h => h) rfl (dk kX6_pass_ok 12 rfl) ?_
          refine lv_bipush (v := nI 56) hx hb (dk kX6_pass_ok 13 rfl) rfl ?_
          refine ald (j := 56) hx hb hK hP hk1 rfSet_at.2.1 rfl (by omega) (by decide) (dk kX6_pass_ok 14 rfl) ?_
          rw [show r2 56 = nI t2 from hrt2]
          refine lv_iconst (v := nI 1) hx hb (dk kX6_pass_ok 15 rfl) rfl ?_
          refine n_iadd hx hb (dk kX6_pass_ok 16 rfl) ?_
          refine lv_iconst (v := nI 4) hx hb (dk kX6_pass_ok 17 rfl) rfl ?_
          refine n_irem hx hb (by omega) (by decide) (by decide) (dk kX6_pass_ok 18 rfl) ?_
          refine ast (rfSet cI ad F k (upd r2 56 (nI ((t2 + 1) % 4))) ps sl sd ne fa bu hs st ln pt th) (j := 56) hx hb hK hDi hP hS hk1 rfSet_at.2.1 rfl (by omega) (by decide) (dk kX6_pass_ok 19 rfl) rfSet_u1 (fun H locs hP hS => ?_)
          refine lv_aload_n hx hb (dk kX6_pass_ok 20 rfl) rfl (lv_at hl 0 rfl) ?_
          refine gf hx hb hts (fun w h => List.mem_cons_of_mem _ (acX6 w h)) hown hK hP hk0 rfSet_at.1 rfl 0 (by decide) (hts _ (List.mem_cons_of_mem _ (ac17 _ (List.mem_of_getElem? (i := 17) rfl)))) (fun _ h => h) rfl (dk kX6_pass_ok 21 rfl) ?_
          refine lv_bipush (v := nI 52) hx hb (dk kX6_pass_ok 22 rfl) rfl ?_
          refine lv_aload_n hx hb (dk kX6_pass_ok 23 rfl) rfl (lv_at hl 0 rfl) ?_
          refine gf hx hb hts (fun w h => List.mem_cons_of_mem _ (acX6 w h)) hown hK hP hk0 rfSet_at.1 rfl 0 (by decide) (hts _ (List.mem_cons_of_mem _ (ac17 _ (List.mem_of_getElem? (i := 17) rfl)))) (fun _ h => h) rfl (dk kX6_pass_ok 24 rfl) ?_
          refine lv_bipush (v := nI 56) hx hb (dk kX6_pass_ok 25 rfl) rfl ?_
          refine ald (j := 56) hx hb hK hP hk1 rfSet_at.2.1 rfl (by omega) (by decide) (dk kX6_pass_ok 26 rfl) ?_
          rw [show (upd r2 56 (nI ((t2 + 1) % 4))) 56 = nI ((t2 + 1) % 4) from upd_at9]
          refine n_iadd hx hb (dk kX6_pass_ok 27 rfl) ?_
          refine ald (j := (52 + ((t2 + 1) % 4))) hx hb hK hP hk1 rfSet_at.2.1 rfl (by omega) (by decide) (dk kX6_pass_ok 28 rfl) ?_
          refine lv_if_le (tgt := 54) hx hb (dk kX6_pass_ok 29 rfl) (by decide) (fun h3 => ?_) (fun h3 => ?_)
          · skip
            refine lv_iconst (v := nI 0) hx hb (dk kX6_pass_ok 32 rfl) rfl ?_
            refine lv_istore_n (lv' := [(1, .int (nI 0)), (0, .ref (ad k))]) hx hb (dk kX6_pass_ok 33 rfl) rfl hl (by decide) rfl (fun ls hl => ?_)
            refine lv_aload_n hx hb (dk kX6_pass_ok 34 rfl) rfl (lv_at hl 1 rfl) ?_
            refine gf hx hb hts (fun w h => List.mem_cons_of_mem _ (acX6 w h)) hown hK hP hk0 rfSet_at.1 rfl 0 (by decide) (hts _ (List.mem_cons_of_mem _ (ac17 _ (List.mem_of_getElem? (i := 17) rfl)))) (fun _ h => h) rfl (dk kX6_pass_ok 35 rfl) ?_
            refine lv_bipush (v := nI 52) hx hb (dk kX6_pass_ok 36 rfl) rfl ?_
            refine lv_aload_n hx hb (dk kX6_pass_ok 37 rfl) rfl (lv_at hl 1 rfl) ?_
            refine gf hx hb hts (fun w h => List.mem_cons_of_mem _ (acX6 w h)) hown hK hP hk0 rfSet_at.1 rfl 0 (by decide) (hts _ (List.mem_cons_of_mem _ (ac17 _ (List.mem_of_getElem? (i := 17) rfl)))) (fun _ h => h) rfl (dk kX6_pass_ok 38 rfl) ?_
            refine lv_bipush (v := nI 56) hx hb (dk kX6_pass_ok 39 rfl) rfl ?_
            refine ald (j := 56) hx hb hK hP hk1 rfSet_at.2.1 rfl (by omega) (by decide) (dk kX6_pass_ok 40 rfl) ?_
            rw [show (upd r2 56 (nI ((t2 + 1) % 4))) 56 = nI ((t2 + 1) % 4) from upd_at9]
            refine n_iadd hx hb (dk kX6_pass_ok 41 rfl) ?_
            refine lv_dup2_11 hx hb (dk kX6_pass_ok 42 rfl) rfl rfl ?_
            refine ald (j := (52 + ((t2 + 1) % 4))) hx hb hK hP hk1 rfSet_at.2.1 rfl (by omega) (by decide) (dk kX6_pass_ok 43 rfl) ?_
            refine lv_iload_n hx hb (dk kX6_pass_ok 44 rfl) rfl (lv_at hl 0 rfl) ?_
            refine n_if_eq (tgt := 80) hx hb (by decide) (dk kX6_pass_ok 45 rfl) (by decide) ?_ (fun h9 => absurd h9 (by decide))
            intro _
            refine lv_iconst (v := nI 0) hx hb (dk kX6_pass_ok 48 rfl) rfl ?_
            refine lv_isub hx hb (dk kX6_pass_ok 49 rfl) ?_
            refine ast (rfSet cI ad F k (upd (upd r2 56 (nI ((t2 + 1) % 4))) (52 + ((t2 + 1) % 4)) (((upd r2 56 (nI ((t2 + 1) % 4))) (52 + ((t2 + 1) % 4))) - (nI 0))) ps sl sd ne fa bu hs st ln pt th) (j := (52 + ((t2 + 1) % 4))) hx hb hK hDi hP hS hk1 rfSet_at.2.1 rfl (by omega) (by decide) (dk kX6_pass_ok 50 rfl) rfSet_u1 (fun H locs hP hS => ?_)
            refine lv_goto (tgt := 10) hx hb (dk kX6_pass_ok 51 rfl) (by decide) ?_
            exact ih10 (i + 1) ((t2 + 1) % 4) (upd (upd r2 56 (nI ((t2 + 1) % 4))) (52 + ((t2 + 1) % 4)) (((upd r2 56 (nI ((t2 + 1) % 4))) (52 + ((t2 + 1) % 4))) - (nI 0))) false _ _ _ hP hS (by rfl) (by have h9 := (hg1 h2).2; omega) (by omega) (by rw [upd_ne9 (by omega), upd_at9]) (by first | exact lo01_go (by omega) (lo01_56 hlo2) (by assumption) | exact lo01_end (by omega) (lo01_56 hlo2)) (by first | (intro h9; exact absurd h9 (by decide)) | exact fun _ => rps_go (hg1 h2) hlo2 (by assumption)) (by first | (intro h9; exact absurd h9 (by decide)) | exact fun _ => rps_end (hg1 h2) (by assumption)) (by have h9 := (hg1 h2).2; have h8 := h2; simp only [h8, if_true, Bool.false_eq_true, if_false] at *; omega) ls (lv_sub hl [1, 0] rfl)
          · skip
            refine lv_iconst (v := nI 1) hx hb (dk kX6_pass_ok 30 rfl) rfl ?_
            refine lv_goto (tgt := 55) hx hb (dk kX6_pass_ok 31 rfl) (by decide) ?_
            refine lv_istore_n (lv' := [(1, .int (nI 1)), (0, .ref (ad k))]) hx hb (dk kX6_pass_ok 33 rfl) rfl hl (by decide) rfl (fun ls hl => ?_)
            refine lv_aload_n hx hb (dk kX6_pass_ok 34 rfl) rfl (lv_at hl 1 rfl) ?_
            refine gf hx hb hts (fun w h => List.mem_cons_of_mem _ (acX6 w h)) hown hK hP hk0 rfSet_at.1 rfl 0 (by decide) (hts _ (List.mem_cons_of_mem _ (ac17 _ (List.mem_of_getElem? (i := 17) rfl)))) (fun _ h => h) rfl (dk kX6_pass_ok 35 rfl) ?_
            refine lv_bipush (v := nI 52) hx hb (dk kX6_pass_ok 36 rfl) rfl ?_
            refine lv_aload_n hx hb (dk kX6_pass_ok 37 rfl) rfl (lv_at hl 1 rfl) ?_
            refine gf hx hb hts (fun w h => List.mem_cons_of_mem _ (acX6 w h)) hown hK hP hk0 rfSet_at.1 rfl 0 (by decide) (hts _ (List.mem_cons_of_mem _ (ac17 _ (List.mem_of_getElem? (i := 17) rfl)))) (fun _ h => h) rfl (dk kX6_pass_ok 38 rfl) ?_
            refine lv_bipush (v := nI 56) hx hb (dk kX6_pass_ok 39 rfl) rfl ?_
            refine ald (j := 56) hx hb hK hP hk1 rfSet_at.2.1 rfl (by omega) (by decide) (dk kX6_pass_ok 40 rfl) ?_
            rw [show (upd r2 56 (nI ((t2 + 1) % 4))) 56 = nI ((t2 + 1) % 4) from upd_at9]
            refine n_iadd hx hb (dk kX6_pass_ok 41 rfl) ?_
            refine lv_dup2_11 hx hb (dk kX6_pass_ok 42 rfl) rfl rfl ?_
            refine ald (j := (52 + ((t2 + 1) % 4))) hx hb hK hP hk1 rfSet_at.2.1 rfl (by omega) (by decide) (dk kX6_pass_ok 43 rfl) ?_
            refine lv_iload_n hx hb (dk kX6_pass_ok 44 rfl) rfl (lv_at hl 0 rfl) ?_
            refine n_if_eq (tgt := 80) hx hb (by decide) (dk kX6_pass_ok 45 rfl) (by decide) (fun h9 => absurd h9 (by decide)) ?_
            intro _
            refine lv_iconst (v := nI 1) hx hb (dk kX6_pass_ok 46 rfl) rfl ?_
            refine lv_goto (tgt := 81) hx hb (dk kX6_pass_ok 47 rfl) (by decide) ?_
            refine lv_isub hx hb (dk kX6_pass_ok 49 rfl) ?_
            refine ast (rfSet cI ad F k (upd (upd r2 56 (nI ((t2 + 1) % 4))) (52 + ((t2 + 1) % 4)) (((upd r2 56 (nI ((t2 + 1) % 4))) (52 + ((t2 + 1) % 4))) - (nI 1))) ps sl sd ne fa bu hs st ln pt th) (j := (52 + ((t2 + 1) % 4))) hx hb hK hDi hP hS hk1 rfSet_at.2.1 rfl (by omega) (by decide) (dk kX6_pass_ok 50 rfl) rfSet_u1 (fun H locs hP hS => ?_)
            refine lv_goto (tgt := 10) hx hb (dk kX6_pass_ok 51 rfl) (by decide) ?_
            exact ih10 (i + 1) ((t2 + 1) % 4) (upd (upd r2 56 (nI ((t2 + 1) % 4))) (52 + ((t2 + 1) % 4)) (((upd r2 56 (nI ((t2 + 1) % 4))) (52 + ((t2 + 1) % 4))) - (nI 1))) true _ _ _ hP hS (by rfl) (by have h9 := (hg1 h2).2; omega) (by omega) (by rw [upd_ne9 (by omega), upd_at9]) (by first | exact lo01_go (by omega) (lo01_56 hlo2) (by assumption) | exact lo01_end (by omega) (lo01_56 hlo2)) (by first | (intro h9; exact absurd h9 (by decide)) | exact fun _ => rps_go (hg1 h2) hlo2 (by assumption)) (by first | (intro h9; exact absurd h9 (by decide)) | exact fun _ => rps_end (hg1 h2) (by assumption)) (by have h9 := (hg1 h2).2; have h8 := h2; simp only [h8, if_true, Bool.false_eq_true, if_false] at *; omega) ls (lv_sub hl [1, 0] rfl)
    exact L10 _ 0 t r true _ _ _ hP hS (by rfl) (by omega) (by exact ht) (by exact hrt) (by exact hlo) (by exact fun _ => ⟨rfl, by rw [Nat.zero_add]; exact lsu_le hlo⟩) (by intro h9; exact absurd h9 (by decide)) (Nat.lt_succ_self _) ls (lv_sub hl [1, 0] rfl)
  · skip
    exact hret _ _ _ _ _ _ _ (by refine ⟨rfl, ?_⟩; simp only [rpass, h1, not_true_eq_false, not_false_eq_true, and_true, true_and, and_false, false_and, or_true, true_or, or_false, false_or, and_self, or_self, if_true, if_false, Bool.false_eq_true, reduceIte]; first | done | (rw [hg0 (by assumption)])) hP hS (by decide) (by decide) (dk kX6_pass_ok 3 rfl)
set_option maxRecDepth 100000 in
set_option maxHeartbeats 4000000 in
theorem tX6_flies (l : Launch) (D : va_G) (cI cQ cL : ClassId) (ad : Nat → Nat) (N : Nat) (F : Nat → va_E) (k : Nat) (hk : k + 7 < N) (r ps sl sd ne fa bu : Nat → Int32) (hs : Bool) (st ln pt : Nat) (th : Int32) (hR : rfAt cI ad F k r ps sl sd ne fa bu hs st ln pt th) (x : Int32) (w : Nat) (hxw : x = nI w) (hw : w < 16) (y : Int32) (d : Nat) (hyd : y = nI d) (hd : d < 8) (z : Int32) (f : Nat) (hzf : z = nI f) (hf : f < 2 ^ 30) (hc9 : cell9 (r w)) (hl0 : r (52 + w / 4) = nI 0) (t : Nat) (ht : t < 4) (hrt : r 56 = nI t) (hlo : lo01 r) : MX l yX6_flies (Cond.code yX6_flies cX6_flies 5 (some .int) :: AW) ({ frames := 4, cells := 0, slots := 0, locals := 85 } : Room) D cI cQ cL ad N F [.ref (ad k), .int x, .int y, .int z] (dp (some (.int (fans (ldg (r w) (nI d) (stp w f))))) (rfSet cI ad F k (rfx r w (ldg (r w) (nI d) (stp w f)) t) ps sl sd ne fa bu hs st ln pt th)) 0 0 := by
  refine mx_i (ty := .int) (by decide +kernel) rfl (Nat.le_of_ble_eq_true rfl) (fun p e s m below meth cd Q ls hx hb hml hown hts hDi hP hK hNW hS hret hl => ?_)
  have hown : s.vm.findClass RX6 = some m.cls := hown
  subst hxw
  subst hyd
  subst hzf
  have hst : stp w f < 2 ^ 31 := by unfold stp; split <;> omega
  have hk0 : k < N := by omega
  have hk1 : k + 1 < N := by omega
  have hk2 : k + 2 < N := by omega
  have hk3 : k + 3 < N := by omega
  have hk4 : k + 4 < N := by omega
  have hk5 : k + 5 < N := by omega
  have hk6 : k + 6 < N := by omega
  have hk7 : k + 7 < N := by omega
  have hP : va_P D vwCl (iW ad N (rfSet cI ad F k r ps sl sd ne fa bu hs st ln pt th)) s.heap := by rw [rfSet_self hR]; exact hP
  have hl : lv_has ls 5 [(0, .ref (ad k)), (1, .int (nI w)), (2, .int (nI d)), (3, .int (nI f))] := hl
  refine lv_aload_n hx hb (dk kX6_flies_0_ok 0 rfl) rfl (lv_at hl 0 rfl) ?_
  refine gf hx hb hts (fun w h => List.mem_cons_of_mem _ (acX6 w h)) hown hK hP hk0 rfSet_at.1 rfl 0 (by decide) (hts _ (List.mem_cons_of_mem _ (ac17 _ (List.mem_of_getElem? (i := 17) rfl)))) (fun _ h => h) rfl (dk kX6_flies_0_ok 1 rfl) ?_
  refine lv_iconst (v := nI 0) hx hb (dk kX6_flies_0_ok 2 rfl) rfl ?_
  refine lv_iload_n hx hb (dk kX6_flies_0_ok 3 rfl) rfl (lv_at hl 1 rfl) ?_
  refine n_iadd0 hx hb (dk kX6_flies_0_ok 4 rfl) ?_
  refine ald (j := w) hx hb hK hP hk1 rfSet_at.2.1 rfl (by omega) (by decide) (dk kX6_flies_0_ok 5 rfl) ?_
  refine lv_iload_n hx hb (dk kX6_flies_0_ok 6 rfl) rfl (lv_at hl 2 rfl) ?_
  refine lv_iload_n hx hb (dk kX6_flies_0_ok 7 rfl) rfl (lv_at hl 1 rfl) ?_
  refine lv_iload_n hx hb (dk kX6_flies_0_ok 8 rfl) rfl (lv_at hl 3 rfl) ?_
  refine csP (As := [.int (nI w), .int (nI f)]) (rest := [.int (nI d), .int (r w)]) ⟨hx, hb, hml, hown, hts⟩ (tX6_steps l (nI w) w rfl (by omega) (nI f) f rfl (by omega)) (cwS9 2 hts mcX6_steps (ac19 _ (List.mem_of_getElem? (i := 15) rfl)) msX6_steps mini_RX6 rfl rfl hdX6_steps ⟨Nat.le_of_ble_eq_true rfl, Nat.le_of_ble_eq_true rfl⟩) rfl hl.1 rfl (Nat.le_of_ble_eq_true rfl) (by decide) (dk kX6_flies_0_ok 9 rfl) ?_
  refine csP (As := [.int (r w), .int (nI d), .int (nI (stp w f))]) (rest := []) ⟨hx, hb, hml, hown, hts⟩ (tX6_leads l (r w) hc9 (nI d) d rfl (by omega) (nI (stp w f)) (stp w f) rfl (by omega)) (cwS9 3 hts mcX6_leads (ac19 _ (List.mem_of_getElem? (i := 18) rfl)) msX6_leads mini_RX6 rfl rfl hdX6_leads ⟨Nat.le_of_ble_eq_true rfl, Nat.le_of_ble_eq_true rfl⟩) rfl hl.1 rfl (Nat.le_of_ble_eq_true rfl) (by decide) (dk kX6_flies_0_ok 10 rfl) ?_
  refine lv_istore (lv' := [(4, .int (ldg (r w) (nI d) (stp w f))), (0, .ref (ad k)), (1, .int (nI w)), (2, .int (nI d)), (3, .int (nI f))]) hx hb (dk kX6_flies_0_ok 11 rfl) hl (by decide) rfl (fun ls hl => ?_)
  refine lv_aload_n hx hb (dk kX6_flies_0_ok 12 rfl) rfl (lv_at hl 1 rfl) ?_
  refine gf hx hb hts (fun w h => List.mem_cons_of_mem _ (acX6 w h)) hown hK hP hk0 rfSet_at.1 rfl 0 (by decide) (hts _ (List.mem_cons_of_mem _ (ac17 _ (List.mem_of_getElem? (i := 17) rfl)))) (fun _ h => h) rfl (dk kX6_flies_0_ok 13 rfl) ?_
  refine lv_bipush (v := nI 32) hx hb (dk kX6_flies_0_ok 14 rfl) rfl ?_
  refine lv_iload_n hx hb (dk kX6_flies_0_ok 15 rfl) rfl (lv_at hl 2 rfl) ?_
  refine n_iadd hx hb (dk kX6_flies_0_ok 16 rfl) ?_
  refine lv_dup2_11 hx hb (dk kX6_flies_0_ok 17 rfl) rfl rfl ?_
  refine ald (j := (32 + w)) hx hb hK hP hk1 rfSet_at.2.1 rfl (by omega) (by decide) (dk kX6_flies_0_ok 18 rfl) ?_
  refine lv_iconst (v := nI 1) hx hb (dk kX6_flies_0_ok 19 rfl) rfl ?_
  refine lv_iadd hx hb (dk kX6_flies_0_ok 20 rfl) ?_
  refine ast (rfSet cI ad F k (upd r (32 + w) ((r (32 + w)) + (nI 1))) ps sl sd ne fa bu hs st ln pt th) (j := (32 + w)) hx hb hK hDi hP hS hk1 rfSet_at.2.1 rfl (by omega) (by decide) (dk kX6_flies_0_ok 21 rfl) rfSet_u1 (fun H locs hP hS => ?_)
  refine lv_aload_n hx hb (dk kX6_flies_0_ok 22 rfl) rfl (lv_at hl 1 rfl) ?_
  refine gf hx hb hts (fun w h => List.mem_cons_of_mem _ (acX6 w h)) hown hK hP hk0 rfSet_at.1 rfl 0 (by decide) (hts _ (List.mem_cons_of_mem _ (ac17 _ (List.mem_of_getElem? (i := 17) rfl)))) (fun _ h => h) rfl (dk kX6_flies_0_ok 23 rfl) ?_
  refine lv_bipush (v := nI 58) hx hb (dk kX6_flies_0_ok 24 rfl) rfl ?_
  refine lv_dup2_11 hx hb (dk kX6_flies_0_ok 25 rfl) rfl rfl ?_
  refine ald (j := 58) hx hb hK hP hk1 rfSet_at.2.1 rfl (by omega) (by decide) (dk kX6_flies_0_ok 26 rfl) ?_
  refine lv_iconst (v := nI 1) hx hb (dk kX6_flies_0_ok 27 rfl) rfl ?_
  refine lv_iadd hx hb (dk kX6_flies_0_ok 28 rfl) ?_
  refine ast (rfSet cI ad F k (upd (upd r (32 + w) ((r (32 + w)) + (nI 1))) 58 (((upd r (32 + w) ((r (32 + w)) + (nI 1))) 58) + (nI 1))) ps sl sd ne fa bu hs st ln pt th) (j := 58) hx hb hK hDi hP hS hk1 rfSet_at.2.1 rfl (by omega) (by decide) (dk kX6_flies_0_ok 29 rfl) rfSet_u1 (fun H locs hP hS => ?_)
  refine lv_iload hx hb (dk kX6_flies_0_ok 30 rfl) (lv_at hl 0 rfl) ?_
  refine lv_iconst (v := -1) hx hb (dk kX6_flies_0_ok 31 rfl) rfl ?_
  refine lv_icmp_ne (tgt := 93) hx hb (dk kX6_flies_0_ok 32 rfl) (by decide) (fun h1 => ?_) (fun h1 => ?_)
  · skip
    refine lv_aload_n hx hb (dk kX6_flies_1_ok 5 rfl) rfl (lv_at hl 1 rfl) ?_
    refine lv_iload_n hx hb (dk kX6_flies_1_ok 6 rfl) rfl (lv_at hl 2 rfl) ?_
    refine lv_iload hx hb (dk kX6_flies_1_ok 7 rfl) (lv_at hl 0 rfl) ?_
    refine cvDv (As := [.int (nI w), .int (ldg (r w) (nI d) (stp w f))]) (rest := []) (rfSet cI ad F k (rly (upd (upd r (32 + w) ((r (32 + w)) + (nI 1))) 58 (((upd r (32 + w) ((r (32 + w)) + (nI 1))) 58) + (nI 1))) w (ldg (r w) (nI d) (stp w f))) ps sl sd ne fa bu hs st ln pt th) ⟨hx, hb, hml, hown, hts⟩ (tX6_lay l D cI cQ cL ad N (rfSet cI ad F k (upd (upd r (32 + w) ((r (32 + w)) + (nI 1))) 58 (((upd r (32 + w) ((r (32 + w)) + (nI 1))) 58) + (nI 1))) ps sl sd ne fa bu hs st ln pt th) k hk (upd (upd r (32 + w) ((r (32 + w)) + (nI 1))) 58 (((upd r (32 + w) ((r (32 + w)) + (nI 1))) 58) + (nI 1))) ps sl sd ne fa bu hs st ln pt th (rfSet_at) (nI w) w rfl (by omega) (ldg (r w) (nI d) (stp w f))) (cwV9 2 hts mcX6_lay (ac19 _ (List.mem_of_getElem? (i := 21) rfl)) miX6_lay meX6_lay mini_RX6 rfl rfl hdX6_lay ⟨Nat.le_of_ble_eq_true rfl, Nat.le_of_ble_eq_true rfl⟩) hDi hK hP hNW hS hk0 rfSet_at.1 rfl rfl hl.1 rfl (Nat.le_of_ble_eq_true rfl) (by decide) (dk kX6_flies_1_ok 8 rfl) rfSet_rfSet (fun H locs hP hS => ?_)
    refine lv_iload hx hb (dk kX6_flies_1_ok 9 rfl) (lv_at hl 0 rfl) ?_
    refine lv_bipush (v := nI 84) hx hb (dk kX6_flies_1_ok 10 rfl) rfl ?_
    refine lv_icmp_eq (tgt := 111) hx hb (dk kX6_flies_1_ok 11 rfl) (by decide) (fun h2 => ?_) (fun h2 => ?_)
    · skip
      refine lv_iload hx hb (dk kX6_flies_1_ok 14 rfl) (lv_at hl 0 rfl) ?_
      refine csP (As := [.int (ldg (r w) (nI d) (stp w f))]) (rest := []) ⟨hx, hb, hml, hown, hts⟩ (tX6_told l (ldg (r w) (nI d) (stp w f))) (cwS9 1 hts mcX6_told (ac20 _ (List.mem_of_getElem? (i := 5) rfl)) msX6_told mini_RX6 rfl rfl hdX6_told ⟨Nat.le_of_ble_eq_true rfl, Nat.le_of_ble_eq_true rfl⟩) rfl hl.1 rfl (Nat.le_of_ble_eq_true rfl) (by decide) (dk kX6_flies_1_ok 15 rfl) ?_
      exact hret _ _ _ _ _ _ _ _ rfl (by first | exact absurd ((‹_ = (-1 : Int32)›).symm.trans ‹_ = nI 84›) (by decide) | skip; simp (config := { decide := true }) only [dp, rfx, (eq_false h1), (eq_true h2), not_true_eq_false, not_false_eq_true, and_true, true_and, and_false, false_and, or_true, true_or, or_false, false_or, and_self, or_self, if_true, if_false, Bool.false_eq_true, reduceIte]; first | done | (simp_all [rfx, rf1, rf0]; done) | exact ⟨rfl, rfl⟩) hP hS (by decide) (by decide) (dk kX6_flies_1_ok 16 rfl)
    · skip
      refine lv_aload_n hx hb (dk kX6_flies_1_ok 12 rfl) rfl (lv_at hl 1 rfl) ?_
      refine cvDv (As := []) (rest := []) (rfSet cI ad F k (rpass (rly (upd (upd r (32 + w) ((r (32 + w)) + (nI 1))) 58 (((upd r (32 + w) ((r (32 + w)) + (nI 1))) 58) + (nI 1))) w (ldg (r w) (nI d) (stp w f))) t) ps sl sd ne fa bu hs st ln pt th) ⟨hx, hb, hml, hown, hts⟩ (tX6_pass l D cI cQ cL ad N (rfSet cI ad F k (rly (upd (upd r (32 + w) ((r (32 + w)) + (nI 1))) 58 (((upd r (32 + w) ((r (32 + w)) + (nI 1))) 58) + (nI 1))) w (ldg (r w) (nI d) (stp w f))) ps sl sd ne fa bu hs st ln pt th) k hk (rly (upd (upd r (32 + w) ((r (32 + w)) + (nI 1))) 58 (((upd r (32 + w) ((r (32 + w)) + (nI 1))) 58) + (nI 1))) w (ldg (r w) (nI d) (stp w f))) ps sl sd ne fa bu hs st ln pt th (rfSet_at) t ht ((rly0_out hw (by decide) (by decide)).trans hrt) (rly0_lo hw hlo)) (cwV9 0 hts mcX6_pass (ac20 _ (List.mem_of_getElem? (i := 1) rfl)) miX6_pass meX6_pass mini_RX6 rfl rfl hdX6_pass ⟨Nat.le_of_ble_eq_true rfl, Nat.le_of_ble_eq_true rfl⟩) hDi hK hP hNW hS hk0 rfSet_at.1 rfl rfl hl.1 rfl (Nat.le_of_ble_eq_true rfl) (by decide) (dk kX6_flies_1_ok 13 rfl) rfSet_rfSet (fun H locs hP hS => ?_)
      refine lv_iload hx hb (dk kX6_flies_1_ok 14 rfl) (lv_at hl 0 rfl) ?_
      refine csP (As := [.int (ldg (r w) (nI d) (stp w f))]) (rest := []) ⟨hx, hb, hml, hown, hts⟩ (tX6_told l (ldg (r w) (nI d) (stp w f))) (cwS9 1 hts mcX6_told (ac20 _ (List.mem_of_getElem? (i := 5) rfl)) msX6_told mini_RX6 rfl rfl hdX6_told ⟨Nat.le_of_ble_eq_true rfl, Nat.le_of_ble_eq_true rfl⟩) rfl hl.1 rfl (Nat.le_of_ble_eq_true rfl) (by decide) (dk kX6_flies_1_ok 15 rfl) ?_
      exact hret _ _ _ _ _ _ _ _ rfl (by first | exact absurd ((‹_ = (-1 : Int32)›).symm.trans ‹_ = nI 84›) (by decide) | skip; simp (config := { decide := true }) only [dp, rfx, (eq_false h1), (eq_false h2), not_true_eq_false, not_false_eq_true, and_true, true_and, and_false, false_and, or_true, true_or, or_false, false_or, and_self, or_self, if_true, if_false, Bool.false_eq_true, reduceIte]; first | done | (simp_all [rfx, rf1, rf0]; done) | exact ⟨rfl, rfl⟩) hP hS (by decide) (by decide) (dk kX6_flies_1_ok 16 rfl)
  · skip
    refine lv_aload_n hx hb (dk kX6_flies_0_ok 33 rfl) rfl (lv_at hl 1 rfl) ?_
    refine lv_iload_n hx hb (dk kX6_flies_0_ok 34 rfl) rfl (lv_at hl 2 rfl) ?_
    refine lv_iload_n hx hb (dk kX6_flies_0_ok 35 rfl) rfl (lv_at hl 2 rfl) ?_
    refine lv_iconst (v := nI 4) hx hb (dk kX6_flies_0_ok 36 rfl) rfl ?_
    refine n_idiv hx hb (by omega) (by decide) (by decide) (dk kX6_flies_0_ok 37 rfl) ?_
    refine csP (As := [.int (nI (w / 4))]) (rest := [.int (nI w), .ref (ad k)]) ⟨hx, hb, hml, hown, hts⟩ (tX6_base l (nI (w / 4)) (w / 4) rfl (by omega)) (cwS9 1 hts mcX6_base (ac18 _ (List.mem_of_getElem? (i := 0) rfl)) msX6_base mini_RX6 rfl rfl hdX6_base ⟨Nat.le_of_ble_eq_true rfl, Nat.le_of_ble_eq_true rfl⟩) rfl hl.1 rfl (Nat.le_of_ble_eq_true rfl) (by decide) (dk kX6_flies_0_ok 38 rfl) ?_
    refine cvDv (As := [.int (nI w), .int (nI (bs (w / 4)))]) (rest := []) (rfSet cI ad F k (rly (upd (upd r (32 + w) ((r (32 + w)) + (nI 1))) 58 (((upd r (32 + w) ((r (32 + w)) + (nI 1))) 58) + (nI 1))) w (nI (bs (w / 4)))) ps sl sd ne fa bu hs st ln pt th) ⟨hx, hb, hml, hown, hts⟩ (tX6_lay l D cI cQ cL ad N (rfSet cI ad F k (upd (upd r (32 + w) ((r (32 + w)) + (nI 1))) 58 (((upd r (32 + w) ((r (32 + w)) + (nI 1))) 58) + (nI 1))) ps sl sd ne fa bu hs st ln pt th) k hk (upd (upd r (32 + w) ((r (32 + w)) + (nI 1))) 58 (((upd r (32 + w) ((r (32 + w)) + (nI 1))) 58) + (nI 1))) ps sl sd ne fa bu hs st ln pt th (rfSet_at) (nI w) w rfl (by omega) (nI (bs (w / 4)))) (cwV9 2 hts mcX6_lay (ac19 _ (List.mem_of_getElem? (i := 21) rfl)) miX6_lay meX6_lay mini_RX6 rfl rfl hdX6_lay ⟨Nat.le_of_ble_eq_true rfl, Nat.le_of_ble_eq_true rfl⟩) hDi hK hP hNW hS hk0 rfSet_at.1 rfl rfl hl.1 rfl (Nat.le_of_ble_eq_true rfl) (by decide) (dk kX6_flies_0_ok 39 rfl) rfSet_rfSet (fun H locs hP hS => ?_)
    refine lv_aload_n hx hb (dk kX6_flies_0_ok 40 rfl) rfl (lv_at hl 1 rfl) ?_
    refine gf hx hb hts (fun w h => List.mem_cons_of_mem _ (acX6 w h)) hown hK hP hk0 rfSet_at.1 rfl 0 (by decide) (hts _ (List.mem_cons_of_mem _ (ac17 _ (List.mem_of_getElem? (i := 17) rfl)))) (fun _ h => h) rfl (dk kX6_flies_0_ok 41 rfl) ?_
    refine lv_bipush (v := nI 48) hx hb (dk kX6_flies_0_ok 42 rfl) rfl ?_
    refine lv_iload_n hx hb (dk kX6_flies_0_ok 43 rfl) rfl (lv_at hl 2 rfl) ?_
    refine lv_iconst (v := nI 4) hx hb (dk kX6_flies_0_ok 44 rfl) rfl ?_
    refine n_idiv hx hb (by omega) (by decide) (by decide) (dk kX6_flies_0_ok 45 rfl) ?_
    refine n_iadd hx hb (dk kX6_flies_0_ok 46 rfl) ?_
    refine lv_dup2_11 hx hb (dk kX6_flies_0_ok 47 rfl) rfl rfl ?_
    refine ald (j := (48 + (w / 4))) hx hb hK hP hk1 rfSet_at.2.1 rfl (by omega) (by decide) (dk kX6_flies_0_ok 48 rfl) ?_
    refine lv_iconst (v := nI 1) hx hb (dk kX6_flies_0_ok 49 rfl) rfl ?_
    refine lv_iadd hx hb (dk kX6_flies_0_ok 50 rfl) ?_
    refine ast (rfSet cI ad F k (upd (rly (upd (upd r (32 + w) ((r (32 + w)) + (nI 1))) 58 (((upd r (32 + w) ((r (32 + w)) + (nI 1))) 58) + (nI 1))) w (nI (bs (w / 4)))) (48 + (w / 4)) (((rly (upd (upd r (32 + w) ((r (32 + w)) + (nI 1))) 58 (((upd r (32 + w) ((r (32 + w)) + (nI 1))) 58) + (nI 1))) w (nI (bs (w / 4)))) (48 + (w / 4))) + (nI 1))) ps sl sd ne fa bu hs st ln pt th) (j := (48 + (w / 4))) hx hb hK hDi hP hS hk1 rfSet_at.2.1 rfl (by omega) (by decide) (dk kX6_flies_0_ok 51 rfl) rfSet_u1 (fun H locs hP hS => ?_)
    refine lv_aload_n hx hb (dk kX6_flies_0_ok 52 rfl) rfl (lv_at hl 1 rfl) ?_
    refine gf hx hb hts (fun w h => List.mem_cons_of_mem _ (acX6 w h)) hown hK hP hk0 rfSet_at.1 rfl 0 (by decide) (hts _ (List.mem_cons_of_mem _ (ac17 _ (List.mem_of_getElem? (i := 17) rfl)))) (fun _ h => h) rfl (dk kX6_flies_0_ok 53 rfl) ?_
    refine lv_bipush (v := nI 52) hx hb (dk kX6_flies_0_ok 54 rfl) rfl ?_
    refine lv_iload_n hx hb (dk kX6_flies_0_ok 55 rfl) rfl (lv_at hl 2 rfl) ?_
    refine lv_iconst (v := nI 4) hx hb (dk kX6_flies_0_ok 56 rfl) rfl ?_
    refine n_idiv hx hb (by omega) (by decide) (by decide) (dk kX6_flies_0_ok 57 rfl) ?_
    refine n_iadd hx hb (dk kX6_flies_0_ok 58 rfl) ?_
    refine lv_dup2_11 hx hb (dk kX6_flies_0_ok 59 rfl) rfl rfl ?_
    refine ald (j := (52 + (w / 4))) hx hb hK hP hk1 rfSet_at.2.1 rfl (by omega) (by decide) (dk kX6_flies_1_ok 0 rfl) ?_
    refine lv_iconst (v := nI 1) hx hb (dk kX6_flies_1_ok 1 rfl) rfl ?_
    refine lv_iadd hx hb (dk kX6_flies_1_ok 2 rfl) ?_
    refine ast (rfSet cI ad F k (upd (upd (rly (upd (upd r (32 + w) ((r (32 + w)) + (nI 1))) 58 (((upd r (32 + w) ((r (32 + w)) + (nI 1))) 58) + (nI 1))) w (nI (bs (w / 4)))) (48 + (w / 4)) (((rly (upd (upd r (32 + w) ((r (32 + w)) + (nI 1))) 58 (((upd r (32 + w) ((r (32 + w)) + (nI 1))) 58) + (nI 1))) w (nI (bs (w / 4)))) (48 + (w / 4))) + (nI 1))) (52 + (w / 4)) (((upd (rly (upd (upd r (32 + w) ((r (32 + w)) + (nI 1))) 58 (((upd r (32 + w) ((r (32 + w)) + (nI 1))) 58) + (nI 1))) w (nI (bs (w / 4)))) (48 + (w / 4)) (((rly (upd (upd r (32 + w) ((r (32 + w)) + (nI 1))) 58 (((upd r (32 + w) ((r (32 + w)) + (nI 1))) 58) + (nI 1))) w (nI (bs (w / 4)))) (48 + (w / 4))) + (nI 1))) (52 + (w / 4))) + (nI 1))) ps sl sd ne fa bu hs st ln pt th) (j := (52 + (w / 4))) hx hb hK hDi hP hS hk1 rfSet_at.2.1 rfl (by omega) (by decide) (dk kX6_flies_1_ok 3 rfl) rfSet_u1 (fun H locs hP hS => ?_)
    refine lv_goto (tgt := 100) hx hb (dk kX6_flies_1_ok 4 rfl) (by decide) ?_
    refine lv_iload hx hb (dk kX6_flies_1_ok 9 rfl) (lv_at hl 0 rfl) ?_
    refine lv_bipush (v := nI 84) hx hb (dk kX6_flies_1_ok 10 rfl) rfl ?_
    refine lv_icmp_eq (tgt := 111) hx hb (dk kX6_flies_1_ok 11 rfl) (by decide) (fun h3 => ?_) (fun h3 => ?_)
    · skip
      refine lv_iload hx hb (dk kX6_flies_1_ok 14 rfl) (lv_at hl 0 rfl) ?_
      refine csP (As := [.int (ldg (r w) (nI d) (stp w f))]) (rest := []) ⟨hx, hb, hml, hown, hts⟩ (tX6_told l (ldg (r w) (nI d) (stp w f))) (cwS9 1 hts mcX6_told (ac20 _ (List.mem_of_getElem? (i := 5) rfl)) msX6_told mini_RX6 rfl rfl hdX6_told ⟨Nat.le_of_ble_eq_true rfl, Nat.le_of_ble_eq_true rfl⟩) rfl hl.1 rfl (Nat.le_of_ble_eq_true rfl) (by decide) (dk kX6_flies_1_ok 15 rfl) ?_
      exact hret _ _ _ _ _ _ _ _ rfl (by first | exact absurd ((‹_ = (-1 : Int32)›).symm.trans ‹_ = nI 84›) (by decide) | skip; simp (config := { decide := true }) only [dp, rfx, (eq_true h1), (eq_true h3), not_true_eq_false, not_false_eq_true, and_true, true_and, and_false, false_and, or_true, true_or, or_false, false_or, and_self, or_self, if_true, if_false, Bool.false_eq_true, reduceIte]; first | done | (simp_all [rfx, rf1, rf0]; done) | exact ⟨rfl, rfl⟩) hP hS (by decide) (by decide) (dk kX6_flies_1_ok 16 rfl)
    · skip
      refine lv_aload_n hx hb (dk kX6_flies_1_ok 12 rfl) rfl (lv_at hl 1 rfl) ?_
      refine cvDv (As := []) (rest := []) (rfSet cI ad F k (rpass (upd (upd (rly (upd (upd r (32 + w) ((r (32 + w)) + (nI 1))) 58 (((upd r (32 + w) ((r (32 + w)) + (nI 1))) 58) + (nI 1))) w (nI (bs (w / 4)))) (48 + (w / 4)) (((rly (upd (upd r (32 + w) ((r (32 + w)) + (nI 1))) 58 (((upd r (32 + w) ((r (32 + w)) + (nI 1))) 58) + (nI 1))) w (nI (bs (w / 4)))) (48 + (w / 4))) + (nI 1))) (52 + (w / 4)) (((upd (rly (upd (upd r (32 + w) ((r (32 + w)) + (nI 1))) 58 (((upd r (32 + w) ((r (32 + w)) + (nI 1))) 58) + (nI 1))) w (nI (bs (w / 4)))) (48 + (w / 4)) (((rly (upd (upd r (32 + w) ((r (32 + w)) + (nI 1))) 58 (((upd r (32 + w) ((r (32 + w)) + (nI 1))) 58) + (nI 1))) w (nI (bs (w / 4)))) (48 + (w / 4))) + (nI 1))) (52 + (w / 4))) + (nI 1))) t) ps sl sd ne fa bu hs st ln pt th) ⟨hx, hb, hml, hown, hts⟩ (tX6_pass l D cI cQ cL ad N (rfSet cI ad F k (upd (upd (rly (upd (upd r (32 + w) ((r (32 + w)) + (nI 1))) 58 (((upd r (32 + w) ((r (32 + w)) + (nI 1))) 58) + (nI 1))) w (nI (bs (w / 4)))) (48 + (w / 4)) (((rly (upd (upd r (32 + w) ((r (32 + w)) + (nI 1))) 58 (((upd r (32 + w) ((r (32 + w)) + (nI 1))) 58) + (nI 1))) w (nI (bs (w / 4)))) (48 + (w / 4))) + (nI 1))) (52 + (w / 4)) (((upd (rly (upd (upd r (32 + w) ((r (32 + w)) + (nI 1))) 58 (((upd r (32 + w) ((r (32 + w)) + (nI 1))) 58) + (nI 1))) w (nI (bs (w / 4)))) (48 + (w / 4)) (((rly (upd (upd r (32 + w) ((r (32 + w)) + (nI 1))) 58 (((upd r (32 + w) ((r (32 + w)) + (nI 1))) 58) + (nI 1))) w (nI (bs (w / 4)))) (48 + (w / 4))) + (nI 1))) (52 + (w / 4))) + (nI 1))) ps sl sd ne fa bu hs st ln pt th) k hk (upd (upd (rly (upd (upd r (32 + w) ((r (32 + w)) + (nI 1))) 58 (((upd r (32 + w) ((r (32 + w)) + (nI 1))) 58) + (nI 1))) w (nI (bs (w / 4)))) (48 + (w / 4)) (((rly (upd (upd r (32 + w) ((r (32 + w)) + (nI 1))) 58 (((upd r (32 + w) ((r (32 + w)) + (nI 1))) 58) + (nI 1))) w (nI (bs (w / 4)))) (48 + (w / 4))) + (nI 1))) (52 + (w / 4)) (((upd (rly (upd (upd r (32 + w) ((r (32 + w)) + (nI 1))) 58 (((upd r (32 + w) ((r (32 + w)) + (nI 1))) 58) + (nI 1))) w (nI (bs (w / 4)))) (48 + (w / 4)) (((rly (upd (upd r (32 + w) ((r (32 + w)) + (nI 1))) 58 (((upd r (32 + w) ((r (32 + w)) + (nI 1))) 58) + (nI 1))) w (nI (bs (w / 4)))) (48 + (w / 4))) + (nI 1))) (52 + (w / 4))) + (nI 1))) ps sl sd ne fa bu hs st ln pt th (rfSet_at) t ht ((rf1_56 hw).trans hrt) (rf1_lo hw hlo hl0)) (cwV9 0 hts mcX6_pass (ac20 _ (List.mem_of_getElem? (i := 1) rfl)) miX6_pass meX6_pass mini_RX6 rfl rfl hdX6_pass ⟨Nat.le_of_ble_eq_true rfl, Nat.le_of_ble_eq_true rfl⟩) hDi hK hP hNW hS hk0 rfSet_at.1 rfl rfl hl.1 rfl (Nat.le_of_ble_eq_true rfl) (by decide) (dk kX6_flies_1_ok 13 rfl) rfSet_rfSet (fun H locs hP hS => ?_)
      refine lv_iload hx hb (dk kX6_flies_1_ok 14 rfl) (lv_at hl 0 rfl) ?_
      refine csP (As := [.int (ldg (r w) (nI d) (stp w f))]) (rest := []) ⟨hx, hb, hml, hown, hts⟩ (tX6_told l (ldg (r w) (nI d) (stp w f))) (cwS9 1 hts mcX6_told (ac20 _ (List.mem_of_getElem? (i := 5) rfl)) msX6_told mini_RX6 rfl rfl hdX6_told ⟨Nat.le_of_ble_eq_true rfl, Nat.le_of_ble_eq_true rfl⟩) rfl hl.1 rfl (Nat.le_of_ble_eq_true rfl) (by decide) (dk kX6_flies_1_ok 15 rfl) ?_
      exact hret _ _ _ _ _ _ _ _ rfl (by first | exact absurd ((‹_ = (-1 : Int32)›).symm.trans ‹_ = nI 84›) (by decide) | skip; simp (config := { decide := true }) only [dp, rfx, (eq_true h1), (eq_false h3), not_true_eq_false, not_false_eq_true, and_true, true_and, and_false, false_and, or_true, true_or, or_false, false_or, and_self, or_self, if_true, if_false, Bool.false_eq_true, reduceIte]; first | done | (simp_all [rfx, rf1, rf0]; done) | exact ⟨rfl, rfl⟩) hP hS (by decide) (by decide) (dk kX6_flies_1_ok 16 rfl)
set_option maxRecDepth 100000 in
set_option maxHeartbeats 4000000 in
theorem tX6_lifts (l : Launch) (D : va_G) (cI cQ cL : ClassId) (ad : Nat → Nat) (N : Nat) (F : Nat → va_E) (k : Nat) (hk : k + 7 < N) (r ps sl sd ne fa bu : Nat → Int32) (hs : Bool) (st ln pt : Nat) (th : Int32) (hR : rfAt cI ad F k r ps sl sd ne fa bu hs st ln pt th) (x : Int32) (q : Nat) (hxq : x = nI q) (hq : q < 169) (y : Int32) (n : Nat) (hyn : y = nI n) (hn : 1 ≤ n ∧ n < 2 ^ 31) (z : Int32) (d : Nat) (hzd : z = nI d) (hd : d < 8) (hnl : n ≤ hgt r (nI q)) (hwl : rlW r q n d) (t : Nat) (ht : t < 4) (hrt : r 56 = nI t) (hlo : lo01 r) : MX l yX6_lifts (Cond.code yX6_lifts cX6_lifts 6 (some .int) :: AW) ({ frames := 4, cells := 0, slots := 0, locals := 85 } : Room) D cI cQ cL ad N F [.ref (ad k), .int x, .int y, .int z] (dp (some (.int (nI (hgt r (nI q) - n)))) (rfSet cI ad F k (rlx r q n d t) ps sl sd ne fa bu hs st ln pt th)) 0 0 := by
  refine mx_i (ty := .int) (by decide +kernel) rfl (Nat.le_of_ble_eq_true rfl) (fun p e s m below meth cd Q ls hx hb hml hown hts hDi hP hK hNW hS hret hl => ?_)
  have hown : s.vm.findClass RX6 = some m.cls := hown
  subst hxq
  subst hyn
  subst hzd
  have hh16 := hgt_le r (nI q)
  have hk0 : k < N := by omega
  have hk1 : k + 1 < N := by omega
  have hk2 : k + 2 < N := by omega
  have hk3 : k + 3 < N := by omega
  have hk4 : k + 4 < N := by omega
  have hk5 : k + 5 < N := by omega
  have hk6 : k + 6 < N := by omega
  have hk7 : k + 7 < N := by omega
  have hP : va_P D vwCl (iW ad N (rfSet cI ad F k r ps sl sd ne fa bu hs st ln pt th)) s.heap := by rw [rfSet_self hR]; exact hP
  have hl : lv_has ls 6 [(0, .ref (ad k)), (1, .int (nI q)), (2, .int (nI n)), (3, .int (nI d))] := hl
  refine lv_aload_n hx hb (dk kX6_lifts_ok 0 rfl) rfl (lv_at hl 0 rfl) ?_
  refine lv_iload_n hx hb (dk kX6_lifts_ok 1 rfl) rfl (lv_at hl 1 rfl) ?_
  refine cvR (As := [.int (nI q)]) (rest := []) ⟨hx, hb, hml, hown, hts⟩ (tX6_lying l D cI cQ cL ad N (rfSet cI ad F k r ps sl sd ne fa bu hs st ln pt th) k hk r ps sl sd ne fa bu hs st ln pt th (rfSet_at) (nI q)) (cwV9 1 hts mcX6_lying (ac18 _ (List.mem_of_getElem? (i := 10) rfl)) miX6_lying meX6_lying mini_RX6 rfl rfl hdX6_lying ⟨Nat.le_of_ble_eq_true rfl, Nat.le_of_ble_eq_true rfl⟩) hK hP hNW hk0 rfSet_at.1 rfl rfl hl.1 rfl (Nat.le_of_ble_eq_true rfl) (by decide) (dk kX6_lifts_ok 2 rfl) ?_
  refine lv_iload_n hx hb (dk kX6_lifts_ok 3 rfl) rfl (lv_at hl 2 rfl) ?_
  refine n_isub hx hb (by omega) (dk kX6_lifts_ok 4 rfl) ?_
  refine lv_istore (lv' := [(4, .int (nI ((hgt r (nI q)) - n))), (0, .ref (ad k)), (1, .int (nI q)), (2, .int (nI n)), (3, .int (nI d))]) hx hb (dk kX6_lifts_ok 5 rfl) hl (by decide) rfl (fun ls hl => ?_)
  refine lv_iconst (v := nI 0) hx hb (dk kX6_lifts_ok 6 rfl) rfl ?_
  refine lv_istore (lv' := [(5, .int (nI 0)), (4, .int (nI ((hgt r (nI q)) - n))), (0, .ref (ad k)), (1, .int (nI q)), (2, .int (nI n)), (3, .int (nI d))]) hx hb (dk kX6_lifts_ok 7 rfl) hl (by decide) rfl (fun ls hl => ?_)
  have L12 : ∀ (fu : Nat) (i : Nat) (H : Heap) (locs : List Loc), va_P D vwCl (iW ad N (rfSet cI ad F k (rlf r q n d i) ps sl sd ne fa bu hs st ln pt th)) H → va_S (iA ad N s.heap.size) s.heap H locs → i ≤ n → n - i < fu → ∀ ls : Array Slot, lv_has ls 6 [(0, .ref (ad k)), (1, .int (nI q)), (2, .int (nI n)), (3, .int (nI d)), (4, .int (nI (hgt r (nI q) - n))), (5, .int (nI i))] → W p l e ({ frames := 4, cells := 0, slots := 0, locals := 85 } : Room) s m ([.ref (ad k), .int (nI q), .int (nI n), .int (nI d)] : List Value).toArray below meth cd H locs 0 0 Q (F0 m 12 ls []) := by
    intro fu
    induction fu with
    | zero => intros; omega
    | succ fu ih12 =>
      intro i H locs hP hS hi hm12 ls hl
      have hwk : i < n → wk (wat (rlf r q n d i) (nI q) (nI (hgt r (nI q) - n + i))) = true := hwl i
      refine lv_iload hx hb (dk kX6_lifts_ok 8 rfl) (lv_at hl 5 rfl) ?_
      refine lv_iload_n hx hb (dk kX6_lifts_ok 9 rfl) rfl (lv_at hl 2 rfl) ?_
      refine n_icmp_ge (tgt := 43) hx hb (by omega) (by omega) (dk kX6_lifts_ok 10 rfl) (by decide) (fun h1 => ?_) (fun h1 => ?_)
      · skip
        refine lv_aload_n hx hb (dk kX6_lifts_ok 24 rfl) rfl (lv_at hl 0 rfl) ?_
        refine gf hx hb hts (fun w h => List.mem_cons_of_mem _ (acX6 w h)) hown hK hP hk0 rfSet_at.1 rfl 0 (by decide) (hts _ (List.mem_cons_of_mem _ (ac17 _ (List.mem_of_getElem? (i := 17) rfl)))) (fun _ h => h) rfl (dk kX6_lifts_ok 25 rfl) ?_
        refine lv_bipush (v := nI 59) hx hb (dk kX6_lifts_ok 26 rfl) rfl ?_
        refine lv_dup2_11 hx hb (dk kX6_lifts_ok 27 rfl) rfl rfl ?_
        refine ald (j := 59) hx hb hK hP hk1 rfSet_at.2.1 rfl (by omega) (by decide) (dk kX6_lifts_ok 28 rfl) ?_
        refine lv_iconst (v := nI 1) hx hb (dk kX6_lifts_ok 29 rfl) rfl ?_
        refine lv_iadd hx hb (dk kX6_lifts_ok 30 rfl) ?_
        refine ast (rfSet cI ad F k (upd (rlf r q n d i) 59 (((rlf r q n d i) 59) + (nI 1))) ps sl sd ne fa bu hs st ln pt th) (j := 59) hx hb hK hDi hP hS hk1 rfSet_at.2.1 rfl (by omega) (by decide) (dk kX6_lifts_ok 31 rfl) rfSet_u1 (fun H locs hP hS => ?_)
        refine lv_aload_n hx hb (dk kX6_lifts_ok 32 rfl) rfl (lv_at hl 0 rfl) ?_
        refine cvDv (As := []) (rest := []) (rfSet cI ad F k (rpass (upd (rlf r q n d i) 59 (((rlf r q n d i) 59) + (nI 1))) t) ps sl sd ne fa bu hs st ln pt th) ⟨hx, hb, hml, hown, hts⟩ (tX6_pass l D cI cQ cL ad N (rfSet cI ad F k (upd (rlf r q n d i) 59 (((rlf r q n d i) 59) + (nI 1))) ps sl sd ne fa bu hs st ln pt th) k hk (upd (rlf r q n d i) 59 (((rlf r q n d i) 59) + (nI 1))) ps sl sd ne fa bu hs st ln pt th (rfSet_at) t ht (by rw [show i = n by omega]; exact (rlx_56 hwl).trans hrt) (by rw [show i = n by omega]; exact rlx_lo hwl hlo)) (cwV9 0 hts mcX6_pass (ac20 _ (List.mem_of_getElem? (i := 1) rfl)) miX6_pass meX6_pass mini_RX6 rfl rfl hdX6_pass ⟨Nat.le_of_ble_eq_true rfl, Nat.le_of_ble_eq_true rfl⟩) hDi hK hP hNW hS hk0 rfSet_at.1 rfl rfl hl.1 rfl (Nat.le_of_ble_eq_true rfl) (by decide) (dk kX6_lifts_ok 33 rfl) rfSet_rfSet (fun H locs hP hS => ?_)
        refine lv_iload hx hb (dk kX6_lifts_ok 34 rfl) (lv_at hl 4 rfl) ?_
        exact hret _ _ _ _ _ _ _ _ rfl (by rw [show i = n by omega] ; exact ⟨rfl, rfl⟩) hP hS (by decide) (by decide) (dk kX6_lifts_ok 35 rfl)
      · skip
        refine lv_aload_n hx hb (dk kX6_lifts_ok 11 rfl) rfl (lv_at hl 0 rfl) ?_
        refine lv_aload_n hx hb (dk kX6_lifts_ok 12 rfl) rfl (lv_at hl 0 rfl) ?_
        refine lv_iload_n hx hb (dk kX6_lifts_ok 13 rfl) rfl (lv_at hl 1 rfl) ?_
        refine lv_iload hx hb (dk kX6_lifts_ok 14 rfl) (lv_at hl 4 rfl) ?_
        refine lv_iload hx hb (dk kX6_lifts_ok 15 rfl) (lv_at hl 5 rfl) ?_
        refine n_iadd hx hb (dk kX6_lifts_ok 16 rfl) ?_
        refine cvR (As := [.int (nI q), .int (nI ((hgt r (nI q) - n) + i))]) (rest := [.ref (ad k)]) ⟨hx, hb, hml, hown, hts⟩ (tX6_winkAt l D cI cQ cL ad N (rfSet cI ad F k (rlf r q n d i) ps sl sd ne fa bu hs st ln pt th) k hk (rlf r q n d i) ps sl sd ne fa bu hs st ln pt th (rfSet_at) (nI q) (nI ((hgt r (nI q) - n) + i))) (cwV9 2 hts mcX6_winkAt (ac20 _ (List.mem_of_getElem? (i := 8) rfl)) miX6_winkAt meX6_winkAt mini_RX6 rfl rfl hdX6_winkAt ⟨Nat.le_of_ble_eq_true rfl, Nat.le_of_ble_eq_true rfl⟩) hK hP hNW hk0 rfSet_at.1 rfl rfl hl.1 rfl (Nat.le_of_ble_eq_true rfl) (by decide) (dk kX6_lifts_ok 17 rfl) ?_
        refine lv_iload_n hx hb (dk kX6_lifts_ok 18 rfl) rfl (lv_at hl 1 rfl) ?_
        refine lv_iload_n hx hb (dk kX6_lifts_ok 19 rfl) rfl (lv_at hl 3 rfl) ?_
        refine csP (As := [.int (nI q), .int (nI d)]) (rest := [.int (wat (rlf r q n d i) (nI q) (nI ((hgt r (nI q) - n) + i))), .ref (ad k)]) ⟨hx, hb, hml, hown, hts⟩ (tX6_beside l (nI q) q rfl (by omega) (nI d) d rfl (by omega)) (cwS9 2 hts mcX6_beside (ac20 _ (List.mem_of_getElem? (i := 12) rfl)) msX6_beside mini_RX6 rfl rfl hdX6_beside ⟨Nat.le_of_ble_eq_true rfl, Nat.le_of_ble_eq_true rfl⟩) rfl hl.1 rfl (Nat.le_of_ble_eq_true rfl) (by decide) (dk kX6_lifts_ok 20 rfl) ?_
        refine cvDv (As := [.int (wat (rlf r q n d i) (nI q) (nI ((hgt r (nI q) - n) + i))), .int (rbs q d)]) (rest := []) (rfSet cI ad F k (rly (rlf r q n d i) (ix (wat (rlf r q n d i) (nI q) (nI ((hgt r (nI q) - n) + i)))) (rbs q d)) ps sl sd ne fa bu hs st ln pt th) ⟨hx, hb, hml, hown, hts⟩ (tX6_lay l D cI cQ cL ad N (rfSet cI ad F k (rlf r q n d i) ps sl sd ne fa bu hs st ln pt th) k hk (rlf r q n d i) ps sl sd ne fa bu hs st ln pt th (rfSet_at) (wat (rlf r q n d i) (nI q) (nI ((hgt r (nI q) - n) + i))) (ix (wat (rlf r q n d i) (nI q) (nI ((hgt r (nI q) - n) + i)))) (wk_eq (hwk (by omega))) (by have := wk_lt (hwk (by omega)); omega) (rbs q d)) (cwV9 2 hts mcX6_lay (ac19 _ (List.mem_of_getElem? (i := 21) rfl)) miX6_lay meX6_lay mini_RX6 rfl rfl hdX6_lay ⟨Nat.le_of_ble_eq_true rfl, Nat.le_of_ble_eq_true rfl⟩) hDi hK hP hNW hS hk0 rfSet_at.1 rfl rfl hl.1 rfl (Nat.le_of_ble_eq_true rfl) (by decide) (dk kX6_lifts_ok 21 rfl) rfSet_rfSet (fun H locs hP hS => ?_)
        refine lv_iinc (v := nI (i + 1)) (lv' := [(5, .int (nI (i + 1))), (0, .ref (ad k)), (1, .int (nI q)), (2, .int (nI n)), (3, .int (nI d)), (4, .int (nI (hgt r (nI q) - n)))]) hx hb (dk kX6_lifts_ok 22 rfl) hl (k := 5) rfl (n_inc _) (by decide) rfl (fun ls hl => ?_)
        refine lv_goto (tgt := 12) hx hb (dk kX6_lifts_ok 23 rfl) (by decide) ?_
        exact ih12 (i + 1) _ _ (by exact hP) hS (by omega) (by omega) ls (lv_sub hl [1, 2, 3, 4, 5, 0] rfl)
  exact L12 _ 0 _ _ (by exact hP) hS (by first | omega | rfl) (Nat.lt_succ_self _) ls (lv_sub hl [2, 3, 4, 5, 1, 0] rfl)
set_option maxRecDepth 100000 in
set_option maxHeartbeats 4000000 in
theorem tX6_putAside (l : Launch) (D : va_G) (cI cQ cL : ClassId) (ad : Nat → Nat) (N : Nat) (F : Nat → va_E) (k : Nat) (hk : k + 7 < N) (r ps sl sd ne fa bu : Nat → Int32) (hs : Bool) (st ln pt : Nat) (th : Int32) (hR : rfAt cI ad F k r ps sl sd ne fa bu hs st ln pt th) : MX l yX6_putAside (Cond.code yX6_putAside cX6_putAside 2 none :: AW) ({ frames := 0, cells := 0, slots := 0, locals := 0 } : Room) D cI cQ cL ad N F [.ref (ad k)] (dp none (rfSet cI ad F k r ps sl r ne fa bu hs st ln pt th)) 0 0 := by
  refine mx_v (by decide +kernel) rfl (Nat.le_of_ble_eq_true rfl) (fun p e s m below meth cd Q ls hx hb hml hown hts hDi hP hK hNW hS hret hl => ?_)
  have hown : s.vm.findClass RX6 = some m.cls := hown
  have hk0 : k < N := by omega
  have hk1 : k + 1 < N := by omega
  have hk2 : k + 2 < N := by omega
  have hk3 : k + 3 < N := by omega
  have hk4 : k + 4 < N := by omega
  have hk5 : k + 5 < N := by omega
  have hk6 : k + 6 < N := by omega
  have hk7 : k + 7 < N := by omega
  have hP : va_P D vwCl (iW ad N (rfSet cI ad F k r ps sl sd ne fa bu hs st ln pt th)) s.heap := by rw [rfSet_self hR]; exact hP
  have hl : lv_has ls 2 [(0, .ref (ad k))] := hl
  refine lv_iconst (v := nI 0) hx hb (dk kX6_putAside_ok 0 rfl) rfl ?_
  refine lv_istore_n (lv' := [(1, .int (nI 0)), (0, .ref (ad k))]) hx hb (dk kX6_putAside_ok 1 rfl) rfl hl (by decide) rfl (fun ls hl => ?_)
  have L2 : ∀ (fu : Nat) (i : Nat) (H : Heap) (locs : List Loc), va_P D vwCl (iW ad N (rfSet cI ad F k r ps sl (cp9 sd r 0 i) ne fa bu hs st ln pt th)) H → va_S (iA ad N s.heap.size) s.heap H locs → i ≤ 60 → 60 - i < fu → ∀ ls : Array Slot, lv_has ls 2 [(0, .ref (ad k)), (1, .int (nI i))] → W p l e ({ frames := 0, cells := 0, slots := 0, locals := 0 } : Room) s m ([.ref (ad k)] : List Value).toArray below meth cd H locs 0 0 Q (F0 m 2 ls []) := by
    intro fu
    induction fu with
    | zero => intros; omega
    | succ fu ih2 =>
      intro i H locs hP hS hi hm2 ls hl
      refine lv_iload_n hx hb (dk kX6_putAside_ok 2 rfl) rfl (lv_at hl 1 rfl) ?_
      refine lv_bipush (v := nI 60) hx hb (dk kX6_putAside_ok 3 rfl) rfl ?_
      refine n_icmp_ge (tgt := 26) hx hb (by omega) (by decide) (dk kX6_putAside_ok 4 rfl) (by decide) (fun h1 => ?_) (fun h1 => ?_)
      · skip
        exact hret _ _ _ _ _ _ _ (by exact ⟨rfl, rfl⟩) (rf_ext (by rw [show i = 60 by omega] at hP; exact hP) (h4 := fun _ h9 => cp9_lo h9)) hS (by decide) (by decide) (dk kX6_putAside_ok 15 rfl)
      · skip
        refine lv_aload_n hx hb (dk kX6_putAside_ok 5 rfl) rfl (lv_at hl 0 rfl) ?_
        refine gf hx hb hts (fun w h => List.mem_cons_of_mem _ (acX6 w h)) hown hK hP hk0 rfSet_at.1 rfl 3 (by decide) (hts _ (List.mem_cons_of_mem _ (ac17 _ (List.mem_of_getElem? (i := 20) rfl)))) (fun _ h => h) rfl (dk kX6_putAside_ok 6 rfl) ?_
        refine lv_iload_n hx hb (dk kX6_putAside_ok 7 rfl) rfl (lv_at hl 1 rfl) ?_
        refine lv_aload_n hx hb (dk kX6_putAside_ok 8 rfl) rfl (lv_at hl 0 rfl) ?_
        refine gf hx hb hts (fun w h => List.mem_cons_of_mem _ (acX6 w h)) hown hK hP hk0 rfSet_at.1 rfl 0 (by decide) (hts _ (List.mem_cons_of_mem _ (ac17 _ (List.mem_of_getElem? (i := 17) rfl)))) (fun _ h => h) rfl (dk kX6_putAside_ok 9 rfl) ?_
        refine lv_iload_n hx hb (dk kX6_putAside_ok 10 rfl) rfl (lv_at hl 1 rfl) ?_
        refine ald (j := i) hx hb hK hP hk1 rfSet_at.2.1 rfl (by omega) (by decide) (dk kX6_putAside_ok 11 rfl) ?_
        refine ast (rfSet cI ad F k r ps sl (upd (cp9 sd r 0 i) i (r i)) ne fa bu hs st ln pt th) (j := i) hx hb hK hDi hP hS hk4 rfSet_at.2.2.2.2.1 rfl (by omega) (by decide) (dk kX6_putAside_ok 12 rfl) rfSet_u4 (fun H locs hP hS => ?_)
        refine lv_iinc (v := nI (i + 1)) (lv' := [(1, .int (nI (i + 1))), (0, .ref (ad k))]) hx hb (dk kX6_putAside_ok 13 rfl) hl (k := 1) rfl (n_inc _) (by decide) rfl (fun ls hl => ?_)
        refine lv_goto (tgt := 2) hx hb (dk kX6_putAside_ok 14 rfl) (by decide) ?_
        exact ih2 (i + 1) _ _ (by first | (rw [cp9_0]; exact hP) | (rw [← cp9_s0]; exact hP)) hS (by omega) (by omega) ls (lv_sub hl [1, 0] rfl)
  exact L2 _ 0 _ _ (by first | (rw [cp9_0]; exact hP) | (rw [← cp9_s0]; exact hP)) hS (by omega) (Nat.lt_succ_self _) ls (lv_sub hl [1, 0] rfl)
set_option maxRecDepth 100000 in
set_option maxHeartbeats 4000000 in
theorem tX6_takeBack (l : Launch) (D : va_G) (cI cQ cL : ClassId) (ad : Nat → Nat) (N : Nat) (F : Nat → va_E) (k : Nat) (hk : k + 7 < N) (r ps sl sd ne fa bu : Nat → Int32) (hs : Bool) (st ln pt : Nat) (th : Int32) (hR : rfAt cI ad F k r ps sl sd ne fa bu hs st ln pt th) : MX l yX6_takeBack (Cond.code yX6_takeBack cX6_takeBack 2 none :: AW) ({ frames := 0, cells := 0, slots := 0, locals := 0 } : Room) D cI cQ cL ad N F [.ref (ad k)] (dp none (rfSet cI ad F k sd ps sl sd ne fa bu hs st ln pt th)) 0 0 := by
  refine mx_v (by decide +kernel) rfl (Nat.le_of_ble_eq_true rfl) (fun p e s m below meth cd Q ls hx hb hml hown hts hDi hP hK hNW hS hret hl => ?_)
  have hown : s.vm.findClass RX6 = some m.cls := hown
  have hk0 : k < N := by omega
  have hk1 : k + 1 < N := by omega
  have hk2 : k + 2 < N := by omega
  have hk3 : k + 3 < N := by omega
  have hk4 : k + 4 < N := by omega
  have hk5 : k + 5 < N := by omega
  have hk6 : k + 6 < N := by omega
  have hk7 : k + 7 < N := by omega
  have hP : va_P D vwCl (iW ad N (rfSet cI ad F k r ps sl sd ne fa bu hs st ln pt th)) s.heap := by rw [rfSet_self hR]; exact hP
  have hl : lv_has ls 2 [(0, .ref (ad k))] := hl
  refine lv_iconst (v := nI 0) hx hb (dk kX6_takeBack_ok 0 rfl) rfl ?_
  refine lv_istore_n (lv' := [(1, .int (nI 0)), (0, .ref (ad k))]) hx hb (dk kX6_takeBack_ok 1 rfl) rfl hl (by decide) rfl (fun ls hl => ?_)
  have L2 : ∀ (fu : Nat) (i : Nat) (H : Heap) (locs : List Loc), va_P D vwCl (iW ad N (rfSet cI ad F k (cp9 r sd 0 i) ps sl sd ne fa bu hs st ln pt th)) H → va_S (iA ad N s.heap.size) s.heap H locs → i ≤ 60 → 60 - i < fu → ∀ ls : Array Slot, lv_has ls 2 [(0, .ref (ad k)), (1, .int (nI i))] → W p l e ({ frames := 0, cells := 0, slots := 0, locals := 0 } : Room) s m ([.ref (ad k)] : List Value).toArray below meth cd H locs 0 0 Q (F0 m 2 ls []) := by
    intro fu
    induction fu with
    | zero => intros; omega
    | succ fu ih2 =>
      intro i H locs hP hS hi hm2 ls hl
      refine lv_iload_n hx hb (dk kX6_takeBack_ok 2 rfl) rfl (lv_at hl 1 rfl) ?_
      refine lv_bipush (v := nI 60) hx hb (dk kX6_takeBack_ok 3 rfl) rfl ?_
      refine n_icmp_ge (tgt := 26) hx hb (by omega) (by decide) (dk kX6_takeBack_ok 4 rfl) (by decide) (fun h1 => ?_) (fun h1 => ?_)
      · skip
        exact hret _ _ _ _ _ _ _ (by exact ⟨rfl, rfl⟩) (rf_ext (by rw [show i = 60 by omega] at hP; exact hP) (h1 := fun _ h9 => cp9_lo h9)) hS (by decide) (by decide) (dk kX6_takeBack_ok 15 rfl)
      · skip
        refine lv_aload_n hx hb (dk kX6_takeBack_ok 5 rfl) rfl (lv_at hl 0 rfl) ?_
        refine gf hx hb hts (fun w h => List.mem_cons_of_mem _ (acX6 w h)) hown hK hP hk0 rfSet_at.1 rfl 0 (by decide) (hts _ (List.mem_cons_of_mem _ (ac17 _ (List.mem_of_getElem? (i := 17) rfl)))) (fun _ h => h) rfl (dk kX6_takeBack_ok 6 rfl) ?_
        refine lv_iload_n hx hb (dk kX6_takeBack_ok 7 rfl) rfl (lv_at hl 1 rfl) ?_
        refine lv_aload_n hx hb (dk kX6_takeBack_ok 8 rfl) rfl (lv_at hl 0 rfl) ?_
        refine gf hx hb hts (fun w h => List.mem_cons_of_mem _ (acX6 w h)) hown hK hP hk0 rfSet_at.1 rfl 3 (by decide) (hts _ (List.mem_cons_of_mem _ (ac17 _ (List.mem_of_getElem? (i := 20) rfl)))) (fun _ h => h) rfl (dk kX6_takeBack_ok 9 rfl) ?_
        refine lv_iload_n hx hb (dk kX6_takeBack_ok 10 rfl) rfl (lv_at hl 1 rfl) ?_
        refine ald (j := i) hx hb hK hP hk4 rfSet_at.2.2.2.2.1 rfl (by omega) (by decide) (dk kX6_takeBack_ok 11 rfl) ?_
        refine ast (rfSet cI ad F k (upd (cp9 r sd 0 i) i (sd i)) ps sl sd ne fa bu hs st ln pt th) (j := i) hx hb hK hDi hP hS hk1 rfSet_at.2.1 rfl (by omega) (by decide) (dk kX6_takeBack_ok 12 rfl) rfSet_u1 (fun H locs hP hS => ?_)
        refine lv_iinc (v := nI (i + 1)) (lv' := [(1, .int (nI (i + 1))), (0, .ref (ad k))]) hx hb (dk kX6_takeBack_ok 13 rfl) hl (k := 1) rfl (n_inc _) (by decide) rfl (fun ls hl => ?_)
        refine lv_goto (tgt := 2) hx hb (dk kX6_takeBack_ok 14 rfl) (by decide) ?_
        exact ih2 (i + 1) _ _ (by first | (rw [cp9_0]; exact hP) | (rw [← cp9_s0]; exact hP)) hS (by omega) (by omega) ls (lv_sub hl [1, 0] rfl)
  exact L2 _ 0 _ _ (by first | (rw [cp9_0]; exact hP) | (rw [← cp9_s0]; exact hP)) hS (by omega) (Nat.lt_succ_self _) ls (lv_sub hl [1, 0] rfl)
set_option maxRecDepth 100000 in
set_option maxHeartbeats 4000000 in
theorem tX6_record (l : Launch) (D : va_G) (cI cQ cL : ClassId) (ad : Nat → Nat) (N : Nat) (F : Nat → va_E) (k : Nat) (hk : k + 7 < N) (r ps sl sd ne fa bu : Nat → Int32) (hs : Bool) (st ln pt : Nat) (th : Int32) (hR : rfAt cI ad F k r ps sl sd ne fa bu hs st ln pt th) (hst6 : st ≤ 6) : MX l yX6_record (Cond.code yX6_record cX6_record 2 none :: AW) ({ frames := 0, cells := 0, slots := 0, locals := 0 } : Room) D cI cQ cL ad N F [.ref (ad k)] (dp none (rfSet cI ad F k r (rcP ps r st) sl sd ne fa bu hs (rcS st) ln pt th)) 0 0 := by
  refine mx_v (by decide +kernel) rfl (Nat.le_of_ble_eq_true rfl) (fun p e s m below meth cd Q ls hx hb hml hown hts hDi hP hK hNW hS hret hl => ?_)
  have hown : s.vm.findClass RX6 = some m.cls := hown
  have hk0 : k < N := by omega
  have hk1 : k + 1 < N := by omega
  have hk2 : k + 2 < N := by omega
  have hk3 : k + 3 < N := by omega
  have hk4 : k + 4 < N := by omega
  have hk5 : k + 5 < N := by omega
  have hk6 : k + 6 < N := by omega
  have hk7 : k + 7 < N := by omega
  have hP : va_P D vwCl (iW ad N (rfSet cI ad F k r ps sl sd ne fa bu hs st ln pt th)) s.heap := by rw [rfSet_self hR]; exact hP
  have hl : lv_has ls 2 [(0, .ref (ad k))] := hl
  refine lv_aload_n hx hb (dk kX6_record_ok 0 rfl) rfl (lv_at hl 0 rfl) ?_
  refine gf hx hb hts (fun w h => List.mem_cons_of_mem _ (acX6 w h)) hown hK hP hk0 rfSet_at.1 rfl 8 (by decide) (hts _ (List.mem_cons_of_mem _ (ac18 _ (List.mem_of_getElem? (i := 5) rfl)))) (fun _ h => h) rfl (dk kX6_record_ok 1 rfl) ?_
  refine lv_bipush (v := nI 6) hx hb (dk kX6_record_ok 2 rfl) rfl ?_
  refine n_icmp_ne (tgt := 49) hx hb (by omega) (by decide) (dk kX6_record_ok 3 rfl) (by decide) (fun h1 => ?_) (fun h1 => ?_)
  · skip
    refine lv_iconst (v := nI 0) hx hb (dk kX6_record_ok 27 rfl) rfl ?_
    refine lv_istore_n (lv' := [(1, .int (nI 0)), (0, .ref (ad k))]) hx hb (dk kX6_record_ok 28 rfl) rfl hl (by decide) rfl (fun ls hl => ?_)
    have L51 : ∀ (fu : Nat) (i2 : Nat) (H : Heap) (locs : List Loc), va_P D vwCl (iW ad N (rfSet cI ad F k r (cp9 ps r (60 * (st)) i2) sl sd ne fa bu hs st ln pt th)) H → va_S (iA ad N s.heap.size) s.heap H locs → i2 ≤ 60 → 60 - i2 < fu → ∀ ls : Array Slot, lv_has ls 2 [(0, .ref (ad k)), (1, .int (nI i2))] → W p l e ({ frames := 0, cells := 0, slots := 0, locals := 0 } : Room) s m ([.ref (ad k)] : List Value).toArray below meth cd H locs 0 0 Q (F0 m 51 ls []) := by
      intro fu
      induction fu with
      | zero => intros; omega
      | succ fu ih51 =>
        intro i2 H locs hP hS hi2 hm51 ls hl
        refine lv_iload_n hx hb (dk kX6_record_ok 29 rfl) rfl (lv_at hl 1 rfl) ?_
        refine lv_bipush (v := nI 60) hx hb (dk kX6_record_ok 30 rfl) rfl ?_
        refine n_icmp_ge (tgt := 83) hx hb (by omega) (by decide) (dk kX6_record_ok 31 rfl) (by decide) (fun h2 => ?_) (fun h2 => ?_)
        · skip
          refine lv_aload_n hx hb (dk kX6_record_ok 47 rfl) rfl (lv_at hl 0 rfl) ?_
          refine lv_dup hx hb (dk kX6_record_ok 48 rfl) rfl ?_
          refine gf hx hb hts (fun w h => List.mem_cons_of_mem _ (acX6 w h)) hown hK hP hk0 rfSet_at.1 rfl 8 (by decide) (hts _ (List.mem_cons_of_mem _ (ac18 _ (List.mem_of_getElem? (i := 5) rfl)))) (fun _ h => h) rfl (dk kX6_record_ok 49 rfl) ?_
          refine lv_iconst (v := nI 1) hx hb (dk kX6_record_ok 50 rfl) rfl ?_
          refine n_iadd hx hb (dk kX6_record_ok 51 rfl) ?_
          refine pf (rfSet cI ad F k r (cp9 ps r (60 * (st)) i2) sl sd ne fa bu hs (st + 1) ln pt th) hx hb hts (fun w h => List.mem_cons_of_mem _ (acX6 w h)) tyX6 tyX6_ok nmX6 hown hK hDi hP hS hk0 rfSet_at.1 rfl 8 (by decide) (hts _ (List.mem_cons_of_mem _ (ac18 _ (List.mem_of_getElem? (i := 5) rfl)))) (fun _ h => h) rfl (ty := .int) rfl rfl rfl (Nat.le_of_ble_eq_true rfl) (dk kX6_record_ok 52 rfl) rfSet_u0 (fun H locs hP hS => ?_)
          exact hret _ _ _ _ _ _ _ (by refine ⟨rfl, ?_⟩; obtain rfl : i2 = 60 := (by omega); simp only [rcP, rcS, (eq_false h1), (eq_true h2), (eq_false (Nat.not_lt.mpr h2)), not_true_eq_false, not_false_eq_true, and_true, true_and, and_false, false_and, or_true, true_or, or_false, false_or, and_self, or_self, if_true, if_false, Bool.false_eq_true, reduceIte]; first | done | rfl) hP hS (by decide) (by decide) (dk kX6_record_ok 53 rfl)
        · skip
          refine lv_aload_n hx hb (dk kX6_record_ok 32 rfl) rfl (lv_at hl 0 rfl) ?_
          refine gf hx hb hts (fun w h => List.mem_cons_of_mem _ (acX6 w h)) hown hK hP hk0 rfSet_at.1 rfl 1 (by decide) (hts _ (List.mem_cons_of_mem _ (ac17 _ (List.mem_of_getElem? (i := 18) rfl)))) (fun _ h => h) rfl (dk kX6_record_ok 33 rfl) ?_
          refine lv_bipush (v := nI 60) hx hb (dk kX6_record_ok 34 rfl) rfl ?_
          refine lv_aload_n hx hb (dk kX6_record_ok 35 rfl) rfl (lv_at hl 0 rfl) ?_
          refine gf hx hb hts (fun w h => List.mem_cons_of_mem _ (acX6 w h)) hown hK hP hk0 rfSet_at.1 rfl 8 (by decide) (hts _ (List.mem_cons_of_mem _ (ac18 _ (List.mem_of_getElem? (i := 5) rfl)))) (fun _ h => h) rfl (dk kX6_record_ok 36 rfl) ?_
          refine n_imul hx hb (dk kX6_record_ok 37 rfl) ?_
          refine lv_iload_n hx hb (dk kX6_record_ok 38 rfl) rfl (lv_at hl 1 rfl) ?_
          refine n_iadd hx hb (dk kX6_record_ok 39 rfl) ?_
          refine lv_aload_n hx hb (dk kX6_record_ok 40 rfl) rfl (lv_at hl 0 rfl) ?_
          refine gf hx hb hts (fun w h => List.mem_cons_of_mem _ (acX6 w h)) hown hK hP hk0 rfSet_at.1 rfl 0 (by decide) (hts _ (List.mem_cons_of_mem _ (ac17 _ (List.mem_of_getElem? (i := 17) rfl)))) (fun _ h => h) rfl (dk kX6_record_ok 41 rfl) ?_
          refine lv_iload_n hx hb (dk kX6_record_ok 42 rfl) rfl (lv_at hl 1 rfl) ?_
          refine ald (j := i2) hx hb hK hP hk1 rfSet_at.2.1 rfl (by omega) (by decide) (dk kX6_record_ok 43 rfl) ?_
          refine ast (rfSet cI ad F k r (upd (cp9 ps r (60 * (st)) i2) ((60 * st) + i2) (r i2)) sl sd ne fa bu hs st ln pt th) (j := ((60 * st) + i2)) hx hb hK hDi hP hS hk2 rfSet_at.2.2.1 rfl (by omega) (by decide) (dk kX6_record_ok 44 rfl) rfSet_u2 (fun H locs hP hS => ?_)
          refine lv_iinc (v := nI (i2 + 1)) (lv' := [(1, .int (nI (i2 + 1))), (0, .ref (ad k))]) hx hb (dk kX6_record_ok 45 rfl) hl (k := 1) rfl (n_inc _) (by decide) rfl (fun ls hl => ?_)
          refine lv_goto (tgt := 51) hx hb (dk kX6_record_ok 46 rfl) (by decide) ?_
          exact ih51 (i2 + 1) _ _ (by first | (rw [cp9_0]; exact hP) | (obtain rfl : i = 300 := (by omega); rw [cp9_0]; exact hP) | (rw [← cp9_s]; exact hP)) hS (by omega) (by omega) ls (lv_sub hl [1, 0] rfl)
    exact L51 _ 0 _ _ (by first | (rw [cp9_0]; exact hP) | (obtain rfl : i = 300 := (by omega); rw [cp9_0]; exact hP) | (rw [← cp9_s]; exact hP)) hS (by omega) (Nat.lt_succ_self _) ls (lv_sub hl [1, 0] rfl)
  · skip
    refine lv_iconst (v := nI 0) hx hb (dk kX6_record_ok 4 rfl) rfl ?_
    refine lv_istore_n (lv' := [(1, .int (nI 0)), (0, .ref (ad k))]) hx hb (dk kX6_record_ok 5 rfl) rfl hl (by decide) rfl (fun ls hl => ?_)
    have L11 : ∀ (fu : Nat) (i : Nat) (H : Heap) (locs : List Loc), va_P D vwCl (iW ad N (rfSet cI ad F k r (cp9 ps (fun j9 => ps (60 + j9)) 0 i) sl sd ne fa bu hs st ln pt th)) H → va_S (iA ad N s.heap.size) s.heap H locs → i ≤ 300 → 300 - i < fu → ∀ ls : Array Slot, lv_has ls 2 [(0, .ref (ad k)), (1, .int (nI i))] → W p l e ({ frames := 0, cells := 0, slots := 0, locals := 0 } : Room) s m ([.ref (ad k)] : List Value).toArray below meth cd H locs 0 0 Q (F0 m 11 ls []) := by
      intro fu
      induction fu with
      | zero => intros; omega
      | succ fu ih11 =>
        intro i H locs hP hS hi hm11 ls hl
        refine lv_iload_n hx hb (dk kX6_record_ok 6 rfl) rfl (lv_at hl 1 rfl) ?_
        refine lv_sipush (v := nI 300) hx hb (dk kX6_record_ok 7 rfl) rfl ?_
        refine n_icmp_ge (tgt := 39) hx hb (by omega) (by decide) (dk kX6_record_ok 8 rfl) (by decide) (fun h3 => ?_) (fun h3 => ?_)
        · skip
          refine lv_aload_n hx hb (dk kX6_record_ok 21 rfl) rfl (lv_at hl 0 rfl) ?_
          refine lv_dup hx hb (dk kX6_record_ok 22 rfl) rfl ?_
          refine gf hx hb hts (fun w h => List.mem_cons_of_mem _ (acX6 w h)) hown hK hP hk0 rfSet_at.1 rfl 8 (by decide) (hts _ (List.mem_cons_of_mem _ (ac18 _ (List.mem_of_getElem? (i := 5) rfl)))) (fun _ h => h) rfl (dk kX6_record_ok 23 rfl) ?_
          refine lv_iconst (v := nI 1) hx hb (dk kX6_record_ok 24 rfl) rfl ?_
          refine n_isub hx hb (by omega) (dk kX6_record_ok 25 rfl) ?_
          refine pf (rfSet cI ad F k r (cp9 ps (fun j9 => ps (60 + j9)) 0 i) sl sd ne fa bu hs (st - 1) ln pt th) hx hb hts (fun w h => List.mem_cons_of_mem _ (acX6 w h)) tyX6 tyX6_ok nmX6 hown hK hDi hP hS hk0 rfSet_at.1 rfl 8 (by decide) (hts _ (List.mem_cons_of_mem _ (ac18 _ (List.mem_of_getElem? (i := 5) rfl)))) (fun _ h => h) rfl (ty := .int) rfl rfl rfl (Nat.le_of_ble_eq_true rfl) (dk kX6_record_ok 26 rfl) rfSet_u0 (fun H locs hP hS => ?_)
          refine lv_iconst (v := nI 0) hx hb (dk kX6_record_ok 27 rfl) rfl ?_
          refine lv_istore_n (lv' := [(1, .int (nI 0)), (0, .ref (ad k))]) hx hb (dk kX6_record_ok 28 rfl) rfl hl (by decide) rfl (fun ls hl => ?_)
          have L51 : ∀ (fu : Nat) (i2 : Nat) (H : Heap) (locs : List Loc), va_P D vwCl (iW ad N (rfSet cI ad F k r (cp9 (cp9 ps (fun j9 => ps (60 + j9)) 0 300) r (60 * (st - 1)) i2) sl sd ne fa bu hs (st - 1) ln pt th)) H → va_S (iA ad N s.heap.size) s.heap H locs → i2 ≤ 60 → 60 - i2 < fu → ∀ ls : Array Slot, lv_has ls 2 [(0, .ref (ad k)), (1, .int (nI i2))] → W p l e ({ frames := 0, cells := 0, slots := 0, locals := 0 } : Room) s m ([.ref (ad k)] : List Value).toArray below meth cd H locs 0 0 Q (F0 m 51 ls []) := by
            intro fu
            induction fu with
            | zero => intros; omega
            | succ fu ih51 =>
              intro i2 H locs hP hS hi2 hm51 ls hl
              refine lv_iload_n hx hb (dk kX6_record_ok 29 rfl) rfl (lv_at hl 1 rfl) ?_
              refine lv_bipush (v := nI 60) hx hb (dk kX6_record_ok 30 rfl) rfl ?_
              refine n_icmp_ge (tgt := 83) hx hb (by omega) (by decide) (dk kX6_record_ok 31 rfl) (by decide) (fun h4 => ?_) (fun h4 => ?_)
              · skip
                refine lv_aload_n hx hb (dk kX6_record_ok 47 rfl) rfl (lv_at hl 0 rfl) ?_
                refine lv_dup hx hb (dk kX6_record_ok 48 rfl) rfl ?_
                refine gf hx hb hts (fun w h => List.mem_cons_of_mem _ (acX6 w h)) hown hK hP hk0 rfSet_at.1 rfl 8 (by decide) (hts _ (List.mem_cons_of_mem _ (ac18 _ (List.mem_of_getElem? (i := 5) rfl)))) (fun _ h => h) rfl (dk kX6_record_ok 49 rfl) ?_
                refine lv_iconst (v := nI 1) hx hb (dk kX6_record_ok 50 rfl) rfl ?_
                refine n_iadd hx hb (dk kX6_record_ok 51 rfl) ?_
                refine pf (rfSet cI ad F k r (cp9 (cp9 ps (fun j9 => ps (60 + j9)) 0 300) r (60 * (st - 1)) i2) sl sd ne fa bu hs ((st - 1) + 1) ln pt th) hx hb hts (fun w h => List.mem_cons_of_mem _ (acX6 w h)) tyX6 tyX6_ok nmX6 hown hK hDi hP hS hk0 rfSet_at.1 rfl 8 (by decide) (hts _ (List.mem_cons_of_mem _ (ac18 _ (List.mem_of_getElem? (i := 5) rfl)))) (fun _ h => h) rfl (ty := .int) rfl rfl rfl (Nat.le_of_ble_eq_true rfl) (dk kX6_record_ok 52 rfl) rfSet_u0 (fun H locs hP hS => ?_)
                exact hret _ _ _ _ _ _ _ (by refine ⟨rfl, ?_⟩; obtain rfl : i2 = 60 := (by omega); simp only [rcP, rcS, (eq_true h1), (eq_true h3), (eq_false (Nat.not_lt.mpr h3)), (eq_true h4), (eq_false (Nat.not_lt.mpr h4)), not_true_eq_false, not_false_eq_true, and_true, true_and, and_false, false_and, or_true, true_or, or_false, false_or, and_self, or_self, if_true, if_false, Bool.false_eq_true, reduceIte]; first | done | rfl) hP hS (by decide) (by decide) (dk kX6_record_ok 53 rfl)
              · skip
                refine lv_aload_n hx hb (dk kX6_record_ok 32 rfl) rfl (lv_at hl 0 rfl) ?_
                refine gf hx hb hts (fun w h => List.mem_cons_of_mem _ (acX6 w h)) hown hK hP hk0 rfSet_at.1 rfl 1 (by decide) (hts _ (List.mem_cons_of_mem _ (ac17 _ (List.mem_of_getElem? (i := 18) rfl)))) (fun _ h => h) rfl (dk kX6_record_ok 33 rfl) ?_
                refine lv_bipush (v := nI 60) hx hb (dk kX6_record_ok 34 rfl) rfl ?_
                refine lv_aload_n hx hb (dk kX6_record_ok 35 rfl) rfl (lv_at hl 0 rfl) ?_
                refine gf hx hb hts (fun w h => List.mem_cons_of_mem _ (acX6 w h)) hown hK hP hk0 rfSet_at.1 rfl 8 (by decide) (hts _ (List.mem_cons_of_mem _ (ac18 _ (List.mem_of_getElem? (i := 5) rfl)))) (fun _ h => h) rfl (dk kX6_record_ok 36 rfl) ?_
                refine n_imul hx hb (dk kX6_record_ok 37 rfl) ?_
                refine lv_iload_n hx hb (dk kX6_record_ok 38 rfl) rfl (lv_at hl 1 rfl) ?_
                refine n_iadd hx hb (dk kX6_record_ok 39 rfl) ?_
                refine lv_aload_n hx hb (dk kX6_record_ok 40 rfl) rfl (lv_at hl 0 rfl) ?_
                refine gf hx hb hts (fun w h => List.mem_cons_of_mem _ (acX6 w h)) hown hK hP hk0 rfSet_at.1 rfl 0 (by decide) (hts _ (List.mem_cons_of_mem _ (ac17 _ (List.mem_of_getElem? (i := 17) rfl)))) (fun _ h => h) rfl (dk kX6_record_ok 41 rfl) ?_
                refine lv_iload_n hx hb (dk kX6_record_ok 42 rfl) rfl (lv_at hl 1 rfl) ?_
                refine ald (j := i2) hx hb hK hP hk1 rfSet_at.2.1 rfl (by omega) (by decide) (dk kX6_record_ok 43 rfl) ?_
                refine ast (rfSet cI ad F k r (upd (cp9 (cp9 ps (fun j9 => ps (60 + j9)) 0 300) r (60 * (st - 1)) i2) ((60 * (st - 1)) + i2) (r i2)) sl sd ne fa bu hs (st - 1) ln pt th) (j := ((60 * (st - 1)) + i2)) hx hb hK hDi hP hS hk2 rfSet_at.2.2.1 rfl (by omega) (by decide) (dk kX6_record_ok 44 rfl) rfSet_u2 (fun H locs hP hS => ?_)
                refine lv_iinc (v := nI (i2 + 1)) (lv' := [(1, .int (nI (i2 + 1))), (0, .ref (ad k))]) hx hb (dk kX6_record_ok 45 rfl) hl (k := 1) rfl (n_inc _) (by decide) rfl (fun ls hl => ?_)
                refine lv_goto (tgt := 51) hx hb (dk kX6_record_ok 46 rfl) (by decide) ?_
                exact ih51 (i2 + 1) _ _ (by first | (rw [cp9_0]; exact hP) | (obtain rfl : i = 300 := (by omega); rw [cp9_0]; exact hP) | (rw [← cp9_s]; exact hP)) hS (by omega) (by omega) ls (lv_sub hl [1, 0] rfl)
          exact L51 _ 0 _ _ (by first | (rw [cp9_0]; exact hP) | (obtain rfl : i = 300 := (by omega); rw [cp9_0]; exact hP) | (rw [← cp9_s]; exact hP)) hS (by omega) (Nat.lt_succ_self _) ls (lv_sub hl [1, 0] rfl)
        · skip
          refine lv_aload_n hx hb (dk kX6_record_ok 9 rfl) rfl (lv_at hl 0 rfl) ?_
          refine gf hx hb hts (fun w h => List.mem_cons_of_mem _ (acX6 w h)) hown hK hP hk0 rfSet_at.1 rfl 1 (by decide) (hts _ (List.mem_cons_of_mem _ (ac17 _ (List.mem_of_getElem? (i := 18) rfl)))) (fun _ h => h) rfl (dk kX6_record_ok 10 rfl) ?_
          refine lv_iload_n hx hb (dk kX6_record_ok 11 rfl) rfl (lv_at hl 1 rfl) ?_
          refine lv_aload_n hx hb (dk kX6_record_ok 12 rfl) rfl (lv_at hl 0 rfl) ?_
          refine gf hx hb hts (fun w h => List.mem_cons_of_mem _ (acX6 w h)) hown hK hP hk0 rfSet_at.1 rfl 1 (by decide) (hts _ (List.mem_cons_of_mem _ (ac17 _ (List.mem_of_getElem? (i := 18) rfl)))) (fun _ h => h) rfl (dk kX6_record_ok 13 rfl) ?_
          refine lv_bipush (v := nI 60) hx hb (dk kX6_record_ok 14 rfl) rfl ?_
          refine lv_iload_n hx hb (dk kX6_record_ok 15 rfl) rfl (lv_at hl 1 rfl) ?_
          refine n_iadd hx hb (dk kX6_record_ok 16 rfl) ?_
          refine ald (j := (60 + i)) hx hb hK hP hk2 rfSet_at.2.2.1 rfl (by omega) (by decide) (dk kX6_record_ok 17 rfl) ?_
          rw [show (cp9 ps (fun j9 => ps (60 + j9)) 0 i) (60 + i) = ps ((60 + i)) from cp9_hi (by omega)]
          refine ast (rfSet cI ad F k r (upd (cp9 ps (fun j9 => ps (60 + j9)) 0 i) i (ps ((60 + i)))) sl sd ne fa bu hs st ln pt th) (j := i) hx hb hK hDi hP hS hk2 rfSet_at.2.2.1 rfl (by omega) (by decide) (dk kX6_record_ok 18 rfl) rfSet_u2 (fun H locs hP hS => ?_)
          refine lv_iinc (v := nI (i + 1)) (lv' := [(1, .int (nI (i + 1))), (0, .ref (ad k))]) hx hb (dk kX6_record_ok 19 rfl) hl (k := 1) rfl (n_inc _) (by decide) rfl (fun ls hl => ?_)
          refine lv_goto (tgt := 11) hx hb (dk kX6_record_ok 20 rfl) (by decide) ?_
          exact ih11 (i + 1) _ _ (by first | (rw [cp9_0]; exact hP) | (rw [← cp9_s0]; exact hP)) hS (by omega) (by omega) ls (lv_sub hl [1, 0] rfl)
    exact L11 _ 0 _ _ (by first | (rw [cp9_0]; exact hP) | (rw [← cp9_s0]; exact hP)) hS (by omega) (Nat.lt_succ_self _) ls (lv_sub hl [1, 0] rfl)
