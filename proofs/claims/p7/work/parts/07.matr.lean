set_option maxRecDepth 100000 in
set_option maxHeartbeats 4000000 in
theorem tX1_isPotted (l : Launch) (D : va_G) (cI cQ cL : ClassId) (ad : Nat → Nat) (N : Nat) (F : Nat → va_E) (k : Nat) (hk : k + 3 < N) (c b v : Nat → Int32) (hM : matAt cI ad F k c b v) (x : Int32) (w : Nat) (hxw : x = nI w) (hw : w < 16) : MR l yX1_isPotted (Cond.code yX1_isPotted cX1_isPotted 2 (some .boolean) :: AW) ({ frames := 0, cells := 0, slots := 0, locals := 0 } : Room) D cI cQ cL ad N F [.ref (ad k), .int x] (.int (bI (pot c w))) := by
  refine mr_i (ty := .boolean) (by decide +kernel) rfl rfl rfl (bI_nar _) (Nat.le_of_ble_eq_true rfl) (fun p e s m below meth cd Q ls hx hb hml hown hts hP hK hNW hret hl => ?_)
  have hown : s.vm.findClass RX1 = some m.cls := hown
  subst hxw
  obtain ⟨f0, f1, f2, f3⟩ := id hM
  have hk0 : k < N := by omega
  have hk1 : k + 1 < N := by omega
  have hk2 : k + 2 < N := by omega
  have hk3 : k + 3 < N := hk
  have hl : lv_has ls 2 [(0, .ref (ad k)), (1, .int (nI w))] := hl
  refine lv_aload_n hx hb (dk kX1_isPotted_ok 0 rfl) rfl (lv_at hl 0 rfl) ?_
  refine gf hx hb hts (fun w h => List.mem_cons_of_mem _ (acX1 w h)) hown hK hP hk0 f0 rfl 0 (by decide) (hts _ (List.mem_cons_of_mem _ (ac0 _ (List.mem_of_getElem? (i := 22) rfl)))) (fun _ h => h) rfl (dk kX1_isPotted_ok 1 rfl) ?_
  refine lv_iload_n hx hb (dk kX1_isPotted_ok 2 rfl) rfl (lv_at hl 1 rfl) ?_
  refine ald (j := w) hx hb hK hP hk1 f1 rfl (by omega) (by decide) (dk kX1_isPotted_ok 3 rfl) ?_
  refine lv_iconst (v := -1) hx hb (dk kX1_isPotted_ok 4 rfl) rfl ?_
  refine lv_icmp_ne (tgt := 14) hx hb (dk kX1_isPotted_ok 5 rfl) (by decide) (fun h1 => ?_) (fun h1 => ?_)
  · skip
    refine lv_iconst (v := nI 0) hx hb (dk kX1_isPotted_ok 8 rfl) rfl ?_
    exact hret _ _ _ (by simp [pot, h1, bI]) (dk kX1_isPotted_ok 9 rfl)
  · skip
    refine lv_iconst (v := nI 1) hx hb (dk kX1_isPotted_ok 6 rfl) rfl ?_
    refine lv_goto (tgt := 15) hx hb (dk kX1_isPotted_ok 7 rfl) (by decide) ?_
    exact hret _ _ _ (by simp [pot, h1, bI]) (dk kX1_isPotted_ok 9 rfl)
set_option maxRecDepth 100000 in
set_option maxHeartbeats 4000000 in
theorem tX1_isCovered (l : Launch) (D : va_G) (cI cQ cL : ClassId) (ad : Nat → Nat) (N : Nat) (F : Nat → va_E) (k : Nat) (hk : k + 3 < N) (c b v : Nat → Int32) (hM : matAt cI ad F k c b v) (x : Int32) (w : Nat) (hxw : x = nI w) (hw : w < 16) : MR l yX1_isCovered (Cond.code yX1_isCovered cX1_isCovered 2 (some .boolean) :: AW) ({ frames := 0, cells := 0, slots := 0, locals := 0 } : Room) D cI cQ cL ad N F [.ref (ad k), .int x] (.int (bI (cov v w))) := by
  refine mr_i (ty := .boolean) (by decide +kernel) rfl rfl rfl (bI_nar _) (Nat.le_of_ble_eq_true rfl) (fun p e s m below meth cd Q ls hx hb hml hown hts hP hK hNW hret hl => ?_)
  have hown : s.vm.findClass RX1 = some m.cls := hown
  subst hxw
  obtain ⟨f0, f1, f2, f3⟩ := id hM
  have hk0 : k < N := by omega
  have hk1 : k + 1 < N := by omega
  have hk2 : k + 2 < N := by omega
  have hk3 : k + 3 < N := hk
  have hl : lv_has ls 2 [(0, .ref (ad k)), (1, .int (nI w))] := hl
  refine lv_aload_n hx hb (dk kX1_isCovered_ok 0 rfl) rfl (lv_at hl 0 rfl) ?_
  refine gf hx hb hts (fun w h => List.mem_cons_of_mem _ (acX1 w h)) hown hK hP hk0 f0 rfl 2 (by decide) (hts _ (List.mem_cons_of_mem _ (ac1 _ (List.mem_of_getElem? (i := 0) rfl)))) (fun _ h => h) rfl (dk kX1_isCovered_ok 1 rfl) ?_
  refine lv_iload_n hx hb (dk kX1_isCovered_ok 2 rfl) rfl (lv_at hl 1 rfl) ?_
  refine ald (j := w) hx hb hK hP hk3 f3 rfl (by omega) (by decide) (dk kX1_isCovered_ok 3 rfl) ?_
  refine lv_iconst (v := -1) hx hb (dk kX1_isCovered_ok 4 rfl) rfl ?_
  refine lv_icmp_eq (tgt := 14) hx hb (dk kX1_isCovered_ok 5 rfl) (by decide) (fun h1 => ?_) (fun h1 => ?_)
  · skip
    refine lv_iconst (v := nI 0) hx hb (dk kX1_isCovered_ok 8 rfl) rfl ?_
    exact hret _ _ _ (by simp [cov, h1, bI]) (dk kX1_isCovered_ok 9 rfl)
  · skip
    refine lv_iconst (v := nI 1) hx hb (dk kX1_isCovered_ok 6 rfl) rfl ?_
    refine lv_goto (tgt := 15) hx hb (dk kX1_isCovered_ok 7 rfl) (by decide) ?_
    exact hret _ _ _ (by simp [cov, h1, bI]) (dk kX1_isCovered_ok 9 rfl)
set_option maxRecDepth 100000 in
set_option maxHeartbeats 4000000 in
theorem tX1_topAt (l : Launch) (D : va_G) (cI cQ cL : ClassId) (ad : Nat → Nat) (N : Nat) (F : Nat → va_E) (k : Nat) (hk : k + 3 < N) (c b v : Nat → Int32) (hM : matAt cI ad F k c b v) (q : Int32) : MR l yX1_topAt (Cond.code yX1_topAt cX1_topAt 3 (some .int) :: AW) ({ frames := 0, cells := 0, slots := 0, locals := 0 } : Room) D cI cQ cL ad N F [.ref (ad k), .int q] (.int (top c v q)) := by
  refine mr_i (ty := .int) (by decide +kernel) rfl rfl rfl rfl (Nat.le_of_ble_eq_true rfl) (fun p e s m below meth cd Q ls hx hb hml hown hts hP hK hNW hret hl => ?_)
  have hown : s.vm.findClass RX1 = some m.cls := hown
  obtain ⟨f0, f1, f2, f3⟩ := id hM
  have hk0 : k < N := by omega
  have hk1 : k + 1 < N := by omega
  have hk2 : k + 2 < N := by omega
  have hk3 : k + 3 < N := hk
  have hl : lv_has ls 3 [(0, .ref (ad k)), (1, .int q)] := hl
  refine lv_iconst (v := nI 0) hx hb (dk kX1_topAt_ok 0 rfl) rfl ?_
  refine lv_istore_n (lv' := [(2, .int (nI 0)), (0, .ref (ad k)), (1, .int q)]) hx hb (dk kX1_topAt_ok 1 rfl) rfl hl (by decide) rfl (fun ls hl => ?_)
  have L2 : ∀ (fu : Nat) (i : Nat), i ≤ 16 → top c v q = fst (tpq c v q) (16 - i) i → 16 - i < fu → ∀ ls : Array Slot, lv_has ls 3 [(0, .ref (ad k)), (1, .int q), (2, .int (nI i))] → W p l e ({ frames := 0, cells := 0, slots := 0, locals := 0 } : Room) s m ([.ref (ad k), .int q] : List Value).toArray below meth cd s.heap [] 0 0 Q (F0 m 2 ls []) := by
    intro fu
    induction fu with
    | zero => intros; omega
    | succ fu ih2 =>
      intro i hi hr hm2 ls hl
      refine lv_iload_n hx hb (dk kX1_topAt_ok 2 rfl) rfl (lv_at hl 2 rfl) ?_
      refine lv_bipush (v := nI 16) hx hb (dk kX1_topAt_ok 3 rfl) rfl ?_
      refine n_icmp_ge (tgt := 36) hx hb (by omega) (by decide) (dk kX1_topAt_ok 4 rfl) (by decide) (fun h1 => ?_) (fun h1 => ?_)
      · skip
        refine lv_iconst (v := -1) hx hb (dk kX1_topAt_ok 21 rfl) rfl ?_
        exact hret _ _ _ (by first | (rw [hr, show 16 - i = (16 - (i + 1)) + 1 by omega]; simp [fst, tpq, h1]; done) | (rw [hr, show 16 - i = 0 by omega]; rfl)) (dk kX1_topAt_ok 22 rfl)
      · skip
        refine lv_aload_n hx hb (dk kX1_topAt_ok 5 rfl) rfl (lv_at hl 0 rfl) ?_
        refine gf hx hb hts (fun w h => List.mem_cons_of_mem _ (acX1 w h)) hown hK hP hk0 f0 rfl 0 (by decide) (hts _ (List.mem_cons_of_mem _ (ac0 _ (List.mem_of_getElem? (i := 22) rfl)))) (fun _ h => h) rfl (dk kX1_topAt_ok 6 rfl) ?_
        refine lv_iload_n hx hb (dk kX1_topAt_ok 7 rfl) rfl (lv_at hl 2 rfl) ?_
        refine ald (j := i) hx hb hK hP hk1 f1 rfl (by omega) (by decide) (dk kX1_topAt_ok 8 rfl) ?_
        refine lv_iload_n hx hb (dk kX1_topAt_ok 9 rfl) rfl (lv_at hl 1 rfl) ?_
        refine lv_icmp_ne (tgt := 30) hx hb (dk kX1_topAt_ok 10 rfl) (by decide) (fun h2 => ?_) (fun h2 => ?_)
        · skip
          refine lv_iinc (v := nI (i + 1)) (lv' := [(2, .int (nI (i + 1))), (0, .ref (ad k)), (1, .int q)]) hx hb (dk kX1_topAt_ok 19 rfl) hl (k := 2) rfl (n_inc _) (by decide) rfl (fun ls hl => ?_)
          refine lv_goto (tgt := 2) hx hb (dk kX1_topAt_ok 20 rfl) (by decide) ?_
          exact ih2 (i + 1) (by omega) (by rw [hr, show 16 - i = (16 - (i + 1)) + 1 by omega]; simp [fst, tpq, h1, h2]) (by omega) ls (lv_sub hl [1, 2, 0] rfl)
        · skip
          refine lv_aload_n hx hb (dk kX1_topAt_ok 11 rfl) rfl (lv_at hl 0 rfl) ?_
          refine gf hx hb hts (fun w h => List.mem_cons_of_mem _ (acX1 w h)) hown hK hP hk0 f0 rfl 2 (by decide) (hts _ (List.mem_cons_of_mem _ (ac1 _ (List.mem_of_getElem? (i := 0) rfl)))) (fun _ h => h) rfl (dk kX1_topAt_ok 12 rfl) ?_
          refine lv_iload_n hx hb (dk kX1_topAt_ok 13 rfl) rfl (lv_at hl 2 rfl) ?_
          refine ald (j := i) hx hb hK hP hk3 f3 rfl (by omega) (by decide) (dk kX1_topAt_ok 14 rfl) ?_
          refine lv_iconst (v := -1) hx hb (dk kX1_topAt_ok 15 rfl) rfl ?_
          refine lv_icmp_ne (tgt := 30) hx hb (dk kX1_topAt_ok 16 rfl) (by decide) (fun h3 => ?_) (fun h3 => ?_)
          · skip
            refine lv_iinc (v := nI (i + 1)) (lv' := [(2, .int (nI (i + 1))), (0, .ref (ad k)), (1, .int q)]) hx hb (dk kX1_topAt_ok 19 rfl) hl (k := 2) rfl (n_inc _) (by decide) rfl (fun ls hl => ?_)
            refine lv_goto (tgt := 2) hx hb (dk kX1_topAt_ok 20 rfl) (by decide) ?_
            exact ih2 (i + 1) (by omega) (by rw [hr, show 16 - i = (16 - (i + 1)) + 1 by omega]; simp [fst, tpq, h1, h2, h3]) (by omega) ls (lv_sub hl [1, 2, 0] rfl)
          · skip
            refine lv_iload_n hx hb (dk kX1_topAt_ok 17 rfl) rfl (lv_at hl 2 rfl) ?_
            exact hret _ _ _ (by first | (rw [hr, show 16 - i = (16 - (i + 1)) + 1 by omega]; simp [fst, tpq, h1, h2, h3]; done) | (rw [hr, show 16 - i = 0 by omega]; rfl)) (dk kX1_topAt_ok 18 rfl)
  exact L2 _ 0 (by first | rfl | omega) (by first | rfl | omega) (Nat.lt_succ_self _) ls (lv_sub hl [1, 2, 0] rfl)
set_option maxRecDepth 100000 in
set_option maxHeartbeats 4000000 in
theorem tX1_bottomAt (l : Launch) (D : va_G) (cI cQ cL : ClassId) (ad : Nat → Nat) (N : Nat) (F : Nat → va_E) (k : Nat) (hk : k + 3 < N) (c b v : Nat → Int32) (hM : matAt cI ad F k c b v) (q : Int32) : MR l yX1_bottomAt (Cond.code yX1_bottomAt cX1_bottomAt 3 (some .int) :: AW) ({ frames := 0, cells := 0, slots := 0, locals := 0 } : Room) D cI cQ cL ad N F [.ref (ad k), .int q] (.int (top c b q)) := by
  refine mr_i (ty := .int) (by decide +kernel) rfl rfl rfl rfl (Nat.le_of_ble_eq_true rfl) (fun p e s m below meth cd Q ls hx hb hml hown hts hP hK hNW hret hl => ?_)
  have hown : s.vm.findClass RX1 = some m.cls := hown
  obtain ⟨f0, f1, f2, f3⟩ := id hM
  have hk0 : k < N := by omega
  have hk1 : k + 1 < N := by omega
  have hk2 : k + 2 < N := by omega
  have hk3 : k + 3 < N := hk
  have hl : lv_has ls 3 [(0, .ref (ad k)), (1, .int q)] := hl
  refine lv_iconst (v := nI 0) hx hb (dk kX1_bottomAt_ok 0 rfl) rfl ?_
  refine lv_istore_n (lv' := [(2, .int (nI 0)), (0, .ref (ad k)), (1, .int q)]) hx hb (dk kX1_bottomAt_ok 1 rfl) rfl hl (by decide) rfl (fun ls hl => ?_)
  have L2 : ∀ (fu : Nat) (i : Nat), i ≤ 16 → top c b q = fst (tpq c b q) (16 - i) i → 16 - i < fu → ∀ ls : Array Slot, lv_has ls 3 [(0, .ref (ad k)), (1, .int q), (2, .int (nI i))] → W p l e ({ frames := 0, cells := 0, slots := 0, locals := 0 } : Room) s m ([.ref (ad k), .int q] : List Value).toArray below meth cd s.heap [] 0 0 Q (F0 m 2 ls []) := by
    intro fu
    induction fu with
    | zero => intros; omega
    | succ fu ih2 =>
      intro i hi hr hm2 ls hl
      refine lv_iload_n hx hb (dk kX1_bottomAt_ok 2 rfl) rfl (lv_at hl 2 rfl) ?_
      refine lv_bipush (v := nI 16) hx hb (dk kX1_bottomAt_ok 3 rfl) rfl ?_
      refine n_icmp_ge (tgt := 36) hx hb (by omega) (by decide) (dk kX1_bottomAt_ok 4 rfl) (by decide) (fun h1 => ?_) (fun h1 => ?_)
      · skip
        refine lv_iconst (v := -1) hx hb (dk kX1_bottomAt_ok 21 rfl) rfl ?_
        exact hret _ _ _ (by first | (rw [hr, show 16 - i = (16 - (i + 1)) + 1 by omega]; simp [fst, tpq, h1]; done) | (rw [hr, show 16 - i = 0 by omega]; rfl)) (dk kX1_bottomAt_ok 22 rfl)
      · skip
        refine lv_aload_n hx hb (dk kX1_bottomAt_ok 5 rfl) rfl (lv_at hl 0 rfl) ?_
        refine gf hx hb hts (fun w h => List.mem_cons_of_mem _ (acX1 w h)) hown hK hP hk0 f0 rfl 0 (by decide) (hts _ (List.mem_cons_of_mem _ (ac0 _ (List.mem_of_getElem? (i := 22) rfl)))) (fun _ h => h) rfl (dk kX1_bottomAt_ok 6 rfl) ?_
        refine lv_iload_n hx hb (dk kX1_bottomAt_ok 7 rfl) rfl (lv_at hl 2 rfl) ?_
        refine ald (j := i) hx hb hK hP hk1 f1 rfl (by omega) (by decide) (dk kX1_bottomAt_ok 8 rfl) ?_
        refine lv_iload_n hx hb (dk kX1_bottomAt_ok 9 rfl) rfl (lv_at hl 1 rfl) ?_
        refine lv_icmp_ne (tgt := 30) hx hb (dk kX1_bottomAt_ok 10 rfl) (by decide) (fun h2 => ?_) (fun h2 => ?_)
        · skip
          refine lv_iinc (v := nI (i + 1)) (lv' := [(2, .int (nI (i + 1))), (0, .ref (ad k)), (1, .int q)]) hx hb (dk kX1_bottomAt_ok 19 rfl) hl (k := 2) rfl (n_inc _) (by decide) rfl (fun ls hl => ?_)
          refine lv_goto (tgt := 2) hx hb (dk kX1_bottomAt_ok 20 rfl) (by decide) ?_
          exact ih2 (i + 1) (by omega) (by rw [hr, show 16 - i = (16 - (i + 1)) + 1 by omega]; simp [fst, tpq, h1, h2]) (by omega) ls (lv_sub hl [1, 2, 0] rfl)
        · skip
          refine lv_aload_n hx hb (dk kX1_bottomAt_ok 11 rfl) rfl (lv_at hl 0 rfl) ?_
          refine gf hx hb hts (fun w h => List.mem_cons_of_mem _ (acX1 w h)) hown hK hP hk0 f0 rfl 1 (by decide) (hts _ (List.mem_cons_of_mem _ (ac0 _ (List.mem_of_getElem? (i := 23) rfl)))) (fun _ h => h) rfl (dk kX1_bottomAt_ok 12 rfl) ?_
          refine lv_iload_n hx hb (dk kX1_bottomAt_ok 13 rfl) rfl (lv_at hl 2 rfl) ?_
          refine ald (j := i) hx hb hK hP hk2 f2 rfl (by omega) (by decide) (dk kX1_bottomAt_ok 14 rfl) ?_
          refine lv_iconst (v := -1) hx hb (dk kX1_bottomAt_ok 15 rfl) rfl ?_
          refine lv_icmp_ne (tgt := 30) hx hb (dk kX1_bottomAt_ok 16 rfl) (by decide) (fun h3 => ?_) (fun h3 => ?_)
          · skip
            refine lv_iinc (v := nI (i + 1)) (lv' := [(2, .int (nI (i + 1))), (0, .ref (ad k)), (1, .int q)]) hx hb (dk kX1_bottomAt_ok 19 rfl) hl (k := 2) rfl (n_inc _) (by decide) rfl (fun ls hl => ?_)
            refine lv_goto (tgt := 2) hx hb (dk kX1_bottomAt_ok 20 rfl) (by decide) ?_
            exact ih2 (i + 1) (by omega) (by rw [hr, show 16 - i = (16 - (i + 1)) + 1 by omega]; simp [fst, tpq, h1, h2, h3]) (by omega) ls (lv_sub hl [1, 2, 0] rfl)
          · skip
            refine lv_iload_n hx hb (dk kX1_bottomAt_ok 17 rfl) rfl (lv_at hl 2 rfl) ?_
            exact hret _ _ _ (by first | (rw [hr, show 16 - i = (16 - (i + 1)) + 1 by omega]; simp [fst, tpq, h1, h2, h3]; done) | (rw [hr, show 16 - i = 0 by omega]; rfl)) (dk kX1_bottomAt_ok 18 rfl)
  exact L2 _ 0 (by first | rfl | omega) (by first | rfl | omega) (Nat.lt_succ_self _) ls (lv_sub hl [1, 2, 0] rfl)
set_option maxRecDepth 100000 in
set_option maxHeartbeats 4000000 in
theorem tX1_placeOf (l : Launch) (D : va_G) (cI cQ cL : ClassId) (ad : Nat → Nat) (N : Nat) (F : Nat → va_E) (k : Nat) (hk : k + 3 < N) (c b v : Nat → Int32) (hM : matAt cI ad F k c b v) (x : Int32) (w : Nat) (hxw : x = nI w) (hw : w < 16) : MR l yX1_placeOf (Cond.code yX1_placeOf cX1_placeOf 5 (some .int) :: AW) ({ frames := 1, cells := 0, slots := 0, locals := 21 } : Room) D cI cQ cL ad N F [.ref (ad k), .int x] (.int (pls c b w)) := by
  refine mr_i (ty := .int) (by decide +kernel) rfl rfl rfl rfl (Nat.le_of_ble_eq_true rfl) (fun p e s m below meth cd Q ls hx hb hml hown hts hP hK hNW hret hl => ?_)
  have hown : s.vm.findClass RX1 = some m.cls := hown
  subst hxw
  obtain ⟨f0, f1, f2, f3⟩ := id hM
  have hk0 : k < N := by omega
  have hk1 : k + 1 < N := by omega
  have hk2 : k + 2 < N := by omega
  have hk3 : k + 3 < N := hk
  have hl : lv_has ls 5 [(0, .ref (ad k)), (1, .int (nI w))] := hl
  refine lv_aload_n hx hb (dk kX1_placeOf_ok 0 rfl) rfl (lv_at hl 0 rfl) ?_
  refine lv_iload_n hx hb (dk kX1_placeOf_ok 1 rfl) rfl (lv_at hl 1 rfl) ?_
  refine cvR (As := [.int (nI w)]) (rest := []) ⟨hx, hb, hml, hown, hts⟩ (tX1_isPotted l D cI cQ cL ad N F k hk c b v hM (nI w) w rfl (by omega)) (cwV9 1 hts mcX1_isPotted (ac2 _ (List.mem_of_getElem? (i := 0) rfl)) miX1_isPotted meX1_isPotted mini_RX1 rfl rfl hdX1_isPotted ⟨Nat.le_of_ble_eq_true rfl, Nat.le_of_ble_eq_true rfl⟩) hK hP hNW hk0 f0 rfl rfl hl.1 rfl (Nat.le_of_ble_eq_true rfl) (by decide) (dk kX1_placeOf_ok 2 rfl) ?_
  refine b_if_eq (tgt := 10) hx hb (dk kX1_placeOf_ok 3 rfl) (by decide) (fun h1 => ?_) (fun h1 => ?_)
  · skip
    refine lv_iconst (v := nI 0) hx hb (dk kX1_placeOf_ok 6 rfl) rfl ?_
    refine lv_istore_n (lv' := [(2, .int (nI 0)), (0, .ref (ad k)), (1, .int (nI w))]) hx hb (dk kX1_placeOf_ok 7 rfl) rfl hl (by decide) rfl (fun ls hl => ?_)
    refine lv_aload_n hx hb (dk kX1_placeOf_ok 8 rfl) rfl (lv_at hl 1 rfl) ?_
    refine gf hx hb hts (fun w h => List.mem_cons_of_mem _ (acX1 w h)) hown hK hP hk0 f0 rfl 1 (by decide) (hts _ (List.mem_cons_of_mem _ (ac0 _ (List.mem_of_getElem? (i := 23) rfl)))) (fun _ h => h) rfl (dk kX1_placeOf_ok 9 rfl) ?_
    refine lv_iload_n hx hb (dk kX1_placeOf_ok 10 rfl) rfl (lv_at hl 2 rfl) ?_
    refine ald (j := w) hx hb hK hP hk2 f2 rfl (by omega) (by decide) (dk kX1_placeOf_ok 11 rfl) ?_
    refine lv_istore_n (lv' := [(3, .int (b w)), (2, .int (nI 0)), (0, .ref (ad k)), (1, .int (nI w))]) hx hb (dk kX1_placeOf_ok 12 rfl) rfl hl (by decide) rfl (fun ls hl => ?_)
    refine lv_iconst (v := nI 0) hx hb (dk kX1_placeOf_ok 13 rfl) rfl ?_
    refine lv_istore (lv' := [(4, .int (nI 0)), (3, .int (b w)), (2, .int (nI 0)), (0, .ref (ad k)), (1, .int (nI w))]) hx hb (dk kX1_placeOf_ok 14 rfl) hl (by decide) rfl (fun ls hl => ?_)
    have L22 : ∀ (fu : Nat) (i a : Nat) (x : Int32), i ≤ 16 → a ≤ i → plc b 16 (b w) = a + plc b (16 - i) x → 16 - i < fu → ∀ ls : Array Slot, lv_has ls 5 [(0, .ref (ad k)), (1, .int (nI w)), (2, .int (nI a)), (3, .int x), (4, .int (nI i))] → W p l e ({ frames := 1, cells := 0, slots := 0, locals := 21 } : Room) s m ([.ref (ad k), .int (nI w)] : List Value).toArray below meth cd s.heap [] 0 0 Q (F0 m 22 ls []) := by
      intro fu
      induction fu with
      | zero => intros; omega
      | succ fu ih22 =>
        intro i a x hi ha hr hm22 ls hl
        refine lv_iload hx hb (dk kX1_placeOf_ok 15 rfl) (lv_at hl 4 rfl) ?_
        refine lv_bipush (v := nI 16) hx hb (dk kX1_placeOf_ok 16 rfl) rfl ?_
        refine n_icmp_ge (tgt := 52) hx hb (by omega) (by decide) (dk kX1_placeOf_ok 17 rfl) (by decide) (fun h2 => ?_) (fun h2 => ?_)
        · skip
          refine lv_iload_n hx hb (dk kX1_placeOf_ok 29 rfl) rfl (lv_at hl 2 rfl) ?_
          exact hret _ _ _ (by first | (rw [pls, if_neg (by simpa [pot] using h1), hr, show 16 - i = (16 - (i + 1)) + 1 by omega]; simp [plc, h1, h2]; done) | (rw [pls, if_neg (by simpa [pot] using h1), hr, show 16 - i = 0 by omega]; rfl) | (rw [pls, if_pos (by simpa [pot] using h1)])) (dk kX1_placeOf_ok 30 rfl)
        · skip
          refine lv_iload_n hx hb (dk kX1_placeOf_ok 18 rfl) rfl (lv_at hl 3 rfl) ?_
          refine csPN (As := [.int x]) (rest := []) ⟨hx, hb, hml, hown, hts⟩ (tX5_isWink l x) (cwN9 1 hts mcX5_isWink (nm7 hNW) mini_RX5 rfl rfl hdX5_isWink ⟨Nat.le_of_ble_eq_true rfl, Nat.le_of_ble_eq_true rfl⟩) (hts _ (List.mem_cons_of_mem _ msX5_isWink)) rfl hl.1 rfl (Nat.le_of_ble_eq_true rfl) (by decide) (dk kX1_placeOf_ok 19 rfl) ?_
          refine b_if_eq (tgt := 52) hx hb (dk kX1_placeOf_ok 20 rfl) (by decide) (fun h3 => ?_) (fun h3 => ?_)
          · skip
            refine lv_iload_n hx hb (dk kX1_placeOf_ok 29 rfl) rfl (lv_at hl 2 rfl) ?_
            exact hret _ _ _ (by first | (rw [pls, if_neg (by simpa [pot] using h1), hr, show 16 - i = (16 - (i + 1)) + 1 by omega]; simp [plc, h1, h2, h3]; done) | (rw [pls, if_neg (by simpa [pot] using h1), hr, show 16 - i = 0 by omega]; rfl) | (rw [pls, if_pos (by simpa [pot] using h1)])) (dk kX1_placeOf_ok 30 rfl)
          · skip
            refine lv_iinc (v := nI (a + 1)) (lv' := [(2, .int (nI (a + 1))), (0, .ref (ad k)), (1, .int (nI w)), (3, .int x), (4, .int (nI i))]) hx hb (dk kX1_placeOf_ok 21 rfl) hl (k := 2) rfl (n_inc _) (by decide) rfl (fun ls hl => ?_)
            refine lv_aload_n hx hb (dk kX1_placeOf_ok 22 rfl) rfl (lv_at hl 1 rfl) ?_
            refine gf hx hb hts (fun w h => List.mem_cons_of_mem _ (acX1 w h)) hown hK hP hk0 f0 rfl 1 (by decide) (hts _ (List.mem_cons_of_mem _ (ac0 _ (List.mem_of_getElem? (i := 23) rfl)))) (fun _ h => h) rfl (dk kX1_placeOf_ok 23 rfl) ?_
            refine lv_iload_n hx hb (dk kX1_placeOf_ok 24 rfl) rfl (lv_at hl 3 rfl) ?_
            refine ald (j := (ix x)) hx hb hK hP hk2 f2 (wk_eq h3) (wk_lt h3) (by decide) (dk kX1_placeOf_ok 25 rfl) ?_
            refine lv_istore_n (lv' := [(3, .int (b (ix x))), (2, .int (nI (a + 1))), (0, .ref (ad k)), (1, .int (nI w)), (4, .int (nI i))]) hx hb (dk kX1_placeOf_ok 26 rfl) rfl hl (by decide) rfl (fun ls hl => ?_)
            refine lv_iinc (v := nI (i + 1)) (lv' := [(4, .int (nI (i + 1))), (3, .int (b (ix x))), (2, .int (nI (a + 1))), (0, .ref (ad k)), (1, .int (nI w))]) hx hb (dk kX1_placeOf_ok 27 rfl) hl (k := 4) rfl (n_inc _) (by decide) rfl (fun ls hl => ?_)
            refine lv_goto (tgt := 22) hx hb (dk kX1_placeOf_ok 28 rfl) (by decide) ?_
            exact ih22 (i + 1) (a + 1) (b (ix x)) (by omega) (by omega) (by rw [hr, show 16 - i = (16 - (i + 1)) + 1 by omega]; simp only [plc, h1, h2, h3, if_true]; omega) (by omega) ls (lv_sub hl [3, 4, 2, 1, 0] rfl)
    exact L22 _ 0 0 (b w) (by first | omega | (rw [Nat.zero_add])) (by first | omega | (rw [Nat.zero_add])) (by first | omega | (rw [Nat.zero_add])) (Nat.lt_succ_self _) ls (lv_sub hl [3, 4, 2, 1, 0] rfl)
  · skip
    refine lv_iconst (v := -1) hx hb (dk kX1_placeOf_ok 4 rfl) rfl ?_
    exact hret _ _ _ (by first | (rw [pls, if_neg (by simpa [pot] using h1), hr, show 16 - i = (16 - (i + 1)) + 1 by omega]; simp [plc, h1]; done) | (rw [pls, if_neg (by simpa [pot] using h1), hr, show 16 - i = 0 by omega]; rfl) | (rw [pls, if_pos (by simpa [pot] using h1)])) (dk kX1_placeOf_ok 5 rfl)
set_option maxRecDepth 100000 in
set_option maxHeartbeats 4000000 in
theorem tX1_lowestOfUpper (l : Launch) (D : va_G) (cI cQ cL : ClassId) (ad : Nat → Nat) (N : Nat) (F : Nat → va_E) (k : Nat) (hk : k + 3 < N) (c b v : Nat → Int32) (hM : matAt cI ad F k c b v) (q x : Int32) (n : Nat) (hxn : x = nI n) (hn1 : 1 ≤ n) (hn : n < 2 ^ 31) : MR l yX1_lowestOfUpper (Cond.code yX1_lowestOfUpper cX1_lowestOfUpper 5 (some .int) :: AW) ({ frames := 1, cells := 0, slots := 0, locals := 22 } : Room) D cI cQ cL ad N F [.ref (ad k), .int q, .int x] (.int (low c b v q n)) := by
  refine mr_i (ty := .int) (by decide +kernel) rfl rfl rfl rfl (Nat.le_of_ble_eq_true rfl) (fun p e s m below meth cd Q ls hx hb hml hown hts hP hK hNW hret hl => ?_)
  have hown : s.vm.findClass RX1 = some m.cls := hown
  subst hxn
  obtain ⟨f0, f1, f2, f3⟩ := id hM
  have hk0 : k < N := by omega
  have hk1 : k + 1 < N := by omega
  have hk2 : k + 2 < N := by omega
  have hk3 : k + 3 < N := hk
  have hl : lv_has ls 5 [(0, .ref (ad k)), (1, .int q), (2, .int (nI n))] := hl
  refine lv_aload_n hx hb (dk kX1_lowestOfUpper_ok 0 rfl) rfl (lv_at hl 0 rfl) ?_
  refine lv_iload_n hx hb (dk kX1_lowestOfUpper_ok 1 rfl) rfl (lv_at hl 1 rfl) ?_
  refine cvR (As := [.int q]) (rest := []) ⟨hx, hb, hml, hown, hts⟩ (tX1_topAt l D cI cQ cL ad N F k hk c b v hM q) (cwV9 1 hts mcX1_topAt (ac1 _ (List.mem_of_getElem? (i := 20) rfl)) miX1_topAt meX1_topAt mini_RX1 rfl rfl hdX1_topAt ⟨Nat.le_of_ble_eq_true rfl, Nat.le_of_ble_eq_true rfl⟩) hK hP hNW hk0 f0 rfl rfl hl.1 rfl (Nat.le_of_ble_eq_true rfl) (by decide) (dk kX1_lowestOfUpper_ok 2 rfl) ?_
  refine lv_istore_n (lv' := [(3, .int (top c v q)), (0, .ref (ad k)), (1, .int q), (2, .int (nI n))]) hx hb (dk kX1_lowestOfUpper_ok 3 rfl) rfl hl (by decide) rfl (fun ls hl => ?_)
  refine lv_iconst (v := nI 1) hx hb (dk kX1_lowestOfUpper_ok 4 rfl) rfl ?_
  refine lv_istore (lv' := [(4, .int (nI 1)), (3, .int (top c v q)), (0, .ref (ad k)), (1, .int q), (2, .int (nI n))]) hx hb (dk kX1_lowestOfUpper_ok 5 rfl) hl (by decide) rfl (fun ls hl => ?_)
  have L9 : ∀ (fu : Nat) (i : Nat) (x : Int32), 1 ≤ i ∧ i ≤ n → low c b v q n = lou b (n - i) x → n - i < fu → ∀ ls : Array Slot, lv_has ls 5 [(0, .ref (ad k)), (1, .int q), (2, .int (nI n)), (3, .int x), (4, .int (nI i))] → W p l e ({ frames := 1, cells := 0, slots := 0, locals := 22 } : Room) s m ([.ref (ad k), .int q, .int (nI n)] : List Value).toArray below meth cd s.heap [] 0 0 Q (F0 m 9 ls []) := by
    intro fu
    induction fu with
    | zero => intros; omega
    | succ fu ih9 =>
      intro i x hi hr hm9 ls hl
      refine lv_iload hx hb (dk kX1_lowestOfUpper_ok 6 rfl) (lv_at hl 4 rfl) ?_
      refine lv_iload_n hx hb (dk kX1_lowestOfUpper_ok 7 rfl) rfl (lv_at hl 2 rfl) ?_
      refine n_icmp_ge (tgt := 35) hx hb (by omega) (by omega) (dk kX1_lowestOfUpper_ok 8 rfl) (by decide) (fun h1 => ?_) (fun h1 => ?_)
      · skip
        refine lv_iload_n hx hb (dk kX1_lowestOfUpper_ok 19 rfl) rfl (lv_at hl 3 rfl) ?_
        exact hret _ _ _ (by first | (rw [hr, show n - i = (n - (i + 1)) + 1 by omega]; simp [lou, h1]; done) | (rw [hr, show n - i = 0 by omega]; rfl)) (dk kX1_lowestOfUpper_ok 20 rfl)
      · skip
        refine lv_iload_n hx hb (dk kX1_lowestOfUpper_ok 9 rfl) rfl (lv_at hl 3 rfl) ?_
        refine csPN (As := [.int x]) (rest := []) ⟨hx, hb, hml, hown, hts⟩ (tX5_isWink l x) (cwN9 1 hts mcX5_isWink (nm7 hNW) mini_RX5 rfl rfl hdX5_isWink ⟨Nat.le_of_ble_eq_true rfl, Nat.le_of_ble_eq_true rfl⟩) (hts _ (List.mem_cons_of_mem _ msX5_isWink)) rfl hl.1 rfl (Nat.le_of_ble_eq_true rfl) (by decide) (dk kX1_lowestOfUpper_ok 10 rfl) ?_
        refine b_if_eq (tgt := 35) hx hb (dk kX1_lowestOfUpper_ok 11 rfl) (by decide) (fun h2 => ?_) (fun h2 => ?_)
        · skip
          refine lv_iload_n hx hb (dk kX1_lowestOfUpper_ok 19 rfl) rfl (lv_at hl 3 rfl) ?_
          exact hret _ _ _ (by first | (rw [hr, show n - i = (n - (i + 1)) + 1 by omega]; simp [lou, h1, h2]; done) | (rw [hr, show n - i = 0 by omega]; rfl)) (dk kX1_lowestOfUpper_ok 20 rfl)
        · skip
          refine lv_aload_n hx hb (dk kX1_lowestOfUpper_ok 12 rfl) rfl (lv_at hl 0 rfl) ?_
          refine gf hx hb hts (fun w h => List.mem_cons_of_mem _ (acX1 w h)) hown hK hP hk0 f0 rfl 1 (by decide) (hts _ (List.mem_cons_of_mem _ (ac0 _ (List.mem_of_getElem? (i := 23) rfl)))) (fun _ h => h) rfl (dk kX1_lowestOfUpper_ok 13 rfl) ?_
          refine lv_iload_n hx hb (dk kX1_lowestOfUpper_ok 14 rfl) rfl (lv_at hl 3 rfl) ?_
          refine ald (j := (ix x)) hx hb hK hP hk2 f2 (wk_eq h2) (wk_lt h2) (by decide) (dk kX1_lowestOfUpper_ok 15 rfl) ?_
          refine lv_istore_n (lv' := [(3, .int (b (ix x))), (0, .ref (ad k)), (1, .int q), (2, .int (nI n)), (4, .int (nI i))]) hx hb (dk kX1_lowestOfUpper_ok 16 rfl) rfl hl (by decide) rfl (fun ls hl => ?_)
          refine lv_iinc (v := nI (i + 1)) (lv' := [(4, .int (nI (i + 1))), (3, .int (b (ix x))), (0, .ref (ad k)), (1, .int q), (2, .int (nI n))]) hx hb (dk kX1_lowestOfUpper_ok 17 rfl) hl (k := 4) rfl (n_inc _) (by decide) rfl (fun ls hl => ?_)
          refine lv_goto (tgt := 9) hx hb (dk kX1_lowestOfUpper_ok 18 rfl) (by decide) ?_
          exact ih9 (i + 1) (b (ix x)) (by omega) (by rw [hr, show n - i = (n - (i + 1)) + 1 by omega]; simp [lou, h1, h2]) (by omega) ls (lv_sub hl [2, 3, 4, 1, 0] rfl)
  exact L9 _ 1 (top c v q) (by first | omega | rfl) (by first | omega | rfl) (Nat.lt_succ_self _) ls (lv_sub hl [2, 3, 4, 1, 0] rfl)
set_option maxRecDepth 100000 in
set_option maxHeartbeats 4000000 in
theorem tX1_heightAt (l : Launch) (D : va_G) (cI cQ cL : ClassId) (ad : Nat → Nat) (N : Nat) (F : Nat → va_E) (k : Nat) (hk : k + 3 < N) (c b v : Nat → Int32) (hM : matAt cI ad F k c b v) (q : Int32) : MR l yX1_heightAt (Cond.code yX1_heightAt cX1_heightAt 4 (some .int) :: AW) ({ frames := 0, cells := 0, slots := 0, locals := 0 } : Room) D cI cQ cL ad N F [.ref (ad k), .int q] (.int (nI (hgt c q))) := by
  refine mr_i (ty := .int) (by decide +kernel) rfl rfl rfl rfl (Nat.le_of_ble_eq_true rfl) (fun p e s m below meth cd Q ls hx hb hml hown hts hP hK hNW hret hl => ?_)
  have hown : s.vm.findClass RX1 = some m.cls := hown
  obtain ⟨f0, f1, f2, f3⟩ := id hM
  have hk0 : k < N := by omega
  have hk1 : k + 1 < N := by omega
  have hk2 : k + 2 < N := by omega
  have hk3 : k + 3 < N := hk
  have hl : lv_has ls 4 [(0, .ref (ad k)), (1, .int q)] := hl
  refine lv_iconst (v := nI 0) hx hb (dk kX1_heightAt_ok 0 rfl) rfl ?_
  refine lv_istore_n (lv' := [(2, .int (nI 0)), (0, .ref (ad k)), (1, .int q)]) hx hb (dk kX1_heightAt_ok 1 rfl) rfl hl (by decide) rfl (fun ls hl => ?_)
  refine lv_iconst (v := nI 0) hx hb (dk kX1_heightAt_ok 2 rfl) rfl ?_
  refine lv_istore_n (lv' := [(3, .int (nI 0)), (2, .int (nI 0)), (0, .ref (ad k)), (1, .int q)]) hx hb (dk kX1_heightAt_ok 3 rfl) rfl hl (by decide) rfl (fun ls hl => ?_)
  have L4 : ∀ (fu : Nat) (i : Nat) (x2 : Int32), x2 = nI (cnt (fun i => decide (c i = q)) i) → i ≤ 16 → 16 - i < fu → ∀ ls : Array Slot, lv_has ls 4 [(0, .ref (ad k)), (1, .int q), (2, .int x2), (3, .int (nI i))] → W p l e ({ frames := 0, cells := 0, slots := 0, locals := 0 } : Room) s m ([.ref (ad k), .int q] : List Value).toArray below meth cd s.heap [] 0 0 Q (F0 m 4 ls []) := by
    intro fu
    induction fu with
    | zero => intros; omega
    | succ fu ih4 =>
      intro i x2 ex2 hi hm4 ls hl
      subst ex2
      refine lv_iload_n hx hb (dk kX1_heightAt_ok 4 rfl) rfl (lv_at hl 3 rfl) ?_
      refine lv_bipush (v := nI 16) hx hb (dk kX1_heightAt_ok 5 rfl) rfl ?_
      refine n_icmp_ge (tgt := 29) hx hb (by omega) (by decide) (dk kX1_heightAt_ok 6 rfl) (by decide) (fun h1 => ?_) (fun h1 => ?_)
      · skip
        refine lv_iload_n hx hb (dk kX1_heightAt_ok 16 rfl) rfl (lv_at hl 2 rfl) ?_
        exact hret _ _ _ (by rw [show i = 16 by omega] <;> rfl) (dk kX1_heightAt_ok 17 rfl)
      · skip
        refine lv_aload_n hx hb (dk kX1_heightAt_ok 7 rfl) rfl (lv_at hl 0 rfl) ?_
        refine gf hx hb hts (fun w h => List.mem_cons_of_mem _ (acX1 w h)) hown hK hP hk0 f0 rfl 0 (by decide) (hts _ (List.mem_cons_of_mem _ (ac0 _ (List.mem_of_getElem? (i := 22) rfl)))) (fun _ h => h) rfl (dk kX1_heightAt_ok 8 rfl) ?_
        refine lv_iload_n hx hb (dk kX1_heightAt_ok 9 rfl) rfl (lv_at hl 3 rfl) ?_
        refine ald (j := i) hx hb hK hP hk1 f1 rfl (by omega) (by decide) (dk kX1_heightAt_ok 10 rfl) ?_
        refine lv_iload_n hx hb (dk kX1_heightAt_ok 11 rfl) rfl (lv_at hl 1 rfl) ?_
        refine lv_icmp_ne (tgt := 23) hx hb (dk kX1_heightAt_ok 12 rfl) (by decide) (fun h2 => ?_) (fun h2 => ?_)
        · skip
          refine lv_iinc (v := nI (i + 1)) (lv' := [(3, .int (nI (i + 1))), (0, .ref (ad k)), (1, .int q), (2, .int (nI (cnt (fun i => decide (c i = q)) i)))]) hx hb (dk kX1_heightAt_ok 14 rfl) hl (k := 3) rfl (n_inc _) (by decide) rfl (fun ls hl => ?_)
          refine lv_goto (tgt := 4) hx hb (dk kX1_heightAt_ok 15 rfl) (by decide) ?_
          exact ih4 (i + 1) _ (by simp [cnt, h1, h2]) (by omega) (by omega) ls (lv_sub hl [1, 2, 3, 0] rfl)
        · skip
          refine lv_iinc (v := nI ((cnt (fun i => decide (c i = q)) i) + 1)) (lv' := [(2, .int (nI ((cnt (fun i => decide (c i = q)) i) + 1))), (0, .ref (ad k)), (1, .int q), (3, .int (nI i))]) hx hb (dk kX1_heightAt_ok 13 rfl) hl (k := 2) rfl (n_inc _) (by decide) rfl (fun ls hl => ?_)
          refine lv_iinc (v := nI (i + 1)) (lv' := [(3, .int (nI (i + 1))), (2, .int (nI ((cnt (fun i => decide (c i = q)) i) + 1))), (0, .ref (ad k)), (1, .int q)]) hx hb (dk kX1_heightAt_ok 14 rfl) hl (k := 3) rfl (n_inc _) (by decide) rfl (fun ls hl => ?_)
          refine lv_goto (tgt := 4) hx hb (dk kX1_heightAt_ok 15 rfl) (by decide) ?_
          exact ih4 (i + 1) _ (by simp [cnt, h1, h2]) (by omega) (by omega) ls (lv_sub hl [2, 3, 1, 0] rfl)
  exact L4 _ 0 _ (by first | rfl | omega) (by first | rfl | omega) (Nat.lt_succ_self _) ls (lv_sub hl [2, 3, 1, 0] rfl)
set_option maxRecDepth 100000 in
set_option maxHeartbeats 4000000 in
theorem tX1_coloursAt (l : Launch) (D : va_G) (cI cQ cL : ClassId) (ad : Nat → Nat) (N : Nat) (F : Nat → va_E) (k : Nat) (hk : k + 3 < N) (c b v : Nat → Int32) (hM : matAt cI ad F k c b v) (q : Int32) : MR l yX1_coloursAt (Cond.code yX1_coloursAt cX1_coloursAt 4 (some .int) :: AW) ({ frames := 1, cells := 0, slots := 0, locals := 20 } : Room) D cI cQ cL ad N F [.ref (ad k), .int q] (.int (msk (fun i => decide (c i = q)) 16)) := by
  refine mr_i (ty := .int) (by decide +kernel) rfl rfl rfl rfl (Nat.le_of_ble_eq_true rfl) (fun p e s m below meth cd Q ls hx hb hml hown hts hP hK hNW hret hl => ?_)
  have hown : s.vm.findClass RX1 = some m.cls := hown
  obtain ⟨f0, f1, f2, f3⟩ := id hM
  have hk0 : k < N := by omega
  have hk1 : k + 1 < N := by omega
  have hk2 : k + 2 < N := by omega
  have hk3 : k + 3 < N := hk
  have hl : lv_has ls 4 [(0, .ref (ad k)), (1, .int q)] := hl
  refine lv_iconst (v := nI 0) hx hb (dk kX1_coloursAt_ok 0 rfl) rfl ?_
  refine lv_istore_n (lv' := [(2, .int (nI 0)), (0, .ref (ad k)), (1, .int q)]) hx hb (dk kX1_coloursAt_ok 1 rfl) rfl hl (by decide) rfl (fun ls hl => ?_)
  refine lv_iconst (v := nI 0) hx hb (dk kX1_coloursAt_ok 2 rfl) rfl ?_
  refine lv_istore_n (lv' := [(3, .int (nI 0)), (2, .int (nI 0)), (0, .ref (ad k)), (1, .int q)]) hx hb (dk kX1_coloursAt_ok 3 rfl) rfl hl (by decide) rfl (fun ls hl => ?_)
  have L4 : ∀ (fu : Nat) (i : Nat) (x2 : Int32), x2 = msk (fun i => decide (c i = q)) i → i ≤ 16 → 16 - i < fu → ∀ ls : Array Slot, lv_has ls 4 [(0, .ref (ad k)), (1, .int q), (2, .int x2), (3, .int (nI i))] → W p l e ({ frames := 1, cells := 0, slots := 0, locals := 20 } : Room) s m ([.ref (ad k), .int q] : List Value).toArray below meth cd s.heap [] 0 0 Q (F0 m 4 ls []) := by
    intro fu
    induction fu with
    | zero => intros; omega
    | succ fu ih4 =>
      intro i x2 ex2 hi hm4 ls hl
      subst ex2
      refine lv_iload_n hx hb (dk kX1_coloursAt_ok 4 rfl) rfl (lv_at hl 3 rfl) ?_
      refine lv_bipush (v := nI 16) hx hb (dk kX1_coloursAt_ok 5 rfl) rfl ?_
      refine n_icmp_ge (tgt := 35) hx hb (by omega) (by decide) (dk kX1_coloursAt_ok 6 rfl) (by decide) (fun h1 => ?_) (fun h1 => ?_)
      · skip
        refine lv_iload_n hx hb (dk kX1_coloursAt_ok 22 rfl) rfl (lv_at hl 2 rfl) ?_
        exact hret _ _ _ (by rw [show i = 16 by omega] <;> rfl) (dk kX1_coloursAt_ok 23 rfl)
      · skip
        refine lv_aload_n hx hb (dk kX1_coloursAt_ok 7 rfl) rfl (lv_at hl 0 rfl) ?_
        refine gf hx hb hts (fun w h => List.mem_cons_of_mem _ (acX1 w h)) hown hK hP hk0 f0 rfl 0 (by decide) (hts _ (List.mem_cons_of_mem _ (ac0 _ (List.mem_of_getElem? (i := 22) rfl)))) (fun _ h => h) rfl (dk kX1_coloursAt_ok 8 rfl) ?_
        refine lv_iload_n hx hb (dk kX1_coloursAt_ok 9 rfl) rfl (lv_at hl 3 rfl) ?_
        refine ald (j := i) hx hb hK hP hk1 f1 rfl (by omega) (by decide) (dk kX1_coloursAt_ok 10 rfl) ?_
        refine lv_iload_n hx hb (dk kX1_coloursAt_ok 11 rfl) rfl (lv_at hl 1 rfl) ?_
        refine lv_icmp_ne (tgt := 29) hx hb (dk kX1_coloursAt_ok 12 rfl) (by decide) (fun h2 => ?_) (fun h2 => ?_)
        · skip
          refine lv_iinc (v := nI (i + 1)) (lv' := [(3, .int (nI (i + 1))), (0, .ref (ad k)), (1, .int q), (2, .int (msk (fun i => decide (c i = q)) i))]) hx hb (dk kX1_coloursAt_ok 20 rfl) hl (k := 3) rfl (n_inc _) (by decide) rfl (fun ls hl => ?_)
          refine lv_goto (tgt := 4) hx hb (dk kX1_coloursAt_ok 21 rfl) (by decide) ?_
          exact ih4 (i + 1) _ (by simp [msk, h1, h2]) (by omega) (by omega) ls (lv_sub hl [1, 2, 3, 0] rfl)
        · skip
          refine lv_iload_n hx hb (dk kX1_coloursAt_ok 13 rfl) rfl (lv_at hl 2 rfl) ?_
          refine lv_iconst (v := nI 1) hx hb (dk kX1_coloursAt_ok 14 rfl) rfl ?_
          refine lv_iload_n hx hb (dk kX1_coloursAt_ok 15 rfl) rfl (lv_at hl 3 rfl) ?_
          refine csPN (As := [.int (nI i)]) (rest := [.int (nI 1), .int (msk (fun i => decide (c i = q)) i)]) ⟨hx, hb, hml, hown, hts⟩ (tX5_colourOf l (nI i) i rfl (by omega)) (cwN9 1 hts mcX5_colourOf (nm1 hNW) mini_RX5 rfl rfl hdX5_colourOf ⟨Nat.le_of_ble_eq_true rfl, Nat.le_of_ble_eq_true rfl⟩) (hts _ (List.mem_cons_of_mem _ msX5_colourOf)) rfl hl.1 rfl (Nat.le_of_ble_eq_true rfl) (by decide) (dk kX1_coloursAt_ok 16 rfl) ?_
          refine lv_ishl hx hb (dk kX1_coloursAt_ok 17 rfl) ?_
          refine lv_ior hx hb (dk kX1_coloursAt_ok 18 rfl) ?_
          refine lv_istore_n (lv' := [(2, .int ((msk (fun i => decide (c i = q)) i) ||| ((nI 1) <<< ((nI (i / 4)) &&& 31)))), (0, .ref (ad k)), (1, .int q), (3, .int (nI i))]) hx hb (dk kX1_coloursAt_ok 19 rfl) rfl hl (by decide) rfl (fun ls hl => ?_)
          refine lv_iinc (v := nI (i + 1)) (lv' := [(3, .int (nI (i + 1))), (2, .int ((msk (fun i => decide (c i = q)) i) ||| ((nI 1) <<< ((nI (i / 4)) &&& 31)))), (0, .ref (ad k)), (1, .int q)]) hx hb (dk kX1_coloursAt_ok 20 rfl) hl (k := 3) rfl (n_inc _) (by decide) rfl (fun ls hl => ?_)
          refine lv_goto (tgt := 4) hx hb (dk kX1_coloursAt_ok 21 rfl) (by decide) ?_
          exact ih4 (i + 1) _ (by simp [msk, h1, h2]) (by omega) (by omega) ls (lv_sub hl [2, 3, 1, 0] rfl)
  exact L4 _ 0 _ (by first | rfl | omega) (by first | rfl | omega) (Nat.lt_succ_self _) ls (lv_sub hl [2, 3, 1, 0] rfl)
set_option maxRecDepth 100000 in
set_option maxHeartbeats 4000000 in
theorem tX1_isBottom (l : Launch) (D : va_G) (cI cQ cL : ClassId) (ad : Nat → Nat) (N : Nat) (F : Nat → va_E) (k : Nat) (hk : k + 3 < N) (c b v : Nat → Int32) (hM : matAt cI ad F k c b v) (x : Int32) (w : Nat) (hxw : x = nI w) (hw : w < 16) : MR l yX1_isBottom (Cond.code yX1_isBottom cX1_isBottom 2 (some .boolean) :: AW) ({ frames := 0, cells := 0, slots := 0, locals := 0 } : Room) D cI cQ cL ad N F [.ref (ad k), .int x] (.int (bI (bot c b w))) := by
  refine mr_i (ty := .boolean) (by decide +kernel) rfl rfl rfl (bI_nar _) (Nat.le_of_ble_eq_true rfl) (fun p e s m below meth cd Q ls hx hb hml hown hts hP hK hNW hret hl => ?_)
  have hown : s.vm.findClass RX1 = some m.cls := hown
  subst hxw
  obtain ⟨f0, f1, f2, f3⟩ := id hM
  have hk0 : k < N := by omega
  have hk1 : k + 1 < N := by omega
  have hk2 : k + 2 < N := by omega
  have hk3 : k + 3 < N := hk
  have hl : lv_has ls 2 [(0, .ref (ad k)), (1, .int (nI w))] := hl
  refine lv_aload_n hx hb (dk kX1_isBottom_ok 0 rfl) rfl (lv_at hl 0 rfl) ?_
  refine gf hx hb hts (fun w h => List.mem_cons_of_mem _ (acX1 w h)) hown hK hP hk0 f0 rfl 0 (by decide) (hts _ (List.mem_cons_of_mem _ (ac0 _ (List.mem_of_getElem? (i := 22) rfl)))) (fun _ h => h) rfl (dk kX1_isBottom_ok 1 rfl) ?_
  refine lv_iload_n hx hb (dk kX1_isBottom_ok 2 rfl) rfl (lv_at hl 1 rfl) ?_
  refine ald (j := w) hx hb hK hP hk1 f1 rfl (by omega) (by decide) (dk kX1_isBottom_ok 3 rfl) ?_
  refine lv_iconst (v := -1) hx hb (dk kX1_isBottom_ok 4 rfl) rfl ?_
  refine lv_icmp_eq (tgt := 24) hx hb (dk kX1_isBottom_ok 5 rfl) (by decide) (fun h1 => ?_) (fun h1 => ?_)
  · skip
    refine lv_iconst (v := nI 0) hx hb (dk kX1_isBottom_ok 14 rfl) rfl ?_
    exact hret _ _ _ (by simp [bot, h1, bI]) (dk kX1_isBottom_ok 15 rfl)
  · skip
    refine lv_aload_n hx hb (dk kX1_isBottom_ok 6 rfl) rfl (lv_at hl 0 rfl) ?_
    refine gf hx hb hts (fun w h => List.mem_cons_of_mem _ (acX1 w h)) hown hK hP hk0 f0 rfl 1 (by decide) (hts _ (List.mem_cons_of_mem _ (ac0 _ (List.mem_of_getElem? (i := 23) rfl)))) (fun _ h => h) rfl (dk kX1_isBottom_ok 7 rfl) ?_
    refine lv_iload_n hx hb (dk kX1_isBottom_ok 8 rfl) rfl (lv_at hl 1 rfl) ?_
    refine ald (j := w) hx hb hK hP hk2 f2 rfl (by omega) (by decide) (dk kX1_isBottom_ok 9 rfl) ?_
    refine lv_iconst (v := -1) hx hb (dk kX1_isBottom_ok 10 rfl) rfl ?_
    refine lv_icmp_ne (tgt := 24) hx hb (dk kX1_isBottom_ok 11 rfl) (by decide) (fun h2 => ?_) (fun h2 => ?_)
    · skip
      refine lv_iconst (v := nI 0) hx hb (dk kX1_isBottom_ok 14 rfl) rfl ?_
      exact hret _ _ _ (by simp [bot, h1, h2, bI]) (dk kX1_isBottom_ok 15 rfl)
    · skip
      refine lv_iconst (v := nI 1) hx hb (dk kX1_isBottom_ok 12 rfl) rfl ?_
      refine lv_goto (tgt := 25) hx hb (dk kX1_isBottom_ok 13 rfl) (by decide) ?_
      exact hret _ _ _ (by simp [bot, h1, h2, bI]) (dk kX1_isBottom_ok 15 rfl)
set_option maxRecDepth 100000 in
set_option maxHeartbeats 4000000 in
theorem tX1_piles (l : Launch) (D : va_G) (cI cQ cL : ClassId) (ad : Nat → Nat) (N : Nat) (F : Nat → va_E) (k : Nat) (hk : k + 3 < N) (c b v : Nat → Int32) (hM : matAt cI ad F k c b v) : MR l yX1_piles (Cond.code yX1_piles cX1_piles 3 (some .int) :: AW) ({ frames := 1, cells := 0, slots := 0, locals := 21 } : Room) D cI cQ cL ad N F [.ref (ad k)] (.int (nI (cnt (bot c b) 16))) := by
  refine mr_i (ty := .int) (by decide +kernel) rfl rfl rfl rfl (Nat.le_of_ble_eq_true rfl) (fun p e s m below meth cd Q ls hx hb hml hown hts hP hK hNW hret hl => ?_)
  have hown : s.vm.findClass RX1 = some m.cls := hown
  obtain ⟨f0, f1, f2, f3⟩ := id hM
  have hk0 : k < N := by omega
  have hk1 : k + 1 < N := by omega
  have hk2 : k + 2 < N := by omega
  have hk3 : k + 3 < N := hk
  have hl : lv_has ls 3 [(0, .ref (ad k))] := hl
  refine lv_iconst (v := nI 0) hx hb (dk kX1_piles_ok 0 rfl) rfl ?_
  refine lv_istore_n (lv' := [(1, .int (nI 0)), (0, .ref (ad k))]) hx hb (dk kX1_piles_ok 1 rfl) rfl hl (by decide) rfl (fun ls hl => ?_)
  refine lv_iconst (v := nI 0) hx hb (dk kX1_piles_ok 2 rfl) rfl ?_
  refine lv_istore_n (lv' := [(2, .int (nI 0)), (1, .int (nI 0)), (0, .ref (ad k))]) hx hb (dk kX1_piles_ok 3 rfl) rfl hl (by decide) rfl (fun ls hl => ?_)
  have L4 : ∀ (fu : Nat) (i : Nat) (x1 : Int32), x1 = nI (cnt (bot c b) i) → i ≤ 16 → 16 - i < fu → ∀ ls : Array Slot, lv_has ls 3 [(0, .ref (ad k)), (1, .int x1), (2, .int (nI i))] → W p l e ({ frames := 1, cells := 0, slots := 0, locals := 21 } : Room) s m ([.ref (ad k)] : List Value).toArray below meth cd s.heap [] 0 0 Q (F0 m 4 ls []) := by
    intro fu
    induction fu with
    | zero => intros; omega
    | succ fu ih4 =>
      intro i x1 ex1 hi hm4 ls hl
      subst ex1
      refine lv_iload_n hx hb (dk kX1_piles_ok 4 rfl) rfl (lv_at hl 2 rfl) ?_
      refine lv_bipush (v := nI 16) hx hb (dk kX1_piles_ok 5 rfl) rfl ?_
      refine n_icmp_ge (tgt := 27) hx hb (by omega) (by decide) (dk kX1_piles_ok 6 rfl) (by decide) (fun h1 => ?_) (fun h1 => ?_)
      · skip
        refine lv_iload_n hx hb (dk kX1_piles_ok 14 rfl) rfl (lv_at hl 1 rfl) ?_
        exact hret _ _ _ (by rw [show i = 16 by omega] <;> rfl) (dk kX1_piles_ok 15 rfl)
      · skip
        refine lv_aload_n hx hb (dk kX1_piles_ok 7 rfl) rfl (lv_at hl 0 rfl) ?_
        refine lv_iload_n hx hb (dk kX1_piles_ok 8 rfl) rfl (lv_at hl 2 rfl) ?_
        refine cvR (As := [.int (nI i)]) (rest := []) ⟨hx, hb, hml, hown, hts⟩ (tX1_isBottom l D cI cQ cL ad N F k hk c b v hM (nI i) i rfl (by omega)) (cwV9 1 hts mcX1_isBottom (ac2 _ (List.mem_of_getElem? (i := 4) rfl)) miX1_isBottom meX1_isBottom mini_RX1 rfl rfl hdX1_isBottom ⟨Nat.le_of_ble_eq_true rfl, Nat.le_of_ble_eq_true rfl⟩) hK hP hNW hk0 f0 rfl rfl hl.1 rfl (Nat.le_of_ble_eq_true rfl) (by decide) (dk kX1_piles_ok 9 rfl) ?_
        refine b_if_eq (tgt := 21) hx hb (dk kX1_piles_ok 10 rfl) (by decide) (fun h2 => ?_) (fun h2 => ?_)
        · skip
          refine lv_iinc (v := nI (i + 1)) (lv' := [(2, .int (nI (i + 1))), (0, .ref (ad k)), (1, .int (nI (cnt (bot c b) i)))]) hx hb (dk kX1_piles_ok 12 rfl) hl (k := 2) rfl (n_inc _) (by decide) rfl (fun ls hl => ?_)
          refine lv_goto (tgt := 4) hx hb (dk kX1_piles_ok 13 rfl) (by decide) ?_
          exact ih4 (i + 1) _ (by simp [cnt, h1, h2]) (by omega) (by omega) ls (lv_sub hl [1, 2, 0] rfl)
        · skip
          refine lv_iinc (v := nI ((cnt (bot c b) i) + 1)) (lv' := [(1, .int (nI ((cnt (bot c b) i) + 1))), (0, .ref (ad k)), (2, .int (nI i))]) hx hb (dk kX1_piles_ok 11 rfl) hl (k := 1) rfl (n_inc _) (by decide) rfl (fun ls hl => ?_)
          refine lv_iinc (v := nI (i + 1)) (lv' := [(2, .int (nI (i + 1))), (1, .int (nI ((cnt (bot c b) i) + 1))), (0, .ref (ad k))]) hx hb (dk kX1_piles_ok 12 rfl) hl (k := 2) rfl (n_inc _) (by decide) rfl (fun ls hl => ?_)
          refine lv_goto (tgt := 4) hx hb (dk kX1_piles_ok 13 rfl) (by decide) ?_
          exact ih4 (i + 1) _ (by simp [cnt, h1, h2]) (by omega) (by omega) ls (lv_sub hl [2, 1, 0] rfl)
  exact L4 _ 0 _ (by first | rfl | omega) (by first | rfl | omega) (Nat.lt_succ_self _) ls (lv_sub hl [2, 1, 0] rfl)
set_option maxRecDepth 100000 in
set_option maxHeartbeats 4000000 in
theorem tX1_highest (l : Launch) (D : va_G) (cI cQ cL : ClassId) (ad : Nat → Nat) (N : Nat) (F : Nat → va_E) (k : Nat) (hk : k + 3 < N) (c b v : Nat → Int32) (hM : matAt cI ad F k c b v) : MR l yX1_highest (Cond.code yX1_highest cX1_highest 3 (some .int) :: AW) ({ frames := 1, cells := 0, slots := 0, locals := 23 } : Room) D cI cQ cL ad N F [.ref (ad k)] (.int (mxi (bot c b) (fun i => nI (hgt c (c i))) 16)) := by
  refine mr_i (ty := .int) (by decide +kernel) rfl rfl rfl rfl (Nat.le_of_ble_eq_true rfl) (fun p e s m below meth cd Q ls hx hb hml hown hts hP hK hNW hret hl => ?_)
  have hown : s.vm.findClass RX1 = some m.cls := hown
  obtain ⟨f0, f1, f2, f3⟩ := id hM
  have hk0 : k < N := by omega
  have hk1 : k + 1 < N := by omega
  have hk2 : k + 2 < N := by omega
  have hk3 : k + 3 < N := hk
  have hl : lv_has ls 3 [(0, .ref (ad k))] := hl
  refine lv_iconst (v := nI 0) hx hb (dk kX1_highest_ok 0 rfl) rfl ?_
  refine lv_istore_n (lv' := [(1, .int (nI 0)), (0, .ref (ad k))]) hx hb (dk kX1_highest_ok 1 rfl) rfl hl (by decide) rfl (fun ls hl => ?_)
  refine lv_iconst (v := nI 0) hx hb (dk kX1_highest_ok 2 rfl) rfl ?_
  refine lv_istore_n (lv' := [(2, .int (nI 0)), (1, .int (nI 0)), (0, .ref (ad k))]) hx hb (dk kX1_highest_ok 3 rfl) rfl hl (by decide) rfl (fun ls hl => ?_)
  have L4 : ∀ (fu : Nat) (i : Nat) (x1 : Int32), x1 = mxi (bot c b) (fun i => nI (hgt c (c i))) i → i ≤ 16 → 16 - i < fu → ∀ ls : Array Slot, lv_has ls 3 [(0, .ref (ad k)), (1, .int x1), (2, .int (nI i))] → W p l e ({ frames := 1, cells := 0, slots := 0, locals := 23 } : Room) s m ([.ref (ad k)] : List Value).toArray below meth cd s.heap [] 0 0 Q (F0 m 4 ls []) := by
    intro fu
    induction fu with
    | zero => intros; omega
    | succ fu ih4 =>
      intro i x1 ex1 hi hm4 ls hl
      subst ex1
      refine lv_iload_n hx hb (dk kX1_highest_ok 4 rfl) rfl (lv_at hl 2 rfl) ?_
      refine lv_bipush (v := nI 16) hx hb (dk kX1_highest_ok 5 rfl) rfl ?_
      refine n_icmp_ge (tgt := 39) hx hb (by omega) (by decide) (dk kX1_highest_ok 6 rfl) (by decide) (fun h1 => ?_) (fun h1 => ?_)
      · skip
        refine lv_iload_n hx hb (dk kX1_highest_ok 22 rfl) rfl (lv_at hl 1 rfl) ?_
        exact hret _ _ _ (by rw [show i = 16 by omega] <;> rfl) (dk kX1_highest_ok 23 rfl)
      · skip
        refine lv_aload_n hx hb (dk kX1_highest_ok 7 rfl) rfl (lv_at hl 0 rfl) ?_
        refine lv_iload_n hx hb (dk kX1_highest_ok 8 rfl) rfl (lv_at hl 2 rfl) ?_
        refine cvR (As := [.int (nI i)]) (rest := []) ⟨hx, hb, hml, hown, hts⟩ (tX1_isBottom l D cI cQ cL ad N F k hk c b v hM (nI i) i rfl (by omega)) (cwV9 1 hts mcX1_isBottom (ac2 _ (List.mem_of_getElem? (i := 4) rfl)) miX1_isBottom meX1_isBottom mini_RX1 rfl rfl hdX1_isBottom ⟨Nat.le_of_ble_eq_true rfl, Nat.le_of_ble_eq_true rfl⟩) hK hP hNW hk0 f0 rfl rfl hl.1 rfl (Nat.le_of_ble_eq_true rfl) (by decide) (dk kX1_highest_ok 9 rfl) ?_
        refine b_if_eq (tgt := 33) hx hb (dk kX1_highest_ok 10 rfl) (by decide) (fun h2 => ?_) (fun h2 => ?_)
        · skip
          refine lv_iinc (v := nI (i + 1)) (lv' := [(2, .int (nI (i + 1))), (0, .ref (ad k)), (1, .int (mxi (bot c b) (fun i => nI (hgt c (c i))) i))]) hx hb (dk kX1_highest_ok 20 rfl) hl (k := 2) rfl (n_inc _) (by decide) rfl (fun ls hl => ?_)
          refine lv_goto (tgt := 4) hx hb (dk kX1_highest_ok 21 rfl) (by decide) ?_
          exact ih4 (i + 1) _ (by simp [mxi, h1, h2]) (by omega) (by omega) ls (lv_sub hl [1, 2, 0] rfl)
        · skip
          refine lv_iload_n hx hb (dk kX1_highest_ok 11 rfl) rfl (lv_at hl 1 rfl) ?_
          refine lv_aload_n hx hb (dk kX1_highest_ok 12 rfl) rfl (lv_at hl 0 rfl) ?_
          refine lv_aload_n hx hb (dk kX1_highest_ok 13 rfl) rfl (lv_at hl 0 rfl) ?_
          refine gf hx hb hts (fun w h => List.mem_cons_of_mem _ (acX1 w h)) hown hK hP hk0 f0 rfl 0 (by decide) (hts _ (List.mem_cons_of_mem _ (ac0 _ (List.mem_of_getElem? (i := 22) rfl)))) (fun _ h => h) rfl (dk kX1_highest_ok 14 rfl) ?_
          refine lv_iload_n hx hb (dk kX1_highest_ok 15 rfl) rfl (lv_at hl 2 rfl) ?_
          refine ald (j := i) hx hb hK hP hk1 f1 rfl (by omega) (by decide) (dk kX1_highest_ok 16 rfl) ?_
          refine cvR (As := [.int (c i)]) (rest := [.int (mxi (bot c b) (fun i => nI (hgt c (c i))) i)]) ⟨hx, hb, hml, hown, hts⟩ (tX1_heightAt l D cI cQ cL ad N F k hk c b v hM (c i)) (cwV9 1 hts mcX1_heightAt (ac2 _ (List.mem_of_getElem? (i := 12) rfl)) miX1_heightAt meX1_heightAt mini_RX1 rfl rfl hdX1_heightAt ⟨Nat.le_of_ble_eq_true rfl, Nat.le_of_ble_eq_true rfl⟩) hK hP hNW hk0 f0 rfl rfl hl.1 rfl (Nat.le_of_ble_eq_true rfl) (by decide) (dk kX1_highest_ok 17 rfl) ?_
          refine va_mmax hx hb (by rw [hml, hl.1]) hown (hts _ (List.mem_cons_of_mem _ (ac2 _ (List.mem_of_getElem? (i := 8) rfl)))) (hts _ (List.mem_cons_of_mem _ (ac2 _ (List.mem_of_getElem? (i := 9) rfl)))) (hts _ (List.mem_cons_of_mem _ (ac2 _ (List.mem_of_getElem? (i := 10) rfl)))) (hts _ (List.mem_cons_of_mem _ (ac2 _ (List.mem_of_getElem? (i := 11) rfl)))) (Nat.le_of_ble_eq_true rfl) (Nat.le_of_ble_eq_true rfl) (Nat.le_of_ble_eq_true rfl) (Nat.le_of_ble_eq_true rfl) (dk kX1_highest_ok 18 rfl) ?_
          refine lv_istore_n (lv' := [(1, .int (imax (mxi (bot c b) (fun i => nI (hgt c (c i))) i) (nI (hgt c (c i))))), (0, .ref (ad k)), (2, .int (nI i))]) hx hb (dk kX1_highest_ok 19 rfl) rfl hl (by decide) rfl (fun ls hl => ?_)
          refine lv_iinc (v := nI (i + 1)) (lv' := [(2, .int (nI (i + 1))), (1, .int (imax (mxi (bot c b) (fun i => nI (hgt c (c i))) i) (nI (hgt c (c i))))), (0, .ref (ad k))]) hx hb (dk kX1_highest_ok 20 rfl) hl (k := 2) rfl (n_inc _) (by decide) rfl (fun ls hl => ?_)
          refine lv_goto (tgt := 4) hx hb (dk kX1_highest_ok 21 rfl) (by decide) ?_
          exact ih4 (i + 1) _ (by simp [mxi, h1, h2]) (by omega) (by omega) ls (lv_sub hl [2, 1, 0] rfl)
  exact L4 _ 0 _ (by first | rfl | omega) (by first | rfl | omega) (Nat.lt_succ_self _) ls (lv_sub hl [2, 1, 0] rfl)
set_option maxRecDepth 100000 in
set_option maxHeartbeats 4000000 in
theorem tX1_coveredByPiles (l : Launch) (D : va_G) (cI cQ cL : ClassId) (ad : Nat → Nat) (N : Nat) (F : Nat → va_E) (k : Nat) (hk : k + 3 < N) (c b v : Nat → Int32) (hM : matAt cI ad F k c b v) : MR l yX1_coveredByPiles (Cond.code yX1_coveredByPiles cX1_coveredByPiles 3 (some .int) :: AW) ({ frames := 1, cells := 0, slots := 0, locals := 23 } : Room) D cI cQ cL ad N F [.ref (ad k)] (.int (nI (sm (fun i => if bot c b i = true then hgt c (c i) - 1 else 0) 16))) := by
  refine mr_i (ty := .int) (by decide +kernel) rfl rfl rfl rfl (Nat.le_of_ble_eq_true rfl) (fun p e s m below meth cd Q ls hx hb hml hown hts hP hK hNW hret hl => ?_)
  have hown : s.vm.findClass RX1 = some m.cls := hown
  obtain ⟨f0, f1, f2, f3⟩ := id hM
  have hk0 : k < N := by omega
  have hk1 : k + 1 < N := by omega
  have hk2 : k + 2 < N := by omega
  have hk3 : k + 3 < N := hk
  have hl : lv_has ls 3 [(0, .ref (ad k))] := hl
  refine lv_iconst (v := nI 0) hx hb (dk kX1_coveredByPiles_ok 0 rfl) rfl ?_
  refine lv_istore_n (lv' := [(1, .int (nI 0)), (0, .ref (ad k))]) hx hb (dk kX1_coveredByPiles_ok 1 rfl) rfl hl (by decide) rfl (fun ls hl => ?_)
  refine lv_iconst (v := nI 0) hx hb (dk kX1_coveredByPiles_ok 2 rfl) rfl ?_
  refine lv_istore_n (lv' := [(2, .int (nI 0)), (1, .int (nI 0)), (0, .ref (ad k))]) hx hb (dk kX1_coveredByPiles_ok 3 rfl) rfl hl (by decide) rfl (fun ls hl => ?_)
  have L4 : ∀ (fu : Nat) (i : Nat) (x1 : Int32), x1 = nI (sm (fun i => if bot c b i = true then hgt c (c i) - 1 else 0) i) → i ≤ 16 → 16 - i < fu → ∀ ls : Array Slot, lv_has ls 3 [(0, .ref (ad k)), (1, .int x1), (2, .int (nI i))] → W p l e ({ frames := 1, cells := 0, slots := 0, locals := 23 } : Room) s m ([.ref (ad k)] : List Value).toArray below meth cd s.heap [] 0 0 Q (F0 m 4 ls []) := by
    intro fu
    induction fu with
    | zero => intros; omega
    | succ fu ih4 =>
      intro i x1 ex1 hi hm4 ls hl
      subst ex1
      refine lv_iload_n hx hb (dk kX1_coveredByPiles_ok 4 rfl) rfl (lv_at hl 2 rfl) ?_
      refine lv_bipush (v := nI 16) hx hb (dk kX1_coveredByPiles_ok 5 rfl) rfl ?_
      refine n_icmp_ge (tgt := 39) hx hb (by omega) (by decide) (dk kX1_coveredByPiles_ok 6 rfl) (by decide) (fun h1 => ?_) (fun h1 => ?_)
      · skip
        refine lv_iload_n hx hb (dk kX1_coveredByPiles_ok 24 rfl) rfl (lv_at hl 1 rfl) ?_
        exact hret _ _ _ (by rw [show i = 16 by omega] <;> rfl) (dk kX1_coveredByPiles_ok 25 rfl)
      · skip
        refine lv_aload_n hx hb (dk kX1_coveredByPiles_ok 7 rfl) rfl (lv_at hl 0 rfl) ?_
        refine lv_iload_n hx hb (dk kX1_coveredByPiles_ok 8 rfl) rfl (lv_at hl 2 rfl) ?_
        refine cvR (As := [.int (nI i)]) (rest := []) ⟨hx, hb, hml, hown, hts⟩ (tX1_isBottom l D cI cQ cL ad N F k hk c b v hM (nI i) i rfl (by omega)) (cwV9 1 hts mcX1_isBottom (ac2 _ (List.mem_of_getElem? (i := 4) rfl)) miX1_isBottom meX1_isBottom mini_RX1 rfl rfl hdX1_isBottom ⟨Nat.le_of_ble_eq_true rfl, Nat.le_of_ble_eq_true rfl⟩) hK hP hNW hk0 f0 rfl rfl hl.1 rfl (Nat.le_of_ble_eq_true rfl) (by decide) (dk kX1_coveredByPiles_ok 9 rfl) ?_
        refine b_if_eq (tgt := 33) hx hb (dk kX1_coveredByPiles_ok 10 rfl) (by decide) (fun h2 => ?_) (fun h2 => ?_)
        · skip
          refine lv_iinc (v := nI (i + 1)) (lv' := [(2, .int (nI (i + 1))), (0, .ref (ad k)), (1, .int (nI (sm (fun i => if bot c b i = true then hgt c (c i) - 1 else 0) i)))]) hx hb (dk kX1_coveredByPiles_ok 22 rfl) hl (k := 2) rfl (n_inc _) (by decide) rfl (fun ls hl => ?_)
          refine lv_goto (tgt := 4) hx hb (dk kX1_coveredByPiles_ok 23 rfl) (by decide) ?_
          exact ih4 (i + 1) _ (by simp [sm, h1, h2]) (by omega) (by omega) ls (lv_sub hl [1, 2, 0] rfl)
        · skip
          refine lv_iload_n hx hb (dk kX1_coveredByPiles_ok 11 rfl) rfl (lv_at hl 1 rfl) ?_
          refine lv_aload_n hx hb (dk kX1_coveredByPiles_ok 12 rfl) rfl (lv_at hl 0 rfl) ?_
          refine lv_aload_n hx hb (dk kX1_coveredByPiles_ok 13 rfl) rfl (lv_at hl 0 rfl) ?_
          refine gf hx hb hts (fun w h => List.mem_cons_of_mem _ (acX1 w h)) hown hK hP hk0 f0 rfl 0 (by decide) (hts _ (List.mem_cons_of_mem _ (ac0 _ (List.mem_of_getElem? (i := 22) rfl)))) (fun _ h => h) rfl (dk kX1_coveredByPiles_ok 14 rfl) ?_
          refine lv_iload_n hx hb (dk kX1_coveredByPiles_ok 15 rfl) rfl (lv_at hl 2 rfl) ?_
          refine ald (j := i) hx hb hK hP hk1 f1 rfl (by omega) (by decide) (dk kX1_coveredByPiles_ok 16 rfl) ?_
          refine cvR (As := [.int (c i)]) (rest := [.int (nI (sm (fun i => if bot c b i = true then hgt c (c i) - 1 else 0) i))]) ⟨hx, hb, hml, hown, hts⟩ (tX1_heightAt l D cI cQ cL ad N F k hk c b v hM (c i)) (cwV9 1 hts mcX1_heightAt (ac2 _ (List.mem_of_getElem? (i := 12) rfl)) miX1_heightAt meX1_heightAt mini_RX1 rfl rfl hdX1_heightAt ⟨Nat.le_of_ble_eq_true rfl, Nat.le_of_ble_eq_true rfl⟩) hK hP hNW hk0 f0 rfl rfl hl.1 rfl (Nat.le_of_ble_eq_true rfl) (by decide) (dk kX1_coveredByPiles_ok 17 rfl) ?_
          refine lv_iconst (v := nI 1) hx hb (dk kX1_coveredByPiles_ok 18 rfl) rfl ?_
          refine n_isub hx hb (by exact cnt_pos (i := i) (by omega) (by simp)) (dk kX1_coveredByPiles_ok 19 rfl) ?_
          refine n_iadd hx hb (dk kX1_coveredByPiles_ok 20 rfl) ?_
          refine lv_istore_n (lv' := [(1, .int (nI ((sm (fun i => if bot c b i = true then hgt c (c i) - 1 else 0) i) + ((hgt c (c i)) - 1)))), (0, .ref (ad k)), (2, .int (nI i))]) hx hb (dk kX1_coveredByPiles_ok 21 rfl) rfl hl (by decide) rfl (fun ls hl => ?_)
          refine lv_iinc (v := nI (i + 1)) (lv' := [(2, .int (nI (i + 1))), (1, .int (nI ((sm (fun i => if bot c b i = true then hgt c (c i) - 1 else 0) i) + ((hgt c (c i)) - 1)))), (0, .ref (ad k))]) hx hb (dk kX1_coveredByPiles_ok 22 rfl) hl (k := 2) rfl (n_inc _) (by decide) rfl (fun ls hl => ?_)
          refine lv_goto (tgt := 4) hx hb (dk kX1_coveredByPiles_ok 23 rfl) (by decide) ?_
          exact ih4 (i + 1) _ (by simp [sm, h1, h2]) (by omega) (by omega) ls (lv_sub hl [2, 1, 0] rfl)
  exact L4 _ 0 _ (by first | rfl | omega) (by first | rfl | omega) (Nat.lt_succ_self _) ls (lv_sub hl [2, 1, 0] rfl)
set_option maxRecDepth 100000 in
set_option maxHeartbeats 4000000 in
theorem tX1_coveredOf (l : Launch) (D : va_G) (cI cQ cL : ClassId) (ad : Nat → Nat) (N : Nat) (F : Nat → va_E) (k : Nat) (hk : k + 3 < N) (c b v : Nat → Int32) (hM : matAt cI ad F k c b v) (x : Int32) (w : Nat) (hxw : x = nI w) (hw : w < 4) : MR l yX1_coveredOf (Cond.code yX1_coveredOf cX1_coveredOf 4 (some .int) :: AW) ({ frames := 1, cells := 0, slots := 0, locals := 21 } : Room) D cI cQ cL ad N F [.ref (ad k), .int x] (.int (nI (covc v w))) := by
  refine mr_i (ty := .int) (by decide +kernel) rfl rfl rfl rfl (Nat.le_of_ble_eq_true rfl) (fun p e s m below meth cd Q ls hx hb hml hown hts hP hK hNW hret hl => ?_)
  have hown : s.vm.findClass RX1 = some m.cls := hown
  subst hxw
  obtain ⟨f0, f1, f2, f3⟩ := id hM
  have hk0 : k < N := by omega
  have hk1 : k + 1 < N := by omega
  have hk2 : k + 2 < N := by omega
  have hk3 : k + 3 < N := hk
  have hl : lv_has ls 4 [(0, .ref (ad k)), (1, .int (nI w))] := hl
  refine lv_iconst (v := nI 0) hx hb (dk kX1_coveredOf_ok 0 rfl) rfl ?_
  refine lv_istore_n (lv' := [(2, .int (nI 0)), (0, .ref (ad k)), (1, .int (nI w))]) hx hb (dk kX1_coveredOf_ok 1 rfl) rfl hl (by decide) rfl (fun ls hl => ?_)
  refine lv_iconst (v := nI 0) hx hb (dk kX1_coveredOf_ok 2 rfl) rfl ?_
  refine lv_istore_n (lv' := [(3, .int (nI 0)), (2, .int (nI 0)), (0, .ref (ad k)), (1, .int (nI w))]) hx hb (dk kX1_coveredOf_ok 3 rfl) rfl hl (by decide) rfl (fun ls hl => ?_)
  have L4 : ∀ (fu : Nat) (i : Nat) (x2 : Int32), x2 = nI (cnt (fun i => cov v (4 * w + i)) i) → i ≤ 4 → 4 - i < fu → ∀ ls : Array Slot, lv_has ls 4 [(0, .ref (ad k)), (1, .int (nI w)), (2, .int x2), (3, .int (nI i))] → W p l e ({ frames := 1, cells := 0, slots := 0, locals := 21 } : Room) s m ([.ref (ad k), .int (nI w)] : List Value).toArray below meth cd s.heap [] 0 0 Q (F0 m 4 ls []) := by
    intro fu
    induction fu with
    | zero => intros; omega
    | succ fu ih4 =>
      intro i x2 ex2 hi hm4 ls hl
      subst ex2
      refine lv_iload_n hx hb (dk kX1_coveredOf_ok 4 rfl) rfl (lv_at hl 3 rfl) ?_
      refine lv_iconst (v := nI 4) hx hb (dk kX1_coveredOf_ok 5 rfl) rfl ?_
      refine n_icmp_ge (tgt := 30) hx hb (by omega) (by decide) (dk kX1_coveredOf_ok 6 rfl) (by decide) (fun h1 => ?_) (fun h1 => ?_)
      · skip
        refine lv_iload_n hx hb (dk kX1_coveredOf_ok 18 rfl) rfl (lv_at hl 2 rfl) ?_
        exact hret _ _ _ (by rw [show i = 4 by omega] <;> rfl) (dk kX1_coveredOf_ok 19 rfl)
      · skip
        refine lv_aload_n hx hb (dk kX1_coveredOf_ok 7 rfl) rfl (lv_at hl 0 rfl) ?_
        refine lv_iconst (v := nI 4) hx hb (dk kX1_coveredOf_ok 8 rfl) rfl ?_
        refine lv_iload_n hx hb (dk kX1_coveredOf_ok 9 rfl) rfl (lv_at hl 1 rfl) ?_
        refine n_imul hx hb (dk kX1_coveredOf_ok 10 rfl) ?_
        refine lv_iload_n hx hb (dk kX1_coveredOf_ok 11 rfl) rfl (lv_at hl 3 rfl) ?_
        refine n_iadd hx hb (dk kX1_coveredOf_ok 12 rfl) ?_
        refine cvR (As := [.int (nI ((4 * w) + i))]) (rest := []) ⟨hx, hb, hml, hown, hts⟩ (tX1_isCovered l D cI cQ cL ad N F k hk c b v hM (nI ((4 * w) + i)) ((4 * w) + i) rfl (by omega)) (cwV9 1 hts mcX1_isCovered (ac2 _ (List.mem_of_getElem? (i := 16) rfl)) miX1_isCovered meX1_isCovered mini_RX1 rfl rfl hdX1_isCovered ⟨Nat.le_of_ble_eq_true rfl, Nat.le_of_ble_eq_true rfl⟩) hK hP hNW hk0 f0 rfl rfl hl.1 rfl (Nat.le_of_ble_eq_true rfl) (by decide) (dk kX1_coveredOf_ok 13 rfl) ?_
        refine b_if_eq (tgt := 24) hx hb (dk kX1_coveredOf_ok 14 rfl) (by decide) (fun h2 => ?_) (fun h2 => ?_)
        · skip
          refine lv_iinc (v := nI (i + 1)) (lv' := [(3, .int (nI (i + 1))), (0, .ref (ad k)), (1, .int (nI w)), (2, .int (nI (cnt (fun i => cov v (4 * w + i)) i)))]) hx hb (dk kX1_coveredOf_ok 16 rfl) hl (k := 3) rfl (n_inc _) (by decide) rfl (fun ls hl => ?_)
          refine lv_goto (tgt := 4) hx hb (dk kX1_coveredOf_ok 17 rfl) (by decide) ?_
          exact ih4 (i + 1) _ (by simp [cnt, h1, h2]) (by omega) (by omega) ls (lv_sub hl [1, 2, 3, 0] rfl)
        · skip
          refine lv_iinc (v := nI ((cnt (fun i => cov v (4 * w + i)) i) + 1)) (lv' := [(2, .int (nI ((cnt (fun i => cov v (4 * w + i)) i) + 1))), (0, .ref (ad k)), (1, .int (nI w)), (3, .int (nI i))]) hx hb (dk kX1_coveredOf_ok 15 rfl) hl (k := 2) rfl (n_inc _) (by decide) rfl (fun ls hl => ?_)
          refine lv_iinc (v := nI (i + 1)) (lv' := [(3, .int (nI (i + 1))), (2, .int (nI ((cnt (fun i => cov v (4 * w + i)) i) + 1))), (0, .ref (ad k)), (1, .int (nI w))]) hx hb (dk kX1_coveredOf_ok 16 rfl) hl (k := 3) rfl (n_inc _) (by decide) rfl (fun ls hl => ?_)
          refine lv_goto (tgt := 4) hx hb (dk kX1_coveredOf_ok 17 rfl) (by decide) ?_
          exact ih4 (i + 1) _ (by simp [cnt, h1, h2]) (by omega) (by omega) ls (lv_sub hl [2, 3, 1, 0] rfl)
  exact L4 _ 0 _ (by first | rfl | omega) (by first | rfl | omega) (Nat.lt_succ_self _) ls (lv_sub hl [2, 3, 1, 0] rfl)
set_option maxRecDepth 100000 in
set_option maxHeartbeats 4000000 in
theorem tX1_coveredOfTeam (l : Launch) (D : va_G) (cI cQ cL : ClassId) (ad : Nat → Nat) (N : Nat) (F : Nat → va_E) (k : Nat) (hk : k + 3 < N) (c b v : Nat → Int32) (hM : matAt cI ad F k c b v) (x : Int32) (w : Nat) (hxw : x = nI w) (hw : w < 2) : MR l yX1_coveredOfTeam (Cond.code yX1_coveredOfTeam cX1_coveredOfTeam 2 (some .int) :: AW) ({ frames := 2, cells := 0, slots := 0, locals := 44 } : Room) D cI cQ cL ad N F [.ref (ad k), .int x] (.int (nI (covc v w + covc v (w + 2)))) := by
  refine mr_i (ty := .int) (by decide +kernel) rfl rfl rfl rfl (Nat.le_of_ble_eq_true rfl) (fun p e s m below meth cd Q ls hx hb hml hown hts hP hK hNW hret hl => ?_)
  have hown : s.vm.findClass RX1 = some m.cls := hown
  subst hxw
  obtain ⟨f0, f1, f2, f3⟩ := id hM
  have hk0 : k < N := by omega
  have hk1 : k + 1 < N := by omega
  have hk2 : k + 2 < N := by omega
  have hk3 : k + 3 < N := hk
  have hl : lv_has ls 2 [(0, .ref (ad k)), (1, .int (nI w))] := hl
  refine lv_aload_n hx hb (dk kX1_coveredOfTeam_ok 0 rfl) rfl (lv_at hl 0 rfl) ?_
  refine lv_iload_n hx hb (dk kX1_coveredOfTeam_ok 1 rfl) rfl (lv_at hl 1 rfl) ?_
  refine cvR (As := [.int (nI w)]) (rest := []) ⟨hx, hb, hml, hown, hts⟩ (tX1_coveredOf l D cI cQ cL ad N F k hk c b v hM (nI w) w rfl (by omega)) (cwV9 1 hts mcX1_coveredOf (ac2 _ (List.mem_of_getElem? (i := 20) rfl)) miX1_coveredOf meX1_coveredOf mini_RX1 rfl rfl hdX1_coveredOf ⟨Nat.le_of_ble_eq_true rfl, Nat.le_of_ble_eq_true rfl⟩) hK hP hNW hk0 f0 rfl rfl hl.1 rfl (Nat.le_of_ble_eq_true rfl) (by decide) (dk kX1_coveredOfTeam_ok 2 rfl) ?_
  refine lv_aload_n hx hb (dk kX1_coveredOfTeam_ok 3 rfl) rfl (lv_at hl 0 rfl) ?_
  refine lv_iload_n hx hb (dk kX1_coveredOfTeam_ok 4 rfl) rfl (lv_at hl 1 rfl) ?_
  refine lv_iconst (v := nI 2) hx hb (dk kX1_coveredOfTeam_ok 5 rfl) rfl ?_
  refine n_iadd hx hb (dk kX1_coveredOfTeam_ok 6 rfl) ?_
  refine cvR (As := [.int (nI (w + 2))]) (rest := [.int (nI (covc v w))]) ⟨hx, hb, hml, hown, hts⟩ (tX1_coveredOf l D cI cQ cL ad N F k hk c b v hM (nI (w + 2)) (w + 2) rfl (by omega)) (cwV9 1 hts mcX1_coveredOf (ac2 _ (List.mem_of_getElem? (i := 20) rfl)) miX1_coveredOf meX1_coveredOf mini_RX1 rfl rfl hdX1_coveredOf ⟨Nat.le_of_ble_eq_true rfl, Nat.le_of_ble_eq_true rfl⟩) hK hP hNW hk0 f0 rfl rfl hl.1 rfl (Nat.le_of_ble_eq_true rfl) (by decide) (dk kX1_coveredOfTeam_ok 7 rfl) ?_
  refine n_iadd hx hb (dk kX1_coveredOfTeam_ok 8 rfl) ?_
  exact hret _ _ _ (by rfl) (dk kX1_coveredOfTeam_ok 9 rfl)
set_option maxRecDepth 100000 in
set_option maxHeartbeats 4000000 in
theorem tX1_coveredByWinks (l : Launch) (D : va_G) (cI cQ cL : ClassId) (ad : Nat → Nat) (N : Nat) (F : Nat → va_E) (k : Nat) (hk : k + 3 < N) (c b v : Nat → Int32) (hM : matAt cI ad F k c b v) : MR l yX1_coveredByWinks (Cond.code yX1_coveredByWinks cX1_coveredByWinks 1 (some .int) :: AW) ({ frames := 3, cells := 0, slots := 0, locals := 65 } : Room) D cI cQ cL ad N F [.ref (ad k)] (.int (nI ((covc v 0 + covc v (0 + 2)) + (covc v 1 + covc v (1 + 2))))) := by
  refine mr_i (ty := .int) (by decide +kernel) rfl rfl rfl rfl (Nat.le_of_ble_eq_true rfl) (fun p e s m below meth cd Q ls hx hb hml hown hts hP hK hNW hret hl => ?_)
  have hown : s.vm.findClass RX1 = some m.cls := hown
  obtain ⟨f0, f1, f2, f3⟩ := id hM
  have hk0 : k < N := by omega
  have hk1 : k + 1 < N := by omega
  have hk2 : k + 2 < N := by omega
  have hk3 : k + 3 < N := hk
  have hl : lv_has ls 1 [(0, .ref (ad k))] := hl
  refine lv_aload_n hx hb (dk kX1_coveredByWinks_ok 0 rfl) rfl (lv_at hl 0 rfl) ?_
  refine lv_iconst (v := nI 0) hx hb (dk kX1_coveredByWinks_ok 1 rfl) rfl ?_
  refine cvR (As := [.int (nI 0)]) (rest := []) ⟨hx, hb, hml, hown, hts⟩ (tX1_coveredOfTeam l D cI cQ cL ad N F k hk c b v hM (nI 0) 0 rfl (by omega)) (cwV9 1 hts mcX1_coveredOfTeam (ac3 _ (List.mem_of_getElem? (i := 0) rfl)) miX1_coveredOfTeam meX1_coveredOfTeam mini_RX1 rfl rfl hdX1_coveredOfTeam ⟨Nat.le_of_ble_eq_true rfl, Nat.le_of_ble_eq_true rfl⟩) hK hP hNW hk0 f0 rfl rfl hl.1 rfl (Nat.le_of_ble_eq_true rfl) (by decide) (dk kX1_coveredByWinks_ok 2 rfl) ?_
  refine lv_aload_n hx hb (dk kX1_coveredByWinks_ok 3 rfl) rfl (lv_at hl 0 rfl) ?_
  refine lv_iconst (v := nI 1) hx hb (dk kX1_coveredByWinks_ok 4 rfl) rfl ?_
  refine cvR (As := [.int (nI 1)]) (rest := [.int (nI (covc v 0 + covc v (0 + 2)))]) ⟨hx, hb, hml, hown, hts⟩ (tX1_coveredOfTeam l D cI cQ cL ad N F k hk c b v hM (nI 1) 1 rfl (by omega)) (cwV9 1 hts mcX1_coveredOfTeam (ac3 _ (List.mem_of_getElem? (i := 0) rfl)) miX1_coveredOfTeam meX1_coveredOfTeam mini_RX1 rfl rfl hdX1_coveredOfTeam ⟨Nat.le_of_ble_eq_true rfl, Nat.le_of_ble_eq_true rfl⟩) hK hP hNW hk0 f0 rfl rfl hl.1 rfl (Nat.le_of_ble_eq_true rfl) (by decide) (dk kX1_coveredByWinks_ok 5 rfl) ?_
  refine n_iadd hx hb (dk kX1_coveredByWinks_ok 6 rfl) ?_
  exact hret _ _ _ (by rfl) (dk kX1_coveredByWinks_ok 7 rfl)
set_option maxRecDepth 100000 in
set_option maxHeartbeats 4000000 in
theorem tX1_pottedOf (l : Launch) (D : va_G) (cI cQ cL : ClassId) (ad : Nat → Nat) (N : Nat) (F : Nat → va_E) (k : Nat) (hk : k + 3 < N) (c b v : Nat → Int32) (hM : matAt cI ad F k c b v) (x : Int32) (w : Nat) (hxw : x = nI w) (hw : w < 4) : MR l yX1_pottedOf (Cond.code yX1_pottedOf cX1_pottedOf 4 (some .int) :: AW) ({ frames := 0, cells := 0, slots := 0, locals := 0 } : Room) D cI cQ cL ad N F [.ref (ad k), .int x] (.int (nI (potc c w))) := by
  refine mr_i (ty := .int) (by decide +kernel) rfl rfl rfl rfl (Nat.le_of_ble_eq_true rfl) (fun p e s m below meth cd Q ls hx hb hml hown hts hP hK hNW hret hl => ?_)
  have hown : s.vm.findClass RX1 = some m.cls := hown
  subst hxw
  obtain ⟨f0, f1, f2, f3⟩ := id hM
  have hk0 : k < N := by omega
  have hk1 : k + 1 < N := by omega
  have hk2 : k + 2 < N := by omega
  have hk3 : k + 3 < N := hk
  have hl : lv_has ls 4 [(0, .ref (ad k)), (1, .int (nI w))] := hl
  refine lv_iconst (v := nI 0) hx hb (dk kX1_pottedOf_ok 0 rfl) rfl ?_
  refine lv_istore_n (lv' := [(2, .int (nI 0)), (0, .ref (ad k)), (1, .int (nI w))]) hx hb (dk kX1_pottedOf_ok 1 rfl) rfl hl (by decide) rfl (fun ls hl => ?_)
  refine lv_iconst (v := nI 0) hx hb (dk kX1_pottedOf_ok 2 rfl) rfl ?_
  refine lv_istore_n (lv' := [(3, .int (nI 0)), (2, .int (nI 0)), (0, .ref (ad k)), (1, .int (nI w))]) hx hb (dk kX1_pottedOf_ok 3 rfl) rfl hl (by decide) rfl (fun ls hl => ?_)
  have L4 : ∀ (fu : Nat) (i : Nat) (x2 : Int32), x2 = nI (cnt (fun i => decide (c (4 * w + i) = -1)) i) → i ≤ 4 → 4 - i < fu → ∀ ls : Array Slot, lv_has ls 4 [(0, .ref (ad k)), (1, .int (nI w)), (2, .int x2), (3, .int (nI i))] → W p l e ({ frames := 0, cells := 0, slots := 0, locals := 0 } : Room) s m ([.ref (ad k), .int (nI w)] : List Value).toArray below meth cd s.heap [] 0 0 Q (F0 m 4 ls []) := by
    intro fu
    induction fu with
    | zero => intros; omega
    | succ fu ih4 =>
      intro i x2 ex2 hi hm4 ls hl
      subst ex2
      refine lv_iload_n hx hb (dk kX1_pottedOf_ok 4 rfl) rfl (lv_at hl 3 rfl) ?_
      refine lv_iconst (v := nI 4) hx hb (dk kX1_pottedOf_ok 5 rfl) rfl ?_
      refine n_icmp_ge (tgt := 32) hx hb (by omega) (by decide) (dk kX1_pottedOf_ok 6 rfl) (by decide) (fun h1 => ?_) (fun h1 => ?_)
      · skip
        refine lv_iload_n hx hb (dk kX1_pottedOf_ok 20 rfl) rfl (lv_at hl 2 rfl) ?_
        exact hret _ _ _ (by rw [show i = 4 by omega] <;> rfl) (dk kX1_pottedOf_ok 21 rfl)
      · skip
        refine lv_aload_n hx hb (dk kX1_pottedOf_ok 7 rfl) rfl (lv_at hl 0 rfl) ?_
        refine gf hx hb hts (fun w h => List.mem_cons_of_mem _ (acX1 w h)) hown hK hP hk0 f0 rfl 0 (by decide) (hts _ (List.mem_cons_of_mem _ (ac0 _ (List.mem_of_getElem? (i := 22) rfl)))) (fun _ h => h) rfl (dk kX1_pottedOf_ok 8 rfl) ?_
        refine lv_iconst (v := nI 4) hx hb (dk kX1_pottedOf_ok 9 rfl) rfl ?_
        refine lv_iload_n hx hb (dk kX1_pottedOf_ok 10 rfl) rfl (lv_at hl 1 rfl) ?_
        refine n_imul hx hb (dk kX1_pottedOf_ok 11 rfl) ?_
        refine lv_iload_n hx hb (dk kX1_pottedOf_ok 12 rfl) rfl (lv_at hl 3 rfl) ?_
        refine n_iadd hx hb (dk kX1_pottedOf_ok 13 rfl) ?_
        refine ald (j := ((4 * w) + i)) hx hb hK hP hk1 f1 rfl (by omega) (by decide) (dk kX1_pottedOf_ok 14 rfl) ?_
        refine lv_iconst (v := -1) hx hb (dk kX1_pottedOf_ok 15 rfl) rfl ?_
        refine lv_icmp_ne (tgt := 26) hx hb (dk kX1_pottedOf_ok 16 rfl) (by decide) (fun h2 => ?_) (fun h2 => ?_)
        · skip
          refine lv_iinc (v := nI (i + 1)) (lv' := [(3, .int (nI (i + 1))), (0, .ref (ad k)), (1, .int (nI w)), (2, .int (nI (cnt (fun i => decide (c (4 * w + i) = -1)) i)))]) hx hb (dk kX1_pottedOf_ok 18 rfl) hl (k := 3) rfl (n_inc _) (by decide) rfl (fun ls hl => ?_)
          refine lv_goto (tgt := 4) hx hb (dk kX1_pottedOf_ok 19 rfl) (by decide) ?_
          exact ih4 (i + 1) _ (by simp [cnt, h1, h2]) (by omega) (by omega) ls (lv_sub hl [1, 2, 3, 0] rfl)
        · skip
          refine lv_iinc (v := nI ((cnt (fun i => decide (c (4 * w + i) = -1)) i) + 1)) (lv' := [(2, .int (nI ((cnt (fun i => decide (c (4 * w + i) = -1)) i) + 1))), (0, .ref (ad k)), (1, .int (nI w)), (3, .int (nI i))]) hx hb (dk kX1_pottedOf_ok 17 rfl) hl (k := 2) rfl (n_inc _) (by decide) rfl (fun ls hl => ?_)
          refine lv_iinc (v := nI (i + 1)) (lv' := [(3, .int (nI (i + 1))), (2, .int (nI ((cnt (fun i => decide (c (4 * w + i) = -1)) i) + 1))), (0, .ref (ad k)), (1, .int (nI w))]) hx hb (dk kX1_pottedOf_ok 18 rfl) hl (k := 3) rfl (n_inc _) (by decide) rfl (fun ls hl => ?_)
          refine lv_goto (tgt := 4) hx hb (dk kX1_pottedOf_ok 19 rfl) (by decide) ?_
          exact ih4 (i + 1) _ (by simp [cnt, h1, h2]) (by omega) (by omega) ls (lv_sub hl [2, 3, 1, 0] rfl)
  exact L4 _ 0 _ (by first | rfl | omega) (by first | rfl | omega) (Nat.lt_succ_self _) ls (lv_sub hl [2, 3, 1, 0] rfl)
set_option maxRecDepth 100000 in
set_option maxHeartbeats 4000000 in
theorem tX1_potted (l : Launch) (D : va_G) (cI cQ cL : ClassId) (ad : Nat → Nat) (N : Nat) (F : Nat → va_E) (k : Nat) (hk : k + 3 < N) (c b v : Nat → Int32) (hM : matAt cI ad F k c b v) : MR l yX1_potted (Cond.code yX1_potted cX1_potted 3 (some .int) :: AW) ({ frames := 1, cells := 0, slots := 0, locals := 23 } : Room) D cI cQ cL ad N F [.ref (ad k)] (.int (nI (potn c))) := by
  refine mr_i (ty := .int) (by decide +kernel) rfl rfl rfl rfl (Nat.le_of_ble_eq_true rfl) (fun p e s m below meth cd Q ls hx hb hml hown hts hP hK hNW hret hl => ?_)
  have hown : s.vm.findClass RX1 = some m.cls := hown
  obtain ⟨f0, f1, f2, f3⟩ := id hM
  have hk0 : k < N := by omega
  have hk1 : k + 1 < N := by omega
  have hk2 : k + 2 < N := by omega
  have hk3 : k + 3 < N := hk
  have hl : lv_has ls 3 [(0, .ref (ad k))] := hl
  refine lv_iconst (v := nI 0) hx hb (dk kX1_potted_ok 0 rfl) rfl ?_
  refine lv_istore_n (lv' := [(1, .int (nI 0)), (0, .ref (ad k))]) hx hb (dk kX1_potted_ok 1 rfl) rfl hl (by decide) rfl (fun ls hl => ?_)
  refine lv_iconst (v := nI 0) hx hb (dk kX1_potted_ok 2 rfl) rfl ?_
  refine lv_istore_n (lv' := [(2, .int (nI 0)), (1, .int (nI 0)), (0, .ref (ad k))]) hx hb (dk kX1_potted_ok 3 rfl) rfl hl (by decide) rfl (fun ls hl => ?_)
  have L4 : ∀ (fu : Nat) (i : Nat) (x1 : Int32), x1 = nI (sm (potc c) i) → i ≤ 4 → 4 - i < fu → ∀ ls : Array Slot, lv_has ls 3 [(0, .ref (ad k)), (1, .int x1), (2, .int (nI i))] → W p l e ({ frames := 1, cells := 0, slots := 0, locals := 23 } : Room) s m ([.ref (ad k)] : List Value).toArray below meth cd s.heap [] 0 0 Q (F0 m 4 ls []) := by
    intro fu
    induction fu with
    | zero => intros; omega
    | succ fu ih4 =>
      intro i x1 ex1 hi hm4 ls hl
      subst ex1
      refine lv_iload_n hx hb (dk kX1_potted_ok 4 rfl) rfl (lv_at hl 2 rfl) ?_
      refine lv_iconst (v := nI 4) hx hb (dk kX1_potted_ok 5 rfl) rfl ?_
      refine n_icmp_ge (tgt := 23) hx hb (by omega) (by decide) (dk kX1_potted_ok 6 rfl) (by decide) (fun h1 => ?_) (fun h1 => ?_)
      · skip
        refine lv_iload_n hx hb (dk kX1_potted_ok 15 rfl) rfl (lv_at hl 1 rfl) ?_
        exact hret _ _ _ (by rw [show i = 4 by omega] <;> rfl) (dk kX1_potted_ok 16 rfl)
      · skip
        refine lv_iload_n hx hb (dk kX1_potted_ok 7 rfl) rfl (lv_at hl 1 rfl) ?_
        refine lv_aload_n hx hb (dk kX1_potted_ok 8 rfl) rfl (lv_at hl 0 rfl) ?_
        refine lv_iload_n hx hb (dk kX1_potted_ok 9 rfl) rfl (lv_at hl 2 rfl) ?_
        refine cvR (As := [.int (nI i)]) (rest := [.int (nI (sm (potc c) i))]) ⟨hx, hb, hml, hown, hts⟩ (tX1_pottedOf l D cI cQ cL ad N F k hk c b v hM (nI i) i rfl (by omega)) (cwV9 1 hts mcX1_pottedOf (ac3 _ (List.mem_of_getElem? (i := 4) rfl)) miX1_pottedOf meX1_pottedOf mini_RX1 rfl rfl hdX1_pottedOf ⟨Nat.le_of_ble_eq_true rfl, Nat.le_of_ble_eq_true rfl⟩) hK hP hNW hk0 f0 rfl rfl hl.1 rfl (Nat.le_of_ble_eq_true rfl) (by decide) (dk kX1_potted_ok 10 rfl) ?_
        refine n_iadd hx hb (dk kX1_potted_ok 11 rfl) ?_
        refine lv_istore_n (lv' := [(1, .int (nI ((sm (potc c) i) + (potc c i)))), (0, .ref (ad k)), (2, .int (nI i))]) hx hb (dk kX1_potted_ok 12 rfl) rfl hl (by decide) rfl (fun ls hl => ?_)
        refine lv_iinc (v := nI (i + 1)) (lv' := [(2, .int (nI (i + 1))), (1, .int (nI ((sm (potc c) i) + (potc c i)))), (0, .ref (ad k))]) hx hb (dk kX1_potted_ok 13 rfl) hl (k := 2) rfl (n_inc _) (by decide) rfl (fun ls hl => ?_)
        refine lv_goto (tgt := 4) hx hb (dk kX1_potted_ok 14 rfl) (by decide) ?_
        exact ih4 (i + 1) _ (by rfl) (by omega) (by omega) ls (lv_sub hl [2, 1, 0] rfl)
  exact L4 _ 0 _ (by first | rfl | omega) (by first | rfl | omega) (Nat.lt_succ_self _) ls (lv_sub hl [2, 1, 0] rfl)
set_option maxRecDepth 100000 in
set_option maxHeartbeats 4000000 in
theorem tX1_isAllPotted (l : Launch) (D : va_G) (cI cQ cL : ClassId) (ad : Nat → Nat) (N : Nat) (F : Nat → va_E) (k : Nat) (hk : k + 3 < N) (c b v : Nat → Int32) (hM : matAt cI ad F k c b v) (x : Int32) (w : Nat) (hxw : x = nI w) (hw : w < 4) : MR l yX1_isAllPotted (Cond.code yX1_isAllPotted cX1_isAllPotted 2 (some .boolean) :: AW) ({ frames := 1, cells := 0, slots := 0, locals := 23 } : Room) D cI cQ cL ad N F [.ref (ad k), .int x] (.int (bI (decide (potc c w = 4)))) := by
  refine mr_i (ty := .boolean) (by decide +kernel) rfl rfl rfl (bI_nar _) (Nat.le_of_ble_eq_true rfl) (fun p e s m below meth cd Q ls hx hb hml hown hts hP hK hNW hret hl => ?_)
  have hown : s.vm.findClass RX1 = some m.cls := hown
  subst hxw
  obtain ⟨f0, f1, f2, f3⟩ := id hM
  have hk0 : k < N := by omega
  have hk1 : k + 1 < N := by omega
  have hk2 : k + 2 < N := by omega
  have hk3 : k + 3 < N := hk
  have hl : lv_has ls 2 [(0, .ref (ad k)), (1, .int (nI w))] := hl
  refine lv_aload_n hx hb (dk kX1_isAllPotted_ok 0 rfl) rfl (lv_at hl 0 rfl) ?_
  refine lv_iload_n hx hb (dk kX1_isAllPotted_ok 1 rfl) rfl (lv_at hl 1 rfl) ?_
  refine cvR (As := [.int (nI w)]) (rest := []) ⟨hx, hb, hml, hown, hts⟩ (tX1_pottedOf l D cI cQ cL ad N F k hk c b v hM (nI w) w rfl (by omega)) (cwV9 1 hts mcX1_pottedOf (ac3 _ (List.mem_of_getElem? (i := 4) rfl)) miX1_pottedOf meX1_pottedOf mini_RX1 rfl rfl hdX1_pottedOf ⟨Nat.le_of_ble_eq_true rfl, Nat.le_of_ble_eq_true rfl⟩) hK hP hNW hk0 f0 rfl rfl hl.1 rfl (Nat.le_of_ble_eq_true rfl) (by decide) (dk kX1_isAllPotted_ok 2 rfl) ?_
  refine lv_iconst (v := nI 4) hx hb (dk kX1_isAllPotted_ok 3 rfl) rfl ?_
  refine n_icmp_ne (tgt := 13) hx hb (by have := potc_le c w; omega) (by decide) (dk kX1_isAllPotted_ok 4 rfl) (by decide) (fun h1 => ?_) (fun h1 => ?_)
  · skip
    refine lv_iconst (v := nI 0) hx hb (dk kX1_isAllPotted_ok 7 rfl) rfl ?_
    exact hret _ _ _ (by simp only [(eq_false h1), decide_true, decide_false]; rfl) (dk kX1_isAllPotted_ok 8 rfl)
  · skip
    refine lv_iconst (v := nI 1) hx hb (dk kX1_isAllPotted_ok 5 rfl) rfl ?_
    refine lv_goto (tgt := 14) hx hb (dk kX1_isAllPotted_ok 6 rfl) (by decide) ?_
    exact hret _ _ _ (by simp only [(eq_true h1), decide_true, decide_false]; rfl) (dk kX1_isAllPotted_ok 8 rfl)
set_option maxRecDepth 100000 in
set_option maxHeartbeats 4000000 in
theorem tX1_isOver (l : Launch) (D : va_G) (cI cQ cL : ClassId) (ad : Nat → Nat) (N : Nat) (F : Nat → va_E) (k : Nat) (hk : k + 3 < N) (c b v : Nat → Int32) (hM : matAt cI ad F k c b v) : MR l yX1_isOver (Cond.code yX1_isOver cX1_isOver 2 (some .boolean) :: AW) ({ frames := 2, cells := 0, slots := 0, locals := 44 } : Room) D cI cQ cL ad N F [.ref (ad k)] (.int (bI (over c))) := by
  refine mr_i (ty := .boolean) (by decide +kernel) rfl rfl rfl (bI_nar _) (Nat.le_of_ble_eq_true rfl) (fun p e s m below meth cd Q ls hx hb hml hown hts hP hK hNW hret hl => ?_)
  have hown : s.vm.findClass RX1 = some m.cls := hown
  obtain ⟨f0, f1, f2, f3⟩ := id hM
  have hk0 : k < N := by omega
  have hk1 : k + 1 < N := by omega
  have hk2 : k + 2 < N := by omega
  have hk3 : k + 3 < N := hk
  have hl : lv_has ls 2 [(0, .ref (ad k))] := hl
  refine lv_iconst (v := nI 0) hx hb (dk kX1_isOver_ok 0 rfl) rfl ?_
  refine lv_istore_n (lv' := [(1, .int (nI 0)), (0, .ref (ad k))]) hx hb (dk kX1_isOver_ok 1 rfl) rfl hl (by decide) rfl (fun ls hl => ?_)
  have L2 : ∀ (fu : Nat) (i : Nat), i ≤ 4 → over c = anyl (fun k => decide (potc c k = 4)) (4 - i) i → 4 - i < fu → ∀ ls : Array Slot, lv_has ls 2 [(0, .ref (ad k)), (1, .int (nI i))] → W p l e ({ frames := 2, cells := 0, slots := 0, locals := 44 } : Room) s m ([.ref (ad k)] : List Value).toArray below meth cd s.heap [] 0 0 Q (F0 m 2 ls []) := by
    intro fu
    induction fu with
    | zero => intros; omega
    | succ fu ih2 =>
      intro i hi hr hm2 ls hl
      refine lv_iload_n hx hb (dk kX1_isOver_ok 2 rfl) rfl (lv_at hl 1 rfl) ?_
      refine lv_iconst (v := nI 4) hx hb (dk kX1_isOver_ok 3 rfl) rfl ?_
      refine n_icmp_ge (tgt := 23) hx hb (by omega) (by decide) (dk kX1_isOver_ok 4 rfl) (by decide) (fun h1 => ?_) (fun h1 => ?_)
      · skip
        refine lv_iconst (v := nI 0) hx hb (dk kX1_isOver_ok 13 rfl) rfl ?_
        exact hret _ _ _ (by first | (rw [hr, show 4 - i = (4 - (i + 1)) + 1 by omega]; simp only [anyl, (eq_true h1), (eq_false (Nat.not_lt.mpr h1)), decide_true, decide_false, not_true_eq_false, not_false_eq_true, and_true, true_and, and_false, false_and, or_true, true_or, or_false, false_or, and_self, or_self, if_true, if_false, Bool.false_eq_true, reduceIte]; rfl) | (rw [hr, show 4 - i = 0 by omega]; rfl)) (dk kX1_isOver_ok 14 rfl)
      · skip
        refine lv_aload_n hx hb (dk kX1_isOver_ok 5 rfl) rfl (lv_at hl 0 rfl) ?_
        refine lv_iload_n hx hb (dk kX1_isOver_ok 6 rfl) rfl (lv_at hl 1 rfl) ?_
        refine cvR (As := [.int (nI i)]) (rest := []) ⟨hx, hb, hml, hown, hts⟩ (tX1_isAllPotted l D cI cQ cL ad N F k hk c b v hM (nI i) i rfl (by omega)) (cwV9 1 hts mcX1_isAllPotted (ac3 _ (List.mem_of_getElem? (i := 8) rfl)) miX1_isAllPotted meX1_isAllPotted mini_RX1 rfl rfl hdX1_isAllPotted ⟨Nat.le_of_ble_eq_true rfl, Nat.le_of_ble_eq_true rfl⟩) hK hP hNW hk0 f0 rfl rfl hl.1 rfl (Nat.le_of_ble_eq_true rfl) (by decide) (dk kX1_isOver_ok 7 rfl) ?_
        refine b_if_eq (tgt := 17) hx hb (dk kX1_isOver_ok 8 rfl) (by decide) (fun h2 => ?_) (fun h2 => ?_)
        · replace h2 := of_decide_eq_false h2
          refine lv_iinc (v := nI (i + 1)) (lv' := [(1, .int (nI (i + 1))), (0, .ref (ad k))]) hx hb (dk kX1_isOver_ok 11 rfl) hl (k := 1) rfl (n_inc _) (by decide) rfl (fun ls hl => ?_)
          refine lv_goto (tgt := 2) hx hb (dk kX1_isOver_ok 12 rfl) (by decide) ?_
          exact ih2 (i + 1) (by omega) (by rw [hr, show 4 - i = (4 - (i + 1)) + 1 by omega]; simp only [anyl, (eq_true h1), (eq_false (Nat.not_le.mpr h1)), (eq_false h2), decide_true, decide_false, not_true_eq_false, not_false_eq_true, and_true, true_and, and_false, false_and, or_true, true_or, or_false, false_or, and_self, or_self, if_true, if_false, Bool.false_eq_true, reduceIte]) (by omega) ls (lv_sub hl [1, 0] rfl)
        · replace h2 := of_decide_eq_true h2
          refine lv_iconst (v := nI 1) hx hb (dk kX1_isOver_ok 9 rfl) rfl ?_
          exact hret _ _ _ (by first | (rw [hr, show 4 - i = (4 - (i + 1)) + 1 by omega]; simp only [anyl, (eq_true h1), (eq_false (Nat.not_le.mpr h1)), (eq_true h2), decide_true, decide_false, not_true_eq_false, not_false_eq_true, and_true, true_and, and_false, false_and, or_true, true_or, or_false, false_or, and_self, or_self, if_true, if_false, Bool.false_eq_true, reduceIte]; rfl) | (rw [hr, show 4 - i = 0 by omega]; rfl)) (dk kX1_isOver_ok 10 rfl)
  exact L2 _ 0 (by first | rfl | omega) (by first | rfl | omega) (Nat.lt_succ_self _) ls (lv_sub hl [1, 0] rfl)
set_option maxRecDepth 100000 in
set_option maxHeartbeats 4000000 in
theorem tX1_pointsOf (l : Launch) (D : va_G) (cI cQ cL : ClassId) (ad : Nat → Nat) (N : Nat) (F : Nat → va_E) (k : Nat) (hk : k + 3 < N) (c b v : Nat → Int32) (hM : matAt cI ad F k c b v) (x : Int32) (w : Nat) (hxw : x = nI w) (hw : w < 4) : MR l yX1_pointsOf (Cond.code yX1_pointsOf cX1_pointsOf 6 (some .int) :: AW) ({ frames := 2, cells := 0, slots := 0, locals := 41 } : Room) D cI cQ cL ad N F [.ref (ad k), .int x] (.int (nI (ptc c v w))) := by
  refine mr_i (ty := .int) (by decide +kernel) rfl rfl rfl rfl (Nat.le_of_ble_eq_true rfl) (fun p e s m below meth cd Q ls hx hb hml hown hts hP hK hNW hret hl => ?_)
  have hown : s.vm.findClass RX1 = some m.cls := hown
  subst hxw
  obtain ⟨f0, f1, f2, f3⟩ := id hM
  have hk0 : k < N := by omega
  have hk1 : k + 1 < N := by omega
  have hk2 : k + 2 < N := by omega
  have hk3 : k + 3 < N := hk
  have hl : lv_has ls 6 [(0, .ref (ad k)), (1, .int (nI w))] := hl
  refine lv_iload_n hx hb (dk kX1_pointsOf_ok 0 rfl) rfl (lv_at hl 1 rfl) ?_
  refine csPN (As := [.int (nI w)]) (rest := []) ⟨hx, hb, hml, hown, hts⟩ (tX5_baseOf l (nI w) w rfl (by omega)) (cwN9 1 hts mcX5_baseOf (nm2 hNW) mini_RX5 rfl rfl hdX5_baseOf ⟨Nat.le_of_ble_eq_true rfl, Nat.le_of_ble_eq_true rfl⟩) (hts _ (List.mem_cons_of_mem _ msX5_baseOf)) rfl hl.1 rfl (Nat.le_of_ble_eq_true rfl) (by decide) (dk kX1_pointsOf_ok 1 rfl) ?_
  refine lv_istore_n (lv' := [(2, .int (nI (bs w))), (0, .ref (ad k)), (1, .int (nI w))]) hx hb (dk kX1_pointsOf_ok 2 rfl) rfl hl (by decide) rfl (fun ls hl => ?_)
  refine lv_iconst (v := nI 0) hx hb (dk kX1_pointsOf_ok 3 rfl) rfl ?_
  refine lv_istore_n (lv' := [(3, .int (nI 0)), (2, .int (nI (bs w))), (0, .ref (ad k)), (1, .int (nI w))]) hx hb (dk kX1_pointsOf_ok 4 rfl) rfl hl (by decide) rfl (fun ls hl => ?_)
  refine lv_iconst (v := nI 0) hx hb (dk kX1_pointsOf_ok 5 rfl) rfl ?_
  refine lv_istore (lv' := [(4, .int (nI 0)), (3, .int (nI 0)), (2, .int (nI (bs w))), (0, .ref (ad k)), (1, .int (nI w))]) hx hb (dk kX1_pointsOf_ok 6 rfl) hl (by decide) rfl (fun ls hl => ?_)
  have L10 : ∀ (fu : Nat) (i : Nat) (x3 : Int32), x3 = nI (sm (ptw c v w) i) → i ≤ 4 → 4 - i < fu → ∀ ls : Array Slot, lv_has ls 6 [(0, .ref (ad k)), (1, .int (nI w)), (2, .int (nI (bs w))), (3, .int x3), (4, .int (nI i))] → W p l e ({ frames := 2, cells := 0, slots := 0, locals := 41 } : Room) s m ([.ref (ad k), .int (nI w)] : List Value).toArray below meth cd s.heap [] 0 0 Q (F0 m 10 ls []) := by
    intro fu
    induction fu with
    | zero => intros; omega
    | succ fu ih10 =>
      intro i x3 ex3 hi hm10 ls hl
      subst ex3
      refine lv_iload hx hb (dk kX1_pointsOf_ok 7 rfl) (lv_at hl 4 rfl) ?_
      refine lv_iconst (v := nI 4) hx hb (dk kX1_pointsOf_ok 8 rfl) rfl ?_
      refine n_icmp_ge (tgt := 68) hx hb (by omega) (by decide) (dk kX1_pointsOf_ok 9 rfl) (by decide) (fun h1 => ?_) (fun h1 => ?_)
      · skip
        refine lv_iload_n hx hb (dk kX1_pointsOf_ok 35 rfl) rfl (lv_at hl 3 rfl) ?_
        exact hret _ _ _ (by rw [show i = 4 by omega] <;> rfl) (dk kX1_pointsOf_ok 36 rfl)
      · skip
        refine lv_iconst (v := nI 4) hx hb (dk kX1_pointsOf_ok 10 rfl) rfl ?_
        refine lv_iload_n hx hb (dk kX1_pointsOf_ok 11 rfl) rfl (lv_at hl 1 rfl) ?_
        refine n_imul hx hb (dk kX1_pointsOf_ok 12 rfl) ?_
        refine lv_iload hx hb (dk kX1_pointsOf_ok 13 rfl) (lv_at hl 4 rfl) ?_
        refine n_iadd hx hb (dk kX1_pointsOf_ok 14 rfl) ?_
        refine lv_istore (lv' := [(5, .int (nI ((4 * w) + i))), (0, .ref (ad k)), (1, .int (nI w)), (2, .int (nI (bs w))), (3, .int (nI (sm (ptw c v w) i))), (4, .int (nI i))]) hx hb (dk kX1_pointsOf_ok 15 rfl) hl (by decide) rfl (fun ls hl => ?_)
        refine lv_aload_n hx hb (dk kX1_pointsOf_ok 16 rfl) rfl (lv_at hl 1 rfl) ?_
        refine lv_iload hx hb (dk kX1_pointsOf_ok 17 rfl) (lv_at hl 0 rfl) ?_
        refine cvR (As := [.int (nI ((4 * w) + i))]) (rest := []) ⟨hx, hb, hml, hown, hts⟩ (tX1_isPotted l D cI cQ cL ad N F k hk c b v hM (nI ((4 * w) + i)) ((4 * w) + i) rfl (by omega)) (cwV9 1 hts mcX1_isPotted (ac2 _ (List.mem_of_getElem? (i := 0) rfl)) miX1_isPotted meX1_isPotted mini_RX1 rfl rfl hdX1_isPotted ⟨Nat.le_of_ble_eq_true rfl, Nat.le_of_ble_eq_true rfl⟩) hK hP hNW hk0 f0 rfl rfl hl.1 rfl (Nat.le_of_ble_eq_true rfl) (by decide) (dk kX1_pointsOf_ok 18 rfl) ?_
        refine b_if_eq (tgt := 39) hx hb (dk kX1_pointsOf_ok 19 rfl) (by decide) (fun h2 => ?_) (fun h2 => ?_)
        · skip
          refine lv_aload_n hx hb (dk kX1_pointsOf_ok 22 rfl) rfl (lv_at hl 1 rfl) ?_
          refine lv_iload hx hb (dk kX1_pointsOf_ok 23 rfl) (lv_at hl 0 rfl) ?_
          refine cvR (As := [.int (nI ((4 * w) + i))]) (rest := []) ⟨hx, hb, hml, hown, hts⟩ (tX1_isCovered l D cI cQ cL ad N F k hk c b v hM (nI ((4 * w) + i)) ((4 * w) + i) rfl (by omega)) (cwV9 1 hts mcX1_isCovered (ac2 _ (List.mem_of_getElem? (i := 16) rfl)) miX1_isCovered meX1_isCovered mini_RX1 rfl rfl hdX1_isCovered ⟨Nat.le_of_ble_eq_true rfl, Nat.le_of_ble_eq_true rfl⟩) hK hP hNW hk0 f0 rfl rfl hl.1 rfl (Nat.le_of_ble_eq_true rfl) (by decide) (dk kX1_pointsOf_ok 24 rfl) ?_
          refine b_if_ne (tgt := 62) hx hb (dk kX1_pointsOf_ok 25 rfl) (by decide) (fun h3 => ?_) (fun h3 => ?_)
          · skip
            refine lv_iinc (v := nI (i + 1)) (lv' := [(4, .int (nI (i + 1))), (5, .int (nI ((4 * w) + i))), (0, .ref (ad k)), (1, .int (nI w)), (2, .int (nI (bs w))), (3, .int (nI (sm (ptw c v w) i)))]) hx hb (dk kX1_pointsOf_ok 33 rfl) hl (k := 5) rfl (n_inc _) (by decide) rfl (fun ls hl => ?_)
            refine lv_goto (tgt := 10) hx hb (dk kX1_pointsOf_ok 34 rfl) (by decide) ?_
            exact ih10 (i + 1) _ (by simp only [pot, decide_eq_true_eq, decide_eq_false_iff_not] at h1 h2 h3; simp only [sm, ptw]; (repeat' split) <;> first | rfl | contradiction | (simp_all; done)) (by omega) (by omega) ls (lv_sub hl [2, 3, 4, 5, 0] rfl)
          · skip
            refine lv_aload_n hx hb (dk kX1_pointsOf_ok 26 rfl) rfl (lv_at hl 1 rfl) ?_
            refine gf hx hb hts (fun w h => List.mem_cons_of_mem _ (acX1 w h)) hown hK hP hk0 f0 rfl 0 (by decide) (hts _ (List.mem_cons_of_mem _ (ac0 _ (List.mem_of_getElem? (i := 22) rfl)))) (fun _ h => h) rfl (dk kX1_pointsOf_ok 27 rfl) ?_
            refine lv_iload hx hb (dk kX1_pointsOf_ok 28 rfl) (lv_at hl 0 rfl) ?_
            refine ald (j := ((4 * w) + i)) hx hb hK hP hk1 f1 rfl (by omega) (by decide) (dk kX1_pointsOf_ok 29 rfl) ?_
            refine lv_iload_n hx hb (dk kX1_pointsOf_ok 30 rfl) rfl (lv_at hl 3 rfl) ?_
            refine lv_icmp_eq (tgt := 62) hx hb (dk kX1_pointsOf_ok 31 rfl) (by decide) (fun h4 => ?_) (fun h4 => ?_)
            · skip
              refine lv_iinc (v := nI (i + 1)) (lv' := [(4, .int (nI (i + 1))), (5, .int (nI ((4 * w) + i))), (0, .ref (ad k)), (1, .int (nI w)), (2, .int (nI (bs w))), (3, .int (nI (sm (ptw c v w) i)))]) hx hb (dk kX1_pointsOf_ok 33 rfl) hl (k := 5) rfl (n_inc _) (by decide) rfl (fun ls hl => ?_)
              refine lv_goto (tgt := 10) hx hb (dk kX1_pointsOf_ok 34 rfl) (by decide) ?_
              exact ih10 (i + 1) _ (by simp only [pot, decide_eq_true_eq, decide_eq_false_iff_not] at h1 h2 h3 h4; simp only [sm, ptw]; (repeat' split) <;> first | rfl | contradiction | (simp_all; done)) (by omega) (by omega) ls (lv_sub hl [2, 3, 4, 5, 0] rfl)
            · skip
              refine lv_iinc (v := nI ((sm (ptw c v w) i) + 1)) (lv' := [(3, .int (nI ((sm (ptw c v w) i) + 1))), (5, .int (nI ((4 * w) + i))), (0, .ref (ad k)), (1, .int (nI w)), (2, .int (nI (bs w))), (4, .int (nI i))]) hx hb (dk kX1_pointsOf_ok 32 rfl) hl (k := 4) rfl (n_inc _) (by decide) rfl (fun ls hl => ?_)
              refine lv_iinc (v := nI (i + 1)) (lv' := [(4, .int (nI (i + 1))), (3, .int (nI ((sm (ptw c v w) i) + 1))), (5, .int (nI ((4 * w) + i))), (0, .ref (ad k)), (1, .int (nI w)), (2, .int (nI (bs w)))]) hx hb (dk kX1_pointsOf_ok 33 rfl) hl (k := 5) rfl (n_inc _) (by decide) rfl (fun ls hl => ?_)
              refine lv_goto (tgt := 10) hx hb (dk kX1_pointsOf_ok 34 rfl) (by decide) ?_
              exact ih10 (i + 1) _ (by simp only [pot, decide_eq_true_eq, decide_eq_false_iff_not] at h1 h2 h3 h4; simp only [sm, ptw]; (repeat' split) <;> first | rfl | contradiction | (simp_all; done)) (by omega) (by omega) ls (lv_sub hl [3, 4, 5, 1, 0] rfl)
        · skip
          refine lv_iinc (v := nI ((sm (ptw c v w) i) + 3)) (lv' := [(3, .int (nI ((sm (ptw c v w) i) + 3))), (5, .int (nI ((4 * w) + i))), (0, .ref (ad k)), (1, .int (nI w)), (2, .int (nI (bs w))), (4, .int (nI i))]) hx hb (dk kX1_pointsOf_ok 20 rfl) hl (k := 4) rfl (by rw [show Int32.ofInt 3 = nI 3 from rfl, nI_add]) (by decide) rfl (fun ls hl => ?_)
          refine lv_goto (tgt := 62) hx hb (dk kX1_pointsOf_ok 21 rfl) (by decide) ?_
          refine lv_iinc (v := nI (i + 1)) (lv' := [(4, .int (nI (i + 1))), (3, .int (nI ((sm (ptw c v w) i) + 3))), (5, .int (nI ((4 * w) + i))), (0, .ref (ad k)), (1, .int (nI w)), (2, .int (nI (bs w)))]) hx hb (dk kX1_pointsOf_ok 33 rfl) hl (k := 5) rfl (n_inc _) (by decide) rfl (fun ls hl => ?_)
          refine lv_goto (tgt := 10) hx hb (dk kX1_pointsOf_ok 34 rfl) (by decide) ?_
          exact ih10 (i + 1) _ (by simp only [pot, decide_eq_true_eq, decide_eq_false_iff_not] at h1 h2; simp only [sm, ptw]; (repeat' split) <;> first | rfl | contradiction | (simp_all; done)) (by omega) (by omega) ls (lv_sub hl [3, 4, 5, 1, 0] rfl)
  exact L10 _ 0 _ (by first | rfl | omega) (by first | rfl | omega) (Nat.lt_succ_self _) ls (lv_sub hl [3, 4, 2, 1, 0] rfl)
set_option maxRecDepth 100000 in
set_option maxHeartbeats 4000000 in
theorem tX1_pointsOfTeam (l : Launch) (D : va_G) (cI cQ cL : ClassId) (ad : Nat → Nat) (N : Nat) (F : Nat → va_E) (k : Nat) (hk : k + 3 < N) (c b v : Nat → Int32) (hM : matAt cI ad F k c b v) (x : Int32) (w : Nat) (hxw : x = nI w) (hw : w < 2) : MR l yX1_pointsOfTeam (Cond.code yX1_pointsOfTeam cX1_pointsOfTeam 2 (some .int) :: AW) ({ frames := 3, cells := 0, slots := 0, locals := 66 } : Room) D cI cQ cL ad N F [.ref (ad k), .int x] (.int (nI (ptt c v w))) := by
  refine mr_i (ty := .int) (by decide +kernel) rfl rfl rfl rfl (Nat.le_of_ble_eq_true rfl) (fun p e s m below meth cd Q ls hx hb hml hown hts hP hK hNW hret hl => ?_)
  have hown : s.vm.findClass RX1 = some m.cls := hown
  subst hxw
  obtain ⟨f0, f1, f2, f3⟩ := id hM
  have hk0 : k < N := by omega
  have hk1 : k + 1 < N := by omega
  have hk2 : k + 2 < N := by omega
  have hk3 : k + 3 < N := hk
  have hl : lv_has ls 2 [(0, .ref (ad k)), (1, .int (nI w))] := hl
  refine lv_aload_n hx hb (dk kX1_pointsOfTeam_ok 0 rfl) rfl (lv_at hl 0 rfl) ?_
  refine lv_iload_n hx hb (dk kX1_pointsOfTeam_ok 1 rfl) rfl (lv_at hl 1 rfl) ?_
  refine cvR (As := [.int (nI w)]) (rest := []) ⟨hx, hb, hml, hown, hts⟩ (tX1_pointsOf l D cI cQ cL ad N F k hk c b v hM (nI w) w rfl (by omega)) (cwV9 1 hts mcX1_pointsOf (ac3 _ (List.mem_of_getElem? (i := 12) rfl)) miX1_pointsOf meX1_pointsOf mini_RX1 rfl rfl hdX1_pointsOf ⟨Nat.le_of_ble_eq_true rfl, Nat.le_of_ble_eq_true rfl⟩) hK hP hNW hk0 f0 rfl rfl hl.1 rfl (Nat.le_of_ble_eq_true rfl) (by decide) (dk kX1_pointsOfTeam_ok 2 rfl) ?_
  refine lv_aload_n hx hb (dk kX1_pointsOfTeam_ok 3 rfl) rfl (lv_at hl 0 rfl) ?_
  refine lv_iload_n hx hb (dk kX1_pointsOfTeam_ok 4 rfl) rfl (lv_at hl 1 rfl) ?_
  refine lv_iconst (v := nI 2) hx hb (dk kX1_pointsOfTeam_ok 5 rfl) rfl ?_
  refine n_iadd hx hb (dk kX1_pointsOfTeam_ok 6 rfl) ?_
  refine cvR (As := [.int (nI (w + 2))]) (rest := [.int (nI (ptc c v w))]) ⟨hx, hb, hml, hown, hts⟩ (tX1_pointsOf l D cI cQ cL ad N F k hk c b v hM (nI (w + 2)) (w + 2) rfl (by omega)) (cwV9 1 hts mcX1_pointsOf (ac3 _ (List.mem_of_getElem? (i := 12) rfl)) miX1_pointsOf meX1_pointsOf mini_RX1 rfl rfl hdX1_pointsOf ⟨Nat.le_of_ble_eq_true rfl, Nat.le_of_ble_eq_true rfl⟩) hK hP hNW hk0 f0 rfl rfl hl.1 rfl (Nat.le_of_ble_eq_true rfl) (by decide) (dk kX1_pointsOfTeam_ok 7 rfl) ?_
  refine n_iadd hx hb (dk kX1_pointsOfTeam_ok 8 rfl) ?_
  exact hret _ _ _ (by rfl) (dk kX1_pointsOfTeam_ok 9 rfl)
set_option maxRecDepth 100000 in
set_option maxHeartbeats 4000000 in
theorem tX1_leadOf (l : Launch) (D : va_G) (cI cQ cL : ClassId) (ad : Nat → Nat) (N : Nat) (F : Nat → va_E) (k : Nat) (hk : k + 3 < N) (c b v : Nat → Int32) (hM : matAt cI ad F k c b v) (x : Int32) (w : Nat) (hxw : x = nI w) (hw : w < 2) : MR l yX1_leadOf (Cond.code yX1_leadOf cX1_leadOf 2 (some .int) :: AW) ({ frames := 4, cells := 0, slots := 0, locals := 87 } : Room) D cI cQ cL ad N F [.ref (ad k), .int x] (.int (nI (ptt c v w) - nI (ptt c v (1 - w)))) := by
  refine mr_i (ty := .int) (by decide +kernel) rfl rfl rfl rfl (Nat.le_of_ble_eq_true rfl) (fun p e s m below meth cd Q ls hx hb hml hown hts hP hK hNW hret hl => ?_)
  have hown : s.vm.findClass RX1 = some m.cls := hown
  subst hxw
  obtain ⟨f0, f1, f2, f3⟩ := id hM
  have hk0 : k < N := by omega
  have hk1 : k + 1 < N := by omega
  have hk2 : k + 2 < N := by omega
  have hk3 : k + 3 < N := hk
  have hl : lv_has ls 2 [(0, .ref (ad k)), (1, .int (nI w))] := hl
  refine lv_aload_n hx hb (dk kX1_leadOf_ok 0 rfl) rfl (lv_at hl 0 rfl) ?_
  refine lv_iload_n hx hb (dk kX1_leadOf_ok 1 rfl) rfl (lv_at hl 1 rfl) ?_
  refine cvR (As := [.int (nI w)]) (rest := []) ⟨hx, hb, hml, hown, hts⟩ (tX1_pointsOfTeam l D cI cQ cL ad N F k hk c b v hM (nI w) w rfl (by omega)) (cwV9 1 hts mcX1_pointsOfTeam (ac3 _ (List.mem_of_getElem? (i := 16) rfl)) miX1_pointsOfTeam meX1_pointsOfTeam mini_RX1 rfl rfl hdX1_pointsOfTeam ⟨Nat.le_of_ble_eq_true rfl, Nat.le_of_ble_eq_true rfl⟩) hK hP hNW hk0 f0 rfl rfl hl.1 rfl (Nat.le_of_ble_eq_true rfl) (by decide) (dk kX1_leadOf_ok 2 rfl) ?_
  refine lv_aload_n hx hb (dk kX1_leadOf_ok 3 rfl) rfl (lv_at hl 0 rfl) ?_
  refine lv_iconst (v := nI 1) hx hb (dk kX1_leadOf_ok 4 rfl) rfl ?_
  refine lv_iload_n hx hb (dk kX1_leadOf_ok 5 rfl) rfl (lv_at hl 1 rfl) ?_
  refine n_isub hx hb (by omega) (dk kX1_leadOf_ok 6 rfl) ?_
  refine cvR (As := [.int (nI (1 - w))]) (rest := [.int (nI (ptt c v w))]) ⟨hx, hb, hml, hown, hts⟩ (tX1_pointsOfTeam l D cI cQ cL ad N F k hk c b v hM (nI (1 - w)) (1 - w) rfl (by omega)) (cwV9 1 hts mcX1_pointsOfTeam (ac3 _ (List.mem_of_getElem? (i := 16) rfl)) miX1_pointsOfTeam meX1_pointsOfTeam mini_RX1 rfl rfl hdX1_pointsOfTeam ⟨Nat.le_of_ble_eq_true rfl, Nat.le_of_ble_eq_true rfl⟩) hK hP hNW hk0 f0 rfl rfl hl.1 rfl (Nat.le_of_ble_eq_true rfl) (by decide) (dk kX1_leadOf_ok 7 rfl) ?_
  refine lv_isub hx hb (dk kX1_leadOf_ok 8 rfl) ?_
  exact hret _ _ _ (by rfl) (dk kX1_leadOf_ok 9 rfl)
set_option maxRecDepth 100000 in
set_option maxHeartbeats 4000000 in
theorem tX1_liesBelow (l : Launch) (D : va_G) (cI cQ cL : ClassId) (ad : Nat → Nat) (N : Nat) (F : Nat → va_E) (k : Nat) (hk : k + 3 < N) (c b v : Nat → Int32) (hM : matAt cI ad F k c b v) (x : Int32) (w : Nat) (hxw : x = nI w) (hw : w < 16) (y : Int32) (g : Nat) (hyg : y = nI g) (hg : g < 2 ^ 31) : MR l yX1_liesBelow (Cond.code yX1_liesBelow cX1_liesBelow 5 (some .boolean) :: AW) ({ frames := 1, cells := 0, slots := 0, locals := 20 } : Room) D cI cQ cL ad N F [.ref (ad k), .int x, .int y] (.int (bI (lbl v g 16 (v w)))) := by
  refine mr_i (ty := .boolean) (by decide +kernel) rfl rfl rfl (bI_nar _) (Nat.le_of_ble_eq_true rfl) (fun p e s m below meth cd Q ls hx hb hml hown hts hP hK hNW hret hl => ?_)
  have hown : s.vm.findClass RX1 = some m.cls := hown
  subst hxw
  subst hyg
  obtain ⟨f0, f1, f2, f3⟩ := id hM
  have hk0 : k < N := by omega
  have hk1 : k + 1 < N := by omega
  have hk2 : k + 2 < N := by omega
  have hk3 : k + 3 < N := hk
  have hl : lv_has ls 5 [(0, .ref (ad k)), (1, .int (nI w)), (2, .int (nI g))] := hl
  refine lv_aload_n hx hb (dk kX1_liesBelow_ok 0 rfl) rfl (lv_at hl 0 rfl) ?_
  refine gf hx hb hts (fun w h => List.mem_cons_of_mem _ (acX1 w h)) hown hK hP hk0 f0 rfl 2 (by decide) (hts _ (List.mem_cons_of_mem _ (ac1 _ (List.mem_of_getElem? (i := 0) rfl)))) (fun _ h => h) rfl (dk kX1_liesBelow_ok 1 rfl) ?_
  refine lv_iload_n hx hb (dk kX1_liesBelow_ok 2 rfl) rfl (lv_at hl 1 rfl) ?_
  refine ald (j := w) hx hb hK hP hk3 f3 rfl (by omega) (by decide) (dk kX1_liesBelow_ok 3 rfl) ?_
  refine lv_istore_n (lv' := [(3, .int (v w)), (0, .ref (ad k)), (1, .int (nI w)), (2, .int (nI g))]) hx hb (dk kX1_liesBelow_ok 4 rfl) rfl hl (by decide) rfl (fun ls hl => ?_)
  refine lv_iconst (v := nI 0) hx hb (dk kX1_liesBelow_ok 5 rfl) rfl ?_
  refine lv_istore (lv' := [(4, .int (nI 0)), (3, .int (v w)), (0, .ref (ad k)), (1, .int (nI w)), (2, .int (nI g))]) hx hb (dk kX1_liesBelow_ok 6 rfl) hl (by decide) rfl (fun ls hl => ?_)
  have L10 : ∀ (fu : Nat) (i : Nat) (x : Int32), i ≤ 16 → lbl v g 16 (v w) = lbl v g (16 - i) x → 16 - i < fu → ∀ ls : Array Slot, lv_has ls 5 [(0, .ref (ad k)), (1, .int (nI w)), (2, .int (nI g)), (3, .int x), (4, .int (nI i))] → W p l e ({ frames := 1, cells := 0, slots := 0, locals := 20 } : Room) s m ([.ref (ad k), .int (nI w), .int (nI g)] : List Value).toArray below meth cd s.heap [] 0 0 Q (F0 m 10 ls []) := by
    intro fu
    induction fu with
    | zero => intros; omega
    | succ fu ih10 =>
      intro i x hi hr hm10 ls hl
      refine lv_iload hx hb (dk kX1_liesBelow_ok 7 rfl) (lv_at hl 4 rfl) ?_
      refine lv_bipush (v := nI 16) hx hb (dk kX1_liesBelow_ok 8 rfl) rfl ?_
      refine n_icmp_ge (tgt := 47) hx hb (by first | omega | (have := wk_lt h2; omega)) (by decide) (dk kX1_liesBelow_ok 9 rfl) (by decide) (fun h1 => ?_) (fun h1 => ?_)
      · skip
        refine lv_iconst (v := nI 0) hx hb (dk kX1_liesBelow_ok 26 rfl) rfl ?_
        exact hret _ _ _ (by first | (rw [hr, show 16 - i = (16 - (i + 1)) + 1 by omega]; simp [lbl, bI, h1]; done) | (rw [hr, show 16 - i = 0 by omega]; rfl)) (dk kX1_liesBelow_ok 27 rfl)
      · skip
        refine lv_iload_n hx hb (dk kX1_liesBelow_ok 10 rfl) rfl (lv_at hl 3 rfl) ?_
        refine csPN (As := [.int x]) (rest := []) ⟨hx, hb, hml, hown, hts⟩ (tX5_isWink l x) (cwN9 1 hts mcX5_isWink (nm7 hNW) mini_RX5 rfl rfl hdX5_isWink ⟨Nat.le_of_ble_eq_true rfl, Nat.le_of_ble_eq_true rfl⟩) (hts _ (List.mem_cons_of_mem _ msX5_isWink)) rfl hl.1 rfl (Nat.le_of_ble_eq_true rfl) (by decide) (dk kX1_liesBelow_ok 11 rfl) ?_
        refine b_if_eq (tgt := 47) hx hb (dk kX1_liesBelow_ok 12 rfl) (by decide) (fun h2 => ?_) (fun h2 => ?_)
        · skip
          refine lv_iconst (v := nI 0) hx hb (dk kX1_liesBelow_ok 26 rfl) rfl ?_
          exact hret _ _ _ (by first | (rw [hr, show 16 - i = (16 - (i + 1)) + 1 by omega]; simp [lbl, bI, h1, h2]; done) | (rw [hr, show 16 - i = 0 by omega]; rfl)) (dk kX1_liesBelow_ok 27 rfl)
        · skip
          refine lv_iload_n hx hb (dk kX1_liesBelow_ok 13 rfl) rfl (lv_at hl 3 rfl) ?_
          refine csPN (As := [.int x]) (rest := []) ⟨hx, hb, hml, hown, hts⟩ (tX5_colourOf l x (ix x) (wk_eq h2) (by have := wk_lt h2; omega)) (cwN9 1 hts mcX5_colourOf (nm1 hNW) mini_RX5 rfl rfl hdX5_colourOf ⟨Nat.le_of_ble_eq_true rfl, Nat.le_of_ble_eq_true rfl⟩) (hts _ (List.mem_cons_of_mem _ msX5_colourOf)) rfl hl.1 rfl (Nat.le_of_ble_eq_true rfl) (by decide) (dk kX1_liesBelow_ok 14 rfl) ?_
          refine lv_iload_n hx hb (dk kX1_liesBelow_ok 15 rfl) rfl (lv_at hl 2 rfl) ?_
          refine n_icmp_ne (tgt := 34) hx hb (by first | omega | (have := wk_lt h2; omega)) (by first | omega | (have := wk_lt h2; omega)) (dk kX1_liesBelow_ok 16 rfl) (by decide) (fun h3 => ?_) (fun h3 => ?_)
          · skip
            refine lv_aload_n hx hb (dk kX1_liesBelow_ok 19 rfl) rfl (lv_at hl 0 rfl) ?_
            refine gf hx hb hts (fun w h => List.mem_cons_of_mem _ (acX1 w h)) hown hK hP hk0 f0 rfl 2 (by decide) (hts _ (List.mem_cons_of_mem _ (ac1 _ (List.mem_of_getElem? (i := 0) rfl)))) (fun _ h => h) rfl (dk kX1_liesBelow_ok 20 rfl) ?_
            refine lv_iload_n hx hb (dk kX1_liesBelow_ok 21 rfl) rfl (lv_at hl 3 rfl) ?_
            refine ald (j := (ix x)) hx hb hK hP hk3 f3 (wk_eq h2) (wk_lt h2) (by decide) (dk kX1_liesBelow_ok 22 rfl) ?_
            refine lv_istore_n (lv' := [(3, .int (v (ix x))), (0, .ref (ad k)), (1, .int (nI w)), (2, .int (nI g)), (4, .int (nI i))]) hx hb (dk kX1_liesBelow_ok 23 rfl) rfl hl (by decide) rfl (fun ls hl => ?_)
            refine lv_iinc (v := nI (i + 1)) (lv' := [(4, .int (nI (i + 1))), (3, .int (v (ix x))), (0, .ref (ad k)), (1, .int (nI w)), (2, .int (nI g))]) hx hb (dk kX1_liesBelow_ok 24 rfl) hl (k := 4) rfl (n_inc _) (by decide) rfl (fun ls hl => ?_)
            refine lv_goto (tgt := 10) hx hb (dk kX1_liesBelow_ok 25 rfl) (by decide) ?_
            exact ih10 (i + 1) (v (ix x)) (by omega) (by rw [hr, show 16 - i = (16 - (i + 1)) + 1 by omega]; simp [lbl, h1, h2, h3]) (by omega) ls (lv_sub hl [2, 3, 4, 1, 0] rfl)
          · skip
            refine lv_iconst (v := nI 1) hx hb (dk kX1_liesBelow_ok 17 rfl) rfl ?_
            exact hret _ _ _ (by first | (rw [hr, show 16 - i = (16 - (i + 1)) + 1 by omega]; simp [lbl, bI, h1, h2, h3]; done) | (rw [hr, show 16 - i = 0 by omega]; rfl)) (dk kX1_liesBelow_ok 18 rfl)
  exact L10 _ 0 (v w) (by first | omega | rfl) (by first | omega | rfl) (Nat.lt_succ_self _) ls (lv_sub hl [2, 3, 4, 1, 0] rfl)
set_option maxRecDepth 100000 in
set_option maxHeartbeats 4000000 in
theorem tX1_othersBelow (l : Launch) (D : va_G) (cI cQ cL : ClassId) (ad : Nat → Nat) (N : Nat) (F : Nat → va_E) (k : Nat) (hk : k + 3 < N) (c b v : Nat → Int32) (hM : matAt cI ad F k c b v) (x : Int32) (w : Nat) (hxw : x = nI w) (hw : w < 4) : MR l yX1_othersBelow (Cond.code yX1_othersBelow cX1_othersBelow 4 (some .int) :: AW) ({ frames := 2, cells := 0, slots := 0, locals := 44 } : Room) D cI cQ cL ad N F [.ref (ad k), .int x] (.int (nI (cnt (oth v w) 16))) := by
  refine mr_i (ty := .int) (by decide +kernel) rfl rfl rfl rfl (Nat.le_of_ble_eq_true rfl) (fun p e s m below meth cd Q ls hx hb hml hown hts hP hK hNW hret hl => ?_)
  have hown : s.vm.findClass RX1 = some m.cls := hown
  subst hxw
  obtain ⟨f0, f1, f2, f3⟩ := id hM
  have hk0 : k < N := by omega
  have hk1 : k + 1 < N := by omega
  have hk2 : k + 2 < N := by omega
  have hk3 : k + 3 < N := hk
  have hl : lv_has ls 4 [(0, .ref (ad k)), (1, .int (nI w))] := hl
  refine lv_iconst (v := nI 0) hx hb (dk kX1_othersBelow_ok 0 rfl) rfl ?_
  refine lv_istore_n (lv' := [(2, .int (nI 0)), (0, .ref (ad k)), (1, .int (nI w))]) hx hb (dk kX1_othersBelow_ok 1 rfl) rfl hl (by decide) rfl (fun ls hl => ?_)
  refine lv_iconst (v := nI 0) hx hb (dk kX1_othersBelow_ok 2 rfl) rfl ?_
  refine lv_istore_n (lv' := [(3, .int (nI 0)), (2, .int (nI 0)), (0, .ref (ad k)), (1, .int (nI w))]) hx hb (dk kX1_othersBelow_ok 3 rfl) rfl hl (by decide) rfl (fun ls hl => ?_)
  have L4 : ∀ (fu : Nat) (i : Nat) (x2 : Int32), x2 = nI (cnt (oth v w) i) → i ≤ 16 → 16 - i < fu → ∀ ls : Array Slot, lv_has ls 4 [(0, .ref (ad k)), (1, .int (nI w)), (2, .int x2), (3, .int (nI i))] → W p l e ({ frames := 2, cells := 0, slots := 0, locals := 44 } : Room) s m ([.ref (ad k), .int (nI w)] : List Value).toArray below meth cd s.heap [] 0 0 Q (F0 m 4 ls []) := by
    intro fu
    induction fu with
    | zero => intros; omega
    | succ fu ih4 =>
      intro i x2 ex2 hi hm4 ls hl
      subst ex2
      refine lv_iload_n hx hb (dk kX1_othersBelow_ok 4 rfl) rfl (lv_at hl 3 rfl) ?_
      refine lv_bipush (v := nI 16) hx hb (dk kX1_othersBelow_ok 5 rfl) rfl ?_
      refine n_icmp_ge (tgt := 36) hx hb (by omega) (by decide) (dk kX1_othersBelow_ok 6 rfl) (by decide) (fun h1 => ?_) (fun h1 => ?_)
      · skip
        refine lv_iload_n hx hb (dk kX1_othersBelow_ok 19 rfl) rfl (lv_at hl 2 rfl) ?_
        exact hret _ _ _ (by rw [show i = 16 by omega] <;> rfl) (dk kX1_othersBelow_ok 20 rfl)
      · skip
        refine lv_iload_n hx hb (dk kX1_othersBelow_ok 7 rfl) rfl (lv_at hl 3 rfl) ?_
        refine csPN (As := [.int (nI i)]) (rest := []) ⟨hx, hb, hml, hown, hts⟩ (tX5_colourOf l (nI i) i rfl (by omega)) (cwN9 1 hts mcX5_colourOf (nm1 hNW) mini_RX5 rfl rfl hdX5_colourOf ⟨Nat.le_of_ble_eq_true rfl, Nat.le_of_ble_eq_true rfl⟩) (hts _ (List.mem_cons_of_mem _ msX5_colourOf)) rfl hl.1 rfl (Nat.le_of_ble_eq_true rfl) (by decide) (dk kX1_othersBelow_ok 8 rfl) ?_
        refine lv_iload_n hx hb (dk kX1_othersBelow_ok 9 rfl) rfl (lv_at hl 1 rfl) ?_
        refine n_icmp_eq (tgt := 30) hx hb (by omega) (by omega) (dk kX1_othersBelow_ok 10 rfl) (by decide) (fun h2 => ?_) (fun h2 => ?_)
        · skip
          refine lv_iinc (v := nI (i + 1)) (lv' := [(3, .int (nI (i + 1))), (0, .ref (ad k)), (1, .int (nI w)), (2, .int (nI (cnt (oth v w) i)))]) hx hb (dk kX1_othersBelow_ok 17 rfl) hl (k := 3) rfl (n_inc _) (by decide) rfl (fun ls hl => ?_)
          refine lv_goto (tgt := 4) hx hb (dk kX1_othersBelow_ok 18 rfl) (by decide) ?_
          exact ih4 (i + 1) _ (by simp [cnt, h1, h2, oth]) (by omega) (by omega) ls (lv_sub hl [1, 2, 3, 0] rfl)
        · skip
          refine lv_aload_n hx hb (dk kX1_othersBelow_ok 11 rfl) rfl (lv_at hl 0 rfl) ?_
          refine lv_iload_n hx hb (dk kX1_othersBelow_ok 12 rfl) rfl (lv_at hl 3 rfl) ?_
          refine lv_iload_n hx hb (dk kX1_othersBelow_ok 13 rfl) rfl (lv_at hl 1 rfl) ?_
          refine cvR (As := [.int (nI i), .int (nI w)]) (rest := []) ⟨hx, hb, hml, hown, hts⟩ (tX1_liesBelow l D cI cQ cL ad N F k hk c b v hM (nI i) i rfl (by omega) (nI w) w rfl (by omega)) (cwV9 2 hts mcX1_liesBelow (ac3 _ (List.mem_of_getElem? (i := 20) rfl)) miX1_liesBelow meX1_liesBelow mini_RX1 rfl rfl hdX1_liesBelow ⟨Nat.le_of_ble_eq_true rfl, Nat.le_of_ble_eq_true rfl⟩) hK hP hNW hk0 f0 rfl rfl hl.1 rfl (Nat.le_of_ble_eq_true rfl) (by decide) (dk kX1_othersBelow_ok 14 rfl) ?_
          refine b_if_eq (tgt := 30) hx hb (dk kX1_othersBelow_ok 15 rfl) (by decide) (fun h3 => ?_) (fun h3 => ?_)
          · skip
            refine lv_iinc (v := nI (i + 1)) (lv' := [(3, .int (nI (i + 1))), (0, .ref (ad k)), (1, .int (nI w)), (2, .int (nI (cnt (oth v w) i)))]) hx hb (dk kX1_othersBelow_ok 17 rfl) hl (k := 3) rfl (n_inc _) (by decide) rfl (fun ls hl => ?_)
            refine lv_goto (tgt := 4) hx hb (dk kX1_othersBelow_ok 18 rfl) (by decide) ?_
            exact ih4 (i + 1) _ (by simp [cnt, h1, h2, h3, oth]) (by omega) (by omega) ls (lv_sub hl [1, 2, 3, 0] rfl)
          · skip
            refine lv_iinc (v := nI ((cnt (oth v w) i) + 1)) (lv' := [(2, .int (nI ((cnt (oth v w) i) + 1))), (0, .ref (ad k)), (1, .int (nI w)), (3, .int (nI i))]) hx hb (dk kX1_othersBelow_ok 16 rfl) hl (k := 2) rfl (n_inc _) (by decide) rfl (fun ls hl => ?_)
            refine lv_iinc (v := nI (i + 1)) (lv' := [(3, .int (nI (i + 1))), (2, .int (nI ((cnt (oth v w) i) + 1))), (0, .ref (ad k)), (1, .int (nI w))]) hx hb (dk kX1_othersBelow_ok 17 rfl) hl (k := 3) rfl (n_inc _) (by decide) rfl (fun ls hl => ?_)
            refine lv_goto (tgt := 4) hx hb (dk kX1_othersBelow_ok 18 rfl) (by decide) ?_
            exact ih4 (i + 1) _ (by simp [cnt, h1, h2, h3, oth]) (by omega) (by omega) ls (lv_sub hl [2, 3, 1, 0] rfl)
  exact L4 _ 0 _ (by first | rfl | omega) (by first | rfl | omega) (Nat.lt_succ_self _) ls (lv_sub hl [2, 3, 1, 0] rfl)
