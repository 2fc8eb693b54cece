set_option maxRecDepth 100000 in
set_option maxHeartbeats 4000000 in
theorem tX1_setCells (l : Launch) (D : va_G) (cI cQ cL : ClassId) (ad : Nat → Nat) (N : Nat) (F : Nat → va_E) (k : Nat) (hk : k + 3 < N) (c b v : Nat → Int32) (hM : matAt cI ad F k c b v) (x : Int32) (w : Nat) (hxw : x = nI w) (hw : w < 16) (q : Int32) : MX l yX1_setCells (Cond.code yX1_setCells cX1_setCells 5 none :: AW) ({ frames := 1, cells := 0, slots := 0, locals := 20 } : Room) D cI cQ cL ad N F [.ref (ad k), .int x, .int q] (dp none (mSet cI F k (scl v q 16 c (nI w)) b v)) 0 0 := by
  refine mx_v (by decide +kernel) rfl (Nat.le_of_ble_eq_true rfl) (fun p e s m below meth cd Q ls hx hb hml hown hts hDi hP hK hNW hS hret hl => ?_)
  have hown : s.vm.findClass RX1 = some m.cls := hown
  subst hxw
  have hk0 : k < N := by omega
  have hk1 : k + 1 < N := by omega
  have hk2 : k + 2 < N := by omega
  have hk3 : k + 3 < N := hk
  have hP : va_P D vwCl (iW ad N (mSet cI F k c b v)) s.heap := by rw [mSet_self hM]; exact hP
  have hl : lv_has ls 5 [(0, .ref (ad k)), (1, .int (nI w)), (2, .int q)] := hl
  refine lv_iload_n hx hb (dk kX1_setCells_ok 0 rfl) rfl (lv_at hl 1 rfl) ?_
  refine lv_istore_n (lv' := [(3, .int (nI w)), (0, .ref (ad k)), (1, .int (nI w)), (2, .int q)]) hx hb (dk kX1_setCells_ok 1 rfl) rfl hl (by decide) rfl (fun ls hl => ?_)
  refine lv_iconst (v := nI 0) hx hb (dk kX1_setCells_ok 2 rfl) rfl ?_
  refine lv_istore (lv' := [(4, .int (nI 0)), (3, .int (nI w)), (0, .ref (ad k)), (1, .int (nI w)), (2, .int q)]) hx hb (dk kX1_setCells_ok 3 rfl) hl (by decide) rfl (fun ls hl => ?_)
  have L5 : ∀ (fu : Nat) (i : Nat) (x : Int32) (c2 : Nat → Int32) (H : Heap) (locs : List Loc), va_P D vwCl (iW ad N (mSet cI F k c2 b v)) H → va_S (iA ad N s.heap.size) s.heap H locs → i ≤ 16 → scl v q 16 c (nI w) = scl v q (16 - i) c2 x → 16 - i < fu → ∀ ls : Array Slot, lv_has ls 5 [(0, .ref (ad k)), (1, .int (nI w)), (2, .int q), (3, .int x), (4, .int (nI i))] → W p l e ({ frames := 1, cells := 0, slots := 0, locals := 20 } : Room) s m ([.ref (ad k), .int (nI w), .int q] : List Value).toArray below meth cd H locs 0 0 Q (F0 m 5 ls []) := by
    intro fu
    induction fu with
    | zero => intros; omega
    | succ fu ih5 =>
      intro i x c2 H locs hP hS hi hr hm5 ls hl
      refine lv_iload hx hb (dk kX1_setCells_ok 4 rfl) (lv_at hl 4 rfl) ?_
      refine lv_bipush (v := nI 16) hx hb (dk kX1_setCells_ok 5 rfl) rfl ?_
      refine n_icmp_ge (tgt := 39) hx hb (by omega) (by decide) (dk kX1_setCells_ok 6 rfl) (by decide) (fun h1 => ?_) (fun h1 => ?_)
      · skip
        exact hret _ _ _ _ _ _ _ (by refine ⟨rfl, ?_⟩; first | (rw [hr, show 16 - i = (16 - (i + 1)) + 1 by omega]; simp [scl, h1]; done) | (rw [hr, show 16 - i = 0 by omega]; rfl)) hP hS (by decide) (by decide) (dk kX1_setCells_ok 22 rfl)
      · skip
        refine lv_iload_n hx hb (dk kX1_setCells_ok 7 rfl) rfl (lv_at hl 3 rfl) ?_
        refine csPN (As := [.int x]) (rest := []) ⟨hx, hb, hml, hown, hts⟩ (tX5_isWink l x) (cwN9 1 hts mcX5_isWink (nm7 hNW) mini_RX5 rfl rfl hdX5_isWink ⟨Nat.le_of_ble_eq_true rfl, Nat.le_of_ble_eq_true rfl⟩) (hts _ (List.mem_cons_of_mem _ msX5_isWink)) rfl hl.1 rfl (Nat.le_of_ble_eq_true rfl) (by decide) (dk kX1_setCells_ok 8 rfl) ?_
        refine b_if_eq (tgt := 39) hx hb (dk kX1_setCells_ok 9 rfl) (by decide) (fun h2 => ?_) (fun h2 => ?_)
        · skip
          exact hret _ _ _ _ _ _ _ (by refine ⟨rfl, ?_⟩; first | (rw [hr, show 16 - i = (16 - (i + 1)) + 1 by omega]; simp [scl, h1, h2]; done) | (rw [hr, show 16 - i = 0 by omega]; rfl)) hP hS (by decide) (by decide) (dk kX1_setCells_ok 22 rfl)
        · skip
          refine lv_aload_n hx hb (dk kX1_setCells_ok 10 rfl) rfl (lv_at hl 0 rfl) ?_
          refine gf hx hb hts (fun w h => List.mem_cons_of_mem _ (acX1 w h)) hown hK hP hk0 (mSet_at hM).1 rfl 0 (by decide) (hts _ (List.mem_cons_of_mem _ (ac0 _ (List.mem_of_getElem? (i := 22) rfl)))) (fun _ h => h) rfl (dk kX1_setCells_ok 11 rfl) ?_
          refine lv_iload_n hx hb (dk kX1_setCells_ok 12 rfl) rfl (lv_at hl 3 rfl) ?_
          refine lv_iload_n hx hb (dk kX1_setCells_ok 13 rfl) rfl (lv_at hl 2 rfl) ?_
          refine ast (mSet cI F k (upd c2 (ix x) q) b v) (j := (ix x)) hx hb hK hDi hP hS hk1 (mSet_at hM).2.1 (wk_eq h2) (wk_lt h2) (by decide) (dk kX1_setCells_ok 14 rfl) mSet_c (fun H locs hP hS => ?_)
          refine lv_aload_n hx hb (dk kX1_setCells_ok 15 rfl) rfl (lv_at hl 0 rfl) ?_
          refine gf hx hb hts (fun w h => List.mem_cons_of_mem _ (acX1 w h)) hown hK hP hk0 (mSet_at hM).1 rfl 2 (by decide) (hts _ (List.mem_cons_of_mem _ (ac1 _ (List.mem_of_getElem? (i := 0) rfl)))) (fun _ h => h) rfl (dk kX1_setCells_ok 16 rfl) ?_
          refine lv_iload_n hx hb (dk kX1_setCells_ok 17 rfl) rfl (lv_at hl 3 rfl) ?_
          refine ald (j := (ix x)) hx hb hK hP hk3 (mSet_at hM).2.2.2 (wk_eq h2) (wk_lt h2) (by decide) (dk kX1_setCells_ok 18 rfl) ?_
          refine lv_istore_n (lv' := [(3, .int (v (ix x))), (0, .ref (ad k)), (1, .int (nI w)), (2, .int q), (4, .int (nI i))]) hx hb (dk kX1_setCells_ok 19 rfl) rfl hl (by decide) rfl (fun ls hl => ?_)
          refine lv_iinc (v := nI (i + 1)) (lv' := [(4, .int (nI (i + 1))), (3, .int (v (ix x))), (0, .ref (ad k)), (1, .int (nI w)), (2, .int q)]) hx hb (dk kX1_setCells_ok 20 rfl) hl (k := 4) rfl (n_inc _) (by decide) rfl (fun ls hl => ?_)
          refine lv_goto (tgt := 5) hx hb (dk kX1_setCells_ok 21 rfl) (by decide) ?_
          exact ih5 (i + 1) (v (ix x)) (upd c2 (ix x) q) _ _ hP hS (by omega) (by rw [hr, show 16 - i = (16 - (i + 1)) + 1 by omega]; simp [scl, h1, h2]) (by omega) ls (lv_sub hl [2, 3, 4, 1, 0] rfl)
  exact L5 _ 0 (nI w) c _ _ hP hS (by first | omega | rfl) (by first | omega | rfl) (Nat.lt_succ_self _) ls (lv_sub hl [2, 3, 4, 1, 0] rfl)
set_option maxRecDepth 100000 in
set_option maxHeartbeats 4000000 in
theorem tX1_separate (l : Launch) (D : va_G) (cI cQ cL : ClassId) (ad : Nat → Nat) (N : Nat) (F : Nat → va_E) (k : Nat) (hk : k + 3 < N) (c b v : Nat → Int32) (hM : matAt cI ad F k c b v) (x : Int32) (w : Nat) (hxw : x = nI w) (hw : w < 16) : MX l yX1_separate (Cond.code yX1_separate cX1_separate 5 none :: AW) ({ frames := 1, cells := 0, slots := 0, locals := 20 } : Room) D cI cQ cL ad N F [.ref (ad k), .int x] (dp none (mSet cI F k c ((sep 16 b v (nI w)).1) ((sep 16 b v (nI w)).2))) 0 0 := by
  refine mx_v (by decide +kernel) rfl (Nat.le_of_ble_eq_true rfl) (fun p e s m below meth cd Q ls hx hb hml hown hts hDi hP hK hNW hS hret hl => ?_)
  have hown : s.vm.findClass RX1 = some m.cls := hown
  subst hxw
  have hk0 : k < N := by omega
  have hk1 : k + 1 < N := by omega
  have hk2 : k + 2 < N := by omega
  have hk3 : k + 3 < N := hk
  have hP : va_P D vwCl (iW ad N (mSet cI F k c b v)) s.heap := by rw [mSet_self hM]; exact hP
  have hl : lv_has ls 5 [(0, .ref (ad k)), (1, .int (nI w))] := hl
  refine lv_iload_n hx hb (dk kX1_separate_ok 0 rfl) rfl (lv_at hl 1 rfl) ?_
  refine lv_istore_n (lv' := [(2, .int (nI w)), (0, .ref (ad k)), (1, .int (nI w))]) hx hb (dk kX1_separate_ok 1 rfl) rfl hl (by decide) rfl (fun ls hl => ?_)
  refine lv_iconst (v := nI 0) hx hb (dk kX1_separate_ok 2 rfl) rfl ?_
  refine lv_istore_n (lv' := [(3, .int (nI 0)), (2, .int (nI w)), (0, .ref (ad k)), (1, .int (nI w))]) hx hb (dk kX1_separate_ok 3 rfl) rfl hl (by decide) rfl (fun ls hl => ?_)
  have L4 : ∀ (fu : Nat) (i : Nat) (x : Int32) (b2 v2 : Nat → Int32) (H : Heap) (locs : List Loc), va_P D vwCl (iW ad N (mSet cI F k c b2 v2)) H → va_S (iA ad N s.heap.size) s.heap H locs → i ≤ 16 → sep 16 b v (nI w) = sep (16 - i) b2 v2 x → 16 - i < fu → ∀ ls : Array Slot, lv_has ls 5 [(0, .ref (ad k)), (1, .int (nI w)), (2, .int x), (3, .int (nI i))] → W p l e ({ frames := 1, cells := 0, slots := 0, locals := 20 } : Room) s m ([.ref (ad k), .int (nI w)] : List Value).toArray below meth cd H locs 0 0 Q (F0 m 4 ls []) := by
    intro fu
    induction fu with
    | zero => intros; omega
    | succ fu ih4 =>
      intro i x b2 v2 H locs hP hS hi hr hm4 ls hl
      refine lv_iload_n hx hb (dk kX1_separate_ok 4 rfl) rfl (lv_at hl 3 rfl) ?_
      refine lv_bipush (v := nI 16) hx hb (dk kX1_separate_ok 5 rfl) rfl ?_
      refine n_icmp_ge (tgt := 48) hx hb (by omega) (by decide) (dk kX1_separate_ok 6 rfl) (by decide) (fun h1 => ?_) (fun h1 => ?_)
      · skip
        exact hret _ _ _ _ _ _ _ (by refine ⟨rfl, ?_⟩; first | (rw [hr, show 16 - i = (16 - (i + 1)) + 1 by omega]; simp [sep, h1]; done) | (rw [hr, show 16 - i = 0 by omega]; rfl)) hP hS (by decide) (by decide) (dk kX1_separate_ok 29 rfl)
      · skip
        refine lv_iload_n hx hb (dk kX1_separate_ok 7 rfl) rfl (lv_at hl 2 rfl) ?_
        refine csPN (As := [.int x]) (rest := []) ⟨hx, hb, hml, hown, hts⟩ (tX5_isWink l x) (cwN9 1 hts mcX5_isWink (nm7 hNW) mini_RX5 rfl rfl hdX5_isWink ⟨Nat.le_of_ble_eq_true rfl, Nat.le_of_ble_eq_true rfl⟩) (hts _ (List.mem_cons_of_mem _ msX5_isWink)) rfl hl.1 rfl (Nat.le_of_ble_eq_true rfl) (by decide) (dk kX1_separate_ok 8 rfl) ?_
        refine b_if_eq (tgt := 48) hx hb (dk kX1_separate_ok 9 rfl) (by decide) (fun h2 => ?_) (fun h2 => ?_)
        · skip
          exact hret _ _ _ _ _ _ _ (by refine ⟨rfl, ?_⟩; first | (rw [hr, show 16 - i = (16 - (i + 1)) + 1 by omega]; simp [sep, h1, h2]; done) | (rw [hr, show 16 - i = 0 by omega]; rfl)) hP hS (by decide) (by decide) (dk kX1_separate_ok 29 rfl)
        · skip
          refine lv_aload_n hx hb (dk kX1_separate_ok 10 rfl) rfl (lv_at hl 0 rfl) ?_
          refine gf hx hb hts (fun w h => List.mem_cons_of_mem _ (acX1 w h)) hown hK hP hk0 (mSet_at hM).1 rfl 2 (by decide) (hts _ (List.mem_cons_of_mem _ (ac1 _ (List.mem_of_getElem? (i := 0) rfl)))) (fun _ h => h) rfl (dk kX1_separate_ok 11 rfl) ?_
          refine lv_iload_n hx hb (dk kX1_separate_ok 12 rfl) rfl (lv_at hl 2 rfl) ?_
          refine ald (j := (ix x)) hx hb hK hP hk3 (mSet_at hM).2.2.2 (wk_eq h2) (wk_lt h2) (by decide) (dk kX1_separate_ok 13 rfl) ?_
          refine lv_istore (lv' := [(4, .int (v2 (ix x))), (0, .ref (ad k)), (1, .int (nI w)), (2, .int x), (3, .int (nI i))]) hx hb (dk kX1_separate_ok 14 rfl) hl (by decide) rfl (fun ls hl => ?_)
          refine lv_aload_n hx hb (dk kX1_separate_ok 15 rfl) rfl (lv_at hl 1 rfl) ?_
          refine gf hx hb hts (fun w h => List.mem_cons_of_mem _ (acX1 w h)) hown hK hP hk0 (mSet_at hM).1 rfl 1 (by decide) (hts _ (List.mem_cons_of_mem _ (ac0 _ (List.mem_of_getElem? (i := 23) rfl)))) (fun _ h => h) rfl (dk kX1_separate_ok 16 rfl) ?_
          refine lv_iload_n hx hb (dk kX1_separate_ok 17 rfl) rfl (lv_at hl 3 rfl) ?_
          refine lv_iconst (v := -1) hx hb (dk kX1_separate_ok 18 rfl) rfl ?_
          refine ast (mSet cI F k c (upd b2 (ix x) (-1)) v2) (j := (ix x)) hx hb hK hDi hP hS hk2 (mSet_at hM).2.2.1 (wk_eq h2) (wk_lt h2) (by decide) (dk kX1_separate_ok 19 rfl) mSet_b (fun H locs hP hS => ?_)
          refine lv_aload_n hx hb (dk kX1_separate_ok 20 rfl) rfl (lv_at hl 1 rfl) ?_
          refine gf hx hb hts (fun w h => List.mem_cons_of_mem _ (acX1 w h)) hown hK hP hk0 (mSet_at hM).1 rfl 2 (by decide) (hts _ (List.mem_cons_of_mem _ (ac1 _ (List.mem_of_getElem? (i := 0) rfl)))) (fun _ h => h) rfl (dk kX1_separate_ok 21 rfl) ?_
          refine lv_iload_n hx hb (dk kX1_separate_ok 22 rfl) rfl (lv_at hl 3 rfl) ?_
          refine lv_iconst (v := -1) hx hb (dk kX1_separate_ok 23 rfl) rfl ?_
          refine ast (mSet cI F k c (upd b2 (ix x) (-1)) (upd v2 (ix x) (-1))) (j := (ix x)) hx hb hK hDi hP hS hk3 (mSet_at hM).2.2.2 (wk_eq h2) (wk_lt h2) (by decide) (dk kX1_separate_ok 24 rfl) mSet_v (fun H locs hP hS => ?_)
          refine lv_iload hx hb (dk kX1_separate_ok 25 rfl) (lv_at hl 0 rfl) ?_
          refine lv_istore_n (lv' := [(2, .int (v2 (ix x))), (4, .int (v2 (ix x))), (0, .ref (ad k)), (1, .int (nI w)), (3, .int (nI i))]) hx hb (dk kX1_separate_ok 26 rfl) rfl hl (by decide) rfl (fun ls hl => ?_)
          refine lv_iinc (v := nI (i + 1)) (lv' := [(3, .int (nI (i + 1))), (2, .int (v2 (ix x))), (4, .int (v2 (ix x))), (0, .ref (ad k)), (1, .int (nI w))]) hx hb (dk kX1_separate_ok 27 rfl) hl (k := 4) rfl (n_inc _) (by decide) rfl (fun ls hl => ?_)
          refine lv_goto (tgt := 4) hx hb (dk kX1_separate_ok 28 rfl) (by decide) ?_
          exact ih4 (i + 1) (v2 (ix x)) (upd b2 (ix x) (-1)) (upd v2 (ix x) (-1)) _ _ hP hS (by omega) (by rw [hr, show 16 - i = (16 - (i + 1)) + 1 by omega]; simp [sep, h1, h2]) (by omega) ls (lv_sub hl [3, 4, 1, 0] rfl)
  exact L4 _ 0 (nI w) b v _ _ hP hS (by first | omega | rfl) (by first | omega | rfl) (Nat.lt_succ_self _) ls (lv_sub hl [2, 3, 1, 0] rfl)
set_option maxRecDepth 100000 in
set_option maxHeartbeats 4000000 in
theorem tX1_move (l : Launch) (D : va_G) (cI cQ cL : ClassId) (ad : Nat → Nat) (N : Nat) (F : Nat → va_E) (k : Nat) (hk : k + 3 < N) (c b v : Nat → Int32) (hM : matAt cI ad F k c b v) (x : Int32) (w : Nat) (hxw : x = nI w) (hw : w < 16) (q : Int32) : MX l yX1_move (Cond.code yX1_move cX1_move 5 none :: AW) ({ frames := 2, cells := 0, slots := 0, locals := 44 } : Room) D cI cQ cL ad N F [.ref (ad k), .int x, .int q] (dp none (mSet cI F k (mov1 c b v w q) (mov2 c b v w q) (mov3 c b v w q))) 0 0 := by
  refine mx_v (by decide +kernel) rfl (Nat.le_of_ble_eq_true rfl) (fun p e s m below meth cd Q ls hx hb hml hown hts hDi hP hK hNW hS hret hl => ?_)
  have hown : s.vm.findClass RX1 = some m.cls := hown
  subst hxw
  have hk0 : k < N := by omega
  have hk1 : k + 1 < N := by omega
  have hk2 : k + 2 < N := by omega
  have hk3 : k + 3 < N := hk
  have hP : va_P D vwCl (iW ad N (mSet cI F k c b v)) s.heap := by rw [mSet_self hM]; exact hP
  have hl : lv_has ls 5 [(0, .ref (ad k)), (1, .int (nI w)), (2, .int q)] := hl
  refine lv_aload_n hx hb (dk kX1_move_ok 0 rfl) rfl (lv_at hl 0 rfl) ?_
  refine gf hx hb hts (fun w h => List.mem_cons_of_mem _ (acX1 w h)) hown hK hP hk0 (mSet_at hM).1 rfl 1 (by decide) (hts _ (List.mem_cons_of_mem _ (ac0 _ (List.mem_of_getElem? (i := 23) rfl)))) (fun _ h => h) rfl (dk kX1_move_ok 1 rfl) ?_
  refine lv_iload_n hx hb (dk kX1_move_ok 2 rfl) rfl (lv_at hl 1 rfl) ?_
  refine ald (j := w) hx hb hK hP hk2 (mSet_at hM).2.2.1 rfl (by omega) (by decide) (dk kX1_move_ok 3 rfl) ?_
  refine lv_istore_n (lv' := [(3, .int (b w)), (0, .ref (ad k)), (1, .int (nI w)), (2, .int q)]) hx hb (dk kX1_move_ok 4 rfl) rfl hl (by decide) rfl (fun ls hl => ?_)
  refine lv_iload_n hx hb (dk kX1_move_ok 5 rfl) rfl (lv_at hl 0 rfl) ?_
  refine csPN (As := [.int (b w)]) (rest := []) ⟨hx, hb, hml, hown, hts⟩ (tX5_isWink l (b w)) (cwN9 1 hts mcX5_isWink (nm7 hNW) mini_RX5 rfl rfl hdX5_isWink ⟨Nat.le_of_ble_eq_true rfl, Nat.le_of_ble_eq_true rfl⟩) (hts _ (List.mem_cons_of_mem _ msX5_isWink)) rfl hl.1 rfl (Nat.le_of_ble_eq_true rfl) (by decide) (dk kX1_move_ok 6 rfl) ?_
  refine b_if_eq (tgt := 21) hx hb (dk kX1_move_ok 7 rfl) (by decide) (fun h1 => ?_) (fun h1 => ?_)
  · skip
    refine lv_aload_n hx hb (dk kX1_move_ok 13 rfl) rfl (lv_at hl 1 rfl) ?_
    refine lv_iload_n hx hb (dk kX1_move_ok 14 rfl) rfl (lv_at hl 2 rfl) ?_
    refine lv_iconst (v := -1) hx hb (dk kX1_move_ok 15 rfl) rfl ?_
    refine cvDv (As := [.int (nI w), .int (-1)]) (rest := []) (mSet cI F k (scl v (-1) 16 c (nI w)) b v) ⟨hx, hb, hml, hown, hts⟩ (tX1_setCells l D cI cQ cL ad N (mSet cI F k c b v) k hk c b v (mSet_at hM) (nI w) w rfl (by omega) (-1)) (cwV9 2 hts mcX1_setCells (ac1 _ (List.mem_of_getElem? (i := 11) rfl)) miX1_setCells meX1_setCells mini_RX1 rfl rfl hdX1_setCells ⟨Nat.le_of_ble_eq_true rfl, Nat.le_of_ble_eq_true rfl⟩) hDi hK hP hNW hS hk0 (mSet_at hM).1 rfl rfl hl.1 rfl (Nat.le_of_ble_eq_true rfl) (by decide) (dk kX1_move_ok 16 rfl) mSet_mSet (fun H locs hP hS => ?_)
    refine lv_iload_n hx hb (dk kX1_move_ok 17 rfl) rfl (lv_at hl 3 rfl) ?_
    refine lv_bipush (v := nI 84) hx hb (dk kX1_move_ok 18 rfl) rfl ?_
    refine lv_icmp_ne (tgt := 39) hx hb (dk kX1_move_ok 19 rfl) (by decide) (fun h2 => ?_) (fun h2 => ?_)
    · skip
      refine lv_aload_n hx hb (dk kX1_move_ok 24 rfl) rfl (lv_at hl 1 rfl) ?_
      refine lv_iload_n hx hb (dk kX1_move_ok 25 rfl) rfl (lv_at hl 3 rfl) ?_
      refine cvR (As := [.int q]) (rest := []) ⟨hx, hb, hml, hown, hts⟩ (tX1_topAt l D cI cQ cL ad N (mSet cI F k (scl v (-1) 16 c (nI w)) b v) k hk (scl v (-1) 16 c (nI w)) b v (mSet_at hM) q) (cwV9 1 hts mcX1_topAt (ac1 _ (List.mem_of_getElem? (i := 20) rfl)) miX1_topAt meX1_topAt mini_RX1 rfl rfl hdX1_topAt ⟨Nat.le_of_ble_eq_true rfl, Nat.le_of_ble_eq_true rfl⟩) hK hP hNW hk0 (mSet_at hM).1 rfl rfl hl.1 rfl (Nat.le_of_ble_eq_true rfl) (by decide) (dk kX1_move_ok 26 rfl) ?_
      refine lv_istore (lv' := [(4, .int (top (scl v (-1) 16 c (nI w)) v q)), (3, .int (b w)), (0, .ref (ad k)), (1, .int (nI w)), (2, .int q)]) hx hb (dk kX1_move_ok 27 rfl) hl (by decide) rfl (fun ls hl => ?_)
      refine lv_aload_n hx hb (dk kX1_move_ok 28 rfl) rfl (lv_at hl 2 rfl) ?_
      refine lv_iload_n hx hb (dk kX1_move_ok 29 rfl) rfl (lv_at hl 3 rfl) ?_
      refine lv_iload_n hx hb (dk kX1_move_ok 30 rfl) rfl (lv_at hl 4 rfl) ?_
      refine cvDv (As := [.int (nI w), .int q]) (rest := []) (mSet cI F k (scl v q 16 (scl v (-1) 16 c (nI w)) (nI w)) b v) ⟨hx, hb, hml, hown, hts⟩ (tX1_setCells l D cI cQ cL ad N (mSet cI F k (scl v (-1) 16 c (nI w)) b v) k hk (scl v (-1) 16 c (nI w)) b v (mSet_at hM) (nI w) w rfl (by omega) q) (cwV9 2 hts mcX1_setCells (ac1 _ (List.mem_of_getElem? (i := 11) rfl)) miX1_setCells meX1_setCells mini_RX1 rfl rfl hdX1_setCells ⟨Nat.le_of_ble_eq_true rfl, Nat.le_of_ble_eq_true rfl⟩) hDi hK hP hNW hS hk0 (mSet_at hM).1 rfl rfl hl.1 rfl (Nat.le_of_ble_eq_true rfl) (by decide) (dk kX1_move_ok 31 rfl) mSet_mSet (fun H locs hP hS => ?_)
      refine lv_aload_n hx hb (dk kX1_move_ok 32 rfl) rfl (lv_at hl 2 rfl) ?_
      refine gf hx hb hts (fun w h => List.mem_cons_of_mem _ (acX1 w h)) hown hK hP hk0 (mSet_at hM).1 rfl 1 (by decide) (hts _ (List.mem_cons_of_mem _ (ac0 _ (List.mem_of_getElem? (i := 23) rfl)))) (fun _ h => h) rfl (dk kX1_move_ok 33 rfl) ?_
      refine lv_iload_n hx hb (dk kX1_move_ok 34 rfl) rfl (lv_at hl 3 rfl) ?_
      refine lv_iload hx hb (dk kX1_move_ok 35 rfl) (lv_at hl 0 rfl) ?_
      refine ast (mSet cI F k (scl v q 16 (scl v (-1) 16 c (nI w)) (nI w)) (upd b w (top (scl v (-1) 16 c (nI w)) v q)) v) (j := w) hx hb hK hDi hP hS hk2 (mSet_at hM).2.2.1 rfl (by omega) (by decide) (dk kX1_move_ok 36 rfl) mSet_b (fun H locs hP hS => ?_)
      refine lv_iload hx hb (dk kX1_move_ok 37 rfl) (lv_at hl 0 rfl) ?_
      refine csPN (As := [.int (top (scl v (-1) 16 c (nI w)) v q)]) (rest := []) ⟨hx, hb, hml, hown, hts⟩ (tX5_isWink l (top (scl v (-1) 16 c (nI w)) v q)) (cwN9 1 hts mcX5_isWink (nm7 hNW) mini_RX5 rfl rfl hdX5_isWink ⟨Nat.le_of_ble_eq_true rfl, Nat.le_of_ble_eq_true rfl⟩) (hts _ (List.mem_cons_of_mem _ msX5_isWink)) rfl hl.1 rfl (Nat.le_of_ble_eq_true rfl) (by decide) (dk kX1_move_ok 38 rfl) ?_
      refine b_if_eq (tgt := 76) hx hb (dk kX1_move_ok 39 rfl) (by decide) (fun h3 => ?_) (fun h3 => ?_)
      · skip
        exact hret _ _ _ _ _ _ _ (by refine ⟨rfl, ?_⟩; simp [mov1, mov2, mov3, movt, cutv, h1, h2, h3]) hP hS (by decide) (by decide) (dk kX1_move_ok 45 rfl)
      · skip
        refine lv_aload_n hx hb (dk kX1_move_ok 40 rfl) rfl (lv_at hl 2 rfl) ?_
        refine gf hx hb hts (fun w h => List.mem_cons_of_mem _ (acX1 w h)) hown hK hP hk0 (mSet_at hM).1 rfl 2 (by decide) (hts _ (List.mem_cons_of_mem _ (ac1 _ (List.mem_of_getElem? (i := 0) rfl)))) (fun _ h => h) rfl (dk kX1_move_ok 41 rfl) ?_
        refine lv_iload hx hb (dk kX1_move_ok 42 rfl) (lv_at hl 0 rfl) ?_
        refine lv_iload_n hx hb (dk kX1_move_ok 43 rfl) rfl (lv_at hl 3 rfl) ?_
        refine ast (mSet cI F k (scl v q 16 (scl v (-1) 16 c (nI w)) (nI w)) (upd b w (top (scl v (-1) 16 c (nI w)) v q)) (upd v (ix (top (scl v (-1) 16 c (nI w)) v q)) (nI w))) (j := (ix (top (scl v (-1) 16 c (nI w)) v q))) hx hb hK hDi hP hS hk3 (mSet_at hM).2.2.2 (wk_eq h3) (wk_lt h3) (by decide) (dk kX1_move_ok 44 rfl) mSet_v (fun H locs hP hS => ?_)
        exact hret _ _ _ _ _ _ _ (by refine ⟨rfl, ?_⟩; simp [mov1, mov2, mov3, movt, cutv, h1, h2, h3]) hP hS (by decide) (by decide) (dk kX1_move_ok 45 rfl)
    · skip
      refine lv_aload_n hx hb (dk kX1_move_ok 20 rfl) rfl (lv_at hl 1 rfl) ?_
      refine lv_iload_n hx hb (dk kX1_move_ok 21 rfl) rfl (lv_at hl 2 rfl) ?_
      refine cvDv (As := [.int (nI w)]) (rest := []) (mSet cI F k (scl v (-1) 16 c (nI w)) ((sep 16 b v (nI w)).1) ((sep 16 b v (nI w)).2)) ⟨hx, hb, hml, hown, hts⟩ (tX1_separate l D cI cQ cL ad N (mSet cI F k (scl v (-1) 16 c (nI w)) b v) k hk (scl v (-1) 16 c (nI w)) b v (mSet_at hM) (nI w) w rfl (by omega)) (cwV9 1 hts mcX1_separate (ac1 _ (List.mem_of_getElem? (i := 16) rfl)) miX1_separate meX1_separate mini_RX1 rfl rfl hdX1_separate ⟨Nat.le_of_ble_eq_true rfl, Nat.le_of_ble_eq_true rfl⟩) hDi hK hP hNW hS hk0 (mSet_at hM).1 rfl rfl hl.1 rfl (Nat.le_of_ble_eq_true rfl) (by decide) (dk kX1_move_ok 22 rfl) mSet_mSet (fun H locs hP hS => ?_)
      exact hret _ _ _ _ _ _ _ (by refine ⟨rfl, ?_⟩; simp [mov1, mov2, mov3, movt, cutv, h1, h2]) hP hS (by decide) (by decide) (dk kX1_move_ok 23 rfl)
  · skip
    refine lv_aload_n hx hb (dk kX1_move_ok 8 rfl) rfl (lv_at hl 1 rfl) ?_
    refine gf hx hb hts (fun w h => List.mem_cons_of_mem _ (acX1 w h)) hown hK hP hk0 (mSet_at hM).1 rfl 2 (by decide) (hts _ (List.mem_cons_of_mem _ (ac1 _ (List.mem_of_getElem? (i := 0) rfl)))) (fun _ h => h) rfl (dk kX1_move_ok 9 rfl) ?_
    refine lv_iload_n hx hb (dk kX1_move_ok 10 rfl) rfl (lv_at hl 0 rfl) ?_
    refine lv_iconst (v := -1) hx hb (dk kX1_move_ok 11 rfl) rfl ?_
    refine ast (mSet cI F k c b (upd v (ix (b w)) (-1))) (j := (ix (b w))) hx hb hK hDi hP hS hk3 (mSet_at hM).2.2.2 (wk_eq h1) (wk_lt h1) (by decide) (dk kX1_move_ok 12 rfl) mSet_v (fun H locs hP hS => ?_)
    refine lv_aload_n hx hb (dk kX1_move_ok 13 rfl) rfl (lv_at hl 1 rfl) ?_
    refine lv_iload_n hx hb (dk kX1_move_ok 14 rfl) rfl (lv_at hl 2 rfl) ?_
    refine lv_iconst (v := -1) hx hb (dk kX1_move_ok 15 rfl) rfl ?_
    refine cvDv (As := [.int (nI w), .int (-1)]) (rest := []) (mSet cI F k (scl (upd v (ix (b w)) (-1)) (-1) 16 c (nI w)) b (upd v (ix (b w)) (-1))) ⟨hx, hb, hml, hown, hts⟩ (tX1_setCells l D cI cQ cL ad N (mSet cI F k c b (upd v (ix (b w)) (-1))) k hk c b (upd v (ix (b w)) (-1)) (mSet_at hM) (nI w) w rfl (by omega) (-1)) (cwV9 2 hts mcX1_setCells (ac1 _ (List.mem_of_getElem? (i := 11) rfl)) miX1_setCells meX1_setCells mini_RX1 rfl rfl hdX1_setCells ⟨Nat.le_of_ble_eq_true rfl, Nat.le_of_ble_eq_true rfl⟩) hDi hK hP hNW hS hk0 (mSet_at hM).1 rfl rfl hl.1 rfl (Nat.le_of_ble_eq_true rfl) (by decide) (dk kX1_move_ok 16 rfl) mSet_mSet (fun H locs hP hS => ?_)
    refine lv_iload_n hx hb (dk kX1_move_ok 17 rfl) rfl (lv_at hl 3 rfl) ?_
    refine lv_bipush (v := nI 84) hx hb (dk kX1_move_ok 18 rfl) rfl ?_
    refine lv_icmp_ne (tgt := 39) hx hb (dk kX1_move_ok 19 rfl) (by decide) (fun h4 => ?_) (fun h4 => ?_)
    · skip
      refine lv_aload_n hx hb (dk kX1_move_ok 24 rfl) rfl (lv_at hl 1 rfl) ?_
      refine lv_iload_n hx hb (dk kX1_move_ok 25 rfl) rfl (lv_at hl 3 rfl) ?_
      refine cvR (As := [.int q]) (rest := []) ⟨hx, hb, hml, hown, hts⟩ (tX1_topAt l D cI cQ cL ad N (mSet cI F k (scl (upd v (ix (b w)) (-1)) (-1) 16 c (nI w)) b (upd v (ix (b w)) (-1))) k hk (scl (upd v (ix (b w)) (-1)) (-1) 16 c (nI w)) b (upd v (ix (b w)) (-1)) (mSet_at hM) q) (cwV9 1 hts mcX1_topAt (ac1 _ (List.mem_of_getElem? (i := 20) rfl)) miX1_topAt meX1_topAt mini_RX1 rfl rfl hdX1_topAt ⟨Nat.le_of_ble_eq_true rfl, Nat.le_of_ble_eq_true rfl⟩) hK hP hNW hk0 (mSet_at hM).1 rfl rfl hl.1 rfl (Nat.le_of_ble_eq_true rfl) (by decide) (dk kX1_move_ok 26 rfl) ?_
      refine lv_istore (lv' := [(4, .int (top (scl (upd v (ix (b w)) (-1)) (-1) 16 c (nI w)) (upd v (ix (b w)) (-1)) q)), (3, .int (b w)), (0, .ref (ad k)), (1, .int (nI w)), (2, .int q)]) hx hb (dk kX1_move_ok 27 rfl) hl (by decide) rfl (fun ls hl => ?_)
      refine lv_aload_n hx hb (dk kX1_move_ok 28 rfl) rfl (lv_at hl 2 rfl) ?_
      refine lv_iload_n hx hb (dk kX1_move_ok 29 rfl) rfl (lv_at hl 3 rfl) ?_
      refine lv_iload_n hx hb (dk kX1_move_ok 30 rfl) rfl (lv_at hl 4 rfl) ?_
      refine cvDv (As := [.int (nI w), .int q]) (rest := []) (mSet cI F k (scl (upd v (ix (b w)) (-1)) q 16 (scl (upd v (ix (b w)) (-1)) (-1) 16 c (nI w)) (nI w)) b (upd v (ix (b w)) (-1))) ⟨hx, hb, hml, hown, hts⟩ (tX1_setCells l D cI cQ cL ad N (mSet cI F k (scl (upd v (ix (b w)) (-1)) (-1) 16 c (nI w)) b (upd v (ix (b w)) (-1))) k hk (scl (upd v (ix (b w)) (-1)) (-1) 16 c (nI w)) b (upd v (ix (b w)) (-1)) (mSet_at hM) (nI w) w rfl (by omega) q) (cwV9 2 hts mcX1_setCells (ac1 _ (List.mem_of_getElem? (i := 11) rfl)) miX1_setCells meX1_setCells mini_RX1 rfl rfl hdX1_setCells ⟨Nat.le_of_ble_eq_true rfl, Nat.le_of_ble_eq_true rfl⟩) hDi hK hP hNW hS hk0 (mSet_at hM).1 rfl rfl hl.1 rfl (Nat.le_of_ble_eq_true rfl) (by decide) (dk kX1_move_ok 31 rfl) mSet_mSet (fun H locs hP hS => ?_)
      refine lv_aload_n hx hb (dk kX1_move_ok 32 rfl) rfl (lv_at hl 2 rfl) ?_
      refine gf hx hb hts (fun w h => List.mem_cons_of_mem _ (acX1 w h)) hown hK hP hk0 (mSet_at hM).1 rfl 1 (by decide) (hts _ (List.mem_cons_of_mem _ (ac0 _ (List.mem_of_getElem? (i := 23) rfl)))) (fun _ h => h) rfl (dk kX1_move_ok 33 rfl) ?_
      refine lv_iload_n hx hb (dk kX1_move_ok 34 rfl) rfl (lv_at hl 3 rfl) ?_
      refine lv_iload hx hb (dk kX1_move_ok 35 rfl) (lv_at hl 0 rfl) ?_
      refine ast (mSet cI F k (scl (upd v (ix (b w)) (-1)) q 16 (scl (upd v (ix (b w)) (-1)) (-1) 16 c (nI w)) (nI w)) (upd b w (top (scl (upd v (ix (b w)) (-1)) (-1) 16 c (nI w)) (upd v (ix (b w)) (-1)) q)) (upd v (ix (b w)) (-1))) (j := w) hx hb hK hDi hP hS hk2 (mSet_at hM).2.2.1 rfl (by omega) (by decide) (dk kX1_move_ok 36 rfl) mSet_b (fun H locs hP hS => ?_)
      refine lv_iload hx hb (dk kX1_move_ok 37 rfl) (lv_at hl 0 rfl) ?_
      refine csPN (As := [.int (top (scl (upd v (ix (b w)) (-1)) (-1) 16 c (nI w)) (upd v (ix (b w)) (-1)) q)]) (rest := []) ⟨hx, hb, hml, hown, hts⟩ (tX5_isWink l (top (scl (upd v (ix (b w)) (-1)) (-1) 16 c (nI w)) (upd v (ix (b w)) (-1)) q)) (cwN9 1 hts mcX5_isWink (nm7 hNW) mini_RX5 rfl rfl hdX5_isWink ⟨Nat.le_of_ble_eq_true rfl, Nat.le_of_ble_eq_true rfl⟩) (hts _ (List.mem_cons_of_mem _ msX5_isWink)) rfl hl.1 rfl (Nat.le_of_ble_eq_true rfl) (by decide) (dk kX1_move_ok 38 rfl) ?_
      refine b_if_eq (tgt := 76) hx hb (dk kX1_move_ok 39 rfl) (by decide) (fun h5 => ?_) (fun h5 => ?_)
      · skip
        exact hret _ _ _ _ _ _ _ (by refine ⟨rfl, ?_⟩; simp [mov1, mov2, mov3, movt, cutv, h1, h4, h5]) hP hS (by decide) (by decide) (dk kX1_move_ok 45 rfl)
      · skip
        refine lv_aload_n hx hb (dk kX1_move_ok 40 rfl) rfl (lv_at hl 2 rfl) ?_
        refine gf hx hb hts (fun w h => List.mem_cons_of_mem _ (acX1 w h)) hown hK hP hk0 (mSet_at hM).1 rfl 2 (by decide) (hts _ (List.mem_cons_of_mem _ (ac1 _ (List.mem_of_getElem? (i := 0) rfl)))) (fun _ h => h) rfl (dk kX1_move_ok 41 rfl) ?_
        refine lv_iload hx hb (dk kX1_move_ok 42 rfl) (lv_at hl 0 rfl) ?_
        refine lv_iload_n hx hb (dk kX1_move_ok 43 rfl) rfl (lv_at hl 3 rfl) ?_
        refine ast (mSet cI F k (scl (upd v (ix (b w)) (-1)) q 16 (scl (upd v (ix (b w)) (-1)) (-1) 16 c (nI w)) (nI w)) (upd b w (top (scl (upd v (ix (b w)) (-1)) (-1) 16 c (nI w)) (upd v (ix (b w)) (-1)) q)) (upd (upd v (ix (b w)) (-1)) (ix (top (scl (upd v (ix (b w)) (-1)) (-1) 16 c (nI w)) (upd v (ix (b w)) (-1)) q)) (nI w))) (j := (ix (top (scl (upd v (ix (b w)) (-1)) (-1) 16 c (nI w)) (upd v (ix (b w)) (-1)) q))) hx hb hK hDi hP hS hk3 (mSet_at hM).2.2.2 (wk_eq h5) (wk_lt h5) (by decide) (dk kX1_move_ok 44 rfl) mSet_v (fun H locs hP hS => ?_)
        exact hret _ _ _ _ _ _ _ (by refine ⟨rfl, ?_⟩; simp [mov1, mov2, mov3, movt, cutv, h1, h4, h5]) hP hS (by decide) (by decide) (dk kX1_move_ok 45 rfl)
    · skip
      refine lv_aload_n hx hb (dk kX1_move_ok 20 rfl) rfl (lv_at hl 1 rfl) ?_
      refine lv_iload_n hx hb (dk kX1_move_ok 21 rfl) rfl (lv_at hl 2 rfl) ?_
      refine cvDv (As := [.int (nI w)]) (rest := []) (mSet cI F k (scl (upd v (ix (b w)) (-1)) (-1) 16 c (nI w)) ((sep 16 b (upd v (ix (b w)) (-1)) (nI w)).1) ((sep 16 b (upd v (ix (b w)) (-1)) (nI w)).2)) ⟨hx, hb, hml, hown, hts⟩ (tX1_separate l D cI cQ cL ad N (mSet cI F k (scl (upd v (ix (b w)) (-1)) (-1) 16 c (nI w)) b (upd v (ix (b w)) (-1))) k hk (scl (upd v (ix (b w)) (-1)) (-1) 16 c (nI w)) b (upd v (ix (b w)) (-1)) (mSet_at hM) (nI w) w rfl (by omega)) (cwV9 1 hts mcX1_separate (ac1 _ (List.mem_of_getElem? (i := 16) rfl)) miX1_separate meX1_separate mini_RX1 rfl rfl hdX1_separate ⟨Nat.le_of_ble_eq_true rfl, Nat.le_of_ble_eq_true rfl⟩) hDi hK hP hNW hS hk0 (mSet_at hM).1 rfl rfl hl.1 rfl (Nat.le_of_ble_eq_true rfl) (by decide) (dk kX1_move_ok 22 rfl) mSet_mSet (fun H locs hP hS => ?_)
      exact hret _ _ _ _ _ _ _ (by refine ⟨rfl, ?_⟩; simp [mov1, mov2, mov3, movt, cutv, h1, h4]) hP hS (by decide) (by decide) (dk kX1_move_ok 23 rfl)
