/-! the law's flies() -/
theorem pas_cg {c : Nat → Int32} {t0 : Nat} : ∀ (n : Nat) (j j' : Nat → Int32) (q : Nat), (∀ i, i < 4 → j i = j' i) → (pasg c t0 n j q).2 = (pasg c t0 n j' q).2 ∧ ∀ i, i < 4 → (pasg c t0 n j q).1 i = (pasg c t0 n j' q).1 i
  | 0, _, _, _, h => ⟨rfl, h⟩
  | n + 1, j, j', q, h => by
    have hm : (q + 1) % 4 < 4 := Nat.mod_lt _ (by decide)
    simp only [pasg]
    by_cases hp : potc c ((q + 1) % 4) = 4
    · rw [if_pos hp, if_pos hp]
      exact pas_cg n j j' _ h
    · rw [if_neg hp, if_neg hp, h _ hm]
      by_cases h0 : j' ((q + 1) % 4) = 0
      · rw [if_pos h0, if_pos h0]
        exact ⟨rfl, h⟩
      · rw [if_neg h0, if_neg h0]
        refine pas_cg n _ _ _ (fun i hi => ?_)
        by_cases ei : i = (q + 1) % 4
        · subst ei
          rw [upd_at9, upd_at9]
        · rw [upd_ne9 ei, upd_ne9 ei]
          exact h i hi
theorem a0_n (x : Int32) : x = x + nI 0 := by rw [show (nI 0 : Int32) = 0 from rfl, Int32.add_zero]
theorem hgt_pos {c : Nat → Int32} {w : Nat} {q : Int32} (hw : w < 16) (h : q = c w) : 1 ≤ hgt c q := cnt_pos (i := w) hw (by simp [h])
theorem up_cg {lo j : Nat → Int32} {k : Nat} {x : Int32} (hk : k < 4) (h : ∀ i, i < 4 → lo i = j i) : ∀ i, i < 4 → upd lo k (lo k + x) i = upd j k (j k + x) i := fun i hi => by
  by_cases e : i = k
  · subst e
    rw [upd_at9, upd_at9, h _ hi]
  · rw [upd_ne9 e, upd_ne9 e]
    exact h i hi
theorem up_0 {lo j : Nat → Int32} {k : Nat} (h : ∀ i, i < 4 → lo i = j i) : ∀ i, i < 4 → upd lo k (lo k + nI 0) i = j i := fun i hi => by
  by_cases e : i = k
  · subst e
    rw [upd_at9, ← a0_n]
    exact h _ hi
  · rw [upd_ne9 e]
    exact h i hi
set_option maxRecDepth 100000 in
set_option maxHeartbeats 8000000 in
theorem tL_flies (l : Launch) (D : va_G) (cI cQ cL : ClassId) (ad : Nat → Nat) (N : Nat) (F : Nat → va_E) (hN77 : 77 < N) {c b v g h j : Nat → Int32} {t : Nat} {u z : Int32} {m9 : Nat} (hKW : KW cI cQ ad F c b v g h j t u z m9) (hPQ : PQ c b v) (ht : t < 4) {lo : Nat → Int32} (h77 : F 77 = .inl (cI, 4, .inl lo)) (hJ : JT j t) (hlo : ∀ i, i < 4 → lo i = j i) {w d f : Nat} (hw : w < 16) (hd : d ≤ 7) (hf : 1 ≤ f ∧ f ≤ 9) (hwn : wnf c v t w = 0) : MX l yL_flies (Cond.code yL_flies cL_flies 16 (some .boolean) :: LW) ({ frames := 11, cells := 0, slots := 0, locals := 400 } : Room) D cI cQ cL ad N F [.ref (ad 0), .ref (ad 77), .int (nI w), .int (nI d), .int (nI f)] (fun v9 G9 => v9 = some (.int (nI 1)) ∧ LINV cI cQ ad G9) 0 0 := by
  refine mx_i (ty := .boolean) (by decide +kernel) rfl (Nat.le_of_ble_eq_true rfl) (fun p e s m below meth cd Q ls hx hb hml hown hts hDi hP hK hNW hS hret hl => ?_)
  have hC : CX p s m cd cL_flies 16 ([.ref (ad 0), .ref (ad 77), .int (nI w), .int (nI d), .int (nI f)] : List Value).toArray D cI cQ cL ({ frames := 11, cells := 0, slots := 0, locals := 400 } : Room) := ⟨hx, hb, hml, hown, fun w h => hts w (List.mem_cons_of_mem _ h), hK, hNW, Nat.le_of_ble_eq_true rfl, Nat.le_of_ble_eq_true rfl⟩
  have hN76 : 76 < N := by omega
  have hl : lv_has ls 16 [(0, .ref (ad 0)), (1, .ref (ad 77)), (2, .int (nI w)), (3, .int (nI d)), (4, .int (nI f))] := hl
  have hret2 : ∀ (pc : Nat) (ls : Array Slot) (H : Heap) (locs : List Loc) (F9 : Nat → va_E), LINV cI cQ ad F9 → va_P D vwCl (iW ad N F9) H → va_S (iA ad N s.heap.size) s.heap H locs → decode cL_flies pc = .ok (.ireturn, 1) → W p l e ({ frames := 11, cells := 0, slots := 0, locals := 400 } : Room) s m ([.ref (ad 0), .ref (ad 77), .int (nI w), .int (nI d), .int (nI f)] : List Value).toArray below meth cd H locs 0 0 Q (F0 m pc ls [.int (nI 1)]) := fun pc ls H locs F9 g1 g2 g3 g4 => hret pc ls _ H locs F9 0 0 rfl ⟨rfl, g1⟩ g2 g3 (Nat.le_refl 0) (Nat.le_refl 0) g4
  obtain ⟨hov, hwt, hpt, hcv⟩ := wnf_0 hwn
  have hw4 : w / 4 < 4 := by omega
  have hLan : cLan c w (nI d) f = fans (flE c w (nI d) f) := if_neg (by rw [hpt]; decide)
  have hl01s : ∀ i, i < 4 → lo i = nI 0 ∨ lo i = nI 1 := fun i hi => by
    rw [hlo i hi]
    exact hJ.1 i hi
  rcases flE_q hPQ hw hpt (nI d) f with hq | ⟨q1, hq1, hq⟩
  · have e1 : rest9 w (flE c w (nI d) f) = nI (bs (w / 4)) := by
      rw [hq]
      exact if_pos rfl
    have hA := fly_on hPQ hw hcv (bs_lt w).1 (bs_lt w).2
    have hFn : fans (flE c w (nI d) f) = -1 := by
      rw [hq]
      exact if_neg (by decide)
    have hLn := hLan.trans hFn
    have eH : flH h w (-1) = upd h (w / 4) (h (w / 4) + nI 1) := if_pos rfl
    have eJ : flH j w (-1) = upd j (w / 4) (j (w / 4) + nI 1) := if_pos rfl
    have eP : flP (mov1 c b v w (nI (bs (w / 4)))) t w (-1) (upd j (w / 4) (j (w / 4) + nI 1)) = pasg (mov1 c b v w (nI (bs (w / 4)))) t 8 (upd j (w / 4) (j (w / 4) + nI 1)) t := if_pos (Or.inl (by decide))
    have hj1 : j (w / 4) + nI 1 = nI 1 := by rw [hwt, hJ.2]; decide
    have hl01 : ∀ i, i < 4 → (upd lo (w / 4) (lo (w / 4) + nI 1)) i = nI 0 ∨ (upd lo (w / 4) (lo (w / 4) + nI 1)) i = nI 1 := lo_up hl01s (Or.inr (by rw [hlo _ hw4]; exact hj1))
    have hen : over (mov1 c b v w (nI (bs (w / 4)))) = false → (pasg (mov1 c b v w (nI (bs (w / 4)))) t 8 (upd lo (w / 4) (lo (w / 4) + nI 1)) t).2 = (pasg (mov1 c b v w (nI (bs (w / 4)))) t 8 (upd j (w / 4) (j (w / 4) + nI 1)) t).2 ∧ (∀ i, i < 4 → (pasg (mov1 c b v w (nI (bs (w / 4)))) t 8 (upd lo (w / 4) (lo (w / 4) + nI 1)) t).1 i = (pasg (mov1 c b v w (nI (bs (w / 4)))) t 8 (upd j (w / 4) (j (w / 4) + nI 1)) t).1 i) ∧ JT (pasg (mov1 c b v w (nI (bs (w / 4)))) t 8 (upd j (w / 4) (j (w / 4) + nI 1)) t).1 (pasg (mov1 c b v w (nI (bs (w / 4)))) t 8 (upd j (w / 4) (j (w / 4) + nI 1)) t).2 := fun ho => ⟨(pas_cg 8 _ _ t (up_cg hw4 hlo)).1, (pas_cg 8 _ _ t (up_cg hw4 hlo)).2, pas_ok (fun k hk => over_f ho hk) 8 _ t (lo_up hJ.1 (Or.inr hj1)) (Nat.lt_of_le_of_lt (on4_le _) (by decide))⟩
    have hcM1 : cM1 c b v w (nI d) f = mov1 c b v w (nI (bs (w / 4))) := by
      show mov1 c b v w (rest9 w (flE c w (nI d) f)) = _
      rw [e1]
    have hcM3 : cM3 c b v w (nI d) f = mov3 c b v w (nI (bs (w / 4))) := by
      show mov3 c b v w (rest9 w (flE c w (nI d) f)) = _
      rw [e1]
    have hea : nI (ptt (mov1 c b v w (nI (bs (w / 4)))) (mov3 c b v w (nI (bs (w / 4)))) (w / 4 % 2)) - nI (ptt (mov1 c b v w (nI (bs (w / 4)))) (mov3 c b v w (nI (bs (w / 4)))) (1 - w / 4 % 2)) = cIf c b v w (nI d) f (nI 0) := by
      rw [← hcM1, ← hcM3]
      exact (if_pos rfl).symm
    have hecv : nI (covc (mov3 c b v w (nI (bs (w / 4)))) (1 - w / 4 % 2) + covc (mov3 c b v w (nI (bs (w / 4)))) (3 - w / 4 % 2)) = cIf c b v w (nI d) f (nI 1) := by
      rw [← hcM3, show 3 - w / 4 % 2 = 1 - w / 4 % 2 + 2 by omega]
      exact (if_neg (by decide)).symm
    refine lv_aload_n hx hb (dk kL_flies_0_ok 0 rfl) rfl (lv_at hl 0 rfl) ?_
    refine lv_iconst (v := nI 0) hx hb (dk kL_flies_0_ok 1 rfl) rfl ?_
    refine kw_count hC hKW hN76 hP (k := 0) (by decide) (lc0 _ (List.mem_of_getElem? (i := 14) rfl)) hl.1 (Nat.le_of_ble_eq_true rfl) ⟨Nat.le_of_ble_eq_true rfl, Nat.le_of_ble_eq_true rfl⟩ (dk kL_flies_0_ok 2 rfl) (r := nI t) (show (if over c = true then -1 else nI t) = nI t from if_neg (by rw [hov]; decide)) ?_
    refine lv_istore (lv' := [(5, .int (nI t)), (0, .ref (ad 0)), (1, .ref (ad 77)), (2, .int (nI w)), (3, .int (nI d)), (4, .int (nI f))]) hx hb (dk kL_flies_0_ok 3 rfl) hl (by decide) rfl (fun ls hl => ?_)
    refine lv_aload_n hx hb (dk kL_flies_0_ok 4 rfl) rfl (lv_at hl 1 rfl) ?_
    refine lv_iload_n hx hb (dk kL_flies_0_ok 5 rfl) rfl (lv_at hl 3 rfl) ?_
    refine lv_iload_n hx hb (dk kL_flies_0_ok 6 rfl) rfl (lv_at hl 4 rfl) ?_
    refine lv_iload hx hb (dk kL_flies_0_ok 7 rfl) (lv_at hl 5 rfl) ?_
    refine kw_lands hC hKW hN76 hP (w := w) (by omega) (d := d) (f := f) (by omega) (by omega) (lc0 _ (List.mem_of_getElem? (i := 5) rfl)) hl.1 (Nat.le_of_ble_eq_true rfl) ⟨Nat.le_of_ble_eq_true rfl, Nat.le_of_ble_eq_true rfl⟩ (dk kL_flies_0_ok 8 rfl) (r := -1) (hLn) ?_
    refine lv_istore (lv' := [(6, .int (-1)), (5, .int (nI t)), (0, .ref (ad 0)), (1, .ref (ad 77)), (2, .int (nI w)), (3, .int (nI d)), (4, .int (nI f))]) hx hb (dk kL_flies_0_ok 9 rfl) hl (by decide) rfl (fun ls hl => ?_)
    refine lv_aload_n hx hb (dk kL_flies_0_ok 10 rfl) rfl (lv_at hl 2 rfl) ?_
    refine lv_iload_n hx hb (dk kL_flies_0_ok 11 rfl) rfl (lv_at hl 4 rfl) ?_
    refine lv_iconst (v := nI 2) hx hb (dk kL_flies_0_ok 12 rfl) rfl ?_
    refine kw_wink hC hKW hN76 hP ht (w := w) (k := 2) (by omega) (by decide) (lc0 _ (List.mem_of_getElem? (i := 3) rfl)) hl.1 (Nat.le_of_ble_eq_true rfl) ⟨Nat.le_of_ble_eq_true rfl, Nat.le_of_ble_eq_true rfl⟩ (dk kL_flies_0_ok 13 rfl) (r := c w) rfl ?_
    refine lv_istore (lv' := [(7, .int (c w)), (6, .int (-1)), (5, .int (nI t)), (0, .ref (ad 0)), (1, .ref (ad 77)), (2, .int (nI w)), (3, .int (nI d)), (4, .int (nI f))]) hx hb (dk kL_flies_0_ok 14 rfl) hl (by decide) rfl (fun ls hl => ?_)
    refine lv_iload hx hb (dk kL_flies_0_ok 15 rfl) (lv_at hl 1 rfl) ?_
    refine lv_iconst (v := -1) hx hb (dk kL_flies_0_ok 16 rfl) rfl ?_
    refine lv_icmp_ne (tgt := 40) hx hb (dk kL_flies_0_ok 17 rfl) (by decide) (fun h1 => ?_) (fun h1 => ?_)
    · exact absurd rfl h1
    · skip
      refine lv_iload_n hx hb (dk kL_flies_0_ok 18 rfl) rfl (lv_at hl 5 rfl) ?_
      refine lv_iconst (v := nI 4) hx hb (dk kL_flies_0_ok 19 rfl) rfl ?_
      refine n_idiv hx hb (by omega) (by decide) (by decide) (dk kL_flies_0_ok 20 rfl) ?_
      refine csP (As := [.int (nI (w / 4))]) (rest := []) ⟨hC.1, hC.2.1, hC.2.2.1, hC.2.2.2.1, hC.2.2.2.2.1⟩ (tL_base l (w := w / 4) (by omega)) (cwSL 1 hC.2.2.2.2.1 mcL_base (lc0 _ (List.mem_of_getElem? (i := 10) rfl)) msL_base mini_RL rfl rfl hdL_base ⟨Nat.le_of_ble_eq_true rfl, Nat.le_of_ble_eq_true rfl⟩) rfl hl.1 rfl (Nat.le_of_ble_eq_true rfl) ⟨Nat.le_of_ble_eq_true rfl, Nat.le_of_ble_eq_true rfl⟩ (dk kL_flies_0_ok 21 rfl) ?_
      refine lv_goto (tgt := 42) hx hb (dk kL_flies_0_ok 22 rfl) (by decide) ?_
      refine lv_istore (lv' := [(8, .int (nI (bs (w / 4)))), (7, .int (c w)), (6, .int (-1)), (5, .int (nI t)), (0, .ref (ad 0)), (1, .ref (ad 77)), (2, .int (nI w)), (3, .int (nI d)), (4, .int (nI f))]) hx hb (dk kL_flies_0_ok 24 rfl) hl (by decide) rfl (fun ls hl => ?_)
      refine lv_iload hx hb (dk kL_flies_0_ok 25 rfl) (lv_at hl 2 rfl) ?_
      refine lv_sipush (v := nI 169) hx hb (dk kL_flies_0_ok 26 rfl) rfl ?_
      refine lv_icmp_ne (tgt := 56) hx hb (dk kL_flies_0_ok 27 rfl) (by decide) (fun h2 => ?_) (fun h2 => ?_)
      · skip
        refine lv_aload_n hx hb (dk kL_flies_0_ok 30 rfl) rfl (lv_at hl 4 rfl) ?_
        refine lv_iload hx hb (dk kL_flies_0_ok 31 rfl) (lv_at hl 0 rfl) ?_
        refine csR (As := [.ref (ad 0), .int (nI (bs (w / 4)))]) (r := .int (nI (hgt c (nI (bs (w / 4)))))) (rest := []) ⟨hC.1, hC.2.1, hC.2.2.1, hC.2.2.2.1, hC.2.2.2.2.1⟩ (tL_many l D cI cQ cL ad N F hN76 hKW (q := bs (w / 4)) (bs_lt w).1) (cwSL 2 hC.2.2.2.2.1 mcL_many (lc0 _ (List.mem_of_getElem? (i := 6) rfl)) msL_many mini_RL rfl rfl hdL_many ⟨Nat.le_of_ble_eq_true rfl, Nat.le_of_ble_eq_true rfl⟩) hC.2.2.2.2.2.1 hP hC.2.2.2.2.2.2.1 rfl hl.1 rfl (Nat.le_of_ble_eq_true rfl) ⟨Nat.le_of_ble_eq_true rfl, Nat.le_of_ble_eq_true rfl⟩ (dk kL_flies_0_ok 32 rfl) ?_
        refine lv_iload hx hb (dk kL_flies_0_ok 33 rfl) (lv_at hl 0 rfl) ?_
        refine lv_iload hx hb (dk kL_flies_0_ok 34 rfl) (lv_at hl 1 rfl) ?_
        refine lv_icmp_ne (tgt := 73) hx hb (dk kL_flies_0_ok 35 rfl) (by decide) (fun h3 => ?_) (fun h3 => ?_)
        · skip
          refine lv_iconst (v := nI 0) hx hb (dk kL_flies_0_ok 38 rfl) rfl ?_
          refine n_isub hx hb (by first | omega | exact hgt_pos hw (by assumption)) (dk kL_flies_0_ok 39 rfl) ?_
          refine W.eq (g2 := F0 m 75 ls [.int (nI (hgt c (nI (bs (w / 4))) - (if c w = nI (bs (w / 4)) then 1 else 0)))]) (by rw [if_neg (fun e9 => h3 e9.symm)]) ?_
          refine lv_istore (lv' := [(9, .int (nI (hgt c (nI (bs (w / 4))) - (if c w = nI (bs (w / 4)) then 1 else 0)))), (8, .int (nI (bs (w / 4)))), (7, .int (c w)), (6, .int (-1)), (5, .int (nI t)), (0, .ref (ad 0)), (1, .ref (ad 77)), (2, .int (nI w)), (3, .int (nI d)), (4, .int (nI f))]) hx hb (dk kL_flies_0_ok 40 rfl) hl (by decide) rfl (fun ls hl => ?_)
          refine lv_aload_n hx hb (dk kL_flies_0_ok 41 rfl) rfl (lv_at hl 5 rfl) ?_
          refine lv_iload_n hx hb (dk kL_flies_0_ok 42 rfl) rfl (lv_at hl 7 rfl) ?_
          refine lv_iconst (v := nI 5) hx hb (dk kL_flies_0_ok 43 rfl) rfl ?_
          refine kw_wink hC hKW hN76 hP ht (w := w) (k := 5) (by omega) (by decide) (lc0 _ (List.mem_of_getElem? (i := 3) rfl)) hl.1 (Nat.le_of_ble_eq_true rfl) ⟨Nat.le_of_ble_eq_true rfl, Nat.le_of_ble_eq_true rfl⟩ (dk kL_flies_0_ok 44 rfl) (r := g w) rfl ?_
          refine lv_istore (lv' := [(10, .int (g w)), (9, .int (nI (hgt c (nI (bs (w / 4))) - (if c w = nI (bs (w / 4)) then 1 else 0)))), (8, .int (nI (bs (w / 4)))), (7, .int (c w)), (6, .int (-1)), (5, .int (nI t)), (0, .ref (ad 0)), (1, .ref (ad 77)), (2, .int (nI w)), (3, .int (nI d)), (4, .int (nI f))]) hx hb (dk kL_flies_0_ok 45 rfl) hl (by decide) rfl (fun ls hl => ?_)
          refine lv_aload_n hx hb (dk kL_flies_0_ok 46 rfl) rfl (lv_at hl 6 rfl) ?_
          refine lv_iload_n hx hb (dk kL_flies_0_ok 47 rfl) rfl (lv_at hl 8 rfl) ?_
          refine lv_iconst (v := nI 4) hx hb (dk kL_flies_0_ok 48 rfl) rfl ?_
          refine n_idiv hx hb (by omega) (by decide) (by decide) (dk kL_flies_0_ok 49 rfl) ?_
          refine lv_iconst (v := nI 4) hx hb (dk kL_flies_0_ok 50 rfl) rfl ?_
          refine kw_colour hC hKW hN76 hP (w := w / 4) (k := 4) (by omega) (by decide) (lc0 _ (List.mem_of_getElem? (i := 13) rfl)) hl.1 (Nat.le_of_ble_eq_true rfl) ⟨Nat.le_of_ble_eq_true rfl, Nat.le_of_ble_eq_true rfl⟩ (dk kL_flies_0_ok 51 rfl) (r := h (w / 4)) rfl ?_
          refine lv_istore (lv' := [(11, .int (h (w / 4))), (10, .int (g w)), (9, .int (nI (hgt c (nI (bs (w / 4))) - (if c w = nI (bs (w / 4)) then 1 else 0)))), (8, .int (nI (bs (w / 4)))), (7, .int (c w)), (6, .int (-1)), (5, .int (nI t)), (0, .ref (ad 0)), (1, .ref (ad 77)), (2, .int (nI w)), (3, .int (nI d)), (4, .int (nI f))]) hx hb (dk kL_flies_0_ok 52 rfl) hl (by decide) rfl (fun ls hl => ?_)
          refine lv_aload_n hx hb (dk kL_flies_0_ok 53 rfl) rfl (lv_at hl 7 rfl) ?_
          refine lv_iload_n hx hb (dk kL_flies_0_ok 54 rfl) rfl (lv_at hl 9 rfl) ?_
          refine lv_iload_n hx hb (dk kL_flies_0_ok 55 rfl) rfl (lv_at hl 10 rfl) ?_
          refine lv_iload hx hb (dk kL_flies_0_ok 56 rfl) (lv_at hl 11 rfl) ?_
          refine lv_iconst (v := nI 0) hx hb (dk kL_flies_0_ok 57 rfl) rfl ?_
          refine kw_if hC hKW hN76 hP hDi hS ht (w := w) (by omega) (d := d) (f := f) (by omega) (by omega) (k := 0) (by decide) hwn (lc0 _ (List.mem_of_getElem? (i := 15) rfl)) hl.1 (Nat.le_of_ble_eq_true rfl) ⟨Nat.le_of_ble_eq_true rfl, Nat.le_of_ble_eq_true rfl⟩ (dk kL_flies_0_ok 58 rfl) (r := cIf c b v w (nI d) f (nI 0)) rfl (fun F_1 H locs hK_2 hfr_3 hP hS => ?_)
          have h77_4 : F_1 77 = .inl (cI, 4, .inl lo) := (hfr_3 77 (by decide)).trans h77
          refine lv_istore (lv' := [(12, .int (cIf c b v w (nI d) f (nI 0))), (11, .int (h (w / 4))), (10, .int (g w)), (9, .int (nI (hgt c (nI (bs (w / 4))) - (if c w = nI (bs (w / 4)) then 1 else 0)))), (8, .int (nI (bs (w / 4)))), (7, .int (c w)), (6, .int (-1)), (5, .int (nI t)), (0, .ref (ad 0)), (1, .ref (ad 77)), (2, .int (nI w)), (3, .int (nI d)), (4, .int (nI f))]) hx hb (dk kL_flies_0_ok 59 rfl) hl (by decide) rfl (fun ls hl => ?_)
          refine lv_aload_n hx hb (dk kL_flies_1_ok 0 rfl) rfl (lv_at hl 8 rfl) ?_
          refine lv_iload_n hx hb (dk kL_flies_1_ok 1 rfl) rfl (lv_at hl 10 rfl) ?_
          refine lv_iload_n hx hb (dk kL_flies_1_ok 2 rfl) rfl (lv_at hl 11 rfl) ?_
          refine lv_iload hx hb (dk kL_flies_1_ok 3 rfl) (lv_at hl 12 rfl) ?_
          refine lv_iconst (v := nI 1) hx hb (dk kL_flies_1_ok 4 rfl) rfl ?_
          refine kw_if hC hK_2 hN76 hP hDi hS ht (w := w) (by omega) (d := d) (f := f) (by omega) (by omega) (k := 1) (by decide) hwn (lc0 _ (List.mem_of_getElem? (i := 15) rfl)) hl.1 (Nat.le_of_ble_eq_true rfl) ⟨Nat.le_of_ble_eq_true rfl, Nat.le_of_ble_eq_true rfl⟩ (dk kL_flies_1_ok 5 rfl) (r := cIf c b v w (nI d) f (nI 1)) rfl (fun F_5 H locs hK_6 hfr_7 hP hS => ?_)
          have h77_8 : F_5 77 = .inl (cI, 4, .inl lo) := (hfr_7 77 (by decide)).trans h77_4
          refine lv_istore (lv' := [(13, .int (cIf c b v w (nI d) f (nI 1))), (12, .int (cIf c b v w (nI d) f (nI 0))), (11, .int (h (w / 4))), (10, .int (g w)), (9, .int (nI (hgt c (nI (bs (w / 4))) - (if c w = nI (bs (w / 4)) then 1 else 0)))), (8, .int (nI (bs (w / 4)))), (7, .int (c w)), (6, .int (-1)), (5, .int (nI t)), (0, .ref (ad 0)), (1, .ref (ad 77)), (2, .int (nI w)), (3, .int (nI d)), (4, .int (nI f))]) hx hb (dk kL_flies_1_ok 6 rfl) hl (by decide) rfl (fun ls hl => ?_)
          refine lv_aload_n hx hb (dk kL_flies_1_ok 7 rfl) rfl (lv_at hl 9 rfl) ?_
          refine lv_iload_n hx hb (dk kL_flies_1_ok 8 rfl) rfl (lv_at hl 11 rfl) ?_
          refine lv_iload_n hx hb (dk kL_flies_1_ok 9 rfl) rfl (lv_at hl 12 rfl) ?_
          refine lv_iload hx hb (dk kL_flies_1_ok 10 rfl) (lv_at hl 13 rfl) ?_
          refine kw_fly hC hK_6 hN76 hP hDi hS ht (w := w) hw (d := d) (f := f) hd hf hwn (lc0 _ (List.mem_of_getElem? (i := 16) rfl)) hl.1 (Nat.le_of_ble_eq_true rfl) ⟨Nat.le_of_ble_eq_true rfl, Nat.le_of_ble_eq_true rfl⟩ (dk kL_flies_1_ok 11 rfl) (r := -1) (hFn) (fun F_9 H locs hK_10 hfr_11 hP hS => ?_)
          have h77_12 : F_9 77 = .inl (cI, 4, .inl lo) := (hfr_11 77 (by decide)).trans h77_8
          rw [e1, hq, eH, eJ, eP] at hK_10
          exact flies_A hN77 hC hDi hret2 (w := w) (d := d) (f := f) (t := t) (q1 := bs (w / 4)) (th := (hgt c (nI (bs (w / 4))) - (if c w = nI (bs (w / 4)) then 1 else 0))) (lo := lo) hw ht (bs_lt w).1 hA.1 (pasg_lt _ _ ht _ _ _) upd_at9 upd_at9 hea hecv hA.2.1 hA.2.2.1 hA.2.2.2 hl01 hen hK_10 h77_12 hP hS ls (lv_sub hl [0, 1, 2, 3, 4, 5, 6, 7, 8, 9, 10, 11, 12, 13] rfl)
        · skip
          refine lv_iconst (v := nI 1) hx hb (dk kL_flies_0_ok 36 rfl) rfl ?_
          refine lv_goto (tgt := 74) hx hb (dk kL_flies_0_ok 37 rfl) (by decide) ?_
          refine n_isub hx hb (by first | omega | exact hgt_pos hw (by assumption)) (dk kL_flies_0_ok 39 rfl) ?_
          refine W.eq (g2 := F0 m 75 ls [.int (nI (hgt c (nI (bs (w / 4))) - (if c w = nI (bs (w / 4)) then 1 else 0)))]) (by rw [if_pos h3.symm]) ?_
          refine lv_istore (lv' := [(9, .int (nI (hgt c (nI (bs (w / 4))) - (if c w = nI (bs (w / 4)) then 1 else 0)))), (8, .int (nI (bs (w / 4)))), (7, .int (c w)), (6, .int (-1)), (5, .int (nI t)), (0, .ref (ad 0)), (1, .ref (ad 77)), (2, .int (nI w)), (3, .int (nI d)), (4, .int (nI f))]) hx hb (dk kL_flies_0_ok 40 rfl) hl (by decide) rfl (fun ls hl => ?_)
          refine lv_aload_n hx hb (dk kL_flies_0_ok 41 rfl) rfl (lv_at hl 5 rfl) ?_
          refine lv_iload_n hx hb (dk kL_flies_0_ok 42 rfl) rfl (lv_at hl 7 rfl) ?_
          refine lv_iconst (v := nI 5) hx hb (dk kL_flies_0_ok 43 rfl) rfl ?_
          refine kw_wink hC hKW hN76 hP ht (w := w) (k := 5) (by omega) (by decide) (lc0 _ (List.mem_of_getElem? (i := 3) rfl)) hl.1 (Nat.le_of_ble_eq_true rfl) ⟨Nat.le_of_ble_eq_true rfl, Nat.le_of_ble_eq_true rfl⟩ (dk kL_flies_0_ok 44 rfl) (r := g w) rfl ?_
          refine lv_istore (lv' := [(10, .int (g w)), (9, .int (nI (hgt c (nI (bs (w / 4))) - (if c w = nI (bs (w / 4)) then 1 else 0)))), (8, .int (nI (bs (w / 4)))), (7, .int (c w)), (6, .int (-1)), (5, .int (nI t)), (0, .ref (ad 0)), (1, .ref (ad 77)), (2, .int (nI w)), (3, .int (nI d)), (4, .int (nI f))]) hx hb (dk kL_flies_0_ok 45 rfl) hl (by decide) rfl (fun ls hl => ?_)
          refine lv_aload_n hx hb (dk kL_flies_0_ok 46 rfl) rfl (lv_at hl 6 rfl) ?_
          refine lv_iload_n hx hb (dk kL_flies_0_ok 47 rfl) rfl (lv_at hl 8 rfl) ?_
          refine lv_iconst (v := nI 4) hx hb (dk kL_flies_0_ok 48 rfl) rfl ?_
          refine n_idiv hx hb (by omega) (by decide) (by decide) (dk kL_flies_0_ok 49 rfl) ?_
          refine lv_iconst (v := nI 4) hx hb (dk kL_flies_0_ok 50 rfl) rfl ?_
          refine kw_colour hC hKW hN76 hP (w := w / 4) (k := 4) (by omega) (by decide) (lc0 _ (List.mem_of_getElem? (i := 13) rfl)) hl.1 (Nat.le_of_ble_eq_true rfl) ⟨Nat.le_of_ble_eq_true rfl, Nat.le_of_ble_eq_true rfl⟩ (dk kL_flies_0_ok 51 rfl) (r := h (w / 4)) rfl ?_
          refine lv_istore (lv' := [(11, .int (h (w / 4))), (10, .int (g w)), (9, .int (nI (hgt c (nI (bs (w / 4))) - (if c w = nI (bs (w / 4)) then 1 else 0)))), (8, .int (nI (bs (w / 4)))), (7, .int (c w)), (6, .int (-1)), (5, .int (nI t)), (0, .ref (ad 0)), (1, .ref (ad 77)), (2, .int (nI w)), (3, .int (nI d)), (4, .int (nI f))]) hx hb (dk kL_flies_0_ok 52 rfl) hl (by decide) rfl (fun ls hl => ?_)
          refine lv_aload_n hx hb (dk kL_flies_0_ok 53 rfl) rfl (lv_at hl 7 rfl) ?_
          refine lv_iload_n hx hb (dk kL_flies_0_ok 54 rfl) rfl (lv_at hl 9 rfl) ?_
          refine lv_iload_n hx hb (dk kL_flies_0_ok 55 rfl) rfl (lv_at hl 10 rfl) ?_
          refine lv_iload hx hb (dk kL_flies_0_ok 56 rfl) (lv_at hl 11 rfl) ?_
          refine lv_iconst (v := nI 0) hx hb (dk kL_flies_0_ok 57 rfl) rfl ?_
          refine kw_if hC hKW hN76 hP hDi hS ht (w := w) (by omega) (d := d) (f := f) (by omega) (by omega) (k := 0) (by decide) hwn (lc0 _ (List.mem_of_getElem? (i := 15) rfl)) hl.1 (Nat.le_of_ble_eq_true rfl) ⟨Nat.le_of_ble_eq_true rfl, Nat.le_of_ble_eq_true rfl⟩ (dk kL_flies_0_ok 58 rfl) (r := cIf c b v w (nI d) f (nI 0)) rfl (fun F_13 H locs hK_14 hfr_15 hP hS => ?_)
          have h77_16 : F_13 77 = .inl (cI, 4, .inl lo) := (hfr_15 77 (by decide)).trans h77
          refine lv_istore (lv' := [(12, .int (cIf c b v w (nI d) f (nI 0))), (11, .int (h (w / 4))), (10, .int (g w)), (9, .int (nI (hgt c (nI (bs (w / 4))) - (if c w = nI (bs (w / 4)) then 1 else 0)))), (8, .int (nI (bs (w / 4)))), (7, .int (c w)), (6, .int (-1)), (5, .int (nI t)), (0, .ref (ad 0)), (1, .ref (ad 77)), (2, .int (nI w)), (3, .int (nI d)), (4, .int (nI f))]) hx hb (dk kL_flies_0_ok 59 rfl) hl (by decide) rfl (fun ls hl => ?_)
          refine lv_aload_n hx hb (dk kL_flies_1_ok 0 rfl) rfl (lv_at hl 8 rfl) ?_
          refine lv_iload_n hx hb (dk kL_flies_1_ok 1 rfl) rfl (lv_at hl 10 rfl) ?_
          refine lv_iload_n hx hb (dk kL_flies_1_ok 2 rfl) rfl (lv_at hl 11 rfl) ?_
          refine lv_iload hx hb (dk kL_flies_1_ok 3 rfl) (lv_at hl 12 rfl) ?_
          refine lv_iconst (v := nI 1) hx hb (dk kL_flies_1_ok 4 rfl) rfl ?_
          refine kw_if hC hK_14 hN76 hP hDi hS ht (w := w) (by omega) (d := d) (f := f) (by omega) (by omega) (k := 1) (by decide) hwn (lc0 _ (List.mem_of_getElem? (i := 15) rfl)) hl.1 (Nat.le_of_ble_eq_true rfl) ⟨Nat.le_of_ble_eq_true rfl, Nat.le_of_ble_eq_true rfl⟩ (dk kL_flies_1_ok 5 rfl) (r := cIf c b v w (nI d) f (nI 1)) rfl (fun F_17 H locs hK_18 hfr_19 hP hS => ?_)
          have h77_20 : F_17 77 = .inl (cI, 4, .inl lo) := (hfr_19 77 (by decide)).trans h77_16
          refine lv_istore (lv' := [(13, .int (cIf c b v w (nI d) f (nI 1))), (12, .int (cIf c b v w (nI d) f (nI 0))), (11, .int (h (w / 4))), (10, .int (g w)), (9, .int (nI (hgt c (nI (bs (w / 4))) - (if c w = nI (bs (w / 4)) then 1 else 0)))), (8, .int (nI (bs (w / 4)))), (7, .int (c w)), (6, .int (-1)), (5, .int (nI t)), (0, .ref (ad 0)), (1, .ref (ad 77)), (2, .int (nI w)), (3, .int (nI d)), (4, .int (nI f))]) hx hb (dk kL_flies_1_ok 6 rfl) hl (by decide) rfl (fun ls hl => ?_)
          refine lv_aload_n hx hb (dk kL_flies_1_ok 7 rfl) rfl (lv_at hl 9 rfl) ?_
          refine lv_iload_n hx hb (dk kL_flies_1_ok 8 rfl) rfl (lv_at hl 11 rfl) ?_
          refine lv_iload_n hx hb (dk kL_flies_1_ok 9 rfl) rfl (lv_at hl 12 rfl) ?_
          refine lv_iload hx hb (dk kL_flies_1_ok 10 rfl) (lv_at hl 13 rfl) ?_
          refine kw_fly hC hK_18 hN76 hP hDi hS ht (w := w) hw (d := d) (f := f) hd hf hwn (lc0 _ (List.mem_of_getElem? (i := 16) rfl)) hl.1 (Nat.le_of_ble_eq_true rfl) ⟨Nat.le_of_ble_eq_true rfl, Nat.le_of_ble_eq_true rfl⟩ (dk kL_flies_1_ok 11 rfl) (r := -1) (hFn) (fun F_21 H locs hK_22 hfr_23 hP hS => ?_)
          have h77_24 : F_21 77 = .inl (cI, 4, .inl lo) := (hfr_23 77 (by decide)).trans h77_20
          rw [e1, hq, eH, eJ, eP] at hK_22
          exact flies_A hN77 hC hDi hret2 (w := w) (d := d) (f := f) (t := t) (q1 := bs (w / 4)) (th := (hgt c (nI (bs (w / 4))) - (if c w = nI (bs (w / 4)) then 1 else 0))) (lo := lo) hw ht (bs_lt w).1 hA.1 (pasg_lt _ _ ht _ _ _) upd_at9 upd_at9 hea hecv hA.2.1 hA.2.2.1 hA.2.2.2 hl01 hen hK_22 h77_24 hP hS ls (lv_sub hl [0, 1, 2, 3, 4, 5, 6, 7, 8, 9, 10, 11, 12, 13] rfl)
      · exact absurd h2 (by decide)
  · by_cases h84 : q1 = 84
    · subst h84
      have e1 : rest9 w (flE c w (nI d) f) = nI 84 := by
        rw [hq]
        exact if_neg (by decide)
      have hA := fly_cup hPQ hw hcv
      have hFn : fans (flE c w (nI d) f) = nI 169 := by
        rw [hq]
        exact if_pos rfl
      have hLn := hLan.trans hFn
      have eH : flH h w (nI 84) = h := if_neg (by decide)
      have eJ : flH j w (nI 84) = j := if_neg (by decide)
      have hen : over (mov1 c b v w (nI 84)) = false → t = (flP (mov1 c b v w (nI 84)) t w (nI 84) j).2 ∧ (∀ i, i < 4 → (upd lo (w / 4) (lo (w / 4) + nI 0)) i = (flP (mov1 c b v w (nI 84)) t w (nI 84) j).1 i) ∧ JT (flP (mov1 c b v w (nI 84)) t w (nI 84) j).1 (flP (mov1 c b v w (nI 84)) t w (nI 84) j).2 := fun ho => by
        have eP : flP (mov1 c b v w (nI 84)) t w (nI 84) j = (j, t) := if_neg (fun e9 => e9.elim (fun q9 => q9 rfl) (over_f ho hw4))
        rw [eP]
        exact ⟨rfl, up_0 hlo, hJ⟩
      have hcM1 : cM1 c b v w (nI d) f = mov1 c b v w (nI 84) := by
        show mov1 c b v w (rest9 w (flE c w (nI d) f)) = _
        rw [e1]
      have hcM3 : cM3 c b v w (nI d) f = mov3 c b v w (nI 84) := by
        show mov3 c b v w (rest9 w (flE c w (nI d) f)) = _
        rw [e1]
      have hea : nI (ptt (mov1 c b v w (nI 84)) (mov3 c b v w (nI 84)) (w / 4 % 2)) - nI (ptt (mov1 c b v w (nI 84)) (mov3 c b v w (nI 84)) (1 - w / 4 % 2)) = cIf c b v w (nI d) f (nI 0) := by
        rw [← hcM1, ← hcM3]
        exact (if_pos rfl).symm
      have hecv : nI (covc (mov3 c b v w (nI 84)) (1 - w / 4 % 2) + covc (mov3 c b v w (nI 84)) (3 - w / 4 % 2)) = cIf c b v w (nI d) f (nI 1) := by
        rw [← hcM3, show 3 - w / 4 % 2 = 1 - w / 4 % 2 + 2 by omega]
        exact (if_neg (by decide)).symm
      refine lv_aload_n hx hb (dk kL_flies_0_ok 0 rfl) rfl (lv_at hl 0 rfl) ?_
      refine lv_iconst (v := nI 0) hx hb (dk kL_flies_0_ok 1 rfl) rfl ?_
      refine kw_count hC hKW hN76 hP (k := 0) (by decide) (lc0 _ (List.mem_of_getElem? (i := 14) rfl)) hl.1 (Nat.le_of_ble_eq_true rfl) ⟨Nat.le_of_ble_eq_true rfl, Nat.le_of_ble_eq_true rfl⟩ (dk kL_flies_0_ok 2 rfl) (r := nI t) (show (if over c = true then -1 else nI t) = nI t from if_neg (by rw [hov]; decide)) ?_
      refine lv_istore (lv' := [(5, .int (nI t)), (0, .ref (ad 0)), (1, .ref (ad 77)), (2, .int (nI w)), (3, .int (nI d)), (4, .int (nI f))]) hx hb (dk kL_flies_0_ok 3 rfl) hl (by decide) rfl (fun ls hl => ?_)
      refine lv_aload_n hx hb (dk kL_flies_0_ok 4 rfl) rfl (lv_at hl 1 rfl) ?_
      refine lv_iload_n hx hb (dk kL_flies_0_ok 5 rfl) rfl (lv_at hl 3 rfl) ?_
      refine lv_iload_n hx hb (dk kL_flies_0_ok 6 rfl) rfl (lv_at hl 4 rfl) ?_
      refine lv_iload hx hb (dk kL_flies_0_ok 7 rfl) (lv_at hl 5 rfl) ?_
      refine kw_lands hC hKW hN76 hP (w := w) (by omega) (d := d) (f := f) (by omega) (by omega) (lc0 _ (List.mem_of_getElem? (i := 5) rfl)) hl.1 (Nat.le_of_ble_eq_true rfl) ⟨Nat.le_of_ble_eq_true rfl, Nat.le_of_ble_eq_true rfl⟩ (dk kL_flies_0_ok 8 rfl) (r := nI 169) (hLn) ?_
      refine lv_istore (lv' := [(6, .int (nI 169)), (5, .int (nI t)), (0, .ref (ad 0)), (1, .ref (ad 77)), (2, .int (nI w)), (3, .int (nI d)), (4, .int (nI f))]) hx hb (dk kL_flies_0_ok 9 rfl) hl (by decide) rfl (fun ls hl => ?_)
      refine lv_aload_n hx hb (dk kL_flies_0_ok 10 rfl) rfl (lv_at hl 2 rfl) ?_
      refine lv_iload_n hx hb (dk kL_flies_0_ok 11 rfl) rfl (lv_at hl 4 rfl) ?_
      refine lv_iconst (v := nI 2) hx hb (dk kL_flies_0_ok 12 rfl) rfl ?_
      refine kw_wink hC hKW hN76 hP ht (w := w) (k := 2) (by omega) (by decide) (lc0 _ (List.mem_of_getElem? (i := 3) rfl)) hl.1 (Nat.le_of_ble_eq_true rfl) ⟨Nat.le_of_ble_eq_true rfl, Nat.le_of_ble_eq_true rfl⟩ (dk kL_flies_0_ok 13 rfl) (r := c w) rfl ?_
      refine lv_istore (lv' := [(7, .int (c w)), (6, .int (nI 169)), (5, .int (nI t)), (0, .ref (ad 0)), (1, .ref (ad 77)), (2, .int (nI w)), (3, .int (nI d)), (4, .int (nI f))]) hx hb (dk kL_flies_0_ok 14 rfl) hl (by decide) rfl (fun ls hl => ?_)
      refine lv_iload hx hb (dk kL_flies_0_ok 15 rfl) (lv_at hl 1 rfl) ?_
      refine lv_iconst (v := -1) hx hb (dk kL_flies_0_ok 16 rfl) rfl ?_
      refine lv_icmp_ne (tgt := 40) hx hb (dk kL_flies_0_ok 17 rfl) (by decide) (fun h1 => ?_) (fun h1 => ?_)
      · skip
        refine lv_iload hx hb (dk kL_flies_0_ok 23 rfl) (lv_at hl 1 rfl) ?_
        refine lv_istore (lv' := [(8, .int (nI 169)), (7, .int (c w)), (6, .int (nI 169)), (5, .int (nI t)), (0, .ref (ad 0)), (1, .ref (ad 77)), (2, .int (nI w)), (3, .int (nI d)), (4, .int (nI f))]) hx hb (dk kL_flies_0_ok 24 rfl) hl (by decide) rfl (fun ls hl => ?_)
        refine lv_iload hx hb (dk kL_flies_0_ok 25 rfl) (lv_at hl 2 rfl) ?_
        refine lv_sipush (v := nI 169) hx hb (dk kL_flies_0_ok 26 rfl) rfl ?_
        refine n_icmp_ne (tgt := 56) hx hb (by decide) (by decide) (dk kL_flies_0_ok 27 rfl) (by decide) (fun h2 => ?_) (fun h2 => ?_)
        · exact absurd rfl h2
        · skip
          refine lv_iconst (v := nI 0) hx hb (dk kL_flies_0_ok 28 rfl) rfl ?_
          refine lv_goto (tgt := 75) hx hb (dk kL_flies_0_ok 29 rfl) (by decide) ?_
          refine lv_istore (lv' := [(9, .int (nI 0)), (8, .int (nI 169)), (7, .int (c w)), (6, .int (nI 169)), (5, .int (nI t)), (0, .ref (ad 0)), (1, .ref (ad 77)), (2, .int (nI w)), (3, .int (nI d)), (4, .int (nI f))]) hx hb (dk kL_flies_0_ok 40 rfl) hl (by decide) rfl (fun ls hl => ?_)
          refine lv_aload_n hx hb (dk kL_flies_0_ok 41 rfl) rfl (lv_at hl 5 rfl) ?_
          refine lv_iload_n hx hb (dk kL_flies_0_ok 42 rfl) rfl (lv_at hl 7 rfl) ?_
          refine lv_iconst (v := nI 5) hx hb (dk kL_flies_0_ok 43 rfl) rfl ?_
          refine kw_wink hC hKW hN76 hP ht (w := w) (k := 5) (by omega) (by decide) (lc0 _ (List.mem_of_getElem? (i := 3) rfl)) hl.1 (Nat.le_of_ble_eq_true rfl) ⟨Nat.le_of_ble_eq_true rfl, Nat.le_of_ble_eq_true rfl⟩ (dk kL_flies_0_ok 44 rfl) (r := g w) rfl ?_
          refine lv_istore (lv' := [(10, .int (g w)), (9, .int (nI 0)), (8, .int (nI 169)), (7, .int (c w)), (6, .int (nI 169)), (5, .int (nI t)), (0, .ref (ad 0)), (1, .ref (ad 77)), (2, .int (nI w)), (3, .int (nI d)), (4, .int (nI f))]) hx hb (dk kL_flies_0_ok 45 rfl) hl (by decide) rfl (fun ls hl => ?_)
          refine lv_aload_n hx hb (dk kL_flies_0_ok 46 rfl) rfl (lv_at hl 6 rfl) ?_
          refine lv_iload_n hx hb (dk kL_flies_0_ok 47 rfl) rfl (lv_at hl 8 rfl) ?_
          refine lv_iconst (v := nI 4) hx hb (dk kL_flies_0_ok 48 rfl) rfl ?_
          refine n_idiv hx hb (by omega) (by decide) (by decide) (dk kL_flies_0_ok 49 rfl) ?_
          refine lv_iconst (v := nI 4) hx hb (dk kL_flies_0_ok 50 rfl) rfl ?_
          refine kw_colour hC hKW hN76 hP (w := w / 4) (k := 4) (by omega) (by decide) (lc0 _ (List.mem_of_getElem? (i := 13) rfl)) hl.1 (Nat.le_of_ble_eq_true rfl) ⟨Nat.le_of_ble_eq_true rfl, Nat.le_of_ble_eq_true rfl⟩ (dk kL_flies_0_ok 51 rfl) (r := h (w / 4)) rfl ?_
          refine lv_istore (lv' := [(11, .int (h (w / 4))), (10, .int (g w)), (9, .int (nI 0)), (8, .int (nI 169)), (7, .int (c w)), (6, .int (nI 169)), (5, .int (nI t)), (0, .ref (ad 0)), (1, .ref (ad 77)), (2, .int (nI w)), (3, .int (nI d)), (4, .int (nI f))]) hx hb (dk kL_flies_0_ok 52 rfl) hl (by decide) rfl (fun ls hl => ?_)
          refine lv_aload_n hx hb (dk kL_flies_0_ok 53 rfl) rfl (lv_at hl 7 rfl) ?_
          refine lv_iload_n hx hb (dk kL_flies_0_ok 54 rfl) rfl (lv_at hl 9 rfl) ?_
          refine lv_iload_n hx hb (dk kL_flies_0_ok 55 rfl) rfl (lv_at hl 10 rfl) ?_
          refine lv_iload hx hb (dk kL_flies_0_ok 56 rfl) (lv_at hl 11 rfl) ?_
          refine lv_iconst (v := nI 0) hx hb (dk kL_flies_0_ok 57 rfl) rfl ?_
          refine kw_if hC hKW hN76 hP hDi hS ht (w := w) (by omega) (d := d) (f := f) (by omega) (by omega) (k := 0) (by decide) hwn (lc0 _ (List.mem_of_getElem? (i := 15) rfl)) hl.1 (Nat.le_of_ble_eq_true rfl) ⟨Nat.le_of_ble_eq_true rfl, Nat.le_of_ble_eq_true rfl⟩ (dk kL_flies_0_ok 58 rfl) (r := cIf c b v w (nI d) f (nI 0)) rfl (fun F_1 H locs hK_2 hfr_3 hP hS => ?_)
          have h77_4 : F_1 77 = .inl (cI, 4, .inl lo) := (hfr_3 77 (by decide)).trans h77
          refine lv_istore (lv' := [(12, .int (cIf c b v w (nI d) f (nI 0))), (11, .int (h (w / 4))), (10, .int (g w)), (9, .int (nI 0)), (8, .int (nI 169)), (7, .int (c w)), (6, .int (nI 169)), (5, .int (nI t)), (0, .ref (ad 0)), (1, .ref (ad 77)), (2, .int (nI w)), (3, .int (nI d)), (4, .int (nI f))]) hx hb (dk kL_flies_0_ok 59 rfl) hl (by decide) rfl (fun ls hl => ?_)
          refine lv_aload_n hx hb (dk kL_flies_1_ok 0 rfl) rfl (lv_at hl 8 rfl) ?_
          refine lv_iload_n hx hb (dk kL_flies_1_ok 1 rfl) rfl (lv_at hl 10 rfl) ?_
          refine lv_iload_n hx hb (dk kL_flies_1_ok 2 rfl) rfl (lv_at hl 11 rfl) ?_
          refine lv_iload hx hb (dk kL_flies_1_ok 3 rfl) (lv_at hl 12 rfl) ?_
          refine lv_iconst (v := nI 1) hx hb (dk kL_flies_1_ok 4 rfl) rfl ?_
          refine kw_if hC hK_2 hN76 hP hDi hS ht (w := w) (by omega) (d := d) (f := f) (by omega) (by omega) (k := 1) (by decide) hwn (lc0 _ (List.mem_of_getElem? (i := 15) rfl)) hl.1 (Nat.le_of_ble_eq_true rfl) ⟨Nat.le_of_ble_eq_true rfl, Nat.le_of_ble_eq_true rfl⟩ (dk kL_flies_1_ok 5 rfl) (r := cIf c b v w (nI d) f (nI 1)) rfl (fun F_5 H locs hK_6 hfr_7 hP hS => ?_)
          have h77_8 : F_5 77 = .inl (cI, 4, .inl lo) := (hfr_7 77 (by decide)).trans h77_4
          refine lv_istore (lv' := [(13, .int (cIf c b v w (nI d) f (nI 1))), (12, .int (cIf c b v w (nI d) f (nI 0))), (11, .int (h (w / 4))), (10, .int (g w)), (9, .int (nI 0)), (8, .int (nI 169)), (7, .int (c w)), (6, .int (nI 169)), (5, .int (nI t)), (0, .ref (ad 0)), (1, .ref (ad 77)), (2, .int (nI w)), (3, .int (nI d)), (4, .int (nI f))]) hx hb (dk kL_flies_1_ok 6 rfl) hl (by decide) rfl (fun ls hl => ?_)
          refine lv_aload_n hx hb (dk kL_flies_1_ok 7 rfl) rfl (lv_at hl 9 rfl) ?_
          refine lv_iload_n hx hb (dk kL_flies_1_ok 8 rfl) rfl (lv_at hl 11 rfl) ?_
          refine lv_iload_n hx hb (dk kL_flies_1_ok 9 rfl) rfl (lv_at hl 12 rfl) ?_
          refine lv_iload hx hb (dk kL_flies_1_ok 10 rfl) (lv_at hl 13 rfl) ?_
          refine kw_fly hC hK_6 hN76 hP hDi hS ht (w := w) hw (d := d) (f := f) hd hf hwn (lc0 _ (List.mem_of_getElem? (i := 16) rfl)) hl.1 (Nat.le_of_ble_eq_true rfl) ⟨Nat.le_of_ble_eq_true rfl, Nat.le_of_ble_eq_true rfl⟩ (dk kL_flies_1_ok 11 rfl) (r := nI 169) (hFn) (fun F_9 H locs hK_10 hfr_11 hP hS => ?_)
          have h77_12 : F_9 77 = .inl (cI, 4, .inl lo) := (hfr_11 77 (by decide)).trans h77_8
          rw [e1, hq, eH, eJ] at hK_10
          exact flies_B hN77 hC hDi hret2 (w := w) (d := d) (f := f) (t := t) (q1 := 84) (th := 0) (lo := lo) hw ht (by decide) hA.1 (flP_lt _ _ _ ht _ _) upd_at9 (a0_n _) hea hecv hA.2 hen hK_10 h77_12 hP hS ls (lv_sub hl [0, 1, 2, 3, 4, 5, 6, 7, 8, 9, 10, 11, 12, 13] rfl)
      · exact absurd h1 (by decide)
    · have e1 : rest9 w (flE c w (nI d) f) = nI q1 := by
        rw [hq]
        exact if_neg (nI_m1 (by omega))
      have hA := fly_on hPQ hw hcv hq1 h84
      have hFn : fans (flE c w (nI d) f) = nI q1 := by
        rw [hq]
        exact if_neg (nI_ne (by omega) (by omega) h84)
      have hLn := hLan.trans hFn
      have eH : flH h w (nI q1) = h := if_neg (nI_m1 (by omega))
      have eJ : flH j w (nI q1) = j := if_neg (nI_m1 (by omega))
      have eP : flP (mov1 c b v w (nI q1)) t w (nI q1) j = pasg (mov1 c b v w (nI q1)) t 8 j t := if_pos (Or.inl (nI_ne (by omega) (by omega) h84))
      have hl01 : ∀ i, i < 4 → (upd lo (w / 4) (lo (w / 4) + nI 0)) i = nI 0 ∨ (upd lo (w / 4) (lo (w / 4) + nI 0)) i = nI 1 := lo_up hl01s (by rw [← a0_n]; exact hl01s _ hw4)
      have hen : over (mov1 c b v w (nI q1)) = false → (pasg (mov1 c b v w (nI q1)) t 8 (upd lo (w / 4) (lo (w / 4) + nI 0)) t).2 = (pasg (mov1 c b v w (nI q1)) t 8 j t).2 ∧ (∀ i, i < 4 → (pasg (mov1 c b v w (nI q1)) t 8 (upd lo (w / 4) (lo (w / 4) + nI 0)) t).1 i = (pasg (mov1 c b v w (nI q1)) t 8 j t).1 i) ∧ JT (pasg (mov1 c b v w (nI q1)) t 8 j t).1 (pasg (mov1 c b v w (nI q1)) t 8 j t).2 := fun ho => ⟨(pas_cg 8 _ _ t (up_0 hlo)).1, (pas_cg 8 _ _ t (up_0 hlo)).2, pas_ok (fun k hk => over_f ho hk) 8 _ t hJ.1 (Nat.lt_of_le_of_lt (on4_le _) (by decide))⟩
      have hcM1 : cM1 c b v w (nI d) f = mov1 c b v w (nI q1) := by
        show mov1 c b v w (rest9 w (flE c w (nI d) f)) = _
        rw [e1]
      have hcM3 : cM3 c b v w (nI d) f = mov3 c b v w (nI q1) := by
        show mov3 c b v w (rest9 w (flE c w (nI d) f)) = _
        rw [e1]
      have hea : nI (ptt (mov1 c b v w (nI q1)) (mov3 c b v w (nI q1)) (w / 4 % 2)) - nI (ptt (mov1 c b v w (nI q1)) (mov3 c b v w (nI q1)) (1 - w / 4 % 2)) = cIf c b v w (nI d) f (nI 0) := by
        rw [← hcM1, ← hcM3]
        exact (if_pos rfl).symm
      have hecv : nI (covc (mov3 c b v w (nI q1)) (1 - w / 4 % 2) + covc (mov3 c b v w (nI q1)) (3 - w / 4 % 2)) = cIf c b v w (nI d) f (nI 1) := by
        rw [← hcM3, show 3 - w / 4 % 2 = 1 - w / 4 % 2 + 2 by omega]
        exact (if_neg (by decide)).symm
      refine lv_aload_n hx hb (dk kL_flies_0_ok 0 rfl) rfl (lv_at hl 0 rfl) ?_
      refine lv_iconst (v := nI 0) hx hb (dk kL_flies_0_ok 1 rfl) rfl ?_
      refine kw_count hC hKW hN76 hP (k := 0) (by decide) (lc0 _ (List.mem_of_getElem? (i := 14) rfl)) hl.1 (Nat.le_of_ble_eq_true rfl) ⟨Nat.le_of_ble_eq_true rfl, Nat.le_of_ble_eq_true rfl⟩ (dk kL_flies_0_ok 2 rfl) (r := nI t) (show (if over c = true then -1 else nI t) = nI t from if_neg (by rw [hov]; decide)) ?_
      refine lv_istore (lv' := [(5, .int (nI t)), (0, .ref (ad 0)), (1, .ref (ad 77)), (2, .int (nI w)), (3, .int (nI d)), (4, .int (nI f))]) hx hb (dk kL_flies_0_ok 3 rfl) hl (by decide) rfl (fun ls hl => ?_)
      refine lv_aload_n hx hb (dk kL_flies_0_ok 4 rfl) rfl (lv_at hl 1 rfl) ?_
      refine lv_iload_n hx hb (dk kL_flies_0_ok 5 rfl) rfl (lv_at hl 3 rfl) ?_
      refine lv_iload_n hx hb (dk kL_flies_0_ok 6 rfl) rfl (lv_at hl 4 rfl) ?_
      refine lv_iload hx hb (dk kL_flies_0_ok 7 rfl) (lv_at hl 5 rfl) ?_
      refine kw_lands hC hKW hN76 hP (w := w) (by omega) (d := d) (f := f) (by omega) (by omega) (lc0 _ (List.mem_of_getElem? (i := 5) rfl)) hl.1 (Nat.le_of_ble_eq_true rfl) ⟨Nat.le_of_ble_eq_true rfl, Nat.le_of_ble_eq_true rfl⟩ (dk kL_flies_0_ok 8 rfl) (r := nI q1) (hLn) ?_
      refine lv_istore (lv' := [(6, .int (nI q1)), (5, .int (nI t)), (0, .ref (ad 0)), (1, .ref (ad 77)), (2, .int (nI w)), (3, .int (nI d)), (4, .int (nI f))]) hx hb (dk kL_flies_0_ok 9 rfl) hl (by decide) rfl (fun ls hl => ?_)
      refine lv_aload_n hx hb (dk kL_flies_0_ok 10 rfl) rfl (lv_at hl 2 rfl) ?_
      refine lv_iload_n hx hb (dk kL_flies_0_ok 11 rfl) rfl (lv_at hl 4 rfl) ?_
      refine lv_iconst (v := nI 2) hx hb (dk kL_flies_0_ok 12 rfl) rfl ?_
      refine kw_wink hC hKW hN76 hP ht (w := w) (k := 2) (by omega) (by decide) (lc0 _ (List.mem_of_getElem? (i := 3) rfl)) hl.1 (Nat.le_of_ble_eq_true rfl) ⟨Nat.le_of_ble_eq_true rfl, Nat.le_of_ble_eq_true rfl⟩ (dk kL_flies_0_ok 13 rfl) (r := c w) rfl ?_
      refine lv_istore (lv' := [(7, .int (c w)), (6, .int (nI q1)), (5, .int (nI t)), (0, .ref (ad 0)), (1, .ref (ad 77)), (2, .int (nI w)), (3, .int (nI d)), (4, .int (nI f))]) hx hb (dk kL_flies_0_ok 14 rfl) hl (by decide) rfl (fun ls hl => ?_)
      refine lv_iload hx hb (dk kL_flies_0_ok 15 rfl) (lv_at hl 1 rfl) ?_
      refine lv_iconst (v := -1) hx hb (dk kL_flies_0_ok 16 rfl) rfl ?_
      refine lv_icmp_ne (tgt := 40) hx hb (dk kL_flies_0_ok 17 rfl) (by decide) (fun h1 => ?_) (fun h1 => ?_)
      · skip
        refine lv_iload hx hb (dk kL_flies_0_ok 23 rfl) (lv_at hl 1 rfl) ?_
        refine lv_istore (lv' := [(8, .int (nI q1)), (7, .int (c w)), (6, .int (nI q1)), (5, .int (nI t)), (0, .ref (ad 0)), (1, .ref (ad 77)), (2, .int (nI w)), (3, .int (nI d)), (4, .int (nI f))]) hx hb (dk kL_flies_0_ok 24 rfl) hl (by decide) rfl (fun ls hl => ?_)
        refine lv_iload hx hb (dk kL_flies_0_ok 25 rfl) (lv_at hl 2 rfl) ?_
        refine lv_sipush (v := nI 169) hx hb (dk kL_flies_0_ok 26 rfl) rfl ?_
        refine n_icmp_ne (tgt := 56) hx hb (by omega) (by decide) (dk kL_flies_0_ok 27 rfl) (by decide) (fun h2 => ?_) (fun h2 => ?_)
        · skip
          refine lv_aload_n hx hb (dk kL_flies_0_ok 30 rfl) rfl (lv_at hl 4 rfl) ?_
          refine lv_iload hx hb (dk kL_flies_0_ok 31 rfl) (lv_at hl 0 rfl) ?_
          refine csR (As := [.ref (ad 0), .int (nI q1)]) (r := .int (nI (hgt c (nI q1)))) (rest := []) ⟨hC.1, hC.2.1, hC.2.2.1, hC.2.2.2.1, hC.2.2.2.2.1⟩ (tL_many l D cI cQ cL ad N F hN76 hKW (q := q1) (by omega)) (cwSL 2 hC.2.2.2.2.1 mcL_many (lc0 _ (List.mem_of_getElem? (i := 6) rfl)) msL_many mini_RL rfl rfl hdL_many ⟨Nat.le_of_ble_eq_true rfl, Nat.le_of_ble_eq_true rfl⟩) hC.2.2.2.2.2.1 hP hC.2.2.2.2.2.2.1 rfl hl.1 rfl (Nat.le_of_ble_eq_true rfl) ⟨Nat.le_of_ble_eq_true rfl, Nat.le_of_ble_eq_true rfl⟩ (dk kL_flies_0_ok 32 rfl) ?_
          refine lv_iload hx hb (dk kL_flies_0_ok 33 rfl) (lv_at hl 0 rfl) ?_
          refine lv_iload hx hb (dk kL_flies_0_ok 34 rfl) (lv_at hl 1 rfl) ?_
          refine lv_icmp_ne (tgt := 73) hx hb (dk kL_flies_0_ok 35 rfl) (by decide) (fun h3 => ?_) (fun h3 => ?_)
          · skip
            refine lv_iconst (v := nI 0) hx hb (dk kL_flies_0_ok 38 rfl) rfl ?_
            refine n_isub hx hb (by first | omega | exact hgt_pos hw (by assumption)) (dk kL_flies_0_ok 39 rfl) ?_
            refine W.eq (g2 := F0 m 75 ls [.int (nI (hgt c (nI q1) - (if c w = nI q1 then 1 else 0)))]) (by rw [if_neg (fun e9 => h3 e9.symm)]) ?_
            refine lv_istore (lv' := [(9, .int (nI (hgt c (nI q1) - (if c w = nI q1 then 1 else 0)))), (8, .int (nI q1)), (7, .int (c w)), (6, .int (nI q1)), (5, .int (nI t)), (0, .ref (ad 0)), (1, .ref (ad 77)), (2, .int (nI w)), (3, .int (nI d)), (4, .int (nI f))]) hx hb (dk kL_flies_0_ok 40 rfl) hl (by decide) rfl (fun ls hl => ?_)
            refine lv_aload_n hx hb (dk kL_flies_0_ok 41 rfl) rfl (lv_at hl 5 rfl) ?_
            refine lv_iload_n hx hb (dk kL_flies_0_ok 42 rfl) rfl (lv_at hl 7 rfl) ?_
            refine lv_iconst (v := nI 5) hx hb (dk kL_flies_0_ok 43 rfl) rfl ?_
            refine kw_wink hC hKW hN76 hP ht (w := w) (k := 5) (by omega) (by decide) (lc0 _ (List.mem_of_getElem? (i := 3) rfl)) hl.1 (Nat.le_of_ble_eq_true rfl) ⟨Nat.le_of_ble_eq_true rfl, Nat.le_of_ble_eq_true rfl⟩ (dk kL_flies_0_ok 44 rfl) (r := g w) rfl ?_
            refine lv_istore (lv' := [(10, .int (g w)), (9, .int (nI (hgt c (nI q1) - (if c w = nI q1 then 1 else 0)))), (8, .int (nI q1)), (7, .int (c w)), (6, .int (nI q1)), (5, .int (nI t)), (0, .ref (ad 0)), (1, .ref (ad 77)), (2, .int (nI w)), (3, .int (nI d)), (4, .int (nI f))]) hx hb (dk kL_flies_0_ok 45 rfl) hl (by decide) rfl (fun ls hl => ?_)
            refine lv_aload_n hx hb (dk kL_flies_0_ok 46 rfl) rfl (lv_at hl 6 rfl) ?_
            refine lv_iload_n hx hb (dk kL_flies_0_ok 47 rfl) rfl (lv_at hl 8 rfl) ?_
            refine lv_iconst (v := nI 4) hx hb (dk kL_flies_0_ok 48 rfl) rfl ?_
            refine n_idiv hx hb (by omega) (by decide) (by decide) (dk kL_flies_0_ok 49 rfl) ?_
            refine lv_iconst (v := nI 4) hx hb (dk kL_flies_0_ok 50 rfl) rfl ?_
            refine kw_colour hC hKW hN76 hP (w := w / 4) (k := 4) (by omega) (by decide) (lc0 _ (List.mem_of_getElem? (i := 13) rfl)) hl.1 (Nat.le_of_ble_eq_true rfl) ⟨Nat.le_of_ble_eq_true rfl, Nat.le_of_ble_eq_true rfl⟩ (dk kL_flies_0_ok 51 rfl) (r := h (w / 4)) rfl ?_
            refine lv_istore (lv' := [(11, .int (h (w / 4))), (10, .int (g w)), (9, .int (nI (hgt c (nI q1) - (if c w = nI q1 then 1 else 0)))), (8, .int (nI q1)), (7, .int (c w)), (6, .int (nI q1)), (5, .int (nI t)), (0, .ref (ad 0)), (1, .ref (ad 77)), (2, .int (nI w)), (3, .int (nI d)), (4, .int (nI f))]) hx hb (dk kL_flies_0_ok 52 rfl) hl (by decide) rfl (fun ls hl => ?_)
            refine lv_aload_n hx hb (dk kL_flies_0_ok 53 rfl) rfl (lv_at hl 7 rfl) ?_
            refine lv_iload_n hx hb (dk kL_flies_0_ok 54 rfl) rfl (lv_at hl 9 rfl) ?_
            refine lv_iload_n hx hb (dk kL_flies_0_ok 55 rfl) rfl (lv_at hl 10 rfl) ?_
            refine lv_iload hx hb (dk kL_flies_0_ok 56 rfl) (lv_at hl 11 rfl) ?_
            refine lv_iconst (v := nI 0) hx hb (dk kL_flies_0_ok 57 rfl) rfl ?_
            refine kw_if hC hKW hN76 hP hDi hS ht (w := w) (by omega) (d := d) (f := f) (by omega) (by omega) (k := 0) (by decide) hwn (lc0 _ (List.mem_of_getElem? (i := 15) rfl)) hl.1 (Nat.le_of_ble_eq_true rfl) ⟨Nat.le_of_ble_eq_true rfl, Nat.le_of_ble_eq_true rfl⟩ (dk kL_flies_0_ok 58 rfl) (r := cIf c b v w (nI d) f (nI 0)) rfl (fun F_1 H locs hK_2 hfr_3 hP hS => ?_)
            have h77_4 : F_1 77 = .inl (cI, 4, .inl lo) := (hfr_3 77 (by decide)).trans h77
            refine lv_istore (lv' := [(12, .int (cIf c b v w (nI d) f (nI 0))), (11, .int (h (w / 4))), (10, .int (g w)), (9, .int (nI (hgt c (nI q1) - (if c w = nI q1 then 1 else 0)))), (8, .int (nI q1)), (7, .int (c w)), (6, .int (nI q1)), (5, .int (nI t)), (0, .ref (ad 0)), (1, .ref (ad 77)), (2, .int (nI w)), (3, .int (nI d)), (4, .int (nI f))]) hx hb (dk kL_flies_0_ok 59 rfl) hl (by decide) rfl (fun ls hl => ?_)
            refine lv_aload_n hx hb (dk kL_flies_1_ok 0 rfl) rfl (lv_at hl 8 rfl) ?_
            refine lv_iload_n hx hb (dk kL_flies_1_ok 1 rfl) rfl (lv_at hl 10 rfl) ?_
            refine lv_iload_n hx hb (dk kL_flies_1_ok 2 rfl) rfl (lv_at hl 11 rfl) ?_
            refine lv_iload hx hb (dk kL_flies_1_ok 3 rfl) (lv_at hl 12 rfl) ?_
            refine lv_iconst (v := nI 1) hx hb (dk kL_flies_1_ok 4 rfl) rfl ?_
            refine kw_if hC hK_2 hN76 hP hDi hS ht (w := w) (by omega) (d := d) (f := f) (by omega) (by omega) (k := 1) (by decide) hwn (lc0 _ (List.mem_of_getElem? (i := 15) rfl)) hl.1 (Nat.le_of_ble_eq_true rfl) ⟨Nat.le_of_ble_eq_true rfl, Nat.le_of_ble_eq_true rfl⟩ (dk kL_flies_1_ok 5 rfl) (r := cIf c b v w (nI d) f (nI 1)) rfl (fun F_5 H locs hK_6 hfr_7 hP hS => ?_)
            have h77_8 : F_5 77 = .inl (cI, 4, .inl lo) := (hfr_7 77 (by decide)).trans h77_4
            refine lv_istore (lv' := [(13, .int (cIf c b v w (nI d) f (nI 1))), (12, .int (cIf c b v w (nI d) f (nI 0))), (11, .int (h (w / 4))), (10, .int (g w)), (9, .int (nI (hgt c (nI q1) - (if c w = nI q1 then 1 else 0)))), (8, .int (nI q1)), (7, .int (c w)), (6, .int (nI q1)), (5, .int (nI t)), (0, .ref (ad 0)), (1, .ref (ad 77)), (2, .int (nI w)), (3, .int (nI d)), (4, .int (nI f))]) hx hb (dk kL_flies_1_ok 6 rfl) hl (by decide) rfl (fun ls hl => ?_)
            refine lv_aload_n hx hb (dk kL_flies_1_ok 7 rfl) rfl (lv_at hl 9 rfl) ?_
            refine lv_iload_n hx hb (dk kL_flies_1_ok 8 rfl) rfl (lv_at hl 11 rfl) ?_
            refine lv_iload_n hx hb (dk kL_flies_1_ok 9 rfl) rfl (lv_at hl 12 rfl) ?_
            refine lv_iload hx hb (dk kL_flies_1_ok 10 rfl) (lv_at hl 13 rfl) ?_
            refine kw_fly hC hK_6 hN76 hP hDi hS ht (w := w) hw (d := d) (f := f) hd hf hwn (lc0 _ (List.mem_of_getElem? (i := 16) rfl)) hl.1 (Nat.le_of_ble_eq_true rfl) ⟨Nat.le_of_ble_eq_true rfl, Nat.le_of_ble_eq_true rfl⟩ (dk kL_flies_1_ok 11 rfl) (r := nI q1) (hFn) (fun F_9 H locs hK_10 hfr_11 hP hS => ?_)
            have h77_12 : F_9 77 = .inl (cI, 4, .inl lo) := (hfr_11 77 (by decide)).trans h77_8
            rw [e1, hq, eH, eJ, eP] at hK_10
            exact flies_C hN77 hC hDi hret2 (w := w) (d := d) (f := f) (t := t) (q1 := q1) (th := (hgt c (nI q1) - (if c w = nI q1 then 1 else 0))) (lo := lo) hw ht hq1 hA.1 (pasg_lt _ _ ht _ _ _) upd_at9 (a0_n _) hea hecv hA.2.1 hA.2.2.1 hA.2.2.2 hl01 hen hK_10 h77_12 hP hS ls (lv_sub hl [0, 1, 2, 3, 4, 5, 6, 7, 8, 9, 10, 11, 12, 13] rfl)
          · skip
            refine lv_iconst (v := nI 1) hx hb (dk kL_flies_0_ok 36 rfl) rfl ?_
            refine lv_goto (tgt := 74) hx hb (dk kL_flies_0_ok 37 rfl) (by decide) ?_
            refine n_isub hx hb (by first | omega | exact hgt_pos hw (by assumption)) (dk kL_flies_0_ok 39 rfl) ?_
            refine W.eq (g2 := F0 m 75 ls [.int (nI (hgt c (nI q1) - (if c w = nI q1 then 1 else 0)))]) (by rw [if_pos h3.symm]) ?_
            refine lv_istore (lv' := [(9, .int (nI (hgt c (nI q1) - (if c w = nI q1 then 1 else 0)))), (8, .int (nI q1)), (7, .int (c w)), (6, .int (nI q1)), (5, .int (nI t)), (0, .ref (ad 0)), (1, .ref (ad 77)), (2, .int (nI w)), (3, .int (nI d)), (4, .int (nI f))]) hx hb (dk kL_flies_0_ok 40 rfl) hl (by decide) rfl (fun ls hl => ?_)
            refine lv_aload_n hx hb (dk kL_flies_0_ok 41 rfl) rfl (lv_at hl 5 rfl) ?_
            refine lv_iload_n hx hb (dk kL_flies_0_ok 42 rfl) rfl (lv_at hl 7 rfl) ?_
            refine lv_iconst (v := nI 5) hx hb (dk kL_flies_0_ok 43 rfl) rfl ?_
            refine kw_wink hC hKW hN76 hP ht (w := w) (k := 5) (by omega) (by decide) (lc0 _ (List.mem_of_getElem? (i := 3) rfl)) hl.1 (Nat.le_of_ble_eq_true rfl) ⟨Nat.le_of_ble_eq_true rfl, Nat.le_of_ble_eq_true rfl⟩ (dk kL_flies_0_ok 44 rfl) (r := g w) rfl ?_
            refine lv_istore (lv' := [(10, .int (g w)), (9, .int (nI (hgt c (nI q1) - (if c w = nI q1 then 1 else 0)))), (8, .int (nI q1)), (7, .int (c w)), (6, .int (nI q1)), (5, .int (nI t)), (0, .ref (ad 0)), (1, .ref (ad 77)), (2, .int (nI w)), (3, .int (nI d)), (4, .int (nI f))]) hx hb (dk kL_flies_0_ok 45 rfl) hl (by decide) rfl (fun ls hl => ?_)
            refine lv_aload_n hx hb (dk kL_flies_0_ok 46 rfl) rfl (lv_at hl 6 rfl) ?_
            refine lv_iload_n hx hb (dk kL_flies_0_ok 47 rfl) rfl (lv_at hl 8 rfl) ?_
            refine lv_iconst (v := nI 4) hx hb (dk kL_flies_0_ok 48 rfl) rfl ?_
            refine n_idiv hx hb (by omega) (by decide) (by decide) (dk kL_flies_0_ok 49 rfl) ?_
            refine lv_iconst (v := nI 4) hx hb (dk kL_flies_0_ok 50 rfl) rfl ?_
            refine kw_colour hC hKW hN76 hP (w := w / 4) (k := 4) (by omega) (by decide) (lc0 _ (List.mem_of_getElem? (i := 13) rfl)) hl.1 (Nat.le_of_ble_eq_true rfl) ⟨Nat.le_of_ble_eq_true rfl, Nat.le_of_ble_eq_true rfl⟩ (dk kL_flies_0_ok 51 rfl) (r := h (w / 4)) rfl ?_
            refine lv_istore (lv' := [(11, .int (h (w / 4))), (10, .int (g w)), (9, .int (nI (hgt c (nI q1) - (if c w = nI q1 then 1 else 0)))), (8, .int (nI q1)), (7, .int (c w)), (6, .int (nI q1)), (5, .int (nI t)), (0, .ref (ad 0)), (1, .ref (ad 77)), (2, .int (nI w)), (3, .int (nI d)), (4, .int (nI f))]) hx hb (dk kL_flies_0_ok 52 rfl) hl (by decide) rfl (fun ls hl => ?_)
            refine lv_aload_n hx hb (dk kL_flies_0_ok 53 rfl) rfl (lv_at hl 7 rfl) ?_
            refine lv_iload_n hx hb (dk kL_flies_0_ok 54 rfl) rfl (lv_at hl 9 rfl) ?_
            refine lv_iload_n hx hb (dk kL_flies_0_ok 55 rfl) rfl (lv_at hl 10 rfl) ?_
            refine lv_iload hx hb (dk kL_flies_0_ok 56 rfl) (lv_at hl 11 rfl) ?_
            refine lv_iconst (v := nI 0) hx hb (dk kL_flies_0_ok 57 rfl) rfl ?_
            refine kw_if hC hKW hN76 hP hDi hS ht (w := w) (by omega) (d := d) (f := f) (by omega) (by omega) (k := 0) (by decide) hwn (lc0 _ (List.mem_of_getElem? (i := 15) rfl)) hl.1 (Nat.le_of_ble_eq_true rfl) ⟨Nat.le_of_ble_eq_true rfl, Nat.le_of_ble_eq_true rfl⟩ (dk kL_flies_0_ok 58 rfl) (r := cIf c b v w (nI d) f (nI 0)) rfl (fun F_13 H locs hK_14 hfr_15 hP hS => ?_)
            have h77_16 : F_13 77 = .inl (cI, 4, .inl lo) := (hfr_15 77 (by decide)).trans h77
            refine lv_istore (lv' := [(12, .int (cIf c b v w (nI d) f (nI 0))), (11, .int (h (w / 4))), (10, .int (g w)), (9, .int (nI (hgt c (nI q1) - (if c w = nI q1 then 1 else 0)))), (8, .int (nI q1)), (7, .int (c w)), (6, .int (nI q1)), (5, .int (nI t)), (0, .ref (ad 0)), (1, .ref (ad 77)), (2, .int (nI w)), (3, .int (nI d)), (4, .int (nI f))]) hx hb (dk kL_flies_0_ok 59 rfl) hl (by decide) rfl (fun ls hl => ?_)
            refine lv_aload_n hx hb (dk kL_flies_1_ok 0 rfl) rfl (lv_at hl 8 rfl) ?_
            refine lv_iload_n hx hb (dk kL_flies_1_ok 1 rfl) rfl (lv_at hl 10 rfl) ?_
            refine lv_iload_n hx hb (dk kL_flies_1_ok 2 rfl) rfl (lv_at hl 11 rfl) ?_
            refine lv_iload hx hb (dk kL_flies_1_ok 3 rfl) (lv_at hl 12 rfl) ?_
            refine lv_iconst (v := nI 1) hx hb (dk kL_flies_1_ok 4 rfl) rfl ?_
            refine kw_if hC hK_14 hN76 hP hDi hS ht (w := w) (by omega) (d := d) (f := f) (by omega) (by omega) (k := 1) (by decide) hwn (lc0 _ (List.mem_of_getElem? (i := 15) rfl)) hl.1 (Nat.le_of_ble_eq_true rfl) ⟨Nat.le_of_ble_eq_true rfl, Nat.le_of_ble_eq_true rfl⟩ (dk kL_flies_1_ok 5 rfl) (r := cIf c b v w (nI d) f (nI 1)) rfl (fun F_17 H locs hK_18 hfr_19 hP hS => ?_)
            have h77_20 : F_17 77 = .inl (cI, 4, .inl lo) := (hfr_19 77 (by decide)).trans h77_16
            refine lv_istore (lv' := [(13, .int (cIf c b v w (nI d) f (nI 1))), (12, .int (cIf c b v w (nI d) f (nI 0))), (11, .int (h (w / 4))), (10, .int (g w)), (9, .int (nI (hgt c (nI q1) - (if c w = nI q1 then 1 else 0)))), (8, .int (nI q1)), (7, .int (c w)), (6, .int (nI q1)), (5, .int (nI t)), (0, .ref (ad 0)), (1, .ref (ad 77)), (2, .int (nI w)), (3, .int (nI d)), (4, .int (nI f))]) hx hb (dk kL_flies_1_ok 6 rfl) hl (by decide) rfl (fun ls hl => ?_)
            refine lv_aload_n hx hb (dk kL_flies_1_ok 7 rfl) rfl (lv_at hl 9 rfl) ?_
            refine lv_iload_n hx hb (dk kL_flies_1_ok 8 rfl) rfl (lv_at hl 11 rfl) ?_
            refine lv_iload_n hx hb (dk kL_flies_1_ok 9 rfl) rfl (lv_at hl 12 rfl) ?_
            refine lv_iload hx hb (dk kL_flies_1_ok 10 rfl) (lv_at hl 13 rfl) ?_
            refine kw_fly hC hK_18 hN76 hP hDi hS ht (w := w) hw (d := d) (f := f) hd hf hwn (lc0 _ (List.mem_of_getElem? (i := 16) rfl)) hl.1 (Nat.le_of_ble_eq_true rfl) ⟨Nat.le_of_ble_eq_true rfl, Nat.le_of_ble_eq_true rfl⟩ (dk kL_flies_1_ok 11 rfl) (r := nI q1) (hFn) (fun F_21 H locs hK_22 hfr_23 hP hS => ?_)
            have h77_24 : F_21 77 = .inl (cI, 4, .inl lo) := (hfr_23 77 (by decide)).trans h77_20
            rw [e1, hq, eH, eJ, eP] at hK_22
            exact flies_C hN77 hC hDi hret2 (w := w) (d := d) (f := f) (t := t) (q1 := q1) (th := (hgt c (nI q1) - (if c w = nI q1 then 1 else 0))) (lo := lo) hw ht hq1 hA.1 (pasg_lt _ _ ht _ _ _) upd_at9 (a0_n _) hea hecv hA.2.1 hA.2.2.1 hA.2.2.2 hl01 hen hK_22 h77_24 hP hS ls (lv_sub hl [0, 1, 2, 3, 4, 5, 6, 7, 8, 9, 10, 11, 12, 13] rfl)
        · exact absurd h2 (by omega)
      · exact absurd h1 (nI_m1 (by omega))
