/-! the law's lifts(), from its entry -/
theorem LINV_ad {cI cQ : ClassId} {ad ad1 : Nat → Nat} {F : Nat → va_E} (h : LINV cI cQ ad1 F) (e : ∀ i, i ≠ 78 → i ≠ 79 → ad i = ad1 i) : LINV cI cQ ad F := by
  obtain ⟨c, b, v, g, h9, j, t, u, z, m9, lo, hk, hr⟩ := h
  exact ⟨c, b, v, g, h9, j, t, u, z, m9, lo, KW_ad hk e, hr⟩
set_option maxRecDepth 100000 in
set_option maxHeartbeats 8000000 in
theorem tL_lifts (l : Launch) (D : va_G) (cI cQ cL : ClassId) (ad : Nat → Nat) (F : Nat → va_E) {c b v g h j : Nat → Int32} {t : Nat} {u z : Int32} {m9 : Nat} {Np : Nat → Nat} {Wp : Nat → Nat → Nat} (hKW : KW cI cQ ad F c b v g h j t u z m9) (hR : Rc c Np Wp) (hRl : Rl c b v Np Wp) (ht : t < 4) {lo : Nat → Int32} (h77 : F 77 = .inl (cI, 4, .inl lo)) (hov : over c = false) (hJ : JT j t) (hlo : ∀ i, i < 4 → lo i = j i) {q0 q1 f d : Nat} (hq0 : q0 < 169) (hq1 : q1 < 169) (hne : q1 ≠ q0) (hf : 1 ≤ f ∧ f ≤ 3) (hd : d ≤ 7) (hfn : f ≤ Np q0) (hrb : rbs q0 d = nI q1) (hwn : wnl c b v t z (nI (q0 % 13)) (nI (q0 / 13)) f (nI d) = 0) : MX l yL_lifts (Cond.code yL_lifts cL_lifts 13 (some .boolean) :: LW) ({ frames := 11, cells := 1, slots := 6, locals := 400 } : Room) D cI cQ cL ad 78 F [.ref (ad 0), .ref (ad 77), .int (nI q0), .int (nI f), .int (nI d), .int (nI q1)] (fun v9 G9 => v9 = some (.int (nI 1)) ∧ LINV cI cQ ad G9) 1 6 := by
  refine mx_i (ty := .boolean) (by decide +kernel) rfl (Nat.le_of_ble_eq_true rfl) (fun p e s m below meth cd Q ls hx hb hml hown hts hDi hP hK hNW hS hret hl => ?_)
  have hC : CX p s m cd cL_lifts 13 ([.ref (ad 0), .ref (ad 77), .int (nI q0), .int (nI f), .int (nI d), .int (nI q1)] : List Value).toArray D cI cQ cL ({ frames := 11, cells := 1, slots := 6, locals := 400 } : Room) := ⟨hx, hb, hml, hown, fun w h => hts w (List.mem_cons_of_mem _ h), hK, hNW, Nat.le_of_ble_eq_true rfl, Nat.le_of_ble_eq_true rfl⟩
  have hN76 : 76 < 78 := by decide
  have hl : lv_has ls 13 [(0, .ref (ad 0)), (1, .ref (ad 77)), (2, .int (nI q0)), (3, .int (nI f)), (4, .int (nI d)), (5, .int (nI q1))] := hl
  refine lv_aload_n hx hb (dk kL_lifts_0_ok 0 rfl) rfl (lv_at hl 0 rfl) ?_
  refine lv_iconst (v := nI 0) hx hb (dk kL_lifts_0_ok 1 rfl) rfl ?_
  refine kw_count hC hKW hN76 hP (k := 0) (by decide) (lc0 _ (List.mem_of_getElem? (i := 14) rfl)) hl.1 (Nat.le_of_ble_eq_true rfl) ⟨Nat.le_of_ble_eq_true rfl, Nat.le_of_ble_eq_true rfl⟩ (dk kL_lifts_0_ok 2 rfl) (r := nI t) (show (if over c = true then -1 else nI t) = nI t from if_neg (by rw [hov]; decide)) ?_
  refine lv_istore (lv' := [(6, .int (nI t)), (0, .ref (ad 0)), (1, .ref (ad 77)), (2, .int (nI q0)), (3, .int (nI f)), (4, .int (nI d)), (5, .int (nI q1))]) hx hb (dk kL_lifts_0_ok 3 rfl) hl (by decide) rfl (fun ls hl => ?_)
  refine lv_bipush (v := nI 6) hx hb (dk kL_lifts_0_ok 4 rfl) rfl ?_
  refine nwA (n := 6) hx hb (hC.2.2.2.2.1 _ (lcA _ (ac0 _ (List.mem_of_getElem? (i := 3) rfl)))) hK hDi hP hS (by decide) (Nat.le_of_ble_eq_true rfl) (Nat.le_of_ble_eq_true rfl) (dk kL_lifts_0_ok 5 rfl) (fun ad1 F1 H1 ha hF h78 hD1 hA hP1 hS1 => ?_)
  rw [← ha 0 (by decide), ← ha 77 (by decide)] at hl
  refine lv_astore (lv' := [(7, .ref (ad1 78)), (6, .int (nI t)), (0, .ref (ad1 0)), (1, .ref (ad1 77)), (2, .int (nI q0)), (3, .int (nI f)), (4, .int (nI d)), (5, .int (nI q1))]) hx hb (dk kL_lifts_0_ok 6 rfl) hl (by decide) rfl (fun ls hl => ?_)
  exact lifts_1 hC hD1 (fun pc ls H locs F9 g1 g2 g3 g4 => hret pc ls _ H locs F9 1 6 rfl ⟨rfl, LINV_ad g1 (fun i e1 _ => (ha i e1).symm)⟩ (iW_cut g2 (by decide) (fun i hi => ha i (by omega))) (by rw [← hA]; exact g3) (Nat.le_refl _) (Nat.le_refl _) g4) (q0 := q0) (q1 := q1) (f := f) (d := d) (lo := lo) hR hRl ht hq0 hq1 hne hf hd hfn hrb hJ hlo hwn (KW_ad (KW_fr hKW (fun i hi => hF i (by omega))) (fun i e1 _ => ha i e1)) ((hF 77 (by decide)).trans h77) h78 hP1 (by rw [hA]; exact hS1) ls (lv_sub hl [0, 1, 2, 3, 4, 5, 6, 7] rfl)
