/-! a turn of the law -/
theorem wnf_3 {c v : Nat → Int32} {t w : Nat} (ho : over c = false) (hwt : w / 4 = t) (hp : c w = -1) : wnf c v t w = 3 := by
  unfold wnf
  rw [if_neg (by rw [ho]; decide), if_neg (fun e => e hwt), if_pos (pot_at.mpr hp)]
theorem wnf_4 {c v : Nat → Int32} {t w : Nat} (ho : over c = false) (hwt : w / 4 = t) (hp : ¬ c w = -1) (h0 : wnf c v t w ≠ 0) : wnf c v t w = 4 := by
  unfold wnf at *
  rw [if_neg (by rw [ho]; decide), if_neg (fun e => e hwt), if_neg (fun e => hp (pot_at.mp e))] at *
  by_cases hc : cov v w = true
  · rw [if_pos hc]
  · rw [if_neg hc] at h0
    exact absurd rfl h0
theorem wnl_due {c b v : Nat → Int32} {t : Nat} {z : Int32} {N : Nat → Nat} {W : Nat → Nat → Nat} {q f d : Nat} (ho : over c = false) (hR : Rc c N W) (hRl : Rl c b v N W) (hq : q < 169) (hf : 1 ≤ f) (ht : t < 4) : wnl c b v t z (nI (q % 13)) (nI (q / 13)) f (nI d) = if N q < f then 2 else if ¬ W q (N q - 1) / 4 = t then 3 else if ¬ nI f ≤ z then 4 else if rbs q d = -1 then 5 else 0 := by
  have hle := hR.le (q := q) (by omega)
  unfold wnl
  rw [if_neg (by rw [ho]; decide), cat_q, hRl.lowN hR (by omega) hf]
  by_cases h1 : N q < f
  · rw [if_neg (show ¬ f ≤ N q by omega), if_pos rfl, if_pos h1]
  · have h2 := (hR.1 q (N q - f) (by omega)).1
    have h3 := (hR.1 q (N q - 1) (by omega)).1
    rw [if_pos (show f ≤ N q by omega), if_neg (nI_m1 (show W q (N q - f) < 2147483648 by omega)), if_neg h1, hRl.topv hR (show q < 2147483648 by omega), if_neg (show ¬ N q = 0 by omega)]
    have e8 : nI (W q (N q - 1)) / nI 4 = nI (W q (N q - 1) / 4) := pk_div (show W q (N q - 1) < 2 ^ 31 by omega) (by decide) (by decide)
    rw [e8]
    by_cases h4 : W q (N q - 1) / 4 = t
    · have e7 : ¬ ¬ nI (W q (N q - 1) / 4) = nI t := fun e => e (by rw [h4])
      have e6 : ¬ ¬ W q (N q - 1) / 4 = t := fun e => e h4
      rw [if_neg e7, if_neg e6]
      rfl
    · have e7 : ¬ nI (W q (N q - 1) / 4) = nI t := fun e => h4 (nI_inj (by omega) (by omega) e)
      rw [if_pos e7, if_pos h4]
section CMS
variable {p : Program} {l : Launch} {e : Env} {R : Room} {s : State} {m : MethodId} {args : Array Value} {below : List Frame} {meth : Method} {c : Code} {H : Heap} {locs : List Loc} {cells slots : Nat} {Q : State → Prop}
variable {cc : ByteArray} {pc : Nat} {ls : Array Slot} {rest st0 : List Value} {A : Nat → Prop} {Ts : List Cond}
theorem csMS {nL index na b L : Nat} {xs : Nat → Int32} {own : String} {y : MethodName} {bytes : ByteArray} {maxL : Nat} {ret : Option FieldType} {ws : List Cond} {rm : Room} {As : List Value} {r : Value}
    (S : CallFix p m c cc nL s args Ts own) (hM : MS l y ws rm b L xs As r) (cw : CallB R s args own index y bytes maxL ret ws rm 0 0 na ∧ (Cond.static y).before args s = true) (hX : va_X b L xs s s.heap) (hbl : b < s.heap.size) (hA : ¬ A b) (hS : va_S A s.heap H locs)
    (hn : As.length = na) (hsize : ls.size = nL) (hstack : st0 = As.reverse ++ rest) (hW : (rest.map fun v => v.category).sum ≤ 8) (hf : cells + 0 ≤ R.cells ∧ slots + 0 ≤ R.slots) (hdg : decode cc pc = .ok (.invokestatic index, 3))
    (kk : W p l e R s m args below meth c H locs cells slots Q (F0 m (pc + 3) ls (r :: rest))) : W p l e R s m args below meth c H locs cells slots Q (F0 m pc ls st0) :=
  cp (va_runS (g := F0 m pc ls st0) S hM cw ⟨MS_blind, fun U hU hW => ⟨rfl, by rw [hU]; exact va_X.moved hW.alike (hX.kept (hS.2.1 b hbl hA)), by rw [hU]; exact Nat.lt_of_lt_of_le hbl hS.1⟩⟩ rfl hn hsize hstack (lv_room hW) hdg hf) kk
end CMS
set_option maxRecDepth 100000 in
set_option maxHeartbeats 8000000 in
theorem lw_turn {p : Program} {l : Launch} {e : Env} {s : State} {m : MethodId} {below : List Frame} {meth : Method} {cd : Code} {Q : State → Prop} {D : va_G} {cI cQ cL : ClassId} {sb L : Nat} {xs : Nat → Int32} {ad : Nat → Nat} {cells slots : Nat} (hC : CX p s m cd cL_law 15 #[Value.ref sb] D cI cQ cL room_1) (hXs : va_X sb L xs s s.heap) (hbl : sb < s.heap.size) (hL30 : L < 2 ^ 30) (hDi : iD ad 78) (hAb : ¬ iA ad 78 s.heap.size sb) (hf1 : cells + 1 ≤ room_1.cells ∧ slots + 6 ≤ room_1.slots) {k : Nat} (hk90 : k < 90)
    (kend : ∀ (G : Nat → va_E) (H1 : Heap) (locs1 : List Loc) (ls1 : Array Slot), LINV cI cQ ad G → va_P D vwCl (iW ad 78 G) H1 → va_S (iA ad 78 s.heap.size) s.heap H1 locs1 → lv_has ls1 15 [(7, .int (nI 1)), (0, .ref sb), (1, .ref (ad 0)), (2, .ref (ad 77)), (3, .int (nI k))] → W p l e room_1 s m #[Value.ref sb] below meth cd H1 locs1 (cells + 1) (slots + 6) Q (F0 m 558 ls1 []))
    {c b v g h j : Nat → Int32} {t : Nat} {u z : Int32} {m9 : Nat} {Np : Nat → Nat} {Wp : Nat → Nat → Nat} {lo : Nat → Int32} {F : Nat → va_E} {H : Heap} {locs : List Loc} (hKW : KW cI cQ ad F c b v g h j t u z m9) (hR : Rc c Np Wp) (hRl : Rl c b v Np Wp) (ht : t < 4) (h77 : F 77 = .inl (cI, 4, .inl lo)) (hjl : over c = false → JT j t ∧ ∀ i, i < 4 → lo i = j i) (hov : over c = false)
    (hP : va_P D vwCl (iW ad 78 F) H) (hS : va_S (iA ad 78 s.heap.size) s.heap H locs) (ls : Array Slot) (hl : lv_has ls 15 [(0, .ref sb), (1, .ref (ad 0)), (2, .ref (ad 77)), (3, .int (nI k))]) : W p l e room_1 s m #[Value.ref sb] below meth cd H locs cells slots Q (F0 m 28 ls []) := by
  obtain ⟨hx, hb, hml, hown, hts, hK, hNW, hfr, hlo9⟩ := id hC
  have hN76 : 76 < 78 := by decide
  have hN77 : 77 < 78 := by decide
  have hf0 : cells ≤ room_1.cells ∧ slots ≤ room_1.slots := ⟨by omega, by omega⟩
  refine lv_aload_n hx hb (dk kL_law_0_ok 16 rfl) rfl (lv_at hl 0 rfl) ?_
  refine lv_iconst (v := nI 2) hx hb (dk kL_law_0_ok 17 rfl) rfl ?_
  refine lv_iload_n hx hb (dk kL_law_0_ok 18 rfl) rfl (lv_at hl 3 rfl) ?_
  refine n_imul hx hb (dk kL_law_0_ok 19 rfl) ?_
  refine csMS (As := [.ref sb, .int (nI (2 * k))]) (rest := []) ⟨hC.1, hC.2.1, hC.2.2.1, hC.2.2.2.1, hC.2.2.2.2.1⟩ (tL_cell l sb L xs hL30 (2 * k) (by omega)) (cwSL 2 hC.2.2.2.2.1 mcL_cell (lc1 _ (List.mem_of_getElem? (i := 2) rfl)) msL_cell mini_RL rfl rfl hdL_cell ⟨Nat.le_of_ble_eq_true rfl, Nat.le_of_ble_eq_true rfl⟩) hXs hbl hAb hS rfl hl.1 rfl (Nat.le_of_ble_eq_true rfl) hf0 (dk kL_law_0_ok 20 rfl) ?_
  generalize cel L xs (2 * k) = gv
  refine lv_istore (lv' := [(4, .int gv), (0, .ref sb), (1, .ref (ad 0)), (2, .ref (ad 77)), (3, .int (nI k))]) hx hb (dk kL_law_0_ok 21 rfl) hl (by decide) rfl (fun ls hl => ?_)
  refine lv_aload_n hx hb (dk kL_law_0_ok 22 rfl) rfl (lv_at hl 1 rfl) ?_
  refine lv_iconst (v := nI 2) hx hb (dk kL_law_0_ok 23 rfl) rfl ?_
  refine lv_iload_n hx hb (dk kL_law_0_ok 24 rfl) rfl (lv_at hl 4 rfl) ?_
  refine n_imul hx hb (dk kL_law_0_ok 25 rfl) ?_
  refine lv_iconst (v := nI 1) hx hb (dk kL_law_0_ok 26 rfl) rfl ?_
  refine n_iadd hx hb (dk kL_law_0_ok 27 rfl) ?_
  refine csMS (As := [.ref sb, .int (nI ((2 * k) + 1))]) (rest := []) ⟨hC.1, hC.2.1, hC.2.2.1, hC.2.2.2.1, hC.2.2.2.2.1⟩ (tL_cell l sb L xs hL30 ((2 * k) + 1) (by omega)) (cwSL 2 hC.2.2.2.2.1 mcL_cell (lc1 _ (List.mem_of_getElem? (i := 2) rfl)) msL_cell mini_RL rfl rfl hdL_cell ⟨Nat.le_of_ble_eq_true rfl, Nat.le_of_ble_eq_true rfl⟩) hXs hbl hAb hS rfl hl.1 rfl (Nat.le_of_ble_eq_true rfl) hf0 (dk kL_law_0_ok 28 rfl) ?_
  generalize cel L xs (2 * k + 1) = hv
  refine lv_istore (lv' := [(5, .int hv), (4, .int gv), (0, .ref sb), (1, .ref (ad 0)), (2, .ref (ad 77)), (3, .int (nI k))]) hx hb (dk kL_law_0_ok 29 rfl) hl (by decide) rfl (fun ls hl => ?_)
  refine lv_iload hx hb (dk kL_law_0_ok 30 rfl) (lv_at hl 0 rfl) ?_
  refine lv_bipush (v := nI 8) hx hb (dk kL_law_0_ok 31 rfl) rfl ?_
  refine csP (As := [.int hv, .int (nI 8)]) (rest := []) ⟨hC.1, hC.2.1, hC.2.2.1, hC.2.2.2.1, hC.2.2.2.2.1⟩ (tL_low l hv 8 (by decide) (by decide)) (cwSL 2 hC.2.2.2.2.1 mcL_low (lc1 _ (List.mem_of_getElem? (i := 5) rfl)) msL_low mini_RL rfl rfl hdL_low ⟨Nat.le_of_ble_eq_true rfl, Nat.le_of_ble_eq_true rfl⟩) rfl hl.1 rfl (Nat.le_of_ble_eq_true rfl) hf0 (dk kL_law_0_ok 32 rfl) ?_
  obtain ⟨dv, hdv, hdvb⟩ : ∃ dv, lo9 hv % 8 = dv ∧ dv < 8 := ⟨_, rfl, by omega⟩
  rw [hdv]
  refine lv_istore (lv' := [(6, .int (nI dv)), (5, .int hv), (4, .int gv), (0, .ref sb), (1, .ref (ad 0)), (2, .ref (ad 77)), (3, .int (nI k))]) hx hb (dk kL_law_0_ok 33 rfl) hl (by decide) rfl (fun ls hl => ?_)
  refine lv_iconst (v := nI 1) hx hb (dk kL_law_0_ok 34 rfl) rfl ?_
  refine lv_istore (lv' := [(7, .int (nI 1)), (6, .int (nI dv)), (5, .int hv), (4, .int gv), (0, .ref sb), (1, .ref (ad 0)), (2, .ref (ad 77)), (3, .int (nI k))]) hx hb (dk kL_law_0_ok 35 rfl) hl (by decide) rfl (fun ls hl => ?_)
  refine lv_iload hx hb (dk kL_law_0_ok 36 rfl) (lv_at hl 3 rfl) ?_
  refine lv_iconst (v := nI 5) hx hb (dk kL_law_0_ok 37 rfl) rfl ?_
  refine csP (As := [.int gv, .int (nI 5)]) (rest := []) ⟨hC.1, hC.2.1, hC.2.2.1, hC.2.2.2.1, hC.2.2.2.2.1⟩ (tL_low l gv 5 (by decide) (by decide)) (cwSL 2 hC.2.2.2.2.1 mcL_low (lc1 _ (List.mem_of_getElem? (i := 5) rfl)) msL_low mini_RL rfl rfl hdL_low ⟨Nat.le_of_ble_eq_true rfl, Nat.le_of_ble_eq_true rfl⟩) rfl hl.1 rfl (Nat.le_of_ble_eq_true rfl) hf0 (dk kL_law_0_ok 38 rfl) ?_
  refine lv_iconst (v := nI 3) hx hb (dk kL_law_0_ok 39 rfl) rfl ?_
  refine n_icmp_ge (tgt := 173) hx hb (by first | omega | (have q9 := hR.le (q := q) (by omega); omega) | (have q9 := wnl_le c b v t z (nI (q % 13)) (nI (q / 13)) f (nI dv); omega) | (have q9 := (hR.1 q (Np q - 1) (by omega)).1; omega)) (by decide) (dk kL_law_0_ok 40 rfl) (by decide) (fun h1 => ?_) (fun h1 => ?_)
  · skip
    refine lv_iload hx hb (dk kL_law_1_ok 37 rfl) (lv_at hl 3 rfl) ?_
    refine lv_iconst (v := nI 5) hx hb (dk kL_law_1_ok 38 rfl) rfl ?_
    refine csP (As := [.int gv, .int (nI 5)]) (rest := []) ⟨hC.1, hC.2.1, hC.2.2.1, hC.2.2.2.1, hC.2.2.2.2.1⟩ (tL_low l gv 5 (by decide) (by decide)) (cwSL 2 hC.2.2.2.2.1 mcL_low (lc1 _ (List.mem_of_getElem? (i := 5) rfl)) msL_low mini_RL rfl rfl hdL_low ⟨Nat.le_of_ble_eq_true rfl, Nat.le_of_ble_eq_true rfl⟩) rfl hl.1 rfl (Nat.le_of_ble_eq_true rfl) hf0 (dk kL_law_1_ok 39 rfl) ?_
    refine lv_iconst (v := nI 3) hx hb (dk kL_law_1_ok 40 rfl) rfl ?_
    refine n_icmp_ne (tgt := 386) hx hb (by first | omega | (have q9 := hR.le (q := q) (by omega); omega) | (have q9 := wnl_le c b v t z (nI (q % 13)) (nI (q / 13)) f (nI dv); omega) | (have q9 := (hR.1 q (Np q - 1) (by omega)).1; omega)) (by decide) (dk kL_law_1_ok 41 rfl) (by decide) (fun h2 => ?_) (fun h2 => ?_)
    · skip
      refine lv_iload hx hb (dk kL_law_3_ok 27 rfl) (lv_at hl 3 rfl) ?_
      refine lv_iconst (v := nI 3) hx hb (dk kL_law_3_ok 28 rfl) rfl ?_
      refine lv_ishr hx hb (dk kL_law_3_ok 29 rfl) ?_
      refine lv_iconst (v := nI 4) hx hb (dk kL_law_3_ok 30 rfl) rfl ?_
      refine csP (As := [.int (gv >>> ((nI 3) &&& 31)), .int (nI 4)]) (rest := []) ⟨hC.1, hC.2.1, hC.2.2.1, hC.2.2.2.1, hC.2.2.2.2.1⟩ (tL_low l (gv >>> ((nI 3) &&& 31)) 4 (by decide) (by decide)) (cwSL 2 hC.2.2.2.2.1 mcL_low (lc1 _ (List.mem_of_getElem? (i := 5) rfl)) msL_low mini_RL rfl rfl hdL_low ⟨Nat.le_of_ble_eq_true rfl, Nat.le_of_ble_eq_true rfl⟩) rfl hl.1 rfl (Nat.le_of_ble_eq_true rfl) hf0 (dk kL_law_3_ok 31 rfl) ?_
      refine n_if_ne (tgt := 507) hx hb (by first | omega | (have q9 := hR.le (q := q) (by omega); omega) | (have q9 := wnl_le c b v t z (nI (q % 13)) (nI (q / 13)) f (nI dv); omega) | (have q9 := (hR.1 q (Np q - 1) (by omega)).1; omega)) (dk kL_law_3_ok 32 rfl) (by decide) (fun h3 => ?_) (fun h3 => ?_)
      · skip
        refine lv_aload_n hx hb (dk kL_law_4_ok 32 rfl) rfl (lv_at hl 5 rfl) ?_
        refine lv_bipush (v := nI 12) hx hb (dk kL_law_4_ok 33 rfl) rfl ?_
        refine kw_count hC hKW hN76 hP (k := 12) (by decide) (lc0 _ (List.mem_of_getElem? (i := 14) rfl)) hl.1 (Nat.le_of_ble_eq_true rfl) hf0 (dk kL_law_4_ok 34 rfl) (r := z) rfl ?_
        refine lv_istore (lv' := [(8, .int z), (7, .int (nI 1)), (6, .int (nI dv)), (5, .int hv), (4, .int gv), (0, .ref sb), (1, .ref (ad 0)), (2, .ref (ad 77)), (3, .int (nI k))]) hx hb (dk kL_law_4_ok 35 rfl) hl (by decide) rfl (fun ls hl => ?_)
        refine lv_aload_n hx hb (dk kL_law_4_ok 36 rfl) rfl (lv_at hl 6 rfl) ?_
        refine lv_iconst (v := nI 1) hx hb (dk kL_law_4_ok 37 rfl) rfl ?_
        refine lv_iload hx hb (dk kL_law_4_ok 38 rfl) (lv_at hl 3 rfl) ?_
        refine lv_bipush (v := nI 6) hx hb (dk kL_law_4_ok 39 rfl) rfl ?_
        refine csP (As := [.int hv, .int (nI 6)]) (rest := [.int (nI 1), .ref (ad 0)]) ⟨hC.1, hC.2.1, hC.2.2.1, hC.2.2.2.1, hC.2.2.2.2.1⟩ (tL_low l hv 6 (by decide) (by decide)) (cwSL 2 hC.2.2.2.2.1 mcL_low (lc1 _ (List.mem_of_getElem? (i := 5) rfl)) msL_low mini_RL rfl rfl hdL_low ⟨Nat.le_of_ble_eq_true rfl, Nat.le_of_ble_eq_true rfl⟩) rfl hl.1 rfl (Nat.le_of_ble_eq_true rfl) hf0 (dk kL_law_4_ok 40 rfl) ?_
        refine n_iadd hx hb (dk kL_law_4_ok 41 rfl) ?_
        refine kw_set hC hKW hN76 hP hDi hS (k := 1 + (lo9 hv % 6)) (by omega) (lc1 _ (List.mem_of_getElem? (i := 19) rfl)) hl.1 (Nat.le_of_ble_eq_true rfl) hf0 (dk kL_law_4_ok 42 rfl) (r := z) rfl (fun F_1 H locs hK_2 hfr_3 hP hS => ?_)
        have h77_4 : F_1 77 = .inl (cI, 4, .inl lo) := (hfr_3 77 (by decide)).trans h77
        refine lv_iload hx hb (dk kL_law_4_ok 43 rfl) (lv_at hl 0 rfl) ?_
        refine lv_icmp_ne (tgt := 555) hx hb (dk kL_law_4_ok 44 rfl) (by decide) (fun h4 => ?_) (fun h4 => ?_)
        · exact absurd rfl h4
        · skip
          refine lv_aload_n hx hb (dk kL_law_4_ok 45 rfl) rfl (lv_at hl 6 rfl) ?_
          refine lv_bipush (v := nI 12) hx hb (dk kL_law_4_ok 46 rfl) rfl ?_
          refine kw_count hC hK_2 hN76 hP (k := 12) (by decide) (lc0 _ (List.mem_of_getElem? (i := 14) rfl)) hl.1 (Nat.le_of_ble_eq_true rfl) hf0 (dk kL_law_4_ok 47 rfl) (r := (nI (1 + (lo9 hv % 6)))) rfl ?_
          refine lv_iconst (v := nI 1) hx hb (dk kL_law_4_ok 48 rfl) rfl ?_
          refine lv_iload hx hb (dk kL_law_4_ok 49 rfl) (lv_at hl 3 rfl) ?_
          refine lv_bipush (v := nI 6) hx hb (dk kL_law_4_ok 50 rfl) rfl ?_
          refine csP (As := [.int hv, .int (nI 6)]) (rest := [.int (nI 1), .int (nI (1 + (lo9 hv % 6)))]) ⟨hC.1, hC.2.1, hC.2.2.1, hC.2.2.2.1, hC.2.2.2.2.1⟩ (tL_low l hv 6 (by decide) (by decide)) (cwSL 2 hC.2.2.2.2.1 mcL_low (lc1 _ (List.mem_of_getElem? (i := 5) rfl)) msL_low mini_RL rfl rfl hdL_low ⟨Nat.le_of_ble_eq_true rfl, Nat.le_of_ble_eq_true rfl⟩) rfl hl.1 rfl (Nat.le_of_ble_eq_true rfl) hf0 (dk kL_law_4_ok 51 rfl) ?_
          refine n_iadd hx hb (dk kL_law_4_ok 52 rfl) ?_
          refine lv_icmp_ne (tgt := 555) hx hb (dk kL_law_4_ok 53 rfl) (by decide) (fun h5 => ?_) (fun h5 => ?_)
          · exact absurd rfl h5
          · skip
            refine lv_iconst (v := nI 1) hx hb (dk kL_law_4_ok 54 rfl) rfl ?_
            refine lv_goto (tgt := 556) hx hb (dk kL_law_4_ok 55 rfl) (by decide) ?_
            refine lv_istore (lv' := [(7, .int (nI 1)), (8, .int z), (6, .int (nI dv)), (5, .int hv), (4, .int gv), (0, .ref sb), (1, .ref (ad 0)), (2, .ref (ad 77)), (3, .int (nI k))]) hx hb (dk kL_law_4_ok 57 rfl) hl (by decide) rfl (fun ls hl => ?_)
            refine W.widen (k := cells + 1) (n := slots + 6) (by omega) (by omega) ?_
            exact kend _ _ _ ls ⟨_, _, _, _, _, _, _, _, _, _, _, hK_2, ⟨_, _, hR, hRl⟩, ht, h77_4, (fun _ => hjl hov)⟩ hP hS (lv_sub hl [0, 5, 6, 7, 8] rfl)
      · skip
        refine lv_iload hx hb (dk kL_law_3_ok 33 rfl) (lv_at hl 3 rfl) ?_
        refine lv_bipush (v := nI 6) hx hb (dk kL_law_3_ok 34 rfl) rfl ?_
        refine lv_ishr hx hb (dk kL_law_3_ok 35 rfl) ?_
        refine lv_bipush (v := nI 16) hx hb (dk kL_law_3_ok 36 rfl) rfl ?_
        refine csP (As := [.int (gv >>> ((nI 6) &&& 31)), .int (nI 16)]) (rest := []) ⟨hC.1, hC.2.1, hC.2.2.1, hC.2.2.2.1, hC.2.2.2.2.1⟩ (tL_low l (gv >>> ((nI 6) &&& 31)) 16 (by decide) (by decide)) (cwSL 2 hC.2.2.2.2.1 mcL_low (lc1 _ (List.mem_of_getElem? (i := 5) rfl)) msL_low mini_RL rfl rfl hdL_low ⟨Nat.le_of_ble_eq_true rfl, Nat.le_of_ble_eq_true rfl⟩) rfl hl.1 rfl (Nat.le_of_ble_eq_true rfl) hf0 (dk kL_law_3_ok 37 rfl) ?_
        obtain ⟨w, hw, hwb⟩ : ∃ w, lo9 (gv >>> ((nI 6) &&& 31)) % 16 = w ∧ w < 16 := ⟨_, rfl, by omega⟩
        rw [hw]
        refine lv_istore (lv' := [(8, .int (nI w)), (7, .int (nI 1)), (6, .int (nI dv)), (5, .int hv), (4, .int gv), (0, .ref sb), (1, .ref (ad 0)), (2, .ref (ad 77)), (3, .int (nI k))]) hx hb (dk kL_law_3_ok 38 rfl) hl (by decide) rfl (fun ls hl => ?_)
        refine lv_bipush (v := nI 13) hx hb (dk kL_law_3_ok 39 rfl) rfl ?_
        refine lv_iconst (v := nI 3) hx hb (dk kL_law_3_ok 40 rfl) rfl ?_
        refine lv_iload hx hb (dk kL_law_3_ok 41 rfl) (lv_at hl 3 rfl) ?_
        refine lv_iconst (v := nI 4) hx hb (dk kL_law_3_ok 42 rfl) rfl ?_
        refine lv_ishr hx hb (dk kL_law_3_ok 43 rfl) ?_
        refine lv_bipush (v := nI 7) hx hb (dk kL_law_3_ok 44 rfl) rfl ?_
        refine csP (As := [.int (hv >>> ((nI 4) &&& 31)), .int (nI 7)]) (rest := [.int (nI 3), .int (nI 13)]) ⟨hC.1, hC.2.1, hC.2.2.1, hC.2.2.2.1, hC.2.2.2.2.1⟩ (tL_low l (hv >>> ((nI 4) &&& 31)) 7 (by decide) (by decide)) (cwSL 2 hC.2.2.2.2.1 mcL_low (lc1 _ (List.mem_of_getElem? (i := 5) rfl)) msL_low mini_RL rfl rfl hdL_low ⟨Nat.le_of_ble_eq_true rfl, Nat.le_of_ble_eq_true rfl⟩) rfl hl.1 rfl (Nat.le_of_ble_eq_true rfl) hf0 (dk kL_law_3_ok 45 rfl) ?_
        refine n_iadd hx hb (dk kL_law_3_ok 46 rfl) ?_
        refine n_imul hx hb (dk kL_law_3_ok 47 rfl) ?_
        refine lv_iconst (v := nI 3) hx hb (dk kL_law_3_ok 48 rfl) rfl ?_
        refine n_iadd hx hb (dk kL_law_3_ok 49 rfl) ?_
        refine lv_iload hx hb (dk kL_law_3_ok 50 rfl) (lv_at hl 3 rfl) ?_
        refine lv_bipush (v := nI 8) hx hb (dk kL_law_3_ok 51 rfl) rfl ?_
        refine lv_ishr hx hb (dk kL_law_3_ok 52 rfl) ?_
        refine lv_bipush (v := nI 7) hx hb (dk kL_law_3_ok 53 rfl) rfl ?_
        refine csP (As := [.int (hv >>> ((nI 8) &&& 31)), .int (nI 7)]) (rest := [.int (nI ((13 * (3 + (lo9 (hv >>> ((nI 4) &&& 31)) % 7))) + 3))]) ⟨hC.1, hC.2.1, hC.2.2.1, hC.2.2.2.1, hC.2.2.2.2.1⟩ (tL_low l (hv >>> ((nI 8) &&& 31)) 7 (by decide) (by decide)) (cwSL 2 hC.2.2.2.2.1 mcL_low (lc1 _ (List.mem_of_getElem? (i := 5) rfl)) msL_low mini_RL rfl rfl hdL_low ⟨Nat.le_of_ble_eq_true rfl, Nat.le_of_ble_eq_true rfl⟩) rfl hl.1 rfl (Nat.le_of_ble_eq_true rfl) hf0 (dk kL_law_3_ok 54 rfl) ?_
        refine n_iadd hx hb (dk kL_law_3_ok 55 rfl) ?_
        obtain ⟨q, hq, hqb⟩ : ∃ q, ((13 * (3 + (lo9 (hv >>> ((nI 4) &&& 31)) % 7))) + 3) + (lo9 (hv >>> ((nI 8) &&& 31)) % 7) = q ∧ q < 169 := ⟨_, rfl, by omega⟩
        rw [hq]
        refine lv_istore (lv' := [(9, .int (nI q)), (8, .int (nI w)), (7, .int (nI 1)), (6, .int (nI dv)), (5, .int hv), (4, .int gv), (0, .ref sb), (1, .ref (ad 0)), (2, .ref (ad 77)), (3, .int (nI k))]) hx hb (dk kL_law_3_ok 56 rfl) hl (by decide) rfl (fun ls hl => ?_)
        refine lv_aload_n hx hb (dk kL_law_3_ok 57 rfl) rfl (lv_at hl 7 rfl) ?_
        refine lv_iload hx hb (dk kL_law_3_ok 58 rfl) (lv_at hl 1 rfl) ?_
        refine lv_iconst (v := nI 4) hx hb (dk kL_law_3_ok 59 rfl) rfl ?_
        refine kw_wink hC hKW hN76 hP ht (w := w) (k := 4) (by omega) (by decide) (lc0 _ (List.mem_of_getElem? (i := 3) rfl)) hl.1 (Nat.le_of_ble_eq_true rfl) hf0 (dk kL_law_4_ok 0 rfl) (r := bI (cov v w)) rfl ?_
        refine lv_iconst (v := nI 1) hx hb (dk kL_law_4_ok 1 rfl) rfl ?_
        refine lv_icmp_eq (tgt := 497) hx hb (dk kL_law_4_ok 2 rfl) (by decide) (fun h6 => ?_) (fun h6 => ?_)
        · skip
          refine lv_iconst (v := nI 1) hx hb (dk kL_law_4_ok 27 rfl) rfl ?_
          refine lv_goto (tgt := 502) hx hb (dk kL_law_4_ok 28 rfl) (by decide) ?_
          refine lv_istore (lv' := [(7, .int (nI 1)), (9, .int (nI q)), (8, .int (nI w)), (6, .int (nI dv)), (5, .int hv), (4, .int gv), (0, .ref sb), (1, .ref (ad 0)), (2, .ref (ad 77)), (3, .int (nI k))]) hx hb (dk kL_law_4_ok 30 rfl) hl (by decide) rfl (fun ls hl => ?_)
          refine lv_goto (tgt := 558) hx hb (dk kL_law_4_ok 31 rfl) (by decide) ?_
          refine W.widen (k := cells + 1) (n := slots + 6) (by omega) (by omega) ?_
          exact kend _ _ _ ls ⟨_, _, _, _, _, _, _, _, _, _, _, hKW, ⟨_, _, hR, hRl⟩, ht, h77, hjl⟩ hP hS (lv_sub hl [0, 6, 7, 8, 9] rfl)
        · skip
          have hcv9 : cov v w = false := bool_ff (fun e9 => h6 (bI_t e9))
          refine lv_aload_n hx hb (dk kL_law_4_ok 3 rfl) rfl (lv_at hl 7 rfl) ?_
          refine lv_iload hx hb (dk kL_law_4_ok 4 rfl) (lv_at hl 1 rfl) ?_
          refine lv_iload hx hb (dk kL_law_4_ok 5 rfl) (lv_at hl 0 rfl) ?_
          refine lv_bipush (v := nI 13) hx hb (dk kL_law_4_ok 6 rfl) rfl ?_
          refine n_irem hx hb (by first | omega | (have q9 := hR.le (q := q) (by omega); omega) | (have q9 := wnl_le c b v t z (nI (q % 13)) (nI (q / 13)) f (nI dv); omega) | (have q9 := (hR.1 q (Np q - 1) (by omega)).1; omega)) (by decide) (by decide) (dk kL_law_4_ok 7 rfl) ?_
          refine lv_iload hx hb (dk kL_law_4_ok 8 rfl) (lv_at hl 0 rfl) ?_
          refine lv_bipush (v := nI 13) hx hb (dk kL_law_4_ok 9 rfl) rfl ?_
          refine n_idiv hx hb (by first | omega | (have q9 := hR.le (q := q) (by omega); omega) | (have q9 := wnl_le c b v t z (nI (q % 13)) (nI (q / 13)) f (nI dv); omega) | (have q9 := (hR.1 q (Np q - 1) (by omega)).1; omega)) (by decide) (by decide) (dk kL_law_4_ok 10 rfl) ?_
          refine kw_put hC hKW hN76 hP hDi hS (w := w) (by omega) (q := q) (by omega) hov hcv9 (lc1 _ (List.mem_of_getElem? (i := 18) rfl)) hl.1 (Nat.le_of_ble_eq_true rfl) hf0 (dk kL_law_4_ok 11 rfl) (r := nI (hgt (mov1 c b v w (nI q)) (nI q))) (by rw [cat_q]) (fun F_5 H locs hK_6 hfr_7 hP hS => ?_)
          have h77_8 : F_5 77 = .inl (cI, 4, .inl lo) := (hfr_7 77 (by decide)).trans h77
          rw [cat_q] at hK_6
          have hh9 := hgt_le (mov1 c b v w (nI q)) (nI q)
          refine lv_aload_n hx hb (dk kL_law_4_ok 12 rfl) rfl (lv_at hl 7 rfl) ?_
          refine lv_iload hx hb (dk kL_law_4_ok 13 rfl) (lv_at hl 0 rfl) ?_
          refine csR (As := [.ref (ad 0), .int (nI q)]) (r := .int (nI (hgt (mov1 c b v w (nI q)) (nI q)))) (rest := [.int (nI (hgt (mov1 c b v w (nI q)) (nI q)))]) ⟨hC.1, hC.2.1, hC.2.2.1, hC.2.2.2.1, hC.2.2.2.2.1⟩ (tL_many l D cI cQ cL ad 78 F_5 hN76 hK_6 (q := q) (by omega)) (cwSL 2 hC.2.2.2.2.1 mcL_many (lc0 _ (List.mem_of_getElem? (i := 6) rfl)) msL_many mini_RL rfl rfl hdL_many ⟨Nat.le_of_ble_eq_true rfl, Nat.le_of_ble_eq_true rfl⟩) hC.2.2.2.2.2.1 hP hC.2.2.2.2.2.2.1 rfl hl.1 rfl (Nat.le_of_ble_eq_true rfl) hf0 (dk kL_law_4_ok 14 rfl) ?_
          refine n_icmp_ne (tgt := 501) hx hb (by first | omega | (have q9 := hR.le (q := q) (by omega); omega) | (have q9 := wnl_le c b v t z (nI (q % 13)) (nI (q / 13)) f (nI dv); omega) | (have q9 := (hR.1 q (Np q - 1) (by omega)).1; omega)) (by first | omega | (have q9 := hR.le (q := q) (by omega); omega) | (have q9 := wnl_le c b v t z (nI (q % 13)) (nI (q / 13)) f (nI dv); omega) | (have q9 := (hR.1 q (Np q - 1) (by omega)).1; omega)) (dk kL_law_4_ok 15 rfl) (by decide) (fun h7 => ?_) (fun h7 => ?_)
          · exact absurd rfl h7
          · skip
            refine lv_aload_n hx hb (dk kL_law_4_ok 16 rfl) rfl (lv_at hl 7 rfl) ?_
            refine lv_iload hx hb (dk kL_law_4_ok 17 rfl) (lv_at hl 1 rfl) ?_
            refine lv_iconst (v := nI 2) hx hb (dk kL_law_4_ok 18 rfl) rfl ?_
            refine kw_wink hC hK_6 hN76 hP ht (w := w) (k := 2) (by omega) (by decide) (lc0 _ (List.mem_of_getElem? (i := 3) rfl)) hl.1 (Nat.le_of_ble_eq_true rfl) hf0 (dk kL_law_4_ok 19 rfl) (r := (mov1 c b v w (nI q)) w) rfl ?_
            refine lv_iload hx hb (dk kL_law_4_ok 20 rfl) (lv_at hl 0 rfl) ?_
            refine lv_bipush (v := nI 84) hx hb (dk kL_law_4_ok 21 rfl) rfl ?_
            refine n_icmp_ne (tgt := 492) hx hb (by first | omega | (have q9 := hR.le (q := q) (by omega); omega) | (have q9 := wnl_le c b v t z (nI (q % 13)) (nI (q / 13)) f (nI dv); omega) | (have q9 := (hR.1 q (Np q - 1) (by omega)).1; omega)) (by decide) (dk kL_law_4_ok 22 rfl) (by decide) (fun h8 => ?_) (fun h8 => ?_)
            · skip
              refine lv_iload hx hb (dk kL_law_4_ok 25 rfl) (lv_at hl 0 rfl) ?_
              refine lv_icmp_ne (tgt := 501) hx hb (dk kL_law_4_ok 26 rfl) (by decide) (fun h9 => ?_) (fun h9 => ?_)
              · exact absurd (fly_on ⟨_, _, hR, hRl⟩ (by omega) hcv9 (by omega) h8).2.1 h9
              · skip
                have hPQ9 : PQ (mov1 c b v w (nI q)) (mov2 c b v w (nI q)) (mov3 c b v w (nI q)) := (fly_on ⟨_, _, hR, hRl⟩ (by omega) hcv9 (by omega) h8).1
                refine lv_iconst (v := nI 1) hx hb (dk kL_law_4_ok 27 rfl) rfl ?_
                refine lv_goto (tgt := 502) hx hb (dk kL_law_4_ok 28 rfl) (by decide) ?_
                refine lv_istore (lv' := [(7, .int (nI 1)), (9, .int (nI q)), (8, .int (nI w)), (6, .int (nI dv)), (5, .int hv), (4, .int gv), (0, .ref sb), (1, .ref (ad 0)), (2, .ref (ad 77)), (3, .int (nI k))]) hx hb (dk kL_law_4_ok 30 rfl) hl (by decide) rfl (fun ls hl => ?_)
                refine lv_goto (tgt := 558) hx hb (dk kL_law_4_ok 31 rfl) (by decide) ?_
                refine W.widen (k := cells + 1) (n := slots + 6) (by omega) (by omega) ?_
                exact kend _ _ _ ls ⟨_, _, _, _, _, _, _, _, _, _, _, hK_6, hPQ9, ht, h77_8, (fun _ => hjl hov)⟩ hP hS (lv_sub hl [0, 6, 7, 8, 9] rfl)
            · skip
              refine lv_iconst (v := -1) hx hb (dk kL_law_4_ok 23 rfl) rfl ?_
              refine lv_goto (tgt := 494) hx hb (dk kL_law_4_ok 24 rfl) (by decide) ?_
              refine lv_icmp_ne (tgt := 501) hx hb (dk kL_law_4_ok 26 rfl) (by decide) (fun h10 => ?_) (fun h10 => ?_)
              · exact absurd (by rw [h8]; exact (fly_cup ⟨_, _, hR, hRl⟩ (by omega) hcv9).2) h10
              · skip
                have hPQ9 : PQ (mov1 c b v w (nI q)) (mov2 c b v w (nI q)) (mov3 c b v w (nI q)) := by rw [h8]; exact (fly_cup ⟨_, _, hR, hRl⟩ (by omega) hcv9).1
                refine lv_iconst (v := nI 1) hx hb (dk kL_law_4_ok 27 rfl) rfl ?_
                refine lv_goto (tgt := 502) hx hb (dk kL_law_4_ok 28 rfl) (by decide) ?_
                refine lv_istore (lv' := [(7, .int (nI 1)), (9, .int (nI q)), (8, .int (nI w)), (6, .int (nI dv)), (5, .int hv), (4, .int gv), (0, .ref sb), (1, .ref (ad 0)), (2, .ref (ad 77)), (3, .int (nI k))]) hx hb (dk kL_law_4_ok 30 rfl) hl (by decide) rfl (fun ls hl => ?_)
                refine lv_goto (tgt := 558) hx hb (dk kL_law_4_ok 31 rfl) (by decide) ?_
                refine W.widen (k := cells + 1) (n := slots + 6) (by omega) (by omega) ?_
                exact kend _ _ _ ls ⟨_, _, _, _, _, _, _, _, _, _, _, hK_6, hPQ9, ht, h77_8, (fun _ => hjl hov)⟩ hP hS (lv_sub hl [0, 6, 7, 8, 9] rfl)
    · skip
      refine lv_iload hx hb (dk kL_law_1_ok 42 rfl) (lv_at hl 3 rfl) ?_
      refine lv_iconst (v := nI 4) hx hb (dk kL_law_1_ok 43 rfl) rfl ?_
      refine lv_ishr hx hb (dk kL_law_1_ok 44 rfl) ?_
      refine lv_bipush (v := nI 16) hx hb (dk kL_law_1_ok 45 rfl) rfl ?_
      refine csP (As := [.int (gv >>> ((nI 4) &&& 31)), .int (nI 16)]) (rest := []) ⟨hC.1, hC.2.1, hC.2.2.1, hC.2.2.2.1, hC.2.2.2.2.1⟩ (tL_low l (gv >>> ((nI 4) &&& 31)) 16 (by decide) (by decide)) (cwSL 2 hC.2.2.2.2.1 mcL_low (lc1 _ (List.mem_of_getElem? (i := 5) rfl)) msL_low mini_RL rfl rfl hdL_low ⟨Nat.le_of_ble_eq_true rfl, Nat.le_of_ble_eq_true rfl⟩) rfl hl.1 rfl (Nat.le_of_ble_eq_true rfl) hf0 (dk kL_law_1_ok 46 rfl) ?_
      obtain ⟨w, hw, hwb⟩ : ∃ w, lo9 (gv >>> ((nI 4) &&& 31)) % 16 = w ∧ w < 16 := ⟨_, rfl, by omega⟩
      rw [hw]
      refine lv_istore (lv' := [(8, .int (nI w)), (7, .int (nI 1)), (6, .int (nI dv)), (5, .int hv), (4, .int gv), (0, .ref sb), (1, .ref (ad 0)), (2, .ref (ad 77)), (3, .int (nI k))]) hx hb (dk kL_law_1_ok 47 rfl) hl (by decide) rfl (fun ls hl => ?_)
      refine lv_aload_n hx hb (dk kL_law_1_ok 48 rfl) rfl (lv_at hl 6 rfl) ?_
      refine lv_iload hx hb (dk kL_law_1_ok 49 rfl) (lv_at hl 0 rfl) ?_
      refine lv_iconst (v := nI 2) hx hb (dk kL_law_1_ok 50 rfl) rfl ?_
      refine kw_wink hC hKW hN76 hP ht (w := w) (k := 2) (by omega) (by decide) (lc0 _ (List.mem_of_getElem? (i := 3) rfl)) hl.1 (Nat.le_of_ble_eq_true rfl) hf0 (dk kL_law_1_ok 51 rfl) (r := c w) rfl ?_
      refine lv_iconst (v := -1) hx hb (dk kL_law_1_ok 52 rfl) rfl ?_
      refine lv_icmp_ne (tgt := 219) hx hb (dk kL_law_1_ok 53 rfl) (by decide) (fun h11 => ?_) (fun h11 => ?_)
      · skip
        refine lv_aload_n hx hb (dk kL_law_2_ok 0 rfl) rfl (lv_at hl 6 rfl) ?_
        refine lv_iload hx hb (dk kL_law_2_ok 1 rfl) (lv_at hl 0 rfl) ?_
        refine lv_iconst (v := nI 2) hx hb (dk kL_law_2_ok 2 rfl) rfl ?_
        refine kw_wink hC hKW hN76 hP ht (w := w) (k := 2) (by omega) (by decide) (lc0 _ (List.mem_of_getElem? (i := 3) rfl)) hl.1 (Nat.le_of_ble_eq_true rfl) hf0 (dk kL_law_2_ok 3 rfl) (r := c w) rfl ?_
        obtain ⟨q, a9, ha9, hWq⟩ := (hR.2.2 w (by omega)).resolve_left h11
        have hqb := (hR.1 q a9 ha9).2.1
        have hcq : c w = nI q := by rw [← hWq]; exact (hR.1 q a9 ha9).2.2.2
        refine W.eq (g2 := F0 m 226 ls [.int (nI q)]) (congrArg (fun q9 => F0 m 226 ls (.int q9 :: [])) hcq) ?_
        refine lv_istore (lv' := [(9, .int (nI q)), (8, .int (nI w)), (7, .int (nI 1)), (6, .int (nI dv)), (5, .int hv), (4, .int gv), (0, .ref sb), (1, .ref (ad 0)), (2, .ref (ad 77)), (3, .int (nI k))]) hx hb (dk kL_law_2_ok 4 rfl) hl (by decide) rfl (fun ls hl => ?_)
        refine lv_iconst (v := nI 1) hx hb (dk kL_law_2_ok 5 rfl) rfl ?_
        refine lv_iload hx hb (dk kL_law_2_ok 6 rfl) (lv_at hl 4 rfl) ?_
        refine lv_iconst (v := nI 4) hx hb (dk kL_law_2_ok 7 rfl) rfl ?_
        refine lv_ishr hx hb (dk kL_law_2_ok 8 rfl) ?_
        refine lv_iconst (v := nI 3) hx hb (dk kL_law_2_ok 9 rfl) rfl ?_
        refine csP (As := [.int (hv >>> ((nI 4) &&& 31)), .int (nI 3)]) (rest := [.int (nI 1)]) ⟨hC.1, hC.2.1, hC.2.2.1, hC.2.2.2.1, hC.2.2.2.2.1⟩ (tL_low l (hv >>> ((nI 4) &&& 31)) 3 (by decide) (by decide)) (cwSL 2 hC.2.2.2.2.1 mcL_low (lc1 _ (List.mem_of_getElem? (i := 5) rfl)) msL_low mini_RL rfl rfl hdL_low ⟨Nat.le_of_ble_eq_true rfl, Nat.le_of_ble_eq_true rfl⟩) rfl hl.1 rfl (Nat.le_of_ble_eq_true rfl) hf0 (dk kL_law_2_ok 10 rfl) ?_
        refine n_iadd hx hb (dk kL_law_2_ok 11 rfl) ?_
        obtain ⟨f, hf, hfb⟩ : ∃ f, 1 + (lo9 (hv >>> ((nI 4) &&& 31)) % 3) = f ∧ 1 ≤ f ∧ f ≤ 3 := ⟨_, rfl, by omega⟩
        rw [hf]
        refine lv_istore (lv' := [(10, .int (nI f)), (9, .int (nI q)), (8, .int (nI w)), (7, .int (nI 1)), (6, .int (nI dv)), (5, .int hv), (4, .int gv), (0, .ref sb), (1, .ref (ad 0)), (2, .ref (ad 77)), (3, .int (nI k))]) hx hb (dk kL_law_2_ok 12 rfl) hl (by decide) rfl (fun ls hl => ?_)
        refine lv_iload hx hb (dk kL_law_2_ok 13 rfl) (lv_at hl 1 rfl) ?_
        refine lv_iload hx hb (dk kL_law_2_ok 14 rfl) (lv_at hl 4 rfl) ?_
        refine csP (As := [.int (nI q), .int (nI dv)]) (rest := []) ⟨hC.1, hC.2.1, hC.2.2.1, hC.2.2.2.1, hC.2.2.2.2.1⟩ (tL_beside l q dv (by omega) (by omega)) (cwSL 2 hC.2.2.2.2.1 mcL_beside (lc1 _ (List.mem_of_getElem? (i := 11) rfl)) msL_beside mini_RL rfl rfl hdL_beside ⟨Nat.le_of_ble_eq_true rfl, Nat.le_of_ble_eq_true rfl⟩) rfl hl.1 rfl (Nat.le_of_ble_eq_true rfl) hf0 (dk kL_law_2_ok 15 rfl) ?_
        refine lv_istore (lv' := [(11, .int (rbs q dv)), (10, .int (nI f)), (9, .int (nI q)), (8, .int (nI w)), (7, .int (nI 1)), (6, .int (nI dv)), (5, .int hv), (4, .int gv), (0, .ref sb), (1, .ref (ad 0)), (2, .ref (ad 77)), (3, .int (nI k))]) hx hb (dk kL_law_2_ok 16 rfl) hl (by decide) rfl (fun ls hl => ?_)
        refine lv_aload_n hx hb (dk kL_law_2_ok 17 rfl) rfl (lv_at hl 9 rfl) ?_
        refine lv_iload hx hb (dk kL_law_2_ok 18 rfl) (lv_at hl 2 rfl) ?_
        refine lv_bipush (v := nI 13) hx hb (dk kL_law_2_ok 19 rfl) rfl ?_
        refine n_irem hx hb (by first | omega | (have q9 := hR.le (q := q) (by omega); omega) | (have q9 := wnl_le c b v t z (nI (q % 13)) (nI (q / 13)) f (nI dv); omega) | (have q9 := (hR.1 q (Np q - 1) (by omega)).1; omega)) (by decide) (by decide) (dk kL_law_2_ok 20 rfl) ?_
        refine lv_iload hx hb (dk kL_law_2_ok 21 rfl) (lv_at hl 2 rfl) ?_
        refine lv_bipush (v := nI 13) hx hb (dk kL_law_2_ok 22 rfl) rfl ?_
        refine n_idiv hx hb (by first | omega | (have q9 := hR.le (q := q) (by omega); omega) | (have q9 := wnl_le c b v t z (nI (q % 13)) (nI (q / 13)) f (nI dv); omega) | (have q9 := (hR.1 q (Np q - 1) (by omega)).1; omega)) (by decide) (by decide) (dk kL_law_2_ok 23 rfl) ?_
        refine lv_iload hx hb (dk kL_law_2_ok 24 rfl) (lv_at hl 1 rfl) ?_
        refine lv_iload hx hb (dk kL_law_2_ok 25 rfl) (lv_at hl 5 rfl) ?_
        refine kw_why hC hKW hN76 hP (q := q) (by omega) (d := dv) (f := f) (by omega) (by omega) (lc1 _ (List.mem_of_getElem? (i := 14) rfl)) hl.1 (Nat.le_of_ble_eq_true rfl) hf0 (dk kL_law_2_ok 26 rfl) (r := nI (wnl c b v t z (nI (q % 13)) (nI (q / 13)) f (nI dv))) rfl ?_
        refine lv_istore (lv' := [(12, .int (nI (wnl c b v t z (nI (q % 13)) (nI (q / 13)) f (nI dv)))), (11, .int (rbs q dv)), (10, .int (nI f)), (9, .int (nI q)), (8, .int (nI w)), (7, .int (nI 1)), (6, .int (nI dv)), (5, .int hv), (4, .int gv), (0, .ref sb), (1, .ref (ad 0)), (2, .ref (ad 77)), (3, .int (nI k))]) hx hb (dk kL_law_2_ok 27 rfl) hl (by decide) rfl (fun ls hl => ?_)
        refine lv_aload_n hx hb (dk kL_law_2_ok 28 rfl) rfl (lv_at hl 10 rfl) ?_
        refine lv_iload hx hb (dk kL_law_2_ok 29 rfl) (lv_at hl 3 rfl) ?_
        refine csR (As := [.ref (ad 0), .int (nI q)]) (r := .int (nI (Np q))) (rest := []) ⟨hC.1, hC.2.1, hC.2.2.1, hC.2.2.2.1, hC.2.2.2.2.1⟩ (tL_manyN l D cI cQ cL ad 78 F hN76 hKW (q := q) (n := Np q) (by omega) (hR.hgtN (by omega))) (cwSL 2 hC.2.2.2.2.1 mcL_many (lc0 _ (List.mem_of_getElem? (i := 6) rfl)) msL_many mini_RL rfl rfl hdL_many ⟨Nat.le_of_ble_eq_true rfl, Nat.le_of_ble_eq_true rfl⟩) hC.2.2.2.2.2.1 hP hC.2.2.2.2.2.2.1 rfl hl.1 rfl (Nat.le_of_ble_eq_true rfl) hf0 (dk kL_law_2_ok 30 rfl) ?_
        refine lv_istore (lv' := [(13, .int (nI (Np q))), (12, .int (nI (wnl c b v t z (nI (q % 13)) (nI (q / 13)) f (nI dv)))), (11, .int (rbs q dv)), (10, .int (nI f)), (9, .int (nI q)), (8, .int (nI w)), (7, .int (nI 1)), (6, .int (nI dv)), (5, .int hv), (4, .int gv), (0, .ref sb), (1, .ref (ad 0)), (2, .ref (ad 77)), (3, .int (nI k))]) hx hb (dk kL_law_2_ok 31 rfl) hl (by decide) rfl (fun ls hl => ?_)
        refine lv_iload hx hb (dk kL_law_2_ok 32 rfl) (lv_at hl 0 rfl) ?_
        refine lv_iload hx hb (dk kL_law_2_ok 33 rfl) (lv_at hl 3 rfl) ?_
        refine n_icmp_ge (tgt := 288) hx hb (by first | omega | (have q9 := hR.le (q := q) (by omega); omega) | (have q9 := wnl_le c b v t z (nI (q % 13)) (nI (q / 13)) f (nI dv); omega) | (have q9 := (hR.1 q (Np q - 1) (by omega)).1; omega)) (by first | omega | (have q9 := hR.le (q := q) (by omega); omega) | (have q9 := wnl_le c b v t z (nI (q % 13)) (nI (q / 13)) f (nI dv); omega) | (have q9 := (hR.1 q (Np q - 1) (by omega)).1; omega)) (dk kL_law_2_ok 34 rfl) (by decide) (fun h12 => ?_) (fun h12 => ?_)
        · skip
          refine lv_aload_n hx hb (dk kL_law_2_ok 37 rfl) rfl (lv_at hl 11 rfl) ?_
          refine lv_aload_n hx hb (dk kL_law_2_ok 38 rfl) rfl (lv_at hl 11 rfl) ?_
          refine lv_iload hx hb (dk kL_law_2_ok 39 rfl) (lv_at hl 4 rfl) ?_
          refine lv_bipush (v := nI 13) hx hb (dk kL_law_2_ok 40 rfl) rfl ?_
          refine n_irem hx hb (by first | omega | (have q9 := hR.le (q := q) (by omega); omega) | (have q9 := wnl_le c b v t z (nI (q % 13)) (nI (q / 13)) f (nI dv); omega) | (have q9 := (hR.1 q (Np q - 1) (by omega)).1; omega)) (by decide) (by decide) (dk kL_law_2_ok 41 rfl) ?_
          refine lv_iload hx hb (dk kL_law_2_ok 42 rfl) (lv_at hl 4 rfl) ?_
          refine lv_bipush (v := nI 13) hx hb (dk kL_law_2_ok 43 rfl) rfl ?_
          refine n_idiv hx hb (by first | omega | (have q9 := hR.le (q := q) (by omega); omega) | (have q9 := wnl_le c b v t z (nI (q % 13)) (nI (q / 13)) f (nI dv); omega) | (have q9 := (hR.1 q (Np q - 1) (by omega)).1; omega)) (by decide) (by decide) (dk kL_law_2_ok 44 rfl) ?_
          refine lv_iconst (v := nI 1) hx hb (dk kL_law_2_ok 45 rfl) rfl ?_
          refine kw_pile hC hKW hN76 hP (q := q) (by omega) (k := 1) (by decide) (lc0 _ (List.mem_of_getElem? (i := 2) rfl)) hl.1 (Nat.le_of_ble_eq_true rfl) hf0 (dk kL_law_2_ok 46 rfl) (r := nI (Wp q (Np q - 1))) (by rw [cat_q]; show top c v (nI q) = _; rw [hRl.topv hR (by omega), if_neg (by omega)]) ?_
          refine lv_iconst (v := nI 0) hx hb (dk kL_law_2_ok 47 rfl) rfl ?_
          refine kw_wink hC hKW hN76 hP ht (w := Wp q (Np q - 1)) (k := 0) (hR.1 q _ (by omega)).1 (by decide) (lc0 _ (List.mem_of_getElem? (i := 3) rfl)) hl.1 (Nat.le_of_ble_eq_true rfl) hf0 (dk kL_law_2_ok 48 rfl) (r := nI ((Wp q (Np q - 1)) / 4)) rfl ?_
          refine lv_aload_n hx hb (dk kL_law_2_ok 49 rfl) rfl (lv_at hl 11 rfl) ?_
          refine lv_iconst (v := nI 0) hx hb (dk kL_law_2_ok 50 rfl) rfl ?_
          refine kw_count hC hKW hN76 hP (k := 0) (by decide) (lc0 _ (List.mem_of_getElem? (i := 14) rfl)) hl.1 (Nat.le_of_ble_eq_true rfl) hf0 (dk kL_law_2_ok 51 rfl) (r := nI t) (show (if over c = true then -1 else nI t) = nI t from if_neg (by rw [hov]; decide)) ?_
          refine n_icmp_eq (tgt := 320) hx hb (by first | omega | (have q9 := hR.le (q := q) (by omega); omega) | (have q9 := wnl_le c b v t z (nI (q % 13)) (nI (q / 13)) f (nI dv); omega) | (have q9 := (hR.1 q (Np q - 1) (by omega)).1; omega)) (by first | omega | (have q9 := hR.le (q := q) (by omega); omega) | (have q9 := wnl_le c b v t z (nI (q % 13)) (nI (q / 13)) f (nI dv); omega) | (have q9 := (hR.1 q (Np q - 1) (by omega)).1; omega)) (dk kL_law_2_ok 52 rfl) (by decide) (fun h13 => ?_) (fun h13 => ?_)
          · skip
            refine lv_iload hx hb (dk kL_law_2_ok 55 rfl) (lv_at hl 3 rfl) ?_
            refine lv_aload_n hx hb (dk kL_law_2_ok 56 rfl) rfl (lv_at hl 11 rfl) ?_
            refine lv_bipush (v := nI 12) hx hb (dk kL_law_2_ok 57 rfl) rfl ?_
            refine kw_count hC hKW hN76 hP (k := 12) (by decide) (lc0 _ (List.mem_of_getElem? (i := 14) rfl)) hl.1 (Nat.le_of_ble_eq_true rfl) hf0 (dk kL_law_2_ok 58 rfl) (r := z) rfl ?_
            refine lv_icmp_le (tgt := 335) hx hb (dk kL_law_2_ok 59 rfl) (by decide) (fun h14 => ?_) (fun h14 => ?_)
            · skip
              refine lv_iload hx hb (dk kL_law_3_ok 2 rfl) (lv_at hl 2 rfl) ?_
              refine lv_iconst (v := -1) hx hb (dk kL_law_3_ok 3 rfl) rfl ?_
              refine lv_icmp_ne (tgt := 345) hx hb (dk kL_law_3_ok 4 rfl) (by decide) (fun h15 => ?_) (fun h15 => ?_)
              · skip
                refine lv_iconst (v := nI 0) hx hb (dk kL_law_3_ok 7 rfl) rfl ?_
                refine lv_istore (lv' := [(14, .int (nI 0)), (13, .int (nI (Np q))), (12, .int (nI (wnl c b v t z (nI (q % 13)) (nI (q / 13)) f (nI dv)))), (11, .int (rbs q dv)), (10, .int (nI f)), (9, .int (nI q)), (8, .int (nI w)), (7, .int (nI 1)), (6, .int (nI dv)), (5, .int hv), (4, .int gv), (0, .ref sb), (1, .ref (ad 0)), (2, .ref (ad 77)), (3, .int (nI k))]) hx hb (dk kL_law_3_ok 8 rfl) hl (by decide) rfl (fun ls hl => ?_)
                have hdue : wnl c b v t z (nI (q % 13)) (nI (q / 13)) f (nI dv) = 0 := (wnl_due hov hR hRl (by omega) (by omega) (by omega)).trans ((if_neg (by omega)).trans ((if_neg (fun e9 => e9 h13)).trans ((if_neg (fun e9 => e9 h14)).trans (if_neg h15))))
                refine lv_iload hx hb (dk kL_law_3_ok 9 rfl) (lv_at hl 2 rfl) ?_
                refine lv_iload hx hb (dk kL_law_3_ok 10 rfl) (lv_at hl 0 rfl) ?_
                refine n_icmp_ne (tgt := 380) hx hb (by first | omega | (have q9 := hR.le (q := q) (by omega); omega) | (have q9 := wnl_le c b v t z (nI (q % 13)) (nI (q / 13)) f (nI dv); omega) | (have q9 := (hR.1 q (Np q - 1) (by omega)).1; omega)) (by decide) (dk kL_law_3_ok 11 rfl) (by decide) (fun h16 => ?_) (fun h16 => ?_)
                · exact absurd hdue h16
                · skip
                  refine lv_iload hx hb (dk kL_law_3_ok 12 rfl) (lv_at hl 2 rfl) ?_
                  refine n_if_ne (tgt := 376) hx hb (by first | omega | (have q9 := hR.le (q := q) (by omega); omega) | (have q9 := wnl_le c b v t z (nI (q % 13)) (nI (q / 13)) f (nI dv); omega) | (have q9 := (hR.1 q (Np q - 1) (by omega)).1; omega)) (dk kL_law_3_ok 13 rfl) (by decide) (fun h17 => ?_) (fun h17 => ?_)
                  · exact absurd hdue h17
                  · skip
                    obtain ⟨q1, hq1b, hq1n, hq1e⟩ : ∃ q1, q1 < 169 ∧ q1 ≠ q ∧ rbs q dv = nI q1 := by
                      rcases rbs_all q (by omega) dv (by omega) with e9 | ⟨e1, e2, e3⟩
                      · exact absurd e9 h15
                      · exact ⟨_, e1, e2, e3⟩
                    rw [hq1e] at hl
                    refine lv_aload_n hx hb (dk kL_law_3_ok 14 rfl) rfl (lv_at hl 12 rfl) ?_
                    refine lv_aload_n hx hb (dk kL_law_3_ok 15 rfl) rfl (lv_at hl 13 rfl) ?_
                    refine lv_iload hx hb (dk kL_law_3_ok 16 rfl) (lv_at hl 5 rfl) ?_
                    refine lv_iload hx hb (dk kL_law_3_ok 17 rfl) (lv_at hl 4 rfl) ?_
                    refine lv_iload hx hb (dk kL_law_3_ok 18 rfl) (lv_at hl 8 rfl) ?_
                    refine lv_iload hx hb (dk kL_law_3_ok 19 rfl) (lv_at hl 3 rfl) ?_
                    refine csW (As := [.ref (ad 0), .ref (ad 77), .int (nI q), .int (nI f), .int (nI dv), .int (nI q1)]) (rest := []) ⟨hC.1, hC.2.1, hC.2.2.1, hC.2.2.2.1, hC.2.2.2.2.1⟩ (tL_lifts l D cI cQ cL ad F hKW hR hRl ht h77 hov (hjl hov).1 (hjl hov).2 (q0 := q) (q1 := q1) (f := f) (d := dv) (by omega) hq1b hq1n (by omega) (by omega) (by omega) hq1e hdue) (cwSL 6 hC.2.2.2.2.1 mcL_lifts (lc1 _ (List.mem_of_getElem? (i := 15) rfl)) msL_lifts mini_RL rfl rfl hdL_lifts ⟨Nat.le_of_ble_eq_true rfl, Nat.le_of_ble_eq_true rfl⟩) hDi hC.2.2.2.2.2.1 hP hC.2.2.2.2.2.2.1 hS rfl hl.1 rfl (Nat.le_of_ble_eq_true rfl) hf1 (dk kL_law_3_ok 20 rfl) (fun v9 F9 H locs hp hP hS => ?_)
                    obtain ⟨rfl, hLI9⟩ := hp
                    refine W.eq (g2 := F0 m 373 ls [.int (nI 1)]) rfl ?_
                    refine n_if_eq (tgt := 380) hx hb (by decide) (dk kL_law_3_ok 21 rfl) (by decide) (fun h9 => absurd h9 (by decide)) ?_
                    intro _
                    refine lv_iconst (v := nI 1) hx hb (dk kL_law_3_ok 22 rfl) rfl ?_
                    refine lv_goto (tgt := 381) hx hb (dk kL_law_3_ok 23 rfl) (by decide) ?_
                    refine lv_istore (lv' := [(7, .int (nI 1)), (14, .int (nI 0)), (13, .int (nI (Np q))), (12, .int (nI (wnl c b v t z (nI (q % 13)) (nI (q / 13)) f (nI dv)))), (11, .int (nI q1)), (10, .int (nI f)), (9, .int (nI q)), (8, .int (nI w)), (6, .int (nI dv)), (5, .int hv), (4, .int gv), (0, .ref sb), (1, .ref (ad 0)), (2, .ref (ad 77)), (3, .int (nI k))]) hx hb (dk kL_law_3_ok 25 rfl) hl (by decide) rfl (fun ls hl => ?_)
                    refine lv_goto (tgt := 558) hx hb (dk kL_law_3_ok 26 rfl) (by decide) ?_
                    refine W.widen (k := cells + 1) (n := slots + 6) (by omega) (by omega) ?_
                    exact kend _ _ _ ls hLI9 hP hS (lv_sub hl [0, 11, 12, 13, 14] rfl)
              · skip
                refine lv_iconst (v := nI 5) hx hb (dk kL_law_3_ok 5 rfl) rfl ?_
                refine lv_goto (tgt := 346) hx hb (dk kL_law_3_ok 6 rfl) (by decide) ?_
                refine lv_istore (lv' := [(14, .int (nI 5)), (13, .int (nI (Np q))), (12, .int (nI (wnl c b v t z (nI (q % 13)) (nI (q / 13)) f (nI dv)))), (11, .int (rbs q dv)), (10, .int (nI f)), (9, .int (nI q)), (8, .int (nI w)), (7, .int (nI 1)), (6, .int (nI dv)), (5, .int hv), (4, .int gv), (0, .ref sb), (1, .ref (ad 0)), (2, .ref (ad 77)), (3, .int (nI k))]) hx hb (dk kL_law_3_ok 8 rfl) hl (by decide) rfl (fun ls hl => ?_)
                have hdue : wnl c b v t z (nI (q % 13)) (nI (q / 13)) f (nI dv) = 5 := (wnl_due hov hR hRl (by omega) (by omega) (by omega)).trans ((if_neg (by omega)).trans ((if_neg (fun e9 => e9 h13)).trans ((if_neg (fun e9 => e9 h14)).trans (if_pos h15))))
                refine lv_iload hx hb (dk kL_law_3_ok 9 rfl) (lv_at hl 2 rfl) ?_
                refine lv_iload hx hb (dk kL_law_3_ok 10 rfl) (lv_at hl 0 rfl) ?_
                refine n_icmp_ne (tgt := 380) hx hb (by first | omega | (have q9 := hR.le (q := q) (by omega); omega) | (have q9 := wnl_le c b v t z (nI (q % 13)) (nI (q / 13)) f (nI dv); omega) | (have q9 := (hR.1 q (Np q - 1) (by omega)).1; omega)) (by decide) (dk kL_law_3_ok 11 rfl) (by decide) (fun h18 => ?_) (fun h18 => ?_)
                · exact absurd hdue h18
                · skip
                  refine lv_iload hx hb (dk kL_law_3_ok 12 rfl) (lv_at hl 2 rfl) ?_
                  refine n_if_ne (tgt := 376) hx hb (by first | omega | (have q9 := hR.le (q := q) (by omega); omega) | (have q9 := wnl_le c b v t z (nI (q % 13)) (nI (q / 13)) f (nI dv); omega) | (have q9 := (hR.1 q (Np q - 1) (by omega)).1; omega)) (dk kL_law_3_ok 13 rfl) (by decide) (fun h19 => ?_) (fun h19 => ?_)
                  · skip
                    refine lv_iconst (v := nI 1) hx hb (dk kL_law_3_ok 22 rfl) rfl ?_
                    refine lv_goto (tgt := 381) hx hb (dk kL_law_3_ok 23 rfl) (by decide) ?_
                    refine lv_istore (lv' := [(7, .int (nI 1)), (14, .int (nI 5)), (13, .int (nI (Np q))), (12, .int (nI (wnl c b v t z (nI (q % 13)) (nI (q / 13)) f (nI dv)))), (11, .int (rbs q dv)), (10, .int (nI f)), (9, .int (nI q)), (8, .int (nI w)), (6, .int (nI dv)), (5, .int hv), (4, .int gv), (0, .ref sb), (1, .ref (ad 0)), (2, .ref (ad 77)), (3, .int (nI k))]) hx hb (dk kL_law_3_ok 25 rfl) hl (by decide) rfl (fun ls hl => ?_)
                    refine lv_goto (tgt := 558) hx hb (dk kL_law_3_ok 26 rfl) (by decide) ?_
                    refine W.widen (k := cells + 1) (n := slots + 6) (by omega) (by omega) ?_
                    exact kend _ _ _ ls ⟨_, _, _, _, _, _, _, _, _, _, _, hKW, ⟨_, _, hR, hRl⟩, ht, h77, hjl⟩ hP hS (lv_sub hl [0, 11, 12, 13, 14] rfl)
                  · exact absurd (hdue.symm.trans h19) (by decide)
            · skip
              refine lv_iconst (v := nI 4) hx hb (dk kL_law_3_ok 0 rfl) rfl ?_
              refine lv_goto (tgt := 346) hx hb (dk kL_law_3_ok 1 rfl) (by decide) ?_
              refine lv_istore (lv' := [(14, .int (nI 4)), (13, .int (nI (Np q))), (12, .int (nI (wnl c b v t z (nI (q % 13)) (nI (q / 13)) f (nI dv)))), (11, .int (rbs q dv)), (10, .int (nI f)), (9, .int (nI q)), (8, .int (nI w)), (7, .int (nI 1)), (6, .int (nI dv)), (5, .int hv), (4, .int gv), (0, .ref sb), (1, .ref (ad 0)), (2, .ref (ad 77)), (3, .int (nI k))]) hx hb (dk kL_law_3_ok 8 rfl) hl (by decide) rfl (fun ls hl => ?_)
              have hdue : wnl c b v t z (nI (q % 13)) (nI (q / 13)) f (nI dv) = 4 := (wnl_due hov hR hRl (by omega) (by omega) (by omega)).trans ((if_neg (by omega)).trans ((if_neg (fun e9 => e9 h13)).trans (if_pos h14)))
              refine lv_iload hx hb (dk kL_law_3_ok 9 rfl) (lv_at hl 2 rfl) ?_
              refine lv_iload hx hb (dk kL_law_3_ok 10 rfl) (lv_at hl 0 rfl) ?_
              refine n_icmp_ne (tgt := 380) hx hb (by first | omega | (have q9 := hR.le (q := q) (by omega); omega) | (have q9 := wnl_le c b v t z (nI (q % 13)) (nI (q / 13)) f (nI dv); omega) | (have q9 := (hR.1 q (Np q - 1) (by omega)).1; omega)) (by decide) (dk kL_law_3_ok 11 rfl) (by decide) (fun h20 => ?_) (fun h20 => ?_)
              · exact absurd hdue h20
              · skip
                refine lv_iload hx hb (dk kL_law_3_ok 12 rfl) (lv_at hl 2 rfl) ?_
                refine n_if_ne (tgt := 376) hx hb (by first | omega | (have q9 := hR.le (q := q) (by omega); omega) | (have q9 := wnl_le c b v t z (nI (q % 13)) (nI (q / 13)) f (nI dv); omega) | (have q9 := (hR.1 q (Np q - 1) (by omega)).1; omega)) (dk kL_law_3_ok 13 rfl) (by decide) (fun h21 => ?_) (fun h21 => ?_)
                · skip
                  refine lv_iconst (v := nI 1) hx hb (dk kL_law_3_ok 22 rfl) rfl ?_
                  refine lv_goto (tgt := 381) hx hb (dk kL_law_3_ok 23 rfl) (by decide) ?_
                  refine lv_istore (lv' := [(7, .int (nI 1)), (14, .int (nI 4)), (13, .int (nI (Np q))), (12, .int (nI (wnl c b v t z (nI (q % 13)) (nI (q / 13)) f (nI dv)))), (11, .int (rbs q dv)), (10, .int (nI f)), (9, .int (nI q)), (8, .int (nI w)), (6, .int (nI dv)), (5, .int hv), (4, .int gv), (0, .ref sb), (1, .ref (ad 0)), (2, .ref (ad 77)), (3, .int (nI k))]) hx hb (dk kL_law_3_ok 25 rfl) hl (by decide) rfl (fun ls hl => ?_)
                  refine lv_goto (tgt := 558) hx hb (dk kL_law_3_ok 26 rfl) (by decide) ?_
                  refine W.widen (k := cells + 1) (n := slots + 6) (by omega) (by omega) ?_
                  exact kend _ _ _ ls ⟨_, _, _, _, _, _, _, _, _, _, _, hKW, ⟨_, _, hR, hRl⟩, ht, h77, hjl⟩ hP hS (lv_sub hl [0, 11, 12, 13, 14] rfl)
                · exact absurd (hdue.symm.trans h21) (by decide)
          · skip
            refine lv_iconst (v := nI 3) hx hb (dk kL_law_2_ok 53 rfl) rfl ?_
            refine lv_goto (tgt := 346) hx hb (dk kL_law_2_ok 54 rfl) (by decide) ?_
            refine lv_istore (lv' := [(14, .int (nI 3)), (13, .int (nI (Np q))), (12, .int (nI (wnl c b v t z (nI (q % 13)) (nI (q / 13)) f (nI dv)))), (11, .int (rbs q dv)), (10, .int (nI f)), (9, .int (nI q)), (8, .int (nI w)), (7, .int (nI 1)), (6, .int (nI dv)), (5, .int hv), (4, .int gv), (0, .ref sb), (1, .ref (ad 0)), (2, .ref (ad 77)), (3, .int (nI k))]) hx hb (dk kL_law_3_ok 8 rfl) hl (by decide) rfl (fun ls hl => ?_)
            have hdue : wnl c b v t z (nI (q % 13)) (nI (q / 13)) f (nI dv) = 3 := (wnl_due hov hR hRl (by omega) (by omega) (by omega)).trans ((if_neg (by omega)).trans (if_pos h13))
            refine lv_iload hx hb (dk kL_law_3_ok 9 rfl) (lv_at hl 2 rfl) ?_
            refine lv_iload hx hb (dk kL_law_3_ok 10 rfl) (lv_at hl 0 rfl) ?_
            refine n_icmp_ne (tgt := 380) hx hb (by first | omega | (have q9 := hR.le (q := q) (by omega); omega) | (have q9 := wnl_le c b v t z (nI (q % 13)) (nI (q / 13)) f (nI dv); omega) | (have q9 := (hR.1 q (Np q - 1) (by omega)).1; omega)) (by decide) (dk kL_law_3_ok 11 rfl) (by decide) (fun h22 => ?_) (fun h22 => ?_)
            · exact absurd hdue h22
            · skip
              refine lv_iload hx hb (dk kL_law_3_ok 12 rfl) (lv_at hl 2 rfl) ?_
              refine n_if_ne (tgt := 376) hx hb (by first | omega | (have q9 := hR.le (q := q) (by omega); omega) | (have q9 := wnl_le c b v t z (nI (q % 13)) (nI (q / 13)) f (nI dv); omega) | (have q9 := (hR.1 q (Np q - 1) (by omega)).1; omega)) (dk kL_law_3_ok 13 rfl) (by decide) (fun h23 => ?_) (fun h23 => ?_)
              · skip
                refine lv_iconst (v := nI 1) hx hb (dk kL_law_3_ok 22 rfl) rfl ?_
                refine lv_goto (tgt := 381) hx hb (dk kL_law_3_ok 23 rfl) (by decide) ?_
                refine lv_istore (lv' := [(7, .int (nI 1)), (14, .int (nI 3)), (13, .int (nI (Np q))), (12, .int (nI (wnl c b v t z (nI (q % 13)) (nI (q / 13)) f (nI dv)))), (11, .int (rbs q dv)), (10, .int (nI f)), (9, .int (nI q)), (8, .int (nI w)), (6, .int (nI dv)), (5, .int hv), (4, .int gv), (0, .ref sb), (1, .ref (ad 0)), (2, .ref (ad 77)), (3, .int (nI k))]) hx hb (dk kL_law_3_ok 25 rfl) hl (by decide) rfl (fun ls hl => ?_)
                refine lv_goto (tgt := 558) hx hb (dk kL_law_3_ok 26 rfl) (by decide) ?_
                refine W.widen (k := cells + 1) (n := slots + 6) (by omega) (by omega) ?_
                exact kend _ _ _ ls ⟨_, _, _, _, _, _, _, _, _, _, _, hKW, ⟨_, _, hR, hRl⟩, ht, h77, hjl⟩ hP hS (lv_sub hl [0, 11, 12, 13, 14] rfl)
              · exact absurd (hdue.symm.trans h23) (by decide)
        · skip
          refine lv_iconst (v := nI 2) hx hb (dk kL_law_2_ok 35 rfl) rfl ?_
          refine lv_goto (tgt := 346) hx hb (dk kL_law_2_ok 36 rfl) (by decide) ?_
          refine lv_istore (lv' := [(14, .int (nI 2)), (13, .int (nI (Np q))), (12, .int (nI (wnl c b v t z (nI (q % 13)) (nI (q / 13)) f (nI dv)))), (11, .int (rbs q dv)), (10, .int (nI f)), (9, .int (nI q)), (8, .int (nI w)), (7, .int (nI 1)), (6, .int (nI dv)), (5, .int hv), (4, .int gv), (0, .ref sb), (1, .ref (ad 0)), (2, .ref (ad 77)), (3, .int (nI k))]) hx hb (dk kL_law_3_ok 8 rfl) hl (by decide) rfl (fun ls hl => ?_)
          have hdue : wnl c b v t z (nI (q % 13)) (nI (q / 13)) f (nI dv) = 2 := (wnl_due hov hR hRl (by omega) (by omega) (by omega)).trans (if_pos (by omega))
          refine lv_iload hx hb (dk kL_law_3_ok 9 rfl) (lv_at hl 2 rfl) ?_
          refine lv_iload hx hb (dk kL_law_3_ok 10 rfl) (lv_at hl 0 rfl) ?_
          refine n_icmp_ne (tgt := 380) hx hb (by first | omega | (have q9 := hR.le (q := q) (by omega); omega) | (have q9 := wnl_le c b v t z (nI (q % 13)) (nI (q / 13)) f (nI dv); omega) | (have q9 := (hR.1 q (Np q - 1) (by omega)).1; omega)) (by decide) (dk kL_law_3_ok 11 rfl) (by decide) (fun h24 => ?_) (fun h24 => ?_)
          · exact absurd hdue h24
          · skip
            refine lv_iload hx hb (dk kL_law_3_ok 12 rfl) (lv_at hl 2 rfl) ?_
            refine n_if_ne (tgt := 376) hx hb (by first | omega | (have q9 := hR.le (q := q) (by omega); omega) | (have q9 := wnl_le c b v t z (nI (q % 13)) (nI (q / 13)) f (nI dv); omega) | (have q9 := (hR.1 q (Np q - 1) (by omega)).1; omega)) (dk kL_law_3_ok 13 rfl) (by decide) (fun h25 => ?_) (fun h25 => ?_)
            · skip
              refine lv_iconst (v := nI 1) hx hb (dk kL_law_3_ok 22 rfl) rfl ?_
              refine lv_goto (tgt := 381) hx hb (dk kL_law_3_ok 23 rfl) (by decide) ?_
              refine lv_istore (lv' := [(7, .int (nI 1)), (14, .int (nI 2)), (13, .int (nI (Np q))), (12, .int (nI (wnl c b v t z (nI (q % 13)) (nI (q / 13)) f (nI dv)))), (11, .int (rbs q dv)), (10, .int (nI f)), (9, .int (nI q)), (8, .int (nI w)), (6, .int (nI dv)), (5, .int hv), (4, .int gv), (0, .ref sb), (1, .ref (ad 0)), (2, .ref (ad 77)), (3, .int (nI k))]) hx hb (dk kL_law_3_ok 25 rfl) hl (by decide) rfl (fun ls hl => ?_)
              refine lv_goto (tgt := 558) hx hb (dk kL_law_3_ok 26 rfl) (by decide) ?_
              refine W.widen (k := cells + 1) (n := slots + 6) (by omega) (by omega) ?_
              exact kend _ _ _ ls ⟨_, _, _, _, _, _, _, _, _, _, _, hKW, ⟨_, _, hR, hRl⟩, ht, h77, hjl⟩ hP hS (lv_sub hl [0, 11, 12, 13, 14] rfl)
            · exact absurd (hdue.symm.trans h25) (by decide)
      · skip
        refine lv_iload hx hb (dk kL_law_1_ok 54 rfl) (lv_at hl 4 rfl) ?_
        refine lv_bipush (v := nI 9) hx hb (dk kL_law_1_ok 55 rfl) rfl ?_
        refine lv_ishr hx hb (dk kL_law_1_ok 56 rfl) ?_
        refine lv_sipush (v := nI 169) hx hb (dk kL_law_1_ok 57 rfl) rfl ?_
        refine csP (As := [.int (gv >>> ((nI 9) &&& 31)), .int (nI 169)]) (rest := []) ⟨hC.1, hC.2.1, hC.2.2.1, hC.2.2.2.1, hC.2.2.2.2.1⟩ (tL_low l (gv >>> ((nI 9) &&& 31)) 169 (by decide) (by decide)) (cwSL 2 hC.2.2.2.2.1 mcL_low (lc1 _ (List.mem_of_getElem? (i := 5) rfl)) msL_low mini_RL rfl rfl hdL_low ⟨Nat.le_of_ble_eq_true rfl, Nat.le_of_ble_eq_true rfl⟩) rfl hl.1 rfl (Nat.le_of_ble_eq_true rfl) hf0 (dk kL_law_1_ok 58 rfl) ?_
        refine lv_goto (tgt := 226) hx hb (dk kL_law_1_ok 59 rfl) (by decide) ?_
        obtain ⟨q, hq, hqb⟩ : ∃ q, lo9 (gv >>> ((nI 9) &&& 31)) % 169 = q ∧ q < 169 := ⟨_, rfl, by omega⟩
        rw [hq]
        refine lv_istore (lv' := [(9, .int (nI q)), (8, .int (nI w)), (7, .int (nI 1)), (6, .int (nI dv)), (5, .int hv), (4, .int gv), (0, .ref sb), (1, .ref (ad 0)), (2, .ref (ad 77)), (3, .int (nI k))]) hx hb (dk kL_law_2_ok 4 rfl) hl (by decide) rfl (fun ls hl => ?_)
        refine lv_iconst (v := nI 1) hx hb (dk kL_law_2_ok 5 rfl) rfl ?_
        refine lv_iload hx hb (dk kL_law_2_ok 6 rfl) (lv_at hl 4 rfl) ?_
        refine lv_iconst (v := nI 4) hx hb (dk kL_law_2_ok 7 rfl) rfl ?_
        refine lv_ishr hx hb (dk kL_law_2_ok 8 rfl) ?_
        refine lv_iconst (v := nI 3) hx hb (dk kL_law_2_ok 9 rfl) rfl ?_
        refine csP (As := [.int (hv >>> ((nI 4) &&& 31)), .int (nI 3)]) (rest := [.int (nI 1)]) ⟨hC.1, hC.2.1, hC.2.2.1, hC.2.2.2.1, hC.2.2.2.2.1⟩ (tL_low l (hv >>> ((nI 4) &&& 31)) 3 (by decide) (by decide)) (cwSL 2 hC.2.2.2.2.1 mcL_low (lc1 _ (List.mem_of_getElem? (i := 5) rfl)) msL_low mini_RL rfl rfl hdL_low ⟨Nat.le_of_ble_eq_true rfl, Nat.le_of_ble_eq_true rfl⟩) rfl hl.1 rfl (Nat.le_of_ble_eq_true rfl) hf0 (dk kL_law_2_ok 10 rfl) ?_
        refine n_iadd hx hb (dk kL_law_2_ok 11 rfl) ?_
        obtain ⟨f, hf, hfb⟩ : ∃ f, 1 + (lo9 (hv >>> ((nI 4) &&& 31)) % 3) = f ∧ 1 ≤ f ∧ f ≤ 3 := ⟨_, rfl, by omega⟩
        rw [hf]
        refine lv_istore (lv' := [(10, .int (nI f)), (9, .int (nI q)), (8, .int (nI w)), (7, .int (nI 1)), (6, .int (nI dv)), (5, .int hv), (4, .int gv), (0, .ref sb), (1, .ref (ad 0)), (2, .ref (ad 77)), (3, .int (nI k))]) hx hb (dk kL_law_2_ok 12 rfl) hl (by decide) rfl (fun ls hl => ?_)
        refine lv_iload hx hb (dk kL_law_2_ok 13 rfl) (lv_at hl 1 rfl) ?_
        refine lv_iload hx hb (dk kL_law_2_ok 14 rfl) (lv_at hl 4 rfl) ?_
        refine csP (As := [.int (nI q), .int (nI dv)]) (rest := []) ⟨hC.1, hC.2.1, hC.2.2.1, hC.2.2.2.1, hC.2.2.2.2.1⟩ (tL_beside l q dv (by omega) (by omega)) (cwSL 2 hC.2.2.2.2.1 mcL_beside (lc1 _ (List.mem_of_getElem? (i := 11) rfl)) msL_beside mini_RL rfl rfl hdL_beside ⟨Nat.le_of_ble_eq_true rfl, Nat.le_of_ble_eq_true rfl⟩) rfl hl.1 rfl (Nat.le_of_ble_eq_true rfl) hf0 (dk kL_law_2_ok 15 rfl) ?_
        refine lv_istore (lv' := [(11, .int (rbs q dv)), (10, .int (nI f)), (9, .int (nI q)), (8, .int (nI w)), (7, .int (nI 1)), (6, .int (nI dv)), (5, .int hv), (4, .int gv), (0, .ref sb), (1, .ref (ad 0)), (2, .ref (ad 77)), (3, .int (nI k))]) hx hb (dk kL_law_2_ok 16 rfl) hl (by decide) rfl (fun ls hl => ?_)
        refine lv_aload_n hx hb (dk kL_law_2_ok 17 rfl) rfl (lv_at hl 9 rfl) ?_
        refine lv_iload hx hb (dk kL_law_2_ok 18 rfl) (lv_at hl 2 rfl) ?_
        refine lv_bipush (v := nI 13) hx hb (dk kL_law_2_ok 19 rfl) rfl ?_
        refine n_irem hx hb (by first | omega | (have q9 := hR.le (q := q) (by omega); omega) | (have q9 := wnl_le c b v t z (nI (q % 13)) (nI (q / 13)) f (nI dv); omega) | (have q9 := (hR.1 q (Np q - 1) (by omega)).1; omega)) (by decide) (by decide) (dk kL_law_2_ok 20 rfl) ?_
        refine lv_iload hx hb (dk kL_law_2_ok 21 rfl) (lv_at hl 2 rfl) ?_
        refine lv_bipush (v := nI 13) hx hb (dk kL_law_2_ok 22 rfl) rfl ?_
        refine n_idiv hx hb (by first | omega | (have q9 := hR.le (q := q) (by omega); omega) | (have q9 := wnl_le c b v t z (nI (q % 13)) (nI (q / 13)) f (nI dv); omega) | (have q9 := (hR.1 q (Np q - 1) (by omega)).1; omega)) (by decide) (by decide) (dk kL_law_2_ok 23 rfl) ?_
        refine lv_iload hx hb (dk kL_law_2_ok 24 rfl) (lv_at hl 1 rfl) ?_
        refine lv_iload hx hb (dk kL_law_2_ok 25 rfl) (lv_at hl 5 rfl) ?_
        refine kw_why hC hKW hN76 hP (q := q) (by omega) (d := dv) (f := f) (by omega) (by omega) (lc1 _ (List.mem_of_getElem? (i := 14) rfl)) hl.1 (Nat.le_of_ble_eq_true rfl) hf0 (dk kL_law_2_ok 26 rfl) (r := nI (wnl c b v t z (nI (q % 13)) (nI (q / 13)) f (nI dv))) rfl ?_
        refine lv_istore (lv' := [(12, .int (nI (wnl c b v t z (nI (q % 13)) (nI (q / 13)) f (nI dv)))), (11, .int (rbs q dv)), (10, .int (nI f)), (9, .int (nI q)), (8, .int (nI w)), (7, .int (nI 1)), (6, .int (nI dv)), (5, .int hv), (4, .int gv), (0, .ref sb), (1, .ref (ad 0)), (2, .ref (ad 77)), (3, .int (nI k))]) hx hb (dk kL_law_2_ok 27 rfl) hl (by decide) rfl (fun ls hl => ?_)
        refine lv_aload_n hx hb (dk kL_law_2_ok 28 rfl) rfl (lv_at hl 10 rfl) ?_
        refine lv_iload hx hb (dk kL_law_2_ok 29 rfl) (lv_at hl 3 rfl) ?_
        refine csR (As := [.ref (ad 0), .int (nI q)]) (r := .int (nI (Np q))) (rest := []) ⟨hC.1, hC.2.1, hC.2.2.1, hC.2.2.2.1, hC.2.2.2.2.1⟩ (tL_manyN l D cI cQ cL ad 78 F hN76 hKW (q := q) (n := Np q) (by omega) (hR.hgtN (by omega))) (cwSL 2 hC.2.2.2.2.1 mcL_many (lc0 _ (List.mem_of_getElem? (i := 6) rfl)) msL_many mini_RL rfl rfl hdL_many ⟨Nat.le_of_ble_eq_true rfl, Nat.le_of_ble_eq_true rfl⟩) hC.2.2.2.2.2.1 hP hC.2.2.2.2.2.2.1 rfl hl.1 rfl (Nat.le_of_ble_eq_true rfl) hf0 (dk kL_law_2_ok 30 rfl) ?_
        refine lv_istore (lv' := [(13, .int (nI (Np q))), (12, .int (nI (wnl c b v t z (nI (q % 13)) (nI (q / 13)) f (nI dv)))), (11, .int (rbs q dv)), (10, .int (nI f)), (9, .int (nI q)), (8, .int (nI w)), (7, .int (nI 1)), (6, .int (nI dv)), (5, .int hv), (4, .int gv), (0, .ref sb), (1, .ref (ad 0)), (2, .ref (ad 77)), (3, .int (nI k))]) hx hb (dk kL_law_2_ok 31 rfl) hl (by decide) rfl (fun ls hl => ?_)
        refine lv_iload hx hb (dk kL_law_2_ok 32 rfl) (lv_at hl 0 rfl) ?_
        refine lv_iload hx hb (dk kL_law_2_ok 33 rfl) (lv_at hl 3 rfl) ?_
        refine n_icmp_ge (tgt := 288) hx hb (by first | omega | (have q9 := hR.le (q := q) (by omega); omega) | (have q9 := wnl_le c b v t z (nI (q % 13)) (nI (q / 13)) f (nI dv); omega) | (have q9 := (hR.1 q (Np q - 1) (by omega)).1; omega)) (by first | omega | (have q9 := hR.le (q := q) (by omega); omega) | (have q9 := wnl_le c b v t z (nI (q % 13)) (nI (q / 13)) f (nI dv); omega) | (have q9 := (hR.1 q (Np q - 1) (by omega)).1; omega)) (dk kL_law_2_ok 34 rfl) (by decide) (fun h26 => ?_) (fun h26 => ?_)
        · skip
          refine lv_aload_n hx hb (dk kL_law_2_ok 37 rfl) rfl (lv_at hl 11 rfl) ?_
          refine lv_aload_n hx hb (dk kL_law_2_ok 38 rfl) rfl (lv_at hl 11 rfl) ?_
          refine lv_iload hx hb (dk kL_law_2_ok 39 rfl) (lv_at hl 4 rfl) ?_
          refine lv_bipush (v := nI 13) hx hb (dk kL_law_2_ok 40 rfl) rfl ?_
          refine n_irem hx hb (by first | omega | (have q9 := hR.le (q := q) (by omega); omega) | (have q9 := wnl_le c b v t z (nI (q % 13)) (nI (q / 13)) f (nI dv); omega) | (have q9 := (hR.1 q (Np q - 1) (by omega)).1; omega)) (by decide) (by decide) (dk kL_law_2_ok 41 rfl) ?_
          refine lv_iload hx hb (dk kL_law_2_ok 42 rfl) (lv_at hl 4 rfl) ?_
          refine lv_bipush (v := nI 13) hx hb (dk kL_law_2_ok 43 rfl) rfl ?_
          refine n_idiv hx hb (by first | omega | (have q9 := hR.le (q := q) (by omega); omega) | (have q9 := wnl_le c b v t z (nI (q % 13)) (nI (q / 13)) f (nI dv); omega) | (have q9 := (hR.1 q (Np q - 1) (by omega)).1; omega)) (by decide) (by decide) (dk kL_law_2_ok 44 rfl) ?_
          refine lv_iconst (v := nI 1) hx hb (dk kL_law_2_ok 45 rfl) rfl ?_
          refine kw_pile hC hKW hN76 hP (q := q) (by omega) (k := 1) (by decide) (lc0 _ (List.mem_of_getElem? (i := 2) rfl)) hl.1 (Nat.le_of_ble_eq_true rfl) hf0 (dk kL_law_2_ok 46 rfl) (r := nI (Wp q (Np q - 1))) (by rw [cat_q]; show top c v (nI q) = _; rw [hRl.topv hR (by omega), if_neg (by omega)]) ?_
          refine lv_iconst (v := nI 0) hx hb (dk kL_law_2_ok 47 rfl) rfl ?_
          refine kw_wink hC hKW hN76 hP ht (w := Wp q (Np q - 1)) (k := 0) (hR.1 q _ (by omega)).1 (by decide) (lc0 _ (List.mem_of_getElem? (i := 3) rfl)) hl.1 (Nat.le_of_ble_eq_true rfl) hf0 (dk kL_law_2_ok 48 rfl) (r := nI ((Wp q (Np q - 1)) / 4)) rfl ?_
          refine lv_aload_n hx hb (dk kL_law_2_ok 49 rfl) rfl (lv_at hl 11 rfl) ?_
          refine lv_iconst (v := nI 0) hx hb (dk kL_law_2_ok 50 rfl) rfl ?_
          refine kw_count hC hKW hN76 hP (k := 0) (by decide) (lc0 _ (List.mem_of_getElem? (i := 14) rfl)) hl.1 (Nat.le_of_ble_eq_true rfl) hf0 (dk kL_law_2_ok 51 rfl) (r := nI t) (show (if over c = true then -1 else nI t) = nI t from if_neg (by rw [hov]; decide)) ?_
          refine n_icmp_eq (tgt := 320) hx hb (by first | omega | (have q9 := hR.le (q := q) (by omega); omega) | (have q9 := wnl_le c b v t z (nI (q % 13)) (nI (q / 13)) f (nI dv); omega) | (have q9 := (hR.1 q (Np q - 1) (by omega)).1; omega)) (by first | omega | (have q9 := hR.le (q := q) (by omega); omega) | (have q9 := wnl_le c b v t z (nI (q % 13)) (nI (q / 13)) f (nI dv); omega) | (have q9 := (hR.1 q (Np q - 1) (by omega)).1; omega)) (dk kL_law_2_ok 52 rfl) (by decide) (fun h27 => ?_) (fun h27 => ?_)
          · skip
            refine lv_iload hx hb (dk kL_law_2_ok 55 rfl) (lv_at hl 3 rfl) ?_
            refine lv_aload_n hx hb (dk kL_law_2_ok 56 rfl) rfl (lv_at hl 11 rfl) ?_
            refine lv_bipush (v := nI 12) hx hb (dk kL_law_2_ok 57 rfl) rfl ?_
            refine kw_count hC hKW hN76 hP (k := 12) (by decide) (lc0 _ (List.mem_of_getElem? (i := 14) rfl)) hl.1 (Nat.le_of_ble_eq_true rfl) hf0 (dk kL_law_2_ok 58 rfl) (r := z) rfl ?_
            refine lv_icmp_le (tgt := 335) hx hb (dk kL_law_2_ok 59 rfl) (by decide) (fun h28 => ?_) (fun h28 => ?_)
            · skip
              refine lv_iload hx hb (dk kL_law_3_ok 2 rfl) (lv_at hl 2 rfl) ?_
              refine lv_iconst (v := -1) hx hb (dk kL_law_3_ok 3 rfl) rfl ?_
              refine lv_icmp_ne (tgt := 345) hx hb (dk kL_law_3_ok 4 rfl) (by decide) (fun h29 => ?_) (fun h29 => ?_)
              · skip
                refine lv_iconst (v := nI 0) hx hb (dk kL_law_3_ok 7 rfl) rfl ?_
                refine lv_istore (lv' := [(14, .int (nI 0)), (13, .int (nI (Np q))), (12, .int (nI (wnl c b v t z (nI (q % 13)) (nI (q / 13)) f (nI dv)))), (11, .int (rbs q dv)), (10, .int (nI f)), (9, .int (nI q)), (8, .int (nI w)), (7, .int (nI 1)), (6, .int (nI dv)), (5, .int hv), (4, .int gv), (0, .ref sb), (1, .ref (ad 0)), (2, .ref (ad 77)), (3, .int (nI k))]) hx hb (dk kL_law_3_ok 8 rfl) hl (by decide) rfl (fun ls hl => ?_)
                have hdue : wnl c b v t z (nI (q % 13)) (nI (q / 13)) f (nI dv) = 0 := (wnl_due hov hR hRl (by omega) (by omega) (by omega)).trans ((if_neg (by omega)).trans ((if_neg (fun e9 => e9 h27)).trans ((if_neg (fun e9 => e9 h28)).trans (if_neg h29))))
                refine lv_iload hx hb (dk kL_law_3_ok 9 rfl) (lv_at hl 2 rfl) ?_
                refine lv_iload hx hb (dk kL_law_3_ok 10 rfl) (lv_at hl 0 rfl) ?_
                refine n_icmp_ne (tgt := 380) hx hb (by first | omega | (have q9 := hR.le (q := q) (by omega); omega) | (have q9 := wnl_le c b v t z (nI (q % 13)) (nI (q / 13)) f (nI dv); omega) | (have q9 := (hR.1 q (Np q - 1) (by omega)).1; omega)) (by decide) (dk kL_law_3_ok 11 rfl) (by decide) (fun h30 => ?_) (fun h30 => ?_)
                · exact absurd hdue h30
                · skip
                  refine lv_iload hx hb (dk kL_law_3_ok 12 rfl) (lv_at hl 2 rfl) ?_
                  refine n_if_ne (tgt := 376) hx hb (by first | omega | (have q9 := hR.le (q := q) (by omega); omega) | (have q9 := wnl_le c b v t z (nI (q % 13)) (nI (q / 13)) f (nI dv); omega) | (have q9 := (hR.1 q (Np q - 1) (by omega)).1; omega)) (dk kL_law_3_ok 13 rfl) (by decide) (fun h31 => ?_) (fun h31 => ?_)
                  · exact absurd hdue h31
                  · skip
                    obtain ⟨q1, hq1b, hq1n, hq1e⟩ : ∃ q1, q1 < 169 ∧ q1 ≠ q ∧ rbs q dv = nI q1 := by
                      rcases rbs_all q (by omega) dv (by omega) with e9 | ⟨e1, e2, e3⟩
                      · exact absurd e9 h29
                      · exact ⟨_, e1, e2, e3⟩
                    rw [hq1e] at hl
                    refine lv_aload_n hx hb (dk kL_law_3_ok 14 rfl) rfl (lv_at hl 12 rfl) ?_
                    refine lv_aload_n hx hb (dk kL_law_3_ok 15 rfl) rfl (lv_at hl 13 rfl) ?_
                    refine lv_iload hx hb (dk kL_law_3_ok 16 rfl) (lv_at hl 5 rfl) ?_
                    refine lv_iload hx hb (dk kL_law_3_ok 17 rfl) (lv_at hl 4 rfl) ?_
                    refine lv_iload hx hb (dk kL_law_3_ok 18 rfl) (lv_at hl 8 rfl) ?_
                    refine lv_iload hx hb (dk kL_law_3_ok 19 rfl) (lv_at hl 3 rfl) ?_
                    refine csW (As := [.ref (ad 0), .ref (ad 77), .int (nI q), .int (nI f), .int (nI dv), .int (nI q1)]) (rest := []) ⟨hC.1, hC.2.1, hC.2.2.1, hC.2.2.2.1, hC.2.2.2.2.1⟩ (tL_lifts l D cI cQ cL ad F hKW hR hRl ht h77 hov (hjl hov).1 (hjl hov).2 (q0 := q) (q1 := q1) (f := f) (d := dv) (by omega) hq1b hq1n (by omega) (by omega) (by omega) hq1e hdue) (cwSL 6 hC.2.2.2.2.1 mcL_lifts (lc1 _ (List.mem_of_getElem? (i := 15) rfl)) msL_lifts mini_RL rfl rfl hdL_lifts ⟨Nat.le_of_ble_eq_true rfl, Nat.le_of_ble_eq_true rfl⟩) hDi hC.2.2.2.2.2.1 hP hC.2.2.2.2.2.2.1 hS rfl hl.1 rfl (Nat.le_of_ble_eq_true rfl) hf1 (dk kL_law_3_ok 20 rfl) (fun v9 F9 H locs hp hP hS => ?_)
                    obtain ⟨rfl, hLI9⟩ := hp
                    refine W.eq (g2 := F0 m 373 ls [.int (nI 1)]) rfl ?_
                    refine n_if_eq (tgt := 380) hx hb (by decide) (dk kL_law_3_ok 21 rfl) (by decide) (fun h9 => absurd h9 (by decide)) ?_
                    intro _
                    refine lv_iconst (v := nI 1) hx hb (dk kL_law_3_ok 22 rfl) rfl ?_
                    refine lv_goto (tgt := 381) hx hb (dk kL_law_3_ok 23 rfl) (by decide) ?_
                    refine lv_istore (lv' := [(7, .int (nI 1)), (14, .int (nI 0)), (13, .int (nI (Np q))), (12, .int (nI (wnl c b v t z (nI (q % 13)) (nI (q / 13)) f (nI dv)))), (11, .int (nI q1)), (10, .int (nI f)), (9, .int (nI q)), (8, .int (nI w)), (6, .int (nI dv)), (5, .int hv), (4, .int gv), (0, .ref sb), (1, .ref (ad 0)), (2, .ref (ad 77)), (3, .int (nI k))]) hx hb (dk kL_law_3_ok 25 rfl) hl (by decide) rfl (fun ls hl => ?_)
                    refine lv_goto (tgt := 558) hx hb (dk kL_law_3_ok 26 rfl) (by decide) ?_
                    refine W.widen (k := cells + 1) (n := slots + 6) (by omega) (by omega) ?_
                    exact kend _ _ _ ls hLI9 hP hS (lv_sub hl [0, 11, 12, 13, 14] rfl)
              · skip
                refine lv_iconst (v := nI 5) hx hb (dk kL_law_3_ok 5 rfl) rfl ?_
                refine lv_goto (tgt := 346) hx hb (dk kL_law_3_ok 6 rfl) (by decide) ?_
                refine lv_istore (lv' := [(14, .int (nI 5)), (13, .int (nI (Np q))), (12, .int (nI (wnl c b v t z (nI (q % 13)) (nI (q / 13)) f (nI dv)))), (11, .int (rbs q dv)), (10, .int (nI f)), (9, .int (nI q)), (8, .int (nI w)), (7, .int (nI 1)), (6, .int (nI dv)), (5, .int hv), (4, .int gv), (0, .ref sb), (1, .ref (ad 0)), (2, .ref (ad 77)), (3, .int (nI k))]) hx hb (dk kL_law_3_ok 8 rfl) hl (by decide) rfl (fun ls hl => ?_)
                have hdue : wnl c b v t z (nI (q % 13)) (nI (q / 13)) f (nI dv) = 5 := (wnl_due hov hR hRl (by omega) (by omega) (by omega)).trans ((if_neg (by omega)).trans ((if_neg (fun e9 => e9 h27)).trans ((if_neg (fun e9 => e9 h28)).trans (if_pos h29))))
                refine lv_iload hx hb (dk kL_law_3_ok 9 rfl) (lv_at hl 2 rfl) ?_
                refine lv_iload hx hb (dk kL_law_3_ok 10 rfl) (lv_at hl 0 rfl) ?_
                refine n_icmp_ne (tgt := 380) hx hb (by first | omega | (have q9 := hR.le (q := q) (by omega); omega) | (have q9 := wnl_le c b v t z (nI (q % 13)) (nI (q / 13)) f (nI dv); omega) | (have q9 := (hR.1 q (Np q - 1) (by omega)).1; omega)) (by decide) (dk kL_law_3_ok 11 rfl) (by decide) (fun h32 => ?_) (fun h32 => ?_)
                · exact absurd hdue h32
                · skip
                  refine lv_iload hx hb (dk kL_law_3_ok 12 rfl) (lv_at hl 2 rfl) ?_
                  refine n_if_ne (tgt := 376) hx hb (by first | omega | (have q9 := hR.le (q := q) (by omega); omega) | (have q9 := wnl_le c b v t z (nI (q % 13)) (nI (q / 13)) f (nI dv); omega) | (have q9 := (hR.1 q (Np q - 1) (by omega)).1; omega)) (dk kL_law_3_ok 13 rfl) (by decide) (fun h33 => ?_) (fun h33 => ?_)
                  · skip
                    refine lv_iconst (v := nI 1) hx hb (dk kL_law_3_ok 22 rfl) rfl ?_
                    refine lv_goto (tgt := 381) hx hb (dk kL_law_3_ok 23 rfl) (by decide) ?_
                    refine lv_istore (lv' := [(7, .int (nI 1)), (14, .int (nI 5)), (13, .int (nI (Np q))), (12, .int (nI (wnl c b v t z (nI (q % 13)) (nI (q / 13)) f (nI dv)))), (11, .int (rbs q dv)), (10, .int (nI f)), (9, .int (nI q)), (8, .int (nI w)), (6, .int (nI dv)), (5, .int hv), (4, .int gv), (0, .ref sb), (1, .ref (ad 0)), (2, .ref (ad 77)), (3, .int (nI k))]) hx hb (dk kL_law_3_ok 25 rfl) hl (by decide) rfl (fun ls hl => ?_)
                    refine lv_goto (tgt := 558) hx hb (dk kL_law_3_ok 26 rfl) (by decide) ?_
                    refine W.widen (k := cells + 1) (n := slots + 6) (by omega) (by omega) ?_
                    exact kend _ _ _ ls ⟨_, _, _, _, _, _, _, _, _, _, _, hKW, ⟨_, _, hR, hRl⟩, ht, h77, hjl⟩ hP hS (lv_sub hl [0, 11, 12, 13, 14] rfl)
                  · exact absurd (hdue.symm.trans h33) (by decide)
            · skip
              refine lv_iconst (v := nI 4) hx hb (dk kL_law_3_ok 0 rfl) rfl ?_
              refine lv_goto (tgt := 346) hx hb (dk kL_law_3_ok 1 rfl) (by decide) ?_
              refine lv_istore (lv' := [(14, .int (nI 4)), (13, .int (nI (Np q))), (12, .int (nI (wnl c b v t z (nI (q % 13)) (nI (q / 13)) f (nI dv)))), (11, .int (rbs q dv)), (10, .int (nI f)), (9, .int (nI q)), (8, .int (nI w)), (7, .int (nI 1)), (6, .int (nI dv)), (5, .int hv), (4, .int gv), (0, .ref sb), (1, .ref (ad 0)), (2, .ref (ad 77)), (3, .int (nI k))]) hx hb (dk kL_law_3_ok 8 rfl) hl (by decide) rfl (fun ls hl => ?_)
              have hdue : wnl c b v t z (nI (q % 13)) (nI (q / 13)) f (nI dv) = 4 := (wnl_due hov hR hRl (by omega) (by omega) (by omega)).trans ((if_neg (by omega)).trans ((if_neg (fun e9 => e9 h27)).trans (if_pos h28)))
              refine lv_iload hx hb (dk kL_law_3_ok 9 rfl) (lv_at hl 2 rfl) ?_
              refine lv_iload hx hb (dk kL_law_3_ok 10 rfl) (lv_at hl 0 rfl) ?_
              refine n_icmp_ne (tgt := 380) hx hb (by first | omega | (have q9 := hR.le (q := q) (by omega); omega) | (have q9 := wnl_le c b v t z (nI (q % 13)) (nI (q / 13)) f (nI dv); omega) | (have q9 := (hR.1 q (Np q - 1) (by omega)).1; omega)) (by decide) (dk kL_law_3_ok 11 rfl) (by decide) (fun h34 => ?_) (fun h34 => ?_)
              · exact absurd hdue h34
              · skip
                refine lv_iload hx hb (dk kL_law_3_ok 12 rfl) (lv_at hl 2 rfl) ?_
                refine n_if_ne (tgt := 376) hx hb (by first | omega | (have q9 := hR.le (q := q) (by omega); omega) | (have q9 := wnl_le c b v t z (nI (q % 13)) (nI (q / 13)) f (nI dv); omega) | (have q9 := (hR.1 q (Np q - 1) (by omega)).1; omega)) (dk kL_law_3_ok 13 rfl) (by decide) (fun h35 => ?_) (fun h35 => ?_)
                · skip
                  refine lv_iconst (v := nI 1) hx hb (dk kL_law_3_ok 22 rfl) rfl ?_
                  refine lv_goto (tgt := 381) hx hb (dk kL_law_3_ok 23 rfl) (by decide) ?_
                  refine lv_istore (lv' := [(7, .int (nI 1)), (14, .int (nI 4)), (13, .int (nI (Np q))), (12, .int (nI (wnl c b v t z (nI (q % 13)) (nI (q / 13)) f (nI dv)))), (11, .int (rbs q dv)), (10, .int (nI f)), (9, .int (nI q)), (8, .int (nI w)), (6, .int (nI dv)), (5, .int hv), (4, .int gv), (0, .ref sb), (1, .ref (ad 0)), (2, .ref (ad 77)), (3, .int (nI k))]) hx hb (dk kL_law_3_ok 25 rfl) hl (by decide) rfl (fun ls hl => ?_)
                  refine lv_goto (tgt := 558) hx hb (dk kL_law_3_ok 26 rfl) (by decide) ?_
                  refine W.widen (k := cells + 1) (n := slots + 6) (by omega) (by omega) ?_
                  exact kend _ _ _ ls ⟨_, _, _, _, _, _, _, _, _, _, _, hKW, ⟨_, _, hR, hRl⟩, ht, h77, hjl⟩ hP hS (lv_sub hl [0, 11, 12, 13, 14] rfl)
                · exact absurd (hdue.symm.trans h35) (by decide)
          · skip
            refine lv_iconst (v := nI 3) hx hb (dk kL_law_2_ok 53 rfl) rfl ?_
            refine lv_goto (tgt := 346) hx hb (dk kL_law_2_ok 54 rfl) (by decide) ?_
            refine lv_istore (lv' := [(14, .int (nI 3)), (13, .int (nI (Np q))), (12, .int (nI (wnl c b v t z (nI (q % 13)) (nI (q / 13)) f (nI dv)))), (11, .int (rbs q dv)), (10, .int (nI f)), (9, .int (nI q)), (8, .int (nI w)), (7, .int (nI 1)), (6, .int (nI dv)), (5, .int hv), (4, .int gv), (0, .ref sb), (1, .ref (ad 0)), (2, .ref (ad 77)), (3, .int (nI k))]) hx hb (dk kL_law_3_ok 8 rfl) hl (by decide) rfl (fun ls hl => ?_)
            have hdue : wnl c b v t z (nI (q % 13)) (nI (q / 13)) f (nI dv) = 3 := (wnl_due hov hR hRl (by omega) (by omega) (by omega)).trans ((if_neg (by omega)).trans (if_pos h27))
            refine lv_iload hx hb (dk kL_law_3_ok 9 rfl) (lv_at hl 2 rfl) ?_
            refine lv_iload hx hb (dk kL_law_3_ok 10 rfl) (lv_at hl 0 rfl) ?_
            refine n_icmp_ne (tgt := 380) hx hb (by first | omega | (have q9 := hR.le (q := q) (by omega); omega) | (have q9 := wnl_le c b v t z (nI (q % 13)) (nI (q / 13)) f (nI dv); omega) | (have q9 := (hR.1 q (Np q - 1) (by omega)).1; omega)) (by decide) (dk kL_law_3_ok 11 rfl) (by decide) (fun h36 => ?_) (fun h36 => ?_)
            · exact absurd hdue h36
            · skip
              refine lv_iload hx hb (dk kL_law_3_ok 12 rfl) (lv_at hl 2 rfl) ?_
              refine n_if_ne (tgt := 376) hx hb (by first | omega | (have q9 := hR.le (q := q) (by omega); omega) | (have q9 := wnl_le c b v t z (nI (q % 13)) (nI (q / 13)) f (nI dv); omega) | (have q9 := (hR.1 q (Np q - 1) (by omega)).1; omega)) (dk kL_law_3_ok 13 rfl) (by decide) (fun h37 => ?_) (fun h37 => ?_)
              · skip
                refine lv_iconst (v := nI 1) hx hb (dk kL_law_3_ok 22 rfl) rfl ?_
                refine lv_goto (tgt := 381) hx hb (dk kL_law_3_ok 23 rfl) (by decide) ?_
                refine lv_istore (lv' := [(7, .int (nI 1)), (14, .int (nI 3)), (13, .int (nI (Np q))), (12, .int (nI (wnl c b v t z (nI (q % 13)) (nI (q / 13)) f (nI dv)))), (11, .int (rbs q dv)), (10, .int (nI f)), (9, .int (nI q)), (8, .int (nI w)), (6, .int (nI dv)), (5, .int hv), (4, .int gv), (0, .ref sb), (1, .ref (ad 0)), (2, .ref (ad 77)), (3, .int (nI k))]) hx hb (dk kL_law_3_ok 25 rfl) hl (by decide) rfl (fun ls hl => ?_)
                refine lv_goto (tgt := 558) hx hb (dk kL_law_3_ok 26 rfl) (by decide) ?_
                refine W.widen (k := cells + 1) (n := slots + 6) (by omega) (by omega) ?_
                exact kend _ _ _ ls ⟨_, _, _, _, _, _, _, _, _, _, _, hKW, ⟨_, _, hR, hRl⟩, ht, h77, hjl⟩ hP hS (lv_sub hl [0, 11, 12, 13, 14] rfl)
              · exact absurd (hdue.symm.trans h37) (by decide)
        · skip
          refine lv_iconst (v := nI 2) hx hb (dk kL_law_2_ok 35 rfl) rfl ?_
          refine lv_goto (tgt := 346) hx hb (dk kL_law_2_ok 36 rfl) (by decide) ?_
          refine lv_istore (lv' := [(14, .int (nI 2)), (13, .int (nI (Np q))), (12, .int (nI (wnl c b v t z (nI (q % 13)) (nI (q / 13)) f (nI dv)))), (11, .int (rbs q dv)), (10, .int (nI f)), (9, .int (nI q)), (8, .int (nI w)), (7, .int (nI 1)), (6, .int (nI dv)), (5, .int hv), (4, .int gv), (0, .ref sb), (1, .ref (ad 0)), (2, .ref (ad 77)), (3, .int (nI k))]) hx hb (dk kL_law_3_ok 8 rfl) hl (by decide) rfl (fun ls hl => ?_)
          have hdue : wnl c b v t z (nI (q % 13)) (nI (q / 13)) f (nI dv) = 2 := (wnl_due hov hR hRl (by omega) (by omega) (by omega)).trans (if_pos (by omega))
          refine lv_iload hx hb (dk kL_law_3_ok 9 rfl) (lv_at hl 2 rfl) ?_
          refine lv_iload hx hb (dk kL_law_3_ok 10 rfl) (lv_at hl 0 rfl) ?_
          refine n_icmp_ne (tgt := 380) hx hb (by first | omega | (have q9 := hR.le (q := q) (by omega); omega) | (have q9 := wnl_le c b v t z (nI (q % 13)) (nI (q / 13)) f (nI dv); omega) | (have q9 := (hR.1 q (Np q - 1) (by omega)).1; omega)) (by decide) (dk kL_law_3_ok 11 rfl) (by decide) (fun h38 => ?_) (fun h38 => ?_)
          · exact absurd hdue h38
          · skip
            refine lv_iload hx hb (dk kL_law_3_ok 12 rfl) (lv_at hl 2 rfl) ?_
            refine n_if_ne (tgt := 376) hx hb (by first | omega | (have q9 := hR.le (q := q) (by omega); omega) | (have q9 := wnl_le c b v t z (nI (q % 13)) (nI (q / 13)) f (nI dv); omega) | (have q9 := (hR.1 q (Np q - 1) (by omega)).1; omega)) (dk kL_law_3_ok 13 rfl) (by decide) (fun h39 => ?_) (fun h39 => ?_)
            · skip
              refine lv_iconst (v := nI 1) hx hb (dk kL_law_3_ok 22 rfl) rfl ?_
              refine lv_goto (tgt := 381) hx hb (dk kL_law_3_ok 23 rfl) (by decide) ?_
              refine lv_istore (lv' := [(7, .int (nI 1)), (14, .int (nI 2)), (13, .int (nI (Np q))), (12, .int (nI (wnl c b v t z (nI (q % 13)) (nI (q / 13)) f (nI dv)))), (11, .int (rbs q dv)), (10, .int (nI f)), (9, .int (nI q)), (8, .int (nI w)), (6, .int (nI dv)), (5, .int hv), (4, .int gv), (0, .ref sb), (1, .ref (ad 0)), (2, .ref (ad 77)), (3, .int (nI k))]) hx hb (dk kL_law_3_ok 25 rfl) hl (by decide) rfl (fun ls hl => ?_)
              refine lv_goto (tgt := 558) hx hb (dk kL_law_3_ok 26 rfl) (by decide) ?_
              refine W.widen (k := cells + 1) (n := slots + 6) (by omega) (by omega) ?_
              exact kend _ _ _ ls ⟨_, _, _, _, _, _, _, _, _, _, _, hKW, ⟨_, _, hR, hRl⟩, ht, h77, hjl⟩ hP hS (lv_sub hl [0, 11, 12, 13, 14] rfl)
            · exact absurd (hdue.symm.trans h39) (by decide)
  · skip
    refine lv_iconst (v := nI 4) hx hb (dk kL_law_0_ok 41 rfl) rfl ?_
    refine lv_aload_n hx hb (dk kL_law_0_ok 42 rfl) rfl (lv_at hl 5 rfl) ?_
    refine lv_iconst (v := nI 0) hx hb (dk kL_law_0_ok 43 rfl) rfl ?_
    refine kw_count hC hKW hN76 hP (k := 0) (by decide) (lc0 _ (List.mem_of_getElem? (i := 14) rfl)) hl.1 (Nat.le_of_ble_eq_true rfl) hf0 (dk kL_law_0_ok 44 rfl) (r := nI t) (show (if over c = true then -1 else nI t) = nI t from if_neg (by rw [hov]; decide)) ?_
    refine n_imul hx hb (dk kL_law_0_ok 45 rfl) ?_
    refine lv_iload hx hb (dk kL_law_0_ok 46 rfl) (lv_at hl 3 rfl) ?_
    refine lv_iconst (v := nI 4) hx hb (dk kL_law_0_ok 47 rfl) rfl ?_
    refine lv_ishr hx hb (dk kL_law_0_ok 48 rfl) ?_
    refine lv_iconst (v := nI 4) hx hb (dk kL_law_0_ok 49 rfl) rfl ?_
    refine csP (As := [.int (gv >>> ((nI 4) &&& 31)), .int (nI 4)]) (rest := [.int (nI (4 * t))]) ⟨hC.1, hC.2.1, hC.2.2.1, hC.2.2.2.1, hC.2.2.2.2.1⟩ (tL_low l (gv >>> ((nI 4) &&& 31)) 4 (by decide) (by decide)) (cwSL 2 hC.2.2.2.2.1 mcL_low (lc1 _ (List.mem_of_getElem? (i := 5) rfl)) msL_low mini_RL rfl rfl hdL_low ⟨Nat.le_of_ble_eq_true rfl, Nat.le_of_ble_eq_true rfl⟩) rfl hl.1 rfl (Nat.le_of_ble_eq_true rfl) hf0 (dk kL_law_0_ok 50 rfl) ?_
    refine n_iadd hx hb (dk kL_law_0_ok 51 rfl) ?_
    obtain ⟨w, hw, hwb⟩ : ∃ w, (4 * t) + (lo9 (gv >>> ((nI 4) &&& 31)) % 4) = w ∧ w < 16 ∧ w / 4 = t := ⟨_, rfl, by omega⟩
    rw [hw]
    refine lv_istore (lv' := [(8, .int (nI w)), (7, .int (nI 1)), (6, .int (nI dv)), (5, .int hv), (4, .int gv), (0, .ref sb), (1, .ref (ad 0)), (2, .ref (ad 77)), (3, .int (nI k))]) hx hb (dk kL_law_0_ok 52 rfl) hl (by decide) rfl (fun ls hl => ?_)
    have hwt := hwb.2
    have hwn4 := wnf_le c v t w
    refine lv_aload_n hx hb (dk kL_law_0_ok 53 rfl) rfl (lv_at hl 6 rfl) ?_
    refine lv_iload hx hb (dk kL_law_0_ok 54 rfl) (lv_at hl 0 rfl) ?_
    refine lv_bipush (v := nI 6) hx hb (dk kL_law_0_ok 55 rfl) rfl ?_
    refine kw_wink hC hKW hN76 hP ht (w := w) (k := 6) (by omega) (by decide) (lc0 _ (List.mem_of_getElem? (i := 3) rfl)) hl.1 (Nat.le_of_ble_eq_true rfl) hf0 (dk kL_law_0_ok 56 rfl) (r := nI (wnf c v t w)) rfl ?_
    refine lv_istore (lv' := [(9, .int (nI (wnf c v t w))), (8, .int (nI w)), (7, .int (nI 1)), (6, .int (nI dv)), (5, .int hv), (4, .int gv), (0, .ref sb), (1, .ref (ad 0)), (2, .ref (ad 77)), (3, .int (nI k))]) hx hb (dk kL_law_0_ok 57 rfl) hl (by decide) rfl (fun ls hl => ?_)
    refine lv_iload hx hb (dk kL_law_0_ok 58 rfl) (lv_at hl 0 rfl) ?_
    refine n_if_ne (tgt := 126) hx hb (by first | omega | (have q9 := hR.le (q := q) (by omega); omega) | (have q9 := wnl_le c b v t z (nI (q % 13)) (nI (q / 13)) f (nI dv); omega) | (have q9 := (hR.1 q (Np q - 1) (by omega)).1; omega)) (dk kL_law_0_ok 59 rfl) (by decide) (fun h40 => ?_) (fun h40 => ?_)
    · skip
      refine lv_iload hx hb (dk kL_law_1_ok 13 rfl) (lv_at hl 0 rfl) ?_
      refine lv_aload_n hx hb (dk kL_law_1_ok 14 rfl) rfl (lv_at hl 7 rfl) ?_
      refine lv_iload hx hb (dk kL_law_1_ok 15 rfl) (lv_at hl 1 rfl) ?_
      refine lv_iconst (v := nI 2) hx hb (dk kL_law_1_ok 16 rfl) rfl ?_
      refine kw_wink hC hKW hN76 hP ht (w := w) (k := 2) (by omega) (by decide) (lc0 _ (List.mem_of_getElem? (i := 3) rfl)) hl.1 (Nat.le_of_ble_eq_true rfl) hf0 (dk kL_law_1_ok 17 rfl) (r := c w) rfl ?_
      refine lv_iconst (v := -1) hx hb (dk kL_law_1_ok 18 rfl) rfl ?_
      refine lv_icmp_ne (tgt := 143) hx hb (dk kL_law_1_ok 19 rfl) (by decide) (fun h41 => ?_) (fun h41 => ?_)
      · skip
        refine lv_iconst (v := nI 4) hx hb (dk kL_law_1_ok 22 rfl) rfl ?_
        refine n_icmp_ne (tgt := 167) hx hb (by first | omega | (have q9 := hR.le (q := q) (by omega); omega) | (have q9 := wnl_le c b v t z (nI (q % 13)) (nI (q / 13)) f (nI dv); omega) | (have q9 := (hR.1 q (Np q - 1) (by omega)).1; omega)) (by decide) (dk kL_law_1_ok 23 rfl) (by decide) (fun h42 => ?_) (fun h42 => ?_)
        · exact absurd (wnf_4 hov hwt h41 h40) h42
        · skip
          have hne9 : wnf c v t w ≠ 0 := h40
          refine lv_aload_n hx hb (dk kL_law_1_ok 24 rfl) rfl (lv_at hl 7 rfl) ?_
          refine lv_iload hx hb (dk kL_law_1_ok 25 rfl) (lv_at hl 1 rfl) ?_
          refine lv_iload hx hb (dk kL_law_1_ok 26 rfl) (lv_at hl 3 rfl) ?_
          refine lv_iconst (v := nI 1) hx hb (dk kL_law_1_ok 27 rfl) rfl ?_
          refine lv_iconst (v := nI 0) hx hb (dk kL_law_1_ok 28 rfl) rfl ?_
          refine kw_ifX hC hKW hN76 hP ht (w := w) (by omega) (d := dv) (f := 1) (by omega) (by decide) (k := 0) (by decide) hne9 (lc0 _ (List.mem_of_getElem? (i := 15) rfl)) hl.1 (Nat.le_of_ble_eq_true rfl) hf0 (dk kL_law_1_ok 29 rfl) (r := -1000) rfl ?_
          refine lv_sipush (v := -1000) hx hb (dk kL_law_1_ok 30 rfl) rfl ?_
          refine lv_icmp_ne (tgt := 167) hx hb (dk kL_law_1_ok 31 rfl) (by decide) (fun h43 => ?_) (fun h43 => ?_)
          · exact absurd rfl h43
          · skip
            refine lv_iconst (v := nI 1) hx hb (dk kL_law_1_ok 32 rfl) rfl ?_
            refine lv_goto (tgt := 168) hx hb (dk kL_law_1_ok 33 rfl) (by decide) ?_
            refine lv_istore (lv' := [(7, .int (nI 1)), (9, .int (nI (wnf c v t w))), (8, .int (nI w)), (6, .int (nI dv)), (5, .int hv), (4, .int gv), (0, .ref sb), (1, .ref (ad 0)), (2, .ref (ad 77)), (3, .int (nI k))]) hx hb (dk kL_law_1_ok 35 rfl) hl (by decide) rfl (fun ls hl => ?_)
            refine lv_goto (tgt := 558) hx hb (dk kL_law_1_ok 36 rfl) (by decide) ?_
            refine W.widen (k := cells + 1) (n := slots + 6) (by omega) (by omega) ?_
            exact kend _ _ _ ls ⟨_, _, _, _, _, _, _, _, _, _, _, hKW, ⟨_, _, hR, hRl⟩, ht, h77, hjl⟩ hP hS (lv_sub hl [0, 6, 7, 8, 9] rfl)
      · skip
        refine lv_iconst (v := nI 3) hx hb (dk kL_law_1_ok 20 rfl) rfl ?_
        refine lv_goto (tgt := 144) hx hb (dk kL_law_1_ok 21 rfl) (by decide) ?_
        refine n_icmp_ne (tgt := 167) hx hb (by first | omega | (have q9 := hR.le (q := q) (by omega); omega) | (have q9 := wnl_le c b v t z (nI (q % 13)) (nI (q / 13)) f (nI dv); omega) | (have q9 := (hR.1 q (Np q - 1) (by omega)).1; omega)) (by decide) (dk kL_law_1_ok 23 rfl) (by decide) (fun h44 => ?_) (fun h44 => ?_)
        · exact absurd (wnf_3 hov hwt h41) h44
        · skip
          have hne9 : wnf c v t w ≠ 0 := h40
          refine lv_aload_n hx hb (dk kL_law_1_ok 24 rfl) rfl (lv_at hl 7 rfl) ?_
          refine lv_iload hx hb (dk kL_law_1_ok 25 rfl) (lv_at hl 1 rfl) ?_
          refine lv_iload hx hb (dk kL_law_1_ok 26 rfl) (lv_at hl 3 rfl) ?_
          refine lv_iconst (v := nI 1) hx hb (dk kL_law_1_ok 27 rfl) rfl ?_
          refine lv_iconst (v := nI 0) hx hb (dk kL_law_1_ok 28 rfl) rfl ?_
          refine kw_ifX hC hKW hN76 hP ht (w := w) (by omega) (d := dv) (f := 1) (by omega) (by decide) (k := 0) (by decide) hne9 (lc0 _ (List.mem_of_getElem? (i := 15) rfl)) hl.1 (Nat.le_of_ble_eq_true rfl) hf0 (dk kL_law_1_ok 29 rfl) (r := -1000) rfl ?_
          refine lv_sipush (v := -1000) hx hb (dk kL_law_1_ok 30 rfl) rfl ?_
          refine lv_icmp_ne (tgt := 167) hx hb (dk kL_law_1_ok 31 rfl) (by decide) (fun h45 => ?_) (fun h45 => ?_)
          · exact absurd rfl h45
          · skip
            refine lv_iconst (v := nI 1) hx hb (dk kL_law_1_ok 32 rfl) rfl ?_
            refine lv_goto (tgt := 168) hx hb (dk kL_law_1_ok 33 rfl) (by decide) ?_
            refine lv_istore (lv' := [(7, .int (nI 1)), (9, .int (nI (wnf c v t w))), (8, .int (nI w)), (6, .int (nI dv)), (5, .int hv), (4, .int gv), (0, .ref sb), (1, .ref (ad 0)), (2, .ref (ad 77)), (3, .int (nI k))]) hx hb (dk kL_law_1_ok 35 rfl) hl (by decide) rfl (fun ls hl => ?_)
            refine lv_goto (tgt := 558) hx hb (dk kL_law_1_ok 36 rfl) (by decide) ?_
            refine W.widen (k := cells + 1) (n := slots + 6) (by omega) (by omega) ?_
            exact kend _ _ _ ls ⟨_, _, _, _, _, _, _, _, _, _, _, hKW, ⟨_, _, hR, hRl⟩, ht, h77, hjl⟩ hP hS (lv_sub hl [0, 6, 7, 8, 9] rfl)
    · skip
      refine lv_aload_n hx hb (dk kL_law_1_ok 0 rfl) rfl (lv_at hl 7 rfl) ?_
      refine lv_aload_n hx hb (dk kL_law_1_ok 1 rfl) rfl (lv_at hl 8 rfl) ?_
      refine lv_iload hx hb (dk kL_law_1_ok 2 rfl) (lv_at hl 1 rfl) ?_
      refine lv_iload hx hb (dk kL_law_1_ok 3 rfl) (lv_at hl 3 rfl) ?_
      refine lv_iconst (v := nI 1) hx hb (dk kL_law_1_ok 4 rfl) rfl ?_
      refine lv_iload hx hb (dk kL_law_1_ok 5 rfl) (lv_at hl 4 rfl) ?_
      refine lv_iconst (v := nI 4) hx hb (dk kL_law_1_ok 6 rfl) rfl ?_
      refine lv_ishr hx hb (dk kL_law_1_ok 7 rfl) ?_
      refine lv_bipush (v := nI 9) hx hb (dk kL_law_1_ok 8 rfl) rfl ?_
      refine csP (As := [.int (hv >>> ((nI 4) &&& 31)), .int (nI 9)]) (rest := [.int (nI 1), .int (nI dv), .int (nI w), .ref (ad 77), .ref (ad 0)]) ⟨hC.1, hC.2.1, hC.2.2.1, hC.2.2.2.1, hC.2.2.2.2.1⟩ (tL_low l (hv >>> ((nI 4) &&& 31)) 9 (by decide) (by decide)) (cwSL 2 hC.2.2.2.2.1 mcL_low (lc1 _ (List.mem_of_getElem? (i := 5) rfl)) msL_low mini_RL rfl rfl hdL_low ⟨Nat.le_of_ble_eq_true rfl, Nat.le_of_ble_eq_true rfl⟩) rfl hl.1 rfl (Nat.le_of_ble_eq_true rfl) hf0 (dk kL_law_1_ok 9 rfl) ?_
      refine n_iadd hx hb (dk kL_law_1_ok 10 rfl) ?_
      refine csW (As := [.ref (ad 0), .ref (ad 77), .int (nI w), .int (nI dv), .int (nI (1 + (lo9 (hv >>> ((nI 4) &&& 31)) % 9)))]) (rest := []) ⟨hC.1, hC.2.1, hC.2.2.1, hC.2.2.2.1, hC.2.2.2.2.1⟩ (tL_flies l D cI cQ cL ad 78 F hN77 hKW ⟨_, _, hR, hRl⟩ ht h77 (hjl hov).1 (hjl hov).2 (w := w) (d := dv) (f := 1 + (lo9 (hv >>> ((nI 4) &&& 31)) % 9)) (by omega) (by omega) (by omega) h40) (cwSL 5 hC.2.2.2.2.1 mcL_flies (lc1 _ (List.mem_of_getElem? (i := 8) rfl)) msL_flies mini_RL rfl rfl hdL_flies ⟨Nat.le_of_ble_eq_true rfl, Nat.le_of_ble_eq_true rfl⟩) hDi hC.2.2.2.2.2.1 hP hC.2.2.2.2.2.2.1 hS rfl hl.1 rfl (Nat.le_of_ble_eq_true rfl) hf0 (dk kL_law_1_ok 11 rfl) (fun v9 F9 H locs hp hP hS => ?_)
      obtain ⟨rfl, hLI9⟩ := hp
      refine W.eq (g2 := F0 m 123 ls [.int (nI 1)]) rfl ?_
      refine lv_goto (tgt := 168) hx hb (dk kL_law_1_ok 12 rfl) (by decide) ?_
      refine lv_istore (lv' := [(7, .int (nI 1)), (9, .int (nI (wnf c v t w))), (8, .int (nI w)), (6, .int (nI dv)), (5, .int hv), (4, .int gv), (0, .ref sb), (1, .ref (ad 0)), (2, .ref (ad 77)), (3, .int (nI k))]) hx hb (dk kL_law_1_ok 35 rfl) hl (by decide) rfl (fun ls hl => ?_)
      refine lv_goto (tgt := 558) hx hb (dk kL_law_1_ok 36 rfl) (by decide) ?_
      refine W.widen (k := cells + 1) (n := slots + 6) (by omega) (by omega) ?_
      exact kend _ _ _ ls hLI9 hP hS (lv_sub hl [0, 6, 7, 8, 9] rfl)
