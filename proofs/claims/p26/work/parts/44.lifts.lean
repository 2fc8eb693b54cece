/-! a new array; the law's lifts() -/
theorem iW_cut {D : va_G} {cl : List vw_C} {ad ad1 : Nat → Nat} {N N1 : Nat} {F : Nat → va_E} {H : Heap} (h : va_P D cl (iW ad1 N1 F) H) (hN : N ≤ N1) (e : ∀ i, i < N → ad1 i = ad i) : va_P D cl (iW ad N F) H := by
  intro k q hq
  obtain ⟨hk, rfl⟩ := iW_inv hq
  have h1 := h k _ (iW_get (show k < N1 by omega))
  rw [e k hk] at h1
  exact h1
section NWA
variable {p : Program} {l : Launch} {e : Env} {R : Room} {s : State} {m : MethodId} {args : Array Value} {below : List Frame} {meth : Method} {c : Code} {H : Heap} {locs : List Loc} {cells slots : Nat} {Q : State → Prop}
variable {cc : ByteArray} {pc : Nat} {ls : Array Slot} {rest : List Value} {D : va_G} {cI cQ cL : ClassId} {ad : Nat → Nat} {N : Nat} {F : Nat → va_E}
theorem nwA {n : Nat} (hx : p.tables.exec = Jvm.exec) (hb : c.code = cc) (harr : (Cond.arrayClass .int).before args s = true) (hK : va_K D vwCl (iT cI cQ cL) s) (hDi : iD ad N) (hP : va_P D vwCl (iW ad N F) H) (hS : va_S (iA ad N s.heap.size) s.heap H locs) (hn : n < 2 ^ 20) (hcells : cells + 1 ≤ R.cells) (hslots : slots + n ≤ R.slots) (hdg : decode cc pc = .ok (.newarray .int, 2))
    (kk : ∀ (ad1 : Nat → Nat) (F1 : Nat → va_E) (H1 : Heap), (∀ i, i ≠ N → ad1 i = ad i) → (∀ i, i ≠ N → F1 i = F i) → F1 N = .inl (cI, n, .inl (fun _ => 0)) → iD ad1 (N + 1) → iA ad1 (N + 1) s.heap.size = iA ad N s.heap.size → va_P D vwCl (iW ad1 (N + 1) F1) H1 → va_S (iA ad N s.heap.size) s.heap H1 locs → W p l e R s m args below meth c H1 locs (cells + 1) (slots + n) Q (F0 m (pc + 2) ls (.ref (ad1 N) :: rest))) : W p l e R s m args below meth c H locs cells slots Q (F0 m pc ls (.int (nI n) :: rest)) := by
  refine va_newa (atype := .int) (ty := .int) (N' := n) (a0 := (n, .inl (fun _ => 0))) hx hb harr rfl hK hP (iA_D hDi) hS (fun q h => Or.inr h) (fun cA => rfl) (nI_pos (by omega)) (nI_clamp (by omega)) (by simp only [componentBytes]; omega) hcells hslots hdg (fun q cA H1 hK1 hP1 hD1 hS1 => ?_)
  have h3 : s.vm.findClass ("[" ++ FieldType.int.toString) = some cA := (hK1.2 3 (cA, .int) rfl).2
  have h0 : s.vm.findClass ("[" ++ FieldType.int.toString) = some cI := (hK1.2 0 (cI, .int) rfl).2
  have hcA : cA = cI := Option.some.inj (h3.symm.trans h0)
  subst hcA
  rw [iW_push] at hP1 hD1
  obtain ⟨g1, g2⟩ := iD_of hD1
  have hq : s.heap.size ≤ q := by
    rcases g2 N (Nat.lt_succ_self N) with ⟨k, hk, e9⟩ | h9
    · have e8 : va_up ad N q k = va_up ad N q N := (va_up_ne _ _ (by omega)).trans e9.symm
      have := g1 k N (by omega) (Nat.lt_succ_self N) e8
      omega
    · rw [va_up_self] at h9
      exact h9
  have hA : iA (va_up ad N q) (N + 1) s.heap.size = iA ad N s.heap.size := by
    funext x
    apply propext
    constructor
    · rintro (⟨k, hk, rfl⟩ | h9)
      · by_cases ek : k = N
        · subst ek
          rw [va_up_self]
          exact Or.inr hq
        · exact Or.inl ⟨k, by omega, va_up_ne _ _ ek⟩
      · exact Or.inr h9
    · rintro (⟨k, hk, rfl⟩ | h9)
      · exact Or.inl ⟨k, by omega, (va_up_ne _ _ (by omega)).symm⟩
      · exact Or.inr h9
  have := kk (va_up ad N q) (va_up F N (.inl (cA, n, .inl (fun _ => 0)))) H1 (fun i hi => va_up_ne _ _ hi) (fun i hi => va_up_ne _ _ hi) (va_up_self _ _ _) g1 hA hP1 hS1
  rw [va_up_self] at this
  exact this
end NWA
theorem ix_sub {i f n : Nat} (h : n ≤ i + f) : nI i - nI n + nI f = nI (i + f - n) := by
  rw [← pk_sub h, ← nI_add, Int32.sub_eq_add_neg, Int32.sub_eq_add_neg, Int32.add_assoc, Int32.add_assoc, Int32.add_comm (-nI n)]
theorem lf_sk {c : Nat → Int32} {N : Nat → Nat} {W : Nat → Nat → Nat} (hR : Rc c N W) {q0 f w : Nat} {a : Nat → Int32} (ha : ∀ k, k < f → W q0 (N q0 - f + k) < w → a k = nI (W q0 (N q0 - f + k))) (hn : ¬ c w = nI q0 ∨ ∃ i, i < N q0 ∧ W q0 i = w ∧ i < N q0 - f) (hfn : f ≤ N q0) : ∀ k, k < f → W q0 (N q0 - f + k) < w + 1 → a k = nI (W q0 (N q0 - f + k)) := fun k hk h => by
  refine ha k hk ?_
  have hlt : N q0 - f + k < N q0 := by omega
  by_cases e : W q0 (N q0 - f + k) = w
  · exfalso
    rcases hn with h1 | ⟨i, hi, e2, h2⟩
    · exact h1 (by rw [← e]; exact (hR.1 q0 _ hlt).2.2.2)
    · have := hR.2.1 q0 _ _ hlt hi (e.trans e2.symm)
      omega
  · omega
theorem lf_st {c : Nat → Int32} {N : Nat → Nat} {W : Nat → Nat → Nat} (hR : Rc c N W) {q0 f w i : Nat} {a : Nat → Int32} (ha : ∀ k, k < f → W q0 (N q0 - f + k) < w → a k = nI (W q0 (N q0 - f + k))) (hi : i < N q0) (e2 : W q0 i = w) (h2 : N q0 - f ≤ i) (hfn : f ≤ N q0) : ∀ k, k < f → W q0 (N q0 - f + k) < w + 1 → upd a (i + f - N q0) (nI w) k = nI (W q0 (N q0 - f + k)) := fun k hk h => by
  have hlt : N q0 - f + k < N q0 := by omega
  by_cases e : k = i + f - N q0
  · subst e
    rw [upd_at9, show N q0 - f + (i + f - N q0) = i by omega, e2]
  · rw [upd_ne9 e]
    refine ha k hk ?_
    by_cases e3 : W q0 (N q0 - f + k) = w
    · have := hR.2.1 q0 _ _ hlt hi (e3.trans e2.symm)
      omega
    · omega
set_option maxRecDepth 100000 in
set_option maxHeartbeats 8000000 in
theorem lifts_2 {p : Program} {l : Launch} {e : Env} {s : State} {m : MethodId} {AR : Array Value} {below : List Frame} {meth : Method} {cd : Code} {Q : State → Prop} {D : va_G} {cI cQ cL : ClassId} {ad : Nat → Nat} (hC : CX p s m cd cL_lifts 13 AR D cI cQ cL ({ frames := 11, cells := 1, slots := 6, locals := 400 } : Room)) (hDi : iD ad 79)
    (hret : ∀ (pc : Nat) (ls : Array Slot) (H : Heap) (locs : List Loc) (F9 : Nat → va_E), LINV cI cQ ad F9 → va_P D vwCl (iW ad 79 F9) H → va_S (iA ad 79 s.heap.size) s.heap H locs → decode cL_lifts pc = .ok (.ireturn, 1) → W p l e ({ frames := 11, cells := 1, slots := 6, locals := 400 } : Room) s m AR below meth cd H locs 1 6 Q (F0 m pc ls [.int (nI 1)]))
    {cY bY vY gY hY jY : Nat → Int32} {tY : Nat} {uY zY : Int32} {mY : Nat} {q0 q1 f d t n0 n1 : Nat} {u : Int32} {lo a : Nat → Int32} {S : Nat → Nat} (hq0 : q0 < 169) (hq1 : q1 < 169) (hf : 1 ≤ f ∧ f ≤ 3) (hfn : f ≤ n0) (hn16 : n0 ≤ 16) (hn17 : n1 ≤ 16) (htt : t < 4) (hPQ2 : PQ cY bY vY) (ht : tY < 4) (heh0 : hgt cY (nI q0) = n0 - f) (hu : uY = u + nI 1) (ha : ∀ k, k < f → a k = nI (S k)) (hS16 : ∀ k, k < f → S k < 16) (h84 : q1 = 84 → ∀ k, k < f → cY (S k) = -1) (hno : q1 ≠ 84 → ∀ k, k < f → cY (S k) = nI q1 ∧ pls cY bY (S k) = nI (n1 + k)) (hl01 : ∀ i, i < 4 → lo i = nI 0 ∨ lo i = nI 1) (hen : over cY = false → (pasg cY t 8 lo t).2 = tY ∧ (∀ i, i < 4 → (pasg cY t 8 lo t).1 i = jY i) ∧ JT jY tY) {F : Nat → va_E} {H : Heap} {locs : List Loc} (hKW : KW cI cQ ad F cY bY vY gY hY jY tY uY zY mY) (h77 : F 77 = .inl (cI, 4, .inl lo)) (h78 : F 78 = .inl (cI, 6, .inl a)) (hP : va_P D vwCl (iW ad 79 F) H) (hS : va_S (iA ad 79 s.heap.size) s.heap H locs) (ls : Array Slot) (hl : lv_has ls 13 [(10, .int u), (9, .int (nI n1)), (8, .int (nI n0)), (7, .ref (ad 78)), (6, .int (nI t)), (0, .ref (ad 0)), (1, .ref (ad 77)), (2, .int (nI q0)), (3, .int (nI f)), (4, .int (nI d)), (5, .int (nI q1))]) : W p l e ({ frames := 11, cells := 1, slots := 6, locals := 400 } : Room) s m AR below meth cd H locs 1 6 Q (F0 m 109 ls [.int (nI (n0 - f))]) := by
  obtain ⟨hx, hb, hml, hown, hts, hK, hNW, hfr, hlo9⟩ := id hC
  have hN76 : 76 < 79 := by decide
  have hN77 : 77 < 79 := by decide
  refine lv_iload hx hb (dk kL_lifts_1_ok 1 rfl) (lv_at hl 2 rfl) ?_
  refine lv_iload_n hx hb (dk kL_lifts_1_ok 2 rfl) rfl (lv_at hl 8 rfl) ?_
  refine n_isub hx hb (by omega) (dk kL_lifts_1_ok 3 rfl) ?_
  refine n_icmp_ne (tgt := 145) hx hb (by omega) (by omega) (dk kL_lifts_1_ok 4 rfl) (by decide) (fun h1 => ?_) (fun h1 => ?_)
  · exact absurd rfl h1
  · skip
    refine lv_aload_n hx hb (dk kL_lifts_1_ok 5 rfl) rfl (lv_at hl 5 rfl) ?_
    refine lv_iload_n hx hb (dk kL_lifts_1_ok 6 rfl) rfl (lv_at hl 7 rfl) ?_
    refine csR (As := [.ref (ad 0), .int (nI q0)]) (r := .int (nI (n0 - f))) (rest := []) ⟨hC.1, hC.2.1, hC.2.2.1, hC.2.2.2.1, hC.2.2.2.2.1⟩ (tL_manyN l D cI cQ cL ad 79 F hN76 hKW (q := q0) (n := n0 - f) (by omega) (heh0)) (cwSL 2 hC.2.2.2.2.1 mcL_many (lc0 _ (List.mem_of_getElem? (i := 6) rfl)) msL_many mini_RL rfl rfl hdL_many ⟨Nat.le_of_ble_eq_true rfl, Nat.le_of_ble_eq_true rfl⟩) hC.2.2.2.2.2.1 hP hC.2.2.2.2.2.2.1 rfl hl.1 rfl (Nat.le_of_ble_eq_true rfl) ⟨Nat.le_of_ble_eq_true rfl, Nat.le_of_ble_eq_true rfl⟩ (dk kL_lifts_1_ok 7 rfl) ?_
    refine lv_iload hx hb (dk kL_lifts_1_ok 8 rfl) (lv_at hl 2 rfl) ?_
    refine lv_iload_n hx hb (dk kL_lifts_1_ok 9 rfl) rfl (lv_at hl 8 rfl) ?_
    refine n_isub hx hb (by omega) (dk kL_lifts_1_ok 10 rfl) ?_
    refine n_icmp_ne (tgt := 145) hx hb (by omega) (by omega) (dk kL_lifts_1_ok 11 rfl) (by decide) (fun h2 => ?_) (fun h2 => ?_)
    · exact absurd rfl h2
    · skip
      refine lv_aload_n hx hb (dk kL_lifts_1_ok 12 rfl) rfl (lv_at hl 5 rfl) ?_
      refine lv_bipush (v := nI 8) hx hb (dk kL_lifts_1_ok 13 rfl) rfl ?_
      refine kw_count hC hKW hN76 hP (k := 8) (by decide) (lc0 _ (List.mem_of_getElem? (i := 14) rfl)) hl.1 (Nat.le_of_ble_eq_true rfl) ⟨Nat.le_of_ble_eq_true rfl, Nat.le_of_ble_eq_true rfl⟩ (dk kL_lifts_1_ok 14 rfl) (r := uY) rfl ?_
      refine lv_iload hx hb (dk kL_lifts_1_ok 15 rfl) (lv_at hl 0 rfl) ?_
      refine lv_iconst (v := nI 1) hx hb (dk kL_lifts_1_ok 16 rfl) rfl ?_
      refine lv_iadd hx hb (dk kL_lifts_1_ok 17 rfl) ?_
      refine lv_icmp_ne (tgt := 145) hx hb (dk kL_lifts_1_ok 18 rfl) (by decide) (fun h3 => ?_) (fun h3 => ?_)
      · exact absurd hu h3
      · skip
        refine lv_iconst (v := nI 1) hx hb (dk kL_lifts_1_ok 19 rfl) rfl ?_
        refine lv_goto (tgt := 146) hx hb (dk kL_lifts_1_ok 20 rfl) (by decide) ?_
        refine lv_istore (lv' := [(11, .int (nI 1)), (10, .int u), (9, .int (nI n1)), (8, .int (nI n0)), (7, .ref (ad 78)), (6, .int (nI t)), (0, .ref (ad 0)), (1, .ref (ad 77)), (2, .int (nI q0)), (3, .int (nI f)), (4, .int (nI d)), (5, .int (nI q1))]) hx hb (dk kL_lifts_1_ok 22 rfl) hl (by decide) rfl (fun ls hl => ?_)
        refine lv_iconst (v := nI 0) hx hb (dk kL_lifts_1_ok 23 rfl) rfl ?_
        refine lv_istore (lv' := [(12, .int (nI 0)), (11, .int (nI 1)), (10, .int u), (9, .int (nI n1)), (8, .int (nI n0)), (7, .ref (ad 78)), (6, .int (nI t)), (0, .ref (ad 0)), (1, .ref (ad 77)), (2, .int (nI q0)), (3, .int (nI f)), (4, .int (nI d)), (5, .int (nI q1))]) hx hb (dk kL_lifts_1_ok 24 rfl) hl (by decide) rfl (fun ls hl => ?_)
        have L151 : ∀ (fu : Nat) (k : Nat) (F : Nat → va_E) (H : Heap) (locs : List Loc), KW cI cQ ad F cY bY vY gY hY jY tY uY zY mY → F 77 = .inl (cI, 4, .inl lo) → F 78 = .inl (cI, 6, .inl a) → va_P D vwCl (iW ad 79 F) H → va_S (iA ad 79 s.heap.size) s.heap H locs → (k ≤ f) → f - k < fu → ∀ ls : Array Slot, lv_has ls 13 [(12, .int (nI k)), (11, .int (nI 1)), (10, .int u), (9, .int (nI n1)), (8, .int (nI n0)), (7, .ref (ad 78)), (6, .int (nI t)), (0, .ref (ad 0)), (1, .ref (ad 77)), (2, .int (nI q0)), (3, .int (nI f)), (4, .int (nI d)), (5, .int (nI q1))] → W p l e ({ frames := 11, cells := 1, slots := 6, locals := 400 } : Room) s m AR below meth cd H locs 1 6 Q (F0 m 151 ls []) := by
          intro fu
          induction fu with
          | zero => intros; omega
          | succ fu ih151 =>
            intro k F H locs hK_1 h77_2 h78_3 hP hS hkf hme151 ls hl
            refine lv_iload hx hb (dk kL_lifts_1_ok 25 rfl) (lv_at hl 0 rfl) ?_
            refine lv_iload_n hx hb (dk kL_lifts_1_ok 26 rfl) rfl (lv_at hl 10 rfl) ?_
            refine n_icmp_ge (tgt := 232) hx hb (by omega) (by omega) (dk kL_lifts_1_ok 27 rfl) (by decide) (fun h4 => ?_) (fun h4 => ?_)
            · skip
              refine lv_iload hx hb (dk kL_lifts_2_ok 6 rfl) (lv_at hl 1 rfl) ?_
              refine n_if_eq (tgt := 272) hx hb (by decide) (dk kL_lifts_2_ok 7 rfl) (by decide) (fun h9 => absurd h9 (by decide)) ?_
              intro _
              rcases (Bool.eq_false_or_eq_true (over cY)) with hsp5 | hsp5
              · skip
                refine lv_aload_n hx hb (dk kL_lifts_2_ok 8 rfl) rfl (lv_at hl 7 rfl) ?_
                refine lv_iconst (v := nI 1) hx hb (dk kL_lifts_2_ok 9 rfl) rfl ?_
                refine kw_count hC hK_1 hN76 hP (k := 1) (by decide) (lc0 _ (List.mem_of_getElem? (i := 14) rfl)) hl.1 (Nat.le_of_ble_eq_true rfl) ⟨Nat.le_of_ble_eq_true rfl, Nat.le_of_ble_eq_true rfl⟩ (dk kL_lifts_2_ok 10 rfl) (r := nI 1) (show (if over cY = true then nI 1 else nI 0) = nI 1 from if_pos hsp5) ?_
                refine lv_iconst (v := nI 1) hx hb (dk kL_lifts_2_ok 11 rfl) rfl ?_
                refine n_icmp_eq (tgt := 268) hx hb (by decide) (by decide) (dk kL_lifts_2_ok 12 rfl) (by decide) (fun h6 => ?_) (fun h6 => ?_)
                · skip
                  refine lv_iconst (v := nI 1) hx hb (dk kL_lifts_2_ok 24 rfl) rfl ?_
                  refine lv_goto (tgt := 273) hx hb (dk kL_lifts_2_ok 25 rfl) (by decide) ?_
                  exact hret _ ls _ _ _ ⟨_, _, _, _, _, _, _, _, _, _, _, hK_1, hPQ2, ht, h77_2, fun ho => absurd (hsp5.symm.trans ho) (by decide)⟩ hP hS (dk kL_lifts_2_ok 27 rfl)
                · exact absurd rfl h6
              · skip
                refine lv_aload_n hx hb (dk kL_lifts_2_ok 8 rfl) rfl (lv_at hl 7 rfl) ?_
                refine lv_iconst (v := nI 1) hx hb (dk kL_lifts_2_ok 9 rfl) rfl ?_
                refine kw_count hC hK_1 hN76 hP (k := 1) (by decide) (lc0 _ (List.mem_of_getElem? (i := 14) rfl)) hl.1 (Nat.le_of_ble_eq_true rfl) ⟨Nat.le_of_ble_eq_true rfl, Nat.le_of_ble_eq_true rfl⟩ (dk kL_lifts_2_ok 10 rfl) (r := nI 0) (show (if over cY = true then nI 1 else nI 0) = nI 0 from if_neg (by rw [hsp5]; decide)) ?_
                refine lv_iconst (v := nI 1) hx hb (dk kL_lifts_2_ok 11 rfl) rfl ?_
                refine n_icmp_eq (tgt := 268) hx hb (by decide) (by decide) (dk kL_lifts_2_ok 12 rfl) (by decide) (fun h7 => ?_) (fun h7 => ?_)
                · exact absurd h7 (by decide)
                · skip
                  refine lv_aload_n hx hb (dk kL_lifts_2_ok 13 rfl) rfl (lv_at hl 7 rfl) ?_
                  refine lv_iconst (v := nI 0) hx hb (dk kL_lifts_2_ok 14 rfl) rfl ?_
                  refine kw_count hC hK_1 hN76 hP (k := 0) (by decide) (lc0 _ (List.mem_of_getElem? (i := 14) rfl)) hl.1 (Nat.le_of_ble_eq_true rfl) ⟨Nat.le_of_ble_eq_true rfl, Nat.le_of_ble_eq_true rfl⟩ (dk kL_lifts_2_ok 15 rfl) (r := nI tY) (show (if over cY = true then -1 else nI tY) = nI tY from if_neg (by rw [hsp5]; decide)) ?_
                  refine lv_aload_n hx hb (dk kL_lifts_2_ok 16 rfl) rfl (lv_at hl 8 rfl) ?_
                  refine lv_iload hx hb (dk kL_lifts_2_ok 17 rfl) (lv_at hl 6 rfl) ?_
                  refine csW (As := [.ref (ad 77), .int (nI t)]) (rest := [.int (nI tY)]) ⟨hC.1, hC.2.1, hC.2.2.1, hC.2.2.2.1, hC.2.2.2.2.1⟩ (tL_next l D cI cQ cL ad 79 F hN77 lo h77_2 cY t htt (fun k9 hk9 => over_f hsp5 hk9) hl01) (cwSL 2 hC.2.2.2.2.1 mcL_next (lc0 _ (List.mem_of_getElem? (i := 17) rfl)) msL_next mini_RL rfl rfl hdL_next ⟨Nat.le_of_ble_eq_true rfl, Nat.le_of_ble_eq_true rfl⟩) hDi hC.2.2.2.2.2.1 hP hC.2.2.2.2.2.2.1 hS rfl hl.1 rfl (Nat.le_of_ble_eq_true rfl) ⟨Nat.le_of_ble_eq_true rfl, Nat.le_of_ble_eq_true rfl⟩ (dk kL_lifts_2_ok 18 rfl) (fun v9 F9 H locs hp hP hS => ?_)
                  obtain ⟨rfl, hF9⟩ := hp
                  have hK_5 : KW cI cQ ad F9 cY bY vY gY hY jY tY uY zY mY := KW_fr hK_1 (fun i hi => by rw [hF9]; exact va_up_ne _ _ (by omega))
                  have h77_6 : F9 77 = .inl (cI, 4, .inl (pasg cY t 8 lo t).1) := by rw [hF9]; exact va_up_self _ _ _
                  have h78_8 : F9 78 = .inl (cI, 6, .inl a) := by rw [hF9]; exact (va_up_ne _ _ (by decide)).trans h78_3
                  clear hF9
                  refine W.eq (g2 := F0 m 257 ls [.int (nI ((pasg cY t 8 lo t).2)), .int (nI tY)]) rfl ?_
                  refine W.eq (g2 := F0 m 257 ls [.int (nI tY), .int (nI tY)]) (by rw [(hen hsp5).1]) ?_
                  refine n_icmp_ne (tgt := 272) hx hb (by omega) (by omega) (dk kL_lifts_2_ok 19 rfl) (by decide) (fun h8 => ?_) (fun h8 => ?_)
                  · exact absurd rfl h8
                  · skip
                    refine lv_aload_n hx hb (dk kL_lifts_2_ok 20 rfl) rfl (lv_at hl 7 rfl) ?_
                    refine lv_aload_n hx hb (dk kL_lifts_2_ok 21 rfl) rfl (lv_at hl 8 rfl) ?_
                    refine csR (As := [.ref (ad 0), .ref (ad 77)]) (rest := []) ⟨hC.1, hC.2.1, hC.2.2.1, hC.2.2.2.1, hC.2.2.2.2.1⟩ (tL_losts l D cI cQ cL ad 79 F9 hN77 hK_5 ((pasg cY t 8 lo t).1) h77_6 (hen hsp5).2.1) (cwSL 2 hC.2.2.2.2.1 mcL_losts (lc0 _ (List.mem_of_getElem? (i := 20) rfl)) msL_losts mini_RL rfl rfl hdL_losts ⟨Nat.le_of_ble_eq_true rfl, Nat.le_of_ble_eq_true rfl⟩) hC.2.2.2.2.2.1 hP hC.2.2.2.2.2.2.1 rfl hl.1 rfl (Nat.le_of_ble_eq_true rfl) ⟨Nat.le_of_ble_eq_true rfl, Nat.le_of_ble_eq_true rfl⟩ (dk kL_lifts_2_ok 22 rfl) ?_
                    refine n_if_eq (tgt := 272) hx hb (by decide) (dk kL_lifts_2_ok 23 rfl) (by decide) (fun h9 => absurd h9 (by decide)) ?_
                    intro _
                    refine lv_iconst (v := nI 1) hx hb (dk kL_lifts_2_ok 24 rfl) rfl ?_
                    refine lv_goto (tgt := 273) hx hb (dk kL_lifts_2_ok 25 rfl) (by decide) ?_
                    exact hret _ ls _ _ _ ⟨_, _, _, _, _, _, _, _, _, _, _, hK_5, hPQ2, ht, h77_6, fun _ => ⟨(hen hsp5).2.2, (hen hsp5).2.1⟩⟩ hP hS (dk kL_lifts_2_ok 27 rfl)
            · skip
              refine lv_iload hx hb (dk kL_lifts_1_ok 28 rfl) (lv_at hl 1 rfl) ?_
              refine n_if_eq (tgt := 223) hx hb (by decide) (dk kL_lifts_1_ok 29 rfl) (by decide) (fun h9 => absurd h9 (by decide)) ?_
              intro _
              refine lv_iload hx hb (dk kL_lifts_1_ok 30 rfl) (lv_at hl 12 rfl) ?_
              refine lv_bipush (v := nI 84) hx hb (dk kL_lifts_1_ok 31 rfl) rfl ?_
              refine n_icmp_ne (tgt := 186) hx hb (by omega) (by decide) (dk kL_lifts_1_ok 32 rfl) (by decide) (fun h9 => ?_) (fun h9 => ?_)
              · skip
                refine lv_aload_n hx hb (dk kL_lifts_1_ok 42 rfl) rfl (lv_at hl 7 rfl) ?_
                refine lv_aload hx hb (dk kL_lifts_1_ok 43 rfl) (lv_at hl 5 rfl) ?_
                refine lv_iload hx hb (dk kL_lifts_1_ok 44 rfl) (lv_at hl 0 rfl) ?_
                refine ald (j := k) hx hb hK hP (by omega) h78_3 rfl (by omega) (by decide) (dk kL_lifts_1_ok 45 rfl) ?_
                rw [show a k = nI (S k) from ha k (by omega)]
                refine lv_iconst (v := nI 2) hx hb (dk kL_lifts_1_ok 46 rfl) rfl ?_
                refine kw_wink hC hK_1 hN76 hP ht (w := S k) (k := 2) (hS16 k (by omega)) (by decide) (lc0 _ (List.mem_of_getElem? (i := 3) rfl)) hl.1 (Nat.le_of_ble_eq_true rfl) ⟨Nat.le_of_ble_eq_true rfl, Nat.le_of_ble_eq_true rfl⟩ (dk kL_lifts_1_ok 47 rfl) (r := cY (S k)) rfl ?_
                refine lv_iload hx hb (dk kL_lifts_1_ok 48 rfl) (lv_at hl 12 rfl) ?_
                refine lv_icmp_ne (tgt := 223) hx hb (dk kL_lifts_1_ok 49 rfl) (by decide) (fun h10 => ?_) (fun h10 => ?_)
                · exact absurd (hno h9 k (by omega)).1 h10
                · skip
                  refine lv_aload_n hx hb (dk kL_lifts_1_ok 50 rfl) rfl (lv_at hl 7 rfl) ?_
                  refine lv_aload hx hb (dk kL_lifts_1_ok 51 rfl) (lv_at hl 5 rfl) ?_
                  refine lv_iload hx hb (dk kL_lifts_1_ok 52 rfl) (lv_at hl 0 rfl) ?_
                  refine ald (j := k) hx hb hK hP (by omega) h78_3 rfl (by omega) (by decide) (dk kL_lifts_1_ok 53 rfl) ?_
                  rw [show a k = nI (S k) from ha k (by omega)]
                  refine lv_iconst (v := nI 3) hx hb (dk kL_lifts_1_ok 54 rfl) rfl ?_
                  refine kw_wink hC hK_1 hN76 hP ht (w := S k) (k := 3) (hS16 k (by omega)) (by decide) (lc0 _ (List.mem_of_getElem? (i := 3) rfl)) hl.1 (Nat.le_of_ble_eq_true rfl) ⟨Nat.le_of_ble_eq_true rfl, Nat.le_of_ble_eq_true rfl⟩ (dk kL_lifts_1_ok 55 rfl) (r := pls cY bY (S k)) rfl ?_
                  refine lv_iload hx hb (dk kL_lifts_1_ok 56 rfl) (lv_at hl 3 rfl) ?_
                  refine lv_iload hx hb (dk kL_lifts_1_ok 57 rfl) (lv_at hl 0 rfl) ?_
                  refine n_iadd hx hb (dk kL_lifts_1_ok 58 rfl) ?_
                  refine lv_icmp_ne (tgt := 223) hx hb (dk kL_lifts_1_ok 59 rfl) (by decide) (fun h11 => ?_) (fun h11 => ?_)
                  · exact absurd (hno h9 k (by omega)).2 h11
                  · skip
                    refine lv_iconst (v := nI 1) hx hb (dk kL_lifts_2_ok 0 rfl) rfl ?_
                    refine lv_goto (tgt := 224) hx hb (dk kL_lifts_2_ok 1 rfl) (by decide) ?_
                    refine lv_istore (lv' := [(11, .int (nI 1)), (12, .int (nI k)), (10, .int u), (9, .int (nI n1)), (8, .int (nI n0)), (7, .ref (ad 78)), (6, .int (nI t)), (0, .ref (ad 0)), (1, .ref (ad 77)), (2, .int (nI q0)), (3, .int (nI f)), (4, .int (nI d)), (5, .int (nI q1))]) hx hb (dk kL_lifts_2_ok 3 rfl) hl (by decide) rfl (fun ls hl => ?_)
                    refine lv_iinc (v := nI (k + 1)) (lv' := [(12, .int (nI (k + 1))), (11, .int (nI 1)), (10, .int u), (9, .int (nI n1)), (8, .int (nI n0)), (7, .ref (ad 78)), (6, .int (nI t)), (0, .ref (ad 0)), (1, .ref (ad 77)), (2, .int (nI q0)), (3, .int (nI f)), (4, .int (nI d)), (5, .int (nI q1))]) hx hb (dk kL_lifts_2_ok 4 rfl) hl (k := 1) rfl (n_inc _) (by decide) rfl (fun ls hl => ?_)
                    refine lv_goto (tgt := 151) hx hb (dk kL_lifts_2_ok 5 rfl) (by decide) ?_
                    exact ih151 (k + 1) _ _ _ hK_1 h77_2 h78_3 hP hS (by first | rfl | omega | assumption) (by omega) ls (lv_sub hl [0, 1, 2, 3, 4, 5, 6, 7, 8, 9, 10, 11, 12] rfl)
              · skip
                refine lv_aload_n hx hb (dk kL_lifts_1_ok 33 rfl) rfl (lv_at hl 7 rfl) ?_
                refine lv_aload hx hb (dk kL_lifts_1_ok 34 rfl) (lv_at hl 5 rfl) ?_
                refine lv_iload hx hb (dk kL_lifts_1_ok 35 rfl) (lv_at hl 0 rfl) ?_
                refine ald (j := k) hx hb hK hP (by omega) h78_3 rfl (by omega) (by decide) (dk kL_lifts_1_ok 36 rfl) ?_
                rw [show a k = nI (S k) from ha k (by omega)]
                refine lv_iconst (v := nI 2) hx hb (dk kL_lifts_1_ok 37 rfl) rfl ?_
                refine kw_wink hC hK_1 hN76 hP ht (w := S k) (k := 2) (hS16 k (by omega)) (by decide) (lc0 _ (List.mem_of_getElem? (i := 3) rfl)) hl.1 (Nat.le_of_ble_eq_true rfl) ⟨Nat.le_of_ble_eq_true rfl, Nat.le_of_ble_eq_true rfl⟩ (dk kL_lifts_1_ok 38 rfl) (r := cY (S k)) rfl ?_
                refine lv_iconst (v := -1) hx hb (dk kL_lifts_1_ok 39 rfl) rfl ?_
                refine lv_icmp_ne (tgt := 223) hx hb (dk kL_lifts_1_ok 40 rfl) (by decide) (fun h12 => ?_) (fun h12 => ?_)
                · exact absurd (h84 h9 k (by omega)) h12
                · skip
                  refine lv_goto (tgt := 219) hx hb (dk kL_lifts_1_ok 41 rfl) (by decide) ?_
                  refine lv_iconst (v := nI 1) hx hb (dk kL_lifts_2_ok 0 rfl) rfl ?_
                  refine lv_goto (tgt := 224) hx hb (dk kL_lifts_2_ok 1 rfl) (by decide) ?_
                  refine lv_istore (lv' := [(11, .int (nI 1)), (12, .int (nI k)), (10, .int u), (9, .int (nI n1)), (8, .int (nI n0)), (7, .ref (ad 78)), (6, .int (nI t)), (0, .ref (ad 0)), (1, .ref (ad 77)), (2, .int (nI q0)), (3, .int (nI f)), (4, .int (nI d)), (5, .int (nI q1))]) hx hb (dk kL_lifts_2_ok 3 rfl) hl (by decide) rfl (fun ls hl => ?_)
                  refine lv_iinc (v := nI (k + 1)) (lv' := [(12, .int (nI (k + 1))), (11, .int (nI 1)), (10, .int u), (9, .int (nI n1)), (8, .int (nI n0)), (7, .ref (ad 78)), (6, .int (nI t)), (0, .ref (ad 0)), (1, .ref (ad 77)), (2, .int (nI q0)), (3, .int (nI f)), (4, .int (nI d)), (5, .int (nI q1))]) hx hb (dk kL_lifts_2_ok 4 rfl) hl (k := 1) rfl (n_inc _) (by decide) rfl (fun ls hl => ?_)
                  refine lv_goto (tgt := 151) hx hb (dk kL_lifts_2_ok 5 rfl) (by decide) ?_
                  exact ih151 (k + 1) _ _ _ hK_1 h77_2 h78_3 hP hS (by first | rfl | omega | assumption) (by omega) ls (lv_sub hl [0, 1, 2, 3, 4, 5, 6, 7, 8, 9, 10, 11, 12] rfl)
        exact L151 _ 0 _ _ _ hKW h77 h78 hP hS (by first | rfl | omega | assumption) (Nat.lt_succ_self _) ls (lv_sub hl [0, 1, 2, 3, 4, 5, 6, 7, 8, 9, 10, 11, 12] rfl)
set_option maxRecDepth 100000 in
set_option maxHeartbeats 8000000 in
theorem lifts_1 {p : Program} {l : Launch} {e : Env} {s : State} {m : MethodId} {AR : Array Value} {below : List Frame} {meth : Method} {cd : Code} {Q : State → Prop} {D : va_G} {cI cQ cL : ClassId} {ad : Nat → Nat} (hC : CX p s m cd cL_lifts 13 AR D cI cQ cL ({ frames := 11, cells := 1, slots := 6, locals := 400 } : Room)) (hDi : iD ad 79)
    (hret : ∀ (pc : Nat) (ls : Array Slot) (H : Heap) (locs : List Loc) (F9 : Nat → va_E), LINV cI cQ ad F9 → va_P D vwCl (iW ad 79 F9) H → va_S (iA ad 79 s.heap.size) s.heap H locs → decode cL_lifts pc = .ok (.ireturn, 1) → W p l e ({ frames := 11, cells := 1, slots := 6, locals := 400 } : Room) s m AR below meth cd H locs 1 6 Q (F0 m pc ls [.int (nI 1)]))
    {c b v g h j : Nat → Int32} {t : Nat} {u z : Int32} {m9 : Nat} {Np : Nat → Nat} {Wp : Nat → Nat → Nat} {q0 q1 f d : Nat} {lo : Nat → Int32} (hR : Rc c Np Wp) (hRl : Rl c b v Np Wp) (ht : t < 4) (hq0 : q0 < 169) (hq1 : q1 < 169) (hne : q1 ≠ q0) (hf : 1 ≤ f ∧ f ≤ 3) (hd : d ≤ 7) (hfn : f ≤ Np q0) (hrb : rbs q0 d = nI q1) (hJ : JT j t) (hlo : ∀ i, i < 4 → lo i = j i) (hwn : wnl c b v t z (nI (q0 % 13)) (nI (q0 / 13)) f (nI d) = 0) {F : Nat → va_E} {H : Heap} {locs : List Loc} (hKW : KW cI cQ ad F c b v g h j t u z m9) (h77 : F 77 = .inl (cI, 4, .inl lo)) (h78 : F 78 = .inl (cI, 6, .inl (fun _ => 0))) (hP : va_P D vwCl (iW ad 79 F) H) (hS : va_S (iA ad 79 s.heap.size) s.heap H locs) (ls : Array Slot) (hl : lv_has ls 13 [(7, .ref (ad 78)), (6, .int (nI t)), (0, .ref (ad 0)), (1, .ref (ad 77)), (2, .int (nI q0)), (3, .int (nI f)), (4, .int (nI d)), (5, .int (nI q1))]) : W p l e ({ frames := 11, cells := 1, slots := 6, locals := 400 } : Room) s m AR below meth cd H locs 1 6 Q (F0 m 13 ls []) := by
  obtain ⟨hx, hb, hml, hown, hts, hK, hNW, hfr, hlo9⟩ := id hC
  have hN76 : 76 < 79 := by decide
  have hN77 : 77 < 79 := by decide
  have hl01 : ∀ i, i < 4 → lo i = nI 0 ∨ lo i = nI 1 := fun i hi => by
    rw [hlo i hi]
    exact hJ.1 i hi
  have hle0 := hR.le (q := q0) (by omega)
  have hlow : low c b v (cat (nI (q0 % 13)) (nI (q0 / 13))) f = nI (Wp q0 (Np q0 - f)) := by
    rw [cat_q, hRl.lowN hR (by omega) hf.1, if_pos hfn]
  have hw16 := (hR.1 q0 (Np q0 - f) (by omega)).1
  have hbes : beside (nI (q0 % 13)) (nI (q0 / 13)) (nI d) = nI q1 := hrb
  have eC : liC c b v (nI (q0 % 13)) (nI (q0 / 13)) f (nI d) = mov1 c b v (Wp q0 (Np q0 - f)) (nI q1) := by
    unfold liC
    rw [hlow, if_pos (wk_nI hw16), ix_nI (by omega), hbes]
  have eB : liB c b v (nI (q0 % 13)) (nI (q0 / 13)) f (nI d) = mov2 c b v (Wp q0 (Np q0 - f)) (nI q1) := by
    unfold liB
    rw [hlow, if_pos (wk_nI hw16), ix_nI (by omega), hbes]
  have eV : liV c b v (nI (q0 % 13)) (nI (q0 / 13)) f (nI d) = mov3 c b v (Wp q0 (Np q0 - f)) (nI q1) := by
    unfold liV
    rw [hlow, if_pos (wk_nI hw16), ix_nI (by omega), hbes]
  have hL := lift_P hR hRl hq0 hq1 hne hf.1 hfn
  have hga : hgt (liC c b v (nI (q0 % 13)) (nI (q0 / 13)) f (nI d)) (cat (nI (q0 % 13)) (nI (q0 / 13))) = Np q0 - f := by
    rw [eC, cat_q]
    exact hL.2.1
  have hen : over (mov1 c b v (Wp q0 (Np q0 - f)) (nI q1)) = false → (pasg (mov1 c b v (Wp q0 (Np q0 - f)) (nI q1)) t 8 lo t).2 = (pasg (mov1 c b v (Wp q0 (Np q0 - f)) (nI q1)) t 8 j t).2 ∧ (∀ i, i < 4 → (pasg (mov1 c b v (Wp q0 (Np q0 - f)) (nI q1)) t 8 lo t).1 i = (pasg (mov1 c b v (Wp q0 (Np q0 - f)) (nI q1)) t 8 j t).1 i) ∧ JT (pasg (mov1 c b v (Wp q0 (Np q0 - f)) (nI q1)) t 8 j t).1 (pasg (mov1 c b v (Wp q0 (Np q0 - f)) (nI q1)) t 8 j t).2 := fun ho => ⟨(pas_cg 8 _ _ t hlo).1, (pas_cg 8 _ _ t hlo).2, pas_ok (fun k hk => over_f ho hk) 8 _ t hJ.1 (Nat.lt_of_le_of_lt (on4_le _) (by decide))⟩
  refine lv_aload_n hx hb (dk kL_lifts_0_ok 7 rfl) rfl (lv_at hl 2 rfl) ?_
  refine lv_iload_n hx hb (dk kL_lifts_0_ok 8 rfl) rfl (lv_at hl 4 rfl) ?_
  refine csR (As := [.ref (ad 0), .int (nI q0)]) (r := .int (nI (Np q0))) (rest := []) ⟨hC.1, hC.2.1, hC.2.2.1, hC.2.2.2.1, hC.2.2.2.2.1⟩ (tL_manyN l D cI cQ cL ad 79 F hN76 hKW (q := q0) (n := Np q0) (by omega) (hR.hgtN (by omega))) (cwSL 2 hC.2.2.2.2.1 mcL_many (lc0 _ (List.mem_of_getElem? (i := 6) rfl)) msL_many mini_RL rfl rfl hdL_many ⟨Nat.le_of_ble_eq_true rfl, Nat.le_of_ble_eq_true rfl⟩) hC.2.2.2.2.2.1 hP hC.2.2.2.2.2.2.1 rfl hl.1 rfl (Nat.le_of_ble_eq_true rfl) ⟨Nat.le_of_ble_eq_true rfl, Nat.le_of_ble_eq_true rfl⟩ (dk kL_lifts_0_ok 9 rfl) ?_
  refine lv_istore (lv' := [(8, .int (nI (Np q0))), (7, .ref (ad 78)), (6, .int (nI t)), (0, .ref (ad 0)), (1, .ref (ad 77)), (2, .int (nI q0)), (3, .int (nI f)), (4, .int (nI d)), (5, .int (nI q1))]) hx hb (dk kL_lifts_0_ok 10 rfl) hl (by decide) rfl (fun ls hl => ?_)
  refine lv_iconst (v := nI 0) hx hb (dk kL_lifts_0_ok 11 rfl) rfl ?_
  refine lv_istore (lv' := [(9, .int (nI 0)), (8, .int (nI (Np q0))), (7, .ref (ad 78)), (6, .int (nI t)), (0, .ref (ad 0)), (1, .ref (ad 77)), (2, .int (nI q0)), (3, .int (nI f)), (4, .int (nI d)), (5, .int (nI q1))]) hx hb (dk kL_lifts_0_ok 12 rfl) hl (by decide) rfl (fun ls hl => ?_)
  have L23 : ∀ (fu : Nat) (w : Nat) (a : Nat → Int32) (F : Nat → va_E) (H : Heap) (locs : List Loc), KW cI cQ ad F c b v g h j t u z m9 → F 77 = .inl (cI, 4, .inl lo) → F 78 = .inl (cI, 6, .inl a) → va_P D vwCl (iW ad 79 F) H → va_S (iA ad 79 s.heap.size) s.heap H locs → (w ≤ 16) → (∀ k, k < f → Wp q0 (Np q0 - f + k) < w → a k = nI (Wp q0 (Np q0 - f + k))) → 16 - w < fu → ∀ ls : Array Slot, lv_has ls 13 [(9, .int (nI w)), (8, .int (nI (Np q0))), (7, .ref (ad 78)), (6, .int (nI t)), (0, .ref (ad 0)), (1, .ref (ad 77)), (2, .int (nI q0)), (3, .int (nI f)), (4, .int (nI d)), (5, .int (nI q1))] → W p l e ({ frames := 11, cells := 1, slots := 6, locals := 400 } : Room) s m AR below meth cd H locs 1 6 Q (F0 m 23 ls []) := by
    intro fu
    induction fu with
    | zero => intros; omega
    | succ fu ih23 =>
      intro w a F H locs hK_1 h77_2 h78_3 hP hS hwl haw hme23 ls hl
      refine lv_iload hx hb (dk kL_lifts_0_ok 13 rfl) (lv_at hl 0 rfl) ?_
      refine lv_bipush (v := nI 16) hx hb (dk kL_lifts_0_ok 14 rfl) rfl ?_
      refine n_icmp_ge (tgt := 78) hx hb (by omega) (by decide) (dk kL_lifts_0_ok 15 rfl) (by decide) (fun h1 => ?_) (fun h1 => ?_)
      · skip
        refine lv_aload_n hx hb (dk kL_lifts_0_ok 43 rfl) rfl (lv_at hl 4 rfl) ?_
        refine lv_iload hx hb (dk kL_lifts_0_ok 44 rfl) (lv_at hl 9 rfl) ?_
        refine csR (As := [.ref (ad 0), .int (nI q1)]) (r := .int (nI (Np q1))) (rest := []) ⟨hC.1, hC.2.1, hC.2.2.1, hC.2.2.2.1, hC.2.2.2.2.1⟩ (tL_manyN l D cI cQ cL ad 79 F hN76 hK_1 (q := q1) (n := Np q1) (by omega) (hR.hgtN (by omega))) (cwSL 2 hC.2.2.2.2.1 mcL_many (lc0 _ (List.mem_of_getElem? (i := 6) rfl)) msL_many mini_RL rfl rfl hdL_many ⟨Nat.le_of_ble_eq_true rfl, Nat.le_of_ble_eq_true rfl⟩) hC.2.2.2.2.2.1 hP hC.2.2.2.2.2.2.1 rfl hl.1 rfl (Nat.le_of_ble_eq_true rfl) ⟨Nat.le_of_ble_eq_true rfl, Nat.le_of_ble_eq_true rfl⟩ (dk kL_lifts_0_ok 45 rfl) ?_
        refine lv_istore (lv' := [(9, .int (nI (Np q1))), (8, .int (nI (Np q0))), (7, .ref (ad 78)), (6, .int (nI t)), (0, .ref (ad 0)), (1, .ref (ad 77)), (2, .int (nI q0)), (3, .int (nI f)), (4, .int (nI d)), (5, .int (nI q1))]) hx hb (dk kL_lifts_0_ok 46 rfl) hl (by decide) rfl (fun ls hl => ?_)
        refine lv_aload_n hx hb (dk kL_lifts_0_ok 47 rfl) rfl (lv_at hl 4 rfl) ?_
        refine lv_bipush (v := nI 8) hx hb (dk kL_lifts_0_ok 48 rfl) rfl ?_
        refine kw_count hC hK_1 hN76 hP (k := 8) (by decide) (lc0 _ (List.mem_of_getElem? (i := 14) rfl)) hl.1 (Nat.le_of_ble_eq_true rfl) ⟨Nat.le_of_ble_eq_true rfl, Nat.le_of_ble_eq_true rfl⟩ (dk kL_lifts_0_ok 49 rfl) (r := u) rfl ?_
        refine lv_istore (lv' := [(10, .int u), (9, .int (nI (Np q1))), (8, .int (nI (Np q0))), (7, .ref (ad 78)), (6, .int (nI t)), (0, .ref (ad 0)), (1, .ref (ad 77)), (2, .int (nI q0)), (3, .int (nI f)), (4, .int (nI d)), (5, .int (nI q1))]) hx hb (dk kL_lifts_0_ok 50 rfl) hl (by decide) rfl (fun ls hl => ?_)
        refine lv_aload_n hx hb (dk kL_lifts_0_ok 51 rfl) rfl (lv_at hl 5 rfl) ?_
        refine lv_iload_n hx hb (dk kL_lifts_0_ok 52 rfl) rfl (lv_at hl 7 rfl) ?_
        refine lv_bipush (v := nI 13) hx hb (dk kL_lifts_0_ok 53 rfl) rfl ?_
        refine n_irem hx hb (by omega) (by decide) (by decide) (dk kL_lifts_0_ok 54 rfl) ?_
        refine lv_iload_n hx hb (dk kL_lifts_0_ok 55 rfl) rfl (lv_at hl 7 rfl) ?_
        refine lv_bipush (v := nI 13) hx hb (dk kL_lifts_0_ok 56 rfl) rfl ?_
        refine n_idiv hx hb (by omega) (by decide) (by decide) (dk kL_lifts_0_ok 57 rfl) ?_
        refine lv_iload_n hx hb (dk kL_lifts_0_ok 58 rfl) rfl (lv_at hl 8 rfl) ?_
        refine lv_iload hx hb (dk kL_lifts_0_ok 59 rfl) (lv_at hl 9 rfl) ?_
        refine kw_lift hC hK_1 hN76 hP hDi hS ht (q := q0) hq0 (d := d) (f := f) hd ⟨hf.1, by omega⟩ hwn (lc0 _ (List.mem_of_getElem? (i := 23) rfl)) hl.1 (Nat.le_of_ble_eq_true rfl) ⟨Nat.le_of_ble_eq_true rfl, Nat.le_of_ble_eq_true rfl⟩ (dk kL_lifts_1_ok 0 rfl) (r := nI (Np q0 - f)) (by rw [hga]) (fun F_4 H locs hK_5 hfr_6 hP hS => ?_)
        have h77_7 : F_4 77 = .inl (cI, 4, .inl lo) := (hfr_6 77 (by decide)).trans h77_2
        have h78_8 : F_4 78 = .inl (cI, 6, .inl a) := (hfr_6 78 (by decide)).trans h78_3
        rw [eC, eB, eV] at hK_5
        exact lifts_2 hC hDi hret (q0 := q0) (q1 := q1) (f := f) (d := d) (t := t) (n0 := Np q0) (n1 := Np q1) (lo := lo) (a := a) (S := fun k => Wp q0 (Np q0 - f + k)) hq0 hq1 hf hfn (hR.le (by omega)) (hR.le (by omega)) ht hL.1 (pasg_lt _ _ ht _ _ _) hL.2.1 rfl (fun k hk => haw k hk (by have q9 := (hR.1 q0 (Np q0 - f + k) (by omega)).1; omega)) (fun k hk => (hR.1 q0 (Np q0 - f + k) (by omega)).1) hL.2.2.1 hL.2.2.2 hl01 hen hK_5 h77_7 h78_8 hP hS ls (lv_sub hl [0, 1, 2, 3, 4, 5, 6, 7, 8, 9, 10] rfl)
      · skip
        refine lv_aload_n hx hb (dk kL_lifts_0_ok 16 rfl) rfl (lv_at hl 4 rfl) ?_
        refine lv_iload hx hb (dk kL_lifts_0_ok 17 rfl) (lv_at hl 0 rfl) ?_
        refine lv_iconst (v := nI 2) hx hb (dk kL_lifts_0_ok 18 rfl) rfl ?_
        refine kw_wink hC hK_1 hN76 hP ht (w := w) (k := 2) (by omega) (by decide) (lc0 _ (List.mem_of_getElem? (i := 3) rfl)) hl.1 (Nat.le_of_ble_eq_true rfl) ⟨Nat.le_of_ble_eq_true rfl, Nat.le_of_ble_eq_true rfl⟩ (dk kL_lifts_0_ok 19 rfl) (r := c w) rfl ?_
        refine lv_iload_n hx hb (dk kL_lifts_0_ok 20 rfl) rfl (lv_at hl 6 rfl) ?_
        refine lv_icmp_ne (tgt := 72) hx hb (dk kL_lifts_0_ok 21 rfl) (by decide) (fun h2 => ?_) (fun h2 => ?_)
        · skip
          refine lv_iinc (v := nI (w + 1)) (lv' := [(9, .int (nI (w + 1))), (8, .int (nI (Np q0))), (7, .ref (ad 78)), (6, .int (nI t)), (0, .ref (ad 0)), (1, .ref (ad 77)), (2, .int (nI q0)), (3, .int (nI f)), (4, .int (nI d)), (5, .int (nI q1))]) hx hb (dk kL_lifts_0_ok 41 rfl) hl (k := 0) rfl (n_inc _) (by decide) rfl (fun ls hl => ?_)
          refine lv_goto (tgt := 23) hx hb (dk kL_lifts_0_ok 42 rfl) (by decide) ?_
          exact ih23 (w + 1) a _ _ _ hK_1 h77_2 h78_3 hP hS (by first | rfl | omega | assumption) (by exact lf_sk hR haw (by first | exact Or.inl (by assumption) | exact Or.inr ⟨i, hi, hWi, by omega⟩) hfn) (by omega) ls (lv_sub hl [0, 1, 2, 3, 4, 5, 6, 7, 8, 9] rfl)
        · skip
          obtain ⟨i, hi, hWi⟩ := hR.cell (by omega) (by omega) h2
          have hpl := pls_at hR hRl hi
          rw [hWi] at hpl
          have hi16 := hR.i hi
          refine lv_aload_n hx hb (dk kL_lifts_0_ok 22 rfl) rfl (lv_at hl 4 rfl) ?_
          refine lv_iload hx hb (dk kL_lifts_0_ok 23 rfl) (lv_at hl 0 rfl) ?_
          refine lv_iconst (v := nI 3) hx hb (dk kL_lifts_0_ok 24 rfl) rfl ?_
          refine kw_wink hC hK_1 hN76 hP ht (w := w) (k := 3) (by omega) (by decide) (lc0 _ (List.mem_of_getElem? (i := 3) rfl)) hl.1 (Nat.le_of_ble_eq_true rfl) ⟨Nat.le_of_ble_eq_true rfl, Nat.le_of_ble_eq_true rfl⟩ (dk kL_lifts_0_ok 25 rfl) (r := nI i) (hpl) ?_
          refine lv_iload hx hb (dk kL_lifts_0_ok 26 rfl) (lv_at hl 1 rfl) ?_
          refine lv_iload_n hx hb (dk kL_lifts_0_ok 27 rfl) rfl (lv_at hl 7 rfl) ?_
          refine n_isub hx hb (by omega) (dk kL_lifts_0_ok 28 rfl) ?_
          refine n_icmp_lt (tgt := 72) hx hb (by omega) (by omega) (dk kL_lifts_0_ok 29 rfl) (by decide) (fun h3 => ?_) (fun h3 => ?_)
          · skip
            refine lv_iinc (v := nI (w + 1)) (lv' := [(9, .int (nI (w + 1))), (8, .int (nI (Np q0))), (7, .ref (ad 78)), (6, .int (nI t)), (0, .ref (ad 0)), (1, .ref (ad 77)), (2, .int (nI q0)), (3, .int (nI f)), (4, .int (nI d)), (5, .int (nI q1))]) hx hb (dk kL_lifts_0_ok 41 rfl) hl (k := 0) rfl (n_inc _) (by decide) rfl (fun ls hl => ?_)
            refine lv_goto (tgt := 23) hx hb (dk kL_lifts_0_ok 42 rfl) (by decide) ?_
            exact ih23 (w + 1) a _ _ _ hK_1 h77_2 h78_3 hP hS (by first | rfl | omega | assumption) (by exact lf_sk hR haw (by first | exact Or.inl (by assumption) | exact Or.inr ⟨i, hi, hWi, by omega⟩) hfn) (by omega) ls (lv_sub hl [0, 1, 2, 3, 4, 5, 6, 7, 8, 9] rfl)
          · skip
            refine lv_aload hx hb (dk kL_lifts_0_ok 30 rfl) (lv_at hl 2 rfl) ?_
            refine lv_aload_n hx hb (dk kL_lifts_0_ok 31 rfl) rfl (lv_at hl 4 rfl) ?_
            refine lv_iload hx hb (dk kL_lifts_0_ok 32 rfl) (lv_at hl 0 rfl) ?_
            refine lv_iconst (v := nI 3) hx hb (dk kL_lifts_0_ok 33 rfl) rfl ?_
            refine kw_wink hC hK_1 hN76 hP ht (w := w) (k := 3) (by omega) (by decide) (lc0 _ (List.mem_of_getElem? (i := 3) rfl)) hl.1 (Nat.le_of_ble_eq_true rfl) ⟨Nat.le_of_ble_eq_true rfl, Nat.le_of_ble_eq_true rfl⟩ (dk kL_lifts_0_ok 34 rfl) (r := nI i) (hpl) ?_
            refine lv_iload hx hb (dk kL_lifts_0_ok 35 rfl) (lv_at hl 1 rfl) ?_
            refine lv_isub hx hb (dk kL_lifts_0_ok 36 rfl) ?_
            refine lv_iload_n hx hb (dk kL_lifts_0_ok 37 rfl) rfl (lv_at hl 7 rfl) ?_
            refine lv_iadd hx hb (dk kL_lifts_0_ok 38 rfl) ?_
            refine W.eq (g2 := F0 m 69 ls [.int (nI (i + f - Np q0)), .ref (ad 78)]) (by rw [ix_sub (by omega)]) ?_
            refine lv_iload hx hb (dk kL_lifts_0_ok 39 rfl) (lv_at hl 0 rfl) ?_
            refine ast (va_up F 78 (.inl (cI, 6, .inl (upd a (i + f - Np q0) (nI w))))) (k := 78) (j := i + f - Np q0) hx hb hC.2.2.2.2.2.1 hDi hP hS (by omega) h78_3 rfl (by omega) (by decide) (dk kL_lifts_0_ok 40 rfl) rfl (fun H locs hP hS => ?_)
            have hK_10 : KW cI cQ ad (va_up F 78 (.inl (cI, 6, .inl (upd a (i + f - Np q0) (nI w))))) c b v g h j t u z m9 := KW_fr hK_1 (fun i hi => va_up_ne _ _ (by omega))
            have h78_11 : va_up F 78 (.inl (cI, 6, .inl (upd a (i + f - Np q0) (nI w)))) 78 = .inl (cI, 6, .inl (upd a (i + f - Np q0) (nI w))) := va_up_self _ _ _
            have h77_12 : va_up F 78 (.inl (cI, 6, .inl (upd a (i + f - Np q0) (nI w)))) 77 = .inl (cI, 4, .inl lo) := (va_up_ne _ _ (by decide)).trans h77_2
            generalize va_up F 78 (.inl (cI, 6, .inl (upd a (i + f - Np q0) (nI w)))) = F_9 at hP hK_10 h78_11 h77_12
            refine lv_iinc (v := nI (w + 1)) (lv' := [(9, .int (nI (w + 1))), (8, .int (nI (Np q0))), (7, .ref (ad 78)), (6, .int (nI t)), (0, .ref (ad 0)), (1, .ref (ad 77)), (2, .int (nI q0)), (3, .int (nI f)), (4, .int (nI d)), (5, .int (nI q1))]) hx hb (dk kL_lifts_0_ok 41 rfl) hl (k := 0) rfl (n_inc _) (by decide) rfl (fun ls hl => ?_)
            refine lv_goto (tgt := 23) hx hb (dk kL_lifts_0_ok 42 rfl) (by decide) ?_
            exact ih23 (w + 1) (upd a (i + f - Np q0) (nI w)) _ _ _ hK_10 h77_12 h78_11 hP hS (by first | rfl | omega | assumption) (by exact lf_st hR haw hi hWi (by omega) hfn) (by omega) ls (lv_sub hl [0, 1, 2, 3, 4, 5, 6, 7, 8, 9] rfl)
  exact L23 _ 0 (fun _ => 0) _ _ _ hKW h77 h78 hP hS (by first | rfl | omega | assumption) (by intro k hk h9; exact absurd h9 (Nat.not_lt_zero _)) (Nat.lt_succ_self _) ls (lv_sub hl [0, 1, 2, 3, 4, 5, 6, 7, 8, 9] rfl)
