/-! the law's small methods -/
abbrev RB : Room := { frames := 10, cells := 0, slots := 0, locals := 300 }
theorem cat_q {q : Nat} : cat (nI (q % 13)) (nI (q / 13)) = nI q := by rw [cat_n, show 13 * (q / 13) + q % 13 = q by omega]
def va_E9 (cI : ClassId) (n : Nat) (f : Nat → Int32) : va_E := .inl (cI, n, .inl f)
def lo9 (v : Int32) : Nat := ix (v &&& 2147483647)
theorem lo9_ok (v : Int32) : lo9 v < 2 ^ 31 ∧ v &&& 2147483647 = nI (lo9 v) := by
  obtain ⟨j, hj, e⟩ := pk_andE v (m := 2147483647) 31 (by decide)
  unfold lo9
  rw [e, ix_nI hj]
  exact ⟨hj, rfl⟩
set_option maxRecDepth 100000 in
theorem tL_low (l : Launch) (v : Int32) (n : Nat) (h0 : 0 < n) (hn : n < 2 ^ 31) : MP l yL_low (Cond.code yL_low cL_low 2 (some .int) :: LW) RB [.int v, .int (nI n)] (.int (nI (lo9 v % n))) := by
  refine mp_i (ty := .int) (by decide +kernel) rfl rfl rfl rfl (Nat.le_of_ble_eq_true rfl) (fun p e s m below meth cd Q ls hx hb hml hown hts hret hl => ?_)
  have hown : s.vm.findClass RL = some m.cls := hown
  have hl : lv_has ls 2 [(0, .int v), (1, .int (nI n))] := hl
  refine lv_iload_n hx hb (dk kL_low_ok 0 rfl) rfl (lv_at hl 0 rfl) ?_
  refine lv_ldc (v := 2147483647) hx hb hown (hts _ (List.mem_cons_of_mem _ (lc0 _ (List.mem_of_getElem? (i := 1) rfl)))) (dk kL_low_ok 1 rfl) ?_
  refine lv_iand hx hb (dk kL_low_ok 2 rfl) ?_
  refine lv_iload_n hx hb (dk kL_low_ok 3 rfl) rfl (lv_at hl 1 rfl) ?_
  rw [(lo9_ok v).2]
  refine n_irem hx hb (lo9_ok v).1 h0 hn (dk kL_low_ok 4 rfl) ?_
  exact hret _ _ _ rfl (dk kL_low_ok 5 rfl)
def cel (L : Nat) (xs : Nat → Int32) (k : Nat) : Int32 := if k < L then xs k else 24810031 * nI k + nI 32003
/-- a method that reads the script alone -/
def MS (l : Launch) (y : MethodName) (ws : List Cond) (rm : Room) (b L : Nat) (xs : Nat → Int32) (args : List Value) (r : Value) : Prop :=
  Met l y ws rm (va_Pc args (fun U => va_X b L xs U U.heap ∧ b < U.heap.size)) (fun _ st o t => o = .returned (some r) ∧ t.heap = st.heap) 0 0 (fun _ => False)
theorem MS_blind {b L : Nat} {xs : Nat → Int32} {args : List Value} : FrameBlind (va_Pc args (fun U => va_X b L xs U U.heap ∧ b < U.heap.size)) :=
  fun a U g mk q => ⟨q.1, va_X.moved (u := U) (U := U.calling g mk a) (Vm.Alike.refl U.vm) q.2.1, q.2.2⟩
set_option maxRecDepth 100000 in
theorem tL_cell (l : Launch) (b L : Nat) (xs : Nat → Int32) (hL : L < 2 ^ 30) (k : Nat) (hk : k < 2 ^ 30) : MS l yL_cell (Cond.code yL_cell cL_cell 2 (some .int) :: LW) RB b L xs [.ref b, .int (nI k)] (.int (cel L xs k)) := by
  refine Met.ofW (cc := cL_cell) (maxL := 2) (ret := some .int) (by decide +kernel) rfl ?_
  intro p e s m args9 below meth cd s₁ B hml hv
  obtain ⟨rfl, hX, hbl⟩ := hv
  have hl := lv_entry [Value.ref b, Value.int (nI k)] (n := 2) (Nat.le_of_ble_eq_true rfl)
  rw [lg_entry_eq]
  have hown : s.vm.findClass RL = some m.cls := findClass_of_methodNamed B.named
  have hts : ∀ w ∈ Cond.code yL_cell cL_cell 2 (some .int) :: LW, w.before [Value.ref b, Value.int (nI k)].toArray s = true := atoms_spec B.pre
  have hx := B.exec
  have hb := B.bytes
  have hS : va_S (fun q => s.heap.size ≤ q) s.heap s.heap [] := va_S.rf
  have hA : ¬ (fun q => s.heap.size ≤ q) b := by
    show ¬ s.heap.size ≤ b
    omega
  have body : ∀ ls : Array Slot, lv_has ls 2 [(0, .ref b), (1, .int (nI k))] → W p l e RB s m [Value.ref b, Value.int (nI k)].toArray below meth cd s.heap [] 0 0 (MQ below (fun _ st o t => o = .returned (some (.int (cel L xs k))) ∧ t.heap = st.heap) [Value.ref b, Value.int (nI k)].toArray s 0 0 (fun _ => False)) (F0 m 0 ls []) := by
    intro ls hl
    refine lv_iload_n hx hb (dk kL_cell_ok 0 rfl) rfl (lv_at hl 1 rfl) ?_
    refine lv_aload_n hx hb (dk kL_cell_ok 1 rfl) rfl (lv_at hl 0 rfl) ?_
    refine va_slen hx hb hX hbl hA hS (dk kL_cell_ok 2 rfl) ?_
    refine n_icmp_ge (tgt := 12) hx hb (by omega) (by omega) (dk kL_cell_ok 3 rfl) (by decide) (fun h1 => ?_) (fun h1 => ?_)
    · refine lv_ldc (v := 24810031) hx hb hown (hts _ (List.mem_cons_of_mem _ (lc0 _ (List.mem_of_getElem? (i := 0) rfl)))) (dk kL_cell_ok 8 rfl) ?_
      refine lv_iload_n hx hb (dk kL_cell_ok 9 rfl) rfl (lv_at hl 1 rfl) ?_
      refine lv_imul hx hb (dk kL_cell_ok 10 rfl) ?_
      refine lv_sipush (v := nI 32003) hx hb (dk kL_cell_ok 11 rfl) rfl ?_
      refine lv_iadd hx hb (dk kL_cell_ok 12 rfl) ?_
      have e9 : cel L xs k = 24810031 * nI k + nI 32003 := if_neg (by omega)
      rw [← e9]
      exact W.zret B.exec B.bytes B.returns rfl (fun t ht _ => ⟨rfl, ht⟩) (fun _ h => nomatch h) (dk kL_cell_ok 13 rfl) B.notSynchronized
    · refine lv_aload_n hx hb (dk kL_cell_ok 4 rfl) rfl (lv_at hl 0 rfl) ?_
      refine lv_iload_n hx hb (dk kL_cell_ok 5 rfl) rfl (lv_at hl 1 rfl) ?_
      refine va_sld hx hb hX hbl hA hS (vp_in_nI h1 (by omega)) (dk kL_cell_ok 6 rfl) ?_
      rw [nI_clamp (by omega)]
      refine lv_goto (tgt := 20) hx hb (dk kL_cell_ok 7 rfl) (by decide) ?_
      have e9 : cel L xs k = xs k := if_pos h1
      rw [← e9]
      exact W.zret B.exec B.bytes B.returns rfl (fun t ht _ => ⟨rfl, ht⟩) (fun _ h => nomatch h) (dk kL_cell_ok 13 rfl) B.notSynchronized
  exact body _ hl
set_option maxRecDepth 100000 in
set_option maxHeartbeats 4000000 in
theorem tL_base (l : Launch) {w : Nat} (hw : w < 4) : MP l yL_base (Cond.code yL_base cL_base 1 (some .int) :: LW) RB [.int (nI w)] (.int (nI (bs w))) := by
  refine mp_i (ty := .int) (by decide +kernel) rfl rfl rfl rfl (Nat.le_of_ble_eq_true rfl) (fun p e s m below meth cd Q ls hx hb hml hown hts hret hl => ?_)
  have hl : lv_has ls 1 [(0, .int (nI w))] := hl
  refine lv_iload_n hx hb (dk kL_base_ok 0 rfl) rfl (lv_at hl 0 rfl) ?_
  refine n_if_ne (tgt := 8) hx hb (by omega) (dk kL_base_ok 1 rfl) (by decide) (fun h1 => ?_) (fun h1 => ?_)
  · skip
    refine lv_iload_n hx hb (dk kL_base_ok 4 rfl) rfl (lv_at hl 0 rfl) ?_
    refine lv_iconst (v := nI 1) hx hb (dk kL_base_ok 5 rfl) rfl ?_
    refine n_icmp_ne (tgt := 18) hx hb (by omega) (by decide) (dk kL_base_ok 6 rfl) (by decide) (fun h2 => ?_) (fun h2 => ?_)
    · skip
      refine lv_iload_n hx hb (dk kL_base_ok 9 rfl) rfl (lv_at hl 0 rfl) ?_
      refine lv_iconst (v := nI 2) hx hb (dk kL_base_ok 10 rfl) rfl ?_
      refine n_icmp_ne (tgt := 29) hx hb (by omega) (by decide) (dk kL_base_ok 11 rfl) (by decide) (fun h3 => ?_) (fun h3 => ?_)
      · skip
        refine lv_sipush (v := nI 156) hx hb (dk kL_base_ok 14 rfl) rfl ?_
        exact hret _ _ _ (by rcases (show w = 0 ∨ w = 1 ∨ w = 2 ∨ w = 3 by omega) with rfl | rfl | rfl | rfl <;> first | rfl | (exfalso; omega)) (dk kL_base_ok 15 rfl)
      · skip
        refine lv_sipush (v := nI 168) hx hb (dk kL_base_ok 12 rfl) rfl ?_
        refine lv_goto (tgt := 32) hx hb (dk kL_base_ok 13 rfl) (by decide) ?_
        exact hret _ _ _ (by rcases (show w = 0 ∨ w = 1 ∨ w = 2 ∨ w = 3 by omega) with rfl | rfl | rfl | rfl <;> first | rfl | (exfalso; omega)) (dk kL_base_ok 15 rfl)
    · skip
      refine lv_bipush (v := nI 12) hx hb (dk kL_base_ok 7 rfl) rfl ?_
      refine lv_goto (tgt := 32) hx hb (dk kL_base_ok 8 rfl) (by decide) ?_
      exact hret _ _ _ (by rcases (show w = 0 ∨ w = 1 ∨ w = 2 ∨ w = 3 by omega) with rfl | rfl | rfl | rfl <;> first | rfl | (exfalso; omega)) (dk kL_base_ok 15 rfl)
  · skip
    refine lv_iconst (v := nI 0) hx hb (dk kL_base_ok 2 rfl) rfl ?_
    refine lv_goto (tgt := 32) hx hb (dk kL_base_ok 3 rfl) (by decide) ?_
    exact hret _ _ _ (by rcases (show w = 0 ∨ w = 1 ∨ w = 2 ∨ w = 3 by omega) with rfl | rfl | rfl | rfl <;> first | rfl | (exfalso; omega)) (dk kL_base_ok 15 rfl)
theorem ea_0 {d : Nat} (h : d < 8) (q : d % 4 = 0) : ea (nI d) = nI 0 := (show ∀ d, d < 8 → d % 4 = 0 → ea (nI d) = nI 0 by decide) d h q
theorem ea_1 {d : Nat} (h : d < 8) (q : d % 4 ≠ 0) (z : d < 4) : ea (nI d) = nI 1 := (show ∀ d, d < 8 → d % 4 ≠ 0 → d < 4 → ea (nI d) = nI 1 by decide) d h q z
theorem ea_2 {d : Nat} (h : d < 8) (q : d % 4 ≠ 0) (z : 4 ≤ d) : ea (nI d) = -1 := (show ∀ d, d < 8 → d % 4 ≠ 0 → 4 ≤ d → ea (nI d) = -1 by decide) d h q z
theorem so_0 {d : Nat} (q : d = 2 ∨ d = 6) : so (nI d) = nI 0 := by rcases q with rfl | rfl <;> decide
theorem so_1 {d : Nat} (h : d < 8) (q : d ≠ 2) (z : d ≠ 6) (a : 2 < d) (b : d < 6) : so (nI d) = nI 1 := (show ∀ d, d < 8 → d ≠ 2 → d ≠ 6 → 2 < d → d < 6 → so (nI d) = nI 1 by decide) d h q z a b
theorem so_2 {d : Nat} (h : d < 8) (q : d ≠ 2) (z : d ≠ 6) (a : d ≤ 2 ∨ 6 ≤ d) : so (nI d) = -1 := (show ∀ d, d < 8 → d ≠ 2 → d ≠ 6 → (d ≤ 2 ∨ 6 ≤ d) → so (nI d) = -1 by decide) d h q z a
theorem bes_on {q d : Nat} (h1 : ¬ nI (q % 13) + ea (nI d) < 0) (h2 : ¬ nI 12 < nI (q % 13) + ea (nI d)) (h3 : ¬ nI (q / 13) + so (nI d) < 0) (h4 : ¬ nI 12 < nI (q / 13) + so (nI d)) : nI 13 * (nI (q / 13) + so (nI d)) + (nI (q % 13) + ea (nI d)) = rbs q d := by
  have ho : on (nI (q % 13) + ea (nI d)) (nI (q / 13) + so (nI d)) = true := by
    simp only [on, ← lt13, h1, h2, h3, h4, decide_false, Bool.not_false, Bool.and_self]
  unfold rbs beside
  rw [if_pos ho]
  rfl
theorem bes_off {q d : Nat} (h : nI (q % 13) + ea (nI d) < 0 ∨ nI 12 < nI (q % 13) + ea (nI d) ∨ nI (q / 13) + so (nI d) < 0 ∨ nI 12 < nI (q / 13) + so (nI d)) : (-1 : Int32) = rbs q d := by
  have ho : on (nI (q % 13) + ea (nI d)) (nI (q / 13) + so (nI d)) = false := by
    rcases h with h | h | h | h <;> simp [on, ← lt13, h]
  unfold rbs beside
  rw [if_neg (by rw [ho]; decide)]
set_option maxRecDepth 100000 in
set_option maxHeartbeats 4000000 in
theorem tL_beside (l : Launch) (q d : Nat) (hq : q < 169) (hd : d < 8) : MP l yL_beside (Cond.code yL_beside cL_beside 4 (some .int) :: LW) RB [.int (nI q), .int (nI d)] (.int (rbs q d)) := by
  refine mp_i (ty := .int) (by decide +kernel) rfl rfl rfl rfl (Nat.le_of_ble_eq_true rfl) (fun p e s m below meth cd Q ls hx hb hml hown hts hret hl => ?_)
  have hl : lv_has ls 4 [(0, .int (nI q)), (1, .int (nI d))] := hl
  refine lv_iload_n hx hb (dk kL_beside_ok 0 rfl) rfl (lv_at hl 0 rfl) ?_
  refine lv_bipush (v := nI 13) hx hb (dk kL_beside_ok 1 rfl) rfl ?_
  refine n_irem hx hb (by omega) (by decide) (by decide) (dk kL_beside_ok 2 rfl) ?_
  refine lv_iload_n hx hb (dk kL_beside_ok 3 rfl) rfl (lv_at hl 1 rfl) ?_
  refine lv_iconst (v := nI 4) hx hb (dk kL_beside_ok 4 rfl) rfl ?_
  refine n_irem hx hb (by omega) (by decide) (by decide) (dk kL_beside_ok 5 rfl) ?_
  refine n_if_ne (tgt := 14) hx hb (by omega) (dk kL_beside_ok 6 rfl) (by decide) (fun h1 => ?_) (fun h1 => ?_)
  · skip
    refine lv_iload_n hx hb (dk kL_beside_ok 9 rfl) rfl (lv_at hl 1 rfl) ?_
    refine lv_iconst (v := nI 4) hx hb (dk kL_beside_ok 10 rfl) rfl ?_
    refine n_icmp_ge (tgt := 23) hx hb (by omega) (by decide) (dk kL_beside_ok 11 rfl) (by decide) (fun h2 => ?_) (fun h2 => ?_)
    · skip
      refine lv_iconst (v := -1) hx hb (dk kL_beside_ok 14 rfl) rfl ?_
      refine W.eq (g2 := F0 m 24 ls [.int (ea (nI d)), .int (nI (q % 13))]) (by rw [ea_2 hd h1 h2]) ?_
      refine lv_iadd hx hb (dk kL_beside_ok 15 rfl) ?_
      refine lv_istore_n (lv' := [(2, .int ((nI (q % 13)) + (ea (nI d)))), (0, .int (nI q)), (1, .int (nI d))]) hx hb (dk kL_beside_ok 16 rfl) rfl hl (by decide) rfl (fun ls hl => ?_)
      refine lv_iload_n hx hb (dk kL_beside_ok 17 rfl) rfl (lv_at hl 1 rfl) ?_
      refine lv_bipush (v := nI 13) hx hb (dk kL_beside_ok 18 rfl) rfl ?_
      refine n_idiv hx hb (by omega) (by decide) (by decide) (dk kL_beside_ok 19 rfl) ?_
      refine lv_iload_n hx hb (dk kL_beside_ok 20 rfl) rfl (lv_at hl 2 rfl) ?_
      refine lv_iconst (v := nI 2) hx hb (dk kL_beside_ok 21 rfl) rfl ?_
      refine n_icmp_eq (tgt := 41) hx hb (by omega) (by decide) (dk kL_beside_ok 22 rfl) (by decide) (fun h3 => ?_) (fun h3 => ?_)
      · skip
        refine lv_iconst (v := nI 0) hx hb (dk kL_beside_ok 26 rfl) rfl ?_
        refine lv_goto (tgt := 61) hx hb (dk kL_beside_ok 27 rfl) (by decide) ?_
        refine W.eq (g2 := F0 m 61 ls [.int (so (nI d)), .int (nI (q / 13))]) (by rw [so_0 (by omega)]) ?_
        refine lv_iadd hx hb (dk kL_beside_ok 37 rfl) ?_
        refine lv_istore_n (lv' := [(3, .int ((nI (q / 13)) + (so (nI d)))), (2, .int ((nI (q % 13)) + (ea (nI d)))), (0, .int (nI q)), (1, .int (nI d))]) hx hb (dk kL_beside_ok 38 rfl) rfl hl (by decide) rfl (fun ls hl => ?_)
        refine lv_iload_n hx hb (dk kL_beside_ok 39 rfl) rfl (lv_at hl 1 rfl) ?_
        refine lv_if_lt (tgt := 83) hx hb (dk kL_beside_ok 40 rfl) (by decide) (fun h4 => ?_) (fun h4 => ?_)
        · skip
          refine lv_iconst (v := -1) hx hb (dk kL_beside_ok 49 rfl) rfl ?_
          refine lv_goto (tgt := 93) hx hb (dk kL_beside_ok 50 rfl) (by decide) ?_
          exact hret _ _ _ (by exact bes_off (by first | exact Or.inl (by assumption) | exact Or.inr (Or.inl (by assumption)) | exact Or.inr (Or.inr (Or.inl (by assumption))) | exact Or.inr (Or.inr (Or.inr (by first | assumption | exact Int32.not_le.mp (by assumption)))))) (dk kL_beside_ok 56 rfl)
        · skip
          refine lv_iload_n hx hb (dk kL_beside_ok 41 rfl) rfl (lv_at hl 1 rfl) ?_
          refine lv_bipush (v := nI 12) hx hb (dk kL_beside_ok 42 rfl) rfl ?_
          refine lv_icmp_gt (tgt := 83) hx hb (dk kL_beside_ok 43 rfl) (by decide) (fun h5 => ?_) (fun h5 => ?_)
          · skip
            refine lv_iconst (v := -1) hx hb (dk kL_beside_ok 49 rfl) rfl ?_
            refine lv_goto (tgt := 93) hx hb (dk kL_beside_ok 50 rfl) (by decide) ?_
            exact hret _ _ _ (by exact bes_off (by first | exact Or.inl (by assumption) | exact Or.inr (Or.inl (by assumption)) | exact Or.inr (Or.inr (Or.inl (by assumption))) | exact Or.inr (Or.inr (Or.inr (by first | assumption | exact Int32.not_le.mp (by assumption)))))) (dk kL_beside_ok 56 rfl)
          · skip
            refine lv_iload_n hx hb (dk kL_beside_ok 44 rfl) rfl (lv_at hl 0 rfl) ?_
            refine lv_if_lt (tgt := 83) hx hb (dk kL_beside_ok 45 rfl) (by decide) (fun h6 => ?_) (fun h6 => ?_)
            · skip
              refine lv_iconst (v := -1) hx hb (dk kL_beside_ok 49 rfl) rfl ?_
              refine lv_goto (tgt := 93) hx hb (dk kL_beside_ok 50 rfl) (by decide) ?_
              exact hret _ _ _ (by exact bes_off (by first | exact Or.inl (by assumption) | exact Or.inr (Or.inl (by assumption)) | exact Or.inr (Or.inr (Or.inl (by assumption))) | exact Or.inr (Or.inr (Or.inr (by first | assumption | exact Int32.not_le.mp (by assumption)))))) (dk kL_beside_ok 56 rfl)
            · skip
              refine lv_iload_n hx hb (dk kL_beside_ok 46 rfl) rfl (lv_at hl 0 rfl) ?_
              refine lv_bipush (v := nI 12) hx hb (dk kL_beside_ok 47 rfl) rfl ?_
              refine lv_icmp_le (tgt := 87) hx hb (dk kL_beside_ok 48 rfl) (by decide) (fun h7 => ?_) (fun h7 => ?_)
              · skip
                refine lv_bipush (v := nI 13) hx hb (dk kL_beside_ok 51 rfl) rfl ?_
                refine lv_iload_n hx hb (dk kL_beside_ok 52 rfl) rfl (lv_at hl 0 rfl) ?_
                refine lv_imul hx hb (dk kL_beside_ok 53 rfl) ?_
                refine lv_iload_n hx hb (dk kL_beside_ok 54 rfl) rfl (lv_at hl 1 rfl) ?_
                refine lv_iadd hx hb (dk kL_beside_ok 55 rfl) ?_
                exact hret _ _ _ (by exact bes_on (by assumption) (by first | assumption | exact Int32.not_lt.mpr (by assumption)) (by assumption) (by first | assumption | exact Int32.not_lt.mpr (by assumption))) (dk kL_beside_ok 56 rfl)
              · skip
                refine lv_iconst (v := -1) hx hb (dk kL_beside_ok 49 rfl) rfl ?_
                refine lv_goto (tgt := 93) hx hb (dk kL_beside_ok 50 rfl) (by decide) ?_
                exact hret _ _ _ (by exact bes_off (by first | exact Or.inl (by assumption) | exact Or.inr (Or.inl (by assumption)) | exact Or.inr (Or.inr (Or.inl (by assumption))) | exact Or.inr (Or.inr (Or.inr (by first | assumption | exact Int32.not_le.mp (by assumption)))))) (dk kL_beside_ok 56 rfl)
      · skip
        refine lv_iload_n hx hb (dk kL_beside_ok 23 rfl) rfl (lv_at hl 2 rfl) ?_
        refine lv_bipush (v := nI 6) hx hb (dk kL_beside_ok 24 rfl) rfl ?_
        refine n_icmp_ne (tgt := 45) hx hb (by omega) (by decide) (dk kL_beside_ok 25 rfl) (by decide) (fun h8 => ?_) (fun h8 => ?_)
        · skip
          refine lv_iload_n hx hb (dk kL_beside_ok 28 rfl) rfl (lv_at hl 2 rfl) ?_
          refine lv_iconst (v := nI 2) hx hb (dk kL_beside_ok 29 rfl) rfl ?_
          refine n_icmp_le (tgt := 60) hx hb (by omega) (by decide) (dk kL_beside_ok 30 rfl) (by decide) (fun h9 => ?_) (fun h9 => ?_)
          · skip
            refine lv_iconst (v := -1) hx hb (dk kL_beside_ok 36 rfl) rfl ?_
            refine W.eq (g2 := F0 m 61 ls [.int (so (nI d)), .int (nI (q / 13))]) (by rw [so_2 hd (by omega) (by omega) (by omega)]) ?_
            refine lv_iadd hx hb (dk kL_beside_ok 37 rfl) ?_
            refine lv_istore_n (lv' := [(3, .int ((nI (q / 13)) + (so (nI d)))), (2, .int ((nI (q % 13)) + (ea (nI d)))), (0, .int (nI q)), (1, .int (nI d))]) hx hb (dk kL_beside_ok 38 rfl) rfl hl (by decide) rfl (fun ls hl => ?_)
            refine lv_iload_n hx hb (dk kL_beside_ok 39 rfl) rfl (lv_at hl 1 rfl) ?_
            refine lv_if_lt (tgt := 83) hx hb (dk kL_beside_ok 40 rfl) (by decide) (fun h10 => ?_) (fun h10 => ?_)
            · skip
              refine lv_iconst (v := -1) hx hb (dk kL_beside_ok 49 rfl) rfl ?_
              refine lv_goto (tgt := 93) hx hb (dk kL_beside_ok 50 rfl) (by decide) ?_
              exact hret _ _ _ (by exact bes_off (by first | exact Or.inl (by assumption) | exact Or.inr (Or.inl (by assumption)) | exact Or.inr (Or.inr (Or.inl (by assumption))) | exact Or.inr (Or.inr (Or.inr (by first | assumption | exact Int32.not_le.mp (by assumption)))))) (dk kL_beside_ok 56 rfl)
            · skip
              refine lv_iload_n hx hb (dk kL_beside_ok 41 rfl) rfl (lv_at hl 1 rfl) ?_
              refine lv_bipush (v := nI 12) hx hb (dk kL_beside_ok 42 rfl) rfl ?_
              refine lv_icmp_gt (tgt := 83) hx hb (dk kL_beside_ok 43 rfl) (by decide) (fun h11 => ?_) (fun h11 => ?_)
              · skip
                refine lv_iconst (v := -1) hx hb (dk kL_beside_ok 49 rfl) rfl ?_
                refine lv_goto (tgt := 93) hx hb (dk kL_beside_ok 50 rfl) (by decide) ?_
                exact hret _ _ _ (by exact bes_off (by first | exact Or.inl (by assumption) | exact Or.inr (Or.inl (by assumption)) | exact Or.inr (Or.inr (Or.inl (by assumption))) | exact Or.inr (Or.inr (Or.inr (by first | assumption | exact Int32.not_le.mp (by assumption)))))) (dk kL_beside_ok 56 rfl)
              · skip
                refine lv_iload_n hx hb (dk kL_beside_ok 44 rfl) rfl (lv_at hl 0 rfl) ?_
                refine lv_if_lt (tgt := 83) hx hb (dk kL_beside_ok 45 rfl) (by decide) (fun h12 => ?_) (fun h12 => ?_)
                · skip
                  refine lv_iconst (v := -1) hx hb (dk kL_beside_ok 49 rfl) rfl ?_
                  refine lv_goto (tgt := 93) hx hb (dk kL_beside_ok 50 rfl) (by decide) ?_
                  exact hret _ _ _ (by exact bes_off (by first | exact Or.inl (by assumption) | exact Or.inr (Or.inl (by assumption)) | exact Or.inr (Or.inr (Or.inl (by assumption))) | exact Or.inr (Or.inr (Or.inr (by first | assumption | exact Int32.not_le.mp (by assumption)))))) (dk kL_beside_ok 56 rfl)
                · skip
                  refine lv_iload_n hx hb (dk kL_beside_ok 46 rfl) rfl (lv_at hl 0 rfl) ?_
                  refine lv_bipush (v := nI 12) hx hb (dk kL_beside_ok 47 rfl) rfl ?_
                  refine lv_icmp_le (tgt := 87) hx hb (dk kL_beside_ok 48 rfl) (by decide) (fun h13 => ?_) (fun h13 => ?_)
                  · skip
                    refine lv_bipush (v := nI 13) hx hb (dk kL_beside_ok 51 rfl) rfl ?_
                    refine lv_iload_n hx hb (dk kL_beside_ok 52 rfl) rfl (lv_at hl 0 rfl) ?_
                    refine lv_imul hx hb (dk kL_beside_ok 53 rfl) ?_
                    refine lv_iload_n hx hb (dk kL_beside_ok 54 rfl) rfl (lv_at hl 1 rfl) ?_
                    refine lv_iadd hx hb (dk kL_beside_ok 55 rfl) ?_
                    exact hret _ _ _ (by exact bes_on (by assumption) (by first | assumption | exact Int32.not_lt.mpr (by assumption)) (by assumption) (by first | assumption | exact Int32.not_lt.mpr (by assumption))) (dk kL_beside_ok 56 rfl)
                  · skip
                    refine lv_iconst (v := -1) hx hb (dk kL_beside_ok 49 rfl) rfl ?_
                    refine lv_goto (tgt := 93) hx hb (dk kL_beside_ok 50 rfl) (by decide) ?_
                    exact hret _ _ _ (by exact bes_off (by first | exact Or.inl (by assumption) | exact Or.inr (Or.inl (by assumption)) | exact Or.inr (Or.inr (Or.inl (by assumption))) | exact Or.inr (Or.inr (Or.inr (by first | assumption | exact Int32.not_le.mp (by assumption)))))) (dk kL_beside_ok 56 rfl)
          · skip
            refine lv_iload_n hx hb (dk kL_beside_ok 31 rfl) rfl (lv_at hl 2 rfl) ?_
            refine lv_bipush (v := nI 6) hx hb (dk kL_beside_ok 32 rfl) rfl ?_
            refine n_icmp_ge (tgt := 60) hx hb (by omega) (by decide) (dk kL_beside_ok 33 rfl) (by decide) (fun h14 => ?_) (fun h14 => ?_)
            · skip
              refine lv_iconst (v := -1) hx hb (dk kL_beside_ok 36 rfl) rfl ?_
              refine W.eq (g2 := F0 m 61 ls [.int (so (nI d)), .int (nI (q / 13))]) (by rw [so_2 hd (by omega) (by omega) (by omega)]) ?_
              refine lv_iadd hx hb (dk kL_beside_ok 37 rfl) ?_
              refine lv_istore_n (lv' := [(3, .int ((nI (q / 13)) + (so (nI d)))), (2, .int ((nI (q % 13)) + (ea (nI d)))), (0, .int (nI q)), (1, .int (nI d))]) hx hb (dk kL_beside_ok 38 rfl) rfl hl (by decide) rfl (fun ls hl => ?_)
              refine lv_iload_n hx hb (dk kL_beside_ok 39 rfl) rfl (lv_at hl 1 rfl) ?_
              refine lv_if_lt (tgt := 83) hx hb (dk kL_beside_ok 40 rfl) (by decide) (fun h15 => ?_) (fun h15 => ?_)
              · skip
                refine lv_iconst (v := -1) hx hb (dk kL_beside_ok 49 rfl) rfl ?_
                refine lv_goto (tgt := 93) hx hb (dk kL_beside_ok 50 rfl) (by decide) ?_
                exact hret _ _ _ (by exact bes_off (by first | exact Or.inl (by assumption) | exact Or.inr (Or.inl (by assumption)) | exact Or.inr (Or.inr (Or.inl (by assumption))) | exact Or.inr (Or.inr (Or.inr (by first | assumption | exact Int32.not_le.mp (by assumption)))))) (dk kL_beside_ok 56 rfl)
              · skip
                refine lv_iload_n hx hb (dk kL_beside_ok 41 rfl) rfl (lv_at hl 1 rfl) ?_
                refine lv_bipush (v := nI 12) hx hb (dk kL_beside_ok 42 rfl) rfl ?_
                refine lv_icmp_gt (tgt := 83) hx hb (dk kL_beside_ok 43 rfl) (by decide) (fun h16 => ?_) (fun h16 => ?_)
                · skip
                  refine lv_iconst (v := -1) hx hb (dk kL_beside_ok 49 rfl) rfl ?_
                  refine lv_goto (tgt := 93) hx hb (dk kL_beside_ok 50 rfl) (by decide) ?_
                  exact hret _ _ _ (by exact bes_off (by first | exact Or.inl (by assumption) | exact Or.inr (Or.inl (by assumption)) | exact Or.inr (Or.inr (Or.inl (by assumption))) | exact Or.inr (Or.inr (Or.inr (by first | assumption | exact Int32.not_le.mp (by assumption)))))) (dk kL_beside_ok 56 rfl)
                · skip
                  refine lv_iload_n hx hb (dk kL_beside_ok 44 rfl) rfl (lv_at hl 0 rfl) ?_
                  refine lv_if_lt (tgt := 83) hx hb (dk kL_beside_ok 45 rfl) (by decide) (fun h17 => ?_) (fun h17 => ?_)
                  · skip
                    refine lv_iconst (v := -1) hx hb (dk kL_beside_ok 49 rfl) rfl ?_
                    refine lv_goto (tgt := 93) hx hb (dk kL_beside_ok 50 rfl) (by decide) ?_
                    exact hret _ _ _ (by exact bes_off (by first | exact Or.inl (by assumption) | exact Or.inr (Or.inl (by assumption)) | exact Or.inr (Or.inr (Or.inl (by assumption))) | exact Or.inr (Or.inr (Or.inr (by first | assumption | exact Int32.not_le.mp (by assumption)))))) (dk kL_beside_ok 56 rfl)
                  · skip
                    refine lv_iload_n hx hb (dk kL_beside_ok 46 rfl) rfl (lv_at hl 0 rfl) ?_
                    refine lv_bipush (v := nI 12) hx hb (dk kL_beside_ok 47 rfl) rfl ?_
                    refine lv_icmp_le (tgt := 87) hx hb (dk kL_beside_ok 48 rfl) (by decide) (fun h18 => ?_) (fun h18 => ?_)
                    · skip
                      refine lv_bipush (v := nI 13) hx hb (dk kL_beside_ok 51 rfl) rfl ?_
                      refine lv_iload_n hx hb (dk kL_beside_ok 52 rfl) rfl (lv_at hl 0 rfl) ?_
                      refine lv_imul hx hb (dk kL_beside_ok 53 rfl) ?_
                      refine lv_iload_n hx hb (dk kL_beside_ok 54 rfl) rfl (lv_at hl 1 rfl) ?_
                      refine lv_iadd hx hb (dk kL_beside_ok 55 rfl) ?_
                      exact hret _ _ _ (by exact bes_on (by assumption) (by first | assumption | exact Int32.not_lt.mpr (by assumption)) (by assumption) (by first | assumption | exact Int32.not_lt.mpr (by assumption))) (dk kL_beside_ok 56 rfl)
                    · skip
                      refine lv_iconst (v := -1) hx hb (dk kL_beside_ok 49 rfl) rfl ?_
                      refine lv_goto (tgt := 93) hx hb (dk kL_beside_ok 50 rfl) (by decide) ?_
                      exact hret _ _ _ (by exact bes_off (by first | exact Or.inl (by assumption) | exact Or.inr (Or.inl (by assumption)) | exact Or.inr (Or.inr (Or.inl (by assumption))) | exact Or.inr (Or.inr (Or.inr (by first | assumption | exact Int32.not_le.mp (by assumption)))))) (dk kL_beside_ok 56 rfl)
            · skip
              refine lv_iconst (v := nI 1) hx hb (dk kL_beside_ok 34 rfl) rfl ?_
              refine lv_goto (tgt := 61) hx hb (dk kL_beside_ok 35 rfl) (by decide) ?_
              refine W.eq (g2 := F0 m 61 ls [.int (so (nI d)), .int (nI (q / 13))]) (by rw [so_1 hd (by omega) (by omega) (by omega) (by omega)]) ?_
              refine lv_iadd hx hb (dk kL_beside_ok 37 rfl) ?_
              refine lv_istore_n (lv' := [(3, .int ((nI (q / 13)) + (so (nI d)))), (2, .int ((nI (q % 13)) + (ea (nI d)))), (0, .int (nI q)), (1, .int (nI d))]) hx hb (dk kL_beside_ok 38 rfl) rfl hl (by decide) rfl (fun ls hl => ?_)
              refine lv_iload_n hx hb (dk kL_beside_ok 39 rfl) rfl (lv_at hl 1 rfl) ?_
              refine lv_if_lt (tgt := 83) hx hb (dk kL_beside_ok 40 rfl) (by decide) (fun h19 => ?_) (fun h19 => ?_)
              · skip
                refine lv_iconst (v := -1) hx hb (dk kL_beside_ok 49 rfl) rfl ?_
                refine lv_goto (tgt := 93) hx hb (dk kL_beside_ok 50 rfl) (by decide) ?_
                exact hret _ _ _ (by exact bes_off (by first | exact Or.inl (by assumption) | exact Or.inr (Or.inl (by assumption)) | exact Or.inr (Or.inr (Or.inl (by assumption))) | exact Or.inr (Or.inr (Or.inr (by first | assumption | exact Int32.not_le.mp (by assumption)))))) (dk kL_beside_ok 56 rfl)
              · skip
                refine lv_iload_n hx hb (dk kL_beside_ok 41 rfl) rfl (lv_at hl 1 rfl) ?_
                refine lv_bipush (v := nI 12) hx hb (dk kL_beside_ok 42 rfl) rfl ?_
                refine lv_icmp_gt (tgt := 83) hx hb (dk kL_beside_ok 43 rfl) (by decide) (fun h20 => ?_) (fun h20 => ?_)
                · skip
                  refine lv_iconst (v := -1) hx hb (dk kL_beside_ok 49 rfl) rfl ?_
                  refine lv_goto (tgt := 93) hx hb (dk kL_beside_ok 50 rfl) (by decide) ?_
                  exact hret _ _ _ (by exact bes_off (by first | exact Or.inl (by assumption) | exact Or.inr (Or.inl (by assumption)) | exact Or.inr (Or.inr (Or.inl (by assumption))) | exact Or.inr (Or.inr (Or.inr (by first | assumption | exact Int32.not_le.mp (by assumption)))))) (dk kL_beside_ok 56 rfl)
                · skip
                  refine lv_iload_n hx hb (dk kL_beside_ok 44 rfl) rfl (lv_at hl 0 rfl) ?_
                  refine lv_if_lt (tgt := 83) hx hb (dk kL_beside_ok 45 rfl) (by decide) (fun h21 => ?_) (fun h21 => ?_)
                  · skip
                    refine lv_iconst (v := -1) hx hb (dk kL_beside_ok 49 rfl) rfl ?_
                    refine lv_goto (tgt := 93) hx hb (dk kL_beside_ok 50 rfl) (by decide) ?_
                    exact hret _ _ _ (by exact bes_off (by first | exact Or.inl (by assumption) | exact Or.inr (Or.inl (by assumption)) | exact Or.inr (Or.inr (Or.inl (by assumption))) | exact Or.inr (Or.inr (Or.inr (by first | assumption | exact Int32.not_le.mp (by assumption)))))) (dk kL_beside_ok 56 rfl)
                  · skip
                    refine lv_iload_n hx hb (dk kL_beside_ok 46 rfl) rfl (lv_at hl 0 rfl) ?_
                    refine lv_bipush (v := nI 12) hx hb (dk kL_beside_ok 47 rfl) rfl ?_
                    refine lv_icmp_le (tgt := 87) hx hb (dk kL_beside_ok 48 rfl) (by decide) (fun h22 => ?_) (fun h22 => ?_)
                    · skip
                      refine lv_bipush (v := nI 13) hx hb (dk kL_beside_ok 51 rfl) rfl ?_
                      refine lv_iload_n hx hb (dk kL_beside_ok 52 rfl) rfl (lv_at hl 0 rfl) ?_
                      refine lv_imul hx hb (dk kL_beside_ok 53 rfl) ?_
                      refine lv_iload_n hx hb (dk kL_beside_ok 54 rfl) rfl (lv_at hl 1 rfl) ?_
                      refine lv_iadd hx hb (dk kL_beside_ok 55 rfl) ?_
                      exact hret _ _ _ (by exact bes_on (by assumption) (by first | assumption | exact Int32.not_lt.mpr (by assumption)) (by assumption) (by first | assumption | exact Int32.not_lt.mpr (by assumption))) (dk kL_beside_ok 56 rfl)
                    · skip
                      refine lv_iconst (v := -1) hx hb (dk kL_beside_ok 49 rfl) rfl ?_
                      refine lv_goto (tgt := 93) hx hb (dk kL_beside_ok 50 rfl) (by decide) ?_
                      exact hret _ _ _ (by exact bes_off (by first | exact Or.inl (by assumption) | exact Or.inr (Or.inl (by assumption)) | exact Or.inr (Or.inr (Or.inl (by assumption))) | exact Or.inr (Or.inr (Or.inr (by first | assumption | exact Int32.not_le.mp (by assumption)))))) (dk kL_beside_ok 56 rfl)
        · skip
          refine lv_iconst (v := nI 0) hx hb (dk kL_beside_ok 26 rfl) rfl ?_
          refine lv_goto (tgt := 61) hx hb (dk kL_beside_ok 27 rfl) (by decide) ?_
          refine W.eq (g2 := F0 m 61 ls [.int (so (nI d)), .int (nI (q / 13))]) (by rw [so_0 (by omega)]) ?_
          refine lv_iadd hx hb (dk kL_beside_ok 37 rfl) ?_
          refine lv_istore_n (lv' := [(3, .int ((nI (q / 13)) + (so (nI d)))), (2, .int ((nI (q % 13)) + (ea (nI d)))), (0, .int (nI q)), (1, .int (nI d))]) hx hb (dk kL_beside_ok 38 rfl) rfl hl (by decide) rfl (fun ls hl => ?_)
          refine lv_iload_n hx hb (dk kL_beside_ok 39 rfl) rfl (lv_at hl 1 rfl) ?_
          refine lv_if_lt (tgt := 83) hx hb (dk kL_beside_ok 40 rfl) (by decide) (fun h23 => ?_) (fun h23 => ?_)
          · skip
            refine lv_iconst (v := -1) hx hb (dk kL_beside_ok 49 rfl) rfl ?_
            refine lv_goto (tgt := 93) hx hb (dk kL_beside_ok 50 rfl) (by decide) ?_
            exact hret _ _ _ (by exact bes_off (by first | exact Or.inl (by assumption) | exact Or.inr (Or.inl (by assumption)) | exact Or.inr (Or.inr (Or.inl (by assumption))) | exact Or.inr (Or.inr (Or.inr (by first | assumption | exact Int32.not_le.mp (by assumption)))))) (dk kL_beside_ok 56 rfl)
          · skip
            refine lv_iload_n hx hb (dk kL_beside_ok 41 rfl) rfl (lv_at hl 1 rfl) ?_
            refine lv_bipush (v := nI 12) hx hb (dk kL_beside_ok 42 rfl) rfl ?_
            refine lv_icmp_gt (tgt := 83) hx hb (dk kL_beside_ok 43 rfl) (by decide) (fun h24 => ?_) (fun h24 => ?_)
            · skip
              refine lv_iconst (v := -1) hx hb (dk kL_beside_ok 49 rfl) rfl ?_
              refine lv_goto (tgt := 93) hx hb (dk kL_beside_ok 50 rfl) (by decide) ?_
              exact hret _ _ _ (by exact bes_off (by first | exact Or.inl (by assumption) | exact Or.inr (Or.inl (by assumption)) | exact Or.inr (Or.inr (Or.inl (by assumption))) | exact Or.inr (Or.inr (Or.inr (by first | assumption | exact Int32.not_le.mp (by assumption)))))) (dk kL_beside_ok 56 rfl)
            · skip
              refine lv_iload_n hx hb (dk kL_beside_ok 44 rfl) rfl (lv_at hl 0 rfl) ?_
              refine lv_if_lt (tgt := 83) hx hb (dk kL_beside_ok 45 rfl) (by decide) (fun h25 => ?_) (fun h25 => ?_)
              · skip
                refine lv_iconst (v := -1) hx hb (dk kL_beside_ok 49 rfl) rfl ?_
                refine lv_goto (tgt := 93) hx hb (dk kL_beside_ok 50 rfl) (by decide) ?_
                exact hret _ _ _ (by exact bes_off (by first | exact Or.inl (by assumption) | exact Or.inr (Or.inl (by assumption)) | exact Or.inr (Or.inr (Or.inl (by assumption))) | exact Or.inr (Or.inr (Or.inr (by first | assumption | exact Int32.not_le.mp (by assumption)))))) (dk kL_beside_ok 56 rfl)
              · skip
                refine lv_iload_n hx hb (dk kL_beside_ok 46 rfl) rfl (lv_at hl 0 rfl) ?_
                refine lv_bipush (v := nI 12) hx hb (dk kL_beside_ok 47 rfl) rfl ?_
                refine lv_icmp_le (tgt := 87) hx hb (dk kL_beside_ok 48 rfl) (by decide) (fun h26 => ?_) (fun h26 => ?_)
                · skip
                  refine lv_bipush (v := nI 13) hx hb (dk kL_beside_ok 51 rfl) rfl ?_
                  refine lv_iload_n hx hb (dk kL_beside_ok 52 rfl) rfl (lv_at hl 0 rfl) ?_
                  refine lv_imul hx hb (dk kL_beside_ok 53 rfl) ?_
                  refine lv_iload_n hx hb (dk kL_beside_ok 54 rfl) rfl (lv_at hl 1 rfl) ?_
                  refine lv_iadd hx hb (dk kL_beside_ok 55 rfl) ?_
                  exact hret _ _ _ (by exact bes_on (by assumption) (by first | assumption | exact Int32.not_lt.mpr (by assumption)) (by assumption) (by first | assumption | exact Int32.not_lt.mpr (by assumption))) (dk kL_beside_ok 56 rfl)
                · skip
                  refine lv_iconst (v := -1) hx hb (dk kL_beside_ok 49 rfl) rfl ?_
                  refine lv_goto (tgt := 93) hx hb (dk kL_beside_ok 50 rfl) (by decide) ?_
                  exact hret _ _ _ (by exact bes_off (by first | exact Or.inl (by assumption) | exact Or.inr (Or.inl (by assumption)) | exact Or.inr (Or.inr (Or.inl (by assumption))) | exact Or.inr (Or.inr (Or.inr (by first | assumption | exact Int32.not_le.mp (by assumption)))))) (dk kL_beside_ok 56 rfl)
    · skip
      refine lv_iconst (v := nI 1) hx hb (dk kL_beside_ok 12 rfl) rfl ?_
      refine lv_goto (tgt := 24) hx hb (dk kL_beside_ok 13 rfl) (by decide) ?_
      refine W.eq (g2 := F0 m 24 ls [.int (ea (nI d)), .int (nI (q % 13))]) (by rw [ea_1 hd h1 h2]) ?_
      refine lv_iadd hx hb (dk kL_beside_ok 15 rfl) ?_
      refine lv_istore_n (lv' := [(2, .int ((nI (q % 13)) + (ea (nI d)))), (0, .int (nI q)), (1, .int (nI d))]) hx hb (dk kL_beside_ok 16 rfl) rfl hl (by decide) rfl (fun ls hl => ?_)
      refine lv_iload_n hx hb (dk kL_beside_ok 17 rfl) rfl (lv_at hl 1 rfl) ?_
      refine lv_bipush (v := nI 13) hx hb (dk kL_beside_ok 18 rfl) rfl ?_
      refine n_idiv hx hb (by omega) (by decide) (by decide) (dk kL_beside_ok 19 rfl) ?_
      refine lv_iload_n hx hb (dk kL_beside_ok 20 rfl) rfl (lv_at hl 2 rfl) ?_
      refine lv_iconst (v := nI 2) hx hb (dk kL_beside_ok 21 rfl) rfl ?_
      refine n_icmp_eq (tgt := 41) hx hb (by omega) (by decide) (dk kL_beside_ok 22 rfl) (by decide) (fun h27 => ?_) (fun h27 => ?_)
      · skip
        refine lv_iconst (v := nI 0) hx hb (dk kL_beside_ok 26 rfl) rfl ?_
        refine lv_goto (tgt := 61) hx hb (dk kL_beside_ok 27 rfl) (by decide) ?_
        refine W.eq (g2 := F0 m 61 ls [.int (so (nI d)), .int (nI (q / 13))]) (by rw [so_0 (by omega)]) ?_
        refine lv_iadd hx hb (dk kL_beside_ok 37 rfl) ?_
        refine lv_istore_n (lv' := [(3, .int ((nI (q / 13)) + (so (nI d)))), (2, .int ((nI (q % 13)) + (ea (nI d)))), (0, .int (nI q)), (1, .int (nI d))]) hx hb (dk kL_beside_ok 38 rfl) rfl hl (by decide) rfl (fun ls hl => ?_)
        refine lv_iload_n hx hb (dk kL_beside_ok 39 rfl) rfl (lv_at hl 1 rfl) ?_
        refine lv_if_lt (tgt := 83) hx hb (dk kL_beside_ok 40 rfl) (by decide) (fun h28 => ?_) (fun h28 => ?_)
        · skip
          refine lv_iconst (v := -1) hx hb (dk kL_beside_ok 49 rfl) rfl ?_
          refine lv_goto (tgt := 93) hx hb (dk kL_beside_ok 50 rfl) (by decide) ?_
          exact hret _ _ _ (by exact bes_off (by first | exact Or.inl (by assumption) | exact Or.inr (Or.inl (by assumption)) | exact Or.inr (Or.inr (Or.inl (by assumption))) | exact Or.inr (Or.inr (Or.inr (by first | assumption | exact Int32.not_le.mp (by assumption)))))) (dk kL_beside_ok 56 rfl)
        · skip
          refine lv_iload_n hx hb (dk kL_beside_ok 41 rfl) rfl (lv_at hl 1 rfl) ?_
          refine lv_bipush (v := nI 12) hx hb (dk kL_beside_ok 42 rfl) rfl ?_
          refine lv_icmp_gt (tgt := 83) hx hb (dk kL_beside_ok 43 rfl) (by decide) (fun h29 => ?_) (fun h29 => ?_)
          · skip
            refine lv_iconst (v := -1) hx hb (dk kL_beside_ok 49 rfl) rfl ?_
            refine lv_goto (tgt := 93) hx hb (dk kL_beside_ok 50 rfl) (by decide) ?_
            exact hret _ _ _ (by exact bes_off (by first | exact Or.inl (by assumption) | exact Or.inr (Or.inl (by assumption)) | exact Or.inr (Or.inr (Or.inl (by assumption))) | exact Or.inr (Or.inr (Or.inr (by first | assumption | exact Int32.not_le.mp (by assumption)))))) (dk kL_beside_ok 56 rfl)
          · skip
            refine lv_iload_n hx hb (dk kL_beside_ok 44 rfl) rfl (lv_at hl 0 rfl) ?_
            refine lv_if_lt (tgt := 83) hx hb (dk kL_beside_ok 45 rfl) (by decide) (fun h30 => ?_) (fun h30 => ?_)
            · skip
              refine lv_iconst (v := -1) hx hb (dk kL_beside_ok 49 rfl) rfl ?_
              refine lv_goto (tgt := 93) hx hb (dk kL_beside_ok 50 rfl) (by decide) ?_
              exact hret _ _ _ (by exact bes_off (by first | exact Or.inl (by assumption) | exact Or.inr (Or.inl (by assumption)) | exact Or.inr (Or.inr (Or.inl (by assumption))) | exact Or.inr (Or.inr (Or.inr (by first | assumption | exact Int32.not_le.mp (by assumption)))))) (dk kL_beside_ok 56 rfl)
            · skip
              refine lv_iload_n hx hb (dk kL_beside_ok 46 rfl) rfl (lv_at hl 0 rfl) ?_
              refine lv_bipush (v := nI 12) hx hb (dk kL_beside_ok 47 rfl) rfl ?_
              refine lv_icmp_le (tgt := 87) hx hb (dk kL_beside_ok 48 rfl) (by decide) (fun h31 => ?_) (fun h31 => ?_)
              · skip
                refine lv_bipush (v := nI 13) hx hb (dk kL_beside_ok 51 rfl) rfl ?_
                refine lv_iload_n hx hb (dk kL_beside_ok 52 rfl) rfl (lv_at hl 0 rfl) ?_
                refine lv_imul hx hb (dk kL_beside_ok 53 rfl) ?_
                refine lv_iload_n hx hb (dk kL_beside_ok 54 rfl) rfl (lv_at hl 1 rfl) ?_
                refine lv_iadd hx hb (dk kL_beside_ok 55 rfl) ?_
                exact hret _ _ _ (by exact bes_on (by assumption) (by first | assumption | exact Int32.not_lt.mpr (by assumption)) (by assumption) (by first | assumption | exact Int32.not_lt.mpr (by assumption))) (dk kL_beside_ok 56 rfl)
              · skip
                refine lv_iconst (v := -1) hx hb (dk kL_beside_ok 49 rfl) rfl ?_
                refine lv_goto (tgt := 93) hx hb (dk kL_beside_ok 50 rfl) (by decide) ?_
                exact hret _ _ _ (by exact bes_off (by first | exact Or.inl (by assumption) | exact Or.inr (Or.inl (by assumption)) | exact Or.inr (Or.inr (Or.inl (by assumption))) | exact Or.inr (Or.inr (Or.inr (by first | assumption | exact Int32.not_le.mp (by assumption)))))) (dk kL_beside_ok 56 rfl)
      · skip
        refine lv_iload_n hx hb (dk kL_beside_ok 23 rfl) rfl (lv_at hl 2 rfl) ?_
        refine lv_bipush (v := nI 6) hx hb (dk kL_beside_ok 24 rfl) rfl ?_
        refine n_icmp_ne (tgt := 45) hx hb (by omega) (by decide) (dk kL_beside_ok 25 rfl) (by decide) (fun h32 => ?_) (fun h32 => ?_)
        · skip
          refine lv_iload_n hx hb (dk kL_beside_ok 28 rfl) rfl (lv_at hl 2 rfl) ?_
          refine lv_iconst (v := nI 2) hx hb (dk kL_beside_ok 29 rfl) rfl ?_
          refine n_icmp_le (tgt := 60) hx hb (by omega) (by decide) (dk kL_beside_ok 30 rfl) (by decide) (fun h33 => ?_) (fun h33 => ?_)
          · skip
            refine lv_iconst (v := -1) hx hb (dk kL_beside_ok 36 rfl) rfl ?_
            refine W.eq (g2 := F0 m 61 ls [.int (so (nI d)), .int (nI (q / 13))]) (by rw [so_2 hd (by omega) (by omega) (by omega)]) ?_
            refine lv_iadd hx hb (dk kL_beside_ok 37 rfl) ?_
            refine lv_istore_n (lv' := [(3, .int ((nI (q / 13)) + (so (nI d)))), (2, .int ((nI (q % 13)) + (ea (nI d)))), (0, .int (nI q)), (1, .int (nI d))]) hx hb (dk kL_beside_ok 38 rfl) rfl hl (by decide) rfl (fun ls hl => ?_)
            refine lv_iload_n hx hb (dk kL_beside_ok 39 rfl) rfl (lv_at hl 1 rfl) ?_
            refine lv_if_lt (tgt := 83) hx hb (dk kL_beside_ok 40 rfl) (by decide) (fun h34 => ?_) (fun h34 => ?_)
            · skip
              refine lv_iconst (v := -1) hx hb (dk kL_beside_ok 49 rfl) rfl ?_
              refine lv_goto (tgt := 93) hx hb (dk kL_beside_ok 50 rfl) (by decide) ?_
              exact hret _ _ _ (by exact bes_off (by first | exact Or.inl (by assumption) | exact Or.inr (Or.inl (by assumption)) | exact Or.inr (Or.inr (Or.inl (by assumption))) | exact Or.inr (Or.inr (Or.inr (by first | assumption | exact Int32.not_le.mp (by assumption)))))) (dk kL_beside_ok 56 rfl)
            · skip
              refine lv_iload_n hx hb (dk kL_beside_ok 41 rfl) rfl (lv_at hl 1 rfl) ?_
              refine lv_bipush (v := nI 12) hx hb (dk kL_beside_ok 42 rfl) rfl ?_
              refine lv_icmp_gt (tgt := 83) hx hb (dk kL_beside_ok 43 rfl) (by decide) (fun h35 => ?_) (fun h35 => ?_)
              · skip
                refine lv_iconst (v := -1) hx hb (dk kL_beside_ok 49 rfl) rfl ?_
                refine lv_goto (tgt := 93) hx hb (dk kL_beside_ok 50 rfl) (by decide) ?_
                exact hret _ _ _ (by exact bes_off (by first | exact Or.inl (by assumption) | exact Or.inr (Or.inl (by assumption)) | exact Or.inr (Or.inr (Or.inl (by assumption))) | exact Or.inr (Or.inr (Or.inr (by first | assumption | exact Int32.not_le.mp (by assumption)))))) (dk kL_beside_ok 56 rfl)
              · skip
                refine lv_iload_n hx hb (dk kL_beside_ok 44 rfl) rfl (lv_at hl 0 rfl) ?_
                refine lv_if_lt (tgt := 83) hx hb (dk kL_beside_ok 45 rfl) (by decide) (fun h36 => ?_) (fun h36 => ?_)
                · skip
                  refine lv_iconst (v := -1) hx hb (dk kL_beside_ok 49 rfl) rfl ?_
                  refine lv_goto (tgt := 93) hx hb (dk kL_beside_ok 50 rfl) (by decide) ?_
                  exact hret _ _ _ (by exact bes_off (by first | exact Or.inl (by assumption) | exact Or.inr (Or.inl (by assumption)) | exact Or.inr (Or.inr (Or.inl (by assumption))) | exact Or.inr (Or.inr (Or.inr (by first | assumption | exact Int32.not_le.mp (by assumption)))))) (dk kL_beside_ok 56 rfl)
                · skip
                  refine lv_iload_n hx hb (dk kL_beside_ok 46 rfl) rfl (lv_at hl 0 rfl) ?_
                  refine lv_bipush (v := nI 12) hx hb (dk kL_beside_ok 47 rfl) rfl ?_
                  refine lv_icmp_le (tgt := 87) hx hb (dk kL_beside_ok 48 rfl) (by decide) (fun h37 => ?_) (fun h37 => ?_)
                  · skip
                    refine lv_bipush (v := nI 13) hx hb (dk kL_beside_ok 51 rfl) rfl ?_
                    refine lv_iload_n hx hb (dk kL_beside_ok 52 rfl) rfl (lv_at hl 0 rfl) ?_
                    refine lv_imul hx hb (dk kL_beside_ok 53 rfl) ?_
                    refine lv_iload_n hx hb (dk kL_beside_ok 54 rfl) rfl (lv_at hl 1 rfl) ?_
                    refine lv_iadd hx hb (dk kL_beside_ok 55 rfl) ?_
                    exact hret _ _ _ (by exact bes_on (by assumption) (by first | assumption | exact Int32.not_lt.mpr (by assumption)) (by assumption) (by first | assumption | exact Int32.not_lt.mpr (by assumption))) (dk kL_beside_ok 56 rfl)
                  · skip
                    refine lv_iconst (v := -1) hx hb (dk kL_beside_ok 49 rfl) rfl ?_
                    refine lv_goto (tgt := 93) hx hb (dk kL_beside_ok 50 rfl) (by decide) ?_
                    exact hret _ _ _ (by exact bes_off (by first | exact Or.inl (by assumption) | exact Or.inr (Or.inl (by assumption)) | exact Or.inr (Or.inr (Or.inl (by assumption))) | exact Or.inr (Or.inr (Or.inr (by first | assumption | exact Int32.not_le.mp (by assumption)))))) (dk kL_beside_ok 56 rfl)
          · skip
            refine lv_iload_n hx hb (dk kL_beside_ok 31 rfl) rfl (lv_at hl 2 rfl) ?_
            refine lv_bipush (v := nI 6) hx hb (dk kL_beside_ok 32 rfl) rfl ?_
            refine n_icmp_ge (tgt := 60) hx hb (by omega) (by decide) (dk kL_beside_ok 33 rfl) (by decide) (fun h38 => ?_) (fun h38 => ?_)
            · skip
              refine lv_iconst (v := -1) hx hb (dk kL_beside_ok 36 rfl) rfl ?_
              refine W.eq (g2 := F0 m 61 ls [.int (so (nI d)), .int (nI (q / 13))]) (by rw [so_2 hd (by omega) (by omega) (by omega)]) ?_
              refine lv_iadd hx hb (dk kL_beside_ok 37 rfl) ?_
              refine lv_istore_n (lv' := [(3, .int ((nI (q / 13)) + (so (nI d)))), (2, .int ((nI (q % 13)) + (ea (nI d)))), (0, .int (nI q)), (1, .int (nI d))]) hx hb (dk kL_beside_ok 38 rfl) rfl hl (by decide) rfl (fun ls hl => ?_)
              refine lv_iload_n hx hb (dk kL_beside_ok 39 rfl) rfl (lv_at hl 1 rfl) ?_
              refine lv_if_lt (tgt := 83) hx hb (dk kL_beside_ok 40 rfl) (by decide) (fun h39 => ?_) (fun h39 => ?_)
              · skip
                refine lv_iconst (v := -1) hx hb (dk kL_beside_ok 49 rfl) rfl ?_
                refine lv_goto (tgt := 93) hx hb (dk kL_beside_ok 50 rfl) (by decide) ?_
                exact hret _ _ _ (by exact bes_off (by first | exact Or.inl (by assumption) | exact Or.inr (Or.inl (by assumption)) | exact Or.inr (Or.inr (Or.inl (by assumption))) | exact Or.inr (Or.inr (Or.inr (by first | assumption | exact Int32.not_le.mp (by assumption)))))) (dk kL_beside_ok 56 rfl)
              · skip
                refine lv_iload_n hx hb (dk kL_beside_ok 41 rfl) rfl (lv_at hl 1 rfl) ?_
                refine lv_bipush (v := nI 12) hx hb (dk kL_beside_ok 42 rfl) rfl ?_
                refine lv_icmp_gt (tgt := 83) hx hb (dk kL_beside_ok 43 rfl) (by decide) (fun h40 => ?_) (fun h40 => ?_)
                · skip
                  refine lv_iconst (v := -1) hx hb (dk kL_beside_ok 49 rfl) rfl ?_
                  refine lv_goto (tgt := 93) hx hb (dk kL_beside_ok 50 rfl) (by decide) ?_
                  exact hret _ _ _ (by exact bes_off (by first | exact Or.inl (by assumption) | exact Or.inr (Or.inl (by assumption)) | exact Or.inr (Or.inr (Or.inl (by assumption))) | exact Or.inr (Or.inr (Or.inr (by first | assumption | exact Int32.not_le.mp (by assumption)))))) (dk kL_beside_ok 56 rfl)
                · skip
                  refine lv_iload_n hx hb (dk kL_beside_ok 44 rfl) rfl (lv_at hl 0 rfl) ?_
                  refine lv_if_lt (tgt := 83) hx hb (dk kL_beside_ok 45 rfl) (by decide) (fun h41 => ?_) (fun h41 => ?_)
                  · skip
                    refine lv_iconst (v := -1) hx hb (dk kL_beside_ok 49 rfl) rfl ?_
                    refine lv_goto (tgt := 93) hx hb (dk kL_beside_ok 50 rfl) (by decide) ?_
                    exact hret _ _ _ (by exact bes_off (by first | exact Or.inl (by assumption) | exact Or.inr (Or.inl (by assumption)) | exact Or.inr (Or.inr (Or.inl (by assumption))) | exact Or.inr (Or.inr (Or.inr (by first | assumption | exact Int32.not_le.mp (by assumption)))))) (dk kL_beside_ok 56 rfl)
                  · skip
                    refine lv_iload_n hx hb (dk kL_beside_ok 46 rfl) rfl (lv_at hl 0 rfl) ?_
                    refine lv_bipush (v := nI 12) hx hb (dk kL_beside_ok 47 rfl) rfl ?_
                    refine lv_icmp_le (tgt := 87) hx hb (dk kL_beside_ok 48 rfl) (by decide) (fun h42 => ?_) (fun h42 => ?_)
                    · skip
                      refine lv_bipush (v := nI 13) hx hb (dk kL_beside_ok 51 rfl) rfl ?_
                      refine lv_iload_n hx hb (dk kL_beside_ok 52 rfl) rfl (lv_at hl 0 rfl) ?_
                      refine lv_imul hx hb (dk kL_beside_ok 53 rfl) ?_
                      refine lv_iload_n hx hb (dk kL_beside_ok 54 rfl) rfl (lv_at hl 1 rfl) ?_
                      refine lv_iadd hx hb (dk kL_beside_ok 55 rfl) ?_
                      exact hret _ _ _ (by exact bes_on (by assumption) (by first | assumption | exact Int32.not_lt.mpr (by assumption)) (by assumption) (by first | assumption | exact Int32.not_lt.mpr (by assumption))) (dk kL_beside_ok 56 rfl)
                    · skip
                      refine lv_iconst (v := -1) hx hb (dk kL_beside_ok 49 rfl) rfl ?_
                      refine lv_goto (tgt := 93) hx hb (dk kL_beside_ok 50 rfl) (by decide) ?_
                      exact hret _ _ _ (by exact bes_off (by first | exact Or.inl (by assumption) | exact Or.inr (Or.inl (by assumption)) | exact Or.inr (Or.inr (Or.inl (by assumption))) | exact Or.inr (Or.inr (Or.inr (by first | assumption | exact Int32.not_le.mp (by assumption)))))) (dk kL_beside_ok 56 rfl)
            · skip
              refine lv_iconst (v := nI 1) hx hb (dk kL_beside_ok 34 rfl) rfl ?_
              refine lv_goto (tgt := 61) hx hb (dk kL_beside_ok 35 rfl) (by decide) ?_
              refine W.eq (g2 := F0 m 61 ls [.int (so (nI d)), .int (nI (q / 13))]) (by rw [so_1 hd (by omega) (by omega) (by omega) (by omega)]) ?_
              refine lv_iadd hx hb (dk kL_beside_ok 37 rfl) ?_
              refine lv_istore_n (lv' := [(3, .int ((nI (q / 13)) + (so (nI d)))), (2, .int ((nI (q % 13)) + (ea (nI d)))), (0, .int (nI q)), (1, .int (nI d))]) hx hb (dk kL_beside_ok 38 rfl) rfl hl (by decide) rfl (fun ls hl => ?_)
              refine lv_iload_n hx hb (dk kL_beside_ok 39 rfl) rfl (lv_at hl 1 rfl) ?_
              refine lv_if_lt (tgt := 83) hx hb (dk kL_beside_ok 40 rfl) (by decide) (fun h43 => ?_) (fun h43 => ?_)
              · skip
                refine lv_iconst (v := -1) hx hb (dk kL_beside_ok 49 rfl) rfl ?_
                refine lv_goto (tgt := 93) hx hb (dk kL_beside_ok 50 rfl) (by decide) ?_
                exact hret _ _ _ (by exact bes_off (by first | exact Or.inl (by assumption) | exact Or.inr (Or.inl (by assumption)) | exact Or.inr (Or.inr (Or.inl (by assumption))) | exact Or.inr (Or.inr (Or.inr (by first | assumption | exact Int32.not_le.mp (by assumption)))))) (dk kL_beside_ok 56 rfl)
              · skip
                refine lv_iload_n hx hb (dk kL_beside_ok 41 rfl) rfl (lv_at hl 1 rfl) ?_
                refine lv_bipush (v := nI 12) hx hb (dk kL_beside_ok 42 rfl) rfl ?_
                refine lv_icmp_gt (tgt := 83) hx hb (dk kL_beside_ok 43 rfl) (by decide) (fun h44 => ?_) (fun h44 => ?_)
                · skip
                  refine lv_iconst (v := -1) hx hb (dk kL_beside_ok 49 rfl) rfl ?_
                  refine lv_goto (tgt := 93) hx hb (dk kL_beside_ok 50 rfl) (by decide) ?_
                  exact hret _ _ _ (by exact bes_off (by first | exact Or.inl (by assumption) | exact Or.inr (Or.inl (by assumption)) | exact Or.inr (Or.inr (Or.inl (by assumption))) | exact Or.inr (Or.inr (Or.inr (by first | assumption | exact Int32.not_le.mp (by assumption)))))) (dk kL_beside_ok 56 rfl)
                · skip
                  refine lv_iload_n hx hb (dk kL_beside_ok 44 rfl) rfl (lv_at hl 0 rfl) ?_
                  refine lv_if_lt (tgt := 83) hx hb (dk kL_beside_ok 45 rfl) (by decide) (fun h45 => ?_) (fun h45 => ?_)
                  · skip
                    refine lv_iconst (v := -1) hx hb (dk kL_beside_ok 49 rfl) rfl ?_
                    refine lv_goto (tgt := 93) hx hb (dk kL_beside_ok 50 rfl) (by decide) ?_
                    exact hret _ _ _ (by exact bes_off (by first | exact Or.inl (by assumption) | exact Or.inr (Or.inl (by assumption)) | exact Or.inr (Or.inr (Or.inl (by assumption))) | exact Or.inr (Or.inr (Or.inr (by first | assumption | exact Int32.not_le.mp (by assumption)))))) (dk kL_beside_ok 56 rfl)
                  · skip
                    refine lv_iload_n hx hb (dk kL_beside_ok 46 rfl) rfl (lv_at hl 0 rfl) ?_
                    refine lv_bipush (v := nI 12) hx hb (dk kL_beside_ok 47 rfl) rfl ?_
                    refine lv_icmp_le (tgt := 87) hx hb (dk kL_beside_ok 48 rfl) (by decide) (fun h46 => ?_) (fun h46 => ?_)
                    · skip
                      refine lv_bipush (v := nI 13) hx hb (dk kL_beside_ok 51 rfl) rfl ?_
                      refine lv_iload_n hx hb (dk kL_beside_ok 52 rfl) rfl (lv_at hl 0 rfl) ?_
                      refine lv_imul hx hb (dk kL_beside_ok 53 rfl) ?_
                      refine lv_iload_n hx hb (dk kL_beside_ok 54 rfl) rfl (lv_at hl 1 rfl) ?_
                      refine lv_iadd hx hb (dk kL_beside_ok 55 rfl) ?_
                      exact hret _ _ _ (by exact bes_on (by assumption) (by first | assumption | exact Int32.not_lt.mpr (by assumption)) (by assumption) (by first | assumption | exact Int32.not_lt.mpr (by assumption))) (dk kL_beside_ok 56 rfl)
                    · skip
                      refine lv_iconst (v := -1) hx hb (dk kL_beside_ok 49 rfl) rfl ?_
                      refine lv_goto (tgt := 93) hx hb (dk kL_beside_ok 50 rfl) (by decide) ?_
                      exact hret _ _ _ (by exact bes_off (by first | exact Or.inl (by assumption) | exact Or.inr (Or.inl (by assumption)) | exact Or.inr (Or.inr (Or.inl (by assumption))) | exact Or.inr (Or.inr (Or.inr (by first | assumption | exact Int32.not_le.mp (by assumption)))))) (dk kL_beside_ok 56 rfl)
        · skip
          refine lv_iconst (v := nI 0) hx hb (dk kL_beside_ok 26 rfl) rfl ?_
          refine lv_goto (tgt := 61) hx hb (dk kL_beside_ok 27 rfl) (by decide) ?_
          refine W.eq (g2 := F0 m 61 ls [.int (so (nI d)), .int (nI (q / 13))]) (by rw [so_0 (by omega)]) ?_
          refine lv_iadd hx hb (dk kL_beside_ok 37 rfl) ?_
          refine lv_istore_n (lv' := [(3, .int ((nI (q / 13)) + (so (nI d)))), (2, .int ((nI (q % 13)) + (ea (nI d)))), (0, .int (nI q)), (1, .int (nI d))]) hx hb (dk kL_beside_ok 38 rfl) rfl hl (by decide) rfl (fun ls hl => ?_)
          refine lv_iload_n hx hb (dk kL_beside_ok 39 rfl) rfl (lv_at hl 1 rfl) ?_
          refine lv_if_lt (tgt := 83) hx hb (dk kL_beside_ok 40 rfl) (by decide) (fun h47 => ?_) (fun h47 => ?_)
          · skip
            refine lv_iconst (v := -1) hx hb (dk kL_beside_ok 49 rfl) rfl ?_
            refine lv_goto (tgt := 93) hx hb (dk kL_beside_ok 50 rfl) (by decide) ?_
            exact hret _ _ _ (by exact bes_off (by first | exact Or.inl (by assumption) | exact Or.inr (Or.inl (by assumption)) | exact Or.inr (Or.inr (Or.inl (by assumption))) | exact Or.inr (Or.inr (Or.inr (by first | assumption | exact Int32.not_le.mp (by assumption)))))) (dk kL_beside_ok 56 rfl)
          · skip
            refine lv_iload_n hx hb (dk kL_beside_ok 41 rfl) rfl (lv_at hl 1 rfl) ?_
            refine lv_bipush (v := nI 12) hx hb (dk kL_beside_ok 42 rfl) rfl ?_
            refine lv_icmp_gt (tgt := 83) hx hb (dk kL_beside_ok 43 rfl) (by decide) (fun h48 => ?_) (fun h48 => ?_)
            · skip
              refine lv_iconst (v := -1) hx hb (dk kL_beside_ok 49 rfl) rfl ?_
              refine lv_goto (tgt := 93) hx hb (dk kL_beside_ok 50 rfl) (by decide) ?_
              exact hret _ _ _ (by exact bes_off (by first | exact Or.inl (by assumption) | exact Or.inr (Or.inl (by assumption)) | exact Or.inr (Or.inr (Or.inl (by assumption))) | exact Or.inr (Or.inr (Or.inr (by first | assumption | exact Int32.not_le.mp (by assumption)))))) (dk kL_beside_ok 56 rfl)
            · skip
              refine lv_iload_n hx hb (dk kL_beside_ok 44 rfl) rfl (lv_at hl 0 rfl) ?_
              refine lv_if_lt (tgt := 83) hx hb (dk kL_beside_ok 45 rfl) (by decide) (fun h49 => ?_) (fun h49 => ?_)
              · skip
                refine lv_iconst (v := -1) hx hb (dk kL_beside_ok 49 rfl) rfl ?_
                refine lv_goto (tgt := 93) hx hb (dk kL_beside_ok 50 rfl) (by decide) ?_
                exact hret _ _ _ (by exact bes_off (by first | exact Or.inl (by assumption) | exact Or.inr (Or.inl (by assumption)) | exact Or.inr (Or.inr (Or.inl (by assumption))) | exact Or.inr (Or.inr (Or.inr (by first | assumption | exact Int32.not_le.mp (by assumption)))))) (dk kL_beside_ok 56 rfl)
              · skip
                refine lv_iload_n hx hb (dk kL_beside_ok 46 rfl) rfl (lv_at hl 0 rfl) ?_
                refine lv_bipush (v := nI 12) hx hb (dk kL_beside_ok 47 rfl) rfl ?_
                refine lv_icmp_le (tgt := 87) hx hb (dk kL_beside_ok 48 rfl) (by decide) (fun h50 => ?_) (fun h50 => ?_)
                · skip
                  refine lv_bipush (v := nI 13) hx hb (dk kL_beside_ok 51 rfl) rfl ?_
                  refine lv_iload_n hx hb (dk kL_beside_ok 52 rfl) rfl (lv_at hl 0 rfl) ?_
                  refine lv_imul hx hb (dk kL_beside_ok 53 rfl) ?_
                  refine lv_iload_n hx hb (dk kL_beside_ok 54 rfl) rfl (lv_at hl 1 rfl) ?_
                  refine lv_iadd hx hb (dk kL_beside_ok 55 rfl) ?_
                  exact hret _ _ _ (by exact bes_on (by assumption) (by first | assumption | exact Int32.not_lt.mpr (by assumption)) (by assumption) (by first | assumption | exact Int32.not_lt.mpr (by assumption))) (dk kL_beside_ok 56 rfl)
                · skip
                  refine lv_iconst (v := -1) hx hb (dk kL_beside_ok 49 rfl) rfl ?_
                  refine lv_goto (tgt := 93) hx hb (dk kL_beside_ok 50 rfl) (by decide) ?_
                  exact hret _ _ _ (by exact bes_off (by first | exact Or.inl (by assumption) | exact Or.inr (Or.inl (by assumption)) | exact Or.inr (Or.inr (Or.inl (by assumption))) | exact Or.inr (Or.inr (Or.inr (by first | assumption | exact Int32.not_le.mp (by assumption)))))) (dk kL_beside_ok 56 rfl)
  · skip
    refine lv_iconst (v := nI 0) hx hb (dk kL_beside_ok 7 rfl) rfl ?_
    refine lv_goto (tgt := 24) hx hb (dk kL_beside_ok 8 rfl) (by decide) ?_
    refine W.eq (g2 := F0 m 24 ls [.int (ea (nI d)), .int (nI (q % 13))]) (by rw [ea_0 hd h1]) ?_
    refine lv_iadd hx hb (dk kL_beside_ok 15 rfl) ?_
    refine lv_istore_n (lv' := [(2, .int ((nI (q % 13)) + (ea (nI d)))), (0, .int (nI q)), (1, .int (nI d))]) hx hb (dk kL_beside_ok 16 rfl) rfl hl (by decide) rfl (fun ls hl => ?_)
    refine lv_iload_n hx hb (dk kL_beside_ok 17 rfl) rfl (lv_at hl 1 rfl) ?_
    refine lv_bipush (v := nI 13) hx hb (dk kL_beside_ok 18 rfl) rfl ?_
    refine n_idiv hx hb (by omega) (by decide) (by decide) (dk kL_beside_ok 19 rfl) ?_
    refine lv_iload_n hx hb (dk kL_beside_ok 20 rfl) rfl (lv_at hl 2 rfl) ?_
    refine lv_iconst (v := nI 2) hx hb (dk kL_beside_ok 21 rfl) rfl ?_
    refine n_icmp_eq (tgt := 41) hx hb (by omega) (by decide) (dk kL_beside_ok 22 rfl) (by decide) (fun h51 => ?_) (fun h51 => ?_)
    · skip
      refine lv_iconst (v := nI 0) hx hb (dk kL_beside_ok 26 rfl) rfl ?_
      refine lv_goto (tgt := 61) hx hb (dk kL_beside_ok 27 rfl) (by decide) ?_
      refine W.eq (g2 := F0 m 61 ls [.int (so (nI d)), .int (nI (q / 13))]) (by rw [so_0 (by omega)]) ?_
      refine lv_iadd hx hb (dk kL_beside_ok 37 rfl) ?_
      refine lv_istore_n (lv' := [(3, .int ((nI (q / 13)) + (so (nI d)))), (2, .int ((nI (q % 13)) + (ea (nI d)))), (0, .int (nI q)), (1, .int (nI d))]) hx hb (dk kL_beside_ok 38 rfl) rfl hl (by decide) rfl (fun ls hl => ?_)
      refine lv_iload_n hx hb (dk kL_beside_ok 39 rfl) rfl (lv_at hl 1 rfl) ?_
      refine lv_if_lt (tgt := 83) hx hb (dk kL_beside_ok 40 rfl) (by decide) (fun h52 => ?_) (fun h52 => ?_)
      · skip
        refine lv_iconst (v := -1) hx hb (dk kL_beside_ok 49 rfl) rfl ?_
        refine lv_goto (tgt := 93) hx hb (dk kL_beside_ok 50 rfl) (by decide) ?_
        exact hret _ _ _ (by exact bes_off (by first | exact Or.inl (by assumption) | exact Or.inr (Or.inl (by assumption)) | exact Or.inr (Or.inr (Or.inl (by assumption))) | exact Or.inr (Or.inr (Or.inr (by first | assumption | exact Int32.not_le.mp (by assumption)))))) (dk kL_beside_ok 56 rfl)
      · skip
        refine lv_iload_n hx hb (dk kL_beside_ok 41 rfl) rfl (lv_at hl 1 rfl) ?_
        refine lv_bipush (v := nI 12) hx hb (dk kL_beside_ok 42 rfl) rfl ?_
        refine lv_icmp_gt (tgt := 83) hx hb (dk kL_beside_ok 43 rfl) (by decide) (fun h53 => ?_) (fun h53 => ?_)
        · skip
          refine lv_iconst (v := -1) hx hb (dk kL_beside_ok 49 rfl) rfl ?_
          refine lv_goto (tgt := 93) hx hb (dk kL_beside_ok 50 rfl) (by decide) ?_
          exact hret _ _ _ (by exact bes_off (by first | exact Or.inl (by assumption) | exact Or.inr (Or.inl (by assumption)) | exact Or.inr (Or.inr (Or.inl (by assumption))) | exact Or.inr (Or.inr (Or.inr (by first | assumption | exact Int32.not_le.mp (by assumption)))))) (dk kL_beside_ok 56 rfl)
        · skip
          refine lv_iload_n hx hb (dk kL_beside_ok 44 rfl) rfl (lv_at hl 0 rfl) ?_
          refine lv_if_lt (tgt := 83) hx hb (dk kL_beside_ok 45 rfl) (by decide) (fun h54 => ?_) (fun h54 => ?_)
          · skip
            refine lv_iconst (v := -1) hx hb (dk kL_beside_ok 49 rfl) rfl ?_
            refine lv_goto (tgt := 93) hx hb (dk kL_beside_ok 50 rfl) (by decide) ?_
            exact hret _ _ _ (by exact bes_off (by first | exact Or.inl (by assumption) | exact Or.inr (Or.inl (by assumption)) | exact Or.inr (Or.inr (Or.inl (by assumption))) | exact Or.inr (Or.inr (Or.inr (by first | assumption | exact Int32.not_le.mp (by assumption)))))) (dk kL_beside_ok 56 rfl)
          · skip
            refine lv_iload_n hx hb (dk kL_beside_ok 46 rfl) rfl (lv_at hl 0 rfl) ?_
            refine lv_bipush (v := nI 12) hx hb (dk kL_beside_ok 47 rfl) rfl ?_
            refine lv_icmp_le (tgt := 87) hx hb (dk kL_beside_ok 48 rfl) (by decide) (fun h55 => ?_) (fun h55 => ?_)
            · skip
              refine lv_bipush (v := nI 13) hx hb (dk kL_beside_ok 51 rfl) rfl ?_
              refine lv_iload_n hx hb (dk kL_beside_ok 52 rfl) rfl (lv_at hl 0 rfl) ?_
              refine lv_imul hx hb (dk kL_beside_ok 53 rfl) ?_
              refine lv_iload_n hx hb (dk kL_beside_ok 54 rfl) rfl (lv_at hl 1 rfl) ?_
              refine lv_iadd hx hb (dk kL_beside_ok 55 rfl) ?_
              exact hret _ _ _ (by exact bes_on (by assumption) (by first | assumption | exact Int32.not_lt.mpr (by assumption)) (by assumption) (by first | assumption | exact Int32.not_lt.mpr (by assumption))) (dk kL_beside_ok 56 rfl)
            · skip
              refine lv_iconst (v := -1) hx hb (dk kL_beside_ok 49 rfl) rfl ?_
              refine lv_goto (tgt := 93) hx hb (dk kL_beside_ok 50 rfl) (by decide) ?_
              exact hret _ _ _ (by exact bes_off (by first | exact Or.inl (by assumption) | exact Or.inr (Or.inl (by assumption)) | exact Or.inr (Or.inr (Or.inl (by assumption))) | exact Or.inr (Or.inr (Or.inr (by first | assumption | exact Int32.not_le.mp (by assumption)))))) (dk kL_beside_ok 56 rfl)
    · skip
      refine lv_iload_n hx hb (dk kL_beside_ok 23 rfl) rfl (lv_at hl 2 rfl) ?_
      refine lv_bipush (v := nI 6) hx hb (dk kL_beside_ok 24 rfl) rfl ?_
      refine n_icmp_ne (tgt := 45) hx hb (by omega) (by decide) (dk kL_beside_ok 25 rfl) (by decide) (fun h56 => ?_) (fun h56 => ?_)
      · skip
        refine lv_iload_n hx hb (dk kL_beside_ok 28 rfl) rfl (lv_at hl 2 rfl) ?_
        refine lv_iconst (v := nI 2) hx hb (dk kL_beside_ok 29 rfl) rfl ?_
        refine n_icmp_le (tgt := 60) hx hb (by omega) (by decide) (dk kL_beside_ok 30 rfl) (by decide) (fun h57 => ?_) (fun h57 => ?_)
        · skip
          refine lv_iconst (v := -1) hx hb (dk kL_beside_ok 36 rfl) rfl ?_
          refine W.eq (g2 := F0 m 61 ls [.int (so (nI d)), .int (nI (q / 13))]) (by rw [so_2 hd (by omega) (by omega) (by omega)]) ?_
          refine lv_iadd hx hb (dk kL_beside_ok 37 rfl) ?_
          refine lv_istore_n (lv' := [(3, .int ((nI (q / 13)) + (so (nI d)))), (2, .int ((nI (q % 13)) + (ea (nI d)))), (0, .int (nI q)), (1, .int (nI d))]) hx hb (dk kL_beside_ok 38 rfl) rfl hl (by decide) rfl (fun ls hl => ?_)
          refine lv_iload_n hx hb (dk kL_beside_ok 39 rfl) rfl (lv_at hl 1 rfl) ?_
          refine lv_if_lt (tgt := 83) hx hb (dk kL_beside_ok 40 rfl) (by decide) (fun h58 => ?_) (fun h58 => ?_)
          · skip
            refine lv_iconst (v := -1) hx hb (dk kL_beside_ok 49 rfl) rfl ?_
            refine lv_goto (tgt := 93) hx hb (dk kL_beside_ok 50 rfl) (by decide) ?_
            exact hret _ _ _ (by exact bes_off (by first | exact Or.inl (by assumption) | exact Or.inr (Or.inl (by assumption)) | exact Or.inr (Or.inr (Or.inl (by assumption))) | exact Or.inr (Or.inr (Or.inr (by first | assumption | exact Int32.not_le.mp (by assumption)))))) (dk kL_beside_ok 56 rfl)
          · skip
            refine lv_iload_n hx hb (dk kL_beside_ok 41 rfl) rfl (lv_at hl 1 rfl) ?_
            refine lv_bipush (v := nI 12) hx hb (dk kL_beside_ok 42 rfl) rfl ?_
            refine lv_icmp_gt (tgt := 83) hx hb (dk kL_beside_ok 43 rfl) (by decide) (fun h59 => ?_) (fun h59 => ?_)
            · skip
              refine lv_iconst (v := -1) hx hb (dk kL_beside_ok 49 rfl) rfl ?_
              refine lv_goto (tgt := 93) hx hb (dk kL_beside_ok 50 rfl) (by decide) ?_
              exact hret _ _ _ (by exact bes_off (by first | exact Or.inl (by assumption) | exact Or.inr (Or.inl (by assumption)) | exact Or.inr (Or.inr (Or.inl (by assumption))) | exact Or.inr (Or.inr (Or.inr (by first | assumption | exact Int32.not_le.mp (by assumption)))))) (dk kL_beside_ok 56 rfl)
            · skip
              refine lv_iload_n hx hb (dk kL_beside_ok 44 rfl) rfl (lv_at hl 0 rfl) ?_
              refine lv_if_lt (tgt := 83) hx hb (dk kL_beside_ok 45 rfl) (by decide) (fun h60 => ?_) (fun h60 => ?_)
              · skip
                refine lv_iconst (v := -1) hx hb (dk kL_beside_ok 49 rfl) rfl ?_
                refine lv_goto (tgt := 93) hx hb (dk kL_beside_ok 50 rfl) (by decide) ?_
                exact hret _ _ _ (by exact bes_off (by first | exact Or.inl (by assumption) | exact Or.inr (Or.inl (by assumption)) | exact Or.inr (Or.inr (Or.inl (by assumption))) | exact Or.inr (Or.inr (Or.inr (by first | assumption | exact Int32.not_le.mp (by assumption)))))) (dk kL_beside_ok 56 rfl)
              · skip
                refine lv_iload_n hx hb (dk kL_beside_ok 46 rfl) rfl (lv_at hl 0 rfl) ?_
                refine lv_bipush (v := nI 12) hx hb (dk kL_beside_ok 47 rfl) rfl ?_
                refine lv_icmp_le (tgt := 87) hx hb (dk kL_beside_ok 48 rfl) (by decide) (fun h61 => ?_) (fun h61 => ?_)
                · skip
                  refine lv_bipush (v := nI 13) hx hb (dk kL_beside_ok 51 rfl) rfl ?_
                  refine lv_iload_n hx hb (dk kL_beside_ok 52 rfl) rfl (lv_at hl 0 rfl) ?_
                  refine lv_imul hx hb (dk kL_beside_ok 53 rfl) ?_
                  refine lv_iload_n hx hb (dk kL_beside_ok 54 rfl) rfl (lv_at hl 1 rfl) ?_
                  refine lv_iadd hx hb (dk kL_beside_ok 55 rfl) ?_
                  exact hret _ _ _ (by exact bes_on (by assumption) (by first | assumption | exact Int32.not_lt.mpr (by assumption)) (by assumption) (by first | assumption | exact Int32.not_lt.mpr (by assumption))) (dk kL_beside_ok 56 rfl)
                · skip
                  refine lv_iconst (v := -1) hx hb (dk kL_beside_ok 49 rfl) rfl ?_
                  refine lv_goto (tgt := 93) hx hb (dk kL_beside_ok 50 rfl) (by decide) ?_
                  exact hret _ _ _ (by exact bes_off (by first | exact Or.inl (by assumption) | exact Or.inr (Or.inl (by assumption)) | exact Or.inr (Or.inr (Or.inl (by assumption))) | exact Or.inr (Or.inr (Or.inr (by first | assumption | exact Int32.not_le.mp (by assumption)))))) (dk kL_beside_ok 56 rfl)
        · skip
          refine lv_iload_n hx hb (dk kL_beside_ok 31 rfl) rfl (lv_at hl 2 rfl) ?_
          refine lv_bipush (v := nI 6) hx hb (dk kL_beside_ok 32 rfl) rfl ?_
          refine n_icmp_ge (tgt := 60) hx hb (by omega) (by decide) (dk kL_beside_ok 33 rfl) (by decide) (fun h62 => ?_) (fun h62 => ?_)
          · skip
            refine lv_iconst (v := -1) hx hb (dk kL_beside_ok 36 rfl) rfl ?_
            refine W.eq (g2 := F0 m 61 ls [.int (so (nI d)), .int (nI (q / 13))]) (by rw [so_2 hd (by omega) (by omega) (by omega)]) ?_
            refine lv_iadd hx hb (dk kL_beside_ok 37 rfl) ?_
            refine lv_istore_n (lv' := [(3, .int ((nI (q / 13)) + (so (nI d)))), (2, .int ((nI (q % 13)) + (ea (nI d)))), (0, .int (nI q)), (1, .int (nI d))]) hx hb (dk kL_beside_ok 38 rfl) rfl hl (by decide) rfl (fun ls hl => ?_)
            refine lv_iload_n hx hb (dk kL_beside_ok 39 rfl) rfl (lv_at hl 1 rfl) ?_
            refine lv_if_lt (tgt := 83) hx hb (dk kL_beside_ok 40 rfl) (by decide) (fun h63 => ?_) (fun h63 => ?_)
            · skip
              refine lv_iconst (v := -1) hx hb (dk kL_beside_ok 49 rfl) rfl ?_
              refine lv_goto (tgt := 93) hx hb (dk kL_beside_ok 50 rfl) (by decide) ?_
              exact hret _ _ _ (by exact bes_off (by first | exact Or.inl (by assumption) | exact Or.inr (Or.inl (by assumption)) | exact Or.inr (Or.inr (Or.inl (by assumption))) | exact Or.inr (Or.inr (Or.inr (by first | assumption | exact Int32.not_le.mp (by assumption)))))) (dk kL_beside_ok 56 rfl)
            · skip
              refine lv_iload_n hx hb (dk kL_beside_ok 41 rfl) rfl (lv_at hl 1 rfl) ?_
              refine lv_bipush (v := nI 12) hx hb (dk kL_beside_ok 42 rfl) rfl ?_
              refine lv_icmp_gt (tgt := 83) hx hb (dk kL_beside_ok 43 rfl) (by decide) (fun h64 => ?_) (fun h64 => ?_)
              · skip
                refine lv_iconst (v := -1) hx hb (dk kL_beside_ok 49 rfl) rfl ?_
                refine lv_goto (tgt := 93) hx hb (dk kL_beside_ok 50 rfl) (by decide) ?_
                exact hret _ _ _ (by exact bes_off (by first | exact Or.inl (by assumption) | exact Or.inr (Or.inl (by assumption)) | exact Or.inr (Or.inr (Or.inl (by assumption))) | exact Or.inr (Or.inr (Or.inr (by first | assumption | exact Int32.not_le.mp (by assumption)))))) (dk kL_beside_ok 56 rfl)
              · skip
                refine lv_iload_n hx hb (dk kL_beside_ok 44 rfl) rfl (lv_at hl 0 rfl) ?_
                refine lv_if_lt (tgt := 83) hx hb (dk kL_beside_ok 45 rfl) (by decide) (fun h65 => ?_) (fun h65 => ?_)
                · skip
                  refine lv_iconst (v := -1) hx hb (dk kL_beside_ok 49 rfl) rfl ?_
                  refine lv_goto (tgt := 93) hx hb (dk kL_beside_ok 50 rfl) (by decide) ?_
                  exact hret _ _ _ (by exact bes_off (by first | exact Or.inl (by assumption) | exact Or.inr (Or.inl (by assumption)) | exact Or.inr (Or.inr (Or.inl (by assumption))) | exact Or.inr (Or.inr (Or.inr (by first | assumption | exact Int32.not_le.mp (by assumption)))))) (dk kL_beside_ok 56 rfl)
                · skip
                  refine lv_iload_n hx hb (dk kL_beside_ok 46 rfl) rfl (lv_at hl 0 rfl) ?_
                  refine lv_bipush (v := nI 12) hx hb (dk kL_beside_ok 47 rfl) rfl ?_
                  refine lv_icmp_le (tgt := 87) hx hb (dk kL_beside_ok 48 rfl) (by decide) (fun h66 => ?_) (fun h66 => ?_)
                  · skip
                    refine lv_bipush (v := nI 13) hx hb (dk kL_beside_ok 51 rfl) rfl ?_
                    refine lv_iload_n hx hb (dk kL_beside_ok 52 rfl) rfl (lv_at hl 0 rfl) ?_
                    refine lv_imul hx hb (dk kL_beside_ok 53 rfl) ?_
                    refine lv_iload_n hx hb (dk kL_beside_ok 54 rfl) rfl (lv_at hl 1 rfl) ?_
                    refine lv_iadd hx hb (dk kL_beside_ok 55 rfl) ?_
                    exact hret _ _ _ (by exact bes_on (by assumption) (by first | assumption | exact Int32.not_lt.mpr (by assumption)) (by assumption) (by first | assumption | exact Int32.not_lt.mpr (by assumption))) (dk kL_beside_ok 56 rfl)
                  · skip
                    refine lv_iconst (v := -1) hx hb (dk kL_beside_ok 49 rfl) rfl ?_
                    refine lv_goto (tgt := 93) hx hb (dk kL_beside_ok 50 rfl) (by decide) ?_
                    exact hret _ _ _ (by exact bes_off (by first | exact Or.inl (by assumption) | exact Or.inr (Or.inl (by assumption)) | exact Or.inr (Or.inr (Or.inl (by assumption))) | exact Or.inr (Or.inr (Or.inr (by first | assumption | exact Int32.not_le.mp (by assumption)))))) (dk kL_beside_ok 56 rfl)
          · skip
            refine lv_iconst (v := nI 1) hx hb (dk kL_beside_ok 34 rfl) rfl ?_
            refine lv_goto (tgt := 61) hx hb (dk kL_beside_ok 35 rfl) (by decide) ?_
            refine W.eq (g2 := F0 m 61 ls [.int (so (nI d)), .int (nI (q / 13))]) (by rw [so_1 hd (by omega) (by omega) (by omega) (by omega)]) ?_
            refine lv_iadd hx hb (dk kL_beside_ok 37 rfl) ?_
            refine lv_istore_n (lv' := [(3, .int ((nI (q / 13)) + (so (nI d)))), (2, .int ((nI (q % 13)) + (ea (nI d)))), (0, .int (nI q)), (1, .int (nI d))]) hx hb (dk kL_beside_ok 38 rfl) rfl hl (by decide) rfl (fun ls hl => ?_)
            refine lv_iload_n hx hb (dk kL_beside_ok 39 rfl) rfl (lv_at hl 1 rfl) ?_
            refine lv_if_lt (tgt := 83) hx hb (dk kL_beside_ok 40 rfl) (by decide) (fun h67 => ?_) (fun h67 => ?_)
            · skip
              refine lv_iconst (v := -1) hx hb (dk kL_beside_ok 49 rfl) rfl ?_
              refine lv_goto (tgt := 93) hx hb (dk kL_beside_ok 50 rfl) (by decide) ?_
              exact hret _ _ _ (by exact bes_off (by first | exact Or.inl (by assumption) | exact Or.inr (Or.inl (by assumption)) | exact Or.inr (Or.inr (Or.inl (by assumption))) | exact Or.inr (Or.inr (Or.inr (by first | assumption | exact Int32.not_le.mp (by assumption)))))) (dk kL_beside_ok 56 rfl)
            · skip
              refine lv_iload_n hx hb (dk kL_beside_ok 41 rfl) rfl (lv_at hl 1 rfl) ?_
              refine lv_bipush (v := nI 12) hx hb (dk kL_beside_ok 42 rfl) rfl ?_
              refine lv_icmp_gt (tgt := 83) hx hb (dk kL_beside_ok 43 rfl) (by decide) (fun h68 => ?_) (fun h68 => ?_)
              · skip
                refine lv_iconst (v := -1) hx hb (dk kL_beside_ok 49 rfl) rfl ?_
                refine lv_goto (tgt := 93) hx hb (dk kL_beside_ok 50 rfl) (by decide) ?_
                exact hret _ _ _ (by exact bes_off (by first | exact Or.inl (by assumption) | exact Or.inr (Or.inl (by assumption)) | exact Or.inr (Or.inr (Or.inl (by assumption))) | exact Or.inr (Or.inr (Or.inr (by first | assumption | exact Int32.not_le.mp (by assumption)))))) (dk kL_beside_ok 56 rfl)
              · skip
                refine lv_iload_n hx hb (dk kL_beside_ok 44 rfl) rfl (lv_at hl 0 rfl) ?_
                refine lv_if_lt (tgt := 83) hx hb (dk kL_beside_ok 45 rfl) (by decide) (fun h69 => ?_) (fun h69 => ?_)
                · skip
                  refine lv_iconst (v := -1) hx hb (dk kL_beside_ok 49 rfl) rfl ?_
                  refine lv_goto (tgt := 93) hx hb (dk kL_beside_ok 50 rfl) (by decide) ?_
                  exact hret _ _ _ (by exact bes_off (by first | exact Or.inl (by assumption) | exact Or.inr (Or.inl (by assumption)) | exact Or.inr (Or.inr (Or.inl (by assumption))) | exact Or.inr (Or.inr (Or.inr (by first | assumption | exact Int32.not_le.mp (by assumption)))))) (dk kL_beside_ok 56 rfl)
                · skip
                  refine lv_iload_n hx hb (dk kL_beside_ok 46 rfl) rfl (lv_at hl 0 rfl) ?_
                  refine lv_bipush (v := nI 12) hx hb (dk kL_beside_ok 47 rfl) rfl ?_
                  refine lv_icmp_le (tgt := 87) hx hb (dk kL_beside_ok 48 rfl) (by decide) (fun h70 => ?_) (fun h70 => ?_)
                  · skip
                    refine lv_bipush (v := nI 13) hx hb (dk kL_beside_ok 51 rfl) rfl ?_
                    refine lv_iload_n hx hb (dk kL_beside_ok 52 rfl) rfl (lv_at hl 0 rfl) ?_
                    refine lv_imul hx hb (dk kL_beside_ok 53 rfl) ?_
                    refine lv_iload_n hx hb (dk kL_beside_ok 54 rfl) rfl (lv_at hl 1 rfl) ?_
                    refine lv_iadd hx hb (dk kL_beside_ok 55 rfl) ?_
                    exact hret _ _ _ (by exact bes_on (by assumption) (by first | assumption | exact Int32.not_lt.mpr (by assumption)) (by assumption) (by first | assumption | exact Int32.not_lt.mpr (by assumption))) (dk kL_beside_ok 56 rfl)
                  · skip
                    refine lv_iconst (v := -1) hx hb (dk kL_beside_ok 49 rfl) rfl ?_
                    refine lv_goto (tgt := 93) hx hb (dk kL_beside_ok 50 rfl) (by decide) ?_
                    exact hret _ _ _ (by exact bes_off (by first | exact Or.inl (by assumption) | exact Or.inr (Or.inl (by assumption)) | exact Or.inr (Or.inr (Or.inl (by assumption))) | exact Or.inr (Or.inr (Or.inr (by first | assumption | exact Int32.not_le.mp (by assumption)))))) (dk kL_beside_ok 56 rfl)
      · skip
        refine lv_iconst (v := nI 0) hx hb (dk kL_beside_ok 26 rfl) rfl ?_
        refine lv_goto (tgt := 61) hx hb (dk kL_beside_ok 27 rfl) (by decide) ?_
        refine W.eq (g2 := F0 m 61 ls [.int (so (nI d)), .int (nI (q / 13))]) (by rw [so_0 (by omega)]) ?_
        refine lv_iadd hx hb (dk kL_beside_ok 37 rfl) ?_
        refine lv_istore_n (lv' := [(3, .int ((nI (q / 13)) + (so (nI d)))), (2, .int ((nI (q % 13)) + (ea (nI d)))), (0, .int (nI q)), (1, .int (nI d))]) hx hb (dk kL_beside_ok 38 rfl) rfl hl (by decide) rfl (fun ls hl => ?_)
        refine lv_iload_n hx hb (dk kL_beside_ok 39 rfl) rfl (lv_at hl 1 rfl) ?_
        refine lv_if_lt (tgt := 83) hx hb (dk kL_beside_ok 40 rfl) (by decide) (fun h71 => ?_) (fun h71 => ?_)
        · skip
          refine lv_iconst (v := -1) hx hb (dk kL_beside_ok 49 rfl) rfl ?_
          refine lv_goto (tgt := 93) hx hb (dk kL_beside_ok 50 rfl) (by decide) ?_
          exact hret _ _ _ (by exact bes_off (by first | exact Or.inl (by assumption) | exact Or.inr (Or.inl (by assumption)) | exact Or.inr (Or.inr (Or.inl (by assumption))) | exact Or.inr (Or.inr (Or.inr (by first | assumption | exact Int32.not_le.mp (by assumption)))))) (dk kL_beside_ok 56 rfl)
        · skip
          refine lv_iload_n hx hb (dk kL_beside_ok 41 rfl) rfl (lv_at hl 1 rfl) ?_
          refine lv_bipush (v := nI 12) hx hb (dk kL_beside_ok 42 rfl) rfl ?_
          refine lv_icmp_gt (tgt := 83) hx hb (dk kL_beside_ok 43 rfl) (by decide) (fun h72 => ?_) (fun h72 => ?_)
          · skip
            refine lv_iconst (v := -1) hx hb (dk kL_beside_ok 49 rfl) rfl ?_
            refine lv_goto (tgt := 93) hx hb (dk kL_beside_ok 50 rfl) (by decide) ?_
            exact hret _ _ _ (by exact bes_off (by first | exact Or.inl (by assumption) | exact Or.inr (Or.inl (by assumption)) | exact Or.inr (Or.inr (Or.inl (by assumption))) | exact Or.inr (Or.inr (Or.inr (by first | assumption | exact Int32.not_le.mp (by assumption)))))) (dk kL_beside_ok 56 rfl)
          · skip
            refine lv_iload_n hx hb (dk kL_beside_ok 44 rfl) rfl (lv_at hl 0 rfl) ?_
            refine lv_if_lt (tgt := 83) hx hb (dk kL_beside_ok 45 rfl) (by decide) (fun h73 => ?_) (fun h73 => ?_)
            · skip
              refine lv_iconst (v := -1) hx hb (dk kL_beside_ok 49 rfl) rfl ?_
              refine lv_goto (tgt := 93) hx hb (dk kL_beside_ok 50 rfl) (by decide) ?_
              exact hret _ _ _ (by exact bes_off (by first | exact Or.inl (by assumption) | exact Or.inr (Or.inl (by assumption)) | exact Or.inr (Or.inr (Or.inl (by assumption))) | exact Or.inr (Or.inr (Or.inr (by first | assumption | exact Int32.not_le.mp (by assumption)))))) (dk kL_beside_ok 56 rfl)
            · skip
              refine lv_iload_n hx hb (dk kL_beside_ok 46 rfl) rfl (lv_at hl 0 rfl) ?_
              refine lv_bipush (v := nI 12) hx hb (dk kL_beside_ok 47 rfl) rfl ?_
              refine lv_icmp_le (tgt := 87) hx hb (dk kL_beside_ok 48 rfl) (by decide) (fun h74 => ?_) (fun h74 => ?_)
              · skip
                refine lv_bipush (v := nI 13) hx hb (dk kL_beside_ok 51 rfl) rfl ?_
                refine lv_iload_n hx hb (dk kL_beside_ok 52 rfl) rfl (lv_at hl 0 rfl) ?_
                refine lv_imul hx hb (dk kL_beside_ok 53 rfl) ?_
                refine lv_iload_n hx hb (dk kL_beside_ok 54 rfl) rfl (lv_at hl 1 rfl) ?_
                refine lv_iadd hx hb (dk kL_beside_ok 55 rfl) ?_
                exact hret _ _ _ (by exact bes_on (by assumption) (by first | assumption | exact Int32.not_lt.mpr (by assumption)) (by assumption) (by first | assumption | exact Int32.not_lt.mpr (by assumption))) (dk kL_beside_ok 56 rfl)
              · skip
                refine lv_iconst (v := -1) hx hb (dk kL_beside_ok 49 rfl) rfl ?_
                refine lv_goto (tgt := 93) hx hb (dk kL_beside_ok 50 rfl) (by decide) ?_
                exact hret _ _ _ (by exact bes_off (by first | exact Or.inl (by assumption) | exact Or.inr (Or.inl (by assumption)) | exact Or.inr (Or.inr (Or.inl (by assumption))) | exact Or.inr (Or.inr (Or.inr (by first | assumption | exact Int32.not_le.mp (by assumption)))))) (dk kL_beside_ok 56 rfl)
set_option maxRecDepth 100000 in
set_option maxHeartbeats 4000000 in
theorem tL_many (l : Launch) (D : va_G) (cI cQ cL : ClassId) (ad : Nat → Nat) (N : Nat) (F : Nat → va_E) (hN76 : 76 < N) {c b v g h j : Nat → Int32} {t : Nat} {u z : Int32} {m9 : Nat} (hKW : KW cI cQ ad F c b v g h j t u z m9) {q : Nat} (hq : q < 169) : MR l yL_many (Cond.code yL_many cL_many 2 (some .int) :: LW) RB D cI cQ cL ad N F [.ref (ad 0), .int (nI q)] (.int (nI (hgt c (nI q)))) := by
  refine mr_i (ty := .int) (by decide +kernel) rfl rfl rfl rfl (Nat.le_of_ble_eq_true rfl) (fun p e s m below meth cd Q ls hx hb hml hown hts hP hK hNW hret hl => ?_)
  have hC : CX p s m cd cL_many 2 ([.ref (ad 0), .int (nI q)] : List Value).toArray D cI cQ cL RB := ⟨hx, hb, hml, hown, fun w h => hts w (List.mem_cons_of_mem _ h), hK, hNW, Nat.le_of_ble_eq_true rfl, Nat.le_of_ble_eq_true rfl⟩
  have hl : lv_has ls 2 [(0, .ref (ad 0)), (1, .int (nI q))] := hl
  refine lv_aload_n hx hb (dk kL_many_ok 0 rfl) rfl (lv_at hl 0 rfl) ?_
  refine lv_iload_n hx hb (dk kL_many_ok 1 rfl) rfl (lv_at hl 1 rfl) ?_
  refine lv_bipush (v := nI 13) hx hb (dk kL_many_ok 2 rfl) rfl ?_
  refine n_irem hx hb (by omega) (by decide) (by decide) (dk kL_many_ok 3 rfl) ?_
  refine lv_iload_n hx hb (dk kL_many_ok 4 rfl) rfl (lv_at hl 1 rfl) ?_
  refine lv_bipush (v := nI 13) hx hb (dk kL_many_ok 5 rfl) rfl ?_
  refine n_idiv hx hb (by omega) (by decide) (by decide) (dk kL_many_ok 6 rfl) ?_
  refine lv_iconst (v := nI 0) hx hb (dk kL_many_ok 7 rfl) rfl ?_
  refine kw_pile hC hKW hN76 hP (q := q) (by omega) (k := 0) (by decide) (lc0 _ (List.mem_of_getElem? (i := 2) rfl)) hl.1 (Nat.le_of_ble_eq_true rfl) ⟨Nat.le_of_ble_eq_true rfl, Nat.le_of_ble_eq_true rfl⟩ (dk kL_many_ok 8 rfl) (r := nI (hgt c (nI q))) (by rw [cat_q]; rfl) ?_
  exact hret _ _ _ (by rfl) (dk kL_many_ok 9 rfl)
theorem tL_manyN (l : Launch) (D : va_G) (cI cQ cL : ClassId) (ad : Nat → Nat) (N : Nat) (F : Nat → va_E) (hN76 : 76 < N) {c b v g h j : Nat → Int32} {t : Nat} {u z : Int32} {m9 : Nat} (hKW : KW cI cQ ad F c b v g h j t u z m9) {q n : Nat} (hq : q < 169) (hn : hgt c (nI q) = n) : MR l yL_many (Cond.code yL_many cL_many 2 (some .int) :: LW) RB D cI cQ cL ad N F [.ref (ad 0), .int (nI q)] (.int (nI n)) := by
  subst hn
  exact tL_many l D cI cQ cL ad N F hN76 hKW hq
set_option maxRecDepth 100000 in
set_option maxHeartbeats 4000000 in
theorem tL_losts (l : Launch) (D : va_G) (cI cQ cL : ClassId) (ad : Nat → Nat) (N : Nat) (F : Nat → va_E) (hN77 : 77 < N) {c b v g h j : Nat → Int32} {t : Nat} {u z : Int32} {m9 : Nat} (hKW : KW cI cQ ad F c b v g h j t u z m9) (lo : Nat → Int32) (h77 : F 77 = .inl (cI, 4, .inl lo)) (hlo : ∀ i, i < 4 → lo i = j i) : MR l yL_losts (Cond.code yL_losts cL_losts 2 (some .boolean) :: LW) RB D cI cQ cL ad N F [.ref (ad 0), .ref (ad 77)] (.int (nI 1)) := by
  refine mr_i (ty := .boolean) (by decide +kernel) rfl rfl rfl rfl (Nat.le_of_ble_eq_true rfl) (fun p e s m below meth cd Q ls hx hb hml hown hts hP hK hNW hret hl => ?_)
  have hC : CX p s m cd cL_losts 2 ([.ref (ad 0), .ref (ad 77)] : List Value).toArray D cI cQ cL RB := ⟨hx, hb, hml, hown, fun w h => hts w (List.mem_cons_of_mem _ h), hK, hNW, Nat.le_of_ble_eq_true rfl, Nat.le_of_ble_eq_true rfl⟩
  have hN76 : 76 < N := by omega
  have hl : lv_has ls 2 [(0, .ref (ad 0)), (1, .ref (ad 77))] := hl
  refine lv_aload_n hx hb (dk kL_losts_ok 0 rfl) rfl (lv_at hl 0 rfl) ?_
  refine lv_iconst (v := nI 0) hx hb (dk kL_losts_ok 1 rfl) rfl ?_
  refine lv_iconst (v := nI 5) hx hb (dk kL_losts_ok 2 rfl) rfl ?_
  refine kw_colour hC hKW hN76 hP (w := 0) (k := 5) (by decide) (by decide) (lc0 _ (List.mem_of_getElem? (i := 13) rfl)) hl.1 (Nat.le_of_ble_eq_true rfl) ⟨Nat.le_of_ble_eq_true rfl, Nat.le_of_ble_eq_true rfl⟩ (dk kL_losts_ok 3 rfl) (r := j 0) rfl ?_
  refine lv_aload_n hx hb (dk kL_losts_ok 4 rfl) rfl (lv_at hl 1 rfl) ?_
  refine lv_iconst (v := nI 0) hx hb (dk kL_losts_ok 5 rfl) rfl ?_
  refine ald (j := 0) hx hb hK hP (by omega) h77 rfl (by omega) (by decide) (dk kL_losts_ok 6 rfl) ?_
  refine lv_icmp_ne (tgt := 52) hx hb (dk kL_losts_ok 7 rfl) (by decide) (fun h1 => ?_) (fun h1 => ?_)
  · exact absurd (hlo 0 (by decide)).symm h1
  · skip
    refine lv_aload_n hx hb (dk kL_losts_ok 8 rfl) rfl (lv_at hl 0 rfl) ?_
    refine lv_iconst (v := nI 1) hx hb (dk kL_losts_ok 9 rfl) rfl ?_
    refine lv_iconst (v := nI 5) hx hb (dk kL_losts_ok 10 rfl) rfl ?_
    refine kw_colour hC hKW hN76 hP (w := 1) (k := 5) (by decide) (by decide) (lc0 _ (List.mem_of_getElem? (i := 13) rfl)) hl.1 (Nat.le_of_ble_eq_true rfl) ⟨Nat.le_of_ble_eq_true rfl, Nat.le_of_ble_eq_true rfl⟩ (dk kL_losts_ok 11 rfl) (r := j 1) rfl ?_
    refine lv_aload_n hx hb (dk kL_losts_ok 12 rfl) rfl (lv_at hl 1 rfl) ?_
    refine lv_iconst (v := nI 1) hx hb (dk kL_losts_ok 13 rfl) rfl ?_
    refine ald (j := 1) hx hb hK hP (by omega) h77 rfl (by omega) (by decide) (dk kL_losts_ok 14 rfl) ?_
    refine lv_icmp_ne (tgt := 52) hx hb (dk kL_losts_ok 15 rfl) (by decide) (fun h2 => ?_) (fun h2 => ?_)
    · exact absurd (hlo 1 (by decide)).symm h2
    · skip
      refine lv_aload_n hx hb (dk kL_losts_ok 16 rfl) rfl (lv_at hl 0 rfl) ?_
      refine lv_iconst (v := nI 2) hx hb (dk kL_losts_ok 17 rfl) rfl ?_
      refine lv_iconst (v := nI 5) hx hb (dk kL_losts_ok 18 rfl) rfl ?_
      refine kw_colour hC hKW hN76 hP (w := 2) (k := 5) (by decide) (by decide) (lc0 _ (List.mem_of_getElem? (i := 13) rfl)) hl.1 (Nat.le_of_ble_eq_true rfl) ⟨Nat.le_of_ble_eq_true rfl, Nat.le_of_ble_eq_true rfl⟩ (dk kL_losts_ok 19 rfl) (r := j 2) rfl ?_
      refine lv_aload_n hx hb (dk kL_losts_ok 20 rfl) rfl (lv_at hl 1 rfl) ?_
      refine lv_iconst (v := nI 2) hx hb (dk kL_losts_ok 21 rfl) rfl ?_
      refine ald (j := 2) hx hb hK hP (by omega) h77 rfl (by omega) (by decide) (dk kL_losts_ok 22 rfl) ?_
      refine lv_icmp_ne (tgt := 52) hx hb (dk kL_losts_ok 23 rfl) (by decide) (fun h3 => ?_) (fun h3 => ?_)
      · exact absurd (hlo 2 (by decide)).symm h3
      · skip
        refine lv_aload_n hx hb (dk kL_losts_ok 24 rfl) rfl (lv_at hl 0 rfl) ?_
        refine lv_iconst (v := nI 3) hx hb (dk kL_losts_ok 25 rfl) rfl ?_
        refine lv_iconst (v := nI 5) hx hb (dk kL_losts_ok 26 rfl) rfl ?_
        refine kw_colour hC hKW hN76 hP (w := 3) (k := 5) (by decide) (by decide) (lc0 _ (List.mem_of_getElem? (i := 13) rfl)) hl.1 (Nat.le_of_ble_eq_true rfl) ⟨Nat.le_of_ble_eq_true rfl, Nat.le_of_ble_eq_true rfl⟩ (dk kL_losts_ok 27 rfl) (r := j 3) rfl ?_
        refine lv_aload_n hx hb (dk kL_losts_ok 28 rfl) rfl (lv_at hl 1 rfl) ?_
        refine lv_iconst (v := nI 3) hx hb (dk kL_losts_ok 29 rfl) rfl ?_
        refine ald (j := 3) hx hb hK hP (by omega) h77 rfl (by omega) (by decide) (dk kL_losts_ok 30 rfl) ?_
        refine lv_icmp_ne (tgt := 52) hx hb (dk kL_losts_ok 31 rfl) (by decide) (fun h4 => ?_) (fun h4 => ?_)
        · exact absurd (hlo 3 (by decide)).symm h4
        · skip
          refine lv_iconst (v := nI 1) hx hb (dk kL_losts_ok 32 rfl) rfl ?_
          refine lv_goto (tgt := 53) hx hb (dk kL_losts_ok 33 rfl) (by decide) ?_
          exact hret _ _ _ (by rfl) (dk kL_losts_ok 35 rfl)
