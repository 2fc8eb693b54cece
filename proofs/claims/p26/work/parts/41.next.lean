/-! the law's next() -/
set_option maxRecDepth 100000 in
set_option maxHeartbeats 4000000 in
theorem tL_next (l : Launch) (D : va_G) (cI cQ cL : ClassId) (ad : Nat → Nat) (N : Nat) (F : Nat → va_E) (hN77 : 77 < N) (lo : Nat → Int32) (h77 : F 77 = .inl (cI, 4, .inl lo)) (c : Nat → Int32) (t : Nat) (ht : t < 4) (hnp : ∀ k, k < 4 → potc c k ≠ 4) (h01 : ∀ i, i < 4 → lo i = nI 0 ∨ lo i = nI 1) : MX l yL_next (Cond.code yL_next cL_next 3 (some .int) :: LW) RB D cI cQ cL ad N F [.ref (ad 77), .int (nI t)] (dp (some (.int (nI (pasg c t 8 lo t).2))) (va_up F 77 (.inl (cI, 4, .inl (pasg c t 8 lo t).1)))) 0 0 := by
  refine mx_i (ty := .int) (by decide +kernel) rfl (Nat.le_of_ble_eq_true rfl) (fun p e s m below meth cd Q ls hx hb hml hown hts hDi hP hK hNW hS hret hl => ?_)
  have hl : lv_has ls 3 [(0, .ref (ad 77)), (1, .int (nI t))] := hl
  have L6 : ∀ (fu n q : Nat) (l1 : Nat → Int32) (F1 : Nat → va_E) (H : Heap) (locs : List Loc), F1 77 = .inl (cI, 4, .inl l1) → (∀ i, i ≠ 77 → F1 i = F i) → q < 4 → (∀ i, i < 4 → l1 i = nI 0 ∨ l1 i = nI 1) → on4 l1 ≤ n → pasg c t 8 lo t = nx1 c t n l1 q → va_P D vwCl (iW ad N F1) H → va_S (iA ad N s.heap.size) s.heap H locs → n < fu → ∀ ls : Array Slot, lv_has ls 3 [(2, .int (nI q)), (0, .ref (ad 77)), (1, .int (nI t))] → W p l e RB s m ([.ref (ad 77), .int (nI t)] : List Value).toArray below meth cd H locs 0 0 Q (F0 m 6 ls []) := by
    intro fu
    induction fu with
    | zero => intros; omega
    | succ fu ih =>
      intro n q l1 F1 H locs h1 h2 hq h01 hon hr hP hS hn ls hl
      refine lv_aload_n hx hb (dk kL_next_ok 6 rfl) rfl (lv_at hl 1 rfl) ?_
      refine lv_iload_n hx hb (dk kL_next_ok 7 rfl) rfl (lv_at hl 0 rfl) ?_
      refine ald (j := q) hx hb hK hP (by omega) h1 rfl hq (by decide) (dk kL_next_ok 8 rfl) ?_
      refine lv_if_le (tgt := 28) hx hb (dk kL_next_ok 9 rfl) (by decide) (fun h3 => ?_) (fun h3 => ?_)
      · have h0 : l1 q = 0 := by
          rcases h01 q hq with e9 | e9
          · exact e9
          · rw [e9] at h3
            exact absurd h3 (by decide)
        have hr2 := hr.trans (nx1_end h0)
        refine lv_iload_n hx hb (dk kL_next_ok 24 rfl) rfl (lv_at hl 0 rfl) ?_
        refine hret _ _ _ H locs F1 0 0 rfl ⟨by rw [hr2], ?_⟩ hP hS (Nat.le_refl 0) (Nat.le_refl 0) (dk kL_next_ok 25 rfl)
        rw [hr2]
        funext i
        by_cases ei : i = 77
        · subst ei
          rw [va_up_self]
          exact h1
        · rw [va_up_ne _ _ ei]
          exact h2 i ei
      · have h9 : l1 q ≠ 0 := fun e9 => h3 (by rw [e9]; decide)
        have h8 : l1 q = nI 1 := (h01 q hq).resolve_left h9
        have hu := on4_up hq h8
        obtain ⟨n2, rfl⟩ : ∃ n2, n = n2 + 1 := ⟨n - 1, by omega⟩
        refine lv_aload_n hx hb (dk kL_next_ok 10 rfl) rfl (lv_at hl 1 rfl) ?_
        refine lv_iload_n hx hb (dk kL_next_ok 11 rfl) rfl (lv_at hl 0 rfl) ?_
        refine lv_dup2_11 hx hb (dk kL_next_ok 12 rfl) rfl rfl ?_
        refine ald (j := q) hx hb hK hP (by omega) h1 rfl hq (by decide) (dk kL_next_ok 13 rfl) ?_
        refine lv_iconst (v := nI 1) hx hb (dk kL_next_ok 14 rfl) rfl ?_
        refine lv_isub hx hb (dk kL_next_ok 15 rfl) ?_
        refine ast (va_up F1 77 (.inl (cI, 4, .inl (upd l1 q (l1 q - nI 1))))) (k := 77) (j := q) hx hb hK hDi hP hS (by omega) h1 rfl hq (by decide) (dk kL_next_ok 16 rfl) rfl (fun H locs hP hS => ?_)
        refine lv_iload_n hx hb (dk kL_next_ok 17 rfl) rfl (lv_at hl 0 rfl) ?_
        refine lv_iconst (v := nI 1) hx hb (dk kL_next_ok 18 rfl) rfl ?_
        refine n_iadd hx hb (dk kL_next_ok 19 rfl) ?_
        refine lv_iconst (v := nI 4) hx hb (dk kL_next_ok 20 rfl) rfl ?_
        refine n_irem hx hb (by omega) (by decide) (by decide) (dk kL_next_ok 21 rfl) ?_
        refine lv_istore_n (lv' := [(2, .int (nI ((q + 1) % 4))), (0, .ref (ad 77)), (1, .int (nI t))]) hx hb (dk kL_next_ok 22 rfl) rfl hl (by decide) rfl (fun ls hl => ?_)
        refine lv_goto (tgt := 6) hx hb (dk kL_next_ok 23 rfl) (by decide) ?_
        have e7 : l1 q - nI 1 = nI 0 := by rw [h8]; decide
        exact ih n2 ((q + 1) % 4) _ _ H locs (va_up_self _ _ _) (fun i hi => (va_up_ne _ _ hi).trans (h2 i hi)) (Nat.mod_lt _ (by decide)) (by rw [e7]; exact lo_up h01 (Or.inl rfl)) (by rw [e7]; omega) (hr.trans (nx1_go hnp h9)) hP hS (by omega) ls hl
  refine lv_iload_n hx hb (dk kL_next_ok 0 rfl) rfl (lv_at hl 1 rfl) ?_
  refine lv_iconst (v := nI 1) hx hb (dk kL_next_ok 1 rfl) rfl ?_
  refine n_iadd hx hb (dk kL_next_ok 2 rfl) ?_
  refine lv_iconst (v := nI 4) hx hb (dk kL_next_ok 3 rfl) rfl ?_
  refine n_irem hx hb (by omega) (by decide) (by decide) (dk kL_next_ok 4 rfl) ?_
  refine lv_istore_n (lv' := [(2, .int (nI ((t + 1) % 4))), (0, .ref (ad 77)), (1, .int (nI t))]) hx hb (dk kL_next_ok 5 rfl) rfl hl (by decide) rfl (fun ls hl => ?_)
  exact L6 8 7 ((t + 1) % 4) lo F _ _ h77 (fun _ _ => rfl) (Nat.mod_lt _ (by decide)) h01 (Nat.le_trans (on4_le lo) (by decide)) (pasg_s hnp) hP hS (by decide) ls hl
