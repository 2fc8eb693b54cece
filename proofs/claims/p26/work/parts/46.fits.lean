/-! the law's fits() -/
theorem cn_t {p : Nat → Bool} {i : Nat} (h : p i = true) : cnt p (i + 1) = cnt p i + 1 := by
  simp only [cnt]
  rw [if_pos h]
theorem cn_f {p : Nat → Bool} {i : Nat} (h : p i = false) : cnt p (i + 1) = cnt p i := by
  simp only [cnt]
  rw [if_neg (by rw [h]; decide)]
theorem ptx_3 {c v : Nat → Int32} {i : Nat} (h : c i = -1) : nI 3 = nI (ptx c v i) := by
  unfold ptx
  rw [if_pos h]
theorem ptx_0 {c v : Nat → Int32} {i : Nat} (h : ¬ c i = -1) (hc : cov v i = true) : nI 0 = nI (ptx c v i) := by
  unfold ptx
  rw [if_neg h, if_pos hc]
theorem ptx_b {c v : Nat → Int32} {i : Nat} (h : ¬ c i = -1) (hc : cov v i = false) (hb : c i = nI (bs (i / 4))) : nI 0 = nI (ptx c v i) := by
  unfold ptx
  rw [if_neg h, if_neg (by rw [hc]; decide), if_pos hb]
theorem ptx_1 {c v : Nat → Int32} {i : Nat} (h : ¬ c i = -1) (hc : cov v i = false) (hb : c i ≠ nI (bs (i / 4))) : nI 1 = nI (ptx c v i) := by
  unfold ptx
  rw [if_neg h, if_neg (by rw [hc]; decide), if_neg hb]
theorem pl_ne {c b v : Nat → Int32} {N : Nat → Nat} {W : Nat → Nat → Nat} (h : Rc c N W) (hl : Rl c b v N W) {q i o : Nat} (hc : c o = nI q) (ho : o < 16) (hi : i < N q) (hne : o ≠ W q i) : pls c b o ≠ nI i := by
  obtain ⟨k, hk, rfl⟩ := h.cell (by have := h.q hi; omega) ho hc
  rw [pls_at h hl hk]
  exact nI_ne (by have := h.i hk; omega) (by have := h.i hi; omega) (fun e => hne (by rw [e]))
set_option maxRecDepth 100000 in
set_option maxHeartbeats 8000000 in
theorem fits_1 {p : Program} {l : Launch} {e : Env} {s : State} {m : MethodId} {AR : Array Value} {below : List Frame} {meth : Method} {cd : Code} {Q : State → Prop} {D : va_G} {cI cQ cL : ClassId} {ad : Nat → Nat} (hC : CX p s m cd cL_fits 11 AR D cI cQ cL ({ frames := 11, cells := 2, slots := 8, locals := 400 } : Room)) (hDi : iD ad 80)
    (hret : ∀ (pc : Nat) (ls : Array Slot) (H : Heap) (locs : List Loc) (F9 : Nat → va_E), LINV cI cQ ad F9 → va_P D vwCl (iW ad 80 F9) H → va_S (iA ad 80 s.heap.size) s.heap H locs → decode cL_fits pc = .ok (.ireturn, 1) → W p l e ({ frames := 11, cells := 2, slots := 8, locals := 400 } : Room) s m AR below meth cd H locs 2 8 Q (F0 m pc ls [.int (nI 1)]))
    {c b v g h j : Nat → Int32} {t : Nat} {u z : Int32} {m9 : Nat} {Np : Nat → Nat} {Wp : Nat → Nat → Nat} {lo : Nat → Int32} (hR : Rc c Np Wp) (hRl : Rl c b v Np Wp) (ht : t < 4) (hjl : over c = false → JT j t ∧ ∀ i, i < 4 → lo i = j i) {F : Nat → va_E} {H : Heap} {locs : List Loc} (hKW : KW cI cQ ad F c b v g h j t u z m9) (h77 : F 77 = .inl (cI, 4, .inl lo)) (h78 : F 78 = .inl (cI, 4, .inl (fun _ => 0))) (h79 : F 79 = .inl (cI, 4, .inl (fun _ => 0))) (hP : va_P D vwCl (iW ad 80 F) H) (hS : va_S (iA ad 80 s.heap.size) s.heap H locs) (ls : Array Slot) (hl : lv_has ls 11 [(0, .ref (ad 0)), (1, .ref (ad 78)), (2, .ref (ad 79))]) : W p l e ({ frames := 11, cells := 2, slots := 8, locals := 400 } : Room) s m AR below meth cd H locs 2 8 Q (F0 m 8 ls []) := by
  obtain ⟨hx, hb, hml, hown, hts, hK, hNW, hfr, hlo9⟩ := id hC
  have hN76 : 76 < 80 := by decide
  have hN77 : 77 < 80 := by decide
  have hs16 : sm (potc c) 4 ≤ 16 := potn_le c
  have hpn16 := potn_le c
  have hcv16 : cnt (fun x => cov v x) 16 ≤ 16 := cnt_le _ 16
  have hbt16 : cnt (bot c b) 16 ≤ 16 := cnt_le _ 16
  have hpc0 := ptc_le c v 0
  have hpc1 := ptc_le c v 1
  have hpc2 := ptc_le c v 2
  have hpc3 := ptc_le c v 3
  have hpt0 : ptt c v 0 ≤ 24 := Nat.add_le_add (ptc_le c v 0) (ptc_le c v (0 + 2))
  have hpt1 : ptt c v 1 ≤ 24 := Nat.add_le_add (ptc_le c v 1) (ptc_le c v (1 + 2))
  refine lv_iconst (v := nI 0) hx hb (dk kL_fits_0_ok 6 rfl) rfl ?_
  refine lv_istore_n (lv' := [(3, .int (nI 0)), (0, .ref (ad 0)), (1, .ref (ad 78)), (2, .ref (ad 79))]) hx hb (dk kL_fits_0_ok 7 rfl) rfl hl (by decide) rfl (fun ls hl => ?_)
  refine lv_iconst (v := nI 0) hx hb (dk kL_fits_0_ok 8 rfl) rfl ?_
  refine lv_istore (lv' := [(4, .int (nI 0)), (3, .int (nI 0)), (0, .ref (ad 0)), (1, .ref (ad 78)), (2, .ref (ad 79))]) hx hb (dk kL_fits_0_ok 9 rfl) hl (by decide) rfl (fun ls hl => ?_)
  refine lv_iconst (v := nI 0) hx hb (dk kL_fits_0_ok 10 rfl) rfl ?_
  refine lv_istore (lv' := [(5, .int (nI 0)), (4, .int (nI 0)), (3, .int (nI 0)), (0, .ref (ad 0)), (1, .ref (ad 78)), (2, .ref (ad 79))]) hx hb (dk kL_fits_0_ok 11 rfl) hl (by decide) rfl (fun ls hl => ?_)
  have L16 : ∀ (fu : Nat) (i : Nat) (x4 : Int32) (x3 : Int32) (F : Nat → va_E) (H : Heap) (locs : List Loc), KW cI cQ ad F c b v g h j t u z m9 → F 77 = .inl (cI, 4, .inl lo) → F 78 = .inl (cI, 4, .inl (fun k => nI (pk c k i))) → F 79 = .inl (cI, 4, .inl (fun k => nI (qk c v k i))) → va_P D vwCl (iW ad 80 F) H → va_S (iA ad 80 s.heap.size) s.heap H locs → x4 = nI (cnt (bot c b) i) → x3 = nI (cnt (fun x => cov v x) i) → (i ≤ 16) → 16 - i < fu → ∀ ls : Array Slot, lv_has ls 11 [(5, .int (nI i)), (4, .int x4), (3, .int x3), (0, .ref (ad 0)), (1, .ref (ad 78)), (2, .ref (ad 79))] → W p l e ({ frames := 11, cells := 2, slots := 8, locals := 400 } : Room) s m AR below meth cd H locs 2 8 Q (F0 m 16 ls []) := by
    intro fu
    induction fu with
    | zero => intros; omega
    | succ fu ih16 =>
      intro i x4 x3 F H locs hK_1 h77_2 h78_3 h79_4 hP hS ex4 ex3 hi hme16 ls hl
      subst ex4
      subst ex3
      refine lv_iload hx hb (dk kL_fits_0_ok 12 rfl) (lv_at hl 0 rfl) ?_
      refine lv_bipush (v := nI 16) hx hb (dk kL_fits_0_ok 13 rfl) rfl ?_
      refine n_icmp_ge (tgt := 369) hx hb (by omega) (by decide) (dk kL_fits_0_ok 14 rfl) (by decide) (fun h1 => ?_) (fun h1 => ?_)
      · skip
        obtain rfl : i = 16 := by omega
        refine lv_iconst (v := nI 0) hx hb (dk kL_fits_3_ok 24 rfl) rfl ?_
        refine lv_istore (lv' := [(5, .int (nI 0)), (4, .int (nI (cnt (bot c b) 16))), (3, .int (nI (cnt (fun x => cov v x) 16))), (0, .ref (ad 0)), (1, .ref (ad 78)), (2, .ref (ad 79))]) hx hb (dk kL_fits_3_ok 25 rfl) hl (by decide) rfl (fun ls hl => ?_)
        refine lv_iconst (v := nI 0) hx hb (dk kL_fits_3_ok 26 rfl) rfl ?_
        refine lv_istore (lv' := [(6, .int (nI 0)), (5, .int (nI 0)), (4, .int (nI (cnt (bot c b) 16))), (3, .int (nI (cnt (fun x => cov v x) 16))), (0, .ref (ad 0)), (1, .ref (ad 78)), (2, .ref (ad 79))]) hx hb (dk kL_fits_3_ok 27 rfl) hl (by decide) rfl (fun ls hl => ?_)
        refine lv_iconst (v := nI 0) hx hb (dk kL_fits_3_ok 28 rfl) rfl ?_
        refine lv_istore (lv' := [(7, .int (nI 0)), (6, .int (nI 0)), (5, .int (nI 0)), (4, .int (nI (cnt (bot c b) 16))), (3, .int (nI (cnt (fun x => cov v x) 16))), (0, .ref (ad 0)), (1, .ref (ad 78)), (2, .ref (ad 79))]) hx hb (dk kL_fits_3_ok 29 rfl) hl (by decide) rfl (fun ls hl => ?_)
        have L378 : ∀ (fu : Nat) (k : Nat) (x6 : Int32) (x5 : Int32) (F : Nat → va_E) (H : Heap) (locs : List Loc), KW cI cQ ad F c b v g h j t u z m9 → F 77 = .inl (cI, 4, .inl lo) → F 78 = .inl (cI, 4, .inl (fun k => nI (pk c k 16))) → F 79 = .inl (cI, 4, .inl (fun k => nI (qk c v k 16))) → va_P D vwCl (iW ad 80 F) H → va_S (iA ad 80 s.heap.size) s.heap H locs → x6 = nI (ovn c k) → x5 = nI (sm (potc c) k) → (k ≤ 4) → 4 - k < fu → ∀ ls : Array Slot, lv_has ls 11 [(7, .int (nI k)), (6, .int x6), (5, .int x5), (4, .int (nI (cnt (bot c b) 16))), (3, .int (nI (cnt (fun x => cov v x) 16))), (0, .ref (ad 0)), (1, .ref (ad 78)), (2, .ref (ad 79))] → W p l e ({ frames := 11, cells := 2, slots := 8, locals := 400 } : Room) s m AR below meth cd H locs 2 8 Q (F0 m 378 ls []) := by
          intro fu
          induction fu with
          | zero => intros; omega
          | succ fu ih378 =>
            intro k x6 x5 F H locs hK_5 h77_6 h78_7 h79_8 hP hS ex6 ex5 hk4 hme378 ls hl
            subst ex6
            subst ex5
            have hp4 := potc_le c k
            have hq12 := ptc_le c v k
            have hv4 := covc_le v k
            have ho4 := ovn_le c k
            refine lv_iload hx hb (dk kL_fits_3_ok 30 rfl) (lv_at hl 0 rfl) ?_
            refine lv_iconst (v := nI 4) hx hb (dk kL_fits_3_ok 31 rfl) rfl ?_
            refine n_icmp_ge (tgt := 474) hx hb (by omega) (by decide) (dk kL_fits_3_ok 32 rfl) (by decide) (fun h2 => ?_) (fun h2 => ?_)
            · skip
              obtain rfl : k = 4 := by omega
              refine lv_aload_n hx hb (dk kL_fits_4_ok 26 rfl) rfl (lv_at hl 5 rfl) ?_
              refine lv_iconst (v := nI 2) hx hb (dk kL_fits_4_ok 27 rfl) rfl ?_
              refine kw_count hC hK_5 hN76 hP (k := 2) (by decide) (lc0 _ (List.mem_of_getElem? (i := 14) rfl)) hl.1 (Nat.le_of_ble_eq_true rfl) ⟨Nat.le_of_ble_eq_true rfl, Nat.le_of_ble_eq_true rfl⟩ (dk kL_fits_4_ok 28 rfl) (r := nI (potn c)) rfl ?_
              refine lv_iload hx hb (dk kL_fits_4_ok 29 rfl) (lv_at hl 2 rfl) ?_
              refine n_icmp_ne (tgt := 600) hx hb (by omega) (by omega) (dk kL_fits_4_ok 30 rfl) (by decide) (fun h3 => ?_) (fun h3 => ?_)
              · exact absurd rfl h3
              · skip
                refine lv_aload_n hx hb (dk kL_fits_4_ok 31 rfl) rfl (lv_at hl 5 rfl) ?_
                refine lv_iconst (v := nI 3) hx hb (dk kL_fits_4_ok 32 rfl) rfl ?_
                refine kw_count hC hK_5 hN76 hP (k := 3) (by decide) (lc0 _ (List.mem_of_getElem? (i := 14) rfl)) hl.1 (Nat.le_of_ble_eq_true rfl) ⟨Nat.le_of_ble_eq_true rfl, Nat.le_of_ble_eq_true rfl⟩ (dk kL_fits_4_ok 33 rfl) (r := nI (cnt (fun x => cov v x) 16)) (congrArg nI (cnt_cov hR hRl).symm) ?_
                refine lv_iload_n hx hb (dk kL_fits_4_ok 34 rfl) rfl (lv_at hl 4 rfl) ?_
                refine n_icmp_ne (tgt := 600) hx hb (by omega) (by omega) (dk kL_fits_4_ok 35 rfl) (by decide) (fun h4 => ?_) (fun h4 => ?_)
                · exact absurd rfl h4
                · skip
                  refine lv_aload_n hx hb (dk kL_fits_4_ok 36 rfl) rfl (lv_at hl 5 rfl) ?_
                  refine lv_iconst (v := nI 4) hx hb (dk kL_fits_4_ok 37 rfl) rfl ?_
                  refine kw_count hC hK_5 hN76 hP (k := 4) (by decide) (lc0 _ (List.mem_of_getElem? (i := 14) rfl)) hl.1 (Nat.le_of_ble_eq_true rfl) ⟨Nat.le_of_ble_eq_true rfl, Nat.le_of_ble_eq_true rfl⟩ (dk kL_fits_4_ok 38 rfl) (r := nI (cnt (fun x => cov v x) 16)) (congrArg nI cov_16) ?_
                  refine lv_iload_n hx hb (dk kL_fits_4_ok 39 rfl) rfl (lv_at hl 4 rfl) ?_
                  refine n_icmp_ne (tgt := 600) hx hb (by omega) (by omega) (dk kL_fits_4_ok 40 rfl) (by decide) (fun h5 => ?_) (fun h5 => ?_)
                  · exact absurd rfl h5
                  · skip
                    refine lv_aload_n hx hb (dk kL_fits_4_ok 41 rfl) rfl (lv_at hl 5 rfl) ?_
                    refine lv_iconst (v := nI 5) hx hb (dk kL_fits_4_ok 42 rfl) rfl ?_
                    refine kw_count hC hK_5 hN76 hP (k := 5) (by decide) (lc0 _ (List.mem_of_getElem? (i := 14) rfl)) hl.1 (Nat.le_of_ble_eq_true rfl) ⟨Nat.le_of_ble_eq_true rfl, Nat.le_of_ble_eq_true rfl⟩ (dk kL_fits_4_ok 43 rfl) (r := nI (cnt (bot c b) 16)) rfl ?_
                    refine lv_iload hx hb (dk kL_fits_4_ok 44 rfl) (lv_at hl 3 rfl) ?_
                    refine n_icmp_ne (tgt := 600) hx hb (by omega) (by omega) (dk kL_fits_4_ok 45 rfl) (by decide) (fun h6 => ?_) (fun h6 => ?_)
                    · exact absurd rfl h6
                    · skip
                      refine lv_aload_n hx hb (dk kL_fits_4_ok 46 rfl) rfl (lv_at hl 5 rfl) ?_
                      refine lv_iconst (v := nI 1) hx hb (dk kL_fits_4_ok 47 rfl) rfl ?_
                      refine kw_count hC hK_5 hN76 hP (k := 1) (by decide) (lc0 _ (List.mem_of_getElem? (i := 14) rfl)) hl.1 (Nat.le_of_ble_eq_true rfl) ⟨Nat.le_of_ble_eq_true rfl, Nat.le_of_ble_eq_true rfl⟩ (dk kL_fits_4_ok 48 rfl) (r := if over c = true then nI 1 else nI 0) rfl ?_
                      refine lv_iload hx hb (dk kL_fits_4_ok 49 rfl) (lv_at hl 1 rfl) ?_
                      refine n_if_le (tgt := 526) hx hb (by omega) (dk kL_fits_4_ok 50 rfl) (by decide) (fun h7 => ?_) (fun h7 => ?_)
                      · skip
                        refine lv_iconst (v := nI 0) hx hb (dk kL_fits_4_ok 53 rfl) rfl ?_
                        refine lv_icmp_ne (tgt := 600) hx hb (dk kL_fits_4_ok 54 rfl) (by decide) (fun h8 => ?_) (fun h8 => ?_)
                        · exact absurd (show (if over c = true then nI 1 else nI 0) = nI 0 from if_neg (fun e9 => absurd (ovn_o.mpr e9) (by omega))) h8
                        · skip
                          refine lv_aload_n hx hb (dk kL_fits_4_ok 55 rfl) rfl (lv_at hl 5 rfl) ?_
                          refine lv_iconst (v := nI 0) hx hb (dk kL_fits_4_ok 56 rfl) rfl ?_
                          refine kw_count hC hK_5 hN76 hP (k := 0) (by decide) (lc0 _ (List.mem_of_getElem? (i := 14) rfl)) hl.1 (Nat.le_of_ble_eq_true rfl) ⟨Nat.le_of_ble_eq_true rfl, Nat.le_of_ble_eq_true rfl⟩ (dk kL_fits_4_ok 57 rfl) (r := if over c = true then -1 else nI t) rfl ?_
                          refine lv_iload hx hb (dk kL_fits_4_ok 58 rfl) (lv_at hl 1 rfl) ?_
                          refine n_if_le (tgt := 544) hx hb (by omega) (dk kL_fits_4_ok 59 rfl) (by decide) (fun h9 => ?_) (fun h9 => ?_)
                          · skip
                            refine lv_aload_n hx hb (dk kL_fits_5_ok 2 rfl) rfl (lv_at hl 5 rfl) ?_
                            refine lv_iconst (v := nI 0) hx hb (dk kL_fits_5_ok 3 rfl) rfl ?_
                            refine kw_count hC hK_5 hN76 hP (k := 0) (by decide) (lc0 _ (List.mem_of_getElem? (i := 14) rfl)) hl.1 (Nat.le_of_ble_eq_true rfl) ⟨Nat.le_of_ble_eq_true rfl, Nat.le_of_ble_eq_true rfl⟩ (dk kL_fits_5_ok 4 rfl) (r := if over c = true then -1 else nI t) rfl ?_
                            refine lv_icmp_ne (tgt := 600) hx hb (dk kL_fits_5_ok 5 rfl) (by decide) (fun h10 => ?_) (fun h10 => ?_)
                            · exact absurd rfl h10
                            · skip
                              refine lv_aload_n hx hb (dk kL_fits_5_ok 6 rfl) rfl (lv_at hl 5 rfl) ?_
                              refine lv_bipush (v := nI 10) hx hb (dk kL_fits_5_ok 7 rfl) rfl ?_
                              refine kw_count hC hK_5 hN76 hP (k := 10) (by decide) (lc0 _ (List.mem_of_getElem? (i := 14) rfl)) hl.1 (Nat.le_of_ble_eq_true rfl) ⟨Nat.le_of_ble_eq_true rfl, Nat.le_of_ble_eq_true rfl⟩ (dk kL_fits_5_ok 8 rfl) (r := nI (ptt c v 0)) rfl ?_
                              refine lv_aload_n hx hb (dk kL_fits_5_ok 9 rfl) rfl (lv_at hl 7 rfl) ?_
                              refine lv_iconst (v := nI 0) hx hb (dk kL_fits_5_ok 10 rfl) rfl ?_
                              refine ald (j := 0) hx hb hK hP (by omega) h79_8 rfl (by omega) (by decide) (dk kL_fits_5_ok 11 rfl) ?_
                              refine W.eq (g2 := F0 m 561 ls [.int (nI (ptc c v 0)), .int (nI (ptt c v 0))]) (congrArg (fun q9 => F0 m 561 ls (.int q9 :: [.int (nI (ptt c v 0))])) (congrArg nI (qk_16 (k := 0) (by omega)))) ?_
                              refine lv_aload_n hx hb (dk kL_fits_5_ok 12 rfl) rfl (lv_at hl 7 rfl) ?_
                              refine lv_iconst (v := nI 2) hx hb (dk kL_fits_5_ok 13 rfl) rfl ?_
                              refine ald (j := 2) hx hb hK hP (by omega) h79_8 rfl (by omega) (by decide) (dk kL_fits_5_ok 14 rfl) ?_
                              refine W.eq (g2 := F0 m 564 ls [.int (nI (ptc c v 2)), .int (nI (ptc c v 0)), .int (nI (ptt c v 0))]) (congrArg (fun q9 => F0 m 564 ls (.int q9 :: [.int (nI (ptc c v 0)), .int (nI (ptt c v 0))])) (congrArg nI (qk_16 (k := 2) (by omega)))) ?_
                              refine n_iadd hx hb (dk kL_fits_5_ok 15 rfl) ?_
                              refine n_icmp_ne (tgt := 600) hx hb (by omega) (by omega) (dk kL_fits_5_ok 16 rfl) (by decide) (fun h11 => ?_) (fun h11 => ?_)
                              · exact absurd rfl h11
                              · skip
                                refine lv_aload_n hx hb (dk kL_fits_5_ok 17 rfl) rfl (lv_at hl 5 rfl) ?_
                                refine lv_bipush (v := nI 11) hx hb (dk kL_fits_5_ok 18 rfl) rfl ?_
                                refine kw_count hC hK_5 hN76 hP (k := 11) (by decide) (lc0 _ (List.mem_of_getElem? (i := 14) rfl)) hl.1 (Nat.le_of_ble_eq_true rfl) ⟨Nat.le_of_ble_eq_true rfl, Nat.le_of_ble_eq_true rfl⟩ (dk kL_fits_5_ok 19 rfl) (r := nI (ptt c v 1)) rfl ?_
                                refine lv_aload_n hx hb (dk kL_fits_5_ok 20 rfl) rfl (lv_at hl 7 rfl) ?_
                                refine lv_iconst (v := nI 1) hx hb (dk kL_fits_5_ok 21 rfl) rfl ?_
                                refine ald (j := 1) hx hb hK hP (by omega) h79_8 rfl (by omega) (by decide) (dk kL_fits_5_ok 22 rfl) ?_
                                refine W.eq (g2 := F0 m 577 ls [.int (nI (ptc c v 1)), .int (nI (ptt c v 1))]) (congrArg (fun q9 => F0 m 577 ls (.int q9 :: [.int (nI (ptt c v 1))])) (congrArg nI (qk_16 (k := 1) (by omega)))) ?_
                                refine lv_aload_n hx hb (dk kL_fits_5_ok 23 rfl) rfl (lv_at hl 7 rfl) ?_
                                refine lv_iconst (v := nI 3) hx hb (dk kL_fits_5_ok 24 rfl) rfl ?_
                                refine ald (j := 3) hx hb hK hP (by omega) h79_8 rfl (by omega) (by decide) (dk kL_fits_5_ok 25 rfl) ?_
                                refine W.eq (g2 := F0 m 580 ls [.int (nI (ptc c v 3)), .int (nI (ptc c v 1)), .int (nI (ptt c v 1))]) (congrArg (fun q9 => F0 m 580 ls (.int q9 :: [.int (nI (ptc c v 1)), .int (nI (ptt c v 1))])) (congrArg nI (qk_16 (k := 3) (by omega)))) ?_
                                refine n_iadd hx hb (dk kL_fits_5_ok 26 rfl) ?_
                                refine n_icmp_ne (tgt := 600) hx hb (by omega) (by omega) (dk kL_fits_5_ok 27 rfl) (by decide) (fun h12 => ?_) (fun h12 => ?_)
                                · exact absurd rfl h12
                                · skip
                                  refine lv_iload hx hb (dk kL_fits_5_ok 28 rfl) (lv_at hl 3 rfl) ?_
                                  refine lv_iload_n hx hb (dk kL_fits_5_ok 29 rfl) rfl (lv_at hl 4 rfl) ?_
                                  refine n_iadd hx hb (dk kL_fits_5_ok 30 rfl) ?_
                                  refine lv_iload hx hb (dk kL_fits_5_ok 31 rfl) (lv_at hl 2 rfl) ?_
                                  refine n_iadd hx hb (dk kL_fits_5_ok 32 rfl) ?_
                                  refine lv_bipush (v := nI 16) hx hb (dk kL_fits_5_ok 33 rfl) rfl ?_
                                  refine n_icmp_ne (tgt := 600) hx hb (by omega) (by decide) (dk kL_fits_5_ok 34 rfl) (by decide) (fun h13 => ?_) (fun h13 => ?_)
                                  · exact absurd (by have q1 := cnt_all hR hRl; have q2 : sm (potc c) 4 = cnt (pot c) 16 := potn_16; omega) h13
                                  · skip
                                    refine lv_iconst (v := nI 1) hx hb (dk kL_fits_5_ok 35 rfl) rfl ?_
                                    refine lv_goto (tgt := 601) hx hb (dk kL_fits_5_ok 36 rfl) (by decide) ?_
                                    exact hret _ ls _ _ _ ⟨_, _, _, _, _, _, _, _, _, _, _, hK_5, ⟨_, _, hR, hRl⟩, ht, h77_6, hjl⟩ hP hS (dk kL_fits_5_ok 38 rfl)
                          · exact absurd h9 (by omega)
                      · skip
                        refine lv_iconst (v := nI 1) hx hb (dk kL_fits_4_ok 51 rfl) rfl ?_
                        refine lv_goto (tgt := 527) hx hb (dk kL_fits_4_ok 52 rfl) (by decide) ?_
                        refine lv_icmp_ne (tgt := 600) hx hb (dk kL_fits_4_ok 54 rfl) (by decide) (fun h14 => ?_) (fun h14 => ?_)
                        · exact absurd (show (if over c = true then nI 1 else nI 0) = nI 1 from if_pos (ovn_o.mp h7)) h14
                        · skip
                          refine lv_aload_n hx hb (dk kL_fits_4_ok 55 rfl) rfl (lv_at hl 5 rfl) ?_
                          refine lv_iconst (v := nI 0) hx hb (dk kL_fits_4_ok 56 rfl) rfl ?_
                          refine kw_count hC hK_5 hN76 hP (k := 0) (by decide) (lc0 _ (List.mem_of_getElem? (i := 14) rfl)) hl.1 (Nat.le_of_ble_eq_true rfl) ⟨Nat.le_of_ble_eq_true rfl, Nat.le_of_ble_eq_true rfl⟩ (dk kL_fits_4_ok 57 rfl) (r := if over c = true then -1 else nI t) rfl ?_
                          refine lv_iload hx hb (dk kL_fits_4_ok 58 rfl) (lv_at hl 1 rfl) ?_
                          refine n_if_le (tgt := 544) hx hb (by omega) (dk kL_fits_4_ok 59 rfl) (by decide) (fun h15 => ?_) (fun h15 => ?_)
                          · exact absurd h15 (by omega)
                          · skip
                            refine lv_iconst (v := -1) hx hb (dk kL_fits_5_ok 0 rfl) rfl ?_
                            refine lv_goto (tgt := 549) hx hb (dk kL_fits_5_ok 1 rfl) (by decide) ?_
                            refine lv_icmp_ne (tgt := 600) hx hb (dk kL_fits_5_ok 5 rfl) (by decide) (fun h16 => ?_) (fun h16 => ?_)
                            · exact absurd (show (if over c = true then -1 else nI t) = -1 from if_pos (ovn_o.mp h7)) h16
                            · skip
                              refine lv_aload_n hx hb (dk kL_fits_5_ok 6 rfl) rfl (lv_at hl 5 rfl) ?_
                              refine lv_bipush (v := nI 10) hx hb (dk kL_fits_5_ok 7 rfl) rfl ?_
                              refine kw_count hC hK_5 hN76 hP (k := 10) (by decide) (lc0 _ (List.mem_of_getElem? (i := 14) rfl)) hl.1 (Nat.le_of_ble_eq_true rfl) ⟨Nat.le_of_ble_eq_true rfl, Nat.le_of_ble_eq_true rfl⟩ (dk kL_fits_5_ok 8 rfl) (r := nI (ptt c v 0)) rfl ?_
                              refine lv_aload_n hx hb (dk kL_fits_5_ok 9 rfl) rfl (lv_at hl 7 rfl) ?_
                              refine lv_iconst (v := nI 0) hx hb (dk kL_fits_5_ok 10 rfl) rfl ?_
                              refine ald (j := 0) hx hb hK hP (by omega) h79_8 rfl (by omega) (by decide) (dk kL_fits_5_ok 11 rfl) ?_
                              refine W.eq (g2 := F0 m 561 ls [.int (nI (ptc c v 0)), .int (nI (ptt c v 0))]) (congrArg (fun q9 => F0 m 561 ls (.int q9 :: [.int (nI (ptt c v 0))])) (congrArg nI (qk_16 (k := 0) (by omega)))) ?_
                              refine lv_aload_n hx hb (dk kL_fits_5_ok 12 rfl) rfl (lv_at hl 7 rfl) ?_
                              refine lv_iconst (v := nI 2) hx hb (dk kL_fits_5_ok 13 rfl) rfl ?_
                              refine ald (j := 2) hx hb hK hP (by omega) h79_8 rfl (by omega) (by decide) (dk kL_fits_5_ok 14 rfl) ?_
                              refine W.eq (g2 := F0 m 564 ls [.int (nI (ptc c v 2)), .int (nI (ptc c v 0)), .int (nI (ptt c v 0))]) (congrArg (fun q9 => F0 m 564 ls (.int q9 :: [.int (nI (ptc c v 0)), .int (nI (ptt c v 0))])) (congrArg nI (qk_16 (k := 2) (by omega)))) ?_
                              refine n_iadd hx hb (dk kL_fits_5_ok 15 rfl) ?_
                              refine n_icmp_ne (tgt := 600) hx hb (by omega) (by omega) (dk kL_fits_5_ok 16 rfl) (by decide) (fun h17 => ?_) (fun h17 => ?_)
                              · exact absurd rfl h17
                              · skip
                                refine lv_aload_n hx hb (dk kL_fits_5_ok 17 rfl) rfl (lv_at hl 5 rfl) ?_
                                refine lv_bipush (v := nI 11) hx hb (dk kL_fits_5_ok 18 rfl) rfl ?_
                                refine kw_count hC hK_5 hN76 hP (k := 11) (by decide) (lc0 _ (List.mem_of_getElem? (i := 14) rfl)) hl.1 (Nat.le_of_ble_eq_true rfl) ⟨Nat.le_of_ble_eq_true rfl, Nat.le_of_ble_eq_true rfl⟩ (dk kL_fits_5_ok 19 rfl) (r := nI (ptt c v 1)) rfl ?_
                                refine lv_aload_n hx hb (dk kL_fits_5_ok 20 rfl) rfl (lv_at hl 7 rfl) ?_
                                refine lv_iconst (v := nI 1) hx hb (dk kL_fits_5_ok 21 rfl) rfl ?_
                                refine ald (j := 1) hx hb hK hP (by omega) h79_8 rfl (by omega) (by decide) (dk kL_fits_5_ok 22 rfl) ?_
                                refine W.eq (g2 := F0 m 577 ls [.int (nI (ptc c v 1)), .int (nI (ptt c v 1))]) (congrArg (fun q9 => F0 m 577 ls (.int q9 :: [.int (nI (ptt c v 1))])) (congrArg nI (qk_16 (k := 1) (by omega)))) ?_
                                refine lv_aload_n hx hb (dk kL_fits_5_ok 23 rfl) rfl (lv_at hl 7 rfl) ?_
                                refine lv_iconst (v := nI 3) hx hb (dk kL_fits_5_ok 24 rfl) rfl ?_
                                refine ald (j := 3) hx hb hK hP (by omega) h79_8 rfl (by omega) (by decide) (dk kL_fits_5_ok 25 rfl) ?_
                                refine W.eq (g2 := F0 m 580 ls [.int (nI (ptc c v 3)), .int (nI (ptc c v 1)), .int (nI (ptt c v 1))]) (congrArg (fun q9 => F0 m 580 ls (.int q9 :: [.int (nI (ptc c v 1)), .int (nI (ptt c v 1))])) (congrArg nI (qk_16 (k := 3) (by omega)))) ?_
                                refine n_iadd hx hb (dk kL_fits_5_ok 26 rfl) ?_
                                refine n_icmp_ne (tgt := 600) hx hb (by omega) (by omega) (dk kL_fits_5_ok 27 rfl) (by decide) (fun h18 => ?_) (fun h18 => ?_)
                                · exact absurd rfl h18
                                · skip
                                  refine lv_iload hx hb (dk kL_fits_5_ok 28 rfl) (lv_at hl 3 rfl) ?_
                                  refine lv_iload_n hx hb (dk kL_fits_5_ok 29 rfl) rfl (lv_at hl 4 rfl) ?_
                                  refine n_iadd hx hb (dk kL_fits_5_ok 30 rfl) ?_
                                  refine lv_iload hx hb (dk kL_fits_5_ok 31 rfl) (lv_at hl 2 rfl) ?_
                                  refine n_iadd hx hb (dk kL_fits_5_ok 32 rfl) ?_
                                  refine lv_bipush (v := nI 16) hx hb (dk kL_fits_5_ok 33 rfl) rfl ?_
                                  refine n_icmp_ne (tgt := 600) hx hb (by omega) (by decide) (dk kL_fits_5_ok 34 rfl) (by decide) (fun h19 => ?_) (fun h19 => ?_)
                                  · exact absurd (by have q1 := cnt_all hR hRl; have q2 : sm (potc c) 4 = cnt (pot c) 16 := potn_16; omega) h19
                                  · skip
                                    refine lv_iconst (v := nI 1) hx hb (dk kL_fits_5_ok 35 rfl) rfl ?_
                                    refine lv_goto (tgt := 601) hx hb (dk kL_fits_5_ok 36 rfl) (by decide) ?_
                                    exact hret _ ls _ _ _ ⟨_, _, _, _, _, _, _, _, _, _, _, hK_5, ⟨_, _, hR, hRl⟩, ht, h77_6, hjl⟩ hP hS (dk kL_fits_5_ok 38 rfl)
            · skip
              refine lv_iload hx hb (dk kL_fits_3_ok 33 rfl) (lv_at hl 2 rfl) ?_
              refine lv_aload_n hx hb (dk kL_fits_3_ok 34 rfl) rfl (lv_at hl 6 rfl) ?_
              refine lv_iload hx hb (dk kL_fits_3_ok 35 rfl) (lv_at hl 0 rfl) ?_
              refine ald (j := k) hx hb hK hP (by omega) h78_7 rfl (by omega) (by decide) (dk kL_fits_3_ok 36 rfl) ?_
              refine W.eq (g2 := F0 m 390 ls [.int (nI (potc c k)), .int (nI (sm (potc c) k))]) (congrArg (fun q9 => F0 m 390 ls (.int q9 :: [.int (nI (sm (potc c) k))])) (congrArg nI (pk_16 (k := k) (by omega)))) ?_
              refine n_iadd hx hb (dk kL_fits_3_ok 37 rfl) ?_
              refine lv_istore (lv' := [(5, .int (nI ((sm (potc c) k) + (potc c k)))), (7, .int (nI k)), (6, .int (nI (ovn c k))), (4, .int (nI (cnt (bot c b) 16))), (3, .int (nI (cnt (fun x => cov v x) 16))), (0, .ref (ad 0)), (1, .ref (ad 78)), (2, .ref (ad 79))]) hx hb (dk kL_fits_3_ok 38 rfl) hl (by decide) rfl (fun ls hl => ?_)
              refine lv_iload hx hb (dk kL_fits_3_ok 39 rfl) (lv_at hl 2 rfl) ?_
              refine lv_aload_n hx hb (dk kL_fits_3_ok 40 rfl) rfl (lv_at hl 6 rfl) ?_
              refine lv_iload hx hb (dk kL_fits_3_ok 41 rfl) (lv_at hl 1 rfl) ?_
              refine ald (j := k) hx hb hK hP (by omega) h78_7 rfl (by omega) (by decide) (dk kL_fits_3_ok 42 rfl) ?_
              refine W.eq (g2 := F0 m 399 ls [.int (nI (potc c k)), .int (nI (ovn c k))]) (congrArg (fun q9 => F0 m 399 ls (.int q9 :: [.int (nI (ovn c k))])) (congrArg nI (pk_16 (k := k) (by omega)))) ?_
              refine lv_iconst (v := nI 4) hx hb (dk kL_fits_3_ok 43 rfl) rfl ?_
              refine n_icmp_ne (tgt := 407) hx hb (by omega) (by decide) (dk kL_fits_3_ok 44 rfl) (by decide) (fun h20 => ?_) (fun h20 => ?_)
              · skip
                refine lv_iconst (v := nI 0) hx hb (dk kL_fits_3_ok 47 rfl) rfl ?_
                refine n_iadd hx hb (dk kL_fits_3_ok 48 rfl) ?_
                refine lv_istore (lv' := [(6, .int (nI ((ovn c k) + 0))), (5, .int (nI ((sm (potc c) k) + (potc c k)))), (7, .int (nI k)), (4, .int (nI (cnt (bot c b) 16))), (3, .int (nI (cnt (fun x => cov v x) 16))), (0, .ref (ad 0)), (1, .ref (ad 78)), (2, .ref (ad 79))]) hx hb (dk kL_fits_3_ok 49 rfl) hl (by decide) rfl (fun ls hl => ?_)
                refine lv_aload_n hx hb (dk kL_fits_3_ok 50 rfl) rfl (lv_at hl 5 rfl) ?_
                refine lv_iload hx hb (dk kL_fits_3_ok 51 rfl) (lv_at hl 2 rfl) ?_
                refine lv_iconst (v := nI 0) hx hb (dk kL_fits_3_ok 52 rfl) rfl ?_
                refine kw_colour hC hK_5 hN76 hP (w := k) (k := 0) (by omega) (by decide) (lc0 _ (List.mem_of_getElem? (i := 13) rfl)) hl.1 (Nat.le_of_ble_eq_true rfl) ⟨Nat.le_of_ble_eq_true rfl, Nat.le_of_ble_eq_true rfl⟩ (dk kL_fits_3_ok 53 rfl) (r := nI (potc c k)) rfl ?_
                refine lv_aload_n hx hb (dk kL_fits_3_ok 54 rfl) rfl (lv_at hl 6 rfl) ?_
                refine lv_iload hx hb (dk kL_fits_3_ok 55 rfl) (lv_at hl 2 rfl) ?_
                refine ald (j := k) hx hb hK hP (by omega) h78_7 rfl (by omega) (by decide) (dk kL_fits_3_ok 56 rfl) ?_
                refine W.eq (g2 := F0 m 422 ls [.int (nI (potc c k)), .int (nI (potc c k))]) (congrArg (fun q9 => F0 m 422 ls (.int q9 :: [.int (nI (potc c k))])) (congrArg nI (pk_16 (k := k) (by omega)))) ?_
                refine n_icmp_ne (tgt := 466) hx hb (by omega) (by omega) (dk kL_fits_3_ok 57 rfl) (by decide) (fun h21 => ?_) (fun h21 => ?_)
                · exact absurd rfl h21
                · skip
                  refine lv_aload_n hx hb (dk kL_fits_3_ok 58 rfl) rfl (lv_at hl 5 rfl) ?_
                  refine lv_iload hx hb (dk kL_fits_3_ok 59 rfl) (lv_at hl 2 rfl) ?_
                  refine lv_iconst (v := nI 3) hx hb (dk kL_fits_4_ok 0 rfl) rfl ?_
                  refine kw_colour hC hK_5 hN76 hP (w := k) (k := 3) (by omega) (by decide) (lc0 _ (List.mem_of_getElem? (i := 13) rfl)) hl.1 (Nat.le_of_ble_eq_true rfl) ⟨Nat.le_of_ble_eq_true rfl, Nat.le_of_ble_eq_true rfl⟩ (dk kL_fits_4_ok 1 rfl) (r := nI (ptc c v k)) rfl ?_
                  refine lv_aload_n hx hb (dk kL_fits_4_ok 2 rfl) rfl (lv_at hl 7 rfl) ?_
                  refine lv_iload hx hb (dk kL_fits_4_ok 3 rfl) (lv_at hl 2 rfl) ?_
                  refine ald (j := k) hx hb hK hP (by omega) h79_8 rfl (by omega) (by decide) (dk kL_fits_4_ok 4 rfl) ?_
                  refine W.eq (g2 := F0 m 436 ls [.int (nI (ptc c v k)), .int (nI (ptc c v k))]) (congrArg (fun q9 => F0 m 436 ls (.int q9 :: [.int (nI (ptc c v k))])) (congrArg nI (qk_16 (k := k) (by omega)))) ?_
                  refine n_icmp_ne (tgt := 466) hx hb (by omega) (by omega) (dk kL_fits_4_ok 5 rfl) (by decide) (fun h22 => ?_) (fun h22 => ?_)
                  · exact absurd rfl h22
                  · skip
                    refine lv_aload_n hx hb (dk kL_fits_4_ok 6 rfl) rfl (lv_at hl 5 rfl) ?_
                    refine lv_iload hx hb (dk kL_fits_4_ok 7 rfl) (lv_at hl 2 rfl) ?_
                    refine lv_iconst (v := nI 0) hx hb (dk kL_fits_4_ok 8 rfl) rfl ?_
                    refine kw_colour hC hK_5 hN76 hP (w := k) (k := 0) (by omega) (by decide) (lc0 _ (List.mem_of_getElem? (i := 13) rfl)) hl.1 (Nat.le_of_ble_eq_true rfl) ⟨Nat.le_of_ble_eq_true rfl, Nat.le_of_ble_eq_true rfl⟩ (dk kL_fits_4_ok 9 rfl) (r := nI (potc c k)) rfl ?_
                    refine lv_aload_n hx hb (dk kL_fits_4_ok 10 rfl) rfl (lv_at hl 5 rfl) ?_
                    refine lv_iload hx hb (dk kL_fits_4_ok 11 rfl) (lv_at hl 2 rfl) ?_
                    refine lv_iconst (v := nI 1) hx hb (dk kL_fits_4_ok 12 rfl) rfl ?_
                    refine kw_colour hC hK_5 hN76 hP (w := k) (k := 1) (by omega) (by decide) (lc0 _ (List.mem_of_getElem? (i := 13) rfl)) hl.1 (Nat.le_of_ble_eq_true rfl) ⟨Nat.le_of_ble_eq_true rfl, Nat.le_of_ble_eq_true rfl⟩ (dk kL_fits_4_ok 13 rfl) (r := nI (covc v k)) rfl ?_
                    refine n_iadd hx hb (dk kL_fits_4_ok 14 rfl) ?_
                    refine lv_aload_n hx hb (dk kL_fits_4_ok 15 rfl) rfl (lv_at hl 5 rfl) ?_
                    refine lv_iload hx hb (dk kL_fits_4_ok 16 rfl) (lv_at hl 2 rfl) ?_
                    refine lv_iconst (v := nI 2) hx hb (dk kL_fits_4_ok 17 rfl) rfl ?_
                    refine kw_colour hC hK_5 hN76 hP (w := k) (k := 2) (by omega) (by decide) (lc0 _ (List.mem_of_getElem? (i := 13) rfl)) hl.1 (Nat.le_of_ble_eq_true rfl) ⟨Nat.le_of_ble_eq_true rfl, Nat.le_of_ble_eq_true rfl⟩ (dk kL_fits_4_ok 18 rfl) (r := nI (4 - potc c k - covc v k)) (col_c2 (col_2 hR hRl (by omega))) ?_
                    refine n_iadd hx hb (dk kL_fits_4_ok 19 rfl) ?_
                    refine lv_iconst (v := nI 4) hx hb (dk kL_fits_4_ok 20 rfl) rfl ?_
                    refine n_icmp_eq (tgt := 468) hx hb (by omega) (by decide) (dk kL_fits_4_ok 21 rfl) (by decide) (fun h23 => ?_) (fun h23 => ?_)
                    · skip
                      refine lv_iinc (v := nI (k + 1)) (lv' := [(7, .int (nI (k + 1))), (6, .int (nI ((ovn c k) + 0))), (5, .int (nI ((sm (potc c) k) + (potc c k)))), (4, .int (nI (cnt (bot c b) 16))), (3, .int (nI (cnt (fun x => cov v x) 16))), (0, .ref (ad 0)), (1, .ref (ad 78)), (2, .ref (ad 79))]) hx hb (dk kL_fits_4_ok 24 rfl) hl (k := 2) rfl (n_inc _) (by decide) rfl (fun ls hl => ?_)
                      refine lv_goto (tgt := 378) hx hb (dk kL_fits_4_ok 25 rfl) (by decide) ?_
                      exact ih378 (k + 1) _ _ _ _ _ hK_5 h77_6 h78_7 h79_8 hP hS (by unfold ovn; rw [cn_f (p := fun x => decide (potc c x = 4)) (decide_eq_false h20), Nat.add_zero]) (by rfl) (by first | rfl | omega | assumption) (by omega) ls (lv_sub hl [0, 1, 2, 3, 4, 5, 6, 7] rfl)
                    · exact absurd (by have q1 := col_2 hR hRl (k := k) (by omega); omega) h23
              · skip
                refine lv_iconst (v := nI 1) hx hb (dk kL_fits_3_ok 45 rfl) rfl ?_
                refine lv_goto (tgt := 408) hx hb (dk kL_fits_3_ok 46 rfl) (by decide) ?_
                refine n_iadd hx hb (dk kL_fits_3_ok 48 rfl) ?_
                refine lv_istore (lv' := [(6, .int (nI ((ovn c k) + 1))), (5, .int (nI ((sm (potc c) k) + (potc c k)))), (7, .int (nI k)), (4, .int (nI (cnt (bot c b) 16))), (3, .int (nI (cnt (fun x => cov v x) 16))), (0, .ref (ad 0)), (1, .ref (ad 78)), (2, .ref (ad 79))]) hx hb (dk kL_fits_3_ok 49 rfl) hl (by decide) rfl (fun ls hl => ?_)
                refine lv_aload_n hx hb (dk kL_fits_3_ok 50 rfl) rfl (lv_at hl 5 rfl) ?_
                refine lv_iload hx hb (dk kL_fits_3_ok 51 rfl) (lv_at hl 2 rfl) ?_
                refine lv_iconst (v := nI 0) hx hb (dk kL_fits_3_ok 52 rfl) rfl ?_
                refine kw_colour hC hK_5 hN76 hP (w := k) (k := 0) (by omega) (by decide) (lc0 _ (List.mem_of_getElem? (i := 13) rfl)) hl.1 (Nat.le_of_ble_eq_true rfl) ⟨Nat.le_of_ble_eq_true rfl, Nat.le_of_ble_eq_true rfl⟩ (dk kL_fits_3_ok 53 rfl) (r := nI (potc c k)) rfl ?_
                refine lv_aload_n hx hb (dk kL_fits_3_ok 54 rfl) rfl (lv_at hl 6 rfl) ?_
                refine lv_iload hx hb (dk kL_fits_3_ok 55 rfl) (lv_at hl 2 rfl) ?_
                refine ald (j := k) hx hb hK hP (by omega) h78_7 rfl (by omega) (by decide) (dk kL_fits_3_ok 56 rfl) ?_
                refine W.eq (g2 := F0 m 422 ls [.int (nI (potc c k)), .int (nI (potc c k))]) (congrArg (fun q9 => F0 m 422 ls (.int q9 :: [.int (nI (potc c k))])) (congrArg nI (pk_16 (k := k) (by omega)))) ?_
                refine n_icmp_ne (tgt := 466) hx hb (by omega) (by omega) (dk kL_fits_3_ok 57 rfl) (by decide) (fun h24 => ?_) (fun h24 => ?_)
                · exact absurd rfl h24
                · skip
                  refine lv_aload_n hx hb (dk kL_fits_3_ok 58 rfl) rfl (lv_at hl 5 rfl) ?_
                  refine lv_iload hx hb (dk kL_fits_3_ok 59 rfl) (lv_at hl 2 rfl) ?_
                  refine lv_iconst (v := nI 3) hx hb (dk kL_fits_4_ok 0 rfl) rfl ?_
                  refine kw_colour hC hK_5 hN76 hP (w := k) (k := 3) (by omega) (by decide) (lc0 _ (List.mem_of_getElem? (i := 13) rfl)) hl.1 (Nat.le_of_ble_eq_true rfl) ⟨Nat.le_of_ble_eq_true rfl, Nat.le_of_ble_eq_true rfl⟩ (dk kL_fits_4_ok 1 rfl) (r := nI (ptc c v k)) rfl ?_
                  refine lv_aload_n hx hb (dk kL_fits_4_ok 2 rfl) rfl (lv_at hl 7 rfl) ?_
                  refine lv_iload hx hb (dk kL_fits_4_ok 3 rfl) (lv_at hl 2 rfl) ?_
                  refine ald (j := k) hx hb hK hP (by omega) h79_8 rfl (by omega) (by decide) (dk kL_fits_4_ok 4 rfl) ?_
                  refine W.eq (g2 := F0 m 436 ls [.int (nI (ptc c v k)), .int (nI (ptc c v k))]) (congrArg (fun q9 => F0 m 436 ls (.int q9 :: [.int (nI (ptc c v k))])) (congrArg nI (qk_16 (k := k) (by omega)))) ?_
                  refine n_icmp_ne (tgt := 466) hx hb (by omega) (by omega) (dk kL_fits_4_ok 5 rfl) (by decide) (fun h25 => ?_) (fun h25 => ?_)
                  · exact absurd rfl h25
                  · skip
                    refine lv_aload_n hx hb (dk kL_fits_4_ok 6 rfl) rfl (lv_at hl 5 rfl) ?_
                    refine lv_iload hx hb (dk kL_fits_4_ok 7 rfl) (lv_at hl 2 rfl) ?_
                    refine lv_iconst (v := nI 0) hx hb (dk kL_fits_4_ok 8 rfl) rfl ?_
                    refine kw_colour hC hK_5 hN76 hP (w := k) (k := 0) (by omega) (by decide) (lc0 _ (List.mem_of_getElem? (i := 13) rfl)) hl.1 (Nat.le_of_ble_eq_true rfl) ⟨Nat.le_of_ble_eq_true rfl, Nat.le_of_ble_eq_true rfl⟩ (dk kL_fits_4_ok 9 rfl) (r := nI (potc c k)) rfl ?_
                    refine lv_aload_n hx hb (dk kL_fits_4_ok 10 rfl) rfl (lv_at hl 5 rfl) ?_
                    refine lv_iload hx hb (dk kL_fits_4_ok 11 rfl) (lv_at hl 2 rfl) ?_
                    refine lv_iconst (v := nI 1) hx hb (dk kL_fits_4_ok 12 rfl) rfl ?_
                    refine kw_colour hC hK_5 hN76 hP (w := k) (k := 1) (by omega) (by decide) (lc0 _ (List.mem_of_getElem? (i := 13) rfl)) hl.1 (Nat.le_of_ble_eq_true rfl) ⟨Nat.le_of_ble_eq_true rfl, Nat.le_of_ble_eq_true rfl⟩ (dk kL_fits_4_ok 13 rfl) (r := nI (covc v k)) rfl ?_
                    refine n_iadd hx hb (dk kL_fits_4_ok 14 rfl) ?_
                    refine lv_aload_n hx hb (dk kL_fits_4_ok 15 rfl) rfl (lv_at hl 5 rfl) ?_
                    refine lv_iload hx hb (dk kL_fits_4_ok 16 rfl) (lv_at hl 2 rfl) ?_
                    refine lv_iconst (v := nI 2) hx hb (dk kL_fits_4_ok 17 rfl) rfl ?_
                    refine kw_colour hC hK_5 hN76 hP (w := k) (k := 2) (by omega) (by decide) (lc0 _ (List.mem_of_getElem? (i := 13) rfl)) hl.1 (Nat.le_of_ble_eq_true rfl) ⟨Nat.le_of_ble_eq_true rfl, Nat.le_of_ble_eq_true rfl⟩ (dk kL_fits_4_ok 18 rfl) (r := nI (4 - potc c k - covc v k)) (col_c2 (col_2 hR hRl (by omega))) ?_
                    refine n_iadd hx hb (dk kL_fits_4_ok 19 rfl) ?_
                    refine lv_iconst (v := nI 4) hx hb (dk kL_fits_4_ok 20 rfl) rfl ?_
                    refine n_icmp_eq (tgt := 468) hx hb (by omega) (by decide) (dk kL_fits_4_ok 21 rfl) (by decide) (fun h26 => ?_) (fun h26 => ?_)
                    · skip
                      refine lv_iinc (v := nI (k + 1)) (lv' := [(7, .int (nI (k + 1))), (6, .int (nI ((ovn c k) + 1))), (5, .int (nI ((sm (potc c) k) + (potc c k)))), (4, .int (nI (cnt (bot c b) 16))), (3, .int (nI (cnt (fun x => cov v x) 16))), (0, .ref (ad 0)), (1, .ref (ad 78)), (2, .ref (ad 79))]) hx hb (dk kL_fits_4_ok 24 rfl) hl (k := 2) rfl (n_inc _) (by decide) rfl (fun ls hl => ?_)
                      refine lv_goto (tgt := 378) hx hb (dk kL_fits_4_ok 25 rfl) (by decide) ?_
                      exact ih378 (k + 1) _ _ _ _ _ hK_5 h77_6 h78_7 h79_8 hP hS (by unfold ovn; rw [cn_t (p := fun x => decide (potc c x = 4)) (decide_eq_true h20)]) (by rfl) (by first | rfl | omega | assumption) (by omega) ls (lv_sub hl [0, 1, 2, 3, 4, 5, 6, 7] rfl)
                    · exact absurd (by have q1 := col_2 hR hRl (k := k) (by omega); omega) h26
        exact L378 _ 0 _ _ _ _ _ hK_1 h77_2 h78_3 h79_4 hP hS (by first | rfl | omega) (by first | rfl | omega) (by first | rfl | omega) (Nat.lt_succ_self _) ls (lv_sub hl [0, 1, 2, 3, 4, 5, 6, 7] rfl)
      · skip
        refine lv_aload_n hx hb (dk kL_fits_0_ok 15 rfl) rfl (lv_at hl 3 rfl) ?_
        refine lv_iload hx hb (dk kL_fits_0_ok 16 rfl) (lv_at hl 0 rfl) ?_
        refine lv_iconst (v := nI 2) hx hb (dk kL_fits_0_ok 17 rfl) rfl ?_
        refine kw_wink hC hK_1 hN76 hP ht (w := i) (k := 2) (by omega) (by decide) (lc0 _ (List.mem_of_getElem? (i := 3) rfl)) hl.1 (Nat.le_of_ble_eq_true rfl) ⟨Nat.le_of_ble_eq_true rfl, Nat.le_of_ble_eq_true rfl⟩ (dk kL_fits_0_ok 18 rfl) (r := c i) rfl ?_
        refine lv_istore (lv' := [(6, .int (c i)), (5, .int (nI i)), (4, .int (nI (cnt (bot c b) i))), (3, .int (nI (cnt (fun x => cov v x) i))), (0, .ref (ad 0)), (1, .ref (ad 78)), (2, .ref (ad 79))]) hx hb (dk kL_fits_0_ok 19 rfl) hl (by decide) rfl (fun ls hl => ?_)
        refine lv_iload hx hb (dk kL_fits_0_ok 20 rfl) (lv_at hl 1 rfl) ?_
        refine lv_iconst (v := nI 4) hx hb (dk kL_fits_0_ok 21 rfl) rfl ?_
        refine n_idiv hx hb (by omega) (by decide) (by decide) (dk kL_fits_0_ok 22 rfl) ?_
        refine lv_istore (lv' := [(7, .int (nI (i / 4))), (6, .int (c i)), (5, .int (nI i)), (4, .int (nI (cnt (bot c b) i))), (3, .int (nI (cnt (fun x => cov v x) i))), (0, .ref (ad 0)), (1, .ref (ad 78)), (2, .ref (ad 79))]) hx hb (dk kL_fits_0_ok 23 rfl) hl (by decide) rfl (fun ls hl => ?_)
        refine lv_aload_n hx hb (dk kL_fits_0_ok 24 rfl) rfl (lv_at hl 5 rfl) ?_
        refine lv_iload hx hb (dk kL_fits_0_ok 25 rfl) (lv_at hl 2 rfl) ?_
        refine lv_iconst (v := nI 0) hx hb (dk kL_fits_0_ok 26 rfl) rfl ?_
        refine kw_wink hC hK_1 hN76 hP ht (w := i) (k := 0) (by omega) (by decide) (lc0 _ (List.mem_of_getElem? (i := 3) rfl)) hl.1 (Nat.le_of_ble_eq_true rfl) ⟨Nat.le_of_ble_eq_true rfl, Nat.le_of_ble_eq_true rfl⟩ (dk kL_fits_0_ok 27 rfl) (r := nI (i / 4)) rfl ?_
        refine lv_iload hx hb (dk kL_fits_0_ok 28 rfl) (lv_at hl 0 rfl) ?_
        refine n_icmp_ne (tgt := 73) hx hb (by omega) (by omega) (dk kL_fits_0_ok 29 rfl) (by decide) (fun h27 => ?_) (fun h27 => ?_)
        · exact absurd rfl h27
        · skip
          refine lv_aload_n hx hb (dk kL_fits_0_ok 30 rfl) rfl (lv_at hl 5 rfl) ?_
          refine lv_iload hx hb (dk kL_fits_0_ok 31 rfl) (lv_at hl 2 rfl) ?_
          refine lv_iconst (v := nI 1) hx hb (dk kL_fits_0_ok 32 rfl) rfl ?_
          refine kw_wink hC hK_1 hN76 hP ht (w := i) (k := 1) (by omega) (by decide) (lc0 _ (List.mem_of_getElem? (i := 3) rfl)) hl.1 (Nat.le_of_ble_eq_true rfl) ⟨Nat.le_of_ble_eq_true rfl, Nat.le_of_ble_eq_true rfl⟩ (dk kL_fits_0_ok 33 rfl) (r := if i % 4 < 2 then nI 1 else nI 0) rfl ?_
          refine lv_iload hx hb (dk kL_fits_0_ok 34 rfl) (lv_at hl 2 rfl) ?_
          refine lv_iconst (v := nI 4) hx hb (dk kL_fits_0_ok 35 rfl) rfl ?_
          refine n_irem hx hb (by omega) (by decide) (by decide) (dk kL_fits_0_ok 36 rfl) ?_
          refine lv_iconst (v := nI 2) hx hb (dk kL_fits_0_ok 37 rfl) rfl ?_
          refine n_icmp_ge (tgt := 69) hx hb (by omega) (by decide) (dk kL_fits_0_ok 38 rfl) (by decide) (fun h28 => ?_) (fun h28 => ?_)
          · skip
            refine lv_iconst (v := nI 0) hx hb (dk kL_fits_0_ok 41 rfl) rfl ?_
            refine lv_icmp_eq (tgt := 75) hx hb (dk kL_fits_0_ok 42 rfl) (by decide) (fun h29 => ?_) (fun h29 => ?_)
            · skip
              refine lv_iload hx hb (dk kL_fits_0_ok 45 rfl) (lv_at hl 1 rfl) ?_
              refine lv_iconst (v := -1) hx hb (dk kL_fits_0_ok 46 rfl) rfl ?_
              refine lv_icmp_ne (tgt := 142) hx hb (dk kL_fits_0_ok 47 rfl) (by decide) (fun h30 => ?_) (fun h30 => ?_)
              · skip
                have hpf : pot c i = false := by unfold pot; exact decide_eq_false h30
                obtain ⟨q, a9, ha9, hWq⟩ := (hR.2.2 i (by omega)).resolve_left h30
                have hcq := (hR.1 q a9 ha9).2.2.2
                have hq169 := (hR.1 q a9 ha9).2.1
                have hq84 := (hR.1 q a9 ha9).2.2.1
                have hpl := pls_at hR hRl ha9
                have hcv := hRl.covN hR ha9
                have hbt := bot_at hR hRl ha9
                have hhq := hR.hgtN (q := q) (by omega)
                have ha16 := hR.i ha9
                have hN16 := hR.le (q := q) (by omega)
                have hbs := (bs_lt i).1
                rw [hWq] at hcq hpl hcv hbt
                rw [hcq] at hl
                refine lv_aload_n hx hb (dk kL_fits_1_ok 26 rfl) rfl (lv_at hl 5 rfl) ?_
                refine lv_iload hx hb (dk kL_fits_1_ok 27 rfl) (lv_at hl 2 rfl) ?_
                refine lv_iconst (v := nI 3) hx hb (dk kL_fits_1_ok 28 rfl) rfl ?_
                refine kw_wink hC hK_1 hN76 hP ht (w := i) (k := 3) (by omega) (by decide) (lc0 _ (List.mem_of_getElem? (i := 3) rfl)) hl.1 (Nat.le_of_ble_eq_true rfl) ⟨Nat.le_of_ble_eq_true rfl, Nat.le_of_ble_eq_true rfl⟩ (dk kL_fits_1_ok 29 rfl) (r := nI a9) (hpl) ?_
                refine lv_istore (lv' := [(8, .int (nI a9)), (7, .int (nI (i / 4))), (6, .int (nI q)), (5, .int (nI i)), (4, .int (nI (cnt (bot c b) i))), (3, .int (nI (cnt (fun x => cov v x) i))), (0, .ref (ad 0)), (1, .ref (ad 78)), (2, .ref (ad 79))]) hx hb (dk kL_fits_1_ok 30 rfl) hl (by decide) rfl (fun ls hl => ?_)
                refine lv_iload hx hb (dk kL_fits_1_ok 31 rfl) (lv_at hl 0 rfl) ?_
                refine lv_aload_n hx hb (dk kL_fits_1_ok 32 rfl) rfl (lv_at hl 6 rfl) ?_
                refine lv_iload hx hb (dk kL_fits_1_ok 33 rfl) (lv_at hl 2 rfl) ?_
                refine csR (As := [.ref (ad 0), .int (nI q)]) (r := .int (nI (Np q))) (rest := [.int (nI a9)]) ⟨hC.1, hC.2.1, hC.2.2.1, hC.2.2.2.1, hC.2.2.2.2.1⟩ (tL_manyN l D cI cQ cL ad 80 F hN76 hK_1 (q := q) (n := Np q) (by omega) (hhq)) (cwSL 2 hC.2.2.2.2.1 mcL_many (lc0 _ (List.mem_of_getElem? (i := 6) rfl)) msL_many mini_RL rfl rfl hdL_many ⟨Nat.le_of_ble_eq_true rfl, Nat.le_of_ble_eq_true rfl⟩) hC.2.2.2.2.2.1 hP hC.2.2.2.2.2.2.1 rfl hl.1 rfl (Nat.le_of_ble_eq_true rfl) ⟨Nat.le_of_ble_eq_true rfl, Nat.le_of_ble_eq_true rfl⟩ (dk kL_fits_1_ok 34 rfl) ?_
                refine lv_iconst (v := nI 1) hx hb (dk kL_fits_1_ok 35 rfl) rfl ?_
                refine n_isub hx hb (by omega) (dk kL_fits_1_ok 36 rfl) ?_
                refine n_icmp_ne (tgt := 168) hx hb (by omega) (by omega) (dk kL_fits_1_ok 37 rfl) (by decide) (fun h31 => ?_) (fun h31 => ?_)
                · skip
                  refine lv_iconst (v := nI 0) hx hb (dk kL_fits_1_ok 40 rfl) rfl ?_
                  refine lv_istore (lv' := [(9, .int (nI 0)), (8, .int (nI a9)), (7, .int (nI (i / 4))), (6, .int (nI q)), (5, .int (nI i)), (4, .int (nI (cnt (bot c b) i))), (3, .int (nI (cnt (fun x => cov v x) i))), (0, .ref (ad 0)), (1, .ref (ad 78)), (2, .ref (ad 79))]) hx hb (dk kL_fits_1_ok 41 rfl) hl (by decide) rfl (fun ls hl => ?_)
                  refine lv_iload_n hx hb (dk kL_fits_1_ok 42 rfl) rfl (lv_at hl 6 rfl) ?_
                  refine lv_iload hx hb (dk kL_fits_1_ok 43 rfl) (lv_at hl 0 rfl) ?_
                  refine n_if_eq (tgt := 181) hx hb (by decide) (dk kL_fits_1_ok 44 rfl) (by decide) ?_ (fun h9 => absurd h9 (by decide))
                  intro _
                  refine lv_iconst (v := nI 1) hx hb (dk kL_fits_1_ok 47 rfl) rfl ?_
                  refine n_iadd hx hb (dk kL_fits_1_ok 48 rfl) ?_
                  refine lv_istore_n (lv' := [(3, .int (nI ((cnt (fun x => cov v x) i) + 1))), (9, .int (nI 0)), (8, .int (nI a9)), (7, .int (nI (i / 4))), (6, .int (nI q)), (5, .int (nI i)), (4, .int (nI (cnt (bot c b) i))), (0, .ref (ad 0)), (1, .ref (ad 78)), (2, .ref (ad 79))]) hx hb (dk kL_fits_1_ok 49 rfl) rfl hl (by decide) rfl (fun ls hl => ?_)
                  refine lv_iload hx hb (dk kL_fits_1_ok 50 rfl) (lv_at hl 6 rfl) ?_
                  refine lv_iload hx hb (dk kL_fits_1_ok 51 rfl) (lv_at hl 2 rfl) ?_
                  refine n_if_ne (tgt := 195) hx hb (by omega) (dk kL_fits_1_ok 52 rfl) (by decide) (fun h32 => ?_) (fun h32 => ?_)
                  · skip
                    refine lv_iconst (v := nI 0) hx hb (dk kL_fits_1_ok 55 rfl) rfl ?_
                    refine n_iadd hx hb (dk kL_fits_1_ok 56 rfl) ?_
                    refine lv_istore (lv' := [(4, .int (nI ((cnt (bot c b) i) + 0))), (3, .int (nI ((cnt (fun x => cov v x) i) + 1))), (9, .int (nI 0)), (8, .int (nI a9)), (7, .int (nI (i / 4))), (6, .int (nI q)), (5, .int (nI i)), (0, .ref (ad 0)), (1, .ref (ad 78)), (2, .ref (ad 79))]) hx hb (dk kL_fits_1_ok 57 rfl) hl (by decide) rfl (fun ls hl => ?_)
                    refine lv_aload_n hx hb (dk kL_fits_1_ok 58 rfl) rfl (lv_at hl 9 rfl) ?_
                    refine lv_iload hx hb (dk kL_fits_1_ok 59 rfl) (lv_at hl 4 rfl) ?_
                    refine lv_dup2_11 hx hb (dk kL_fits_2_ok 0 rfl) rfl rfl ?_
                    refine ald (j := (i / 4)) hx hb hK hP (by omega) h79_4 rfl (by omega) (by decide) (dk kL_fits_2_ok 1 rfl) ?_
                    refine lv_iload hx hb (dk kL_fits_2_ok 2 rfl) (lv_at hl 2 rfl) ?_
                    refine n_if_eq (tgt := 223) hx hb (by decide) (dk kL_fits_2_ok 3 rfl) (by decide) ?_ (fun h9 => absurd h9 (by decide))
                    intro _
                    refine lv_iconst (v := nI 0) hx hb (dk kL_fits_2_ok 10 rfl) rfl ?_
                    refine lv_iadd hx hb (dk kL_fits_2_ok 11 rfl) ?_
                    refine ast (va_up F 79 (.inl (cI, 4, .inl (upd (fun k => nI (qk c v k i)) (i / 4) (((fun k => nI (qk c v k i)) (i / 4)) + (nI 0)))))) (k := 79) (j := i / 4) hx hb hC.2.2.2.2.2.1 hDi hP hS (by omega) h79_4 rfl (by omega) (by decide) (dk kL_fits_2_ok 12 rfl) rfl (fun H locs hP hS => ?_)
                    have hK_10 : KW cI cQ ad (va_up F 79 (.inl (cI, 4, .inl (upd (fun k => nI (qk c v k i)) (i / 4) (((fun k => nI (qk c v k i)) (i / 4)) + (nI 0)))))) c b v g h j t u z m9 := KW_fr hK_1 (fun i hi => va_up_ne _ _ (by omega))
                    have h79_11 : va_up F 79 (.inl (cI, 4, .inl (upd (fun k => nI (qk c v k i)) (i / 4) (((fun k => nI (qk c v k i)) (i / 4)) + (nI 0))))) 79 = .inl (cI, 4, .inl (upd (fun k => nI (qk c v k i)) (i / 4) (((fun k => nI (qk c v k i)) (i / 4)) + (nI 0)))) := va_up_self _ _ _
                    have h77_12 : va_up F 79 (.inl (cI, 4, .inl (upd (fun k => nI (qk c v k i)) (i / 4) (((fun k => nI (qk c v k i)) (i / 4)) + (nI 0))))) 77 = .inl (cI, 4, .inl lo) := (va_up_ne _ _ (by decide)).trans h77_2
                    have h78_13 : va_up F 79 (.inl (cI, 4, .inl (upd (fun k => nI (qk c v k i)) (i / 4) (((fun k => nI (qk c v k i)) (i / 4)) + (nI 0))))) 78 = .inl (cI, 4, .inl (fun k => nI (pk c k i))) := (va_up_ne _ _ (by decide)).trans h78_3
                    generalize va_up F 79 (.inl (cI, 4, .inl (upd (fun k => nI (qk c v k i)) (i / 4) (((fun k => nI (qk c v k i)) (i / 4)) + (nI 0))))) = F_9 at hP hK_10 h79_11 h77_12 h78_13
                    have h79_14 : F_9 79 = .inl (cI, 4, .inl (fun k => nI (qk c v k (i + 1)))) := by rw [h79_11]; exact congrArg (fun q => va_E9 cI 4 q) (qk_s (ptx_0 h30 (hcv.trans (decide_eq_true (by omega)))))
                    refine lv_iload hx hb (dk kL_fits_2_ok 13 rfl) (lv_at hl 5 rfl) ?_
                    refine lv_bipush (v := nI 84) hx hb (dk kL_fits_2_ok 14 rfl) rfl ?_
                    refine n_icmp_eq (tgt := 319) hx hb (by omega) (by decide) (dk kL_fits_2_ok 15 rfl) (by decide) (fun h33 => ?_) (fun h33 => ?_)
                    · exact absurd h33 hq84
                    · skip
                      refine lv_iload hx hb (dk kL_fits_2_ok 16 rfl) (lv_at hl 3 rfl) ?_
                      refine n_if_lt (tgt := 319) hx hb (by omega) (dk kL_fits_2_ok 17 rfl) (by decide) ?_
                      refine lv_iload hx hb (dk kL_fits_2_ok 18 rfl) (lv_at hl 3 rfl) ?_
                      refine lv_aload_n hx hb (dk kL_fits_2_ok 19 rfl) rfl (lv_at hl 7 rfl) ?_
                      refine lv_iload hx hb (dk kL_fits_2_ok 20 rfl) (lv_at hl 5 rfl) ?_
                      refine csR (As := [.ref (ad 0), .int (nI q)]) (r := .int (nI (Np q))) (rest := [.int (nI a9)]) ⟨hC.1, hC.2.1, hC.2.2.1, hC.2.2.2.1, hC.2.2.2.2.1⟩ (tL_manyN l D cI cQ cL ad 80 F_9 hN76 hK_10 (q := q) (n := Np q) (by omega) (hhq)) (cwSL 2 hC.2.2.2.2.1 mcL_many (lc0 _ (List.mem_of_getElem? (i := 6) rfl)) msL_many mini_RL rfl rfl hdL_many ⟨Nat.le_of_ble_eq_true rfl, Nat.le_of_ble_eq_true rfl⟩) hC.2.2.2.2.2.1 hP hC.2.2.2.2.2.2.1 rfl hl.1 rfl (Nat.le_of_ble_eq_true rfl) ⟨Nat.le_of_ble_eq_true rfl, Nat.le_of_ble_eq_true rfl⟩ (dk kL_fits_2_ok 21 rfl) ?_
                      refine n_icmp_ge (tgt := 319) hx hb (by omega) (by omega) (dk kL_fits_2_ok 22 rfl) (by decide) (fun h34 => ?_) (fun h34 => ?_)
                      · exact absurd h34 (by omega)
                      · skip
                        refine lv_aload_n hx hb (dk kL_fits_2_ok 23 rfl) rfl (lv_at hl 7 rfl) ?_
                        refine lv_iload hx hb (dk kL_fits_2_ok 24 rfl) (lv_at hl 6 rfl) ?_
                        refine lv_iconst (v := nI 4) hx hb (dk kL_fits_2_ok 25 rfl) rfl ?_
                        refine kw_wink hC hK_10 hN76 hP ht (w := i) (k := 4) (by omega) (by decide) (lc0 _ (List.mem_of_getElem? (i := 3) rfl)) hl.1 (Nat.le_of_ble_eq_true rfl) ⟨Nat.le_of_ble_eq_true rfl, Nat.le_of_ble_eq_true rfl⟩ (dk kL_fits_2_ok 26 rfl) (r := bI (cov v i)) rfl ?_
                        refine lv_iload hx hb (dk kL_fits_2_ok 27 rfl) (lv_at hl 2 rfl) ?_
                        refine n_if_eq (tgt := 265) hx hb (by decide) (dk kL_fits_2_ok 28 rfl) (by decide) ?_ (fun h9 => absurd h9 (by decide))
                        intro _
                        refine lv_iconst (v := nI 1) hx hb (dk kL_fits_2_ok 31 rfl) rfl ?_
                        refine lv_icmp_ne (tgt := 319) hx hb (dk kL_fits_2_ok 32 rfl) (by decide) (fun h35 => ?_) (fun h35 => ?_)
                        · exact absurd (bI_t (hcv.trans (decide_eq_true (by omega)))) h35
                        · skip
                          refine lv_iload hx hb (dk kL_fits_2_ok 33 rfl) (lv_at hl 2 rfl) ?_
                          refine n_if_eq (tgt := 294) hx hb (by decide) (dk kL_fits_2_ok 34 rfl) (by decide) ?_ (fun h9 => absurd h9 (by decide))
                          intro _
                          refine lv_iload hx hb (dk kL_fits_2_ok 46 rfl) (lv_at hl 3 rfl) ?_
                          refine n_if_ne (tgt := 321) hx hb (by omega) (dk kL_fits_2_ok 47 rfl) (by decide) (fun h36 => ?_) (fun h36 => ?_)
                          · skip
                            have hz9 : ¬ a9 = 0 := h36
                            have hi16 : i < 16 := by omega
                            refine lv_iconst (v := nI 0) hx hb (dk kL_fits_3_ok 1 rfl) rfl ?_
                            refine lv_istore (lv' := [(10, .int (nI 0)), (4, .int (nI ((cnt (bot c b) i) + 0))), (3, .int (nI ((cnt (fun x => cov v x) i) + 1))), (9, .int (nI 0)), (8, .int (nI a9)), (7, .int (nI (i / 4))), (6, .int (nI q)), (5, .int (nI i)), (0, .ref (ad 0)), (1, .ref (ad 78)), (2, .ref (ad 79))]) hx hb (dk kL_fits_3_ok 2 rfl) hl (by decide) rfl (fun ls hl => ?_)
                            have L324 : ∀ (fu : Nat) (o9 : Nat) (F : Nat → va_E) (H : Heap) (locs : List Loc), KW cI cQ ad F c b v g h j t u z m9 → F 79 = .inl (cI, 4, .inl (fun k => nI (qk c v k (i + 1)))) → F 77 = .inl (cI, 4, .inl lo) → F 78 = .inl (cI, 4, .inl (fun k => nI (pk c k i))) → va_P D vwCl (iW ad 80 F) H → va_S (iA ad 80 s.heap.size) s.heap H locs → (o9 ≤ i) → i - o9 < fu → ∀ ls : Array Slot, lv_has ls 11 [(10, .int (nI o9)), (4, .int (nI ((cnt (bot c b) i) + 0))), (3, .int (nI ((cnt (fun x => cov v x) i) + 1))), (9, .int (nI 0)), (8, .int (nI a9)), (7, .int (nI (i / 4))), (6, .int (nI q)), (5, .int (nI i)), (0, .ref (ad 0)), (1, .ref (ad 78)), (2, .ref (ad 79))] → W p l e ({ frames := 11, cells := 2, slots := 8, locals := 400 } : Room) s m AR below meth cd H locs 2 8 Q (F0 m 324 ls []) := by
                              intro fu
                              induction fu with
                              | zero => intros; omega
                              | succ fu ih324 =>
                                intro o9 F H locs hK_15 h79_16 h77_17 h78_18 hP hS ho9 hme324 ls hl
                                refine lv_iload hx hb (dk kL_fits_3_ok 3 rfl) (lv_at hl 0 rfl) ?_
                                refine lv_iload hx hb (dk kL_fits_3_ok 4 rfl) (lv_at hl 7 rfl) ?_
                                refine n_icmp_ge (tgt := 363) hx hb (by omega) (by omega) (dk kL_fits_3_ok 5 rfl) (by decide) (fun h37 => ?_) (fun h37 => ?_)
                                · skip
                                  refine lv_iinc (v := nI (i + 1)) (lv' := [(5, .int (nI (i + 1))), (10, .int (nI o9)), (4, .int (nI ((cnt (bot c b) i) + 0))), (3, .int (nI ((cnt (fun x => cov v x) i) + 1))), (9, .int (nI 0)), (8, .int (nI a9)), (7, .int (nI (i / 4))), (6, .int (nI q)), (0, .ref (ad 0)), (1, .ref (ad 78)), (2, .ref (ad 79))]) hx hb (dk kL_fits_3_ok 22 rfl) hl (k := 7) rfl (n_inc _) (by decide) rfl (fun ls hl => ?_)
                                  refine lv_goto (tgt := 16) hx hb (dk kL_fits_3_ok 23 rfl) (by decide) ?_
                                  exact ih16 (i + 1) _ _ _ _ _ hK_15 h77_17 (by rw [← pk_n hpf]; exact h78_18) h79_16 hP hS (by rw [cn_f (hbt.trans (decide_eq_false hz9)), Nat.add_zero]) (by rw [cn_t (p := fun x => cov v x) (hcv.trans (decide_eq_true (by omega)))]) (by first | rfl | omega | assumption) (by omega) ls (lv_sub hl [0, 2, 3, 8, 9, 10] rfl)
                                · skip
                                  refine lv_aload_n hx hb (dk kL_fits_3_ok 6 rfl) rfl (lv_at hl 8 rfl) ?_
                                  refine lv_iload hx hb (dk kL_fits_3_ok 7 rfl) (lv_at hl 0 rfl) ?_
                                  refine lv_iconst (v := nI 2) hx hb (dk kL_fits_3_ok 8 rfl) rfl ?_
                                  refine kw_wink hC hK_15 hN76 hP ht (w := o9) (k := 2) (by omega) (by decide) (lc0 _ (List.mem_of_getElem? (i := 3) rfl)) hl.1 (Nat.le_of_ble_eq_true rfl) ⟨Nat.le_of_ble_eq_true rfl, Nat.le_of_ble_eq_true rfl⟩ (dk kL_fits_3_ok 9 rfl) (r := c o9) rfl ?_
                                  refine lv_iload hx hb (dk kL_fits_3_ok 10 rfl) (lv_at hl 6 rfl) ?_
                                  refine lv_icmp_ne (tgt := 357) hx hb (dk kL_fits_3_ok 11 rfl) (by decide) (fun h38 => ?_) (fun h38 => ?_)
                                  · skip
                                    refine lv_iinc (v := nI (o9 + 1)) (lv' := [(10, .int (nI (o9 + 1))), (4, .int (nI ((cnt (bot c b) i) + 0))), (3, .int (nI ((cnt (fun x => cov v x) i) + 1))), (9, .int (nI 0)), (8, .int (nI a9)), (7, .int (nI (i / 4))), (6, .int (nI q)), (5, .int (nI i)), (0, .ref (ad 0)), (1, .ref (ad 78)), (2, .ref (ad 79))]) hx hb (dk kL_fits_3_ok 20 rfl) hl (k := 0) rfl (n_inc _) (by decide) rfl (fun ls hl => ?_)
                                    refine lv_goto (tgt := 324) hx hb (dk kL_fits_3_ok 21 rfl) (by decide) ?_
                                    exact ih324 (o9 + 1) _ _ _ hK_15 h79_16 h77_17 h78_18 hP hS (by first | rfl | omega | assumption) (by omega) ls (lv_sub hl [0, 1, 2, 3, 4, 5, 6, 7, 8, 9, 10] rfl)
                                  · skip
                                    refine lv_aload_n hx hb (dk kL_fits_3_ok 12 rfl) rfl (lv_at hl 8 rfl) ?_
                                    refine lv_iload hx hb (dk kL_fits_3_ok 13 rfl) (lv_at hl 0 rfl) ?_
                                    refine lv_iconst (v := nI 3) hx hb (dk kL_fits_3_ok 14 rfl) rfl ?_
                                    refine kw_wink hC hK_15 hN76 hP ht (w := o9) (k := 3) (by omega) (by decide) (lc0 _ (List.mem_of_getElem? (i := 3) rfl)) hl.1 (Nat.le_of_ble_eq_true rfl) ⟨Nat.le_of_ble_eq_true rfl, Nat.le_of_ble_eq_true rfl⟩ (dk kL_fits_3_ok 15 rfl) (r := pls c b o9) rfl ?_
                                    refine lv_iload hx hb (dk kL_fits_3_ok 16 rfl) (lv_at hl 4 rfl) ?_
                                    refine lv_icmp_ne (tgt := 357) hx hb (dk kL_fits_3_ok 17 rfl) (by decide) (fun h39 => ?_) (fun h39 => ?_)
                                    · skip
                                      refine lv_iinc (v := nI (o9 + 1)) (lv' := [(10, .int (nI (o9 + 1))), (4, .int (nI ((cnt (bot c b) i) + 0))), (3, .int (nI ((cnt (fun x => cov v x) i) + 1))), (9, .int (nI 0)), (8, .int (nI a9)), (7, .int (nI (i / 4))), (6, .int (nI q)), (5, .int (nI i)), (0, .ref (ad 0)), (1, .ref (ad 78)), (2, .ref (ad 79))]) hx hb (dk kL_fits_3_ok 20 rfl) hl (k := 0) rfl (n_inc _) (by decide) rfl (fun ls hl => ?_)
                                      refine lv_goto (tgt := 324) hx hb (dk kL_fits_3_ok 21 rfl) (by decide) ?_
                                      exact ih324 (o9 + 1) _ _ _ hK_15 h79_16 h77_17 h78_18 hP hS (by first | rfl | omega | assumption) (by omega) ls (lv_sub hl [0, 1, 2, 3, 4, 5, 6, 7, 8, 9, 10] rfl)
                                    · exact absurd h39 (pl_ne hR hRl h38 (by omega) ha9 (by omega))
                            exact L324 _ 0 _ _ _ hK_10 h79_14 h77_12 h78_13 hP hS (by first | rfl | omega | assumption) (Nat.lt_succ_self _) ls (lv_sub hl [0, 1, 2, 3, 4, 5, 6, 7, 8, 9, 10] rfl)
                          · exact absurd h36 h32
                  · skip
                    refine lv_iconst (v := nI 1) hx hb (dk kL_fits_1_ok 53 rfl) rfl ?_
                    refine lv_goto (tgt := 196) hx hb (dk kL_fits_1_ok 54 rfl) (by decide) ?_
                    refine n_iadd hx hb (dk kL_fits_1_ok 56 rfl) ?_
                    refine lv_istore (lv' := [(4, .int (nI ((cnt (bot c b) i) + 1))), (3, .int (nI ((cnt (fun x => cov v x) i) + 1))), (9, .int (nI 0)), (8, .int (nI a9)), (7, .int (nI (i / 4))), (6, .int (nI q)), (5, .int (nI i)), (0, .ref (ad 0)), (1, .ref (ad 78)), (2, .ref (ad 79))]) hx hb (dk kL_fits_1_ok 57 rfl) hl (by decide) rfl (fun ls hl => ?_)
                    refine lv_aload_n hx hb (dk kL_fits_1_ok 58 rfl) rfl (lv_at hl 9 rfl) ?_
                    refine lv_iload hx hb (dk kL_fits_1_ok 59 rfl) (lv_at hl 4 rfl) ?_
                    refine lv_dup2_11 hx hb (dk kL_fits_2_ok 0 rfl) rfl rfl ?_
                    refine ald (j := (i / 4)) hx hb hK hP (by omega) h79_4 rfl (by omega) (by decide) (dk kL_fits_2_ok 1 rfl) ?_
                    refine lv_iload hx hb (dk kL_fits_2_ok 2 rfl) (lv_at hl 2 rfl) ?_
                    refine n_if_eq (tgt := 223) hx hb (by decide) (dk kL_fits_2_ok 3 rfl) (by decide) ?_ (fun h9 => absurd h9 (by decide))
                    intro _
                    refine lv_iconst (v := nI 0) hx hb (dk kL_fits_2_ok 10 rfl) rfl ?_
                    refine lv_iadd hx hb (dk kL_fits_2_ok 11 rfl) ?_
                    refine ast (va_up F 79 (.inl (cI, 4, .inl (upd (fun k => nI (qk c v k i)) (i / 4) (((fun k => nI (qk c v k i)) (i / 4)) + (nI 0)))))) (k := 79) (j := i / 4) hx hb hC.2.2.2.2.2.1 hDi hP hS (by omega) h79_4 rfl (by omega) (by decide) (dk kL_fits_2_ok 12 rfl) rfl (fun H locs hP hS => ?_)
                    have hK_20 : KW cI cQ ad (va_up F 79 (.inl (cI, 4, .inl (upd (fun k => nI (qk c v k i)) (i / 4) (((fun k => nI (qk c v k i)) (i / 4)) + (nI 0)))))) c b v g h j t u z m9 := KW_fr hK_1 (fun i hi => va_up_ne _ _ (by omega))
                    have h79_21 : va_up F 79 (.inl (cI, 4, .inl (upd (fun k => nI (qk c v k i)) (i / 4) (((fun k => nI (qk c v k i)) (i / 4)) + (nI 0))))) 79 = .inl (cI, 4, .inl (upd (fun k => nI (qk c v k i)) (i / 4) (((fun k => nI (qk c v k i)) (i / 4)) + (nI 0)))) := va_up_self _ _ _
                    have h77_22 : va_up F 79 (.inl (cI, 4, .inl (upd (fun k => nI (qk c v k i)) (i / 4) (((fun k => nI (qk c v k i)) (i / 4)) + (nI 0))))) 77 = .inl (cI, 4, .inl lo) := (va_up_ne _ _ (by decide)).trans h77_2
                    have h78_23 : va_up F 79 (.inl (cI, 4, .inl (upd (fun k => nI (qk c v k i)) (i / 4) (((fun k => nI (qk c v k i)) (i / 4)) + (nI 0))))) 78 = .inl (cI, 4, .inl (fun k => nI (pk c k i))) := (va_up_ne _ _ (by decide)).trans h78_3
                    generalize va_up F 79 (.inl (cI, 4, .inl (upd (fun k => nI (qk c v k i)) (i / 4) (((fun k => nI (qk c v k i)) (i / 4)) + (nI 0))))) = F_19 at hP hK_20 h79_21 h77_22 h78_23
                    have h79_24 : F_19 79 = .inl (cI, 4, .inl (fun k => nI (qk c v k (i + 1)))) := by rw [h79_21]; exact congrArg (fun q => va_E9 cI 4 q) (qk_s (ptx_0 h30 (hcv.trans (decide_eq_true (by omega)))))
                    refine lv_iload hx hb (dk kL_fits_2_ok 13 rfl) (lv_at hl 5 rfl) ?_
                    refine lv_bipush (v := nI 84) hx hb (dk kL_fits_2_ok 14 rfl) rfl ?_
                    refine n_icmp_eq (tgt := 319) hx hb (by omega) (by decide) (dk kL_fits_2_ok 15 rfl) (by decide) (fun h40 => ?_) (fun h40 => ?_)
                    · exact absurd h40 hq84
                    · skip
                      refine lv_iload hx hb (dk kL_fits_2_ok 16 rfl) (lv_at hl 3 rfl) ?_
                      refine n_if_lt (tgt := 319) hx hb (by omega) (dk kL_fits_2_ok 17 rfl) (by decide) ?_
                      refine lv_iload hx hb (dk kL_fits_2_ok 18 rfl) (lv_at hl 3 rfl) ?_
                      refine lv_aload_n hx hb (dk kL_fits_2_ok 19 rfl) rfl (lv_at hl 7 rfl) ?_
                      refine lv_iload hx hb (dk kL_fits_2_ok 20 rfl) (lv_at hl 5 rfl) ?_
                      refine csR (As := [.ref (ad 0), .int (nI q)]) (r := .int (nI (Np q))) (rest := [.int (nI a9)]) ⟨hC.1, hC.2.1, hC.2.2.1, hC.2.2.2.1, hC.2.2.2.2.1⟩ (tL_manyN l D cI cQ cL ad 80 F_19 hN76 hK_20 (q := q) (n := Np q) (by omega) (hhq)) (cwSL 2 hC.2.2.2.2.1 mcL_many (lc0 _ (List.mem_of_getElem? (i := 6) rfl)) msL_many mini_RL rfl rfl hdL_many ⟨Nat.le_of_ble_eq_true rfl, Nat.le_of_ble_eq_true rfl⟩) hC.2.2.2.2.2.1 hP hC.2.2.2.2.2.2.1 rfl hl.1 rfl (Nat.le_of_ble_eq_true rfl) ⟨Nat.le_of_ble_eq_true rfl, Nat.le_of_ble_eq_true rfl⟩ (dk kL_fits_2_ok 21 rfl) ?_
                      refine n_icmp_ge (tgt := 319) hx hb (by omega) (by omega) (dk kL_fits_2_ok 22 rfl) (by decide) (fun h41 => ?_) (fun h41 => ?_)
                      · exact absurd h41 (by omega)
                      · skip
                        refine lv_aload_n hx hb (dk kL_fits_2_ok 23 rfl) rfl (lv_at hl 7 rfl) ?_
                        refine lv_iload hx hb (dk kL_fits_2_ok 24 rfl) (lv_at hl 6 rfl) ?_
                        refine lv_iconst (v := nI 4) hx hb (dk kL_fits_2_ok 25 rfl) rfl ?_
                        refine kw_wink hC hK_20 hN76 hP ht (w := i) (k := 4) (by omega) (by decide) (lc0 _ (List.mem_of_getElem? (i := 3) rfl)) hl.1 (Nat.le_of_ble_eq_true rfl) ⟨Nat.le_of_ble_eq_true rfl, Nat.le_of_ble_eq_true rfl⟩ (dk kL_fits_2_ok 26 rfl) (r := bI (cov v i)) rfl ?_
                        refine lv_iload hx hb (dk kL_fits_2_ok 27 rfl) (lv_at hl 2 rfl) ?_
                        refine n_if_eq (tgt := 265) hx hb (by decide) (dk kL_fits_2_ok 28 rfl) (by decide) ?_ (fun h9 => absurd h9 (by decide))
                        intro _
                        refine lv_iconst (v := nI 1) hx hb (dk kL_fits_2_ok 31 rfl) rfl ?_
                        refine lv_icmp_ne (tgt := 319) hx hb (dk kL_fits_2_ok 32 rfl) (by decide) (fun h42 => ?_) (fun h42 => ?_)
                        · exact absurd (bI_t (hcv.trans (decide_eq_true (by omega)))) h42
                        · skip
                          refine lv_iload hx hb (dk kL_fits_2_ok 33 rfl) (lv_at hl 2 rfl) ?_
                          refine n_if_eq (tgt := 294) hx hb (by decide) (dk kL_fits_2_ok 34 rfl) (by decide) ?_ (fun h9 => absurd h9 (by decide))
                          intro _
                          refine lv_iload hx hb (dk kL_fits_2_ok 46 rfl) (lv_at hl 3 rfl) ?_
                          refine n_if_ne (tgt := 321) hx hb (by omega) (dk kL_fits_2_ok 47 rfl) (by decide) (fun h43 => ?_) (fun h43 => ?_)
                          · exact absurd h32 h43
                          · skip
                            refine lv_aload_n hx hb (dk kL_fits_2_ok 48 rfl) rfl (lv_at hl 7 rfl) ?_
                            refine lv_iload hx hb (dk kL_fits_2_ok 49 rfl) (lv_at hl 5 rfl) ?_
                            refine lv_bipush (v := nI 13) hx hb (dk kL_fits_2_ok 50 rfl) rfl ?_
                            refine n_irem hx hb (by omega) (by decide) (by decide) (dk kL_fits_2_ok 51 rfl) ?_
                            refine lv_iload hx hb (dk kL_fits_2_ok 52 rfl) (lv_at hl 5 rfl) ?_
                            refine lv_bipush (v := nI 13) hx hb (dk kL_fits_2_ok 53 rfl) rfl ?_
                            refine n_idiv hx hb (by omega) (by decide) (by decide) (dk kL_fits_2_ok 54 rfl) ?_
                            refine lv_iconst (v := nI 2) hx hb (dk kL_fits_2_ok 55 rfl) rfl ?_
                            refine kw_pile hC hK_20 hN76 hP (q := q) (by omega) (k := 2) (by decide) (lc0 _ (List.mem_of_getElem? (i := 2) rfl)) hl.1 (Nat.le_of_ble_eq_true rfl) ⟨Nat.le_of_ble_eq_true rfl, Nat.le_of_ble_eq_true rfl⟩ (dk kL_fits_2_ok 56 rfl) (r := nI i) (by rw [cat_q]; show top c b (nI q) = nI i; rw [hRl.topb hR (by omega), if_neg (by omega), ← hWq, h43]) ?_
                            refine lv_iload hx hb (dk kL_fits_2_ok 57 rfl) (lv_at hl 6 rfl) ?_
                            refine n_icmp_eq (tgt := 321) hx hb (by omega) (by omega) (dk kL_fits_2_ok 58 rfl) (by decide) (fun h44 => ?_) (fun h44 => ?_)
                            · skip
                              have hz9 : a9 = 0 := h43
                              have hi16 : i < 16 := by omega
                              refine lv_iconst (v := nI 0) hx hb (dk kL_fits_3_ok 1 rfl) rfl ?_
                              refine lv_istore (lv' := [(10, .int (nI 0)), (4, .int (nI ((cnt (bot c b) i) + 1))), (3, .int (nI ((cnt (fun x => cov v x) i) + 1))), (9, .int (nI 0)), (8, .int (nI a9)), (7, .int (nI (i / 4))), (6, .int (nI q)), (5, .int (nI i)), (0, .ref (ad 0)), (1, .ref (ad 78)), (2, .ref (ad 79))]) hx hb (dk kL_fits_3_ok 2 rfl) hl (by decide) rfl (fun ls hl => ?_)
                              have L324 : ∀ (fu : Nat) (o9 : Nat) (F : Nat → va_E) (H : Heap) (locs : List Loc), KW cI cQ ad F c b v g h j t u z m9 → F 79 = .inl (cI, 4, .inl (fun k => nI (qk c v k (i + 1)))) → F 77 = .inl (cI, 4, .inl lo) → F 78 = .inl (cI, 4, .inl (fun k => nI (pk c k i))) → va_P D vwCl (iW ad 80 F) H → va_S (iA ad 80 s.heap.size) s.heap H locs → (o9 ≤ i) → i - o9 < fu → ∀ ls : Array Slot, lv_has ls 11 [(10, .int (nI o9)), (4, .int (nI ((cnt (bot c b) i) + 1))), (3, .int (nI ((cnt (fun x => cov v x) i) + 1))), (9, .int (nI 0)), (8, .int (nI a9)), (7, .int (nI (i / 4))), (6, .int (nI q)), (5, .int (nI i)), (0, .ref (ad 0)), (1, .ref (ad 78)), (2, .ref (ad 79))] → W p l e ({ frames := 11, cells := 2, slots := 8, locals := 400 } : Room) s m AR below meth cd H locs 2 8 Q (F0 m 324 ls []) := by
                                intro fu
                                induction fu with
                                | zero => intros; omega
                                | succ fu ih324 =>
                                  intro o9 F H locs hK_25 h79_26 h77_27 h78_28 hP hS ho9 hme324 ls hl
                                  refine lv_iload hx hb (dk kL_fits_3_ok 3 rfl) (lv_at hl 0 rfl) ?_
                                  refine lv_iload hx hb (dk kL_fits_3_ok 4 rfl) (lv_at hl 7 rfl) ?_
                                  refine n_icmp_ge (tgt := 363) hx hb (by omega) (by omega) (dk kL_fits_3_ok 5 rfl) (by decide) (fun h45 => ?_) (fun h45 => ?_)
                                  · skip
                                    refine lv_iinc (v := nI (i + 1)) (lv' := [(5, .int (nI (i + 1))), (10, .int (nI o9)), (4, .int (nI ((cnt (bot c b) i) + 1))), (3, .int (nI ((cnt (fun x => cov v x) i) + 1))), (9, .int (nI 0)), (8, .int (nI a9)), (7, .int (nI (i / 4))), (6, .int (nI q)), (0, .ref (ad 0)), (1, .ref (ad 78)), (2, .ref (ad 79))]) hx hb (dk kL_fits_3_ok 22 rfl) hl (k := 7) rfl (n_inc _) (by decide) rfl (fun ls hl => ?_)
                                    refine lv_goto (tgt := 16) hx hb (dk kL_fits_3_ok 23 rfl) (by decide) ?_
                                    exact ih16 (i + 1) _ _ _ _ _ hK_25 h77_27 (by rw [← pk_n hpf]; exact h78_28) h79_26 hP hS (by rw [cn_t (hbt.trans (decide_eq_true hz9))]) (by rw [cn_t (p := fun x => cov v x) (hcv.trans (decide_eq_true (by omega)))]) (by first | rfl | omega | assumption) (by omega) ls (lv_sub hl [0, 2, 3, 8, 9, 10] rfl)
                                  · skip
                                    refine lv_aload_n hx hb (dk kL_fits_3_ok 6 rfl) rfl (lv_at hl 8 rfl) ?_
                                    refine lv_iload hx hb (dk kL_fits_3_ok 7 rfl) (lv_at hl 0 rfl) ?_
                                    refine lv_iconst (v := nI 2) hx hb (dk kL_fits_3_ok 8 rfl) rfl ?_
                                    refine kw_wink hC hK_25 hN76 hP ht (w := o9) (k := 2) (by omega) (by decide) (lc0 _ (List.mem_of_getElem? (i := 3) rfl)) hl.1 (Nat.le_of_ble_eq_true rfl) ⟨Nat.le_of_ble_eq_true rfl, Nat.le_of_ble_eq_true rfl⟩ (dk kL_fits_3_ok 9 rfl) (r := c o9) rfl ?_
                                    refine lv_iload hx hb (dk kL_fits_3_ok 10 rfl) (lv_at hl 6 rfl) ?_
                                    refine lv_icmp_ne (tgt := 357) hx hb (dk kL_fits_3_ok 11 rfl) (by decide) (fun h46 => ?_) (fun h46 => ?_)
                                    · skip
                                      refine lv_iinc (v := nI (o9 + 1)) (lv' := [(10, .int (nI (o9 + 1))), (4, .int (nI ((cnt (bot c b) i) + 1))), (3, .int (nI ((cnt (fun x => cov v x) i) + 1))), (9, .int (nI 0)), (8, .int (nI a9)), (7, .int (nI (i / 4))), (6, .int (nI q)), (5, .int (nI i)), (0, .ref (ad 0)), (1, .ref (ad 78)), (2, .ref (ad 79))]) hx hb (dk kL_fits_3_ok 20 rfl) hl (k := 0) rfl (n_inc _) (by decide) rfl (fun ls hl => ?_)
                                      refine lv_goto (tgt := 324) hx hb (dk kL_fits_3_ok 21 rfl) (by decide) ?_
                                      exact ih324 (o9 + 1) _ _ _ hK_25 h79_26 h77_27 h78_28 hP hS (by first | rfl | omega | assumption) (by omega) ls (lv_sub hl [0, 1, 2, 3, 4, 5, 6, 7, 8, 9, 10] rfl)
                                    · skip
                                      refine lv_aload_n hx hb (dk kL_fits_3_ok 12 rfl) rfl (lv_at hl 8 rfl) ?_
                                      refine lv_iload hx hb (dk kL_fits_3_ok 13 rfl) (lv_at hl 0 rfl) ?_
                                      refine lv_iconst (v := nI 3) hx hb (dk kL_fits_3_ok 14 rfl) rfl ?_
                                      refine kw_wink hC hK_25 hN76 hP ht (w := o9) (k := 3) (by omega) (by decide) (lc0 _ (List.mem_of_getElem? (i := 3) rfl)) hl.1 (Nat.le_of_ble_eq_true rfl) ⟨Nat.le_of_ble_eq_true rfl, Nat.le_of_ble_eq_true rfl⟩ (dk kL_fits_3_ok 15 rfl) (r := pls c b o9) rfl ?_
                                      refine lv_iload hx hb (dk kL_fits_3_ok 16 rfl) (lv_at hl 4 rfl) ?_
                                      refine lv_icmp_ne (tgt := 357) hx hb (dk kL_fits_3_ok 17 rfl) (by decide) (fun h47 => ?_) (fun h47 => ?_)
                                      · skip
                                        refine lv_iinc (v := nI (o9 + 1)) (lv' := [(10, .int (nI (o9 + 1))), (4, .int (nI ((cnt (bot c b) i) + 1))), (3, .int (nI ((cnt (fun x => cov v x) i) + 1))), (9, .int (nI 0)), (8, .int (nI a9)), (7, .int (nI (i / 4))), (6, .int (nI q)), (5, .int (nI i)), (0, .ref (ad 0)), (1, .ref (ad 78)), (2, .ref (ad 79))]) hx hb (dk kL_fits_3_ok 20 rfl) hl (k := 0) rfl (n_inc _) (by decide) rfl (fun ls hl => ?_)
                                        refine lv_goto (tgt := 324) hx hb (dk kL_fits_3_ok 21 rfl) (by decide) ?_
                                        exact ih324 (o9 + 1) _ _ _ hK_25 h79_26 h77_27 h78_28 hP hS (by first | rfl | omega | assumption) (by omega) ls (lv_sub hl [0, 1, 2, 3, 4, 5, 6, 7, 8, 9, 10] rfl)
                                      · exact absurd h47 (pl_ne hR hRl h46 (by omega) ha9 (by omega))
                              exact L324 _ 0 _ _ _ hK_20 h79_24 h77_22 h78_23 hP hS (by first | rfl | omega | assumption) (Nat.lt_succ_self _) ls (lv_sub hl [0, 1, 2, 3, 4, 5, 6, 7, 8, 9, 10] rfl)
                            · exact absurd rfl h44
                · skip
                  refine lv_iconst (v := nI 1) hx hb (dk kL_fits_1_ok 38 rfl) rfl ?_
                  refine lv_goto (tgt := 169) hx hb (dk kL_fits_1_ok 39 rfl) (by decide) ?_
                  refine lv_istore (lv' := [(9, .int (nI 1)), (8, .int (nI a9)), (7, .int (nI (i / 4))), (6, .int (nI q)), (5, .int (nI i)), (4, .int (nI (cnt (bot c b) i))), (3, .int (nI (cnt (fun x => cov v x) i))), (0, .ref (ad 0)), (1, .ref (ad 78)), (2, .ref (ad 79))]) hx hb (dk kL_fits_1_ok 41 rfl) hl (by decide) rfl (fun ls hl => ?_)
                  refine lv_iload_n hx hb (dk kL_fits_1_ok 42 rfl) rfl (lv_at hl 6 rfl) ?_
                  refine lv_iload hx hb (dk kL_fits_1_ok 43 rfl) (lv_at hl 0 rfl) ?_
                  refine n_if_eq (tgt := 181) hx hb (by decide) (dk kL_fits_1_ok 44 rfl) (by decide) (fun h9 => absurd h9 (by decide)) ?_
                  intro _
                  refine lv_iconst (v := nI 0) hx hb (dk kL_fits_1_ok 45 rfl) rfl ?_
                  refine lv_goto (tgt := 182) hx hb (dk kL_fits_1_ok 46 rfl) (by decide) ?_
                  refine n_iadd hx hb (dk kL_fits_1_ok 48 rfl) ?_
                  refine lv_istore_n (lv' := [(3, .int (nI ((cnt (fun x => cov v x) i) + 0))), (9, .int (nI 1)), (8, .int (nI a9)), (7, .int (nI (i / 4))), (6, .int (nI q)), (5, .int (nI i)), (4, .int (nI (cnt (bot c b) i))), (0, .ref (ad 0)), (1, .ref (ad 78)), (2, .ref (ad 79))]) hx hb (dk kL_fits_1_ok 49 rfl) rfl hl (by decide) rfl (fun ls hl => ?_)
                  refine lv_iload hx hb (dk kL_fits_1_ok 50 rfl) (lv_at hl 6 rfl) ?_
                  refine lv_iload hx hb (dk kL_fits_1_ok 51 rfl) (lv_at hl 2 rfl) ?_
                  refine n_if_ne (tgt := 195) hx hb (by omega) (dk kL_fits_1_ok 52 rfl) (by decide) (fun h48 => ?_) (fun h48 => ?_)
                  · skip
                    refine lv_iconst (v := nI 0) hx hb (dk kL_fits_1_ok 55 rfl) rfl ?_
                    refine n_iadd hx hb (dk kL_fits_1_ok 56 rfl) ?_
                    refine lv_istore (lv' := [(4, .int (nI ((cnt (bot c b) i) + 0))), (3, .int (nI ((cnt (fun x => cov v x) i) + 0))), (9, .int (nI 1)), (8, .int (nI a9)), (7, .int (nI (i / 4))), (6, .int (nI q)), (5, .int (nI i)), (0, .ref (ad 0)), (1, .ref (ad 78)), (2, .ref (ad 79))]) hx hb (dk kL_fits_1_ok 57 rfl) hl (by decide) rfl (fun ls hl => ?_)
                    refine lv_aload_n hx hb (dk kL_fits_1_ok 58 rfl) rfl (lv_at hl 9 rfl) ?_
                    refine lv_iload hx hb (dk kL_fits_1_ok 59 rfl) (lv_at hl 4 rfl) ?_
                    refine lv_dup2_11 hx hb (dk kL_fits_2_ok 0 rfl) rfl rfl ?_
                    refine ald (j := (i / 4)) hx hb hK hP (by omega) h79_4 rfl (by omega) (by decide) (dk kL_fits_2_ok 1 rfl) ?_
                    refine lv_iload hx hb (dk kL_fits_2_ok 2 rfl) (lv_at hl 2 rfl) ?_
                    refine n_if_eq (tgt := 223) hx hb (by decide) (dk kL_fits_2_ok 3 rfl) (by decide) (fun h9 => absurd h9 (by decide)) ?_
                    intro _
                    refine lv_iload hx hb (dk kL_fits_2_ok 4 rfl) (lv_at hl 5 rfl) ?_
                    refine lv_iload hx hb (dk kL_fits_2_ok 5 rfl) (lv_at hl 4 rfl) ?_
                    refine csP (As := [.int (nI (i / 4))]) (rest := [.int (nI q), .int ((fun k => nI (qk c v k i)) (i / 4)), .int (nI (i / 4)), .ref (ad 79)]) ⟨hC.1, hC.2.1, hC.2.2.1, hC.2.2.2.1, hC.2.2.2.2.1⟩ (tL_base l (w := i / 4) (by omega)) (cwSL 1 hC.2.2.2.2.1 mcL_base (lc0 _ (List.mem_of_getElem? (i := 10) rfl)) msL_base mini_RL rfl rfl hdL_base ⟨Nat.le_of_ble_eq_true rfl, Nat.le_of_ble_eq_true rfl⟩) rfl hl.1 rfl (Nat.le_of_ble_eq_true rfl) ⟨Nat.le_of_ble_eq_true rfl, Nat.le_of_ble_eq_true rfl⟩ (dk kL_fits_2_ok 6 rfl) ?_
                    refine n_icmp_eq (tgt := 223) hx hb (by omega) (by omega) (dk kL_fits_2_ok 7 rfl) (by decide) (fun h49 => ?_) (fun h49 => ?_)
                    · skip
                      refine lv_iconst (v := nI 0) hx hb (dk kL_fits_2_ok 10 rfl) rfl ?_
                      refine lv_iadd hx hb (dk kL_fits_2_ok 11 rfl) ?_
                      refine ast (va_up F 79 (.inl (cI, 4, .inl (upd (fun k => nI (qk c v k i)) (i / 4) (((fun k => nI (qk c v k i)) (i / 4)) + (nI 0)))))) (k := 79) (j := i / 4) hx hb hC.2.2.2.2.2.1 hDi hP hS (by omega) h79_4 rfl (by omega) (by decide) (dk kL_fits_2_ok 12 rfl) rfl (fun H locs hP hS => ?_)
                      have hK_30 : KW cI cQ ad (va_up F 79 (.inl (cI, 4, .inl (upd (fun k => nI (qk c v k i)) (i / 4) (((fun k => nI (qk c v k i)) (i / 4)) + (nI 0)))))) c b v g h j t u z m9 := KW_fr hK_1 (fun i hi => va_up_ne _ _ (by omega))
                      have h79_31 : va_up F 79 (.inl (cI, 4, .inl (upd (fun k => nI (qk c v k i)) (i / 4) (((fun k => nI (qk c v k i)) (i / 4)) + (nI 0))))) 79 = .inl (cI, 4, .inl (upd (fun k => nI (qk c v k i)) (i / 4) (((fun k => nI (qk c v k i)) (i / 4)) + (nI 0)))) := va_up_self _ _ _
                      have h77_32 : va_up F 79 (.inl (cI, 4, .inl (upd (fun k => nI (qk c v k i)) (i / 4) (((fun k => nI (qk c v k i)) (i / 4)) + (nI 0))))) 77 = .inl (cI, 4, .inl lo) := (va_up_ne _ _ (by decide)).trans h77_2
                      have h78_33 : va_up F 79 (.inl (cI, 4, .inl (upd (fun k => nI (qk c v k i)) (i / 4) (((fun k => nI (qk c v k i)) (i / 4)) + (nI 0))))) 78 = .inl (cI, 4, .inl (fun k => nI (pk c k i))) := (va_up_ne _ _ (by decide)).trans h78_3
                      generalize va_up F 79 (.inl (cI, 4, .inl (upd (fun k => nI (qk c v k i)) (i / 4) (((fun k => nI (qk c v k i)) (i / 4)) + (nI 0))))) = F_29 at hP hK_30 h79_31 h77_32 h78_33
                      have h79_34 : F_29 79 = .inl (cI, 4, .inl (fun k => nI (qk c v k (i + 1)))) := by rw [h79_31]; exact congrArg (fun q => va_E9 cI 4 q) (qk_s (ptx_b h30 (hcv.trans (decide_eq_false (by omega))) (by rw [hcq, h49])))
                      refine lv_iload hx hb (dk kL_fits_2_ok 13 rfl) (lv_at hl 5 rfl) ?_
                      refine lv_bipush (v := nI 84) hx hb (dk kL_fits_2_ok 14 rfl) rfl ?_
                      refine n_icmp_eq (tgt := 319) hx hb (by omega) (by decide) (dk kL_fits_2_ok 15 rfl) (by decide) (fun h50 => ?_) (fun h50 => ?_)
                      · exact absurd h50 hq84
                      · skip
                        refine lv_iload hx hb (dk kL_fits_2_ok 16 rfl) (lv_at hl 3 rfl) ?_
                        refine n_if_lt (tgt := 319) hx hb (by omega) (dk kL_fits_2_ok 17 rfl) (by decide) ?_
                        refine lv_iload hx hb (dk kL_fits_2_ok 18 rfl) (lv_at hl 3 rfl) ?_
                        refine lv_aload_n hx hb (dk kL_fits_2_ok 19 rfl) rfl (lv_at hl 7 rfl) ?_
                        refine lv_iload hx hb (dk kL_fits_2_ok 20 rfl) (lv_at hl 5 rfl) ?_
                        refine csR (As := [.ref (ad 0), .int (nI q)]) (r := .int (nI (Np q))) (rest := [.int (nI a9)]) ⟨hC.1, hC.2.1, hC.2.2.1, hC.2.2.2.1, hC.2.2.2.2.1⟩ (tL_manyN l D cI cQ cL ad 80 F_29 hN76 hK_30 (q := q) (n := Np q) (by omega) (hhq)) (cwSL 2 hC.2.2.2.2.1 mcL_many (lc0 _ (List.mem_of_getElem? (i := 6) rfl)) msL_many mini_RL rfl rfl hdL_many ⟨Nat.le_of_ble_eq_true rfl, Nat.le_of_ble_eq_true rfl⟩) hC.2.2.2.2.2.1 hP hC.2.2.2.2.2.2.1 rfl hl.1 rfl (Nat.le_of_ble_eq_true rfl) ⟨Nat.le_of_ble_eq_true rfl, Nat.le_of_ble_eq_true rfl⟩ (dk kL_fits_2_ok 21 rfl) ?_
                        refine n_icmp_ge (tgt := 319) hx hb (by omega) (by omega) (dk kL_fits_2_ok 22 rfl) (by decide) (fun h51 => ?_) (fun h51 => ?_)
                        · exact absurd h51 (by omega)
                        · skip
                          refine lv_aload_n hx hb (dk kL_fits_2_ok 23 rfl) rfl (lv_at hl 7 rfl) ?_
                          refine lv_iload hx hb (dk kL_fits_2_ok 24 rfl) (lv_at hl 6 rfl) ?_
                          refine lv_iconst (v := nI 4) hx hb (dk kL_fits_2_ok 25 rfl) rfl ?_
                          refine kw_wink hC hK_30 hN76 hP ht (w := i) (k := 4) (by omega) (by decide) (lc0 _ (List.mem_of_getElem? (i := 3) rfl)) hl.1 (Nat.le_of_ble_eq_true rfl) ⟨Nat.le_of_ble_eq_true rfl, Nat.le_of_ble_eq_true rfl⟩ (dk kL_fits_2_ok 26 rfl) (r := bI (cov v i)) rfl ?_
                          refine lv_iload hx hb (dk kL_fits_2_ok 27 rfl) (lv_at hl 2 rfl) ?_
                          refine n_if_eq (tgt := 265) hx hb (by decide) (dk kL_fits_2_ok 28 rfl) (by decide) (fun h9 => absurd h9 (by decide)) ?_
                          intro _
                          refine lv_iconst (v := nI 0) hx hb (dk kL_fits_2_ok 29 rfl) rfl ?_
                          refine lv_goto (tgt := 266) hx hb (dk kL_fits_2_ok 30 rfl) (by decide) ?_
                          refine lv_icmp_ne (tgt := 319) hx hb (dk kL_fits_2_ok 32 rfl) (by decide) (fun h52 => ?_) (fun h52 => ?_)
                          · exact absurd (bI_f (hcv.trans (decide_eq_false (by omega)))) h52
                          · skip
                            refine lv_iload hx hb (dk kL_fits_2_ok 33 rfl) (lv_at hl 2 rfl) ?_
                            refine n_if_eq (tgt := 294) hx hb (by decide) (dk kL_fits_2_ok 34 rfl) (by decide) (fun h9 => absurd h9 (by decide)) ?_
                            intro _
                            refine lv_aload_n hx hb (dk kL_fits_2_ok 35 rfl) rfl (lv_at hl 7 rfl) ?_
                            refine lv_iload hx hb (dk kL_fits_2_ok 36 rfl) (lv_at hl 5 rfl) ?_
                            refine lv_bipush (v := nI 13) hx hb (dk kL_fits_2_ok 37 rfl) rfl ?_
                            refine n_irem hx hb (by omega) (by decide) (by decide) (dk kL_fits_2_ok 38 rfl) ?_
                            refine lv_iload hx hb (dk kL_fits_2_ok 39 rfl) (lv_at hl 5 rfl) ?_
                            refine lv_bipush (v := nI 13) hx hb (dk kL_fits_2_ok 40 rfl) rfl ?_
                            refine n_idiv hx hb (by omega) (by decide) (by decide) (dk kL_fits_2_ok 41 rfl) ?_
                            refine lv_iconst (v := nI 1) hx hb (dk kL_fits_2_ok 42 rfl) rfl ?_
                            refine kw_pile hC hK_30 hN76 hP (q := q) (by omega) (k := 1) (by decide) (lc0 _ (List.mem_of_getElem? (i := 2) rfl)) hl.1 (Nat.le_of_ble_eq_true rfl) ⟨Nat.le_of_ble_eq_true rfl, Nat.le_of_ble_eq_true rfl⟩ (dk kL_fits_2_ok 43 rfl) (r := nI i) (by rw [cat_q]; show top c v (nI q) = nI i; rw [hRl.topv hR (by omega), if_neg (by omega), show Np q - 1 = a9 by omega, hWq]) ?_
                            refine lv_iload hx hb (dk kL_fits_2_ok 44 rfl) (lv_at hl 6 rfl) ?_
                            refine n_icmp_ne (tgt := 319) hx hb (by omega) (by omega) (dk kL_fits_2_ok 45 rfl) (by decide) (fun h53 => ?_) (fun h53 => ?_)
                            · exact absurd rfl h53
                            · skip
                              refine lv_iload hx hb (dk kL_fits_2_ok 46 rfl) (lv_at hl 3 rfl) ?_
                              refine n_if_ne (tgt := 321) hx hb (by omega) (dk kL_fits_2_ok 47 rfl) (by decide) (fun h54 => ?_) (fun h54 => ?_)
                              · skip
                                have hz9 : ¬ a9 = 0 := h54
                                have hi16 : i < 16 := by omega
                                refine lv_iconst (v := nI 0) hx hb (dk kL_fits_3_ok 1 rfl) rfl ?_
                                refine lv_istore (lv' := [(10, .int (nI 0)), (4, .int (nI ((cnt (bot c b) i) + 0))), (3, .int (nI ((cnt (fun x => cov v x) i) + 0))), (9, .int (nI 1)), (8, .int (nI a9)), (7, .int (nI (i / 4))), (6, .int (nI q)), (5, .int (nI i)), (0, .ref (ad 0)), (1, .ref (ad 78)), (2, .ref (ad 79))]) hx hb (dk kL_fits_3_ok 2 rfl) hl (by decide) rfl (fun ls hl => ?_)
                                have L324 : ∀ (fu : Nat) (o9 : Nat) (F : Nat → va_E) (H : Heap) (locs : List Loc), KW cI cQ ad F c b v g h j t u z m9 → F 79 = .inl (cI, 4, .inl (fun k => nI (qk c v k (i + 1)))) → F 77 = .inl (cI, 4, .inl lo) → F 78 = .inl (cI, 4, .inl (fun k => nI (pk c k i))) → va_P D vwCl (iW ad 80 F) H → va_S (iA ad 80 s.heap.size) s.heap H locs → (o9 ≤ i) → i - o9 < fu → ∀ ls : Array Slot, lv_has ls 11 [(10, .int (nI o9)), (4, .int (nI ((cnt (bot c b) i) + 0))), (3, .int (nI ((cnt (fun x => cov v x) i) + 0))), (9, .int (nI 1)), (8, .int (nI a9)), (7, .int (nI (i / 4))), (6, .int (nI q)), (5, .int (nI i)), (0, .ref (ad 0)), (1, .ref (ad 78)), (2, .ref (ad 79))] → W p l e ({ frames := 11, cells := 2, slots := 8, locals := 400 } : Room) s m AR below meth cd H locs 2 8 Q (F0 m 324 ls []) := by
                                  intro fu
                                  induction fu with
                                  | zero => intros; omega
                                  | succ fu ih324 =>
                                    intro o9 F H locs hK_35 h79_36 h77_37 h78_38 hP hS ho9 hme324 ls hl
                                    refine lv_iload hx hb (dk kL_fits_3_ok 3 rfl) (lv_at hl 0 rfl) ?_
                                    refine lv_iload hx hb (dk kL_fits_3_ok 4 rfl) (lv_at hl 7 rfl) ?_
                                    refine n_icmp_ge (tgt := 363) hx hb (by omega) (by omega) (dk kL_fits_3_ok 5 rfl) (by decide) (fun h55 => ?_) (fun h55 => ?_)
                                    · skip
                                      refine lv_iinc (v := nI (i + 1)) (lv' := [(5, .int (nI (i + 1))), (10, .int (nI o9)), (4, .int (nI ((cnt (bot c b) i) + 0))), (3, .int (nI ((cnt (fun x => cov v x) i) + 0))), (9, .int (nI 1)), (8, .int (nI a9)), (7, .int (nI (i / 4))), (6, .int (nI q)), (0, .ref (ad 0)), (1, .ref (ad 78)), (2, .ref (ad 79))]) hx hb (dk kL_fits_3_ok 22 rfl) hl (k := 7) rfl (n_inc _) (by decide) rfl (fun ls hl => ?_)
                                      refine lv_goto (tgt := 16) hx hb (dk kL_fits_3_ok 23 rfl) (by decide) ?_
                                      exact ih16 (i + 1) _ _ _ _ _ hK_35 h77_37 (by rw [← pk_n hpf]; exact h78_38) h79_36 hP hS (by rw [cn_f (hbt.trans (decide_eq_false hz9)), Nat.add_zero]) (by rw [cn_f (p := fun x => cov v x) (hcv.trans (decide_eq_false (by omega))), Nat.add_zero]) (by first | rfl | omega | assumption) (by omega) ls (lv_sub hl [0, 2, 3, 8, 9, 10] rfl)
                                    · skip
                                      refine lv_aload_n hx hb (dk kL_fits_3_ok 6 rfl) rfl (lv_at hl 8 rfl) ?_
                                      refine lv_iload hx hb (dk kL_fits_3_ok 7 rfl) (lv_at hl 0 rfl) ?_
                                      refine lv_iconst (v := nI 2) hx hb (dk kL_fits_3_ok 8 rfl) rfl ?_
                                      refine kw_wink hC hK_35 hN76 hP ht (w := o9) (k := 2) (by omega) (by decide) (lc0 _ (List.mem_of_getElem? (i := 3) rfl)) hl.1 (Nat.le_of_ble_eq_true rfl) ⟨Nat.le_of_ble_eq_true rfl, Nat.le_of_ble_eq_true rfl⟩ (dk kL_fits_3_ok 9 rfl) (r := c o9) rfl ?_
                                      refine lv_iload hx hb (dk kL_fits_3_ok 10 rfl) (lv_at hl 6 rfl) ?_
                                      refine lv_icmp_ne (tgt := 357) hx hb (dk kL_fits_3_ok 11 rfl) (by decide) (fun h56 => ?_) (fun h56 => ?_)
                                      · skip
                                        refine lv_iinc (v := nI (o9 + 1)) (lv' := [(10, .int (nI (o9 + 1))), (4, .int (nI ((cnt (bot c b) i) + 0))), (3, .int (nI ((cnt (fun x => cov v x) i) + 0))), (9, .int (nI 1)), (8, .int (nI a9)), (7, .int (nI (i / 4))), (6, .int (nI q)), (5, .int (nI i)), (0, .ref (ad 0)), (1, .ref (ad 78)), (2, .ref (ad 79))]) hx hb (dk kL_fits_3_ok 20 rfl) hl (k := 0) rfl (n_inc _) (by decide) rfl (fun ls hl => ?_)
                                        refine lv_goto (tgt := 324) hx hb (dk kL_fits_3_ok 21 rfl) (by decide) ?_
                                        exact ih324 (o9 + 1) _ _ _ hK_35 h79_36 h77_37 h78_38 hP hS (by first | rfl | omega | assumption) (by omega) ls (lv_sub hl [0, 1, 2, 3, 4, 5, 6, 7, 8, 9, 10] rfl)
                                      · skip
                                        refine lv_aload_n hx hb (dk kL_fits_3_ok 12 rfl) rfl (lv_at hl 8 rfl) ?_
                                        refine lv_iload hx hb (dk kL_fits_3_ok 13 rfl) (lv_at hl 0 rfl) ?_
                                        refine lv_iconst (v := nI 3) hx hb (dk kL_fits_3_ok 14 rfl) rfl ?_
                                        refine kw_wink hC hK_35 hN76 hP ht (w := o9) (k := 3) (by omega) (by decide) (lc0 _ (List.mem_of_getElem? (i := 3) rfl)) hl.1 (Nat.le_of_ble_eq_true rfl) ⟨Nat.le_of_ble_eq_true rfl, Nat.le_of_ble_eq_true rfl⟩ (dk kL_fits_3_ok 15 rfl) (r := pls c b o9) rfl ?_
                                        refine lv_iload hx hb (dk kL_fits_3_ok 16 rfl) (lv_at hl 4 rfl) ?_
                                        refine lv_icmp_ne (tgt := 357) hx hb (dk kL_fits_3_ok 17 rfl) (by decide) (fun h57 => ?_) (fun h57 => ?_)
                                        · skip
                                          refine lv_iinc (v := nI (o9 + 1)) (lv' := [(10, .int (nI (o9 + 1))), (4, .int (nI ((cnt (bot c b) i) + 0))), (3, .int (nI ((cnt (fun x => cov v x) i) + 0))), (9, .int (nI 1)), (8, .int (nI a9)), (7, .int (nI (i / 4))), (6, .int (nI q)), (5, .int (nI i)), (0, .ref (ad 0)), (1, .ref (ad 78)), (2, .ref (ad 79))]) hx hb (dk kL_fits_3_ok 20 rfl) hl (k := 0) rfl (n_inc _) (by decide) rfl (fun ls hl => ?_)
                                          refine lv_goto (tgt := 324) hx hb (dk kL_fits_3_ok 21 rfl) (by decide) ?_
                                          exact ih324 (o9 + 1) _ _ _ hK_35 h79_36 h77_37 h78_38 hP hS (by first | rfl | omega | assumption) (by omega) ls (lv_sub hl [0, 1, 2, 3, 4, 5, 6, 7, 8, 9, 10] rfl)
                                        · exact absurd h57 (pl_ne hR hRl h56 (by omega) ha9 (by omega))
                                exact L324 _ 0 _ _ _ hK_30 h79_34 h77_32 h78_33 hP hS (by first | rfl | omega | assumption) (Nat.lt_succ_self _) ls (lv_sub hl [0, 1, 2, 3, 4, 5, 6, 7, 8, 9, 10] rfl)
                              · exact absurd h54 h48
                    · skip
                      refine lv_iconst (v := nI 1) hx hb (dk kL_fits_2_ok 8 rfl) rfl ?_
                      refine lv_goto (tgt := 224) hx hb (dk kL_fits_2_ok 9 rfl) (by decide) ?_
                      refine lv_iadd hx hb (dk kL_fits_2_ok 11 rfl) ?_
                      refine ast (va_up F 79 (.inl (cI, 4, .inl (upd (fun k => nI (qk c v k i)) (i / 4) (((fun k => nI (qk c v k i)) (i / 4)) + (nI 1)))))) (k := 79) (j := i / 4) hx hb hC.2.2.2.2.2.1 hDi hP hS (by omega) h79_4 rfl (by omega) (by decide) (dk kL_fits_2_ok 12 rfl) rfl (fun H locs hP hS => ?_)
                      have hK_40 : KW cI cQ ad (va_up F 79 (.inl (cI, 4, .inl (upd (fun k => nI (qk c v k i)) (i / 4) (((fun k => nI (qk c v k i)) (i / 4)) + (nI 1)))))) c b v g h j t u z m9 := KW_fr hK_1 (fun i hi => va_up_ne _ _ (by omega))
                      have h79_41 : va_up F 79 (.inl (cI, 4, .inl (upd (fun k => nI (qk c v k i)) (i / 4) (((fun k => nI (qk c v k i)) (i / 4)) + (nI 1))))) 79 = .inl (cI, 4, .inl (upd (fun k => nI (qk c v k i)) (i / 4) (((fun k => nI (qk c v k i)) (i / 4)) + (nI 1)))) := va_up_self _ _ _
                      have h77_42 : va_up F 79 (.inl (cI, 4, .inl (upd (fun k => nI (qk c v k i)) (i / 4) (((fun k => nI (qk c v k i)) (i / 4)) + (nI 1))))) 77 = .inl (cI, 4, .inl lo) := (va_up_ne _ _ (by decide)).trans h77_2
                      have h78_43 : va_up F 79 (.inl (cI, 4, .inl (upd (fun k => nI (qk c v k i)) (i / 4) (((fun k => nI (qk c v k i)) (i / 4)) + (nI 1))))) 78 = .inl (cI, 4, .inl (fun k => nI (pk c k i))) := (va_up_ne _ _ (by decide)).trans h78_3
                      generalize va_up F 79 (.inl (cI, 4, .inl (upd (fun k => nI (qk c v k i)) (i / 4) (((fun k => nI (qk c v k i)) (i / 4)) + (nI 1))))) = F_39 at hP hK_40 h79_41 h77_42 h78_43
                      have h79_44 : F_39 79 = .inl (cI, 4, .inl (fun k => nI (qk c v k (i + 1)))) := by rw [h79_41]; exact congrArg (fun q => va_E9 cI 4 q) (qk_s (ptx_1 h30 (hcv.trans (decide_eq_false (by omega))) (by rw [hcq]; exact nI_ne (by omega) (by have := (bs_lt i).1; omega) h49)))
                      refine lv_iload hx hb (dk kL_fits_2_ok 13 rfl) (lv_at hl 5 rfl) ?_
                      refine lv_bipush (v := nI 84) hx hb (dk kL_fits_2_ok 14 rfl) rfl ?_
                      refine n_icmp_eq (tgt := 319) hx hb (by omega) (by decide) (dk kL_fits_2_ok 15 rfl) (by decide) (fun h58 => ?_) (fun h58 => ?_)
                      · exact absurd h58 hq84
                      · skip
                        refine lv_iload hx hb (dk kL_fits_2_ok 16 rfl) (lv_at hl 3 rfl) ?_
                        refine n_if_lt (tgt := 319) hx hb (by omega) (dk kL_fits_2_ok 17 rfl) (by decide) ?_
                        refine lv_iload hx hb (dk kL_fits_2_ok 18 rfl) (lv_at hl 3 rfl) ?_
                        refine lv_aload_n hx hb (dk kL_fits_2_ok 19 rfl) rfl (lv_at hl 7 rfl) ?_
                        refine lv_iload hx hb (dk kL_fits_2_ok 20 rfl) (lv_at hl 5 rfl) ?_
                        refine csR (As := [.ref (ad 0), .int (nI q)]) (r := .int (nI (Np q))) (rest := [.int (nI a9)]) ⟨hC.1, hC.2.1, hC.2.2.1, hC.2.2.2.1, hC.2.2.2.2.1⟩ (tL_manyN l D cI cQ cL ad 80 F_39 hN76 hK_40 (q := q) (n := Np q) (by omega) (hhq)) (cwSL 2 hC.2.2.2.2.1 mcL_many (lc0 _ (List.mem_of_getElem? (i := 6) rfl)) msL_many mini_RL rfl rfl hdL_many ⟨Nat.le_of_ble_eq_true rfl, Nat.le_of_ble_eq_true rfl⟩) hC.2.2.2.2.2.1 hP hC.2.2.2.2.2.2.1 rfl hl.1 rfl (Nat.le_of_ble_eq_true rfl) ⟨Nat.le_of_ble_eq_true rfl, Nat.le_of_ble_eq_true rfl⟩ (dk kL_fits_2_ok 21 rfl) ?_
                        refine n_icmp_ge (tgt := 319) hx hb (by omega) (by omega) (dk kL_fits_2_ok 22 rfl) (by decide) (fun h59 => ?_) (fun h59 => ?_)
                        · exact absurd h59 (by omega)
                        · skip
                          refine lv_aload_n hx hb (dk kL_fits_2_ok 23 rfl) rfl (lv_at hl 7 rfl) ?_
                          refine lv_iload hx hb (dk kL_fits_2_ok 24 rfl) (lv_at hl 6 rfl) ?_
                          refine lv_iconst (v := nI 4) hx hb (dk kL_fits_2_ok 25 rfl) rfl ?_
                          refine kw_wink hC hK_40 hN76 hP ht (w := i) (k := 4) (by omega) (by decide) (lc0 _ (List.mem_of_getElem? (i := 3) rfl)) hl.1 (Nat.le_of_ble_eq_true rfl) ⟨Nat.le_of_ble_eq_true rfl, Nat.le_of_ble_eq_true rfl⟩ (dk kL_fits_2_ok 26 rfl) (r := bI (cov v i)) rfl ?_
                          refine lv_iload hx hb (dk kL_fits_2_ok 27 rfl) (lv_at hl 2 rfl) ?_
                          refine n_if_eq (tgt := 265) hx hb (by decide) (dk kL_fits_2_ok 28 rfl) (by decide) (fun h9 => absurd h9 (by decide)) ?_
                          intro _
                          refine lv_iconst (v := nI 0) hx hb (dk kL_fits_2_ok 29 rfl) rfl ?_
                          refine lv_goto (tgt := 266) hx hb (dk kL_fits_2_ok 30 rfl) (by decide) ?_
                          refine lv_icmp_ne (tgt := 319) hx hb (dk kL_fits_2_ok 32 rfl) (by decide) (fun h60 => ?_) (fun h60 => ?_)
                          · exact absurd (bI_f (hcv.trans (decide_eq_false (by omega)))) h60
                          · skip
                            refine lv_iload hx hb (dk kL_fits_2_ok 33 rfl) (lv_at hl 2 rfl) ?_
                            refine n_if_eq (tgt := 294) hx hb (by decide) (dk kL_fits_2_ok 34 rfl) (by decide) (fun h9 => absurd h9 (by decide)) ?_
                            intro _
                            refine lv_aload_n hx hb (dk kL_fits_2_ok 35 rfl) rfl (lv_at hl 7 rfl) ?_
                            refine lv_iload hx hb (dk kL_fits_2_ok 36 rfl) (lv_at hl 5 rfl) ?_
                            refine lv_bipush (v := nI 13) hx hb (dk kL_fits_2_ok 37 rfl) rfl ?_
                            refine n_irem hx hb (by omega) (by decide) (by decide) (dk kL_fits_2_ok 38 rfl) ?_
                            refine lv_iload hx hb (dk kL_fits_2_ok 39 rfl) (lv_at hl 5 rfl) ?_
                            refine lv_bipush (v := nI 13) hx hb (dk kL_fits_2_ok 40 rfl) rfl ?_
                            refine n_idiv hx hb (by omega) (by decide) (by decide) (dk kL_fits_2_ok 41 rfl) ?_
                            refine lv_iconst (v := nI 1) hx hb (dk kL_fits_2_ok 42 rfl) rfl ?_
                            refine kw_pile hC hK_40 hN76 hP (q := q) (by omega) (k := 1) (by decide) (lc0 _ (List.mem_of_getElem? (i := 2) rfl)) hl.1 (Nat.le_of_ble_eq_true rfl) ⟨Nat.le_of_ble_eq_true rfl, Nat.le_of_ble_eq_true rfl⟩ (dk kL_fits_2_ok 43 rfl) (r := nI i) (by rw [cat_q]; show top c v (nI q) = nI i; rw [hRl.topv hR (by omega), if_neg (by omega), show Np q - 1 = a9 by omega, hWq]) ?_
                            refine lv_iload hx hb (dk kL_fits_2_ok 44 rfl) (lv_at hl 6 rfl) ?_
                            refine n_icmp_ne (tgt := 319) hx hb (by omega) (by omega) (dk kL_fits_2_ok 45 rfl) (by decide) (fun h61 => ?_) (fun h61 => ?_)
                            · exact absurd rfl h61
                            · skip
                              refine lv_iload hx hb (dk kL_fits_2_ok 46 rfl) (lv_at hl 3 rfl) ?_
                              refine n_if_ne (tgt := 321) hx hb (by omega) (dk kL_fits_2_ok 47 rfl) (by decide) (fun h62 => ?_) (fun h62 => ?_)
                              · skip
                                have hz9 : ¬ a9 = 0 := h62
                                have hi16 : i < 16 := by omega
                                refine lv_iconst (v := nI 0) hx hb (dk kL_fits_3_ok 1 rfl) rfl ?_
                                refine lv_istore (lv' := [(10, .int (nI 0)), (4, .int (nI ((cnt (bot c b) i) + 0))), (3, .int (nI ((cnt (fun x => cov v x) i) + 0))), (9, .int (nI 1)), (8, .int (nI a9)), (7, .int (nI (i / 4))), (6, .int (nI q)), (5, .int (nI i)), (0, .ref (ad 0)), (1, .ref (ad 78)), (2, .ref (ad 79))]) hx hb (dk kL_fits_3_ok 2 rfl) hl (by decide) rfl (fun ls hl => ?_)
                                have L324 : ∀ (fu : Nat) (o9 : Nat) (F : Nat → va_E) (H : Heap) (locs : List Loc), KW cI cQ ad F c b v g h j t u z m9 → F 79 = .inl (cI, 4, .inl (fun k => nI (qk c v k (i + 1)))) → F 77 = .inl (cI, 4, .inl lo) → F 78 = .inl (cI, 4, .inl (fun k => nI (pk c k i))) → va_P D vwCl (iW ad 80 F) H → va_S (iA ad 80 s.heap.size) s.heap H locs → (o9 ≤ i) → i - o9 < fu → ∀ ls : Array Slot, lv_has ls 11 [(10, .int (nI o9)), (4, .int (nI ((cnt (bot c b) i) + 0))), (3, .int (nI ((cnt (fun x => cov v x) i) + 0))), (9, .int (nI 1)), (8, .int (nI a9)), (7, .int (nI (i / 4))), (6, .int (nI q)), (5, .int (nI i)), (0, .ref (ad 0)), (1, .ref (ad 78)), (2, .ref (ad 79))] → W p l e ({ frames := 11, cells := 2, slots := 8, locals := 400 } : Room) s m AR below meth cd H locs 2 8 Q (F0 m 324 ls []) := by
                                  intro fu
                                  induction fu with
                                  | zero => intros; omega
                                  | succ fu ih324 =>
                                    intro o9 F H locs hK_45 h79_46 h77_47 h78_48 hP hS ho9 hme324 ls hl
                                    refine lv_iload hx hb (dk kL_fits_3_ok 3 rfl) (lv_at hl 0 rfl) ?_
                                    refine lv_iload hx hb (dk kL_fits_3_ok 4 rfl) (lv_at hl 7 rfl) ?_
                                    refine n_icmp_ge (tgt := 363) hx hb (by omega) (by omega) (dk kL_fits_3_ok 5 rfl) (by decide) (fun h63 => ?_) (fun h63 => ?_)
                                    · skip
                                      refine lv_iinc (v := nI (i + 1)) (lv' := [(5, .int (nI (i + 1))), (10, .int (nI o9)), (4, .int (nI ((cnt (bot c b) i) + 0))), (3, .int (nI ((cnt (fun x => cov v x) i) + 0))), (9, .int (nI 1)), (8, .int (nI a9)), (7, .int (nI (i / 4))), (6, .int (nI q)), (0, .ref (ad 0)), (1, .ref (ad 78)), (2, .ref (ad 79))]) hx hb (dk kL_fits_3_ok 22 rfl) hl (k := 7) rfl (n_inc _) (by decide) rfl (fun ls hl => ?_)
                                      refine lv_goto (tgt := 16) hx hb (dk kL_fits_3_ok 23 rfl) (by decide) ?_
                                      exact ih16 (i + 1) _ _ _ _ _ hK_45 h77_47 (by rw [← pk_n hpf]; exact h78_48) h79_46 hP hS (by rw [cn_f (hbt.trans (decide_eq_false hz9)), Nat.add_zero]) (by rw [cn_f (p := fun x => cov v x) (hcv.trans (decide_eq_false (by omega))), Nat.add_zero]) (by first | rfl | omega | assumption) (by omega) ls (lv_sub hl [0, 2, 3, 8, 9, 10] rfl)
                                    · skip
                                      refine lv_aload_n hx hb (dk kL_fits_3_ok 6 rfl) rfl (lv_at hl 8 rfl) ?_
                                      refine lv_iload hx hb (dk kL_fits_3_ok 7 rfl) (lv_at hl 0 rfl) ?_
                                      refine lv_iconst (v := nI 2) hx hb (dk kL_fits_3_ok 8 rfl) rfl ?_
                                      refine kw_wink hC hK_45 hN76 hP ht (w := o9) (k := 2) (by omega) (by decide) (lc0 _ (List.mem_of_getElem? (i := 3) rfl)) hl.1 (Nat.le_of_ble_eq_true rfl) ⟨Nat.le_of_ble_eq_true rfl, Nat.le_of_ble_eq_true rfl⟩ (dk kL_fits_3_ok 9 rfl) (r := c o9) rfl ?_
                                      refine lv_iload hx hb (dk kL_fits_3_ok 10 rfl) (lv_at hl 6 rfl) ?_
                                      refine lv_icmp_ne (tgt := 357) hx hb (dk kL_fits_3_ok 11 rfl) (by decide) (fun h64 => ?_) (fun h64 => ?_)
                                      · skip
                                        refine lv_iinc (v := nI (o9 + 1)) (lv' := [(10, .int (nI (o9 + 1))), (4, .int (nI ((cnt (bot c b) i) + 0))), (3, .int (nI ((cnt (fun x => cov v x) i) + 0))), (9, .int (nI 1)), (8, .int (nI a9)), (7, .int (nI (i / 4))), (6, .int (nI q)), (5, .int (nI i)), (0, .ref (ad 0)), (1, .ref (ad 78)), (2, .ref (ad 79))]) hx hb (dk kL_fits_3_ok 20 rfl) hl (k := 0) rfl (n_inc _) (by decide) rfl (fun ls hl => ?_)
                                        refine lv_goto (tgt := 324) hx hb (dk kL_fits_3_ok 21 rfl) (by decide) ?_
                                        exact ih324 (o9 + 1) _ _ _ hK_45 h79_46 h77_47 h78_48 hP hS (by first | rfl | omega | assumption) (by omega) ls (lv_sub hl [0, 1, 2, 3, 4, 5, 6, 7, 8, 9, 10] rfl)
                                      · skip
                                        refine lv_aload_n hx hb (dk kL_fits_3_ok 12 rfl) rfl (lv_at hl 8 rfl) ?_
                                        refine lv_iload hx hb (dk kL_fits_3_ok 13 rfl) (lv_at hl 0 rfl) ?_
                                        refine lv_iconst (v := nI 3) hx hb (dk kL_fits_3_ok 14 rfl) rfl ?_
                                        refine kw_wink hC hK_45 hN76 hP ht (w := o9) (k := 3) (by omega) (by decide) (lc0 _ (List.mem_of_getElem? (i := 3) rfl)) hl.1 (Nat.le_of_ble_eq_true rfl) ⟨Nat.le_of_ble_eq_true rfl, Nat.le_of_ble_eq_true rfl⟩ (dk kL_fits_3_ok 15 rfl) (r := pls c b o9) rfl ?_
                                        refine lv_iload hx hb (dk kL_fits_3_ok 16 rfl) (lv_at hl 4 rfl) ?_
                                        refine lv_icmp_ne (tgt := 357) hx hb (dk kL_fits_3_ok 17 rfl) (by decide) (fun h65 => ?_) (fun h65 => ?_)
                                        · skip
                                          refine lv_iinc (v := nI (o9 + 1)) (lv' := [(10, .int (nI (o9 + 1))), (4, .int (nI ((cnt (bot c b) i) + 0))), (3, .int (nI ((cnt (fun x => cov v x) i) + 0))), (9, .int (nI 1)), (8, .int (nI a9)), (7, .int (nI (i / 4))), (6, .int (nI q)), (5, .int (nI i)), (0, .ref (ad 0)), (1, .ref (ad 78)), (2, .ref (ad 79))]) hx hb (dk kL_fits_3_ok 20 rfl) hl (k := 0) rfl (n_inc _) (by decide) rfl (fun ls hl => ?_)
                                          refine lv_goto (tgt := 324) hx hb (dk kL_fits_3_ok 21 rfl) (by decide) ?_
                                          exact ih324 (o9 + 1) _ _ _ hK_45 h79_46 h77_47 h78_48 hP hS (by first | rfl | omega | assumption) (by omega) ls (lv_sub hl [0, 1, 2, 3, 4, 5, 6, 7, 8, 9, 10] rfl)
                                        · exact absurd h65 (pl_ne hR hRl h64 (by omega) ha9 (by omega))
                                exact L324 _ 0 _ _ _ hK_40 h79_44 h77_42 h78_43 hP hS (by first | rfl | omega | assumption) (Nat.lt_succ_self _) ls (lv_sub hl [0, 1, 2, 3, 4, 5, 6, 7, 8, 9, 10] rfl)
                              · exact absurd h62 h48
                  · skip
                    refine lv_iconst (v := nI 1) hx hb (dk kL_fits_1_ok 53 rfl) rfl ?_
                    refine lv_goto (tgt := 196) hx hb (dk kL_fits_1_ok 54 rfl) (by decide) ?_
                    refine n_iadd hx hb (dk kL_fits_1_ok 56 rfl) ?_
                    refine lv_istore (lv' := [(4, .int (nI ((cnt (bot c b) i) + 1))), (3, .int (nI ((cnt (fun x => cov v x) i) + 0))), (9, .int (nI 1)), (8, .int (nI a9)), (7, .int (nI (i / 4))), (6, .int (nI q)), (5, .int (nI i)), (0, .ref (ad 0)), (1, .ref (ad 78)), (2, .ref (ad 79))]) hx hb (dk kL_fits_1_ok 57 rfl) hl (by decide) rfl (fun ls hl => ?_)
                    refine lv_aload_n hx hb (dk kL_fits_1_ok 58 rfl) rfl (lv_at hl 9 rfl) ?_
                    refine lv_iload hx hb (dk kL_fits_1_ok 59 rfl) (lv_at hl 4 rfl) ?_
                    refine lv_dup2_11 hx hb (dk kL_fits_2_ok 0 rfl) rfl rfl ?_
                    refine ald (j := (i / 4)) hx hb hK hP (by omega) h79_4 rfl (by omega) (by decide) (dk kL_fits_2_ok 1 rfl) ?_
                    refine lv_iload hx hb (dk kL_fits_2_ok 2 rfl) (lv_at hl 2 rfl) ?_
                    refine n_if_eq (tgt := 223) hx hb (by decide) (dk kL_fits_2_ok 3 rfl) (by decide) (fun h9 => absurd h9 (by decide)) ?_
                    intro _
                    refine lv_iload hx hb (dk kL_fits_2_ok 4 rfl) (lv_at hl 5 rfl) ?_
                    refine lv_iload hx hb (dk kL_fits_2_ok 5 rfl) (lv_at hl 4 rfl) ?_
                    refine csP (As := [.int (nI (i / 4))]) (rest := [.int (nI q), .int ((fun k => nI (qk c v k i)) (i / 4)), .int (nI (i / 4)), .ref (ad 79)]) ⟨hC.1, hC.2.1, hC.2.2.1, hC.2.2.2.1, hC.2.2.2.2.1⟩ (tL_base l (w := i / 4) (by omega)) (cwSL 1 hC.2.2.2.2.1 mcL_base (lc0 _ (List.mem_of_getElem? (i := 10) rfl)) msL_base mini_RL rfl rfl hdL_base ⟨Nat.le_of_ble_eq_true rfl, Nat.le_of_ble_eq_true rfl⟩) rfl hl.1 rfl (Nat.le_of_ble_eq_true rfl) ⟨Nat.le_of_ble_eq_true rfl, Nat.le_of_ble_eq_true rfl⟩ (dk kL_fits_2_ok 6 rfl) ?_
                    refine n_icmp_eq (tgt := 223) hx hb (by omega) (by omega) (dk kL_fits_2_ok 7 rfl) (by decide) (fun h66 => ?_) (fun h66 => ?_)
                    · skip
                      refine lv_iconst (v := nI 0) hx hb (dk kL_fits_2_ok 10 rfl) rfl ?_
                      refine lv_iadd hx hb (dk kL_fits_2_ok 11 rfl) ?_
                      refine ast (va_up F 79 (.inl (cI, 4, .inl (upd (fun k => nI (qk c v k i)) (i / 4) (((fun k => nI (qk c v k i)) (i / 4)) + (nI 0)))))) (k := 79) (j := i / 4) hx hb hC.2.2.2.2.2.1 hDi hP hS (by omega) h79_4 rfl (by omega) (by decide) (dk kL_fits_2_ok 12 rfl) rfl (fun H locs hP hS => ?_)
                      have hK_50 : KW cI cQ ad (va_up F 79 (.inl (cI, 4, .inl (upd (fun k => nI (qk c v k i)) (i / 4) (((fun k => nI (qk c v k i)) (i / 4)) + (nI 0)))))) c b v g h j t u z m9 := KW_fr hK_1 (fun i hi => va_up_ne _ _ (by omega))
                      have h79_51 : va_up F 79 (.inl (cI, 4, .inl (upd (fun k => nI (qk c v k i)) (i / 4) (((fun k => nI (qk c v k i)) (i / 4)) + (nI 0))))) 79 = .inl (cI, 4, .inl (upd (fun k => nI (qk c v k i)) (i / 4) (((fun k => nI (qk c v k i)) (i / 4)) + (nI 0)))) := va_up_self _ _ _
                      have h77_52 : va_up F 79 (.inl (cI, 4, .inl (upd (fun k => nI (qk c v k i)) (i / 4) (((fun k => nI (qk c v k i)) (i / 4)) + (nI 0))))) 77 = .inl (cI, 4, .inl lo) := (va_up_ne _ _ (by decide)).trans h77_2
                      have h78_53 : va_up F 79 (.inl (cI, 4, .inl (upd (fun k => nI (qk c v k i)) (i / 4) (((fun k => nI (qk c v k i)) (i / 4)) + (nI 0))))) 78 = .inl (cI, 4, .inl (fun k => nI (pk c k i))) := (va_up_ne _ _ (by decide)).trans h78_3
                      generalize va_up F 79 (.inl (cI, 4, .inl (upd (fun k => nI (qk c v k i)) (i / 4) (((fun k => nI (qk c v k i)) (i / 4)) + (nI 0))))) = F_49 at hP hK_50 h79_51 h77_52 h78_53
                      have h79_54 : F_49 79 = .inl (cI, 4, .inl (fun k => nI (qk c v k (i + 1)))) := by rw [h79_51]; exact congrArg (fun q => va_E9 cI 4 q) (qk_s (ptx_b h30 (hcv.trans (decide_eq_false (by omega))) (by rw [hcq, h66])))
                      refine lv_iload hx hb (dk kL_fits_2_ok 13 rfl) (lv_at hl 5 rfl) ?_
                      refine lv_bipush (v := nI 84) hx hb (dk kL_fits_2_ok 14 rfl) rfl ?_
                      refine n_icmp_eq (tgt := 319) hx hb (by omega) (by decide) (dk kL_fits_2_ok 15 rfl) (by decide) (fun h67 => ?_) (fun h67 => ?_)
                      · exact absurd h67 hq84
                      · skip
                        refine lv_iload hx hb (dk kL_fits_2_ok 16 rfl) (lv_at hl 3 rfl) ?_
                        refine n_if_lt (tgt := 319) hx hb (by omega) (dk kL_fits_2_ok 17 rfl) (by decide) ?_
                        refine lv_iload hx hb (dk kL_fits_2_ok 18 rfl) (lv_at hl 3 rfl) ?_
                        refine lv_aload_n hx hb (dk kL_fits_2_ok 19 rfl) rfl (lv_at hl 7 rfl) ?_
                        refine lv_iload hx hb (dk kL_fits_2_ok 20 rfl) (lv_at hl 5 rfl) ?_
                        refine csR (As := [.ref (ad 0), .int (nI q)]) (r := .int (nI (Np q))) (rest := [.int (nI a9)]) ⟨hC.1, hC.2.1, hC.2.2.1, hC.2.2.2.1, hC.2.2.2.2.1⟩ (tL_manyN l D cI cQ cL ad 80 F_49 hN76 hK_50 (q := q) (n := Np q) (by omega) (hhq)) (cwSL 2 hC.2.2.2.2.1 mcL_many (lc0 _ (List.mem_of_getElem? (i := 6) rfl)) msL_many mini_RL rfl rfl hdL_many ⟨Nat.le_of_ble_eq_true rfl, Nat.le_of_ble_eq_true rfl⟩) hC.2.2.2.2.2.1 hP hC.2.2.2.2.2.2.1 rfl hl.1 rfl (Nat.le_of_ble_eq_true rfl) ⟨Nat.le_of_ble_eq_true rfl, Nat.le_of_ble_eq_true rfl⟩ (dk kL_fits_2_ok 21 rfl) ?_
                        refine n_icmp_ge (tgt := 319) hx hb (by omega) (by omega) (dk kL_fits_2_ok 22 rfl) (by decide) (fun h68 => ?_) (fun h68 => ?_)
                        · exact absurd h68 (by omega)
                        · skip
                          refine lv_aload_n hx hb (dk kL_fits_2_ok 23 rfl) rfl (lv_at hl 7 rfl) ?_
                          refine lv_iload hx hb (dk kL_fits_2_ok 24 rfl) (lv_at hl 6 rfl) ?_
                          refine lv_iconst (v := nI 4) hx hb (dk kL_fits_2_ok 25 rfl) rfl ?_
                          refine kw_wink hC hK_50 hN76 hP ht (w := i) (k := 4) (by omega) (by decide) (lc0 _ (List.mem_of_getElem? (i := 3) rfl)) hl.1 (Nat.le_of_ble_eq_true rfl) ⟨Nat.le_of_ble_eq_true rfl, Nat.le_of_ble_eq_true rfl⟩ (dk kL_fits_2_ok 26 rfl) (r := bI (cov v i)) rfl ?_
                          refine lv_iload hx hb (dk kL_fits_2_ok 27 rfl) (lv_at hl 2 rfl) ?_
                          refine n_if_eq (tgt := 265) hx hb (by decide) (dk kL_fits_2_ok 28 rfl) (by decide) (fun h9 => absurd h9 (by decide)) ?_
                          intro _
                          refine lv_iconst (v := nI 0) hx hb (dk kL_fits_2_ok 29 rfl) rfl ?_
                          refine lv_goto (tgt := 266) hx hb (dk kL_fits_2_ok 30 rfl) (by decide) ?_
                          refine lv_icmp_ne (tgt := 319) hx hb (dk kL_fits_2_ok 32 rfl) (by decide) (fun h69 => ?_) (fun h69 => ?_)
                          · exact absurd (bI_f (hcv.trans (decide_eq_false (by omega)))) h69
                          · skip
                            refine lv_iload hx hb (dk kL_fits_2_ok 33 rfl) (lv_at hl 2 rfl) ?_
                            refine n_if_eq (tgt := 294) hx hb (by decide) (dk kL_fits_2_ok 34 rfl) (by decide) (fun h9 => absurd h9 (by decide)) ?_
                            intro _
                            refine lv_aload_n hx hb (dk kL_fits_2_ok 35 rfl) rfl (lv_at hl 7 rfl) ?_
                            refine lv_iload hx hb (dk kL_fits_2_ok 36 rfl) (lv_at hl 5 rfl) ?_
                            refine lv_bipush (v := nI 13) hx hb (dk kL_fits_2_ok 37 rfl) rfl ?_
                            refine n_irem hx hb (by omega) (by decide) (by decide) (dk kL_fits_2_ok 38 rfl) ?_
                            refine lv_iload hx hb (dk kL_fits_2_ok 39 rfl) (lv_at hl 5 rfl) ?_
                            refine lv_bipush (v := nI 13) hx hb (dk kL_fits_2_ok 40 rfl) rfl ?_
                            refine n_idiv hx hb (by omega) (by decide) (by decide) (dk kL_fits_2_ok 41 rfl) ?_
                            refine lv_iconst (v := nI 1) hx hb (dk kL_fits_2_ok 42 rfl) rfl ?_
                            refine kw_pile hC hK_50 hN76 hP (q := q) (by omega) (k := 1) (by decide) (lc0 _ (List.mem_of_getElem? (i := 2) rfl)) hl.1 (Nat.le_of_ble_eq_true rfl) ⟨Nat.le_of_ble_eq_true rfl, Nat.le_of_ble_eq_true rfl⟩ (dk kL_fits_2_ok 43 rfl) (r := nI i) (by rw [cat_q]; show top c v (nI q) = nI i; rw [hRl.topv hR (by omega), if_neg (by omega), show Np q - 1 = a9 by omega, hWq]) ?_
                            refine lv_iload hx hb (dk kL_fits_2_ok 44 rfl) (lv_at hl 6 rfl) ?_
                            refine n_icmp_ne (tgt := 319) hx hb (by omega) (by omega) (dk kL_fits_2_ok 45 rfl) (by decide) (fun h70 => ?_) (fun h70 => ?_)
                            · exact absurd rfl h70
                            · skip
                              refine lv_iload hx hb (dk kL_fits_2_ok 46 rfl) (lv_at hl 3 rfl) ?_
                              refine n_if_ne (tgt := 321) hx hb (by omega) (dk kL_fits_2_ok 47 rfl) (by decide) (fun h71 => ?_) (fun h71 => ?_)
                              · exact absurd h48 h71
                              · skip
                                refine lv_aload_n hx hb (dk kL_fits_2_ok 48 rfl) rfl (lv_at hl 7 rfl) ?_
                                refine lv_iload hx hb (dk kL_fits_2_ok 49 rfl) (lv_at hl 5 rfl) ?_
                                refine lv_bipush (v := nI 13) hx hb (dk kL_fits_2_ok 50 rfl) rfl ?_
                                refine n_irem hx hb (by omega) (by decide) (by decide) (dk kL_fits_2_ok 51 rfl) ?_
                                refine lv_iload hx hb (dk kL_fits_2_ok 52 rfl) (lv_at hl 5 rfl) ?_
                                refine lv_bipush (v := nI 13) hx hb (dk kL_fits_2_ok 53 rfl) rfl ?_
                                refine n_idiv hx hb (by omega) (by decide) (by decide) (dk kL_fits_2_ok 54 rfl) ?_
                                refine lv_iconst (v := nI 2) hx hb (dk kL_fits_2_ok 55 rfl) rfl ?_
                                refine kw_pile hC hK_50 hN76 hP (q := q) (by omega) (k := 2) (by decide) (lc0 _ (List.mem_of_getElem? (i := 2) rfl)) hl.1 (Nat.le_of_ble_eq_true rfl) ⟨Nat.le_of_ble_eq_true rfl, Nat.le_of_ble_eq_true rfl⟩ (dk kL_fits_2_ok 56 rfl) (r := nI i) (by rw [cat_q]; show top c b (nI q) = nI i; rw [hRl.topb hR (by omega), if_neg (by omega), ← hWq, h71]) ?_
                                refine lv_iload hx hb (dk kL_fits_2_ok 57 rfl) (lv_at hl 6 rfl) ?_
                                refine n_icmp_eq (tgt := 321) hx hb (by omega) (by omega) (dk kL_fits_2_ok 58 rfl) (by decide) (fun h72 => ?_) (fun h72 => ?_)
                                · skip
                                  have hz9 : a9 = 0 := h71
                                  have hi16 : i < 16 := by omega
                                  refine lv_iconst (v := nI 0) hx hb (dk kL_fits_3_ok 1 rfl) rfl ?_
                                  refine lv_istore (lv' := [(10, .int (nI 0)), (4, .int (nI ((cnt (bot c b) i) + 1))), (3, .int (nI ((cnt (fun x => cov v x) i) + 0))), (9, .int (nI 1)), (8, .int (nI a9)), (7, .int (nI (i / 4))), (6, .int (nI q)), (5, .int (nI i)), (0, .ref (ad 0)), (1, .ref (ad 78)), (2, .ref (ad 79))]) hx hb (dk kL_fits_3_ok 2 rfl) hl (by decide) rfl (fun ls hl => ?_)
                                  have L324 : ∀ (fu : Nat) (o9 : Nat) (F : Nat → va_E) (H : Heap) (locs : List Loc), KW cI cQ ad F c b v g h j t u z m9 → F 79 = .inl (cI, 4, .inl (fun k => nI (qk c v k (i + 1)))) → F 77 = .inl (cI, 4, .inl lo) → F 78 = .inl (cI, 4, .inl (fun k => nI (pk c k i))) → va_P D vwCl (iW ad 80 F) H → va_S (iA ad 80 s.heap.size) s.heap H locs → (o9 ≤ i) → i - o9 < fu → ∀ ls : Array Slot, lv_has ls 11 [(10, .int (nI o9)), (4, .int (nI ((cnt (bot c b) i) + 1))), (3, .int (nI ((cnt (fun x => cov v x) i) + 0))), (9, .int (nI 1)), (8, .int (nI a9)), (7, .int (nI (i / 4))), (6, .int (nI q)), (5, .int (nI i)), (0, .ref (ad 0)), (1, .ref (ad 78)), (2, .ref (ad 79))] → W p l e ({ frames := 11, cells := 2, slots := 8, locals := 400 } : Room) s m AR below meth cd H locs 2 8 Q (F0 m 324 ls []) := by
                                    intro fu
                                    induction fu with
                                    | zero => intros; omega
                                    | succ fu ih324 =>
                                      intro o9 F H locs hK_55 h79_56 h77_57 h78_58 hP hS ho9 hme324 ls hl
                                      refine lv_iload hx hb (dk kL_fits_3_ok 3 rfl) (lv_at hl 0 rfl) ?_
                                      refine lv_iload hx hb (dk kL_fits_3_ok 4 rfl) (lv_at hl 7 rfl) ?_
                                      refine n_icmp_ge (tgt := 363) hx hb (by omega) (by omega) (dk kL_fits_3_ok 5 rfl) (by decide) (fun h73 => ?_) (fun h73 => ?_)
                                      · skip
                                        refine lv_iinc (v := nI (i + 1)) (lv' := [(5, .int (nI (i + 1))), (10, .int (nI o9)), (4, .int (nI ((cnt (bot c b) i) + 1))), (3, .int (nI ((cnt (fun x => cov v x) i) + 0))), (9, .int (nI 1)), (8, .int (nI a9)), (7, .int (nI (i / 4))), (6, .int (nI q)), (0, .ref (ad 0)), (1, .ref (ad 78)), (2, .ref (ad 79))]) hx hb (dk kL_fits_3_ok 22 rfl) hl (k := 7) rfl (n_inc _) (by decide) rfl (fun ls hl => ?_)
                                        refine lv_goto (tgt := 16) hx hb (dk kL_fits_3_ok 23 rfl) (by decide) ?_
                                        exact ih16 (i + 1) _ _ _ _ _ hK_55 h77_57 (by rw [← pk_n hpf]; exact h78_58) h79_56 hP hS (by rw [cn_t (hbt.trans (decide_eq_true hz9))]) (by rw [cn_f (p := fun x => cov v x) (hcv.trans (decide_eq_false (by omega))), Nat.add_zero]) (by first | rfl | omega | assumption) (by omega) ls (lv_sub hl [0, 2, 3, 8, 9, 10] rfl)
                                      · skip
                                        refine lv_aload_n hx hb (dk kL_fits_3_ok 6 rfl) rfl (lv_at hl 8 rfl) ?_
                                        refine lv_iload hx hb (dk kL_fits_3_ok 7 rfl) (lv_at hl 0 rfl) ?_
                                        refine lv_iconst (v := nI 2) hx hb (dk kL_fits_3_ok 8 rfl) rfl ?_
                                        refine kw_wink hC hK_55 hN76 hP ht (w := o9) (k := 2) (by omega) (by decide) (lc0 _ (List.mem_of_getElem? (i := 3) rfl)) hl.1 (Nat.le_of_ble_eq_true rfl) ⟨Nat.le_of_ble_eq_true rfl, Nat.le_of_ble_eq_true rfl⟩ (dk kL_fits_3_ok 9 rfl) (r := c o9) rfl ?_
                                        refine lv_iload hx hb (dk kL_fits_3_ok 10 rfl) (lv_at hl 6 rfl) ?_
                                        refine lv_icmp_ne (tgt := 357) hx hb (dk kL_fits_3_ok 11 rfl) (by decide) (fun h74 => ?_) (fun h74 => ?_)
                                        · skip
                                          refine lv_iinc (v := nI (o9 + 1)) (lv' := [(10, .int (nI (o9 + 1))), (4, .int (nI ((cnt (bot c b) i) + 1))), (3, .int (nI ((cnt (fun x => cov v x) i) + 0))), (9, .int (nI 1)), (8, .int (nI a9)), (7, .int (nI (i / 4))), (6, .int (nI q)), (5, .int (nI i)), (0, .ref (ad 0)), (1, .ref (ad 78)), (2, .ref (ad 79))]) hx hb (dk kL_fits_3_ok 20 rfl) hl (k := 0) rfl (n_inc _) (by decide) rfl (fun ls hl => ?_)
                                          refine lv_goto (tgt := 324) hx hb (dk kL_fits_3_ok 21 rfl) (by decide) ?_
                                          exact ih324 (o9 + 1) _ _ _ hK_55 h79_56 h77_57 h78_58 hP hS (by first | rfl | omega | assumption) (by omega) ls (lv_sub hl [0, 1, 2, 3, 4, 5, 6, 7, 8, 9, 10] rfl)
                                        · skip
                                          refine lv_aload_n hx hb (dk kL_fits_3_ok 12 rfl) rfl (lv_at hl 8 rfl) ?_
                                          refine lv_iload hx hb (dk kL_fits_3_ok 13 rfl) (lv_at hl 0 rfl) ?_
                                          refine lv_iconst (v := nI 3) hx hb (dk kL_fits_3_ok 14 rfl) rfl ?_
                                          refine kw_wink hC hK_55 hN76 hP ht (w := o9) (k := 3) (by omega) (by decide) (lc0 _ (List.mem_of_getElem? (i := 3) rfl)) hl.1 (Nat.le_of_ble_eq_true rfl) ⟨Nat.le_of_ble_eq_true rfl, Nat.le_of_ble_eq_true rfl⟩ (dk kL_fits_3_ok 15 rfl) (r := pls c b o9) rfl ?_
                                          refine lv_iload hx hb (dk kL_fits_3_ok 16 rfl) (lv_at hl 4 rfl) ?_
                                          refine lv_icmp_ne (tgt := 357) hx hb (dk kL_fits_3_ok 17 rfl) (by decide) (fun h75 => ?_) (fun h75 => ?_)
                                          · skip
                                            refine lv_iinc (v := nI (o9 + 1)) (lv' := [(10, .int (nI (o9 + 1))), (4, .int (nI ((cnt (bot c b) i) + 1))), (3, .int (nI ((cnt (fun x => cov v x) i) + 0))), (9, .int (nI 1)), (8, .int (nI a9)), (7, .int (nI (i / 4))), (6, .int (nI q)), (5, .int (nI i)), (0, .ref (ad 0)), (1, .ref (ad 78)), (2, .ref (ad 79))]) hx hb (dk kL_fits_3_ok 20 rfl) hl (k := 0) rfl (n_inc _) (by decide) rfl (fun ls hl => ?_)
                                            refine lv_goto (tgt := 324) hx hb (dk kL_fits_3_ok 21 rfl) (by decide) ?_
                                            exact ih324 (o9 + 1) _ _ _ hK_55 h79_56 h77_57 h78_58 hP hS (by first | rfl | omega | assumption) (by omega) ls (lv_sub hl [0, 1, 2, 3, 4, 5, 6, 7, 8, 9, 10] rfl)
                                          · exact absurd h75 (pl_ne hR hRl h74 (by omega) ha9 (by omega))
                                  exact L324 _ 0 _ _ _ hK_50 h79_54 h77_52 h78_53 hP hS (by first | rfl | omega | assumption) (Nat.lt_succ_self _) ls (lv_sub hl [0, 1, 2, 3, 4, 5, 6, 7, 8, 9, 10] rfl)
                                · exact absurd rfl h72
                    · skip
                      refine lv_iconst (v := nI 1) hx hb (dk kL_fits_2_ok 8 rfl) rfl ?_
                      refine lv_goto (tgt := 224) hx hb (dk kL_fits_2_ok 9 rfl) (by decide) ?_
                      refine lv_iadd hx hb (dk kL_fits_2_ok 11 rfl) ?_
                      refine ast (va_up F 79 (.inl (cI, 4, .inl (upd (fun k => nI (qk c v k i)) (i / 4) (((fun k => nI (qk c v k i)) (i / 4)) + (nI 1)))))) (k := 79) (j := i / 4) hx hb hC.2.2.2.2.2.1 hDi hP hS (by omega) h79_4 rfl (by omega) (by decide) (dk kL_fits_2_ok 12 rfl) rfl (fun H locs hP hS => ?_)
                      have hK_60 : KW cI cQ ad (va_up F 79 (.inl (cI, 4, .inl (upd (fun k => nI (qk c v k i)) (i / 4) (((fun k => nI (qk c v k i)) (i / 4)) + (nI 1)))))) c b v g h j t u z m9 := KW_fr hK_1 (fun i hi => va_up_ne _ _ (by omega))
                      have h79_61 : va_up F 79 (.inl (cI, 4, .inl (upd (fun k => nI (qk c v k i)) (i / 4) (((fun k => nI (qk c v k i)) (i / 4)) + (nI 1))))) 79 = .inl (cI, 4, .inl (upd (fun k => nI (qk c v k i)) (i / 4) (((fun k => nI (qk c v k i)) (i / 4)) + (nI 1)))) := va_up_self _ _ _
                      have h77_62 : va_up F 79 (.inl (cI, 4, .inl (upd (fun k => nI (qk c v k i)) (i / 4) (((fun k => nI (qk c v k i)) (i / 4)) + (nI 1))))) 77 = .inl (cI, 4, .inl lo) := (va_up_ne _ _ (by decide)).trans h77_2
                      have h78_63 : va_up F 79 (.inl (cI, 4, .inl (upd (fun k => nI (qk c v k i)) (i / 4) (((fun k => nI (qk c v k i)) (i / 4)) + (nI 1))))) 78 = .inl (cI, 4, .inl (fun k => nI (pk c k i))) := (va_up_ne _ _ (by decide)).trans h78_3
                      generalize va_up F 79 (.inl (cI, 4, .inl (upd (fun k => nI (qk c v k i)) (i / 4) (((fun k => nI (qk c v k i)) (i / 4)) + (nI 1))))) = F_59 at hP hK_60 h79_61 h77_62 h78_63
                      have h79_64 : F_59 79 = .inl (cI, 4, .inl (fun k => nI (qk c v k (i + 1)))) := by rw [h79_61]; exact congrArg (fun q => va_E9 cI 4 q) (qk_s (ptx_1 h30 (hcv.trans (decide_eq_false (by omega))) (by rw [hcq]; exact nI_ne (by omega) (by have := (bs_lt i).1; omega) h66)))
                      refine lv_iload hx hb (dk kL_fits_2_ok 13 rfl) (lv_at hl 5 rfl) ?_
                      refine lv_bipush (v := nI 84) hx hb (dk kL_fits_2_ok 14 rfl) rfl ?_
                      refine n_icmp_eq (tgt := 319) hx hb (by omega) (by decide) (dk kL_fits_2_ok 15 rfl) (by decide) (fun h76 => ?_) (fun h76 => ?_)
                      · exact absurd h76 hq84
                      · skip
                        refine lv_iload hx hb (dk kL_fits_2_ok 16 rfl) (lv_at hl 3 rfl) ?_
                        refine n_if_lt (tgt := 319) hx hb (by omega) (dk kL_fits_2_ok 17 rfl) (by decide) ?_
                        refine lv_iload hx hb (dk kL_fits_2_ok 18 rfl) (lv_at hl 3 rfl) ?_
                        refine lv_aload_n hx hb (dk kL_fits_2_ok 19 rfl) rfl (lv_at hl 7 rfl) ?_
                        refine lv_iload hx hb (dk kL_fits_2_ok 20 rfl) (lv_at hl 5 rfl) ?_
                        refine csR (As := [.ref (ad 0), .int (nI q)]) (r := .int (nI (Np q))) (rest := [.int (nI a9)]) ⟨hC.1, hC.2.1, hC.2.2.1, hC.2.2.2.1, hC.2.2.2.2.1⟩ (tL_manyN l D cI cQ cL ad 80 F_59 hN76 hK_60 (q := q) (n := Np q) (by omega) (hhq)) (cwSL 2 hC.2.2.2.2.1 mcL_many (lc0 _ (List.mem_of_getElem? (i := 6) rfl)) msL_many mini_RL rfl rfl hdL_many ⟨Nat.le_of_ble_eq_true rfl, Nat.le_of_ble_eq_true rfl⟩) hC.2.2.2.2.2.1 hP hC.2.2.2.2.2.2.1 rfl hl.1 rfl (Nat.le_of_ble_eq_true rfl) ⟨Nat.le_of_ble_eq_true rfl, Nat.le_of_ble_eq_true rfl⟩ (dk kL_fits_2_ok 21 rfl) ?_
                        refine n_icmp_ge (tgt := 319) hx hb (by omega) (by omega) (dk kL_fits_2_ok 22 rfl) (by decide) (fun h77 => ?_) (fun h77 => ?_)
                        · exact absurd h77 (by omega)
                        · skip
                          refine lv_aload_n hx hb (dk kL_fits_2_ok 23 rfl) rfl (lv_at hl 7 rfl) ?_
                          refine lv_iload hx hb (dk kL_fits_2_ok 24 rfl) (lv_at hl 6 rfl) ?_
                          refine lv_iconst (v := nI 4) hx hb (dk kL_fits_2_ok 25 rfl) rfl ?_
                          refine kw_wink hC hK_60 hN76 hP ht (w := i) (k := 4) (by omega) (by decide) (lc0 _ (List.mem_of_getElem? (i := 3) rfl)) hl.1 (Nat.le_of_ble_eq_true rfl) ⟨Nat.le_of_ble_eq_true rfl, Nat.le_of_ble_eq_true rfl⟩ (dk kL_fits_2_ok 26 rfl) (r := bI (cov v i)) rfl ?_
                          refine lv_iload hx hb (dk kL_fits_2_ok 27 rfl) (lv_at hl 2 rfl) ?_
                          refine n_if_eq (tgt := 265) hx hb (by decide) (dk kL_fits_2_ok 28 rfl) (by decide) (fun h9 => absurd h9 (by decide)) ?_
                          intro _
                          refine lv_iconst (v := nI 0) hx hb (dk kL_fits_2_ok 29 rfl) rfl ?_
                          refine lv_goto (tgt := 266) hx hb (dk kL_fits_2_ok 30 rfl) (by decide) ?_
                          refine lv_icmp_ne (tgt := 319) hx hb (dk kL_fits_2_ok 32 rfl) (by decide) (fun h78 => ?_) (fun h78 => ?_)
                          · exact absurd (bI_f (hcv.trans (decide_eq_false (by omega)))) h78
                          · skip
                            refine lv_iload hx hb (dk kL_fits_2_ok 33 rfl) (lv_at hl 2 rfl) ?_
                            refine n_if_eq (tgt := 294) hx hb (by decide) (dk kL_fits_2_ok 34 rfl) (by decide) (fun h9 => absurd h9 (by decide)) ?_
                            intro _
                            refine lv_aload_n hx hb (dk kL_fits_2_ok 35 rfl) rfl (lv_at hl 7 rfl) ?_
                            refine lv_iload hx hb (dk kL_fits_2_ok 36 rfl) (lv_at hl 5 rfl) ?_
                            refine lv_bipush (v := nI 13) hx hb (dk kL_fits_2_ok 37 rfl) rfl ?_
                            refine n_irem hx hb (by omega) (by decide) (by decide) (dk kL_fits_2_ok 38 rfl) ?_
                            refine lv_iload hx hb (dk kL_fits_2_ok 39 rfl) (lv_at hl 5 rfl) ?_
                            refine lv_bipush (v := nI 13) hx hb (dk kL_fits_2_ok 40 rfl) rfl ?_
                            refine n_idiv hx hb (by omega) (by decide) (by decide) (dk kL_fits_2_ok 41 rfl) ?_
                            refine lv_iconst (v := nI 1) hx hb (dk kL_fits_2_ok 42 rfl) rfl ?_
                            refine kw_pile hC hK_60 hN76 hP (q := q) (by omega) (k := 1) (by decide) (lc0 _ (List.mem_of_getElem? (i := 2) rfl)) hl.1 (Nat.le_of_ble_eq_true rfl) ⟨Nat.le_of_ble_eq_true rfl, Nat.le_of_ble_eq_true rfl⟩ (dk kL_fits_2_ok 43 rfl) (r := nI i) (by rw [cat_q]; show top c v (nI q) = nI i; rw [hRl.topv hR (by omega), if_neg (by omega), show Np q - 1 = a9 by omega, hWq]) ?_
                            refine lv_iload hx hb (dk kL_fits_2_ok 44 rfl) (lv_at hl 6 rfl) ?_
                            refine n_icmp_ne (tgt := 319) hx hb (by omega) (by omega) (dk kL_fits_2_ok 45 rfl) (by decide) (fun h79 => ?_) (fun h79 => ?_)
                            · exact absurd rfl h79
                            · skip
                              refine lv_iload hx hb (dk kL_fits_2_ok 46 rfl) (lv_at hl 3 rfl) ?_
                              refine n_if_ne (tgt := 321) hx hb (by omega) (dk kL_fits_2_ok 47 rfl) (by decide) (fun h80 => ?_) (fun h80 => ?_)
                              · exact absurd h48 h80
                              · skip
                                refine lv_aload_n hx hb (dk kL_fits_2_ok 48 rfl) rfl (lv_at hl 7 rfl) ?_
                                refine lv_iload hx hb (dk kL_fits_2_ok 49 rfl) (lv_at hl 5 rfl) ?_
                                refine lv_bipush (v := nI 13) hx hb (dk kL_fits_2_ok 50 rfl) rfl ?_
                                refine n_irem hx hb (by omega) (by decide) (by decide) (dk kL_fits_2_ok 51 rfl) ?_
                                refine lv_iload hx hb (dk kL_fits_2_ok 52 rfl) (lv_at hl 5 rfl) ?_
                                refine lv_bipush (v := nI 13) hx hb (dk kL_fits_2_ok 53 rfl) rfl ?_
                                refine n_idiv hx hb (by omega) (by decide) (by decide) (dk kL_fits_2_ok 54 rfl) ?_
                                refine lv_iconst (v := nI 2) hx hb (dk kL_fits_2_ok 55 rfl) rfl ?_
                                refine kw_pile hC hK_60 hN76 hP (q := q) (by omega) (k := 2) (by decide) (lc0 _ (List.mem_of_getElem? (i := 2) rfl)) hl.1 (Nat.le_of_ble_eq_true rfl) ⟨Nat.le_of_ble_eq_true rfl, Nat.le_of_ble_eq_true rfl⟩ (dk kL_fits_2_ok 56 rfl) (r := nI i) (by rw [cat_q]; show top c b (nI q) = nI i; rw [hRl.topb hR (by omega), if_neg (by omega), ← hWq, h80]) ?_
                                refine lv_iload hx hb (dk kL_fits_2_ok 57 rfl) (lv_at hl 6 rfl) ?_
                                refine n_icmp_eq (tgt := 321) hx hb (by omega) (by omega) (dk kL_fits_2_ok 58 rfl) (by decide) (fun h81 => ?_) (fun h81 => ?_)
                                · skip
                                  have hz9 : a9 = 0 := h80
                                  have hi16 : i < 16 := by omega
                                  refine lv_iconst (v := nI 0) hx hb (dk kL_fits_3_ok 1 rfl) rfl ?_
                                  refine lv_istore (lv' := [(10, .int (nI 0)), (4, .int (nI ((cnt (bot c b) i) + 1))), (3, .int (nI ((cnt (fun x => cov v x) i) + 0))), (9, .int (nI 1)), (8, .int (nI a9)), (7, .int (nI (i / 4))), (6, .int (nI q)), (5, .int (nI i)), (0, .ref (ad 0)), (1, .ref (ad 78)), (2, .ref (ad 79))]) hx hb (dk kL_fits_3_ok 2 rfl) hl (by decide) rfl (fun ls hl => ?_)
                                  have L324 : ∀ (fu : Nat) (o9 : Nat) (F : Nat → va_E) (H : Heap) (locs : List Loc), KW cI cQ ad F c b v g h j t u z m9 → F 79 = .inl (cI, 4, .inl (fun k => nI (qk c v k (i + 1)))) → F 77 = .inl (cI, 4, .inl lo) → F 78 = .inl (cI, 4, .inl (fun k => nI (pk c k i))) → va_P D vwCl (iW ad 80 F) H → va_S (iA ad 80 s.heap.size) s.heap H locs → (o9 ≤ i) → i - o9 < fu → ∀ ls : Array Slot, lv_has ls 11 [(10, .int (nI o9)), (4, .int (nI ((cnt (bot c b) i) + 1))), (3, .int (nI ((cnt (fun x => cov v x) i) + 0))), (9, .int (nI 1)), (8, .int (nI a9)), (7, .int (nI (i / 4))), (6, .int (nI q)), (5, .int (nI i)), (0, .ref (ad 0)), (1, .ref (ad 78)), (2, .ref (ad 79))] → W p l e ({ frames := 11, cells := 2, slots := 8, locals := 400 } : Room) s m AR below meth cd H locs 2 8 Q (F0 m 324 ls []) := by
                                    intro fu
                                    induction fu with
                                    | zero => intros; omega
                                    | succ fu ih324 =>
                                      intro o9 F H locs hK_65 h79_66 h77_67 h78_68 hP hS ho9 hme324 ls hl
                                      refine lv_iload hx hb (dk kL_fits_3_ok 3 rfl) (lv_at hl 0 rfl) ?_
                                      refine lv_iload hx hb (dk kL_fits_3_ok 4 rfl) (lv_at hl 7 rfl) ?_
                                      refine n_icmp_ge (tgt := 363) hx hb (by omega) (by omega) (dk kL_fits_3_ok 5 rfl) (by decide) (fun h82 => ?_) (fun h82 => ?_)
                                      · skip
                                        refine lv_iinc (v := nI (i + 1)) (lv' := [(5, .int (nI (i + 1))), (10, .int (nI o9)), (4, .int (nI ((cnt (bot c b) i) + 1))), (3, .int (nI ((cnt (fun x => cov v x) i) + 0))), (9, .int (nI 1)), (8, .int (nI a9)), (7, .int (nI (i / 4))), (6, .int (nI q)), (0, .ref (ad 0)), (1, .ref (ad 78)), (2, .ref (ad 79))]) hx hb (dk kL_fits_3_ok 22 rfl) hl (k := 7) rfl (n_inc _) (by decide) rfl (fun ls hl => ?_)
                                        refine lv_goto (tgt := 16) hx hb (dk kL_fits_3_ok 23 rfl) (by decide) ?_
                                        exact ih16 (i + 1) _ _ _ _ _ hK_65 h77_67 (by rw [← pk_n hpf]; exact h78_68) h79_66 hP hS (by rw [cn_t (hbt.trans (decide_eq_true hz9))]) (by rw [cn_f (p := fun x => cov v x) (hcv.trans (decide_eq_false (by omega))), Nat.add_zero]) (by first | rfl | omega | assumption) (by omega) ls (lv_sub hl [0, 2, 3, 8, 9, 10] rfl)
                                      · skip
                                        refine lv_aload_n hx hb (dk kL_fits_3_ok 6 rfl) rfl (lv_at hl 8 rfl) ?_
                                        refine lv_iload hx hb (dk kL_fits_3_ok 7 rfl) (lv_at hl 0 rfl) ?_
                                        refine lv_iconst (v := nI 2) hx hb (dk kL_fits_3_ok 8 rfl) rfl ?_
                                        refine kw_wink hC hK_65 hN76 hP ht (w := o9) (k := 2) (by omega) (by decide) (lc0 _ (List.mem_of_getElem? (i := 3) rfl)) hl.1 (Nat.le_of_ble_eq_true rfl) ⟨Nat.le_of_ble_eq_true rfl, Nat.le_of_ble_eq_true rfl⟩ (dk kL_fits_3_ok 9 rfl) (r := c o9) rfl ?_
                                        refine lv_iload hx hb (dk kL_fits_3_ok 10 rfl) (lv_at hl 6 rfl) ?_
                                        refine lv_icmp_ne (tgt := 357) hx hb (dk kL_fits_3_ok 11 rfl) (by decide) (fun h83 => ?_) (fun h83 => ?_)
                                        · skip
                                          refine lv_iinc (v := nI (o9 + 1)) (lv' := [(10, .int (nI (o9 + 1))), (4, .int (nI ((cnt (bot c b) i) + 1))), (3, .int (nI ((cnt (fun x => cov v x) i) + 0))), (9, .int (nI 1)), (8, .int (nI a9)), (7, .int (nI (i / 4))), (6, .int (nI q)), (5, .int (nI i)), (0, .ref (ad 0)), (1, .ref (ad 78)), (2, .ref (ad 79))]) hx hb (dk kL_fits_3_ok 20 rfl) hl (k := 0) rfl (n_inc _) (by decide) rfl (fun ls hl => ?_)
                                          refine lv_goto (tgt := 324) hx hb (dk kL_fits_3_ok 21 rfl) (by decide) ?_
                                          exact ih324 (o9 + 1) _ _ _ hK_65 h79_66 h77_67 h78_68 hP hS (by first | rfl | omega | assumption) (by omega) ls (lv_sub hl [0, 1, 2, 3, 4, 5, 6, 7, 8, 9, 10] rfl)
                                        · skip
                                          refine lv_aload_n hx hb (dk kL_fits_3_ok 12 rfl) rfl (lv_at hl 8 rfl) ?_
                                          refine lv_iload hx hb (dk kL_fits_3_ok 13 rfl) (lv_at hl 0 rfl) ?_
                                          refine lv_iconst (v := nI 3) hx hb (dk kL_fits_3_ok 14 rfl) rfl ?_
                                          refine kw_wink hC hK_65 hN76 hP ht (w := o9) (k := 3) (by omega) (by decide) (lc0 _ (List.mem_of_getElem? (i := 3) rfl)) hl.1 (Nat.le_of_ble_eq_true rfl) ⟨Nat.le_of_ble_eq_true rfl, Nat.le_of_ble_eq_true rfl⟩ (dk kL_fits_3_ok 15 rfl) (r := pls c b o9) rfl ?_
                                          refine lv_iload hx hb (dk kL_fits_3_ok 16 rfl) (lv_at hl 4 rfl) ?_
                                          refine lv_icmp_ne (tgt := 357) hx hb (dk kL_fits_3_ok 17 rfl) (by decide) (fun h84 => ?_) (fun h84 => ?_)
                                          · skip
                                            refine lv_iinc (v := nI (o9 + 1)) (lv' := [(10, .int (nI (o9 + 1))), (4, .int (nI ((cnt (bot c b) i) + 1))), (3, .int (nI ((cnt (fun x => cov v x) i) + 0))), (9, .int (nI 1)), (8, .int (nI a9)), (7, .int (nI (i / 4))), (6, .int (nI q)), (5, .int (nI i)), (0, .ref (ad 0)), (1, .ref (ad 78)), (2, .ref (ad 79))]) hx hb (dk kL_fits_3_ok 20 rfl) hl (k := 0) rfl (n_inc _) (by decide) rfl (fun ls hl => ?_)
                                            refine lv_goto (tgt := 324) hx hb (dk kL_fits_3_ok 21 rfl) (by decide) ?_
                                            exact ih324 (o9 + 1) _ _ _ hK_65 h79_66 h77_67 h78_68 hP hS (by first | rfl | omega | assumption) (by omega) ls (lv_sub hl [0, 1, 2, 3, 4, 5, 6, 7, 8, 9, 10] rfl)
                                          · exact absurd h84 (pl_ne hR hRl h83 (by omega) ha9 (by omega))
                                  exact L324 _ 0 _ _ _ hK_60 h79_64 h77_62 h78_63 hP hS (by first | rfl | omega | assumption) (Nat.lt_succ_self _) ls (lv_sub hl [0, 1, 2, 3, 4, 5, 6, 7, 8, 9, 10] rfl)
                                · exact absurd rfl h81
              · skip
                have hpt : pot c i = true := pot_at.mpr h30
                have hvb := hRl.2.2 i (by omega) h30
                have hcf : cov v i = false := by unfold cov; rw [hvb.2]; decide
                have hbf : bot c b i = false := by unfold bot; rw [h30]; rfl
                refine lv_aload_n hx hb (dk kL_fits_0_ok 48 rfl) rfl (lv_at hl 6 rfl) ?_
                refine lv_iload hx hb (dk kL_fits_0_ok 49 rfl) (lv_at hl 0 rfl) ?_
                refine lv_dup2_11 hx hb (dk kL_fits_0_ok 50 rfl) rfl rfl ?_
                refine ald (j := (i / 4)) hx hb hK hP (by omega) h78_3 rfl (by omega) (by decide) (dk kL_fits_0_ok 51 rfl) ?_
                refine lv_iconst (v := nI 1) hx hb (dk kL_fits_0_ok 52 rfl) rfl ?_
                refine lv_iadd hx hb (dk kL_fits_0_ok 53 rfl) ?_
                refine ast (va_up F 78 (.inl (cI, 4, .inl (upd (fun k => nI (pk c k i)) (i / 4) (((fun k => nI (pk c k i)) (i / 4)) + (nI 1)))))) (k := 78) (j := i / 4) hx hb hC.2.2.2.2.2.1 hDi hP hS (by omega) h78_3 rfl (by omega) (by decide) (dk kL_fits_0_ok 54 rfl) rfl (fun H locs hP hS => ?_)
                have hK_70 : KW cI cQ ad (va_up F 78 (.inl (cI, 4, .inl (upd (fun k => nI (pk c k i)) (i / 4) (((fun k => nI (pk c k i)) (i / 4)) + (nI 1)))))) c b v g h j t u z m9 := KW_fr hK_1 (fun i hi => va_up_ne _ _ (by omega))
                have h78_71 : va_up F 78 (.inl (cI, 4, .inl (upd (fun k => nI (pk c k i)) (i / 4) (((fun k => nI (pk c k i)) (i / 4)) + (nI 1))))) 78 = .inl (cI, 4, .inl (upd (fun k => nI (pk c k i)) (i / 4) (((fun k => nI (pk c k i)) (i / 4)) + (nI 1)))) := va_up_self _ _ _
                have h77_72 : va_up F 78 (.inl (cI, 4, .inl (upd (fun k => nI (pk c k i)) (i / 4) (((fun k => nI (pk c k i)) (i / 4)) + (nI 1))))) 77 = .inl (cI, 4, .inl lo) := (va_up_ne _ _ (by decide)).trans h77_2
                have h79_73 : va_up F 78 (.inl (cI, 4, .inl (upd (fun k => nI (pk c k i)) (i / 4) (((fun k => nI (pk c k i)) (i / 4)) + (nI 1))))) 79 = .inl (cI, 4, .inl (fun k => nI (qk c v k i))) := (va_up_ne _ _ (by decide)).trans h79_4
                generalize va_up F 78 (.inl (cI, 4, .inl (upd (fun k => nI (pk c k i)) (i / 4) (((fun k => nI (pk c k i)) (i / 4)) + (nI 1))))) = F_69 at hP hK_70 h78_71 h77_72 h79_73
                have h78_74 : F_69 78 = .inl (cI, 4, .inl (fun k => nI (pk c k (i + 1)))) := by rw [h78_71]; exact congrArg (fun q => va_E9 cI 4 q) (pk_s hpt)
                refine lv_aload_n hx hb (dk kL_fits_0_ok 55 rfl) rfl (lv_at hl 7 rfl) ?_
                refine lv_iload hx hb (dk kL_fits_0_ok 56 rfl) (lv_at hl 0 rfl) ?_
                refine lv_dup2_11 hx hb (dk kL_fits_0_ok 57 rfl) rfl rfl ?_
                refine ald (j := (i / 4)) hx hb hK hP (by omega) h79_73 rfl (by omega) (by decide) (dk kL_fits_0_ok 58 rfl) ?_
                refine lv_iconst (v := nI 3) hx hb (dk kL_fits_0_ok 59 rfl) rfl ?_
                refine lv_iadd hx hb (dk kL_fits_1_ok 0 rfl) ?_
                refine ast (va_up F_69 79 (.inl (cI, 4, .inl (upd (fun k => nI (qk c v k i)) (i / 4) (((fun k => nI (qk c v k i)) (i / 4)) + (nI 3)))))) (k := 79) (j := i / 4) hx hb hC.2.2.2.2.2.1 hDi hP hS (by omega) h79_73 rfl (by omega) (by decide) (dk kL_fits_1_ok 1 rfl) rfl (fun H locs hP hS => ?_)
                have hK_76 : KW cI cQ ad (va_up F_69 79 (.inl (cI, 4, .inl (upd (fun k => nI (qk c v k i)) (i / 4) (((fun k => nI (qk c v k i)) (i / 4)) + (nI 3)))))) c b v g h j t u z m9 := KW_fr hK_70 (fun i hi => va_up_ne _ _ (by omega))
                have h79_77 : va_up F_69 79 (.inl (cI, 4, .inl (upd (fun k => nI (qk c v k i)) (i / 4) (((fun k => nI (qk c v k i)) (i / 4)) + (nI 3))))) 79 = .inl (cI, 4, .inl (upd (fun k => nI (qk c v k i)) (i / 4) (((fun k => nI (qk c v k i)) (i / 4)) + (nI 3)))) := va_up_self _ _ _
                have h78_78 : va_up F_69 79 (.inl (cI, 4, .inl (upd (fun k => nI (qk c v k i)) (i / 4) (((fun k => nI (qk c v k i)) (i / 4)) + (nI 3))))) 78 = .inl (cI, 4, .inl (fun k => nI (pk c k (i + 1)))) := (va_up_ne _ _ (by decide)).trans h78_74
                have h77_79 : va_up F_69 79 (.inl (cI, 4, .inl (upd (fun k => nI (qk c v k i)) (i / 4) (((fun k => nI (qk c v k i)) (i / 4)) + (nI 3))))) 77 = .inl (cI, 4, .inl lo) := (va_up_ne _ _ (by decide)).trans h77_72
                generalize va_up F_69 79 (.inl (cI, 4, .inl (upd (fun k => nI (qk c v k i)) (i / 4) (((fun k => nI (qk c v k i)) (i / 4)) + (nI 3))))) = F_75 at hP hK_76 h79_77 h78_78 h77_79
                have h79_80 : F_75 79 = .inl (cI, 4, .inl (fun k => nI (qk c v k (i + 1)))) := by rw [h79_77]; exact congrArg (fun q => va_E9 cI 4 q) (qk_s (ptx_3 h30))
                refine lv_aload_n hx hb (dk kL_fits_1_ok 2 rfl) rfl (lv_at hl 5 rfl) ?_
                refine lv_iload hx hb (dk kL_fits_1_ok 3 rfl) (lv_at hl 2 rfl) ?_
                refine lv_iconst (v := nI 3) hx hb (dk kL_fits_1_ok 4 rfl) rfl ?_
                refine kw_wink hC hK_76 hN76 hP ht (w := i) (k := 3) (by omega) (by decide) (lc0 _ (List.mem_of_getElem? (i := 3) rfl)) hl.1 (Nat.le_of_ble_eq_true rfl) ⟨Nat.le_of_ble_eq_true rfl, Nat.le_of_ble_eq_true rfl⟩ (dk kL_fits_1_ok 5 rfl) (r := -1) (show pls c b i = -1 from if_pos (pot_at.mp hpt)) ?_
                refine lv_iconst (v := -1) hx hb (dk kL_fits_1_ok 6 rfl) rfl ?_
                refine lv_icmp_ne (tgt := 140) hx hb (dk kL_fits_1_ok 7 rfl) (by decide) (fun h85 => ?_) (fun h85 => ?_)
                · exact absurd rfl h85
                · skip
                  refine lv_aload_n hx hb (dk kL_fits_1_ok 8 rfl) rfl (lv_at hl 5 rfl) ?_
                  refine lv_iload hx hb (dk kL_fits_1_ok 9 rfl) (lv_at hl 2 rfl) ?_
                  refine lv_iconst (v := nI 4) hx hb (dk kL_fits_1_ok 10 rfl) rfl ?_
                  refine kw_wink hC hK_76 hN76 hP ht (w := i) (k := 4) (by omega) (by decide) (lc0 _ (List.mem_of_getElem? (i := 3) rfl)) hl.1 (Nat.le_of_ble_eq_true rfl) ⟨Nat.le_of_ble_eq_true rfl, Nat.le_of_ble_eq_true rfl⟩ (dk kL_fits_1_ok 11 rfl) (r := bI (cov v i)) rfl ?_
                  refine b_if_ne (tgt := 140) hx hb (dk kL_fits_1_ok 12 rfl) (by decide) (fun h86 => ?_) (fun h86 => ?_)
                  · exact absurd (hcf.symm.trans h86) (by decide)
                  · skip
                    refine lv_aload_n hx hb (dk kL_fits_1_ok 13 rfl) rfl (lv_at hl 5 rfl) ?_
                    refine lv_iload hx hb (dk kL_fits_1_ok 14 rfl) (lv_at hl 2 rfl) ?_
                    refine kw_flights hC hK_76 hN76 hP (w := i) (by omega) hpt (lc0 _ (List.mem_of_getElem? (i := 4) rfl)) hl.1 (Nat.le_of_ble_eq_true rfl) ⟨Nat.le_of_ble_eq_true rfl, Nat.le_of_ble_eq_true rfl⟩ (dk kL_fits_1_ok 15 rfl) (r := nI 0) rfl ?_
                    refine n_if_ne (tgt := 140) hx hb (by decide) (dk kL_fits_1_ok 16 rfl) (by decide) (fun h9 => absurd h9 (by decide)) ?_
                    intro _
                    refine lv_aload_n hx hb (dk kL_fits_1_ok 17 rfl) rfl (lv_at hl 5 rfl) ?_
                    refine lv_iload hx hb (dk kL_fits_1_ok 18 rfl) (lv_at hl 2 rfl) ?_
                    refine lv_iconst (v := nI 0) hx hb (dk kL_fits_1_ok 19 rfl) rfl ?_
                    refine lv_iconst (v := nI 1) hx hb (dk kL_fits_1_ok 20 rfl) rfl ?_
                    refine kw_lands hC hK_76 hN76 hP (w := i) (by omega) (d := 0) (f := 1) (by decide) (by decide) (lc0 _ (List.mem_of_getElem? (i := 5) rfl)) hl.1 (Nat.le_of_ble_eq_true rfl) ⟨Nat.le_of_ble_eq_true rfl, Nat.le_of_ble_eq_true rfl⟩ (dk kL_fits_1_ok 21 rfl) (r := -2) (show cLan c i (nI 0) 1 = -2 from if_pos hpt) ?_
                    refine lv_bipush (v := -2) hx hb (dk kL_fits_1_ok 22 rfl) rfl ?_
                    refine lv_icmp_eq (tgt := 363) hx hb (dk kL_fits_1_ok 23 rfl) (by decide) (fun h87 => ?_) (fun h87 => ?_)
                    · skip
                      refine lv_iinc (v := nI (i + 1)) (lv' := [(5, .int (nI (i + 1))), (7, .int (nI (i / 4))), (6, .int (c i)), (4, .int (nI (cnt (bot c b) i))), (3, .int (nI (cnt (fun x => cov v x) i))), (0, .ref (ad 0)), (1, .ref (ad 78)), (2, .ref (ad 79))]) hx hb (dk kL_fits_3_ok 22 rfl) hl (k := 2) rfl (n_inc _) (by decide) rfl (fun ls hl => ?_)
                      refine lv_goto (tgt := 16) hx hb (dk kL_fits_3_ok 23 rfl) (by decide) ?_
                      exact ih16 (i + 1) _ _ _ _ _ hK_76 h77_79 h78_78 h79_80 hP hS (by rw [cn_f hbf]) (by rw [cn_f (p := fun x => cov v x) hcf]) (by first | rfl | omega | assumption) (by omega) ls (lv_sub hl [0, 3, 4, 5, 6, 7] rfl)
                    · exact absurd rfl h87
            · exact absurd (show (if i % 4 < 2 then nI 1 else nI 0) = nI 0 from if_neg (by omega)) h29
          · skip
            refine lv_iconst (v := nI 1) hx hb (dk kL_fits_0_ok 39 rfl) rfl ?_
            refine lv_goto (tgt := 70) hx hb (dk kL_fits_0_ok 40 rfl) (by decide) ?_
            refine lv_icmp_eq (tgt := 75) hx hb (dk kL_fits_0_ok 42 rfl) (by decide) (fun h88 => ?_) (fun h88 => ?_)
            · skip
              refine lv_iload hx hb (dk kL_fits_0_ok 45 rfl) (lv_at hl 1 rfl) ?_
              refine lv_iconst (v := -1) hx hb (dk kL_fits_0_ok 46 rfl) rfl ?_
              refine lv_icmp_ne (tgt := 142) hx hb (dk kL_fits_0_ok 47 rfl) (by decide) (fun h89 => ?_) (fun h89 => ?_)
              · skip
                have hpf : pot c i = false := by unfold pot; exact decide_eq_false h89
                obtain ⟨q, a9, ha9, hWq⟩ := (hR.2.2 i (by omega)).resolve_left h89
                have hcq := (hR.1 q a9 ha9).2.2.2
                have hq169 := (hR.1 q a9 ha9).2.1
                have hq84 := (hR.1 q a9 ha9).2.2.1
                have hpl := pls_at hR hRl ha9
                have hcv := hRl.covN hR ha9
                have hbt := bot_at hR hRl ha9
                have hhq := hR.hgtN (q := q) (by omega)
                have ha16 := hR.i ha9
                have hN16 := hR.le (q := q) (by omega)
                have hbs := (bs_lt i).1
                rw [hWq] at hcq hpl hcv hbt
                rw [hcq] at hl
                refine lv_aload_n hx hb (dk kL_fits_1_ok 26 rfl) rfl (lv_at hl 5 rfl) ?_
                refine lv_iload hx hb (dk kL_fits_1_ok 27 rfl) (lv_at hl 2 rfl) ?_
                refine lv_iconst (v := nI 3) hx hb (dk kL_fits_1_ok 28 rfl) rfl ?_
                refine kw_wink hC hK_1 hN76 hP ht (w := i) (k := 3) (by omega) (by decide) (lc0 _ (List.mem_of_getElem? (i := 3) rfl)) hl.1 (Nat.le_of_ble_eq_true rfl) ⟨Nat.le_of_ble_eq_true rfl, Nat.le_of_ble_eq_true rfl⟩ (dk kL_fits_1_ok 29 rfl) (r := nI a9) (hpl) ?_
                refine lv_istore (lv' := [(8, .int (nI a9)), (7, .int (nI (i / 4))), (6, .int (nI q)), (5, .int (nI i)), (4, .int (nI (cnt (bot c b) i))), (3, .int (nI (cnt (fun x => cov v x) i))), (0, .ref (ad 0)), (1, .ref (ad 78)), (2, .ref (ad 79))]) hx hb (dk kL_fits_1_ok 30 rfl) hl (by decide) rfl (fun ls hl => ?_)
                refine lv_iload hx hb (dk kL_fits_1_ok 31 rfl) (lv_at hl 0 rfl) ?_
                refine lv_aload_n hx hb (dk kL_fits_1_ok 32 rfl) rfl (lv_at hl 6 rfl) ?_
                refine lv_iload hx hb (dk kL_fits_1_ok 33 rfl) (lv_at hl 2 rfl) ?_
                refine csR (As := [.ref (ad 0), .int (nI q)]) (r := .int (nI (Np q))) (rest := [.int (nI a9)]) ⟨hC.1, hC.2.1, hC.2.2.1, hC.2.2.2.1, hC.2.2.2.2.1⟩ (tL_manyN l D cI cQ cL ad 80 F hN76 hK_1 (q := q) (n := Np q) (by omega) (hhq)) (cwSL 2 hC.2.2.2.2.1 mcL_many (lc0 _ (List.mem_of_getElem? (i := 6) rfl)) msL_many mini_RL rfl rfl hdL_many ⟨Nat.le_of_ble_eq_true rfl, Nat.le_of_ble_eq_true rfl⟩) hC.2.2.2.2.2.1 hP hC.2.2.2.2.2.2.1 rfl hl.1 rfl (Nat.le_of_ble_eq_true rfl) ⟨Nat.le_of_ble_eq_true rfl, Nat.le_of_ble_eq_true rfl⟩ (dk kL_fits_1_ok 34 rfl) ?_
                refine lv_iconst (v := nI 1) hx hb (dk kL_fits_1_ok 35 rfl) rfl ?_
                refine n_isub hx hb (by omega) (dk kL_fits_1_ok 36 rfl) ?_
                refine n_icmp_ne (tgt := 168) hx hb (by omega) (by omega) (dk kL_fits_1_ok 37 rfl) (by decide) (fun h90 => ?_) (fun h90 => ?_)
                · skip
                  refine lv_iconst (v := nI 0) hx hb (dk kL_fits_1_ok 40 rfl) rfl ?_
                  refine lv_istore (lv' := [(9, .int (nI 0)), (8, .int (nI a9)), (7, .int (nI (i / 4))), (6, .int (nI q)), (5, .int (nI i)), (4, .int (nI (cnt (bot c b) i))), (3, .int (nI (cnt (fun x => cov v x) i))), (0, .ref (ad 0)), (1, .ref (ad 78)), (2, .ref (ad 79))]) hx hb (dk kL_fits_1_ok 41 rfl) hl (by decide) rfl (fun ls hl => ?_)
                  refine lv_iload_n hx hb (dk kL_fits_1_ok 42 rfl) rfl (lv_at hl 6 rfl) ?_
                  refine lv_iload hx hb (dk kL_fits_1_ok 43 rfl) (lv_at hl 0 rfl) ?_
                  refine n_if_eq (tgt := 181) hx hb (by decide) (dk kL_fits_1_ok 44 rfl) (by decide) ?_ (fun h9 => absurd h9 (by decide))
                  intro _
                  refine lv_iconst (v := nI 1) hx hb (dk kL_fits_1_ok 47 rfl) rfl ?_
                  refine n_iadd hx hb (dk kL_fits_1_ok 48 rfl) ?_
                  refine lv_istore_n (lv' := [(3, .int (nI ((cnt (fun x => cov v x) i) + 1))), (9, .int (nI 0)), (8, .int (nI a9)), (7, .int (nI (i / 4))), (6, .int (nI q)), (5, .int (nI i)), (4, .int (nI (cnt (bot c b) i))), (0, .ref (ad 0)), (1, .ref (ad 78)), (2, .ref (ad 79))]) hx hb (dk kL_fits_1_ok 49 rfl) rfl hl (by decide) rfl (fun ls hl => ?_)
                  refine lv_iload hx hb (dk kL_fits_1_ok 50 rfl) (lv_at hl 6 rfl) ?_
                  refine lv_iload hx hb (dk kL_fits_1_ok 51 rfl) (lv_at hl 2 rfl) ?_
                  refine n_if_ne (tgt := 195) hx hb (by omega) (dk kL_fits_1_ok 52 rfl) (by decide) (fun h91 => ?_) (fun h91 => ?_)
                  · skip
                    refine lv_iconst (v := nI 0) hx hb (dk kL_fits_1_ok 55 rfl) rfl ?_
                    refine n_iadd hx hb (dk kL_fits_1_ok 56 rfl) ?_
                    refine lv_istore (lv' := [(4, .int (nI ((cnt (bot c b) i) + 0))), (3, .int (nI ((cnt (fun x => cov v x) i) + 1))), (9, .int (nI 0)), (8, .int (nI a9)), (7, .int (nI (i / 4))), (6, .int (nI q)), (5, .int (nI i)), (0, .ref (ad 0)), (1, .ref (ad 78)), (2, .ref (ad 79))]) hx hb (dk kL_fits_1_ok 57 rfl) hl (by decide) rfl (fun ls hl => ?_)
                    refine lv_aload_n hx hb (dk kL_fits_1_ok 58 rfl) rfl (lv_at hl 9 rfl) ?_
                    refine lv_iload hx hb (dk kL_fits_1_ok 59 rfl) (lv_at hl 4 rfl) ?_
                    refine lv_dup2_11 hx hb (dk kL_fits_2_ok 0 rfl) rfl rfl ?_
                    refine ald (j := (i / 4)) hx hb hK hP (by omega) h79_4 rfl (by omega) (by decide) (dk kL_fits_2_ok 1 rfl) ?_
                    refine lv_iload hx hb (dk kL_fits_2_ok 2 rfl) (lv_at hl 2 rfl) ?_
                    refine n_if_eq (tgt := 223) hx hb (by decide) (dk kL_fits_2_ok 3 rfl) (by decide) ?_ (fun h9 => absurd h9 (by decide))
                    intro _
                    refine lv_iconst (v := nI 0) hx hb (dk kL_fits_2_ok 10 rfl) rfl ?_
                    refine lv_iadd hx hb (dk kL_fits_2_ok 11 rfl) ?_
                    refine ast (va_up F 79 (.inl (cI, 4, .inl (upd (fun k => nI (qk c v k i)) (i / 4) (((fun k => nI (qk c v k i)) (i / 4)) + (nI 0)))))) (k := 79) (j := i / 4) hx hb hC.2.2.2.2.2.1 hDi hP hS (by omega) h79_4 rfl (by omega) (by decide) (dk kL_fits_2_ok 12 rfl) rfl (fun H locs hP hS => ?_)
                    have hK_82 : KW cI cQ ad (va_up F 79 (.inl (cI, 4, .inl (upd (fun k => nI (qk c v k i)) (i / 4) (((fun k => nI (qk c v k i)) (i / 4)) + (nI 0)))))) c b v g h j t u z m9 := KW_fr hK_1 (fun i hi => va_up_ne _ _ (by omega))
                    have h79_83 : va_up F 79 (.inl (cI, 4, .inl (upd (fun k => nI (qk c v k i)) (i / 4) (((fun k => nI (qk c v k i)) (i / 4)) + (nI 0))))) 79 = .inl (cI, 4, .inl (upd (fun k => nI (qk c v k i)) (i / 4) (((fun k => nI (qk c v k i)) (i / 4)) + (nI 0)))) := va_up_self _ _ _
                    have h77_84 : va_up F 79 (.inl (cI, 4, .inl (upd (fun k => nI (qk c v k i)) (i / 4) (((fun k => nI (qk c v k i)) (i / 4)) + (nI 0))))) 77 = .inl (cI, 4, .inl lo) := (va_up_ne _ _ (by decide)).trans h77_2
                    have h78_85 : va_up F 79 (.inl (cI, 4, .inl (upd (fun k => nI (qk c v k i)) (i / 4) (((fun k => nI (qk c v k i)) (i / 4)) + (nI 0))))) 78 = .inl (cI, 4, .inl (fun k => nI (pk c k i))) := (va_up_ne _ _ (by decide)).trans h78_3
                    generalize va_up F 79 (.inl (cI, 4, .inl (upd (fun k => nI (qk c v k i)) (i / 4) (((fun k => nI (qk c v k i)) (i / 4)) + (nI 0))))) = F_81 at hP hK_82 h79_83 h77_84 h78_85
                    have h79_86 : F_81 79 = .inl (cI, 4, .inl (fun k => nI (qk c v k (i + 1)))) := by rw [h79_83]; exact congrArg (fun q => va_E9 cI 4 q) (qk_s (ptx_0 h89 (hcv.trans (decide_eq_true (by omega)))))
                    refine lv_iload hx hb (dk kL_fits_2_ok 13 rfl) (lv_at hl 5 rfl) ?_
                    refine lv_bipush (v := nI 84) hx hb (dk kL_fits_2_ok 14 rfl) rfl ?_
                    refine n_icmp_eq (tgt := 319) hx hb (by omega) (by decide) (dk kL_fits_2_ok 15 rfl) (by decide) (fun h92 => ?_) (fun h92 => ?_)
                    · exact absurd h92 hq84
                    · skip
                      refine lv_iload hx hb (dk kL_fits_2_ok 16 rfl) (lv_at hl 3 rfl) ?_
                      refine n_if_lt (tgt := 319) hx hb (by omega) (dk kL_fits_2_ok 17 rfl) (by decide) ?_
                      refine lv_iload hx hb (dk kL_fits_2_ok 18 rfl) (lv_at hl 3 rfl) ?_
                      refine lv_aload_n hx hb (dk kL_fits_2_ok 19 rfl) rfl (lv_at hl 7 rfl) ?_
                      refine lv_iload hx hb (dk kL_fits_2_ok 20 rfl) (lv_at hl 5 rfl) ?_
                      refine csR (As := [.ref (ad 0), .int (nI q)]) (r := .int (nI (Np q))) (rest := [.int (nI a9)]) ⟨hC.1, hC.2.1, hC.2.2.1, hC.2.2.2.1, hC.2.2.2.2.1⟩ (tL_manyN l D cI cQ cL ad 80 F_81 hN76 hK_82 (q := q) (n := Np q) (by omega) (hhq)) (cwSL 2 hC.2.2.2.2.1 mcL_many (lc0 _ (List.mem_of_getElem? (i := 6) rfl)) msL_many mini_RL rfl rfl hdL_many ⟨Nat.le_of_ble_eq_true rfl, Nat.le_of_ble_eq_true rfl⟩) hC.2.2.2.2.2.1 hP hC.2.2.2.2.2.2.1 rfl hl.1 rfl (Nat.le_of_ble_eq_true rfl) ⟨Nat.le_of_ble_eq_true rfl, Nat.le_of_ble_eq_true rfl⟩ (dk kL_fits_2_ok 21 rfl) ?_
                      refine n_icmp_ge (tgt := 319) hx hb (by omega) (by omega) (dk kL_fits_2_ok 22 rfl) (by decide) (fun h93 => ?_) (fun h93 => ?_)
                      · exact absurd h93 (by omega)
                      · skip
                        refine lv_aload_n hx hb (dk kL_fits_2_ok 23 rfl) rfl (lv_at hl 7 rfl) ?_
                        refine lv_iload hx hb (dk kL_fits_2_ok 24 rfl) (lv_at hl 6 rfl) ?_
                        refine lv_iconst (v := nI 4) hx hb (dk kL_fits_2_ok 25 rfl) rfl ?_
                        refine kw_wink hC hK_82 hN76 hP ht (w := i) (k := 4) (by omega) (by decide) (lc0 _ (List.mem_of_getElem? (i := 3) rfl)) hl.1 (Nat.le_of_ble_eq_true rfl) ⟨Nat.le_of_ble_eq_true rfl, Nat.le_of_ble_eq_true rfl⟩ (dk kL_fits_2_ok 26 rfl) (r := bI (cov v i)) rfl ?_
                        refine lv_iload hx hb (dk kL_fits_2_ok 27 rfl) (lv_at hl 2 rfl) ?_
                        refine n_if_eq (tgt := 265) hx hb (by decide) (dk kL_fits_2_ok 28 rfl) (by decide) ?_ (fun h9 => absurd h9 (by decide))
                        intro _
                        refine lv_iconst (v := nI 1) hx hb (dk kL_fits_2_ok 31 rfl) rfl ?_
                        refine lv_icmp_ne (tgt := 319) hx hb (dk kL_fits_2_ok 32 rfl) (by decide) (fun h94 => ?_) (fun h94 => ?_)
                        · exact absurd (bI_t (hcv.trans (decide_eq_true (by omega)))) h94
                        · skip
                          refine lv_iload hx hb (dk kL_fits_2_ok 33 rfl) (lv_at hl 2 rfl) ?_
                          refine n_if_eq (tgt := 294) hx hb (by decide) (dk kL_fits_2_ok 34 rfl) (by decide) ?_ (fun h9 => absurd h9 (by decide))
                          intro _
                          refine lv_iload hx hb (dk kL_fits_2_ok 46 rfl) (lv_at hl 3 rfl) ?_
                          refine n_if_ne (tgt := 321) hx hb (by omega) (dk kL_fits_2_ok 47 rfl) (by decide) (fun h95 => ?_) (fun h95 => ?_)
                          · skip
                            have hz9 : ¬ a9 = 0 := h95
                            have hi16 : i < 16 := by omega
                            refine lv_iconst (v := nI 0) hx hb (dk kL_fits_3_ok 1 rfl) rfl ?_
                            refine lv_istore (lv' := [(10, .int (nI 0)), (4, .int (nI ((cnt (bot c b) i) + 0))), (3, .int (nI ((cnt (fun x => cov v x) i) + 1))), (9, .int (nI 0)), (8, .int (nI a9)), (7, .int (nI (i / 4))), (6, .int (nI q)), (5, .int (nI i)), (0, .ref (ad 0)), (1, .ref (ad 78)), (2, .ref (ad 79))]) hx hb (dk kL_fits_3_ok 2 rfl) hl (by decide) rfl (fun ls hl => ?_)
                            have L324 : ∀ (fu : Nat) (o9 : Nat) (F : Nat → va_E) (H : Heap) (locs : List Loc), KW cI cQ ad F c b v g h j t u z m9 → F 79 = .inl (cI, 4, .inl (fun k => nI (qk c v k (i + 1)))) → F 77 = .inl (cI, 4, .inl lo) → F 78 = .inl (cI, 4, .inl (fun k => nI (pk c k i))) → va_P D vwCl (iW ad 80 F) H → va_S (iA ad 80 s.heap.size) s.heap H locs → (o9 ≤ i) → i - o9 < fu → ∀ ls : Array Slot, lv_has ls 11 [(10, .int (nI o9)), (4, .int (nI ((cnt (bot c b) i) + 0))), (3, .int (nI ((cnt (fun x => cov v x) i) + 1))), (9, .int (nI 0)), (8, .int (nI a9)), (7, .int (nI (i / 4))), (6, .int (nI q)), (5, .int (nI i)), (0, .ref (ad 0)), (1, .ref (ad 78)), (2, .ref (ad 79))] → W p l e ({ frames := 11, cells := 2, slots := 8, locals := 400 } : Room) s m AR below meth cd H locs 2 8 Q (F0 m 324 ls []) := by
                              intro fu
                              induction fu with
                              | zero => intros; omega
                              | succ fu ih324 =>
                                intro o9 F H locs hK_87 h79_88 h77_89 h78_90 hP hS ho9 hme324 ls hl
                                refine lv_iload hx hb (dk kL_fits_3_ok 3 rfl) (lv_at hl 0 rfl) ?_
                                refine lv_iload hx hb (dk kL_fits_3_ok 4 rfl) (lv_at hl 7 rfl) ?_
                                refine n_icmp_ge (tgt := 363) hx hb (by omega) (by omega) (dk kL_fits_3_ok 5 rfl) (by decide) (fun h96 => ?_) (fun h96 => ?_)
                                · skip
                                  refine lv_iinc (v := nI (i + 1)) (lv' := [(5, .int (nI (i + 1))), (10, .int (nI o9)), (4, .int (nI ((cnt (bot c b) i) + 0))), (3, .int (nI ((cnt (fun x => cov v x) i) + 1))), (9, .int (nI 0)), (8, .int (nI a9)), (7, .int (nI (i / 4))), (6, .int (nI q)), (0, .ref (ad 0)), (1, .ref (ad 78)), (2, .ref (ad 79))]) hx hb (dk kL_fits_3_ok 22 rfl) hl (k := 7) rfl (n_inc _) (by decide) rfl (fun ls hl => ?_)
                                  refine lv_goto (tgt := 16) hx hb (dk kL_fits_3_ok 23 rfl) (by decide) ?_
                                  exact ih16 (i + 1) _ _ _ _ _ hK_87 h77_89 (by rw [← pk_n hpf]; exact h78_90) h79_88 hP hS (by rw [cn_f (hbt.trans (decide_eq_false hz9)), Nat.add_zero]) (by rw [cn_t (p := fun x => cov v x) (hcv.trans (decide_eq_true (by omega)))]) (by first | rfl | omega | assumption) (by omega) ls (lv_sub hl [0, 2, 3, 8, 9, 10] rfl)
                                · skip
                                  refine lv_aload_n hx hb (dk kL_fits_3_ok 6 rfl) rfl (lv_at hl 8 rfl) ?_
                                  refine lv_iload hx hb (dk kL_fits_3_ok 7 rfl) (lv_at hl 0 rfl) ?_
                                  refine lv_iconst (v := nI 2) hx hb (dk kL_fits_3_ok 8 rfl) rfl ?_
                                  refine kw_wink hC hK_87 hN76 hP ht (w := o9) (k := 2) (by omega) (by decide) (lc0 _ (List.mem_of_getElem? (i := 3) rfl)) hl.1 (Nat.le_of_ble_eq_true rfl) ⟨Nat.le_of_ble_eq_true rfl, Nat.le_of_ble_eq_true rfl⟩ (dk kL_fits_3_ok 9 rfl) (r := c o9) rfl ?_
                                  refine lv_iload hx hb (dk kL_fits_3_ok 10 rfl) (lv_at hl 6 rfl) ?_
                                  refine lv_icmp_ne (tgt := 357) hx hb (dk kL_fits_3_ok 11 rfl) (by decide) (fun h97 => ?_) (fun h97 => ?_)
                                  · skip
                                    refine lv_iinc (v := nI (o9 + 1)) (lv' := [(10, .int (nI (o9 + 1))), (4, .int (nI ((cnt (bot c b) i) + 0))), (3, .int (nI ((cnt (fun x => cov v x) i) + 1))), (9, .int (nI 0)), (8, .int (nI a9)), (7, .int (nI (i / 4))), (6, .int (nI q)), (5, .int (nI i)), (0, .ref (ad 0)), (1, .ref (ad 78)), (2, .ref (ad 79))]) hx hb (dk kL_fits_3_ok 20 rfl) hl (k := 0) rfl (n_inc _) (by decide) rfl (fun ls hl => ?_)
                                    refine lv_goto (tgt := 324) hx hb (dk kL_fits_3_ok 21 rfl) (by decide) ?_
                                    exact ih324 (o9 + 1) _ _ _ hK_87 h79_88 h77_89 h78_90 hP hS (by first | rfl | omega | assumption) (by omega) ls (lv_sub hl [0, 1, 2, 3, 4, 5, 6, 7, 8, 9, 10] rfl)
                                  · skip
                                    refine lv_aload_n hx hb (dk kL_fits_3_ok 12 rfl) rfl (lv_at hl 8 rfl) ?_
                                    refine lv_iload hx hb (dk kL_fits_3_ok 13 rfl) (lv_at hl 0 rfl) ?_
                                    refine lv_iconst (v := nI 3) hx hb (dk kL_fits_3_ok 14 rfl) rfl ?_
                                    refine kw_wink hC hK_87 hN76 hP ht (w := o9) (k := 3) (by omega) (by decide) (lc0 _ (List.mem_of_getElem? (i := 3) rfl)) hl.1 (Nat.le_of_ble_eq_true rfl) ⟨Nat.le_of_ble_eq_true rfl, Nat.le_of_ble_eq_true rfl⟩ (dk kL_fits_3_ok 15 rfl) (r := pls c b o9) rfl ?_
                                    refine lv_iload hx hb (dk kL_fits_3_ok 16 rfl) (lv_at hl 4 rfl) ?_
                                    refine lv_icmp_ne (tgt := 357) hx hb (dk kL_fits_3_ok 17 rfl) (by decide) (fun h98 => ?_) (fun h98 => ?_)
                                    · skip
                                      refine lv_iinc (v := nI (o9 + 1)) (lv' := [(10, .int (nI (o9 + 1))), (4, .int (nI ((cnt (bot c b) i) + 0))), (3, .int (nI ((cnt (fun x => cov v x) i) + 1))), (9, .int (nI 0)), (8, .int (nI a9)), (7, .int (nI (i / 4))), (6, .int (nI q)), (5, .int (nI i)), (0, .ref (ad 0)), (1, .ref (ad 78)), (2, .ref (ad 79))]) hx hb (dk kL_fits_3_ok 20 rfl) hl (k := 0) rfl (n_inc _) (by decide) rfl (fun ls hl => ?_)
                                      refine lv_goto (tgt := 324) hx hb (dk kL_fits_3_ok 21 rfl) (by decide) ?_
                                      exact ih324 (o9 + 1) _ _ _ hK_87 h79_88 h77_89 h78_90 hP hS (by first | rfl | omega | assumption) (by omega) ls (lv_sub hl [0, 1, 2, 3, 4, 5, 6, 7, 8, 9, 10] rfl)
                                    · exact absurd h98 (pl_ne hR hRl h97 (by omega) ha9 (by omega))
                            exact L324 _ 0 _ _ _ hK_82 h79_86 h77_84 h78_85 hP hS (by first | rfl | omega | assumption) (Nat.lt_succ_self _) ls (lv_sub hl [0, 1, 2, 3, 4, 5, 6, 7, 8, 9, 10] rfl)
                          · exact absurd h95 h91
                  · skip
                    refine lv_iconst (v := nI 1) hx hb (dk kL_fits_1_ok 53 rfl) rfl ?_
                    refine lv_goto (tgt := 196) hx hb (dk kL_fits_1_ok 54 rfl) (by decide) ?_
                    refine n_iadd hx hb (dk kL_fits_1_ok 56 rfl) ?_
                    refine lv_istore (lv' := [(4, .int (nI ((cnt (bot c b) i) + 1))), (3, .int (nI ((cnt (fun x => cov v x) i) + 1))), (9, .int (nI 0)), (8, .int (nI a9)), (7, .int (nI (i / 4))), (6, .int (nI q)), (5, .int (nI i)), (0, .ref (ad 0)), (1, .ref (ad 78)), (2, .ref (ad 79))]) hx hb (dk kL_fits_1_ok 57 rfl) hl (by decide) rfl (fun ls hl => ?_)
                    refine lv_aload_n hx hb (dk kL_fits_1_ok 58 rfl) rfl (lv_at hl 9 rfl) ?_
                    refine lv_iload hx hb (dk kL_fits_1_ok 59 rfl) (lv_at hl 4 rfl) ?_
                    refine lv_dup2_11 hx hb (dk kL_fits_2_ok 0 rfl) rfl rfl ?_
                    refine ald (j := (i / 4)) hx hb hK hP (by omega) h79_4 rfl (by omega) (by decide) (dk kL_fits_2_ok 1 rfl) ?_
                    refine lv_iload hx hb (dk kL_fits_2_ok 2 rfl) (lv_at hl 2 rfl) ?_
                    refine n_if_eq (tgt := 223) hx hb (by decide) (dk kL_fits_2_ok 3 rfl) (by decide) ?_ (fun h9 => absurd h9 (by decide))
                    intro _
                    refine lv_iconst (v := nI 0) hx hb (dk kL_fits_2_ok 10 rfl) rfl ?_
                    refine lv_iadd hx hb (dk kL_fits_2_ok 11 rfl) ?_
                    refine ast (va_up F 79 (.inl (cI, 4, .inl (upd (fun k => nI (qk c v k i)) (i / 4) (((fun k => nI (qk c v k i)) (i / 4)) + (nI 0)))))) (k := 79) (j := i / 4) hx hb hC.2.2.2.2.2.1 hDi hP hS (by omega) h79_4 rfl (by omega) (by decide) (dk kL_fits_2_ok 12 rfl) rfl (fun H locs hP hS => ?_)
                    have hK_92 : KW cI cQ ad (va_up F 79 (.inl (cI, 4, .inl (upd (fun k => nI (qk c v k i)) (i / 4) (((fun k => nI (qk c v k i)) (i / 4)) + (nI 0)))))) c b v g h j t u z m9 := KW_fr hK_1 (fun i hi => va_up_ne _ _ (by omega))
                    have h79_93 : va_up F 79 (.inl (cI, 4, .inl (upd (fun k => nI (qk c v k i)) (i / 4) (((fun k => nI (qk c v k i)) (i / 4)) + (nI 0))))) 79 = .inl (cI, 4, .inl (upd (fun k => nI (qk c v k i)) (i / 4) (((fun k => nI (qk c v k i)) (i / 4)) + (nI 0)))) := va_up_self _ _ _
                    have h77_94 : va_up F 79 (.inl (cI, 4, .inl (upd (fun k => nI (qk c v k i)) (i / 4) (((fun k => nI (qk c v k i)) (i / 4)) + (nI 0))))) 77 = .inl (cI, 4, .inl lo) := (va_up_ne _ _ (by decide)).trans h77_2
                    have h78_95 : va_up F 79 (.inl (cI, 4, .inl (upd (fun k => nI (qk c v k i)) (i / 4) (((fun k => nI (qk c v k i)) (i / 4)) + (nI 0))))) 78 = .inl (cI, 4, .inl (fun k => nI (pk c k i))) := (va_up_ne _ _ (by decide)).trans h78_3
                    generalize va_up F 79 (.inl (cI, 4, .inl (upd (fun k => nI (qk c v k i)) (i / 4) (((fun k => nI (qk c v k i)) (i / 4)) + (nI 0))))) = F_91 at hP hK_92 h79_93 h77_94 h78_95
                    have h79_96 : F_91 79 = .inl (cI, 4, .inl (fun k => nI (qk c v k (i + 1)))) := by rw [h79_93]; exact congrArg (fun q => va_E9 cI 4 q) (qk_s (ptx_0 h89 (hcv.trans (decide_eq_true (by omega)))))
                    refine lv_iload hx hb (dk kL_fits_2_ok 13 rfl) (lv_at hl 5 rfl) ?_
                    refine lv_bipush (v := nI 84) hx hb (dk kL_fits_2_ok 14 rfl) rfl ?_
                    refine n_icmp_eq (tgt := 319) hx hb (by omega) (by decide) (dk kL_fits_2_ok 15 rfl) (by decide) (fun h99 => ?_) (fun h99 => ?_)
                    · exact absurd h99 hq84
                    · skip
                      refine lv_iload hx hb (dk kL_fits_2_ok 16 rfl) (lv_at hl 3 rfl) ?_
                      refine n_if_lt (tgt := 319) hx hb (by omega) (dk kL_fits_2_ok 17 rfl) (by decide) ?_
                      refine lv_iload hx hb (dk kL_fits_2_ok 18 rfl) (lv_at hl 3 rfl) ?_
                      refine lv_aload_n hx hb (dk kL_fits_2_ok 19 rfl) rfl (lv_at hl 7 rfl) ?_
                      refine lv_iload hx hb (dk kL_fits_2_ok 20 rfl) (lv_at hl 5 rfl) ?_
                      refine csR (As := [.ref (ad 0), .int (nI q)]) (r := .int (nI (Np q))) (rest := [.int (nI a9)]) ⟨hC.1, hC.2.1, hC.2.2.1, hC.2.2.2.1, hC.2.2.2.2.1⟩ (tL_manyN l D cI cQ cL ad 80 F_91 hN76 hK_92 (q := q) (n := Np q) (by omega) (hhq)) (cwSL 2 hC.2.2.2.2.1 mcL_many (lc0 _ (List.mem_of_getElem? (i := 6) rfl)) msL_many mini_RL rfl rfl hdL_many ⟨Nat.le_of_ble_eq_true rfl, Nat.le_of_ble_eq_true rfl⟩) hC.2.2.2.2.2.1 hP hC.2.2.2.2.2.2.1 rfl hl.1 rfl (Nat.le_of_ble_eq_true rfl) ⟨Nat.le_of_ble_eq_true rfl, Nat.le_of_ble_eq_true rfl⟩ (dk kL_fits_2_ok 21 rfl) ?_
                      refine n_icmp_ge (tgt := 319) hx hb (by omega) (by omega) (dk kL_fits_2_ok 22 rfl) (by decide) (fun h100 => ?_) (fun h100 => ?_)
                      · exact absurd h100 (by omega)
                      · skip
                        refine lv_aload_n hx hb (dk kL_fits_2_ok 23 rfl) rfl (lv_at hl 7 rfl) ?_
                        refine lv_iload hx hb (dk kL_fits_2_ok 24 rfl) (lv_at hl 6 rfl) ?_
                        refine lv_iconst (v := nI 4) hx hb (dk kL_fits_2_ok 25 rfl) rfl ?_
                        refine kw_wink hC hK_92 hN76 hP ht (w := i) (k := 4) (by omega) (by decide) (lc0 _ (List.mem_of_getElem? (i := 3) rfl)) hl.1 (Nat.le_of_ble_eq_true rfl) ⟨Nat.le_of_ble_eq_true rfl, Nat.le_of_ble_eq_true rfl⟩ (dk kL_fits_2_ok 26 rfl) (r := bI (cov v i)) rfl ?_
                        refine lv_iload hx hb (dk kL_fits_2_ok 27 rfl) (lv_at hl 2 rfl) ?_
                        refine n_if_eq (tgt := 265) hx hb (by decide) (dk kL_fits_2_ok 28 rfl) (by decide) ?_ (fun h9 => absurd h9 (by decide))
                        intro _
                        refine lv_iconst (v := nI 1) hx hb (dk kL_fits_2_ok 31 rfl) rfl ?_
                        refine lv_icmp_ne (tgt := 319) hx hb (dk kL_fits_2_ok 32 rfl) (by decide) (fun h101 => ?_) (fun h101 => ?_)
                        · exact absurd (bI_t (hcv.trans (decide_eq_true (by omega)))) h101
                        · skip
                          refine lv_iload hx hb (dk kL_fits_2_ok 33 rfl) (lv_at hl 2 rfl) ?_
                          refine n_if_eq (tgt := 294) hx hb (by decide) (dk kL_fits_2_ok 34 rfl) (by decide) ?_ (fun h9 => absurd h9 (by decide))
                          intro _
                          refine lv_iload hx hb (dk kL_fits_2_ok 46 rfl) (lv_at hl 3 rfl) ?_
                          refine n_if_ne (tgt := 321) hx hb (by omega) (dk kL_fits_2_ok 47 rfl) (by decide) (fun h102 => ?_) (fun h102 => ?_)
                          · exact absurd h91 h102
                          · skip
                            refine lv_aload_n hx hb (dk kL_fits_2_ok 48 rfl) rfl (lv_at hl 7 rfl) ?_
                            refine lv_iload hx hb (dk kL_fits_2_ok 49 rfl) (lv_at hl 5 rfl) ?_
                            refine lv_bipush (v := nI 13) hx hb (dk kL_fits_2_ok 50 rfl) rfl ?_
                            refine n_irem hx hb (by omega) (by decide) (by decide) (dk kL_fits_2_ok 51 rfl) ?_
                            refine lv_iload hx hb (dk kL_fits_2_ok 52 rfl) (lv_at hl 5 rfl) ?_
                            refine lv_bipush (v := nI 13) hx hb (dk kL_fits_2_ok 53 rfl) rfl ?_
                            refine n_idiv hx hb (by omega) (by decide) (by decide) (dk kL_fits_2_ok 54 rfl) ?_
                            refine lv_iconst (v := nI 2) hx hb (dk kL_fits_2_ok 55 rfl) rfl ?_
                            refine kw_pile hC hK_92 hN76 hP (q := q) (by omega) (k := 2) (by decide) (lc0 _ (List.mem_of_getElem? (i := 2) rfl)) hl.1 (Nat.le_of_ble_eq_true rfl) ⟨Nat.le_of_ble_eq_true rfl, Nat.le_of_ble_eq_true rfl⟩ (dk kL_fits_2_ok 56 rfl) (r := nI i) (by rw [cat_q]; show top c b (nI q) = nI i; rw [hRl.topb hR (by omega), if_neg (by omega), ← hWq, h102]) ?_
                            refine lv_iload hx hb (dk kL_fits_2_ok 57 rfl) (lv_at hl 6 rfl) ?_
                            refine n_icmp_eq (tgt := 321) hx hb (by omega) (by omega) (dk kL_fits_2_ok 58 rfl) (by decide) (fun h103 => ?_) (fun h103 => ?_)
                            · skip
                              have hz9 : a9 = 0 := h102
                              have hi16 : i < 16 := by omega
                              refine lv_iconst (v := nI 0) hx hb (dk kL_fits_3_ok 1 rfl) rfl ?_
                              refine lv_istore (lv' := [(10, .int (nI 0)), (4, .int (nI ((cnt (bot c b) i) + 1))), (3, .int (nI ((cnt (fun x => cov v x) i) + 1))), (9, .int (nI 0)), (8, .int (nI a9)), (7, .int (nI (i / 4))), (6, .int (nI q)), (5, .int (nI i)), (0, .ref (ad 0)), (1, .ref (ad 78)), (2, .ref (ad 79))]) hx hb (dk kL_fits_3_ok 2 rfl) hl (by decide) rfl (fun ls hl => ?_)
                              have L324 : ∀ (fu : Nat) (o9 : Nat) (F : Nat → va_E) (H : Heap) (locs : List Loc), KW cI cQ ad F c b v g h j t u z m9 → F 79 = .inl (cI, 4, .inl (fun k => nI (qk c v k (i + 1)))) → F 77 = .inl (cI, 4, .inl lo) → F 78 = .inl (cI, 4, .inl (fun k => nI (pk c k i))) → va_P D vwCl (iW ad 80 F) H → va_S (iA ad 80 s.heap.size) s.heap H locs → (o9 ≤ i) → i - o9 < fu → ∀ ls : Array Slot, lv_has ls 11 [(10, .int (nI o9)), (4, .int (nI ((cnt (bot c b) i) + 1))), (3, .int (nI ((cnt (fun x => cov v x) i) + 1))), (9, .int (nI 0)), (8, .int (nI a9)), (7, .int (nI (i / 4))), (6, .int (nI q)), (5, .int (nI i)), (0, .ref (ad 0)), (1, .ref (ad 78)), (2, .ref (ad 79))] → W p l e ({ frames := 11, cells := 2, slots := 8, locals := 400 } : Room) s m AR below meth cd H locs 2 8 Q (F0 m 324 ls []) := by
                                intro fu
                                induction fu with
                                | zero => intros; omega
                                | succ fu ih324 =>
                                  intro o9 F H locs hK_97 h79_98 h77_99 h78_100 hP hS ho9 hme324 ls hl
                                  refine lv_iload hx hb (dk kL_fits_3_ok 3 rfl) (lv_at hl 0 rfl) ?_
                                  refine lv_iload hx hb (dk kL_fits_3_ok 4 rfl) (lv_at hl 7 rfl) ?_
                                  refine n_icmp_ge (tgt := 363) hx hb (by omega) (by omega) (dk kL_fits_3_ok 5 rfl) (by decide) (fun h104 => ?_) (fun h104 => ?_)
                                  · skip
                                    refine lv_iinc (v := nI (i + 1)) (lv' := [(5, .int (nI (i + 1))), (10, .int (nI o9)), (4, .int (nI ((cnt (bot c b) i) + 1))), (3, .int (nI ((cnt (fun x => cov v x) i) + 1))), (9, .int (nI 0)), (8, .int (nI a9)), (7, .int (nI (i / 4))), (6, .int (nI q)), (0, .ref (ad 0)), (1, .ref (ad 78)), (2, .ref (ad 79))]) hx hb (dk kL_fits_3_ok 22 rfl) hl (k := 7) rfl (n_inc _) (by decide) rfl (fun ls hl => ?_)
                                    refine lv_goto (tgt := 16) hx hb (dk kL_fits_3_ok 23 rfl) (by decide) ?_
                                    exact ih16 (i + 1) _ _ _ _ _ hK_97 h77_99 (by rw [← pk_n hpf]; exact h78_100) h79_98 hP hS (by rw [cn_t (hbt.trans (decide_eq_true hz9))]) (by rw [cn_t (p := fun x => cov v x) (hcv.trans (decide_eq_true (by omega)))]) (by first | rfl | omega | assumption) (by omega) ls (lv_sub hl [0, 2, 3, 8, 9, 10] rfl)
                                  · skip
                                    refine lv_aload_n hx hb (dk kL_fits_3_ok 6 rfl) rfl (lv_at hl 8 rfl) ?_
                                    refine lv_iload hx hb (dk kL_fits_3_ok 7 rfl) (lv_at hl 0 rfl) ?_
                                    refine lv_iconst (v := nI 2) hx hb (dk kL_fits_3_ok 8 rfl) rfl ?_
                                    refine kw_wink hC hK_97 hN76 hP ht (w := o9) (k := 2) (by omega) (by decide) (lc0 _ (List.mem_of_getElem? (i := 3) rfl)) hl.1 (Nat.le_of_ble_eq_true rfl) ⟨Nat.le_of_ble_eq_true rfl, Nat.le_of_ble_eq_true rfl⟩ (dk kL_fits_3_ok 9 rfl) (r := c o9) rfl ?_
                                    refine lv_iload hx hb (dk kL_fits_3_ok 10 rfl) (lv_at hl 6 rfl) ?_
                                    refine lv_icmp_ne (tgt := 357) hx hb (dk kL_fits_3_ok 11 rfl) (by decide) (fun h105 => ?_) (fun h105 => ?_)
                                    · skip
                                      refine lv_iinc (v := nI (o9 + 1)) (lv' := [(10, .int (nI (o9 + 1))), (4, .int (nI ((cnt (bot c b) i) + 1))), (3, .int (nI ((cnt (fun x => cov v x) i) + 1))), (9, .int (nI 0)), (8, .int (nI a9)), (7, .int (nI (i / 4))), (6, .int (nI q)), (5, .int (nI i)), (0, .ref (ad 0)), (1, .ref (ad 78)), (2, .ref (ad 79))]) hx hb (dk kL_fits_3_ok 20 rfl) hl (k := 0) rfl (n_inc _) (by decide) rfl (fun ls hl => ?_)
                                      refine lv_goto (tgt := 324) hx hb (dk kL_fits_3_ok 21 rfl) (by decide) ?_
                                      exact ih324 (o9 + 1) _ _ _ hK_97 h79_98 h77_99 h78_100 hP hS (by first | rfl | omega | assumption) (by omega) ls (lv_sub hl [0, 1, 2, 3, 4, 5, 6, 7, 8, 9, 10] rfl)
                                    · skip
                                      refine lv_aload_n hx hb (dk kL_fits_3_ok 12 rfl) rfl (lv_at hl 8 rfl) ?_
                                      refine lv_iload hx hb (dk kL_fits_3_ok 13 rfl) (lv_at hl 0 rfl) ?_
                                      refine lv_iconst (v := nI 3) hx hb (dk kL_fits_3_ok 14 rfl) rfl ?_
                                      refine kw_wink hC hK_97 hN76 hP ht (w := o9) (k := 3) (by omega) (by decide) (lc0 _ (List.mem_of_getElem? (i := 3) rfl)) hl.1 (Nat.le_of_ble_eq_true rfl) ⟨Nat.le_of_ble_eq_true rfl, Nat.le_of_ble_eq_true rfl⟩ (dk kL_fits_3_ok 15 rfl) (r := pls c b o9) rfl ?_
                                      refine lv_iload hx hb (dk kL_fits_3_ok 16 rfl) (lv_at hl 4 rfl) ?_
                                      refine lv_icmp_ne (tgt := 357) hx hb (dk kL_fits_3_ok 17 rfl) (by decide) (fun h106 => ?_) (fun h106 => ?_)
                                      · skip
                                        refine lv_iinc (v := nI (o9 + 1)) (lv' := [(10, .int (nI (o9 + 1))), (4, .int (nI ((cnt (bot c b) i) + 1))), (3, .int (nI ((cnt (fun x => cov v x) i) + 1))), (9, .int (nI 0)), (8, .int (nI a9)), (7, .int (nI (i / 4))), (6, .int (nI q)), (5, .int (nI i)), (0, .ref (ad 0)), (1, .ref (ad 78)), (2, .ref (ad 79))]) hx hb (dk kL_fits_3_ok 20 rfl) hl (k := 0) rfl (n_inc _) (by decide) rfl (fun ls hl => ?_)
                                        refine lv_goto (tgt := 324) hx hb (dk kL_fits_3_ok 21 rfl) (by decide) ?_
                                        exact ih324 (o9 + 1) _ _ _ hK_97 h79_98 h77_99 h78_100 hP hS (by first | rfl | omega | assumption) (by omega) ls (lv_sub hl [0, 1, 2, 3, 4, 5, 6, 7, 8, 9, 10] rfl)
                                      · exact absurd h106 (pl_ne hR hRl h105 (by omega) ha9 (by omega))
                              exact L324 _ 0 _ _ _ hK_92 h79_96 h77_94 h78_95 hP hS (by first | rfl | omega | assumption) (Nat.lt_succ_self _) ls (lv_sub hl [0, 1, 2, 3, 4, 5, 6, 7, 8, 9, 10] rfl)
                            · exact absurd rfl h103
                · skip
                  refine lv_iconst (v := nI 1) hx hb (dk kL_fits_1_ok 38 rfl) rfl ?_
                  refine lv_goto (tgt := 169) hx hb (dk kL_fits_1_ok 39 rfl) (by decide) ?_
                  refine lv_istore (lv' := [(9, .int (nI 1)), (8, .int (nI a9)), (7, .int (nI (i / 4))), (6, .int (nI q)), (5, .int (nI i)), (4, .int (nI (cnt (bot c b) i))), (3, .int (nI (cnt (fun x => cov v x) i))), (0, .ref (ad 0)), (1, .ref (ad 78)), (2, .ref (ad 79))]) hx hb (dk kL_fits_1_ok 41 rfl) hl (by decide) rfl (fun ls hl => ?_)
                  refine lv_iload_n hx hb (dk kL_fits_1_ok 42 rfl) rfl (lv_at hl 6 rfl) ?_
                  refine lv_iload hx hb (dk kL_fits_1_ok 43 rfl) (lv_at hl 0 rfl) ?_
                  refine n_if_eq (tgt := 181) hx hb (by decide) (dk kL_fits_1_ok 44 rfl) (by decide) (fun h9 => absurd h9 (by decide)) ?_
                  intro _
                  refine lv_iconst (v := nI 0) hx hb (dk kL_fits_1_ok 45 rfl) rfl ?_
                  refine lv_goto (tgt := 182) hx hb (dk kL_fits_1_ok 46 rfl) (by decide) ?_
                  refine n_iadd hx hb (dk kL_fits_1_ok 48 rfl) ?_
                  refine lv_istore_n (lv' := [(3, .int (nI ((cnt (fun x => cov v x) i) + 0))), (9, .int (nI 1)), (8, .int (nI a9)), (7, .int (nI (i / 4))), (6, .int (nI q)), (5, .int (nI i)), (4, .int (nI (cnt (bot c b) i))), (0, .ref (ad 0)), (1, .ref (ad 78)), (2, .ref (ad 79))]) hx hb (dk kL_fits_1_ok 49 rfl) rfl hl (by decide) rfl (fun ls hl => ?_)
                  refine lv_iload hx hb (dk kL_fits_1_ok 50 rfl) (lv_at hl 6 rfl) ?_
                  refine lv_iload hx hb (dk kL_fits_1_ok 51 rfl) (lv_at hl 2 rfl) ?_
                  refine n_if_ne (tgt := 195) hx hb (by omega) (dk kL_fits_1_ok 52 rfl) (by decide) (fun h107 => ?_) (fun h107 => ?_)
                  · skip
                    refine lv_iconst (v := nI 0) hx hb (dk kL_fits_1_ok 55 rfl) rfl ?_
                    refine n_iadd hx hb (dk kL_fits_1_ok 56 rfl) ?_
                    refine lv_istore (lv' := [(4, .int (nI ((cnt (bot c b) i) + 0))), (3, .int (nI ((cnt (fun x => cov v x) i) + 0))), (9, .int (nI 1)), (8, .int (nI a9)), (7, .int (nI (i / 4))), (6, .int (nI q)), (5, .int (nI i)), (0, .ref (ad 0)), (1, .ref (ad 78)), (2, .ref (ad 79))]) hx hb (dk kL_fits_1_ok 57 rfl) hl (by decide) rfl (fun ls hl => ?_)
                    refine lv_aload_n hx hb (dk kL_fits_1_ok 58 rfl) rfl (lv_at hl 9 rfl) ?_
                    refine lv_iload hx hb (dk kL_fits_1_ok 59 rfl) (lv_at hl 4 rfl) ?_
                    refine lv_dup2_11 hx hb (dk kL_fits_2_ok 0 rfl) rfl rfl ?_
                    refine ald (j := (i / 4)) hx hb hK hP (by omega) h79_4 rfl (by omega) (by decide) (dk kL_fits_2_ok 1 rfl) ?_
                    refine lv_iload hx hb (dk kL_fits_2_ok 2 rfl) (lv_at hl 2 rfl) ?_
                    refine n_if_eq (tgt := 223) hx hb (by decide) (dk kL_fits_2_ok 3 rfl) (by decide) (fun h9 => absurd h9 (by decide)) ?_
                    intro _
                    refine lv_iload hx hb (dk kL_fits_2_ok 4 rfl) (lv_at hl 5 rfl) ?_
                    refine lv_iload hx hb (dk kL_fits_2_ok 5 rfl) (lv_at hl 4 rfl) ?_
                    refine csP (As := [.int (nI (i / 4))]) (rest := [.int (nI q), .int ((fun k => nI (qk c v k i)) (i / 4)), .int (nI (i / 4)), .ref (ad 79)]) ⟨hC.1, hC.2.1, hC.2.2.1, hC.2.2.2.1, hC.2.2.2.2.1⟩ (tL_base l (w := i / 4) (by omega)) (cwSL 1 hC.2.2.2.2.1 mcL_base (lc0 _ (List.mem_of_getElem? (i := 10) rfl)) msL_base mini_RL rfl rfl hdL_base ⟨Nat.le_of_ble_eq_true rfl, Nat.le_of_ble_eq_true rfl⟩) rfl hl.1 rfl (Nat.le_of_ble_eq_true rfl) ⟨Nat.le_of_ble_eq_true rfl, Nat.le_of_ble_eq_true rfl⟩ (dk kL_fits_2_ok 6 rfl) ?_
                    refine n_icmp_eq (tgt := 223) hx hb (by omega) (by omega) (dk kL_fits_2_ok 7 rfl) (by decide) (fun h108 => ?_) (fun h108 => ?_)
                    · skip
                      refine lv_iconst (v := nI 0) hx hb (dk kL_fits_2_ok 10 rfl) rfl ?_
                      refine lv_iadd hx hb (dk kL_fits_2_ok 11 rfl) ?_
                      refine ast (va_up F 79 (.inl (cI, 4, .inl (upd (fun k => nI (qk c v k i)) (i / 4) (((fun k => nI (qk c v k i)) (i / 4)) + (nI 0)))))) (k := 79) (j := i / 4) hx hb hC.2.2.2.2.2.1 hDi hP hS (by omega) h79_4 rfl (by omega) (by decide) (dk kL_fits_2_ok 12 rfl) rfl (fun H locs hP hS => ?_)
                      have hK_102 : KW cI cQ ad (va_up F 79 (.inl (cI, 4, .inl (upd (fun k => nI (qk c v k i)) (i / 4) (((fun k => nI (qk c v k i)) (i / 4)) + (nI 0)))))) c b v g h j t u z m9 := KW_fr hK_1 (fun i hi => va_up_ne _ _ (by omega))
                      have h79_103 : va_up F 79 (.inl (cI, 4, .inl (upd (fun k => nI (qk c v k i)) (i / 4) (((fun k => nI (qk c v k i)) (i / 4)) + (nI 0))))) 79 = .inl (cI, 4, .inl (upd (fun k => nI (qk c v k i)) (i / 4) (((fun k => nI (qk c v k i)) (i / 4)) + (nI 0)))) := va_up_self _ _ _
                      have h77_104 : va_up F 79 (.inl (cI, 4, .inl (upd (fun k => nI (qk c v k i)) (i / 4) (((fun k => nI (qk c v k i)) (i / 4)) + (nI 0))))) 77 = .inl (cI, 4, .inl lo) := (va_up_ne _ _ (by decide)).trans h77_2
                      have h78_105 : va_up F 79 (.inl (cI, 4, .inl (upd (fun k => nI (qk c v k i)) (i / 4) (((fun k => nI (qk c v k i)) (i / 4)) + (nI 0))))) 78 = .inl (cI, 4, .inl (fun k => nI (pk c k i))) := (va_up_ne _ _ (by decide)).trans h78_3
                      generalize va_up F 79 (.inl (cI, 4, .inl (upd (fun k => nI (qk c v k i)) (i / 4) (((fun k => nI (qk c v k i)) (i / 4)) + (nI 0))))) = F_101 at hP hK_102 h79_103 h77_104 h78_105
                      have h79_106 : F_101 79 = .inl (cI, 4, .inl (fun k => nI (qk c v k (i + 1)))) := by rw [h79_103]; exact congrArg (fun q => va_E9 cI 4 q) (qk_s (ptx_b h89 (hcv.trans (decide_eq_false (by omega))) (by rw [hcq, h108])))
                      refine lv_iload hx hb (dk kL_fits_2_ok 13 rfl) (lv_at hl 5 rfl) ?_
                      refine lv_bipush (v := nI 84) hx hb (dk kL_fits_2_ok 14 rfl) rfl ?_
                      refine n_icmp_eq (tgt := 319) hx hb (by omega) (by decide) (dk kL_fits_2_ok 15 rfl) (by decide) (fun h109 => ?_) (fun h109 => ?_)
                      · exact absurd h109 hq84
                      · skip
                        refine lv_iload hx hb (dk kL_fits_2_ok 16 rfl) (lv_at hl 3 rfl) ?_
                        refine n_if_lt (tgt := 319) hx hb (by omega) (dk kL_fits_2_ok 17 rfl) (by decide) ?_
                        refine lv_iload hx hb (dk kL_fits_2_ok 18 rfl) (lv_at hl 3 rfl) ?_
                        refine lv_aload_n hx hb (dk kL_fits_2_ok 19 rfl) rfl (lv_at hl 7 rfl) ?_
                        refine lv_iload hx hb (dk kL_fits_2_ok 20 rfl) (lv_at hl 5 rfl) ?_
                        refine csR (As := [.ref (ad 0), .int (nI q)]) (r := .int (nI (Np q))) (rest := [.int (nI a9)]) ⟨hC.1, hC.2.1, hC.2.2.1, hC.2.2.2.1, hC.2.2.2.2.1⟩ (tL_manyN l D cI cQ cL ad 80 F_101 hN76 hK_102 (q := q) (n := Np q) (by omega) (hhq)) (cwSL 2 hC.2.2.2.2.1 mcL_many (lc0 _ (List.mem_of_getElem? (i := 6) rfl)) msL_many mini_RL rfl rfl hdL_many ⟨Nat.le_of_ble_eq_true rfl, Nat.le_of_ble_eq_true rfl⟩) hC.2.2.2.2.2.1 hP hC.2.2.2.2.2.2.1 rfl hl.1 rfl (Nat.le_of_ble_eq_true rfl) ⟨Nat.le_of_ble_eq_true rfl, Nat.le_of_ble_eq_true rfl⟩ (dk kL_fits_2_ok 21 rfl) ?_
                        refine n_icmp_ge (tgt := 319) hx hb (by omega) (by omega) (dk kL_fits_2_ok 22 rfl) (by decide) (fun h110 => ?_) (fun h110 => ?_)
                        · exact absurd h110 (by omega)
                        · skip
                          refine lv_aload_n hx hb (dk kL_fits_2_ok 23 rfl) rfl (lv_at hl 7 rfl) ?_
                          refine lv_iload hx hb (dk kL_fits_2_ok 24 rfl) (lv_at hl 6 rfl) ?_
                          refine lv_iconst (v := nI 4) hx hb (dk kL_fits_2_ok 25 rfl) rfl ?_
                          refine kw_wink hC hK_102 hN76 hP ht (w := i) (k := 4) (by omega) (by decide) (lc0 _ (List.mem_of_getElem? (i := 3) rfl)) hl.1 (Nat.le_of_ble_eq_true rfl) ⟨Nat.le_of_ble_eq_true rfl, Nat.le_of_ble_eq_true rfl⟩ (dk kL_fits_2_ok 26 rfl) (r := bI (cov v i)) rfl ?_
                          refine lv_iload hx hb (dk kL_fits_2_ok 27 rfl) (lv_at hl 2 rfl) ?_
                          refine n_if_eq (tgt := 265) hx hb (by decide) (dk kL_fits_2_ok 28 rfl) (by decide) (fun h9 => absurd h9 (by decide)) ?_
                          intro _
                          refine lv_iconst (v := nI 0) hx hb (dk kL_fits_2_ok 29 rfl) rfl ?_
                          refine lv_goto (tgt := 266) hx hb (dk kL_fits_2_ok 30 rfl) (by decide) ?_
                          refine lv_icmp_ne (tgt := 319) hx hb (dk kL_fits_2_ok 32 rfl) (by decide) (fun h111 => ?_) (fun h111 => ?_)
                          · exact absurd (bI_f (hcv.trans (decide_eq_false (by omega)))) h111
                          · skip
                            refine lv_iload hx hb (dk kL_fits_2_ok 33 rfl) (lv_at hl 2 rfl) ?_
                            refine n_if_eq (tgt := 294) hx hb (by decide) (dk kL_fits_2_ok 34 rfl) (by decide) (fun h9 => absurd h9 (by decide)) ?_
                            intro _
                            refine lv_aload_n hx hb (dk kL_fits_2_ok 35 rfl) rfl (lv_at hl 7 rfl) ?_
                            refine lv_iload hx hb (dk kL_fits_2_ok 36 rfl) (lv_at hl 5 rfl) ?_
                            refine lv_bipush (v := nI 13) hx hb (dk kL_fits_2_ok 37 rfl) rfl ?_
                            refine n_irem hx hb (by omega) (by decide) (by decide) (dk kL_fits_2_ok 38 rfl) ?_
                            refine lv_iload hx hb (dk kL_fits_2_ok 39 rfl) (lv_at hl 5 rfl) ?_
                            refine lv_bipush (v := nI 13) hx hb (dk kL_fits_2_ok 40 rfl) rfl ?_
                            refine n_idiv hx hb (by omega) (by decide) (by decide) (dk kL_fits_2_ok 41 rfl) ?_
                            refine lv_iconst (v := nI 1) hx hb (dk kL_fits_2_ok 42 rfl) rfl ?_
                            refine kw_pile hC hK_102 hN76 hP (q := q) (by omega) (k := 1) (by decide) (lc0 _ (List.mem_of_getElem? (i := 2) rfl)) hl.1 (Nat.le_of_ble_eq_true rfl) ⟨Nat.le_of_ble_eq_true rfl, Nat.le_of_ble_eq_true rfl⟩ (dk kL_fits_2_ok 43 rfl) (r := nI i) (by rw [cat_q]; show top c v (nI q) = nI i; rw [hRl.topv hR (by omega), if_neg (by omega), show Np q - 1 = a9 by omega, hWq]) ?_
                            refine lv_iload hx hb (dk kL_fits_2_ok 44 rfl) (lv_at hl 6 rfl) ?_
                            refine n_icmp_ne (tgt := 319) hx hb (by omega) (by omega) (dk kL_fits_2_ok 45 rfl) (by decide) (fun h112 => ?_) (fun h112 => ?_)
                            · exact absurd rfl h112
                            · skip
                              refine lv_iload hx hb (dk kL_fits_2_ok 46 rfl) (lv_at hl 3 rfl) ?_
                              refine n_if_ne (tgt := 321) hx hb (by omega) (dk kL_fits_2_ok 47 rfl) (by decide) (fun h113 => ?_) (fun h113 => ?_)
                              · skip
                                have hz9 : ¬ a9 = 0 := h113
                                have hi16 : i < 16 := by omega
                                refine lv_iconst (v := nI 0) hx hb (dk kL_fits_3_ok 1 rfl) rfl ?_
                                refine lv_istore (lv' := [(10, .int (nI 0)), (4, .int (nI ((cnt (bot c b) i) + 0))), (3, .int (nI ((cnt (fun x => cov v x) i) + 0))), (9, .int (nI 1)), (8, .int (nI a9)), (7, .int (nI (i / 4))), (6, .int (nI q)), (5, .int (nI i)), (0, .ref (ad 0)), (1, .ref (ad 78)), (2, .ref (ad 79))]) hx hb (dk kL_fits_3_ok 2 rfl) hl (by decide) rfl (fun ls hl => ?_)
                                have L324 : ∀ (fu : Nat) (o9 : Nat) (F : Nat → va_E) (H : Heap) (locs : List Loc), KW cI cQ ad F c b v g h j t u z m9 → F 79 = .inl (cI, 4, .inl (fun k => nI (qk c v k (i + 1)))) → F 77 = .inl (cI, 4, .inl lo) → F 78 = .inl (cI, 4, .inl (fun k => nI (pk c k i))) → va_P D vwCl (iW ad 80 F) H → va_S (iA ad 80 s.heap.size) s.heap H locs → (o9 ≤ i) → i - o9 < fu → ∀ ls : Array Slot, lv_has ls 11 [(10, .int (nI o9)), (4, .int (nI ((cnt (bot c b) i) + 0))), (3, .int (nI ((cnt (fun x => cov v x) i) + 0))), (9, .int (nI 1)), (8, .int (nI a9)), (7, .int (nI (i / 4))), (6, .int (nI q)), (5, .int (nI i)), (0, .ref (ad 0)), (1, .ref (ad 78)), (2, .ref (ad 79))] → W p l e ({ frames := 11, cells := 2, slots := 8, locals := 400 } : Room) s m AR below meth cd H locs 2 8 Q (F0 m 324 ls []) := by
                                  intro fu
                                  induction fu with
                                  | zero => intros; omega
                                  | succ fu ih324 =>
                                    intro o9 F H locs hK_107 h79_108 h77_109 h78_110 hP hS ho9 hme324 ls hl
                                    refine lv_iload hx hb (dk kL_fits_3_ok 3 rfl) (lv_at hl 0 rfl) ?_
                                    refine lv_iload hx hb (dk kL_fits_3_ok 4 rfl) (lv_at hl 7 rfl) ?_
                                    refine n_icmp_ge (tgt := 363) hx hb (by omega) (by omega) (dk kL_fits_3_ok 5 rfl) (by decide) (fun h114 => ?_) (fun h114 => ?_)
                                    · skip
                                      refine lv_iinc (v := nI (i + 1)) (lv' := [(5, .int (nI (i + 1))), (10, .int (nI o9)), (4, .int (nI ((cnt (bot c b) i) + 0))), (3, .int (nI ((cnt (fun x => cov v x) i) + 0))), (9, .int (nI 1)), (8, .int (nI a9)), (7, .int (nI (i / 4))), (6, .int (nI q)), (0, .ref (ad 0)), (1, .ref (ad 78)), (2, .ref (ad 79))]) hx hb (dk kL_fits_3_ok 22 rfl) hl (k := 7) rfl (n_inc _) (by decide) rfl (fun ls hl => ?_)
                                      refine lv_goto (tgt := 16) hx hb (dk kL_fits_3_ok 23 rfl) (by decide) ?_
                                      exact ih16 (i + 1) _ _ _ _ _ hK_107 h77_109 (by rw [← pk_n hpf]; exact h78_110) h79_108 hP hS (by rw [cn_f (hbt.trans (decide_eq_false hz9)), Nat.add_zero]) (by rw [cn_f (p := fun x => cov v x) (hcv.trans (decide_eq_false (by omega))), Nat.add_zero]) (by first | rfl | omega | assumption) (by omega) ls (lv_sub hl [0, 2, 3, 8, 9, 10] rfl)
                                    · skip
                                      refine lv_aload_n hx hb (dk kL_fits_3_ok 6 rfl) rfl (lv_at hl 8 rfl) ?_
                                      refine lv_iload hx hb (dk kL_fits_3_ok 7 rfl) (lv_at hl 0 rfl) ?_
                                      refine lv_iconst (v := nI 2) hx hb (dk kL_fits_3_ok 8 rfl) rfl ?_
                                      refine kw_wink hC hK_107 hN76 hP ht (w := o9) (k := 2) (by omega) (by decide) (lc0 _ (List.mem_of_getElem? (i := 3) rfl)) hl.1 (Nat.le_of_ble_eq_true rfl) ⟨Nat.le_of_ble_eq_true rfl, Nat.le_of_ble_eq_true rfl⟩ (dk kL_fits_3_ok 9 rfl) (r := c o9) rfl ?_
                                      refine lv_iload hx hb (dk kL_fits_3_ok 10 rfl) (lv_at hl 6 rfl) ?_
                                      refine lv_icmp_ne (tgt := 357) hx hb (dk kL_fits_3_ok 11 rfl) (by decide) (fun h115 => ?_) (fun h115 => ?_)
                                      · skip
                                        refine lv_iinc (v := nI (o9 + 1)) (lv' := [(10, .int (nI (o9 + 1))), (4, .int (nI ((cnt (bot c b) i) + 0))), (3, .int (nI ((cnt (fun x => cov v x) i) + 0))), (9, .int (nI 1)), (8, .int (nI a9)), (7, .int (nI (i / 4))), (6, .int (nI q)), (5, .int (nI i)), (0, .ref (ad 0)), (1, .ref (ad 78)), (2, .ref (ad 79))]) hx hb (dk kL_fits_3_ok 20 rfl) hl (k := 0) rfl (n_inc _) (by decide) rfl (fun ls hl => ?_)
                                        refine lv_goto (tgt := 324) hx hb (dk kL_fits_3_ok 21 rfl) (by decide) ?_
                                        exact ih324 (o9 + 1) _ _ _ hK_107 h79_108 h77_109 h78_110 hP hS (by first | rfl | omega | assumption) (by omega) ls (lv_sub hl [0, 1, 2, 3, 4, 5, 6, 7, 8, 9, 10] rfl)
                                      · skip
                                        refine lv_aload_n hx hb (dk kL_fits_3_ok 12 rfl) rfl (lv_at hl 8 rfl) ?_
                                        refine lv_iload hx hb (dk kL_fits_3_ok 13 rfl) (lv_at hl 0 rfl) ?_
                                        refine lv_iconst (v := nI 3) hx hb (dk kL_fits_3_ok 14 rfl) rfl ?_
                                        refine kw_wink hC hK_107 hN76 hP ht (w := o9) (k := 3) (by omega) (by decide) (lc0 _ (List.mem_of_getElem? (i := 3) rfl)) hl.1 (Nat.le_of_ble_eq_true rfl) ⟨Nat.le_of_ble_eq_true rfl, Nat.le_of_ble_eq_true rfl⟩ (dk kL_fits_3_ok 15 rfl) (r := pls c b o9) rfl ?_
                                        refine lv_iload hx hb (dk kL_fits_3_ok 16 rfl) (lv_at hl 4 rfl) ?_
                                        refine lv_icmp_ne (tgt := 357) hx hb (dk kL_fits_3_ok 17 rfl) (by decide) (fun h116 => ?_) (fun h116 => ?_)
                                        · skip
                                          refine lv_iinc (v := nI (o9 + 1)) (lv' := [(10, .int (nI (o9 + 1))), (4, .int (nI ((cnt (bot c b) i) + 0))), (3, .int (nI ((cnt (fun x => cov v x) i) + 0))), (9, .int (nI 1)), (8, .int (nI a9)), (7, .int (nI (i / 4))), (6, .int (nI q)), (5, .int (nI i)), (0, .ref (ad 0)), (1, .ref (ad 78)), (2, .ref (ad 79))]) hx hb (dk kL_fits_3_ok 20 rfl) hl (k := 0) rfl (n_inc _) (by decide) rfl (fun ls hl => ?_)
                                          refine lv_goto (tgt := 324) hx hb (dk kL_fits_3_ok 21 rfl) (by decide) ?_
                                          exact ih324 (o9 + 1) _ _ _ hK_107 h79_108 h77_109 h78_110 hP hS (by first | rfl | omega | assumption) (by omega) ls (lv_sub hl [0, 1, 2, 3, 4, 5, 6, 7, 8, 9, 10] rfl)
                                        · exact absurd h116 (pl_ne hR hRl h115 (by omega) ha9 (by omega))
                                exact L324 _ 0 _ _ _ hK_102 h79_106 h77_104 h78_105 hP hS (by first | rfl | omega | assumption) (Nat.lt_succ_self _) ls (lv_sub hl [0, 1, 2, 3, 4, 5, 6, 7, 8, 9, 10] rfl)
                              · exact absurd h113 h107
                    · skip
                      refine lv_iconst (v := nI 1) hx hb (dk kL_fits_2_ok 8 rfl) rfl ?_
                      refine lv_goto (tgt := 224) hx hb (dk kL_fits_2_ok 9 rfl) (by decide) ?_
                      refine lv_iadd hx hb (dk kL_fits_2_ok 11 rfl) ?_
                      refine ast (va_up F 79 (.inl (cI, 4, .inl (upd (fun k => nI (qk c v k i)) (i / 4) (((fun k => nI (qk c v k i)) (i / 4)) + (nI 1)))))) (k := 79) (j := i / 4) hx hb hC.2.2.2.2.2.1 hDi hP hS (by omega) h79_4 rfl (by omega) (by decide) (dk kL_fits_2_ok 12 rfl) rfl (fun H locs hP hS => ?_)
                      have hK_112 : KW cI cQ ad (va_up F 79 (.inl (cI, 4, .inl (upd (fun k => nI (qk c v k i)) (i / 4) (((fun k => nI (qk c v k i)) (i / 4)) + (nI 1)))))) c b v g h j t u z m9 := KW_fr hK_1 (fun i hi => va_up_ne _ _ (by omega))
                      have h79_113 : va_up F 79 (.inl (cI, 4, .inl (upd (fun k => nI (qk c v k i)) (i / 4) (((fun k => nI (qk c v k i)) (i / 4)) + (nI 1))))) 79 = .inl (cI, 4, .inl (upd (fun k => nI (qk c v k i)) (i / 4) (((fun k => nI (qk c v k i)) (i / 4)) + (nI 1)))) := va_up_self _ _ _
                      have h77_114 : va_up F 79 (.inl (cI, 4, .inl (upd (fun k => nI (qk c v k i)) (i / 4) (((fun k => nI (qk c v k i)) (i / 4)) + (nI 1))))) 77 = .inl (cI, 4, .inl lo) := (va_up_ne _ _ (by decide)).trans h77_2
                      have h78_115 : va_up F 79 (.inl (cI, 4, .inl (upd (fun k => nI (qk c v k i)) (i / 4) (((fun k => nI (qk c v k i)) (i / 4)) + (nI 1))))) 78 = .inl (cI, 4, .inl (fun k => nI (pk c k i))) := (va_up_ne _ _ (by decide)).trans h78_3
                      generalize va_up F 79 (.inl (cI, 4, .inl (upd (fun k => nI (qk c v k i)) (i / 4) (((fun k => nI (qk c v k i)) (i / 4)) + (nI 1))))) = F_111 at hP hK_112 h79_113 h77_114 h78_115
                      have h79_116 : F_111 79 = .inl (cI, 4, .inl (fun k => nI (qk c v k (i + 1)))) := by rw [h79_113]; exact congrArg (fun q => va_E9 cI 4 q) (qk_s (ptx_1 h89 (hcv.trans (decide_eq_false (by omega))) (by rw [hcq]; exact nI_ne (by omega) (by have := (bs_lt i).1; omega) h108)))
                      refine lv_iload hx hb (dk kL_fits_2_ok 13 rfl) (lv_at hl 5 rfl) ?_
                      refine lv_bipush (v := nI 84) hx hb (dk kL_fits_2_ok 14 rfl) rfl ?_
                      refine n_icmp_eq (tgt := 319) hx hb (by omega) (by decide) (dk kL_fits_2_ok 15 rfl) (by decide) (fun h117 => ?_) (fun h117 => ?_)
                      · exact absurd h117 hq84
                      · skip
                        refine lv_iload hx hb (dk kL_fits_2_ok 16 rfl) (lv_at hl 3 rfl) ?_
                        refine n_if_lt (tgt := 319) hx hb (by omega) (dk kL_fits_2_ok 17 rfl) (by decide) ?_
                        refine lv_iload hx hb (dk kL_fits_2_ok 18 rfl) (lv_at hl 3 rfl) ?_
                        refine lv_aload_n hx hb (dk kL_fits_2_ok 19 rfl) rfl (lv_at hl 7 rfl) ?_
                        refine lv_iload hx hb (dk kL_fits_2_ok 20 rfl) (lv_at hl 5 rfl) ?_
                        refine csR (As := [.ref (ad 0), .int (nI q)]) (r := .int (nI (Np q))) (rest := [.int (nI a9)]) ⟨hC.1, hC.2.1, hC.2.2.1, hC.2.2.2.1, hC.2.2.2.2.1⟩ (tL_manyN l D cI cQ cL ad 80 F_111 hN76 hK_112 (q := q) (n := Np q) (by omega) (hhq)) (cwSL 2 hC.2.2.2.2.1 mcL_many (lc0 _ (List.mem_of_getElem? (i := 6) rfl)) msL_many mini_RL rfl rfl hdL_many ⟨Nat.le_of_ble_eq_true rfl, Nat.le_of_ble_eq_true rfl⟩) hC.2.2.2.2.2.1 hP hC.2.2.2.2.2.2.1 rfl hl.1 rfl (Nat.le_of_ble_eq_true rfl) ⟨Nat.le_of_ble_eq_true rfl, Nat.le_of_ble_eq_true rfl⟩ (dk kL_fits_2_ok 21 rfl) ?_
                        refine n_icmp_ge (tgt := 319) hx hb (by omega) (by omega) (dk kL_fits_2_ok 22 rfl) (by decide) (fun h118 => ?_) (fun h118 => ?_)
                        · exact absurd h118 (by omega)
                        · skip
                          refine lv_aload_n hx hb (dk kL_fits_2_ok 23 rfl) rfl (lv_at hl 7 rfl) ?_
                          refine lv_iload hx hb (dk kL_fits_2_ok 24 rfl) (lv_at hl 6 rfl) ?_
                          refine lv_iconst (v := nI 4) hx hb (dk kL_fits_2_ok 25 rfl) rfl ?_
                          refine kw_wink hC hK_112 hN76 hP ht (w := i) (k := 4) (by omega) (by decide) (lc0 _ (List.mem_of_getElem? (i := 3) rfl)) hl.1 (Nat.le_of_ble_eq_true rfl) ⟨Nat.le_of_ble_eq_true rfl, Nat.le_of_ble_eq_true rfl⟩ (dk kL_fits_2_ok 26 rfl) (r := bI (cov v i)) rfl ?_
                          refine lv_iload hx hb (dk kL_fits_2_ok 27 rfl) (lv_at hl 2 rfl) ?_
                          refine n_if_eq (tgt := 265) hx hb (by decide) (dk kL_fits_2_ok 28 rfl) (by decide) (fun h9 => absurd h9 (by decide)) ?_
                          intro _
                          refine lv_iconst (v := nI 0) hx hb (dk kL_fits_2_ok 29 rfl) rfl ?_
                          refine lv_goto (tgt := 266) hx hb (dk kL_fits_2_ok 30 rfl) (by decide) ?_
                          refine lv_icmp_ne (tgt := 319) hx hb (dk kL_fits_2_ok 32 rfl) (by decide) (fun h119 => ?_) (fun h119 => ?_)
                          · exact absurd (bI_f (hcv.trans (decide_eq_false (by omega)))) h119
                          · skip
                            refine lv_iload hx hb (dk kL_fits_2_ok 33 rfl) (lv_at hl 2 rfl) ?_
                            refine n_if_eq (tgt := 294) hx hb (by decide) (dk kL_fits_2_ok 34 rfl) (by decide) (fun h9 => absurd h9 (by decide)) ?_
                            intro _
                            refine lv_aload_n hx hb (dk kL_fits_2_ok 35 rfl) rfl (lv_at hl 7 rfl) ?_
                            refine lv_iload hx hb (dk kL_fits_2_ok 36 rfl) (lv_at hl 5 rfl) ?_
                            refine lv_bipush (v := nI 13) hx hb (dk kL_fits_2_ok 37 rfl) rfl ?_
                            refine n_irem hx hb (by omega) (by decide) (by decide) (dk kL_fits_2_ok 38 rfl) ?_
                            refine lv_iload hx hb (dk kL_fits_2_ok 39 rfl) (lv_at hl 5 rfl) ?_
                            refine lv_bipush (v := nI 13) hx hb (dk kL_fits_2_ok 40 rfl) rfl ?_
                            refine n_idiv hx hb (by omega) (by decide) (by decide) (dk kL_fits_2_ok 41 rfl) ?_
                            refine lv_iconst (v := nI 1) hx hb (dk kL_fits_2_ok 42 rfl) rfl ?_
                            refine kw_pile hC hK_112 hN76 hP (q := q) (by omega) (k := 1) (by decide) (lc0 _ (List.mem_of_getElem? (i := 2) rfl)) hl.1 (Nat.le_of_ble_eq_true rfl) ⟨Nat.le_of_ble_eq_true rfl, Nat.le_of_ble_eq_true rfl⟩ (dk kL_fits_2_ok 43 rfl) (r := nI i) (by rw [cat_q]; show top c v (nI q) = nI i; rw [hRl.topv hR (by omega), if_neg (by omega), show Np q - 1 = a9 by omega, hWq]) ?_
                            refine lv_iload hx hb (dk kL_fits_2_ok 44 rfl) (lv_at hl 6 rfl) ?_
                            refine n_icmp_ne (tgt := 319) hx hb (by omega) (by omega) (dk kL_fits_2_ok 45 rfl) (by decide) (fun h120 => ?_) (fun h120 => ?_)
                            · exact absurd rfl h120
                            · skip
                              refine lv_iload hx hb (dk kL_fits_2_ok 46 rfl) (lv_at hl 3 rfl) ?_
                              refine n_if_ne (tgt := 321) hx hb (by omega) (dk kL_fits_2_ok 47 rfl) (by decide) (fun h121 => ?_) (fun h121 => ?_)
                              · skip
                                have hz9 : ¬ a9 = 0 := h121
                                have hi16 : i < 16 := by omega
                                refine lv_iconst (v := nI 0) hx hb (dk kL_fits_3_ok 1 rfl) rfl ?_
                                refine lv_istore (lv' := [(10, .int (nI 0)), (4, .int (nI ((cnt (bot c b) i) + 0))), (3, .int (nI ((cnt (fun x => cov v x) i) + 0))), (9, .int (nI 1)), (8, .int (nI a9)), (7, .int (nI (i / 4))), (6, .int (nI q)), (5, .int (nI i)), (0, .ref (ad 0)), (1, .ref (ad 78)), (2, .ref (ad 79))]) hx hb (dk kL_fits_3_ok 2 rfl) hl (by decide) rfl (fun ls hl => ?_)
                                have L324 : ∀ (fu : Nat) (o9 : Nat) (F : Nat → va_E) (H : Heap) (locs : List Loc), KW cI cQ ad F c b v g h j t u z m9 → F 79 = .inl (cI, 4, .inl (fun k => nI (qk c v k (i + 1)))) → F 77 = .inl (cI, 4, .inl lo) → F 78 = .inl (cI, 4, .inl (fun k => nI (pk c k i))) → va_P D vwCl (iW ad 80 F) H → va_S (iA ad 80 s.heap.size) s.heap H locs → (o9 ≤ i) → i - o9 < fu → ∀ ls : Array Slot, lv_has ls 11 [(10, .int (nI o9)), (4, .int (nI ((cnt (bot c b) i) + 0))), (3, .int (nI ((cnt (fun x => cov v x) i) + 0))), (9, .int (nI 1)), (8, .int (nI a9)), (7, .int (nI (i / 4))), (6, .int (nI q)), (5, .int (nI i)), (0, .ref (ad 0)), (1, .ref (ad 78)), (2, .ref (ad 79))] → W p l e ({ frames := 11, cells := 2, slots := 8, locals := 400 } : Room) s m AR below meth cd H locs 2 8 Q (F0 m 324 ls []) := by
                                  intro fu
                                  induction fu with
                                  | zero => intros; omega
                                  | succ fu ih324 =>
                                    intro o9 F H locs hK_117 h79_118 h77_119 h78_120 hP hS ho9 hme324 ls hl
                                    refine lv_iload hx hb (dk kL_fits_3_ok 3 rfl) (lv_at hl 0 rfl) ?_
                                    refine lv_iload hx hb (dk kL_fits_3_ok 4 rfl) (lv_at hl 7 rfl) ?_
                                    refine n_icmp_ge (tgt := 363) hx hb (by omega) (by omega) (dk kL_fits_3_ok 5 rfl) (by decide) (fun h122 => ?_) (fun h122 => ?_)
                                    · skip
                                      refine lv_iinc (v := nI (i + 1)) (lv' := [(5, .int (nI (i + 1))), (10, .int (nI o9)), (4, .int (nI ((cnt (bot c b) i) + 0))), (3, .int (nI ((cnt (fun x => cov v x) i) + 0))), (9, .int (nI 1)), (8, .int (nI a9)), (7, .int (nI (i / 4))), (6, .int (nI q)), (0, .ref (ad 0)), (1, .ref (ad 78)), (2, .ref (ad 79))]) hx hb (dk kL_fits_3_ok 22 rfl) hl (k := 7) rfl (n_inc _) (by decide) rfl (fun ls hl => ?_)
                                      refine lv_goto (tgt := 16) hx hb (dk kL_fits_3_ok 23 rfl) (by decide) ?_
                                      exact ih16 (i + 1) _ _ _ _ _ hK_117 h77_119 (by rw [← pk_n hpf]; exact h78_120) h79_118 hP hS (by rw [cn_f (hbt.trans (decide_eq_false hz9)), Nat.add_zero]) (by rw [cn_f (p := fun x => cov v x) (hcv.trans (decide_eq_false (by omega))), Nat.add_zero]) (by first | rfl | omega | assumption) (by omega) ls (lv_sub hl [0, 2, 3, 8, 9, 10] rfl)
                                    · skip
                                      refine lv_aload_n hx hb (dk kL_fits_3_ok 6 rfl) rfl (lv_at hl 8 rfl) ?_
                                      refine lv_iload hx hb (dk kL_fits_3_ok 7 rfl) (lv_at hl 0 rfl) ?_
                                      refine lv_iconst (v := nI 2) hx hb (dk kL_fits_3_ok 8 rfl) rfl ?_
                                      refine kw_wink hC hK_117 hN76 hP ht (w := o9) (k := 2) (by omega) (by decide) (lc0 _ (List.mem_of_getElem? (i := 3) rfl)) hl.1 (Nat.le_of_ble_eq_true rfl) ⟨Nat.le_of_ble_eq_true rfl, Nat.le_of_ble_eq_true rfl⟩ (dk kL_fits_3_ok 9 rfl) (r := c o9) rfl ?_
                                      refine lv_iload hx hb (dk kL_fits_3_ok 10 rfl) (lv_at hl 6 rfl) ?_
                                      refine lv_icmp_ne (tgt := 357) hx hb (dk kL_fits_3_ok 11 rfl) (by decide) (fun h123 => ?_) (fun h123 => ?_)
                                      · skip
                                        refine lv_iinc (v := nI (o9 + 1)) (lv' := [(10, .int (nI (o9 + 1))), (4, .int (nI ((cnt (bot c b) i) + 0))), (3, .int (nI ((cnt (fun x => cov v x) i) + 0))), (9, .int (nI 1)), (8, .int (nI a9)), (7, .int (nI (i / 4))), (6, .int (nI q)), (5, .int (nI i)), (0, .ref (ad 0)), (1, .ref (ad 78)), (2, .ref (ad 79))]) hx hb (dk kL_fits_3_ok 20 rfl) hl (k := 0) rfl (n_inc _) (by decide) rfl (fun ls hl => ?_)
                                        refine lv_goto (tgt := 324) hx hb (dk kL_fits_3_ok 21 rfl) (by decide) ?_
                                        exact ih324 (o9 + 1) _ _ _ hK_117 h79_118 h77_119 h78_120 hP hS (by first | rfl | omega | assumption) (by omega) ls (lv_sub hl [0, 1, 2, 3, 4, 5, 6, 7, 8, 9, 10] rfl)
                                      · skip
                                        refine lv_aload_n hx hb (dk kL_fits_3_ok 12 rfl) rfl (lv_at hl 8 rfl) ?_
                                        refine lv_iload hx hb (dk kL_fits_3_ok 13 rfl) (lv_at hl 0 rfl) ?_
                                        refine lv_iconst (v := nI 3) hx hb (dk kL_fits_3_ok 14 rfl) rfl ?_
                                        refine kw_wink hC hK_117 hN76 hP ht (w := o9) (k := 3) (by omega) (by decide) (lc0 _ (List.mem_of_getElem? (i := 3) rfl)) hl.1 (Nat.le_of_ble_eq_true rfl) ⟨Nat.le_of_ble_eq_true rfl, Nat.le_of_ble_eq_true rfl⟩ (dk kL_fits_3_ok 15 rfl) (r := pls c b o9) rfl ?_
                                        refine lv_iload hx hb (dk kL_fits_3_ok 16 rfl) (lv_at hl 4 rfl) ?_
                                        refine lv_icmp_ne (tgt := 357) hx hb (dk kL_fits_3_ok 17 rfl) (by decide) (fun h124 => ?_) (fun h124 => ?_)
                                        · skip
                                          refine lv_iinc (v := nI (o9 + 1)) (lv' := [(10, .int (nI (o9 + 1))), (4, .int (nI ((cnt (bot c b) i) + 0))), (3, .int (nI ((cnt (fun x => cov v x) i) + 0))), (9, .int (nI 1)), (8, .int (nI a9)), (7, .int (nI (i / 4))), (6, .int (nI q)), (5, .int (nI i)), (0, .ref (ad 0)), (1, .ref (ad 78)), (2, .ref (ad 79))]) hx hb (dk kL_fits_3_ok 20 rfl) hl (k := 0) rfl (n_inc _) (by decide) rfl (fun ls hl => ?_)
                                          refine lv_goto (tgt := 324) hx hb (dk kL_fits_3_ok 21 rfl) (by decide) ?_
                                          exact ih324 (o9 + 1) _ _ _ hK_117 h79_118 h77_119 h78_120 hP hS (by first | rfl | omega | assumption) (by omega) ls (lv_sub hl [0, 1, 2, 3, 4, 5, 6, 7, 8, 9, 10] rfl)
                                        · exact absurd h124 (pl_ne hR hRl h123 (by omega) ha9 (by omega))
                                exact L324 _ 0 _ _ _ hK_112 h79_116 h77_114 h78_115 hP hS (by first | rfl | omega | assumption) (Nat.lt_succ_self _) ls (lv_sub hl [0, 1, 2, 3, 4, 5, 6, 7, 8, 9, 10] rfl)
                              · exact absurd h121 h107
                  · skip
                    refine lv_iconst (v := nI 1) hx hb (dk kL_fits_1_ok 53 rfl) rfl ?_
                    refine lv_goto (tgt := 196) hx hb (dk kL_fits_1_ok 54 rfl) (by decide) ?_
                    refine n_iadd hx hb (dk kL_fits_1_ok 56 rfl) ?_
                    refine lv_istore (lv' := [(4, .int (nI ((cnt (bot c b) i) + 1))), (3, .int (nI ((cnt (fun x => cov v x) i) + 0))), (9, .int (nI 1)), (8, .int (nI a9)), (7, .int (nI (i / 4))), (6, .int (nI q)), (5, .int (nI i)), (0, .ref (ad 0)), (1, .ref (ad 78)), (2, .ref (ad 79))]) hx hb (dk kL_fits_1_ok 57 rfl) hl (by decide) rfl (fun ls hl => ?_)
                    refine lv_aload_n hx hb (dk kL_fits_1_ok 58 rfl) rfl (lv_at hl 9 rfl) ?_
                    refine lv_iload hx hb (dk kL_fits_1_ok 59 rfl) (lv_at hl 4 rfl) ?_
                    refine lv_dup2_11 hx hb (dk kL_fits_2_ok 0 rfl) rfl rfl ?_
                    refine ald (j := (i / 4)) hx hb hK hP (by omega) h79_4 rfl (by omega) (by decide) (dk kL_fits_2_ok 1 rfl) ?_
                    refine lv_iload hx hb (dk kL_fits_2_ok 2 rfl) (lv_at hl 2 rfl) ?_
                    refine n_if_eq (tgt := 223) hx hb (by decide) (dk kL_fits_2_ok 3 rfl) (by decide) (fun h9 => absurd h9 (by decide)) ?_
                    intro _
                    refine lv_iload hx hb (dk kL_fits_2_ok 4 rfl) (lv_at hl 5 rfl) ?_
                    refine lv_iload hx hb (dk kL_fits_2_ok 5 rfl) (lv_at hl 4 rfl) ?_
                    refine csP (As := [.int (nI (i / 4))]) (rest := [.int (nI q), .int ((fun k => nI (qk c v k i)) (i / 4)), .int (nI (i / 4)), .ref (ad 79)]) ⟨hC.1, hC.2.1, hC.2.2.1, hC.2.2.2.1, hC.2.2.2.2.1⟩ (tL_base l (w := i / 4) (by omega)) (cwSL 1 hC.2.2.2.2.1 mcL_base (lc0 _ (List.mem_of_getElem? (i := 10) rfl)) msL_base mini_RL rfl rfl hdL_base ⟨Nat.le_of_ble_eq_true rfl, Nat.le_of_ble_eq_true rfl⟩) rfl hl.1 rfl (Nat.le_of_ble_eq_true rfl) ⟨Nat.le_of_ble_eq_true rfl, Nat.le_of_ble_eq_true rfl⟩ (dk kL_fits_2_ok 6 rfl) ?_
                    refine n_icmp_eq (tgt := 223) hx hb (by omega) (by omega) (dk kL_fits_2_ok 7 rfl) (by decide) (fun h125 => ?_) (fun h125 => ?_)
                    · skip
                      refine lv_iconst (v := nI 0) hx hb (dk kL_fits_2_ok 10 rfl) rfl ?_
                      refine lv_iadd hx hb (dk kL_fits_2_ok 11 rfl) ?_
                      refine ast (va_up F 79 (.inl (cI, 4, .inl (upd (fun k => nI (qk c v k i)) (i / 4) (((fun k => nI (qk c v k i)) (i / 4)) + (nI 0)))))) (k := 79) (j := i / 4) hx hb hC.2.2.2.2.2.1 hDi hP hS (by omega) h79_4 rfl (by omega) (by decide) (dk kL_fits_2_ok 12 rfl) rfl (fun H locs hP hS => ?_)
                      have hK_122 : KW cI cQ ad (va_up F 79 (.inl (cI, 4, .inl (upd (fun k => nI (qk c v k i)) (i / 4) (((fun k => nI (qk c v k i)) (i / 4)) + (nI 0)))))) c b v g h j t u z m9 := KW_fr hK_1 (fun i hi => va_up_ne _ _ (by omega))
                      have h79_123 : va_up F 79 (.inl (cI, 4, .inl (upd (fun k => nI (qk c v k i)) (i / 4) (((fun k => nI (qk c v k i)) (i / 4)) + (nI 0))))) 79 = .inl (cI, 4, .inl (upd (fun k => nI (qk c v k i)) (i / 4) (((fun k => nI (qk c v k i)) (i / 4)) + (nI 0)))) := va_up_self _ _ _
                      have h77_124 : va_up F 79 (.inl (cI, 4, .inl (upd (fun k => nI (qk c v k i)) (i / 4) (((fun k => nI (qk c v k i)) (i / 4)) + (nI 0))))) 77 = .inl (cI, 4, .inl lo) := (va_up_ne _ _ (by decide)).trans h77_2
                      have h78_125 : va_up F 79 (.inl (cI, 4, .inl (upd (fun k => nI (qk c v k i)) (i / 4) (((fun k => nI (qk c v k i)) (i / 4)) + (nI 0))))) 78 = .inl (cI, 4, .inl (fun k => nI (pk c k i))) := (va_up_ne _ _ (by decide)).trans h78_3
                      generalize va_up F 79 (.inl (cI, 4, .inl (upd (fun k => nI (qk c v k i)) (i / 4) (((fun k => nI (qk c v k i)) (i / 4)) + (nI 0))))) = F_121 at hP hK_122 h79_123 h77_124 h78_125
                      have h79_126 : F_121 79 = .inl (cI, 4, .inl (fun k => nI (qk c v k (i + 1)))) := by rw [h79_123]; exact congrArg (fun q => va_E9 cI 4 q) (qk_s (ptx_b h89 (hcv.trans (decide_eq_false (by omega))) (by rw [hcq, h125])))
                      refine lv_iload hx hb (dk kL_fits_2_ok 13 rfl) (lv_at hl 5 rfl) ?_
                      refine lv_bipush (v := nI 84) hx hb (dk kL_fits_2_ok 14 rfl) rfl ?_
                      refine n_icmp_eq (tgt := 319) hx hb (by omega) (by decide) (dk kL_fits_2_ok 15 rfl) (by decide) (fun h126 => ?_) (fun h126 => ?_)
                      · exact absurd h126 hq84
                      · skip
                        refine lv_iload hx hb (dk kL_fits_2_ok 16 rfl) (lv_at hl 3 rfl) ?_
                        refine n_if_lt (tgt := 319) hx hb (by omega) (dk kL_fits_2_ok 17 rfl) (by decide) ?_
                        refine lv_iload hx hb (dk kL_fits_2_ok 18 rfl) (lv_at hl 3 rfl) ?_
                        refine lv_aload_n hx hb (dk kL_fits_2_ok 19 rfl) rfl (lv_at hl 7 rfl) ?_
                        refine lv_iload hx hb (dk kL_fits_2_ok 20 rfl) (lv_at hl 5 rfl) ?_
                        refine csR (As := [.ref (ad 0), .int (nI q)]) (r := .int (nI (Np q))) (rest := [.int (nI a9)]) ⟨hC.1, hC.2.1, hC.2.2.1, hC.2.2.2.1, hC.2.2.2.2.1⟩ (tL_manyN l D cI cQ cL ad 80 F_121 hN76 hK_122 (q := q) (n := Np q) (by omega) (hhq)) (cwSL 2 hC.2.2.2.2.1 mcL_many (lc0 _ (List.mem_of_getElem? (i := 6) rfl)) msL_many mini_RL rfl rfl hdL_many ⟨Nat.le_of_ble_eq_true rfl, Nat.le_of_ble_eq_true rfl⟩) hC.2.2.2.2.2.1 hP hC.2.2.2.2.2.2.1 rfl hl.1 rfl (Nat.le_of_ble_eq_true rfl) ⟨Nat.le_of_ble_eq_true rfl, Nat.le_of_ble_eq_true rfl⟩ (dk kL_fits_2_ok 21 rfl) ?_
                        refine n_icmp_ge (tgt := 319) hx hb (by omega) (by omega) (dk kL_fits_2_ok 22 rfl) (by decide) (fun h127 => ?_) (fun h127 => ?_)
                        · exact absurd h127 (by omega)
                        · skip
                          refine lv_aload_n hx hb (dk kL_fits_2_ok 23 rfl) rfl (lv_at hl 7 rfl) ?_
                          refine lv_iload hx hb (dk kL_fits_2_ok 24 rfl) (lv_at hl 6 rfl) ?_
                          refine lv_iconst (v := nI 4) hx hb (dk kL_fits_2_ok 25 rfl) rfl ?_
                          refine kw_wink hC hK_122 hN76 hP ht (w := i) (k := 4) (by omega) (by decide) (lc0 _ (List.mem_of_getElem? (i := 3) rfl)) hl.1 (Nat.le_of_ble_eq_true rfl) ⟨Nat.le_of_ble_eq_true rfl, Nat.le_of_ble_eq_true rfl⟩ (dk kL_fits_2_ok 26 rfl) (r := bI (cov v i)) rfl ?_
                          refine lv_iload hx hb (dk kL_fits_2_ok 27 rfl) (lv_at hl 2 rfl) ?_
                          refine n_if_eq (tgt := 265) hx hb (by decide) (dk kL_fits_2_ok 28 rfl) (by decide) (fun h9 => absurd h9 (by decide)) ?_
                          intro _
                          refine lv_iconst (v := nI 0) hx hb (dk kL_fits_2_ok 29 rfl) rfl ?_
                          refine lv_goto (tgt := 266) hx hb (dk kL_fits_2_ok 30 rfl) (by decide) ?_
                          refine lv_icmp_ne (tgt := 319) hx hb (dk kL_fits_2_ok 32 rfl) (by decide) (fun h128 => ?_) (fun h128 => ?_)
                          · exact absurd (bI_f (hcv.trans (decide_eq_false (by omega)))) h128
                          · skip
                            refine lv_iload hx hb (dk kL_fits_2_ok 33 rfl) (lv_at hl 2 rfl) ?_
                            refine n_if_eq (tgt := 294) hx hb (by decide) (dk kL_fits_2_ok 34 rfl) (by decide) (fun h9 => absurd h9 (by decide)) ?_
                            intro _
                            refine lv_aload_n hx hb (dk kL_fits_2_ok 35 rfl) rfl (lv_at hl 7 rfl) ?_
                            refine lv_iload hx hb (dk kL_fits_2_ok 36 rfl) (lv_at hl 5 rfl) ?_
                            refine lv_bipush (v := nI 13) hx hb (dk kL_fits_2_ok 37 rfl) rfl ?_
                            refine n_irem hx hb (by omega) (by decide) (by decide) (dk kL_fits_2_ok 38 rfl) ?_
                            refine lv_iload hx hb (dk kL_fits_2_ok 39 rfl) (lv_at hl 5 rfl) ?_
                            refine lv_bipush (v := nI 13) hx hb (dk kL_fits_2_ok 40 rfl) rfl ?_
                            refine n_idiv hx hb (by omega) (by decide) (by decide) (dk kL_fits_2_ok 41 rfl) ?_
                            refine lv_iconst (v := nI 1) hx hb (dk kL_fits_2_ok 42 rfl) rfl ?_
                            refine kw_pile hC hK_122 hN76 hP (q := q) (by omega) (k := 1) (by decide) (lc0 _ (List.mem_of_getElem? (i := 2) rfl)) hl.1 (Nat.le_of_ble_eq_true rfl) ⟨Nat.le_of_ble_eq_true rfl, Nat.le_of_ble_eq_true rfl⟩ (dk kL_fits_2_ok 43 rfl) (r := nI i) (by rw [cat_q]; show top c v (nI q) = nI i; rw [hRl.topv hR (by omega), if_neg (by omega), show Np q - 1 = a9 by omega, hWq]) ?_
                            refine lv_iload hx hb (dk kL_fits_2_ok 44 rfl) (lv_at hl 6 rfl) ?_
                            refine n_icmp_ne (tgt := 319) hx hb (by omega) (by omega) (dk kL_fits_2_ok 45 rfl) (by decide) (fun h129 => ?_) (fun h129 => ?_)
                            · exact absurd rfl h129
                            · skip
                              refine lv_iload hx hb (dk kL_fits_2_ok 46 rfl) (lv_at hl 3 rfl) ?_
                              refine n_if_ne (tgt := 321) hx hb (by omega) (dk kL_fits_2_ok 47 rfl) (by decide) (fun h130 => ?_) (fun h130 => ?_)
                              · exact absurd h107 h130
                              · skip
                                refine lv_aload_n hx hb (dk kL_fits_2_ok 48 rfl) rfl (lv_at hl 7 rfl) ?_
                                refine lv_iload hx hb (dk kL_fits_2_ok 49 rfl) (lv_at hl 5 rfl) ?_
                                refine lv_bipush (v := nI 13) hx hb (dk kL_fits_2_ok 50 rfl) rfl ?_
                                refine n_irem hx hb (by omega) (by decide) (by decide) (dk kL_fits_2_ok 51 rfl) ?_
                                refine lv_iload hx hb (dk kL_fits_2_ok 52 rfl) (lv_at hl 5 rfl) ?_
                                refine lv_bipush (v := nI 13) hx hb (dk kL_fits_2_ok 53 rfl) rfl ?_
                                refine n_idiv hx hb (by omega) (by decide) (by decide) (dk kL_fits_2_ok 54 rfl) ?_
                                refine lv_iconst (v := nI 2) hx hb (dk kL_fits_2_ok 55 rfl) rfl ?_
                                refine kw_pile hC hK_122 hN76 hP (q := q) (by omega) (k := 2) (by decide) (lc0 _ (List.mem_of_getElem? (i := 2) rfl)) hl.1 (Nat.le_of_ble_eq_true rfl) ⟨Nat.le_of_ble_eq_true rfl, Nat.le_of_ble_eq_true rfl⟩ (dk kL_fits_2_ok 56 rfl) (r := nI i) (by rw [cat_q]; show top c b (nI q) = nI i; rw [hRl.topb hR (by omega), if_neg (by omega), ← hWq, h130]) ?_
                                refine lv_iload hx hb (dk kL_fits_2_ok 57 rfl) (lv_at hl 6 rfl) ?_
                                refine n_icmp_eq (tgt := 321) hx hb (by omega) (by omega) (dk kL_fits_2_ok 58 rfl) (by decide) (fun h131 => ?_) (fun h131 => ?_)
                                · skip
                                  have hz9 : a9 = 0 := h130
                                  have hi16 : i < 16 := by omega
                                  refine lv_iconst (v := nI 0) hx hb (dk kL_fits_3_ok 1 rfl) rfl ?_
                                  refine lv_istore (lv' := [(10, .int (nI 0)), (4, .int (nI ((cnt (bot c b) i) + 1))), (3, .int (nI ((cnt (fun x => cov v x) i) + 0))), (9, .int (nI 1)), (8, .int (nI a9)), (7, .int (nI (i / 4))), (6, .int (nI q)), (5, .int (nI i)), (0, .ref (ad 0)), (1, .ref (ad 78)), (2, .ref (ad 79))]) hx hb (dk kL_fits_3_ok 2 rfl) hl (by decide) rfl (fun ls hl => ?_)
                                  have L324 : ∀ (fu : Nat) (o9 : Nat) (F : Nat → va_E) (H : Heap) (locs : List Loc), KW cI cQ ad F c b v g h j t u z m9 → F 79 = .inl (cI, 4, .inl (fun k => nI (qk c v k (i + 1)))) → F 77 = .inl (cI, 4, .inl lo) → F 78 = .inl (cI, 4, .inl (fun k => nI (pk c k i))) → va_P D vwCl (iW ad 80 F) H → va_S (iA ad 80 s.heap.size) s.heap H locs → (o9 ≤ i) → i - o9 < fu → ∀ ls : Array Slot, lv_has ls 11 [(10, .int (nI o9)), (4, .int (nI ((cnt (bot c b) i) + 1))), (3, .int (nI ((cnt (fun x => cov v x) i) + 0))), (9, .int (nI 1)), (8, .int (nI a9)), (7, .int (nI (i / 4))), (6, .int (nI q)), (5, .int (nI i)), (0, .ref (ad 0)), (1, .ref (ad 78)), (2, .ref (ad 79))] → W p l e ({ frames := 11, cells := 2, slots := 8, locals := 400 } : Room) s m AR below meth cd H locs 2 8 Q (F0 m 324 ls []) := by
                                    intro fu
                                    induction fu with
                                    | zero => intros; omega
                                    | succ fu ih324 =>
                                      intro o9 F H locs hK_127 h79_128 h77_129 h78_130 hP hS ho9 hme324 ls hl
                                      refine lv_iload hx hb (dk kL_fits_3_ok 3 rfl) (lv_at hl 0 rfl) ?_
                                      refine lv_iload hx hb (dk kL_fits_3_ok 4 rfl) (lv_at hl 7 rfl) ?_
                                      refine n_icmp_ge (tgt := 363) hx hb (by omega) (by omega) (dk kL_fits_3_ok 5 rfl) (by decide) (fun h132 => ?_) (fun h132 => ?_)
                                      · skip
                                        refine lv_iinc (v := nI (i + 1)) (lv' := [(5, .int (nI (i + 1))), (10, .int (nI o9)), (4, .int (nI ((cnt (bot c b) i) + 1))), (3, .int (nI ((cnt (fun x => cov v x) i) + 0))), (9, .int (nI 1)), (8, .int (nI a9)), (7, .int (nI (i / 4))), (6, .int (nI q)), (0, .ref (ad 0)), (1, .ref (ad 78)), (2, .ref (ad 79))]) hx hb (dk kL_fits_3_ok 22 rfl) hl (k := 7) rfl (n_inc _) (by decide) rfl (fun ls hl => ?_)
                                        refine lv_goto (tgt := 16) hx hb (dk kL_fits_3_ok 23 rfl) (by decide) ?_
                                        exact ih16 (i + 1) _ _ _ _ _ hK_127 h77_129 (by rw [← pk_n hpf]; exact h78_130) h79_128 hP hS (by rw [cn_t (hbt.trans (decide_eq_true hz9))]) (by rw [cn_f (p := fun x => cov v x) (hcv.trans (decide_eq_false (by omega))), Nat.add_zero]) (by first | rfl | omega | assumption) (by omega) ls (lv_sub hl [0, 2, 3, 8, 9, 10] rfl)
                                      · skip
                                        refine lv_aload_n hx hb (dk kL_fits_3_ok 6 rfl) rfl (lv_at hl 8 rfl) ?_
                                        refine lv_iload hx hb (dk kL_fits_3_ok 7 rfl) (lv_at hl 0 rfl) ?_
                                        refine lv_iconst (v := nI 2) hx hb (dk kL_fits_3_ok 8 rfl) rfl ?_
                                        refine kw_wink hC hK_127 hN76 hP ht (w := o9) (k := 2) (by omega) (by decide) (lc0 _ (List.mem_of_getElem? (i := 3) rfl)) hl.1 (Nat.le_of_ble_eq_true rfl) ⟨Nat.le_of_ble_eq_true rfl, Nat.le_of_ble_eq_true rfl⟩ (dk kL_fits_3_ok 9 rfl) (r := c o9) rfl ?_
                                        refine lv_iload hx hb (dk kL_fits_3_ok 10 rfl) (lv_at hl 6 rfl) ?_
                                        refine lv_icmp_ne (tgt := 357) hx hb (dk kL_fits_3_ok 11 rfl) (by decide) (fun h133 => ?_) (fun h133 => ?_)
                                        · skip
                                          refine lv_iinc (v := nI (o9 + 1)) (lv' := [(10, .int (nI (o9 + 1))), (4, .int (nI ((cnt (bot c b) i) + 1))), (3, .int (nI ((cnt (fun x => cov v x) i) + 0))), (9, .int (nI 1)), (8, .int (nI a9)), (7, .int (nI (i / 4))), (6, .int (nI q)), (5, .int (nI i)), (0, .ref (ad 0)), (1, .ref (ad 78)), (2, .ref (ad 79))]) hx hb (dk kL_fits_3_ok 20 rfl) hl (k := 0) rfl (n_inc _) (by decide) rfl (fun ls hl => ?_)
                                          refine lv_goto (tgt := 324) hx hb (dk kL_fits_3_ok 21 rfl) (by decide) ?_
                                          exact ih324 (o9 + 1) _ _ _ hK_127 h79_128 h77_129 h78_130 hP hS (by first | rfl | omega | assumption) (by omega) ls (lv_sub hl [0, 1, 2, 3, 4, 5, 6, 7, 8, 9, 10] rfl)
                                        · skip
                                          refine lv_aload_n hx hb (dk kL_fits_3_ok 12 rfl) rfl (lv_at hl 8 rfl) ?_
                                          refine lv_iload hx hb (dk kL_fits_3_ok 13 rfl) (lv_at hl 0 rfl) ?_
                                          refine lv_iconst (v := nI 3) hx hb (dk kL_fits_3_ok 14 rfl) rfl ?_
                                          refine kw_wink hC hK_127 hN76 hP ht (w := o9) (k := 3) (by omega) (by decide) (lc0 _ (List.mem_of_getElem? (i := 3) rfl)) hl.1 (Nat.le_of_ble_eq_true rfl) ⟨Nat.le_of_ble_eq_true rfl, Nat.le_of_ble_eq_true rfl⟩ (dk kL_fits_3_ok 15 rfl) (r := pls c b o9) rfl ?_
                                          refine lv_iload hx hb (dk kL_fits_3_ok 16 rfl) (lv_at hl 4 rfl) ?_
                                          refine lv_icmp_ne (tgt := 357) hx hb (dk kL_fits_3_ok 17 rfl) (by decide) (fun h134 => ?_) (fun h134 => ?_)
                                          · skip
                                            refine lv_iinc (v := nI (o9 + 1)) (lv' := [(10, .int (nI (o9 + 1))), (4, .int (nI ((cnt (bot c b) i) + 1))), (3, .int (nI ((cnt (fun x => cov v x) i) + 0))), (9, .int (nI 1)), (8, .int (nI a9)), (7, .int (nI (i / 4))), (6, .int (nI q)), (5, .int (nI i)), (0, .ref (ad 0)), (1, .ref (ad 78)), (2, .ref (ad 79))]) hx hb (dk kL_fits_3_ok 20 rfl) hl (k := 0) rfl (n_inc _) (by decide) rfl (fun ls hl => ?_)
                                            refine lv_goto (tgt := 324) hx hb (dk kL_fits_3_ok 21 rfl) (by decide) ?_
                                            exact ih324 (o9 + 1) _ _ _ hK_127 h79_128 h77_129 h78_130 hP hS (by first | rfl | omega | assumption) (by omega) ls (lv_sub hl [0, 1, 2, 3, 4, 5, 6, 7, 8, 9, 10] rfl)
                                          · exact absurd h134 (pl_ne hR hRl h133 (by omega) ha9 (by omega))
                                  exact L324 _ 0 _ _ _ hK_122 h79_126 h77_124 h78_125 hP hS (by first | rfl | omega | assumption) (Nat.lt_succ_self _) ls (lv_sub hl [0, 1, 2, 3, 4, 5, 6, 7, 8, 9, 10] rfl)
                                · exact absurd rfl h131
                    · skip
                      refine lv_iconst (v := nI 1) hx hb (dk kL_fits_2_ok 8 rfl) rfl ?_
                      refine lv_goto (tgt := 224) hx hb (dk kL_fits_2_ok 9 rfl) (by decide) ?_
                      refine lv_iadd hx hb (dk kL_fits_2_ok 11 rfl) ?_
                      refine ast (va_up F 79 (.inl (cI, 4, .inl (upd (fun k => nI (qk c v k i)) (i / 4) (((fun k => nI (qk c v k i)) (i / 4)) + (nI 1)))))) (k := 79) (j := i / 4) hx hb hC.2.2.2.2.2.1 hDi hP hS (by omega) h79_4 rfl (by omega) (by decide) (dk kL_fits_2_ok 12 rfl) rfl (fun H locs hP hS => ?_)
                      have hK_132 : KW cI cQ ad (va_up F 79 (.inl (cI, 4, .inl (upd (fun k => nI (qk c v k i)) (i / 4) (((fun k => nI (qk c v k i)) (i / 4)) + (nI 1)))))) c b v g h j t u z m9 := KW_fr hK_1 (fun i hi => va_up_ne _ _ (by omega))
                      have h79_133 : va_up F 79 (.inl (cI, 4, .inl (upd (fun k => nI (qk c v k i)) (i / 4) (((fun k => nI (qk c v k i)) (i / 4)) + (nI 1))))) 79 = .inl (cI, 4, .inl (upd (fun k => nI (qk c v k i)) (i / 4) (((fun k => nI (qk c v k i)) (i / 4)) + (nI 1)))) := va_up_self _ _ _
                      have h77_134 : va_up F 79 (.inl (cI, 4, .inl (upd (fun k => nI (qk c v k i)) (i / 4) (((fun k => nI (qk c v k i)) (i / 4)) + (nI 1))))) 77 = .inl (cI, 4, .inl lo) := (va_up_ne _ _ (by decide)).trans h77_2
                      have h78_135 : va_up F 79 (.inl (cI, 4, .inl (upd (fun k => nI (qk c v k i)) (i / 4) (((fun k => nI (qk c v k i)) (i / 4)) + (nI 1))))) 78 = .inl (cI, 4, .inl (fun k => nI (pk c k i))) := (va_up_ne _ _ (by decide)).trans h78_3
                      generalize va_up F 79 (.inl (cI, 4, .inl (upd (fun k => nI (qk c v k i)) (i / 4) (((fun k => nI (qk c v k i)) (i / 4)) + (nI 1))))) = F_131 at hP hK_132 h79_133 h77_134 h78_135
                      have h79_136 : F_131 79 = .inl (cI, 4, .inl (fun k => nI (qk c v k (i + 1)))) := by rw [h79_133]; exact congrArg (fun q => va_E9 cI 4 q) (qk_s (ptx_1 h89 (hcv.trans (decide_eq_false (by omega))) (by rw [hcq]; exact nI_ne (by omega) (by have := (bs_lt i).1; omega) h125)))
                      refine lv_iload hx hb (dk kL_fits_2_ok 13 rfl) (lv_at hl 5 rfl) ?_
                      refine lv_bipush (v := nI 84) hx hb (dk kL_fits_2_ok 14 rfl) rfl ?_
                      refine n_icmp_eq (tgt := 319) hx hb (by omega) (by decide) (dk kL_fits_2_ok 15 rfl) (by decide) (fun h135 => ?_) (fun h135 => ?_)
                      · exact absurd h135 hq84
                      · skip
                        refine lv_iload hx hb (dk kL_fits_2_ok 16 rfl) (lv_at hl 3 rfl) ?_
                        refine n_if_lt (tgt := 319) hx hb (by omega) (dk kL_fits_2_ok 17 rfl) (by decide) ?_
                        refine lv_iload hx hb (dk kL_fits_2_ok 18 rfl) (lv_at hl 3 rfl) ?_
                        refine lv_aload_n hx hb (dk kL_fits_2_ok 19 rfl) rfl (lv_at hl 7 rfl) ?_
                        refine lv_iload hx hb (dk kL_fits_2_ok 20 rfl) (lv_at hl 5 rfl) ?_
                        refine csR (As := [.ref (ad 0), .int (nI q)]) (r := .int (nI (Np q))) (rest := [.int (nI a9)]) ⟨hC.1, hC.2.1, hC.2.2.1, hC.2.2.2.1, hC.2.2.2.2.1⟩ (tL_manyN l D cI cQ cL ad 80 F_131 hN76 hK_132 (q := q) (n := Np q) (by omega) (hhq)) (cwSL 2 hC.2.2.2.2.1 mcL_many (lc0 _ (List.mem_of_getElem? (i := 6) rfl)) msL_many mini_RL rfl rfl hdL_many ⟨Nat.le_of_ble_eq_true rfl, Nat.le_of_ble_eq_true rfl⟩) hC.2.2.2.2.2.1 hP hC.2.2.2.2.2.2.1 rfl hl.1 rfl (Nat.le_of_ble_eq_true rfl) ⟨Nat.le_of_ble_eq_true rfl, Nat.le_of_ble_eq_true rfl⟩ (dk kL_fits_2_ok 21 rfl) ?_
                        refine n_icmp_ge (tgt := 319) hx hb (by omega) (by omega) (dk kL_fits_2_ok 22 rfl) (by decide) (fun h136 => ?_) (fun h136 => ?_)
                        · exact absurd h136 (by omega)
                        · skip
                          refine lv_aload_n hx hb (dk kL_fits_2_ok 23 rfl) rfl (lv_at hl 7 rfl) ?_
                          refine lv_iload hx hb (dk kL_fits_2_ok 24 rfl) (lv_at hl 6 rfl) ?_
                          refine lv_iconst (v := nI 4) hx hb (dk kL_fits_2_ok 25 rfl) rfl ?_
                          refine kw_wink hC hK_132 hN76 hP ht (w := i) (k := 4) (by omega) (by decide) (lc0 _ (List.mem_of_getElem? (i := 3) rfl)) hl.1 (Nat.le_of_ble_eq_true rfl) ⟨Nat.le_of_ble_eq_true rfl, Nat.le_of_ble_eq_true rfl⟩ (dk kL_fits_2_ok 26 rfl) (r := bI (cov v i)) rfl ?_
                          refine lv_iload hx hb (dk kL_fits_2_ok 27 rfl) (lv_at hl 2 rfl) ?_
                          refine n_if_eq (tgt := 265) hx hb (by decide) (dk kL_fits_2_ok 28 rfl) (by decide) (fun h9 => absurd h9 (by decide)) ?_
                          intro _
                          refine lv_iconst (v := nI 0) hx hb (dk kL_fits_2_ok 29 rfl) rfl ?_
                          refine lv_goto (tgt := 266) hx hb (dk kL_fits_2_ok 30 rfl) (by decide) ?_
                          refine lv_icmp_ne (tgt := 319) hx hb (dk kL_fits_2_ok 32 rfl) (by decide) (fun h137 => ?_) (fun h137 => ?_)
                          · exact absurd (bI_f (hcv.trans (decide_eq_false (by omega)))) h137
                          · skip
                            refine lv_iload hx hb (dk kL_fits_2_ok 33 rfl) (lv_at hl 2 rfl) ?_
                            refine n_if_eq (tgt := 294) hx hb (by decide) (dk kL_fits_2_ok 34 rfl) (by decide) (fun h9 => absurd h9 (by decide)) ?_
                            intro _
                            refine lv_aload_n hx hb (dk kL_fits_2_ok 35 rfl) rfl (lv_at hl 7 rfl) ?_
                            refine lv_iload hx hb (dk kL_fits_2_ok 36 rfl) (lv_at hl 5 rfl) ?_
                            refine lv_bipush (v := nI 13) hx hb (dk kL_fits_2_ok 37 rfl) rfl ?_
                            refine n_irem hx hb (by omega) (by decide) (by decide) (dk kL_fits_2_ok 38 rfl) ?_
                            refine lv_iload hx hb (dk kL_fits_2_ok 39 rfl) (lv_at hl 5 rfl) ?_
                            refine lv_bipush (v := nI 13) hx hb (dk kL_fits_2_ok 40 rfl) rfl ?_
                            refine n_idiv hx hb (by omega) (by decide) (by decide) (dk kL_fits_2_ok 41 rfl) ?_
                            refine lv_iconst (v := nI 1) hx hb (dk kL_fits_2_ok 42 rfl) rfl ?_
                            refine kw_pile hC hK_132 hN76 hP (q := q) (by omega) (k := 1) (by decide) (lc0 _ (List.mem_of_getElem? (i := 2) rfl)) hl.1 (Nat.le_of_ble_eq_true rfl) ⟨Nat.le_of_ble_eq_true rfl, Nat.le_of_ble_eq_true rfl⟩ (dk kL_fits_2_ok 43 rfl) (r := nI i) (by rw [cat_q]; show top c v (nI q) = nI i; rw [hRl.topv hR (by omega), if_neg (by omega), show Np q - 1 = a9 by omega, hWq]) ?_
                            refine lv_iload hx hb (dk kL_fits_2_ok 44 rfl) (lv_at hl 6 rfl) ?_
                            refine n_icmp_ne (tgt := 319) hx hb (by omega) (by omega) (dk kL_fits_2_ok 45 rfl) (by decide) (fun h138 => ?_) (fun h138 => ?_)
                            · exact absurd rfl h138
                            · skip
                              refine lv_iload hx hb (dk kL_fits_2_ok 46 rfl) (lv_at hl 3 rfl) ?_
                              refine n_if_ne (tgt := 321) hx hb (by omega) (dk kL_fits_2_ok 47 rfl) (by decide) (fun h139 => ?_) (fun h139 => ?_)
                              · exact absurd h107 h139
                              · skip
                                refine lv_aload_n hx hb (dk kL_fits_2_ok 48 rfl) rfl (lv_at hl 7 rfl) ?_
                                refine lv_iload hx hb (dk kL_fits_2_ok 49 rfl) (lv_at hl 5 rfl) ?_
                                refine lv_bipush (v := nI 13) hx hb (dk kL_fits_2_ok 50 rfl) rfl ?_
                                refine n_irem hx hb (by omega) (by decide) (by decide) (dk kL_fits_2_ok 51 rfl) ?_
                                refine lv_iload hx hb (dk kL_fits_2_ok 52 rfl) (lv_at hl 5 rfl) ?_
                                refine lv_bipush (v := nI 13) hx hb (dk kL_fits_2_ok 53 rfl) rfl ?_
                                refine n_idiv hx hb (by omega) (by decide) (by decide) (dk kL_fits_2_ok 54 rfl) ?_
                                refine lv_iconst (v := nI 2) hx hb (dk kL_fits_2_ok 55 rfl) rfl ?_
                                refine kw_pile hC hK_132 hN76 hP (q := q) (by omega) (k := 2) (by decide) (lc0 _ (List.mem_of_getElem? (i := 2) rfl)) hl.1 (Nat.le_of_ble_eq_true rfl) ⟨Nat.le_of_ble_eq_true rfl, Nat.le_of_ble_eq_true rfl⟩ (dk kL_fits_2_ok 56 rfl) (r := nI i) (by rw [cat_q]; show top c b (nI q) = nI i; rw [hRl.topb hR (by omega), if_neg (by omega), ← hWq, h139]) ?_
                                refine lv_iload hx hb (dk kL_fits_2_ok 57 rfl) (lv_at hl 6 rfl) ?_
                                refine n_icmp_eq (tgt := 321) hx hb (by omega) (by omega) (dk kL_fits_2_ok 58 rfl) (by decide) (fun h140 => ?_) (fun h140 => ?_)
                                · skip
                                  have hz9 : a9 = 0 := h139
                                  have hi16 : i < 16 := by omega
                                  refine lv_iconst (v := nI 0) hx hb (dk kL_fits_3_ok 1 rfl) rfl ?_
                                  refine lv_istore (lv' := [(10, .int (nI 0)), (4, .int (nI ((cnt (bot c b) i) + 1))), (3, .int (nI ((cnt (fun x => cov v x) i) + 0))), (9, .int (nI 1)), (8, .int (nI a9)), (7, .int (nI (i / 4))), (6, .int (nI q)), (5, .int (nI i)), (0, .ref (ad 0)), (1, .ref (ad 78)), (2, .ref (ad 79))]) hx hb (dk kL_fits_3_ok 2 rfl) hl (by decide) rfl (fun ls hl => ?_)
                                  have L324 : ∀ (fu : Nat) (o9 : Nat) (F : Nat → va_E) (H : Heap) (locs : List Loc), KW cI cQ ad F c b v g h j t u z m9 → F 79 = .inl (cI, 4, .inl (fun k => nI (qk c v k (i + 1)))) → F 77 = .inl (cI, 4, .inl lo) → F 78 = .inl (cI, 4, .inl (fun k => nI (pk c k i))) → va_P D vwCl (iW ad 80 F) H → va_S (iA ad 80 s.heap.size) s.heap H locs → (o9 ≤ i) → i - o9 < fu → ∀ ls : Array Slot, lv_has ls 11 [(10, .int (nI o9)), (4, .int (nI ((cnt (bot c b) i) + 1))), (3, .int (nI ((cnt (fun x => cov v x) i) + 0))), (9, .int (nI 1)), (8, .int (nI a9)), (7, .int (nI (i / 4))), (6, .int (nI q)), (5, .int (nI i)), (0, .ref (ad 0)), (1, .ref (ad 78)), (2, .ref (ad 79))] → W p l e ({ frames := 11, cells := 2, slots := 8, locals := 400 } : Room) s m AR below meth cd H locs 2 8 Q (F0 m 324 ls []) := by
                                    intro fu
                                    induction fu with
                                    | zero => intros; omega
                                    | succ fu ih324 =>
                                      intro o9 F H locs hK_137 h79_138 h77_139 h78_140 hP hS ho9 hme324 ls hl
                                      refine lv_iload hx hb (dk kL_fits_3_ok 3 rfl) (lv_at hl 0 rfl) ?_
                                      refine lv_iload hx hb (dk kL_fits_3_ok 4 rfl) (lv_at hl 7 rfl) ?_
                                      refine n_icmp_ge (tgt := 363) hx hb (by omega) (by omega) (dk kL_fits_3_ok 5 rfl) (by decide) (fun h141 => ?_) (fun h141 => ?_)
                                      · skip
                                        refine lv_iinc (v := nI (i + 1)) (lv' := [(5, .int (nI (i + 1))), (10, .int (nI o9)), (4, .int (nI ((cnt (bot c b) i) + 1))), (3, .int (nI ((cnt (fun x => cov v x) i) + 0))), (9, .int (nI 1)), (8, .int (nI a9)), (7, .int (nI (i / 4))), (6, .int (nI q)), (0, .ref (ad 0)), (1, .ref (ad 78)), (2, .ref (ad 79))]) hx hb (dk kL_fits_3_ok 22 rfl) hl (k := 7) rfl (n_inc _) (by decide) rfl (fun ls hl => ?_)
                                        refine lv_goto (tgt := 16) hx hb (dk kL_fits_3_ok 23 rfl) (by decide) ?_
                                        exact ih16 (i + 1) _ _ _ _ _ hK_137 h77_139 (by rw [← pk_n hpf]; exact h78_140) h79_138 hP hS (by rw [cn_t (hbt.trans (decide_eq_true hz9))]) (by rw [cn_f (p := fun x => cov v x) (hcv.trans (decide_eq_false (by omega))), Nat.add_zero]) (by first | rfl | omega | assumption) (by omega) ls (lv_sub hl [0, 2, 3, 8, 9, 10] rfl)
                                      · skip
                                        refine lv_aload_n hx hb (dk kL_fits_3_ok 6 rfl) rfl (lv_at hl 8 rfl) ?_
                                        refine lv_iload hx hb (dk kL_fits_3_ok 7 rfl) (lv_at hl 0 rfl) ?_
                                        refine lv_iconst (v := nI 2) hx hb (dk kL_fits_3_ok 8 rfl) rfl ?_
                                        refine kw_wink hC hK_137 hN76 hP ht (w := o9) (k := 2) (by omega) (by decide) (lc0 _ (List.mem_of_getElem? (i := 3) rfl)) hl.1 (Nat.le_of_ble_eq_true rfl) ⟨Nat.le_of_ble_eq_true rfl, Nat.le_of_ble_eq_true rfl⟩ (dk kL_fits_3_ok 9 rfl) (r := c o9) rfl ?_
                                        refine lv_iload hx hb (dk kL_fits_3_ok 10 rfl) (lv_at hl 6 rfl) ?_
                                        refine lv_icmp_ne (tgt := 357) hx hb (dk kL_fits_3_ok 11 rfl) (by decide) (fun h142 => ?_) (fun h142 => ?_)
                                        · skip
                                          refine lv_iinc (v := nI (o9 + 1)) (lv' := [(10, .int (nI (o9 + 1))), (4, .int (nI ((cnt (bot c b) i) + 1))), (3, .int (nI ((cnt (fun x => cov v x) i) + 0))), (9, .int (nI 1)), (8, .int (nI a9)), (7, .int (nI (i / 4))), (6, .int (nI q)), (5, .int (nI i)), (0, .ref (ad 0)), (1, .ref (ad 78)), (2, .ref (ad 79))]) hx hb (dk kL_fits_3_ok 20 rfl) hl (k := 0) rfl (n_inc _) (by decide) rfl (fun ls hl => ?_)
                                          refine lv_goto (tgt := 324) hx hb (dk kL_fits_3_ok 21 rfl) (by decide) ?_
                                          exact ih324 (o9 + 1) _ _ _ hK_137 h79_138 h77_139 h78_140 hP hS (by first | rfl | omega | assumption) (by omega) ls (lv_sub hl [0, 1, 2, 3, 4, 5, 6, 7, 8, 9, 10] rfl)
                                        · skip
                                          refine lv_aload_n hx hb (dk kL_fits_3_ok 12 rfl) rfl (lv_at hl 8 rfl) ?_
                                          refine lv_iload hx hb (dk kL_fits_3_ok 13 rfl) (lv_at hl 0 rfl) ?_
                                          refine lv_iconst (v := nI 3) hx hb (dk kL_fits_3_ok 14 rfl) rfl ?_
                                          refine kw_wink hC hK_137 hN76 hP ht (w := o9) (k := 3) (by omega) (by decide) (lc0 _ (List.mem_of_getElem? (i := 3) rfl)) hl.1 (Nat.le_of_ble_eq_true rfl) ⟨Nat.le_of_ble_eq_true rfl, Nat.le_of_ble_eq_true rfl⟩ (dk kL_fits_3_ok 15 rfl) (r := pls c b o9) rfl ?_
                                          refine lv_iload hx hb (dk kL_fits_3_ok 16 rfl) (lv_at hl 4 rfl) ?_
                                          refine lv_icmp_ne (tgt := 357) hx hb (dk kL_fits_3_ok 17 rfl) (by decide) (fun h143 => ?_) (fun h143 => ?_)
                                          · skip
                                            refine lv_iinc (v := nI (o9 + 1)) (lv' := [(10, .int (nI (o9 + 1))), (4, .int (nI ((cnt (bot c b) i) + 1))), (3, .int (nI ((cnt (fun x => cov v x) i) + 0))), (9, .int (nI 1)), (8, .int (nI a9)), (7, .int (nI (i / 4))), (6, .int (nI q)), (5, .int (nI i)), (0, .ref (ad 0)), (1, .ref (ad 78)), (2, .ref (ad 79))]) hx hb (dk kL_fits_3_ok 20 rfl) hl (k := 0) rfl (n_inc _) (by decide) rfl (fun ls hl => ?_)
                                            refine lv_goto (tgt := 324) hx hb (dk kL_fits_3_ok 21 rfl) (by decide) ?_
                                            exact ih324 (o9 + 1) _ _ _ hK_137 h79_138 h77_139 h78_140 hP hS (by first | rfl | omega | assumption) (by omega) ls (lv_sub hl [0, 1, 2, 3, 4, 5, 6, 7, 8, 9, 10] rfl)
                                          · exact absurd h143 (pl_ne hR hRl h142 (by omega) ha9 (by omega))
                                  exact L324 _ 0 _ _ _ hK_132 h79_136 h77_134 h78_135 hP hS (by first | rfl | omega | assumption) (Nat.lt_succ_self _) ls (lv_sub hl [0, 1, 2, 3, 4, 5, 6, 7, 8, 9, 10] rfl)
                                · exact absurd rfl h140
              · skip
                have hpt : pot c i = true := pot_at.mpr h89
                have hvb := hRl.2.2 i (by omega) h89
                have hcf : cov v i = false := by unfold cov; rw [hvb.2]; decide
                have hbf : bot c b i = false := by unfold bot; rw [h89]; rfl
                refine lv_aload_n hx hb (dk kL_fits_0_ok 48 rfl) rfl (lv_at hl 6 rfl) ?_
                refine lv_iload hx hb (dk kL_fits_0_ok 49 rfl) (lv_at hl 0 rfl) ?_
                refine lv_dup2_11 hx hb (dk kL_fits_0_ok 50 rfl) rfl rfl ?_
                refine ald (j := (i / 4)) hx hb hK hP (by omega) h78_3 rfl (by omega) (by decide) (dk kL_fits_0_ok 51 rfl) ?_
                refine lv_iconst (v := nI 1) hx hb (dk kL_fits_0_ok 52 rfl) rfl ?_
                refine lv_iadd hx hb (dk kL_fits_0_ok 53 rfl) ?_
                refine ast (va_up F 78 (.inl (cI, 4, .inl (upd (fun k => nI (pk c k i)) (i / 4) (((fun k => nI (pk c k i)) (i / 4)) + (nI 1)))))) (k := 78) (j := i / 4) hx hb hC.2.2.2.2.2.1 hDi hP hS (by omega) h78_3 rfl (by omega) (by decide) (dk kL_fits_0_ok 54 rfl) rfl (fun H locs hP hS => ?_)
                have hK_142 : KW cI cQ ad (va_up F 78 (.inl (cI, 4, .inl (upd (fun k => nI (pk c k i)) (i / 4) (((fun k => nI (pk c k i)) (i / 4)) + (nI 1)))))) c b v g h j t u z m9 := KW_fr hK_1 (fun i hi => va_up_ne _ _ (by omega))
                have h78_143 : va_up F 78 (.inl (cI, 4, .inl (upd (fun k => nI (pk c k i)) (i / 4) (((fun k => nI (pk c k i)) (i / 4)) + (nI 1))))) 78 = .inl (cI, 4, .inl (upd (fun k => nI (pk c k i)) (i / 4) (((fun k => nI (pk c k i)) (i / 4)) + (nI 1)))) := va_up_self _ _ _
                have h77_144 : va_up F 78 (.inl (cI, 4, .inl (upd (fun k => nI (pk c k i)) (i / 4) (((fun k => nI (pk c k i)) (i / 4)) + (nI 1))))) 77 = .inl (cI, 4, .inl lo) := (va_up_ne _ _ (by decide)).trans h77_2
                have h79_145 : va_up F 78 (.inl (cI, 4, .inl (upd (fun k => nI (pk c k i)) (i / 4) (((fun k => nI (pk c k i)) (i / 4)) + (nI 1))))) 79 = .inl (cI, 4, .inl (fun k => nI (qk c v k i))) := (va_up_ne _ _ (by decide)).trans h79_4
                generalize va_up F 78 (.inl (cI, 4, .inl (upd (fun k => nI (pk c k i)) (i / 4) (((fun k => nI (pk c k i)) (i / 4)) + (nI 1))))) = F_141 at hP hK_142 h78_143 h77_144 h79_145
                have h78_146 : F_141 78 = .inl (cI, 4, .inl (fun k => nI (pk c k (i + 1)))) := by rw [h78_143]; exact congrArg (fun q => va_E9 cI 4 q) (pk_s hpt)
                refine lv_aload_n hx hb (dk kL_fits_0_ok 55 rfl) rfl (lv_at hl 7 rfl) ?_
                refine lv_iload hx hb (dk kL_fits_0_ok 56 rfl) (lv_at hl 0 rfl) ?_
                refine lv_dup2_11 hx hb (dk kL_fits_0_ok 57 rfl) rfl rfl ?_
                refine ald (j := (i / 4)) hx hb hK hP (by omega) h79_145 rfl (by omega) (by decide) (dk kL_fits_0_ok 58 rfl) ?_
                refine lv_iconst (v := nI 3) hx hb (dk kL_fits_0_ok 59 rfl) rfl ?_
                refine lv_iadd hx hb (dk kL_fits_1_ok 0 rfl) ?_
                refine ast (va_up F_141 79 (.inl (cI, 4, .inl (upd (fun k => nI (qk c v k i)) (i / 4) (((fun k => nI (qk c v k i)) (i / 4)) + (nI 3)))))) (k := 79) (j := i / 4) hx hb hC.2.2.2.2.2.1 hDi hP hS (by omega) h79_145 rfl (by omega) (by decide) (dk kL_fits_1_ok 1 rfl) rfl (fun H locs hP hS => ?_)
                have hK_148 : KW cI cQ ad (va_up F_141 79 (.inl (cI, 4, .inl (upd (fun k => nI (qk c v k i)) (i / 4) (((fun k => nI (qk c v k i)) (i / 4)) + (nI 3)))))) c b v g h j t u z m9 := KW_fr hK_142 (fun i hi => va_up_ne _ _ (by omega))
                have h79_149 : va_up F_141 79 (.inl (cI, 4, .inl (upd (fun k => nI (qk c v k i)) (i / 4) (((fun k => nI (qk c v k i)) (i / 4)) + (nI 3))))) 79 = .inl (cI, 4, .inl (upd (fun k => nI (qk c v k i)) (i / 4) (((fun k => nI (qk c v k i)) (i / 4)) + (nI 3)))) := va_up_self _ _ _
                have h78_150 : va_up F_141 79 (.inl (cI, 4, .inl (upd (fun k => nI (qk c v k i)) (i / 4) (((fun k => nI (qk c v k i)) (i / 4)) + (nI 3))))) 78 = .inl (cI, 4, .inl (fun k => nI (pk c k (i + 1)))) := (va_up_ne _ _ (by decide)).trans h78_146
                have h77_151 : va_up F_141 79 (.inl (cI, 4, .inl (upd (fun k => nI (qk c v k i)) (i / 4) (((fun k => nI (qk c v k i)) (i / 4)) + (nI 3))))) 77 = .inl (cI, 4, .inl lo) := (va_up_ne _ _ (by decide)).trans h77_144
                generalize va_up F_141 79 (.inl (cI, 4, .inl (upd (fun k => nI (qk c v k i)) (i / 4) (((fun k => nI (qk c v k i)) (i / 4)) + (nI 3))))) = F_147 at hP hK_148 h79_149 h78_150 h77_151
                have h79_152 : F_147 79 = .inl (cI, 4, .inl (fun k => nI (qk c v k (i + 1)))) := by rw [h79_149]; exact congrArg (fun q => va_E9 cI 4 q) (qk_s (ptx_3 h89))
                refine lv_aload_n hx hb (dk kL_fits_1_ok 2 rfl) rfl (lv_at hl 5 rfl) ?_
                refine lv_iload hx hb (dk kL_fits_1_ok 3 rfl) (lv_at hl 2 rfl) ?_
                refine lv_iconst (v := nI 3) hx hb (dk kL_fits_1_ok 4 rfl) rfl ?_
                refine kw_wink hC hK_148 hN76 hP ht (w := i) (k := 3) (by omega) (by decide) (lc0 _ (List.mem_of_getElem? (i := 3) rfl)) hl.1 (Nat.le_of_ble_eq_true rfl) ⟨Nat.le_of_ble_eq_true rfl, Nat.le_of_ble_eq_true rfl⟩ (dk kL_fits_1_ok 5 rfl) (r := -1) (show pls c b i = -1 from if_pos (pot_at.mp hpt)) ?_
                refine lv_iconst (v := -1) hx hb (dk kL_fits_1_ok 6 rfl) rfl ?_
                refine lv_icmp_ne (tgt := 140) hx hb (dk kL_fits_1_ok 7 rfl) (by decide) (fun h144 => ?_) (fun h144 => ?_)
                · exact absurd rfl h144
                · skip
                  refine lv_aload_n hx hb (dk kL_fits_1_ok 8 rfl) rfl (lv_at hl 5 rfl) ?_
                  refine lv_iload hx hb (dk kL_fits_1_ok 9 rfl) (lv_at hl 2 rfl) ?_
                  refine lv_iconst (v := nI 4) hx hb (dk kL_fits_1_ok 10 rfl) rfl ?_
                  refine kw_wink hC hK_148 hN76 hP ht (w := i) (k := 4) (by omega) (by decide) (lc0 _ (List.mem_of_getElem? (i := 3) rfl)) hl.1 (Nat.le_of_ble_eq_true rfl) ⟨Nat.le_of_ble_eq_true rfl, Nat.le_of_ble_eq_true rfl⟩ (dk kL_fits_1_ok 11 rfl) (r := bI (cov v i)) rfl ?_
                  refine b_if_ne (tgt := 140) hx hb (dk kL_fits_1_ok 12 rfl) (by decide) (fun h145 => ?_) (fun h145 => ?_)
                  · exact absurd (hcf.symm.trans h145) (by decide)
                  · skip
                    refine lv_aload_n hx hb (dk kL_fits_1_ok 13 rfl) rfl (lv_at hl 5 rfl) ?_
                    refine lv_iload hx hb (dk kL_fits_1_ok 14 rfl) (lv_at hl 2 rfl) ?_
                    refine kw_flights hC hK_148 hN76 hP (w := i) (by omega) hpt (lc0 _ (List.mem_of_getElem? (i := 4) rfl)) hl.1 (Nat.le_of_ble_eq_true rfl) ⟨Nat.le_of_ble_eq_true rfl, Nat.le_of_ble_eq_true rfl⟩ (dk kL_fits_1_ok 15 rfl) (r := nI 0) rfl ?_
                    refine n_if_ne (tgt := 140) hx hb (by decide) (dk kL_fits_1_ok 16 rfl) (by decide) (fun h9 => absurd h9 (by decide)) ?_
                    intro _
                    refine lv_aload_n hx hb (dk kL_fits_1_ok 17 rfl) rfl (lv_at hl 5 rfl) ?_
                    refine lv_iload hx hb (dk kL_fits_1_ok 18 rfl) (lv_at hl 2 rfl) ?_
                    refine lv_iconst (v := nI 0) hx hb (dk kL_fits_1_ok 19 rfl) rfl ?_
                    refine lv_iconst (v := nI 1) hx hb (dk kL_fits_1_ok 20 rfl) rfl ?_
                    refine kw_lands hC hK_148 hN76 hP (w := i) (by omega) (d := 0) (f := 1) (by decide) (by decide) (lc0 _ (List.mem_of_getElem? (i := 5) rfl)) hl.1 (Nat.le_of_ble_eq_true rfl) ⟨Nat.le_of_ble_eq_true rfl, Nat.le_of_ble_eq_true rfl⟩ (dk kL_fits_1_ok 21 rfl) (r := -2) (show cLan c i (nI 0) 1 = -2 from if_pos hpt) ?_
                    refine lv_bipush (v := -2) hx hb (dk kL_fits_1_ok 22 rfl) rfl ?_
                    refine lv_icmp_eq (tgt := 363) hx hb (dk kL_fits_1_ok 23 rfl) (by decide) (fun h146 => ?_) (fun h146 => ?_)
                    · skip
                      refine lv_iinc (v := nI (i + 1)) (lv' := [(5, .int (nI (i + 1))), (7, .int (nI (i / 4))), (6, .int (c i)), (4, .int (nI (cnt (bot c b) i))), (3, .int (nI (cnt (fun x => cov v x) i))), (0, .ref (ad 0)), (1, .ref (ad 78)), (2, .ref (ad 79))]) hx hb (dk kL_fits_3_ok 22 rfl) hl (k := 2) rfl (n_inc _) (by decide) rfl (fun ls hl => ?_)
                      refine lv_goto (tgt := 16) hx hb (dk kL_fits_3_ok 23 rfl) (by decide) ?_
                      exact ih16 (i + 1) _ _ _ _ _ hK_148 h77_151 h78_150 h79_152 hP hS (by rw [cn_f hbf]) (by rw [cn_f (p := fun x => cov v x) hcf]) (by first | rfl | omega | assumption) (by omega) ls (lv_sub hl [0, 3, 4, 5, 6, 7] rfl)
                    · exact absurd rfl h146
            · exact absurd (show (if i % 4 < 2 then nI 1 else nI 0) = nI 1 from if_pos (by omega)) h88
  exact L16 _ 0 _ _ _ _ _ hKW h77 h78 h79 hP hS (by first | rfl | omega) (by first | rfl | omega) (by first | rfl | omega) (Nat.lt_succ_self _) ls (lv_sub hl [0, 1, 2, 3, 4, 5] rfl)
set_option maxRecDepth 100000 in
set_option maxHeartbeats 8000000 in
theorem tL_fits (l : Launch) (D : va_G) (cI cQ cL : ClassId) (ad : Nat → Nat) (F : Nat → va_E) (hLI : LINV cI cQ ad F) : MX l yL_fits (Cond.code yL_fits cL_fits 11 (some .boolean) :: LW) ({ frames := 11, cells := 2, slots := 8, locals := 400 } : Room) D cI cQ cL ad 78 F [.ref (ad 0)] (fun v9 G9 => v9 = some (.int (nI 1)) ∧ LINV cI cQ ad G9) 2 8 := by
  refine mx_i (ty := .boolean) (by decide +kernel) rfl (Nat.le_of_ble_eq_true rfl) (fun p e s m below meth cd Q ls hx hb hml hown hts hDi hP hK hNW hS hret hl => ?_)
  have hC : CX p s m cd cL_fits 11 ([.ref (ad 0)] : List Value).toArray D cI cQ cL ({ frames := 11, cells := 2, slots := 8, locals := 400 } : Room) := ⟨hx, hb, hml, hown, fun w h => hts w (List.mem_cons_of_mem _ h), hK, hNW, Nat.le_of_ble_eq_true rfl, Nat.le_of_ble_eq_true rfl⟩
  obtain ⟨c, b, v, g, h, j, t, u, z, m9, lo, hKW, ⟨Np, Wp, hR, hRl⟩, ht, h77, hjl⟩ := hLI
  have hl : lv_has ls 11 [(0, .ref (ad 0))] := hl
  refine lv_iconst (v := nI 4) hx hb (dk kL_fits_0_ok 0 rfl) rfl ?_
  refine nwA (n := 4) hx hb (hC.2.2.2.2.1 _ (lcA _ (ac0 _ (List.mem_of_getElem? (i := 3) rfl)))) hK hDi hP hS (by decide) (Nat.le_of_ble_eq_true rfl) (Nat.le_of_ble_eq_true rfl) (dk kL_fits_0_ok 1 rfl) (fun ad1 F1 H1 ha hF h78 hD1 hA hP1 hS1 => ?_)
  rw [← ha 0 (by decide)] at hl
  refine lv_astore_n (lv' := [(1, .ref (ad1 78)), (0, .ref (ad1 0))]) hx hb (dk kL_fits_0_ok 2 rfl) rfl hl (by decide) rfl (fun ls hl => ?_)
  refine lv_iconst (v := nI 4) hx hb (dk kL_fits_0_ok 3 rfl) rfl ?_
  refine nwA (n := 4) hx hb (hC.2.2.2.2.1 _ (lcA _ (ac0 _ (List.mem_of_getElem? (i := 3) rfl)))) hK hD1 hP1 (by rw [hA]; exact hS1) (by decide) (Nat.le_of_ble_eq_true rfl) (Nat.le_of_ble_eq_true rfl) (dk kL_fits_0_ok 4 rfl) (fun ad2 F2 H2 ha2 hF2 h79 hD2 hA2 hP2 hS2 => ?_)
  rw [← ha2 0 (by decide), ← ha2 78 (by decide)] at hl
  refine lv_astore_n (lv' := [(2, .ref (ad2 79)), (1, .ref (ad2 78)), (0, .ref (ad2 0))]) hx hb (dk kL_fits_0_ok 5 rfl) rfl hl (by decide) rfl (fun ls hl => ?_)
  have hA3 := hA2.trans hA
  have he : ∀ i, i ≠ 78 → i ≠ 79 → ad2 i = ad i := fun i e1 e2 => (ha2 i e2).trans (ha i e1)
  exact fits_1 hC hD2 (fun pc ls H locs F9 g1 g2 g3 g4 => hret pc ls _ H locs F9 2 8 rfl ⟨rfl, LINV_ad g1 (fun i e1 e2 => (he i e1 e2).symm)⟩ (iW_cut g2 (by decide) (fun i hi => he i (by omega) (by omega))) (by rw [← hA3]; exact g3) (Nat.le_refl _) (Nat.le_refl _) g4) (lo := lo) hR hRl ht hjl (KW_ad (KW_fr (KW_fr hKW (fun i hi => hF i (by omega))) (fun i hi => hF2 i (by omega))) he) ((hF2 77 (by decide)).trans ((hF 77 (by decide)).trans h77)) ((hF2 78 (by decide)).trans h78) h79 hP2 (by rw [hA3, ← hA]; exact hS2) ls (lv_sub hl [2, 1, 0] rfl)
