set_option maxRecDepth 100000 in
set_option maxHeartbeats 4000000 in
theorem tX6_fewest (l : Launch) (D : va_G) (cI cQ cL : ClassId) (ad : Nat → Nat) (N : Nat) (F : Nat → va_E) (k : Nat) (hk : k + 7 < N) (r ps sl sd ne fa bu : Nat → Int32) (hs : Bool) (st ln pt : Nat) (th : Int32) (hR : rfAt cI ad F k r ps sl sd ne fa bu hs st ln pt th) (x : Int32) (w : Nat) (hxw : x = nI w) (hw : w < 16) (q n : Nat) (hq : r w = nI q) (hq9 : q < 169) (hq84 : q ≠ 84) (hpt : pot r w = false) (hfw : fwr w q n) : MX l yX6_fewest (Cond.code yX6_fewest cX6_fewest 7 (some .int) :: AW) ({ frames := 2, cells := 0, slots := 0, locals := 50 } : Room) D cI cQ cL ad N F [.ref (ad k), .int x] (fun v9 G9 => v9 = some (.int (nI n)) ∧ ∃ ne9 fa9, G9 = rfSet cI ad F k r ps sl sd ne9 fa9 bu hs st ln pt th) 0 0 := by
  refine mx_i (ty := .int) (by decide +kernel) rfl (Nat.le_of_ble_eq_true rfl) (fun p e s m below meth cd Q ls hx hb hml hown hts hDi hP hK hNW hS hret hl => ?_)
  have hown : s.vm.findClass RX6 = some m.cls := hown
  subst hxw
  have hk0 : k < N := by omega
  have hk1 : k + 1 < N := by omega
  have hk2 : k + 2 < N := by omega
  have hk3 : k + 3 < N := by omega
  have hk4 : k + 4 < N := by omega
  have hk5 : k + 5 < N := by omega
  have hk6 : k + 6 < N := by omega
  have hk7 : k + 7 < N := by omega
  have hP : va_P D vwCl (iW ad N (rfSet cI ad F k r ps sl sd ne fa bu hs st ln pt th)) s.heap := by rw [rfSet_self hR]; exact hP
  have hl : lv_has ls 7 [(0, .ref (ad k)), (1, .int (nI w))] := hl
  refine lv_aload_n hx hb (dk kX6_fewest_0_ok 0 rfl) rfl (lv_at hl 0 rfl) ?_
  refine lv_iload_n hx hb (dk kX6_fewest_0_ok 1 rfl) rfl (lv_at hl 1 rfl) ?_
  refine cvR (As := [.int (nI w)]) (rest := []) ⟨hx, hb, hml, hown, hts⟩ (tX6_isPotted l D cI cQ cL ad N (rfSet cI ad F k r ps sl sd ne fa bu hs st ln pt th) k hk r ps sl sd ne fa bu hs st ln pt th (rfSet_at) (nI w) w rfl (by omega)) (cwV9 1 hts mcX6_isPotted (ac18 _ (List.mem_of_getElem? (i := 6) rfl)) miX6_isPotted meX6_isPotted mini_RX6 rfl rfl hdX6_isPotted ⟨Nat.le_of_ble_eq_true rfl, Nat.le_of_ble_eq_true rfl⟩) hK hP hNW hk0 rfSet_at.1 rfl rfl hl.1 rfl (Nat.le_of_ble_eq_true rfl) (by decide) (dk kX6_fewest_0_ok 2 rfl) ?_
  refine b_if_eq (tgt := 10) hx hb (dk kX6_fewest_0_ok 3 rfl) (by decide) (fun h1 => ?_) (fun h1 => ?_)
  · skip
    refine lv_iconst (v := nI 0) hx hb (dk kX6_fewest_0_ok 6 rfl) rfl ?_
    refine lv_istore_n (lv' := [(2, .int (nI 0)), (0, .ref (ad k)), (1, .int (nI w))]) hx hb (dk kX6_fewest_0_ok 7 rfl) rfl hl (by decide) rfl (fun ls hl => ?_)
    have L12 : ∀ (fu : Nat) (i : Nat) (e1 : Nat → Int32) (H : Heap) (locs : List Loc), va_P D vwCl (iW ad N (rfSet cI ad F k r ps sl sd e1 fa bu hs st ln pt th)) H → va_S (iA ad N s.heap.size) s.heap H locs → i ≤ 169 → (∀ c, c < i → e1 c = if c = q then nI 0 else -1) → 169 - i < fu → ∀ ls : Array Slot, lv_has ls 7 [(0, .ref (ad k)), (1, .int (nI w)), (2, .int (nI i))] → W p l e ({ frames := 2, cells := 0, slots := 0, locals := 50 } : Room) s m ([.ref (ad k), .int (nI w)] : List Value).toArray below meth cd H locs 0 0 Q (F0 m 12 ls []) := by
      intro fu
      induction fu with
      | zero => intros; omega
      | succ fu ih12 =>
        intro i e1 H locs hP hS hi hz1 hme12 ls hl
        refine lv_iload_n hx hb (dk kX6_fewest_0_ok 8 rfl) rfl (lv_at hl 2 rfl) ?_
        refine lv_sipush (v := nI 169) hx hb (dk kX6_fewest_0_ok 9 rfl) rfl ?_
        refine n_icmp_ge (tgt := 48) hx hb (by first | omega | (rcases hfl with q9 | q9 <;> omega)) (by decide) (dk kX6_fewest_0_ok 10 rfl) (by decide) (fun h2 => ?_) (fun h2 => ?_)
        · skip
          refine lv_iconst (v := nI 1) hx hb (dk kX6_fewest_0_ok 28 rfl) rfl ?_
          refine lv_istore_n (lv' := [(2, .int (nI 1)), (0, .ref (ad k)), (1, .int (nI w))]) hx hb (dk kX6_fewest_0_ok 29 rfl) rfl hl (by decide) rfl (fun ls hl => ?_)
          have L50 : ∀ (fu : Nat) (fl : Nat) (e2 f2 : Nat → Int32) (H : Heap) (locs : List Loc), va_P D vwCl (iW ad N (rfSet cI ad F k r ps sl sd e2 f2 bu hs st ln pt th)) H → va_S (iA ad N s.heap.size) s.heap H locs → fl = 1 ∨ fl = 2 → (fl = 1 → fw1 q e2) → (fl = 2 → fw2 w q e2) → 3 - fl < fu → ∀ ls : Array Slot, lv_has ls 7 [(0, .ref (ad k)), (1, .int (nI w)), (2, .int (nI fl))] → W p l e ({ frames := 2, cells := 0, slots := 0, locals := 50 } : Room) s m ([.ref (ad k), .int (nI w)] : List Value).toArray below meth cd H locs 0 0 Q (F0 m 50 ls []) := by
            intro fu
            induction fu with
            | zero => intros; omega
            | succ fu ih50 =>
              intro fl e2 f2 H locs hP hS hfl hr1 hr2 hme50 ls hl
              refine lv_iload_n hx hb (dk kX6_fewest_0_ok 30 rfl) rfl (lv_at hl 2 rfl) ?_
              refine lv_sipush (v := nI 169) hx hb (dk kX6_fewest_0_ok 31 rfl) rfl ?_
              refine n_icmp_gt (tgt := 211) hx hb (by first | omega | (rcases hfl with q9 | q9 <;> omega)) (by decide) (dk kX6_fewest_0_ok 32 rfl) (by decide) (fun h3 => ?_) (fun h3 => ?_)
              · skip
                refine lv_iconst (v := -1) hx hb (dk kX6_fewest_1_ok 55 rfl) rfl ?_
                exact hret _ _ _ _ _ _ _ _ rfl (by first | (exfalso; omega) | (have u9 := rfl; exact ⟨by rcases hfl with q9 | q9 <;> first | (rw [fw_ret1 hfw (hA q9) hq84 u9, q9]) | (rw [fw_ret2 hfw (hr2 q9), q9]), _, _, rfl⟩) | (have hb9 : fwB w f3 e4 fl 169 := (by rw [show (169 : Nat) = i by omega]; exact hB); have fl9 : fl = 1 := hfl.resolve_right (fun q9 => fw_r2 (hr2 q9) hfe (by rw [q9] at hb9; exact hb9) rfl); obtain ⟨hn2, h93, c9, hc9, hcq9, he9, hd9⟩ := fw_r1 (w := w) (q := q) (n := n) (f := f3) (e := e4) hfw (by rw [fl9] at hb9; exact hb9) (hA fl9) (fun c hc => (hfe c hc).trans (hr1 fl9 c hc)) hq9 rfl; exfalso; have z9 := hG rfl c9 hc9; rw [he9, hfe c9 hc9, hr1 fl9 c9 hc9, if_neg hcq9] at z9; exact absurd z9 (by decide))) hP hS (by decide) (by decide) (dk kX6_fewest_1_ok 56 rfl)
              · skip
                refine lv_iconst (v := nI 0) hx hb (dk kX6_fewest_0_ok 33 rfl) rfl ?_
                refine lv_istore_n (lv' := [(3, .int (nI 0)), (0, .ref (ad k)), (1, .int (nI w)), (2, .int (nI fl))]) hx hb (dk kX6_fewest_0_ok 34 rfl) rfl hl (by decide) rfl (fun ls hl => ?_)
                refine lv_iconst (v := nI 0) hx hb (dk kX6_fewest_0_ok 35 rfl) rfl ?_
                refine lv_istore (lv' := [(4, .int (nI 0)), (3, .int (nI 0)), (0, .ref (ad k)), (1, .int (nI w)), (2, .int (nI fl))]) hx hb (dk kX6_fewest_0_ok 36 rfl) hl (by decide) rfl (fun ls hl => ?_)
                have L62 : ∀ (fu : Nat) (i : Nat) (f3 : Nat → Int32) (H : Heap) (locs : List Loc), va_P D vwCl (iW ad N (rfSet cI ad F k r ps sl sd e2 f3 bu hs st ln pt th)) H → va_S (iA ad N s.heap.size) s.heap H locs → i ≤ 169 → (∀ c, c < i → f3 c = e2 c) → 169 - i < fu → ∀ ls : Array Slot, lv_has ls 7 [(0, .ref (ad k)), (1, .int (nI w)), (2, .int (nI fl)), (3, .int (nI 0)), (4, .int (nI i))] → W p l e ({ frames := 2, cells := 0, slots := 0, locals := 50 } : Room) s m ([.ref (ad k), .int (nI w)] : List Value).toArray below meth cd H locs 0 0 Q (F0 m 62 ls []) := by
                  intro fu
                  induction fu with
                  | zero => intros; omega
                  | succ fu ih62 =>
                    intro i f3 H locs hP hS hi hf3 hme62 ls hl
                    refine lv_iload hx hb (dk kX6_fewest_0_ok 37 rfl) (lv_at hl 4 rfl) ?_
                    refine lv_sipush (v := nI 169) hx hb (dk kX6_fewest_0_ok 38 rfl) rfl ?_
                    refine n_icmp_ge (tgt := 90) hx hb (by first | omega | (rcases hfl with q9 | q9 <;> omega)) (by decide) (dk kX6_fewest_0_ok 39 rfl) (by decide) (fun h4 => ?_) (fun h4 => ?_)
                    · skip
                      refine lv_iconst (v := nI 0) hx hb (dk kX6_fewest_0_ok 50 rfl) rfl ?_
                      refine lv_istore (lv' := [(4, .int (nI 0)), (0, .ref (ad k)), (1, .int (nI w)), (2, .int (nI fl)), (3, .int (nI 0))]) hx hb (dk kX6_fewest_0_ok 51 rfl) hl (by decide) rfl (fun ls hl => ?_)
                      have L93 : ∀ (fu : Nat) (i : Nat) (e4 : Nat → Int32) (g : Bool) (x3 : Int32) (H : Heap) (locs : List Loc), va_P D vwCl (iW ad N (rfSet cI ad F k r ps sl sd e4 f3 bu hs st ln pt th)) H → va_S (iA ad N s.heap.size) s.heap H locs → x3 = bI g → i ≤ 169 → fwB w f3 e4 fl i → (fl = 1 → fwA w q e4) → (g = false → ∀ c, c < 169 → e4 c = f3 c) → 169 - i < fu → ∀ ls : Array Slot, lv_has ls 7 [(0, .ref (ad k)), (1, .int (nI w)), (2, .int (nI fl)), (3, .int x3), (4, .int (nI i))] → W p l e ({ frames := 2, cells := 0, slots := 0, locals := 50 } : Room) s m ([.ref (ad k), .int (nI w)] : List Value).toArray below meth cd H locs 0 0 Q (F0 m 93 ls []) := by
                        intro fu
                        induction fu with
                        | zero => intros; omega
                        | succ fu ih93 =>
                          intro i e4 g x3 H locs hP hS ex3 hi hB hA hG hme93 ls hl
                          subst ex3
                          have hfe : ∀ c, c < 169 → f3 c = e2 c := fun c hc => hf3 c (by omega)
                          refine lv_iload hx hb (dk kX6_fewest_0_ok 52 rfl) (lv_at hl 4 rfl) ?_
                          refine lv_sipush (v := nI 169) hx hb (dk kX6_fewest_0_ok 53 rfl) rfl ?_
                          refine n_icmp_ge (tgt := 186) hx hb (by first | omega | (rcases hfl with q9 | q9 <;> omega)) (by decide) (dk kX6_fewest_0_ok 54 rfl) (by decide) (fun h5 => ?_) (fun h5 => ?_)
                          · skip
                            refine lv_aload_n hx hb (dk kX6_fewest_1_ok 41 rfl) rfl (lv_at hl 0 rfl) ?_
                            refine gf hx hb hts (fun w h => List.mem_cons_of_mem _ (acX6 w h)) hown hK hP hk0 rfSet_at.1 rfl 4 (by decide) (hts _ (List.mem_cons_of_mem _ (ac17 _ (List.mem_of_getElem? (i := 21) rfl)))) (fun _ h => h) rfl (dk kX6_fewest_1_ok 42 rfl) ?_
                            refine lv_bipush (v := nI 84) hx hb (dk kX6_fewest_1_ok 43 rfl) rfl ?_
                            refine ald (j := 84) hx hb hK hP hk5 rfSet_at.2.2.2.2.2.1 rfl (by omega) (by decide) (dk kX6_fewest_1_ok 44 rfl) ?_
                            refine lv_iconst (v := -1) hx hb (dk kX6_fewest_1_ok 45 rfl) rfl ?_
                            refine lv_icmp_eq (tgt := 199) hx hb (dk kX6_fewest_1_ok 46 rfl) (by decide) (fun h6 => ?_) (fun h6 => ?_)
                            · skip
                              refine lv_iload_n hx hb (dk kX6_fewest_1_ok 49 rfl) rfl (lv_at hl 3 rfl) ?_
                              refine b_if_ne (tgt := 205) hx hb (dk kX6_fewest_1_ok 50 rfl) (by decide) (fun h7 => ?_) (fun h7 => ?_)
                              · skip
                                refine lv_iinc (v := nI (fl + 1)) (lv' := [(2, .int (nI (fl + 1))), (0, .ref (ad k)), (1, .int (nI w)), (3, .int (bI g)), (4, .int (nI i))]) hx hb (dk kX6_fewest_1_ok 53 rfl) hl (k := 2) rfl (n_inc _) (by decide) rfl (fun ls hl => ?_)
                                refine lv_goto (tgt := 50) hx hb (dk kX6_fewest_1_ok 54 rfl) (by decide) ?_
                                exact ih50 (fl + 1) e4 f3 _ _ hP hS (by have hb9 : fwB w f3 e4 fl 169 := (by rw [show (169 : Nat) = i by omega]; exact hB); have fl9 : fl = 1 := hfl.resolve_right (fun q9 => fw_r2 (hr2 q9) hfe (by rw [q9] at hb9; exact hb9) h6); obtain ⟨hn2, h93, c9, hc9, hcq9, he9, hd9⟩ := fw_r1 (w := w) (q := q) (n := n) (f := f3) (e := e4) hfw (by rw [fl9] at hb9; exact hb9) (hA fl9) (fun c hc => (hfe c hc).trans (hr1 fl9 c hc)) hq9 h6; omega) (by intro h9; omega) (by have hb9 : fwB w f3 e4 fl 169 := (by rw [show (169 : Nat) = i by omega]; exact hB); have fl9 : fl = 1 := hfl.resolve_right (fun q9 => fw_r2 (hr2 q9) hfe (by rw [q9] at hb9; exact hb9) h6); obtain ⟨hn2, h93, c9, hc9, hcq9, he9, hd9⟩ := fw_r1 (w := w) (q := q) (n := n) (f := f3) (e := e4) hfw (by rw [fl9] at hb9; exact hb9) (hA fl9) (fun c hc => (hfe c hc).trans (hr1 fl9 c hc)) hq9 h6; exact fun _ => ⟨h93, c9, hc9, he9, hd9⟩) (by have hb9 : fwB w f3 e4 fl 169 := (by rw [show (169 : Nat) = i by omega]; exact hB); have fl9 : fl = 1 := hfl.resolve_right (fun q9 => fw_r2 (hr2 q9) hfe (by rw [q9] at hb9; exact hb9) h6); obtain ⟨hn2, h93, c9, hc9, hcq9, he9, hd9⟩ := fw_r1 (w := w) (q := q) (n := n) (f := f3) (e := e4) hfw (by rw [fl9] at hb9; exact hb9) (hA fl9) (fun c hc => (hfe c hc).trans (hr1 fl9 c hc)) hq9 h6; omega) ls (lv_sub hl [1, 2, 0] rfl)
                              · skip
                                refine lv_iconst (v := -1) hx hb (dk kX6_fewest_1_ok 51 rfl) rfl ?_
                                exact hret _ _ _ _ _ _ _ _ rfl (by first | (exfalso; omega) | (have u9 := rfl; exact ⟨by rcases hfl with q9 | q9 <;> first | (rw [fw_ret1 hfw (hA q9) hq84 u9, q9]) | (rw [fw_ret2 hfw (hr2 q9), q9]), _, _, rfl⟩) | (have hb9 : fwB w f3 e4 fl 169 := (by rw [show (169 : Nat) = i by omega]; exact hB); have fl9 : fl = 1 := hfl.resolve_right (fun q9 => fw_r2 (hr2 q9) hfe (by rw [q9] at hb9; exact hb9) h6); obtain ⟨hn2, h93, c9, hc9, hcq9, he9, hd9⟩ := fw_r1 (w := w) (q := q) (n := n) (f := f3) (e := e4) hfw (by rw [fl9] at hb9; exact hb9) (hA fl9) (fun c hc => (hfe c hc).trans (hr1 fl9 c hc)) hq9 h6; exfalso; have z9 := hG h7 c9 hc9; rw [he9, hfe c9 hc9, hr1 fl9 c9 hc9, if_neg hcq9] at z9; exact absurd z9 (by decide))) hP hS (by decide) (by decide) (dk kX6_fewest_1_ok 52 rfl)
                            · skip
                              refine lv_iload_n hx hb (dk kX6_fewest_1_ok 47 rfl) rfl (lv_at hl 2 rfl) ?_
                              exact hret _ _ _ _ _ _ _ _ rfl (by first | (exfalso; omega) | (have u9 := h6; exact ⟨by rcases hfl with q9 | q9 <;> first | (rw [fw_ret1 hfw (hA q9) hq84 u9, q9]) | (rw [fw_ret2 hfw (hr2 q9), q9]), _, _, rfl⟩) | (have hb9 : fwB w f3 e4 fl 169 := (by rw [show (169 : Nat) = i by omega]; exact hB); have fl9 : fl = 1 := hfl.resolve_right (fun q9 => fw_r2 (hr2 q9) hfe (by rw [q9] at hb9; exact hb9) rfl); obtain ⟨hn2, h93, c9, hc9, hcq9, he9, hd9⟩ := fw_r1 (w := w) (q := q) (n := n) (f := f3) (e := e4) hfw (by rw [fl9] at hb9; exact hb9) (hA fl9) (fun c hc => (hfe c hc).trans (hr1 fl9 c hc)) hq9 rfl; exfalso; have z9 := hG rfl c9 hc9; rw [he9, hfe c9 hc9, hr1 fl9 c9 hc9, if_neg hcq9] at z9; exact absurd z9 (by decide))) hP hS (by decide) (by decide) (dk kX6_fewest_1_ok 48 rfl)
                          · skip
                            refine lv_iconst (v := nI 0) hx hb (dk kX6_fewest_0_ok 55 rfl) rfl ?_
                            refine lv_istore (lv' := [(5, .int (nI 0)), (0, .ref (ad k)), (1, .int (nI w)), (2, .int (nI fl)), (3, .int (bI g)), (4, .int (nI i))]) hx hb (dk kX6_fewest_0_ok 56 rfl) hl (by decide) rfl (fun ls hl => ?_)
                            have L104 : ∀ (fu : Nat) (kk : Nat) (e4 : Nat → Int32) (g : Bool) (x3 : Int32) (H : Heap) (locs : List Loc), va_P D vwCl (iW ad N (rfSet cI ad F k r ps sl sd e4 f3 bu hs st ln pt th)) H → va_S (iA ad N s.heap.size) s.heap H locs → x3 = bI g → fwB w f3 e4 fl i → (fl = 1 → fwA w q e4) → (g = false → ∀ c, c < 169 → e4 c = f3 c) → kk ≤ 72 → fwC w f3 e4 fl i kk → 72 - kk < fu → ∀ ls : Array Slot, lv_has ls 7 [(0, .ref (ad k)), (1, .int (nI w)), (2, .int (nI fl)), (3, .int x3), (4, .int (nI i)), (5, .int (nI kk))] → W p l e ({ frames := 2, cells := 0, slots := 0, locals := 50 } : Room) s m ([.ref (ad k), .int (nI w)] : List Value).toArray below meth cd H locs 0 0 Q (F0 m 104 ls []) := by
                              intro fu
                              induction fu with
                              | zero => intros; omega
                              | succ fu ih104 =>
                                intro kk e4 g x3 H locs hP hS ex3 hB hA hG hp hC hme104 ls hl
                                subst ex3
                                have hst : stp w (kk % 9 + 1) < 2 ^ 31 := by unfold stp; split <;> omega
                                refine lv_iload hx hb (dk kX6_fewest_0_ok 57 rfl) (lv_at hl 5 rfl) ?_
                                refine lv_bipush (v := nI 72) hx hb (dk kX6_fewest_0_ok 58 rfl) rfl ?_
                                refine n_icmp_ge (tgt := 180) hx hb (by first | omega | (rcases hfl with q9 | q9 <;> omega)) (by decide) (dk kX6_fewest_0_ok 59 rfl) (by decide) (fun h8 => ?_) (fun h8 => ?_)
                                · skip
                                  refine lv_iinc (v := nI (i + 1)) (lv' := [(4, .int (nI (i + 1))), (0, .ref (ad k)), (1, .int (nI w)), (2, .int (nI fl)), (3, .int (bI g)), (5, .int (nI kk))]) hx hb (dk kX6_fewest_1_ok 39 rfl) hl (k := 4) rfl (n_inc _) (by decide) rfl (fun ls hl => ?_)
                                  refine lv_goto (tgt := 93) hx hb (dk kX6_fewest_1_ok 40 rfl) (by decide) ?_
                                  exact ih93 (i + 1) e4 g _ _ _ hP hS (by rfl) (by omega) (by first | exact fwB_s hB hC (Or.inl (by omega)) | exact fwB_s hB hC (Or.inr rfl)) (by exact hA) (by exact hG) (by omega) ls (lv_sub hl [1, 2, 3, 4, 0] rfl)
                                · skip
                                  refine lv_aload_n hx hb (dk kX6_fewest_1_ok 0 rfl) rfl (lv_at hl 0 rfl) ?_
                                  refine gf hx hb hts (fun w h => List.mem_cons_of_mem _ (acX6 w h)) hown hK hP hk0 rfSet_at.1 rfl 5 (by decide) (hts _ (List.mem_cons_of_mem _ (ac17 _ (List.mem_of_getElem? (i := 22) rfl)))) (fun _ h => h) rfl (dk kX6_fewest_1_ok 1 rfl) ?_
                                  refine lv_iload hx hb (dk kX6_fewest_1_ok 2 rfl) (lv_at hl 4 rfl) ?_
                                  refine ald (j := i) hx hb hK hP hk6 rfSet_at.2.2.2.2.2.2.1 rfl (by omega) (by decide) (dk kX6_fewest_1_ok 3 rfl) ?_
                                  refine lv_iload_n hx hb (dk kX6_fewest_1_ok 4 rfl) rfl (lv_at hl 2 rfl) ?_
                                  refine lv_iconst (v := nI 1) hx hb (dk kX6_fewest_1_ok 5 rfl) rfl ?_
                                  refine n_isub hx hb (by omega) (dk kX6_fewest_1_ok 6 rfl) ?_
                                  refine lv_icmp_ne (tgt := 180) hx hb (dk kX6_fewest_1_ok 7 rfl) (by decide) (fun h9 => ?_) (fun h9 => ?_)
                                  · skip
                                    refine lv_iinc (v := nI (i + 1)) (lv' := [(4, .int (nI (i + 1))), (0, .ref (ad k)), (1, .int (nI w)), (2, .int (nI fl)), (3, .int (bI g)), (5, .int (nI kk))]) hx hb (dk kX6_fewest_1_ok 39 rfl) hl (k := 4) rfl (n_inc _) (by decide) rfl (fun ls hl => ?_)
                                    refine lv_goto (tgt := 93) hx hb (dk kX6_fewest_1_ok 40 rfl) (by decide) ?_
                                    exact ih93 (i + 1) e4 g _ _ _ hP hS (by rfl) (by omega) (by first | exact fwB_s hB hC (Or.inl (by omega)) | exact fwB_s hB hC (Or.inr h9)) (by exact hA) (by exact hG) (by omega) ls (lv_sub hl [1, 2, 3, 4, 0] rfl)
                                  · skip
                                    refine lv_iload hx hb (dk kX6_fewest_1_ok 8 rfl) (lv_at hl 4 rfl) ?_
                                    refine lv_iload hx hb (dk kX6_fewest_1_ok 9 rfl) (lv_at hl 5 rfl) ?_
                                    refine lv_bipush (v := nI 9) hx hb (dk kX6_fewest_1_ok 10 rfl) rfl ?_
                                    refine n_idiv hx hb (by first | omega | (rcases hfl with q9 | q9 <;> omega)) (by decide) (by decide) (dk kX6_fewest_1_ok 11 rfl) ?_
                                    refine lv_iload_n hx hb (dk kX6_fewest_1_ok 12 rfl) rfl (lv_at hl 1 rfl) ?_
                                    refine lv_iload hx hb (dk kX6_fewest_1_ok 13 rfl) (lv_at hl 5 rfl) ?_
                                    refine lv_bipush (v := nI 9) hx hb (dk kX6_fewest_1_ok 14 rfl) rfl ?_
                                    refine n_irem hx hb (by first | omega | (rcases hfl with q9 | q9 <;> omega)) (by decide) (by decide) (dk kX6_fewest_1_ok 15 rfl) ?_
                                    refine lv_iconst (v := nI 1) hx hb (dk kX6_fewest_1_ok 16 rfl) rfl ?_
                                    refine n_iadd hx hb (dk kX6_fewest_1_ok 17 rfl) ?_
                                    refine csP (As := [.int (nI w), .int (nI ((kk % 9) + 1))]) (rest := [.int (nI (kk / 9)), .int (nI i)]) ⟨hx, hb, hml, hown, hts⟩ (tX6_steps l (nI w) w rfl (by omega) (nI ((kk % 9) + 1)) ((kk % 9) + 1) rfl (by omega)) (cwS9 2 hts mcX6_steps (ac19 _ (List.mem_of_getElem? (i := 15) rfl)) msX6_steps mini_RX6 rfl rfl hdX6_steps ⟨Nat.le_of_ble_eq_true rfl, Nat.le_of_ble_eq_true rfl⟩) rfl hl.1 rfl (Nat.le_of_ble_eq_true rfl) (by decide) (dk kX6_fewest_1_ok 18 rfl) ?_
                                    refine csP (As := [.int (nI i), .int (nI (kk / 9)), .int (nI (stp w ((kk % 9) + 1)))]) (rest := []) ⟨hx, hb, hml, hown, hts⟩ (tX6_leads l (nI i) ⟨i, by omega, rfl⟩ (nI (kk / 9)) (kk / 9) rfl (by omega) (nI (stp w ((kk % 9) + 1))) (stp w ((kk % 9) + 1)) rfl (by omega)) (cwS9 3 hts mcX6_leads (ac19 _ (List.mem_of_getElem? (i := 18) rfl)) msX6_leads mini_RX6 rfl rfl hdX6_leads ⟨Nat.le_of_ble_eq_true rfl, Nat.le_of_ble_eq_true rfl⟩) rfl hl.1 rfl (Nat.le_of_ble_eq_true rfl) (by decide) (dk kX6_fewest_1_ok 19 rfl) ?_
                                    refine lv_istore (lv' := [(6, .int (ldg (nI i) (nI (kk / 9)) (stp w ((kk % 9) + 1)))), (0, .ref (ad k)), (1, .int (nI w)), (2, .int (nI fl)), (3, .int (bI g)), (4, .int (nI i)), (5, .int (nI kk))]) hx hb (dk kX6_fewest_1_ok 20 rfl) hl (by decide) rfl (fun ls hl => ?_)
                                    refine lv_iload hx hb (dk kX6_fewest_1_ok 21 rfl) (lv_at hl 0 rfl) ?_
                                    refine lv_iconst (v := -1) hx hb (dk kX6_fewest_1_ok 22 rfl) rfl ?_
                                    refine lv_icmp_eq (tgt := 174) hx hb (dk kX6_fewest_1_ok 23 rfl) (by decide) (fun h10 => ?_) (fun h10 => ?_)
                                    · skip
                                      refine lv_iinc (v := nI (kk + 1)) (lv' := [(5, .int (nI (kk + 1))), (6, .int (ldg (nI i) (nI (kk / 9)) (stp w ((kk % 9) + 1)))), (0, .ref (ad k)), (1, .int (nI w)), (2, .int (nI fl)), (3, .int (bI g)), (4, .int (nI i))]) hx hb (dk kX6_fewest_1_ok 37 rfl) hl (k := 6) rfl (n_inc _) (by decide) rfl (fun ls hl => ?_)
                                      refine lv_goto (tgt := 104) hx hb (dk kX6_fewest_1_ok 38 rfl) (by decide) ?_
                                      exact ih104 (kk + 1) e4 g _ _ _ hP hS (by rfl) (by first | exact hB | exact fwB_up hfl hB) (by first | exact hA | (intro u9; subst u9; exact fwA_up (f := f3) (hA rfl) h9 (fun c hc => (hfe c hc).trans (hr1 rfl c hc)) (by omega) (by omega) ((ldg_cell ⟨i, by omega, rfl⟩ _ _).resolve_left rfl))) (by first | exact hG | (intro h9; exact absurd h9 (by decide))) (by omega) (by first | exact fwC_s hC (Or.inl h10) | exact fwC_s hC (Or.inr rfl) | exact fwC_up hfl hC) (by omega) ls (lv_sub hl [2, 3, 4, 5, 6, 0] rfl)
                                    · skip
                                      refine lv_aload_n hx hb (dk kX6_fewest_1_ok 24 rfl) rfl (lv_at hl 1 rfl) ?_
                                      refine gf hx hb hts (fun w h => List.mem_cons_of_mem _ (acX6 w h)) hown hK hP hk0 rfSet_at.1 rfl 4 (by decide) (hts _ (List.mem_cons_of_mem _ (ac17 _ (List.mem_of_getElem? (i := 21) rfl)))) (fun _ h => h) rfl (dk kX6_fewest_1_ok 25 rfl) ?_
                                      refine lv_iload hx hb (dk kX6_fewest_1_ok 26 rfl) (lv_at hl 0 rfl) ?_
                                      refine ald (j := (ix (ldg (nI i) (nI (kk / 9)) (stp w ((kk % 9) + 1))))) hx hb hK hP hk5 rfSet_at.2.2.2.2.2.1 (cell9_ix ((ldg_cell ⟨i, by omega, rfl⟩ _ _).resolve_left h10)).1 (cell9_ix ((ldg_cell ⟨i, by omega, rfl⟩ _ _).resolve_left h10)).2 (by decide) (dk kX6_fewest_1_ok 27 rfl) ?_
                                      refine lv_iconst (v := -1) hx hb (dk kX6_fewest_1_ok 28 rfl) rfl ?_
                                      refine lv_icmp_ne (tgt := 174) hx hb (dk kX6_fewest_1_ok 29 rfl) (by decide) (fun h11 => ?_) (fun h11 => ?_)
                                      · skip
                                        refine lv_iinc (v := nI (kk + 1)) (lv' := [(5, .int (nI (kk + 1))), (6, .int (ldg (nI i) (nI (kk / 9)) (stp w ((kk % 9) + 1)))), (0, .ref (ad k)), (1, .int (nI w)), (2, .int (nI fl)), (3, .int (bI g)), (4, .int (nI i))]) hx hb (dk kX6_fewest_1_ok 37 rfl) hl (k := 6) rfl (n_inc _) (by decide) rfl (fun ls hl => ?_)
                                        refine lv_goto (tgt := 104) hx hb (dk kX6_fewest_1_ok 38 rfl) (by decide) ?_
                                        exact ih104 (kk + 1) e4 g _ _ _ hP hS (by rfl) (by first | exact hB | exact fwB_up hfl hB) (by first | exact hA | (intro u9; subst u9; exact fwA_up (f := f3) (hA rfl) h9 (fun c hc => (hfe c hc).trans (hr1 rfl c hc)) (by omega) (by omega) ((ldg_cell ⟨i, by omega, rfl⟩ _ _).resolve_left h10))) (by first | exact hG | (intro h9; exact absurd h9 (by decide))) (by omega) (by first | exact fwC_s hC (Or.inl rfl) | exact fwC_s hC (Or.inr h11) | exact fwC_up hfl hC) (by omega) ls (lv_sub hl [2, 3, 4, 5, 6, 0] rfl)
                                      · skip
                                        refine lv_aload_n hx hb (dk kX6_fewest_1_ok 30 rfl) rfl (lv_at hl 1 rfl) ?_
                                        refine gf hx hb hts (fun w h => List.mem_cons_of_mem _ (acX6 w h)) hown hK hP hk0 rfSet_at.1 rfl 4 (by decide) (hts _ (List.mem_cons_of_mem _ (ac17 _ (List.mem_of_getElem? (i := 21) rfl)))) (fun _ h => h) rfl (dk kX6_fewest_1_ok 31 rfl) ?_
                                        refine lv_iload hx hb (dk kX6_fewest_1_ok 32 rfl) (lv_at hl 0 rfl) ?_
                                        refine lv_iload_n hx hb (dk kX6_fewest_1_ok 33 rfl) rfl (lv_at hl 3 rfl) ?_
                                        refine ast (rfSet cI ad F k r ps sl sd (upd e4 (ix (ldg (nI i) (nI (kk / 9)) (stp w ((kk % 9) + 1)))) (nI fl)) f3 bu hs st ln pt th) (j := (ix (ldg (nI i) (nI (kk / 9)) (stp w ((kk % 9) + 1))))) hx hb hK hDi hP hS hk5 rfSet_at.2.2.2.2.2.1 (cell9_ix ((ldg_cell ⟨i, by omega, rfl⟩ _ _).resolve_left h10)).1 (cell9_ix ((ldg_cell ⟨i, by omega, rfl⟩ _ _).resolve_left h10)).2 (by decide) (dk kX6_fewest_1_ok 34 rfl) rfSet_u5 (fun H locs hP hS => ?_)
                                        refine lv_iconst (v := nI 1) hx hb (dk kX6_fewest_1_ok 35 rfl) rfl ?_
                                        refine lv_istore_n (lv' := [(3, .int (nI 1)), (6, .int (ldg (nI i) (nI (kk / 9)) (stp w ((kk % 9) + 1)))), (0, .ref (ad k)), (1, .int (nI w)), (2, .int (nI fl)), (4, .int (nI i)), (5, .int (nI kk))]) hx hb (dk kX6_fewest_1_ok 36 rfl) rfl hl (by decide) rfl (fun ls hl => ?_)
                                        refine lv_iinc (v := nI (kk + 1)) (lv' := [(5, .int (nI (kk + 1))), (3, .int (nI 1)), (6, .int (ldg (nI i) (nI (kk / 9)) (stp w ((kk % 9) + 1)))), (0, .ref (ad k)), (1, .int (nI w)), (2, .int (nI fl)), (4, .int (nI i))]) hx hb (dk kX6_fewest_1_ok 37 rfl) hl (k := 6) rfl (n_inc _) (by decide) rfl (fun ls hl => ?_)
                                        refine lv_goto (tgt := 104) hx hb (dk kX6_fewest_1_ok 38 rfl) (by decide) ?_
                                        exact ih104 (kk + 1) (upd e4 (ix (ldg (nI i) (nI (kk / 9)) (stp w ((kk % 9) + 1)))) (nI fl)) true _ _ _ hP hS (by rfl) (by first | exact hB | exact fwB_up hfl hB) (by first | exact hA | (intro u9; subst u9; exact fwA_up (f := f3) (hA rfl) h9 (fun c hc => (hfe c hc).trans (hr1 rfl c hc)) (by omega) (by omega) ((ldg_cell ⟨i, by omega, rfl⟩ _ _).resolve_left h10))) (by first | exact hG | (intro h9; exact absurd h9 (by decide))) (by omega) (by first | exact fwC_s hC (Or.inl rfl) | exact fwC_s hC (Or.inr rfl) | exact fwC_up hfl hC) (by omega) ls (lv_sub hl [3, 4, 5, 1, 6, 0] rfl)
                            exact L104 _ 0 e4 g _ _ _ hP hS (by rfl) (by exact hB) (by exact hA) (by exact hG) (by omega) (by intro _ k9 hk9; omega) (Nat.lt_succ_self _) ls (lv_sub hl [1, 2, 3, 4, 5, 0] rfl)
                      exact L93 _ 0 e2 false _ _ _ hP hS (by rfl) (by omega) (by intro c hc; omega) (by intro h9; exact fwA_1 (hr1 h9)) (by intro _ c hc; exact (hf3 c (by omega)).symm) (Nat.lt_succ_self _) ls (lv_sub hl [1, 2, 3, 4, 0] rfl)
                    · skip
                      refine lv_aload_n hx hb (dk kX6_fewest_0_ok 40 rfl) rfl (lv_at hl 0 rfl) ?_
                      refine gf hx hb hts (fun w h => List.mem_cons_of_mem _ (acX6 w h)) hown hK hP hk0 rfSet_at.1 rfl 5 (by decide) (hts _ (List.mem_cons_of_mem _ (ac17 _ (List.mem_of_getElem? (i := 22) rfl)))) (fun _ h => h) rfl (dk kX6_fewest_0_ok 41 rfl) ?_
                      refine lv_iload hx hb (dk kX6_fewest_0_ok 42 rfl) (lv_at hl 4 rfl) ?_
                      refine lv_aload_n hx hb (dk kX6_fewest_0_ok 43 rfl) rfl (lv_at hl 0 rfl) ?_
                      refine gf hx hb hts (fun w h => List.mem_cons_of_mem _ (acX6 w h)) hown hK hP hk0 rfSet_at.1 rfl 4 (by decide) (hts _ (List.mem_cons_of_mem _ (ac17 _ (List.mem_of_getElem? (i := 21) rfl)))) (fun _ h => h) rfl (dk kX6_fewest_0_ok 44 rfl) ?_
                      refine lv_iload hx hb (dk kX6_fewest_0_ok 45 rfl) (lv_at hl 4 rfl) ?_
                      refine ald (j := i) hx hb hK hP hk5 rfSet_at.2.2.2.2.2.1 rfl (by omega) (by decide) (dk kX6_fewest_0_ok 46 rfl) ?_
                      refine ast (rfSet cI ad F k r ps sl sd e2 (upd f3 i (e2 i)) bu hs st ln pt th) (j := i) hx hb hK hDi hP hS hk6 rfSet_at.2.2.2.2.2.2.1 rfl (by omega) (by decide) (dk kX6_fewest_0_ok 47 rfl) rfSet_u6 (fun H locs hP hS => ?_)
                      refine lv_iinc (v := nI (i + 1)) (lv' := [(4, .int (nI (i + 1))), (0, .ref (ad k)), (1, .int (nI w)), (2, .int (nI fl)), (3, .int (nI 0))]) hx hb (dk kX6_fewest_0_ok 48 rfl) hl (k := 4) rfl (n_inc _) (by decide) rfl (fun ls hl => ?_)
                      refine lv_goto (tgt := 62) hx hb (dk kX6_fewest_0_ok 49 rfl) (by decide) ?_
                      exact ih62 (i + 1) (upd f3 i (e2 i)) _ _ hP hS (by omega) (by intro c hc; exact dite (c = i) (fun ec => by rw [ec, upd_at9]) (fun ec => by rw [upd_ne9 ec]; exact hf3 c (by omega))) (by omega) ls (lv_sub hl [1, 2, 3, 4, 0] rfl)
                exact L62 _ 0 f2 _ _ hP hS (by omega) (by intro c hc; omega) (Nat.lt_succ_self _) ls (lv_sub hl [2, 3, 4, 1, 0] rfl)
          exact L50 _ 1 e1 fa _ _ hP hS (by omega) (by intro _; obtain rfl : i = 169 := (by omega); exact hz1) (by intro h9; exact absurd h9 (by decide)) (Nat.lt_succ_self _) ls (lv_sub hl [1, 2, 0] rfl)
        · skip
          refine lv_aload_n hx hb (dk kX6_fewest_0_ok 11 rfl) rfl (lv_at hl 0 rfl) ?_
          refine gf hx hb hts (fun w h => List.mem_cons_of_mem _ (acX6 w h)) hown hK hP hk0 rfSet_at.1 rfl 4 (by decide) (hts _ (List.mem_cons_of_mem _ (ac17 _ (List.mem_of_getElem? (i := 21) rfl)))) (fun _ h => h) rfl (dk kX6_fewest_0_ok 12 rfl) ?_
          refine lv_iload_n hx hb (dk kX6_fewest_0_ok 13 rfl) rfl (lv_at hl 2 rfl) ?_
          refine lv_iload_n hx hb (dk kX6_fewest_0_ok 14 rfl) rfl (lv_at hl 2 rfl) ?_
          refine lv_aload_n hx hb (dk kX6_fewest_0_ok 15 rfl) rfl (lv_at hl 0 rfl) ?_
          refine gf hx hb hts (fun w h => List.mem_cons_of_mem _ (acX6 w h)) hown hK hP hk0 rfSet_at.1 rfl 0 (by decide) (hts _ (List.mem_cons_of_mem _ (ac17 _ (List.mem_of_getElem? (i := 17) rfl)))) (fun _ h => h) rfl (dk kX6_fewest_0_ok 16 rfl) ?_
          refine lv_iconst (v := nI 0) hx hb (dk kX6_fewest_0_ok 17 rfl) rfl ?_
          refine lv_iload_n hx hb (dk kX6_fewest_0_ok 18 rfl) rfl (lv_at hl 1 rfl) ?_
          refine n_iadd0 hx hb (dk kX6_fewest_0_ok 19 rfl) ?_
          refine ald (j := w) hx hb hK hP hk1 rfSet_at.2.1 rfl (by omega) (by decide) (dk kX6_fewest_0_ok 20 rfl) ?_
          rw [show r w = nI q from hq]
          refine n_icmp_ne (tgt := 40) hx hb (by first | omega | (rcases hfl with q9 | q9 <;> omega)) (by first | omega | (rcases hfl with q9 | q9 <;> omega)) (dk kX6_fewest_0_ok 21 rfl) (by decide) (fun h12 => ?_) (fun h12 => ?_)
          · skip
            refine lv_iconst (v := -1) hx hb (dk kX6_fewest_0_ok 24 rfl) rfl ?_
            refine ast (rfSet cI ad F k r ps sl sd (upd e1 i (-1)) fa bu hs st ln pt th) (j := i) hx hb hK hDi hP hS hk5 rfSet_at.2.2.2.2.2.1 rfl (by omega) (by decide) (dk kX6_fewest_0_ok 25 rfl) rfSet_u5 (fun H locs hP hS => ?_)
            refine lv_iinc (v := nI (i + 1)) (lv' := [(2, .int (nI (i + 1))), (0, .ref (ad k)), (1, .int (nI w))]) hx hb (dk kX6_fewest_0_ok 26 rfl) hl (k := 2) rfl (n_inc _) (by decide) rfl (fun ls hl => ?_)
            refine lv_goto (tgt := 12) hx hb (dk kX6_fewest_0_ok 27 rfl) (by decide) ?_
            exact ih12 (i + 1) (upd e1 i (-1)) _ _ hP hS (by omega) (by exact fw1_s _ hz1 (by simp only [h1, (eq_true h2), (eq_false (Nat.not_le.mpr h2)), (eq_false h12), not_true_eq_false, not_false_eq_true, and_true, true_and, and_false, false_and, or_true, true_or, or_false, false_or, and_self, or_self, if_true, if_false, Bool.false_eq_true, reduceIte])) (by omega) ls (lv_sub hl [1, 2, 0] rfl)
          · skip
            refine lv_iconst (v := nI 0) hx hb (dk kX6_fewest_0_ok 22 rfl) rfl ?_
            refine lv_goto (tgt := 41) hx hb (dk kX6_fewest_0_ok 23 rfl) (by decide) ?_
            refine ast (rfSet cI ad F k r ps sl sd (upd e1 i (nI 0)) fa bu hs st ln pt th) (j := i) hx hb hK hDi hP hS hk5 rfSet_at.2.2.2.2.2.1 rfl (by omega) (by decide) (dk kX6_fewest_0_ok 25 rfl) rfSet_u5 (fun H locs hP hS => ?_)
            refine lv_iinc (v := nI (i + 1)) (lv' := [(2, .int (nI (i + 1))), (0, .ref (ad k)), (1, .int (nI w))]) hx hb (dk kX6_fewest_0_ok 26 rfl) hl (k := 2) rfl (n_inc _) (by decide) rfl (fun ls hl => ?_)
            refine lv_goto (tgt := 12) hx hb (dk kX6_fewest_0_ok 27 rfl) (by decide) ?_
            exact ih12 (i + 1) (upd e1 i (nI 0)) _ _ hP hS (by omega) (by exact fw1_s _ hz1 (by simp only [h1, (eq_true h2), (eq_false (Nat.not_le.mpr h2)), (eq_true h12), not_true_eq_false, not_false_eq_true, and_true, true_and, and_false, false_and, or_true, true_or, or_false, false_or, and_self, or_self, if_true, if_false, Bool.false_eq_true, reduceIte])) (by omega) ls (lv_sub hl [1, 2, 0] rfl)
    exact L12 _ 0 ne _ _ hP hS (by omega) (by intro c hc; omega) (Nat.lt_succ_self _) ls (lv_sub hl [1, 2, 0] rfl)
  · exact absurd (hpt.symm.trans h1) (by decide)
