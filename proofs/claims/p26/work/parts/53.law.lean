/-! the law: its end, a turn with its check, the loop, the start -/
theorem hDi_pb (b0 N : Nat) : iD (pb b0) N := fun i j _ _ h => Nat.add_left_cancel h
set_option maxRecDepth 100000 in
set_option maxHeartbeats 8000000 in
theorem lw_end {p : Program} {l : Launch} {e : Env} {s : State} {m : MethodId} {below : List Frame} {meth : Method} {cd : Code} {D : va_G} {cI cQ cL : ClassId} {sb : Nat} (hC : CX p s m cd cL_law 15 #[Value.ref sb] D cI cQ cL room_1) (hr : meth.sig.returnType = ret) (hlocks : meth.locks = false) {cells slots : Nat} (hf2 : cells + 2 ≤ room_1.cells ∧ slots + 8 ≤ room_1.slots) {F : Nat → va_E} {H : Heap} {locs : List Loc} (hLI : LINV cI cQ (pb s.heap.size) F) (hP : va_P D vwCl (iW (pb s.heap.size) 78 F) H) (hS : va_S (iA (pb s.heap.size) 78 s.heap.size) s.heap H locs) (ls : Array Slot) (hl : lv_has ls 15 [(1, .ref (pb s.heap.size 0))]) : W p l e room_1 s m #[Value.ref sb] below meth cd H locs cells slots (lw_Z below #[Value.ref sb] s) (F0 m 585 ls []) := by
  obtain ⟨hx, hb, hml, hown, hts, hK, hNW, hfr, hlo9⟩ := id hC
  have hN76 : 76 < 78 := by decide
  have hDi := hDi_pb s.heap.size 78
  have hrc : room_1.cells = 600104 := rfl
  have hrs : room_1.slots = 7301314 := rfl
  refine lv_aload_n hx hb (dk kL_law_5_ok 11 rfl) rfl (lv_at hl 0 rfl) ?_
  refine csW (As := [.ref (pb s.heap.size 0)]) (rest := []) ⟨hC.1, hC.2.1, hC.2.2.1, hC.2.2.2.1, hC.2.2.2.2.1⟩ (tL_fits l D cI cQ cL (pb s.heap.size) F hLI) (cwSL 1 hC.2.2.2.2.1 mcL_fits (lc1 _ (List.mem_of_getElem? (i := 20) rfl)) msL_fits mini_RL rfl rfl hdL_fits ⟨Nat.le_of_ble_eq_true rfl, Nat.le_of_ble_eq_true rfl⟩) hDi hC.2.2.2.2.2.1 hP hC.2.2.2.2.2.2.1 hS rfl hl.1 rfl (Nat.le_of_ble_eq_true rfl) hf2 (dk kL_law_5_ok 12 rfl) (fun v9 F9 H locs hp hP hS => ?_)
  obtain ⟨rfl, hLI9⟩ := hp
  obtain ⟨c9, b9, v9, g9, h9, j9, t9, u9, z9, n9, lo9, hKW9, hPQ9, ht9, h779, hjl9⟩ := id hLI9
  have hn9 := hKW9.2.1
  refine W.eq (g2 := F0 m 589 ls [.int (nI 1)]) rfl ?_
  refine n_if_eq (tgt := 607) hx hb (by decide) (dk kL_law_5_ok 13 rfl) (by decide) (fun h9 => absurd h9 (by decide)) ?_
  intro _
  refine lv_aload_n hx hb (dk kL_law_5_ok 14 rfl) rfl (lv_at hl 0 rfl) ?_
  refine lv_bipush (v := nI 13) hx hb (dk kL_law_5_ok 15 rfl) rfl ?_
  refine kw_count hC hKW9 hN76 hP (k := 13) (by decide) (lc0 _ (List.mem_of_getElem? (i := 14) rfl)) hl.1 (Nat.le_of_ble_eq_true rfl) ⟨by omega, by omega⟩ (dk kL_law_5_ok 16 rfl) (r := nI n9) rfl ?_
  refine lv_bipush (v := nI 6) hx hb (dk kL_law_5_ok 17 rfl) rfl ?_
  refine n_icmp_gt (tgt := 607) hx hb (by omega) (by decide) (dk kL_law_5_ok 18 rfl) (by decide) (fun h1 => ?_) (fun h1 => ?_)
  · exact absurd h1 (by omega)
  · skip
    refine lv_iconst (v := nI 1) hx hb (dk kL_law_5_ok 19 rfl) rfl ?_
    refine lv_goto (tgt := 608) hx hb (dk kL_law_5_ok 20 rfl) (by decide) ?_
    have hf9 : ∀ q ∈ locs, s.heap.size ≤ q.base := by
      intro q hq
      rcases hS.2.2 q hq with ⟨k, -, h⟩ | h
      · rw [h]; exact Nat.le_add_right _ _
      · exact h
    refine va_forget hf9 ?_
    refine W.widen (k := 600104) (n := 7301314) (by omega) (by omega) ?_
    exact lw_ret hx hb hr hlocks (dk kL_law_5_ok 22 rfl)
set_option maxRecDepth 100000 in
set_option maxHeartbeats 8000000 in
theorem lw_check {p : Program} {l : Launch} {e : Env} {s : State} {m : MethodId} {below : List Frame} {meth : Method} {cd : Code} {D : va_G} {cI cQ cL : ClassId} {sb : Nat} (hC : CX p s m cd cL_law 15 #[Value.ref sb] D cI cQ cL room_1) {cells slots : Nat} (hf2 : cells + 2 ≤ room_1.cells ∧ slots + 8 ≤ room_1.slots) {Q : State → Prop} {k : Nat} (hk90 : k < 90) (kk : ∀ (G : Nat → va_E) (H1 : Heap) (locs1 : List Loc) (ls1 : Array Slot), LINV cI cQ (pb s.heap.size) G → va_P D vwCl (iW (pb s.heap.size) 78 G) H1 → va_S (iA (pb s.heap.size) 78 s.heap.size) s.heap H1 locs1 → lv_has ls1 15 [(0, .ref sb), (1, .ref (pb s.heap.size 0)), (2, .ref (pb s.heap.size 77)), (3, .int (nI (k + 1)))] → W p l e room_1 s m #[Value.ref sb] below meth cd H1 locs1 (cells + 2) (slots + 8) Q (F0 m 14 ls1 [])) {F : Nat → va_E} {H : Heap} {locs : List Loc} (hLI : LINV cI cQ (pb s.heap.size) F) (hP : va_P D vwCl (iW (pb s.heap.size) 78 F) H) (hS : va_S (iA (pb s.heap.size) 78 s.heap.size) s.heap H locs) (ls : Array Slot) (hl : lv_has ls 15 [(7, .int (nI 1)), (0, .ref sb), (1, .ref (pb s.heap.size 0)), (2, .ref (pb s.heap.size 77)), (3, .int (nI k))]) : W p l e room_1 s m #[Value.ref sb] below meth cd H locs cells slots Q (F0 m 558 ls []) := by
  obtain ⟨hx, hb, hml, hown, hts, hK, hNW, hfr, hlo9⟩ := id hC
  have hN76 : 76 < 78 := by decide
  have hDi := hDi_pb s.heap.size 78
  refine lv_iload hx hb (dk kL_law_4_ok 58 rfl) (lv_at hl 0 rfl) ?_
  refine n_if_eq (tgt := 577) hx hb (by decide) (dk kL_law_4_ok 59 rfl) (by decide) (fun h9 => absurd h9 (by decide)) ?_
  intro _
  refine lv_iload_n hx hb (dk kL_law_5_ok 0 rfl) rfl (lv_at hl 4 rfl) ?_
  refine lv_bipush (v := nI 9) hx hb (dk kL_law_5_ok 1 rfl) rfl ?_
  refine n_irem hx hb (by omega) (by decide) (by decide) (dk kL_law_5_ok 2 rfl) ?_
  refine n_if_ne (tgt := 579) hx hb (by omega) (dk kL_law_5_ok 3 rfl) (by decide) (fun h1 => ?_) (fun h1 => ?_)
  · skip
    refine lv_iinc (v := nI (k + 1)) (lv' := [(3, .int (nI (k + 1))), (7, .int (nI 1)), (0, .ref sb), (1, .ref (pb s.heap.size 0)), (2, .ref (pb s.heap.size 77))]) hx hb (dk kL_law_5_ok 9 rfl) hl (k := 4) rfl (n_inc _) (by decide) rfl (fun ls hl => ?_)
    refine lv_goto (tgt := 14) hx hb (dk kL_law_5_ok 10 rfl) (by decide) ?_
    refine W.widen (k := cells + 2) (n := slots + 8) (by omega) (by omega) ?_
    exact kk F H locs ls hLI hP hS (lv_sub hl [2, 3, 4, 0] rfl)
  · skip
    refine lv_aload_n hx hb (dk kL_law_5_ok 4 rfl) rfl (lv_at hl 2 rfl) ?_
    refine csW (As := [.ref (pb s.heap.size 0)]) (rest := []) ⟨hC.1, hC.2.1, hC.2.2.1, hC.2.2.2.1, hC.2.2.2.2.1⟩ (tL_fits l D cI cQ cL (pb s.heap.size) F hLI) (cwSL 1 hC.2.2.2.2.1 mcL_fits (lc1 _ (List.mem_of_getElem? (i := 20) rfl)) msL_fits mini_RL rfl rfl hdL_fits ⟨Nat.le_of_ble_eq_true rfl, Nat.le_of_ble_eq_true rfl⟩) hDi hC.2.2.2.2.2.1 hP hC.2.2.2.2.2.2.1 hS rfl hl.1 rfl (Nat.le_of_ble_eq_true rfl) hf2 (dk kL_law_5_ok 5 rfl) (fun v9 F9 H locs hp hP hS => ?_)
    obtain ⟨rfl, hLI9⟩ := hp
    obtain ⟨c9, b9, v9, g9, h9, j9, t9, u9, z9, n9, lo9, hKW9, hPQ9, ht9, h779, hjl9⟩ := id hLI9
    have hn9 := hKW9.2.1
    refine W.eq (g2 := F0 m 574 ls [.int (nI 1)]) rfl ?_
    refine n_if_ne (tgt := 579) hx hb (by decide) (dk kL_law_5_ok 6 rfl) (by decide) ?_ (fun h9 => absurd h9 (by decide))
    intro _
    refine lv_iinc (v := nI (k + 1)) (lv' := [(3, .int (nI (k + 1))), (7, .int (nI 1)), (0, .ref sb), (1, .ref (pb s.heap.size 0)), (2, .ref (pb s.heap.size 77))]) hx hb (dk kL_law_5_ok 9 rfl) hl (k := 4) rfl (n_inc _) (by decide) rfl (fun ls hl => ?_)
    refine lv_goto (tgt := 14) hx hb (dk kL_law_5_ok 10 rfl) (by decide) ?_
    refine W.widen (k := cells + 2) (n := slots + 8) (by omega) (by omega) ?_
    exact kk F9 H locs ls hLI9 hP hS (lv_sub hl [2, 3, 4, 0] rfl)
set_option maxRecDepth 100000 in
set_option maxHeartbeats 8000000 in
theorem lw_loop {p : Program} {l : Launch} {e : Env} {s : State} {m : MethodId} {below : List Frame} {meth : Method} {cd : Code} {D : va_G} {cI cQ cL : ClassId} {sb L : Nat} {xs : Nat → Int32} (hC : CX p s m cd cL_law 15 #[Value.ref sb] D cI cQ cL room_1) (hXs : va_X sb L xs s s.heap) (hbl : sb < s.heap.size) (hL30 : L < 2 ^ 30) (hr : meth.sig.returnType = ret) (hlocks : meth.locks = false) :
    ∀ (fu k : Nat) (F : Nat → va_E) (H : Heap) (locs : List Loc) (ls : Array Slot), LINV cI cQ (pb s.heap.size) F → va_P D vwCl (iW (pb s.heap.size) 78 F) H → va_S (iA (pb s.heap.size) 78 s.heap.size) s.heap H locs → lv_has ls 15 [(0, .ref sb), (1, .ref (pb s.heap.size 0)), (2, .ref (pb s.heap.size 77)), (3, .int (nI (k)))] → k ≤ 90 → 91 - k < fu →
      W p l e room_1 s m #[Value.ref sb] below meth cd H locs (78 + 3 * k) (1468 + 14 * k) (lw_Z below #[Value.ref sb] s) (F0 m 14 ls []) := by
  obtain ⟨hx, hb, hml, hown, hts, hK, hNW, hfr, hlo9⟩ := id hC
  have hN76 : 76 < 78 := by decide
  have hDi := hDi_pb s.heap.size 78
  have hrc : room_1.cells = 600104 := rfl
  have hrs : room_1.slots = 7301314 := rfl
  have hAb : ¬ iA (pb s.heap.size) 78 s.heap.size sb := by
    rintro (⟨k, -, h⟩ | h)
    · have h : sb = s.heap.size + k := h
      omega
    · omega
  intro fu
  induction fu with
  | zero => intros; omega
  | succ fu ih =>
    intro k F H locs ls hLI hP hS hl hk hfu
    obtain ⟨c, b, v, g, h, j, t, u, z, m9, lo, hKW, ⟨Np, Wp, hR, hRl⟩, ht, h77, hjl⟩ := id hLI
    refine lv_iload_n hx hb (dk kL_law_0_ok 9 rfl) rfl (lv_at hl 3 rfl) ?_
    refine lv_bipush (v := nI 90) hx hb (dk kL_law_0_ok 10 rfl) rfl ?_
    refine n_icmp_ge (tgt := 585) hx hb (by omega) (by decide) (dk kL_law_0_ok 11 rfl) (by decide) (fun h1 => ?_) (fun h1 => ?_)
    · skip
      exact lw_end hC hr hlocks (by exact ⟨by omega, by omega⟩) hLI hP hS ls (lv_sub hl [1] rfl)
    · skip
      rcases (Bool.eq_false_or_eq_true (over c)) with hsp2 | hsp2
      · skip
        refine lv_aload_n hx hb (dk kL_law_0_ok 12 rfl) rfl (lv_at hl 1 rfl) ?_
        refine lv_iconst (v := nI 1) hx hb (dk kL_law_0_ok 13 rfl) rfl ?_
        refine kw_count hC hKW hN76 hP (k := 1) (by decide) (lc0 _ (List.mem_of_getElem? (i := 14) rfl)) hl.1 (Nat.le_of_ble_eq_true rfl) ⟨by omega, by omega⟩ (dk kL_law_0_ok 14 rfl) (r := nI 1) (show (if over c = true then nI 1 else nI 0) = nI 1 from if_pos hsp2) ?_
        refine n_if_ne (tgt := 585) hx hb (by decide) (dk kL_law_0_ok 15 rfl) (by decide) ?_ (fun h9 => absurd h9 (by decide))
        intro _
        exact lw_end hC hr hlocks (by exact ⟨by omega, by omega⟩) hLI hP hS ls (lv_sub hl [1] rfl)
      · skip
        refine lv_aload_n hx hb (dk kL_law_0_ok 12 rfl) rfl (lv_at hl 1 rfl) ?_
        refine lv_iconst (v := nI 1) hx hb (dk kL_law_0_ok 13 rfl) rfl ?_
        refine kw_count hC hKW hN76 hP (k := 1) (by decide) (lc0 _ (List.mem_of_getElem? (i := 14) rfl)) hl.1 (Nat.le_of_ble_eq_true rfl) ⟨by omega, by omega⟩ (dk kL_law_0_ok 14 rfl) (r := nI 0) (show (if over c = true then nI 1 else nI 0) = nI 0 from if_neg (by rw [hsp2]; decide)) ?_
        refine n_if_ne (tgt := 585) hx hb (by decide) (dk kL_law_0_ok 15 rfl) (by decide) (fun h9 => absurd h9 (by decide)) ?_
        intro _
        refine lw_turn hC hXs hbl hL30 hDi hAb (cells := 78 + 3 * k) (slots := 1468 + 14 * k) (by exact ⟨by omega, by omega⟩) (k := k) (by omega) (fun G H1 locs1 ls1 g1 g2 g3 g4 => ?_) hKW hR hRl ht h77 hjl hsp2 hP hS ls (lv_sub hl [0, 1, 2, 3] rfl)
        refine lw_check hC (by exact ⟨by omega, by omega⟩) (k := k) (by omega) (fun G2 H2 locs2 ls2 k1 k2 k3 k4 => ?_) g1 g2 g3 ls1 g4
        exact ih (k + 1) G2 H2 locs2 ls2 k1 k2 k3 k4 (by omega) (by omega)
def z0 : Nat → Int32 := fun _ => 0
def FZ : Nat → va_E := fun _ => .inr (0, [])
def F5 (cI cQ : ClassId) (b0 : Nat) : Nat → va_E := w5N cI cQ b0 (va_up FZ 0 (.inr (5, [.null, .null, .null, .null, .null, .null, .int (bI false)])))
def FL (cI cQ : ClassId) (b0 : Nat) : Nat → va_E := va_up (F5 cI cQ b0) 77 (.inl (cI, 4, .inl (fun _ => 0)))
section FMS
variable {cI cQ : ClassId} {b0 : Nat}
theorem fm_N : stAt cI (pb b0) (FL cI cQ b0) 1 (mC 16) (mB 16) (mV 16) z0 z0 z0 (nI 0) (nI 0) (nI 3) := ⟨rfl, ⟨rfl, rfl, rfl, rfl⟩, rfl, rfl, rfl⟩
theorem fm_S : stAt cI (pb b0) (FL cI cQ b0) 9 (mC 16) (mB 16) (mV 16) z0 z0 z0 (nI 0) (nI 0) (nI 3) := ⟨rfl, ⟨rfl, rfl, rfl, rfl⟩, rfl, rfl, rfl⟩
theorem fm_P : paAt cQ (pb b0) (FL cI cQ b0) 17 0 0 := ⟨rfl, rfl⟩
theorem fm_R : ∀ i, i < 6 → ∃ (c8 b8 v8 g8 h8 j8 : Nat → Int32) (t8 : Nat) (u8 z8 : Int32), stAt cI (pb b0) (FL cI cQ b0) (17 + 2 + 8 * i) c8 b8 v8 g8 h8 j8 (nI t8) u8 z8 := by
  intro i hi
  refine ⟨mC 16, mB 16, mV 16, z0, z0, z0, 0, nI 0, nI 3, ?_⟩
  match i, hi with
  | 0, _ => exact ⟨rfl, ⟨rfl, rfl, rfl, rfl⟩, rfl, rfl, rfl⟩
  | 1, _ => exact ⟨rfl, ⟨rfl, rfl, rfl, rfl⟩, rfl, rfl, rfl⟩
  | 2, _ => exact ⟨rfl, ⟨rfl, rfl, rfl, rfl⟩, rfl, rfl, rfl⟩
  | 3, _ => exact ⟨rfl, ⟨rfl, rfl, rfl, rfl⟩, rfl, rfl, rfl⟩
  | 4, _ => exact ⟨rfl, ⟨rfl, rfl, rfl, rfl⟩, rfl, rfl, rfl⟩
  | 5, _ => exact ⟨rfl, ⟨rfl, rfl, rfl, rfl⟩, rfl, rfl, rfl⟩
  | i + 6, h => exact absurd h (by omega)
theorem fm_T : gtAt cI (pb b0) (FL cI cQ b0) 67 z0 0 := ⟨rfl, rfl⟩
theorem fm_M : matAt cI (pb b0) (FL cI cQ b0) 69 (mC 16) (mB 16) (mV 16) := ⟨rfl, rfl, rfl, rfl⟩
theorem fm_O : roAt cI (pb b0) (FL cI cQ b0) 73 z0 z0 z0 := ⟨rfl, rfl, rfl, rfl⟩
theorem fm_0 : FL cI cQ b0 0 = .inr (5, [.ref (pb b0 1), .ref (pb b0 9), .ref (pb b0 17), .ref (pb b0 67), .ref (pb b0 69), .ref (pb b0 73), .int (bI false)]) := rfl
end FMS
def N0 (q : Nat) : Nat := if q = 0 ∨ q = 12 ∨ q = 168 ∨ q = 156 then 4 else 0
def W0 (q i : Nat) : Nat := (if q = 0 then 0 else if q = 12 then 4 else if q = 168 then 8 else 12) + i
theorem N0_i {q i : Nat} (h : i < N0 q) : i < 4 ∧ (q = 0 ∨ q = 12 ∨ q = 168 ∨ q = 156) := by
  unfold N0 at h
  by_cases hq : q = 0 ∨ q = 12 ∨ q = 168 ∨ q = 156
  · rw [if_pos hq] at h
    exact ⟨h, hq⟩
  · rw [if_neg hq] at h
    omega
theorem f0_c : ∀ i, i < 4 → (mC 16 (W0 0 i) = nI 0 ∧ mC 16 (W0 12 i) = nI 12 ∧ mC 16 (W0 168 i) = nI 168 ∧ mC 16 (W0 156 i) = nI 156) := by decide +kernel
theorem f0_b : ∀ i, i < 4 → ∀ q, q < 169 → (q = 0 ∨ q = 12 ∨ q = 168 ∨ q = 156) → (mB 16 (W0 q i) = if i = 0 then -1 else nI (W0 q (i - 1))) ∧ (mV 16 (W0 q i) = if i + 1 < 4 then nI (W0 q (i + 1)) else -1) ∧ True := by decide +kernel
theorem f0_m : ∀ w, w < 16 → mC 16 w ≠ -1 := by decide +kernel
theorem f0_w : ∀ w, w < 16 → W0 (bs (w / 4)) (w % 4) = w ∧ N0 (bs (w / 4)) = 4 := by decide +kernel
theorem PQ_0 : PQ (mC 16) (mB 16) (mV 16) := by
  refine ⟨N0, W0, ⟨fun q i hi => ?_, fun q i j hi hj hw => ?_, fun w hw => Or.inr ⟨bs (w / 4), w % 4, by rw [(f0_w w hw).2]; omega, (f0_w w hw).1⟩⟩, ⟨fun q i hi => ?_, fun q i hi => ?_, fun w hw hm => absurd hm (f0_m w hw)⟩⟩
  · obtain ⟨h1, h2⟩ := N0_i hi
    obtain ⟨a1, a2, a3, a4⟩ := f0_c i h1
    rcases h2 with rfl | rfl | rfl | rfl
    · exact ⟨by unfold W0; simp; omega, by decide, by decide, a1⟩
    · exact ⟨by unfold W0; simp; omega, by decide, by decide, a2⟩
    · exact ⟨by unfold W0; simp; omega, by decide, by decide, a3⟩
    · exact ⟨by unfold W0; simp; omega, by decide, by decide, a4⟩
  · unfold W0 at hw
    omega
  · obtain ⟨h1, h2⟩ := N0_i hi
    exact (f0_b i h1 q (by omega) h2).1
  · obtain ⟨h1, h2⟩ := N0_i hi
    have h3 := (f0_b i h1 q (by omega) h2).2.1
    rw [show N0 q = 4 by unfold N0; rw [if_pos h2]]
    exact h3
theorem LINV_0 {cI cQ : ClassId} {b0 : Nat} : LINV cI cQ (pb b0) (FL cI cQ b0) := by
  refine ⟨mC 16, mB 16, mV 16, z0, z0, z0, 0, nI 0, nI 3, 0, z0, ⟨fm_N, by decide, ⟨_, _, _, _, _, _, _, _, _, fm_S⟩, ⟨0, by decide, fm_P, fm_R⟩, ⟨z0, 0, by decide, fm_T⟩, ⟨_, _, _, fm_M⟩, ⟨_, _, _, fm_O⟩, false, fm_0⟩, PQ_0, by decide, rfl, fun _ => ⟨⟨fun i hi => Or.inl rfl, rfl⟩, fun i hi => rfl⟩⟩
theorem cwIL {s : State} {args : Array Value} {R rm : Room} {own : String} {index maxL mc ms : Nat} {y : MethodName} {bytes : ByteArray} (ht : ∀ w ∈ LW, w.before args s = true) (hc : Cond.code y bytes maxL none ∈ AW) (hl : Cond.methodLink own index y ∈ LW) (hi : Cond.instanceMethod y ∈ AW) (hini : Cond.initialized y.cls ∈ AW) (hy1 : y.name = "<init>") (hrc : rm.cells = mc) (hrs : rm.slots = ms)
    (hd : y.cls ≠ "java/lang/invoke/MethodHandle" ∧ y.cls ≠ "java/lang/invoke/VarHandle" ∧ (parseMethodDescriptor y.desc).map (fun d => d.parameters.length) = some 0) (hR : rm.frames + 1 ≤ R.frames ∧ 8 + (maxL + 11) + rm.locals ≤ R.locals) : CallB R s args own index y bytes maxL none (Cond.code y bytes maxL none :: AW) rm mc ms 0 ∧ y.name = "<init>" ∧ (Cond.instanceMethod y).before args s = true :=
  ⟨callB_of 0 ht (gInL hc) rfl hrc hrs (ht _ (lcA _ hini)) (ht _ hl) hd hR, hy1, ht _ (lcA _ hi)⟩
set_option maxRecDepth 100000 in
set_option maxHeartbeats 8000000 in
theorem lw_begin {p : Program} {l : Launch} {e : Env} {s : State} {m : MethodId} {below : List Frame} {meth : Method} {cd : Code} {D : va_G} {cI cQ cL : ClassId} {sb L : Nat} {xs : Nat → Int32} (hC : LX p s m cd sb L xs D cI cQ cL) (hAO : va_AO "SquopPiles$State" s) {Q : State → Prop}
    (kk : ∀ (H : Heap) (locs : List Loc) (ls : Array Slot), va_P D vwCl (iW (pb s.heap.size) 78 (FL cI cQ s.heap.size)) H → va_S (iA (pb s.heap.size) 78 s.heap.size) s.heap H locs → lv_has ls 15 [(0, .ref sb), (1, .ref (pb s.heap.size 0)), (2, .ref (pb s.heap.size 77)), (3, .int (nI (0)))] → W p l e room_1 s m #[Value.ref sb] below meth cd H locs 78 1468 Q (F0 m 14 ls [])) :
    W p l e room_1 s m #[Value.ref sb] below meth cd s.heap [] 0 0 Q (entryFrame m ([Value.ref sb] : List Value).toArray 15) := by
  obtain ⟨hC, hXs, hbl, hL30⟩ := hC
  obtain ⟨hx, hb, hml, hown, hts, hK, hNW, hfr, hlo9⟩ := id hC
  have hl := lv_entry ([.ref sb]) (n := 15) (Nat.le_of_ble_eq_true rfl)
  rw [lg_entry_eq]
  generalize (lg_sl ([.ref sb]) ++ List.replicate (15 - (lg_sl ([.ref sb])).length) Slot.unset).toArray = ls at hl ⊢
  have hl : lv_has ls 15 [(0, .ref sb)] := hl
  have hP : va_P D vwCl (iW (pb s.heap.size) 0 FZ) s.heap := fun k q h => by simp [iW] at h
  have hS : va_S (bA s.heap.size) s.heap s.heap [] := va_S.rf
  have hb0 : s.heap.size ≤ s.heap.size := Nat.le_refl _
  refine nwO (ci := 5) hx hb hts (fun w h => lcA _ (acX5 w h)) tyX5 tyX5_ok hown (hts _ (lc1 _ (List.mem_of_getElem? (i := 0) rfl))) (hts _ (lcA _ (ac14 _ (List.mem_of_getElem? (i := 13) rfl)))) (hts _ (lcA _ mini_RX5)) hK hP hS hb0 (by omega) rfl [.null, .null, .null, .null, .null, .null, .int (bI false)] (fun j hj => dv5 j hj) (Nat.le_of_ble_eq_true rfl) (Nat.le_of_ble_eq_true rfl) (dk kL_law_0_ok 0 rfl) (fun H hP hS => ?_)
  refine lv_dup hx hb (dk kL_law_0_ok 1 rfl) rfl ?_
  refine cvK (k := 0) ⟨hx, hb, hml, hown, hts⟩ (tX5_init l D cI cQ cL s.heap.size _ (va_up_self _ _ _)) (cwIL hts mcX5_init (lc1 _ (List.mem_of_getElem? (i := 1) rfl)) miX5_init mini_RX5 rfl rfl rfl hdX5_init ⟨Nat.le_of_ble_eq_true rfl, Nat.le_of_ble_eq_true rfl⟩) hAO hK hP hNW hS (by omega) (by omega) hl.1 rfl (Nat.le_of_ble_eq_true rfl) ⟨Nat.le_of_ble_eq_true rfl, Nat.le_of_ble_eq_true rfl⟩ (dk kL_law_0_ok 2 rfl) (fun H locs hP hS => ?_)
  have hP : va_P D vwCl (iW (pb s.heap.size) 77 (F5 cI cQ s.heap.size)) H := hP
  refine lv_astore_n (lv' := [(1, .ref (pb s.heap.size 0)), (0, .ref sb)]) hx hb (dk kL_law_0_ok 3 rfl) rfl hl (by decide) rfl (fun ls hl => ?_)
  refine lv_iconst (v := nI 4) hx hb (dk kL_law_0_ok 4 rfl) rfl ?_
  refine nwI hx hb (hC.2.2.2.2.1 _ (lcA _ (ac0 _ (List.mem_of_getElem? (i := 3) rfl)))) hK hP hS hb0 (by omega) 4 rfl (by decide) (Nat.le_of_ble_eq_true rfl) (Nat.le_of_ble_eq_true rfl) (dk kL_law_0_ok 5 rfl) (fun H hP hS => ?_)
  have hP : va_P D vwCl (iW (pb s.heap.size) 78 (FL cI cQ s.heap.size)) H := hP
  refine lv_astore_n (lv' := [(2, .ref (pb s.heap.size 77)), (1, .ref (pb s.heap.size 0)), (0, .ref sb)]) hx hb (dk kL_law_0_ok 6 rfl) rfl hl (by decide) rfl (fun ls hl => ?_)
  refine lv_iconst (v := nI 0) hx hb (dk kL_law_0_ok 7 rfl) rfl ?_
  refine lv_istore_n (lv' := [(3, .int (nI 0)), (2, .ref (pb s.heap.size 77)), (1, .ref (pb s.heap.size 0)), (0, .ref sb)]) hx hb (dk kL_law_0_ok 8 rfl) rfl hl (by decide) rfl (fun ls hl => ?_)
  rw [← iA_pb (N := 78) (Nat.le_refl s.heap.size) (Nat.le_add_right _ _)] at hS
  exact kk H _ ls hP hS (lv_sub hl [3, 2, 1, 0] rfl)
