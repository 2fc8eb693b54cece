/-- what one turn of the law owes: a call by its number -/
def STEP (l : Launch) (D : va_G) (cI cQ cL : ClassId) (ad : Nat → Nat) (xs : Nat → Int32) (i : Nat) (F : Nat → va_E) (INV : (Nat → va_E) → Prop) : Prop :=
  (xs i &&& 31 = nI 0 → STw0 l D cI cQ cL ad 86 yL_fly cL_fly 6 [(0, 12, 15, 13), (0, 12, 19, 15), (0, 12, 23, 17)] yX6_fly cX6_fly 4 F INV [.int (xs (i + 1)), .int (xs (i + 2)), .int (xs (i + 3))]) ∧
  (xs i &&& 31 = nI 1 → STw0 l D cI cQ cL ad 86 yL_lift cL_lift 7 [(0, 14, 17, 13), (0, 14, 21, 15), (0, 14, 25, 17)] yX6_lift cX6_lift 5 F INV [.int (xs (i + 1)), .int (xs (i + 2)), .int (xs (i + 3)), .int (xs (i + 4))]) ∧
  (xs i &&& 31 = nI 2 → STw0 l D cI cQ cL ad 86 yL_set cL_set 4 [(0, 9, 12, 15)] yX6_set cX6_set 3 F INV [.int (xs (i + 1))]) ∧
  (xs i &&& 31 = nI 3 → STw0 l D cI cQ cL ad 86 yL_put cL_put 6 [(0, 12, 15, 13), (0, 12, 19, 17)] yX6_put cX6_put 4 F INV [.int (xs (i + 1)), .int (xs (i + 2)), .int (xs (i + 3))]) ∧
  (xs i &&& 31 = nI 4 → STw0 l D cI cQ cL ad 86 yL_append cL_append 4 [(0, 9, 12, 15), (0, 9, 15, 17)] yX6_append cX6_append 2 F INV [.int (xs (i + 1))]) ∧
  (xs i &&& 31 = nI 5 → STs l D cI cQ cL ad 86 yX5_clearBuffer cX5_clearBuffer 2 yX6_clearBuffer cX6_clearBuffer 2 .int okI F INV) ∧
  (xs i &&& 31 = nI 6 → STs0 l D cI cQ cL ad 86 yX5_firstError cX5_firstError 1 yX6_firstError cX6_firstError 1 .int okI F INV) ∧
  (xs i &&& 31 = nI 7 → STw0E l D cI cQ cL ad 86 yL_play cL_play 3 [(0, 8, 11, 15)] yX6_play cX6_play 3 F INV []) ∧
  (xs i &&& 31 = nI 8 → STs0 l D cI cQ cL ad 86 yX5_keep cX5_keep 1 yX6_keep cX6_keep 2 .int okI F INV) ∧
  (xs i &&& 31 = nI 9 → STw0 l D cI cQ cL ad 86 yL_goBack cL_goBack 3 [(0, 8, 11, 17)] yX6_goBack cX6_goBack 2 F INV []) ∧
  (xs i &&& 31 = nI 10 → STw0 l D cI cQ cL ad 86 yL_undo cL_undo 3 [(0, 8, 11, 17)] yX6_undo cX6_undo 2 F INV []) ∧
  (xs i &&& 31 = nI 11 → STw0 l D cI cQ cL ad 86 yL_wink cL_wink 5 [(0, 10, 13, 13), (0, 10, 17, 15)] yX6_wink cX6_wink 3 F INV [.int (xs (i + 1)), .int (xs (i + 2))]) ∧
  (xs i &&& 31 = nI 12 → STw0 l D cI cQ cL ad 86 yL_pile cL_pile 6 [(0, 12, 15, 13), (0, 12, 19, 15)] yX6_pile cX6_pile 4 F INV [.int (xs (i + 1)), .int (xs (i + 2)), .int (xs (i + 3))]) ∧
  (xs i &&& 31 = nI 13 → STw0 l D cI cQ cL ad 86 yL_colour cL_colour 5 [(0, 10, 13, 13), (0, 10, 17, 15)] yX6_colour cX6_colour 3 F INV [.int (xs (i + 1)), .int (xs (i + 2))]) ∧
  (xs i &&& 31 = nI 14 → STw0 l D cI cQ cL ad 86 yL_count cL_count 4 [(0, 9, 12, 15)] yX6_count cX6_count 2 F INV [.int (xs (i + 1))]) ∧
  (xs i &&& 31 = nI 15 → STw0 l D cI cQ cL ad 86 yL_why cL_why 7 [(0, 14, 17, 13), (0, 14, 21, 15)] yX6_why cX6_why 5 F INV [.int (xs (i + 1)), .int (xs (i + 2)), .int (xs (i + 3)), .int (xs (i + 4))]) ∧
  (xs i &&& 31 = nI 16 → STw0 l D cI cQ cL ad 86 yL_lands cL_lands 6 [(0, 12, 15, 13), (0, 12, 19, 15)] yX6_lands cX6_lands 4 F INV [.int (xs (i + 1)), .int (xs (i + 2)), .int (xs (i + 3))]) ∧
  (xs i &&& 31 = nI 17 → STw0 l D cI cQ cL ad 86 yL_ifFlown cL_ifFlown 7 [(0, 14, 17, 13), (0, 14, 21, 15)] yX6_ifFlown cX6_ifFlown 5 F INV [.int (xs (i + 1)), .int (xs (i + 2)), .int (xs (i + 3)), .int (xs (i + 4))]) ∧
  (xs i &&& 31 = nI 18 → STs0 l D cI cQ cL ad 86 yX5_best cX5_best 11 yX6_best cX6_best 1 .int okI F INV) ∧
  (xs i &&& 31 = nI 19 → STw0 l D cI cQ cL ad 86 yL_flightsTo cL_flightsTo 4 [(0, 9, 12, 13)] yX6_flightsTo cX6_flightsTo 2 F INV [.int (xs (i + 1))]) ∧
  (xs i &&& 31 = nI 20 → STs0 l D cI cQ cL ad 86 yX5_pottedShare cX5_pottedShare 1 yX6_pottedShare cX6_pottedShare 1 .double okD F INV) ∧
  (xs i &&& 31 = nI 21 → STs0 l D cI cQ cL ad 86 yX5_meanPile cX5_meanPile 2 yX6_meanPile cX6_meanPile 1 .float okF F INV) ∧
  (xs i &&& 31 = nI 22 → STs0 l D cI cQ cL ad 86 yX5_digest cX5_digest 4 yX6_digest cX6_digest 4 .long okL F INV) ∧
  (∀ j : Nat, 23 ≤ j → xs i &&& 31 = nI j → INV F)
set_option maxRecDepth 100000 in
set_option maxHeartbeats 4000000 in
theorem lw_loop {p : Program} {l : Launch} {e : Env} {s : State} {m : MethodId} {below : List Frame} {meth : Method} {c : Code} {D : va_G} {cI cQ cL : ClassId} {b L : Nat} {xs : Nat → Int32} (hC : LX p s m c b L xs D cI cQ cL) (hr : meth.sig.returnType = ret) (hlocks : meth.locks = false) (hLb : L ≤ 2560) (INVs : Nat → (Nat → va_E) → Prop)
    (hST : ∀ (n : Nat) (F : Nat → va_E), 5 * n + 5 ≤ L → INVs n F → STEP l D cI cQ cL (pb s.heap.size) xs (5 * n) F (INVs (n + 1))) :
    ∀ (fu n : Nat) (F : Nat → va_E) (H : Heap) (locs : List Loc) (ls : Array Slot), INVs n F → va_P D vwCl (iW (pb s.heap.size) 86 F) H → va_S (iA (pb s.heap.size) 86 s.heap.size) s.heap H locs → lv_has ls 9 (lvL b s.heap.size (5 * n)) → n ≤ 512 → 513 - n < fu →
      W p l e room_1 s m #[Value.ref b] below meth c H locs (86 + n) (2415 + 6 * n) (lw_Z below #[Value.ref b] s) (F0 m 23 ls []) := by
  obtain ⟨hx, hb, hml, hown, hts, hK, hNW, hX, hXN, hXs, hbl, hL30⟩ := id hC
  intro fu
  induction fu with
  | zero => intros; omega
  | succ fu ih =>
    intro n F H locs ls hI hP hS hl hn hfu
    refine lv_iload hx hb (dk kL_law_0_ok 13 rfl) (lv_at hl 4 rfl) ?_
    refine lv_aload_n hx hb (dk kL_law_0_ok 14 rfl) rfl (lv_at hl 0 rfl) ?_
    refine sln hx hb hXs hbl hS (dk kL_law_0_ok 15 rfl) ?_
    refine lv_iconst (v := nI 5) hx hb (dk kL_law_0_ok 16 rfl) rfl ?_
    refine lv_isub hx hb (dk kL_law_0_ok 17 rfl) ?_
    refine lv_icmp_gt (tgt := 887) hx hb (dk kL_law_0_ok 18 rfl) (by decide) (fun _ => ?_) (fun h1 => ?_)
    · have hf9 : ∀ q ∈ locs, s.heap.size ≤ q.base := by
        intro q hq
        rcases hS.2.2 q hq with ⟨k, -, h⟩ | h
        · rw [h]; exact Nat.le_add_right _ _
        · exact h
      refine va_forget hf9 ?_
      refine lv_iconst (v := 1) hx hb (dk kL_law_8_ok 46 rfl) rfl ?_
      refine W.widen (k := 601024) (n := 7293034) (by omega) (by omega) ?_
      refine W.base ?_
      have hd0 := Drawn.sameBut.refl s.drawn lw_cs
      exact lw_ret hd0 hx hb hr hlocks (dk kL_law_8_ok 47 rfl)
    · have h2 : 5 * n + 5 ≤ L := by
        have e1 : (nI L - nI 5).toInt = (L : Int) - 5 := pk_sub_toInt (by omega) (by decide)
        have e2 : (nI (5 * n)).toInt = ((5 * n : Nat) : Int) := nI_toInt (by omega)
        have h3 : ¬ (nI L - nI 5).toInt < (nI (5 * n)).toInt := fun q => h1 (Int32.lt_iff_toInt_lt.mpr q)
        rw [e1, e2] at h3
        omega
      have KE : ∀ (G : Nat → va_E) (H1 : Heap) (locs1 : List Loc) (ls1 : Array Slot), INVs (n + 1) G → va_P D vwCl (iW (pb s.heap.size) 86 G) H1 → va_S (iA (pb s.heap.size) 86 s.heap.size) s.heap H1 locs1 → lv_has ls1 9 (lvL b s.heap.size (5 * n)) → W p l e room_1 s m #[Value.ref b] below meth c H1 locs1 (86 + n + 1) (2415 + 6 * n + 6) (lw_Z below #[Value.ref b] s) (F0 m 881 ls1 []) := by
        intro G H1 locs1 ls1 hI1 hP1 hS1 hl1
        refine lv_iinc (v := nI (5 * (n + 1))) (lv' := [(4, .int (nI (5 * (n + 1)))), (0, .ref b), (1, .ref (pb s.heap.size 0)), (2, .ref (pb s.heap.size 77)), (3, .ref (pb s.heap.size 85))]) hx hb (dk kL_law_8_ok 44 rfl) hl1 (k := 4) rfl (by rw [show 5 * (n + 1) = 5 * n + 5 from rfl, show Int32.ofInt 5 = nI 5 from rfl, nI_add]) (by decide) rfl (fun ls hl => ?_)
        refine lv_goto (tgt := 23) hx hb (dk kL_law_8_ok 45 rfl) (by decide) ?_
        exact ih (n + 1) G H1 locs1 ls hI1 hP1 hS1 (lv_sub hl [1, 2, 3, 4, 0] rfl) (by omega) (by omega)
      have hi : 5 * n + 5 ≤ L := h2
      have hcell : 86 + n + 1 ≤ 601024 := by omega
      have hslot : 2415 + 6 * n + 6 ≤ 7293034 := by omega
      obtain ⟨g0, g1, g2, g3, g4, g5, g6, g7, g8, g9, g10, g11, g12, g13, g14, g15, g16, g17, g18, g19, g20, g21, g22, gD⟩ := hST n F h2 hI
      refine lv_aload_n hx hb (dk kL_law_0_ok 19 rfl) rfl (lv_at hl 0 rfl) ?_
      refine lv_iload hx hb (dk kL_law_0_ok 20 rfl) (lv_at hl 4 rfl) ?_
      refine sld hx hb hXs hbl hL30 hS (5 * n) rfl (by omega) (dk kL_law_0_ok 21 rfl) ?_
      refine lv_bipush (v := nI 31) hx hb (dk kL_law_0_ok 22 rfl) rfl ?_
      refine lv_iand hx hb (dk kL_law_0_ok 23 rfl) ?_
      obtain ⟨j, hj, hje⟩ := pk_andE (xs (5 * n)) (m := 31) 5 rfl
      have hje : xs (5 * n) &&& nI 31 = nI j := hje
      rw [hje]
      by_cases h23 : 23 ≤ j
      · refine lv_tableOut (tgt := 881) hx hb (dk kL_law_0_ok 24 rfl) (Or.inr (by rw [nI_toInt (by omega)]; omega)) (by decide) ?_
        refine W.widen (k := 86 + n + 1) (n := 2415 + 6 * n + 6) (by omega) (by omega) ?_
        exact KE F H locs ls (gD j h23 hje) hP hS hl
      · have hj2 : j < 23 := by omega
        rcases (show j = 0 ∨ j = 1 ∨ j = 2 ∨ j = 3 ∨ j = 4 ∨ j = 5 ∨ j = 6 ∨ j = 7 ∨ j = 8 ∨ j = 9 ∨ j = 10 ∨ j = 11 ∨ j = 12 ∨ j = 13 ∨ j = 14 ∨ j = 15 ∨ j = 16 ∨ j = 17 ∨ j = 18 ∨ j = 19 ∨ j = 20 ∨ j = 21 ∨ j = 22 by omega) with rfl | rfl | rfl | rfl | rfl | rfl | rfl | rfl | rfl | rfl | rfl | rfl | rfl | rfl | rfl | rfl | rfl | rfl | rfl | rfl | rfl | rfl | rfl
        · exact lv_tableIn (off := 105) (tgt := 144) hx hb (dk kL_law_0_ok 24 rfl) (by decide) (by decide) (by decide +kernel) (by decide) (lw_fly hC hi hP hS hcell hslot hl (g0 hje) KE)
        · exact lv_tableIn (off := 157) (tgt := 196) hx hb (dk kL_law_0_ok 24 rfl) (by decide) (by decide) (by decide +kernel) (by decide) (lw_lift hC hi hP hS hcell hslot hl (g1 hje) KE)
        · exact lv_tableIn (off := 221) (tgt := 260) hx hb (dk kL_law_0_ok 24 rfl) (by decide) (by decide) (by decide +kernel) (by decide) (lw_set hC hi hP hS hcell hslot hl (g2 hje) KE)
        · exact lv_tableIn (off := 249) (tgt := 288) hx hb (dk kL_law_0_ok 24 rfl) (by decide) (by decide) (by decide +kernel) (by decide) (lw_put hC hi hP hS hcell hslot hl (g3 hje) KE)
        · exact lv_tableIn (off := 301) (tgt := 340) hx hb (dk kL_law_0_ok 24 rfl) (by decide) (by decide) (by decide +kernel) (by decide) (lw_append hC hi hP hS hcell hslot hl (g4 hje) KE)
        · exact lv_tableIn (off := 329) (tgt := 368) hx hb (dk kL_law_0_ok 24 rfl) (by decide) (by decide) (by decide +kernel) (by decide) (lw_clearBuffer hC hi hP hS hcell hslot hl (g5 hje) KE)
        · exact lv_tableIn (off := 342) (tgt := 381) hx hb (dk kL_law_0_ok 24 rfl) (by decide) (by decide) (by decide +kernel) (by decide) (lw_firstError hC hi hP hS hcell hslot hl (g6 hje) KE)
        · exact lv_tableIn (off := 355) (tgt := 394) hx hb (dk kL_law_0_ok 24 rfl) (by decide) (by decide) (by decide +kernel) (by decide) (lw_play hC hi hP hS hcell hslot hl (g7 hje) KE)
        · exact lv_tableIn (off := 371) (tgt := 410) hx hb (dk kL_law_0_ok 24 rfl) (by decide) (by decide) (by decide +kernel) (by decide) (lw_keep hC hi hP hS hcell hslot hl (g8 hje) KE)
        · exact lv_tableIn (off := 384) (tgt := 423) hx hb (dk kL_law_0_ok 24 rfl) (by decide) (by decide) (by decide +kernel) (by decide) (lw_goBack hC hi hP hS hcell hslot hl (g9 hje) KE)
        · exact lv_tableIn (off := 400) (tgt := 439) hx hb (dk kL_law_0_ok 24 rfl) (by decide) (by decide) (by decide +kernel) (by decide) (lw_undo hC hi hP hS hcell hslot hl (g10 hje) KE)
        · exact lv_tableIn (off := 416) (tgt := 455) hx hb (dk kL_law_0_ok 24 rfl) (by decide) (by decide) (by decide +kernel) (by decide) (lw_wink hC hi hP hS hcell hslot hl (g11 hje) KE)
        · exact lv_tableIn (off := 456) (tgt := 495) hx hb (dk kL_law_0_ok 24 rfl) (by decide) (by decide) (by decide +kernel) (by decide) (lw_pile hC hi hP hS hcell hslot hl (g12 hje) KE)
        · exact lv_tableIn (off := 508) (tgt := 547) hx hb (dk kL_law_0_ok 24 rfl) (by decide) (by decide) (by decide +kernel) (by decide) (lw_colour hC hi hP hS hcell hslot hl (g13 hje) KE)
        · exact lv_tableIn (off := 548) (tgt := 587) hx hb (dk kL_law_0_ok 24 rfl) (by decide) (by decide) (by decide +kernel) (by decide) (lw_count hC hi hP hS hcell hslot hl (g14 hje) KE)
        · exact lv_tableIn (off := 576) (tgt := 615) hx hb (dk kL_law_0_ok 24 rfl) (by decide) (by decide) (by decide +kernel) (by decide) (lw_why hC hi hP hS hcell hslot hl (g15 hje) KE)
        · exact lv_tableIn (off := 640) (tgt := 679) hx hb (dk kL_law_0_ok 24 rfl) (by decide) (by decide) (by decide +kernel) (by decide) (lw_lands hC hi hP hS hcell hslot hl (g16 hje) KE)
        · exact lv_tableIn (off := 692) (tgt := 731) hx hb (dk kL_law_0_ok 24 rfl) (by decide) (by decide) (by decide +kernel) (by decide) (lw_ifFlown hC hi hP hS hcell hslot hl (g17 hje) KE)
        · exact lv_tableIn (off := 756) (tgt := 795) hx hb (dk kL_law_0_ok 24 rfl) (by decide) (by decide) (by decide +kernel) (by decide) (lw_best hC hi hP hS hcell hslot hl (g18 hje) KE)
        · exact lv_tableIn (off := 769) (tgt := 808) hx hb (dk kL_law_0_ok 24 rfl) (by decide) (by decide) (by decide +kernel) (by decide) (lw_flightsTo hC hi hP hS hcell hslot hl (g19 hje) KE)
        · exact lv_tableIn (off := 797) (tgt := 836) hx hb (dk kL_law_0_ok 24 rfl) (by decide) (by decide) (by decide +kernel) (by decide) (lw_pottedShare hC hi hP hS hcell hslot hl (g20 hje) KE)
        · exact lv_tableIn (off := 812) (tgt := 851) hx hb (dk kL_law_0_ok 24 rfl) (by decide) (by decide) (by decide +kernel) (by decide) (lw_meanPile hC hi hP hS hcell hslot hl (g21 hje) KE)
        · exact lv_tableIn (off := 829) (tgt := 868) hx hb (dk kL_law_0_ok 24 rfl) (by decide) (by decide) (by decide +kernel) (by decide) (lw_digest hC hi hP hS hcell hslot hl (g22 hje) KE)
