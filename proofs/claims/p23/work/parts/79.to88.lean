/-! from lawfacts -/
section
set_option maxRecDepth 100000 in
set_option maxHeartbeats 4000000 in
theorem lw_facts {p : Program} {s : State} {m : MethodId} {meth : Method} {c : Code} {b L : Nat} {xs : Nat → Int32} (hL : L < 2 ^ 30) (C0 : lw_At p s m meth c b L xs) : ∃ (D : va_G) (cI cQ cL : ClassId), LX p s m c b L xs D cI cQ cL ∧ va_AO "SquopPiles$State" s := by
  obtain ⟨hx, hb, hr, hml, hown, hts, hX, hbl, hlocks, hgv⟩ := id C0
  have htL : ∀ w ∈ LW, w.before #[Value.ref b] s = true := fun w h => hts w (LW_in w h)
  obtain ⟨c0, iS0, k0⟩ := u_known (C := RX0) (T := TX0) (N := 2) (n := 2) htL (fun w h => lcA _ (acX0 w h)) (htL _ (lcA _ (ac8 _ (List.mem_of_getElem? (i := 4) rfl))))
  obtain ⟨c1, iS1, k1⟩ := u_known (C := RX1) (T := TX1) (N := 3) (n := 3) htL (fun w h => lcA _ (acX1 w h)) (htL _ (lcA _ (ac4 _ (List.mem_of_getElem? (i := 2) rfl))))
  obtain ⟨c2, iS2, k2⟩ := u_known (C := RX2) (T := TX2) (N := 3) (n := 3) htL (fun w h => lcA _ (acX2 w h)) (htL _ (lcA _ (ac8 _ (List.mem_of_getElem? (i := 0) rfl))))
  obtain ⟨c3, iS3, k3⟩ := u_known (C := RX3) (T := TX3) (N := 3) (n := 3) htL (fun w h => lcA _ (acX3 w h)) (htL _ (lcA _ (ac8 _ (List.mem_of_getElem? (i := 9) rfl))))
  obtain ⟨c4, iS4, k4⟩ := u_known (C := RX4) (T := TX4) (N := 7) (n := 7) htL (fun w h => lcA _ (acX4 w h)) (htL _ (lcA _ (ac4 _ (List.mem_of_getElem? (i := 18) rfl))))
  obtain ⟨c5, iS5, k5⟩ := u_known (C := RX5) (T := TX5) (N := 7) (n := 7) htL (fun w h => lcA _ (acX5 w h)) (htL _ (lcA _ (ac28 _ (List.mem_of_getElem? (i := 11) rfl))))
  obtain ⟨c6, iS6, k6⟩ := u_known (C := RX6) (T := TX6) (N := 12) (n := 12) htL (fun w h => lcA _ (acX6 w h)) (htL _ (lcA _ (ac28 _ (List.mem_of_getElem? (i := 12) rfl))))
  obtain ⟨D, hD⟩ : ∃ D : va_G, ∀ (k : Nat) (q : vw_C), vwCl[k]? = some q → u_Kn s q.1 q.2.1 q.2.2 (D.1 k) (D.2 k) := by
    refine ⟨(fun k => if k = 0 then c0 else if k = 1 then c1 else if k = 2 then c2 else if k = 3 then c3 else if k = 4 then c4 else if k = 5 then c5 else c6, fun k => if k = 0 then iS0 else if k = 1 then iS1 else if k = 2 then iS2 else if k = 3 then iS3 else if k = 4 then iS4 else if k = 5 then iS5 else iS6), ?_⟩
    intro k q hq
    match k, hq with
    | 0, hq => cases hq; exact k0
    | 1, hq => cases hq; exact k1
    | 2, hq => cases hq; exact k2
    | 3, hq => cases hq; exact k3
    | 4, hq => cases hq; exact k4
    | 5, hq => cases hq; exact k5
    | 6, hq => cases hq; exact k6
    | k + 7, hq => simp [vwCl] at hq
  obtain ⟨cI, kAI, coI, fI1, fI2, fI3⟩ := Cond.arrayClass_spec (htL _ (lcA _ (ac0 _ (List.mem_of_getElem? (i := 3) rfl))))
  obtain ⟨cL, kAL, coL, fL1, fL2, fL3⟩ := Cond.arrayClass_spec (htL _ (lcA _ (ac28 _ (List.mem_of_getElem? (i := 13) rfl))))
  have hO : (Cond.arrayOver (.object "SquopPiles$State")).before #[Value.ref b] s = true := (hts _ (tb1 _ (List.mem_of_getElem? (i := 98) rfl)))
  obtain ⟨coQ, cQ, kAQ, fQ1, -, fQ2, fQ3, fQ4⟩ := Cond.arrayOver_spec hO
  have hK : va_K D vwCl (iT cI cQ cL) s := by
    refine ⟨hD, fun k q hk => ?_⟩
    match k, hk with
    | 0, hk => cases hk; exact ⟨fun n z => ⟨fun k h => (by cases h), kAI, fI2, coI, fI3⟩, fI1⟩
    | 1, hk => cases hk; exact ⟨fun n z => ⟨fun k h => (by cases h), kAQ, fQ2, coQ, fQ3⟩, kAQ, coQ, fQ2, fQ3, fQ1, fQ4⟩
    | 2, hk => cases hk; exact ⟨fun n z => ⟨fun k h => (by cases h), kAL, fL2, coL, fL3⟩, fL1⟩
    | k + 3, hk => simp [iT] at hk
  have hNW : NW s := ⟨List.forall_mem_cons.mpr ⟨va_Nw.of rfl (hts _ (tb1 _ (List.mem_of_getElem? (i := 50) rfl))), List.forall_mem_cons.mpr ⟨va_Nw.of rfl (hts _ (tb1 _ (List.mem_of_getElem? (i := 51) rfl))), List.forall_mem_cons.mpr ⟨va_Nw.of rfl (hts _ (tb1 _ (List.mem_of_getElem? (i := 63) rfl))), List.forall_mem_cons.mpr ⟨va_Nw.of rfl (hts _ (tb1 _ (List.mem_of_getElem? (i := 65) rfl))), List.forall_mem_cons.mpr ⟨va_Nw.of rfl (hts _ (tb1 _ (List.mem_of_getElem? (i := 67) rfl))), List.forall_mem_cons.mpr ⟨va_Nw.of rfl (hts _ (tb1 _ (List.mem_of_getElem? (i := 69) rfl))), List.forall_mem_cons.mpr ⟨va_Nw.of rfl (hts _ (tb1 _ (List.mem_of_getElem? (i := 71) rfl))), List.forall_mem_cons.mpr ⟨va_Nw.of rfl (hts _ (tb1 _ (List.mem_of_getElem? (i := 73) rfl))), List.forall_mem_cons.mpr ⟨va_Nw.of rfl (hts _ (tb1 _ (List.mem_of_getElem? (i := 75) rfl))), List.forall_mem_cons.mpr ⟨va_Nw.of rfl (hts _ (tb1 _ (List.mem_of_getElem? (i := 103) rfl))), List.forall_mem_cons.mpr ⟨va_Nw.of rfl (hts _ (tb1 _ (List.mem_of_getElem? (i := 119) rfl))), (fun _ h => absurd h List.not_mem_nil)⟩⟩⟩⟩⟩⟩⟩⟩⟩⟩⟩, List.forall_mem_cons.mpr ⟨va_Nw.of rfl (hts _ (tb1 _ (List.mem_of_getElem? (i := 30) rfl))), List.forall_mem_cons.mpr ⟨va_Nw.of rfl (hts _ (tb1 _ (List.mem_of_getElem? (i := 40) rfl))), List.forall_mem_cons.mpr ⟨va_Nw.of rfl (hts _ (tb1 _ (List.mem_of_getElem? (i := 43) rfl))), List.forall_mem_cons.mpr ⟨va_Nw.of rfl (hts _ (tb1 _ (List.mem_of_getElem? (i := 99) rfl))), List.forall_mem_cons.mpr ⟨va_Nw.of rfl (hts _ (tb1 _ (List.mem_of_getElem? (i := 113) rfl))), List.forall_mem_cons.mpr ⟨va_Nw.of rfl (hts _ (tb1 _ (List.mem_of_getElem? (i := 129) rfl))), List.forall_mem_cons.mpr ⟨va_Nw.of rfl (hts _ (tb1 _ (List.mem_of_getElem? (i := 227) rfl))), List.forall_mem_cons.mpr ⟨va_Nw.of rfl (hts _ (tb2 _ (List.mem_of_getElem? (i := 31) rfl))), List.forall_mem_cons.mpr ⟨va_Nw.of rfl (hts _ (tb3 _ (List.mem_of_getElem? (i := 21) rfl))), List.forall_mem_cons.mpr ⟨va_Nw.of rfl (hts _ (tb3 _ (List.mem_of_getElem? (i := 118) rfl))), List.forall_mem_cons.mpr ⟨va_Nw.of rfl (hts _ (tb3 _ (List.mem_of_getElem? (i := 119) rfl))), List.forall_mem_cons.mpr ⟨va_Nw.of rfl (hts _ (tb3 _ (List.mem_of_getElem? (i := 120) rfl))), List.forall_mem_cons.mpr ⟨va_Nw.of rfl (hts _ (tb3 _ (List.mem_of_getElem? (i := 127) rfl))), List.forall_mem_cons.mpr ⟨va_Nw.of rfl (hts _ (tb3 _ (List.mem_of_getElem? (i := 143) rfl))), List.forall_mem_cons.mpr ⟨va_Nw.of rfl (hts _ (tb3 _ (List.mem_of_getElem? (i := 149) rfl))), List.forall_mem_cons.mpr ⟨va_Nw.of rfl (hts _ (tb3 _ (List.mem_of_getElem? (i := 157) rfl))), (fun _ h => absurd h List.not_mem_nil)⟩⟩⟩⟩⟩⟩⟩⟩⟩⟩⟩⟩⟩⟩⟩⟩⟩
  have hs := flat_of_before _ hgv
  have hnA : ∀ a : Nat, a < s.heap.size → ¬ iA (pb s.heap.size) 86 s.heap.size a := by
    rintro a ha (⟨k, -, h⟩ | h)
    · have h : a = s.heap.size + k := h
      omega
    · omega
  have hcl : s.vm.findClass RX5 = some (D.1 5) := (hD 5 _ rfl).2.1
  have hstr : ∀ (k : Nat) (tx : String), (Cond.stringRef RX5 k tx).before #[Value.ref b] s = true → ∃ a, vk_R RX5 k tx a s := by
    intro k tx h
    obtain ⟨-, -, -, sa, -, -, -, -, -, hev⟩ := Cond.stringRef_spec hcl h
    exact ⟨sa, vk_R.of h hev⟩
  have hXW : XW (pb s.heap.size) 86 s.heap.size s := by
    refine ⟨List.forall_mem_cons.mpr ⟨va_Nw.of rfl (hts _ (tb2 _ (List.mem_of_getElem? (i := 128) rfl))), List.forall_mem_cons.mpr ⟨va_Nw.of rfl (hts _ (tb2 _ (List.mem_of_getElem? (i := 130) rfl))), List.forall_mem_cons.mpr ⟨va_Nw.of rfl (hts _ (tb2 _ (List.mem_of_getElem? (i := 132) rfl))), (fun _ h => absurd h List.not_mem_nil)⟩⟩⟩, List.forall_mem_cons.mpr ⟨va_Nw.of rfl (hts _ (tb3 _ (List.mem_of_getElem? (i := 92) rfl))), List.forall_mem_cons.mpr ⟨va_Nw.of rfl (hts _ (tb2 _ (List.mem_of_getElem? (i := 126) rfl))), List.forall_mem_cons.mpr ⟨va_Nw.of rfl (hts _ (tb2 _ (List.mem_of_getElem? (i := 210) rfl))), (fun _ h => absurd h List.not_mem_nil)⟩⟩⟩, List.forall_mem_cons.mpr ⟨hstr 65 "the wink can not fly" (hts _ (tb3 _ (List.mem_of_getElem? (i := 99) rfl))), List.forall_mem_cons.mpr ⟨hstr 88 "the pile can not be lifted" (hts _ (tb3 _ (List.mem_of_getElem? (i := 152) rfl))), List.forall_mem_cons.mpr ⟨hstr 106 "the setting is 1 to 6" (hts _ (tb3 _ (List.mem_of_getElem? (i := 165) rfl))), List.forall_mem_cons.mpr ⟨hstr 121 "the wink can not be put" (hts _ (tb3 _ (List.mem_of_getElem? (i := 173) rfl))), List.forall_mem_cons.mpr ⟨hstr 126 "a character code is 33 to 126" (hts _ (tb3 _ (List.mem_of_getElem? (i := 181) rfl))), List.forall_mem_cons.mpr ⟨hstr 131 "the buffer is full" (hts _ (tb3 _ (List.mem_of_getElem? (i := 182) rfl))), List.forall_mem_cons.mpr ⟨hstr 143 "the buffer is not a complete game" (hts _ (tb3 _ (List.mem_of_getElem? (i := 198) rfl))), List.forall_mem_cons.mpr ⟨hstr 154 "there is no snapshot" (hts _ (tb3 _ (List.mem_of_getElem? (i := 218) rfl))), List.forall_mem_cons.mpr ⟨hstr 159 "there is no saved state" (hts _ (tb3 _ (List.mem_of_getElem? (i := 226) rfl))), List.forall_mem_cons.mpr ⟨hstr 180 "what is 0 to 6" (hts _ (tb2 _ (List.mem_of_getElem? (i := 229) rfl))), List.forall_mem_cons.mpr ⟨hstr 191 "what is 0 to 3" (hts _ (tb3 _ (List.mem_of_getElem? (i := 67) rfl))), List.forall_mem_cons.mpr ⟨hstr 198 "a colour is 0 to 3" (hts _ (tb3 _ (List.mem_of_getElem? (i := 33) rfl))), List.forall_mem_cons.mpr ⟨hstr 246 "what is 0 to 13" (hts _ (tb2 _ (List.mem_of_getElem? (i := 165) rfl))), List.forall_mem_cons.mpr ⟨hstr 260 "what is 0 or 1" (hts _ (tb4 _ (List.mem_of_getElem? (i := 25) rfl))), List.forall_mem_cons.mpr ⟨hstr 355 "a wink is 0 to 15" (hts _ (tb2 _ (List.mem_of_getElem? (i := 217) rfl))), List.forall_mem_cons.mpr ⟨hstr 361 "x and y are 0 to 12" (hts _ (tb3 _ (List.mem_of_getElem? (i := 57) rfl))), List.forall_mem_cons.mpr ⟨hstr 366 "a force is 1 to 9" (hts _ (tb3 _ (List.mem_of_getElem? (i := 1) rfl))), List.forall_mem_cons.mpr ⟨hstr 368 "1 to 6 winks are lifted" (hts _ (tb3 _ (List.mem_of_getElem? (i := 138) rfl))), List.forall_mem_cons.mpr ⟨hstr 370 "a direction is 0 to 7" (hts _ (tb3 _ (List.mem_of_getElem? (i := 0) rfl))), (fun _ h => absurd h List.not_mem_nil)⟩⟩⟩⟩⟩⟩⟩⟩⟩⟩⟩⟩⟩⟩⟩⟩⟩⟩⟩, ?_, ?_⟩
    · exact vx_Zqof (hts _ (tb2 _ (List.mem_of_getElem? (i := 151) rfl))) (hts _ (tb1 _ (List.mem_of_getElem? (i := 8) rfl))) (hs (Cond.isRef (.static "java/lang/Throwable" "UNASSIGNED_STACK" "[Ljava/lang/StackTraceElement;")) (by decide +kernel)) hnA
    · exact vx_Zqof (hts _ (tb2 _ (List.mem_of_getElem? (i := 153) rfl))) (hts _ (tb1 _ (List.mem_of_getElem? (i := 8) rfl))) (hs (Cond.isRef (.static "java/lang/Throwable" "SUPPRESSED_SENTINEL" "Ljava/util/List;")) (by decide +kernel)) hnA
  have hXN : XN s := List.forall_mem_cons.mpr ⟨va_Nc.of (hs (Cond.not (.castable "java/lang/IndexOutOfBoundsException" "java/lang/IllegalStateException")) (by decide +kernel)), List.forall_mem_cons.mpr ⟨va_Nc.of (hs (Cond.not (.castable "java/lang/IndexOutOfBoundsException" "java/lang/IllegalArgumentException")) (by decide +kernel)), List.forall_mem_cons.mpr ⟨va_Nc.of (hs (Cond.not (.castable "java/lang/IllegalStateException" "java/lang/IndexOutOfBoundsException")) (by decide +kernel)), List.forall_mem_cons.mpr ⟨va_Nc.of (hs (Cond.not (.castable "java/lang/IllegalStateException" "java/lang/IllegalArgumentException")) (by decide +kernel)), List.forall_mem_cons.mpr ⟨va_Nc.of (hs (Cond.not (.castable "java/lang/IllegalArgumentException" "java/lang/IndexOutOfBoundsException")) (by decide +kernel)), List.forall_mem_cons.mpr ⟨va_Nc.of (hs (Cond.not (.castable "java/lang/IllegalArgumentException" "java/lang/IllegalStateException")) (by decide +kernel)), (fun _ h => absurd h List.not_mem_nil)⟩⟩⟩⟩⟩⟩
  exact ⟨D, cI, cQ, cL, ⟨hx, hb, hml, hown, htL, hK, hNW, hXW, hXN, hX, hbl, hL⟩, va_AO.of hO⟩
end
/-! from lawloop -/
section
/-- what one turn of the law owes: a call by its number -/
def STEP (l : Launch) (D : va_G) (cI cQ cL : ClassId) (ad : Nat → Nat) (xs : Nat → Int32) (i : Nat) (F : Nat → va_E) (INV : (Nat → va_E) → Prop) : Prop :=
  (xs i &&& 31 = nI 0 → STw0 l D cI cQ cL ad 86 yL_fly cL_fly 6 [(0, 12, 15, 13), (0, 12, 19, 15), (0, 12, 23, 17)] yX6_fly cX6_fly 4 F INV [.int (xs (i + 1)), .int (xs (i + 2)), .int (xs (i + 3))]) ∧
  (xs i &&& 31 = nI 1 → STw0 l D cI cQ cL ad 86 yL_lift cL_lift 7 [(0, 14, 17, 13), (0, 14, 21, 15), (0, 14, 25, 17)] yX6_lift cX6_lift 5 F INV [.int (xs (i + 1)), .int (xs (i + 2)), .int (xs (i + 3)), .int (xs (i + 4))]) ∧
  (xs i &&& 31 = nI 2 → STw0 l D cI cQ cL ad 86 yL_set cL_set 4 [(0, 9, 12, 15)] yX6_set cX6_set 3 F INV [.int (xs (i + 1))]) ∧
  (xs i &&& 31 = nI 3 → STw0 l D cI cQ cL ad 86 yL_put cL_put 6 [(0, 12, 15, 13), (0, 12, 19, 17)] yX6_put cX6_put 4 F INV [.int (xs (i + 1)), .int (xs (i + 2)), .int (xs (i + 3))]) ∧
  (xs i &&& 31 = nI 4 → STw0 l D cI cQ cL ad 86 yL_append cL_append 4 [(0, 9, 12, 15), (0, 9, 15, 17)] yX6_append cX6_append 2 F INV [.int (xs (i + 1))]) ∧
  (xs i &&& 31 = nI 5 → STs0 l D cI cQ cL ad 86 yX5_clearBuffer cX5_clearBuffer 2 yX6_clearBuffer cX6_clearBuffer 2 .int okI F INV) ∧
  (xs i &&& 31 = nI 6 → STs0 l D cI cQ cL ad 86 yX5_firstError cX5_firstError 1 yX6_firstError cX6_firstError 1 .int okI F INV) ∧
  (xs i &&& 31 = nI 7 → STw0E l D cI cQ cL ad 86 yL_play cL_play 3 [(0, 8, 11, 15)] yX6_play cX6_play 3 F INV []) ∧
  (xs i &&& 31 = nI 8 → STs0 l D cI cQ cL ad 86 yX5_keep cX5_keep 1 yX6_keep cX6_keep 2 .int okI F INV) ∧
  (xs i &&& 31 = nI 9 → STw0 l D cI cQ cL ad 86 yL_goBack cL_goBack 3 [(0, 8, 11, 17)] yX6_goBack cX6_goBack 2 F INV []) ∧
  (xs i &&& 31 = nI 10 → STw0 l D cI cQ cL ad 86 yL_undo cL_undo 3 [(0, 8, 11, 17)] yX6_undo cX6_undo 2 F INV []) ∧
  (xs i &&& 31 = nI 11 → STw0 l D cI cQ cL ad 86 yL_wink cL_wink 5 [(0, 10, 13, 13), (0, 10, 17, 15)] yX6_wink cX6_wink 3 F INV [.int (xs (i + 1)), .int (xs (i + 2))]) ∧
  (xs i &&& 31 = nI 12 → STw0 l D cI cQ cL ad 86 yL_pile cL_pile 6 [(0, 12, 15, 13), (0, 12, 19, 15)] yX6_pile cX6_pile 4 F INV [.int (xs (i + 1)), .int (xs (i + 2)), .int (xs (i + 3))]) ∧
  (xs i &&& 31 = nI 13 → STw0 l D cI cQ cL ad 86 yL_colour cL_colour 5 [(0, 10, 13, 13), (0, 10, 17, 15)] yX6_colour cX6_colour 3 F INV [.int (xs (i + 1)), .int (xs (i + 2))]) ∧
  (xs i &&& 31 = nI 14 → STw0 l D cI cQ cL ad 86 yL_count cL_count 4 [(0, 9, 12, 15)] yX6_count cX6_count 2 F INV [.int (xs (i + 1))]) ∧
  (xs i &&& 31 = nI 15 → STw0 l D cI cQ cL ad 86 yL_why cL_why 7 [(0, 14, 17, 13), (0, 14, 21, 15)] yX6_why cX6_why 5 F INV [.int (xs (i + 1)), .int (xs (i + 2)), .int (xs (i + 3)), .int (xs (i + 4))]) ∧
  (xs i &&& 31 = nI 16 → STw0 l D cI cQ cL ad 86 yL_lands cL_lands 6 [(0, 12, 15, 13), (0, 12, 19, 15)] yX6_lands cX6_lands 4 F INV [.int (xs (i + 1)), .int (xs (i + 2)), .int (xs (i + 3))]) ∧
  (xs i &&& 31 = nI 17 → STw0 l D cI cQ cL ad 86 yL_ifFlown cL_ifFlown 7 [(0, 14, 17, 13), (0, 14, 21, 15)] yX6_ifFlown cX6_ifFlown 5 F INV [.int (xs (i + 1)), .int (xs (i + 2)), .int (xs (i + 3)), .int (xs (i + 4))]) ∧
  (xs i &&& 31 = nI 18 → STs0 l D cI cQ cL ad 86 yX5_best cX5_best 11 yX6_best cX6_best 1 .int okI F INV) ∧
  (xs i &&& 31 = nI 19 → STw0 l D cI cQ cL ad 86 yL_flightsTo cL_flightsTo 4 [(0, 9, 12, 13)] yX6_flightsTo cX6_flightsTo 2 F INV [.int (xs (i + 1))]) ∧
  (xs i &&& 31 = nI 20 → STs0 l D cI cQ cL ad 86 yX5_pottedShare cX5_pottedShare 1 yX6_pottedShare cX6_pottedShare 1 .double okD F INV) ∧
  (xs i &&& 31 = nI 21 → STs l D cI cQ cL ad 86 yX5_meanPile cX5_meanPile 2 yX6_meanPile cX6_meanPile 1 .float okF F INV) ∧
  (xs i &&& 31 = nI 22 → STs0 l D cI cQ cL ad 86 yX5_digest cX5_digest 4 yX6_digest cX6_digest 4 .long okL F INV) ∧
  (∀ j : Nat, 23 ≤ j → xs i &&& 31 = nI j → INV F)
set_option maxRecDepth 100000 in
set_option maxHeartbeats 4000000 in
theorem lw_loop {p : Program} {l : Launch} {e : Env} {s : State} {m : MethodId} {below : List Frame} {meth : Method} {c : Code} {D : va_G} {cI cQ cL : ClassId} {b L : Nat} {xs : Nat → Int32} (hC : LX p s m c b L xs D cI cQ cL) (hr : meth.sig.returnType = ret) (hlocks : meth.locks = false) (hLb : L ≤ 2560) (INVs : Nat → (Nat → va_E) → Prop)
    (hST : ∀ (n : Nat) (F : Nat → va_E), 5 * n + 5 ≤ L → INVs n F → STEP l D cI cQ cL (pb s.heap.size) xs (5 * n) F (INVs (n + 1))) :
    ∀ (fu n : Nat) (F : Nat → va_E) (H : Heap) (locs : List Loc) (ls : Array Slot), INVs n F → va_P D vwCl (iW (pb s.heap.size) 86 F) H → va_S (iA (pb s.heap.size) 86 s.heap.size) s.heap H locs → lv_has ls 9 (lvL b s.heap.size (5 * n)) → n ≤ 512 → 513 - n < fu →
      W p l e room_1 s m #[Value.ref b] below meth c H locs (86 + n) (2415 + 6 * n) (lw_Z below #[Value.ref b] s) (F0 m 23 ls []) := by
  obtain ⟨hx, hb, hml, hown, hts, hK, hNW, hX, hXN, hXs, hbl, hL30⟩ := id hC
  intro fu
  induction fu with
  | zero => intros; omega
  | succ fu ih =>
    intro n F H locs ls hI hP hS hl hn hfu
    refine lv_iload hx hb (dk kL_law_0_ok 13 rfl) (lv_at hl 4 rfl) ?_
    refine lv_aload_n hx hb (dk kL_law_0_ok 14 rfl) rfl (lv_at hl 0 rfl) ?_
    refine sln hx hb hXs hbl hS (dk kL_law_0_ok 15 rfl) ?_
    refine lv_iconst (v := nI 5) hx hb (dk kL_law_0_ok 16 rfl) rfl ?_
    refine lv_isub hx hb (dk kL_law_0_ok 17 rfl) ?_
    refine lv_icmp_gt (tgt := 913) hx hb (dk kL_law_0_ok 18 rfl) (by decide) (fun _ => ?_) (fun h1 => ?_)
    · have hf9 : ∀ q ∈ locs, s.heap.size ≤ q.base := by
        intro q hq
        rcases hS.2.2 q hq with ⟨k, -, h⟩ | h
        · rw [h]; exact Nat.le_add_right _ _
        · exact h
      refine va_forget hf9 ?_
      refine lv_iconst (v := 1) hx hb (dk kL_law_9_ok 0 rfl) rfl ?_
      refine W.widen (k := 601024) (n := 7293034) (by omega) (by omega) ?_
      refine W.base ?_
      have hd0 := Drawn.sameBut.refl s.drawn lw_cs
      exact lw_ret hd0 hx hb hr hlocks (dk kL_law_9_ok 1 rfl)
    · have h2 : 5 * n + 5 ≤ L := by
        have e1 : (nI L - nI 5).toInt = (L : Int) - 5 := pk_sub_toInt (by omega) (by decide)
        have e2 : (nI (5 * n)).toInt = ((5 * n : Nat) : Int) := nI_toInt (by omega)
        have h3 : ¬ (nI L - nI 5).toInt < (nI (5 * n)).toInt := fun q => h1 (Int32.lt_iff_toInt_lt.mpr q)
        rw [e1, e2] at h3
        omega
      have KE : ∀ (G : Nat → va_E) (H1 : Heap) (locs1 : List Loc) (ls1 : Array Slot), INVs (n + 1) G → va_P D vwCl (iW (pb s.heap.size) 86 G) H1 → va_S (iA (pb s.heap.size) 86 s.heap.size) s.heap H1 locs1 → lv_has ls1 9 (lvL b s.heap.size (5 * n)) → W p l e room_1 s m #[Value.ref b] below meth c H1 locs1 (86 + n + 1) (2415 + 6 * n + 6) (lw_Z below #[Value.ref b] s) (F0 m 907 ls1 []) := by
        intro G H1 locs1 ls1 hI1 hP1 hS1 hl1
        refine lv_iinc (v := nI (5 * (n + 1))) (lv' := [(4, .int (nI (5 * (n + 1)))), (0, .ref b), (1, .ref (pb s.heap.size 0)), (2, .ref (pb s.heap.size 77)), (3, .ref (pb s.heap.size 85))]) hx hb (dk kL_law_8_ok 58 rfl) hl1 (k := 4) rfl (by rw [show 5 * (n + 1) = 5 * n + 5 from rfl, show Int32.ofInt 5 = nI 5 from rfl, nI_add]) (by decide) rfl (fun ls hl => ?_)
        refine lv_goto (tgt := 23) hx hb (dk kL_law_8_ok 59 rfl) (by decide) ?_
        exact ih (n + 1) G H1 locs1 ls hI1 hP1 hS1 (lv_sub hl [1, 2, 3, 4, 0] rfl) (by omega) (by omega)
      have hi : 5 * n + 5 ≤ L := h2
      have hcell : 86 + n + 1 ≤ 601024 := by omega
      have hslot : 2415 + 6 * n + 6 ≤ 7293034 := by omega
      obtain ⟨g0, g1, g2, g3, g4, g5, g6, g7, g8, g9, g10, g11, g12, g13, g14, g15, g16, g17, g18, g19, g20, g21, g22, gD⟩ := hST n F h2 hI
      refine lv_aload_n hx hb (dk kL_law_0_ok 19 rfl) rfl (lv_at hl 0 rfl) ?_
      refine lv_iload hx hb (dk kL_law_0_ok 20 rfl) (lv_at hl 4 rfl) ?_
      refine sld hx hb hXs hbl hL30 hS (5 * n) rfl (by omega) (dk kL_law_0_ok 21 rfl) ?_
      refine lv_bipush (v := nI 31) hx hb (dk kL_law_0_ok 22 rfl) rfl ?_
      refine lv_iand hx hb (dk kL_law_0_ok 23 rfl) ?_
      obtain ⟨j, hj, hje⟩ := pk_andE (xs (5 * n)) (m := 31) 5 rfl
      have hje : xs (5 * n) &&& nI 31 = nI j := hje
      rw [hje]
      by_cases h23 : 23 ≤ j
      · refine lv_tableOut (tgt := 907) hx hb (dk kL_law_0_ok 24 rfl) (Or.inr (by rw [nI_toInt (by omega)]; omega)) (by decide) ?_
        refine W.widen (k := 86 + n + 1) (n := 2415 + 6 * n + 6) (by omega) (by omega) ?_
        exact KE F H locs ls (gD j h23 hje) hP hS hl
      · have hj2 : j < 23 := by omega
        rcases (show j = 0 ∨ j = 1 ∨ j = 2 ∨ j = 3 ∨ j = 4 ∨ j = 5 ∨ j = 6 ∨ j = 7 ∨ j = 8 ∨ j = 9 ∨ j = 10 ∨ j = 11 ∨ j = 12 ∨ j = 13 ∨ j = 14 ∨ j = 15 ∨ j = 16 ∨ j = 17 ∨ j = 18 ∨ j = 19 ∨ j = 20 ∨ j = 21 ∨ j = 22 by omega) with rfl | rfl | rfl | rfl | rfl | rfl | rfl | rfl | rfl | rfl | rfl | rfl | rfl | rfl | rfl | rfl | rfl | rfl | rfl | rfl | rfl | rfl | rfl
        · exact lv_tableIn (off := 105) (tgt := 144) hx hb (dk kL_law_0_ok 24 rfl) (by decide) (by decide) (by decide +kernel) (by decide) (lw_fly hC hi hP hS hcell hslot hl (g0 hje) KE)
        · exact lv_tableIn (off := 157) (tgt := 196) hx hb (dk kL_law_0_ok 24 rfl) (by decide) (by decide) (by decide +kernel) (by decide) (lw_lift hC hi hP hS hcell hslot hl (g1 hje) KE)
        · exact lv_tableIn (off := 221) (tgt := 260) hx hb (dk kL_law_0_ok 24 rfl) (by decide) (by decide) (by decide +kernel) (by decide) (lw_set hC hi hP hS hcell hslot hl (g2 hje) KE)
        · exact lv_tableIn (off := 249) (tgt := 288) hx hb (dk kL_law_0_ok 24 rfl) (by decide) (by decide) (by decide +kernel) (by decide) (lw_put hC hi hP hS hcell hslot hl (g3 hje) KE)
        · exact lv_tableIn (off := 301) (tgt := 340) hx hb (dk kL_law_0_ok 24 rfl) (by decide) (by decide) (by decide +kernel) (by decide) (lw_append hC hi hP hS hcell hslot hl (g4 hje) KE)
        · exact lv_tableIn (off := 329) (tgt := 368) hx hb (dk kL_law_0_ok 24 rfl) (by decide) (by decide) (by decide +kernel) (by decide) (lw_clearBuffer hC hi hP hS hcell hslot hl (g5 hje) KE)
        · exact lv_tableIn (off := 342) (tgt := 381) hx hb (dk kL_law_0_ok 24 rfl) (by decide) (by decide) (by decide +kernel) (by decide) (lw_firstError hC hi hP hS hcell hslot hl (g6 hje) KE)
        · exact lv_tableIn (off := 355) (tgt := 394) hx hb (dk kL_law_0_ok 24 rfl) (by decide) (by decide) (by decide +kernel) (by decide) (lw_play hC hi hP hS hcell hslot hl (g7 hje) KE)
        · exact lv_tableIn (off := 371) (tgt := 410) hx hb (dk kL_law_0_ok 24 rfl) (by decide) (by decide) (by decide +kernel) (by decide) (lw_keep hC hi hP hS hcell hslot hl (g8 hje) KE)
        · exact lv_tableIn (off := 384) (tgt := 423) hx hb (dk kL_law_0_ok 24 rfl) (by decide) (by decide) (by decide +kernel) (by decide) (lw_goBack hC hi hP hS hcell hslot hl (g9 hje) KE)
        · exact lv_tableIn (off := 400) (tgt := 439) hx hb (dk kL_law_0_ok 24 rfl) (by decide) (by decide) (by decide +kernel) (by decide) (lw_undo hC hi hP hS hcell hslot hl (g10 hje) KE)
        · exact lv_tableIn (off := 416) (tgt := 455) hx hb (dk kL_law_0_ok 24 rfl) (by decide) (by decide) (by decide +kernel) (by decide) (lw_wink hC hi hP hS hcell hslot hl (g11 hje) KE)
        · exact lv_tableIn (off := 456) (tgt := 495) hx hb (dk kL_law_0_ok 24 rfl) (by decide) (by decide) (by decide +kernel) (by decide) (lw_pile hC hi hP hS hcell hslot hl (g12 hje) KE)
        · exact lv_tableIn (off := 508) (tgt := 547) hx hb (dk kL_law_0_ok 24 rfl) (by decide) (by decide) (by decide +kernel) (by decide) (lw_colour hC hi hP hS hcell hslot hl (g13 hje) KE)
        · exact lv_tableIn (off := 548) (tgt := 587) hx hb (dk kL_law_0_ok 24 rfl) (by decide) (by decide) (by decide +kernel) (by decide) (lw_count hC hi hP hS hcell hslot hl (g14 hje) KE)
        · exact lv_tableIn (off := 576) (tgt := 615) hx hb (dk kL_law_0_ok 24 rfl) (by decide) (by decide) (by decide +kernel) (by decide) (lw_why hC hi hP hS hcell hslot hl (g15 hje) KE)
        · exact lv_tableIn (off := 640) (tgt := 679) hx hb (dk kL_law_0_ok 24 rfl) (by decide) (by decide) (by decide +kernel) (by decide) (lw_lands hC hi hP hS hcell hslot hl (g16 hje) KE)
        · exact lv_tableIn (off := 692) (tgt := 731) hx hb (dk kL_law_0_ok 24 rfl) (by decide) (by decide) (by decide +kernel) (by decide) (lw_ifFlown hC hi hP hS hcell hslot hl (g17 hje) KE)
        · exact lv_tableIn (off := 756) (tgt := 795) hx hb (dk kL_law_0_ok 24 rfl) (by decide) (by decide) (by decide +kernel) (by decide) (lw_best hC hi hP hS hcell hslot hl (g18 hje) KE)
        · exact lv_tableIn (off := 769) (tgt := 808) hx hb (dk kL_law_0_ok 24 rfl) (by decide) (by decide) (by decide +kernel) (by decide) (lw_flightsTo hC hi hP hS hcell hslot hl (g19 hje) KE)
        · exact lv_tableIn (off := 797) (tgt := 836) hx hb (dk kL_law_0_ok 24 rfl) (by decide) (by decide) (by decide +kernel) (by decide) (lw_pottedShare hC hi hP hS hcell hslot hl (g20 hje) KE)
        · exact lv_tableIn (off := 812) (tgt := 851) hx hb (dk kL_law_0_ok 24 rfl) (by decide) (by decide) (by decide +kernel) (by decide) (lw_meanPile hC hi hP hS hcell hslot hl (g21 hje) KE)
        · exact lv_tableIn (off := 855) (tgt := 894) hx hb (dk kL_law_0_ok 24 rfl) (by decide) (by decide) (by decide +kernel) (by decide) (lw_digest hC hi hP hS hcell hslot hl (g22 hje) KE)
end
/-! from lawbegin -/
section
def FZ : Nat → va_E := fun _ => .inr (0, [])
def F5 (cI cQ : ClassId) (b0 : Nat) : Nat → va_E := w5N cI cQ b0 (va_up FZ 0 (.inr (5, [.null, .null, .null, .null, .null, .null, .int (bI false)])))
def F6 (cI cQ : ClassId) (b0 : Nat) : Nat → va_E := w6W cI b0 (va_up (F5 cI cQ b0) 77 (.inr (6, [.null, .null, .null, .null, .null, .null, .null, .int (bI false), .int (nI 0), .int (nI 0), .int (nI 0), .int (nI 0)]))) 77 row0
def FL (cI cQ cL : ClassId) (b0 : Nat) : Nat → va_E := va_up (F6 cI cQ b0) 85 (.inl (cL, 1, .inr (.inl (fun _ => 0))))
theorem cwIL {s : State} {args : Array Value} {R rm : Room} {own : String} {index maxL mc ms : Nat} {y : MethodName} {bytes : ByteArray} (ht : ∀ w ∈ LW, w.before args s = true) (hc : Cond.code y bytes maxL none ∈ AW) (hl : Cond.methodLink own index y ∈ LW) (hi : Cond.instanceMethod y ∈ AW) (hini : Cond.initialized y.cls ∈ AW) (hy1 : y.name = "<init>") (hrc : rm.cells = mc) (hrs : rm.slots = ms)
    (hd : y.cls ≠ "java/lang/invoke/MethodHandle" ∧ y.cls ≠ "java/lang/invoke/VarHandle" ∧ (parseMethodDescriptor y.desc).map (fun d => d.parameters.length) = some 0) (hR : rm.frames + 1 ≤ R.frames ∧ 8 + (maxL + 11) + rm.locals ≤ R.locals) : CallB R s args own index y bytes maxL none (Cond.code y bytes maxL none :: AW) rm mc ms 0 ∧ y.name = "<init>" ∧ (Cond.instanceMethod y).before args s = true :=
  ⟨callB_of 0 ht (gInL hc) rfl hrc hrs (ht _ (lcA _ hini)) (ht _ hl) hd hR, hy1, ht _ (lcA _ hi)⟩
set_option maxRecDepth 100000 in
set_option maxHeartbeats 4000000 in
theorem lw_begin {p : Program} {l : Launch} {e : Env} {s : State} {m : MethodId} {below : List Frame} {meth : Method} {c : Code} {D : va_G} {cI cQ cL : ClassId} {b L : Nat} {xs : Nat → Int32} {Q : State → Prop} (hC : LX p s m c b L xs D cI cQ cL) (hAO : va_AO "SquopPiles$State" s)
    (kk : ∀ (H : Heap) (locs : List Loc) (ls : Array Slot), va_P D vwCl (iW (pb s.heap.size) 86 (FL cI cQ cL s.heap.size)) H → va_S (iA (pb s.heap.size) 86 s.heap.size) s.heap H locs → lv_has ls 9 (lvL b s.heap.size 0) → W p l e room_1 s m #[Value.ref b] below meth c H locs 86 2415 Q (F0 m 23 ls [])) :
    W p l e room_1 s m #[Value.ref b] below meth c s.heap [] 0 0 Q (entryFrame m ([Value.ref b] : List Value).toArray 9) := by
  obtain ⟨hx, hb, hml, hown, hts, hK, hNW, hX, hXN, hXs, hbl, hL30⟩ := hC
  have hl := lv_entry ([.ref b]) (n := 9) (Nat.le_of_ble_eq_true rfl)
  rw [lg_entry_eq]
  generalize (lg_sl ([.ref b]) ++ List.replicate (9 - (lg_sl ([.ref b])).length) Slot.unset).toArray = ls at hl ⊢
  have hl : lv_has ls 9 [(0, .ref b)] := hl
  have hP : va_P D vwCl (iW (pb s.heap.size) 0 FZ) s.heap := fun k q h => by simp [iW] at h
  have hS : va_S (bA s.heap.size) s.heap s.heap [] := va_S.rf
  have hb0 : s.heap.size ≤ s.heap.size := Nat.le_refl _
  refine nwO (ci := 5) hx hb hts (fun w h => lcA _ (acX5 w h)) tyX5 tyX5_ok hown (hts _ (lc0 _ (List.mem_of_getElem? (i := 19) rfl))) (hts _ (lcA _ (ac28 _ (List.mem_of_getElem? (i := 11) rfl)))) (hts _ (lcA _ mini_RX5)) hK hP hS hb0 (by omega) rfl [.null, .null, .null, .null, .null, .null, .int (bI false)] (fun j hj => dv5 j hj) (Nat.le_of_ble_eq_true rfl) (Nat.le_of_ble_eq_true rfl) (dk kL_law_0_ok 0 rfl) (fun H hP hS => ?_)
  refine lv_dup hx hb (dk kL_law_0_ok 1 rfl) rfl ?_
  refine cvK (k := 0) ⟨hx, hb, hml, hown, hts⟩ (tX5_init l D cI cQ cL s.heap.size _ (va_up_self _ _ _)) (cwIL hts mcX5_init (lc0 _ (List.mem_of_getElem? (i := 21) rfl)) miX5_init mini_RX5 rfl rfl rfl hdX5_init ⟨Nat.le_of_ble_eq_true rfl, Nat.le_of_ble_eq_true rfl⟩) hAO hK hP hNW hS (by omega) (by omega) hl.1 rfl (Nat.le_of_ble_eq_true rfl) ⟨Nat.le_of_ble_eq_true rfl, Nat.le_of_ble_eq_true rfl⟩ (dk kL_law_0_ok 2 rfl) (fun H locs hP hS => ?_)
  have hP : va_P D vwCl (iW (pb s.heap.size) 77 (F5 cI cQ s.heap.size)) H := hP
  refine lv_astore_n (lv' := [(1, .ref (pb s.heap.size 0)), (0, .ref b)]) hx hb (dk kL_law_0_ok 3 rfl) rfl hl (by decide) rfl (fun ls hl => ?_)
  refine nwO (ci := 6) hx hb hts (fun w h => lcA _ (acX6 w h)) tyX6 tyX6_ok hown (hts _ (lc0 _ (List.mem_of_getElem? (i := 20) rfl))) (hts _ (lcA _ (ac28 _ (List.mem_of_getElem? (i := 12) rfl)))) (hts _ (lcA _ mini_RX6)) hK hP hS hb0 (by omega) rfl [.null, .null, .null, .null, .null, .null, .null, .int (bI false), .int (nI 0), .int (nI 0), .int (nI 0), .int (nI 0)] (fun j hj => dv6 j hj) (Nat.le_of_ble_eq_true rfl) (Nat.le_of_ble_eq_true rfl) (dk kL_law_0_ok 4 rfl) (fun H hP hS => ?_)
  refine lv_dup hx hb (dk kL_law_0_ok 5 rfl) rfl ?_
  refine cvK (k := 77) ⟨hx, hb, hml, hown, hts⟩ (tX6_init l D cI cQ cL s.heap.size _ 77 (va_up_self _ _ _)) (cwIL hts mcX6_init (lc0 _ (List.mem_of_getElem? (i := 22) rfl)) miX6_init mini_RX6 rfl rfl rfl hdX6_init ⟨Nat.le_of_ble_eq_true rfl, Nat.le_of_ble_eq_true rfl⟩) hAO hK hP hNW hS (by omega) (by omega) hl.1 rfl (Nat.le_of_ble_eq_true rfl) ⟨Nat.le_of_ble_eq_true rfl, Nat.le_of_ble_eq_true rfl⟩ (dk kL_law_0_ok 6 rfl) (fun H locs hP hS => ?_)
  have hP : va_P D vwCl (iW (pb s.heap.size) 85 (F6 cI cQ s.heap.size)) H := hP
  refine lv_astore_n (lv' := [(2, .ref (pb s.heap.size 77)), (1, .ref (pb s.heap.size 0)), (0, .ref b)]) hx hb (dk kL_law_0_ok 7 rfl) rfl hl (by decide) rfl (fun ls hl => ?_)
  refine lv_iconst (v := nI 1) hx hb (dk kL_law_0_ok 8 rfl) rfl ?_
  refine nwL hx hb (hts _ (lcA _ (ac28 _ (List.mem_of_getElem? (i := 13) rfl)))) hK hP hS hb0 (by omega) 1 rfl (by decide) (Nat.le_of_ble_eq_true rfl) (Nat.le_of_ble_eq_true rfl) (dk kL_law_0_ok 9 rfl) (fun H hP hS => ?_)
  have hP : va_P D vwCl (iW (pb s.heap.size) 86 (FL cI cQ cL s.heap.size)) H := hP
  refine lv_astore_n (lv' := [(3, .ref (pb s.heap.size 85)), (2, .ref (pb s.heap.size 77)), (1, .ref (pb s.heap.size 0)), (0, .ref b)]) hx hb (dk kL_law_0_ok 10 rfl) rfl hl (by decide) rfl (fun ls hl => ?_)
  refine lv_iconst (v := nI 0) hx hb (dk kL_law_0_ok 11 rfl) rfl ?_
  refine lv_istore (lv' := [(4, .int (nI 0)), (3, .ref (pb s.heap.size 85)), (2, .ref (pb s.heap.size 77)), (1, .ref (pb s.heap.size 0)), (0, .ref b)]) hx hb (dk kL_law_0_ok 12 rfl) hl (by decide) rfl (fun ls hl => ?_)
  rw [← iA_pb (N := 86) (Nat.le_refl s.heap.size) (Nat.le_add_right _ _)] at hS
  exact kk H _ ls hP hS (lv_sub hl [4, 3, 2, 1, 0] rfl)
end
/-! from stephelp -/
section
/-! helpers of the steps -/
theorem ixn {n : Nat} (h : n < 2 ^ 31) : ix (nI n) = n := nI_clamp h
theorem rf_up {cI : ClassId} {ad : Nat → Nat} {G : Nat → va_E} {r ps sl sd ne fa bu : Nat → Int32} {hs : Bool} {st ln pt : Nat} {th : Int32} {x : va_E} (h : rfAt cI ad G 77 r ps sl sd ne fa bu hs st ln pt th) : rfAt cI ad (va_up G 85 x) 77 r ps sl sd ne fa bu hs st ln pt th := by
  obtain ⟨h0, h1, h2, h3, h4, h5, h6, h7⟩ := h
  refine ⟨?_, ?_, ?_, ?_, ?_, ?_, ?_, ?_⟩
  all_goals rw [va_up_ne _ _ (by decide)]; assumption
theorem stw_mk {l : Launch} {D : va_G} {cI cQ cL : ClassId} {ad : Nat → Nat} {yL : MethodName} {bL : ByteArray} {mL : Nat} {hh : List (Nat × Nat × Nat × Nat)} {y6 : MethodName} {b6 : ByteArray} {m6 : Nat} {F : Nat → va_E} {INV : (Nat → va_E) → Prop} {As : List Value} (kk : Nat) (hkk : kk < 8) {F1 : Nat → va_E} {o : Nat → Int64} {b : Int32}
    (hML : ML l yL (Cond.codeWith yL bL mL (some .int) hh :: LW) RML D cI cQ cL ad 86 F (.ref (ad 0) :: (As ++ [.ref (ad 85)])) (nI kk) F1 1 6) (ho : F1 85 = .inl (cL, 1, .inr (.inl o))) (hob : kk = 0 → o 0 = b.toInt64) {r0 ps0 sl0 sd0 ne0 fa0 bu0 : Nat → Int32} {hs0 : Bool} {st0 ln0 pt0 : Nat} {th0 : Int32} (hR : rfAt cI ad F1 77 r0 ps0 sl0 sd0 ne0 fa0 bu0 hs0 st0 ln0 pt0 th0) {r ps sl sd ne fa bu : Nat → Int32} {hs : Bool} {st ln pt : Nat} {th : Int32} {rm6 : Room}
    (hM6 : MX l y6 (Cond.code y6 b6 m6 (some .int) :: AW) rm6 D cI cQ cL ad 86 F1 (.ref (ad 77) :: As) (dp (some (.int b)) (rfSet cI ad F1 77 r ps sl sd ne fa bu hs st ln pt th)) 0 0) (hth : th = nI kk) (e1 : rm6.cells = 0) (e2 : rm6.slots = 0) (e3 : rm6.frames + 1 ≤ 13) (e4 : 8 + (m6 + 11) + rm6.locals ≤ 476) (hINV : INV (rfSet cI ad F1 77 r ps sl sd ne fa bu hs st ln pt th)) : STw l D cI cQ cL ad 86 yL bL mL hh y6 b6 m6 F INV As :=
  ⟨kk, b, F1, o, _, _, rm6, hkk, ho, hob, hML, hR.1, hM6, e1, e2, e3, e4, fun v G hp => by
    obtain ⟨rfl, rfl⟩ := hp
    exact ⟨rfl, hINV, rfSet_out (by omega), r, ps, sl, sd, ne, fa, bu, hs, st, ln, pt, by rw [← hth]; exact rfSet_at⟩⟩
theorem sts_mk {l : Launch} {D : va_G} {cI cQ cL : ClassId} {ad : Nat → Nat} {y5 : MethodName} {b5 : ByteArray} {m5 : Nat} {y6 : MethodName} {b6 : ByteArray} {m6 : Nat} {ty : FieldType} {ok : Value → Prop} {F : Nat → va_E} {INV : (Nat → va_E) → Prop} {b b' : Value} {F1 : Nat → va_E} {f5 : List Value} (h0 : F 0 = .inr (5, f5)) (hok : ok b) {rm5 rm6 : Room}
    (hM5 : MX l y5 (Cond.code y5 b5 m5 (some ty) :: AW) rm5 D cI cQ cL ad 86 F [.ref (ad 0)] (dp (some b) F1) 0 0) (d1 : rm5.cells = 0) (d2 : rm5.slots = 0) (d3 : rm5.frames + 1 ≤ 13) (d4 : 8 + (m5 + 11) + rm5.locals ≤ 476) {r0 ps0 sl0 sd0 ne0 fa0 bu0 : Nat → Int32} {hs0 : Bool} {st0 ln0 pt0 : Nat} {th0 : Int32} (hR : rfAt cI ad F1 77 r0 ps0 sl0 sd0 ne0 fa0 bu0 hs0 st0 ln0 pt0 th0) {G1 : Nat → va_E}
    (hM6 : MX l y6 (Cond.code y6 b6 m6 (some ty) :: AW) rm6 D cI cQ cL ad 86 F1 [.ref (ad 77)] (dp (some b') G1) 0 0) (hbb : b' = b) (e1 : rm6.cells = 0) (e2 : rm6.slots = 0) (e3 : rm6.frames + 1 ≤ 13) (e4 : 8 + (m6 + 11) + rm6.locals ≤ 476) (hINV : INV G1) : STs l D cI cQ cL ad 86 y5 b5 m5 y6 b6 m6 ty ok F INV :=
  ⟨b, F1, f5, _, _, rm5, rm6, hok, h0, hM5, d1, d2, d3, d4, hR.1, hM6, e1, e2, e3, e4, fun v G hp => by
    obtain ⟨rfl, rfl⟩ := hp
    exact ⟨by rw [hbb], hINV⟩⟩
theorem btw_f {x a m : Int32} (h : ¬ btw x a m = true) : btw x a m = false := by simpa using h
theorem bool_f {b : Bool} (h : ¬ b = true) : b = false := by simpa using h
theorem pW_ok {r : Nat → Int32} {w k : Nat} (hw : w < 16) (hk : k < 7) : pW r (nI w) (nI k) = aWink r w k := by
  unfold pW
  rw [if_pos (btw_nI (by omega)), if_pos (btw_nI (by omega)), ixn (by omega), ixn (by omega)]
theorem pC_ok {r : Nat → Int32} {w k : Nat} (hw : w < 4) (hk : k < 7) : pC r (nI w) (nI k) = aCol r w k := by
  unfold pC
  rw [if_pos (btw_nI (by omega)), if_pos (btw_nI (by omega)), ixn (by omega), ixn (by omega)]
theorem pP_ok {r : Nat → Int32} {x y k : Nat} (hx : x < 13) (hy : y < 13) (hk : k < 4) : pP r (nI x) (nI y) (nI k) = aPile r (nI (13 * y + x)) k := by
  unfold pP
  rw [if_pos (btw_nI (by omega)), if_pos (btw_nI (by omega)), if_pos (btw_nI (by omega)), ixn (by omega), pk_mul, nI_add]
theorem pN_ok {r : Nat → Int32} {st k : Nat} (hk : k < 14) : pN r st (nI k) = aNum r st k := by
  unfold pN
  rw [if_pos (btw_nI (by omega)), ixn (by omega)]
theorem pY_ok {r : Nat → Int32} {x y f d : Nat} (hx : x < 13) (hy : y < 13) (hf : 1 ≤ f ∧ f ≤ 6) (hd : d < 8) : pY r (nI x) (nI y) (nI f) (nI d) = nI (rwl r (13 * y + x) f d) := by
  unfold pY
  rw [if_pos (btw_nI (by omega)), if_pos (btw_nI (by omega)), if_pos (btw_nI (by omega)), if_pos (btw_nI (by omega)), ixn (by omega), ixn (by omega), ixn (by omega), ixn (by omega)]
theorem pL_ok {r : Nat → Int32} {w d f : Nat} (hw : w < 16) (hd : d < 8) (hf : 1 ≤ f ∧ f ≤ 9) : pL r (nI w) (nI d) (nI f) = aLan r w d f := by
  unfold pL
  rw [if_pos (btw_nI (by omega)), if_pos (btw_nI (by omega)), if_pos (btw_nI (by omega)), ixn (by omega), ixn (by omega), ixn (by omega)]
theorem cat_n {x y : Nat} : cat (nI x) (nI y) = nI (13 * y + x) := by unfold cat; rw [pk_mul, nI_add]
theorem rbs_n {x y d : Nat} (hx : x < 13) : rbs (13 * y + x) d = beside (nI x) (nI y) (nI d) := by
  unfold rbs
  rw [show (13 * y + x) % 13 = x by omega, show (13 * y + x) / 13 = y by omega]
theorem cl4_b (x : Int32) : btw x (nI 0) (nI 3) = cl4 x := by
  by_cases h : btw x (nI 0) (nI 3) = true
  · obtain ⟨j, rfl, -, hj⟩ := btw_of (by decide) (by decide) h
    rw [h, cl4_nI (by omega)]
  · have h := btw_f h
    rw [h]
    by_cases h2 : cl4 x = true
    · exfalso
      unfold cl4 at h2
      simp only [Bool.and_eq_true, Bool.not_eq_true', decide_eq_false_iff_not] at h2
      obtain ⟨j, hj, rfl⟩ := nI_of h2.1
      have h3 : j < 4 := Nat.lt_of_not_le fun q => h2.2 (nI_le q hj)
      rw [btw_nI (by omega)] at h
      cases h
    · exact (bool_f h2).symm
theorem gL_ok {r : Nat → Int32} {x y f d : Nat} (hx : x < 13) (hy : y < 13) (hf : 1 ≤ f ∧ f ≤ 6) (hd : d < 8) : gL r (nI x) (nI y) (nI f) (nI d) = decide (rwl r (13 * y + x) f d = 0) := by
  unfold gL
  rw [if_pos (btw_nI (by omega)), if_pos (btw_nI (by omega)), if_pos (btw_nI (by omega)), if_pos (btw_nI (by omega)), ixn (by omega), ixn (by omega), ixn (by omega), ixn (by omega)]
  by_cases h : rwl r (13 * y + x) f d = 0 <;> simp [h]
theorem tLi_ok {r : Nat → Int32} {x y f d : Nat} (hx : x < 13) (hy : y < 13) (hf : 1 ≤ f ∧ f ≤ 6) (hd : d < 8) : tLi r (nI x) (nI y) (nI f) (nI d) = if rwl r (13 * y + x) f d = 0 then nI 0 else nI 3 := by
  unfold tLi
  rw [if_pos (btw_nI (by omega)), if_pos (btw_nI (by omega)), if_pos (btw_nI (by omega)), if_pos (btw_nI (by omega)), ixn (by omega), ixn (by omega), ixn (by omega), ixn (by omega)]
theorem gP_ok {r : Nat → Int32} {w x y : Nat} (hw : w < 16) (hx : x < 13) (hy : y < 13) : gP r (nI w) (nI x) (nI y) = (!(over r) && !(rcv r w)) := by
  unfold gP
  rw [if_pos (btw_nI (by omega)), if_pos (btw_nI (by omega)), if_pos (btw_nI (by omega)), ixn (by omega)]
  cases over r <;> cases rcv r w <;> rfl
theorem tPu_ok {r : Nat → Int32} {w x y : Nat} (hw : w < 16) (hx : x < 13) (hy : y < 13) : tPu r (nI w) (nI x) (nI y) = if (!(over r) && !(rcv r w)) = true then nI 0 else nI 2 := by
  unfold tPu
  rw [if_pos (btw_nI (by omega)), if_pos (btw_nI (by omega)), if_pos (btw_nI (by omega)), ixn (by omega)]
  cases over r <;> cases rcv r w <;> rfl
theorem stw_mk2 {l : Launch} {D : va_G} {cI cQ cL : ClassId} {ad : Nat → Nat} {yL : MethodName} {bL : ByteArray} {mL : Nat} {hh : List (Nat × Nat × Nat × Nat)} {y6 : MethodName} {b6 : ByteArray} {m6 : Nat} {F : Nat → va_E} {INV : (Nat → va_E) → Prop} {As : List Value} {F1 : Nat → va_E} {o : Nat → Int64} {b : Int32}
    (hML : ML l yL (Cond.codeWith yL bL mL (some .int) hh :: LW) RML D cI cQ cL ad 86 F (.ref (ad 0) :: (As ++ [.ref (ad 85)])) (nI 0) F1 1 6) (ho : F1 85 = .inl (cL, 1, .inr (.inl o))) (hob : o 0 = b.toInt64) {r0 ps0 sl0 sd0 ne0 fa0 bu0 : Nat → Int32} {hs0 : Bool} {st0 ln0 pt0 : Nat} {th0 : Int32} (hR : rfAt cI ad F1 77 r0 ps0 sl0 sd0 ne0 fa0 bu0 hs0 st0 ln0 pt0 th0) {r ps sl sd bu : Nat → Int32} {hs : Bool} {st ln pt : Nat} {rm6 : Room}
    (hM6 : MX l y6 (Cond.code y6 b6 m6 (some .int) :: AW) rm6 D cI cQ cL ad 86 F1 (.ref (ad 77) :: As) (fun v9 G9 => v9 = some (.int b) ∧ ∃ ne9 fa9, G9 = rfSet cI ad F1 77 r ps sl sd ne9 fa9 bu hs st ln pt (nI 0)) 0 0) (e1 : rm6.cells = 0) (e2 : rm6.slots = 0) (e3 : rm6.frames + 1 ≤ 13) (e4 : 8 + (m6 + 11) + rm6.locals ≤ 476) (hINV : ∀ ne9 fa9, INV (rfSet cI ad F1 77 r ps sl sd ne9 fa9 bu hs st ln pt (nI 0))) : STw l D cI cQ cL ad 86 yL bL mL hh y6 b6 m6 F INV As :=
  ⟨0, b, F1, o, _, _, rm6, by decide, ho, fun _ => hob, hML, hR.1, hM6, e1, e2, e3, e4, fun v G hp => by
    obtain ⟨rfl, ne9, fa9, rfl⟩ := hp
    exact ⟨rfl, hINV ne9 fa9, rfSet_out (by omega), r, ps, sl, sd, ne9, fa9, bu, hs, st, ln, pt, rfSet_at⟩⟩
theorem mea_c64 : ∀ p, p < 17 → ∀ n, n < 17 → n64 (FP.f2d (mea p n)) = true ∧ Op.cmpValue (FP.dcmp (FP.f2d (mea p n)) (FP.f2d (mea p n))) .l = 0 := by decide +kernel
theorem pI_ok {r : Nat → Int32} {w d f a : Nat} (hw : w < 16) (hd : d < 8) (hf : 1 ≤ f ∧ f ≤ 9) (ha : a < 2) : pI r (nI w) (nI d) (nI f) (nI a) = if rwn r w = 0 then aBr r w d f a else -1000 := by
  unfold pI
  rw [if_pos (btw_nI (by omega)), if_pos (btw_nI (by omega)), if_pos (btw_nI (by omega)), if_pos (btw_nI (by omega)), ixn (by omega), ixn (by omega), ixn (by omega), ixn (by omega)]
theorem STw_weak {l : Launch} {D : va_G} {cI cQ cL : ClassId} {ad : Nat → Nat} {yL : MethodName} {bL : ByteArray} {mL : Nat} {hh : List (Nat × Nat × Nat × Nat)} {y6 : MethodName} {b6 : ByteArray} {m6 : Nat} {F : Nat → va_E} {INV : (Nat → va_E) → Prop} {As : List Value} (h : STw l D cI cQ cL ad 86 yL bL mL hh y6 b6 m6 F INV As) : STw0 l D cI cQ cL ad 86 yL bL mL hh y6 b6 m6 F INV As := by
  obtain ⟨kk, b, F1, o, fs, post, rm6, h1, h2, h3, h4, h5, h6, h7, h8, h9, h10, h11⟩ := h
  exact ⟨kk, F1, fs, post, rm6, h4, h5, h6, h7, h8, h9, h10, fun v G hp => ⟨⟨b, (h11 v G hp).1⟩, (h11 v G hp).2.1⟩⟩
theorem STwE_weak {l : Launch} {D : va_G} {cI cQ cL : ClassId} {ad : Nat → Nat} {yL : MethodName} {bL : ByteArray} {mL : Nat} {hh : List (Nat × Nat × Nat × Nat)} {y6 : MethodName} {b6 : ByteArray} {m6 : Nat} {F : Nat → va_E} {INV : (Nat → va_E) → Prop} {As : List Value} (h : STwE l D cI cQ cL ad 86 yL bL mL hh y6 b6 m6 F INV As) : STw0E l D cI cQ cL ad 86 yL bL mL hh y6 b6 m6 F INV As := by
  obtain ⟨kk, PG, h1, h2⟩ := h
  refine ⟨kk, PG, h1, fun F1 hp1 => ?_⟩
  obtain ⟨b, o, fs, post, rm6, h3, h4, h5, h6, h7, h8, h9, h10, h11, h12⟩ := h2 F1 hp1
  exact ⟨fs, post, rm6, h6, h7, h8, h9, h10, h11, fun v G hp => ⟨⟨b, (h12 v G hp).1⟩, (h12 v G hp).2.1⟩⟩
theorem STs_weak {l : Launch} {D : va_G} {cI cQ cL : ClassId} {ad : Nat → Nat} {y5 : MethodName} {b5 : ByteArray} {m5 : Nat} {y6 : MethodName} {b6 : ByteArray} {m6 : Nat} {ty : FieldType} {ok : Value → Prop} {F : Nat → va_E} {INV : (Nat → va_E) → Prop} (h : STs l D cI cQ cL ad 86 y5 b5 m5 y6 b6 m6 ty ok F INV) : STs0 l D cI cQ cL ad 86 y5 b5 m5 y6 b6 m6 ty ok F INV := by
  obtain ⟨b, F1, f5, f6, post, rm5, rm6, h1, h2, h3, h4, h5, h6, h7, h8, h9, h10, h11, h12, h13, h14⟩ := h
  exact ⟨b, F1, f5, f6, post, rm5, rm6, h1, h2, h3, h4, h5, h6, h7, h8, h9, h10, h11, h12, h13, fun v G hp => ⟨⟨b, h1, (h14 v G hp).1⟩, (h14 v G hp).2⟩⟩
theorem stw0_mk {l : Launch} {D : va_G} {cI cQ cL : ClassId} {ad : Nat → Nat} {yL : MethodName} {bL : ByteArray} {mL : Nat} {hh : List (Nat × Nat × Nat × Nat)} {y6 : MethodName} {b6 : ByteArray} {m6 : Nat} {F : Nat → va_E} {INV : (Nat → va_E) → Prop} {As : List Value} {kk : Nat} {F1 : Nat → va_E}
    (hML : ML l yL (Cond.codeWith yL bL mL (some .int) hh :: LW) RML D cI cQ cL ad 86 F (.ref (ad 0) :: (As ++ [.ref (ad 85)])) (nI kk) F1 1 6) {r0 ps0 sl0 sd0 ne0 fa0 bu0 : Nat → Int32} {hs0 : Bool} {st0 ln0 pt0 : Nat} {th0 : Int32} (hR : rfAt cI ad F1 77 r0 ps0 sl0 sd0 ne0 fa0 bu0 hs0 st0 ln0 pt0 th0) {b : Int32} {G1 : Nat → va_E} {rm6 : Room}
    (hM6 : MX l y6 (Cond.code y6 b6 m6 (some .int) :: AW) rm6 D cI cQ cL ad 86 F1 (.ref (ad 77) :: As) (dp (some (.int b)) G1) 0 0) (e1 : rm6.cells = 0) (e2 : rm6.slots = 0) (e3 : rm6.frames + 1 ≤ 13) (e4 : 8 + (m6 + 11) + rm6.locals ≤ 476) (hINV : INV G1) : STw0 l D cI cQ cL ad 86 yL bL mL hh y6 b6 m6 F INV As :=
  ⟨kk, F1, _, _, rm6, hML, hR.1, hM6, e1, e2, e3, e4, fun v G hp => by
    obtain ⟨rfl, rfl⟩ := hp
    exact ⟨⟨b, rfl⟩, hINV⟩⟩
theorem sts0_mk {l : Launch} {D : va_G} {cI cQ cL : ClassId} {ad : Nat → Nat} {y5 : MethodName} {b5 : ByteArray} {m5 : Nat} {y6 : MethodName} {b6 : ByteArray} {m6 : Nat} {ty : FieldType} {ok : Value → Prop} {F : Nat → va_E} {INV : (Nat → va_E) → Prop} {b b' : Value} {F1 : Nat → va_E} {f5 : List Value} (h0 : F 0 = .inr (5, f5)) (hok : ok b) (hok2 : ok b') {rm5 rm6 : Room}
    (hM5 : MX l y5 (Cond.code y5 b5 m5 (some ty) :: AW) rm5 D cI cQ cL ad 86 F [.ref (ad 0)] (dp (some b) F1) 0 0) (d1 : rm5.cells = 0) (d2 : rm5.slots = 0) (d3 : rm5.frames + 1 ≤ 13) (d4 : 8 + (m5 + 11) + rm5.locals ≤ 476) {r0 ps0 sl0 sd0 ne0 fa0 bu0 : Nat → Int32} {hs0 : Bool} {st0 ln0 pt0 : Nat} {th0 : Int32} (hR : rfAt cI ad F1 77 r0 ps0 sl0 sd0 ne0 fa0 bu0 hs0 st0 ln0 pt0 th0) {G1 : Nat → va_E}
    (hM6 : MX l y6 (Cond.code y6 b6 m6 (some ty) :: AW) rm6 D cI cQ cL ad 86 F1 [.ref (ad 77)] (dp (some b') G1) 0 0) (e1 : rm6.cells = 0) (e2 : rm6.slots = 0) (e3 : rm6.frames + 1 ≤ 13) (e4 : 8 + (m6 + 11) + rm6.locals ≤ 476) (hINV : INV G1) : STs0 l D cI cQ cL ad 86 y5 b5 m5 y6 b6 m6 ty ok F INV :=
  ⟨b, F1, f5, _, _, rm5, rm6, hok, h0, hM5, d1, d2, d3, d4, hR.1, hM6, e1, e2, e3, e4, fun v G hp => by
    obtain ⟨rfl, rfl⟩ := hp
    exact ⟨⟨b', hok2, rfl⟩, hINV⟩⟩
section INW
variable {cI cQ cL : ClassId} {ad : Nat → Nat} {F G1 : Nat → va_E} {r ps sl sd ne fa bu : Nat → Int32} {hs : Bool} {st ln pt : Nat} {th : Int32}
theorem INV_rf (h : ICl cI cQ ad G1 r ps sl bu hs st ln) (o : Nat → Int64) (h85 : G1 85 = .inl (cL, 1, .inr (.inl o))) : INV cI cQ cL ad (rfSet cI ad G1 77 r ps sl sd ne fa bu hs st ln pt th) :=
  ⟨r, ps, sl, sd, ne, fa, bu, hs, st, ln, pt, th, rfSet_at, ICl_fr h (fun i hi => rfSet_out (by omega)), o, (rfSet_out (by omega)).trans h85⟩
theorem ICl_up {x : va_E} (h : ICl cI cQ ad F r ps sl bu hs st ln) : ICl cI cQ ad (va_up F 85 x) r ps sl bu hs st ln := ICl_fr h (fun i hi => va_up_ne _ _ (by omega))
theorem mv_out {c b v g h j c' b' v' g' h' j' : Nat → Int32} {t u z t' u' z' : Int32} {n9 n1 m1 : Nat} (hn9 : n9 < 6) {i : Nat} (hi : 67 ≤ i) : sSet cI ad (paSet cQ ad (sSet cI ad F (17 + 2 + 8 * n9) c b v g h j t u z) 17 n1 m1) 1 c' b' v' g' h' j' t' u' z' i = F i := by
  rw [sSet_out (by omega), paSet_out (by omega), sSet_out (by omega)]
theorem rf_mv {c b v g h j c' b' v' g' h' j' : Nat → Int32} {t u z t' u' z' : Int32} {n9 n1 m1 : Nat} (hn9 : n9 < 6) (hR : rfAt cI ad F 77 r ps sl sd ne fa bu hs st ln pt th) : rfAt cI ad (sSet cI ad (paSet cQ ad (sSet cI ad F (17 + 2 + 8 * n9) c b v g h j t u z) 17 n1 m1) 1 c' b' v' g' h' j' t' u' z') 77 r ps sl sd ne fa bu hs st ln pt th := rfAt_keep hR (fun i a b => mv_out hn9 (by omega))
theorem ICl_tm {c b v : Nat → Int32} (h : ICl cI cQ ad F r ps sl bu hs st ln) : ICl cI cQ ad (mSet cI F 69 c b v) r ps sl bu hs st ln := by
  obtain ⟨h1, h2, ⟨n9, h3⟩, h4, ⟨⟨c6, b6, v6, m0, m1, m2, m3⟩, a7, d7, q7, h6, h7⟩, h8⟩ := h
  have e : ∀ i, i < 70 ∨ 72 < i → mSet cI F 69 c b v i = F i := fun i hi => mSet_out (by omega)
  exact ⟨SP_fr h1 (fun i a b => e i (by omega)), SNP_fr h2 (fun i a b => e i (by omega)), ⟨n9, RNG_fr h3 (fun i a b => e i (by omega))⟩, TXT_fr h4 (fun i a b => e i (by omega)), ⟨⟨c, b, v, (e 69 (by omega)).trans m0, rfl, rfl, rfl⟩, a7, d7, q7, roAt_keep h6 (fun i a b => e i (by omega)), h7⟩, (e 0 (by omega)).trans h8⟩
theorem rf_tm {c b v : Nat → Int32} (hR : rfAt cI ad F 77 r ps sl sd ne fa bu hs st ln pt th) : rfAt cI ad (mSet cI F 69 c b v) 77 r ps sl sd ne fa bu hs st ln pt th := rfAt_keep hR (fun i a b => mSet_out (by omega))
theorem ICl_ro {a d q : Nat → Int32} (h : ICl cI cQ ad F r ps sl bu hs st ln) (hK : KNa a) : ICl cI cQ ad (roSet cI ad F 73 a d q) r ps sl bu hs st ln := by
  obtain ⟨h1, h2, ⟨n9, h3⟩, h4, ⟨⟨c6, b6, v6, h5⟩, h6⟩, h8⟩ := h
  have e : ∀ i, i < 73 → roSet cI ad F 73 a d q i = F i := fun i hi => roSet_out (by omega)
  exact ⟨SP_fr h1 (fun i a b => e i (by omega)), SNP_fr h2 (fun i a b => e i (by omega)), ⟨n9, RNG_fr h3 (fun i a b => e i (by omega))⟩, TXT_fr h4 (fun i a b => e i (by omega)), ⟨⟨c6, b6, v6, matAt_keep h5 (fun i a b => e i (by omega))⟩, a, d, q, roSet_at, hK⟩, (e 0 (by omega)).trans h8⟩
theorem rf_ro {a d q : Nat → Int32} (hR : rfAt cI ad F 77 r ps sl sd ne fa bu hs st ln pt th) : rfAt cI ad (roSet cI ad F 73 a d q) 77 r ps sl sd ne fa bu hs st ln pt th := rfAt_keep hR (fun i a b => roSet_out (by omega))
theorem ICl_tx {a' bu' : Nat → Int32} {n : Nat} (h : ICl cI cQ ad F r ps sl bu hs st ln) (hn : n ≤ 60) (ha : ∀ x, x < n → a' x = bu' x) : ICl cI cQ ad (gtSet cI ad F 67 a' n) r ps sl bu' hs st n := by
  obtain ⟨h1, h2, ⟨n9, h3⟩, h4, h5, h8⟩ := h
  have e : ∀ i, i < 67 ∨ 68 < i → gtSet cI ad F 67 a' n i = F i := fun i hi => gtSet_out (by omega)
  exact ⟨SP_fr h1 (fun i a b => e i (by omega)), SNP_fr h2 (fun i a b => e i (by omega)), ⟨n9, RNG_fr h3 (fun i a b => e i (by omega))⟩, ⟨hn, a', gtSet_at, ha⟩, OTH_fr h5 (fun i a b => e i (by omega)), (e 0 (by omega)).trans h8⟩
theorem rf_tx {a' : Nat → Int32} {n : Nat} (hR : rfAt cI ad F 77 r ps sl sd ne fa bu hs st ln pt th) : rfAt cI ad (gtSet cI ad F 67 a' n) 77 r ps sl sd ne fa bu hs st ln pt th := rfAt_keep hR (fun i a b => gtSet_out (by omega))
theorem ICl_kp {b v g h j : Nat → Int32} {t : Nat} {u z : Int32} {Np : Nat → Nat} {Wp : Nat → Nat → Nat} (hI : ICl cI cQ ad F r ps sl bu hs st ln) (hp : Pos r b v g h j t u z Np Wp) {c8 b8 v8 g8 h8 j8 : Nat → Int32} {t8 u8 z8 : Int32} (hSn : stAt cI ad F 9 c8 b8 v8 g8 h8 j8 t8 u8 z8) : ICl cI cQ ad (va_up (sSet cI ad F 9 r b v g h j (nI t) u z) 0 (.inr (5, [.ref (ad 1), .ref (ad 9), .ref (ad 17), .ref (ad 67), .ref (ad 69), .ref (ad 73), .int (bI true)]))) r ps r bu true st ln := by
  obtain ⟨h1, h2, ⟨n9, h3⟩, h4, h5, h8⟩ := hI
  have e0 : ∀ i, 0 < i → va_up (sSet cI ad F 9 r b v g h j (nI t) u z) 0 (.inr (5, [.ref (ad 1), .ref (ad 9), .ref (ad 17), .ref (ad 67), .ref (ad 69), .ref (ad 73), .int (bI true)])) i = sSet cI ad F 9 r b v g h j (nI t) u z i := fun i hi => va_up_ne _ _ (by omega)
  have e : ∀ i, 0 < i → i < 9 ∨ 16 < i → va_up (sSet cI ad F 9 r b v g h j (nI t) u z) 0 (.inr (5, [.ref (ad 1), .ref (ad 9), .ref (ad 17), .ref (ad 67), .ref (ad 69), .ref (ad 73), .int (bI true)])) i = F i := fun i h0 hi => (e0 i h0).trans (sSet_out (by omega))
  have hS : SP cI ad (va_up (sSet cI ad F 9 r b v g h j (nI t) u z) 0 (.inr (5, [.ref (ad 1), .ref (ad 9), .ref (ad 17), .ref (ad 67), .ref (ad 69), .ref (ad 73), .int (bI true)]))) 9 r := ⟨r, b, v, g, h, j, t, u, z, Np, Wp, stAt_keep (sSet_at hSn) (fun i a b => e0 i (by omega)), hp, fun _ _ => rfl⟩
  exact ⟨SP_fr h1 (fun i a b => e i (by omega) (by omega)), ⟨⟨r, hS⟩, fun _ => hS⟩, ⟨n9, RNG_fr h3 (fun i a b => e i (by omega) (by omega))⟩, TXT_fr h4 (fun i a b => e i (by omega) (by omega)), OTH_fr h5 (fun i a b => e i (by omega) (by omega)), va_up_self _ _ _⟩
theorem rf_kp {c b v g h j : Nat → Int32} {t u z : Int32} {x : va_E} (hR : rfAt cI ad F 77 r ps sl sd ne fa bu hs st ln pt th) : rfAt cI ad (va_up (sSet cI ad F 9 c b v g h j t u z) 0 x) 77 r ps sl sd ne fa bu hs st ln pt th := rfAt_keep hR (fun i a b => (va_up_ne _ _ (by omega)).trans (sSet_out (by omega)))
theorem ICl_un {c b v g h j c' b' v' g' h' j' : Nat → Int32} {t u z u' z' : Int32} {t' n9 : Nat} {Np : Nat → Nat} {Wp : Nat → Nat → Nat} (hI : ICl cI cQ ad F r ps sl bu hs st ln) (hN : stAt cI ad F 1 c b v g h j t u z) (hRg : RNG cI cQ ad F ps st n9) (hs1 : 1 ≤ st) (hp : Pos (fun x => ps (60 * (st - 1) + x)) b' v' g' h' j' t' u' z' Np Wp) (hc : ∀ x, x < 16 → c' x = ps (60 * (st - 1) + x)) : ICl cI cQ ad (sSet cI ad (paSet cQ ad F 17 ((n9 + 6 - 1) % 6) (st - 1)) 1 c' b' v' g' h' j' (nI t') u' z') (fun x => ps (60 * (st - 1) + x)) ps sl bu hs (st - 1) ln := by
  obtain ⟨h1, h2, -, h4, h5, h8⟩ := hI
  obtain ⟨g1, g2, g3, g4, g5⟩ := hRg
  have e : ∀ i, i < 1 ∨ 8 < i → i < 17 ∨ 18 < i → sSet cI ad (paSet cQ ad F 17 ((n9 + 6 - 1) % 6) (st - 1)) 1 c' b' v' g' h' j' (nI t') u' z' i = F i := fun i a1 a2 => by rw [sSet_out (by omega), paSet_out (by omega)]
  refine ⟨⟨c', b', v', g', h', j', t', u', z', Np, Wp, sSet_at (stAt_keep hN (fun i a1 a2 => paSet_out (by omega))), hp, hc⟩, SNP_fr h2 (fun i a b => e i (by omega) (by omega)), ⟨(n9 + 6 - 1) % 6, Nat.mod_lt _ (by decide), by omega, paAt_keep (paSet_at (F := F)) (fun i a1 a2 => sSet_out (by omega)), fun i hi => ?_, fun k hk => ?_⟩, TXT_fr h4 (fun i a b => e i (by omega) (by omega)), OTH_fr h5 (fun i a b => e i (by omega) (by omega)), (e 0 (by omega) (by omega)).trans h8⟩
  · obtain ⟨R, hR⟩ := g4 i hi
    exact ⟨R, SP_fr hR (fun i a b => e i (by omega) (by omega))⟩
  · have hq := g5 k (by omega)
    rw [show ((n9 + 6 - 1) % 6 + 6 - (st - 1 - k)) % 6 = (n9 + 6 - (st - k)) % 6 by omega]
    exact SP_fr hq (fun i a b => e i (by omega) (by omega))
theorem un_out {c' b' v' g' h' j' : Nat → Int32} {t' u' z' : Int32} {n1 m1 : Nat} {i : Nat} (hi : 67 ≤ i) : sSet cI ad (paSet cQ ad F 17 n1 m1) 1 c' b' v' g' h' j' t' u' z' i = F i := by
  rw [sSet_out (by omega), paSet_out (by omega)]
theorem rf_un {c' b' v' g' h' j' : Nat → Int32} {t' u' z' : Int32} {n1 m1 : Nat} (hR : rfAt cI ad F 77 r ps sl sd ne fa bu hs st ln pt th) : rfAt cI ad (sSet cI ad (paSet cQ ad F 17 n1 m1) 1 c' b' v' g' h' j' t' u' z') 77 r ps sl sd ne fa bu hs st ln pt th := rfAt_keep hR (fun i a b => un_out (by omega))
/-- the same, the class's cells being the row -/
def IN1 (cI cQ cL : ClassId) (ad : Nat → Nat) (F : Nat → va_E) : Prop := ∃ (r ps sl sd ne fa bu : Nat → Int32) (hs : Bool) (st ln pt : Nat) (th : Int32), rfAt cI ad F 77 r ps sl sd ne fa bu hs st ln pt th ∧ (∃ (b v g h j : Nat → Int32) (t : Nat) (u z : Int32) (Np : Nat → Nat) (Wp : Nat → Nat → Nat), stAt cI ad F 1 r b v g h j (nI t) u z ∧ Pos r b v g h j t u z Np Wp) ∧ ICl cI cQ ad F r ps sl bu hs st ln ∧ ∃ o, F 85 = .inl (cL, 1, .inr (.inl o))
theorem INV_IN1 (H : INV cI cQ cL ad F) : ∃ F', eqv 86 F F' ∧ F' 0 = F 0 ∧ IN1 cI cQ cL ad F' := by
  obtain ⟨r, ps, sl, sd, ne, fa, bu, hs, st, ln, pt, th, hR, ⟨⟨c, b, v, g, h, j, t, u, z, Np, Wp, hN, HP, hc⟩, h2, ⟨n9, h3⟩, h4, h5, h8⟩, o, h85⟩ := H
  have e : ∀ i, i < 1 ∨ 8 < i → sSet cI ad F 1 r b v g h j (nI t) u z i = F i := fun i hi => sSet_out (by omega)
  refine ⟨sSet cI ad F 1 r b v g h j (nI t) u z, fun k hk => ?_, e 0 (by omega), r, ps, sl, sd, ne, fa, bu, hs, st, ln, pt, th, rfAt_keep hR (fun i a b => e i (by omega)), ⟨b, v, g, h, j, t, u, z, Np, Wp, sSet_at hN, HP⟩, ⟨⟨r, b, v, g, h, j, t, u, z, Np, Wp, sSet_at hN, HP, fun _ _ => rfl⟩, SNP_fr h2 (fun i a b => e i (by omega)), ⟨n9, RNG_fr h3 (fun i a b => e i (by omega))⟩, TXT_fr h4 (fun i a b => e i (by omega)), OTH_fr h5 (fun i a b => e i (by omega)), (e 0 (by omega)).trans h8⟩, o, (e 85 (by omega)).trans h85⟩
  by_cases hk3 : k = 1 + 1 + 1
  · subst hk3
    exact Or.inr ⟨cI, 16, c, r, hN.2.1.2.1, (sSet_at (c' := r) (b' := b) (v' := v) (g' := g) (h' := h) (j' := j) (t' := nI t) (u' := u) (z' := z) hN).2.1.2.1, hc⟩
  · refine Or.inl ?_
    have hs9 := congrFun (sSet_self hN) k
    rw [← hs9]
    unfold sSet mSet
    simp only [hk3, if_false]
end INW
end
/-! from moves -/
section
/-! the calls anywhere in a game -/
theorem hgt_cong9 {c c' : Nat → Int32} {q : Int32} (h : ∀ x, x < 16 → c x = c' x) : hgt c q = hgt c' q := cnt_cong (fun i hi => by rw [h i hi])
theorem app_ok {a bu : Nat → Int32} {ln : Nat} {x : Int32} (h : ∀ y, y < ln → a y = bu y) (y : Nat) (hy : y < ln + 1) : upd a ln x y = upd bu ln x y := by
  by_cases e : y = ln
  · rw [e, upd_at9, upd_at9]
  · rw [upd_ne9 e, upd_ne9 e]
    exact h y (by omega)
theorem tX6_fly_x (l : Launch) (D : va_G) (cI cQ cL : ClassId) (ad : Nat → Nat) (N : Nat) (F : Nat → va_E) (k : Nat) (hk : k + 7 < N) (r ps sl sd ne fa bu : Nat → Int32) (hs : Bool) (st ln pt : Nat) (th : Int32) (hR : rfAt cI ad F k r ps sl sd ne fa bu hs st ln pt th) (x y z : Int32) (hst6 : st ≤ 6) (hrk : rok r) (hg : gF r x y z = false) : MX l yX6_fly (Cond.code yX6_fly cX6_fly 4 (some .int) :: AW) ({ frames := 5, cells := 0, slots := 0, locals := 109 } : Room) D cI cQ cL ad N F [.ref (ad k), .int x, .int y, .int z] (dp (some (.int (nI 0))) (rfSet cI ad F k r ps sl sd ne fa bu hs st ln pt (tF r x y z))) 0 0 := by
  have h6 := tX6_fly l D cI cQ cL ad N F k hk r ps sl sd ne fa bu hs st ln pt th hR x y z hst6 hrk
  simp only [hg, Bool.false_eq_true, if_false] at h6
  exact h6
theorem tX6_lift_x (l : Launch) (D : va_G) (cI cQ cL : ClassId) (ad : Nat → Nat) (N : Nat) (F : Nat → va_E) (k : Nat) (hk : k + 7 < N) (r ps sl sd ne fa bu : Nat → Int32) (hs : Bool) (st ln pt : Nat) (th : Int32) (hR : rfAt cI ad F k r ps sl sd ne fa bu hs st ln pt th) (x y z z2 : Int32) (hst6 : st ≤ 6) (hrk : rok r) (hg : gL r x y z z2 = false) : MX l yX6_lift (Cond.code yX6_lift cX6_lift 5 (some .int) :: AW) ({ frames := 5, cells := 0, slots := 0, locals := 110 } : Room) D cI cQ cL ad N F [.ref (ad k), .int x, .int y, .int z, .int z2] (dp (some (.int (nI 0))) (rfSet cI ad F k r ps sl sd ne fa bu hs st ln pt (tLi r x y z z2))) 0 0 := by
  have h6 := tX6_lift l D cI cQ cL ad N F k hk r ps sl sd ne fa bu hs st ln pt th hR x y z z2 hst6 hrk
  simp only [hg, Bool.false_eq_true, if_false] at h6
  exact h6
theorem tX6_put_x (l : Launch) (D : va_G) (cI cQ cL : ClassId) (ad : Nat → Nat) (N : Nat) (F : Nat → va_E) (k : Nat) (hk : k + 7 < N) (r ps sl sd ne fa bu : Nat → Int32) (hs : Bool) (st ln pt : Nat) (th : Int32) (hR : rfAt cI ad F k r ps sl sd ne fa bu hs st ln pt th) (x y z : Int32) (hst6 : st ≤ 6) (hg : gP r x y z = false) : MX l yX6_put (Cond.code yX6_put cX6_put 4 (some .int) :: AW) ({ frames := 3, cells := 0, slots := 0, locals := 64 } : Room) D cI cQ cL ad N F [.ref (ad k), .int x, .int y, .int z] (dp (some (.int (nI 0))) (rfSet cI ad F k r ps sl sd ne fa bu hs st ln pt (tPu r x y z))) 0 0 := by
  have h6 := tX6_put l D cI cQ cL ad N F k hk r ps sl sd ne fa bu hs st ln pt th hR x y z hst6
  simp only [hg, Bool.false_eq_true, if_false] at h6
  exact h6
theorem tX6_set_x (l : Launch) (D : va_G) (cI cQ cL : ClassId) (ad : Nat → Nat) (N : Nat) (F : Nat → va_E) (k : Nat) (hk : k + 7 < N) (r ps sl sd ne fa bu : Nat → Int32) (hs : Bool) (st ln pt : Nat) (th : Int32) (hR : rfAt cI ad F k r ps sl sd ne fa bu hs st ln pt th) (x : Int32) (hst6 : st ≤ 6) (hg : gS x = false) : MX l yX6_set (Cond.code yX6_set cX6_set 3 (some .int) :: AW) ({ frames := 1, cells := 0, slots := 0, locals := 22 } : Room) D cI cQ cL ad N F [.ref (ad k), .int x] (dp (some (.int (nI 0))) (rfSet cI ad F k r ps sl sd ne fa bu hs st ln pt (nI 1))) 0 0 := by
  have h6 := tX6_set l D cI cQ cL ad N F k hk r ps sl sd ne fa bu hs st ln pt th hR x hst6
  simp only [hg, Bool.false_eq_true, if_false] at h6
  exact h6
theorem tX6_fly_n (l : Launch) (D : va_G) (cI cQ cL : ClassId) (ad : Nat → Nat) (N : Nat) (F : Nat → va_E) (k : Nat) (hk : k + 7 < N) (r ps sl sd ne fa bu : Nat → Int32) (hs : Bool) (st ln pt : Nat) (th : Int32) (hR : rfAt cI ad F k r ps sl sd ne fa bu hs st ln pt th) {w d f t : Nat} (hst6 : st ≤ 6) (hrk : rok r) (hw : w < 16) (hd : d < 8) (hf : 1 ≤ f ∧ f ≤ 9) (ht : ix (r 56) = t) (hwn : rwn r w = 0) : MX l yX6_fly (Cond.code yX6_fly cX6_fly 4 (some .int) :: AW) ({ frames := 5, cells := 0, slots := 0, locals := 109 } : Room) D cI cQ cL ad N F [.ref (ad k), .int (nI w), .int (nI d), .int (nI f)] (dp (some (.int (fans (flE r w (nI d) f)))) (rfSet cI ad F k (rfx r w (flE r w (nI d) f) t) (rcP ps r st) sl sd ne fa bu hs (rcS st) ln pt (nI 0))) 0 0 := by
  have h6 := tX6_fly l D cI cQ cL ad N F k hk r ps sl sd ne fa bu hs st ln pt th hR (nI w) (nI d) (nI f) hst6 hrk
  have hg : gF r (nI w) (nI d) (nI f) = true := gF_t (btw_nI (by omega)) (btw_nI (by omega)) (btw_nI (by omega)) (by rw [ixn (by omega)]; exact hwn)
  have ht2 : tF r (nI w) (nI d) (nI f) = nI 0 := by
    unfold tF
    rw [if_pos (btw_nI (by omega)), if_pos (btw_nI (by omega)), if_pos (btw_nI (by omega)), ixn (by omega), if_pos hwn]
  simp only [hg, if_true, ht2, ht] at h6
  rw [ixn (show w < 2 ^ 31 by omega), ixn (show d < 2 ^ 31 by omega), ixn (show f < 2 ^ 31 by omega)] at h6
  exact h6
theorem tX6_lift_n (l : Launch) (D : va_G) (cI cQ cL : ClassId) (ad : Nat → Nat) (N : Nat) (F : Nat → va_E) (k : Nat) (hk : k + 7 < N) (r ps sl sd ne fa bu : Nat → Int32) (hs : Bool) (st ln pt : Nat) (th : Int32) (hR : rfAt cI ad F k r ps sl sd ne fa bu hs st ln pt th) {x y f d t : Nat} (hst6 : st ≤ 6) (hrk : rok r) (hx : x < 13) (hy : y < 13) (hf : 1 ≤ f ∧ f ≤ 6) (hd : d < 8) (ht : ix (r 56) = t) (hwn : rwl r (13 * y + x) f d = 0) : MX l yX6_lift (Cond.code yX6_lift cX6_lift 5 (some .int) :: AW) ({ frames := 5, cells := 0, slots := 0, locals := 110 } : Room) D cI cQ cL ad N F [.ref (ad k), .int (nI x), .int (nI y), .int (nI f), .int (nI d)] (dp (some (.int (nI (hgt r (nI (13 * y + x)) - f)))) (rfSet cI ad F k (rlx r (13 * y + x) f d t) (rcP ps r st) sl sd ne fa bu hs (rcS st) ln pt (nI 0))) 0 0 := by
  have h6 := tX6_lift l D cI cQ cL ad N F k hk r ps sl sd ne fa bu hs st ln pt th hR (nI x) (nI y) (nI f) (nI d) hst6 hrk
  have hg : gL r (nI x) (nI y) (nI f) (nI d) = true := by rw [gL_ok hx hy hf hd, hwn]; rfl
  have ht2 : tLi r (nI x) (nI y) (nI f) (nI d) = nI 0 := by rw [tLi_ok hx hy hf hd, if_pos hwn]
  simp only [hg, if_true, ht2, ht] at h6
  rw [ixn (show x < 2 ^ 31 by omega), ixn (show y < 2 ^ 31 by omega), ixn (show f < 2 ^ 31 by omega), ixn (show d < 2 ^ 31 by omega)] at h6
  exact h6
theorem tX6_put_n (l : Launch) (D : va_G) (cI cQ cL : ClassId) (ad : Nat → Nat) (N : Nat) (F : Nat → va_E) (k : Nat) (hk : k + 7 < N) (r ps sl sd ne fa bu : Nat → Int32) (hs : Bool) (st ln pt : Nat) (th : Int32) (hR : rfAt cI ad F k r ps sl sd ne fa bu hs st ln pt th) {w x y : Nat} (hst6 : st ≤ 6) (hw : w < 16) (hx : x < 13) (hy : y < 13) (hov : over r = false) (hcv : rcv r w = false) : MX l yX6_put (Cond.code yX6_put cX6_put 4 (some .int) :: AW) ({ frames := 3, cells := 0, slots := 0, locals := 64 } : Room) D cI cQ cL ad N F [.ref (ad k), .int (nI w), .int (nI x), .int (nI y)] (dp (some (.int (nI (hgt (rly r w (nI (13 * y + x))) (nI (13 * y + x)))))) (rfSet cI ad F k (rly r w (nI (13 * y + x))) (rcP ps r st) sl sd ne fa bu hs (rcS st) ln pt (nI 0))) 0 0 := by
  have h6 := tX6_put l D cI cQ cL ad N F k hk r ps sl sd ne fa bu hs st ln pt th hR (nI w) (nI x) (nI y) hst6
  have hb : (!(over r) && !(rcv r w)) = true := by rw [hov, hcv]; rfl
  have hg : gP r (nI w) (nI x) (nI y) = true := (gP_ok hw hx hy).trans hb
  have ht2 : tPu r (nI w) (nI x) (nI y) = nI 0 := by rw [tPu_ok hw hx hy, if_pos hb]
  simp only [hg, if_true, ht2] at h6
  rw [ixn (show w < 2 ^ 31 by omega), pk_mul, nI_add] at h6
  exact h6
theorem tX6_set_n (l : Launch) (D : va_G) (cI cQ cL : ClassId) (ad : Nat → Nat) (N : Nat) (F : Nat → va_E) (k : Nat) (hk : k + 7 < N) (r ps sl sd ne fa bu : Nat → Int32) (hs : Bool) (st ln pt : Nat) (th : Int32) (hR : rfAt cI ad F k r ps sl sd ne fa bu hs st ln pt th) (x : Int32) (hst6 : st ≤ 6) (hx : btw x (nI 1) (nI 6) = true) : MX l yX6_set (Cond.code yX6_set cX6_set 3 (some .int) :: AW) ({ frames := 1, cells := 0, slots := 0, locals := 22 } : Room) D cI cQ cL ad N F [.ref (ad k), .int x] (dp (some (.int (r 57))) (rfSet cI ad F k (upd r 57 x) (rcP ps r st) sl sd ne fa bu hs (rcS st) ln pt (nI 0))) 0 0 := by
  have h6 := tX6_set l D cI cQ cL ad N F k hk r ps sl sd ne fa bu hs st ln pt th hR x hst6
  have hg : gS x = true := hx
  simp only [hg, if_true] at h6
  exact h6
theorem tX6_append_n (l : Launch) (D : va_G) (cI cQ cL : ClassId) (ad : Nat → Nat) (N : Nat) (F : Nat → va_E) (k : Nat) (hk : k + 7 < N) (r ps sl sd ne fa bu : Nat → Int32) (hs : Bool) (st ln pt : Nat) (th : Int32) (hR : rfAt cI ad F k r ps sl sd ne fa bu hs st ln pt th) (x : Int32) (hln : ln < 60) (hx : btw x (nI 33) (nI 126) = true) : MX l yX6_append (Cond.code yX6_append cX6_append 2 (some .int) :: AW) ({ frames := 1, cells := 0, slots := 0, locals := 22 } : Room) D cI cQ cL ad N F [.ref (ad k), .int x] (dp (some (.int (nI (ln + 1)))) (rfSet cI ad F k r ps sl sd ne fa (upd bu ln x) hs st (ln + 1) pt (nI 0))) 0 0 := by
  have h6 := tX6_append l D cI cQ cL ad N F k hk r ps sl sd ne fa bu hs st ln pt th hR x (by omega)
  have hg : decide (ln = 60) = false := decide_eq_false (by omega)
  simp only [hx, hg, Bool.not_false, Bool.and_self, if_true] at h6
  rw [if_neg (show ¬ ln = 60 by omega)] at h6
  exact h6
theorem tX6_append_x (l : Launch) (D : va_G) (cI cQ cL : ClassId) (ad : Nat → Nat) (N : Nat) (F : Nat → va_E) (k : Nat) (hk : k + 7 < N) (r ps sl sd ne fa bu : Nat → Int32) (hs : Bool) (st ln pt : Nat) (th : Int32) (hR : rfAt cI ad F k r ps sl sd ne fa bu hs st ln pt th) (x : Int32) (hln : ln ≤ 60) (hg : (btw x (nI 33) (nI 126) && !(decide (ln = 60))) = false) : MX l yX6_append (Cond.code yX6_append cX6_append 2 (some .int) :: AW) ({ frames := 1, cells := 0, slots := 0, locals := 22 } : Room) D cI cQ cL ad N F [.ref (ad k), .int x] (dp (some (.int (nI 0))) (rfSet cI ad F k r ps sl sd ne fa bu hs st ln pt (if btw x (nI 33) (nI 126) = true then (if ln = 60 then nI 2 else nI 0) else nI 1))) 0 0 := by
  have h6 := tX6_append l D cI cQ cL ad N F k hk r ps sl sd ne fa bu hs st ln pt th hR x hln
  simp only [hg, Bool.false_eq_true, if_false] at h6
  exact h6
set_option maxRecDepth 100000 in
theorem in_fly (l : Launch) (hst : l.stackTraces = false) (D : va_G) (cI cQ cL : ClassId) (ad : Nat → Nat) (F : Nat → va_E) (H : IN1 cI cQ cL ad F) (x y z : Int32) : STw l D cI cQ cL ad 86 yL_fly cL_fly 6 [(0, 12, 15, 13), (0, 12, 19, 15), (0, 12, 23, 17)] yX6_fly cX6_fly 4 F (INV cI cQ cL ad) [.int x, .int y, .int z] := by
  obtain ⟨r, ps, sl, sd, ne, fa, bu, hs, st, ln, pt, th, hR, ⟨bB, vB, gB, hB, jB, tB, uB, zB, Np, Wp, hN, HP⟩, hI, o85, h85⟩ := H
  obtain ⟨-, ⟨⟨R8, c8, b8, v8, g8, h8, j8, t8, u8, z8, N8, W8, hSn, hP8, hc8⟩, hSnp⟩, ⟨n9, hRg⟩, ⟨hln, aT, hT, haT⟩, ⟨⟨c6, b6, v6, hM6⟩, a7, d7, q7, hO, hKN⟩, hC⟩ := id hI
  obtain ⟨hn9, hst6, hPa, hri, hrk⟩ := id hRg
  obtain ⟨Rr, cr, br, vr, gr, hr9, jr, tr, ur, zr, Nr, Wr, hRi, hRp, hRc⟩ := hri n9 hn9
  have hC : F 0 = .inr (5, [.ref (ad 1), .ref (ad 9), .ref (ad 17), .ref (ad 67), .ref (ad 69), .ref (ad 73), .int (bI hs)]) := hC
  have htB := HP.tlt
  by_cases hx : wk x = true
  · obtain ⟨w, hw, rfl⟩ := wk_of hx
    have hb := (btw_wk _).trans hx
    by_cases hd : btw y (nI 0) (nI 7) = true
    · by_cases hf : btw z (nI 1) (nI 9) = true
      · obtain ⟨d, rfl, -, hd7⟩ := btw_of (by decide) (by decide) hd
        obtain ⟨f, rfl, hf1, hf2⟩ := btw_of (by decide) (by decide) hf
        have hwe := HP.wnfN hw
        by_cases hwn : wnf r vB tB w = 0
        · have hwr : rwn r w = 0 := by rw [← hwe]; exact hwn
          have hp9 := (wnf_0 hwn).2.2.1
          obtain ⟨N', W', HP', hc'⟩ := HP.fly hw hwn (ldg_q HP hw hp9 (nI d) (stp w f))
          exact stw_mk 0 (by decide) (tL_fly l D cI cQ cL ad 86 F (by decide) _ hC (nI w) (nI d) (nI f) _ _ ((mv_out hn9 (by decide)).trans h85) _ (tX5_fly l D cI cQ cL ad 86 F (by decide) r bB vB gB hB jB tB uB zB hN c8 b8 v8 g8 h8 j8 t8 u8 z8 hSn n9 st hn9 hst6 hPa aT ln hln hT c6 b6 v6 hM6 a7 d7 q7 hO hs hC cr br vr gr hr9 jr tr ur zr hRi htB (nI w) w rfl hw (nI d) hd (nI f) f rfl ⟨hf1, hf2⟩ hwn) rfl rfl (by decide) (by decide)) (va_up_self _ _ _) (fun _ => by rw [pk_uLs]) (rf_up (rf_mv hn9 hR)) (tX6_fly_n l D cI cQ cL ad 86 _ 77 (by decide) r ps sl sd ne fa bu hs st ln pt th (rf_up (rf_mv hn9 hR)) hst6 HP.rok hw (by omega) ⟨hf1, hf2⟩ (HP.t_of (wnf_0 hwn).1).1 hwr) (rfl) rfl rfl (by decide) (by decide) (INV_rf (ICl_up (ICl_mv hI hN HP (fun _ _ => rfl) hRg HP' hc')) _ (va_up_self _ _ _))
        · exact stw_mk 3 (by decide) (tL_fly_x l D cI cQ cL ad 86 F (by decide) _ hC (nI w) (nI d) (nI f) eS 3 (Or.inr (Or.inr ⟨rfl, rfl⟩)) (tX5_flyX_b4 l hst D cI cQ cL ad 86 F (by decide) r bB vB gB hB jB tB uB zB hN c8 b8 v8 g8 h8 j8 t8 u8 z8 hSn n9 st hn9 hst6 hPa aT ln hln hT c6 b6 v6 hM6 a7 d7 q7 hO hs hC htB (nI w) w rfl hw (nI d) hd (nI f) f rfl ⟨hf1, hf2⟩ hwn) rfl rfl (by decide) (by decide)) h85 (fun h => absurd h (by decide)) hR (tX6_fly_x l D cI cQ cL ad 86 _ 77 (by decide) r ps sl sd ne fa bu hs st ln pt th hR (nI w) (nI d) (nI f) hst6 HP.rok (by simp only [gF, hb, hd, hf, if_true]; rw [if_neg (by rw [ixn (by omega), ← hwe]; exact hwn)])) (by simp only [tF, hb, hd, hf, if_true]; rw [if_neg (by rw [ixn (by omega), ← hwe]; exact hwn)]) rfl rfl (by decide) (by decide) (INV_rf hI _ h85)
      · have hf := btw_f hf
        exact stw_mk 2 (by decide) (tL_fly_x l D cI cQ cL ad 86 F (by decide) _ hC (nI w) y z eA 2 (Or.inr (Or.inl ⟨rfl, rfl⟩)) (tX5_flyX_b3 l hst D cI cQ cL ad 86 F (by decide) r bB vB gB hB jB tB uB zB hN c8 b8 v8 g8 h8 j8 t8 u8 z8 hSn n9 st hn9 hst6 hPa aT ln hln hT c6 b6 v6 hM6 a7 d7 q7 hO hs hC (nI w) w rfl hw y z hd hf) rfl rfl (by decide) (by decide)) h85 (fun h => absurd h (by decide)) hR (tX6_fly_x l D cI cQ cL ad 86 _ 77 (by decide) r ps sl sd ne fa bu hs st ln pt th hR (nI w) y z hst6 HP.rok (by simp [gF, hb, hd, hf])) (by simp [tF, hb, hd, hf]) rfl rfl (by decide) (by decide) (INV_rf hI _ h85)
    · have hd := btw_f hd
      exact stw_mk 2 (by decide) (tL_fly_x l D cI cQ cL ad 86 F (by decide) _ hC (nI w) y z eA 2 (Or.inr (Or.inl ⟨rfl, rfl⟩)) (tX5_flyX_b2 l hst D cI cQ cL ad 86 F (by decide) r bB vB gB hB jB tB uB zB hN c8 b8 v8 g8 h8 j8 t8 u8 z8 hSn n9 st hn9 hst6 hPa aT ln hln hT c6 b6 v6 hM6 a7 d7 q7 hO hs hC (nI w) w rfl hw y z hd) rfl rfl (by decide) (by decide)) h85 (fun h => absurd h (by decide)) hR (tX6_fly_x l D cI cQ cL ad 86 _ 77 (by decide) r ps sl sd ne fa bu hs st ln pt th hR (nI w) y z hst6 HP.rok (by simp [gF, hb, hd])) (by simp [tF, hb, hd]) rfl rfl (by decide) (by decide) (INV_rf hI _ h85)
  · have hx := bool_f hx
    have hb := (btw_wk _).trans hx
    exact stw_mk 1 (by decide) (tL_fly_x l D cI cQ cL ad 86 F (by decide) _ hC x y z eI 1 (Or.inl ⟨rfl, rfl⟩) (tX5_flyX_b1 l hst D cI cQ cL ad 86 F (by decide) r bB vB gB hB jB tB uB zB hN c8 b8 v8 g8 h8 j8 t8 u8 z8 hSn n9 st hn9 hst6 hPa aT ln hln hT c6 b6 v6 hM6 a7 d7 q7 hO hs hC x y z hx) rfl rfl (by decide) (by decide)) h85 (fun h => absurd h (by decide)) hR (tX6_fly_x l D cI cQ cL ad 86 _ 77 (by decide) r ps sl sd ne fa bu hs st ln pt th hR x y z hst6 HP.rok (by simp [gF, hb])) (by simp [tF, hb]) rfl rfl (by decide) (by decide) (INV_rf hI _ h85)
set_option maxRecDepth 100000 in
theorem in_lift (l : Launch) (hst : l.stackTraces = false) (D : va_G) (cI cQ cL : ClassId) (ad : Nat → Nat) (F : Nat → va_E) (H : IN1 cI cQ cL ad F) (x y z z2 : Int32) : STw l D cI cQ cL ad 86 yL_lift cL_lift 7 [(0, 14, 17, 13), (0, 14, 21, 15), (0, 14, 25, 17)] yX6_lift cX6_lift 5 F (INV cI cQ cL ad) [.int x, .int y, .int z, .int z2] := by
  obtain ⟨r, ps, sl, sd, ne, fa, bu, hs, st, ln, pt, th, hR, ⟨bB, vB, gB, hB, jB, tB, uB, zB, Np, Wp, hN, HP⟩, hI, o85, h85⟩ := H
  obtain ⟨-, ⟨⟨R8, c8, b8, v8, g8, h8, j8, t8, u8, z8, N8, W8, hSn, hP8, hc8⟩, hSnp⟩, ⟨n9, hRg⟩, ⟨hln, aT, hT, haT⟩, ⟨⟨c6, b6, v6, hM6⟩, a7, d7, q7, hO, hKN⟩, hC⟩ := id hI
  obtain ⟨hn9, hst6, hPa, hri, hrk⟩ := id hRg
  obtain ⟨Rr, cr, br, vr, gr, hr9, jr, tr, ur, zr, Nr, Wr, hRi, hRp, hRc⟩ := hri n9 hn9
  have hC : F 0 = .inr (5, [.ref (ad 1), .ref (ad 9), .ref (ad 17), .ref (ad 67), .ref (ad 69), .ref (ad 73), .int (bI hs)]) := hC
  have htB := HP.tlt
  by_cases h1 : btw x (nI 0) (nI 12) = true
  · by_cases h2 : btw y (nI 0) (nI 12) = true
    · have hon := on_tt h1 h2
      obtain ⟨a, rfl, -, ha⟩ := btw_of (by decide) (by decide) h1
      obtain ⟨b, rfl, -, hb⟩ := btw_of (by decide) (by decide) h2
      by_cases h3 : btw z (nI 1) (nI 6) = true
      · obtain ⟨f, rfl, hf1, hf2⟩ := btw_of (by decide) (by decide) h3
        by_cases h4 : btw z2 (nI 0) (nI 7) = true
        · obtain ⟨d, rfl, -, hd⟩ := btw_of (by decide) (by decide) h4
          have hwr := HP.why (d := d) (show a < 13 by omega) (show b < 13 by omega) hf1
          by_cases hwn : wnl r bB vB tB zB (nI a) (nI b) f (nI d) = 0
          · have hwn6 : rwl r (13 * b + a) f d = 0 := by rw [← hwr]; exact hwn
            obtain ⟨N', W', HP', hc', hga⟩ := HP.lift (show a < 13 by omega) (show b < 13 by omega) ⟨hf1, hf2⟩ (show d < 8 by omega) hwn6
            have hov : over r = false := by
              unfold rwl at hwn6
              by_cases h9 : over r = true
              · rw [if_pos h9] at hwn6; omega
              · exact bool_f h9
            exact stw_mk 0 (by decide) (tL_lift l D cI cQ cL ad 86 F (by decide) _ hC (nI a) (nI b) (nI f) (nI d) _ _ ((mv_out hn9 (by decide)).trans h85) _ (tX5_lift l D cI cQ cL ad 86 F (by decide) r bB vB gB hB jB tB uB zB hN c8 b8 v8 g8 h8 j8 t8 u8 z8 hSn n9 st hn9 hst6 hPa aT ln hln hT c6 b6 v6 hM6 a7 d7 q7 hO hs hC cr br vr gr hr9 jr tr ur zr hRi htB (nI a) (nI b) (nI f) f rfl ⟨hf1, hf2⟩ (nI d) h4 hon hwn) rfl rfl (by decide) (by decide)) (va_up_self _ _ _) (fun _ => by rw [pk_uLs]; rw [hga]) (rf_up (rf_mv hn9 hR)) (tX6_lift_n l D cI cQ cL ad 86 _ 77 (by decide) r ps sl sd ne fa bu hs st ln pt th (rf_up (rf_mv hn9 hR)) hst6 HP.rok (by omega) (by omega) ⟨hf1, hf2⟩ (by omega) (HP.t_of hov).1 hwn6) (rfl) rfl rfl (by decide) (by decide) (INV_rf (ICl_up (ICl_mv hI hN HP (fun _ _ => rfl) hRg HP' hc')) _ (va_up_self _ _ _))
          · exact stw_mk 3 (by decide) (tL_lift_x l D cI cQ cL ad 86 F (by decide) _ hC (nI a) (nI b) (nI f) (nI d) eS 3 (Or.inr (Or.inr ⟨rfl, rfl⟩)) (tX5_liftX_b4 l hst D cI cQ cL ad 86 F (by decide) r bB vB gB hB jB tB uB zB hN c8 b8 v8 g8 h8 j8 t8 u8 z8 hSn n9 st hn9 hst6 hPa aT ln hln hT c6 b6 v6 hM6 a7 d7 q7 hO hs hC (nI a) (nI b) (nI f) f rfl ⟨hf1, hf2⟩ (nI d) h4 hon hwn) rfl rfl (by decide) (by decide)) h85 (fun h => absurd h (by decide)) hR (tX6_lift_x l D cI cQ cL ad 86 _ 77 (by decide) r ps sl sd ne fa bu hs st ln pt th hR (nI a) (nI b) (nI f) (nI d) hst6 HP.rok (by rw [gL_ok (by omega) (by omega) ⟨hf1, hf2⟩ (by omega)]; exact decide_eq_false (by rw [← hwr]; exact hwn))) (by rw [tLi_ok (by omega) (by omega) ⟨hf1, hf2⟩ (by omega), if_neg (by rw [← hwr]; exact hwn)]) rfl rfl (by decide) (by decide) (INV_rf hI _ h85)
        · have h4 := btw_f h4
          exact stw_mk 2 (by decide) (tL_lift_x l D cI cQ cL ad 86 F (by decide) _ hC (nI a) (nI b) (nI f) z2 eA 2 (Or.inr (Or.inl ⟨rfl, rfl⟩)) (tX5_liftX_b3 l hst D cI cQ cL ad 86 F (by decide) r bB vB gB hB jB tB uB zB hN c8 b8 v8 g8 h8 j8 t8 u8 z8 hSn n9 st hn9 hst6 hPa aT ln hln hT c6 b6 v6 hM6 a7 d7 q7 hO hs hC (nI a) (nI b) (nI f) z2 hon h3 h4) rfl rfl (by decide) (by decide)) h85 (fun h => absurd h (by decide)) hR (tX6_lift_x l D cI cQ cL ad 86 _ 77 (by decide) r ps sl sd ne fa bu hs st ln pt th hR (nI a) (nI b) (nI f) z2 hst6 HP.rok (by simp [gL, h1, h2, h3, h4])) (by simp [tLi, h1, h2, h3, h4]) rfl rfl (by decide) (by decide) (INV_rf hI _ h85)
      · have h3 := btw_f h3
        exact stw_mk 2 (by decide) (tL_lift_x l D cI cQ cL ad 86 F (by decide) _ hC (nI a) (nI b) z z2 eA 2 (Or.inr (Or.inl ⟨rfl, rfl⟩)) (tX5_liftX_b2 l hst D cI cQ cL ad 86 F (by decide) r bB vB gB hB jB tB uB zB hN c8 b8 v8 g8 h8 j8 t8 u8 z8 hSn n9 st hn9 hst6 hPa aT ln hln hT c6 b6 v6 hM6 a7 d7 q7 hO hs hC (nI a) (nI b) z z2 hon h3) rfl rfl (by decide) (by decide)) h85 (fun h => absurd h (by decide)) hR (tX6_lift_x l D cI cQ cL ad 86 _ 77 (by decide) r ps sl sd ne fa bu hs st ln pt th hR (nI a) (nI b) z z2 hst6 HP.rok (by simp [gL, h1, h2, h3])) (by simp [tLi, h1, h2, h3]) rfl rfl (by decide) (by decide) (INV_rf hI _ h85)
    · have h2 := btw_f h2
      exact stw_mk 1 (by decide) (tL_lift_x l D cI cQ cL ad 86 F (by decide) _ hC x y z z2 eI 1 (Or.inl ⟨rfl, rfl⟩) (tX5_liftX_b1 l hst D cI cQ cL ad 86 F (by decide) r bB vB gB hB jB tB uB zB hN c8 b8 v8 g8 h8 j8 t8 u8 z8 hSn n9 st hn9 hst6 hPa aT ln hln hT c6 b6 v6 hM6 a7 d7 q7 hO hs hC x y z z2 (on_f2 h2)) rfl rfl (by decide) (by decide)) h85 (fun h => absurd h (by decide)) hR (tX6_lift_x l D cI cQ cL ad 86 _ 77 (by decide) r ps sl sd ne fa bu hs st ln pt th hR x y z z2 hst6 HP.rok (by simp [gL, h1, h2])) (by simp [tLi, h1, h2]) rfl rfl (by decide) (by decide) (INV_rf hI _ h85)
  · have h1 := btw_f h1
    exact stw_mk 1 (by decide) (tL_lift_x l D cI cQ cL ad 86 F (by decide) _ hC x y z z2 eI 1 (Or.inl ⟨rfl, rfl⟩) (tX5_liftX_b1 l hst D cI cQ cL ad 86 F (by decide) r bB vB gB hB jB tB uB zB hN c8 b8 v8 g8 h8 j8 t8 u8 z8 hSn n9 st hn9 hst6 hPa aT ln hln hT c6 b6 v6 hM6 a7 d7 q7 hO hs hC x y z z2 (on_f1 h1)) rfl rfl (by decide) (by decide)) h85 (fun h => absurd h (by decide)) hR (tX6_lift_x l D cI cQ cL ad 86 _ 77 (by decide) r ps sl sd ne fa bu hs st ln pt th hR x y z z2 hst6 HP.rok (by simp [gL, h1])) (by simp [tLi, h1]) rfl rfl (by decide) (by decide) (INV_rf hI _ h85)
set_option maxRecDepth 100000 in
theorem in_set (l : Launch) (hst : l.stackTraces = false) (D : va_G) (cI cQ cL : ClassId) (ad : Nat → Nat) (F : Nat → va_E) (H : IN1 cI cQ cL ad F) (x : Int32) : STw l D cI cQ cL ad 86 yL_set cL_set 4 [(0, 9, 12, 15)] yX6_set cX6_set 3 F (INV cI cQ cL ad) [.int x] := by
  obtain ⟨r, ps, sl, sd, ne, fa, bu, hs, st, ln, pt, th, hR, ⟨bB, vB, gB, hB, jB, tB, uB, zB, Np, Wp, hN, HP⟩, hI, o85, h85⟩ := H
  obtain ⟨-, ⟨⟨R8, c8, b8, v8, g8, h8, j8, t8, u8, z8, N8, W8, hSn, hP8, hc8⟩, hSnp⟩, ⟨n9, hRg⟩, ⟨hln, aT, hT, haT⟩, ⟨⟨c6, b6, v6, hM6⟩, a7, d7, q7, hO, hKN⟩, hC⟩ := id hI
  obtain ⟨hn9, hst6, hPa, hri, hrk⟩ := id hRg
  obtain ⟨Rr, cr, br, vr, gr, hr9, jr, tr, ur, zr, Nr, Wr, hRi, hRp, hRc⟩ := hri n9 hn9
  have hC : F 0 = .inr (5, [.ref (ad 1), .ref (ad 9), .ref (ad 17), .ref (ad 67), .ref (ad 69), .ref (ad 73), .int (bI hs)]) := hC
  have htB := HP.tlt
  by_cases hx : btw x (nI 1) (nI 6) = true
  · exact stw_mk 0 (by decide) (tL_set l D cI cQ cL ad 86 F (by decide) _ hC x _ _ ((mv_out hn9 (by decide)).trans h85) _ (tX5_set l D cI cQ cL ad 86 F (by decide) r bB vB gB hB jB tB uB zB hN c8 b8 v8 g8 h8 j8 t8 u8 z8 hSn n9 st hn9 hst6 hPa aT ln hln hT c6 b6 v6 hM6 a7 d7 q7 hO hs hC cr br vr gr hr9 jr tr ur zr hRi x hx) rfl rfl (by decide) (by decide)) (va_up_self _ _ _) (fun _ => by rw [pk_uLs]; rw [HP.2.2.2.2.2.2.1]) (rf_up (rf_mv hn9 hR)) (tX6_set_n l D cI cQ cL ad 86 _ 77 (by decide) r ps sl sd ne fa bu hs st ln pt th (rf_up (rf_mv hn9 hR)) x hst6 hx) (rfl) rfl rfl (by decide) (by decide) (INV_rf (ICl_up (ICl_mv hI hN HP (fun _ _ => rfl) hRg (HP.set x) (fun y hy => (upd_ne9 (by omega)).symm))) _ (va_up_self _ _ _))
  · have hx := btw_f hx
    exact stw_mk 1 (by decide) (tL_set_x l D cI cQ cL ad 86 F (by decide) _ hC x eA 1 ⟨rfl, rfl⟩ (tX5_setX_b1 l hst D cI cQ cL ad 86 F (by decide) r bB vB gB hB jB tB uB zB hN c8 b8 v8 g8 h8 j8 t8 u8 z8 hSn n9 st hn9 hst6 hPa aT ln hln hT c6 b6 v6 hM6 a7 d7 q7 hO hs hC x hx) rfl rfl (by decide) (by decide)) h85 (fun h => absurd h (by decide)) hR (tX6_set_x l D cI cQ cL ad 86 _ 77 (by decide) r ps sl sd ne fa bu hs st ln pt th hR x hst6 hx) (rfl) rfl rfl (by decide) (by decide) (INV_rf hI _ h85)
set_option maxRecDepth 100000 in
theorem in_put (l : Launch) (hst : l.stackTraces = false) (D : va_G) (cI cQ cL : ClassId) (ad : Nat → Nat) (F : Nat → va_E) (H : IN1 cI cQ cL ad F) (x y z : Int32) : STw l D cI cQ cL ad 86 yL_put cL_put 6 [(0, 12, 15, 13), (0, 12, 19, 17)] yX6_put cX6_put 4 F (INV cI cQ cL ad) [.int x, .int y, .int z] := by
  obtain ⟨r, ps, sl, sd, ne, fa, bu, hs, st, ln, pt, th, hR, ⟨bB, vB, gB, hB, jB, tB, uB, zB, Np, Wp, hN, HP⟩, hI, o85, h85⟩ := H
  obtain ⟨-, ⟨⟨R8, c8, b8, v8, g8, h8, j8, t8, u8, z8, N8, W8, hSn, hP8, hc8⟩, hSnp⟩, ⟨n9, hRg⟩, ⟨hln, aT, hT, haT⟩, ⟨⟨c6, b6, v6, hM6⟩, a7, d7, q7, hO, hKN⟩, hC⟩ := id hI
  obtain ⟨hn9, hst6, hPa, hri, hrk⟩ := id hRg
  obtain ⟨Rr, cr, br, vr, gr, hr9, jr, tr, ur, zr, Nr, Wr, hRi, hRp, hRc⟩ := hri n9 hn9
  have hC : F 0 = .inr (5, [.ref (ad 1), .ref (ad 9), .ref (ad 17), .ref (ad 67), .ref (ad 69), .ref (ad 73), .int (bI hs)]) := hC
  have htB := HP.tlt
  by_cases hx : wk x = true
  · obtain ⟨w, hw, rfl⟩ := wk_of hx
    have hb := (btw_wk _).trans hx
    by_cases h1 : btw y (nI 0) (nI 12) = true
    · by_cases h2 : btw z (nI 0) (nI 12) = true
      · have hon := on_tt h1 h2
        obtain ⟨a, rfl, -, ha⟩ := btw_of (by decide) (by decide) h1
        obtain ⟨b, rfl, -, hb2⟩ := btw_of (by decide) (by decide) h2
        have hrv : cov vB w = rcv r w := HP.2.2.1.cov_rcv HP.1 HP.2.1 hw
        by_cases hov : over r = true
        · exact stw_mk 2 (by decide) (tL_put_x l D cI cQ cL ad 86 F (by decide) _ hC (nI w) (nI a) (nI b) eS 2 (Or.inr ⟨rfl, rfl⟩) (tX5_putX_b3 l hst D cI cQ cL ad 86 F (by decide) r bB vB gB hB jB tB uB zB hN c8 b8 v8 g8 h8 j8 t8 u8 z8 hSn n9 st hn9 hst6 hPa aT ln hln hT c6 b6 v6 hM6 a7 d7 q7 hO hs hC (nI w) w rfl hw (nI a) (nI b) hon hov) rfl rfl (by decide) (by decide)) h85 (fun h => absurd h (by decide)) hR (tX6_put_x l D cI cQ cL ad 86 _ 77 (by decide) r ps sl sd ne fa bu hs st ln pt th hR (nI w) (nI a) (nI b) hst6 (by rw [gP_ok hw (by omega) (by omega), hov]; rfl)) (by rw [tPu_ok hw (by omega) (by omega), hov]; rfl) rfl rfl (by decide) (by decide) (INV_rf hI _ h85)
        · have hov := bool_f hov
          by_cases hcv : cov vB w = true
          · exact stw_mk 2 (by decide) (tL_put_x l D cI cQ cL ad 86 F (by decide) _ hC (nI w) (nI a) (nI b) eS 2 (Or.inr ⟨rfl, rfl⟩) (tX5_putX_b4 l hst D cI cQ cL ad 86 F (by decide) r bB vB gB hB jB tB uB zB hN c8 b8 v8 g8 h8 j8 t8 u8 z8 hSn n9 st hn9 hst6 hPa aT ln hln hT c6 b6 v6 hM6 a7 d7 q7 hO hs hC (nI w) w rfl hw (nI a) (nI b) hon hov hcv) rfl rfl (by decide) (by decide)) h85 (fun h => absurd h (by decide)) hR (tX6_put_x l D cI cQ cL ad 86 _ 77 (by decide) r ps sl sd ne fa bu hs st ln pt th hR (nI w) (nI a) (nI b) hst6 (by rw [gP_ok hw (by omega) (by omega), hov, ← hrv, hcv]; rfl)) (by rw [tPu_ok hw (by omega) (by omega), hov, ← hrv, hcv]; rfl) rfl rfl (by decide) (by decide) (INV_rf hI _ h85)
          · have hcv := bool_f hcv
            obtain ⟨N', W', HP', hc'⟩ := HP.put hw hov hcv (show 13 * b + a < 169 by omega)
            rw [← cat_n] at HP' hc'
            have hq9 : hgt (mov1 r bB vB w (cat (nI a) (nI b))) (cat (nI a) (nI b)) = hgt (rly r w (cat (nI a) (nI b))) (cat (nI a) (nI b)) := hgt_cong9 hc'
            exact stw_mk 0 (by decide) (tL_put l D cI cQ cL ad 86 F (by decide) _ hC (nI w) (nI a) (nI b) _ _ ((mv_out hn9 (by decide)).trans h85) _ (tX5_put l D cI cQ cL ad 86 F (by decide) r bB vB gB hB jB tB uB zB hN c8 b8 v8 g8 h8 j8 t8 u8 z8 hSn n9 st hn9 hst6 hPa aT ln hln hT c6 b6 v6 hM6 a7 d7 q7 hO hs hC cr br vr gr hr9 jr tr ur zr hRi (nI w) w rfl hw (nI a) (nI b) hon hov hcv) rfl rfl (by decide) (by decide)) (va_up_self _ _ _) (fun _ => by rw [pk_uLs]; rw [hq9, cat_n]) (rf_up (rf_mv hn9 hR)) (tX6_put_n l D cI cQ cL ad 86 _ 77 (by decide) r ps sl sd ne fa bu hs st ln pt th (rf_up (rf_mv hn9 hR)) hst6 hw (by omega) (by omega) hov (by rw [← hrv]; exact hcv)) (rfl) rfl rfl (by decide) (by decide) (INV_rf (ICl_up (by rw [← cat_n]; exact ICl_mv hI hN HP (fun _ _ => rfl) hRg HP' hc')) _ (va_up_self _ _ _))
      · have h2 := btw_f h2
        exact stw_mk 1 (by decide) (tL_put_x l D cI cQ cL ad 86 F (by decide) _ hC (nI w) y z eI 1 (Or.inl ⟨rfl, rfl⟩) (tX5_putX_b2 l hst D cI cQ cL ad 86 F (by decide) r bB vB gB hB jB tB uB zB hN c8 b8 v8 g8 h8 j8 t8 u8 z8 hSn n9 st hn9 hst6 hPa aT ln hln hT c6 b6 v6 hM6 a7 d7 q7 hO hs hC (nI w) w rfl hw y z (on_f2 h2)) rfl rfl (by decide) (by decide)) h85 (fun h => absurd h (by decide)) hR (tX6_put_x l D cI cQ cL ad 86 _ 77 (by decide) r ps sl sd ne fa bu hs st ln pt th hR (nI w) y z hst6 (by simp [gP, hb, h1, h2])) (by simp [tPu, hb, h1, h2]) rfl rfl (by decide) (by decide) (INV_rf hI _ h85)
    · have h1 := btw_f h1
      exact stw_mk 1 (by decide) (tL_put_x l D cI cQ cL ad 86 F (by decide) _ hC (nI w) y z eI 1 (Or.inl ⟨rfl, rfl⟩) (tX5_putX_b2 l hst D cI cQ cL ad 86 F (by decide) r bB vB gB hB jB tB uB zB hN c8 b8 v8 g8 h8 j8 t8 u8 z8 hSn n9 st hn9 hst6 hPa aT ln hln hT c6 b6 v6 hM6 a7 d7 q7 hO hs hC (nI w) w rfl hw y z (on_f1 h1)) rfl rfl (by decide) (by decide)) h85 (fun h => absurd h (by decide)) hR (tX6_put_x l D cI cQ cL ad 86 _ 77 (by decide) r ps sl sd ne fa bu hs st ln pt th hR (nI w) y z hst6 (by simp [gP, hb, h1])) (by simp [tPu, hb, h1]) rfl rfl (by decide) (by decide) (INV_rf hI _ h85)
  · have hx := bool_f hx
    have hb := (btw_wk _).trans hx
    exact stw_mk 1 (by decide) (tL_put_x l D cI cQ cL ad 86 F (by decide) _ hC x y z eI 1 (Or.inl ⟨rfl, rfl⟩) (tX5_putX_b1 l hst D cI cQ cL ad 86 F (by decide) r bB vB gB hB jB tB uB zB hN c8 b8 v8 g8 h8 j8 t8 u8 z8 hSn n9 st hn9 hst6 hPa aT ln hln hT c6 b6 v6 hM6 a7 d7 q7 hO hs hC x y z hx) rfl rfl (by decide) (by decide)) h85 (fun h => absurd h (by decide)) hR (tX6_put_x l D cI cQ cL ad 86 _ 77 (by decide) r ps sl sd ne fa bu hs st ln pt th hR x y z hst6 (by simp [gP, hb])) (by simp [tPu, hb]) rfl rfl (by decide) (by decide) (INV_rf hI _ h85)
set_option maxRecDepth 100000 in
theorem in_append (l : Launch) (hst : l.stackTraces = false) (D : va_G) (cI cQ cL : ClassId) (ad : Nat → Nat) (F : Nat → va_E) (H : IN1 cI cQ cL ad F) (x : Int32) : STw l D cI cQ cL ad 86 yL_append cL_append 4 [(0, 9, 12, 15), (0, 9, 15, 17)] yX6_append cX6_append 2 F (INV cI cQ cL ad) [.int x] := by
  obtain ⟨r, ps, sl, sd, ne, fa, bu, hs, st, ln, pt, th, hR, ⟨bB, vB, gB, hB, jB, tB, uB, zB, Np, Wp, hN, HP⟩, hI, o85, h85⟩ := H
  obtain ⟨-, ⟨⟨R8, c8, b8, v8, g8, h8, j8, t8, u8, z8, N8, W8, hSn, hP8, hc8⟩, hSnp⟩, ⟨n9, hRg⟩, ⟨hln, aT, hT, haT⟩, ⟨⟨c6, b6, v6, hM6⟩, a7, d7, q7, hO, hKN⟩, hC⟩ := id hI
  obtain ⟨hn9, hst6, hPa, hri, hrk⟩ := id hRg
  obtain ⟨Rr, cr, br, vr, gr, hr9, jr, tr, ur, zr, Nr, Wr, hRi, hRp, hRc⟩ := hri n9 hn9
  have hC : F 0 = .inr (5, [.ref (ad 1), .ref (ad 9), .ref (ad 17), .ref (ad 67), .ref (ad 69), .ref (ad 73), .int (bI hs)]) := hC
  have htB := HP.tlt
  by_cases hx : btw x (nI 33) (nI 126) = true
  · by_cases h60 : ln < 60
    · exact stw_mk 0 (by decide) (tL_append l D cI cQ cL ad 86 F (by decide) _ hC x _ _ ((gtSet_out (by decide)).trans h85) _ (tX5_append l D cI cQ cL ad 86 F (by decide) r bB vB gB hB jB tB uB zB hN c8 b8 v8 g8 h8 j8 t8 u8 z8 hSn n9 st hn9 hst6 hPa aT ln hln hT c6 b6 v6 hM6 a7 d7 q7 hO hs hC x hx h60) rfl rfl (by decide) (by decide)) (va_up_self _ _ _) (fun _ => by rw [pk_uLs]) (rf_up (rf_tx hR)) (tX6_append_n l D cI cQ cL ad 86 _ 77 (by decide) r ps sl sd ne fa bu hs st ln pt th (rf_up (rf_tx hR)) x h60 hx) (rfl) rfl rfl (by decide) (by decide) (INV_rf (ICl_up (ICl_tx hI h60 (app_ok haT))) _ (va_up_self _ _ _))
    · have h60 : ln = 60 := by omega
      exact stw_mk 2 (by decide) (tL_append_x l D cI cQ cL ad 86 F (by decide) _ hC x eS 2 (Or.inr ⟨rfl, rfl⟩) (tX5_appendX_b2 l hst D cI cQ cL ad 86 F (by decide) r bB vB gB hB jB tB uB zB hN c8 b8 v8 g8 h8 j8 t8 u8 z8 hSn n9 st hn9 hst6 hPa aT ln hln hT c6 b6 v6 hM6 a7 d7 q7 hO hs hC x hx (by omega)) rfl rfl (by decide) (by decide)) h85 (fun h => absurd h (by decide)) hR (tX6_append_x l D cI cQ cL ad 86 _ 77 (by decide) r ps sl sd ne fa bu hs st ln pt th hR x hln (by rw [hx, h60]; rfl)) (by rw [if_pos hx, if_pos h60]) rfl rfl (by decide) (by decide) (INV_rf hI _ h85)
  · have hx := btw_f hx
    exact stw_mk 1 (by decide) (tL_append_x l D cI cQ cL ad 86 F (by decide) _ hC x eA 1 (Or.inl ⟨rfl, rfl⟩) (tX5_appendX_b1 l hst D cI cQ cL ad 86 F (by decide) r bB vB gB hB jB tB uB zB hN c8 b8 v8 g8 h8 j8 t8 u8 z8 hSn n9 st hn9 hst6 hPa aT ln hln hT c6 b6 v6 hM6 a7 d7 q7 hO hs hC x hx) rfl rfl (by decide) (by decide)) h85 (fun h => absurd h (by decide)) hR (tX6_append_x l D cI cQ cL ad 86 _ 77 (by decide) r ps sl sd ne fa bu hs st ln pt th hR x hln (by rw [hx]; rfl)) (by rw [if_neg (by rw [hx]; decide)]) rfl rfl (by decide) (by decide) (INV_rf hI _ h85)
set_option maxRecDepth 100000 in
theorem in_goBack (l : Launch) (hst : l.stackTraces = false) (D : va_G) (cI cQ cL : ClassId) (ad : Nat → Nat) (F : Nat → va_E) (H : IN1 cI cQ cL ad F) : STw l D cI cQ cL ad 86 yL_goBack cL_goBack 3 [(0, 8, 11, 17)] yX6_goBack cX6_goBack 2 F (INV cI cQ cL ad) [] := by
  obtain ⟨r, ps, sl, sd, ne, fa, bu, hs, st, ln, pt, th, hR, ⟨bB, vB, gB, hB, jB, tB, uB, zB, Np, Wp, hN, HP⟩, hI, o85, h85⟩ := H
  obtain ⟨-, ⟨⟨R8, c8, b8, v8, g8, h8, j8, t8, u8, z8, N8, W8, hSn, hP8, hc8⟩, hSnp⟩, ⟨n9, hRg⟩, ⟨hln, aT, hT, haT⟩, ⟨⟨c6, b6, v6, hM6⟩, a7, d7, q7, hO, hKN⟩, hC⟩ := id hI
  obtain ⟨hn9, hst6, hPa, hri, hrk⟩ := id hRg
  obtain ⟨Rr, cr, br, vr, gr, hr9, jr, tr, ur, zr, Nr, Wr, hRi, hRp, hRc⟩ := hri n9 hn9
  have hC : F 0 = .inr (5, [.ref (ad 1), .ref (ad 9), .ref (ad 17), .ref (ad 67), .ref (ad 69), .ref (ad 73), .int (bI hs)]) := hC
  have htB := HP.tlt
  cases hs with
  | false => exact stw_mk 1 (by decide) (tL_goBack_x l D cI cQ cL ad 86 F (by decide) _ hC  eS 1 ⟨rfl, rfl⟩ (tX5_goBackX_b1 l hst D cI cQ cL ad 86 F (by decide) r bB vB gB hB jB tB uB zB hN c8 b8 v8 g8 h8 j8 t8 u8 z8 hSn n9 st hn9 hst6 hPa aT ln hln hT c6 b6 v6 hM6 a7 d7 q7 hO false hC rfl) rfl rfl (by decide) (by decide)) h85 (fun h => absurd h (by decide)) hR (tX6_goBackX l D cI cQ cL ad 86 _ 77 (by decide) r ps sl sd ne fa bu false st ln pt th hR rfl) (rfl) rfl rfl (by decide) (by decide) (INV_rf hI _ h85)
  | true =>
    obtain ⟨c8, b8, v8, g8, h8, j8, t8, u8, z8, N8, W8, hSn, hP8, hc8⟩ := hSnp rfl
    have hq9 : potn c8 = potn sl := potn_cong hc8
    exact stw_mk 0 (by decide) (tL_goBack l D cI cQ cL ad 86 F (by decide) _ hC  _ _ ((mv_out hn9 (by decide)).trans h85) _ (tX5_goBack l D cI cQ cL ad 86 F (by decide) r bB vB gB hB jB tB uB zB hN c8 b8 v8 g8 h8 j8 t8 u8 z8 hSn n9 st hn9 hst6 hPa aT ln hln hT c6 b6 v6 hM6 a7 d7 q7 hO true hC cr br vr gr hr9 jr tr ur zr hRi rfl) rfl rfl (by decide) (by decide)) (va_up_self _ _ _) (fun _ => by rw [pk_uLs]; rw [hq9]) (rf_up (rf_mv hn9 hR)) (tX6_goBack l D cI cQ cL ad 86 _ 77 (by decide) r ps sl sd ne fa bu true st ln pt th (rf_up (rf_mv hn9 hR)) hst6 rfl) (rfl) rfl rfl (by decide) (by decide) (INV_rf (ICl_up (ICl_mv hI hN HP (fun _ _ => rfl) hRg hP8 hc8)) _ (va_up_self _ _ _))
set_option maxRecDepth 100000 in
theorem in_undo (l : Launch) (hst : l.stackTraces = false) (D : va_G) (cI cQ cL : ClassId) (ad : Nat → Nat) (F : Nat → va_E) (H : IN1 cI cQ cL ad F) : STw l D cI cQ cL ad 86 yL_undo cL_undo 3 [(0, 8, 11, 17)] yX6_undo cX6_undo 2 F (INV cI cQ cL ad) [] := by
  obtain ⟨r, ps, sl, sd, ne, fa, bu, hs, st, ln, pt, th, hR, ⟨bB, vB, gB, hB, jB, tB, uB, zB, Np, Wp, hN, HP⟩, hI, o85, h85⟩ := H
  obtain ⟨-, ⟨⟨R8, c8, b8, v8, g8, h8, j8, t8, u8, z8, N8, W8, hSn, hP8, hc8⟩, hSnp⟩, ⟨n9, hRg⟩, ⟨hln, aT, hT, haT⟩, ⟨⟨c6, b6, v6, hM6⟩, a7, d7, q7, hO, hKN⟩, hC⟩ := id hI
  obtain ⟨hn9, hst6, hPa, hri, hrk⟩ := id hRg
  obtain ⟨Rr, cr, br, vr, gr, hr9, jr, tr, ur, zr, Nr, Wr, hRi, hRp, hRc⟩ := hri n9 hn9
  have hC : F 0 = .inr (5, [.ref (ad 1), .ref (ad 9), .ref (ad 17), .ref (ad 67), .ref (ad 69), .ref (ad 73), .int (bI hs)]) := hC
  have htB := HP.tlt
  by_cases h0 : st = 0
  · exact stw_mk 1 (by decide) (tL_undo_x l D cI cQ cL ad 86 F (by decide) _ hC  eS 1 ⟨rfl, rfl⟩ (tX5_undoX_b1 l hst D cI cQ cL ad 86 F (by decide) r bB vB gB hB jB tB uB zB hN c8 b8 v8 g8 h8 j8 t8 u8 z8 hSn n9 st hn9 hst6 hPa aT ln hln hT c6 b6 v6 hM6 a7 d7 q7 hO hs hC h0) rfl rfl (by decide) (by decide)) h85 (fun h => absurd h (by decide)) hR (tX6_undoX l D cI cQ cL ad 86 _ 77 (by decide) r ps sl sd ne fa bu hs st ln pt th hR h0) (rfl) rfl rfl (by decide) (by decide) (INV_rf hI _ h85)
  · have hs1 : 1 ≤ st := by omega
    have hq := hrk (st - 1) (by omega)
    rw [show (n9 + 6 - (st - (st - 1))) % 6 = (n9 + 6 - 1) % 6 by omega] at hq
    obtain ⟨cr, br, vr, gr, hr9, jr, tr, ur, zr, Nr, Wr, hRi, hRp, hRc⟩ := hq
    exact stw_mk 0 (by decide) (tL_undo l D cI cQ cL ad 86 F (by decide) _ hC  _ _ ((un_out (by decide)).trans h85) _ (tX5_undo l D cI cQ cL ad 86 F (by decide) r bB vB gB hB jB tB uB zB hN c8 b8 v8 g8 h8 j8 t8 u8 z8 hSn n9 st hn9 hst6 hPa aT ln hln hT c6 b6 v6 hM6 a7 d7 q7 hO hs hC cr br vr gr hr9 jr tr ur zr hRi hs1) rfl rfl (by decide) (by decide)) (va_up_self _ _ _) (fun _ => by rw [pk_uLs]) (rf_up (rf_un hR)) (tX6_undo l D cI cQ cL ad 86 _ 77 (by decide) r ps sl sd ne fa bu hs st ln pt th (rf_up (rf_un hR)) hst6 hs1) (rfl) rfl rfl (by decide) (by decide) (INV_rf (ICl_up (ICl_un hI hN hRg hs1 hRp hRc)) _ (va_up_self _ _ _))
end
/-! from calls -/
section
theorem Pos.cel {r b v g h j : Nat → Int32} {t : Nat} {u z : Int32} {Np : Nat → Nat} {Wp : Nat → Nat → Nat} (H : Pos r b v g h j t u z Np Wp) {w : Nat} (hw : w < 16) (hp : pot r w = false) : ∃ q, q < 169 ∧ q ≠ 84 ∧ r w = nI q := by
  rcases H.1.2.2 w hw with e | ⟨q, i, hi, e⟩
  · unfold pot at hp
    rw [e] at hp
    simp at hp
  · obtain ⟨-, h1, h2, h3⟩ := H.1.1 q i hi
    exact ⟨q, h1, h2, by rw [← e]; exact h3⟩
theorem Pos.nfx {r b v g h j : Nat → Int32} {t : Nat} {u z : Int32} {Np : Nat → Nat} {Wp : Nat → Nat → Nat} (H : Pos r b v g h j t u z Np Wp) : ∃ nf, rNF r nf := rNF_of (fun _ hw hp => H.cel hw hp)
theorem Pos.ixl {r b v g h j : Nat → Int32} {t : Nat} {u z : Int32} {Np : Nat → Nat} {Wp : Nat → Nat → Nat} (H : Pos r b v g h j t u z Np Wp) (w : Nat) (hw : w < 16) (hp : pot r w = false) : ix (r w) < 169 := by
  obtain ⟨q, h1, -, h3⟩ := H.cel hw hp
  rw [h3, ixn (by omega)]
  exact h1
theorem Pos.bots {r b v g h j : Nat → Int32} {t : Nat} {u z : Int32} {Np : Nat → Nat} {Wp : Nat → Nat → Nat} (H : Pos r b v g h j t u z Np Wp) : cnt (bot r b) 16 = rpl r := cnt_cong (fun _ hw => H.2.2.1.botN H.1 H.2.1 hw)
set_option maxRecDepth 100000 in
theorem in_wink (l : Launch) (hst : l.stackTraces = false) (D : va_G) (cI cQ cL : ClassId) (ad : Nat → Nat) (F : Nat → va_E) (H : IN1 cI cQ cL ad F) (x y : Int32) : STw l D cI cQ cL ad 86 yL_wink cL_wink 5 [(0, 10, 13, 13), (0, 10, 17, 15)] yX6_wink cX6_wink 3 F (INV cI cQ cL ad) [.int x, .int y] := by
  obtain ⟨r, ps, sl, sd, ne, fa, bu, hs, st, ln, pt, th, hR, ⟨bB, vB, gB, hB, jB, tB, uB, zB, Np, Wp, hN, HP⟩, hI, o85, h85⟩ := H
  obtain ⟨-, ⟨⟨R8, c8, b8, v8, g8, h8, j8, t8, u8, z8, N8, W8, hSn, hP8, hc8⟩, hSnp⟩, ⟨n9, hRg⟩, ⟨hln, aT, hT, haT⟩, ⟨⟨c6, b6, v6, hM6⟩, a7, d7, q7, hO, hKN⟩, hC⟩ := id hI
  obtain ⟨hn9, hst6, hPa, hri, hrk⟩ := id hRg
  obtain ⟨Rr, cr, br, vr, gr, hr9, jr, tr, ur, zr, Nr, Wr, hRi, hRp, hRc⟩ := hri n9 hn9
  have hC : F 0 = .inr (5, [.ref (ad 1), .ref (ad 9), .ref (ad 17), .ref (ad 67), .ref (ad 69), .ref (ad 73), .int (bI hs)]) := hC
  have htB := HP.tlt
  by_cases hx : wk x = true
  · obtain ⟨w, hw, rfl⟩ := wk_of hx
    have hb := (btw_wk _).trans hx
    by_cases hy : btw y (nI 0) (nI 6) = true
    · obtain ⟨k, rfl, -, hk⟩ := btw_of (by decide) (by decide) hy
      exact stw_mk 0 (by decide) (tL_wink l D cI cQ cL ad 86 F (by decide) _ hC (nI w) (nI k) _ _ h85 _ (MX_of_MR (tX5_wink l D cI cQ cL ad 86 F (by decide) r bB vB gB hB jB tB uB zB hN c8 b8 v8 g8 h8 j8 t8 u8 z8 hSn n9 st hn9 hst6 hPa aT ln hln hT c6 b6 v6 hM6 a7 d7 q7 hO hs hC htB (nI w) w rfl hw (nI k) hy)) rfl rfl (by decide) (by decide)) (va_up_self _ _ _) (fun _ => by rw [pk_uLs]; rw [HP.wink hw (by omega), pW_ok hw (by omega)]) (rf_up hR) (tX6_wink l D cI cQ cL ad 86 _ 77 (by decide) r ps sl sd ne fa bu hs st ln pt th (rf_up hR) (nI w) (nI k)) (by simp only [tW, hb, hy, if_true]) rfl rfl (by decide) (by decide) (INV_rf (ICl_up hI) _ (va_up_self _ _ _))
    · have hy := btw_f hy
      exact stw_mk 2 (by decide) (tL_wink_x l D cI cQ cL ad 86 F (by decide) _ hC (nI w) y eA 2 (Or.inr ⟨rfl, rfl⟩) (tX5_wink_b2 l hst D cI cQ cL ad 86 F (by decide) r bB vB gB hB jB tB uB zB hN c8 b8 v8 g8 h8 j8 t8 u8 z8 hSn n9 st hn9 hst6 hPa aT ln hln hT c6 b6 v6 hM6 a7 d7 q7 hO hs hC (nI w) w rfl hw y hy) rfl rfl (by decide) (by decide)) h85 (fun h => absurd h (by decide)) hR (tX6_wink l D cI cQ cL ad 86 _ 77 (by decide) r ps sl sd ne fa bu hs st ln pt th hR (nI w) y) (by simp [tW, hb, hy]) rfl rfl (by decide) (by decide) (INV_rf hI _ h85)
  · have hx := bool_f hx
    have hb := (btw_wk _).trans hx
    exact stw_mk 1 (by decide) (tL_wink_x l D cI cQ cL ad 86 F (by decide) _ hC x y eI 1 (Or.inl ⟨rfl, rfl⟩) (tX5_wink_b1 l hst D cI cQ cL ad 86 F (by decide) r bB vB gB hB jB tB uB zB hN c8 b8 v8 g8 h8 j8 t8 u8 z8 hSn n9 st hn9 hst6 hPa aT ln hln hT c6 b6 v6 hM6 a7 d7 q7 hO hs hC x y hx) rfl rfl (by decide) (by decide)) h85 (fun h => absurd h (by decide)) hR (tX6_wink l D cI cQ cL ad 86 _ 77 (by decide) r ps sl sd ne fa bu hs st ln pt th hR x y) (by simp [tW, hb]) rfl rfl (by decide) (by decide) (INV_rf hI _ h85)
set_option maxRecDepth 100000 in
theorem in_pile (l : Launch) (hst : l.stackTraces = false) (D : va_G) (cI cQ cL : ClassId) (ad : Nat → Nat) (F : Nat → va_E) (H : IN1 cI cQ cL ad F) (x y z : Int32) : STw l D cI cQ cL ad 86 yL_pile cL_pile 6 [(0, 12, 15, 13), (0, 12, 19, 15)] yX6_pile cX6_pile 4 F (INV cI cQ cL ad) [.int x, .int y, .int z] := by
  obtain ⟨r, ps, sl, sd, ne, fa, bu, hs, st, ln, pt, th, hR, ⟨bB, vB, gB, hB, jB, tB, uB, zB, Np, Wp, hN, HP⟩, hI, o85, h85⟩ := H
  obtain ⟨-, ⟨⟨R8, c8, b8, v8, g8, h8, j8, t8, u8, z8, N8, W8, hSn, hP8, hc8⟩, hSnp⟩, ⟨n9, hRg⟩, ⟨hln, aT, hT, haT⟩, ⟨⟨c6, b6, v6, hM6⟩, a7, d7, q7, hO, hKN⟩, hC⟩ := id hI
  obtain ⟨hn9, hst6, hPa, hri, hrk⟩ := id hRg
  obtain ⟨Rr, cr, br, vr, gr, hr9, jr, tr, ur, zr, Nr, Wr, hRi, hRp, hRc⟩ := hri n9 hn9
  have hC : F 0 = .inr (5, [.ref (ad 1), .ref (ad 9), .ref (ad 17), .ref (ad 67), .ref (ad 69), .ref (ad 73), .int (bI hs)]) := hC
  have htB := HP.tlt
  by_cases h1 : btw x (nI 0) (nI 12) = true
  · by_cases h2 : btw y (nI 0) (nI 12) = true
    · have hon := on_tt h1 h2
      obtain ⟨a, rfl, -, ha⟩ := btw_of (by decide) (by decide) h1
      obtain ⟨b, rfl, -, hb⟩ := btw_of (by decide) (by decide) h2
      by_cases h3 : btw z (nI 0) (nI 3) = true
      · obtain ⟨k, rfl, -, hk⟩ := btw_of (by decide) (by decide) h3
        exact stw_mk 0 (by decide) (tL_pile l D cI cQ cL ad 86 F (by decide) _ hC (nI a) (nI b) (nI k) _ _ h85 _ (MX_of_MR (tX5_pile l D cI cQ cL ad 86 F (by decide) r bB vB gB hB jB tB uB zB hN c8 b8 v8 g8 h8 j8 t8 u8 z8 hSn n9 st hn9 hst6 hPa aT ln hln hT c6 b6 v6 hM6 a7 d7 q7 hO hs hC (nI a) (nI b) (nI k) hon h3)) rfl rfl (by decide) (by decide)) (va_up_self _ _ _) (fun _ => by rw [pk_uLs]; rw [cat_n, HP.pile (by omega) (by omega), pP_ok (by omega) (by omega) (by omega)]) (rf_up hR) (tX6_pile l D cI cQ cL ad 86 _ 77 (by decide) r ps sl sd ne fa bu hs st ln pt th (rf_up hR) (nI a) (nI b) (nI k)) (by simp only [tP, h1, h2, h3, if_true]) rfl rfl (by decide) (by decide) (INV_rf (ICl_up hI) _ (va_up_self _ _ _))
      · have h3 := btw_f h3
        exact stw_mk 2 (by decide) (tL_pile_x l D cI cQ cL ad 86 F (by decide) _ hC (nI a) (nI b) z eA 2 (Or.inr ⟨rfl, rfl⟩) (tX5_pile_b2 l hst D cI cQ cL ad 86 F (by decide) r bB vB gB hB jB tB uB zB hN c8 b8 v8 g8 h8 j8 t8 u8 z8 hSn n9 st hn9 hst6 hPa aT ln hln hT c6 b6 v6 hM6 a7 d7 q7 hO hs hC (nI a) (nI b) z hon h3) rfl rfl (by decide) (by decide)) h85 (fun h => absurd h (by decide)) hR (tX6_pile l D cI cQ cL ad 86 _ 77 (by decide) r ps sl sd ne fa bu hs st ln pt th hR (nI a) (nI b) z) (by simp [tP, h1, h2, h3]) rfl rfl (by decide) (by decide) (INV_rf hI _ h85)
    · have h2 := btw_f h2
      exact stw_mk 1 (by decide) (tL_pile_x l D cI cQ cL ad 86 F (by decide) _ hC x y z eI 1 (Or.inl ⟨rfl, rfl⟩) (tX5_pile_b1 l hst D cI cQ cL ad 86 F (by decide) r bB vB gB hB jB tB uB zB hN c8 b8 v8 g8 h8 j8 t8 u8 z8 hSn n9 st hn9 hst6 hPa aT ln hln hT c6 b6 v6 hM6 a7 d7 q7 hO hs hC x y z (on_f2 h2)) rfl rfl (by decide) (by decide)) h85 (fun h => absurd h (by decide)) hR (tX6_pile l D cI cQ cL ad 86 _ 77 (by decide) r ps sl sd ne fa bu hs st ln pt th hR x y z) (by simp [tP, h1, h2]) rfl rfl (by decide) (by decide) (INV_rf hI _ h85)
  · have h1 := btw_f h1
    exact stw_mk 1 (by decide) (tL_pile_x l D cI cQ cL ad 86 F (by decide) _ hC x y z eI 1 (Or.inl ⟨rfl, rfl⟩) (tX5_pile_b1 l hst D cI cQ cL ad 86 F (by decide) r bB vB gB hB jB tB uB zB hN c8 b8 v8 g8 h8 j8 t8 u8 z8 hSn n9 st hn9 hst6 hPa aT ln hln hT c6 b6 v6 hM6 a7 d7 q7 hO hs hC x y z (on_f1 h1)) rfl rfl (by decide) (by decide)) h85 (fun h => absurd h (by decide)) hR (tX6_pile l D cI cQ cL ad 86 _ 77 (by decide) r ps sl sd ne fa bu hs st ln pt th hR x y z) (by simp [tP, h1]) rfl rfl (by decide) (by decide) (INV_rf hI _ h85)
set_option maxRecDepth 100000 in
theorem in_colour (l : Launch) (hst : l.stackTraces = false) (D : va_G) (cI cQ cL : ClassId) (ad : Nat → Nat) (F : Nat → va_E) (H : IN1 cI cQ cL ad F) (x y : Int32) : STw0 l D cI cQ cL ad 86 yL_colour cL_colour 5 [(0, 10, 13, 13), (0, 10, 17, 15)] yX6_colour cX6_colour 3 F (INV cI cQ cL ad) [.int x, .int y] := by
  obtain ⟨r, ps, sl, sd, ne, fa, bu, hs, st, ln, pt, th, hR, ⟨bB, vB, gB, hB, jB, tB, uB, zB, Np, Wp, hN, HP⟩, hI, o85, h85⟩ := H
  obtain ⟨-, ⟨⟨R8, c8, b8, v8, g8, h8, j8, t8, u8, z8, N8, W8, hSn, hP8, hc8⟩, hSnp⟩, ⟨n9, hRg⟩, ⟨hln, aT, hT, haT⟩, ⟨⟨c6, b6, v6, hM6⟩, a7, d7, q7, hO, hKN⟩, hC⟩ := id hI
  obtain ⟨hn9, hst6, hPa, hri, hrk⟩ := id hRg
  obtain ⟨Rr, cr, br, vr, gr, hr9, jr, tr, ur, zr, Nr, Wr, hRi, hRp, hRc⟩ := hri n9 hn9
  have hC : F 0 = .inr (5, [.ref (ad 1), .ref (ad 9), .ref (ad 17), .ref (ad 67), .ref (ad 69), .ref (ad 73), .int (bI hs)]) := hC
  have htB := HP.tlt
  by_cases hb : btw x (nI 0) (nI 3) = true
  · obtain ⟨w, rfl, -, hw⟩ := btw_of (by decide) (by decide) hb
    by_cases hy : btw y (nI 0) (nI 6) = true
    · obtain ⟨k, rfl, -, hk⟩ := btw_of (by decide) (by decide) hy
      exact stw0_mk (kk := 0) (tL_colour l D cI cQ cL ad 86 F (by decide) _ hC (nI w) (nI k) _ _ h85 _ (MX_of_MR (tX5_colour l D cI cQ cL ad 86 F (by decide) r bB vB gB hB jB tB uB zB hN c8 b8 v8 g8 h8 j8 t8 u8 z8 hSn n9 st hn9 hst6 hPa aT ln hln hT c6 b6 v6 hM6 a7 d7 q7 hO hs hC (nI w) w rfl (by omega) (nI k) hy)) rfl rfl (by decide) (by decide)) (rf_up hR) (tX6_colour l D cI cQ cL ad 86 _ 77 (by decide) r ps sl sd ne fa bu hs st ln pt th (rf_up hR) (nI w) (nI k)) rfl rfl (by decide) (by decide) (INV_rf (ICl_up hI) _ (va_up_self _ _ _))
    · have hy := btw_f hy
      exact STw_weak (by exact stw_mk 2 (by decide) (tL_colour_x l D cI cQ cL ad 86 F (by decide) _ hC (nI w) y eA 2 (Or.inr ⟨rfl, rfl⟩) (tX5_colour_b2 l hst D cI cQ cL ad 86 F (by decide) r bB vB gB hB jB tB uB zB hN c8 b8 v8 g8 h8 j8 t8 u8 z8 hSn n9 st hn9 hst6 hPa aT ln hln hT c6 b6 v6 hM6 a7 d7 q7 hO hs hC (nI w) w rfl (by omega) y hy) rfl rfl (by decide) (by decide)) h85 (fun h => absurd h (by decide)) hR (tX6_colour l D cI cQ cL ad 86 _ 77 (by decide) r ps sl sd ne fa bu hs st ln pt th hR (nI w) y) (by simp [tW, hb, hy]) rfl rfl (by decide) (by decide) (INV_rf hI _ h85))
  · have hb := btw_f hb
    exact STw_weak (by exact stw_mk 1 (by decide) (tL_colour_x l D cI cQ cL ad 86 F (by decide) _ hC x y eI 1 (Or.inl ⟨rfl, rfl⟩) (tX5_colour_b1 l hst D cI cQ cL ad 86 F (by decide) r bB vB gB hB jB tB uB zB hN c8 b8 v8 g8 h8 j8 t8 u8 z8 hSn n9 st hn9 hst6 hPa aT ln hln hT c6 b6 v6 hM6 a7 d7 q7 hO hs hC x y ((cl4_b x).symm.trans hb)) rfl rfl (by decide) (by decide)) h85 (fun h => absurd h (by decide)) hR (tX6_colour l D cI cQ cL ad 86 _ 77 (by decide) r ps sl sd ne fa bu hs st ln pt th hR x y) (by simp [tW, hb]) rfl rfl (by decide) (by decide) (INV_rf hI _ h85))
set_option maxRecDepth 100000 in
theorem in_count (l : Launch) (hst : l.stackTraces = false) (D : va_G) (cI cQ cL : ClassId) (ad : Nat → Nat) (F : Nat → va_E) (H : IN1 cI cQ cL ad F) (x : Int32) : STw0 l D cI cQ cL ad 86 yL_count cL_count 4 [(0, 9, 12, 15)] yX6_count cX6_count 2 F (INV cI cQ cL ad) [.int x] := by
  obtain ⟨r, ps, sl, sd, ne, fa, bu, hs, st, ln, pt, th, hR, ⟨bB, vB, gB, hB, jB, tB, uB, zB, Np, Wp, hN, HP⟩, hI, o85, h85⟩ := H
  obtain ⟨-, ⟨⟨R8, c8, b8, v8, g8, h8, j8, t8, u8, z8, N8, W8, hSn, hP8, hc8⟩, hSnp⟩, ⟨n9, hRg⟩, ⟨hln, aT, hT, haT⟩, ⟨⟨c6, b6, v6, hM6⟩, a7, d7, q7, hO, hKN⟩, hC⟩ := id hI
  obtain ⟨hn9, hst6, hPa, hri, hrk⟩ := id hRg
  obtain ⟨Rr, cr, br, vr, gr, hr9, jr, tr, ur, zr, Nr, Wr, hRi, hRp, hRc⟩ := hri n9 hn9
  have hC : F 0 = .inr (5, [.ref (ad 1), .ref (ad 9), .ref (ad 17), .ref (ad 67), .ref (ad 69), .ref (ad 73), .int (bI hs)]) := hC
  have htB := HP.tlt
  by_cases hy : btw x (nI 0) (nI 13) = true
  · obtain ⟨k, rfl, -, hk⟩ := btw_of (by decide) (by decide) hy
    exact stw0_mk (kk := 0) (tL_count l D cI cQ cL ad 86 F (by decide) _ hC (nI k) _ _ h85 _ (MX_of_MR (tX5_count l D cI cQ cL ad 86 F (by decide) r bB vB gB hB jB tB uB zB hN c8 b8 v8 g8 h8 j8 t8 u8 z8 hSn n9 st hn9 hst6 hPa aT ln hln hT c6 b6 v6 hM6 a7 d7 q7 hO hs hC (nI k) hy)) rfl rfl (by decide) (by decide)) (rf_up hR) (tX6_count l D cI cQ cL ad 86 _ 77 (by decide) r ps sl sd ne fa bu hs st ln pt th (rf_up hR) (nI k)) rfl rfl (by decide) (by decide) (INV_rf (ICl_up hI) _ (va_up_self _ _ _))
  · have hy := btw_f hy
    exact STw_weak (by exact stw_mk 1 (by decide) (tL_count_x l D cI cQ cL ad 86 F (by decide) _ hC x eA 1 ⟨rfl, rfl⟩ (tX5_count_b1 l hst D cI cQ cL ad 86 F (by decide) r bB vB gB hB jB tB uB zB hN c8 b8 v8 g8 h8 j8 t8 u8 z8 hSn n9 st hn9 hst6 hPa aT ln hln hT c6 b6 v6 hM6 a7 d7 q7 hO hs hC x hy) rfl rfl (by decide) (by decide)) h85 (fun h => absurd h (by decide)) hR (tX6_count l D cI cQ cL ad 86 _ 77 (by decide) r ps sl sd ne fa bu hs st ln pt th hR x) (by simp [tN, hy]) rfl rfl (by decide) (by decide) (INV_rf hI _ h85))
set_option maxRecDepth 100000 in
theorem in_why (l : Launch) (hst : l.stackTraces = false) (D : va_G) (cI cQ cL : ClassId) (ad : Nat → Nat) (F : Nat → va_E) (H : IN1 cI cQ cL ad F) (x y z z2 : Int32) : STw l D cI cQ cL ad 86 yL_why cL_why 7 [(0, 14, 17, 13), (0, 14, 21, 15)] yX6_why cX6_why 5 F (INV cI cQ cL ad) [.int x, .int y, .int z, .int z2] := by
  obtain ⟨r, ps, sl, sd, ne, fa, bu, hs, st, ln, pt, th, hR, ⟨bB, vB, gB, hB, jB, tB, uB, zB, Np, Wp, hN, HP⟩, hI, o85, h85⟩ := H
  obtain ⟨-, ⟨⟨R8, c8, b8, v8, g8, h8, j8, t8, u8, z8, N8, W8, hSn, hP8, hc8⟩, hSnp⟩, ⟨n9, hRg⟩, ⟨hln, aT, hT, haT⟩, ⟨⟨c6, b6, v6, hM6⟩, a7, d7, q7, hO, hKN⟩, hC⟩ := id hI
  obtain ⟨hn9, hst6, hPa, hri, hrk⟩ := id hRg
  obtain ⟨Rr, cr, br, vr, gr, hr9, jr, tr, ur, zr, Nr, Wr, hRi, hRp, hRc⟩ := hri n9 hn9
  have hC : F 0 = .inr (5, [.ref (ad 1), .ref (ad 9), .ref (ad 17), .ref (ad 67), .ref (ad 69), .ref (ad 73), .int (bI hs)]) := hC
  have htB := HP.tlt
  by_cases h1 : btw x (nI 0) (nI 12) = true
  · by_cases h2 : btw y (nI 0) (nI 12) = true
    · have hon := on_tt h1 h2
      obtain ⟨a, rfl, -, ha⟩ := btw_of (by decide) (by decide) h1
      obtain ⟨b, rfl, -, hb⟩ := btw_of (by decide) (by decide) h2
      by_cases h3 : btw z (nI 1) (nI 6) = true
      · obtain ⟨f, rfl, hf1, hf2⟩ := btw_of (by decide) (by decide) h3
        by_cases h4 : btw z2 (nI 0) (nI 7) = true
        · obtain ⟨d, rfl, -, hd⟩ := btw_of (by decide) (by decide) h4
          exact stw_mk 0 (by decide) (tL_why l D cI cQ cL ad 86 F (by decide) _ hC (nI a) (nI b) (nI f) (nI d) _ _ h85 _ (MX_of_MR (tX5_why l D cI cQ cL ad 86 F (by decide) r bB vB gB hB jB tB uB zB hN c8 b8 v8 g8 h8 j8 t8 u8 z8 hSn n9 st hn9 hst6 hPa aT ln hln hT c6 b6 v6 hM6 a7 d7 q7 hO hs hC (nI a) (nI b) (nI f) f rfl ⟨hf1, hf2⟩ (nI d) h4 hon)) rfl rfl (by decide) (by decide)) (va_up_self _ _ _) (fun _ => by rw [pk_uLs]; rw [HP.why (by omega) (by omega) hf1, pY_ok (by omega) (by omega) ⟨hf1, hf2⟩ (by omega)]) (rf_up hR) (tX6_why l D cI cQ cL ad 86 _ 77 (by decide) r ps sl sd ne fa bu hs st ln pt th (rf_up hR) (nI a) (nI b) (nI f) (nI d)) (by simp only [tY, h1, h2, h3, h4, if_true]) rfl rfl (by decide) (by decide) (INV_rf (ICl_up hI) _ (va_up_self _ _ _))
        · have h4 := btw_f h4
          exact stw_mk 2 (by decide) (tL_why_x l D cI cQ cL ad 86 F (by decide) _ hC (nI a) (nI b) (nI f) z2 eA 2 (Or.inr ⟨rfl, rfl⟩) (tX5_why_b3 l hst D cI cQ cL ad 86 F (by decide) r bB vB gB hB jB tB uB zB hN c8 b8 v8 g8 h8 j8 t8 u8 z8 hSn n9 st hn9 hst6 hPa aT ln hln hT c6 b6 v6 hM6 a7 d7 q7 hO hs hC (nI a) (nI b) (nI f) z2 hon h3 h4) rfl rfl (by decide) (by decide)) h85 (fun h => absurd h (by decide)) hR (tX6_why l D cI cQ cL ad 86 _ 77 (by decide) r ps sl sd ne fa bu hs st ln pt th hR (nI a) (nI b) (nI f) z2) (by simp [tY, h1, h2, h3, h4]) rfl rfl (by decide) (by decide) (INV_rf hI _ h85)
      · have h3 := btw_f h3
        exact stw_mk 2 (by decide) (tL_why_x l D cI cQ cL ad 86 F (by decide) _ hC (nI a) (nI b) z z2 eA 2 (Or.inr ⟨rfl, rfl⟩) (tX5_why_b2 l hst D cI cQ cL ad 86 F (by decide) r bB vB gB hB jB tB uB zB hN c8 b8 v8 g8 h8 j8 t8 u8 z8 hSn n9 st hn9 hst6 hPa aT ln hln hT c6 b6 v6 hM6 a7 d7 q7 hO hs hC (nI a) (nI b) z z2 hon h3) rfl rfl (by decide) (by decide)) h85 (fun h => absurd h (by decide)) hR (tX6_why l D cI cQ cL ad 86 _ 77 (by decide) r ps sl sd ne fa bu hs st ln pt th hR (nI a) (nI b) z z2) (by simp [tY, h1, h2, h3]) rfl rfl (by decide) (by decide) (INV_rf hI _ h85)
    · have h2 := btw_f h2
      exact stw_mk 1 (by decide) (tL_why_x l D cI cQ cL ad 86 F (by decide) _ hC x y z z2 eI 1 (Or.inl ⟨rfl, rfl⟩) (tX5_why_b1 l hst D cI cQ cL ad 86 F (by decide) r bB vB gB hB jB tB uB zB hN c8 b8 v8 g8 h8 j8 t8 u8 z8 hSn n9 st hn9 hst6 hPa aT ln hln hT c6 b6 v6 hM6 a7 d7 q7 hO hs hC x y z z2 (on_f2 h2)) rfl rfl (by decide) (by decide)) h85 (fun h => absurd h (by decide)) hR (tX6_why l D cI cQ cL ad 86 _ 77 (by decide) r ps sl sd ne fa bu hs st ln pt th hR x y z z2) (by simp [tY, h1, h2]) rfl rfl (by decide) (by decide) (INV_rf hI _ h85)
  · have h1 := btw_f h1
    exact stw_mk 1 (by decide) (tL_why_x l D cI cQ cL ad 86 F (by decide) _ hC x y z z2 eI 1 (Or.inl ⟨rfl, rfl⟩) (tX5_why_b1 l hst D cI cQ cL ad 86 F (by decide) r bB vB gB hB jB tB uB zB hN c8 b8 v8 g8 h8 j8 t8 u8 z8 hSn n9 st hn9 hst6 hPa aT ln hln hT c6 b6 v6 hM6 a7 d7 q7 hO hs hC x y z z2 (on_f1 h1)) rfl rfl (by decide) (by decide)) h85 (fun h => absurd h (by decide)) hR (tX6_why l D cI cQ cL ad 86 _ 77 (by decide) r ps sl sd ne fa bu hs st ln pt th hR x y z z2) (by simp [tY, h1]) rfl rfl (by decide) (by decide) (INV_rf hI _ h85)
set_option maxRecDepth 100000 in
theorem in_lands (l : Launch) (hst : l.stackTraces = false) (D : va_G) (cI cQ cL : ClassId) (ad : Nat → Nat) (F : Nat → va_E) (H : IN1 cI cQ cL ad F) (x y z : Int32) : STw l D cI cQ cL ad 86 yL_lands cL_lands 6 [(0, 12, 15, 13), (0, 12, 19, 15)] yX6_lands cX6_lands 4 F (INV cI cQ cL ad) [.int x, .int y, .int z] := by
  obtain ⟨r, ps, sl, sd, ne, fa, bu, hs, st, ln, pt, th, hR, ⟨bB, vB, gB, hB, jB, tB, uB, zB, Np, Wp, hN, HP⟩, hI, o85, h85⟩ := H
  obtain ⟨-, ⟨⟨R8, c8, b8, v8, g8, h8, j8, t8, u8, z8, N8, W8, hSn, hP8, hc8⟩, hSnp⟩, ⟨n9, hRg⟩, ⟨hln, aT, hT, haT⟩, ⟨⟨c6, b6, v6, hM6⟩, a7, d7, q7, hO, hKN⟩, hC⟩ := id hI
  obtain ⟨hn9, hst6, hPa, hri, hrk⟩ := id hRg
  obtain ⟨Rr, cr, br, vr, gr, hr9, jr, tr, ur, zr, Nr, Wr, hRi, hRp, hRc⟩ := hri n9 hn9
  have hC : F 0 = .inr (5, [.ref (ad 1), .ref (ad 9), .ref (ad 17), .ref (ad 67), .ref (ad 69), .ref (ad 73), .int (bI hs)]) := hC
  have htB := HP.tlt
  by_cases hx : wk x = true
  · obtain ⟨w, hw, rfl⟩ := wk_of hx
    have hb := (btw_wk _).trans hx
    by_cases hd : btw y (nI 0) (nI 7) = true
    · by_cases hf : btw z (nI 1) (nI 9) = true
      · obtain ⟨d, rfl, -, hd7⟩ := btw_of (by decide) (by decide) hd
        obtain ⟨f, rfl, hf1, hf2⟩ := btw_of (by decide) (by decide) hf
        exact stw_mk 0 (by decide) (tL_lands l D cI cQ cL ad 86 F (by decide) _ hC (nI w) (nI d) (nI f) _ _ h85 _ (MX_of_MR (tX5_lands l D cI cQ cL ad 86 F (by decide) r bB vB gB hB jB tB uB zB hN c8 b8 v8 g8 h8 j8 t8 u8 z8 hSn n9 st hn9 hst6 hPa aT ln hln hT c6 b6 v6 hM6 a7 d7 q7 hO hs hC (nI w) w rfl hw (nI d) hd (nI f) f rfl ⟨hf1, hf2⟩)) rfl rfl (by decide) (by decide)) (va_up_self _ _ _) (fun _ => by rw [pk_uLs]; rw [pL_ok hw (by omega) ⟨hf1, hf2⟩]; rfl) (rf_up hR) (tX6_lands l D cI cQ cL ad 86 _ 77 (by decide) r ps sl sd ne fa bu hs st ln pt th (rf_up hR) (nI w) (nI d) (nI f) HP.rok) (by simp only [tL, hb, hd, hf, if_true]) rfl rfl (by decide) (by decide) (INV_rf (ICl_up hI) _ (va_up_self _ _ _))
      · have hf := btw_f hf
        exact stw_mk 2 (by decide) (tL_lands_x l D cI cQ cL ad 86 F (by decide) _ hC (nI w) y z eA 2 (Or.inr ⟨rfl, rfl⟩) (tX5_lands_b3 l hst D cI cQ cL ad 86 F (by decide) r bB vB gB hB jB tB uB zB hN c8 b8 v8 g8 h8 j8 t8 u8 z8 hSn n9 st hn9 hst6 hPa aT ln hln hT c6 b6 v6 hM6 a7 d7 q7 hO hs hC (nI w) w rfl hw y z hd hf) rfl rfl (by decide) (by decide)) h85 (fun h => absurd h (by decide)) hR (tX6_lands l D cI cQ cL ad 86 _ 77 (by decide) r ps sl sd ne fa bu hs st ln pt th hR (nI w) y z HP.rok) (by simp [tL, hb, hd, hf]) rfl rfl (by decide) (by decide) (INV_rf hI _ h85)
    · have hd := btw_f hd
      exact stw_mk 2 (by decide) (tL_lands_x l D cI cQ cL ad 86 F (by decide) _ hC (nI w) y z eA 2 (Or.inr ⟨rfl, rfl⟩) (tX5_lands_b2 l hst D cI cQ cL ad 86 F (by decide) r bB vB gB hB jB tB uB zB hN c8 b8 v8 g8 h8 j8 t8 u8 z8 hSn n9 st hn9 hst6 hPa aT ln hln hT c6 b6 v6 hM6 a7 d7 q7 hO hs hC (nI w) w rfl hw y z hd) rfl rfl (by decide) (by decide)) h85 (fun h => absurd h (by decide)) hR (tX6_lands l D cI cQ cL ad 86 _ 77 (by decide) r ps sl sd ne fa bu hs st ln pt th hR (nI w) y z HP.rok) (by simp [tL, hb, hd]) rfl rfl (by decide) (by decide) (INV_rf hI _ h85)
  · have hx := bool_f hx
    have hb := (btw_wk _).trans hx
    exact stw_mk 1 (by decide) (tL_lands_x l D cI cQ cL ad 86 F (by decide) _ hC x y z eI 1 (Or.inl ⟨rfl, rfl⟩) (tX5_lands_b1 l hst D cI cQ cL ad 86 F (by decide) r bB vB gB hB jB tB uB zB hN c8 b8 v8 g8 h8 j8 t8 u8 z8 hSn n9 st hn9 hst6 hPa aT ln hln hT c6 b6 v6 hM6 a7 d7 q7 hO hs hC x y z hx) rfl rfl (by decide) (by decide)) h85 (fun h => absurd h (by decide)) hR (tX6_lands l D cI cQ cL ad 86 _ 77 (by decide) r ps sl sd ne fa bu hs st ln pt th hR x y z HP.rok) (by simp [tL, hb]) rfl rfl (by decide) (by decide) (INV_rf hI _ h85)
set_option maxRecDepth 100000 in
theorem in_ifFlown (l : Launch) (hst : l.stackTraces = false) (D : va_G) (cI cQ cL : ClassId) (ad : Nat → Nat) (F : Nat → va_E) (H : IN1 cI cQ cL ad F) (x y z z2 : Int32) : STw0 l D cI cQ cL ad 86 yL_ifFlown cL_ifFlown 7 [(0, 14, 17, 13), (0, 14, 21, 15)] yX6_ifFlown cX6_ifFlown 5 F (INV cI cQ cL ad) [.int x, .int y, .int z, .int z2] := by
  obtain ⟨r, ps, sl, sd, ne, fa, bu, hs, st, ln, pt, th, hR, ⟨bB, vB, gB, hB, jB, tB, uB, zB, Np, Wp, hN, HP⟩, hI, o85, h85⟩ := H
  obtain ⟨-, ⟨⟨R8, c8, b8, v8, g8, h8, j8, t8, u8, z8, N8, W8, hSn, hP8, hc8⟩, hSnp⟩, ⟨n9, hRg⟩, ⟨hln, aT, hT, haT⟩, ⟨⟨c6, b6, v6, hM6⟩, a7, d7, q7, hO, hKN⟩, hC⟩ := id hI
  obtain ⟨hn9, hst6, hPa, hri, hrk⟩ := id hRg
  obtain ⟨Rr, cr, br, vr, gr, hr9, jr, tr, ur, zr, Nr, Wr, hRi, hRp, hRc⟩ := hri n9 hn9
  have hC : F 0 = .inr (5, [.ref (ad 1), .ref (ad 9), .ref (ad 17), .ref (ad 67), .ref (ad 69), .ref (ad 73), .int (bI hs)]) := hC
  have htB := HP.tlt
  by_cases hx : wk x = true
  · obtain ⟨w, hw, rfl⟩ := wk_of hx
    have hb := (btw_wk _).trans hx
    by_cases hd : btw y (nI 0) (nI 7) = true
    · by_cases hf : btw z (nI 1) (nI 9) = true
      · obtain ⟨d, rfl, -, hd7⟩ := btw_of (by decide) (by decide) hd
        obtain ⟨f, rfl, hf1, hf2⟩ := btw_of (by decide) (by decide) hf
        by_cases ha : btw z2 (nI 0) (nI 1) = true
        · obtain ⟨a, rfl, -, ha1⟩ := btw_of (by decide) (by decide) ha
          by_cases hwn : wnf r vB tB w = 0
          · exact stw0_mk (kk := 0) (tL_ifFlown l D cI cQ cL ad 86 F (by decide) _ hC (nI w) (nI d) (nI f) (nI a) _ _ ((mSet_out (by decide)).trans h85) _ (tX5_ifFlown l D cI cQ cL ad 86 F (by decide) r bB vB gB hB jB tB uB zB hN c8 b8 v8 g8 h8 j8 t8 u8 z8 hSn n9 st hn9 hst6 hPa aT ln hln hT c6 b6 v6 hM6 a7 d7 q7 hO hs hC htB (nI w) w rfl hw (nI d) hd (nI f) f rfl ⟨hf1, hf2⟩ (nI a) ha hwn) rfl rfl (by decide) (by decide)) (rf_up (rf_tm hR)) (tX6_ifFlown l D cI cQ cL ad 86 _ 77 (by decide) r ps sl sd ne fa bu hs st ln pt th (rf_up (rf_tm hR)) (nI w) (nI d) (nI f) (nI a) HP.rok) rfl rfl (by decide) (by decide) (INV_rf (ICl_up (ICl_tm hI)) _ (va_up_self _ _ _))
          · exact stw0_mk (kk := 0) (tL_ifFlown l D cI cQ cL ad 86 F (by decide) _ hC (nI w) (nI d) (nI f) (nI a) _ _ h85 _ (MX_of_MR (tX5_ifFlownX l D cI cQ cL ad 86 F (by decide) r bB vB gB hB jB tB uB zB hN c8 b8 v8 g8 h8 j8 t8 u8 z8 hSn n9 st hn9 hst6 hPa aT ln hln hT c6 b6 v6 hM6 a7 d7 q7 hO hs hC htB (nI w) w rfl hw (nI d) hd (nI f) f rfl ⟨hf1, hf2⟩ (nI a) ha hwn)) rfl rfl (by decide) (by decide)) (rf_up hR) (tX6_ifFlown l D cI cQ cL ad 86 _ 77 (by decide) r ps sl sd ne fa bu hs st ln pt th (rf_up hR) (nI w) (nI d) (nI f) (nI a) HP.rok) rfl rfl (by decide) (by decide) (INV_rf (ICl_up hI) _ (va_up_self _ _ _))
        · have ha := btw_f ha
          exact STw_weak (by exact stw_mk 2 (by decide) (tL_ifFlown_x l D cI cQ cL ad 86 F (by decide) _ hC (nI w) (nI d) (nI f) z2 eA 2 (Or.inr ⟨rfl, rfl⟩) (tX5_ifFlownX_b4 l hst D cI cQ cL ad 86 F (by decide) r bB vB gB hB jB tB uB zB hN c8 b8 v8 g8 h8 j8 t8 u8 z8 hSn n9 st hn9 hst6 hPa aT ln hln hT c6 b6 v6 hM6 a7 d7 q7 hO hs hC (nI w) w rfl hw (nI d) hd (nI f) f rfl ⟨hf1, hf2⟩ z2 ha) rfl rfl (by decide) (by decide)) h85 (fun h => absurd h (by decide)) hR (tX6_ifFlown l D cI cQ cL ad 86 _ 77 (by decide) r ps sl sd ne fa bu hs st ln pt th hR (nI w) (nI d) (nI f) z2 HP.rok) (by simp [tI, hb, hd, hf, ha]) rfl rfl (by decide) (by decide) (INV_rf hI _ h85))
      · have hf := btw_f hf
        exact STw_weak (by exact stw_mk 2 (by decide) (tL_ifFlown_x l D cI cQ cL ad 86 F (by decide) _ hC (nI w) y z z2 eA 2 (Or.inr ⟨rfl, rfl⟩) (tX5_ifFlownX_b3 l hst D cI cQ cL ad 86 F (by decide) r bB vB gB hB jB tB uB zB hN c8 b8 v8 g8 h8 j8 t8 u8 z8 hSn n9 st hn9 hst6 hPa aT ln hln hT c6 b6 v6 hM6 a7 d7 q7 hO hs hC (nI w) w rfl hw y z hd hf z2) rfl rfl (by decide) (by decide)) h85 (fun h => absurd h (by decide)) hR (tX6_ifFlown l D cI cQ cL ad 86 _ 77 (by decide) r ps sl sd ne fa bu hs st ln pt th hR (nI w) y z z2 HP.rok) (by simp [tI, hb, hd, hf]) rfl rfl (by decide) (by decide) (INV_rf hI _ h85))
    · have hd := btw_f hd
      exact STw_weak (by exact stw_mk 2 (by decide) (tL_ifFlown_x l D cI cQ cL ad 86 F (by decide) _ hC (nI w) y z z2 eA 2 (Or.inr ⟨rfl, rfl⟩) (tX5_ifFlownX_b2 l hst D cI cQ cL ad 86 F (by decide) r bB vB gB hB jB tB uB zB hN c8 b8 v8 g8 h8 j8 t8 u8 z8 hSn n9 st hn9 hst6 hPa aT ln hln hT c6 b6 v6 hM6 a7 d7 q7 hO hs hC (nI w) w rfl hw y z hd z2) rfl rfl (by decide) (by decide)) h85 (fun h => absurd h (by decide)) hR (tX6_ifFlown l D cI cQ cL ad 86 _ 77 (by decide) r ps sl sd ne fa bu hs st ln pt th hR (nI w) y z z2 HP.rok) (by simp [tI, hb, hd]) rfl rfl (by decide) (by decide) (INV_rf hI _ h85))
  · have hx := bool_f hx
    have hb := (btw_wk _).trans hx
    exact STw_weak (by exact stw_mk 1 (by decide) (tL_ifFlown_x l D cI cQ cL ad 86 F (by decide) _ hC x y z z2 eI 1 (Or.inl ⟨rfl, rfl⟩) (tX5_ifFlownX_b1 l hst D cI cQ cL ad 86 F (by decide) r bB vB gB hB jB tB uB zB hN c8 b8 v8 g8 h8 j8 t8 u8 z8 hSn n9 st hn9 hst6 hPa aT ln hln hT c6 b6 v6 hM6 a7 d7 q7 hO hs hC x y z hx z2) rfl rfl (by decide) (by decide)) h85 (fun h => absurd h (by decide)) hR (tX6_ifFlown l D cI cQ cL ad 86 _ 77 (by decide) r ps sl sd ne fa bu hs st ln pt th hR x y z z2 HP.rok) (by simp [tI, hb]) rfl rfl (by decide) (by decide) (INV_rf hI _ h85))
set_option maxRecDepth 100000 in
theorem in_flightsTo (l : Launch) (hst : l.stackTraces = false) (D : va_G) (cI cQ cL : ClassId) (ad : Nat → Nat) (F : Nat → va_E) (H : IN1 cI cQ cL ad F) (x : Int32) : STw l D cI cQ cL ad 86 yL_flightsTo cL_flightsTo 4 [(0, 9, 12, 13)] yX6_flightsTo cX6_flightsTo 2 F (INV cI cQ cL ad) [.int x] := by
  obtain ⟨r, ps, sl, sd, ne, fa, bu, hs, st, ln, pt, th, hR, ⟨bB, vB, gB, hB, jB, tB, uB, zB, Np, Wp, hN, HP⟩, hI, o85, h85⟩ := H
  obtain ⟨-, ⟨⟨R8, c8, b8, v8, g8, h8, j8, t8, u8, z8, N8, W8, hSn, hP8, hc8⟩, hSnp⟩, ⟨n9, hRg⟩, ⟨hln, aT, hT, haT⟩, ⟨⟨c6, b6, v6, hM6⟩, a7, d7, q7, hO, hKN⟩, hC⟩ := id hI
  obtain ⟨hn9, hst6, hPa, hri, hrk⟩ := id hRg
  obtain ⟨Rr, cr, br, vr, gr, hr9, jr, tr, ur, zr, Nr, Wr, hRi, hRp, hRc⟩ := hri n9 hn9
  have hC : F 0 = .inr (5, [.ref (ad 1), .ref (ad 9), .ref (ad 17), .ref (ad 67), .ref (ad 69), .ref (ad 73), .int (bI hs)]) := hC
  have htB := HP.tlt
  by_cases hx : wk x = true
  · obtain ⟨w, hw, rfl⟩ := wk_of hx
    by_cases hpt : pot r w = true
    · exact stw_mk 0 (by decide) (tL_flightsTo l D cI cQ cL ad 86 F (by decide) _ hC (nI w) _ _ h85 _ (MX_of_MR (tX5_flightsToX l D cI cQ cL ad 86 F (by decide) r bB vB gB hB jB tB uB zB hN c8 b8 v8 g8 h8 j8 t8 u8 z8 hSn n9 st hn9 hst6 hPa aT ln hln hT c6 b6 v6 hM6 a7 d7 q7 hO hs hC (nI w) w rfl hw hpt)) rfl rfl (by decide) (by decide)) (va_up_self _ _ _) (fun _ => by rw [pk_uLs]) (rf_up hR) (tX6_flightsToP l D cI cQ cL ad 86 _ 77 (by decide) r ps sl sd ne fa bu hs st ln pt th (rf_up hR) (nI w) w rfl hw hpt) (rfl) rfl rfl (by decide) (by decide) (INV_rf (ICl_up hI) _ (va_up_self _ _ _))
    · have hpt := bool_f hpt
      obtain ⟨q, hq1, hq84, hqe⟩ := HP.cel hw hpt
      obtain ⟨n, hn⟩ := fwr_all w hq1
      have hix : ix (r w) = q := by rw [hqe]; exact ixn (by omega)
      have hM := (tX5_flightsTo l D cI cQ cL ad 86 F (by decide) r bB vB gB hB jB tB uB zB hN c8 b8 v8 g8 h8 j8 t8 u8 z8 hSn n9 st hn9 hst6 hPa aT ln hln hT c6 b6 v6 hM6 a7 d7 q7 hO hs hC (nI w) w rfl hw (fun _ => ⟨q, hq1, hqe⟩) hpt)
      obtain ⟨n', g1, g2, g3⟩ := few_ok (d := d7) (qq := q7) hKN hw hq1
      rw [hix] at hM
      exact stw_mk2 (tL_flightsTo l D cI cQ cL ad 86 F (by decide) _ hC (nI w) _ _ ((roSet_out (by decide)).trans h85) _ hM rfl rfl (by decide) (by decide)) (va_up_self _ _ _) (by rw [pk_uLs, fwr_un hn g1]; exact congrArg Int32.toInt64 g2) (rf_up (rf_ro hR)) (tX6_flightsTo l D cI cQ cL ad 86 _ 77 (by decide) r ps sl sd ne fa bu hs st ln pt th (rf_up (rf_ro hR)) (nI w) w rfl hw q n hqe hq1 hq84 hpt hn) rfl rfl (by decide) (by decide) (fun ne9 fa9 => INV_rf (ICl_up (ICl_ro hI g3)) _ (va_up_self _ _ _))
  · have hx := bool_f hx
    have hb := (btw_wk _).trans hx
    exact stw_mk 1 (by decide) (tL_flightsTo_x l D cI cQ cL ad 86 F (by decide) _ hC x eI 1 ⟨rfl, rfl⟩ (tX5_flightsToX_b1 l hst D cI cQ cL ad 86 F (by decide) r bB vB gB hB jB tB uB zB hN c8 b8 v8 g8 h8 j8 t8 u8 z8 hSn n9 st hn9 hst6 hPa aT ln hln hT c6 b6 v6 hM6 a7 d7 q7 hO hs hC x hx) rfl rfl (by decide) (by decide)) h85 (fun h => absurd h (by decide)) hR (tX6_flightsToX l D cI cQ cL ad 86 _ 77 (by decide) r ps sl sd ne fa bu hs st ln pt th hR x hb) (rfl) rfl rfl (by decide) (by decide) (INV_rf hI _ h85)
set_option maxRecDepth 100000 in
theorem in_play (l : Launch) (hst : l.stackTraces = false) (D : va_G) (cI cQ cL : ClassId) (ad : Nat → Nat) (F : Nat → va_E) (H : IN1 cI cQ cL ad F) : STwE l D cI cQ cL ad 86 yL_play cL_play 3 [(0, 8, 11, 15)] yX6_play cX6_play 3 F (INV cI cQ cL ad) [] := by
  obtain ⟨r, ps, sl, sd, ne, fa, bu, hs, st, ln, pt, th, hR, ⟨bB, vB, gB, hB, jB, tB, uB, zB, Np, Wp, hN, HP⟩, hI, o85, h85⟩ := H
  obtain ⟨-, ⟨⟨R8, c8, b8, v8, g8, h8, j8, t8, u8, z8, N8, W8, hSn, hP8, hc8⟩, hSnp⟩, ⟨n9, hRg⟩, ⟨hln, aT, hT, haT⟩, ⟨⟨c6, b6, v6, hM6⟩, a7, d7, q7, hO, hKN⟩, hC⟩ := id hI
  obtain ⟨hn9, hst6, hPa, hri, hrk⟩ := id hRg
  obtain ⟨Rr, cr, br, vr, gr, hr9, jr, tr, ur, zr, Nr, Wr, hRi, hRp, hRc⟩ := hri n9 hn9
  have hC : F 0 = .inr (5, [.ref (ad 1), .ref (ad 9), .ref (ad 17), .ref (ad 67), .ref (ad 69), .ref (ad 73), .int (bI hs)]) := hC
  have htB := HP.tlt
  have hrw : rwh aT ln = rwh bu ln := rwh_congr haT
  by_cases hw8 : sta aT ln = nI 8
  · have hh := (sta_rwh aT ln).mp hw8
    have hh2 : (rwh bu ln).1 = true := by rw [← hrw]; exact hh
    have hwf := rwh_wfT hln hh
    have hwf2 := rwh_wfT hln hh2
    have hrr := rRun_congr haT 61 0 r 0 hwf
    refine ⟨0, _, tL_play l D cI cQ cL ad 86 F (by decide) _ hC _ _ ?_ (tX5_play l D cI cQ cL ad 86 F (by decide) r bB vB gB hB jB tB uB zB hN aT ln hln hT hs hC n9 st hn9 hst6 hPa cr br vr gr hr9 jr tr ur zr hRi Np Wp HP hwf hw8) rfl rfl (by decide) (by decide), fun F1 hp1 => ?_⟩
    · rintro G ⟨b1, v1, g1, h1, j1, t1, u1, N1, W1, hPs, rfl⟩
      exact ⟨o85, (gtSet_out (by decide)).trans ((mv_out hn9 (by decide)).trans h85)⟩
    · obtain ⟨G, o, ⟨b1, v1, g1, h1, j1, t1, u1, N1, W1, hPs, hG⟩, ho, rfl⟩ := hp1
      subst hG
      rw [hrr] at hPs
      have hR1 := rf_up (x := .inl (cL, 1, .inr (.inl (vp_updL o 0 (nI (rRun aT ln 61 0 r 0).1).toInt64)))) (rf_tx (a' := aT) (n := 0) (rf_mv (cQ := cQ) (c := r) (b := bB) (v := vB) (g := gB) (h := hB) (j := jB) (t := nI tB) (u := uB) (z := zB) (c' := (rRun aT ln 61 0 r 0).2) (b' := b1) (v' := v1) (g' := g1) (h' := h1) (j' := j1) (t' := nI t1) (u' := u1) (z' := zB) (n1 := (n9 + 1) % 6) (m1 := min (st + 1) 6) hn9 hR))
      refine ⟨nI (rRun aT ln 61 0 r 0).1, _, _, _, _, by decide, va_up_self _ _ _, fun _ => by rw [pk_uLs], hR1.1, tX6_play l D cI cQ cL ad 86 _ 77 (by decide) r ps sl sd ne fa bu hs st ln pt th hR1 hst6 hln bB vB gB hB jB tB uB zB Np Wp HP hwf2 hh2, rfl, rfl, by decide, by decide, ?_⟩
      rintro v G ⟨rfl, rfl⟩
      refine ⟨by rw [hrr], INV_rf (ICl_up (ICl_tx (ICl_mv hI hN HP (fun _ _ => rfl) hRg hPs (fun x _ => by rw [hrr])) (by decide) (fun x hx => absurd hx (Nat.not_lt_zero x)))) _ (va_up_self _ _ _), rfSet_out (by omega), _, _, _, _, _, _, _, _, _, _, _, rfSet_at⟩
  · have hh2 : (rwh bu ln).1 = false := by
      rw [← hrw]
      cases h9 : (rwh aT ln).1 with
      | false => rfl
      | true => exact absurd ((sta_rwh aT ln).mpr h9) hw8
    refine ⟨1, _, MLE_of_ML (tL_play_x l D cI cQ cL ad 86 F (by decide) _ hC eA 1 ⟨rfl, rfl⟩ (tX5_playX_b1 l hst D cI cQ cL ad 86 _ (by decide) r bB vB gB hB jB tB uB zB hN c8 b8 v8 g8 h8 j8 t8 u8 z8 hSn n9 st hn9 hst6 hPa aT ln hln hT c6 b6 v6 hM6 a7 d7 q7 hO hs hC hw8) rfl rfl (by decide) (by decide)), fun F1 hp1 => ?_⟩
    subst hp1
    refine ⟨nI 0, o85, _, _, _, by decide, h85, fun h => absurd h (by decide), hR.1, tX6_playX l D cI cQ cL ad 86 _ 77 (by decide) r ps sl sd ne fa bu hs st ln pt th hR hln hh2, rfl, rfl, by decide, by decide, ?_⟩
    rintro v G ⟨rfl, rfl⟩
    exact ⟨rfl, INV_rf hI _ h85, rfSet_out (by omega), _, _, _, _, _, _, _, _, _, _, _, rfSet_at⟩
set_option maxRecDepth 100000 in
theorem in_clearBuffer (l : Launch) (D : va_G) (cI cQ cL : ClassId) (ad : Nat → Nat) (F : Nat → va_E) (H : IN1 cI cQ cL ad F) : STs l D cI cQ cL ad 86 yX5_clearBuffer cX5_clearBuffer 2 yX6_clearBuffer cX6_clearBuffer 2 .int okI F (INV cI cQ cL ad) := by
  obtain ⟨r, ps, sl, sd, ne, fa, bu, hs, st, ln, pt, th, hR, ⟨bB, vB, gB, hB, jB, tB, uB, zB, Np, Wp, hN, HP⟩, hI, o85, h85⟩ := H
  obtain ⟨-, ⟨⟨R8, c8, b8, v8, g8, h8, j8, t8, u8, z8, N8, W8, hSn, hP8, hc8⟩, hSnp⟩, ⟨n9, hRg⟩, ⟨hln, aT, hT, haT⟩, ⟨⟨c6, b6, v6, hM6⟩, a7, d7, q7, hO, hKN⟩, hC⟩ := id hI
  obtain ⟨hn9, hst6, hPa, hri, hrk⟩ := id hRg
  obtain ⟨Rr, cr, br, vr, gr, hr9, jr, tr, ur, zr, Nr, Wr, hRi, hRp, hRc⟩ := hri n9 hn9
  have hC : F 0 = .inr (5, [.ref (ad 1), .ref (ad 9), .ref (ad 17), .ref (ad 67), .ref (ad 69), .ref (ad 73), .int (bI hs)]) := hC
  have htB := HP.tlt
  exact sts_mk hC (⟨_, rfl⟩) (tX5_clearBuffer l D cI cQ cL ad 86 F (by decide) r bB vB gB hB jB tB uB zB hN c8 b8 v8 g8 h8 j8 t8 u8 z8 hSn n9 st hn9 hst6 hPa aT ln hln hT c6 b6 v6 hM6 a7 d7 q7 hO hs hC ) rfl rfl (by decide) (by decide) (rf_tx hR) (tX6_clearBuffer l D cI cQ cL ad 86 _ 77 (by decide) r ps sl sd ne fa bu hs st ln pt th (rf_tx hR) ) (rfl) rfl rfl (by decide) (by decide) (INV_rf (ICl_tx hI (by decide) (fun x hx => absurd hx (Nat.not_lt_zero x))) _ ((gtSet_out (by decide)).trans h85))
set_option maxRecDepth 100000 in
theorem in_firstError (l : Launch) (D : va_G) (cI cQ cL : ClassId) (ad : Nat → Nat) (F : Nat → va_E) (H : IN1 cI cQ cL ad F) : STs l D cI cQ cL ad 86 yX5_firstError cX5_firstError 1 yX6_firstError cX6_firstError 1 .int okI F (INV cI cQ cL ad) := by
  obtain ⟨r, ps, sl, sd, ne, fa, bu, hs, st, ln, pt, th, hR, ⟨bB, vB, gB, hB, jB, tB, uB, zB, Np, Wp, hN, HP⟩, hI, o85, h85⟩ := H
  obtain ⟨-, ⟨⟨R8, c8, b8, v8, g8, h8, j8, t8, u8, z8, N8, W8, hSn, hP8, hc8⟩, hSnp⟩, ⟨n9, hRg⟩, ⟨hln, aT, hT, haT⟩, ⟨⟨c6, b6, v6, hM6⟩, a7, d7, q7, hO, hKN⟩, hC⟩ := id hI
  obtain ⟨hn9, hst6, hPa, hri, hrk⟩ := id hRg
  obtain ⟨Rr, cr, br, vr, gr, hr9, jr, tr, ur, zr, Nr, Wr, hRi, hRp, hRc⟩ := hri n9 hn9
  have hC : F 0 = .inr (5, [.ref (ad 1), .ref (ad 9), .ref (ad 17), .ref (ad 67), .ref (ad 69), .ref (ad 73), .int (bI hs)]) := hC
  have htB := HP.tlt
  exact sts_mk hC (⟨_, rfl⟩) (MX_of_MR (tX5_firstError l D cI cQ cL ad 86 F (by decide) r bB vB gB hB jB tB uB zB hN c8 b8 v8 g8 h8 j8 t8 u8 z8 hSn n9 st hn9 hst6 hPa aT ln hln hT c6 b6 v6 hM6 a7 d7 q7 hO hs hC )) rfl rfl (by decide) (by decide) hR (tX6_firstError l D cI cQ cL ad 86 _ 77 (by decide) r ps sl sd ne fa bu hs st ln pt th hR hln) (by rw [eri_rwh, rwh_congr haT]) rfl rfl (by decide) (by decide) (INV_rf hI _ h85)
set_option maxRecDepth 100000 in
theorem in_keep (l : Launch) (D : va_G) (cI cQ cL : ClassId) (ad : Nat → Nat) (F : Nat → va_E) (H : IN1 cI cQ cL ad F) : STs l D cI cQ cL ad 86 yX5_keep cX5_keep 1 yX6_keep cX6_keep 2 .int okI F (INV cI cQ cL ad) := by
  obtain ⟨r, ps, sl, sd, ne, fa, bu, hs, st, ln, pt, th, hR, ⟨bB, vB, gB, hB, jB, tB, uB, zB, Np, Wp, hN, HP⟩, hI, o85, h85⟩ := H
  obtain ⟨-, ⟨⟨R8, c8, b8, v8, g8, h8, j8, t8, u8, z8, N8, W8, hSn, hP8, hc8⟩, hSnp⟩, ⟨n9, hRg⟩, ⟨hln, aT, hT, haT⟩, ⟨⟨c6, b6, v6, hM6⟩, a7, d7, q7, hO, hKN⟩, hC⟩ := id hI
  obtain ⟨hn9, hst6, hPa, hri, hrk⟩ := id hRg
  obtain ⟨Rr, cr, br, vr, gr, hr9, jr, tr, ur, zr, Nr, Wr, hRi, hRp, hRc⟩ := hri n9 hn9
  have hC : F 0 = .inr (5, [.ref (ad 1), .ref (ad 9), .ref (ad 17), .ref (ad 67), .ref (ad 69), .ref (ad 73), .int (bI hs)]) := hC
  have htB := HP.tlt
  exact sts_mk hC (⟨_, rfl⟩) (tX5_keep l D cI cQ cL ad 86 F (by decide) r bB vB gB hB jB tB uB zB hN c8 b8 v8 g8 h8 j8 t8 u8 z8 hSn n9 st hn9 hst6 hPa aT ln hln hT c6 b6 v6 hM6 a7 d7 q7 hO hs hC ) rfl rfl (by decide) (by decide) (rf_kp hR) (tX6_keep l D cI cQ cL ad 86 _ 77 (by decide) r ps sl sd ne fa bu hs st ln pt th (rf_kp hR) ) (rfl) rfl rfl (by decide) (by decide) (INV_rf (ICl_kp hI HP hSn) _ ((va_up_ne _ _ (by decide)).trans ((sSet_out (by decide)).trans h85)))
set_option maxRecDepth 100000 in
theorem in_pottedShare (l : Launch) (D : va_G) (cI cQ cL : ClassId) (ad : Nat → Nat) (F : Nat → va_E) (H : IN1 cI cQ cL ad F) : STs l D cI cQ cL ad 86 yX5_pottedShare cX5_pottedShare 1 yX6_pottedShare cX6_pottedShare 1 .double okD F (INV cI cQ cL ad) := by
  obtain ⟨r, ps, sl, sd, ne, fa, bu, hs, st, ln, pt, th, hR, ⟨bB, vB, gB, hB, jB, tB, uB, zB, Np, Wp, hN, HP⟩, hI, o85, h85⟩ := H
  obtain ⟨-, ⟨⟨R8, c8, b8, v8, g8, h8, j8, t8, u8, z8, N8, W8, hSn, hP8, hc8⟩, hSnp⟩, ⟨n9, hRg⟩, ⟨hln, aT, hT, haT⟩, ⟨⟨c6, b6, v6, hM6⟩, a7, d7, q7, hO, hKN⟩, hC⟩ := id hI
  obtain ⟨hn9, hst6, hPa, hri, hrk⟩ := id hRg
  obtain ⟨Rr, cr, br, vr, gr, hr9, jr, tr, ur, zr, Nr, Wr, hRi, hRp, hRc⟩ := hri n9 hn9
  have hC : F 0 = .inr (5, [.ref (ad 1), .ref (ad 9), .ref (ad 17), .ref (ad 67), .ref (ad 69), .ref (ad 73), .int (bI hs)]) := hC
  have htB := HP.tlt
  exact sts_mk hC (⟨_, rfl, shr_cmp (potn_le _)⟩) (MX_of_MR (tX5_pottedShare l D cI cQ cL ad 86 F (by decide) r bB vB gB hB jB tB uB zB hN c8 b8 v8 g8 h8 j8 t8 u8 z8 hSn n9 st hn9 hst6 hPa aT ln hln hT c6 b6 v6 hM6 a7 d7 q7 hO hs hC )) rfl rfl (by decide) (by decide) hR (tX6_pottedShare l D cI cQ cL ad 86 _ 77 (by decide) r ps sl sd ne fa bu hs st ln pt th hR ) (rfl) rfl rfl (by decide) (by decide) (INV_rf hI _ h85)
set_option maxRecDepth 100000 in
theorem in_meanPile (l : Launch) (D : va_G) (cI cQ cL : ClassId) (ad : Nat → Nat) (F : Nat → va_E) (H : IN1 cI cQ cL ad F) : STs l D cI cQ cL ad 86 yX5_meanPile cX5_meanPile 2 yX6_meanPile cX6_meanPile 1 .float okF F (INV cI cQ cL ad) := by
  obtain ⟨r, ps, sl, sd, ne, fa, bu, hs, st, ln, pt, th, hR, ⟨bB, vB, gB, hB, jB, tB, uB, zB, Np, Wp, hN, HP⟩, hI, o85, h85⟩ := H
  obtain ⟨-, ⟨⟨R8, c8, b8, v8, g8, h8, j8, t8, u8, z8, N8, W8, hSn, hP8, hc8⟩, hSnp⟩, ⟨n9, hRg⟩, ⟨hln, aT, hT, haT⟩, ⟨⟨c6, b6, v6, hM6⟩, a7, d7, q7, hO, hKN⟩, hC⟩ := id hI
  obtain ⟨hn9, hst6, hPa, hri, hrk⟩ := id hRg
  obtain ⟨Rr, cr, br, vr, gr, hr9, jr, tr, ur, zr, Nr, Wr, hRi, hRp, hRc⟩ := hri n9 hn9
  have hC : F 0 = .inr (5, [.ref (ad 1), .ref (ad 9), .ref (ad 17), .ref (ad 67), .ref (ad 69), .ref (ad 73), .int (bI hs)]) := hC
  have htB := HP.tlt
  exact sts_mk hC (⟨_, rfl, n64_ok (mea_c64 _ (Nat.lt_succ_of_le (cnt_le _ 16)) _ (Nat.lt_succ_of_le (potn_le _))).1, (mea_c64 _ (Nat.lt_succ_of_le (cnt_le _ 16)) _ (Nat.lt_succ_of_le (potn_le _))).2⟩) (MX_of_MR (tX5_meanPile l D cI cQ cL ad 86 F (by decide) r bB vB gB hB jB tB uB zB hN c8 b8 v8 g8 h8 j8 t8 u8 z8 hSn n9 st hn9 hst6 hPa aT ln hln hT c6 b6 v6 hM6 a7 d7 q7 hO hs hC )) rfl rfl (by decide) (by decide) hR (tX6_meanPile l D cI cQ cL ad 86 _ 77 (by decide) r ps sl sd ne fa bu hs st ln pt th hR ) (by rw [HP.bots]) rfl rfl (by decide) (by decide) (INV_rf hI _ h85)
set_option maxRecDepth 100000 in
theorem in_best (l : Launch) (D : va_G) (cI cQ cL : ClassId) (ad : Nat → Nat) (F : Nat → va_E) (H : IN1 cI cQ cL ad F) : STs0 l D cI cQ cL ad 86 yX5_best cX5_best 11 yX6_best cX6_best 1 .int okI F (INV cI cQ cL ad) := by
  obtain ⟨r, ps, sl, sd, ne, fa, bu, hs, st, ln, pt, th, hR, ⟨bB, vB, gB, hB, jB, tB, uB, zB, Np, Wp, hN, HP⟩, hI, o85, h85⟩ := H
  obtain ⟨-, ⟨⟨R8, c8, b8, v8, g8, h8, j8, t8, u8, z8, N8, W8, hSn, hP8, hc8⟩, hSnp⟩, ⟨n9, hRg⟩, ⟨hln, aT, hT, haT⟩, ⟨⟨c6, b6, v6, hM6⟩, a7, d7, q7, hO, hKN⟩, hC⟩ := id hI
  obtain ⟨hn9, hst6, hPa, hri, hrk⟩ := id hRg
  obtain ⟨Rr, cr, br, vr, gr, hr9, jr, tr, ur, zr, Nr, Wr, hRi, hRp, hRc⟩ := hri n9 hn9
  have hC : F 0 = .inr (5, [.ref (ad 1), .ref (ad 9), .ref (ad 17), .ref (ad 67), .ref (ad 69), .ref (ad 73), .int (bI hs)]) := hC
  have htB := HP.tlt
  exact sts0_mk hC ⟨_, rfl⟩ ⟨_, rfl⟩ (tX5_best l D cI cQ cL ad 86 F (by decide) r bB vB gB hB jB tB uB zB hN c8 b8 v8 g8 h8 j8 t8 u8 z8 hSn n9 st hn9 hst6 hPa aT ln hln hT c6 b6 v6 hM6 a7 d7 q7 hO hs hC htB) rfl rfl (by decide) (by decide) (rf_tm hR) (tX6_best l D cI cQ cL ad 86 _ 77 (by decide) r ps sl sd ne fa bu hs st ln pt th (rf_tm hR) HP.rok) rfl rfl (by decide) (by decide) (INV_rf (ICl_tm hI) _ ((mSet_out (by decide)).trans h85))
set_option maxRecDepth 100000 in
theorem in_digest (l : Launch) (D : va_G) (cI cQ cL : ClassId) (ad : Nat → Nat) (F : Nat → va_E) (H : IN1 cI cQ cL ad F) : STs0 l D cI cQ cL ad 86 yX5_digest cX5_digest 4 yX6_digest cX6_digest 4 .long okL F (INV cI cQ cL ad) := by
  obtain ⟨r, ps, sl, sd, ne, fa, bu, hs, st, ln, pt, th, hR, ⟨bB, vB, gB, hB, jB, tB, uB, zB, Np, Wp, hN, HP⟩, hI, o85, h85⟩ := H
  obtain ⟨-, ⟨⟨R8, c8, b8, v8, g8, h8, j8, t8, u8, z8, N8, W8, hSn, hP8, hc8⟩, hSnp⟩, ⟨n9, hRg⟩, ⟨hln, aT, hT, haT⟩, ⟨⟨c6, b6, v6, hM6⟩, a7, d7, q7, hO, hKN⟩, hC⟩ := id hI
  obtain ⟨hn9, hst6, hPa, hri, hrk⟩ := id hRg
  obtain ⟨Rr, cr, br, vr, gr, hr9, jr, tr, ur, zr, Nr, Wr, hRi, hRp, hRc⟩ := hri n9 hn9
  have hC : F 0 = .inr (5, [.ref (ad 1), .ref (ad 9), .ref (ad 17), .ref (ad 67), .ref (ad 69), .ref (ad 73), .int (bI hs)]) := hC
  have htB := HP.tlt
  obtain ⟨nf, hnf⟩ := HP.nfx
  have hR1 := rf_tm (c := (cbO r bB vB tB ((-1 : Int32), nI 0, nI 0, c6, b6, v6) 16).2.2.2.1) (b := (cbO r bB vB tB ((-1 : Int32), nI 0, nI 0, c6, b6, v6) 16).2.2.2.2.1) (v := (cbO r bB vB tB ((-1 : Int32), nI 0, nI 0, c6, b6, v6) 16).2.2.2.2.2) (rf_ro (a := (cRo r (a7, d7, q7) 16).1) (d := (cRo r (a7, d7, q7) 16).2.1) (q := (cRo r (a7, d7, q7) 16).2.2) hR)
  refine ⟨_, _, _, _, _, _, _, ⟨_, rfl⟩, hC, (tX5_digest l D cI cQ cL ad 86 F (by decide) r bB vB gB hB jB tB uB zB hN c8 b8 v8 g8 h8 j8 t8 u8 z8 hSn n9 st hn9 hst6 hPa aT ln hln hT c6 b6 v6 hM6 a7 d7 q7 hO hs hC htB (fun w hw hp => HP.rok.2.2.1 w hw hp)), rfl, rfl, by decide, by decide, hR1.1, (tX6_digest l D cI cQ cL ad 86 _ 77 (by decide) r ps sl sd ne fa bu hs st ln pt th hR1 nf hnf HP.rok hln), rfl, rfl, by decide, by decide, ?_⟩
  rintro v G ⟨rfl, ne9, fa9, rfl⟩
  exact ⟨⟨_, ⟨_, rfl⟩, rfl⟩, INV_rf (ICl_tm (ICl_ro hI (cRo_kn (s := (a7, d7, q7)) hKN (fun w hw hp => HP.ixl w hw hp) 16 (Nat.le_refl _)))) _ ((mSet_out (by decide)).trans ((roSet_out (by decide)).trans h85))⟩
end
/-! from first -/
section
/-! the first state -/
theorem rw_c : ∀ w, w < 16 → mC 16 w = row0 w := by decide +kernel
def FM (cI cQ cL : ClassId) (b0 : Nat) : Nat → va_E := mSet cI (FL cI cQ cL b0) 2 row0 (mB 16) (mV 16)
theorem FM_of {D : va_G} {cI cQ cL : ClassId} {b0 : Nat} {H : Heap} (hP : va_P D vwCl (iW (pb b0) 86 (FL cI cQ cL b0)) H) : va_P D vwCl (iW (pb b0) 86 (FM cI cQ cL b0)) H := by
  refine iW_ext hP (fun k hk => ?_)
  by_cases h3 : k = 3
  · subst h3
    exact Or.inr ⟨cI, 16, mC 16, row0, rfl, rfl, fun j hj => rw_c j hj⟩
  · refine Or.inl ?_
    by_cases h4 : k = 4
    · subst h4; rfl
    · by_cases h5 : k = 5
      · subst h5; rfl
      · exact (mSet_out (by omega)).symm
section FMS
variable {cI cQ cL : ClassId} {b0 : Nat}
theorem fm_N : stAt cI (pb b0) (FM cI cQ cL b0) 1 row0 (mB 16) (mV 16) z0 z0 z0 (nI 0) (nI 0) (nI 3) := ⟨rfl, ⟨rfl, rfl, rfl, rfl⟩, rfl, rfl, rfl⟩
theorem fm_S : stAt cI (pb b0) (FM cI cQ cL b0) 9 (mC 16) (mB 16) (mV 16) z0 z0 z0 (nI 0) (nI 0) (nI 3) := ⟨rfl, ⟨rfl, rfl, rfl, rfl⟩, rfl, rfl, rfl⟩
theorem fm_P : paAt cQ (pb b0) (FM cI cQ cL b0) 17 0 0 := ⟨rfl, rfl⟩
theorem fm_R : stAt cI (pb b0) (FM cI cQ cL b0) 19 (mC 16) (mB 16) (mV 16) z0 z0 z0 (nI 0) (nI 0) (nI 3) := ⟨rfl, ⟨rfl, rfl, rfl, rfl⟩, rfl, rfl, rfl⟩
theorem fm_T : gtAt cI (pb b0) (FM cI cQ cL b0) 67 z0 0 := ⟨rfl, rfl⟩
theorem fm_M : matAt cI (pb b0) (FM cI cQ cL b0) 69 (mC 16) (mB 16) (mV 16) := ⟨rfl, rfl, rfl, rfl⟩
theorem fm_O : roAt cI (pb b0) (FM cI cQ cL b0) 73 z0 z0 z0 := ⟨rfl, rfl, rfl, rfl⟩
theorem fm_0 : FM cI cQ cL b0 0 = .inr (5, [.ref (pb b0 1), .ref (pb b0 9), .ref (pb b0 17), .ref (pb b0 67), .ref (pb b0 69), .ref (pb b0 73), .int (bI false)]) := rfl
theorem fm_85 : FM cI cQ cL b0 85 = .inl (cL, 1, .inr (.inl (fun _ => 0))) := rfl
theorem fm_r : rfAt cI (pb b0) (FM cI cQ cL b0) 77 row0 z0 z0 z0 z0 z0 z0 false 0 0 0 (nI 0) := ⟨rfl, rfl, rfl, rfl, rfl, rfl, rfl, rfl⟩
end FMS
def N0 (q : Nat) : Nat := if q = 0 ∨ q = 12 ∨ q = 168 ∨ q = 156 then 4 else 0
def W0 (q i : Nat) : Nat := (if q = 0 then 0 else if q = 12 then 4 else if q = 168 then 8 else 12) + i
theorem N0_i {q i : Nat} (h : i < N0 q) : i < 4 ∧ (q = 0 ∨ q = 12 ∨ q = 168 ∨ q = 156) := by
  unfold N0 at h
  by_cases hq : q = 0 ∨ q = 12 ∨ q = 168 ∨ q = 156
  · rw [if_pos hq] at h
    exact ⟨h, hq⟩
  · rw [if_neg hq] at h
    omega
theorem f0_c : ∀ i, i < 4 → (row0 (W0 0 i) = nI 0 ∧ row0 (W0 12 i) = nI 12 ∧ row0 (W0 168 i) = nI 168 ∧ row0 (W0 156 i) = nI 156) := by decide +kernel
theorem f0_b : ∀ i, i < 4 → ∀ q, q < 169 → (q = 0 ∨ q = 12 ∨ q = 168 ∨ q = 156) → (mB 16 (W0 q i) = if i = 0 then -1 else nI (W0 q (i - 1))) ∧ (mV 16 (W0 q i) = if i + 1 < 4 then nI (W0 q (i + 1)) else -1) ∧ row0 (16 + W0 q i) = nI i := by decide +kernel
theorem f0_m : ∀ w, w < 16 → row0 w ≠ -1 := by decide +kernel
theorem f0_o : (∀ w, w < 16 → z0 w = row0 (32 + w)) ∧ (∀ i, i < 4 → z0 i = row0 (48 + i)) ∧ nI 0 = row0 59 ∧ nI 3 = row0 57 ∧ smi z0 16 = row0 58 ∧ (∀ i, i < 4 → row0 (52 + i) = nI 0) ∧ row0 56 = nI 0 := by decide +kernel
theorem f0_w : ∀ w, w < 16 → W0 (bs (w / 4)) (w % 4) = w ∧ N0 (bs (w / 4)) = 4 := by decide +kernel
theorem Pos_0 : Pos row0 (mB 16) (mV 16) z0 z0 z0 0 (nI 0) (nI 3) N0 W0 := by
  obtain ⟨o1, o2, o3, o4, o5, o6, o7⟩ := f0_o
  refine ⟨⟨fun q i hi => ?_, fun q i j hi hj hw => ?_, fun w hw => Or.inr ⟨bs (w / 4), w % 4, by rw [(f0_w w hw).2]; omega, (f0_w w hw).1⟩⟩, ⟨fun q i hi => ?_, fun q i hi => ?_, fun w hw hm => absurd hm (f0_m w hw)⟩, ⟨fun q i hi => ?_, fun w hw hm => absurd hm (f0_m w hw)⟩, o1, o2, o3, o4, o5, by decide, ?_, fun i hi => Or.inl (o6 i hi), fun _ => ⟨o7.symm, o6 0 (by decide), fun i hi => by rw [o6 i hi]; rfl⟩⟩
  · obtain ⟨h1, h2⟩ := N0_i hi
    obtain ⟨a1, a2, a3, a4⟩ := f0_c i h1
    rcases h2 with rfl | rfl | rfl | rfl
    · exact ⟨by unfold W0; simp; omega, by decide, by decide, a1⟩
    · exact ⟨by unfold W0; simp; omega, by decide, by decide, a2⟩
    · exact ⟨by unfold W0; simp; omega, by decide, by decide, a3⟩
    · exact ⟨by unfold W0; simp; omega, by decide, by decide, a4⟩
  · unfold W0 at hw
    omega
  · obtain ⟨h1, h2⟩ := N0_i hi
    exact (f0_b i h1 q (by omega) h2).1
  · obtain ⟨h1, h2⟩ := N0_i hi
    have h3 := (f0_b i h1 q (by omega) h2).2.1
    rw [show N0 q = 4 by unfold N0; rw [if_pos h2]]
    exact h3
  · obtain ⟨h1, h2⟩ := N0_i hi
    exact (f0_b i h1 q (by omega) h2).2.2
  · unfold rTu
    rw [o7]
    exact ⟨by decide, by decide⟩
theorem INV_0 {cI cQ cL : ClassId} {b0 : Nat} : INV cI cQ cL (pb b0) (FM cI cQ cL b0) := by
  have hS : ∀ k, stAt cI (pb b0) (FM cI cQ cL b0) k (mC 16) (mB 16) (mV 16) z0 z0 z0 (nI 0) (nI 0) (nI 3) → SP cI (pb b0) (FM cI cQ cL b0) k row0 := fun k h => ⟨mC 16, mB 16, mV 16, z0, z0, z0, 0, nI 0, nI 3, N0, W0, h, Pos_0, rw_c⟩
  refine ⟨row0, z0, z0, z0, z0, z0, z0, false, 0, 0, 0, nI 0, fm_r, ⟨⟨row0, mB 16, mV 16, z0, z0, z0, 0, nI 0, nI 3, N0, W0, fm_N, Pos_0, fun _ _ => rfl⟩, ⟨⟨row0, hS 9 fm_S⟩, fun h => absurd h (by decide)⟩, ⟨0, by decide, by decide, fm_P, fun i hi => ⟨row0, hS _ ?_⟩, fun k hk => absurd hk (Nat.not_lt_zero k)⟩, ⟨by decide, z0, fm_T, fun x hx => absurd hx (Nat.not_lt_zero x)⟩, ⟨⟨_, _, _, fm_M⟩, z0, z0, z0, fm_O, KNa_0 (fun _ _ => rfl)⟩, fm_0⟩, _, fm_85⟩
  match i, hi with
  | 0, _ => exact ⟨rfl, ⟨rfl, rfl, rfl, rfl⟩, rfl, rfl, rfl⟩
  | 1, _ => exact ⟨rfl, ⟨rfl, rfl, rfl, rfl⟩, rfl, rfl, rfl⟩
  | 2, _ => exact ⟨rfl, ⟨rfl, rfl, rfl, rfl⟩, rfl, rfl, rfl⟩
  | 3, _ => exact ⟨rfl, ⟨rfl, rfl, rfl, rfl⟩, rfl, rfl, rfl⟩
  | 4, _ => exact ⟨rfl, ⟨rfl, rfl, rfl, rfl⟩, rfl, rfl, rfl⟩
  | 5, _ => exact ⟨rfl, ⟨rfl, rfl, rfl, rfl⟩, rfl, rfl, rfl⟩
  | i + 6, h => exact absurd h (by omega)
theorem STwE_eqv {l : Launch} {D : va_G} {cI cQ cL : ClassId} {ad : Nat → Nat} {yL : MethodName} {bL : ByteArray} {mL : Nat} {hh : List (Nat × Nat × Nat × Nat)} {y6 : MethodName} {b6 : ByteArray} {m6 : Nat} {F F' : Nat → va_E} {INV : (Nat → va_E) → Prop} {As : List Value} (q : eqv 86 F F') (h : STwE l D cI cQ cL ad 86 yL bL mL hh y6 b6 m6 F' INV As) : STwE l D cI cQ cL ad 86 yL bL mL hh y6 b6 m6 F INV As := by
  obtain ⟨kk, PG, hM, hr⟩ := h
  exact ⟨kk, PG, MLE_eqv hM q, hr⟩
theorem STw0E_eqv {l : Launch} {D : va_G} {cI cQ cL : ClassId} {ad : Nat → Nat} {yL : MethodName} {bL : ByteArray} {mL : Nat} {hh : List (Nat × Nat × Nat × Nat)} {y6 : MethodName} {b6 : ByteArray} {m6 : Nat} {F F' : Nat → va_E} {INV : (Nat → va_E) → Prop} {As : List Value} (q : eqv 86 F F') (h : STw0E l D cI cQ cL ad 86 yL bL mL hh y6 b6 m6 F' INV As) : STw0E l D cI cQ cL ad 86 yL bL mL hh y6 b6 m6 F INV As := by
  obtain ⟨kk, PG, hM, hr⟩ := h
  exact ⟨kk, PG, MLE_eqv hM q, hr⟩
theorem STw0_eqv {l : Launch} {D : va_G} {cI cQ cL : ClassId} {ad : Nat → Nat} {yL : MethodName} {bL : ByteArray} {mL : Nat} {hh : List (Nat × Nat × Nat × Nat)} {y6 : MethodName} {b6 : ByteArray} {m6 : Nat} {F F' : Nat → va_E} {INV : (Nat → va_E) → Prop} {As : List Value} (q : eqv 86 F F') (h : STw0 l D cI cQ cL ad 86 yL bL mL hh y6 b6 m6 F' INV As) : STw0 l D cI cQ cL ad 86 yL bL mL hh y6 b6 m6 F INV As := by
  obtain ⟨kk, F1, fs, post, rm6, hM, hr⟩ := h
  exact ⟨kk, F1, fs, post, rm6, ML_eqv hM q, hr⟩
theorem STw_eqv {l : Launch} {D : va_G} {cI cQ cL : ClassId} {ad : Nat → Nat} {yL : MethodName} {bL : ByteArray} {mL : Nat} {hh : List (Nat × Nat × Nat × Nat)} {y6 : MethodName} {b6 : ByteArray} {m6 : Nat} {F F' : Nat → va_E} {INV : (Nat → va_E) → Prop} {As : List Value} (q : eqv 86 F F') (h : STw l D cI cQ cL ad 86 yL bL mL hh y6 b6 m6 F' INV As) : STw l D cI cQ cL ad 86 yL bL mL hh y6 b6 m6 F INV As := by
  obtain ⟨kk, b, F1, o, fs, post, rm6, h1, h2, h3, hM, hr⟩ := h
  exact ⟨kk, b, F1, o, fs, post, rm6, h1, h2, h3, ML_eqv hM q, hr⟩
theorem STs_eqv {l : Launch} {D : va_G} {cI cQ cL : ClassId} {ad : Nat → Nat} {y5 : MethodName} {b5 : ByteArray} {m5 : Nat} {y6 : MethodName} {b6 : ByteArray} {m6 : Nat} {ty : FieldType} {ok : Value → Prop} {F F' : Nat → va_E} {INV : (Nat → va_E) → Prop} (q : eqv 86 F F') (q0 : F' 0 = F 0) (h : STs l D cI cQ cL ad 86 y5 b5 m5 y6 b6 m6 ty ok F' INV) : STs l D cI cQ cL ad 86 y5 b5 m5 y6 b6 m6 ty ok F INV := by
  obtain ⟨b, F1, f5, f6, post, rm5, rm6, h1, h2, hM, hr⟩ := h
  exact ⟨b, F1, f5, f6, post, rm5, rm6, h1, q0.symm.trans h2, MX_eqv hM q, hr⟩
theorem STs0_eqv {l : Launch} {D : va_G} {cI cQ cL : ClassId} {ad : Nat → Nat} {y5 : MethodName} {b5 : ByteArray} {m5 : Nat} {y6 : MethodName} {b6 : ByteArray} {m6 : Nat} {ty : FieldType} {ok : Value → Prop} {F F' : Nat → va_E} {INV : (Nat → va_E) → Prop} (q : eqv 86 F F') (q0 : F' 0 = F 0) (h : STs0 l D cI cQ cL ad 86 y5 b5 m5 y6 b6 m6 ty ok F' INV) : STs0 l D cI cQ cL ad 86 y5 b5 m5 y6 b6 m6 ty ok F INV := by
  obtain ⟨b, F1, f5, f6, post, rm5, rm6, h1, h2, hM, hr⟩ := h
  exact ⟨b, F1, f5, f6, post, rm5, rm6, h1, q0.symm.trans h2, MX_eqv hM q, hr⟩
end
/-! from turn -/
section
/-! a turn of the law -/
set_option maxRecDepth 100000 in
theorem in_step (l : Launch) (hst : l.stackTraces = false) (D : va_G) (cI cQ cL : ClassId) (ad : Nat → Nat) (xs : Nat → Int32) (i : Nat) (F : Nat → va_E) (H : INV cI cQ cL ad F) : STEP l D cI cQ cL ad xs i F (INV cI cQ cL ad) := by
  obtain ⟨F', q, q0, h1⟩ := INV_IN1 H
  exact ⟨fun _ => STw0_eqv q (STw_weak (in_fly l hst D cI cQ cL ad F' h1 _ _ _)), fun _ => STw0_eqv q (STw_weak (in_lift l hst D cI cQ cL ad F' h1 _ _ _ _)), fun _ => STw0_eqv q (STw_weak (in_set l hst D cI cQ cL ad F' h1 _)), fun _ => STw0_eqv q (STw_weak (in_put l hst D cI cQ cL ad F' h1 _ _ _)), fun _ => STw0_eqv q (STw_weak (in_append l hst D cI cQ cL ad F' h1 _)), fun _ => STs0_eqv q q0 (STs_weak (in_clearBuffer l D cI cQ cL ad F' h1)), fun _ => STs0_eqv q q0 (STs_weak (in_firstError l D cI cQ cL ad F' h1)), fun _ => STw0E_eqv q (STwE_weak (in_play l hst D cI cQ cL ad F' h1)), fun _ => STs0_eqv q q0 (STs_weak (in_keep l D cI cQ cL ad F' h1)), fun _ => STw0_eqv q (STw_weak (in_goBack l hst D cI cQ cL ad F' h1)), fun _ => STw0_eqv q (STw_weak (in_undo l hst D cI cQ cL ad F' h1)), fun _ => STw0_eqv q (STw_weak (in_wink l hst D cI cQ cL ad F' h1 _ _)), fun _ => STw0_eqv q (STw_weak (in_pile l hst D cI cQ cL ad F' h1 _ _ _)), fun _ => STw0_eqv q (in_colour l hst D cI cQ cL ad F' h1 _ _), fun _ => STw0_eqv q (in_count l hst D cI cQ cL ad F' h1 _), fun _ => STw0_eqv q (STw_weak (in_why l hst D cI cQ cL ad F' h1 _ _ _ _)), fun _ => STw0_eqv q (STw_weak (in_lands l hst D cI cQ cL ad F' h1 _ _ _)), fun _ => STw0_eqv q (in_ifFlown l hst D cI cQ cL ad F' h1 _ _ _ _), fun _ => STs0_eqv q q0 (in_best l D cI cQ cL ad F' h1), fun _ => STw0_eqv q (STw_weak (in_flightsTo l hst D cI cQ cL ad F' h1 _)), fun _ => STs0_eqv q q0 (STs_weak (in_pottedShare l D cI cQ cL ad F' h1)), fun _ => STs_eqv q q0 (in_meanPile l D cI cQ cL ad F' h1), fun _ => STs0_eqv q q0 (in_digest l D cI cQ cL ad F' h1), fun _ _ _ => H⟩
end
