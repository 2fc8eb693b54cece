/-! what holds in the law all along -/
def LX (p : Program) (s : State) (m : MethodId) (cd : Code) (b L : Nat) (xs : Nat → Int32) (D : va_G) (cI cQ cL : ClassId) : Prop := CX p s m cd cL_law 15 #[Value.ref b] D cI cQ cL room_1 ∧ va_X b L xs s s.heap ∧ b < s.heap.size ∧ L < 2 ^ 30
set_option maxRecDepth 100000 in
set_option maxHeartbeats 4000000 in
theorem lw_facts {p : Program} {s : State} {m : MethodId} {meth : Method} {c : Code} {b L : Nat} {xs : Nat → Int32} (hL : L < 2 ^ 30) (C0 : lw_At p s m meth c b L xs) : ∃ (D : va_G) (cI cQ cL : ClassId), LX p s m c b L xs D cI cQ cL ∧ va_AO "SquopPiles$State" s := by
  obtain ⟨hx, hb, hr, hml, hown, hts, hX, hbl, hlocks, hgv⟩ := id C0
  have htL : ∀ w ∈ LW, w.before #[Value.ref b] s = true := fun w h => hts w (LW_in w h)
  obtain ⟨c0, iS0, k0⟩ := u_known (C := RX0) (T := TX0) (N := 2) (n := 2) htL (fun w h => lcA _ (acX0 w h)) (htL _ (lcA _ (ac7 _ (List.mem_of_getElem? (i := 17) rfl))))
  obtain ⟨c1, iS1, k1⟩ := u_known (C := RX1) (T := TX1) (N := 3) (n := 3) htL (fun w h => lcA _ (acX1 w h)) (htL _ (lcA _ (ac3 _ (List.mem_of_getElem? (i := 15) rfl))))
  obtain ⟨c2, iS2, k2⟩ := u_known (C := RX2) (T := TX2) (N := 3) (n := 3) htL (fun w h => lcA _ (acX2 w h)) (htL _ (lcA _ (ac7 _ (List.mem_of_getElem? (i := 13) rfl))))
  obtain ⟨c3, iS3, k3⟩ := u_known (C := RX3) (T := TX3) (N := 3) (n := 3) htL (fun w h => lcA _ (acX3 w h)) (htL _ (lcA _ (ac7 _ (List.mem_of_getElem? (i := 23) rfl))))
  obtain ⟨c4, iS4, k4⟩ := u_known (C := RX4) (T := TX4) (N := 7) (n := 7) htL (fun w h => lcA _ (acX4 w h)) (htL _ (lcA _ (ac4 _ (List.mem_of_getElem? (i := 7) rfl))))
  obtain ⟨c5, iS5, k5⟩ := u_known (C := RX5) (T := TX5) (N := 7) (n := 7) htL (fun w h => lcA _ (acX5 w h)) (htL _ (lcA _ (ac14 _ (List.mem_of_getElem? (i := 13) rfl))))
  obtain ⟨D, hD⟩ : ∃ D : va_G, ∀ (k : Nat) (q : vw_C), vwCl[k]? = some q → u_Kn s q.1 q.2.1 q.2.2 (D.1 k) (D.2 k) := by
    refine ⟨(fun k => if k = 0 then c0 else if k = 1 then c1 else if k = 2 then c2 else if k = 3 then c3 else if k = 4 then c4 else c5, fun k => if k = 0 then iS0 else if k = 1 then iS1 else if k = 2 then iS2 else if k = 3 then iS3 else if k = 4 then iS4 else iS5), ?_⟩
    intro k q hq
    match k, hq with
    | 0, hq => cases hq; exact k0
    | 1, hq => cases hq; exact k1
    | 2, hq => cases hq; exact k2
    | 3, hq => cases hq; exact k3
    | 4, hq => cases hq; exact k4
    | 5, hq => cases hq; exact k5
    | k + 6, hq => simp [vwCl] at hq
  obtain ⟨cI, kAI, coI, fI1, fI2, fI3⟩ := Cond.arrayClass_spec (htL _ (lcA _ (ac0 _ (List.mem_of_getElem? (i := 3) rfl))))
  have hO : (Cond.arrayOver (.object "SquopPiles$State")).before #[Value.ref b] s = true := (hts _ (tb1 _ (List.mem_of_getElem? (i := 94) rfl)))
  obtain ⟨coQ, cQ, kAQ, fQ1, -, fQ2, fQ3, fQ4⟩ := Cond.arrayOver_spec hO
  have hK : va_K D vwCl (iT cI cQ cI) s := by
    refine ⟨hD, fun k q hk => ?_⟩
    match k, hk with
    | 0, hk => cases hk; exact ⟨fun n z => ⟨fun k h => (by cases h), kAI, fI2, coI, fI3⟩, fI1⟩
    | 1, hk => cases hk; exact ⟨fun n z => ⟨fun k h => (by cases h), kAQ, fQ2, coQ, fQ3⟩, kAQ, coQ, fQ2, fQ3, fQ1, fQ4⟩
    | 2, hk => cases hk; exact ⟨fun n z => ⟨fun k h => (by cases h), kAI, fI2, coI, fI3⟩, fI1⟩
    | k + 3, hk => simp [iT] at hk
  have hNW : NW s := ⟨List.forall_mem_cons.mpr ⟨va_Nw.of rfl (hts _ (tb1 _ (List.mem_of_getElem? (i := 46) rfl))), List.forall_mem_cons.mpr ⟨va_Nw.of rfl (hts _ (tb1 _ (List.mem_of_getElem? (i := 47) rfl))), List.forall_mem_cons.mpr ⟨va_Nw.of rfl (hts _ (tb1 _ (List.mem_of_getElem? (i := 59) rfl))), List.forall_mem_cons.mpr ⟨va_Nw.of rfl (hts _ (tb1 _ (List.mem_of_getElem? (i := 61) rfl))), List.forall_mem_cons.mpr ⟨va_Nw.of rfl (hts _ (tb1 _ (List.mem_of_getElem? (i := 63) rfl))), List.forall_mem_cons.mpr ⟨va_Nw.of rfl (hts _ (tb1 _ (List.mem_of_getElem? (i := 65) rfl))), List.forall_mem_cons.mpr ⟨va_Nw.of rfl (hts _ (tb1 _ (List.mem_of_getElem? (i := 67) rfl))), List.forall_mem_cons.mpr ⟨va_Nw.of rfl (hts _ (tb1 _ (List.mem_of_getElem? (i := 69) rfl))), List.forall_mem_cons.mpr ⟨va_Nw.of rfl (hts _ (tb1 _ (List.mem_of_getElem? (i := 71) rfl))), List.forall_mem_cons.mpr ⟨va_Nw.of rfl (hts _ (tb1 _ (List.mem_of_getElem? (i := 99) rfl))), (fun _ h => absurd h List.not_mem_nil)⟩⟩⟩⟩⟩⟩⟩⟩⟩⟩, List.forall_mem_cons.mpr ⟨va_Nw.of rfl (hts _ (tb1 _ (List.mem_of_getElem? (i := 26) rfl))), List.forall_mem_cons.mpr ⟨va_Nw.of rfl (hts _ (tb1 _ (List.mem_of_getElem? (i := 36) rfl))), List.forall_mem_cons.mpr ⟨va_Nw.of rfl (hts _ (tb1 _ (List.mem_of_getElem? (i := 39) rfl))), List.forall_mem_cons.mpr ⟨va_Nw.of rfl (hts _ (tb1 _ (List.mem_of_getElem? (i := 95) rfl))), List.forall_mem_cons.mpr ⟨va_Nw.of rfl (hts _ (tb1 _ (List.mem_of_getElem? (i := 109) rfl))), List.forall_mem_cons.mpr ⟨va_Nw.of rfl (hts _ (tb1 _ (List.mem_of_getElem? (i := 124) rfl))), List.forall_mem_cons.mpr ⟨va_Nw.of rfl (hts _ (tb2 _ (List.mem_of_getElem? (i := 118) rfl))), List.forall_mem_cons.mpr ⟨va_Nw.of rfl (hts _ (tb2 _ (List.mem_of_getElem? (i := 80) rfl))), List.forall_mem_cons.mpr ⟨va_Nw.of rfl (hts _ (tb3 _ (List.mem_of_getElem? (i := 48) rfl))), List.forall_mem_cons.mpr ⟨va_Nw.of rfl (hts _ (tb3 _ (List.mem_of_getElem? (i := 90) rfl))), List.forall_mem_cons.mpr ⟨va_Nw.of rfl (hts _ (tb3 _ (List.mem_of_getElem? (i := 91) rfl))), List.forall_mem_cons.mpr ⟨va_Nw.of rfl (hts _ (tb3 _ (List.mem_of_getElem? (i := 92) rfl))), List.forall_mem_cons.mpr ⟨va_Nw.of rfl (hts _ (tb3 _ (List.mem_of_getElem? (i := 99) rfl))), List.forall_mem_cons.mpr ⟨va_Nw.of rfl (hts _ (tb2 _ (List.mem_of_getElem? (i := 210) rfl))), List.forall_mem_cons.mpr ⟨va_Nw.of rfl (hts _ (tb2 _ (List.mem_of_getElem? (i := 216) rfl))), List.forall_mem_cons.mpr ⟨va_Nw.of rfl (hts _ (tb3 _ (List.mem_of_getElem? (i := 118) rfl))), (fun _ h => absurd h List.not_mem_nil)⟩⟩⟩⟩⟩⟩⟩⟩⟩⟩⟩⟩⟩⟩⟩⟩⟩
  exact ⟨D, cI, cQ, cI, ⟨⟨hx, hb, hml, hown, htL, hK, hNW, by decide, by decide⟩, hX, hbl, hL⟩, va_AO.of hO⟩
