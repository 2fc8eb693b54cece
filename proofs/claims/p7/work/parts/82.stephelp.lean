/-! helpers of the steps -/
theorem ixn {n : Nat} (h : n < 2 ^ 31) : ix (nI n) = n := nI_clamp h
theorem rf_up {cI : ClassId} {ad : Nat → Nat} {G : Nat → va_E} {r ps sl sd ne fa bu : Nat → Int32} {hs : Bool} {st ln pt : Nat} {th : Int32} {x : va_E} (h : rfAt cI ad G 77 r ps sl sd ne fa bu hs st ln pt th) : rfAt cI ad (va_up G 85 x) 77 r ps sl sd ne fa bu hs st ln pt th := by
  obtain ⟨h0, h1, h2, h3, h4, h5, h6, h7⟩ := h
  refine ⟨?_, ?_, ?_, ?_, ?_, ?_, ?_, ?_⟩
  all_goals rw [va_up_ne _ _ (by decide)]; assumption
theorem stw_mk {l : Launch} {D : va_G} {cI cQ cL : ClassId} {ad : Nat → Nat} {yL : MethodName} {bL : ByteArray} {mL : Nat} {hh : List (Nat × Nat × Nat × Nat)} {y6 : MethodName} {b6 : ByteArray} {m6 : Nat} {F : Nat → va_E} {INV : (Nat → va_E) → Prop} {As : List Value} (kk : Nat) (hkk : kk < 8) {F1 : Nat → va_E} {o : Nat → Int64} {b : Int32}
    (hML : ML l yL (Cond.codeWith yL bL mL (some .int) hh :: LW) RML D cI cQ cL ad 86 F (.ref (ad 0) :: (As ++ [.ref (ad 85)])) (nI kk) F1 1 6) (ho : F1 85 = .inl (cL, 1, .inr (.inl o))) (hob : kk = 0 → o 0 = b.toInt64) {r0 ps0 sl0 sd0 ne0 fa0 bu0 : Nat → Int32} {hs0 : Bool} {st0 ln0 pt0 : Nat} {th0 : Int32} (hR : rfAt cI ad F1 77 r0 ps0 sl0 sd0 ne0 fa0 bu0 hs0 st0 ln0 pt0 th0) {r ps sl sd ne fa bu : Nat → Int32} {hs : Bool} {st ln pt : Nat} {th : Int32} {rm6 : Room}
    (hM6 : MX l y6 (Cond.code y6 b6 m6 (some .int) :: AW) rm6 D cI cQ cL ad 86 F1 (.ref (ad 77) :: As) (dp (some (.int b)) (rfSet cI ad F1 77 r ps sl sd ne fa bu hs st ln pt th)) 0 0) (hth : th = nI kk) (e1 : rm6.cells = 0) (e2 : rm6.slots = 0) (e3 : rm6.frames + 1 ≤ 13) (e4 : 8 + (m6 + 11) + rm6.locals ≤ 476) (hINV : INV (rfSet cI ad F1 77 r ps sl sd ne fa bu hs st ln pt th)) : STw l D cI cQ cL ad 86 yL bL mL hh y6 b6 m6 F INV As :=
  ⟨kk, b, F1, o, _, _, rm6, hkk, ho, hob, hML, hR.1, hM6, e1, e2, e3, e4, fun v G hp => by
    obtain ⟨rfl, rfl⟩ := hp
    exact ⟨rfl, hINV, rfSet_out (by omega), r, ps, sl, sd, ne, fa, bu, hs, st, ln, pt, by rw [← hth]; exact rfSet_at⟩⟩
theorem sts_mk {l : Launch} {D : va_G} {cI cQ cL : ClassId} {ad : Nat → Nat} {y5 : MethodName} {b5 : ByteArray} {m5 : Nat} {y6 : MethodName} {b6 : ByteArray} {m6 : Nat} {ty : FieldType} {ok : Value → Prop} {F : Nat → va_E} {INV : (Nat → va_E) → Prop} {b b' : Value} {F1 : Nat → va_E} {f5 : List Value} (h0 : F 0 = .inr (5, f5)) (hok : ok b) {rm5 rm6 : Room}
    (hM5 : MX l y5 (Cond.code y5 b5 m5 (some ty) :: AW) rm5 D cI cQ cL ad 86 F [.ref (ad 0)] (dp (some b) F1) 0 0) (d1 : rm5.cells = 0) (d2 : rm5.slots = 0) (d3 : rm5.frames + 1 ≤ 13) (d4 : 8 + (m5 + 11) + rm5.locals ≤ 476) {r0 ps0 sl0 sd0 ne0 fa0 bu0 : Nat → Int32} {hs0 : Bool} {st0 ln0 pt0 : Nat} {th0 : Int32} (hR : rfAt cI ad F1 77 r0 ps0 sl0 sd0 ne0 fa0 bu0 hs0 st0 ln0 pt0 th0) {G1 : Nat → va_E}
    (hM6 : MX l y6 (Cond.code y6 b6 m6 (some ty) :: AW) rm6 D cI cQ cL ad 86 F1 [.ref (ad 77)] (dp (some b') G1) 0 0) (hbb : b' = b) (e1 : rm6.cells = 0) (e2 : rm6.slots = 0) (e3 : rm6.frames + 1 ≤ 13) (e4 : 8 + (m6 + 11) + rm6.locals ≤ 476) (hINV : INV G1) : STs l D cI cQ cL ad 86 y5 b5 m5 y6 b6 m6 ty ok F INV :=
  ⟨b, F1, f5, _, _, rm5, rm6, hok, h0, hM5, d1, d2, d3, d4, hR.1, hM6, e1, e2, e3, e4, fun v G hp => by
    obtain ⟨rfl, rfl⟩ := hp
    exact ⟨by rw [hbb], hINV⟩⟩
theorem btw_f {x a m : Int32} (h : ¬ btw x a m = true) : btw x a m = false := by simpa using h
theorem bool_f {b : Bool} (h : ¬ b = true) : b = false := by simpa using h
theorem pW_ok {r : Nat → Int32} {w k : Nat} (hw : w < 16) (hk : k < 7) : pW r (nI w) (nI k) = aWink r w k := by
  unfold pW
  rw [if_pos (btw_nI (by omega)), if_pos (btw_nI (by omega)), ixn (by omega), ixn (by omega)]
theorem pC_ok {r : Nat → Int32} {w k : Nat} (hw : w < 4) (hk : k < 7) : pC r (nI w) (nI k) = aCol r w k := by
  unfold pC
  rw [if_pos (btw_nI (by omega)), if_pos (btw_nI (by omega)), ixn (by omega), ixn (by omega)]
theorem pP_ok {r : Nat → Int32} {x y k : Nat} (hx : x < 13) (hy : y < 13) (hk : k < 4) : pP r (nI x) (nI y) (nI k) = aPile r (nI (13 * y + x)) k := by
  unfold pP
  rw [if_pos (btw_nI (by omega)), if_pos (btw_nI (by omega)), if_pos (btw_nI (by omega)), ixn (by omega), pk_mul, nI_add]
theorem pN_ok {r : Nat → Int32} {st k : Nat} (hk : k < 14) : pN r st (nI k) = aNum r st k := by
  unfold pN
  rw [if_pos (btw_nI (by omega)), ixn (by omega)]
theorem pY_ok {r : Nat → Int32} {x y f d : Nat} (hx : x < 13) (hy : y < 13) (hf : 1 ≤ f ∧ f ≤ 6) (hd : d < 8) : pY r (nI x) (nI y) (nI f) (nI d) = nI (rwl r (13 * y + x) f d) := by
  unfold pY
  rw [if_pos (btw_nI (by omega)), if_pos (btw_nI (by omega)), if_pos (btw_nI (by omega)), if_pos (btw_nI (by omega)), ixn (by omega), ixn (by omega), ixn (by omega), ixn (by omega)]
theorem pL_ok {r : Nat → Int32} {w d f : Nat} (hw : w < 16) (hd : d < 8) (hf : 1 ≤ f ∧ f ≤ 9) : pL r (nI w) (nI d) (nI f) = aLan r w d f := by
  unfold pL
  rw [if_pos (btw_nI (by omega)), if_pos (btw_nI (by omega)), if_pos (btw_nI (by omega)), ixn (by omega), ixn (by omega), ixn (by omega)]
theorem cat_n {x y : Nat} : cat (nI x) (nI y) = nI (13 * y + x) := by unfold cat; rw [pk_mul, nI_add]
theorem rbs_n {x y d : Nat} (hx : x < 13) : rbs (13 * y + x) d = beside (nI x) (nI y) (nI d) := by
  unfold rbs
  rw [show (13 * y + x) % 13 = x by omega, show (13 * y + x) / 13 = y by omega]
theorem cl4_b (x : Int32) : btw x (nI 0) (nI 3) = cl4 x := by
  by_cases h : btw x (nI 0) (nI 3) = true
  · obtain ⟨j, rfl, -, hj⟩ := btw_of (by decide) (by decide) h
    rw [h, cl4_nI (by omega)]
  · have h := btw_f h
    rw [h]
    by_cases h2 : cl4 x = true
    · exfalso
      unfold cl4 at h2
      simp only [Bool.and_eq_true, Bool.not_eq_true', decide_eq_false_iff_not] at h2
      obtain ⟨j, hj, rfl⟩ := nI_of h2.1
      have h3 : j < 4 := Nat.lt_of_not_le fun q => h2.2 (nI_le q hj)
      rw [btw_nI (by omega)] at h
      cases h
    · exact (bool_f h2).symm
theorem gL_ok {r : Nat → Int32} {x y f d : Nat} (hx : x < 13) (hy : y < 13) (hf : 1 ≤ f ∧ f ≤ 6) (hd : d < 8) : gL r (nI x) (nI y) (nI f) (nI d) = decide (rwl r (13 * y + x) f d = 0) := by
  unfold gL
  rw [if_pos (btw_nI (by omega)), if_pos (btw_nI (by omega)), if_pos (btw_nI (by omega)), if_pos (btw_nI (by omega)), ixn (by omega), ixn (by omega), ixn (by omega), ixn (by omega)]
  by_cases h : rwl r (13 * y + x) f d = 0 <;> simp [h]
theorem tLi_ok {r : Nat → Int32} {x y f d : Nat} (hx : x < 13) (hy : y < 13) (hf : 1 ≤ f ∧ f ≤ 6) (hd : d < 8) : tLi r (nI x) (nI y) (nI f) (nI d) = if rwl r (13 * y + x) f d = 0 then nI 0 else nI 3 := by
  unfold tLi
  rw [if_pos (btw_nI (by omega)), if_pos (btw_nI (by omega)), if_pos (btw_nI (by omega)), if_pos (btw_nI (by omega)), ixn (by omega), ixn (by omega), ixn (by omega), ixn (by omega)]
theorem gP_ok {r : Nat → Int32} {w x y : Nat} (hw : w < 16) (hx : x < 13) (hy : y < 13) : gP r (nI w) (nI x) (nI y) = (!(over r) && !(rcv r w)) := by
  unfold gP
  rw [if_pos (btw_nI (by omega)), if_pos (btw_nI (by omega)), if_pos (btw_nI (by omega)), ixn (by omega)]
  cases over r <;> cases rcv r w <;> rfl
theorem tPu_ok {r : Nat → Int32} {w x y : Nat} (hw : w < 16) (hx : x < 13) (hy : y < 13) : tPu r (nI w) (nI x) (nI y) = if (!(over r) && !(rcv r w)) = true then nI 0 else nI 2 := by
  unfold tPu
  rw [if_pos (btw_nI (by omega)), if_pos (btw_nI (by omega)), if_pos (btw_nI (by omega)), ixn (by omega)]
  cases over r <;> cases rcv r w <;> rfl
theorem stw_mk2 {l : Launch} {D : va_G} {cI cQ cL : ClassId} {ad : Nat → Nat} {yL : MethodName} {bL : ByteArray} {mL : Nat} {hh : List (Nat × Nat × Nat × Nat)} {y6 : MethodName} {b6 : ByteArray} {m6 : Nat} {F : Nat → va_E} {INV : (Nat → va_E) → Prop} {As : List Value} {F1 : Nat → va_E} {o : Nat → Int64} {b : Int32}
    (hML : ML l yL (Cond.codeWith yL bL mL (some .int) hh :: LW) RML D cI cQ cL ad 86 F (.ref (ad 0) :: (As ++ [.ref (ad 85)])) (nI 0) F1 1 6) (ho : F1 85 = .inl (cL, 1, .inr (.inl o))) (hob : o 0 = b.toInt64) {r0 ps0 sl0 sd0 ne0 fa0 bu0 : Nat → Int32} {hs0 : Bool} {st0 ln0 pt0 : Nat} {th0 : Int32} (hR : rfAt cI ad F1 77 r0 ps0 sl0 sd0 ne0 fa0 bu0 hs0 st0 ln0 pt0 th0) {r ps sl sd bu : Nat → Int32} {hs : Bool} {st ln pt : Nat} {rm6 : Room}
    (hM6 : MX l y6 (Cond.code y6 b6 m6 (some .int) :: AW) rm6 D cI cQ cL ad 86 F1 (.ref (ad 77) :: As) (fun v9 G9 => v9 = some (.int b) ∧ ∃ ne9 fa9, G9 = rfSet cI ad F1 77 r ps sl sd ne9 fa9 bu hs st ln pt (nI 0)) 0 0) (e1 : rm6.cells = 0) (e2 : rm6.slots = 0) (e3 : rm6.frames + 1 ≤ 13) (e4 : 8 + (m6 + 11) + rm6.locals ≤ 476) (hINV : ∀ ne9 fa9, INV (rfSet cI ad F1 77 r ps sl sd ne9 fa9 bu hs st ln pt (nI 0))) : STw l D cI cQ cL ad 86 yL bL mL hh y6 b6 m6 F INV As :=
  ⟨0, b, F1, o, _, _, rm6, by decide, ho, fun _ => hob, hML, hR.1, hM6, e1, e2, e3, e4, fun v G hp => by
    obtain ⟨rfl, ne9, fa9, rfl⟩ := hp
    exact ⟨rfl, hINV ne9 fa9, rfSet_out (by omega), r, ps, sl, sd, ne9, fa9, bu, hs, st, ln, pt, rfSet_at⟩⟩
theorem mea_c64 : ∀ p, p < 17 → ∀ n, n < 17 → n64 (FP.f2d (mea p n)) = true ∧ Op.cmpValue (FP.dcmp (FP.f2d (mea p n)) (FP.f2d (mea p n))) .l = 0 := by decide +kernel
theorem pI_ok {r : Nat → Int32} {w d f a : Nat} (hw : w < 16) (hd : d < 8) (hf : 1 ≤ f ∧ f ≤ 9) (ha : a < 2) : pI r (nI w) (nI d) (nI f) (nI a) = if rwn r w = 0 then aBr r w d f a else -1000 := by
  unfold pI
  rw [if_pos (btw_nI (by omega)), if_pos (btw_nI (by omega)), if_pos (btw_nI (by omega)), if_pos (btw_nI (by omega)), ixn (by omega), ixn (by omega), ixn (by omega), ixn (by omega)]
theorem STw_weak {l : Launch} {D : va_G} {cI cQ cL : ClassId} {ad : Nat → Nat} {yL : MethodName} {bL : ByteArray} {mL : Nat} {hh : List (Nat × Nat × Nat × Nat)} {y6 : MethodName} {b6 : ByteArray} {m6 : Nat} {F : Nat → va_E} {INV : (Nat → va_E) → Prop} {As : List Value} (h : STw l D cI cQ cL ad 86 yL bL mL hh y6 b6 m6 F INV As) : STw0 l D cI cQ cL ad 86 yL bL mL hh y6 b6 m6 F INV As := by
  obtain ⟨kk, b, F1, o, fs, post, rm6, h1, h2, h3, h4, h5, h6, h7, h8, h9, h10, h11⟩ := h
  exact ⟨kk, F1, fs, post, rm6, h4, h5, h6, h7, h8, h9, h10, fun v G hp => ⟨⟨b, (h11 v G hp).1⟩, (h11 v G hp).2.1⟩⟩
theorem STwE_weak {l : Launch} {D : va_G} {cI cQ cL : ClassId} {ad : Nat → Nat} {yL : MethodName} {bL : ByteArray} {mL : Nat} {hh : List (Nat × Nat × Nat × Nat)} {y6 : MethodName} {b6 : ByteArray} {m6 : Nat} {F : Nat → va_E} {INV : (Nat → va_E) → Prop} {As : List Value} (h : STwE l D cI cQ cL ad 86 yL bL mL hh y6 b6 m6 F INV As) : STw0E l D cI cQ cL ad 86 yL bL mL hh y6 b6 m6 F INV As := by
  obtain ⟨kk, PG, h1, h2⟩ := h
  refine ⟨kk, PG, h1, fun F1 hp1 => ?_⟩
  obtain ⟨b, o, fs, post, rm6, h3, h4, h5, h6, h7, h8, h9, h10, h11, h12⟩ := h2 F1 hp1
  exact ⟨fs, post, rm6, h6, h7, h8, h9, h10, h11, fun v G hp => ⟨⟨b, (h12 v G hp).1⟩, (h12 v G hp).2.1⟩⟩
theorem STs_weak {l : Launch} {D : va_G} {cI cQ cL : ClassId} {ad : Nat → Nat} {y5 : MethodName} {b5 : ByteArray} {m5 : Nat} {y6 : MethodName} {b6 : ByteArray} {m6 : Nat} {ty : FieldType} {ok : Value → Prop} {F : Nat → va_E} {INV : (Nat → va_E) → Prop} (h : STs l D cI cQ cL ad 86 y5 b5 m5 y6 b6 m6 ty ok F INV) : STs0 l D cI cQ cL ad 86 y5 b5 m5 y6 b6 m6 ty ok F INV := by
  obtain ⟨b, F1, f5, f6, post, rm5, rm6, h1, h2, h3, h4, h5, h6, h7, h8, h9, h10, h11, h12, h13, h14⟩ := h
  exact ⟨b, F1, f5, f6, post, rm5, rm6, h1, h2, h3, h4, h5, h6, h7, h8, h9, h10, h11, h12, h13, fun v G hp => ⟨⟨b, h1, (h14 v G hp).1⟩, (h14 v G hp).2⟩⟩
theorem stw0_mk {l : Launch} {D : va_G} {cI cQ cL : ClassId} {ad : Nat → Nat} {yL : MethodName} {bL : ByteArray} {mL : Nat} {hh : List (Nat × Nat × Nat × Nat)} {y6 : MethodName} {b6 : ByteArray} {m6 : Nat} {F : Nat → va_E} {INV : (Nat → va_E) → Prop} {As : List Value} {kk : Nat} {F1 : Nat → va_E}
    (hML : ML l yL (Cond.codeWith yL bL mL (some .int) hh :: LW) RML D cI cQ cL ad 86 F (.ref (ad 0) :: (As ++ [.ref (ad 85)])) (nI kk) F1 1 6) {r0 ps0 sl0 sd0 ne0 fa0 bu0 : Nat → Int32} {hs0 : Bool} {st0 ln0 pt0 : Nat} {th0 : Int32} (hR : rfAt cI ad F1 77 r0 ps0 sl0 sd0 ne0 fa0 bu0 hs0 st0 ln0 pt0 th0) {b : Int32} {G1 : Nat → va_E} {rm6 : Room}
    (hM6 : MX l y6 (Cond.code y6 b6 m6 (some .int) :: AW) rm6 D cI cQ cL ad 86 F1 (.ref (ad 77) :: As) (dp (some (.int b)) G1) 0 0) (e1 : rm6.cells = 0) (e2 : rm6.slots = 0) (e3 : rm6.frames + 1 ≤ 13) (e4 : 8 + (m6 + 11) + rm6.locals ≤ 476) (hINV : INV G1) : STw0 l D cI cQ cL ad 86 yL bL mL hh y6 b6 m6 F INV As :=
  ⟨kk, F1, _, _, rm6, hML, hR.1, hM6, e1, e2, e3, e4, fun v G hp => by
    obtain ⟨rfl, rfl⟩ := hp
    exact ⟨⟨b, rfl⟩, hINV⟩⟩
theorem sts0_mk {l : Launch} {D : va_G} {cI cQ cL : ClassId} {ad : Nat → Nat} {y5 : MethodName} {b5 : ByteArray} {m5 : Nat} {y6 : MethodName} {b6 : ByteArray} {m6 : Nat} {ty : FieldType} {ok : Value → Prop} {F : Nat → va_E} {INV : (Nat → va_E) → Prop} {b b' : Value} {F1 : Nat → va_E} {f5 : List Value} (h0 : F 0 = .inr (5, f5)) (hok : ok b) (hok2 : ok b') {rm5 rm6 : Room}
    (hM5 : MX l y5 (Cond.code y5 b5 m5 (some ty) :: AW) rm5 D cI cQ cL ad 86 F [.ref (ad 0)] (dp (some b) F1) 0 0) (d1 : rm5.cells = 0) (d2 : rm5.slots = 0) (d3 : rm5.frames + 1 ≤ 13) (d4 : 8 + (m5 + 11) + rm5.locals ≤ 476) {r0 ps0 sl0 sd0 ne0 fa0 bu0 : Nat → Int32} {hs0 : Bool} {st0 ln0 pt0 : Nat} {th0 : Int32} (hR : rfAt cI ad F1 77 r0 ps0 sl0 sd0 ne0 fa0 bu0 hs0 st0 ln0 pt0 th0) {G1 : Nat → va_E}
    (hM6 : MX l y6 (Cond.code y6 b6 m6 (some ty) :: AW) rm6 D cI cQ cL ad 86 F1 [.ref (ad 77)] (dp (some b') G1) 0 0) (e1 : rm6.cells = 0) (e2 : rm6.slots = 0) (e3 : rm6.frames + 1 ≤ 13) (e4 : 8 + (m6 + 11) + rm6.locals ≤ 476) (hINV : INV G1) : STs0 l D cI cQ cL ad 86 y5 b5 m5 y6 b6 m6 ty ok F INV :=
  ⟨b, F1, f5, _, _, rm5, rm6, hok, h0, hM5, d1, d2, d3, d4, hR.1, hM6, e1, e2, e3, e4, fun v G hp => by
    obtain ⟨rfl, rfl⟩ := hp
    exact ⟨⟨b', hok2, rfl⟩, hINV⟩⟩
section INW
variable {cI cQ cL : ClassId} {ad : Nat → Nat} {F G1 : Nat → va_E} {r ps sl sd ne fa bu : Nat → Int32} {hs : Bool} {st ln pt : Nat} {th : Int32}
theorem INV_rf (h : ICl cI cQ ad G1 r ps sl bu hs st ln) (o : Nat → Int64) (h85 : G1 85 = .inl (cL, 1, .inr (.inl o))) : INV cI cQ cL ad (rfSet cI ad G1 77 r ps sl sd ne fa bu hs st ln pt th) :=
  ⟨r, ps, sl, sd, ne, fa, bu, hs, st, ln, pt, th, rfSet_at, ICl_fr h (fun i hi => rfSet_out (by omega)), o, (rfSet_out (by omega)).trans h85⟩
theorem ICl_up {x : va_E} (h : ICl cI cQ ad F r ps sl bu hs st ln) : ICl cI cQ ad (va_up F 85 x) r ps sl bu hs st ln := ICl_fr h (fun i hi => va_up_ne _ _ (by omega))
theorem mv_out {c b v g h j c' b' v' g' h' j' : Nat → Int32} {t u z t' u' z' : Int32} {n9 n1 m1 : Nat} (hn9 : n9 < 6) {i : Nat} (hi : 67 ≤ i) : sSet cI ad (paSet cQ ad (sSet cI ad F (17 + 2 + 8 * n9) c b v g h j t u z) 17 n1 m1) 1 c' b' v' g' h' j' t' u' z' i = F i := by
  rw [sSet_out (by omega), paSet_out (by omega), sSet_out (by omega)]
theorem rf_mv {c b v g h j c' b' v' g' h' j' : Nat → Int32} {t u z t' u' z' : Int32} {n9 n1 m1 : Nat} (hn9 : n9 < 6) (hR : rfAt cI ad F 77 r ps sl sd ne fa bu hs st ln pt th) : rfAt cI ad (sSet cI ad (paSet cQ ad (sSet cI ad F (17 + 2 + 8 * n9) c b v g h j t u z) 17 n1 m1) 1 c' b' v' g' h' j' t' u' z') 77 r ps sl sd ne fa bu hs st ln pt th := rfAt_keep hR (fun i a b => mv_out hn9 (by omega))
theorem ICl_tm {c b v : Nat → Int32} (h : ICl cI cQ ad F r ps sl bu hs st ln) : ICl cI cQ ad (mSet cI F 69 c b v) r ps sl bu hs st ln := by
  obtain ⟨h1, h2, ⟨n9, h3⟩, h4, ⟨⟨c6, b6, v6, m0, m1, m2, m3⟩, a7, d7, q7, h6, h7⟩, h8⟩ := h
  have e : ∀ i, i < 70 ∨ 72 < i → mSet cI F 69 c b v i = F i := fun i hi => mSet_out (by omega)
  exact ⟨SP_fr h1 (fun i a b => e i (by omega)), SNP_fr h2 (fun i a b => e i (by omega)), ⟨n9, RNG_fr h3 (fun i a b => e i (by omega))⟩, TXT_fr h4 (fun i a b => e i (by omega)), ⟨⟨c, b, v, (e 69 (by omega)).trans m0, rfl, rfl, rfl⟩, a7, d7, q7, roAt_keep h6 (fun i a b => e i (by omega)), h7⟩, (e 0 (by omega)).trans h8⟩
theorem rf_tm {c b v : Nat → Int32} (hR : rfAt cI ad F 77 r ps sl sd ne fa bu hs st ln pt th) : rfAt cI ad (mSet cI F 69 c b v) 77 r ps sl sd ne fa bu hs st ln pt th := rfAt_keep hR (fun i a b => mSet_out (by omega))
theorem ICl_ro {a d q : Nat → Int32} (h : ICl cI cQ ad F r ps sl bu hs st ln) (hK : KNa a) : ICl cI cQ ad (roSet cI ad F 73 a d q) r ps sl bu hs st ln := by
  obtain ⟨h1, h2, ⟨n9, h3⟩, h4, ⟨⟨c6, b6, v6, h5⟩, h6⟩, h8⟩ := h
  have e : ∀ i, i < 73 → roSet cI ad F 73 a d q i = F i := fun i hi => roSet_out (by omega)
  exact ⟨SP_fr h1 (fun i a b => e i (by omega)), SNP_fr h2 (fun i a b => e i (by omega)), ⟨n9, RNG_fr h3 (fun i a b => e i (by omega))⟩, TXT_fr h4 (fun i a b => e i (by omega)), ⟨⟨c6, b6, v6, matAt_keep h5 (fun i a b => e i (by omega))⟩, a, d, q, roSet_at, hK⟩, (e 0 (by omega)).trans h8⟩
theorem rf_ro {a d q : Nat → Int32} (hR : rfAt cI ad F 77 r ps sl sd ne fa bu hs st ln pt th) : rfAt cI ad (roSet cI ad F 73 a d q) 77 r ps sl sd ne fa bu hs st ln pt th := rfAt_keep hR (fun i a b => roSet_out (by omega))
theorem ICl_tx {a' bu' : Nat → Int32} {n : Nat} (h : ICl cI cQ ad F r ps sl bu hs st ln) (hn : n ≤ 60) (ha : ∀ x, x < n → a' x = bu' x) : ICl cI cQ ad (gtSet cI ad F 67 a' n) r ps sl bu' hs st n := by
  obtain ⟨h1, h2, ⟨n9, h3⟩, h4, h5, h8⟩ := h
  have e : ∀ i, i < 67 ∨ 68 < i → gtSet cI ad F 67 a' n i = F i := fun i hi => gtSet_out (by omega)
  exact ⟨SP_fr h1 (fun i a b => e i (by omega)), SNP_fr h2 (fun i a b => e i (by omega)), ⟨n9, RNG_fr h3 (fun i a b => e i (by omega))⟩, ⟨hn, a', gtSet_at, ha⟩, OTH_fr h5 (fun i a b => e i (by omega)), (e 0 (by omega)).trans h8⟩
theorem rf_tx {a' : Nat → Int32} {n : Nat} (hR : rfAt cI ad F 77 r ps sl sd ne fa bu hs st ln pt th) : rfAt cI ad (gtSet cI ad F 67 a' n) 77 r ps sl sd ne fa bu hs st ln pt th := rfAt_keep hR (fun i a b => gtSet_out (by omega))
theorem ICl_kp {b v g h j : Nat → Int32} {t : Nat} {u z : Int32} {Np : Nat → Nat} {Wp : Nat → Nat → Nat} (hI : ICl cI cQ ad F r ps sl bu hs st ln) (hp : Pos r b v g h j t u z Np Wp) {c8 b8 v8 g8 h8 j8 : Nat → Int32} {t8 u8 z8 : Int32} (hSn : stAt cI ad F 9 c8 b8 v8 g8 h8 j8 t8 u8 z8) : ICl cI cQ ad (va_up (sSet cI ad F 9 r b v g h j (nI t) u z) 0 (.inr (5, [.ref (ad 1), .ref (ad 9), .ref (ad 17), .ref (ad 67), .ref (ad 69), .ref (ad 73), .int (bI true)]))) r ps r bu true st ln := by
  obtain ⟨h1, h2, ⟨n9, h3⟩, h4, h5, h8⟩ := hI
  have e0 : ∀ i, 0 < i → va_up (sSet cI ad F 9 r b v g h j (nI t) u z) 0 (.inr (5, [.ref (ad 1), .ref (ad 9), .ref (ad 17), .ref (ad 67), .ref (ad 69), .ref (ad 73), .int (bI true)])) i = sSet cI ad F 9 r b v g h j (nI t) u z i := fun i hi => va_up_ne _ _ (by omega)
  have e : ∀ i, 0 < i → i < 9 ∨ 16 < i → va_up (sSet cI ad F 9 r b v g h j (nI t) u z) 0 (.inr (5, [.ref (ad 1), .ref (ad 9), .ref (ad 17), .ref (ad 67), .ref (ad 69), .ref (ad 73), .int (bI true)])) i = F i := fun i h0 hi => (e0 i h0).trans (sSet_out (by omega))
  have hS : SP cI ad (va_up (sSet cI ad F 9 r b v g h j (nI t) u z) 0 (.inr (5, [.ref (ad 1), .ref (ad 9), .ref (ad 17), .ref (ad 67), .ref (ad 69), .ref (ad 73), .int (bI true)]))) 9 r := ⟨r, b, v, g, h, j, t, u, z, Np, Wp, stAt_keep (sSet_at hSn) (fun i a b => e0 i (by omega)), hp, fun _ _ => rfl⟩
  exact ⟨SP_fr h1 (fun i a b => e i (by omega) (by omega)), ⟨⟨r, hS⟩, fun _ => hS⟩, ⟨n9, RNG_fr h3 (fun i a b => e i (by omega) (by omega))⟩, TXT_fr h4 (fun i a b => e i (by omega) (by omega)), OTH_fr h5 (fun i a b => e i (by omega) (by omega)), va_up_self _ _ _⟩
theorem rf_kp {c b v g h j : Nat → Int32} {t u z : Int32} {x : va_E} (hR : rfAt cI ad F 77 r ps sl sd ne fa bu hs st ln pt th) : rfAt cI ad (va_up (sSet cI ad F 9 c b v g h j t u z) 0 x) 77 r ps sl sd ne fa bu hs st ln pt th := rfAt_keep hR (fun i a b => (va_up_ne _ _ (by omega)).trans (sSet_out (by omega)))
theorem ICl_un {c b v g h j c' b' v' g' h' j' : Nat → Int32} {t u z u' z' : Int32} {t' n9 : Nat} {Np : Nat → Nat} {Wp : Nat → Nat → Nat} (hI : ICl cI cQ ad F r ps sl bu hs st ln) (hN : stAt cI ad F 1 c b v g h j t u z) (hRg : RNG cI cQ ad F ps st n9) (hs1 : 1 ≤ st) (hp : Pos (fun x => ps (60 * (st - 1) + x)) b' v' g' h' j' t' u' z' Np Wp) (hc : ∀ x, x < 16 → c' x = ps (60 * (st - 1) + x)) : ICl cI cQ ad (sSet cI ad (paSet cQ ad F 17 ((n9 + 6 - 1) % 6) (st - 1)) 1 c' b' v' g' h' j' (nI t') u' z') (fun x => ps (60 * (st - 1) + x)) ps sl bu hs (st - 1) ln := by
  obtain ⟨h1, h2, -, h4, h5, h8⟩ := hI
  obtain ⟨g1, g2, g3, g4, g5⟩ := hRg
  have e : ∀ i, i < 1 ∨ 8 < i → i < 17 ∨ 18 < i → sSet cI ad (paSet cQ ad F 17 ((n9 + 6 - 1) % 6) (st - 1)) 1 c' b' v' g' h' j' (nI t') u' z' i = F i := fun i a1 a2 => by rw [sSet_out (by omega), paSet_out (by omega)]
  refine ⟨⟨c', b', v', g', h', j', t', u', z', Np, Wp, sSet_at (stAt_keep hN (fun i a1 a2 => paSet_out (by omega))), hp, hc⟩, SNP_fr h2 (fun i a b => e i (by omega) (by omega)), ⟨(n9 + 6 - 1) % 6, Nat.mod_lt _ (by decide), by omega, paAt_keep (paSet_at (F := F)) (fun i a1 a2 => sSet_out (by omega)), fun i hi => ?_, fun k hk => ?_⟩, TXT_fr h4 (fun i a b => e i (by omega) (by omega)), OTH_fr h5 (fun i a b => e i (by omega) (by omega)), (e 0 (by omega) (by omega)).trans h8⟩
  · obtain ⟨R, hR⟩ := g4 i hi
    exact ⟨R, SP_fr hR (fun i a b => e i (by omega) (by omega))⟩
  · have hq := g5 k (by omega)
    rw [show ((n9 + 6 - 1) % 6 + 6 - (st - 1 - k)) % 6 = (n9 + 6 - (st - k)) % 6 by omega]
    exact SP_fr hq (fun i a b => e i (by omega) (by omega))
theorem un_out {c' b' v' g' h' j' : Nat → Int32} {t' u' z' : Int32} {n1 m1 : Nat} {i : Nat} (hi : 67 ≤ i) : sSet cI ad (paSet cQ ad F 17 n1 m1) 1 c' b' v' g' h' j' t' u' z' i = F i := by
  rw [sSet_out (by omega), paSet_out (by omega)]
theorem rf_un {c' b' v' g' h' j' : Nat → Int32} {t' u' z' : Int32} {n1 m1 : Nat} (hR : rfAt cI ad F 77 r ps sl sd ne fa bu hs st ln pt th) : rfAt cI ad (sSet cI ad (paSet cQ ad F 17 n1 m1) 1 c' b' v' g' h' j' t' u' z') 77 r ps sl sd ne fa bu hs st ln pt th := rfAt_keep hR (fun i a b => un_out (by omega))
/-- the same, the class's cells being the row -/
def IN1 (cI cQ cL : ClassId) (ad : Nat → Nat) (F : Nat → va_E) : Prop := ∃ (r ps sl sd ne fa bu : Nat → Int32) (hs : Bool) (st ln pt : Nat) (th : Int32), rfAt cI ad F 77 r ps sl sd ne fa bu hs st ln pt th ∧ (∃ (b v g h j : Nat → Int32) (t : Nat) (u z : Int32) (Np : Nat → Nat) (Wp : Nat → Nat → Nat), stAt cI ad F 1 r b v g h j (nI t) u z ∧ Pos r b v g h j t u z Np Wp) ∧ ICl cI cQ ad F r ps sl bu hs st ln ∧ ∃ o, F 85 = .inl (cL, 1, .inr (.inl o))
theorem INV_IN1 (H : INV cI cQ cL ad F) : ∃ F', eqv 86 F F' ∧ F' 0 = F 0 ∧ IN1 cI cQ cL ad F' := by
  obtain ⟨r, ps, sl, sd, ne, fa, bu, hs, st, ln, pt, th, hR, ⟨⟨c, b, v, g, h, j, t, u, z, Np, Wp, hN, HP, hc⟩, h2, ⟨n9, h3⟩, h4, h5, h8⟩, o, h85⟩ := H
  have e : ∀ i, i < 1 ∨ 8 < i → sSet cI ad F 1 r b v g h j (nI t) u z i = F i := fun i hi => sSet_out (by omega)
  refine ⟨sSet cI ad F 1 r b v g h j (nI t) u z, fun k hk => ?_, e 0 (by omega), r, ps, sl, sd, ne, fa, bu, hs, st, ln, pt, th, rfAt_keep hR (fun i a b => e i (by omega)), ⟨b, v, g, h, j, t, u, z, Np, Wp, sSet_at hN, HP⟩, ⟨⟨r, b, v, g, h, j, t, u, z, Np, Wp, sSet_at hN, HP, fun _ _ => rfl⟩, SNP_fr h2 (fun i a b => e i (by omega)), ⟨n9, RNG_fr h3 (fun i a b => e i (by omega))⟩, TXT_fr h4 (fun i a b => e i (by omega)), OTH_fr h5 (fun i a b => e i (by omega)), (e 0 (by omega)).trans h8⟩, o, (e 85 (by omega)).trans h85⟩
  by_cases hk3 : k = 1 + 1 + 1
  · subst hk3
    exact Or.inr ⟨cI, 16, c, r, hN.2.1.2.1, (sSet_at (c' := r) (b' := b) (v' := v) (g' := g) (h' := h) (j' := j) (t' := nI t) (u' := u) (z' := z) hN).2.1.2.1, hc⟩
  · refine Or.inl ?_
    have hs9 := congrFun (sSet_self hN) k
    rw [← hs9]
    unfold sSet mSet
    simp only [hk3, if_false]
end INW
