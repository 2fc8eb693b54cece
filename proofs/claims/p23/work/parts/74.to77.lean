/-! from lawrows -/
section
/-! rows of the law: its own methods, which catch what the class throws -/
def xnL : List (String × String) := [(eI, eS), (eI, eA), (eS, eI), (eS, eA), (eA, eI), (eA, eS)]
def XN (U : State) : Prop := ∀ q ∈ xnL, va_Nc q.1 q.2 U
theorem XN.same {u U : State} (e : u.vm = U.vm) (h : XN u) : XN U := fun q hq => va_Nc.moved (by rw [e]; exact Vm.Alike.refl U.vm) (h q hq)
theorem XN.warm {s U : State} (hW : s.WarmedH U.vm) (h : XN s) : XN U := fun q hq => va_Nc.moved hW.alike (h q hq)
/-- a method of the law's: an int, a world -/
def ML (l : Launch) (y : MethodName) (ws : List Cond) (rm : Room) (D : va_G) (cI cQ cL : ClassId) (ad : Nat → Nat) (N : Nat) (F : Nat → va_E) (args : List Value) (r : Int32) (G : Nat → va_E) (mc ms : Nat) : Prop :=
  ∀ sz : Nat, Met l y ws rm (va_Pc args (fun U => U.heap.size = sz ∧ iD ad N ∧ rW D cI cQ cL ad N F U ∧ XW ad N sz U ∧ XN U)) (fun _ st o t => o = .returned (some (.int r)) ∧ va_P D vwCl (iW ad N G) t.heap ∧ va_F (iA ad N sz) st t) mc ms (iA ad N sz)
theorem ML_blind {D : va_G} {cI cQ cL : ClassId} {ad : Nat → Nat} {N : Nat} {F : Nat → va_E} {args : List Value} {sz : Nat} : FrameBlind (va_Pc args (fun U => U.heap.size = sz ∧ iD ad N ∧ rW D cI cQ cL ad N F U ∧ XW ad N sz U ∧ XN U)) :=
  fun a U g mk q => ⟨q.1, q.2.1, q.2.2.1, ⟨q.2.2.2.1.1, va_K.moved (u := U) (U := U.calling g mk a) (Vm.Alike.refl U.vm) q.2.2.2.1.2.1, NW.same rfl q.2.2.2.1.2.2⟩, XW.same rfl rfl q.2.2.2.2.1, XN.same rfl q.2.2.2.2.2⟩
theorem ml_of {l : Launch} {y : MethodName} {rm : Room} {cc : ByteArray} {maxL : Nat} {hh : List (Nat × Nat × Nat × Nat)} {D : va_G} {cI cQ cL : ClassId} {ad : Nat → Nat} {N : Nat} {F G : Nat → va_E} {args : List Value} {r : Int32} {mc ms : Nat}
    (hy : plainName y.cls = true) (hlen : (lg_sl args).length ≤ maxL)
    (body : ∀ (p : Program) (e : Env) (s : State) (m : MethodId) (below : List Frame) (meth : Method) (c : Code) (Q : State → Prop) (ls : Array Slot),
      p.tables.exec = Jvm.exec → c.code = cc → c.maxLocals = maxL → s.vm.findClass y.cls = some m.cls → (∀ w ∈ LW, w.before args.toArray s = true) → c.exceptionTable.toList = tableOf hh → iD ad N → va_P D vwCl (iW ad N F) s.heap → va_K D vwCl (iT cI cQ cL) s → NW s → va_S (iA ad N s.heap.size) s.heap s.heap [] → XW ad N s.heap.size s → XN s →
      (∀ (pc : Nat) (ls : Array Slot) (H : Heap) (locs : List Loc) (k n : Nat), va_P D vwCl (iW ad N G) H → va_S (iA ad N s.heap.size) s.heap H locs → k ≤ mc → n ≤ ms → decode cc pc = .ok (.ireturn, 1) → W p l e rm s m args.toArray below meth c H locs k n Q (F0 m pc ls [.int r])) →
      lv_has ls maxL (lv_args 0 args) → W p l e rm s m args.toArray below meth c s.heap [] 0 0 Q (F0 m 0 ls [])) : ML l y (Cond.codeWith y cc maxL (some .int) hh :: LW) rm D cI cQ cL ad N F args r G mc ms := by
  intro sz
  refine MetFree.of_bodyS (code := cc) (maxLocals := maxL) (ret := some .int) hy ?_ ?_
  · intro args s m h hn
    obtain ⟨m9, meth, c, hn9, h1, h2, h3, h4, -, h5, h6, -⟩ := Cond.codeWith_spec (atoms_spec (ws := Cond.codeWith y cc maxL (some .int) hh :: LW) h _ List.mem_cons_self)
    cases hn.symm.trans hn9
    exact ⟨meth, c, h1, h2, h3, h4, h5, h6⟩
  · intro p e s m args9 below meth c s₁ B hml hv _
    have hh0 : s₁.heap = s.heap := by rw [B.state]; rfl
    obtain ⟨rfl, hsz, hDi, ⟨hP, hK, hNW⟩, hX, hN⟩ := hv
    subst hsz
    have hts := atoms_spec (ws := Cond.codeWith y cc maxL (some .int) hh :: LW) B.pre
    have hl := lv_entry args (n := maxL) hlen
    have K : W p l e rm s m args.toArray below meth c s.heap [] 0 0 (MQ below (fun _ st o t => o = .returned (some (.int r)) ∧ va_P D vwCl (iW ad N G) t.heap ∧ va_F (iA ad N s.heap.size) st t) args.toArray s mc ms (iA ad N s.heap.size)) (entryFrame m args.toArray maxL) := by
      rw [lg_entry_eq]
      exact body p e s m below meth c _ _ B.exec B.bytes hml (findClass_of_methodNamed B.named) (fun w h => hts w (List.mem_cons_of_mem _ h)) (vx_table (x := y) (S := headSpec (Cond.codeWith y cc maxL (some .int) hh :: LW) rm) B (hts _ List.mem_cons_self)) hDi hP hK hNW va_S.rf hX hN (fun pc ls H locs k n hP1 hS h1 h2 hd => by
        refine W.widen (k := mc) (n := ms) h1 h2 ?_
        exact W.zret B.exec B.bytes B.returns rfl (fun t ht _ => ⟨rfl, by rw [ht]; exact hP1, hS.F ht⟩) hS.2.2 hd B.notSynchronized) hl
    obtain ⟨t, a1, o, b1, b2, b3⟩ := K s₁ hh0 (Stand.of_body B)
    exact ⟨t, o, a1, b1, b2, ⟨b3.1, b3.2⟩⟩
/-- the same, the world told in part -/
def MLE (l : Launch) (y : MethodName) (ws : List Cond) (rm : Room) (D : va_G) (cI cQ cL : ClassId) (ad : Nat → Nat) (N : Nat) (F : Nat → va_E) (args : List Value) (r : Int32) (PG : (Nat → va_E) → Prop) (mc ms : Nat) : Prop :=
  ∀ sz : Nat, Met l y ws rm (va_Pc args (fun U => U.heap.size = sz ∧ iD ad N ∧ rW D cI cQ cL ad N F U ∧ XW ad N sz U ∧ XN U)) (fun _ st o t => o = .returned (some (.int r)) ∧ (∃ G, PG G ∧ va_P D vwCl (iW ad N G) t.heap) ∧ va_F (iA ad N sz) st t) mc ms (iA ad N sz)
theorem mlE_of {l : Launch} {y : MethodName} {rm : Room} {cc : ByteArray} {maxL : Nat} {hh : List (Nat × Nat × Nat × Nat)} {D : va_G} {cI cQ cL : ClassId} {ad : Nat → Nat} {N : Nat} {F : Nat → va_E} {PG : (Nat → va_E) → Prop} {args : List Value} {r : Int32} {mc ms : Nat}
    (hy : plainName y.cls = true) (hlen : (lg_sl args).length ≤ maxL)
    (body : ∀ (p : Program) (e : Env) (s : State) (m : MethodId) (below : List Frame) (meth : Method) (c : Code) (Q : State → Prop) (ls : Array Slot),
      p.tables.exec = Jvm.exec → c.code = cc → c.maxLocals = maxL → s.vm.findClass y.cls = some m.cls → (∀ w ∈ LW, w.before args.toArray s = true) → c.exceptionTable.toList = tableOf hh → iD ad N → va_P D vwCl (iW ad N F) s.heap → va_K D vwCl (iT cI cQ cL) s → NW s → va_S (iA ad N s.heap.size) s.heap s.heap [] → XW ad N s.heap.size s → XN s →
      (∀ (pc : Nat) (ls : Array Slot) (H : Heap) (locs : List Loc) (k n : Nat) (G : Nat → va_E), PG G → va_P D vwCl (iW ad N G) H → va_S (iA ad N s.heap.size) s.heap H locs → k ≤ mc → n ≤ ms → decode cc pc = .ok (.ireturn, 1) → W p l e rm s m args.toArray below meth c H locs k n Q (F0 m pc ls [.int r])) →
      lv_has ls maxL (lv_args 0 args) → W p l e rm s m args.toArray below meth c s.heap [] 0 0 Q (F0 m 0 ls [])) : MLE l y (Cond.codeWith y cc maxL (some .int) hh :: LW) rm D cI cQ cL ad N F args r PG mc ms := by
  intro sz
  refine MetFree.of_bodyS (code := cc) (maxLocals := maxL) (ret := some .int) hy ?_ ?_
  · intro args s m h hn
    obtain ⟨m9, meth, c, hn9, h1, h2, h3, h4, -, h5, h6, -⟩ := Cond.codeWith_spec (atoms_spec (ws := Cond.codeWith y cc maxL (some .int) hh :: LW) h _ List.mem_cons_self)
    cases hn.symm.trans hn9
    exact ⟨meth, c, h1, h2, h3, h4, h5, h6⟩
  · intro p e s m args9 below meth c s₁ B hml hv _
    have hh0 : s₁.heap = s.heap := by rw [B.state]; rfl
    obtain ⟨rfl, hsz, hDi, ⟨hP, hK, hNW⟩, hX, hN⟩ := hv
    subst hsz
    have hts := atoms_spec (ws := Cond.codeWith y cc maxL (some .int) hh :: LW) B.pre
    have hl := lv_entry args (n := maxL) hlen
    have K : W p l e rm s m args.toArray below meth c s.heap [] 0 0 (MQ below (fun _ st o t => o = .returned (some (.int r)) ∧ (∃ G, PG G ∧ va_P D vwCl (iW ad N G) t.heap) ∧ va_F (iA ad N s.heap.size) st t) args.toArray s mc ms (iA ad N s.heap.size)) (entryFrame m args.toArray maxL) := by
      rw [lg_entry_eq]
      exact body p e s m below meth c _ _ B.exec B.bytes hml (findClass_of_methodNamed B.named) (fun w h => hts w (List.mem_cons_of_mem _ h)) (vx_table (x := y) (S := headSpec (Cond.codeWith y cc maxL (some .int) hh :: LW) rm) B (hts _ List.mem_cons_self)) hDi hP hK hNW va_S.rf hX hN (fun pc ls H locs k n G hG hP1 hS h1 h2 hd => by
        refine W.widen (k := mc) (n := ms) h1 h2 ?_
        exact W.zret B.exec B.bytes B.returns rfl (fun t ht _ => ⟨rfl, ⟨G, hG, by rw [ht]; exact hP1⟩, hS.F ht⟩) hS.2.2 hd B.notSynchronized) hl
    obtain ⟨t, a1, o, b1, b2, b3⟩ := K s₁ hh0 (Stand.of_body B)
    exact ⟨t, o, a1, b1, b2, ⟨b3.1, b3.2⟩⟩
theorem gInL {y : Cond} (h : y ∈ AW) : GoodIn LW (y :: AW) := by
  intro w hw
  have hm : w ∈ AW := by
    rcases List.mem_cons.mp hw with rfl | h9
    · exact h
    · exact h9
  exact ⟨lcA _ hm, good_of_word (List.all_eq_true.mp AW_good w hm)⟩
theorem gInLS {own : String} {index : Nat} {y : MethodName} {x : Cond} (hl : Cond.methodLink own index y ∈ LW) (hs : Cond.static y ∈ LW) (hi : Cond.initialized y.cls ∈ LW) (hx : x ∈ LW) : GoodIn LW (va_wsS own index y (x :: LW)) := by
  intro w hw
  have hm : w ∈ LW := by
    unfold va_wsS at hw
    simp only [List.mem_append, List.mem_cons, List.not_mem_nil, or_false] at hw
    first
      | (rcases hw with (rfl | rfl | rfl) | (rfl | h) <;> assumption)
      | (rcases hw with rfl | rfl | rfl | rfl | h <;> assumption)
  exact ⟨hm, good_of_word (List.all_eq_true.mp LW_good w hm)⟩
theorem cwVL {s : State} {args : Array Value} {R rm : Room} {own C : String} {index maxL mc ms : Nat} {y : MethodName} {bytes : ByteArray} {ret : Option FieldType} (n : Nat) (ht : ∀ w ∈ LW, w.before args s = true) (hc : Cond.code y bytes maxL ret ∈ AW) (hl : Cond.methodLink own index y ∈ LW) (hi : Cond.instanceMethod y ∈ AW) (he : Cond.selects C y y ∈ AW) (hini : Cond.initialized y.cls ∈ AW) (hrc : rm.cells = mc) (hrs : rm.slots = ms)
    (hd : y.cls ≠ "java/lang/invoke/MethodHandle" ∧ y.cls ≠ "java/lang/invoke/VarHandle" ∧ (parseMethodDescriptor y.desc).map (fun d => d.parameters.length) = some n) (hR : rm.frames + 1 ≤ R.frames ∧ 8 + (maxL + 11) + rm.locals ≤ R.locals) : CallW R s args own C index y bytes maxL ret (Cond.code y bytes maxL ret :: AW) rm mc ms n :=
  ⟨callB_of n ht (gInL hc) rfl hrc hrs (ht _ (lcA _ hini)) (ht _ hl) hd hR, ht _ (lcA _ hi), ht _ (lcA _ he)⟩
section LROWS
variable {p : Program} {l : Launch} {e : Env} {R : Room} {s : State} {m : MethodId} {args : Array Value} {below : List Frame} {meth : Method} {c : Code} {H : Heap} {locs : List Loc} {cells slots : Nat} {Q : State → Prop}
variable {cc : ByteArray} {pc : Nat} {ls : Array Slot} {rest st0 : List Value} {D : va_G} {cI cQ cL : ClassId} {ad : Nat → Nat} {N : Nat} {F : Nat → va_E} {Ts : List Cond}
/-- a call of a virtual method that throws -/
theorem cvT {nL index na mc ms : Nat} {own C : String} {y : MethodName} {bytes : ByteArray} {maxL : Nat} {ret : Option FieldType} {ws : List Cond} {rm : Room} {As : List Value} {E : String} {k ci n : Nat} {T : u_T} {fs : List Value}
    (S : CallFix p m c cc nL s args Ts own) (hM : MT l y ws rm D cI cQ cL ad N F (.ref (ad k) :: As) E mc ms) (cw : CallW R s args own C index y bytes maxL ret ws rm mc ms na) (hDi : iD ad N) (hK : va_K D vwCl (iT cI cQ cL) s) (hP : va_P D vwCl (iW ad N F) H) (hNW : NW s) (hS : va_S (iA ad N s.heap.size) s.heap H locs) (hX : XW ad N s.heap.size s) (hk : k < N) (hF : F k = .inr (ci, fs)) (hc : vwCl[ci]? = some (C, T, n))
    (hn : As.length = na) (hsize : ls.size = nL) (hstack : st0 = As.reverse ++ .ref (ad k) :: rest) (hW : (rest.map fun v => v.category).sum ≤ 8) (hf : cells + mc ≤ R.cells ∧ slots + ms ≤ R.slots) (hdg : decode cc pc = .ok (.invokevirtual index, 3))
    (kx : ∀ (H1 : Heap) (locs1 : List Loc) (q : Addr) (ce : Cell), va_P D vwCl (iW ad N F) H1 → va_S (iA ad N s.heap.size) s.heap H1 locs1 → H1[q]? = some ce → ce.vm = .none → s.vm.findClass E = some ce.cls → vx_W p l e R s m args below meth c H1 locs1 (cells + mc) (slots + ms) Q (F0 m pc ls rest) q) : W p l e R s m args below meth c H locs cells slots Q (F0 m pc ls st0) := by
  have hr := vx_runV (g := F0 m pc ls st0) (p := p) (l := l) (e := e) (R := R) (m := m) (meth := meth) (below := below) (H := H) (locs := locs) (cells := cells) (slots := slots) S (hM H.size) cw ⟨MT_blind, icond hK hP hk hF hc, fun U hU hW => MT_pre hDi hK hP hNW hS hX hU hW⟩ rfl hn hsize hstack (lv_room hW) hdg hf
  intro T hT X
  rcases hr T hT X with ⟨v, st₀, t, T', L, h0, X', hL, e1, e2, hfalse, st⟩ | ⟨q, st₀, t, T', L, E9, ce, h0, X', hL, e1, e2, ⟨rfl, hb, hF⟩, hce, hcv, hcl, st⟩
  · exact hfalse.elim
  · obtain ⟨-, -, k3⟩ := vx_keep h0 e1 hS (fun q _ h => iA_up hS q h) (iA_up hS) hL hF
    obtain ⟨t2, a1, b1⟩ := kx T'.heap (locs ++ L) q ce (by rw [e1]; exact hb) k3 (by rw [e1]; exact hce) hcv hcl T' rfl X'
    exact ⟨t2, st.trans a1, b1⟩
/-- a long kept in a row of one -/
theorem lst (F' : Nat → va_E) (hx : p.tables.exec = Jvm.exec) (hb : c.code = cc) (hK : va_K D vwCl (iT cI cQ cL) s) (hDi : iD ad N) (hP : va_P D vwCl (iW ad N F) H) (hS : va_S (iA ad N s.heap.size) s.heap H locs) {k : Nat} {o : Nat → Int64} {z : Int64} (hk : k < N) (hF : F k = .inl (cL, 1, .inr (.inl o))) (hdg : decode cc pc = .ok (.lastore, 1)) (hcan : va_up F k (.inl (cL, 1, .inr (.inl (vp_updL o 0 z)))) = F')
    (kk : ∀ (H1 : Heap) (locs1 : List Loc), va_P D vwCl (iW ad N F') H1 → va_S (iA ad N s.heap.size) s.heap H1 locs1 → W p l e R s m args below meth c H1 locs1 cells slots Q (F0 m (pc + 1) ls rest)) : W p l e R s m args below meth c H locs cells slots Q (F0 m pc ls (.long z :: .int (nI 0) :: .ref (ad k) :: rest)) := by
  refine va_last hx hb hK hP (iA_D hDi) hS k 2 (iW_at hk hF) rfl (vp_in_nI (by decide) (by decide)) hdg (fun H1 locs1 hP1 hD1 hS1 => kk H1 locs1 ?_ hS1)
  rw [nI_clamp (by decide), iW_set hk, hcan] at hP1
  exact hP1
theorem lld (hx : p.tables.exec = Jvm.exec) (hb : c.code = cc) (hK : va_K D vwCl (iT cI cQ cL) s) (hP : va_P D vwCl (iW ad N F) H) {k : Nat} {o : Nat → Int64} (hk : k < N) (hF : F k = .inl (cL, 1, .inr (.inl o))) (hdg : decode cc pc = .ok (.laload, 1))
    (kk : W p l e R s m args below meth c H locs cells slots Q (F0 m (pc + 1) ls (.long (o 0) :: rest))) : W p l e R s m args below meth c H locs cells slots Q (F0 m pc ls (.int (nI 0) :: .ref (ad k) :: rest)) := by
  refine va_lald hx hb hK hP k 2 (iW_at hk hF) rfl (vp_in_nI (by decide) (by decide)) hdg ?_
  rw [nI_clamp (by decide)]
  exact kk
theorem ML_pre {argl : List Value} {U : State} (hDi : iD ad N) (hK : va_K D vwCl (iT cI cQ cL) s) (hP : va_P D vwCl (iW ad N F) H) (hNW : NW s) (hS : va_S (iA ad N s.heap.size) s.heap H locs) (hX : XW ad N s.heap.size s) (hN : XN s) (hU : U.heap = H) (hW : s.WarmedH U.vm) : va_Pc argl (fun U => U.heap.size = H.size ∧ iD ad N ∧ rW D cI cQ cL ad N F U ∧ XW ad N H.size U ∧ XN U) argl.toArray U :=
  ⟨rfl, by rw [hU], hDi, ⟨by rw [hU]; exact hP, va_K.moved hW.alike hK, hNW.warm hW⟩, hX.go hS hU hW, hN.warm hW⟩
/-- a call of one of the law's own methods -/
theorem csL {nL index na mc ms : Nat} {own : String} {y : MethodName} {bytes : ByteArray} {maxL : Nat} {ret : Option FieldType} {hh : List (Nat × Nat × Nat × Nat)} {ws : List Cond} {rm : Room} {As : List Value} {r : Int32} {G : Nat → va_E}
    (S : CallFix p m c cc nL s args Ts own) (hM : ML l y ws rm D cI cQ cL ad N F As r G mc ms) (cw : vx_CSW R s args own index y bytes maxL ret hh ws rm mc ms na) (hDi : iD ad N) (hK : va_K D vwCl (iT cI cQ cL) s) (hP : va_P D vwCl (iW ad N F) H) (hNW : NW s) (hS : va_S (iA ad N s.heap.size) s.heap H locs) (hX : XW ad N s.heap.size s) (hN : XN s)
    (hn : As.length = na) (hsize : ls.size = nL) (hstack : st0 = As.reverse ++ rest) (hW : (rest.map fun v => v.category).sum ≤ 8) (hf : cells + mc ≤ R.cells ∧ slots + ms ≤ R.slots) (hdg : decode cc pc = .ok (.invokestatic index, 3))
    (kk : ∀ (H1 : Heap) (locs1 : List Loc), va_P D vwCl (iW ad N G) H1 → va_S (iA ad N s.heap.size) s.heap H1 locs1 → W p l e R s m args below meth c H1 locs1 (cells + mc) (slots + ms) Q (F0 m (pc + 3) ls (.int r :: rest))) : W p l e R s m args below meth c H locs cells slots Q (F0 m pc ls st0) := by
  have hr := vx_runSW (g := F0 m pc ls st0) (p := p) (l := l) (e := e) (R := R) (m := m) (meth := meth) (below := below) (H := H) (locs := locs) (cells := cells) (slots := slots) S (hM H.size) cw ⟨ML_blind, fun U hU hW => ML_pre hDi hK hP hNW hS hX hN hU hW⟩ rfl hn hsize hstack (lv_room hW) hdg hf
  intro T hT X
  obtain ⟨v, st₀, t, T', L, h0, X', hL, e1, e2, ⟨hv, hb, hF⟩, st⟩ := hr T hT X
  cases hv
  obtain ⟨-, -, k3⟩ := vx_keep h0 e1 hS (fun q _ h => iA_up hS q h) (iA_up hS) hL hF
  obtain ⟨t2, a1, b1⟩ := kk T'.heap (locs ++ L) (by rw [e1]; exact hb) k3 T' rfl X'
  exact ⟨t2, st t2 a1, b1⟩
/-- a call of one of the law's own methods -/
theorem csLE {nL index na mc ms : Nat} {own : String} {y : MethodName} {bytes : ByteArray} {maxL : Nat} {ret : Option FieldType} {hh : List (Nat × Nat × Nat × Nat)} {ws : List Cond} {rm : Room} {As : List Value} {r : Int32} {PG : (Nat → va_E) → Prop}
    (S : CallFix p m c cc nL s args Ts own) (hM : MLE l y ws rm D cI cQ cL ad N F As r PG mc ms) (cw : vx_CSW R s args own index y bytes maxL ret hh ws rm mc ms na) (hDi : iD ad N) (hK : va_K D vwCl (iT cI cQ cL) s) (hP : va_P D vwCl (iW ad N F) H) (hNW : NW s) (hS : va_S (iA ad N s.heap.size) s.heap H locs) (hX : XW ad N s.heap.size s) (hN : XN s)
    (hn : As.length = na) (hsize : ls.size = nL) (hstack : st0 = As.reverse ++ rest) (hW : (rest.map fun v => v.category).sum ≤ 8) (hf : cells + mc ≤ R.cells ∧ slots + ms ≤ R.slots) (hdg : decode cc pc = .ok (.invokestatic index, 3))
    (kk : ∀ (G : Nat → va_E) (H1 : Heap) (locs1 : List Loc), PG G → va_P D vwCl (iW ad N G) H1 → va_S (iA ad N s.heap.size) s.heap H1 locs1 → W p l e R s m args below meth c H1 locs1 (cells + mc) (slots + ms) Q (F0 m (pc + 3) ls (.int r :: rest))) : W p l e R s m args below meth c H locs cells slots Q (F0 m pc ls st0) := by
  have hr := vx_runSW (g := F0 m pc ls st0) (p := p) (l := l) (e := e) (R := R) (m := m) (meth := meth) (below := below) (H := H) (locs := locs) (cells := cells) (slots := slots) S (hM H.size) cw ⟨ML_blind, fun U hU hW => ML_pre hDi hK hP hNW hS hX hN hU hW⟩ rfl hn hsize hstack (lv_room hW) hdg hf
  intro T hT X
  obtain ⟨v, st₀, t, T', L, h0, X', hL, e1, e2, ⟨hv, ⟨G, hG, hb⟩, hF⟩, st⟩ := hr T hT X
  cases hv
  obtain ⟨-, -, k3⟩ := vx_keep h0 e1 hS (fun q _ h => iA_up hS q h) (iA_up hS) hL hF
  obtain ⟨t2, a1, b1⟩ := kk G T'.heap (locs ++ L) hG (by rw [e1]; exact hb) k3 T' rfl X'
  exact ⟨t2, st t2 a1, b1⟩
end LROWS
theorem XWc {ad : Nat → Nat} {N sz : Nat} {s : State} {args : Array Value} (hX : XW ad N sz s) {E : String} (hE : E ∈ xbC) : (Cond.castable E E).before args s = true := va_Nw.use rfl (hX.2.1 E hE)
theorem XNn {s : State} (hN : XN s) {E nm : String} (h : (E, nm) ∈ xnL) : va_Nc E nm s := hN _ h
/-- a method that reads is one that writes nothing -/
theorem MX_of_MR {l : Launch} {y : MethodName} {ws : List Cond} {rm : Room} {D : va_G} {cI cQ cL : ClassId} {ad : Nat → Nat} {N : Nat} {F : Nat → va_E} {args : List Value} {r : Value} (h : MR l y ws rm D cI cQ cL ad N F args r) : MX l y ws rm D cI cQ cL ad N F args (dp (some r) F) 0 0 := by
  intro sz p e ha hc hk s m args9 below hf hS hP hK9
  obtain ⟨n, o, a1, a2, a3, a4⟩ := h p e ha hc hk s m args9 below hf hS ⟨hP.1, hP.2.2.2⟩ hK9
  refine ⟨n, o, a1, a2, a3, ?_⟩
  obtain ⟨⟨hv, hh⟩, L, hF, hL⟩ := a4
  refine ⟨⟨some r, F, hv, ⟨rfl, rfl⟩, ?_, ?_⟩, L, hF, fun q hq => (hL q hq).elim⟩
  · rw [hh]
    exact hP.2.2.2.1
  · unfold va_F
    rw [hh]
    exact ⟨Nat.le_refl _, fun _ _ _ => rfl⟩
theorem MLE_of_ML {l : Launch} {y : MethodName} {ws : List Cond} {rm : Room} {D : va_G} {cI cQ cL : ClassId} {ad : Nat → Nat} {N : Nat} {F G : Nat → va_E} {args : List Value} {r : Int32} {mc ms : Nat} (h : ML l y ws rm D cI cQ cL ad N F args r G mc ms) : MLE l y ws rm D cI cQ cL ad N F args r (fun G9 => G9 = G) mc ms := by
  intro sz p e ha hc hk s m args9 below hf hS hP hK9
  obtain ⟨n, o, a1, a2, a3, q, a4⟩ := h sz p e ha hc hk s m args9 below hf hS hP hK9
  exact ⟨n, o, a1, a2, a3, ⟨q.1, ⟨G, rfl, q.2.1⟩, q.2.2⟩, a4⟩
/-- the same contents as far as the lengths go -/
def eqv (N : Nat) (F F' : Nat → va_E) : Prop := ∀ k, k < N → F k = F' k ∨ ∃ (cA : ClassId) (n : Nat) (f g : Nat → Int32), F k = .inl (cA, n, .inl f) ∧ F' k = .inl (cA, n, .inl g) ∧ ∀ j, j < n → f j = g j
theorem MX_eqv {l : Launch} {y : MethodName} {ws : List Cond} {rm : Room} {D : va_G} {cI cQ cL : ClassId} {ad : Nat → Nat} {N : Nat} {F F' : Nat → va_E} {args : List Value} {post : Option Value → (Nat → va_E) → Prop} {mc ms : Nat} (h : MX l y ws rm D cI cQ cL ad N F' args post mc ms) (q : eqv N F F') : MX l y ws rm D cI cQ cL ad N F args post mc ms := by
  intro sz p e ha hc hk s m args9 below hf hS hP hK9
  exact h sz p e ha hc hk s m args9 below hf hS ⟨hP.1, hP.2.1, hP.2.2.1, ⟨iW_ext hP.2.2.2.1 q, hP.2.2.2.2⟩⟩ hK9
theorem ML_eqv {l : Launch} {y : MethodName} {ws : List Cond} {rm : Room} {D : va_G} {cI cQ cL : ClassId} {ad : Nat → Nat} {N : Nat} {F F' G : Nat → va_E} {args : List Value} {r : Int32} {mc ms : Nat} (h : ML l y ws rm D cI cQ cL ad N F' args r G mc ms) (q : eqv N F F') : ML l y ws rm D cI cQ cL ad N F args r G mc ms := by
  intro sz p e ha hc hk s m args9 below hf hS hP hK9
  exact h sz p e ha hc hk s m args9 below hf hS ⟨hP.1, hP.2.1, hP.2.2.1, ⟨iW_ext hP.2.2.2.1.1 q, hP.2.2.2.1.2⟩, hP.2.2.2.2⟩ hK9
theorem MLE_eqv {l : Launch} {y : MethodName} {ws : List Cond} {rm : Room} {D : va_G} {cI cQ cL : ClassId} {ad : Nat → Nat} {N : Nat} {F F' : Nat → va_E} {args : List Value} {r : Int32} {PG : (Nat → va_E) → Prop} {mc ms : Nat} (h : MLE l y ws rm D cI cQ cL ad N F' args r PG mc ms) (q : eqv N F F') : MLE l y ws rm D cI cQ cL ad N F args r PG mc ms := by
  intro sz p e ha hc hk s m args9 below hf hS hP hK9
  exact h sz p e ha hc hk s m args9 below hf hS ⟨hP.1, hP.2.1, hP.2.2.1, ⟨iW_ext hP.2.2.2.1.1 q, hP.2.2.2.1.2⟩, hP.2.2.2.2⟩ hK9
end
/-! from lawmeth -/
section
set_option maxRecDepth 100000 in
set_option maxHeartbeats 4000000 in
theorem tL_fly (l : Launch) (D : va_G) (cI cQ cL : ClassId) (ad : Nat → Nat) (N : Nat) (F : Nat → va_E) (hN : 85 < N) (fs : List Value) (hF0 : F 0 = .inr (5, fs)) (a1 a2 a3 : Int32) (G : Nat → va_E) (o : Nat → Int64) (hG : G 85 = .inl (cL, 1, .inr (.inl o))) (r : Int32) {rm : Room} (hM : MX l yX5_fly (Cond.code yX5_fly cX5_fly 4 (some .int) :: AW) rm D cI cQ cL ad N F [.ref (ad 0), .int a1, .int a2, .int a3] (dp (some (.int r)) G) 0 0) (hrc : rm.cells = 0) (hrs : rm.slots = 0) (hfr : rm.frames + 1 ≤ 12) (hlo : 8 + (4 + 11) + rm.locals ≤ 450) : ML l yL_fly (Cond.codeWith yL_fly cL_fly 6 (some .int) [(0, 12, 15, 13), (0, 12, 19, 15), (0, 12, 23, 17)] :: LW) ({ frames := 12, cells := 1, slots := 6, locals := 450 } : Room) D cI cQ cL ad N F [.ref (ad 0), .int a1, .int a2, .int a3, .ref (ad 85)] (nI 0) (va_up G 85 (.inl (cL, 1, .inr (.inl (vp_updL o 0 r.toInt64))))) 1 6 := by
  refine ml_of (by decide +kernel) (Nat.le_of_ble_eq_true rfl) (fun p e s m below meth cd Q ls hx hb hml hown hts htab hDi hP hK hNW hS hX hXN hret hl => ?_)
  have hown : s.vm.findClass RL = some m.cls := hown
  have hl : lv_has ls 6 [(0, .ref (ad 0)), (1, .int a1), (2, .int a2), (3, .int a3), (4, .ref (ad 85))] := hl
  refine lv_aload hx hb (dk kL_fly_ok 0 rfl) (lv_at hl 4 rfl) ?_
  refine lv_iconst (v := nI 0) hx hb (dk kL_fly_ok 1 rfl) rfl ?_
  refine lv_aload_n hx hb (dk kL_fly_ok 2 rfl) rfl (lv_at hl 0 rfl) ?_
  refine lv_iload_n hx hb (dk kL_fly_ok 3 rfl) rfl (lv_at hl 1 rfl) ?_
  refine lv_iload_n hx hb (dk kL_fly_ok 4 rfl) rfl (lv_at hl 2 rfl) ?_
  refine lv_iload_n hx hb (dk kL_fly_ok 5 rfl) rfl (lv_at hl 3 rfl) ?_
  refine cvD G (As := [.int a1, .int a2, .int a3]) (rest := [.int (nI 0), .ref (ad 85)]) ⟨hx, hb, hml, hown, hts⟩ hM (cwVL 3 hts mcX5_fly (lc0 _ (List.mem_of_getElem? (i := 3) rfl)) miX5_fly meX5_fly mini_RX5 hrc hrs hdX5_fly ⟨hfr, hlo⟩) hDi hK hP hNW hS (k := 0) (by omega) hF0 rfl rfl hl.1 rfl (Nat.le_of_ble_eq_true rfl) ⟨Nat.le_of_ble_eq_true rfl, Nat.le_of_ble_eq_true rfl⟩ (dk kL_fly_ok 6 rfl) rfl (fun H locs hP hS => ?_)
  refine lv_i2l (v := r.toInt64) hx hb (dk kL_fly_ok 7 rfl) rfl ?_
  refine lst _ (k := 85) hx hb hK hDi hP hS hN hG (dk kL_fly_ok 8 rfl) rfl (fun H locs hP hS => ?_)
  refine lv_goto (tgt := 27) hx hb (dk kL_fly_ok 9 rfl) (by decide) ?_
  refine lv_iconst (v := nI 0) hx hb (dk kL_fly_ok 19 rfl) rfl ?_
  exact hret _ _ _ _ _ _ hP hS (by decide) (by decide) (dk kL_fly_ok 20 rfl)
set_option maxRecDepth 100000 in
set_option maxHeartbeats 4000000 in
theorem tL_fly_x (l : Launch) (D : va_G) (cI cQ cL : ClassId) (ad : Nat → Nat) (N : Nat) (F : Nat → va_E) (hN : 85 < N) (fs : List Value) (hF0 : F 0 = .inr (5, fs)) (a1 a2 a3 : Int32) (E : String) (kk : Nat) (hE : (E = eI ∧ kk = 1) ∨ (E = eA ∧ kk = 2) ∨ (E = eS ∧ kk = 3)) {rm : Room} (hM : MT l yX5_fly (Cond.code yX5_fly cX5_fly 4 (some .int) :: AW) rm D cI cQ cL ad N F [.ref (ad 0), .int a1, .int a2, .int a3] E 1 6) (hrc : rm.cells = 1) (hrs : rm.slots = 6) (hfr : rm.frames + 1 ≤ 12) (hlo : 8 + (4 + 11) + rm.locals ≤ 450) : ML l yL_fly (Cond.codeWith yL_fly cL_fly 6 (some .int) [(0, 12, 15, 13), (0, 12, 19, 15), (0, 12, 23, 17)] :: LW) ({ frames := 12, cells := 1, slots := 6, locals := 450 } : Room) D cI cQ cL ad N F [.ref (ad 0), .int a1, .int a2, .int a3, .ref (ad 85)] (nI kk) F 1 6 := by
  refine ml_of (by decide +kernel) (Nat.le_of_ble_eq_true rfl) (fun p e s m below meth cd Q ls hx hb hml hown hts htab hDi hP hK hNW hS hX hXN hret hl => ?_)
  have hown : s.vm.findClass RL = some m.cls := hown
  have hl : lv_has ls 6 [(0, .ref (ad 0)), (1, .int a1), (2, .int a2), (3, .int a3), (4, .ref (ad 85))] := hl
  refine lv_aload hx hb (dk kL_fly_ok 0 rfl) (lv_at hl 4 rfl) ?_
  refine lv_iconst (v := nI 0) hx hb (dk kL_fly_ok 1 rfl) rfl ?_
  refine lv_aload_n hx hb (dk kL_fly_ok 2 rfl) rfl (lv_at hl 0 rfl) ?_
  refine lv_iload_n hx hb (dk kL_fly_ok 3 rfl) rfl (lv_at hl 1 rfl) ?_
  refine lv_iload_n hx hb (dk kL_fly_ok 4 rfl) rfl (lv_at hl 2 rfl) ?_
  refine lv_iload_n hx hb (dk kL_fly_ok 5 rfl) rfl (lv_at hl 3 rfl) ?_
  refine cvT (As := [.int a1, .int a2, .int a3]) (rest := [.int (nI 0), .ref (ad 85)]) ⟨hx, hb, hml, hown, hts⟩ hM (cwVL 3 hts mcX5_fly (lc0 _ (List.mem_of_getElem? (i := 3) rfl)) miX5_fly meX5_fly mini_RX5 hrc hrs hdX5_fly ⟨hfr, hlo⟩) hDi hK hP hNW hS hX (k := 0) (by omega) hF0 rfl rfl hl.1 rfl (Nat.le_of_ble_eq_true rfl) ⟨Nat.le_of_ble_eq_true rfl, Nat.le_of_ble_eq_true rfl⟩ (dk kL_fly_ok 6 rfl) (fun H locs q ce hP hS hq hcv hcl => ?_)
  rcases hE with ⟨rfl, rfl⟩ | ⟨rfl, rfl⟩ | ⟨rfl, rfl⟩
  · refine vx_catch (name := "java/lang/IndexOutOfBoundsException") hown [] ⟨0, 12, 15, 13⟩ [⟨0, 12, 19, 15⟩, ⟨0, 12, 23, 17⟩] (by rw [htab]; rfl) ?_ (by decide) (by decide) (hts _ (lc0 _ (List.mem_of_getElem? (i := 0) rfl))) (XWc hX (List.mem_of_getElem? (i := 2) rfl)) hq hcv hcl ?_
    · exact fun z hz => nomatch hz
    · refine lv_astore (lv' := [(5, .ref q), (0, .ref (ad 0)), (1, .int a1), (2, .int a2), (3, .int a3), (4, .ref (ad 85))]) hx hb (dk kL_fly_ok 10 rfl) hl (by decide) rfl (fun ls hl => ?_)
      refine lv_iconst (v := nI 1) hx hb (dk kL_fly_ok 11 rfl) rfl ?_
      exact hret _ _ _ _ _ _ hP hS (by decide) (by decide) (dk kL_fly_ok 12 rfl)
  · refine vx_catch (name := "java/lang/IllegalArgumentException") hown [⟨0, 12, 15, 13⟩] ⟨0, 12, 19, 15⟩ [⟨0, 12, 23, 17⟩] (by rw [htab]; rfl) ?_ (by decide) (by decide) (hts _ (lc0 _ (List.mem_of_getElem? (i := 1) rfl))) (XWc hX (List.mem_of_getElem? (i := 1) rfl)) hq hcv hcl ?_
    · intro z hz
      rcases List.mem_singleton.mp hz with rfl
      · exact Or.inr ⟨by decide, "java/lang/IndexOutOfBoundsException", hts _ (lc0 _ (List.mem_of_getElem? (i := 0) rfl)), XNn hXN (List.mem_of_getElem? (i := 4) rfl)⟩
    · refine lv_astore (lv' := [(5, .ref q), (0, .ref (ad 0)), (1, .int a1), (2, .int a2), (3, .int a3), (4, .ref (ad 85))]) hx hb (dk kL_fly_ok 13 rfl) hl (by decide) rfl (fun ls hl => ?_)
      refine lv_iconst (v := nI 2) hx hb (dk kL_fly_ok 14 rfl) rfl ?_
      exact hret _ _ _ _ _ _ hP hS (by decide) (by decide) (dk kL_fly_ok 15 rfl)
  · refine vx_catch (name := "java/lang/IllegalStateException") hown [⟨0, 12, 15, 13⟩, ⟨0, 12, 19, 15⟩] ⟨0, 12, 23, 17⟩ [] (by rw [htab]; rfl) ?_ (by decide) (by decide) (hts _ (lc0 _ (List.mem_of_getElem? (i := 2) rfl))) (XWc hX (List.mem_of_getElem? (i := 0) rfl)) hq hcv hcl ?_
    · intro z hz
      rcases (by simpa using hz : z = ⟨0, 12, 15, 13⟩ ∨ z = ⟨0, 12, 19, 15⟩) with rfl | rfl
      · exact Or.inr ⟨by decide, "java/lang/IndexOutOfBoundsException", hts _ (lc0 _ (List.mem_of_getElem? (i := 0) rfl)), XNn hXN (List.mem_of_getElem? (i := 2) rfl)⟩
      · exact Or.inr ⟨by decide, "java/lang/IllegalArgumentException", hts _ (lc0 _ (List.mem_of_getElem? (i := 1) rfl)), XNn hXN (List.mem_of_getElem? (i := 3) rfl)⟩
    · refine lv_astore (lv' := [(5, .ref q), (0, .ref (ad 0)), (1, .int a1), (2, .int a2), (3, .int a3), (4, .ref (ad 85))]) hx hb (dk kL_fly_ok 16 rfl) hl (by decide) rfl (fun ls hl => ?_)
      refine lv_iconst (v := nI 3) hx hb (dk kL_fly_ok 17 rfl) rfl ?_
      exact hret _ _ _ _ _ _ hP hS (by decide) (by decide) (dk kL_fly_ok 18 rfl)
set_option maxRecDepth 100000 in
set_option maxHeartbeats 4000000 in
theorem tL_lift (l : Launch) (D : va_G) (cI cQ cL : ClassId) (ad : Nat → Nat) (N : Nat) (F : Nat → va_E) (hN : 85 < N) (fs : List Value) (hF0 : F 0 = .inr (5, fs)) (a1 a2 a3 a4 : Int32) (G : Nat → va_E) (o : Nat → Int64) (hG : G 85 = .inl (cL, 1, .inr (.inl o))) (r : Int32) {rm : Room} (hM : MX l yX5_lift (Cond.code yX5_lift cX5_lift 5 (some .int) :: AW) rm D cI cQ cL ad N F [.ref (ad 0), .int a1, .int a2, .int a3, .int a4] (dp (some (.int r)) G) 0 0) (hrc : rm.cells = 0) (hrs : rm.slots = 0) (hfr : rm.frames + 1 ≤ 12) (hlo : 8 + (5 + 11) + rm.locals ≤ 450) : ML l yL_lift (Cond.codeWith yL_lift cL_lift 7 (some .int) [(0, 14, 17, 13), (0, 14, 21, 15), (0, 14, 25, 17)] :: LW) ({ frames := 12, cells := 1, slots := 6, locals := 450 } : Room) D cI cQ cL ad N F [.ref (ad 0), .int a1, .int a2, .int a3, .int a4, .ref (ad 85)] (nI 0) (va_up G 85 (.inl (cL, 1, .inr (.inl (vp_updL o 0 r.toInt64))))) 1 6 := by
  refine ml_of (by decide +kernel) (Nat.le_of_ble_eq_true rfl) (fun p e s m below meth cd Q ls hx hb hml hown hts htab hDi hP hK hNW hS hX hXN hret hl => ?_)
  have hown : s.vm.findClass RL = some m.cls := hown
  have hl : lv_has ls 7 [(0, .ref (ad 0)), (1, .int a1), (2, .int a2), (3, .int a3), (4, .int a4), (5, .ref (ad 85))] := hl
  refine lv_aload hx hb (dk kL_lift_ok 0 rfl) (lv_at hl 5 rfl) ?_
  refine lv_iconst (v := nI 0) hx hb (dk kL_lift_ok 1 rfl) rfl ?_
  refine lv_aload_n hx hb (dk kL_lift_ok 2 rfl) rfl (lv_at hl 0 rfl) ?_
  refine lv_iload_n hx hb (dk kL_lift_ok 3 rfl) rfl (lv_at hl 1 rfl) ?_
  refine lv_iload_n hx hb (dk kL_lift_ok 4 rfl) rfl (lv_at hl 2 rfl) ?_
  refine lv_iload_n hx hb (dk kL_lift_ok 5 rfl) rfl (lv_at hl 3 rfl) ?_
  refine lv_iload hx hb (dk kL_lift_ok 6 rfl) (lv_at hl 4 rfl) ?_
  refine cvD G (As := [.int a1, .int a2, .int a3, .int a4]) (rest := [.int (nI 0), .ref (ad 85)]) ⟨hx, hb, hml, hown, hts⟩ hM (cwVL 4 hts mcX5_lift (lc0 _ (List.mem_of_getElem? (i := 4) rfl)) miX5_lift meX5_lift mini_RX5 hrc hrs hdX5_lift ⟨hfr, hlo⟩) hDi hK hP hNW hS (k := 0) (by omega) hF0 rfl rfl hl.1 rfl (Nat.le_of_ble_eq_true rfl) ⟨Nat.le_of_ble_eq_true rfl, Nat.le_of_ble_eq_true rfl⟩ (dk kL_lift_ok 7 rfl) rfl (fun H locs hP hS => ?_)
  refine lv_i2l (v := r.toInt64) hx hb (dk kL_lift_ok 8 rfl) rfl ?_
  refine lst _ (k := 85) hx hb hK hDi hP hS hN hG (dk kL_lift_ok 9 rfl) rfl (fun H locs hP hS => ?_)
  refine lv_goto (tgt := 29) hx hb (dk kL_lift_ok 10 rfl) (by decide) ?_
  refine lv_iconst (v := nI 0) hx hb (dk kL_lift_ok 20 rfl) rfl ?_
  exact hret _ _ _ _ _ _ hP hS (by decide) (by decide) (dk kL_lift_ok 21 rfl)
set_option maxRecDepth 100000 in
set_option maxHeartbeats 4000000 in
theorem tL_lift_x (l : Launch) (D : va_G) (cI cQ cL : ClassId) (ad : Nat → Nat) (N : Nat) (F : Nat → va_E) (hN : 85 < N) (fs : List Value) (hF0 : F 0 = .inr (5, fs)) (a1 a2 a3 a4 : Int32) (E : String) (kk : Nat) (hE : (E = eI ∧ kk = 1) ∨ (E = eA ∧ kk = 2) ∨ (E = eS ∧ kk = 3)) {rm : Room} (hM : MT l yX5_lift (Cond.code yX5_lift cX5_lift 5 (some .int) :: AW) rm D cI cQ cL ad N F [.ref (ad 0), .int a1, .int a2, .int a3, .int a4] E 1 6) (hrc : rm.cells = 1) (hrs : rm.slots = 6) (hfr : rm.frames + 1 ≤ 12) (hlo : 8 + (5 + 11) + rm.locals ≤ 450) : ML l yL_lift (Cond.codeWith yL_lift cL_lift 7 (some .int) [(0, 14, 17, 13), (0, 14, 21, 15), (0, 14, 25, 17)] :: LW) ({ frames := 12, cells := 1, slots := 6, locals := 450 } : Room) D cI cQ cL ad N F [.ref (ad 0), .int a1, .int a2, .int a3, .int a4, .ref (ad 85)] (nI kk) F 1 6 := by
  refine ml_of (by decide +kernel) (Nat.le_of_ble_eq_true rfl) (fun p e s m below meth cd Q ls hx hb hml hown hts htab hDi hP hK hNW hS hX hXN hret hl => ?_)
  have hown : s.vm.findClass RL = some m.cls := hown
  have hl : lv_has ls 7 [(0, .ref (ad 0)), (1, .int a1), (2, .int a2), (3, .int a3), (4, .int a4), (5, .ref (ad 85))] := hl
  refine lv_aload hx hb (dk kL_lift_ok 0 rfl) (lv_at hl 5 rfl) ?_
  refine lv_iconst (v := nI 0) hx hb (dk kL_lift_ok 1 rfl) rfl ?_
  refine lv_aload_n hx hb (dk kL_lift_ok 2 rfl) rfl (lv_at hl 0 rfl) ?_
  refine lv_iload_n hx hb (dk kL_lift_ok 3 rfl) rfl (lv_at hl 1 rfl) ?_
  refine lv_iload_n hx hb (dk kL_lift_ok 4 rfl) rfl (lv_at hl 2 rfl) ?_
  refine lv_iload_n hx hb (dk kL_lift_ok 5 rfl) rfl (lv_at hl 3 rfl) ?_
  refine lv_iload hx hb (dk kL_lift_ok 6 rfl) (lv_at hl 4 rfl) ?_
  refine cvT (As := [.int a1, .int a2, .int a3, .int a4]) (rest := [.int (nI 0), .ref (ad 85)]) ⟨hx, hb, hml, hown, hts⟩ hM (cwVL 4 hts mcX5_lift (lc0 _ (List.mem_of_getElem? (i := 4) rfl)) miX5_lift meX5_lift mini_RX5 hrc hrs hdX5_lift ⟨hfr, hlo⟩) hDi hK hP hNW hS hX (k := 0) (by omega) hF0 rfl rfl hl.1 rfl (Nat.le_of_ble_eq_true rfl) ⟨Nat.le_of_ble_eq_true rfl, Nat.le_of_ble_eq_true rfl⟩ (dk kL_lift_ok 7 rfl) (fun H locs q ce hP hS hq hcv hcl => ?_)
  rcases hE with ⟨rfl, rfl⟩ | ⟨rfl, rfl⟩ | ⟨rfl, rfl⟩
  · refine vx_catch (name := "java/lang/IndexOutOfBoundsException") hown [] ⟨0, 14, 17, 13⟩ [⟨0, 14, 21, 15⟩, ⟨0, 14, 25, 17⟩] (by rw [htab]; rfl) ?_ (by decide) (by decide) (hts _ (lc0 _ (List.mem_of_getElem? (i := 0) rfl))) (XWc hX (List.mem_of_getElem? (i := 2) rfl)) hq hcv hcl ?_
    · exact fun z hz => nomatch hz
    · refine lv_astore (lv' := [(6, .ref q), (0, .ref (ad 0)), (1, .int a1), (2, .int a2), (3, .int a3), (4, .int a4), (5, .ref (ad 85))]) hx hb (dk kL_lift_ok 11 rfl) hl (by decide) rfl (fun ls hl => ?_)
      refine lv_iconst (v := nI 1) hx hb (dk kL_lift_ok 12 rfl) rfl ?_
      exact hret _ _ _ _ _ _ hP hS (by decide) (by decide) (dk kL_lift_ok 13 rfl)
  · refine vx_catch (name := "java/lang/IllegalArgumentException") hown [⟨0, 14, 17, 13⟩] ⟨0, 14, 21, 15⟩ [⟨0, 14, 25, 17⟩] (by rw [htab]; rfl) ?_ (by decide) (by decide) (hts _ (lc0 _ (List.mem_of_getElem? (i := 1) rfl))) (XWc hX (List.mem_of_getElem? (i := 1) rfl)) hq hcv hcl ?_
    · intro z hz
      rcases List.mem_singleton.mp hz with rfl
      · exact Or.inr ⟨by decide, "java/lang/IndexOutOfBoundsException", hts _ (lc0 _ (List.mem_of_getElem? (i := 0) rfl)), XNn hXN (List.mem_of_getElem? (i := 4) rfl)⟩
    · refine lv_astore (lv' := [(6, .ref q), (0, .ref (ad 0)), (1, .int a1), (2, .int a2), (3, .int a3), (4, .int a4), (5, .ref (ad 85))]) hx hb (dk kL_lift_ok 14 rfl) hl (by decide) rfl (fun ls hl => ?_)
      refine lv_iconst (v := nI 2) hx hb (dk kL_lift_ok 15 rfl) rfl ?_
      exact hret _ _ _ _ _ _ hP hS (by decide) (by decide) (dk kL_lift_ok 16 rfl)
  · refine vx_catch (name := "java/lang/IllegalStateException") hown [⟨0, 14, 17, 13⟩, ⟨0, 14, 21, 15⟩] ⟨0, 14, 25, 17⟩ [] (by rw [htab]; rfl) ?_ (by decide) (by decide) (hts _ (lc0 _ (List.mem_of_getElem? (i := 2) rfl))) (XWc hX (List.mem_of_getElem? (i := 0) rfl)) hq hcv hcl ?_
    · intro z hz
      rcases (by simpa using hz : z = ⟨0, 14, 17, 13⟩ ∨ z = ⟨0, 14, 21, 15⟩) with rfl | rfl
      · exact Or.inr ⟨by decide, "java/lang/IndexOutOfBoundsException", hts _ (lc0 _ (List.mem_of_getElem? (i := 0) rfl)), XNn hXN (List.mem_of_getElem? (i := 2) rfl)⟩
      · exact Or.inr ⟨by decide, "java/lang/IllegalArgumentException", hts _ (lc0 _ (List.mem_of_getElem? (i := 1) rfl)), XNn hXN (List.mem_of_getElem? (i := 3) rfl)⟩
    · refine lv_astore (lv' := [(6, .ref q), (0, .ref (ad 0)), (1, .int a1), (2, .int a2), (3, .int a3), (4, .int a4), (5, .ref (ad 85))]) hx hb (dk kL_lift_ok 17 rfl) hl (by decide) rfl (fun ls hl => ?_)
      refine lv_iconst (v := nI 3) hx hb (dk kL_lift_ok 18 rfl) rfl ?_
      exact hret _ _ _ _ _ _ hP hS (by decide) (by decide) (dk kL_lift_ok 19 rfl)
set_option maxRecDepth 100000 in
set_option maxHeartbeats 4000000 in
theorem tL_set (l : Launch) (D : va_G) (cI cQ cL : ClassId) (ad : Nat → Nat) (N : Nat) (F : Nat → va_E) (hN : 85 < N) (fs : List Value) (hF0 : F 0 = .inr (5, fs)) (a1 : Int32) (G : Nat → va_E) (o : Nat → Int64) (hG : G 85 = .inl (cL, 1, .inr (.inl o))) (r : Int32) {rm : Room} (hM : MX l yX5_set (Cond.code yX5_set cX5_set 3 (some .int) :: AW) rm D cI cQ cL ad N F [.ref (ad 0), .int a1] (dp (some (.int r)) G) 0 0) (hrc : rm.cells = 0) (hrs : rm.slots = 0) (hfr : rm.frames + 1 ≤ 12) (hlo : 8 + (3 + 11) + rm.locals ≤ 450) : ML l yL_set (Cond.codeWith yL_set cL_set 4 (some .int) [(0, 9, 12, 15)] :: LW) ({ frames := 12, cells := 1, slots := 6, locals := 450 } : Room) D cI cQ cL ad N F [.ref (ad 0), .int a1, .ref (ad 85)] (nI 0) (va_up G 85 (.inl (cL, 1, .inr (.inl (vp_updL o 0 r.toInt64))))) 1 6 := by
  refine ml_of (by decide +kernel) (Nat.le_of_ble_eq_true rfl) (fun p e s m below meth cd Q ls hx hb hml hown hts htab hDi hP hK hNW hS hX hXN hret hl => ?_)
  have hown : s.vm.findClass RL = some m.cls := hown
  have hl : lv_has ls 4 [(0, .ref (ad 0)), (1, .int a1), (2, .ref (ad 85))] := hl
  refine lv_aload_n hx hb (dk kL_set_ok 0 rfl) rfl (lv_at hl 2 rfl) ?_
  refine lv_iconst (v := nI 0) hx hb (dk kL_set_ok 1 rfl) rfl ?_
  refine lv_aload_n hx hb (dk kL_set_ok 2 rfl) rfl (lv_at hl 0 rfl) ?_
  refine lv_iload_n hx hb (dk kL_set_ok 3 rfl) rfl (lv_at hl 1 rfl) ?_
  refine cvD G (As := [.int a1]) (rest := [.int (nI 0), .ref (ad 85)]) ⟨hx, hb, hml, hown, hts⟩ hM (cwVL 1 hts mcX5_set (lc0 _ (List.mem_of_getElem? (i := 5) rfl)) miX5_set meX5_set mini_RX5 hrc hrs hdX5_set ⟨hfr, hlo⟩) hDi hK hP hNW hS (k := 0) (by omega) hF0 rfl rfl hl.1 rfl (Nat.le_of_ble_eq_true rfl) ⟨Nat.le_of_ble_eq_true rfl, Nat.le_of_ble_eq_true rfl⟩ (dk kL_set_ok 4 rfl) rfl (fun H locs hP hS => ?_)
  refine lv_i2l (v := r.toInt64) hx hb (dk kL_set_ok 5 rfl) rfl ?_
  refine lst _ (k := 85) hx hb hK hDi hP hS hN hG (dk kL_set_ok 6 rfl) rfl (fun H locs hP hS => ?_)
  refine lv_goto (tgt := 15) hx hb (dk kL_set_ok 7 rfl) (by decide) ?_
  refine lv_iconst (v := nI 0) hx hb (dk kL_set_ok 11 rfl) rfl ?_
  exact hret _ _ _ _ _ _ hP hS (by decide) (by decide) (dk kL_set_ok 12 rfl)
set_option maxRecDepth 100000 in
set_option maxHeartbeats 4000000 in
theorem tL_set_x (l : Launch) (D : va_G) (cI cQ cL : ClassId) (ad : Nat → Nat) (N : Nat) (F : Nat → va_E) (hN : 85 < N) (fs : List Value) (hF0 : F 0 = .inr (5, fs)) (a1 : Int32) (E : String) (kk : Nat) (hE : (E = eA ∧ kk = 1)) {rm : Room} (hM : MT l yX5_set (Cond.code yX5_set cX5_set 3 (some .int) :: AW) rm D cI cQ cL ad N F [.ref (ad 0), .int a1] E 1 6) (hrc : rm.cells = 1) (hrs : rm.slots = 6) (hfr : rm.frames + 1 ≤ 12) (hlo : 8 + (3 + 11) + rm.locals ≤ 450) : ML l yL_set (Cond.codeWith yL_set cL_set 4 (some .int) [(0, 9, 12, 15)] :: LW) ({ frames := 12, cells := 1, slots := 6, locals := 450 } : Room) D cI cQ cL ad N F [.ref (ad 0), .int a1, .ref (ad 85)] (nI kk) F 1 6 := by
  refine ml_of (by decide +kernel) (Nat.le_of_ble_eq_true rfl) (fun p e s m below meth cd Q ls hx hb hml hown hts htab hDi hP hK hNW hS hX hXN hret hl => ?_)
  have hown : s.vm.findClass RL = some m.cls := hown
  have hl : lv_has ls 4 [(0, .ref (ad 0)), (1, .int a1), (2, .ref (ad 85))] := hl
  refine lv_aload_n hx hb (dk kL_set_ok 0 rfl) rfl (lv_at hl 2 rfl) ?_
  refine lv_iconst (v := nI 0) hx hb (dk kL_set_ok 1 rfl) rfl ?_
  refine lv_aload_n hx hb (dk kL_set_ok 2 rfl) rfl (lv_at hl 0 rfl) ?_
  refine lv_iload_n hx hb (dk kL_set_ok 3 rfl) rfl (lv_at hl 1 rfl) ?_
  refine cvT (As := [.int a1]) (rest := [.int (nI 0), .ref (ad 85)]) ⟨hx, hb, hml, hown, hts⟩ hM (cwVL 1 hts mcX5_set (lc0 _ (List.mem_of_getElem? (i := 5) rfl)) miX5_set meX5_set mini_RX5 hrc hrs hdX5_set ⟨hfr, hlo⟩) hDi hK hP hNW hS hX (k := 0) (by omega) hF0 rfl rfl hl.1 rfl (Nat.le_of_ble_eq_true rfl) ⟨Nat.le_of_ble_eq_true rfl, Nat.le_of_ble_eq_true rfl⟩ (dk kL_set_ok 4 rfl) (fun H locs q ce hP hS hq hcv hcl => ?_)
  rcases hE with ⟨rfl, rfl⟩
  · refine vx_catch (name := "java/lang/IllegalArgumentException") hown [] ⟨0, 9, 12, 15⟩ [] (by rw [htab]; rfl) ?_ (by decide) (by decide) (hts _ (lc0 _ (List.mem_of_getElem? (i := 1) rfl))) (XWc hX (List.mem_of_getElem? (i := 1) rfl)) hq hcv hcl ?_
    · exact fun z hz => nomatch hz
    · refine lv_astore_n (lv' := [(3, .ref q), (0, .ref (ad 0)), (1, .int a1), (2, .ref (ad 85))]) hx hb (dk kL_set_ok 8 rfl) rfl hl (by decide) rfl (fun ls hl => ?_)
      refine lv_iconst (v := nI 1) hx hb (dk kL_set_ok 9 rfl) rfl ?_
      exact hret _ _ _ _ _ _ hP hS (by decide) (by decide) (dk kL_set_ok 10 rfl)
set_option maxRecDepth 100000 in
set_option maxHeartbeats 4000000 in
theorem tL_put (l : Launch) (D : va_G) (cI cQ cL : ClassId) (ad : Nat → Nat) (N : Nat) (F : Nat → va_E) (hN : 85 < N) (fs : List Value) (hF0 : F 0 = .inr (5, fs)) (a1 a2 a3 : Int32) (G : Nat → va_E) (o : Nat → Int64) (hG : G 85 = .inl (cL, 1, .inr (.inl o))) (r : Int32) {rm : Room} (hM : MX l yX5_put (Cond.code yX5_put cX5_put 5 (some .int) :: AW) rm D cI cQ cL ad N F [.ref (ad 0), .int a1, .int a2, .int a3] (dp (some (.int r)) G) 0 0) (hrc : rm.cells = 0) (hrs : rm.slots = 0) (hfr : rm.frames + 1 ≤ 12) (hlo : 8 + (5 + 11) + rm.locals ≤ 450) : ML l yL_put (Cond.codeWith yL_put cL_put 6 (some .int) [(0, 12, 15, 13), (0, 12, 19, 17)] :: LW) ({ frames := 12, cells := 1, slots := 6, locals := 450 } : Room) D cI cQ cL ad N F [.ref (ad 0), .int a1, .int a2, .int a3, .ref (ad 85)] (nI 0) (va_up G 85 (.inl (cL, 1, .inr (.inl (vp_updL o 0 r.toInt64))))) 1 6 := by
  refine ml_of (by decide +kernel) (Nat.le_of_ble_eq_true rfl) (fun p e s m below meth cd Q ls hx hb hml hown hts htab hDi hP hK hNW hS hX hXN hret hl => ?_)
  have hown : s.vm.findClass RL = some m.cls := hown
  have hl : lv_has ls 6 [(0, .ref (ad 0)), (1, .int a1), (2, .int a2), (3, .int a3), (4, .ref (ad 85))] := hl
  refine lv_aload hx hb (dk kL_put_ok 0 rfl) (lv_at hl 4 rfl) ?_
  refine lv_iconst (v := nI 0) hx hb (dk kL_put_ok 1 rfl) rfl ?_
  refine lv_aload_n hx hb (dk kL_put_ok 2 rfl) rfl (lv_at hl 0 rfl) ?_
  refine lv_iload_n hx hb (dk kL_put_ok 3 rfl) rfl (lv_at hl 1 rfl) ?_
  refine lv_iload_n hx hb (dk kL_put_ok 4 rfl) rfl (lv_at hl 2 rfl) ?_
  refine lv_iload_n hx hb (dk kL_put_ok 5 rfl) rfl (lv_at hl 3 rfl) ?_
  refine cvD G (As := [.int a1, .int a2, .int a3]) (rest := [.int (nI 0), .ref (ad 85)]) ⟨hx, hb, hml, hown, hts⟩ hM (cwVL 3 hts mcX5_put (lc0 _ (List.mem_of_getElem? (i := 6) rfl)) miX5_put meX5_put mini_RX5 hrc hrs hdX5_put ⟨hfr, hlo⟩) hDi hK hP hNW hS (k := 0) (by omega) hF0 rfl rfl hl.1 rfl (Nat.le_of_ble_eq_true rfl) ⟨Nat.le_of_ble_eq_true rfl, Nat.le_of_ble_eq_true rfl⟩ (dk kL_put_ok 6 rfl) rfl (fun H locs hP hS => ?_)
  refine lv_i2l (v := r.toInt64) hx hb (dk kL_put_ok 7 rfl) rfl ?_
  refine lst _ (k := 85) hx hb hK hDi hP hS hN hG (dk kL_put_ok 8 rfl) rfl (fun H locs hP hS => ?_)
  refine lv_goto (tgt := 23) hx hb (dk kL_put_ok 9 rfl) (by decide) ?_
  refine lv_iconst (v := nI 0) hx hb (dk kL_put_ok 16 rfl) rfl ?_
  exact hret _ _ _ _ _ _ hP hS (by decide) (by decide) (dk kL_put_ok 17 rfl)
set_option maxRecDepth 100000 in
set_option maxHeartbeats 4000000 in
theorem tL_put_x (l : Launch) (D : va_G) (cI cQ cL : ClassId) (ad : Nat → Nat) (N : Nat) (F : Nat → va_E) (hN : 85 < N) (fs : List Value) (hF0 : F 0 = .inr (5, fs)) (a1 a2 a3 : Int32) (E : String) (kk : Nat) (hE : (E = eI ∧ kk = 1) ∨ (E = eS ∧ kk = 2)) {rm : Room} (hM : MT l yX5_put (Cond.code yX5_put cX5_put 5 (some .int) :: AW) rm D cI cQ cL ad N F [.ref (ad 0), .int a1, .int a2, .int a3] E 1 6) (hrc : rm.cells = 1) (hrs : rm.slots = 6) (hfr : rm.frames + 1 ≤ 12) (hlo : 8 + (5 + 11) + rm.locals ≤ 450) : ML l yL_put (Cond.codeWith yL_put cL_put 6 (some .int) [(0, 12, 15, 13), (0, 12, 19, 17)] :: LW) ({ frames := 12, cells := 1, slots := 6, locals := 450 } : Room) D cI cQ cL ad N F [.ref (ad 0), .int a1, .int a2, .int a3, .ref (ad 85)] (nI kk) F 1 6 := by
  refine ml_of (by decide +kernel) (Nat.le_of_ble_eq_true rfl) (fun p e s m below meth cd Q ls hx hb hml hown hts htab hDi hP hK hNW hS hX hXN hret hl => ?_)
  have hown : s.vm.findClass RL = some m.cls := hown
  have hl : lv_has ls 6 [(0, .ref (ad 0)), (1, .int a1), (2, .int a2), (3, .int a3), (4, .ref (ad 85))] := hl
  refine lv_aload hx hb (dk kL_put_ok 0 rfl) (lv_at hl 4 rfl) ?_
  refine lv_iconst (v := nI 0) hx hb (dk kL_put_ok 1 rfl) rfl ?_
  refine lv_aload_n hx hb (dk kL_put_ok 2 rfl) rfl (lv_at hl 0 rfl) ?_
  refine lv_iload_n hx hb (dk kL_put_ok 3 rfl) rfl (lv_at hl 1 rfl) ?_
  refine lv_iload_n hx hb (dk kL_put_ok 4 rfl) rfl (lv_at hl 2 rfl) ?_
  refine lv_iload_n hx hb (dk kL_put_ok 5 rfl) rfl (lv_at hl 3 rfl) ?_
  refine cvT (As := [.int a1, .int a2, .int a3]) (rest := [.int (nI 0), .ref (ad 85)]) ⟨hx, hb, hml, hown, hts⟩ hM (cwVL 3 hts mcX5_put (lc0 _ (List.mem_of_getElem? (i := 6) rfl)) miX5_put meX5_put mini_RX5 hrc hrs hdX5_put ⟨hfr, hlo⟩) hDi hK hP hNW hS hX (k := 0) (by omega) hF0 rfl rfl hl.1 rfl (Nat.le_of_ble_eq_true rfl) ⟨Nat.le_of_ble_eq_true rfl, Nat.le_of_ble_eq_true rfl⟩ (dk kL_put_ok 6 rfl) (fun H locs q ce hP hS hq hcv hcl => ?_)
  rcases hE with ⟨rfl, rfl⟩ | ⟨rfl, rfl⟩
  · refine vx_catch (name := "java/lang/IndexOutOfBoundsException") hown [] ⟨0, 12, 15, 13⟩ [⟨0, 12, 19, 17⟩] (by rw [htab]; rfl) ?_ (by decide) (by decide) (hts _ (lc0 _ (List.mem_of_getElem? (i := 0) rfl))) (XWc hX (List.mem_of_getElem? (i := 2) rfl)) hq hcv hcl ?_
    · exact fun z hz => nomatch hz
    · refine lv_astore (lv' := [(5, .ref q), (0, .ref (ad 0)), (1, .int a1), (2, .int a2), (3, .int a3), (4, .ref (ad 85))]) hx hb (dk kL_put_ok 10 rfl) hl (by decide) rfl (fun ls hl => ?_)
      refine lv_iconst (v := nI 1) hx hb (dk kL_put_ok 11 rfl) rfl ?_
      exact hret _ _ _ _ _ _ hP hS (by decide) (by decide) (dk kL_put_ok 12 rfl)
  · refine vx_catch (name := "java/lang/IllegalStateException") hown [⟨0, 12, 15, 13⟩] ⟨0, 12, 19, 17⟩ [] (by rw [htab]; rfl) ?_ (by decide) (by decide) (hts _ (lc0 _ (List.mem_of_getElem? (i := 2) rfl))) (XWc hX (List.mem_of_getElem? (i := 0) rfl)) hq hcv hcl ?_
    · intro z hz
      rcases List.mem_singleton.mp hz with rfl
      · exact Or.inr ⟨by decide, "java/lang/IndexOutOfBoundsException", hts _ (lc0 _ (List.mem_of_getElem? (i := 0) rfl)), XNn hXN (List.mem_of_getElem? (i := 2) rfl)⟩
    · refine lv_astore (lv' := [(5, .ref q), (0, .ref (ad 0)), (1, .int a1), (2, .int a2), (3, .int a3), (4, .ref (ad 85))]) hx hb (dk kL_put_ok 13 rfl) hl (by decide) rfl (fun ls hl => ?_)
      refine lv_iconst (v := nI 2) hx hb (dk kL_put_ok 14 rfl) rfl ?_
      exact hret _ _ _ _ _ _ hP hS (by decide) (by decide) (dk kL_put_ok 15 rfl)
set_option maxRecDepth 100000 in
set_option maxHeartbeats 4000000 in
theorem tL_append (l : Launch) (D : va_G) (cI cQ cL : ClassId) (ad : Nat → Nat) (N : Nat) (F : Nat → va_E) (hN : 85 < N) (fs : List Value) (hF0 : F 0 = .inr (5, fs)) (a1 : Int32) (G : Nat → va_E) (o : Nat → Int64) (hG : G 85 = .inl (cL, 1, .inr (.inl o))) (r : Int32) {rm : Room} (hM : MX l yX5_append (Cond.code yX5_append cX5_append 2 (some .int) :: AW) rm D cI cQ cL ad N F [.ref (ad 0), .int a1] (dp (some (.int r)) G) 0 0) (hrc : rm.cells = 0) (hrs : rm.slots = 0) (hfr : rm.frames + 1 ≤ 12) (hlo : 8 + (2 + 11) + rm.locals ≤ 450) : ML l yL_append (Cond.codeWith yL_append cL_append 4 (some .int) [(0, 9, 12, 15), (0, 9, 15, 17)] :: LW) ({ frames := 12, cells := 1, slots := 6, locals := 450 } : Room) D cI cQ cL ad N F [.ref (ad 0), .int a1, .ref (ad 85)] (nI 0) (va_up G 85 (.inl (cL, 1, .inr (.inl (vp_updL o 0 r.toInt64))))) 1 6 := by
  refine ml_of (by decide +kernel) (Nat.le_of_ble_eq_true rfl) (fun p e s m below meth cd Q ls hx hb hml hown hts htab hDi hP hK hNW hS hX hXN hret hl => ?_)
  have hown : s.vm.findClass RL = some m.cls := hown
  have hl : lv_has ls 4 [(0, .ref (ad 0)), (1, .int a1), (2, .ref (ad 85))] := hl
  refine lv_aload_n hx hb (dk kL_append_ok 0 rfl) rfl (lv_at hl 2 rfl) ?_
  refine lv_iconst (v := nI 0) hx hb (dk kL_append_ok 1 rfl) rfl ?_
  refine lv_aload_n hx hb (dk kL_append_ok 2 rfl) rfl (lv_at hl 0 rfl) ?_
  refine lv_iload_n hx hb (dk kL_append_ok 3 rfl) rfl (lv_at hl 1 rfl) ?_
  refine cvD G (As := [.int a1]) (rest := [.int (nI 0), .ref (ad 85)]) ⟨hx, hb, hml, hown, hts⟩ hM (cwVL 1 hts mcX5_append (lc0 _ (List.mem_of_getElem? (i := 7) rfl)) miX5_append meX5_append mini_RX5 hrc hrs hdX5_append ⟨hfr, hlo⟩) hDi hK hP hNW hS (k := 0) (by omega) hF0 rfl rfl hl.1 rfl (Nat.le_of_ble_eq_true rfl) ⟨Nat.le_of_ble_eq_true rfl, Nat.le_of_ble_eq_true rfl⟩ (dk kL_append_ok 4 rfl) rfl (fun H locs hP hS => ?_)
  refine lv_i2l (v := r.toInt64) hx hb (dk kL_append_ok 5 rfl) rfl ?_
  refine lst _ (k := 85) hx hb hK hDi hP hS hN hG (dk kL_append_ok 6 rfl) rfl (fun H locs hP hS => ?_)
  refine lv_goto (tgt := 18) hx hb (dk kL_append_ok 7 rfl) (by decide) ?_
  refine lv_iconst (v := nI 0) hx hb (dk kL_append_ok 14 rfl) rfl ?_
  exact hret _ _ _ _ _ _ hP hS (by decide) (by decide) (dk kL_append_ok 15 rfl)
set_option maxRecDepth 100000 in
set_option maxHeartbeats 4000000 in
theorem tL_append_x (l : Launch) (D : va_G) (cI cQ cL : ClassId) (ad : Nat → Nat) (N : Nat) (F : Nat → va_E) (hN : 85 < N) (fs : List Value) (hF0 : F 0 = .inr (5, fs)) (a1 : Int32) (E : String) (kk : Nat) (hE : (E = eA ∧ kk = 1) ∨ (E = eS ∧ kk = 2)) {rm : Room} (hM : MT l yX5_append (Cond.code yX5_append cX5_append 2 (some .int) :: AW) rm D cI cQ cL ad N F [.ref (ad 0), .int a1] E 1 6) (hrc : rm.cells = 1) (hrs : rm.slots = 6) (hfr : rm.frames + 1 ≤ 12) (hlo : 8 + (2 + 11) + rm.locals ≤ 450) : ML l yL_append (Cond.codeWith yL_append cL_append 4 (some .int) [(0, 9, 12, 15), (0, 9, 15, 17)] :: LW) ({ frames := 12, cells := 1, slots := 6, locals := 450 } : Room) D cI cQ cL ad N F [.ref (ad 0), .int a1, .ref (ad 85)] (nI kk) F 1 6 := by
  refine ml_of (by decide +kernel) (Nat.le_of_ble_eq_true rfl) (fun p e s m below meth cd Q ls hx hb hml hown hts htab hDi hP hK hNW hS hX hXN hret hl => ?_)
  have hown : s.vm.findClass RL = some m.cls := hown
  have hl : lv_has ls 4 [(0, .ref (ad 0)), (1, .int a1), (2, .ref (ad 85))] := hl
  refine lv_aload_n hx hb (dk kL_append_ok 0 rfl) rfl (lv_at hl 2 rfl) ?_
  refine lv_iconst (v := nI 0) hx hb (dk kL_append_ok 1 rfl) rfl ?_
  refine lv_aload_n hx hb (dk kL_append_ok 2 rfl) rfl (lv_at hl 0 rfl) ?_
  refine lv_iload_n hx hb (dk kL_append_ok 3 rfl) rfl (lv_at hl 1 rfl) ?_
  refine cvT (As := [.int a1]) (rest := [.int (nI 0), .ref (ad 85)]) ⟨hx, hb, hml, hown, hts⟩ hM (cwVL 1 hts mcX5_append (lc0 _ (List.mem_of_getElem? (i := 7) rfl)) miX5_append meX5_append mini_RX5 hrc hrs hdX5_append ⟨hfr, hlo⟩) hDi hK hP hNW hS hX (k := 0) (by omega) hF0 rfl rfl hl.1 rfl (Nat.le_of_ble_eq_true rfl) ⟨Nat.le_of_ble_eq_true rfl, Nat.le_of_ble_eq_true rfl⟩ (dk kL_append_ok 4 rfl) (fun H locs q ce hP hS hq hcv hcl => ?_)
  rcases hE with ⟨rfl, rfl⟩ | ⟨rfl, rfl⟩
  · refine vx_catch (name := "java/lang/IllegalArgumentException") hown [] ⟨0, 9, 12, 15⟩ [⟨0, 9, 15, 17⟩] (by rw [htab]; rfl) ?_ (by decide) (by decide) (hts _ (lc0 _ (List.mem_of_getElem? (i := 1) rfl))) (XWc hX (List.mem_of_getElem? (i := 1) rfl)) hq hcv hcl ?_
    · exact fun z hz => nomatch hz
    · refine lv_astore_n (lv' := [(3, .ref q), (0, .ref (ad 0)), (1, .int a1), (2, .ref (ad 85))]) hx hb (dk kL_append_ok 8 rfl) rfl hl (by decide) rfl (fun ls hl => ?_)
      refine lv_iconst (v := nI 1) hx hb (dk kL_append_ok 9 rfl) rfl ?_
      exact hret _ _ _ _ _ _ hP hS (by decide) (by decide) (dk kL_append_ok 10 rfl)
  · refine vx_catch (name := "java/lang/IllegalStateException") hown [⟨0, 9, 12, 15⟩] ⟨0, 9, 15, 17⟩ [] (by rw [htab]; rfl) ?_ (by decide) (by decide) (hts _ (lc0 _ (List.mem_of_getElem? (i := 2) rfl))) (XWc hX (List.mem_of_getElem? (i := 0) rfl)) hq hcv hcl ?_
    · intro z hz
      rcases List.mem_singleton.mp hz with rfl
      · exact Or.inr ⟨by decide, "java/lang/IllegalArgumentException", hts _ (lc0 _ (List.mem_of_getElem? (i := 1) rfl)), XNn hXN (List.mem_of_getElem? (i := 3) rfl)⟩
    · refine lv_astore_n (lv' := [(3, .ref q), (0, .ref (ad 0)), (1, .int a1), (2, .ref (ad 85))]) hx hb (dk kL_append_ok 11 rfl) rfl hl (by decide) rfl (fun ls hl => ?_)
      refine lv_iconst (v := nI 2) hx hb (dk kL_append_ok 12 rfl) rfl ?_
      exact hret _ _ _ _ _ _ hP hS (by decide) (by decide) (dk kL_append_ok 13 rfl)
set_option maxRecDepth 100000 in
set_option maxHeartbeats 4000000 in
theorem tL_play (l : Launch) (D : va_G) (cI cQ cL : ClassId) (ad : Nat → Nat) (N : Nat) (F : Nat → va_E) (hN : 85 < N) (fs : List Value) (hF0 : F 0 = .inr (5, fs)) (r : Int32) (PG : (Nat → va_E) → Prop) (hPG : ∀ G, PG G → ∃ o, G 85 = .inl (cL, 1, .inr (.inl o))) {rm : Room} (hM : MX l yX5_play (Cond.code yX5_play cX5_play 2 (some .int) :: AW) rm D cI cQ cL ad N F [.ref (ad 0)] (fun v9 G9 => v9 = some (.int r) ∧ PG G9) 0 0) (hrc : rm.cells = 0) (hrs : rm.slots = 0) (hfr : rm.frames + 1 ≤ 12) (hlo : 8 + (2 + 11) + rm.locals ≤ 450) : MLE l yL_play (Cond.codeWith yL_play cL_play 3 (some .int) [(0, 8, 11, 15)] :: LW) ({ frames := 12, cells := 1, slots := 6, locals := 450 } : Room) D cI cQ cL ad N F [.ref (ad 0), .ref (ad 85)] (nI 0) (fun G9 => ∃ (G : Nat → va_E) (o : Nat → Int64), PG G ∧ G 85 = .inl (cL, 1, .inr (.inl o)) ∧ G9 = va_up G 85 (.inl (cL, 1, .inr (.inl (vp_updL o 0 r.toInt64))))) 1 6 := by
  refine mlE_of (by decide +kernel) (Nat.le_of_ble_eq_true rfl) (fun p e s m below meth cd Q ls hx hb hml hown hts htab hDi hP hK hNW hS hX hXN hret hl => ?_)
  have hown : s.vm.findClass RL = some m.cls := hown
  have hl : lv_has ls 3 [(0, .ref (ad 0)), (1, .ref (ad 85))] := hl
  refine lv_aload_n hx hb (dk kL_play_ok 0 rfl) rfl (lv_at hl 1 rfl) ?_
  refine lv_iconst (v := nI 0) hx hb (dk kL_play_ok 1 rfl) rfl ?_
  refine lv_aload_n hx hb (dk kL_play_ok 2 rfl) rfl (lv_at hl 0 rfl) ?_
  refine cvE (P9 := PG) (As := []) (rest := [.int (nI 0), .ref (ad 85)]) ⟨hx, hb, hml, hown, hts⟩ hM (cwVL 0 hts mcX5_play (lc0 _ (List.mem_of_getElem? (i := 8) rfl)) miX5_play meX5_play mini_RX5 hrc hrs hdX5_play ⟨hfr, hlo⟩) hDi hK hP hNW hS (k := 0) (by omega) hF0 rfl rfl hl.1 rfl (Nat.le_of_ble_eq_true rfl) ⟨Nat.le_of_ble_eq_true rfl, Nat.le_of_ble_eq_true rfl⟩ (dk kL_play_ok 3 rfl) (fun G H locs hG9 hP hS => ?_)
  obtain ⟨o, hG⟩ := hPG G hG9
  refine lv_i2l (v := r.toInt64) hx hb (dk kL_play_ok 4 rfl) rfl ?_
  refine lst _ (k := 85) hx hb hK hDi hP hS hN hG (dk kL_play_ok 5 rfl) rfl (fun H locs hP hS => ?_)
  refine lv_goto (tgt := 14) hx hb (dk kL_play_ok 6 rfl) (by decide) ?_
  refine lv_iconst (v := nI 0) hx hb (dk kL_play_ok 10 rfl) rfl ?_
  exact hret _ _ _ _ _ _ _ ⟨G, o, hG9, hG, rfl⟩ hP hS (by decide) (by decide) (dk kL_play_ok 11 rfl)
set_option maxRecDepth 100000 in
set_option maxHeartbeats 4000000 in
theorem tL_play_x (l : Launch) (D : va_G) (cI cQ cL : ClassId) (ad : Nat → Nat) (N : Nat) (F : Nat → va_E) (hN : 85 < N) (fs : List Value) (hF0 : F 0 = .inr (5, fs)) (E : String) (kk : Nat) (hE : (E = eA ∧ kk = 1)) {rm : Room} (hM : MT l yX5_play (Cond.code yX5_play cX5_play 2 (some .int) :: AW) rm D cI cQ cL ad N F [.ref (ad 0)] E 1 6) (hrc : rm.cells = 1) (hrs : rm.slots = 6) (hfr : rm.frames + 1 ≤ 12) (hlo : 8 + (2 + 11) + rm.locals ≤ 450) : ML l yL_play (Cond.codeWith yL_play cL_play 3 (some .int) [(0, 8, 11, 15)] :: LW) ({ frames := 12, cells := 1, slots := 6, locals := 450 } : Room) D cI cQ cL ad N F [.ref (ad 0), .ref (ad 85)] (nI kk) F 1 6 := by
  refine ml_of (by decide +kernel) (Nat.le_of_ble_eq_true rfl) (fun p e s m below meth cd Q ls hx hb hml hown hts htab hDi hP hK hNW hS hX hXN hret hl => ?_)
  have hown : s.vm.findClass RL = some m.cls := hown
  have hl : lv_has ls 3 [(0, .ref (ad 0)), (1, .ref (ad 85))] := hl
  refine lv_aload_n hx hb (dk kL_play_ok 0 rfl) rfl (lv_at hl 1 rfl) ?_
  refine lv_iconst (v := nI 0) hx hb (dk kL_play_ok 1 rfl) rfl ?_
  refine lv_aload_n hx hb (dk kL_play_ok 2 rfl) rfl (lv_at hl 0 rfl) ?_
  refine cvT (As := []) (rest := [.int (nI 0), .ref (ad 85)]) ⟨hx, hb, hml, hown, hts⟩ hM (cwVL 0 hts mcX5_play (lc0 _ (List.mem_of_getElem? (i := 8) rfl)) miX5_play meX5_play mini_RX5 hrc hrs hdX5_play ⟨hfr, hlo⟩) hDi hK hP hNW hS hX (k := 0) (by omega) hF0 rfl rfl hl.1 rfl (Nat.le_of_ble_eq_true rfl) ⟨Nat.le_of_ble_eq_true rfl, Nat.le_of_ble_eq_true rfl⟩ (dk kL_play_ok 3 rfl) (fun H locs q ce hP hS hq hcv hcl => ?_)
  rcases hE with ⟨rfl, rfl⟩
  · refine vx_catch (name := "java/lang/IllegalArgumentException") hown [] ⟨0, 8, 11, 15⟩ [] (by rw [htab]; rfl) ?_ (by decide) (by decide) (hts _ (lc0 _ (List.mem_of_getElem? (i := 1) rfl))) (XWc hX (List.mem_of_getElem? (i := 1) rfl)) hq hcv hcl ?_
    · exact fun z hz => nomatch hz
    · refine lv_astore_n (lv' := [(2, .ref q), (0, .ref (ad 0)), (1, .ref (ad 85))]) hx hb (dk kL_play_ok 7 rfl) rfl hl (by decide) rfl (fun ls hl => ?_)
      refine lv_iconst (v := nI 1) hx hb (dk kL_play_ok 8 rfl) rfl ?_
      exact hret _ _ _ _ _ _ hP hS (by decide) (by decide) (dk kL_play_ok 9 rfl)
set_option maxRecDepth 100000 in
set_option maxHeartbeats 4000000 in
theorem tL_goBack (l : Launch) (D : va_G) (cI cQ cL : ClassId) (ad : Nat → Nat) (N : Nat) (F : Nat → va_E) (hN : 85 < N) (fs : List Value) (hF0 : F 0 = .inr (5, fs)) (G : Nat → va_E) (o : Nat → Int64) (hG : G 85 = .inl (cL, 1, .inr (.inl o))) (r : Int32) {rm : Room} (hM : MX l yX5_goBack (Cond.code yX5_goBack cX5_goBack 1 (some .int) :: AW) rm D cI cQ cL ad N F [.ref (ad 0)] (dp (some (.int r)) G) 0 0) (hrc : rm.cells = 0) (hrs : rm.slots = 0) (hfr : rm.frames + 1 ≤ 12) (hlo : 8 + (1 + 11) + rm.locals ≤ 450) : ML l yL_goBack (Cond.codeWith yL_goBack cL_goBack 3 (some .int) [(0, 8, 11, 17)] :: LW) ({ frames := 12, cells := 1, slots := 6, locals := 450 } : Room) D cI cQ cL ad N F [.ref (ad 0), .ref (ad 85)] (nI 0) (va_up G 85 (.inl (cL, 1, .inr (.inl (vp_updL o 0 r.toInt64))))) 1 6 := by
  refine ml_of (by decide +kernel) (Nat.le_of_ble_eq_true rfl) (fun p e s m below meth cd Q ls hx hb hml hown hts htab hDi hP hK hNW hS hX hXN hret hl => ?_)
  have hown : s.vm.findClass RL = some m.cls := hown
  have hl : lv_has ls 3 [(0, .ref (ad 0)), (1, .ref (ad 85))] := hl
  refine lv_aload_n hx hb (dk kL_goBack_ok 0 rfl) rfl (lv_at hl 1 rfl) ?_
  refine lv_iconst (v := nI 0) hx hb (dk kL_goBack_ok 1 rfl) rfl ?_
  refine lv_aload_n hx hb (dk kL_goBack_ok 2 rfl) rfl (lv_at hl 0 rfl) ?_
  refine cvD G (As := []) (rest := [.int (nI 0), .ref (ad 85)]) ⟨hx, hb, hml, hown, hts⟩ hM (cwVL 0 hts mcX5_goBack (lc0 _ (List.mem_of_getElem? (i := 9) rfl)) miX5_goBack meX5_goBack mini_RX5 hrc hrs hdX5_goBack ⟨hfr, hlo⟩) hDi hK hP hNW hS (k := 0) (by omega) hF0 rfl rfl hl.1 rfl (Nat.le_of_ble_eq_true rfl) ⟨Nat.le_of_ble_eq_true rfl, Nat.le_of_ble_eq_true rfl⟩ (dk kL_goBack_ok 3 rfl) rfl (fun H locs hP hS => ?_)
  refine lv_i2l (v := r.toInt64) hx hb (dk kL_goBack_ok 4 rfl) rfl ?_
  refine lst _ (k := 85) hx hb hK hDi hP hS hN hG (dk kL_goBack_ok 5 rfl) rfl (fun H locs hP hS => ?_)
  refine lv_goto (tgt := 14) hx hb (dk kL_goBack_ok 6 rfl) (by decide) ?_
  refine lv_iconst (v := nI 0) hx hb (dk kL_goBack_ok 10 rfl) rfl ?_
  exact hret _ _ _ _ _ _ hP hS (by decide) (by decide) (dk kL_goBack_ok 11 rfl)
set_option maxRecDepth 100000 in
set_option maxHeartbeats 4000000 in
theorem tL_goBack_x (l : Launch) (D : va_G) (cI cQ cL : ClassId) (ad : Nat → Nat) (N : Nat) (F : Nat → va_E) (hN : 85 < N) (fs : List Value) (hF0 : F 0 = .inr (5, fs)) (E : String) (kk : Nat) (hE : (E = eS ∧ kk = 1)) {rm : Room} (hM : MT l yX5_goBack (Cond.code yX5_goBack cX5_goBack 1 (some .int) :: AW) rm D cI cQ cL ad N F [.ref (ad 0)] E 1 6) (hrc : rm.cells = 1) (hrs : rm.slots = 6) (hfr : rm.frames + 1 ≤ 12) (hlo : 8 + (1 + 11) + rm.locals ≤ 450) : ML l yL_goBack (Cond.codeWith yL_goBack cL_goBack 3 (some .int) [(0, 8, 11, 17)] :: LW) ({ frames := 12, cells := 1, slots := 6, locals := 450 } : Room) D cI cQ cL ad N F [.ref (ad 0), .ref (ad 85)] (nI kk) F 1 6 := by
  refine ml_of (by decide +kernel) (Nat.le_of_ble_eq_true rfl) (fun p e s m below meth cd Q ls hx hb hml hown hts htab hDi hP hK hNW hS hX hXN hret hl => ?_)
  have hown : s.vm.findClass RL = some m.cls := hown
  have hl : lv_has ls 3 [(0, .ref (ad 0)), (1, .ref (ad 85))] := hl
  refine lv_aload_n hx hb (dk kL_goBack_ok 0 rfl) rfl (lv_at hl 1 rfl) ?_
  refine lv_iconst (v := nI 0) hx hb (dk kL_goBack_ok 1 rfl) rfl ?_
  refine lv_aload_n hx hb (dk kL_goBack_ok 2 rfl) rfl (lv_at hl 0 rfl) ?_
  refine cvT (As := []) (rest := [.int (nI 0), .ref (ad 85)]) ⟨hx, hb, hml, hown, hts⟩ hM (cwVL 0 hts mcX5_goBack (lc0 _ (List.mem_of_getElem? (i := 9) rfl)) miX5_goBack meX5_goBack mini_RX5 hrc hrs hdX5_goBack ⟨hfr, hlo⟩) hDi hK hP hNW hS hX (k := 0) (by omega) hF0 rfl rfl hl.1 rfl (Nat.le_of_ble_eq_true rfl) ⟨Nat.le_of_ble_eq_true rfl, Nat.le_of_ble_eq_true rfl⟩ (dk kL_goBack_ok 3 rfl) (fun H locs q ce hP hS hq hcv hcl => ?_)
  rcases hE with ⟨rfl, rfl⟩
  · refine vx_catch (name := "java/lang/IllegalStateException") hown [] ⟨0, 8, 11, 17⟩ [] (by rw [htab]; rfl) ?_ (by decide) (by decide) (hts _ (lc0 _ (List.mem_of_getElem? (i := 2) rfl))) (XWc hX (List.mem_of_getElem? (i := 0) rfl)) hq hcv hcl ?_
    · exact fun z hz => nomatch hz
    · refine lv_astore_n (lv' := [(2, .ref q), (0, .ref (ad 0)), (1, .ref (ad 85))]) hx hb (dk kL_goBack_ok 7 rfl) rfl hl (by decide) rfl (fun ls hl => ?_)
      refine lv_iconst (v := nI 1) hx hb (dk kL_goBack_ok 8 rfl) rfl ?_
      exact hret _ _ _ _ _ _ hP hS (by decide) (by decide) (dk kL_goBack_ok 9 rfl)
set_option maxRecDepth 100000 in
set_option maxHeartbeats 4000000 in
theorem tL_undo (l : Launch) (D : va_G) (cI cQ cL : ClassId) (ad : Nat → Nat) (N : Nat) (F : Nat → va_E) (hN : 85 < N) (fs : List Value) (hF0 : F 0 = .inr (5, fs)) (G : Nat → va_E) (o : Nat → Int64) (hG : G 85 = .inl (cL, 1, .inr (.inl o))) (r : Int32) {rm : Room} (hM : MX l yX5_undo (Cond.code yX5_undo cX5_undo 1 (some .int) :: AW) rm D cI cQ cL ad N F [.ref (ad 0)] (dp (some (.int r)) G) 0 0) (hrc : rm.cells = 0) (hrs : rm.slots = 0) (hfr : rm.frames + 1 ≤ 12) (hlo : 8 + (1 + 11) + rm.locals ≤ 450) : ML l yL_undo (Cond.codeWith yL_undo cL_undo 3 (some .int) [(0, 8, 11, 17)] :: LW) ({ frames := 12, cells := 1, slots := 6, locals := 450 } : Room) D cI cQ cL ad N F [.ref (ad 0), .ref (ad 85)] (nI 0) (va_up G 85 (.inl (cL, 1, .inr (.inl (vp_updL o 0 r.toInt64))))) 1 6 := by
  refine ml_of (by decide +kernel) (Nat.le_of_ble_eq_true rfl) (fun p e s m below meth cd Q ls hx hb hml hown hts htab hDi hP hK hNW hS hX hXN hret hl => ?_)
  have hown : s.vm.findClass RL = some m.cls := hown
  have hl : lv_has ls 3 [(0, .ref (ad 0)), (1, .ref (ad 85))] := hl
  refine lv_aload_n hx hb (dk kL_undo_ok 0 rfl) rfl (lv_at hl 1 rfl) ?_
  refine lv_iconst (v := nI 0) hx hb (dk kL_undo_ok 1 rfl) rfl ?_
  refine lv_aload_n hx hb (dk kL_undo_ok 2 rfl) rfl (lv_at hl 0 rfl) ?_
  refine cvD G (As := []) (rest := [.int (nI 0), .ref (ad 85)]) ⟨hx, hb, hml, hown, hts⟩ hM (cwVL 0 hts mcX5_undo (lc0 _ (List.mem_of_getElem? (i := 10) rfl)) miX5_undo meX5_undo mini_RX5 hrc hrs hdX5_undo ⟨hfr, hlo⟩) hDi hK hP hNW hS (k := 0) (by omega) hF0 rfl rfl hl.1 rfl (Nat.le_of_ble_eq_true rfl) ⟨Nat.le_of_ble_eq_true rfl, Nat.le_of_ble_eq_true rfl⟩ (dk kL_undo_ok 3 rfl) rfl (fun H locs hP hS => ?_)
  refine lv_i2l (v := r.toInt64) hx hb (dk kL_undo_ok 4 rfl) rfl ?_
  refine lst _ (k := 85) hx hb hK hDi hP hS hN hG (dk kL_undo_ok 5 rfl) rfl (fun H locs hP hS => ?_)
  refine lv_goto (tgt := 14) hx hb (dk kL_undo_ok 6 rfl) (by decide) ?_
  refine lv_iconst (v := nI 0) hx hb (dk kL_undo_ok 10 rfl) rfl ?_
  exact hret _ _ _ _ _ _ hP hS (by decide) (by decide) (dk kL_undo_ok 11 rfl)
set_option maxRecDepth 100000 in
set_option maxHeartbeats 4000000 in
theorem tL_undo_x (l : Launch) (D : va_G) (cI cQ cL : ClassId) (ad : Nat → Nat) (N : Nat) (F : Nat → va_E) (hN : 85 < N) (fs : List Value) (hF0 : F 0 = .inr (5, fs)) (E : String) (kk : Nat) (hE : (E = eS ∧ kk = 1)) {rm : Room} (hM : MT l yX5_undo (Cond.code yX5_undo cX5_undo 1 (some .int) :: AW) rm D cI cQ cL ad N F [.ref (ad 0)] E 1 6) (hrc : rm.cells = 1) (hrs : rm.slots = 6) (hfr : rm.frames + 1 ≤ 12) (hlo : 8 + (1 + 11) + rm.locals ≤ 450) : ML l yL_undo (Cond.codeWith yL_undo cL_undo 3 (some .int) [(0, 8, 11, 17)] :: LW) ({ frames := 12, cells := 1, slots := 6, locals := 450 } : Room) D cI cQ cL ad N F [.ref (ad 0), .ref (ad 85)] (nI kk) F 1 6 := by
  refine ml_of (by decide +kernel) (Nat.le_of_ble_eq_true rfl) (fun p e s m below meth cd Q ls hx hb hml hown hts htab hDi hP hK hNW hS hX hXN hret hl => ?_)
  have hown : s.vm.findClass RL = some m.cls := hown
  have hl : lv_has ls 3 [(0, .ref (ad 0)), (1, .ref (ad 85))] := hl
  refine lv_aload_n hx hb (dk kL_undo_ok 0 rfl) rfl (lv_at hl 1 rfl) ?_
  refine lv_iconst (v := nI 0) hx hb (dk kL_undo_ok 1 rfl) rfl ?_
  refine lv_aload_n hx hb (dk kL_undo_ok 2 rfl) rfl (lv_at hl 0 rfl) ?_
  refine cvT (As := []) (rest := [.int (nI 0), .ref (ad 85)]) ⟨hx, hb, hml, hown, hts⟩ hM (cwVL 0 hts mcX5_undo (lc0 _ (List.mem_of_getElem? (i := 10) rfl)) miX5_undo meX5_undo mini_RX5 hrc hrs hdX5_undo ⟨hfr, hlo⟩) hDi hK hP hNW hS hX (k := 0) (by omega) hF0 rfl rfl hl.1 rfl (Nat.le_of_ble_eq_true rfl) ⟨Nat.le_of_ble_eq_true rfl, Nat.le_of_ble_eq_true rfl⟩ (dk kL_undo_ok 3 rfl) (fun H locs q ce hP hS hq hcv hcl => ?_)
  rcases hE with ⟨rfl, rfl⟩
  · refine vx_catch (name := "java/lang/IllegalStateException") hown [] ⟨0, 8, 11, 17⟩ [] (by rw [htab]; rfl) ?_ (by decide) (by decide) (hts _ (lc0 _ (List.mem_of_getElem? (i := 2) rfl))) (XWc hX (List.mem_of_getElem? (i := 0) rfl)) hq hcv hcl ?_
    · exact fun z hz => nomatch hz
    · refine lv_astore_n (lv' := [(2, .ref q), (0, .ref (ad 0)), (1, .ref (ad 85))]) hx hb (dk kL_undo_ok 7 rfl) rfl hl (by decide) rfl (fun ls hl => ?_)
      refine lv_iconst (v := nI 1) hx hb (dk kL_undo_ok 8 rfl) rfl ?_
      exact hret _ _ _ _ _ _ hP hS (by decide) (by decide) (dk kL_undo_ok 9 rfl)
set_option maxRecDepth 100000 in
set_option maxHeartbeats 4000000 in
theorem tL_wink (l : Launch) (D : va_G) (cI cQ cL : ClassId) (ad : Nat → Nat) (N : Nat) (F : Nat → va_E) (hN : 85 < N) (fs : List Value) (hF0 : F 0 = .inr (5, fs)) (a1 a2 : Int32) (G : Nat → va_E) (o : Nat → Int64) (hG : G 85 = .inl (cL, 1, .inr (.inl o))) (r : Int32) {rm : Room} (hM : MX l yX5_wink (Cond.code yX5_wink cX5_wink 3 (some .int) :: AW) rm D cI cQ cL ad N F [.ref (ad 0), .int a1, .int a2] (dp (some (.int r)) G) 0 0) (hrc : rm.cells = 0) (hrs : rm.slots = 0) (hfr : rm.frames + 1 ≤ 12) (hlo : 8 + (3 + 11) + rm.locals ≤ 450) : ML l yL_wink (Cond.codeWith yL_wink cL_wink 5 (some .int) [(0, 10, 13, 13), (0, 10, 17, 15)] :: LW) ({ frames := 12, cells := 1, slots := 6, locals := 450 } : Room) D cI cQ cL ad N F [.ref (ad 0), .int a1, .int a2, .ref (ad 85)] (nI 0) (va_up G 85 (.inl (cL, 1, .inr (.inl (vp_updL o 0 r.toInt64))))) 1 6 := by
  refine ml_of (by decide +kernel) (Nat.le_of_ble_eq_true rfl) (fun p e s m below meth cd Q ls hx hb hml hown hts htab hDi hP hK hNW hS hX hXN hret hl => ?_)
  have hown : s.vm.findClass RL = some m.cls := hown
  have hl : lv_has ls 5 [(0, .ref (ad 0)), (1, .int a1), (2, .int a2), (3, .ref (ad 85))] := hl
  refine lv_aload_n hx hb (dk kL_wink_ok 0 rfl) rfl (lv_at hl 3 rfl) ?_
  refine lv_iconst (v := nI 0) hx hb (dk kL_wink_ok 1 rfl) rfl ?_
  refine lv_aload_n hx hb (dk kL_wink_ok 2 rfl) rfl (lv_at hl 0 rfl) ?_
  refine lv_iload_n hx hb (dk kL_wink_ok 3 rfl) rfl (lv_at hl 1 rfl) ?_
  refine lv_iload_n hx hb (dk kL_wink_ok 4 rfl) rfl (lv_at hl 2 rfl) ?_
  refine cvD G (As := [.int a1, .int a2]) (rest := [.int (nI 0), .ref (ad 85)]) ⟨hx, hb, hml, hown, hts⟩ hM (cwVL 2 hts mcX5_wink (lc0 _ (List.mem_of_getElem? (i := 11) rfl)) miX5_wink meX5_wink mini_RX5 hrc hrs hdX5_wink ⟨hfr, hlo⟩) hDi hK hP hNW hS (k := 0) (by omega) hF0 rfl rfl hl.1 rfl (Nat.le_of_ble_eq_true rfl) ⟨Nat.le_of_ble_eq_true rfl, Nat.le_of_ble_eq_true rfl⟩ (dk kL_wink_ok 5 rfl) rfl (fun H locs hP hS => ?_)
  refine lv_i2l (v := r.toInt64) hx hb (dk kL_wink_ok 6 rfl) rfl ?_
  refine lst _ (k := 85) hx hb hK hDi hP hS hN hG (dk kL_wink_ok 7 rfl) rfl (fun H locs hP hS => ?_)
  refine lv_goto (tgt := 21) hx hb (dk kL_wink_ok 8 rfl) (by decide) ?_
  refine lv_iconst (v := nI 0) hx hb (dk kL_wink_ok 15 rfl) rfl ?_
  exact hret _ _ _ _ _ _ hP hS (by decide) (by decide) (dk kL_wink_ok 16 rfl)
set_option maxRecDepth 100000 in
set_option maxHeartbeats 4000000 in
theorem tL_wink_x (l : Launch) (D : va_G) (cI cQ cL : ClassId) (ad : Nat → Nat) (N : Nat) (F : Nat → va_E) (hN : 85 < N) (fs : List Value) (hF0 : F 0 = .inr (5, fs)) (a1 a2 : Int32) (E : String) (kk : Nat) (hE : (E = eI ∧ kk = 1) ∨ (E = eA ∧ kk = 2)) {rm : Room} (hM : MT l yX5_wink (Cond.code yX5_wink cX5_wink 3 (some .int) :: AW) rm D cI cQ cL ad N F [.ref (ad 0), .int a1, .int a2] E 1 6) (hrc : rm.cells = 1) (hrs : rm.slots = 6) (hfr : rm.frames + 1 ≤ 12) (hlo : 8 + (3 + 11) + rm.locals ≤ 450) : ML l yL_wink (Cond.codeWith yL_wink cL_wink 5 (some .int) [(0, 10, 13, 13), (0, 10, 17, 15)] :: LW) ({ frames := 12, cells := 1, slots := 6, locals := 450 } : Room) D cI cQ cL ad N F [.ref (ad 0), .int a1, .int a2, .ref (ad 85)] (nI kk) F 1 6 := by
  refine ml_of (by decide +kernel) (Nat.le_of_ble_eq_true rfl) (fun p e s m below meth cd Q ls hx hb hml hown hts htab hDi hP hK hNW hS hX hXN hret hl => ?_)
  have hown : s.vm.findClass RL = some m.cls := hown
  have hl : lv_has ls 5 [(0, .ref (ad 0)), (1, .int a1), (2, .int a2), (3, .ref (ad 85))] := hl
  refine lv_aload_n hx hb (dk kL_wink_ok 0 rfl) rfl (lv_at hl 3 rfl) ?_
  refine lv_iconst (v := nI 0) hx hb (dk kL_wink_ok 1 rfl) rfl ?_
  refine lv_aload_n hx hb (dk kL_wink_ok 2 rfl) rfl (lv_at hl 0 rfl) ?_
  refine lv_iload_n hx hb (dk kL_wink_ok 3 rfl) rfl (lv_at hl 1 rfl) ?_
  refine lv_iload_n hx hb (dk kL_wink_ok 4 rfl) rfl (lv_at hl 2 rfl) ?_
  refine cvT (As := [.int a1, .int a2]) (rest := [.int (nI 0), .ref (ad 85)]) ⟨hx, hb, hml, hown, hts⟩ hM (cwVL 2 hts mcX5_wink (lc0 _ (List.mem_of_getElem? (i := 11) rfl)) miX5_wink meX5_wink mini_RX5 hrc hrs hdX5_wink ⟨hfr, hlo⟩) hDi hK hP hNW hS hX (k := 0) (by omega) hF0 rfl rfl hl.1 rfl (Nat.le_of_ble_eq_true rfl) ⟨Nat.le_of_ble_eq_true rfl, Nat.le_of_ble_eq_true rfl⟩ (dk kL_wink_ok 5 rfl) (fun H locs q ce hP hS hq hcv hcl => ?_)
  rcases hE with ⟨rfl, rfl⟩ | ⟨rfl, rfl⟩
  · refine vx_catch (name := "java/lang/IndexOutOfBoundsException") hown [] ⟨0, 10, 13, 13⟩ [⟨0, 10, 17, 15⟩] (by rw [htab]; rfl) ?_ (by decide) (by decide) (hts _ (lc0 _ (List.mem_of_getElem? (i := 0) rfl))) (XWc hX (List.mem_of_getElem? (i := 2) rfl)) hq hcv hcl ?_
    · exact fun z hz => nomatch hz
    · refine lv_astore (lv' := [(4, .ref q), (0, .ref (ad 0)), (1, .int a1), (2, .int a2), (3, .ref (ad 85))]) hx hb (dk kL_wink_ok 9 rfl) hl (by decide) rfl (fun ls hl => ?_)
      refine lv_iconst (v := nI 1) hx hb (dk kL_wink_ok 10 rfl) rfl ?_
      exact hret _ _ _ _ _ _ hP hS (by decide) (by decide) (dk kL_wink_ok 11 rfl)
  · refine vx_catch (name := "java/lang/IllegalArgumentException") hown [⟨0, 10, 13, 13⟩] ⟨0, 10, 17, 15⟩ [] (by rw [htab]; rfl) ?_ (by decide) (by decide) (hts _ (lc0 _ (List.mem_of_getElem? (i := 1) rfl))) (XWc hX (List.mem_of_getElem? (i := 1) rfl)) hq hcv hcl ?_
    · intro z hz
      rcases List.mem_singleton.mp hz with rfl
      · exact Or.inr ⟨by decide, "java/lang/IndexOutOfBoundsException", hts _ (lc0 _ (List.mem_of_getElem? (i := 0) rfl)), XNn hXN (List.mem_of_getElem? (i := 4) rfl)⟩
    · refine lv_astore (lv' := [(4, .ref q), (0, .ref (ad 0)), (1, .int a1), (2, .int a2), (3, .ref (ad 85))]) hx hb (dk kL_wink_ok 12 rfl) hl (by decide) rfl (fun ls hl => ?_)
      refine lv_iconst (v := nI 2) hx hb (dk kL_wink_ok 13 rfl) rfl ?_
      exact hret _ _ _ _ _ _ hP hS (by decide) (by decide) (dk kL_wink_ok 14 rfl)
set_option maxRecDepth 100000 in
set_option maxHeartbeats 4000000 in
theorem tL_pile (l : Launch) (D : va_G) (cI cQ cL : ClassId) (ad : Nat → Nat) (N : Nat) (F : Nat → va_E) (hN : 85 < N) (fs : List Value) (hF0 : F 0 = .inr (5, fs)) (a1 a2 a3 : Int32) (G : Nat → va_E) (o : Nat → Int64) (hG : G 85 = .inl (cL, 1, .inr (.inl o))) (r : Int32) {rm : Room} (hM : MX l yX5_pile (Cond.code yX5_pile cX5_pile 5 (some .int) :: AW) rm D cI cQ cL ad N F [.ref (ad 0), .int a1, .int a2, .int a3] (dp (some (.int r)) G) 0 0) (hrc : rm.cells = 0) (hrs : rm.slots = 0) (hfr : rm.frames + 1 ≤ 12) (hlo : 8 + (5 + 11) + rm.locals ≤ 450) : ML l yL_pile (Cond.codeWith yL_pile cL_pile 6 (some .int) [(0, 12, 15, 13), (0, 12, 19, 15)] :: LW) ({ frames := 12, cells := 1, slots := 6, locals := 450 } : Room) D cI cQ cL ad N F [.ref (ad 0), .int a1, .int a2, .int a3, .ref (ad 85)] (nI 0) (va_up G 85 (.inl (cL, 1, .inr (.inl (vp_updL o 0 r.toInt64))))) 1 6 := by
  refine ml_of (by decide +kernel) (Nat.le_of_ble_eq_true rfl) (fun p e s m below meth cd Q ls hx hb hml hown hts htab hDi hP hK hNW hS hX hXN hret hl => ?_)
  have hown : s.vm.findClass RL = some m.cls := hown
  have hl : lv_has ls 6 [(0, .ref (ad 0)), (1, .int a1), (2, .int a2), (3, .int a3), (4, .ref (ad 85))] := hl
  refine lv_aload hx hb (dk kL_pile_ok 0 rfl) (lv_at hl 4 rfl) ?_
  refine lv_iconst (v := nI 0) hx hb (dk kL_pile_ok 1 rfl) rfl ?_
  refine lv_aload_n hx hb (dk kL_pile_ok 2 rfl) rfl (lv_at hl 0 rfl) ?_
  refine lv_iload_n hx hb (dk kL_pile_ok 3 rfl) rfl (lv_at hl 1 rfl) ?_
  refine lv_iload_n hx hb (dk kL_pile_ok 4 rfl) rfl (lv_at hl 2 rfl) ?_
  refine lv_iload_n hx hb (dk kL_pile_ok 5 rfl) rfl (lv_at hl 3 rfl) ?_
  refine cvD G (As := [.int a1, .int a2, .int a3]) (rest := [.int (nI 0), .ref (ad 85)]) ⟨hx, hb, hml, hown, hts⟩ hM (cwVL 3 hts mcX5_pile (lc0 _ (List.mem_of_getElem? (i := 12) rfl)) miX5_pile meX5_pile mini_RX5 hrc hrs hdX5_pile ⟨hfr, hlo⟩) hDi hK hP hNW hS (k := 0) (by omega) hF0 rfl rfl hl.1 rfl (Nat.le_of_ble_eq_true rfl) ⟨Nat.le_of_ble_eq_true rfl, Nat.le_of_ble_eq_true rfl⟩ (dk kL_pile_ok 6 rfl) rfl (fun H locs hP hS => ?_)
  refine lv_i2l (v := r.toInt64) hx hb (dk kL_pile_ok 7 rfl) rfl ?_
  refine lst _ (k := 85) hx hb hK hDi hP hS hN hG (dk kL_pile_ok 8 rfl) rfl (fun H locs hP hS => ?_)
  refine lv_goto (tgt := 23) hx hb (dk kL_pile_ok 9 rfl) (by decide) ?_
  refine lv_iconst (v := nI 0) hx hb (dk kL_pile_ok 16 rfl) rfl ?_
  exact hret _ _ _ _ _ _ hP hS (by decide) (by decide) (dk kL_pile_ok 17 rfl)
set_option maxRecDepth 100000 in
set_option maxHeartbeats 4000000 in
theorem tL_pile_x (l : Launch) (D : va_G) (cI cQ cL : ClassId) (ad : Nat → Nat) (N : Nat) (F : Nat → va_E) (hN : 85 < N) (fs : List Value) (hF0 : F 0 = .inr (5, fs)) (a1 a2 a3 : Int32) (E : String) (kk : Nat) (hE : (E = eI ∧ kk = 1) ∨ (E = eA ∧ kk = 2)) {rm : Room} (hM : MT l yX5_pile (Cond.code yX5_pile cX5_pile 5 (some .int) :: AW) rm D cI cQ cL ad N F [.ref (ad 0), .int a1, .int a2, .int a3] E 1 6) (hrc : rm.cells = 1) (hrs : rm.slots = 6) (hfr : rm.frames + 1 ≤ 12) (hlo : 8 + (5 + 11) + rm.locals ≤ 450) : ML l yL_pile (Cond.codeWith yL_pile cL_pile 6 (some .int) [(0, 12, 15, 13), (0, 12, 19, 15)] :: LW) ({ frames := 12, cells := 1, slots := 6, locals := 450 } : Room) D cI cQ cL ad N F [.ref (ad 0), .int a1, .int a2, .int a3, .ref (ad 85)] (nI kk) F 1 6 := by
  refine ml_of (by decide +kernel) (Nat.le_of_ble_eq_true rfl) (fun p e s m below meth cd Q ls hx hb hml hown hts htab hDi hP hK hNW hS hX hXN hret hl => ?_)
  have hown : s.vm.findClass RL = some m.cls := hown
  have hl : lv_has ls 6 [(0, .ref (ad 0)), (1, .int a1), (2, .int a2), (3, .int a3), (4, .ref (ad 85))] := hl
  refine lv_aload hx hb (dk kL_pile_ok 0 rfl) (lv_at hl 4 rfl) ?_
  refine lv_iconst (v := nI 0) hx hb (dk kL_pile_ok 1 rfl) rfl ?_
  refine lv_aload_n hx hb (dk kL_pile_ok 2 rfl) rfl (lv_at hl 0 rfl) ?_
  refine lv_iload_n hx hb (dk kL_pile_ok 3 rfl) rfl (lv_at hl 1 rfl) ?_
  refine lv_iload_n hx hb (dk kL_pile_ok 4 rfl) rfl (lv_at hl 2 rfl) ?_
  refine lv_iload_n hx hb (dk kL_pile_ok 5 rfl) rfl (lv_at hl 3 rfl) ?_
  refine cvT (As := [.int a1, .int a2, .int a3]) (rest := [.int (nI 0), .ref (ad 85)]) ⟨hx, hb, hml, hown, hts⟩ hM (cwVL 3 hts mcX5_pile (lc0 _ (List.mem_of_getElem? (i := 12) rfl)) miX5_pile meX5_pile mini_RX5 hrc hrs hdX5_pile ⟨hfr, hlo⟩) hDi hK hP hNW hS hX (k := 0) (by omega) hF0 rfl rfl hl.1 rfl (Nat.le_of_ble_eq_true rfl) ⟨Nat.le_of_ble_eq_true rfl, Nat.le_of_ble_eq_true rfl⟩ (dk kL_pile_ok 6 rfl) (fun H locs q ce hP hS hq hcv hcl => ?_)
  rcases hE with ⟨rfl, rfl⟩ | ⟨rfl, rfl⟩
  · refine vx_catch (name := "java/lang/IndexOutOfBoundsException") hown [] ⟨0, 12, 15, 13⟩ [⟨0, 12, 19, 15⟩] (by rw [htab]; rfl) ?_ (by decide) (by decide) (hts _ (lc0 _ (List.mem_of_getElem? (i := 0) rfl))) (XWc hX (List.mem_of_getElem? (i := 2) rfl)) hq hcv hcl ?_
    · exact fun z hz => nomatch hz
    · refine lv_astore (lv' := [(5, .ref q), (0, .ref (ad 0)), (1, .int a1), (2, .int a2), (3, .int a3), (4, .ref (ad 85))]) hx hb (dk kL_pile_ok 10 rfl) hl (by decide) rfl (fun ls hl => ?_)
      refine lv_iconst (v := nI 1) hx hb (dk kL_pile_ok 11 rfl) rfl ?_
      exact hret _ _ _ _ _ _ hP hS (by decide) (by decide) (dk kL_pile_ok 12 rfl)
  · refine vx_catch (name := "java/lang/IllegalArgumentException") hown [⟨0, 12, 15, 13⟩] ⟨0, 12, 19, 15⟩ [] (by rw [htab]; rfl) ?_ (by decide) (by decide) (hts _ (lc0 _ (List.mem_of_getElem? (i := 1) rfl))) (XWc hX (List.mem_of_getElem? (i := 1) rfl)) hq hcv hcl ?_
    · intro z hz
      rcases List.mem_singleton.mp hz with rfl
      · exact Or.inr ⟨by decide, "java/lang/IndexOutOfBoundsException", hts _ (lc0 _ (List.mem_of_getElem? (i := 0) rfl)), XNn hXN (List.mem_of_getElem? (i := 4) rfl)⟩
    · refine lv_astore (lv' := [(5, .ref q), (0, .ref (ad 0)), (1, .int a1), (2, .int a2), (3, .int a3), (4, .ref (ad 85))]) hx hb (dk kL_pile_ok 13 rfl) hl (by decide) rfl (fun ls hl => ?_)
      refine lv_iconst (v := nI 2) hx hb (dk kL_pile_ok 14 rfl) rfl ?_
      exact hret _ _ _ _ _ _ hP hS (by decide) (by decide) (dk kL_pile_ok 15 rfl)
set_option maxRecDepth 100000 in
set_option maxHeartbeats 4000000 in
theorem tL_colour (l : Launch) (D : va_G) (cI cQ cL : ClassId) (ad : Nat → Nat) (N : Nat) (F : Nat → va_E) (hN : 85 < N) (fs : List Value) (hF0 : F 0 = .inr (5, fs)) (a1 a2 : Int32) (G : Nat → va_E) (o : Nat → Int64) (hG : G 85 = .inl (cL, 1, .inr (.inl o))) (r : Int32) {rm : Room} (hM : MX l yX5_colour (Cond.code yX5_colour cX5_colour 3 (some .int) :: AW) rm D cI cQ cL ad N F [.ref (ad 0), .int a1, .int a2] (dp (some (.int r)) G) 0 0) (hrc : rm.cells = 0) (hrs : rm.slots = 0) (hfr : rm.frames + 1 ≤ 12) (hlo : 8 + (3 + 11) + rm.locals ≤ 450) : ML l yL_colour (Cond.codeWith yL_colour cL_colour 5 (some .int) [(0, 10, 13, 13), (0, 10, 17, 15)] :: LW) ({ frames := 12, cells := 1, slots := 6, locals := 450 } : Room) D cI cQ cL ad N F [.ref (ad 0), .int a1, .int a2, .ref (ad 85)] (nI 0) (va_up G 85 (.inl (cL, 1, .inr (.inl (vp_updL o 0 r.toInt64))))) 1 6 := by
  refine ml_of (by decide +kernel) (Nat.le_of_ble_eq_true rfl) (fun p e s m below meth cd Q ls hx hb hml hown hts htab hDi hP hK hNW hS hX hXN hret hl => ?_)
  have hown : s.vm.findClass RL = some m.cls := hown
  have hl : lv_has ls 5 [(0, .ref (ad 0)), (1, .int a1), (2, .int a2), (3, .ref (ad 85))] := hl
  refine lv_aload_n hx hb (dk kL_colour_ok 0 rfl) rfl (lv_at hl 3 rfl) ?_
  refine lv_iconst (v := nI 0) hx hb (dk kL_colour_ok 1 rfl) rfl ?_
  refine lv_aload_n hx hb (dk kL_colour_ok 2 rfl) rfl (lv_at hl 0 rfl) ?_
  refine lv_iload_n hx hb (dk kL_colour_ok 3 rfl) rfl (lv_at hl 1 rfl) ?_
  refine lv_iload_n hx hb (dk kL_colour_ok 4 rfl) rfl (lv_at hl 2 rfl) ?_
  refine cvD G (As := [.int a1, .int a2]) (rest := [.int (nI 0), .ref (ad 85)]) ⟨hx, hb, hml, hown, hts⟩ hM (cwVL 2 hts mcX5_colour (lc0 _ (List.mem_of_getElem? (i := 13) rfl)) miX5_colour meX5_colour mini_RX5 hrc hrs hdX5_colour ⟨hfr, hlo⟩) hDi hK hP hNW hS (k := 0) (by omega) hF0 rfl rfl hl.1 rfl (Nat.le_of_ble_eq_true rfl) ⟨Nat.le_of_ble_eq_true rfl, Nat.le_of_ble_eq_true rfl⟩ (dk kL_colour_ok 5 rfl) rfl (fun H locs hP hS => ?_)
  refine lv_i2l (v := r.toInt64) hx hb (dk kL_colour_ok 6 rfl) rfl ?_
  refine lst _ (k := 85) hx hb hK hDi hP hS hN hG (dk kL_colour_ok 7 rfl) rfl (fun H locs hP hS => ?_)
  refine lv_goto (tgt := 21) hx hb (dk kL_colour_ok 8 rfl) (by decide) ?_
  refine lv_iconst (v := nI 0) hx hb (dk kL_colour_ok 15 rfl) rfl ?_
  exact hret _ _ _ _ _ _ hP hS (by decide) (by decide) (dk kL_colour_ok 16 rfl)
set_option maxRecDepth 100000 in
set_option maxHeartbeats 4000000 in
theorem tL_colour_x (l : Launch) (D : va_G) (cI cQ cL : ClassId) (ad : Nat → Nat) (N : Nat) (F : Nat → va_E) (hN : 85 < N) (fs : List Value) (hF0 : F 0 = .inr (5, fs)) (a1 a2 : Int32) (E : String) (kk : Nat) (hE : (E = eI ∧ kk = 1) ∨ (E = eA ∧ kk = 2)) {rm : Room} (hM : MT l yX5_colour (Cond.code yX5_colour cX5_colour 3 (some .int) :: AW) rm D cI cQ cL ad N F [.ref (ad 0), .int a1, .int a2] E 1 6) (hrc : rm.cells = 1) (hrs : rm.slots = 6) (hfr : rm.frames + 1 ≤ 12) (hlo : 8 + (3 + 11) + rm.locals ≤ 450) : ML l yL_colour (Cond.codeWith yL_colour cL_colour 5 (some .int) [(0, 10, 13, 13), (0, 10, 17, 15)] :: LW) ({ frames := 12, cells := 1, slots := 6, locals := 450 } : Room) D cI cQ cL ad N F [.ref (ad 0), .int a1, .int a2, .ref (ad 85)] (nI kk) F 1 6 := by
  refine ml_of (by decide +kernel) (Nat.le_of_ble_eq_true rfl) (fun p e s m below meth cd Q ls hx hb hml hown hts htab hDi hP hK hNW hS hX hXN hret hl => ?_)
  have hown : s.vm.findClass RL = some m.cls := hown
  have hl : lv_has ls 5 [(0, .ref (ad 0)), (1, .int a1), (2, .int a2), (3, .ref (ad 85))] := hl
  refine lv_aload_n hx hb (dk kL_colour_ok 0 rfl) rfl (lv_at hl 3 rfl) ?_
  refine lv_iconst (v := nI 0) hx hb (dk kL_colour_ok 1 rfl) rfl ?_
  refine lv_aload_n hx hb (dk kL_colour_ok 2 rfl) rfl (lv_at hl 0 rfl) ?_
  refine lv_iload_n hx hb (dk kL_colour_ok 3 rfl) rfl (lv_at hl 1 rfl) ?_
  refine lv_iload_n hx hb (dk kL_colour_ok 4 rfl) rfl (lv_at hl 2 rfl) ?_
  refine cvT (As := [.int a1, .int a2]) (rest := [.int (nI 0), .ref (ad 85)]) ⟨hx, hb, hml, hown, hts⟩ hM (cwVL 2 hts mcX5_colour (lc0 _ (List.mem_of_getElem? (i := 13) rfl)) miX5_colour meX5_colour mini_RX5 hrc hrs hdX5_colour ⟨hfr, hlo⟩) hDi hK hP hNW hS hX (k := 0) (by omega) hF0 rfl rfl hl.1 rfl (Nat.le_of_ble_eq_true rfl) ⟨Nat.le_of_ble_eq_true rfl, Nat.le_of_ble_eq_true rfl⟩ (dk kL_colour_ok 5 rfl) (fun H locs q ce hP hS hq hcv hcl => ?_)
  rcases hE with ⟨rfl, rfl⟩ | ⟨rfl, rfl⟩
  · refine vx_catch (name := "java/lang/IndexOutOfBoundsException") hown [] ⟨0, 10, 13, 13⟩ [⟨0, 10, 17, 15⟩] (by rw [htab]; rfl) ?_ (by decide) (by decide) (hts _ (lc0 _ (List.mem_of_getElem? (i := 0) rfl))) (XWc hX (List.mem_of_getElem? (i := 2) rfl)) hq hcv hcl ?_
    · exact fun z hz => nomatch hz
    · refine lv_astore (lv' := [(4, .ref q), (0, .ref (ad 0)), (1, .int a1), (2, .int a2), (3, .ref (ad 85))]) hx hb (dk kL_colour_ok 9 rfl) hl (by decide) rfl (fun ls hl => ?_)
      refine lv_iconst (v := nI 1) hx hb (dk kL_colour_ok 10 rfl) rfl ?_
      exact hret _ _ _ _ _ _ hP hS (by decide) (by decide) (dk kL_colour_ok 11 rfl)
  · refine vx_catch (name := "java/lang/IllegalArgumentException") hown [⟨0, 10, 13, 13⟩] ⟨0, 10, 17, 15⟩ [] (by rw [htab]; rfl) ?_ (by decide) (by decide) (hts _ (lc0 _ (List.mem_of_getElem? (i := 1) rfl))) (XWc hX (List.mem_of_getElem? (i := 1) rfl)) hq hcv hcl ?_
    · intro z hz
      rcases List.mem_singleton.mp hz with rfl
      · exact Or.inr ⟨by decide, "java/lang/IndexOutOfBoundsException", hts _ (lc0 _ (List.mem_of_getElem? (i := 0) rfl)), XNn hXN (List.mem_of_getElem? (i := 4) rfl)⟩
    · refine lv_astore (lv' := [(4, .ref q), (0, .ref (ad 0)), (1, .int a1), (2, .int a2), (3, .ref (ad 85))]) hx hb (dk kL_colour_ok 12 rfl) hl (by decide) rfl (fun ls hl => ?_)
      refine lv_iconst (v := nI 2) hx hb (dk kL_colour_ok 13 rfl) rfl ?_
      exact hret _ _ _ _ _ _ hP hS (by decide) (by decide) (dk kL_colour_ok 14 rfl)
set_option maxRecDepth 100000 in
set_option maxHeartbeats 4000000 in
theorem tL_count (l : Launch) (D : va_G) (cI cQ cL : ClassId) (ad : Nat → Nat) (N : Nat) (F : Nat → va_E) (hN : 85 < N) (fs : List Value) (hF0 : F 0 = .inr (5, fs)) (a1 : Int32) (G : Nat → va_E) (o : Nat → Int64) (hG : G 85 = .inl (cL, 1, .inr (.inl o))) (r : Int32) {rm : Room} (hM : MX l yX5_count (Cond.code yX5_count cX5_count 2 (some .int) :: AW) rm D cI cQ cL ad N F [.ref (ad 0), .int a1] (dp (some (.int r)) G) 0 0) (hrc : rm.cells = 0) (hrs : rm.slots = 0) (hfr : rm.frames + 1 ≤ 12) (hlo : 8 + (2 + 11) + rm.locals ≤ 450) : ML l yL_count (Cond.codeWith yL_count cL_count 4 (some .int) [(0, 9, 12, 15)] :: LW) ({ frames := 12, cells := 1, slots := 6, locals := 450 } : Room) D cI cQ cL ad N F [.ref (ad 0), .int a1, .ref (ad 85)] (nI 0) (va_up G 85 (.inl (cL, 1, .inr (.inl (vp_updL o 0 r.toInt64))))) 1 6 := by
  refine ml_of (by decide +kernel) (Nat.le_of_ble_eq_true rfl) (fun p e s m below meth cd Q ls hx hb hml hown hts htab hDi hP hK hNW hS hX hXN hret hl => ?_)
  have hown : s.vm.findClass RL = some m.cls := hown
  have hl : lv_has ls 4 [(0, .ref (ad 0)), (1, .int a1), (2, .ref (ad 85))] := hl
  refine lv_aload_n hx hb (dk kL_count_ok 0 rfl) rfl (lv_at hl 2 rfl) ?_
  refine lv_iconst (v := nI 0) hx hb (dk kL_count_ok 1 rfl) rfl ?_
  refine lv_aload_n hx hb (dk kL_count_ok 2 rfl) rfl (lv_at hl 0 rfl) ?_
  refine lv_iload_n hx hb (dk kL_count_ok 3 rfl) rfl (lv_at hl 1 rfl) ?_
  refine cvD G (As := [.int a1]) (rest := [.int (nI 0), .ref (ad 85)]) ⟨hx, hb, hml, hown, hts⟩ hM (cwVL 1 hts mcX5_count (lc0 _ (List.mem_of_getElem? (i := 14) rfl)) miX5_count meX5_count mini_RX5 hrc hrs hdX5_count ⟨hfr, hlo⟩) hDi hK hP hNW hS (k := 0) (by omega) hF0 rfl rfl hl.1 rfl (Nat.le_of_ble_eq_true rfl) ⟨Nat.le_of_ble_eq_true rfl, Nat.le_of_ble_eq_true rfl⟩ (dk kL_count_ok 4 rfl) rfl (fun H locs hP hS => ?_)
  refine lv_i2l (v := r.toInt64) hx hb (dk kL_count_ok 5 rfl) rfl ?_
  refine lst _ (k := 85) hx hb hK hDi hP hS hN hG (dk kL_count_ok 6 rfl) rfl (fun H locs hP hS => ?_)
  refine lv_goto (tgt := 15) hx hb (dk kL_count_ok 7 rfl) (by decide) ?_
  refine lv_iconst (v := nI 0) hx hb (dk kL_count_ok 11 rfl) rfl ?_
  exact hret _ _ _ _ _ _ hP hS (by decide) (by decide) (dk kL_count_ok 12 rfl)
set_option maxRecDepth 100000 in
set_option maxHeartbeats 4000000 in
theorem tL_count_x (l : Launch) (D : va_G) (cI cQ cL : ClassId) (ad : Nat → Nat) (N : Nat) (F : Nat → va_E) (hN : 85 < N) (fs : List Value) (hF0 : F 0 = .inr (5, fs)) (a1 : Int32) (E : String) (kk : Nat) (hE : (E = eA ∧ kk = 1)) {rm : Room} (hM : MT l yX5_count (Cond.code yX5_count cX5_count 2 (some .int) :: AW) rm D cI cQ cL ad N F [.ref (ad 0), .int a1] E 1 6) (hrc : rm.cells = 1) (hrs : rm.slots = 6) (hfr : rm.frames + 1 ≤ 12) (hlo : 8 + (2 + 11) + rm.locals ≤ 450) : ML l yL_count (Cond.codeWith yL_count cL_count 4 (some .int) [(0, 9, 12, 15)] :: LW) ({ frames := 12, cells := 1, slots := 6, locals := 450 } : Room) D cI cQ cL ad N F [.ref (ad 0), .int a1, .ref (ad 85)] (nI kk) F 1 6 := by
  refine ml_of (by decide +kernel) (Nat.le_of_ble_eq_true rfl) (fun p e s m below meth cd Q ls hx hb hml hown hts htab hDi hP hK hNW hS hX hXN hret hl => ?_)
  have hown : s.vm.findClass RL = some m.cls := hown
  have hl : lv_has ls 4 [(0, .ref (ad 0)), (1, .int a1), (2, .ref (ad 85))] := hl
  refine lv_aload_n hx hb (dk kL_count_ok 0 rfl) rfl (lv_at hl 2 rfl) ?_
  refine lv_iconst (v := nI 0) hx hb (dk kL_count_ok 1 rfl) rfl ?_
  refine lv_aload_n hx hb (dk kL_count_ok 2 rfl) rfl (lv_at hl 0 rfl) ?_
  refine lv_iload_n hx hb (dk kL_count_ok 3 rfl) rfl (lv_at hl 1 rfl) ?_
  refine cvT (As := [.int a1]) (rest := [.int (nI 0), .ref (ad 85)]) ⟨hx, hb, hml, hown, hts⟩ hM (cwVL 1 hts mcX5_count (lc0 _ (List.mem_of_getElem? (i := 14) rfl)) miX5_count meX5_count mini_RX5 hrc hrs hdX5_count ⟨hfr, hlo⟩) hDi hK hP hNW hS hX (k := 0) (by omega) hF0 rfl rfl hl.1 rfl (Nat.le_of_ble_eq_true rfl) ⟨Nat.le_of_ble_eq_true rfl, Nat.le_of_ble_eq_true rfl⟩ (dk kL_count_ok 4 rfl) (fun H locs q ce hP hS hq hcv hcl => ?_)
  rcases hE with ⟨rfl, rfl⟩
  · refine vx_catch (name := "java/lang/IllegalArgumentException") hown [] ⟨0, 9, 12, 15⟩ [] (by rw [htab]; rfl) ?_ (by decide) (by decide) (hts _ (lc0 _ (List.mem_of_getElem? (i := 1) rfl))) (XWc hX (List.mem_of_getElem? (i := 1) rfl)) hq hcv hcl ?_
    · exact fun z hz => nomatch hz
    · refine lv_astore_n (lv' := [(3, .ref q), (0, .ref (ad 0)), (1, .int a1), (2, .ref (ad 85))]) hx hb (dk kL_count_ok 8 rfl) rfl hl (by decide) rfl (fun ls hl => ?_)
      refine lv_iconst (v := nI 1) hx hb (dk kL_count_ok 9 rfl) rfl ?_
      exact hret _ _ _ _ _ _ hP hS (by decide) (by decide) (dk kL_count_ok 10 rfl)
set_option maxRecDepth 100000 in
set_option maxHeartbeats 4000000 in
theorem tL_why (l : Launch) (D : va_G) (cI cQ cL : ClassId) (ad : Nat → Nat) (N : Nat) (F : Nat → va_E) (hN : 85 < N) (fs : List Value) (hF0 : F 0 = .inr (5, fs)) (a1 a2 a3 a4 : Int32) (G : Nat → va_E) (o : Nat → Int64) (hG : G 85 = .inl (cL, 1, .inr (.inl o))) (r : Int32) {rm : Room} (hM : MX l yX5_why (Cond.code yX5_why cX5_why 5 (some .int) :: AW) rm D cI cQ cL ad N F [.ref (ad 0), .int a1, .int a2, .int a3, .int a4] (dp (some (.int r)) G) 0 0) (hrc : rm.cells = 0) (hrs : rm.slots = 0) (hfr : rm.frames + 1 ≤ 12) (hlo : 8 + (5 + 11) + rm.locals ≤ 450) : ML l yL_why (Cond.codeWith yL_why cL_why 7 (some .int) [(0, 14, 17, 13), (0, 14, 21, 15)] :: LW) ({ frames := 12, cells := 1, slots := 6, locals := 450 } : Room) D cI cQ cL ad N F [.ref (ad 0), .int a1, .int a2, .int a3, .int a4, .ref (ad 85)] (nI 0) (va_up G 85 (.inl (cL, 1, .inr (.inl (vp_updL o 0 r.toInt64))))) 1 6 := by
  refine ml_of (by decide +kernel) (Nat.le_of_ble_eq_true rfl) (fun p e s m below meth cd Q ls hx hb hml hown hts htab hDi hP hK hNW hS hX hXN hret hl => ?_)
  have hown : s.vm.findClass RL = some m.cls := hown
  have hl : lv_has ls 7 [(0, .ref (ad 0)), (1, .int a1), (2, .int a2), (3, .int a3), (4, .int a4), (5, .ref (ad 85))] := hl
  refine lv_aload hx hb (dk kL_why_ok 0 rfl) (lv_at hl 5 rfl) ?_
  refine lv_iconst (v := nI 0) hx hb (dk kL_why_ok 1 rfl) rfl ?_
  refine lv_aload_n hx hb (dk kL_why_ok 2 rfl) rfl (lv_at hl 0 rfl) ?_
  refine lv_iload_n hx hb (dk kL_why_ok 3 rfl) rfl (lv_at hl 1 rfl) ?_
  refine lv_iload_n hx hb (dk kL_why_ok 4 rfl) rfl (lv_at hl 2 rfl) ?_
  refine lv_iload_n hx hb (dk kL_why_ok 5 rfl) rfl (lv_at hl 3 rfl) ?_
  refine lv_iload hx hb (dk kL_why_ok 6 rfl) (lv_at hl 4 rfl) ?_
  refine cvD G (As := [.int a1, .int a2, .int a3, .int a4]) (rest := [.int (nI 0), .ref (ad 85)]) ⟨hx, hb, hml, hown, hts⟩ hM (cwVL 4 hts mcX5_why (lc0 _ (List.mem_of_getElem? (i := 15) rfl)) miX5_why meX5_why mini_RX5 hrc hrs hdX5_why ⟨hfr, hlo⟩) hDi hK hP hNW hS (k := 0) (by omega) hF0 rfl rfl hl.1 rfl (Nat.le_of_ble_eq_true rfl) ⟨Nat.le_of_ble_eq_true rfl, Nat.le_of_ble_eq_true rfl⟩ (dk kL_why_ok 7 rfl) rfl (fun H locs hP hS => ?_)
  refine lv_i2l (v := r.toInt64) hx hb (dk kL_why_ok 8 rfl) rfl ?_
  refine lst _ (k := 85) hx hb hK hDi hP hS hN hG (dk kL_why_ok 9 rfl) rfl (fun H locs hP hS => ?_)
  refine lv_goto (tgt := 25) hx hb (dk kL_why_ok 10 rfl) (by decide) ?_
  refine lv_iconst (v := nI 0) hx hb (dk kL_why_ok 17 rfl) rfl ?_
  exact hret _ _ _ _ _ _ hP hS (by decide) (by decide) (dk kL_why_ok 18 rfl)
set_option maxRecDepth 100000 in
set_option maxHeartbeats 4000000 in
theorem tL_why_x (l : Launch) (D : va_G) (cI cQ cL : ClassId) (ad : Nat → Nat) (N : Nat) (F : Nat → va_E) (hN : 85 < N) (fs : List Value) (hF0 : F 0 = .inr (5, fs)) (a1 a2 a3 a4 : Int32) (E : String) (kk : Nat) (hE : (E = eI ∧ kk = 1) ∨ (E = eA ∧ kk = 2)) {rm : Room} (hM : MT l yX5_why (Cond.code yX5_why cX5_why 5 (some .int) :: AW) rm D cI cQ cL ad N F [.ref (ad 0), .int a1, .int a2, .int a3, .int a4] E 1 6) (hrc : rm.cells = 1) (hrs : rm.slots = 6) (hfr : rm.frames + 1 ≤ 12) (hlo : 8 + (5 + 11) + rm.locals ≤ 450) : ML l yL_why (Cond.codeWith yL_why cL_why 7 (some .int) [(0, 14, 17, 13), (0, 14, 21, 15)] :: LW) ({ frames := 12, cells := 1, slots := 6, locals := 450 } : Room) D cI cQ cL ad N F [.ref (ad 0), .int a1, .int a2, .int a3, .int a4, .ref (ad 85)] (nI kk) F 1 6 := by
  refine ml_of (by decide +kernel) (Nat.le_of_ble_eq_true rfl) (fun p e s m below meth cd Q ls hx hb hml hown hts htab hDi hP hK hNW hS hX hXN hret hl => ?_)
  have hown : s.vm.findClass RL = some m.cls := hown
  have hl : lv_has ls 7 [(0, .ref (ad 0)), (1, .int a1), (2, .int a2), (3, .int a3), (4, .int a4), (5, .ref (ad 85))] := hl
  refine lv_aload hx hb (dk kL_why_ok 0 rfl) (lv_at hl 5 rfl) ?_
  refine lv_iconst (v := nI 0) hx hb (dk kL_why_ok 1 rfl) rfl ?_
  refine lv_aload_n hx hb (dk kL_why_ok 2 rfl) rfl (lv_at hl 0 rfl) ?_
  refine lv_iload_n hx hb (dk kL_why_ok 3 rfl) rfl (lv_at hl 1 rfl) ?_
  refine lv_iload_n hx hb (dk kL_why_ok 4 rfl) rfl (lv_at hl 2 rfl) ?_
  refine lv_iload_n hx hb (dk kL_why_ok 5 rfl) rfl (lv_at hl 3 rfl) ?_
  refine lv_iload hx hb (dk kL_why_ok 6 rfl) (lv_at hl 4 rfl) ?_
  refine cvT (As := [.int a1, .int a2, .int a3, .int a4]) (rest := [.int (nI 0), .ref (ad 85)]) ⟨hx, hb, hml, hown, hts⟩ hM (cwVL 4 hts mcX5_why (lc0 _ (List.mem_of_getElem? (i := 15) rfl)) miX5_why meX5_why mini_RX5 hrc hrs hdX5_why ⟨hfr, hlo⟩) hDi hK hP hNW hS hX (k := 0) (by omega) hF0 rfl rfl hl.1 rfl (Nat.le_of_ble_eq_true rfl) ⟨Nat.le_of_ble_eq_true rfl, Nat.le_of_ble_eq_true rfl⟩ (dk kL_why_ok 7 rfl) (fun H locs q ce hP hS hq hcv hcl => ?_)
  rcases hE with ⟨rfl, rfl⟩ | ⟨rfl, rfl⟩
  · refine vx_catch (name := "java/lang/IndexOutOfBoundsException") hown [] ⟨0, 14, 17, 13⟩ [⟨0, 14, 21, 15⟩] (by rw [htab]; rfl) ?_ (by decide) (by decide) (hts _ (lc0 _ (List.mem_of_getElem? (i := 0) rfl))) (XWc hX (List.mem_of_getElem? (i := 2) rfl)) hq hcv hcl ?_
    · exact fun z hz => nomatch hz
    · refine lv_astore (lv' := [(6, .ref q), (0, .ref (ad 0)), (1, .int a1), (2, .int a2), (3, .int a3), (4, .int a4), (5, .ref (ad 85))]) hx hb (dk kL_why_ok 11 rfl) hl (by decide) rfl (fun ls hl => ?_)
      refine lv_iconst (v := nI 1) hx hb (dk kL_why_ok 12 rfl) rfl ?_
      exact hret _ _ _ _ _ _ hP hS (by decide) (by decide) (dk kL_why_ok 13 rfl)
  · refine vx_catch (name := "java/lang/IllegalArgumentException") hown [⟨0, 14, 17, 13⟩] ⟨0, 14, 21, 15⟩ [] (by rw [htab]; rfl) ?_ (by decide) (by decide) (hts _ (lc0 _ (List.mem_of_getElem? (i := 1) rfl))) (XWc hX (List.mem_of_getElem? (i := 1) rfl)) hq hcv hcl ?_
    · intro z hz
      rcases List.mem_singleton.mp hz with rfl
      · exact Or.inr ⟨by decide, "java/lang/IndexOutOfBoundsException", hts _ (lc0 _ (List.mem_of_getElem? (i := 0) rfl)), XNn hXN (List.mem_of_getElem? (i := 4) rfl)⟩
    · refine lv_astore (lv' := [(6, .ref q), (0, .ref (ad 0)), (1, .int a1), (2, .int a2), (3, .int a3), (4, .int a4), (5, .ref (ad 85))]) hx hb (dk kL_why_ok 14 rfl) hl (by decide) rfl (fun ls hl => ?_)
      refine lv_iconst (v := nI 2) hx hb (dk kL_why_ok 15 rfl) rfl ?_
      exact hret _ _ _ _ _ _ hP hS (by decide) (by decide) (dk kL_why_ok 16 rfl)
set_option maxRecDepth 100000 in
set_option maxHeartbeats 4000000 in
theorem tL_lands (l : Launch) (D : va_G) (cI cQ cL : ClassId) (ad : Nat → Nat) (N : Nat) (F : Nat → va_E) (hN : 85 < N) (fs : List Value) (hF0 : F 0 = .inr (5, fs)) (a1 a2 a3 : Int32) (G : Nat → va_E) (o : Nat → Int64) (hG : G 85 = .inl (cL, 1, .inr (.inl o))) (r : Int32) {rm : Room} (hM : MX l yX5_lands (Cond.code yX5_lands cX5_lands 4 (some .int) :: AW) rm D cI cQ cL ad N F [.ref (ad 0), .int a1, .int a2, .int a3] (dp (some (.int r)) G) 0 0) (hrc : rm.cells = 0) (hrs : rm.slots = 0) (hfr : rm.frames + 1 ≤ 12) (hlo : 8 + (4 + 11) + rm.locals ≤ 450) : ML l yL_lands (Cond.codeWith yL_lands cL_lands 6 (some .int) [(0, 12, 15, 13), (0, 12, 19, 15)] :: LW) ({ frames := 12, cells := 1, slots := 6, locals := 450 } : Room) D cI cQ cL ad N F [.ref (ad 0), .int a1, .int a2, .int a3, .ref (ad 85)] (nI 0) (va_up G 85 (.inl (cL, 1, .inr (.inl (vp_updL o 0 r.toInt64))))) 1 6 := by
  refine ml_of (by decide +kernel) (Nat.le_of_ble_eq_true rfl) (fun p e s m below meth cd Q ls hx hb hml hown hts htab hDi hP hK hNW hS hX hXN hret hl => ?_)
  have hown : s.vm.findClass RL = some m.cls := hown
  have hl : lv_has ls 6 [(0, .ref (ad 0)), (1, .int a1), (2, .int a2), (3, .int a3), (4, .ref (ad 85))] := hl
  refine lv_aload hx hb (dk kL_lands_ok 0 rfl) (lv_at hl 4 rfl) ?_
  refine lv_iconst (v := nI 0) hx hb (dk kL_lands_ok 1 rfl) rfl ?_
  refine lv_aload_n hx hb (dk kL_lands_ok 2 rfl) rfl (lv_at hl 0 rfl) ?_
  refine lv_iload_n hx hb (dk kL_lands_ok 3 rfl) rfl (lv_at hl 1 rfl) ?_
  refine lv_iload_n hx hb (dk kL_lands_ok 4 rfl) rfl (lv_at hl 2 rfl) ?_
  refine lv_iload_n hx hb (dk kL_lands_ok 5 rfl) rfl (lv_at hl 3 rfl) ?_
  refine cvD G (As := [.int a1, .int a2, .int a3]) (rest := [.int (nI 0), .ref (ad 85)]) ⟨hx, hb, hml, hown, hts⟩ hM (cwVL 3 hts mcX5_lands (lc0 _ (List.mem_of_getElem? (i := 16) rfl)) miX5_lands meX5_lands mini_RX5 hrc hrs hdX5_lands ⟨hfr, hlo⟩) hDi hK hP hNW hS (k := 0) (by omega) hF0 rfl rfl hl.1 rfl (Nat.le_of_ble_eq_true rfl) ⟨Nat.le_of_ble_eq_true rfl, Nat.le_of_ble_eq_true rfl⟩ (dk kL_lands_ok 6 rfl) rfl (fun H locs hP hS => ?_)
  refine lv_i2l (v := r.toInt64) hx hb (dk kL_lands_ok 7 rfl) rfl ?_
  refine lst _ (k := 85) hx hb hK hDi hP hS hN hG (dk kL_lands_ok 8 rfl) rfl (fun H locs hP hS => ?_)
  refine lv_goto (tgt := 23) hx hb (dk kL_lands_ok 9 rfl) (by decide) ?_
  refine lv_iconst (v := nI 0) hx hb (dk kL_lands_ok 16 rfl) rfl ?_
  exact hret _ _ _ _ _ _ hP hS (by decide) (by decide) (dk kL_lands_ok 17 rfl)
set_option maxRecDepth 100000 in
set_option maxHeartbeats 4000000 in
theorem tL_lands_x (l : Launch) (D : va_G) (cI cQ cL : ClassId) (ad : Nat → Nat) (N : Nat) (F : Nat → va_E) (hN : 85 < N) (fs : List Value) (hF0 : F 0 = .inr (5, fs)) (a1 a2 a3 : Int32) (E : String) (kk : Nat) (hE : (E = eI ∧ kk = 1) ∨ (E = eA ∧ kk = 2)) {rm : Room} (hM : MT l yX5_lands (Cond.code yX5_lands cX5_lands 4 (some .int) :: AW) rm D cI cQ cL ad N F [.ref (ad 0), .int a1, .int a2, .int a3] E 1 6) (hrc : rm.cells = 1) (hrs : rm.slots = 6) (hfr : rm.frames + 1 ≤ 12) (hlo : 8 + (4 + 11) + rm.locals ≤ 450) : ML l yL_lands (Cond.codeWith yL_lands cL_lands 6 (some .int) [(0, 12, 15, 13), (0, 12, 19, 15)] :: LW) ({ frames := 12, cells := 1, slots := 6, locals := 450 } : Room) D cI cQ cL ad N F [.ref (ad 0), .int a1, .int a2, .int a3, .ref (ad 85)] (nI kk) F 1 6 := by
  refine ml_of (by decide +kernel) (Nat.le_of_ble_eq_true rfl) (fun p e s m below meth cd Q ls hx hb hml hown hts htab hDi hP hK hNW hS hX hXN hret hl => ?_)
  have hown : s.vm.findClass RL = some m.cls := hown
  have hl : lv_has ls 6 [(0, .ref (ad 0)), (1, .int a1), (2, .int a2), (3, .int a3), (4, .ref (ad 85))] := hl
  refine lv_aload hx hb (dk kL_lands_ok 0 rfl) (lv_at hl 4 rfl) ?_
  refine lv_iconst (v := nI 0) hx hb (dk kL_lands_ok 1 rfl) rfl ?_
  refine lv_aload_n hx hb (dk kL_lands_ok 2 rfl) rfl (lv_at hl 0 rfl) ?_
  refine lv_iload_n hx hb (dk kL_lands_ok 3 rfl) rfl (lv_at hl 1 rfl) ?_
  refine lv_iload_n hx hb (dk kL_lands_ok 4 rfl) rfl (lv_at hl 2 rfl) ?_
  refine lv_iload_n hx hb (dk kL_lands_ok 5 rfl) rfl (lv_at hl 3 rfl) ?_
  refine cvT (As := [.int a1, .int a2, .int a3]) (rest := [.int (nI 0), .ref (ad 85)]) ⟨hx, hb, hml, hown, hts⟩ hM (cwVL 3 hts mcX5_lands (lc0 _ (List.mem_of_getElem? (i := 16) rfl)) miX5_lands meX5_lands mini_RX5 hrc hrs hdX5_lands ⟨hfr, hlo⟩) hDi hK hP hNW hS hX (k := 0) (by omega) hF0 rfl rfl hl.1 rfl (Nat.le_of_ble_eq_true rfl) ⟨Nat.le_of_ble_eq_true rfl, Nat.le_of_ble_eq_true rfl⟩ (dk kL_lands_ok 6 rfl) (fun H locs q ce hP hS hq hcv hcl => ?_)
  rcases hE with ⟨rfl, rfl⟩ | ⟨rfl, rfl⟩
  · refine vx_catch (name := "java/lang/IndexOutOfBoundsException") hown [] ⟨0, 12, 15, 13⟩ [⟨0, 12, 19, 15⟩] (by rw [htab]; rfl) ?_ (by decide) (by decide) (hts _ (lc0 _ (List.mem_of_getElem? (i := 0) rfl))) (XWc hX (List.mem_of_getElem? (i := 2) rfl)) hq hcv hcl ?_
    · exact fun z hz => nomatch hz
    · refine lv_astore (lv' := [(5, .ref q), (0, .ref (ad 0)), (1, .int a1), (2, .int a2), (3, .int a3), (4, .ref (ad 85))]) hx hb (dk kL_lands_ok 10 rfl) hl (by decide) rfl (fun ls hl => ?_)
      refine lv_iconst (v := nI 1) hx hb (dk kL_lands_ok 11 rfl) rfl ?_
      exact hret _ _ _ _ _ _ hP hS (by decide) (by decide) (dk kL_lands_ok 12 rfl)
  · refine vx_catch (name := "java/lang/IllegalArgumentException") hown [⟨0, 12, 15, 13⟩] ⟨0, 12, 19, 15⟩ [] (by rw [htab]; rfl) ?_ (by decide) (by decide) (hts _ (lc0 _ (List.mem_of_getElem? (i := 1) rfl))) (XWc hX (List.mem_of_getElem? (i := 1) rfl)) hq hcv hcl ?_
    · intro z hz
      rcases List.mem_singleton.mp hz with rfl
      · exact Or.inr ⟨by decide, "java/lang/IndexOutOfBoundsException", hts _ (lc0 _ (List.mem_of_getElem? (i := 0) rfl)), XNn hXN (List.mem_of_getElem? (i := 4) rfl)⟩
    · refine lv_astore (lv' := [(5, .ref q), (0, .ref (ad 0)), (1, .int a1), (2, .int a2), (3, .int a3), (4, .ref (ad 85))]) hx hb (dk kL_lands_ok 13 rfl) hl (by decide) rfl (fun ls hl => ?_)
      refine lv_iconst (v := nI 2) hx hb (dk kL_lands_ok 14 rfl) rfl ?_
      exact hret _ _ _ _ _ _ hP hS (by decide) (by decide) (dk kL_lands_ok 15 rfl)
set_option maxRecDepth 100000 in
set_option maxHeartbeats 4000000 in
theorem tL_ifFlown (l : Launch) (D : va_G) (cI cQ cL : ClassId) (ad : Nat → Nat) (N : Nat) (F : Nat → va_E) (hN : 85 < N) (fs : List Value) (hF0 : F 0 = .inr (5, fs)) (a1 a2 a3 a4 : Int32) (G : Nat → va_E) (o : Nat → Int64) (hG : G 85 = .inl (cL, 1, .inr (.inl o))) (r : Int32) {rm : Room} (hM : MX l yX5_ifFlown (Cond.code yX5_ifFlown cX5_ifFlown 5 (some .int) :: AW) rm D cI cQ cL ad N F [.ref (ad 0), .int a1, .int a2, .int a3, .int a4] (dp (some (.int r)) G) 0 0) (hrc : rm.cells = 0) (hrs : rm.slots = 0) (hfr : rm.frames + 1 ≤ 12) (hlo : 8 + (5 + 11) + rm.locals ≤ 450) : ML l yL_ifFlown (Cond.codeWith yL_ifFlown cL_ifFlown 7 (some .int) [(0, 14, 17, 13), (0, 14, 21, 15)] :: LW) ({ frames := 12, cells := 1, slots := 6, locals := 450 } : Room) D cI cQ cL ad N F [.ref (ad 0), .int a1, .int a2, .int a3, .int a4, .ref (ad 85)] (nI 0) (va_up G 85 (.inl (cL, 1, .inr (.inl (vp_updL o 0 r.toInt64))))) 1 6 := by
  refine ml_of (by decide +kernel) (Nat.le_of_ble_eq_true rfl) (fun p e s m below meth cd Q ls hx hb hml hown hts htab hDi hP hK hNW hS hX hXN hret hl => ?_)
  have hown : s.vm.findClass RL = some m.cls := hown
  have hl : lv_has ls 7 [(0, .ref (ad 0)), (1, .int a1), (2, .int a2), (3, .int a3), (4, .int a4), (5, .ref (ad 85))] := hl
  refine lv_aload hx hb (dk kL_ifFlown_ok 0 rfl) (lv_at hl 5 rfl) ?_
  refine lv_iconst (v := nI 0) hx hb (dk kL_ifFlown_ok 1 rfl) rfl ?_
  refine lv_aload_n hx hb (dk kL_ifFlown_ok 2 rfl) rfl (lv_at hl 0 rfl) ?_
  refine lv_iload_n hx hb (dk kL_ifFlown_ok 3 rfl) rfl (lv_at hl 1 rfl) ?_
  refine lv_iload_n hx hb (dk kL_ifFlown_ok 4 rfl) rfl (lv_at hl 2 rfl) ?_
  refine lv_iload_n hx hb (dk kL_ifFlown_ok 5 rfl) rfl (lv_at hl 3 rfl) ?_
  refine lv_iload hx hb (dk kL_ifFlown_ok 6 rfl) (lv_at hl 4 rfl) ?_
  refine cvD G (As := [.int a1, .int a2, .int a3, .int a4]) (rest := [.int (nI 0), .ref (ad 85)]) ⟨hx, hb, hml, hown, hts⟩ hM (cwVL 4 hts mcX5_ifFlown (lc0 _ (List.mem_of_getElem? (i := 17) rfl)) miX5_ifFlown meX5_ifFlown mini_RX5 hrc hrs hdX5_ifFlown ⟨hfr, hlo⟩) hDi hK hP hNW hS (k := 0) (by omega) hF0 rfl rfl hl.1 rfl (Nat.le_of_ble_eq_true rfl) ⟨Nat.le_of_ble_eq_true rfl, Nat.le_of_ble_eq_true rfl⟩ (dk kL_ifFlown_ok 7 rfl) rfl (fun H locs hP hS => ?_)
  refine lv_i2l (v := r.toInt64) hx hb (dk kL_ifFlown_ok 8 rfl) rfl ?_
  refine lst _ (k := 85) hx hb hK hDi hP hS hN hG (dk kL_ifFlown_ok 9 rfl) rfl (fun H locs hP hS => ?_)
  refine lv_goto (tgt := 25) hx hb (dk kL_ifFlown_ok 10 rfl) (by decide) ?_
  refine lv_iconst (v := nI 0) hx hb (dk kL_ifFlown_ok 17 rfl) rfl ?_
  exact hret _ _ _ _ _ _ hP hS (by decide) (by decide) (dk kL_ifFlown_ok 18 rfl)
set_option maxRecDepth 100000 in
set_option maxHeartbeats 4000000 in
theorem tL_ifFlown_x (l : Launch) (D : va_G) (cI cQ cL : ClassId) (ad : Nat → Nat) (N : Nat) (F : Nat → va_E) (hN : 85 < N) (fs : List Value) (hF0 : F 0 = .inr (5, fs)) (a1 a2 a3 a4 : Int32) (E : String) (kk : Nat) (hE : (E = eI ∧ kk = 1) ∨ (E = eA ∧ kk = 2)) {rm : Room} (hM : MT l yX5_ifFlown (Cond.code yX5_ifFlown cX5_ifFlown 5 (some .int) :: AW) rm D cI cQ cL ad N F [.ref (ad 0), .int a1, .int a2, .int a3, .int a4] E 1 6) (hrc : rm.cells = 1) (hrs : rm.slots = 6) (hfr : rm.frames + 1 ≤ 12) (hlo : 8 + (5 + 11) + rm.locals ≤ 450) : ML l yL_ifFlown (Cond.codeWith yL_ifFlown cL_ifFlown 7 (some .int) [(0, 14, 17, 13), (0, 14, 21, 15)] :: LW) ({ frames := 12, cells := 1, slots := 6, locals := 450 } : Room) D cI cQ cL ad N F [.ref (ad 0), .int a1, .int a2, .int a3, .int a4, .ref (ad 85)] (nI kk) F 1 6 := by
  refine ml_of (by decide +kernel) (Nat.le_of_ble_eq_true rfl) (fun p e s m below meth cd Q ls hx hb hml hown hts htab hDi hP hK hNW hS hX hXN hret hl => ?_)
  have hown : s.vm.findClass RL = some m.cls := hown
  have hl : lv_has ls 7 [(0, .ref (ad 0)), (1, .int a1), (2, .int a2), (3, .int a3), (4, .int a4), (5, .ref (ad 85))] := hl
  refine lv_aload hx hb (dk kL_ifFlown_ok 0 rfl) (lv_at hl 5 rfl) ?_
  refine lv_iconst (v := nI 0) hx hb (dk kL_ifFlown_ok 1 rfl) rfl ?_
  refine lv_aload_n hx hb (dk kL_ifFlown_ok 2 rfl) rfl (lv_at hl 0 rfl) ?_
  refine lv_iload_n hx hb (dk kL_ifFlown_ok 3 rfl) rfl (lv_at hl 1 rfl) ?_
  refine lv_iload_n hx hb (dk kL_ifFlown_ok 4 rfl) rfl (lv_at hl 2 rfl) ?_
  refine lv_iload_n hx hb (dk kL_ifFlown_ok 5 rfl) rfl (lv_at hl 3 rfl) ?_
  refine lv_iload hx hb (dk kL_ifFlown_ok 6 rfl) (lv_at hl 4 rfl) ?_
  refine cvT (As := [.int a1, .int a2, .int a3, .int a4]) (rest := [.int (nI 0), .ref (ad 85)]) ⟨hx, hb, hml, hown, hts⟩ hM (cwVL 4 hts mcX5_ifFlown (lc0 _ (List.mem_of_getElem? (i := 17) rfl)) miX5_ifFlown meX5_ifFlown mini_RX5 hrc hrs hdX5_ifFlown ⟨hfr, hlo⟩) hDi hK hP hNW hS hX (k := 0) (by omega) hF0 rfl rfl hl.1 rfl (Nat.le_of_ble_eq_true rfl) ⟨Nat.le_of_ble_eq_true rfl, Nat.le_of_ble_eq_true rfl⟩ (dk kL_ifFlown_ok 7 rfl) (fun H locs q ce hP hS hq hcv hcl => ?_)
  rcases hE with ⟨rfl, rfl⟩ | ⟨rfl, rfl⟩
  · refine vx_catch (name := "java/lang/IndexOutOfBoundsException") hown [] ⟨0, 14, 17, 13⟩ [⟨0, 14, 21, 15⟩] (by rw [htab]; rfl) ?_ (by decide) (by decide) (hts _ (lc0 _ (List.mem_of_getElem? (i := 0) rfl))) (XWc hX (List.mem_of_getElem? (i := 2) rfl)) hq hcv hcl ?_
    · exact fun z hz => nomatch hz
    · refine lv_astore (lv' := [(6, .ref q), (0, .ref (ad 0)), (1, .int a1), (2, .int a2), (3, .int a3), (4, .int a4), (5, .ref (ad 85))]) hx hb (dk kL_ifFlown_ok 11 rfl) hl (by decide) rfl (fun ls hl => ?_)
      refine lv_iconst (v := nI 1) hx hb (dk kL_ifFlown_ok 12 rfl) rfl ?_
      exact hret _ _ _ _ _ _ hP hS (by decide) (by decide) (dk kL_ifFlown_ok 13 rfl)
  · refine vx_catch (name := "java/lang/IllegalArgumentException") hown [⟨0, 14, 17, 13⟩] ⟨0, 14, 21, 15⟩ [] (by rw [htab]; rfl) ?_ (by decide) (by decide) (hts _ (lc0 _ (List.mem_of_getElem? (i := 1) rfl))) (XWc hX (List.mem_of_getElem? (i := 1) rfl)) hq hcv hcl ?_
    · intro z hz
      rcases List.mem_singleton.mp hz with rfl
      · exact Or.inr ⟨by decide, "java/lang/IndexOutOfBoundsException", hts _ (lc0 _ (List.mem_of_getElem? (i := 0) rfl)), XNn hXN (List.mem_of_getElem? (i := 4) rfl)⟩
    · refine lv_astore (lv' := [(6, .ref q), (0, .ref (ad 0)), (1, .int a1), (2, .int a2), (3, .int a3), (4, .int a4), (5, .ref (ad 85))]) hx hb (dk kL_ifFlown_ok 14 rfl) hl (by decide) rfl (fun ls hl => ?_)
      refine lv_iconst (v := nI 2) hx hb (dk kL_ifFlown_ok 15 rfl) rfl ?_
      exact hret _ _ _ _ _ _ hP hS (by decide) (by decide) (dk kL_ifFlown_ok 16 rfl)
set_option maxRecDepth 100000 in
set_option maxHeartbeats 4000000 in
theorem tL_flightsTo (l : Launch) (D : va_G) (cI cQ cL : ClassId) (ad : Nat → Nat) (N : Nat) (F : Nat → va_E) (hN : 85 < N) (fs : List Value) (hF0 : F 0 = .inr (5, fs)) (a1 : Int32) (G : Nat → va_E) (o : Nat → Int64) (hG : G 85 = .inl (cL, 1, .inr (.inl o))) (r : Int32) {rm : Room} (hM : MX l yX5_flightsTo (Cond.code yX5_flightsTo cX5_flightsTo 2 (some .int) :: AW) rm D cI cQ cL ad N F [.ref (ad 0), .int a1] (dp (some (.int r)) G) 0 0) (hrc : rm.cells = 0) (hrs : rm.slots = 0) (hfr : rm.frames + 1 ≤ 12) (hlo : 8 + (2 + 11) + rm.locals ≤ 450) : ML l yL_flightsTo (Cond.codeWith yL_flightsTo cL_flightsTo 4 (some .int) [(0, 9, 12, 13)] :: LW) ({ frames := 12, cells := 1, slots := 6, locals := 450 } : Room) D cI cQ cL ad N F [.ref (ad 0), .int a1, .ref (ad 85)] (nI 0) (va_up G 85 (.inl (cL, 1, .inr (.inl (vp_updL o 0 r.toInt64))))) 1 6 := by
  refine ml_of (by decide +kernel) (Nat.le_of_ble_eq_true rfl) (fun p e s m below meth cd Q ls hx hb hml hown hts htab hDi hP hK hNW hS hX hXN hret hl => ?_)
  have hown : s.vm.findClass RL = some m.cls := hown
  have hl : lv_has ls 4 [(0, .ref (ad 0)), (1, .int a1), (2, .ref (ad 85))] := hl
  refine lv_aload_n hx hb (dk kL_flightsTo_ok 0 rfl) rfl (lv_at hl 2 rfl) ?_
  refine lv_iconst (v := nI 0) hx hb (dk kL_flightsTo_ok 1 rfl) rfl ?_
  refine lv_aload_n hx hb (dk kL_flightsTo_ok 2 rfl) rfl (lv_at hl 0 rfl) ?_
  refine lv_iload_n hx hb (dk kL_flightsTo_ok 3 rfl) rfl (lv_at hl 1 rfl) ?_
  refine cvD G (As := [.int a1]) (rest := [.int (nI 0), .ref (ad 85)]) ⟨hx, hb, hml, hown, hts⟩ hM (cwVL 1 hts mcX5_flightsTo (lc0 _ (List.mem_of_getElem? (i := 18) rfl)) miX5_flightsTo meX5_flightsTo mini_RX5 hrc hrs hdX5_flightsTo ⟨hfr, hlo⟩) hDi hK hP hNW hS (k := 0) (by omega) hF0 rfl rfl hl.1 rfl (Nat.le_of_ble_eq_true rfl) ⟨Nat.le_of_ble_eq_true rfl, Nat.le_of_ble_eq_true rfl⟩ (dk kL_flightsTo_ok 4 rfl) rfl (fun H locs hP hS => ?_)
  refine lv_i2l (v := r.toInt64) hx hb (dk kL_flightsTo_ok 5 rfl) rfl ?_
  refine lst _ (k := 85) hx hb hK hDi hP hS hN hG (dk kL_flightsTo_ok 6 rfl) rfl (fun H locs hP hS => ?_)
  refine lv_goto (tgt := 15) hx hb (dk kL_flightsTo_ok 7 rfl) (by decide) ?_
  refine lv_iconst (v := nI 0) hx hb (dk kL_flightsTo_ok 11 rfl) rfl ?_
  exact hret _ _ _ _ _ _ hP hS (by decide) (by decide) (dk kL_flightsTo_ok 12 rfl)
set_option maxRecDepth 100000 in
set_option maxHeartbeats 4000000 in
theorem tL_flightsTo_x (l : Launch) (D : va_G) (cI cQ cL : ClassId) (ad : Nat → Nat) (N : Nat) (F : Nat → va_E) (hN : 85 < N) (fs : List Value) (hF0 : F 0 = .inr (5, fs)) (a1 : Int32) (E : String) (kk : Nat) (hE : (E = eI ∧ kk = 1)) {rm : Room} (hM : MT l yX5_flightsTo (Cond.code yX5_flightsTo cX5_flightsTo 2 (some .int) :: AW) rm D cI cQ cL ad N F [.ref (ad 0), .int a1] E 1 6) (hrc : rm.cells = 1) (hrs : rm.slots = 6) (hfr : rm.frames + 1 ≤ 12) (hlo : 8 + (2 + 11) + rm.locals ≤ 450) : ML l yL_flightsTo (Cond.codeWith yL_flightsTo cL_flightsTo 4 (some .int) [(0, 9, 12, 13)] :: LW) ({ frames := 12, cells := 1, slots := 6, locals := 450 } : Room) D cI cQ cL ad N F [.ref (ad 0), .int a1, .ref (ad 85)] (nI kk) F 1 6 := by
  refine ml_of (by decide +kernel) (Nat.le_of_ble_eq_true rfl) (fun p e s m below meth cd Q ls hx hb hml hown hts htab hDi hP hK hNW hS hX hXN hret hl => ?_)
  have hown : s.vm.findClass RL = some m.cls := hown
  have hl : lv_has ls 4 [(0, .ref (ad 0)), (1, .int a1), (2, .ref (ad 85))] := hl
  refine lv_aload_n hx hb (dk kL_flightsTo_ok 0 rfl) rfl (lv_at hl 2 rfl) ?_
  refine lv_iconst (v := nI 0) hx hb (dk kL_flightsTo_ok 1 rfl) rfl ?_
  refine lv_aload_n hx hb (dk kL_flightsTo_ok 2 rfl) rfl (lv_at hl 0 rfl) ?_
  refine lv_iload_n hx hb (dk kL_flightsTo_ok 3 rfl) rfl (lv_at hl 1 rfl) ?_
  refine cvT (As := [.int a1]) (rest := [.int (nI 0), .ref (ad 85)]) ⟨hx, hb, hml, hown, hts⟩ hM (cwVL 1 hts mcX5_flightsTo (lc0 _ (List.mem_of_getElem? (i := 18) rfl)) miX5_flightsTo meX5_flightsTo mini_RX5 hrc hrs hdX5_flightsTo ⟨hfr, hlo⟩) hDi hK hP hNW hS hX (k := 0) (by omega) hF0 rfl rfl hl.1 rfl (Nat.le_of_ble_eq_true rfl) ⟨Nat.le_of_ble_eq_true rfl, Nat.le_of_ble_eq_true rfl⟩ (dk kL_flightsTo_ok 4 rfl) (fun H locs q ce hP hS hq hcv hcl => ?_)
  rcases hE with ⟨rfl, rfl⟩
  · refine vx_catch (name := "java/lang/IndexOutOfBoundsException") hown [] ⟨0, 9, 12, 13⟩ [] (by rw [htab]; rfl) ?_ (by decide) (by decide) (hts _ (lc0 _ (List.mem_of_getElem? (i := 0) rfl))) (XWc hX (List.mem_of_getElem? (i := 2) rfl)) hq hcv hcl ?_
    · exact fun z hz => nomatch hz
    · refine lv_astore_n (lv' := [(3, .ref q), (0, .ref (ad 0)), (1, .int a1), (2, .ref (ad 85))]) hx hb (dk kL_flightsTo_ok 8 rfl) rfl hl (by decide) rfl (fun ls hl => ?_)
      refine lv_iconst (v := nI 1) hx hb (dk kL_flightsTo_ok 9 rfl) rfl ?_
      exact hret _ _ _ _ _ _ hP hS (by decide) (by decide) (dk kL_flightsTo_ok 10 rfl)
end
/-! from lawdefs -/
section
/-! the law's cases: what a call owes, and what the walk of its case gives -/
abbrev RML : Room := { frames := 12, cells := 1, slots := 6, locals := 450 }
/-- the reference stands at its place, with this word of the latest throw -/
def RT (cI : ClassId) (ad : Nat → Nat) (G : Nat → va_E) (th : Int32) : Prop := ∃ (r ps sl sd ne fa bu : Nat → Int32) (hs : Bool) (st ln pt : Nat), rfAt cI ad G 77 r ps sl sd ne fa bu hs st ln pt th
/-- a call that may throw -/
def STw (l : Launch) (D : va_G) (cI cQ cL : ClassId) (ad : Nat → Nat) (N : Nat) (yL : MethodName) (bL : ByteArray) (mL : Nat) (hh : List (Nat × Nat × Nat × Nat)) (y6 : MethodName) (b6 : ByteArray) (m6 : Nat) (F : Nat → va_E) (INV : (Nat → va_E) → Prop) (As : List Value) : Prop :=
  ∃ (kk : Nat) (b : Int32) (F1 : Nat → va_E) (o : Nat → Int64) (fs : List Value) (post : Option Value → (Nat → va_E) → Prop) (rm6 : Room), kk < 8 ∧ F1 85 = .inl (cL, 1, .inr (.inl o)) ∧ (kk = 0 → o 0 = b.toInt64) ∧ ML l yL (Cond.codeWith yL bL mL (some .int) hh :: LW) RML D cI cQ cL ad N F (.ref (ad 0) :: (As ++ [.ref (ad 85)])) (nI kk) F1 1 6 ∧ F1 77 = .inr (6, fs) ∧ MX l y6 (Cond.code y6 b6 m6 (some .int) :: AW) rm6 D cI cQ cL ad N F1 (.ref (ad 77) :: As) post 0 0 ∧ rm6.cells = 0 ∧ rm6.slots = 0 ∧ rm6.frames + 1 ≤ 13 ∧ 8 + (m6 + 11) + rm6.locals ≤ 476 ∧ ∀ v G, post v G → v = some (.int b) ∧ INV G ∧ G 85 = F1 85 ∧ RT cI ad G (nI kk)
/-- a call that doesn't -/
def STs (l : Launch) (D : va_G) (cI cQ cL : ClassId) (ad : Nat → Nat) (N : Nat) (y5 : MethodName) (b5 : ByteArray) (m5 : Nat) (y6 : MethodName) (b6 : ByteArray) (m6 : Nat) (ty : FieldType) (ok : Value → Prop) (F : Nat → va_E) (INV : (Nat → va_E) → Prop) : Prop :=
  ∃ (b : Value) (F1 : Nat → va_E) (f5 f6 : List Value) (post : Option Value → (Nat → va_E) → Prop) (rm5 rm6 : Room), ok b ∧ F 0 = .inr (5, f5) ∧ MX l y5 (Cond.code y5 b5 m5 (some ty) :: AW) rm5 D cI cQ cL ad N F [.ref (ad 0)] (dp (some b) F1) 0 0 ∧ rm5.cells = 0 ∧ rm5.slots = 0 ∧ rm5.frames + 1 ≤ 13 ∧ 8 + (m5 + 11) + rm5.locals ≤ 476 ∧ F1 77 = .inr (6, f6) ∧ MX l y6 (Cond.code y6 b6 m6 (some ty) :: AW) rm6 D cI cQ cL ad N F1 [.ref (ad 77)] post 0 0 ∧ rm6.cells = 0 ∧ rm6.slots = 0 ∧ rm6.frames + 1 ≤ 13 ∧ 8 + (m6 + 11) + rm6.locals ≤ 476 ∧ ∀ v G, post v G → v = some b ∧ INV G
/-- a call that may throw, not compared -/
def STw0 (l : Launch) (D : va_G) (cI cQ cL : ClassId) (ad : Nat → Nat) (N : Nat) (yL : MethodName) (bL : ByteArray) (mL : Nat) (hh : List (Nat × Nat × Nat × Nat)) (y6 : MethodName) (b6 : ByteArray) (m6 : Nat) (F : Nat → va_E) (INV : (Nat → va_E) → Prop) (As : List Value) : Prop :=
  ∃ (kk : Nat) (F1 : Nat → va_E) (fs : List Value) (post : Option Value → (Nat → va_E) → Prop) (rm6 : Room), ML l yL (Cond.codeWith yL bL mL (some .int) hh :: LW) RML D cI cQ cL ad N F (.ref (ad 0) :: (As ++ [.ref (ad 85)])) (nI kk) F1 1 6 ∧ F1 77 = .inr (6, fs) ∧ MX l y6 (Cond.code y6 b6 m6 (some .int) :: AW) rm6 D cI cQ cL ad N F1 (.ref (ad 77) :: As) post 0 0 ∧ rm6.cells = 0 ∧ rm6.slots = 0 ∧ rm6.frames + 1 ≤ 13 ∧ 8 + (m6 + 11) + rm6.locals ≤ 476 ∧ ∀ v G, post v G → (∃ b : Int32, v = some (.int b)) ∧ INV G
/-- the same, where the class's own world isn't told in full -/
def STwE (l : Launch) (D : va_G) (cI cQ cL : ClassId) (ad : Nat → Nat) (N : Nat) (yL : MethodName) (bL : ByteArray) (mL : Nat) (hh : List (Nat × Nat × Nat × Nat)) (y6 : MethodName) (b6 : ByteArray) (m6 : Nat) (F : Nat → va_E) (INV : (Nat → va_E) → Prop) (As : List Value) : Prop :=
  ∃ (kk : Nat) (PG : (Nat → va_E) → Prop), MLE l yL (Cond.codeWith yL bL mL (some .int) hh :: LW) RML D cI cQ cL ad N F (.ref (ad 0) :: (As ++ [.ref (ad 85)])) (nI kk) PG 1 6 ∧ ∀ F1, PG F1 → ∃ (b : Int32) (o : Nat → Int64) (fs : List Value) (post : Option Value → (Nat → va_E) → Prop) (rm6 : Room), kk < 8 ∧ F1 85 = .inl (cL, 1, .inr (.inl o)) ∧ (kk = 0 → o 0 = b.toInt64) ∧ F1 77 = .inr (6, fs) ∧ MX l y6 (Cond.code y6 b6 m6 (some .int) :: AW) rm6 D cI cQ cL ad N F1 (.ref (ad 77) :: As) post 0 0 ∧ rm6.cells = 0 ∧ rm6.slots = 0 ∧ rm6.frames + 1 ≤ 13 ∧ 8 + (m6 + 11) + rm6.locals ≤ 476 ∧ ∀ v G, post v G → v = some (.int b) ∧ INV G ∧ G 85 = F1 85 ∧ RT cI ad G (nI kk)
def STw0E (l : Launch) (D : va_G) (cI cQ cL : ClassId) (ad : Nat → Nat) (N : Nat) (yL : MethodName) (bL : ByteArray) (mL : Nat) (hh : List (Nat × Nat × Nat × Nat)) (y6 : MethodName) (b6 : ByteArray) (m6 : Nat) (F : Nat → va_E) (INV : (Nat → va_E) → Prop) (As : List Value) : Prop :=
  ∃ (kk : Nat) (PG : (Nat → va_E) → Prop), MLE l yL (Cond.codeWith yL bL mL (some .int) hh :: LW) RML D cI cQ cL ad N F (.ref (ad 0) :: (As ++ [.ref (ad 85)])) (nI kk) PG 1 6 ∧ ∀ F1, PG F1 → ∃ (fs : List Value) (post : Option Value → (Nat → va_E) → Prop) (rm6 : Room), F1 77 = .inr (6, fs) ∧ MX l y6 (Cond.code y6 b6 m6 (some .int) :: AW) rm6 D cI cQ cL ad N F1 (.ref (ad 77) :: As) post 0 0 ∧ rm6.cells = 0 ∧ rm6.slots = 0 ∧ rm6.frames + 1 ≤ 13 ∧ 8 + (m6 + 11) + rm6.locals ≤ 476 ∧ ∀ v G, post v G → (∃ b : Int32, v = some (.int b)) ∧ INV G
/-- a call that doesn't throw, not compared -/
def STs0 (l : Launch) (D : va_G) (cI cQ cL : ClassId) (ad : Nat → Nat) (N : Nat) (y5 : MethodName) (b5 : ByteArray) (m5 : Nat) (y6 : MethodName) (b6 : ByteArray) (m6 : Nat) (ty : FieldType) (ok : Value → Prop) (F : Nat → va_E) (INV : (Nat → va_E) → Prop) : Prop :=
  ∃ (b : Value) (F1 : Nat → va_E) (f5 f6 : List Value) (post : Option Value → (Nat → va_E) → Prop) (rm5 rm6 : Room), ok b ∧ F 0 = .inr (5, f5) ∧ MX l y5 (Cond.code y5 b5 m5 (some ty) :: AW) rm5 D cI cQ cL ad N F [.ref (ad 0)] (dp (some b) F1) 0 0 ∧ rm5.cells = 0 ∧ rm5.slots = 0 ∧ rm5.frames + 1 ≤ 13 ∧ 8 + (m5 + 11) + rm5.locals ≤ 476 ∧ F1 77 = .inr (6, f6) ∧ MX l y6 (Cond.code y6 b6 m6 (some ty) :: AW) rm6 D cI cQ cL ad N F1 [.ref (ad 77)] post 0 0 ∧ rm6.cells = 0 ∧ rm6.slots = 0 ∧ rm6.frames + 1 ≤ 13 ∧ 8 + (m6 + 11) + rm6.locals ≤ 476 ∧ ∀ v G, post v G → (∃ b2, ok b2 ∧ v = some b2) ∧ INV G
def okI (v : Value) : Prop := ∃ x : Int32, v = .int x
def okL (v : Value) : Prop := ∃ x : Int64, v = .long x
def okD (v : Value) : Prop := ∃ x : UInt64, v = .double x ∧ Op.cmpValue (FP.dcmp x x) .l = 0
def okF (v : Value) : Prop := ∃ x : UInt32, v = .float x ∧ vf_n64 (FP.f2d x) ∧ Op.cmpValue (FP.dcmp (FP.f2d x) (FP.f2d x)) .l = 0
/-- what holds in the law's body all along -/
def LX (p : Program) (s : State) (m : MethodId) (c : Code) (b L : Nat) (xs : Nat → Int32) (D : va_G) (cI cQ cL : ClassId) : Prop :=
  p.tables.exec = Jvm.exec ∧ c.code = cL_law ∧ c.maxLocals = 9 ∧ s.vm.findClass RL = some m.cls ∧ (∀ w ∈ LW, w.before #[Value.ref b] s = true) ∧ va_K D vwCl (iT cI cQ cL) s ∧ NW s ∧ XW (pb s.heap.size) 86 s.heap.size s ∧ XN s ∧ va_X b L xs s s.heap ∧ b < s.heap.size ∧ L < 2 ^ 30
/-- the law's own places -/
abbrev lvL (b b0 i : Nat) : List (Nat × Value) := [(0, .ref b), (1, .ref (pb b0 0)), (2, .ref (pb b0 77)), (3, .ref (pb b0 85)), (4, .int (nI i))]
theorem lg_self (x : Int64) : lg_cmp x x = 0 := by simp [lg_cmp]
section LAWR
variable {p : Program} {l : Launch} {e : Env} {R : Room} {s : State} {m : MethodId} {below : List Frame} {meth : Method} {c : Code} {H : Heap} {locs : List Loc} {cells slots : Nat} {Q : State → Prop}
variable {cc : ByteArray} {pc : Nat} {ls : Array Slot} {rest : List Value} {N : Nat}
theorem sld {b L : Nat} {xs : Nat → Int32} (hx : p.tables.exec = Jvm.exec) (hb : c.code = cc) (hX : va_X b L xs s s.heap) (hbl : b < s.heap.size) (hL : L < 2 ^ 30) (hS : va_S (iA (pb s.heap.size) N s.heap.size) s.heap H locs) (j : Nat) {x : Int32} (hxj : x = nI j) (hj : j < L) (hdg : decode cc pc = .ok (.iaload, 1))
    (kk : W p l e R s m #[Value.ref b] below meth c H locs cells slots Q (F0 m (pc + 1) ls (.int (xs j) :: rest))) : W p l e R s m #[Value.ref b] below meth c H locs cells slots Q (F0 m pc ls (.int x :: .ref b :: rest)) := by
  subst hxj
  have hA : ¬ iA (pb s.heap.size) N s.heap.size b := by
    rintro (⟨k, -, h⟩ | h)
    · have h : b = s.heap.size + k := h
      omega
    · omega
  refine va_sld hx hb hX hbl hA hS (vp_in_nI hj (by omega)) hdg ?_
  rw [nI_clamp (by omega)]
  exact kk
theorem sln {b L : Nat} {xs : Nat → Int32} (hx : p.tables.exec = Jvm.exec) (hb : c.code = cc) (hX : va_X b L xs s s.heap) (hbl : b < s.heap.size) (hS : va_S (iA (pb s.heap.size) N s.heap.size) s.heap H locs) (hdg : decode cc pc = .ok (.arraylength, 1))
    (kk : W p l e R s m #[Value.ref b] below meth c H locs cells slots Q (F0 m (pc + 1) ls (.int (nI L) :: rest))) : W p l e R s m #[Value.ref b] below meth c H locs cells slots Q (F0 m pc ls (.ref b :: rest)) := by
  have hA : ¬ iA (pb s.heap.size) N s.heap.size b := by
    rintro (⟨k, -, h⟩ | h)
    · have h : b = s.heap.size + k := h
      omega
    · omega
  exact va_slen hx hb hX hbl hA hS hdg kk
end LAWR
end
/-! from lawcases -/
section
set_option maxRecDepth 100000 in
set_option maxHeartbeats 4000000 in
theorem lw_fly {p : Program} {l : Launch} {e : Env} {s : State} {m : MethodId} {below : List Frame} {meth : Method} {c : Code} {H : Heap} {locs : List Loc} {cells slots : Nat} {Q : State → Prop} {ls : Array Slot} {D : va_G} {cI cQ cL : ClassId} {F : Nat → va_E} {b L i : Nat} {xs : Nat → Int32} {INV : (Nat → va_E) → Prop} (hC : LX p s m c b L xs D cI cQ cL) (hi : i + 5 ≤ L) (hP : va_P D vwCl (iW (pb s.heap.size) 86 F) H) (hS : va_S (iA (pb s.heap.size) 86 s.heap.size) s.heap H locs) (hcell : cells + 1 ≤ 601024) (hslot : slots + 6 ≤ 7293034) (hl : lv_has ls 9 (lvL b s.heap.size i)) (ST : STw0 l D cI cQ cL (pb s.heap.size) 86 yL_fly cL_fly 6 [(0, 12, 15, 13), (0, 12, 19, 15), (0, 12, 23, 17)] yX6_fly cX6_fly 4 F INV [.int (xs (i + 1)), .int (xs (i + 2)), .int (xs (i + 3))]) (kend : ∀ (G : Nat → va_E) (H1 : Heap) (locs1 : List Loc) (ls1 : Array Slot), INV G → va_P D vwCl (iW (pb s.heap.size) 86 G) H1 → va_S (iA (pb s.heap.size) 86 s.heap.size) s.heap H1 locs1 → lv_has ls1 9 (lvL b s.heap.size i) → W p l e room_1 s m #[Value.ref b] below meth c H1 locs1 (cells + 1) (slots + 6) Q (F0 m 907 ls1 [])) : W p l e room_1 s m #[Value.ref b] below meth c H locs cells slots Q (F0 m 144 ls []) := by
  obtain ⟨hx, hb, hml, hown, hts, hK, hNW, hX, hXN, hXs, hbl, hL30⟩ := hC
  have hDi : iD (pb s.heap.size) 86 := pb_D
  obtain ⟨kk, F1, fs, post, rm6, hML, h77, hM6, e1, e2, e3, e4, hq⟩ := ST
  refine lv_aload_n hx hb (dk kL_law_0_ok 25 rfl) rfl (lv_at hl 1 rfl) ?_
  refine lv_aload_n hx hb (dk kL_law_0_ok 26 rfl) rfl (lv_at hl 0 rfl) ?_
  refine lv_iload hx hb (dk kL_law_0_ok 27 rfl) (lv_at hl 4 rfl) ?_
  refine lv_iconst (v := nI 1) hx hb (dk kL_law_0_ok 28 rfl) rfl ?_
  refine n_iadd hx hb (dk kL_law_0_ok 29 rfl) ?_
  refine sld hx hb hXs hbl hL30 hS (i + 1) rfl (by omega) (dk kL_law_0_ok 30 rfl) ?_
  refine lv_aload_n hx hb (dk kL_law_0_ok 31 rfl) rfl (lv_at hl 0 rfl) ?_
  refine lv_iload hx hb (dk kL_law_0_ok 32 rfl) (lv_at hl 4 rfl) ?_
  refine lv_iconst (v := nI 2) hx hb (dk kL_law_0_ok 33 rfl) rfl ?_
  refine n_iadd hx hb (dk kL_law_0_ok 34 rfl) ?_
  refine sld hx hb hXs hbl hL30 hS (i + 2) rfl (by omega) (dk kL_law_0_ok 35 rfl) ?_
  refine lv_aload_n hx hb (dk kL_law_0_ok 36 rfl) rfl (lv_at hl 0 rfl) ?_
  refine lv_iload hx hb (dk kL_law_0_ok 37 rfl) (lv_at hl 4 rfl) ?_
  refine lv_iconst (v := nI 3) hx hb (dk kL_law_0_ok 38 rfl) rfl ?_
  refine n_iadd hx hb (dk kL_law_0_ok 39 rfl) ?_
  refine sld hx hb hXs hbl hL30 hS (i + 3) rfl (by omega) (dk kL_law_0_ok 40 rfl) ?_
  refine lv_aload_n hx hb (dk kL_law_0_ok 41 rfl) rfl (lv_at hl 3 rfl) ?_
  refine csL (As := [.ref (pb s.heap.size 0), .int (xs (i + 1)), .int (xs (i + 2)), .int (xs (i + 3)), .ref (pb s.heap.size 85)]) (rest := []) ⟨hx, hb, hml, hown, hts⟩ hML (vx_cwSW 5 hts (gInLS (lc0 _ (List.mem_of_getElem? (i := 23) rfl)) msL_fly mini_RL mcL_fly) rfl rfl rfl hdL_fly ⟨Nat.le_of_ble_eq_true rfl, Nat.le_of_ble_eq_true rfl⟩) hDi hK hP hNW hS hX hXN rfl hl.1 rfl (Nat.le_of_ble_eq_true rfl) ⟨hcell, hslot⟩ (dk kL_law_0_ok 42 rfl) (fun H locs hP hS => ?_)
  refine lv_istore (lv' := [(5, .int (nI kk)), (0, .ref b), (1, .ref (pb s.heap.size 0)), (2, .ref (pb s.heap.size 77)), (3, .ref (pb s.heap.size 85)), (4, .int (nI i))]) hx hb (dk kL_law_0_ok 43 rfl) hl (by decide) rfl (fun ls hl => ?_)
  refine lv_aload_n hx hb (dk kL_law_0_ok 44 rfl) rfl (lv_at hl 3 rfl) ?_
  refine lv_aload_n hx hb (dk kL_law_0_ok 45 rfl) rfl (lv_at hl 1 rfl) ?_
  refine lv_iload hx hb (dk kL_law_0_ok 46 rfl) (lv_at hl 5 rfl) ?_
  refine lv_iconst (v := nI 1) hx hb (dk kL_law_0_ok 47 rfl) rfl ?_
  refine n_iadd hx hb (dk kL_law_0_ok 48 rfl) ?_
  refine sld hx hb hXs hbl hL30 hS (i + 1) rfl (by omega) (dk kL_law_0_ok 49 rfl) ?_
  refine lv_aload_n hx hb (dk kL_law_0_ok 50 rfl) rfl (lv_at hl 1 rfl) ?_
  refine lv_iload hx hb (dk kL_law_0_ok 51 rfl) (lv_at hl 5 rfl) ?_
  refine lv_iconst (v := nI 2) hx hb (dk kL_law_0_ok 52 rfl) rfl ?_
  refine n_iadd hx hb (dk kL_law_0_ok 53 rfl) ?_
  refine sld hx hb hXs hbl hL30 hS (i + 2) rfl (by omega) (dk kL_law_0_ok 54 rfl) ?_
  refine lv_aload_n hx hb (dk kL_law_0_ok 55 rfl) rfl (lv_at hl 1 rfl) ?_
  refine lv_iload hx hb (dk kL_law_0_ok 56 rfl) (lv_at hl 5 rfl) ?_
  refine lv_iconst (v := nI 3) hx hb (dk kL_law_0_ok 57 rfl) rfl ?_
  refine n_iadd hx hb (dk kL_law_0_ok 58 rfl) ?_
  refine sld hx hb hXs hbl hL30 hS (i + 3) rfl (by omega) (dk kL_law_0_ok 59 rfl) ?_
  refine cvW (As := [.int (xs (i + 1)), .int (xs (i + 2)), .int (xs (i + 3))]) (rest := []) ⟨hx, hb, hml, hown, hts⟩ hM6 (cwVL 3 hts mcX6_fly (lc1 _ (List.mem_of_getElem? (i := 3) rfl)) miX6_fly meX6_fly mini_RX6 e1 e2 hdX6_fly ⟨e3, e4⟩) hDi hK hP hNW hS (k := 77) (by decide) h77 rfl rfl hl.1 rfl (Nat.le_of_ble_eq_true rfl) ⟨hcell, hslot⟩ (dk kL_law_1_ok 0 rfl) (fun v G H locs hp hP hS => ?_)
  obtain ⟨⟨b9, rfl⟩, hINV⟩ := hq v G hp
  refine W.eq (g2 := F0 m 191 ls [.int b9]) rfl ?_
  refine lv_istore (lv' := [(6, .int b9), (5, .int (nI kk)), (0, .ref b), (1, .ref (pb s.heap.size 0)), (2, .ref (pb s.heap.size 77)), (3, .ref (pb s.heap.size 85)), (4, .int (nI i))]) hx hb (dk kL_law_1_ok 1 rfl) hl (by decide) rfl (fun ls hl => ?_)
  exact lv_goto (tgt := 907) hx hb (dk kL_law_1_ok 2 rfl) (by decide) (kend G H locs ls hINV hP hS (lv_sub hl [2, 3, 4, 5, 6] rfl))
set_option maxRecDepth 100000 in
set_option maxHeartbeats 4000000 in
theorem lw_lift {p : Program} {l : Launch} {e : Env} {s : State} {m : MethodId} {below : List Frame} {meth : Method} {c : Code} {H : Heap} {locs : List Loc} {cells slots : Nat} {Q : State → Prop} {ls : Array Slot} {D : va_G} {cI cQ cL : ClassId} {F : Nat → va_E} {b L i : Nat} {xs : Nat → Int32} {INV : (Nat → va_E) → Prop} (hC : LX p s m c b L xs D cI cQ cL) (hi : i + 5 ≤ L) (hP : va_P D vwCl (iW (pb s.heap.size) 86 F) H) (hS : va_S (iA (pb s.heap.size) 86 s.heap.size) s.heap H locs) (hcell : cells + 1 ≤ 601024) (hslot : slots + 6 ≤ 7293034) (hl : lv_has ls 9 (lvL b s.heap.size i)) (ST : STw0 l D cI cQ cL (pb s.heap.size) 86 yL_lift cL_lift 7 [(0, 14, 17, 13), (0, 14, 21, 15), (0, 14, 25, 17)] yX6_lift cX6_lift 5 F INV [.int (xs (i + 1)), .int (xs (i + 2)), .int (xs (i + 3)), .int (xs (i + 4))]) (kend : ∀ (G : Nat → va_E) (H1 : Heap) (locs1 : List Loc) (ls1 : Array Slot), INV G → va_P D vwCl (iW (pb s.heap.size) 86 G) H1 → va_S (iA (pb s.heap.size) 86 s.heap.size) s.heap H1 locs1 → lv_has ls1 9 (lvL b s.heap.size i) → W p l e room_1 s m #[Value.ref b] below meth c H1 locs1 (cells + 1) (slots + 6) Q (F0 m 907 ls1 [])) : W p l e room_1 s m #[Value.ref b] below meth c H locs cells slots Q (F0 m 196 ls []) := by
  obtain ⟨hx, hb, hml, hown, hts, hK, hNW, hX, hXN, hXs, hbl, hL30⟩ := hC
  have hDi : iD (pb s.heap.size) 86 := pb_D
  obtain ⟨kk, F1, fs, post, rm6, hML, h77, hM6, e1, e2, e3, e4, hq⟩ := ST
  refine lv_aload_n hx hb (dk kL_law_1_ok 3 rfl) rfl (lv_at hl 1 rfl) ?_
  refine lv_aload_n hx hb (dk kL_law_1_ok 4 rfl) rfl (lv_at hl 0 rfl) ?_
  refine lv_iload hx hb (dk kL_law_1_ok 5 rfl) (lv_at hl 4 rfl) ?_
  refine lv_iconst (v := nI 1) hx hb (dk kL_law_1_ok 6 rfl) rfl ?_
  refine n_iadd hx hb (dk kL_law_1_ok 7 rfl) ?_
  refine sld hx hb hXs hbl hL30 hS (i + 1) rfl (by omega) (dk kL_law_1_ok 8 rfl) ?_
  refine lv_aload_n hx hb (dk kL_law_1_ok 9 rfl) rfl (lv_at hl 0 rfl) ?_
  refine lv_iload hx hb (dk kL_law_1_ok 10 rfl) (lv_at hl 4 rfl) ?_
  refine lv_iconst (v := nI 2) hx hb (dk kL_law_1_ok 11 rfl) rfl ?_
  refine n_iadd hx hb (dk kL_law_1_ok 12 rfl) ?_
  refine sld hx hb hXs hbl hL30 hS (i + 2) rfl (by omega) (dk kL_law_1_ok 13 rfl) ?_
  refine lv_aload_n hx hb (dk kL_law_1_ok 14 rfl) rfl (lv_at hl 0 rfl) ?_
  refine lv_iload hx hb (dk kL_law_1_ok 15 rfl) (lv_at hl 4 rfl) ?_
  refine lv_iconst (v := nI 3) hx hb (dk kL_law_1_ok 16 rfl) rfl ?_
  refine n_iadd hx hb (dk kL_law_1_ok 17 rfl) ?_
  refine sld hx hb hXs hbl hL30 hS (i + 3) rfl (by omega) (dk kL_law_1_ok 18 rfl) ?_
  refine lv_aload_n hx hb (dk kL_law_1_ok 19 rfl) rfl (lv_at hl 0 rfl) ?_
  refine lv_iload hx hb (dk kL_law_1_ok 20 rfl) (lv_at hl 4 rfl) ?_
  refine lv_iconst (v := nI 4) hx hb (dk kL_law_1_ok 21 rfl) rfl ?_
  refine n_iadd hx hb (dk kL_law_1_ok 22 rfl) ?_
  refine sld hx hb hXs hbl hL30 hS (i + 4) rfl (by omega) (dk kL_law_1_ok 23 rfl) ?_
  refine lv_aload_n hx hb (dk kL_law_1_ok 24 rfl) rfl (lv_at hl 3 rfl) ?_
  refine csL (As := [.ref (pb s.heap.size 0), .int (xs (i + 1)), .int (xs (i + 2)), .int (xs (i + 3)), .int (xs (i + 4)), .ref (pb s.heap.size 85)]) (rest := []) ⟨hx, hb, hml, hown, hts⟩ hML (vx_cwSW 6 hts (gInLS (lc1 _ (List.mem_of_getElem? (i := 4) rfl)) msL_lift mini_RL mcL_lift) rfl rfl rfl hdL_lift ⟨Nat.le_of_ble_eq_true rfl, Nat.le_of_ble_eq_true rfl⟩) hDi hK hP hNW hS hX hXN rfl hl.1 rfl (Nat.le_of_ble_eq_true rfl) ⟨hcell, hslot⟩ (dk kL_law_1_ok 25 rfl) (fun H locs hP hS => ?_)
  refine lv_istore (lv' := [(5, .int (nI kk)), (0, .ref b), (1, .ref (pb s.heap.size 0)), (2, .ref (pb s.heap.size 77)), (3, .ref (pb s.heap.size 85)), (4, .int (nI i))]) hx hb (dk kL_law_1_ok 26 rfl) hl (by decide) rfl (fun ls hl => ?_)
  refine lv_aload_n hx hb (dk kL_law_1_ok 27 rfl) rfl (lv_at hl 3 rfl) ?_
  refine lv_aload_n hx hb (dk kL_law_1_ok 28 rfl) rfl (lv_at hl 1 rfl) ?_
  refine lv_iload hx hb (dk kL_law_1_ok 29 rfl) (lv_at hl 5 rfl) ?_
  refine lv_iconst (v := nI 1) hx hb (dk kL_law_1_ok 30 rfl) rfl ?_
  refine n_iadd hx hb (dk kL_law_1_ok 31 rfl) ?_
  refine sld hx hb hXs hbl hL30 hS (i + 1) rfl (by omega) (dk kL_law_1_ok 32 rfl) ?_
  refine lv_aload_n hx hb (dk kL_law_1_ok 33 rfl) rfl (lv_at hl 1 rfl) ?_
  refine lv_iload hx hb (dk kL_law_1_ok 34 rfl) (lv_at hl 5 rfl) ?_
  refine lv_iconst (v := nI 2) hx hb (dk kL_law_1_ok 35 rfl) rfl ?_
  refine n_iadd hx hb (dk kL_law_1_ok 36 rfl) ?_
  refine sld hx hb hXs hbl hL30 hS (i + 2) rfl (by omega) (dk kL_law_1_ok 37 rfl) ?_
  refine lv_aload_n hx hb (dk kL_law_1_ok 38 rfl) rfl (lv_at hl 1 rfl) ?_
  refine lv_iload hx hb (dk kL_law_1_ok 39 rfl) (lv_at hl 5 rfl) ?_
  refine lv_iconst (v := nI 3) hx hb (dk kL_law_1_ok 40 rfl) rfl ?_
  refine n_iadd hx hb (dk kL_law_1_ok 41 rfl) ?_
  refine sld hx hb hXs hbl hL30 hS (i + 3) rfl (by omega) (dk kL_law_1_ok 42 rfl) ?_
  refine lv_aload_n hx hb (dk kL_law_1_ok 43 rfl) rfl (lv_at hl 1 rfl) ?_
  refine lv_iload hx hb (dk kL_law_1_ok 44 rfl) (lv_at hl 5 rfl) ?_
  refine lv_iconst (v := nI 4) hx hb (dk kL_law_1_ok 45 rfl) rfl ?_
  refine n_iadd hx hb (dk kL_law_1_ok 46 rfl) ?_
  refine sld hx hb hXs hbl hL30 hS (i + 4) rfl (by omega) (dk kL_law_1_ok 47 rfl) ?_
  refine cvW (As := [.int (xs (i + 1)), .int (xs (i + 2)), .int (xs (i + 3)), .int (xs (i + 4))]) (rest := []) ⟨hx, hb, hml, hown, hts⟩ hM6 (cwVL 4 hts mcX6_lift (lc1 _ (List.mem_of_getElem? (i := 7) rfl)) miX6_lift meX6_lift mini_RX6 e1 e2 hdX6_lift ⟨e3, e4⟩) hDi hK hP hNW hS (k := 77) (by decide) h77 rfl rfl hl.1 rfl (Nat.le_of_ble_eq_true rfl) ⟨hcell, hslot⟩ (dk kL_law_1_ok 48 rfl) (fun v G H locs hp hP hS => ?_)
  obtain ⟨⟨b9, rfl⟩, hINV⟩ := hq v G hp
  refine W.eq (g2 := F0 m 255 ls [.int b9]) rfl ?_
  refine lv_istore (lv' := [(6, .int b9), (5, .int (nI kk)), (0, .ref b), (1, .ref (pb s.heap.size 0)), (2, .ref (pb s.heap.size 77)), (3, .ref (pb s.heap.size 85)), (4, .int (nI i))]) hx hb (dk kL_law_1_ok 49 rfl) hl (by decide) rfl (fun ls hl => ?_)
  exact lv_goto (tgt := 907) hx hb (dk kL_law_1_ok 50 rfl) (by decide) (kend G H locs ls hINV hP hS (lv_sub hl [2, 3, 4, 5, 6] rfl))
set_option maxRecDepth 100000 in
set_option maxHeartbeats 4000000 in
theorem lw_set {p : Program} {l : Launch} {e : Env} {s : State} {m : MethodId} {below : List Frame} {meth : Method} {c : Code} {H : Heap} {locs : List Loc} {cells slots : Nat} {Q : State → Prop} {ls : Array Slot} {D : va_G} {cI cQ cL : ClassId} {F : Nat → va_E} {b L i : Nat} {xs : Nat → Int32} {INV : (Nat → va_E) → Prop} (hC : LX p s m c b L xs D cI cQ cL) (hi : i + 5 ≤ L) (hP : va_P D vwCl (iW (pb s.heap.size) 86 F) H) (hS : va_S (iA (pb s.heap.size) 86 s.heap.size) s.heap H locs) (hcell : cells + 1 ≤ 601024) (hslot : slots + 6 ≤ 7293034) (hl : lv_has ls 9 (lvL b s.heap.size i)) (ST : STw0 l D cI cQ cL (pb s.heap.size) 86 yL_set cL_set 4 [(0, 9, 12, 15)] yX6_set cX6_set 3 F INV [.int (xs (i + 1))]) (kend : ∀ (G : Nat → va_E) (H1 : Heap) (locs1 : List Loc) (ls1 : Array Slot), INV G → va_P D vwCl (iW (pb s.heap.size) 86 G) H1 → va_S (iA (pb s.heap.size) 86 s.heap.size) s.heap H1 locs1 → lv_has ls1 9 (lvL b s.heap.size i) → W p l e room_1 s m #[Value.ref b] below meth c H1 locs1 (cells + 1) (slots + 6) Q (F0 m 907 ls1 [])) : W p l e room_1 s m #[Value.ref b] below meth c H locs cells slots Q (F0 m 260 ls []) := by
  obtain ⟨hx, hb, hml, hown, hts, hK, hNW, hX, hXN, hXs, hbl, hL30⟩ := hC
  have hDi : iD (pb s.heap.size) 86 := pb_D
  obtain ⟨kk, F1, fs, post, rm6, hML, h77, hM6, e1, e2, e3, e4, hq⟩ := ST
  refine lv_aload_n hx hb (dk kL_law_1_ok 51 rfl) rfl (lv_at hl 1 rfl) ?_
  refine lv_aload_n hx hb (dk kL_law_1_ok 52 rfl) rfl (lv_at hl 0 rfl) ?_
  refine lv_iload hx hb (dk kL_law_1_ok 53 rfl) (lv_at hl 4 rfl) ?_
  refine lv_iconst (v := nI 1) hx hb (dk kL_law_1_ok 54 rfl) rfl ?_
  refine n_iadd hx hb (dk kL_law_1_ok 55 rfl) ?_
  refine sld hx hb hXs hbl hL30 hS (i + 1) rfl (by omega) (dk kL_law_1_ok 56 rfl) ?_
  refine lv_aload_n hx hb (dk kL_law_1_ok 57 rfl) rfl (lv_at hl 3 rfl) ?_
  refine csL (As := [.ref (pb s.heap.size 0), .int (xs (i + 1)), .ref (pb s.heap.size 85)]) (rest := []) ⟨hx, hb, hml, hown, hts⟩ hML (vx_cwSW 3 hts (gInLS (lc1 _ (List.mem_of_getElem? (i := 8) rfl)) msL_set mini_RL mcL_set) rfl rfl rfl hdL_set ⟨Nat.le_of_ble_eq_true rfl, Nat.le_of_ble_eq_true rfl⟩) hDi hK hP hNW hS hX hXN rfl hl.1 rfl (Nat.le_of_ble_eq_true rfl) ⟨hcell, hslot⟩ (dk kL_law_1_ok 58 rfl) (fun H locs hP hS => ?_)
  refine lv_istore (lv' := [(5, .int (nI kk)), (0, .ref b), (1, .ref (pb s.heap.size 0)), (2, .ref (pb s.heap.size 77)), (3, .ref (pb s.heap.size 85)), (4, .int (nI i))]) hx hb (dk kL_law_1_ok 59 rfl) hl (by decide) rfl (fun ls hl => ?_)
  refine lv_aload_n hx hb (dk kL_law_2_ok 0 rfl) rfl (lv_at hl 3 rfl) ?_
  refine lv_aload_n hx hb (dk kL_law_2_ok 1 rfl) rfl (lv_at hl 1 rfl) ?_
  refine lv_iload hx hb (dk kL_law_2_ok 2 rfl) (lv_at hl 5 rfl) ?_
  refine lv_iconst (v := nI 1) hx hb (dk kL_law_2_ok 3 rfl) rfl ?_
  refine n_iadd hx hb (dk kL_law_2_ok 4 rfl) ?_
  refine sld hx hb hXs hbl hL30 hS (i + 1) rfl (by omega) (dk kL_law_2_ok 5 rfl) ?_
  refine cvW (As := [.int (xs (i + 1))]) (rest := []) ⟨hx, hb, hml, hown, hts⟩ hM6 (cwVL 1 hts mcX6_set (lc1 _ (List.mem_of_getElem? (i := 11) rfl)) miX6_set meX6_set mini_RX6 e1 e2 hdX6_set ⟨e3, e4⟩) hDi hK hP hNW hS (k := 77) (by decide) h77 rfl rfl hl.1 rfl (Nat.le_of_ble_eq_true rfl) ⟨hcell, hslot⟩ (dk kL_law_2_ok 6 rfl) (fun v G H locs hp hP hS => ?_)
  obtain ⟨⟨b9, rfl⟩, hINV⟩ := hq v G hp
  refine W.eq (g2 := F0 m 283 ls [.int b9]) rfl ?_
  refine lv_istore (lv' := [(6, .int b9), (5, .int (nI kk)), (0, .ref b), (1, .ref (pb s.heap.size 0)), (2, .ref (pb s.heap.size 77)), (3, .ref (pb s.heap.size 85)), (4, .int (nI i))]) hx hb (dk kL_law_2_ok 7 rfl) hl (by decide) rfl (fun ls hl => ?_)
  exact lv_goto (tgt := 907) hx hb (dk kL_law_2_ok 8 rfl) (by decide) (kend G H locs ls hINV hP hS (lv_sub hl [2, 3, 4, 5, 6] rfl))
set_option maxRecDepth 100000 in
set_option maxHeartbeats 4000000 in
theorem lw_put {p : Program} {l : Launch} {e : Env} {s : State} {m : MethodId} {below : List Frame} {meth : Method} {c : Code} {H : Heap} {locs : List Loc} {cells slots : Nat} {Q : State → Prop} {ls : Array Slot} {D : va_G} {cI cQ cL : ClassId} {F : Nat → va_E} {b L i : Nat} {xs : Nat → Int32} {INV : (Nat → va_E) → Prop} (hC : LX p s m c b L xs D cI cQ cL) (hi : i + 5 ≤ L) (hP : va_P D vwCl (iW (pb s.heap.size) 86 F) H) (hS : va_S (iA (pb s.heap.size) 86 s.heap.size) s.heap H locs) (hcell : cells + 1 ≤ 601024) (hslot : slots + 6 ≤ 7293034) (hl : lv_has ls 9 (lvL b s.heap.size i)) (ST : STw0 l D cI cQ cL (pb s.heap.size) 86 yL_put cL_put 6 [(0, 12, 15, 13), (0, 12, 19, 17)] yX6_put cX6_put 4 F INV [.int (xs (i + 1)), .int (xs (i + 2)), .int (xs (i + 3))]) (kend : ∀ (G : Nat → va_E) (H1 : Heap) (locs1 : List Loc) (ls1 : Array Slot), INV G → va_P D vwCl (iW (pb s.heap.size) 86 G) H1 → va_S (iA (pb s.heap.size) 86 s.heap.size) s.heap H1 locs1 → lv_has ls1 9 (lvL b s.heap.size i) → W p l e room_1 s m #[Value.ref b] below meth c H1 locs1 (cells + 1) (slots + 6) Q (F0 m 907 ls1 [])) : W p l e room_1 s m #[Value.ref b] below meth c H locs cells slots Q (F0 m 288 ls []) := by
  obtain ⟨hx, hb, hml, hown, hts, hK, hNW, hX, hXN, hXs, hbl, hL30⟩ := hC
  have hDi : iD (pb s.heap.size) 86 := pb_D
  obtain ⟨kk, F1, fs, post, rm6, hML, h77, hM6, e1, e2, e3, e4, hq⟩ := ST
  refine lv_aload_n hx hb (dk kL_law_2_ok 9 rfl) rfl (lv_at hl 1 rfl) ?_
  refine lv_aload_n hx hb (dk kL_law_2_ok 10 rfl) rfl (lv_at hl 0 rfl) ?_
  refine lv_iload hx hb (dk kL_law_2_ok 11 rfl) (lv_at hl 4 rfl) ?_
  refine lv_iconst (v := nI 1) hx hb (dk kL_law_2_ok 12 rfl) rfl ?_
  refine n_iadd hx hb (dk kL_law_2_ok 13 rfl) ?_
  refine sld hx hb hXs hbl hL30 hS (i + 1) rfl (by omega) (dk kL_law_2_ok 14 rfl) ?_
  refine lv_aload_n hx hb (dk kL_law_2_ok 15 rfl) rfl (lv_at hl 0 rfl) ?_
  refine lv_iload hx hb (dk kL_law_2_ok 16 rfl) (lv_at hl 4 rfl) ?_
  refine lv_iconst (v := nI 2) hx hb (dk kL_law_2_ok 17 rfl) rfl ?_
  refine n_iadd hx hb (dk kL_law_2_ok 18 rfl) ?_
  refine sld hx hb hXs hbl hL30 hS (i + 2) rfl (by omega) (dk kL_law_2_ok 19 rfl) ?_
  refine lv_aload_n hx hb (dk kL_law_2_ok 20 rfl) rfl (lv_at hl 0 rfl) ?_
  refine lv_iload hx hb (dk kL_law_2_ok 21 rfl) (lv_at hl 4 rfl) ?_
  refine lv_iconst (v := nI 3) hx hb (dk kL_law_2_ok 22 rfl) rfl ?_
  refine n_iadd hx hb (dk kL_law_2_ok 23 rfl) ?_
  refine sld hx hb hXs hbl hL30 hS (i + 3) rfl (by omega) (dk kL_law_2_ok 24 rfl) ?_
  refine lv_aload_n hx hb (dk kL_law_2_ok 25 rfl) rfl (lv_at hl 3 rfl) ?_
  refine csL (As := [.ref (pb s.heap.size 0), .int (xs (i + 1)), .int (xs (i + 2)), .int (xs (i + 3)), .ref (pb s.heap.size 85)]) (rest := []) ⟨hx, hb, hml, hown, hts⟩ hML (vx_cwSW 5 hts (gInLS (lc1 _ (List.mem_of_getElem? (i := 12) rfl)) msL_put mini_RL mcL_put) rfl rfl rfl hdL_put ⟨Nat.le_of_ble_eq_true rfl, Nat.le_of_ble_eq_true rfl⟩) hDi hK hP hNW hS hX hXN rfl hl.1 rfl (Nat.le_of_ble_eq_true rfl) ⟨hcell, hslot⟩ (dk kL_law_2_ok 26 rfl) (fun H locs hP hS => ?_)
  refine lv_istore (lv' := [(5, .int (nI kk)), (0, .ref b), (1, .ref (pb s.heap.size 0)), (2, .ref (pb s.heap.size 77)), (3, .ref (pb s.heap.size 85)), (4, .int (nI i))]) hx hb (dk kL_law_2_ok 27 rfl) hl (by decide) rfl (fun ls hl => ?_)
  refine lv_aload_n hx hb (dk kL_law_2_ok 28 rfl) rfl (lv_at hl 3 rfl) ?_
  refine lv_aload_n hx hb (dk kL_law_2_ok 29 rfl) rfl (lv_at hl 1 rfl) ?_
  refine lv_iload hx hb (dk kL_law_2_ok 30 rfl) (lv_at hl 5 rfl) ?_
  refine lv_iconst (v := nI 1) hx hb (dk kL_law_2_ok 31 rfl) rfl ?_
  refine n_iadd hx hb (dk kL_law_2_ok 32 rfl) ?_
  refine sld hx hb hXs hbl hL30 hS (i + 1) rfl (by omega) (dk kL_law_2_ok 33 rfl) ?_
  refine lv_aload_n hx hb (dk kL_law_2_ok 34 rfl) rfl (lv_at hl 1 rfl) ?_
  refine lv_iload hx hb (dk kL_law_2_ok 35 rfl) (lv_at hl 5 rfl) ?_
  refine lv_iconst (v := nI 2) hx hb (dk kL_law_2_ok 36 rfl) rfl ?_
  refine n_iadd hx hb (dk kL_law_2_ok 37 rfl) ?_
  refine sld hx hb hXs hbl hL30 hS (i + 2) rfl (by omega) (dk kL_law_2_ok 38 rfl) ?_
  refine lv_aload_n hx hb (dk kL_law_2_ok 39 rfl) rfl (lv_at hl 1 rfl) ?_
  refine lv_iload hx hb (dk kL_law_2_ok 40 rfl) (lv_at hl 5 rfl) ?_
  refine lv_iconst (v := nI 3) hx hb (dk kL_law_2_ok 41 rfl) rfl ?_
  refine n_iadd hx hb (dk kL_law_2_ok 42 rfl) ?_
  refine sld hx hb hXs hbl hL30 hS (i + 3) rfl (by omega) (dk kL_law_2_ok 43 rfl) ?_
  refine cvW (As := [.int (xs (i + 1)), .int (xs (i + 2)), .int (xs (i + 3))]) (rest := []) ⟨hx, hb, hml, hown, hts⟩ hM6 (cwVL 3 hts mcX6_put (lc1 _ (List.mem_of_getElem? (i := 15) rfl)) miX6_put meX6_put mini_RX6 e1 e2 hdX6_put ⟨e3, e4⟩) hDi hK hP hNW hS (k := 77) (by decide) h77 rfl rfl hl.1 rfl (Nat.le_of_ble_eq_true rfl) ⟨hcell, hslot⟩ (dk kL_law_2_ok 44 rfl) (fun v G H locs hp hP hS => ?_)
  obtain ⟨⟨b9, rfl⟩, hINV⟩ := hq v G hp
  refine W.eq (g2 := F0 m 335 ls [.int b9]) rfl ?_
  refine lv_istore (lv' := [(6, .int b9), (5, .int (nI kk)), (0, .ref b), (1, .ref (pb s.heap.size 0)), (2, .ref (pb s.heap.size 77)), (3, .ref (pb s.heap.size 85)), (4, .int (nI i))]) hx hb (dk kL_law_2_ok 45 rfl) hl (by decide) rfl (fun ls hl => ?_)
  exact lv_goto (tgt := 907) hx hb (dk kL_law_2_ok 46 rfl) (by decide) (kend G H locs ls hINV hP hS (lv_sub hl [2, 3, 4, 5, 6] rfl))
set_option maxRecDepth 100000 in
set_option maxHeartbeats 4000000 in
theorem lw_append {p : Program} {l : Launch} {e : Env} {s : State} {m : MethodId} {below : List Frame} {meth : Method} {c : Code} {H : Heap} {locs : List Loc} {cells slots : Nat} {Q : State → Prop} {ls : Array Slot} {D : va_G} {cI cQ cL : ClassId} {F : Nat → va_E} {b L i : Nat} {xs : Nat → Int32} {INV : (Nat → va_E) → Prop} (hC : LX p s m c b L xs D cI cQ cL) (hi : i + 5 ≤ L) (hP : va_P D vwCl (iW (pb s.heap.size) 86 F) H) (hS : va_S (iA (pb s.heap.size) 86 s.heap.size) s.heap H locs) (hcell : cells + 1 ≤ 601024) (hslot : slots + 6 ≤ 7293034) (hl : lv_has ls 9 (lvL b s.heap.size i)) (ST : STw0 l D cI cQ cL (pb s.heap.size) 86 yL_append cL_append 4 [(0, 9, 12, 15), (0, 9, 15, 17)] yX6_append cX6_append 2 F INV [.int (xs (i + 1))]) (kend : ∀ (G : Nat → va_E) (H1 : Heap) (locs1 : List Loc) (ls1 : Array Slot), INV G → va_P D vwCl (iW (pb s.heap.size) 86 G) H1 → va_S (iA (pb s.heap.size) 86 s.heap.size) s.heap H1 locs1 → lv_has ls1 9 (lvL b s.heap.size i) → W p l e room_1 s m #[Value.ref b] below meth c H1 locs1 (cells + 1) (slots + 6) Q (F0 m 907 ls1 [])) : W p l e room_1 s m #[Value.ref b] below meth c H locs cells slots Q (F0 m 340 ls []) := by
  obtain ⟨hx, hb, hml, hown, hts, hK, hNW, hX, hXN, hXs, hbl, hL30⟩ := hC
  have hDi : iD (pb s.heap.size) 86 := pb_D
  obtain ⟨kk, F1, fs, post, rm6, hML, h77, hM6, e1, e2, e3, e4, hq⟩ := ST
  refine lv_aload_n hx hb (dk kL_law_2_ok 47 rfl) rfl (lv_at hl 1 rfl) ?_
  refine lv_aload_n hx hb (dk kL_law_2_ok 48 rfl) rfl (lv_at hl 0 rfl) ?_
  refine lv_iload hx hb (dk kL_law_2_ok 49 rfl) (lv_at hl 4 rfl) ?_
  refine lv_iconst (v := nI 1) hx hb (dk kL_law_2_ok 50 rfl) rfl ?_
  refine n_iadd hx hb (dk kL_law_2_ok 51 rfl) ?_
  refine sld hx hb hXs hbl hL30 hS (i + 1) rfl (by omega) (dk kL_law_2_ok 52 rfl) ?_
  refine lv_aload_n hx hb (dk kL_law_2_ok 53 rfl) rfl (lv_at hl 3 rfl) ?_
  refine csL (As := [.ref (pb s.heap.size 0), .int (xs (i + 1)), .ref (pb s.heap.size 85)]) (rest := []) ⟨hx, hb, hml, hown, hts⟩ hML (vx_cwSW 3 hts (gInLS (lc1 _ (List.mem_of_getElem? (i := 16) rfl)) msL_append mini_RL mcL_append) rfl rfl rfl hdL_append ⟨Nat.le_of_ble_eq_true rfl, Nat.le_of_ble_eq_true rfl⟩) hDi hK hP hNW hS hX hXN rfl hl.1 rfl (Nat.le_of_ble_eq_true rfl) ⟨hcell, hslot⟩ (dk kL_law_2_ok 54 rfl) (fun H locs hP hS => ?_)
  refine lv_istore (lv' := [(5, .int (nI kk)), (0, .ref b), (1, .ref (pb s.heap.size 0)), (2, .ref (pb s.heap.size 77)), (3, .ref (pb s.heap.size 85)), (4, .int (nI i))]) hx hb (dk kL_law_2_ok 55 rfl) hl (by decide) rfl (fun ls hl => ?_)
  refine lv_aload_n hx hb (dk kL_law_2_ok 56 rfl) rfl (lv_at hl 3 rfl) ?_
  refine lv_aload_n hx hb (dk kL_law_2_ok 57 rfl) rfl (lv_at hl 1 rfl) ?_
  refine lv_iload hx hb (dk kL_law_2_ok 58 rfl) (lv_at hl 5 rfl) ?_
  refine lv_iconst (v := nI 1) hx hb (dk kL_law_2_ok 59 rfl) rfl ?_
  refine n_iadd hx hb (dk kL_law_3_ok 0 rfl) ?_
  refine sld hx hb hXs hbl hL30 hS (i + 1) rfl (by omega) (dk kL_law_3_ok 1 rfl) ?_
  refine cvW (As := [.int (xs (i + 1))]) (rest := []) ⟨hx, hb, hml, hown, hts⟩ hM6 (cwVL 1 hts mcX6_append (lc1 _ (List.mem_of_getElem? (i := 19) rfl)) miX6_append meX6_append mini_RX6 e1 e2 hdX6_append ⟨e3, e4⟩) hDi hK hP hNW hS (k := 77) (by decide) h77 rfl rfl hl.1 rfl (Nat.le_of_ble_eq_true rfl) ⟨hcell, hslot⟩ (dk kL_law_3_ok 2 rfl) (fun v G H locs hp hP hS => ?_)
  obtain ⟨⟨b9, rfl⟩, hINV⟩ := hq v G hp
  refine W.eq (g2 := F0 m 363 ls [.int b9]) rfl ?_
  refine lv_istore (lv' := [(6, .int b9), (5, .int (nI kk)), (0, .ref b), (1, .ref (pb s.heap.size 0)), (2, .ref (pb s.heap.size 77)), (3, .ref (pb s.heap.size 85)), (4, .int (nI i))]) hx hb (dk kL_law_3_ok 3 rfl) hl (by decide) rfl (fun ls hl => ?_)
  exact lv_goto (tgt := 907) hx hb (dk kL_law_3_ok 4 rfl) (by decide) (kend G H locs ls hINV hP hS (lv_sub hl [2, 3, 4, 5, 6] rfl))
set_option maxRecDepth 100000 in
set_option maxHeartbeats 4000000 in
theorem lw_clearBuffer {p : Program} {l : Launch} {e : Env} {s : State} {m : MethodId} {below : List Frame} {meth : Method} {c : Code} {H : Heap} {locs : List Loc} {cells slots : Nat} {Q : State → Prop} {ls : Array Slot} {D : va_G} {cI cQ cL : ClassId} {F : Nat → va_E} {b L i : Nat} {xs : Nat → Int32} {INV : (Nat → va_E) → Prop} (hC : LX p s m c b L xs D cI cQ cL) (hi : i + 5 ≤ L) (hP : va_P D vwCl (iW (pb s.heap.size) 86 F) H) (hS : va_S (iA (pb s.heap.size) 86 s.heap.size) s.heap H locs) (hcell : cells + 1 ≤ 601024) (hslot : slots + 6 ≤ 7293034) (hl : lv_has ls 9 (lvL b s.heap.size i)) (ST : STs0 l D cI cQ cL (pb s.heap.size) 86 yX5_clearBuffer cX5_clearBuffer 2 yX6_clearBuffer cX6_clearBuffer 2 .int okI F INV) (kend : ∀ (G : Nat → va_E) (H1 : Heap) (locs1 : List Loc) (ls1 : Array Slot), INV G → va_P D vwCl (iW (pb s.heap.size) 86 G) H1 → va_S (iA (pb s.heap.size) 86 s.heap.size) s.heap H1 locs1 → lv_has ls1 9 (lvL b s.heap.size i) → W p l e room_1 s m #[Value.ref b] below meth c H1 locs1 (cells + 1) (slots + 6) Q (F0 m 907 ls1 [])) : W p l e room_1 s m #[Value.ref b] below meth c H locs cells slots Q (F0 m 368 ls []) := by
  obtain ⟨hx, hb, hml, hown, hts, hK, hNW, hX, hXN, hXs, hbl, hL30⟩ := hC
  have hDi : iD (pb s.heap.size) 86 := pb_D
  obtain ⟨b9, F1, f5, f6, post, rm5, rm6, hok, h00, hM5, d1, d2, d3, d4, h77, hM6, e1, e2, e3, e4, hq⟩ := ST
  obtain ⟨x, rfl⟩ := hok
  refine lv_aload_n hx hb (dk kL_law_3_ok 5 rfl) rfl (lv_at hl 1 rfl) ?_
  refine cvD F1 (As := []) (rest := []) ⟨hx, hb, hml, hown, hts⟩ hM5 (cwVL 0 hts mcX5_clearBuffer (lc1 _ (List.mem_of_getElem? (i := 20) rfl)) miX5_clearBuffer meX5_clearBuffer mini_RX5 d1 d2 hdX5_clearBuffer ⟨d3, d4⟩) hDi hK hP hNW hS (k := 0) (by decide) h00 rfl rfl hl.1 rfl (Nat.le_of_ble_eq_true rfl) ⟨Nat.le_trans (Nat.le_add_right _ 1) hcell, Nat.le_trans (Nat.le_add_right _ 6) hslot⟩ (dk kL_law_3_ok 6 rfl) rfl (fun H locs hP hS => ?_)
  refine lv_pop hx hb (dk kL_law_3_ok 7 rfl) rfl ?_
  refine lv_aload_n hx hb (dk kL_law_3_ok 8 rfl) rfl (lv_at hl 2 rfl) ?_
  refine cvW (As := []) (rest := []) ⟨hx, hb, hml, hown, hts⟩ hM6 (cwVL 0 hts mcX6_clearBuffer (lc1 _ (List.mem_of_getElem? (i := 21) rfl)) miX6_clearBuffer meX6_clearBuffer mini_RX6 e1 e2 hdX6_clearBuffer ⟨e3, e4⟩) hDi hK hP hNW hS (k := 77) (by decide) h77 rfl rfl hl.1 rfl (Nat.le_of_ble_eq_true rfl) ⟨Nat.le_trans (Nat.le_add_right _ 1) hcell, Nat.le_trans (Nat.le_add_right _ 6) hslot⟩ (dk kL_law_3_ok 9 rfl) (fun v G H locs hp hP hS => ?_)
  obtain ⟨⟨b2, hok2, rfl⟩, hINV⟩ := hq v G hp
  obtain ⟨y, rfl⟩ := hok2
  refine W.widen (k := cells + 1) (n := slots + 6) (by omega) (by omega) ?_
  refine W.eq (g2 := F0 m 377 ls [.int y]) rfl ?_
  refine lv_pop hx hb (dk kL_law_3_ok 10 rfl) rfl ?_
  exact lv_goto (tgt := 907) hx hb (dk kL_law_3_ok 11 rfl) (by decide) (kend G H locs ls hINV hP hS (lv_sub hl [0, 1, 2, 3, 4] rfl))
set_option maxRecDepth 100000 in
set_option maxHeartbeats 4000000 in
theorem lw_firstError {p : Program} {l : Launch} {e : Env} {s : State} {m : MethodId} {below : List Frame} {meth : Method} {c : Code} {H : Heap} {locs : List Loc} {cells slots : Nat} {Q : State → Prop} {ls : Array Slot} {D : va_G} {cI cQ cL : ClassId} {F : Nat → va_E} {b L i : Nat} {xs : Nat → Int32} {INV : (Nat → va_E) → Prop} (hC : LX p s m c b L xs D cI cQ cL) (hi : i + 5 ≤ L) (hP : va_P D vwCl (iW (pb s.heap.size) 86 F) H) (hS : va_S (iA (pb s.heap.size) 86 s.heap.size) s.heap H locs) (hcell : cells + 1 ≤ 601024) (hslot : slots + 6 ≤ 7293034) (hl : lv_has ls 9 (lvL b s.heap.size i)) (ST : STs0 l D cI cQ cL (pb s.heap.size) 86 yX5_firstError cX5_firstError 1 yX6_firstError cX6_firstError 1 .int okI F INV) (kend : ∀ (G : Nat → va_E) (H1 : Heap) (locs1 : List Loc) (ls1 : Array Slot), INV G → va_P D vwCl (iW (pb s.heap.size) 86 G) H1 → va_S (iA (pb s.heap.size) 86 s.heap.size) s.heap H1 locs1 → lv_has ls1 9 (lvL b s.heap.size i) → W p l e room_1 s m #[Value.ref b] below meth c H1 locs1 (cells + 1) (slots + 6) Q (F0 m 907 ls1 [])) : W p l e room_1 s m #[Value.ref b] below meth c H locs cells slots Q (F0 m 381 ls []) := by
  obtain ⟨hx, hb, hml, hown, hts, hK, hNW, hX, hXN, hXs, hbl, hL30⟩ := hC
  have hDi : iD (pb s.heap.size) 86 := pb_D
  obtain ⟨b9, F1, f5, f6, post, rm5, rm6, hok, h00, hM5, d1, d2, d3, d4, h77, hM6, e1, e2, e3, e4, hq⟩ := ST
  obtain ⟨x, rfl⟩ := hok
  refine lv_aload_n hx hb (dk kL_law_3_ok 12 rfl) rfl (lv_at hl 1 rfl) ?_
  refine cvD F1 (As := []) (rest := []) ⟨hx, hb, hml, hown, hts⟩ hM5 (cwVL 0 hts mcX5_firstError (lc1 _ (List.mem_of_getElem? (i := 22) rfl)) miX5_firstError meX5_firstError mini_RX5 d1 d2 hdX5_firstError ⟨d3, d4⟩) hDi hK hP hNW hS (k := 0) (by decide) h00 rfl rfl hl.1 rfl (Nat.le_of_ble_eq_true rfl) ⟨Nat.le_trans (Nat.le_add_right _ 1) hcell, Nat.le_trans (Nat.le_add_right _ 6) hslot⟩ (dk kL_law_3_ok 13 rfl) rfl (fun H locs hP hS => ?_)
  refine lv_pop hx hb (dk kL_law_3_ok 14 rfl) rfl ?_
  refine lv_aload_n hx hb (dk kL_law_3_ok 15 rfl) rfl (lv_at hl 2 rfl) ?_
  refine cvW (As := []) (rest := []) ⟨hx, hb, hml, hown, hts⟩ hM6 (cwVL 0 hts mcX6_firstError (lc1 _ (List.mem_of_getElem? (i := 23) rfl)) miX6_firstError meX6_firstError mini_RX6 e1 e2 hdX6_firstError ⟨e3, e4⟩) hDi hK hP hNW hS (k := 77) (by decide) h77 rfl rfl hl.1 rfl (Nat.le_of_ble_eq_true rfl) ⟨Nat.le_trans (Nat.le_add_right _ 1) hcell, Nat.le_trans (Nat.le_add_right _ 6) hslot⟩ (dk kL_law_3_ok 16 rfl) (fun v G H locs hp hP hS => ?_)
  obtain ⟨⟨b2, hok2, rfl⟩, hINV⟩ := hq v G hp
  obtain ⟨y, rfl⟩ := hok2
  refine W.widen (k := cells + 1) (n := slots + 6) (by omega) (by omega) ?_
  refine W.eq (g2 := F0 m 390 ls [.int y]) rfl ?_
  refine lv_pop hx hb (dk kL_law_3_ok 17 rfl) rfl ?_
  exact lv_goto (tgt := 907) hx hb (dk kL_law_3_ok 18 rfl) (by decide) (kend G H locs ls hINV hP hS (lv_sub hl [0, 1, 2, 3, 4] rfl))
set_option maxRecDepth 100000 in
set_option maxHeartbeats 4000000 in
theorem lw_play {p : Program} {l : Launch} {e : Env} {s : State} {m : MethodId} {below : List Frame} {meth : Method} {c : Code} {H : Heap} {locs : List Loc} {cells slots : Nat} {Q : State → Prop} {ls : Array Slot} {D : va_G} {cI cQ cL : ClassId} {F : Nat → va_E} {b L i : Nat} {xs : Nat → Int32} {INV : (Nat → va_E) → Prop} (hC : LX p s m c b L xs D cI cQ cL) (hi : i + 5 ≤ L) (hP : va_P D vwCl (iW (pb s.heap.size) 86 F) H) (hS : va_S (iA (pb s.heap.size) 86 s.heap.size) s.heap H locs) (hcell : cells + 1 ≤ 601024) (hslot : slots + 6 ≤ 7293034) (hl : lv_has ls 9 (lvL b s.heap.size i)) (ST : STw0E l D cI cQ cL (pb s.heap.size) 86 yL_play cL_play 3 [(0, 8, 11, 15)] yX6_play cX6_play 3 F INV []) (kend : ∀ (G : Nat → va_E) (H1 : Heap) (locs1 : List Loc) (ls1 : Array Slot), INV G → va_P D vwCl (iW (pb s.heap.size) 86 G) H1 → va_S (iA (pb s.heap.size) 86 s.heap.size) s.heap H1 locs1 → lv_has ls1 9 (lvL b s.heap.size i) → W p l e room_1 s m #[Value.ref b] below meth c H1 locs1 (cells + 1) (slots + 6) Q (F0 m 907 ls1 [])) : W p l e room_1 s m #[Value.ref b] below meth c H locs cells slots Q (F0 m 394 ls []) := by
  obtain ⟨hx, hb, hml, hown, hts, hK, hNW, hX, hXN, hXs, hbl, hL30⟩ := hC
  have hDi : iD (pb s.heap.size) 86 := pb_D
  obtain ⟨kk, PG, hML, hST⟩ := ST
  refine lv_aload_n hx hb (dk kL_law_3_ok 19 rfl) rfl (lv_at hl 1 rfl) ?_
  refine lv_aload_n hx hb (dk kL_law_3_ok 20 rfl) rfl (lv_at hl 3 rfl) ?_
  refine csLE (As := [.ref (pb s.heap.size 0), .ref (pb s.heap.size 85)]) (rest := []) ⟨hx, hb, hml, hown, hts⟩ hML (vx_cwSW 2 hts (gInLS (lc2 _ (List.mem_of_getElem? (i := 0) rfl)) msL_play mini_RL mcL_play) rfl rfl rfl hdL_play ⟨Nat.le_of_ble_eq_true rfl, Nat.le_of_ble_eq_true rfl⟩) hDi hK hP hNW hS hX hXN rfl hl.1 rfl (Nat.le_of_ble_eq_true rfl) ⟨hcell, hslot⟩ (dk kL_law_3_ok 21 rfl) (fun F1 H locs hPG hP hS => ?_)
  obtain ⟨fs, post, rm6, h77, hM6, e1, e2, e3, e4, hq⟩ := hST F1 hPG
  refine lv_istore (lv' := [(5, .int (nI kk)), (0, .ref b), (1, .ref (pb s.heap.size 0)), (2, .ref (pb s.heap.size 77)), (3, .ref (pb s.heap.size 85)), (4, .int (nI i))]) hx hb (dk kL_law_3_ok 22 rfl) hl (by decide) rfl (fun ls hl => ?_)
  refine lv_aload_n hx hb (dk kL_law_3_ok 23 rfl) rfl (lv_at hl 3 rfl) ?_
  refine cvW (As := []) (rest := []) ⟨hx, hb, hml, hown, hts⟩ hM6 (cwVL 0 hts mcX6_play (lc2 _ (List.mem_of_getElem? (i := 3) rfl)) miX6_play meX6_play mini_RX6 e1 e2 hdX6_play ⟨e3, e4⟩) hDi hK hP hNW hS (k := 77) (by decide) h77 rfl rfl hl.1 rfl (Nat.le_of_ble_eq_true rfl) ⟨hcell, hslot⟩ (dk kL_law_3_ok 24 rfl) (fun v G H locs hp hP hS => ?_)
  obtain ⟨⟨b9, rfl⟩, hINV⟩ := hq v G hp
  refine W.eq (g2 := F0 m 405 ls [.int b9]) rfl ?_
  refine lv_istore (lv' := [(6, .int b9), (5, .int (nI kk)), (0, .ref b), (1, .ref (pb s.heap.size 0)), (2, .ref (pb s.heap.size 77)), (3, .ref (pb s.heap.size 85)), (4, .int (nI i))]) hx hb (dk kL_law_3_ok 25 rfl) hl (by decide) rfl (fun ls hl => ?_)
  exact lv_goto (tgt := 907) hx hb (dk kL_law_3_ok 26 rfl) (by decide) (kend G H locs ls hINV hP hS (lv_sub hl [2, 3, 4, 5, 6] rfl))
set_option maxRecDepth 100000 in
set_option maxHeartbeats 4000000 in
theorem lw_keep {p : Program} {l : Launch} {e : Env} {s : State} {m : MethodId} {below : List Frame} {meth : Method} {c : Code} {H : Heap} {locs : List Loc} {cells slots : Nat} {Q : State → Prop} {ls : Array Slot} {D : va_G} {cI cQ cL : ClassId} {F : Nat → va_E} {b L i : Nat} {xs : Nat → Int32} {INV : (Nat → va_E) → Prop} (hC : LX p s m c b L xs D cI cQ cL) (hi : i + 5 ≤ L) (hP : va_P D vwCl (iW (pb s.heap.size) 86 F) H) (hS : va_S (iA (pb s.heap.size) 86 s.heap.size) s.heap H locs) (hcell : cells + 1 ≤ 601024) (hslot : slots + 6 ≤ 7293034) (hl : lv_has ls 9 (lvL b s.heap.size i)) (ST : STs0 l D cI cQ cL (pb s.heap.size) 86 yX5_keep cX5_keep 1 yX6_keep cX6_keep 2 .int okI F INV) (kend : ∀ (G : Nat → va_E) (H1 : Heap) (locs1 : List Loc) (ls1 : Array Slot), INV G → va_P D vwCl (iW (pb s.heap.size) 86 G) H1 → va_S (iA (pb s.heap.size) 86 s.heap.size) s.heap H1 locs1 → lv_has ls1 9 (lvL b s.heap.size i) → W p l e room_1 s m #[Value.ref b] below meth c H1 locs1 (cells + 1) (slots + 6) Q (F0 m 907 ls1 [])) : W p l e room_1 s m #[Value.ref b] below meth c H locs cells slots Q (F0 m 410 ls []) := by
  obtain ⟨hx, hb, hml, hown, hts, hK, hNW, hX, hXN, hXs, hbl, hL30⟩ := hC
  have hDi : iD (pb s.heap.size) 86 := pb_D
  obtain ⟨b9, F1, f5, f6, post, rm5, rm6, hok, h00, hM5, d1, d2, d3, d4, h77, hM6, e1, e2, e3, e4, hq⟩ := ST
  obtain ⟨x, rfl⟩ := hok
  refine lv_aload_n hx hb (dk kL_law_3_ok 27 rfl) rfl (lv_at hl 1 rfl) ?_
  refine cvD F1 (As := []) (rest := []) ⟨hx, hb, hml, hown, hts⟩ hM5 (cwVL 0 hts mcX5_keep (lc2 _ (List.mem_of_getElem? (i := 4) rfl)) miX5_keep meX5_keep mini_RX5 d1 d2 hdX5_keep ⟨d3, d4⟩) hDi hK hP hNW hS (k := 0) (by decide) h00 rfl rfl hl.1 rfl (Nat.le_of_ble_eq_true rfl) ⟨Nat.le_trans (Nat.le_add_right _ 1) hcell, Nat.le_trans (Nat.le_add_right _ 6) hslot⟩ (dk kL_law_3_ok 28 rfl) rfl (fun H locs hP hS => ?_)
  refine lv_pop hx hb (dk kL_law_3_ok 29 rfl) rfl ?_
  refine lv_aload_n hx hb (dk kL_law_3_ok 30 rfl) rfl (lv_at hl 2 rfl) ?_
  refine cvW (As := []) (rest := []) ⟨hx, hb, hml, hown, hts⟩ hM6 (cwVL 0 hts mcX6_keep (lc2 _ (List.mem_of_getElem? (i := 5) rfl)) miX6_keep meX6_keep mini_RX6 e1 e2 hdX6_keep ⟨e3, e4⟩) hDi hK hP hNW hS (k := 77) (by decide) h77 rfl rfl hl.1 rfl (Nat.le_of_ble_eq_true rfl) ⟨Nat.le_trans (Nat.le_add_right _ 1) hcell, Nat.le_trans (Nat.le_add_right _ 6) hslot⟩ (dk kL_law_3_ok 31 rfl) (fun v G H locs hp hP hS => ?_)
  obtain ⟨⟨b2, hok2, rfl⟩, hINV⟩ := hq v G hp
  obtain ⟨y, rfl⟩ := hok2
  refine W.widen (k := cells + 1) (n := slots + 6) (by omega) (by omega) ?_
  refine W.eq (g2 := F0 m 419 ls [.int y]) rfl ?_
  refine lv_pop hx hb (dk kL_law_3_ok 32 rfl) rfl ?_
  exact lv_goto (tgt := 907) hx hb (dk kL_law_3_ok 33 rfl) (by decide) (kend G H locs ls hINV hP hS (lv_sub hl [0, 1, 2, 3, 4] rfl))
set_option maxRecDepth 100000 in
set_option maxHeartbeats 4000000 in
theorem lw_goBack {p : Program} {l : Launch} {e : Env} {s : State} {m : MethodId} {below : List Frame} {meth : Method} {c : Code} {H : Heap} {locs : List Loc} {cells slots : Nat} {Q : State → Prop} {ls : Array Slot} {D : va_G} {cI cQ cL : ClassId} {F : Nat → va_E} {b L i : Nat} {xs : Nat → Int32} {INV : (Nat → va_E) → Prop} (hC : LX p s m c b L xs D cI cQ cL) (hi : i + 5 ≤ L) (hP : va_P D vwCl (iW (pb s.heap.size) 86 F) H) (hS : va_S (iA (pb s.heap.size) 86 s.heap.size) s.heap H locs) (hcell : cells + 1 ≤ 601024) (hslot : slots + 6 ≤ 7293034) (hl : lv_has ls 9 (lvL b s.heap.size i)) (ST : STw0 l D cI cQ cL (pb s.heap.size) 86 yL_goBack cL_goBack 3 [(0, 8, 11, 17)] yX6_goBack cX6_goBack 2 F INV []) (kend : ∀ (G : Nat → va_E) (H1 : Heap) (locs1 : List Loc) (ls1 : Array Slot), INV G → va_P D vwCl (iW (pb s.heap.size) 86 G) H1 → va_S (iA (pb s.heap.size) 86 s.heap.size) s.heap H1 locs1 → lv_has ls1 9 (lvL b s.heap.size i) → W p l e room_1 s m #[Value.ref b] below meth c H1 locs1 (cells + 1) (slots + 6) Q (F0 m 907 ls1 [])) : W p l e room_1 s m #[Value.ref b] below meth c H locs cells slots Q (F0 m 423 ls []) := by
  obtain ⟨hx, hb, hml, hown, hts, hK, hNW, hX, hXN, hXs, hbl, hL30⟩ := hC
  have hDi : iD (pb s.heap.size) 86 := pb_D
  obtain ⟨kk, F1, fs, post, rm6, hML, h77, hM6, e1, e2, e3, e4, hq⟩ := ST
  refine lv_aload_n hx hb (dk kL_law_3_ok 34 rfl) rfl (lv_at hl 1 rfl) ?_
  refine lv_aload_n hx hb (dk kL_law_3_ok 35 rfl) rfl (lv_at hl 3 rfl) ?_
  refine csL (As := [.ref (pb s.heap.size 0), .ref (pb s.heap.size 85)]) (rest := []) ⟨hx, hb, hml, hown, hts⟩ hML (vx_cwSW 2 hts (gInLS (lc2 _ (List.mem_of_getElem? (i := 6) rfl)) msL_goBack mini_RL mcL_goBack) rfl rfl rfl hdL_goBack ⟨Nat.le_of_ble_eq_true rfl, Nat.le_of_ble_eq_true rfl⟩) hDi hK hP hNW hS hX hXN rfl hl.1 rfl (Nat.le_of_ble_eq_true rfl) ⟨hcell, hslot⟩ (dk kL_law_3_ok 36 rfl) (fun H locs hP hS => ?_)
  refine lv_istore (lv' := [(5, .int (nI kk)), (0, .ref b), (1, .ref (pb s.heap.size 0)), (2, .ref (pb s.heap.size 77)), (3, .ref (pb s.heap.size 85)), (4, .int (nI i))]) hx hb (dk kL_law_3_ok 37 rfl) hl (by decide) rfl (fun ls hl => ?_)
  refine lv_aload_n hx hb (dk kL_law_3_ok 38 rfl) rfl (lv_at hl 3 rfl) ?_
  refine cvW (As := []) (rest := []) ⟨hx, hb, hml, hown, hts⟩ hM6 (cwVL 0 hts mcX6_goBack (lc2 _ (List.mem_of_getElem? (i := 9) rfl)) miX6_goBack meX6_goBack mini_RX6 e1 e2 hdX6_goBack ⟨e3, e4⟩) hDi hK hP hNW hS (k := 77) (by decide) h77 rfl rfl hl.1 rfl (Nat.le_of_ble_eq_true rfl) ⟨hcell, hslot⟩ (dk kL_law_3_ok 39 rfl) (fun v G H locs hp hP hS => ?_)
  obtain ⟨⟨b9, rfl⟩, hINV⟩ := hq v G hp
  refine W.eq (g2 := F0 m 434 ls [.int b9]) rfl ?_
  refine lv_istore (lv' := [(6, .int b9), (5, .int (nI kk)), (0, .ref b), (1, .ref (pb s.heap.size 0)), (2, .ref (pb s.heap.size 77)), (3, .ref (pb s.heap.size 85)), (4, .int (nI i))]) hx hb (dk kL_law_3_ok 40 rfl) hl (by decide) rfl (fun ls hl => ?_)
  exact lv_goto (tgt := 907) hx hb (dk kL_law_3_ok 41 rfl) (by decide) (kend G H locs ls hINV hP hS (lv_sub hl [2, 3, 4, 5, 6] rfl))
set_option maxRecDepth 100000 in
set_option maxHeartbeats 4000000 in
theorem lw_undo {p : Program} {l : Launch} {e : Env} {s : State} {m : MethodId} {below : List Frame} {meth : Method} {c : Code} {H : Heap} {locs : List Loc} {cells slots : Nat} {Q : State → Prop} {ls : Array Slot} {D : va_G} {cI cQ cL : ClassId} {F : Nat → va_E} {b L i : Nat} {xs : Nat → Int32} {INV : (Nat → va_E) → Prop} (hC : LX p s m c b L xs D cI cQ cL) (hi : i + 5 ≤ L) (hP : va_P D vwCl (iW (pb s.heap.size) 86 F) H) (hS : va_S (iA (pb s.heap.size) 86 s.heap.size) s.heap H locs) (hcell : cells + 1 ≤ 601024) (hslot : slots + 6 ≤ 7293034) (hl : lv_has ls 9 (lvL b s.heap.size i)) (ST : STw0 l D cI cQ cL (pb s.heap.size) 86 yL_undo cL_undo 3 [(0, 8, 11, 17)] yX6_undo cX6_undo 2 F INV []) (kend : ∀ (G : Nat → va_E) (H1 : Heap) (locs1 : List Loc) (ls1 : Array Slot), INV G → va_P D vwCl (iW (pb s.heap.size) 86 G) H1 → va_S (iA (pb s.heap.size) 86 s.heap.size) s.heap H1 locs1 → lv_has ls1 9 (lvL b s.heap.size i) → W p l e room_1 s m #[Value.ref b] below meth c H1 locs1 (cells + 1) (slots + 6) Q (F0 m 907 ls1 [])) : W p l e room_1 s m #[Value.ref b] below meth c H locs cells slots Q (F0 m 439 ls []) := by
  obtain ⟨hx, hb, hml, hown, hts, hK, hNW, hX, hXN, hXs, hbl, hL30⟩ := hC
  have hDi : iD (pb s.heap.size) 86 := pb_D
  obtain ⟨kk, F1, fs, post, rm6, hML, h77, hM6, e1, e2, e3, e4, hq⟩ := ST
  refine lv_aload_n hx hb (dk kL_law_3_ok 42 rfl) rfl (lv_at hl 1 rfl) ?_
  refine lv_aload_n hx hb (dk kL_law_3_ok 43 rfl) rfl (lv_at hl 3 rfl) ?_
  refine csL (As := [.ref (pb s.heap.size 0), .ref (pb s.heap.size 85)]) (rest := []) ⟨hx, hb, hml, hown, hts⟩ hML (vx_cwSW 2 hts (gInLS (lc2 _ (List.mem_of_getElem? (i := 10) rfl)) msL_undo mini_RL mcL_undo) rfl rfl rfl hdL_undo ⟨Nat.le_of_ble_eq_true rfl, Nat.le_of_ble_eq_true rfl⟩) hDi hK hP hNW hS hX hXN rfl hl.1 rfl (Nat.le_of_ble_eq_true rfl) ⟨hcell, hslot⟩ (dk kL_law_3_ok 44 rfl) (fun H locs hP hS => ?_)
  refine lv_istore (lv' := [(5, .int (nI kk)), (0, .ref b), (1, .ref (pb s.heap.size 0)), (2, .ref (pb s.heap.size 77)), (3, .ref (pb s.heap.size 85)), (4, .int (nI i))]) hx hb (dk kL_law_3_ok 45 rfl) hl (by decide) rfl (fun ls hl => ?_)
  refine lv_aload_n hx hb (dk kL_law_3_ok 46 rfl) rfl (lv_at hl 3 rfl) ?_
  refine cvW (As := []) (rest := []) ⟨hx, hb, hml, hown, hts⟩ hM6 (cwVL 0 hts mcX6_undo (lc2 _ (List.mem_of_getElem? (i := 13) rfl)) miX6_undo meX6_undo mini_RX6 e1 e2 hdX6_undo ⟨e3, e4⟩) hDi hK hP hNW hS (k := 77) (by decide) h77 rfl rfl hl.1 rfl (Nat.le_of_ble_eq_true rfl) ⟨hcell, hslot⟩ (dk kL_law_3_ok 47 rfl) (fun v G H locs hp hP hS => ?_)
  obtain ⟨⟨b9, rfl⟩, hINV⟩ := hq v G hp
  refine W.eq (g2 := F0 m 450 ls [.int b9]) rfl ?_
  refine lv_istore (lv' := [(6, .int b9), (5, .int (nI kk)), (0, .ref b), (1, .ref (pb s.heap.size 0)), (2, .ref (pb s.heap.size 77)), (3, .ref (pb s.heap.size 85)), (4, .int (nI i))]) hx hb (dk kL_law_3_ok 48 rfl) hl (by decide) rfl (fun ls hl => ?_)
  exact lv_goto (tgt := 907) hx hb (dk kL_law_3_ok 49 rfl) (by decide) (kend G H locs ls hINV hP hS (lv_sub hl [2, 3, 4, 5, 6] rfl))
set_option maxRecDepth 100000 in
set_option maxHeartbeats 4000000 in
theorem lw_wink {p : Program} {l : Launch} {e : Env} {s : State} {m : MethodId} {below : List Frame} {meth : Method} {c : Code} {H : Heap} {locs : List Loc} {cells slots : Nat} {Q : State → Prop} {ls : Array Slot} {D : va_G} {cI cQ cL : ClassId} {F : Nat → va_E} {b L i : Nat} {xs : Nat → Int32} {INV : (Nat → va_E) → Prop} (hC : LX p s m c b L xs D cI cQ cL) (hi : i + 5 ≤ L) (hP : va_P D vwCl (iW (pb s.heap.size) 86 F) H) (hS : va_S (iA (pb s.heap.size) 86 s.heap.size) s.heap H locs) (hcell : cells + 1 ≤ 601024) (hslot : slots + 6 ≤ 7293034) (hl : lv_has ls 9 (lvL b s.heap.size i)) (ST : STw0 l D cI cQ cL (pb s.heap.size) 86 yL_wink cL_wink 5 [(0, 10, 13, 13), (0, 10, 17, 15)] yX6_wink cX6_wink 3 F INV [.int (xs (i + 1)), .int (xs (i + 2))]) (kend : ∀ (G : Nat → va_E) (H1 : Heap) (locs1 : List Loc) (ls1 : Array Slot), INV G → va_P D vwCl (iW (pb s.heap.size) 86 G) H1 → va_S (iA (pb s.heap.size) 86 s.heap.size) s.heap H1 locs1 → lv_has ls1 9 (lvL b s.heap.size i) → W p l e room_1 s m #[Value.ref b] below meth c H1 locs1 (cells + 1) (slots + 6) Q (F0 m 907 ls1 [])) : W p l e room_1 s m #[Value.ref b] below meth c H locs cells slots Q (F0 m 455 ls []) := by
  obtain ⟨hx, hb, hml, hown, hts, hK, hNW, hX, hXN, hXs, hbl, hL30⟩ := hC
  have hDi : iD (pb s.heap.size) 86 := pb_D
  obtain ⟨kk, F1, fs, post, rm6, hML, h77, hM6, e1, e2, e3, e4, hq⟩ := ST
  refine lv_aload_n hx hb (dk kL_law_3_ok 50 rfl) rfl (lv_at hl 1 rfl) ?_
  refine lv_aload_n hx hb (dk kL_law_3_ok 51 rfl) rfl (lv_at hl 0 rfl) ?_
  refine lv_iload hx hb (dk kL_law_3_ok 52 rfl) (lv_at hl 4 rfl) ?_
  refine lv_iconst (v := nI 1) hx hb (dk kL_law_3_ok 53 rfl) rfl ?_
  refine n_iadd hx hb (dk kL_law_3_ok 54 rfl) ?_
  refine sld hx hb hXs hbl hL30 hS (i + 1) rfl (by omega) (dk kL_law_3_ok 55 rfl) ?_
  refine lv_aload_n hx hb (dk kL_law_3_ok 56 rfl) rfl (lv_at hl 0 rfl) ?_
  refine lv_iload hx hb (dk kL_law_3_ok 57 rfl) (lv_at hl 4 rfl) ?_
  refine lv_iconst (v := nI 2) hx hb (dk kL_law_3_ok 58 rfl) rfl ?_
  refine n_iadd hx hb (dk kL_law_3_ok 59 rfl) ?_
  refine sld hx hb hXs hbl hL30 hS (i + 2) rfl (by omega) (dk kL_law_4_ok 0 rfl) ?_
  refine lv_aload_n hx hb (dk kL_law_4_ok 1 rfl) rfl (lv_at hl 3 rfl) ?_
  refine csL (As := [.ref (pb s.heap.size 0), .int (xs (i + 1)), .int (xs (i + 2)), .ref (pb s.heap.size 85)]) (rest := []) ⟨hx, hb, hml, hown, hts⟩ hML (vx_cwSW 4 hts (gInLS (lc2 _ (List.mem_of_getElem? (i := 14) rfl)) msL_wink mini_RL mcL_wink) rfl rfl rfl hdL_wink ⟨Nat.le_of_ble_eq_true rfl, Nat.le_of_ble_eq_true rfl⟩) hDi hK hP hNW hS hX hXN rfl hl.1 rfl (Nat.le_of_ble_eq_true rfl) ⟨hcell, hslot⟩ (dk kL_law_4_ok 2 rfl) (fun H locs hP hS => ?_)
  refine lv_istore (lv' := [(5, .int (nI kk)), (0, .ref b), (1, .ref (pb s.heap.size 0)), (2, .ref (pb s.heap.size 77)), (3, .ref (pb s.heap.size 85)), (4, .int (nI i))]) hx hb (dk kL_law_4_ok 3 rfl) hl (by decide) rfl (fun ls hl => ?_)
  refine lv_aload_n hx hb (dk kL_law_4_ok 4 rfl) rfl (lv_at hl 3 rfl) ?_
  refine lv_aload_n hx hb (dk kL_law_4_ok 5 rfl) rfl (lv_at hl 1 rfl) ?_
  refine lv_iload hx hb (dk kL_law_4_ok 6 rfl) (lv_at hl 5 rfl) ?_
  refine lv_iconst (v := nI 1) hx hb (dk kL_law_4_ok 7 rfl) rfl ?_
  refine n_iadd hx hb (dk kL_law_4_ok 8 rfl) ?_
  refine sld hx hb hXs hbl hL30 hS (i + 1) rfl (by omega) (dk kL_law_4_ok 9 rfl) ?_
  refine lv_aload_n hx hb (dk kL_law_4_ok 10 rfl) rfl (lv_at hl 1 rfl) ?_
  refine lv_iload hx hb (dk kL_law_4_ok 11 rfl) (lv_at hl 5 rfl) ?_
  refine lv_iconst (v := nI 2) hx hb (dk kL_law_4_ok 12 rfl) rfl ?_
  refine n_iadd hx hb (dk kL_law_4_ok 13 rfl) ?_
  refine sld hx hb hXs hbl hL30 hS (i + 2) rfl (by omega) (dk kL_law_4_ok 14 rfl) ?_
  refine cvW (As := [.int (xs (i + 1)), .int (xs (i + 2))]) (rest := []) ⟨hx, hb, hml, hown, hts⟩ hM6 (cwVL 2 hts mcX6_wink (lc2 _ (List.mem_of_getElem? (i := 17) rfl)) miX6_wink meX6_wink mini_RX6 e1 e2 hdX6_wink ⟨e3, e4⟩) hDi hK hP hNW hS (k := 77) (by decide) h77 rfl rfl hl.1 rfl (Nat.le_of_ble_eq_true rfl) ⟨hcell, hslot⟩ (dk kL_law_4_ok 15 rfl) (fun v G H locs hp hP hS => ?_)
  obtain ⟨⟨b9, rfl⟩, hINV⟩ := hq v G hp
  refine W.eq (g2 := F0 m 490 ls [.int b9]) rfl ?_
  refine lv_istore (lv' := [(6, .int b9), (5, .int (nI kk)), (0, .ref b), (1, .ref (pb s.heap.size 0)), (2, .ref (pb s.heap.size 77)), (3, .ref (pb s.heap.size 85)), (4, .int (nI i))]) hx hb (dk kL_law_4_ok 16 rfl) hl (by decide) rfl (fun ls hl => ?_)
  exact lv_goto (tgt := 907) hx hb (dk kL_law_4_ok 17 rfl) (by decide) (kend G H locs ls hINV hP hS (lv_sub hl [2, 3, 4, 5, 6] rfl))
set_option maxRecDepth 100000 in
set_option maxHeartbeats 4000000 in
theorem lw_pile {p : Program} {l : Launch} {e : Env} {s : State} {m : MethodId} {below : List Frame} {meth : Method} {c : Code} {H : Heap} {locs : List Loc} {cells slots : Nat} {Q : State → Prop} {ls : Array Slot} {D : va_G} {cI cQ cL : ClassId} {F : Nat → va_E} {b L i : Nat} {xs : Nat → Int32} {INV : (Nat → va_E) → Prop} (hC : LX p s m c b L xs D cI cQ cL) (hi : i + 5 ≤ L) (hP : va_P D vwCl (iW (pb s.heap.size) 86 F) H) (hS : va_S (iA (pb s.heap.size) 86 s.heap.size) s.heap H locs) (hcell : cells + 1 ≤ 601024) (hslot : slots + 6 ≤ 7293034) (hl : lv_has ls 9 (lvL b s.heap.size i)) (ST : STw0 l D cI cQ cL (pb s.heap.size) 86 yL_pile cL_pile 6 [(0, 12, 15, 13), (0, 12, 19, 15)] yX6_pile cX6_pile 4 F INV [.int (xs (i + 1)), .int (xs (i + 2)), .int (xs (i + 3))]) (kend : ∀ (G : Nat → va_E) (H1 : Heap) (locs1 : List Loc) (ls1 : Array Slot), INV G → va_P D vwCl (iW (pb s.heap.size) 86 G) H1 → va_S (iA (pb s.heap.size) 86 s.heap.size) s.heap H1 locs1 → lv_has ls1 9 (lvL b s.heap.size i) → W p l e room_1 s m #[Value.ref b] below meth c H1 locs1 (cells + 1) (slots + 6) Q (F0 m 907 ls1 [])) : W p l e room_1 s m #[Value.ref b] below meth c H locs cells slots Q (F0 m 495 ls []) := by
  obtain ⟨hx, hb, hml, hown, hts, hK, hNW, hX, hXN, hXs, hbl, hL30⟩ := hC
  have hDi : iD (pb s.heap.size) 86 := pb_D
  obtain ⟨kk, F1, fs, post, rm6, hML, h77, hM6, e1, e2, e3, e4, hq⟩ := ST
  refine lv_aload_n hx hb (dk kL_law_4_ok 18 rfl) rfl (lv_at hl 1 rfl) ?_
  refine lv_aload_n hx hb (dk kL_law_4_ok 19 rfl) rfl (lv_at hl 0 rfl) ?_
  refine lv_iload hx hb (dk kL_law_4_ok 20 rfl) (lv_at hl 4 rfl) ?_
  refine lv_iconst (v := nI 1) hx hb (dk kL_law_4_ok 21 rfl) rfl ?_
  refine n_iadd hx hb (dk kL_law_4_ok 22 rfl) ?_
  refine sld hx hb hXs hbl hL30 hS (i + 1) rfl (by omega) (dk kL_law_4_ok 23 rfl) ?_
  refine lv_aload_n hx hb (dk kL_law_4_ok 24 rfl) rfl (lv_at hl 0 rfl) ?_
  refine lv_iload hx hb (dk kL_law_4_ok 25 rfl) (lv_at hl 4 rfl) ?_
  refine lv_iconst (v := nI 2) hx hb (dk kL_law_4_ok 26 rfl) rfl ?_
  refine n_iadd hx hb (dk kL_law_4_ok 27 rfl) ?_
  refine sld hx hb hXs hbl hL30 hS (i + 2) rfl (by omega) (dk kL_law_4_ok 28 rfl) ?_
  refine lv_aload_n hx hb (dk kL_law_4_ok 29 rfl) rfl (lv_at hl 0 rfl) ?_
  refine lv_iload hx hb (dk kL_law_4_ok 30 rfl) (lv_at hl 4 rfl) ?_
  refine lv_iconst (v := nI 3) hx hb (dk kL_law_4_ok 31 rfl) rfl ?_
  refine n_iadd hx hb (dk kL_law_4_ok 32 rfl) ?_
  refine sld hx hb hXs hbl hL30 hS (i + 3) rfl (by omega) (dk kL_law_4_ok 33 rfl) ?_
  refine lv_aload_n hx hb (dk kL_law_4_ok 34 rfl) rfl (lv_at hl 3 rfl) ?_
  refine csL (As := [.ref (pb s.heap.size 0), .int (xs (i + 1)), .int (xs (i + 2)), .int (xs (i + 3)), .ref (pb s.heap.size 85)]) (rest := []) ⟨hx, hb, hml, hown, hts⟩ hML (vx_cwSW 5 hts (gInLS (lc2 _ (List.mem_of_getElem? (i := 18) rfl)) msL_pile mini_RL mcL_pile) rfl rfl rfl hdL_pile ⟨Nat.le_of_ble_eq_true rfl, Nat.le_of_ble_eq_true rfl⟩) hDi hK hP hNW hS hX hXN rfl hl.1 rfl (Nat.le_of_ble_eq_true rfl) ⟨hcell, hslot⟩ (dk kL_law_4_ok 35 rfl) (fun H locs hP hS => ?_)
  refine lv_istore (lv' := [(5, .int (nI kk)), (0, .ref b), (1, .ref (pb s.heap.size 0)), (2, .ref (pb s.heap.size 77)), (3, .ref (pb s.heap.size 85)), (4, .int (nI i))]) hx hb (dk kL_law_4_ok 36 rfl) hl (by decide) rfl (fun ls hl => ?_)
  refine lv_aload_n hx hb (dk kL_law_4_ok 37 rfl) rfl (lv_at hl 3 rfl) ?_
  refine lv_aload_n hx hb (dk kL_law_4_ok 38 rfl) rfl (lv_at hl 1 rfl) ?_
  refine lv_iload hx hb (dk kL_law_4_ok 39 rfl) (lv_at hl 5 rfl) ?_
  refine lv_iconst (v := nI 1) hx hb (dk kL_law_4_ok 40 rfl) rfl ?_
  refine n_iadd hx hb (dk kL_law_4_ok 41 rfl) ?_
  refine sld hx hb hXs hbl hL30 hS (i + 1) rfl (by omega) (dk kL_law_4_ok 42 rfl) ?_
  refine lv_aload_n hx hb (dk kL_law_4_ok 43 rfl) rfl (lv_at hl 1 rfl) ?_
  refine lv_iload hx hb (dk kL_law_4_ok 44 rfl) (lv_at hl 5 rfl) ?_
  refine lv_iconst (v := nI 2) hx hb (dk kL_law_4_ok 45 rfl) rfl ?_
  refine n_iadd hx hb (dk kL_law_4_ok 46 rfl) ?_
  refine sld hx hb hXs hbl hL30 hS (i + 2) rfl (by omega) (dk kL_law_4_ok 47 rfl) ?_
  refine lv_aload_n hx hb (dk kL_law_4_ok 48 rfl) rfl (lv_at hl 1 rfl) ?_
  refine lv_iload hx hb (dk kL_law_4_ok 49 rfl) (lv_at hl 5 rfl) ?_
  refine lv_iconst (v := nI 3) hx hb (dk kL_law_4_ok 50 rfl) rfl ?_
  refine n_iadd hx hb (dk kL_law_4_ok 51 rfl) ?_
  refine sld hx hb hXs hbl hL30 hS (i + 3) rfl (by omega) (dk kL_law_4_ok 52 rfl) ?_
  refine cvW (As := [.int (xs (i + 1)), .int (xs (i + 2)), .int (xs (i + 3))]) (rest := []) ⟨hx, hb, hml, hown, hts⟩ hM6 (cwVL 3 hts mcX6_pile (lc2 _ (List.mem_of_getElem? (i := 21) rfl)) miX6_pile meX6_pile mini_RX6 e1 e2 hdX6_pile ⟨e3, e4⟩) hDi hK hP hNW hS (k := 77) (by decide) h77 rfl rfl hl.1 rfl (Nat.le_of_ble_eq_true rfl) ⟨hcell, hslot⟩ (dk kL_law_4_ok 53 rfl) (fun v G H locs hp hP hS => ?_)
  obtain ⟨⟨b9, rfl⟩, hINV⟩ := hq v G hp
  refine W.eq (g2 := F0 m 542 ls [.int b9]) rfl ?_
  refine lv_istore (lv' := [(6, .int b9), (5, .int (nI kk)), (0, .ref b), (1, .ref (pb s.heap.size 0)), (2, .ref (pb s.heap.size 77)), (3, .ref (pb s.heap.size 85)), (4, .int (nI i))]) hx hb (dk kL_law_4_ok 54 rfl) hl (by decide) rfl (fun ls hl => ?_)
  exact lv_goto (tgt := 907) hx hb (dk kL_law_4_ok 55 rfl) (by decide) (kend G H locs ls hINV hP hS (lv_sub hl [2, 3, 4, 5, 6] rfl))
set_option maxRecDepth 100000 in
set_option maxHeartbeats 4000000 in
theorem lw_colour {p : Program} {l : Launch} {e : Env} {s : State} {m : MethodId} {below : List Frame} {meth : Method} {c : Code} {H : Heap} {locs : List Loc} {cells slots : Nat} {Q : State → Prop} {ls : Array Slot} {D : va_G} {cI cQ cL : ClassId} {F : Nat → va_E} {b L i : Nat} {xs : Nat → Int32} {INV : (Nat → va_E) → Prop} (hC : LX p s m c b L xs D cI cQ cL) (hi : i + 5 ≤ L) (hP : va_P D vwCl (iW (pb s.heap.size) 86 F) H) (hS : va_S (iA (pb s.heap.size) 86 s.heap.size) s.heap H locs) (hcell : cells + 1 ≤ 601024) (hslot : slots + 6 ≤ 7293034) (hl : lv_has ls 9 (lvL b s.heap.size i)) (ST : STw0 l D cI cQ cL (pb s.heap.size) 86 yL_colour cL_colour 5 [(0, 10, 13, 13), (0, 10, 17, 15)] yX6_colour cX6_colour 3 F INV [.int (xs (i + 1)), .int (xs (i + 2))]) (kend : ∀ (G : Nat → va_E) (H1 : Heap) (locs1 : List Loc) (ls1 : Array Slot), INV G → va_P D vwCl (iW (pb s.heap.size) 86 G) H1 → va_S (iA (pb s.heap.size) 86 s.heap.size) s.heap H1 locs1 → lv_has ls1 9 (lvL b s.heap.size i) → W p l e room_1 s m #[Value.ref b] below meth c H1 locs1 (cells + 1) (slots + 6) Q (F0 m 907 ls1 [])) : W p l e room_1 s m #[Value.ref b] below meth c H locs cells slots Q (F0 m 547 ls []) := by
  obtain ⟨hx, hb, hml, hown, hts, hK, hNW, hX, hXN, hXs, hbl, hL30⟩ := hC
  have hDi : iD (pb s.heap.size) 86 := pb_D
  obtain ⟨kk, F1, fs, post, rm6, hML, h77, hM6, e1, e2, e3, e4, hq⟩ := ST
  refine lv_aload_n hx hb (dk kL_law_4_ok 56 rfl) rfl (lv_at hl 1 rfl) ?_
  refine lv_aload_n hx hb (dk kL_law_4_ok 57 rfl) rfl (lv_at hl 0 rfl) ?_
  refine lv_iload hx hb (dk kL_law_4_ok 58 rfl) (lv_at hl 4 rfl) ?_
  refine lv_iconst (v := nI 1) hx hb (dk kL_law_4_ok 59 rfl) rfl ?_
  refine n_iadd hx hb (dk kL_law_5_ok 0 rfl) ?_
  refine sld hx hb hXs hbl hL30 hS (i + 1) rfl (by omega) (dk kL_law_5_ok 1 rfl) ?_
  refine lv_aload_n hx hb (dk kL_law_5_ok 2 rfl) rfl (lv_at hl 0 rfl) ?_
  refine lv_iload hx hb (dk kL_law_5_ok 3 rfl) (lv_at hl 4 rfl) ?_
  refine lv_iconst (v := nI 2) hx hb (dk kL_law_5_ok 4 rfl) rfl ?_
  refine n_iadd hx hb (dk kL_law_5_ok 5 rfl) ?_
  refine sld hx hb hXs hbl hL30 hS (i + 2) rfl (by omega) (dk kL_law_5_ok 6 rfl) ?_
  refine lv_aload_n hx hb (dk kL_law_5_ok 7 rfl) rfl (lv_at hl 3 rfl) ?_
  refine csL (As := [.ref (pb s.heap.size 0), .int (xs (i + 1)), .int (xs (i + 2)), .ref (pb s.heap.size 85)]) (rest := []) ⟨hx, hb, hml, hown, hts⟩ hML (vx_cwSW 4 hts (gInLS (lc2 _ (List.mem_of_getElem? (i := 22) rfl)) msL_colour mini_RL mcL_colour) rfl rfl rfl hdL_colour ⟨Nat.le_of_ble_eq_true rfl, Nat.le_of_ble_eq_true rfl⟩) hDi hK hP hNW hS hX hXN rfl hl.1 rfl (Nat.le_of_ble_eq_true rfl) ⟨hcell, hslot⟩ (dk kL_law_5_ok 8 rfl) (fun H locs hP hS => ?_)
  refine lv_istore (lv' := [(5, .int (nI kk)), (0, .ref b), (1, .ref (pb s.heap.size 0)), (2, .ref (pb s.heap.size 77)), (3, .ref (pb s.heap.size 85)), (4, .int (nI i))]) hx hb (dk kL_law_5_ok 9 rfl) hl (by decide) rfl (fun ls hl => ?_)
  refine lv_aload_n hx hb (dk kL_law_5_ok 10 rfl) rfl (lv_at hl 3 rfl) ?_
  refine lv_aload_n hx hb (dk kL_law_5_ok 11 rfl) rfl (lv_at hl 1 rfl) ?_
  refine lv_iload hx hb (dk kL_law_5_ok 12 rfl) (lv_at hl 5 rfl) ?_
  refine lv_iconst (v := nI 1) hx hb (dk kL_law_5_ok 13 rfl) rfl ?_
  refine n_iadd hx hb (dk kL_law_5_ok 14 rfl) ?_
  refine sld hx hb hXs hbl hL30 hS (i + 1) rfl (by omega) (dk kL_law_5_ok 15 rfl) ?_
  refine lv_aload_n hx hb (dk kL_law_5_ok 16 rfl) rfl (lv_at hl 1 rfl) ?_
  refine lv_iload hx hb (dk kL_law_5_ok 17 rfl) (lv_at hl 5 rfl) ?_
  refine lv_iconst (v := nI 2) hx hb (dk kL_law_5_ok 18 rfl) rfl ?_
  refine n_iadd hx hb (dk kL_law_5_ok 19 rfl) ?_
  refine sld hx hb hXs hbl hL30 hS (i + 2) rfl (by omega) (dk kL_law_5_ok 20 rfl) ?_
  refine cvW (As := [.int (xs (i + 1)), .int (xs (i + 2))]) (rest := []) ⟨hx, hb, hml, hown, hts⟩ hM6 (cwVL 2 hts mcX6_colour (lc3 _ (List.mem_of_getElem? (i := 1) rfl)) miX6_colour meX6_colour mini_RX6 e1 e2 hdX6_colour ⟨e3, e4⟩) hDi hK hP hNW hS (k := 77) (by decide) h77 rfl rfl hl.1 rfl (Nat.le_of_ble_eq_true rfl) ⟨hcell, hslot⟩ (dk kL_law_5_ok 21 rfl) (fun v G H locs hp hP hS => ?_)
  obtain ⟨⟨b9, rfl⟩, hINV⟩ := hq v G hp
  refine W.eq (g2 := F0 m 582 ls [.int b9]) rfl ?_
  refine lv_istore (lv' := [(6, .int b9), (5, .int (nI kk)), (0, .ref b), (1, .ref (pb s.heap.size 0)), (2, .ref (pb s.heap.size 77)), (3, .ref (pb s.heap.size 85)), (4, .int (nI i))]) hx hb (dk kL_law_5_ok 22 rfl) hl (by decide) rfl (fun ls hl => ?_)
  exact lv_goto (tgt := 907) hx hb (dk kL_law_5_ok 23 rfl) (by decide) (kend G H locs ls hINV hP hS (lv_sub hl [2, 3, 4, 5, 6] rfl))
set_option maxRecDepth 100000 in
set_option maxHeartbeats 4000000 in
theorem lw_count {p : Program} {l : Launch} {e : Env} {s : State} {m : MethodId} {below : List Frame} {meth : Method} {c : Code} {H : Heap} {locs : List Loc} {cells slots : Nat} {Q : State → Prop} {ls : Array Slot} {D : va_G} {cI cQ cL : ClassId} {F : Nat → va_E} {b L i : Nat} {xs : Nat → Int32} {INV : (Nat → va_E) → Prop} (hC : LX p s m c b L xs D cI cQ cL) (hi : i + 5 ≤ L) (hP : va_P D vwCl (iW (pb s.heap.size) 86 F) H) (hS : va_S (iA (pb s.heap.size) 86 s.heap.size) s.heap H locs) (hcell : cells + 1 ≤ 601024) (hslot : slots + 6 ≤ 7293034) (hl : lv_has ls 9 (lvL b s.heap.size i)) (ST : STw0 l D cI cQ cL (pb s.heap.size) 86 yL_count cL_count 4 [(0, 9, 12, 15)] yX6_count cX6_count 2 F INV [.int (xs (i + 1))]) (kend : ∀ (G : Nat → va_E) (H1 : Heap) (locs1 : List Loc) (ls1 : Array Slot), INV G → va_P D vwCl (iW (pb s.heap.size) 86 G) H1 → va_S (iA (pb s.heap.size) 86 s.heap.size) s.heap H1 locs1 → lv_has ls1 9 (lvL b s.heap.size i) → W p l e room_1 s m #[Value.ref b] below meth c H1 locs1 (cells + 1) (slots + 6) Q (F0 m 907 ls1 [])) : W p l e room_1 s m #[Value.ref b] below meth c H locs cells slots Q (F0 m 587 ls []) := by
  obtain ⟨hx, hb, hml, hown, hts, hK, hNW, hX, hXN, hXs, hbl, hL30⟩ := hC
  have hDi : iD (pb s.heap.size) 86 := pb_D
  obtain ⟨kk, F1, fs, post, rm6, hML, h77, hM6, e1, e2, e3, e4, hq⟩ := ST
  refine lv_aload_n hx hb (dk kL_law_5_ok 24 rfl) rfl (lv_at hl 1 rfl) ?_
  refine lv_aload_n hx hb (dk kL_law_5_ok 25 rfl) rfl (lv_at hl 0 rfl) ?_
  refine lv_iload hx hb (dk kL_law_5_ok 26 rfl) (lv_at hl 4 rfl) ?_
  refine lv_iconst (v := nI 1) hx hb (dk kL_law_5_ok 27 rfl) rfl ?_
  refine n_iadd hx hb (dk kL_law_5_ok 28 rfl) ?_
  refine sld hx hb hXs hbl hL30 hS (i + 1) rfl (by omega) (dk kL_law_5_ok 29 rfl) ?_
  refine lv_aload_n hx hb (dk kL_law_5_ok 30 rfl) rfl (lv_at hl 3 rfl) ?_
  refine csL (As := [.ref (pb s.heap.size 0), .int (xs (i + 1)), .ref (pb s.heap.size 85)]) (rest := []) ⟨hx, hb, hml, hown, hts⟩ hML (vx_cwSW 3 hts (gInLS (lc3 _ (List.mem_of_getElem? (i := 2) rfl)) msL_count mini_RL mcL_count) rfl rfl rfl hdL_count ⟨Nat.le_of_ble_eq_true rfl, Nat.le_of_ble_eq_true rfl⟩) hDi hK hP hNW hS hX hXN rfl hl.1 rfl (Nat.le_of_ble_eq_true rfl) ⟨hcell, hslot⟩ (dk kL_law_5_ok 31 rfl) (fun H locs hP hS => ?_)
  refine lv_istore (lv' := [(5, .int (nI kk)), (0, .ref b), (1, .ref (pb s.heap.size 0)), (2, .ref (pb s.heap.size 77)), (3, .ref (pb s.heap.size 85)), (4, .int (nI i))]) hx hb (dk kL_law_5_ok 32 rfl) hl (by decide) rfl (fun ls hl => ?_)
  refine lv_aload_n hx hb (dk kL_law_5_ok 33 rfl) rfl (lv_at hl 3 rfl) ?_
  refine lv_aload_n hx hb (dk kL_law_5_ok 34 rfl) rfl (lv_at hl 1 rfl) ?_
  refine lv_iload hx hb (dk kL_law_5_ok 35 rfl) (lv_at hl 5 rfl) ?_
  refine lv_iconst (v := nI 1) hx hb (dk kL_law_5_ok 36 rfl) rfl ?_
  refine n_iadd hx hb (dk kL_law_5_ok 37 rfl) ?_
  refine sld hx hb hXs hbl hL30 hS (i + 1) rfl (by omega) (dk kL_law_5_ok 38 rfl) ?_
  refine cvW (As := [.int (xs (i + 1))]) (rest := []) ⟨hx, hb, hml, hown, hts⟩ hM6 (cwVL 1 hts mcX6_count (lc3 _ (List.mem_of_getElem? (i := 5) rfl)) miX6_count meX6_count mini_RX6 e1 e2 hdX6_count ⟨e3, e4⟩) hDi hK hP hNW hS (k := 77) (by decide) h77 rfl rfl hl.1 rfl (Nat.le_of_ble_eq_true rfl) ⟨hcell, hslot⟩ (dk kL_law_5_ok 39 rfl) (fun v G H locs hp hP hS => ?_)
  obtain ⟨⟨b9, rfl⟩, hINV⟩ := hq v G hp
  refine W.eq (g2 := F0 m 610 ls [.int b9]) rfl ?_
  refine lv_istore (lv' := [(6, .int b9), (5, .int (nI kk)), (0, .ref b), (1, .ref (pb s.heap.size 0)), (2, .ref (pb s.heap.size 77)), (3, .ref (pb s.heap.size 85)), (4, .int (nI i))]) hx hb (dk kL_law_5_ok 40 rfl) hl (by decide) rfl (fun ls hl => ?_)
  exact lv_goto (tgt := 907) hx hb (dk kL_law_5_ok 41 rfl) (by decide) (kend G H locs ls hINV hP hS (lv_sub hl [2, 3, 4, 5, 6] rfl))
set_option maxRecDepth 100000 in
set_option maxHeartbeats 4000000 in
theorem lw_why {p : Program} {l : Launch} {e : Env} {s : State} {m : MethodId} {below : List Frame} {meth : Method} {c : Code} {H : Heap} {locs : List Loc} {cells slots : Nat} {Q : State → Prop} {ls : Array Slot} {D : va_G} {cI cQ cL : ClassId} {F : Nat → va_E} {b L i : Nat} {xs : Nat → Int32} {INV : (Nat → va_E) → Prop} (hC : LX p s m c b L xs D cI cQ cL) (hi : i + 5 ≤ L) (hP : va_P D vwCl (iW (pb s.heap.size) 86 F) H) (hS : va_S (iA (pb s.heap.size) 86 s.heap.size) s.heap H locs) (hcell : cells + 1 ≤ 601024) (hslot : slots + 6 ≤ 7293034) (hl : lv_has ls 9 (lvL b s.heap.size i)) (ST : STw0 l D cI cQ cL (pb s.heap.size) 86 yL_why cL_why 7 [(0, 14, 17, 13), (0, 14, 21, 15)] yX6_why cX6_why 5 F INV [.int (xs (i + 1)), .int (xs (i + 2)), .int (xs (i + 3)), .int (xs (i + 4))]) (kend : ∀ (G : Nat → va_E) (H1 : Heap) (locs1 : List Loc) (ls1 : Array Slot), INV G → va_P D vwCl (iW (pb s.heap.size) 86 G) H1 → va_S (iA (pb s.heap.size) 86 s.heap.size) s.heap H1 locs1 → lv_has ls1 9 (lvL b s.heap.size i) → W p l e room_1 s m #[Value.ref b] below meth c H1 locs1 (cells + 1) (slots + 6) Q (F0 m 907 ls1 [])) : W p l e room_1 s m #[Value.ref b] below meth c H locs cells slots Q (F0 m 615 ls []) := by
  obtain ⟨hx, hb, hml, hown, hts, hK, hNW, hX, hXN, hXs, hbl, hL30⟩ := hC
  have hDi : iD (pb s.heap.size) 86 := pb_D
  obtain ⟨kk, F1, fs, post, rm6, hML, h77, hM6, e1, e2, e3, e4, hq⟩ := ST
  refine lv_aload_n hx hb (dk kL_law_5_ok 42 rfl) rfl (lv_at hl 1 rfl) ?_
  refine lv_aload_n hx hb (dk kL_law_5_ok 43 rfl) rfl (lv_at hl 0 rfl) ?_
  refine lv_iload hx hb (dk kL_law_5_ok 44 rfl) (lv_at hl 4 rfl) ?_
  refine lv_iconst (v := nI 1) hx hb (dk kL_law_5_ok 45 rfl) rfl ?_
  refine n_iadd hx hb (dk kL_law_5_ok 46 rfl) ?_
  refine sld hx hb hXs hbl hL30 hS (i + 1) rfl (by omega) (dk kL_law_5_ok 47 rfl) ?_
  refine lv_aload_n hx hb (dk kL_law_5_ok 48 rfl) rfl (lv_at hl 0 rfl) ?_
  refine lv_iload hx hb (dk kL_law_5_ok 49 rfl) (lv_at hl 4 rfl) ?_
  refine lv_iconst (v := nI 2) hx hb (dk kL_law_5_ok 50 rfl) rfl ?_
  refine n_iadd hx hb (dk kL_law_5_ok 51 rfl) ?_
  refine sld hx hb hXs hbl hL30 hS (i + 2) rfl (by omega) (dk kL_law_5_ok 52 rfl) ?_
  refine lv_aload_n hx hb (dk kL_law_5_ok 53 rfl) rfl (lv_at hl 0 rfl) ?_
  refine lv_iload hx hb (dk kL_law_5_ok 54 rfl) (lv_at hl 4 rfl) ?_
  refine lv_iconst (v := nI 3) hx hb (dk kL_law_5_ok 55 rfl) rfl ?_
  refine n_iadd hx hb (dk kL_law_5_ok 56 rfl) ?_
  refine sld hx hb hXs hbl hL30 hS (i + 3) rfl (by omega) (dk kL_law_5_ok 57 rfl) ?_
  refine lv_aload_n hx hb (dk kL_law_5_ok 58 rfl) rfl (lv_at hl 0 rfl) ?_
  refine lv_iload hx hb (dk kL_law_5_ok 59 rfl) (lv_at hl 4 rfl) ?_
  refine lv_iconst (v := nI 4) hx hb (dk kL_law_6_ok 0 rfl) rfl ?_
  refine n_iadd hx hb (dk kL_law_6_ok 1 rfl) ?_
  refine sld hx hb hXs hbl hL30 hS (i + 4) rfl (by omega) (dk kL_law_6_ok 2 rfl) ?_
  refine lv_aload_n hx hb (dk kL_law_6_ok 3 rfl) rfl (lv_at hl 3 rfl) ?_
  refine csL (As := [.ref (pb s.heap.size 0), .int (xs (i + 1)), .int (xs (i + 2)), .int (xs (i + 3)), .int (xs (i + 4)), .ref (pb s.heap.size 85)]) (rest := []) ⟨hx, hb, hml, hown, hts⟩ hML (vx_cwSW 6 hts (gInLS (lc3 _ (List.mem_of_getElem? (i := 6) rfl)) msL_why mini_RL mcL_why) rfl rfl rfl hdL_why ⟨Nat.le_of_ble_eq_true rfl, Nat.le_of_ble_eq_true rfl⟩) hDi hK hP hNW hS hX hXN rfl hl.1 rfl (Nat.le_of_ble_eq_true rfl) ⟨hcell, hslot⟩ (dk kL_law_6_ok 4 rfl) (fun H locs hP hS => ?_)
  refine lv_istore (lv' := [(5, .int (nI kk)), (0, .ref b), (1, .ref (pb s.heap.size 0)), (2, .ref (pb s.heap.size 77)), (3, .ref (pb s.heap.size 85)), (4, .int (nI i))]) hx hb (dk kL_law_6_ok 5 rfl) hl (by decide) rfl (fun ls hl => ?_)
  refine lv_aload_n hx hb (dk kL_law_6_ok 6 rfl) rfl (lv_at hl 3 rfl) ?_
  refine lv_aload_n hx hb (dk kL_law_6_ok 7 rfl) rfl (lv_at hl 1 rfl) ?_
  refine lv_iload hx hb (dk kL_law_6_ok 8 rfl) (lv_at hl 5 rfl) ?_
  refine lv_iconst (v := nI 1) hx hb (dk kL_law_6_ok 9 rfl) rfl ?_
  refine n_iadd hx hb (dk kL_law_6_ok 10 rfl) ?_
  refine sld hx hb hXs hbl hL30 hS (i + 1) rfl (by omega) (dk kL_law_6_ok 11 rfl) ?_
  refine lv_aload_n hx hb (dk kL_law_6_ok 12 rfl) rfl (lv_at hl 1 rfl) ?_
  refine lv_iload hx hb (dk kL_law_6_ok 13 rfl) (lv_at hl 5 rfl) ?_
  refine lv_iconst (v := nI 2) hx hb (dk kL_law_6_ok 14 rfl) rfl ?_
  refine n_iadd hx hb (dk kL_law_6_ok 15 rfl) ?_
  refine sld hx hb hXs hbl hL30 hS (i + 2) rfl (by omega) (dk kL_law_6_ok 16 rfl) ?_
  refine lv_aload_n hx hb (dk kL_law_6_ok 17 rfl) rfl (lv_at hl 1 rfl) ?_
  refine lv_iload hx hb (dk kL_law_6_ok 18 rfl) (lv_at hl 5 rfl) ?_
  refine lv_iconst (v := nI 3) hx hb (dk kL_law_6_ok 19 rfl) rfl ?_
  refine n_iadd hx hb (dk kL_law_6_ok 20 rfl) ?_
  refine sld hx hb hXs hbl hL30 hS (i + 3) rfl (by omega) (dk kL_law_6_ok 21 rfl) ?_
  refine lv_aload_n hx hb (dk kL_law_6_ok 22 rfl) rfl (lv_at hl 1 rfl) ?_
  refine lv_iload hx hb (dk kL_law_6_ok 23 rfl) (lv_at hl 5 rfl) ?_
  refine lv_iconst (v := nI 4) hx hb (dk kL_law_6_ok 24 rfl) rfl ?_
  refine n_iadd hx hb (dk kL_law_6_ok 25 rfl) ?_
  refine sld hx hb hXs hbl hL30 hS (i + 4) rfl (by omega) (dk kL_law_6_ok 26 rfl) ?_
  refine cvW (As := [.int (xs (i + 1)), .int (xs (i + 2)), .int (xs (i + 3)), .int (xs (i + 4))]) (rest := []) ⟨hx, hb, hml, hown, hts⟩ hM6 (cwVL 4 hts mcX6_why (lc3 _ (List.mem_of_getElem? (i := 9) rfl)) miX6_why meX6_why mini_RX6 e1 e2 hdX6_why ⟨e3, e4⟩) hDi hK hP hNW hS (k := 77) (by decide) h77 rfl rfl hl.1 rfl (Nat.le_of_ble_eq_true rfl) ⟨hcell, hslot⟩ (dk kL_law_6_ok 27 rfl) (fun v G H locs hp hP hS => ?_)
  obtain ⟨⟨b9, rfl⟩, hINV⟩ := hq v G hp
  refine W.eq (g2 := F0 m 674 ls [.int b9]) rfl ?_
  refine lv_istore (lv' := [(6, .int b9), (5, .int (nI kk)), (0, .ref b), (1, .ref (pb s.heap.size 0)), (2, .ref (pb s.heap.size 77)), (3, .ref (pb s.heap.size 85)), (4, .int (nI i))]) hx hb (dk kL_law_6_ok 28 rfl) hl (by decide) rfl (fun ls hl => ?_)
  exact lv_goto (tgt := 907) hx hb (dk kL_law_6_ok 29 rfl) (by decide) (kend G H locs ls hINV hP hS (lv_sub hl [2, 3, 4, 5, 6] rfl))
set_option maxRecDepth 100000 in
set_option maxHeartbeats 4000000 in
theorem lw_lands {p : Program} {l : Launch} {e : Env} {s : State} {m : MethodId} {below : List Frame} {meth : Method} {c : Code} {H : Heap} {locs : List Loc} {cells slots : Nat} {Q : State → Prop} {ls : Array Slot} {D : va_G} {cI cQ cL : ClassId} {F : Nat → va_E} {b L i : Nat} {xs : Nat → Int32} {INV : (Nat → va_E) → Prop} (hC : LX p s m c b L xs D cI cQ cL) (hi : i + 5 ≤ L) (hP : va_P D vwCl (iW (pb s.heap.size) 86 F) H) (hS : va_S (iA (pb s.heap.size) 86 s.heap.size) s.heap H locs) (hcell : cells + 1 ≤ 601024) (hslot : slots + 6 ≤ 7293034) (hl : lv_has ls 9 (lvL b s.heap.size i)) (ST : STw0 l D cI cQ cL (pb s.heap.size) 86 yL_lands cL_lands 6 [(0, 12, 15, 13), (0, 12, 19, 15)] yX6_lands cX6_lands 4 F INV [.int (xs (i + 1)), .int (xs (i + 2)), .int (xs (i + 3))]) (kend : ∀ (G : Nat → va_E) (H1 : Heap) (locs1 : List Loc) (ls1 : Array Slot), INV G → va_P D vwCl (iW (pb s.heap.size) 86 G) H1 → va_S (iA (pb s.heap.size) 86 s.heap.size) s.heap H1 locs1 → lv_has ls1 9 (lvL b s.heap.size i) → W p l e room_1 s m #[Value.ref b] below meth c H1 locs1 (cells + 1) (slots + 6) Q (F0 m 907 ls1 [])) : W p l e room_1 s m #[Value.ref b] below meth c H locs cells slots Q (F0 m 679 ls []) := by
  obtain ⟨hx, hb, hml, hown, hts, hK, hNW, hX, hXN, hXs, hbl, hL30⟩ := hC
  have hDi : iD (pb s.heap.size) 86 := pb_D
  obtain ⟨kk, F1, fs, post, rm6, hML, h77, hM6, e1, e2, e3, e4, hq⟩ := ST
  refine lv_aload_n hx hb (dk kL_law_6_ok 30 rfl) rfl (lv_at hl 1 rfl) ?_
  refine lv_aload_n hx hb (dk kL_law_6_ok 31 rfl) rfl (lv_at hl 0 rfl) ?_
  refine lv_iload hx hb (dk kL_law_6_ok 32 rfl) (lv_at hl 4 rfl) ?_
  refine lv_iconst (v := nI 1) hx hb (dk kL_law_6_ok 33 rfl) rfl ?_
  refine n_iadd hx hb (dk kL_law_6_ok 34 rfl) ?_
  refine sld hx hb hXs hbl hL30 hS (i + 1) rfl (by omega) (dk kL_law_6_ok 35 rfl) ?_
  refine lv_aload_n hx hb (dk kL_law_6_ok 36 rfl) rfl (lv_at hl 0 rfl) ?_
  refine lv_iload hx hb (dk kL_law_6_ok 37 rfl) (lv_at hl 4 rfl) ?_
  refine lv_iconst (v := nI 2) hx hb (dk kL_law_6_ok 38 rfl) rfl ?_
  refine n_iadd hx hb (dk kL_law_6_ok 39 rfl) ?_
  refine sld hx hb hXs hbl hL30 hS (i + 2) rfl (by omega) (dk kL_law_6_ok 40 rfl) ?_
  refine lv_aload_n hx hb (dk kL_law_6_ok 41 rfl) rfl (lv_at hl 0 rfl) ?_
  refine lv_iload hx hb (dk kL_law_6_ok 42 rfl) (lv_at hl 4 rfl) ?_
  refine lv_iconst (v := nI 3) hx hb (dk kL_law_6_ok 43 rfl) rfl ?_
  refine n_iadd hx hb (dk kL_law_6_ok 44 rfl) ?_
  refine sld hx hb hXs hbl hL30 hS (i + 3) rfl (by omega) (dk kL_law_6_ok 45 rfl) ?_
  refine lv_aload_n hx hb (dk kL_law_6_ok 46 rfl) rfl (lv_at hl 3 rfl) ?_
  refine csL (As := [.ref (pb s.heap.size 0), .int (xs (i + 1)), .int (xs (i + 2)), .int (xs (i + 3)), .ref (pb s.heap.size 85)]) (rest := []) ⟨hx, hb, hml, hown, hts⟩ hML (vx_cwSW 5 hts (gInLS (lc3 _ (List.mem_of_getElem? (i := 10) rfl)) msL_lands mini_RL mcL_lands) rfl rfl rfl hdL_lands ⟨Nat.le_of_ble_eq_true rfl, Nat.le_of_ble_eq_true rfl⟩) hDi hK hP hNW hS hX hXN rfl hl.1 rfl (Nat.le_of_ble_eq_true rfl) ⟨hcell, hslot⟩ (dk kL_law_6_ok 47 rfl) (fun H locs hP hS => ?_)
  refine lv_istore (lv' := [(5, .int (nI kk)), (0, .ref b), (1, .ref (pb s.heap.size 0)), (2, .ref (pb s.heap.size 77)), (3, .ref (pb s.heap.size 85)), (4, .int (nI i))]) hx hb (dk kL_law_6_ok 48 rfl) hl (by decide) rfl (fun ls hl => ?_)
  refine lv_aload_n hx hb (dk kL_law_6_ok 49 rfl) rfl (lv_at hl 3 rfl) ?_
  refine lv_aload_n hx hb (dk kL_law_6_ok 50 rfl) rfl (lv_at hl 1 rfl) ?_
  refine lv_iload hx hb (dk kL_law_6_ok 51 rfl) (lv_at hl 5 rfl) ?_
  refine lv_iconst (v := nI 1) hx hb (dk kL_law_6_ok 52 rfl) rfl ?_
  refine n_iadd hx hb (dk kL_law_6_ok 53 rfl) ?_
  refine sld hx hb hXs hbl hL30 hS (i + 1) rfl (by omega) (dk kL_law_6_ok 54 rfl) ?_
  refine lv_aload_n hx hb (dk kL_law_6_ok 55 rfl) rfl (lv_at hl 1 rfl) ?_
  refine lv_iload hx hb (dk kL_law_6_ok 56 rfl) (lv_at hl 5 rfl) ?_
  refine lv_iconst (v := nI 2) hx hb (dk kL_law_6_ok 57 rfl) rfl ?_
  refine n_iadd hx hb (dk kL_law_6_ok 58 rfl) ?_
  refine sld hx hb hXs hbl hL30 hS (i + 2) rfl (by omega) (dk kL_law_6_ok 59 rfl) ?_
  refine lv_aload_n hx hb (dk kL_law_7_ok 0 rfl) rfl (lv_at hl 1 rfl) ?_
  refine lv_iload hx hb (dk kL_law_7_ok 1 rfl) (lv_at hl 5 rfl) ?_
  refine lv_iconst (v := nI 3) hx hb (dk kL_law_7_ok 2 rfl) rfl ?_
  refine n_iadd hx hb (dk kL_law_7_ok 3 rfl) ?_
  refine sld hx hb hXs hbl hL30 hS (i + 3) rfl (by omega) (dk kL_law_7_ok 4 rfl) ?_
  refine cvW (As := [.int (xs (i + 1)), .int (xs (i + 2)), .int (xs (i + 3))]) (rest := []) ⟨hx, hb, hml, hown, hts⟩ hM6 (cwVL 3 hts mcX6_lands (lc3 _ (List.mem_of_getElem? (i := 13) rfl)) miX6_lands meX6_lands mini_RX6 e1 e2 hdX6_lands ⟨e3, e4⟩) hDi hK hP hNW hS (k := 77) (by decide) h77 rfl rfl hl.1 rfl (Nat.le_of_ble_eq_true rfl) ⟨hcell, hslot⟩ (dk kL_law_7_ok 5 rfl) (fun v G H locs hp hP hS => ?_)
  obtain ⟨⟨b9, rfl⟩, hINV⟩ := hq v G hp
  refine W.eq (g2 := F0 m 726 ls [.int b9]) rfl ?_
  refine lv_istore (lv' := [(6, .int b9), (5, .int (nI kk)), (0, .ref b), (1, .ref (pb s.heap.size 0)), (2, .ref (pb s.heap.size 77)), (3, .ref (pb s.heap.size 85)), (4, .int (nI i))]) hx hb (dk kL_law_7_ok 6 rfl) hl (by decide) rfl (fun ls hl => ?_)
  exact lv_goto (tgt := 907) hx hb (dk kL_law_7_ok 7 rfl) (by decide) (kend G H locs ls hINV hP hS (lv_sub hl [2, 3, 4, 5, 6] rfl))
set_option maxRecDepth 100000 in
set_option maxHeartbeats 4000000 in
theorem lw_ifFlown {p : Program} {l : Launch} {e : Env} {s : State} {m : MethodId} {below : List Frame} {meth : Method} {c : Code} {H : Heap} {locs : List Loc} {cells slots : Nat} {Q : State → Prop} {ls : Array Slot} {D : va_G} {cI cQ cL : ClassId} {F : Nat → va_E} {b L i : Nat} {xs : Nat → Int32} {INV : (Nat → va_E) → Prop} (hC : LX p s m c b L xs D cI cQ cL) (hi : i + 5 ≤ L) (hP : va_P D vwCl (iW (pb s.heap.size) 86 F) H) (hS : va_S (iA (pb s.heap.size) 86 s.heap.size) s.heap H locs) (hcell : cells + 1 ≤ 601024) (hslot : slots + 6 ≤ 7293034) (hl : lv_has ls 9 (lvL b s.heap.size i)) (ST : STw0 l D cI cQ cL (pb s.heap.size) 86 yL_ifFlown cL_ifFlown 7 [(0, 14, 17, 13), (0, 14, 21, 15)] yX6_ifFlown cX6_ifFlown 5 F INV [.int (xs (i + 1)), .int (xs (i + 2)), .int (xs (i + 3)), .int (xs (i + 4))]) (kend : ∀ (G : Nat → va_E) (H1 : Heap) (locs1 : List Loc) (ls1 : Array Slot), INV G → va_P D vwCl (iW (pb s.heap.size) 86 G) H1 → va_S (iA (pb s.heap.size) 86 s.heap.size) s.heap H1 locs1 → lv_has ls1 9 (lvL b s.heap.size i) → W p l e room_1 s m #[Value.ref b] below meth c H1 locs1 (cells + 1) (slots + 6) Q (F0 m 907 ls1 [])) : W p l e room_1 s m #[Value.ref b] below meth c H locs cells slots Q (F0 m 731 ls []) := by
  obtain ⟨hx, hb, hml, hown, hts, hK, hNW, hX, hXN, hXs, hbl, hL30⟩ := hC
  have hDi : iD (pb s.heap.size) 86 := pb_D
  obtain ⟨kk, F1, fs, post, rm6, hML, h77, hM6, e1, e2, e3, e4, hq⟩ := ST
  refine lv_aload_n hx hb (dk kL_law_7_ok 8 rfl) rfl (lv_at hl 1 rfl) ?_
  refine lv_aload_n hx hb (dk kL_law_7_ok 9 rfl) rfl (lv_at hl 0 rfl) ?_
  refine lv_iload hx hb (dk kL_law_7_ok 10 rfl) (lv_at hl 4 rfl) ?_
  refine lv_iconst (v := nI 1) hx hb (dk kL_law_7_ok 11 rfl) rfl ?_
  refine n_iadd hx hb (dk kL_law_7_ok 12 rfl) ?_
  refine sld hx hb hXs hbl hL30 hS (i + 1) rfl (by omega) (dk kL_law_7_ok 13 rfl) ?_
  refine lv_aload_n hx hb (dk kL_law_7_ok 14 rfl) rfl (lv_at hl 0 rfl) ?_
  refine lv_iload hx hb (dk kL_law_7_ok 15 rfl) (lv_at hl 4 rfl) ?_
  refine lv_iconst (v := nI 2) hx hb (dk kL_law_7_ok 16 rfl) rfl ?_
  refine n_iadd hx hb (dk kL_law_7_ok 17 rfl) ?_
  refine sld hx hb hXs hbl hL30 hS (i + 2) rfl (by omega) (dk kL_law_7_ok 18 rfl) ?_
  refine lv_aload_n hx hb (dk kL_law_7_ok 19 rfl) rfl (lv_at hl 0 rfl) ?_
  refine lv_iload hx hb (dk kL_law_7_ok 20 rfl) (lv_at hl 4 rfl) ?_
  refine lv_iconst (v := nI 3) hx hb (dk kL_law_7_ok 21 rfl) rfl ?_
  refine n_iadd hx hb (dk kL_law_7_ok 22 rfl) ?_
  refine sld hx hb hXs hbl hL30 hS (i + 3) rfl (by omega) (dk kL_law_7_ok 23 rfl) ?_
  refine lv_aload_n hx hb (dk kL_law_7_ok 24 rfl) rfl (lv_at hl 0 rfl) ?_
  refine lv_iload hx hb (dk kL_law_7_ok 25 rfl) (lv_at hl 4 rfl) ?_
  refine lv_iconst (v := nI 4) hx hb (dk kL_law_7_ok 26 rfl) rfl ?_
  refine n_iadd hx hb (dk kL_law_7_ok 27 rfl) ?_
  refine sld hx hb hXs hbl hL30 hS (i + 4) rfl (by omega) (dk kL_law_7_ok 28 rfl) ?_
  refine lv_aload_n hx hb (dk kL_law_7_ok 29 rfl) rfl (lv_at hl 3 rfl) ?_
  refine csL (As := [.ref (pb s.heap.size 0), .int (xs (i + 1)), .int (xs (i + 2)), .int (xs (i + 3)), .int (xs (i + 4)), .ref (pb s.heap.size 85)]) (rest := []) ⟨hx, hb, hml, hown, hts⟩ hML (vx_cwSW 6 hts (gInLS (lc3 _ (List.mem_of_getElem? (i := 14) rfl)) msL_ifFlown mini_RL mcL_ifFlown) rfl rfl rfl hdL_ifFlown ⟨Nat.le_of_ble_eq_true rfl, Nat.le_of_ble_eq_true rfl⟩) hDi hK hP hNW hS hX hXN rfl hl.1 rfl (Nat.le_of_ble_eq_true rfl) ⟨hcell, hslot⟩ (dk kL_law_7_ok 30 rfl) (fun H locs hP hS => ?_)
  refine lv_istore (lv' := [(5, .int (nI kk)), (0, .ref b), (1, .ref (pb s.heap.size 0)), (2, .ref (pb s.heap.size 77)), (3, .ref (pb s.heap.size 85)), (4, .int (nI i))]) hx hb (dk kL_law_7_ok 31 rfl) hl (by decide) rfl (fun ls hl => ?_)
  refine lv_aload_n hx hb (dk kL_law_7_ok 32 rfl) rfl (lv_at hl 3 rfl) ?_
  refine lv_aload_n hx hb (dk kL_law_7_ok 33 rfl) rfl (lv_at hl 1 rfl) ?_
  refine lv_iload hx hb (dk kL_law_7_ok 34 rfl) (lv_at hl 5 rfl) ?_
  refine lv_iconst (v := nI 1) hx hb (dk kL_law_7_ok 35 rfl) rfl ?_
  refine n_iadd hx hb (dk kL_law_7_ok 36 rfl) ?_
  refine sld hx hb hXs hbl hL30 hS (i + 1) rfl (by omega) (dk kL_law_7_ok 37 rfl) ?_
  refine lv_aload_n hx hb (dk kL_law_7_ok 38 rfl) rfl (lv_at hl 1 rfl) ?_
  refine lv_iload hx hb (dk kL_law_7_ok 39 rfl) (lv_at hl 5 rfl) ?_
  refine lv_iconst (v := nI 2) hx hb (dk kL_law_7_ok 40 rfl) rfl ?_
  refine n_iadd hx hb (dk kL_law_7_ok 41 rfl) ?_
  refine sld hx hb hXs hbl hL30 hS (i + 2) rfl (by omega) (dk kL_law_7_ok 42 rfl) ?_
  refine lv_aload_n hx hb (dk kL_law_7_ok 43 rfl) rfl (lv_at hl 1 rfl) ?_
  refine lv_iload hx hb (dk kL_law_7_ok 44 rfl) (lv_at hl 5 rfl) ?_
  refine lv_iconst (v := nI 3) hx hb (dk kL_law_7_ok 45 rfl) rfl ?_
  refine n_iadd hx hb (dk kL_law_7_ok 46 rfl) ?_
  refine sld hx hb hXs hbl hL30 hS (i + 3) rfl (by omega) (dk kL_law_7_ok 47 rfl) ?_
  refine lv_aload_n hx hb (dk kL_law_7_ok 48 rfl) rfl (lv_at hl 1 rfl) ?_
  refine lv_iload hx hb (dk kL_law_7_ok 49 rfl) (lv_at hl 5 rfl) ?_
  refine lv_iconst (v := nI 4) hx hb (dk kL_law_7_ok 50 rfl) rfl ?_
  refine n_iadd hx hb (dk kL_law_7_ok 51 rfl) ?_
  refine sld hx hb hXs hbl hL30 hS (i + 4) rfl (by omega) (dk kL_law_7_ok 52 rfl) ?_
  refine cvW (As := [.int (xs (i + 1)), .int (xs (i + 2)), .int (xs (i + 3)), .int (xs (i + 4))]) (rest := []) ⟨hx, hb, hml, hown, hts⟩ hM6 (cwVL 4 hts mcX6_ifFlown (lc3 _ (List.mem_of_getElem? (i := 17) rfl)) miX6_ifFlown meX6_ifFlown mini_RX6 e1 e2 hdX6_ifFlown ⟨e3, e4⟩) hDi hK hP hNW hS (k := 77) (by decide) h77 rfl rfl hl.1 rfl (Nat.le_of_ble_eq_true rfl) ⟨hcell, hslot⟩ (dk kL_law_7_ok 53 rfl) (fun v G H locs hp hP hS => ?_)
  obtain ⟨⟨b9, rfl⟩, hINV⟩ := hq v G hp
  refine W.eq (g2 := F0 m 790 ls [.int b9]) rfl ?_
  refine lv_istore (lv' := [(6, .int b9), (5, .int (nI kk)), (0, .ref b), (1, .ref (pb s.heap.size 0)), (2, .ref (pb s.heap.size 77)), (3, .ref (pb s.heap.size 85)), (4, .int (nI i))]) hx hb (dk kL_law_7_ok 54 rfl) hl (by decide) rfl (fun ls hl => ?_)
  exact lv_goto (tgt := 907) hx hb (dk kL_law_7_ok 55 rfl) (by decide) (kend G H locs ls hINV hP hS (lv_sub hl [2, 3, 4, 5, 6] rfl))
set_option maxRecDepth 100000 in
set_option maxHeartbeats 4000000 in
theorem lw_best {p : Program} {l : Launch} {e : Env} {s : State} {m : MethodId} {below : List Frame} {meth : Method} {c : Code} {H : Heap} {locs : List Loc} {cells slots : Nat} {Q : State → Prop} {ls : Array Slot} {D : va_G} {cI cQ cL : ClassId} {F : Nat → va_E} {b L i : Nat} {xs : Nat → Int32} {INV : (Nat → va_E) → Prop} (hC : LX p s m c b L xs D cI cQ cL) (hi : i + 5 ≤ L) (hP : va_P D vwCl (iW (pb s.heap.size) 86 F) H) (hS : va_S (iA (pb s.heap.size) 86 s.heap.size) s.heap H locs) (hcell : cells + 1 ≤ 601024) (hslot : slots + 6 ≤ 7293034) (hl : lv_has ls 9 (lvL b s.heap.size i)) (ST : STs0 l D cI cQ cL (pb s.heap.size) 86 yX5_best cX5_best 11 yX6_best cX6_best 1 .int okI F INV) (kend : ∀ (G : Nat → va_E) (H1 : Heap) (locs1 : List Loc) (ls1 : Array Slot), INV G → va_P D vwCl (iW (pb s.heap.size) 86 G) H1 → va_S (iA (pb s.heap.size) 86 s.heap.size) s.heap H1 locs1 → lv_has ls1 9 (lvL b s.heap.size i) → W p l e room_1 s m #[Value.ref b] below meth c H1 locs1 (cells + 1) (slots + 6) Q (F0 m 907 ls1 [])) : W p l e room_1 s m #[Value.ref b] below meth c H locs cells slots Q (F0 m 795 ls []) := by
  obtain ⟨hx, hb, hml, hown, hts, hK, hNW, hX, hXN, hXs, hbl, hL30⟩ := hC
  have hDi : iD (pb s.heap.size) 86 := pb_D
  obtain ⟨b9, F1, f5, f6, post, rm5, rm6, hok, h00, hM5, d1, d2, d3, d4, h77, hM6, e1, e2, e3, e4, hq⟩ := ST
  obtain ⟨x, rfl⟩ := hok
  refine lv_aload_n hx hb (dk kL_law_7_ok 56 rfl) rfl (lv_at hl 1 rfl) ?_
  refine cvD F1 (As := []) (rest := []) ⟨hx, hb, hml, hown, hts⟩ hM5 (cwVL 0 hts mcX5_best (lc3 _ (List.mem_of_getElem? (i := 18) rfl)) miX5_best meX5_best mini_RX5 d1 d2 hdX5_best ⟨d3, d4⟩) hDi hK hP hNW hS (k := 0) (by decide) h00 rfl rfl hl.1 rfl (Nat.le_of_ble_eq_true rfl) ⟨Nat.le_trans (Nat.le_add_right _ 1) hcell, Nat.le_trans (Nat.le_add_right _ 6) hslot⟩ (dk kL_law_7_ok 57 rfl) rfl (fun H locs hP hS => ?_)
  refine lv_pop hx hb (dk kL_law_7_ok 58 rfl) rfl ?_
  refine lv_aload_n hx hb (dk kL_law_7_ok 59 rfl) rfl (lv_at hl 2 rfl) ?_
  refine cvW (As := []) (rest := []) ⟨hx, hb, hml, hown, hts⟩ hM6 (cwVL 0 hts mcX6_best (lc3 _ (List.mem_of_getElem? (i := 19) rfl)) miX6_best meX6_best mini_RX6 e1 e2 hdX6_best ⟨e3, e4⟩) hDi hK hP hNW hS (k := 77) (by decide) h77 rfl rfl hl.1 rfl (Nat.le_of_ble_eq_true rfl) ⟨Nat.le_trans (Nat.le_add_right _ 1) hcell, Nat.le_trans (Nat.le_add_right _ 6) hslot⟩ (dk kL_law_8_ok 0 rfl) (fun v G H locs hp hP hS => ?_)
  obtain ⟨⟨b2, hok2, rfl⟩, hINV⟩ := hq v G hp
  obtain ⟨y, rfl⟩ := hok2
  refine W.widen (k := cells + 1) (n := slots + 6) (by omega) (by omega) ?_
  refine W.eq (g2 := F0 m 804 ls [.int y]) rfl ?_
  refine lv_pop hx hb (dk kL_law_8_ok 1 rfl) rfl ?_
  exact lv_goto (tgt := 907) hx hb (dk kL_law_8_ok 2 rfl) (by decide) (kend G H locs ls hINV hP hS (lv_sub hl [0, 1, 2, 3, 4] rfl))
set_option maxRecDepth 100000 in
set_option maxHeartbeats 4000000 in
theorem lw_flightsTo {p : Program} {l : Launch} {e : Env} {s : State} {m : MethodId} {below : List Frame} {meth : Method} {c : Code} {H : Heap} {locs : List Loc} {cells slots : Nat} {Q : State → Prop} {ls : Array Slot} {D : va_G} {cI cQ cL : ClassId} {F : Nat → va_E} {b L i : Nat} {xs : Nat → Int32} {INV : (Nat → va_E) → Prop} (hC : LX p s m c b L xs D cI cQ cL) (hi : i + 5 ≤ L) (hP : va_P D vwCl (iW (pb s.heap.size) 86 F) H) (hS : va_S (iA (pb s.heap.size) 86 s.heap.size) s.heap H locs) (hcell : cells + 1 ≤ 601024) (hslot : slots + 6 ≤ 7293034) (hl : lv_has ls 9 (lvL b s.heap.size i)) (ST : STw0 l D cI cQ cL (pb s.heap.size) 86 yL_flightsTo cL_flightsTo 4 [(0, 9, 12, 13)] yX6_flightsTo cX6_flightsTo 2 F INV [.int (xs (i + 1))]) (kend : ∀ (G : Nat → va_E) (H1 : Heap) (locs1 : List Loc) (ls1 : Array Slot), INV G → va_P D vwCl (iW (pb s.heap.size) 86 G) H1 → va_S (iA (pb s.heap.size) 86 s.heap.size) s.heap H1 locs1 → lv_has ls1 9 (lvL b s.heap.size i) → W p l e room_1 s m #[Value.ref b] below meth c H1 locs1 (cells + 1) (slots + 6) Q (F0 m 907 ls1 [])) : W p l e room_1 s m #[Value.ref b] below meth c H locs cells slots Q (F0 m 808 ls []) := by
  obtain ⟨hx, hb, hml, hown, hts, hK, hNW, hX, hXN, hXs, hbl, hL30⟩ := hC
  have hDi : iD (pb s.heap.size) 86 := pb_D
  obtain ⟨kk, F1, fs, post, rm6, hML, h77, hM6, e1, e2, e3, e4, hq⟩ := ST
  refine lv_aload_n hx hb (dk kL_law_8_ok 3 rfl) rfl (lv_at hl 1 rfl) ?_
  refine lv_aload_n hx hb (dk kL_law_8_ok 4 rfl) rfl (lv_at hl 0 rfl) ?_
  refine lv_iload hx hb (dk kL_law_8_ok 5 rfl) (lv_at hl 4 rfl) ?_
  refine lv_iconst (v := nI 1) hx hb (dk kL_law_8_ok 6 rfl) rfl ?_
  refine n_iadd hx hb (dk kL_law_8_ok 7 rfl) ?_
  refine sld hx hb hXs hbl hL30 hS (i + 1) rfl (by omega) (dk kL_law_8_ok 8 rfl) ?_
  refine lv_aload_n hx hb (dk kL_law_8_ok 9 rfl) rfl (lv_at hl 3 rfl) ?_
  refine csL (As := [.ref (pb s.heap.size 0), .int (xs (i + 1)), .ref (pb s.heap.size 85)]) (rest := []) ⟨hx, hb, hml, hown, hts⟩ hML (vx_cwSW 3 hts (gInLS (lc3 _ (List.mem_of_getElem? (i := 20) rfl)) msL_flightsTo mini_RL mcL_flightsTo) rfl rfl rfl hdL_flightsTo ⟨Nat.le_of_ble_eq_true rfl, Nat.le_of_ble_eq_true rfl⟩) hDi hK hP hNW hS hX hXN rfl hl.1 rfl (Nat.le_of_ble_eq_true rfl) ⟨hcell, hslot⟩ (dk kL_law_8_ok 10 rfl) (fun H locs hP hS => ?_)
  refine lv_istore (lv' := [(5, .int (nI kk)), (0, .ref b), (1, .ref (pb s.heap.size 0)), (2, .ref (pb s.heap.size 77)), (3, .ref (pb s.heap.size 85)), (4, .int (nI i))]) hx hb (dk kL_law_8_ok 11 rfl) hl (by decide) rfl (fun ls hl => ?_)
  refine lv_aload_n hx hb (dk kL_law_8_ok 12 rfl) rfl (lv_at hl 3 rfl) ?_
  refine lv_aload_n hx hb (dk kL_law_8_ok 13 rfl) rfl (lv_at hl 1 rfl) ?_
  refine lv_iload hx hb (dk kL_law_8_ok 14 rfl) (lv_at hl 5 rfl) ?_
  refine lv_iconst (v := nI 1) hx hb (dk kL_law_8_ok 15 rfl) rfl ?_
  refine n_iadd hx hb (dk kL_law_8_ok 16 rfl) ?_
  refine sld hx hb hXs hbl hL30 hS (i + 1) rfl (by omega) (dk kL_law_8_ok 17 rfl) ?_
  refine cvW (As := [.int (xs (i + 1))]) (rest := []) ⟨hx, hb, hml, hown, hts⟩ hM6 (cwVL 1 hts mcX6_flightsTo (lc3 _ (List.mem_of_getElem? (i := 23) rfl)) miX6_flightsTo meX6_flightsTo mini_RX6 e1 e2 hdX6_flightsTo ⟨e3, e4⟩) hDi hK hP hNW hS (k := 77) (by decide) h77 rfl rfl hl.1 rfl (Nat.le_of_ble_eq_true rfl) ⟨hcell, hslot⟩ (dk kL_law_8_ok 18 rfl) (fun v G H locs hp hP hS => ?_)
  obtain ⟨⟨b9, rfl⟩, hINV⟩ := hq v G hp
  refine W.eq (g2 := F0 m 831 ls [.int b9]) rfl ?_
  refine lv_istore (lv' := [(6, .int b9), (5, .int (nI kk)), (0, .ref b), (1, .ref (pb s.heap.size 0)), (2, .ref (pb s.heap.size 77)), (3, .ref (pb s.heap.size 85)), (4, .int (nI i))]) hx hb (dk kL_law_8_ok 19 rfl) hl (by decide) rfl (fun ls hl => ?_)
  exact lv_goto (tgt := 907) hx hb (dk kL_law_8_ok 20 rfl) (by decide) (kend G H locs ls hINV hP hS (lv_sub hl [2, 3, 4, 5, 6] rfl))
set_option maxRecDepth 100000 in
set_option maxHeartbeats 4000000 in
theorem lw_pottedShare {p : Program} {l : Launch} {e : Env} {s : State} {m : MethodId} {below : List Frame} {meth : Method} {c : Code} {H : Heap} {locs : List Loc} {cells slots : Nat} {Q : State → Prop} {ls : Array Slot} {D : va_G} {cI cQ cL : ClassId} {F : Nat → va_E} {b L i : Nat} {xs : Nat → Int32} {INV : (Nat → va_E) → Prop} (hC : LX p s m c b L xs D cI cQ cL) (hi : i + 5 ≤ L) (hP : va_P D vwCl (iW (pb s.heap.size) 86 F) H) (hS : va_S (iA (pb s.heap.size) 86 s.heap.size) s.heap H locs) (hcell : cells + 1 ≤ 601024) (hslot : slots + 6 ≤ 7293034) (hl : lv_has ls 9 (lvL b s.heap.size i)) (ST : STs0 l D cI cQ cL (pb s.heap.size) 86 yX5_pottedShare cX5_pottedShare 1 yX6_pottedShare cX6_pottedShare 1 .double okD F INV) (kend : ∀ (G : Nat → va_E) (H1 : Heap) (locs1 : List Loc) (ls1 : Array Slot), INV G → va_P D vwCl (iW (pb s.heap.size) 86 G) H1 → va_S (iA (pb s.heap.size) 86 s.heap.size) s.heap H1 locs1 → lv_has ls1 9 (lvL b s.heap.size i) → W p l e room_1 s m #[Value.ref b] below meth c H1 locs1 (cells + 1) (slots + 6) Q (F0 m 907 ls1 [])) : W p l e room_1 s m #[Value.ref b] below meth c H locs cells slots Q (F0 m 836 ls []) := by
  obtain ⟨hx, hb, hml, hown, hts, hK, hNW, hX, hXN, hXs, hbl, hL30⟩ := hC
  have hDi : iD (pb s.heap.size) 86 := pb_D
  obtain ⟨b9, F1, f5, f6, post, rm5, rm6, hok, h00, hM5, d1, d2, d3, d4, h77, hM6, e1, e2, e3, e4, hq⟩ := ST
  obtain ⟨x, rfl, hcmp⟩ := hok
  refine lv_aload_n hx hb (dk kL_law_8_ok 21 rfl) rfl (lv_at hl 1 rfl) ?_
  refine cvD F1 (As := []) (rest := []) ⟨hx, hb, hml, hown, hts⟩ hM5 (cwVL 0 hts mcX5_pottedShare (lc4 _ (List.mem_of_getElem? (i := 0) rfl)) miX5_pottedShare meX5_pottedShare mini_RX5 d1 d2 hdX5_pottedShare ⟨d3, d4⟩) hDi hK hP hNW hS (k := 0) (by decide) h00 rfl rfl hl.1 rfl (Nat.le_of_ble_eq_true rfl) ⟨Nat.le_trans (Nat.le_add_right _ 1) hcell, Nat.le_trans (Nat.le_add_right _ 6) hslot⟩ (dk kL_law_8_ok 22 rfl) rfl (fun H locs hP hS => ?_)
  refine lv_dstore (lv' := [(5, .double x), (0, .ref b), (1, .ref (pb s.heap.size 0)), (2, .ref (pb s.heap.size 77)), (3, .ref (pb s.heap.size 85)), (4, .int (nI i))]) hx hb (dk kL_law_8_ok 23 rfl) hl (by decide) rfl (fun ls hl => ?_)
  refine lv_aload_n hx hb (dk kL_law_8_ok 24 rfl) rfl (lv_at hl 3 rfl) ?_
  refine cvW (As := []) (rest := []) ⟨hx, hb, hml, hown, hts⟩ hM6 (cwVL 0 hts mcX6_pottedShare (lc4 _ (List.mem_of_getElem? (i := 1) rfl)) miX6_pottedShare meX6_pottedShare mini_RX6 e1 e2 hdX6_pottedShare ⟨e3, e4⟩) hDi hK hP hNW hS (k := 77) (by decide) h77 rfl rfl hl.1 rfl (Nat.le_of_ble_eq_true rfl) ⟨Nat.le_trans (Nat.le_add_right _ 1) hcell, Nat.le_trans (Nat.le_add_right _ 6) hslot⟩ (dk kL_law_8_ok 25 rfl) (fun v G H locs hp hP hS => ?_)
  obtain ⟨⟨b2, hok2, rfl⟩, hINV⟩ := hq v G hp
  obtain ⟨y, rfl, hcmp2⟩ := hok2
  refine W.widen (k := cells + 1) (n := slots + 6) (by omega) (by omega) ?_
  refine W.eq (g2 := F0 m 846 ls [.double y]) rfl ?_
  refine lv_dstore (lv' := [(7, .double y), (5, .double x), (0, .ref b), (1, .ref (pb s.heap.size 0)), (2, .ref (pb s.heap.size 77)), (3, .ref (pb s.heap.size 85)), (4, .int (nI i))]) hx hb (dk kL_law_8_ok 26 rfl) hl (by decide) rfl (fun ls hl => ?_)
  exact lv_goto (tgt := 907) hx hb (dk kL_law_8_ok 27 rfl) (by decide) (kend G H locs ls hINV hP hS (lv_sub hl [2, 3, 4, 5, 6] rfl))
set_option maxRecDepth 100000 in
set_option maxHeartbeats 4000000 in
theorem lw_meanPile {p : Program} {l : Launch} {e : Env} {s : State} {m : MethodId} {below : List Frame} {meth : Method} {c : Code} {H : Heap} {locs : List Loc} {cells slots : Nat} {Q : State → Prop} {ls : Array Slot} {D : va_G} {cI cQ cL : ClassId} {F : Nat → va_E} {b L i : Nat} {xs : Nat → Int32} {INV : (Nat → va_E) → Prop} (hC : LX p s m c b L xs D cI cQ cL) (hi : i + 5 ≤ L) (hP : va_P D vwCl (iW (pb s.heap.size) 86 F) H) (hS : va_S (iA (pb s.heap.size) 86 s.heap.size) s.heap H locs) (hcell : cells + 1 ≤ 601024) (hslot : slots + 6 ≤ 7293034) (hl : lv_has ls 9 (lvL b s.heap.size i)) (ST : STs l D cI cQ cL (pb s.heap.size) 86 yX5_meanPile cX5_meanPile 2 yX6_meanPile cX6_meanPile 1 .float okF F INV) (kend : ∀ (G : Nat → va_E) (H1 : Heap) (locs1 : List Loc) (ls1 : Array Slot), INV G → va_P D vwCl (iW (pb s.heap.size) 86 G) H1 → va_S (iA (pb s.heap.size) 86 s.heap.size) s.heap H1 locs1 → lv_has ls1 9 (lvL b s.heap.size i) → W p l e room_1 s m #[Value.ref b] below meth c H1 locs1 (cells + 1) (slots + 6) Q (F0 m 907 ls1 [])) : W p l e room_1 s m #[Value.ref b] below meth c H locs cells slots Q (F0 m 851 ls []) := by
  obtain ⟨hx, hb, hml, hown, hts, hK, hNW, hX, hXN, hXs, hbl, hL30⟩ := hC
  have hDi : iD (pb s.heap.size) 86 := pb_D
  obtain ⟨b9, F1, f5, f6, post, rm5, rm6, hok, h00, hM5, d1, d2, d3, d4, h77, hM6, e1, e2, e3, e4, hq⟩ := ST
  obtain ⟨x, rfl, hn64, hcmp⟩ := hok
  refine lv_aload_n hx hb (dk kL_law_8_ok 28 rfl) rfl (lv_at hl 1 rfl) ?_
  refine cvD F1 (As := []) (rest := []) ⟨hx, hb, hml, hown, hts⟩ hM5 (cwVL 0 hts mcX5_meanPile (lc4 _ (List.mem_of_getElem? (i := 2) rfl)) miX5_meanPile meX5_meanPile mini_RX5 d1 d2 hdX5_meanPile ⟨d3, d4⟩) hDi hK hP hNW hS (k := 0) (by decide) h00 rfl rfl hl.1 rfl (Nat.le_of_ble_eq_true rfl) ⟨Nat.le_trans (Nat.le_add_right _ 1) hcell, Nat.le_trans (Nat.le_add_right _ 6) hslot⟩ (dk kL_law_8_ok 29 rfl) rfl (fun H locs hP hS => ?_)
  refine lv_f2d hx hb (dk kL_law_8_ok 30 rfl) hn64 ?_
  refine lv_dstore (lv' := [(5, .double (FP.f2d x)), (0, .ref b), (1, .ref (pb s.heap.size 0)), (2, .ref (pb s.heap.size 77)), (3, .ref (pb s.heap.size 85)), (4, .int (nI i))]) hx hb (dk kL_law_8_ok 31 rfl) hl (by decide) rfl (fun ls hl => ?_)
  refine lv_aload_n hx hb (dk kL_law_8_ok 32 rfl) rfl (lv_at hl 3 rfl) ?_
  refine cvW (As := []) (rest := []) ⟨hx, hb, hml, hown, hts⟩ hM6 (cwVL 0 hts mcX6_meanPile (lc4 _ (List.mem_of_getElem? (i := 3) rfl)) miX6_meanPile meX6_meanPile mini_RX6 e1 e2 hdX6_meanPile ⟨e3, e4⟩) hDi hK hP hNW hS (k := 77) (by decide) h77 rfl rfl hl.1 rfl (Nat.le_of_ble_eq_true rfl) ⟨Nat.le_trans (Nat.le_add_right _ 1) hcell, Nat.le_trans (Nat.le_add_right _ 6) hslot⟩ (dk kL_law_8_ok 33 rfl) (fun v G H locs hp hP hS => ?_)
  obtain ⟨rfl, hINV⟩ := hq v G hp
  refine W.widen (k := cells + 1) (n := slots + 6) (by omega) (by omega) ?_
  refine W.eq (g2 := F0 m 862 ls [.float x]) rfl ?_
  refine lv_f2d hx hb (dk kL_law_8_ok 34 rfl) hn64 ?_
  refine lv_dstore (lv' := [(7, .double (FP.f2d x)), (5, .double (FP.f2d x)), (0, .ref b), (1, .ref (pb s.heap.size 0)), (2, .ref (pb s.heap.size 77)), (3, .ref (pb s.heap.size 85)), (4, .int (nI i))]) hx hb (dk kL_law_8_ok 35 rfl) hl (by decide) rfl (fun ls hl => ?_)
  refine lv_dload hx hb (dk kL_law_8_ok 36 rfl) (lv_at hl 1 rfl) ?_
  refine lv_dload hx hb (dk kL_law_8_ok 37 rfl) (lv_at hl 0 rfl) ?_
  refine lv_dcmp hx hb (dk kL_law_8_ok 38 rfl) ?_
  rw [hcmp]
  exact lv_if_eq (tgt := 891) hx hb (dk kL_law_8_ok 39 rfl) (by decide) (fun _ => lv_goto (tgt := 907) hx hb (dk kL_law_8_ok 50 rfl) (by decide) (kend G H locs ls hINV hP hS (lv_sub hl [2, 3, 4, 5, 6] rfl))) (fun h => absurd rfl h)
set_option maxRecDepth 100000 in
set_option maxHeartbeats 4000000 in
theorem lw_digest {p : Program} {l : Launch} {e : Env} {s : State} {m : MethodId} {below : List Frame} {meth : Method} {c : Code} {H : Heap} {locs : List Loc} {cells slots : Nat} {Q : State → Prop} {ls : Array Slot} {D : va_G} {cI cQ cL : ClassId} {F : Nat → va_E} {b L i : Nat} {xs : Nat → Int32} {INV : (Nat → va_E) → Prop} (hC : LX p s m c b L xs D cI cQ cL) (hi : i + 5 ≤ L) (hP : va_P D vwCl (iW (pb s.heap.size) 86 F) H) (hS : va_S (iA (pb s.heap.size) 86 s.heap.size) s.heap H locs) (hcell : cells + 1 ≤ 601024) (hslot : slots + 6 ≤ 7293034) (hl : lv_has ls 9 (lvL b s.heap.size i)) (ST : STs0 l D cI cQ cL (pb s.heap.size) 86 yX5_digest cX5_digest 4 yX6_digest cX6_digest 4 .long okL F INV) (kend : ∀ (G : Nat → va_E) (H1 : Heap) (locs1 : List Loc) (ls1 : Array Slot), INV G → va_P D vwCl (iW (pb s.heap.size) 86 G) H1 → va_S (iA (pb s.heap.size) 86 s.heap.size) s.heap H1 locs1 → lv_has ls1 9 (lvL b s.heap.size i) → W p l e room_1 s m #[Value.ref b] below meth c H1 locs1 (cells + 1) (slots + 6) Q (F0 m 907 ls1 [])) : W p l e room_1 s m #[Value.ref b] below meth c H locs cells slots Q (F0 m 894 ls []) := by
  obtain ⟨hx, hb, hml, hown, hts, hK, hNW, hX, hXN, hXs, hbl, hL30⟩ := hC
  have hDi : iD (pb s.heap.size) 86 := pb_D
  obtain ⟨b9, F1, f5, f6, post, rm5, rm6, hok, h00, hM5, d1, d2, d3, d4, h77, hM6, e1, e2, e3, e4, hq⟩ := ST
  obtain ⟨x, rfl⟩ := hok
  refine lv_aload_n hx hb (dk kL_law_8_ok 51 rfl) rfl (lv_at hl 1 rfl) ?_
  refine cvD F1 (As := []) (rest := []) ⟨hx, hb, hml, hown, hts⟩ hM5 (cwVL 0 hts mcX5_digest (lc4 _ (List.mem_of_getElem? (i := 4) rfl)) miX5_digest meX5_digest mini_RX5 d1 d2 hdX5_digest ⟨d3, d4⟩) hDi hK hP hNW hS (k := 0) (by decide) h00 rfl rfl hl.1 rfl (Nat.le_of_ble_eq_true rfl) ⟨Nat.le_trans (Nat.le_add_right _ 1) hcell, Nat.le_trans (Nat.le_add_right _ 6) hslot⟩ (dk kL_law_8_ok 52 rfl) rfl (fun H locs hP hS => ?_)
  refine lv_pop2_2 hx hb (dk kL_law_8_ok 53 rfl) rfl ?_
  refine lv_aload_n hx hb (dk kL_law_8_ok 54 rfl) rfl (lv_at hl 2 rfl) ?_
  refine cvW (As := []) (rest := []) ⟨hx, hb, hml, hown, hts⟩ hM6 (cwVL 0 hts mcX6_digest (lc4 _ (List.mem_of_getElem? (i := 5) rfl)) miX6_digest meX6_digest mini_RX6 e1 e2 hdX6_digest ⟨e3, e4⟩) hDi hK hP hNW hS (k := 77) (by decide) h77 rfl rfl hl.1 rfl (Nat.le_of_ble_eq_true rfl) ⟨Nat.le_trans (Nat.le_add_right _ 1) hcell, Nat.le_trans (Nat.le_add_right _ 6) hslot⟩ (dk kL_law_8_ok 55 rfl) (fun v G H locs hp hP hS => ?_)
  obtain ⟨⟨b2, hok2, rfl⟩, hINV⟩ := hq v G hp
  obtain ⟨y, rfl⟩ := hok2
  refine W.widen (k := cells + 1) (n := slots + 6) (by omega) (by omega) ?_
  refine W.eq (g2 := F0 m 903 ls [.long y]) rfl ?_
  refine lv_pop2_2 hx hb (dk kL_law_8_ok 56 rfl) rfl ?_
  exact lv_goto (tgt := 907) hx hb (dk kL_law_8_ok 57 rfl) (by decide) (kend G H locs ls hINV hP hS (lv_sub hl [0, 1, 2, 3, 4] rfl))
end
