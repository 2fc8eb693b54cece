/-! rows of the law: its own methods, which catch what the class throws -/
def xnL : List (String × String) := [(eI, eS), (eI, eA), (eS, eI), (eS, eA), (eA, eI), (eA, eS)]
def XN (U : State) : Prop := ∀ q ∈ xnL, va_Nc q.1 q.2 U
theorem XN.same {u U : State} (e : u.vm = U.vm) (h : XN u) : XN U := fun q hq => va_Nc.moved (by rw [e]; exact Vm.Alike.refl U.vm) (h q hq)
theorem XN.warm {s U : State} (hW : s.WarmedH U.vm) (h : XN s) : XN U := fun q hq => va_Nc.moved hW.alike (h q hq)
/-- a method of the law's: an int, a world -/
def ML (l : Launch) (y : MethodName) (ws : List Cond) (rm : Room) (D : va_G) (cI cQ cL : ClassId) (ad : Nat → Nat) (N : Nat) (F : Nat → va_E) (args : List Value) (r : Int32) (G : Nat → va_E) (mc ms : Nat) : Prop :=
  ∀ sz : Nat, Met l y ws rm (va_Pc args (fun U => U.heap.size = sz ∧ iD ad N ∧ rW D cI cQ cL ad N F U ∧ XW ad N sz U ∧ XN U)) (fun _ st o t => o = .returned (some (.int r)) ∧ va_P D vwCl (iW ad N G) t.heap ∧ va_F (iA ad N sz) st t) mc ms (iA ad N sz)
theorem ML_blind {D : va_G} {cI cQ cL : ClassId} {ad : Nat → Nat} {N : Nat} {F : Nat → va_E} {args : List Value} {sz : Nat} : FrameBlind (va_Pc args (fun U => U.heap.size = sz ∧ iD ad N ∧ rW D cI cQ cL ad N F U ∧ XW ad N sz U ∧ XN U)) :=
  fun a U g mk q => ⟨q.1, q.2.1, q.2.2.1, ⟨q.2.2.2.1.1, va_K.moved (u := U) (U := U.calling g mk a) (Vm.Alike.refl U.vm) q.2.2.2.1.2.1, NW.same rfl q.2.2.2.1.2.2⟩, XW.same rfl rfl q.2.2.2.2.1, XN.same rfl q.2.2.2.2.2⟩
theorem ml_of {l : Launch} {y : MethodName} {rm : Room} {cc : ByteArray} {maxL : Nat} {hh : List (Nat × Nat × Nat × Nat)} {D : va_G} {cI cQ cL : ClassId} {ad : Nat → Nat} {N : Nat} {F G : Nat → va_E} {args : List Value} {r : Int32} {mc ms : Nat}
    (hy : plainName y.cls = true) (hlen : (lg_sl args).length ≤ maxL)
    (body : ∀ (p : Program) (e : Env) (s : State) (m : MethodId) (below : List Frame) (meth : Method) (c : Code) (Q : State → Prop) (ls : Array Slot),
      p.tables.exec = Jvm.exec → c.code = cc → c.maxLocals = maxL → s.vm.findClass y.cls = some m.cls → (∀ w ∈ LW, w.before args.toArray s = true) → c.exceptionTable.toList = tableOf hh → iD ad N → va_P D vwCl (iW ad N F) s.heap → va_K D vwCl (iT cI cQ cL) s → NW s → va_S (iA ad N s.heap.size) s.heap s.heap [] → XW ad N s.heap.size s → XN s →
      (∀ (pc : Nat) (ls : Array Slot) (H : Heap) (locs : List Loc) (k n : Nat), va_P D vwCl (iW ad N G) H → va_S (iA ad N s.heap.size) s.heap H locs → k ≤ mc → n ≤ ms → decode cc pc = .ok (.ireturn, 1) → W p l e rm s m args.toArray below meth c H locs k n Q (F0 m pc ls [.int r])) →
      lv_has ls maxL (lv_args 0 args) → W p l e rm s m args.toArray below meth c s.heap [] 0 0 Q (F0 m 0 ls [])) : ML l y (Cond.codeWith y cc maxL (some .int) hh :: LW) rm D cI cQ cL ad N F args r G mc ms := by
  intro sz
  refine MetFree.of_bodyS (code := cc) (maxLocals := maxL) (ret := some .int) hy ?_ ?_
  · intro args s m h hn
    obtain ⟨m9, meth, c, hn9, h1, h2, h3, h4, -, h5, h6, -⟩ := Cond.codeWith_spec (atoms_spec (ws := Cond.codeWith y cc maxL (some .int) hh :: LW) h _ List.mem_cons_self)
    cases hn.symm.trans hn9
    exact ⟨meth, c, h1, h2, h3, h4, h5, h6⟩
  · intro p e s m args9 below meth c s₁ B hml hv _
    have hh0 : s₁.heap = s.heap := by rw [B.state]; rfl
    obtain ⟨rfl, hsz, hDi, ⟨hP, hK, hNW⟩, hX, hN⟩ := hv
    subst hsz
    have hts := atoms_spec (ws := Cond.codeWith y cc maxL (some .int) hh :: LW) B.pre
    have hl := lv_entry args (n := maxL) hlen
    have K : W p l e rm s m args.toArray below meth c s.heap [] 0 0 (MQ below (fun _ st o t => o = .returned (some (.int r)) ∧ va_P D vwCl (iW ad N G) t.heap ∧ va_F (iA ad N s.heap.size) st t) args.toArray s mc ms (iA ad N s.heap.size)) (entryFrame m args.toArray maxL) := by
      rw [lg_entry_eq]
      exact body p e s m below meth c _ _ B.exec B.bytes hml (findClass_of_methodNamed B.named) (fun w h => hts w (List.mem_cons_of_mem _ h)) (vx_table (x := y) (S := headSpec (Cond.codeWith y cc maxL (some .int) hh :: LW) rm) B (hts _ List.mem_cons_self)) hDi hP hK hNW va_S.rf hX hN (fun pc ls H locs k n hP1 hS h1 h2 hd => by
        refine W.widen (k := mc) (n := ms) h1 h2 ?_
        exact W.zret B.exec B.bytes B.returns rfl (fun t ht _ => ⟨rfl, by rw [ht]; exact hP1, hS.F ht⟩) hS.2.2 hd B.notSynchronized) hl
    obtain ⟨t, a1, o, b1, b2, b3⟩ := K s₁ hh0 (Stand.of_body B)
    exact ⟨t, o, a1, b1, b2, ⟨b3.1, b3.2⟩⟩
/-- the same, the world told in part -/
def MLE (l : Launch) (y : MethodName) (ws : List Cond) (rm : Room) (D : va_G) (cI cQ cL : ClassId) (ad : Nat → Nat) (N : Nat) (F : Nat → va_E) (args : List Value) (r : Int32) (PG : (Nat → va_E) → Prop) (mc ms : Nat) : Prop :=
  ∀ sz : Nat, Met l y ws rm (va_Pc args (fun U => U.heap.size = sz ∧ iD ad N ∧ rW D cI cQ cL ad N F U ∧ XW ad N sz U ∧ XN U)) (fun _ st o t => o = .returned (some (.int r)) ∧ (∃ G, PG G ∧ va_P D vwCl (iW ad N G) t.heap) ∧ va_F (iA ad N sz) st t) mc ms (iA ad N sz)
theorem mlE_of {l : Launch} {y : MethodName} {rm : Room} {cc : ByteArray} {maxL : Nat} {hh : List (Nat × Nat × Nat × Nat)} {D : va_G} {cI cQ cL : ClassId} {ad : Nat → Nat} {N : Nat} {F : Nat → va_E} {PG : (Nat → va_E) → Prop} {args : List Value} {r : Int32} {mc ms : Nat}
    (hy : plainName y.cls = true) (hlen : (lg_sl args).length ≤ maxL)
    (body : ∀ (p : Program) (e : Env) (s : State) (m : MethodId) (below : List Frame) (meth : Method) (c : Code) (Q : State → Prop) (ls : Array Slot),
      p.tables.exec = Jvm.exec → c.code = cc → c.maxLocals = maxL → s.vm.findClass y.cls = some m.cls → (∀ w ∈ LW, w.before args.toArray s = true) → c.exceptionTable.toList = tableOf hh → iD ad N → va_P D vwCl (iW ad N F) s.heap → va_K D vwCl (iT cI cQ cL) s → NW s → va_S (iA ad N s.heap.size) s.heap s.heap [] → XW ad N s.heap.size s → XN s →
      (∀ (pc : Nat) (ls : Array Slot) (H : Heap) (locs : List Loc) (k n : Nat) (G : Nat → va_E), PG G → va_P D vwCl (iW ad N G) H → va_S (iA ad N s.heap.size) s.heap H locs → k ≤ mc → n ≤ ms → decode cc pc = .ok (.ireturn, 1) → W p l e rm s m args.toArray below meth c H locs k n Q (F0 m pc ls [.int r])) →
      lv_has ls maxL (lv_args 0 args) → W p l e rm s m args.toArray below meth c s.heap [] 0 0 Q (F0 m 0 ls [])) : MLE l y (Cond.codeWith y cc maxL (some .int) hh :: LW) rm D cI cQ cL ad N F args r PG mc ms := by
  intro sz
  refine MetFree.of_bodyS (code := cc) (maxLocals := maxL) (ret := some .int) hy ?_ ?_
  · intro args s m h hn
    obtain ⟨m9, meth, c, hn9, h1, h2, h3, h4, -, h5, h6, -⟩ := Cond.codeWith_spec (atoms_spec (ws := Cond.codeWith y cc maxL (some .int) hh :: LW) h _ List.mem_cons_self)
    cases hn.symm.trans hn9
    exact ⟨meth, c, h1, h2, h3, h4, h5, h6⟩
  · intro p e s m args9 below meth c s₁ B hml hv _
    have hh0 : s₁.heap = s.heap := by rw [B.state]; rfl
    obtain ⟨rfl, hsz, hDi, ⟨hP, hK, hNW⟩, hX, hN⟩ := hv
    subst hsz
    have hts := atoms_spec (ws := Cond.codeWith y cc maxL (some .int) hh :: LW) B.pre
    have hl := lv_entry args (n := maxL) hlen
    have K : W p l e rm s m args.toArray below meth c s.heap [] 0 0 (MQ below (fun _ st o t => o = .returned (some (.int r)) ∧ (∃ G, PG G ∧ va_P D vwCl (iW ad N G) t.heap) ∧ va_F (iA ad N s.heap.size) st t) args.toArray s mc ms (iA ad N s.heap.size)) (entryFrame m args.toArray maxL) := by
      rw [lg_entry_eq]
      exact body p e s m below meth c _ _ B.exec B.bytes hml (findClass_of_methodNamed B.named) (fun w h => hts w (List.mem_cons_of_mem _ h)) (vx_table (x := y) (S := headSpec (Cond.codeWith y cc maxL (some .int) hh :: LW) rm) B (hts _ List.mem_cons_self)) hDi hP hK hNW va_S.rf hX hN (fun pc ls H locs k n G hG hP1 hS h1 h2 hd => by
        refine W.widen (k := mc) (n := ms) h1 h2 ?_
        exact W.zret B.exec B.bytes B.returns rfl (fun t ht _ => ⟨rfl, ⟨G, hG, by rw [ht]; exact hP1⟩, hS.F ht⟩) hS.2.2 hd B.notSynchronized) hl
    obtain ⟨t, a1, o, b1, b2, b3⟩ := K s₁ hh0 (Stand.of_body B)
    exact ⟨t, o, a1, b1, b2, ⟨b3.1, b3.2⟩⟩
theorem gInL {y : Cond} (h : y ∈ AW) : GoodIn LW (y :: AW) := by
  intro w hw
  have hm : w ∈ AW := by
    rcases List.mem_cons.mp hw with rfl | h9
    · exact h
    · exact h9
  exact ⟨lcA _ hm, good_of_word (List.all_eq_true.mp AW_good w hm)⟩
theorem gInLS {own : String} {index : Nat} {y : MethodName} {x : Cond} (hl : Cond.methodLink own index y ∈ LW) (hs : Cond.static y ∈ LW) (hi : Cond.initialized y.cls ∈ LW) (hx : x ∈ LW) : GoodIn LW (va_wsS own index y (x :: LW)) := by
  intro w hw
  have hm : w ∈ LW := by
    unfold va_wsS at hw
    simp only [List.mem_append, List.mem_cons, List.not_mem_nil, or_false] at hw
    first
      | (rcases hw with (rfl | rfl | rfl) | (rfl | h) <;> assumption)
      | (rcases hw with rfl | rfl | rfl | rfl | h <;> assumption)
  exact ⟨hm, good_of_word (List.all_eq_true.mp LW_good w hm)⟩
theorem cwVL {s : State} {args : Array Value} {R rm : Room} {own C : String} {index maxL mc ms : Nat} {y : MethodName} {bytes : ByteArray} {ret : Option FieldType} (n : Nat) (ht : ∀ w ∈ LW, w.before args s = true) (hc : Cond.code y bytes maxL ret ∈ AW) (hl : Cond.methodLink own index y ∈ LW) (hi : Cond.instanceMethod y ∈ AW) (he : Cond.selects C y y ∈ AW) (hini : Cond.initialized y.cls ∈ AW) (hrc : rm.cells = mc) (hrs : rm.slots = ms)
    (hd : y.cls ≠ "java/lang/invoke/MethodHandle" ∧ y.cls ≠ "java/lang/invoke/VarHandle" ∧ (parseMethodDescriptor y.desc).map (fun d => d.parameters.length) = some n) (hR : rm.frames + 1 ≤ R.frames ∧ 8 + (maxL + 11) + rm.locals ≤ R.locals) : CallW R s args own C index y bytes maxL ret (Cond.code y bytes maxL ret :: AW) rm mc ms n :=
  ⟨callB_of n ht (gInL hc) rfl hrc hrs (ht _ (lcA _ hini)) (ht _ hl) hd hR, ht _ (lcA _ hi), ht _ (lcA _ he)⟩
section LROWS
variable {p : Program} {l : Launch} {e : Env} {R : Room} {s : State} {m : MethodId} {args : Array Value} {below : List Frame} {meth : Method} {c : Code} {H : Heap} {locs : List Loc} {cells slots : Nat} {Q : State → Prop}
variable {cc : ByteArray} {pc : Nat} {ls : Array Slot} {rest st0 : List Value} {D : va_G} {cI cQ cL : ClassId} {ad : Nat → Nat} {N : Nat} {F : Nat → va_E} {Ts : List Cond}
/-- a call of a virtual method that throws -/
theorem cvT {nL index na mc ms : Nat} {own C : String} {y : MethodName} {bytes : ByteArray} {maxL : Nat} {ret : Option FieldType} {ws : List Cond} {rm : Room} {As : List Value} {E : String} {k ci n : Nat} {T : u_T} {fs : List Value}
    (S : CallFix p m c cc nL s args Ts own) (hM : MT l y ws rm D cI cQ cL ad N F (.ref (ad k) :: As) E mc ms) (cw : CallW R s args own C index y bytes maxL ret ws rm mc ms na) (hDi : iD ad N) (hK : va_K D vwCl (iT cI cQ cL) s) (hP : va_P D vwCl (iW ad N F) H) (hNW : NW s) (hS : va_S (iA ad N s.heap.size) s.heap H locs) (hX : XW ad N s.heap.size s) (hk : k < N) (hF : F k = .inr (ci, fs)) (hc : vwCl[ci]? = some (C, T, n))
    (hn : As.length = na) (hsize : ls.size = nL) (hstack : st0 = As.reverse ++ .ref (ad k) :: rest) (hW : (rest.map fun v => v.category).sum ≤ 8) (hf : cells + mc ≤ R.cells ∧ slots + ms ≤ R.slots) (hdg : decode cc pc = .ok (.invokevirtual index, 3))
    (kx : ∀ (H1 : Heap) (locs1 : List Loc) (q : Addr) (ce : Cell), va_P D vwCl (iW ad N F) H1 → va_S (iA ad N s.heap.size) s.heap H1 locs1 → H1[q]? = some ce → ce.vm = .none → s.vm.findClass E = some ce.cls → vx_W p l e R s m args below meth c H1 locs1 (cells + mc) (slots + ms) Q (F0 m pc ls rest) q) : W p l e R s m args below meth c H locs cells slots Q (F0 m pc ls st0) := by
  have hr := vx_runV (g := F0 m pc ls st0) (p := p) (l := l) (e := e) (R := R) (m := m) (meth := meth) (below := below) (H := H) (locs := locs) (cells := cells) (slots := slots) S (hM H.size) cw ⟨MT_blind, icond hK hP hk hF hc, fun U hU hW => MT_pre hDi hK hP hNW hS hX hU hW⟩ rfl hn hsize hstack (lv_room hW) hdg hf
  intro T hT X
  rcases hr T hT X with ⟨v, st₀, t, T', L, h0, X', hL, e1, e2, hfalse, st⟩ | ⟨q, st₀, t, T', L, E9, ce, h0, X', hL, e1, e2, ⟨rfl, hb, hF⟩, hce, hcv, hcl, st⟩
  · exact hfalse.elim
  · obtain ⟨-, -, k3⟩ := vx_keep h0 e1 hS (fun q _ h => iA_up hS q h) (iA_up hS) hL hF
    obtain ⟨t2, a1, b1⟩ := kx T'.heap (locs ++ L) q ce (by rw [e1]; exact hb) k3 (by rw [e1]; exact hce) hcv hcl T' rfl X'
    exact ⟨t2, st.trans a1, b1⟩
/-- a long kept in a row of one -/
theorem lst (F' : Nat → va_E) (hx : p.tables.exec = Jvm.exec) (hb : c.code = cc) (hK : va_K D vwCl (iT cI cQ cL) s) (hDi : iD ad N) (hP : va_P D vwCl (iW ad N F) H) (hS : va_S (iA ad N s.heap.size) s.heap H locs) {k : Nat} {o : Nat → Int64} {z : Int64} (hk : k < N) (hF : F k = .inl (cL, 1, .inr (.inl o))) (hdg : decode cc pc = .ok (.lastore, 1)) (hcan : va_up F k (.inl (cL, 1, .inr (.inl (vp_updL o 0 z)))) = F')
    (kk : ∀ (H1 : Heap) (locs1 : List Loc), va_P D vwCl (iW ad N F') H1 → va_S (iA ad N s.heap.size) s.heap H1 locs1 → W p l e R s m args below meth c H1 locs1 cells slots Q (F0 m (pc + 1) ls rest)) : W p l e R s m args below meth c H locs cells slots Q (F0 m pc ls (.long z :: .int (nI 0) :: .ref (ad k) :: rest)) := by
  refine va_last hx hb hK hP (iA_D hDi) hS k 2 (iW_at hk hF) rfl (vp_in_nI (by decide) (by decide)) hdg (fun H1 locs1 hP1 hD1 hS1 => kk H1 locs1 ?_ hS1)
  rw [nI_clamp (by decide), iW_set hk, hcan] at hP1
  exact hP1
theorem lld (hx : p.tables.exec = Jvm.exec) (hb : c.code = cc) (hK : va_K D vwCl (iT cI cQ cL) s) (hP : va_P D vwCl (iW ad N F) H) {k : Nat} {o : Nat → Int64} (hk : k < N) (hF : F k = .inl (cL, 1, .inr (.inl o))) (hdg : decode cc pc = .ok (.laload, 1))
    (kk : W p l e R s m args below meth c H locs cells slots Q (F0 m (pc + 1) ls (.long (o 0) :: rest))) : W p l e R s m args below meth c H locs cells slots Q (F0 m pc ls (.int (nI 0) :: .ref (ad k) :: rest)) := by
  refine va_lald hx hb hK hP k 2 (iW_at hk hF) rfl (vp_in_nI (by decide) (by decide)) hdg ?_
  rw [nI_clamp (by decide)]
  exact kk
theorem ML_pre {argl : List Value} {U : State} (hDi : iD ad N) (hK : va_K D vwCl (iT cI cQ cL) s) (hP : va_P D vwCl (iW ad N F) H) (hNW : NW s) (hS : va_S (iA ad N s.heap.size) s.heap H locs) (hX : XW ad N s.heap.size s) (hN : XN s) (hU : U.heap = H) (hW : s.WarmedH U.vm) : va_Pc argl (fun U => U.heap.size = H.size ∧ iD ad N ∧ rW D cI cQ cL ad N F U ∧ XW ad N H.size U ∧ XN U) argl.toArray U :=
  ⟨rfl, by rw [hU], hDi, ⟨by rw [hU]; exact hP, va_K.moved hW.alike hK, hNW.warm hW⟩, hX.go hS hU hW, hN.warm hW⟩
/-- a call of one of the law's own methods -/
theorem csL {nL index na mc ms : Nat} {own : String} {y : MethodName} {bytes : ByteArray} {maxL : Nat} {ret : Option FieldType} {hh : List (Nat × Nat × Nat × Nat)} {ws : List Cond} {rm : Room} {As : List Value} {r : Int32} {G : Nat → va_E}
    (S : CallFix p m c cc nL s args Ts own) (hM : ML l y ws rm D cI cQ cL ad N F As r G mc ms) (cw : vx_CSW R s args own index y bytes maxL ret hh ws rm mc ms na) (hDi : iD ad N) (hK : va_K D vwCl (iT cI cQ cL) s) (hP : va_P D vwCl (iW ad N F) H) (hNW : NW s) (hS : va_S (iA ad N s.heap.size) s.heap H locs) (hX : XW ad N s.heap.size s) (hN : XN s)
    (hn : As.length = na) (hsize : ls.size = nL) (hstack : st0 = As.reverse ++ rest) (hW : (rest.map fun v => v.category).sum ≤ 8) (hf : cells + mc ≤ R.cells ∧ slots + ms ≤ R.slots) (hdg : decode cc pc = .ok (.invokestatic index, 3))
    (kk : ∀ (H1 : Heap) (locs1 : List Loc), va_P D vwCl (iW ad N G) H1 → va_S (iA ad N s.heap.size) s.heap H1 locs1 → W p l e R s m args below meth c H1 locs1 (cells + mc) (slots + ms) Q (F0 m (pc + 3) ls (.int r :: rest))) : W p l e R s m args below meth c H locs cells slots Q (F0 m pc ls st0) := by
  have hr := vx_runSW (g := F0 m pc ls st0) (p := p) (l := l) (e := e) (R := R) (m := m) (meth := meth) (below := below) (H := H) (locs := locs) (cells := cells) (slots := slots) S (hM H.size) cw ⟨ML_blind, fun U hU hW => ML_pre hDi hK hP hNW hS hX hN hU hW⟩ rfl hn hsize hstack (lv_room hW) hdg hf
  intro T hT X
  obtain ⟨v, st₀, t, T', L, h0, X', hL, e1, e2, ⟨hv, hb, hF⟩, st⟩ := hr T hT X
  cases hv
  obtain ⟨-, -, k3⟩ := vx_keep h0 e1 hS (fun q _ h => iA_up hS q h) (iA_up hS) hL hF
  obtain ⟨t2, a1, b1⟩ := kk T'.heap (locs ++ L) (by rw [e1]; exact hb) k3 T' rfl X'
  exact ⟨t2, st t2 a1, b1⟩
/-- a call of one of the law's own methods -/
theorem csLE {nL index na mc ms : Nat} {own : String} {y : MethodName} {bytes : ByteArray} {maxL : Nat} {ret : Option FieldType} {hh : List (Nat × Nat × Nat × Nat)} {ws : List Cond} {rm : Room} {As : List Value} {r : Int32} {PG : (Nat → va_E) → Prop}
    (S : CallFix p m c cc nL s args Ts own) (hM : MLE l y ws rm D cI cQ cL ad N F As r PG mc ms) (cw : vx_CSW R s args own index y bytes maxL ret hh ws rm mc ms na) (hDi : iD ad N) (hK : va_K D vwCl (iT cI cQ cL) s) (hP : va_P D vwCl (iW ad N F) H) (hNW : NW s) (hS : va_S (iA ad N s.heap.size) s.heap H locs) (hX : XW ad N s.heap.size s) (hN : XN s)
    (hn : As.length = na) (hsize : ls.size = nL) (hstack : st0 = As.reverse ++ rest) (hW : (rest.map fun v => v.category).sum ≤ 8) (hf : cells + mc ≤ R.cells ∧ slots + ms ≤ R.slots) (hdg : decode cc pc = .ok (.invokestatic index, 3))
    (kk : ∀ (G : Nat → va_E) (H1 : Heap) (locs1 : List Loc), PG G → va_P D vwCl (iW ad N G) H1 → va_S (iA ad N s.heap.size) s.heap H1 locs1 → W p l e R s m args below meth c H1 locs1 (cells + mc) (slots + ms) Q (F0 m (pc + 3) ls (.int r :: rest))) : W p l e R s m args below meth c H locs cells slots Q (F0 m pc ls st0) := by
  have hr := vx_runSW (g := F0 m pc ls st0) (p := p) (l := l) (e := e) (R := R) (m := m) (meth := meth) (below := below) (H := H) (locs := locs) (cells := cells) (slots := slots) S (hM H.size) cw ⟨ML_blind, fun U hU hW => ML_pre hDi hK hP hNW hS hX hN hU hW⟩ rfl hn hsize hstack (lv_room hW) hdg hf
  intro T hT X
  obtain ⟨v, st₀, t, T', L, h0, X', hL, e1, e2, ⟨hv, ⟨G, hG, hb⟩, hF⟩, st⟩ := hr T hT X
  cases hv
  obtain ⟨-, -, k3⟩ := vx_keep h0 e1 hS (fun q _ h => iA_up hS q h) (iA_up hS) hL hF
  obtain ⟨t2, a1, b1⟩ := kk G T'.heap (locs ++ L) hG (by rw [e1]; exact hb) k3 T' rfl X'
  exact ⟨t2, st t2 a1, b1⟩
end LROWS
theorem XWc {ad : Nat → Nat} {N sz : Nat} {s : State} {args : Array Value} (hX : XW ad N sz s) {E : String} (hE : E ∈ xbC) : (Cond.castable E E).before args s = true := va_Nw.use rfl (hX.2.1 E hE)
theorem XNn {s : State} (hN : XN s) {E nm : String} (h : (E, nm) ∈ xnL) : va_Nc E nm s := hN _ h
/-- a method that reads is one that writes nothing -/
theorem MX_of_MR {l : Launch} {y : MethodName} {ws : List Cond} {rm : Room} {D : va_G} {cI cQ cL : ClassId} {ad : Nat → Nat} {N : Nat} {F : Nat → va_E} {args : List Value} {r : Value} (h : MR l y ws rm D cI cQ cL ad N F args r) : MX l y ws rm D cI cQ cL ad N F args (dp (some r) F) 0 0 := by
  intro sz p e ha hc hk s m args9 below hf hS hP hK9
  obtain ⟨n, o, a1, a2, a3, a4⟩ := h p e ha hc hk s m args9 below hf hS ⟨hP.1, hP.2.2.2⟩ hK9
  refine ⟨n, o, a1, a2, a3, ?_⟩
  obtain ⟨⟨hv, hh⟩, L, hF, hL⟩ := a4
  refine ⟨⟨some r, F, hv, ⟨rfl, rfl⟩, ?_, ?_⟩, L, hF, fun q hq => (hL q hq).elim⟩
  · rw [hh]
    exact hP.2.2.2.1
  · unfold va_F
    rw [hh]
    exact ⟨Nat.le_refl _, fun _ _ _ => rfl⟩
theorem MLE_of_ML {l : Launch} {y : MethodName} {ws : List Cond} {rm : Room} {D : va_G} {cI cQ cL : ClassId} {ad : Nat → Nat} {N : Nat} {F G : Nat → va_E} {args : List Value} {r : Int32} {mc ms : Nat} (h : ML l y ws rm D cI cQ cL ad N F args r G mc ms) : MLE l y ws rm D cI cQ cL ad N F args r (fun G9 => G9 = G) mc ms := by
  intro sz p e ha hc hk s m args9 below hf hS hP hK9
  obtain ⟨n, o, a1, a2, a3, q, a4⟩ := h sz p e ha hc hk s m args9 below hf hS hP hK9
  exact ⟨n, o, a1, a2, a3, ⟨q.1, ⟨G, rfl, q.2.1⟩, q.2.2⟩, a4⟩
/-- the same contents as far as the lengths go -/
def eqv (N : Nat) (F F' : Nat → va_E) : Prop := ∀ k, k < N → F k = F' k ∨ ∃ (cA : ClassId) (n : Nat) (f g : Nat → Int32), F k = .inl (cA, n, .inl f) ∧ F' k = .inl (cA, n, .inl g) ∧ ∀ j, j < n → f j = g j
theorem MX_eqv {l : Launch} {y : MethodName} {ws : List Cond} {rm : Room} {D : va_G} {cI cQ cL : ClassId} {ad : Nat → Nat} {N : Nat} {F F' : Nat → va_E} {args : List Value} {post : Option Value → (Nat → va_E) → Prop} {mc ms : Nat} (h : MX l y ws rm D cI cQ cL ad N F' args post mc ms) (q : eqv N F F') : MX l y ws rm D cI cQ cL ad N F args post mc ms := by
  intro sz p e ha hc hk s m args9 below hf hS hP hK9
  exact h sz p e ha hc hk s m args9 below hf hS ⟨hP.1, hP.2.1, hP.2.2.1, ⟨iW_ext hP.2.2.2.1 q, hP.2.2.2.2⟩⟩ hK9
theorem ML_eqv {l : Launch} {y : MethodName} {ws : List Cond} {rm : Room} {D : va_G} {cI cQ cL : ClassId} {ad : Nat → Nat} {N : Nat} {F F' G : Nat → va_E} {args : List Value} {r : Int32} {mc ms : Nat} (h : ML l y ws rm D cI cQ cL ad N F' args r G mc ms) (q : eqv N F F') : ML l y ws rm D cI cQ cL ad N F args r G mc ms := by
  intro sz p e ha hc hk s m args9 below hf hS hP hK9
  exact h sz p e ha hc hk s m args9 below hf hS ⟨hP.1, hP.2.1, hP.2.2.1, ⟨iW_ext hP.2.2.2.1.1 q, hP.2.2.2.1.2⟩, hP.2.2.2.2⟩ hK9
theorem MLE_eqv {l : Launch} {y : MethodName} {ws : List Cond} {rm : Room} {D : va_G} {cI cQ cL : ClassId} {ad : Nat → Nat} {N : Nat} {F F' : Nat → va_E} {args : List Value} {r : Int32} {PG : (Nat → va_E) → Prop} {mc ms : Nat} (h : MLE l y ws rm D cI cQ cL ad N F' args r PG mc ms) (q : eqv N F F') : MLE l y ws rm D cI cQ cL ad N F args r PG mc ms := by
  intro sz p e ha hc hk s m args9 below hf hS hP hK9
  exact h sz p e ha hc hk s m args9 below hf hS ⟨hP.1, hP.2.1, hP.2.2.1, ⟨iW_ext hP.2.2.2.1.1 q, hP.2.2.2.1.2⟩, hP.2.2.2.2⟩ hK9
