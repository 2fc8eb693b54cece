abbrev eS : String := "java/lang/IllegalStateException"
abbrev eA : String := "java/lang/IllegalArgumentException"
abbrev eI : String := "java/lang/IndexOutOfBoundsException"
abbrev eN : List String := ["java/lang/RuntimeException", "java/lang/Exception"]
def thrW : List (Nat × Nat × String) := [(63, 67, eS), (104, 108, eA), (196, 200, eI)]
def strW : List (Nat × String) := [(65, "the wink can not fly"), (88, "the pile can not be lifted"), (106, "the setting is 1 to 6"), (121, "the wink can not be put"), (126, "a character code is 33 to 126"), (131, "the buffer is full"), (143, "the buffer is not a complete game"), (154, "there is no snapshot"), (159, "there is no saved state"), (180, "what is 0 to 6"), (191, "what is 0 to 3"), (198, "a colour is 0 to 3"), (246, "what is 0 to 13"), (260, "what is 0 or 1"), (355, "a wink is 0 to 15"), (361, "x and y are 0 to 12"), (366, "a force is 1 to 9"), (368, "1 to 6 winks are lifted"), (370, "a direction is 0 to 7")]
def xbD : List MethodName := [Bundle.initS "java/lang/RuntimeException", Bundle.initS "java/lang/Exception", Bundle.initS Bundle.tN]
def xbC : List String := [eS, eA, eI]
/-- what a throw needs beyond the words -/
def XW (ad : Nat → Nat) (N sz : Nat) (U : State) : Prop := (∀ y ∈ xbD, va_Nw (.declares y) U) ∧ (∀ c ∈ xbC, va_Nw (.castable c c) U) ∧ (∀ q ∈ strW, ∃ a, vk_R RX5 q.1 q.2 a U) ∧ vx_Zq Bundle.tN "UNASSIGNED_STACK" Bundle.steD (iA ad N sz) U U.heap ∧ vx_Zq Bundle.tN "SUPPRESSED_SENTINEL" Bundle.listD (iA ad N sz) U U.heap
theorem XW.same {ad : Nat → Nat} {N sz : Nat} {u U : State} (e : u.vm = U.vm) (eh : u.heap = U.heap) (h : XW ad N sz u) : XW ad N sz U := by
  obtain ⟨h1, h2, h3, h4, h5⟩ := h
  refine ⟨fun y hy => va_Nw.same rfl e (h1 y hy), fun c hc => va_Nw.same rfl e (h2 c hc), fun q hq => ?_, ?_, ?_⟩
  · obtain ⟨a, ha⟩ := h3 q hq
    exact ⟨a, vk_R.same e.symm ha⟩
  · rw [← eh]
    exact vx_Zq.moved (by rw [e]; exact Vm.Alike.refl U.vm) h4
  · rw [← eh]
    exact vx_Zq.moved (by rw [e]; exact Vm.Alike.refl U.vm) h5
theorem XW.go {ad : Nat → Nat} {N : Nat} {s U : State} {H : Heap} {locs : List Loc} (hS : va_S (iA ad N s.heap.size) s.heap H locs) (hU : U.heap = H) (hW : s.WarmedH U.vm) (h : XW ad N s.heap.size s) : XW ad N H.size U := by
  obtain ⟨h1, h2, h3, h4, h5⟩ := h
  refine ⟨fun y hy => va_Nw.warmD hW (h1 y hy), fun c hc => va_Nw.warmC hW (h2 c hc), fun q hq => ?_, ?_, ?_⟩
  · obtain ⟨a, ha⟩ := h3 q hq
    exact ⟨a, vk_R.warm hW ha⟩
  · rw [hU]
    exact (vx_Zq.moved hW.alike (h4.kept hS.2.1)).narrow (iA_up hS)
  · rw [hU]
    exact (vx_Zq.moved hW.alike (h5.kept hS.2.1)).narrow (iA_up hS)
/-- a method that throws E, and changes nothing -/
def MT (l : Launch) (y : MethodName) (ws : List Cond) (rm : Room) (D : va_G) (cI cQ cL : ClassId) (ad : Nat → Nat) (N : Nat) (F : Nat → va_E) (args : List Value) (E : String) (mc ms : Nat) : Prop :=
  ∀ sz : Nat, vx_Met l y ws rm (va_Pc args (fun U => U.heap.size = sz ∧ iD ad N ∧ rW D cI cQ cL ad N F U ∧ XW ad N sz U)) (fun _ _ _ _ => False) (fun E' st t => E' = E ∧ va_P D vwCl (iW ad N F) t.heap ∧ va_F (iA ad N sz) st t) mc ms (iA ad N sz)
theorem MT_blind {D : va_G} {cI cQ cL : ClassId} {ad : Nat → Nat} {N : Nat} {F : Nat → va_E} {args : List Value} {sz : Nat} : FrameBlind (va_Pc args (fun U => U.heap.size = sz ∧ iD ad N ∧ rW D cI cQ cL ad N F U ∧ XW ad N sz U)) :=
  fun a U g mk q => ⟨q.1, q.2.1, q.2.2.1, ⟨q.2.2.2.1.1, va_K.moved (u := U) (U := U.calling g mk a) (Vm.Alike.refl U.vm) q.2.2.2.1.2.1, NW.same rfl q.2.2.2.1.2.2⟩, XW.same rfl rfl q.2.2.2.2⟩
theorem thr_hat {args : Array Value} {s : State} {x : Cond} {ad : Nat → Nat} {N sz : Nat} {ik ic : Nat} {cls : String} (hin : (ik, ic, cls) ∈ thrW) (hts : ∀ w ∈ x :: AW, w.before args s = true) (hX : XW ad N sz s) : (Cond.classLink RX5 ik cls).before args s = true ∧ (Cond.initialized cls).before args s = true ∧ (∀ w ∈ vx_atS RX5 ic cls eN, w.before args s = true) ∧ (∀ w ∈ Cond.classLink RX5 ik cls :: Cond.initialized cls :: vx_atS RX5 ic cls eN, vx_ot w = true) ∧ Bundle.fit cls = true := by
  have hB : ∀ w ∈ (xbD.map Cond.declares ++ xbC.map (fun c => Cond.castable c c)), w.before args s = true := by
    intro w hw
    rcases List.mem_append.mp hw with h | h
    · obtain ⟨y, hy, rfl⟩ := List.mem_map.mp h
      exact va_Nw.use rfl (hX.1 y hy)
    · obtain ⟨c, hc, rfl⟩ := List.mem_map.mp h
      exact va_Nw.use rfl (hX.2.1 c hc)
  have hin2 : (ik, ic, cls) = (63, 67, eS) ∨ (ik, ic, cls) = (104, 108, eA) ∨ (ik, ic, cls) = (196, 200, eI) := by
    simpa [thrW] using hin
  rcases hin2 with h | h | h
  · cases h
    refine ⟨(hts _ (List.mem_cons_of_mem _ (ac9 _ (List.mem_of_getElem? (i := 4) rfl)))), (hts _ (List.mem_cons_of_mem _ (ac9 _ (List.mem_of_getElem? (i := 5) rfl)))), vx_hat (B := xbD.map Cond.declares ++ xbC.map (fun c => Cond.castable c c)) (fun w hw => hts _ (List.mem_cons_of_mem _ (acV0 w hw))) (by decide +kernel) hB, by decide +kernel, by decide +kernel⟩
  · cases h
    refine ⟨(hts _ (List.mem_cons_of_mem _ (ac8 _ (List.mem_of_getElem? (i := 23) rfl)))), (hts _ (List.mem_cons_of_mem _ (ac9 _ (List.mem_of_getElem? (i := 0) rfl)))), vx_hat (B := xbD.map Cond.declares ++ xbC.map (fun c => Cond.castable c c)) (fun w hw => hts _ (List.mem_cons_of_mem _ (acV2 w hw))) (by decide +kernel) hB, by decide +kernel, by decide +kernel⟩
  · cases h
    refine ⟨(hts _ (List.mem_cons_of_mem _ (ac8 _ (List.mem_of_getElem? (i := 20) rfl)))), (hts _ (List.mem_cons_of_mem _ (ac8 _ (List.mem_of_getElem? (i := 21) rfl)))), vx_hat (B := xbD.map Cond.declares ++ xbC.map (fun c => Cond.castable c c)) (fun w hw => hts _ (List.mem_cons_of_mem _ (acV1 w hw))) (by decide +kernel) hB, by decide +kernel, by decide +kernel⟩
section MTS
variable {l : Launch} {y : MethodName} {rm : Room} {cc : ByteArray} {maxL : Nat} {D : va_G} {cI cQ cL : ClassId} {ad : Nat → Nat} {N : Nat} {F : Nat → va_E} {args : List Value} {E : String} {mc ms : Nat}
theorem mt_of {ret : Option FieldType} (hst : l.stackTraces = false) (hy : plainName y.cls = true) (hy5 : y.cls = RX5) (hlen : (lg_sl args).length ≤ maxL)
    (body : ∀ (p : Program) (e : Env) (s : State) (m : MethodId) (below : List Frame) (meth : Method) (c : Code) (Q : State → Prop) (ls : Array Slot),
      p.tables.exec = Jvm.exec → c.code = cc → c.maxLocals = maxL → s.vm.findClass y.cls = some m.cls → (∀ w ∈ Cond.code y cc maxL ret :: AW, w.before args.toArray s = true) → iD ad N → va_P D vwCl (iW ad N F) s.heap → va_K D vwCl (iT cI cQ cL) s → NW s → va_S (iA ad N s.heap.size) s.heap s.heap [] → XW ad N s.heap.size s →
      (∀ (ik ic is pc : Nat) (text : String) (ls : Array Slot) (rest : List Value) (H : Heap) (locs : List Loc) (k n : Nat), (ik, ic, E) ∈ thrW → (is, text) ∈ strW → va_P D vwCl (iW ad N F) H → va_S (iA ad N s.heap.size) s.heap H locs → ls.size = maxL →
        decode cc pc = .ok (.new ik, 3) → decode cc (pc + 3) = .ok (.dup, 1) → decode cc (pc + 4) = .ok (.ldc is, 2) → decode cc (pc + 6) = .ok (.invokespecial ic, 3) → decode cc (pc + 9) = .ok (.athrow, 1) → 5 < rm.frames → (rest.map fun v => v.category).sum + 82 ≤ rm.locals → k + 1 ≤ rm.cells → n + 6 ≤ rm.slots → k + 1 ≤ mc → n + 6 ≤ ms → W p l e rm s m args.toArray below meth c H locs k n Q (F0 m pc ls rest)) →
      (∀ (ik ic is pc : Nat) (text : String) (ls : Array Slot) (rest : List Value) (H : Heap) (locs : List Loc) (k n : Nat), (ik, ic, E) ∈ thrW → (is, text) ∈ strW → va_P D vwCl (iW ad N F) H → va_S (iA ad N s.heap.size) s.heap H locs → ls.size = maxL →
        decode cc pc = .ok (.new ik, 3) → decode cc (pc + 3) = .ok (.dup, 1) → decode cc (pc + 4) = .ok (.ldc_w is, 3) → decode cc (pc + 7) = .ok (.invokespecial ic, 3) → decode cc (pc + 10) = .ok (.athrow, 1) → 5 < rm.frames → (rest.map fun v => v.category).sum + 82 ≤ rm.locals → k + 1 ≤ rm.cells → n + 6 ≤ rm.slots → k + 1 ≤ mc → n + 6 ≤ ms → W p l e rm s m args.toArray below meth c H locs k n Q (F0 m pc ls rest)) →
      (∀ (pc : Nat) (ls : Array Slot) (rest : List Value) (H : Heap) (locs : List Loc) (q : Addr) (ce : Cell) (k n : Nat), va_P D vwCl (iW ad N F) H → va_S (iA ad N s.heap.size) s.heap H locs → H[q]? = some ce → ce.vm = .none → s.vm.findClass E = some ce.cls → k ≤ mc → n ≤ ms → vx_W p l e rm s m args.toArray below meth c H locs k n Q (F0 m pc ls rest) q) →
      lv_has ls maxL (lv_args 0 args) → W p l e rm s m args.toArray below meth c s.heap [] 0 0 Q (F0 m 0 ls [])) : MT l y (Cond.code y cc maxL ret :: AW) rm D cI cQ cL ad N F args E mc ms := by
  intro sz
  refine vx_ofW (cc := cc) (maxL := maxL) (ret := ret) hy rfl ?_
  intro p e s m args9 below meth c s₁ B hml htab hv
  obtain ⟨rfl, hsz, hDi, ⟨hP, hK, hNW⟩, hX⟩ := hv
  subst hsz
  have hl := lv_entry args (n := maxL) hlen
  have hown : s.vm.findClass RX5 = some m.cls := by rw [← hy5]; exact findClass_of_methodNamed B.named
  rw [lg_entry_eq]
  refine body p e s m below meth c _ _ B.exec B.bytes hml (findClass_of_methodNamed B.named) (atoms_spec B.pre) hDi hP hK hNW va_S.rf hX ?_ ?_ ?_ hl
  · intro ik ic is pc text ls rest H locs k n h1 h2 hP1 hS hsz d0 d3 d4 d6 d9 hfr hlo hc0 hs0 hc hs
    obtain ⟨q1, q2, q3, q4, q5⟩ := thr_hat h1 (atoms_spec B.pre) hX
    obtain ⟨sa, hsa⟩ := hX.2.2.1 _ h2
    exact vx_throwS (names := eN) B.exec B.bytes hst hown q5 (by decide +kernel) q1 q2 hsa q3 q4 hX.2.2.2.1 hX.2.2.2.2 hS (by rw [hml]; exact hsz) d0 d3 d4 d6 d9 (fun x hx => (htab x hx).elim) hfr hlo hc0 hs0 B.notSynchronized (fun t _ hz hk => ⟨rfl, hP1.kept (fun k q hq => hk _ ((hP1 k q hq).lt)), Nat.le_trans hS.1 hz, fun q hq hA => (hk q (Nat.lt_of_lt_of_le hq hS.1)).trans (hS.2.1 q hq hA)⟩) hS.2.2 hc hs
  · intro ik ic is pc text ls rest H locs k n h1 h2 hP1 hS hsz d0 d3 d4 d6 d9 hfr hlo hc0 hs0 hc hs
    obtain ⟨q1, q2, q3, q4, q5⟩ := thr_hat h1 (atoms_spec B.pre) hX
    obtain ⟨sa, hsa⟩ := hX.2.2.1 _ h2
    exact vx_throwSW (names := eN) B.exec B.bytes hst hown q5 (by decide +kernel) q1 q2 hsa q3 q4 hX.2.2.2.1 hX.2.2.2.2 hS (by rw [hml]; exact hsz) d0 d3 d4 d6 d9 (fun x hx => (htab x hx).elim) hfr hlo hc0 hs0 B.notSynchronized (fun t _ hz hk => ⟨rfl, hP1.kept (fun k q hq => hk _ ((hP1 k q hq).lt)), Nat.le_trans hS.1 hz, fun q hq hA => (hk q (Nat.lt_of_lt_of_le hq hS.1)).trans (hS.2.1 q hq hA)⟩) hS.2.2 hc hs
  · intro pc ls rest H locs q ce k n hP1 hS h1 h2 h3 hc hs
    exact vx_out (fun x hx => (htab x hx).elim) B.notSynchronized h1 h2 h3 (fun t ht _ => ⟨rfl, by rw [ht]; exact hP1, hS.F ht⟩) hS.2.2 hc hs
end MTS
section TROWS
variable {p : Program} {l : Launch} {e : Env} {R : Room} {s : State} {m : MethodId} {args : Array Value} {below : List Frame} {meth : Method} {c : Code} {H : Heap} {locs : List Loc} {cells slots : Nat} {Q : State → Prop}
variable {cc : ByteArray} {pc : Nat} {ls : Array Slot} {rest st0 : List Value} {D : va_G} {cI cQ cL : ClassId} {ad : Nat → Nat} {N : Nat} {F : Nat → va_E} {Ts : List Cond}
theorem MT_pre {argl : List Value} {U : State} (hDi : iD ad N) (hK : va_K D vwCl (iT cI cQ cL) s) (hP : va_P D vwCl (iW ad N F) H) (hNW : NW s) (hS : va_S (iA ad N s.heap.size) s.heap H locs) (hX : XW ad N s.heap.size s) (hU : U.heap = H) (hW : s.WarmedH U.vm) : va_Pc argl (fun U => U.heap.size = H.size ∧ iD ad N ∧ rW D cI cQ cL ad N F U ∧ XW ad N H.size U) argl.toArray U :=
  ⟨rfl, by rw [hU], hDi, ⟨by rw [hU]; exact hP, va_K.moved hW.alike hK, hNW.warm hW⟩, hX.go hS hU hW⟩
/-- a call of a static method that throws -/
theorem csT {nL index na mc ms : Nat} {own : String} {y : MethodName} {bytes : ByteArray} {maxL : Nat} {ret : Option FieldType} {ws : List Cond} {rm : Room} {As : List Value} {E : String}
    (S : CallFix p m c cc nL s args Ts own) (hM : MT l y ws rm D cI cQ cL ad N F As E mc ms) (cw : CallB R s args own index y bytes maxL ret ws rm mc ms na ∧ (Cond.static y).before args s = true) (hDi : iD ad N) (hK : va_K D vwCl (iT cI cQ cL) s) (hP : va_P D vwCl (iW ad N F) H) (hNW : NW s) (hS : va_S (iA ad N s.heap.size) s.heap H locs) (hX : XW ad N s.heap.size s)
    (hn : As.length = na) (hsize : ls.size = nL) (hstack : st0 = As.reverse ++ rest) (hW : (rest.map fun v => v.category).sum ≤ 8) (hf : cells + mc ≤ R.cells ∧ slots + ms ≤ R.slots) (hdg : decode cc pc = .ok (.invokestatic index, 3))
    (kx : ∀ (H1 : Heap) (locs1 : List Loc) (q : Addr) (ce : Cell), va_P D vwCl (iW ad N F) H1 → va_S (iA ad N s.heap.size) s.heap H1 locs1 → H1[q]? = some ce → ce.vm = .none → s.vm.findClass E = some ce.cls → vx_W p l e R s m args below meth c H1 locs1 (cells + mc) (slots + ms) Q (F0 m pc ls rest) q) : W p l e R s m args below meth c H locs cells slots Q (F0 m pc ls st0) := by
  have hr := vx_runS (g := F0 m pc ls st0) (p := p) (l := l) (e := e) (R := R) (m := m) (meth := meth) (below := below) (H := H) (locs := locs) (cells := cells) (slots := slots) S (hM H.size) cw ⟨MT_blind, fun U hU hW => MT_pre hDi hK hP hNW hS hX hU hW⟩ rfl hn hsize hstack (lv_room hW) hdg hf
  intro T hT X
  rcases hr T hT X with ⟨v, st₀, t, T', L, h0, X', hL, e1, e2, hfalse, st⟩ | ⟨q, st₀, t, T', L, E9, ce, h0, X', hL, e1, e2, ⟨rfl, hb, hF⟩, hce, hcv, hcl, st⟩
  · exact hfalse.elim
  · obtain ⟨-, -, k3⟩ := vx_keep h0 e1 hS (fun q _ h => iA_up hS q h) (iA_up hS) hL hF
    obtain ⟨t2, a1, b1⟩ := kx T'.heap (locs ++ L) q ce (by rw [e1]; exact hb) k3 (by rw [e1]; exact hce) hcv hcl T' rfl X'
    exact ⟨t2, st.trans a1, b1⟩
end TROWS
/-- a void static method of its arguments alone -/
def MPv (l : Launch) (y : MethodName) (ws : List Cond) (rm : Room) (args : List Value) : Prop :=
  Met l y ws rm (va_Pc args (fun _ => True)) (fun _ st o t => o = .returned none ∧ t.heap = st.heap) 0 0 (fun _ => False)
section MPV
variable {l : Launch} {y : MethodName} {ws ws' : List Cond} {rm : Room} {cc : ByteArray} {maxL : Nat} {args : List Value}
theorem mp_v (hy : plainName y.cls = true) (hw : ws = Cond.code y cc maxL none :: ws') (hlen : (lg_sl args).length ≤ maxL)
    (body : ∀ (p : Program) (e : Env) (s : State) (m : MethodId) (below : List Frame) (meth : Method) (c : Code) (Q : State → Prop) (ls : Array Slot),
      p.tables.exec = Jvm.exec → c.code = cc → c.maxLocals = maxL → s.vm.findClass y.cls = some m.cls → (∀ w ∈ ws, w.before args.toArray s = true) →
      (∀ (pc : Nat) (ls : Array Slot), decode cc pc = .ok (.return_, 1) → W p l e rm s m args.toArray below meth c s.heap [] 0 0 Q (F0 m pc ls [])) →
      lv_has ls maxL (lv_args 0 args) → W p l e rm s m args.toArray below meth c s.heap [] 0 0 Q (F0 m 0 ls [])) : MPv l y ws rm args := by
  refine Met.ofW (cc := cc) (maxL := maxL) (ret := none) hy hw ?_
  intro p e s m args9 below meth c s₁ B hml hv
  obtain ⟨rfl, -⟩ := hv
  have hl := lv_entry args (n := maxL) hlen
  rw [lg_entry_eq]
  exact body p e s m below meth c _ _ B.exec B.bytes hml (findClass_of_methodNamed B.named) (atoms_spec B.pre) (fun pc ls hd => W.vret B.exec B.bytes B.returns (fun t ht _ => ⟨rfl, ht⟩) (fun _ h => nomatch h) hd B.notSynchronized) hl
end MPV
section PVROWS
variable {p : Program} {l : Launch} {e : Env} {R : Room} {s : State} {m : MethodId} {args : Array Value} {below : List Frame} {meth : Method} {c : Code} {H : Heap} {locs : List Loc} {cells slots : Nat} {Q : State → Prop}
variable {cc : ByteArray} {pc : Nat} {ls : Array Slot} {rest st0 : List Value} {Ts : List Cond}
theorem csPv {nL index na : Nat} {own : String} {y : MethodName} {bytes : ByteArray} {maxL : Nat} {ret : Option FieldType} {ws : List Cond} {rm : Room} {As : List Value}
    (S : CallFix p m c cc nL s args Ts own) (hM : MPv l y ws rm As) (cw : CallB R s args own index y bytes maxL ret ws rm 0 0 na ∧ (Cond.static y).before args s = true)
    (hn : As.length = na) (hsize : ls.size = nL) (hstack : st0 = As.reverse ++ rest) (hW : (rest.map fun v => v.category).sum ≤ 8) (hf : cells + 0 ≤ R.cells ∧ slots + 0 ≤ R.slots) (hdg : decode cc pc = .ok (.invokestatic index, 3))
    (kk : W p l e R s m args below meth c H locs cells slots Q (F0 m (pc + 3) ls rest)) : W p l e R s m args below meth c H locs cells slots Q (F0 m pc ls st0) := by
  have hr := va_runS (g := F0 m pc ls st0) (p := p) (l := l) (e := e) (R := R) (m := m) (meth := meth) (below := below) (locs := locs) (cells := cells) (slots := slots) (H := H) S hM cw ⟨MP_blind, fun U hU hW => ⟨rfl, trivial⟩⟩ rfl hn hsize hstack (lv_room hW) hdg hf
  intro T hT X
  obtain ⟨v, st₀, t, T', L, h0, X', hL, e1, e2, ⟨hv, hh⟩, st⟩ := hr T hT X
  cases hv
  have hLn : L = [] := by
    cases L with
    | nil => rfl
    | cons a L => exact (hL a List.mem_cons_self).elim
  subst hLn
  rw [List.append_nil] at X'
  obtain ⟨t2, a1, b1⟩ := kk T' (by rw [e1, hh, h0]) X'
  exact ⟨t2, st t2 a1, b1⟩
end PVROWS
