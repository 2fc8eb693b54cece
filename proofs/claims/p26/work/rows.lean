section
-- ===== PART A: goes FIRST, ahead of the names: the tables' words, and 'selects' of the private methods out of them =====
/-- a private method of a class that the tables say can be made, by its rows of tables_1 -/
def lw_okq (q : MethodName × Nat) : Prop := (q.1.cls ≠ "java/lang/invoke/MethodHandle" ∧ q.1.cls ≠ "java/lang/invoke/VarHandle") ∧ Cond.instantiable q.1.cls q.2 ∈ tables_1 ∧ Cond.privateMethod q.1 ∈ tables_1 ∧ Cond.instanceMethod q.1 ∈ tables_1
theorem lw_p0 : lw_okq (⟨"java/lang/Throwable", "fillInStackTrace", "(I)Ljava/lang/Throwable;"⟩, 6) := ⟨⟨by decide +kernel, by decide +kernel⟩, List.mem_of_getElem? (i := 203) (by decide +kernel), List.mem_of_getElem? (i := 201) (by decide +kernel), List.mem_of_getElem? (i := 202) (by decide +kernel)⟩
theorem lw_p1 : lw_okq (⟨"SquopPiles$Mat", "setCells", "(II)V"⟩, 3) := ⟨⟨by decide +kernel, by decide +kernel⟩, List.mem_of_getElem? (i := 31) (by decide +kernel), List.mem_of_getElem? (i := 322) (by decide +kernel), List.mem_of_getElem? (i := 323) (by decide +kernel)⟩
theorem lw_p2 : lw_okq (⟨"SquopPiles$Mat", "separate", "(I)V"⟩, 3) := ⟨⟨by decide +kernel, by decide +kernel⟩, List.mem_of_getElem? (i := 31) (by decide +kernel), List.mem_of_getElem? (i := 326) (by decide +kernel), List.mem_of_getElem? (i := 327) (by decide +kernel)⟩
theorem lw_p3 : lw_okq (⟨"SquopPiles$Mat", "isBottom", "(I)Z"⟩, 3) := ⟨⟨by decide +kernel, by decide +kernel⟩, List.mem_of_getElem? (i := 31) (by decide +kernel), List.mem_of_getElem? (i := 389) (by decide +kernel), List.mem_of_getElem? (i := 390) (by decide +kernel)⟩
theorem lw_p4 : lw_okq (⟨"SquopPiles", "tryFlight", "(III)V"⟩, 7) := ⟨⟨by decide +kernel, by decide +kernel⟩, List.mem_of_getElem? (i := 17) (by decide +kernel), List.mem_of_getElem? (i := 475) (by decide +kernel), List.mem_of_getElem? (i := 476) (by decide +kernel)⟩
theorem lw_p5 : lw_okq (⟨"SquopPiles$Routes", "search", "(II)I"⟩, 3) := ⟨⟨by decide +kernel, by decide +kernel⟩, List.mem_of_getElem? (i := 123) (by decide +kernel), List.mem_of_getElem? (i := 522) (by decide +kernel), List.mem_of_getElem? (i := 523) (by decide +kernel)⟩
theorem lw_p6 : lw_okq (⟨"SquopPiles$Mat", "liesBelow", "(II)Z"⟩, 3) := ⟨⟨by decide +kernel, by decide +kernel⟩, List.mem_of_getElem? (i := 31) (by decide +kernel), List.mem_of_getElem? (i := 555) (by decide +kernel), List.mem_of_getElem? (i := 556) (by decide +kernel)⟩
theorem lw_p7 : lw_okq (⟨"SquopPiles$State", "passTurn", "()V"⟩, 7) := ⟨⟨by decide +kernel, by decide +kernel⟩, List.mem_of_getElem? (i := 25) (by decide +kernel), List.mem_of_getElem? (i := 576) (by decide +kernel), List.mem_of_getElem? (i := 577) (by decide +kernel)⟩
def lw_privs_1 : List (MethodName × Nat) := [(⟨"java/lang/Throwable", "fillInStackTrace", "(I)Ljava/lang/Throwable;"⟩, 6), (⟨"SquopPiles$Mat", "setCells", "(II)V"⟩, 3), (⟨"SquopPiles$Mat", "separate", "(I)V"⟩, 3), (⟨"SquopPiles$Mat", "isBottom", "(I)Z"⟩, 3), (⟨"SquopPiles", "tryFlight", "(III)V"⟩, 7), (⟨"SquopPiles$Routes", "search", "(II)I"⟩, 3), (⟨"SquopPiles$Mat", "liesBelow", "(II)Z"⟩, 3), (⟨"SquopPiles$State", "passTurn", "()V"⟩, 7)]
theorem lw_r1 : ∀ q ∈ lw_privs_1, lw_okq q := List.forall_mem_cons.mpr ⟨lw_p0, List.forall_mem_cons.mpr ⟨lw_p1, List.forall_mem_cons.mpr ⟨lw_p2, List.forall_mem_cons.mpr ⟨lw_p3, List.forall_mem_cons.mpr ⟨lw_p4, List.forall_mem_cons.mpr ⟨lw_p5, List.forall_mem_cons.mpr ⟨lw_p6, List.forall_mem_cons.mpr ⟨lw_p7, fun _ h => absurd h List.not_mem_nil⟩⟩⟩⟩⟩⟩⟩⟩
def lw_privs : List (MethodName × Nat) := lw_privs_1
def lw_tbl : List Cond := k2_sels lw_privs ++ tables_1
theorem lw_privs_ok : ∀ q ∈ lw_privs, lw_okq q := lw_r1
end
section
/-! ===== BEGIN words of one list among another's, by their places ===== -/
theorem goodIn_r {big : List Cond} (ws : List Cond) (ps : List Nat) (hp : ws = ps.filterMap (fun i => big[i]?)) (h : ws.all goodWord = true) : GoodIn big ws := by
  intro w hw
  have h1 := List.all_eq_true.mp h w hw
  rw [hp] at hw
  obtain ⟨i, -, hi⟩ := List.mem_filterMap.mp hw
  have hm : w ∈ big := by first | exact List.mem_of_getElem? hi | exact List.getElem?_mem hi
  exact ⟨hm, good_of_word h1⟩
theorem goodIn_app {big a b : List Cond} (ha : GoodIn big a) (hb : GoodIn big b) : GoodIn big (a ++ b) := fun w h => (List.mem_append.mp h).elim (ha w) (hb w)
theorem goodIn_ca {big a b : List Cond} {c : Cond} (ha : GoodIn big (c :: a)) (hb : GoodIn big b) : GoodIn big (c :: (a ++ b)) := fun w h => (List.mem_cons.mp h).elim (fun e => ha w (List.mem_cons.mpr (Or.inl e))) (fun h => (List.mem_append.mp h).elim (fun h => ha w (List.mem_cons.mpr (Or.inr h))) (hb w))
theorem goodIn_sub {big ws : List Cond} (hm : ∀ w ∈ ws, w ∈ big) (h : ws.all goodWord = true) : GoodIn big ws := fun w hw => ⟨hm w hw, good_of_word (List.all_eq_true.mp h w hw)⟩
/-! ===== END ===== -/

/-! ===== BEGIN exceptions that leave a method, and their catching by the caller (launches without stack traces) ===== -/
section VXA
/-! The laws vx_back, vx_callV, vx_callS, vx_callSW, vx_throw0, vx_throwS follow proofs of the library, with one case more: JvmDerived/Free/Laws.lean (Back.of_free), Shelf42/LK1.lean (callV, callS), Shelf/KitTraced.lean (throwNew0V, throwNewS). -/
/-- where a method has thrown q: the class by its name, the cell, what was written, the world -/
def vx_T (XC : String → State → State → Prop) (st : State) (q : Addr) (t : State) (mc ms : Nat) (free : Addr → Prop) : Prop :=
  ∃ (E : String) (ce : Cell) (L : List Loc), XC E st t ∧ t.heap[q]? = some ce ∧ ce.vm = .none ∧ st.vm.findClass E = some ce.cls ∧ st.WarmedH t.vm ∧ st.sameButNew ({ t with vm := st.vm } : State) L mc ms ∧ ∀ z ∈ L, free z.base
def vx_Q (Qc : Array Value → State → Outcome → State → Prop) (XC : String → State → State → Prop) (mc ms : Nat) (free : Addr → Prop) : Array Value → State → Outcome → State → Prop := fun a st o t =>
  (Qc a st o t ∧ ∃ L, FrameEnd st o t L mc ms ∧ ∀ q ∈ L, free q.base) ∨ ∃ q, o = .threw q ∧ vx_T XC st q t mc ms free
/-- a callee that returns or throws -/
def vx_Met (l : Launch) (y : MethodName) (ws : List Cond) (rm : Room) (Pc : Array Value → State → Prop) (Qc : Array Value → State → Outcome → State → Prop) (XC : String → State → State → Prop) (mc ms : Nat) (free : Addr → Prop) : Prop :=
  MetFree l y (headSpec ws rm) Pc (fun _ _ _ _ _ => True) (vx_Q Qc XC mc ms free)
def vx_Post (XC : String → State → State → Prop) (mc ms : Nat) (free : Addr → Prop) : Pt → Array Value → Addr → Pt → Prop := fun A a q B =>
  ∃ (g : JFrame) (mk : MethodId) (t : State) (L : List Loc) (E : String) (ce : Cell), B.U.heap = t.heap ∧ B.U.vm = t.vm ∧ XC E (A.U.calling g mk a) t ∧ t.heap[q]? = some ce ∧ ce.vm = .none ∧ A.U.vm.findClass E = some ce.cls ∧ B.locs = A.locs ++ L ∧ (∀ z ∈ L, free z.base) ∧ B.cells = A.cells + mc ∧ B.slots = A.slots + ms
def vx_Back (l : Launch) (R : Room) (p : Program) (e : Env) (below : List Frame) (s : State) (sargs : Array Value) (y : MethodName) (len W9 : Nat)
    (Pre : Pt → Array Value → Prop) (Post : Pt → Array Value → Option Value → Pt → Prop) (PostX : Pt → Array Value → Addr → Pt → Prop) : Prop :=
  ∀ (m : MethodId) (meth : Method) (c : Code) (A : Pt) (g : JFrame) (ig : Instr) (mk : MethodId) (a : Array Value),
    Stand p l e R s m sargs below meth c A.U A.locs A.cells A.slots → g.method = m → g.locals.size = c.maxLocals → decode c.code g.pc = .ok (ig, len) →
    2 * g.monitorRoom + (g.stack.map fun v => v.category).sum ≤ W9 → A.U.methodNamed? y = some mk → Pre A a →
    (∃ (v : Option Value) (B : Pt), Stand p l e R s m sargs below meth c B.U B.locs B.cells B.slots ∧ Post A a v B ∧
      Steps p.tables e below (doInvoke e (A.U.setTop g) [] mk a).1 (B.U.setTop { g with pc := g.pc + len, stack := v.toList ++ g.stack })) ∨
    (∃ (q : Addr) (B : Pt), Stand p l e R s m sargs below meth c B.U B.locs B.cells B.slots ∧ PostX A a q B ∧
      Steps p.tables e below (doInvoke e (A.U.setTop g) [] mk a).1 ((B.U.setTop g).pushFrame (.throwing q)))
section Payer
variable {l : Launch} {R : Room} {p : Program} {e : Env} {below : List Frame} {s : State} {sargs : Array Value} {y : MethodName} {len W9 : Nat}
theorem vx_back {ws : List Cond} {rm : Room} {Pc : Array Value → State → Prop} {Qc : Array Value → State → Outcome → State → Prop} {XC : String → State → State → Prop} {mc ms : Nat} {free : Addr → Prop} {bytes : ByteArray} {maxL : Nat} {ret : Option FieldType}
    (hM : vx_Met l y ws rm Pc Qc XC mc ms free) (hblind : FrameBlind Pc) (hrc : rm.cells = mc) (hrs : rm.slots = ms)
    (hframes : rm.frames + 1 ≤ R.frames) (hlocals : W9 + (maxL + 11) + rm.locals ≤ R.locals)
    (hws : ∀ w ∈ ws, ∀ a' U, s.WarmedH U.vm → w.before a' U = true) (hcode : Cond.code y bytes maxL ret ∈ ws) (hinit : ∀ a' U, s.WarmedH U.vm → (Cond.initialized y.cls).before a' U = true) :
    vx_Back l R p e below s sargs y len W9 (PreOf R mc ms Pc) (PostOf Qc mc ms free) (vx_Post XC mc ms free) := by
  intro m meth c A g ig mk a X hg hsize hdg hW hn hp
  have h1 : (headSpec ws rm).pre.before a A.U = true := atoms_intro fun w hw => hws w hw _ _ X.warmed
  have h2 : (Cond.code y bytes maxL ret).before a A.U = true := hws _ hcode _ _ X.warmed
  have h3 : (Cond.initialized y.cls).before a A.U = true := hinit _ _ X.warmed
  have h4 : A.cells + (headSpec ws rm).room.cells ≤ R.cells := by rw [show (headSpec ws rm).room.cells = mc from hrc]; exact hp.1
  have h5 : A.slots + (headSpec ws rm).room.slots ≤ R.slots := by rw [show (headSpec ws rm).room.slots = ms from hrs]; exact hp.2.1
  have hPc : Pc a (A.U.calling g mk a) := hblind _ _ _ _ hp.2.2
  obtain ⟨U, Ls, c0, s0⟩ := A
  dsimp only [Pt.U, Pt.locs, Pt.cells, Pt.slots] at h1 h2 h3 h4 h5 X hn hPc ⊢
  obtain ⟨methY, cY, hmY, hcY, -, hlY, -, -, -, -⟩ := Cond.code_spec hn h2
  obtain ⟨kY, hkY, -⟩ := className_of_methodNamed hn
  have hinitY : kY.init = .initialized := Cond.initialized_spec (findClass_of_methodNamed hn) hkY h3
  have h : At U g.method c below := by rw [hg]; exact X.here
  have hlocals9 : W9 + (maxL + 11) + (headSpec ws rm).room.locals ≤ R.locals := hlocals
  have happ : (headSpec ws rm).appliesLoose y e.platform (U.calling g mk a) = true :=
    Spec.appliesLoose_calling (g := g) h hdg hn hkY hinitY
      (X.room_calling (g := g) (R' := (headSpec ws rm).room) hsize hmY hcY hframes (by rw [hlY]; omega) h4 h5) h1
  obtain ⟨mid, hmid⟩ := h.above
  have hfr : (U.setTop g).frames = (.java g :: mid) ++ below := by rw [State.frames_setTop' g h.top, hmid]; rfl
  obtain ⟨o, s₂, hsteps, -, hend, hq⟩ := Steps.callFree hM p X.admits X.cas X.clock (acts := []) hfr happ hPc trivial
  have hq' : vx_Q Qc XC mc ms free a (U.calling g mk a) o s₂ := hq
  rw [State.frames_setTop' g h.top] at hend
  obtain ⟨g₀, hg0⟩ := Option.isSome_iff_exists.mp h.top
  obtain ⟨r, hr⟩ := State.topJava?_eq_some.mp hg0
  have hr' : (({ U with heap := s₂.heap, slotsUsed := s₂.slotsUsed } : State).setVm s₂.vm).frames = .java g₀ :: r := hr
  rcases hq' with ⟨hqc, L, hfe, hL⟩ | ⟨q, rfl, E, ce, L, hx, hce, hcv, hcl, hW₂, hsm, hL⟩
  · obtain ⟨⟨v, rfl⟩, hW₂, e2, q2, q3, q4, q5, q6⟩ := id hfe
    have e3 : s₂ = ({ (U.calling g mk a).setFrames s₂.frames with heap := s₂.heap, slotsUsed := s₂.slotsUsed } : State).setVm s₂.vm := by
      have : s₂ = ({ s₂ with vm := (U.calling g mk a).vm } : State).setVm s₂.vm := rfl
      rw [e2] at this
      exact this
    obtain ⟨c₂, i₂, len₂, hc₂, hd₂, hf₂⟩ := hend
    have hW' : U.WarmedH s₂.vm := hW₂
    have hcc : c₂ = c := by
      have h1 : s₂.code? g.method = U.code? g.method := by
        rw [State.code?_eq, State.code?_eq, hW'.alike.method?]
      exact Option.some.inj (hc₂.symm.trans (h1.trans h.code))
    subst hcc
    have hlen : len₂ = len := by rw [hdg] at hd₂; cases hd₂; rfl
    subst hlen
    have hs₂ : s₂ = (({ U with heap := s₂.heap, slotsUsed := s₂.slotsUsed } : State).setVm s₂.vm).setTop { g with pc := g.pc + len₂, stack := v.toList ++ g.stack } := by
      refine e3.trans ?_
      rw [hf₂, State.calling_eq h.top, State.setFrames_setFrames, State.setTop_of_frames _ hr', hr]
      rfl
    have hsame : U.sameButNew ({ U with heap := s₂.heap, slotsUsed := s₂.slotsUsed } : State) L mc ms := by
      refine ⟨?_, q2, q3, q4, q5, q6⟩
      obtain ⟨t, ht, -⟩ := State.frames_cons hr
      show ({ U with heap := s₂.heap, slotsUsed := s₂.slotsUsed } : State) = { U.setFrames U.frames with heap := s₂.heap, slotsUsed := s₂.slotsUsed }
      rw [State.setFrames_self ht]
    subst hg
    refine Or.inl ⟨v, ⟨(({ U with heap := s₂.heap, slotsUsed := s₂.slotsUsed } : State).setVm s₂.vm), Ls ++ L, c0 + mc, s0 + ms⟩,
      ⟨X.admits, X.cas, X.clock, X.frames, X.room, X.hears, X.method, X.code, (X.here.setHeapUsed s₂.heap s₂.slotsUsed).setVm hW'.alike, X.tail, State.WarmedH.trans X.warmed hW', X.limits, X.bytes, X.same.trans (hsame.setVm s.vm)⟩,
      ⟨g, mk, s₂, L, rfl, rfl, hqc, rfl, hL, rfl, rfl⟩, ?_⟩
    show Steps p.tables e below _ ((({ U with heap := s₂.heap, slotsUsed := s₂.slotsUsed } : State).setVm s₂.vm).setTop { g with pc := g.pc + len₂, stack := v.toList ++ g.stack })
    rw [← hs₂]
    exact hsteps
  · obtain ⟨e2, q2, q3, q4, q5, q6⟩ := id hsm
    have e3 : s₂ = ({ (U.calling g mk a).setFrames s₂.frames with heap := s₂.heap, slotsUsed := s₂.slotsUsed } : State).setVm s₂.vm := by
      have : s₂ = ({ s₂ with vm := (U.calling g mk a).vm } : State).setVm s₂.vm := rfl
      rw [e2] at this
      exact this
    have hf₂ : s₂.frames = .throwing q :: .java g :: U.frames.tail := hend
    have hW' : U.WarmedH s₂.vm := hW₂
    have hs₂ : s₂ = ((({ U with heap := s₂.heap, slotsUsed := s₂.slotsUsed } : State).setVm s₂.vm).setTop g).pushFrame (.throwing q) := by
      refine e3.trans ?_
      rw [hf₂, State.calling_eq h.top, State.setFrames_setFrames, State.pushFrame, State.frames_setTop _ hr', State.setTop_of_frames _ hr', State.setFrames_setFrames, hr]
      rfl
    have hsame : U.sameButNew ({ U with heap := s₂.heap, slotsUsed := s₂.slotsUsed } : State) L mc ms := by
      refine ⟨?_, q2, q3, q4, q5, q6⟩
      obtain ⟨t, ht, -⟩ := State.frames_cons hr
      show ({ U with heap := s₂.heap, slotsUsed := s₂.slotsUsed } : State) = { U.setFrames U.frames with heap := s₂.heap, slotsUsed := s₂.slotsUsed }
      rw [State.setFrames_self ht]
    subst hg
    refine Or.inr ⟨q, ⟨(({ U with heap := s₂.heap, slotsUsed := s₂.slotsUsed } : State).setVm s₂.vm), Ls ++ L, c0 + mc, s0 + ms⟩,
      ⟨X.admits, X.cas, X.clock, X.frames, X.room, X.hears, X.method, X.code, (X.here.setHeapUsed s₂.heap s₂.slotsUsed).setVm hW'.alike, X.tail, State.WarmedH.trans X.warmed hW', X.limits, X.bytes, X.same.trans (hsame.setVm s.vm)⟩,
      ⟨g, mk, s₂, L, E, ce, rfl, rfl, hx, hce, hcv, hcl, rfl, hL, rfl, rfl⟩, ?_⟩
    show Steps p.tables e below _ (((({ U with heap := s₂.heap, slotsUsed := s₂.slotsUsed } : State).setVm s₂.vm).setTop g).pushFrame (.throwing q))
    rw [← hs₂]
    exact hsteps
end Payer
section Calls
variable {p : Program} {l : Launch} {e : Env} {R : Room} {s : State} {m : MethodId} {args : Array Value} {below : List Frame} {meth : Method} {c : Code} {T : State} {locs : List Loc} {cells slots : Nat}
theorem vx_callV (X : Stand p l e R s m args below meth c T locs cells slots) (hexec : p.tables.exec = Jvm.exec) {own C : String} {index : Nat} {y : MethodName} {bytes : ByteArray} {maxL : Nat} {ret : Option FieldType}
    (hown : s.vm.findClass own = some m.cls) (hlink : (Cond.methodLink own index y).before args s = true) (hinst : (Cond.instanceMethod y).before args s = true) (hsel : (Cond.selects C y y).before args s = true)
    (hcode : (Cond.code y bytes maxL ret).before args s = true) (hy : y.cls ≠ "java/lang/invoke/MethodHandle" ∧ y.cls ≠ "java/lang/invoke/VarHandle")
    {W9 : Nat} {Pre : Pt → Array Value → Prop} {Post : Pt → Array Value → Option Value → Pt → Prop} {PostX : Pt → Array Value → Addr → Pt → Prop} (hK : vx_Back l R p e below s args y 3 W9 Pre Post PostX)
    {b : Addr} {cellB : Cell} (hcell : T.heap[b]? = some cellB) (hobj : cellB.vm.isStatics = false) (hcls : s.vm.findClass C = some cellB.cls)
    {g : JFrame} (hg : g.method = m) (hsize : g.locals.size = c.maxLocals) {argsL rest : List Value} (hlen : ∀ sig, parseMethodDescriptor y.desc = some sig → argsL.length = sig.parameters.length)
    (hstack : g.stack = argsL.reverse ++ .ref b :: rest) (hW : 2 * g.monitorRoom + (rest.map fun v => v.category).sum ≤ W9) (hdg : decode c.code g.pc = .ok (.invokevirtual index, 3))
    (hpre : ∀ vm₁, s.WarmedH vm₁ → Pre ⟨T.setVm vm₁, locs, cells, slots⟩ (Value.ref b :: argsL).toArray) :
    (∃ (v : Option Value) (vm₁ : Vm) (B : Pt), s.WarmedH vm₁ ∧ Stand p l e R s m args below meth c B.U B.locs B.cells B.slots ∧ Post ⟨T.setVm vm₁, locs, cells, slots⟩ (Value.ref b :: argsL).toArray v B ∧
      ∀ target, Steps p.tables e below (B.U.setTop { g with pc := g.pc + 3, stack := v.toList ++ rest }) target → Steps p.tables e below (T.setTop g) target) ∨
    (∃ (q : Addr) (vm₁ : Vm) (B : Pt), s.WarmedH vm₁ ∧ Stand p l e R s m args below meth c B.U B.locs B.cells B.slots ∧ PostX ⟨T.setVm vm₁, locs, cells, slots⟩ (Value.ref b :: argsL).toArray q B ∧
      Steps p.tables e below (T.setTop g) ((B.U.setTop { g with stack := rest }).pushFrame (.throwing q))) := by
  obtain ⟨mk, methM, hnamed, hmethM, hstM, habM⟩ := Cond.instanceMethod_spec hinst
  obtain ⟨methM', cM, hmethM', -, -, -, -, -, -, hsigM⟩ := Cond.code_spec hnamed hcode
  cases hmethM.symm.trans hmethM'
  obtain ⟨c2, r2, m2, q1, q2, q3, q4, kP, hkP, hkPi⟩ := Cond.selects_spec hsel
  cases hcls.symm.trans q1
  cases (State.methodFound?_of_named hnamed hy).symm.trans q2
  cases hnamed.symm.trans q3
  have hselP : selectMethod e.platform s.vm cellB.cls mk = .method mk := by rw [Launch.admits_selectMethod X.admits]; exact q4
  obtain ⟨vm₁, X₁, hstep₁⟩ := X.invokevirtual hexec hown hlink hnamed hmethM hstM hkP hkPi hy (a := b) (cell := cellB) hcell
    (fun z h => by rw [h] at hobj; cases hobj) hselP hmethM habM hkP hkPi (g := g) hg (argsL := argsL) (rest := rest) (hlen _ hsigM) hstack hdg
  rcases hK m meth c ⟨T.setVm vm₁, locs, cells, slots⟩ { g with stack := rest } (.invokevirtual index) mk (Value.ref b :: argsL).toArray X₁ hg hsize hdg hW (X₁.named hnamed) (hpre vm₁ X₁.warmed) with ⟨v, B, X', hpost, hsteps⟩ | ⟨q, B, X', hpost, hsteps⟩
  · exact Or.inl ⟨v, vm₁, B, X₁.warmed, X', hpost, fun target h => hstep₁ _ fun acts => by rw [doInvoke_state]; exact hsteps.trans h⟩
  · exact Or.inr ⟨q, vm₁, B, X₁.warmed, X', hpost, hstep₁ _ fun acts => by rw [doInvoke_state]; exact hsteps⟩
theorem vx_callS (X : Stand p l e R s m args below meth c T locs cells slots) (hexec : p.tables.exec = Jvm.exec) {own : String} {index : Nat} {y : MethodName} {bytes : ByteArray} {maxL : Nat} {ret : Option FieldType}
    (hown : s.vm.findClass own = some m.cls) (hlink : (Cond.methodLink own index y).before args s = true) (hstat : (Cond.static y).before args s = true) (hinit : (Cond.initialized y.cls).before args s = true)
    (hcode : (Cond.code y bytes maxL ret).before args s = true) (hy : y.cls ≠ "java/lang/invoke/MethodHandle" ∧ y.cls ≠ "java/lang/invoke/VarHandle")
    {W9 : Nat} {Pre : Pt → Array Value → Prop} {Post : Pt → Array Value → Option Value → Pt → Prop} {PostX : Pt → Array Value → Addr → Pt → Prop} (hK : vx_Back l R p e below s args y 3 W9 Pre Post PostX)
    {g : JFrame} (hg : g.method = m) (hsize : g.locals.size = c.maxLocals) {argsL rest : List Value} (hlen : ∀ sig, parseMethodDescriptor y.desc = some sig → argsL.length = sig.parameters.length)
    (hstack : g.stack = argsL.reverse ++ rest) (hW : 2 * g.monitorRoom + (rest.map fun v => v.category).sum ≤ W9) (hdg : decode c.code g.pc = .ok (.invokestatic index, 3))
    (hpre : ∀ vm₁, s.WarmedH vm₁ → Pre ⟨T.setVm vm₁, locs, cells, slots⟩ argsL.toArray) :
    (∃ (v : Option Value) (vm₁ : Vm) (B : Pt), s.WarmedH vm₁ ∧ Stand p l e R s m args below meth c B.U B.locs B.cells B.slots ∧ Post ⟨T.setVm vm₁, locs, cells, slots⟩ argsL.toArray v B ∧
      ∀ target, Steps p.tables e below (B.U.setTop { g with pc := g.pc + 3, stack := v.toList ++ rest }) target → Steps p.tables e below (T.setTop g) target) ∨
    (∃ (q : Addr) (vm₁ : Vm) (B : Pt), s.WarmedH vm₁ ∧ Stand p l e R s m args below meth c B.U B.locs B.cells B.slots ∧ PostX ⟨T.setVm vm₁, locs, cells, slots⟩ argsL.toArray q B ∧
      Steps p.tables e below (T.setTop g) ((B.U.setTop { g with stack := rest }).pushFrame (.throwing q))) := by
  obtain ⟨mk, hnamed⟩ := Cond.code_named hcode
  obtain ⟨methM, cM, hmethM, -, -, -, -, -, -, hsigM⟩ := Cond.code_spec hnamed hcode
  have hstatic : methM.isStatic = true := Cond.static_spec hnamed hmethM hstat
  obtain ⟨kP, hkP, -⟩ := className_of_methodNamed hnamed
  have hinitP : kP.init = .initialized := Cond.initialized_spec (findClass_of_methodNamed hnamed) hkP hinit
  obtain ⟨vm₁, X₁, hstep₁⟩ := X.invokestatic hexec hown hlink hnamed hmethM hstatic hkP hinitP hy (g := g) hg (argsL := argsL) (rest := rest) (hlen _ hsigM) hstack hdg
  rcases hK m meth c ⟨T.setVm vm₁, locs, cells, slots⟩ { g with stack := rest } (.invokestatic index) mk argsL.toArray X₁ hg hsize hdg hW (X₁.named hnamed) (hpre vm₁ X₁.warmed) with ⟨v, B, X', hpost, hsteps⟩ | ⟨q, B, X', hpost, hsteps⟩
  · exact Or.inl ⟨v, vm₁, B, X₁.warmed, X', hpost, fun target h => hstep₁ _ fun acts => by rw [doInvoke_state]; exact hsteps.trans h⟩
  · exact Or.inr ⟨q, vm₁, B, X₁.warmed, X', hpost, hstep₁ _ fun acts => by rw [doInvoke_state]; exact hsteps⟩
end Calls
theorem vx_cls {s : State} {T : State} {vm₁ : Vm} {E : String} {k : ClassId} (hW : s.WarmedH vm₁) (h : (T.setVm vm₁).vm.findClass E = some k) : s.vm.findClass E = some k := by
  have h1 : vm₁.findClass E = some k := h
  rw [hW.alike.findClass] at h1
  exact h1
/-- the method's frame g, with q thrown over it -/
def vx_W (p : Program) (l : Launch) (e : Env) (R : Room) (s : State) (m : MethodId) (args : Array Value) (below : List Frame) (meth : Method) (c : Code) (H : Heap) (locs : List Loc) (cells slots : Nat) (Q : State → Prop) (g : JFrame) (q : Addr) : Prop :=
  ∀ T : State, T.heap = H → Stand p l e R s m args below meth c T locs cells slots → ∃ t, Steps p.tables e below ((T.setTop g).pushFrame (.throwing q)) t ∧ Q t
def vx_Run (p : Program) (l : Launch) (e : Env) (R : Room) (s : State) (m : MethodId) (args : Array Value) (below : List Frame) (meth : Method) (c : Code) (H : Heap) (locs : List Loc) (cells slots mc ms : Nat) (g : JFrame) (rest : List Value) (Qa : State → Outcome → State → Prop) (XC : String → State → State → Prop) (free : Addr → Prop) : Prop :=
  ∀ T : State, T.heap = H → Stand p l e R s m args below meth c T locs cells slots →
    (∃ (v : Option Value) (st₀ t T' : State) (L : List Loc), st₀.heap = H ∧ Stand p l e R s m args below meth c T' (locs ++ L) (cells + mc) (slots + ms) ∧ (∀ q ∈ L, free q.base) ∧ T'.heap = t.heap ∧ T'.vm = t.vm ∧ Qa st₀ (.returned v) t ∧
      Goes p e below T g T' { g with pc := g.pc + 3, stack := v.toList ++ rest }) ∨
    (∃ (q : Addr) (st₀ t T' : State) (L : List Loc) (E : String) (ce : Cell), st₀.heap = H ∧ Stand p l e R s m args below meth c T' (locs ++ L) (cells + mc) (slots + ms) ∧ (∀ z ∈ L, free z.base) ∧ T'.heap = t.heap ∧ T'.vm = t.vm ∧ XC E st₀ t ∧ t.heap[q]? = some ce ∧ ce.vm = .none ∧ s.vm.findClass E = some ce.cls ∧
      Steps p.tables e below (T.setTop g) ((T'.setTop { g with stack := rest }).pushFrame (.throwing q)))
def vx_X {S : Type} (px : S → Prop) (B : String → S → State → Prop) (A : Nat → Prop) : String → State → State → Prop := fun E st t => ∃ u : S, px u ∧ B E u t ∧ va_F A st t
section Runs
variable {p : Program} {l : Launch} {e : Env} {R : Room} {s : State} {m : MethodId} {args : Array Value} {below : List Frame} {meth : Method} {c : Code} {H : Heap} {locs : List Loc} {cells slots : Nat}
variable {y : MethodName} {bytes cc : ByteArray} {maxL nL mc ms n index : Nat} {ret : Option FieldType} {ws : List Cond} {rm : Room} {Pc : Array Value → State → Prop} {Qc : Array Value → State → Outcome → State → Prop} {XC : String → State → State → Prop} {free : Addr → Prop} {Ts : List Cond} {own C : String} {b : Addr} {As rest : List Value} {g : JFrame}
theorem vx_callBack (cb : CallB R s args own index y bytes maxL ret ws rm mc ms n) (hM : vx_Met l y ws rm Pc Qc XC mc ms free) (hbl : FrameBlind Pc) : vx_Back l R p e below s args y 3 8 (PreOf R mc ms Pc) (PostOf Qc mc ms free) (vx_Post XC mc ms free) := by
  obtain ⟨hrc, hrs, hfr, hlo, hws, hcw, -, hini, -⟩ := cb
  exact vx_back (bytes := bytes) (maxL := maxL) (ret := ret) hM hbl hrc hrs hfr hlo hws hcw (fun a' U hW => word_at hW (Or.inl (by first | rfl | simp [Cond.onTables, Cond.keeps, Cond.steady])) hini)
theorem vx_runV (S : CallFix p m c cc nL s args Ts own) (hM : vx_Met l y ws rm Pc Qc XC mc ms free) (cw : CallW R s args own C index y bytes maxL ret ws rm mc ms n) (hp : PreV s H C b Pc As)
    (hg : g.method = m) (hn : As.length = n) (hsize : g.locals.size = nL) (hstack : g.stack = As.reverse ++ .ref b :: rest) (hW : 2 * g.monitorRoom + (rest.map fun v => v.category).sum ≤ 8) (hdg : decode cc g.pc = .ok (.invokevirtual index, 3)) (hf : cells + mc ≤ R.cells ∧ slots + ms ≤ R.slots) :
    vx_Run p l e R s m args below meth c H locs cells slots mc ms g rest (Qc (Value.ref b :: As).toArray) XC free := by
  have hK : vx_Back l R p e below s args y 3 8 (PreOf R mc ms Pc) (PostOf Qc mc ms free) (vx_Post XC mc ms free) := vx_callBack cw.1 hM hp.1
  obtain ⟨⟨-, -, -, -, -, -, hcode, -, hy, hlen, hl⟩, hin, hse⟩ := cw
  obtain ⟨hx, hb, hml, ho, -⟩ := S
  obtain ⟨-, ⟨cellB, hcB, hoB, hclB⟩, hPc⟩ := hp
  intro T hT X
  rcases vx_callV X hx (C := C) (bytes := bytes) (maxL := maxL) (ret := ret) ho hl hin hse hcode hy hK (by rw [hT]; exact hcB) hoB hclB hg (hsize.trans hml.symm) (argsL := As) (rest := rest) (fun sig h => hn.trans (hlen sig h)) hstack hW (by rw [hb]; exact hdg)
    (fun vm₁ hW₁ => ⟨hf.1, hf.2, hPc (T.setVm vm₁) hT hW₁⟩) with ⟨v, vm₁, ⟨U', l2, c2, s2⟩, hW₁, X', ⟨g', mk, t, L, e1, e2, hq, h1, hL, h2, h3⟩, st⟩ | ⟨q, vm₁, ⟨U', l2, c2, s2⟩, hW₁, X', ⟨g', mk, t, L, E, ce, e1, e2, hq, hce, hcv, hcl, h1, hL, h2, h3⟩, st⟩
  · dsimp only [Pt.U, Pt.locs, Pt.cells, Pt.slots] at X' e1 e2 h1 h2 h3 st
    subst h1; subst h2; subst h3
    exact Or.inl ⟨v, (T.setVm vm₁).calling g' mk (Value.ref b :: As).toArray, t, U', L, hT, X', hL, e1, e2, hq, st⟩
  · dsimp only [Pt.U, Pt.locs, Pt.cells, Pt.slots] at X' e1 e2 h1 h2 h3 st hcl
    subst h1; subst h2; subst h3
    exact Or.inr ⟨q, (T.setVm vm₁).calling g' mk (Value.ref b :: As).toArray, t, U', L, E, ce, hT, X', hL, e1, e2, hq, hce, hcv, vx_cls hW₁ hcl, st⟩
theorem vx_runS (S : CallFix p m c cc nL s args Ts own) (hM : vx_Met l y ws rm Pc Qc XC mc ms free) (cw : CallB R s args own index y bytes maxL ret ws rm mc ms n ∧ (Cond.static y).before args s = true) (hp : PreS s H Pc As)
    (hg : g.method = m) (hn : As.length = n) (hsize : g.locals.size = nL) (hstack : g.stack = As.reverse ++ rest) (hW : 2 * g.monitorRoom + (rest.map fun v => v.category).sum ≤ 8) (hdg : decode cc g.pc = .ok (.invokestatic index, 3)) (hf : cells + mc ≤ R.cells ∧ slots + ms ≤ R.slots) :
    vx_Run p l e R s m args below meth c H locs cells slots mc ms g rest (Qc As.toArray) XC free := by
  have hK : vx_Back l R p e below s args y 3 8 (PreOf R mc ms Pc) (PostOf Qc mc ms free) (vx_Post XC mc ms free) := vx_callBack cw.1 hM hp.1
  obtain ⟨⟨-, -, -, -, -, -, hcode, hini, hy, hlen, hl⟩, hstt⟩ := cw
  obtain ⟨hx, hb, hml, ho, -⟩ := S
  intro T hT X
  rcases vx_callS X hx (bytes := bytes) (maxL := maxL) (ret := ret) ho hl hstt hini hcode hy hK hg (hsize.trans hml.symm) (argsL := As) (rest := rest) (fun sig h => hn.trans (hlen sig h)) hstack hW (by rw [hb]; exact hdg)
    (fun vm₁ hW₁ => ⟨hf.1, hf.2, hp.2 (T.setVm vm₁) hT hW₁⟩) with ⟨v, vm₁, ⟨U', l2, c2, s2⟩, hW₁, X', ⟨g', mk, t, L, e1, e2, hq, h1, hL, h2, h3⟩, st⟩ | ⟨q, vm₁, ⟨U', l2, c2, s2⟩, hW₁, X', ⟨g', mk, t, L, E, ce, e1, e2, hq, hce, hcv, hcl, h1, hL, h2, h3⟩, st⟩
  · dsimp only [Pt.U, Pt.locs, Pt.cells, Pt.slots] at X' e1 e2 h1 h2 h3 st
    subst h1; subst h2; subst h3
    exact Or.inl ⟨v, (T.setVm vm₁).calling g' mk As.toArray, t, U', L, hT, X', hL, e1, e2, hq, st⟩
  · dsimp only [Pt.U, Pt.locs, Pt.cells, Pt.slots] at X' e1 e2 h1 h2 h3 st hcl
    subst h1; subst h2; subst h3
    exact Or.inr ⟨q, (T.setVm vm₁).calling g' mk As.toArray, t, U', L, E, ce, hT, X', hL, e1, e2, hq, hce, hcv, vx_cls hW₁ hcl, st⟩
end Runs
section Rows
variable {p : Program} {l : Launch} {e : Env} {R : Room} {s : State} {m : MethodId} {args : Array Value} {below : List Frame} {meth : Method} {c : Code} {H : Heap} {locs : List Loc} {cells slots : Nat} {Q : State → Prop}
variable {mc ms : Nat} {free : Addr → Prop} {A0 A1 : Nat → Prop} {H0 : Heap} {a : Array Value} {pc : Nat} {ls : Array Slot} {st0 rest : List Value}
theorem vx_keep {st₀ t T' : State} {L : List Loc} (h0 : st₀.heap = H) (e1 : T'.heap = t.heap) (hS : va_S A0 H0 H locs) (hA : ∀ q, q < H.size → A1 q → A0 q) (hf : ∀ q, free q → A0 q) (hL : ∀ q ∈ L, free q.base) (hF : va_F A1 st₀ t) :
    H.size ≤ T'.heap.size ∧ (∀ q : Nat, q < H.size → ¬ A1 q → T'.heap[q]? = H[q]?) ∧ va_S A0 H0 T'.heap (locs ++ L) := by
  obtain ⟨hz, hk⟩ := hF
  rw [h0] at hz hk
  exact ⟨by rw [e1]; exact hz, fun q h1 h2 => by rw [e1]; exact hk q h1 h2,
    ⟨Nat.le_trans hS.1 (by rw [e1]; exact hz), fun q h1 h2 => by rw [e1, hk q (Nat.lt_of_lt_of_le h1 hS.1) (fun z => h2 (hA q (Nat.lt_of_lt_of_le h1 hS.1) z))]; exact hS.2.1 q h1 h2, fun q hq => by
      rcases List.mem_append.mp hq with h | h
      · exact hS.2.2 q h
      · exact hf _ (hL q h)⟩⟩
theorem vx_calli {S SX : Type} {post : Int32 → S → Prop} {px : SX → Prop} {B : S → State → Prop} {BX : String → SX → State → Prop} {AX : Nat → Prop} (hr : vx_Run p l e R s m args below meth c H locs cells slots mc ms (F0 m pc ls st0) rest (va_Qi post B A1 a) (vx_X px BX AX) free) (hS : va_S A0 H0 H locs) (hA : ∀ q, q < H.size → A1 q → A0 q) (hf : ∀ q, free q → A0 q) (hAX : ∀ q, q < H.size → AX q → A0 q)
    (kx : ∀ (E : String) (ce : Cell) (q9 : Addr) (u : SX) (t : State) (H1 : Heap) (locs1 : List Loc), t.heap = H1 → s.vm.Alike t.vm → px u → BX E u t → H.size ≤ H1.size → (∀ q : Nat, q < H.size → ¬ AX q → H1[q]? = H[q]?) → va_S A0 H0 H1 locs1 → H1[q9]? = some ce → ce.vm = .none → s.vm.findClass E = some ce.cls → vx_W p l e R s m args below meth c H1 locs1 (cells + mc) (slots + ms) Q (F0 m pc ls rest) q9)
    (kk : ∀ (r : Int32) (u : S) (t : State) (H1 : Heap) (locs1 : List Loc), t.heap = H1 → s.vm.Alike t.vm → post r u → B u t → H.size ≤ H1.size → (∀ q : Nat, q < H.size → ¬ A1 q → H1[q]? = H[q]?) → va_S A0 H0 H1 locs1 → W p l e R s m args below meth c H1 locs1 (cells + mc) (slots + ms) Q (F0 m (pc + 3) ls (.int r :: rest))) : W p l e R s m args below meth c H locs cells slots Q (F0 m pc ls st0) := by
  intro T hT X
  rcases hr T hT X with ⟨v, st₀, t, T', L, h0, X', hL, e1, e2, ⟨⟨r, u, hv, hp, hb⟩, hF⟩, st⟩ | ⟨q, st₀, t, T', L, E, ce, h0, X', hL, e1, e2, ⟨u, hp, hb, hF⟩, hce, hcv, hcl, st⟩
  · cases hv
    obtain ⟨k1, k2, k3⟩ := vx_keep h0 e1 hS hA hf hL hF
    obtain ⟨t2, a1, b1⟩ := kk r u t T'.heap (locs ++ L) e1.symm (by rw [← e2]; exact X'.warmed.alike) hp hb k1 k2 k3 T' rfl X'
    exact ⟨t2, st t2 a1, b1⟩
  · obtain ⟨k1, k2, k3⟩ := vx_keep h0 e1 hS hAX hf hL hF
    obtain ⟨t2, a1, b1⟩ := kx E ce q u t T'.heap (locs ++ L) e1.symm (by rw [← e2]; exact X'.warmed.alike) hp hb k1 k2 k3 (by rw [e1]; exact hce) hcv hcl T' rfl X'
    exact ⟨t2, st.trans a1, b1⟩
theorem vx_calll {S SX : Type} {post : Int64 → S → Prop} {px : SX → Prop} {B : S → State → Prop} {BX : String → SX → State → Prop} {AX : Nat → Prop} (hr : vx_Run p l e R s m args below meth c H locs cells slots mc ms (F0 m pc ls st0) rest (va_Ql post B A1 a) (vx_X px BX AX) free) (hS : va_S A0 H0 H locs) (hA : ∀ q, q < H.size → A1 q → A0 q) (hf : ∀ q, free q → A0 q) (hAX : ∀ q, q < H.size → AX q → A0 q)
    (kx : ∀ (E : String) (ce : Cell) (q9 : Addr) (u : SX) (t : State) (H1 : Heap) (locs1 : List Loc), t.heap = H1 → s.vm.Alike t.vm → px u → BX E u t → H.size ≤ H1.size → (∀ q : Nat, q < H.size → ¬ AX q → H1[q]? = H[q]?) → va_S A0 H0 H1 locs1 → H1[q9]? = some ce → ce.vm = .none → s.vm.findClass E = some ce.cls → vx_W p l e R s m args below meth c H1 locs1 (cells + mc) (slots + ms) Q (F0 m pc ls rest) q9)
    (kk : ∀ (r : Int64) (u : S) (t : State) (H1 : Heap) (locs1 : List Loc), t.heap = H1 → s.vm.Alike t.vm → post r u → B u t → H.size ≤ H1.size → (∀ q : Nat, q < H.size → ¬ A1 q → H1[q]? = H[q]?) → va_S A0 H0 H1 locs1 → W p l e R s m args below meth c H1 locs1 (cells + mc) (slots + ms) Q (F0 m (pc + 3) ls (.long r :: rest))) : W p l e R s m args below meth c H locs cells slots Q (F0 m pc ls st0) := by
  intro T hT X
  rcases hr T hT X with ⟨v, st₀, t, T', L, h0, X', hL, e1, e2, ⟨⟨r, u, hv, hp, hb⟩, hF⟩, st⟩ | ⟨q, st₀, t, T', L, E, ce, h0, X', hL, e1, e2, ⟨u, hp, hb, hF⟩, hce, hcv, hcl, st⟩
  · cases hv
    obtain ⟨k1, k2, k3⟩ := vx_keep h0 e1 hS hA hf hL hF
    obtain ⟨t2, a1, b1⟩ := kk r u t T'.heap (locs ++ L) e1.symm (by rw [← e2]; exact X'.warmed.alike) hp hb k1 k2 k3 T' rfl X'
    exact ⟨t2, st t2 a1, b1⟩
  · obtain ⟨k1, k2, k3⟩ := vx_keep h0 e1 hS hAX hf hL hF
    obtain ⟨t2, a1, b1⟩ := kx E ce q u t T'.heap (locs ++ L) e1.symm (by rw [← e2]; exact X'.warmed.alike) hp hb k1 k2 k3 (by rw [e1]; exact hce) hcv hcl T' rfl X'
    exact ⟨t2, st.trans a1, b1⟩
theorem vx_callf {S SX : Type} {post : UInt32 → S → Prop} {px : SX → Prop} {B : S → State → Prop} {BX : String → SX → State → Prop} {AX : Nat → Prop} (hr : vx_Run p l e R s m args below meth c H locs cells slots mc ms (F0 m pc ls st0) rest (va_Qf post B A1 a) (vx_X px BX AX) free) (hS : va_S A0 H0 H locs) (hA : ∀ q, q < H.size → A1 q → A0 q) (hf : ∀ q, free q → A0 q) (hAX : ∀ q, q < H.size → AX q → A0 q)
    (kx : ∀ (E : String) (ce : Cell) (q9 : Addr) (u : SX) (t : State) (H1 : Heap) (locs1 : List Loc), t.heap = H1 → s.vm.Alike t.vm → px u → BX E u t → H.size ≤ H1.size → (∀ q : Nat, q < H.size → ¬ AX q → H1[q]? = H[q]?) → va_S A0 H0 H1 locs1 → H1[q9]? = some ce → ce.vm = .none → s.vm.findClass E = some ce.cls → vx_W p l e R s m args below meth c H1 locs1 (cells + mc) (slots + ms) Q (F0 m pc ls rest) q9)
    (kk : ∀ (r : UInt32) (u : S) (t : State) (H1 : Heap) (locs1 : List Loc), t.heap = H1 → s.vm.Alike t.vm → post r u → B u t → H.size ≤ H1.size → (∀ q : Nat, q < H.size → ¬ A1 q → H1[q]? = H[q]?) → va_S A0 H0 H1 locs1 → W p l e R s m args below meth c H1 locs1 (cells + mc) (slots + ms) Q (F0 m (pc + 3) ls (.float r :: rest))) : W p l e R s m args below meth c H locs cells slots Q (F0 m pc ls st0) := by
  intro T hT X
  rcases hr T hT X with ⟨v, st₀, t, T', L, h0, X', hL, e1, e2, ⟨⟨r, u, hv, hp, hb⟩, hF⟩, st⟩ | ⟨q, st₀, t, T', L, E, ce, h0, X', hL, e1, e2, ⟨u, hp, hb, hF⟩, hce, hcv, hcl, st⟩
  · cases hv
    obtain ⟨k1, k2, k3⟩ := vx_keep h0 e1 hS hA hf hL hF
    obtain ⟨t2, a1, b1⟩ := kk r u t T'.heap (locs ++ L) e1.symm (by rw [← e2]; exact X'.warmed.alike) hp hb k1 k2 k3 T' rfl X'
    exact ⟨t2, st t2 a1, b1⟩
  · obtain ⟨k1, k2, k3⟩ := vx_keep h0 e1 hS hAX hf hL hF
    obtain ⟨t2, a1, b1⟩ := kx E ce q u t T'.heap (locs ++ L) e1.symm (by rw [← e2]; exact X'.warmed.alike) hp hb k1 k2 k3 (by rw [e1]; exact hce) hcv hcl T' rfl X'
    exact ⟨t2, st.trans a1, b1⟩
theorem vx_calld {S SX : Type} {post : UInt64 → S → Prop} {px : SX → Prop} {B : S → State → Prop} {BX : String → SX → State → Prop} {AX : Nat → Prop} (hr : vx_Run p l e R s m args below meth c H locs cells slots mc ms (F0 m pc ls st0) rest (va_Qd post B A1 a) (vx_X px BX AX) free) (hS : va_S A0 H0 H locs) (hA : ∀ q, q < H.size → A1 q → A0 q) (hf : ∀ q, free q → A0 q) (hAX : ∀ q, q < H.size → AX q → A0 q)
    (kx : ∀ (E : String) (ce : Cell) (q9 : Addr) (u : SX) (t : State) (H1 : Heap) (locs1 : List Loc), t.heap = H1 → s.vm.Alike t.vm → px u → BX E u t → H.size ≤ H1.size → (∀ q : Nat, q < H.size → ¬ AX q → H1[q]? = H[q]?) → va_S A0 H0 H1 locs1 → H1[q9]? = some ce → ce.vm = .none → s.vm.findClass E = some ce.cls → vx_W p l e R s m args below meth c H1 locs1 (cells + mc) (slots + ms) Q (F0 m pc ls rest) q9)
    (kk : ∀ (r : UInt64) (u : S) (t : State) (H1 : Heap) (locs1 : List Loc), t.heap = H1 → s.vm.Alike t.vm → post r u → B u t → H.size ≤ H1.size → (∀ q : Nat, q < H.size → ¬ A1 q → H1[q]? = H[q]?) → va_S A0 H0 H1 locs1 → W p l e R s m args below meth c H1 locs1 (cells + mc) (slots + ms) Q (F0 m (pc + 3) ls (.double r :: rest))) : W p l e R s m args below meth c H locs cells slots Q (F0 m pc ls st0) := by
  intro T hT X
  rcases hr T hT X with ⟨v, st₀, t, T', L, h0, X', hL, e1, e2, ⟨⟨r, u, hv, hp, hb⟩, hF⟩, st⟩ | ⟨q, st₀, t, T', L, E, ce, h0, X', hL, e1, e2, ⟨u, hp, hb, hF⟩, hce, hcv, hcl, st⟩
  · cases hv
    obtain ⟨k1, k2, k3⟩ := vx_keep h0 e1 hS hA hf hL hF
    obtain ⟨t2, a1, b1⟩ := kk r u t T'.heap (locs ++ L) e1.symm (by rw [← e2]; exact X'.warmed.alike) hp hb k1 k2 k3 T' rfl X'
    exact ⟨t2, st t2 a1, b1⟩
  · obtain ⟨k1, k2, k3⟩ := vx_keep h0 e1 hS hAX hf hL hF
    obtain ⟨t2, a1, b1⟩ := kx E ce q u t T'.heap (locs ++ L) e1.symm (by rw [← e2]; exact X'.warmed.alike) hp hb k1 k2 k3 (by rw [e1]; exact hce) hcv hcl T' rfl X'
    exact ⟨t2, st.trans a1, b1⟩
theorem vx_callv {S SX : Type} {post : S → Prop} {px : SX → Prop} {B : S → State → Prop} {BX : String → SX → State → Prop} {AX : Nat → Prop} (hr : vx_Run p l e R s m args below meth c H locs cells slots mc ms (F0 m pc ls st0) rest (va_Qv post B A1 a) (vx_X px BX AX) free) (hS : va_S A0 H0 H locs) (hA : ∀ q, q < H.size → A1 q → A0 q) (hf : ∀ q, free q → A0 q) (hAX : ∀ q, q < H.size → AX q → A0 q)
    (kx : ∀ (E : String) (ce : Cell) (q9 : Addr) (u : SX) (t : State) (H1 : Heap) (locs1 : List Loc), t.heap = H1 → s.vm.Alike t.vm → px u → BX E u t → H.size ≤ H1.size → (∀ q : Nat, q < H.size → ¬ AX q → H1[q]? = H[q]?) → va_S A0 H0 H1 locs1 → H1[q9]? = some ce → ce.vm = .none → s.vm.findClass E = some ce.cls → vx_W p l e R s m args below meth c H1 locs1 (cells + mc) (slots + ms) Q (F0 m pc ls rest) q9)
    (kk : ∀ (u : S) (t : State) (H1 : Heap) (locs1 : List Loc), t.heap = H1 → s.vm.Alike t.vm → post u → B u t → H.size ≤ H1.size → (∀ q : Nat, q < H.size → ¬ A1 q → H1[q]? = H[q]?) → va_S A0 H0 H1 locs1 → W p l e R s m args below meth c H1 locs1 (cells + mc) (slots + ms) Q (F0 m (pc + 3) ls (rest))) : W p l e R s m args below meth c H locs cells slots Q (F0 m pc ls st0) := by
  intro T hT X
  rcases hr T hT X with ⟨v, st₀, t, T', L, h0, X', hL, e1, e2, ⟨⟨u, hv, hp, hb⟩, hF⟩, st⟩ | ⟨q, st₀, t, T', L, E, ce, h0, X', hL, e1, e2, ⟨u, hp, hb, hF⟩, hce, hcv, hcl, st⟩
  · cases hv
    obtain ⟨k1, k2, k3⟩ := vx_keep h0 e1 hS hA hf hL hF
    obtain ⟨t2, a1, b1⟩ := kk u t T'.heap (locs ++ L) e1.symm (by rw [← e2]; exact X'.warmed.alike) hp hb k1 k2 k3 T' rfl X'
    exact ⟨t2, st t2 a1, b1⟩
  · obtain ⟨k1, k2, k3⟩ := vx_keep h0 e1 hS hAX hf hL hF
    obtain ⟨t2, a1, b1⟩ := kx E ce q u t T'.heap (locs ++ L) e1.symm (by rw [← e2]; exact X'.warmed.alike) hp hb k1 k2 k3 (by rw [e1]; exact hce) hcv hcl T' rfl X'
    exact ⟨t2, st.trans a1, b1⟩
/-- caught by the row x of this method's table; the rows ahead don't take it -/
theorem vx_catch {own name : String} {E : String} {ce : Cell} {q : Addr} (hown : s.vm.findClass own = some m.cls) (pre : List ExceptionTableEntry) (x : ExceptionTableEntry) (suf : List ExceptionTableEntry) (hsplit : c.exceptionTable.toList = pre ++ x :: suf)
    (hpass : ∀ z ∈ pre, covers z pc = false ∨ (z.catchType ≠ 0 ∧ ∃ nm : String, (Cond.classLink own z.catchType nm).before args s = true ∧ va_Nc E nm s)) (hx : covers x pc = true) (h0 : x.catchType ≠ 0)
    (hlink : (Cond.classLink own x.catchType name).before args s = true) (hcast : (Cond.castable E name).before args s = true) (hcell : H[q]? = some ce) (hv : ce.vm = .none) (hcl : s.vm.findClass E = some ce.cls)
    (kk : W p l e R s m args below meth c H locs cells slots Q (F0 m x.handlerPc ls [.ref q])) : vx_W p l e R s m args below meth c H locs cells slots Q (F0 m pc ls rest) q := by
  intro T hT X
  have hpl : e.platform.magicAccessors = ({} : Platform).magicAccessors := by rw [X.admits.platform]
  obtain ⟨c3, c4, hc3, hc4, hasg⟩ := Cond.castable_spec hcast
  cases Option.some.inj (hc3.symm.trans hcl)
  obtain ⟨c5, hc5, hcl5⟩ := Cond.classLink_spec hown hlink e.platform hpl
  cases Option.some.inj (hc4.symm.trans hc5)
  obtain ⟨vm', X', st⟩ := X.thenCaughtThrough q (g := F0 m pc ls rest) rfl (Steps.refl _) (by rw [hT]; exact hcell) (by rw [hv]; rfl) (by obtain ⟨k9, h9, -⟩ := Vm.findClass_spec hcl; exact ⟨k9, h9⟩) pre x suf hsplit
    (fun z hz => by
      rcases hpass z hz with h | ⟨hz0, nm, hl1, hn1⟩
      · exact Or.inl h
      · obtain ⟨c6, hc6, hcl6⟩ := Cond.classLink_spec hown hl1 e.platform hpl
        obtain ⟨a8, b8, h1, h2, h3⟩ := hn1
        cases Option.some.inj (h1.symm.trans hcl)
        cases Option.some.inj (h2.symm.trans hc6)
        exact Or.inr ⟨hz0, _, hcl6, h3⟩) hx (Or.inr ⟨h0, c4, hcl5, hasg⟩)
  obtain ⟨t, a1, b1⟩ := kk (T.setVm vm') hT X'
  exact ⟨t, st.trans a1, b1⟩
end Rows
section Ends
variable {p : Program} {l : Launch} {e : Env} {R : Room} {s : State} {m : MethodId} {args : Array Value} {below : List Frame} {meth : Method} {c : Code} {H : Heap} {locs : List Loc} {cells slots : Nat} {Q : State → Prop}
variable {mc ms : Nat} {free : Addr → Prop} {A0 A1 : Nat → Prop} {H0 : Heap} {a : Array Value} {ls : Array Slot} {st0 rest : List Value}
variable {Qc : Array Value → State → Outcome → State → Prop} {XC : String → State → State → Prop}
/-- what a body that may throw owes at its end -/
def vx_MQ (below : List Frame) (Qc : Array Value → State → Outcome → State → Prop) (XC : String → State → State → Prop) (a : Array Value) (s : State) (mc ms : Nat) (free : Addr → Prop) : State → Prop := fun t =>
  ∃ o, t.status = .running ∧ Ended t below o ∧ vx_Q Qc XC mc ms free a s o t
theorem vx_ret {g : JFrame} {mc ms : Nat} (k : W p l e R s m args below meth c H locs cells slots (MQ below Qc args s mc ms free) g) : W p l e R s m args below meth c H locs cells slots (vx_MQ below Qc XC args s mc ms free) g := by
  intro T hT X
  obtain ⟨t, a1, o, b1, b2, b3, b4⟩ := k T hT X
  exact ⟨t, a1, o, b1, b2, Or.inl ⟨b3, b4⟩⟩
/-- not caught here: it goes on to the caller -/
theorem vx_widen {g : JFrame} {q : Addr} {k n : Nat} (h1 : cells ≤ k) (h2 : slots ≤ n) (kk : vx_W p l e R s m args below meth c H locs k n Q g q) : vx_W p l e R s m args below meth c H locs cells slots Q g q := fun T hT X => kk T hT (stand_widen X h1 h2)
theorem vx_out {pc : Nat} {E : String} {ce : Cell} {q : Addr} {mc ms : Nat} (hout : ∀ x ∈ c.exceptionTable.toList, covers x pc = false) (hlocks : meth.locks = false) (hcell : H[q]? = some ce) (hv : ce.vm = .none) (hcl : s.vm.findClass E = some ce.cls)
    (hx : ∀ t : State, t.heap = H → s.vm.Alike t.vm → XC E s t) (hf : ∀ z ∈ locs, free z.base) (hc : cells ≤ mc) (hs : slots ≤ ms) :
    vx_W p l e R s m args below meth c H locs cells slots (vx_MQ below Qc XC args s mc ms free) (F0 m pc ls rest) q := by
  intro T hT X
  obtain ⟨st1, hrun, hend, hW, hsm⟩ := X.leaveThrown q (g := F0 m pc ls rest) rfl rfl rfl hout hlocks
  have hcell9 : (T.setFrames (.throwing q :: below)).heap[q]? = some ce := by
    show T.heap[q]? = some ce
    rw [hT]; exact hcell
  exact ⟨_, st1, .threw q, hrun, hend, Or.inr ⟨q, rfl, E, ce, locs, hx _ hT hW.alike, hcell9, hv, hcl, hW, hsm.mono hc hs, hf⟩⟩
theorem vx_frame {U : State} {k n : Nat} (h : s.sameButNew ({ U with vm := s.vm } : State) locs k n) : s.heap.size ≤ U.heap.size ∧ ∀ q : Nat, q < s.heap.size → (∀ z ∈ locs, z.base ≠ q) → U.heap[q]? = s.heap[q]? := by
  obtain ⟨-, h2, -, -, -, h6⟩ := h
  refine ⟨h2, fun q hq hz => ?_⟩
  obtain ⟨c9, e1, e2, e3, e4⟩ := h6 q _ (Array.getElem?_eq_getElem hq)
  have hs : c9.slots = (s.heap[q]).slots := Array.ext_getElem? fun i => e4 i fun hm => hz _ hm rfl
  have h9 : c9 = s.heap[q] := by
    rw [hs] at e2
    exact e2
  have e5 : U.heap[q]? = some c9 := e1
  rw [e5, h9, Array.getElem?_eq_getElem hq]
/-- the words of a throw but the four that speak of the heap -/
def vx_no (w : Cond) : Bool := decide (w ≠ .isRef (.static Bundle.tN "UNASSIGNED_STACK" Bundle.steD)) && decide (w ≠ .isRef (.static Bundle.tN "SUPPRESSED_SENTINEL" Bundle.listD)) && decide (w ≠ .laysStatic Bundle.tN "UNASSIGNED_STACK" Bundle.steD) && decide (w ≠ .laysStatic Bundle.tN "SUPPRESSED_SENTINEL" Bundle.listD)
def vx_at0 (own : String) (ic : Nat) (X : String) (names : List String) : List Cond := (Bundle.ownAtoms0 own ic X names).filter vx_no
def vx_atS (own : String) (ic : Nat) (X : String) (names : List String) : List Cond := (Bundle.ownAtoms own ic X names).filter vx_no
/-- a word that the tables alone decide, or a good one -/
def vx_ot (w : Cond) : Bool := w.onTables || goodWord w
theorem vx_ot_at {args a' : Array Value} {s U : State} {w : Cond} (hW : s.WarmedH U.vm) (hvm : s.vm = U.vm) (hg : vx_ot w = true) (h : w.before args s = true) : w.before a' U = true := by
  simp only [vx_ot, Bool.or_eq_true] at hg
  rcases hg with hg | hg
  · exact va_tabs hg hvm h
  · exact word_at hW (good_of_word hg) h
/-- a list's words: the good ones out of the method's own list, the others by premises of their own -/
theorem vx_hat {args : Array Value} {s : State} {L B : List Cond} (h1 : ∀ w ∈ L.filter goodWord, w.before args s = true) (h2 : ∀ w ∈ L.filter (fun w => !goodWord w), w ∈ B) (h3 : ∀ w ∈ B, w.before args s = true) : ∀ w ∈ L, w.before args s = true := by
  intro w hw
  by_cases g : goodWord w = true
  · exact h1 w (List.mem_filter.mpr ⟨hw, g⟩)
  · refine h3 w (h2 w (List.mem_filter.mpr ⟨hw, ?_⟩))
    show (!goodWord w) = true
    cases hgw : goodWord w
    · rfl
    · exact absurd hgw g
theorem vx_c {args : Array Value} {s : State} {w : Cond} {B : List Cond} (h : w.before args s = true) (t : ∀ w ∈ B, w.before args s = true) : ∀ w' ∈ w :: B, w'.before args s = true := fun w' h' => (List.mem_cons.mp h').elim (fun e => by rw [e]; exact h) (t w')
theorem vx_n {args : Array Value} {s : State} : ∀ w ∈ ([] : List Cond), w.before args s = true := fun _ h => nomatch h
theorem vx_own {args : Array Value} {s : State} {L : List Cond} (h1 : ∀ w ∈ L.filter vx_no, w.before args s = true)
    (hU : (Cond.isRef (.static Bundle.tN "UNASSIGNED_STACK" Bundle.steD)).before args s = true) (hN : (Cond.isRef (.static Bundle.tN "SUPPRESSED_SENTINEL" Bundle.listD)).before args s = true)
    (lU : (Cond.laysStatic Bundle.tN "UNASSIGNED_STACK" Bundle.steD).before args s = true) (lN : (Cond.laysStatic Bundle.tN "SUPPRESSED_SENTINEL" Bundle.listD).before args s = true) : ∀ w ∈ L, w.before args s = true := by
  intro w hw
  by_cases e1 : w = .isRef (.static Bundle.tN "UNASSIGNED_STACK" Bundle.steD)
  · rw [e1]; exact hU
  · by_cases e2 : w = .isRef (.static Bundle.tN "SUPPRESSED_SENTINEL" Bundle.listD)
    · rw [e2]; exact hN
    · by_cases e3 : w = .laysStatic Bundle.tN "UNASSIGNED_STACK" Bundle.steD
      · rw [e3]; exact lU
      · by_cases e4 : w = .laysStatic Bundle.tN "SUPPRESSED_SENTINEL" Bundle.listD
        · rw [e4]; exact lN
        · exact h1 w (List.mem_filter.mpr ⟨hw, by unfold vx_no; rw [decide_eq_true e1, decide_eq_true e2, decide_eq_true e3, decide_eq_true e4]; rfl⟩)
/-- where a static field lies, its class's statics cell in H -/
def vx_L (C n d : String) (A : Nat → Prop) (U : State) (H : Heap) : Prop := ∃ (c : ClassId) (k : Class) (i : Nat) (f : Field) (a : Nat) (cell : Cell), U.vm.findClass C = some c ∧ U.fieldFound? C n d = some (c, k, i, f) ∧ f.isStatic = true ∧ k.statics = some a ∧ H[a]? = some cell ∧ cell.vm.isStatics = true ∧ cell.cls = c ∧ f.slot < cell.slots.size ∧ k.staticTypes[f.slot]? = some f.type ∧ ¬ A a
theorem vx_L.moved {C n d : String} {A : Nat → Prop} {u U : State} {H : Heap} (hvm : u.vm.Alike U.vm) (h : vx_L C n d A u H) : vx_L C n d A U H := by
  obtain ⟨c, k, i, f, a, cell, h1, h2, h3, h4, h5, h6, h7, h8, h9, h10⟩ := h
  obtain ⟨k', hi', he⟩ := State.fieldFound?_setVm hvm h2
  exact ⟨c, k', i, f, a, cell, by rw [hvm.findClass]; exact h1, hi', h3, by rw [he]; exact h4, h5, h6, h7, h8, by rw [he]; exact h9, h10⟩
theorem vx_L.kept {C n d : String} {A : Nat → Prop} {U : State} {H H1 : Heap} (h : vx_L C n d A U H) (hq : ∀ a : Nat, a < H.size → ¬ A a → H1[a]? = H[a]?) : vx_L C n d A U H1 := by
  obtain ⟨c, k, i, f, a, cell, h1, h2, h3, h4, h5, h6, h7, h8, h9, h10⟩ := h
  exact ⟨c, k, i, f, a, cell, h1, h2, h3, h4, by rw [hq a (Array.getElem?_eq_some_iff.mp h5).1 h10]; exact h5, h6, h7, h8, h9, h10⟩
theorem vx_L.narrow {C n d : String} {A B : Nat → Prop} {U : State} {H : Heap} (h : vx_L C n d A U H) (hAB : ∀ q, B q → A q) : vx_L C n d B U H := by
  obtain ⟨c, k, i, f, a, cell, h1, h2, h3, h4, h5, h6, h7, h8, h9, h10⟩ := h
  exact ⟨c, k, i, f, a, cell, h1, h2, h3, h4, h5, h6, h7, h8, h9, fun z => h10 (hAB _ z)⟩
theorem vx_L.word {C n d : String} {A : Nat → Prop} {s : State} {args : Array Value} (h : vx_L C n d A s s.heap) : (Cond.laysStatic C n d).before args s = true := by
  obtain ⟨c, k, i, f, a, cell, h1, h2, h3, h4, h5, h6, h7, h8, h9, -⟩ := h
  show (Cond.laysStatic C n d).holds args s none s [] = true
  exact Cond.laysStatic_of h1 h2 h3 h4 h5 h6 h7 h8 h9
/-- .. and what it holds: null or some reference -/
def vx_Zq (C n d : String) (A : Nat → Prop) (U : State) (H : Heap) : Prop := va_Zq C n d A U H ∧ vx_L C n d A U H
theorem vx_Zq.moved {C n d : String} {A : Nat → Prop} {u U : State} {H : Heap} (hvm : u.vm.Alike U.vm) (h : vx_Zq C n d A u H) : vx_Zq C n d A U H := ⟨va_Zq.moved hvm h.1, vx_L.moved hvm h.2⟩
theorem vx_Zq.kept {C n d : String} {A : Nat → Prop} {U : State} {H H1 : Heap} (h : vx_Zq C n d A U H) (hq : ∀ a : Nat, a < H.size → ¬ A a → H1[a]? = H[a]?) : vx_Zq C n d A U H1 := ⟨va_Zq.kept h.1 hq, vx_L.kept h.2 hq⟩
theorem vx_Zq.narrow {C n d : String} {A B : Nat → Prop} {U : State} {H : Heap} (h : vx_Zq C n d A U H) (hAB : ∀ q, B q → A q) : vx_Zq C n d B U H := ⟨va_Zq.narrow h.1 hAB, vx_L.narrow h.2 hAB⟩
theorem vx_Zqof {args : Array Value} {s : State} {C n d : String} {A : Nat → Prop} (hl : (Cond.laysStatic C n d).before args s = true) (hini : (Cond.initialized C).before args s = true) (h : (Cond.isRef (.static C n d)).before args s = true) (hA : ∀ a : Nat, a < s.heap.size → ¬ A a) : vx_Zq C n d A s s.heap := by
  refine ⟨va_Zqof hl hini h hA, ?_⟩
  obtain ⟨c, k, i, f, a, cell, h1, h2, h3, h4, h5, h6, h7, h8, h9⟩ := Cond.laysStatic_spec hl
  exact ⟨c, k, i, f, a, cell, h1, h2, h3, h4, h5, h6, h7, h8, h9, hA a (Array.getElem?_eq_some_iff.mp h5).1⟩
theorem vx_isRef {C n d : String} {v : Value} {A : Nat → Prop} {s : State} {args : Array Value} (h : va_Z C n d v A s s.heap) (hv : v.isRef = true) : (Cond.isRef (.static C n d)).before args s = true := by
  obtain ⟨cf, kf, fi, f, a, cell, h1, h2, h3, h4, h5, h6, h7, -⟩ := h
  have he : (Term.static C n d).eval args s none [] s = some v := by
    simp [Term.eval, State.fieldNamed?, h1, h2, h4, h5, h6, h7]
  simp only [Cond.before, Cond.holds, Cond.value, he]
  cases v <;> simp_all [Value.isRef]
theorem vx_isRefq {C n d : String} {A : Nat → Prop} {s : State} {args : Array Value} (h : va_Zq C n d A s s.heap) : (Cond.isRef (.static C n d)).before args s = true := by
  rcases h with h | ⟨t, h⟩
  · exact vx_isRef h rfl
  · exact vx_isRef h rfl
/-- the same frame, seen from here: as if the method were called anew in this heap -/
theorem vx_rebase {T : State} (X : Stand p l e R s m args below meth c T locs cells slots) {R' : Room} (hf : R'.frames ≤ R.frames) (hl : R'.locals ≤ R.locals) (hc : cells + R'.cells ≤ R.cells) (hs : slots + R'.slots ≤ R.slots) :
    Stand p l e R' ((T.setVm s.vm).setFrames (.invoking m args :: below)) m args below meth c T [] 0 0 := by
  have htop : (T.setVm s.vm).topJava?.isSome := X.here.top
  have hF : ((T.setVm s.vm).setFrames (.invoking m args :: below)).frames = .invoking m args :: below := State.frames_setFrames _ (State.cur_lt_of_top htop)
  obtain ⟨g₀, hg0⟩ := Option.isSome_iff_exists.mp htop
  obtain ⟨r, hr⟩ := State.topJava?_eq_some.mp hg0
  have hl9 : e.platform.stackLimits (T.setVm s.vm).me = e.platform.stackLimits s.me := X.limits
  have hb9 : (T.setVm s.vm).me.stackBytes = s.me.stackBytes := X.bytes
  refine ⟨X.admits, X.cas, X.clock, hF, ?_, X.hears, X.method, X.code, X.here, X.tail, X.warmed, ?_, ?_, ?_⟩
  · have h := X.room
    have hU : ((T.setVm s.vm).setFrames (.invoking m args :: below)).localsInUse = s.localsInUse := by
      rw [State.localsInUse_invoking hF (meth := meth) (c := c) X.method X.code, State.localsInUse_invoking X.frames X.method X.code]
    simp only [State.hasRoom, Bool.and_eq_true, decide_eq_true_eq] at h ⊢
    obtain ⟨⟨⟨⟨h1, h2, h3, h4, h5, h6⟩, h7⟩, h8⟩, h9⟩ := h
    rw [X.frames, List.length_cons] at h2 h3
    have q1 := X.heapSize
    have q2 := X.used
    simp only [hF, hU, List.length_cons, State.stackLimits_setFrames, State.stackBytes_setFrames, hl9, hb9]
    refine ⟨⟨⟨⟨by omega, by omega, by omega, by omega, by omega, h6⟩, ?_⟩, ?_⟩, X.book⟩
    · show T.heap.size + R'.cells ≤ e.platform.maxCells
      omega
    · show T.slotsUsed + R'.slots ≤ e.platform.maxSlots
      omega
  · rw [State.stackLimits_setFrames]; rfl
  · rw [State.stackBytes_setFrames]; rfl
  · refine ⟨?_, Nat.le_refl _, Nat.le_refl _, ?_, ?_, fun a c9 h9 => ⟨c9, h9, rfl, rfl, fun _ _ => rfl⟩⟩
    · obtain ⟨t, ht, -⟩ := State.frames_cons hr
      show T.setVm s.vm = { ((T.setVm s.vm).setFrames (.invoking m args :: below)).setFrames (T.setVm s.vm).frames with heap := T.heap, slotsUsed := T.slotsUsed }
      rw [State.setFrames_setFrames, State.setFrames_self ht]
      rfl
    · show T.slotsUsed = T.slotsUsed + ((T.heap.toList.drop T.heap.size).map (·.slots.size)).sum
      rw [List.drop_eq_nil_of_le (Nat.le_of_eq Array.length_toList)]
      rfl
    · show ((T.heap.toList.drop T.heap.size).map (·.slots.size)).sum ≤ 0
      rw [List.drop_eq_nil_of_le (Nat.le_of_eq Array.length_toList)]
      exact Nat.le_refl _
/-- 'throw new E()': new; dup; invokespecial; athrow -/
theorem vx_throw0 {cc : ByteArray} {pc : Nat} (hexec : p.tables.exec = Jvm.exec) (hb : c.code = cc) (hl : l.stackTraces = false) {own cls : String} {names : List String} {ik ic mc ms : Nat} {A : Nat → Prop}
    (hown : s.vm.findClass own = some m.cls) (hcls : Bundle.fit cls = true) (hnames : ∀ n ∈ names, Bundle.fit n = true)
    (hk : (Cond.classLink own ik cls).before args s = true) (hini : (Cond.initialized cls).before args s = true) (hat : ∀ w ∈ vx_at0 own ic cls names, w.before args s = true)
    (hgood : ∀ w ∈ Cond.classLink own ik cls :: Cond.initialized cls :: vx_at0 own ic cls names, vx_ot w = true)
    (hU : vx_Zq Bundle.tN "UNASSIGNED_STACK" Bundle.steD A s s.heap) (hN : vx_Zq Bundle.tN "SUPPRESSED_SENTINEL" Bundle.listD A s s.heap) (hS : va_S A s.heap H locs) (hsize : ls.size = c.maxLocals)
    (d0 : decode cc pc = .ok (.new ik, 3)) (d3 : decode cc (pc + 3) = .ok (.dup, 1)) (d4 : decode cc (pc + 4) = .ok (.invokespecial ic, 3)) (d7 : decode cc (pc + 7) = .ok (.athrow, 1))
    (hout : ∀ x ∈ c.exceptionTable.toList, covers x (pc + 7) = false)
    (hRframes : names.length + 3 < R.frames) (hRlocals : (rest.map fun v => v.category).sum + (13 * (names.length + 1) + 42) ≤ R.locals) (hRcells : cells + 1 ≤ R.cells) (hRslots : slots + 6 ≤ R.slots) (hlocks : meth.locks = false)
    (hx : ∀ t : State, s.vm.Alike t.vm → H.size ≤ t.heap.size → (∀ q : Nat, q < H.size → t.heap[q]? = H[q]?) → XC cls s t)
    (hf : ∀ z ∈ locs, free z.base) (hc : cells + 1 ≤ mc) (hs : slots + 6 ≤ ms) :
    W p l e R s m args below meth c H locs cells slots (vx_MQ below Qc XC args s mc ms free) (F0 m pc ls rest) := by
  intro T hT X
  have htr : e.platform.stackTraces = false := (show e.platform.stackTraces = l.stackTraces by rw [X.admits.platform]).trans hl
  have Y := vx_rebase X (R' := { frames := R.frames, locals := R.locals, cells := 1, slots := 6 }) (Nat.le_refl _) (Nat.le_refl _) hRcells hRslots
  obtain ⟨s', hA⟩ : ∃ z, z = (T.setVm s.vm).setFrames (.invoking m args :: below) := ⟨_, rfl⟩
  rw [← hA] at Y
  have hvm : s'.vm = s.vm := by rw [hA]; rfl
  have hhp : s'.heap = H := by rw [hA]; exact hT
  have hW0 : s.WarmedH s'.vm := by rw [hvm]; exact State.WarmedH.refl s
  have hat' : ∀ w ∈ vx_at0 own ic cls names, w.before args s' = true := fun w hw => vx_ot_at hW0 hvm.symm (hgood w (List.mem_cons_of_mem _ (List.mem_cons_of_mem _ hw))) (hat w hw)
  have hk' : (Cond.classLink own ik cls).before args s' = true := vx_ot_at hW0 hvm.symm (hgood _ List.mem_cons_self) hk
  have hini' : (Cond.initialized cls).before args s' = true := vx_ot_at hW0 hvm.symm (hgood _ (List.mem_cons_of_mem _ List.mem_cons_self)) hini
  have hU' : vx_Zq Bundle.tN "UNASSIGNED_STACK" Bundle.steD A s' s'.heap := by rw [hhp]; exact vx_Zq.moved hW0.alike (hU.kept hS.2.1)
  have hN' : vx_Zq Bundle.tN "SUPPRESSED_SENTINEL" Bundle.listD A s' s'.heap := by rw [hhp]; exact vx_Zq.moved hW0.alike (hN.kept hS.2.1)
  have h : ∀ w ∈ Bundle.ownAtoms0 own ic cls names, w.before args s' = true := vx_own hat' (vx_isRefq hU'.1) (vx_isRefq hN'.1) hU'.2.word hN'.2.word
  have hown' : s'.vm.findClass own = some m.cls := by rw [hvm]; exact hown
  have hins : (Cond.instantiable cls 6).before args s' = true := h _ (by simp [Bundle.ownAtoms0])
  obtain ⟨vm₁, cX, kX, hfX, hkX, -, -, X₁, st1⟩ := Y.newCold hexec (own := own) (C := cls) (index := ik) (n := 6) hown' hk' hins hini'
    (g := F0 m pc ls rest) rfl (by rw [hb]; exact d0) (Nat.le_refl _) (Nat.le_refl _)
  generalize hT1 : (T.setVm vm₁).pushCell { cls := cX, slots := kX.instanceTypes.map defaultValue, vm := .none } = T1 at X₁ st1
  have hcat : (Value.ref T.heap.size).category = 1 := rfl
  have hcellA : T1.heap[T.heap.size]? = some (freshCell cX kX) := by rw [← hT1]; exact State.heap_pushCell_size _ _
  have d3' : decode c.code (pc + 3) = .ok (.dup, 1) := by rw [hb]; exact d3
  obtain ⟨U, hsteps, hrun, hend, hW, hsame, ce, hce, hO⟩ := X₁.ctorThrow0 hexec htr (own := own) (cls := cls) (names := names) (ic := ic) hown' hcls hnames h (fun x hx => nomatch hx) hfX hkX hcellA (by rw [hhp, hT]; exact Nat.le_refl _)
    (g := { method := m, pc := pc + 4, locals := ls, stack := .ref T.heap.size :: .ref T.heap.size :: rest, locked := none }) rfl hsize rfl rfl (rest := rest) rfl
    (by rw [hb]; exact d4) (by rw [hb]; exact d7) hout hRframes (by simp only [List.map_cons, List.sum_cons, hcat]; omega) hlocks
  obtain ⟨f1, f2⟩ := vx_frame hsame
  rw [hhp] at f1 f2
  have hWs : s.WarmedH U.vm := State.WarmedH.trans hW0 hW
  have hcl : s.vm.findClass cls = some ce.cls := by
    have h9 := hO.cls
    rw [hvm] at h9
    exact h9
  have hall : s.sameButNew ({ U with vm := s.vm } : State) locs mc ms := by
    subst hA
    obtain ⟨e1, e2⟩ := hsame
    rw [State.setFrames_setFrames] at e1
    have h2 : (T.setVm s.vm).sameButNew ({ U with vm := s.vm } : State) [] (0 + 1) (0 + 6) := ⟨e1, e2⟩
    have h3 := X.same.trans h2
    rw [List.append_nil] at h3
    exact h3.mono hc hs
  refine ⟨U, ?_, .threw T.heap.size, hrun, hend, Or.inr ⟨T.heap.size, rfl, cls, ce, locs, hx U hWs.alike f1 (fun q hq => f2 q hq (fun z hz => nomatch hz)), hce, hO.vm, hcl, hWs, hall, hf⟩⟩
  refine st1 _ ?_
  show Steps p.tables e below (T1.setTop { method := m, pc := pc + 3, locals := ls, stack := .ref T.heap.size :: rest, locked := none }) _
  jvm_step X₁.here [X₁.here.top, hexec, d3', Value.category]
  exact hsteps
/-- 'throw new E("text")': new; dup; ldc; invokespecial; athrow -/
theorem vx_throwS {cc : ByteArray} {pc : Nat} (hexec : p.tables.exec = Jvm.exec) (hb : c.code = cc) (hl : l.stackTraces = false) {own cls text : String} {names : List String} {ik is ic mc ms sa : Nat} {A : Nat → Prop}
    (hown : s.vm.findClass own = some m.cls) (hcls : Bundle.fit cls = true) (hnames : ∀ n ∈ names, Bundle.fit n = true)
    (hk : (Cond.classLink own ik cls).before args s = true) (hini : (Cond.initialized cls).before args s = true) (hstr : vk_R own is text sa s) (hat : ∀ w ∈ vx_atS own ic cls names, w.before args s = true)
    (hgood : ∀ w ∈ Cond.classLink own ik cls :: Cond.initialized cls :: vx_atS own ic cls names, vx_ot w = true)
    (hU : vx_Zq Bundle.tN "UNASSIGNED_STACK" Bundle.steD A s s.heap) (hN : vx_Zq Bundle.tN "SUPPRESSED_SENTINEL" Bundle.listD A s s.heap) (hS : va_S A s.heap H locs) (hsize : ls.size = c.maxLocals)
    (d0 : decode cc pc = .ok (.new ik, 3)) (d3 : decode cc (pc + 3) = .ok (.dup, 1)) (d4 : decode cc (pc + 4) = .ok (.ldc is, 2)) (d6 : decode cc (pc + 6) = .ok (.invokespecial ic, 3)) (d9 : decode cc (pc + 9) = .ok (.athrow, 1))
    (hout : ∀ x ∈ c.exceptionTable.toList, covers x (pc + 9) = false)
    (hRframes : names.length + 3 < R.frames) (hRlocals : (rest.map fun v => v.category).sum + (13 * (names.length + 1) + 43) ≤ R.locals) (hRcells : cells + 1 ≤ R.cells) (hRslots : slots + 6 ≤ R.slots) (hlocks : meth.locks = false)
    (hx : ∀ t : State, s.vm.Alike t.vm → H.size ≤ t.heap.size → (∀ q : Nat, q < H.size → t.heap[q]? = H[q]?) → XC cls s t)
    (hf : ∀ z ∈ locs, free z.base) (hc : cells + 1 ≤ mc) (hs : slots + 6 ≤ ms) :
    W p l e R s m args below meth c H locs cells slots (vx_MQ below Qc XC args s mc ms free) (F0 m pc ls rest) := by
  intro T hT X
  have htr : e.platform.stackTraces = false := (show e.platform.stackTraces = l.stackTraces by rw [X.admits.platform]).trans hl
  have Y := vx_rebase X (R' := { frames := R.frames, locals := R.locals, cells := 1, slots := 6 }) (Nat.le_refl _) (Nat.le_refl _) hRcells hRslots
  obtain ⟨s', hA⟩ : ∃ z, z = (T.setVm s.vm).setFrames (.invoking m args :: below) := ⟨_, rfl⟩
  rw [← hA] at Y
  have hvm : s'.vm = s.vm := by rw [hA]; rfl
  have hhp : s'.heap = H := by rw [hA]; exact hT
  have hW0 : s.WarmedH s'.vm := by rw [hvm]; exact State.WarmedH.refl s
  have hat' : ∀ w ∈ vx_atS own ic cls names, w.before args s' = true := fun w hw => vx_ot_at hW0 hvm.symm (hgood w (List.mem_cons_of_mem _ (List.mem_cons_of_mem _ hw))) (hat w hw)
  have hk' : (Cond.classLink own ik cls).before args s' = true := vx_ot_at hW0 hvm.symm (hgood _ List.mem_cons_self) hk
  have hini' : (Cond.initialized cls).before args s' = true := vx_ot_at hW0 hvm.symm (hgood _ (List.mem_cons_of_mem _ List.mem_cons_self)) hini
  have hU' : vx_Zq Bundle.tN "UNASSIGNED_STACK" Bundle.steD A s' s'.heap := by rw [hhp]; exact vx_Zq.moved hW0.alike (hU.kept hS.2.1)
  have hN' : vx_Zq Bundle.tN "SUPPRESSED_SENTINEL" Bundle.listD A s' s'.heap := by rw [hhp]; exact vx_Zq.moved hW0.alike (hN.kept hS.2.1)
  have h : ∀ w ∈ Bundle.ownAtoms own ic cls names, w.before args s' = true := vx_own hat' (vx_isRefq hU'.1) (vx_isRefq hN'.1) hU'.2.word hN'.2.word
  have hown' : s'.vm.findClass own = some m.cls := by rw [hvm]; exact hown
  have hins : (Cond.instantiable cls 6).before args s' = true := h _ (by simp [Bundle.ownAtoms])
  obtain ⟨vm₁, cX, kX, hfX, hkX, -, -, X₁, st1⟩ := Y.newCold hexec (own := own) (C := cls) (index := ik) (n := 6) hown' hk' hins hini'
    (g := F0 m pc ls rest) rfl (by rw [hb]; exact d0) (Nat.le_refl _) (Nat.le_refl _)
  generalize hT1 : (T.setVm vm₁).pushCell { cls := cX, slots := kX.instanceTypes.map defaultValue, vm := .none } = T1 at X₁ st1
  have hcat : (Value.ref T.heap.size).category = 1 := rfl
  have hcellA : T1.heap[T.heap.size]? = some (freshCell cX kX) := by rw [← hT1]; exact State.heap_pushCell_size _ _
  have d3' : decode c.code (pc + 3) = .ok (.dup, 1) := by rw [hb]; exact d3
  have d4' : decode c.code (pc + 4) = .ok (.ldc is, 2) := by rw [hb]; exact d4
  have hstr' : vk_R own is text sa s' := vk_R.warm hW0 hstr
  obtain ⟨U, hsteps, hrun, hend, hW, hsame, ce, hce, hO⟩ := X₁.ctorThrowS hexec htr (own := own) (cls := cls) (names := names) (ic := ic) hown' hcls hnames h (fun x hx => nomatch hx) hfX hkX hcellA (by rw [hhp, hT]; exact Nat.le_refl _) (msg := .ref sa) rfl
    (g := { method := m, pc := pc + 6, locals := ls, stack := .ref sa :: .ref T.heap.size :: .ref T.heap.size :: rest, locked := none }) rfl hsize rfl rfl (rest := rest) rfl
    (by rw [hb]; exact d6) (by rw [hb]; exact d9) hout hRframes (by simp only [List.map_cons, List.sum_cons, hcat]; omega) hlocks
  obtain ⟨f1, f2⟩ := vx_frame hsame
  rw [hhp] at f1 f2
  have hWs : s.WarmedH U.vm := State.WarmedH.trans hW0 hW
  have hcl : s.vm.findClass cls = some ce.cls := by
    have h9 := hO.cls
    rw [hvm] at h9
    exact h9
  have hall : s.sameButNew ({ U with vm := s.vm } : State) locs mc ms := by
    subst hA
    obtain ⟨e1, e2⟩ := hsame
    rw [State.setFrames_setFrames] at e1
    have h2 : (T.setVm s.vm).sameButNew ({ U with vm := s.vm } : State) [] (0 + 1) (0 + 6) := ⟨e1, e2⟩
    have h3 := X.same.trans h2
    rw [List.append_nil] at h3
    exact h3.mono hc hs
  refine ⟨U, ?_, .threw T.heap.size, hrun, hend, Or.inr ⟨T.heap.size, rfl, cls, ce, locs, hx U hWs.alike f1 (fun q hq => f2 q hq (fun z hz => nomatch hz)), hce, hO.vm, hcl, hWs, hall, hf⟩⟩
  refine st1 _ ?_
  show Steps p.tables e below (T1.setTop { method := m, pc := pc + 3, locals := ls, stack := .ref T.heap.size :: rest, locked := none }) _
  jvm_step X₁.here [X₁.here.top, hexec, d3', Value.category]
  exact X₁.ldcString hexec (own := own) (text := text) (index := is) (a := sa) hown' hstr'.1 hstr'.2
    (g := { method := m, pc := pc + 4, locals := ls, stack := .ref T.heap.size :: .ref T.heap.size :: rest, locked := none }) rfl d4' _ hsteps
/-- 'throw new E("text")', the text by a wide index -/
theorem vx_throwSW {cc : ByteArray} {pc : Nat} (hexec : p.tables.exec = Jvm.exec) (hb : c.code = cc) (hl : l.stackTraces = false) {own cls text : String} {names : List String} {ik is ic mc ms sa : Nat} {A : Nat → Prop}
    (hown : s.vm.findClass own = some m.cls) (hcls : Bundle.fit cls = true) (hnames : ∀ n ∈ names, Bundle.fit n = true)
    (hk : (Cond.classLink own ik cls).before args s = true) (hini : (Cond.initialized cls).before args s = true) (hstr : vk_R own is text sa s) (hat : ∀ w ∈ vx_atS own ic cls names, w.before args s = true)
    (hgood : ∀ w ∈ Cond.classLink own ik cls :: Cond.initialized cls :: vx_atS own ic cls names, vx_ot w = true)
    (hU : vx_Zq Bundle.tN "UNASSIGNED_STACK" Bundle.steD A s s.heap) (hN : vx_Zq Bundle.tN "SUPPRESSED_SENTINEL" Bundle.listD A s s.heap) (hS : va_S A s.heap H locs) (hsize : ls.size = c.maxLocals)
    (d0 : decode cc pc = .ok (.new ik, 3)) (d3 : decode cc (pc + 3) = .ok (.dup, 1)) (d4 : decode cc (pc + 4) = .ok (.ldc_w is, 3)) (d7 : decode cc (pc + 7) = .ok (.invokespecial ic, 3)) (d10 : decode cc (pc + 10) = .ok (.athrow, 1))
    (hout : ∀ x ∈ c.exceptionTable.toList, covers x (pc + 10) = false)
    (hRframes : names.length + 3 < R.frames) (hRlocals : (rest.map fun v => v.category).sum + (13 * (names.length + 1) + 43) ≤ R.locals) (hRcells : cells + 1 ≤ R.cells) (hRslots : slots + 6 ≤ R.slots) (hlocks : meth.locks = false)
    (hx : ∀ t : State, s.vm.Alike t.vm → H.size ≤ t.heap.size → (∀ q : Nat, q < H.size → t.heap[q]? = H[q]?) → XC cls s t)
    (hf : ∀ z ∈ locs, free z.base) (hc : cells + 1 ≤ mc) (hs : slots + 6 ≤ ms) :
    W p l e R s m args below meth c H locs cells slots (vx_MQ below Qc XC args s mc ms free) (F0 m pc ls rest) := by
  intro T hT X
  have htr : e.platform.stackTraces = false := (show e.platform.stackTraces = l.stackTraces by rw [X.admits.platform]).trans hl
  have Y := vx_rebase X (R' := { frames := R.frames, locals := R.locals, cells := 1, slots := 6 }) (Nat.le_refl _) (Nat.le_refl _) hRcells hRslots
  obtain ⟨s', hA⟩ : ∃ z, z = (T.setVm s.vm).setFrames (.invoking m args :: below) := ⟨_, rfl⟩
  rw [← hA] at Y
  have hvm : s'.vm = s.vm := by rw [hA]; rfl
  have hhp : s'.heap = H := by rw [hA]; exact hT
  have hW0 : s.WarmedH s'.vm := by rw [hvm]; exact State.WarmedH.refl s
  have hat' : ∀ w ∈ vx_atS own ic cls names, w.before args s' = true := fun w hw => vx_ot_at hW0 hvm.symm (hgood w (List.mem_cons_of_mem _ (List.mem_cons_of_mem _ hw))) (hat w hw)
  have hk' : (Cond.classLink own ik cls).before args s' = true := vx_ot_at hW0 hvm.symm (hgood _ List.mem_cons_self) hk
  have hini' : (Cond.initialized cls).before args s' = true := vx_ot_at hW0 hvm.symm (hgood _ (List.mem_cons_of_mem _ List.mem_cons_self)) hini
  have hU' : vx_Zq Bundle.tN "UNASSIGNED_STACK" Bundle.steD A s' s'.heap := by rw [hhp]; exact vx_Zq.moved hW0.alike (hU.kept hS.2.1)
  have hN' : vx_Zq Bundle.tN "SUPPRESSED_SENTINEL" Bundle.listD A s' s'.heap := by rw [hhp]; exact vx_Zq.moved hW0.alike (hN.kept hS.2.1)
  have h : ∀ w ∈ Bundle.ownAtoms own ic cls names, w.before args s' = true := vx_own hat' (vx_isRefq hU'.1) (vx_isRefq hN'.1) hU'.2.word hN'.2.word
  have hown' : s'.vm.findClass own = some m.cls := by rw [hvm]; exact hown
  have hins : (Cond.instantiable cls 6).before args s' = true := h _ (by simp [Bundle.ownAtoms])
  obtain ⟨vm₁, cX, kX, hfX, hkX, -, -, X₁, st1⟩ := Y.newCold hexec (own := own) (C := cls) (index := ik) (n := 6) hown' hk' hins hini'
    (g := F0 m pc ls rest) rfl (by rw [hb]; exact d0) (Nat.le_refl _) (Nat.le_refl _)
  generalize hT1 : (T.setVm vm₁).pushCell { cls := cX, slots := kX.instanceTypes.map defaultValue, vm := .none } = T1 at X₁ st1
  have hcat : (Value.ref T.heap.size).category = 1 := rfl
  have hcellA : T1.heap[T.heap.size]? = some (freshCell cX kX) := by rw [← hT1]; exact State.heap_pushCell_size _ _
  have d3' : decode c.code (pc + 3) = .ok (.dup, 1) := by rw [hb]; exact d3
  have d4' : decode c.code (pc + 4) = .ok (.ldc_w is, 3) := by rw [hb]; exact d4
  have hstr' : vk_R own is text sa s' := vk_R.warm hW0 hstr
  obtain ⟨U, hsteps, hrun, hend, hW, hsame, ce, hce, hO⟩ := X₁.ctorThrowS hexec htr (own := own) (cls := cls) (names := names) (ic := ic) hown' hcls hnames h (fun x hx => nomatch hx) hfX hkX hcellA (by rw [hhp, hT]; exact Nat.le_refl _) (msg := .ref sa) rfl
    (g := { method := m, pc := pc + 7, locals := ls, stack := .ref sa :: .ref T.heap.size :: .ref T.heap.size :: rest, locked := none }) rfl hsize rfl rfl (rest := rest) rfl
    (by rw [hb]; exact d7) (by rw [hb]; exact d10) hout hRframes (by simp only [List.map_cons, List.sum_cons, hcat]; omega) hlocks
  obtain ⟨f1, f2⟩ := vx_frame hsame
  rw [hhp] at f1 f2
  have hWs : s.WarmedH U.vm := State.WarmedH.trans hW0 hW
  have hcl : s.vm.findClass cls = some ce.cls := by
    have h9 := hO.cls
    rw [hvm] at h9
    exact h9
  have hall : s.sameButNew ({ U with vm := s.vm } : State) locs mc ms := by
    subst hA
    obtain ⟨e1, e2⟩ := hsame
    rw [State.setFrames_setFrames] at e1
    have h2 : (T.setVm s.vm).sameButNew ({ U with vm := s.vm } : State) [] (0 + 1) (0 + 6) := ⟨e1, e2⟩
    have h3 := X.same.trans h2
    rw [List.append_nil] at h3
    exact h3.mono hc hs
  refine ⟨U, ?_, .threw T.heap.size, hrun, hend, Or.inr ⟨T.heap.size, rfl, cls, ce, locs, hx U hWs.alike f1 (fun q hq => f2 q hq (fun z hz => nomatch hz)), hce, hO.vm, hcl, hWs, hall, hf⟩⟩
  refine st1 _ ?_
  show Steps p.tables e below (T1.setTop { method := m, pc := pc + 3, locals := ls, stack := .ref T.heap.size :: rest, locked := none }) _
  jvm_step X₁.here [X₁.here.top, hexec, d3', Value.category]
  exact X₁.ldcStringW hexec (own := own) (text := text) (index := is) (a := sa) hown' hstr'.1 hstr'.2
    (g := { method := m, pc := pc + 4, locals := ls, stack := .ref T.heap.size :: .ref T.heap.size :: rest, locked := none }) rfl d4' _ hsteps
end Ends
section Bodies
variable {l : Launch}
theorem vx_ofW {y : MethodName} {ws ws' : List Cond} {rm : Room} {Pc : Array Value → State → Prop} {Qc : Array Value → State → Outcome → State → Prop} {XC : String → State → State → Prop} {mc ms : Nat} {free : Addr → Prop} {cc : ByteArray} {maxL : Nat} {ret : Option FieldType}
    (hy : plainName y.cls = true) (hw : ws = Cond.code y cc maxL ret :: ws')
    (body : ∀ p e s m args below meth c s₁, BodyLoose p l y (headSpec ws rm) cc maxL ret e s m args below meth c s₁ → c.maxLocals = maxL → (∀ x ∈ c.exceptionTable.toList, False) → Pc args s →
      W p l e (headSpec ws rm).room s m args below meth c s.heap [] 0 0 (vx_MQ below Qc XC args s mc ms free) (entryFrame m args maxL)) : vx_Met l y ws rm Pc Qc XC mc ms free := by
  refine MetFree.of_bodyS (code := cc) (maxLocals := maxL) (ret := ret) hy ?_ ?_
  · intro args s m h hn
    obtain ⟨meth, c, h1, h2, h3, h4, h5, h6, -, -⟩ := Cond.code_spec hn (atoms_spec (ws := ws) h _ (by rw [hw]; exact List.mem_cons_self))
    exact ⟨meth, c, h1, h2, h3, h4, h5, h6⟩
  · intro p e s m args below meth c s₁ B hml hP _
    have hh0 : s₁.heap = s.heap := by rw [B.state]; rfl
    have ht : ∀ x ∈ c.exceptionTable.toList, False := by
      obtain ⟨meth9, c9, h1, h2, -, -, -, -, h7, -⟩ := Cond.code_spec B.named (atoms_spec (ws := ws) B.pre _ (by rw [hw]; exact List.mem_cons_self))
      cases Option.some.inj (h1.symm.trans B.method)
      cases Option.some.inj (h2.symm.trans (Stand.of_body B).code)
      intro x hx
      rw [Array.isEmpty_iff.mp h7] at hx
      cases hx
    obtain ⟨t, a1, o, b1, b2, b3⟩ := body p e s m args below meth c s₁ B hml ht hP s₁ hh0 (Stand.of_body B)
    exact ⟨t, o, a1, b1, b2, b3⟩
/-- the table of a body with handlers -/
theorem vx_table {p : Program} {x y : MethodName} {S : Spec} {cc bytes : ByteArray} {maxL maxL' : Nat} {ret ret' : Option FieldType} {e : Env} {s s₁ : State} {m : MethodId} {args : Array Value} {below : List Frame} {meth : Method} {c : Code} {hh : List (Nat × Nat × Nat × Nat)}
    (B : BodyLoose p l y S cc maxL ret e s m args below meth c s₁) (h : (Cond.codeWith y bytes maxL' ret' hh).before args s = true) : c.exceptionTable.toList = tableOf hh := by
  obtain ⟨m9, meth9, c9, hn9, h1, h2, -, -, h6, -⟩ := Cond.codeWith_spec h
  cases Option.some.inj (hn9.symm.trans B.named)
  cases Option.some.inj (h1.symm.trans B.method)
  cases Option.some.inj (h2.symm.trans (Stand.of_body B).code)
  rw [← h6, table_eq]
end Bodies
end VXA
/-! ===== END ===== -/
/-! ===== BEGIN a static call of a method with an exception table ===== -/
section VXS
variable {p : Program} {l : Launch} {e : Env} {R : Room} {s : State} {m : MethodId} {args : Array Value} {below : List Frame} {meth : Method} {c : Code} {T : State} {H : Heap} {locs : List Loc} {cells slots : Nat}
abbrev vx_CSW (R : Room) (s : State) (args : Array Value) (own : String) (index : Nat) (y : MethodName) (bytes : ByteArray) (maxL : Nat) (ret : Option FieldType) (hh : List (Nat × Nat × Nat × Nat)) (ws : List Cond) (rm : Room) (mc ms n : Nat) : Prop :=
  (rm.cells = mc ∧ rm.slots = ms ∧ rm.frames + 1 ≤ R.frames ∧ 8 + (maxL + 11) + rm.locals ≤ R.locals ∧ (∀ w ∈ ws, ∀ (a' : Array Value) (U : State), s.WarmedH U.vm → w.before a' U = true) ∧ Cond.codeWith y bytes maxL ret hh ∈ ws) ∧
  (Cond.codeWith y bytes maxL ret hh).before args s = true ∧ (Cond.initialized y.cls).before args s = true ∧ (y.cls ≠ "java/lang/invoke/MethodHandle" ∧ y.cls ≠ "java/lang/invoke/VarHandle") ∧
  (∀ sig, parseMethodDescriptor y.desc = some sig → n = sig.parameters.length) ∧ (Cond.methodLink own index y).before args s = true ∧ (Cond.static y).before args s = true
theorem vx_cwSW {own : String} {index maxL mc ms : Nat} {y : MethodName} {bytes : ByteArray} {ret : Option FieldType} {hh : List (Nat × Nat × Nat × Nat)} {Ts ws ws' : List Cond} {rm : Room} (n : Nat) (ht : ∀ w ∈ Ts, w.before args s = true) (hT : GoodIn Ts (va_wsS own index y ws)) (hw : ws = Cond.codeWith y bytes maxL ret hh :: ws') (hrc : rm.cells = mc) (hrs : rm.slots = ms)
    (hd : y.cls ≠ "java/lang/invoke/MethodHandle" ∧ y.cls ≠ "java/lang/invoke/VarHandle" ∧ (parseMethodDescriptor y.desc).map (fun d => d.parameters.length) = some n) (hR : rm.frames + 1 ≤ R.frames ∧ 8 + (maxL + 11) + rm.locals ≤ R.locals) :
    vx_CSW R s args own index y bytes maxL ret hh ws rm mc ms n := by
  have ok : ∀ w ∈ va_wsS own index y ws, w.before args s = true := fun w h => ht w (hT w h).1
  have hG : GoodIn Ts ws := fun w h => hT w (by unfold va_wsS; exact List.mem_append_right _ h)
  have hc : Cond.codeWith y bytes maxL ret hh ∈ ws := by rw [hw]; exact List.mem_cons_self
  refine ⟨⟨hrc, hrs, hR.1, hR.2, pay_in ht hG, hc⟩, ht _ (hG _ hc).1, ok _ (by simp [va_wsS]), ⟨hd.1, hd.2.1⟩, fun sig h => ?_, ok _ (by simp [va_wsS]), ok _ (by simp [va_wsS])⟩
  have h2 := hd.2.2
  rw [h] at h2
  exact (Option.some.inj h2).symm
theorem vx_callSW (X : Stand p l e R s m args below meth c T locs cells slots) (hexec : p.tables.exec = Jvm.exec) {own : String} {index : Nat} {y : MethodName} {bytes : ByteArray} {maxL : Nat} {ret : Option FieldType} {hh : List (Nat × Nat × Nat × Nat)}
    (hown : s.vm.findClass own = some m.cls) (hlink : (Cond.methodLink own index y).before args s = true) (hstat : (Cond.static y).before args s = true) (hinit : (Cond.initialized y.cls).before args s = true)
    (hcode : (Cond.codeWith y bytes maxL ret hh).before args s = true) (hy : y.cls ≠ "java/lang/invoke/MethodHandle" ∧ y.cls ≠ "java/lang/invoke/VarHandle")
    {W9 : Nat} {Pre : Pt → Array Value → Prop} {Post : Pt → Array Value → Option Value → Pt → Prop} (hK : Back l R p e below s args y 3 W9 Pre Post)
    {g : JFrame} (hg : g.method = m) (hsize : g.locals.size = c.maxLocals) {argsL rest : List Value} (hlen : ∀ sig, parseMethodDescriptor y.desc = some sig → argsL.length = sig.parameters.length)
    (hstack : g.stack = argsL.reverse ++ rest) (hW : 2 * g.monitorRoom + (rest.map fun v => v.category).sum ≤ W9) (hdg : decode c.code g.pc = .ok (.invokestatic index, 3))
    (hpre : ∀ vm₁, s.WarmedH vm₁ → Pre ⟨T.setVm vm₁, locs, cells, slots⟩ argsL.toArray) :
    ∃ (v : Option Value) (vm₁ : Vm) (B : Pt), s.WarmedH vm₁ ∧ Stand p l e R s m args below meth c B.U B.locs B.cells B.slots ∧ Post ⟨T.setVm vm₁, locs, cells, slots⟩ argsL.toArray v B ∧
      ∀ target, Steps p.tables e below (B.U.setTop { g with pc := g.pc + 3, stack := v.toList ++ rest }) target → Steps p.tables e below (T.setTop g) target := by
  obtain ⟨mk, methM, cM, hnamed, hmethM, -, -, -, -, -, -, hsigM⟩ := Cond.codeWith_spec hcode
  have hstatic : methM.isStatic = true := Cond.static_spec hnamed hmethM hstat
  obtain ⟨kP, hkP, -⟩ := className_of_methodNamed hnamed
  have hinitP : kP.init = .initialized := Cond.initialized_spec (findClass_of_methodNamed hnamed) hkP hinit
  obtain ⟨vm₁, X₁, hstep₁⟩ := X.invokestatic hexec hown hlink hnamed hmethM hstatic hkP hinitP hy (g := g) hg (argsL := argsL) (rest := rest) (hlen _ hsigM) hstack hdg
  obtain ⟨v, B, X', hpost, hsteps⟩ := hK m meth c ⟨T.setVm vm₁, locs, cells, slots⟩ { g with stack := rest } (.invokestatic index) mk argsL.toArray X₁ hg hsize hdg hW (X₁.named hnamed) (hpre vm₁ X₁.warmed)
  exact ⟨v, vm₁, B, X₁.warmed, X', hpost, fun target h => hstep₁ _ fun acts => by rw [doInvoke_state]; exact hsteps.trans h⟩
theorem vx_runSW {y : MethodName} {bytes cc : ByteArray} {maxL nL mc ms n index : Nat} {ret : Option FieldType} {hh : List (Nat × Nat × Nat × Nat)} {ws : List Cond} {rm : Room} {Pc : Array Value → State → Prop} {Qc : Array Value → State → Outcome → State → Prop} {free : Addr → Prop} {Ts : List Cond} {own : String} {As rest : List Value} {g : JFrame}
    (S : CallFix p m c cc nL s args Ts own) (hM : Met l y ws rm Pc Qc mc ms free) (cw : vx_CSW R s args own index y bytes maxL ret hh ws rm mc ms n) (hp : PreS s H Pc As)
    (hg : g.method = m) (hn : As.length = n) (hsize : g.locals.size = nL) (hstack : g.stack = As.reverse ++ rest) (hW : 2 * g.monitorRoom + (rest.map fun v => v.category).sum ≤ 8) (hdg : decode cc g.pc = .ok (.invokestatic index, 3)) (hf : cells + mc ≤ R.cells ∧ slots + ms ≤ R.slots) :
    va_Run p l e R s m args below meth c H locs cells slots mc ms g rest (Qc As.toArray) (free) := by
  obtain ⟨⟨hrc, hrs, hfr, hlo, hws, hcw⟩, hcode, hini, hy, hlen, hl, hstt⟩ := cw
  have hK : Back l R p e below s args y 3 8 (PreOf R mc ms Pc) (PostOf Qc mc ms free) := va_backW (hh := hh) (bytes := bytes) (maxL := maxL) (ret := ret) hM hp.1 hrc hrs hfr hlo hws hcw (fun a' U hW => word_at hW (Or.inl (by first | rfl | simp [Cond.onTables, Cond.keeps, Cond.steady])) hini)
  obtain ⟨hx, hb, hml, ho, -⟩ := S
  intro T hT X
  obtain ⟨v, vm₁, ⟨U', l2, c2, s2⟩, hW₁, X', ⟨g', mk, t, L, e1, e2, hq, h1, hL, h2, h3⟩, st⟩ := vx_callSW X hx (hh := hh) (bytes := bytes) (maxL := maxL) (ret := ret) ho hl hstt hini hcode hy hK hg (hsize.trans hml.symm) (argsL := As) (rest := rest) (fun sig h => hn.trans (hlen sig h)) hstack hW (by rw [hb]; exact hdg)
    (fun vm₁ hW₁ => ⟨hf.1, hf.2, hp.2 (T.setVm vm₁) hT hW₁⟩)
  dsimp only [Pt.U, Pt.locs, Pt.cells, Pt.slots] at X' e1 e2 h1 h2 h3 st
  subst h1; subst h2; subst h3
  exact ⟨v, (T.setVm vm₁).calling g' mk As.toArray, t, U', L, hT, X', hL, e1, e2, hq, st⟩
/-- not caught here, past rows that name other classes: it goes on to the caller -/
theorem vx_outP {p : Program} {l : Launch} {e : Env} {R : Room} {s : State} {m : MethodId} {args : Array Value} {below : List Frame} {meth : Method} {c : Code} {H : Heap} {locs : List Loc} {cells slots : Nat} {free : Addr → Prop} {ls : Array Slot} {rest : List Value} {Qc : Array Value → State → Outcome → State → Prop} {XC : String → State → State → Prop}
    {pc : Nat} {own E : String} {ce : Cell} {q : Addr} {mc ms : Nat} (hown : s.vm.findClass own = some m.cls) (hlocks : meth.locks = false)
    (hpass : ∀ z ∈ c.exceptionTable.toList, covers z pc = false ∨ (z.catchType ≠ 0 ∧ ∃ nm : String, (Cond.classLink own z.catchType nm).before args s = true ∧ va_Nc E nm s)) (hcell : H[q]? = some ce) (hv : ce.vm = .none) (hcl : s.vm.findClass E = some ce.cls)
    (hx : ∀ t : State, t.heap = H → s.vm.Alike t.vm → XC E s t) (hf : ∀ z ∈ locs, free z.base) (hc : cells ≤ mc) (hs : slots ≤ ms) :
    vx_W p l e R s m args below meth c H locs cells slots (vx_MQ below Qc XC args s mc ms free) (F0 m pc ls rest) q := by
  intro T hT X
  have hpl : e.platform.magicAccessors = ({} : Platform).magicAccessors := by rw [X.admits.platform]
  obtain ⟨vm', hW', X', st⟩ := X.outThrough hlocks q (g := F0 m pc ls rest) rfl rfl rfl (cell := ce) (by rw [hT]; exact hcell) (by rw [hv]; rfl)
    (by obtain ⟨k9, h9, -⟩ := Vm.findClass_spec hcl; exact ⟨k9, h9⟩) (fun z hz => by
      rcases hpass z hz with h | ⟨hz0, nm, hl1, hn1⟩
      · exact Or.inl h
      · obtain ⟨c6, hc6, hcl6⟩ := Cond.classLink_spec hown hl1 e.platform hpl
        obtain ⟨a8, b8, h1, h2, h3⟩ := hn1
        cases Option.some.inj (h1.symm.trans hcl)
        cases Option.some.inj (h2.symm.trans hc6)
        exact Or.inr ⟨hz0, _, hcl6, h3⟩)
  obtain ⟨g₀, hfr⟩ := X'.frames_eq
  have hcell9 : ((T.setVm vm').setFrames (.throwing q :: below)).heap[q]? = some ce := by
    show T.heap[q]? = some ce
    rw [hT]; exact hcell
  have hend : Ended ((T.setVm vm').setFrames (.throwing q :: below)) below (.threw q) := State.frames_setFrames _ (State.cur_lt_of_frames hfr)
  refine ⟨(T.setVm vm').setFrames (.throwing q :: below), ?_, .threw q, X'.here.running, hend, Or.inr ⟨q, rfl, E, ce, locs, hx _ hT (X'.ends _).1.alike, hcell9, hv, hcl, (X'.ends _).1, (X'.ends _).2.mono hc hs, hf⟩⟩
  rw [X.pushThrowing_eq]
  exact st
/-- a thing of a world lies in the heap -/
theorem vx_lt {D : va_G} {cl : List vw_C} {ws : va_W} {H1 : Heap} (h : va_P D cl ws H1) {k : Nat} {q : Nat × va_E} (hk : ws[k]? = some q) : q.1 < H1.size := (h k q hk).lt
end VXS
/-! ===== END ===== -/
/-! ===== BEGIN methods with a table of their own: called by a name, returning or throwing ===== -/
section VXH
/-! vx_backW, vx_callVX, vx_callSX, vx_callVW, vx_runVW, vx_runVX, vx_runSX, vx_ofWH follow the same proofs as their sisters above (Free/Laws.lean, Shelf42/LK1.lean); vx_outP calls Shelf42/NT130.lean (outThrough). -/
section
variable {l : Launch} {R : Room} {p : Program} {e : Env} {below : List Frame} {s : State} {sargs : Array Value} {y : MethodName} {len W9 : Nat}
theorem vx_backW {ws : List Cond} {rm : Room} {Pc : Array Value → State → Prop} {Qc : Array Value → State → Outcome → State → Prop} {XC : String → State → State → Prop} {mc ms : Nat} {free : Addr → Prop} {bytes : ByteArray} {maxL : Nat} {ret : Option FieldType} {hh : List (Nat × Nat × Nat × Nat)}
    (hM : vx_Met l y ws rm Pc Qc XC mc ms free) (hblind : FrameBlind Pc) (hrc : rm.cells = mc) (hrs : rm.slots = ms)
    (hframes : rm.frames + 1 ≤ R.frames) (hlocals : W9 + (maxL + 11) + rm.locals ≤ R.locals)
    (hws : ∀ w ∈ ws, ∀ a' U, s.WarmedH U.vm → w.before a' U = true) (hcode : Cond.codeWith y bytes maxL ret hh ∈ ws) (hinit : ∀ a' U, s.WarmedH U.vm → (Cond.initialized y.cls).before a' U = true) :
    vx_Back l R p e below s sargs y len W9 (PreOf R mc ms Pc) (PostOf Qc mc ms free) (vx_Post XC mc ms free) := by
  intro m meth c A g ig mk a X hg hsize hdg hW hn hp
  have h1 : (headSpec ws rm).pre.before a A.U = true := atoms_intro fun w hw => hws w hw _ _ X.warmed
  have h2 : (Cond.codeWith y bytes maxL ret hh).before a A.U = true := hws _ hcode _ _ X.warmed
  have h3 : (Cond.initialized y.cls).before a A.U = true := hinit _ _ X.warmed
  have h4 : A.cells + (headSpec ws rm).room.cells ≤ R.cells := by rw [show (headSpec ws rm).room.cells = mc from hrc]; exact hp.1
  have h5 : A.slots + (headSpec ws rm).room.slots ≤ R.slots := by rw [show (headSpec ws rm).room.slots = ms from hrs]; exact hp.2.1
  have hPc : Pc a (A.U.calling g mk a) := hblind _ _ _ _ hp.2.2
  obtain ⟨U, Ls, c0, s0⟩ := A
  dsimp only [Pt.U, Pt.locs, Pt.cells, Pt.slots] at h1 h2 h3 h4 h5 X hn hPc ⊢
  obtain ⟨m9, methY, cY, hn9, hmY, hcY, -, hlY, -⟩ := Cond.codeWith_spec h2
  cases Option.some.inj (hn9.symm.trans hn)
  obtain ⟨kY, hkY, -⟩ := className_of_methodNamed hn
  have hinitY : kY.init = .initialized := Cond.initialized_spec (findClass_of_methodNamed hn) hkY h3
  have h : At U g.method c below := by rw [hg]; exact X.here
  have hlocals9 : W9 + (maxL + 11) + (headSpec ws rm).room.locals ≤ R.locals := hlocals
  have happ : (headSpec ws rm).appliesLoose y e.platform (U.calling g mk a) = true :=
    Spec.appliesLoose_calling (g := g) h hdg hn hkY hinitY
      (X.room_calling (g := g) (R' := (headSpec ws rm).room) hsize hmY hcY hframes (by rw [hlY]; omega) h4 h5) h1
  obtain ⟨mid, hmid⟩ := h.above
  have hfr : (U.setTop g).frames = (.java g :: mid) ++ below := by rw [State.frames_setTop' g h.top, hmid]; rfl
  obtain ⟨o, s₂, hsteps, -, hend, hq⟩ := Steps.callFree hM p X.admits X.cas X.clock (acts := []) hfr happ hPc trivial
  have hq' : vx_Q Qc XC mc ms free a (U.calling g mk a) o s₂ := hq
  rw [State.frames_setTop' g h.top] at hend
  obtain ⟨g₀, hg0⟩ := Option.isSome_iff_exists.mp h.top
  obtain ⟨r, hr⟩ := State.topJava?_eq_some.mp hg0
  have hr' : (({ U with heap := s₂.heap, slotsUsed := s₂.slotsUsed } : State).setVm s₂.vm).frames = .java g₀ :: r := hr
  rcases hq' with ⟨hqc, L, hfe, hL⟩ | ⟨q, rfl, E, ce, L, hx, hce, hcv, hcl, hW₂, hsm, hL⟩
  · obtain ⟨⟨v, rfl⟩, hW₂, e2, q2, q3, q4, q5, q6⟩ := id hfe
    have e3 : s₂ = ({ (U.calling g mk a).setFrames s₂.frames with heap := s₂.heap, slotsUsed := s₂.slotsUsed } : State).setVm s₂.vm := by
      have : s₂ = ({ s₂ with vm := (U.calling g mk a).vm } : State).setVm s₂.vm := rfl
      rw [e2] at this
      exact this
    obtain ⟨c₂, i₂, len₂, hc₂, hd₂, hf₂⟩ := hend
    have hW' : U.WarmedH s₂.vm := hW₂
    have hcc : c₂ = c := by
      have h1 : s₂.code? g.method = U.code? g.method := by
        rw [State.code?_eq, State.code?_eq, hW'.alike.method?]
      exact Option.some.inj (hc₂.symm.trans (h1.trans h.code))
    subst hcc
    have hlen : len₂ = len := by rw [hdg] at hd₂; cases hd₂; rfl
    subst hlen
    have hs₂ : s₂ = (({ U with heap := s₂.heap, slotsUsed := s₂.slotsUsed } : State).setVm s₂.vm).setTop { g with pc := g.pc + len₂, stack := v.toList ++ g.stack } := by
      refine e3.trans ?_
      rw [hf₂, State.calling_eq h.top, State.setFrames_setFrames, State.setTop_of_frames _ hr', hr]
      rfl
    have hsame : U.sameButNew ({ U with heap := s₂.heap, slotsUsed := s₂.slotsUsed } : State) L mc ms := by
      refine ⟨?_, q2, q3, q4, q5, q6⟩
      obtain ⟨t, ht, -⟩ := State.frames_cons hr
      show ({ U with heap := s₂.heap, slotsUsed := s₂.slotsUsed } : State) = { U.setFrames U.frames with heap := s₂.heap, slotsUsed := s₂.slotsUsed }
      rw [State.setFrames_self ht]
    subst hg
    refine Or.inl ⟨v, ⟨(({ U with heap := s₂.heap, slotsUsed := s₂.slotsUsed } : State).setVm s₂.vm), Ls ++ L, c0 + mc, s0 + ms⟩,
      ⟨X.admits, X.cas, X.clock, X.frames, X.room, X.hears, X.method, X.code, (X.here.setHeapUsed s₂.heap s₂.slotsUsed).setVm hW'.alike, X.tail, State.WarmedH.trans X.warmed hW', X.limits, X.bytes, X.same.trans (hsame.setVm s.vm)⟩,
      ⟨g, mk, s₂, L, rfl, rfl, hqc, rfl, hL, rfl, rfl⟩, ?_⟩
    show Steps p.tables e below _ ((({ U with heap := s₂.heap, slotsUsed := s₂.slotsUsed } : State).setVm s₂.vm).setTop { g with pc := g.pc + len₂, stack := v.toList ++ g.stack })
    rw [← hs₂]
    exact hsteps
  · obtain ⟨e2, q2, q3, q4, q5, q6⟩ := id hsm
    have e3 : s₂ = ({ (U.calling g mk a).setFrames s₂.frames with heap := s₂.heap, slotsUsed := s₂.slotsUsed } : State).setVm s₂.vm := by
      have : s₂ = ({ s₂ with vm := (U.calling g mk a).vm } : State).setVm s₂.vm := rfl
      rw [e2] at this
      exact this
    have hf₂ : s₂.frames = .throwing q :: .java g :: U.frames.tail := hend
    have hW' : U.WarmedH s₂.vm := hW₂
    have hs₂ : s₂ = ((({ U with heap := s₂.heap, slotsUsed := s₂.slotsUsed } : State).setVm s₂.vm).setTop g).pushFrame (.throwing q) := by
      refine e3.trans ?_
      rw [hf₂, State.calling_eq h.top, State.setFrames_setFrames, State.pushFrame, State.frames_setTop _ hr', State.setTop_of_frames _ hr', State.setFrames_setFrames, hr]
      rfl
    have hsame : U.sameButNew ({ U with heap := s₂.heap, slotsUsed := s₂.slotsUsed } : State) L mc ms := by
      refine ⟨?_, q2, q3, q4, q5, q6⟩
      obtain ⟨t, ht, -⟩ := State.frames_cons hr
      show ({ U with heap := s₂.heap, slotsUsed := s₂.slotsUsed } : State) = { U.setFrames U.frames with heap := s₂.heap, slotsUsed := s₂.slotsUsed }
      rw [State.setFrames_self ht]
    subst hg
    refine Or.inr ⟨q, ⟨(({ U with heap := s₂.heap, slotsUsed := s₂.slotsUsed } : State).setVm s₂.vm), Ls ++ L, c0 + mc, s0 + ms⟩,
      ⟨X.admits, X.cas, X.clock, X.frames, X.room, X.hears, X.method, X.code, (X.here.setHeapUsed s₂.heap s₂.slotsUsed).setVm hW'.alike, X.tail, State.WarmedH.trans X.warmed hW', X.limits, X.bytes, X.same.trans (hsame.setVm s.vm)⟩,
      ⟨g, mk, s₂, L, E, ce, rfl, rfl, hx, hce, hcv, hcl, rfl, hL, rfl, rfl⟩, ?_⟩
    show Steps p.tables e below _ (((({ U with heap := s₂.heap, slotsUsed := s₂.slotsUsed } : State).setVm s₂.vm).setTop g).pushFrame (.throwing q))
    rw [← hs₂]
    exact hsteps
end
variable {p : Program} {l : Launch} {e : Env} {R : Room} {s : State} {m : MethodId} {args : Array Value} {below : List Frame} {meth : Method} {c : Code} {T : State} {H : Heap} {locs : List Loc} {cells slots : Nat}
theorem vx_callVX (X : Stand p l e R s m args below meth c T locs cells slots) (hexec : p.tables.exec = Jvm.exec) {own C : String} {index : Nat} {y : MethodName} {bytes : ByteArray} {maxL : Nat} {ret : Option FieldType} {hh : List (Nat × Nat × Nat × Nat)}
    (hown : s.vm.findClass own = some m.cls) (hlink : (Cond.methodLink own index y).before args s = true) (hinst : (Cond.instanceMethod y).before args s = true) (hsel : (Cond.selects C y y).before args s = true)
    (hcode : (Cond.codeWith y bytes maxL ret hh).before args s = true) (hy : y.cls ≠ "java/lang/invoke/MethodHandle" ∧ y.cls ≠ "java/lang/invoke/VarHandle")
    {W9 : Nat} {Pre : Pt → Array Value → Prop} {Post : Pt → Array Value → Option Value → Pt → Prop} {PostX : Pt → Array Value → Addr → Pt → Prop} (hK : vx_Back l R p e below s args y 3 W9 Pre Post PostX)
    {b : Addr} {cellB : Cell} (hcell : T.heap[b]? = some cellB) (hobj : cellB.vm.isStatics = false) (hcls : s.vm.findClass C = some cellB.cls)
    {g : JFrame} (hg : g.method = m) (hsize : g.locals.size = c.maxLocals) {argsL rest : List Value} (hlen : ∀ sig, parseMethodDescriptor y.desc = some sig → argsL.length = sig.parameters.length)
    (hstack : g.stack = argsL.reverse ++ .ref b :: rest) (hW : 2 * g.monitorRoom + (rest.map fun v => v.category).sum ≤ W9) (hdg : decode c.code g.pc = .ok (.invokevirtual index, 3))
    (hpre : ∀ vm₁, s.WarmedH vm₁ → Pre ⟨T.setVm vm₁, locs, cells, slots⟩ (Value.ref b :: argsL).toArray) :
    (∃ (v : Option Value) (vm₁ : Vm) (B : Pt), s.WarmedH vm₁ ∧ Stand p l e R s m args below meth c B.U B.locs B.cells B.slots ∧ Post ⟨T.setVm vm₁, locs, cells, slots⟩ (Value.ref b :: argsL).toArray v B ∧
      ∀ target, Steps p.tables e below (B.U.setTop { g with pc := g.pc + 3, stack := v.toList ++ rest }) target → Steps p.tables e below (T.setTop g) target) ∨
    (∃ (q : Addr) (vm₁ : Vm) (B : Pt), s.WarmedH vm₁ ∧ Stand p l e R s m args below meth c B.U B.locs B.cells B.slots ∧ PostX ⟨T.setVm vm₁, locs, cells, slots⟩ (Value.ref b :: argsL).toArray q B ∧
      Steps p.tables e below (T.setTop g) ((B.U.setTop { g with stack := rest }).pushFrame (.throwing q))) := by
  obtain ⟨mk, methM, hnamed, hmethM, hstM, habM⟩ := Cond.instanceMethod_spec hinst
  obtain ⟨m8, methM', cM, hn8, hmethM', -, -, -, -, -, -, hsigM⟩ := Cond.codeWith_spec hcode
  cases Option.some.inj (hn8.symm.trans hnamed)
  cases hmethM.symm.trans hmethM'
  obtain ⟨c2, r2, m2, q1, q2, q3, q4, kP, hkP, hkPi⟩ := Cond.selects_spec hsel
  cases hcls.symm.trans q1
  cases (State.methodFound?_of_named hnamed hy).symm.trans q2
  cases hnamed.symm.trans q3
  have hselP : selectMethod e.platform s.vm cellB.cls mk = .method mk := by rw [Launch.admits_selectMethod X.admits]; exact q4
  obtain ⟨vm₁, X₁, hstep₁⟩ := X.invokevirtual hexec hown hlink hnamed hmethM hstM hkP hkPi hy (a := b) (cell := cellB) hcell
    (fun z h => by rw [h] at hobj; cases hobj) hselP hmethM habM hkP hkPi (g := g) hg (argsL := argsL) (rest := rest) (hlen _ hsigM) hstack hdg
  rcases hK m meth c ⟨T.setVm vm₁, locs, cells, slots⟩ { g with stack := rest } (.invokevirtual index) mk (Value.ref b :: argsL).toArray X₁ hg hsize hdg hW (X₁.named hnamed) (hpre vm₁ X₁.warmed) with ⟨v, B, X', hpost, hsteps⟩ | ⟨q, B, X', hpost, hsteps⟩
  · exact Or.inl ⟨v, vm₁, B, X₁.warmed, X', hpost, fun target h => hstep₁ _ fun acts => by rw [doInvoke_state]; exact hsteps.trans h⟩
  · exact Or.inr ⟨q, vm₁, B, X₁.warmed, X', hpost, hstep₁ _ fun acts => by rw [doInvoke_state]; exact hsteps⟩
theorem vx_callSX (X : Stand p l e R s m args below meth c T locs cells slots) (hexec : p.tables.exec = Jvm.exec) {own : String} {index : Nat} {y : MethodName} {bytes : ByteArray} {maxL : Nat} {ret : Option FieldType} {hh : List (Nat × Nat × Nat × Nat)}
    (hown : s.vm.findClass own = some m.cls) (hlink : (Cond.methodLink own index y).before args s = true) (hstat : (Cond.static y).before args s = true) (hinit : (Cond.initialized y.cls).before args s = true)
    (hcode : (Cond.codeWith y bytes maxL ret hh).before args s = true) (hy : y.cls ≠ "java/lang/invoke/MethodHandle" ∧ y.cls ≠ "java/lang/invoke/VarHandle")
    {W9 : Nat} {Pre : Pt → Array Value → Prop} {Post : Pt → Array Value → Option Value → Pt → Prop} {PostX : Pt → Array Value → Addr → Pt → Prop} (hK : vx_Back l R p e below s args y 3 W9 Pre Post PostX)
    {g : JFrame} (hg : g.method = m) (hsize : g.locals.size = c.maxLocals) {argsL rest : List Value} (hlen : ∀ sig, parseMethodDescriptor y.desc = some sig → argsL.length = sig.parameters.length)
    (hstack : g.stack = argsL.reverse ++ rest) (hW : 2 * g.monitorRoom + (rest.map fun v => v.category).sum ≤ W9) (hdg : decode c.code g.pc = .ok (.invokestatic index, 3))
    (hpre : ∀ vm₁, s.WarmedH vm₁ → Pre ⟨T.setVm vm₁, locs, cells, slots⟩ argsL.toArray) :
    (∃ (v : Option Value) (vm₁ : Vm) (B : Pt), s.WarmedH vm₁ ∧ Stand p l e R s m args below meth c B.U B.locs B.cells B.slots ∧ Post ⟨T.setVm vm₁, locs, cells, slots⟩ argsL.toArray v B ∧
      ∀ target, Steps p.tables e below (B.U.setTop { g with pc := g.pc + 3, stack := v.toList ++ rest }) target → Steps p.tables e below (T.setTop g) target) ∨
    (∃ (q : Addr) (vm₁ : Vm) (B : Pt), s.WarmedH vm₁ ∧ Stand p l e R s m args below meth c B.U B.locs B.cells B.slots ∧ PostX ⟨T.setVm vm₁, locs, cells, slots⟩ argsL.toArray q B ∧
      Steps p.tables e below (T.setTop g) ((B.U.setTop { g with stack := rest }).pushFrame (.throwing q))) := by
  obtain ⟨mk, methM, cM, hnamed, hmethM, -, -, -, -, -, -, hsigM⟩ := Cond.codeWith_spec hcode
  have hstatic : methM.isStatic = true := Cond.static_spec hnamed hmethM hstat
  obtain ⟨kP, hkP, -⟩ := className_of_methodNamed hnamed
  have hinitP : kP.init = .initialized := Cond.initialized_spec (findClass_of_methodNamed hnamed) hkP hinit
  obtain ⟨vm₁, X₁, hstep₁⟩ := X.invokestatic hexec hown hlink hnamed hmethM hstatic hkP hinitP hy (g := g) hg (argsL := argsL) (rest := rest) (hlen _ hsigM) hstack hdg
  rcases hK m meth c ⟨T.setVm vm₁, locs, cells, slots⟩ { g with stack := rest } (.invokestatic index) mk argsL.toArray X₁ hg hsize hdg hW (X₁.named hnamed) (hpre vm₁ X₁.warmed) with ⟨v, B, X', hpost, hsteps⟩ | ⟨q, B, X', hpost, hsteps⟩
  · exact Or.inl ⟨v, vm₁, B, X₁.warmed, X', hpost, fun target h => hstep₁ _ fun acts => by rw [doInvoke_state]; exact hsteps.trans h⟩
  · exact Or.inr ⟨q, vm₁, B, X₁.warmed, X', hpost, hstep₁ _ fun acts => by rw [doInvoke_state]; exact hsteps⟩
theorem vx_callVW (X : Stand p l e R s m args below meth c T locs cells slots) (hexec : p.tables.exec = Jvm.exec) {own C : String} {index : Nat} {y : MethodName} {bytes : ByteArray} {maxL : Nat} {ret : Option FieldType} {hh : List (Nat × Nat × Nat × Nat)}
    (hown : s.vm.findClass own = some m.cls) (hlink : (Cond.methodLink own index y).before args s = true) (hinst : (Cond.instanceMethod y).before args s = true) (hsel : (Cond.selects C y y).before args s = true)
    (hcode : (Cond.codeWith y bytes maxL ret hh).before args s = true) (hy : y.cls ≠ "java/lang/invoke/MethodHandle" ∧ y.cls ≠ "java/lang/invoke/VarHandle")
    {W9 : Nat} {Pre : Pt → Array Value → Prop} {Post : Pt → Array Value → Option Value → Pt → Prop} (hK : Back l R p e below s args y 3 W9 Pre Post)
    {b : Addr} {cellB : Cell} (hcell : T.heap[b]? = some cellB) (hobj : cellB.vm.isStatics = false) (hcls : s.vm.findClass C = some cellB.cls)
    {g : JFrame} (hg : g.method = m) (hsize : g.locals.size = c.maxLocals) {argsL rest : List Value} (hlen : ∀ sig, parseMethodDescriptor y.desc = some sig → argsL.length = sig.parameters.length)
    (hstack : g.stack = argsL.reverse ++ .ref b :: rest) (hW : 2 * g.monitorRoom + (rest.map fun v => v.category).sum ≤ W9) (hdg : decode c.code g.pc = .ok (.invokevirtual index, 3))
    (hpre : ∀ vm₁, s.WarmedH vm₁ → Pre ⟨T.setVm vm₁, locs, cells, slots⟩ (Value.ref b :: argsL).toArray) :
    ∃ (v : Option Value) (vm₁ : Vm) (B : Pt), s.WarmedH vm₁ ∧ Stand p l e R s m args below meth c B.U B.locs B.cells B.slots ∧ Post ⟨T.setVm vm₁, locs, cells, slots⟩ (Value.ref b :: argsL).toArray v B ∧
      ∀ target, Steps p.tables e below (B.U.setTop { g with pc := g.pc + 3, stack := v.toList ++ rest }) target → Steps p.tables e below (T.setTop g) target := by
  obtain ⟨mk, methM, hnamed, hmethM, hstM, habM⟩ := Cond.instanceMethod_spec hinst
  obtain ⟨m8, methM', cM, hn8, hmethM', -, -, -, -, -, -, hsigM⟩ := Cond.codeWith_spec hcode
  cases Option.some.inj (hn8.symm.trans hnamed)
  cases hmethM.symm.trans hmethM'
  obtain ⟨c2, r2, m2, q1, q2, q3, q4, kP, hkP, hkPi⟩ := Cond.selects_spec hsel
  cases hcls.symm.trans q1
  cases (State.methodFound?_of_named hnamed hy).symm.trans q2
  cases hnamed.symm.trans q3
  have hselP : selectMethod e.platform s.vm cellB.cls mk = .method mk := by rw [Launch.admits_selectMethod X.admits]; exact q4
  obtain ⟨vm₁, X₁, hstep₁⟩ := X.invokevirtual hexec hown hlink hnamed hmethM hstM hkP hkPi hy (a := b) (cell := cellB) hcell
    (fun z h => by rw [h] at hobj; cases hobj) hselP hmethM habM hkP hkPi (g := g) hg (argsL := argsL) (rest := rest) (hlen _ hsigM) hstack hdg
  obtain ⟨v, B, X', hpost, hsteps⟩ := hK m meth c ⟨T.setVm vm₁, locs, cells, slots⟩ { g with stack := rest } (.invokevirtual index) mk (Value.ref b :: argsL).toArray X₁ hg hsize hdg hW (X₁.named hnamed) (hpre vm₁ X₁.warmed)
  exact ⟨v, vm₁, B, X₁.warmed, X', hpost, fun target h => hstep₁ _ fun acts => by rw [doInvoke_state]; exact hsteps.trans h⟩
abbrev vx_CVW (R : Room) (s : State) (args : Array Value) (own C : String) (index : Nat) (y : MethodName) (bytes : ByteArray) (maxL : Nat) (ret : Option FieldType) (hh : List (Nat × Nat × Nat × Nat)) (ws : List Cond) (rm : Room) (mc ms n : Nat) : Prop :=
  (rm.cells = mc ∧ rm.slots = ms ∧ rm.frames + 1 ≤ R.frames ∧ 8 + (maxL + 11) + rm.locals ≤ R.locals ∧ (∀ w ∈ ws, ∀ (a' : Array Value) (U : State), s.WarmedH U.vm → w.before a' U = true) ∧ Cond.codeWith y bytes maxL ret hh ∈ ws) ∧
  (Cond.codeWith y bytes maxL ret hh).before args s = true ∧ (Cond.initialized y.cls).before args s = true ∧ (y.cls ≠ "java/lang/invoke/MethodHandle" ∧ y.cls ≠ "java/lang/invoke/VarHandle") ∧
  (∀ sig, parseMethodDescriptor y.desc = some sig → n = sig.parameters.length) ∧ (Cond.methodLink own index y).before args s = true ∧ (Cond.instanceMethod y).before args s = true ∧ (Cond.selects C y y).before args s = true
theorem vx_cwVW {own C : String} {index maxL mc ms : Nat} {y : MethodName} {bytes : ByteArray} {ret : Option FieldType} {hh : List (Nat × Nat × Nat × Nat)} {Ts ws ws' : List Cond} {rm : Room} (n : Nat) (ht : ∀ w ∈ Ts, w.before args s = true) (hT : GoodIn Ts (wsV own index C y ws)) (hw : ws = Cond.codeWith y bytes maxL ret hh :: ws') (hrc : rm.cells = mc) (hrs : rm.slots = ms)
    (hd : y.cls = C ∧ y.cls ≠ "java/lang/invoke/MethodHandle" ∧ y.cls ≠ "java/lang/invoke/VarHandle" ∧ (parseMethodDescriptor y.desc).map (fun d => d.parameters.length) = some n) (hR : rm.frames + 1 ≤ R.frames ∧ 8 + (maxL + 11) + rm.locals ≤ R.locals) :
    vx_CVW R s args own C index y bytes maxL ret hh ws rm mc ms n := by
  obtain ⟨hC, hd⟩ := hd
  subst hC
  have ok : ∀ w ∈ wsV own index y.cls y ws, w.before args s = true := fun w h => ht w (hT w h).1
  have hG : GoodIn Ts ws := fun w h => hT w (by unfold wsV; exact List.mem_append_right _ h)
  have hc : Cond.codeWith y bytes maxL ret hh ∈ ws := by rw [hw]; exact List.mem_cons_self
  refine ⟨⟨hrc, hrs, hR.1, hR.2, pay_in ht hG, hc⟩, ht _ (hG _ hc).1, ok _ (by simp [wsV]), ⟨hd.1, hd.2.1⟩, fun sig h => ?_, ok _ (by simp [wsV]), ok _ (by simp [wsV]), ok _ (by simp [wsV])⟩
  have h2 := hd.2.2
  rw [h] at h2
  exact (Option.some.inj h2).symm
theorem vx_runVW {y : MethodName} {bytes cc : ByteArray} {maxL nL mc ms n index : Nat} {ret : Option FieldType} {hh : List (Nat × Nat × Nat × Nat)} {ws : List Cond} {rm : Room} {Pc : Array Value → State → Prop} {Qc : Array Value → State → Outcome → State → Prop} {free : Addr → Prop} {Ts : List Cond} {own C : String} {b : Addr} {As rest : List Value} {g : JFrame}
    (S : CallFix p m c cc nL s args Ts own) (hM : Met l y ws rm Pc Qc mc ms free) (cw : vx_CVW R s args own C index y bytes maxL ret hh ws rm mc ms n) (hp : PreV s H C b Pc As)
    (hg : g.method = m) (hn : As.length = n) (hsize : g.locals.size = nL) (hstack : g.stack = As.reverse ++ .ref b :: rest) (hW : 2 * g.monitorRoom + (rest.map fun v => v.category).sum ≤ 8) (hdg : decode cc g.pc = .ok (.invokevirtual index, 3)) (hf : cells + mc ≤ R.cells ∧ slots + ms ≤ R.slots) :
    va_Run p l e R s m args below meth c H locs cells slots mc ms g rest (Qc (Value.ref b :: As).toArray) free := by
  obtain ⟨⟨hrc, hrs, hfr, hlo, hws, hcw⟩, hcode, hini, hy, hlen, hl, hin, hse⟩ := cw
  have hK : Back l R p e below s args y 3 8 (PreOf R mc ms Pc) (PostOf Qc mc ms free) := va_backW (hh := hh) (bytes := bytes) (maxL := maxL) (ret := ret) hM hp.1 hrc hrs hfr hlo hws hcw (fun a' U hW => word_at hW (Or.inl (by first | rfl | simp [Cond.onTables, Cond.keeps, Cond.steady])) hini)
  obtain ⟨hx, hb, hml, ho, -⟩ := S
  obtain ⟨-, ⟨cellB, hcB, hoB, hclB⟩, hPc⟩ := hp
  intro T hT X
  obtain ⟨v, vm₁, ⟨U', l2, c2, s2⟩, hW₁, X', ⟨g', mk, t, L, e1, e2, hq, h1, hL, h2, h3⟩, st⟩ := vx_callVW X hx (C := C) (hh := hh) (bytes := bytes) (maxL := maxL) (ret := ret) ho hl hin hse hcode hy hK (by rw [hT]; exact hcB) hoB hclB hg (hsize.trans hml.symm) (argsL := As) (rest := rest) (fun sig h => hn.trans (hlen sig h)) hstack hW (by rw [hb]; exact hdg)
    (fun vm₁ hW₁ => ⟨hf.1, hf.2, hPc (T.setVm vm₁) hT hW₁⟩)
  dsimp only [Pt.U, Pt.locs, Pt.cells, Pt.slots] at X' e1 e2 h1 h2 h3 st
  subst h1; subst h2; subst h3
  exact ⟨v, (T.setVm vm₁).calling g' mk (Value.ref b :: As).toArray, t, U', L, hT, X', hL, e1, e2, hq, st⟩
section
variable {y : MethodName} {bytes cc : ByteArray} {maxL nL mc ms n index : Nat} {ret : Option FieldType} {ws : List Cond} {rm : Room} {Pc : Array Value → State → Prop} {Qc : Array Value → State → Outcome → State → Prop} {XC : String → State → State → Prop} {free : Addr → Prop} {Ts : List Cond} {own C : String} {b : Addr} {As rest : List Value} {g : JFrame}
theorem vx_runVX {hh : List (Nat × Nat × Nat × Nat)} (S : CallFix p m c cc nL s args Ts own) (hM : vx_Met l y ws rm Pc Qc XC mc ms free) (cw : vx_CVW R s args own C index y bytes maxL ret hh ws rm mc ms n) (hp : PreV s H C b Pc As)
    (hg : g.method = m) (hn : As.length = n) (hsize : g.locals.size = nL) (hstack : g.stack = As.reverse ++ .ref b :: rest) (hW : 2 * g.monitorRoom + (rest.map fun v => v.category).sum ≤ 8) (hdg : decode cc g.pc = .ok (.invokevirtual index, 3)) (hf : cells + mc ≤ R.cells ∧ slots + ms ≤ R.slots) :
    vx_Run p l e R s m args below meth c H locs cells slots mc ms g rest (Qc (Value.ref b :: As).toArray) XC free := by
  obtain ⟨⟨hrc, hrs, hfr, hlo, hws, hcw⟩, hcode, hini, hy, hlen, hl, hin, hse⟩ := cw
  have hK : vx_Back l R p e below s args y 3 8 (PreOf R mc ms Pc) (PostOf Qc mc ms free) (vx_Post XC mc ms free) := vx_backW (hh := hh) (bytes := bytes) (maxL := maxL) (ret := ret) hM hp.1 hrc hrs hfr hlo hws hcw (fun a' U hW => word_at hW (Or.inl (by first | rfl | simp [Cond.onTables, Cond.keeps, Cond.steady])) hini)
  obtain ⟨hx, hb, hml, ho, -⟩ := S
  obtain ⟨-, ⟨cellB, hcB, hoB, hclB⟩, hPc⟩ := hp
  intro T hT X
  rcases vx_callVX X hx (C := C) (hh := hh) (bytes := bytes) (maxL := maxL) (ret := ret) ho hl hin hse hcode hy hK (by rw [hT]; exact hcB) hoB hclB hg (hsize.trans hml.symm) (argsL := As) (rest := rest) (fun sig h => hn.trans (hlen sig h)) hstack hW (by rw [hb]; exact hdg)
    (fun vm₁ hW₁ => ⟨hf.1, hf.2, hPc (T.setVm vm₁) hT hW₁⟩) with ⟨v, vm₁, ⟨U', l2, c2, s2⟩, hW₁, X', ⟨g', mk, t, L, e1, e2, hq, h1, hL, h2, h3⟩, st⟩ | ⟨q, vm₁, ⟨U', l2, c2, s2⟩, hW₁, X', ⟨g', mk, t, L, E, ce, e1, e2, hq, hce, hcv, hcl, h1, hL, h2, h3⟩, st⟩
  · dsimp only [Pt.U, Pt.locs, Pt.cells, Pt.slots] at X' e1 e2 h1 h2 h3 st
    subst h1; subst h2; subst h3
    exact Or.inl ⟨v, (T.setVm vm₁).calling g' mk (Value.ref b :: As).toArray, t, U', L, hT, X', hL, e1, e2, hq, st⟩
  · dsimp only [Pt.U, Pt.locs, Pt.cells, Pt.slots] at X' e1 e2 h1 h2 h3 st hcl
    subst h1; subst h2; subst h3
    exact Or.inr ⟨q, (T.setVm vm₁).calling g' mk (Value.ref b :: As).toArray, t, U', L, E, ce, hT, X', hL, e1, e2, hq, hce, hcv, vx_cls hW₁ hcl, st⟩
theorem vx_runSX {hh : List (Nat × Nat × Nat × Nat)} (S : CallFix p m c cc nL s args Ts own) (hM : vx_Met l y ws rm Pc Qc XC mc ms free) (cw : vx_CSW R s args own index y bytes maxL ret hh ws rm mc ms n) (hp : PreS s H Pc As)
    (hg : g.method = m) (hn : As.length = n) (hsize : g.locals.size = nL) (hstack : g.stack = As.reverse ++ rest) (hW : 2 * g.monitorRoom + (rest.map fun v => v.category).sum ≤ 8) (hdg : decode cc g.pc = .ok (.invokestatic index, 3)) (hf : cells + mc ≤ R.cells ∧ slots + ms ≤ R.slots) :
    vx_Run p l e R s m args below meth c H locs cells slots mc ms g rest (Qc As.toArray) XC free := by
  obtain ⟨⟨hrc, hrs, hfr, hlo, hws, hcw⟩, hcode, hini, hy, hlen, hl, hstt⟩ := cw
  have hK : vx_Back l R p e below s args y 3 8 (PreOf R mc ms Pc) (PostOf Qc mc ms free) (vx_Post XC mc ms free) := vx_backW (hh := hh) (bytes := bytes) (maxL := maxL) (ret := ret) hM hp.1 hrc hrs hfr hlo hws hcw (fun a' U hW => word_at hW (Or.inl (by first | rfl | simp [Cond.onTables, Cond.keeps, Cond.steady])) hini)
  obtain ⟨hx, hb, hml, ho, -⟩ := S
  intro T hT X
  rcases vx_callSX X hx (hh := hh) (bytes := bytes) (maxL := maxL) (ret := ret) ho hl hstt hini hcode hy hK hg (hsize.trans hml.symm) (argsL := As) (rest := rest) (fun sig h => hn.trans (hlen sig h)) hstack hW (by rw [hb]; exact hdg)
    (fun vm₁ hW₁ => ⟨hf.1, hf.2, hp.2 (T.setVm vm₁) hT hW₁⟩) with ⟨v, vm₁, ⟨U', l2, c2, s2⟩, hW₁, X', ⟨g', mk, t, L, e1, e2, hq, h1, hL, h2, h3⟩, st⟩ | ⟨q, vm₁, ⟨U', l2, c2, s2⟩, hW₁, X', ⟨g', mk, t, L, E, ce, e1, e2, hq, hce, hcv, hcl, h1, hL, h2, h3⟩, st⟩
  · dsimp only [Pt.U, Pt.locs, Pt.cells, Pt.slots] at X' e1 e2 h1 h2 h3 st
    subst h1; subst h2; subst h3
    exact Or.inl ⟨v, (T.setVm vm₁).calling g' mk As.toArray, t, U', L, hT, X', hL, e1, e2, hq, st⟩
  · dsimp only [Pt.U, Pt.locs, Pt.cells, Pt.slots] at X' e1 e2 h1 h2 h3 st hcl
    subst h1; subst h2; subst h3
    exact Or.inr ⟨q, (T.setVm vm₁).calling g' mk As.toArray, t, U', L, E, ce, hT, X', hL, e1, e2, hq, hce, hcv, vx_cls hW₁ hcl, st⟩
end
end VXH
theorem vx_ofWH {l : Launch} {y : MethodName} {ws ws' : List Cond} {rm : Room} {Pc : Array Value → State → Prop} {Qc : Array Value → State → Outcome → State → Prop} {XC : String → State → State → Prop} {mc ms : Nat} {free : Addr → Prop} {cc : ByteArray} {maxL : Nat} {ret : Option FieldType} {hh : List (Nat × Nat × Nat × Nat)}
    (hy : plainName y.cls = true) (hw : ws = Cond.codeWith y cc maxL ret hh :: ws')
    (body : ∀ p e s m args below meth c s₁, BodyLoose p l y (headSpec ws rm) cc maxL ret e s m args below meth c s₁ → c.maxLocals = maxL → Pc args s →
      W p l e (headSpec ws rm).room s m args below meth c s.heap [] 0 0 (vx_MQ below Qc XC args s mc ms free) (entryFrame m args maxL)) : vx_Met l y ws rm Pc Qc XC mc ms free := by
  refine MetFree.of_bodyS (code := cc) (maxLocals := maxL) (ret := ret) hy ?_ ?_
  · intro args s m h hn
    obtain ⟨m9, meth, c, hn9, h1, h2, h3, h4, -, h5, h6, -⟩ := Cond.codeWith_spec (atoms_spec (ws := ws) h _ (by rw [hw]; exact List.mem_cons_self))
    cases hn.symm.trans hn9
    exact ⟨meth, c, h1, h2, h3, h4, h5, h6⟩
  · intro p e s m args below meth c s₁ B hml hP _
    have hh0 : s₁.heap = s.heap := by rw [B.state]; rfl
    obtain ⟨t, a1, o, b1, b2, b3⟩ := body p e s m args below meth c s₁ B hml hP s₁ hh0 (Stand.of_body B)
    exact ⟨t, o, a1, b1, b2, b3⟩
/-! ===== END ===== -/
end
section
/-! ===== BEGIN printed: names, fields, word lists, decode rows ===== -/
def RX0 : String := "SquopPiles$GameText"
def TX0 : u_T := fun k => match k with
  | 0 => ("SquopPiles$GameText", "codes", "[I", true)
  | _ => ("SquopPiles$GameText", "length", "I", false)
def tyX0 : Nat → FieldType := fun k => match k with
  | 0 => .array .int
  | _ => .int
abbrev wsX00 : List Cond := u_ws RX0 TX0 2
theorem nmX0 : ∀ a, a < 2 → ∀ b, b < 2 → a ≠ b → (TX0 a).2.1 ≠ (TX0 b).2.1 := by decide +kernel
theorem tyX0_ok : ∀ k, k < 2 → parseFieldDescriptor (TX0 k).2.2.1 = some (tyX0 k) := by decide +kernel
abbrev cX0_init : ByteArray := prog_2_method_1_code
def yX0_init : MethodName := ⟨RX0, "<init>", "()V"⟩
def RX1 : String := "SquopPiles$Mat"
def TX1 : u_T := fun k => match k with
  | 0 => ("SquopPiles$Mat", "cell", "[I", true)
  | 1 => ("SquopPiles$Mat", "below", "[I", true)
  | _ => ("SquopPiles$Mat", "above", "[I", true)
def tyX1 : Nat → FieldType := fun k => match k with
  | 0 => .array .int
  | 1 => .array .int
  | _ => .array .int
abbrev wsX10 : List Cond := u_ws RX1 TX1 3
theorem nmX1 : ∀ a, a < 3 → ∀ b, b < 3 → a ≠ b → (TX1 a).2.1 ≠ (TX1 b).2.1 := by decide +kernel
theorem tyX1_ok : ∀ k, k < 3 → parseFieldDescriptor (TX1 k).2.2.1 = some (tyX1 k) := by decide +kernel
abbrev cX1_init : ByteArray := prog_3_method_1_code
def yX1_init : MethodName := ⟨RX1, "<init>", "()V"⟩
abbrev cX1_copyFrom : ByteArray := prog_3_method_2_code
def yX1_copyFrom : MethodName := ⟨RX1, "copyFrom", "(LSquopPiles$Mat;)V"⟩
abbrev cX1_move : ByteArray := prog_3_method_3_code
def yX1_move : MethodName := ⟨RX1, "move", "(II)V"⟩
abbrev cX1_setCells : ByteArray := prog_3_method_4_code
def yX1_setCells : MethodName := ⟨RX1, "setCells", "(II)V"⟩
abbrev cX1_separate : ByteArray := prog_3_method_5_code
def yX1_separate : MethodName := ⟨RX1, "separate", "(I)V"⟩
abbrev cX1_isPotted : ByteArray := prog_3_method_6_code
def yX1_isPotted : MethodName := ⟨RX1, "isPotted", "(I)Z"⟩
abbrev cX1_isCovered : ByteArray := prog_3_method_7_code
def yX1_isCovered : MethodName := ⟨RX1, "isCovered", "(I)Z"⟩
abbrev cX1_placeOf : ByteArray := prog_3_method_8_code
def yX1_placeOf : MethodName := ⟨RX1, "placeOf", "(I)I"⟩
abbrev cX1_topAt : ByteArray := prog_3_method_9_code
def yX1_topAt : MethodName := ⟨RX1, "topAt", "(I)I"⟩
abbrev cX1_bottomAt : ByteArray := prog_3_method_10_code
def yX1_bottomAt : MethodName := ⟨RX1, "bottomAt", "(I)I"⟩
abbrev cX1_lowestOfUpper : ByteArray := prog_3_method_11_code
def yX1_lowestOfUpper : MethodName := ⟨RX1, "lowestOfUpper", "(II)I"⟩
abbrev cX1_heightAt : ByteArray := prog_3_method_12_code
def yX1_heightAt : MethodName := ⟨RX1, "heightAt", "(I)I"⟩
abbrev cX1_coloursAt : ByteArray := prog_3_method_13_code
def yX1_coloursAt : MethodName := ⟨RX1, "coloursAt", "(I)I"⟩
abbrev cX1_isBottom : ByteArray := prog_3_method_14_code
def yX1_isBottom : MethodName := ⟨RX1, "isBottom", "(I)Z"⟩
abbrev cX1_piles : ByteArray := prog_3_method_15_code
def yX1_piles : MethodName := ⟨RX1, "piles", "()I"⟩
abbrev cX1_highest : ByteArray := prog_3_method_16_code
def yX1_highest : MethodName := ⟨RX1, "highest", "()I"⟩
abbrev cX1_coveredByPiles : ByteArray := prog_3_method_17_code
def yX1_coveredByPiles : MethodName := ⟨RX1, "coveredByPiles", "()I"⟩
abbrev cX1_coveredByWinks : ByteArray := prog_3_method_18_code
def yX1_coveredByWinks : MethodName := ⟨RX1, "coveredByWinks", "()I"⟩
abbrev cX1_coveredOfTeam : ByteArray := prog_3_method_19_code
def yX1_coveredOfTeam : MethodName := ⟨RX1, "coveredOfTeam", "(I)I"⟩
abbrev cX1_coveredOf : ByteArray := prog_3_method_20_code
def yX1_coveredOf : MethodName := ⟨RX1, "coveredOf", "(I)I"⟩
abbrev cX1_potted : ByteArray := prog_3_method_21_code
def yX1_potted : MethodName := ⟨RX1, "potted", "()I"⟩
abbrev cX1_pottedOf : ByteArray := prog_3_method_22_code
def yX1_pottedOf : MethodName := ⟨RX1, "pottedOf", "(I)I"⟩
abbrev cX1_isAllPotted : ByteArray := prog_3_method_23_code
def yX1_isAllPotted : MethodName := ⟨RX1, "isAllPotted", "(I)Z"⟩
abbrev cX1_isOver : ByteArray := prog_3_method_24_code
def yX1_isOver : MethodName := ⟨RX1, "isOver", "()Z"⟩
abbrev cX1_pointsOf : ByteArray := prog_3_method_25_code
def yX1_pointsOf : MethodName := ⟨RX1, "pointsOf", "(I)I"⟩
abbrev cX1_pointsOfTeam : ByteArray := prog_3_method_26_code
def yX1_pointsOfTeam : MethodName := ⟨RX1, "pointsOfTeam", "(I)I"⟩
abbrev cX1_leadOf : ByteArray := prog_3_method_27_code
def yX1_leadOf : MethodName := ⟨RX1, "leadOf", "(I)I"⟩
abbrev cX1_othersBelow : ByteArray := prog_3_method_28_code
def yX1_othersBelow : MethodName := ⟨RX1, "othersBelow", "(I)I"⟩
abbrev cX1_liesBelow : ByteArray := prog_3_method_29_code
def yX1_liesBelow : MethodName := ⟨RX1, "liesBelow", "(II)Z"⟩
def RX2 : String := "SquopPiles$Past"
def TX2 : u_T := fun k => match k with
  | 0 => ("SquopPiles$Past", "saved", "[LSquopPiles$State;", true)
  | 1 => ("SquopPiles$Past", "next", "I", false)
  | _ => ("SquopPiles$Past", "many", "I", false)
def tyX2 : Nat → FieldType := fun k => match k with
  | 0 => .array (.object "SquopPiles$State")
  | 1 => .int
  | _ => .int
abbrev wsX20 : List Cond := u_ws RX2 TX2 3
theorem nmX2 : ∀ a, a < 3 → ∀ b, b < 3 → a ≠ b → (TX2 a).2.1 ≠ (TX2 b).2.1 := by decide +kernel
theorem tyX2_ok : ∀ k, k < 3 → parseFieldDescriptor (TX2 k).2.2.1 = some (tyX2 k) := by decide +kernel
abbrev cX2_init : ByteArray := prog_4_method_1_code
def yX2_init : MethodName := ⟨RX2, "<init>", "()V"⟩
abbrev cX2_save : ByteArray := prog_4_method_2_code
def yX2_save : MethodName := ⟨RX2, "save", "(LSquopPiles$State;)V"⟩
def RX3 : String := "SquopPiles$Routes"
def TX3 : u_T := fun k => match k with
  | 0 => ("SquopPiles$Routes", "known", "[I", true)
  | 1 => ("SquopPiles$Routes", "distance", "[I", true)
  | _ => ("SquopPiles$Routes", "queue", "[I", true)
def tyX3 : Nat → FieldType := fun k => match k with
  | 0 => .array .int
  | 1 => .array .int
  | _ => .array .int
abbrev wsX30 : List Cond := u_ws RX3 TX3 3
theorem nmX3 : ∀ a, a < 3 → ∀ b, b < 3 → a ≠ b → (TX3 a).2.1 ≠ (TX3 b).2.1 := by decide +kernel
theorem tyX3_ok : ∀ k, k < 3 → parseFieldDescriptor (TX3 k).2.2.1 = some (tyX3 k) := by decide +kernel
abbrev cX3_init : ByteArray := prog_5_method_1_code
def yX3_init : MethodName := ⟨RX3, "<init>", "()V"⟩
abbrev cX3_fewest : ByteArray := prog_5_method_2_code
def yX3_fewest : MethodName := ⟨RX3, "fewest", "(IZ)I"⟩
abbrev cX3_search : ByteArray := prog_5_method_3_code
def yX3_search : MethodName := ⟨RX3, "search", "(II)I"⟩
def RX4 : String := "SquopPiles$State"
def TX4 : u_T := fun k => match k with
  | 0 => ("SquopPiles$State", "mat", "LSquopPiles$Mat;", true)
  | 1 => ("SquopPiles$State", "flights", "[I", true)
  | 2 => ("SquopPiles$State", "fouls", "[I", true)
  | 3 => ("SquopPiles$State", "lost", "[I", true)
  | 4 => ("SquopPiles$State", "turn", "I", false)
  | 5 => ("SquopPiles$State", "lifts", "I", false)
  | _ => ("SquopPiles$State", "setting", "I", false)
def tyX4 : Nat → FieldType := fun k => match k with
  | 0 => .object "SquopPiles$Mat"
  | 1 => .array .int
  | 2 => .array .int
  | 3 => .array .int
  | 4 => .int
  | 5 => .int
  | _ => .int
abbrev wsX40 : List Cond := u_ws RX4 TX4 7
theorem nmX4 : ∀ a, a < 7 → ∀ b, b < 7 → a ≠ b → (TX4 a).2.1 ≠ (TX4 b).2.1 := by decide +kernel
theorem tyX4_ok : ∀ k, k < 7 → parseFieldDescriptor (TX4 k).2.2.1 = some (tyX4 k) := by decide +kernel
abbrev cX4_init : ByteArray := prog_6_method_1_code
def yX4_init : MethodName := ⟨RX4, "<init>", "()V"⟩
abbrev cX4_copyFrom : ByteArray := prog_6_method_2_code
def yX4_copyFrom : MethodName := ⟨RX4, "copyFrom", "(LSquopPiles$State;)V"⟩
abbrev cX4_whyNotFlown : ByteArray := prog_6_method_3_code
def yX4_whyNotFlown : MethodName := ⟨RX4, "whyNotFlown", "(I)I"⟩
abbrev cX4_whyNotLifted : ByteArray := prog_6_method_4_code
def yX4_whyNotLifted : MethodName := ⟨RX4, "whyNotLifted", "(IIII)I"⟩
abbrev cX4_carryOutFlight : ByteArray := prog_6_method_5_code
def yX4_carryOutFlight : MethodName := ⟨RX4, "carryOutFlight", "(III)I"⟩
abbrev cX4_carryOutLift : ByteArray := prog_6_method_6_code
def yX4_carryOutLift : MethodName := ⟨RX4, "carryOutLift", "(IIII)V"⟩
abbrev cX4_passTurn : ByteArray := prog_6_method_7_code
def yX4_passTurn : MethodName := ⟨RX4, "passTurn", "()V"⟩
abbrev cX4_allFlights : ByteArray := prog_6_method_8_code
def yX4_allFlights : MethodName := ⟨RX4, "allFlights", "()I"⟩
abbrev cX4_allFouls : ByteArray := prog_6_method_9_code
def yX4_allFouls : MethodName := ⟨RX4, "allFouls", "()I"⟩
def RX5 : String := "SquopPiles"
def TX5 : u_T := fun k => match k with
  | 0 => ("SquopPiles", "now", "LSquopPiles$State;", true)
  | 1 => ("SquopPiles", "snapshot", "LSquopPiles$State;", true)
  | 2 => ("SquopPiles", "past", "LSquopPiles$Past;", true)
  | 3 => ("SquopPiles", "text", "LSquopPiles$GameText;", true)
  | 4 => ("SquopPiles", "trial", "LSquopPiles$Mat;", true)
  | 5 => ("SquopPiles", "routes", "LSquopPiles$Routes;", true)
  | _ => ("SquopPiles", "hasSnapshot", "Z", false)
def tyX5 : Nat → FieldType := fun k => match k with
  | 0 => .object "SquopPiles$State"
  | 1 => .object "SquopPiles$State"
  | 2 => .object "SquopPiles$Past"
  | 3 => .object "SquopPiles$GameText"
  | 4 => .object "SquopPiles$Mat"
  | 5 => .object "SquopPiles$Routes"
  | _ => .boolean
abbrev wsX50 : List Cond := u_ws RX5 TX5 7
theorem nmX5 : ∀ a, a < 7 → ∀ b, b < 7 → a ≠ b → (TX5 a).2.1 ≠ (TX5 b).2.1 := by decide +kernel
theorem tyX5_ok : ∀ k, k < 7 → parseFieldDescriptor (TX5 k).2.2.1 = some (tyX5 k) := by decide +kernel
abbrev cX5_init : ByteArray := prog_1_method_1_code
def yX5_init : MethodName := ⟨RX5, "<init>", "()V"⟩
abbrev cX5_fly : ByteArray := prog_1_method_2_code
def yX5_fly : MethodName := ⟨RX5, "fly", "(III)I"⟩
abbrev cX5_lift : ByteArray := prog_1_method_3_code
def yX5_lift : MethodName := ⟨RX5, "lift", "(IIII)I"⟩
abbrev cX5_set : ByteArray := prog_1_method_4_code
def yX5_set : MethodName := ⟨RX5, "set", "(I)I"⟩
abbrev cX5_put : ByteArray := prog_1_method_5_code
def yX5_put : MethodName := ⟨RX5, "put", "(III)I"⟩
abbrev cX5_wink : ByteArray := prog_1_method_13_code
def yX5_wink : MethodName := ⟨RX5, "wink", "(II)I"⟩
abbrev cX5_pile : ByteArray := prog_1_method_14_code
def yX5_pile : MethodName := ⟨RX5, "pile", "(III)I"⟩
abbrev cX5_colour : ByteArray := prog_1_method_15_code
def yX5_colour : MethodName := ⟨RX5, "colour", "(II)I"⟩
abbrev cX5_count : ByteArray := prog_1_method_16_code
def yX5_count : MethodName := ⟨RX5, "count", "(I)I"⟩
abbrev cX5_why : ByteArray := prog_1_method_17_code
def yX5_why : MethodName := ⟨RX5, "why", "(IIII)I"⟩
abbrev cX5_lands : ByteArray := prog_1_method_18_code
def yX5_lands : MethodName := ⟨RX5, "lands", "(III)I"⟩
abbrev cX5_ifFlown : ByteArray := prog_1_method_19_code
def yX5_ifFlown : MethodName := ⟨RX5, "ifFlown", "(IIII)I"⟩
abbrev cX5_flightsTo : ByteArray := prog_1_method_21_code
def yX5_flightsTo : MethodName := ⟨RX5, "flightsTo", "(I)I"⟩
abbrev cX5_tryFlight : ByteArray := prog_1_method_31_code
def yX5_tryFlight : MethodName := ⟨RX5, "tryFlight", "(III)V"⟩
abbrev cX5_requireWink : ByteArray := prog_1_method_35_code
def yX5_requireWink : MethodName := ⟨RX5, "requireWink", "(I)V"⟩
abbrev cX5_requireCell : ByteArray := prog_1_method_36_code
def yX5_requireCell : MethodName := ⟨RX5, "requireCell", "(II)V"⟩
abbrev cX5_requireFlight : ByteArray := prog_1_method_37_code
def yX5_requireFlight : MethodName := ⟨RX5, "requireFlight", "(II)V"⟩
abbrev cX5_requireLift : ByteArray := prog_1_method_38_code
def yX5_requireLift : MethodName := ⟨RX5, "requireLift", "(II)V"⟩
abbrev cX5_requireDirection : ByteArray := prog_1_method_39_code
def yX5_requireDirection : MethodName := ⟨RX5, "requireDirection", "(I)V"⟩
abbrev cX5_isWink : ByteArray := prog_1_method_40_code
def yX5_isWink : MethodName := ⟨RX5, "isWink", "(I)Z"⟩
abbrev cX5_isColour : ByteArray := prog_1_method_41_code
def yX5_isColour : MethodName := ⟨RX5, "isColour", "(I)Z"⟩
abbrev cX5_isOnMat : ByteArray := prog_1_method_42_code
def yX5_isOnMat : MethodName := ⟨RX5, "isOnMat", "(II)Z"⟩
abbrev cX5_colourOf : ByteArray := prog_1_method_43_code
def yX5_colourOf : MethodName := ⟨RX5, "colourOf", "(I)I"⟩
abbrev cX5_teamOf : ByteArray := prog_1_method_44_code
def yX5_teamOf : MethodName := ⟨RX5, "teamOf", "(I)I"⟩
abbrev cX5_isLarge : ByteArray := prog_1_method_45_code
def yX5_isLarge : MethodName := ⟨RX5, "isLarge", "(I)Z"⟩
abbrev cX5_stepsOf : ByteArray := prog_1_method_46_code
def yX5_stepsOf : MethodName := ⟨RX5, "stepsOf", "(II)I"⟩
abbrev cX5_cellAt : ByteArray := prog_1_method_47_code
def yX5_cellAt : MethodName := ⟨RX5, "cellAt", "(II)I"⟩
abbrev cX5_baseOf : ByteArray := prog_1_method_48_code
def yX5_baseOf : MethodName := ⟨RX5, "baseOf", "(I)I"⟩
abbrev cX5_eastOf : ByteArray := prog_1_method_49_code
def yX5_eastOf : MethodName := ⟨RX5, "eastOf", "(I)I"⟩
abbrev cX5_southOf : ByteArray := prog_1_method_50_code
def yX5_southOf : MethodName := ⟨RX5, "southOf", "(I)I"⟩
abbrev cX5_cellBeside : ByteArray := prog_1_method_51_code
def yX5_cellBeside : MethodName := ⟨RX5, "cellBeside", "(III)I"⟩
abbrev cX5_landing : ByteArray := prog_1_method_52_code
def yX5_landing : MethodName := ⟨RX5, "landing", "(III)I"⟩
abbrev cX5_restingCell : ByteArray := prog_1_method_53_code
def yX5_restingCell : MethodName := ⟨RX5, "restingCell", "(II)I"⟩
abbrev cX5_flightAnswer : ByteArray := prog_1_method_54_code
def yX5_flightAnswer : MethodName := ⟨RX5, "flightAnswer", "(I)I"⟩
def RX6 : String := "SquopPilesModel"
def TX6 : u_T := fun k => match k with
  | _ => ("", "", "", false)
def tyX6 : Nat → FieldType := fun k => match k with
  | _ => .int
abbrev wsX60 : List Cond := u_ws RX6 TX6 0
theorem nmX6 : ∀ a, a < 0 → ∀ b, b < 0 → a ≠ b → (TX6 a).2.1 ≠ (TX6 b).2.1 := by decide +kernel
theorem tyX6_ok : ∀ k, k < 0 → parseFieldDescriptor (TX6 k).2.2.1 = some (tyX6 k) := by decide +kernel
def RJx145de : String := "java/io/Serializable"
def TJx145de : u_T := fun k => match k with
  | _ => ("", "", "", false)
def tyJx145de : Nat → FieldType := fun k => match k with
  | _ => .int
abbrev wsJx145de0 : List Cond := u_ws RJx145de TJx145de 0
theorem nmJx145de : ∀ a, a < 0 → ∀ b, b < 0 → a ≠ b → (TJx145de a).2.1 ≠ (TJx145de b).2.1 := by decide +kernel
theorem tyJx145de_ok : ∀ k, k < 0 → parseFieldDescriptor (TJx145de k).2.2.1 = some (tyJx145de k) := by decide +kernel
def RJ9 : String := "java/lang/Math"
def TJ9 : u_T := fun k => match k with
  | _ => ("", "", "", false)
def tyJ9 : Nat → FieldType := fun k => match k with
  | _ => .int
abbrev wsJ90 : List Cond := u_ws RJ9 TJ9 0
theorem nmJ9 : ∀ a, a < 0 → ∀ b, b < 0 → a ≠ b → (TJ9 a).2.1 ≠ (TJ9 b).2.1 := by decide +kernel
theorem tyJ9_ok : ∀ k, k < 0 → parseFieldDescriptor (TJ9 k).2.2.1 = some (tyJ9 k) := by decide +kernel
abbrev cJ9_max_7cf53 : ByteArray := prog_13_method_65_code
def yJ9_max_7cf53 : MethodName := ⟨RJ9, "max", "(II)I"⟩
abbrev cJ9_min_7cf53 : ByteArray := prog_13_method_69_code
def yJ9_min_7cf53 : MethodName := ⟨RJ9, "min", "(II)I"⟩
def RJ0 : String := "java/lang/String"
def TJ0 : u_T := fun k => match k with
  | _ => ("", "", "", false)
def tyJ0 : Nat → FieldType := fun k => match k with
  | _ => .int
abbrev wsJ00 : List Cond := u_ws RJ0 TJ0 0
theorem nmJ0 : ∀ a, a < 0 → ∀ b, b < 0 → a ≠ b → (TJ0 a).2.1 ≠ (TJ0 b).2.1 := by decide +kernel
theorem tyJ0_ok : ∀ k, k < 0 → parseFieldDescriptor (TJ0 k).2.2.1 = some (tyJ0 k) := by decide +kernel
def RJ10 : String := "java/lang/System"
def TJ10 : u_T := fun k => match k with
  | _ => ("", "", "", false)
def tyJ10 : Nat → FieldType := fun k => match k with
  | _ => .int
abbrev wsJ100 : List Cond := u_ws RJ10 TJ10 0
theorem nmJ10 : ∀ a, a < 0 → ∀ b, b < 0 → a ≠ b → (TJ10 a).2.1 ≠ (TJ10 b).2.1 := by decide +kernel
theorem tyJ10_ok : ∀ k, k < 0 → parseFieldDescriptor (TJ10 k).2.2.1 = some (tyJ10 k) := by decide +kernel
def RJ7 : String := "java/util/Arrays"
def TJ7 : u_T := fun k => match k with
  | _ => ("", "", "", false)
def tyJ7 : Nat → FieldType := fun k => match k with
  | _ => .int
abbrev wsJ70 : List Cond := u_ws RJ7 TJ7 0
theorem nmJ7 : ∀ a, a < 0 → ∀ b, b < 0 → a ≠ b → (TJ7 a).2.1 ≠ (TJ7 b).2.1 := by decide +kernel
theorem tyJ7_ok : ∀ k, k < 0 → parseFieldDescriptor (TJ7 k).2.2.1 = some (tyJ7 k) := by decide +kernel
abbrev cJ7_fill_53178 : ByteArray := prog_18_method_103_code
def yJ7_fill_53178 : MethodName := ⟨RJ7, "fill", "([II)V"⟩
def RL : String := "SquopPilesLaw"
abbrev cL_cell : ByteArray := method_2_code
def yL_cell : MethodName := ⟨RL, "cell", "([II)I"⟩
abbrev cL_low : ByteArray := method_3_code
def yL_low : MethodName := ⟨RL, "low", "(II)I"⟩
abbrev cL_base : ByteArray := method_4_code
def yL_base : MethodName := ⟨RL, "base", "(I)I"⟩
abbrev cL_many : ByteArray := method_5_code
def yL_many : MethodName := ⟨RL, "many", "(LSquopPiles;I)I"⟩
abbrev cL_fits : ByteArray := method_6_code
def yL_fits : MethodName := ⟨RL, "fits", "(LSquopPiles;)Z"⟩
abbrev cL_next : ByteArray := method_7_code
def yL_next : MethodName := ⟨RL, "next", "([II)I"⟩
abbrev cL_losts : ByteArray := method_8_code
def yL_losts : MethodName := ⟨RL, "losts", "(LSquopPiles;[I)Z"⟩
abbrev cL_flies : ByteArray := method_9_code
def yL_flies : MethodName := ⟨RL, "flies", "(LSquopPiles;[IIII)Z"⟩
abbrev cL_lifts : ByteArray := method_10_code
def yL_lifts : MethodName := ⟨RL, "lifts", "(LSquopPiles;[IIIII)Z"⟩
abbrev cL_beside : ByteArray := method_11_code
def yL_beside : MethodName := ⟨RL, "beside", "(II)I"⟩
abbrev cL_law : ByteArray := code
def yL_law : MethodName := ⟨RL, "law", "([I)Z"⟩
theorem dk {code : ByteArray} {L : List (Nat × Instr × Nat)} (h : L.all (fun q => decide (decode code q.1 = .ok q.2)) = true) (i : Nat) {pc len : Nat} {ins : Instr} (hi : L[i]? = some (pc, ins, len)) : decode code pc = .ok (ins, len) := by
  have h1 := List.all_eq_true.mp h (pc, ins, len) (List.mem_of_getElem? hi)
  exact of_decide_eq_true h1
def kX0_init : List (Nat × Instr × Nat) := [(0, .aload_n 0, 1), (1, .invokespecial 3, 3), (4, .aload_n 0, 1), (5, .bipush 60, 2), (7, .newarray .int, 2), (9, .putfield 9, 3), (12, .aload_n 0, 1), (13, .iconst 0, 1), (14, .putfield 15, 3), (17, .return_, 1)]
theorem kX0_init_ok : kX0_init.all (fun q => decide (decode cX0_init q.1 = .ok q.2)) = true := by decide +kernel
def kX1_init : List (Nat × Instr × Nat) := [(0, .aload_n 0, 1), (1, .invokespecial 3, 3), (4, .aload_n 0, 1), (5, .bipush 16, 2), (7, .newarray .int, 2), (9, .putfield 9, 3), (12, .aload_n 0, 1), (13, .bipush 16, 2), (15, .newarray .int, 2), (17, .putfield 15, 3), (20, .aload_n 0, 1), (21, .bipush 16, 2), (23, .newarray .int, 2), (25, .putfield 18, 3), (28, .iconst 0, 1), (29, .istore_n 1, 1), (30, .iload_n 1, 1), (31, .bipush 16, 2), (33, .if_icmp .ge 61, 3), (36, .iload_n 1, 1), (37, .iconst 4, 1), (38, .irem, 1), (39, .istore_n 2, 1), (40, .aload_n 0, 1), (41, .getfield 9, 3), (44, .iload_n 1, 1), (45, .iload_n 1, 1), (46, .invokestatic 21, 3), (49, .invokestatic 25, 3), (52, .iastore, 1), (53, .aload_n 0, 1), (54, .getfield 15, 3), (57, .iload_n 1, 1), (58, .iload_n 2, 1), (59, .ifCond .ne 7, 3), (62, .iconst (-1), 1), (63, .goto 6, 3), (66, .iload_n 1, 1), (67, .iconst 1, 1), (68, .isub, 1), (69, .iastore, 1), (70, .aload_n 0, 1), (71, .getfield 18, 3), (74, .iload_n 1, 1), (75, .iload_n 2, 1), (76, .iconst 3, 1), (77, .if_icmp .ne 7, 3), (80, .iconst (-1), 1), (81, .goto 6, 3), (84, .iload_n 1, 1), (85, .iconst 1, 1), (86, .iadd, 1), (87, .iastore, 1), (88, .iinc 1 1, 3), (91, .goto (-61), 3), (94, .return_, 1)]
theorem kX1_init_ok : kX1_init.all (fun q => decide (decode cX1_init q.1 = .ok q.2)) = true := by decide +kernel
def kX1_copyFrom : List (Nat × Instr × Nat) := [(0, .aload_n 1, 1), (1, .getfield 9, 3), (4, .iconst 0, 1), (5, .aload_n 0, 1), (6, .getfield 9, 3), (9, .iconst 0, 1), (10, .bipush 16, 2), (12, .invokestatic 28, 3), (15, .aload_n 1, 1), (16, .getfield 15, 3), (19, .iconst 0, 1), (20, .aload_n 0, 1), (21, .getfield 15, 3), (24, .iconst 0, 1), (25, .bipush 16, 2), (27, .invokestatic 28, 3), (30, .aload_n 1, 1), (31, .getfield 18, 3), (34, .iconst 0, 1), (35, .aload_n 0, 1), (36, .getfield 18, 3), (39, .iconst 0, 1), (40, .bipush 16, 2), (42, .invokestatic 28, 3), (45, .return_, 1)]
theorem kX1_copyFrom_ok : kX1_copyFrom.all (fun q => decide (decode cX1_copyFrom q.1 = .ok q.2)) = true := by decide +kernel
def kX1_move : List (Nat × Instr × Nat) := [(0, .aload_n 0, 1), (1, .getfield 15, 3), (4, .iload_n 1, 1), (5, .iaload, 1), (6, .istore_n 3, 1), (7, .iload_n 3, 1), (8, .invokestatic 34, 3), (11, .ifCond .eq 10, 3), (14, .aload_n 0, 1), (15, .getfield 18, 3), (18, .iload_n 3, 1), (19, .iconst (-1), 1), (20, .iastore, 1), (21, .aload_n 0, 1), (22, .iload_n 1, 1), (23, .iconst (-1), 1), (24, .invokevirtual 38, 3), (27, .iload_n 2, 1), (28, .bipush 84, 2), (30, .if_icmp .ne 9, 3), (33, .aload_n 0, 1), (34, .iload_n 1, 1), (35, .invokevirtual 42, 3), (38, .return_, 1), (39, .aload_n 0, 1), (40, .iload_n 2, 1), (41, .invokevirtual 46, 3), (44, .istore 4, 2), (46, .aload_n 0, 1), (47, .iload_n 1, 1), (48, .iload_n 2, 1), (49, .invokevirtual 38, 3), (52, .aload_n 0, 1), (53, .getfield 15, 3), (56, .iload_n 1, 1), (57, .iload 4, 2), (59, .iastore, 1), (60, .iload 4, 2), (62, .invokestatic 34, 3), (65, .ifCond .eq 11, 3), (68, .aload_n 0, 1), (69, .getfield 18, 3), (72, .iload 4, 2), (74, .iload_n 1, 1), (75, .iastore, 1), (76, .return_, 1)]
theorem kX1_move_ok : kX1_move.all (fun q => decide (decode cX1_move q.1 = .ok q.2)) = true := by decide +kernel
def kX1_setCells : List (Nat × Instr × Nat) := [(0, .iload_n 1, 1), (1, .istore_n 3, 1), (2, .iconst 0, 1), (3, .istore 4, 2), (5, .iload 4, 2), (7, .bipush 16, 2), (9, .if_icmp .ge 30, 3), (12, .iload_n 3, 1), (13, .invokestatic 34, 3), (16, .ifCond .eq 23, 3), (19, .aload_n 0, 1), (20, .getfield 9, 3), (23, .iload_n 3, 1), (24, .iload_n 2, 1), (25, .iastore, 1), (26, .aload_n 0, 1), (27, .getfield 18, 3), (30, .iload_n 3, 1), (31, .iaload, 1), (32, .istore_n 3, 1), (33, .iinc 4 1, 3), (36, .goto (-31), 3), (39, .return_, 1)]
theorem kX1_setCells_ok : kX1_setCells.all (fun q => decide (decode cX1_setCells q.1 = .ok q.2)) = true := by decide +kernel
def kX1_separate : List (Nat × Instr × Nat) := [(0, .iload_n 1, 1), (1, .istore_n 2, 1), (2, .iconst 0, 1), (3, .istore_n 3, 1), (4, .iload_n 3, 1), (5, .bipush 16, 2), (7, .if_icmp .ge 41, 3), (10, .iload_n 2, 1), (11, .invokestatic 34, 3), (14, .ifCond .eq 34, 3), (17, .aload_n 0, 1), (18, .getfield 18, 3), (21, .iload_n 2, 1), (22, .iaload, 1), (23, .istore 4, 2), (25, .aload_n 0, 1), (26, .getfield 15, 3), (29, .iload_n 2, 1), (30, .iconst (-1), 1), (31, .iastore, 1), (32, .aload_n 0, 1), (33, .getfield 18, 3), (36, .iload_n 2, 1), (37, .iconst (-1), 1), (38, .iastore, 1), (39, .iload 4, 2), (41, .istore_n 2, 1), (42, .iinc 3 1, 3), (45, .goto (-41), 3), (48, .return_, 1)]
theorem kX1_separate_ok : kX1_separate.all (fun q => decide (decode cX1_separate q.1 = .ok q.2)) = true := by decide +kernel
def kX1_isPotted : List (Nat × Instr × Nat) := [(0, .aload_n 0, 1), (1, .getfield 9, 3), (4, .iload_n 1, 1), (5, .iaload, 1), (6, .iconst (-1), 1), (7, .if_icmp .ne 7, 3), (10, .iconst 1, 1), (11, .goto 4, 3), (14, .iconst 0, 1), (15, .ireturn, 1)]
theorem kX1_isPotted_ok : kX1_isPotted.all (fun q => decide (decode cX1_isPotted q.1 = .ok q.2)) = true := by decide +kernel
def kX1_isCovered : List (Nat × Instr × Nat) := [(0, .aload_n 0, 1), (1, .getfield 18, 3), (4, .iload_n 1, 1), (5, .iaload, 1), (6, .iconst (-1), 1), (7, .if_icmp .eq 7, 3), (10, .iconst 1, 1), (11, .goto 4, 3), (14, .iconst 0, 1), (15, .ireturn, 1)]
theorem kX1_isCovered_ok : kX1_isCovered.all (fun q => decide (decode cX1_isCovered q.1 = .ok q.2)) = true := by decide +kernel
def kX1_placeOf : List (Nat × Instr × Nat) := [(0, .aload_n 0, 1), (1, .iload_n 1, 1), (2, .invokevirtual 49, 3), (5, .ifCond .eq 5, 3), (8, .iconst (-1), 1), (9, .ireturn, 1), (10, .iconst 0, 1), (11, .istore_n 2, 1), (12, .aload_n 0, 1), (13, .getfield 15, 3), (16, .iload_n 1, 1), (17, .iaload, 1), (18, .istore_n 3, 1), (19, .iconst 0, 1), (20, .istore 4, 2), (22, .iload 4, 2), (24, .bipush 16, 2), (26, .if_icmp .ge 26, 3), (29, .iload_n 3, 1), (30, .invokestatic 34, 3), (33, .ifCond .eq 19, 3), (36, .iinc 2 1, 3), (39, .aload_n 0, 1), (40, .getfield 15, 3), (43, .iload_n 3, 1), (44, .iaload, 1), (45, .istore_n 3, 1), (46, .iinc 4 1, 3), (49, .goto (-27), 3), (52, .iload_n 2, 1), (53, .ireturn, 1)]
theorem kX1_placeOf_ok : kX1_placeOf.all (fun q => decide (decode cX1_placeOf q.1 = .ok q.2)) = true := by decide +kernel
def kX1_topAt : List (Nat × Instr × Nat) := [(0, .iconst 0, 1), (1, .istore_n 2, 1), (2, .iload_n 2, 1), (3, .bipush 16, 2), (5, .if_icmp .ge 31, 3), (8, .aload_n 0, 1), (9, .getfield 9, 3), (12, .iload_n 2, 1), (13, .iaload, 1), (14, .iload_n 1, 1), (15, .if_icmp .ne 15, 3), (18, .aload_n 0, 1), (19, .getfield 18, 3), (22, .iload_n 2, 1), (23, .iaload, 1), (24, .iconst (-1), 1), (25, .if_icmp .ne 5, 3), (28, .iload_n 2, 1), (29, .ireturn, 1), (30, .iinc 2 1, 3), (33, .goto (-31), 3), (36, .iconst (-1), 1), (37, .ireturn, 1)]
theorem kX1_topAt_ok : kX1_topAt.all (fun q => decide (decode cX1_topAt q.1 = .ok q.2)) = true := by decide +kernel
def kX1_bottomAt : List (Nat × Instr × Nat) := [(0, .iconst 0, 1), (1, .istore_n 2, 1), (2, .iload_n 2, 1), (3, .bipush 16, 2), (5, .if_icmp .ge 31, 3), (8, .aload_n 0, 1), (9, .getfield 9, 3), (12, .iload_n 2, 1), (13, .iaload, 1), (14, .iload_n 1, 1), (15, .if_icmp .ne 15, 3), (18, .aload_n 0, 1), (19, .getfield 15, 3), (22, .iload_n 2, 1), (23, .iaload, 1), (24, .iconst (-1), 1), (25, .if_icmp .ne 5, 3), (28, .iload_n 2, 1), (29, .ireturn, 1), (30, .iinc 2 1, 3), (33, .goto (-31), 3), (36, .iconst (-1), 1), (37, .ireturn, 1)]
theorem kX1_bottomAt_ok : kX1_bottomAt.all (fun q => decide (decode cX1_bottomAt q.1 = .ok q.2)) = true := by decide +kernel
def kX1_lowestOfUpper : List (Nat × Instr × Nat) := [(0, .aload_n 0, 1), (1, .iload_n 1, 1), (2, .invokevirtual 46, 3), (5, .istore_n 3, 1), (6, .iconst 1, 1), (7, .istore 4, 2), (9, .iload 4, 2), (11, .iload_n 2, 1), (12, .if_icmp .ge 23, 3), (15, .iload_n 3, 1), (16, .invokestatic 34, 3), (19, .ifCond .eq 16, 3), (22, .aload_n 0, 1), (23, .getfield 15, 3), (26, .iload_n 3, 1), (27, .iaload, 1), (28, .istore_n 3, 1), (29, .iinc 4 1, 3), (32, .goto (-23), 3), (35, .iload_n 3, 1), (36, .ireturn, 1)]
theorem kX1_lowestOfUpper_ok : kX1_lowestOfUpper.all (fun q => decide (decode cX1_lowestOfUpper q.1 = .ok q.2)) = true := by decide +kernel
def kX1_heightAt : List (Nat × Instr × Nat) := [(0, .iconst 0, 1), (1, .istore_n 2, 1), (2, .iconst 0, 1), (3, .istore_n 3, 1), (4, .iload_n 3, 1), (5, .bipush 16, 2), (7, .if_icmp .ge 22, 3), (10, .aload_n 0, 1), (11, .getfield 9, 3), (14, .iload_n 3, 1), (15, .iaload, 1), (16, .iload_n 1, 1), (17, .if_icmp .ne 6, 3), (20, .iinc 2 1, 3), (23, .iinc 3 1, 3), (26, .goto (-22), 3), (29, .iload_n 2, 1), (30, .ireturn, 1)]
theorem kX1_heightAt_ok : kX1_heightAt.all (fun q => decide (decode cX1_heightAt q.1 = .ok q.2)) = true := by decide +kernel
def kX1_coloursAt : List (Nat × Instr × Nat) := [(0, .iconst 0, 1), (1, .istore_n 2, 1), (2, .iconst 0, 1), (3, .istore_n 3, 1), (4, .iload_n 3, 1), (5, .bipush 16, 2), (7, .if_icmp .ge 28, 3), (10, .aload_n 0, 1), (11, .getfield 9, 3), (14, .iload_n 3, 1), (15, .iaload, 1), (16, .iload_n 1, 1), (17, .if_icmp .ne 12, 3), (20, .iload_n 2, 1), (21, .iconst 1, 1), (22, .iload_n 3, 1), (23, .invokestatic 21, 3), (26, .ishl, 1), (27, .ior, 1), (28, .istore_n 2, 1), (29, .iinc 3 1, 3), (32, .goto (-28), 3), (35, .iload_n 2, 1), (36, .ireturn, 1)]
theorem kX1_coloursAt_ok : kX1_coloursAt.all (fun q => decide (decode cX1_coloursAt q.1 = .ok q.2)) = true := by decide +kernel
def kX1_isBottom : List (Nat × Instr × Nat) := [(0, .aload_n 0, 1), (1, .getfield 9, 3), (4, .iload_n 1, 1), (5, .iaload, 1), (6, .iconst (-1), 1), (7, .if_icmp .eq 17, 3), (10, .aload_n 0, 1), (11, .getfield 15, 3), (14, .iload_n 1, 1), (15, .iaload, 1), (16, .iconst (-1), 1), (17, .if_icmp .ne 7, 3), (20, .iconst 1, 1), (21, .goto 4, 3), (24, .iconst 0, 1), (25, .ireturn, 1)]
theorem kX1_isBottom_ok : kX1_isBottom.all (fun q => decide (decode cX1_isBottom q.1 = .ok q.2)) = true := by decide +kernel
def kX1_piles : List (Nat × Instr × Nat) := [(0, .iconst 0, 1), (1, .istore_n 1, 1), (2, .iconst 0, 1), (3, .istore_n 2, 1), (4, .iload_n 2, 1), (5, .bipush 16, 2), (7, .if_icmp .ge 20, 3), (10, .aload_n 0, 1), (11, .iload_n 2, 1), (12, .invokevirtual 52, 3), (15, .ifCond .eq 6, 3), (18, .iinc 1 1, 3), (21, .iinc 2 1, 3), (24, .goto (-20), 3), (27, .iload_n 1, 1), (28, .ireturn, 1)]
theorem kX1_piles_ok : kX1_piles.all (fun q => decide (decode cX1_piles q.1 = .ok q.2)) = true := by decide +kernel
def kX1_highest : List (Nat × Instr × Nat) := [(0, .iconst 0, 1), (1, .istore_n 1, 1), (2, .iconst 0, 1), (3, .istore_n 2, 1), (4, .iload_n 2, 1), (5, .bipush 16, 2), (7, .if_icmp .ge 32, 3), (10, .aload_n 0, 1), (11, .iload_n 2, 1), (12, .invokevirtual 52, 3), (15, .ifCond .eq 18, 3), (18, .iload_n 1, 1), (19, .aload_n 0, 1), (20, .aload_n 0, 1), (21, .getfield 9, 3), (24, .iload_n 2, 1), (25, .iaload, 1), (26, .invokevirtual 55, 3), (29, .invokestatic 58, 3), (32, .istore_n 1, 1), (33, .iinc 2 1, 3), (36, .goto (-32), 3), (39, .iload_n 1, 1), (40, .ireturn, 1)]
theorem kX1_highest_ok : kX1_highest.all (fun q => decide (decode cX1_highest q.1 = .ok q.2)) = true := by decide +kernel
def kX1_coveredByPiles : List (Nat × Instr × Nat) := [(0, .iconst 0, 1), (1, .istore_n 1, 1), (2, .iconst 0, 1), (3, .istore_n 2, 1), (4, .iload_n 2, 1), (5, .bipush 16, 2), (7, .if_icmp .ge 32, 3), (10, .aload_n 0, 1), (11, .iload_n 2, 1), (12, .invokevirtual 52, 3), (15, .ifCond .eq 18, 3), (18, .iload_n 1, 1), (19, .aload_n 0, 1), (20, .aload_n 0, 1), (21, .getfield 9, 3), (24, .iload_n 2, 1), (25, .iaload, 1), (26, .invokevirtual 55, 3), (29, .iconst 1, 1), (30, .isub, 1), (31, .iadd, 1), (32, .istore_n 1, 1), (33, .iinc 2 1, 3), (36, .goto (-32), 3), (39, .iload_n 1, 1), (40, .ireturn, 1)]
theorem kX1_coveredByPiles_ok : kX1_coveredByPiles.all (fun q => decide (decode cX1_coveredByPiles q.1 = .ok q.2)) = true := by decide +kernel
def kX1_coveredByWinks : List (Nat × Instr × Nat) := [(0, .aload_n 0, 1), (1, .iconst 0, 1), (2, .invokevirtual 64, 3), (5, .aload_n 0, 1), (6, .iconst 1, 1), (7, .invokevirtual 64, 3), (10, .iadd, 1), (11, .ireturn, 1)]
theorem kX1_coveredByWinks_ok : kX1_coveredByWinks.all (fun q => decide (decode cX1_coveredByWinks q.1 = .ok q.2)) = true := by decide +kernel
def kX1_coveredOfTeam : List (Nat × Instr × Nat) := [(0, .aload_n 0, 1), (1, .iload_n 1, 1), (2, .invokevirtual 67, 3), (5, .aload_n 0, 1), (6, .iload_n 1, 1), (7, .iconst 2, 1), (8, .iadd, 1), (9, .invokevirtual 67, 3), (12, .iadd, 1), (13, .ireturn, 1)]
theorem kX1_coveredOfTeam_ok : kX1_coveredOfTeam.all (fun q => decide (decode cX1_coveredOfTeam q.1 = .ok q.2)) = true := by decide +kernel
def kX1_coveredOf : List (Nat × Instr × Nat) := [(0, .iconst 0, 1), (1, .istore_n 2, 1), (2, .iconst 0, 1), (3, .istore_n 3, 1), (4, .iload_n 3, 1), (5, .iconst 4, 1), (6, .if_icmp .ge 24, 3), (9, .aload_n 0, 1), (10, .iconst 4, 1), (11, .iload_n 1, 1), (12, .imul, 1), (13, .iload_n 3, 1), (14, .iadd, 1), (15, .invokevirtual 70, 3), (18, .ifCond .eq 6, 3), (21, .iinc 2 1, 3), (24, .iinc 3 1, 3), (27, .goto (-23), 3), (30, .iload_n 2, 1), (31, .ireturn, 1)]
theorem kX1_coveredOf_ok : kX1_coveredOf.all (fun q => decide (decode cX1_coveredOf q.1 = .ok q.2)) = true := by decide +kernel
def kX1_potted : List (Nat × Instr × Nat) := [(0, .iconst 0, 1), (1, .istore_n 1, 1), (2, .iconst 0, 1), (3, .istore_n 2, 1), (4, .iload_n 2, 1), (5, .iconst 4, 1), (6, .if_icmp .ge 17, 3), (9, .iload_n 1, 1), (10, .aload_n 0, 1), (11, .iload_n 2, 1), (12, .invokevirtual 73, 3), (15, .iadd, 1), (16, .istore_n 1, 1), (17, .iinc 2 1, 3), (20, .goto (-16), 3), (23, .iload_n 1, 1), (24, .ireturn, 1)]
theorem kX1_potted_ok : kX1_potted.all (fun q => decide (decode cX1_potted q.1 = .ok q.2)) = true := by decide +kernel
def kX1_pottedOf : List (Nat × Instr × Nat) := [(0, .iconst 0, 1), (1, .istore_n 2, 1), (2, .iconst 0, 1), (3, .istore_n 3, 1), (4, .iload_n 3, 1), (5, .iconst 4, 1), (6, .if_icmp .ge 26, 3), (9, .aload_n 0, 1), (10, .getfield 9, 3), (13, .iconst 4, 1), (14, .iload_n 1, 1), (15, .imul, 1), (16, .iload_n 3, 1), (17, .iadd, 1), (18, .iaload, 1), (19, .iconst (-1), 1), (20, .if_icmp .ne 6, 3), (23, .iinc 2 1, 3), (26, .iinc 3 1, 3), (29, .goto (-25), 3), (32, .iload_n 2, 1), (33, .ireturn, 1)]
theorem kX1_pottedOf_ok : kX1_pottedOf.all (fun q => decide (decode cX1_pottedOf q.1 = .ok q.2)) = true := by decide +kernel
def kX1_isAllPotted : List (Nat × Instr × Nat) := [(0, .aload_n 0, 1), (1, .iload_n 1, 1), (2, .invokevirtual 73, 3), (5, .iconst 4, 1), (6, .if_icmp .ne 7, 3), (9, .iconst 1, 1), (10, .goto 4, 3), (13, .iconst 0, 1), (14, .ireturn, 1)]
theorem kX1_isAllPotted_ok : kX1_isAllPotted.all (fun q => decide (decode cX1_isAllPotted q.1 = .ok q.2)) = true := by decide +kernel
def kX1_isOver : List (Nat × Instr × Nat) := [(0, .iconst 0, 1), (1, .istore_n 1, 1), (2, .iload_n 1, 1), (3, .iconst 4, 1), (4, .if_icmp .ge 19, 3), (7, .aload_n 0, 1), (8, .iload_n 1, 1), (9, .invokevirtual 76, 3), (12, .ifCond .eq 5, 3), (15, .iconst 1, 1), (16, .ireturn, 1), (17, .iinc 1 1, 3), (20, .goto (-18), 3), (23, .iconst 0, 1), (24, .ireturn, 1)]
theorem kX1_isOver_ok : kX1_isOver.all (fun q => decide (decode cX1_isOver q.1 = .ok q.2)) = true := by decide +kernel
def kX1_pointsOf : List (Nat × Instr × Nat) := [(0, .iload_n 1, 1), (1, .invokestatic 25, 3), (4, .istore_n 2, 1), (5, .iconst 0, 1), (6, .istore_n 3, 1), (7, .iconst 0, 1), (8, .istore 4, 2), (10, .iload 4, 2), (12, .iconst 4, 1), (13, .if_icmp .ge 55, 3), (16, .iconst 4, 1), (17, .iload_n 1, 1), (18, .imul, 1), (19, .iload 4, 2), (21, .iadd, 1), (22, .istore 5, 2), (24, .aload_n 0, 1), (25, .iload 5, 2), (27, .invokevirtual 49, 3), (30, .ifCond .eq 9, 3), (33, .iinc 3 3, 3), (36, .goto 26, 3), (39, .aload_n 0, 1), (40, .iload 5, 2), (42, .invokevirtual 70, 3), (45, .ifCond .ne 17, 3), (48, .aload_n 0, 1), (49, .getfield 9, 3), (52, .iload 5, 2), (54, .iaload, 1), (55, .iload_n 2, 1), (56, .if_icmp .eq 6, 3), (59, .iinc 3 1, 3), (62, .iinc 4 1, 3), (65, .goto (-55), 3), (68, .iload_n 3, 1), (69, .ireturn, 1)]
theorem kX1_pointsOf_ok : kX1_pointsOf.all (fun q => decide (decode cX1_pointsOf q.1 = .ok q.2)) = true := by decide +kernel
def kX1_pointsOfTeam : List (Nat × Instr × Nat) := [(0, .aload_n 0, 1), (1, .iload_n 1, 1), (2, .invokevirtual 79, 3), (5, .aload_n 0, 1), (6, .iload_n 1, 1), (7, .iconst 2, 1), (8, .iadd, 1), (9, .invokevirtual 79, 3), (12, .iadd, 1), (13, .ireturn, 1)]
theorem kX1_pointsOfTeam_ok : kX1_pointsOfTeam.all (fun q => decide (decode cX1_pointsOfTeam q.1 = .ok q.2)) = true := by decide +kernel
def kX1_leadOf : List (Nat × Instr × Nat) := [(0, .aload_n 0, 1), (1, .iload_n 1, 1), (2, .invokevirtual 82, 3), (5, .aload_n 0, 1), (6, .iconst 1, 1), (7, .iload_n 1, 1), (8, .isub, 1), (9, .invokevirtual 82, 3), (12, .isub, 1), (13, .ireturn, 1)]
theorem kX1_leadOf_ok : kX1_leadOf.all (fun q => decide (decode cX1_leadOf q.1 = .ok q.2)) = true := by decide +kernel
def kX1_othersBelow : List (Nat × Instr × Nat) := [(0, .iconst 0, 1), (1, .istore_n 2, 1), (2, .iconst 0, 1), (3, .istore_n 3, 1), (4, .iload_n 3, 1), (5, .bipush 16, 2), (7, .if_icmp .ge 29, 3), (10, .iload_n 3, 1), (11, .invokestatic 21, 3), (14, .iload_n 1, 1), (15, .if_icmp .eq 15, 3), (18, .aload_n 0, 1), (19, .iload_n 3, 1), (20, .iload_n 1, 1), (21, .invokevirtual 85, 3), (24, .ifCond .eq 6, 3), (27, .iinc 2 1, 3), (30, .iinc 3 1, 3), (33, .goto (-29), 3), (36, .iload_n 2, 1), (37, .ireturn, 1)]
theorem kX1_othersBelow_ok : kX1_othersBelow.all (fun q => decide (decode cX1_othersBelow q.1 = .ok q.2)) = true := by decide +kernel
def kX1_liesBelow : List (Nat × Instr × Nat) := [(0, .aload_n 0, 1), (1, .getfield 18, 3), (4, .iload_n 1, 1), (5, .iaload, 1), (6, .istore_n 3, 1), (7, .iconst 0, 1), (8, .istore 4, 2), (10, .iload 4, 2), (12, .bipush 16, 2), (14, .if_icmp .ge 33, 3), (17, .iload_n 3, 1), (18, .invokestatic 34, 3), (21, .ifCond .eq 26, 3), (24, .iload_n 3, 1), (25, .invokestatic 21, 3), (28, .iload_n 2, 1), (29, .if_icmp .ne 5, 3), (32, .iconst 1, 1), (33, .ireturn, 1), (34, .aload_n 0, 1), (35, .getfield 18, 3), (38, .iload_n 3, 1), (39, .iaload, 1), (40, .istore_n 3, 1), (41, .iinc 4 1, 3), (44, .goto (-34), 3), (47, .iconst 0, 1), (48, .ireturn, 1)]
theorem kX1_liesBelow_ok : kX1_liesBelow.all (fun q => decide (decode cX1_liesBelow q.1 = .ok q.2)) = true := by decide +kernel
def kX2_init : List (Nat × Instr × Nat) := [(0, .aload_n 0, 1), (1, .invokespecial 3, 3), (4, .aload_n 0, 1), (5, .bipush 6, 2), (7, .anewarray 9, 3), (10, .putfield 11, 3), (13, .aload_n 0, 1), (14, .iconst 0, 1), (15, .putfield 17, 3), (18, .aload_n 0, 1), (19, .iconst 0, 1), (20, .putfield 21, 3), (23, .iconst 0, 1), (24, .istore_n 1, 1), (25, .iload_n 1, 1), (26, .bipush 6, 2), (28, .if_icmp .ge 22, 3), (31, .aload_n 0, 1), (32, .getfield 11, 3), (35, .iload_n 1, 1), (36, .new 9, 3), (39, .dup, 1), (40, .invokespecial 24, 3), (43, .aastore, 1), (44, .iinc 1 1, 3), (47, .goto (-22), 3), (50, .return_, 1)]
theorem kX2_init_ok : kX2_init.all (fun q => decide (decode cX2_init q.1 = .ok q.2)) = true := by decide +kernel
def kX2_save : List (Nat × Instr × Nat) := [(0, .aload_n 0, 1), (1, .getfield 11, 3), (4, .aload_n 0, 1), (5, .getfield 17, 3), (8, .aaload, 1), (9, .ifnull 16, 3), (12, .aload_n 0, 1), (13, .getfield 11, 3), (16, .aload_n 0, 1), (17, .getfield 17, 3), (20, .aaload, 1), (21, .aload_n 1, 1), (22, .invokevirtual 25, 3), (25, .aload_n 0, 1), (26, .aload_n 0, 1), (27, .getfield 17, 3), (30, .iconst 1, 1), (31, .iadd, 1), (32, .bipush 6, 2), (34, .irem, 1), (35, .putfield 17, 3), (38, .aload_n 0, 1), (39, .aload_n 0, 1), (40, .getfield 21, 3), (43, .iconst 1, 1), (44, .iadd, 1), (45, .bipush 6, 2), (47, .invokestatic 29, 3), (50, .putfield 21, 3), (53, .return_, 1)]
theorem kX2_save_ok : kX2_save.all (fun q => decide (decode cX2_save q.1 = .ok q.2)) = true := by decide +kernel
def kX3_init : List (Nat × Instr × Nat) := [(0, .aload_n 0, 1), (1, .invokespecial 3, 3), (4, .aload_n 0, 1), (5, .sipush 338, 3), (8, .newarray .int, 2), (10, .putfield 9, 3), (13, .aload_n 0, 1), (14, .sipush 169, 3), (17, .newarray .int, 2), (19, .putfield 15, 3), (22, .aload_n 0, 1), (23, .sipush 169, 3), (26, .newarray .int, 2), (28, .putfield 18, 3), (31, .return_, 1)]
theorem kX3_init_ok : kX3_init.all (fun q => decide (decode cX3_init q.1 = .ok q.2)) = true := by decide +kernel
def kX3_fewest : List (Nat × Instr × Nat) := [(0, .iload_n 1, 1), (1, .ifCond .lt 10, 3), (4, .iload_n 1, 1), (5, .sipush 169, 3), (8, .if_icmp .lt 5, 3), (11, .iconst (-1), 1), (12, .ireturn, 1), (13, .iload_n 2, 1), (14, .ifCond .eq 7, 3), (17, .iload_n 1, 1), (18, .goto 8, 3), (21, .sipush 169, 3), (24, .iload_n 1, 1), (25, .iadd, 1), (26, .istore_n 3, 1), (27, .aload_n 0, 1), (28, .getfield 9, 3), (31, .iload_n 3, 1), (32, .iaload, 1), (33, .ifCond .ne 23, 3), (36, .aload_n 0, 1), (37, .getfield 9, 3), (40, .iload_n 3, 1), (41, .aload_n 0, 1), (42, .iload_n 1, 1), (43, .iload_n 2, 1), (44, .ifCond .eq 7, 3), (47, .iconst 0, 1), (48, .goto 4, 3), (51, .iconst 1, 1), (52, .invokevirtual 21, 3), (55, .iastore, 1), (56, .aload_n 0, 1), (57, .getfield 9, 3), (60, .iload_n 3, 1), (61, .iaload, 1), (62, .ireturn, 1)]
theorem kX3_fewest_ok : kX3_fewest.all (fun q => decide (decode cX3_fewest q.1 = .ok q.2)) = true := by decide +kernel
def kX3_search_0 : List (Nat × Instr × Nat) := [(0, .aload_n 0, 1), (1, .getfield 15, 3), (4, .iconst (-1), 1), (5, .invokestatic 25, 3), (8, .aload_n 0, 1), (9, .getfield 15, 3), (12, .iload_n 1, 1), (13, .iconst 0, 1), (14, .iastore, 1), (15, .aload_n 0, 1), (16, .getfield 18, 3), (19, .iconst 0, 1), (20, .iload_n 1, 1), (21, .iastore, 1), (22, .iconst 1, 1), (23, .istore_n 3, 1), (24, .iconst 0, 1), (25, .istore 4, 2), (27, .iload 4, 2), (29, .iload_n 3, 1), (30, .if_icmp .ge 131, 3), (33, .iload 4, 2), (35, .sipush 169, 3), (38, .if_icmp .ge 123, 3), (41, .aload_n 0, 1), (42, .getfield 18, 3), (45, .iload 4, 2), (47, .iaload, 1), (48, .istore 5, 2), (50, .iconst 0, 1), (51, .istore 6, 2), (53, .iload 6, 2), (55, .bipush 72, 2), (57, .if_icmp .ge 98, 3), (60, .iload 5, 2), (62, .iload 6, 2), (64, .bipush 9, 2), (66, .idiv, 1), (67, .iload 6, 2), (69, .bipush 9, 2), (71, .irem, 1), (72, .iconst 1, 1), (73, .iadd, 1), (74, .iload_n 2, 1), (75, .iadd, 1), (76, .invokestatic 31, 3), (79, .istore 7, 2), (81, .iload 7, 2), (83, .bipush 84, 2), (85, .if_icmp .ne 13, 3), (88, .aload_n 0, 1), (89, .getfield 15, 3), (92, .iload 5, 2), (94, .iaload, 1), (95, .iconst 1, 1), (96, .iadd, 1), (97, .ireturn, 1), (98, .iload 7, 2), (100, .iconst (-1), 1), (101, .if_icmp .eq 48, 3)]
theorem kX3_search_0_ok : kX3_search_0.all (fun q => decide (decode cX3_search q.1 = .ok q.2)) = true := by decide +kernel
def kX3_search_1 : List (Nat × Instr × Nat) := [(104, .aload_n 0, 1), (105, .getfield 15, 3), (108, .iload 7, 2), (110, .iaload, 1), (111, .iconst (-1), 1), (112, .if_icmp .ne 37, 3), (115, .iload_n 3, 1), (116, .sipush 169, 3), (119, .if_icmp .ge 30, 3), (122, .aload_n 0, 1), (123, .getfield 15, 3), (126, .iload 7, 2), (128, .aload_n 0, 1), (129, .getfield 15, 3), (132, .iload 5, 2), (134, .iaload, 1), (135, .iconst 1, 1), (136, .iadd, 1), (137, .iastore, 1), (138, .aload_n 0, 1), (139, .getfield 18, 3), (142, .iload_n 3, 1), (143, .iload 7, 2), (145, .iastore, 1), (146, .iinc 3 1, 3), (149, .iinc 6 1, 3), (152, .goto (-99), 3), (155, .iinc 4 1, 3), (158, .goto (-131), 3), (161, .iconst (-1), 1), (162, .ireturn, 1)]
theorem kX3_search_1_ok : kX3_search_1.all (fun q => decide (decode cX3_search q.1 = .ok q.2)) = true := by decide +kernel
def kX4_init : List (Nat × Instr × Nat) := [(0, .aload_n 0, 1), (1, .invokespecial 3, 3), (4, .aload_n 0, 1), (5, .new 9, 3), (8, .dup, 1), (9, .invokespecial 11, 3), (12, .putfield 12, 3), (15, .aload_n 0, 1), (16, .bipush 16, 2), (18, .newarray .int, 2), (20, .putfield 18, 3), (23, .aload_n 0, 1), (24, .iconst 4, 1), (25, .newarray .int, 2), (27, .putfield 22, 3), (30, .aload_n 0, 1), (31, .iconst 4, 1), (32, .newarray .int, 2), (34, .putfield 25, 3), (37, .aload_n 0, 1), (38, .iconst 0, 1), (39, .putfield 28, 3), (42, .aload_n 0, 1), (43, .iconst 0, 1), (44, .putfield 32, 3), (47, .aload_n 0, 1), (48, .iconst 3, 1), (49, .putfield 35, 3), (52, .return_, 1)]
theorem kX4_init_ok : kX4_init.all (fun q => decide (decode cX4_init q.1 = .ok q.2)) = true := by decide +kernel
def kX4_copyFrom : List (Nat × Instr × Nat) := [(0, .aload_n 0, 1), (1, .getfield 12, 3), (4, .aload_n 1, 1), (5, .getfield 12, 3), (8, .invokevirtual 38, 3), (11, .aload_n 1, 1), (12, .getfield 18, 3), (15, .iconst 0, 1), (16, .aload_n 0, 1), (17, .getfield 18, 3), (20, .iconst 0, 1), (21, .bipush 16, 2), (23, .invokestatic 42, 3), (26, .aload_n 1, 1), (27, .getfield 22, 3), (30, .iconst 0, 1), (31, .aload_n 0, 1), (32, .getfield 22, 3), (35, .iconst 0, 1), (36, .iconst 4, 1), (37, .invokestatic 42, 3), (40, .aload_n 1, 1), (41, .getfield 25, 3), (44, .iconst 0, 1), (45, .aload_n 0, 1), (46, .getfield 25, 3), (49, .iconst 0, 1), (50, .iconst 4, 1), (51, .invokestatic 42, 3), (54, .aload_n 0, 1), (55, .aload_n 1, 1), (56, .getfield 28, 3), (59, .putfield 28, 3), (62, .aload_n 0, 1), (63, .aload_n 1, 1), (64, .getfield 32, 3), (67, .putfield 32, 3), (70, .aload_n 0, 1), (71, .aload_n 1, 1), (72, .getfield 35, 3), (75, .putfield 35, 3), (78, .return_, 1)]
theorem kX4_copyFrom_ok : kX4_copyFrom.all (fun q => decide (decode cX4_copyFrom q.1 = .ok q.2)) = true := by decide +kernel
def kX4_whyNotFlown : List (Nat × Instr × Nat) := [(0, .aload_n 0, 1), (1, .getfield 12, 3), (4, .invokevirtual 48, 3), (7, .ifCond .eq 5, 3), (10, .iconst 1, 1), (11, .ireturn, 1), (12, .iload_n 1, 1), (13, .invokestatic 52, 3), (16, .aload_n 0, 1), (17, .getfield 28, 3), (20, .if_icmp .eq 5, 3), (23, .iconst 2, 1), (24, .ireturn, 1), (25, .aload_n 0, 1), (26, .getfield 12, 3), (29, .iload_n 1, 1), (30, .invokevirtual 56, 3), (33, .ifCond .eq 5, 3), (36, .iconst 3, 1), (37, .ireturn, 1), (38, .aload_n 0, 1), (39, .getfield 12, 3), (42, .iload_n 1, 1), (43, .invokevirtual 60, 3), (46, .ifCond .eq 7, 3), (49, .iconst 4, 1), (50, .goto 4, 3), (53, .iconst 0, 1), (54, .ireturn, 1)]
theorem kX4_whyNotFlown_ok : kX4_whyNotFlown.all (fun q => decide (decode cX4_whyNotFlown q.1 = .ok q.2)) = true := by decide +kernel
def kX4_whyNotLifted : List (Nat × Instr × Nat) := [(0, .aload_n 0, 1), (1, .getfield 12, 3), (4, .invokevirtual 48, 3), (7, .ifCond .eq 5, 3), (10, .iconst 1, 1), (11, .ireturn, 1), (12, .iload_n 1, 1), (13, .iload_n 2, 1), (14, .invokestatic 63, 3), (17, .istore 5, 2), (19, .aload_n 0, 1), (20, .getfield 12, 3), (23, .iload 5, 2), (25, .iload_n 3, 1), (26, .invokevirtual 67, 3), (29, .iconst (-1), 1), (30, .if_icmp .ne 5, 3), (33, .iconst 2, 1), (34, .ireturn, 1), (35, .aload_n 0, 1), (36, .getfield 12, 3), (39, .iload 5, 2), (41, .invokevirtual 70, 3), (44, .invokestatic 52, 3), (47, .aload_n 0, 1), (48, .getfield 28, 3), (51, .if_icmp .eq 5, 3), (54, .iconst 3, 1), (55, .ireturn, 1), (56, .iload_n 3, 1), (57, .aload_n 0, 1), (58, .getfield 35, 3), (61, .if_icmp .le 5, 3), (64, .iconst 4, 1), (65, .ireturn, 1), (66, .iload_n 1, 1), (67, .iload_n 2, 1), (68, .iload 4, 2), (70, .invokestatic 73, 3), (73, .iconst (-1), 1), (74, .if_icmp .ne 7, 3), (77, .iconst 5, 1), (78, .goto 4, 3), (81, .iconst 0, 1), (82, .ireturn, 1)]
theorem kX4_whyNotLifted_ok : kX4_whyNotLifted.all (fun q => decide (decode cX4_whyNotLifted q.1 = .ok q.2)) = true := by decide +kernel
def kX4_carryOutFlight_0 : List (Nat × Instr × Nat) := [(0, .iload_n 1, 1), (1, .invokestatic 52, 3), (4, .istore 4, 2), (6, .aload_n 0, 1), (7, .getfield 12, 3), (10, .getfield 77, 3), (13, .iload_n 1, 1), (14, .iaload, 1), (15, .iload_n 2, 1), (16, .iload_n 1, 1), (17, .iload_n 3, 1), (18, .invokestatic 80, 3), (21, .invokestatic 83, 3), (24, .istore 5, 2), (26, .aload_n 0, 1), (27, .getfield 12, 3), (30, .iload_n 1, 1), (31, .iload_n 1, 1), (32, .iload 5, 2), (34, .invokestatic 86, 3), (37, .invokevirtual 89, 3), (40, .aload_n 0, 1), (41, .getfield 18, 3), (44, .iload_n 1, 1), (45, .dup2, 1), (46, .iaload, 1), (47, .iconst 1, 1), (48, .iadd, 1), (49, .iastore, 1), (50, .iload 5, 2), (52, .iconst (-1), 1), (53, .if_icmp .ne 25, 3), (56, .aload_n 0, 1), (57, .getfield 22, 3), (60, .iload 4, 2), (62, .dup2, 1), (63, .iaload, 1), (64, .iconst 1, 1), (65, .iadd, 1), (66, .iastore, 1), (67, .aload_n 0, 1), (68, .getfield 25, 3), (71, .iload 4, 2), (73, .dup2, 1), (74, .iaload, 1), (75, .iconst 1, 1), (76, .iadd, 1), (77, .iastore, 1), (78, .iload 5, 2), (80, .bipush 84, 2), (82, .if_icmp .ne 15, 3), (85, .aload_n 0, 1), (86, .getfield 12, 3), (89, .iload 4, 2), (91, .invokevirtual 93, 3), (94, .ifCond .eq 7, 3), (97, .aload_n 0, 1), (98, .invokevirtual 96, 3), (101, .iload 5, 2), (103, .invokestatic 99, 3)]
theorem kX4_carryOutFlight_0_ok : kX4_carryOutFlight_0.all (fun q => decide (decode cX4_carryOutFlight q.1 = .ok q.2)) = true := by decide +kernel
def kX4_carryOutFlight_1 : List (Nat × Instr × Nat) := [(106, .ireturn, 1)]
theorem kX4_carryOutFlight_1_ok : kX4_carryOutFlight_1.all (fun q => decide (decode cX4_carryOutFlight q.1 = .ok q.2)) = true := by decide +kernel
def kX4_carryOutLift : List (Nat × Instr × Nat) := [(0, .aload_n 0, 1), (1, .getfield 12, 3), (4, .iload_n 1, 1), (5, .iload_n 2, 1), (6, .invokestatic 63, 3), (9, .iload_n 3, 1), (10, .invokevirtual 67, 3), (13, .istore 5, 2), (15, .iload 5, 2), (17, .invokestatic 102, 3), (20, .ifCond .eq 19, 3), (23, .aload_n 0, 1), (24, .getfield 12, 3), (27, .iload 5, 2), (29, .iload_n 1, 1), (30, .iload_n 2, 1), (31, .iload 4, 2), (33, .invokestatic 73, 3), (36, .invokevirtual 89, 3), (39, .aload_n 0, 1), (40, .dup, 1), (41, .getfield 32, 3), (44, .iconst 1, 1), (45, .iadd, 1), (46, .putfield 32, 3), (49, .aload_n 0, 1), (50, .invokevirtual 96, 3), (53, .return_, 1)]
theorem kX4_carryOutLift_ok : kX4_carryOutLift.all (fun q => decide (decode cX4_carryOutLift q.1 = .ok q.2)) = true := by decide +kernel
def kX4_passTurn : List (Nat × Instr × Nat) := [(0, .aload_n 0, 1), (1, .getfield 28, 3), (4, .istore_n 1, 1), (5, .iconst 0, 1), (6, .istore_n 2, 1), (7, .iload_n 2, 1), (8, .bipush 8, 2), (10, .if_icmp .ge 54, 3), (13, .iload_n 1, 1), (14, .iconst 1, 1), (15, .iadd, 1), (16, .iconst 4, 1), (17, .irem, 1), (18, .istore_n 1, 1), (19, .aload_n 0, 1), (20, .getfield 12, 3), (23, .iload_n 1, 1), (24, .invokevirtual 93, 3), (27, .ifCond .eq 6, 3), (30, .goto 28, 3), (33, .aload_n 0, 1), (34, .getfield 25, 3), (37, .iload_n 1, 1), (38, .iaload, 1), (39, .ifCond .ne 9, 3), (42, .aload_n 0, 1), (43, .iload_n 1, 1), (44, .putfield 28, 3), (47, .return_, 1), (48, .aload_n 0, 1), (49, .getfield 25, 3), (52, .iload_n 1, 1), (53, .dup2, 1), (54, .iaload, 1), (55, .iconst 1, 1), (56, .isub, 1), (57, .iastore, 1), (58, .iinc 2 1, 3), (61, .goto (-54), 3), (64, .return_, 1)]
theorem kX4_passTurn_ok : kX4_passTurn.all (fun q => decide (decode cX4_passTurn q.1 = .ok q.2)) = true := by decide +kernel
def kX4_allFlights : List (Nat × Instr × Nat) := [(0, .iconst 0, 1), (1, .istore_n 1, 1), (2, .iconst 0, 1), (3, .istore_n 2, 1), (4, .iload_n 2, 1), (5, .bipush 16, 2), (7, .if_icmp .ge 18, 3), (10, .iload_n 1, 1), (11, .aload_n 0, 1), (12, .getfield 18, 3), (15, .iload_n 2, 1), (16, .iaload, 1), (17, .iadd, 1), (18, .istore_n 1, 1), (19, .iinc 2 1, 3), (22, .goto (-18), 3), (25, .iload_n 1, 1), (26, .ireturn, 1)]
theorem kX4_allFlights_ok : kX4_allFlights.all (fun q => decide (decode cX4_allFlights q.1 = .ok q.2)) = true := by decide +kernel
def kX4_allFouls : List (Nat × Instr × Nat) := [(0, .iconst 0, 1), (1, .istore_n 1, 1), (2, .iconst 0, 1), (3, .istore_n 2, 1), (4, .iload_n 2, 1), (5, .iconst 4, 1), (6, .if_icmp .ge 18, 3), (9, .iload_n 1, 1), (10, .aload_n 0, 1), (11, .getfield 22, 3), (14, .iload_n 2, 1), (15, .iaload, 1), (16, .iadd, 1), (17, .istore_n 1, 1), (18, .iinc 2 1, 3), (21, .goto (-17), 3), (24, .iload_n 1, 1), (25, .ireturn, 1)]
theorem kX4_allFouls_ok : kX4_allFouls.all (fun q => decide (decode cX4_allFouls q.1 = .ok q.2)) = true := by decide +kernel
def kX5_init : List (Nat × Instr × Nat) := [(0, .aload_n 0, 1), (1, .invokespecial 1, 3), (4, .aload_n 0, 1), (5, .new 7, 3), (8, .dup, 1), (9, .invokespecial 9, 3), (12, .putfield 10, 3), (15, .aload_n 0, 1), (16, .new 7, 3), (19, .dup, 1), (20, .invokespecial 9, 3), (23, .putfield 16, 3), (26, .aload_n 0, 1), (27, .new 19, 3), (30, .dup, 1), (31, .invokespecial 21, 3), (34, .putfield 22, 3), (37, .aload_n 0, 1), (38, .new 26, 3), (41, .dup, 1), (42, .invokespecial 28, 3), (45, .putfield 29, 3), (48, .aload_n 0, 1), (49, .new 33, 3), (52, .dup, 1), (53, .invokespecial 35, 3), (56, .putfield 36, 3), (59, .aload_n 0, 1), (60, .new 40, 3), (63, .dup, 1), (64, .invokespecial 42, 3), (67, .putfield 43, 3), (70, .aload_n 0, 1), (71, .iconst 0, 1), (72, .putfield 47, 3), (75, .return_, 1)]
theorem kX5_init_ok : kX5_init.all (fun q => decide (decode cX5_init q.1 = .ok q.2)) = true := by decide +kernel
def kX5_fly : List (Nat × Instr × Nat) := [(0, .iload_n 1, 1), (1, .invokestatic 51, 3), (4, .iload_n 2, 1), (5, .iload_n 3, 1), (6, .invokestatic 55, 3), (9, .aload_n 0, 1), (10, .getfield 10, 3), (13, .iload_n 1, 1), (14, .invokevirtual 59, 3), (17, .ifCond .eq 13, 3), (20, .new 63, 3), (23, .dup, 1), (24, .ldc 65, 2), (26, .invokespecial 67, 3), (29, .athrow, 1), (30, .aload_n 0, 1), (31, .getfield 22, 3), (34, .aload_n 0, 1), (35, .getfield 10, 3), (38, .invokevirtual 70, 3), (41, .aload_n 0, 1), (42, .getfield 10, 3), (45, .iload_n 1, 1), (46, .iload_n 2, 1), (47, .iload_n 3, 1), (48, .invokevirtual 74, 3), (51, .ireturn, 1)]
theorem kX5_fly_ok : kX5_fly.all (fun q => decide (decode cX5_fly q.1 = .ok q.2)) = true := by decide +kernel
def kX5_lift : List (Nat × Instr × Nat) := [(0, .iload_n 1, 1), (1, .iload_n 2, 1), (2, .invokestatic 78, 3), (5, .iload_n 3, 1), (6, .iload 4, 2), (8, .invokestatic 81, 3), (11, .aload_n 0, 1), (12, .getfield 10, 3), (15, .iload_n 1, 1), (16, .iload_n 2, 1), (17, .iload_n 3, 1), (18, .iload 4, 2), (20, .invokevirtual 84, 3), (23, .ifCond .eq 13, 3), (26, .new 63, 3), (29, .dup, 1), (30, .ldc 88, 2), (32, .invokespecial 67, 3), (35, .athrow, 1), (36, .aload_n 0, 1), (37, .getfield 22, 3), (40, .aload_n 0, 1), (41, .getfield 10, 3), (44, .invokevirtual 70, 3), (47, .aload_n 0, 1), (48, .getfield 10, 3), (51, .iload_n 1, 1), (52, .iload_n 2, 1), (53, .iload_n 3, 1), (54, .iload 4, 2), (56, .invokevirtual 90, 3), (59, .aload_n 0, 1), (60, .getfield 10, 3), (63, .getfield 94, 3), (66, .iload_n 1, 1), (67, .iload_n 2, 1), (68, .invokestatic 97, 3), (71, .invokevirtual 101, 3), (74, .ireturn, 1)]
theorem kX5_lift_ok : kX5_lift.all (fun q => decide (decode cX5_lift q.1 = .ok q.2)) = true := by decide +kernel
def kX5_set : List (Nat × Instr × Nat) := [(0, .iload_n 1, 1), (1, .iconst 1, 1), (2, .if_icmp .lt 9, 3), (5, .iload_n 1, 1), (6, .bipush 6, 2), (8, .if_icmp .le 13, 3), (11, .new 104, 3), (14, .dup, 1), (15, .ldc 106, 2), (17, .invokespecial 108, 3), (20, .athrow, 1), (21, .aload_n 0, 1), (22, .getfield 22, 3), (25, .aload_n 0, 1), (26, .getfield 10, 3), (29, .invokevirtual 70, 3), (32, .aload_n 0, 1), (33, .getfield 10, 3), (36, .getfield 109, 3), (39, .istore_n 2, 1), (40, .aload_n 0, 1), (41, .getfield 10, 3), (44, .iload_n 1, 1), (45, .putfield 109, 3), (48, .iload_n 2, 1), (49, .ireturn, 1)]
theorem kX5_set_ok : kX5_set.all (fun q => decide (decode cX5_set q.1 = .ok q.2)) = true := by decide +kernel
def kX5_put : List (Nat × Instr × Nat) := [(0, .iload_n 1, 1), (1, .invokestatic 51, 3), (4, .iload_n 2, 1), (5, .iload_n 3, 1), (6, .invokestatic 78, 3), (9, .aload_n 0, 1), (10, .getfield 10, 3), (13, .getfield 94, 3), (16, .invokevirtual 113, 3), (19, .ifCond .ne 17, 3), (22, .aload_n 0, 1), (23, .getfield 10, 3), (26, .getfield 94, 3), (29, .iload_n 1, 1), (30, .invokevirtual 117, 3), (33, .ifCond .eq 13, 3), (36, .new 63, 3), (39, .dup, 1), (40, .ldc 121, 2), (42, .invokespecial 67, 3), (45, .athrow, 1), (46, .aload_n 0, 1), (47, .getfield 22, 3), (50, .aload_n 0, 1), (51, .getfield 10, 3), (54, .invokevirtual 70, 3), (57, .iload_n 2, 1), (58, .iload_n 3, 1), (59, .invokestatic 97, 3), (62, .istore 4, 2), (64, .aload_n 0, 1), (65, .getfield 10, 3), (68, .getfield 94, 3), (71, .iload_n 1, 1), (72, .iload 4, 2), (74, .invokevirtual 123, 3), (77, .aload_n 0, 1), (78, .getfield 10, 3), (81, .getfield 94, 3), (84, .iload 4, 2), (86, .invokevirtual 101, 3), (89, .ireturn, 1)]
theorem kX5_put_ok : kX5_put.all (fun q => decide (decode cX5_put q.1 = .ok q.2)) = true := by decide +kernel
def kX5_wink : List (Nat × Instr × Nat) := [(0, .iload_n 1, 1), (1, .invokestatic 51, 3), (4, .iload_n 2, 1), (5, .tableswitch 125 0 6 #[43, 48, 61, 74, 86, 106, 116], 43), (48, .iload_n 1, 1), (49, .invokestatic 164, 3), (52, .ireturn, 1), (53, .iload_n 1, 1), (54, .invokestatic 167, 3), (57, .ifCond .eq 7, 3), (60, .iconst 1, 1), (61, .goto 4, 3), (64, .iconst 0, 1), (65, .ireturn, 1), (66, .aload_n 0, 1), (67, .getfield 10, 3), (70, .getfield 94, 3), (73, .getfield 170, 3), (76, .iload_n 1, 1), (77, .iaload, 1), (78, .ireturn, 1), (79, .aload_n 0, 1), (80, .getfield 10, 3), (83, .getfield 94, 3), (86, .iload_n 1, 1), (87, .invokevirtual 174, 3), (90, .ireturn, 1), (91, .aload_n 0, 1), (92, .getfield 10, 3), (95, .getfield 94, 3), (98, .iload_n 1, 1), (99, .invokevirtual 117, 3), (102, .ifCond .eq 7, 3), (105, .iconst 1, 1), (106, .goto 4, 3), (109, .iconst 0, 1), (110, .ireturn, 1), (111, .aload_n 0, 1), (112, .getfield 10, 3), (115, .getfield 177, 3), (118, .iload_n 1, 1), (119, .iaload, 1), (120, .ireturn, 1), (121, .aload_n 0, 1), (122, .getfield 10, 3), (125, .iload_n 1, 1), (126, .invokevirtual 59, 3), (129, .ireturn, 1), (130, .new 104, 3), (133, .dup, 1), (134, .ldc 180, 2), (136, .invokespecial 108, 3), (139, .athrow, 1)]
theorem kX5_wink_ok : kX5_wink.all (fun q => decide (decode cX5_wink q.1 = .ok q.2)) = true := by decide +kernel
def kX5_pile : List (Nat × Instr × Nat) := [(0, .iload_n 1, 1), (1, .iload_n 2, 1), (2, .invokestatic 78, 3), (5, .iload_n 1, 1), (6, .iload_n 2, 1), (7, .invokestatic 97, 3), (10, .istore 4, 2), (12, .iload_n 3, 1), (13, .tableswitch 83 0 3 #[31, 44, 57, 70], 31), (44, .aload_n 0, 1), (45, .getfield 10, 3), (48, .getfield 94, 3), (51, .iload 4, 2), (53, .invokevirtual 101, 3), (56, .ireturn, 1), (57, .aload_n 0, 1), (58, .getfield 10, 3), (61, .getfield 94, 3), (64, .iload 4, 2), (66, .invokevirtual 182, 3), (69, .ireturn, 1), (70, .aload_n 0, 1), (71, .getfield 10, 3), (74, .getfield 94, 3), (77, .iload 4, 2), (79, .invokevirtual 185, 3), (82, .ireturn, 1), (83, .aload_n 0, 1), (84, .getfield 10, 3), (87, .getfield 94, 3), (90, .iload 4, 2), (92, .invokevirtual 188, 3), (95, .ireturn, 1), (96, .new 104, 3), (99, .dup, 1), (100, .ldc 191, 2), (102, .invokespecial 108, 3), (105, .athrow, 1)]
theorem kX5_pile_ok : kX5_pile.all (fun q => decide (decode cX5_pile q.1 = .ok q.2)) = true := by decide +kernel
def kX5_colour_0 : List (Nat × Instr × Nat) := [(0, .iload_n 1, 1), (1, .invokestatic 193, 3), (4, .ifCond .ne 13, 3), (7, .new 196, 3), (10, .dup, 1), (11, .ldc 198, 2), (13, .invokespecial 200, 3), (16, .athrow, 1), (17, .iload_n 2, 1), (18, .tableswitch 136 0 6 #[42, 54, 66, 92, 104, 114, 124], 42), (60, .aload_n 0, 1), (61, .getfield 10, 3), (64, .getfield 94, 3), (67, .iload_n 1, 1), (68, .invokevirtual 201, 3), (71, .ireturn, 1), (72, .aload_n 0, 1), (73, .getfield 10, 3), (76, .getfield 94, 3), (79, .iload_n 1, 1), (80, .invokevirtual 204, 3), (83, .ireturn, 1), (84, .iconst 4, 1), (85, .aload_n 0, 1), (86, .getfield 10, 3), (89, .getfield 94, 3), (92, .iload_n 1, 1), (93, .invokevirtual 201, 3), (96, .isub, 1), (97, .aload_n 0, 1), (98, .getfield 10, 3), (101, .getfield 94, 3), (104, .iload_n 1, 1), (105, .invokevirtual 204, 3), (108, .isub, 1), (109, .ireturn, 1), (110, .aload_n 0, 1), (111, .getfield 10, 3), (114, .getfield 94, 3), (117, .iload_n 1, 1), (118, .invokevirtual 207, 3), (121, .ireturn, 1), (122, .aload_n 0, 1), (123, .getfield 10, 3), (126, .getfield 210, 3), (129, .iload_n 1, 1), (130, .iaload, 1), (131, .ireturn, 1), (132, .aload_n 0, 1), (133, .getfield 10, 3), (136, .getfield 213, 3), (139, .iload_n 1, 1), (140, .iaload, 1), (141, .ireturn, 1), (142, .aload_n 0, 1), (143, .getfield 10, 3), (146, .getfield 94, 3), (149, .iload_n 1, 1), (150, .invokevirtual 216, 3), (153, .ireturn, 1)]
theorem kX5_colour_0_ok : kX5_colour_0.all (fun q => decide (decode cX5_colour q.1 = .ok q.2)) = true := by decide +kernel
def kX5_colour_1 : List (Nat × Instr × Nat) := [(154, .new 104, 3), (157, .dup, 1), (158, .ldc 180, 2), (160, .invokespecial 108, 3), (163, .athrow, 1)]
theorem kX5_colour_1_ok : kX5_colour_1.all (fun q => decide (decode cX5_colour q.1 = .ok q.2)) = true := by decide +kernel
def kX5_count_0 : List (Nat × Instr × Nat) := [(0, .iload_n 1, 1), (1, .tableswitch 234 0 13 #[71, 96, 115, 126, 137, 148, 159, 170, 178, 186, 194, 206, 218, 226], 71), (72, .aload_n 0, 1), (73, .getfield 10, 3), (76, .getfield 94, 3), (79, .invokevirtual 113, 3), (82, .ifCond .eq 7, 3), (85, .iconst (-1), 1), (86, .goto 10, 3), (89, .aload_n 0, 1), (90, .getfield 10, 3), (93, .getfield 219, 3), (96, .ireturn, 1), (97, .aload_n 0, 1), (98, .getfield 10, 3), (101, .getfield 94, 3), (104, .invokevirtual 113, 3), (107, .ifCond .eq 7, 3), (110, .iconst 1, 1), (111, .goto 4, 3), (114, .iconst 0, 1), (115, .ireturn, 1), (116, .aload_n 0, 1), (117, .getfield 10, 3), (120, .getfield 94, 3), (123, .invokevirtual 151, 3), (126, .ireturn, 1), (127, .aload_n 0, 1), (128, .getfield 10, 3), (131, .getfield 94, 3), (134, .invokevirtual 222, 3), (137, .ireturn, 1), (138, .aload_n 0, 1), (139, .getfield 10, 3), (142, .getfield 94, 3), (145, .invokevirtual 225, 3), (148, .ireturn, 1), (149, .aload_n 0, 1), (150, .getfield 10, 3), (153, .getfield 94, 3), (156, .invokevirtual 228, 3), (159, .ireturn, 1), (160, .aload_n 0, 1), (161, .getfield 10, 3), (164, .getfield 94, 3), (167, .invokevirtual 231, 3), (170, .ireturn, 1), (171, .aload_n 0, 1), (172, .getfield 10, 3), (175, .invokevirtual 234, 3), (178, .ireturn, 1), (179, .aload_n 0, 1), (180, .getfield 10, 3), (183, .getfield 237, 3), (186, .ireturn, 1), (187, .aload_n 0, 1), (188, .getfield 10, 3), (191, .invokevirtual 240, 3), (194, .ireturn, 1), (195, .aload_n 0, 1)]
theorem kX5_count_0_ok : kX5_count_0.all (fun q => decide (decode cX5_count q.1 = .ok q.2)) = true := by decide +kernel
def kX5_count_1 : List (Nat × Instr × Nat) := [(196, .getfield 10, 3), (199, .getfield 94, 3), (202, .iconst 0, 1), (203, .invokevirtual 243, 3), (206, .ireturn, 1), (207, .aload_n 0, 1), (208, .getfield 10, 3), (211, .getfield 94, 3), (214, .iconst 1, 1), (215, .invokevirtual 243, 3), (218, .ireturn, 1), (219, .aload_n 0, 1), (220, .getfield 10, 3), (223, .getfield 109, 3), (226, .ireturn, 1), (227, .aload_n 0, 1), (228, .getfield 22, 3), (231, .getfield 156, 3), (234, .ireturn, 1), (235, .new 104, 3), (238, .dup, 1), (239, .ldc 246, 2), (241, .invokespecial 108, 3), (244, .athrow, 1)]
theorem kX5_count_1_ok : kX5_count_1.all (fun q => decide (decode cX5_count q.1 = .ok q.2)) = true := by decide +kernel
def kX5_why : List (Nat × Instr × Nat) := [(0, .iload_n 1, 1), (1, .iload_n 2, 1), (2, .invokestatic 78, 3), (5, .iload_n 3, 1), (6, .iload 4, 2), (8, .invokestatic 81, 3), (11, .aload_n 0, 1), (12, .getfield 10, 3), (15, .iload_n 1, 1), (16, .iload_n 2, 1), (17, .iload_n 3, 1), (18, .iload 4, 2), (20, .invokevirtual 84, 3), (23, .ireturn, 1)]
theorem kX5_why_ok : kX5_why.all (fun q => decide (decode cX5_why q.1 = .ok q.2)) = true := by decide +kernel
def kX5_lands : List (Nat × Instr × Nat) := [(0, .iload_n 1, 1), (1, .invokestatic 51, 3), (4, .iload_n 2, 1), (5, .iload_n 3, 1), (6, .invokestatic 55, 3), (9, .aload_n 0, 1), (10, .getfield 10, 3), (13, .getfield 94, 3), (16, .iload_n 1, 1), (17, .invokevirtual 248, 3), (20, .ifCond .eq 6, 3), (23, .bipush (-2), 2), (25, .ireturn, 1), (26, .aload_n 0, 1), (27, .getfield 10, 3), (30, .getfield 94, 3), (33, .getfield 170, 3), (36, .iload_n 1, 1), (37, .iaload, 1), (38, .iload_n 2, 1), (39, .iload_n 1, 1), (40, .iload_n 3, 1), (41, .invokestatic 251, 3), (44, .invokestatic 254, 3), (47, .invokestatic 257, 3), (50, .ireturn, 1)]
theorem kX5_lands_ok : kX5_lands.all (fun q => decide (decode cX5_lands q.1 = .ok q.2)) = true := by decide +kernel
def kX5_ifFlown : List (Nat × Instr × Nat) := [(0, .iload_n 1, 1), (1, .invokestatic 51, 3), (4, .iload_n 2, 1), (5, .iload_n 3, 1), (6, .invokestatic 55, 3), (9, .iload 4, 2), (11, .ifCond .lt 9, 3), (14, .iload 4, 2), (16, .iconst 1, 1), (17, .if_icmp .le 14, 3), (20, .new 104, 3), (23, .dup, 1), (24, .ldc_w 260, 3), (27, .invokespecial 108, 3), (30, .athrow, 1), (31, .aload_n 0, 1), (32, .getfield 10, 3), (35, .iload_n 1, 1), (36, .invokevirtual 59, 3), (39, .ifCond .eq 7, 3), (42, .sipush (-1000), 3), (45, .ireturn, 1), (46, .aload_n 0, 1), (47, .iload_n 1, 1), (48, .iload_n 2, 1), (49, .iload_n 3, 1), (50, .invokevirtual 262, 3), (53, .iload 4, 2), (55, .ifCond .ne 17, 3), (58, .aload_n 0, 1), (59, .getfield 36, 3), (62, .iload_n 1, 1), (63, .invokestatic 266, 3), (66, .invokevirtual 269, 3), (69, .goto 16, 3), (72, .aload_n 0, 1), (73, .getfield 36, 3), (76, .iconst 1, 1), (77, .iload_n 1, 1), (78, .invokestatic 266, 3), (81, .isub, 1), (82, .invokevirtual 272, 3), (85, .ireturn, 1)]
theorem kX5_ifFlown_ok : kX5_ifFlown.all (fun q => decide (decode cX5_ifFlown q.1 = .ok q.2)) = true := by decide +kernel
def kX5_flightsTo : List (Nat × Instr × Nat) := [(0, .iload_n 1, 1), (1, .invokestatic 51, 3), (4, .aload_n 0, 1), (5, .getfield 10, 3), (8, .getfield 94, 3), (11, .iload_n 1, 1), (12, .invokevirtual 248, 3), (15, .ifCond .eq 7, 3), (18, .iconst 0, 1), (19, .goto 26, 3), (22, .aload_n 0, 1), (23, .getfield 43, 3), (26, .aload_n 0, 1), (27, .getfield 10, 3), (30, .getfield 94, 3), (33, .getfield 170, 3), (36, .iload_n 1, 1), (37, .iaload, 1), (38, .iload_n 1, 1), (39, .invokestatic 167, 3), (42, .invokevirtual 275, 3), (45, .ireturn, 1)]
theorem kX5_flightsTo_ok : kX5_flightsTo.all (fun q => decide (decode cX5_flightsTo q.1 = .ok q.2)) = true := by decide +kernel
def kX5_tryFlight : List (Nat × Instr × Nat) := [(0, .aload_n 0, 1), (1, .getfield 36, 3), (4, .aload_n 0, 1), (5, .getfield 10, 3), (8, .getfield 94, 3), (11, .invokevirtual 340, 3), (14, .aload_n 0, 1), (15, .getfield 36, 3), (18, .getfield 170, 3), (21, .iload_n 1, 1), (22, .iaload, 1), (23, .iload_n 2, 1), (24, .iload_n 1, 1), (25, .iload_n 3, 1), (26, .invokestatic 251, 3), (29, .invokestatic 254, 3), (32, .istore 4, 2), (34, .aload_n 0, 1), (35, .getfield 36, 3), (38, .iload_n 1, 1), (39, .iload_n 1, 1), (40, .iload 4, 2), (42, .invokestatic 343, 3), (45, .invokevirtual 123, 3), (48, .return_, 1)]
theorem kX5_tryFlight_ok : kX5_tryFlight.all (fun q => decide (decode cX5_tryFlight q.1 = .ok q.2)) = true := by decide +kernel
def kX5_requireWink : List (Nat × Instr × Nat) := [(0, .iload_n 0, 1), (1, .invokestatic 352, 3), (4, .ifCond .ne 14, 3), (7, .new 196, 3), (10, .dup, 1), (11, .ldc_w 355, 3), (14, .invokespecial 200, 3), (17, .athrow, 1), (18, .return_, 1)]
theorem kX5_requireWink_ok : kX5_requireWink.all (fun q => decide (decode cX5_requireWink q.1 = .ok q.2)) = true := by decide +kernel
def kX5_requireCell : List (Nat × Instr × Nat) := [(0, .iload_n 0, 1), (1, .iload_n 1, 1), (2, .invokestatic 357, 3), (5, .ifCond .ne 14, 3), (8, .new 196, 3), (11, .dup, 1), (12, .ldc_w 361, 3), (15, .invokespecial 200, 3), (18, .athrow, 1), (19, .return_, 1)]
theorem kX5_requireCell_ok : kX5_requireCell.all (fun q => decide (decode cX5_requireCell q.1 = .ok q.2)) = true := by decide +kernel
def kX5_requireFlight : List (Nat × Instr × Nat) := [(0, .iload_n 0, 1), (1, .invokestatic 363, 3), (4, .iload_n 1, 1), (5, .iconst 1, 1), (6, .if_icmp .lt 9, 3), (9, .iload_n 1, 1), (10, .bipush 9, 2), (12, .if_icmp .le 14, 3), (15, .new 104, 3), (18, .dup, 1), (19, .ldc_w 366, 3), (22, .invokespecial 108, 3), (25, .athrow, 1), (26, .return_, 1)]
theorem kX5_requireFlight_ok : kX5_requireFlight.all (fun q => decide (decode cX5_requireFlight q.1 = .ok q.2)) = true := by decide +kernel
def kX5_requireLift : List (Nat × Instr × Nat) := [(0, .iload_n 0, 1), (1, .iconst 1, 1), (2, .if_icmp .lt 9, 3), (5, .iload_n 0, 1), (6, .bipush 6, 2), (8, .if_icmp .le 14, 3), (11, .new 104, 3), (14, .dup, 1), (15, .ldc_w 368, 3), (18, .invokespecial 108, 3), (21, .athrow, 1), (22, .iload_n 1, 1), (23, .invokestatic 363, 3), (26, .return_, 1)]
theorem kX5_requireLift_ok : kX5_requireLift.all (fun q => decide (decode cX5_requireLift q.1 = .ok q.2)) = true := by decide +kernel
def kX5_requireDirection : List (Nat × Instr × Nat) := [(0, .iload_n 0, 1), (1, .ifCond .lt 9, 3), (4, .iload_n 0, 1), (5, .bipush 8, 2), (7, .if_icmp .lt 14, 3), (10, .new 104, 3), (13, .dup, 1), (14, .ldc_w 370, 3), (17, .invokespecial 108, 3), (20, .athrow, 1), (21, .return_, 1)]
theorem kX5_requireDirection_ok : kX5_requireDirection.all (fun q => decide (decode cX5_requireDirection q.1 = .ok q.2)) = true := by decide +kernel
def kX5_isWink : List (Nat × Instr × Nat) := [(0, .iload_n 0, 1), (1, .ifCond .lt 13, 3), (4, .iload_n 0, 1), (5, .bipush 16, 2), (7, .if_icmp .ge 7, 3), (10, .iconst 1, 1), (11, .goto 4, 3), (14, .iconst 0, 1), (15, .ireturn, 1)]
theorem kX5_isWink_ok : kX5_isWink.all (fun q => decide (decode cX5_isWink q.1 = .ok q.2)) = true := by decide +kernel
def kX5_isColour : List (Nat × Instr × Nat) := [(0, .iload_n 0, 1), (1, .ifCond .lt 12, 3), (4, .iload_n 0, 1), (5, .iconst 4, 1), (6, .if_icmp .ge 7, 3), (9, .iconst 1, 1), (10, .goto 4, 3), (13, .iconst 0, 1), (14, .ireturn, 1)]
theorem kX5_isColour_ok : kX5_isColour.all (fun q => decide (decode cX5_isColour q.1 = .ok q.2)) = true := by decide +kernel
def kX5_isOnMat : List (Nat × Instr × Nat) := [(0, .iload_n 0, 1), (1, .ifCond .lt 23, 3), (4, .iload_n 0, 1), (5, .bipush 13, 2), (7, .if_icmp .ge 17, 3), (10, .iload_n 1, 1), (11, .ifCond .lt 13, 3), (14, .iload_n 1, 1), (15, .bipush 13, 2), (17, .if_icmp .ge 7, 3), (20, .iconst 1, 1), (21, .goto 4, 3), (24, .iconst 0, 1), (25, .ireturn, 1)]
theorem kX5_isOnMat_ok : kX5_isOnMat.all (fun q => decide (decode cX5_isOnMat q.1 = .ok q.2)) = true := by decide +kernel
def kX5_colourOf : List (Nat × Instr × Nat) := [(0, .iload_n 0, 1), (1, .iconst 4, 1), (2, .idiv, 1), (3, .ireturn, 1)]
theorem kX5_colourOf_ok : kX5_colourOf.all (fun q => decide (decode cX5_colourOf q.1 = .ok q.2)) = true := by decide +kernel
def kX5_teamOf : List (Nat × Instr × Nat) := [(0, .iload_n 0, 1), (1, .invokestatic 164, 3), (4, .iconst 2, 1), (5, .irem, 1), (6, .ireturn, 1)]
theorem kX5_teamOf_ok : kX5_teamOf.all (fun q => decide (decode cX5_teamOf q.1 = .ok q.2)) = true := by decide +kernel
def kX5_isLarge : List (Nat × Instr × Nat) := [(0, .iload_n 0, 1), (1, .iconst 4, 1), (2, .irem, 1), (3, .iconst 2, 1), (4, .if_icmp .ge 7, 3), (7, .iconst 1, 1), (8, .goto 4, 3), (11, .iconst 0, 1), (12, .ireturn, 1)]
theorem kX5_isLarge_ok : kX5_isLarge.all (fun q => decide (decode cX5_isLarge q.1 = .ok q.2)) = true := by decide +kernel
def kX5_stepsOf : List (Nat × Instr × Nat) := [(0, .iload_n 0, 1), (1, .invokestatic 167, 3), (4, .ifCond .eq 7, 3), (7, .iload_n 1, 1), (8, .goto 6, 3), (11, .iload_n 1, 1), (12, .iconst 1, 1), (13, .iadd, 1), (14, .ireturn, 1)]
theorem kX5_stepsOf_ok : kX5_stepsOf.all (fun q => decide (decode cX5_stepsOf q.1 = .ok q.2)) = true := by decide +kernel
def kX5_cellAt : List (Nat × Instr × Nat) := [(0, .bipush 13, 2), (2, .iload_n 1, 1), (3, .imul, 1), (4, .iload_n 0, 1), (5, .iadd, 1), (6, .ireturn, 1)]
theorem kX5_cellAt_ok : kX5_cellAt.all (fun q => decide (decode cX5_cellAt q.1 = .ok q.2)) = true := by decide +kernel
def kX5_baseOf : List (Nat × Instr × Nat) := [(0, .iload_n 0, 1), (1, .tableswitch 48 0 2 #[27, 33, 40], 27), (28, .iconst 0, 1), (29, .iconst 0, 1), (30, .invokestatic 97, 3), (33, .ireturn, 1), (34, .bipush 12, 2), (36, .iconst 0, 1), (37, .invokestatic 97, 3), (40, .ireturn, 1), (41, .bipush 12, 2), (43, .bipush 12, 2), (45, .invokestatic 97, 3), (48, .ireturn, 1), (49, .iconst 0, 1), (50, .bipush 12, 2), (52, .invokestatic 97, 3), (55, .ireturn, 1)]
theorem kX5_baseOf_ok : kX5_baseOf.all (fun q => decide (decode cX5_baseOf q.1 = .ok q.2)) = true := by decide +kernel
def kX5_eastOf : List (Nat × Instr × Nat) := [(0, .iload_n 0, 1), (1, .iconst 1, 1), (2, .if_icmp .lt 12, 3), (5, .iload_n 0, 1), (6, .iconst 3, 1), (7, .if_icmp .gt 7, 3), (10, .iconst 1, 1), (11, .goto 13, 3), (14, .iload_n 0, 1), (15, .iconst 5, 1), (16, .if_icmp .lt 7, 3), (19, .iconst (-1), 1), (20, .goto 4, 3), (23, .iconst 0, 1), (24, .ireturn, 1)]
theorem kX5_eastOf_ok : kX5_eastOf.all (fun q => decide (decode cX5_eastOf q.1 = .ok q.2)) = true := by decide +kernel
def kX5_southOf : List (Nat × Instr × Nat) := [(0, .iload_n 0, 1), (1, .iconst 3, 1), (2, .if_icmp .lt 12, 3), (5, .iload_n 0, 1), (6, .iconst 5, 1), (7, .if_icmp .gt 7, 3), (10, .iconst 1, 1), (11, .goto 19, 3), (14, .iload_n 0, 1), (15, .iconst 2, 1), (16, .if_icmp .eq 9, 3), (19, .iload_n 0, 1), (20, .bipush 6, 2), (22, .if_icmp .ne 7, 3), (25, .iconst 0, 1), (26, .goto 4, 3), (29, .iconst (-1), 1), (30, .ireturn, 1)]
theorem kX5_southOf_ok : kX5_southOf.all (fun q => decide (decode cX5_southOf q.1 = .ok q.2)) = true := by decide +kernel
def kX5_cellBeside : List (Nat × Instr × Nat) := [(0, .iload_n 0, 1), (1, .iload_n 2, 1), (2, .invokestatic 372, 3), (5, .iadd, 1), (6, .istore_n 3, 1), (7, .iload_n 1, 1), (8, .iload_n 2, 1), (9, .invokestatic 375, 3), (12, .iadd, 1), (13, .istore 4, 2), (15, .iload_n 3, 1), (16, .iload 4, 2), (18, .invokestatic 357, 3), (21, .ifCond .eq 12, 3), (24, .iload_n 3, 1), (25, .iload 4, 2), (27, .invokestatic 97, 3), (30, .goto 4, 3), (33, .iconst (-1), 1), (34, .ireturn, 1)]
theorem kX5_cellBeside_ok : kX5_cellBeside.all (fun q => decide (decode cX5_cellBeside q.1 = .ok q.2)) = true := by decide +kernel
def kX5_landing_0 : List (Nat × Instr × Nat) := [(0, .iload_n 0, 1), (1, .bipush 13, 2), (3, .irem, 1), (4, .istore_n 3, 1), (5, .iload_n 0, 1), (6, .bipush 13, 2), (8, .idiv, 1), (9, .istore 4, 2), (11, .iload_n 1, 1), (12, .invokestatic 372, 3), (15, .istore 5, 2), (17, .iload_n 1, 1), (18, .invokestatic 375, 3), (21, .istore 6, 2), (23, .iconst 0, 1), (24, .istore 7, 2), (26, .iconst 0, 1), (27, .istore 8, 2), (29, .iload 8, 2), (31, .iload_n 2, 1), (32, .if_icmp .ge 71, 3), (35, .iload_n 3, 1), (36, .iload 5, 2), (38, .iadd, 1), (39, .iload 4, 2), (41, .iload 6, 2), (43, .iadd, 1), (44, .invokestatic 357, 3), (47, .ifCond .ne 38, 3), (50, .iload 5, 2), (52, .ineg, 1), (53, .istore 5, 2), (55, .iload 6, 2), (57, .ineg, 1), (58, .istore 6, 2), (60, .iload 7, 2), (62, .ifCond .ne 18, 3), (65, .iload_n 3, 1), (66, .iload 5, 2), (68, .iadd, 1), (69, .iload 4, 2), (71, .iload 6, 2), (73, .iadd, 1), (74, .invokestatic 357, 3), (77, .ifCond .ne 5, 3), (80, .iconst (-1), 1), (81, .ireturn, 1), (82, .iconst 1, 1), (83, .istore 7, 2), (85, .iload_n 3, 1), (86, .iload 5, 2), (88, .iadd, 1), (89, .istore_n 3, 1), (90, .iload 4, 2), (92, .iload 6, 2), (94, .iadd, 1), (95, .istore 4, 2), (97, .iinc 8 1, 3), (100, .goto (-71), 3), (103, .iload_n 3, 1)]
theorem kX5_landing_0_ok : kX5_landing_0.all (fun q => decide (decode cX5_landing q.1 = .ok q.2)) = true := by decide +kernel
def kX5_landing_1 : List (Nat × Instr × Nat) := [(104, .iload 4, 2), (106, .invokestatic 97, 3), (109, .ireturn, 1)]
theorem kX5_landing_1_ok : kX5_landing_1.all (fun q => decide (decode cX5_landing q.1 = .ok q.2)) = true := by decide +kernel
def kX5_restingCell : List (Nat × Instr × Nat) := [(0, .iload_n 1, 1), (1, .iconst (-1), 1), (2, .if_icmp .ne 13, 3), (5, .iload_n 0, 1), (6, .invokestatic 164, 3), (9, .invokestatic 378, 3), (12, .goto 4, 3), (15, .iload_n 1, 1), (16, .ireturn, 1)]
theorem kX5_restingCell_ok : kX5_restingCell.all (fun q => decide (decode cX5_restingCell q.1 = .ok q.2)) = true := by decide +kernel
def kX5_flightAnswer : List (Nat × Instr × Nat) := [(0, .iload_n 0, 1), (1, .bipush 84, 2), (3, .if_icmp .ne 9, 3), (6, .sipush 169, 3), (9, .goto 4, 3), (12, .iload_n 0, 1), (13, .ireturn, 1)]
theorem kX5_flightAnswer_ok : kX5_flightAnswer.all (fun q => decide (decode cX5_flightAnswer q.1 = .ok q.2)) = true := by decide +kernel
def kJ9_max_7cf53 : List (Nat × Instr × Nat) := [(0, .iload_n 0, 1), (1, .iload_n 1, 1), (2, .if_icmp .lt 7, 3), (5, .iload_n 0, 1), (6, .goto 4, 3), (9, .iload_n 1, 1), (10, .ireturn, 1)]
theorem kJ9_max_7cf53_ok : kJ9_max_7cf53.all (fun q => decide (decode cJ9_max_7cf53 q.1 = .ok q.2)) = true := by decide +kernel
def kJ9_min_7cf53 : List (Nat × Instr × Nat) := [(0, .iload_n 0, 1), (1, .iload_n 1, 1), (2, .if_icmp .gt 7, 3), (5, .iload_n 0, 1), (6, .goto 4, 3), (9, .iload_n 1, 1), (10, .ireturn, 1)]
theorem kJ9_min_7cf53_ok : kJ9_min_7cf53.all (fun q => decide (decode cJ9_min_7cf53 q.1 = .ok q.2)) = true := by decide +kernel
def kJ7_fill_53178 : List (Nat × Instr × Nat) := [(0, .iconst 0, 1), (1, .istore_n 2, 1), (2, .aload_n 0, 1), (3, .arraylength, 1), (4, .istore_n 3, 1), (5, .iload_n 2, 1), (6, .iload_n 3, 1), (7, .if_icmp .ge 13, 3), (10, .aload_n 0, 1), (11, .iload_n 2, 1), (12, .iload_n 1, 1), (13, .iastore, 1), (14, .iinc 2 1, 3), (17, .goto (-12), 3), (20, .return_, 1)]
theorem kJ7_fill_53178_ok : kJ7_fill_53178.all (fun q => decide (decode cJ7_fill_53178 q.1 = .ok q.2)) = true := by decide +kernel
theorem tb1 : ∀ w ∈ tables_1_1, w ∈ lw_tbl := fun _ h => List.mem_append_right _ (List.mem_append_left _ h)
theorem tb2 : ∀ w ∈ tables_1_2, w ∈ lw_tbl := fun _ h => List.mem_append_right _ (List.mem_append_right _ (List.mem_append_left _ h))
theorem tb3 : ∀ w ∈ tables_1_3, w ∈ lw_tbl := fun _ h => List.mem_append_right _ (List.mem_append_right _ (List.mem_append_right _ (h)))
theorem tp1 : ∀ q ∈ lw_privs_1, Cond.selects q.1.cls q.1 q.1 ∈ lw_tbl := fun q hq => List.mem_append_left _ (List.mem_map.mpr ⟨q, hq, rfl⟩)
def AC0 : List Cond := [.methodLink RX0 3 objectInit, .instanceMethod objectInit, .code objectInit ⟨#[0xb1]⟩ 1 none, .arrayClass .int, .fieldLink RX0 9 "SquopPiles$GameText" "codes" "[I", .fieldLink RX0 15 "SquopPiles$GameText" "length" "I", .methodLink RX5 97 yX5_cellAt, .static yX5_cellAt, .initialized RX5, .code yX5_cellAt cX5_cellAt 2 (some .int), .methodLink RX1 3 objectInit, .fieldLink RX1 9 "SquopPiles$Mat" "cell" "[I", .fieldLink RX1 15 "SquopPiles$Mat" "below" "[I", .fieldLink RX1 18 "SquopPiles$Mat" "above" "[I", .static yX5_colourOf, .code yX5_colourOf cX5_colourOf 1 (some .int), .static yX5_baseOf, .code yX5_baseOf cX5_baseOf 1 (some .int), .methodLink RX1 28 arraycopyName, .native arraycopyName, .static arraycopyName, .initialized "java/lang/System", .static yX5_isWink, .code yX5_isWink cX5_isWink 1 (some .boolean)]
theorem AC0_in : ∀ w ∈ AC0, w ∈ lw_tbl := List.forall_mem_cons.mpr ⟨tb1 _ (List.mem_of_getElem? (i := 112) rfl), List.forall_mem_cons.mpr ⟨tb1 _ (List.mem_of_getElem? (i := 22) rfl), List.forall_mem_cons.mpr ⟨tb1 _ (List.mem_of_getElem? (i := 23) rfl), List.forall_mem_cons.mpr ⟨tb1 _ (List.mem_of_getElem? (i := 57) rfl), List.forall_mem_cons.mpr ⟨tb1 _ (List.mem_of_getElem? (i := 113) rfl), List.forall_mem_cons.mpr ⟨tb1 _ (List.mem_of_getElem? (i := 114) rfl), List.forall_mem_cons.mpr ⟨tb1 _ (List.mem_of_getElem? (i := 42) rfl), List.forall_mem_cons.mpr ⟨tb1 _ (List.mem_of_getElem? (i := 43) rfl), List.forall_mem_cons.mpr ⟨tb1 _ (List.mem_of_getElem? (i := 1) rfl), List.forall_mem_cons.mpr ⟨tb1 _ (List.mem_of_getElem? (i := 44) rfl), List.forall_mem_cons.mpr ⟨tb1 _ (List.mem_of_getElem? (i := 35) rfl), List.forall_mem_cons.mpr ⟨tb1 _ (List.mem_of_getElem? (i := 45) rfl), List.forall_mem_cons.mpr ⟨tb1 _ (List.mem_of_getElem? (i := 48) rfl), List.forall_mem_cons.mpr ⟨tb1 _ (List.mem_of_getElem? (i := 49) rfl), List.forall_mem_cons.mpr ⟨tb1 _ (List.mem_of_getElem? (i := 37) rfl), List.forall_mem_cons.mpr ⟨tb1 _ (List.mem_of_getElem? (i := 38) rfl), List.forall_mem_cons.mpr ⟨tb1 _ (List.mem_of_getElem? (i := 40) rfl), List.forall_mem_cons.mpr ⟨tb1 _ (List.mem_of_getElem? (i := 41) rfl), List.forall_mem_cons.mpr ⟨tb2 _ (List.mem_of_getElem? (i := 4) rfl), List.forall_mem_cons.mpr ⟨tb2 _ (List.mem_of_getElem? (i := 6) rfl), List.forall_mem_cons.mpr ⟨tb2 _ (List.mem_of_getElem? (i := 5) rfl), List.forall_mem_cons.mpr ⟨tb1 _ (List.mem_of_getElem? (i := 13) rfl), List.forall_mem_cons.mpr ⟨tb2 _ (List.mem_of_getElem? (i := 19) rfl), List.forall_mem_cons.mpr ⟨tb2 _ (List.mem_of_getElem? (i := 20) rfl), fun _ h => absurd h List.not_mem_nil⟩⟩⟩⟩⟩⟩⟩⟩⟩⟩⟩⟩⟩⟩⟩⟩⟩⟩⟩⟩⟩⟩⟩⟩
def AC1 : List Cond := [.methodLink RX1 38 yX1_setCells, .instanceMethod yX1_setCells, .selects RX1 yX1_setCells yX1_setCells, .initialized RX1, .code yX1_setCells cX1_setCells 5 none, .methodLink RX1 42 yX1_separate, .instanceMethod yX1_separate, .selects RX1 yX1_separate yX1_separate, .code yX1_separate cX1_separate 5 none, .methodLink RX1 46 yX1_topAt, .instanceMethod yX1_topAt, .selects RX1 yX1_topAt yX1_topAt, .code yX1_topAt cX1_topAt 3 (some .int), .methodLink RX1 49 yX1_isPotted, .instanceMethod yX1_isPotted, .selects RX1 yX1_isPotted yX1_isPotted, .code yX1_isPotted cX1_isPotted 2 (some .boolean), .methodLink RX1 52 yX1_isBottom, .instanceMethod yX1_isBottom, .selects RX1 yX1_isBottom yX1_isBottom, .code yX1_isBottom cX1_isBottom 2 (some .boolean), .methodLink RX1 58 Lib.Math.max.name, .static Lib.Math.max.name, .initialized "java/lang/Math"]
theorem AC1_in : ∀ w ∈ AC1, w ∈ lw_tbl := List.forall_mem_cons.mpr ⟨tb2 _ (List.mem_of_getElem? (i := 81) rfl), List.forall_mem_cons.mpr ⟨tb2 _ (List.mem_of_getElem? (i := 83) rfl), List.forall_mem_cons.mpr ⟨tp1 _ (List.mem_of_getElem? (i := 1) rfl), List.forall_mem_cons.mpr ⟨tb1 _ (List.mem_of_getElem? (i := 3) rfl), List.forall_mem_cons.mpr ⟨tb2 _ (List.mem_of_getElem? (i := 84) rfl), List.forall_mem_cons.mpr ⟨tb2 _ (List.mem_of_getElem? (i := 85) rfl), List.forall_mem_cons.mpr ⟨tb2 _ (List.mem_of_getElem? (i := 87) rfl), List.forall_mem_cons.mpr ⟨tp1 _ (List.mem_of_getElem? (i := 2) rfl), List.forall_mem_cons.mpr ⟨tb2 _ (List.mem_of_getElem? (i := 88) rfl), List.forall_mem_cons.mpr ⟨tb2 _ (List.mem_of_getElem? (i := 89) rfl), List.forall_mem_cons.mpr ⟨tb2 _ (List.mem_of_getElem? (i := 90) rfl), List.forall_mem_cons.mpr ⟨tb2 _ (List.mem_of_getElem? (i := 91) rfl), List.forall_mem_cons.mpr ⟨tb2 _ (List.mem_of_getElem? (i := 92) rfl), List.forall_mem_cons.mpr ⟨tb2 _ (List.mem_of_getElem? (i := 109) rfl), List.forall_mem_cons.mpr ⟨tb2 _ (List.mem_of_getElem? (i := 110) rfl), List.forall_mem_cons.mpr ⟨tb2 _ (List.mem_of_getElem? (i := 111) rfl), List.forall_mem_cons.mpr ⟨tb2 _ (List.mem_of_getElem? (i := 112) rfl), List.forall_mem_cons.mpr ⟨tb2 _ (List.mem_of_getElem? (i := 148) rfl), List.forall_mem_cons.mpr ⟨tb2 _ (List.mem_of_getElem? (i := 150) rfl), List.forall_mem_cons.mpr ⟨tp1 _ (List.mem_of_getElem? (i := 3) rfl), List.forall_mem_cons.mpr ⟨tb2 _ (List.mem_of_getElem? (i := 151) rfl), List.forall_mem_cons.mpr ⟨tb2 _ (List.mem_of_getElem? (i := 174) rfl), List.forall_mem_cons.mpr ⟨tb2 _ (List.mem_of_getElem? (i := 175) rfl), List.forall_mem_cons.mpr ⟨tb1 _ (List.mem_of_getElem? (i := 7) rfl), fun _ h => absurd h List.not_mem_nil⟩⟩⟩⟩⟩⟩⟩⟩⟩⟩⟩⟩⟩⟩⟩⟩⟩⟩⟩⟩⟩⟩⟩⟩
def AC2 : List Cond := [.code Lib.Math.max.name Lib.Math.max.code 2 (some .int), .methodLink RX1 55 yX1_heightAt, .instanceMethod yX1_heightAt, .selects RX1 yX1_heightAt yX1_heightAt, .code yX1_heightAt cX1_heightAt 4 (some .int), .methodLink RX1 70 yX1_isCovered, .instanceMethod yX1_isCovered, .selects RX1 yX1_isCovered yX1_isCovered, .code yX1_isCovered cX1_isCovered 2 (some .boolean), .methodLink RX1 67 yX1_coveredOf, .instanceMethod yX1_coveredOf, .selects RX1 yX1_coveredOf yX1_coveredOf, .code yX1_coveredOf cX1_coveredOf 4 (some .int), .methodLink RX1 64 yX1_coveredOfTeam, .instanceMethod yX1_coveredOfTeam, .selects RX1 yX1_coveredOfTeam yX1_coveredOfTeam, .code yX1_coveredOfTeam cX1_coveredOfTeam 2 (some .int), .methodLink RX1 73 yX1_pottedOf, .instanceMethod yX1_pottedOf, .selects RX1 yX1_pottedOf yX1_pottedOf, .code yX1_pottedOf cX1_pottedOf 4 (some .int), .methodLink RX1 76 yX1_isAllPotted, .instanceMethod yX1_isAllPotted, .selects RX1 yX1_isAllPotted yX1_isAllPotted]
theorem AC2_in : ∀ w ∈ AC2, w ∈ lw_tbl := List.forall_mem_cons.mpr ⟨tb2 _ (List.mem_of_getElem? (i := 176) rfl), List.forall_mem_cons.mpr ⟨tb2 _ (List.mem_of_getElem? (i := 152) rfl), List.forall_mem_cons.mpr ⟨tb2 _ (List.mem_of_getElem? (i := 94) rfl), List.forall_mem_cons.mpr ⟨tb2 _ (List.mem_of_getElem? (i := 95) rfl), List.forall_mem_cons.mpr ⟨tb2 _ (List.mem_of_getElem? (i := 96) rfl), List.forall_mem_cons.mpr ⟨tb2 _ (List.mem_of_getElem? (i := 165) rfl), List.forall_mem_cons.mpr ⟨tb2 _ (List.mem_of_getElem? (i := 57) rfl), List.forall_mem_cons.mpr ⟨tb2 _ (List.mem_of_getElem? (i := 58) rfl), List.forall_mem_cons.mpr ⟨tb2 _ (List.mem_of_getElem? (i := 59) rfl), List.forall_mem_cons.mpr ⟨tb2 _ (List.mem_of_getElem? (i := 161) rfl), List.forall_mem_cons.mpr ⟨tb2 _ (List.mem_of_getElem? (i := 162) rfl), List.forall_mem_cons.mpr ⟨tb2 _ (List.mem_of_getElem? (i := 163) rfl), List.forall_mem_cons.mpr ⟨tb2 _ (List.mem_of_getElem? (i := 164) rfl), List.forall_mem_cons.mpr ⟨tb2 _ (List.mem_of_getElem? (i := 157) rfl), List.forall_mem_cons.mpr ⟨tb2 _ (List.mem_of_getElem? (i := 158) rfl), List.forall_mem_cons.mpr ⟨tb2 _ (List.mem_of_getElem? (i := 159) rfl), List.forall_mem_cons.mpr ⟨tb2 _ (List.mem_of_getElem? (i := 160) rfl), List.forall_mem_cons.mpr ⟨tb2 _ (List.mem_of_getElem? (i := 52) rfl), List.forall_mem_cons.mpr ⟨tb2 _ (List.mem_of_getElem? (i := 53) rfl), List.forall_mem_cons.mpr ⟨tb2 _ (List.mem_of_getElem? (i := 54) rfl), List.forall_mem_cons.mpr ⟨tb2 _ (List.mem_of_getElem? (i := 55) rfl), List.forall_mem_cons.mpr ⟨tb2 _ (List.mem_of_getElem? (i := 48) rfl), List.forall_mem_cons.mpr ⟨tb2 _ (List.mem_of_getElem? (i := 49) rfl), List.forall_mem_cons.mpr ⟨tb2 _ (List.mem_of_getElem? (i := 50) rfl), fun _ h => absurd h List.not_mem_nil⟩⟩⟩⟩⟩⟩⟩⟩⟩⟩⟩⟩⟩⟩⟩⟩⟩⟩⟩⟩⟩⟩⟩⟩
def AC3 : List Cond := [.code yX1_isAllPotted cX1_isAllPotted 2 (some .boolean), .methodLink RX1 79 yX1_pointsOf, .instanceMethod yX1_pointsOf, .selects RX1 yX1_pointsOf yX1_pointsOf, .code yX1_pointsOf cX1_pointsOf 6 (some .int), .methodLink RX1 82 yX1_pointsOfTeam, .instanceMethod yX1_pointsOfTeam, .selects RX1 yX1_pointsOfTeam yX1_pointsOfTeam, .code yX1_pointsOfTeam cX1_pointsOfTeam 2 (some .int), .methodLink RX1 85 yX1_liesBelow, .instanceMethod yX1_liesBelow, .selects RX1 yX1_liesBelow yX1_liesBelow, .code yX1_liesBelow cX1_liesBelow 5 (some .boolean), .methodLink RX4 3 objectInit, .classLink RX4 9 RX1, .instantiable RX1 3, .fieldLink RX4 12 "SquopPiles$State" "mat" "LSquopPiles$Mat;", .fieldLink RX4 18 "SquopPiles$State" "flights" "[I", .fieldLink RX4 22 "SquopPiles$State" "fouls" "[I", .fieldLink RX4 25 "SquopPiles$State" "lost" "[I", .fieldLink RX4 28 "SquopPiles$State" "turn" "I", .fieldLink RX4 32 "SquopPiles$State" "lifts" "I", .fieldLink RX4 35 "SquopPiles$State" "setting" "I", .methodLink RX4 11 yX1_init]
theorem AC3_in : ∀ w ∈ AC3, w ∈ lw_tbl := List.forall_mem_cons.mpr ⟨tb2 _ (List.mem_of_getElem? (i := 51) rfl), List.forall_mem_cons.mpr ⟨tb2 _ (List.mem_of_getElem? (i := 189) rfl), List.forall_mem_cons.mpr ⟨tb2 _ (List.mem_of_getElem? (i := 190) rfl), List.forall_mem_cons.mpr ⟨tb2 _ (List.mem_of_getElem? (i := 191) rfl), List.forall_mem_cons.mpr ⟨tb2 _ (List.mem_of_getElem? (i := 192) rfl), List.forall_mem_cons.mpr ⟨tb3 _ (List.mem_of_getElem? (i := 16) rfl), List.forall_mem_cons.mpr ⟨tb2 _ (List.mem_of_getElem? (i := 186) rfl), List.forall_mem_cons.mpr ⟨tb2 _ (List.mem_of_getElem? (i := 187) rfl), List.forall_mem_cons.mpr ⟨tb2 _ (List.mem_of_getElem? (i := 188) rfl), List.forall_mem_cons.mpr ⟨tb3 _ (List.mem_of_getElem? (i := 74) rfl), List.forall_mem_cons.mpr ⟨tb3 _ (List.mem_of_getElem? (i := 76) rfl), List.forall_mem_cons.mpr ⟨tp1 _ (List.mem_of_getElem? (i := 6) rfl), List.forall_mem_cons.mpr ⟨tb3 _ (List.mem_of_getElem? (i := 77) rfl), List.forall_mem_cons.mpr ⟨tb1 _ (List.mem_of_getElem? (i := 29) rfl), List.forall_mem_cons.mpr ⟨tb1 _ (List.mem_of_getElem? (i := 30) rfl), List.forall_mem_cons.mpr ⟨tb1 _ (List.mem_of_getElem? (i := 31) rfl), List.forall_mem_cons.mpr ⟨tb1 _ (List.mem_of_getElem? (i := 58) rfl), List.forall_mem_cons.mpr ⟨tb1 _ (List.mem_of_getElem? (i := 60) rfl), List.forall_mem_cons.mpr ⟨tb1 _ (List.mem_of_getElem? (i := 62) rfl), List.forall_mem_cons.mpr ⟨tb1 _ (List.mem_of_getElem? (i := 64) rfl), List.forall_mem_cons.mpr ⟨tb1 _ (List.mem_of_getElem? (i := 66) rfl), List.forall_mem_cons.mpr ⟨tb1 _ (List.mem_of_getElem? (i := 68) rfl), List.forall_mem_cons.mpr ⟨tb1 _ (List.mem_of_getElem? (i := 70) rfl), List.forall_mem_cons.mpr ⟨tb1 _ (List.mem_of_getElem? (i := 32) rfl), fun _ h => absurd h List.not_mem_nil⟩⟩⟩⟩⟩⟩⟩⟩⟩⟩⟩⟩⟩⟩⟩⟩⟩⟩⟩⟩⟩⟩⟩⟩
def AC4 : List Cond := [.instanceMethod yX1_init, .code yX1_init cX1_init 3 none, .methodLink RX2 3 objectInit, .classLink RX2 9 RX4, .fieldLink RX2 11 "SquopPiles$Past" "saved" "[LSquopPiles$State;", .fieldLink RX2 17 "SquopPiles$Past" "next" "I", .fieldLink RX2 21 "SquopPiles$Past" "many" "I", .instantiable RX4 7, .initialized RX4, .instanceMethod yX4_init, .code yX4_init cX4_init 1 none, .methodLink RX4 42 arraycopyName, .methodLink RX4 38 yX1_copyFrom, .instanceMethod yX1_copyFrom, .selects RX1 yX1_copyFrom yX1_copyFrom, .code yX1_copyFrom cX1_copyFrom 2 none, .methodLink RX2 29 Lib.Math.min.name, .static Lib.Math.min.name, .code Lib.Math.min.name Lib.Math.min.code 2 (some .int), .methodLink RX2 25 yX4_copyFrom, .instanceMethod yX4_copyFrom, .selects RX4 yX4_copyFrom yX4_copyFrom, .code yX4_copyFrom cX4_copyFrom 2 none, .methodLink RX3 3 objectInit]
theorem AC4_in : ∀ w ∈ AC4, w ∈ lw_tbl := List.forall_mem_cons.mpr ⟨tb1 _ (List.mem_of_getElem? (i := 33) rfl), List.forall_mem_cons.mpr ⟨tb1 _ (List.mem_of_getElem? (i := 34) rfl), List.forall_mem_cons.mpr ⟨tb1 _ (List.mem_of_getElem? (i := 92) rfl), List.forall_mem_cons.mpr ⟨tb1 _ (List.mem_of_getElem? (i := 93) rfl), List.forall_mem_cons.mpr ⟨tb1 _ (List.mem_of_getElem? (i := 96) rfl), List.forall_mem_cons.mpr ⟨tb1 _ (List.mem_of_getElem? (i := 97) rfl), List.forall_mem_cons.mpr ⟨tb1 _ (List.mem_of_getElem? (i := 98) rfl), List.forall_mem_cons.mpr ⟨tb1 _ (List.mem_of_getElem? (i := 25) rfl), List.forall_mem_cons.mpr ⟨tb1 _ (List.mem_of_getElem? (i := 2) rfl), List.forall_mem_cons.mpr ⟨tb1 _ (List.mem_of_getElem? (i := 27) rfl), List.forall_mem_cons.mpr ⟨tb1 _ (List.mem_of_getElem? (i := 28) rfl), List.forall_mem_cons.mpr ⟨tb2 _ (List.mem_of_getElem? (i := 7) rfl), List.forall_mem_cons.mpr ⟨tb2 _ (List.mem_of_getElem? (i := 0) rfl), List.forall_mem_cons.mpr ⟨tb2 _ (List.mem_of_getElem? (i := 1) rfl), List.forall_mem_cons.mpr ⟨tb2 _ (List.mem_of_getElem? (i := 2) rfl), List.forall_mem_cons.mpr ⟨tb2 _ (List.mem_of_getElem? (i := 3) rfl), List.forall_mem_cons.mpr ⟨tb2 _ (List.mem_of_getElem? (i := 8) rfl), List.forall_mem_cons.mpr ⟨tb2 _ (List.mem_of_getElem? (i := 9) rfl), List.forall_mem_cons.mpr ⟨tb2 _ (List.mem_of_getElem? (i := 10) rfl), List.forall_mem_cons.mpr ⟨tb1 _ (List.mem_of_getElem? (i := 236) rfl), List.forall_mem_cons.mpr ⟨tb1 _ (List.mem_of_getElem? (i := 237) rfl), List.forall_mem_cons.mpr ⟨tb1 _ (List.mem_of_getElem? (i := 238) rfl), List.forall_mem_cons.mpr ⟨tb1 _ (List.mem_of_getElem? (i := 239) rfl), List.forall_mem_cons.mpr ⟨tb1 _ (List.mem_of_getElem? (i := 127) rfl), fun _ h => absurd h List.not_mem_nil⟩⟩⟩⟩⟩⟩⟩⟩⟩⟩⟩⟩⟩⟩⟩⟩⟩⟩⟩⟩⟩⟩⟩⟩
def AC5 : List Cond := [.fieldLink RX3 9 "SquopPiles$Routes" "known" "[I", .fieldLink RX3 15 "SquopPiles$Routes" "distance" "[I", .fieldLink RX3 18 "SquopPiles$Routes" "queue" "[I", .methodLink RX5 372 yX5_eastOf, .static yX5_eastOf, .code yX5_eastOf cX5_eastOf 1 (some .int), .methodLink RX5 375 yX5_southOf, .static yX5_southOf, .code yX5_southOf cX5_southOf 1 (some .int), .methodLink RX5 357 yX5_isOnMat, .static yX5_isOnMat, .code yX5_isOnMat cX5_isOnMat 2 (some .boolean), .methodLink RX3 25 yJ7_fill_53178, .static yJ7_fill_53178, .initialized RJ7, .code yJ7_fill_53178 cJ7_fill_53178 4 none, .static yX5_landing, .code yX5_landing cX5_landing 9 (some .int), .methodLink RX3 21 yX3_search, .instanceMethod yX3_search, .selects RX3 yX3_search yX3_search, .initialized RX3, .code yX3_search cX3_search 8 (some .int), .methodLink RX4 48 yX1_isOver]
theorem AC5_in : ∀ w ∈ AC5, w ∈ lw_tbl := List.forall_mem_cons.mpr ⟨tb1 _ (List.mem_of_getElem? (i := 128) rfl), List.forall_mem_cons.mpr ⟨tb1 _ (List.mem_of_getElem? (i := 129) rfl), List.forall_mem_cons.mpr ⟨tb1 _ (List.mem_of_getElem? (i := 130) rfl), List.forall_mem_cons.mpr ⟨tb2 _ (List.mem_of_getElem? (i := 219) rfl), List.forall_mem_cons.mpr ⟨tb2 _ (List.mem_of_getElem? (i := 220) rfl), List.forall_mem_cons.mpr ⟨tb2 _ (List.mem_of_getElem? (i := 221) rfl), List.forall_mem_cons.mpr ⟨tb2 _ (List.mem_of_getElem? (i := 222) rfl), List.forall_mem_cons.mpr ⟨tb2 _ (List.mem_of_getElem? (i := 223) rfl), List.forall_mem_cons.mpr ⟨tb2 _ (List.mem_of_getElem? (i := 224) rfl), List.forall_mem_cons.mpr ⟨tb2 _ (List.mem_of_getElem? (i := 40) rfl), List.forall_mem_cons.mpr ⟨tb2 _ (List.mem_of_getElem? (i := 41) rfl), List.forall_mem_cons.mpr ⟨tb2 _ (List.mem_of_getElem? (i := 42) rfl), List.forall_mem_cons.mpr ⟨tb3 _ (List.mem_of_getElem? (i := 45) rfl), List.forall_mem_cons.mpr ⟨tb3 _ (List.mem_of_getElem? (i := 46) rfl), List.forall_mem_cons.mpr ⟨tb1 _ (List.mem_of_getElem? (i := 15) rfl), List.forall_mem_cons.mpr ⟨tb3 _ (List.mem_of_getElem? (i := 47) rfl), List.forall_mem_cons.mpr ⟨tb3 _ (List.mem_of_getElem? (i := 3) rfl), List.forall_mem_cons.mpr ⟨tb3 _ (List.mem_of_getElem? (i := 4) rfl), List.forall_mem_cons.mpr ⟨tb3 _ (List.mem_of_getElem? (i := 41) rfl), List.forall_mem_cons.mpr ⟨tb3 _ (List.mem_of_getElem? (i := 43) rfl), List.forall_mem_cons.mpr ⟨tp1 _ (List.mem_of_getElem? (i := 5) rfl), List.forall_mem_cons.mpr ⟨tb1 _ (List.mem_of_getElem? (i := 6) rfl), List.forall_mem_cons.mpr ⟨tb3 _ (List.mem_of_getElem? (i := 44) rfl), List.forall_mem_cons.mpr ⟨tb2 _ (List.mem_of_getElem? (i := 117) rfl), fun _ h => absurd h List.not_mem_nil⟩⟩⟩⟩⟩⟩⟩⟩⟩⟩⟩⟩⟩⟩⟩⟩⟩⟩⟩⟩⟩⟩⟩⟩
def AC6 : List Cond := [.instanceMethod yX1_isOver, .selects RX1 yX1_isOver yX1_isOver, .code yX1_isOver cX1_isOver 2 (some .boolean), .methodLink RX4 56 yX1_isPotted, .methodLink RX4 60 yX1_isCovered, .methodLink RX4 67 yX1_lowestOfUpper, .instanceMethod yX1_lowestOfUpper, .selects RX1 yX1_lowestOfUpper yX1_lowestOfUpper, .code yX1_lowestOfUpper cX1_lowestOfUpper 5 (some .int), .methodLink RX4 70 yX1_topAt, .static yX5_cellBeside, .code yX5_cellBeside cX5_cellBeside 5 (some .int), .methodLink RX5 167 yX5_isLarge, .static yX5_isLarge, .code yX5_isLarge cX5_isLarge 1 (some .boolean), .methodLink RX5 164 yX5_colourOf, .methodLink RX5 378 yX5_baseOf, .methodLink RX4 93 yX1_isAllPotted, .static yX5_stepsOf, .code yX5_stepsOf cX5_stepsOf 2 (some .int), .static yX5_restingCell, .code yX5_restingCell cX5_restingCell 2 (some .int), .methodLink RX4 89 yX1_move, .instanceMethod yX1_move]
theorem AC6_in : ∀ w ∈ AC6, w ∈ lw_tbl := List.forall_mem_cons.mpr ⟨tb2 _ (List.mem_of_getElem? (i := 45) rfl), List.forall_mem_cons.mpr ⟨tb2 _ (List.mem_of_getElem? (i := 46) rfl), List.forall_mem_cons.mpr ⟨tb2 _ (List.mem_of_getElem? (i := 47) rfl), List.forall_mem_cons.mpr ⟨tb2 _ (List.mem_of_getElem? (i := 119) rfl), List.forall_mem_cons.mpr ⟨tb2 _ (List.mem_of_getElem? (i := 120) rfl), List.forall_mem_cons.mpr ⟨tb2 _ (List.mem_of_getElem? (i := 211) rfl), List.forall_mem_cons.mpr ⟨tb2 _ (List.mem_of_getElem? (i := 212) rfl), List.forall_mem_cons.mpr ⟨tb2 _ (List.mem_of_getElem? (i := 213) rfl), List.forall_mem_cons.mpr ⟨tb2 _ (List.mem_of_getElem? (i := 214) rfl), List.forall_mem_cons.mpr ⟨tb2 _ (List.mem_of_getElem? (i := 215) rfl), List.forall_mem_cons.mpr ⟨tb2 _ (List.mem_of_getElem? (i := 217) rfl), List.forall_mem_cons.mpr ⟨tb2 _ (List.mem_of_getElem? (i := 218) rfl), List.forall_mem_cons.mpr ⟨tb2 _ (List.mem_of_getElem? (i := 102) rfl), List.forall_mem_cons.mpr ⟨tb2 _ (List.mem_of_getElem? (i := 103) rfl), List.forall_mem_cons.mpr ⟨tb2 _ (List.mem_of_getElem? (i := 104) rfl), List.forall_mem_cons.mpr ⟨tb2 _ (List.mem_of_getElem? (i := 101) rfl), List.forall_mem_cons.mpr ⟨tb3 _ (List.mem_of_getElem? (i := 8) rfl), List.forall_mem_cons.mpr ⟨tb3 _ (List.mem_of_getElem? (i := 94) rfl), List.forall_mem_cons.mpr ⟨tb3 _ (List.mem_of_getElem? (i := 0) rfl), List.forall_mem_cons.mpr ⟨tb3 _ (List.mem_of_getElem? (i := 1) rfl), List.forall_mem_cons.mpr ⟨tb3 _ (List.mem_of_getElem? (i := 6) rfl), List.forall_mem_cons.mpr ⟨tb3 _ (List.mem_of_getElem? (i := 7) rfl), List.forall_mem_cons.mpr ⟨tb3 _ (List.mem_of_getElem? (i := 93) rfl), List.forall_mem_cons.mpr ⟨tb2 _ (List.mem_of_getElem? (i := 77) rfl), fun _ h => absurd h List.not_mem_nil⟩⟩⟩⟩⟩⟩⟩⟩⟩⟩⟩⟩⟩⟩⟩⟩⟩⟩⟩⟩⟩⟩⟩⟩
def AC7 : List Cond := [.selects RX1 yX1_move yX1_move, .code yX1_move cX1_move 5 none, .methodLink RX4 96 yX4_passTurn, .instanceMethod yX4_passTurn, .selects RX4 yX4_passTurn yX4_passTurn, .code yX4_passTurn cX4_passTurn 3 none, .static yX5_flightAnswer, .code yX5_flightAnswer cX5_flightAnswer 1 (some .int), .methodLink RX5 1 objectInit, .classLink RX5 7 RX4, .fieldLink RX5 10 "SquopPiles" "now" "LSquopPiles$State;", .fieldLink RX5 16 "SquopPiles" "snapshot" "LSquopPiles$State;", .classLink RX5 19 RX2, .instantiable RX2 3, .initialized RX2, .fieldLink RX5 22 "SquopPiles" "past" "LSquopPiles$Past;", .classLink RX5 26 RX0, .instantiable RX0 2, .initialized RX0, .fieldLink RX5 29 "SquopPiles" "text" "LSquopPiles$GameText;", .classLink RX5 33 RX1, .fieldLink RX5 36 "SquopPiles" "trial" "LSquopPiles$Mat;", .classLink RX5 40 RX3, .instantiable RX3 3]
theorem AC7_in : ∀ w ∈ AC7, w ∈ lw_tbl := List.forall_mem_cons.mpr ⟨tb2 _ (List.mem_of_getElem? (i := 78) rfl), List.forall_mem_cons.mpr ⟨tb2 _ (List.mem_of_getElem? (i := 79) rfl), List.forall_mem_cons.mpr ⟨tb3 _ (List.mem_of_getElem? (i := 95) rfl), List.forall_mem_cons.mpr ⟨tb3 _ (List.mem_of_getElem? (i := 97) rfl), List.forall_mem_cons.mpr ⟨tp1 _ (List.mem_of_getElem? (i := 7) rfl), List.forall_mem_cons.mpr ⟨tb3 _ (List.mem_of_getElem? (i := 98) rfl), List.forall_mem_cons.mpr ⟨tb3 _ (List.mem_of_getElem? (i := 54) rfl), List.forall_mem_cons.mpr ⟨tb3 _ (List.mem_of_getElem? (i := 55) rfl), List.forall_mem_cons.mpr ⟨tb1 _ (List.mem_of_getElem? (i := 21) rfl), List.forall_mem_cons.mpr ⟨tb1 _ (List.mem_of_getElem? (i := 24) rfl), List.forall_mem_cons.mpr ⟨tb1 _ (List.mem_of_getElem? (i := 138) rfl), List.forall_mem_cons.mpr ⟨tb1 _ (List.mem_of_getElem? (i := 139) rfl), List.forall_mem_cons.mpr ⟨tb1 _ (List.mem_of_getElem? (i := 87) rfl), List.forall_mem_cons.mpr ⟨tb1 _ (List.mem_of_getElem? (i := 88) rfl), List.forall_mem_cons.mpr ⟨tb1 _ (List.mem_of_getElem? (i := 4) rfl), List.forall_mem_cons.mpr ⟨tb1 _ (List.mem_of_getElem? (i := 140) rfl), List.forall_mem_cons.mpr ⟨tb1 _ (List.mem_of_getElem? (i := 107) rfl), List.forall_mem_cons.mpr ⟨tb1 _ (List.mem_of_getElem? (i := 108) rfl), List.forall_mem_cons.mpr ⟨tb1 _ (List.mem_of_getElem? (i := 5) rfl), List.forall_mem_cons.mpr ⟨tb1 _ (List.mem_of_getElem? (i := 141) rfl), List.forall_mem_cons.mpr ⟨tb1 _ (List.mem_of_getElem? (i := 120) rfl), List.forall_mem_cons.mpr ⟨tb1 _ (List.mem_of_getElem? (i := 142) rfl), List.forall_mem_cons.mpr ⟨tb1 _ (List.mem_of_getElem? (i := 122) rfl), List.forall_mem_cons.mpr ⟨tb1 _ (List.mem_of_getElem? (i := 123) rfl), fun _ h => absurd h List.not_mem_nil⟩⟩⟩⟩⟩⟩⟩⟩⟩⟩⟩⟩⟩⟩⟩⟩⟩⟩⟩⟩⟩⟩⟩⟩
def AC8 : List Cond := [.fieldLink RX5 43 "SquopPiles" "routes" "LSquopPiles$Routes;", .fieldLink RX5 47 "SquopPiles" "hasSnapshot" "Z", .methodLink RX5 21 yX2_init, .instanceMethod yX2_init, .code yX2_init cX2_init 2 none, .instanceMethod yX0_init, .code yX0_init cX0_init 1 none, .methodLink RX5 35 yX1_init, .instanceMethod yX3_init, .code yX3_init cX3_init 1 none, .classLink RX5 196 "java/lang/IndexOutOfBoundsException", .initialized "java/lang/IndexOutOfBoundsException", .methodLink RX5 352 yX5_isWink, .classLink RX5 104 "java/lang/IllegalArgumentException", .initialized "java/lang/IllegalArgumentException", .methodLink RX5 363 yX5_requireDirection, .static yX5_requireDirection, .code yX5_requireDirection cX5_requireDirection 1 none, .classLink RX5 63 "java/lang/IllegalStateException", .initialized "java/lang/IllegalStateException", .methodLink RX5 51 yX5_requireWink, .static yX5_requireWink, .code yX5_requireWink cX5_requireWink 1 none, .methodLink RX5 55 yX5_requireFlight]
theorem AC8_in : ∀ w ∈ AC8, w ∈ lw_tbl := List.forall_mem_cons.mpr ⟨tb1 _ (List.mem_of_getElem? (i := 143) rfl), List.forall_mem_cons.mpr ⟨tb1 _ (List.mem_of_getElem? (i := 144) rfl), List.forall_mem_cons.mpr ⟨tb1 _ (List.mem_of_getElem? (i := 89) rfl), List.forall_mem_cons.mpr ⟨tb1 _ (List.mem_of_getElem? (i := 90) rfl), List.forall_mem_cons.mpr ⟨tb1 _ (List.mem_of_getElem? (i := 91) rfl), List.forall_mem_cons.mpr ⟨tb1 _ (List.mem_of_getElem? (i := 110) rfl), List.forall_mem_cons.mpr ⟨tb1 _ (List.mem_of_getElem? (i := 111) rfl), List.forall_mem_cons.mpr ⟨tb1 _ (List.mem_of_getElem? (i := 121) rfl), List.forall_mem_cons.mpr ⟨tb1 _ (List.mem_of_getElem? (i := 125) rfl), List.forall_mem_cons.mpr ⟨tb1 _ (List.mem_of_getElem? (i := 126) rfl), List.forall_mem_cons.mpr ⟨tb2 _ (List.mem_of_getElem? (i := 21) rfl), List.forall_mem_cons.mpr ⟨tb1 _ (List.mem_of_getElem? (i := 12) rfl), List.forall_mem_cons.mpr ⟨tb2 _ (List.mem_of_getElem? (i := 18) rfl), List.forall_mem_cons.mpr ⟨tb1 _ (List.mem_of_getElem? (i := 164) rfl), List.forall_mem_cons.mpr ⟨tb1 _ (List.mem_of_getElem? (i := 11) rfl), List.forall_mem_cons.mpr ⟨tb2 _ (List.mem_of_getElem? (i := 202) rfl), List.forall_mem_cons.mpr ⟨tb2 _ (List.mem_of_getElem? (i := 203) rfl), List.forall_mem_cons.mpr ⟨tb2 _ (List.mem_of_getElem? (i := 204) rfl), List.forall_mem_cons.mpr ⟨tb2 _ (List.mem_of_getElem? (i := 60) rfl), List.forall_mem_cons.mpr ⟨tb1 _ (List.mem_of_getElem? (i := 14) rfl), List.forall_mem_cons.mpr ⟨tb2 _ (List.mem_of_getElem? (i := 15) rfl), List.forall_mem_cons.mpr ⟨tb2 _ (List.mem_of_getElem? (i := 16) rfl), List.forall_mem_cons.mpr ⟨tb2 _ (List.mem_of_getElem? (i := 17) rfl), List.forall_mem_cons.mpr ⟨tb2 _ (List.mem_of_getElem? (i := 229) rfl), fun _ h => absurd h List.not_mem_nil⟩⟩⟩⟩⟩⟩⟩⟩⟩⟩⟩⟩⟩⟩⟩⟩⟩⟩⟩⟩⟩⟩⟩⟩
def AC9 : List Cond := [.static yX5_requireFlight, .code yX5_requireFlight cX5_requireFlight 2 none, .methodLink RX5 59 yX4_whyNotFlown, .instanceMethod yX4_whyNotFlown, .selects RX4 yX4_whyNotFlown yX4_whyNotFlown, .code yX4_whyNotFlown cX4_whyNotFlown 2 (some .int), .methodLink RX5 70 yX2_save, .instanceMethod yX2_save, .selects RX2 yX2_save yX2_save, .code yX2_save cX2_save 2 none, .methodLink RX5 74 yX4_carryOutFlight, .instanceMethod yX4_carryOutFlight, .selects RX4 yX4_carryOutFlight yX4_carryOutFlight, .code yX4_carryOutFlight cX4_carryOutFlight 6 (some .int), .methodLink RX5 78 yX5_requireCell, .static yX5_requireCell, .code yX5_requireCell cX5_requireCell 2 none, .methodLink RX5 81 yX5_requireLift, .static yX5_requireLift, .code yX5_requireLift cX5_requireLift 2 none, .methodLink RX5 84 yX4_whyNotLifted, .instanceMethod yX4_whyNotLifted, .selects RX4 yX4_whyNotLifted yX4_whyNotLifted, .code yX4_whyNotLifted cX4_whyNotLifted 6 (some .int)]
theorem AC9_in : ∀ w ∈ AC9, w ∈ lw_tbl := List.forall_mem_cons.mpr ⟨tb2 _ (List.mem_of_getElem? (i := 230) rfl), List.forall_mem_cons.mpr ⟨tb2 _ (List.mem_of_getElem? (i := 231) rfl), List.forall_mem_cons.mpr ⟨tb2 _ (List.mem_of_getElem? (i := 113) rfl), List.forall_mem_cons.mpr ⟨tb2 _ (List.mem_of_getElem? (i := 114) rfl), List.forall_mem_cons.mpr ⟨tb2 _ (List.mem_of_getElem? (i := 115) rfl), List.forall_mem_cons.mpr ⟨tb2 _ (List.mem_of_getElem? (i := 116) rfl), List.forall_mem_cons.mpr ⟨tb1 _ (List.mem_of_getElem? (i := 232) rfl), List.forall_mem_cons.mpr ⟨tb1 _ (List.mem_of_getElem? (i := 233) rfl), List.forall_mem_cons.mpr ⟨tb1 _ (List.mem_of_getElem? (i := 234) rfl), List.forall_mem_cons.mpr ⟨tb1 _ (List.mem_of_getElem? (i := 235) rfl), List.forall_mem_cons.mpr ⟨tb3 _ (List.mem_of_getElem? (i := 86) rfl), List.forall_mem_cons.mpr ⟨tb3 _ (List.mem_of_getElem? (i := 87) rfl), List.forall_mem_cons.mpr ⟨tb3 _ (List.mem_of_getElem? (i := 88) rfl), List.forall_mem_cons.mpr ⟨tb3 _ (List.mem_of_getElem? (i := 89) rfl), List.forall_mem_cons.mpr ⟨tb2 _ (List.mem_of_getElem? (i := 37) rfl), List.forall_mem_cons.mpr ⟨tb2 _ (List.mem_of_getElem? (i := 38) rfl), List.forall_mem_cons.mpr ⟨tb2 _ (List.mem_of_getElem? (i := 39) rfl), List.forall_mem_cons.mpr ⟨tb2 _ (List.mem_of_getElem? (i := 198) rfl), List.forall_mem_cons.mpr ⟨tb2 _ (List.mem_of_getElem? (i := 199) rfl), List.forall_mem_cons.mpr ⟨tb2 _ (List.mem_of_getElem? (i := 200) rfl), List.forall_mem_cons.mpr ⟨tb2 _ (List.mem_of_getElem? (i := 206) rfl), List.forall_mem_cons.mpr ⟨tb2 _ (List.mem_of_getElem? (i := 207) rfl), List.forall_mem_cons.mpr ⟨tb2 _ (List.mem_of_getElem? (i := 208) rfl), List.forall_mem_cons.mpr ⟨tb2 _ (List.mem_of_getElem? (i := 209) rfl), fun _ h => absurd h List.not_mem_nil⟩⟩⟩⟩⟩⟩⟩⟩⟩⟩⟩⟩⟩⟩⟩⟩⟩⟩⟩⟩⟩⟩⟩⟩
def AC10 : List Cond := [.methodLink RX5 90 yX4_carryOutLift, .instanceMethod yX4_carryOutLift, .selects RX4 yX4_carryOutLift yX4_carryOutLift, .code yX4_carryOutLift cX4_carryOutLift 6 none, .methodLink RX5 101 yX1_heightAt, .methodLink RX5 113 yX1_isOver, .methodLink RX5 117 yX1_isCovered, .methodLink RX5 123 yX1_move, .methodLink RX5 174 yX1_placeOf, .instanceMethod yX1_placeOf, .selects RX1 yX1_placeOf yX1_placeOf, .code yX1_placeOf cX1_placeOf 5 (some .int), .methodLink RX5 182 yX1_topAt, .methodLink RX5 185 yX1_bottomAt, .instanceMethod yX1_bottomAt, .selects RX1 yX1_bottomAt yX1_bottomAt, .code yX1_bottomAt cX1_bottomAt 3 (some .int), .methodLink RX5 188 yX1_coloursAt, .instanceMethod yX1_coloursAt, .selects RX1 yX1_coloursAt yX1_coloursAt, .code yX1_coloursAt cX1_coloursAt 4 (some .int), .methodLink RX5 193 yX5_isColour, .static yX5_isColour, .code yX5_isColour cX5_isColour 1 (some .boolean)]
theorem AC10_in : ∀ w ∈ AC10, w ∈ lw_tbl := List.forall_mem_cons.mpr ⟨tb3 _ (List.mem_of_getElem? (i := 114) rfl), List.forall_mem_cons.mpr ⟨tb3 _ (List.mem_of_getElem? (i := 115) rfl), List.forall_mem_cons.mpr ⟨tb3 _ (List.mem_of_getElem? (i := 116) rfl), List.forall_mem_cons.mpr ⟨tb3 _ (List.mem_of_getElem? (i := 117) rfl), List.forall_mem_cons.mpr ⟨tb2 _ (List.mem_of_getElem? (i := 93) rfl), List.forall_mem_cons.mpr ⟨tb2 _ (List.mem_of_getElem? (i := 44) rfl), List.forall_mem_cons.mpr ⟨tb2 _ (List.mem_of_getElem? (i := 56) rfl), List.forall_mem_cons.mpr ⟨tb2 _ (List.mem_of_getElem? (i := 76) rfl), List.forall_mem_cons.mpr ⟨tb2 _ (List.mem_of_getElem? (i := 105) rfl), List.forall_mem_cons.mpr ⟨tb2 _ (List.mem_of_getElem? (i := 106) rfl), List.forall_mem_cons.mpr ⟨tb2 _ (List.mem_of_getElem? (i := 107) rfl), List.forall_mem_cons.mpr ⟨tb2 _ (List.mem_of_getElem? (i := 108) rfl), List.forall_mem_cons.mpr ⟨tb2 _ (List.mem_of_getElem? (i := 126) rfl), List.forall_mem_cons.mpr ⟨tb2 _ (List.mem_of_getElem? (i := 127) rfl), List.forall_mem_cons.mpr ⟨tb2 _ (List.mem_of_getElem? (i := 128) rfl), List.forall_mem_cons.mpr ⟨tb2 _ (List.mem_of_getElem? (i := 129) rfl), List.forall_mem_cons.mpr ⟨tb2 _ (List.mem_of_getElem? (i := 130) rfl), List.forall_mem_cons.mpr ⟨tb2 _ (List.mem_of_getElem? (i := 131) rfl), List.forall_mem_cons.mpr ⟨tb2 _ (List.mem_of_getElem? (i := 132) rfl), List.forall_mem_cons.mpr ⟨tb2 _ (List.mem_of_getElem? (i := 133) rfl), List.forall_mem_cons.mpr ⟨tb2 _ (List.mem_of_getElem? (i := 134) rfl), List.forall_mem_cons.mpr ⟨tb3 _ (List.mem_of_getElem? (i := 63) rfl), List.forall_mem_cons.mpr ⟨tb3 _ (List.mem_of_getElem? (i := 64) rfl), List.forall_mem_cons.mpr ⟨tb3 _ (List.mem_of_getElem? (i := 65) rfl), fun _ h => absurd h List.not_mem_nil⟩⟩⟩⟩⟩⟩⟩⟩⟩⟩⟩⟩⟩⟩⟩⟩⟩⟩⟩⟩⟩⟩⟩⟩
def AC11 : List Cond := [.methodLink RX5 201 yX1_pottedOf, .methodLink RX5 204 yX1_coveredOf, .methodLink RX5 207 yX1_pointsOf, .methodLink RX5 216 yX1_othersBelow, .instanceMethod yX1_othersBelow, .selects RX1 yX1_othersBelow yX1_othersBelow, .code yX1_othersBelow cX1_othersBelow 4 (some .int), .methodLink RX5 151 yX1_potted, .instanceMethod yX1_potted, .selects RX1 yX1_potted yX1_potted, .code yX1_potted cX1_potted 3 (some .int), .methodLink RX5 222 yX1_coveredByPiles, .instanceMethod yX1_coveredByPiles, .selects RX1 yX1_coveredByPiles yX1_coveredByPiles, .code yX1_coveredByPiles cX1_coveredByPiles 3 (some .int), .methodLink RX5 225 yX1_coveredByWinks, .instanceMethod yX1_coveredByWinks, .selects RX1 yX1_coveredByWinks yX1_coveredByWinks, .code yX1_coveredByWinks cX1_coveredByWinks 1 (some .int), .methodLink RX5 228 yX1_piles, .instanceMethod yX1_piles, .selects RX1 yX1_piles yX1_piles, .code yX1_piles cX1_piles 3 (some .int), .methodLink RX5 231 yX1_highest]
theorem AC11_in : ∀ w ∈ AC11, w ∈ lw_tbl := List.forall_mem_cons.mpr ⟨tb3 _ (List.mem_of_getElem? (i := 67) rfl), List.forall_mem_cons.mpr ⟨tb3 _ (List.mem_of_getElem? (i := 68) rfl), List.forall_mem_cons.mpr ⟨tb3 _ (List.mem_of_getElem? (i := 69) rfl), List.forall_mem_cons.mpr ⟨tb3 _ (List.mem_of_getElem? (i := 70) rfl), List.forall_mem_cons.mpr ⟨tb3 _ (List.mem_of_getElem? (i := 71) rfl), List.forall_mem_cons.mpr ⟨tb3 _ (List.mem_of_getElem? (i := 72) rfl), List.forall_mem_cons.mpr ⟨tb3 _ (List.mem_of_getElem? (i := 73) rfl), List.forall_mem_cons.mpr ⟨tb2 _ (List.mem_of_getElem? (i := 140) rfl), List.forall_mem_cons.mpr ⟨tb2 _ (List.mem_of_getElem? (i := 141) rfl), List.forall_mem_cons.mpr ⟨tb2 _ (List.mem_of_getElem? (i := 142) rfl), List.forall_mem_cons.mpr ⟨tb2 _ (List.mem_of_getElem? (i := 143) rfl), List.forall_mem_cons.mpr ⟨tb2 _ (List.mem_of_getElem? (i := 144) rfl), List.forall_mem_cons.mpr ⟨tb2 _ (List.mem_of_getElem? (i := 145) rfl), List.forall_mem_cons.mpr ⟨tb2 _ (List.mem_of_getElem? (i := 146) rfl), List.forall_mem_cons.mpr ⟨tb2 _ (List.mem_of_getElem? (i := 147) rfl), List.forall_mem_cons.mpr ⟨tb2 _ (List.mem_of_getElem? (i := 153) rfl), List.forall_mem_cons.mpr ⟨tb2 _ (List.mem_of_getElem? (i := 154) rfl), List.forall_mem_cons.mpr ⟨tb2 _ (List.mem_of_getElem? (i := 155) rfl), List.forall_mem_cons.mpr ⟨tb2 _ (List.mem_of_getElem? (i := 156) rfl), List.forall_mem_cons.mpr ⟨tb2 _ (List.mem_of_getElem? (i := 166) rfl), List.forall_mem_cons.mpr ⟨tb2 _ (List.mem_of_getElem? (i := 167) rfl), List.forall_mem_cons.mpr ⟨tb2 _ (List.mem_of_getElem? (i := 168) rfl), List.forall_mem_cons.mpr ⟨tb2 _ (List.mem_of_getElem? (i := 169) rfl), List.forall_mem_cons.mpr ⟨tb2 _ (List.mem_of_getElem? (i := 170) rfl), fun _ h => absurd h List.not_mem_nil⟩⟩⟩⟩⟩⟩⟩⟩⟩⟩⟩⟩⟩⟩⟩⟩⟩⟩⟩⟩⟩⟩⟩⟩
def AC12 : List Cond := [.instanceMethod yX1_highest, .selects RX1 yX1_highest yX1_highest, .code yX1_highest cX1_highest 3 (some .int), .methodLink RX5 234 yX4_allFlights, .instanceMethod yX4_allFlights, .selects RX4 yX4_allFlights yX4_allFlights, .code yX4_allFlights cX4_allFlights 3 (some .int), .methodLink RX5 240 yX4_allFouls, .instanceMethod yX4_allFouls, .selects RX4 yX4_allFouls yX4_allFouls, .code yX4_allFouls cX4_allFouls 3 (some .int), .methodLink RX5 243 yX1_pointsOfTeam, .methodLink RX5 248 yX1_isPotted, .methodLink RX5 251 yX5_stepsOf, .methodLink RX5 254 yX5_landing, .methodLink RX5 257 yX5_flightAnswer, .methodLink RX5 340 yX1_copyFrom, .methodLink RX5 343 yX5_restingCell, .methodLink RX5 262 yX5_tryFlight, .instanceMethod yX5_tryFlight, .selects RX5 yX5_tryFlight yX5_tryFlight, .code yX5_tryFlight cX5_tryFlight 5 none, .methodLink RX5 266 yX5_teamOf, .static yX5_teamOf]
theorem AC12_in : ∀ w ∈ AC12, w ∈ lw_tbl := List.forall_mem_cons.mpr ⟨tb2 _ (List.mem_of_getElem? (i := 171) rfl), List.forall_mem_cons.mpr ⟨tb2 _ (List.mem_of_getElem? (i := 172) rfl), List.forall_mem_cons.mpr ⟨tb2 _ (List.mem_of_getElem? (i := 173) rfl), List.forall_mem_cons.mpr ⟨tb2 _ (List.mem_of_getElem? (i := 177) rfl), List.forall_mem_cons.mpr ⟨tb2 _ (List.mem_of_getElem? (i := 178) rfl), List.forall_mem_cons.mpr ⟨tb2 _ (List.mem_of_getElem? (i := 179) rfl), List.forall_mem_cons.mpr ⟨tb2 _ (List.mem_of_getElem? (i := 180) rfl), List.forall_mem_cons.mpr ⟨tb2 _ (List.mem_of_getElem? (i := 181) rfl), List.forall_mem_cons.mpr ⟨tb2 _ (List.mem_of_getElem? (i := 182) rfl), List.forall_mem_cons.mpr ⟨tb2 _ (List.mem_of_getElem? (i := 183) rfl), List.forall_mem_cons.mpr ⟨tb2 _ (List.mem_of_getElem? (i := 184) rfl), List.forall_mem_cons.mpr ⟨tb2 _ (List.mem_of_getElem? (i := 185) rfl), List.forall_mem_cons.mpr ⟨tb3 _ (List.mem_of_getElem? (i := 36) rfl), List.forall_mem_cons.mpr ⟨tb2 _ (List.mem_of_getElem? (i := 239) rfl), List.forall_mem_cons.mpr ⟨tb3 _ (List.mem_of_getElem? (i := 2) rfl), List.forall_mem_cons.mpr ⟨tb3 _ (List.mem_of_getElem? (i := 53) rfl), List.forall_mem_cons.mpr ⟨tb2 _ (List.mem_of_getElem? (i := 238) rfl), List.forall_mem_cons.mpr ⟨tb3 _ (List.mem_of_getElem? (i := 5) rfl), List.forall_mem_cons.mpr ⟨tb2 _ (List.mem_of_getElem? (i := 234) rfl), List.forall_mem_cons.mpr ⟨tb2 _ (List.mem_of_getElem? (i := 236) rfl), List.forall_mem_cons.mpr ⟨tp1 _ (List.mem_of_getElem? (i := 4) rfl), List.forall_mem_cons.mpr ⟨tb2 _ (List.mem_of_getElem? (i := 237) rfl), List.forall_mem_cons.mpr ⟨tb3 _ (List.mem_of_getElem? (i := 9) rfl), List.forall_mem_cons.mpr ⟨tb3 _ (List.mem_of_getElem? (i := 10) rfl), fun _ h => absurd h List.not_mem_nil⟩⟩⟩⟩⟩⟩⟩⟩⟩⟩⟩⟩⟩⟩⟩⟩⟩⟩⟩⟩⟩⟩⟩⟩
def AC13 : List Cond := [.code yX5_teamOf cX5_teamOf 1 (some .int), .methodLink RX5 269 yX1_leadOf, .instanceMethod yX1_leadOf, .selects RX1 yX1_leadOf yX1_leadOf, .code yX1_leadOf cX1_leadOf 2 (some .int), .methodLink RX5 272 yX1_coveredOfTeam, .methodLink RX5 275 yX3_fewest, .instanceMethod yX3_fewest, .selects RX3 yX3_fewest yX3_fewest, .code yX3_fewest cX3_fewest 4 (some .int), .instanceMethod yX5_pile, .selects RX5 yX5_pile yX5_pile, .code yX5_pile cX5_pile 5 (some .int), .instanceMethod yX5_wink, .selects RX5 yX5_wink yX5_wink, .code yX5_wink cX5_wink 3 (some .int), .instanceMethod yX5_flightsTo, .selects RX5 yX5_flightsTo yX5_flightsTo, .code yX5_flightsTo cX5_flightsTo 2 (some .int), .instanceMethod yX5_lands, .selects RX5 yX5_lands yX5_lands, .code yX5_lands cX5_lands 4 (some .int), .instanceMethod yX5_colour, .selects RX5 yX5_colour yX5_colour]
theorem AC13_in : ∀ w ∈ AC13, w ∈ lw_tbl := List.forall_mem_cons.mpr ⟨tb3 _ (List.mem_of_getElem? (i := 11) rfl), List.forall_mem_cons.mpr ⟨tb3 _ (List.mem_of_getElem? (i := 12) rfl), List.forall_mem_cons.mpr ⟨tb3 _ (List.mem_of_getElem? (i := 13) rfl), List.forall_mem_cons.mpr ⟨tb3 _ (List.mem_of_getElem? (i := 14) rfl), List.forall_mem_cons.mpr ⟨tb3 _ (List.mem_of_getElem? (i := 15) rfl), List.forall_mem_cons.mpr ⟨tb3 _ (List.mem_of_getElem? (i := 17) rfl), List.forall_mem_cons.mpr ⟨tb3 _ (List.mem_of_getElem? (i := 37) rfl), List.forall_mem_cons.mpr ⟨tb3 _ (List.mem_of_getElem? (i := 38) rfl), List.forall_mem_cons.mpr ⟨tb3 _ (List.mem_of_getElem? (i := 39) rfl), List.forall_mem_cons.mpr ⟨tb3 _ (List.mem_of_getElem? (i := 40) rfl), List.forall_mem_cons.mpr ⟨tb2 _ (List.mem_of_getElem? (i := 123) rfl), List.forall_mem_cons.mpr ⟨tb2 _ (List.mem_of_getElem? (i := 124) rfl), List.forall_mem_cons.mpr ⟨tb2 _ (List.mem_of_getElem? (i := 125) rfl), List.forall_mem_cons.mpr ⟨tb2 _ (List.mem_of_getElem? (i := 98) rfl), List.forall_mem_cons.mpr ⟨tb2 _ (List.mem_of_getElem? (i := 99) rfl), List.forall_mem_cons.mpr ⟨tb2 _ (List.mem_of_getElem? (i := 100) rfl), List.forall_mem_cons.mpr ⟨tb3 _ (List.mem_of_getElem? (i := 33) rfl), List.forall_mem_cons.mpr ⟨tb3 _ (List.mem_of_getElem? (i := 34) rfl), List.forall_mem_cons.mpr ⟨tb3 _ (List.mem_of_getElem? (i := 35) rfl), List.forall_mem_cons.mpr ⟨tb3 _ (List.mem_of_getElem? (i := 50) rfl), List.forall_mem_cons.mpr ⟨tb3 _ (List.mem_of_getElem? (i := 51) rfl), List.forall_mem_cons.mpr ⟨tb3 _ (List.mem_of_getElem? (i := 52) rfl), List.forall_mem_cons.mpr ⟨tb3 _ (List.mem_of_getElem? (i := 60) rfl), List.forall_mem_cons.mpr ⟨tb3 _ (List.mem_of_getElem? (i := 61) rfl), fun _ h => absurd h List.not_mem_nil⟩⟩⟩⟩⟩⟩⟩⟩⟩⟩⟩⟩⟩⟩⟩⟩⟩⟩⟩⟩⟩⟩⟩⟩
def AC14 : List Cond := [.code yX5_colour cX5_colour 3 (some .int), .instanceMethod yX5_count, .selects RX5 yX5_count yX5_count, .code yX5_count cX5_count 2 (some .int), .instanceMethod yX5_ifFlown, .selects RX5 yX5_ifFlown yX5_ifFlown, .code yX5_ifFlown cX5_ifFlown 5 (some .int), .instanceMethod yX5_fly, .selects RX5 yX5_fly yX5_fly, .code yX5_fly cX5_fly 4 (some .int), .instanceMethod yX5_lift, .selects RX5 yX5_lift yX5_lift, .code yX5_lift cX5_lift 5 (some .int), .instantiable RX5 7, .instanceMethod yX5_init, .code yX5_init cX5_init 1 none, .instanceMethod yX5_why, .selects RX5 yX5_why yX5_why, .code yX5_why cX5_why 5 (some .int), .instanceMethod yX5_put, .selects RX5 yX5_put yX5_put, .code yX5_put cX5_put 5 (some .int), .instanceMethod yX5_set, .selects RX5 yX5_set yX5_set]
theorem AC14_in : ∀ w ∈ AC14, w ∈ lw_tbl := List.forall_mem_cons.mpr ⟨tb3 _ (List.mem_of_getElem? (i := 62) rfl), List.forall_mem_cons.mpr ⟨tb2 _ (List.mem_of_getElem? (i := 137) rfl), List.forall_mem_cons.mpr ⟨tb2 _ (List.mem_of_getElem? (i := 138) rfl), List.forall_mem_cons.mpr ⟨tb2 _ (List.mem_of_getElem? (i := 139) rfl), List.forall_mem_cons.mpr ⟨tb2 _ (List.mem_of_getElem? (i := 226) rfl), List.forall_mem_cons.mpr ⟨tb2 _ (List.mem_of_getElem? (i := 227) rfl), List.forall_mem_cons.mpr ⟨tb2 _ (List.mem_of_getElem? (i := 228) rfl), List.forall_mem_cons.mpr ⟨tb3 _ (List.mem_of_getElem? (i := 82) rfl), List.forall_mem_cons.mpr ⟨tb3 _ (List.mem_of_getElem? (i := 83) rfl), List.forall_mem_cons.mpr ⟨tb3 _ (List.mem_of_getElem? (i := 84) rfl), List.forall_mem_cons.mpr ⟨tb3 _ (List.mem_of_getElem? (i := 110) rfl), List.forall_mem_cons.mpr ⟨tb3 _ (List.mem_of_getElem? (i := 111) rfl), List.forall_mem_cons.mpr ⟨tb3 _ (List.mem_of_getElem? (i := 112) rfl), List.forall_mem_cons.mpr ⟨tb1 _ (List.mem_of_getElem? (i := 17) rfl), List.forall_mem_cons.mpr ⟨tb1 _ (List.mem_of_getElem? (i := 19) rfl), List.forall_mem_cons.mpr ⟨tb1 _ (List.mem_of_getElem? (i := 20) rfl), List.forall_mem_cons.mpr ⟨tb2 _ (List.mem_of_getElem? (i := 195) rfl), List.forall_mem_cons.mpr ⟨tb2 _ (List.mem_of_getElem? (i := 196) rfl), List.forall_mem_cons.mpr ⟨tb2 _ (List.mem_of_getElem? (i := 197) rfl), List.forall_mem_cons.mpr ⟨tb2 _ (List.mem_of_getElem? (i := 12) rfl), List.forall_mem_cons.mpr ⟨tb2 _ (List.mem_of_getElem? (i := 13) rfl), List.forall_mem_cons.mpr ⟨tb2 _ (List.mem_of_getElem? (i := 14) rfl), List.forall_mem_cons.mpr ⟨tb1 _ (List.mem_of_getElem? (i := 161) rfl), List.forall_mem_cons.mpr ⟨tb1 _ (List.mem_of_getElem? (i := 162) rfl), fun _ h => absurd h List.not_mem_nil⟩⟩⟩⟩⟩⟩⟩⟩⟩⟩⟩⟩⟩⟩⟩⟩⟩⟩⟩⟩⟩⟩⟩⟩
def AC15 : List Cond := [.code yX5_set cX5_set 3 (some .int)]
theorem AC15_in : ∀ w ∈ AC15, w ∈ lw_tbl := List.forall_mem_cons.mpr ⟨tb1 _ (List.mem_of_getElem? (i := 163) rfl), fun _ h => absurd h List.not_mem_nil⟩
theorem clsX0_in : ∀ w ∈ wsX00, w ∈ lw_tbl := by decide +kernel
theorem clsX1_in : ∀ w ∈ wsX10, w ∈ lw_tbl := by decide +kernel
theorem clsX2_in : ∀ w ∈ wsX20, w ∈ lw_tbl := by decide +kernel
theorem clsX3_in : ∀ w ∈ wsX30, w ∈ lw_tbl := by decide +kernel
theorem clsX4_in : ∀ w ∈ wsX40, w ∈ lw_tbl := by decide +kernel
theorem clsX5_in : ∀ w ∈ wsX50, w ∈ lw_tbl := by decide +kernel
theorem clsX6_in : ∀ w ∈ wsX60, w ∈ lw_tbl := by decide +kernel
theorem cV0_in : ∀ w ∈ (vx_atS RX5 67 "java/lang/IllegalStateException" ["java/lang/RuntimeException", "java/lang/Exception"]).filter goodWord, w ∈ lw_tbl := by decide +kernel
theorem cV1_in : ∀ w ∈ (vx_atS RX5 200 "java/lang/IndexOutOfBoundsException" ["java/lang/RuntimeException", "java/lang/Exception"]).filter goodWord, w ∈ lw_tbl := by decide +kernel
theorem cV2_in : ∀ w ∈ (vx_atS RX5 108 "java/lang/IllegalArgumentException" ["java/lang/RuntimeException", "java/lang/Exception"]).filter goodWord, w ∈ lw_tbl := by decide +kernel
def AW : List Cond := AC0 ++ (AC1 ++ (AC2 ++ (AC3 ++ (AC4 ++ (AC5 ++ (AC6 ++ (AC7 ++ (AC8 ++ (AC9 ++ (AC10 ++ (AC11 ++ (AC12 ++ (AC13 ++ (AC14 ++ (AC15 ++ (wsX00 ++ (wsX10 ++ (wsX20 ++ (wsX30 ++ (wsX40 ++ (wsX50 ++ (wsX60 ++ ((vx_atS RX5 67 "java/lang/IllegalStateException" ["java/lang/RuntimeException", "java/lang/Exception"]).filter goodWord ++ ((vx_atS RX5 200 "java/lang/IndexOutOfBoundsException" ["java/lang/RuntimeException", "java/lang/Exception"]).filter goodWord ++ ((vx_atS RX5 108 "java/lang/IllegalArgumentException" ["java/lang/RuntimeException", "java/lang/Exception"]).filter goodWord)))))))))))))))))))))))))
theorem ac0 : ∀ w ∈ AC0, w ∈ AW := fun _ h => List.mem_append_left _ h
theorem ac1 : ∀ w ∈ AC1, w ∈ AW := fun _ h => List.mem_append_right _ (List.mem_append_left _ h)
theorem ac2 : ∀ w ∈ AC2, w ∈ AW := fun _ h => List.mem_append_right _ (List.mem_append_right _ (List.mem_append_left _ h))
theorem ac3 : ∀ w ∈ AC3, w ∈ AW := fun _ h => List.mem_append_right _ (List.mem_append_right _ (List.mem_append_right _ (List.mem_append_left _ h)))
theorem ac4 : ∀ w ∈ AC4, w ∈ AW := fun _ h => List.mem_append_right _ (List.mem_append_right _ (List.mem_append_right _ (List.mem_append_right _ (List.mem_append_left _ h))))
theorem ac5 : ∀ w ∈ AC5, w ∈ AW := fun _ h => List.mem_append_right _ (List.mem_append_right _ (List.mem_append_right _ (List.mem_append_right _ (List.mem_append_right _ (List.mem_append_left _ h)))))
theorem ac6 : ∀ w ∈ AC6, w ∈ AW := fun _ h => List.mem_append_right _ (List.mem_append_right _ (List.mem_append_right _ (List.mem_append_right _ (List.mem_append_right _ (List.mem_append_right _ (List.mem_append_left _ h))))))
theorem ac7 : ∀ w ∈ AC7, w ∈ AW := fun _ h => List.mem_append_right _ (List.mem_append_right _ (List.mem_append_right _ (List.mem_append_right _ (List.mem_append_right _ (List.mem_append_right _ (List.mem_append_right _ (List.mem_append_left _ h)))))))
theorem ac8 : ∀ w ∈ AC8, w ∈ AW := fun _ h => List.mem_append_right _ (List.mem_append_right _ (List.mem_append_right _ (List.mem_append_right _ (List.mem_append_right _ (List.mem_append_right _ (List.mem_append_right _ (List.mem_append_right _ (List.mem_append_left _ h))))))))
theorem ac9 : ∀ w ∈ AC9, w ∈ AW := fun _ h => List.mem_append_right _ (List.mem_append_right _ (List.mem_append_right _ (List.mem_append_right _ (List.mem_append_right _ (List.mem_append_right _ (List.mem_append_right _ (List.mem_append_right _ (List.mem_append_right _ (List.mem_append_left _ h)))))))))
theorem ac10 : ∀ w ∈ AC10, w ∈ AW := fun _ h => List.mem_append_right _ (List.mem_append_right _ (List.mem_append_right _ (List.mem_append_right _ (List.mem_append_right _ (List.mem_append_right _ (List.mem_append_right _ (List.mem_append_right _ (List.mem_append_right _ (List.mem_append_right _ (List.mem_append_left _ h))))))))))
theorem ac11 : ∀ w ∈ AC11, w ∈ AW := fun _ h => List.mem_append_right _ (List.mem_append_right _ (List.mem_append_right _ (List.mem_append_right _ (List.mem_append_right _ (List.mem_append_right _ (List.mem_append_right _ (List.mem_append_right _ (List.mem_append_right _ (List.mem_append_right _ (List.mem_append_right _ (List.mem_append_left _ h)))))))))))
theorem ac12 : ∀ w ∈ AC12, w ∈ AW := fun _ h => List.mem_append_right _ (List.mem_append_right _ (List.mem_append_right _ (List.mem_append_right _ (List.mem_append_right _ (List.mem_append_right _ (List.mem_append_right _ (List.mem_append_right _ (List.mem_append_right _ (List.mem_append_right _ (List.mem_append_right _ (List.mem_append_right _ (List.mem_append_left _ h))))))))))))
theorem ac13 : ∀ w ∈ AC13, w ∈ AW := fun _ h => List.mem_append_right _ (List.mem_append_right _ (List.mem_append_right _ (List.mem_append_right _ (List.mem_append_right _ (List.mem_append_right _ (List.mem_append_right _ (List.mem_append_right _ (List.mem_append_right _ (List.mem_append_right _ (List.mem_append_right _ (List.mem_append_right _ (List.mem_append_right _ (List.mem_append_left _ h)))))))))))))
theorem ac14 : ∀ w ∈ AC14, w ∈ AW := fun _ h => List.mem_append_right _ (List.mem_append_right _ (List.mem_append_right _ (List.mem_append_right _ (List.mem_append_right _ (List.mem_append_right _ (List.mem_append_right _ (List.mem_append_right _ (List.mem_append_right _ (List.mem_append_right _ (List.mem_append_right _ (List.mem_append_right _ (List.mem_append_right _ (List.mem_append_right _ (List.mem_append_left _ h))))))))))))))
theorem ac15 : ∀ w ∈ AC15, w ∈ AW := fun _ h => List.mem_append_right _ (List.mem_append_right _ (List.mem_append_right _ (List.mem_append_right _ (List.mem_append_right _ (List.mem_append_right _ (List.mem_append_right _ (List.mem_append_right _ (List.mem_append_right _ (List.mem_append_right _ (List.mem_append_right _ (List.mem_append_right _ (List.mem_append_right _ (List.mem_append_right _ (List.mem_append_right _ (List.mem_append_left _ h)))))))))))))))
theorem acX0 : ∀ w ∈ wsX00, w ∈ AW := fun _ h => List.mem_append_right _ (List.mem_append_right _ (List.mem_append_right _ (List.mem_append_right _ (List.mem_append_right _ (List.mem_append_right _ (List.mem_append_right _ (List.mem_append_right _ (List.mem_append_right _ (List.mem_append_right _ (List.mem_append_right _ (List.mem_append_right _ (List.mem_append_right _ (List.mem_append_right _ (List.mem_append_right _ (List.mem_append_right _ (List.mem_append_left _ h))))))))))))))))
theorem acX1 : ∀ w ∈ wsX10, w ∈ AW := fun _ h => List.mem_append_right _ (List.mem_append_right _ (List.mem_append_right _ (List.mem_append_right _ (List.mem_append_right _ (List.mem_append_right _ (List.mem_append_right _ (List.mem_append_right _ (List.mem_append_right _ (List.mem_append_right _ (List.mem_append_right _ (List.mem_append_right _ (List.mem_append_right _ (List.mem_append_right _ (List.mem_append_right _ (List.mem_append_right _ (List.mem_append_right _ (List.mem_append_left _ h)))))))))))))))))
theorem acX2 : ∀ w ∈ wsX20, w ∈ AW := fun _ h => List.mem_append_right _ (List.mem_append_right _ (List.mem_append_right _ (List.mem_append_right _ (List.mem_append_right _ (List.mem_append_right _ (List.mem_append_right _ (List.mem_append_right _ (List.mem_append_right _ (List.mem_append_right _ (List.mem_append_right _ (List.mem_append_right _ (List.mem_append_right _ (List.mem_append_right _ (List.mem_append_right _ (List.mem_append_right _ (List.mem_append_right _ (List.mem_append_right _ (List.mem_append_left _ h))))))))))))))))))
theorem acX3 : ∀ w ∈ wsX30, w ∈ AW := fun _ h => List.mem_append_right _ (List.mem_append_right _ (List.mem_append_right _ (List.mem_append_right _ (List.mem_append_right _ (List.mem_append_right _ (List.mem_append_right _ (List.mem_append_right _ (List.mem_append_right _ (List.mem_append_right _ (List.mem_append_right _ (List.mem_append_right _ (List.mem_append_right _ (List.mem_append_right _ (List.mem_append_right _ (List.mem_append_right _ (List.mem_append_right _ (List.mem_append_right _ (List.mem_append_right _ (List.mem_append_left _ h)))))))))))))))))))
theorem acX4 : ∀ w ∈ wsX40, w ∈ AW := fun _ h => List.mem_append_right _ (List.mem_append_right _ (List.mem_append_right _ (List.mem_append_right _ (List.mem_append_right _ (List.mem_append_right _ (List.mem_append_right _ (List.mem_append_right _ (List.mem_append_right _ (List.mem_append_right _ (List.mem_append_right _ (List.mem_append_right _ (List.mem_append_right _ (List.mem_append_right _ (List.mem_append_right _ (List.mem_append_right _ (List.mem_append_right _ (List.mem_append_right _ (List.mem_append_right _ (List.mem_append_right _ (List.mem_append_left _ h))))))))))))))))))))
theorem acX5 : ∀ w ∈ wsX50, w ∈ AW := fun _ h => List.mem_append_right _ (List.mem_append_right _ (List.mem_append_right _ (List.mem_append_right _ (List.mem_append_right _ (List.mem_append_right _ (List.mem_append_right _ (List.mem_append_right _ (List.mem_append_right _ (List.mem_append_right _ (List.mem_append_right _ (List.mem_append_right _ (List.mem_append_right _ (List.mem_append_right _ (List.mem_append_right _ (List.mem_append_right _ (List.mem_append_right _ (List.mem_append_right _ (List.mem_append_right _ (List.mem_append_right _ (List.mem_append_right _ (List.mem_append_left _ h)))))))))))))))))))))
theorem acX6 : ∀ w ∈ wsX60, w ∈ AW := fun _ h => List.mem_append_right _ (List.mem_append_right _ (List.mem_append_right _ (List.mem_append_right _ (List.mem_append_right _ (List.mem_append_right _ (List.mem_append_right _ (List.mem_append_right _ (List.mem_append_right _ (List.mem_append_right _ (List.mem_append_right _ (List.mem_append_right _ (List.mem_append_right _ (List.mem_append_right _ (List.mem_append_right _ (List.mem_append_right _ (List.mem_append_right _ (List.mem_append_right _ (List.mem_append_right _ (List.mem_append_right _ (List.mem_append_right _ (List.mem_append_right _ (List.mem_append_left _ h))))))))))))))))))))))
theorem acV0 : ∀ w ∈ (vx_atS RX5 67 "java/lang/IllegalStateException" ["java/lang/RuntimeException", "java/lang/Exception"]).filter goodWord, w ∈ AW := fun _ h => List.mem_append_right _ (List.mem_append_right _ (List.mem_append_right _ (List.mem_append_right _ (List.mem_append_right _ (List.mem_append_right _ (List.mem_append_right _ (List.mem_append_right _ (List.mem_append_right _ (List.mem_append_right _ (List.mem_append_right _ (List.mem_append_right _ (List.mem_append_right _ (List.mem_append_right _ (List.mem_append_right _ (List.mem_append_right _ (List.mem_append_right _ (List.mem_append_right _ (List.mem_append_right _ (List.mem_append_right _ (List.mem_append_right _ (List.mem_append_right _ (List.mem_append_right _ (List.mem_append_left _ h)))))))))))))))))))))))
theorem acV1 : ∀ w ∈ (vx_atS RX5 200 "java/lang/IndexOutOfBoundsException" ["java/lang/RuntimeException", "java/lang/Exception"]).filter goodWord, w ∈ AW := fun _ h => List.mem_append_right _ (List.mem_append_right _ (List.mem_append_right _ (List.mem_append_right _ (List.mem_append_right _ (List.mem_append_right _ (List.mem_append_right _ (List.mem_append_right _ (List.mem_append_right _ (List.mem_append_right _ (List.mem_append_right _ (List.mem_append_right _ (List.mem_append_right _ (List.mem_append_right _ (List.mem_append_right _ (List.mem_append_right _ (List.mem_append_right _ (List.mem_append_right _ (List.mem_append_right _ (List.mem_append_right _ (List.mem_append_right _ (List.mem_append_right _ (List.mem_append_right _ (List.mem_append_right _ (List.mem_append_left _ h))))))))))))))))))))))))
theorem acV2 : ∀ w ∈ (vx_atS RX5 108 "java/lang/IllegalArgumentException" ["java/lang/RuntimeException", "java/lang/Exception"]).filter goodWord, w ∈ AW := fun _ h => List.mem_append_right _ (List.mem_append_right _ (List.mem_append_right _ (List.mem_append_right _ (List.mem_append_right _ (List.mem_append_right _ (List.mem_append_right _ (List.mem_append_right _ (List.mem_append_right _ (List.mem_append_right _ (List.mem_append_right _ (List.mem_append_right _ (List.mem_append_right _ (List.mem_append_right _ (List.mem_append_right _ (List.mem_append_right _ (List.mem_append_right _ (List.mem_append_right _ (List.mem_append_right _ (List.mem_append_right _ (List.mem_append_right _ (List.mem_append_right _ (List.mem_append_right _ (List.mem_append_right _ (List.mem_append_right _ (h)))))))))))))))))))))))))
theorem AW_good : AW.all goodWord = true := by decide +kernel
theorem AW_in : ∀ w ∈ AW, w ∈ lw_tbl := fun _ h => (List.mem_append.mp h).elim (fun h => AC0_in _ h) (fun h => (List.mem_append.mp h).elim (fun h => AC1_in _ h) (fun h => (List.mem_append.mp h).elim (fun h => AC2_in _ h) (fun h => (List.mem_append.mp h).elim (fun h => AC3_in _ h) (fun h => (List.mem_append.mp h).elim (fun h => AC4_in _ h) (fun h => (List.mem_append.mp h).elim (fun h => AC5_in _ h) (fun h => (List.mem_append.mp h).elim (fun h => AC6_in _ h) (fun h => (List.mem_append.mp h).elim (fun h => AC7_in _ h) (fun h => (List.mem_append.mp h).elim (fun h => AC8_in _ h) (fun h => (List.mem_append.mp h).elim (fun h => AC9_in _ h) (fun h => (List.mem_append.mp h).elim (fun h => AC10_in _ h) (fun h => (List.mem_append.mp h).elim (fun h => AC11_in _ h) (fun h => (List.mem_append.mp h).elim (fun h => AC12_in _ h) (fun h => (List.mem_append.mp h).elim (fun h => AC13_in _ h) (fun h => (List.mem_append.mp h).elim (fun h => AC14_in _ h) (fun h => (List.mem_append.mp h).elim (fun h => AC15_in _ h) (fun h => (List.mem_append.mp h).elim (fun h => clsX0_in _ h) (fun h => (List.mem_append.mp h).elim (fun h => clsX1_in _ h) (fun h => (List.mem_append.mp h).elim (fun h => clsX2_in _ h) (fun h => (List.mem_append.mp h).elim (fun h => clsX3_in _ h) (fun h => (List.mem_append.mp h).elim (fun h => clsX4_in _ h) (fun h => (List.mem_append.mp h).elim (fun h => clsX5_in _ h) (fun h => (List.mem_append.mp h).elim (fun h => clsX6_in _ h) (fun h => (List.mem_append.mp h).elim (fun h => cV0_in _ h) (fun h => (List.mem_append.mp h).elim (fun h => cV1_in _ h) (fun h => cV2_in _ h)))))))))))))))))))))))))
theorem mcX0_init : Cond.code yX0_init cX0_init 1 none ∈ AW := ac8 _ (List.mem_of_getElem? (i := 6) rfl)
theorem miX0_init : Cond.instanceMethod yX0_init ∈ AW := ac8 _ (List.mem_of_getElem? (i := 5) rfl)
theorem hdX0_init : yX0_init.cls ≠ "java/lang/invoke/MethodHandle" ∧ yX0_init.cls ≠ "java/lang/invoke/VarHandle" ∧ (parseMethodDescriptor yX0_init.desc).map (fun d => d.parameters.length) = some 0 := by decide +kernel
theorem mcX5_colourOf : Cond.code yX5_colourOf cX5_colourOf 1 (some .int) ∈ AW := ac0 _ (List.mem_of_getElem? (i := 15) rfl)
theorem msX5_colourOf : Cond.static yX5_colourOf ∈ AW := ac0 _ (List.mem_of_getElem? (i := 14) rfl)
theorem hdX5_colourOf : yX5_colourOf.cls ≠ "java/lang/invoke/MethodHandle" ∧ yX5_colourOf.cls ≠ "java/lang/invoke/VarHandle" ∧ (parseMethodDescriptor yX5_colourOf.desc).map (fun d => d.parameters.length) = some 1 := by decide +kernel
theorem mcX5_cellAt : Cond.code yX5_cellAt cX5_cellAt 2 (some .int) ∈ AW := ac0 _ (List.mem_of_getElem? (i := 9) rfl)
theorem msX5_cellAt : Cond.static yX5_cellAt ∈ AW := ac0 _ (List.mem_of_getElem? (i := 7) rfl)
theorem hdX5_cellAt : yX5_cellAt.cls ≠ "java/lang/invoke/MethodHandle" ∧ yX5_cellAt.cls ≠ "java/lang/invoke/VarHandle" ∧ (parseMethodDescriptor yX5_cellAt.desc).map (fun d => d.parameters.length) = some 2 := by decide +kernel
theorem mcX5_baseOf : Cond.code yX5_baseOf cX5_baseOf 1 (some .int) ∈ AW := ac0 _ (List.mem_of_getElem? (i := 17) rfl)
theorem msX5_baseOf : Cond.static yX5_baseOf ∈ AW := ac0 _ (List.mem_of_getElem? (i := 16) rfl)
theorem hdX5_baseOf : yX5_baseOf.cls ≠ "java/lang/invoke/MethodHandle" ∧ yX5_baseOf.cls ≠ "java/lang/invoke/VarHandle" ∧ (parseMethodDescriptor yX5_baseOf.desc).map (fun d => d.parameters.length) = some 1 := by decide +kernel
theorem mcX1_init : Cond.code yX1_init cX1_init 3 none ∈ AW := ac4 _ (List.mem_of_getElem? (i := 1) rfl)
theorem miX1_init : Cond.instanceMethod yX1_init ∈ AW := ac4 _ (List.mem_of_getElem? (i := 0) rfl)
theorem hdX1_init : yX1_init.cls ≠ "java/lang/invoke/MethodHandle" ∧ yX1_init.cls ≠ "java/lang/invoke/VarHandle" ∧ (parseMethodDescriptor yX1_init.desc).map (fun d => d.parameters.length) = some 0 := by decide +kernel
theorem mcX1_copyFrom : Cond.code yX1_copyFrom cX1_copyFrom 2 none ∈ AW := ac4 _ (List.mem_of_getElem? (i := 15) rfl)
theorem miX1_copyFrom : Cond.instanceMethod yX1_copyFrom ∈ AW := ac4 _ (List.mem_of_getElem? (i := 13) rfl)
theorem meX1_copyFrom : Cond.selects RX1 yX1_copyFrom yX1_copyFrom ∈ AW := ac4 _ (List.mem_of_getElem? (i := 14) rfl)
theorem hdX1_copyFrom : yX1_copyFrom.cls ≠ "java/lang/invoke/MethodHandle" ∧ yX1_copyFrom.cls ≠ "java/lang/invoke/VarHandle" ∧ (parseMethodDescriptor yX1_copyFrom.desc).map (fun d => d.parameters.length) = some 1 := by decide +kernel
theorem mcX5_isWink : Cond.code yX5_isWink cX5_isWink 1 (some .boolean) ∈ AW := ac0 _ (List.mem_of_getElem? (i := 23) rfl)
theorem msX5_isWink : Cond.static yX5_isWink ∈ AW := ac0 _ (List.mem_of_getElem? (i := 22) rfl)
theorem hdX5_isWink : yX5_isWink.cls ≠ "java/lang/invoke/MethodHandle" ∧ yX5_isWink.cls ≠ "java/lang/invoke/VarHandle" ∧ (parseMethodDescriptor yX5_isWink.desc).map (fun d => d.parameters.length) = some 1 := by decide +kernel
theorem mcX1_setCells : Cond.code yX1_setCells cX1_setCells 5 none ∈ AW := ac1 _ (List.mem_of_getElem? (i := 4) rfl)
theorem miX1_setCells : Cond.instanceMethod yX1_setCells ∈ AW := ac1 _ (List.mem_of_getElem? (i := 1) rfl)
theorem meX1_setCells : Cond.selects RX1 yX1_setCells yX1_setCells ∈ AW := ac1 _ (List.mem_of_getElem? (i := 2) rfl)
theorem hdX1_setCells : yX1_setCells.cls ≠ "java/lang/invoke/MethodHandle" ∧ yX1_setCells.cls ≠ "java/lang/invoke/VarHandle" ∧ (parseMethodDescriptor yX1_setCells.desc).map (fun d => d.parameters.length) = some 2 := by decide +kernel
theorem mcX1_separate : Cond.code yX1_separate cX1_separate 5 none ∈ AW := ac1 _ (List.mem_of_getElem? (i := 8) rfl)
theorem miX1_separate : Cond.instanceMethod yX1_separate ∈ AW := ac1 _ (List.mem_of_getElem? (i := 6) rfl)
theorem meX1_separate : Cond.selects RX1 yX1_separate yX1_separate ∈ AW := ac1 _ (List.mem_of_getElem? (i := 7) rfl)
theorem hdX1_separate : yX1_separate.cls ≠ "java/lang/invoke/MethodHandle" ∧ yX1_separate.cls ≠ "java/lang/invoke/VarHandle" ∧ (parseMethodDescriptor yX1_separate.desc).map (fun d => d.parameters.length) = some 1 := by decide +kernel
theorem mcX1_topAt : Cond.code yX1_topAt cX1_topAt 3 (some .int) ∈ AW := ac1 _ (List.mem_of_getElem? (i := 12) rfl)
theorem miX1_topAt : Cond.instanceMethod yX1_topAt ∈ AW := ac1 _ (List.mem_of_getElem? (i := 10) rfl)
theorem meX1_topAt : Cond.selects RX1 yX1_topAt yX1_topAt ∈ AW := ac1 _ (List.mem_of_getElem? (i := 11) rfl)
theorem hdX1_topAt : yX1_topAt.cls ≠ "java/lang/invoke/MethodHandle" ∧ yX1_topAt.cls ≠ "java/lang/invoke/VarHandle" ∧ (parseMethodDescriptor yX1_topAt.desc).map (fun d => d.parameters.length) = some 1 := by decide +kernel
theorem mcX1_move : Cond.code yX1_move cX1_move 5 none ∈ AW := ac7 _ (List.mem_of_getElem? (i := 1) rfl)
theorem miX1_move : Cond.instanceMethod yX1_move ∈ AW := ac6 _ (List.mem_of_getElem? (i := 23) rfl)
theorem meX1_move : Cond.selects RX1 yX1_move yX1_move ∈ AW := ac7 _ (List.mem_of_getElem? (i := 0) rfl)
theorem hdX1_move : yX1_move.cls ≠ "java/lang/invoke/MethodHandle" ∧ yX1_move.cls ≠ "java/lang/invoke/VarHandle" ∧ (parseMethodDescriptor yX1_move.desc).map (fun d => d.parameters.length) = some 2 := by decide +kernel
theorem mcX1_isPotted : Cond.code yX1_isPotted cX1_isPotted 2 (some .boolean) ∈ AW := ac1 _ (List.mem_of_getElem? (i := 16) rfl)
theorem miX1_isPotted : Cond.instanceMethod yX1_isPotted ∈ AW := ac1 _ (List.mem_of_getElem? (i := 14) rfl)
theorem meX1_isPotted : Cond.selects RX1 yX1_isPotted yX1_isPotted ∈ AW := ac1 _ (List.mem_of_getElem? (i := 15) rfl)
theorem hdX1_isPotted : yX1_isPotted.cls ≠ "java/lang/invoke/MethodHandle" ∧ yX1_isPotted.cls ≠ "java/lang/invoke/VarHandle" ∧ (parseMethodDescriptor yX1_isPotted.desc).map (fun d => d.parameters.length) = some 1 := by decide +kernel
theorem mcX1_isCovered : Cond.code yX1_isCovered cX1_isCovered 2 (some .boolean) ∈ AW := ac2 _ (List.mem_of_getElem? (i := 8) rfl)
theorem miX1_isCovered : Cond.instanceMethod yX1_isCovered ∈ AW := ac2 _ (List.mem_of_getElem? (i := 6) rfl)
theorem meX1_isCovered : Cond.selects RX1 yX1_isCovered yX1_isCovered ∈ AW := ac2 _ (List.mem_of_getElem? (i := 7) rfl)
theorem hdX1_isCovered : yX1_isCovered.cls ≠ "java/lang/invoke/MethodHandle" ∧ yX1_isCovered.cls ≠ "java/lang/invoke/VarHandle" ∧ (parseMethodDescriptor yX1_isCovered.desc).map (fun d => d.parameters.length) = some 1 := by decide +kernel
theorem mcX1_placeOf : Cond.code yX1_placeOf cX1_placeOf 5 (some .int) ∈ AW := ac10 _ (List.mem_of_getElem? (i := 11) rfl)
theorem miX1_placeOf : Cond.instanceMethod yX1_placeOf ∈ AW := ac10 _ (List.mem_of_getElem? (i := 9) rfl)
theorem meX1_placeOf : Cond.selects RX1 yX1_placeOf yX1_placeOf ∈ AW := ac10 _ (List.mem_of_getElem? (i := 10) rfl)
theorem hdX1_placeOf : yX1_placeOf.cls ≠ "java/lang/invoke/MethodHandle" ∧ yX1_placeOf.cls ≠ "java/lang/invoke/VarHandle" ∧ (parseMethodDescriptor yX1_placeOf.desc).map (fun d => d.parameters.length) = some 1 := by decide +kernel
theorem mcX1_bottomAt : Cond.code yX1_bottomAt cX1_bottomAt 3 (some .int) ∈ AW := ac10 _ (List.mem_of_getElem? (i := 16) rfl)
theorem miX1_bottomAt : Cond.instanceMethod yX1_bottomAt ∈ AW := ac10 _ (List.mem_of_getElem? (i := 14) rfl)
theorem meX1_bottomAt : Cond.selects RX1 yX1_bottomAt yX1_bottomAt ∈ AW := ac10 _ (List.mem_of_getElem? (i := 15) rfl)
theorem hdX1_bottomAt : yX1_bottomAt.cls ≠ "java/lang/invoke/MethodHandle" ∧ yX1_bottomAt.cls ≠ "java/lang/invoke/VarHandle" ∧ (parseMethodDescriptor yX1_bottomAt.desc).map (fun d => d.parameters.length) = some 1 := by decide +kernel
theorem mcX1_lowestOfUpper : Cond.code yX1_lowestOfUpper cX1_lowestOfUpper 5 (some .int) ∈ AW := ac6 _ (List.mem_of_getElem? (i := 8) rfl)
theorem miX1_lowestOfUpper : Cond.instanceMethod yX1_lowestOfUpper ∈ AW := ac6 _ (List.mem_of_getElem? (i := 6) rfl)
theorem meX1_lowestOfUpper : Cond.selects RX1 yX1_lowestOfUpper yX1_lowestOfUpper ∈ AW := ac6 _ (List.mem_of_getElem? (i := 7) rfl)
theorem hdX1_lowestOfUpper : yX1_lowestOfUpper.cls ≠ "java/lang/invoke/MethodHandle" ∧ yX1_lowestOfUpper.cls ≠ "java/lang/invoke/VarHandle" ∧ (parseMethodDescriptor yX1_lowestOfUpper.desc).map (fun d => d.parameters.length) = some 2 := by decide +kernel
theorem mcX1_heightAt : Cond.code yX1_heightAt cX1_heightAt 4 (some .int) ∈ AW := ac2 _ (List.mem_of_getElem? (i := 4) rfl)
theorem miX1_heightAt : Cond.instanceMethod yX1_heightAt ∈ AW := ac2 _ (List.mem_of_getElem? (i := 2) rfl)
theorem meX1_heightAt : Cond.selects RX1 yX1_heightAt yX1_heightAt ∈ AW := ac2 _ (List.mem_of_getElem? (i := 3) rfl)
theorem hdX1_heightAt : yX1_heightAt.cls ≠ "java/lang/invoke/MethodHandle" ∧ yX1_heightAt.cls ≠ "java/lang/invoke/VarHandle" ∧ (parseMethodDescriptor yX1_heightAt.desc).map (fun d => d.parameters.length) = some 1 := by decide +kernel
theorem mcX1_coloursAt : Cond.code yX1_coloursAt cX1_coloursAt 4 (some .int) ∈ AW := ac10 _ (List.mem_of_getElem? (i := 20) rfl)
theorem miX1_coloursAt : Cond.instanceMethod yX1_coloursAt ∈ AW := ac10 _ (List.mem_of_getElem? (i := 18) rfl)
theorem meX1_coloursAt : Cond.selects RX1 yX1_coloursAt yX1_coloursAt ∈ AW := ac10 _ (List.mem_of_getElem? (i := 19) rfl)
theorem hdX1_coloursAt : yX1_coloursAt.cls ≠ "java/lang/invoke/MethodHandle" ∧ yX1_coloursAt.cls ≠ "java/lang/invoke/VarHandle" ∧ (parseMethodDescriptor yX1_coloursAt.desc).map (fun d => d.parameters.length) = some 1 := by decide +kernel
theorem mcX1_isBottom : Cond.code yX1_isBottom cX1_isBottom 2 (some .boolean) ∈ AW := ac1 _ (List.mem_of_getElem? (i := 20) rfl)
theorem miX1_isBottom : Cond.instanceMethod yX1_isBottom ∈ AW := ac1 _ (List.mem_of_getElem? (i := 18) rfl)
theorem meX1_isBottom : Cond.selects RX1 yX1_isBottom yX1_isBottom ∈ AW := ac1 _ (List.mem_of_getElem? (i := 19) rfl)
theorem hdX1_isBottom : yX1_isBottom.cls ≠ "java/lang/invoke/MethodHandle" ∧ yX1_isBottom.cls ≠ "java/lang/invoke/VarHandle" ∧ (parseMethodDescriptor yX1_isBottom.desc).map (fun d => d.parameters.length) = some 1 := by decide +kernel
theorem mcX1_piles : Cond.code yX1_piles cX1_piles 3 (some .int) ∈ AW := ac11 _ (List.mem_of_getElem? (i := 22) rfl)
theorem miX1_piles : Cond.instanceMethod yX1_piles ∈ AW := ac11 _ (List.mem_of_getElem? (i := 20) rfl)
theorem meX1_piles : Cond.selects RX1 yX1_piles yX1_piles ∈ AW := ac11 _ (List.mem_of_getElem? (i := 21) rfl)
theorem hdX1_piles : yX1_piles.cls ≠ "java/lang/invoke/MethodHandle" ∧ yX1_piles.cls ≠ "java/lang/invoke/VarHandle" ∧ (parseMethodDescriptor yX1_piles.desc).map (fun d => d.parameters.length) = some 0 := by decide +kernel
theorem mcX1_highest : Cond.code yX1_highest cX1_highest 3 (some .int) ∈ AW := ac12 _ (List.mem_of_getElem? (i := 2) rfl)
theorem miX1_highest : Cond.instanceMethod yX1_highest ∈ AW := ac12 _ (List.mem_of_getElem? (i := 0) rfl)
theorem meX1_highest : Cond.selects RX1 yX1_highest yX1_highest ∈ AW := ac12 _ (List.mem_of_getElem? (i := 1) rfl)
theorem hdX1_highest : yX1_highest.cls ≠ "java/lang/invoke/MethodHandle" ∧ yX1_highest.cls ≠ "java/lang/invoke/VarHandle" ∧ (parseMethodDescriptor yX1_highest.desc).map (fun d => d.parameters.length) = some 0 := by decide +kernel
theorem mcX1_coveredByPiles : Cond.code yX1_coveredByPiles cX1_coveredByPiles 3 (some .int) ∈ AW := ac11 _ (List.mem_of_getElem? (i := 14) rfl)
theorem miX1_coveredByPiles : Cond.instanceMethod yX1_coveredByPiles ∈ AW := ac11 _ (List.mem_of_getElem? (i := 12) rfl)
theorem meX1_coveredByPiles : Cond.selects RX1 yX1_coveredByPiles yX1_coveredByPiles ∈ AW := ac11 _ (List.mem_of_getElem? (i := 13) rfl)
theorem hdX1_coveredByPiles : yX1_coveredByPiles.cls ≠ "java/lang/invoke/MethodHandle" ∧ yX1_coveredByPiles.cls ≠ "java/lang/invoke/VarHandle" ∧ (parseMethodDescriptor yX1_coveredByPiles.desc).map (fun d => d.parameters.length) = some 0 := by decide +kernel
theorem mcX1_coveredOf : Cond.code yX1_coveredOf cX1_coveredOf 4 (some .int) ∈ AW := ac2 _ (List.mem_of_getElem? (i := 12) rfl)
theorem miX1_coveredOf : Cond.instanceMethod yX1_coveredOf ∈ AW := ac2 _ (List.mem_of_getElem? (i := 10) rfl)
theorem meX1_coveredOf : Cond.selects RX1 yX1_coveredOf yX1_coveredOf ∈ AW := ac2 _ (List.mem_of_getElem? (i := 11) rfl)
theorem hdX1_coveredOf : yX1_coveredOf.cls ≠ "java/lang/invoke/MethodHandle" ∧ yX1_coveredOf.cls ≠ "java/lang/invoke/VarHandle" ∧ (parseMethodDescriptor yX1_coveredOf.desc).map (fun d => d.parameters.length) = some 1 := by decide +kernel
theorem mcX1_coveredOfTeam : Cond.code yX1_coveredOfTeam cX1_coveredOfTeam 2 (some .int) ∈ AW := ac2 _ (List.mem_of_getElem? (i := 16) rfl)
theorem miX1_coveredOfTeam : Cond.instanceMethod yX1_coveredOfTeam ∈ AW := ac2 _ (List.mem_of_getElem? (i := 14) rfl)
theorem meX1_coveredOfTeam : Cond.selects RX1 yX1_coveredOfTeam yX1_coveredOfTeam ∈ AW := ac2 _ (List.mem_of_getElem? (i := 15) rfl)
theorem hdX1_coveredOfTeam : yX1_coveredOfTeam.cls ≠ "java/lang/invoke/MethodHandle" ∧ yX1_coveredOfTeam.cls ≠ "java/lang/invoke/VarHandle" ∧ (parseMethodDescriptor yX1_coveredOfTeam.desc).map (fun d => d.parameters.length) = some 1 := by decide +kernel
theorem mcX1_coveredByWinks : Cond.code yX1_coveredByWinks cX1_coveredByWinks 1 (some .int) ∈ AW := ac11 _ (List.mem_of_getElem? (i := 18) rfl)
theorem miX1_coveredByWinks : Cond.instanceMethod yX1_coveredByWinks ∈ AW := ac11 _ (List.mem_of_getElem? (i := 16) rfl)
theorem meX1_coveredByWinks : Cond.selects RX1 yX1_coveredByWinks yX1_coveredByWinks ∈ AW := ac11 _ (List.mem_of_getElem? (i := 17) rfl)
theorem hdX1_coveredByWinks : yX1_coveredByWinks.cls ≠ "java/lang/invoke/MethodHandle" ∧ yX1_coveredByWinks.cls ≠ "java/lang/invoke/VarHandle" ∧ (parseMethodDescriptor yX1_coveredByWinks.desc).map (fun d => d.parameters.length) = some 0 := by decide +kernel
theorem mcX1_pottedOf : Cond.code yX1_pottedOf cX1_pottedOf 4 (some .int) ∈ AW := ac2 _ (List.mem_of_getElem? (i := 20) rfl)
theorem miX1_pottedOf : Cond.instanceMethod yX1_pottedOf ∈ AW := ac2 _ (List.mem_of_getElem? (i := 18) rfl)
theorem meX1_pottedOf : Cond.selects RX1 yX1_pottedOf yX1_pottedOf ∈ AW := ac2 _ (List.mem_of_getElem? (i := 19) rfl)
theorem hdX1_pottedOf : yX1_pottedOf.cls ≠ "java/lang/invoke/MethodHandle" ∧ yX1_pottedOf.cls ≠ "java/lang/invoke/VarHandle" ∧ (parseMethodDescriptor yX1_pottedOf.desc).map (fun d => d.parameters.length) = some 1 := by decide +kernel
theorem mcX1_potted : Cond.code yX1_potted cX1_potted 3 (some .int) ∈ AW := ac11 _ (List.mem_of_getElem? (i := 10) rfl)
theorem miX1_potted : Cond.instanceMethod yX1_potted ∈ AW := ac11 _ (List.mem_of_getElem? (i := 8) rfl)
theorem meX1_potted : Cond.selects RX1 yX1_potted yX1_potted ∈ AW := ac11 _ (List.mem_of_getElem? (i := 9) rfl)
theorem hdX1_potted : yX1_potted.cls ≠ "java/lang/invoke/MethodHandle" ∧ yX1_potted.cls ≠ "java/lang/invoke/VarHandle" ∧ (parseMethodDescriptor yX1_potted.desc).map (fun d => d.parameters.length) = some 0 := by decide +kernel
theorem mcX1_isAllPotted : Cond.code yX1_isAllPotted cX1_isAllPotted 2 (some .boolean) ∈ AW := ac3 _ (List.mem_of_getElem? (i := 0) rfl)
theorem miX1_isAllPotted : Cond.instanceMethod yX1_isAllPotted ∈ AW := ac2 _ (List.mem_of_getElem? (i := 22) rfl)
theorem meX1_isAllPotted : Cond.selects RX1 yX1_isAllPotted yX1_isAllPotted ∈ AW := ac2 _ (List.mem_of_getElem? (i := 23) rfl)
theorem hdX1_isAllPotted : yX1_isAllPotted.cls ≠ "java/lang/invoke/MethodHandle" ∧ yX1_isAllPotted.cls ≠ "java/lang/invoke/VarHandle" ∧ (parseMethodDescriptor yX1_isAllPotted.desc).map (fun d => d.parameters.length) = some 1 := by decide +kernel
theorem mcX1_isOver : Cond.code yX1_isOver cX1_isOver 2 (some .boolean) ∈ AW := ac6 _ (List.mem_of_getElem? (i := 2) rfl)
theorem miX1_isOver : Cond.instanceMethod yX1_isOver ∈ AW := ac6 _ (List.mem_of_getElem? (i := 0) rfl)
theorem meX1_isOver : Cond.selects RX1 yX1_isOver yX1_isOver ∈ AW := ac6 _ (List.mem_of_getElem? (i := 1) rfl)
theorem hdX1_isOver : yX1_isOver.cls ≠ "java/lang/invoke/MethodHandle" ∧ yX1_isOver.cls ≠ "java/lang/invoke/VarHandle" ∧ (parseMethodDescriptor yX1_isOver.desc).map (fun d => d.parameters.length) = some 0 := by decide +kernel
theorem mcX1_pointsOf : Cond.code yX1_pointsOf cX1_pointsOf 6 (some .int) ∈ AW := ac3 _ (List.mem_of_getElem? (i := 4) rfl)
theorem miX1_pointsOf : Cond.instanceMethod yX1_pointsOf ∈ AW := ac3 _ (List.mem_of_getElem? (i := 2) rfl)
theorem meX1_pointsOf : Cond.selects RX1 yX1_pointsOf yX1_pointsOf ∈ AW := ac3 _ (List.mem_of_getElem? (i := 3) rfl)
theorem hdX1_pointsOf : yX1_pointsOf.cls ≠ "java/lang/invoke/MethodHandle" ∧ yX1_pointsOf.cls ≠ "java/lang/invoke/VarHandle" ∧ (parseMethodDescriptor yX1_pointsOf.desc).map (fun d => d.parameters.length) = some 1 := by decide +kernel
theorem mcX1_pointsOfTeam : Cond.code yX1_pointsOfTeam cX1_pointsOfTeam 2 (some .int) ∈ AW := ac3 _ (List.mem_of_getElem? (i := 8) rfl)
theorem miX1_pointsOfTeam : Cond.instanceMethod yX1_pointsOfTeam ∈ AW := ac3 _ (List.mem_of_getElem? (i := 6) rfl)
theorem meX1_pointsOfTeam : Cond.selects RX1 yX1_pointsOfTeam yX1_pointsOfTeam ∈ AW := ac3 _ (List.mem_of_getElem? (i := 7) rfl)
theorem hdX1_pointsOfTeam : yX1_pointsOfTeam.cls ≠ "java/lang/invoke/MethodHandle" ∧ yX1_pointsOfTeam.cls ≠ "java/lang/invoke/VarHandle" ∧ (parseMethodDescriptor yX1_pointsOfTeam.desc).map (fun d => d.parameters.length) = some 1 := by decide +kernel
theorem mcX1_leadOf : Cond.code yX1_leadOf cX1_leadOf 2 (some .int) ∈ AW := ac13 _ (List.mem_of_getElem? (i := 4) rfl)
theorem miX1_leadOf : Cond.instanceMethod yX1_leadOf ∈ AW := ac13 _ (List.mem_of_getElem? (i := 2) rfl)
theorem meX1_leadOf : Cond.selects RX1 yX1_leadOf yX1_leadOf ∈ AW := ac13 _ (List.mem_of_getElem? (i := 3) rfl)
theorem hdX1_leadOf : yX1_leadOf.cls ≠ "java/lang/invoke/MethodHandle" ∧ yX1_leadOf.cls ≠ "java/lang/invoke/VarHandle" ∧ (parseMethodDescriptor yX1_leadOf.desc).map (fun d => d.parameters.length) = some 1 := by decide +kernel
theorem mcX1_liesBelow : Cond.code yX1_liesBelow cX1_liesBelow 5 (some .boolean) ∈ AW := ac3 _ (List.mem_of_getElem? (i := 12) rfl)
theorem miX1_liesBelow : Cond.instanceMethod yX1_liesBelow ∈ AW := ac3 _ (List.mem_of_getElem? (i := 10) rfl)
theorem meX1_liesBelow : Cond.selects RX1 yX1_liesBelow yX1_liesBelow ∈ AW := ac3 _ (List.mem_of_getElem? (i := 11) rfl)
theorem hdX1_liesBelow : yX1_liesBelow.cls ≠ "java/lang/invoke/MethodHandle" ∧ yX1_liesBelow.cls ≠ "java/lang/invoke/VarHandle" ∧ (parseMethodDescriptor yX1_liesBelow.desc).map (fun d => d.parameters.length) = some 2 := by decide +kernel
theorem mcX1_othersBelow : Cond.code yX1_othersBelow cX1_othersBelow 4 (some .int) ∈ AW := ac11 _ (List.mem_of_getElem? (i := 6) rfl)
theorem miX1_othersBelow : Cond.instanceMethod yX1_othersBelow ∈ AW := ac11 _ (List.mem_of_getElem? (i := 4) rfl)
theorem meX1_othersBelow : Cond.selects RX1 yX1_othersBelow yX1_othersBelow ∈ AW := ac11 _ (List.mem_of_getElem? (i := 5) rfl)
theorem hdX1_othersBelow : yX1_othersBelow.cls ≠ "java/lang/invoke/MethodHandle" ∧ yX1_othersBelow.cls ≠ "java/lang/invoke/VarHandle" ∧ (parseMethodDescriptor yX1_othersBelow.desc).map (fun d => d.parameters.length) = some 1 := by decide +kernel
theorem mcX4_init : Cond.code yX4_init cX4_init 1 none ∈ AW := ac4 _ (List.mem_of_getElem? (i := 10) rfl)
theorem miX4_init : Cond.instanceMethod yX4_init ∈ AW := ac4 _ (List.mem_of_getElem? (i := 9) rfl)
theorem hdX4_init : yX4_init.cls ≠ "java/lang/invoke/MethodHandle" ∧ yX4_init.cls ≠ "java/lang/invoke/VarHandle" ∧ (parseMethodDescriptor yX4_init.desc).map (fun d => d.parameters.length) = some 0 := by decide +kernel
theorem mcX2_init : Cond.code yX2_init cX2_init 2 none ∈ AW := ac8 _ (List.mem_of_getElem? (i := 4) rfl)
theorem miX2_init : Cond.instanceMethod yX2_init ∈ AW := ac8 _ (List.mem_of_getElem? (i := 3) rfl)
theorem hdX2_init : yX2_init.cls ≠ "java/lang/invoke/MethodHandle" ∧ yX2_init.cls ≠ "java/lang/invoke/VarHandle" ∧ (parseMethodDescriptor yX2_init.desc).map (fun d => d.parameters.length) = some 0 := by decide +kernel
theorem mcX4_copyFrom : Cond.code yX4_copyFrom cX4_copyFrom 2 none ∈ AW := ac4 _ (List.mem_of_getElem? (i := 22) rfl)
theorem miX4_copyFrom : Cond.instanceMethod yX4_copyFrom ∈ AW := ac4 _ (List.mem_of_getElem? (i := 20) rfl)
theorem meX4_copyFrom : Cond.selects RX4 yX4_copyFrom yX4_copyFrom ∈ AW := ac4 _ (List.mem_of_getElem? (i := 21) rfl)
theorem hdX4_copyFrom : yX4_copyFrom.cls ≠ "java/lang/invoke/MethodHandle" ∧ yX4_copyFrom.cls ≠ "java/lang/invoke/VarHandle" ∧ (parseMethodDescriptor yX4_copyFrom.desc).map (fun d => d.parameters.length) = some 1 := by decide +kernel
theorem mcX2_save : Cond.code yX2_save cX2_save 2 none ∈ AW := ac9 _ (List.mem_of_getElem? (i := 9) rfl)
theorem miX2_save : Cond.instanceMethod yX2_save ∈ AW := ac9 _ (List.mem_of_getElem? (i := 7) rfl)
theorem meX2_save : Cond.selects RX2 yX2_save yX2_save ∈ AW := ac9 _ (List.mem_of_getElem? (i := 8) rfl)
theorem hdX2_save : yX2_save.cls ≠ "java/lang/invoke/MethodHandle" ∧ yX2_save.cls ≠ "java/lang/invoke/VarHandle" ∧ (parseMethodDescriptor yX2_save.desc).map (fun d => d.parameters.length) = some 1 := by decide +kernel
theorem mcX3_init : Cond.code yX3_init cX3_init 1 none ∈ AW := ac8 _ (List.mem_of_getElem? (i := 9) rfl)
theorem miX3_init : Cond.instanceMethod yX3_init ∈ AW := ac8 _ (List.mem_of_getElem? (i := 8) rfl)
theorem hdX3_init : yX3_init.cls ≠ "java/lang/invoke/MethodHandle" ∧ yX3_init.cls ≠ "java/lang/invoke/VarHandle" ∧ (parseMethodDescriptor yX3_init.desc).map (fun d => d.parameters.length) = some 0 := by decide +kernel
theorem mcJ7_fill_53178 : Cond.code yJ7_fill_53178 cJ7_fill_53178 4 none ∈ AW := ac5 _ (List.mem_of_getElem? (i := 15) rfl)
theorem msJ7_fill_53178 : Cond.static yJ7_fill_53178 ∈ AW := ac5 _ (List.mem_of_getElem? (i := 13) rfl)
theorem hdJ7_fill_53178 : yJ7_fill_53178.cls ≠ "java/lang/invoke/MethodHandle" ∧ yJ7_fill_53178.cls ≠ "java/lang/invoke/VarHandle" ∧ (parseMethodDescriptor yJ7_fill_53178.desc).map (fun d => d.parameters.length) = some 2 := by decide +kernel
theorem mcX5_eastOf : Cond.code yX5_eastOf cX5_eastOf 1 (some .int) ∈ AW := ac5 _ (List.mem_of_getElem? (i := 5) rfl)
theorem msX5_eastOf : Cond.static yX5_eastOf ∈ AW := ac5 _ (List.mem_of_getElem? (i := 4) rfl)
theorem hdX5_eastOf : yX5_eastOf.cls ≠ "java/lang/invoke/MethodHandle" ∧ yX5_eastOf.cls ≠ "java/lang/invoke/VarHandle" ∧ (parseMethodDescriptor yX5_eastOf.desc).map (fun d => d.parameters.length) = some 1 := by decide +kernel
theorem mcX5_southOf : Cond.code yX5_southOf cX5_southOf 1 (some .int) ∈ AW := ac5 _ (List.mem_of_getElem? (i := 8) rfl)
theorem msX5_southOf : Cond.static yX5_southOf ∈ AW := ac5 _ (List.mem_of_getElem? (i := 7) rfl)
theorem hdX5_southOf : yX5_southOf.cls ≠ "java/lang/invoke/MethodHandle" ∧ yX5_southOf.cls ≠ "java/lang/invoke/VarHandle" ∧ (parseMethodDescriptor yX5_southOf.desc).map (fun d => d.parameters.length) = some 1 := by decide +kernel
theorem mcX5_isOnMat : Cond.code yX5_isOnMat cX5_isOnMat 2 (some .boolean) ∈ AW := ac5 _ (List.mem_of_getElem? (i := 11) rfl)
theorem msX5_isOnMat : Cond.static yX5_isOnMat ∈ AW := ac5 _ (List.mem_of_getElem? (i := 10) rfl)
theorem hdX5_isOnMat : yX5_isOnMat.cls ≠ "java/lang/invoke/MethodHandle" ∧ yX5_isOnMat.cls ≠ "java/lang/invoke/VarHandle" ∧ (parseMethodDescriptor yX5_isOnMat.desc).map (fun d => d.parameters.length) = some 2 := by decide +kernel
theorem mcX5_landing : Cond.code yX5_landing cX5_landing 9 (some .int) ∈ AW := ac5 _ (List.mem_of_getElem? (i := 17) rfl)
theorem msX5_landing : Cond.static yX5_landing ∈ AW := ac5 _ (List.mem_of_getElem? (i := 16) rfl)
theorem hdX5_landing : yX5_landing.cls ≠ "java/lang/invoke/MethodHandle" ∧ yX5_landing.cls ≠ "java/lang/invoke/VarHandle" ∧ (parseMethodDescriptor yX5_landing.desc).map (fun d => d.parameters.length) = some 3 := by decide +kernel
theorem mcX3_search : Cond.code yX3_search cX3_search 8 (some .int) ∈ AW := ac5 _ (List.mem_of_getElem? (i := 22) rfl)
theorem miX3_search : Cond.instanceMethod yX3_search ∈ AW := ac5 _ (List.mem_of_getElem? (i := 19) rfl)
theorem meX3_search : Cond.selects RX3 yX3_search yX3_search ∈ AW := ac5 _ (List.mem_of_getElem? (i := 20) rfl)
theorem hdX3_search : yX3_search.cls ≠ "java/lang/invoke/MethodHandle" ∧ yX3_search.cls ≠ "java/lang/invoke/VarHandle" ∧ (parseMethodDescriptor yX3_search.desc).map (fun d => d.parameters.length) = some 2 := by decide +kernel
theorem mcX3_fewest : Cond.code yX3_fewest cX3_fewest 4 (some .int) ∈ AW := ac13 _ (List.mem_of_getElem? (i := 9) rfl)
theorem miX3_fewest : Cond.instanceMethod yX3_fewest ∈ AW := ac13 _ (List.mem_of_getElem? (i := 7) rfl)
theorem meX3_fewest : Cond.selects RX3 yX3_fewest yX3_fewest ∈ AW := ac13 _ (List.mem_of_getElem? (i := 8) rfl)
theorem hdX3_fewest : yX3_fewest.cls ≠ "java/lang/invoke/MethodHandle" ∧ yX3_fewest.cls ≠ "java/lang/invoke/VarHandle" ∧ (parseMethodDescriptor yX3_fewest.desc).map (fun d => d.parameters.length) = some 2 := by decide +kernel
theorem mcX4_whyNotFlown : Cond.code yX4_whyNotFlown cX4_whyNotFlown 2 (some .int) ∈ AW := ac9 _ (List.mem_of_getElem? (i := 5) rfl)
theorem miX4_whyNotFlown : Cond.instanceMethod yX4_whyNotFlown ∈ AW := ac9 _ (List.mem_of_getElem? (i := 3) rfl)
theorem meX4_whyNotFlown : Cond.selects RX4 yX4_whyNotFlown yX4_whyNotFlown ∈ AW := ac9 _ (List.mem_of_getElem? (i := 4) rfl)
theorem hdX4_whyNotFlown : yX4_whyNotFlown.cls ≠ "java/lang/invoke/MethodHandle" ∧ yX4_whyNotFlown.cls ≠ "java/lang/invoke/VarHandle" ∧ (parseMethodDescriptor yX4_whyNotFlown.desc).map (fun d => d.parameters.length) = some 1 := by decide +kernel
theorem mcX5_cellBeside : Cond.code yX5_cellBeside cX5_cellBeside 5 (some .int) ∈ AW := ac6 _ (List.mem_of_getElem? (i := 11) rfl)
theorem msX5_cellBeside : Cond.static yX5_cellBeside ∈ AW := ac6 _ (List.mem_of_getElem? (i := 10) rfl)
theorem hdX5_cellBeside : yX5_cellBeside.cls ≠ "java/lang/invoke/MethodHandle" ∧ yX5_cellBeside.cls ≠ "java/lang/invoke/VarHandle" ∧ (parseMethodDescriptor yX5_cellBeside.desc).map (fun d => d.parameters.length) = some 3 := by decide +kernel
theorem mcX4_whyNotLifted : Cond.code yX4_whyNotLifted cX4_whyNotLifted 6 (some .int) ∈ AW := ac9 _ (List.mem_of_getElem? (i := 23) rfl)
theorem miX4_whyNotLifted : Cond.instanceMethod yX4_whyNotLifted ∈ AW := ac9 _ (List.mem_of_getElem? (i := 21) rfl)
theorem meX4_whyNotLifted : Cond.selects RX4 yX4_whyNotLifted yX4_whyNotLifted ∈ AW := ac9 _ (List.mem_of_getElem? (i := 22) rfl)
theorem hdX4_whyNotLifted : yX4_whyNotLifted.cls ≠ "java/lang/invoke/MethodHandle" ∧ yX4_whyNotLifted.cls ≠ "java/lang/invoke/VarHandle" ∧ (parseMethodDescriptor yX4_whyNotLifted.desc).map (fun d => d.parameters.length) = some 4 := by decide +kernel
theorem mcX5_isLarge : Cond.code yX5_isLarge cX5_isLarge 1 (some .boolean) ∈ AW := ac6 _ (List.mem_of_getElem? (i := 14) rfl)
theorem msX5_isLarge : Cond.static yX5_isLarge ∈ AW := ac6 _ (List.mem_of_getElem? (i := 13) rfl)
theorem hdX5_isLarge : yX5_isLarge.cls ≠ "java/lang/invoke/MethodHandle" ∧ yX5_isLarge.cls ≠ "java/lang/invoke/VarHandle" ∧ (parseMethodDescriptor yX5_isLarge.desc).map (fun d => d.parameters.length) = some 1 := by decide +kernel
theorem mcX5_stepsOf : Cond.code yX5_stepsOf cX5_stepsOf 2 (some .int) ∈ AW := ac6 _ (List.mem_of_getElem? (i := 19) rfl)
theorem msX5_stepsOf : Cond.static yX5_stepsOf ∈ AW := ac6 _ (List.mem_of_getElem? (i := 18) rfl)
theorem hdX5_stepsOf : yX5_stepsOf.cls ≠ "java/lang/invoke/MethodHandle" ∧ yX5_stepsOf.cls ≠ "java/lang/invoke/VarHandle" ∧ (parseMethodDescriptor yX5_stepsOf.desc).map (fun d => d.parameters.length) = some 2 := by decide +kernel
theorem mcX5_restingCell : Cond.code yX5_restingCell cX5_restingCell 2 (some .int) ∈ AW := ac6 _ (List.mem_of_getElem? (i := 21) rfl)
theorem msX5_restingCell : Cond.static yX5_restingCell ∈ AW := ac6 _ (List.mem_of_getElem? (i := 20) rfl)
theorem hdX5_restingCell : yX5_restingCell.cls ≠ "java/lang/invoke/MethodHandle" ∧ yX5_restingCell.cls ≠ "java/lang/invoke/VarHandle" ∧ (parseMethodDescriptor yX5_restingCell.desc).map (fun d => d.parameters.length) = some 2 := by decide +kernel
theorem mcX4_passTurn : Cond.code yX4_passTurn cX4_passTurn 3 none ∈ AW := ac7 _ (List.mem_of_getElem? (i := 5) rfl)
theorem miX4_passTurn : Cond.instanceMethod yX4_passTurn ∈ AW := ac7 _ (List.mem_of_getElem? (i := 3) rfl)
theorem meX4_passTurn : Cond.selects RX4 yX4_passTurn yX4_passTurn ∈ AW := ac7 _ (List.mem_of_getElem? (i := 4) rfl)
theorem hdX4_passTurn : yX4_passTurn.cls ≠ "java/lang/invoke/MethodHandle" ∧ yX4_passTurn.cls ≠ "java/lang/invoke/VarHandle" ∧ (parseMethodDescriptor yX4_passTurn.desc).map (fun d => d.parameters.length) = some 0 := by decide +kernel
theorem mcX5_flightAnswer : Cond.code yX5_flightAnswer cX5_flightAnswer 1 (some .int) ∈ AW := ac7 _ (List.mem_of_getElem? (i := 7) rfl)
theorem msX5_flightAnswer : Cond.static yX5_flightAnswer ∈ AW := ac7 _ (List.mem_of_getElem? (i := 6) rfl)
theorem hdX5_flightAnswer : yX5_flightAnswer.cls ≠ "java/lang/invoke/MethodHandle" ∧ yX5_flightAnswer.cls ≠ "java/lang/invoke/VarHandle" ∧ (parseMethodDescriptor yX5_flightAnswer.desc).map (fun d => d.parameters.length) = some 1 := by decide +kernel
theorem mcX4_carryOutFlight : Cond.code yX4_carryOutFlight cX4_carryOutFlight 6 (some .int) ∈ AW := ac9 _ (List.mem_of_getElem? (i := 13) rfl)
theorem miX4_carryOutFlight : Cond.instanceMethod yX4_carryOutFlight ∈ AW := ac9 _ (List.mem_of_getElem? (i := 11) rfl)
theorem meX4_carryOutFlight : Cond.selects RX4 yX4_carryOutFlight yX4_carryOutFlight ∈ AW := ac9 _ (List.mem_of_getElem? (i := 12) rfl)
theorem hdX4_carryOutFlight : yX4_carryOutFlight.cls ≠ "java/lang/invoke/MethodHandle" ∧ yX4_carryOutFlight.cls ≠ "java/lang/invoke/VarHandle" ∧ (parseMethodDescriptor yX4_carryOutFlight.desc).map (fun d => d.parameters.length) = some 3 := by decide +kernel
theorem mcX4_carryOutLift : Cond.code yX4_carryOutLift cX4_carryOutLift 6 none ∈ AW := ac10 _ (List.mem_of_getElem? (i := 3) rfl)
theorem miX4_carryOutLift : Cond.instanceMethod yX4_carryOutLift ∈ AW := ac10 _ (List.mem_of_getElem? (i := 1) rfl)
theorem meX4_carryOutLift : Cond.selects RX4 yX4_carryOutLift yX4_carryOutLift ∈ AW := ac10 _ (List.mem_of_getElem? (i := 2) rfl)
theorem hdX4_carryOutLift : yX4_carryOutLift.cls ≠ "java/lang/invoke/MethodHandle" ∧ yX4_carryOutLift.cls ≠ "java/lang/invoke/VarHandle" ∧ (parseMethodDescriptor yX4_carryOutLift.desc).map (fun d => d.parameters.length) = some 4 := by decide +kernel
theorem mcX4_allFlights : Cond.code yX4_allFlights cX4_allFlights 3 (some .int) ∈ AW := ac12 _ (List.mem_of_getElem? (i := 6) rfl)
theorem miX4_allFlights : Cond.instanceMethod yX4_allFlights ∈ AW := ac12 _ (List.mem_of_getElem? (i := 4) rfl)
theorem meX4_allFlights : Cond.selects RX4 yX4_allFlights yX4_allFlights ∈ AW := ac12 _ (List.mem_of_getElem? (i := 5) rfl)
theorem hdX4_allFlights : yX4_allFlights.cls ≠ "java/lang/invoke/MethodHandle" ∧ yX4_allFlights.cls ≠ "java/lang/invoke/VarHandle" ∧ (parseMethodDescriptor yX4_allFlights.desc).map (fun d => d.parameters.length) = some 0 := by decide +kernel
theorem mcX4_allFouls : Cond.code yX4_allFouls cX4_allFouls 3 (some .int) ∈ AW := ac12 _ (List.mem_of_getElem? (i := 10) rfl)
theorem miX4_allFouls : Cond.instanceMethod yX4_allFouls ∈ AW := ac12 _ (List.mem_of_getElem? (i := 8) rfl)
theorem meX4_allFouls : Cond.selects RX4 yX4_allFouls yX4_allFouls ∈ AW := ac12 _ (List.mem_of_getElem? (i := 9) rfl)
theorem hdX4_allFouls : yX4_allFouls.cls ≠ "java/lang/invoke/MethodHandle" ∧ yX4_allFouls.cls ≠ "java/lang/invoke/VarHandle" ∧ (parseMethodDescriptor yX4_allFouls.desc).map (fun d => d.parameters.length) = some 0 := by decide +kernel
theorem mcX5_init : Cond.code yX5_init cX5_init 1 none ∈ AW := ac14 _ (List.mem_of_getElem? (i := 15) rfl)
theorem miX5_init : Cond.instanceMethod yX5_init ∈ AW := ac14 _ (List.mem_of_getElem? (i := 14) rfl)
theorem hdX5_init : yX5_init.cls ≠ "java/lang/invoke/MethodHandle" ∧ yX5_init.cls ≠ "java/lang/invoke/VarHandle" ∧ (parseMethodDescriptor yX5_init.desc).map (fun d => d.parameters.length) = some 0 := by decide +kernel
theorem mcX5_requireWink : Cond.code yX5_requireWink cX5_requireWink 1 none ∈ AW := ac8 _ (List.mem_of_getElem? (i := 22) rfl)
theorem msX5_requireWink : Cond.static yX5_requireWink ∈ AW := ac8 _ (List.mem_of_getElem? (i := 21) rfl)
theorem hdX5_requireWink : yX5_requireWink.cls ≠ "java/lang/invoke/MethodHandle" ∧ yX5_requireWink.cls ≠ "java/lang/invoke/VarHandle" ∧ (parseMethodDescriptor yX5_requireWink.desc).map (fun d => d.parameters.length) = some 1 := by decide +kernel
theorem mcX5_requireDirection : Cond.code yX5_requireDirection cX5_requireDirection 1 none ∈ AW := ac8 _ (List.mem_of_getElem? (i := 17) rfl)
theorem msX5_requireDirection : Cond.static yX5_requireDirection ∈ AW := ac8 _ (List.mem_of_getElem? (i := 16) rfl)
theorem hdX5_requireDirection : yX5_requireDirection.cls ≠ "java/lang/invoke/MethodHandle" ∧ yX5_requireDirection.cls ≠ "java/lang/invoke/VarHandle" ∧ (parseMethodDescriptor yX5_requireDirection.desc).map (fun d => d.parameters.length) = some 1 := by decide +kernel
theorem mcX5_requireFlight : Cond.code yX5_requireFlight cX5_requireFlight 2 none ∈ AW := ac9 _ (List.mem_of_getElem? (i := 1) rfl)
theorem msX5_requireFlight : Cond.static yX5_requireFlight ∈ AW := ac9 _ (List.mem_of_getElem? (i := 0) rfl)
theorem hdX5_requireFlight : yX5_requireFlight.cls ≠ "java/lang/invoke/MethodHandle" ∧ yX5_requireFlight.cls ≠ "java/lang/invoke/VarHandle" ∧ (parseMethodDescriptor yX5_requireFlight.desc).map (fun d => d.parameters.length) = some 2 := by decide +kernel
theorem mcX5_fly : Cond.code yX5_fly cX5_fly 4 (some .int) ∈ AW := ac14 _ (List.mem_of_getElem? (i := 9) rfl)
theorem miX5_fly : Cond.instanceMethod yX5_fly ∈ AW := ac14 _ (List.mem_of_getElem? (i := 7) rfl)
theorem meX5_fly : Cond.selects RX5 yX5_fly yX5_fly ∈ AW := ac14 _ (List.mem_of_getElem? (i := 8) rfl)
theorem hdX5_fly : yX5_fly.cls ≠ "java/lang/invoke/MethodHandle" ∧ yX5_fly.cls ≠ "java/lang/invoke/VarHandle" ∧ (parseMethodDescriptor yX5_fly.desc).map (fun d => d.parameters.length) = some 3 := by decide +kernel
theorem mcX5_requireCell : Cond.code yX5_requireCell cX5_requireCell 2 none ∈ AW := ac9 _ (List.mem_of_getElem? (i := 16) rfl)
theorem msX5_requireCell : Cond.static yX5_requireCell ∈ AW := ac9 _ (List.mem_of_getElem? (i := 15) rfl)
theorem hdX5_requireCell : yX5_requireCell.cls ≠ "java/lang/invoke/MethodHandle" ∧ yX5_requireCell.cls ≠ "java/lang/invoke/VarHandle" ∧ (parseMethodDescriptor yX5_requireCell.desc).map (fun d => d.parameters.length) = some 2 := by decide +kernel
theorem mcX5_requireLift : Cond.code yX5_requireLift cX5_requireLift 2 none ∈ AW := ac9 _ (List.mem_of_getElem? (i := 19) rfl)
theorem msX5_requireLift : Cond.static yX5_requireLift ∈ AW := ac9 _ (List.mem_of_getElem? (i := 18) rfl)
theorem hdX5_requireLift : yX5_requireLift.cls ≠ "java/lang/invoke/MethodHandle" ∧ yX5_requireLift.cls ≠ "java/lang/invoke/VarHandle" ∧ (parseMethodDescriptor yX5_requireLift.desc).map (fun d => d.parameters.length) = some 2 := by decide +kernel
theorem mcX5_lift : Cond.code yX5_lift cX5_lift 5 (some .int) ∈ AW := ac14 _ (List.mem_of_getElem? (i := 12) rfl)
theorem miX5_lift : Cond.instanceMethod yX5_lift ∈ AW := ac14 _ (List.mem_of_getElem? (i := 10) rfl)
theorem meX5_lift : Cond.selects RX5 yX5_lift yX5_lift ∈ AW := ac14 _ (List.mem_of_getElem? (i := 11) rfl)
theorem hdX5_lift : yX5_lift.cls ≠ "java/lang/invoke/MethodHandle" ∧ yX5_lift.cls ≠ "java/lang/invoke/VarHandle" ∧ (parseMethodDescriptor yX5_lift.desc).map (fun d => d.parameters.length) = some 4 := by decide +kernel
theorem mcX5_set : Cond.code yX5_set cX5_set 3 (some .int) ∈ AW := ac15 _ (List.mem_of_getElem? (i := 0) rfl)
theorem miX5_set : Cond.instanceMethod yX5_set ∈ AW := ac14 _ (List.mem_of_getElem? (i := 22) rfl)
theorem meX5_set : Cond.selects RX5 yX5_set yX5_set ∈ AW := ac14 _ (List.mem_of_getElem? (i := 23) rfl)
theorem hdX5_set : yX5_set.cls ≠ "java/lang/invoke/MethodHandle" ∧ yX5_set.cls ≠ "java/lang/invoke/VarHandle" ∧ (parseMethodDescriptor yX5_set.desc).map (fun d => d.parameters.length) = some 1 := by decide +kernel
theorem mcX5_put : Cond.code yX5_put cX5_put 5 (some .int) ∈ AW := ac14 _ (List.mem_of_getElem? (i := 21) rfl)
theorem miX5_put : Cond.instanceMethod yX5_put ∈ AW := ac14 _ (List.mem_of_getElem? (i := 19) rfl)
theorem meX5_put : Cond.selects RX5 yX5_put yX5_put ∈ AW := ac14 _ (List.mem_of_getElem? (i := 20) rfl)
theorem hdX5_put : yX5_put.cls ≠ "java/lang/invoke/MethodHandle" ∧ yX5_put.cls ≠ "java/lang/invoke/VarHandle" ∧ (parseMethodDescriptor yX5_put.desc).map (fun d => d.parameters.length) = some 3 := by decide +kernel
theorem mcX5_wink : Cond.code yX5_wink cX5_wink 3 (some .int) ∈ AW := ac13 _ (List.mem_of_getElem? (i := 15) rfl)
theorem miX5_wink : Cond.instanceMethod yX5_wink ∈ AW := ac13 _ (List.mem_of_getElem? (i := 13) rfl)
theorem meX5_wink : Cond.selects RX5 yX5_wink yX5_wink ∈ AW := ac13 _ (List.mem_of_getElem? (i := 14) rfl)
theorem hdX5_wink : yX5_wink.cls ≠ "java/lang/invoke/MethodHandle" ∧ yX5_wink.cls ≠ "java/lang/invoke/VarHandle" ∧ (parseMethodDescriptor yX5_wink.desc).map (fun d => d.parameters.length) = some 2 := by decide +kernel
theorem mcX5_pile : Cond.code yX5_pile cX5_pile 5 (some .int) ∈ AW := ac13 _ (List.mem_of_getElem? (i := 12) rfl)
theorem miX5_pile : Cond.instanceMethod yX5_pile ∈ AW := ac13 _ (List.mem_of_getElem? (i := 10) rfl)
theorem meX5_pile : Cond.selects RX5 yX5_pile yX5_pile ∈ AW := ac13 _ (List.mem_of_getElem? (i := 11) rfl)
theorem hdX5_pile : yX5_pile.cls ≠ "java/lang/invoke/MethodHandle" ∧ yX5_pile.cls ≠ "java/lang/invoke/VarHandle" ∧ (parseMethodDescriptor yX5_pile.desc).map (fun d => d.parameters.length) = some 3 := by decide +kernel
theorem mcX5_isColour : Cond.code yX5_isColour cX5_isColour 1 (some .boolean) ∈ AW := ac10 _ (List.mem_of_getElem? (i := 23) rfl)
theorem msX5_isColour : Cond.static yX5_isColour ∈ AW := ac10 _ (List.mem_of_getElem? (i := 22) rfl)
theorem hdX5_isColour : yX5_isColour.cls ≠ "java/lang/invoke/MethodHandle" ∧ yX5_isColour.cls ≠ "java/lang/invoke/VarHandle" ∧ (parseMethodDescriptor yX5_isColour.desc).map (fun d => d.parameters.length) = some 1 := by decide +kernel
theorem mcX5_colour : Cond.code yX5_colour cX5_colour 3 (some .int) ∈ AW := ac14 _ (List.mem_of_getElem? (i := 0) rfl)
theorem miX5_colour : Cond.instanceMethod yX5_colour ∈ AW := ac13 _ (List.mem_of_getElem? (i := 22) rfl)
theorem meX5_colour : Cond.selects RX5 yX5_colour yX5_colour ∈ AW := ac13 _ (List.mem_of_getElem? (i := 23) rfl)
theorem hdX5_colour : yX5_colour.cls ≠ "java/lang/invoke/MethodHandle" ∧ yX5_colour.cls ≠ "java/lang/invoke/VarHandle" ∧ (parseMethodDescriptor yX5_colour.desc).map (fun d => d.parameters.length) = some 2 := by decide +kernel
theorem mcX5_count : Cond.code yX5_count cX5_count 2 (some .int) ∈ AW := ac14 _ (List.mem_of_getElem? (i := 3) rfl)
theorem miX5_count : Cond.instanceMethod yX5_count ∈ AW := ac14 _ (List.mem_of_getElem? (i := 1) rfl)
theorem meX5_count : Cond.selects RX5 yX5_count yX5_count ∈ AW := ac14 _ (List.mem_of_getElem? (i := 2) rfl)
theorem hdX5_count : yX5_count.cls ≠ "java/lang/invoke/MethodHandle" ∧ yX5_count.cls ≠ "java/lang/invoke/VarHandle" ∧ (parseMethodDescriptor yX5_count.desc).map (fun d => d.parameters.length) = some 1 := by decide +kernel
theorem mcX5_why : Cond.code yX5_why cX5_why 5 (some .int) ∈ AW := ac14 _ (List.mem_of_getElem? (i := 18) rfl)
theorem miX5_why : Cond.instanceMethod yX5_why ∈ AW := ac14 _ (List.mem_of_getElem? (i := 16) rfl)
theorem meX5_why : Cond.selects RX5 yX5_why yX5_why ∈ AW := ac14 _ (List.mem_of_getElem? (i := 17) rfl)
theorem hdX5_why : yX5_why.cls ≠ "java/lang/invoke/MethodHandle" ∧ yX5_why.cls ≠ "java/lang/invoke/VarHandle" ∧ (parseMethodDescriptor yX5_why.desc).map (fun d => d.parameters.length) = some 4 := by decide +kernel
theorem mcX5_lands : Cond.code yX5_lands cX5_lands 4 (some .int) ∈ AW := ac13 _ (List.mem_of_getElem? (i := 21) rfl)
theorem miX5_lands : Cond.instanceMethod yX5_lands ∈ AW := ac13 _ (List.mem_of_getElem? (i := 19) rfl)
theorem meX5_lands : Cond.selects RX5 yX5_lands yX5_lands ∈ AW := ac13 _ (List.mem_of_getElem? (i := 20) rfl)
theorem hdX5_lands : yX5_lands.cls ≠ "java/lang/invoke/MethodHandle" ∧ yX5_lands.cls ≠ "java/lang/invoke/VarHandle" ∧ (parseMethodDescriptor yX5_lands.desc).map (fun d => d.parameters.length) = some 3 := by decide +kernel
theorem mcX5_tryFlight : Cond.code yX5_tryFlight cX5_tryFlight 5 none ∈ AW := ac12 _ (List.mem_of_getElem? (i := 21) rfl)
theorem miX5_tryFlight : Cond.instanceMethod yX5_tryFlight ∈ AW := ac12 _ (List.mem_of_getElem? (i := 19) rfl)
theorem meX5_tryFlight : Cond.selects RX5 yX5_tryFlight yX5_tryFlight ∈ AW := ac12 _ (List.mem_of_getElem? (i := 20) rfl)
theorem hdX5_tryFlight : yX5_tryFlight.cls ≠ "java/lang/invoke/MethodHandle" ∧ yX5_tryFlight.cls ≠ "java/lang/invoke/VarHandle" ∧ (parseMethodDescriptor yX5_tryFlight.desc).map (fun d => d.parameters.length) = some 3 := by decide +kernel
theorem mcX5_teamOf : Cond.code yX5_teamOf cX5_teamOf 1 (some .int) ∈ AW := ac13 _ (List.mem_of_getElem? (i := 0) rfl)
theorem msX5_teamOf : Cond.static yX5_teamOf ∈ AW := ac12 _ (List.mem_of_getElem? (i := 23) rfl)
theorem hdX5_teamOf : yX5_teamOf.cls ≠ "java/lang/invoke/MethodHandle" ∧ yX5_teamOf.cls ≠ "java/lang/invoke/VarHandle" ∧ (parseMethodDescriptor yX5_teamOf.desc).map (fun d => d.parameters.length) = some 1 := by decide +kernel
theorem mcX5_ifFlown : Cond.code yX5_ifFlown cX5_ifFlown 5 (some .int) ∈ AW := ac14 _ (List.mem_of_getElem? (i := 6) rfl)
theorem miX5_ifFlown : Cond.instanceMethod yX5_ifFlown ∈ AW := ac14 _ (List.mem_of_getElem? (i := 4) rfl)
theorem meX5_ifFlown : Cond.selects RX5 yX5_ifFlown yX5_ifFlown ∈ AW := ac14 _ (List.mem_of_getElem? (i := 5) rfl)
theorem hdX5_ifFlown : yX5_ifFlown.cls ≠ "java/lang/invoke/MethodHandle" ∧ yX5_ifFlown.cls ≠ "java/lang/invoke/VarHandle" ∧ (parseMethodDescriptor yX5_ifFlown.desc).map (fun d => d.parameters.length) = some 4 := by decide +kernel
theorem mcX5_flightsTo : Cond.code yX5_flightsTo cX5_flightsTo 2 (some .int) ∈ AW := ac13 _ (List.mem_of_getElem? (i := 18) rfl)
theorem miX5_flightsTo : Cond.instanceMethod yX5_flightsTo ∈ AW := ac13 _ (List.mem_of_getElem? (i := 16) rfl)
theorem meX5_flightsTo : Cond.selects RX5 yX5_flightsTo yX5_flightsTo ∈ AW := ac13 _ (List.mem_of_getElem? (i := 17) rfl)
theorem hdX5_flightsTo : yX5_flightsTo.cls ≠ "java/lang/invoke/MethodHandle" ∧ yX5_flightsTo.cls ≠ "java/lang/invoke/VarHandle" ∧ (parseMethodDescriptor yX5_flightsTo.desc).map (fun d => d.parameters.length) = some 1 := by decide +kernel
theorem mini_RX5 : Cond.initialized RX5 ∈ AW := ac0 _ (List.mem_of_getElem? (i := 8) rfl)
theorem mini_RX1 : Cond.initialized RX1 ∈ AW := ac1 _ (List.mem_of_getElem? (i := 3) rfl)
theorem mini_RX4 : Cond.initialized RX4 ∈ AW := ac4 _ (List.mem_of_getElem? (i := 8) rfl)
theorem mini_RX3 : Cond.initialized RX3 ∈ AW := ac5 _ (List.mem_of_getElem? (i := 21) rfl)
theorem mini_RX2 : Cond.initialized RX2 ∈ AW := ac7 _ (List.mem_of_getElem? (i := 14) rfl)
theorem mini_RX0 : Cond.initialized RX0 ∈ AW := ac7 _ (List.mem_of_getElem? (i := 18) rfl)
abbrev vwCl : List vw_C := [(RX0, TX0, 2), (RX1, TX1, 3), (RX2, TX2, 3), (RX3, TX3, 3), (RX4, TX4, 7), (RX5, TX5, 7)]
end
section
/-! THE POOL: objects 0 .. N-1 at the addresses ad, object k with the contents F k -/
def iW (ad : Nat → Nat) (N : Nat) (F : Nat → va_E) : va_W := (List.range N).map (fun k => (ad k, F k))
theorem iW_get {ad : Nat → Nat} {N : Nat} {F : Nat → va_E} {k : Nat} (h : k < N) : (iW ad N F)[k]? = some (ad k, F k) := by
  simp [iW, List.getElem?_map, List.getElem?_range, h]
theorem iW_at {ad : Nat → Nat} {N : Nat} {F : Nat → va_E} {k : Nat} {e : va_E} (h : k < N) (he : F k = e) : (iW ad N F)[k]? = some (ad k, e) := by
  rw [iW_get h, he]
theorem iW_inv {ad : Nat → Nat} {N : Nat} {F : Nat → va_E} {k : Nat} {q : Nat × va_E} (h : (iW ad N F)[k]? = some q) : k < N ∧ q = (ad k, F k) := by
  have hk : k < N := by
    have := (List.getElem?_eq_some_iff.mp h).1
    simpa [iW] using this
  rw [iW_get hk] at h
  exact ⟨hk, (Option.some.inj h).symm⟩
theorem iW_set {ad : Nat → Nat} {N : Nat} {F : Nat → va_E} {k : Nat} {e : va_E} (h : k < N) : (iW ad N F).set k (ad k, e) = iW ad N (va_up F k e) := by
  apply List.ext_getElem?
  intro j
  rw [List.getElem?_set]
  by_cases hj : k = j
  · subst hj
    rw [if_pos rfl, if_pos (by simpa [iW] using h), iW_get h, va_up_self]
  · rw [if_neg hj]
    by_cases hl : j < N
    · rw [iW_get hl, iW_get hl, va_up_ne _ _ (Ne.symm hj)]
    · rw [List.getElem?_eq_none (by simp [iW]; omega), List.getElem?_eq_none (by simp [iW]; omega)]
theorem iW_push {ad : Nat → Nat} {N : Nat} {F : Nat → va_E} {q : Nat} {e : va_E} : iW ad N F ++ [(q, e)] = iW (va_up ad N q) (N + 1) (va_up F N e) := by
  apply List.ext_getElem?
  intro j
  by_cases hl : j < N
  · rw [List.getElem?_append_left (by simpa [iW] using hl), iW_get hl, iW_get (by omega), va_up_ne _ _ (by omega), va_up_ne _ _ (by omega)]
  · by_cases he : j = N
    · subst he
      rw [List.getElem?_append_right (by simp [iW]), iW_get (by omega), va_up_self, va_up_self]
      simp [iW]
    · rw [List.getElem?_eq_none (by simp [iW]; omega), List.getElem?_eq_none (by simp [iW]; omega)]
/-- which cells a method may change -/
def iA (ad : Nat → Nat) (N sz : Nat) : Nat → Prop := fun q => (∃ k, k < N ∧ q = ad k) ∨ sz ≤ q
/-- the addresses are apart -/
def iD (ad : Nat → Nat) (N : Nat) : Prop := ∀ i j, i < N → j < N → ad i = ad j → i = j
theorem iD_D {ad : Nat → Nat} {N : Nat} {A : Nat → Prop} {F : Nat → va_E} (h : iD ad N) (hA : ∀ k, k < N → A (ad k)) : va_D A (iW ad N F) := by
  refine ⟨fun i j p q hi hj hpq => ?_, fun k q hk => ?_⟩
  · obtain ⟨a1, a2⟩ := iW_inv hi
    obtain ⟨b1, b2⟩ := iW_inv hj
    rw [a2, b2] at hpq
    exact h i j a1 b1 hpq
  · obtain ⟨a1, a2⟩ := iW_inv hk
    rw [a2]
    exact hA k a1
theorem iD_of {ad : Nat → Nat} {N : Nat} {A : Nat → Prop} {F : Nat → va_E} (h : va_D A (iW ad N F)) : iD ad N ∧ ∀ k, k < N → A (ad k) :=
  ⟨fun i j hi hj e => h.1 i j _ _ (iW_get hi) (iW_get hj) e, fun k hk => h.2 k _ (iW_get hk)⟩
abbrev iT (cI cQ cL : ClassId) : List (ClassId × FieldType) := [(cI, .int), (cQ, .object "SquopPiles$State"), (cL, .long)]
/-- what links members of the nest -/
def nestF : List (String × Nat × String × String × String) := [("SquopPiles$State", 77, "SquopPiles$Mat", "cell", "[I"), ("SquopPiles", 170, "SquopPiles$Mat", "cell", "[I"), ("SquopPiles", 94, "SquopPiles$State", "mat", "LSquopPiles$Mat;"), ("SquopPiles", 177, "SquopPiles$State", "flights", "[I"), ("SquopPiles", 210, "SquopPiles$State", "fouls", "[I"), ("SquopPiles", 213, "SquopPiles$State", "lost", "[I"), ("SquopPiles", 219, "SquopPiles$State", "turn", "I"), ("SquopPiles", 237, "SquopPiles$State", "lifts", "I"), ("SquopPiles", 109, "SquopPiles$State", "setting", "I"), ("SquopPiles", 156, "SquopPiles$Past", "many", "I")]
def nestM : List (String × Nat × MethodName) := [(RX5, 9, yX4_init), (RX1, 21, yX5_colourOf), (RX1, 25, yX5_baseOf), (RX2, 24, yX4_init), (RX5, 28, yX0_init), (RX5, 42, yX3_init), (RX4, 52, yX5_colourOf), (RX1, 34, yX5_isWink), (RX3, 31, yX5_landing), (RX4, 80, yX5_stepsOf), (RX4, 83, yX5_landing), (RX4, 86, yX5_restingCell), (RX4, 99, yX5_flightAnswer), (RX4, 63, yX5_cellAt), (RX4, 73, yX5_cellBeside), (RX4, 102, yX5_isWink)]
def NW (U : State) : Prop := (∀ q ∈ nestF, va_Nw (.fieldLinkNest q.1 q.2.1 q.2.2.1 q.2.2.2.1 q.2.2.2.2 "SquopPiles") U) ∧ ∀ q ∈ nestM, va_Nw (.methodLinkNest q.1 q.2.1 q.2.2 "SquopPiles") U
theorem NW.warm {s U : State} (hW : s.WarmedH U.vm) (h : NW s) : NW U := ⟨fun q hq => va_Nw.warmF hW (h.1 q hq), fun q hq => va_Nw.warmM hW (h.2 q hq)⟩
theorem NW.same {u U : State} (e : u.vm = U.vm) (h : NW u) : NW U := ⟨fun q hq => va_Nw.same rfl e (h.1 q hq), fun q hq => va_Nw.same rfl e (h.2 q hq)⟩
/-- the world of a method that reads -/
def rW (D : va_G) (cI cQ cL : ClassId) (ad : Nat → Nat) (N : Nat) (F : Nat → va_E) (U : State) : Prop := va_P D vwCl (iW ad N F) U.heap ∧ va_K D vwCl (iT cI cQ cL) U ∧ NW U
theorem rW_blind {D : va_G} {cI cQ cL : ClassId} {ad : Nat → Nat} {N : Nat} {F : Nat → va_E} {args : List Value} : FrameBlind (va_Pc args (rW D cI cQ cL ad N F)) :=
  fun a U g mk q => ⟨q.1, q.2.1, va_K.moved (u := U) (U := U.calling g mk a) (Vm.Alike.refl U.vm) q.2.2.1, NW.same rfl q.2.2.2⟩
/-- a method that reads, in a world -/
def MR (l : Launch) (y : MethodName) (ws : List Cond) (rm : Room) (D : va_G) (cI cQ cL : ClassId) (ad : Nat → Nat) (N : Nat) (F : Nat → va_E) (args : List Value) (r : Value) : Prop :=
  Met l y ws rm (va_Pc args (rW D cI cQ cL ad N F)) (fun _ st o t => o = .returned (some r) ∧ t.heap = st.heap) 0 0 (fun _ => False)
/-- a method of its arguments alone -/
def MP (l : Launch) (y : MethodName) (ws : List Cond) (rm : Room) (args : List Value) (r : Value) : Prop :=
  Met l y ws rm (va_Pc args (fun _ => True)) (fun _ st o t => o = .returned (some r) ∧ t.heap = st.heap) 0 0 (fun _ => False)
theorem MP_blind {args : List Value} : FrameBlind (va_Pc args (fun _ => True)) := fun _ _ _ _ q => q
section MRS
variable {l : Launch} {y : MethodName} {ws ws' : List Cond} {rm : Room} {cc : ByteArray} {maxL : Nat} {D : va_G} {cI cQ cL : ClassId} {ad : Nat → Nat} {N : Nat} {F : Nat → va_E} {args : List Value}
theorem mr_i {ty : FieldType} {r : Int32} (hy : plainName y.cls = true) (hw : ws = Cond.code y cc maxL (some ty) :: ws') (hrc : rm.cells = 0) (hrs : rm.slots = 0) (hn : narrow ty (.int r) = .int r) (hlen : (lg_sl args).length ≤ maxL)
    (body : ∀ (p : Program) (e : Env) (s : State) (m : MethodId) (below : List Frame) (meth : Method) (c : Code) (Q : State → Prop) (ls : Array Slot),
      p.tables.exec = Jvm.exec → c.code = cc → c.maxLocals = maxL → s.vm.findClass y.cls = some m.cls → (∀ w ∈ ws, w.before args.toArray s = true) → va_P D vwCl (iW ad N F) s.heap → va_K D vwCl (iT cI cQ cL) s → NW s →
      (∀ (pc : Nat) (ls : Array Slot) (v : Int32), v = r → decode cc pc = .ok (.ireturn, 1) → W p l e rm s m args.toArray below meth c s.heap [] 0 0 Q (F0 m pc ls [.int v])) →
      lv_has ls maxL (lv_args 0 args) → W p l e rm s m args.toArray below meth c s.heap [] 0 0 Q (F0 m 0 ls [])) : MR l y ws rm D cI cQ cL ad N F args (.int r) := by
  refine Met.ofW (cc := cc) (maxL := maxL) (ret := some ty) hy hw ?_
  intro p e s m args9 below meth c s₁ B hml hv
  obtain ⟨rfl, hP, hK, hNW⟩ := hv
  have hl := lv_entry args (n := maxL) hlen
  rw [lg_entry_eq]
  exact body p e s m below meth c _ _ B.exec B.bytes hml (findClass_of_methodNamed B.named) (atoms_spec B.pre) hP hK hNW (fun pc ls v hv hd => by
    subst hv
    exact W.zret B.exec B.bytes B.returns hn (fun t ht _ => ⟨rfl, ht⟩) (fun _ h => nomatch h) hd B.notSynchronized) hl
theorem mp_i {ty : FieldType} {r : Int32} (hy : plainName y.cls = true) (hw : ws = Cond.code y cc maxL (some ty) :: ws') (hrc : rm.cells = 0) (hrs : rm.slots = 0) (hn : narrow ty (.int r) = .int r) (hlen : (lg_sl args).length ≤ maxL)
    (body : ∀ (p : Program) (e : Env) (s : State) (m : MethodId) (below : List Frame) (meth : Method) (c : Code) (Q : State → Prop) (ls : Array Slot),
      p.tables.exec = Jvm.exec → c.code = cc → c.maxLocals = maxL → s.vm.findClass y.cls = some m.cls → (∀ w ∈ ws, w.before args.toArray s = true) →
      (∀ (pc : Nat) (ls : Array Slot) (v : Int32), v = r → decode cc pc = .ok (.ireturn, 1) → W p l e rm s m args.toArray below meth c s.heap [] 0 0 Q (F0 m pc ls [.int v])) →
      lv_has ls maxL (lv_args 0 args) → W p l e rm s m args.toArray below meth c s.heap [] 0 0 Q (F0 m 0 ls [])) : MP l y ws rm args (.int r) := by
  refine Met.ofW (cc := cc) (maxL := maxL) (ret := some ty) hy hw ?_
  intro p e s m args9 below meth c s₁ B hml hv
  obtain ⟨rfl, -⟩ := hv
  have hl := lv_entry args (n := maxL) hlen
  rw [lg_entry_eq]
  exact body p e s m below meth c _ _ B.exec B.bytes hml (findClass_of_methodNamed B.named) (atoms_spec B.pre) (fun pc ls v hv hd => by
    subst hv
    exact W.zret B.exec B.bytes B.returns hn (fun t ht _ => ⟨rfl, ht⟩) (fun _ h => nomatch h) hd B.notSynchronized) hl
end MRS
section ROWS
variable {p : Program} {l : Launch} {e : Env} {R : Room} {s : State} {m : MethodId} {args : Array Value} {below : List Frame} {meth : Method} {c : Code} {H : Heap} {locs : List Loc} {cells slots : Nat} {Q : State → Prop}
variable {cc : ByteArray} {pc : Nat} {ls : Array Slot} {rest st0 : List Value} {D : va_G} {cI cQ cL : ClassId} {ad : Nat → Nat} {N : Nat} {F : Nat → va_E} {A : Nat → Prop} {H0 : Heap} {Ts : List Cond}
theorem gf (hx : p.tables.exec = Jvm.exec) (hb : c.code = cc) {own ref C : String} {T : u_T} {n ci index : Nat} (hts : ∀ w ∈ Ts, w.before args s = true) (hin : ∀ w ∈ u_ws C T n, w ∈ Ts) (hown : s.vm.findClass own = some m.cls) (hK : va_K D vwCl (iT cI cQ cL) s) (hP : va_P D vwCl (iW ad N F) H) {k : Nat} (hk : k < N) {fs : List Value} (hF : F k = .inr (ci, fs)) (hc : vwCl[ci]? = some (C, T, n)) (j : Nat) (hj : j < n) (hlink : (Cond.fieldLink own index ref (T j).2.1 (T j).2.2.1).before args s = true) (hsame : ∀ x, s.fieldFound? (T j).1 (T j).2.1 (T j).2.2.1 = some x → s.fieldFound? ref (T j).2.1 (T j).2.2.1 = some x) {v : Value} (hv : fs[j]? = some v) (hdg : decode cc pc = .ok (.getfield index, 3))
    (kk : W p l e R s m args below meth c H locs cells slots Q (F0 m (pc + 3) ls (v :: rest))) : W p l e R s m args below meth c H locs cells slots Q (F0 m pc ls (.ref (ad k) :: rest)) :=
  va_get hx hb hts hin hown hK hP k (iW_at hk hF) hc j hj hlink hsame hv hdg kk
theorem gfN (hx : p.tables.exec = Jvm.exec) (hb : c.code = cc) {own ref C host : String} {T : u_T} {n ci index : Nat} (hts : ∀ w ∈ Ts, w.before args s = true) (hin : ∀ w ∈ u_ws C T n, w ∈ Ts) (hown : s.vm.findClass own = some m.cls) (hK : va_K D vwCl (iT cI cQ cL) s) (hP : va_P D vwCl (iW ad N F) H) {k : Nat} (hk : k < N) {fs : List Value} (hF : F k = .inr (ci, fs)) (hc : vwCl[ci]? = some (C, T, n)) (j : Nat) (hj : j < n) (hlink : va_Nw (.fieldLinkNest own index ref (T j).2.1 (T j).2.2.1 host) s) (hsame : ∀ x, s.fieldFound? (T j).1 (T j).2.1 (T j).2.2.1 = some x → s.fieldFound? ref (T j).2.1 (T j).2.2.1 = some x) {v : Value} (hv : fs[j]? = some v) (hdg : decode cc pc = .ok (.getfield index, 3))
    (kk : W p l e R s m args below meth c H locs cells slots Q (F0 m (pc + 3) ls (v :: rest))) : W p l e R s m args below meth c H locs cells slots Q (F0 m pc ls (.ref (ad k) :: rest)) :=
  va_getN hx hb hts hin hown hK hP k (iW_at hk hF) hc j hj (va_Nw.use rfl hlink) hsame hv hdg kk
theorem ald (hx : p.tables.exec = Jvm.exec) (hb : c.code = cc) (hK : va_K D vwCl (iT cI cQ cL) s) (hP : va_P D vwCl (iW ad N F) H) {k n : Nat} {f : Nat → Int32} {x : Int32} {j : Nat} (hk : k < N) (hF : F k = .inl (cI, n, .inl f)) (hxj : x = nI j) (hj : j < n) (hn : n < 2 ^ 31) (hdg : decode cc pc = .ok (.iaload, 1))
    (kk : W p l e R s m args below meth c H locs cells slots Q (F0 m (pc + 1) ls (.int (f j) :: rest))) : W p l e R s m args below meth c H locs cells slots Q (F0 m pc ls (.int x :: .ref (ad k) :: rest)) := by
  subst hxj
  refine va_iald hx hb hK hP k 0 (iW_at hk hF) rfl (vp_in_nI hj hn) hdg ?_
  rw [nI_clamp (Nat.lt_trans hj hn)]
  exact kk
theorem alen (hx : p.tables.exec = Jvm.exec) (hb : c.code = cc) (hK : va_K D vwCl (iT cI cQ cL) s) (hP : va_P D vwCl (iW ad N F) H) {k n : Nat} {f : Nat → Int32} (hk : k < N) (hF : F k = .inl (cI, n, .inl f)) (hdg : decode cc pc = .ok (.arraylength, 1))
    (kk : W p l e R s m args below meth c H locs cells slots Q (F0 m (pc + 1) ls (.int (nI n) :: rest))) : W p l e R s m args below meth c H locs cells slots Q (F0 m pc ls (.ref (ad k) :: rest)) :=
  va_alen hx hb hK hP k 0 (iW_at hk hF) (ty := .int) rfl rfl hdg kk
/-- behind a call that reads -/
theorem cp {r : Value} (hr : va_Run p l e R s m args below meth c H locs cells slots 0 0 (F0 m pc ls st0) rest (fun st o t => o = .returned (some r) ∧ t.heap = st.heap) (fun _ => False))
    (kk : W p l e R s m args below meth c H locs cells slots Q (F0 m (pc + 3) ls (r :: rest))) : W p l e R s m args below meth c H locs cells slots Q (F0 m pc ls st0) := by
  intro T hT X
  obtain ⟨v, st₀, t, T', L, h0, X', hL, e1, e2, ⟨hv, hh⟩, st⟩ := hr T hT X
  cases hv
  have hLn : L = [] := by
    cases L with
    | nil => rfl
    | cons a L => exact (hL a List.mem_cons_self).elim
  subst hLn
  rw [List.append_nil] at X'
  obtain ⟨t2, a1, b1⟩ := kk T' (by rw [e1, hh, h0]) X'
  exact ⟨t2, st t2 a1, b1⟩
theorem icond {k ci n : Nat} {C : String} {T : u_T} {fs : List Value} (hK : va_K D vwCl (iT cI cQ cL) s) (hP : va_P D vwCl (iW ad N F) H) (hk : k < N) (hF : F k = .inr (ci, fs)) (hc : vwCl[ci]? = some (C, T, n)) : ∃ cell : Cell, H[ad k]? = some cell ∧ cell.vm.isStatics = false ∧ s.vm.findClass C = some cell.cls :=
  va_recv hK hP hc (iW_at hk hF)
theorem rW_pre {argl : List Value} {U : State} (hK : va_K D vwCl (iT cI cQ cL) s) (hP : va_P D vwCl (iW ad N F) H) (hNW : NW s) (hU : U.heap = H) (hW : s.WarmedH U.vm) : va_Pc argl (rW D cI cQ cL ad N F) argl.toArray U :=
  ⟨rfl, by rw [hU]; exact hP, va_K.moved hW.alike hK, hNW.warm hW⟩
/-- a call of a virtual method that reads -/
theorem cvR {nL index na : Nat} {own C : String} {y : MethodName} {bytes : ByteArray} {maxL : Nat} {ret : Option FieldType} {ws : List Cond} {rm : Room} {As : List Value} {r : Value} {k ci n : Nat} {T : u_T} {fs : List Value}
    (S : CallFix p m c cc nL s args Ts own) (hM : MR l y ws rm D cI cQ cL ad N F (.ref (ad k) :: As) r) (cw : CallW R s args own C index y bytes maxL ret ws rm 0 0 na) (hK : va_K D vwCl (iT cI cQ cL) s) (hP : va_P D vwCl (iW ad N F) H) (hNW : NW s) (hk : k < N) (hF : F k = .inr (ci, fs)) (hc : vwCl[ci]? = some (C, T, n))
    (hn : As.length = na) (hsize : ls.size = nL) (hstack : st0 = As.reverse ++ .ref (ad k) :: rest) (hW : (rest.map fun v => v.category).sum ≤ 8) (hf : cells + 0 ≤ R.cells ∧ slots + 0 ≤ R.slots) (hdg : decode cc pc = .ok (.invokevirtual index, 3))
    (kk : W p l e R s m args below meth c H locs cells slots Q (F0 m (pc + 3) ls (r :: rest))) : W p l e R s m args below meth c H locs cells slots Q (F0 m pc ls st0) :=
  cp (va_runV (g := F0 m pc ls st0) S hM cw ⟨rW_blind, icond hK hP hk hF hc, fun U hU hW => rW_pre hK hP hNW hU hW⟩ rfl hn hsize hstack (lv_room hW) hdg hf) kk
/-- a call of a static method of its arguments alone -/
theorem csP {nL index na : Nat} {own : String} {y : MethodName} {bytes : ByteArray} {maxL : Nat} {ret : Option FieldType} {ws : List Cond} {rm : Room} {As : List Value} {r : Value}
    (S : CallFix p m c cc nL s args Ts own) (hM : MP l y ws rm As r) (cw : CallB R s args own index y bytes maxL ret ws rm 0 0 na ∧ (Cond.static y).before args s = true)
    (hn : As.length = na) (hsize : ls.size = nL) (hstack : st0 = As.reverse ++ rest) (hW : (rest.map fun v => v.category).sum ≤ 8) (hf : cells + 0 ≤ R.cells ∧ slots + 0 ≤ R.slots) (hdg : decode cc pc = .ok (.invokestatic index, 3))
    (kk : W p l e R s m args below meth c H locs cells slots Q (F0 m (pc + 3) ls (r :: rest))) : W p l e R s m args below meth c H locs cells slots Q (F0 m pc ls st0) :=
  cp (va_runS (g := F0 m pc ls st0) S hM cw ⟨MP_blind, fun U hU hW => ⟨rfl, trivial⟩⟩ rfl hn hsize hstack (lv_room hW) hdg hf) kk
theorem csPN {nL index na : Nat} {own host : String} {y : MethodName} {bytes : ByteArray} {maxL : Nat} {ret : Option FieldType} {ws : List Cond} {rm : Room} {As : List Value} {r : Value}
    (S : CallFix p m c cc nL s args Ts own) (hM : MP l y ws rm As r) (cw : va_CN R s args own index y host bytes maxL ret ws rm 0 0 na) (hst : (Cond.static y).before args s = true)
    (hn : As.length = na) (hsize : ls.size = nL) (hstack : st0 = As.reverse ++ rest) (hW : (rest.map fun v => v.category).sum ≤ 8) (hf : cells + 0 ≤ R.cells ∧ slots + 0 ≤ R.slots) (hdg : decode cc pc = .ok (.invokestatic index, 3))
    (kk : W p l e R s m args below meth c H locs cells slots Q (F0 m (pc + 3) ls (r :: rest))) : W p l e R s m args below meth c H locs cells slots Q (F0 m pc ls st0) :=
  cp (va_runSN (g := F0 m pc ls st0) S hM ⟨cw, hst, trivial⟩ ⟨MP_blind, fun U hU hW => ⟨rfl, trivial⟩⟩ rfl hn hsize hstack (lv_room hW) hdg hf) kk
end ROWS
end
section
def bI (b : Bool) : Int32 := if b then nI 1 else nI 0
theorem bI_t {b : Bool} (h : b = true) : bI b = nI 1 := by rw [h]; rfl
theorem bI_f {b : Bool} (h : b = false) : bI b = nI 0 := by rw [h]; rfl
theorem bI_0 {b : Bool} : bI b = 0 ↔ b = false := by cases b <;> simp [bI, nI_0, show ¬ nI 1 = 0 by decide]
theorem bI_fit (b : Bool) : fits .boolean (.int (bI b)) = true := by cases b <;> rfl
theorem bI_nar (b : Bool) : narrow .boolean (.int (bI b)) = .int (bI b) := by cases b <;> rfl
theorem n_inc (i : Nat) : nI i + Int32.ofInt 1 = nI (i + 1) := by rw [show Int32.ofInt 1 = 1 from rfl, nI_1]
theorem nI_inj {a b : Nat} (ha : a < 2 ^ 31) (hb : b < 2 ^ 31) (h : nI a = nI b) : a = b := (nI_eq ha hb).mp h
section NROWS
variable {p : Program} {l : Launch} {e : Env} {R : Room} {s : State} {m : MethodId} {args : Array Value} {below : List Frame} {meth : Method} {c : Code} {H : Heap} {locs : List Loc} {cells slots : Nat} {Q : State → Prop}
variable {cc : ByteArray} {pc tgt : Nat} {ls : Array Slot} {rest : List Value} {off : Int}
theorem n_iadd (hx : p.tables.exec = Jvm.exec) (hb : c.code = cc) {a b : Nat} (hdg : decode cc pc = .ok (.iadd, 1)) (k : W p l e R s m args below meth c H locs cells slots Q (F0 m (pc + 1) ls (.int (nI (a + b)) :: rest))) : W p l e R s m args below meth c H locs cells slots Q (F0 m pc ls (.int (nI b) :: .int (nI a) :: rest)) :=
  lv_iadd hx hb hdg (by rw [nI_add]; exact k)
theorem n_isub (hx : p.tables.exec = Jvm.exec) (hb : c.code = cc) {a b : Nat} (hba : b ≤ a) (hdg : decode cc pc = .ok (.isub, 1)) (k : W p l e R s m args below meth c H locs cells slots Q (F0 m (pc + 1) ls (.int (nI (a - b)) :: rest))) : W p l e R s m args below meth c H locs cells slots Q (F0 m pc ls (.int (nI b) :: .int (nI a) :: rest)) :=
  lv_isub hx hb hdg (by rw [pk_sub hba]; exact k)
theorem n_imul (hx : p.tables.exec = Jvm.exec) (hb : c.code = cc) {a b : Nat} (hdg : decode cc pc = .ok (.imul, 1)) (k : W p l e R s m args below meth c H locs cells slots Q (F0 m (pc + 1) ls (.int (nI (a * b)) :: rest))) : W p l e R s m args below meth c H locs cells slots Q (F0 m pc ls (.int (nI b) :: .int (nI a) :: rest)) :=
  lv_imul hx hb hdg (by rw [pk_mul]; exact k)
theorem n_idiv (hx : p.tables.exec = Jvm.exec) (hb : c.code = cc) {a b : Nat} (ha : a < 2 ^ 31) (h0 : 0 < b) (hb2 : b < 2 ^ 31) (hdg : decode cc pc = .ok (.idiv, 1)) (k : W p l e R s m args below meth c H locs cells slots Q (F0 m (pc + 1) ls (.int (nI (a / b)) :: rest))) : W p l e R s m args below meth c H locs cells slots Q (F0 m pc ls (.int (nI b) :: .int (nI a) :: rest)) :=
  lv_idiv hx hb hdg (nI_ne0 h0 hb2) (by rw [pk_div ha h0 hb2]; exact k)
theorem n_irem (hx : p.tables.exec = Jvm.exec) (hb : c.code = cc) {a b : Nat} (ha : a < 2 ^ 31) (h0 : 0 < b) (hb2 : b < 2 ^ 31) (hdg : decode cc pc = .ok (.irem, 1)) (k : W p l e R s m args below meth c H locs cells slots Q (F0 m (pc + 1) ls (.int (nI (a % b)) :: rest))) : W p l e R s m args below meth c H locs cells slots Q (F0 m pc ls (.int (nI b) :: .int (nI a) :: rest)) :=
  lv_irem hx hb hdg (nI_ne0 h0 hb2) (by rw [pk_rem ha h0 hb2]; exact k)
theorem n_icmp_eq (hx : p.tables.exec = Jvm.exec) (hb : c.code = cc) {a b : Nat} (ha : a < 2 ^ 31) (hb2 : b < 2 ^ 31) (hdg : decode cc pc = .ok (.if_icmp .eq off, 3)) (ht : (pc : Int) + off = (tgt : Int)) (kt : a = b → W p l e R s m args below meth c H locs cells slots Q (F0 m tgt ls rest)) (kf : a ≠ b → W p l e R s m args below meth c H locs cells slots Q (F0 m (pc + 3) ls rest)) : W p l e R s m args below meth c H locs cells slots Q (F0 m pc ls (.int (nI b) :: .int (nI a) :: rest)) :=
  lv_icmp_eq hx hb hdg ht (fun h => kt ((nI_eq ha hb2).mp h)) (fun h => kf (fun q => h ((nI_eq ha hb2).mpr q)))
theorem n_icmp_ne (hx : p.tables.exec = Jvm.exec) (hb : c.code = cc) {a b : Nat} (ha : a < 2 ^ 31) (hb2 : b < 2 ^ 31) (hdg : decode cc pc = .ok (.if_icmp .ne off, 3)) (ht : (pc : Int) + off = (tgt : Int)) (kt : a ≠ b → W p l e R s m args below meth c H locs cells slots Q (F0 m tgt ls rest)) (kf : a = b → W p l e R s m args below meth c H locs cells slots Q (F0 m (pc + 3) ls rest)) : W p l e R s m args below meth c H locs cells slots Q (F0 m pc ls (.int (nI b) :: .int (nI a) :: rest)) :=
  lv_icmp_ne hx hb hdg ht (fun h => kt (fun q => h ((nI_eq ha hb2).mpr q))) (fun h => kf ((nI_eq ha hb2).mp h))
theorem n_icmp_lt (hx : p.tables.exec = Jvm.exec) (hb : c.code = cc) {a b : Nat} (ha : a < 2 ^ 31) (hb2 : b < 2 ^ 31) (hdg : decode cc pc = .ok (.if_icmp .lt off, 3)) (ht : (pc : Int) + off = (tgt : Int)) (kt : a < b → W p l e R s m args below meth c H locs cells slots Q (F0 m tgt ls rest)) (kf : b ≤ a → W p l e R s m args below meth c H locs cells slots Q (F0 m (pc + 3) ls rest)) : W p l e R s m args below meth c H locs cells slots Q (F0 m pc ls (.int (nI b) :: .int (nI a) :: rest)) :=
  lv_icmp_lt hx hb hdg ht (fun h => kt ((nI_ltI ha hb2).mp h)) (fun h => kf (Nat.not_lt.mp fun q => h ((nI_ltI ha hb2).mpr q)))
theorem n_icmp_ge (hx : p.tables.exec = Jvm.exec) (hb : c.code = cc) {a b : Nat} (ha : a < 2 ^ 31) (hb2 : b < 2 ^ 31) (hdg : decode cc pc = .ok (.if_icmp .ge off, 3)) (ht : (pc : Int) + off = (tgt : Int)) (kt : b ≤ a → W p l e R s m args below meth c H locs cells slots Q (F0 m tgt ls rest)) (kf : a < b → W p l e R s m args below meth c H locs cells slots Q (F0 m (pc + 3) ls rest)) : W p l e R s m args below meth c H locs cells slots Q (F0 m pc ls (.int (nI b) :: .int (nI a) :: rest)) :=
  lv_icmp_ge hx hb hdg ht (fun h => kt ((nI_leI hb2 ha).mp h)) (fun h => kf (Nat.not_le.mp fun q => h ((nI_leI hb2 ha).mpr q)))
theorem n_icmp_gt (hx : p.tables.exec = Jvm.exec) (hb : c.code = cc) {a b : Nat} (ha : a < 2 ^ 31) (hb2 : b < 2 ^ 31) (hdg : decode cc pc = .ok (.if_icmp .gt off, 3)) (ht : (pc : Int) + off = (tgt : Int)) (kt : b < a → W p l e R s m args below meth c H locs cells slots Q (F0 m tgt ls rest)) (kf : a ≤ b → W p l e R s m args below meth c H locs cells slots Q (F0 m (pc + 3) ls rest)) : W p l e R s m args below meth c H locs cells slots Q (F0 m pc ls (.int (nI b) :: .int (nI a) :: rest)) :=
  lv_icmp_gt hx hb hdg ht (fun h => kt ((nI_ltI hb2 ha).mp h)) (fun h => kf (Nat.not_lt.mp fun q => h ((nI_ltI hb2 ha).mpr q)))
theorem n_icmp_le (hx : p.tables.exec = Jvm.exec) (hb : c.code = cc) {a b : Nat} (ha : a < 2 ^ 31) (hb2 : b < 2 ^ 31) (hdg : decode cc pc = .ok (.if_icmp .le off, 3)) (ht : (pc : Int) + off = (tgt : Int)) (kt : a ≤ b → W p l e R s m args below meth c H locs cells slots Q (F0 m tgt ls rest)) (kf : b < a → W p l e R s m args below meth c H locs cells slots Q (F0 m (pc + 3) ls rest)) : W p l e R s m args below meth c H locs cells slots Q (F0 m pc ls (.int (nI b) :: .int (nI a) :: rest)) :=
  lv_icmp_le hx hb hdg ht (fun h => kt ((nI_leI ha hb2).mp h)) (fun h => kf (Nat.not_le.mp fun q => h ((nI_leI ha hb2).mpr q)))
theorem n_if_eq (hx : p.tables.exec = Jvm.exec) (hb : c.code = cc) {a : Nat} (ha : a < 2 ^ 31) (hdg : decode cc pc = .ok (.ifCond .eq off, 3)) (ht : (pc : Int) + off = (tgt : Int)) (kt : a = 0 → W p l e R s m args below meth c H locs cells slots Q (F0 m tgt ls rest)) (kf : a ≠ 0 → W p l e R s m args below meth c H locs cells slots Q (F0 m (pc + 3) ls rest)) : W p l e R s m args below meth c H locs cells slots Q (F0 m pc ls (.int (nI a) :: rest)) :=
  lv_if_eq hx hb hdg ht (fun h => kt ((nI_eq ha (by decide)).mp h)) (fun h => kf (fun q => h (by rw [q]; rfl)))
theorem n_if_ne (hx : p.tables.exec = Jvm.exec) (hb : c.code = cc) {a : Nat} (ha : a < 2 ^ 31) (hdg : decode cc pc = .ok (.ifCond .ne off, 3)) (ht : (pc : Int) + off = (tgt : Int)) (kt : a ≠ 0 → W p l e R s m args below meth c H locs cells slots Q (F0 m tgt ls rest)) (kf : a = 0 → W p l e R s m args below meth c H locs cells slots Q (F0 m (pc + 3) ls rest)) : W p l e R s m args below meth c H locs cells slots Q (F0 m pc ls (.int (nI a) :: rest)) :=
  lv_if_ne hx hb hdg ht (fun h => kt (fun q => h (by rw [q]; rfl))) (fun h => kf ((nI_eq ha (by decide)).mp h))
theorem n_if_le (hx : p.tables.exec = Jvm.exec) (hb : c.code = cc) {a : Nat} (ha : a < 2 ^ 31) (hdg : decode cc pc = .ok (.ifCond .le off, 3)) (ht : (pc : Int) + off = (tgt : Int)) (kt : a = 0 → W p l e R s m args below meth c H locs cells slots Q (F0 m tgt ls rest)) (kf : 0 < a → W p l e R s m args below meth c H locs cells slots Q (F0 m (pc + 3) ls rest)) : W p l e R s m args below meth c H locs cells slots Q (F0 m pc ls (.int (nI a) :: rest)) :=
  lv_if_le hx hb hdg ht (fun h => kt (Nat.le_zero.mp ((nI_leI (b := 0) ha (by decide)).mp h))) (fun h => kf (Nat.pos_of_ne_zero fun q => h (by rw [q]; decide)))
theorem n_if_gt (hx : p.tables.exec = Jvm.exec) (hb : c.code = cc) {a : Nat} (ha : a < 2 ^ 31) (hdg : decode cc pc = .ok (.ifCond .gt off, 3)) (ht : (pc : Int) + off = (tgt : Int)) (kt : 0 < a → W p l e R s m args below meth c H locs cells slots Q (F0 m tgt ls rest)) (kf : a = 0 → W p l e R s m args below meth c H locs cells slots Q (F0 m (pc + 3) ls rest)) : W p l e R s m args below meth c H locs cells slots Q (F0 m pc ls (.int (nI a) :: rest)) :=
  lv_if_gt hx hb hdg ht (fun h => kt ((nI_ltI (a := 0) (by decide) ha).mp h)) (fun h => kf (Nat.le_zero.mp (Nat.not_lt.mp fun q => h ((nI_ltI (a := 0) (by decide) ha).mpr q))))
theorem n_if_lt (hx : p.tables.exec = Jvm.exec) (hb : c.code = cc) {a : Nat} (ha : a < 2 ^ 31) (hdg : decode cc pc = .ok (.ifCond .lt off, 3)) (ht : (pc : Int) + off = (tgt : Int)) (kf : W p l e R s m args below meth c H locs cells slots Q (F0 m (pc + 3) ls rest)) : W p l e R s m args below meth c H locs cells slots Q (F0 m pc ls (.int (nI a) :: rest)) :=
  lv_if_lt hx hb hdg ht (fun h => absurd h (nI_pos ha)) (fun _ => kf)
theorem n_if_ge (hx : p.tables.exec = Jvm.exec) (hb : c.code = cc) {a : Nat} (ha : a < 2 ^ 31) (hdg : decode cc pc = .ok (.ifCond .ge off, 3)) (ht : (pc : Int) + off = (tgt : Int)) (kt : W p l e R s m args below meth c H locs cells slots Q (F0 m tgt ls rest)) : W p l e R s m args below meth c H locs cells slots Q (F0 m pc ls (.int (nI a) :: rest)) :=
  lv_if_ge hx hb hdg ht (fun _ => kt) (fun h => absurd (nI_pos' ha) h)
theorem b_if_eq (hx : p.tables.exec = Jvm.exec) (hb : c.code = cc) {b : Bool} (hdg : decode cc pc = .ok (.ifCond .eq off, 3)) (ht : (pc : Int) + off = (tgt : Int)) (kt : b = false → W p l e R s m args below meth c H locs cells slots Q (F0 m tgt ls rest)) (kf : b = true → W p l e R s m args below meth c H locs cells slots Q (F0 m (pc + 3) ls rest)) : W p l e R s m args below meth c H locs cells slots Q (F0 m pc ls (.int (bI b) :: rest)) :=
  lv_if_eq hx hb hdg ht (fun h => kt (bI_0.mp h)) (fun h => kf (by cases b; exact absurd rfl h; rfl))
theorem b_if_ne (hx : p.tables.exec = Jvm.exec) (hb : c.code = cc) {b : Bool} (hdg : decode cc pc = .ok (.ifCond .ne off, 3)) (ht : (pc : Int) + off = (tgt : Int)) (kt : b = true → W p l e R s m args below meth c H locs cells slots Q (F0 m tgt ls rest)) (kf : b = false → W p l e R s m args below meth c H locs cells slots Q (F0 m (pc + 3) ls rest)) : W p l e R s m args below meth c H locs cells slots Q (F0 m pc ls (.int (bI b) :: rest)) :=
  lv_if_ne hx hb hdg ht (fun h => kt (by cases b; exact absurd rfl h; rfl)) (fun h => kf (bI_0.mp h))
end NROWS
theorem gIn {x y : Cond} (h : y ∈ AW) : GoodIn (x :: AW) (y :: AW) := by
  intro w hw
  have hm : w ∈ AW := by
    rcases List.mem_cons.mp hw with rfl | h9
    · exact h
    · exact h9
  exact ⟨List.mem_cons_of_mem _ hm, good_of_word (List.all_eq_true.mp AW_good w hm)⟩
section CWS
variable {s : State} {args : Array Value} {R rm : Room} {own C : String} {index maxL mc ms : Nat} {y : MethodName} {bytes : ByteArray} {ret : Option FieldType} {x : Cond}
theorem cwV9 (n : Nat) (ht : ∀ w ∈ x :: AW, w.before args s = true) (hc : Cond.code y bytes maxL ret ∈ AW) (hl : Cond.methodLink own index y ∈ AW) (hi : Cond.instanceMethod y ∈ AW) (he : Cond.selects C y y ∈ AW) (hini : Cond.initialized y.cls ∈ AW) (hrc : rm.cells = mc) (hrs : rm.slots = ms)
    (hd : y.cls ≠ "java/lang/invoke/MethodHandle" ∧ y.cls ≠ "java/lang/invoke/VarHandle" ∧ (parseMethodDescriptor y.desc).map (fun d => d.parameters.length) = some n) (hR : rm.frames + 1 ≤ R.frames ∧ 8 + (maxL + 11) + rm.locals ≤ R.locals) : CallW R s args own C index y bytes maxL ret (Cond.code y bytes maxL ret :: AW) rm mc ms n :=
  ⟨callB_of n ht (gIn hc) rfl hrc hrs (ht _ (List.mem_cons_of_mem _ hini)) (ht _ (List.mem_cons_of_mem _ hl)) hd hR, ht _ (List.mem_cons_of_mem _ hi), ht _ (List.mem_cons_of_mem _ he)⟩
theorem cwS9 (n : Nat) (ht : ∀ w ∈ x :: AW, w.before args s = true) (hc : Cond.code y bytes maxL ret ∈ AW) (hl : Cond.methodLink own index y ∈ AW) (hst : Cond.static y ∈ AW) (hini : Cond.initialized y.cls ∈ AW) (hrc : rm.cells = mc) (hrs : rm.slots = ms)
    (hd : y.cls ≠ "java/lang/invoke/MethodHandle" ∧ y.cls ≠ "java/lang/invoke/VarHandle" ∧ (parseMethodDescriptor y.desc).map (fun d => d.parameters.length) = some n) (hR : rm.frames + 1 ≤ R.frames ∧ 8 + (maxL + 11) + rm.locals ≤ R.locals) : CallB R s args own index y bytes maxL ret (Cond.code y bytes maxL ret :: AW) rm mc ms n ∧ (Cond.static y).before args s = true :=
  ⟨callB_of n ht (gIn hc) rfl hrc hrs (ht _ (List.mem_cons_of_mem _ hini)) (ht _ (List.mem_cons_of_mem _ hl)) hd hR, ht _ (List.mem_cons_of_mem _ hst)⟩
theorem cwN9 (n : Nat) (ht : ∀ w ∈ x :: AW, w.before args s = true) (hc : Cond.code y bytes maxL ret ∈ AW) {host : String} (hl : va_Nw (.methodLinkNest own index y host) s) (hini : Cond.initialized y.cls ∈ AW) (hrc : rm.cells = mc) (hrs : rm.slots = ms)
    (hd : y.cls ≠ "java/lang/invoke/MethodHandle" ∧ y.cls ≠ "java/lang/invoke/VarHandle" ∧ (parseMethodDescriptor y.desc).map (fun d => d.parameters.length) = some n) (hR : rm.frames + 1 ≤ R.frames ∧ 8 + (maxL + 11) + rm.locals ≤ R.locals) : va_CN R s args own index y host bytes maxL ret (Cond.code y bytes maxL ret :: AW) rm mc ms n :=
  va_cnB n ht (gIn hc) rfl hrc hrs hl (ht _ (List.mem_cons_of_mem _ hini)) hd hR
end CWS
theorem nf0 {s : State} (h : NW s) : va_Nw (.fieldLinkNest RX4 77 "SquopPiles$Mat" "cell" "[I" "SquopPiles") s := h.1 (RX4, 77, "SquopPiles$Mat", "cell", "[I") (List.mem_of_getElem? (i := 0) rfl)
theorem nf1 {s : State} (h : NW s) : va_Nw (.fieldLinkNest RX5 170 "SquopPiles$Mat" "cell" "[I" "SquopPiles") s := h.1 (RX5, 170, "SquopPiles$Mat", "cell", "[I") (List.mem_of_getElem? (i := 1) rfl)
theorem nf2 {s : State} (h : NW s) : va_Nw (.fieldLinkNest RX5 94 "SquopPiles$State" "mat" "LSquopPiles$Mat;" "SquopPiles") s := h.1 (RX5, 94, "SquopPiles$State", "mat", "LSquopPiles$Mat;") (List.mem_of_getElem? (i := 2) rfl)
theorem nf3 {s : State} (h : NW s) : va_Nw (.fieldLinkNest RX5 177 "SquopPiles$State" "flights" "[I" "SquopPiles") s := h.1 (RX5, 177, "SquopPiles$State", "flights", "[I") (List.mem_of_getElem? (i := 3) rfl)
theorem nf4 {s : State} (h : NW s) : va_Nw (.fieldLinkNest RX5 210 "SquopPiles$State" "fouls" "[I" "SquopPiles") s := h.1 (RX5, 210, "SquopPiles$State", "fouls", "[I") (List.mem_of_getElem? (i := 4) rfl)
theorem nf5 {s : State} (h : NW s) : va_Nw (.fieldLinkNest RX5 213 "SquopPiles$State" "lost" "[I" "SquopPiles") s := h.1 (RX5, 213, "SquopPiles$State", "lost", "[I") (List.mem_of_getElem? (i := 5) rfl)
theorem nf6 {s : State} (h : NW s) : va_Nw (.fieldLinkNest RX5 219 "SquopPiles$State" "turn" "I" "SquopPiles") s := h.1 (RX5, 219, "SquopPiles$State", "turn", "I") (List.mem_of_getElem? (i := 6) rfl)
theorem nf7 {s : State} (h : NW s) : va_Nw (.fieldLinkNest RX5 237 "SquopPiles$State" "lifts" "I" "SquopPiles") s := h.1 (RX5, 237, "SquopPiles$State", "lifts", "I") (List.mem_of_getElem? (i := 7) rfl)
theorem nf8 {s : State} (h : NW s) : va_Nw (.fieldLinkNest RX5 109 "SquopPiles$State" "setting" "I" "SquopPiles") s := h.1 (RX5, 109, "SquopPiles$State", "setting", "I") (List.mem_of_getElem? (i := 8) rfl)
theorem nf9 {s : State} (h : NW s) : va_Nw (.fieldLinkNest RX5 156 "SquopPiles$Past" "many" "I" "SquopPiles") s := h.1 (RX5, 156, "SquopPiles$Past", "many", "I") (List.mem_of_getElem? (i := 9) rfl)
theorem nm0 {s : State} (h : NW s) : va_Nw (.methodLinkNest RX5 9 yX4_init "SquopPiles") s := h.2 (RX5, 9, yX4_init) (List.mem_of_getElem? (i := 0) rfl)
theorem nm1 {s : State} (h : NW s) : va_Nw (.methodLinkNest RX1 21 yX5_colourOf "SquopPiles") s := h.2 (RX1, 21, yX5_colourOf) (List.mem_of_getElem? (i := 1) rfl)
theorem nm2 {s : State} (h : NW s) : va_Nw (.methodLinkNest RX1 25 yX5_baseOf "SquopPiles") s := h.2 (RX1, 25, yX5_baseOf) (List.mem_of_getElem? (i := 2) rfl)
theorem nm3 {s : State} (h : NW s) : va_Nw (.methodLinkNest RX2 24 yX4_init "SquopPiles") s := h.2 (RX2, 24, yX4_init) (List.mem_of_getElem? (i := 3) rfl)
theorem nm4 {s : State} (h : NW s) : va_Nw (.methodLinkNest RX5 28 yX0_init "SquopPiles") s := h.2 (RX5, 28, yX0_init) (List.mem_of_getElem? (i := 4) rfl)
theorem nm5 {s : State} (h : NW s) : va_Nw (.methodLinkNest RX5 42 yX3_init "SquopPiles") s := h.2 (RX5, 42, yX3_init) (List.mem_of_getElem? (i := 5) rfl)
theorem nm6 {s : State} (h : NW s) : va_Nw (.methodLinkNest RX4 52 yX5_colourOf "SquopPiles") s := h.2 (RX4, 52, yX5_colourOf) (List.mem_of_getElem? (i := 6) rfl)
theorem nm7 {s : State} (h : NW s) : va_Nw (.methodLinkNest RX1 34 yX5_isWink "SquopPiles") s := h.2 (RX1, 34, yX5_isWink) (List.mem_of_getElem? (i := 7) rfl)
theorem nm8 {s : State} (h : NW s) : va_Nw (.methodLinkNest RX3 31 yX5_landing "SquopPiles") s := h.2 (RX3, 31, yX5_landing) (List.mem_of_getElem? (i := 8) rfl)
theorem nm9 {s : State} (h : NW s) : va_Nw (.methodLinkNest RX4 80 yX5_stepsOf "SquopPiles") s := h.2 (RX4, 80, yX5_stepsOf) (List.mem_of_getElem? (i := 9) rfl)
theorem nm10 {s : State} (h : NW s) : va_Nw (.methodLinkNest RX4 83 yX5_landing "SquopPiles") s := h.2 (RX4, 83, yX5_landing) (List.mem_of_getElem? (i := 10) rfl)
theorem nm11 {s : State} (h : NW s) : va_Nw (.methodLinkNest RX4 86 yX5_restingCell "SquopPiles") s := h.2 (RX4, 86, yX5_restingCell) (List.mem_of_getElem? (i := 11) rfl)
theorem nm12 {s : State} (h : NW s) : va_Nw (.methodLinkNest RX4 99 yX5_flightAnswer "SquopPiles") s := h.2 (RX4, 99, yX5_flightAnswer) (List.mem_of_getElem? (i := 12) rfl)
theorem nm13 {s : State} (h : NW s) : va_Nw (.methodLinkNest RX4 63 yX5_cellAt "SquopPiles") s := h.2 (RX4, 63, yX5_cellAt) (List.mem_of_getElem? (i := 13) rfl)
theorem nm14 {s : State} (h : NW s) : va_Nw (.methodLinkNest RX4 73 yX5_cellBeside "SquopPiles") s := h.2 (RX4, 73, yX5_cellBeside) (List.mem_of_getElem? (i := 14) rfl)
theorem nm15 {s : State} (h : NW s) : va_Nw (.methodLinkNest RX4 102 yX5_isWink "SquopPiles") s := h.2 (RX4, 102, yX5_isWink) (List.mem_of_getElem? (i := 15) rfl)
end
section
theorem sw_out {x : Int32} (n : Nat) (h : ∀ k, k < n → x ≠ nI k) (hn : n < 2 ^ 31 := by decide) : x.toInt < 0 ∨ ((n : Int) - 1) < x.toInt := by
  rcases Int.lt_or_le x.toInt 0 with q | q
  · exact Or.inl q
  · refine Or.inr ?_
    rcases Int.lt_or_le ((n : Int) - 1) x.toInt with r | r
    · exact r
    · exfalso
      refine h x.toInt.toNat (by omega) ?_
      apply Int32.toInt_inj.mp
      rw [nI_toInt (by omega)]
      omega
def wk (x : Int32) : Bool := !(decide (x < 0)) && !(decide (nI 16 ≤ x))
def ix (x : Int32) : Nat := x.toNatClampNeg
theorem wk_of {x : Int32} (h : wk x = true) : ∃ j : Nat, j < 16 ∧ x = nI j := by
  simp only [wk, Bool.and_eq_true, Bool.not_eq_true', decide_eq_false_iff_not] at h
  obtain ⟨j, h1, h2⟩ := nI_of h.1
  refine ⟨j, ?_, h2⟩
  have h3 := h.2
  rw [h2] at h3
  exact Nat.not_le.mp fun q => h3 ((nI_leI (by decide) h1).mpr q)
theorem wk_nI {j : Nat} (h : j < 16) : wk (nI j) = true := by
  have h1 : ¬ nI j < 0 := nI_pos (Nat.lt_trans h (by decide))
  have h2 : ¬ nI 16 ≤ nI j := fun q => absurd ((nI_leI (by decide) (Nat.lt_trans h (by decide))).mp q) (by omega)
  simp [wk, h1, h2]
theorem ix_nI {j : Nat} (h : j < 2 ^ 31) : ix (nI j) = j := nI_clamp h
theorem wk_eq {x : Int32} (h : wk x = true) : x = nI (ix x) := by
  obtain ⟨j, hj, rfl⟩ := wk_of h
  rw [ix_nI (Nat.lt_trans hj (by decide))]
theorem wk_lt {x : Int32} (h : wk x = true) : ix x < 16 := by
  obtain ⟨j, hj, rfl⟩ := wk_of h
  rw [ix_nI (Nat.lt_trans hj (by decide))]
  exact hj
theorem wk_m1 : wk (-1) = false := by decide
def cl4 (x : Int32) : Bool := !(decide (x < 0)) && !(decide (nI 4 ≤ x))
def on (x y : Int32) : Bool := (!(decide (x < 0)) && !(decide (nI 13 ≤ x))) && (!(decide (y < 0)) && !(decide (nI 13 ≤ y)))
def bs (c : Nat) : Nat := if c = 0 then 0 else if c = 1 then 12 else if c = 2 then 168 else 156
def ea (d : Int32) : Int32 := if ¬ d < nI 1 ∧ ¬ nI 3 < d then nI 1 else if ¬ d < nI 5 then -1 else nI 0
def so (d : Int32) : Int32 := if ¬ d < nI 3 ∧ ¬ nI 5 < d then nI 1 else if d = nI 2 ∨ d = nI 6 then nI 0 else -1
def cat (x y : Int32) : Int32 := nI 13 * y + x
def beside (x y d : Int32) : Int32 := if on (x + ea d) (y + so d) = true then cat (x + ea d) (y + so d) else -1
/-- a flight: steps left, where, how it goes, whether it has bounced -/
def ldL : Nat → Int32 → Int32 → Int32 → Int32 → Bool → Int32
  | 0, x, y, _, _, _ => cat x y
  | n + 1, x, y, u, v, b => if on (x + u) (y + v) = true then ldL n (x + u) (y + v) u v b else if b = true then -1 else if on (x + -u) (y + -v) = true then ldL n (x + -u) (y + -v) (-u) (-v) true else -1
def stp (w f : Nat) : Nat := if w % 4 < 2 then f else f + 1
def rest9 (w : Nat) (q : Int32) : Int32 := if q = -1 then nI (bs (w / 4)) else q
def fans (q : Int32) : Int32 := if q = nI 84 then nI 169 else q
/-- how many i below n -/
def cnt (p : Nat → Bool) : Nat → Nat
  | 0 => 0
  | n + 1 => if p n then cnt p n + 1 else cnt p n
theorem cnt_le (p : Nat → Bool) : ∀ n, cnt p n ≤ n
  | 0 => Nat.le_refl 0
  | n + 1 => by
    have h := cnt_le p n
    simp only [cnt]
    split <;> omega
theorem cnt_cong {p q : Nat → Bool} : ∀ {n : Nat}, (∀ k, k < n → p k = q k) → cnt p n = cnt q n
  | 0, _ => rfl
  | n + 1, h => by
    simp only [cnt]
    rw [cnt_cong (n := n) (fun k hk => h k (Nat.lt_succ_of_lt hk)), h n (Nat.lt_succ_self n)]
theorem cnt_pos {p : Nat → Bool} : ∀ {n i : Nat}, i < n → p i = true → 0 < cnt p n
  | 0, _, h, _ => absurd h (Nat.not_lt_zero _)
  | n + 1, i, h, hp => by
    simp only [cnt]
    by_cases e : i = n
    · subst e
      rw [if_pos hp]
      omega
    · have := cnt_pos (n := n) (i := i) (by omega) hp
      split <;> omega
/-- the first i from i0 on, n of them; none: -1 -/
def fst (p : Nat → Bool) : Nat → Nat → Int32
  | 0, _ => -1
  | n + 1, i => if p i then nI i else fst p n (i + 1)
def sm (f : Nat → Nat) : Nat → Nat
  | 0 => 0
  | n + 1 => sm f n + f n
theorem sm_le {f : Nat → Nat} {b : Nat} (h : ∀ k, f k ≤ b) : ∀ n, sm f n ≤ n * b
  | 0 => by simp [sm]
  | n + 1 => by
    have h1 := sm_le h n
    have h2 := h n
    simp only [sm]
    rw [Nat.succ_mul]
    omega
def anyl (p : Nat → Bool) : Nat → Nat → Bool
  | 0, _ => false
  | n + 1, i => if p i then true else anyl p n (i + 1)
/-- a pile's links down: how many -/
def plc (b : Nat → Int32) : Nat → Int32 → Nat
  | 0, _ => 0
  | n + 1, x => if wk x = true then plc b n (b (ix x)) + 1 else 0
theorem plc_le (b : Nat → Int32) : ∀ n x, plc b n x ≤ n
  | 0, _ => Nat.le_refl 0
  | n + 1, x => by
    have h := plc_le b n (b (ix x))
    simp only [plc]
    split <;> omega
/-- so many links down, as long as there is one -/
def lou (b : Nat → Int32) : Nat → Int32 → Int32
  | 0, x => x
  | n + 1, x => if wk x = true then lou b n (b (ix x)) else x
def lbl (v : Nat → Int32) (c : Nat) : Nat → Int32 → Bool
  | 0, _ => false
  | n + 1, x => if wk x = true then (if ix x / 4 = c then true else lbl v c n (v (ix x))) else false
def msk (p : Nat → Bool) : Nat → Int32
  | 0 => nI 0
  | n + 1 => if p n then msk p n ||| (nI 1 <<< (nI (n / 4) &&& 31)) else msk p n
def mxl (p : Nat → Bool) (f : Nat → Nat) : Nat → Nat
  | 0 => 0
  | n + 1 => if p n then max (mxl p f n) (f n) else mxl p f n
def imax (x y : Int32) : Int32 := if x < y then y else x
def imin (x y : Int32) : Int32 := if y < x then y else x
def mxi (p : Nat → Bool) (f : Nat → Int32) : Nat → Int32
  | 0 => nI 0
  | n + 1 => if p n then imax (mxi p f n) (f n) else mxi p f n
-- the mat
def pot (c : Nat → Int32) (w : Nat) : Bool := decide (c w = -1)
def cov (v : Nat → Int32) (w : Nat) : Bool := !(decide (v w = -1))
def hgt (c : Nat → Int32) (q : Int32) : Nat := cnt (fun i => decide (c i = q)) 16
def tpq (c v : Nat → Int32) (q : Int32) (i : Nat) : Bool := decide (c i = q) && decide (v i = -1)
def top (c v : Nat → Int32) (q : Int32) : Int32 := fst (tpq c v q) 16 0
def bot (c b : Nat → Int32) (w : Nat) : Bool := !(decide (c w = -1)) && decide (b w = -1)
def pls (c b : Nat → Int32) (w : Nat) : Int32 := if c w = -1 then -1 else nI (plc b 16 (b w))
def low (c b v : Nat → Int32) (q : Int32) (n : Nat) : Int32 := lou b (n - 1) (top c v q)
def potc (c : Nat → Int32) (k : Nat) : Nat := cnt (fun w => decide (c (4 * k + w) = -1)) 4
def covc (v : Nat → Int32) (k : Nat) : Nat := cnt (fun w => cov v (4 * k + w)) 4
def potn (c : Nat → Int32) : Nat := sm (potc c) 4
def over (c : Nat → Int32) : Bool := anyl (fun k => decide (potc c k = 4)) 4 0
def ptw (c v : Nat → Int32) (k w : Nat) : Nat := if c (4 * k + w) = -1 then 3 else if cov v (4 * k + w) = true then 0 else if c (4 * k + w) = nI (bs k) then 0 else 1
def ptc (c v : Nat → Int32) (k : Nat) : Nat := sm (ptw c v k) 4
def ptt (c v : Nat → Int32) (t : Nat) : Nat := ptc c v t + ptc c v (t + 2)
def oth (v : Nat → Int32) (k w : Nat) : Bool := !(decide (w / 4 = k)) && lbl v k 16 (v w)
theorem potc_le (c : Nat → Int32) (k : Nat) : potc c k ≤ 4 := cnt_le _ 4
theorem covc_le (v : Nat → Int32) (k : Nat) : covc v k ≤ 4 := cnt_le _ 4
theorem hgt_le (c : Nat → Int32) (q : Int32) : hgt c q ≤ 16 := cnt_le _ 16
theorem ptw_le (c v : Nat → Int32) (k w : Nat) : ptw c v k w ≤ 3 := by
  unfold ptw
  split
  · omega
  · split
    · omega
    · split <;> omega
theorem ptc_le (c v : Nat → Int32) (k : Nat) : ptc c v k ≤ 12 := sm_le (ptw_le c v k) 4
theorem potn_le (c : Nat → Int32) : potn c ≤ 16 := sm_le (potc_le c) 4
def matAt (cI : ClassId) (ad : Nat → Nat) (F : Nat → va_E) (k : Nat) (c b v : Nat → Int32) : Prop :=
  F k = .inr (1, [.ref (ad (k + 1)), .ref (ad (k + 2)), .ref (ad (k + 3))]) ∧ F (k + 1) = .inl (cI, 16, .inl c) ∧ F (k + 2) = .inl (cI, 16, .inl b) ∧ F (k + 3) = .inl (cI, 16, .inl v)
section SWI
variable {p : Program} {l : Launch} {e : Env} {R : Room} {s : State} {m : MethodId} {args : Array Value} {below : List Frame} {meth : Method} {c : Code} {H : Heap} {locs : List Loc} {cells slots : Nat} {Q : State → Prop}
variable {cc : ByteArray} {pc tgt : Nat} {ls : Array Slot} {rest : List Value} {off : Int}
theorem sw_in (j : Nat) (hx : p.tables.exec = Jvm.exec) (hb : c.code = cc) {dflt hi : Int} {offs : Array Int} {len : Nat} {x : Int32} (hdg : decode cc pc = .ok (.tableswitch dflt 0 hi offs, len)) (h : x = nI j) (hj : (nI j).toInt = (j : Int)) (hh : decide ((j : Int) ≤ hi) = true) (ho : offs[j]? = some off) (ht : (pc : Int) + off = (tgt : Int))
    (k : W p l e R s m args below meth c H locs cells slots Q (F0 m tgt ls rest)) : W p l e R s m args below meth c H locs cells slots Q (F0 m pc ls (.int x :: rest)) := by
  have h9 := of_decide_eq_true hh
  subst h
  refine lv_tableIn hx hb hdg (by rw [hj]; omega) (by rw [hj]; omega) ?_ ht k
  rw [hj, show ((j : Int) - 0).toNat = j by omega]
  exact ho
end SWI
def ldg (q d : Int32) (f : Nat) : Int32 := ldL f (q - q / nI 13 * nI 13) (q / nI 13) (ea d) (so d) false
end
section
set_option maxRecDepth 100000 in
set_option maxHeartbeats 4000000 in
theorem tX5_isWink (l : Launch) (x : Int32) : MP l yX5_isWink (Cond.code yX5_isWink cX5_isWink 1 (some .boolean) :: AW) ({ frames := 0, cells := 0, slots := 0, locals := 0 } : Room) [.int x] (.int (bI (wk x))) := by
  refine mp_i (ty := .boolean) (by decide +kernel) rfl rfl rfl (bI_nar _) (Nat.le_of_ble_eq_true rfl) (fun p e s m below meth cd Q ls hx hb hml hown hts hret hl => ?_)
  have hown : s.vm.findClass RX5 = some m.cls := hown
  have hl : lv_has ls 1 [(0, .int x)] := hl
  refine lv_iload_n hx hb (dk kX5_isWink_ok 0 rfl) rfl (lv_at hl 0 rfl) ?_
  refine lv_if_lt (tgt := 14) hx hb (dk kX5_isWink_ok 1 rfl) (by decide) (fun h1 => ?_) (fun h1 => ?_)
  · skip
    refine lv_iconst (v := nI 0) hx hb (dk kX5_isWink_ok 7 rfl) rfl ?_
    exact hret _ _ _ (by simp [wk, h1, bI]) (dk kX5_isWink_ok 8 rfl)
  · skip
    refine lv_iload_n hx hb (dk kX5_isWink_ok 2 rfl) rfl (lv_at hl 0 rfl) ?_
    refine lv_bipush (v := nI 16) hx hb (dk kX5_isWink_ok 3 rfl) rfl ?_
    refine lv_icmp_ge (tgt := 14) hx hb (dk kX5_isWink_ok 4 rfl) (by decide) (fun h2 => ?_) (fun h2 => ?_)
    · skip
      refine lv_iconst (v := nI 0) hx hb (dk kX5_isWink_ok 7 rfl) rfl ?_
      exact hret _ _ _ (by simp [wk, h1, h2, bI]) (dk kX5_isWink_ok 8 rfl)
    · skip
      refine lv_iconst (v := nI 1) hx hb (dk kX5_isWink_ok 5 rfl) rfl ?_
      refine lv_goto (tgt := 15) hx hb (dk kX5_isWink_ok 6 rfl) (by decide) ?_
      exact hret _ _ _ (by simp [wk, h1, h2, bI]) (dk kX5_isWink_ok 8 rfl)
set_option maxRecDepth 100000 in
set_option maxHeartbeats 4000000 in
theorem tX5_isColour (l : Launch) (x : Int32) : MP l yX5_isColour (Cond.code yX5_isColour cX5_isColour 1 (some .boolean) :: AW) ({ frames := 0, cells := 0, slots := 0, locals := 0 } : Room) [.int x] (.int (bI (cl4 x))) := by
  refine mp_i (ty := .boolean) (by decide +kernel) rfl rfl rfl (bI_nar _) (Nat.le_of_ble_eq_true rfl) (fun p e s m below meth cd Q ls hx hb hml hown hts hret hl => ?_)
  have hown : s.vm.findClass RX5 = some m.cls := hown
  have hl : lv_has ls 1 [(0, .int x)] := hl
  refine lv_iload_n hx hb (dk kX5_isColour_ok 0 rfl) rfl (lv_at hl 0 rfl) ?_
  refine lv_if_lt (tgt := 13) hx hb (dk kX5_isColour_ok 1 rfl) (by decide) (fun h1 => ?_) (fun h1 => ?_)
  · skip
    refine lv_iconst (v := nI 0) hx hb (dk kX5_isColour_ok 7 rfl) rfl ?_
    exact hret _ _ _ (by simp [cl4, h1, bI]) (dk kX5_isColour_ok 8 rfl)
  · skip
    refine lv_iload_n hx hb (dk kX5_isColour_ok 2 rfl) rfl (lv_at hl 0 rfl) ?_
    refine lv_iconst (v := nI 4) hx hb (dk kX5_isColour_ok 3 rfl) rfl ?_
    refine lv_icmp_ge (tgt := 13) hx hb (dk kX5_isColour_ok 4 rfl) (by decide) (fun h2 => ?_) (fun h2 => ?_)
    · skip
      refine lv_iconst (v := nI 0) hx hb (dk kX5_isColour_ok 7 rfl) rfl ?_
      exact hret _ _ _ (by simp [cl4, h1, h2, bI]) (dk kX5_isColour_ok 8 rfl)
    · skip
      refine lv_iconst (v := nI 1) hx hb (dk kX5_isColour_ok 5 rfl) rfl ?_
      refine lv_goto (tgt := 14) hx hb (dk kX5_isColour_ok 6 rfl) (by decide) ?_
      exact hret _ _ _ (by simp [cl4, h1, h2, bI]) (dk kX5_isColour_ok 8 rfl)
set_option maxRecDepth 100000 in
set_option maxHeartbeats 4000000 in
theorem tX5_isOnMat (l : Launch) (x y : Int32) : MP l yX5_isOnMat (Cond.code yX5_isOnMat cX5_isOnMat 2 (some .boolean) :: AW) ({ frames := 0, cells := 0, slots := 0, locals := 0 } : Room) [.int x, .int y] (.int (bI (on x y))) := by
  refine mp_i (ty := .boolean) (by decide +kernel) rfl rfl rfl (bI_nar _) (Nat.le_of_ble_eq_true rfl) (fun p e s m below meth cd Q ls hx hb hml hown hts hret hl => ?_)
  have hown : s.vm.findClass RX5 = some m.cls := hown
  have hl : lv_has ls 2 [(0, .int x), (1, .int y)] := hl
  refine lv_iload_n hx hb (dk kX5_isOnMat_ok 0 rfl) rfl (lv_at hl 0 rfl) ?_
  refine lv_if_lt (tgt := 24) hx hb (dk kX5_isOnMat_ok 1 rfl) (by decide) (fun h1 => ?_) (fun h1 => ?_)
  · skip
    refine lv_iconst (v := nI 0) hx hb (dk kX5_isOnMat_ok 12 rfl) rfl ?_
    exact hret _ _ _ (by simp [on, h1, bI]) (dk kX5_isOnMat_ok 13 rfl)
  · skip
    refine lv_iload_n hx hb (dk kX5_isOnMat_ok 2 rfl) rfl (lv_at hl 0 rfl) ?_
    refine lv_bipush (v := nI 13) hx hb (dk kX5_isOnMat_ok 3 rfl) rfl ?_
    refine lv_icmp_ge (tgt := 24) hx hb (dk kX5_isOnMat_ok 4 rfl) (by decide) (fun h2 => ?_) (fun h2 => ?_)
    · skip
      refine lv_iconst (v := nI 0) hx hb (dk kX5_isOnMat_ok 12 rfl) rfl ?_
      exact hret _ _ _ (by simp [on, h1, h2, bI]) (dk kX5_isOnMat_ok 13 rfl)
    · skip
      refine lv_iload_n hx hb (dk kX5_isOnMat_ok 5 rfl) rfl (lv_at hl 1 rfl) ?_
      refine lv_if_lt (tgt := 24) hx hb (dk kX5_isOnMat_ok 6 rfl) (by decide) (fun h3 => ?_) (fun h3 => ?_)
      · skip
        refine lv_iconst (v := nI 0) hx hb (dk kX5_isOnMat_ok 12 rfl) rfl ?_
        exact hret _ _ _ (by simp [on, h1, h2, h3, bI]) (dk kX5_isOnMat_ok 13 rfl)
      · skip
        refine lv_iload_n hx hb (dk kX5_isOnMat_ok 7 rfl) rfl (lv_at hl 1 rfl) ?_
        refine lv_bipush (v := nI 13) hx hb (dk kX5_isOnMat_ok 8 rfl) rfl ?_
        refine lv_icmp_ge (tgt := 24) hx hb (dk kX5_isOnMat_ok 9 rfl) (by decide) (fun h4 => ?_) (fun h4 => ?_)
        · skip
          refine lv_iconst (v := nI 0) hx hb (dk kX5_isOnMat_ok 12 rfl) rfl ?_
          exact hret _ _ _ (by simp [on, h1, h2, h3, h4, bI]) (dk kX5_isOnMat_ok 13 rfl)
        · skip
          refine lv_iconst (v := nI 1) hx hb (dk kX5_isOnMat_ok 10 rfl) rfl ?_
          refine lv_goto (tgt := 25) hx hb (dk kX5_isOnMat_ok 11 rfl) (by decide) ?_
          exact hret _ _ _ (by simp [on, h1, h2, h3, h4, bI]) (dk kX5_isOnMat_ok 13 rfl)
set_option maxRecDepth 100000 in
set_option maxHeartbeats 4000000 in
theorem tX5_cellAt (l : Launch) (x y : Int32) : MP l yX5_cellAt (Cond.code yX5_cellAt cX5_cellAt 2 (some .int) :: AW) ({ frames := 0, cells := 0, slots := 0, locals := 0 } : Room) [.int x, .int y] (.int (cat x y)) := by
  refine mp_i (ty := .int) (by decide +kernel) rfl rfl rfl rfl (Nat.le_of_ble_eq_true rfl) (fun p e s m below meth cd Q ls hx hb hml hown hts hret hl => ?_)
  have hown : s.vm.findClass RX5 = some m.cls := hown
  have hl : lv_has ls 2 [(0, .int x), (1, .int y)] := hl
  refine lv_bipush (v := nI 13) hx hb (dk kX5_cellAt_ok 0 rfl) rfl ?_
  refine lv_iload_n hx hb (dk kX5_cellAt_ok 1 rfl) rfl (lv_at hl 1 rfl) ?_
  refine lv_imul hx hb (dk kX5_cellAt_ok 2 rfl) ?_
  refine lv_iload_n hx hb (dk kX5_cellAt_ok 3 rfl) rfl (lv_at hl 0 rfl) ?_
  refine lv_iadd hx hb (dk kX5_cellAt_ok 4 rfl) ?_
  exact hret _ _ _ (by rfl) (dk kX5_cellAt_ok 5 rfl)
set_option maxRecDepth 100000 in
set_option maxHeartbeats 4000000 in
theorem tX5_eastOf (l : Launch) (d : Int32) : MP l yX5_eastOf (Cond.code yX5_eastOf cX5_eastOf 1 (some .int) :: AW) ({ frames := 0, cells := 0, slots := 0, locals := 0 } : Room) [.int d] (.int (ea d)) := by
  refine mp_i (ty := .int) (by decide +kernel) rfl rfl rfl rfl (Nat.le_of_ble_eq_true rfl) (fun p e s m below meth cd Q ls hx hb hml hown hts hret hl => ?_)
  have hown : s.vm.findClass RX5 = some m.cls := hown
  have hl : lv_has ls 1 [(0, .int d)] := hl
  refine lv_iload_n hx hb (dk kX5_eastOf_ok 0 rfl) rfl (lv_at hl 0 rfl) ?_
  refine lv_iconst (v := nI 1) hx hb (dk kX5_eastOf_ok 1 rfl) rfl ?_
  refine lv_icmp_lt (tgt := 14) hx hb (dk kX5_eastOf_ok 2 rfl) (by decide) (fun h1 => ?_) (fun h1 => ?_)
  · skip
    refine lv_iload_n hx hb (dk kX5_eastOf_ok 8 rfl) rfl (lv_at hl 0 rfl) ?_
    refine lv_iconst (v := nI 5) hx hb (dk kX5_eastOf_ok 9 rfl) rfl ?_
    refine lv_icmp_lt (tgt := 23) hx hb (dk kX5_eastOf_ok 10 rfl) (by decide) (fun h2 => ?_) (fun h2 => ?_)
    · skip
      refine lv_iconst (v := nI 0) hx hb (dk kX5_eastOf_ok 13 rfl) rfl ?_
      exact hret _ _ _ (by simp [ea, h1, h2]) (dk kX5_eastOf_ok 14 rfl)
    · skip
      refine lv_iconst (v := -1) hx hb (dk kX5_eastOf_ok 11 rfl) rfl ?_
      refine lv_goto (tgt := 24) hx hb (dk kX5_eastOf_ok 12 rfl) (by decide) ?_
      exact hret _ _ _ (by simp [ea, h1, h2]) (dk kX5_eastOf_ok 14 rfl)
  · skip
    refine lv_iload_n hx hb (dk kX5_eastOf_ok 3 rfl) rfl (lv_at hl 0 rfl) ?_
    refine lv_iconst (v := nI 3) hx hb (dk kX5_eastOf_ok 4 rfl) rfl ?_
    refine lv_icmp_gt (tgt := 14) hx hb (dk kX5_eastOf_ok 5 rfl) (by decide) (fun h3 => ?_) (fun h3 => ?_)
    · skip
      refine lv_iload_n hx hb (dk kX5_eastOf_ok 8 rfl) rfl (lv_at hl 0 rfl) ?_
      refine lv_iconst (v := nI 5) hx hb (dk kX5_eastOf_ok 9 rfl) rfl ?_
      refine lv_icmp_lt (tgt := 23) hx hb (dk kX5_eastOf_ok 10 rfl) (by decide) (fun h4 => ?_) (fun h4 => ?_)
      · skip
        refine lv_iconst (v := nI 0) hx hb (dk kX5_eastOf_ok 13 rfl) rfl ?_
        exact hret _ _ _ (by simp [ea, h1, h3, h4]) (dk kX5_eastOf_ok 14 rfl)
      · skip
        refine lv_iconst (v := -1) hx hb (dk kX5_eastOf_ok 11 rfl) rfl ?_
        refine lv_goto (tgt := 24) hx hb (dk kX5_eastOf_ok 12 rfl) (by decide) ?_
        exact hret _ _ _ (by simp [ea, h1, h3, h4]) (dk kX5_eastOf_ok 14 rfl)
    · skip
      refine lv_iconst (v := nI 1) hx hb (dk kX5_eastOf_ok 6 rfl) rfl ?_
      refine lv_goto (tgt := 24) hx hb (dk kX5_eastOf_ok 7 rfl) (by decide) ?_
      exact hret _ _ _ (by simp [ea, h1, h3]) (dk kX5_eastOf_ok 14 rfl)
set_option maxRecDepth 100000 in
set_option maxHeartbeats 4000000 in
theorem tX5_southOf (l : Launch) (d : Int32) : MP l yX5_southOf (Cond.code yX5_southOf cX5_southOf 1 (some .int) :: AW) ({ frames := 0, cells := 0, slots := 0, locals := 0 } : Room) [.int d] (.int (so d)) := by
  refine mp_i (ty := .int) (by decide +kernel) rfl rfl rfl rfl (Nat.le_of_ble_eq_true rfl) (fun p e s m below meth cd Q ls hx hb hml hown hts hret hl => ?_)
  have hown : s.vm.findClass RX5 = some m.cls := hown
  have hl : lv_has ls 1 [(0, .int d)] := hl
  refine lv_iload_n hx hb (dk kX5_southOf_ok 0 rfl) rfl (lv_at hl 0 rfl) ?_
  refine lv_iconst (v := nI 3) hx hb (dk kX5_southOf_ok 1 rfl) rfl ?_
  refine lv_icmp_lt (tgt := 14) hx hb (dk kX5_southOf_ok 2 rfl) (by decide) (fun h1 => ?_) (fun h1 => ?_)
  · skip
    refine lv_iload_n hx hb (dk kX5_southOf_ok 8 rfl) rfl (lv_at hl 0 rfl) ?_
    refine lv_iconst (v := nI 2) hx hb (dk kX5_southOf_ok 9 rfl) rfl ?_
    refine lv_icmp_eq (tgt := 25) hx hb (dk kX5_southOf_ok 10 rfl) (by decide) (fun h2 => ?_) (fun h2 => ?_)
    · skip
      refine lv_iconst (v := nI 0) hx hb (dk kX5_southOf_ok 14 rfl) rfl ?_
      refine lv_goto (tgt := 30) hx hb (dk kX5_southOf_ok 15 rfl) (by decide) ?_
      exact hret _ _ _ (by unfold so; (repeat' split) <;> first | rfl | (exfalso; simp_all; done) | (exfalso; revert h1 h2; subst_vars; decide) | (exfalso; subst_vars; simp_all (decide := true))) (dk kX5_southOf_ok 17 rfl)
    · skip
      refine lv_iload_n hx hb (dk kX5_southOf_ok 11 rfl) rfl (lv_at hl 0 rfl) ?_
      refine lv_bipush (v := nI 6) hx hb (dk kX5_southOf_ok 12 rfl) rfl ?_
      refine lv_icmp_ne (tgt := 29) hx hb (dk kX5_southOf_ok 13 rfl) (by decide) (fun h3 => ?_) (fun h3 => ?_)
      · skip
        refine lv_iconst (v := -1) hx hb (dk kX5_southOf_ok 16 rfl) rfl ?_
        exact hret _ _ _ (by unfold so; (repeat' split) <;> first | rfl | (exfalso; simp_all; done) | (exfalso; revert h1 h2 h3; subst_vars; decide) | (exfalso; subst_vars; simp_all (decide := true))) (dk kX5_southOf_ok 17 rfl)
      · skip
        refine lv_iconst (v := nI 0) hx hb (dk kX5_southOf_ok 14 rfl) rfl ?_
        refine lv_goto (tgt := 30) hx hb (dk kX5_southOf_ok 15 rfl) (by decide) ?_
        exact hret _ _ _ (by unfold so; (repeat' split) <;> first | rfl | (exfalso; simp_all; done) | (exfalso; revert h1 h2 h3; subst_vars; decide) | (exfalso; subst_vars; simp_all (decide := true))) (dk kX5_southOf_ok 17 rfl)
  · skip
    refine lv_iload_n hx hb (dk kX5_southOf_ok 3 rfl) rfl (lv_at hl 0 rfl) ?_
    refine lv_iconst (v := nI 5) hx hb (dk kX5_southOf_ok 4 rfl) rfl ?_
    refine lv_icmp_gt (tgt := 14) hx hb (dk kX5_southOf_ok 5 rfl) (by decide) (fun h4 => ?_) (fun h4 => ?_)
    · skip
      refine lv_iload_n hx hb (dk kX5_southOf_ok 8 rfl) rfl (lv_at hl 0 rfl) ?_
      refine lv_iconst (v := nI 2) hx hb (dk kX5_southOf_ok 9 rfl) rfl ?_
      refine lv_icmp_eq (tgt := 25) hx hb (dk kX5_southOf_ok 10 rfl) (by decide) (fun h5 => ?_) (fun h5 => ?_)
      · skip
        refine lv_iconst (v := nI 0) hx hb (dk kX5_southOf_ok 14 rfl) rfl ?_
        refine lv_goto (tgt := 30) hx hb (dk kX5_southOf_ok 15 rfl) (by decide) ?_
        exact hret _ _ _ (by unfold so; (repeat' split) <;> first | rfl | (exfalso; simp_all; done) | (exfalso; revert h1 h4 h5; subst_vars; decide) | (exfalso; subst_vars; simp_all (decide := true))) (dk kX5_southOf_ok 17 rfl)
      · skip
        refine lv_iload_n hx hb (dk kX5_southOf_ok 11 rfl) rfl (lv_at hl 0 rfl) ?_
        refine lv_bipush (v := nI 6) hx hb (dk kX5_southOf_ok 12 rfl) rfl ?_
        refine lv_icmp_ne (tgt := 29) hx hb (dk kX5_southOf_ok 13 rfl) (by decide) (fun h6 => ?_) (fun h6 => ?_)
        · skip
          refine lv_iconst (v := -1) hx hb (dk kX5_southOf_ok 16 rfl) rfl ?_
          exact hret _ _ _ (by unfold so; (repeat' split) <;> first | rfl | (exfalso; simp_all; done) | (exfalso; revert h1 h4 h5 h6; subst_vars; decide) | (exfalso; subst_vars; simp_all (decide := true))) (dk kX5_southOf_ok 17 rfl)
        · skip
          refine lv_iconst (v := nI 0) hx hb (dk kX5_southOf_ok 14 rfl) rfl ?_
          refine lv_goto (tgt := 30) hx hb (dk kX5_southOf_ok 15 rfl) (by decide) ?_
          exact hret _ _ _ (by unfold so; (repeat' split) <;> first | rfl | (exfalso; simp_all; done) | (exfalso; revert h1 h4 h5 h6; subst_vars; decide) | (exfalso; subst_vars; simp_all (decide := true))) (dk kX5_southOf_ok 17 rfl)
    · skip
      refine lv_iconst (v := nI 1) hx hb (dk kX5_southOf_ok 6 rfl) rfl ?_
      refine lv_goto (tgt := 30) hx hb (dk kX5_southOf_ok 7 rfl) (by decide) ?_
      exact hret _ _ _ (by unfold so; (repeat' split) <;> first | rfl | (exfalso; simp_all; done) | (exfalso; revert h1 h4; subst_vars; decide) | (exfalso; subst_vars; simp_all (decide := true))) (dk kX5_southOf_ok 17 rfl)
set_option maxRecDepth 100000 in
set_option maxHeartbeats 4000000 in
theorem tX5_colourOf (l : Launch) (x : Int32) (w : Nat) (hxw : x = nI w) (hw : w < 2 ^ 31) : MP l yX5_colourOf (Cond.code yX5_colourOf cX5_colourOf 1 (some .int) :: AW) ({ frames := 0, cells := 0, slots := 0, locals := 0 } : Room) [.int x] (.int (nI (w / 4))) := by
  refine mp_i (ty := .int) (by decide +kernel) rfl rfl rfl rfl (Nat.le_of_ble_eq_true rfl) (fun p e s m below meth cd Q ls hx hb hml hown hts hret hl => ?_)
  have hown : s.vm.findClass RX5 = some m.cls := hown
  subst hxw
  have hl : lv_has ls 1 [(0, .int (nI w))] := hl
  refine lv_iload_n hx hb (dk kX5_colourOf_ok 0 rfl) rfl (lv_at hl 0 rfl) ?_
  refine lv_iconst (v := nI 4) hx hb (dk kX5_colourOf_ok 1 rfl) rfl ?_
  refine n_idiv hx hb (by omega) (by decide) (by decide) (dk kX5_colourOf_ok 2 rfl) ?_
  exact hret _ _ _ (by first | rfl | assumption | omega | (simp_all; done)) (dk kX5_colourOf_ok 3 rfl)
set_option maxRecDepth 100000 in
set_option maxHeartbeats 4000000 in
theorem tX5_teamOf (l : Launch) (x : Int32) (w : Nat) (hxw : x = nI w) (hw : w < 2 ^ 31) : MP l yX5_teamOf (Cond.code yX5_teamOf cX5_teamOf 1 (some .int) :: AW) ({ frames := 1, cells := 0, slots := 0, locals := 20 } : Room) [.int x] (.int (nI (w / 4 % 2))) := by
  refine mp_i (ty := .int) (by decide +kernel) rfl rfl rfl rfl (Nat.le_of_ble_eq_true rfl) (fun p e s m below meth cd Q ls hx hb hml hown hts hret hl => ?_)
  have hown : s.vm.findClass RX5 = some m.cls := hown
  subst hxw
  have hl : lv_has ls 1 [(0, .int (nI w))] := hl
  refine lv_iload_n hx hb (dk kX5_teamOf_ok 0 rfl) rfl (lv_at hl 0 rfl) ?_
  refine csP (As := [.int (nI w)]) (rest := []) ⟨hx, hb, hml, hown, hts⟩ (tX5_colourOf l (nI w) w rfl (by omega)) (cwS9 1 hts mcX5_colourOf (ac6 _ (List.mem_of_getElem? (i := 15) rfl)) msX5_colourOf mini_RX5 rfl rfl hdX5_colourOf ⟨Nat.le_of_ble_eq_true rfl, Nat.le_of_ble_eq_true rfl⟩) rfl hl.1 rfl (Nat.le_of_ble_eq_true rfl) (by decide) (dk kX5_teamOf_ok 1 rfl) ?_
  refine lv_iconst (v := nI 2) hx hb (dk kX5_teamOf_ok 2 rfl) rfl ?_
  refine n_irem hx hb (by omega) (by decide) (by decide) (dk kX5_teamOf_ok 3 rfl) ?_
  exact hret _ _ _ (by first | rfl | assumption | omega | (simp_all; done)) (dk kX5_teamOf_ok 4 rfl)
set_option maxRecDepth 100000 in
set_option maxHeartbeats 4000000 in
theorem tX5_isLarge (l : Launch) (x : Int32) (w : Nat) (hxw : x = nI w) (hw : w < 2 ^ 31) : MP l yX5_isLarge (Cond.code yX5_isLarge cX5_isLarge 1 (some .boolean) :: AW) ({ frames := 0, cells := 0, slots := 0, locals := 0 } : Room) [.int x] (.int (bI (decide (w % 4 < 2)))) := by
  refine mp_i (ty := .boolean) (by decide +kernel) rfl rfl rfl (bI_nar _) (Nat.le_of_ble_eq_true rfl) (fun p e s m below meth cd Q ls hx hb hml hown hts hret hl => ?_)
  have hown : s.vm.findClass RX5 = some m.cls := hown
  subst hxw
  have hl : lv_has ls 1 [(0, .int (nI w))] := hl
  refine lv_iload_n hx hb (dk kX5_isLarge_ok 0 rfl) rfl (lv_at hl 0 rfl) ?_
  refine lv_iconst (v := nI 4) hx hb (dk kX5_isLarge_ok 1 rfl) rfl ?_
  refine n_irem hx hb (by omega) (by decide) (by decide) (dk kX5_isLarge_ok 2 rfl) ?_
  refine lv_iconst (v := nI 2) hx hb (dk kX5_isLarge_ok 3 rfl) rfl ?_
  refine n_icmp_ge (tgt := 11) hx hb (by omega) (by decide) (dk kX5_isLarge_ok 4 rfl) (by decide) (fun h1 => ?_) (fun h1 => ?_)
  · skip
    refine lv_iconst (v := nI 0) hx hb (dk kX5_isLarge_ok 7 rfl) rfl ?_
    exact hret _ _ _ (by first | (rw [decide_eq_true (by omega)]; rfl) | (rw [decide_eq_false (by omega)]; rfl)) (dk kX5_isLarge_ok 8 rfl)
  · skip
    refine lv_iconst (v := nI 1) hx hb (dk kX5_isLarge_ok 5 rfl) rfl ?_
    refine lv_goto (tgt := 12) hx hb (dk kX5_isLarge_ok 6 rfl) (by decide) ?_
    exact hret _ _ _ (by first | (rw [decide_eq_true (by omega)]; rfl) | (rw [decide_eq_false (by omega)]; rfl)) (dk kX5_isLarge_ok 8 rfl)
set_option maxRecDepth 100000 in
set_option maxHeartbeats 4000000 in
theorem tX5_stepsOf (l : Launch) (x : Int32) (w : Nat) (hxw : x = nI w) (hw : w < 2 ^ 31) (y : Int32) (f : Nat) (hyf : y = nI f) (hf : f < 2 ^ 30) : MP l yX5_stepsOf (Cond.code yX5_stepsOf cX5_stepsOf 2 (some .int) :: AW) ({ frames := 1, cells := 0, slots := 0, locals := 20 } : Room) [.int x, .int y] (.int (nI (stp w f))) := by
  refine mp_i (ty := .int) (by decide +kernel) rfl rfl rfl rfl (Nat.le_of_ble_eq_true rfl) (fun p e s m below meth cd Q ls hx hb hml hown hts hret hl => ?_)
  have hown : s.vm.findClass RX5 = some m.cls := hown
  subst hxw
  subst hyf
  have hl : lv_has ls 2 [(0, .int (nI w)), (1, .int (nI f))] := hl
  refine lv_iload_n hx hb (dk kX5_stepsOf_ok 0 rfl) rfl (lv_at hl 0 rfl) ?_
  refine csP (As := [.int (nI w)]) (rest := []) ⟨hx, hb, hml, hown, hts⟩ (tX5_isLarge l (nI w) w rfl (by omega)) (cwS9 1 hts mcX5_isLarge (ac6 _ (List.mem_of_getElem? (i := 12) rfl)) msX5_isLarge mini_RX5 rfl rfl hdX5_isLarge ⟨Nat.le_of_ble_eq_true rfl, Nat.le_of_ble_eq_true rfl⟩) rfl hl.1 rfl (Nat.le_of_ble_eq_true rfl) (by decide) (dk kX5_stepsOf_ok 1 rfl) ?_
  refine b_if_eq (tgt := 11) hx hb (dk kX5_stepsOf_ok 2 rfl) (by decide) (fun h1 => ?_) (fun h1 => ?_)
  · replace h1 := of_decide_eq_false h1
    refine lv_iload_n hx hb (dk kX5_stepsOf_ok 5 rfl) rfl (lv_at hl 1 rfl) ?_
    refine lv_iconst (v := nI 1) hx hb (dk kX5_stepsOf_ok 6 rfl) rfl ?_
    refine n_iadd hx hb (dk kX5_stepsOf_ok 7 rfl) ?_
    exact hret _ _ _ (by unfold stp; split <;> first | rfl | (exfalso; omega)) (dk kX5_stepsOf_ok 8 rfl)
  · replace h1 := of_decide_eq_true h1
    refine lv_iload_n hx hb (dk kX5_stepsOf_ok 3 rfl) rfl (lv_at hl 1 rfl) ?_
    refine lv_goto (tgt := 14) hx hb (dk kX5_stepsOf_ok 4 rfl) (by decide) ?_
    exact hret _ _ _ (by unfold stp; split <;> first | rfl | (exfalso; omega)) (dk kX5_stepsOf_ok 8 rfl)
set_option maxRecDepth 100000 in
set_option maxHeartbeats 4000000 in
theorem tX5_baseOf (l : Launch) (x : Int32) (w : Nat) (hxw : x = nI w) (hw : w < 4) : MP l yX5_baseOf (Cond.code yX5_baseOf cX5_baseOf 1 (some .int) :: AW) ({ frames := 1, cells := 0, slots := 0, locals := 21 } : Room) [.int x] (.int (nI (bs w))) := by
  refine mp_i (ty := .int) (by decide +kernel) rfl rfl rfl rfl (Nat.le_of_ble_eq_true rfl) (fun p e s m below meth cd Q ls hx hb hml hown hts hret hl => ?_)
  have hown : s.vm.findClass RX5 = some m.cls := hown
  subst hxw
  have hl : lv_has ls 1 [(0, .int (nI w))] := hl
  refine lv_iload_n hx hb (dk kX5_baseOf_ok 0 rfl) rfl (lv_at hl 0 rfl) ?_
  rcases Classical.em (nI w = nI 0) with hs1 | hs1
  · skip
    refine sw_in (off := 27) (tgt := 28) 0 hx hb (dk kX5_baseOf_ok 1 rfl) hs1 rfl rfl rfl (by decide) ?_
    refine lv_iconst (v := nI 0) hx hb (dk kX5_baseOf_ok 2 rfl) rfl ?_
    refine lv_iconst (v := nI 0) hx hb (dk kX5_baseOf_ok 3 rfl) rfl ?_
    refine csP (As := [.int (nI 0), .int (nI 0)]) (rest := []) ⟨hx, hb, hml, hown, hts⟩ (tX5_cellAt l (nI 0) (nI 0)) (cwS9 2 hts mcX5_cellAt (ac0 _ (List.mem_of_getElem? (i := 6) rfl)) msX5_cellAt mini_RX5 rfl rfl hdX5_cellAt ⟨Nat.le_of_ble_eq_true rfl, Nat.le_of_ble_eq_true rfl⟩) rfl hl.1 rfl (Nat.le_of_ble_eq_true rfl) (by decide) (dk kX5_baseOf_ok 4 rfl) ?_
    exact hret _ _ _ (by rcases (show w = 0 ∨ w = 1 ∨ w = 2 ∨ w = 3 by omega) with rfl | rfl | rfl | rfl <;> first | rfl | (exfalso; revert hs1; decide)) (dk kX5_baseOf_ok 5 rfl)
  rcases Classical.em (nI w = nI 1) with hs2 | hs2
  · skip
    refine sw_in (off := 33) (tgt := 34) 1 hx hb (dk kX5_baseOf_ok 1 rfl) hs2 rfl rfl rfl (by decide) ?_
    refine lv_bipush (v := nI 12) hx hb (dk kX5_baseOf_ok 6 rfl) rfl ?_
    refine lv_iconst (v := nI 0) hx hb (dk kX5_baseOf_ok 7 rfl) rfl ?_
    refine csP (As := [.int (nI 12), .int (nI 0)]) (rest := []) ⟨hx, hb, hml, hown, hts⟩ (tX5_cellAt l (nI 12) (nI 0)) (cwS9 2 hts mcX5_cellAt (ac0 _ (List.mem_of_getElem? (i := 6) rfl)) msX5_cellAt mini_RX5 rfl rfl hdX5_cellAt ⟨Nat.le_of_ble_eq_true rfl, Nat.le_of_ble_eq_true rfl⟩) rfl hl.1 rfl (Nat.le_of_ble_eq_true rfl) (by decide) (dk kX5_baseOf_ok 8 rfl) ?_
    exact hret _ _ _ (by rcases (show w = 0 ∨ w = 1 ∨ w = 2 ∨ w = 3 by omega) with rfl | rfl | rfl | rfl <;> first | rfl | (exfalso; revert hs1 hs2; decide)) (dk kX5_baseOf_ok 9 rfl)
  rcases Classical.em (nI w = nI 2) with hs3 | hs3
  · skip
    refine sw_in (off := 40) (tgt := 41) 2 hx hb (dk kX5_baseOf_ok 1 rfl) hs3 rfl rfl rfl (by decide) ?_
    refine lv_bipush (v := nI 12) hx hb (dk kX5_baseOf_ok 10 rfl) rfl ?_
    refine lv_bipush (v := nI 12) hx hb (dk kX5_baseOf_ok 11 rfl) rfl ?_
    refine csP (As := [.int (nI 12), .int (nI 12)]) (rest := []) ⟨hx, hb, hml, hown, hts⟩ (tX5_cellAt l (nI 12) (nI 12)) (cwS9 2 hts mcX5_cellAt (ac0 _ (List.mem_of_getElem? (i := 6) rfl)) msX5_cellAt mini_RX5 rfl rfl hdX5_cellAt ⟨Nat.le_of_ble_eq_true rfl, Nat.le_of_ble_eq_true rfl⟩) rfl hl.1 rfl (Nat.le_of_ble_eq_true rfl) (by decide) (dk kX5_baseOf_ok 12 rfl) ?_
    exact hret _ _ _ (by rcases (show w = 0 ∨ w = 1 ∨ w = 2 ∨ w = 3 by omega) with rfl | rfl | rfl | rfl <;> first | rfl | (exfalso; revert hs1 hs2 hs3; decide)) (dk kX5_baseOf_ok 13 rfl)
  refine lv_tableOut (tgt := 49) hx hb (dk kX5_baseOf_ok 1 rfl) (sw_out 3 (by intro k9 hk9; rcases k9 with _ | _ | _ | _ <;> first | assumption | omega)) (by decide) ?_
  refine lv_iconst (v := nI 0) hx hb (dk kX5_baseOf_ok 14 rfl) rfl ?_
  refine lv_bipush (v := nI 12) hx hb (dk kX5_baseOf_ok 15 rfl) rfl ?_
  refine csP (As := [.int (nI 0), .int (nI 12)]) (rest := []) ⟨hx, hb, hml, hown, hts⟩ (tX5_cellAt l (nI 0) (nI 12)) (cwS9 2 hts mcX5_cellAt (ac0 _ (List.mem_of_getElem? (i := 6) rfl)) msX5_cellAt mini_RX5 rfl rfl hdX5_cellAt ⟨Nat.le_of_ble_eq_true rfl, Nat.le_of_ble_eq_true rfl⟩) rfl hl.1 rfl (Nat.le_of_ble_eq_true rfl) (by decide) (dk kX5_baseOf_ok 16 rfl) ?_
  exact hret _ _ _ (by rcases (show w = 0 ∨ w = 1 ∨ w = 2 ∨ w = 3 by omega) with rfl | rfl | rfl | rfl <;> first | rfl | (exfalso; revert hs1 hs2 hs3; decide)) (dk kX5_baseOf_ok 17 rfl)
set_option maxRecDepth 100000 in
set_option maxHeartbeats 4000000 in
theorem tX5_cellBeside (l : Launch) (x y d : Int32) : MP l yX5_cellBeside (Cond.code yX5_cellBeside cX5_cellBeside 5 (some .int) :: AW) ({ frames := 1, cells := 0, slots := 0, locals := 21 } : Room) [.int x, .int y, .int d] (.int (beside x y d)) := by
  refine mp_i (ty := .int) (by decide +kernel) rfl rfl rfl rfl (Nat.le_of_ble_eq_true rfl) (fun p e s m below meth cd Q ls hx hb hml hown hts hret hl => ?_)
  have hown : s.vm.findClass RX5 = some m.cls := hown
  have hl : lv_has ls 5 [(0, .int x), (1, .int y), (2, .int d)] := hl
  refine lv_iload_n hx hb (dk kX5_cellBeside_ok 0 rfl) rfl (lv_at hl 0 rfl) ?_
  refine lv_iload_n hx hb (dk kX5_cellBeside_ok 1 rfl) rfl (lv_at hl 2 rfl) ?_
  refine csP (As := [.int d]) (rest := [.int x]) ⟨hx, hb, hml, hown, hts⟩ (tX5_eastOf l d) (cwS9 1 hts mcX5_eastOf (ac5 _ (List.mem_of_getElem? (i := 3) rfl)) msX5_eastOf mini_RX5 rfl rfl hdX5_eastOf ⟨Nat.le_of_ble_eq_true rfl, Nat.le_of_ble_eq_true rfl⟩) rfl hl.1 rfl (Nat.le_of_ble_eq_true rfl) (by decide) (dk kX5_cellBeside_ok 2 rfl) ?_
  refine lv_iadd hx hb (dk kX5_cellBeside_ok 3 rfl) ?_
  refine lv_istore_n (lv' := [(3, .int (x + (ea d))), (0, .int x), (1, .int y), (2, .int d)]) hx hb (dk kX5_cellBeside_ok 4 rfl) rfl hl (by decide) rfl (fun ls hl => ?_)
  refine lv_iload_n hx hb (dk kX5_cellBeside_ok 5 rfl) rfl (lv_at hl 2 rfl) ?_
  refine lv_iload_n hx hb (dk kX5_cellBeside_ok 6 rfl) rfl (lv_at hl 3 rfl) ?_
  refine csP (As := [.int d]) (rest := [.int y]) ⟨hx, hb, hml, hown, hts⟩ (tX5_southOf l d) (cwS9 1 hts mcX5_southOf (ac5 _ (List.mem_of_getElem? (i := 6) rfl)) msX5_southOf mini_RX5 rfl rfl hdX5_southOf ⟨Nat.le_of_ble_eq_true rfl, Nat.le_of_ble_eq_true rfl⟩) rfl hl.1 rfl (Nat.le_of_ble_eq_true rfl) (by decide) (dk kX5_cellBeside_ok 7 rfl) ?_
  refine lv_iadd hx hb (dk kX5_cellBeside_ok 8 rfl) ?_
  refine lv_istore (lv' := [(4, .int (y + (so d))), (3, .int (x + (ea d))), (0, .int x), (1, .int y), (2, .int d)]) hx hb (dk kX5_cellBeside_ok 9 rfl) hl (by decide) rfl (fun ls hl => ?_)
  refine lv_iload_n hx hb (dk kX5_cellBeside_ok 10 rfl) rfl (lv_at hl 1 rfl) ?_
  refine lv_iload hx hb (dk kX5_cellBeside_ok 11 rfl) (lv_at hl 0 rfl) ?_
  refine csP (As := [.int (x + (ea d)), .int (y + (so d))]) (rest := []) ⟨hx, hb, hml, hown, hts⟩ (tX5_isOnMat l (x + (ea d)) (y + (so d))) (cwS9 2 hts mcX5_isOnMat (ac5 _ (List.mem_of_getElem? (i := 9) rfl)) msX5_isOnMat mini_RX5 rfl rfl hdX5_isOnMat ⟨Nat.le_of_ble_eq_true rfl, Nat.le_of_ble_eq_true rfl⟩) rfl hl.1 rfl (Nat.le_of_ble_eq_true rfl) (by decide) (dk kX5_cellBeside_ok 12 rfl) ?_
  refine b_if_eq (tgt := 33) hx hb (dk kX5_cellBeside_ok 13 rfl) (by decide) (fun h1 => ?_) (fun h1 => ?_)
  · skip
    refine lv_iconst (v := -1) hx hb (dk kX5_cellBeside_ok 18 rfl) rfl ?_
    exact hret _ _ _ (by simp [beside, h1]) (dk kX5_cellBeside_ok 19 rfl)
  · skip
    refine lv_iload_n hx hb (dk kX5_cellBeside_ok 14 rfl) rfl (lv_at hl 1 rfl) ?_
    refine lv_iload hx hb (dk kX5_cellBeside_ok 15 rfl) (lv_at hl 0 rfl) ?_
    refine csP (As := [.int (x + (ea d)), .int (y + (so d))]) (rest := []) ⟨hx, hb, hml, hown, hts⟩ (tX5_cellAt l (x + (ea d)) (y + (so d))) (cwS9 2 hts mcX5_cellAt (ac0 _ (List.mem_of_getElem? (i := 6) rfl)) msX5_cellAt mini_RX5 rfl rfl hdX5_cellAt ⟨Nat.le_of_ble_eq_true rfl, Nat.le_of_ble_eq_true rfl⟩) rfl hl.1 rfl (Nat.le_of_ble_eq_true rfl) (by decide) (dk kX5_cellBeside_ok 16 rfl) ?_
    refine lv_goto (tgt := 34) hx hb (dk kX5_cellBeside_ok 17 rfl) (by decide) ?_
    exact hret _ _ _ (by simp [beside, h1]) (dk kX5_cellBeside_ok 19 rfl)
set_option maxRecDepth 100000 in
set_option maxHeartbeats 4000000 in
theorem tX5_landing (l : Launch) (q d z : Int32) (f : Nat) (hzf : z = nI f) (hf : f < 2 ^ 31) : MP l yX5_landing (Cond.code yX5_landing cX5_landing 9 (some .int) :: AW) ({ frames := 1, cells := 0, slots := 0, locals := 21 } : Room) [.int q, .int d, .int z] (.int (ldg q d f)) := by
  refine mp_i (ty := .int) (by decide +kernel) rfl rfl rfl rfl (Nat.le_of_ble_eq_true rfl) (fun p e s m below meth cd Q ls hx hb hml hown hts hret hl => ?_)
  have hown : s.vm.findClass RX5 = some m.cls := hown
  subst hzf
  have hl : lv_has ls 9 [(0, .int q), (1, .int d), (2, .int (nI f))] := hl
  refine lv_iload_n hx hb (dk kX5_landing_0_ok 0 rfl) rfl (lv_at hl 0 rfl) ?_
  refine lv_bipush (v := nI 13) hx hb (dk kX5_landing_0_ok 1 rfl) rfl ?_
  refine lv_irem hx hb (dk kX5_landing_0_ok 2 rfl) (by decide) ?_
  refine lv_istore_n (lv' := [(3, .int (q - q / (nI 13) * (nI 13))), (0, .int q), (1, .int d), (2, .int (nI f))]) hx hb (dk kX5_landing_0_ok 3 rfl) rfl hl (by decide) rfl (fun ls hl => ?_)
  refine lv_iload_n hx hb (dk kX5_landing_0_ok 4 rfl) rfl (lv_at hl 1 rfl) ?_
  refine lv_bipush (v := nI 13) hx hb (dk kX5_landing_0_ok 5 rfl) rfl ?_
  refine lv_idiv hx hb (dk kX5_landing_0_ok 6 rfl) (by decide) ?_
  refine lv_istore (lv' := [(4, .int (q / (nI 13))), (3, .int (q - q / (nI 13) * (nI 13))), (0, .int q), (1, .int d), (2, .int (nI f))]) hx hb (dk kX5_landing_0_ok 7 rfl) hl (by decide) rfl (fun ls hl => ?_)
  refine lv_iload_n hx hb (dk kX5_landing_0_ok 8 rfl) rfl (lv_at hl 3 rfl) ?_
  refine csP (As := [.int d]) (rest := []) ⟨hx, hb, hml, hown, hts⟩ (tX5_eastOf l d) (cwS9 1 hts mcX5_eastOf (ac5 _ (List.mem_of_getElem? (i := 3) rfl)) msX5_eastOf mini_RX5 rfl rfl hdX5_eastOf ⟨Nat.le_of_ble_eq_true rfl, Nat.le_of_ble_eq_true rfl⟩) rfl hl.1 rfl (Nat.le_of_ble_eq_true rfl) (by decide) (dk kX5_landing_0_ok 9 rfl) ?_
  refine lv_istore (lv' := [(5, .int (ea d)), (4, .int (q / (nI 13))), (3, .int (q - q / (nI 13) * (nI 13))), (0, .int q), (1, .int d), (2, .int (nI f))]) hx hb (dk kX5_landing_0_ok 10 rfl) hl (by decide) rfl (fun ls hl => ?_)
  refine lv_iload_n hx hb (dk kX5_landing_0_ok 11 rfl) rfl (lv_at hl 4 rfl) ?_
  refine csP (As := [.int d]) (rest := []) ⟨hx, hb, hml, hown, hts⟩ (tX5_southOf l d) (cwS9 1 hts mcX5_southOf (ac5 _ (List.mem_of_getElem? (i := 6) rfl)) msX5_southOf mini_RX5 rfl rfl hdX5_southOf ⟨Nat.le_of_ble_eq_true rfl, Nat.le_of_ble_eq_true rfl⟩) rfl hl.1 rfl (Nat.le_of_ble_eq_true rfl) (by decide) (dk kX5_landing_0_ok 12 rfl) ?_
  refine lv_istore (lv' := [(6, .int (so d)), (5, .int (ea d)), (4, .int (q / (nI 13))), (3, .int (q - q / (nI 13) * (nI 13))), (0, .int q), (1, .int d), (2, .int (nI f))]) hx hb (dk kX5_landing_0_ok 13 rfl) hl (by decide) rfl (fun ls hl => ?_)
  refine lv_iconst (v := nI 0) hx hb (dk kX5_landing_0_ok 14 rfl) rfl ?_
  refine lv_istore (lv' := [(7, .int (nI 0)), (6, .int (so d)), (5, .int (ea d)), (4, .int (q / (nI 13))), (3, .int (q - q / (nI 13) * (nI 13))), (0, .int q), (1, .int d), (2, .int (nI f))]) hx hb (dk kX5_landing_0_ok 15 rfl) hl (by decide) rfl (fun ls hl => ?_)
  refine lv_iconst (v := nI 0) hx hb (dk kX5_landing_0_ok 16 rfl) rfl ?_
  refine lv_istore (lv' := [(8, .int (nI 0)), (7, .int (nI 0)), (6, .int (so d)), (5, .int (ea d)), (4, .int (q / (nI 13))), (3, .int (q - q / (nI 13) * (nI 13))), (0, .int q), (1, .int d), (2, .int (nI f))]) hx hb (dk kX5_landing_0_ok 17 rfl) hl (by decide) rfl (fun ls hl => ?_)
  have L29 : ∀ (fu : Nat) (i : Nat) (x y u v : Int32) (b : Bool) (x7 : Int32), x7 = bI b → i ≤ f → ldg q d f = ldL (f - i) x y u v b → f - i < fu → ∀ ls : Array Slot, lv_has ls 9 [(0, .int q), (1, .int d), (2, .int (nI f)), (3, .int x), (4, .int y), (5, .int u), (6, .int v), (7, .int x7), (8, .int (nI i))] → W p l e ({ frames := 1, cells := 0, slots := 0, locals := 21 } : Room) s m ([.int q, .int d, .int (nI f)] : List Value).toArray below meth cd s.heap [] 0 0 Q (F0 m 29 ls []) := by
    intro fu
    induction fu with
    | zero => intros; omega
    | succ fu ih29 =>
      intro i x y u v b x7 ex7 hi hr hme29 ls hl
      subst ex7
      refine lv_iload hx hb (dk kX5_landing_0_ok 18 rfl) (lv_at hl 8 rfl) ?_
      refine lv_iload_n hx hb (dk kX5_landing_0_ok 19 rfl) rfl (lv_at hl 2 rfl) ?_
      refine n_icmp_ge (tgt := 103) hx hb (by omega) (by omega) (dk kX5_landing_0_ok 20 rfl) (by decide) (fun h1 => ?_) (fun h1 => ?_)
      · skip
        refine lv_iload_n hx hb (dk kX5_landing_0_ok 59 rfl) rfl (lv_at hl 3 rfl) ?_
        refine lv_iload hx hb (dk kX5_landing_1_ok 0 rfl) (lv_at hl 4 rfl) ?_
        refine csP (As := [.int x, .int y]) (rest := []) ⟨hx, hb, hml, hown, hts⟩ (tX5_cellAt l x y) (cwS9 2 hts mcX5_cellAt (ac0 _ (List.mem_of_getElem? (i := 6) rfl)) msX5_cellAt mini_RX5 rfl rfl hdX5_cellAt ⟨Nat.le_of_ble_eq_true rfl, Nat.le_of_ble_eq_true rfl⟩) rfl hl.1 rfl (Nat.le_of_ble_eq_true rfl) (by decide) (dk kX5_landing_1_ok 1 rfl) ?_
        exact hret _ _ _ (by first | (rw [hr, show f - i = (f - (i + 1)) + 1 by omega]; simp [ldL, h1]; done) | (rw [hr, show f - i = 0 by omega]; rfl)) (dk kX5_landing_1_ok 2 rfl)
      · skip
        refine lv_iload_n hx hb (dk kX5_landing_0_ok 21 rfl) rfl (lv_at hl 3 rfl) ?_
        refine lv_iload hx hb (dk kX5_landing_0_ok 22 rfl) (lv_at hl 5 rfl) ?_
        refine lv_iadd hx hb (dk kX5_landing_0_ok 23 rfl) ?_
        refine lv_iload hx hb (dk kX5_landing_0_ok 24 rfl) (lv_at hl 4 rfl) ?_
        refine lv_iload hx hb (dk kX5_landing_0_ok 25 rfl) (lv_at hl 6 rfl) ?_
        refine lv_iadd hx hb (dk kX5_landing_0_ok 26 rfl) ?_
        refine csP (As := [.int (x + u), .int (y + v)]) (rest := []) ⟨hx, hb, hml, hown, hts⟩ (tX5_isOnMat l (x + u) (y + v)) (cwS9 2 hts mcX5_isOnMat (ac5 _ (List.mem_of_getElem? (i := 9) rfl)) msX5_isOnMat mini_RX5 rfl rfl hdX5_isOnMat ⟨Nat.le_of_ble_eq_true rfl, Nat.le_of_ble_eq_true rfl⟩) rfl hl.1 rfl (Nat.le_of_ble_eq_true rfl) (by decide) (dk kX5_landing_0_ok 27 rfl) ?_
        refine b_if_ne (tgt := 85) hx hb (dk kX5_landing_0_ok 28 rfl) (by decide) (fun h2 => ?_) (fun h2 => ?_)
        · skip
          refine lv_iload_n hx hb (dk kX5_landing_0_ok 49 rfl) rfl (lv_at hl 3 rfl) ?_
          refine lv_iload hx hb (dk kX5_landing_0_ok 50 rfl) (lv_at hl 5 rfl) ?_
          refine lv_iadd hx hb (dk kX5_landing_0_ok 51 rfl) ?_
          refine lv_istore_n (lv' := [(3, .int (x + u)), (0, .int q), (1, .int d), (2, .int (nI f)), (4, .int y), (5, .int u), (6, .int v), (7, .int (bI b)), (8, .int (nI i))]) hx hb (dk kX5_landing_0_ok 52 rfl) rfl hl (by decide) rfl (fun ls hl => ?_)
          refine lv_iload hx hb (dk kX5_landing_0_ok 53 rfl) (lv_at hl 4 rfl) ?_
          refine lv_iload hx hb (dk kX5_landing_0_ok 54 rfl) (lv_at hl 6 rfl) ?_
          refine lv_iadd hx hb (dk kX5_landing_0_ok 55 rfl) ?_
          refine lv_istore (lv' := [(4, .int (y + v)), (3, .int (x + u)), (0, .int q), (1, .int d), (2, .int (nI f)), (5, .int u), (6, .int v), (7, .int (bI b)), (8, .int (nI i))]) hx hb (dk kX5_landing_0_ok 56 rfl) hl (by decide) rfl (fun ls hl => ?_)
          refine lv_iinc (v := nI (i + 1)) (lv' := [(8, .int (nI (i + 1))), (4, .int (y + v)), (3, .int (x + u)), (0, .int q), (1, .int d), (2, .int (nI f)), (5, .int u), (6, .int v), (7, .int (bI b))]) hx hb (dk kX5_landing_0_ok 57 rfl) hl (k := 8) rfl (n_inc _) (by decide) rfl (fun ls hl => ?_)
          refine lv_goto (tgt := 29) hx hb (dk kX5_landing_0_ok 58 rfl) (by decide) ?_
          exact ih29 (i + 1) (x + u) (y + v) u v b _ (by rfl) (by omega) (by rw [hr, show f - i = (f - (i + 1)) + 1 by omega]; simp [ldL, h1, h2]) (by omega) ls (lv_sub hl [3, 4, 5, 2, 1, 6, 7, 8, 0] rfl)
        · skip
          refine lv_iload hx hb (dk kX5_landing_0_ok 29 rfl) (lv_at hl 5 rfl) ?_
          refine lv_ineg hx hb (dk kX5_landing_0_ok 30 rfl) ?_
          refine lv_istore (lv' := [(5, .int (-u)), (0, .int q), (1, .int d), (2, .int (nI f)), (3, .int x), (4, .int y), (6, .int v), (7, .int (bI b)), (8, .int (nI i))]) hx hb (dk kX5_landing_0_ok 31 rfl) hl (by decide) rfl (fun ls hl => ?_)
          refine lv_iload hx hb (dk kX5_landing_0_ok 32 rfl) (lv_at hl 6 rfl) ?_
          refine lv_ineg hx hb (dk kX5_landing_0_ok 33 rfl) ?_
          refine lv_istore (lv' := [(6, .int (-v)), (5, .int (-u)), (0, .int q), (1, .int d), (2, .int (nI f)), (3, .int x), (4, .int y), (7, .int (bI b)), (8, .int (nI i))]) hx hb (dk kX5_landing_0_ok 34 rfl) hl (by decide) rfl (fun ls hl => ?_)
          refine lv_iload hx hb (dk kX5_landing_0_ok 35 rfl) (lv_at hl 7 rfl) ?_
          refine b_if_ne (tgt := 80) hx hb (dk kX5_landing_0_ok 36 rfl) (by decide) (fun h3 => ?_) (fun h3 => ?_)
          · skip
            refine lv_iconst (v := -1) hx hb (dk kX5_landing_0_ok 45 rfl) rfl ?_
            exact hret _ _ _ (by first | (rw [hr, show f - i = (f - (i + 1)) + 1 by omega]; simp [ldL, h1, h2, h3]; done) | (rw [hr, show f - i = 0 by omega]; rfl)) (dk kX5_landing_0_ok 46 rfl)
          · skip
            refine lv_iload_n hx hb (dk kX5_landing_0_ok 37 rfl) rfl (lv_at hl 5 rfl) ?_
            refine lv_iload hx hb (dk kX5_landing_0_ok 38 rfl) (lv_at hl 1 rfl) ?_
            refine lv_iadd hx hb (dk kX5_landing_0_ok 39 rfl) ?_
            refine lv_iload hx hb (dk kX5_landing_0_ok 40 rfl) (lv_at hl 6 rfl) ?_
            refine lv_iload hx hb (dk kX5_landing_0_ok 41 rfl) (lv_at hl 0 rfl) ?_
            refine lv_iadd hx hb (dk kX5_landing_0_ok 42 rfl) ?_
            refine csP (As := [.int (x + (-u)), .int (y + (-v))]) (rest := []) ⟨hx, hb, hml, hown, hts⟩ (tX5_isOnMat l (x + (-u)) (y + (-v))) (cwS9 2 hts mcX5_isOnMat (ac5 _ (List.mem_of_getElem? (i := 9) rfl)) msX5_isOnMat mini_RX5 rfl rfl hdX5_isOnMat ⟨Nat.le_of_ble_eq_true rfl, Nat.le_of_ble_eq_true rfl⟩) rfl hl.1 rfl (Nat.le_of_ble_eq_true rfl) (by decide) (dk kX5_landing_0_ok 43 rfl) ?_
            refine b_if_ne (tgt := 82) hx hb (dk kX5_landing_0_ok 44 rfl) (by decide) (fun h4 => ?_) (fun h4 => ?_)
            · skip
              refine lv_iconst (v := nI 1) hx hb (dk kX5_landing_0_ok 47 rfl) rfl ?_
              refine lv_istore (lv' := [(7, .int (nI 1)), (6, .int (-v)), (5, .int (-u)), (0, .int q), (1, .int d), (2, .int (nI f)), (3, .int x), (4, .int y), (8, .int (nI i))]) hx hb (dk kX5_landing_0_ok 48 rfl) hl (by decide) rfl (fun ls hl => ?_)
              refine lv_iload_n hx hb (dk kX5_landing_0_ok 49 rfl) rfl (lv_at hl 6 rfl) ?_
              refine lv_iload hx hb (dk kX5_landing_0_ok 50 rfl) (lv_at hl 2 rfl) ?_
              refine lv_iadd hx hb (dk kX5_landing_0_ok 51 rfl) ?_
              refine lv_istore_n (lv' := [(3, .int (x + (-u))), (7, .int (nI 1)), (6, .int (-v)), (5, .int (-u)), (0, .int q), (1, .int d), (2, .int (nI f)), (4, .int y), (8, .int (nI i))]) hx hb (dk kX5_landing_0_ok 52 rfl) rfl hl (by decide) rfl (fun ls hl => ?_)
              refine lv_iload hx hb (dk kX5_landing_0_ok 53 rfl) (lv_at hl 7 rfl) ?_
              refine lv_iload hx hb (dk kX5_landing_0_ok 54 rfl) (lv_at hl 2 rfl) ?_
              refine lv_iadd hx hb (dk kX5_landing_0_ok 55 rfl) ?_
              refine lv_istore (lv' := [(4, .int (y + (-v))), (3, .int (x + (-u))), (7, .int (nI 1)), (6, .int (-v)), (5, .int (-u)), (0, .int q), (1, .int d), (2, .int (nI f)), (8, .int (nI i))]) hx hb (dk kX5_landing_0_ok 56 rfl) hl (by decide) rfl (fun ls hl => ?_)
              refine lv_iinc (v := nI (i + 1)) (lv' := [(8, .int (nI (i + 1))), (4, .int (y + (-v))), (3, .int (x + (-u))), (7, .int (nI 1)), (6, .int (-v)), (5, .int (-u)), (0, .int q), (1, .int d), (2, .int (nI f))]) hx hb (dk kX5_landing_0_ok 57 rfl) hl (k := 8) rfl (n_inc _) (by decide) rfl (fun ls hl => ?_)
              refine lv_goto (tgt := 29) hx hb (dk kX5_landing_0_ok 58 rfl) (by decide) ?_
              exact ih29 (i + 1) (x + (-u)) (y + (-v)) (-u) (-v) true _ (by rfl) (by omega) (by rw [hr, show f - i = (f - (i + 1)) + 1 by omega]; simp [ldL, h1, h2, h3, h4]) (by omega) ls (lv_sub hl [6, 7, 8, 2, 1, 5, 4, 3, 0] rfl)
            · skip
              refine lv_iconst (v := -1) hx hb (dk kX5_landing_0_ok 45 rfl) rfl ?_
              exact hret _ _ _ (by first | (rw [hr, show f - i = (f - (i + 1)) + 1 by omega]; simp [ldL, h1, h2, h3, h4]; done) | (rw [hr, show f - i = 0 by omega]; rfl)) (dk kX5_landing_0_ok 46 rfl)
  exact L29 _ 0 (q - q / nI 13 * nI 13) (q / nI 13) (ea d) (so d) false _ (by first | rfl | omega) (by first | rfl | omega) (by first | rfl | omega) (Nat.lt_succ_self _) ls (lv_sub hl [6, 7, 8, 5, 4, 3, 2, 1, 0] rfl)
set_option maxRecDepth 100000 in
set_option maxHeartbeats 4000000 in
theorem tX5_restingCell (l : Launch) (x : Int32) (w : Nat) (hxw : x = nI w) (hw : w < 16) (q : Int32) : MP l yX5_restingCell (Cond.code yX5_restingCell cX5_restingCell 2 (some .int) :: AW) ({ frames := 2, cells := 0, slots := 0, locals := 41 } : Room) [.int x, .int q] (.int (rest9 w q)) := by
  refine mp_i (ty := .int) (by decide +kernel) rfl rfl rfl rfl (Nat.le_of_ble_eq_true rfl) (fun p e s m below meth cd Q ls hx hb hml hown hts hret hl => ?_)
  have hown : s.vm.findClass RX5 = some m.cls := hown
  subst hxw
  have hl : lv_has ls 2 [(0, .int (nI w)), (1, .int q)] := hl
  refine lv_iload_n hx hb (dk kX5_restingCell_ok 0 rfl) rfl (lv_at hl 1 rfl) ?_
  refine lv_iconst (v := -1) hx hb (dk kX5_restingCell_ok 1 rfl) rfl ?_
  refine lv_icmp_ne (tgt := 15) hx hb (dk kX5_restingCell_ok 2 rfl) (by decide) (fun h1 => ?_) (fun h1 => ?_)
  · skip
    refine lv_iload_n hx hb (dk kX5_restingCell_ok 7 rfl) rfl (lv_at hl 1 rfl) ?_
    exact hret _ _ _ (by simp [rest9, h1]) (dk kX5_restingCell_ok 8 rfl)
  · skip
    refine lv_iload_n hx hb (dk kX5_restingCell_ok 3 rfl) rfl (lv_at hl 0 rfl) ?_
    refine csP (As := [.int (nI w)]) (rest := []) ⟨hx, hb, hml, hown, hts⟩ (tX5_colourOf l (nI w) w rfl (by omega)) (cwS9 1 hts mcX5_colourOf (ac6 _ (List.mem_of_getElem? (i := 15) rfl)) msX5_colourOf mini_RX5 rfl rfl hdX5_colourOf ⟨Nat.le_of_ble_eq_true rfl, Nat.le_of_ble_eq_true rfl⟩) rfl hl.1 rfl (Nat.le_of_ble_eq_true rfl) (by decide) (dk kX5_restingCell_ok 4 rfl) ?_
    refine csP (As := [.int (nI (w / 4))]) (rest := []) ⟨hx, hb, hml, hown, hts⟩ (tX5_baseOf l (nI (w / 4)) (w / 4) rfl (by omega)) (cwS9 1 hts mcX5_baseOf (ac6 _ (List.mem_of_getElem? (i := 16) rfl)) msX5_baseOf mini_RX5 rfl rfl hdX5_baseOf ⟨Nat.le_of_ble_eq_true rfl, Nat.le_of_ble_eq_true rfl⟩) rfl hl.1 rfl (Nat.le_of_ble_eq_true rfl) (by decide) (dk kX5_restingCell_ok 5 rfl) ?_
    refine lv_goto (tgt := 16) hx hb (dk kX5_restingCell_ok 6 rfl) (by decide) ?_
    exact hret _ _ _ (by simp [rest9, h1]) (dk kX5_restingCell_ok 8 rfl)
set_option maxRecDepth 100000 in
set_option maxHeartbeats 4000000 in
theorem tX5_flightAnswer (l : Launch) (q : Int32) : MP l yX5_flightAnswer (Cond.code yX5_flightAnswer cX5_flightAnswer 1 (some .int) :: AW) ({ frames := 0, cells := 0, slots := 0, locals := 0 } : Room) [.int q] (.int (fans q)) := by
  refine mp_i (ty := .int) (by decide +kernel) rfl rfl rfl rfl (Nat.le_of_ble_eq_true rfl) (fun p e s m below meth cd Q ls hx hb hml hown hts hret hl => ?_)
  have hown : s.vm.findClass RX5 = some m.cls := hown
  have hl : lv_has ls 1 [(0, .int q)] := hl
  refine lv_iload_n hx hb (dk kX5_flightAnswer_ok 0 rfl) rfl (lv_at hl 0 rfl) ?_
  refine lv_bipush (v := nI 84) hx hb (dk kX5_flightAnswer_ok 1 rfl) rfl ?_
  refine lv_icmp_ne (tgt := 12) hx hb (dk kX5_flightAnswer_ok 2 rfl) (by decide) (fun h1 => ?_) (fun h1 => ?_)
  · skip
    refine lv_iload_n hx hb (dk kX5_flightAnswer_ok 5 rfl) rfl (lv_at hl 0 rfl) ?_
    exact hret _ _ _ (by simp [fans, h1]) (dk kX5_flightAnswer_ok 6 rfl)
  · skip
    refine lv_sipush (v := nI 169) hx hb (dk kX5_flightAnswer_ok 3 rfl) rfl ?_
    refine lv_goto (tgt := 13) hx hb (dk kX5_flightAnswer_ok 4 rfl) (by decide) ?_
    exact hret _ _ _ (by simp [fans, h1]) (dk kX5_flightAnswer_ok 6 rfl)
set_option maxRecDepth 100000 in
set_option maxHeartbeats 4000000 in
theorem tX5_colourOf_r (l : Launch) (x : Int32) : MP l yX5_colourOf (Cond.code yX5_colourOf cX5_colourOf 1 (some .int) :: AW) ({ frames := 0, cells := 0, slots := 0, locals := 0 } : Room) [.int x] (.int (x / nI 4)) := by
  refine mp_i (ty := .int) (by decide +kernel) rfl rfl rfl rfl (Nat.le_of_ble_eq_true rfl) (fun p e s m below meth cd Q ls hx hb hml hown hts hret hl => ?_)
  have hown : s.vm.findClass RX5 = some m.cls := hown
  have hl : lv_has ls 1 [(0, .int x)] := hl
  refine lv_iload_n hx hb (dk kX5_colourOf_ok 0 rfl) rfl (lv_at hl 0 rfl) ?_
  refine lv_iconst (v := nI 4) hx hb (dk kX5_colourOf_ok 1 rfl) rfl ?_
  refine lv_idiv hx hb (dk kX5_colourOf_ok 2 rfl) (by decide) ?_
  exact hret _ _ _ (by rfl) (dk kX5_colourOf_ok 3 rfl)
end
section
set_option maxRecDepth 100000 in
set_option maxHeartbeats 4000000 in
theorem tX1_isPotted (l : Launch) (D : va_G) (cI cQ cL : ClassId) (ad : Nat → Nat) (N : Nat) (F : Nat → va_E) (k : Nat) (hk : k + 3 < N) (c b v : Nat → Int32) (hM : matAt cI ad F k c b v) (x : Int32) (w : Nat) (hxw : x = nI w) (hw : w < 16) : MR l yX1_isPotted (Cond.code yX1_isPotted cX1_isPotted 2 (some .boolean) :: AW) ({ frames := 0, cells := 0, slots := 0, locals := 0 } : Room) D cI cQ cL ad N F [.ref (ad k), .int x] (.int (bI (pot c w))) := by
  refine mr_i (ty := .boolean) (by decide +kernel) rfl rfl rfl (bI_nar _) (Nat.le_of_ble_eq_true rfl) (fun p e s m below meth cd Q ls hx hb hml hown hts hP hK hNW hret hl => ?_)
  have hown : s.vm.findClass RX1 = some m.cls := hown
  subst hxw
  obtain ⟨f0, f1, f2, f3⟩ := id hM
  have hk0 : k < N := by omega
  have hk1 : k + 1 < N := by omega
  have hk2 : k + 2 < N := by omega
  have hk3 : k + 3 < N := hk
  have hl : lv_has ls 2 [(0, .ref (ad k)), (1, .int (nI w))] := hl
  refine lv_aload_n hx hb (dk kX1_isPotted_ok 0 rfl) rfl (lv_at hl 0 rfl) ?_
  refine gf hx hb hts (fun w h => List.mem_cons_of_mem _ (acX1 w h)) hown hK hP hk0 f0 rfl 0 (by decide) (hts _ (List.mem_cons_of_mem _ (ac0 _ (List.mem_of_getElem? (i := 11) rfl)))) (fun _ h => h) rfl (dk kX1_isPotted_ok 1 rfl) ?_
  refine lv_iload_n hx hb (dk kX1_isPotted_ok 2 rfl) rfl (lv_at hl 1 rfl) ?_
  refine ald (j := w) hx hb hK hP hk1 f1 rfl (by omega) (by decide) (dk kX1_isPotted_ok 3 rfl) ?_
  refine lv_iconst (v := -1) hx hb (dk kX1_isPotted_ok 4 rfl) rfl ?_
  refine lv_icmp_ne (tgt := 14) hx hb (dk kX1_isPotted_ok 5 rfl) (by decide) (fun h1 => ?_) (fun h1 => ?_)
  · skip
    refine lv_iconst (v := nI 0) hx hb (dk kX1_isPotted_ok 8 rfl) rfl ?_
    exact hret _ _ _ (by simp [pot, h1, bI]) (dk kX1_isPotted_ok 9 rfl)
  · skip
    refine lv_iconst (v := nI 1) hx hb (dk kX1_isPotted_ok 6 rfl) rfl ?_
    refine lv_goto (tgt := 15) hx hb (dk kX1_isPotted_ok 7 rfl) (by decide) ?_
    exact hret _ _ _ (by simp [pot, h1, bI]) (dk kX1_isPotted_ok 9 rfl)
set_option maxRecDepth 100000 in
set_option maxHeartbeats 4000000 in
theorem tX1_isCovered (l : Launch) (D : va_G) (cI cQ cL : ClassId) (ad : Nat → Nat) (N : Nat) (F : Nat → va_E) (k : Nat) (hk : k + 3 < N) (c b v : Nat → Int32) (hM : matAt cI ad F k c b v) (x : Int32) (w : Nat) (hxw : x = nI w) (hw : w < 16) : MR l yX1_isCovered (Cond.code yX1_isCovered cX1_isCovered 2 (some .boolean) :: AW) ({ frames := 0, cells := 0, slots := 0, locals := 0 } : Room) D cI cQ cL ad N F [.ref (ad k), .int x] (.int (bI (cov v w))) := by
  refine mr_i (ty := .boolean) (by decide +kernel) rfl rfl rfl (bI_nar _) (Nat.le_of_ble_eq_true rfl) (fun p e s m below meth cd Q ls hx hb hml hown hts hP hK hNW hret hl => ?_)
  have hown : s.vm.findClass RX1 = some m.cls := hown
  subst hxw
  obtain ⟨f0, f1, f2, f3⟩ := id hM
  have hk0 : k < N := by omega
  have hk1 : k + 1 < N := by omega
  have hk2 : k + 2 < N := by omega
  have hk3 : k + 3 < N := hk
  have hl : lv_has ls 2 [(0, .ref (ad k)), (1, .int (nI w))] := hl
  refine lv_aload_n hx hb (dk kX1_isCovered_ok 0 rfl) rfl (lv_at hl 0 rfl) ?_
  refine gf hx hb hts (fun w h => List.mem_cons_of_mem _ (acX1 w h)) hown hK hP hk0 f0 rfl 2 (by decide) (hts _ (List.mem_cons_of_mem _ (ac0 _ (List.mem_of_getElem? (i := 13) rfl)))) (fun _ h => h) rfl (dk kX1_isCovered_ok 1 rfl) ?_
  refine lv_iload_n hx hb (dk kX1_isCovered_ok 2 rfl) rfl (lv_at hl 1 rfl) ?_
  refine ald (j := w) hx hb hK hP hk3 f3 rfl (by omega) (by decide) (dk kX1_isCovered_ok 3 rfl) ?_
  refine lv_iconst (v := -1) hx hb (dk kX1_isCovered_ok 4 rfl) rfl ?_
  refine lv_icmp_eq (tgt := 14) hx hb (dk kX1_isCovered_ok 5 rfl) (by decide) (fun h1 => ?_) (fun h1 => ?_)
  · skip
    refine lv_iconst (v := nI 0) hx hb (dk kX1_isCovered_ok 8 rfl) rfl ?_
    exact hret _ _ _ (by simp [cov, h1, bI]) (dk kX1_isCovered_ok 9 rfl)
  · skip
    refine lv_iconst (v := nI 1) hx hb (dk kX1_isCovered_ok 6 rfl) rfl ?_
    refine lv_goto (tgt := 15) hx hb (dk kX1_isCovered_ok 7 rfl) (by decide) ?_
    exact hret _ _ _ (by simp [cov, h1, bI]) (dk kX1_isCovered_ok 9 rfl)
set_option maxRecDepth 100000 in
set_option maxHeartbeats 4000000 in
theorem tX1_topAt (l : Launch) (D : va_G) (cI cQ cL : ClassId) (ad : Nat → Nat) (N : Nat) (F : Nat → va_E) (k : Nat) (hk : k + 3 < N) (c b v : Nat → Int32) (hM : matAt cI ad F k c b v) (q : Int32) : MR l yX1_topAt (Cond.code yX1_topAt cX1_topAt 3 (some .int) :: AW) ({ frames := 0, cells := 0, slots := 0, locals := 0 } : Room) D cI cQ cL ad N F [.ref (ad k), .int q] (.int (top c v q)) := by
  refine mr_i (ty := .int) (by decide +kernel) rfl rfl rfl rfl (Nat.le_of_ble_eq_true rfl) (fun p e s m below meth cd Q ls hx hb hml hown hts hP hK hNW hret hl => ?_)
  have hown : s.vm.findClass RX1 = some m.cls := hown
  obtain ⟨f0, f1, f2, f3⟩ := id hM
  have hk0 : k < N := by omega
  have hk1 : k + 1 < N := by omega
  have hk2 : k + 2 < N := by omega
  have hk3 : k + 3 < N := hk
  have hl : lv_has ls 3 [(0, .ref (ad k)), (1, .int q)] := hl
  refine lv_iconst (v := nI 0) hx hb (dk kX1_topAt_ok 0 rfl) rfl ?_
  refine lv_istore_n (lv' := [(2, .int (nI 0)), (0, .ref (ad k)), (1, .int q)]) hx hb (dk kX1_topAt_ok 1 rfl) rfl hl (by decide) rfl (fun ls hl => ?_)
  have L2 : ∀ (fu : Nat) (i : Nat), i ≤ 16 → top c v q = fst (tpq c v q) (16 - i) i → 16 - i < fu → ∀ ls : Array Slot, lv_has ls 3 [(0, .ref (ad k)), (1, .int q), (2, .int (nI i))] → W p l e ({ frames := 0, cells := 0, slots := 0, locals := 0 } : Room) s m ([.ref (ad k), .int q] : List Value).toArray below meth cd s.heap [] 0 0 Q (F0 m 2 ls []) := by
    intro fu
    induction fu with
    | zero => intros; omega
    | succ fu ih2 =>
      intro i hi hr hme2 ls hl
      refine lv_iload_n hx hb (dk kX1_topAt_ok 2 rfl) rfl (lv_at hl 2 rfl) ?_
      refine lv_bipush (v := nI 16) hx hb (dk kX1_topAt_ok 3 rfl) rfl ?_
      refine n_icmp_ge (tgt := 36) hx hb (by omega) (by decide) (dk kX1_topAt_ok 4 rfl) (by decide) (fun h1 => ?_) (fun h1 => ?_)
      · skip
        refine lv_iconst (v := -1) hx hb (dk kX1_topAt_ok 21 rfl) rfl ?_
        exact hret _ _ _ (by first | (rw [hr, show 16 - i = (16 - (i + 1)) + 1 by omega]; simp [fst, tpq, h1]; done) | (rw [hr, show 16 - i = 0 by omega]; rfl)) (dk kX1_topAt_ok 22 rfl)
      · skip
        refine lv_aload_n hx hb (dk kX1_topAt_ok 5 rfl) rfl (lv_at hl 0 rfl) ?_
        refine gf hx hb hts (fun w h => List.mem_cons_of_mem _ (acX1 w h)) hown hK hP hk0 f0 rfl 0 (by decide) (hts _ (List.mem_cons_of_mem _ (ac0 _ (List.mem_of_getElem? (i := 11) rfl)))) (fun _ h => h) rfl (dk kX1_topAt_ok 6 rfl) ?_
        refine lv_iload_n hx hb (dk kX1_topAt_ok 7 rfl) rfl (lv_at hl 2 rfl) ?_
        refine ald (j := i) hx hb hK hP hk1 f1 rfl (by omega) (by decide) (dk kX1_topAt_ok 8 rfl) ?_
        refine lv_iload_n hx hb (dk kX1_topAt_ok 9 rfl) rfl (lv_at hl 1 rfl) ?_
        refine lv_icmp_ne (tgt := 30) hx hb (dk kX1_topAt_ok 10 rfl) (by decide) (fun h2 => ?_) (fun h2 => ?_)
        · skip
          refine lv_iinc (v := nI (i + 1)) (lv' := [(2, .int (nI (i + 1))), (0, .ref (ad k)), (1, .int q)]) hx hb (dk kX1_topAt_ok 19 rfl) hl (k := 2) rfl (n_inc _) (by decide) rfl (fun ls hl => ?_)
          refine lv_goto (tgt := 2) hx hb (dk kX1_topAt_ok 20 rfl) (by decide) ?_
          exact ih2 (i + 1) (by omega) (by rw [hr, show 16 - i = (16 - (i + 1)) + 1 by omega]; simp [fst, tpq, h1, h2]) (by omega) ls (lv_sub hl [1, 2, 0] rfl)
        · skip
          refine lv_aload_n hx hb (dk kX1_topAt_ok 11 rfl) rfl (lv_at hl 0 rfl) ?_
          refine gf hx hb hts (fun w h => List.mem_cons_of_mem _ (acX1 w h)) hown hK hP hk0 f0 rfl 2 (by decide) (hts _ (List.mem_cons_of_mem _ (ac0 _ (List.mem_of_getElem? (i := 13) rfl)))) (fun _ h => h) rfl (dk kX1_topAt_ok 12 rfl) ?_
          refine lv_iload_n hx hb (dk kX1_topAt_ok 13 rfl) rfl (lv_at hl 2 rfl) ?_
          refine ald (j := i) hx hb hK hP hk3 f3 rfl (by omega) (by decide) (dk kX1_topAt_ok 14 rfl) ?_
          refine lv_iconst (v := -1) hx hb (dk kX1_topAt_ok 15 rfl) rfl ?_
          refine lv_icmp_ne (tgt := 30) hx hb (dk kX1_topAt_ok 16 rfl) (by decide) (fun h3 => ?_) (fun h3 => ?_)
          · skip
            refine lv_iinc (v := nI (i + 1)) (lv' := [(2, .int (nI (i + 1))), (0, .ref (ad k)), (1, .int q)]) hx hb (dk kX1_topAt_ok 19 rfl) hl (k := 2) rfl (n_inc _) (by decide) rfl (fun ls hl => ?_)
            refine lv_goto (tgt := 2) hx hb (dk kX1_topAt_ok 20 rfl) (by decide) ?_
            exact ih2 (i + 1) (by omega) (by rw [hr, show 16 - i = (16 - (i + 1)) + 1 by omega]; simp [fst, tpq, h1, h2, h3]) (by omega) ls (lv_sub hl [1, 2, 0] rfl)
          · skip
            refine lv_iload_n hx hb (dk kX1_topAt_ok 17 rfl) rfl (lv_at hl 2 rfl) ?_
            exact hret _ _ _ (by first | (rw [hr, show 16 - i = (16 - (i + 1)) + 1 by omega]; simp [fst, tpq, h1, h2, h3]; done) | (rw [hr, show 16 - i = 0 by omega]; rfl)) (dk kX1_topAt_ok 18 rfl)
  exact L2 _ 0 (by first | rfl | omega) (by first | rfl | omega) (Nat.lt_succ_self _) ls (lv_sub hl [1, 2, 0] rfl)
set_option maxRecDepth 100000 in
set_option maxHeartbeats 4000000 in
theorem tX1_bottomAt (l : Launch) (D : va_G) (cI cQ cL : ClassId) (ad : Nat → Nat) (N : Nat) (F : Nat → va_E) (k : Nat) (hk : k + 3 < N) (c b v : Nat → Int32) (hM : matAt cI ad F k c b v) (q : Int32) : MR l yX1_bottomAt (Cond.code yX1_bottomAt cX1_bottomAt 3 (some .int) :: AW) ({ frames := 0, cells := 0, slots := 0, locals := 0 } : Room) D cI cQ cL ad N F [.ref (ad k), .int q] (.int (top c b q)) := by
  refine mr_i (ty := .int) (by decide +kernel) rfl rfl rfl rfl (Nat.le_of_ble_eq_true rfl) (fun p e s m below meth cd Q ls hx hb hml hown hts hP hK hNW hret hl => ?_)
  have hown : s.vm.findClass RX1 = some m.cls := hown
  obtain ⟨f0, f1, f2, f3⟩ := id hM
  have hk0 : k < N := by omega
  have hk1 : k + 1 < N := by omega
  have hk2 : k + 2 < N := by omega
  have hk3 : k + 3 < N := hk
  have hl : lv_has ls 3 [(0, .ref (ad k)), (1, .int q)] := hl
  refine lv_iconst (v := nI 0) hx hb (dk kX1_bottomAt_ok 0 rfl) rfl ?_
  refine lv_istore_n (lv' := [(2, .int (nI 0)), (0, .ref (ad k)), (1, .int q)]) hx hb (dk kX1_bottomAt_ok 1 rfl) rfl hl (by decide) rfl (fun ls hl => ?_)
  have L2 : ∀ (fu : Nat) (i : Nat), i ≤ 16 → top c b q = fst (tpq c b q) (16 - i) i → 16 - i < fu → ∀ ls : Array Slot, lv_has ls 3 [(0, .ref (ad k)), (1, .int q), (2, .int (nI i))] → W p l e ({ frames := 0, cells := 0, slots := 0, locals := 0 } : Room) s m ([.ref (ad k), .int q] : List Value).toArray below meth cd s.heap [] 0 0 Q (F0 m 2 ls []) := by
    intro fu
    induction fu with
    | zero => intros; omega
    | succ fu ih2 =>
      intro i hi hr hme2 ls hl
      refine lv_iload_n hx hb (dk kX1_bottomAt_ok 2 rfl) rfl (lv_at hl 2 rfl) ?_
      refine lv_bipush (v := nI 16) hx hb (dk kX1_bottomAt_ok 3 rfl) rfl ?_
      refine n_icmp_ge (tgt := 36) hx hb (by omega) (by decide) (dk kX1_bottomAt_ok 4 rfl) (by decide) (fun h1 => ?_) (fun h1 => ?_)
      · skip
        refine lv_iconst (v := -1) hx hb (dk kX1_bottomAt_ok 21 rfl) rfl ?_
        exact hret _ _ _ (by first | (rw [hr, show 16 - i = (16 - (i + 1)) + 1 by omega]; simp [fst, tpq, h1]; done) | (rw [hr, show 16 - i = 0 by omega]; rfl)) (dk kX1_bottomAt_ok 22 rfl)
      · skip
        refine lv_aload_n hx hb (dk kX1_bottomAt_ok 5 rfl) rfl (lv_at hl 0 rfl) ?_
        refine gf hx hb hts (fun w h => List.mem_cons_of_mem _ (acX1 w h)) hown hK hP hk0 f0 rfl 0 (by decide) (hts _ (List.mem_cons_of_mem _ (ac0 _ (List.mem_of_getElem? (i := 11) rfl)))) (fun _ h => h) rfl (dk kX1_bottomAt_ok 6 rfl) ?_
        refine lv_iload_n hx hb (dk kX1_bottomAt_ok 7 rfl) rfl (lv_at hl 2 rfl) ?_
        refine ald (j := i) hx hb hK hP hk1 f1 rfl (by omega) (by decide) (dk kX1_bottomAt_ok 8 rfl) ?_
        refine lv_iload_n hx hb (dk kX1_bottomAt_ok 9 rfl) rfl (lv_at hl 1 rfl) ?_
        refine lv_icmp_ne (tgt := 30) hx hb (dk kX1_bottomAt_ok 10 rfl) (by decide) (fun h2 => ?_) (fun h2 => ?_)
        · skip
          refine lv_iinc (v := nI (i + 1)) (lv' := [(2, .int (nI (i + 1))), (0, .ref (ad k)), (1, .int q)]) hx hb (dk kX1_bottomAt_ok 19 rfl) hl (k := 2) rfl (n_inc _) (by decide) rfl (fun ls hl => ?_)
          refine lv_goto (tgt := 2) hx hb (dk kX1_bottomAt_ok 20 rfl) (by decide) ?_
          exact ih2 (i + 1) (by omega) (by rw [hr, show 16 - i = (16 - (i + 1)) + 1 by omega]; simp [fst, tpq, h1, h2]) (by omega) ls (lv_sub hl [1, 2, 0] rfl)
        · skip
          refine lv_aload_n hx hb (dk kX1_bottomAt_ok 11 rfl) rfl (lv_at hl 0 rfl) ?_
          refine gf hx hb hts (fun w h => List.mem_cons_of_mem _ (acX1 w h)) hown hK hP hk0 f0 rfl 1 (by decide) (hts _ (List.mem_cons_of_mem _ (ac0 _ (List.mem_of_getElem? (i := 12) rfl)))) (fun _ h => h) rfl (dk kX1_bottomAt_ok 12 rfl) ?_
          refine lv_iload_n hx hb (dk kX1_bottomAt_ok 13 rfl) rfl (lv_at hl 2 rfl) ?_
          refine ald (j := i) hx hb hK hP hk2 f2 rfl (by omega) (by decide) (dk kX1_bottomAt_ok 14 rfl) ?_
          refine lv_iconst (v := -1) hx hb (dk kX1_bottomAt_ok 15 rfl) rfl ?_
          refine lv_icmp_ne (tgt := 30) hx hb (dk kX1_bottomAt_ok 16 rfl) (by decide) (fun h3 => ?_) (fun h3 => ?_)
          · skip
            refine lv_iinc (v := nI (i + 1)) (lv' := [(2, .int (nI (i + 1))), (0, .ref (ad k)), (1, .int q)]) hx hb (dk kX1_bottomAt_ok 19 rfl) hl (k := 2) rfl (n_inc _) (by decide) rfl (fun ls hl => ?_)
            refine lv_goto (tgt := 2) hx hb (dk kX1_bottomAt_ok 20 rfl) (by decide) ?_
            exact ih2 (i + 1) (by omega) (by rw [hr, show 16 - i = (16 - (i + 1)) + 1 by omega]; simp [fst, tpq, h1, h2, h3]) (by omega) ls (lv_sub hl [1, 2, 0] rfl)
          · skip
            refine lv_iload_n hx hb (dk kX1_bottomAt_ok 17 rfl) rfl (lv_at hl 2 rfl) ?_
            exact hret _ _ _ (by first | (rw [hr, show 16 - i = (16 - (i + 1)) + 1 by omega]; simp [fst, tpq, h1, h2, h3]; done) | (rw [hr, show 16 - i = 0 by omega]; rfl)) (dk kX1_bottomAt_ok 18 rfl)
  exact L2 _ 0 (by first | rfl | omega) (by first | rfl | omega) (Nat.lt_succ_self _) ls (lv_sub hl [1, 2, 0] rfl)
set_option maxRecDepth 100000 in
set_option maxHeartbeats 4000000 in
theorem tX1_placeOf (l : Launch) (D : va_G) (cI cQ cL : ClassId) (ad : Nat → Nat) (N : Nat) (F : Nat → va_E) (k : Nat) (hk : k + 3 < N) (c b v : Nat → Int32) (hM : matAt cI ad F k c b v) (x : Int32) (w : Nat) (hxw : x = nI w) (hw : w < 16) : MR l yX1_placeOf (Cond.code yX1_placeOf cX1_placeOf 5 (some .int) :: AW) ({ frames := 1, cells := 0, slots := 0, locals := 21 } : Room) D cI cQ cL ad N F [.ref (ad k), .int x] (.int (pls c b w)) := by
  refine mr_i (ty := .int) (by decide +kernel) rfl rfl rfl rfl (Nat.le_of_ble_eq_true rfl) (fun p e s m below meth cd Q ls hx hb hml hown hts hP hK hNW hret hl => ?_)
  have hown : s.vm.findClass RX1 = some m.cls := hown
  subst hxw
  obtain ⟨f0, f1, f2, f3⟩ := id hM
  have hk0 : k < N := by omega
  have hk1 : k + 1 < N := by omega
  have hk2 : k + 2 < N := by omega
  have hk3 : k + 3 < N := hk
  have hl : lv_has ls 5 [(0, .ref (ad k)), (1, .int (nI w))] := hl
  refine lv_aload_n hx hb (dk kX1_placeOf_ok 0 rfl) rfl (lv_at hl 0 rfl) ?_
  refine lv_iload_n hx hb (dk kX1_placeOf_ok 1 rfl) rfl (lv_at hl 1 rfl) ?_
  refine cvR (As := [.int (nI w)]) (rest := []) ⟨hx, hb, hml, hown, hts⟩ (tX1_isPotted l D cI cQ cL ad N F k hk c b v hM (nI w) w rfl (by omega)) (cwV9 1 hts mcX1_isPotted (ac1 _ (List.mem_of_getElem? (i := 13) rfl)) miX1_isPotted meX1_isPotted mini_RX1 rfl rfl hdX1_isPotted ⟨Nat.le_of_ble_eq_true rfl, Nat.le_of_ble_eq_true rfl⟩) hK hP hNW hk0 f0 rfl rfl hl.1 rfl (Nat.le_of_ble_eq_true rfl) (by decide) (dk kX1_placeOf_ok 2 rfl) ?_
  refine b_if_eq (tgt := 10) hx hb (dk kX1_placeOf_ok 3 rfl) (by decide) (fun h1 => ?_) (fun h1 => ?_)
  · skip
    refine lv_iconst (v := nI 0) hx hb (dk kX1_placeOf_ok 6 rfl) rfl ?_
    refine lv_istore_n (lv' := [(2, .int (nI 0)), (0, .ref (ad k)), (1, .int (nI w))]) hx hb (dk kX1_placeOf_ok 7 rfl) rfl hl (by decide) rfl (fun ls hl => ?_)
    refine lv_aload_n hx hb (dk kX1_placeOf_ok 8 rfl) rfl (lv_at hl 1 rfl) ?_
    refine gf hx hb hts (fun w h => List.mem_cons_of_mem _ (acX1 w h)) hown hK hP hk0 f0 rfl 1 (by decide) (hts _ (List.mem_cons_of_mem _ (ac0 _ (List.mem_of_getElem? (i := 12) rfl)))) (fun _ h => h) rfl (dk kX1_placeOf_ok 9 rfl) ?_
    refine lv_iload_n hx hb (dk kX1_placeOf_ok 10 rfl) rfl (lv_at hl 2 rfl) ?_
    refine ald (j := w) hx hb hK hP hk2 f2 rfl (by omega) (by decide) (dk kX1_placeOf_ok 11 rfl) ?_
    refine lv_istore_n (lv' := [(3, .int (b w)), (2, .int (nI 0)), (0, .ref (ad k)), (1, .int (nI w))]) hx hb (dk kX1_placeOf_ok 12 rfl) rfl hl (by decide) rfl (fun ls hl => ?_)
    refine lv_iconst (v := nI 0) hx hb (dk kX1_placeOf_ok 13 rfl) rfl ?_
    refine lv_istore (lv' := [(4, .int (nI 0)), (3, .int (b w)), (2, .int (nI 0)), (0, .ref (ad k)), (1, .int (nI w))]) hx hb (dk kX1_placeOf_ok 14 rfl) hl (by decide) rfl (fun ls hl => ?_)
    have L22 : ∀ (fu : Nat) (i a : Nat) (x : Int32), i ≤ 16 → a ≤ i → plc b 16 (b w) = a + plc b (16 - i) x → 16 - i < fu → ∀ ls : Array Slot, lv_has ls 5 [(0, .ref (ad k)), (1, .int (nI w)), (2, .int (nI a)), (3, .int x), (4, .int (nI i))] → W p l e ({ frames := 1, cells := 0, slots := 0, locals := 21 } : Room) s m ([.ref (ad k), .int (nI w)] : List Value).toArray below meth cd s.heap [] 0 0 Q (F0 m 22 ls []) := by
      intro fu
      induction fu with
      | zero => intros; omega
      | succ fu ih22 =>
        intro i a x hi ha hr hme22 ls hl
        refine lv_iload hx hb (dk kX1_placeOf_ok 15 rfl) (lv_at hl 4 rfl) ?_
        refine lv_bipush (v := nI 16) hx hb (dk kX1_placeOf_ok 16 rfl) rfl ?_
        refine n_icmp_ge (tgt := 52) hx hb (by omega) (by decide) (dk kX1_placeOf_ok 17 rfl) (by decide) (fun h2 => ?_) (fun h2 => ?_)
        · skip
          refine lv_iload_n hx hb (dk kX1_placeOf_ok 29 rfl) rfl (lv_at hl 2 rfl) ?_
          exact hret _ _ _ (by first | (rw [pls, if_neg (by simpa [pot] using h1), hr, show 16 - i = (16 - (i + 1)) + 1 by omega]; simp [plc, h1, h2]; done) | (rw [pls, if_neg (by simpa [pot] using h1), hr, show 16 - i = 0 by omega]; rfl) | (rw [pls, if_pos (by simpa [pot] using h1)])) (dk kX1_placeOf_ok 30 rfl)
        · skip
          refine lv_iload_n hx hb (dk kX1_placeOf_ok 18 rfl) rfl (lv_at hl 3 rfl) ?_
          refine csPN (As := [.int x]) (rest := []) ⟨hx, hb, hml, hown, hts⟩ (tX5_isWink l x) (cwN9 1 hts mcX5_isWink (nm7 hNW) mini_RX5 rfl rfl hdX5_isWink ⟨Nat.le_of_ble_eq_true rfl, Nat.le_of_ble_eq_true rfl⟩) (hts _ (List.mem_cons_of_mem _ msX5_isWink)) rfl hl.1 rfl (Nat.le_of_ble_eq_true rfl) (by decide) (dk kX1_placeOf_ok 19 rfl) ?_
          refine b_if_eq (tgt := 52) hx hb (dk kX1_placeOf_ok 20 rfl) (by decide) (fun h3 => ?_) (fun h3 => ?_)
          · skip
            refine lv_iload_n hx hb (dk kX1_placeOf_ok 29 rfl) rfl (lv_at hl 2 rfl) ?_
            exact hret _ _ _ (by first | (rw [pls, if_neg (by simpa [pot] using h1), hr, show 16 - i = (16 - (i + 1)) + 1 by omega]; simp [plc, h1, h2, h3]; done) | (rw [pls, if_neg (by simpa [pot] using h1), hr, show 16 - i = 0 by omega]; rfl) | (rw [pls, if_pos (by simpa [pot] using h1)])) (dk kX1_placeOf_ok 30 rfl)
          · skip
            refine lv_iinc (v := nI (a + 1)) (lv' := [(2, .int (nI (a + 1))), (0, .ref (ad k)), (1, .int (nI w)), (3, .int x), (4, .int (nI i))]) hx hb (dk kX1_placeOf_ok 21 rfl) hl (k := 2) rfl (n_inc _) (by decide) rfl (fun ls hl => ?_)
            refine lv_aload_n hx hb (dk kX1_placeOf_ok 22 rfl) rfl (lv_at hl 1 rfl) ?_
            refine gf hx hb hts (fun w h => List.mem_cons_of_mem _ (acX1 w h)) hown hK hP hk0 f0 rfl 1 (by decide) (hts _ (List.mem_cons_of_mem _ (ac0 _ (List.mem_of_getElem? (i := 12) rfl)))) (fun _ h => h) rfl (dk kX1_placeOf_ok 23 rfl) ?_
            refine lv_iload_n hx hb (dk kX1_placeOf_ok 24 rfl) rfl (lv_at hl 3 rfl) ?_
            refine ald (j := (ix x)) hx hb hK hP hk2 f2 (wk_eq h3) (wk_lt h3) (by decide) (dk kX1_placeOf_ok 25 rfl) ?_
            refine lv_istore_n (lv' := [(3, .int (b (ix x))), (2, .int (nI (a + 1))), (0, .ref (ad k)), (1, .int (nI w)), (4, .int (nI i))]) hx hb (dk kX1_placeOf_ok 26 rfl) rfl hl (by decide) rfl (fun ls hl => ?_)
            refine lv_iinc (v := nI (i + 1)) (lv' := [(4, .int (nI (i + 1))), (3, .int (b (ix x))), (2, .int (nI (a + 1))), (0, .ref (ad k)), (1, .int (nI w))]) hx hb (dk kX1_placeOf_ok 27 rfl) hl (k := 4) rfl (n_inc _) (by decide) rfl (fun ls hl => ?_)
            refine lv_goto (tgt := 22) hx hb (dk kX1_placeOf_ok 28 rfl) (by decide) ?_
            exact ih22 (i + 1) (a + 1) (b (ix x)) (by omega) (by omega) (by rw [hr, show 16 - i = (16 - (i + 1)) + 1 by omega]; simp only [plc, h1, h2, h3, if_true]; omega) (by omega) ls (lv_sub hl [3, 4, 2, 1, 0] rfl)
    exact L22 _ 0 0 (b w) (by first | omega | (rw [Nat.zero_add])) (by first | omega | (rw [Nat.zero_add])) (by first | omega | (rw [Nat.zero_add])) (Nat.lt_succ_self _) ls (lv_sub hl [3, 4, 2, 1, 0] rfl)
  · skip
    refine lv_iconst (v := -1) hx hb (dk kX1_placeOf_ok 4 rfl) rfl ?_
    exact hret _ _ _ (by first | (rw [pls, if_neg (by simpa [pot] using h1), hr, show 16 - i = (16 - (i + 1)) + 1 by omega]; simp [plc, h1]; done) | (rw [pls, if_neg (by simpa [pot] using h1), hr, show 16 - i = 0 by omega]; rfl) | (rw [pls, if_pos (by simpa [pot] using h1)])) (dk kX1_placeOf_ok 5 rfl)
set_option maxRecDepth 100000 in
set_option maxHeartbeats 4000000 in
theorem tX1_lowestOfUpper (l : Launch) (D : va_G) (cI cQ cL : ClassId) (ad : Nat → Nat) (N : Nat) (F : Nat → va_E) (k : Nat) (hk : k + 3 < N) (c b v : Nat → Int32) (hM : matAt cI ad F k c b v) (q x : Int32) (n : Nat) (hxn : x = nI n) (hn1 : 1 ≤ n) (hn : n < 2 ^ 31) : MR l yX1_lowestOfUpper (Cond.code yX1_lowestOfUpper cX1_lowestOfUpper 5 (some .int) :: AW) ({ frames := 1, cells := 0, slots := 0, locals := 22 } : Room) D cI cQ cL ad N F [.ref (ad k), .int q, .int x] (.int (low c b v q n)) := by
  refine mr_i (ty := .int) (by decide +kernel) rfl rfl rfl rfl (Nat.le_of_ble_eq_true rfl) (fun p e s m below meth cd Q ls hx hb hml hown hts hP hK hNW hret hl => ?_)
  have hown : s.vm.findClass RX1 = some m.cls := hown
  subst hxn
  obtain ⟨f0, f1, f2, f3⟩ := id hM
  have hk0 : k < N := by omega
  have hk1 : k + 1 < N := by omega
  have hk2 : k + 2 < N := by omega
  have hk3 : k + 3 < N := hk
  have hl : lv_has ls 5 [(0, .ref (ad k)), (1, .int q), (2, .int (nI n))] := hl
  refine lv_aload_n hx hb (dk kX1_lowestOfUpper_ok 0 rfl) rfl (lv_at hl 0 rfl) ?_
  refine lv_iload_n hx hb (dk kX1_lowestOfUpper_ok 1 rfl) rfl (lv_at hl 1 rfl) ?_
  refine cvR (As := [.int q]) (rest := []) ⟨hx, hb, hml, hown, hts⟩ (tX1_topAt l D cI cQ cL ad N F k hk c b v hM q) (cwV9 1 hts mcX1_topAt (ac1 _ (List.mem_of_getElem? (i := 9) rfl)) miX1_topAt meX1_topAt mini_RX1 rfl rfl hdX1_topAt ⟨Nat.le_of_ble_eq_true rfl, Nat.le_of_ble_eq_true rfl⟩) hK hP hNW hk0 f0 rfl rfl hl.1 rfl (Nat.le_of_ble_eq_true rfl) (by decide) (dk kX1_lowestOfUpper_ok 2 rfl) ?_
  refine lv_istore_n (lv' := [(3, .int (top c v q)), (0, .ref (ad k)), (1, .int q), (2, .int (nI n))]) hx hb (dk kX1_lowestOfUpper_ok 3 rfl) rfl hl (by decide) rfl (fun ls hl => ?_)
  refine lv_iconst (v := nI 1) hx hb (dk kX1_lowestOfUpper_ok 4 rfl) rfl ?_
  refine lv_istore (lv' := [(4, .int (nI 1)), (3, .int (top c v q)), (0, .ref (ad k)), (1, .int q), (2, .int (nI n))]) hx hb (dk kX1_lowestOfUpper_ok 5 rfl) hl (by decide) rfl (fun ls hl => ?_)
  have L9 : ∀ (fu : Nat) (i : Nat) (x : Int32), 1 ≤ i ∧ i ≤ n → low c b v q n = lou b (n - i) x → n - i < fu → ∀ ls : Array Slot, lv_has ls 5 [(0, .ref (ad k)), (1, .int q), (2, .int (nI n)), (3, .int x), (4, .int (nI i))] → W p l e ({ frames := 1, cells := 0, slots := 0, locals := 22 } : Room) s m ([.ref (ad k), .int q, .int (nI n)] : List Value).toArray below meth cd s.heap [] 0 0 Q (F0 m 9 ls []) := by
    intro fu
    induction fu with
    | zero => intros; omega
    | succ fu ih9 =>
      intro i x hi hr hme9 ls hl
      refine lv_iload hx hb (dk kX1_lowestOfUpper_ok 6 rfl) (lv_at hl 4 rfl) ?_
      refine lv_iload_n hx hb (dk kX1_lowestOfUpper_ok 7 rfl) rfl (lv_at hl 2 rfl) ?_
      refine n_icmp_ge (tgt := 35) hx hb (by omega) (by omega) (dk kX1_lowestOfUpper_ok 8 rfl) (by decide) (fun h1 => ?_) (fun h1 => ?_)
      · skip
        refine lv_iload_n hx hb (dk kX1_lowestOfUpper_ok 19 rfl) rfl (lv_at hl 3 rfl) ?_
        exact hret _ _ _ (by first | (rw [hr, show n - i = (n - (i + 1)) + 1 by omega]; simp [lou, h1]; done) | (rw [hr, show n - i = 0 by omega]; rfl)) (dk kX1_lowestOfUpper_ok 20 rfl)
      · skip
        refine lv_iload_n hx hb (dk kX1_lowestOfUpper_ok 9 rfl) rfl (lv_at hl 3 rfl) ?_
        refine csPN (As := [.int x]) (rest := []) ⟨hx, hb, hml, hown, hts⟩ (tX5_isWink l x) (cwN9 1 hts mcX5_isWink (nm7 hNW) mini_RX5 rfl rfl hdX5_isWink ⟨Nat.le_of_ble_eq_true rfl, Nat.le_of_ble_eq_true rfl⟩) (hts _ (List.mem_cons_of_mem _ msX5_isWink)) rfl hl.1 rfl (Nat.le_of_ble_eq_true rfl) (by decide) (dk kX1_lowestOfUpper_ok 10 rfl) ?_
        refine b_if_eq (tgt := 35) hx hb (dk kX1_lowestOfUpper_ok 11 rfl) (by decide) (fun h2 => ?_) (fun h2 => ?_)
        · skip
          refine lv_iload_n hx hb (dk kX1_lowestOfUpper_ok 19 rfl) rfl (lv_at hl 3 rfl) ?_
          exact hret _ _ _ (by first | (rw [hr, show n - i = (n - (i + 1)) + 1 by omega]; simp [lou, h1, h2]; done) | (rw [hr, show n - i = 0 by omega]; rfl)) (dk kX1_lowestOfUpper_ok 20 rfl)
        · skip
          refine lv_aload_n hx hb (dk kX1_lowestOfUpper_ok 12 rfl) rfl (lv_at hl 0 rfl) ?_
          refine gf hx hb hts (fun w h => List.mem_cons_of_mem _ (acX1 w h)) hown hK hP hk0 f0 rfl 1 (by decide) (hts _ (List.mem_cons_of_mem _ (ac0 _ (List.mem_of_getElem? (i := 12) rfl)))) (fun _ h => h) rfl (dk kX1_lowestOfUpper_ok 13 rfl) ?_
          refine lv_iload_n hx hb (dk kX1_lowestOfUpper_ok 14 rfl) rfl (lv_at hl 3 rfl) ?_
          refine ald (j := (ix x)) hx hb hK hP hk2 f2 (wk_eq h2) (wk_lt h2) (by decide) (dk kX1_lowestOfUpper_ok 15 rfl) ?_
          refine lv_istore_n (lv' := [(3, .int (b (ix x))), (0, .ref (ad k)), (1, .int q), (2, .int (nI n)), (4, .int (nI i))]) hx hb (dk kX1_lowestOfUpper_ok 16 rfl) rfl hl (by decide) rfl (fun ls hl => ?_)
          refine lv_iinc (v := nI (i + 1)) (lv' := [(4, .int (nI (i + 1))), (3, .int (b (ix x))), (0, .ref (ad k)), (1, .int q), (2, .int (nI n))]) hx hb (dk kX1_lowestOfUpper_ok 17 rfl) hl (k := 4) rfl (n_inc _) (by decide) rfl (fun ls hl => ?_)
          refine lv_goto (tgt := 9) hx hb (dk kX1_lowestOfUpper_ok 18 rfl) (by decide) ?_
          exact ih9 (i + 1) (b (ix x)) (by omega) (by rw [hr, show n - i = (n - (i + 1)) + 1 by omega]; simp [lou, h1, h2]) (by omega) ls (lv_sub hl [2, 3, 4, 1, 0] rfl)
  exact L9 _ 1 (top c v q) (by first | omega | rfl) (by first | omega | rfl) (Nat.lt_succ_self _) ls (lv_sub hl [2, 3, 4, 1, 0] rfl)
set_option maxRecDepth 100000 in
set_option maxHeartbeats 4000000 in
theorem tX1_heightAt (l : Launch) (D : va_G) (cI cQ cL : ClassId) (ad : Nat → Nat) (N : Nat) (F : Nat → va_E) (k : Nat) (hk : k + 3 < N) (c b v : Nat → Int32) (hM : matAt cI ad F k c b v) (q : Int32) : MR l yX1_heightAt (Cond.code yX1_heightAt cX1_heightAt 4 (some .int) :: AW) ({ frames := 0, cells := 0, slots := 0, locals := 0 } : Room) D cI cQ cL ad N F [.ref (ad k), .int q] (.int (nI (hgt c q))) := by
  refine mr_i (ty := .int) (by decide +kernel) rfl rfl rfl rfl (Nat.le_of_ble_eq_true rfl) (fun p e s m below meth cd Q ls hx hb hml hown hts hP hK hNW hret hl => ?_)
  have hown : s.vm.findClass RX1 = some m.cls := hown
  obtain ⟨f0, f1, f2, f3⟩ := id hM
  have hk0 : k < N := by omega
  have hk1 : k + 1 < N := by omega
  have hk2 : k + 2 < N := by omega
  have hk3 : k + 3 < N := hk
  have hl : lv_has ls 4 [(0, .ref (ad k)), (1, .int q)] := hl
  refine lv_iconst (v := nI 0) hx hb (dk kX1_heightAt_ok 0 rfl) rfl ?_
  refine lv_istore_n (lv' := [(2, .int (nI 0)), (0, .ref (ad k)), (1, .int q)]) hx hb (dk kX1_heightAt_ok 1 rfl) rfl hl (by decide) rfl (fun ls hl => ?_)
  refine lv_iconst (v := nI 0) hx hb (dk kX1_heightAt_ok 2 rfl) rfl ?_
  refine lv_istore_n (lv' := [(3, .int (nI 0)), (2, .int (nI 0)), (0, .ref (ad k)), (1, .int q)]) hx hb (dk kX1_heightAt_ok 3 rfl) rfl hl (by decide) rfl (fun ls hl => ?_)
  have L4 : ∀ (fu : Nat) (i : Nat) (x2 : Int32), x2 = nI (cnt (fun i => decide (c i = q)) i) → i ≤ 16 → 16 - i < fu → ∀ ls : Array Slot, lv_has ls 4 [(0, .ref (ad k)), (1, .int q), (2, .int x2), (3, .int (nI i))] → W p l e ({ frames := 0, cells := 0, slots := 0, locals := 0 } : Room) s m ([.ref (ad k), .int q] : List Value).toArray below meth cd s.heap [] 0 0 Q (F0 m 4 ls []) := by
    intro fu
    induction fu with
    | zero => intros; omega
    | succ fu ih4 =>
      intro i x2 ex2 hi hme4 ls hl
      subst ex2
      refine lv_iload_n hx hb (dk kX1_heightAt_ok 4 rfl) rfl (lv_at hl 3 rfl) ?_
      refine lv_bipush (v := nI 16) hx hb (dk kX1_heightAt_ok 5 rfl) rfl ?_
      refine n_icmp_ge (tgt := 29) hx hb (by omega) (by decide) (dk kX1_heightAt_ok 6 rfl) (by decide) (fun h1 => ?_) (fun h1 => ?_)
      · skip
        refine lv_iload_n hx hb (dk kX1_heightAt_ok 16 rfl) rfl (lv_at hl 2 rfl) ?_
        exact hret _ _ _ (by rw [show i = 16 by omega] <;> rfl) (dk kX1_heightAt_ok 17 rfl)
      · skip
        refine lv_aload_n hx hb (dk kX1_heightAt_ok 7 rfl) rfl (lv_at hl 0 rfl) ?_
        refine gf hx hb hts (fun w h => List.mem_cons_of_mem _ (acX1 w h)) hown hK hP hk0 f0 rfl 0 (by decide) (hts _ (List.mem_cons_of_mem _ (ac0 _ (List.mem_of_getElem? (i := 11) rfl)))) (fun _ h => h) rfl (dk kX1_heightAt_ok 8 rfl) ?_
        refine lv_iload_n hx hb (dk kX1_heightAt_ok 9 rfl) rfl (lv_at hl 3 rfl) ?_
        refine ald (j := i) hx hb hK hP hk1 f1 rfl (by omega) (by decide) (dk kX1_heightAt_ok 10 rfl) ?_
        refine lv_iload_n hx hb (dk kX1_heightAt_ok 11 rfl) rfl (lv_at hl 1 rfl) ?_
        refine lv_icmp_ne (tgt := 23) hx hb (dk kX1_heightAt_ok 12 rfl) (by decide) (fun h2 => ?_) (fun h2 => ?_)
        · skip
          refine lv_iinc (v := nI (i + 1)) (lv' := [(3, .int (nI (i + 1))), (0, .ref (ad k)), (1, .int q), (2, .int (nI (cnt (fun i => decide (c i = q)) i)))]) hx hb (dk kX1_heightAt_ok 14 rfl) hl (k := 3) rfl (n_inc _) (by decide) rfl (fun ls hl => ?_)
          refine lv_goto (tgt := 4) hx hb (dk kX1_heightAt_ok 15 rfl) (by decide) ?_
          exact ih4 (i + 1) _ (by simp [cnt, h1, h2]) (by omega) (by omega) ls (lv_sub hl [1, 2, 3, 0] rfl)
        · skip
          refine lv_iinc (v := nI ((cnt (fun i => decide (c i = q)) i) + 1)) (lv' := [(2, .int (nI ((cnt (fun i => decide (c i = q)) i) + 1))), (0, .ref (ad k)), (1, .int q), (3, .int (nI i))]) hx hb (dk kX1_heightAt_ok 13 rfl) hl (k := 2) rfl (n_inc _) (by decide) rfl (fun ls hl => ?_)
          refine lv_iinc (v := nI (i + 1)) (lv' := [(3, .int (nI (i + 1))), (2, .int (nI ((cnt (fun i => decide (c i = q)) i) + 1))), (0, .ref (ad k)), (1, .int q)]) hx hb (dk kX1_heightAt_ok 14 rfl) hl (k := 3) rfl (n_inc _) (by decide) rfl (fun ls hl => ?_)
          refine lv_goto (tgt := 4) hx hb (dk kX1_heightAt_ok 15 rfl) (by decide) ?_
          exact ih4 (i + 1) _ (by simp [cnt, h1, h2]) (by omega) (by omega) ls (lv_sub hl [2, 3, 1, 0] rfl)
  exact L4 _ 0 _ (by first | rfl | omega) (by first | rfl | omega) (Nat.lt_succ_self _) ls (lv_sub hl [2, 3, 1, 0] rfl)
set_option maxRecDepth 100000 in
set_option maxHeartbeats 4000000 in
theorem tX1_coloursAt (l : Launch) (D : va_G) (cI cQ cL : ClassId) (ad : Nat → Nat) (N : Nat) (F : Nat → va_E) (k : Nat) (hk : k + 3 < N) (c b v : Nat → Int32) (hM : matAt cI ad F k c b v) (q : Int32) : MR l yX1_coloursAt (Cond.code yX1_coloursAt cX1_coloursAt 4 (some .int) :: AW) ({ frames := 1, cells := 0, slots := 0, locals := 20 } : Room) D cI cQ cL ad N F [.ref (ad k), .int q] (.int (msk (fun i => decide (c i = q)) 16)) := by
  refine mr_i (ty := .int) (by decide +kernel) rfl rfl rfl rfl (Nat.le_of_ble_eq_true rfl) (fun p e s m below meth cd Q ls hx hb hml hown hts hP hK hNW hret hl => ?_)
  have hown : s.vm.findClass RX1 = some m.cls := hown
  obtain ⟨f0, f1, f2, f3⟩ := id hM
  have hk0 : k < N := by omega
  have hk1 : k + 1 < N := by omega
  have hk2 : k + 2 < N := by omega
  have hk3 : k + 3 < N := hk
  have hl : lv_has ls 4 [(0, .ref (ad k)), (1, .int q)] := hl
  refine lv_iconst (v := nI 0) hx hb (dk kX1_coloursAt_ok 0 rfl) rfl ?_
  refine lv_istore_n (lv' := [(2, .int (nI 0)), (0, .ref (ad k)), (1, .int q)]) hx hb (dk kX1_coloursAt_ok 1 rfl) rfl hl (by decide) rfl (fun ls hl => ?_)
  refine lv_iconst (v := nI 0) hx hb (dk kX1_coloursAt_ok 2 rfl) rfl ?_
  refine lv_istore_n (lv' := [(3, .int (nI 0)), (2, .int (nI 0)), (0, .ref (ad k)), (1, .int q)]) hx hb (dk kX1_coloursAt_ok 3 rfl) rfl hl (by decide) rfl (fun ls hl => ?_)
  have L4 : ∀ (fu : Nat) (i : Nat) (x2 : Int32), x2 = msk (fun i => decide (c i = q)) i → i ≤ 16 → 16 - i < fu → ∀ ls : Array Slot, lv_has ls 4 [(0, .ref (ad k)), (1, .int q), (2, .int x2), (3, .int (nI i))] → W p l e ({ frames := 1, cells := 0, slots := 0, locals := 20 } : Room) s m ([.ref (ad k), .int q] : List Value).toArray below meth cd s.heap [] 0 0 Q (F0 m 4 ls []) := by
    intro fu
    induction fu with
    | zero => intros; omega
    | succ fu ih4 =>
      intro i x2 ex2 hi hme4 ls hl
      subst ex2
      refine lv_iload_n hx hb (dk kX1_coloursAt_ok 4 rfl) rfl (lv_at hl 3 rfl) ?_
      refine lv_bipush (v := nI 16) hx hb (dk kX1_coloursAt_ok 5 rfl) rfl ?_
      refine n_icmp_ge (tgt := 35) hx hb (by omega) (by decide) (dk kX1_coloursAt_ok 6 rfl) (by decide) (fun h1 => ?_) (fun h1 => ?_)
      · skip
        refine lv_iload_n hx hb (dk kX1_coloursAt_ok 22 rfl) rfl (lv_at hl 2 rfl) ?_
        exact hret _ _ _ (by rw [show i = 16 by omega] <;> rfl) (dk kX1_coloursAt_ok 23 rfl)
      · skip
        refine lv_aload_n hx hb (dk kX1_coloursAt_ok 7 rfl) rfl (lv_at hl 0 rfl) ?_
        refine gf hx hb hts (fun w h => List.mem_cons_of_mem _ (acX1 w h)) hown hK hP hk0 f0 rfl 0 (by decide) (hts _ (List.mem_cons_of_mem _ (ac0 _ (List.mem_of_getElem? (i := 11) rfl)))) (fun _ h => h) rfl (dk kX1_coloursAt_ok 8 rfl) ?_
        refine lv_iload_n hx hb (dk kX1_coloursAt_ok 9 rfl) rfl (lv_at hl 3 rfl) ?_
        refine ald (j := i) hx hb hK hP hk1 f1 rfl (by omega) (by decide) (dk kX1_coloursAt_ok 10 rfl) ?_
        refine lv_iload_n hx hb (dk kX1_coloursAt_ok 11 rfl) rfl (lv_at hl 1 rfl) ?_
        refine lv_icmp_ne (tgt := 29) hx hb (dk kX1_coloursAt_ok 12 rfl) (by decide) (fun h2 => ?_) (fun h2 => ?_)
        · skip
          refine lv_iinc (v := nI (i + 1)) (lv' := [(3, .int (nI (i + 1))), (0, .ref (ad k)), (1, .int q), (2, .int (msk (fun i => decide (c i = q)) i))]) hx hb (dk kX1_coloursAt_ok 20 rfl) hl (k := 3) rfl (n_inc _) (by decide) rfl (fun ls hl => ?_)
          refine lv_goto (tgt := 4) hx hb (dk kX1_coloursAt_ok 21 rfl) (by decide) ?_
          exact ih4 (i + 1) _ (by simp [msk, h1, h2]) (by omega) (by omega) ls (lv_sub hl [1, 2, 3, 0] rfl)
        · skip
          refine lv_iload_n hx hb (dk kX1_coloursAt_ok 13 rfl) rfl (lv_at hl 2 rfl) ?_
          refine lv_iconst (v := nI 1) hx hb (dk kX1_coloursAt_ok 14 rfl) rfl ?_
          refine lv_iload_n hx hb (dk kX1_coloursAt_ok 15 rfl) rfl (lv_at hl 3 rfl) ?_
          refine csPN (As := [.int (nI i)]) (rest := [.int (nI 1), .int (msk (fun i => decide (c i = q)) i)]) ⟨hx, hb, hml, hown, hts⟩ (tX5_colourOf l (nI i) i rfl (by omega)) (cwN9 1 hts mcX5_colourOf (nm1 hNW) mini_RX5 rfl rfl hdX5_colourOf ⟨Nat.le_of_ble_eq_true rfl, Nat.le_of_ble_eq_true rfl⟩) (hts _ (List.mem_cons_of_mem _ msX5_colourOf)) rfl hl.1 rfl (Nat.le_of_ble_eq_true rfl) (by decide) (dk kX1_coloursAt_ok 16 rfl) ?_
          refine lv_ishl hx hb (dk kX1_coloursAt_ok 17 rfl) ?_
          refine lv_ior hx hb (dk kX1_coloursAt_ok 18 rfl) ?_
          refine lv_istore_n (lv' := [(2, .int ((msk (fun i => decide (c i = q)) i) ||| ((nI 1) <<< ((nI (i / 4)) &&& 31)))), (0, .ref (ad k)), (1, .int q), (3, .int (nI i))]) hx hb (dk kX1_coloursAt_ok 19 rfl) rfl hl (by decide) rfl (fun ls hl => ?_)
          refine lv_iinc (v := nI (i + 1)) (lv' := [(3, .int (nI (i + 1))), (2, .int ((msk (fun i => decide (c i = q)) i) ||| ((nI 1) <<< ((nI (i / 4)) &&& 31)))), (0, .ref (ad k)), (1, .int q)]) hx hb (dk kX1_coloursAt_ok 20 rfl) hl (k := 3) rfl (n_inc _) (by decide) rfl (fun ls hl => ?_)
          refine lv_goto (tgt := 4) hx hb (dk kX1_coloursAt_ok 21 rfl) (by decide) ?_
          exact ih4 (i + 1) _ (by simp [msk, h1, h2]) (by omega) (by omega) ls (lv_sub hl [2, 3, 1, 0] rfl)
  exact L4 _ 0 _ (by first | rfl | omega) (by first | rfl | omega) (Nat.lt_succ_self _) ls (lv_sub hl [2, 3, 1, 0] rfl)
set_option maxRecDepth 100000 in
set_option maxHeartbeats 4000000 in
theorem tX1_isBottom (l : Launch) (D : va_G) (cI cQ cL : ClassId) (ad : Nat → Nat) (N : Nat) (F : Nat → va_E) (k : Nat) (hk : k + 3 < N) (c b v : Nat → Int32) (hM : matAt cI ad F k c b v) (x : Int32) (w : Nat) (hxw : x = nI w) (hw : w < 16) : MR l yX1_isBottom (Cond.code yX1_isBottom cX1_isBottom 2 (some .boolean) :: AW) ({ frames := 0, cells := 0, slots := 0, locals := 0 } : Room) D cI cQ cL ad N F [.ref (ad k), .int x] (.int (bI (bot c b w))) := by
  refine mr_i (ty := .boolean) (by decide +kernel) rfl rfl rfl (bI_nar _) (Nat.le_of_ble_eq_true rfl) (fun p e s m below meth cd Q ls hx hb hml hown hts hP hK hNW hret hl => ?_)
  have hown : s.vm.findClass RX1 = some m.cls := hown
  subst hxw
  obtain ⟨f0, f1, f2, f3⟩ := id hM
  have hk0 : k < N := by omega
  have hk1 : k + 1 < N := by omega
  have hk2 : k + 2 < N := by omega
  have hk3 : k + 3 < N := hk
  have hl : lv_has ls 2 [(0, .ref (ad k)), (1, .int (nI w))] := hl
  refine lv_aload_n hx hb (dk kX1_isBottom_ok 0 rfl) rfl (lv_at hl 0 rfl) ?_
  refine gf hx hb hts (fun w h => List.mem_cons_of_mem _ (acX1 w h)) hown hK hP hk0 f0 rfl 0 (by decide) (hts _ (List.mem_cons_of_mem _ (ac0 _ (List.mem_of_getElem? (i := 11) rfl)))) (fun _ h => h) rfl (dk kX1_isBottom_ok 1 rfl) ?_
  refine lv_iload_n hx hb (dk kX1_isBottom_ok 2 rfl) rfl (lv_at hl 1 rfl) ?_
  refine ald (j := w) hx hb hK hP hk1 f1 rfl (by omega) (by decide) (dk kX1_isBottom_ok 3 rfl) ?_
  refine lv_iconst (v := -1) hx hb (dk kX1_isBottom_ok 4 rfl) rfl ?_
  refine lv_icmp_eq (tgt := 24) hx hb (dk kX1_isBottom_ok 5 rfl) (by decide) (fun h1 => ?_) (fun h1 => ?_)
  · skip
    refine lv_iconst (v := nI 0) hx hb (dk kX1_isBottom_ok 14 rfl) rfl ?_
    exact hret _ _ _ (by simp [bot, h1, bI]) (dk kX1_isBottom_ok 15 rfl)
  · skip
    refine lv_aload_n hx hb (dk kX1_isBottom_ok 6 rfl) rfl (lv_at hl 0 rfl) ?_
    refine gf hx hb hts (fun w h => List.mem_cons_of_mem _ (acX1 w h)) hown hK hP hk0 f0 rfl 1 (by decide) (hts _ (List.mem_cons_of_mem _ (ac0 _ (List.mem_of_getElem? (i := 12) rfl)))) (fun _ h => h) rfl (dk kX1_isBottom_ok 7 rfl) ?_
    refine lv_iload_n hx hb (dk kX1_isBottom_ok 8 rfl) rfl (lv_at hl 1 rfl) ?_
    refine ald (j := w) hx hb hK hP hk2 f2 rfl (by omega) (by decide) (dk kX1_isBottom_ok 9 rfl) ?_
    refine lv_iconst (v := -1) hx hb (dk kX1_isBottom_ok 10 rfl) rfl ?_
    refine lv_icmp_ne (tgt := 24) hx hb (dk kX1_isBottom_ok 11 rfl) (by decide) (fun h2 => ?_) (fun h2 => ?_)
    · skip
      refine lv_iconst (v := nI 0) hx hb (dk kX1_isBottom_ok 14 rfl) rfl ?_
      exact hret _ _ _ (by simp [bot, h1, h2, bI]) (dk kX1_isBottom_ok 15 rfl)
    · skip
      refine lv_iconst (v := nI 1) hx hb (dk kX1_isBottom_ok 12 rfl) rfl ?_
      refine lv_goto (tgt := 25) hx hb (dk kX1_isBottom_ok 13 rfl) (by decide) ?_
      exact hret _ _ _ (by simp [bot, h1, h2, bI]) (dk kX1_isBottom_ok 15 rfl)
set_option maxRecDepth 100000 in
set_option maxHeartbeats 4000000 in
theorem tX1_piles (l : Launch) (D : va_G) (cI cQ cL : ClassId) (ad : Nat → Nat) (N : Nat) (F : Nat → va_E) (k : Nat) (hk : k + 3 < N) (c b v : Nat → Int32) (hM : matAt cI ad F k c b v) : MR l yX1_piles (Cond.code yX1_piles cX1_piles 3 (some .int) :: AW) ({ frames := 1, cells := 0, slots := 0, locals := 21 } : Room) D cI cQ cL ad N F [.ref (ad k)] (.int (nI (cnt (bot c b) 16))) := by
  refine mr_i (ty := .int) (by decide +kernel) rfl rfl rfl rfl (Nat.le_of_ble_eq_true rfl) (fun p e s m below meth cd Q ls hx hb hml hown hts hP hK hNW hret hl => ?_)
  have hown : s.vm.findClass RX1 = some m.cls := hown
  obtain ⟨f0, f1, f2, f3⟩ := id hM
  have hk0 : k < N := by omega
  have hk1 : k + 1 < N := by omega
  have hk2 : k + 2 < N := by omega
  have hk3 : k + 3 < N := hk
  have hl : lv_has ls 3 [(0, .ref (ad k))] := hl
  refine lv_iconst (v := nI 0) hx hb (dk kX1_piles_ok 0 rfl) rfl ?_
  refine lv_istore_n (lv' := [(1, .int (nI 0)), (0, .ref (ad k))]) hx hb (dk kX1_piles_ok 1 rfl) rfl hl (by decide) rfl (fun ls hl => ?_)
  refine lv_iconst (v := nI 0) hx hb (dk kX1_piles_ok 2 rfl) rfl ?_
  refine lv_istore_n (lv' := [(2, .int (nI 0)), (1, .int (nI 0)), (0, .ref (ad k))]) hx hb (dk kX1_piles_ok 3 rfl) rfl hl (by decide) rfl (fun ls hl => ?_)
  have L4 : ∀ (fu : Nat) (i : Nat) (x1 : Int32), x1 = nI (cnt (bot c b) i) → i ≤ 16 → 16 - i < fu → ∀ ls : Array Slot, lv_has ls 3 [(0, .ref (ad k)), (1, .int x1), (2, .int (nI i))] → W p l e ({ frames := 1, cells := 0, slots := 0, locals := 21 } : Room) s m ([.ref (ad k)] : List Value).toArray below meth cd s.heap [] 0 0 Q (F0 m 4 ls []) := by
    intro fu
    induction fu with
    | zero => intros; omega
    | succ fu ih4 =>
      intro i x1 ex1 hi hme4 ls hl
      subst ex1
      refine lv_iload_n hx hb (dk kX1_piles_ok 4 rfl) rfl (lv_at hl 2 rfl) ?_
      refine lv_bipush (v := nI 16) hx hb (dk kX1_piles_ok 5 rfl) rfl ?_
      refine n_icmp_ge (tgt := 27) hx hb (by omega) (by decide) (dk kX1_piles_ok 6 rfl) (by decide) (fun h1 => ?_) (fun h1 => ?_)
      · skip
        refine lv_iload_n hx hb (dk kX1_piles_ok 14 rfl) rfl (lv_at hl 1 rfl) ?_
        exact hret _ _ _ (by rw [show i = 16 by omega] <;> rfl) (dk kX1_piles_ok 15 rfl)
      · skip
        refine lv_aload_n hx hb (dk kX1_piles_ok 7 rfl) rfl (lv_at hl 0 rfl) ?_
        refine lv_iload_n hx hb (dk kX1_piles_ok 8 rfl) rfl (lv_at hl 2 rfl) ?_
        refine cvR (As := [.int (nI i)]) (rest := []) ⟨hx, hb, hml, hown, hts⟩ (tX1_isBottom l D cI cQ cL ad N F k hk c b v hM (nI i) i rfl (by omega)) (cwV9 1 hts mcX1_isBottom (ac1 _ (List.mem_of_getElem? (i := 17) rfl)) miX1_isBottom meX1_isBottom mini_RX1 rfl rfl hdX1_isBottom ⟨Nat.le_of_ble_eq_true rfl, Nat.le_of_ble_eq_true rfl⟩) hK hP hNW hk0 f0 rfl rfl hl.1 rfl (Nat.le_of_ble_eq_true rfl) (by decide) (dk kX1_piles_ok 9 rfl) ?_
        refine b_if_eq (tgt := 21) hx hb (dk kX1_piles_ok 10 rfl) (by decide) (fun h2 => ?_) (fun h2 => ?_)
        · skip
          refine lv_iinc (v := nI (i + 1)) (lv' := [(2, .int (nI (i + 1))), (0, .ref (ad k)), (1, .int (nI (cnt (bot c b) i)))]) hx hb (dk kX1_piles_ok 12 rfl) hl (k := 2) rfl (n_inc _) (by decide) rfl (fun ls hl => ?_)
          refine lv_goto (tgt := 4) hx hb (dk kX1_piles_ok 13 rfl) (by decide) ?_
          exact ih4 (i + 1) _ (by simp [cnt, h1, h2]) (by omega) (by omega) ls (lv_sub hl [1, 2, 0] rfl)
        · skip
          refine lv_iinc (v := nI ((cnt (bot c b) i) + 1)) (lv' := [(1, .int (nI ((cnt (bot c b) i) + 1))), (0, .ref (ad k)), (2, .int (nI i))]) hx hb (dk kX1_piles_ok 11 rfl) hl (k := 1) rfl (n_inc _) (by decide) rfl (fun ls hl => ?_)
          refine lv_iinc (v := nI (i + 1)) (lv' := [(2, .int (nI (i + 1))), (1, .int (nI ((cnt (bot c b) i) + 1))), (0, .ref (ad k))]) hx hb (dk kX1_piles_ok 12 rfl) hl (k := 2) rfl (n_inc _) (by decide) rfl (fun ls hl => ?_)
          refine lv_goto (tgt := 4) hx hb (dk kX1_piles_ok 13 rfl) (by decide) ?_
          exact ih4 (i + 1) _ (by simp [cnt, h1, h2]) (by omega) (by omega) ls (lv_sub hl [2, 1, 0] rfl)
  exact L4 _ 0 _ (by first | rfl | omega) (by first | rfl | omega) (Nat.lt_succ_self _) ls (lv_sub hl [2, 1, 0] rfl)
set_option maxRecDepth 100000 in
set_option maxHeartbeats 4000000 in
theorem tX1_highest (l : Launch) (D : va_G) (cI cQ cL : ClassId) (ad : Nat → Nat) (N : Nat) (F : Nat → va_E) (k : Nat) (hk : k + 3 < N) (c b v : Nat → Int32) (hM : matAt cI ad F k c b v) : MR l yX1_highest (Cond.code yX1_highest cX1_highest 3 (some .int) :: AW) ({ frames := 1, cells := 0, slots := 0, locals := 23 } : Room) D cI cQ cL ad N F [.ref (ad k)] (.int (mxi (bot c b) (fun i => nI (hgt c (c i))) 16)) := by
  refine mr_i (ty := .int) (by decide +kernel) rfl rfl rfl rfl (Nat.le_of_ble_eq_true rfl) (fun p e s m below meth cd Q ls hx hb hml hown hts hP hK hNW hret hl => ?_)
  have hown : s.vm.findClass RX1 = some m.cls := hown
  obtain ⟨f0, f1, f2, f3⟩ := id hM
  have hk0 : k < N := by omega
  have hk1 : k + 1 < N := by omega
  have hk2 : k + 2 < N := by omega
  have hk3 : k + 3 < N := hk
  have hl : lv_has ls 3 [(0, .ref (ad k))] := hl
  refine lv_iconst (v := nI 0) hx hb (dk kX1_highest_ok 0 rfl) rfl ?_
  refine lv_istore_n (lv' := [(1, .int (nI 0)), (0, .ref (ad k))]) hx hb (dk kX1_highest_ok 1 rfl) rfl hl (by decide) rfl (fun ls hl => ?_)
  refine lv_iconst (v := nI 0) hx hb (dk kX1_highest_ok 2 rfl) rfl ?_
  refine lv_istore_n (lv' := [(2, .int (nI 0)), (1, .int (nI 0)), (0, .ref (ad k))]) hx hb (dk kX1_highest_ok 3 rfl) rfl hl (by decide) rfl (fun ls hl => ?_)
  have L4 : ∀ (fu : Nat) (i : Nat) (x1 : Int32), x1 = mxi (bot c b) (fun i => nI (hgt c (c i))) i → i ≤ 16 → 16 - i < fu → ∀ ls : Array Slot, lv_has ls 3 [(0, .ref (ad k)), (1, .int x1), (2, .int (nI i))] → W p l e ({ frames := 1, cells := 0, slots := 0, locals := 23 } : Room) s m ([.ref (ad k)] : List Value).toArray below meth cd s.heap [] 0 0 Q (F0 m 4 ls []) := by
    intro fu
    induction fu with
    | zero => intros; omega
    | succ fu ih4 =>
      intro i x1 ex1 hi hme4 ls hl
      subst ex1
      refine lv_iload_n hx hb (dk kX1_highest_ok 4 rfl) rfl (lv_at hl 2 rfl) ?_
      refine lv_bipush (v := nI 16) hx hb (dk kX1_highest_ok 5 rfl) rfl ?_
      refine n_icmp_ge (tgt := 39) hx hb (by omega) (by decide) (dk kX1_highest_ok 6 rfl) (by decide) (fun h1 => ?_) (fun h1 => ?_)
      · skip
        refine lv_iload_n hx hb (dk kX1_highest_ok 22 rfl) rfl (lv_at hl 1 rfl) ?_
        exact hret _ _ _ (by rw [show i = 16 by omega] <;> rfl) (dk kX1_highest_ok 23 rfl)
      · skip
        refine lv_aload_n hx hb (dk kX1_highest_ok 7 rfl) rfl (lv_at hl 0 rfl) ?_
        refine lv_iload_n hx hb (dk kX1_highest_ok 8 rfl) rfl (lv_at hl 2 rfl) ?_
        refine cvR (As := [.int (nI i)]) (rest := []) ⟨hx, hb, hml, hown, hts⟩ (tX1_isBottom l D cI cQ cL ad N F k hk c b v hM (nI i) i rfl (by omega)) (cwV9 1 hts mcX1_isBottom (ac1 _ (List.mem_of_getElem? (i := 17) rfl)) miX1_isBottom meX1_isBottom mini_RX1 rfl rfl hdX1_isBottom ⟨Nat.le_of_ble_eq_true rfl, Nat.le_of_ble_eq_true rfl⟩) hK hP hNW hk0 f0 rfl rfl hl.1 rfl (Nat.le_of_ble_eq_true rfl) (by decide) (dk kX1_highest_ok 9 rfl) ?_
        refine b_if_eq (tgt := 33) hx hb (dk kX1_highest_ok 10 rfl) (by decide) (fun h2 => ?_) (fun h2 => ?_)
        · skip
          refine lv_iinc (v := nI (i + 1)) (lv' := [(2, .int (nI (i + 1))), (0, .ref (ad k)), (1, .int (mxi (bot c b) (fun i => nI (hgt c (c i))) i))]) hx hb (dk kX1_highest_ok 20 rfl) hl (k := 2) rfl (n_inc _) (by decide) rfl (fun ls hl => ?_)
          refine lv_goto (tgt := 4) hx hb (dk kX1_highest_ok 21 rfl) (by decide) ?_
          exact ih4 (i + 1) _ (by simp [mxi, h1, h2]) (by omega) (by omega) ls (lv_sub hl [1, 2, 0] rfl)
        · skip
          refine lv_iload_n hx hb (dk kX1_highest_ok 11 rfl) rfl (lv_at hl 1 rfl) ?_
          refine lv_aload_n hx hb (dk kX1_highest_ok 12 rfl) rfl (lv_at hl 0 rfl) ?_
          refine lv_aload_n hx hb (dk kX1_highest_ok 13 rfl) rfl (lv_at hl 0 rfl) ?_
          refine gf hx hb hts (fun w h => List.mem_cons_of_mem _ (acX1 w h)) hown hK hP hk0 f0 rfl 0 (by decide) (hts _ (List.mem_cons_of_mem _ (ac0 _ (List.mem_of_getElem? (i := 11) rfl)))) (fun _ h => h) rfl (dk kX1_highest_ok 14 rfl) ?_
          refine lv_iload_n hx hb (dk kX1_highest_ok 15 rfl) rfl (lv_at hl 2 rfl) ?_
          refine ald (j := i) hx hb hK hP hk1 f1 rfl (by omega) (by decide) (dk kX1_highest_ok 16 rfl) ?_
          refine cvR (As := [.int (c i)]) (rest := [.int (mxi (bot c b) (fun i => nI (hgt c (c i))) i)]) ⟨hx, hb, hml, hown, hts⟩ (tX1_heightAt l D cI cQ cL ad N F k hk c b v hM (c i)) (cwV9 1 hts mcX1_heightAt (ac2 _ (List.mem_of_getElem? (i := 1) rfl)) miX1_heightAt meX1_heightAt mini_RX1 rfl rfl hdX1_heightAt ⟨Nat.le_of_ble_eq_true rfl, Nat.le_of_ble_eq_true rfl⟩) hK hP hNW hk0 f0 rfl rfl hl.1 rfl (Nat.le_of_ble_eq_true rfl) (by decide) (dk kX1_highest_ok 17 rfl) ?_
          refine va_mmax hx hb (by rw [hml, hl.1]) hown (hts _ (List.mem_cons_of_mem _ (ac1 _ (List.mem_of_getElem? (i := 21) rfl)))) (hts _ (List.mem_cons_of_mem _ (ac1 _ (List.mem_of_getElem? (i := 22) rfl)))) (hts _ (List.mem_cons_of_mem _ (ac1 _ (List.mem_of_getElem? (i := 23) rfl)))) (hts _ (List.mem_cons_of_mem _ (ac2 _ (List.mem_of_getElem? (i := 0) rfl)))) (Nat.le_of_ble_eq_true rfl) (Nat.le_of_ble_eq_true rfl) (Nat.le_of_ble_eq_true rfl) (Nat.le_of_ble_eq_true rfl) (dk kX1_highest_ok 18 rfl) ?_
          refine lv_istore_n (lv' := [(1, .int (imax (mxi (bot c b) (fun i => nI (hgt c (c i))) i) (nI (hgt c (c i))))), (0, .ref (ad k)), (2, .int (nI i))]) hx hb (dk kX1_highest_ok 19 rfl) rfl hl (by decide) rfl (fun ls hl => ?_)
          refine lv_iinc (v := nI (i + 1)) (lv' := [(2, .int (nI (i + 1))), (1, .int (imax (mxi (bot c b) (fun i => nI (hgt c (c i))) i) (nI (hgt c (c i))))), (0, .ref (ad k))]) hx hb (dk kX1_highest_ok 20 rfl) hl (k := 2) rfl (n_inc _) (by decide) rfl (fun ls hl => ?_)
          refine lv_goto (tgt := 4) hx hb (dk kX1_highest_ok 21 rfl) (by decide) ?_
          exact ih4 (i + 1) _ (by simp [mxi, h1, h2]) (by omega) (by omega) ls (lv_sub hl [2, 1, 0] rfl)
  exact L4 _ 0 _ (by first | rfl | omega) (by first | rfl | omega) (Nat.lt_succ_self _) ls (lv_sub hl [2, 1, 0] rfl)
set_option maxRecDepth 100000 in
set_option maxHeartbeats 4000000 in
theorem tX1_coveredByPiles (l : Launch) (D : va_G) (cI cQ cL : ClassId) (ad : Nat → Nat) (N : Nat) (F : Nat → va_E) (k : Nat) (hk : k + 3 < N) (c b v : Nat → Int32) (hM : matAt cI ad F k c b v) : MR l yX1_coveredByPiles (Cond.code yX1_coveredByPiles cX1_coveredByPiles 3 (some .int) :: AW) ({ frames := 1, cells := 0, slots := 0, locals := 23 } : Room) D cI cQ cL ad N F [.ref (ad k)] (.int (nI (sm (fun i => if bot c b i = true then hgt c (c i) - 1 else 0) 16))) := by
  refine mr_i (ty := .int) (by decide +kernel) rfl rfl rfl rfl (Nat.le_of_ble_eq_true rfl) (fun p e s m below meth cd Q ls hx hb hml hown hts hP hK hNW hret hl => ?_)
  have hown : s.vm.findClass RX1 = some m.cls := hown
  obtain ⟨f0, f1, f2, f3⟩ := id hM
  have hk0 : k < N := by omega
  have hk1 : k + 1 < N := by omega
  have hk2 : k + 2 < N := by omega
  have hk3 : k + 3 < N := hk
  have hl : lv_has ls 3 [(0, .ref (ad k))] := hl
  refine lv_iconst (v := nI 0) hx hb (dk kX1_coveredByPiles_ok 0 rfl) rfl ?_
  refine lv_istore_n (lv' := [(1, .int (nI 0)), (0, .ref (ad k))]) hx hb (dk kX1_coveredByPiles_ok 1 rfl) rfl hl (by decide) rfl (fun ls hl => ?_)
  refine lv_iconst (v := nI 0) hx hb (dk kX1_coveredByPiles_ok 2 rfl) rfl ?_
  refine lv_istore_n (lv' := [(2, .int (nI 0)), (1, .int (nI 0)), (0, .ref (ad k))]) hx hb (dk kX1_coveredByPiles_ok 3 rfl) rfl hl (by decide) rfl (fun ls hl => ?_)
  have L4 : ∀ (fu : Nat) (i : Nat) (x1 : Int32), x1 = nI (sm (fun i => if bot c b i = true then hgt c (c i) - 1 else 0) i) → i ≤ 16 → 16 - i < fu → ∀ ls : Array Slot, lv_has ls 3 [(0, .ref (ad k)), (1, .int x1), (2, .int (nI i))] → W p l e ({ frames := 1, cells := 0, slots := 0, locals := 23 } : Room) s m ([.ref (ad k)] : List Value).toArray below meth cd s.heap [] 0 0 Q (F0 m 4 ls []) := by
    intro fu
    induction fu with
    | zero => intros; omega
    | succ fu ih4 =>
      intro i x1 ex1 hi hme4 ls hl
      subst ex1
      refine lv_iload_n hx hb (dk kX1_coveredByPiles_ok 4 rfl) rfl (lv_at hl 2 rfl) ?_
      refine lv_bipush (v := nI 16) hx hb (dk kX1_coveredByPiles_ok 5 rfl) rfl ?_
      refine n_icmp_ge (tgt := 39) hx hb (by omega) (by decide) (dk kX1_coveredByPiles_ok 6 rfl) (by decide) (fun h1 => ?_) (fun h1 => ?_)
      · skip
        refine lv_iload_n hx hb (dk kX1_coveredByPiles_ok 24 rfl) rfl (lv_at hl 1 rfl) ?_
        exact hret _ _ _ (by rw [show i = 16 by omega] <;> rfl) (dk kX1_coveredByPiles_ok 25 rfl)
      · skip
        refine lv_aload_n hx hb (dk kX1_coveredByPiles_ok 7 rfl) rfl (lv_at hl 0 rfl) ?_
        refine lv_iload_n hx hb (dk kX1_coveredByPiles_ok 8 rfl) rfl (lv_at hl 2 rfl) ?_
        refine cvR (As := [.int (nI i)]) (rest := []) ⟨hx, hb, hml, hown, hts⟩ (tX1_isBottom l D cI cQ cL ad N F k hk c b v hM (nI i) i rfl (by omega)) (cwV9 1 hts mcX1_isBottom (ac1 _ (List.mem_of_getElem? (i := 17) rfl)) miX1_isBottom meX1_isBottom mini_RX1 rfl rfl hdX1_isBottom ⟨Nat.le_of_ble_eq_true rfl, Nat.le_of_ble_eq_true rfl⟩) hK hP hNW hk0 f0 rfl rfl hl.1 rfl (Nat.le_of_ble_eq_true rfl) (by decide) (dk kX1_coveredByPiles_ok 9 rfl) ?_
        refine b_if_eq (tgt := 33) hx hb (dk kX1_coveredByPiles_ok 10 rfl) (by decide) (fun h2 => ?_) (fun h2 => ?_)
        · skip
          refine lv_iinc (v := nI (i + 1)) (lv' := [(2, .int (nI (i + 1))), (0, .ref (ad k)), (1, .int (nI (sm (fun i => if bot c b i = true then hgt c (c i) - 1 else 0) i)))]) hx hb (dk kX1_coveredByPiles_ok 22 rfl) hl (k := 2) rfl (n_inc _) (by decide) rfl (fun ls hl => ?_)
          refine lv_goto (tgt := 4) hx hb (dk kX1_coveredByPiles_ok 23 rfl) (by decide) ?_
          exact ih4 (i + 1) _ (by simp [sm, h1, h2]) (by omega) (by omega) ls (lv_sub hl [1, 2, 0] rfl)
        · skip
          refine lv_iload_n hx hb (dk kX1_coveredByPiles_ok 11 rfl) rfl (lv_at hl 1 rfl) ?_
          refine lv_aload_n hx hb (dk kX1_coveredByPiles_ok 12 rfl) rfl (lv_at hl 0 rfl) ?_
          refine lv_aload_n hx hb (dk kX1_coveredByPiles_ok 13 rfl) rfl (lv_at hl 0 rfl) ?_
          refine gf hx hb hts (fun w h => List.mem_cons_of_mem _ (acX1 w h)) hown hK hP hk0 f0 rfl 0 (by decide) (hts _ (List.mem_cons_of_mem _ (ac0 _ (List.mem_of_getElem? (i := 11) rfl)))) (fun _ h => h) rfl (dk kX1_coveredByPiles_ok 14 rfl) ?_
          refine lv_iload_n hx hb (dk kX1_coveredByPiles_ok 15 rfl) rfl (lv_at hl 2 rfl) ?_
          refine ald (j := i) hx hb hK hP hk1 f1 rfl (by omega) (by decide) (dk kX1_coveredByPiles_ok 16 rfl) ?_
          refine cvR (As := [.int (c i)]) (rest := [.int (nI (sm (fun i => if bot c b i = true then hgt c (c i) - 1 else 0) i))]) ⟨hx, hb, hml, hown, hts⟩ (tX1_heightAt l D cI cQ cL ad N F k hk c b v hM (c i)) (cwV9 1 hts mcX1_heightAt (ac2 _ (List.mem_of_getElem? (i := 1) rfl)) miX1_heightAt meX1_heightAt mini_RX1 rfl rfl hdX1_heightAt ⟨Nat.le_of_ble_eq_true rfl, Nat.le_of_ble_eq_true rfl⟩) hK hP hNW hk0 f0 rfl rfl hl.1 rfl (Nat.le_of_ble_eq_true rfl) (by decide) (dk kX1_coveredByPiles_ok 17 rfl) ?_
          refine lv_iconst (v := nI 1) hx hb (dk kX1_coveredByPiles_ok 18 rfl) rfl ?_
          refine n_isub hx hb (by exact cnt_pos (i := i) (by omega) (by simp)) (dk kX1_coveredByPiles_ok 19 rfl) ?_
          refine n_iadd hx hb (dk kX1_coveredByPiles_ok 20 rfl) ?_
          refine lv_istore_n (lv' := [(1, .int (nI ((sm (fun i => if bot c b i = true then hgt c (c i) - 1 else 0) i) + ((hgt c (c i)) - 1)))), (0, .ref (ad k)), (2, .int (nI i))]) hx hb (dk kX1_coveredByPiles_ok 21 rfl) rfl hl (by decide) rfl (fun ls hl => ?_)
          refine lv_iinc (v := nI (i + 1)) (lv' := [(2, .int (nI (i + 1))), (1, .int (nI ((sm (fun i => if bot c b i = true then hgt c (c i) - 1 else 0) i) + ((hgt c (c i)) - 1)))), (0, .ref (ad k))]) hx hb (dk kX1_coveredByPiles_ok 22 rfl) hl (k := 2) rfl (n_inc _) (by decide) rfl (fun ls hl => ?_)
          refine lv_goto (tgt := 4) hx hb (dk kX1_coveredByPiles_ok 23 rfl) (by decide) ?_
          exact ih4 (i + 1) _ (by simp [sm, h1, h2]) (by omega) (by omega) ls (lv_sub hl [2, 1, 0] rfl)
  exact L4 _ 0 _ (by first | rfl | omega) (by first | rfl | omega) (Nat.lt_succ_self _) ls (lv_sub hl [2, 1, 0] rfl)
set_option maxRecDepth 100000 in
set_option maxHeartbeats 4000000 in
theorem tX1_coveredOf (l : Launch) (D : va_G) (cI cQ cL : ClassId) (ad : Nat → Nat) (N : Nat) (F : Nat → va_E) (k : Nat) (hk : k + 3 < N) (c b v : Nat → Int32) (hM : matAt cI ad F k c b v) (x : Int32) (w : Nat) (hxw : x = nI w) (hw : w < 4) : MR l yX1_coveredOf (Cond.code yX1_coveredOf cX1_coveredOf 4 (some .int) :: AW) ({ frames := 1, cells := 0, slots := 0, locals := 21 } : Room) D cI cQ cL ad N F [.ref (ad k), .int x] (.int (nI (covc v w))) := by
  refine mr_i (ty := .int) (by decide +kernel) rfl rfl rfl rfl (Nat.le_of_ble_eq_true rfl) (fun p e s m below meth cd Q ls hx hb hml hown hts hP hK hNW hret hl => ?_)
  have hown : s.vm.findClass RX1 = some m.cls := hown
  subst hxw
  obtain ⟨f0, f1, f2, f3⟩ := id hM
  have hk0 : k < N := by omega
  have hk1 : k + 1 < N := by omega
  have hk2 : k + 2 < N := by omega
  have hk3 : k + 3 < N := hk
  have hl : lv_has ls 4 [(0, .ref (ad k)), (1, .int (nI w))] := hl
  refine lv_iconst (v := nI 0) hx hb (dk kX1_coveredOf_ok 0 rfl) rfl ?_
  refine lv_istore_n (lv' := [(2, .int (nI 0)), (0, .ref (ad k)), (1, .int (nI w))]) hx hb (dk kX1_coveredOf_ok 1 rfl) rfl hl (by decide) rfl (fun ls hl => ?_)
  refine lv_iconst (v := nI 0) hx hb (dk kX1_coveredOf_ok 2 rfl) rfl ?_
  refine lv_istore_n (lv' := [(3, .int (nI 0)), (2, .int (nI 0)), (0, .ref (ad k)), (1, .int (nI w))]) hx hb (dk kX1_coveredOf_ok 3 rfl) rfl hl (by decide) rfl (fun ls hl => ?_)
  have L4 : ∀ (fu : Nat) (i : Nat) (x2 : Int32), x2 = nI (cnt (fun i => cov v (4 * w + i)) i) → i ≤ 4 → 4 - i < fu → ∀ ls : Array Slot, lv_has ls 4 [(0, .ref (ad k)), (1, .int (nI w)), (2, .int x2), (3, .int (nI i))] → W p l e ({ frames := 1, cells := 0, slots := 0, locals := 21 } : Room) s m ([.ref (ad k), .int (nI w)] : List Value).toArray below meth cd s.heap [] 0 0 Q (F0 m 4 ls []) := by
    intro fu
    induction fu with
    | zero => intros; omega
    | succ fu ih4 =>
      intro i x2 ex2 hi hme4 ls hl
      subst ex2
      refine lv_iload_n hx hb (dk kX1_coveredOf_ok 4 rfl) rfl (lv_at hl 3 rfl) ?_
      refine lv_iconst (v := nI 4) hx hb (dk kX1_coveredOf_ok 5 rfl) rfl ?_
      refine n_icmp_ge (tgt := 30) hx hb (by omega) (by decide) (dk kX1_coveredOf_ok 6 rfl) (by decide) (fun h1 => ?_) (fun h1 => ?_)
      · skip
        refine lv_iload_n hx hb (dk kX1_coveredOf_ok 18 rfl) rfl (lv_at hl 2 rfl) ?_
        exact hret _ _ _ (by rw [show i = 4 by omega] <;> rfl) (dk kX1_coveredOf_ok 19 rfl)
      · skip
        refine lv_aload_n hx hb (dk kX1_coveredOf_ok 7 rfl) rfl (lv_at hl 0 rfl) ?_
        refine lv_iconst (v := nI 4) hx hb (dk kX1_coveredOf_ok 8 rfl) rfl ?_
        refine lv_iload_n hx hb (dk kX1_coveredOf_ok 9 rfl) rfl (lv_at hl 1 rfl) ?_
        refine n_imul hx hb (dk kX1_coveredOf_ok 10 rfl) ?_
        refine lv_iload_n hx hb (dk kX1_coveredOf_ok 11 rfl) rfl (lv_at hl 3 rfl) ?_
        refine n_iadd hx hb (dk kX1_coveredOf_ok 12 rfl) ?_
        refine cvR (As := [.int (nI ((4 * w) + i))]) (rest := []) ⟨hx, hb, hml, hown, hts⟩ (tX1_isCovered l D cI cQ cL ad N F k hk c b v hM (nI ((4 * w) + i)) ((4 * w) + i) rfl (by omega)) (cwV9 1 hts mcX1_isCovered (ac2 _ (List.mem_of_getElem? (i := 5) rfl)) miX1_isCovered meX1_isCovered mini_RX1 rfl rfl hdX1_isCovered ⟨Nat.le_of_ble_eq_true rfl, Nat.le_of_ble_eq_true rfl⟩) hK hP hNW hk0 f0 rfl rfl hl.1 rfl (Nat.le_of_ble_eq_true rfl) (by decide) (dk kX1_coveredOf_ok 13 rfl) ?_
        refine b_if_eq (tgt := 24) hx hb (dk kX1_coveredOf_ok 14 rfl) (by decide) (fun h2 => ?_) (fun h2 => ?_)
        · skip
          refine lv_iinc (v := nI (i + 1)) (lv' := [(3, .int (nI (i + 1))), (0, .ref (ad k)), (1, .int (nI w)), (2, .int (nI (cnt (fun i => cov v (4 * w + i)) i)))]) hx hb (dk kX1_coveredOf_ok 16 rfl) hl (k := 3) rfl (n_inc _) (by decide) rfl (fun ls hl => ?_)
          refine lv_goto (tgt := 4) hx hb (dk kX1_coveredOf_ok 17 rfl) (by decide) ?_
          exact ih4 (i + 1) _ (by simp [cnt, h1, h2]) (by omega) (by omega) ls (lv_sub hl [1, 2, 3, 0] rfl)
        · skip
          refine lv_iinc (v := nI ((cnt (fun i => cov v (4 * w + i)) i) + 1)) (lv' := [(2, .int (nI ((cnt (fun i => cov v (4 * w + i)) i) + 1))), (0, .ref (ad k)), (1, .int (nI w)), (3, .int (nI i))]) hx hb (dk kX1_coveredOf_ok 15 rfl) hl (k := 2) rfl (n_inc _) (by decide) rfl (fun ls hl => ?_)
          refine lv_iinc (v := nI (i + 1)) (lv' := [(3, .int (nI (i + 1))), (2, .int (nI ((cnt (fun i => cov v (4 * w + i)) i) + 1))), (0, .ref (ad k)), (1, .int (nI w))]) hx hb (dk kX1_coveredOf_ok 16 rfl) hl (k := 3) rfl (n_inc _) (by decide) rfl (fun ls hl => ?_)
          refine lv_goto (tgt := 4) hx hb (dk kX1_coveredOf_ok 17 rfl) (by decide) ?_
          exact ih4 (i + 1) _ (by simp [cnt, h1, h2]) (by omega) (by omega) ls (lv_sub hl [2, 3, 1, 0] rfl)
  exact L4 _ 0 _ (by first | rfl | omega) (by first | rfl | omega) (Nat.lt_succ_self _) ls (lv_sub hl [2, 3, 1, 0] rfl)
set_option maxRecDepth 100000 in
set_option maxHeartbeats 4000000 in
theorem tX1_coveredOfTeam (l : Launch) (D : va_G) (cI cQ cL : ClassId) (ad : Nat → Nat) (N : Nat) (F : Nat → va_E) (k : Nat) (hk : k + 3 < N) (c b v : Nat → Int32) (hM : matAt cI ad F k c b v) (x : Int32) (w : Nat) (hxw : x = nI w) (hw : w < 2) : MR l yX1_coveredOfTeam (Cond.code yX1_coveredOfTeam cX1_coveredOfTeam 2 (some .int) :: AW) ({ frames := 2, cells := 0, slots := 0, locals := 44 } : Room) D cI cQ cL ad N F [.ref (ad k), .int x] (.int (nI (covc v w + covc v (w + 2)))) := by
  refine mr_i (ty := .int) (by decide +kernel) rfl rfl rfl rfl (Nat.le_of_ble_eq_true rfl) (fun p e s m below meth cd Q ls hx hb hml hown hts hP hK hNW hret hl => ?_)
  have hown : s.vm.findClass RX1 = some m.cls := hown
  subst hxw
  obtain ⟨f0, f1, f2, f3⟩ := id hM
  have hk0 : k < N := by omega
  have hk1 : k + 1 < N := by omega
  have hk2 : k + 2 < N := by omega
  have hk3 : k + 3 < N := hk
  have hl : lv_has ls 2 [(0, .ref (ad k)), (1, .int (nI w))] := hl
  refine lv_aload_n hx hb (dk kX1_coveredOfTeam_ok 0 rfl) rfl (lv_at hl 0 rfl) ?_
  refine lv_iload_n hx hb (dk kX1_coveredOfTeam_ok 1 rfl) rfl (lv_at hl 1 rfl) ?_
  refine cvR (As := [.int (nI w)]) (rest := []) ⟨hx, hb, hml, hown, hts⟩ (tX1_coveredOf l D cI cQ cL ad N F k hk c b v hM (nI w) w rfl (by omega)) (cwV9 1 hts mcX1_coveredOf (ac2 _ (List.mem_of_getElem? (i := 9) rfl)) miX1_coveredOf meX1_coveredOf mini_RX1 rfl rfl hdX1_coveredOf ⟨Nat.le_of_ble_eq_true rfl, Nat.le_of_ble_eq_true rfl⟩) hK hP hNW hk0 f0 rfl rfl hl.1 rfl (Nat.le_of_ble_eq_true rfl) (by decide) (dk kX1_coveredOfTeam_ok 2 rfl) ?_
  refine lv_aload_n hx hb (dk kX1_coveredOfTeam_ok 3 rfl) rfl (lv_at hl 0 rfl) ?_
  refine lv_iload_n hx hb (dk kX1_coveredOfTeam_ok 4 rfl) rfl (lv_at hl 1 rfl) ?_
  refine lv_iconst (v := nI 2) hx hb (dk kX1_coveredOfTeam_ok 5 rfl) rfl ?_
  refine n_iadd hx hb (dk kX1_coveredOfTeam_ok 6 rfl) ?_
  refine cvR (As := [.int (nI (w + 2))]) (rest := [.int (nI (covc v w))]) ⟨hx, hb, hml, hown, hts⟩ (tX1_coveredOf l D cI cQ cL ad N F k hk c b v hM (nI (w + 2)) (w + 2) rfl (by omega)) (cwV9 1 hts mcX1_coveredOf (ac2 _ (List.mem_of_getElem? (i := 9) rfl)) miX1_coveredOf meX1_coveredOf mini_RX1 rfl rfl hdX1_coveredOf ⟨Nat.le_of_ble_eq_true rfl, Nat.le_of_ble_eq_true rfl⟩) hK hP hNW hk0 f0 rfl rfl hl.1 rfl (Nat.le_of_ble_eq_true rfl) (by decide) (dk kX1_coveredOfTeam_ok 7 rfl) ?_
  refine n_iadd hx hb (dk kX1_coveredOfTeam_ok 8 rfl) ?_
  exact hret _ _ _ (by rfl) (dk kX1_coveredOfTeam_ok 9 rfl)
set_option maxRecDepth 100000 in
set_option maxHeartbeats 4000000 in
theorem tX1_coveredByWinks (l : Launch) (D : va_G) (cI cQ cL : ClassId) (ad : Nat → Nat) (N : Nat) (F : Nat → va_E) (k : Nat) (hk : k + 3 < N) (c b v : Nat → Int32) (hM : matAt cI ad F k c b v) : MR l yX1_coveredByWinks (Cond.code yX1_coveredByWinks cX1_coveredByWinks 1 (some .int) :: AW) ({ frames := 3, cells := 0, slots := 0, locals := 65 } : Room) D cI cQ cL ad N F [.ref (ad k)] (.int (nI ((covc v 0 + covc v (0 + 2)) + (covc v 1 + covc v (1 + 2))))) := by
  refine mr_i (ty := .int) (by decide +kernel) rfl rfl rfl rfl (Nat.le_of_ble_eq_true rfl) (fun p e s m below meth cd Q ls hx hb hml hown hts hP hK hNW hret hl => ?_)
  have hown : s.vm.findClass RX1 = some m.cls := hown
  obtain ⟨f0, f1, f2, f3⟩ := id hM
  have hk0 : k < N := by omega
  have hk1 : k + 1 < N := by omega
  have hk2 : k + 2 < N := by omega
  have hk3 : k + 3 < N := hk
  have hl : lv_has ls 1 [(0, .ref (ad k))] := hl
  refine lv_aload_n hx hb (dk kX1_coveredByWinks_ok 0 rfl) rfl (lv_at hl 0 rfl) ?_
  refine lv_iconst (v := nI 0) hx hb (dk kX1_coveredByWinks_ok 1 rfl) rfl ?_
  refine cvR (As := [.int (nI 0)]) (rest := []) ⟨hx, hb, hml, hown, hts⟩ (tX1_coveredOfTeam l D cI cQ cL ad N F k hk c b v hM (nI 0) 0 rfl (by omega)) (cwV9 1 hts mcX1_coveredOfTeam (ac2 _ (List.mem_of_getElem? (i := 13) rfl)) miX1_coveredOfTeam meX1_coveredOfTeam mini_RX1 rfl rfl hdX1_coveredOfTeam ⟨Nat.le_of_ble_eq_true rfl, Nat.le_of_ble_eq_true rfl⟩) hK hP hNW hk0 f0 rfl rfl hl.1 rfl (Nat.le_of_ble_eq_true rfl) (by decide) (dk kX1_coveredByWinks_ok 2 rfl) ?_
  refine lv_aload_n hx hb (dk kX1_coveredByWinks_ok 3 rfl) rfl (lv_at hl 0 rfl) ?_
  refine lv_iconst (v := nI 1) hx hb (dk kX1_coveredByWinks_ok 4 rfl) rfl ?_
  refine cvR (As := [.int (nI 1)]) (rest := [.int (nI (covc v 0 + covc v (0 + 2)))]) ⟨hx, hb, hml, hown, hts⟩ (tX1_coveredOfTeam l D cI cQ cL ad N F k hk c b v hM (nI 1) 1 rfl (by omega)) (cwV9 1 hts mcX1_coveredOfTeam (ac2 _ (List.mem_of_getElem? (i := 13) rfl)) miX1_coveredOfTeam meX1_coveredOfTeam mini_RX1 rfl rfl hdX1_coveredOfTeam ⟨Nat.le_of_ble_eq_true rfl, Nat.le_of_ble_eq_true rfl⟩) hK hP hNW hk0 f0 rfl rfl hl.1 rfl (Nat.le_of_ble_eq_true rfl) (by decide) (dk kX1_coveredByWinks_ok 5 rfl) ?_
  refine n_iadd hx hb (dk kX1_coveredByWinks_ok 6 rfl) ?_
  exact hret _ _ _ (by rfl) (dk kX1_coveredByWinks_ok 7 rfl)
set_option maxRecDepth 100000 in
set_option maxHeartbeats 4000000 in
theorem tX1_pottedOf (l : Launch) (D : va_G) (cI cQ cL : ClassId) (ad : Nat → Nat) (N : Nat) (F : Nat → va_E) (k : Nat) (hk : k + 3 < N) (c b v : Nat → Int32) (hM : matAt cI ad F k c b v) (x : Int32) (w : Nat) (hxw : x = nI w) (hw : w < 4) : MR l yX1_pottedOf (Cond.code yX1_pottedOf cX1_pottedOf 4 (some .int) :: AW) ({ frames := 0, cells := 0, slots := 0, locals := 0 } : Room) D cI cQ cL ad N F [.ref (ad k), .int x] (.int (nI (potc c w))) := by
  refine mr_i (ty := .int) (by decide +kernel) rfl rfl rfl rfl (Nat.le_of_ble_eq_true rfl) (fun p e s m below meth cd Q ls hx hb hml hown hts hP hK hNW hret hl => ?_)
  have hown : s.vm.findClass RX1 = some m.cls := hown
  subst hxw
  obtain ⟨f0, f1, f2, f3⟩ := id hM
  have hk0 : k < N := by omega
  have hk1 : k + 1 < N := by omega
  have hk2 : k + 2 < N := by omega
  have hk3 : k + 3 < N := hk
  have hl : lv_has ls 4 [(0, .ref (ad k)), (1, .int (nI w))] := hl
  refine lv_iconst (v := nI 0) hx hb (dk kX1_pottedOf_ok 0 rfl) rfl ?_
  refine lv_istore_n (lv' := [(2, .int (nI 0)), (0, .ref (ad k)), (1, .int (nI w))]) hx hb (dk kX1_pottedOf_ok 1 rfl) rfl hl (by decide) rfl (fun ls hl => ?_)
  refine lv_iconst (v := nI 0) hx hb (dk kX1_pottedOf_ok 2 rfl) rfl ?_
  refine lv_istore_n (lv' := [(3, .int (nI 0)), (2, .int (nI 0)), (0, .ref (ad k)), (1, .int (nI w))]) hx hb (dk kX1_pottedOf_ok 3 rfl) rfl hl (by decide) rfl (fun ls hl => ?_)
  have L4 : ∀ (fu : Nat) (i : Nat) (x2 : Int32), x2 = nI (cnt (fun i => decide (c (4 * w + i) = -1)) i) → i ≤ 4 → 4 - i < fu → ∀ ls : Array Slot, lv_has ls 4 [(0, .ref (ad k)), (1, .int (nI w)), (2, .int x2), (3, .int (nI i))] → W p l e ({ frames := 0, cells := 0, slots := 0, locals := 0 } : Room) s m ([.ref (ad k), .int (nI w)] : List Value).toArray below meth cd s.heap [] 0 0 Q (F0 m 4 ls []) := by
    intro fu
    induction fu with
    | zero => intros; omega
    | succ fu ih4 =>
      intro i x2 ex2 hi hme4 ls hl
      subst ex2
      refine lv_iload_n hx hb (dk kX1_pottedOf_ok 4 rfl) rfl (lv_at hl 3 rfl) ?_
      refine lv_iconst (v := nI 4) hx hb (dk kX1_pottedOf_ok 5 rfl) rfl ?_
      refine n_icmp_ge (tgt := 32) hx hb (by omega) (by decide) (dk kX1_pottedOf_ok 6 rfl) (by decide) (fun h1 => ?_) (fun h1 => ?_)
      · skip
        refine lv_iload_n hx hb (dk kX1_pottedOf_ok 20 rfl) rfl (lv_at hl 2 rfl) ?_
        exact hret _ _ _ (by rw [show i = 4 by omega] <;> rfl) (dk kX1_pottedOf_ok 21 rfl)
      · skip
        refine lv_aload_n hx hb (dk kX1_pottedOf_ok 7 rfl) rfl (lv_at hl 0 rfl) ?_
        refine gf hx hb hts (fun w h => List.mem_cons_of_mem _ (acX1 w h)) hown hK hP hk0 f0 rfl 0 (by decide) (hts _ (List.mem_cons_of_mem _ (ac0 _ (List.mem_of_getElem? (i := 11) rfl)))) (fun _ h => h) rfl (dk kX1_pottedOf_ok 8 rfl) ?_
        refine lv_iconst (v := nI 4) hx hb (dk kX1_pottedOf_ok 9 rfl) rfl ?_
        refine lv_iload_n hx hb (dk kX1_pottedOf_ok 10 rfl) rfl (lv_at hl 1 rfl) ?_
        refine n_imul hx hb (dk kX1_pottedOf_ok 11 rfl) ?_
        refine lv_iload_n hx hb (dk kX1_pottedOf_ok 12 rfl) rfl (lv_at hl 3 rfl) ?_
        refine n_iadd hx hb (dk kX1_pottedOf_ok 13 rfl) ?_
        refine ald (j := ((4 * w) + i)) hx hb hK hP hk1 f1 rfl (by omega) (by decide) (dk kX1_pottedOf_ok 14 rfl) ?_
        refine lv_iconst (v := -1) hx hb (dk kX1_pottedOf_ok 15 rfl) rfl ?_
        refine lv_icmp_ne (tgt := 26) hx hb (dk kX1_pottedOf_ok 16 rfl) (by decide) (fun h2 => ?_) (fun h2 => ?_)
        · skip
          refine lv_iinc (v := nI (i + 1)) (lv' := [(3, .int (nI (i + 1))), (0, .ref (ad k)), (1, .int (nI w)), (2, .int (nI (cnt (fun i => decide (c (4 * w + i) = -1)) i)))]) hx hb (dk kX1_pottedOf_ok 18 rfl) hl (k := 3) rfl (n_inc _) (by decide) rfl (fun ls hl => ?_)
          refine lv_goto (tgt := 4) hx hb (dk kX1_pottedOf_ok 19 rfl) (by decide) ?_
          exact ih4 (i + 1) _ (by simp [cnt, h1, h2]) (by omega) (by omega) ls (lv_sub hl [1, 2, 3, 0] rfl)
        · skip
          refine lv_iinc (v := nI ((cnt (fun i => decide (c (4 * w + i) = -1)) i) + 1)) (lv' := [(2, .int (nI ((cnt (fun i => decide (c (4 * w + i) = -1)) i) + 1))), (0, .ref (ad k)), (1, .int (nI w)), (3, .int (nI i))]) hx hb (dk kX1_pottedOf_ok 17 rfl) hl (k := 2) rfl (n_inc _) (by decide) rfl (fun ls hl => ?_)
          refine lv_iinc (v := nI (i + 1)) (lv' := [(3, .int (nI (i + 1))), (2, .int (nI ((cnt (fun i => decide (c (4 * w + i) = -1)) i) + 1))), (0, .ref (ad k)), (1, .int (nI w))]) hx hb (dk kX1_pottedOf_ok 18 rfl) hl (k := 3) rfl (n_inc _) (by decide) rfl (fun ls hl => ?_)
          refine lv_goto (tgt := 4) hx hb (dk kX1_pottedOf_ok 19 rfl) (by decide) ?_
          exact ih4 (i + 1) _ (by simp [cnt, h1, h2]) (by omega) (by omega) ls (lv_sub hl [2, 3, 1, 0] rfl)
  exact L4 _ 0 _ (by first | rfl | omega) (by first | rfl | omega) (Nat.lt_succ_self _) ls (lv_sub hl [2, 3, 1, 0] rfl)
set_option maxRecDepth 100000 in
set_option maxHeartbeats 4000000 in
theorem tX1_potted (l : Launch) (D : va_G) (cI cQ cL : ClassId) (ad : Nat → Nat) (N : Nat) (F : Nat → va_E) (k : Nat) (hk : k + 3 < N) (c b v : Nat → Int32) (hM : matAt cI ad F k c b v) : MR l yX1_potted (Cond.code yX1_potted cX1_potted 3 (some .int) :: AW) ({ frames := 1, cells := 0, slots := 0, locals := 23 } : Room) D cI cQ cL ad N F [.ref (ad k)] (.int (nI (potn c))) := by
  refine mr_i (ty := .int) (by decide +kernel) rfl rfl rfl rfl (Nat.le_of_ble_eq_true rfl) (fun p e s m below meth cd Q ls hx hb hml hown hts hP hK hNW hret hl => ?_)
  have hown : s.vm.findClass RX1 = some m.cls := hown
  obtain ⟨f0, f1, f2, f3⟩ := id hM
  have hk0 : k < N := by omega
  have hk1 : k + 1 < N := by omega
  have hk2 : k + 2 < N := by omega
  have hk3 : k + 3 < N := hk
  have hl : lv_has ls 3 [(0, .ref (ad k))] := hl
  refine lv_iconst (v := nI 0) hx hb (dk kX1_potted_ok 0 rfl) rfl ?_
  refine lv_istore_n (lv' := [(1, .int (nI 0)), (0, .ref (ad k))]) hx hb (dk kX1_potted_ok 1 rfl) rfl hl (by decide) rfl (fun ls hl => ?_)
  refine lv_iconst (v := nI 0) hx hb (dk kX1_potted_ok 2 rfl) rfl ?_
  refine lv_istore_n (lv' := [(2, .int (nI 0)), (1, .int (nI 0)), (0, .ref (ad k))]) hx hb (dk kX1_potted_ok 3 rfl) rfl hl (by decide) rfl (fun ls hl => ?_)
  have L4 : ∀ (fu : Nat) (i : Nat) (x1 : Int32), x1 = nI (sm (potc c) i) → i ≤ 4 → 4 - i < fu → ∀ ls : Array Slot, lv_has ls 3 [(0, .ref (ad k)), (1, .int x1), (2, .int (nI i))] → W p l e ({ frames := 1, cells := 0, slots := 0, locals := 23 } : Room) s m ([.ref (ad k)] : List Value).toArray below meth cd s.heap [] 0 0 Q (F0 m 4 ls []) := by
    intro fu
    induction fu with
    | zero => intros; omega
    | succ fu ih4 =>
      intro i x1 ex1 hi hme4 ls hl
      subst ex1
      refine lv_iload_n hx hb (dk kX1_potted_ok 4 rfl) rfl (lv_at hl 2 rfl) ?_
      refine lv_iconst (v := nI 4) hx hb (dk kX1_potted_ok 5 rfl) rfl ?_
      refine n_icmp_ge (tgt := 23) hx hb (by omega) (by decide) (dk kX1_potted_ok 6 rfl) (by decide) (fun h1 => ?_) (fun h1 => ?_)
      · skip
        refine lv_iload_n hx hb (dk kX1_potted_ok 15 rfl) rfl (lv_at hl 1 rfl) ?_
        exact hret _ _ _ (by rw [show i = 4 by omega] <;> rfl) (dk kX1_potted_ok 16 rfl)
      · skip
        refine lv_iload_n hx hb (dk kX1_potted_ok 7 rfl) rfl (lv_at hl 1 rfl) ?_
        refine lv_aload_n hx hb (dk kX1_potted_ok 8 rfl) rfl (lv_at hl 0 rfl) ?_
        refine lv_iload_n hx hb (dk kX1_potted_ok 9 rfl) rfl (lv_at hl 2 rfl) ?_
        refine cvR (As := [.int (nI i)]) (rest := [.int (nI (sm (potc c) i))]) ⟨hx, hb, hml, hown, hts⟩ (tX1_pottedOf l D cI cQ cL ad N F k hk c b v hM (nI i) i rfl (by omega)) (cwV9 1 hts mcX1_pottedOf (ac2 _ (List.mem_of_getElem? (i := 17) rfl)) miX1_pottedOf meX1_pottedOf mini_RX1 rfl rfl hdX1_pottedOf ⟨Nat.le_of_ble_eq_true rfl, Nat.le_of_ble_eq_true rfl⟩) hK hP hNW hk0 f0 rfl rfl hl.1 rfl (Nat.le_of_ble_eq_true rfl) (by decide) (dk kX1_potted_ok 10 rfl) ?_
        refine n_iadd hx hb (dk kX1_potted_ok 11 rfl) ?_
        refine lv_istore_n (lv' := [(1, .int (nI ((sm (potc c) i) + (potc c i)))), (0, .ref (ad k)), (2, .int (nI i))]) hx hb (dk kX1_potted_ok 12 rfl) rfl hl (by decide) rfl (fun ls hl => ?_)
        refine lv_iinc (v := nI (i + 1)) (lv' := [(2, .int (nI (i + 1))), (1, .int (nI ((sm (potc c) i) + (potc c i)))), (0, .ref (ad k))]) hx hb (dk kX1_potted_ok 13 rfl) hl (k := 2) rfl (n_inc _) (by decide) rfl (fun ls hl => ?_)
        refine lv_goto (tgt := 4) hx hb (dk kX1_potted_ok 14 rfl) (by decide) ?_
        exact ih4 (i + 1) _ (by rfl) (by omega) (by omega) ls (lv_sub hl [2, 1, 0] rfl)
  exact L4 _ 0 _ (by first | rfl | omega) (by first | rfl | omega) (Nat.lt_succ_self _) ls (lv_sub hl [2, 1, 0] rfl)
set_option maxRecDepth 100000 in
set_option maxHeartbeats 4000000 in
theorem tX1_isAllPotted (l : Launch) (D : va_G) (cI cQ cL : ClassId) (ad : Nat → Nat) (N : Nat) (F : Nat → va_E) (k : Nat) (hk : k + 3 < N) (c b v : Nat → Int32) (hM : matAt cI ad F k c b v) (x : Int32) (w : Nat) (hxw : x = nI w) (hw : w < 4) : MR l yX1_isAllPotted (Cond.code yX1_isAllPotted cX1_isAllPotted 2 (some .boolean) :: AW) ({ frames := 1, cells := 0, slots := 0, locals := 23 } : Room) D cI cQ cL ad N F [.ref (ad k), .int x] (.int (bI (decide (potc c w = 4)))) := by
  refine mr_i (ty := .boolean) (by decide +kernel) rfl rfl rfl (bI_nar _) (Nat.le_of_ble_eq_true rfl) (fun p e s m below meth cd Q ls hx hb hml hown hts hP hK hNW hret hl => ?_)
  have hown : s.vm.findClass RX1 = some m.cls := hown
  subst hxw
  obtain ⟨f0, f1, f2, f3⟩ := id hM
  have hk0 : k < N := by omega
  have hk1 : k + 1 < N := by omega
  have hk2 : k + 2 < N := by omega
  have hk3 : k + 3 < N := hk
  have hl : lv_has ls 2 [(0, .ref (ad k)), (1, .int (nI w))] := hl
  refine lv_aload_n hx hb (dk kX1_isAllPotted_ok 0 rfl) rfl (lv_at hl 0 rfl) ?_
  refine lv_iload_n hx hb (dk kX1_isAllPotted_ok 1 rfl) rfl (lv_at hl 1 rfl) ?_
  refine cvR (As := [.int (nI w)]) (rest := []) ⟨hx, hb, hml, hown, hts⟩ (tX1_pottedOf l D cI cQ cL ad N F k hk c b v hM (nI w) w rfl (by omega)) (cwV9 1 hts mcX1_pottedOf (ac2 _ (List.mem_of_getElem? (i := 17) rfl)) miX1_pottedOf meX1_pottedOf mini_RX1 rfl rfl hdX1_pottedOf ⟨Nat.le_of_ble_eq_true rfl, Nat.le_of_ble_eq_true rfl⟩) hK hP hNW hk0 f0 rfl rfl hl.1 rfl (Nat.le_of_ble_eq_true rfl) (by decide) (dk kX1_isAllPotted_ok 2 rfl) ?_
  refine lv_iconst (v := nI 4) hx hb (dk kX1_isAllPotted_ok 3 rfl) rfl ?_
  refine n_icmp_ne (tgt := 13) hx hb (by have := potc_le c w; omega) (by decide) (dk kX1_isAllPotted_ok 4 rfl) (by decide) (fun h1 => ?_) (fun h1 => ?_)
  · skip
    refine lv_iconst (v := nI 0) hx hb (dk kX1_isAllPotted_ok 7 rfl) rfl ?_
    exact hret _ _ _ (by simp only [(eq_false h1), decide_true, decide_false]; rfl) (dk kX1_isAllPotted_ok 8 rfl)
  · skip
    refine lv_iconst (v := nI 1) hx hb (dk kX1_isAllPotted_ok 5 rfl) rfl ?_
    refine lv_goto (tgt := 14) hx hb (dk kX1_isAllPotted_ok 6 rfl) (by decide) ?_
    exact hret _ _ _ (by simp only [(eq_true h1), decide_true, decide_false]; rfl) (dk kX1_isAllPotted_ok 8 rfl)
set_option maxRecDepth 100000 in
set_option maxHeartbeats 4000000 in
theorem tX1_isOver (l : Launch) (D : va_G) (cI cQ cL : ClassId) (ad : Nat → Nat) (N : Nat) (F : Nat → va_E) (k : Nat) (hk : k + 3 < N) (c b v : Nat → Int32) (hM : matAt cI ad F k c b v) : MR l yX1_isOver (Cond.code yX1_isOver cX1_isOver 2 (some .boolean) :: AW) ({ frames := 2, cells := 0, slots := 0, locals := 44 } : Room) D cI cQ cL ad N F [.ref (ad k)] (.int (bI (over c))) := by
  refine mr_i (ty := .boolean) (by decide +kernel) rfl rfl rfl (bI_nar _) (Nat.le_of_ble_eq_true rfl) (fun p e s m below meth cd Q ls hx hb hml hown hts hP hK hNW hret hl => ?_)
  have hown : s.vm.findClass RX1 = some m.cls := hown
  obtain ⟨f0, f1, f2, f3⟩ := id hM
  have hk0 : k < N := by omega
  have hk1 : k + 1 < N := by omega
  have hk2 : k + 2 < N := by omega
  have hk3 : k + 3 < N := hk
  have hl : lv_has ls 2 [(0, .ref (ad k))] := hl
  refine lv_iconst (v := nI 0) hx hb (dk kX1_isOver_ok 0 rfl) rfl ?_
  refine lv_istore_n (lv' := [(1, .int (nI 0)), (0, .ref (ad k))]) hx hb (dk kX1_isOver_ok 1 rfl) rfl hl (by decide) rfl (fun ls hl => ?_)
  have L2 : ∀ (fu : Nat) (i : Nat), i ≤ 4 → over c = anyl (fun k => decide (potc c k = 4)) (4 - i) i → 4 - i < fu → ∀ ls : Array Slot, lv_has ls 2 [(0, .ref (ad k)), (1, .int (nI i))] → W p l e ({ frames := 2, cells := 0, slots := 0, locals := 44 } : Room) s m ([.ref (ad k)] : List Value).toArray below meth cd s.heap [] 0 0 Q (F0 m 2 ls []) := by
    intro fu
    induction fu with
    | zero => intros; omega
    | succ fu ih2 =>
      intro i hi hr hme2 ls hl
      refine lv_iload_n hx hb (dk kX1_isOver_ok 2 rfl) rfl (lv_at hl 1 rfl) ?_
      refine lv_iconst (v := nI 4) hx hb (dk kX1_isOver_ok 3 rfl) rfl ?_
      refine n_icmp_ge (tgt := 23) hx hb (by omega) (by decide) (dk kX1_isOver_ok 4 rfl) (by decide) (fun h1 => ?_) (fun h1 => ?_)
      · skip
        refine lv_iconst (v := nI 0) hx hb (dk kX1_isOver_ok 13 rfl) rfl ?_
        exact hret _ _ _ (by first | (rw [hr, show 4 - i = (4 - (i + 1)) + 1 by omega]; simp only [anyl, (eq_true h1), (eq_false (Nat.not_lt.mpr h1)), decide_true, decide_false, not_true_eq_false, not_false_eq_true, and_true, true_and, and_false, false_and, or_true, true_or, or_false, false_or, and_self, or_self, if_true, if_false, Bool.false_eq_true, reduceIte]; rfl) | (rw [hr, show 4 - i = 0 by omega]; rfl)) (dk kX1_isOver_ok 14 rfl)
      · skip
        refine lv_aload_n hx hb (dk kX1_isOver_ok 5 rfl) rfl (lv_at hl 0 rfl) ?_
        refine lv_iload_n hx hb (dk kX1_isOver_ok 6 rfl) rfl (lv_at hl 1 rfl) ?_
        refine cvR (As := [.int (nI i)]) (rest := []) ⟨hx, hb, hml, hown, hts⟩ (tX1_isAllPotted l D cI cQ cL ad N F k hk c b v hM (nI i) i rfl (by omega)) (cwV9 1 hts mcX1_isAllPotted (ac2 _ (List.mem_of_getElem? (i := 21) rfl)) miX1_isAllPotted meX1_isAllPotted mini_RX1 rfl rfl hdX1_isAllPotted ⟨Nat.le_of_ble_eq_true rfl, Nat.le_of_ble_eq_true rfl⟩) hK hP hNW hk0 f0 rfl rfl hl.1 rfl (Nat.le_of_ble_eq_true rfl) (by decide) (dk kX1_isOver_ok 7 rfl) ?_
        refine b_if_eq (tgt := 17) hx hb (dk kX1_isOver_ok 8 rfl) (by decide) (fun h2 => ?_) (fun h2 => ?_)
        · replace h2 := of_decide_eq_false h2
          refine lv_iinc (v := nI (i + 1)) (lv' := [(1, .int (nI (i + 1))), (0, .ref (ad k))]) hx hb (dk kX1_isOver_ok 11 rfl) hl (k := 1) rfl (n_inc _) (by decide) rfl (fun ls hl => ?_)
          refine lv_goto (tgt := 2) hx hb (dk kX1_isOver_ok 12 rfl) (by decide) ?_
          exact ih2 (i + 1) (by omega) (by rw [hr, show 4 - i = (4 - (i + 1)) + 1 by omega]; simp only [anyl, (eq_true h1), (eq_false (Nat.not_le.mpr h1)), (eq_false h2), decide_true, decide_false, not_true_eq_false, not_false_eq_true, and_true, true_and, and_false, false_and, or_true, true_or, or_false, false_or, and_self, or_self, if_true, if_false, Bool.false_eq_true, reduceIte]) (by omega) ls (lv_sub hl [1, 0] rfl)
        · replace h2 := of_decide_eq_true h2
          refine lv_iconst (v := nI 1) hx hb (dk kX1_isOver_ok 9 rfl) rfl ?_
          exact hret _ _ _ (by first | (rw [hr, show 4 - i = (4 - (i + 1)) + 1 by omega]; simp only [anyl, (eq_true h1), (eq_false (Nat.not_le.mpr h1)), (eq_true h2), decide_true, decide_false, not_true_eq_false, not_false_eq_true, and_true, true_and, and_false, false_and, or_true, true_or, or_false, false_or, and_self, or_self, if_true, if_false, Bool.false_eq_true, reduceIte]; rfl) | (rw [hr, show 4 - i = 0 by omega]; rfl)) (dk kX1_isOver_ok 10 rfl)
  exact L2 _ 0 (by first | rfl | omega) (by first | rfl | omega) (Nat.lt_succ_self _) ls (lv_sub hl [1, 0] rfl)
set_option maxRecDepth 100000 in
set_option maxHeartbeats 4000000 in
theorem tX1_pointsOf (l : Launch) (D : va_G) (cI cQ cL : ClassId) (ad : Nat → Nat) (N : Nat) (F : Nat → va_E) (k : Nat) (hk : k + 3 < N) (c b v : Nat → Int32) (hM : matAt cI ad F k c b v) (x : Int32) (w : Nat) (hxw : x = nI w) (hw : w < 4) : MR l yX1_pointsOf (Cond.code yX1_pointsOf cX1_pointsOf 6 (some .int) :: AW) ({ frames := 2, cells := 0, slots := 0, locals := 41 } : Room) D cI cQ cL ad N F [.ref (ad k), .int x] (.int (nI (ptc c v w))) := by
  refine mr_i (ty := .int) (by decide +kernel) rfl rfl rfl rfl (Nat.le_of_ble_eq_true rfl) (fun p e s m below meth cd Q ls hx hb hml hown hts hP hK hNW hret hl => ?_)
  have hown : s.vm.findClass RX1 = some m.cls := hown
  subst hxw
  obtain ⟨f0, f1, f2, f3⟩ := id hM
  have hk0 : k < N := by omega
  have hk1 : k + 1 < N := by omega
  have hk2 : k + 2 < N := by omega
  have hk3 : k + 3 < N := hk
  have hl : lv_has ls 6 [(0, .ref (ad k)), (1, .int (nI w))] := hl
  refine lv_iload_n hx hb (dk kX1_pointsOf_ok 0 rfl) rfl (lv_at hl 1 rfl) ?_
  refine csPN (As := [.int (nI w)]) (rest := []) ⟨hx, hb, hml, hown, hts⟩ (tX5_baseOf l (nI w) w rfl (by omega)) (cwN9 1 hts mcX5_baseOf (nm2 hNW) mini_RX5 rfl rfl hdX5_baseOf ⟨Nat.le_of_ble_eq_true rfl, Nat.le_of_ble_eq_true rfl⟩) (hts _ (List.mem_cons_of_mem _ msX5_baseOf)) rfl hl.1 rfl (Nat.le_of_ble_eq_true rfl) (by decide) (dk kX1_pointsOf_ok 1 rfl) ?_
  refine lv_istore_n (lv' := [(2, .int (nI (bs w))), (0, .ref (ad k)), (1, .int (nI w))]) hx hb (dk kX1_pointsOf_ok 2 rfl) rfl hl (by decide) rfl (fun ls hl => ?_)
  refine lv_iconst (v := nI 0) hx hb (dk kX1_pointsOf_ok 3 rfl) rfl ?_
  refine lv_istore_n (lv' := [(3, .int (nI 0)), (2, .int (nI (bs w))), (0, .ref (ad k)), (1, .int (nI w))]) hx hb (dk kX1_pointsOf_ok 4 rfl) rfl hl (by decide) rfl (fun ls hl => ?_)
  refine lv_iconst (v := nI 0) hx hb (dk kX1_pointsOf_ok 5 rfl) rfl ?_
  refine lv_istore (lv' := [(4, .int (nI 0)), (3, .int (nI 0)), (2, .int (nI (bs w))), (0, .ref (ad k)), (1, .int (nI w))]) hx hb (dk kX1_pointsOf_ok 6 rfl) hl (by decide) rfl (fun ls hl => ?_)
  have L10 : ∀ (fu : Nat) (i : Nat) (x3 : Int32), x3 = nI (sm (ptw c v w) i) → i ≤ 4 → 4 - i < fu → ∀ ls : Array Slot, lv_has ls 6 [(0, .ref (ad k)), (1, .int (nI w)), (2, .int (nI (bs w))), (3, .int x3), (4, .int (nI i))] → W p l e ({ frames := 2, cells := 0, slots := 0, locals := 41 } : Room) s m ([.ref (ad k), .int (nI w)] : List Value).toArray below meth cd s.heap [] 0 0 Q (F0 m 10 ls []) := by
    intro fu
    induction fu with
    | zero => intros; omega
    | succ fu ih10 =>
      intro i x3 ex3 hi hme10 ls hl
      subst ex3
      refine lv_iload hx hb (dk kX1_pointsOf_ok 7 rfl) (lv_at hl 4 rfl) ?_
      refine lv_iconst (v := nI 4) hx hb (dk kX1_pointsOf_ok 8 rfl) rfl ?_
      refine n_icmp_ge (tgt := 68) hx hb (by omega) (by decide) (dk kX1_pointsOf_ok 9 rfl) (by decide) (fun h1 => ?_) (fun h1 => ?_)
      · skip
        refine lv_iload_n hx hb (dk kX1_pointsOf_ok 35 rfl) rfl (lv_at hl 3 rfl) ?_
        exact hret _ _ _ (by rw [show i = 4 by omega] <;> rfl) (dk kX1_pointsOf_ok 36 rfl)
      · skip
        refine lv_iconst (v := nI 4) hx hb (dk kX1_pointsOf_ok 10 rfl) rfl ?_
        refine lv_iload_n hx hb (dk kX1_pointsOf_ok 11 rfl) rfl (lv_at hl 1 rfl) ?_
        refine n_imul hx hb (dk kX1_pointsOf_ok 12 rfl) ?_
        refine lv_iload hx hb (dk kX1_pointsOf_ok 13 rfl) (lv_at hl 4 rfl) ?_
        refine n_iadd hx hb (dk kX1_pointsOf_ok 14 rfl) ?_
        refine lv_istore (lv' := [(5, .int (nI ((4 * w) + i))), (0, .ref (ad k)), (1, .int (nI w)), (2, .int (nI (bs w))), (3, .int (nI (sm (ptw c v w) i))), (4, .int (nI i))]) hx hb (dk kX1_pointsOf_ok 15 rfl) hl (by decide) rfl (fun ls hl => ?_)
        refine lv_aload_n hx hb (dk kX1_pointsOf_ok 16 rfl) rfl (lv_at hl 1 rfl) ?_
        refine lv_iload hx hb (dk kX1_pointsOf_ok 17 rfl) (lv_at hl 0 rfl) ?_
        refine cvR (As := [.int (nI ((4 * w) + i))]) (rest := []) ⟨hx, hb, hml, hown, hts⟩ (tX1_isPotted l D cI cQ cL ad N F k hk c b v hM (nI ((4 * w) + i)) ((4 * w) + i) rfl (by omega)) (cwV9 1 hts mcX1_isPotted (ac1 _ (List.mem_of_getElem? (i := 13) rfl)) miX1_isPotted meX1_isPotted mini_RX1 rfl rfl hdX1_isPotted ⟨Nat.le_of_ble_eq_true rfl, Nat.le_of_ble_eq_true rfl⟩) hK hP hNW hk0 f0 rfl rfl hl.1 rfl (Nat.le_of_ble_eq_true rfl) (by decide) (dk kX1_pointsOf_ok 18 rfl) ?_
        refine b_if_eq (tgt := 39) hx hb (dk kX1_pointsOf_ok 19 rfl) (by decide) (fun h2 => ?_) (fun h2 => ?_)
        · skip
          refine lv_aload_n hx hb (dk kX1_pointsOf_ok 22 rfl) rfl (lv_at hl 1 rfl) ?_
          refine lv_iload hx hb (dk kX1_pointsOf_ok 23 rfl) (lv_at hl 0 rfl) ?_
          refine cvR (As := [.int (nI ((4 * w) + i))]) (rest := []) ⟨hx, hb, hml, hown, hts⟩ (tX1_isCovered l D cI cQ cL ad N F k hk c b v hM (nI ((4 * w) + i)) ((4 * w) + i) rfl (by omega)) (cwV9 1 hts mcX1_isCovered (ac2 _ (List.mem_of_getElem? (i := 5) rfl)) miX1_isCovered meX1_isCovered mini_RX1 rfl rfl hdX1_isCovered ⟨Nat.le_of_ble_eq_true rfl, Nat.le_of_ble_eq_true rfl⟩) hK hP hNW hk0 f0 rfl rfl hl.1 rfl (Nat.le_of_ble_eq_true rfl) (by decide) (dk kX1_pointsOf_ok 24 rfl) ?_
          refine b_if_ne (tgt := 62) hx hb (dk kX1_pointsOf_ok 25 rfl) (by decide) (fun h3 => ?_) (fun h3 => ?_)
          · skip
            refine lv_iinc (v := nI (i + 1)) (lv' := [(4, .int (nI (i + 1))), (5, .int (nI ((4 * w) + i))), (0, .ref (ad k)), (1, .int (nI w)), (2, .int (nI (bs w))), (3, .int (nI (sm (ptw c v w) i)))]) hx hb (dk kX1_pointsOf_ok 33 rfl) hl (k := 5) rfl (n_inc _) (by decide) rfl (fun ls hl => ?_)
            refine lv_goto (tgt := 10) hx hb (dk kX1_pointsOf_ok 34 rfl) (by decide) ?_
            exact ih10 (i + 1) _ (by simp only [pot, decide_eq_true_eq, decide_eq_false_iff_not] at h1 h2 h3; simp only [sm, ptw]; (repeat' split) <;> first | rfl | contradiction | (simp_all; done)) (by omega) (by omega) ls (lv_sub hl [2, 3, 4, 5, 0] rfl)
          · skip
            refine lv_aload_n hx hb (dk kX1_pointsOf_ok 26 rfl) rfl (lv_at hl 1 rfl) ?_
            refine gf hx hb hts (fun w h => List.mem_cons_of_mem _ (acX1 w h)) hown hK hP hk0 f0 rfl 0 (by decide) (hts _ (List.mem_cons_of_mem _ (ac0 _ (List.mem_of_getElem? (i := 11) rfl)))) (fun _ h => h) rfl (dk kX1_pointsOf_ok 27 rfl) ?_
            refine lv_iload hx hb (dk kX1_pointsOf_ok 28 rfl) (lv_at hl 0 rfl) ?_
            refine ald (j := ((4 * w) + i)) hx hb hK hP hk1 f1 rfl (by omega) (by decide) (dk kX1_pointsOf_ok 29 rfl) ?_
            refine lv_iload_n hx hb (dk kX1_pointsOf_ok 30 rfl) rfl (lv_at hl 3 rfl) ?_
            refine lv_icmp_eq (tgt := 62) hx hb (dk kX1_pointsOf_ok 31 rfl) (by decide) (fun h4 => ?_) (fun h4 => ?_)
            · skip
              refine lv_iinc (v := nI (i + 1)) (lv' := [(4, .int (nI (i + 1))), (5, .int (nI ((4 * w) + i))), (0, .ref (ad k)), (1, .int (nI w)), (2, .int (nI (bs w))), (3, .int (nI (sm (ptw c v w) i)))]) hx hb (dk kX1_pointsOf_ok 33 rfl) hl (k := 5) rfl (n_inc _) (by decide) rfl (fun ls hl => ?_)
              refine lv_goto (tgt := 10) hx hb (dk kX1_pointsOf_ok 34 rfl) (by decide) ?_
              exact ih10 (i + 1) _ (by simp only [pot, decide_eq_true_eq, decide_eq_false_iff_not] at h1 h2 h3 h4; simp only [sm, ptw]; (repeat' split) <;> first | rfl | contradiction | (simp_all; done)) (by omega) (by omega) ls (lv_sub hl [2, 3, 4, 5, 0] rfl)
            · skip
              refine lv_iinc (v := nI ((sm (ptw c v w) i) + 1)) (lv' := [(3, .int (nI ((sm (ptw c v w) i) + 1))), (5, .int (nI ((4 * w) + i))), (0, .ref (ad k)), (1, .int (nI w)), (2, .int (nI (bs w))), (4, .int (nI i))]) hx hb (dk kX1_pointsOf_ok 32 rfl) hl (k := 4) rfl (n_inc _) (by decide) rfl (fun ls hl => ?_)
              refine lv_iinc (v := nI (i + 1)) (lv' := [(4, .int (nI (i + 1))), (3, .int (nI ((sm (ptw c v w) i) + 1))), (5, .int (nI ((4 * w) + i))), (0, .ref (ad k)), (1, .int (nI w)), (2, .int (nI (bs w)))]) hx hb (dk kX1_pointsOf_ok 33 rfl) hl (k := 5) rfl (n_inc _) (by decide) rfl (fun ls hl => ?_)
              refine lv_goto (tgt := 10) hx hb (dk kX1_pointsOf_ok 34 rfl) (by decide) ?_
              exact ih10 (i + 1) _ (by simp only [pot, decide_eq_true_eq, decide_eq_false_iff_not] at h1 h2 h3 h4; simp only [sm, ptw]; (repeat' split) <;> first | rfl | contradiction | (simp_all; done)) (by omega) (by omega) ls (lv_sub hl [3, 4, 5, 1, 0] rfl)
        · skip
          refine lv_iinc (v := nI ((sm (ptw c v w) i) + 3)) (lv' := [(3, .int (nI ((sm (ptw c v w) i) + 3))), (5, .int (nI ((4 * w) + i))), (0, .ref (ad k)), (1, .int (nI w)), (2, .int (nI (bs w))), (4, .int (nI i))]) hx hb (dk kX1_pointsOf_ok 20 rfl) hl (k := 4) rfl (by rw [show Int32.ofInt 3 = nI 3 from rfl, nI_add]) (by decide) rfl (fun ls hl => ?_)
          refine lv_goto (tgt := 62) hx hb (dk kX1_pointsOf_ok 21 rfl) (by decide) ?_
          refine lv_iinc (v := nI (i + 1)) (lv' := [(4, .int (nI (i + 1))), (3, .int (nI ((sm (ptw c v w) i) + 3))), (5, .int (nI ((4 * w) + i))), (0, .ref (ad k)), (1, .int (nI w)), (2, .int (nI (bs w)))]) hx hb (dk kX1_pointsOf_ok 33 rfl) hl (k := 5) rfl (n_inc _) (by decide) rfl (fun ls hl => ?_)
          refine lv_goto (tgt := 10) hx hb (dk kX1_pointsOf_ok 34 rfl) (by decide) ?_
          exact ih10 (i + 1) _ (by simp only [pot, decide_eq_true_eq, decide_eq_false_iff_not] at h1 h2; simp only [sm, ptw]; (repeat' split) <;> first | rfl | contradiction | (simp_all; done)) (by omega) (by omega) ls (lv_sub hl [3, 4, 5, 1, 0] rfl)
  exact L10 _ 0 _ (by first | rfl | omega) (by first | rfl | omega) (Nat.lt_succ_self _) ls (lv_sub hl [3, 4, 2, 1, 0] rfl)
set_option maxRecDepth 100000 in
set_option maxHeartbeats 4000000 in
theorem tX1_pointsOfTeam (l : Launch) (D : va_G) (cI cQ cL : ClassId) (ad : Nat → Nat) (N : Nat) (F : Nat → va_E) (k : Nat) (hk : k + 3 < N) (c b v : Nat → Int32) (hM : matAt cI ad F k c b v) (x : Int32) (w : Nat) (hxw : x = nI w) (hw : w < 2) : MR l yX1_pointsOfTeam (Cond.code yX1_pointsOfTeam cX1_pointsOfTeam 2 (some .int) :: AW) ({ frames := 3, cells := 0, slots := 0, locals := 66 } : Room) D cI cQ cL ad N F [.ref (ad k), .int x] (.int (nI (ptt c v w))) := by
  refine mr_i (ty := .int) (by decide +kernel) rfl rfl rfl rfl (Nat.le_of_ble_eq_true rfl) (fun p e s m below meth cd Q ls hx hb hml hown hts hP hK hNW hret hl => ?_)
  have hown : s.vm.findClass RX1 = some m.cls := hown
  subst hxw
  obtain ⟨f0, f1, f2, f3⟩ := id hM
  have hk0 : k < N := by omega
  have hk1 : k + 1 < N := by omega
  have hk2 : k + 2 < N := by omega
  have hk3 : k + 3 < N := hk
  have hl : lv_has ls 2 [(0, .ref (ad k)), (1, .int (nI w))] := hl
  refine lv_aload_n hx hb (dk kX1_pointsOfTeam_ok 0 rfl) rfl (lv_at hl 0 rfl) ?_
  refine lv_iload_n hx hb (dk kX1_pointsOfTeam_ok 1 rfl) rfl (lv_at hl 1 rfl) ?_
  refine cvR (As := [.int (nI w)]) (rest := []) ⟨hx, hb, hml, hown, hts⟩ (tX1_pointsOf l D cI cQ cL ad N F k hk c b v hM (nI w) w rfl (by omega)) (cwV9 1 hts mcX1_pointsOf (ac3 _ (List.mem_of_getElem? (i := 1) rfl)) miX1_pointsOf meX1_pointsOf mini_RX1 rfl rfl hdX1_pointsOf ⟨Nat.le_of_ble_eq_true rfl, Nat.le_of_ble_eq_true rfl⟩) hK hP hNW hk0 f0 rfl rfl hl.1 rfl (Nat.le_of_ble_eq_true rfl) (by decide) (dk kX1_pointsOfTeam_ok 2 rfl) ?_
  refine lv_aload_n hx hb (dk kX1_pointsOfTeam_ok 3 rfl) rfl (lv_at hl 0 rfl) ?_
  refine lv_iload_n hx hb (dk kX1_pointsOfTeam_ok 4 rfl) rfl (lv_at hl 1 rfl) ?_
  refine lv_iconst (v := nI 2) hx hb (dk kX1_pointsOfTeam_ok 5 rfl) rfl ?_
  refine n_iadd hx hb (dk kX1_pointsOfTeam_ok 6 rfl) ?_
  refine cvR (As := [.int (nI (w + 2))]) (rest := [.int (nI (ptc c v w))]) ⟨hx, hb, hml, hown, hts⟩ (tX1_pointsOf l D cI cQ cL ad N F k hk c b v hM (nI (w + 2)) (w + 2) rfl (by omega)) (cwV9 1 hts mcX1_pointsOf (ac3 _ (List.mem_of_getElem? (i := 1) rfl)) miX1_pointsOf meX1_pointsOf mini_RX1 rfl rfl hdX1_pointsOf ⟨Nat.le_of_ble_eq_true rfl, Nat.le_of_ble_eq_true rfl⟩) hK hP hNW hk0 f0 rfl rfl hl.1 rfl (Nat.le_of_ble_eq_true rfl) (by decide) (dk kX1_pointsOfTeam_ok 7 rfl) ?_
  refine n_iadd hx hb (dk kX1_pointsOfTeam_ok 8 rfl) ?_
  exact hret _ _ _ (by rfl) (dk kX1_pointsOfTeam_ok 9 rfl)
set_option maxRecDepth 100000 in
set_option maxHeartbeats 4000000 in
theorem tX1_leadOf (l : Launch) (D : va_G) (cI cQ cL : ClassId) (ad : Nat → Nat) (N : Nat) (F : Nat → va_E) (k : Nat) (hk : k + 3 < N) (c b v : Nat → Int32) (hM : matAt cI ad F k c b v) (x : Int32) (w : Nat) (hxw : x = nI w) (hw : w < 2) : MR l yX1_leadOf (Cond.code yX1_leadOf cX1_leadOf 2 (some .int) :: AW) ({ frames := 4, cells := 0, slots := 0, locals := 87 } : Room) D cI cQ cL ad N F [.ref (ad k), .int x] (.int (nI (ptt c v w) - nI (ptt c v (1 - w)))) := by
  refine mr_i (ty := .int) (by decide +kernel) rfl rfl rfl rfl (Nat.le_of_ble_eq_true rfl) (fun p e s m below meth cd Q ls hx hb hml hown hts hP hK hNW hret hl => ?_)
  have hown : s.vm.findClass RX1 = some m.cls := hown
  subst hxw
  obtain ⟨f0, f1, f2, f3⟩ := id hM
  have hk0 : k < N := by omega
  have hk1 : k + 1 < N := by omega
  have hk2 : k + 2 < N := by omega
  have hk3 : k + 3 < N := hk
  have hl : lv_has ls 2 [(0, .ref (ad k)), (1, .int (nI w))] := hl
  refine lv_aload_n hx hb (dk kX1_leadOf_ok 0 rfl) rfl (lv_at hl 0 rfl) ?_
  refine lv_iload_n hx hb (dk kX1_leadOf_ok 1 rfl) rfl (lv_at hl 1 rfl) ?_
  refine cvR (As := [.int (nI w)]) (rest := []) ⟨hx, hb, hml, hown, hts⟩ (tX1_pointsOfTeam l D cI cQ cL ad N F k hk c b v hM (nI w) w rfl (by omega)) (cwV9 1 hts mcX1_pointsOfTeam (ac3 _ (List.mem_of_getElem? (i := 5) rfl)) miX1_pointsOfTeam meX1_pointsOfTeam mini_RX1 rfl rfl hdX1_pointsOfTeam ⟨Nat.le_of_ble_eq_true rfl, Nat.le_of_ble_eq_true rfl⟩) hK hP hNW hk0 f0 rfl rfl hl.1 rfl (Nat.le_of_ble_eq_true rfl) (by decide) (dk kX1_leadOf_ok 2 rfl) ?_
  refine lv_aload_n hx hb (dk kX1_leadOf_ok 3 rfl) rfl (lv_at hl 0 rfl) ?_
  refine lv_iconst (v := nI 1) hx hb (dk kX1_leadOf_ok 4 rfl) rfl ?_
  refine lv_iload_n hx hb (dk kX1_leadOf_ok 5 rfl) rfl (lv_at hl 1 rfl) ?_
  refine n_isub hx hb (by omega) (dk kX1_leadOf_ok 6 rfl) ?_
  refine cvR (As := [.int (nI (1 - w))]) (rest := [.int (nI (ptt c v w))]) ⟨hx, hb, hml, hown, hts⟩ (tX1_pointsOfTeam l D cI cQ cL ad N F k hk c b v hM (nI (1 - w)) (1 - w) rfl (by omega)) (cwV9 1 hts mcX1_pointsOfTeam (ac3 _ (List.mem_of_getElem? (i := 5) rfl)) miX1_pointsOfTeam meX1_pointsOfTeam mini_RX1 rfl rfl hdX1_pointsOfTeam ⟨Nat.le_of_ble_eq_true rfl, Nat.le_of_ble_eq_true rfl⟩) hK hP hNW hk0 f0 rfl rfl hl.1 rfl (Nat.le_of_ble_eq_true rfl) (by decide) (dk kX1_leadOf_ok 7 rfl) ?_
  refine lv_isub hx hb (dk kX1_leadOf_ok 8 rfl) ?_
  exact hret _ _ _ (by rfl) (dk kX1_leadOf_ok 9 rfl)
set_option maxRecDepth 100000 in
set_option maxHeartbeats 4000000 in
theorem tX1_liesBelow (l : Launch) (D : va_G) (cI cQ cL : ClassId) (ad : Nat → Nat) (N : Nat) (F : Nat → va_E) (k : Nat) (hk : k + 3 < N) (c b v : Nat → Int32) (hM : matAt cI ad F k c b v) (x : Int32) (w : Nat) (hxw : x = nI w) (hw : w < 16) (y : Int32) (g : Nat) (hyg : y = nI g) (hg : g < 2 ^ 31) : MR l yX1_liesBelow (Cond.code yX1_liesBelow cX1_liesBelow 5 (some .boolean) :: AW) ({ frames := 1, cells := 0, slots := 0, locals := 20 } : Room) D cI cQ cL ad N F [.ref (ad k), .int x, .int y] (.int (bI (lbl v g 16 (v w)))) := by
  refine mr_i (ty := .boolean) (by decide +kernel) rfl rfl rfl (bI_nar _) (Nat.le_of_ble_eq_true rfl) (fun p e s m below meth cd Q ls hx hb hml hown hts hP hK hNW hret hl => ?_)
  have hown : s.vm.findClass RX1 = some m.cls := hown
  subst hxw
  subst hyg
  obtain ⟨f0, f1, f2, f3⟩ := id hM
  have hk0 : k < N := by omega
  have hk1 : k + 1 < N := by omega
  have hk2 : k + 2 < N := by omega
  have hk3 : k + 3 < N := hk
  have hl : lv_has ls 5 [(0, .ref (ad k)), (1, .int (nI w)), (2, .int (nI g))] := hl
  refine lv_aload_n hx hb (dk kX1_liesBelow_ok 0 rfl) rfl (lv_at hl 0 rfl) ?_
  refine gf hx hb hts (fun w h => List.mem_cons_of_mem _ (acX1 w h)) hown hK hP hk0 f0 rfl 2 (by decide) (hts _ (List.mem_cons_of_mem _ (ac0 _ (List.mem_of_getElem? (i := 13) rfl)))) (fun _ h => h) rfl (dk kX1_liesBelow_ok 1 rfl) ?_
  refine lv_iload_n hx hb (dk kX1_liesBelow_ok 2 rfl) rfl (lv_at hl 1 rfl) ?_
  refine ald (j := w) hx hb hK hP hk3 f3 rfl (by omega) (by decide) (dk kX1_liesBelow_ok 3 rfl) ?_
  refine lv_istore_n (lv' := [(3, .int (v w)), (0, .ref (ad k)), (1, .int (nI w)), (2, .int (nI g))]) hx hb (dk kX1_liesBelow_ok 4 rfl) rfl hl (by decide) rfl (fun ls hl => ?_)
  refine lv_iconst (v := nI 0) hx hb (dk kX1_liesBelow_ok 5 rfl) rfl ?_
  refine lv_istore (lv' := [(4, .int (nI 0)), (3, .int (v w)), (0, .ref (ad k)), (1, .int (nI w)), (2, .int (nI g))]) hx hb (dk kX1_liesBelow_ok 6 rfl) hl (by decide) rfl (fun ls hl => ?_)
  have L10 : ∀ (fu : Nat) (i : Nat) (x : Int32), i ≤ 16 → lbl v g 16 (v w) = lbl v g (16 - i) x → 16 - i < fu → ∀ ls : Array Slot, lv_has ls 5 [(0, .ref (ad k)), (1, .int (nI w)), (2, .int (nI g)), (3, .int x), (4, .int (nI i))] → W p l e ({ frames := 1, cells := 0, slots := 0, locals := 20 } : Room) s m ([.ref (ad k), .int (nI w), .int (nI g)] : List Value).toArray below meth cd s.heap [] 0 0 Q (F0 m 10 ls []) := by
    intro fu
    induction fu with
    | zero => intros; omega
    | succ fu ih10 =>
      intro i x hi hr hme10 ls hl
      refine lv_iload hx hb (dk kX1_liesBelow_ok 7 rfl) (lv_at hl 4 rfl) ?_
      refine lv_bipush (v := nI 16) hx hb (dk kX1_liesBelow_ok 8 rfl) rfl ?_
      refine n_icmp_ge (tgt := 47) hx hb (by first | omega | (have := wk_lt h2; omega)) (by decide) (dk kX1_liesBelow_ok 9 rfl) (by decide) (fun h1 => ?_) (fun h1 => ?_)
      · skip
        refine lv_iconst (v := nI 0) hx hb (dk kX1_liesBelow_ok 26 rfl) rfl ?_
        exact hret _ _ _ (by first | (rw [hr, show 16 - i = (16 - (i + 1)) + 1 by omega]; simp [lbl, bI, h1]; done) | (rw [hr, show 16 - i = 0 by omega]; rfl)) (dk kX1_liesBelow_ok 27 rfl)
      · skip
        refine lv_iload_n hx hb (dk kX1_liesBelow_ok 10 rfl) rfl (lv_at hl 3 rfl) ?_
        refine csPN (As := [.int x]) (rest := []) ⟨hx, hb, hml, hown, hts⟩ (tX5_isWink l x) (cwN9 1 hts mcX5_isWink (nm7 hNW) mini_RX5 rfl rfl hdX5_isWink ⟨Nat.le_of_ble_eq_true rfl, Nat.le_of_ble_eq_true rfl⟩) (hts _ (List.mem_cons_of_mem _ msX5_isWink)) rfl hl.1 rfl (Nat.le_of_ble_eq_true rfl) (by decide) (dk kX1_liesBelow_ok 11 rfl) ?_
        refine b_if_eq (tgt := 47) hx hb (dk kX1_liesBelow_ok 12 rfl) (by decide) (fun h2 => ?_) (fun h2 => ?_)
        · skip
          refine lv_iconst (v := nI 0) hx hb (dk kX1_liesBelow_ok 26 rfl) rfl ?_
          exact hret _ _ _ (by first | (rw [hr, show 16 - i = (16 - (i + 1)) + 1 by omega]; simp [lbl, bI, h1, h2]; done) | (rw [hr, show 16 - i = 0 by omega]; rfl)) (dk kX1_liesBelow_ok 27 rfl)
        · skip
          refine lv_iload_n hx hb (dk kX1_liesBelow_ok 13 rfl) rfl (lv_at hl 3 rfl) ?_
          refine csPN (As := [.int x]) (rest := []) ⟨hx, hb, hml, hown, hts⟩ (tX5_colourOf l x (ix x) (wk_eq h2) (by have := wk_lt h2; omega)) (cwN9 1 hts mcX5_colourOf (nm1 hNW) mini_RX5 rfl rfl hdX5_colourOf ⟨Nat.le_of_ble_eq_true rfl, Nat.le_of_ble_eq_true rfl⟩) (hts _ (List.mem_cons_of_mem _ msX5_colourOf)) rfl hl.1 rfl (Nat.le_of_ble_eq_true rfl) (by decide) (dk kX1_liesBelow_ok 14 rfl) ?_
          refine lv_iload_n hx hb (dk kX1_liesBelow_ok 15 rfl) rfl (lv_at hl 2 rfl) ?_
          refine n_icmp_ne (tgt := 34) hx hb (by first | omega | (have := wk_lt h2; omega)) (by first | omega | (have := wk_lt h2; omega)) (dk kX1_liesBelow_ok 16 rfl) (by decide) (fun h3 => ?_) (fun h3 => ?_)
          · skip
            refine lv_aload_n hx hb (dk kX1_liesBelow_ok 19 rfl) rfl (lv_at hl 0 rfl) ?_
            refine gf hx hb hts (fun w h => List.mem_cons_of_mem _ (acX1 w h)) hown hK hP hk0 f0 rfl 2 (by decide) (hts _ (List.mem_cons_of_mem _ (ac0 _ (List.mem_of_getElem? (i := 13) rfl)))) (fun _ h => h) rfl (dk kX1_liesBelow_ok 20 rfl) ?_
            refine lv_iload_n hx hb (dk kX1_liesBelow_ok 21 rfl) rfl (lv_at hl 3 rfl) ?_
            refine ald (j := (ix x)) hx hb hK hP hk3 f3 (wk_eq h2) (wk_lt h2) (by decide) (dk kX1_liesBelow_ok 22 rfl) ?_
            refine lv_istore_n (lv' := [(3, .int (v (ix x))), (0, .ref (ad k)), (1, .int (nI w)), (2, .int (nI g)), (4, .int (nI i))]) hx hb (dk kX1_liesBelow_ok 23 rfl) rfl hl (by decide) rfl (fun ls hl => ?_)
            refine lv_iinc (v := nI (i + 1)) (lv' := [(4, .int (nI (i + 1))), (3, .int (v (ix x))), (0, .ref (ad k)), (1, .int (nI w)), (2, .int (nI g))]) hx hb (dk kX1_liesBelow_ok 24 rfl) hl (k := 4) rfl (n_inc _) (by decide) rfl (fun ls hl => ?_)
            refine lv_goto (tgt := 10) hx hb (dk kX1_liesBelow_ok 25 rfl) (by decide) ?_
            exact ih10 (i + 1) (v (ix x)) (by omega) (by rw [hr, show 16 - i = (16 - (i + 1)) + 1 by omega]; simp [lbl, h1, h2, h3]) (by omega) ls (lv_sub hl [2, 3, 4, 1, 0] rfl)
          · skip
            refine lv_iconst (v := nI 1) hx hb (dk kX1_liesBelow_ok 17 rfl) rfl ?_
            exact hret _ _ _ (by first | (rw [hr, show 16 - i = (16 - (i + 1)) + 1 by omega]; simp [lbl, bI, h1, h2, h3]; done) | (rw [hr, show 16 - i = 0 by omega]; rfl)) (dk kX1_liesBelow_ok 18 rfl)
  exact L10 _ 0 (v w) (by first | omega | rfl) (by first | omega | rfl) (Nat.lt_succ_self _) ls (lv_sub hl [2, 3, 4, 1, 0] rfl)
set_option maxRecDepth 100000 in
set_option maxHeartbeats 4000000 in
theorem tX1_othersBelow (l : Launch) (D : va_G) (cI cQ cL : ClassId) (ad : Nat → Nat) (N : Nat) (F : Nat → va_E) (k : Nat) (hk : k + 3 < N) (c b v : Nat → Int32) (hM : matAt cI ad F k c b v) (x : Int32) (w : Nat) (hxw : x = nI w) (hw : w < 4) : MR l yX1_othersBelow (Cond.code yX1_othersBelow cX1_othersBelow 4 (some .int) :: AW) ({ frames := 2, cells := 0, slots := 0, locals := 44 } : Room) D cI cQ cL ad N F [.ref (ad k), .int x] (.int (nI (cnt (oth v w) 16))) := by
  refine mr_i (ty := .int) (by decide +kernel) rfl rfl rfl rfl (Nat.le_of_ble_eq_true rfl) (fun p e s m below meth cd Q ls hx hb hml hown hts hP hK hNW hret hl => ?_)
  have hown : s.vm.findClass RX1 = some m.cls := hown
  subst hxw
  obtain ⟨f0, f1, f2, f3⟩ := id hM
  have hk0 : k < N := by omega
  have hk1 : k + 1 < N := by omega
  have hk2 : k + 2 < N := by omega
  have hk3 : k + 3 < N := hk
  have hl : lv_has ls 4 [(0, .ref (ad k)), (1, .int (nI w))] := hl
  refine lv_iconst (v := nI 0) hx hb (dk kX1_othersBelow_ok 0 rfl) rfl ?_
  refine lv_istore_n (lv' := [(2, .int (nI 0)), (0, .ref (ad k)), (1, .int (nI w))]) hx hb (dk kX1_othersBelow_ok 1 rfl) rfl hl (by decide) rfl (fun ls hl => ?_)
  refine lv_iconst (v := nI 0) hx hb (dk kX1_othersBelow_ok 2 rfl) rfl ?_
  refine lv_istore_n (lv' := [(3, .int (nI 0)), (2, .int (nI 0)), (0, .ref (ad k)), (1, .int (nI w))]) hx hb (dk kX1_othersBelow_ok 3 rfl) rfl hl (by decide) rfl (fun ls hl => ?_)
  have L4 : ∀ (fu : Nat) (i : Nat) (x2 : Int32), x2 = nI (cnt (oth v w) i) → i ≤ 16 → 16 - i < fu → ∀ ls : Array Slot, lv_has ls 4 [(0, .ref (ad k)), (1, .int (nI w)), (2, .int x2), (3, .int (nI i))] → W p l e ({ frames := 2, cells := 0, slots := 0, locals := 44 } : Room) s m ([.ref (ad k), .int (nI w)] : List Value).toArray below meth cd s.heap [] 0 0 Q (F0 m 4 ls []) := by
    intro fu
    induction fu with
    | zero => intros; omega
    | succ fu ih4 =>
      intro i x2 ex2 hi hme4 ls hl
      subst ex2
      refine lv_iload_n hx hb (dk kX1_othersBelow_ok 4 rfl) rfl (lv_at hl 3 rfl) ?_
      refine lv_bipush (v := nI 16) hx hb (dk kX1_othersBelow_ok 5 rfl) rfl ?_
      refine n_icmp_ge (tgt := 36) hx hb (by omega) (by decide) (dk kX1_othersBelow_ok 6 rfl) (by decide) (fun h1 => ?_) (fun h1 => ?_)
      · skip
        refine lv_iload_n hx hb (dk kX1_othersBelow_ok 19 rfl) rfl (lv_at hl 2 rfl) ?_
        exact hret _ _ _ (by rw [show i = 16 by omega] <;> rfl) (dk kX1_othersBelow_ok 20 rfl)
      · skip
        refine lv_iload_n hx hb (dk kX1_othersBelow_ok 7 rfl) rfl (lv_at hl 3 rfl) ?_
        refine csPN (As := [.int (nI i)]) (rest := []) ⟨hx, hb, hml, hown, hts⟩ (tX5_colourOf l (nI i) i rfl (by omega)) (cwN9 1 hts mcX5_colourOf (nm1 hNW) mini_RX5 rfl rfl hdX5_colourOf ⟨Nat.le_of_ble_eq_true rfl, Nat.le_of_ble_eq_true rfl⟩) (hts _ (List.mem_cons_of_mem _ msX5_colourOf)) rfl hl.1 rfl (Nat.le_of_ble_eq_true rfl) (by decide) (dk kX1_othersBelow_ok 8 rfl) ?_
        refine lv_iload_n hx hb (dk kX1_othersBelow_ok 9 rfl) rfl (lv_at hl 1 rfl) ?_
        refine n_icmp_eq (tgt := 30) hx hb (by omega) (by omega) (dk kX1_othersBelow_ok 10 rfl) (by decide) (fun h2 => ?_) (fun h2 => ?_)
        · skip
          refine lv_iinc (v := nI (i + 1)) (lv' := [(3, .int (nI (i + 1))), (0, .ref (ad k)), (1, .int (nI w)), (2, .int (nI (cnt (oth v w) i)))]) hx hb (dk kX1_othersBelow_ok 17 rfl) hl (k := 3) rfl (n_inc _) (by decide) rfl (fun ls hl => ?_)
          refine lv_goto (tgt := 4) hx hb (dk kX1_othersBelow_ok 18 rfl) (by decide) ?_
          exact ih4 (i + 1) _ (by simp [cnt, h1, h2, oth]) (by omega) (by omega) ls (lv_sub hl [1, 2, 3, 0] rfl)
        · skip
          refine lv_aload_n hx hb (dk kX1_othersBelow_ok 11 rfl) rfl (lv_at hl 0 rfl) ?_
          refine lv_iload_n hx hb (dk kX1_othersBelow_ok 12 rfl) rfl (lv_at hl 3 rfl) ?_
          refine lv_iload_n hx hb (dk kX1_othersBelow_ok 13 rfl) rfl (lv_at hl 1 rfl) ?_
          refine cvR (As := [.int (nI i), .int (nI w)]) (rest := []) ⟨hx, hb, hml, hown, hts⟩ (tX1_liesBelow l D cI cQ cL ad N F k hk c b v hM (nI i) i rfl (by omega) (nI w) w rfl (by omega)) (cwV9 2 hts mcX1_liesBelow (ac3 _ (List.mem_of_getElem? (i := 9) rfl)) miX1_liesBelow meX1_liesBelow mini_RX1 rfl rfl hdX1_liesBelow ⟨Nat.le_of_ble_eq_true rfl, Nat.le_of_ble_eq_true rfl⟩) hK hP hNW hk0 f0 rfl rfl hl.1 rfl (Nat.le_of_ble_eq_true rfl) (by decide) (dk kX1_othersBelow_ok 14 rfl) ?_
          refine b_if_eq (tgt := 30) hx hb (dk kX1_othersBelow_ok 15 rfl) (by decide) (fun h3 => ?_) (fun h3 => ?_)
          · skip
            refine lv_iinc (v := nI (i + 1)) (lv' := [(3, .int (nI (i + 1))), (0, .ref (ad k)), (1, .int (nI w)), (2, .int (nI (cnt (oth v w) i)))]) hx hb (dk kX1_othersBelow_ok 17 rfl) hl (k := 3) rfl (n_inc _) (by decide) rfl (fun ls hl => ?_)
            refine lv_goto (tgt := 4) hx hb (dk kX1_othersBelow_ok 18 rfl) (by decide) ?_
            exact ih4 (i + 1) _ (by simp [cnt, h1, h2, h3, oth]) (by omega) (by omega) ls (lv_sub hl [1, 2, 3, 0] rfl)
          · skip
            refine lv_iinc (v := nI ((cnt (oth v w) i) + 1)) (lv' := [(2, .int (nI ((cnt (oth v w) i) + 1))), (0, .ref (ad k)), (1, .int (nI w)), (3, .int (nI i))]) hx hb (dk kX1_othersBelow_ok 16 rfl) hl (k := 2) rfl (n_inc _) (by decide) rfl (fun ls hl => ?_)
            refine lv_iinc (v := nI (i + 1)) (lv' := [(3, .int (nI (i + 1))), (2, .int (nI ((cnt (oth v w) i) + 1))), (0, .ref (ad k)), (1, .int (nI w))]) hx hb (dk kX1_othersBelow_ok 17 rfl) hl (k := 3) rfl (n_inc _) (by decide) rfl (fun ls hl => ?_)
            refine lv_goto (tgt := 4) hx hb (dk kX1_othersBelow_ok 18 rfl) (by decide) ?_
            exact ih4 (i + 1) _ (by simp [cnt, h1, h2, h3, oth]) (by omega) (by omega) ls (lv_sub hl [2, 3, 1, 0] rfl)
  exact L4 _ 0 _ (by first | rfl | omega) (by first | rfl | omega) (Nat.lt_succ_self _) ls (lv_sub hl [2, 3, 1, 0] rfl)
end
section
/-- a method that writes, in a world: what it answers and leaves -/
def MX (l : Launch) (y : MethodName) (ws : List Cond) (rm : Room) (D : va_G) (cI cQ cL : ClassId) (ad : Nat → Nat) (N : Nat) (F : Nat → va_E) (args : List Value) (post : Option Value → (Nat → va_E) → Prop) (mc ms : Nat) : Prop :=
  ∀ sz : Nat, Met l y ws rm (va_Pc args (fun U => U.heap.size = sz ∧ iD ad N ∧ rW D cI cQ cL ad N F U)) (fun _ st o t => ∃ (v : Option Value) (F' : Nat → va_E), o = .returned v ∧ post v F' ∧ va_P D vwCl (iW ad N F') t.heap ∧ va_F (iA ad N sz) st t) mc ms (iA ad N sz)
/-- one answer, one world -/
def dp (r : Option Value) (G : Nat → va_E) : Option Value → (Nat → va_E) → Prop := fun v F' => v = r ∧ F' = G
theorem MX_blind {D : va_G} {cI cQ cL : ClassId} {ad : Nat → Nat} {N : Nat} {F : Nat → va_E} {args : List Value} {sz : Nat} : FrameBlind (va_Pc args (fun U => U.heap.size = sz ∧ iD ad N ∧ rW D cI cQ cL ad N F U)) :=
  fun a U g mk q => ⟨q.1, q.2.1, q.2.2.1, q.2.2.2.1, va_K.moved (u := U) (U := U.calling g mk a) (Vm.Alike.refl U.vm) q.2.2.2.2.1, NW.same rfl q.2.2.2.2.2⟩
section MXS
variable {l : Launch} {y : MethodName} {ws ws' : List Cond} {rm : Room} {cc : ByteArray} {maxL : Nat} {D : va_G} {cI cQ cL : ClassId} {ad : Nat → Nat} {N : Nat} {F : Nat → va_E} {args : List Value} {post : Option Value → (Nat → va_E) → Prop} {mc ms : Nat}
theorem mx_i {ty : FieldType} (hy : plainName y.cls = true) (hw : ws = Cond.code y cc maxL (some ty) :: ws') (hlen : (lg_sl args).length ≤ maxL)
    (body : ∀ (p : Program) (e : Env) (s : State) (m : MethodId) (below : List Frame) (meth : Method) (c : Code) (Q : State → Prop) (ls : Array Slot),
      p.tables.exec = Jvm.exec → c.code = cc → c.maxLocals = maxL → s.vm.findClass y.cls = some m.cls → (∀ w ∈ ws, w.before args.toArray s = true) → iD ad N → va_P D vwCl (iW ad N F) s.heap → va_K D vwCl (iT cI cQ cL) s → NW s → va_S (iA ad N s.heap.size) s.heap s.heap [] →
      (∀ (pc : Nat) (ls : Array Slot) (v : Int32) (H : Heap) (locs : List Loc) (F' : Nat → va_E) (k n : Nat), narrow ty (.int v) = .int v → post (some (.int v)) F' → va_P D vwCl (iW ad N F') H → va_S (iA ad N s.heap.size) s.heap H locs → k ≤ mc → n ≤ ms → decode cc pc = .ok (.ireturn, 1) → W p l e rm s m args.toArray below meth c H locs k n Q (F0 m pc ls [.int v])) →
      lv_has ls maxL (lv_args 0 args) → W p l e rm s m args.toArray below meth c s.heap [] 0 0 Q (F0 m 0 ls [])) : MX l y ws rm D cI cQ cL ad N F args post mc ms := by
  intro sz
  refine Met.ofW (cc := cc) (maxL := maxL) (ret := some ty) hy hw ?_
  intro p e s m args9 below meth c s₁ B hml hv
  obtain ⟨rfl, hsz, hDi, hP, hK, hNW⟩ := hv
  subst hsz
  have hl := lv_entry args (n := maxL) hlen
  rw [lg_entry_eq]
  exact body p e s m below meth c _ _ B.exec B.bytes hml (findClass_of_methodNamed B.named) (atoms_spec B.pre) hDi hP hK hNW va_S.rf (fun pc ls v H locs F' k n hn hp hP1 hS h1 h2 hd => by
    refine W.widen (k := mc) (n := ms) h1 h2 ?_
    exact W.zret B.exec B.bytes B.returns hn (fun t ht _ => ⟨_, F', rfl, hp, by rw [ht]; exact hP1, hS.F ht⟩) hS.2.2 hd B.notSynchronized) hl
theorem mx_v (hy : plainName y.cls = true) (hw : ws = Cond.code y cc maxL none :: ws') (hlen : (lg_sl args).length ≤ maxL)
    (body : ∀ (p : Program) (e : Env) (s : State) (m : MethodId) (below : List Frame) (meth : Method) (c : Code) (Q : State → Prop) (ls : Array Slot),
      p.tables.exec = Jvm.exec → c.code = cc → c.maxLocals = maxL → s.vm.findClass y.cls = some m.cls → (∀ w ∈ ws, w.before args.toArray s = true) → iD ad N → va_P D vwCl (iW ad N F) s.heap → va_K D vwCl (iT cI cQ cL) s → NW s → va_S (iA ad N s.heap.size) s.heap s.heap [] →
      (∀ (pc : Nat) (ls : Array Slot) (H : Heap) (locs : List Loc) (F' : Nat → va_E) (k n : Nat), post none F' → va_P D vwCl (iW ad N F') H → va_S (iA ad N s.heap.size) s.heap H locs → k ≤ mc → n ≤ ms → decode cc pc = .ok (.return_, 1) → W p l e rm s m args.toArray below meth c H locs k n Q (F0 m pc ls [])) →
      lv_has ls maxL (lv_args 0 args) → W p l e rm s m args.toArray below meth c s.heap [] 0 0 Q (F0 m 0 ls [])) : MX l y ws rm D cI cQ cL ad N F args post mc ms := by
  intro sz
  refine Met.ofW (cc := cc) (maxL := maxL) (ret := none) hy hw ?_
  intro p e s m args9 below meth c s₁ B hml hv
  obtain ⟨rfl, hsz, hDi, hP, hK, hNW⟩ := hv
  subst hsz
  have hl := lv_entry args (n := maxL) hlen
  rw [lg_entry_eq]
  exact body p e s m below meth c _ _ B.exec B.bytes hml (findClass_of_methodNamed B.named) (atoms_spec B.pre) hDi hP hK hNW va_S.rf (fun pc ls H locs F' k n hp hP1 hS h1 h2 hd => by
    refine W.widen (k := mc) (n := ms) h1 h2 ?_
    exact W.vret B.exec B.bytes B.returns (fun t ht _ => ⟨_, F', rfl, hp, by rw [ht]; exact hP1, hS.F ht⟩) hS.2.2 hd B.notSynchronized) hl
end MXS
section WROWS
variable {p : Program} {l : Launch} {e : Env} {R : Room} {s : State} {m : MethodId} {args : Array Value} {below : List Frame} {meth : Method} {c : Code} {H : Heap} {locs : List Loc} {cells slots : Nat} {Q : State → Prop}
variable {cc : ByteArray} {pc : Nat} {ls : Array Slot} {rest st0 : List Value} {D : va_G} {cI cQ cL : ClassId} {ad : Nat → Nat} {N : Nat} {F : Nat → va_E} {Ts : List Cond}
theorem iA_D (h : iD ad N) {F : Nat → va_E} {sz : Nat} : va_D (iA ad N sz) (iW ad N F) := iD_D h (fun k hk => Or.inl ⟨k, hk, rfl⟩)
theorem pf (F' : Nat → va_E) (hx : p.tables.exec = Jvm.exec) (hb : c.code = cc) {own ref C : String} {T : u_T} {n ci index : Nat} (hts : ∀ w ∈ Ts, w.before args s = true) (hin : ∀ w ∈ u_ws C T n, w ∈ Ts) (ty0 : Nat → FieldType) (hty : ∀ k, k < n → parseFieldDescriptor (T k).2.2.1 = some (ty0 k)) (hnm : ∀ a, a < n → ∀ b, b < n → a ≠ b → (T a).2.1 ≠ (T b).2.1) (hown : s.vm.findClass own = some m.cls) (hK : va_K D vwCl (iT cI cQ cL) s) (hDi : iD ad N) (hP : va_P D vwCl (iW ad N F) H) (hS : va_S (iA ad N s.heap.size) s.heap H locs) {k : Nat} (hk : k < N) {fs : List Value} (hF : F k = .inr (ci, fs)) (hc : vwCl[ci]? = some (C, T, n)) (j : Nat) (hj : j < n) (hlink : (Cond.fieldLink own index ref (T j).2.1 (T j).2.2.1).before args s = true) (hsame : ∀ x, s.fieldFound? (T j).1 (T j).2.1 (T j).2.2.1 = some x → s.fieldFound? ref (T j).2.1 (T j).2.2.1 = some x) (hfin : (T j).2.2.2 = false) {ty : FieldType} {v : Value} (hd : parseFieldDescriptor (T j).2.2.1 = some ty) (hn : narrow ty v = v) (hfit : fits ty v = true) (hl : j < fs.length) (hdg : decode cc pc = .ok (.putfield index, 3)) (hcan : va_up F k (.inr (ci, fs.set j v)) = F')
    (kk : ∀ (H1 : Heap) (locs1 : List Loc), va_P D vwCl (iW ad N F') H1 → va_S (iA ad N s.heap.size) s.heap H1 locs1 → W p l e R s m args below meth c H1 locs1 cells slots Q (F0 m (pc + 3) ls rest)) : W p l e R s m args below meth c H locs cells slots Q (F0 m pc ls (v :: .ref (ad k) :: rest)) :=
  va_put hx hb hts hin ty0 hty hnm hown hK hP (iA_D hDi) hS k (iW_at hk hF) hc j hj hlink hsame hfin hd hn hfit hl hdg (fun H1 locs1 hP1 hD1 hS1 => kk H1 locs1 (by rw [iW_set hk, hcan] at hP1; exact hP1) hS1)
theorem pfN (F' : Nat → va_E) (hx : p.tables.exec = Jvm.exec) (hb : c.code = cc) {own ref C host : String} {T : u_T} {n ci index : Nat} (hts : ∀ w ∈ Ts, w.before args s = true) (hin : ∀ w ∈ u_ws C T n, w ∈ Ts) (ty0 : Nat → FieldType) (hty : ∀ k, k < n → parseFieldDescriptor (T k).2.2.1 = some (ty0 k)) (hnm : ∀ a, a < n → ∀ b, b < n → a ≠ b → (T a).2.1 ≠ (T b).2.1) (hown : s.vm.findClass own = some m.cls) (hK : va_K D vwCl (iT cI cQ cL) s) (hDi : iD ad N) (hP : va_P D vwCl (iW ad N F) H) (hS : va_S (iA ad N s.heap.size) s.heap H locs) {k : Nat} (hk : k < N) {fs : List Value} (hF : F k = .inr (ci, fs)) (hc : vwCl[ci]? = some (C, T, n)) (j : Nat) (hj : j < n) (hlink : va_Nw (.fieldLinkNest own index ref (T j).2.1 (T j).2.2.1 host) s) (hsame : ∀ x, s.fieldFound? (T j).1 (T j).2.1 (T j).2.2.1 = some x → s.fieldFound? ref (T j).2.1 (T j).2.2.1 = some x) (hfin : (T j).2.2.2 = false) {ty : FieldType} {v : Value} (hd : parseFieldDescriptor (T j).2.2.1 = some ty) (hn : narrow ty v = v) (hfit : fits ty v = true) (hl : j < fs.length) (hdg : decode cc pc = .ok (.putfield index, 3)) (hcan : va_up F k (.inr (ci, fs.set j v)) = F')
    (kk : ∀ (H1 : Heap) (locs1 : List Loc), va_P D vwCl (iW ad N F') H1 → va_S (iA ad N s.heap.size) s.heap H1 locs1 → W p l e R s m args below meth c H1 locs1 cells slots Q (F0 m (pc + 3) ls rest)) : W p l e R s m args below meth c H locs cells slots Q (F0 m pc ls (v :: .ref (ad k) :: rest)) :=
  va_putN hx hb hts hin ty0 hty hnm hown hK hP (iA_D hDi) hS k (iW_at hk hF) hc j hj (va_Nw.use rfl hlink) hsame hfin hd hn hfit hl hdg (fun H1 locs1 hP1 hD1 hS1 => kk H1 locs1 (by rw [iW_set hk, hcan] at hP1; exact hP1) hS1)
theorem ast (F' : Nat → va_E) (hx : p.tables.exec = Jvm.exec) (hb : c.code = cc) (hK : va_K D vwCl (iT cI cQ cL) s) (hDi : iD ad N) (hP : va_P D vwCl (iW ad N F) H) (hS : va_S (iA ad N s.heap.size) s.heap H locs) {k n : Nat} {f : Nat → Int32} {x z : Int32} {j : Nat} (hk : k < N) (hF : F k = .inl (cI, n, .inl f)) (hxj : x = nI j) (hj : j < n) (hn : n < 2 ^ 31) (hdg : decode cc pc = .ok (.iastore, 1)) (hcan : va_up F k (.inl (cI, n, .inl (upd f j z))) = F')
    (kk : ∀ (H1 : Heap) (locs1 : List Loc), va_P D vwCl (iW ad N F') H1 → va_S (iA ad N s.heap.size) s.heap H1 locs1 → W p l e R s m args below meth c H1 locs1 cells slots Q (F0 m (pc + 1) ls rest)) : W p l e R s m args below meth c H locs cells slots Q (F0 m pc ls (.int z :: .int x :: .ref (ad k) :: rest)) := by
  subst hxj
  refine va_iast hx hb hK hP (iA_D hDi) hS k 0 (iW_at hk hF) rfl (vp_in_nI hj hn) hdg (fun H1 locs1 hP1 hD1 hS1 => kk H1 locs1 ?_ hS1)
  rw [nI_clamp (Nat.lt_trans hj hn), iW_set hk, hcan] at hP1
  exact hP1
theorem iA_up {H0 H : Heap} (hS : va_S (iA ad N H0.size) H0 H locs) : ∀ q, iA ad N H.size q → iA ad N H0.size q := fun q h => h.elim Or.inl (fun h => Or.inr (Nat.le_trans hS.1 h))
/-- behind a call that writes -/
theorem cW {post : Option Value → (Nat → va_E) → Prop} {mc ms : Nat} (hr : va_Run p l e R s m args below meth c H locs cells slots mc ms (F0 m pc ls st0) rest (fun st o t => ∃ (v : Option Value) (F' : Nat → va_E), o = .returned v ∧ post v F' ∧ va_P D vwCl (iW ad N F') t.heap ∧ va_F (iA ad N H.size) st t) (iA ad N H.size)) (hS : va_S (iA ad N s.heap.size) s.heap H locs)
    (kk : ∀ (v : Option Value) (F' : Nat → va_E) (H1 : Heap) (locs1 : List Loc), post v F' → va_P D vwCl (iW ad N F') H1 → va_S (iA ad N s.heap.size) s.heap H1 locs1 → W p l e R s m args below meth c H1 locs1 (cells + mc) (slots + ms) Q (F0 m (pc + 3) ls (v.toList ++ rest))) : W p l e R s m args below meth c H locs cells slots Q (F0 m pc ls st0) := by
  intro T hT X
  obtain ⟨v, st₀, t, T', L, h0, X', hL, e1, e2, ⟨v9, F', hv, hp, hb, hF⟩, st⟩ := hr T hT X
  cases hv
  obtain ⟨-, -, k3⟩ := vx_keep h0 e1 hS (fun q _ h => iA_up hS q h) (iA_up hS) hL hF
  obtain ⟨t2, a1, b1⟩ := kk v F' T'.heap (locs ++ L) hp (by rw [e1]; exact hb) k3 T' rfl X'
  exact ⟨t2, st t2 a1, b1⟩
theorem MX_pre {argl : List Value} {U : State} (hDi : iD ad N) (hK : va_K D vwCl (iT cI cQ cL) s) (hP : va_P D vwCl (iW ad N F) H) (hNW : NW s) (hU : U.heap = H) (hW : s.WarmedH U.vm) : va_Pc argl (fun U => U.heap.size = H.size ∧ iD ad N ∧ rW D cI cQ cL ad N F U) argl.toArray U :=
  ⟨rfl, by rw [hU], hDi, by rw [hU]; exact hP, va_K.moved hW.alike hK, hNW.warm hW⟩
theorem cvW {nL index na mc ms : Nat} {own C : String} {y : MethodName} {bytes : ByteArray} {maxL : Nat} {ret : Option FieldType} {ws : List Cond} {rm : Room} {As : List Value} {post : Option Value → (Nat → va_E) → Prop} {k ci n : Nat} {T : u_T} {fs : List Value}
    (S : CallFix p m c cc nL s args Ts own) (hM : MX l y ws rm D cI cQ cL ad N F (.ref (ad k) :: As) post mc ms) (cw : CallW R s args own C index y bytes maxL ret ws rm mc ms na) (hDi : iD ad N) (hK : va_K D vwCl (iT cI cQ cL) s) (hP : va_P D vwCl (iW ad N F) H) (hNW : NW s) (hS : va_S (iA ad N s.heap.size) s.heap H locs) (hk : k < N) (hF : F k = .inr (ci, fs)) (hc : vwCl[ci]? = some (C, T, n))
    (hn : As.length = na) (hsize : ls.size = nL) (hstack : st0 = As.reverse ++ .ref (ad k) :: rest) (hW : (rest.map fun v => v.category).sum ≤ 8) (hf : cells + mc ≤ R.cells ∧ slots + ms ≤ R.slots) (hdg : decode cc pc = .ok (.invokevirtual index, 3))
    (kk : ∀ (v : Option Value) (F' : Nat → va_E) (H1 : Heap) (locs1 : List Loc), post v F' → va_P D vwCl (iW ad N F') H1 → va_S (iA ad N s.heap.size) s.heap H1 locs1 → W p l e R s m args below meth c H1 locs1 (cells + mc) (slots + ms) Q (F0 m (pc + 3) ls (v.toList ++ rest))) : W p l e R s m args below meth c H locs cells slots Q (F0 m pc ls st0) :=
  cW (va_runV (g := F0 m pc ls st0) S (hM H.size) cw ⟨MX_blind, icond hK hP hk hF hc, fun U hU hW => MX_pre hDi hK hP hNW hU hW⟩ rfl hn hsize hstack (lv_room hW) hdg hf) hS kk
/-- .. with one answer and one world -/
theorem cvD {nL index na : Nat} {own C : String} {y : MethodName} {bytes : ByteArray} {maxL : Nat} {ret : Option FieldType} {ws : List Cond} {rm : Room} {As : List Value} {r : Value} {G : Nat → va_E} {k ci n : Nat} {T : u_T} {fs : List Value} (F' : Nat → va_E)
    (S : CallFix p m c cc nL s args Ts own) (hM : MX l y ws rm D cI cQ cL ad N F (.ref (ad k) :: As) (dp (some r) G) 0 0) (cw : CallW R s args own C index y bytes maxL ret ws rm 0 0 na) (hDi : iD ad N) (hK : va_K D vwCl (iT cI cQ cL) s) (hP : va_P D vwCl (iW ad N F) H) (hNW : NW s) (hS : va_S (iA ad N s.heap.size) s.heap H locs) (hk : k < N) (hF : F k = .inr (ci, fs)) (hc : vwCl[ci]? = some (C, T, n))
    (hn : As.length = na) (hsize : ls.size = nL) (hstack : st0 = As.reverse ++ .ref (ad k) :: rest) (hW : (rest.map fun v => v.category).sum ≤ 8) (hf : cells + 0 ≤ R.cells ∧ slots + 0 ≤ R.slots) (hdg : decode cc pc = .ok (.invokevirtual index, 3)) (hcan : G = F')
    (kk : ∀ (H1 : Heap) (locs1 : List Loc), va_P D vwCl (iW ad N F') H1 → va_S (iA ad N s.heap.size) s.heap H1 locs1 → W p l e R s m args below meth c H1 locs1 cells slots Q (F0 m (pc + 3) ls (r :: rest))) : W p l e R s m args below meth c H locs cells slots Q (F0 m pc ls st0) :=
  cvW S hM cw hDi hK hP hNW hS hk hF hc hn hsize hstack hW hf hdg (fun v G9 H1 locs1 hp hP1 hS1 => by
    obtain ⟨rfl, rfl⟩ := hp
    exact kk H1 locs1 (by rw [← hcan]; exact hP1) hS1)
theorem cvDv {nL index na : Nat} {own C : String} {y : MethodName} {bytes : ByteArray} {maxL : Nat} {ret : Option FieldType} {ws : List Cond} {rm : Room} {As : List Value} {G : Nat → va_E} {k ci n : Nat} {T : u_T} {fs : List Value} (F' : Nat → va_E)
    (S : CallFix p m c cc nL s args Ts own) (hM : MX l y ws rm D cI cQ cL ad N F (.ref (ad k) :: As) (dp none G) 0 0) (cw : CallW R s args own C index y bytes maxL ret ws rm 0 0 na) (hDi : iD ad N) (hK : va_K D vwCl (iT cI cQ cL) s) (hP : va_P D vwCl (iW ad N F) H) (hNW : NW s) (hS : va_S (iA ad N s.heap.size) s.heap H locs) (hk : k < N) (hF : F k = .inr (ci, fs)) (hc : vwCl[ci]? = some (C, T, n))
    (hn : As.length = na) (hsize : ls.size = nL) (hstack : st0 = As.reverse ++ .ref (ad k) :: rest) (hW : (rest.map fun v => v.category).sum ≤ 8) (hf : cells + 0 ≤ R.cells ∧ slots + 0 ≤ R.slots) (hdg : decode cc pc = .ok (.invokevirtual index, 3)) (hcan : G = F')
    (kk : ∀ (H1 : Heap) (locs1 : List Loc), va_P D vwCl (iW ad N F') H1 → va_S (iA ad N s.heap.size) s.heap H1 locs1 → W p l e R s m args below meth c H1 locs1 cells slots Q (F0 m (pc + 3) ls rest)) : W p l e R s m args below meth c H locs cells slots Q (F0 m pc ls st0) :=
  cvW S hM cw hDi hK hP hNW hS hk hF hc hn hsize hstack hW hf hdg (fun v G9 H1 locs1 hp hP1 hS1 => by
    obtain ⟨rfl, rfl⟩ := hp
    exact kk H1 locs1 (by rw [← hcan]; exact hP1) hS1)
end WROWS
/-- the mat at k with other contents -/
def mSet (cI : ClassId) (F : Nat → va_E) (k : Nat) (c b v : Nat → Int32) : Nat → va_E := fun j => if j = k + 1 then .inl (cI, 16, .inl c) else if j = k + 2 then .inl (cI, 16, .inl b) else if j = k + 3 then .inl (cI, 16, .inl v) else F j
theorem mSet_self {cI : ClassId} {ad : Nat → Nat} {F : Nat → va_E} {k : Nat} {c b v : Nat → Int32} (h : matAt cI ad F k c b v) : mSet cI F k c b v = F := by
  funext j
  obtain ⟨-, h1, h2, h3⟩ := h
  unfold mSet
  split
  · next e => rw [e, h1]
  · split
    · next e => rw [e, h2]
    · split
      · next e => rw [e, h3]
      · rfl
theorem mSet_at {cI : ClassId} {ad : Nat → Nat} {F : Nat → va_E} {k : Nat} {c b v c' b' v' : Nat → Int32} (h : matAt cI ad F k c b v) : matAt cI ad (mSet cI F k c' b' v') k c' b' v' := by
  obtain ⟨h0, -, -, -⟩ := h
  refine ⟨?_, ?_, ?_, ?_⟩
  · simp [mSet, h0]
  · simp [mSet]
  · simp [mSet]
  · simp [mSet]
theorem mSet_mSet {cI : ClassId} {F : Nat → va_E} {k : Nat} {c b v c' b' v' : Nat → Int32} : mSet cI (mSet cI F k c b v) k c' b' v' = mSet cI F k c' b' v' := by
  funext j
  simp only [mSet]
  repeat' split
  all_goals rfl
theorem mSet_out {cI : ClassId} {F : Nat → va_E} {k j : Nat} {c b v : Nat → Int32} (h : j < k + 1 ∨ k + 3 < j) : mSet cI F k c b v j = F j := by
  unfold mSet
  rw [if_neg (by omega), if_neg (by omega), if_neg (by omega)]
theorem mSet_c {cI : ClassId} {F : Nat → va_E} {k : Nat} {c b v c' : Nat → Int32} : va_up (mSet cI F k c b v) (k + 1) (.inl (cI, 16, .inl c')) = mSet cI F k c' b v := by
  funext j
  simp only [va_up, mSet]
  repeat' split
  all_goals first | rfl | omega
theorem mSet_b {cI : ClassId} {F : Nat → va_E} {k : Nat} {c b v b' : Nat → Int32} : va_up (mSet cI F k c b v) (k + 2) (.inl (cI, 16, .inl b')) = mSet cI F k c b' v := by
  funext j
  simp only [va_up, mSet]
  repeat' split
  all_goals first | rfl | omega
theorem mSet_v {cI : ClassId} {F : Nat → va_E} {k : Nat} {c b v v' : Nat → Int32} : va_up (mSet cI F k c b v) (k + 3) (.inl (cI, 16, .inl v')) = mSet cI F k c b v' := by
  funext j
  simp only [va_up, mSet]
  repeat' split
  all_goals first | rfl | omega
end
section
theorem nfw : nativeFrameWords "java/lang/System" "arraycopy" 5 = 7 := by decide +kernel
theorem cell_ext {cA : ClassId} {n : Nat} {f g : Nat → Int32} (h : ∀ j, j < n → f j = g j) : vp_cell cA (n, .inl f) = vp_cell cA (n, .inl g) := by
  show arrV cA n (fun j => .int (f j)) = arrV cA n (fun j => .int (g j))
  unfold arrV
  congr 1
  apply Array.ext
  · simp
  · intro i h1 h2
    simp only [Array.size_ofFn] at h1
    simp [h i h1]
theorem iW_ext {D : va_G} {cl : List vw_C} {ad : Nat → Nat} {N : Nat} {F F' : Nat → va_E} {H : Heap} (h : va_P D cl (iW ad N F) H) (e : ∀ k, k < N → F k = F' k ∨ ∃ (cA : ClassId) (n : Nat) (f g : Nat → Int32), F k = .inl (cA, n, .inl f) ∧ F' k = .inl (cA, n, .inl g) ∧ ∀ j, j < n → f j = g j) : va_P D cl (iW ad N F') H := by
  intro k q hq
  obtain ⟨hk, rfl⟩ := iW_inv hq
  have h1 := h k _ (iW_get hk)
  rcases e k hk with e1 | ⟨cA, n, f, g, e1, e2, e3⟩
  · rw [← e1]
    exact h1
  · rw [e2]
    rw [e1] at h1
    show H[ad k]? = some (vp_cell cA (n, .inl g))
    rw [← cell_ext e3]
    exact h1
section CPY
variable {p : Program} {l : Launch} {e : Env} {R : Room} {s : State} {m : MethodId} {args : Array Value} {below : List Frame} {meth : Method} {c : Code} {H : Heap} {locs : List Loc} {cells slots : Nat} {Q : State → Prop}
variable {cc : ByteArray} {pc : Nat} {ls : Array Slot} {rest st0 : List Value} {D : va_G} {cI cQ cL : ClassId} {ad : Nat → Nat} {N : Nat} {F : Nat → va_E} {Ts : List Cond}
/-- a whole row copied over another one -/
theorem cpy (F' : Nat → va_E) (hx : p.tables.exec = Jvm.exec) (hb : c.code = cc) (hml : c.maxLocals = ls.size) {own : String} {index : Nat} (hown : s.vm.findClass own = some m.cls) (hlink : (Cond.methodLink own index arraycopyName).before args s = true) (hnat : (Cond.native arraycopyName).before args s = true) (hstat : (Cond.static arraycopyName).before args s = true) (hini : (Cond.initialized "java/lang/System").before args s = true)
    (hK : va_K D vwCl (iT cI cQ cL) s) (hDi : iD ad N) (hP : va_P D vwCl (iW ad N F) H) (hS : va_S (iA ad N s.heap.size) s.heap H locs) {kS kD n : Nat} {f g : Nat → Int32} (hkS : kS < N) (hFS : F kS = .inl (cI, n, .inl f)) (hkD : kD < N) (hFD : F kD = .inl (cI, n, .inl g)) (hn : n < 2 ^ 31)
    (hframes : 1 ≤ R.frames) (hlocals : (rest.map fun v => v.category).sum + 18 ≤ R.locals) (hdg : decode cc pc = .ok (.invokestatic index, 3)) (hcan : va_up F kD (.inl (cI, n, .inl f)) = F')
    (kk : ∀ (H1 : Heap) (locs1 : List Loc), va_P D vwCl (iW ad N F') H1 → va_S (iA ad N s.heap.size) s.heap H1 locs1 → W p l e R s m args below meth c H1 locs1 cells slots Q (F0 m (pc + 3) ls rest)) : W p l e R s m args below meth c H locs cells slots Q (F0 m pc ls (.int (nI n) :: .int (nI 0) :: .ref (ad kD) :: .int (nI 0) :: .ref (ad kS) :: rest)) := by
  have z0 : (nI 0).toNatClampNeg = 0 := nI_clamp (by decide)
  have zn : (nI n).toNatClampNeg = n := nI_clamp hn
  refine va_copyi hx hb hml hown hlink hnat hstat hini hK hP (iA_D hDi) hS kS kD 0 0 (iW_at hkS hFS) (iW_at hkD hFD) (ty := .int) rfl rfl rfl (nI_pos (by decide)) (nI_pos (by decide)) (nI_pos hn) (by rw [z0, zn]; omega) (by rw [z0, zn]; omega) (fun _ _ => rfl) hframes (by rw [nfw]; exact hlocals) hdg (fun H1 locs1 hP1 hD1 hS1 => kk H1 locs1 ?_ hS1)
  rw [z0, zn, iW_set hkD] at hP1
  subst hcan
  refine iW_ext hP1 (fun k _ => ?_)
  by_cases e9 : k = kD
  · subst e9
    refine Or.inr ⟨cI, n, _, f, va_up_self _ _ _, va_up_self _ _ _, fun j hj => ?_⟩
    have := pk_cpy_in (f := f) (g := g) (sp := 0) (dp := 0) (n := n) (j := j) (Nat.zero_le _) (by omega)
    rw [this]
    congr 1
    omega
  · exact Or.inl (by rw [va_up_ne _ _ e9, va_up_ne _ _ e9])
end CPY
-- what the mat's writers do
def scl (v : Nat → Int32) (q : Int32) : Nat → (Nat → Int32) → Int32 → (Nat → Int32)
  | 0, c, _ => c
  | n + 1, c, x => if wk x = true then scl v q n (upd c (ix x) q) (v (ix x)) else c
def sep : Nat → (Nat → Int32) → (Nat → Int32) → Int32 → (Nat → Int32) × (Nat → Int32)
  | 0, b, v, _ => (b, v)
  | n + 1, b, v, x => if wk x = true then sep n (upd b (ix x) (-1)) (upd v (ix x) (-1)) (v (ix x)) else (b, v)
def cutv (b v : Nat → Int32) (w : Nat) : Nat → Int32 := if wk (b w) = true then upd v (ix (b w)) (-1) else v
def mov1 (c b v : Nat → Int32) (w : Nat) (q : Int32) : Nat → Int32 := if q = nI 84 then scl (cutv b v w) (-1) 16 c (nI w) else scl (cutv b v w) q 16 (scl (cutv b v w) (-1) 16 c (nI w)) (nI w)
def movt (c b v : Nat → Int32) (w : Nat) (q : Int32) : Int32 := top (scl (cutv b v w) (-1) 16 c (nI w)) (cutv b v w) q
def mov2 (c b v : Nat → Int32) (w : Nat) (q : Int32) : Nat → Int32 := if q = nI 84 then (sep 16 b (cutv b v w) (nI w)).1 else upd b w (movt c b v w q)
def mov3 (c b v : Nat → Int32) (w : Nat) (q : Int32) : Nat → Int32 := if q = nI 84 then (sep 16 b (cutv b v w) (nI w)).2 else if wk (movt c b v w q) = true then upd (cutv b v w) (ix (movt c b v w q)) (nI w) else cutv b v w
end
section
set_option maxRecDepth 100000 in
set_option maxHeartbeats 4000000 in
theorem tX1_setCells (l : Launch) (D : va_G) (cI cQ cL : ClassId) (ad : Nat → Nat) (N : Nat) (F : Nat → va_E) (k : Nat) (hk : k + 3 < N) (c b v : Nat → Int32) (hM : matAt cI ad F k c b v) (x : Int32) (w : Nat) (hxw : x = nI w) (hw : w < 16) (q : Int32) : MX l yX1_setCells (Cond.code yX1_setCells cX1_setCells 5 none :: AW) ({ frames := 1, cells := 0, slots := 0, locals := 20 } : Room) D cI cQ cL ad N F [.ref (ad k), .int x, .int q] (dp none (mSet cI F k (scl v q 16 c (nI w)) b v)) 0 0 := by
  refine mx_v (by decide +kernel) rfl (Nat.le_of_ble_eq_true rfl) (fun p e s m below meth cd Q ls hx hb hml hown hts hDi hP hK hNW hS hret hl => ?_)
  have hown : s.vm.findClass RX1 = some m.cls := hown
  subst hxw
  have hk0 : k < N := by omega
  have hk1 : k + 1 < N := by omega
  have hk2 : k + 2 < N := by omega
  have hk3 : k + 3 < N := hk
  have hP : va_P D vwCl (iW ad N (mSet cI F k c b v)) s.heap := by rw [mSet_self hM]; exact hP
  have hl : lv_has ls 5 [(0, .ref (ad k)), (1, .int (nI w)), (2, .int q)] := hl
  refine lv_iload_n hx hb (dk kX1_setCells_ok 0 rfl) rfl (lv_at hl 1 rfl) ?_
  refine lv_istore_n (lv' := [(3, .int (nI w)), (0, .ref (ad k)), (1, .int (nI w)), (2, .int q)]) hx hb (dk kX1_setCells_ok 1 rfl) rfl hl (by decide) rfl (fun ls hl => ?_)
  refine lv_iconst (v := nI 0) hx hb (dk kX1_setCells_ok 2 rfl) rfl ?_
  refine lv_istore (lv' := [(4, .int (nI 0)), (3, .int (nI w)), (0, .ref (ad k)), (1, .int (nI w)), (2, .int q)]) hx hb (dk kX1_setCells_ok 3 rfl) hl (by decide) rfl (fun ls hl => ?_)
  have L5 : ∀ (fu : Nat) (i : Nat) (x : Int32) (c2 : Nat → Int32) (H : Heap) (locs : List Loc), va_P D vwCl (iW ad N (mSet cI F k c2 b v)) H → va_S (iA ad N s.heap.size) s.heap H locs → i ≤ 16 → scl v q 16 c (nI w) = scl v q (16 - i) c2 x → 16 - i < fu → ∀ ls : Array Slot, lv_has ls 5 [(0, .ref (ad k)), (1, .int (nI w)), (2, .int q), (3, .int x), (4, .int (nI i))] → W p l e ({ frames := 1, cells := 0, slots := 0, locals := 20 } : Room) s m ([.ref (ad k), .int (nI w), .int q] : List Value).toArray below meth cd H locs 0 0 Q (F0 m 5 ls []) := by
    intro fu
    induction fu with
    | zero => intros; omega
    | succ fu ih5 =>
      intro i x c2 H locs hP hS hi hr hme5 ls hl
      refine lv_iload hx hb (dk kX1_setCells_ok 4 rfl) (lv_at hl 4 rfl) ?_
      refine lv_bipush (v := nI 16) hx hb (dk kX1_setCells_ok 5 rfl) rfl ?_
      refine n_icmp_ge (tgt := 39) hx hb (by omega) (by decide) (dk kX1_setCells_ok 6 rfl) (by decide) (fun h1 => ?_) (fun h1 => ?_)
      · skip
        exact hret _ _ _ _ _ _ _ (by refine ⟨rfl, ?_⟩; first | (rw [hr, show 16 - i = (16 - (i + 1)) + 1 by omega]; simp [scl, h1]; done) | (rw [hr, show 16 - i = 0 by omega]; rfl)) hP hS (by decide) (by decide) (dk kX1_setCells_ok 22 rfl)
      · skip
        refine lv_iload_n hx hb (dk kX1_setCells_ok 7 rfl) rfl (lv_at hl 3 rfl) ?_
        refine csPN (As := [.int x]) (rest := []) ⟨hx, hb, hml, hown, hts⟩ (tX5_isWink l x) (cwN9 1 hts mcX5_isWink (nm7 hNW) mini_RX5 rfl rfl hdX5_isWink ⟨Nat.le_of_ble_eq_true rfl, Nat.le_of_ble_eq_true rfl⟩) (hts _ (List.mem_cons_of_mem _ msX5_isWink)) rfl hl.1 rfl (Nat.le_of_ble_eq_true rfl) (by decide) (dk kX1_setCells_ok 8 rfl) ?_
        refine b_if_eq (tgt := 39) hx hb (dk kX1_setCells_ok 9 rfl) (by decide) (fun h2 => ?_) (fun h2 => ?_)
        · skip
          exact hret _ _ _ _ _ _ _ (by refine ⟨rfl, ?_⟩; first | (rw [hr, show 16 - i = (16 - (i + 1)) + 1 by omega]; simp [scl, h1, h2]; done) | (rw [hr, show 16 - i = 0 by omega]; rfl)) hP hS (by decide) (by decide) (dk kX1_setCells_ok 22 rfl)
        · skip
          refine lv_aload_n hx hb (dk kX1_setCells_ok 10 rfl) rfl (lv_at hl 0 rfl) ?_
          refine gf hx hb hts (fun w h => List.mem_cons_of_mem _ (acX1 w h)) hown hK hP hk0 (mSet_at hM).1 rfl 0 (by decide) (hts _ (List.mem_cons_of_mem _ (ac0 _ (List.mem_of_getElem? (i := 11) rfl)))) (fun _ h => h) rfl (dk kX1_setCells_ok 11 rfl) ?_
          refine lv_iload_n hx hb (dk kX1_setCells_ok 12 rfl) rfl (lv_at hl 3 rfl) ?_
          refine lv_iload_n hx hb (dk kX1_setCells_ok 13 rfl) rfl (lv_at hl 2 rfl) ?_
          refine ast (mSet cI F k (upd c2 (ix x) q) b v) (j := (ix x)) hx hb hK hDi hP hS hk1 (mSet_at hM).2.1 (wk_eq h2) (wk_lt h2) (by decide) (dk kX1_setCells_ok 14 rfl) mSet_c (fun H locs hP hS => ?_)
          refine lv_aload_n hx hb (dk kX1_setCells_ok 15 rfl) rfl (lv_at hl 0 rfl) ?_
          refine gf hx hb hts (fun w h => List.mem_cons_of_mem _ (acX1 w h)) hown hK hP hk0 (mSet_at hM).1 rfl 2 (by decide) (hts _ (List.mem_cons_of_mem _ (ac0 _ (List.mem_of_getElem? (i := 13) rfl)))) (fun _ h => h) rfl (dk kX1_setCells_ok 16 rfl) ?_
          refine lv_iload_n hx hb (dk kX1_setCells_ok 17 rfl) rfl (lv_at hl 3 rfl) ?_
          refine ald (j := (ix x)) hx hb hK hP hk3 (mSet_at hM).2.2.2 (wk_eq h2) (wk_lt h2) (by decide) (dk kX1_setCells_ok 18 rfl) ?_
          refine lv_istore_n (lv' := [(3, .int (v (ix x))), (0, .ref (ad k)), (1, .int (nI w)), (2, .int q), (4, .int (nI i))]) hx hb (dk kX1_setCells_ok 19 rfl) rfl hl (by decide) rfl (fun ls hl => ?_)
          refine lv_iinc (v := nI (i + 1)) (lv' := [(4, .int (nI (i + 1))), (3, .int (v (ix x))), (0, .ref (ad k)), (1, .int (nI w)), (2, .int q)]) hx hb (dk kX1_setCells_ok 20 rfl) hl (k := 4) rfl (n_inc _) (by decide) rfl (fun ls hl => ?_)
          refine lv_goto (tgt := 5) hx hb (dk kX1_setCells_ok 21 rfl) (by decide) ?_
          exact ih5 (i + 1) (v (ix x)) (upd c2 (ix x) q) _ _ hP hS (by omega) (by rw [hr, show 16 - i = (16 - (i + 1)) + 1 by omega]; simp [scl, h1, h2]) (by omega) ls (lv_sub hl [2, 3, 4, 1, 0] rfl)
  exact L5 _ 0 (nI w) c _ _ hP hS (by first | omega | rfl) (by first | omega | rfl) (Nat.lt_succ_self _) ls (lv_sub hl [2, 3, 4, 1, 0] rfl)
set_option maxRecDepth 100000 in
set_option maxHeartbeats 4000000 in
theorem tX1_separate (l : Launch) (D : va_G) (cI cQ cL : ClassId) (ad : Nat → Nat) (N : Nat) (F : Nat → va_E) (k : Nat) (hk : k + 3 < N) (c b v : Nat → Int32) (hM : matAt cI ad F k c b v) (x : Int32) (w : Nat) (hxw : x = nI w) (hw : w < 16) : MX l yX1_separate (Cond.code yX1_separate cX1_separate 5 none :: AW) ({ frames := 1, cells := 0, slots := 0, locals := 20 } : Room) D cI cQ cL ad N F [.ref (ad k), .int x] (dp none (mSet cI F k c ((sep 16 b v (nI w)).1) ((sep 16 b v (nI w)).2))) 0 0 := by
  refine mx_v (by decide +kernel) rfl (Nat.le_of_ble_eq_true rfl) (fun p e s m below meth cd Q ls hx hb hml hown hts hDi hP hK hNW hS hret hl => ?_)
  have hown : s.vm.findClass RX1 = some m.cls := hown
  subst hxw
  have hk0 : k < N := by omega
  have hk1 : k + 1 < N := by omega
  have hk2 : k + 2 < N := by omega
  have hk3 : k + 3 < N := hk
  have hP : va_P D vwCl (iW ad N (mSet cI F k c b v)) s.heap := by rw [mSet_self hM]; exact hP
  have hl : lv_has ls 5 [(0, .ref (ad k)), (1, .int (nI w))] := hl
  refine lv_iload_n hx hb (dk kX1_separate_ok 0 rfl) rfl (lv_at hl 1 rfl) ?_
  refine lv_istore_n (lv' := [(2, .int (nI w)), (0, .ref (ad k)), (1, .int (nI w))]) hx hb (dk kX1_separate_ok 1 rfl) rfl hl (by decide) rfl (fun ls hl => ?_)
  refine lv_iconst (v := nI 0) hx hb (dk kX1_separate_ok 2 rfl) rfl ?_
  refine lv_istore_n (lv' := [(3, .int (nI 0)), (2, .int (nI w)), (0, .ref (ad k)), (1, .int (nI w))]) hx hb (dk kX1_separate_ok 3 rfl) rfl hl (by decide) rfl (fun ls hl => ?_)
  have L4 : ∀ (fu : Nat) (i : Nat) (x : Int32) (b2 v2 : Nat → Int32) (H : Heap) (locs : List Loc), va_P D vwCl (iW ad N (mSet cI F k c b2 v2)) H → va_S (iA ad N s.heap.size) s.heap H locs → i ≤ 16 → sep 16 b v (nI w) = sep (16 - i) b2 v2 x → 16 - i < fu → ∀ ls : Array Slot, lv_has ls 5 [(0, .ref (ad k)), (1, .int (nI w)), (2, .int x), (3, .int (nI i))] → W p l e ({ frames := 1, cells := 0, slots := 0, locals := 20 } : Room) s m ([.ref (ad k), .int (nI w)] : List Value).toArray below meth cd H locs 0 0 Q (F0 m 4 ls []) := by
    intro fu
    induction fu with
    | zero => intros; omega
    | succ fu ih4 =>
      intro i x b2 v2 H locs hP hS hi hr hme4 ls hl
      refine lv_iload_n hx hb (dk kX1_separate_ok 4 rfl) rfl (lv_at hl 3 rfl) ?_
      refine lv_bipush (v := nI 16) hx hb (dk kX1_separate_ok 5 rfl) rfl ?_
      refine n_icmp_ge (tgt := 48) hx hb (by omega) (by decide) (dk kX1_separate_ok 6 rfl) (by decide) (fun h1 => ?_) (fun h1 => ?_)
      · skip
        exact hret _ _ _ _ _ _ _ (by refine ⟨rfl, ?_⟩; first | (rw [hr, show 16 - i = (16 - (i + 1)) + 1 by omega]; simp [sep, h1]; done) | (rw [hr, show 16 - i = 0 by omega]; rfl)) hP hS (by decide) (by decide) (dk kX1_separate_ok 29 rfl)
      · skip
        refine lv_iload_n hx hb (dk kX1_separate_ok 7 rfl) rfl (lv_at hl 2 rfl) ?_
        refine csPN (As := [.int x]) (rest := []) ⟨hx, hb, hml, hown, hts⟩ (tX5_isWink l x) (cwN9 1 hts mcX5_isWink (nm7 hNW) mini_RX5 rfl rfl hdX5_isWink ⟨Nat.le_of_ble_eq_true rfl, Nat.le_of_ble_eq_true rfl⟩) (hts _ (List.mem_cons_of_mem _ msX5_isWink)) rfl hl.1 rfl (Nat.le_of_ble_eq_true rfl) (by decide) (dk kX1_separate_ok 8 rfl) ?_
        refine b_if_eq (tgt := 48) hx hb (dk kX1_separate_ok 9 rfl) (by decide) (fun h2 => ?_) (fun h2 => ?_)
        · skip
          exact hret _ _ _ _ _ _ _ (by refine ⟨rfl, ?_⟩; first | (rw [hr, show 16 - i = (16 - (i + 1)) + 1 by omega]; simp [sep, h1, h2]; done) | (rw [hr, show 16 - i = 0 by omega]; rfl)) hP hS (by decide) (by decide) (dk kX1_separate_ok 29 rfl)
        · skip
          refine lv_aload_n hx hb (dk kX1_separate_ok 10 rfl) rfl (lv_at hl 0 rfl) ?_
          refine gf hx hb hts (fun w h => List.mem_cons_of_mem _ (acX1 w h)) hown hK hP hk0 (mSet_at hM).1 rfl 2 (by decide) (hts _ (List.mem_cons_of_mem _ (ac0 _ (List.mem_of_getElem? (i := 13) rfl)))) (fun _ h => h) rfl (dk kX1_separate_ok 11 rfl) ?_
          refine lv_iload_n hx hb (dk kX1_separate_ok 12 rfl) rfl (lv_at hl 2 rfl) ?_
          refine ald (j := (ix x)) hx hb hK hP hk3 (mSet_at hM).2.2.2 (wk_eq h2) (wk_lt h2) (by decide) (dk kX1_separate_ok 13 rfl) ?_
          refine lv_istore (lv' := [(4, .int (v2 (ix x))), (0, .ref (ad k)), (1, .int (nI w)), (2, .int x), (3, .int (nI i))]) hx hb (dk kX1_separate_ok 14 rfl) hl (by decide) rfl (fun ls hl => ?_)
          refine lv_aload_n hx hb (dk kX1_separate_ok 15 rfl) rfl (lv_at hl 1 rfl) ?_
          refine gf hx hb hts (fun w h => List.mem_cons_of_mem _ (acX1 w h)) hown hK hP hk0 (mSet_at hM).1 rfl 1 (by decide) (hts _ (List.mem_cons_of_mem _ (ac0 _ (List.mem_of_getElem? (i := 12) rfl)))) (fun _ h => h) rfl (dk kX1_separate_ok 16 rfl) ?_
          refine lv_iload_n hx hb (dk kX1_separate_ok 17 rfl) rfl (lv_at hl 3 rfl) ?_
          refine lv_iconst (v := -1) hx hb (dk kX1_separate_ok 18 rfl) rfl ?_
          refine ast (mSet cI F k c (upd b2 (ix x) (-1)) v2) (j := (ix x)) hx hb hK hDi hP hS hk2 (mSet_at hM).2.2.1 (wk_eq h2) (wk_lt h2) (by decide) (dk kX1_separate_ok 19 rfl) mSet_b (fun H locs hP hS => ?_)
          refine lv_aload_n hx hb (dk kX1_separate_ok 20 rfl) rfl (lv_at hl 1 rfl) ?_
          refine gf hx hb hts (fun w h => List.mem_cons_of_mem _ (acX1 w h)) hown hK hP hk0 (mSet_at hM).1 rfl 2 (by decide) (hts _ (List.mem_cons_of_mem _ (ac0 _ (List.mem_of_getElem? (i := 13) rfl)))) (fun _ h => h) rfl (dk kX1_separate_ok 21 rfl) ?_
          refine lv_iload_n hx hb (dk kX1_separate_ok 22 rfl) rfl (lv_at hl 3 rfl) ?_
          refine lv_iconst (v := -1) hx hb (dk kX1_separate_ok 23 rfl) rfl ?_
          refine ast (mSet cI F k c (upd b2 (ix x) (-1)) (upd v2 (ix x) (-1))) (j := (ix x)) hx hb hK hDi hP hS hk3 (mSet_at hM).2.2.2 (wk_eq h2) (wk_lt h2) (by decide) (dk kX1_separate_ok 24 rfl) mSet_v (fun H locs hP hS => ?_)
          refine lv_iload hx hb (dk kX1_separate_ok 25 rfl) (lv_at hl 0 rfl) ?_
          refine lv_istore_n (lv' := [(2, .int (v2 (ix x))), (4, .int (v2 (ix x))), (0, .ref (ad k)), (1, .int (nI w)), (3, .int (nI i))]) hx hb (dk kX1_separate_ok 26 rfl) rfl hl (by decide) rfl (fun ls hl => ?_)
          refine lv_iinc (v := nI (i + 1)) (lv' := [(3, .int (nI (i + 1))), (2, .int (v2 (ix x))), (4, .int (v2 (ix x))), (0, .ref (ad k)), (1, .int (nI w))]) hx hb (dk kX1_separate_ok 27 rfl) hl (k := 4) rfl (n_inc _) (by decide) rfl (fun ls hl => ?_)
          refine lv_goto (tgt := 4) hx hb (dk kX1_separate_ok 28 rfl) (by decide) ?_
          exact ih4 (i + 1) (v2 (ix x)) (upd b2 (ix x) (-1)) (upd v2 (ix x) (-1)) _ _ hP hS (by omega) (by rw [hr, show 16 - i = (16 - (i + 1)) + 1 by omega]; simp [sep, h1, h2]) (by omega) ls (lv_sub hl [3, 4, 1, 0] rfl)
  exact L4 _ 0 (nI w) b v _ _ hP hS (by first | omega | rfl) (by first | omega | rfl) (Nat.lt_succ_self _) ls (lv_sub hl [2, 3, 1, 0] rfl)
set_option maxRecDepth 100000 in
set_option maxHeartbeats 4000000 in
theorem tX1_move (l : Launch) (D : va_G) (cI cQ cL : ClassId) (ad : Nat → Nat) (N : Nat) (F : Nat → va_E) (k : Nat) (hk : k + 3 < N) (c b v : Nat → Int32) (hM : matAt cI ad F k c b v) (x : Int32) (w : Nat) (hxw : x = nI w) (hw : w < 16) (q : Int32) : MX l yX1_move (Cond.code yX1_move cX1_move 5 none :: AW) ({ frames := 2, cells := 0, slots := 0, locals := 44 } : Room) D cI cQ cL ad N F [.ref (ad k), .int x, .int q] (dp none (mSet cI F k (mov1 c b v w q) (mov2 c b v w q) (mov3 c b v w q))) 0 0 := by
  refine mx_v (by decide +kernel) rfl (Nat.le_of_ble_eq_true rfl) (fun p e s m below meth cd Q ls hx hb hml hown hts hDi hP hK hNW hS hret hl => ?_)
  have hown : s.vm.findClass RX1 = some m.cls := hown
  subst hxw
  have hk0 : k < N := by omega
  have hk1 : k + 1 < N := by omega
  have hk2 : k + 2 < N := by omega
  have hk3 : k + 3 < N := hk
  have hP : va_P D vwCl (iW ad N (mSet cI F k c b v)) s.heap := by rw [mSet_self hM]; exact hP
  have hl : lv_has ls 5 [(0, .ref (ad k)), (1, .int (nI w)), (2, .int q)] := hl
  refine lv_aload_n hx hb (dk kX1_move_ok 0 rfl) rfl (lv_at hl 0 rfl) ?_
  refine gf hx hb hts (fun w h => List.mem_cons_of_mem _ (acX1 w h)) hown hK hP hk0 (mSet_at hM).1 rfl 1 (by decide) (hts _ (List.mem_cons_of_mem _ (ac0 _ (List.mem_of_getElem? (i := 12) rfl)))) (fun _ h => h) rfl (dk kX1_move_ok 1 rfl) ?_
  refine lv_iload_n hx hb (dk kX1_move_ok 2 rfl) rfl (lv_at hl 1 rfl) ?_
  refine ald (j := w) hx hb hK hP hk2 (mSet_at hM).2.2.1 rfl (by omega) (by decide) (dk kX1_move_ok 3 rfl) ?_
  refine lv_istore_n (lv' := [(3, .int (b w)), (0, .ref (ad k)), (1, .int (nI w)), (2, .int q)]) hx hb (dk kX1_move_ok 4 rfl) rfl hl (by decide) rfl (fun ls hl => ?_)
  refine lv_iload_n hx hb (dk kX1_move_ok 5 rfl) rfl (lv_at hl 0 rfl) ?_
  refine csPN (As := [.int (b w)]) (rest := []) ⟨hx, hb, hml, hown, hts⟩ (tX5_isWink l (b w)) (cwN9 1 hts mcX5_isWink (nm7 hNW) mini_RX5 rfl rfl hdX5_isWink ⟨Nat.le_of_ble_eq_true rfl, Nat.le_of_ble_eq_true rfl⟩) (hts _ (List.mem_cons_of_mem _ msX5_isWink)) rfl hl.1 rfl (Nat.le_of_ble_eq_true rfl) (by decide) (dk kX1_move_ok 6 rfl) ?_
  refine b_if_eq (tgt := 21) hx hb (dk kX1_move_ok 7 rfl) (by decide) (fun h1 => ?_) (fun h1 => ?_)
  · skip
    refine lv_aload_n hx hb (dk kX1_move_ok 13 rfl) rfl (lv_at hl 1 rfl) ?_
    refine lv_iload_n hx hb (dk kX1_move_ok 14 rfl) rfl (lv_at hl 2 rfl) ?_
    refine lv_iconst (v := -1) hx hb (dk kX1_move_ok 15 rfl) rfl ?_
    refine cvDv (As := [.int (nI w), .int (-1)]) (rest := []) (mSet cI F k (scl v (-1) 16 c (nI w)) b v) ⟨hx, hb, hml, hown, hts⟩ (tX1_setCells l D cI cQ cL ad N (mSet cI F k c b v) k hk c b v (mSet_at hM) (nI w) w rfl (by omega) (-1)) (cwV9 2 hts mcX1_setCells (ac1 _ (List.mem_of_getElem? (i := 0) rfl)) miX1_setCells meX1_setCells mini_RX1 rfl rfl hdX1_setCells ⟨Nat.le_of_ble_eq_true rfl, Nat.le_of_ble_eq_true rfl⟩) hDi hK hP hNW hS hk0 (mSet_at hM).1 rfl rfl hl.1 rfl (Nat.le_of_ble_eq_true rfl) (by decide) (dk kX1_move_ok 16 rfl) mSet_mSet (fun H locs hP hS => ?_)
    refine lv_iload_n hx hb (dk kX1_move_ok 17 rfl) rfl (lv_at hl 3 rfl) ?_
    refine lv_bipush (v := nI 84) hx hb (dk kX1_move_ok 18 rfl) rfl ?_
    refine lv_icmp_ne (tgt := 39) hx hb (dk kX1_move_ok 19 rfl) (by decide) (fun h2 => ?_) (fun h2 => ?_)
    · skip
      refine lv_aload_n hx hb (dk kX1_move_ok 24 rfl) rfl (lv_at hl 1 rfl) ?_
      refine lv_iload_n hx hb (dk kX1_move_ok 25 rfl) rfl (lv_at hl 3 rfl) ?_
      refine cvR (As := [.int q]) (rest := []) ⟨hx, hb, hml, hown, hts⟩ (tX1_topAt l D cI cQ cL ad N (mSet cI F k (scl v (-1) 16 c (nI w)) b v) k hk (scl v (-1) 16 c (nI w)) b v (mSet_at hM) q) (cwV9 1 hts mcX1_topAt (ac1 _ (List.mem_of_getElem? (i := 9) rfl)) miX1_topAt meX1_topAt mini_RX1 rfl rfl hdX1_topAt ⟨Nat.le_of_ble_eq_true rfl, Nat.le_of_ble_eq_true rfl⟩) hK hP hNW hk0 (mSet_at hM).1 rfl rfl hl.1 rfl (Nat.le_of_ble_eq_true rfl) (by decide) (dk kX1_move_ok 26 rfl) ?_
      refine lv_istore (lv' := [(4, .int (top (scl v (-1) 16 c (nI w)) v q)), (3, .int (b w)), (0, .ref (ad k)), (1, .int (nI w)), (2, .int q)]) hx hb (dk kX1_move_ok 27 rfl) hl (by decide) rfl (fun ls hl => ?_)
      refine lv_aload_n hx hb (dk kX1_move_ok 28 rfl) rfl (lv_at hl 2 rfl) ?_
      refine lv_iload_n hx hb (dk kX1_move_ok 29 rfl) rfl (lv_at hl 3 rfl) ?_
      refine lv_iload_n hx hb (dk kX1_move_ok 30 rfl) rfl (lv_at hl 4 rfl) ?_
      refine cvDv (As := [.int (nI w), .int q]) (rest := []) (mSet cI F k (scl v q 16 (scl v (-1) 16 c (nI w)) (nI w)) b v) ⟨hx, hb, hml, hown, hts⟩ (tX1_setCells l D cI cQ cL ad N (mSet cI F k (scl v (-1) 16 c (nI w)) b v) k hk (scl v (-1) 16 c (nI w)) b v (mSet_at hM) (nI w) w rfl (by omega) q) (cwV9 2 hts mcX1_setCells (ac1 _ (List.mem_of_getElem? (i := 0) rfl)) miX1_setCells meX1_setCells mini_RX1 rfl rfl hdX1_setCells ⟨Nat.le_of_ble_eq_true rfl, Nat.le_of_ble_eq_true rfl⟩) hDi hK hP hNW hS hk0 (mSet_at hM).1 rfl rfl hl.1 rfl (Nat.le_of_ble_eq_true rfl) (by decide) (dk kX1_move_ok 31 rfl) mSet_mSet (fun H locs hP hS => ?_)
      refine lv_aload_n hx hb (dk kX1_move_ok 32 rfl) rfl (lv_at hl 2 rfl) ?_
      refine gf hx hb hts (fun w h => List.mem_cons_of_mem _ (acX1 w h)) hown hK hP hk0 (mSet_at hM).1 rfl 1 (by decide) (hts _ (List.mem_cons_of_mem _ (ac0 _ (List.mem_of_getElem? (i := 12) rfl)))) (fun _ h => h) rfl (dk kX1_move_ok 33 rfl) ?_
      refine lv_iload_n hx hb (dk kX1_move_ok 34 rfl) rfl (lv_at hl 3 rfl) ?_
      refine lv_iload hx hb (dk kX1_move_ok 35 rfl) (lv_at hl 0 rfl) ?_
      refine ast (mSet cI F k (scl v q 16 (scl v (-1) 16 c (nI w)) (nI w)) (upd b w (top (scl v (-1) 16 c (nI w)) v q)) v) (j := w) hx hb hK hDi hP hS hk2 (mSet_at hM).2.2.1 rfl (by omega) (by decide) (dk kX1_move_ok 36 rfl) mSet_b (fun H locs hP hS => ?_)
      refine lv_iload hx hb (dk kX1_move_ok 37 rfl) (lv_at hl 0 rfl) ?_
      refine csPN (As := [.int (top (scl v (-1) 16 c (nI w)) v q)]) (rest := []) ⟨hx, hb, hml, hown, hts⟩ (tX5_isWink l (top (scl v (-1) 16 c (nI w)) v q)) (cwN9 1 hts mcX5_isWink (nm7 hNW) mini_RX5 rfl rfl hdX5_isWink ⟨Nat.le_of_ble_eq_true rfl, Nat.le_of_ble_eq_true rfl⟩) (hts _ (List.mem_cons_of_mem _ msX5_isWink)) rfl hl.1 rfl (Nat.le_of_ble_eq_true rfl) (by decide) (dk kX1_move_ok 38 rfl) ?_
      refine b_if_eq (tgt := 76) hx hb (dk kX1_move_ok 39 rfl) (by decide) (fun h3 => ?_) (fun h3 => ?_)
      · skip
        exact hret _ _ _ _ _ _ _ (by refine ⟨rfl, ?_⟩; simp [mov1, mov2, mov3, movt, cutv, h1, h2, h3]) hP hS (by decide) (by decide) (dk kX1_move_ok 45 rfl)
      · skip
        refine lv_aload_n hx hb (dk kX1_move_ok 40 rfl) rfl (lv_at hl 2 rfl) ?_
        refine gf hx hb hts (fun w h => List.mem_cons_of_mem _ (acX1 w h)) hown hK hP hk0 (mSet_at hM).1 rfl 2 (by decide) (hts _ (List.mem_cons_of_mem _ (ac0 _ (List.mem_of_getElem? (i := 13) rfl)))) (fun _ h => h) rfl (dk kX1_move_ok 41 rfl) ?_
        refine lv_iload hx hb (dk kX1_move_ok 42 rfl) (lv_at hl 0 rfl) ?_
        refine lv_iload_n hx hb (dk kX1_move_ok 43 rfl) rfl (lv_at hl 3 rfl) ?_
        refine ast (mSet cI F k (scl v q 16 (scl v (-1) 16 c (nI w)) (nI w)) (upd b w (top (scl v (-1) 16 c (nI w)) v q)) (upd v (ix (top (scl v (-1) 16 c (nI w)) v q)) (nI w))) (j := (ix (top (scl v (-1) 16 c (nI w)) v q))) hx hb hK hDi hP hS hk3 (mSet_at hM).2.2.2 (wk_eq h3) (wk_lt h3) (by decide) (dk kX1_move_ok 44 rfl) mSet_v (fun H locs hP hS => ?_)
        exact hret _ _ _ _ _ _ _ (by refine ⟨rfl, ?_⟩; simp [mov1, mov2, mov3, movt, cutv, h1, h2, h3]) hP hS (by decide) (by decide) (dk kX1_move_ok 45 rfl)
    · skip
      refine lv_aload_n hx hb (dk kX1_move_ok 20 rfl) rfl (lv_at hl 1 rfl) ?_
      refine lv_iload_n hx hb (dk kX1_move_ok 21 rfl) rfl (lv_at hl 2 rfl) ?_
      refine cvDv (As := [.int (nI w)]) (rest := []) (mSet cI F k (scl v (-1) 16 c (nI w)) ((sep 16 b v (nI w)).1) ((sep 16 b v (nI w)).2)) ⟨hx, hb, hml, hown, hts⟩ (tX1_separate l D cI cQ cL ad N (mSet cI F k (scl v (-1) 16 c (nI w)) b v) k hk (scl v (-1) 16 c (nI w)) b v (mSet_at hM) (nI w) w rfl (by omega)) (cwV9 1 hts mcX1_separate (ac1 _ (List.mem_of_getElem? (i := 5) rfl)) miX1_separate meX1_separate mini_RX1 rfl rfl hdX1_separate ⟨Nat.le_of_ble_eq_true rfl, Nat.le_of_ble_eq_true rfl⟩) hDi hK hP hNW hS hk0 (mSet_at hM).1 rfl rfl hl.1 rfl (Nat.le_of_ble_eq_true rfl) (by decide) (dk kX1_move_ok 22 rfl) mSet_mSet (fun H locs hP hS => ?_)
      exact hret _ _ _ _ _ _ _ (by refine ⟨rfl, ?_⟩; simp [mov1, mov2, mov3, movt, cutv, h1, h2]) hP hS (by decide) (by decide) (dk kX1_move_ok 23 rfl)
  · skip
    refine lv_aload_n hx hb (dk kX1_move_ok 8 rfl) rfl (lv_at hl 1 rfl) ?_
    refine gf hx hb hts (fun w h => List.mem_cons_of_mem _ (acX1 w h)) hown hK hP hk0 (mSet_at hM).1 rfl 2 (by decide) (hts _ (List.mem_cons_of_mem _ (ac0 _ (List.mem_of_getElem? (i := 13) rfl)))) (fun _ h => h) rfl (dk kX1_move_ok 9 rfl) ?_
    refine lv_iload_n hx hb (dk kX1_move_ok 10 rfl) rfl (lv_at hl 0 rfl) ?_
    refine lv_iconst (v := -1) hx hb (dk kX1_move_ok 11 rfl) rfl ?_
    refine ast (mSet cI F k c b (upd v (ix (b w)) (-1))) (j := (ix (b w))) hx hb hK hDi hP hS hk3 (mSet_at hM).2.2.2 (wk_eq h1) (wk_lt h1) (by decide) (dk kX1_move_ok 12 rfl) mSet_v (fun H locs hP hS => ?_)
    refine lv_aload_n hx hb (dk kX1_move_ok 13 rfl) rfl (lv_at hl 1 rfl) ?_
    refine lv_iload_n hx hb (dk kX1_move_ok 14 rfl) rfl (lv_at hl 2 rfl) ?_
    refine lv_iconst (v := -1) hx hb (dk kX1_move_ok 15 rfl) rfl ?_
    refine cvDv (As := [.int (nI w), .int (-1)]) (rest := []) (mSet cI F k (scl (upd v (ix (b w)) (-1)) (-1) 16 c (nI w)) b (upd v (ix (b w)) (-1))) ⟨hx, hb, hml, hown, hts⟩ (tX1_setCells l D cI cQ cL ad N (mSet cI F k c b (upd v (ix (b w)) (-1))) k hk c b (upd v (ix (b w)) (-1)) (mSet_at hM) (nI w) w rfl (by omega) (-1)) (cwV9 2 hts mcX1_setCells (ac1 _ (List.mem_of_getElem? (i := 0) rfl)) miX1_setCells meX1_setCells mini_RX1 rfl rfl hdX1_setCells ⟨Nat.le_of_ble_eq_true rfl, Nat.le_of_ble_eq_true rfl⟩) hDi hK hP hNW hS hk0 (mSet_at hM).1 rfl rfl hl.1 rfl (Nat.le_of_ble_eq_true rfl) (by decide) (dk kX1_move_ok 16 rfl) mSet_mSet (fun H locs hP hS => ?_)
    refine lv_iload_n hx hb (dk kX1_move_ok 17 rfl) rfl (lv_at hl 3 rfl) ?_
    refine lv_bipush (v := nI 84) hx hb (dk kX1_move_ok 18 rfl) rfl ?_
    refine lv_icmp_ne (tgt := 39) hx hb (dk kX1_move_ok 19 rfl) (by decide) (fun h4 => ?_) (fun h4 => ?_)
    · skip
      refine lv_aload_n hx hb (dk kX1_move_ok 24 rfl) rfl (lv_at hl 1 rfl) ?_
      refine lv_iload_n hx hb (dk kX1_move_ok 25 rfl) rfl (lv_at hl 3 rfl) ?_
      refine cvR (As := [.int q]) (rest := []) ⟨hx, hb, hml, hown, hts⟩ (tX1_topAt l D cI cQ cL ad N (mSet cI F k (scl (upd v (ix (b w)) (-1)) (-1) 16 c (nI w)) b (upd v (ix (b w)) (-1))) k hk (scl (upd v (ix (b w)) (-1)) (-1) 16 c (nI w)) b (upd v (ix (b w)) (-1)) (mSet_at hM) q) (cwV9 1 hts mcX1_topAt (ac1 _ (List.mem_of_getElem? (i := 9) rfl)) miX1_topAt meX1_topAt mini_RX1 rfl rfl hdX1_topAt ⟨Nat.le_of_ble_eq_true rfl, Nat.le_of_ble_eq_true rfl⟩) hK hP hNW hk0 (mSet_at hM).1 rfl rfl hl.1 rfl (Nat.le_of_ble_eq_true rfl) (by decide) (dk kX1_move_ok 26 rfl) ?_
      refine lv_istore (lv' := [(4, .int (top (scl (upd v (ix (b w)) (-1)) (-1) 16 c (nI w)) (upd v (ix (b w)) (-1)) q)), (3, .int (b w)), (0, .ref (ad k)), (1, .int (nI w)), (2, .int q)]) hx hb (dk kX1_move_ok 27 rfl) hl (by decide) rfl (fun ls hl => ?_)
      refine lv_aload_n hx hb (dk kX1_move_ok 28 rfl) rfl (lv_at hl 2 rfl) ?_
      refine lv_iload_n hx hb (dk kX1_move_ok 29 rfl) rfl (lv_at hl 3 rfl) ?_
      refine lv_iload_n hx hb (dk kX1_move_ok 30 rfl) rfl (lv_at hl 4 rfl) ?_
      refine cvDv (As := [.int (nI w), .int q]) (rest := []) (mSet cI F k (scl (upd v (ix (b w)) (-1)) q 16 (scl (upd v (ix (b w)) (-1)) (-1) 16 c (nI w)) (nI w)) b (upd v (ix (b w)) (-1))) ⟨hx, hb, hml, hown, hts⟩ (tX1_setCells l D cI cQ cL ad N (mSet cI F k (scl (upd v (ix (b w)) (-1)) (-1) 16 c (nI w)) b (upd v (ix (b w)) (-1))) k hk (scl (upd v (ix (b w)) (-1)) (-1) 16 c (nI w)) b (upd v (ix (b w)) (-1)) (mSet_at hM) (nI w) w rfl (by omega) q) (cwV9 2 hts mcX1_setCells (ac1 _ (List.mem_of_getElem? (i := 0) rfl)) miX1_setCells meX1_setCells mini_RX1 rfl rfl hdX1_setCells ⟨Nat.le_of_ble_eq_true rfl, Nat.le_of_ble_eq_true rfl⟩) hDi hK hP hNW hS hk0 (mSet_at hM).1 rfl rfl hl.1 rfl (Nat.le_of_ble_eq_true rfl) (by decide) (dk kX1_move_ok 31 rfl) mSet_mSet (fun H locs hP hS => ?_)
      refine lv_aload_n hx hb (dk kX1_move_ok 32 rfl) rfl (lv_at hl 2 rfl) ?_
      refine gf hx hb hts (fun w h => List.mem_cons_of_mem _ (acX1 w h)) hown hK hP hk0 (mSet_at hM).1 rfl 1 (by decide) (hts _ (List.mem_cons_of_mem _ (ac0 _ (List.mem_of_getElem? (i := 12) rfl)))) (fun _ h => h) rfl (dk kX1_move_ok 33 rfl) ?_
      refine lv_iload_n hx hb (dk kX1_move_ok 34 rfl) rfl (lv_at hl 3 rfl) ?_
      refine lv_iload hx hb (dk kX1_move_ok 35 rfl) (lv_at hl 0 rfl) ?_
      refine ast (mSet cI F k (scl (upd v (ix (b w)) (-1)) q 16 (scl (upd v (ix (b w)) (-1)) (-1) 16 c (nI w)) (nI w)) (upd b w (top (scl (upd v (ix (b w)) (-1)) (-1) 16 c (nI w)) (upd v (ix (b w)) (-1)) q)) (upd v (ix (b w)) (-1))) (j := w) hx hb hK hDi hP hS hk2 (mSet_at hM).2.2.1 rfl (by omega) (by decide) (dk kX1_move_ok 36 rfl) mSet_b (fun H locs hP hS => ?_)
      refine lv_iload hx hb (dk kX1_move_ok 37 rfl) (lv_at hl 0 rfl) ?_
      refine csPN (As := [.int (top (scl (upd v (ix (b w)) (-1)) (-1) 16 c (nI w)) (upd v (ix (b w)) (-1)) q)]) (rest := []) ⟨hx, hb, hml, hown, hts⟩ (tX5_isWink l (top (scl (upd v (ix (b w)) (-1)) (-1) 16 c (nI w)) (upd v (ix (b w)) (-1)) q)) (cwN9 1 hts mcX5_isWink (nm7 hNW) mini_RX5 rfl rfl hdX5_isWink ⟨Nat.le_of_ble_eq_true rfl, Nat.le_of_ble_eq_true rfl⟩) (hts _ (List.mem_cons_of_mem _ msX5_isWink)) rfl hl.1 rfl (Nat.le_of_ble_eq_true rfl) (by decide) (dk kX1_move_ok 38 rfl) ?_
      refine b_if_eq (tgt := 76) hx hb (dk kX1_move_ok 39 rfl) (by decide) (fun h5 => ?_) (fun h5 => ?_)
      · skip
        exact hret _ _ _ _ _ _ _ (by refine ⟨rfl, ?_⟩; simp [mov1, mov2, mov3, movt, cutv, h1, h4, h5]) hP hS (by decide) (by decide) (dk kX1_move_ok 45 rfl)
      · skip
        refine lv_aload_n hx hb (dk kX1_move_ok 40 rfl) rfl (lv_at hl 2 rfl) ?_
        refine gf hx hb hts (fun w h => List.mem_cons_of_mem _ (acX1 w h)) hown hK hP hk0 (mSet_at hM).1 rfl 2 (by decide) (hts _ (List.mem_cons_of_mem _ (ac0 _ (List.mem_of_getElem? (i := 13) rfl)))) (fun _ h => h) rfl (dk kX1_move_ok 41 rfl) ?_
        refine lv_iload hx hb (dk kX1_move_ok 42 rfl) (lv_at hl 0 rfl) ?_
        refine lv_iload_n hx hb (dk kX1_move_ok 43 rfl) rfl (lv_at hl 3 rfl) ?_
        refine ast (mSet cI F k (scl (upd v (ix (b w)) (-1)) q 16 (scl (upd v (ix (b w)) (-1)) (-1) 16 c (nI w)) (nI w)) (upd b w (top (scl (upd v (ix (b w)) (-1)) (-1) 16 c (nI w)) (upd v (ix (b w)) (-1)) q)) (upd (upd v (ix (b w)) (-1)) (ix (top (scl (upd v (ix (b w)) (-1)) (-1) 16 c (nI w)) (upd v (ix (b w)) (-1)) q)) (nI w))) (j := (ix (top (scl (upd v (ix (b w)) (-1)) (-1) 16 c (nI w)) (upd v (ix (b w)) (-1)) q))) hx hb hK hDi hP hS hk3 (mSet_at hM).2.2.2 (wk_eq h5) (wk_lt h5) (by decide) (dk kX1_move_ok 44 rfl) mSet_v (fun H locs hP hS => ?_)
        exact hret _ _ _ _ _ _ _ (by refine ⟨rfl, ?_⟩; simp [mov1, mov2, mov3, movt, cutv, h1, h4, h5]) hP hS (by decide) (by decide) (dk kX1_move_ok 45 rfl)
    · skip
      refine lv_aload_n hx hb (dk kX1_move_ok 20 rfl) rfl (lv_at hl 1 rfl) ?_
      refine lv_iload_n hx hb (dk kX1_move_ok 21 rfl) rfl (lv_at hl 2 rfl) ?_
      refine cvDv (As := [.int (nI w)]) (rest := []) (mSet cI F k (scl (upd v (ix (b w)) (-1)) (-1) 16 c (nI w)) ((sep 16 b (upd v (ix (b w)) (-1)) (nI w)).1) ((sep 16 b (upd v (ix (b w)) (-1)) (nI w)).2)) ⟨hx, hb, hml, hown, hts⟩ (tX1_separate l D cI cQ cL ad N (mSet cI F k (scl (upd v (ix (b w)) (-1)) (-1) 16 c (nI w)) b (upd v (ix (b w)) (-1))) k hk (scl (upd v (ix (b w)) (-1)) (-1) 16 c (nI w)) b (upd v (ix (b w)) (-1)) (mSet_at hM) (nI w) w rfl (by omega)) (cwV9 1 hts mcX1_separate (ac1 _ (List.mem_of_getElem? (i := 5) rfl)) miX1_separate meX1_separate mini_RX1 rfl rfl hdX1_separate ⟨Nat.le_of_ble_eq_true rfl, Nat.le_of_ble_eq_true rfl⟩) hDi hK hP hNW hS hk0 (mSet_at hM).1 rfl rfl hl.1 rfl (Nat.le_of_ble_eq_true rfl) (by decide) (dk kX1_move_ok 22 rfl) mSet_mSet (fun H locs hP hS => ?_)
      exact hret _ _ _ _ _ _ _ (by refine ⟨rfl, ?_⟩; simp [mov1, mov2, mov3, movt, cutv, h1, h4]) hP hS (by decide) (by decide) (dk kX1_move_ok 23 rfl)
end
section
theorem mSet_oth {cI : ClassId} {ad : Nat → Nat} {F : Nat → va_E} {k k2 : Nat} {c b v c' b' v' : Nat → Int32} (h : matAt cI ad F k2 c' b' v') (hd : k + 3 < k2 ∨ k2 + 3 < k) : matAt cI ad (mSet cI F k c b v) k2 c' b' v' := by
  obtain ⟨h0, h1, h2, h3⟩ := h
  refine ⟨?_, ?_, ?_, ?_⟩
  · rw [mSet_out (by omega)]; exact h0
  · rw [mSet_out (by omega)]; exact h1
  · rw [mSet_out (by omega)]; exact h2
  · rw [mSet_out (by omega)]; exact h3
-- a State: its mat, flights, fouls, lost turns, the turn, lifts, the setting
def stAt (cI : ClassId) (ad : Nat → Nat) (F : Nat → va_E) (k : Nat) (c b v g h j : Nat → Int32) (t u z : Int32) : Prop :=
  F k = .inr (4, [.ref (ad (k + 1)), .ref (ad (k + 5)), .ref (ad (k + 6)), .ref (ad (k + 7)), .int t, .int u, .int z]) ∧ matAt cI ad F (k + 1) c b v ∧ F (k + 5) = .inl (cI, 16, .inl g) ∧ F (k + 6) = .inl (cI, 4, .inl h) ∧ F (k + 7) = .inl (cI, 4, .inl j)
def sSet (cI : ClassId) (ad : Nat → Nat) (F : Nat → va_E) (k : Nat) (c b v g h j : Nat → Int32) (t u z : Int32) : Nat → va_E := fun i => if i = k then .inr (4, [.ref (ad (k + 1)), .ref (ad (k + 5)), .ref (ad (k + 6)), .ref (ad (k + 7)), .int t, .int u, .int z]) else if i = k + 5 then .inl (cI, 16, .inl g) else if i = k + 6 then .inl (cI, 4, .inl h) else if i = k + 7 then .inl (cI, 4, .inl j) else mSet cI F (k + 1) c b v i
section SS
variable {cI : ClassId} {ad : Nat → Nat} {F : Nat → va_E} {k : Nat} {c b v g h j c' b' v' g' h' j' : Nat → Int32} {t u z t' u' z' : Int32}
theorem sSet_self (H : stAt cI ad F k c b v g h j t u z) : sSet cI ad F k c b v g h j t u z = F := by
  funext i
  obtain ⟨h0, h1, h2, h3, h4⟩ := H
  unfold sSet
  split
  · next e => rw [e, h0]
  · split
    · next e => rw [e, h2]
    · split
      · next e => rw [e, h3]
      · split
        · next e => rw [e, h4]
        · rw [mSet_self h1]
theorem sSet_out {i : Nat} (hi : i < k ∨ k + 7 < i) : sSet cI ad F k c b v g h j t u z i = F i := by
  unfold sSet
  rw [if_neg (by omega), if_neg (by omega), if_neg (by omega), if_neg (by omega), mSet_out (by omega)]
theorem sSet_at (H : stAt cI ad F k c b v g h j t u z) : stAt cI ad (sSet cI ad F k c' b' v' g' h' j' t' u' z') k c' b' v' g' h' j' t' u' z' := by
  obtain ⟨-, ⟨h1, -, -, -⟩, -, -, -⟩ := H
  refine ⟨by simp [sSet], ⟨?_, ?_, ?_, ?_⟩, by simp [sSet], by simp [sSet], by simp [sSet]⟩
  · simp [sSet, mSet, h1]
  · simp [sSet, mSet]; omega
  · simp [sSet, mSet]; omega
  · simp [sSet, mSet]; omega
theorem sSet_sSet : sSet cI ad (sSet cI ad F k c b v g h j t u z) k c' b' v' g' h' j' t' u' z' = sSet cI ad F k c' b' v' g' h' j' t' u' z' := by
  funext i
  simp only [sSet]
  by_cases e0 : i = k
  · rw [if_pos e0, if_pos e0]
  rw [if_neg e0, if_neg e0]
  by_cases e1 : i = k + 5
  · rw [if_pos e1, if_pos e1]
  rw [if_neg e1, if_neg e1]
  by_cases e2 : i = k + 6
  · rw [if_pos e2, if_pos e2]
  rw [if_neg e2, if_neg e2]
  by_cases e3 : i = k + 7
  · rw [if_pos e3, if_pos e3]
  rw [if_neg e3, if_neg e3]
  simp only [mSet]
  by_cases e4 : i = k + 1 + 1
  · rw [if_pos e4, if_pos e4]
  rw [if_neg e4, if_neg e4]
  by_cases e5 : i = k + 1 + 2
  · rw [if_pos e5, if_pos e5]
  rw [if_neg e5, if_neg e5]
  by_cases e6 : i = k + 1 + 3
  · rw [if_pos e6, if_pos e6]
  rw [if_neg e6, if_neg e6]
  simp only [sSet, mSet]
  rw [if_neg e0, if_neg e1, if_neg e2, if_neg e3, if_neg e4, if_neg e5, if_neg e6]
theorem sSet_m : mSet cI (sSet cI ad F k c b v g h j t u z) (k + 1) c' b' v' = sSet cI ad F k c' b' v' g h j t u z := by
  funext i
  simp only [sSet, mSet]
  repeat' split
  all_goals first | rfl | omega
theorem sSet_g : va_up (sSet cI ad F k c b v g h j t u z) (k + 5) (.inl (cI, 16, .inl g')) = sSet cI ad F k c b v g' h j t u z := by
  funext i
  simp only [va_up, sSet]
  repeat' split
  all_goals first | rfl | omega
theorem sSet_h : va_up (sSet cI ad F k c b v g h j t u z) (k + 6) (.inl (cI, 4, .inl h')) = sSet cI ad F k c b v g h' j t u z := by
  funext i
  simp only [va_up, sSet]
  repeat' split
  all_goals first | rfl | omega
theorem sSet_j : va_up (sSet cI ad F k c b v g h j t u z) (k + 7) (.inl (cI, 4, .inl j')) = sSet cI ad F k c b v g h j' t u z := by
  funext i
  simp only [va_up, sSet]
  repeat' split
  all_goals first | rfl | omega
theorem sSet_0 : va_up (sSet cI ad F k c b v g h j t u z) k (.inr (4, [.ref (ad (k + 1)), .ref (ad (k + 5)), .ref (ad (k + 6)), .ref (ad (k + 7)), .int t', .int u', .int z'])) = sSet cI ad F k c b v g h j t' u' z' := by
  funext i
  simp only [va_up, sSet]
  repeat' split
  all_goals first | rfl | omega
theorem sSet_oth {k2 : Nat} (H : stAt cI ad F k2 c' b' v' g' h' j' t' u' z') (hd : k + 7 < k2 ∨ k2 + 7 < k) : stAt cI ad (sSet cI ad F k c b v g h j t u z) k2 c' b' v' g' h' j' t' u' z' := by
  obtain ⟨h0, ⟨h1, h2, h3, h4⟩, h5, h6, h7⟩ := H
  refine ⟨?_, ⟨?_, ?_, ?_, ?_⟩, ?_, ?_, ?_⟩
  · rw [sSet_out (by omega)]; exact h0
  · rw [sSet_out (by omega)]; exact h1
  · rw [sSet_out (by omega)]; exact h2
  · rw [sSet_out (by omega)]; exact h3
  · rw [sSet_out (by omega)]; exact h4
  · rw [sSet_out (by omega)]; exact h5
  · rw [sSet_out (by omega)]; exact h6
  · rw [sSet_out (by omega)]; exact h7
end SS
def wnf (c v : Nat → Int32) (t w : Nat) : Nat := if over c = true then 1 else if ¬ w / 4 = t then 2 else if pot c w = true then 3 else if cov v w = true then 4 else 0
theorem wnf_le (c v : Nat → Int32) (t w : Nat) : wnf c v t w ≤ 4 := by
  unfold wnf
  repeat' split
  all_goals omega
def wnl (c b v : Nat → Int32) (t : Nat) (z x y : Int32) (n : Nat) (d : Int32) : Nat := if over c = true then 1 else if low c b v (cat x y) n = -1 then 2 else if ¬ top c v (cat x y) / nI 4 = nI t then 3 else if ¬ nI n ≤ z then 4 else if beside x y d = -1 then 5 else 0
theorem wnl_le (c b v : Nat → Int32) (t : Nat) (z x y : Int32) (n : Nat) (d : Int32) : wnl c b v t z x y n d ≤ 5 := by
  unfold wnl
  repeat' split
  all_goals omega
/-- to the next colour: steps, lost turns, from which one on -/
def pasg (c : Nat → Int32) (t : Nat) : Nat → (Nat → Int32) → Nat → (Nat → Int32) × Nat
  | 0, j, _ => (j, t)
  | n + 1, j, q => if potc c ((q + 1) % 4) = 4 then pasg c t n j ((q + 1) % 4) else if j ((q + 1) % 4) = 0 then (j, (q + 1) % 4) else pasg c t n (upd j ((q + 1) % 4) (j ((q + 1) % 4) - nI 1)) ((q + 1) % 4)
theorem pasg_lt (c : Nat → Int32) (t : Nat) (ht : t < 4) : ∀ (n : Nat) (j : Nat → Int32) (q : Nat), (pasg c t n j q).2 < 4
  | 0, _, _ => ht
  | n + 1, j, q => by
    simp only [pasg]
    split
    · exact pasg_lt c t ht n _ _
    · split
      · exact Nat.mod_lt _ (by decide)
      · exact pasg_lt c t ht n _ _
-- a flight that is allowed
def flE (c : Nat → Int32) (w : Nat) (d : Int32) (f : Nat) : Int32 := ldg (c w) d (stp w f)
def flH (h : Nat → Int32) (w : Nat) (q : Int32) : Nat → Int32 := if q = -1 then upd h (w / 4) (h (w / 4) + nI 1) else h
def flP (c' : Nat → Int32) (t w : Nat) (q : Int32) (j : Nat → Int32) : (Nat → Int32) × Nat := if ¬ q = nI 84 ∨ potc c' (w / 4) = 4 then pasg c' t 8 j t else (j, t)
theorem flP_lt (c' : Nat → Int32) (t w : Nat) (ht : t < 4) (q : Int32) (j : Nat → Int32) : (flP c' t w q j).2 < 4 := by
  unfold flP
  split
  · exact pasg_lt _ _ ht _ _ _
  · exact ht
-- a lift that is allowed
def liC (c b v : Nat → Int32) (x y : Int32) (n : Nat) (d : Int32) : Nat → Int32 := if wk (low c b v (cat x y) n) = true then mov1 c b v (ix (low c b v (cat x y) n)) (beside x y d) else c
def liB (c b v : Nat → Int32) (x y : Int32) (n : Nat) (d : Int32) : Nat → Int32 := if wk (low c b v (cat x y) n) = true then mov2 c b v (ix (low c b v (cat x y) n)) (beside x y d) else b
def liV (c b v : Nat → Int32) (x y : Int32) (n : Nat) (d : Int32) : Nat → Int32 := if wk (low c b v (cat x y) n) = true then mov3 c b v (ix (low c b v (cat x y) n)) (beside x y d) else v
def smi (f : Nat → Int32) : Nat → Int32
  | 0 => nI 0
  | n + 1 => smi f n + f n
end
section
set_option maxRecDepth 100000 in
set_option maxHeartbeats 4000000 in
theorem tX1_copyFrom (l : Launch) (D : va_G) (cI cQ cL : ClassId) (ad : Nat → Nat) (N : Nat) (F : Nat → va_E) (k : Nat) (hk : k + 3 < N) (c b v : Nat → Int32) (hM : matAt cI ad F k c b v) (k2 : Nat) (hq : k2 + 3 < N) (hd : k + 3 < k2 ∨ k2 + 3 < k) (c2 b2 v2 : Nat → Int32) (hM2 : matAt cI ad F k2 c2 b2 v2) : MX l yX1_copyFrom (Cond.code yX1_copyFrom cX1_copyFrom 2 none :: AW) ({ frames := 1, cells := 0, slots := 0, locals := 18 } : Room) D cI cQ cL ad N F [.ref (ad k), .ref (ad k2)] (dp none (mSet cI F k c2 b2 v2)) 0 0 := by
  refine mx_v (by decide +kernel) rfl (Nat.le_of_ble_eq_true rfl) (fun p e s m below meth cd Q ls hx hb hml hown hts hDi hP hK hNW hS hret hl => ?_)
  have hown : s.vm.findClass RX1 = some m.cls := hown
  have hk0 : k < N := by omega
  have hk1 : k + 1 < N := by omega
  have hk2 : k + 2 < N := by omega
  have hk3 : k + 3 < N := hk
  have hq0 : k2 < N := by omega
  have hq1 : k2 + 1 < N := by omega
  have hq2 : k2 + 2 < N := by omega
  have hq3 : k2 + 3 < N := hq
  have hP : va_P D vwCl (iW ad N (mSet cI F k c b v)) s.heap := by rw [mSet_self hM]; exact hP
  have hl : lv_has ls 2 [(0, .ref (ad k)), (1, .ref (ad k2))] := hl
  refine lv_aload_n hx hb (dk kX1_copyFrom_ok 0 rfl) rfl (lv_at hl 1 rfl) ?_
  refine gf hx hb hts (fun w h => List.mem_cons_of_mem _ (acX1 w h)) hown hK hP hq0 (mSet_oth hM2 hd).1 rfl 0 (by decide) (hts _ (List.mem_cons_of_mem _ (ac0 _ (List.mem_of_getElem? (i := 11) rfl)))) (fun _ h => h) rfl (dk kX1_copyFrom_ok 1 rfl) ?_
  refine lv_iconst (v := nI 0) hx hb (dk kX1_copyFrom_ok 2 rfl) rfl ?_
  refine lv_aload_n hx hb (dk kX1_copyFrom_ok 3 rfl) rfl (lv_at hl 0 rfl) ?_
  refine gf hx hb hts (fun w h => List.mem_cons_of_mem _ (acX1 w h)) hown hK hP hk0 (mSet_at hM).1 rfl 0 (by decide) (hts _ (List.mem_cons_of_mem _ (ac0 _ (List.mem_of_getElem? (i := 11) rfl)))) (fun _ h => h) rfl (dk kX1_copyFrom_ok 4 rfl) ?_
  refine lv_iconst (v := nI 0) hx hb (dk kX1_copyFrom_ok 5 rfl) rfl ?_
  refine lv_bipush (v := nI 16) hx hb (dk kX1_copyFrom_ok 6 rfl) rfl ?_
  refine cpy (mSet cI F k c2 b v) hx hb (by rw [hml, hl.1]) hown (hts _ (List.mem_cons_of_mem _ (ac0 _ (List.mem_of_getElem? (i := 18) rfl)))) (hts _ (List.mem_cons_of_mem _ (ac0 _ (List.mem_of_getElem? (i := 19) rfl)))) (hts _ (List.mem_cons_of_mem _ (ac0 _ (List.mem_of_getElem? (i := 20) rfl)))) (hts _ (List.mem_cons_of_mem _ (ac0 _ (List.mem_of_getElem? (i := 21) rfl)))) hK hDi hP hS hq1 (mSet_oth hM2 hd).2.1 hk1 (mSet_at hM).2.1 (by decide) (Nat.le_of_ble_eq_true rfl) (Nat.le_of_ble_eq_true rfl) (dk kX1_copyFrom_ok 7 rfl) mSet_c (fun H locs hP hS => ?_)
  refine lv_aload_n hx hb (dk kX1_copyFrom_ok 8 rfl) rfl (lv_at hl 1 rfl) ?_
  refine gf hx hb hts (fun w h => List.mem_cons_of_mem _ (acX1 w h)) hown hK hP hq0 (mSet_oth hM2 hd).1 rfl 1 (by decide) (hts _ (List.mem_cons_of_mem _ (ac0 _ (List.mem_of_getElem? (i := 12) rfl)))) (fun _ h => h) rfl (dk kX1_copyFrom_ok 9 rfl) ?_
  refine lv_iconst (v := nI 0) hx hb (dk kX1_copyFrom_ok 10 rfl) rfl ?_
  refine lv_aload_n hx hb (dk kX1_copyFrom_ok 11 rfl) rfl (lv_at hl 0 rfl) ?_
  refine gf hx hb hts (fun w h => List.mem_cons_of_mem _ (acX1 w h)) hown hK hP hk0 (mSet_at hM).1 rfl 1 (by decide) (hts _ (List.mem_cons_of_mem _ (ac0 _ (List.mem_of_getElem? (i := 12) rfl)))) (fun _ h => h) rfl (dk kX1_copyFrom_ok 12 rfl) ?_
  refine lv_iconst (v := nI 0) hx hb (dk kX1_copyFrom_ok 13 rfl) rfl ?_
  refine lv_bipush (v := nI 16) hx hb (dk kX1_copyFrom_ok 14 rfl) rfl ?_
  refine cpy (mSet cI F k c2 b2 v) hx hb (by rw [hml, hl.1]) hown (hts _ (List.mem_cons_of_mem _ (ac0 _ (List.mem_of_getElem? (i := 18) rfl)))) (hts _ (List.mem_cons_of_mem _ (ac0 _ (List.mem_of_getElem? (i := 19) rfl)))) (hts _ (List.mem_cons_of_mem _ (ac0 _ (List.mem_of_getElem? (i := 20) rfl)))) (hts _ (List.mem_cons_of_mem _ (ac0 _ (List.mem_of_getElem? (i := 21) rfl)))) hK hDi hP hS hq2 (mSet_oth hM2 hd).2.2.1 hk2 (mSet_at hM).2.2.1 (by decide) (Nat.le_of_ble_eq_true rfl) (Nat.le_of_ble_eq_true rfl) (dk kX1_copyFrom_ok 15 rfl) mSet_b (fun H locs hP hS => ?_)
  refine lv_aload_n hx hb (dk kX1_copyFrom_ok 16 rfl) rfl (lv_at hl 1 rfl) ?_
  refine gf hx hb hts (fun w h => List.mem_cons_of_mem _ (acX1 w h)) hown hK hP hq0 (mSet_oth hM2 hd).1 rfl 2 (by decide) (hts _ (List.mem_cons_of_mem _ (ac0 _ (List.mem_of_getElem? (i := 13) rfl)))) (fun _ h => h) rfl (dk kX1_copyFrom_ok 17 rfl) ?_
  refine lv_iconst (v := nI 0) hx hb (dk kX1_copyFrom_ok 18 rfl) rfl ?_
  refine lv_aload_n hx hb (dk kX1_copyFrom_ok 19 rfl) rfl (lv_at hl 0 rfl) ?_
  refine gf hx hb hts (fun w h => List.mem_cons_of_mem _ (acX1 w h)) hown hK hP hk0 (mSet_at hM).1 rfl 2 (by decide) (hts _ (List.mem_cons_of_mem _ (ac0 _ (List.mem_of_getElem? (i := 13) rfl)))) (fun _ h => h) rfl (dk kX1_copyFrom_ok 20 rfl) ?_
  refine lv_iconst (v := nI 0) hx hb (dk kX1_copyFrom_ok 21 rfl) rfl ?_
  refine lv_bipush (v := nI 16) hx hb (dk kX1_copyFrom_ok 22 rfl) rfl ?_
  refine cpy (mSet cI F k c2 b2 v2) hx hb (by rw [hml, hl.1]) hown (hts _ (List.mem_cons_of_mem _ (ac0 _ (List.mem_of_getElem? (i := 18) rfl)))) (hts _ (List.mem_cons_of_mem _ (ac0 _ (List.mem_of_getElem? (i := 19) rfl)))) (hts _ (List.mem_cons_of_mem _ (ac0 _ (List.mem_of_getElem? (i := 20) rfl)))) (hts _ (List.mem_cons_of_mem _ (ac0 _ (List.mem_of_getElem? (i := 21) rfl)))) hK hDi hP hS hq3 (mSet_oth hM2 hd).2.2.2 hk3 (mSet_at hM).2.2.2 (by decide) (Nat.le_of_ble_eq_true rfl) (Nat.le_of_ble_eq_true rfl) (dk kX1_copyFrom_ok 23 rfl) mSet_v (fun H locs hP hS => ?_)
  exact hret _ _ _ _ _ _ _ (by exact ⟨rfl, rfl⟩) hP hS (by decide) (by decide) (dk kX1_copyFrom_ok 24 rfl)
set_option maxRecDepth 100000 in
set_option maxHeartbeats 4000000 in
theorem tX4_whyNotFlown (l : Launch) (D : va_G) (cI cQ cL : ClassId) (ad : Nat → Nat) (N : Nat) (F : Nat → va_E) (k : Nat) (hk : k + 7 < N) (c b v g h j : Nat → Int32) (t : Nat) (u z : Int32) (hS0 : stAt cI ad F k c b v g h j (nI t) u z) (ht : t < 4) (x : Int32) (w : Nat) (hxw : x = nI w) (hw : w < 16) : MR l yX4_whyNotFlown (Cond.code yX4_whyNotFlown cX4_whyNotFlown 2 (some .int) :: AW) ({ frames := 3, cells := 0, slots := 0, locals := 65 } : Room) D cI cQ cL ad N F [.ref (ad k), .int x] (.int (nI (wnf c v t w))) := by
  refine mr_i (ty := .int) (by decide +kernel) rfl rfl rfl rfl (Nat.le_of_ble_eq_true rfl) (fun p e s m below meth cd Q ls hx hb hml hown hts hP hK hNW hret hl => ?_)
  have hown : s.vm.findClass RX4 = some m.cls := hown
  subst hxw
  have hk0 : k < N := by omega
  have hk1 : k + 1 < N := by omega
  have hk11 : k + 1 + 1 < N := by omega
  have hk12 : k + 1 + 2 < N := by omega
  have hk13 : k + 1 + 3 < N := by omega
  have hkm : k + 1 + 3 < N := by omega
  have hk5 : k + 5 < N := by omega
  have hk6 : k + 6 < N := by omega
  have hk7 : k + 7 < N := hk
  have hl : lv_has ls 2 [(0, .ref (ad k)), (1, .int (nI w))] := hl
  refine lv_aload_n hx hb (dk kX4_whyNotFlown_ok 0 rfl) rfl (lv_at hl 0 rfl) ?_
  refine gf hx hb hts (fun w h => List.mem_cons_of_mem _ (acX4 w h)) hown hK hP hk0 hS0.1 rfl 0 (by decide) (hts _ (List.mem_cons_of_mem _ (ac3 _ (List.mem_of_getElem? (i := 16) rfl)))) (fun _ h => h) rfl (dk kX4_whyNotFlown_ok 1 rfl) ?_
  refine cvR (As := []) (rest := []) ⟨hx, hb, hml, hown, hts⟩ (tX1_isOver l D cI cQ cL ad N F (k + 1) hkm c b v hS0.2.1) (cwV9 0 hts mcX1_isOver (ac5 _ (List.mem_of_getElem? (i := 23) rfl)) miX1_isOver meX1_isOver mini_RX1 rfl rfl hdX1_isOver ⟨Nat.le_of_ble_eq_true rfl, Nat.le_of_ble_eq_true rfl⟩) hK hP hNW hk1 hS0.2.1.1 rfl rfl hl.1 rfl (Nat.le_of_ble_eq_true rfl) (by decide) (dk kX4_whyNotFlown_ok 2 rfl) ?_
  refine b_if_eq (tgt := 12) hx hb (dk kX4_whyNotFlown_ok 3 rfl) (by decide) (fun h1 => ?_) (fun h1 => ?_)
  · skip
    refine lv_iload_n hx hb (dk kX4_whyNotFlown_ok 6 rfl) rfl (lv_at hl 1 rfl) ?_
    refine csPN (As := [.int (nI w)]) (rest := []) ⟨hx, hb, hml, hown, hts⟩ (tX5_colourOf l (nI w) w rfl (by omega)) (cwN9 1 hts mcX5_colourOf (nm6 hNW) mini_RX5 rfl rfl hdX5_colourOf ⟨Nat.le_of_ble_eq_true rfl, Nat.le_of_ble_eq_true rfl⟩) (hts _ (List.mem_cons_of_mem _ msX5_colourOf)) rfl hl.1 rfl (Nat.le_of_ble_eq_true rfl) (by decide) (dk kX4_whyNotFlown_ok 7 rfl) ?_
    refine lv_aload_n hx hb (dk kX4_whyNotFlown_ok 8 rfl) rfl (lv_at hl 0 rfl) ?_
    refine gf hx hb hts (fun w h => List.mem_cons_of_mem _ (acX4 w h)) hown hK hP hk0 hS0.1 rfl 4 (by decide) (hts _ (List.mem_cons_of_mem _ (ac3 _ (List.mem_of_getElem? (i := 20) rfl)))) (fun _ h => h) rfl (dk kX4_whyNotFlown_ok 9 rfl) ?_
    refine n_icmp_eq (tgt := 25) hx hb (by omega) (by omega) (dk kX4_whyNotFlown_ok 10 rfl) (by decide) (fun h2 => ?_) (fun h2 => ?_)
    · skip
      refine lv_aload_n hx hb (dk kX4_whyNotFlown_ok 13 rfl) rfl (lv_at hl 0 rfl) ?_
      refine gf hx hb hts (fun w h => List.mem_cons_of_mem _ (acX4 w h)) hown hK hP hk0 hS0.1 rfl 0 (by decide) (hts _ (List.mem_cons_of_mem _ (ac3 _ (List.mem_of_getElem? (i := 16) rfl)))) (fun _ h => h) rfl (dk kX4_whyNotFlown_ok 14 rfl) ?_
      refine lv_iload_n hx hb (dk kX4_whyNotFlown_ok 15 rfl) rfl (lv_at hl 1 rfl) ?_
      refine cvR (As := [.int (nI w)]) (rest := []) ⟨hx, hb, hml, hown, hts⟩ (tX1_isPotted l D cI cQ cL ad N F (k + 1) hkm c b v hS0.2.1 (nI w) w rfl (by omega)) (cwV9 1 hts mcX1_isPotted (ac6 _ (List.mem_of_getElem? (i := 3) rfl)) miX1_isPotted meX1_isPotted mini_RX1 rfl rfl hdX1_isPotted ⟨Nat.le_of_ble_eq_true rfl, Nat.le_of_ble_eq_true rfl⟩) hK hP hNW hk1 hS0.2.1.1 rfl rfl hl.1 rfl (Nat.le_of_ble_eq_true rfl) (by decide) (dk kX4_whyNotFlown_ok 16 rfl) ?_
      refine b_if_eq (tgt := 38) hx hb (dk kX4_whyNotFlown_ok 17 rfl) (by decide) (fun h3 => ?_) (fun h3 => ?_)
      · skip
        refine lv_aload_n hx hb (dk kX4_whyNotFlown_ok 20 rfl) rfl (lv_at hl 0 rfl) ?_
        refine gf hx hb hts (fun w h => List.mem_cons_of_mem _ (acX4 w h)) hown hK hP hk0 hS0.1 rfl 0 (by decide) (hts _ (List.mem_cons_of_mem _ (ac3 _ (List.mem_of_getElem? (i := 16) rfl)))) (fun _ h => h) rfl (dk kX4_whyNotFlown_ok 21 rfl) ?_
        refine lv_iload_n hx hb (dk kX4_whyNotFlown_ok 22 rfl) rfl (lv_at hl 1 rfl) ?_
        refine cvR (As := [.int (nI w)]) (rest := []) ⟨hx, hb, hml, hown, hts⟩ (tX1_isCovered l D cI cQ cL ad N F (k + 1) hkm c b v hS0.2.1 (nI w) w rfl (by omega)) (cwV9 1 hts mcX1_isCovered (ac6 _ (List.mem_of_getElem? (i := 4) rfl)) miX1_isCovered meX1_isCovered mini_RX1 rfl rfl hdX1_isCovered ⟨Nat.le_of_ble_eq_true rfl, Nat.le_of_ble_eq_true rfl⟩) hK hP hNW hk1 hS0.2.1.1 rfl rfl hl.1 rfl (Nat.le_of_ble_eq_true rfl) (by decide) (dk kX4_whyNotFlown_ok 23 rfl) ?_
        refine b_if_eq (tgt := 53) hx hb (dk kX4_whyNotFlown_ok 24 rfl) (by decide) (fun h4 => ?_) (fun h4 => ?_)
        · skip
          refine lv_iconst (v := nI 0) hx hb (dk kX4_whyNotFlown_ok 27 rfl) rfl ?_
          exact hret _ _ _ (by simp [wnf, h1, h2, h3, h4]) (dk kX4_whyNotFlown_ok 28 rfl)
        · skip
          refine lv_iconst (v := nI 4) hx hb (dk kX4_whyNotFlown_ok 25 rfl) rfl ?_
          refine lv_goto (tgt := 54) hx hb (dk kX4_whyNotFlown_ok 26 rfl) (by decide) ?_
          exact hret _ _ _ (by simp [wnf, h1, h2, h3, h4]) (dk kX4_whyNotFlown_ok 28 rfl)
      · skip
        refine lv_iconst (v := nI 3) hx hb (dk kX4_whyNotFlown_ok 18 rfl) rfl ?_
        exact hret _ _ _ (by simp [wnf, h1, h2, h3]) (dk kX4_whyNotFlown_ok 19 rfl)
    · skip
      refine lv_iconst (v := nI 2) hx hb (dk kX4_whyNotFlown_ok 11 rfl) rfl ?_
      exact hret _ _ _ (by simp [wnf, h1, h2]) (dk kX4_whyNotFlown_ok 12 rfl)
  · skip
    refine lv_iconst (v := nI 1) hx hb (dk kX4_whyNotFlown_ok 4 rfl) rfl ?_
    exact hret _ _ _ (by simp [wnf, h1]) (dk kX4_whyNotFlown_ok 5 rfl)
set_option maxRecDepth 100000 in
set_option maxHeartbeats 4000000 in
theorem tX4_whyNotLifted (l : Launch) (D : va_G) (cI cQ cL : ClassId) (ad : Nat → Nat) (N : Nat) (F : Nat → va_E) (k : Nat) (hk : k + 7 < N) (c b v g h j : Nat → Int32) (t : Nat) (u z : Int32) (hS0 : stAt cI ad F k c b v g h j (nI t) u z) (x y m9 : Int32) (n : Nat) (hmn : m9 = nI n) (hn1 : 1 ≤ n) (hn : n < 2 ^ 31) (d : Int32) : MR l yX4_whyNotLifted (Cond.code yX4_whyNotLifted cX4_whyNotLifted 6 (some .int) :: AW) ({ frames := 3, cells := 0, slots := 0, locals := 65 } : Room) D cI cQ cL ad N F [.ref (ad k), .int x, .int y, .int m9, .int d] (.int (nI (wnl c b v t z x y n d))) := by
  refine mr_i (ty := .int) (by decide +kernel) rfl rfl rfl rfl (Nat.le_of_ble_eq_true rfl) (fun p e s m below meth cd Q ls hx hb hml hown hts hP hK hNW hret hl => ?_)
  have hown : s.vm.findClass RX4 = some m.cls := hown
  subst hmn
  have hk0 : k < N := by omega
  have hk1 : k + 1 < N := by omega
  have hk11 : k + 1 + 1 < N := by omega
  have hk12 : k + 1 + 2 < N := by omega
  have hk13 : k + 1 + 3 < N := by omega
  have hkm : k + 1 + 3 < N := by omega
  have hk5 : k + 5 < N := by omega
  have hk6 : k + 6 < N := by omega
  have hk7 : k + 7 < N := hk
  have hl : lv_has ls 6 [(0, .ref (ad k)), (1, .int x), (2, .int y), (3, .int (nI n)), (4, .int d)] := hl
  refine lv_aload_n hx hb (dk kX4_whyNotLifted_ok 0 rfl) rfl (lv_at hl 0 rfl) ?_
  refine gf hx hb hts (fun w h => List.mem_cons_of_mem _ (acX4 w h)) hown hK hP hk0 hS0.1 rfl 0 (by decide) (hts _ (List.mem_cons_of_mem _ (ac3 _ (List.mem_of_getElem? (i := 16) rfl)))) (fun _ h => h) rfl (dk kX4_whyNotLifted_ok 1 rfl) ?_
  refine cvR (As := []) (rest := []) ⟨hx, hb, hml, hown, hts⟩ (tX1_isOver l D cI cQ cL ad N F (k + 1) hkm c b v hS0.2.1) (cwV9 0 hts mcX1_isOver (ac5 _ (List.mem_of_getElem? (i := 23) rfl)) miX1_isOver meX1_isOver mini_RX1 rfl rfl hdX1_isOver ⟨Nat.le_of_ble_eq_true rfl, Nat.le_of_ble_eq_true rfl⟩) hK hP hNW hk1 hS0.2.1.1 rfl rfl hl.1 rfl (Nat.le_of_ble_eq_true rfl) (by decide) (dk kX4_whyNotLifted_ok 2 rfl) ?_
  refine b_if_eq (tgt := 12) hx hb (dk kX4_whyNotLifted_ok 3 rfl) (by decide) (fun h1 => ?_) (fun h1 => ?_)
  · skip
    refine lv_iload_n hx hb (dk kX4_whyNotLifted_ok 6 rfl) rfl (lv_at hl 1 rfl) ?_
    refine lv_iload_n hx hb (dk kX4_whyNotLifted_ok 7 rfl) rfl (lv_at hl 2 rfl) ?_
    refine csPN (As := [.int x, .int y]) (rest := []) ⟨hx, hb, hml, hown, hts⟩ (tX5_cellAt l x y) (cwN9 2 hts mcX5_cellAt (nm13 hNW) mini_RX5 rfl rfl hdX5_cellAt ⟨Nat.le_of_ble_eq_true rfl, Nat.le_of_ble_eq_true rfl⟩) (hts _ (List.mem_cons_of_mem _ msX5_cellAt)) rfl hl.1 rfl (Nat.le_of_ble_eq_true rfl) (by decide) (dk kX4_whyNotLifted_ok 8 rfl) ?_
    refine lv_istore (lv' := [(5, .int (cat x y)), (0, .ref (ad k)), (1, .int x), (2, .int y), (3, .int (nI n)), (4, .int d)]) hx hb (dk kX4_whyNotLifted_ok 9 rfl) hl (by decide) rfl (fun ls hl => ?_)
    refine lv_aload_n hx hb (dk kX4_whyNotLifted_ok 10 rfl) rfl (lv_at hl 1 rfl) ?_
    refine gf hx hb hts (fun w h => List.mem_cons_of_mem _ (acX4 w h)) hown hK hP hk0 hS0.1 rfl 0 (by decide) (hts _ (List.mem_cons_of_mem _ (ac3 _ (List.mem_of_getElem? (i := 16) rfl)))) (fun _ h => h) rfl (dk kX4_whyNotLifted_ok 11 rfl) ?_
    refine lv_iload hx hb (dk kX4_whyNotLifted_ok 12 rfl) (lv_at hl 0 rfl) ?_
    refine lv_iload_n hx hb (dk kX4_whyNotLifted_ok 13 rfl) rfl (lv_at hl 4 rfl) ?_
    refine cvR (As := [.int (cat x y), .int (nI n)]) (rest := []) ⟨hx, hb, hml, hown, hts⟩ (tX1_lowestOfUpper l D cI cQ cL ad N F (k + 1) hkm c b v hS0.2.1 (cat x y) (nI n) n rfl (by omega) (by omega)) (cwV9 2 hts mcX1_lowestOfUpper (ac6 _ (List.mem_of_getElem? (i := 5) rfl)) miX1_lowestOfUpper meX1_lowestOfUpper mini_RX1 rfl rfl hdX1_lowestOfUpper ⟨Nat.le_of_ble_eq_true rfl, Nat.le_of_ble_eq_true rfl⟩) hK hP hNW hk1 hS0.2.1.1 rfl rfl hl.1 rfl (Nat.le_of_ble_eq_true rfl) (by decide) (dk kX4_whyNotLifted_ok 14 rfl) ?_
    refine lv_iconst (v := -1) hx hb (dk kX4_whyNotLifted_ok 15 rfl) rfl ?_
    refine lv_icmp_ne (tgt := 35) hx hb (dk kX4_whyNotLifted_ok 16 rfl) (by decide) (fun h2 => ?_) (fun h2 => ?_)
    · skip
      refine lv_aload_n hx hb (dk kX4_whyNotLifted_ok 19 rfl) rfl (lv_at hl 1 rfl) ?_
      refine gf hx hb hts (fun w h => List.mem_cons_of_mem _ (acX4 w h)) hown hK hP hk0 hS0.1 rfl 0 (by decide) (hts _ (List.mem_cons_of_mem _ (ac3 _ (List.mem_of_getElem? (i := 16) rfl)))) (fun _ h => h) rfl (dk kX4_whyNotLifted_ok 20 rfl) ?_
      refine lv_iload hx hb (dk kX4_whyNotLifted_ok 21 rfl) (lv_at hl 0 rfl) ?_
      refine cvR (As := [.int (cat x y)]) (rest := []) ⟨hx, hb, hml, hown, hts⟩ (tX1_topAt l D cI cQ cL ad N F (k + 1) hkm c b v hS0.2.1 (cat x y)) (cwV9 1 hts mcX1_topAt (ac6 _ (List.mem_of_getElem? (i := 9) rfl)) miX1_topAt meX1_topAt mini_RX1 rfl rfl hdX1_topAt ⟨Nat.le_of_ble_eq_true rfl, Nat.le_of_ble_eq_true rfl⟩) hK hP hNW hk1 hS0.2.1.1 rfl rfl hl.1 rfl (Nat.le_of_ble_eq_true rfl) (by decide) (dk kX4_whyNotLifted_ok 22 rfl) ?_
      refine csPN (As := [.int (top c v (cat x y))]) (rest := []) ⟨hx, hb, hml, hown, hts⟩ (tX5_colourOf_r l (top c v (cat x y))) (cwN9 1 hts mcX5_colourOf (nm6 hNW) mini_RX5 rfl rfl hdX5_colourOf ⟨Nat.le_of_ble_eq_true rfl, Nat.le_of_ble_eq_true rfl⟩) (hts _ (List.mem_cons_of_mem _ msX5_colourOf)) rfl hl.1 rfl (Nat.le_of_ble_eq_true rfl) (by decide) (dk kX4_whyNotLifted_ok 23 rfl) ?_
      refine lv_aload_n hx hb (dk kX4_whyNotLifted_ok 24 rfl) rfl (lv_at hl 1 rfl) ?_
      refine gf hx hb hts (fun w h => List.mem_cons_of_mem _ (acX4 w h)) hown hK hP hk0 hS0.1 rfl 4 (by decide) (hts _ (List.mem_cons_of_mem _ (ac3 _ (List.mem_of_getElem? (i := 20) rfl)))) (fun _ h => h) rfl (dk kX4_whyNotLifted_ok 25 rfl) ?_
      refine lv_icmp_eq (tgt := 56) hx hb (dk kX4_whyNotLifted_ok 26 rfl) (by decide) (fun h3 => ?_) (fun h3 => ?_)
      · skip
        refine lv_iload_n hx hb (dk kX4_whyNotLifted_ok 29 rfl) rfl (lv_at hl 4 rfl) ?_
        refine lv_aload_n hx hb (dk kX4_whyNotLifted_ok 30 rfl) rfl (lv_at hl 1 rfl) ?_
        refine gf hx hb hts (fun w h => List.mem_cons_of_mem _ (acX4 w h)) hown hK hP hk0 hS0.1 rfl 6 (by decide) (hts _ (List.mem_cons_of_mem _ (ac3 _ (List.mem_of_getElem? (i := 22) rfl)))) (fun _ h => h) rfl (dk kX4_whyNotLifted_ok 31 rfl) ?_
        refine lv_icmp_le (tgt := 66) hx hb (dk kX4_whyNotLifted_ok 32 rfl) (by decide) (fun h4 => ?_) (fun h4 => ?_)
        · skip
          refine lv_iload_n hx hb (dk kX4_whyNotLifted_ok 35 rfl) rfl (lv_at hl 2 rfl) ?_
          refine lv_iload_n hx hb (dk kX4_whyNotLifted_ok 36 rfl) rfl (lv_at hl 3 rfl) ?_
          refine lv_iload hx hb (dk kX4_whyNotLifted_ok 37 rfl) (lv_at hl 5 rfl) ?_
          refine csPN (As := [.int x, .int y, .int d]) (rest := []) ⟨hx, hb, hml, hown, hts⟩ (tX5_cellBeside l x y d) (cwN9 3 hts mcX5_cellBeside (nm14 hNW) mini_RX5 rfl rfl hdX5_cellBeside ⟨Nat.le_of_ble_eq_true rfl, Nat.le_of_ble_eq_true rfl⟩) (hts _ (List.mem_cons_of_mem _ msX5_cellBeside)) rfl hl.1 rfl (Nat.le_of_ble_eq_true rfl) (by decide) (dk kX4_whyNotLifted_ok 38 rfl) ?_
          refine lv_iconst (v := -1) hx hb (dk kX4_whyNotLifted_ok 39 rfl) rfl ?_
          refine lv_icmp_ne (tgt := 81) hx hb (dk kX4_whyNotLifted_ok 40 rfl) (by decide) (fun h5 => ?_) (fun h5 => ?_)
          · skip
            refine lv_iconst (v := nI 0) hx hb (dk kX4_whyNotLifted_ok 43 rfl) rfl ?_
            exact hret _ _ _ (by simp only [wnl, h1, (eq_false h2), (eq_true h3), (eq_true h4), (eq_false h5), not_true_eq_false, not_false_eq_true, and_true, true_and, and_false, false_and, or_true, true_or, or_false, false_or, and_self, or_self, if_true, if_false, Bool.false_eq_true, reduceIte]) (dk kX4_whyNotLifted_ok 44 rfl)
          · skip
            refine lv_iconst (v := nI 5) hx hb (dk kX4_whyNotLifted_ok 41 rfl) rfl ?_
            refine lv_goto (tgt := 82) hx hb (dk kX4_whyNotLifted_ok 42 rfl) (by decide) ?_
            exact hret _ _ _ (by simp only [wnl, h1, (eq_false h2), (eq_true h3), (eq_true h4), (eq_true h5), not_true_eq_false, not_false_eq_true, and_true, true_and, and_false, false_and, or_true, true_or, or_false, false_or, and_self, or_self, if_true, if_false, Bool.false_eq_true, reduceIte]) (dk kX4_whyNotLifted_ok 44 rfl)
        · skip
          refine lv_iconst (v := nI 4) hx hb (dk kX4_whyNotLifted_ok 33 rfl) rfl ?_
          exact hret _ _ _ (by simp only [wnl, h1, (eq_false h2), (eq_true h3), (eq_false h4), not_true_eq_false, not_false_eq_true, and_true, true_and, and_false, false_and, or_true, true_or, or_false, false_or, and_self, or_self, if_true, if_false, Bool.false_eq_true, reduceIte]) (dk kX4_whyNotLifted_ok 34 rfl)
      · skip
        refine lv_iconst (v := nI 3) hx hb (dk kX4_whyNotLifted_ok 27 rfl) rfl ?_
        exact hret _ _ _ (by simp only [wnl, h1, (eq_false h2), (eq_false h3), not_true_eq_false, not_false_eq_true, and_true, true_and, and_false, false_and, or_true, true_or, or_false, false_or, and_self, or_self, if_true, if_false, Bool.false_eq_true, reduceIte]) (dk kX4_whyNotLifted_ok 28 rfl)
    · skip
      refine lv_iconst (v := nI 2) hx hb (dk kX4_whyNotLifted_ok 17 rfl) rfl ?_
      exact hret _ _ _ (by simp only [wnl, h1, (eq_true h2), not_true_eq_false, not_false_eq_true, and_true, true_and, and_false, false_and, or_true, true_or, or_false, false_or, and_self, or_self, if_true, if_false, Bool.false_eq_true, reduceIte]) (dk kX4_whyNotLifted_ok 18 rfl)
  · skip
    refine lv_iconst (v := nI 1) hx hb (dk kX4_whyNotLifted_ok 4 rfl) rfl ?_
    exact hret _ _ _ (by simp only [wnl, h1, not_true_eq_false, not_false_eq_true, and_true, true_and, and_false, false_and, or_true, true_or, or_false, false_or, and_self, or_self, if_true, if_false, Bool.false_eq_true, reduceIte]) (dk kX4_whyNotLifted_ok 5 rfl)
set_option maxRecDepth 100000 in
set_option maxHeartbeats 4000000 in
theorem tX4_allFlights (l : Launch) (D : va_G) (cI cQ cL : ClassId) (ad : Nat → Nat) (N : Nat) (F : Nat → va_E) (k : Nat) (hk : k + 7 < N) (c b v g h j : Nat → Int32) (t : Nat) (u z : Int32) (hS0 : stAt cI ad F k c b v g h j (nI t) u z) : MR l yX4_allFlights (Cond.code yX4_allFlights cX4_allFlights 3 (some .int) :: AW) ({ frames := 0, cells := 0, slots := 0, locals := 0 } : Room) D cI cQ cL ad N F [.ref (ad k)] (.int (smi g 16)) := by
  refine mr_i (ty := .int) (by decide +kernel) rfl rfl rfl rfl (Nat.le_of_ble_eq_true rfl) (fun p e s m below meth cd Q ls hx hb hml hown hts hP hK hNW hret hl => ?_)
  have hown : s.vm.findClass RX4 = some m.cls := hown
  have hk0 : k < N := by omega
  have hk1 : k + 1 < N := by omega
  have hk11 : k + 1 + 1 < N := by omega
  have hk12 : k + 1 + 2 < N := by omega
  have hk13 : k + 1 + 3 < N := by omega
  have hkm : k + 1 + 3 < N := by omega
  have hk5 : k + 5 < N := by omega
  have hk6 : k + 6 < N := by omega
  have hk7 : k + 7 < N := hk
  have hl : lv_has ls 3 [(0, .ref (ad k))] := hl
  refine lv_iconst (v := nI 0) hx hb (dk kX4_allFlights_ok 0 rfl) rfl ?_
  refine lv_istore_n (lv' := [(1, .int (nI 0)), (0, .ref (ad k))]) hx hb (dk kX4_allFlights_ok 1 rfl) rfl hl (by decide) rfl (fun ls hl => ?_)
  refine lv_iconst (v := nI 0) hx hb (dk kX4_allFlights_ok 2 rfl) rfl ?_
  refine lv_istore_n (lv' := [(2, .int (nI 0)), (1, .int (nI 0)), (0, .ref (ad k))]) hx hb (dk kX4_allFlights_ok 3 rfl) rfl hl (by decide) rfl (fun ls hl => ?_)
  have L4 : ∀ (fu : Nat) (i : Nat) (x1 : Int32), x1 = smi g i → i ≤ 16 → 16 - i < fu → ∀ ls : Array Slot, lv_has ls 3 [(0, .ref (ad k)), (1, .int x1), (2, .int (nI i))] → W p l e ({ frames := 0, cells := 0, slots := 0, locals := 0 } : Room) s m ([.ref (ad k)] : List Value).toArray below meth cd s.heap [] 0 0 Q (F0 m 4 ls []) := by
    intro fu
    induction fu with
    | zero => intros; omega
    | succ fu ih4 =>
      intro i x1 ex1 hi hme4 ls hl
      subst ex1
      refine lv_iload_n hx hb (dk kX4_allFlights_ok 4 rfl) rfl (lv_at hl 2 rfl) ?_
      refine lv_bipush (v := nI 16) hx hb (dk kX4_allFlights_ok 5 rfl) rfl ?_
      refine n_icmp_ge (tgt := 25) hx hb (by omega) (by decide) (dk kX4_allFlights_ok 6 rfl) (by decide) (fun h1 => ?_) (fun h1 => ?_)
      · skip
        refine lv_iload_n hx hb (dk kX4_allFlights_ok 16 rfl) rfl (lv_at hl 1 rfl) ?_
        exact hret _ _ _ (by rw [show i = 16 by omega] <;> rfl) (dk kX4_allFlights_ok 17 rfl)
      · skip
        refine lv_iload_n hx hb (dk kX4_allFlights_ok 7 rfl) rfl (lv_at hl 1 rfl) ?_
        refine lv_aload_n hx hb (dk kX4_allFlights_ok 8 rfl) rfl (lv_at hl 0 rfl) ?_
        refine gf hx hb hts (fun w h => List.mem_cons_of_mem _ (acX4 w h)) hown hK hP hk0 hS0.1 rfl 1 (by decide) (hts _ (List.mem_cons_of_mem _ (ac3 _ (List.mem_of_getElem? (i := 17) rfl)))) (fun _ h => h) rfl (dk kX4_allFlights_ok 9 rfl) ?_
        refine lv_iload_n hx hb (dk kX4_allFlights_ok 10 rfl) rfl (lv_at hl 2 rfl) ?_
        refine ald (j := i) hx hb hK hP hk5 hS0.2.2.1 rfl (by omega) (by decide) (dk kX4_allFlights_ok 11 rfl) ?_
        refine lv_iadd hx hb (dk kX4_allFlights_ok 12 rfl) ?_
        refine lv_istore_n (lv' := [(1, .int ((smi g i) + (g i))), (0, .ref (ad k)), (2, .int (nI i))]) hx hb (dk kX4_allFlights_ok 13 rfl) rfl hl (by decide) rfl (fun ls hl => ?_)
        refine lv_iinc (v := nI (i + 1)) (lv' := [(2, .int (nI (i + 1))), (1, .int ((smi g i) + (g i))), (0, .ref (ad k))]) hx hb (dk kX4_allFlights_ok 14 rfl) hl (k := 2) rfl (n_inc _) (by decide) rfl (fun ls hl => ?_)
        refine lv_goto (tgt := 4) hx hb (dk kX4_allFlights_ok 15 rfl) (by decide) ?_
        exact ih4 (i + 1) _ (by rfl) (by omega) (by omega) ls (lv_sub hl [2, 1, 0] rfl)
  exact L4 _ 0 _ (by first | rfl | omega) (by first | rfl | omega) (Nat.lt_succ_self _) ls (lv_sub hl [2, 1, 0] rfl)
set_option maxRecDepth 100000 in
set_option maxHeartbeats 4000000 in
theorem tX4_allFouls (l : Launch) (D : va_G) (cI cQ cL : ClassId) (ad : Nat → Nat) (N : Nat) (F : Nat → va_E) (k : Nat) (hk : k + 7 < N) (c b v g h j : Nat → Int32) (t : Nat) (u z : Int32) (hS0 : stAt cI ad F k c b v g h j (nI t) u z) : MR l yX4_allFouls (Cond.code yX4_allFouls cX4_allFouls 3 (some .int) :: AW) ({ frames := 0, cells := 0, slots := 0, locals := 0 } : Room) D cI cQ cL ad N F [.ref (ad k)] (.int (smi h 4)) := by
  refine mr_i (ty := .int) (by decide +kernel) rfl rfl rfl rfl (Nat.le_of_ble_eq_true rfl) (fun p e s m below meth cd Q ls hx hb hml hown hts hP hK hNW hret hl => ?_)
  have hown : s.vm.findClass RX4 = some m.cls := hown
  have hk0 : k < N := by omega
  have hk1 : k + 1 < N := by omega
  have hk11 : k + 1 + 1 < N := by omega
  have hk12 : k + 1 + 2 < N := by omega
  have hk13 : k + 1 + 3 < N := by omega
  have hkm : k + 1 + 3 < N := by omega
  have hk5 : k + 5 < N := by omega
  have hk6 : k + 6 < N := by omega
  have hk7 : k + 7 < N := hk
  have hl : lv_has ls 3 [(0, .ref (ad k))] := hl
  refine lv_iconst (v := nI 0) hx hb (dk kX4_allFouls_ok 0 rfl) rfl ?_
  refine lv_istore_n (lv' := [(1, .int (nI 0)), (0, .ref (ad k))]) hx hb (dk kX4_allFouls_ok 1 rfl) rfl hl (by decide) rfl (fun ls hl => ?_)
  refine lv_iconst (v := nI 0) hx hb (dk kX4_allFouls_ok 2 rfl) rfl ?_
  refine lv_istore_n (lv' := [(2, .int (nI 0)), (1, .int (nI 0)), (0, .ref (ad k))]) hx hb (dk kX4_allFouls_ok 3 rfl) rfl hl (by decide) rfl (fun ls hl => ?_)
  have L4 : ∀ (fu : Nat) (i : Nat) (x1 : Int32), x1 = smi h i → i ≤ 4 → 4 - i < fu → ∀ ls : Array Slot, lv_has ls 3 [(0, .ref (ad k)), (1, .int x1), (2, .int (nI i))] → W p l e ({ frames := 0, cells := 0, slots := 0, locals := 0 } : Room) s m ([.ref (ad k)] : List Value).toArray below meth cd s.heap [] 0 0 Q (F0 m 4 ls []) := by
    intro fu
    induction fu with
    | zero => intros; omega
    | succ fu ih4 =>
      intro i x1 ex1 hi hme4 ls hl
      subst ex1
      refine lv_iload_n hx hb (dk kX4_allFouls_ok 4 rfl) rfl (lv_at hl 2 rfl) ?_
      refine lv_iconst (v := nI 4) hx hb (dk kX4_allFouls_ok 5 rfl) rfl ?_
      refine n_icmp_ge (tgt := 24) hx hb (by omega) (by decide) (dk kX4_allFouls_ok 6 rfl) (by decide) (fun h1 => ?_) (fun h1 => ?_)
      · skip
        refine lv_iload_n hx hb (dk kX4_allFouls_ok 16 rfl) rfl (lv_at hl 1 rfl) ?_
        exact hret _ _ _ (by rw [show i = 4 by omega] <;> rfl) (dk kX4_allFouls_ok 17 rfl)
      · skip
        refine lv_iload_n hx hb (dk kX4_allFouls_ok 7 rfl) rfl (lv_at hl 1 rfl) ?_
        refine lv_aload_n hx hb (dk kX4_allFouls_ok 8 rfl) rfl (lv_at hl 0 rfl) ?_
        refine gf hx hb hts (fun w h => List.mem_cons_of_mem _ (acX4 w h)) hown hK hP hk0 hS0.1 rfl 2 (by decide) (hts _ (List.mem_cons_of_mem _ (ac3 _ (List.mem_of_getElem? (i := 18) rfl)))) (fun _ h => h) rfl (dk kX4_allFouls_ok 9 rfl) ?_
        refine lv_iload_n hx hb (dk kX4_allFouls_ok 10 rfl) rfl (lv_at hl 2 rfl) ?_
        refine ald (j := i) hx hb hK hP hk6 hS0.2.2.2.1 rfl (by omega) (by decide) (dk kX4_allFouls_ok 11 rfl) ?_
        refine lv_iadd hx hb (dk kX4_allFouls_ok 12 rfl) ?_
        refine lv_istore_n (lv' := [(1, .int ((smi h i) + (h i))), (0, .ref (ad k)), (2, .int (nI i))]) hx hb (dk kX4_allFouls_ok 13 rfl) rfl hl (by decide) rfl (fun ls hl => ?_)
        refine lv_iinc (v := nI (i + 1)) (lv' := [(2, .int (nI (i + 1))), (1, .int ((smi h i) + (h i))), (0, .ref (ad k))]) hx hb (dk kX4_allFouls_ok 14 rfl) hl (k := 2) rfl (n_inc _) (by decide) rfl (fun ls hl => ?_)
        refine lv_goto (tgt := 4) hx hb (dk kX4_allFouls_ok 15 rfl) (by decide) ?_
        exact ih4 (i + 1) _ (by rfl) (by omega) (by omega) ls (lv_sub hl [2, 1, 0] rfl)
  exact L4 _ 0 _ (by first | rfl | omega) (by first | rfl | omega) (Nat.lt_succ_self _) ls (lv_sub hl [2, 1, 0] rfl)
set_option maxRecDepth 100000 in
set_option maxHeartbeats 4000000 in
theorem tX4_passTurn (l : Launch) (D : va_G) (cI cQ cL : ClassId) (ad : Nat → Nat) (N : Nat) (F : Nat → va_E) (k : Nat) (hk : k + 7 < N) (c b v g h j : Nat → Int32) (t : Nat) (u z : Int32) (hS0 : stAt cI ad F k c b v g h j (nI t) u z) (ht : t < 4) : MX l yX4_passTurn (Cond.code yX4_passTurn cX4_passTurn 3 none :: AW) ({ frames := 2, cells := 0, slots := 0, locals := 44 } : Room) D cI cQ cL ad N F [.ref (ad k)] (dp none (sSet cI ad F k c b v g h ((pasg c t 8 j t).1) (nI ((pasg c t 8 j t).2)) u z)) 0 0 := by
  refine mx_v (by decide +kernel) rfl (Nat.le_of_ble_eq_true rfl) (fun p e s m below meth cd Q ls hx hb hml hown hts hDi hP hK hNW hS hret hl => ?_)
  have hown : s.vm.findClass RX4 = some m.cls := hown
  have hk0 : k < N := by omega
  have hk1 : k + 1 < N := by omega
  have hk11 : k + 1 + 1 < N := by omega
  have hk12 : k + 1 + 2 < N := by omega
  have hk13 : k + 1 + 3 < N := by omega
  have hkm : k + 1 + 3 < N := by omega
  have hk5 : k + 5 < N := by omega
  have hk6 : k + 6 < N := by omega
  have hk7 : k + 7 < N := hk
  have hP : va_P D vwCl (iW ad N (sSet cI ad F k c b v g h j (nI t) u z)) s.heap := by rw [sSet_self hS0]; exact hP
  have hl : lv_has ls 3 [(0, .ref (ad k))] := hl
  refine lv_aload_n hx hb (dk kX4_passTurn_ok 0 rfl) rfl (lv_at hl 0 rfl) ?_
  refine gf hx hb hts (fun w h => List.mem_cons_of_mem _ (acX4 w h)) hown hK hP hk0 (sSet_at hS0).1 rfl 4 (by decide) (hts _ (List.mem_cons_of_mem _ (ac3 _ (List.mem_of_getElem? (i := 20) rfl)))) (fun _ h => h) rfl (dk kX4_passTurn_ok 1 rfl) ?_
  refine lv_istore_n (lv' := [(1, .int (nI t)), (0, .ref (ad k))]) hx hb (dk kX4_passTurn_ok 2 rfl) rfl hl (by decide) rfl (fun ls hl => ?_)
  refine lv_iconst (v := nI 0) hx hb (dk kX4_passTurn_ok 3 rfl) rfl ?_
  refine lv_istore_n (lv' := [(2, .int (nI 0)), (1, .int (nI t)), (0, .ref (ad k))]) hx hb (dk kX4_passTurn_ok 4 rfl) rfl hl (by decide) rfl (fun ls hl => ?_)
  have L7 : ∀ (fu : Nat) (i q : Nat) (j2 : Nat → Int32) (H : Heap) (locs : List Loc), va_P D vwCl (iW ad N (sSet cI ad F k c b v g h j2 (nI t) u z)) H → va_S (iA ad N s.heap.size) s.heap H locs → i ≤ 8 → q < 4 → pasg c t 8 j t = pasg c t (8 - i) j2 q → 8 - i < fu → ∀ ls : Array Slot, lv_has ls 3 [(0, .ref (ad k)), (1, .int (nI q)), (2, .int (nI i))] → W p l e ({ frames := 2, cells := 0, slots := 0, locals := 44 } : Room) s m ([.ref (ad k)] : List Value).toArray below meth cd H locs 0 0 Q (F0 m 7 ls []) := by
    intro fu
    induction fu with
    | zero => intros; omega
    | succ fu ih7 =>
      intro i q j2 H locs hP hS hi hq hr hme7 ls hl
      refine lv_iload_n hx hb (dk kX4_passTurn_ok 5 rfl) rfl (lv_at hl 2 rfl) ?_
      refine lv_bipush (v := nI 8) hx hb (dk kX4_passTurn_ok 6 rfl) rfl ?_
      refine n_icmp_ge (tgt := 64) hx hb (by omega) (by decide) (dk kX4_passTurn_ok 7 rfl) (by decide) (fun h1 => ?_) (fun h1 => ?_)
      · skip
        exact hret _ _ _ _ _ _ _ (by refine ⟨rfl, ?_⟩; first | (rw [hr, show 8 - i = (8 - (i + 1)) + 1 by omega]; simp only [pasg, (eq_true h1), (eq_false (Nat.not_lt.mpr h1)), not_true_eq_false, not_false_eq_true, and_true, true_and, and_false, false_and, or_true, true_or, or_false, false_or, and_self, or_self, if_true, if_false, Bool.false_eq_true, reduceIte]; done) | (rw [hr, show 8 - i = 0 by omega]; rfl)) hP hS (by decide) (by decide) (dk kX4_passTurn_ok 39 rfl)
      · skip
        refine lv_iload_n hx hb (dk kX4_passTurn_ok 8 rfl) rfl (lv_at hl 1 rfl) ?_
        refine lv_iconst (v := nI 1) hx hb (dk kX4_passTurn_ok 9 rfl) rfl ?_
        refine n_iadd hx hb (dk kX4_passTurn_ok 10 rfl) ?_
        refine lv_iconst (v := nI 4) hx hb (dk kX4_passTurn_ok 11 rfl) rfl ?_
        refine n_irem hx hb (by omega) (by decide) (by decide) (dk kX4_passTurn_ok 12 rfl) ?_
        refine lv_istore_n (lv' := [(1, .int (nI ((q + 1) % 4))), (0, .ref (ad k)), (2, .int (nI i))]) hx hb (dk kX4_passTurn_ok 13 rfl) rfl hl (by decide) rfl (fun ls hl => ?_)
        refine lv_aload_n hx hb (dk kX4_passTurn_ok 14 rfl) rfl (lv_at hl 1 rfl) ?_
        refine gf hx hb hts (fun w h => List.mem_cons_of_mem _ (acX4 w h)) hown hK hP hk0 (sSet_at hS0).1 rfl 0 (by decide) (hts _ (List.mem_cons_of_mem _ (ac3 _ (List.mem_of_getElem? (i := 16) rfl)))) (fun _ h => h) rfl (dk kX4_passTurn_ok 15 rfl) ?_
        refine lv_iload_n hx hb (dk kX4_passTurn_ok 16 rfl) rfl (lv_at hl 0 rfl) ?_
        refine cvR (As := [.int (nI ((q + 1) % 4))]) (rest := []) ⟨hx, hb, hml, hown, hts⟩ (tX1_isAllPotted l D cI cQ cL ad N (sSet cI ad F k c b v g h j2 (nI t) u z) (k + 1) hkm c b v (sSet_at hS0).2.1 (nI ((q + 1) % 4)) ((q + 1) % 4) rfl (by omega)) (cwV9 1 hts mcX1_isAllPotted (ac6 _ (List.mem_of_getElem? (i := 17) rfl)) miX1_isAllPotted meX1_isAllPotted mini_RX1 rfl rfl hdX1_isAllPotted ⟨Nat.le_of_ble_eq_true rfl, Nat.le_of_ble_eq_true rfl⟩) hK hP hNW hk1 (sSet_at hS0).2.1.1 rfl rfl hl.1 rfl (Nat.le_of_ble_eq_true rfl) (by decide) (dk kX4_passTurn_ok 17 rfl) ?_
        refine b_if_eq (tgt := 33) hx hb (dk kX4_passTurn_ok 18 rfl) (by decide) (fun h2 => ?_) (fun h2 => ?_)
        · replace h2 := of_decide_eq_false h2
          refine lv_aload_n hx hb (dk kX4_passTurn_ok 20 rfl) rfl (lv_at hl 1 rfl) ?_
          refine gf hx hb hts (fun w h => List.mem_cons_of_mem _ (acX4 w h)) hown hK hP hk0 (sSet_at hS0).1 rfl 3 (by decide) (hts _ (List.mem_cons_of_mem _ (ac3 _ (List.mem_of_getElem? (i := 19) rfl)))) (fun _ h => h) rfl (dk kX4_passTurn_ok 21 rfl) ?_
          refine lv_iload_n hx hb (dk kX4_passTurn_ok 22 rfl) rfl (lv_at hl 0 rfl) ?_
          refine ald (j := ((q + 1) % 4)) hx hb hK hP hk7 (sSet_at hS0).2.2.2.2 rfl (by omega) (by decide) (dk kX4_passTurn_ok 23 rfl) ?_
          refine lv_if_ne (tgt := 48) hx hb (dk kX4_passTurn_ok 24 rfl) (by decide) (fun h3 => ?_) (fun h3 => ?_)
          · skip
            refine lv_aload_n hx hb (dk kX4_passTurn_ok 29 rfl) rfl (lv_at hl 1 rfl) ?_
            refine gf hx hb hts (fun w h => List.mem_cons_of_mem _ (acX4 w h)) hown hK hP hk0 (sSet_at hS0).1 rfl 3 (by decide) (hts _ (List.mem_cons_of_mem _ (ac3 _ (List.mem_of_getElem? (i := 19) rfl)))) (fun _ h => h) rfl (dk kX4_passTurn_ok 30 rfl) ?_
            refine lv_iload_n hx hb (dk kX4_passTurn_ok 31 rfl) rfl (lv_at hl 0 rfl) ?_
            refine lv_dup2_11 hx hb (dk kX4_passTurn_ok 32 rfl) rfl rfl ?_
            refine ald (j := ((q + 1) % 4)) hx hb hK hP hk7 (sSet_at hS0).2.2.2.2 rfl (by omega) (by decide) (dk kX4_passTurn_ok 33 rfl) ?_
            refine lv_iconst (v := nI 1) hx hb (dk kX4_passTurn_ok 34 rfl) rfl ?_
            refine lv_isub hx hb (dk kX4_passTurn_ok 35 rfl) ?_
            refine ast (sSet cI ad F k c b v g h (upd j2 ((q + 1) % 4) ((j2 ((q + 1) % 4)) - (nI 1))) (nI t) u z) (j := ((q + 1) % 4)) hx hb hK hDi hP hS hk7 (sSet_at hS0).2.2.2.2 rfl (by omega) (by decide) (dk kX4_passTurn_ok 36 rfl) sSet_j (fun H locs hP hS => ?_)
            refine lv_iinc (v := nI (i + 1)) (lv' := [(2, .int (nI (i + 1))), (1, .int (nI ((q + 1) % 4))), (0, .ref (ad k))]) hx hb (dk kX4_passTurn_ok 37 rfl) hl (k := 2) rfl (n_inc _) (by decide) rfl (fun ls hl => ?_)
            refine lv_goto (tgt := 7) hx hb (dk kX4_passTurn_ok 38 rfl) (by decide) ?_
            exact ih7 (i + 1) ((q + 1) % 4) (upd j2 ((q + 1) % 4) ((j2 ((q + 1) % 4)) - (nI 1))) _ _ hP hS (by omega) (by omega) (by rw [hr, show 8 - i = (8 - (i + 1)) + 1 by omega]; simp only [pasg, (eq_true h1), (eq_false (Nat.not_le.mpr h1)), (eq_false h2), (eq_false h3), not_true_eq_false, not_false_eq_true, and_true, true_and, and_false, false_and, or_true, true_or, or_false, false_or, and_self, or_self, if_true, if_false, Bool.false_eq_true, reduceIte]) (by omega) ls (lv_sub hl [2, 1, 0] rfl)
          · skip
            refine lv_aload_n hx hb (dk kX4_passTurn_ok 25 rfl) rfl (lv_at hl 1 rfl) ?_
            refine lv_iload_n hx hb (dk kX4_passTurn_ok 26 rfl) rfl (lv_at hl 0 rfl) ?_
            refine pf (sSet cI ad F k c b v g h j2 (nI ((q + 1) % 4)) u z) hx hb hts (fun w h => List.mem_cons_of_mem _ (acX4 w h)) tyX4 tyX4_ok nmX4 hown hK hDi hP hS hk0 (sSet_at hS0).1 rfl 4 (by decide) (hts _ (List.mem_cons_of_mem _ (ac3 _ (List.mem_of_getElem? (i := 20) rfl)))) (fun _ h => h) rfl (ty := .int) rfl rfl rfl (Nat.le_of_ble_eq_true rfl) (dk kX4_passTurn_ok 27 rfl) sSet_0 (fun H locs hP hS => ?_)
            exact hret _ _ _ _ _ _ _ (by refine ⟨rfl, ?_⟩; first | (rw [hr, show 8 - i = (8 - (i + 1)) + 1 by omega]; simp only [pasg, (eq_true h1), (eq_false (Nat.not_le.mpr h1)), (eq_false h2), (eq_true h3), not_true_eq_false, not_false_eq_true, and_true, true_and, and_false, false_and, or_true, true_or, or_false, false_or, and_self, or_self, if_true, if_false, Bool.false_eq_true, reduceIte]; done) | (rw [hr, show 8 - i = 0 by omega]; rfl)) hP hS (by decide) (by decide) (dk kX4_passTurn_ok 28 rfl)
        · replace h2 := of_decide_eq_true h2
          refine lv_goto (tgt := 58) hx hb (dk kX4_passTurn_ok 19 rfl) (by decide) ?_
          refine lv_iinc (v := nI (i + 1)) (lv' := [(2, .int (nI (i + 1))), (1, .int (nI ((q + 1) % 4))), (0, .ref (ad k))]) hx hb (dk kX4_passTurn_ok 37 rfl) hl (k := 2) rfl (n_inc _) (by decide) rfl (fun ls hl => ?_)
          refine lv_goto (tgt := 7) hx hb (dk kX4_passTurn_ok 38 rfl) (by decide) ?_
          exact ih7 (i + 1) ((q + 1) % 4) j2 _ _ hP hS (by omega) (by omega) (by rw [hr, show 8 - i = (8 - (i + 1)) + 1 by omega]; simp only [pasg, (eq_true h1), (eq_false (Nat.not_le.mpr h1)), (eq_true h2), not_true_eq_false, not_false_eq_true, and_true, true_and, and_false, false_and, or_true, true_or, or_false, false_or, and_self, or_self, if_true, if_false, Bool.false_eq_true, reduceIte]) (by omega) ls (lv_sub hl [2, 1, 0] rfl)
  exact L7 _ 0 t j _ _ hP hS (by first | omega | rfl) (by first | omega | rfl) (by first | omega | rfl) (Nat.lt_succ_self _) ls (lv_sub hl [2, 1, 0] rfl)
set_option maxRecDepth 100000 in
set_option maxHeartbeats 4000000 in
theorem tX4_carryOutFlight (l : Launch) (D : va_G) (cI cQ cL : ClassId) (ad : Nat → Nat) (N : Nat) (F : Nat → va_E) (k : Nat) (hk : k + 7 < N) (c b v g h j : Nat → Int32) (t : Nat) (u z : Int32) (hS0 : stAt cI ad F k c b v g h j (nI t) u z) (ht : t < 4) (x : Int32) (w : Nat) (hxw : x = nI w) (hw : w < 16) (d y : Int32) (f : Nat) (hyf : y = nI f) (hf : f < 2 ^ 30) : MX l yX4_carryOutFlight (Cond.code yX4_carryOutFlight cX4_carryOutFlight 6 (some .int) :: AW) ({ frames := 3, cells := 0, slots := 0, locals := 68 } : Room) D cI cQ cL ad N F [.ref (ad k), .int x, .int d, .int y] (dp (some (.int (fans (flE c w d f)))) (sSet cI ad F k (mov1 c b v w (rest9 w (flE c w d f))) (mov2 c b v w (rest9 w (flE c w d f))) (mov3 c b v w (rest9 w (flE c w d f))) (upd g w (g w + nI 1)) (flH h w (flE c w d f)) ((flP (mov1 c b v w (rest9 w (flE c w d f))) t w (flE c w d f) (flH j w (flE c w d f))).1) (nI ((flP (mov1 c b v w (rest9 w (flE c w d f))) t w (flE c w d f) (flH j w (flE c w d f))).2)) u z)) 0 0 := by
  refine mx_i (ty := .int) (by decide +kernel) rfl (Nat.le_of_ble_eq_true rfl) (fun p e s m below meth cd Q ls hx hb hml hown hts hDi hP hK hNW hS hret hl => ?_)
  have hown : s.vm.findClass RX4 = some m.cls := hown
  subst hxw
  subst hyf
  have hst : stp w f < 2 ^ 31 := by unfold stp; split <;> omega
  have hk0 : k < N := by omega
  have hk1 : k + 1 < N := by omega
  have hk11 : k + 1 + 1 < N := by omega
  have hk12 : k + 1 + 2 < N := by omega
  have hk13 : k + 1 + 3 < N := by omega
  have hkm : k + 1 + 3 < N := by omega
  have hk5 : k + 5 < N := by omega
  have hk6 : k + 6 < N := by omega
  have hk7 : k + 7 < N := hk
  have hP : va_P D vwCl (iW ad N (sSet cI ad F k c b v g h j (nI t) u z)) s.heap := by rw [sSet_self hS0]; exact hP
  have hl : lv_has ls 6 [(0, .ref (ad k)), (1, .int (nI w)), (2, .int d), (3, .int (nI f))] := hl
  refine lv_iload_n hx hb (dk kX4_carryOutFlight_0_ok 0 rfl) rfl (lv_at hl 1 rfl) ?_
  refine csPN (As := [.int (nI w)]) (rest := []) ⟨hx, hb, hml, hown, hts⟩ (tX5_colourOf l (nI w) w rfl (by omega)) (cwN9 1 hts mcX5_colourOf (nm6 hNW) mini_RX5 rfl rfl hdX5_colourOf ⟨Nat.le_of_ble_eq_true rfl, Nat.le_of_ble_eq_true rfl⟩) (hts _ (List.mem_cons_of_mem _ msX5_colourOf)) rfl hl.1 rfl (Nat.le_of_ble_eq_true rfl) (by decide) (dk kX4_carryOutFlight_0_ok 1 rfl) ?_
  refine lv_istore (lv' := [(4, .int (nI (w / 4))), (0, .ref (ad k)), (1, .int (nI w)), (2, .int d), (3, .int (nI f))]) hx hb (dk kX4_carryOutFlight_0_ok 2 rfl) hl (by decide) rfl (fun ls hl => ?_)
  refine lv_aload_n hx hb (dk kX4_carryOutFlight_0_ok 3 rfl) rfl (lv_at hl 1 rfl) ?_
  refine gf hx hb hts (fun w h => List.mem_cons_of_mem _ (acX4 w h)) hown hK hP hk0 (sSet_at hS0).1 rfl 0 (by decide) (hts _ (List.mem_cons_of_mem _ (ac3 _ (List.mem_of_getElem? (i := 16) rfl)))) (fun _ h => h) rfl (dk kX4_carryOutFlight_0_ok 4 rfl) ?_
  refine gfN hx hb hts (fun w h => List.mem_cons_of_mem _ (acX1 w h)) hown hK hP hk1 (sSet_at hS0).2.1.1 rfl 0 (by decide) (nf0 hNW) (fun _ h => h) rfl (dk kX4_carryOutFlight_0_ok 5 rfl) ?_
  refine lv_iload_n hx hb (dk kX4_carryOutFlight_0_ok 6 rfl) rfl (lv_at hl 2 rfl) ?_
  refine ald (j := w) hx hb hK hP hk11 (sSet_at hS0).2.1.2.1 rfl (by omega) (by decide) (dk kX4_carryOutFlight_0_ok 7 rfl) ?_
  refine lv_iload_n hx hb (dk kX4_carryOutFlight_0_ok 8 rfl) rfl (lv_at hl 3 rfl) ?_
  refine lv_iload_n hx hb (dk kX4_carryOutFlight_0_ok 9 rfl) rfl (lv_at hl 2 rfl) ?_
  refine lv_iload_n hx hb (dk kX4_carryOutFlight_0_ok 10 rfl) rfl (lv_at hl 4 rfl) ?_
  refine csPN (As := [.int (nI w), .int (nI f)]) (rest := [.int d, .int (c w)]) ⟨hx, hb, hml, hown, hts⟩ (tX5_stepsOf l (nI w) w rfl (by omega) (nI f) f rfl (by omega)) (cwN9 2 hts mcX5_stepsOf (nm9 hNW) mini_RX5 rfl rfl hdX5_stepsOf ⟨Nat.le_of_ble_eq_true rfl, Nat.le_of_ble_eq_true rfl⟩) (hts _ (List.mem_cons_of_mem _ msX5_stepsOf)) rfl hl.1 rfl (Nat.le_of_ble_eq_true rfl) (by decide) (dk kX4_carryOutFlight_0_ok 11 rfl) ?_
  refine csPN (As := [.int (c w), .int d, .int (nI (stp w f))]) (rest := []) ⟨hx, hb, hml, hown, hts⟩ (tX5_landing l (c w) d (nI (stp w f)) (stp w f) rfl (by omega)) (cwN9 3 hts mcX5_landing (nm10 hNW) mini_RX5 rfl rfl hdX5_landing ⟨Nat.le_of_ble_eq_true rfl, Nat.le_of_ble_eq_true rfl⟩) (hts _ (List.mem_cons_of_mem _ msX5_landing)) rfl hl.1 rfl (Nat.le_of_ble_eq_true rfl) (by decide) (dk kX4_carryOutFlight_0_ok 12 rfl) ?_
  refine lv_istore (lv' := [(5, .int (ldg (c w) d (stp w f))), (4, .int (nI (w / 4))), (0, .ref (ad k)), (1, .int (nI w)), (2, .int d), (3, .int (nI f))]) hx hb (dk kX4_carryOutFlight_0_ok 13 rfl) hl (by decide) rfl (fun ls hl => ?_)
  refine lv_aload_n hx hb (dk kX4_carryOutFlight_0_ok 14 rfl) rfl (lv_at hl 2 rfl) ?_
  refine gf hx hb hts (fun w h => List.mem_cons_of_mem _ (acX4 w h)) hown hK hP hk0 (sSet_at hS0).1 rfl 0 (by decide) (hts _ (List.mem_cons_of_mem _ (ac3 _ (List.mem_of_getElem? (i := 16) rfl)))) (fun _ h => h) rfl (dk kX4_carryOutFlight_0_ok 15 rfl) ?_
  refine lv_iload_n hx hb (dk kX4_carryOutFlight_0_ok 16 rfl) rfl (lv_at hl 3 rfl) ?_
  refine lv_iload_n hx hb (dk kX4_carryOutFlight_0_ok 17 rfl) rfl (lv_at hl 3 rfl) ?_
  refine lv_iload hx hb (dk kX4_carryOutFlight_0_ok 18 rfl) (lv_at hl 0 rfl) ?_
  refine csPN (As := [.int (nI w), .int (ldg (c w) d (stp w f))]) (rest := [.int (nI w), .ref (ad (k + 1))]) ⟨hx, hb, hml, hown, hts⟩ (tX5_restingCell l (nI w) w rfl (by omega) (ldg (c w) d (stp w f))) (cwN9 2 hts mcX5_restingCell (nm11 hNW) mini_RX5 rfl rfl hdX5_restingCell ⟨Nat.le_of_ble_eq_true rfl, Nat.le_of_ble_eq_true rfl⟩) (hts _ (List.mem_cons_of_mem _ msX5_restingCell)) rfl hl.1 rfl (Nat.le_of_ble_eq_true rfl) (by decide) (dk kX4_carryOutFlight_0_ok 19 rfl) ?_
  refine cvDv (As := [.int (nI w), .int (rest9 w (ldg (c w) d (stp w f)))]) (rest := []) (sSet cI ad F k (mov1 c b v w (rest9 w (ldg (c w) d (stp w f)))) (mov2 c b v w (rest9 w (ldg (c w) d (stp w f)))) (mov3 c b v w (rest9 w (ldg (c w) d (stp w f)))) g h j (nI t) u z) ⟨hx, hb, hml, hown, hts⟩ (tX1_move l D cI cQ cL ad N (sSet cI ad F k c b v g h j (nI t) u z) (k + 1) hkm c b v (sSet_at hS0).2.1 (nI w) w rfl (by omega) (rest9 w (ldg (c w) d (stp w f)))) (cwV9 2 hts mcX1_move (ac6 _ (List.mem_of_getElem? (i := 22) rfl)) miX1_move meX1_move mini_RX1 rfl rfl hdX1_move ⟨Nat.le_of_ble_eq_true rfl, Nat.le_of_ble_eq_true rfl⟩) hDi hK hP hNW hS hk1 (sSet_at hS0).2.1.1 rfl rfl hl.1 rfl (Nat.le_of_ble_eq_true rfl) (by decide) (dk kX4_carryOutFlight_0_ok 20 rfl) sSet_m (fun H locs hP hS => ?_)
  refine lv_aload_n hx hb (dk kX4_carryOutFlight_0_ok 21 rfl) rfl (lv_at hl 2 rfl) ?_
  refine gf hx hb hts (fun w h => List.mem_cons_of_mem _ (acX4 w h)) hown hK hP hk0 (sSet_at hS0).1 rfl 1 (by decide) (hts _ (List.mem_cons_of_mem _ (ac3 _ (List.mem_of_getElem? (i := 17) rfl)))) (fun _ h => h) rfl (dk kX4_carryOutFlight_0_ok 22 rfl) ?_
  refine lv_iload_n hx hb (dk kX4_carryOutFlight_0_ok 23 rfl) rfl (lv_at hl 3 rfl) ?_
  refine lv_dup2_11 hx hb (dk kX4_carryOutFlight_0_ok 24 rfl) rfl rfl ?_
  refine ald (j := w) hx hb hK hP hk5 (sSet_at hS0).2.2.1 rfl (by omega) (by decide) (dk kX4_carryOutFlight_0_ok 25 rfl) ?_
  refine lv_iconst (v := nI 1) hx hb (dk kX4_carryOutFlight_0_ok 26 rfl) rfl ?_
  refine lv_iadd hx hb (dk kX4_carryOutFlight_0_ok 27 rfl) ?_
  refine ast (sSet cI ad F k (mov1 c b v w (rest9 w (ldg (c w) d (stp w f)))) (mov2 c b v w (rest9 w (ldg (c w) d (stp w f)))) (mov3 c b v w (rest9 w (ldg (c w) d (stp w f)))) (upd g w ((g w) + (nI 1))) h j (nI t) u z) (j := w) hx hb hK hDi hP hS hk5 (sSet_at hS0).2.2.1 rfl (by omega) (by decide) (dk kX4_carryOutFlight_0_ok 28 rfl) sSet_g (fun H locs hP hS => ?_)
  refine lv_iload hx hb (dk kX4_carryOutFlight_0_ok 29 rfl) (lv_at hl 0 rfl) ?_
  refine lv_iconst (v := -1) hx hb (dk kX4_carryOutFlight_0_ok 30 rfl) rfl ?_
  refine lv_icmp_ne (tgt := 78) hx hb (dk kX4_carryOutFlight_0_ok 31 rfl) (by decide) (fun h1 => ?_) (fun h1 => ?_)
  · skip
    refine lv_iload hx hb (dk kX4_carryOutFlight_0_ok 48 rfl) (lv_at hl 0 rfl) ?_
    refine lv_bipush (v := nI 84) hx hb (dk kX4_carryOutFlight_0_ok 49 rfl) rfl ?_
    refine lv_icmp_ne (tgt := 97) hx hb (dk kX4_carryOutFlight_0_ok 50 rfl) (by decide) (fun h2 => ?_) (fun h2 => ?_)
    · skip
      refine lv_aload_n hx hb (dk kX4_carryOutFlight_0_ok 56 rfl) rfl (lv_at hl 2 rfl) ?_
      refine cvDv (As := []) (rest := []) (sSet cI ad F k (mov1 c b v w (rest9 w (ldg (c w) d (stp w f)))) (mov2 c b v w (rest9 w (ldg (c w) d (stp w f)))) (mov3 c b v w (rest9 w (ldg (c w) d (stp w f)))) (upd g w ((g w) + (nI 1))) h ((pasg (mov1 c b v w (rest9 w (ldg (c w) d (stp w f)))) t 8 j t).1) (nI ((pasg (mov1 c b v w (rest9 w (ldg (c w) d (stp w f)))) t 8 j t).2)) u z) ⟨hx, hb, hml, hown, hts⟩ (tX4_passTurn l D cI cQ cL ad N (sSet cI ad F k (mov1 c b v w (rest9 w (ldg (c w) d (stp w f)))) (mov2 c b v w (rest9 w (ldg (c w) d (stp w f)))) (mov3 c b v w (rest9 w (ldg (c w) d (stp w f)))) (upd g w ((g w) + (nI 1))) h j (nI t) u z) k hk (mov1 c b v w (rest9 w (ldg (c w) d (stp w f)))) (mov2 c b v w (rest9 w (ldg (c w) d (stp w f)))) (mov3 c b v w (rest9 w (ldg (c w) d (stp w f)))) (upd g w ((g w) + (nI 1))) h j t u z (sSet_at hS0) ht) (cwV9 0 hts mcX4_passTurn (ac7 _ (List.mem_of_getElem? (i := 2) rfl)) miX4_passTurn meX4_passTurn mini_RX4 rfl rfl hdX4_passTurn ⟨Nat.le_of_ble_eq_true rfl, Nat.le_of_ble_eq_true rfl⟩) hDi hK hP hNW hS hk0 (sSet_at hS0).1 rfl rfl hl.1 rfl (Nat.le_of_ble_eq_true rfl) (by decide) (dk kX4_carryOutFlight_0_ok 57 rfl) sSet_sSet (fun H locs hP hS => ?_)
      refine lv_iload hx hb (dk kX4_carryOutFlight_0_ok 58 rfl) (lv_at hl 0 rfl) ?_
      refine csPN (As := [.int (ldg (c w) d (stp w f))]) (rest := []) ⟨hx, hb, hml, hown, hts⟩ (tX5_flightAnswer l (ldg (c w) d (stp w f))) (cwN9 1 hts mcX5_flightAnswer (nm12 hNW) mini_RX5 rfl rfl hdX5_flightAnswer ⟨Nat.le_of_ble_eq_true rfl, Nat.le_of_ble_eq_true rfl⟩) (hts _ (List.mem_cons_of_mem _ msX5_flightAnswer)) rfl hl.1 rfl (Nat.le_of_ble_eq_true rfl) (by decide) (dk kX4_carryOutFlight_0_ok 59 rfl) ?_
      exact hret _ _ _ _ _ _ _ _ rfl (by simp only [dp, flE, flH, flP, (eq_false h1), (eq_false h2), not_true_eq_false, not_false_eq_true, and_true, true_and, and_false, false_and, or_true, true_or, or_false, false_or, and_self, or_self, if_true, if_false, Bool.false_eq_true, reduceIte]) hP hS (by decide) (by decide) (dk kX4_carryOutFlight_1_ok 0 rfl)
    · skip
      refine lv_aload_n hx hb (dk kX4_carryOutFlight_0_ok 51 rfl) rfl (lv_at hl 2 rfl) ?_
      refine gf hx hb hts (fun w h => List.mem_cons_of_mem _ (acX4 w h)) hown hK hP hk0 (sSet_at hS0).1 rfl 0 (by decide) (hts _ (List.mem_cons_of_mem _ (ac3 _ (List.mem_of_getElem? (i := 16) rfl)))) (fun _ h => h) rfl (dk kX4_carryOutFlight_0_ok 52 rfl) ?_
      refine lv_iload hx hb (dk kX4_carryOutFlight_0_ok 53 rfl) (lv_at hl 1 rfl) ?_
      refine cvR (As := [.int (nI (w / 4))]) (rest := []) ⟨hx, hb, hml, hown, hts⟩ (tX1_isAllPotted l D cI cQ cL ad N (sSet cI ad F k (mov1 c b v w (rest9 w (ldg (c w) d (stp w f)))) (mov2 c b v w (rest9 w (ldg (c w) d (stp w f)))) (mov3 c b v w (rest9 w (ldg (c w) d (stp w f)))) (upd g w ((g w) + (nI 1))) h j (nI t) u z) (k + 1) hkm (mov1 c b v w (rest9 w (ldg (c w) d (stp w f)))) (mov2 c b v w (rest9 w (ldg (c w) d (stp w f)))) (mov3 c b v w (rest9 w (ldg (c w) d (stp w f)))) (sSet_at hS0).2.1 (nI (w / 4)) (w / 4) rfl (by omega)) (cwV9 1 hts mcX1_isAllPotted (ac6 _ (List.mem_of_getElem? (i := 17) rfl)) miX1_isAllPotted meX1_isAllPotted mini_RX1 rfl rfl hdX1_isAllPotted ⟨Nat.le_of_ble_eq_true rfl, Nat.le_of_ble_eq_true rfl⟩) hK hP hNW hk1 (sSet_at hS0).2.1.1 rfl rfl hl.1 rfl (Nat.le_of_ble_eq_true rfl) (by decide) (dk kX4_carryOutFlight_0_ok 54 rfl) ?_
      refine b_if_eq (tgt := 101) hx hb (dk kX4_carryOutFlight_0_ok 55 rfl) (by decide) (fun h3 => ?_) (fun h3 => ?_)
      · replace h3 := of_decide_eq_false h3
        refine lv_iload hx hb (dk kX4_carryOutFlight_0_ok 58 rfl) (lv_at hl 0 rfl) ?_
        refine csPN (As := [.int (ldg (c w) d (stp w f))]) (rest := []) ⟨hx, hb, hml, hown, hts⟩ (tX5_flightAnswer l (ldg (c w) d (stp w f))) (cwN9 1 hts mcX5_flightAnswer (nm12 hNW) mini_RX5 rfl rfl hdX5_flightAnswer ⟨Nat.le_of_ble_eq_true rfl, Nat.le_of_ble_eq_true rfl⟩) (hts _ (List.mem_cons_of_mem _ msX5_flightAnswer)) rfl hl.1 rfl (Nat.le_of_ble_eq_true rfl) (by decide) (dk kX4_carryOutFlight_0_ok 59 rfl) ?_
        exact hret _ _ _ _ _ _ _ _ rfl (by simp only [dp, flE, flH, flP, (eq_false h1), (eq_true h2), (eq_false h3), not_true_eq_false, not_false_eq_true, and_true, true_and, and_false, false_and, or_true, true_or, or_false, false_or, and_self, or_self, if_true, if_false, Bool.false_eq_true, reduceIte]) hP hS (by decide) (by decide) (dk kX4_carryOutFlight_1_ok 0 rfl)
      · replace h3 := of_decide_eq_true h3
        refine lv_aload_n hx hb (dk kX4_carryOutFlight_0_ok 56 rfl) rfl (lv_at hl 2 rfl) ?_
        refine cvDv (As := []) (rest := []) (sSet cI ad F k (mov1 c b v w (rest9 w (ldg (c w) d (stp w f)))) (mov2 c b v w (rest9 w (ldg (c w) d (stp w f)))) (mov3 c b v w (rest9 w (ldg (c w) d (stp w f)))) (upd g w ((g w) + (nI 1))) h ((pasg (mov1 c b v w (rest9 w (ldg (c w) d (stp w f)))) t 8 j t).1) (nI ((pasg (mov1 c b v w (rest9 w (ldg (c w) d (stp w f)))) t 8 j t).2)) u z) ⟨hx, hb, hml, hown, hts⟩ (tX4_passTurn l D cI cQ cL ad N (sSet cI ad F k (mov1 c b v w (rest9 w (ldg (c w) d (stp w f)))) (mov2 c b v w (rest9 w (ldg (c w) d (stp w f)))) (mov3 c b v w (rest9 w (ldg (c w) d (stp w f)))) (upd g w ((g w) + (nI 1))) h j (nI t) u z) k hk (mov1 c b v w (rest9 w (ldg (c w) d (stp w f)))) (mov2 c b v w (rest9 w (ldg (c w) d (stp w f)))) (mov3 c b v w (rest9 w (ldg (c w) d (stp w f)))) (upd g w ((g w) + (nI 1))) h j t u z (sSet_at hS0) ht) (cwV9 0 hts mcX4_passTurn (ac7 _ (List.mem_of_getElem? (i := 2) rfl)) miX4_passTurn meX4_passTurn mini_RX4 rfl rfl hdX4_passTurn ⟨Nat.le_of_ble_eq_true rfl, Nat.le_of_ble_eq_true rfl⟩) hDi hK hP hNW hS hk0 (sSet_at hS0).1 rfl rfl hl.1 rfl (Nat.le_of_ble_eq_true rfl) (by decide) (dk kX4_carryOutFlight_0_ok 57 rfl) sSet_sSet (fun H locs hP hS => ?_)
        refine lv_iload hx hb (dk kX4_carryOutFlight_0_ok 58 rfl) (lv_at hl 0 rfl) ?_
        refine csPN (As := [.int (ldg (c w) d (stp w f))]) (rest := []) ⟨hx, hb, hml, hown, hts⟩ (tX5_flightAnswer l (ldg (c w) d (stp w f))) (cwN9 1 hts mcX5_flightAnswer (nm12 hNW) mini_RX5 rfl rfl hdX5_flightAnswer ⟨Nat.le_of_ble_eq_true rfl, Nat.le_of_ble_eq_true rfl⟩) (hts _ (List.mem_cons_of_mem _ msX5_flightAnswer)) rfl hl.1 rfl (Nat.le_of_ble_eq_true rfl) (by decide) (dk kX4_carryOutFlight_0_ok 59 rfl) ?_
        exact hret _ _ _ _ _ _ _ _ rfl (by simp only [dp, flE, flH, flP, (eq_false h1), (eq_true h2), (eq_true h3), not_true_eq_false, not_false_eq_true, and_true, true_and, and_false, false_and, or_true, true_or, or_false, false_or, and_self, or_self, if_true, if_false, Bool.false_eq_true, reduceIte]) hP hS (by decide) (by decide) (dk kX4_carryOutFlight_1_ok 0 rfl)
  · skip
    refine lv_aload_n hx hb (dk kX4_carryOutFlight_0_ok 32 rfl) rfl (lv_at hl 2 rfl) ?_
    refine gf hx hb hts (fun w h => List.mem_cons_of_mem _ (acX4 w h)) hown hK hP hk0 (sSet_at hS0).1 rfl 2 (by decide) (hts _ (List.mem_cons_of_mem _ (ac3 _ (List.mem_of_getElem? (i := 18) rfl)))) (fun _ h => h) rfl (dk kX4_carryOutFlight_0_ok 33 rfl) ?_
    refine lv_iload hx hb (dk kX4_carryOutFlight_0_ok 34 rfl) (lv_at hl 1 rfl) ?_
    refine lv_dup2_11 hx hb (dk kX4_carryOutFlight_0_ok 35 rfl) rfl rfl ?_
    refine ald (j := (w / 4)) hx hb hK hP hk6 (sSet_at hS0).2.2.2.1 rfl (by omega) (by decide) (dk kX4_carryOutFlight_0_ok 36 rfl) ?_
    refine lv_iconst (v := nI 1) hx hb (dk kX4_carryOutFlight_0_ok 37 rfl) rfl ?_
    refine lv_iadd hx hb (dk kX4_carryOutFlight_0_ok 38 rfl) ?_
    refine ast (sSet cI ad F k (mov1 c b v w (rest9 w (ldg (c w) d (stp w f)))) (mov2 c b v w (rest9 w (ldg (c w) d (stp w f)))) (mov3 c b v w (rest9 w (ldg (c w) d (stp w f)))) (upd g w ((g w) + (nI 1))) (upd h (w / 4) ((h (w / 4)) + (nI 1))) j (nI t) u z) (j := (w / 4)) hx hb hK hDi hP hS hk6 (sSet_at hS0).2.2.2.1 rfl (by omega) (by decide) (dk kX4_carryOutFlight_0_ok 39 rfl) sSet_h (fun H locs hP hS => ?_)
    refine lv_aload_n hx hb (dk kX4_carryOutFlight_0_ok 40 rfl) rfl (lv_at hl 2 rfl) ?_
    refine gf hx hb hts (fun w h => List.mem_cons_of_mem _ (acX4 w h)) hown hK hP hk0 (sSet_at hS0).1 rfl 3 (by decide) (hts _ (List.mem_cons_of_mem _ (ac3 _ (List.mem_of_getElem? (i := 19) rfl)))) (fun _ h => h) rfl (dk kX4_carryOutFlight_0_ok 41 rfl) ?_
    refine lv_iload hx hb (dk kX4_carryOutFlight_0_ok 42 rfl) (lv_at hl 1 rfl) ?_
    refine lv_dup2_11 hx hb (dk kX4_carryOutFlight_0_ok 43 rfl) rfl rfl ?_
    refine ald (j := (w / 4)) hx hb hK hP hk7 (sSet_at hS0).2.2.2.2 rfl (by omega) (by decide) (dk kX4_carryOutFlight_0_ok 44 rfl) ?_
    refine lv_iconst (v := nI 1) hx hb (dk kX4_carryOutFlight_0_ok 45 rfl) rfl ?_
    refine lv_iadd hx hb (dk kX4_carryOutFlight_0_ok 46 rfl) ?_
    refine ast (sSet cI ad F k (mov1 c b v w (rest9 w (ldg (c w) d (stp w f)))) (mov2 c b v w (rest9 w (ldg (c w) d (stp w f)))) (mov3 c b v w (rest9 w (ldg (c w) d (stp w f)))) (upd g w ((g w) + (nI 1))) (upd h (w / 4) ((h (w / 4)) + (nI 1))) (upd j (w / 4) ((j (w / 4)) + (nI 1))) (nI t) u z) (j := (w / 4)) hx hb hK hDi hP hS hk7 (sSet_at hS0).2.2.2.2 rfl (by omega) (by decide) (dk kX4_carryOutFlight_0_ok 47 rfl) sSet_j (fun H locs hP hS => ?_)
    refine lv_iload hx hb (dk kX4_carryOutFlight_0_ok 48 rfl) (lv_at hl 0 rfl) ?_
    refine lv_bipush (v := nI 84) hx hb (dk kX4_carryOutFlight_0_ok 49 rfl) rfl ?_
    refine lv_icmp_ne (tgt := 97) hx hb (dk kX4_carryOutFlight_0_ok 50 rfl) (by decide) (fun h4 => ?_) (fun h4 => ?_)
    · skip
      refine lv_aload_n hx hb (dk kX4_carryOutFlight_0_ok 56 rfl) rfl (lv_at hl 2 rfl) ?_
      refine cvDv (As := []) (rest := []) (sSet cI ad F k (mov1 c b v w (rest9 w (ldg (c w) d (stp w f)))) (mov2 c b v w (rest9 w (ldg (c w) d (stp w f)))) (mov3 c b v w (rest9 w (ldg (c w) d (stp w f)))) (upd g w ((g w) + (nI 1))) (upd h (w / 4) ((h (w / 4)) + (nI 1))) ((pasg (mov1 c b v w (rest9 w (ldg (c w) d (stp w f)))) t 8 (upd j (w / 4) ((j (w / 4)) + (nI 1))) t).1) (nI ((pasg (mov1 c b v w (rest9 w (ldg (c w) d (stp w f)))) t 8 (upd j (w / 4) ((j (w / 4)) + (nI 1))) t).2)) u z) ⟨hx, hb, hml, hown, hts⟩ (tX4_passTurn l D cI cQ cL ad N (sSet cI ad F k (mov1 c b v w (rest9 w (ldg (c w) d (stp w f)))) (mov2 c b v w (rest9 w (ldg (c w) d (stp w f)))) (mov3 c b v w (rest9 w (ldg (c w) d (stp w f)))) (upd g w ((g w) + (nI 1))) (upd h (w / 4) ((h (w / 4)) + (nI 1))) (upd j (w / 4) ((j (w / 4)) + (nI 1))) (nI t) u z) k hk (mov1 c b v w (rest9 w (ldg (c w) d (stp w f)))) (mov2 c b v w (rest9 w (ldg (c w) d (stp w f)))) (mov3 c b v w (rest9 w (ldg (c w) d (stp w f)))) (upd g w ((g w) + (nI 1))) (upd h (w / 4) ((h (w / 4)) + (nI 1))) (upd j (w / 4) ((j (w / 4)) + (nI 1))) t u z (sSet_at hS0) ht) (cwV9 0 hts mcX4_passTurn (ac7 _ (List.mem_of_getElem? (i := 2) rfl)) miX4_passTurn meX4_passTurn mini_RX4 rfl rfl hdX4_passTurn ⟨Nat.le_of_ble_eq_true rfl, Nat.le_of_ble_eq_true rfl⟩) hDi hK hP hNW hS hk0 (sSet_at hS0).1 rfl rfl hl.1 rfl (Nat.le_of_ble_eq_true rfl) (by decide) (dk kX4_carryOutFlight_0_ok 57 rfl) sSet_sSet (fun H locs hP hS => ?_)
      refine lv_iload hx hb (dk kX4_carryOutFlight_0_ok 58 rfl) (lv_at hl 0 rfl) ?_
      refine csPN (As := [.int (ldg (c w) d (stp w f))]) (rest := []) ⟨hx, hb, hml, hown, hts⟩ (tX5_flightAnswer l (ldg (c w) d (stp w f))) (cwN9 1 hts mcX5_flightAnswer (nm12 hNW) mini_RX5 rfl rfl hdX5_flightAnswer ⟨Nat.le_of_ble_eq_true rfl, Nat.le_of_ble_eq_true rfl⟩) (hts _ (List.mem_cons_of_mem _ msX5_flightAnswer)) rfl hl.1 rfl (Nat.le_of_ble_eq_true rfl) (by decide) (dk kX4_carryOutFlight_0_ok 59 rfl) ?_
      exact hret _ _ _ _ _ _ _ _ rfl (by simp only [dp, flE, flH, flP, (eq_true h1), (eq_false h4), not_true_eq_false, not_false_eq_true, and_true, true_and, and_false, false_and, or_true, true_or, or_false, false_or, and_self, or_self, if_true, if_false, Bool.false_eq_true, reduceIte]) hP hS (by decide) (by decide) (dk kX4_carryOutFlight_1_ok 0 rfl)
    · skip
      refine lv_aload_n hx hb (dk kX4_carryOutFlight_0_ok 51 rfl) rfl (lv_at hl 2 rfl) ?_
      refine gf hx hb hts (fun w h => List.mem_cons_of_mem _ (acX4 w h)) hown hK hP hk0 (sSet_at hS0).1 rfl 0 (by decide) (hts _ (List.mem_cons_of_mem _ (ac3 _ (List.mem_of_getElem? (i := 16) rfl)))) (fun _ h => h) rfl (dk kX4_carryOutFlight_0_ok 52 rfl) ?_
      refine lv_iload hx hb (dk kX4_carryOutFlight_0_ok 53 rfl) (lv_at hl 1 rfl) ?_
      refine cvR (As := [.int (nI (w / 4))]) (rest := []) ⟨hx, hb, hml, hown, hts⟩ (tX1_isAllPotted l D cI cQ cL ad N (sSet cI ad F k (mov1 c b v w (rest9 w (ldg (c w) d (stp w f)))) (mov2 c b v w (rest9 w (ldg (c w) d (stp w f)))) (mov3 c b v w (rest9 w (ldg (c w) d (stp w f)))) (upd g w ((g w) + (nI 1))) (upd h (w / 4) ((h (w / 4)) + (nI 1))) (upd j (w / 4) ((j (w / 4)) + (nI 1))) (nI t) u z) (k + 1) hkm (mov1 c b v w (rest9 w (ldg (c w) d (stp w f)))) (mov2 c b v w (rest9 w (ldg (c w) d (stp w f)))) (mov3 c b v w (rest9 w (ldg (c w) d (stp w f)))) (sSet_at hS0).2.1 (nI (w / 4)) (w / 4) rfl (by omega)) (cwV9 1 hts mcX1_isAllPotted (ac6 _ (List.mem_of_getElem? (i := 17) rfl)) miX1_isAllPotted meX1_isAllPotted mini_RX1 rfl rfl hdX1_isAllPotted ⟨Nat.le_of_ble_eq_true rfl, Nat.le_of_ble_eq_true rfl⟩) hK hP hNW hk1 (sSet_at hS0).2.1.1 rfl rfl hl.1 rfl (Nat.le_of_ble_eq_true rfl) (by decide) (dk kX4_carryOutFlight_0_ok 54 rfl) ?_
      refine b_if_eq (tgt := 101) hx hb (dk kX4_carryOutFlight_0_ok 55 rfl) (by decide) (fun h5 => ?_) (fun h5 => ?_)
      · replace h5 := of_decide_eq_false h5
        refine lv_iload hx hb (dk kX4_carryOutFlight_0_ok 58 rfl) (lv_at hl 0 rfl) ?_
        refine csPN (As := [.int (ldg (c w) d (stp w f))]) (rest := []) ⟨hx, hb, hml, hown, hts⟩ (tX5_flightAnswer l (ldg (c w) d (stp w f))) (cwN9 1 hts mcX5_flightAnswer (nm12 hNW) mini_RX5 rfl rfl hdX5_flightAnswer ⟨Nat.le_of_ble_eq_true rfl, Nat.le_of_ble_eq_true rfl⟩) (hts _ (List.mem_cons_of_mem _ msX5_flightAnswer)) rfl hl.1 rfl (Nat.le_of_ble_eq_true rfl) (by decide) (dk kX4_carryOutFlight_0_ok 59 rfl) ?_
        exact hret _ _ _ _ _ _ _ _ rfl (by simp only [dp, flE, flH, flP, (eq_true h1), (eq_true h4), (eq_false h5), not_true_eq_false, not_false_eq_true, and_true, true_and, and_false, false_and, or_true, true_or, or_false, false_or, and_self, or_self, if_true, if_false, Bool.false_eq_true, reduceIte]) hP hS (by decide) (by decide) (dk kX4_carryOutFlight_1_ok 0 rfl)
      · replace h5 := of_decide_eq_true h5
        refine lv_aload_n hx hb (dk kX4_carryOutFlight_0_ok 56 rfl) rfl (lv_at hl 2 rfl) ?_
        refine cvDv (As := []) (rest := []) (sSet cI ad F k (mov1 c b v w (rest9 w (ldg (c w) d (stp w f)))) (mov2 c b v w (rest9 w (ldg (c w) d (stp w f)))) (mov3 c b v w (rest9 w (ldg (c w) d (stp w f)))) (upd g w ((g w) + (nI 1))) (upd h (w / 4) ((h (w / 4)) + (nI 1))) ((pasg (mov1 c b v w (rest9 w (ldg (c w) d (stp w f)))) t 8 (upd j (w / 4) ((j (w / 4)) + (nI 1))) t).1) (nI ((pasg (mov1 c b v w (rest9 w (ldg (c w) d (stp w f)))) t 8 (upd j (w / 4) ((j (w / 4)) + (nI 1))) t).2)) u z) ⟨hx, hb, hml, hown, hts⟩ (tX4_passTurn l D cI cQ cL ad N (sSet cI ad F k (mov1 c b v w (rest9 w (ldg (c w) d (stp w f)))) (mov2 c b v w (rest9 w (ldg (c w) d (stp w f)))) (mov3 c b v w (rest9 w (ldg (c w) d (stp w f)))) (upd g w ((g w) + (nI 1))) (upd h (w / 4) ((h (w / 4)) + (nI 1))) (upd j (w / 4) ((j (w / 4)) + (nI 1))) (nI t) u z) k hk (mov1 c b v w (rest9 w (ldg (c w) d (stp w f)))) (mov2 c b v w (rest9 w (ldg (c w) d (stp w f)))) (mov3 c b v w (rest9 w (ldg (c w) d (stp w f)))) (upd g w ((g w) + (nI 1))) (upd h (w / 4) ((h (w / 4)) + (nI 1))) (upd j (w / 4) ((j (w / 4)) + (nI 1))) t u z (sSet_at hS0) ht) (cwV9 0 hts mcX4_passTurn (ac7 _ (List.mem_of_getElem? (i := 2) rfl)) miX4_passTurn meX4_passTurn mini_RX4 rfl rfl hdX4_passTurn ⟨Nat.le_of_ble_eq_true rfl, Nat.le_of_ble_eq_true rfl⟩) hDi hK hP hNW hS hk0 (sSet_at hS0).1 rfl rfl hl.1 rfl (Nat.le_of_ble_eq_true rfl) (by decide) (dk kX4_carryOutFlight_0_ok 57 rfl) sSet_sSet (fun H locs hP hS => ?_)
        refine lv_iload hx hb (dk kX4_carryOutFlight_0_ok 58 rfl) (lv_at hl 0 rfl) ?_
        refine csPN (As := [.int (ldg (c w) d (stp w f))]) (rest := []) ⟨hx, hb, hml, hown, hts⟩ (tX5_flightAnswer l (ldg (c w) d (stp w f))) (cwN9 1 hts mcX5_flightAnswer (nm12 hNW) mini_RX5 rfl rfl hdX5_flightAnswer ⟨Nat.le_of_ble_eq_true rfl, Nat.le_of_ble_eq_true rfl⟩) (hts _ (List.mem_cons_of_mem _ msX5_flightAnswer)) rfl hl.1 rfl (Nat.le_of_ble_eq_true rfl) (by decide) (dk kX4_carryOutFlight_0_ok 59 rfl) ?_
        exact hret _ _ _ _ _ _ _ _ rfl (by simp only [dp, flE, flH, flP, (eq_true h1), (eq_true h4), (eq_true h5), not_true_eq_false, not_false_eq_true, and_true, true_and, and_false, false_and, or_true, true_or, or_false, false_or, and_self, or_self, if_true, if_false, Bool.false_eq_true, reduceIte]) hP hS (by decide) (by decide) (dk kX4_carryOutFlight_1_ok 0 rfl)
set_option maxRecDepth 100000 in
set_option maxHeartbeats 4000000 in
theorem tX4_carryOutLift (l : Launch) (D : va_G) (cI cQ cL : ClassId) (ad : Nat → Nat) (N : Nat) (F : Nat → va_E) (k : Nat) (hk : k + 7 < N) (c b v g h j : Nat → Int32) (t : Nat) (u z : Int32) (hS0 : stAt cI ad F k c b v g h j (nI t) u z) (ht : t < 4) (x y m9 : Int32) (n : Nat) (hmn : m9 = nI n) (hn1 : 1 ≤ n) (hn : n < 2 ^ 31) (d : Int32) : MX l yX4_carryOutLift (Cond.code yX4_carryOutLift cX4_carryOutLift 6 none :: AW) ({ frames := 3, cells := 0, slots := 0, locals := 68 } : Room) D cI cQ cL ad N F [.ref (ad k), .int x, .int y, .int m9, .int d] (dp none (sSet cI ad F k (liC c b v x y n d) (liB c b v x y n d) (liV c b v x y n d) g h ((pasg (liC c b v x y n d) t 8 j t).1) (nI ((pasg (liC c b v x y n d) t 8 j t).2)) (u + nI 1) z)) 0 0 := by
  refine mx_v (by decide +kernel) rfl (Nat.le_of_ble_eq_true rfl) (fun p e s m below meth cd Q ls hx hb hml hown hts hDi hP hK hNW hS hret hl => ?_)
  have hown : s.vm.findClass RX4 = some m.cls := hown
  subst hmn
  have hk0 : k < N := by omega
  have hk1 : k + 1 < N := by omega
  have hk11 : k + 1 + 1 < N := by omega
  have hk12 : k + 1 + 2 < N := by omega
  have hk13 : k + 1 + 3 < N := by omega
  have hkm : k + 1 + 3 < N := by omega
  have hk5 : k + 5 < N := by omega
  have hk6 : k + 6 < N := by omega
  have hk7 : k + 7 < N := hk
  have hP : va_P D vwCl (iW ad N (sSet cI ad F k c b v g h j (nI t) u z)) s.heap := by rw [sSet_self hS0]; exact hP
  have hl : lv_has ls 6 [(0, .ref (ad k)), (1, .int x), (2, .int y), (3, .int (nI n)), (4, .int d)] := hl
  refine lv_aload_n hx hb (dk kX4_carryOutLift_ok 0 rfl) rfl (lv_at hl 0 rfl) ?_
  refine gf hx hb hts (fun w h => List.mem_cons_of_mem _ (acX4 w h)) hown hK hP hk0 (sSet_at hS0).1 rfl 0 (by decide) (hts _ (List.mem_cons_of_mem _ (ac3 _ (List.mem_of_getElem? (i := 16) rfl)))) (fun _ h => h) rfl (dk kX4_carryOutLift_ok 1 rfl) ?_
  refine lv_iload_n hx hb (dk kX4_carryOutLift_ok 2 rfl) rfl (lv_at hl 1 rfl) ?_
  refine lv_iload_n hx hb (dk kX4_carryOutLift_ok 3 rfl) rfl (lv_at hl 2 rfl) ?_
  refine csPN (As := [.int x, .int y]) (rest := [.ref (ad (k + 1))]) ⟨hx, hb, hml, hown, hts⟩ (tX5_cellAt l x y) (cwN9 2 hts mcX5_cellAt (nm13 hNW) mini_RX5 rfl rfl hdX5_cellAt ⟨Nat.le_of_ble_eq_true rfl, Nat.le_of_ble_eq_true rfl⟩) (hts _ (List.mem_cons_of_mem _ msX5_cellAt)) rfl hl.1 rfl (Nat.le_of_ble_eq_true rfl) (by decide) (dk kX4_carryOutLift_ok 4 rfl) ?_
  refine lv_iload_n hx hb (dk kX4_carryOutLift_ok 5 rfl) rfl (lv_at hl 3 rfl) ?_
  refine cvR (As := [.int (cat x y), .int (nI n)]) (rest := []) ⟨hx, hb, hml, hown, hts⟩ (tX1_lowestOfUpper l D cI cQ cL ad N (sSet cI ad F k c b v g h j (nI t) u z) (k + 1) hkm c b v (sSet_at hS0).2.1 (cat x y) (nI n) n rfl (by omega) (by omega)) (cwV9 2 hts mcX1_lowestOfUpper (ac6 _ (List.mem_of_getElem? (i := 5) rfl)) miX1_lowestOfUpper meX1_lowestOfUpper mini_RX1 rfl rfl hdX1_lowestOfUpper ⟨Nat.le_of_ble_eq_true rfl, Nat.le_of_ble_eq_true rfl⟩) hK hP hNW hk1 (sSet_at hS0).2.1.1 rfl rfl hl.1 rfl (Nat.le_of_ble_eq_true rfl) (by decide) (dk kX4_carryOutLift_ok 6 rfl) ?_
  refine lv_istore (lv' := [(5, .int (low c b v (cat x y) n)), (0, .ref (ad k)), (1, .int x), (2, .int y), (3, .int (nI n)), (4, .int d)]) hx hb (dk kX4_carryOutLift_ok 7 rfl) hl (by decide) rfl (fun ls hl => ?_)
  refine lv_iload hx hb (dk kX4_carryOutLift_ok 8 rfl) (lv_at hl 0 rfl) ?_
  refine csPN (As := [.int (low c b v (cat x y) n)]) (rest := []) ⟨hx, hb, hml, hown, hts⟩ (tX5_isWink l (low c b v (cat x y) n)) (cwN9 1 hts mcX5_isWink (nm15 hNW) mini_RX5 rfl rfl hdX5_isWink ⟨Nat.le_of_ble_eq_true rfl, Nat.le_of_ble_eq_true rfl⟩) (hts _ (List.mem_cons_of_mem _ msX5_isWink)) rfl hl.1 rfl (Nat.le_of_ble_eq_true rfl) (by decide) (dk kX4_carryOutLift_ok 9 rfl) ?_
  refine b_if_eq (tgt := 39) hx hb (dk kX4_carryOutLift_ok 10 rfl) (by decide) (fun h1 => ?_) (fun h1 => ?_)
  · skip
    refine lv_aload_n hx hb (dk kX4_carryOutLift_ok 19 rfl) rfl (lv_at hl 1 rfl) ?_
    refine lv_dup hx hb (dk kX4_carryOutLift_ok 20 rfl) rfl ?_
    refine gf hx hb hts (fun w h => List.mem_cons_of_mem _ (acX4 w h)) hown hK hP hk0 (sSet_at hS0).1 rfl 5 (by decide) (hts _ (List.mem_cons_of_mem _ (ac3 _ (List.mem_of_getElem? (i := 21) rfl)))) (fun _ h => h) rfl (dk kX4_carryOutLift_ok 21 rfl) ?_
    refine lv_iconst (v := nI 1) hx hb (dk kX4_carryOutLift_ok 22 rfl) rfl ?_
    refine lv_iadd hx hb (dk kX4_carryOutLift_ok 23 rfl) ?_
    refine pf (sSet cI ad F k c b v g h j (nI t) (u + (nI 1)) z) hx hb hts (fun w h => List.mem_cons_of_mem _ (acX4 w h)) tyX4 tyX4_ok nmX4 hown hK hDi hP hS hk0 (sSet_at hS0).1 rfl 5 (by decide) (hts _ (List.mem_cons_of_mem _ (ac3 _ (List.mem_of_getElem? (i := 21) rfl)))) (fun _ h => h) rfl (ty := .int) rfl rfl rfl (Nat.le_of_ble_eq_true rfl) (dk kX4_carryOutLift_ok 24 rfl) sSet_0 (fun H locs hP hS => ?_)
    refine lv_aload_n hx hb (dk kX4_carryOutLift_ok 25 rfl) rfl (lv_at hl 1 rfl) ?_
    refine cvDv (As := []) (rest := []) (sSet cI ad F k c b v g h ((pasg c t 8 j t).1) (nI ((pasg c t 8 j t).2)) (u + (nI 1)) z) ⟨hx, hb, hml, hown, hts⟩ (tX4_passTurn l D cI cQ cL ad N (sSet cI ad F k c b v g h j (nI t) (u + (nI 1)) z) k hk c b v g h j t (u + (nI 1)) z (sSet_at hS0) ht) (cwV9 0 hts mcX4_passTurn (ac7 _ (List.mem_of_getElem? (i := 2) rfl)) miX4_passTurn meX4_passTurn mini_RX4 rfl rfl hdX4_passTurn ⟨Nat.le_of_ble_eq_true rfl, Nat.le_of_ble_eq_true rfl⟩) hDi hK hP hNW hS hk0 (sSet_at hS0).1 rfl rfl hl.1 rfl (Nat.le_of_ble_eq_true rfl) (by decide) (dk kX4_carryOutLift_ok 26 rfl) sSet_sSet (fun H locs hP hS => ?_)
    exact hret _ _ _ _ _ _ _ (by simp only [dp, liC, liB, liV, h1, not_true_eq_false, not_false_eq_true, and_true, true_and, and_false, false_and, or_true, true_or, or_false, false_or, and_self, or_self, if_true, if_false, Bool.false_eq_true, reduceIte]) hP hS (by decide) (by decide) (dk kX4_carryOutLift_ok 27 rfl)
  · skip
    refine lv_aload_n hx hb (dk kX4_carryOutLift_ok 11 rfl) rfl (lv_at hl 1 rfl) ?_
    refine gf hx hb hts (fun w h => List.mem_cons_of_mem _ (acX4 w h)) hown hK hP hk0 (sSet_at hS0).1 rfl 0 (by decide) (hts _ (List.mem_cons_of_mem _ (ac3 _ (List.mem_of_getElem? (i := 16) rfl)))) (fun _ h => h) rfl (dk kX4_carryOutLift_ok 12 rfl) ?_
    refine lv_iload hx hb (dk kX4_carryOutLift_ok 13 rfl) (lv_at hl 0 rfl) ?_
    refine lv_iload_n hx hb (dk kX4_carryOutLift_ok 14 rfl) rfl (lv_at hl 2 rfl) ?_
    refine lv_iload_n hx hb (dk kX4_carryOutLift_ok 15 rfl) rfl (lv_at hl 3 rfl) ?_
    refine lv_iload hx hb (dk kX4_carryOutLift_ok 16 rfl) (lv_at hl 5 rfl) ?_
    refine csPN (As := [.int x, .int y, .int d]) (rest := [.int (low c b v (cat x y) n), .ref (ad (k + 1))]) ⟨hx, hb, hml, hown, hts⟩ (tX5_cellBeside l x y d) (cwN9 3 hts mcX5_cellBeside (nm14 hNW) mini_RX5 rfl rfl hdX5_cellBeside ⟨Nat.le_of_ble_eq_true rfl, Nat.le_of_ble_eq_true rfl⟩) (hts _ (List.mem_cons_of_mem _ msX5_cellBeside)) rfl hl.1 rfl (Nat.le_of_ble_eq_true rfl) (by decide) (dk kX4_carryOutLift_ok 17 rfl) ?_
    refine cvDv (As := [.int (low c b v (cat x y) n), .int (beside x y d)]) (rest := []) (sSet cI ad F k (mov1 c b v (ix (low c b v (cat x y) n)) (beside x y d)) (mov2 c b v (ix (low c b v (cat x y) n)) (beside x y d)) (mov3 c b v (ix (low c b v (cat x y) n)) (beside x y d)) g h j (nI t) u z) ⟨hx, hb, hml, hown, hts⟩ (tX1_move l D cI cQ cL ad N (sSet cI ad F k c b v g h j (nI t) u z) (k + 1) hkm c b v (sSet_at hS0).2.1 (low c b v (cat x y) n) (ix (low c b v (cat x y) n)) (wk_eq h1) (by have := wk_lt h1; omega) (beside x y d)) (cwV9 2 hts mcX1_move (ac6 _ (List.mem_of_getElem? (i := 22) rfl)) miX1_move meX1_move mini_RX1 rfl rfl hdX1_move ⟨Nat.le_of_ble_eq_true rfl, Nat.le_of_ble_eq_true rfl⟩) hDi hK hP hNW hS hk1 (sSet_at hS0).2.1.1 rfl rfl hl.1 rfl (Nat.le_of_ble_eq_true rfl) (by decide) (dk kX4_carryOutLift_ok 18 rfl) sSet_m (fun H locs hP hS => ?_)
    refine lv_aload_n hx hb (dk kX4_carryOutLift_ok 19 rfl) rfl (lv_at hl 1 rfl) ?_
    refine lv_dup hx hb (dk kX4_carryOutLift_ok 20 rfl) rfl ?_
    refine gf hx hb hts (fun w h => List.mem_cons_of_mem _ (acX4 w h)) hown hK hP hk0 (sSet_at hS0).1 rfl 5 (by decide) (hts _ (List.mem_cons_of_mem _ (ac3 _ (List.mem_of_getElem? (i := 21) rfl)))) (fun _ h => h) rfl (dk kX4_carryOutLift_ok 21 rfl) ?_
    refine lv_iconst (v := nI 1) hx hb (dk kX4_carryOutLift_ok 22 rfl) rfl ?_
    refine lv_iadd hx hb (dk kX4_carryOutLift_ok 23 rfl) ?_
    refine pf (sSet cI ad F k (mov1 c b v (ix (low c b v (cat x y) n)) (beside x y d)) (mov2 c b v (ix (low c b v (cat x y) n)) (beside x y d)) (mov3 c b v (ix (low c b v (cat x y) n)) (beside x y d)) g h j (nI t) (u + (nI 1)) z) hx hb hts (fun w h => List.mem_cons_of_mem _ (acX4 w h)) tyX4 tyX4_ok nmX4 hown hK hDi hP hS hk0 (sSet_at hS0).1 rfl 5 (by decide) (hts _ (List.mem_cons_of_mem _ (ac3 _ (List.mem_of_getElem? (i := 21) rfl)))) (fun _ h => h) rfl (ty := .int) rfl rfl rfl (Nat.le_of_ble_eq_true rfl) (dk kX4_carryOutLift_ok 24 rfl) sSet_0 (fun H locs hP hS => ?_)
    refine lv_aload_n hx hb (dk kX4_carryOutLift_ok 25 rfl) rfl (lv_at hl 1 rfl) ?_
    refine cvDv (As := []) (rest := []) (sSet cI ad F k (mov1 c b v (ix (low c b v (cat x y) n)) (beside x y d)) (mov2 c b v (ix (low c b v (cat x y) n)) (beside x y d)) (mov3 c b v (ix (low c b v (cat x y) n)) (beside x y d)) g h ((pasg (mov1 c b v (ix (low c b v (cat x y) n)) (beside x y d)) t 8 j t).1) (nI ((pasg (mov1 c b v (ix (low c b v (cat x y) n)) (beside x y d)) t 8 j t).2)) (u + (nI 1)) z) ⟨hx, hb, hml, hown, hts⟩ (tX4_passTurn l D cI cQ cL ad N (sSet cI ad F k (mov1 c b v (ix (low c b v (cat x y) n)) (beside x y d)) (mov2 c b v (ix (low c b v (cat x y) n)) (beside x y d)) (mov3 c b v (ix (low c b v (cat x y) n)) (beside x y d)) g h j (nI t) (u + (nI 1)) z) k hk (mov1 c b v (ix (low c b v (cat x y) n)) (beside x y d)) (mov2 c b v (ix (low c b v (cat x y) n)) (beside x y d)) (mov3 c b v (ix (low c b v (cat x y) n)) (beside x y d)) g h j t (u + (nI 1)) z (sSet_at hS0) ht) (cwV9 0 hts mcX4_passTurn (ac7 _ (List.mem_of_getElem? (i := 2) rfl)) miX4_passTurn meX4_passTurn mini_RX4 rfl rfl hdX4_passTurn ⟨Nat.le_of_ble_eq_true rfl, Nat.le_of_ble_eq_true rfl⟩) hDi hK hP hNW hS hk0 (sSet_at hS0).1 rfl rfl hl.1 rfl (Nat.le_of_ble_eq_true rfl) (by decide) (dk kX4_carryOutLift_ok 26 rfl) sSet_sSet (fun H locs hP hS => ?_)
    exact hret _ _ _ _ _ _ _ (by simp only [dp, liC, liB, liV, h1, not_true_eq_false, not_false_eq_true, and_true, true_and, and_false, false_and, or_true, true_or, or_false, false_or, and_self, or_self, if_true, if_false, Bool.false_eq_true, reduceIte]) hP hS (by decide) (by decide) (dk kX4_carryOutLift_ok 27 rfl)
end
section
def gtAt (cI : ClassId) (ad : Nat → Nat) (F : Nat → va_E) (k : Nat) (a : Nat → Int32) (n : Nat) : Prop := F k = .inr (0, [.ref (ad (k + 1)), .int (nI n)]) ∧ F (k + 1) = .inl (cI, 60, .inl a)
def gtSet (cI : ClassId) (ad : Nat → Nat) (F : Nat → va_E) (k : Nat) (a : Nat → Int32) (n : Nat) : Nat → va_E := fun i => if i = k then .inr (0, [.ref (ad (k + 1)), .int (nI n)]) else if i = k + 1 then .inl (cI, 60, .inl a) else F i
section
variable {cI : ClassId} {ad : Nat → Nat} {F : Nat → va_E} {k : Nat} {a : Nat → Int32} {n : Nat} {a' : Nat → Int32} {n' : Nat}
theorem gtSet_self (H : gtAt cI ad F k a n) : gtSet cI ad F k a n = F := by
  funext i
  obtain ⟨h0, h1⟩ := H
  unfold gtSet
  by_cases e0 : i = k
  · rw [if_pos e0, e0, h0]
  rw [if_neg e0]
  by_cases e1 : i = k + 1
  · rw [if_pos e1, e1, h1]
  rw [if_neg e1]
theorem gtSet_out {i : Nat} (hi : i < k ∨ k + 1 < i) : gtSet cI ad F k a n i = F i := by
  unfold gtSet
  rw [if_neg (by omega), if_neg (by omega)]
theorem gtSet_at : gtAt cI ad (gtSet cI ad F k a n) k a n := by
  refine ⟨?_, ?_⟩
  · simp [gtSet]
  · simp [gtSet]
theorem gtSet_gtSet : gtSet cI ad (gtSet cI ad F k a n) k a' n' = gtSet cI ad F k a' n' := by
  funext i
  by_cases e0 : i = k
  · simp [gtSet, e0]
  by_cases e1 : i = k + 1
  · simp [gtSet, e1]
  simp [gtSet, e0, e1]
theorem gtSet_u0 : va_up (gtSet cI ad F k a n) (k) (.inr (0, [.ref (ad (k + 1)), .int (nI n')])) = gtSet cI ad F k a n' := by
  funext i
  by_cases e0 : i = k
  · simp [va_up, gtSet, e0]
  by_cases e1 : i = k + 1
  · simp [va_up, gtSet, e1]
  simp [va_up, gtSet, e0, e1]
theorem gtSet_u1 : va_up (gtSet cI ad F k a n) (k + 1) (.inl (cI, 60, .inl a')) = gtSet cI ad F k a' n := by
  funext i
  by_cases e0 : i = k
  · simp [va_up, gtSet, e0]
  by_cases e1 : i = k + 1
  · simp [va_up, gtSet, e1]
  simp [va_up, gtSet, e0, e1]
theorem gtAt_keep {G : Nat → va_E} (H : gtAt cI ad F k a n) (hG : ∀ i, k ≤ i → i ≤ k + 1 → G i = F i) : gtAt cI ad G k a n := by
  obtain ⟨h0, h1⟩ := H
  exact ⟨by rw [hG _ (by omega) (by omega)]; exact h0, by rw [hG _ (by omega) (by omega)]; exact h1⟩
end
def paAt (cQ : ClassId) (ad : Nat → Nat) (F : Nat → va_E) (k : Nat) (n : Nat) (m : Nat) : Prop := F k = .inr (2, [.ref (ad (k + 1)), .int (nI n), .int (nI m)]) ∧ F (k + 1) = .inl (cQ, 6, .inr (.inr (.inr (.inr (fun i9 => some (ad (k + 2 + 8 * i9)))))))
def paSet (cQ : ClassId) (ad : Nat → Nat) (F : Nat → va_E) (k : Nat) (n : Nat) (m : Nat) : Nat → va_E := fun i => if i = k then .inr (2, [.ref (ad (k + 1)), .int (nI n), .int (nI m)]) else if i = k + 1 then .inl (cQ, 6, .inr (.inr (.inr (.inr (fun i9 => some (ad (k + 2 + 8 * i9))))))) else F i
section
variable {cQ : ClassId} {ad : Nat → Nat} {F : Nat → va_E} {k : Nat} {n : Nat} {m : Nat} {n' : Nat} {m' : Nat}
theorem paSet_self (H : paAt cQ ad F k n m) : paSet cQ ad F k n m = F := by
  funext i
  obtain ⟨h0, h1⟩ := H
  unfold paSet
  by_cases e0 : i = k
  · rw [if_pos e0, e0, h0]
  rw [if_neg e0]
  by_cases e1 : i = k + 1
  · rw [if_pos e1, e1, h1]
  rw [if_neg e1]
theorem paSet_out {i : Nat} (hi : i < k ∨ k + 1 < i) : paSet cQ ad F k n m i = F i := by
  unfold paSet
  rw [if_neg (by omega), if_neg (by omega)]
theorem paSet_at : paAt cQ ad (paSet cQ ad F k n m) k n m := by
  refine ⟨?_, ?_⟩
  · simp [paSet]
  · simp [paSet]
theorem paSet_paSet : paSet cQ ad (paSet cQ ad F k n m) k n' m' = paSet cQ ad F k n' m' := by
  funext i
  by_cases e0 : i = k
  · simp [paSet, e0]
  by_cases e1 : i = k + 1
  · simp [paSet, e1]
  simp [paSet, e0, e1]
theorem paSet_u0 : va_up (paSet cQ ad F k n m) (k) (.inr (2, [.ref (ad (k + 1)), .int (nI n'), .int (nI m')])) = paSet cQ ad F k n' m' := by
  funext i
  by_cases e0 : i = k
  · simp [va_up, paSet, e0]
  by_cases e1 : i = k + 1
  · simp [va_up, paSet, e1]
  simp [va_up, paSet, e0, e1]
theorem paAt_keep {G : Nat → va_E} (H : paAt cQ ad F k n m) (hG : ∀ i, k ≤ i → i ≤ k + 1 → G i = F i) : paAt cQ ad G k n m := by
  obtain ⟨h0, h1⟩ := H
  exact ⟨by rw [hG _ (by omega) (by omega)]; exact h0, by rw [hG _ (by omega) (by omega)]; exact h1⟩
end
def roAt (cI : ClassId) (ad : Nat → Nat) (F : Nat → va_E) (k : Nat) (a : Nat → Int32) (d : Nat → Int32) (q : Nat → Int32) : Prop := F k = .inr (3, [.ref (ad (k + 1)), .ref (ad (k + 2)), .ref (ad (k + 3))]) ∧ F (k + 1) = .inl (cI, 338, .inl a) ∧ F (k + 2) = .inl (cI, 169, .inl d) ∧ F (k + 3) = .inl (cI, 169, .inl q)
def roSet (cI : ClassId) (ad : Nat → Nat) (F : Nat → va_E) (k : Nat) (a : Nat → Int32) (d : Nat → Int32) (q : Nat → Int32) : Nat → va_E := fun i => if i = k then .inr (3, [.ref (ad (k + 1)), .ref (ad (k + 2)), .ref (ad (k + 3))]) else if i = k + 1 then .inl (cI, 338, .inl a) else if i = k + 2 then .inl (cI, 169, .inl d) else if i = k + 3 then .inl (cI, 169, .inl q) else F i
section
variable {cI : ClassId} {ad : Nat → Nat} {F : Nat → va_E} {k : Nat} {a : Nat → Int32} {d : Nat → Int32} {q : Nat → Int32} {a' : Nat → Int32} {d' : Nat → Int32} {q' : Nat → Int32}
theorem roSet_self (H : roAt cI ad F k a d q) : roSet cI ad F k a d q = F := by
  funext i
  obtain ⟨h0, h1, h2, h3⟩ := H
  unfold roSet
  by_cases e0 : i = k
  · rw [if_pos e0, e0, h0]
  rw [if_neg e0]
  by_cases e1 : i = k + 1
  · rw [if_pos e1, e1, h1]
  rw [if_neg e1]
  by_cases e2 : i = k + 2
  · rw [if_pos e2, e2, h2]
  rw [if_neg e2]
  by_cases e3 : i = k + 3
  · rw [if_pos e3, e3, h3]
  rw [if_neg e3]
theorem roSet_out {i : Nat} (hi : i < k ∨ k + 3 < i) : roSet cI ad F k a d q i = F i := by
  unfold roSet
  rw [if_neg (by omega), if_neg (by omega), if_neg (by omega), if_neg (by omega)]
theorem roSet_at : roAt cI ad (roSet cI ad F k a d q) k a d q := by
  refine ⟨?_, ?_, ?_, ?_⟩
  · simp [roSet]
  · simp [roSet]
  · simp [roSet]
  · simp [roSet]
theorem roSet_roSet : roSet cI ad (roSet cI ad F k a d q) k a' d' q' = roSet cI ad F k a' d' q' := by
  funext i
  by_cases e0 : i = k
  · simp [roSet, e0]
  by_cases e1 : i = k + 1
  · simp [roSet, e1]
  by_cases e2 : i = k + 2
  · simp [roSet, e2]
  by_cases e3 : i = k + 3
  · simp [roSet, e3]
  simp [roSet, e0, e1, e2, e3]
theorem roSet_u1 : va_up (roSet cI ad F k a d q) (k + 1) (.inl (cI, 338, .inl a')) = roSet cI ad F k a' d q := by
  funext i
  by_cases e0 : i = k
  · simp [va_up, roSet, e0]
  by_cases e1 : i = k + 1
  · simp [va_up, roSet, e1]
  by_cases e2 : i = k + 2
  · simp [va_up, roSet, e2]
  by_cases e3 : i = k + 3
  · simp [va_up, roSet, e3]
  simp [va_up, roSet, e0, e1, e2, e3]
theorem roSet_u2 : va_up (roSet cI ad F k a d q) (k + 2) (.inl (cI, 169, .inl d')) = roSet cI ad F k a d' q := by
  funext i
  by_cases e0 : i = k
  · simp [va_up, roSet, e0]
  by_cases e1 : i = k + 1
  · simp [va_up, roSet, e1]
  by_cases e2 : i = k + 2
  · simp [va_up, roSet, e2]
  by_cases e3 : i = k + 3
  · simp [va_up, roSet, e3]
  simp [va_up, roSet, e0, e1, e2, e3]
theorem roSet_u3 : va_up (roSet cI ad F k a d q) (k + 3) (.inl (cI, 169, .inl q')) = roSet cI ad F k a d q' := by
  funext i
  by_cases e0 : i = k
  · simp [va_up, roSet, e0]
  by_cases e1 : i = k + 1
  · simp [va_up, roSet, e1]
  by_cases e2 : i = k + 2
  · simp [va_up, roSet, e2]
  by_cases e3 : i = k + 3
  · simp [va_up, roSet, e3]
  simp [va_up, roSet, e0, e1, e2, e3]
theorem roAt_keep {G : Nat → va_E} (H : roAt cI ad F k a d q) (hG : ∀ i, k ≤ i → i ≤ k + 3 → G i = F i) : roAt cI ad G k a d q := by
  obtain ⟨h0, h1, h2, h3⟩ := H
  exact ⟨by rw [hG _ (by omega) (by omega)]; exact h0, by rw [hG _ (by omega) (by omega)]; exact h1, by rw [hG _ (by omega) (by omega)]; exact h2, by rw [hG _ (by omega) (by omega)]; exact h3⟩
end
end
section
theorem stAt_keep {cI : ClassId} {ad : Nat → Nat} {F G : Nat → va_E} {k : Nat} {c b v g h j : Nat → Int32} {t u z : Int32} (H : stAt cI ad F k c b v g h j t u z) (hG : ∀ i, k ≤ i → i ≤ k + 7 → G i = F i) : stAt cI ad G k c b v g h j t u z := by
  obtain ⟨h0, ⟨h1, h2, h3, h4⟩, h5, h6, h7⟩ := H
  exact ⟨by rw [hG _ (by omega) (by omega)]; exact h0, ⟨by rw [hG _ (by omega) (by omega)]; exact h1, by rw [hG _ (by omega) (by omega)]; exact h2, by rw [hG _ (by omega) (by omega)]; exact h3, by rw [hG _ (by omega) (by omega)]; exact h4⟩, by rw [hG _ (by omega) (by omega)]; exact h5, by rw [hG _ (by omega) (by omega)]; exact h6, by rw [hG _ (by omega) (by omega)]; exact h7⟩
theorem matAt_keep {cI : ClassId} {ad : Nat → Nat} {F G : Nat → va_E} {k : Nat} {c b v : Nat → Int32} (H : matAt cI ad F k c b v) (hG : ∀ i, k ≤ i → i ≤ k + 3 → G i = F i) : matAt cI ad G k c b v := by
  obtain ⟨h1, h2, h3, h4⟩ := H
  exact ⟨by rw [hG _ (by omega) (by omega)]; exact h1, by rw [hG _ (by omega) (by omega)]; exact h2, by rw [hG _ (by omega) (by omega)]; exact h3, by rw [hG _ (by omega) (by omega)]; exact h4⟩
theorem imin_nI {a b : Nat} (ha : a < 2 ^ 31) (hb : b < 2 ^ 31) : imin (nI a) (nI b) = nI (min a b) := by
  unfold imin
  by_cases h : nI b < nI a
  · rw [if_pos h]
    have := (nI_ltI hb ha).mp h
    congr 1
    omega
  · rw [if_neg h]
    have : ¬ b < a := fun q => h ((nI_ltI hb ha).mpr q)
    congr 1
    omega
theorem imax_nI {a b : Nat} (ha : a < 2 ^ 31) (hb : b < 2 ^ 31) : imax (nI a) (nI b) = nI (max a b) := by
  unfold imax
  by_cases h : nI a < nI b
  · rw [if_pos h]
    have := (nI_ltI ha hb).mp h
    congr 1
    omega
  · rw [if_neg h]
    have : ¬ a < b := fun q => h ((nI_ltI ha hb).mpr q)
    congr 1
    omega
section N14
variable {p : Program} {l : Launch} {e : Env} {R : Room} {s : State} {m : MethodId} {args : Array Value} {below : List Frame} {meth : Method} {c : Code} {H : Heap} {locs : List Loc} {cells slots : Nat} {Q : State → Prop}
variable {cc : ByteArray} {pc : Nat} {ls : Array Slot} {rest st0 : List Value} {D : va_G} {cI cQ cL : ClassId} {ad : Nat → Nat} {N : Nat} {F : Nat → va_E} {Ts : List Cond}
theorem n_mmin {a b : Nat} (ha : a < 2 ^ 31) (hb2 : b < 2 ^ 31) (hexec : p.tables.exec = Jvm.exec) (hb : c.code = cc) (hml : c.maxLocals = ls.size) {own : String} {index : Nat} (hown : s.vm.findClass own = some m.cls) (hlink : (Cond.methodLink own index Lib.Math.min.name).before args s = true) (hstat : (Cond.static Lib.Math.min.name).before args s = true) (hini : (Cond.initialized "java/lang/Math").before args s = true) (hcode : (Cond.code Lib.Math.min.name Lib.Math.min.code 2 (some .int)).before args s = true)
    (hframes : 1 ≤ R.frames) (hlocals : (rest.map fun v => v.category).sum + 13 ≤ R.locals) (hc : cells ≤ R.cells) (hs : slots ≤ R.slots) (hdg : decode cc pc = .ok (.invokestatic index, 3))
    (kk : W p l e R s m args below meth c H locs cells slots Q (F0 m (pc + 3) ls (.int (nI (min a b)) :: rest))) : W p l e R s m args below meth c H locs cells slots Q (F0 m pc ls (.int (nI b) :: .int (nI a) :: rest)) :=
  va_mmin hexec hb hml hown hlink hstat hini hcode hframes hlocals hc hs hdg (by rw [show (if nI b < nI a then nI b else nI a) = nI (min a b) from imin_nI ha hb2]; exact kk)
theorem aldq (hx : p.tables.exec = Jvm.exec) (hb : c.code = cc) (hK : va_K D vwCl (iT cI cQ cL) s) (hP : va_P D vwCl (iW ad N F) H) {k n : Nat} {f : Nat → Option Nat} {j a : Nat} (hk : k < N) (hF : F k = .inl (cQ, n, .inr (.inr (.inr (.inr f))))) (hj : j < n) (hn : n < 2 ^ 31) (hf : f j = some a) (hdg : decode cc pc = .ok (.aaload, 1))
    (kk : W p l e R s m args below meth c H locs cells slots Q (F0 m (pc + 1) ls (.ref a :: rest))) : W p l e R s m args below meth c H locs cells slots Q (F0 m pc ls (.int (nI j) :: .ref (ad k) :: rest)) := by
  refine va_aldq hx hb hK hP k 1 (iW_at hk hF) rfl (vp_in_nI hj hn) hdg ?_
  rw [nI_clamp (Nat.lt_trans hj hn), hf]
  exact kk
/-- behind a call of a static method that writes -/
theorem csW {nL index na mc ms : Nat} {own : String} {y : MethodName} {bytes : ByteArray} {maxL : Nat} {ret : Option FieldType} {ws : List Cond} {rm : Room} {As : List Value} {post : Option Value → (Nat → va_E) → Prop}
    (S : CallFix p m c cc nL s args Ts own) (hM : MX l y ws rm D cI cQ cL ad N F As post mc ms) (cw : CallB R s args own index y bytes maxL ret ws rm mc ms na ∧ (Cond.static y).before args s = true) (hDi : iD ad N) (hK : va_K D vwCl (iT cI cQ cL) s) (hP : va_P D vwCl (iW ad N F) H) (hNW : NW s) (hS : va_S (iA ad N s.heap.size) s.heap H locs)
    (hn : As.length = na) (hsize : ls.size = nL) (hstack : st0 = As.reverse ++ rest) (hW : (rest.map fun v => v.category).sum ≤ 8) (hf : cells + mc ≤ R.cells ∧ slots + ms ≤ R.slots) (hdg : decode cc pc = .ok (.invokestatic index, 3))
    (kk : ∀ (v : Option Value) (F' : Nat → va_E) (H1 : Heap) (locs1 : List Loc), post v F' → va_P D vwCl (iW ad N F') H1 → va_S (iA ad N s.heap.size) s.heap H1 locs1 → W p l e R s m args below meth c H1 locs1 (cells + mc) (slots + ms) Q (F0 m (pc + 3) ls (v.toList ++ rest))) : W p l e R s m args below meth c H locs cells slots Q (F0 m pc ls st0) :=
  cW (va_runS (g := F0 m pc ls st0) S (hM H.size) cw ⟨MX_blind, fun U hU hW => MX_pre hDi hK hP hNW hU hW⟩ rfl hn hsize hstack (lv_room hW) hdg hf) hS kk
theorem csDv {nL index na : Nat} {own : String} {y : MethodName} {bytes : ByteArray} {maxL : Nat} {ret : Option FieldType} {ws : List Cond} {rm : Room} {As : List Value} {G : Nat → va_E} (F' : Nat → va_E)
    (S : CallFix p m c cc nL s args Ts own) (hM : MX l y ws rm D cI cQ cL ad N F As (dp none G) 0 0) (cw : CallB R s args own index y bytes maxL ret ws rm 0 0 na ∧ (Cond.static y).before args s = true) (hDi : iD ad N) (hK : va_K D vwCl (iT cI cQ cL) s) (hP : va_P D vwCl (iW ad N F) H) (hNW : NW s) (hS : va_S (iA ad N s.heap.size) s.heap H locs)
    (hn : As.length = na) (hsize : ls.size = nL) (hstack : st0 = As.reverse ++ rest) (hW : (rest.map fun v => v.category).sum ≤ 8) (hf : cells + 0 ≤ R.cells ∧ slots + 0 ≤ R.slots) (hdg : decode cc pc = .ok (.invokestatic index, 3)) (hcan : G = F')
    (kk : ∀ (H1 : Heap) (locs1 : List Loc), va_P D vwCl (iW ad N F') H1 → va_S (iA ad N s.heap.size) s.heap H1 locs1 → W p l e R s m args below meth c H1 locs1 cells slots Q (F0 m (pc + 3) ls rest)) : W p l e R s m args below meth c H locs cells slots Q (F0 m pc ls st0) :=
  csW S hM cw hDi hK hP hNW hS hn hsize hstack hW hf hdg (fun v G9 H1 locs1 hp hP1 hS1 => by
    obtain ⟨rfl, rfl⟩ := hp
    exact kk H1 locs1 (by rw [← hcan]; exact hP1) hS1)
end N14
-- the text
def btw (x a b : Int32) : Bool := !(decide (x < a)) && !(decide (b < x))
def stb (s x : Int32) : Int32 := if s = nI 0 then (if x = nI 102 then nI 1 else if x = nI 108 then nI 4 else -1) else if s = nI 1 then (if btw x (nI 48) (nI 51) = true then nI 2 else -1) else if s = nI 2 then (if btw x (nI 48) (nI 55) = true then nI 3 else -1) else if s = nI 3 then (if btw x (nI 49) (nI 57) = true then nI 8 else -1) else if s = nI 4 then (if btw x (nI 97) (nI 109) = true then nI 5 else -1) else if s = nI 5 then (if btw x (nI 97) (nI 109) = true then nI 6 else -1) else if s = nI 6 then (if btw x (nI 49) (nI 54) = true then nI 7 else -1) else if s = nI 7 then (if btw x (nI 48) (nI 55) = true then nI 8 else -1) else if s = nI 8 then (if x = nI 59 then nI 0 else -1) else -1
def cod (a : Nat → Int32) (n i : Nat) : Int32 := if i < n then a i else nI 0
def sta (a : Nat → Int32) : Nat → Int32
  | 0 => nI 0
  | n + 1 => stb (sta a n) (a n)
/-- the first place, of n more from i on, behind which the text is none any more -/
def eri (a : Nat → Int32) : Nat → Nat → Int32 → Nat
  | 0, i, _ => i
  | n + 1, i, s => if stb s (a i) = -1 then i else eri a n (i + 1) (stb s (a i))
theorem eri_le (a : Nat → Int32) : ∀ (n i : Nat) (s : Int32), eri a n i s ≤ i + n
  | 0, i, _ => Nat.le_refl i
  | n + 1, i, s => by
    have h := eri_le a n (i + 1) (stb s (a i))
    simp only [eri]
    split <;> omega
-- the routes
def srI (m : Nat) (cell : Int32) : Nat → Nat → (Nat → Int32) → (Nat → Int32) → Nat → (Option Int32) × (Nat → Int32) × (Nat → Int32) × Nat
  | 0, _, d, q, n => (none, d, q, n)
  | i + 1, f, d, q, n =>
    if ldg cell (nI (f / 9)) (f % 9 + 1 + m) = nI 84 then (some (d (ix cell) + nI 1), d, q, n)
    else if ldg cell (nI (f / 9)) (f % 9 + 1 + m) = -1 then srI m cell i (f + 1) d q n
    else if ¬ d (ix (ldg cell (nI (f / 9)) (f % 9 + 1 + m))) = -1 then srI m cell i (f + 1) d q n
    else if ¬ n < 169 then srI m cell i (f + 1) d q n
    else srI m cell i (f + 1) (upd d (ix (ldg cell (nI (f / 9)) (f % 9 + 1 + m))) (d (ix cell) + nI 1)) (upd q n (ldg cell (nI (f / 9)) (f % 9 + 1 + m))) (n + 1)
def srO (m : Nat) : Nat → Nat → (Nat → Int32) → (Nat → Int32) → Nat → Int32 × (Nat → Int32) × (Nat → Int32)
  | 0, _, d, q, _ => (-1, d, q)
  | i + 1, k, d, q, n => if ¬ (k < n ∧ k < 169) then (-1, d, q) else match (srI m (q k) 72 0 d q n).1 with
    | some r => (r, (srI m (q k) 72 0 d q n).2.1, (srI m (q k) 72 0 d q n).2.2.1)
    | none => srO m i (k + 1) (srI m (q k) 72 0 d q n).2.1 (srI m (q k) 72 0 d q n).2.2.1 (srI m (q k) 72 0 d q n).2.2.2
def srD (w : Nat) : Nat → Int32 := upd (fun _ => -1) w (nI 0)
def sea (q : Nat → Int32) (w m : Nat) : Int32 × (Nat → Int32) × (Nat → Int32) := srO m 170 0 (srD w) (upd q 0 (nI w)) 1
def cell9 (x : Int32) : Prop := ∃ j : Nat, j < 169 ∧ x = nI j
theorem cat_on {x y : Int32} (h : on x y = true) : cell9 (cat x y) := by
  simp only [on, Bool.and_eq_true, Bool.not_eq_true', decide_eq_false_iff_not] at h
  obtain ⟨⟨h1, h2⟩, h3, h4⟩ := h
  obtain ⟨i, hi, rfl⟩ := nI_of h1
  obtain ⟨j, hj, rfl⟩ := nI_of h3
  have hi2 : i < 13 := Nat.not_le.mp fun q => h2 ((nI_leI (by decide) hi).mpr q)
  have hj2 : j < 13 := Nat.not_le.mp fun q => h4 ((nI_leI (by decide) hj).mpr q)
  exact ⟨13 * j + i, by omega, by rw [cat, pk_mul, nI_add]⟩
theorem ldL_cell : ∀ (n : Nat) (x y u v : Int32) (b : Bool), on x y = true → ldL n x y u v b = -1 ∨ cell9 (ldL n x y u v b)
  | 0, x, y, _, _, _, h => Or.inr (cat_on h)
  | n + 1, x, y, u, v, b, h => by
    simp only [ldL]
    by_cases h1 : on (x + u) (y + v) = true
    · rw [if_pos h1]
      exact ldL_cell n _ _ _ _ _ h1
    · rw [if_neg h1]
      split
      · exact Or.inl rfl
      · split
        · next h2 => exact ldL_cell n _ _ _ _ _ h2
        · exact Or.inl rfl
theorem ldg_cell {q : Int32} (h : cell9 q) (d : Int32) (f : Nat) : ldg q d f = -1 ∨ cell9 (ldg q d f) := by
  obtain ⟨j, hj, rfl⟩ := h
  refine ldL_cell f _ _ _ _ _ ?_
  rw [pk_rem (by omega) (by decide) (by decide), pk_div (by omega) (by decide) (by decide)]
  have h1 : j % 13 < 13 := Nat.mod_lt _ (by decide)
  have h2 : j / 13 < 13 := by omega
  have z1 : ¬ nI (j % 13) < 0 := nI_pos (by omega)
  have z2 : ¬ nI (j / 13) < 0 := nI_pos (by omega)
  have z3 : ¬ nI 13 ≤ nI (j % 13) := fun q => absurd ((nI_leI (by decide) (by omega)).mp q) (by omega)
  have z4 : ¬ nI 13 ≤ nI (j / 13) := fun q => absurd ((nI_leI (by decide) (by omega)).mp q) (by omega)
  simp [on, z1, z2, z3, z4]
theorem cell9_ix {x : Int32} (h : cell9 x) : x = nI (ix x) ∧ ix x < 169 := by
  obtain ⟨j, hj, rfl⟩ := h
  rw [ix_nI (by omega)]
  exact ⟨rfl, hj⟩
end
section
theorem va_up_id {F : Nat → va_E} {k : Nat} {e : va_E} (h : F k = e) : va_up F k e = F := by
  funext i
  by_cases hi : i = k
  · subst hi
    rw [va_up_self, h]
  · rw [va_up_ne _ _ hi]
theorem va_up_up {F : Nat → va_E} {k : Nat} {e e' : va_E} : va_up (va_up F k e) k e' = va_up F k e' := by
  funext i
  by_cases hi : i = k
  · subst hi
    rw [va_up_self, va_up_self]
  · rw [va_up_ne _ _ hi, va_up_ne _ _ hi, va_up_ne _ _ hi]
def fl9 (g : Nat → Int32) (i : Nat) (x : Int32) : Nat → Int32 := fun j => if j < i then x else g j
theorem fl9_0 (g : Nat → Int32) (x : Int32) : fl9 g 0 x = g := by
  funext j
  simp [fl9]
theorem fl9_s (g : Nat → Int32) (i : Nat) (x : Int32) : upd (fl9 g i x) i x = fl9 g (i + 1) x := by
  funext j
  unfold upd fl9
  by_cases h : j = i
  · subst h
    rw [if_pos rfl, if_pos (by omega)]
  · rw [if_neg h]
    by_cases h2 : j < i
    · rw [if_pos h2, if_pos (by omega)]
    · rw [if_neg h2, if_neg (by omega)]
theorem fl9_end {D : va_G} {cl : List vw_C} {ad : Nat → Nat} {N : Nat} {F : Nat → va_E} {H : Heap} {k n : Nat} {cA : ClassId} {g : Nat → Int32} {x : Int32} (h : va_P D cl (iW ad N (va_up F k (.inl (cA, n, .inl (fl9 g n x))))) H) : va_P D cl (iW ad N (va_up F k (.inl (cA, n, .inl (fun _ => x))))) H := by
  refine iW_ext h (fun i _ => ?_)
  by_cases hi : i = k
  · subst hi
    exact Or.inr ⟨cA, n, _, _, va_up_self _ _ _, va_up_self _ _ _, fun j hj => by simp [fl9, hj]⟩
  · exact Or.inl (by rw [va_up_ne _ _ hi, va_up_ne _ _ hi])
theorem srO_hit {m i k n n' : Nat} {d q d' q' : Nat → Int32} {r : Int32} (h1 : k < n) (h2 : k < 169) (h : srI m (q k) 72 0 d q n = (some r, d', q', n')) : srO m (i + 1) k d q n = (r, d', q') := by
  simp only [srO]
  rw [if_neg (fun h9 => h9 ⟨h1, h2⟩), h]
theorem srO_miss {m i k n n' : Nat} {d q d' q' : Nat → Int32} (h1 : k < n) (h2 : k < 169) (h : srI m (q k) 72 0 d q n = (none, d', q', n')) : srO m (i + 1) k d q n = srO m i (k + 1) d' q' n' := by
  simp only [srO]
  rw [if_neg (fun h9 => h9 ⟨h1, h2⟩), h]
theorem srO_end {m i k n : Nat} {d q : Nat → Int32} (h1 : ¬ (k < n ∧ k < 169)) : srO m (i + 1) k d q n = (-1, d, q) := by
  simp only [srO]
  rw [if_pos h1]
def few (a d q : Nat → Int32) (w : Nat) (large : Bool) : (Nat → Int32) × (Nat → Int32) × (Nat → Int32) := if a (if large = true then w else 169 + w) = 0 then (upd a (if large = true then w else 169 + w) (sea q w (if large = true then 0 else 1)).1, (sea q w (if large = true then 0 else 1)).2.1, (sea q w (if large = true then 0 else 1)).2.2) else (a, d, q)
end
section
set_option maxRecDepth 100000 in
set_option maxHeartbeats 4000000 in
theorem tX4_copyFrom (l : Launch) (D : va_G) (cI cQ cL : ClassId) (ad : Nat → Nat) (N : Nat) (F : Nat → va_E) (k : Nat) (hk : k + 7 < N) (c b v g h j : Nat → Int32) (t : Nat) (u z : Int32) (hS0 : stAt cI ad F k c b v g h j (nI t) u z) (k2 : Nat) (hq : k2 + 7 < N) (c2 b2 v2 g2 h2 j2 : Nat → Int32) (t2 : Nat) (u2 z2 : Int32) (hS2 : stAt cI ad F k2 c2 b2 v2 g2 h2 j2 (nI t2) u2 z2) (hd : k + 7 < k2 ∨ k2 + 7 < k) : MX l yX4_copyFrom (Cond.code yX4_copyFrom cX4_copyFrom 2 none :: AW) ({ frames := 2, cells := 0, slots := 0, locals := 39 } : Room) D cI cQ cL ad N F [.ref (ad k), .ref (ad k2)] (dp none (sSet cI ad F k c2 b2 v2 g2 h2 j2 (nI t2) u2 z2)) 0 0 := by
  refine mx_v (by decide +kernel) rfl (Nat.le_of_ble_eq_true rfl) (fun p e s m below meth cd Q ls hx hb hml hown hts hDi hP hK hNW hS hret hl => ?_)
  have hown : s.vm.findClass RX4 = some m.cls := hown
  have hk0 : k < N := by omega
  have hk1 : k + 1 < N := by omega
  have hk11 : k + 1 + 1 < N := by omega
  have hk12 : k + 1 + 2 < N := by omega
  have hk13 : k + 1 + 3 < N := by omega
  have hkm : k + 1 + 3 < N := by omega
  have hk5 : k + 5 < N := by omega
  have hk6 : k + 6 < N := by omega
  have hk7 : k + 7 < N := hk
  have hq0 : k2 < N := by omega
  have hq1 : k2 + 1 < N := by omega
  have hqm : k2 + 1 + 3 < N := by omega
  have hq5 : k2 + 5 < N := by omega
  have hq6 : k2 + 6 < N := by omega
  have hq7 : k2 + 7 < N := hq
  have hP : va_P D vwCl (iW ad N (sSet cI ad F k c b v g h j (nI t) u z)) s.heap := by rw [sSet_self hS0]; exact hP
  have hl : lv_has ls 2 [(0, .ref (ad k)), (1, .ref (ad k2))] := hl
  refine lv_aload_n hx hb (dk kX4_copyFrom_ok 0 rfl) rfl (lv_at hl 0 rfl) ?_
  refine gf hx hb hts (fun w h => List.mem_cons_of_mem _ (acX4 w h)) hown hK hP hk0 (sSet_at hS0).1 rfl 0 (by decide) (hts _ (List.mem_cons_of_mem _ (ac3 _ (List.mem_of_getElem? (i := 16) rfl)))) (fun _ h => h) rfl (dk kX4_copyFrom_ok 1 rfl) ?_
  refine lv_aload_n hx hb (dk kX4_copyFrom_ok 2 rfl) rfl (lv_at hl 1 rfl) ?_
  refine gf hx hb hts (fun w h => List.mem_cons_of_mem _ (acX4 w h)) hown hK hP hq0 (sSet_oth hS2 hd).1 rfl 0 (by decide) (hts _ (List.mem_cons_of_mem _ (ac3 _ (List.mem_of_getElem? (i := 16) rfl)))) (fun _ h => h) rfl (dk kX4_copyFrom_ok 3 rfl) ?_
  refine cvDv (As := [.ref (ad (k2 + 1))]) (rest := []) (sSet cI ad F k c2 b2 v2 g h j (nI t) u z) ⟨hx, hb, hml, hown, hts⟩ (tX1_copyFrom l D cI cQ cL ad N (sSet cI ad F k c b v g h j (nI t) u z) (k + 1) hkm c b v (sSet_at hS0).2.1 (k2 + 1) hqm (by omega) c2 b2 v2 (sSet_oth hS2 hd).2.1) (cwV9 1 hts mcX1_copyFrom (ac4 _ (List.mem_of_getElem? (i := 12) rfl)) miX1_copyFrom meX1_copyFrom mini_RX1 rfl rfl hdX1_copyFrom ⟨Nat.le_of_ble_eq_true rfl, Nat.le_of_ble_eq_true rfl⟩) hDi hK hP hNW hS hk1 (sSet_at hS0).2.1.1 rfl rfl hl.1 rfl (Nat.le_of_ble_eq_true rfl) (by decide) (dk kX4_copyFrom_ok 4 rfl) sSet_m (fun H locs hP hS => ?_)
  refine lv_aload_n hx hb (dk kX4_copyFrom_ok 5 rfl) rfl (lv_at hl 1 rfl) ?_
  refine gf hx hb hts (fun w h => List.mem_cons_of_mem _ (acX4 w h)) hown hK hP hq0 (sSet_oth hS2 hd).1 rfl 1 (by decide) (hts _ (List.mem_cons_of_mem _ (ac3 _ (List.mem_of_getElem? (i := 17) rfl)))) (fun _ h => h) rfl (dk kX4_copyFrom_ok 6 rfl) ?_
  refine lv_iconst (v := nI 0) hx hb (dk kX4_copyFrom_ok 7 rfl) rfl ?_
  refine lv_aload_n hx hb (dk kX4_copyFrom_ok 8 rfl) rfl (lv_at hl 0 rfl) ?_
  refine gf hx hb hts (fun w h => List.mem_cons_of_mem _ (acX4 w h)) hown hK hP hk0 (sSet_at hS0).1 rfl 1 (by decide) (hts _ (List.mem_cons_of_mem _ (ac3 _ (List.mem_of_getElem? (i := 17) rfl)))) (fun _ h => h) rfl (dk kX4_copyFrom_ok 9 rfl) ?_
  refine lv_iconst (v := nI 0) hx hb (dk kX4_copyFrom_ok 10 rfl) rfl ?_
  refine lv_bipush (v := nI 16) hx hb (dk kX4_copyFrom_ok 11 rfl) rfl ?_
  refine cpy (sSet cI ad F k c2 b2 v2 g2 h j (nI t) u z) hx hb (by rw [hml, hl.1]) hown (hts _ (List.mem_cons_of_mem _ (ac4 _ (List.mem_of_getElem? (i := 11) rfl)))) (hts _ (List.mem_cons_of_mem _ (ac0 _ (List.mem_of_getElem? (i := 19) rfl)))) (hts _ (List.mem_cons_of_mem _ (ac0 _ (List.mem_of_getElem? (i := 20) rfl)))) (hts _ (List.mem_cons_of_mem _ (ac0 _ (List.mem_of_getElem? (i := 21) rfl)))) hK hDi hP hS hq5 (sSet_oth hS2 hd).2.2.1 hk5 (sSet_at hS0).2.2.1 (by decide) (Nat.le_of_ble_eq_true rfl) (Nat.le_of_ble_eq_true rfl) (dk kX4_copyFrom_ok 12 rfl) sSet_g (fun H locs hP hS => ?_)
  refine lv_aload_n hx hb (dk kX4_copyFrom_ok 13 rfl) rfl (lv_at hl 1 rfl) ?_
  refine gf hx hb hts (fun w h => List.mem_cons_of_mem _ (acX4 w h)) hown hK hP hq0 (sSet_oth hS2 hd).1 rfl 2 (by decide) (hts _ (List.mem_cons_of_mem _ (ac3 _ (List.mem_of_getElem? (i := 18) rfl)))) (fun _ h => h) rfl (dk kX4_copyFrom_ok 14 rfl) ?_
  refine lv_iconst (v := nI 0) hx hb (dk kX4_copyFrom_ok 15 rfl) rfl ?_
  refine lv_aload_n hx hb (dk kX4_copyFrom_ok 16 rfl) rfl (lv_at hl 0 rfl) ?_
  refine gf hx hb hts (fun w h => List.mem_cons_of_mem _ (acX4 w h)) hown hK hP hk0 (sSet_at hS0).1 rfl 2 (by decide) (hts _ (List.mem_cons_of_mem _ (ac3 _ (List.mem_of_getElem? (i := 18) rfl)))) (fun _ h => h) rfl (dk kX4_copyFrom_ok 17 rfl) ?_
  refine lv_iconst (v := nI 0) hx hb (dk kX4_copyFrom_ok 18 rfl) rfl ?_
  refine lv_iconst (v := nI 4) hx hb (dk kX4_copyFrom_ok 19 rfl) rfl ?_
  refine cpy (sSet cI ad F k c2 b2 v2 g2 h2 j (nI t) u z) hx hb (by rw [hml, hl.1]) hown (hts _ (List.mem_cons_of_mem _ (ac4 _ (List.mem_of_getElem? (i := 11) rfl)))) (hts _ (List.mem_cons_of_mem _ (ac0 _ (List.mem_of_getElem? (i := 19) rfl)))) (hts _ (List.mem_cons_of_mem _ (ac0 _ (List.mem_of_getElem? (i := 20) rfl)))) (hts _ (List.mem_cons_of_mem _ (ac0 _ (List.mem_of_getElem? (i := 21) rfl)))) hK hDi hP hS hq6 (sSet_oth hS2 hd).2.2.2.1 hk6 (sSet_at hS0).2.2.2.1 (by decide) (Nat.le_of_ble_eq_true rfl) (Nat.le_of_ble_eq_true rfl) (dk kX4_copyFrom_ok 20 rfl) sSet_h (fun H locs hP hS => ?_)
  refine lv_aload_n hx hb (dk kX4_copyFrom_ok 21 rfl) rfl (lv_at hl 1 rfl) ?_
  refine gf hx hb hts (fun w h => List.mem_cons_of_mem _ (acX4 w h)) hown hK hP hq0 (sSet_oth hS2 hd).1 rfl 3 (by decide) (hts _ (List.mem_cons_of_mem _ (ac3 _ (List.mem_of_getElem? (i := 19) rfl)))) (fun _ h => h) rfl (dk kX4_copyFrom_ok 22 rfl) ?_
  refine lv_iconst (v := nI 0) hx hb (dk kX4_copyFrom_ok 23 rfl) rfl ?_
  refine lv_aload_n hx hb (dk kX4_copyFrom_ok 24 rfl) rfl (lv_at hl 0 rfl) ?_
  refine gf hx hb hts (fun w h => List.mem_cons_of_mem _ (acX4 w h)) hown hK hP hk0 (sSet_at hS0).1 rfl 3 (by decide) (hts _ (List.mem_cons_of_mem _ (ac3 _ (List.mem_of_getElem? (i := 19) rfl)))) (fun _ h => h) rfl (dk kX4_copyFrom_ok 25 rfl) ?_
  refine lv_iconst (v := nI 0) hx hb (dk kX4_copyFrom_ok 26 rfl) rfl ?_
  refine lv_iconst (v := nI 4) hx hb (dk kX4_copyFrom_ok 27 rfl) rfl ?_
  refine cpy (sSet cI ad F k c2 b2 v2 g2 h2 j2 (nI t) u z) hx hb (by rw [hml, hl.1]) hown (hts _ (List.mem_cons_of_mem _ (ac4 _ (List.mem_of_getElem? (i := 11) rfl)))) (hts _ (List.mem_cons_of_mem _ (ac0 _ (List.mem_of_getElem? (i := 19) rfl)))) (hts _ (List.mem_cons_of_mem _ (ac0 _ (List.mem_of_getElem? (i := 20) rfl)))) (hts _ (List.mem_cons_of_mem _ (ac0 _ (List.mem_of_getElem? (i := 21) rfl)))) hK hDi hP hS hq7 (sSet_oth hS2 hd).2.2.2.2 hk7 (sSet_at hS0).2.2.2.2 (by decide) (Nat.le_of_ble_eq_true rfl) (Nat.le_of_ble_eq_true rfl) (dk kX4_copyFrom_ok 28 rfl) sSet_j (fun H locs hP hS => ?_)
  refine lv_aload_n hx hb (dk kX4_copyFrom_ok 29 rfl) rfl (lv_at hl 0 rfl) ?_
  refine lv_aload_n hx hb (dk kX4_copyFrom_ok 30 rfl) rfl (lv_at hl 1 rfl) ?_
  refine gf hx hb hts (fun w h => List.mem_cons_of_mem _ (acX4 w h)) hown hK hP hq0 (sSet_oth hS2 hd).1 rfl 4 (by decide) (hts _ (List.mem_cons_of_mem _ (ac3 _ (List.mem_of_getElem? (i := 20) rfl)))) (fun _ h => h) rfl (dk kX4_copyFrom_ok 31 rfl) ?_
  refine pf (sSet cI ad F k c2 b2 v2 g2 h2 j2 (nI t2) u z) hx hb hts (fun w h => List.mem_cons_of_mem _ (acX4 w h)) tyX4 tyX4_ok nmX4 hown hK hDi hP hS hk0 (sSet_at hS0).1 rfl 4 (by decide) (hts _ (List.mem_cons_of_mem _ (ac3 _ (List.mem_of_getElem? (i := 20) rfl)))) (fun _ h => h) rfl (ty := .int) rfl rfl rfl (Nat.le_of_ble_eq_true rfl) (dk kX4_copyFrom_ok 32 rfl) sSet_0 (fun H locs hP hS => ?_)
  refine lv_aload_n hx hb (dk kX4_copyFrom_ok 33 rfl) rfl (lv_at hl 0 rfl) ?_
  refine lv_aload_n hx hb (dk kX4_copyFrom_ok 34 rfl) rfl (lv_at hl 1 rfl) ?_
  refine gf hx hb hts (fun w h => List.mem_cons_of_mem _ (acX4 w h)) hown hK hP hq0 (sSet_oth hS2 hd).1 rfl 5 (by decide) (hts _ (List.mem_cons_of_mem _ (ac3 _ (List.mem_of_getElem? (i := 21) rfl)))) (fun _ h => h) rfl (dk kX4_copyFrom_ok 35 rfl) ?_
  refine pf (sSet cI ad F k c2 b2 v2 g2 h2 j2 (nI t2) u2 z) hx hb hts (fun w h => List.mem_cons_of_mem _ (acX4 w h)) tyX4 tyX4_ok nmX4 hown hK hDi hP hS hk0 (sSet_at hS0).1 rfl 5 (by decide) (hts _ (List.mem_cons_of_mem _ (ac3 _ (List.mem_of_getElem? (i := 21) rfl)))) (fun _ h => h) rfl (ty := .int) rfl rfl rfl (Nat.le_of_ble_eq_true rfl) (dk kX4_copyFrom_ok 36 rfl) sSet_0 (fun H locs hP hS => ?_)
  refine lv_aload_n hx hb (dk kX4_copyFrom_ok 37 rfl) rfl (lv_at hl 0 rfl) ?_
  refine lv_aload_n hx hb (dk kX4_copyFrom_ok 38 rfl) rfl (lv_at hl 1 rfl) ?_
  refine gf hx hb hts (fun w h => List.mem_cons_of_mem _ (acX4 w h)) hown hK hP hq0 (sSet_oth hS2 hd).1 rfl 6 (by decide) (hts _ (List.mem_cons_of_mem _ (ac3 _ (List.mem_of_getElem? (i := 22) rfl)))) (fun _ h => h) rfl (dk kX4_copyFrom_ok 39 rfl) ?_
  refine pf (sSet cI ad F k c2 b2 v2 g2 h2 j2 (nI t2) u2 z2) hx hb hts (fun w h => List.mem_cons_of_mem _ (acX4 w h)) tyX4 tyX4_ok nmX4 hown hK hDi hP hS hk0 (sSet_at hS0).1 rfl 6 (by decide) (hts _ (List.mem_cons_of_mem _ (ac3 _ (List.mem_of_getElem? (i := 22) rfl)))) (fun _ h => h) rfl (ty := .int) rfl rfl rfl (Nat.le_of_ble_eq_true rfl) (dk kX4_copyFrom_ok 40 rfl) sSet_0 (fun H locs hP hS => ?_)
  exact hret _ _ _ _ _ _ _ (by exact ⟨rfl, rfl⟩) hP hS (by decide) (by decide) (dk kX4_copyFrom_ok 41 rfl)
set_option maxRecDepth 100000 in
set_option maxHeartbeats 4000000 in
theorem tJ7_fill_53178 (l : Launch) (D : va_G) (cI cQ cL : ClassId) (ad : Nat → Nat) (N : Nat) (F : Nat → va_E) (k : Nat) (hk : k < N) (g : Nat → Int32) (hA : F k = .inl (cI, 169, .inl g)) (x : Int32) : MX l yJ7_fill_53178 (Cond.code yJ7_fill_53178 cJ7_fill_53178 4 none :: AW) ({ frames := 0, cells := 0, slots := 0, locals := 0 } : Room) D cI cQ cL ad N F [.ref (ad k), .int x] (dp none (va_up F k (.inl (cI, 169, .inl (fun _ => x))))) 0 0 := by
  refine mx_v (by decide +kernel) rfl (Nat.le_of_ble_eq_true rfl) (fun p e s m below meth cd Q ls hx hb hml hown hts hDi hP hK hNW hS hret hl => ?_)
  have hown : s.vm.findClass RJ7 = some m.cls := hown
  have hP : va_P D vwCl (iW ad N (va_up F k (.inl (cI, 169, .inl g)))) s.heap := by rw [va_up_id hA]; exact hP
  have hl : lv_has ls 4 [(0, .ref (ad k)), (1, .int x)] := hl
  refine lv_iconst (v := nI 0) hx hb (dk kJ7_fill_53178_ok 0 rfl) rfl ?_
  refine lv_istore_n (lv' := [(2, .int (nI 0)), (0, .ref (ad k)), (1, .int x)]) hx hb (dk kJ7_fill_53178_ok 1 rfl) rfl hl (by decide) rfl (fun ls hl => ?_)
  refine lv_aload_n hx hb (dk kJ7_fill_53178_ok 2 rfl) rfl (lv_at hl 1 rfl) ?_
  refine alen hx hb hK hP hk (va_up_self _ _ _) (dk kJ7_fill_53178_ok 3 rfl) ?_
  refine lv_istore_n (lv' := [(3, .int (nI 169)), (2, .int (nI 0)), (0, .ref (ad k)), (1, .int x)]) hx hb (dk kJ7_fill_53178_ok 4 rfl) rfl hl (by decide) rfl (fun ls hl => ?_)
  have L5 : ∀ (fu : Nat) (i : Nat) (H : Heap) (locs : List Loc), va_P D vwCl (iW ad N (va_up F k (.inl (cI, 169, .inl (fl9 g i x))))) H → va_S (iA ad N s.heap.size) s.heap H locs → i ≤ 169 → 169 - i < fu → ∀ ls : Array Slot, lv_has ls 4 [(0, .ref (ad k)), (1, .int x), (2, .int (nI i)), (3, .int (nI 169))] → W p l e ({ frames := 0, cells := 0, slots := 0, locals := 0 } : Room) s m ([.ref (ad k), .int x] : List Value).toArray below meth cd H locs 0 0 Q (F0 m 5 ls []) := by
    intro fu
    induction fu with
    | zero => intros; omega
    | succ fu ih5 =>
      intro i H locs hP hS hi hme5 ls hl
      refine lv_iload_n hx hb (dk kJ7_fill_53178_ok 5 rfl) rfl (lv_at hl 2 rfl) ?_
      refine lv_iload_n hx hb (dk kJ7_fill_53178_ok 6 rfl) rfl (lv_at hl 3 rfl) ?_
      refine n_icmp_ge (tgt := 20) hx hb (by omega) (by decide) (dk kJ7_fill_53178_ok 7 rfl) (by decide) (fun h1 => ?_) (fun h1 => ?_)
      · skip
        exact hret _ _ _ _ _ _ _ (by exact ⟨rfl, rfl⟩) (fl9_end (g := g) (by rw [show i = 169 by omega] at hP; exact hP)) hS (by decide) (by decide) (dk kJ7_fill_53178_ok 14 rfl)
      · skip
        refine lv_aload_n hx hb (dk kJ7_fill_53178_ok 8 rfl) rfl (lv_at hl 0 rfl) ?_
        refine lv_iload_n hx hb (dk kJ7_fill_53178_ok 9 rfl) rfl (lv_at hl 2 rfl) ?_
        refine lv_iload_n hx hb (dk kJ7_fill_53178_ok 10 rfl) rfl (lv_at hl 1 rfl) ?_
        refine ast (va_up F k (.inl (cI, 169, .inl (upd (fl9 g i x) i x)))) (j := i) hx hb hK hDi hP hS hk (va_up_self _ _ _) rfl (by omega) (by decide) (dk kJ7_fill_53178_ok 11 rfl) va_up_up (fun H locs hP hS => ?_)
        refine lv_iinc (v := nI (i + 1)) (lv' := [(2, .int (nI (i + 1))), (0, .ref (ad k)), (1, .int x), (3, .int (nI 169))]) hx hb (dk kJ7_fill_53178_ok 12 rfl) hl (k := 2) rfl (n_inc _) (by decide) rfl (fun ls hl => ?_)
        refine lv_goto (tgt := 5) hx hb (dk kJ7_fill_53178_ok 13 rfl) (by decide) ?_
        exact ih5 (i + 1) _ _ (by first | (rw [fl9_0]; exact hP) | (rw [← fl9_s]; exact hP)) hS (by omega) (by omega) ls (lv_sub hl [1, 2, 0, 3] rfl)
  exact L5 _ 0 _ _ (by first | (rw [fl9_0]; exact hP) | (rw [← fl9_s]; exact hP)) hS (by first | omega | rfl) (Nat.lt_succ_self _) ls (lv_sub hl [2, 3, 1, 0] rfl)
set_option maxRecDepth 100000 in
set_option maxHeartbeats 4000000 in
theorem tX3_search (l : Launch) (D : va_G) (cI cQ cL : ClassId) (ad : Nat → Nat) (N : Nat) (F : Nat → va_E) (k : Nat) (hk : k + 3 < N) (a d q : Nat → Int32) (hO : roAt cI ad F k a d q) (x : Int32) (w : Nat) (hxw : x = nI w) (hw : w < 169) (y : Int32) (m9 : Nat) (hym : y = nI m9) (hm9 : m9 ≤ 1) : MX l yX3_search (Cond.code yX3_search cX3_search 8 (some .int) :: AW) ({ frames := 2, cells := 0, slots := 0, locals := 49 } : Room) D cI cQ cL ad N F [.ref (ad k), .int x, .int y] (dp (some (.int (sea q w m9).1)) (roSet cI ad F k a (sea q w m9).2.1 (sea q w m9).2.2)) 0 0 := by
  refine mx_i (ty := .int) (by decide +kernel) rfl (Nat.le_of_ble_eq_true rfl) (fun p e s m below meth cd Q ls hx hb hml hown hts hDi hP hK hNW hS hret hl => ?_)
  have hown : s.vm.findClass RX3 = some m.cls := hown
  subst hxw
  subst hym
  have hk0 : k < N := by omega
  have hk1 : k + 1 < N := by omega
  have hk2 : k + 2 < N := by omega
  have hk3 : k + 3 < N := hk
  have hP : va_P D vwCl (iW ad N (roSet cI ad F k a d q)) s.heap := by rw [roSet_self hO]; exact hP
  have hl : lv_has ls 8 [(0, .ref (ad k)), (1, .int (nI w)), (2, .int (nI m9))] := hl
  refine lv_aload_n hx hb (dk kX3_search_0_ok 0 rfl) rfl (lv_at hl 0 rfl) ?_
  refine gf hx hb hts (fun w h => List.mem_cons_of_mem _ (acX3 w h)) hown hK hP hk0 roSet_at.1 rfl 1 (by decide) (hts _ (List.mem_cons_of_mem _ (ac5 _ (List.mem_of_getElem? (i := 1) rfl)))) (fun _ h => h) rfl (dk kX3_search_0_ok 1 rfl) ?_
  refine lv_iconst (v := -1) hx hb (dk kX3_search_0_ok 2 rfl) rfl ?_
  refine csDv (As := [.ref (ad (k + 2)), .int (-1)]) (rest := []) (roSet cI ad F k a (fun _ => -1) q) ⟨hx, hb, hml, hown, hts⟩ (tJ7_fill_53178 l D cI cQ cL ad N (roSet cI ad F k a d q) (k + 2) hk2 d roSet_at.2.2.1 (-1)) (cwS9 2 hts mcJ7_fill_53178 (ac5 _ (List.mem_of_getElem? (i := 12) rfl)) msJ7_fill_53178 (ac5 _ (List.mem_of_getElem? (i := 14) rfl)) rfl rfl hdJ7_fill_53178 ⟨Nat.le_of_ble_eq_true rfl, Nat.le_of_ble_eq_true rfl⟩) hDi hK hP hNW hS rfl hl.1 rfl (Nat.le_of_ble_eq_true rfl) (by decide) (dk kX3_search_0_ok 3 rfl) roSet_u2 (fun H locs hP hS => ?_)
  refine lv_aload_n hx hb (dk kX3_search_0_ok 4 rfl) rfl (lv_at hl 0 rfl) ?_
  refine gf hx hb hts (fun w h => List.mem_cons_of_mem _ (acX3 w h)) hown hK hP hk0 roSet_at.1 rfl 1 (by decide) (hts _ (List.mem_cons_of_mem _ (ac5 _ (List.mem_of_getElem? (i := 1) rfl)))) (fun _ h => h) rfl (dk kX3_search_0_ok 5 rfl) ?_
  refine lv_iload_n hx hb (dk kX3_search_0_ok 6 rfl) rfl (lv_at hl 1 rfl) ?_
  refine lv_iconst (v := nI 0) hx hb (dk kX3_search_0_ok 7 rfl) rfl ?_
  refine ast (roSet cI ad F k a (upd (fun _ => -1) w (nI 0)) q) (j := w) hx hb hK hDi hP hS hk2 roSet_at.2.2.1 rfl (by omega) (by decide) (dk kX3_search_0_ok 8 rfl) roSet_u2 (fun H locs hP hS => ?_)
  refine lv_aload_n hx hb (dk kX3_search_0_ok 9 rfl) rfl (lv_at hl 0 rfl) ?_
  refine gf hx hb hts (fun w h => List.mem_cons_of_mem _ (acX3 w h)) hown hK hP hk0 roSet_at.1 rfl 2 (by decide) (hts _ (List.mem_cons_of_mem _ (ac5 _ (List.mem_of_getElem? (i := 2) rfl)))) (fun _ h => h) rfl (dk kX3_search_0_ok 10 rfl) ?_
  refine lv_iconst (v := nI 0) hx hb (dk kX3_search_0_ok 11 rfl) rfl ?_
  refine lv_iload_n hx hb (dk kX3_search_0_ok 12 rfl) rfl (lv_at hl 1 rfl) ?_
  refine ast (roSet cI ad F k a (upd (fun _ => -1) w (nI 0)) (upd q 0 (nI w))) (j := 0) hx hb hK hDi hP hS hk3 roSet_at.2.2.2 rfl (by omega) (by decide) (dk kX3_search_0_ok 13 rfl) roSet_u3 (fun H locs hP hS => ?_)
  refine lv_iconst (v := nI 1) hx hb (dk kX3_search_0_ok 14 rfl) rfl ?_
  refine lv_istore_n (lv' := [(3, .int (nI 1)), (0, .ref (ad k)), (1, .int (nI w)), (2, .int (nI m9))]) hx hb (dk kX3_search_0_ok 15 rfl) rfl hl (by decide) rfl (fun ls hl => ?_)
  refine lv_iconst (v := nI 0) hx hb (dk kX3_search_0_ok 16 rfl) rfl ?_
  refine lv_istore (lv' := [(4, .int (nI 0)), (3, .int (nI 1)), (0, .ref (ad k)), (1, .int (nI w)), (2, .int (nI m9))]) hx hb (dk kX3_search_0_ok 17 rfl) hl (by decide) rfl (fun ls hl => ?_)
  have L27 : ∀ (fu : Nat) (kk n : Nat) (d2 q2 : Nat → Int32) (H : Heap) (locs : List Loc), va_P D vwCl (iW ad N (roSet cI ad F k a d2 q2)) H → va_S (iA ad N s.heap.size) s.heap H locs → kk ≤ 169 → n ≤ 169 → (∀ i, i < n → cell9 (q2 i)) → sea q w m9 = srO m9 (170 - kk) kk d2 q2 n → 170 - kk < fu → ∀ ls : Array Slot, lv_has ls 8 [(0, .ref (ad k)), (1, .int (nI w)), (2, .int (nI m9)), (3, .int (nI n)), (4, .int (nI kk))] → W p l e ({ frames := 2, cells := 0, slots := 0, locals := 49 } : Room) s m ([.ref (ad k), .int (nI w), .int (nI m9)] : List Value).toArray below meth cd H locs 0 0 Q (F0 m 27 ls []) := by
    intro fu
    induction fu with
    | zero => intros; omega
    | succ fu ih27 =>
      intro kk n d2 q2 H locs hP hS hkk hn hq2 hr hme27 ls hl
      refine lv_iload hx hb (dk kX3_search_0_ok 18 rfl) (lv_at hl 4 rfl) ?_
      refine lv_iload_n hx hb (dk kX3_search_0_ok 19 rfl) rfl (lv_at hl 3 rfl) ?_
      refine n_icmp_ge (tgt := 161) hx hb (by omega) (by omega) (dk kX3_search_0_ok 20 rfl) (by decide) (fun h1 => ?_) (fun h1 => ?_)
      · skip
        refine lv_iconst (v := -1) hx hb (dk kX3_search_1_ok 29 rfl) rfl ?_
        exact hret _ _ _ _ _ _ _ _ rfl (by first | (have e9 := srO_hit (i := 170 - (kk + 1)) (r := d3 (ix (q2 kk)) + nI 1) (d' := d3) (q' := q3) (n' := n3) h1 h2 (hri.trans (by rw [show 72 - f = (72 - (f + 1)) + 1 by omega]; simp only [srI, (eq_true h1), (eq_false (Nat.not_lt.mpr h1)), not_true_eq_false, not_false_eq_true, and_true, true_and, and_false, false_and, or_true, true_or, or_false, false_or, and_self, or_self, if_true, if_false, Bool.false_eq_true, reduceIte])); rw [← show 170 - kk = (170 - (kk + 1)) + 1 by omega, ← hr] at e9; rw [e9]; exact ⟨rfl, rfl⟩) | (have e9 := srO_end (m := m9) (i := 170 - (kk + 1)) (k := kk) (n := n) (d := d2) (q := q2) (by omega); rw [← show 170 - kk = (170 - (kk + 1)) + 1 by omega, ← hr] at e9; rw [e9]; exact ⟨rfl, rfl⟩)) hP hS (by decide) (by decide) (dk kX3_search_1_ok 30 rfl)
      · skip
        refine lv_iload hx hb (dk kX3_search_0_ok 21 rfl) (lv_at hl 4 rfl) ?_
        refine lv_sipush (v := nI 169) hx hb (dk kX3_search_0_ok 22 rfl) rfl ?_
        refine n_icmp_ge (tgt := 161) hx hb (by omega) (by decide) (dk kX3_search_0_ok 23 rfl) (by decide) (fun h2 => ?_) (fun h2 => ?_)
        · skip
          refine lv_iconst (v := -1) hx hb (dk kX3_search_1_ok 29 rfl) rfl ?_
          exact hret _ _ _ _ _ _ _ _ rfl (by first | (have e9 := srO_hit (i := 170 - (kk + 1)) (r := d3 (ix (q2 kk)) + nI 1) (d' := d3) (q' := q3) (n' := n3) h1 h2 (hri.trans (by rw [show 72 - f = (72 - (f + 1)) + 1 by omega]; simp only [srI, (eq_true h1), (eq_false (Nat.not_le.mpr h1)), (eq_true h2), (eq_false (Nat.not_lt.mpr h2)), not_true_eq_false, not_false_eq_true, and_true, true_and, and_false, false_and, or_true, true_or, or_false, false_or, and_self, or_self, if_true, if_false, Bool.false_eq_true, reduceIte])); rw [← show 170 - kk = (170 - (kk + 1)) + 1 by omega, ← hr] at e9; rw [e9]; exact ⟨rfl, rfl⟩) | (have e9 := srO_end (m := m9) (i := 170 - (kk + 1)) (k := kk) (n := n) (d := d2) (q := q2) (by omega); rw [← show 170 - kk = (170 - (kk + 1)) + 1 by omega, ← hr] at e9; rw [e9]; exact ⟨rfl, rfl⟩)) hP hS (by decide) (by decide) (dk kX3_search_1_ok 30 rfl)
        · skip
          refine lv_aload_n hx hb (dk kX3_search_0_ok 24 rfl) rfl (lv_at hl 0 rfl) ?_
          refine gf hx hb hts (fun w h => List.mem_cons_of_mem _ (acX3 w h)) hown hK hP hk0 roSet_at.1 rfl 2 (by decide) (hts _ (List.mem_cons_of_mem _ (ac5 _ (List.mem_of_getElem? (i := 2) rfl)))) (fun _ h => h) rfl (dk kX3_search_0_ok 25 rfl) ?_
          refine lv_iload hx hb (dk kX3_search_0_ok 26 rfl) (lv_at hl 4 rfl) ?_
          refine ald (j := kk) hx hb hK hP hk3 roSet_at.2.2.2 rfl (by omega) (by decide) (dk kX3_search_0_ok 27 rfl) ?_
          refine lv_istore (lv' := [(5, .int (q2 kk)), (0, .ref (ad k)), (1, .int (nI w)), (2, .int (nI m9)), (3, .int (nI n)), (4, .int (nI kk))]) hx hb (dk kX3_search_0_ok 28 rfl) hl (by decide) rfl (fun ls hl => ?_)
          refine lv_iconst (v := nI 0) hx hb (dk kX3_search_0_ok 29 rfl) rfl ?_
          refine lv_istore (lv' := [(6, .int (nI 0)), (5, .int (q2 kk)), (0, .ref (ad k)), (1, .int (nI w)), (2, .int (nI m9)), (3, .int (nI n)), (4, .int (nI kk))]) hx hb (dk kX3_search_0_ok 30 rfl) hl (by decide) rfl (fun ls hl => ?_)
          have L53 : ∀ (fu : Nat) (f n3 : Nat) (d3 q3 : Nat → Int32) (H : Heap) (locs : List Loc), va_P D vwCl (iW ad N (roSet cI ad F k a d3 q3)) H → va_S (iA ad N s.heap.size) s.heap H locs → f ≤ 72 → n3 ≤ 169 → (∀ i, i < n3 → cell9 (q3 i)) → srI m9 (q2 kk) 72 0 d2 q2 n = srI m9 (q2 kk) (72 - f) f d3 q3 n3 → 72 - f < fu → ∀ ls : Array Slot, lv_has ls 8 [(0, .ref (ad k)), (1, .int (nI w)), (2, .int (nI m9)), (3, .int (nI n3)), (4, .int (nI kk)), (5, .int (q2 kk)), (6, .int (nI f))] → W p l e ({ frames := 2, cells := 0, slots := 0, locals := 49 } : Room) s m ([.ref (ad k), .int (nI w), .int (nI m9)] : List Value).toArray below meth cd H locs 0 0 Q (F0 m 53 ls []) := by
            intro fu
            induction fu with
            | zero => intros; omega
            | succ fu ih53 =>
              intro f n3 d3 q3 H locs hP hS hf hn3 hq3 hri hme53 ls hl
              have hc : cell9 (q2 kk) := hq2 kk h1
              refine lv_iload hx hb (dk kX3_search_0_ok 31 rfl) (lv_at hl 6 rfl) ?_
              refine lv_bipush (v := nI 72) hx hb (dk kX3_search_0_ok 32 rfl) rfl ?_
              refine n_icmp_ge (tgt := 155) hx hb (by omega) (by decide) (dk kX3_search_0_ok 33 rfl) (by decide) (fun h3 => ?_) (fun h3 => ?_)
              · skip
                refine lv_iinc (v := nI (kk + 1)) (lv' := [(4, .int (nI (kk + 1))), (0, .ref (ad k)), (1, .int (nI w)), (2, .int (nI m9)), (3, .int (nI n3)), (5, .int (q2 kk)), (6, .int (nI f))]) hx hb (dk kX3_search_1_ok 27 rfl) hl (k := 4) rfl (n_inc _) (by decide) rfl (fun ls hl => ?_)
                refine lv_goto (tgt := 27) hx hb (dk kX3_search_1_ok 28 rfl) (by decide) ?_
                exact ih27 (kk + 1) n3 d3 q3 _ _ hP hS (by omega) (by omega) (by exact hq3) (by rw [hr, show 170 - kk = (170 - (kk + 1)) + 1 by omega]; exact srO_miss h1 h2 (hri.trans (by rw [show 72 - f = 0 by omega]; rfl))) (by omega) ls (lv_sub hl [1, 2, 3, 4, 0] rfl)
              · skip
                refine lv_iload hx hb (dk kX3_search_0_ok 34 rfl) (lv_at hl 5 rfl) ?_
                refine lv_iload hx hb (dk kX3_search_0_ok 35 rfl) (lv_at hl 6 rfl) ?_
                refine lv_bipush (v := nI 9) hx hb (dk kX3_search_0_ok 36 rfl) rfl ?_
                refine n_idiv hx hb (by omega) (by decide) (by decide) (dk kX3_search_0_ok 37 rfl) ?_
                refine lv_iload hx hb (dk kX3_search_0_ok 38 rfl) (lv_at hl 6 rfl) ?_
                refine lv_bipush (v := nI 9) hx hb (dk kX3_search_0_ok 39 rfl) rfl ?_
                refine n_irem hx hb (by omega) (by decide) (by decide) (dk kX3_search_0_ok 40 rfl) ?_
                refine lv_iconst (v := nI 1) hx hb (dk kX3_search_0_ok 41 rfl) rfl ?_
                refine n_iadd hx hb (dk kX3_search_0_ok 42 rfl) ?_
                refine lv_iload_n hx hb (dk kX3_search_0_ok 43 rfl) rfl (lv_at hl 2 rfl) ?_
                refine n_iadd hx hb (dk kX3_search_0_ok 44 rfl) ?_
                refine csPN (As := [.int (q2 kk), .int (nI (f / 9)), .int (nI (((f % 9) + 1) + m9))]) (rest := []) ⟨hx, hb, hml, hown, hts⟩ (tX5_landing l (q2 kk) (nI (f / 9)) (nI (((f % 9) + 1) + m9)) (((f % 9) + 1) + m9) rfl (by omega)) (cwN9 3 hts mcX5_landing (nm8 hNW) mini_RX5 rfl rfl hdX5_landing ⟨Nat.le_of_ble_eq_true rfl, Nat.le_of_ble_eq_true rfl⟩) (hts _ (List.mem_cons_of_mem _ msX5_landing)) rfl hl.1 rfl (Nat.le_of_ble_eq_true rfl) (by decide) (dk kX3_search_0_ok 45 rfl) ?_
                refine lv_istore (lv' := [(7, .int (ldg (q2 kk) (nI (f / 9)) (((f % 9) + 1) + m9))), (0, .ref (ad k)), (1, .int (nI w)), (2, .int (nI m9)), (3, .int (nI n3)), (4, .int (nI kk)), (5, .int (q2 kk)), (6, .int (nI f))]) hx hb (dk kX3_search_0_ok 46 rfl) hl (by decide) rfl (fun ls hl => ?_)
                refine lv_iload hx hb (dk kX3_search_0_ok 47 rfl) (lv_at hl 0 rfl) ?_
                refine lv_bipush (v := nI 84) hx hb (dk kX3_search_0_ok 48 rfl) rfl ?_
                refine lv_icmp_ne (tgt := 98) hx hb (dk kX3_search_0_ok 49 rfl) (by decide) (fun h4 => ?_) (fun h4 => ?_)
                · skip
                  refine lv_iload hx hb (dk kX3_search_0_ok 57 rfl) (lv_at hl 0 rfl) ?_
                  refine lv_iconst (v := -1) hx hb (dk kX3_search_0_ok 58 rfl) rfl ?_
                  refine lv_icmp_eq (tgt := 149) hx hb (dk kX3_search_0_ok 59 rfl) (by decide) (fun h5 => ?_) (fun h5 => ?_)
                  · skip
                    refine lv_iinc (v := nI (f + 1)) (lv' := [(6, .int (nI (f + 1))), (7, .int (ldg (q2 kk) (nI (f / 9)) (((f % 9) + 1) + m9))), (0, .ref (ad k)), (1, .int (nI w)), (2, .int (nI m9)), (3, .int (nI n3)), (4, .int (nI kk)), (5, .int (q2 kk))]) hx hb (dk kX3_search_1_ok 25 rfl) hl (k := 7) rfl (n_inc _) (by decide) rfl (fun ls hl => ?_)
                    refine lv_goto (tgt := 53) hx hb (dk kX3_search_1_ok 26 rfl) (by decide) ?_
                    exact ih53 (f + 1) n3 d3 q3 _ _ hP hS (by omega) (by omega) (by first | exact hq3 | (intro i hi; unfold upd; split; exact (ldg_cell hc _ _).resolve_left (by assumption); exact hq3 i (by omega))) (by rw [hri, show 72 - f = (72 - (f + 1)) + 1 by omega]; simp only [srI, (eq_true h1), (eq_false (Nat.not_le.mpr h1)), (eq_true h2), (eq_false (Nat.not_le.mpr h2)), (eq_true h3), (eq_false (Nat.not_le.mpr h3)), (eq_false h4), (eq_true h5), not_true_eq_false, not_false_eq_true, and_true, true_and, and_false, false_and, or_true, true_or, or_false, false_or, and_self, or_self, if_true, if_false, Bool.false_eq_true, reduceIte]) (by omega) ls (lv_sub hl [2, 3, 4, 5, 6, 7, 0] rfl)
                  · skip
                    refine lv_aload_n hx hb (dk kX3_search_1_ok 0 rfl) rfl (lv_at hl 1 rfl) ?_
                    refine gf hx hb hts (fun w h => List.mem_cons_of_mem _ (acX3 w h)) hown hK hP hk0 roSet_at.1 rfl 1 (by decide) (hts _ (List.mem_cons_of_mem _ (ac5 _ (List.mem_of_getElem? (i := 1) rfl)))) (fun _ h => h) rfl (dk kX3_search_1_ok 1 rfl) ?_
                    refine lv_iload hx hb (dk kX3_search_1_ok 2 rfl) (lv_at hl 0 rfl) ?_
                    refine ald (j := (ix (ldg (q2 kk) (nI (f / 9)) (((f % 9) + 1) + m9)))) hx hb hK hP hk2 roSet_at.2.2.1 (cell9_ix ((ldg_cell hc _ _).resolve_left h5)).1 (cell9_ix ((ldg_cell hc _ _).resolve_left h5)).2 (by decide) (dk kX3_search_1_ok 3 rfl) ?_
                    refine lv_iconst (v := -1) hx hb (dk kX3_search_1_ok 4 rfl) rfl ?_
                    refine lv_icmp_ne (tgt := 149) hx hb (dk kX3_search_1_ok 5 rfl) (by decide) (fun h6 => ?_) (fun h6 => ?_)
                    · skip
                      refine lv_iinc (v := nI (f + 1)) (lv' := [(6, .int (nI (f + 1))), (7, .int (ldg (q2 kk) (nI (f / 9)) (((f % 9) + 1) + m9))), (0, .ref (ad k)), (1, .int (nI w)), (2, .int (nI m9)), (3, .int (nI n3)), (4, .int (nI kk)), (5, .int (q2 kk))]) hx hb (dk kX3_search_1_ok 25 rfl) hl (k := 7) rfl (n_inc _) (by decide) rfl (fun ls hl => ?_)
                      refine lv_goto (tgt := 53) hx hb (dk kX3_search_1_ok 26 rfl) (by decide) ?_
                      exact ih53 (f + 1) n3 d3 q3 _ _ hP hS (by omega) (by omega) (by first | exact hq3 | (intro i hi; unfold upd; split; exact (ldg_cell hc _ _).resolve_left (by assumption); exact hq3 i (by omega))) (by rw [hri, show 72 - f = (72 - (f + 1)) + 1 by omega]; simp only [srI, (eq_true h1), (eq_false (Nat.not_le.mpr h1)), (eq_true h2), (eq_false (Nat.not_le.mpr h2)), (eq_true h3), (eq_false (Nat.not_le.mpr h3)), (eq_false h4), (eq_false h5), (eq_false h6), not_true_eq_false, not_false_eq_true, and_true, true_and, and_false, false_and, or_true, true_or, or_false, false_or, and_self, or_self, if_true, if_false, Bool.false_eq_true, reduceIte]) (by omega) ls (lv_sub hl [2, 3, 4, 5, 6, 7, 0] rfl)
                    · skip
                      refine lv_iload_n hx hb (dk kX3_search_1_ok 6 rfl) rfl (lv_at hl 4 rfl) ?_
                      refine lv_sipush (v := nI 169) hx hb (dk kX3_search_1_ok 7 rfl) rfl ?_
                      refine n_icmp_ge (tgt := 149) hx hb (by omega) (by decide) (dk kX3_search_1_ok 8 rfl) (by decide) (fun h7 => ?_) (fun h7 => ?_)
                      · skip
                        refine lv_iinc (v := nI (f + 1)) (lv' := [(6, .int (nI (f + 1))), (7, .int (ldg (q2 kk) (nI (f / 9)) (((f % 9) + 1) + m9))), (0, .ref (ad k)), (1, .int (nI w)), (2, .int (nI m9)), (3, .int (nI n3)), (4, .int (nI kk)), (5, .int (q2 kk))]) hx hb (dk kX3_search_1_ok 25 rfl) hl (k := 7) rfl (n_inc _) (by decide) rfl (fun ls hl => ?_)
                        refine lv_goto (tgt := 53) hx hb (dk kX3_search_1_ok 26 rfl) (by decide) ?_
                        exact ih53 (f + 1) n3 d3 q3 _ _ hP hS (by omega) (by omega) (by first | exact hq3 | (intro i hi; unfold upd; split; exact (ldg_cell hc _ _).resolve_left (by assumption); exact hq3 i (by omega))) (by rw [hri, show 72 - f = (72 - (f + 1)) + 1 by omega]; simp only [srI, (eq_true h1), (eq_false (Nat.not_le.mpr h1)), (eq_true h2), (eq_false (Nat.not_le.mpr h2)), (eq_true h3), (eq_false (Nat.not_le.mpr h3)), (eq_false h4), (eq_false h5), (eq_true h6), (eq_true h7), (eq_false (Nat.not_lt.mpr h7)), not_true_eq_false, not_false_eq_true, and_true, true_and, and_false, false_and, or_true, true_or, or_false, false_or, and_self, or_self, if_true, if_false, Bool.false_eq_true, reduceIte]) (by omega) ls (lv_sub hl [2, 3, 4, 5, 6, 7, 0] rfl)
                      · skip
                        refine lv_aload_n hx hb (dk kX3_search_1_ok 9 rfl) rfl (lv_at hl 1 rfl) ?_
                        refine gf hx hb hts (fun w h => List.mem_cons_of_mem _ (acX3 w h)) hown hK hP hk0 roSet_at.1 rfl 1 (by decide) (hts _ (List.mem_cons_of_mem _ (ac5 _ (List.mem_of_getElem? (i := 1) rfl)))) (fun _ h => h) rfl (dk kX3_search_1_ok 10 rfl) ?_
                        refine lv_iload hx hb (dk kX3_search_1_ok 11 rfl) (lv_at hl 0 rfl) ?_
                        refine lv_aload_n hx hb (dk kX3_search_1_ok 12 rfl) rfl (lv_at hl 1 rfl) ?_
                        refine gf hx hb hts (fun w h => List.mem_cons_of_mem _ (acX3 w h)) hown hK hP hk0 roSet_at.1 rfl 1 (by decide) (hts _ (List.mem_cons_of_mem _ (ac5 _ (List.mem_of_getElem? (i := 1) rfl)))) (fun _ h => h) rfl (dk kX3_search_1_ok 13 rfl) ?_
                        refine lv_iload hx hb (dk kX3_search_1_ok 14 rfl) (lv_at hl 6 rfl) ?_
                        refine ald (j := (ix (q2 kk))) hx hb hK hP hk2 roSet_at.2.2.1 (cell9_ix hc).1 (cell9_ix hc).2 (by decide) (dk kX3_search_1_ok 15 rfl) ?_
                        refine lv_iconst (v := nI 1) hx hb (dk kX3_search_1_ok 16 rfl) rfl ?_
                        refine lv_iadd hx hb (dk kX3_search_1_ok 17 rfl) ?_
                        refine ast (roSet cI ad F k a (upd d3 (ix (ldg (q2 kk) (nI (f / 9)) (((f % 9) + 1) + m9))) ((d3 (ix (q2 kk))) + (nI 1))) q3) (j := (ix (ldg (q2 kk) (nI (f / 9)) (((f % 9) + 1) + m9)))) hx hb hK hDi hP hS hk2 roSet_at.2.2.1 (cell9_ix ((ldg_cell hc _ _).resolve_left h5)).1 (cell9_ix ((ldg_cell hc _ _).resolve_left h5)).2 (by decide) (dk kX3_search_1_ok 18 rfl) roSet_u2 (fun H locs hP hS => ?_)
                        refine lv_aload_n hx hb (dk kX3_search_1_ok 19 rfl) rfl (lv_at hl 1 rfl) ?_
                        refine gf hx hb hts (fun w h => List.mem_cons_of_mem _ (acX3 w h)) hown hK hP hk0 roSet_at.1 rfl 2 (by decide) (hts _ (List.mem_cons_of_mem _ (ac5 _ (List.mem_of_getElem? (i := 2) rfl)))) (fun _ h => h) rfl (dk kX3_search_1_ok 20 rfl) ?_
                        refine lv_iload_n hx hb (dk kX3_search_1_ok 21 rfl) rfl (lv_at hl 4 rfl) ?_
                        refine lv_iload hx hb (dk kX3_search_1_ok 22 rfl) (lv_at hl 0 rfl) ?_
                        refine ast (roSet cI ad F k a (upd d3 (ix (ldg (q2 kk) (nI (f / 9)) (((f % 9) + 1) + m9))) ((d3 (ix (q2 kk))) + (nI 1))) (upd q3 n3 (ldg (q2 kk) (nI (f / 9)) (((f % 9) + 1) + m9)))) (j := n3) hx hb hK hDi hP hS hk3 roSet_at.2.2.2 rfl (by omega) (by decide) (dk kX3_search_1_ok 23 rfl) roSet_u3 (fun H locs hP hS => ?_)
                        refine lv_iinc (v := nI (n3 + 1)) (lv' := [(3, .int (nI (n3 + 1))), (7, .int (ldg (q2 kk) (nI (f / 9)) (((f % 9) + 1) + m9))), (0, .ref (ad k)), (1, .int (nI w)), (2, .int (nI m9)), (4, .int (nI kk)), (5, .int (q2 kk)), (6, .int (nI f))]) hx hb (dk kX3_search_1_ok 24 rfl) hl (k := 4) rfl (n_inc _) (by decide) rfl (fun ls hl => ?_)
                        refine lv_iinc (v := nI (f + 1)) (lv' := [(6, .int (nI (f + 1))), (3, .int (nI (n3 + 1))), (7, .int (ldg (q2 kk) (nI (f / 9)) (((f % 9) + 1) + m9))), (0, .ref (ad k)), (1, .int (nI w)), (2, .int (nI m9)), (4, .int (nI kk)), (5, .int (q2 kk))]) hx hb (dk kX3_search_1_ok 25 rfl) hl (k := 7) rfl (n_inc _) (by decide) rfl (fun ls hl => ?_)
                        refine lv_goto (tgt := 53) hx hb (dk kX3_search_1_ok 26 rfl) (by decide) ?_
                        exact ih53 (f + 1) (n3 + 1) (upd d3 (ix (ldg (q2 kk) (nI (f / 9)) (((f % 9) + 1) + m9))) ((d3 (ix (q2 kk))) + (nI 1))) (upd q3 n3 (ldg (q2 kk) (nI (f / 9)) (((f % 9) + 1) + m9))) _ _ hP hS (by omega) (by omega) (by first | exact hq3 | (intro i hi; unfold upd; split; exact (ldg_cell hc _ _).resolve_left (by assumption); exact hq3 i (by omega))) (by rw [hri, show 72 - f = (72 - (f + 1)) + 1 by omega]; simp only [srI, (eq_true h1), (eq_false (Nat.not_le.mpr h1)), (eq_true h2), (eq_false (Nat.not_le.mpr h2)), (eq_true h3), (eq_false (Nat.not_le.mpr h3)), (eq_false h4), (eq_false h5), (eq_true h6), (eq_true h7), (eq_false (Nat.not_le.mpr h7)), not_true_eq_false, not_false_eq_true, and_true, true_and, and_false, false_and, or_true, true_or, or_false, false_or, and_self, or_self, if_true, if_false, Bool.false_eq_true, reduceIte]) (by omega) ls (lv_sub hl [3, 4, 5, 1, 6, 7, 0] rfl)
                · skip
                  refine lv_aload_n hx hb (dk kX3_search_0_ok 50 rfl) rfl (lv_at hl 1 rfl) ?_
                  refine gf hx hb hts (fun w h => List.mem_cons_of_mem _ (acX3 w h)) hown hK hP hk0 roSet_at.1 rfl 1 (by decide) (hts _ (List.mem_cons_of_mem _ (ac5 _ (List.mem_of_getElem? (i := 1) rfl)))) (fun _ h => h) rfl (dk kX3_search_0_ok 51 rfl) ?_
                  refine lv_iload hx hb (dk kX3_search_0_ok 52 rfl) (lv_at hl 6 rfl) ?_
                  refine ald (j := (ix (q2 kk))) hx hb hK hP hk2 roSet_at.2.2.1 (cell9_ix hc).1 (cell9_ix hc).2 (by decide) (dk kX3_search_0_ok 53 rfl) ?_
                  refine lv_iconst (v := nI 1) hx hb (dk kX3_search_0_ok 54 rfl) rfl ?_
                  refine lv_iadd hx hb (dk kX3_search_0_ok 55 rfl) ?_
                  exact hret _ _ _ _ _ _ _ _ rfl (by first | (have e9 := srO_hit (i := 170 - (kk + 1)) (r := d3 (ix (q2 kk)) + nI 1) (d' := d3) (q' := q3) (n' := n3) h1 h2 (hri.trans (by rw [show 72 - f = (72 - (f + 1)) + 1 by omega]; simp only [srI, (eq_true h1), (eq_false (Nat.not_le.mpr h1)), (eq_true h2), (eq_false (Nat.not_le.mpr h2)), (eq_true h3), (eq_false (Nat.not_le.mpr h3)), (eq_true h4), not_true_eq_false, not_false_eq_true, and_true, true_and, and_false, false_and, or_true, true_or, or_false, false_or, and_self, or_self, if_true, if_false, Bool.false_eq_true, reduceIte])); rw [← show 170 - kk = (170 - (kk + 1)) + 1 by omega, ← hr] at e9; rw [e9]; exact ⟨rfl, rfl⟩) | (have e9 := srO_end (m := m9) (i := 170 - (kk + 1)) (k := kk) (n := n) (d := d2) (q := q2) (by omega); rw [← show 170 - kk = (170 - (kk + 1)) + 1 by omega, ← hr] at e9; rw [e9]; exact ⟨rfl, rfl⟩)) hP hS (by decide) (by decide) (dk kX3_search_0_ok 56 rfl)
          exact L53 _ 0 n d2 q2 _ _ hP hS (by omega) (by omega) (by exact hq2) (by rfl) (Nat.lt_succ_self _) ls (lv_sub hl [2, 3, 4, 5, 6, 1, 0] rfl)
  exact L27 _ 0 1 (srD w) (upd q 0 (nI w)) _ _ hP hS (by omega) (by omega) (by intro i hi; rw [show i = 0 by omega]; exact ⟨w, hw, by simp [upd]⟩) (by rfl) (Nat.lt_succ_self _) ls (lv_sub hl [2, 3, 4, 1, 0] rfl)
end
section
set_option maxRecDepth 100000 in
set_option maxHeartbeats 4000000 in
theorem tX3_fewest (l : Launch) (D : va_G) (cI cQ cL : ClassId) (ad : Nat → Nat) (N : Nat) (F : Nat → va_E) (k : Nat) (hk : k + 3 < N) (a d q : Nat → Int32) (hO : roAt cI ad F k a d q) (x : Int32) (w : Nat) (hxw : x = nI w) (hw : w < 169) (g : Bool) : MX l yX3_fewest (Cond.code yX3_fewest cX3_fewest 4 (some .int) :: AW) ({ frames := 3, cells := 0, slots := 0, locals := 76 } : Room) D cI cQ cL ad N F [.ref (ad k), .int x, .int (bI g)] (dp (some (.int ((few a d q w g).1 (if g = true then w else 169 + w)))) (roSet cI ad F k (few a d q w g).1 (few a d q w g).2.1 (few a d q w g).2.2)) 0 0 := by
  refine mx_i (ty := .int) (by decide +kernel) rfl (Nat.le_of_ble_eq_true rfl) (fun p e s m below meth cd Q ls hx hb hml hown hts hDi hP hK hNW hS hret hl => ?_)
  have hown : s.vm.findClass RX3 = some m.cls := hown
  subst hxw
  have hk0 : k < N := by omega
  have hk1 : k + 1 < N := by omega
  have hk2 : k + 2 < N := by omega
  have hk3 : k + 3 < N := hk
  have hP : va_P D vwCl (iW ad N (roSet cI ad F k a d q)) s.heap := by rw [roSet_self hO]; exact hP
  have hl : lv_has ls 4 [(0, .ref (ad k)), (1, .int (nI w)), (2, .int (bI g))] := hl
  refine lv_iload_n hx hb (dk kX3_fewest_ok 0 rfl) rfl (lv_at hl 1 rfl) ?_
  refine n_if_lt (tgt := 11) hx hb (by omega) (dk kX3_fewest_ok 1 rfl) (by decide) ?_
  refine lv_iload_n hx hb (dk kX3_fewest_ok 2 rfl) rfl (lv_at hl 1 rfl) ?_
  refine lv_sipush (v := nI 169) hx hb (dk kX3_fewest_ok 3 rfl) rfl ?_
  refine n_icmp_lt (tgt := 13) hx hb (by omega) (by decide) (dk kX3_fewest_ok 4 rfl) (by decide) (fun h1 => ?_) (fun h1 => ?_)
  · skip
    refine lv_iload_n hx hb (dk kX3_fewest_ok 7 rfl) rfl (lv_at hl 2 rfl) ?_
    refine b_if_eq (tgt := 21) hx hb (dk kX3_fewest_ok 8 rfl) (by decide) (fun h2 => ?_) (fun h2 => ?_)
    · skip
      refine lv_sipush (v := nI 169) hx hb (dk kX3_fewest_ok 11 rfl) rfl ?_
      refine lv_iload_n hx hb (dk kX3_fewest_ok 12 rfl) rfl (lv_at hl 1 rfl) ?_
      refine n_iadd hx hb (dk kX3_fewest_ok 13 rfl) ?_
      refine lv_istore_n (lv' := [(3, .int (nI (169 + w))), (0, .ref (ad k)), (1, .int (nI w)), (2, .int (bI g))]) hx hb (dk kX3_fewest_ok 14 rfl) rfl hl (by decide) rfl (fun ls hl => ?_)
      refine lv_aload_n hx hb (dk kX3_fewest_ok 15 rfl) rfl (lv_at hl 1 rfl) ?_
      refine gf hx hb hts (fun w h => List.mem_cons_of_mem _ (acX3 w h)) hown hK hP hk0 roSet_at.1 rfl 0 (by decide) (hts _ (List.mem_cons_of_mem _ (ac5 _ (List.mem_of_getElem? (i := 0) rfl)))) (fun _ h => h) rfl (dk kX3_fewest_ok 16 rfl) ?_
      refine lv_iload_n hx hb (dk kX3_fewest_ok 17 rfl) rfl (lv_at hl 0 rfl) ?_
      refine ald (j := (169 + w)) hx hb hK hP hk1 roSet_at.2.1 rfl (by omega) (by decide) (dk kX3_fewest_ok 18 rfl) ?_
      refine lv_if_ne (tgt := 56) hx hb (dk kX3_fewest_ok 19 rfl) (by decide) (fun h3 => ?_) (fun h3 => ?_)
      · skip
        refine lv_aload_n hx hb (dk kX3_fewest_ok 32 rfl) rfl (lv_at hl 1 rfl) ?_
        refine gf hx hb hts (fun w h => List.mem_cons_of_mem _ (acX3 w h)) hown hK hP hk0 roSet_at.1 rfl 0 (by decide) (hts _ (List.mem_cons_of_mem _ (ac5 _ (List.mem_of_getElem? (i := 0) rfl)))) (fun _ h => h) rfl (dk kX3_fewest_ok 33 rfl) ?_
        refine lv_iload_n hx hb (dk kX3_fewest_ok 34 rfl) rfl (lv_at hl 0 rfl) ?_
        refine ald (j := (169 + w)) hx hb hK hP hk1 roSet_at.2.1 rfl (by omega) (by decide) (dk kX3_fewest_ok 35 rfl) ?_
        exact hret _ _ _ _ _ _ _ _ rfl (by first | (exfalso; omega) | (simp only [few, dp, (eq_true h1), (eq_false (Nat.not_le.mpr h1)), h2, (eq_false h3), not_true_eq_false, not_false_eq_true, and_true, true_and, and_false, false_and, or_true, true_or, or_false, false_or, and_self, or_self, if_true, if_false, Bool.false_eq_true, reduceIte, upd]; first | done | exact ⟨rfl, rfl⟩)) hP hS (by decide) (by decide) (dk kX3_fewest_ok 36 rfl)
      · skip
        refine lv_aload_n hx hb (dk kX3_fewest_ok 20 rfl) rfl (lv_at hl 1 rfl) ?_
        refine gf hx hb hts (fun w h => List.mem_cons_of_mem _ (acX3 w h)) hown hK hP hk0 roSet_at.1 rfl 0 (by decide) (hts _ (List.mem_cons_of_mem _ (ac5 _ (List.mem_of_getElem? (i := 0) rfl)))) (fun _ h => h) rfl (dk kX3_fewest_ok 21 rfl) ?_
        refine lv_iload_n hx hb (dk kX3_fewest_ok 22 rfl) rfl (lv_at hl 0 rfl) ?_
        refine lv_aload_n hx hb (dk kX3_fewest_ok 23 rfl) rfl (lv_at hl 1 rfl) ?_
        refine lv_iload_n hx hb (dk kX3_fewest_ok 24 rfl) rfl (lv_at hl 2 rfl) ?_
        refine lv_iload_n hx hb (dk kX3_fewest_ok 25 rfl) rfl (lv_at hl 3 rfl) ?_
        refine b_if_eq (tgt := 51) hx hb (dk kX3_fewest_ok 26 rfl) (by decide) (fun h4 => ?_) (fun h4 => ?_)
        · skip
          refine lv_iconst (v := nI 1) hx hb (dk kX3_fewest_ok 29 rfl) rfl ?_
          refine cvD (As := [.int (nI w), .int (nI 1)]) (rest := [.int (nI (169 + w)), .ref (ad (k + 1))]) (roSet cI ad F k a ((sea q w 1).2.1) ((sea q w 1).2.2)) ⟨hx, hb, hml, hown, hts⟩ (tX3_search l D cI cQ cL ad N (roSet cI ad F k a d q) k hk a d q (roSet_at) (nI w) w rfl (by omega) (nI 1) 1 rfl (by omega)) (cwV9 2 hts mcX3_search (ac5 _ (List.mem_of_getElem? (i := 18) rfl)) miX3_search meX3_search mini_RX3 rfl rfl hdX3_search ⟨Nat.le_of_ble_eq_true rfl, Nat.le_of_ble_eq_true rfl⟩) hDi hK hP hNW hS hk0 roSet_at.1 rfl rfl hl.1 rfl (Nat.le_of_ble_eq_true rfl) (by decide) (dk kX3_fewest_ok 30 rfl) roSet_roSet (fun H locs hP hS => ?_)
          refine ast (roSet cI ad F k (upd a (169 + w) ((sea q w 1).1)) ((sea q w 1).2.1) ((sea q w 1).2.2)) (j := (169 + w)) hx hb hK hDi hP hS hk1 roSet_at.2.1 rfl (by omega) (by decide) (dk kX3_fewest_ok 31 rfl) roSet_u1 (fun H locs hP hS => ?_)
          refine lv_aload_n hx hb (dk kX3_fewest_ok 32 rfl) rfl (lv_at hl 1 rfl) ?_
          refine gf hx hb hts (fun w h => List.mem_cons_of_mem _ (acX3 w h)) hown hK hP hk0 roSet_at.1 rfl 0 (by decide) (hts _ (List.mem_cons_of_mem _ (ac5 _ (List.mem_of_getElem? (i := 0) rfl)))) (fun _ h => h) rfl (dk kX3_fewest_ok 33 rfl) ?_
          refine lv_iload_n hx hb (dk kX3_fewest_ok 34 rfl) rfl (lv_at hl 0 rfl) ?_
          refine ald (j := (169 + w)) hx hb hK hP hk1 roSet_at.2.1 rfl (by omega) (by decide) (dk kX3_fewest_ok 35 rfl) ?_
          exact hret _ _ _ _ _ _ _ _ rfl (by first | (exfalso; omega) | (simp only [few, dp, (eq_true h1), (eq_false (Nat.not_le.mpr h1)), h2, (eq_true h3), h4, not_true_eq_false, not_false_eq_true, and_true, true_and, and_false, false_and, or_true, true_or, or_false, false_or, and_self, or_self, if_true, if_false, Bool.false_eq_true, reduceIte, upd]; first | done | exact ⟨rfl, rfl⟩)) hP hS (by decide) (by decide) (dk kX3_fewest_ok 36 rfl)
        · exact absurd (h2.symm.trans h4) (by decide)
    · skip
      refine lv_iload_n hx hb (dk kX3_fewest_ok 9 rfl) rfl (lv_at hl 1 rfl) ?_
      refine lv_goto (tgt := 26) hx hb (dk kX3_fewest_ok 10 rfl) (by decide) ?_
      refine lv_istore_n (lv' := [(3, .int (nI w)), (0, .ref (ad k)), (1, .int (nI w)), (2, .int (bI g))]) hx hb (dk kX3_fewest_ok 14 rfl) rfl hl (by decide) rfl (fun ls hl => ?_)
      refine lv_aload_n hx hb (dk kX3_fewest_ok 15 rfl) rfl (lv_at hl 1 rfl) ?_
      refine gf hx hb hts (fun w h => List.mem_cons_of_mem _ (acX3 w h)) hown hK hP hk0 roSet_at.1 rfl 0 (by decide) (hts _ (List.mem_cons_of_mem _ (ac5 _ (List.mem_of_getElem? (i := 0) rfl)))) (fun _ h => h) rfl (dk kX3_fewest_ok 16 rfl) ?_
      refine lv_iload_n hx hb (dk kX3_fewest_ok 17 rfl) rfl (lv_at hl 0 rfl) ?_
      refine ald (j := w) hx hb hK hP hk1 roSet_at.2.1 rfl (by omega) (by decide) (dk kX3_fewest_ok 18 rfl) ?_
      refine lv_if_ne (tgt := 56) hx hb (dk kX3_fewest_ok 19 rfl) (by decide) (fun h5 => ?_) (fun h5 => ?_)
      · skip
        refine lv_aload_n hx hb (dk kX3_fewest_ok 32 rfl) rfl (lv_at hl 1 rfl) ?_
        refine gf hx hb hts (fun w h => List.mem_cons_of_mem _ (acX3 w h)) hown hK hP hk0 roSet_at.1 rfl 0 (by decide) (hts _ (List.mem_cons_of_mem _ (ac5 _ (List.mem_of_getElem? (i := 0) rfl)))) (fun _ h => h) rfl (dk kX3_fewest_ok 33 rfl) ?_
        refine lv_iload_n hx hb (dk kX3_fewest_ok 34 rfl) rfl (lv_at hl 0 rfl) ?_
        refine ald (j := w) hx hb hK hP hk1 roSet_at.2.1 rfl (by omega) (by decide) (dk kX3_fewest_ok 35 rfl) ?_
        exact hret _ _ _ _ _ _ _ _ rfl (by first | (exfalso; omega) | (simp only [few, dp, (eq_true h1), (eq_false (Nat.not_le.mpr h1)), h2, (eq_false h5), not_true_eq_false, not_false_eq_true, and_true, true_and, and_false, false_and, or_true, true_or, or_false, false_or, and_self, or_self, if_true, if_false, Bool.false_eq_true, reduceIte, upd]; first | done | exact ⟨rfl, rfl⟩)) hP hS (by decide) (by decide) (dk kX3_fewest_ok 36 rfl)
      · skip
        refine lv_aload_n hx hb (dk kX3_fewest_ok 20 rfl) rfl (lv_at hl 1 rfl) ?_
        refine gf hx hb hts (fun w h => List.mem_cons_of_mem _ (acX3 w h)) hown hK hP hk0 roSet_at.1 rfl 0 (by decide) (hts _ (List.mem_cons_of_mem _ (ac5 _ (List.mem_of_getElem? (i := 0) rfl)))) (fun _ h => h) rfl (dk kX3_fewest_ok 21 rfl) ?_
        refine lv_iload_n hx hb (dk kX3_fewest_ok 22 rfl) rfl (lv_at hl 0 rfl) ?_
        refine lv_aload_n hx hb (dk kX3_fewest_ok 23 rfl) rfl (lv_at hl 1 rfl) ?_
        refine lv_iload_n hx hb (dk kX3_fewest_ok 24 rfl) rfl (lv_at hl 2 rfl) ?_
        refine lv_iload_n hx hb (dk kX3_fewest_ok 25 rfl) rfl (lv_at hl 3 rfl) ?_
        refine b_if_eq (tgt := 51) hx hb (dk kX3_fewest_ok 26 rfl) (by decide) (fun h6 => ?_) (fun h6 => ?_)
        · exact absurd (h2.symm.trans h6) (by decide)
        · skip
          refine lv_iconst (v := nI 0) hx hb (dk kX3_fewest_ok 27 rfl) rfl ?_
          refine lv_goto (tgt := 52) hx hb (dk kX3_fewest_ok 28 rfl) (by decide) ?_
          refine cvD (As := [.int (nI w), .int (nI 0)]) (rest := [.int (nI w), .ref (ad (k + 1))]) (roSet cI ad F k a ((sea q w 0).2.1) ((sea q w 0).2.2)) ⟨hx, hb, hml, hown, hts⟩ (tX3_search l D cI cQ cL ad N (roSet cI ad F k a d q) k hk a d q (roSet_at) (nI w) w rfl (by omega) (nI 0) 0 rfl (by omega)) (cwV9 2 hts mcX3_search (ac5 _ (List.mem_of_getElem? (i := 18) rfl)) miX3_search meX3_search mini_RX3 rfl rfl hdX3_search ⟨Nat.le_of_ble_eq_true rfl, Nat.le_of_ble_eq_true rfl⟩) hDi hK hP hNW hS hk0 roSet_at.1 rfl rfl hl.1 rfl (Nat.le_of_ble_eq_true rfl) (by decide) (dk kX3_fewest_ok 30 rfl) roSet_roSet (fun H locs hP hS => ?_)
          refine ast (roSet cI ad F k (upd a w ((sea q w 0).1)) ((sea q w 0).2.1) ((sea q w 0).2.2)) (j := w) hx hb hK hDi hP hS hk1 roSet_at.2.1 rfl (by omega) (by decide) (dk kX3_fewest_ok 31 rfl) roSet_u1 (fun H locs hP hS => ?_)
          refine lv_aload_n hx hb (dk kX3_fewest_ok 32 rfl) rfl (lv_at hl 1 rfl) ?_
          refine gf hx hb hts (fun w h => List.mem_cons_of_mem _ (acX3 w h)) hown hK hP hk0 roSet_at.1 rfl 0 (by decide) (hts _ (List.mem_cons_of_mem _ (ac5 _ (List.mem_of_getElem? (i := 0) rfl)))) (fun _ h => h) rfl (dk kX3_fewest_ok 33 rfl) ?_
          refine lv_iload_n hx hb (dk kX3_fewest_ok 34 rfl) rfl (lv_at hl 0 rfl) ?_
          refine ald (j := w) hx hb hK hP hk1 roSet_at.2.1 rfl (by omega) (by decide) (dk kX3_fewest_ok 35 rfl) ?_
          exact hret _ _ _ _ _ _ _ _ rfl (by first | (exfalso; omega) | (simp only [few, dp, (eq_true h1), (eq_false (Nat.not_le.mpr h1)), h2, (eq_true h5), h6, not_true_eq_false, not_false_eq_true, and_true, true_and, and_false, false_and, or_true, true_or, or_false, false_or, and_self, or_self, if_true, if_false, Bool.false_eq_true, reduceIte, upd]; first | done | exact ⟨rfl, rfl⟩)) hP hS (by decide) (by decide) (dk kX3_fewest_ok 36 rfl)
  · skip
    refine lv_iconst (v := -1) hx hb (dk kX3_fewest_ok 5 rfl) rfl ?_
    exact hret _ _ _ _ _ _ _ _ rfl (by first | (exfalso; omega) | (simp only [few, dp, (eq_true h1), (eq_false (Nat.not_lt.mpr h1)), not_true_eq_false, not_false_eq_true, and_true, true_and, and_false, false_and, or_true, true_or, or_false, false_or, and_self, or_self, if_true, if_false, Bool.false_eq_true, reduceIte, upd]; first | done | exact ⟨rfl, rfl⟩)) hP hS (by decide) (by decide) (dk kX3_fewest_ok 6 rfl)
set_option maxRecDepth 100000 in
set_option maxHeartbeats 4000000 in
theorem tX2_save (l : Launch) (D : va_G) (cI cQ cL : ClassId) (ad : Nat → Nat) (N : Nat) (F : Nat → va_E) (k : Nat) (n m9 : Nat) (hn : n < 6) (hm9 : m9 ≤ 6) (hk : k + 1 < N) (hPa : paAt cQ ad F k n m9) (c b v g h j : Nat → Int32) (t : Nat) (u z : Int32) (hS0 : stAt cI ad F (k + 2 + 8 * n) c b v g h j (nI t) u z) (hks7 : k + 2 + 8 * n + 7 < N) (k2 : Nat) (hq : k2 + 7 < N) (c2 b2 v2 g2 h2 j2 : Nat → Int32) (t2 : Nat) (u2 z2 : Int32) (hS2 : stAt cI ad F k2 c2 b2 v2 g2 h2 j2 (nI t2) u2 z2) (hd : k2 + 7 < k ∨ k + 2 + 8 * 5 + 7 < k2) : MX l yX2_save (Cond.code yX2_save cX2_save 2 none :: AW) ({ frames := 3, cells := 0, slots := 0, locals := 60 } : Room) D cI cQ cL ad N F [.ref (ad k), .ref (ad k2)] (dp none (paSet cQ ad (sSet cI ad F (k + 2 + 8 * n) c2 b2 v2 g2 h2 j2 (nI t2) u2 z2) k ((n + 1) % 6) (min (m9 + 1) 6))) 0 0 := by
  refine mx_v (by decide +kernel) rfl (Nat.le_of_ble_eq_true rfl) (fun p e s m below meth cd Q ls hx hb hml hown hts hDi hP hK hNW hS hret hl => ?_)
  have hown : s.vm.findClass RX2 = some m.cls := hown
  have hk0 : k < N := by omega
  have hk1 : k + 1 < N := hk
  have hks : k + 2 + 8 * n < N := by omega
  have hq0 : k2 < N := by omega
  have hl : lv_has ls 2 [(0, .ref (ad k)), (1, .ref (ad k2))] := hl
  refine lv_aload_n hx hb (dk kX2_save_ok 0 rfl) rfl (lv_at hl 0 rfl) ?_
  refine gf hx hb hts (fun w h => List.mem_cons_of_mem _ (acX2 w h)) hown hK hP hk0 hPa.1 rfl 0 (by decide) (hts _ (List.mem_cons_of_mem _ (ac4 _ (List.mem_of_getElem? (i := 4) rfl)))) (fun _ h => h) rfl (dk kX2_save_ok 1 rfl) ?_
  refine lv_aload_n hx hb (dk kX2_save_ok 2 rfl) rfl (lv_at hl 0 rfl) ?_
  refine gf hx hb hts (fun w h => List.mem_cons_of_mem _ (acX2 w h)) hown hK hP hk0 hPa.1 rfl 1 (by decide) (hts _ (List.mem_cons_of_mem _ (ac4 _ (List.mem_of_getElem? (i := 5) rfl)))) (fun _ h => h) rfl (dk kX2_save_ok 3 rfl) ?_
  refine aldq hx hb hK hP hk1 hPa.2 (by omega) (by decide) rfl (dk kX2_save_ok 4 rfl) ?_
  refine lv_ifnull hx hb (dk kX2_save_ok 5 rfl) ?_
  refine lv_aload_n hx hb (dk kX2_save_ok 6 rfl) rfl (lv_at hl 0 rfl) ?_
  refine gf hx hb hts (fun w h => List.mem_cons_of_mem _ (acX2 w h)) hown hK hP hk0 hPa.1 rfl 0 (by decide) (hts _ (List.mem_cons_of_mem _ (ac4 _ (List.mem_of_getElem? (i := 4) rfl)))) (fun _ h => h) rfl (dk kX2_save_ok 7 rfl) ?_
  refine lv_aload_n hx hb (dk kX2_save_ok 8 rfl) rfl (lv_at hl 0 rfl) ?_
  refine gf hx hb hts (fun w h => List.mem_cons_of_mem _ (acX2 w h)) hown hK hP hk0 hPa.1 rfl 1 (by decide) (hts _ (List.mem_cons_of_mem _ (ac4 _ (List.mem_of_getElem? (i := 5) rfl)))) (fun _ h => h) rfl (dk kX2_save_ok 9 rfl) ?_
  refine aldq hx hb hK hP hk1 hPa.2 (by omega) (by decide) rfl (dk kX2_save_ok 10 rfl) ?_
  refine lv_aload_n hx hb (dk kX2_save_ok 11 rfl) rfl (lv_at hl 1 rfl) ?_
  refine cvDv (As := [.ref (ad k2)]) (rest := []) (paSet cQ ad (sSet cI ad F (k + 2 + 8 * n) c2 b2 v2 g2 h2 j2 (nI t2) u2 z2) k n m9) ⟨hx, hb, hml, hown, hts⟩ (tX4_copyFrom l D cI cQ cL ad N F (k + 2 + 8 * n) (by omega) c b v g h j t u z hS0 k2 hq c2 b2 v2 g2 h2 j2 t2 u2 z2 hS2 (by omega)) (cwV9 1 hts mcX4_copyFrom (ac4 _ (List.mem_of_getElem? (i := 19) rfl)) miX4_copyFrom meX4_copyFrom mini_RX4 rfl rfl hdX4_copyFrom ⟨Nat.le_of_ble_eq_true rfl, Nat.le_of_ble_eq_true rfl⟩) hDi hK hP hNW hS hks hS0.1 rfl rfl hl.1 rfl (Nat.le_of_ble_eq_true rfl) (by decide) (dk kX2_save_ok 12 rfl) (paSet_self (paAt_keep hPa (fun i _ _ => sSet_out (by omega)))).symm (fun H locs hP hS => ?_)
  refine lv_aload_n hx hb (dk kX2_save_ok 13 rfl) rfl (lv_at hl 0 rfl) ?_
  refine lv_aload_n hx hb (dk kX2_save_ok 14 rfl) rfl (lv_at hl 0 rfl) ?_
  refine gf hx hb hts (fun w h => List.mem_cons_of_mem _ (acX2 w h)) hown hK hP hk0 paSet_at.1 rfl 1 (by decide) (hts _ (List.mem_cons_of_mem _ (ac4 _ (List.mem_of_getElem? (i := 5) rfl)))) (fun _ h => h) rfl (dk kX2_save_ok 15 rfl) ?_
  refine lv_iconst (v := nI 1) hx hb (dk kX2_save_ok 16 rfl) rfl ?_
  refine n_iadd hx hb (dk kX2_save_ok 17 rfl) ?_
  refine lv_bipush (v := nI 6) hx hb (dk kX2_save_ok 18 rfl) rfl ?_
  refine n_irem hx hb (by omega) (by decide) (by decide) (dk kX2_save_ok 19 rfl) ?_
  refine pf (paSet cQ ad (sSet cI ad F (k + 2 + 8 * n) c2 b2 v2 g2 h2 j2 (nI t2) u2 z2) k ((n + 1) % 6) m9) hx hb hts (fun w h => List.mem_cons_of_mem _ (acX2 w h)) tyX2 tyX2_ok nmX2 hown hK hDi hP hS hk0 paSet_at.1 rfl 1 (by decide) (hts _ (List.mem_cons_of_mem _ (ac4 _ (List.mem_of_getElem? (i := 5) rfl)))) (fun _ h => h) rfl (ty := .int) rfl rfl rfl (Nat.le_of_ble_eq_true rfl) (dk kX2_save_ok 20 rfl) paSet_u0 (fun H locs hP hS => ?_)
  refine lv_aload_n hx hb (dk kX2_save_ok 21 rfl) rfl (lv_at hl 0 rfl) ?_
  refine lv_aload_n hx hb (dk kX2_save_ok 22 rfl) rfl (lv_at hl 0 rfl) ?_
  refine gf hx hb hts (fun w h => List.mem_cons_of_mem _ (acX2 w h)) hown hK hP hk0 paSet_at.1 rfl 2 (by decide) (hts _ (List.mem_cons_of_mem _ (ac4 _ (List.mem_of_getElem? (i := 6) rfl)))) (fun _ h => h) rfl (dk kX2_save_ok 23 rfl) ?_
  refine lv_iconst (v := nI 1) hx hb (dk kX2_save_ok 24 rfl) rfl ?_
  refine n_iadd hx hb (dk kX2_save_ok 25 rfl) ?_
  refine lv_bipush (v := nI 6) hx hb (dk kX2_save_ok 26 rfl) rfl ?_
  refine n_mmin (by omega) (by decide) hx hb (by rw [hml, hl.1]) hown (hts _ (List.mem_cons_of_mem _ (ac4 _ (List.mem_of_getElem? (i := 16) rfl)))) (hts _ (List.mem_cons_of_mem _ (ac4 _ (List.mem_of_getElem? (i := 17) rfl)))) (hts _ (List.mem_cons_of_mem _ (ac1 _ (List.mem_of_getElem? (i := 23) rfl)))) (hts _ (List.mem_cons_of_mem _ (ac4 _ (List.mem_of_getElem? (i := 18) rfl)))) (Nat.le_of_ble_eq_true rfl) (Nat.le_of_ble_eq_true rfl) (Nat.le_of_ble_eq_true rfl) (Nat.le_of_ble_eq_true rfl) (dk kX2_save_ok 27 rfl) ?_
  refine pf (paSet cQ ad (sSet cI ad F (k + 2 + 8 * n) c2 b2 v2 g2 h2 j2 (nI t2) u2 z2) k ((n + 1) % 6) (min (m9 + 1) 6)) hx hb hts (fun w h => List.mem_cons_of_mem _ (acX2 w h)) tyX2 tyX2_ok nmX2 hown hK hDi hP hS hk0 paSet_at.1 rfl 2 (by decide) (hts _ (List.mem_cons_of_mem _ (ac4 _ (List.mem_of_getElem? (i := 6) rfl)))) (fun _ h => h) rfl (ty := .int) rfl rfl rfl (Nat.le_of_ble_eq_true rfl) (dk kX2_save_ok 28 rfl) paSet_u0 (fun H locs hP hS => ?_)
  exact hret _ _ _ _ _ _ _ (by exact ⟨rfl, rfl⟩) hP hS (by decide) (by decide) (dk kX2_save_ok 29 rfl)
end
section
/-- a void static method of its arguments alone -/
def MPv (l : Launch) (y : MethodName) (ws : List Cond) (rm : Room) (args : List Value) : Prop :=
  Met l y ws rm (va_Pc args (fun _ => True)) (fun _ st o t => o = .returned none ∧ t.heap = st.heap) 0 0 (fun _ => False)
section MPV
variable {l : Launch} {y : MethodName} {ws ws' : List Cond} {rm : Room} {cc : ByteArray} {maxL : Nat} {args : List Value}
theorem mp_v (hy : plainName y.cls = true) (hw : ws = Cond.code y cc maxL none :: ws') (hlen : (lg_sl args).length ≤ maxL)
    (body : ∀ (p : Program) (e : Env) (s : State) (m : MethodId) (below : List Frame) (meth : Method) (c : Code) (Q : State → Prop) (ls : Array Slot),
      p.tables.exec = Jvm.exec → c.code = cc → c.maxLocals = maxL → s.vm.findClass y.cls = some m.cls → (∀ w ∈ ws, w.before args.toArray s = true) →
      (∀ (pc : Nat) (ls : Array Slot), decode cc pc = .ok (.return_, 1) → W p l e rm s m args.toArray below meth c s.heap [] 0 0 Q (F0 m pc ls [])) →
      lv_has ls maxL (lv_args 0 args) → W p l e rm s m args.toArray below meth c s.heap [] 0 0 Q (F0 m 0 ls [])) : MPv l y ws rm args := by
  refine Met.ofW (cc := cc) (maxL := maxL) (ret := none) hy hw ?_
  intro p e s m args9 below meth c s₁ B hml hv
  obtain ⟨rfl, -⟩ := hv
  have hl := lv_entry args (n := maxL) hlen
  rw [lg_entry_eq]
  exact body p e s m below meth c _ _ B.exec B.bytes hml (findClass_of_methodNamed B.named) (atoms_spec B.pre) (fun pc ls hd => W.vret B.exec B.bytes B.returns (fun t ht _ => ⟨rfl, ht⟩) (fun _ h => nomatch h) hd B.notSynchronized) hl
end MPV
section PVROWS
variable {p : Program} {l : Launch} {e : Env} {R : Room} {s : State} {m : MethodId} {args : Array Value} {below : List Frame} {meth : Method} {c : Code} {H : Heap} {locs : List Loc} {cells slots : Nat} {Q : State → Prop}
variable {cc : ByteArray} {pc : Nat} {ls : Array Slot} {rest st0 : List Value} {Ts : List Cond}
theorem csPv {nL index na : Nat} {own : String} {y : MethodName} {bytes : ByteArray} {maxL : Nat} {ret : Option FieldType} {ws : List Cond} {rm : Room} {As : List Value}
    (S : CallFix p m c cc nL s args Ts own) (hM : MPv l y ws rm As) (cw : CallB R s args own index y bytes maxL ret ws rm 0 0 na ∧ (Cond.static y).before args s = true)
    (hn : As.length = na) (hsize : ls.size = nL) (hstack : st0 = As.reverse ++ rest) (hW : (rest.map fun v => v.category).sum ≤ 8) (hf : cells + 0 ≤ R.cells ∧ slots + 0 ≤ R.slots) (hdg : decode cc pc = .ok (.invokestatic index, 3))
    (kk : W p l e R s m args below meth c H locs cells slots Q (F0 m (pc + 3) ls rest)) : W p l e R s m args below meth c H locs cells slots Q (F0 m pc ls st0) := by
  have hr := va_runS (g := F0 m pc ls st0) (p := p) (l := l) (e := e) (R := R) (m := m) (meth := meth) (below := below) (locs := locs) (cells := cells) (slots := slots) (H := H) S hM cw ⟨MP_blind, fun U hU hW => ⟨rfl, trivial⟩⟩ rfl hn hsize hstack (lv_room hW) hdg hf
  intro T hT X
  obtain ⟨v, st₀, t, T', L, h0, X', hL, e1, e2, ⟨hv, hh⟩, st⟩ := hr T hT X
  cases hv
  have hLn : L = [] := by
    cases L with
    | nil => rfl
    | cons a L => exact (hL a List.mem_cons_self).elim
  subst hLn
  rw [List.append_nil] at X'
  obtain ⟨t2, a1, b1⟩ := kk T' (by rw [e1, hh, h0]) X'
  exact ⟨t2, st t2 a1, b1⟩
end PVROWS
end
section
theorem lt78 (x : Int32) : (nI 7 < x) ↔ (nI 8 ≤ x) := by
  rw [Int32.lt_iff_toInt_lt, Int32.le_iff_toInt_le, nI_toInt (by decide), nI_toInt (by decide)]
  omega
theorem rng_ok {x a m : Int32} (h : btw x a m = true) : ¬ x < a ∧ ¬ m < x := by
  simpa only [btw, Bool.and_eq_true, Bool.not_eq_true', decide_eq_false_iff_not] using h
theorem rng_bad {x a m : Int32} (h1 : ¬ x < a) (h2 : ¬ m < x) : btw x a m = true := by
  simp only [btw, h1, h2, decide_false, Bool.not_false, Bool.and_self]
theorem dir_ok {x : Int32} (h : btw x (nI 0) (nI 7) = true) : ¬ x < 0 ∧ ¬ nI 8 ≤ x := ⟨(rng_ok h).1, fun q => (rng_ok h).2 ((lt78 x).mpr q)⟩
theorem dir_bad {x : Int32} (h1 : ¬ x < 0) (h2 : ¬ nI 8 ≤ x) : btw x (nI 0) (nI 7) = true := rng_bad h1 (fun q => h2 ((lt78 x).mp q))
theorem ff_tt {b : Bool} (h1 : b = false) (h2 : b = true) : False := by rw [h1] at h2; exact absurd h2 (by decide)
theorem btw_ne {y : Int32} {m j : Nat} (h : btw y (nI 0) (nI m) = false) (hj : j ≤ m) (hm : m < 2 ^ 31) (e : y = nI j) : False := by
  rw [e, btw_nI ⟨Nat.zero_le _, hj⟩ hm] at h
  exact absurd h (by decide)
theorem btw_all {y : Int32} {m : Nat} (hm : m < 2 ^ 31) (h : btw y (nI 0) (nI m) = true) (hn : ∀ j, j ≤ m → y ≠ nI j) : False := by
  obtain ⟨j, e, -, hj⟩ := btw_of (by decide) hm h
  exact hn j hj e
-- answers of the class
def cWink (c b v g : Nat → Int32) (t w : Nat) (k : Int32) : Int32 := if k = nI 0 then nI (w / 4) else if k = nI 1 then (if w % 4 < 2 then nI 1 else nI 0) else if k = nI 2 then c w else if k = nI 3 then pls c b w else if k = nI 4 then bI (cov v w) else if k = nI 5 then g w else nI (wnf c v t w)
def cPile (c b v : Nat → Int32) (q k : Int32) : Int32 := if k = nI 0 then nI (hgt c q) else if k = nI 1 then top c v q else if k = nI 2 then top c b q else msk (fun i => decide (c i = q)) 16
def cCol (c b v h j : Nat → Int32) (w : Nat) (k : Int32) : Int32 := if k = nI 0 then nI (potc c w) else if k = nI 1 then nI (covc v w) else if k = nI 2 then nI 4 - nI (potc c w) - nI (covc v w) else if k = nI 3 then nI (ptc c v w) else if k = nI 4 then h w else if k = nI 5 then j w else nI (cnt (oth v w) 16)
def cCnt (c b v g h : Nat → Int32) (t : Nat) (u z : Int32) (m9 : Nat) (k : Int32) : Int32 := if k = nI 0 then (if over c = true then -1 else nI t) else if k = nI 1 then (if over c = true then nI 1 else nI 0) else if k = nI 2 then nI (potn c) else if k = nI 3 then nI (sm (fun i => if bot c b i = true then hgt c (c i) - 1 else 0) 16) else if k = nI 4 then nI ((covc v 0 + covc v (0 + 2)) + (covc v 1 + covc v (1 + 2))) else if k = nI 5 then nI (cnt (bot c b) 16) else if k = nI 6 then mxi (bot c b) (fun i => nI (hgt c (c i))) 16 else if k = nI 7 then smi g 16 else if k = nI 8 then u else if k = nI 9 then smi h 4 else if k = nI 10 then nI (ptt c v 0) else if k = nI 11 then nI (ptt c v 1) else if k = nI 12 then z else nI m9
def cLan (c : Nat → Int32) (w : Nat) (d : Int32) (f : Nat) : Int32 := if pot c w = true then -2 else fans (ldg (c w) d (stp w f))
theorem cl4_nI {w : Nat} (h : w < 4) : cl4 (nI w) = true := by
  have h1 : ¬ nI w < 0 := nI_pos (by omega)
  have h2 : ¬ nI 4 ≤ nI w := fun q => absurd ((nI_leI (by decide) (by omega)).mp q) (by omega)
  simp [cl4, h1, h2]
theorem st_touch {D : va_G} {cl : List vw_C} {cI : ClassId} {ad : Nat → Nat} {N : Nat} {F : Nat → va_E} {H : Heap} {k : Nat} {c b v g h j : Nat → Int32} {t u z : Int32} (hS : stAt cI ad F k c b v g h j t u z) (hP : va_P D cl (iW ad N F) H) : va_P D cl (iW ad N (sSet cI ad F k c b v g h j t u z)) H := by
  rw [sSet_self hS]
  exact hP
theorem gt_touch {D : va_G} {cl : List vw_C} {cI : ClassId} {ad : Nat → Nat} {N : Nat} {F : Nat → va_E} {H : Heap} {k : Nat} {a : Nat → Int32} {n : Nat} (hT : gtAt cI ad F k a n) (hP : va_P D cl (iW ad N F) H) : va_P D cl (iW ad N (gtSet cI ad F k a n)) H := by
  rw [gtSet_self hT]
  exact hP
end
section
set_option maxRecDepth 100000 in
set_option maxHeartbeats 4000000 in
theorem tX5_requireWink_ok (l : Launch) (x : Int32) (hr1 : wk x = true) : MPv l yX5_requireWink (Cond.code yX5_requireWink cX5_requireWink 1 none :: AW) ({ frames := 6, cells := 0, slots := 0, locals := 82 } : Room) [.int x] := by
  refine mp_v (by decide +kernel) rfl (Nat.le_of_ble_eq_true rfl) (fun p e s m below meth cd Q ls hx hb hml hown hts hret hl => ?_)
  have hown : s.vm.findClass RX5 = some m.cls := hown
  have hl : lv_has ls 1 [(0, .int x)] := hl
  refine lv_iload_n hx hb (dk kX5_requireWink_ok 0 rfl) rfl (lv_at hl 0 rfl) ?_
  refine csP (As := [.int x]) (rest := []) ⟨hx, hb, hml, hown, hts⟩ (tX5_isWink l x) (cwS9 1 hts mcX5_isWink (ac8 _ (List.mem_of_getElem? (i := 12) rfl)) msX5_isWink mini_RX5 rfl rfl hdX5_isWink ⟨Nat.le_of_ble_eq_true rfl, Nat.le_of_ble_eq_true rfl⟩) rfl hl.1 rfl (Nat.le_of_ble_eq_true rfl) (by decide) (dk kX5_requireWink_ok 1 rfl) ?_
  refine b_if_ne (tgt := 18) hx hb (dk kX5_requireWink_ok 2 rfl) (by decide) (fun h1 => ?_) (fun h1 => ?_)
  · skip
    exact hret _ _ (dk kX5_requireWink_ok 8 rfl)
  · exact absurd (hr1.symm.trans h1) (by decide)
set_option maxRecDepth 100000 in
set_option maxHeartbeats 4000000 in
theorem tX5_requireCell_ok (l : Launch) (x y : Int32) (hr1 : on x y = true) : MPv l yX5_requireCell (Cond.code yX5_requireCell cX5_requireCell 2 none :: AW) ({ frames := 6, cells := 0, slots := 0, locals := 82 } : Room) [.int x, .int y] := by
  refine mp_v (by decide +kernel) rfl (Nat.le_of_ble_eq_true rfl) (fun p e s m below meth cd Q ls hx hb hml hown hts hret hl => ?_)
  have hown : s.vm.findClass RX5 = some m.cls := hown
  have hl : lv_has ls 2 [(0, .int x), (1, .int y)] := hl
  refine lv_iload_n hx hb (dk kX5_requireCell_ok 0 rfl) rfl (lv_at hl 0 rfl) ?_
  refine lv_iload_n hx hb (dk kX5_requireCell_ok 1 rfl) rfl (lv_at hl 1 rfl) ?_
  refine csP (As := [.int x, .int y]) (rest := []) ⟨hx, hb, hml, hown, hts⟩ (tX5_isOnMat l x y) (cwS9 2 hts mcX5_isOnMat (ac5 _ (List.mem_of_getElem? (i := 9) rfl)) msX5_isOnMat mini_RX5 rfl rfl hdX5_isOnMat ⟨Nat.le_of_ble_eq_true rfl, Nat.le_of_ble_eq_true rfl⟩) rfl hl.1 rfl (Nat.le_of_ble_eq_true rfl) (by decide) (dk kX5_requireCell_ok 2 rfl) ?_
  refine b_if_ne (tgt := 19) hx hb (dk kX5_requireCell_ok 3 rfl) (by decide) (fun h1 => ?_) (fun h1 => ?_)
  · skip
    exact hret _ _ (dk kX5_requireCell_ok 9 rfl)
  · exact absurd (hr1.symm.trans h1) (by decide)
set_option maxRecDepth 100000 in
set_option maxHeartbeats 4000000 in
theorem tX5_requireDirection_ok (l : Launch) (x : Int32) (hr1 : btw x (nI 0) (nI 7) = true) : MPv l yX5_requireDirection (Cond.code yX5_requireDirection cX5_requireDirection 1 none :: AW) ({ frames := 6, cells := 0, slots := 0, locals := 82 } : Room) [.int x] := by
  refine mp_v (by decide +kernel) rfl (Nat.le_of_ble_eq_true rfl) (fun p e s m below meth cd Q ls hx hb hml hown hts hret hl => ?_)
  have hown : s.vm.findClass RX5 = some m.cls := hown
  have hl : lv_has ls 1 [(0, .int x)] := hl
  refine lv_iload_n hx hb (dk kX5_requireDirection_ok 0 rfl) rfl (lv_at hl 0 rfl) ?_
  refine lv_if_lt (tgt := 10) hx hb (dk kX5_requireDirection_ok 1 rfl) (by decide) (fun h1 => ?_) (fun h1 => ?_)
  · exact absurd h1 (dir_ok hr1).1
  · skip
    refine lv_iload_n hx hb (dk kX5_requireDirection_ok 2 rfl) rfl (lv_at hl 0 rfl) ?_
    refine lv_bipush (v := nI 8) hx hb (dk kX5_requireDirection_ok 3 rfl) rfl ?_
    refine lv_icmp_lt (tgt := 21) hx hb (dk kX5_requireDirection_ok 4 rfl) (by decide) (fun h2 => ?_) (fun h2 => ?_)
    · skip
      exact hret _ _ (dk kX5_requireDirection_ok 10 rfl)
    · exact absurd (Int32.not_lt.mp h2) (dir_ok hr1).2
set_option maxRecDepth 100000 in
set_option maxHeartbeats 4000000 in
theorem tX5_requireFlight_ok (l : Launch) (x y : Int32) (hr1 : btw x (nI 0) (nI 7) = true) (hr2 : btw y (nI 1) (nI 9) = true) : MPv l yX5_requireFlight (Cond.code yX5_requireFlight cX5_requireFlight 2 none :: AW) ({ frames := 7, cells := 0, slots := 0, locals := 102 } : Room) [.int x, .int y] := by
  refine mp_v (by decide +kernel) rfl (Nat.le_of_ble_eq_true rfl) (fun p e s m below meth cd Q ls hx hb hml hown hts hret hl => ?_)
  have hown : s.vm.findClass RX5 = some m.cls := hown
  have hl : lv_has ls 2 [(0, .int x), (1, .int y)] := hl
  refine lv_iload_n hx hb (dk kX5_requireFlight_ok 0 rfl) rfl (lv_at hl 0 rfl) ?_
  refine csPv (As := [.int x]) (rest := []) ⟨hx, hb, hml, hown, hts⟩ (tX5_requireDirection_ok l x hr1) (cwS9 1 hts mcX5_requireDirection (ac8 _ (List.mem_of_getElem? (i := 15) rfl)) msX5_requireDirection mini_RX5 rfl rfl hdX5_requireDirection ⟨Nat.le_of_ble_eq_true rfl, Nat.le_of_ble_eq_true rfl⟩) rfl hl.1 rfl (Nat.le_of_ble_eq_true rfl) (by decide) (dk kX5_requireFlight_ok 1 rfl) ?_
  refine lv_iload_n hx hb (dk kX5_requireFlight_ok 2 rfl) rfl (lv_at hl 1 rfl) ?_
  refine lv_iconst (v := nI 1) hx hb (dk kX5_requireFlight_ok 3 rfl) rfl ?_
  refine lv_icmp_lt (tgt := 15) hx hb (dk kX5_requireFlight_ok 4 rfl) (by decide) (fun h1 => ?_) (fun h1 => ?_)
  · exact absurd h1 (rng_ok hr2).1
  · skip
    refine lv_iload_n hx hb (dk kX5_requireFlight_ok 5 rfl) rfl (lv_at hl 1 rfl) ?_
    refine lv_bipush (v := nI 9) hx hb (dk kX5_requireFlight_ok 6 rfl) rfl ?_
    refine lv_icmp_le (tgt := 26) hx hb (dk kX5_requireFlight_ok 7 rfl) (by decide) (fun h2 => ?_) (fun h2 => ?_)
    · skip
      exact hret _ _ (dk kX5_requireFlight_ok 13 rfl)
    · exact absurd (Int32.not_le.mp h2) (rng_ok hr2).2
set_option maxRecDepth 100000 in
set_option maxHeartbeats 4000000 in
theorem tX5_requireLift_ok (l : Launch) (x y : Int32) (hr2 : btw x (nI 1) (nI 6) = true) (hr1 : btw y (nI 0) (nI 7) = true) : MPv l yX5_requireLift (Cond.code yX5_requireLift cX5_requireLift 2 none :: AW) ({ frames := 7, cells := 0, slots := 0, locals := 102 } : Room) [.int x, .int y] := by
  refine mp_v (by decide +kernel) rfl (Nat.le_of_ble_eq_true rfl) (fun p e s m below meth cd Q ls hx hb hml hown hts hret hl => ?_)
  have hown : s.vm.findClass RX5 = some m.cls := hown
  have hl : lv_has ls 2 [(0, .int x), (1, .int y)] := hl
  refine lv_iload_n hx hb (dk kX5_requireLift_ok 0 rfl) rfl (lv_at hl 0 rfl) ?_
  refine lv_iconst (v := nI 1) hx hb (dk kX5_requireLift_ok 1 rfl) rfl ?_
  refine lv_icmp_lt (tgt := 11) hx hb (dk kX5_requireLift_ok 2 rfl) (by decide) (fun h1 => ?_) (fun h1 => ?_)
  · exact absurd h1 (rng_ok hr2).1
  · skip
    refine lv_iload_n hx hb (dk kX5_requireLift_ok 3 rfl) rfl (lv_at hl 0 rfl) ?_
    refine lv_bipush (v := nI 6) hx hb (dk kX5_requireLift_ok 4 rfl) rfl ?_
    refine lv_icmp_le (tgt := 22) hx hb (dk kX5_requireLift_ok 5 rfl) (by decide) (fun h2 => ?_) (fun h2 => ?_)
    · skip
      refine lv_iload_n hx hb (dk kX5_requireLift_ok 11 rfl) rfl (lv_at hl 1 rfl) ?_
      refine csPv (As := [.int y]) (rest := []) ⟨hx, hb, hml, hown, hts⟩ (tX5_requireDirection_ok l y hr1) (cwS9 1 hts mcX5_requireDirection (ac8 _ (List.mem_of_getElem? (i := 15) rfl)) msX5_requireDirection mini_RX5 rfl rfl hdX5_requireDirection ⟨Nat.le_of_ble_eq_true rfl, Nat.le_of_ble_eq_true rfl⟩) rfl hl.1 rfl (Nat.le_of_ble_eq_true rfl) (by decide) (dk kX5_requireLift_ok 12 rfl) ?_
      exact hret _ _ (dk kX5_requireLift_ok 13 rfl)
    · exact absurd (Int32.not_le.mp h2) (rng_ok hr2).2
end
section
set_option maxRecDepth 100000 in
set_option maxHeartbeats 4000000 in
theorem tX5_wink (l : Launch) (D : va_G) (cI cQ cL : ClassId) (ad : Nat → Nat) (N : Nat) (F : Nat → va_E) (hk : 76 < N) (c b v g h j : Nat → Int32) (t : Nat) (u z : Int32) (hN : stAt cI ad F 1 c b v g h j (nI t) u z) (c8 b8 v8 g8 h8 j8 : Nat → Int32) (t8 : Nat) (u8 z8 : Int32) (hSn : stAt cI ad F 9 c8 b8 v8 g8 h8 j8 (nI t8) u8 z8) (n9 m9 : Nat) (hn9 : n9 < 6) (hm9 : m9 ≤ 6) (hPa : paAt cQ ad F 17 n9 m9) (a : Nat → Int32) (n : Nat) (hn60 : n ≤ 60) (hT : gtAt cI ad F 67 a n) (c6 b6 v6 : Nat → Int32) (hM6 : matAt cI ad F 69 c6 b6 v6) (a7 d7 q7 : Nat → Int32) (hO : roAt cI ad F 73 a7 d7 q7) (hs : Bool) (hC : F 0 = .inr (5, [.ref (ad 1), .ref (ad 9), .ref (ad 17), .ref (ad 67), .ref (ad 69), .ref (ad 73), .int (bI hs)])) (ht : t < 4) (x : Int32) (w : Nat) (hxw : x = nI w) (hw : w < 16) (y : Int32) (hy9 : btw y (nI 0) (nI 6) = true) : MR l yX5_wink (Cond.code yX5_wink cX5_wink 3 (some .int) :: AW) ({ frames := 7, cells := 0, slots := 0, locals := 102 } : Room) D cI cQ cL ad N F [.ref (ad 0), .int x, .int y] (.int (cWink c b v g t w y)) := by
  refine mr_i (ty := .int) (by decide +kernel) rfl rfl rfl rfl (Nat.le_of_ble_eq_true rfl) (fun p e s m below meth cd Q ls hx hb hml hown hts hP hK hNW hret hl => ?_)
  have hown : s.vm.findClass RX5 = some m.cls := hown
  subst hxw
  have hz0 : 0 < N := by omega
  have hz1 : 1 < N := by omega
  have hz1___1 : 1 + 1 < N := by omega
  have hz1___1___1 : 1 + 1 + 1 < N := by omega
  have hz1___1___2 : 1 + 1 + 2 < N := by omega
  have hz1___1___3 : 1 + 1 + 3 < N := by omega
  have hz1___5 : 1 + 5 < N := by omega
  have hz1___6 : 1 + 6 < N := by omega
  have hz1___7 : 1 + 7 < N := by omega
  have hz9 : 9 < N := by omega
  have hz17 : 17 < N := by omega
  have hz17___1 : 17 + 1 < N := by omega
  have hz67 : 67 < N := by omega
  have hz67___1 : 67 + 1 < N := by omega
  have hz69 : 69 < N := by omega
  have hz69___1 : 69 + 1 < N := by omega
  have hz69___2 : 69 + 2 < N := by omega
  have hz69___3 : 69 + 3 < N := by omega
  have hz73 : 73 < N := by omega
  have hz1___1___3 : 1 + 1 + 3 < N := by omega
  have hz69___3 : 69 + 3 < N := by omega
  have hl : lv_has ls 3 [(0, .ref (ad 0)), (1, .int (nI w)), (2, .int y)] := hl
  refine lv_iload_n hx hb (dk kX5_wink_ok 0 rfl) rfl (lv_at hl 1 rfl) ?_
  refine csPv (As := [.int (nI w)]) (rest := []) ⟨hx, hb, hml, hown, hts⟩ (tX5_requireWink_ok l (nI w) (wk_nI hw)) (cwS9 1 hts mcX5_requireWink (ac8 _ (List.mem_of_getElem? (i := 20) rfl)) msX5_requireWink mini_RX5 rfl rfl hdX5_requireWink ⟨Nat.le_of_ble_eq_true rfl, Nat.le_of_ble_eq_true rfl⟩) rfl hl.1 rfl (Nat.le_of_ble_eq_true rfl) (by decide) (dk kX5_wink_ok 1 rfl) ?_
  refine lv_iload_n hx hb (dk kX5_wink_ok 2 rfl) rfl (lv_at hl 2 rfl) ?_
  rcases Classical.em (y = nI 0) with hs1 | hs1
  · skip
    refine sw_in (off := 43) (tgt := 48) 0 hx hb (dk kX5_wink_ok 3 rfl) hs1 rfl rfl rfl (by decide) ?_
    refine lv_iload_n hx hb (dk kX5_wink_ok 4 rfl) rfl (lv_at hl 1 rfl) ?_
    refine csP (As := [.int (nI w)]) (rest := []) ⟨hx, hb, hml, hown, hts⟩ (tX5_colourOf l (nI w) w rfl (by omega)) (cwS9 1 hts mcX5_colourOf (ac6 _ (List.mem_of_getElem? (i := 15) rfl)) msX5_colourOf mini_RX5 rfl rfl hdX5_colourOf ⟨Nat.le_of_ble_eq_true rfl, Nat.le_of_ble_eq_true rfl⟩) rfl hl.1 rfl (Nat.le_of_ble_eq_true rfl) (by decide) (dk kX5_wink_ok 5 rfl) ?_
    exact hret _ _ _ (by simp (config := { decide := true }) only [cWink, (eq_true hs1), bI_1, bI_00, not_true_eq_false, not_false_eq_true, and_true, true_and, and_false, false_and, or_true, true_or, or_false, false_or, and_self, or_self, if_true, if_false, Bool.false_eq_true, reduceIte]; first | done | rfl | (simp_all; done)) (dk kX5_wink_ok 6 rfl)
  rcases Classical.em (y = nI 1) with hs2 | hs2
  · skip
    refine sw_in (off := 48) (tgt := 53) 1 hx hb (dk kX5_wink_ok 3 rfl) hs2 rfl rfl rfl (by decide) ?_
    refine lv_iload_n hx hb (dk kX5_wink_ok 7 rfl) rfl (lv_at hl 1 rfl) ?_
    refine csP (As := [.int (nI w)]) (rest := []) ⟨hx, hb, hml, hown, hts⟩ (tX5_isLarge l (nI w) w rfl (by omega)) (cwS9 1 hts mcX5_isLarge (ac6 _ (List.mem_of_getElem? (i := 12) rfl)) msX5_isLarge mini_RX5 rfl rfl hdX5_isLarge ⟨Nat.le_of_ble_eq_true rfl, Nat.le_of_ble_eq_true rfl⟩) rfl hl.1 rfl (Nat.le_of_ble_eq_true rfl) (by decide) (dk kX5_wink_ok 8 rfl) ?_
    refine b_if_eq (tgt := 64) hx hb (dk kX5_wink_ok 9 rfl) (by decide) (fun h3 => ?_) (fun h3 => ?_)
    · replace h3 := of_decide_eq_false h3
      refine lv_iconst (v := nI 0) hx hb (dk kX5_wink_ok 12 rfl) rfl ?_
      exact hret _ _ _ (by simp (config := { decide := true }) only [cWink, (eq_false hs1), (eq_true hs2), (eq_false h3), bI_1, bI_00, not_true_eq_false, not_false_eq_true, and_true, true_and, and_false, false_and, or_true, true_or, or_false, false_or, and_self, or_self, if_true, if_false, Bool.false_eq_true, reduceIte]; first | done | rfl | (simp_all; done)) (dk kX5_wink_ok 13 rfl)
    · replace h3 := of_decide_eq_true h3
      refine lv_iconst (v := nI 1) hx hb (dk kX5_wink_ok 10 rfl) rfl ?_
      refine lv_goto (tgt := 65) hx hb (dk kX5_wink_ok 11 rfl) (by decide) ?_
      exact hret _ _ _ (by simp (config := { decide := true }) only [cWink, (eq_false hs1), (eq_true hs2), (eq_true h3), bI_1, bI_00, not_true_eq_false, not_false_eq_true, and_true, true_and, and_false, false_and, or_true, true_or, or_false, false_or, and_self, or_self, if_true, if_false, Bool.false_eq_true, reduceIte]; first | done | rfl | (simp_all; done)) (dk kX5_wink_ok 13 rfl)
  rcases Classical.em (y = nI 2) with hs4 | hs4
  · skip
    refine sw_in (off := 61) (tgt := 66) 2 hx hb (dk kX5_wink_ok 3 rfl) hs4 rfl rfl rfl (by decide) ?_
    refine lv_aload_n hx hb (dk kX5_wink_ok 14 rfl) rfl (lv_at hl 0 rfl) ?_
    refine gf hx hb hts (fun w h => List.mem_cons_of_mem _ (acX5 w h)) hown hK hP hz0 hC rfl 0 (by decide) (hts _ (List.mem_cons_of_mem _ (ac7 _ (List.mem_of_getElem? (i := 10) rfl)))) (fun _ h => h) rfl (dk kX5_wink_ok 15 rfl) ?_
    refine gfN hx hb hts (fun w h => List.mem_cons_of_mem _ (acX4 w h)) hown hK hP hz1 hN.1 rfl 0 (by decide) (nf2 hNW) (fun _ h => h) rfl (dk kX5_wink_ok 16 rfl) ?_
    refine gfN hx hb hts (fun w h => List.mem_cons_of_mem _ (acX1 w h)) hown hK hP hz1___1 hN.2.1.1 rfl 0 (by decide) (nf1 hNW) (fun _ h => h) rfl (dk kX5_wink_ok 17 rfl) ?_
    refine lv_iload_n hx hb (dk kX5_wink_ok 18 rfl) rfl (lv_at hl 1 rfl) ?_
    refine ald (j := w) hx hb hK hP hz1___1___1 hN.2.1.2.1 rfl (by omega) (by decide) (dk kX5_wink_ok 19 rfl) ?_
    exact hret _ _ _ (by simp (config := { decide := true }) only [cWink, (eq_false hs1), (eq_false hs2), (eq_true hs4), bI_1, bI_00, not_true_eq_false, not_false_eq_true, and_true, true_and, and_false, false_and, or_true, true_or, or_false, false_or, and_self, or_self, if_true, if_false, Bool.false_eq_true, reduceIte]; first | done | rfl | (simp_all; done)) (dk kX5_wink_ok 20 rfl)
  rcases Classical.em (y = nI 3) with hs5 | hs5
  · skip
    refine sw_in (off := 74) (tgt := 79) 3 hx hb (dk kX5_wink_ok 3 rfl) hs5 rfl rfl rfl (by decide) ?_
    refine lv_aload_n hx hb (dk kX5_wink_ok 21 rfl) rfl (lv_at hl 0 rfl) ?_
    refine gf hx hb hts (fun w h => List.mem_cons_of_mem _ (acX5 w h)) hown hK hP hz0 hC rfl 0 (by decide) (hts _ (List.mem_cons_of_mem _ (ac7 _ (List.mem_of_getElem? (i := 10) rfl)))) (fun _ h => h) rfl (dk kX5_wink_ok 22 rfl) ?_
    refine gfN hx hb hts (fun w h => List.mem_cons_of_mem _ (acX4 w h)) hown hK hP hz1 hN.1 rfl 0 (by decide) (nf2 hNW) (fun _ h => h) rfl (dk kX5_wink_ok 23 rfl) ?_
    refine lv_iload_n hx hb (dk kX5_wink_ok 24 rfl) rfl (lv_at hl 1 rfl) ?_
    refine cvR (As := [.int (nI w)]) (rest := []) ⟨hx, hb, hml, hown, hts⟩ (tX1_placeOf l D cI cQ cL ad N F (1 + 1) (by omega) c b v hN.2.1 (nI w) w rfl (by omega)) (cwV9 1 hts mcX1_placeOf (ac10 _ (List.mem_of_getElem? (i := 8) rfl)) miX1_placeOf meX1_placeOf mini_RX1 rfl rfl hdX1_placeOf ⟨Nat.le_of_ble_eq_true rfl, Nat.le_of_ble_eq_true rfl⟩) hK hP hNW hz1___1 hN.2.1.1 rfl rfl hl.1 rfl (Nat.le_of_ble_eq_true rfl) (by decide) (dk kX5_wink_ok 25 rfl) ?_
    exact hret _ _ _ (by simp (config := { decide := true }) only [cWink, (eq_false hs1), (eq_false hs2), (eq_false hs4), (eq_true hs5), bI_1, bI_00, not_true_eq_false, not_false_eq_true, and_true, true_and, and_false, false_and, or_true, true_or, or_false, false_or, and_self, or_self, if_true, if_false, Bool.false_eq_true, reduceIte]; first | done | rfl | (simp_all; done)) (dk kX5_wink_ok 26 rfl)
  rcases Classical.em (y = nI 4) with hs6 | hs6
  · skip
    refine sw_in (off := 86) (tgt := 91) 4 hx hb (dk kX5_wink_ok 3 rfl) hs6 rfl rfl rfl (by decide) ?_
    refine lv_aload_n hx hb (dk kX5_wink_ok 27 rfl) rfl (lv_at hl 0 rfl) ?_
    refine gf hx hb hts (fun w h => List.mem_cons_of_mem _ (acX5 w h)) hown hK hP hz0 hC rfl 0 (by decide) (hts _ (List.mem_cons_of_mem _ (ac7 _ (List.mem_of_getElem? (i := 10) rfl)))) (fun _ h => h) rfl (dk kX5_wink_ok 28 rfl) ?_
    refine gfN hx hb hts (fun w h => List.mem_cons_of_mem _ (acX4 w h)) hown hK hP hz1 hN.1 rfl 0 (by decide) (nf2 hNW) (fun _ h => h) rfl (dk kX5_wink_ok 29 rfl) ?_
    refine lv_iload_n hx hb (dk kX5_wink_ok 30 rfl) rfl (lv_at hl 1 rfl) ?_
    refine cvR (As := [.int (nI w)]) (rest := []) ⟨hx, hb, hml, hown, hts⟩ (tX1_isCovered l D cI cQ cL ad N F (1 + 1) (by omega) c b v hN.2.1 (nI w) w rfl (by omega)) (cwV9 1 hts mcX1_isCovered (ac10 _ (List.mem_of_getElem? (i := 6) rfl)) miX1_isCovered meX1_isCovered mini_RX1 rfl rfl hdX1_isCovered ⟨Nat.le_of_ble_eq_true rfl, Nat.le_of_ble_eq_true rfl⟩) hK hP hNW hz1___1 hN.2.1.1 rfl rfl hl.1 rfl (Nat.le_of_ble_eq_true rfl) (by decide) (dk kX5_wink_ok 31 rfl) ?_
    refine b_if_eq (tgt := 109) hx hb (dk kX5_wink_ok 32 rfl) (by decide) (fun h7 => ?_) (fun h7 => ?_)
    · skip
      refine lv_iconst (v := nI 0) hx hb (dk kX5_wink_ok 35 rfl) rfl ?_
      exact hret _ _ _ (by simp (config := { decide := true }) only [cWink, (eq_false hs1), (eq_false hs2), (eq_false hs4), (eq_false hs5), (eq_true hs6), h7, bI_1, bI_00, not_true_eq_false, not_false_eq_true, and_true, true_and, and_false, false_and, or_true, true_or, or_false, false_or, and_self, or_self, if_true, if_false, Bool.false_eq_true, reduceIte]; first | done | rfl | (simp_all; done)) (dk kX5_wink_ok 36 rfl)
    · skip
      refine lv_iconst (v := nI 1) hx hb (dk kX5_wink_ok 33 rfl) rfl ?_
      refine lv_goto (tgt := 110) hx hb (dk kX5_wink_ok 34 rfl) (by decide) ?_
      exact hret _ _ _ (by simp (config := { decide := true }) only [cWink, (eq_false hs1), (eq_false hs2), (eq_false hs4), (eq_false hs5), (eq_true hs6), h7, bI_1, bI_00, not_true_eq_false, not_false_eq_true, and_true, true_and, and_false, false_and, or_true, true_or, or_false, false_or, and_self, or_self, if_true, if_false, Bool.false_eq_true, reduceIte]; first | done | rfl | (simp_all; done)) (dk kX5_wink_ok 36 rfl)
  rcases Classical.em (y = nI 5) with hs8 | hs8
  · skip
    refine sw_in (off := 106) (tgt := 111) 5 hx hb (dk kX5_wink_ok 3 rfl) hs8 rfl rfl rfl (by decide) ?_
    refine lv_aload_n hx hb (dk kX5_wink_ok 37 rfl) rfl (lv_at hl 0 rfl) ?_
    refine gf hx hb hts (fun w h => List.mem_cons_of_mem _ (acX5 w h)) hown hK hP hz0 hC rfl 0 (by decide) (hts _ (List.mem_cons_of_mem _ (ac7 _ (List.mem_of_getElem? (i := 10) rfl)))) (fun _ h => h) rfl (dk kX5_wink_ok 38 rfl) ?_
    refine gfN hx hb hts (fun w h => List.mem_cons_of_mem _ (acX4 w h)) hown hK hP hz1 hN.1 rfl 1 (by decide) (nf3 hNW) (fun _ h => h) rfl (dk kX5_wink_ok 39 rfl) ?_
    refine lv_iload_n hx hb (dk kX5_wink_ok 40 rfl) rfl (lv_at hl 1 rfl) ?_
    refine ald (j := w) hx hb hK hP hz1___5 hN.2.2.1 rfl (by omega) (by decide) (dk kX5_wink_ok 41 rfl) ?_
    exact hret _ _ _ (by simp (config := { decide := true }) only [cWink, (eq_false hs1), (eq_false hs2), (eq_false hs4), (eq_false hs5), (eq_false hs6), (eq_true hs8), bI_1, bI_00, not_true_eq_false, not_false_eq_true, and_true, true_and, and_false, false_and, or_true, true_or, or_false, false_or, and_self, or_self, if_true, if_false, Bool.false_eq_true, reduceIte]; first | done | rfl | (simp_all; done)) (dk kX5_wink_ok 42 rfl)
  rcases Classical.em (y = nI 6) with hs9 | hs9
  · skip
    refine sw_in (off := 116) (tgt := 121) 6 hx hb (dk kX5_wink_ok 3 rfl) hs9 rfl rfl rfl (by decide) ?_
    refine lv_aload_n hx hb (dk kX5_wink_ok 43 rfl) rfl (lv_at hl 0 rfl) ?_
    refine gf hx hb hts (fun w h => List.mem_cons_of_mem _ (acX5 w h)) hown hK hP hz0 hC rfl 0 (by decide) (hts _ (List.mem_cons_of_mem _ (ac7 _ (List.mem_of_getElem? (i := 10) rfl)))) (fun _ h => h) rfl (dk kX5_wink_ok 44 rfl) ?_
    refine lv_iload_n hx hb (dk kX5_wink_ok 45 rfl) rfl (lv_at hl 1 rfl) ?_
    refine cvR (As := [.int (nI w)]) (rest := []) ⟨hx, hb, hml, hown, hts⟩ (tX4_whyNotFlown l D cI cQ cL ad N F 1 (by omega) c b v g h j t u z hN ht (nI w) w rfl (by omega)) (cwV9 1 hts mcX4_whyNotFlown (ac9 _ (List.mem_of_getElem? (i := 2) rfl)) miX4_whyNotFlown meX4_whyNotFlown mini_RX4 rfl rfl hdX4_whyNotFlown ⟨Nat.le_of_ble_eq_true rfl, Nat.le_of_ble_eq_true rfl⟩) hK hP hNW hz1 hN.1 rfl rfl hl.1 rfl (Nat.le_of_ble_eq_true rfl) (by decide) (dk kX5_wink_ok 46 rfl) ?_
    exact hret _ _ _ (by simp (config := { decide := true }) only [cWink, (eq_false hs1), (eq_false hs2), (eq_false hs4), (eq_false hs5), (eq_false hs6), (eq_false hs8), (eq_true hs9), bI_1, bI_00, not_true_eq_false, not_false_eq_true, and_true, true_and, and_false, false_and, or_true, true_or, or_false, false_or, and_self, or_self, if_true, if_false, Bool.false_eq_true, reduceIte]; first | done | rfl | (simp_all; done)) (dk kX5_wink_ok 47 rfl)
  refine lv_tableOut (tgt := 130) hx hb (dk kX5_wink_ok 3 rfl) (sw_out 7 (by intro k9 hk9; rcases k9 with _ | _ | _ | _ | _ | _ | _ | _ <;> first | assumption | omega)) (by decide) ?_
  exact (btw_all (m := 6) (by decide) hy9 (fun j9 hj9 e9 => by rcases (show j9 = 0 ∨ j9 = 1 ∨ j9 = 2 ∨ j9 = 3 ∨ j9 = 4 ∨ j9 = 5 ∨ j9 = 6 by omega) with rfl | rfl | rfl | rfl | rfl | rfl | rfl <;> contradiction)).elim
set_option maxRecDepth 100000 in
set_option maxHeartbeats 4000000 in
theorem tX5_pile (l : Launch) (D : va_G) (cI cQ cL : ClassId) (ad : Nat → Nat) (N : Nat) (F : Nat → va_E) (hk : 76 < N) (c b v g h j : Nat → Int32) (t : Nat) (u z : Int32) (hN : stAt cI ad F 1 c b v g h j (nI t) u z) (c8 b8 v8 g8 h8 j8 : Nat → Int32) (t8 : Nat) (u8 z8 : Int32) (hSn : stAt cI ad F 9 c8 b8 v8 g8 h8 j8 (nI t8) u8 z8) (n9 m9 : Nat) (hn9 : n9 < 6) (hm9 : m9 ≤ 6) (hPa : paAt cQ ad F 17 n9 m9) (a : Nat → Int32) (n : Nat) (hn60 : n ≤ 60) (hT : gtAt cI ad F 67 a n) (c6 b6 v6 : Nat → Int32) (hM6 : matAt cI ad F 69 c6 b6 v6) (a7 d7 q7 : Nat → Int32) (hO : roAt cI ad F 73 a7 d7 q7) (hs : Bool) (hC : F 0 = .inr (5, [.ref (ad 1), .ref (ad 9), .ref (ad 17), .ref (ad 67), .ref (ad 69), .ref (ad 73), .int (bI hs)])) (x y k9 : Int32) (hon : on x y = true) (hy9 : btw k9 (nI 0) (nI 3) = true) : MR l yX5_pile (Cond.code yX5_pile cX5_pile 5 (some .int) :: AW) ({ frames := 7, cells := 0, slots := 0, locals := 103 } : Room) D cI cQ cL ad N F [.ref (ad 0), .int x, .int y, .int k9] (.int (cPile c b v (cat x y) k9)) := by
  refine mr_i (ty := .int) (by decide +kernel) rfl rfl rfl rfl (Nat.le_of_ble_eq_true rfl) (fun p e s m below meth cd Q ls hx hb hml hown hts hP hK hNW hret hl => ?_)
  have hown : s.vm.findClass RX5 = some m.cls := hown
  have hz0 : 0 < N := by omega
  have hz1 : 1 < N := by omega
  have hz1___1 : 1 + 1 < N := by omega
  have hz1___1___1 : 1 + 1 + 1 < N := by omega
  have hz1___1___2 : 1 + 1 + 2 < N := by omega
  have hz1___1___3 : 1 + 1 + 3 < N := by omega
  have hz1___5 : 1 + 5 < N := by omega
  have hz1___6 : 1 + 6 < N := by omega
  have hz1___7 : 1 + 7 < N := by omega
  have hz9 : 9 < N := by omega
  have hz17 : 17 < N := by omega
  have hz17___1 : 17 + 1 < N := by omega
  have hz67 : 67 < N := by omega
  have hz67___1 : 67 + 1 < N := by omega
  have hz69 : 69 < N := by omega
  have hz69___1 : 69 + 1 < N := by omega
  have hz69___2 : 69 + 2 < N := by omega
  have hz69___3 : 69 + 3 < N := by omega
  have hz73 : 73 < N := by omega
  have hz1___1___3 : 1 + 1 + 3 < N := by omega
  have hz69___3 : 69 + 3 < N := by omega
  have hl : lv_has ls 5 [(0, .ref (ad 0)), (1, .int x), (2, .int y), (3, .int k9)] := hl
  refine lv_iload_n hx hb (dk kX5_pile_ok 0 rfl) rfl (lv_at hl 1 rfl) ?_
  refine lv_iload_n hx hb (dk kX5_pile_ok 1 rfl) rfl (lv_at hl 2 rfl) ?_
  refine csPv (As := [.int x, .int y]) (rest := []) ⟨hx, hb, hml, hown, hts⟩ (tX5_requireCell_ok l x y hon) (cwS9 2 hts mcX5_requireCell (ac9 _ (List.mem_of_getElem? (i := 14) rfl)) msX5_requireCell mini_RX5 rfl rfl hdX5_requireCell ⟨Nat.le_of_ble_eq_true rfl, Nat.le_of_ble_eq_true rfl⟩) rfl hl.1 rfl (Nat.le_of_ble_eq_true rfl) (by decide) (dk kX5_pile_ok 2 rfl) ?_
  refine lv_iload_n hx hb (dk kX5_pile_ok 3 rfl) rfl (lv_at hl 1 rfl) ?_
  refine lv_iload_n hx hb (dk kX5_pile_ok 4 rfl) rfl (lv_at hl 2 rfl) ?_
  refine csP (As := [.int x, .int y]) (rest := []) ⟨hx, hb, hml, hown, hts⟩ (tX5_cellAt l x y) (cwS9 2 hts mcX5_cellAt (ac0 _ (List.mem_of_getElem? (i := 6) rfl)) msX5_cellAt mini_RX5 rfl rfl hdX5_cellAt ⟨Nat.le_of_ble_eq_true rfl, Nat.le_of_ble_eq_true rfl⟩) rfl hl.1 rfl (Nat.le_of_ble_eq_true rfl) (by decide) (dk kX5_pile_ok 5 rfl) ?_
  refine lv_istore (lv' := [(4, .int (cat x y)), (0, .ref (ad 0)), (1, .int x), (2, .int y), (3, .int k9)]) hx hb (dk kX5_pile_ok 6 rfl) hl (by decide) rfl (fun ls hl => ?_)
  refine lv_iload_n hx hb (dk kX5_pile_ok 7 rfl) rfl (lv_at hl 4 rfl) ?_
  rcases Classical.em (k9 = nI 0) with hs1 | hs1
  · skip
    refine sw_in (off := 31) (tgt := 44) 0 hx hb (dk kX5_pile_ok 8 rfl) hs1 rfl rfl rfl (by decide) ?_
    refine lv_aload_n hx hb (dk kX5_pile_ok 9 rfl) rfl (lv_at hl 1 rfl) ?_
    refine gf hx hb hts (fun w h => List.mem_cons_of_mem _ (acX5 w h)) hown hK hP hz0 hC rfl 0 (by decide) (hts _ (List.mem_cons_of_mem _ (ac7 _ (List.mem_of_getElem? (i := 10) rfl)))) (fun _ h => h) rfl (dk kX5_pile_ok 10 rfl) ?_
    refine gfN hx hb hts (fun w h => List.mem_cons_of_mem _ (acX4 w h)) hown hK hP hz1 hN.1 rfl 0 (by decide) (nf2 hNW) (fun _ h => h) rfl (dk kX5_pile_ok 11 rfl) ?_
    refine lv_iload hx hb (dk kX5_pile_ok 12 rfl) (lv_at hl 0 rfl) ?_
    refine cvR (As := [.int (cat x y)]) (rest := []) ⟨hx, hb, hml, hown, hts⟩ (tX1_heightAt l D cI cQ cL ad N F (1 + 1) (by omega) c b v hN.2.1 (cat x y)) (cwV9 1 hts mcX1_heightAt (ac10 _ (List.mem_of_getElem? (i := 4) rfl)) miX1_heightAt meX1_heightAt mini_RX1 rfl rfl hdX1_heightAt ⟨Nat.le_of_ble_eq_true rfl, Nat.le_of_ble_eq_true rfl⟩) hK hP hNW hz1___1 hN.2.1.1 rfl rfl hl.1 rfl (Nat.le_of_ble_eq_true rfl) (by decide) (dk kX5_pile_ok 13 rfl) ?_
    exact hret _ _ _ (by simp (config := { decide := true }) only [cPile, (eq_true hs1), bI_1, bI_00, not_true_eq_false, not_false_eq_true, and_true, true_and, and_false, false_and, or_true, true_or, or_false, false_or, and_self, or_self, if_true, if_false, Bool.false_eq_true, reduceIte]; first | done | rfl | (simp_all; done)) (dk kX5_pile_ok 14 rfl)
  rcases Classical.em (k9 = nI 1) with hs2 | hs2
  · skip
    refine sw_in (off := 44) (tgt := 57) 1 hx hb (dk kX5_pile_ok 8 rfl) hs2 rfl rfl rfl (by decide) ?_
    refine lv_aload_n hx hb (dk kX5_pile_ok 15 rfl) rfl (lv_at hl 1 rfl) ?_
    refine gf hx hb hts (fun w h => List.mem_cons_of_mem _ (acX5 w h)) hown hK hP hz0 hC rfl 0 (by decide) (hts _ (List.mem_cons_of_mem _ (ac7 _ (List.mem_of_getElem? (i := 10) rfl)))) (fun _ h => h) rfl (dk kX5_pile_ok 16 rfl) ?_
    refine gfN hx hb hts (fun w h => List.mem_cons_of_mem _ (acX4 w h)) hown hK hP hz1 hN.1 rfl 0 (by decide) (nf2 hNW) (fun _ h => h) rfl (dk kX5_pile_ok 17 rfl) ?_
    refine lv_iload hx hb (dk kX5_pile_ok 18 rfl) (lv_at hl 0 rfl) ?_
    refine cvR (As := [.int (cat x y)]) (rest := []) ⟨hx, hb, hml, hown, hts⟩ (tX1_topAt l D cI cQ cL ad N F (1 + 1) (by omega) c b v hN.2.1 (cat x y)) (cwV9 1 hts mcX1_topAt (ac10 _ (List.mem_of_getElem? (i := 12) rfl)) miX1_topAt meX1_topAt mini_RX1 rfl rfl hdX1_topAt ⟨Nat.le_of_ble_eq_true rfl, Nat.le_of_ble_eq_true rfl⟩) hK hP hNW hz1___1 hN.2.1.1 rfl rfl hl.1 rfl (Nat.le_of_ble_eq_true rfl) (by decide) (dk kX5_pile_ok 19 rfl) ?_
    exact hret _ _ _ (by simp (config := { decide := true }) only [cPile, (eq_false hs1), (eq_true hs2), bI_1, bI_00, not_true_eq_false, not_false_eq_true, and_true, true_and, and_false, false_and, or_true, true_or, or_false, false_or, and_self, or_self, if_true, if_false, Bool.false_eq_true, reduceIte]; first | done | rfl | (simp_all; done)) (dk kX5_pile_ok 20 rfl)
  rcases Classical.em (k9 = nI 2) with hs3 | hs3
  · skip
    refine sw_in (off := 57) (tgt := 70) 2 hx hb (dk kX5_pile_ok 8 rfl) hs3 rfl rfl rfl (by decide) ?_
    refine lv_aload_n hx hb (dk kX5_pile_ok 21 rfl) rfl (lv_at hl 1 rfl) ?_
    refine gf hx hb hts (fun w h => List.mem_cons_of_mem _ (acX5 w h)) hown hK hP hz0 hC rfl 0 (by decide) (hts _ (List.mem_cons_of_mem _ (ac7 _ (List.mem_of_getElem? (i := 10) rfl)))) (fun _ h => h) rfl (dk kX5_pile_ok 22 rfl) ?_
    refine gfN hx hb hts (fun w h => List.mem_cons_of_mem _ (acX4 w h)) hown hK hP hz1 hN.1 rfl 0 (by decide) (nf2 hNW) (fun _ h => h) rfl (dk kX5_pile_ok 23 rfl) ?_
    refine lv_iload hx hb (dk kX5_pile_ok 24 rfl) (lv_at hl 0 rfl) ?_
    refine cvR (As := [.int (cat x y)]) (rest := []) ⟨hx, hb, hml, hown, hts⟩ (tX1_bottomAt l D cI cQ cL ad N F (1 + 1) (by omega) c b v hN.2.1 (cat x y)) (cwV9 1 hts mcX1_bottomAt (ac10 _ (List.mem_of_getElem? (i := 13) rfl)) miX1_bottomAt meX1_bottomAt mini_RX1 rfl rfl hdX1_bottomAt ⟨Nat.le_of_ble_eq_true rfl, Nat.le_of_ble_eq_true rfl⟩) hK hP hNW hz1___1 hN.2.1.1 rfl rfl hl.1 rfl (Nat.le_of_ble_eq_true rfl) (by decide) (dk kX5_pile_ok 25 rfl) ?_
    exact hret _ _ _ (by simp (config := { decide := true }) only [cPile, (eq_false hs1), (eq_false hs2), (eq_true hs3), bI_1, bI_00, not_true_eq_false, not_false_eq_true, and_true, true_and, and_false, false_and, or_true, true_or, or_false, false_or, and_self, or_self, if_true, if_false, Bool.false_eq_true, reduceIte]; first | done | rfl | (simp_all; done)) (dk kX5_pile_ok 26 rfl)
  rcases Classical.em (k9 = nI 3) with hs4 | hs4
  · skip
    refine sw_in (off := 70) (tgt := 83) 3 hx hb (dk kX5_pile_ok 8 rfl) hs4 rfl rfl rfl (by decide) ?_
    refine lv_aload_n hx hb (dk kX5_pile_ok 27 rfl) rfl (lv_at hl 1 rfl) ?_
    refine gf hx hb hts (fun w h => List.mem_cons_of_mem _ (acX5 w h)) hown hK hP hz0 hC rfl 0 (by decide) (hts _ (List.mem_cons_of_mem _ (ac7 _ (List.mem_of_getElem? (i := 10) rfl)))) (fun _ h => h) rfl (dk kX5_pile_ok 28 rfl) ?_
    refine gfN hx hb hts (fun w h => List.mem_cons_of_mem _ (acX4 w h)) hown hK hP hz1 hN.1 rfl 0 (by decide) (nf2 hNW) (fun _ h => h) rfl (dk kX5_pile_ok 29 rfl) ?_
    refine lv_iload hx hb (dk kX5_pile_ok 30 rfl) (lv_at hl 0 rfl) ?_
    refine cvR (As := [.int (cat x y)]) (rest := []) ⟨hx, hb, hml, hown, hts⟩ (tX1_coloursAt l D cI cQ cL ad N F (1 + 1) (by omega) c b v hN.2.1 (cat x y)) (cwV9 1 hts mcX1_coloursAt (ac10 _ (List.mem_of_getElem? (i := 17) rfl)) miX1_coloursAt meX1_coloursAt mini_RX1 rfl rfl hdX1_coloursAt ⟨Nat.le_of_ble_eq_true rfl, Nat.le_of_ble_eq_true rfl⟩) hK hP hNW hz1___1 hN.2.1.1 rfl rfl hl.1 rfl (Nat.le_of_ble_eq_true rfl) (by decide) (dk kX5_pile_ok 31 rfl) ?_
    exact hret _ _ _ (by simp (config := { decide := true }) only [cPile, (eq_false hs1), (eq_false hs2), (eq_false hs3), (eq_true hs4), bI_1, bI_00, not_true_eq_false, not_false_eq_true, and_true, true_and, and_false, false_and, or_true, true_or, or_false, false_or, and_self, or_self, if_true, if_false, Bool.false_eq_true, reduceIte]; first | done | rfl | (simp_all; done)) (dk kX5_pile_ok 32 rfl)
  refine lv_tableOut (tgt := 96) hx hb (dk kX5_pile_ok 8 rfl) (sw_out 4 (by intro k9 hk9; rcases k9 with _ | _ | _ | _ | _ <;> first | assumption | omega)) (by decide) ?_
  exact (btw_all (m := 3) (by decide) hy9 (fun j9 hj9 e9 => by rcases (show j9 = 0 ∨ j9 = 1 ∨ j9 = 2 ∨ j9 = 3 by omega) with rfl | rfl | rfl | rfl <;> contradiction)).elim
set_option maxRecDepth 100000 in
set_option maxHeartbeats 4000000 in
theorem tX5_colour (l : Launch) (D : va_G) (cI cQ cL : ClassId) (ad : Nat → Nat) (N : Nat) (F : Nat → va_E) (hk : 76 < N) (c b v g h j : Nat → Int32) (t : Nat) (u z : Int32) (hN : stAt cI ad F 1 c b v g h j (nI t) u z) (c8 b8 v8 g8 h8 j8 : Nat → Int32) (t8 : Nat) (u8 z8 : Int32) (hSn : stAt cI ad F 9 c8 b8 v8 g8 h8 j8 (nI t8) u8 z8) (n9 m9 : Nat) (hn9 : n9 < 6) (hm9 : m9 ≤ 6) (hPa : paAt cQ ad F 17 n9 m9) (a : Nat → Int32) (n : Nat) (hn60 : n ≤ 60) (hT : gtAt cI ad F 67 a n) (c6 b6 v6 : Nat → Int32) (hM6 : matAt cI ad F 69 c6 b6 v6) (a7 d7 q7 : Nat → Int32) (hO : roAt cI ad F 73 a7 d7 q7) (hs : Bool) (hC : F 0 = .inr (5, [.ref (ad 1), .ref (ad 9), .ref (ad 17), .ref (ad 67), .ref (ad 69), .ref (ad 73), .int (bI hs)])) (x : Int32) (w : Nat) (hxw : x = nI w) (hw : w < 4) (y : Int32) (hy9 : btw y (nI 0) (nI 6) = true) : MR l yX5_colour (Cond.code yX5_colour cX5_colour 3 (some .int) :: AW) ({ frames := 6, cells := 0, slots := 0, locals := 82 } : Room) D cI cQ cL ad N F [.ref (ad 0), .int x, .int y] (.int (cCol c b v h j w y)) := by
  refine mr_i (ty := .int) (by decide +kernel) rfl rfl rfl rfl (Nat.le_of_ble_eq_true rfl) (fun p e s m below meth cd Q ls hx hb hml hown hts hP hK hNW hret hl => ?_)
  have hown : s.vm.findClass RX5 = some m.cls := hown
  subst hxw
  have hz0 : 0 < N := by omega
  have hz1 : 1 < N := by omega
  have hz1___1 : 1 + 1 < N := by omega
  have hz1___1___1 : 1 + 1 + 1 < N := by omega
  have hz1___1___2 : 1 + 1 + 2 < N := by omega
  have hz1___1___3 : 1 + 1 + 3 < N := by omega
  have hz1___5 : 1 + 5 < N := by omega
  have hz1___6 : 1 + 6 < N := by omega
  have hz1___7 : 1 + 7 < N := by omega
  have hz9 : 9 < N := by omega
  have hz17 : 17 < N := by omega
  have hz17___1 : 17 + 1 < N := by omega
  have hz67 : 67 < N := by omega
  have hz67___1 : 67 + 1 < N := by omega
  have hz69 : 69 < N := by omega
  have hz69___1 : 69 + 1 < N := by omega
  have hz69___2 : 69 + 2 < N := by omega
  have hz69___3 : 69 + 3 < N := by omega
  have hz73 : 73 < N := by omega
  have hz1___1___3 : 1 + 1 + 3 < N := by omega
  have hz69___3 : 69 + 3 < N := by omega
  have hl : lv_has ls 3 [(0, .ref (ad 0)), (1, .int (nI w)), (2, .int y)] := hl
  refine lv_iload_n hx hb (dk kX5_colour_0_ok 0 rfl) rfl (lv_at hl 1 rfl) ?_
  refine csP (As := [.int (nI w)]) (rest := []) ⟨hx, hb, hml, hown, hts⟩ (tX5_isColour l (nI w)) (cwS9 1 hts mcX5_isColour (ac10 _ (List.mem_of_getElem? (i := 21) rfl)) msX5_isColour mini_RX5 rfl rfl hdX5_isColour ⟨Nat.le_of_ble_eq_true rfl, Nat.le_of_ble_eq_true rfl⟩) rfl hl.1 rfl (Nat.le_of_ble_eq_true rfl) (by decide) (dk kX5_colour_0_ok 1 rfl) ?_
  refine b_if_ne (tgt := 17) hx hb (dk kX5_colour_0_ok 2 rfl) (by decide) (fun h1 => ?_) (fun h1 => ?_)
  · skip
    refine lv_iload_n hx hb (dk kX5_colour_0_ok 8 rfl) rfl (lv_at hl 2 rfl) ?_
    rcases Classical.em (y = nI 0) with hs2 | hs2
    · skip
      refine sw_in (off := 42) (tgt := 60) 0 hx hb (dk kX5_colour_0_ok 9 rfl) hs2 rfl rfl rfl (by decide) ?_
      refine lv_aload_n hx hb (dk kX5_colour_0_ok 10 rfl) rfl (lv_at hl 0 rfl) ?_
      refine gf hx hb hts (fun w h => List.mem_cons_of_mem _ (acX5 w h)) hown hK hP hz0 hC rfl 0 (by decide) (hts _ (List.mem_cons_of_mem _ (ac7 _ (List.mem_of_getElem? (i := 10) rfl)))) (fun _ h => h) rfl (dk kX5_colour_0_ok 11 rfl) ?_
      refine gfN hx hb hts (fun w h => List.mem_cons_of_mem _ (acX4 w h)) hown hK hP hz1 hN.1 rfl 0 (by decide) (nf2 hNW) (fun _ h => h) rfl (dk kX5_colour_0_ok 12 rfl) ?_
      refine lv_iload_n hx hb (dk kX5_colour_0_ok 13 rfl) rfl (lv_at hl 1 rfl) ?_
      refine cvR (As := [.int (nI w)]) (rest := []) ⟨hx, hb, hml, hown, hts⟩ (tX1_pottedOf l D cI cQ cL ad N F (1 + 1) (by omega) c b v hN.2.1 (nI w) w rfl (by omega)) (cwV9 1 hts mcX1_pottedOf (ac11 _ (List.mem_of_getElem? (i := 0) rfl)) miX1_pottedOf meX1_pottedOf mini_RX1 rfl rfl hdX1_pottedOf ⟨Nat.le_of_ble_eq_true rfl, Nat.le_of_ble_eq_true rfl⟩) hK hP hNW hz1___1 hN.2.1.1 rfl rfl hl.1 rfl (Nat.le_of_ble_eq_true rfl) (by decide) (dk kX5_colour_0_ok 14 rfl) ?_
      exact hret _ _ _ (by simp (config := { decide := true }) only [cCol, h1, (eq_true hs2), bI_1, bI_00, not_true_eq_false, not_false_eq_true, and_true, true_and, and_false, false_and, or_true, true_or, or_false, false_or, and_self, or_self, if_true, if_false, Bool.false_eq_true, reduceIte]; first | done | rfl | (simp_all; done)) (dk kX5_colour_0_ok 15 rfl)
    rcases Classical.em (y = nI 1) with hs3 | hs3
    · skip
      refine sw_in (off := 54) (tgt := 72) 1 hx hb (dk kX5_colour_0_ok 9 rfl) hs3 rfl rfl rfl (by decide) ?_
      refine lv_aload_n hx hb (dk kX5_colour_0_ok 16 rfl) rfl (lv_at hl 0 rfl) ?_
      refine gf hx hb hts (fun w h => List.mem_cons_of_mem _ (acX5 w h)) hown hK hP hz0 hC rfl 0 (by decide) (hts _ (List.mem_cons_of_mem _ (ac7 _ (List.mem_of_getElem? (i := 10) rfl)))) (fun _ h => h) rfl (dk kX5_colour_0_ok 17 rfl) ?_
      refine gfN hx hb hts (fun w h => List.mem_cons_of_mem _ (acX4 w h)) hown hK hP hz1 hN.1 rfl 0 (by decide) (nf2 hNW) (fun _ h => h) rfl (dk kX5_colour_0_ok 18 rfl) ?_
      refine lv_iload_n hx hb (dk kX5_colour_0_ok 19 rfl) rfl (lv_at hl 1 rfl) ?_
      refine cvR (As := [.int (nI w)]) (rest := []) ⟨hx, hb, hml, hown, hts⟩ (tX1_coveredOf l D cI cQ cL ad N F (1 + 1) (by omega) c b v hN.2.1 (nI w) w rfl (by omega)) (cwV9 1 hts mcX1_coveredOf (ac11 _ (List.mem_of_getElem? (i := 1) rfl)) miX1_coveredOf meX1_coveredOf mini_RX1 rfl rfl hdX1_coveredOf ⟨Nat.le_of_ble_eq_true rfl, Nat.le_of_ble_eq_true rfl⟩) hK hP hNW hz1___1 hN.2.1.1 rfl rfl hl.1 rfl (Nat.le_of_ble_eq_true rfl) (by decide) (dk kX5_colour_0_ok 20 rfl) ?_
      exact hret _ _ _ (by simp (config := { decide := true }) only [cCol, h1, (eq_false hs2), (eq_true hs3), bI_1, bI_00, not_true_eq_false, not_false_eq_true, and_true, true_and, and_false, false_and, or_true, true_or, or_false, false_or, and_self, or_self, if_true, if_false, Bool.false_eq_true, reduceIte]; first | done | rfl | (simp_all; done)) (dk kX5_colour_0_ok 21 rfl)
    rcases Classical.em (y = nI 2) with hs4 | hs4
    · skip
      refine sw_in (off := 66) (tgt := 84) 2 hx hb (dk kX5_colour_0_ok 9 rfl) hs4 rfl rfl rfl (by decide) ?_
      refine lv_iconst (v := nI 4) hx hb (dk kX5_colour_0_ok 22 rfl) rfl ?_
      refine lv_aload_n hx hb (dk kX5_colour_0_ok 23 rfl) rfl (lv_at hl 0 rfl) ?_
      refine gf hx hb hts (fun w h => List.mem_cons_of_mem _ (acX5 w h)) hown hK hP hz0 hC rfl 0 (by decide) (hts _ (List.mem_cons_of_mem _ (ac7 _ (List.mem_of_getElem? (i := 10) rfl)))) (fun _ h => h) rfl (dk kX5_colour_0_ok 24 rfl) ?_
      refine gfN hx hb hts (fun w h => List.mem_cons_of_mem _ (acX4 w h)) hown hK hP hz1 hN.1 rfl 0 (by decide) (nf2 hNW) (fun _ h => h) rfl (dk kX5_colour_0_ok 25 rfl) ?_
      refine lv_iload_n hx hb (dk kX5_colour_0_ok 26 rfl) rfl (lv_at hl 1 rfl) ?_
      refine cvR (As := [.int (nI w)]) (rest := [.int (nI 4)]) ⟨hx, hb, hml, hown, hts⟩ (tX1_pottedOf l D cI cQ cL ad N F (1 + 1) (by omega) c b v hN.2.1 (nI w) w rfl (by omega)) (cwV9 1 hts mcX1_pottedOf (ac11 _ (List.mem_of_getElem? (i := 0) rfl)) miX1_pottedOf meX1_pottedOf mini_RX1 rfl rfl hdX1_pottedOf ⟨Nat.le_of_ble_eq_true rfl, Nat.le_of_ble_eq_true rfl⟩) hK hP hNW hz1___1 hN.2.1.1 rfl rfl hl.1 rfl (Nat.le_of_ble_eq_true rfl) (by decide) (dk kX5_colour_0_ok 27 rfl) ?_
      refine lv_isub hx hb (dk kX5_colour_0_ok 28 rfl) ?_
      refine lv_aload_n hx hb (dk kX5_colour_0_ok 29 rfl) rfl (lv_at hl 0 rfl) ?_
      refine gf hx hb hts (fun w h => List.mem_cons_of_mem _ (acX5 w h)) hown hK hP hz0 hC rfl 0 (by decide) (hts _ (List.mem_cons_of_mem _ (ac7 _ (List.mem_of_getElem? (i := 10) rfl)))) (fun _ h => h) rfl (dk kX5_colour_0_ok 30 rfl) ?_
      refine gfN hx hb hts (fun w h => List.mem_cons_of_mem _ (acX4 w h)) hown hK hP hz1 hN.1 rfl 0 (by decide) (nf2 hNW) (fun _ h => h) rfl (dk kX5_colour_0_ok 31 rfl) ?_
      refine lv_iload_n hx hb (dk kX5_colour_0_ok 32 rfl) rfl (lv_at hl 1 rfl) ?_
      refine cvR (As := [.int (nI w)]) (rest := [.int ((nI 4) - (nI (potc c w)))]) ⟨hx, hb, hml, hown, hts⟩ (tX1_coveredOf l D cI cQ cL ad N F (1 + 1) (by omega) c b v hN.2.1 (nI w) w rfl (by omega)) (cwV9 1 hts mcX1_coveredOf (ac11 _ (List.mem_of_getElem? (i := 1) rfl)) miX1_coveredOf meX1_coveredOf mini_RX1 rfl rfl hdX1_coveredOf ⟨Nat.le_of_ble_eq_true rfl, Nat.le_of_ble_eq_true rfl⟩) hK hP hNW hz1___1 hN.2.1.1 rfl rfl hl.1 rfl (Nat.le_of_ble_eq_true rfl) (by decide) (dk kX5_colour_0_ok 33 rfl) ?_
      refine lv_isub hx hb (dk kX5_colour_0_ok 34 rfl) ?_
      exact hret _ _ _ (by simp (config := { decide := true }) only [cCol, h1, (eq_false hs2), (eq_false hs3), (eq_true hs4), bI_1, bI_00, not_true_eq_false, not_false_eq_true, and_true, true_and, and_false, false_and, or_true, true_or, or_false, false_or, and_self, or_self, if_true, if_false, Bool.false_eq_true, reduceIte]; first | done | rfl | (simp_all; done)) (dk kX5_colour_0_ok 35 rfl)
    rcases Classical.em (y = nI 3) with hs5 | hs5
    · skip
      refine sw_in (off := 92) (tgt := 110) 3 hx hb (dk kX5_colour_0_ok 9 rfl) hs5 rfl rfl rfl (by decide) ?_
      refine lv_aload_n hx hb (dk kX5_colour_0_ok 36 rfl) rfl (lv_at hl 0 rfl) ?_
      refine gf hx hb hts (fun w h => List.mem_cons_of_mem _ (acX5 w h)) hown hK hP hz0 hC rfl 0 (by decide) (hts _ (List.mem_cons_of_mem _ (ac7 _ (List.mem_of_getElem? (i := 10) rfl)))) (fun _ h => h) rfl (dk kX5_colour_0_ok 37 rfl) ?_
      refine gfN hx hb hts (fun w h => List.mem_cons_of_mem _ (acX4 w h)) hown hK hP hz1 hN.1 rfl 0 (by decide) (nf2 hNW) (fun _ h => h) rfl (dk kX5_colour_0_ok 38 rfl) ?_
      refine lv_iload_n hx hb (dk kX5_colour_0_ok 39 rfl) rfl (lv_at hl 1 rfl) ?_
      refine cvR (As := [.int (nI w)]) (rest := []) ⟨hx, hb, hml, hown, hts⟩ (tX1_pointsOf l D cI cQ cL ad N F (1 + 1) (by omega) c b v hN.2.1 (nI w) w rfl (by omega)) (cwV9 1 hts mcX1_pointsOf (ac11 _ (List.mem_of_getElem? (i := 2) rfl)) miX1_pointsOf meX1_pointsOf mini_RX1 rfl rfl hdX1_pointsOf ⟨Nat.le_of_ble_eq_true rfl, Nat.le_of_ble_eq_true rfl⟩) hK hP hNW hz1___1 hN.2.1.1 rfl rfl hl.1 rfl (Nat.le_of_ble_eq_true rfl) (by decide) (dk kX5_colour_0_ok 40 rfl) ?_
      exact hret _ _ _ (by simp (config := { decide := true }) only [cCol, h1, (eq_false hs2), (eq_false hs3), (eq_false hs4), (eq_true hs5), bI_1, bI_00, not_true_eq_false, not_false_eq_true, and_true, true_and, and_false, false_and, or_true, true_or, or_false, false_or, and_self, or_self, if_true, if_false, Bool.false_eq_true, reduceIte]; first | done | rfl | (simp_all; done)) (dk kX5_colour_0_ok 41 rfl)
    rcases Classical.em (y = nI 4) with hs6 | hs6
    · skip
      refine sw_in (off := 104) (tgt := 122) 4 hx hb (dk kX5_colour_0_ok 9 rfl) hs6 rfl rfl rfl (by decide) ?_
      refine lv_aload_n hx hb (dk kX5_colour_0_ok 42 rfl) rfl (lv_at hl 0 rfl) ?_
      refine gf hx hb hts (fun w h => List.mem_cons_of_mem _ (acX5 w h)) hown hK hP hz0 hC rfl 0 (by decide) (hts _ (List.mem_cons_of_mem _ (ac7 _ (List.mem_of_getElem? (i := 10) rfl)))) (fun _ h => h) rfl (dk kX5_colour_0_ok 43 rfl) ?_
      refine gfN hx hb hts (fun w h => List.mem_cons_of_mem _ (acX4 w h)) hown hK hP hz1 hN.1 rfl 2 (by decide) (nf4 hNW) (fun _ h => h) rfl (dk kX5_colour_0_ok 44 rfl) ?_
      refine lv_iload_n hx hb (dk kX5_colour_0_ok 45 rfl) rfl (lv_at hl 1 rfl) ?_
      refine ald (j := w) hx hb hK hP hz1___6 hN.2.2.2.1 rfl (by omega) (by decide) (dk kX5_colour_0_ok 46 rfl) ?_
      exact hret _ _ _ (by simp (config := { decide := true }) only [cCol, h1, (eq_false hs2), (eq_false hs3), (eq_false hs4), (eq_false hs5), (eq_true hs6), bI_1, bI_00, not_true_eq_false, not_false_eq_true, and_true, true_and, and_false, false_and, or_true, true_or, or_false, false_or, and_self, or_self, if_true, if_false, Bool.false_eq_true, reduceIte]; first | done | rfl | (simp_all; done)) (dk kX5_colour_0_ok 47 rfl)
    rcases Classical.em (y = nI 5) with hs7 | hs7
    · skip
      refine sw_in (off := 114) (tgt := 132) 5 hx hb (dk kX5_colour_0_ok 9 rfl) hs7 rfl rfl rfl (by decide) ?_
      refine lv_aload_n hx hb (dk kX5_colour_0_ok 48 rfl) rfl (lv_at hl 0 rfl) ?_
      refine gf hx hb hts (fun w h => List.mem_cons_of_mem _ (acX5 w h)) hown hK hP hz0 hC rfl 0 (by decide) (hts _ (List.mem_cons_of_mem _ (ac7 _ (List.mem_of_getElem? (i := 10) rfl)))) (fun _ h => h) rfl (dk kX5_colour_0_ok 49 rfl) ?_
      refine gfN hx hb hts (fun w h => List.mem_cons_of_mem _ (acX4 w h)) hown hK hP hz1 hN.1 rfl 3 (by decide) (nf5 hNW) (fun _ h => h) rfl (dk kX5_colour_0_ok 50 rfl) ?_
      refine lv_iload_n hx hb (dk kX5_colour_0_ok 51 rfl) rfl (lv_at hl 1 rfl) ?_
      refine ald (j := w) hx hb hK hP hz1___7 hN.2.2.2.2 rfl (by omega) (by decide) (dk kX5_colour_0_ok 52 rfl) ?_
      exact hret _ _ _ (by simp (config := { decide := true }) only [cCol, h1, (eq_false hs2), (eq_false hs3), (eq_false hs4), (eq_false hs5), (eq_false hs6), (eq_true hs7), bI_1, bI_00, not_true_eq_false, not_false_eq_true, and_true, true_and, and_false, false_and, or_true, true_or, or_false, false_or, and_self, or_self, if_true, if_false, Bool.false_eq_true, reduceIte]; first | done | rfl | (simp_all; done)) (dk kX5_colour_0_ok 53 rfl)
    rcases Classical.em (y = nI 6) with hs8 | hs8
    · skip
      refine sw_in (off := 124) (tgt := 142) 6 hx hb (dk kX5_colour_0_ok 9 rfl) hs8 rfl rfl rfl (by decide) ?_
      refine lv_aload_n hx hb (dk kX5_colour_0_ok 54 rfl) rfl (lv_at hl 0 rfl) ?_
      refine gf hx hb hts (fun w h => List.mem_cons_of_mem _ (acX5 w h)) hown hK hP hz0 hC rfl 0 (by decide) (hts _ (List.mem_cons_of_mem _ (ac7 _ (List.mem_of_getElem? (i := 10) rfl)))) (fun _ h => h) rfl (dk kX5_colour_0_ok 55 rfl) ?_
      refine gfN hx hb hts (fun w h => List.mem_cons_of_mem _ (acX4 w h)) hown hK hP hz1 hN.1 rfl 0 (by decide) (nf2 hNW) (fun _ h => h) rfl (dk kX5_colour_0_ok 56 rfl) ?_
      refine lv_iload_n hx hb (dk kX5_colour_0_ok 57 rfl) rfl (lv_at hl 1 rfl) ?_
      refine cvR (As := [.int (nI w)]) (rest := []) ⟨hx, hb, hml, hown, hts⟩ (tX1_othersBelow l D cI cQ cL ad N F (1 + 1) (by omega) c b v hN.2.1 (nI w) w rfl (by omega)) (cwV9 1 hts mcX1_othersBelow (ac11 _ (List.mem_of_getElem? (i := 3) rfl)) miX1_othersBelow meX1_othersBelow mini_RX1 rfl rfl hdX1_othersBelow ⟨Nat.le_of_ble_eq_true rfl, Nat.le_of_ble_eq_true rfl⟩) hK hP hNW hz1___1 hN.2.1.1 rfl rfl hl.1 rfl (Nat.le_of_ble_eq_true rfl) (by decide) (dk kX5_colour_0_ok 58 rfl) ?_
      exact hret _ _ _ (by simp (config := { decide := true }) only [cCol, h1, (eq_false hs2), (eq_false hs3), (eq_false hs4), (eq_false hs5), (eq_false hs6), (eq_false hs7), (eq_true hs8), bI_1, bI_00, not_true_eq_false, not_false_eq_true, and_true, true_and, and_false, false_and, or_true, true_or, or_false, false_or, and_self, or_self, if_true, if_false, Bool.false_eq_true, reduceIte]; first | done | rfl | (simp_all; done)) (dk kX5_colour_0_ok 59 rfl)
    refine lv_tableOut (tgt := 154) hx hb (dk kX5_colour_0_ok 9 rfl) (sw_out 7 (by intro k9 hk9; rcases k9 with _ | _ | _ | _ | _ | _ | _ | _ <;> first | assumption | omega)) (by decide) ?_
    exact (btw_all (m := 6) (by decide) hy9 (fun j9 hj9 e9 => by rcases (show j9 = 0 ∨ j9 = 1 ∨ j9 = 2 ∨ j9 = 3 ∨ j9 = 4 ∨ j9 = 5 ∨ j9 = 6 by omega) with rfl | rfl | rfl | rfl | rfl | rfl | rfl <;> contradiction)).elim
  · exact absurd ((cl4_nI hw).symm.trans h1) (by decide)
set_option maxRecDepth 100000 in
set_option maxHeartbeats 4000000 in
theorem tX5_count (l : Launch) (D : va_G) (cI cQ cL : ClassId) (ad : Nat → Nat) (N : Nat) (F : Nat → va_E) (hk : 76 < N) (c b v g h j : Nat → Int32) (t : Nat) (u z : Int32) (hN : stAt cI ad F 1 c b v g h j (nI t) u z) (c8 b8 v8 g8 h8 j8 : Nat → Int32) (t8 : Nat) (u8 z8 : Int32) (hSn : stAt cI ad F 9 c8 b8 v8 g8 h8 j8 (nI t8) u8 z8) (n9 m9 : Nat) (hn9 : n9 < 6) (hm9 : m9 ≤ 6) (hPa : paAt cQ ad F 17 n9 m9) (a : Nat → Int32) (n : Nat) (hn60 : n ≤ 60) (hT : gtAt cI ad F 67 a n) (c6 b6 v6 : Nat → Int32) (hM6 : matAt cI ad F 69 c6 b6 v6) (a7 d7 q7 : Nat → Int32) (hO : roAt cI ad F 73 a7 d7 q7) (hs : Bool) (hC : F 0 = .inr (5, [.ref (ad 1), .ref (ad 9), .ref (ad 17), .ref (ad 67), .ref (ad 69), .ref (ad 73), .int (bI hs)])) (y : Int32) (hy9 : btw y (nI 0) (nI 13) = true) : MR l yX5_count (Cond.code yX5_count cX5_count 2 (some .int) :: AW) ({ frames := 6, cells := 0, slots := 0, locals := 87 } : Room) D cI cQ cL ad N F [.ref (ad 0), .int y] (.int (cCnt c b v g h t u z m9 y)) := by
  refine mr_i (ty := .int) (by decide +kernel) rfl rfl rfl rfl (Nat.le_of_ble_eq_true rfl) (fun p e s m below meth cd Q ls hx hb hml hown hts hP hK hNW hret hl => ?_)
  have hown : s.vm.findClass RX5 = some m.cls := hown
  have hz0 : 0 < N := by omega
  have hz1 : 1 < N := by omega
  have hz1___1 : 1 + 1 < N := by omega
  have hz1___1___1 : 1 + 1 + 1 < N := by omega
  have hz1___1___2 : 1 + 1 + 2 < N := by omega
  have hz1___1___3 : 1 + 1 + 3 < N := by omega
  have hz1___5 : 1 + 5 < N := by omega
  have hz1___6 : 1 + 6 < N := by omega
  have hz1___7 : 1 + 7 < N := by omega
  have hz9 : 9 < N := by omega
  have hz17 : 17 < N := by omega
  have hz17___1 : 17 + 1 < N := by omega
  have hz67 : 67 < N := by omega
  have hz67___1 : 67 + 1 < N := by omega
  have hz69 : 69 < N := by omega
  have hz69___1 : 69 + 1 < N := by omega
  have hz69___2 : 69 + 2 < N := by omega
  have hz69___3 : 69 + 3 < N := by omega
  have hz73 : 73 < N := by omega
  have hz1___1___3 : 1 + 1 + 3 < N := by omega
  have hz69___3 : 69 + 3 < N := by omega
  have hl : lv_has ls 2 [(0, .ref (ad 0)), (1, .int y)] := hl
  refine lv_iload_n hx hb (dk kX5_count_0_ok 0 rfl) rfl (lv_at hl 1 rfl) ?_
  rcases Classical.em (y = nI 0) with hs1 | hs1
  · skip
    refine sw_in (off := 71) (tgt := 72) 0 hx hb (dk kX5_count_0_ok 1 rfl) hs1 rfl rfl rfl (by decide) ?_
    refine lv_aload_n hx hb (dk kX5_count_0_ok 2 rfl) rfl (lv_at hl 0 rfl) ?_
    refine gf hx hb hts (fun w h => List.mem_cons_of_mem _ (acX5 w h)) hown hK hP hz0 hC rfl 0 (by decide) (hts _ (List.mem_cons_of_mem _ (ac7 _ (List.mem_of_getElem? (i := 10) rfl)))) (fun _ h => h) rfl (dk kX5_count_0_ok 3 rfl) ?_
    refine gfN hx hb hts (fun w h => List.mem_cons_of_mem _ (acX4 w h)) hown hK hP hz1 hN.1 rfl 0 (by decide) (nf2 hNW) (fun _ h => h) rfl (dk kX5_count_0_ok 4 rfl) ?_
    refine cvR (As := []) (rest := []) ⟨hx, hb, hml, hown, hts⟩ (tX1_isOver l D cI cQ cL ad N F (1 + 1) (by omega) c b v hN.2.1) (cwV9 0 hts mcX1_isOver (ac10 _ (List.mem_of_getElem? (i := 5) rfl)) miX1_isOver meX1_isOver mini_RX1 rfl rfl hdX1_isOver ⟨Nat.le_of_ble_eq_true rfl, Nat.le_of_ble_eq_true rfl⟩) hK hP hNW hz1___1 hN.2.1.1 rfl rfl hl.1 rfl (Nat.le_of_ble_eq_true rfl) (by decide) (dk kX5_count_0_ok 5 rfl) ?_
    refine b_if_eq (tgt := 89) hx hb (dk kX5_count_0_ok 6 rfl) (by decide) (fun h2 => ?_) (fun h2 => ?_)
    · skip
      refine lv_aload_n hx hb (dk kX5_count_0_ok 9 rfl) rfl (lv_at hl 0 rfl) ?_
      refine gf hx hb hts (fun w h => List.mem_cons_of_mem _ (acX5 w h)) hown hK hP hz0 hC rfl 0 (by decide) (hts _ (List.mem_cons_of_mem _ (ac7 _ (List.mem_of_getElem? (i := 10) rfl)))) (fun _ h => h) rfl (dk kX5_count_0_ok 10 rfl) ?_
      refine gfN hx hb hts (fun w h => List.mem_cons_of_mem _ (acX4 w h)) hown hK hP hz1 hN.1 rfl 4 (by decide) (nf6 hNW) (fun _ h => h) rfl (dk kX5_count_0_ok 11 rfl) ?_
      exact hret _ _ _ (by simp (config := { decide := true }) only [cCnt, (eq_true hs1), h2, bI_1, bI_00, not_true_eq_false, not_false_eq_true, and_true, true_and, and_false, false_and, or_true, true_or, or_false, false_or, and_self, or_self, if_true, if_false, Bool.false_eq_true, reduceIte]; first | done | rfl | (simp_all; done)) (dk kX5_count_0_ok 12 rfl)
    · skip
      refine lv_iconst (v := -1) hx hb (dk kX5_count_0_ok 7 rfl) rfl ?_
      refine lv_goto (tgt := 96) hx hb (dk kX5_count_0_ok 8 rfl) (by decide) ?_
      exact hret _ _ _ (by simp (config := { decide := true }) only [cCnt, (eq_true hs1), h2, bI_1, bI_00, not_true_eq_false, not_false_eq_true, and_true, true_and, and_false, false_and, or_true, true_or, or_false, false_or, and_self, or_self, if_true, if_false, Bool.false_eq_true, reduceIte]; first | done | rfl | (simp_all; done)) (dk kX5_count_0_ok 12 rfl)
  rcases Classical.em (y = nI 1) with hs3 | hs3
  · skip
    refine sw_in (off := 96) (tgt := 97) 1 hx hb (dk kX5_count_0_ok 1 rfl) hs3 rfl rfl rfl (by decide) ?_
    refine lv_aload_n hx hb (dk kX5_count_0_ok 13 rfl) rfl (lv_at hl 0 rfl) ?_
    refine gf hx hb hts (fun w h => List.mem_cons_of_mem _ (acX5 w h)) hown hK hP hz0 hC rfl 0 (by decide) (hts _ (List.mem_cons_of_mem _ (ac7 _ (List.mem_of_getElem? (i := 10) rfl)))) (fun _ h => h) rfl (dk kX5_count_0_ok 14 rfl) ?_
    refine gfN hx hb hts (fun w h => List.mem_cons_of_mem _ (acX4 w h)) hown hK hP hz1 hN.1 rfl 0 (by decide) (nf2 hNW) (fun _ h => h) rfl (dk kX5_count_0_ok 15 rfl) ?_
    refine cvR (As := []) (rest := []) ⟨hx, hb, hml, hown, hts⟩ (tX1_isOver l D cI cQ cL ad N F (1 + 1) (by omega) c b v hN.2.1) (cwV9 0 hts mcX1_isOver (ac10 _ (List.mem_of_getElem? (i := 5) rfl)) miX1_isOver meX1_isOver mini_RX1 rfl rfl hdX1_isOver ⟨Nat.le_of_ble_eq_true rfl, Nat.le_of_ble_eq_true rfl⟩) hK hP hNW hz1___1 hN.2.1.1 rfl rfl hl.1 rfl (Nat.le_of_ble_eq_true rfl) (by decide) (dk kX5_count_0_ok 16 rfl) ?_
    refine b_if_eq (tgt := 114) hx hb (dk kX5_count_0_ok 17 rfl) (by decide) (fun h4 => ?_) (fun h4 => ?_)
    · skip
      refine lv_iconst (v := nI 0) hx hb (dk kX5_count_0_ok 20 rfl) rfl ?_
      exact hret _ _ _ (by simp (config := { decide := true }) only [cCnt, (eq_false hs1), (eq_true hs3), h4, bI_1, bI_00, not_true_eq_false, not_false_eq_true, and_true, true_and, and_false, false_and, or_true, true_or, or_false, false_or, and_self, or_self, if_true, if_false, Bool.false_eq_true, reduceIte]; first | done | rfl | (simp_all; done)) (dk kX5_count_0_ok 21 rfl)
    · skip
      refine lv_iconst (v := nI 1) hx hb (dk kX5_count_0_ok 18 rfl) rfl ?_
      refine lv_goto (tgt := 115) hx hb (dk kX5_count_0_ok 19 rfl) (by decide) ?_
      exact hret _ _ _ (by simp (config := { decide := true }) only [cCnt, (eq_false hs1), (eq_true hs3), h4, bI_1, bI_00, not_true_eq_false, not_false_eq_true, and_true, true_and, and_false, false_and, or_true, true_or, or_false, false_or, and_self, or_self, if_true, if_false, Bool.false_eq_true, reduceIte]; first | done | rfl | (simp_all; done)) (dk kX5_count_0_ok 21 rfl)
  rcases Classical.em (y = nI 2) with hs5 | hs5
  · skip
    refine sw_in (off := 115) (tgt := 116) 2 hx hb (dk kX5_count_0_ok 1 rfl) hs5 rfl rfl rfl (by decide) ?_
    refine lv_aload_n hx hb (dk kX5_count_0_ok 22 rfl) rfl (lv_at hl 0 rfl) ?_
    refine gf hx hb hts (fun w h => List.mem_cons_of_mem _ (acX5 w h)) hown hK hP hz0 hC rfl 0 (by decide) (hts _ (List.mem_cons_of_mem _ (ac7 _ (List.mem_of_getElem? (i := 10) rfl)))) (fun _ h => h) rfl (dk kX5_count_0_ok 23 rfl) ?_
    refine gfN hx hb hts (fun w h => List.mem_cons_of_mem _ (acX4 w h)) hown hK hP hz1 hN.1 rfl 0 (by decide) (nf2 hNW) (fun _ h => h) rfl (dk kX5_count_0_ok 24 rfl) ?_
    refine cvR (As := []) (rest := []) ⟨hx, hb, hml, hown, hts⟩ (tX1_potted l D cI cQ cL ad N F (1 + 1) (by omega) c b v hN.2.1) (cwV9 0 hts mcX1_potted (ac11 _ (List.mem_of_getElem? (i := 7) rfl)) miX1_potted meX1_potted mini_RX1 rfl rfl hdX1_potted ⟨Nat.le_of_ble_eq_true rfl, Nat.le_of_ble_eq_true rfl⟩) hK hP hNW hz1___1 hN.2.1.1 rfl rfl hl.1 rfl (Nat.le_of_ble_eq_true rfl) (by decide) (dk kX5_count_0_ok 25 rfl) ?_
    exact hret _ _ _ (by simp (config := { decide := true }) only [cCnt, (eq_false hs1), (eq_false hs3), (eq_true hs5), bI_1, bI_00, not_true_eq_false, not_false_eq_true, and_true, true_and, and_false, false_and, or_true, true_or, or_false, false_or, and_self, or_self, if_true, if_false, Bool.false_eq_true, reduceIte]; first | done | rfl | (simp_all; done)) (dk kX5_count_0_ok 26 rfl)
  rcases Classical.em (y = nI 3) with hs6 | hs6
  · skip
    refine sw_in (off := 126) (tgt := 127) 3 hx hb (dk kX5_count_0_ok 1 rfl) hs6 rfl rfl rfl (by decide) ?_
    refine lv_aload_n hx hb (dk kX5_count_0_ok 27 rfl) rfl (lv_at hl 0 rfl) ?_
    refine gf hx hb hts (fun w h => List.mem_cons_of_mem _ (acX5 w h)) hown hK hP hz0 hC rfl 0 (by decide) (hts _ (List.mem_cons_of_mem _ (ac7 _ (List.mem_of_getElem? (i := 10) rfl)))) (fun _ h => h) rfl (dk kX5_count_0_ok 28 rfl) ?_
    refine gfN hx hb hts (fun w h => List.mem_cons_of_mem _ (acX4 w h)) hown hK hP hz1 hN.1 rfl 0 (by decide) (nf2 hNW) (fun _ h => h) rfl (dk kX5_count_0_ok 29 rfl) ?_
    refine cvR (As := []) (rest := []) ⟨hx, hb, hml, hown, hts⟩ (tX1_coveredByPiles l D cI cQ cL ad N F (1 + 1) (by omega) c b v hN.2.1) (cwV9 0 hts mcX1_coveredByPiles (ac11 _ (List.mem_of_getElem? (i := 11) rfl)) miX1_coveredByPiles meX1_coveredByPiles mini_RX1 rfl rfl hdX1_coveredByPiles ⟨Nat.le_of_ble_eq_true rfl, Nat.le_of_ble_eq_true rfl⟩) hK hP hNW hz1___1 hN.2.1.1 rfl rfl hl.1 rfl (Nat.le_of_ble_eq_true rfl) (by decide) (dk kX5_count_0_ok 30 rfl) ?_
    exact hret _ _ _ (by simp (config := { decide := true }) only [cCnt, (eq_false hs1), (eq_false hs3), (eq_false hs5), (eq_true hs6), bI_1, bI_00, not_true_eq_false, not_false_eq_true, and_true, true_and, and_false, false_and, or_true, true_or, or_false, false_or, and_self, or_self, if_true, if_false, Bool.false_eq_true, reduceIte]; first | done | rfl | (simp_all; done)) (dk kX5_count_0_ok 31 rfl)
  rcases Classical.em (y = nI 4) with hs7 | hs7
  · skip
    refine sw_in (off := 137) (tgt := 138) 4 hx hb (dk kX5_count_0_ok 1 rfl) hs7 rfl rfl rfl (by decide) ?_
    refine lv_aload_n hx hb (dk kX5_count_0_ok 32 rfl) rfl (lv_at hl 0 rfl) ?_
    refine gf hx hb hts (fun w h => List.mem_cons_of_mem _ (acX5 w h)) hown hK hP hz0 hC rfl 0 (by decide) (hts _ (List.mem_cons_of_mem _ (ac7 _ (List.mem_of_getElem? (i := 10) rfl)))) (fun _ h => h) rfl (dk kX5_count_0_ok 33 rfl) ?_
    refine gfN hx hb hts (fun w h => List.mem_cons_of_mem _ (acX4 w h)) hown hK hP hz1 hN.1 rfl 0 (by decide) (nf2 hNW) (fun _ h => h) rfl (dk kX5_count_0_ok 34 rfl) ?_
    refine cvR (As := []) (rest := []) ⟨hx, hb, hml, hown, hts⟩ (tX1_coveredByWinks l D cI cQ cL ad N F (1 + 1) (by omega) c b v hN.2.1) (cwV9 0 hts mcX1_coveredByWinks (ac11 _ (List.mem_of_getElem? (i := 15) rfl)) miX1_coveredByWinks meX1_coveredByWinks mini_RX1 rfl rfl hdX1_coveredByWinks ⟨Nat.le_of_ble_eq_true rfl, Nat.le_of_ble_eq_true rfl⟩) hK hP hNW hz1___1 hN.2.1.1 rfl rfl hl.1 rfl (Nat.le_of_ble_eq_true rfl) (by decide) (dk kX5_count_0_ok 35 rfl) ?_
    exact hret _ _ _ (by simp (config := { decide := true }) only [cCnt, (eq_false hs1), (eq_false hs3), (eq_false hs5), (eq_false hs6), (eq_true hs7), bI_1, bI_00, not_true_eq_false, not_false_eq_true, and_true, true_and, and_false, false_and, or_true, true_or, or_false, false_or, and_self, or_self, if_true, if_false, Bool.false_eq_true, reduceIte]; first | done | rfl | (simp_all; done)) (dk kX5_count_0_ok 36 rfl)
  rcases Classical.em (y = nI 5) with hs8 | hs8
  · skip
    refine sw_in (off := 148) (tgt := 149) 5 hx hb (dk kX5_count_0_ok 1 rfl) hs8 rfl rfl rfl (by decide) ?_
    refine lv_aload_n hx hb (dk kX5_count_0_ok 37 rfl) rfl (lv_at hl 0 rfl) ?_
    refine gf hx hb hts (fun w h => List.mem_cons_of_mem _ (acX5 w h)) hown hK hP hz0 hC rfl 0 (by decide) (hts _ (List.mem_cons_of_mem _ (ac7 _ (List.mem_of_getElem? (i := 10) rfl)))) (fun _ h => h) rfl (dk kX5_count_0_ok 38 rfl) ?_
    refine gfN hx hb hts (fun w h => List.mem_cons_of_mem _ (acX4 w h)) hown hK hP hz1 hN.1 rfl 0 (by decide) (nf2 hNW) (fun _ h => h) rfl (dk kX5_count_0_ok 39 rfl) ?_
    refine cvR (As := []) (rest := []) ⟨hx, hb, hml, hown, hts⟩ (tX1_piles l D cI cQ cL ad N F (1 + 1) (by omega) c b v hN.2.1) (cwV9 0 hts mcX1_piles (ac11 _ (List.mem_of_getElem? (i := 19) rfl)) miX1_piles meX1_piles mini_RX1 rfl rfl hdX1_piles ⟨Nat.le_of_ble_eq_true rfl, Nat.le_of_ble_eq_true rfl⟩) hK hP hNW hz1___1 hN.2.1.1 rfl rfl hl.1 rfl (Nat.le_of_ble_eq_true rfl) (by decide) (dk kX5_count_0_ok 40 rfl) ?_
    exact hret _ _ _ (by simp (config := { decide := true }) only [cCnt, (eq_false hs1), (eq_false hs3), (eq_false hs5), (eq_false hs6), (eq_false hs7), (eq_true hs8), bI_1, bI_00, not_true_eq_false, not_false_eq_true, and_true, true_and, and_false, false_and, or_true, true_or, or_false, false_or, and_self, or_self, if_true, if_false, Bool.false_eq_true, reduceIte]; first | done | rfl | (simp_all; done)) (dk kX5_count_0_ok 41 rfl)
  rcases Classical.em (y = nI 6) with hs9 | hs9
  · skip
    refine sw_in (off := 159) (tgt := 160) 6 hx hb (dk kX5_count_0_ok 1 rfl) hs9 rfl rfl rfl (by decide) ?_
    refine lv_aload_n hx hb (dk kX5_count_0_ok 42 rfl) rfl (lv_at hl 0 rfl) ?_
    refine gf hx hb hts (fun w h => List.mem_cons_of_mem _ (acX5 w h)) hown hK hP hz0 hC rfl 0 (by decide) (hts _ (List.mem_cons_of_mem _ (ac7 _ (List.mem_of_getElem? (i := 10) rfl)))) (fun _ h => h) rfl (dk kX5_count_0_ok 43 rfl) ?_
    refine gfN hx hb hts (fun w h => List.mem_cons_of_mem _ (acX4 w h)) hown hK hP hz1 hN.1 rfl 0 (by decide) (nf2 hNW) (fun _ h => h) rfl (dk kX5_count_0_ok 44 rfl) ?_
    refine cvR (As := []) (rest := []) ⟨hx, hb, hml, hown, hts⟩ (tX1_highest l D cI cQ cL ad N F (1 + 1) (by omega) c b v hN.2.1) (cwV9 0 hts mcX1_highest (ac11 _ (List.mem_of_getElem? (i := 23) rfl)) miX1_highest meX1_highest mini_RX1 rfl rfl hdX1_highest ⟨Nat.le_of_ble_eq_true rfl, Nat.le_of_ble_eq_true rfl⟩) hK hP hNW hz1___1 hN.2.1.1 rfl rfl hl.1 rfl (Nat.le_of_ble_eq_true rfl) (by decide) (dk kX5_count_0_ok 45 rfl) ?_
    exact hret _ _ _ (by simp (config := { decide := true }) only [cCnt, (eq_false hs1), (eq_false hs3), (eq_false hs5), (eq_false hs6), (eq_false hs7), (eq_false hs8), (eq_true hs9), bI_1, bI_00, not_true_eq_false, not_false_eq_true, and_true, true_and, and_false, false_and, or_true, true_or, or_false, false_or, and_self, or_self, if_true, if_false, Bool.false_eq_true, reduceIte]; first | done | rfl | (simp_all; done)) (dk kX5_count_0_ok 46 rfl)
  rcases Classical.em (y = nI 7) with hs10 | hs10
  · skip
    refine sw_in (off := 170) (tgt := 171) 7 hx hb (dk kX5_count_0_ok 1 rfl) hs10 rfl rfl rfl (by decide) ?_
    refine lv_aload_n hx hb (dk kX5_count_0_ok 47 rfl) rfl (lv_at hl 0 rfl) ?_
    refine gf hx hb hts (fun w h => List.mem_cons_of_mem _ (acX5 w h)) hown hK hP hz0 hC rfl 0 (by decide) (hts _ (List.mem_cons_of_mem _ (ac7 _ (List.mem_of_getElem? (i := 10) rfl)))) (fun _ h => h) rfl (dk kX5_count_0_ok 48 rfl) ?_
    refine cvR (As := []) (rest := []) ⟨hx, hb, hml, hown, hts⟩ (tX4_allFlights l D cI cQ cL ad N F 1 (by omega) c b v g h j t u z hN) (cwV9 0 hts mcX4_allFlights (ac12 _ (List.mem_of_getElem? (i := 3) rfl)) miX4_allFlights meX4_allFlights mini_RX4 rfl rfl hdX4_allFlights ⟨Nat.le_of_ble_eq_true rfl, Nat.le_of_ble_eq_true rfl⟩) hK hP hNW hz1 hN.1 rfl rfl hl.1 rfl (Nat.le_of_ble_eq_true rfl) (by decide) (dk kX5_count_0_ok 49 rfl) ?_
    exact hret _ _ _ (by simp (config := { decide := true }) only [cCnt, (eq_false hs1), (eq_false hs3), (eq_false hs5), (eq_false hs6), (eq_false hs7), (eq_false hs8), (eq_false hs9), (eq_true hs10), bI_1, bI_00, not_true_eq_false, not_false_eq_true, and_true, true_and, and_false, false_and, or_true, true_or, or_false, false_or, and_self, or_self, if_true, if_false, Bool.false_eq_true, reduceIte]; first | done | rfl | (simp_all; done)) (dk kX5_count_0_ok 50 rfl)
  rcases Classical.em (y = nI 8) with hs11 | hs11
  · skip
    refine sw_in (off := 178) (tgt := 179) 8 hx hb (dk kX5_count_0_ok 1 rfl) hs11 rfl rfl rfl (by decide) ?_
    refine lv_aload_n hx hb (dk kX5_count_0_ok 51 rfl) rfl (lv_at hl 0 rfl) ?_
    refine gf hx hb hts (fun w h => List.mem_cons_of_mem _ (acX5 w h)) hown hK hP hz0 hC rfl 0 (by decide) (hts _ (List.mem_cons_of_mem _ (ac7 _ (List.mem_of_getElem? (i := 10) rfl)))) (fun _ h => h) rfl (dk kX5_count_0_ok 52 rfl) ?_
    refine gfN hx hb hts (fun w h => List.mem_cons_of_mem _ (acX4 w h)) hown hK hP hz1 hN.1 rfl 5 (by decide) (nf7 hNW) (fun _ h => h) rfl (dk kX5_count_0_ok 53 rfl) ?_
    exact hret _ _ _ (by simp (config := { decide := true }) only [cCnt, (eq_false hs1), (eq_false hs3), (eq_false hs5), (eq_false hs6), (eq_false hs7), (eq_false hs8), (eq_false hs9), (eq_false hs10), (eq_true hs11), bI_1, bI_00, not_true_eq_false, not_false_eq_true, and_true, true_and, and_false, false_and, or_true, true_or, or_false, false_or, and_self, or_self, if_true, if_false, Bool.false_eq_true, reduceIte]; first | done | rfl | (simp_all; done)) (dk kX5_count_0_ok 54 rfl)
  rcases Classical.em (y = nI 9) with hs12 | hs12
  · skip
    refine sw_in (off := 186) (tgt := 187) 9 hx hb (dk kX5_count_0_ok 1 rfl) hs12 rfl rfl rfl (by decide) ?_
    refine lv_aload_n hx hb (dk kX5_count_0_ok 55 rfl) rfl (lv_at hl 0 rfl) ?_
    refine gf hx hb hts (fun w h => List.mem_cons_of_mem _ (acX5 w h)) hown hK hP hz0 hC rfl 0 (by decide) (hts _ (List.mem_cons_of_mem _ (ac7 _ (List.mem_of_getElem? (i := 10) rfl)))) (fun _ h => h) rfl (dk kX5_count_0_ok 56 rfl) ?_
    refine cvR (As := []) (rest := []) ⟨hx, hb, hml, hown, hts⟩ (tX4_allFouls l D cI cQ cL ad N F 1 (by omega) c b v g h j t u z hN) (cwV9 0 hts mcX4_allFouls (ac12 _ (List.mem_of_getElem? (i := 7) rfl)) miX4_allFouls meX4_allFouls mini_RX4 rfl rfl hdX4_allFouls ⟨Nat.le_of_ble_eq_true rfl, Nat.le_of_ble_eq_true rfl⟩) hK hP hNW hz1 hN.1 rfl rfl hl.1 rfl (Nat.le_of_ble_eq_true rfl) (by decide) (dk kX5_count_0_ok 57 rfl) ?_
    exact hret _ _ _ (by simp (config := { decide := true }) only [cCnt, (eq_false hs1), (eq_false hs3), (eq_false hs5), (eq_false hs6), (eq_false hs7), (eq_false hs8), (eq_false hs9), (eq_false hs10), (eq_false hs11), (eq_true hs12), bI_1, bI_00, not_true_eq_false, not_false_eq_true, and_true, true_and, and_false, false_and, or_true, true_or, or_false, false_or, and_self, or_self, if_true, if_false, Bool.false_eq_true, reduceIte]; first | done | rfl | (simp_all; done)) (dk kX5_count_0_ok 58 rfl)
  rcases Classical.em (y = nI 10) with hs13 | hs13
  · skip
    refine sw_in (off := 194) (tgt := 195) 10 hx hb (dk kX5_count_0_ok 1 rfl) hs13 rfl rfl rfl (by decide) ?_
    refine lv_aload_n hx hb (dk kX5_count_0_ok 59 rfl) rfl (lv_at hl 0 rfl) ?_
    refine gf hx hb hts (fun w h => List.mem_cons_of_mem _ (acX5 w h)) hown hK hP hz0 hC rfl 0 (by decide) (hts _ (List.mem_cons_of_mem _ (ac7 _ (List.mem_of_getElem? (i := 10) rfl)))) (fun _ h => h) rfl (dk kX5_count_1_ok 0 rfl) ?_
    refine gfN hx hb hts (fun w h => List.mem_cons_of_mem _ (acX4 w h)) hown hK hP hz1 hN.1 rfl 0 (by decide) (nf2 hNW) (fun _ h => h) rfl (dk kX5_count_1_ok 1 rfl) ?_
    refine lv_iconst (v := nI 0) hx hb (dk kX5_count_1_ok 2 rfl) rfl ?_
    refine cvR (As := [.int (nI 0)]) (rest := []) ⟨hx, hb, hml, hown, hts⟩ (tX1_pointsOfTeam l D cI cQ cL ad N F (1 + 1) (by omega) c b v hN.2.1 (nI 0) 0 rfl (by omega)) (cwV9 1 hts mcX1_pointsOfTeam (ac12 _ (List.mem_of_getElem? (i := 11) rfl)) miX1_pointsOfTeam meX1_pointsOfTeam mini_RX1 rfl rfl hdX1_pointsOfTeam ⟨Nat.le_of_ble_eq_true rfl, Nat.le_of_ble_eq_true rfl⟩) hK hP hNW hz1___1 hN.2.1.1 rfl rfl hl.1 rfl (Nat.le_of_ble_eq_true rfl) (by decide) (dk kX5_count_1_ok 3 rfl) ?_
    exact hret _ _ _ (by simp (config := { decide := true }) only [cCnt, (eq_false hs1), (eq_false hs3), (eq_false hs5), (eq_false hs6), (eq_false hs7), (eq_false hs8), (eq_false hs9), (eq_false hs10), (eq_false hs11), (eq_false hs12), (eq_true hs13), bI_1, bI_00, not_true_eq_false, not_false_eq_true, and_true, true_and, and_false, false_and, or_true, true_or, or_false, false_or, and_self, or_self, if_true, if_false, Bool.false_eq_true, reduceIte]; first | done | rfl | (simp_all; done)) (dk kX5_count_1_ok 4 rfl)
  rcases Classical.em (y = nI 11) with hs14 | hs14
  · skip
    refine sw_in (off := 206) (tgt := 207) 11 hx hb (dk kX5_count_0_ok 1 rfl) hs14 rfl rfl rfl (by decide) ?_
    refine lv_aload_n hx hb (dk kX5_count_1_ok 5 rfl) rfl (lv_at hl 0 rfl) ?_
    refine gf hx hb hts (fun w h => List.mem_cons_of_mem _ (acX5 w h)) hown hK hP hz0 hC rfl 0 (by decide) (hts _ (List.mem_cons_of_mem _ (ac7 _ (List.mem_of_getElem? (i := 10) rfl)))) (fun _ h => h) rfl (dk kX5_count_1_ok 6 rfl) ?_
    refine gfN hx hb hts (fun w h => List.mem_cons_of_mem _ (acX4 w h)) hown hK hP hz1 hN.1 rfl 0 (by decide) (nf2 hNW) (fun _ h => h) rfl (dk kX5_count_1_ok 7 rfl) ?_
    refine lv_iconst (v := nI 1) hx hb (dk kX5_count_1_ok 8 rfl) rfl ?_
    refine cvR (As := [.int (nI 1)]) (rest := []) ⟨hx, hb, hml, hown, hts⟩ (tX1_pointsOfTeam l D cI cQ cL ad N F (1 + 1) (by omega) c b v hN.2.1 (nI 1) 1 rfl (by omega)) (cwV9 1 hts mcX1_pointsOfTeam (ac12 _ (List.mem_of_getElem? (i := 11) rfl)) miX1_pointsOfTeam meX1_pointsOfTeam mini_RX1 rfl rfl hdX1_pointsOfTeam ⟨Nat.le_of_ble_eq_true rfl, Nat.le_of_ble_eq_true rfl⟩) hK hP hNW hz1___1 hN.2.1.1 rfl rfl hl.1 rfl (Nat.le_of_ble_eq_true rfl) (by decide) (dk kX5_count_1_ok 9 rfl) ?_
    exact hret _ _ _ (by simp (config := { decide := true }) only [cCnt, (eq_false hs1), (eq_false hs3), (eq_false hs5), (eq_false hs6), (eq_false hs7), (eq_false hs8), (eq_false hs9), (eq_false hs10), (eq_false hs11), (eq_false hs12), (eq_false hs13), (eq_true hs14), bI_1, bI_00, not_true_eq_false, not_false_eq_true, and_true, true_and, and_false, false_and, or_true, true_or, or_false, false_or, and_self, or_self, if_true, if_false, Bool.false_eq_true, reduceIte]; first | done | rfl | (simp_all; done)) (dk kX5_count_1_ok 10 rfl)
  rcases Classical.em (y = nI 12) with hs15 | hs15
  · skip
    refine sw_in (off := 218) (tgt := 219) 12 hx hb (dk kX5_count_0_ok 1 rfl) hs15 rfl rfl rfl (by decide) ?_
    refine lv_aload_n hx hb (dk kX5_count_1_ok 11 rfl) rfl (lv_at hl 0 rfl) ?_
    refine gf hx hb hts (fun w h => List.mem_cons_of_mem _ (acX5 w h)) hown hK hP hz0 hC rfl 0 (by decide) (hts _ (List.mem_cons_of_mem _ (ac7 _ (List.mem_of_getElem? (i := 10) rfl)))) (fun _ h => h) rfl (dk kX5_count_1_ok 12 rfl) ?_
    refine gfN hx hb hts (fun w h => List.mem_cons_of_mem _ (acX4 w h)) hown hK hP hz1 hN.1 rfl 6 (by decide) (nf8 hNW) (fun _ h => h) rfl (dk kX5_count_1_ok 13 rfl) ?_
    exact hret _ _ _ (by simp (config := { decide := true }) only [cCnt, (eq_false hs1), (eq_false hs3), (eq_false hs5), (eq_false hs6), (eq_false hs7), (eq_false hs8), (eq_false hs9), (eq_false hs10), (eq_false hs11), (eq_false hs12), (eq_false hs13), (eq_false hs14), (eq_true hs15), bI_1, bI_00, not_true_eq_false, not_false_eq_true, and_true, true_and, and_false, false_and, or_true, true_or, or_false, false_or, and_self, or_self, if_true, if_false, Bool.false_eq_true, reduceIte]; first | done | rfl | (simp_all; done)) (dk kX5_count_1_ok 14 rfl)
  rcases Classical.em (y = nI 13) with hs16 | hs16
  · skip
    refine sw_in (off := 226) (tgt := 227) 13 hx hb (dk kX5_count_0_ok 1 rfl) hs16 rfl rfl rfl (by decide) ?_
    refine lv_aload_n hx hb (dk kX5_count_1_ok 15 rfl) rfl (lv_at hl 0 rfl) ?_
    refine gf hx hb hts (fun w h => List.mem_cons_of_mem _ (acX5 w h)) hown hK hP hz0 hC rfl 2 (by decide) (hts _ (List.mem_cons_of_mem _ (ac7 _ (List.mem_of_getElem? (i := 15) rfl)))) (fun _ h => h) rfl (dk kX5_count_1_ok 16 rfl) ?_
    refine gfN hx hb hts (fun w h => List.mem_cons_of_mem _ (acX2 w h)) hown hK hP hz17 hPa.1 rfl 2 (by decide) (nf9 hNW) (fun _ h => h) rfl (dk kX5_count_1_ok 17 rfl) ?_
    exact hret _ _ _ (by simp (config := { decide := true }) only [cCnt, (eq_false hs1), (eq_false hs3), (eq_false hs5), (eq_false hs6), (eq_false hs7), (eq_false hs8), (eq_false hs9), (eq_false hs10), (eq_false hs11), (eq_false hs12), (eq_false hs13), (eq_false hs14), (eq_false hs15), (eq_true hs16), bI_1, bI_00, not_true_eq_false, not_false_eq_true, and_true, true_and, and_false, false_and, or_true, true_or, or_false, false_or, and_self, or_self, if_true, if_false, Bool.false_eq_true, reduceIte]; first | done | rfl | (simp_all; done)) (dk kX5_count_1_ok 18 rfl)
  refine lv_tableOut (tgt := 235) hx hb (dk kX5_count_0_ok 1 rfl) (sw_out 14 (by intro k9 hk9; rcases k9 with _ | _ | _ | _ | _ | _ | _ | _ | _ | _ | _ | _ | _ | _ | _ <;> first | assumption | omega)) (by decide) ?_
  exact (btw_all (m := 13) (by decide) hy9 (fun j9 hj9 e9 => by rcases (show j9 = 0 ∨ j9 = 1 ∨ j9 = 2 ∨ j9 = 3 ∨ j9 = 4 ∨ j9 = 5 ∨ j9 = 6 ∨ j9 = 7 ∨ j9 = 8 ∨ j9 = 9 ∨ j9 = 10 ∨ j9 = 11 ∨ j9 = 12 ∨ j9 = 13 by omega) with rfl | rfl | rfl | rfl | rfl | rfl | rfl | rfl | rfl | rfl | rfl | rfl | rfl | rfl <;> contradiction)).elim
set_option maxRecDepth 100000 in
set_option maxHeartbeats 4000000 in
theorem tX5_why (l : Launch) (D : va_G) (cI cQ cL : ClassId) (ad : Nat → Nat) (N : Nat) (F : Nat → va_E) (hk : 76 < N) (c b v g h j : Nat → Int32) (t : Nat) (u z : Int32) (hN : stAt cI ad F 1 c b v g h j (nI t) u z) (c8 b8 v8 g8 h8 j8 : Nat → Int32) (t8 : Nat) (u8 z8 : Int32) (hSn : stAt cI ad F 9 c8 b8 v8 g8 h8 j8 (nI t8) u8 z8) (n9 m9 : Nat) (hn9 : n9 < 6) (hm9 : m9 ≤ 6) (hPa : paAt cQ ad F 17 n9 m9) (a : Nat → Int32) (n : Nat) (hn60 : n ≤ 60) (hT : gtAt cI ad F 67 a n) (c6 b6 v6 : Nat → Int32) (hM6 : matAt cI ad F 69 c6 b6 v6) (a7 d7 q7 : Nat → Int32) (hO : roAt cI ad F 73 a7 d7 q7) (hs : Bool) (hC : F 0 = .inr (5, [.ref (ad 1), .ref (ad 9), .ref (ad 17), .ref (ad 67), .ref (ad 69), .ref (ad 73), .int (bI hs)])) (x y k9 : Int32) (f : Nat) (hkf : k9 = nI f) (hf : 1 ≤ f ∧ f ≤ 6) (d : Int32) (hd9 : btw d (nI 0) (nI 7) = true) (hon : on x y = true) : MR l yX5_why (Cond.code yX5_why cX5_why 5 (some .int) :: AW) ({ frames := 8, cells := 0, slots := 0, locals := 123 } : Room) D cI cQ cL ad N F [.ref (ad 0), .int x, .int y, .int k9, .int d] (.int (nI (wnl c b v t z x y f d))) := by
  refine mr_i (ty := .int) (by decide +kernel) rfl rfl rfl rfl (Nat.le_of_ble_eq_true rfl) (fun p e s m below meth cd Q ls hx hb hml hown hts hP hK hNW hret hl => ?_)
  have hown : s.vm.findClass RX5 = some m.cls := hown
  subst hkf
  have hz0 : 0 < N := by omega
  have hz1 : 1 < N := by omega
  have hz1___1 : 1 + 1 < N := by omega
  have hz1___1___1 : 1 + 1 + 1 < N := by omega
  have hz1___1___2 : 1 + 1 + 2 < N := by omega
  have hz1___1___3 : 1 + 1 + 3 < N := by omega
  have hz1___5 : 1 + 5 < N := by omega
  have hz1___6 : 1 + 6 < N := by omega
  have hz1___7 : 1 + 7 < N := by omega
  have hz9 : 9 < N := by omega
  have hz17 : 17 < N := by omega
  have hz17___1 : 17 + 1 < N := by omega
  have hz67 : 67 < N := by omega
  have hz67___1 : 67 + 1 < N := by omega
  have hz69 : 69 < N := by omega
  have hz69___1 : 69 + 1 < N := by omega
  have hz69___2 : 69 + 2 < N := by omega
  have hz69___3 : 69 + 3 < N := by omega
  have hz73 : 73 < N := by omega
  have hz1___1___3 : 1 + 1 + 3 < N := by omega
  have hz69___3 : 69 + 3 < N := by omega
  have hl : lv_has ls 5 [(0, .ref (ad 0)), (1, .int x), (2, .int y), (3, .int (nI f)), (4, .int d)] := hl
  refine lv_iload_n hx hb (dk kX5_why_ok 0 rfl) rfl (lv_at hl 1 rfl) ?_
  refine lv_iload_n hx hb (dk kX5_why_ok 1 rfl) rfl (lv_at hl 2 rfl) ?_
  refine csPv (As := [.int x, .int y]) (rest := []) ⟨hx, hb, hml, hown, hts⟩ (tX5_requireCell_ok l x y hon) (cwS9 2 hts mcX5_requireCell (ac9 _ (List.mem_of_getElem? (i := 14) rfl)) msX5_requireCell mini_RX5 rfl rfl hdX5_requireCell ⟨Nat.le_of_ble_eq_true rfl, Nat.le_of_ble_eq_true rfl⟩) rfl hl.1 rfl (Nat.le_of_ble_eq_true rfl) (by decide) (dk kX5_why_ok 2 rfl) ?_
  refine lv_iload_n hx hb (dk kX5_why_ok 3 rfl) rfl (lv_at hl 3 rfl) ?_
  refine lv_iload hx hb (dk kX5_why_ok 4 rfl) (lv_at hl 4 rfl) ?_
  refine csPv (As := [.int (nI f), .int d]) (rest := []) ⟨hx, hb, hml, hown, hts⟩ (tX5_requireLift_ok l (nI f) d (btw_nI hf) hd9) (cwS9 2 hts mcX5_requireLift (ac9 _ (List.mem_of_getElem? (i := 17) rfl)) msX5_requireLift mini_RX5 rfl rfl hdX5_requireLift ⟨Nat.le_of_ble_eq_true rfl, Nat.le_of_ble_eq_true rfl⟩) rfl hl.1 rfl (Nat.le_of_ble_eq_true rfl) (by decide) (dk kX5_why_ok 5 rfl) ?_
  refine lv_aload_n hx hb (dk kX5_why_ok 6 rfl) rfl (lv_at hl 0 rfl) ?_
  refine gf hx hb hts (fun w h => List.mem_cons_of_mem _ (acX5 w h)) hown hK hP hz0 hC rfl 0 (by decide) (hts _ (List.mem_cons_of_mem _ (ac7 _ (List.mem_of_getElem? (i := 10) rfl)))) (fun _ h => h) rfl (dk kX5_why_ok 7 rfl) ?_
  refine lv_iload_n hx hb (dk kX5_why_ok 8 rfl) rfl (lv_at hl 1 rfl) ?_
  refine lv_iload_n hx hb (dk kX5_why_ok 9 rfl) rfl (lv_at hl 2 rfl) ?_
  refine lv_iload_n hx hb (dk kX5_why_ok 10 rfl) rfl (lv_at hl 3 rfl) ?_
  refine lv_iload hx hb (dk kX5_why_ok 11 rfl) (lv_at hl 4 rfl) ?_
  refine cvR (As := [.int x, .int y, .int (nI f), .int d]) (rest := []) ⟨hx, hb, hml, hown, hts⟩ (tX4_whyNotLifted l D cI cQ cL ad N F 1 (by omega) c b v g h j t u z hN x y (nI f) f rfl (by omega) (by omega) d) (cwV9 4 hts mcX4_whyNotLifted (ac9 _ (List.mem_of_getElem? (i := 20) rfl)) miX4_whyNotLifted meX4_whyNotLifted mini_RX4 rfl rfl hdX4_whyNotLifted ⟨Nat.le_of_ble_eq_true rfl, Nat.le_of_ble_eq_true rfl⟩) hK hP hNW hz1 hN.1 rfl rfl hl.1 rfl (Nat.le_of_ble_eq_true rfl) (by decide) (dk kX5_why_ok 12 rfl) ?_
  exact hret _ _ _ (by rfl) (dk kX5_why_ok 13 rfl)
set_option maxRecDepth 100000 in
set_option maxHeartbeats 4000000 in
theorem tX5_lands (l : Launch) (D : va_G) (cI cQ cL : ClassId) (ad : Nat → Nat) (N : Nat) (F : Nat → va_E) (hk : 76 < N) (c b v g h j : Nat → Int32) (t : Nat) (u z : Int32) (hN : stAt cI ad F 1 c b v g h j (nI t) u z) (c8 b8 v8 g8 h8 j8 : Nat → Int32) (t8 : Nat) (u8 z8 : Int32) (hSn : stAt cI ad F 9 c8 b8 v8 g8 h8 j8 (nI t8) u8 z8) (n9 m9 : Nat) (hn9 : n9 < 6) (hm9 : m9 ≤ 6) (hPa : paAt cQ ad F 17 n9 m9) (a : Nat → Int32) (n : Nat) (hn60 : n ≤ 60) (hT : gtAt cI ad F 67 a n) (c6 b6 v6 : Nat → Int32) (hM6 : matAt cI ad F 69 c6 b6 v6) (a7 d7 q7 : Nat → Int32) (hO : roAt cI ad F 73 a7 d7 q7) (hs : Bool) (hC : F 0 = .inr (5, [.ref (ad 1), .ref (ad 9), .ref (ad 17), .ref (ad 67), .ref (ad 69), .ref (ad 73), .int (bI hs)])) (x : Int32) (w : Nat) (hxw : x = nI w) (hw : w < 16) (d : Int32) (hd9 : btw d (nI 0) (nI 7) = true) (k9 : Int32) (f : Nat) (hkf : k9 = nI f) (hf : 1 ≤ f ∧ f ≤ 9) : MR l yX5_lands (Cond.code yX5_lands cX5_lands 4 (some .int) :: AW) ({ frames := 8, cells := 0, slots := 0, locals := 123 } : Room) D cI cQ cL ad N F [.ref (ad 0), .int x, .int d, .int k9] (.int (cLan c w d f)) := by
  refine mr_i (ty := .int) (by decide +kernel) rfl rfl rfl rfl (Nat.le_of_ble_eq_true rfl) (fun p e s m below meth cd Q ls hx hb hml hown hts hP hK hNW hret hl => ?_)
  have hown : s.vm.findClass RX5 = some m.cls := hown
  subst hxw
  subst hkf
  have hst : stp w f < 2 ^ 31 := by unfold stp; split <;> omega
  have hz0 : 0 < N := by omega
  have hz1 : 1 < N := by omega
  have hz1___1 : 1 + 1 < N := by omega
  have hz1___1___1 : 1 + 1 + 1 < N := by omega
  have hz1___1___2 : 1 + 1 + 2 < N := by omega
  have hz1___1___3 : 1 + 1 + 3 < N := by omega
  have hz1___5 : 1 + 5 < N := by omega
  have hz1___6 : 1 + 6 < N := by omega
  have hz1___7 : 1 + 7 < N := by omega
  have hz9 : 9 < N := by omega
  have hz17 : 17 < N := by omega
  have hz17___1 : 17 + 1 < N := by omega
  have hz67 : 67 < N := by omega
  have hz67___1 : 67 + 1 < N := by omega
  have hz69 : 69 < N := by omega
  have hz69___1 : 69 + 1 < N := by omega
  have hz69___2 : 69 + 2 < N := by omega
  have hz69___3 : 69 + 3 < N := by omega
  have hz73 : 73 < N := by omega
  have hz1___1___3 : 1 + 1 + 3 < N := by omega
  have hz69___3 : 69 + 3 < N := by omega
  have hl : lv_has ls 4 [(0, .ref (ad 0)), (1, .int (nI w)), (2, .int d), (3, .int (nI f))] := hl
  refine lv_iload_n hx hb (dk kX5_lands_ok 0 rfl) rfl (lv_at hl 1 rfl) ?_
  refine csPv (As := [.int (nI w)]) (rest := []) ⟨hx, hb, hml, hown, hts⟩ (tX5_requireWink_ok l (nI w) (wk_nI hw)) (cwS9 1 hts mcX5_requireWink (ac8 _ (List.mem_of_getElem? (i := 20) rfl)) msX5_requireWink mini_RX5 rfl rfl hdX5_requireWink ⟨Nat.le_of_ble_eq_true rfl, Nat.le_of_ble_eq_true rfl⟩) rfl hl.1 rfl (Nat.le_of_ble_eq_true rfl) (by decide) (dk kX5_lands_ok 1 rfl) ?_
  refine lv_iload_n hx hb (dk kX5_lands_ok 2 rfl) rfl (lv_at hl 2 rfl) ?_
  refine lv_iload_n hx hb (dk kX5_lands_ok 3 rfl) rfl (lv_at hl 3 rfl) ?_
  refine csPv (As := [.int d, .int (nI f)]) (rest := []) ⟨hx, hb, hml, hown, hts⟩ (tX5_requireFlight_ok l d (nI f) hd9 (btw_nI hf)) (cwS9 2 hts mcX5_requireFlight (ac8 _ (List.mem_of_getElem? (i := 23) rfl)) msX5_requireFlight mini_RX5 rfl rfl hdX5_requireFlight ⟨Nat.le_of_ble_eq_true rfl, Nat.le_of_ble_eq_true rfl⟩) rfl hl.1 rfl (Nat.le_of_ble_eq_true rfl) (by decide) (dk kX5_lands_ok 4 rfl) ?_
  refine lv_aload_n hx hb (dk kX5_lands_ok 5 rfl) rfl (lv_at hl 0 rfl) ?_
  refine gf hx hb hts (fun w h => List.mem_cons_of_mem _ (acX5 w h)) hown hK hP hz0 hC rfl 0 (by decide) (hts _ (List.mem_cons_of_mem _ (ac7 _ (List.mem_of_getElem? (i := 10) rfl)))) (fun _ h => h) rfl (dk kX5_lands_ok 6 rfl) ?_
  refine gfN hx hb hts (fun w h => List.mem_cons_of_mem _ (acX4 w h)) hown hK hP hz1 hN.1 rfl 0 (by decide) (nf2 hNW) (fun _ h => h) rfl (dk kX5_lands_ok 7 rfl) ?_
  refine lv_iload_n hx hb (dk kX5_lands_ok 8 rfl) rfl (lv_at hl 1 rfl) ?_
  refine cvR (As := [.int (nI w)]) (rest := []) ⟨hx, hb, hml, hown, hts⟩ (tX1_isPotted l D cI cQ cL ad N F (1 + 1) (by omega) c b v hN.2.1 (nI w) w rfl (by omega)) (cwV9 1 hts mcX1_isPotted (ac12 _ (List.mem_of_getElem? (i := 12) rfl)) miX1_isPotted meX1_isPotted mini_RX1 rfl rfl hdX1_isPotted ⟨Nat.le_of_ble_eq_true rfl, Nat.le_of_ble_eq_true rfl⟩) hK hP hNW hz1___1 hN.2.1.1 rfl rfl hl.1 rfl (Nat.le_of_ble_eq_true rfl) (by decide) (dk kX5_lands_ok 9 rfl) ?_
  refine b_if_eq (tgt := 26) hx hb (dk kX5_lands_ok 10 rfl) (by decide) (fun h1 => ?_) (fun h1 => ?_)
  · skip
    refine lv_aload_n hx hb (dk kX5_lands_ok 13 rfl) rfl (lv_at hl 0 rfl) ?_
    refine gf hx hb hts (fun w h => List.mem_cons_of_mem _ (acX5 w h)) hown hK hP hz0 hC rfl 0 (by decide) (hts _ (List.mem_cons_of_mem _ (ac7 _ (List.mem_of_getElem? (i := 10) rfl)))) (fun _ h => h) rfl (dk kX5_lands_ok 14 rfl) ?_
    refine gfN hx hb hts (fun w h => List.mem_cons_of_mem _ (acX4 w h)) hown hK hP hz1 hN.1 rfl 0 (by decide) (nf2 hNW) (fun _ h => h) rfl (dk kX5_lands_ok 15 rfl) ?_
    refine gfN hx hb hts (fun w h => List.mem_cons_of_mem _ (acX1 w h)) hown hK hP hz1___1 hN.2.1.1 rfl 0 (by decide) (nf1 hNW) (fun _ h => h) rfl (dk kX5_lands_ok 16 rfl) ?_
    refine lv_iload_n hx hb (dk kX5_lands_ok 17 rfl) rfl (lv_at hl 1 rfl) ?_
    refine ald (j := w) hx hb hK hP hz1___1___1 hN.2.1.2.1 rfl (by omega) (by decide) (dk kX5_lands_ok 18 rfl) ?_
    refine lv_iload_n hx hb (dk kX5_lands_ok 19 rfl) rfl (lv_at hl 2 rfl) ?_
    refine lv_iload_n hx hb (dk kX5_lands_ok 20 rfl) rfl (lv_at hl 1 rfl) ?_
    refine lv_iload_n hx hb (dk kX5_lands_ok 21 rfl) rfl (lv_at hl 3 rfl) ?_
    refine csP (As := [.int (nI w), .int (nI f)]) (rest := [.int d, .int (c w)]) ⟨hx, hb, hml, hown, hts⟩ (tX5_stepsOf l (nI w) w rfl (by omega) (nI f) f rfl (by omega)) (cwS9 2 hts mcX5_stepsOf (ac12 _ (List.mem_of_getElem? (i := 13) rfl)) msX5_stepsOf mini_RX5 rfl rfl hdX5_stepsOf ⟨Nat.le_of_ble_eq_true rfl, Nat.le_of_ble_eq_true rfl⟩) rfl hl.1 rfl (Nat.le_of_ble_eq_true rfl) (by decide) (dk kX5_lands_ok 22 rfl) ?_
    refine csP (As := [.int (c w), .int d, .int (nI (stp w f))]) (rest := []) ⟨hx, hb, hml, hown, hts⟩ (tX5_landing l (c w) d (nI (stp w f)) (stp w f) rfl (by omega)) (cwS9 3 hts mcX5_landing (ac12 _ (List.mem_of_getElem? (i := 14) rfl)) msX5_landing mini_RX5 rfl rfl hdX5_landing ⟨Nat.le_of_ble_eq_true rfl, Nat.le_of_ble_eq_true rfl⟩) rfl hl.1 rfl (Nat.le_of_ble_eq_true rfl) (by decide) (dk kX5_lands_ok 23 rfl) ?_
    refine csP (As := [.int (ldg (c w) d (stp w f))]) (rest := []) ⟨hx, hb, hml, hown, hts⟩ (tX5_flightAnswer l (ldg (c w) d (stp w f))) (cwS9 1 hts mcX5_flightAnswer (ac12 _ (List.mem_of_getElem? (i := 15) rfl)) msX5_flightAnswer mini_RX5 rfl rfl hdX5_flightAnswer ⟨Nat.le_of_ble_eq_true rfl, Nat.le_of_ble_eq_true rfl⟩) rfl hl.1 rfl (Nat.le_of_ble_eq_true rfl) (by decide) (dk kX5_lands_ok 24 rfl) ?_
    exact hret _ _ _ (by simp (config := { decide := true }) only [cLan, h1, not_true_eq_false, not_false_eq_true, and_true, true_and, and_false, false_and, or_true, true_or, or_false, false_or, and_self, or_self, if_true, if_false, Bool.false_eq_true, reduceIte]; first | done | rfl) (dk kX5_lands_ok 25 rfl)
  · skip
    refine lv_bipush (v := -2) hx hb (dk kX5_lands_ok 11 rfl) rfl ?_
    exact hret _ _ _ (by simp (config := { decide := true }) only [cLan, h1, not_true_eq_false, not_false_eq_true, and_true, true_and, and_false, false_and, or_true, true_or, or_false, false_or, and_self, or_self, if_true, if_false, Bool.false_eq_true, reduceIte]; first | done | rfl) (dk kX5_lands_ok 12 rfl)
end
section
set_option maxRecDepth 100000 in
set_option maxHeartbeats 4000000 in
theorem tX5_fly (l : Launch) (D : va_G) (cI cQ cL : ClassId) (ad : Nat → Nat) (N : Nat) (F : Nat → va_E) (hk : 76 < N) (c b v g h j : Nat → Int32) (t : Nat) (u z : Int32) (hN : stAt cI ad F 1 c b v g h j (nI t) u z) (c8 b8 v8 g8 h8 j8 : Nat → Int32) (t8 : Nat) (u8 z8 : Int32) (hSn : stAt cI ad F 9 c8 b8 v8 g8 h8 j8 (nI t8) u8 z8) (n9 m9 : Nat) (hn9 : n9 < 6) (hm9 : m9 ≤ 6) (hPa : paAt cQ ad F 17 n9 m9) (a : Nat → Int32) (n : Nat) (hn60 : n ≤ 60) (hT : gtAt cI ad F 67 a n) (c6 b6 v6 : Nat → Int32) (hM6 : matAt cI ad F 69 c6 b6 v6) (a7 d7 q7 : Nat → Int32) (hO : roAt cI ad F 73 a7 d7 q7) (hs : Bool) (hC : F 0 = .inr (5, [.ref (ad 1), .ref (ad 9), .ref (ad 17), .ref (ad 67), .ref (ad 69), .ref (ad 73), .int (bI hs)])) (cr br vr gr hr9 jr : Nat → Int32) (tr : Nat) (ur zr : Int32) (hRi : stAt cI ad F (17 + 2 + 8 * n9) cr br vr gr hr9 jr (nI tr) ur zr) (ht : t < 4) (x : Int32) (w : Nat) (hxw : x = nI w) (hw : w < 16) (d : Int32) (hd9 : btw d (nI 0) (nI 7) = true) (k9 : Int32) (f : Nat) (hkf : k9 = nI f) (hf : 1 ≤ f ∧ f ≤ 9) (hwn : wnf c v t w = 0) : MX l yX5_fly (Cond.code yX5_fly cX5_fly 4 (some .int) :: AW) ({ frames := 8, cells := 0, slots := 0, locals := 123 } : Room) D cI cQ cL ad N F [.ref (ad 0), .int x, .int d, .int k9] (dp (some (.int (fans (flE c w d f)))) (sSet cI ad (paSet cQ ad (sSet cI ad F (17 + 2 + 8 * n9) c b v g h j (nI t) u z) 17 ((n9 + 1) % 6) (min (m9 + 1) 6)) 1 (mov1 c b v w (rest9 w (flE c w d f))) (mov2 c b v w (rest9 w (flE c w d f))) (mov3 c b v w (rest9 w (flE c w d f))) (upd g w (g w + nI 1)) (flH h w (flE c w d f)) ((flP (mov1 c b v w (rest9 w (flE c w d f))) t w (flE c w d f) (flH j w (flE c w d f))).1) (nI ((flP (mov1 c b v w (rest9 w (flE c w d f))) t w (flE c w d f) (flH j w (flE c w d f))).2)) u z)) 0 0 := by
  refine mx_i (ty := .int) (by decide +kernel) rfl (Nat.le_of_ble_eq_true rfl) (fun p e s m below meth cd Q ls hx hb hml hown hts hDi hP hK hNW hS hret hl => ?_)
  have hown : s.vm.findClass RX5 = some m.cls := hown
  subst hxw
  subst hkf
  have hst : stp w f < 2 ^ 31 := by unfold stp; split <;> omega
  have hz0 : 0 < N := by omega
  have hz1 : 1 < N := by omega
  have hz1___1 : 1 + 1 < N := by omega
  have hz1___1___1 : 1 + 1 + 1 < N := by omega
  have hz1___1___2 : 1 + 1 + 2 < N := by omega
  have hz1___1___3 : 1 + 1 + 3 < N := by omega
  have hz1___5 : 1 + 5 < N := by omega
  have hz1___6 : 1 + 6 < N := by omega
  have hz1___7 : 1 + 7 < N := by omega
  have hz9 : 9 < N := by omega
  have hz17 : 17 < N := by omega
  have hz17___1 : 17 + 1 < N := by omega
  have hz67 : 67 < N := by omega
  have hz67___1 : 67 + 1 < N := by omega
  have hz69 : 69 < N := by omega
  have hz69___1 : 69 + 1 < N := by omega
  have hz69___2 : 69 + 2 < N := by omega
  have hz69___3 : 69 + 3 < N := by omega
  have hz73 : 73 < N := by omega
  have hz1___1___3 : 1 + 1 + 3 < N := by omega
  have hz69___3 : 69 + 3 < N := by omega
  have hl : lv_has ls 4 [(0, .ref (ad 0)), (1, .int (nI w)), (2, .int d), (3, .int (nI f))] := hl
  refine lv_iload_n hx hb (dk kX5_fly_ok 0 rfl) rfl (lv_at hl 1 rfl) ?_
  refine csPv (As := [.int (nI w)]) (rest := []) ⟨hx, hb, hml, hown, hts⟩ (tX5_requireWink_ok l (nI w) (wk_nI hw)) (cwS9 1 hts mcX5_requireWink (ac8 _ (List.mem_of_getElem? (i := 20) rfl)) msX5_requireWink mini_RX5 rfl rfl hdX5_requireWink ⟨Nat.le_of_ble_eq_true rfl, Nat.le_of_ble_eq_true rfl⟩) rfl hl.1 rfl (Nat.le_of_ble_eq_true rfl) (by decide) (dk kX5_fly_ok 1 rfl) ?_
  refine lv_iload_n hx hb (dk kX5_fly_ok 2 rfl) rfl (lv_at hl 2 rfl) ?_
  refine lv_iload_n hx hb (dk kX5_fly_ok 3 rfl) rfl (lv_at hl 3 rfl) ?_
  refine csPv (As := [.int d, .int (nI f)]) (rest := []) ⟨hx, hb, hml, hown, hts⟩ (tX5_requireFlight_ok l d (nI f) hd9 (btw_nI hf)) (cwS9 2 hts mcX5_requireFlight (ac8 _ (List.mem_of_getElem? (i := 23) rfl)) msX5_requireFlight mini_RX5 rfl rfl hdX5_requireFlight ⟨Nat.le_of_ble_eq_true rfl, Nat.le_of_ble_eq_true rfl⟩) rfl hl.1 rfl (Nat.le_of_ble_eq_true rfl) (by decide) (dk kX5_fly_ok 4 rfl) ?_
  refine lv_aload_n hx hb (dk kX5_fly_ok 5 rfl) rfl (lv_at hl 0 rfl) ?_
  refine gf hx hb hts (fun w h => List.mem_cons_of_mem _ (acX5 w h)) hown hK hP hz0 hC rfl 0 (by decide) (hts _ (List.mem_cons_of_mem _ (ac7 _ (List.mem_of_getElem? (i := 10) rfl)))) (fun _ h => h) rfl (dk kX5_fly_ok 6 rfl) ?_
  refine lv_iload_n hx hb (dk kX5_fly_ok 7 rfl) rfl (lv_at hl 1 rfl) ?_
  refine cvR (As := [.int (nI w)]) (rest := []) ⟨hx, hb, hml, hown, hts⟩ (tX4_whyNotFlown l D cI cQ cL ad N F 1 (by omega) c b v g h j t u z hN ht (nI w) w rfl (by omega)) (cwV9 1 hts mcX4_whyNotFlown (ac9 _ (List.mem_of_getElem? (i := 2) rfl)) miX4_whyNotFlown meX4_whyNotFlown mini_RX4 rfl rfl hdX4_whyNotFlown ⟨Nat.le_of_ble_eq_true rfl, Nat.le_of_ble_eq_true rfl⟩) hK hP hNW hz1 hN.1 rfl rfl hl.1 rfl (Nat.le_of_ble_eq_true rfl) (by decide) (dk kX5_fly_ok 8 rfl) ?_
  refine n_if_eq (tgt := 30) hx hb (by first | omega | (have q1 := wnf_le c v t w; omega)) (dk kX5_fly_ok 9 rfl) (by decide) (fun h1 => ?_) (fun h1 => ?_)
  · skip
    refine lv_aload_n hx hb (dk kX5_fly_ok 15 rfl) rfl (lv_at hl 0 rfl) ?_
    refine gf hx hb hts (fun w h => List.mem_cons_of_mem _ (acX5 w h)) hown hK hP hz0 hC rfl 2 (by decide) (hts _ (List.mem_cons_of_mem _ (ac7 _ (List.mem_of_getElem? (i := 15) rfl)))) (fun _ h => h) rfl (dk kX5_fly_ok 16 rfl) ?_
    refine lv_aload_n hx hb (dk kX5_fly_ok 17 rfl) rfl (lv_at hl 0 rfl) ?_
    refine gf hx hb hts (fun w h => List.mem_cons_of_mem _ (acX5 w h)) hown hK hP hz0 hC rfl 0 (by decide) (hts _ (List.mem_cons_of_mem _ (ac7 _ (List.mem_of_getElem? (i := 10) rfl)))) (fun _ h => h) rfl (dk kX5_fly_ok 18 rfl) ?_
    refine cvDv (As := [.ref (ad 1)]) (rest := []) (paSet cQ ad (sSet cI ad F (17 + 2 + 8 * n9) c b v g h j (nI t) u z) 17 ((n9 + 1) % 6) (min (m9 + 1) 6)) ⟨hx, hb, hml, hown, hts⟩ (tX2_save l D cI cQ cL ad N F 17 n9 m9 hn9 hm9 (by omega) hPa cr br vr gr hr9 jr tr ur zr hRi (by omega) 1 (by omega) c b v g h j t u z hN (by omega)) (cwV9 1 hts mcX2_save (ac9 _ (List.mem_of_getElem? (i := 6) rfl)) miX2_save meX2_save mini_RX2 rfl rfl hdX2_save ⟨Nat.le_of_ble_eq_true rfl, Nat.le_of_ble_eq_true rfl⟩) hDi hK hP hNW hS hz17 hPa.1 rfl rfl hl.1 rfl (Nat.le_of_ble_eq_true rfl) (by decide) (dk kX5_fly_ok 19 rfl) rfl (fun H locs hP hS => ?_)
    refine lv_aload_n hx hb (dk kX5_fly_ok 20 rfl) rfl (lv_at hl 0 rfl) ?_
    refine gf hx hb hts (fun w h => List.mem_cons_of_mem _ (acX5 w h)) hown hK hP hz0 ((paSet_out (by omega)).trans ((sSet_out (by omega)).trans hC)) rfl 0 (by decide) (hts _ (List.mem_cons_of_mem _ (ac7 _ (List.mem_of_getElem? (i := 10) rfl)))) (fun _ h => h) rfl (dk kX5_fly_ok 21 rfl) ?_
    refine lv_iload_n hx hb (dk kX5_fly_ok 22 rfl) rfl (lv_at hl 1 rfl) ?_
    refine lv_iload_n hx hb (dk kX5_fly_ok 23 rfl) rfl (lv_at hl 2 rfl) ?_
    refine lv_iload_n hx hb (dk kX5_fly_ok 24 rfl) rfl (lv_at hl 3 rfl) ?_
    refine cvD (As := [.int (nI w), .int d, .int (nI f)]) (rest := []) (sSet cI ad (paSet cQ ad (sSet cI ad F (17 + 2 + 8 * n9) c b v g h j (nI t) u z) 17 ((n9 + 1) % 6) (min (m9 + 1) 6)) 1 (mov1 c b v w (rest9 w (flE c w d f))) (mov2 c b v w (rest9 w (flE c w d f))) (mov3 c b v w (rest9 w (flE c w d f))) (upd g w (g w + nI 1)) (flH h w (flE c w d f)) ((flP (mov1 c b v w (rest9 w (flE c w d f))) t w (flE c w d f) (flH j w (flE c w d f))).1) (nI ((flP (mov1 c b v w (rest9 w (flE c w d f))) t w (flE c w d f) (flH j w (flE c w d f))).2)) u z) ⟨hx, hb, hml, hown, hts⟩ (tX4_carryOutFlight l D cI cQ cL ad N (paSet cQ ad (sSet cI ad F (17 + 2 + 8 * n9) c b v g h j (nI t) u z) 17 ((n9 + 1) % 6) (min (m9 + 1) 6)) 1 (by omega) c b v g h j t u z (stAt_keep (stAt_keep hN (fun i _ _ => sSet_out (by omega))) (fun i _ _ => paSet_out (by omega))) ht (nI w) w rfl (by omega) d (nI f) f rfl (by omega)) (cwV9 3 hts mcX4_carryOutFlight (ac9 _ (List.mem_of_getElem? (i := 10) rfl)) miX4_carryOutFlight meX4_carryOutFlight mini_RX4 rfl rfl hdX4_carryOutFlight ⟨Nat.le_of_ble_eq_true rfl, Nat.le_of_ble_eq_true rfl⟩) hDi hK hP hNW hS hz1 (stAt_keep (stAt_keep hN (fun i _ _ => sSet_out (by omega))) (fun i _ _ => paSet_out (by omega))).1 rfl rfl hl.1 rfl (Nat.le_of_ble_eq_true rfl) (by decide) (dk kX5_fly_ok 25 rfl) rfl (fun H locs hP hS => ?_)
    exact hret _ _ _ _ _ _ _ _ rfl (by exact ⟨rfl, rfl⟩) hP hS (by decide) (by decide) (dk kX5_fly_ok 26 rfl)
  · exact absurd hwn h1
set_option maxRecDepth 100000 in
set_option maxHeartbeats 4000000 in
theorem tX5_lift (l : Launch) (D : va_G) (cI cQ cL : ClassId) (ad : Nat → Nat) (N : Nat) (F : Nat → va_E) (hk : 76 < N) (c b v g h j : Nat → Int32) (t : Nat) (u z : Int32) (hN : stAt cI ad F 1 c b v g h j (nI t) u z) (c8 b8 v8 g8 h8 j8 : Nat → Int32) (t8 : Nat) (u8 z8 : Int32) (hSn : stAt cI ad F 9 c8 b8 v8 g8 h8 j8 (nI t8) u8 z8) (n9 m9 : Nat) (hn9 : n9 < 6) (hm9 : m9 ≤ 6) (hPa : paAt cQ ad F 17 n9 m9) (a : Nat → Int32) (n : Nat) (hn60 : n ≤ 60) (hT : gtAt cI ad F 67 a n) (c6 b6 v6 : Nat → Int32) (hM6 : matAt cI ad F 69 c6 b6 v6) (a7 d7 q7 : Nat → Int32) (hO : roAt cI ad F 73 a7 d7 q7) (hs : Bool) (hC : F 0 = .inr (5, [.ref (ad 1), .ref (ad 9), .ref (ad 17), .ref (ad 67), .ref (ad 69), .ref (ad 73), .int (bI hs)])) (cr br vr gr hr9 jr : Nat → Int32) (tr : Nat) (ur zr : Int32) (hRi : stAt cI ad F (17 + 2 + 8 * n9) cr br vr gr hr9 jr (nI tr) ur zr) (ht : t < 4) (x y k9 : Int32) (f : Nat) (hkf : k9 = nI f) (hf : 1 ≤ f ∧ f ≤ 6) (d : Int32) (hd9 : btw d (nI 0) (nI 7) = true) (hon : on x y = true) (hwn : wnl c b v t z x y f d = 0) : MX l yX5_lift (Cond.code yX5_lift cX5_lift 5 (some .int) :: AW) ({ frames := 8, cells := 0, slots := 0, locals := 123 } : Room) D cI cQ cL ad N F [.ref (ad 0), .int x, .int y, .int k9, .int d] (dp (some (.int (nI (hgt (liC c b v x y f d) (cat x y))))) (sSet cI ad (paSet cQ ad (sSet cI ad F (17 + 2 + 8 * n9) c b v g h j (nI t) u z) 17 ((n9 + 1) % 6) (min (m9 + 1) 6)) 1 (liC c b v x y f d) (liB c b v x y f d) (liV c b v x y f d) g h ((pasg (liC c b v x y f d) t 8 j t).1) (nI ((pasg (liC c b v x y f d) t 8 j t).2)) (u + nI 1) z)) 0 0 := by
  refine mx_i (ty := .int) (by decide +kernel) rfl (Nat.le_of_ble_eq_true rfl) (fun p e s m below meth cd Q ls hx hb hml hown hts hDi hP hK hNW hS hret hl => ?_)
  have hown : s.vm.findClass RX5 = some m.cls := hown
  subst hkf
  have hz0 : 0 < N := by omega
  have hz1 : 1 < N := by omega
  have hz1___1 : 1 + 1 < N := by omega
  have hz1___1___1 : 1 + 1 + 1 < N := by omega
  have hz1___1___2 : 1 + 1 + 2 < N := by omega
  have hz1___1___3 : 1 + 1 + 3 < N := by omega
  have hz1___5 : 1 + 5 < N := by omega
  have hz1___6 : 1 + 6 < N := by omega
  have hz1___7 : 1 + 7 < N := by omega
  have hz9 : 9 < N := by omega
  have hz17 : 17 < N := by omega
  have hz17___1 : 17 + 1 < N := by omega
  have hz67 : 67 < N := by omega
  have hz67___1 : 67 + 1 < N := by omega
  have hz69 : 69 < N := by omega
  have hz69___1 : 69 + 1 < N := by omega
  have hz69___2 : 69 + 2 < N := by omega
  have hz69___3 : 69 + 3 < N := by omega
  have hz73 : 73 < N := by omega
  have hz1___1___3 : 1 + 1 + 3 < N := by omega
  have hz69___3 : 69 + 3 < N := by omega
  have hl : lv_has ls 5 [(0, .ref (ad 0)), (1, .int x), (2, .int y), (3, .int (nI f)), (4, .int d)] := hl
  refine lv_iload_n hx hb (dk kX5_lift_ok 0 rfl) rfl (lv_at hl 1 rfl) ?_
  refine lv_iload_n hx hb (dk kX5_lift_ok 1 rfl) rfl (lv_at hl 2 rfl) ?_
  refine csPv (As := [.int x, .int y]) (rest := []) ⟨hx, hb, hml, hown, hts⟩ (tX5_requireCell_ok l x y hon) (cwS9 2 hts mcX5_requireCell (ac9 _ (List.mem_of_getElem? (i := 14) rfl)) msX5_requireCell mini_RX5 rfl rfl hdX5_requireCell ⟨Nat.le_of_ble_eq_true rfl, Nat.le_of_ble_eq_true rfl⟩) rfl hl.1 rfl (Nat.le_of_ble_eq_true rfl) (by decide) (dk kX5_lift_ok 2 rfl) ?_
  refine lv_iload_n hx hb (dk kX5_lift_ok 3 rfl) rfl (lv_at hl 3 rfl) ?_
  refine lv_iload hx hb (dk kX5_lift_ok 4 rfl) (lv_at hl 4 rfl) ?_
  refine csPv (As := [.int (nI f), .int d]) (rest := []) ⟨hx, hb, hml, hown, hts⟩ (tX5_requireLift_ok l (nI f) d (btw_nI hf) hd9) (cwS9 2 hts mcX5_requireLift (ac9 _ (List.mem_of_getElem? (i := 17) rfl)) msX5_requireLift mini_RX5 rfl rfl hdX5_requireLift ⟨Nat.le_of_ble_eq_true rfl, Nat.le_of_ble_eq_true rfl⟩) rfl hl.1 rfl (Nat.le_of_ble_eq_true rfl) (by decide) (dk kX5_lift_ok 5 rfl) ?_
  refine lv_aload_n hx hb (dk kX5_lift_ok 6 rfl) rfl (lv_at hl 0 rfl) ?_
  refine gf hx hb hts (fun w h => List.mem_cons_of_mem _ (acX5 w h)) hown hK hP hz0 hC rfl 0 (by decide) (hts _ (List.mem_cons_of_mem _ (ac7 _ (List.mem_of_getElem? (i := 10) rfl)))) (fun _ h => h) rfl (dk kX5_lift_ok 7 rfl) ?_
  refine lv_iload_n hx hb (dk kX5_lift_ok 8 rfl) rfl (lv_at hl 1 rfl) ?_
  refine lv_iload_n hx hb (dk kX5_lift_ok 9 rfl) rfl (lv_at hl 2 rfl) ?_
  refine lv_iload_n hx hb (dk kX5_lift_ok 10 rfl) rfl (lv_at hl 3 rfl) ?_
  refine lv_iload hx hb (dk kX5_lift_ok 11 rfl) (lv_at hl 4 rfl) ?_
  refine cvR (As := [.int x, .int y, .int (nI f), .int d]) (rest := []) ⟨hx, hb, hml, hown, hts⟩ (tX4_whyNotLifted l D cI cQ cL ad N F 1 (by omega) c b v g h j t u z hN x y (nI f) f rfl (by omega) (by omega) d) (cwV9 4 hts mcX4_whyNotLifted (ac9 _ (List.mem_of_getElem? (i := 20) rfl)) miX4_whyNotLifted meX4_whyNotLifted mini_RX4 rfl rfl hdX4_whyNotLifted ⟨Nat.le_of_ble_eq_true rfl, Nat.le_of_ble_eq_true rfl⟩) hK hP hNW hz1 hN.1 rfl rfl hl.1 rfl (Nat.le_of_ble_eq_true rfl) (by decide) (dk kX5_lift_ok 12 rfl) ?_
  refine n_if_eq (tgt := 36) hx hb (by first | omega | (have q1 := wnl_le c b v t z x y f d; omega)) (dk kX5_lift_ok 13 rfl) (by decide) (fun h1 => ?_) (fun h1 => ?_)
  · skip
    refine lv_aload_n hx hb (dk kX5_lift_ok 19 rfl) rfl (lv_at hl 0 rfl) ?_
    refine gf hx hb hts (fun w h => List.mem_cons_of_mem _ (acX5 w h)) hown hK hP hz0 hC rfl 2 (by decide) (hts _ (List.mem_cons_of_mem _ (ac7 _ (List.mem_of_getElem? (i := 15) rfl)))) (fun _ h => h) rfl (dk kX5_lift_ok 20 rfl) ?_
    refine lv_aload_n hx hb (dk kX5_lift_ok 21 rfl) rfl (lv_at hl 0 rfl) ?_
    refine gf hx hb hts (fun w h => List.mem_cons_of_mem _ (acX5 w h)) hown hK hP hz0 hC rfl 0 (by decide) (hts _ (List.mem_cons_of_mem _ (ac7 _ (List.mem_of_getElem? (i := 10) rfl)))) (fun _ h => h) rfl (dk kX5_lift_ok 22 rfl) ?_
    refine cvDv (As := [.ref (ad 1)]) (rest := []) (paSet cQ ad (sSet cI ad F (17 + 2 + 8 * n9) c b v g h j (nI t) u z) 17 ((n9 + 1) % 6) (min (m9 + 1) 6)) ⟨hx, hb, hml, hown, hts⟩ (tX2_save l D cI cQ cL ad N F 17 n9 m9 hn9 hm9 (by omega) hPa cr br vr gr hr9 jr tr ur zr hRi (by omega) 1 (by omega) c b v g h j t u z hN (by omega)) (cwV9 1 hts mcX2_save (ac9 _ (List.mem_of_getElem? (i := 6) rfl)) miX2_save meX2_save mini_RX2 rfl rfl hdX2_save ⟨Nat.le_of_ble_eq_true rfl, Nat.le_of_ble_eq_true rfl⟩) hDi hK hP hNW hS hz17 hPa.1 rfl rfl hl.1 rfl (Nat.le_of_ble_eq_true rfl) (by decide) (dk kX5_lift_ok 23 rfl) rfl (fun H locs hP hS => ?_)
    refine lv_aload_n hx hb (dk kX5_lift_ok 24 rfl) rfl (lv_at hl 0 rfl) ?_
    refine gf hx hb hts (fun w h => List.mem_cons_of_mem _ (acX5 w h)) hown hK hP hz0 ((paSet_out (by omega)).trans ((sSet_out (by omega)).trans hC)) rfl 0 (by decide) (hts _ (List.mem_cons_of_mem _ (ac7 _ (List.mem_of_getElem? (i := 10) rfl)))) (fun _ h => h) rfl (dk kX5_lift_ok 25 rfl) ?_
    refine lv_iload_n hx hb (dk kX5_lift_ok 26 rfl) rfl (lv_at hl 1 rfl) ?_
    refine lv_iload_n hx hb (dk kX5_lift_ok 27 rfl) rfl (lv_at hl 2 rfl) ?_
    refine lv_iload_n hx hb (dk kX5_lift_ok 28 rfl) rfl (lv_at hl 3 rfl) ?_
    refine lv_iload hx hb (dk kX5_lift_ok 29 rfl) (lv_at hl 4 rfl) ?_
    refine cvDv (As := [.int x, .int y, .int (nI f), .int d]) (rest := []) (sSet cI ad (paSet cQ ad (sSet cI ad F (17 + 2 + 8 * n9) c b v g h j (nI t) u z) 17 ((n9 + 1) % 6) (min (m9 + 1) 6)) 1 (liC c b v x y f d) (liB c b v x y f d) (liV c b v x y f d) g h ((pasg (liC c b v x y f d) t 8 j t).1) (nI ((pasg (liC c b v x y f d) t 8 j t).2)) (u + nI 1) z) ⟨hx, hb, hml, hown, hts⟩ (tX4_carryOutLift l D cI cQ cL ad N (paSet cQ ad (sSet cI ad F (17 + 2 + 8 * n9) c b v g h j (nI t) u z) 17 ((n9 + 1) % 6) (min (m9 + 1) 6)) 1 (by omega) c b v g h j t u z (stAt_keep (stAt_keep hN (fun i _ _ => sSet_out (by omega))) (fun i _ _ => paSet_out (by omega))) ht x y (nI f) f rfl (by omega) (by omega) d) (cwV9 4 hts mcX4_carryOutLift (ac10 _ (List.mem_of_getElem? (i := 0) rfl)) miX4_carryOutLift meX4_carryOutLift mini_RX4 rfl rfl hdX4_carryOutLift ⟨Nat.le_of_ble_eq_true rfl, Nat.le_of_ble_eq_true rfl⟩) hDi hK hP hNW hS hz1 (stAt_keep (stAt_keep hN (fun i _ _ => sSet_out (by omega))) (fun i _ _ => paSet_out (by omega))).1 rfl rfl hl.1 rfl (Nat.le_of_ble_eq_true rfl) (by decide) (dk kX5_lift_ok 30 rfl) rfl (fun H locs hP hS => ?_)
    refine lv_aload_n hx hb (dk kX5_lift_ok 31 rfl) rfl (lv_at hl 0 rfl) ?_
    refine gf hx hb hts (fun w h => List.mem_cons_of_mem _ (acX5 w h)) hown hK hP hz0 ((sSet_out (by omega)).trans ((paSet_out (by omega)).trans ((sSet_out (by omega)).trans hC))) rfl 0 (by decide) (hts _ (List.mem_cons_of_mem _ (ac7 _ (List.mem_of_getElem? (i := 10) rfl)))) (fun _ h => h) rfl (dk kX5_lift_ok 32 rfl) ?_
    refine gfN hx hb hts (fun w h => List.mem_cons_of_mem _ (acX4 w h)) hown hK hP hz1 (sSet_at (stAt_keep (stAt_keep hN (fun i _ _ => sSet_out (by omega))) (fun i _ _ => paSet_out (by omega)))).1 rfl 0 (by decide) (nf2 hNW) (fun _ h => h) rfl (dk kX5_lift_ok 33 rfl) ?_
    refine lv_iload_n hx hb (dk kX5_lift_ok 34 rfl) rfl (lv_at hl 1 rfl) ?_
    refine lv_iload_n hx hb (dk kX5_lift_ok 35 rfl) rfl (lv_at hl 2 rfl) ?_
    refine csP (As := [.int x, .int y]) (rest := [.ref (ad (1 + 1))]) ⟨hx, hb, hml, hown, hts⟩ (tX5_cellAt l x y) (cwS9 2 hts mcX5_cellAt (ac0 _ (List.mem_of_getElem? (i := 6) rfl)) msX5_cellAt mini_RX5 rfl rfl hdX5_cellAt ⟨Nat.le_of_ble_eq_true rfl, Nat.le_of_ble_eq_true rfl⟩) rfl hl.1 rfl (Nat.le_of_ble_eq_true rfl) (by decide) (dk kX5_lift_ok 36 rfl) ?_
    refine cvR (As := [.int (cat x y)]) (rest := []) ⟨hx, hb, hml, hown, hts⟩ (tX1_heightAt l D cI cQ cL ad N (sSet cI ad (paSet cQ ad (sSet cI ad F (17 + 2 + 8 * n9) c b v g h j (nI t) u z) 17 ((n9 + 1) % 6) (min (m9 + 1) 6)) 1 (liC c b v x y f d) (liB c b v x y f d) (liV c b v x y f d) g h ((pasg (liC c b v x y f d) t 8 j t).1) (nI ((pasg (liC c b v x y f d) t 8 j t).2)) (u + nI 1) z) (1 + 1) (by omega) (liC c b v x y f d) (liB c b v x y f d) (liV c b v x y f d) (sSet_at (stAt_keep (stAt_keep hN (fun i _ _ => sSet_out (by omega))) (fun i _ _ => paSet_out (by omega)))).2.1 (cat x y)) (cwV9 1 hts mcX1_heightAt (ac10 _ (List.mem_of_getElem? (i := 4) rfl)) miX1_heightAt meX1_heightAt mini_RX1 rfl rfl hdX1_heightAt ⟨Nat.le_of_ble_eq_true rfl, Nat.le_of_ble_eq_true rfl⟩) hK hP hNW hz1___1 (sSet_at (stAt_keep (stAt_keep hN (fun i _ _ => sSet_out (by omega))) (fun i _ _ => paSet_out (by omega)))).2.1.1 rfl rfl hl.1 rfl (Nat.le_of_ble_eq_true rfl) (by decide) (dk kX5_lift_ok 37 rfl) ?_
    exact hret _ _ _ _ _ _ _ _ rfl (by exact ⟨rfl, rfl⟩) hP hS (by decide) (by decide) (dk kX5_lift_ok 38 rfl)
  · exact absurd hwn h1
set_option maxRecDepth 100000 in
set_option maxHeartbeats 4000000 in
theorem tX5_set (l : Launch) (D : va_G) (cI cQ cL : ClassId) (ad : Nat → Nat) (N : Nat) (F : Nat → va_E) (hk : 76 < N) (c b v g h j : Nat → Int32) (t : Nat) (u z : Int32) (hN : stAt cI ad F 1 c b v g h j (nI t) u z) (c8 b8 v8 g8 h8 j8 : Nat → Int32) (t8 : Nat) (u8 z8 : Int32) (hSn : stAt cI ad F 9 c8 b8 v8 g8 h8 j8 (nI t8) u8 z8) (n9 m9 : Nat) (hn9 : n9 < 6) (hm9 : m9 ≤ 6) (hPa : paAt cQ ad F 17 n9 m9) (a : Nat → Int32) (n : Nat) (hn60 : n ≤ 60) (hT : gtAt cI ad F 67 a n) (c6 b6 v6 : Nat → Int32) (hM6 : matAt cI ad F 69 c6 b6 v6) (a7 d7 q7 : Nat → Int32) (hO : roAt cI ad F 73 a7 d7 q7) (hs : Bool) (hC : F 0 = .inr (5, [.ref (ad 1), .ref (ad 9), .ref (ad 17), .ref (ad 67), .ref (ad 69), .ref (ad 73), .int (bI hs)])) (cr br vr gr hr9 jr : Nat → Int32) (tr : Nat) (ur zr : Int32) (hRi : stAt cI ad F (17 + 2 + 8 * n9) cr br vr gr hr9 jr (nI tr) ur zr) (x : Int32) (hx9 : btw x (nI 1) (nI 6) = true) : MX l yX5_set (Cond.code yX5_set cX5_set 3 (some .int) :: AW) ({ frames := 4, cells := 0, slots := 0, locals := 81 } : Room) D cI cQ cL ad N F [.ref (ad 0), .int x] (dp (some (.int z)) (sSet cI ad (paSet cQ ad (sSet cI ad F (17 + 2 + 8 * n9) c b v g h j (nI t) u z) 17 ((n9 + 1) % 6) (min (m9 + 1) 6)) 1 c b v g h j (nI t) u x)) 0 0 := by
  refine mx_i (ty := .int) (by decide +kernel) rfl (Nat.le_of_ble_eq_true rfl) (fun p e s m below meth cd Q ls hx hb hml hown hts hDi hP hK hNW hS hret hl => ?_)
  have hown : s.vm.findClass RX5 = some m.cls := hown
  have hz0 : 0 < N := by omega
  have hz1 : 1 < N := by omega
  have hz1___1 : 1 + 1 < N := by omega
  have hz1___1___1 : 1 + 1 + 1 < N := by omega
  have hz1___1___2 : 1 + 1 + 2 < N := by omega
  have hz1___1___3 : 1 + 1 + 3 < N := by omega
  have hz1___5 : 1 + 5 < N := by omega
  have hz1___6 : 1 + 6 < N := by omega
  have hz1___7 : 1 + 7 < N := by omega
  have hz9 : 9 < N := by omega
  have hz17 : 17 < N := by omega
  have hz17___1 : 17 + 1 < N := by omega
  have hz67 : 67 < N := by omega
  have hz67___1 : 67 + 1 < N := by omega
  have hz69 : 69 < N := by omega
  have hz69___1 : 69 + 1 < N := by omega
  have hz69___2 : 69 + 2 < N := by omega
  have hz69___3 : 69 + 3 < N := by omega
  have hz73 : 73 < N := by omega
  have hz1___1___3 : 1 + 1 + 3 < N := by omega
  have hz69___3 : 69 + 3 < N := by omega
  have hl : lv_has ls 3 [(0, .ref (ad 0)), (1, .int x)] := hl
  refine lv_iload_n hx hb (dk kX5_set_ok 0 rfl) rfl (lv_at hl 1 rfl) ?_
  refine lv_iconst (v := nI 1) hx hb (dk kX5_set_ok 1 rfl) rfl ?_
  refine lv_icmp_lt (tgt := 11) hx hb (dk kX5_set_ok 2 rfl) (by decide) (fun h1 => ?_) (fun h1 => ?_)
  · exact absurd h1 (rng_ok hx9).1
  · skip
    refine lv_iload_n hx hb (dk kX5_set_ok 3 rfl) rfl (lv_at hl 1 rfl) ?_
    refine lv_bipush (v := nI 6) hx hb (dk kX5_set_ok 4 rfl) rfl ?_
    refine lv_icmp_le (tgt := 21) hx hb (dk kX5_set_ok 5 rfl) (by decide) (fun h2 => ?_) (fun h2 => ?_)
    · skip
      refine lv_aload_n hx hb (dk kX5_set_ok 11 rfl) rfl (lv_at hl 0 rfl) ?_
      refine gf hx hb hts (fun w h => List.mem_cons_of_mem _ (acX5 w h)) hown hK hP hz0 hC rfl 2 (by decide) (hts _ (List.mem_cons_of_mem _ (ac7 _ (List.mem_of_getElem? (i := 15) rfl)))) (fun _ h => h) rfl (dk kX5_set_ok 12 rfl) ?_
      refine lv_aload_n hx hb (dk kX5_set_ok 13 rfl) rfl (lv_at hl 0 rfl) ?_
      refine gf hx hb hts (fun w h => List.mem_cons_of_mem _ (acX5 w h)) hown hK hP hz0 hC rfl 0 (by decide) (hts _ (List.mem_cons_of_mem _ (ac7 _ (List.mem_of_getElem? (i := 10) rfl)))) (fun _ h => h) rfl (dk kX5_set_ok 14 rfl) ?_
      refine cvDv (As := [.ref (ad 1)]) (rest := []) (paSet cQ ad (sSet cI ad F (17 + 2 + 8 * n9) c b v g h j (nI t) u z) 17 ((n9 + 1) % 6) (min (m9 + 1) 6)) ⟨hx, hb, hml, hown, hts⟩ (tX2_save l D cI cQ cL ad N F 17 n9 m9 hn9 hm9 (by omega) hPa cr br vr gr hr9 jr tr ur zr hRi (by omega) 1 (by omega) c b v g h j t u z hN (by omega)) (cwV9 1 hts mcX2_save (ac9 _ (List.mem_of_getElem? (i := 6) rfl)) miX2_save meX2_save mini_RX2 rfl rfl hdX2_save ⟨Nat.le_of_ble_eq_true rfl, Nat.le_of_ble_eq_true rfl⟩) hDi hK hP hNW hS hz17 hPa.1 rfl rfl hl.1 rfl (Nat.le_of_ble_eq_true rfl) (by decide) (dk kX5_set_ok 15 rfl) rfl (fun H locs hP hS => ?_)
      refine lv_aload_n hx hb (dk kX5_set_ok 16 rfl) rfl (lv_at hl 0 rfl) ?_
      refine gf hx hb hts (fun w h => List.mem_cons_of_mem _ (acX5 w h)) hown hK hP hz0 ((paSet_out (by omega)).trans ((sSet_out (by omega)).trans hC)) rfl 0 (by decide) (hts _ (List.mem_cons_of_mem _ (ac7 _ (List.mem_of_getElem? (i := 10) rfl)))) (fun _ h => h) rfl (dk kX5_set_ok 17 rfl) ?_
      refine gfN hx hb hts (fun w h => List.mem_cons_of_mem _ (acX4 w h)) hown hK hP hz1 (stAt_keep (stAt_keep hN (fun i _ _ => sSet_out (by omega))) (fun i _ _ => paSet_out (by omega))).1 rfl 6 (by decide) (nf8 hNW) (fun _ h => h) rfl (dk kX5_set_ok 18 rfl) ?_
      refine lv_istore_n (lv' := [(2, .int z), (0, .ref (ad 0)), (1, .int x)]) hx hb (dk kX5_set_ok 19 rfl) rfl hl (by decide) rfl (fun ls hl => ?_)
      refine lv_aload_n hx hb (dk kX5_set_ok 20 rfl) rfl (lv_at hl 1 rfl) ?_
      refine gf hx hb hts (fun w h => List.mem_cons_of_mem _ (acX5 w h)) hown hK hP hz0 ((paSet_out (by omega)).trans ((sSet_out (by omega)).trans hC)) rfl 0 (by decide) (hts _ (List.mem_cons_of_mem _ (ac7 _ (List.mem_of_getElem? (i := 10) rfl)))) (fun _ h => h) rfl (dk kX5_set_ok 21 rfl) ?_
      refine lv_iload_n hx hb (dk kX5_set_ok 22 rfl) rfl (lv_at hl 2 rfl) ?_
      replace hP := st_touch (stAt_keep (stAt_keep hN (fun i _ _ => sSet_out (by omega))) (fun i _ _ => paSet_out (by omega))) hP
      refine pfN (sSet cI ad (paSet cQ ad (sSet cI ad F (17 + 2 + 8 * n9) c b v g h j (nI t) u z) 17 ((n9 + 1) % 6) (min (m9 + 1) 6)) 1 c b v g h j (nI t) u x) hx hb hts (fun w h => List.mem_cons_of_mem _ (acX4 w h)) tyX4 tyX4_ok nmX4 hown hK hDi hP hS hz1 (sSet_at (stAt_keep (stAt_keep hN (fun i _ _ => sSet_out (by omega))) (fun i _ _ => paSet_out (by omega)))).1 rfl 6 (by decide) (nf8 hNW) (fun _ h => h) rfl (ty := .int) rfl rfl rfl (Nat.le_of_ble_eq_true rfl) (dk kX5_set_ok 23 rfl) sSet_0 (fun H locs hP hS => ?_)
      refine lv_iload_n hx hb (dk kX5_set_ok 24 rfl) rfl (lv_at hl 0 rfl) ?_
      exact hret _ _ _ _ _ _ _ _ rfl (by exact ⟨rfl, rfl⟩) hP hS (by decide) (by decide) (dk kX5_set_ok 25 rfl)
    · exact absurd (Int32.not_le.mp h2) (rng_ok hx9).2
set_option maxRecDepth 100000 in
set_option maxHeartbeats 4000000 in
theorem tX5_put (l : Launch) (D : va_G) (cI cQ cL : ClassId) (ad : Nat → Nat) (N : Nat) (F : Nat → va_E) (hk : 76 < N) (c b v g h j : Nat → Int32) (t : Nat) (u z : Int32) (hN : stAt cI ad F 1 c b v g h j (nI t) u z) (c8 b8 v8 g8 h8 j8 : Nat → Int32) (t8 : Nat) (u8 z8 : Int32) (hSn : stAt cI ad F 9 c8 b8 v8 g8 h8 j8 (nI t8) u8 z8) (n9 m9 : Nat) (hn9 : n9 < 6) (hm9 : m9 ≤ 6) (hPa : paAt cQ ad F 17 n9 m9) (a : Nat → Int32) (n : Nat) (hn60 : n ≤ 60) (hT : gtAt cI ad F 67 a n) (c6 b6 v6 : Nat → Int32) (hM6 : matAt cI ad F 69 c6 b6 v6) (a7 d7 q7 : Nat → Int32) (hO : roAt cI ad F 73 a7 d7 q7) (hs : Bool) (hC : F 0 = .inr (5, [.ref (ad 1), .ref (ad 9), .ref (ad 17), .ref (ad 67), .ref (ad 69), .ref (ad 73), .int (bI hs)])) (cr br vr gr hr9 jr : Nat → Int32) (tr : Nat) (ur zr : Int32) (hRi : stAt cI ad F (17 + 2 + 8 * n9) cr br vr gr hr9 jr (nI tr) ur zr) (x : Int32) (w : Nat) (hxw : x = nI w) (hw : w < 16) (y k9 : Int32) (hon : on y k9 = true) (hov : over c = false) (hcv : cov v w = false) : MX l yX5_put (Cond.code yX5_put cX5_put 5 (some .int) :: AW) ({ frames := 7, cells := 0, slots := 0, locals := 103 } : Room) D cI cQ cL ad N F [.ref (ad 0), .int x, .int y, .int k9] (dp (some (.int (nI (hgt (mov1 c b v w (cat y k9)) (cat y k9))))) (sSet cI ad (paSet cQ ad (sSet cI ad F (17 + 2 + 8 * n9) c b v g h j (nI t) u z) 17 ((n9 + 1) % 6) (min (m9 + 1) 6)) 1 (mov1 c b v w (cat y k9)) (mov2 c b v w (cat y k9)) (mov3 c b v w (cat y k9)) g h j (nI t) u z)) 0 0 := by
  refine mx_i (ty := .int) (by decide +kernel) rfl (Nat.le_of_ble_eq_true rfl) (fun p e s m below meth cd Q ls hx hb hml hown hts hDi hP hK hNW hS hret hl => ?_)
  have hown : s.vm.findClass RX5 = some m.cls := hown
  subst hxw
  have hz0 : 0 < N := by omega
  have hz1 : 1 < N := by omega
  have hz1___1 : 1 + 1 < N := by omega
  have hz1___1___1 : 1 + 1 + 1 < N := by omega
  have hz1___1___2 : 1 + 1 + 2 < N := by omega
  have hz1___1___3 : 1 + 1 + 3 < N := by omega
  have hz1___5 : 1 + 5 < N := by omega
  have hz1___6 : 1 + 6 < N := by omega
  have hz1___7 : 1 + 7 < N := by omega
  have hz9 : 9 < N := by omega
  have hz17 : 17 < N := by omega
  have hz17___1 : 17 + 1 < N := by omega
  have hz67 : 67 < N := by omega
  have hz67___1 : 67 + 1 < N := by omega
  have hz69 : 69 < N := by omega
  have hz69___1 : 69 + 1 < N := by omega
  have hz69___2 : 69 + 2 < N := by omega
  have hz69___3 : 69 + 3 < N := by omega
  have hz73 : 73 < N := by omega
  have hz1___1___3 : 1 + 1 + 3 < N := by omega
  have hz69___3 : 69 + 3 < N := by omega
  have hl : lv_has ls 5 [(0, .ref (ad 0)), (1, .int (nI w)), (2, .int y), (3, .int k9)] := hl
  refine lv_iload_n hx hb (dk kX5_put_ok 0 rfl) rfl (lv_at hl 1 rfl) ?_
  refine csPv (As := [.int (nI w)]) (rest := []) ⟨hx, hb, hml, hown, hts⟩ (tX5_requireWink_ok l (nI w) (wk_nI hw)) (cwS9 1 hts mcX5_requireWink (ac8 _ (List.mem_of_getElem? (i := 20) rfl)) msX5_requireWink mini_RX5 rfl rfl hdX5_requireWink ⟨Nat.le_of_ble_eq_true rfl, Nat.le_of_ble_eq_true rfl⟩) rfl hl.1 rfl (Nat.le_of_ble_eq_true rfl) (by decide) (dk kX5_put_ok 1 rfl) ?_
  refine lv_iload_n hx hb (dk kX5_put_ok 2 rfl) rfl (lv_at hl 2 rfl) ?_
  refine lv_iload_n hx hb (dk kX5_put_ok 3 rfl) rfl (lv_at hl 3 rfl) ?_
  refine csPv (As := [.int y, .int k9]) (rest := []) ⟨hx, hb, hml, hown, hts⟩ (tX5_requireCell_ok l y k9 hon) (cwS9 2 hts mcX5_requireCell (ac9 _ (List.mem_of_getElem? (i := 14) rfl)) msX5_requireCell mini_RX5 rfl rfl hdX5_requireCell ⟨Nat.le_of_ble_eq_true rfl, Nat.le_of_ble_eq_true rfl⟩) rfl hl.1 rfl (Nat.le_of_ble_eq_true rfl) (by decide) (dk kX5_put_ok 4 rfl) ?_
  refine lv_aload_n hx hb (dk kX5_put_ok 5 rfl) rfl (lv_at hl 0 rfl) ?_
  refine gf hx hb hts (fun w h => List.mem_cons_of_mem _ (acX5 w h)) hown hK hP hz0 hC rfl 0 (by decide) (hts _ (List.mem_cons_of_mem _ (ac7 _ (List.mem_of_getElem? (i := 10) rfl)))) (fun _ h => h) rfl (dk kX5_put_ok 6 rfl) ?_
  refine gfN hx hb hts (fun w h => List.mem_cons_of_mem _ (acX4 w h)) hown hK hP hz1 hN.1 rfl 0 (by decide) (nf2 hNW) (fun _ h => h) rfl (dk kX5_put_ok 7 rfl) ?_
  refine cvR (As := []) (rest := []) ⟨hx, hb, hml, hown, hts⟩ (tX1_isOver l D cI cQ cL ad N F (1 + 1) (by omega) c b v hN.2.1) (cwV9 0 hts mcX1_isOver (ac10 _ (List.mem_of_getElem? (i := 5) rfl)) miX1_isOver meX1_isOver mini_RX1 rfl rfl hdX1_isOver ⟨Nat.le_of_ble_eq_true rfl, Nat.le_of_ble_eq_true rfl⟩) hK hP hNW hz1___1 hN.2.1.1 rfl rfl hl.1 rfl (Nat.le_of_ble_eq_true rfl) (by decide) (dk kX5_put_ok 8 rfl) ?_
  refine b_if_ne (tgt := 36) hx hb (dk kX5_put_ok 9 rfl) (by decide) (fun h1 => ?_) (fun h1 => ?_)
  · exact absurd (hov.symm.trans h1) (by decide)
  · skip
    refine lv_aload_n hx hb (dk kX5_put_ok 10 rfl) rfl (lv_at hl 0 rfl) ?_
    refine gf hx hb hts (fun w h => List.mem_cons_of_mem _ (acX5 w h)) hown hK hP hz0 hC rfl 0 (by decide) (hts _ (List.mem_cons_of_mem _ (ac7 _ (List.mem_of_getElem? (i := 10) rfl)))) (fun _ h => h) rfl (dk kX5_put_ok 11 rfl) ?_
    refine gfN hx hb hts (fun w h => List.mem_cons_of_mem _ (acX4 w h)) hown hK hP hz1 hN.1 rfl 0 (by decide) (nf2 hNW) (fun _ h => h) rfl (dk kX5_put_ok 12 rfl) ?_
    refine lv_iload_n hx hb (dk kX5_put_ok 13 rfl) rfl (lv_at hl 1 rfl) ?_
    refine cvR (As := [.int (nI w)]) (rest := []) ⟨hx, hb, hml, hown, hts⟩ (tX1_isCovered l D cI cQ cL ad N F (1 + 1) (by omega) c b v hN.2.1 (nI w) w rfl (by omega)) (cwV9 1 hts mcX1_isCovered (ac10 _ (List.mem_of_getElem? (i := 6) rfl)) miX1_isCovered meX1_isCovered mini_RX1 rfl rfl hdX1_isCovered ⟨Nat.le_of_ble_eq_true rfl, Nat.le_of_ble_eq_true rfl⟩) hK hP hNW hz1___1 hN.2.1.1 rfl rfl hl.1 rfl (Nat.le_of_ble_eq_true rfl) (by decide) (dk kX5_put_ok 14 rfl) ?_
    refine b_if_eq (tgt := 46) hx hb (dk kX5_put_ok 15 rfl) (by decide) (fun h2 => ?_) (fun h2 => ?_)
    · skip
      refine lv_aload_n hx hb (dk kX5_put_ok 21 rfl) rfl (lv_at hl 0 rfl) ?_
      refine gf hx hb hts (fun w h => List.mem_cons_of_mem _ (acX5 w h)) hown hK hP hz0 hC rfl 2 (by decide) (hts _ (List.mem_cons_of_mem _ (ac7 _ (List.mem_of_getElem? (i := 15) rfl)))) (fun _ h => h) rfl (dk kX5_put_ok 22 rfl) ?_
      refine lv_aload_n hx hb (dk kX5_put_ok 23 rfl) rfl (lv_at hl 0 rfl) ?_
      refine gf hx hb hts (fun w h => List.mem_cons_of_mem _ (acX5 w h)) hown hK hP hz0 hC rfl 0 (by decide) (hts _ (List.mem_cons_of_mem _ (ac7 _ (List.mem_of_getElem? (i := 10) rfl)))) (fun _ h => h) rfl (dk kX5_put_ok 24 rfl) ?_
      refine cvDv (As := [.ref (ad 1)]) (rest := []) (paSet cQ ad (sSet cI ad F (17 + 2 + 8 * n9) c b v g h j (nI t) u z) 17 ((n9 + 1) % 6) (min (m9 + 1) 6)) ⟨hx, hb, hml, hown, hts⟩ (tX2_save l D cI cQ cL ad N F 17 n9 m9 hn9 hm9 (by omega) hPa cr br vr gr hr9 jr tr ur zr hRi (by omega) 1 (by omega) c b v g h j t u z hN (by omega)) (cwV9 1 hts mcX2_save (ac9 _ (List.mem_of_getElem? (i := 6) rfl)) miX2_save meX2_save mini_RX2 rfl rfl hdX2_save ⟨Nat.le_of_ble_eq_true rfl, Nat.le_of_ble_eq_true rfl⟩) hDi hK hP hNW hS hz17 hPa.1 rfl rfl hl.1 rfl (Nat.le_of_ble_eq_true rfl) (by decide) (dk kX5_put_ok 25 rfl) rfl (fun H locs hP hS => ?_)
      refine lv_iload_n hx hb (dk kX5_put_ok 26 rfl) rfl (lv_at hl 2 rfl) ?_
      refine lv_iload_n hx hb (dk kX5_put_ok 27 rfl) rfl (lv_at hl 3 rfl) ?_
      refine csP (As := [.int y, .int k9]) (rest := []) ⟨hx, hb, hml, hown, hts⟩ (tX5_cellAt l y k9) (cwS9 2 hts mcX5_cellAt (ac0 _ (List.mem_of_getElem? (i := 6) rfl)) msX5_cellAt mini_RX5 rfl rfl hdX5_cellAt ⟨Nat.le_of_ble_eq_true rfl, Nat.le_of_ble_eq_true rfl⟩) rfl hl.1 rfl (Nat.le_of_ble_eq_true rfl) (by decide) (dk kX5_put_ok 28 rfl) ?_
      refine lv_istore (lv' := [(4, .int (cat y k9)), (0, .ref (ad 0)), (1, .int (nI w)), (2, .int y), (3, .int k9)]) hx hb (dk kX5_put_ok 29 rfl) hl (by decide) rfl (fun ls hl => ?_)
      refine lv_aload_n hx hb (dk kX5_put_ok 30 rfl) rfl (lv_at hl 1 rfl) ?_
      refine gf hx hb hts (fun w h => List.mem_cons_of_mem _ (acX5 w h)) hown hK hP hz0 ((paSet_out (by omega)).trans ((sSet_out (by omega)).trans hC)) rfl 0 (by decide) (hts _ (List.mem_cons_of_mem _ (ac7 _ (List.mem_of_getElem? (i := 10) rfl)))) (fun _ h => h) rfl (dk kX5_put_ok 31 rfl) ?_
      refine gfN hx hb hts (fun w h => List.mem_cons_of_mem _ (acX4 w h)) hown hK hP hz1 (stAt_keep (stAt_keep hN (fun i _ _ => sSet_out (by omega))) (fun i _ _ => paSet_out (by omega))).1 rfl 0 (by decide) (nf2 hNW) (fun _ h => h) rfl (dk kX5_put_ok 32 rfl) ?_
      refine lv_iload_n hx hb (dk kX5_put_ok 33 rfl) rfl (lv_at hl 2 rfl) ?_
      refine lv_iload hx hb (dk kX5_put_ok 34 rfl) (lv_at hl 0 rfl) ?_
      replace hP := st_touch (stAt_keep (stAt_keep hN (fun i _ _ => sSet_out (by omega))) (fun i _ _ => paSet_out (by omega))) hP
      refine cvDv (As := [.int (nI w), .int (cat y k9)]) (rest := []) (sSet cI ad (paSet cQ ad (sSet cI ad F (17 + 2 + 8 * n9) c b v g h j (nI t) u z) 17 ((n9 + 1) % 6) (min (m9 + 1) 6)) 1 (mov1 c b v w (cat y k9)) (mov2 c b v w (cat y k9)) (mov3 c b v w (cat y k9)) g h j (nI t) u z) ⟨hx, hb, hml, hown, hts⟩ (tX1_move l D cI cQ cL ad N (sSet cI ad (paSet cQ ad (sSet cI ad F (17 + 2 + 8 * n9) c b v g h j (nI t) u z) 17 ((n9 + 1) % 6) (min (m9 + 1) 6)) 1 c b v g h j (nI t) u z) (1 + 1) (by omega) c b v (sSet_at (stAt_keep (stAt_keep hN (fun i _ _ => sSet_out (by omega))) (fun i _ _ => paSet_out (by omega)))).2.1 (nI w) w rfl (by omega) (cat y k9)) (cwV9 2 hts mcX1_move (ac10 _ (List.mem_of_getElem? (i := 7) rfl)) miX1_move meX1_move mini_RX1 rfl rfl hdX1_move ⟨Nat.le_of_ble_eq_true rfl, Nat.le_of_ble_eq_true rfl⟩) hDi hK hP hNW hS hz1___1 (sSet_at (stAt_keep (stAt_keep hN (fun i _ _ => sSet_out (by omega))) (fun i _ _ => paSet_out (by omega)))).2.1.1 rfl rfl hl.1 rfl (Nat.le_of_ble_eq_true rfl) (by decide) (dk kX5_put_ok 35 rfl) sSet_m (fun H locs hP hS => ?_)
      refine lv_aload_n hx hb (dk kX5_put_ok 36 rfl) rfl (lv_at hl 1 rfl) ?_
      refine gf hx hb hts (fun w h => List.mem_cons_of_mem _ (acX5 w h)) hown hK hP hz0 ((sSet_out (by omega)).trans ((paSet_out (by omega)).trans ((sSet_out (by omega)).trans hC))) rfl 0 (by decide) (hts _ (List.mem_cons_of_mem _ (ac7 _ (List.mem_of_getElem? (i := 10) rfl)))) (fun _ h => h) rfl (dk kX5_put_ok 37 rfl) ?_
      refine gfN hx hb hts (fun w h => List.mem_cons_of_mem _ (acX4 w h)) hown hK hP hz1 (sSet_at (stAt_keep (stAt_keep hN (fun i _ _ => sSet_out (by omega))) (fun i _ _ => paSet_out (by omega)))).1 rfl 0 (by decide) (nf2 hNW) (fun _ h => h) rfl (dk kX5_put_ok 38 rfl) ?_
      refine lv_iload hx hb (dk kX5_put_ok 39 rfl) (lv_at hl 0 rfl) ?_
      refine cvR (As := [.int (cat y k9)]) (rest := []) ⟨hx, hb, hml, hown, hts⟩ (tX1_heightAt l D cI cQ cL ad N (sSet cI ad (paSet cQ ad (sSet cI ad F (17 + 2 + 8 * n9) c b v g h j (nI t) u z) 17 ((n9 + 1) % 6) (min (m9 + 1) 6)) 1 (mov1 c b v w (cat y k9)) (mov2 c b v w (cat y k9)) (mov3 c b v w (cat y k9)) g h j (nI t) u z) (1 + 1) (by omega) (mov1 c b v w (cat y k9)) (mov2 c b v w (cat y k9)) (mov3 c b v w (cat y k9)) (sSet_at (stAt_keep (stAt_keep hN (fun i _ _ => sSet_out (by omega))) (fun i _ _ => paSet_out (by omega)))).2.1 (cat y k9)) (cwV9 1 hts mcX1_heightAt (ac10 _ (List.mem_of_getElem? (i := 4) rfl)) miX1_heightAt meX1_heightAt mini_RX1 rfl rfl hdX1_heightAt ⟨Nat.le_of_ble_eq_true rfl, Nat.le_of_ble_eq_true rfl⟩) hK hP hNW hz1___1 (sSet_at (stAt_keep (stAt_keep hN (fun i _ _ => sSet_out (by omega))) (fun i _ _ => paSet_out (by omega)))).2.1.1 rfl rfl hl.1 rfl (Nat.le_of_ble_eq_true rfl) (by decide) (dk kX5_put_ok 40 rfl) ?_
      exact hret _ _ _ _ _ _ _ _ rfl (by exact ⟨rfl, rfl⟩) hP hS (by decide) (by decide) (dk kX5_put_ok 41 rfl)
    · exact absurd (hcv.symm.trans h2) (by decide)
set_option maxRecDepth 100000 in
set_option maxHeartbeats 4000000 in
theorem tX5_tryFlight (l : Launch) (D : va_G) (cI cQ cL : ClassId) (ad : Nat → Nat) (N : Nat) (F : Nat → va_E) (hk : 76 < N) (c b v g h j : Nat → Int32) (t : Nat) (u z : Int32) (hN : stAt cI ad F 1 c b v g h j (nI t) u z) (c8 b8 v8 g8 h8 j8 : Nat → Int32) (t8 : Nat) (u8 z8 : Int32) (hSn : stAt cI ad F 9 c8 b8 v8 g8 h8 j8 (nI t8) u8 z8) (n9 m9 : Nat) (hn9 : n9 < 6) (hm9 : m9 ≤ 6) (hPa : paAt cQ ad F 17 n9 m9) (a : Nat → Int32) (n : Nat) (hn60 : n ≤ 60) (hT : gtAt cI ad F 67 a n) (c6 b6 v6 : Nat → Int32) (hM6 : matAt cI ad F 69 c6 b6 v6) (a7 d7 q7 : Nat → Int32) (hO : roAt cI ad F 73 a7 d7 q7) (hs : Bool) (hC : F 0 = .inr (5, [.ref (ad 1), .ref (ad 9), .ref (ad 17), .ref (ad 67), .ref (ad 69), .ref (ad 73), .int (bI hs)])) (x : Int32) (w : Nat) (hxw : x = nI w) (hw : w < 16) (d : Int32) (k9 : Int32) (f : Nat) (hkf : k9 = nI f) (hf : 1 ≤ f ∧ f ≤ 9) : MX l yX5_tryFlight (Cond.code yX5_tryFlight cX5_tryFlight 5 none :: AW) ({ frames := 3, cells := 0, slots := 0, locals := 68 } : Room) D cI cQ cL ad N F [.ref (ad 0), .int x, .int d, .int k9] (dp none (mSet cI F 69 (mov1 c b v w (rest9 w (ldg (c w) d (stp w f)))) (mov2 c b v w (rest9 w (ldg (c w) d (stp w f)))) (mov3 c b v w (rest9 w (ldg (c w) d (stp w f)))))) 0 0 := by
  refine mx_v (by decide +kernel) rfl (Nat.le_of_ble_eq_true rfl) (fun p e s m below meth cd Q ls hx hb hml hown hts hDi hP hK hNW hS hret hl => ?_)
  have hown : s.vm.findClass RX5 = some m.cls := hown
  subst hxw
  subst hkf
  have hst : stp w f < 2 ^ 31 := by unfold stp; split <;> omega
  have hz0 : 0 < N := by omega
  have hz1 : 1 < N := by omega
  have hz1___1 : 1 + 1 < N := by omega
  have hz1___1___1 : 1 + 1 + 1 < N := by omega
  have hz1___1___2 : 1 + 1 + 2 < N := by omega
  have hz1___1___3 : 1 + 1 + 3 < N := by omega
  have hz1___5 : 1 + 5 < N := by omega
  have hz1___6 : 1 + 6 < N := by omega
  have hz1___7 : 1 + 7 < N := by omega
  have hz9 : 9 < N := by omega
  have hz17 : 17 < N := by omega
  have hz17___1 : 17 + 1 < N := by omega
  have hz67 : 67 < N := by omega
  have hz67___1 : 67 + 1 < N := by omega
  have hz69 : 69 < N := by omega
  have hz69___1 : 69 + 1 < N := by omega
  have hz69___2 : 69 + 2 < N := by omega
  have hz69___3 : 69 + 3 < N := by omega
  have hz73 : 73 < N := by omega
  have hz1___1___3 : 1 + 1 + 3 < N := by omega
  have hz69___3 : 69 + 3 < N := by omega
  have hl : lv_has ls 5 [(0, .ref (ad 0)), (1, .int (nI w)), (2, .int d), (3, .int (nI f))] := hl
  refine lv_aload_n hx hb (dk kX5_tryFlight_ok 0 rfl) rfl (lv_at hl 0 rfl) ?_
  refine gf hx hb hts (fun w h => List.mem_cons_of_mem _ (acX5 w h)) hown hK hP hz0 hC rfl 4 (by decide) (hts _ (List.mem_cons_of_mem _ (ac7 _ (List.mem_of_getElem? (i := 21) rfl)))) (fun _ h => h) rfl (dk kX5_tryFlight_ok 1 rfl) ?_
  refine lv_aload_n hx hb (dk kX5_tryFlight_ok 2 rfl) rfl (lv_at hl 0 rfl) ?_
  refine gf hx hb hts (fun w h => List.mem_cons_of_mem _ (acX5 w h)) hown hK hP hz0 hC rfl 0 (by decide) (hts _ (List.mem_cons_of_mem _ (ac7 _ (List.mem_of_getElem? (i := 10) rfl)))) (fun _ h => h) rfl (dk kX5_tryFlight_ok 3 rfl) ?_
  refine gfN hx hb hts (fun w h => List.mem_cons_of_mem _ (acX4 w h)) hown hK hP hz1 hN.1 rfl 0 (by decide) (nf2 hNW) (fun _ h => h) rfl (dk kX5_tryFlight_ok 4 rfl) ?_
  refine cvDv (As := [.ref (ad (1 + 1))]) (rest := []) (mSet cI F 69 c b v) ⟨hx, hb, hml, hown, hts⟩ (tX1_copyFrom l D cI cQ cL ad N F 69 (by omega) c6 b6 v6 hM6 (1 + 1) (by omega) (by omega) c b v hN.2.1) (cwV9 1 hts mcX1_copyFrom (ac12 _ (List.mem_of_getElem? (i := 16) rfl)) miX1_copyFrom meX1_copyFrom mini_RX1 rfl rfl hdX1_copyFrom ⟨Nat.le_of_ble_eq_true rfl, Nat.le_of_ble_eq_true rfl⟩) hDi hK hP hNW hS hz69 hM6.1 rfl rfl hl.1 rfl (Nat.le_of_ble_eq_true rfl) (by decide) (dk kX5_tryFlight_ok 5 rfl) rfl (fun H locs hP hS => ?_)
  refine lv_aload_n hx hb (dk kX5_tryFlight_ok 6 rfl) rfl (lv_at hl 0 rfl) ?_
  refine gf hx hb hts (fun w h => List.mem_cons_of_mem _ (acX5 w h)) hown hK hP hz0 ((mSet_out (by omega)).trans hC) rfl 4 (by decide) (hts _ (List.mem_cons_of_mem _ (ac7 _ (List.mem_of_getElem? (i := 21) rfl)))) (fun _ h => h) rfl (dk kX5_tryFlight_ok 7 rfl) ?_
  refine gfN hx hb hts (fun w h => List.mem_cons_of_mem _ (acX1 w h)) hown hK hP hz69 (mSet_at hM6).1 rfl 0 (by decide) (nf1 hNW) (fun _ h => h) rfl (dk kX5_tryFlight_ok 8 rfl) ?_
  refine lv_iload_n hx hb (dk kX5_tryFlight_ok 9 rfl) rfl (lv_at hl 1 rfl) ?_
  refine ald (j := w) hx hb hK hP hz69___1 (mSet_at hM6).2.1 rfl (by omega) (by decide) (dk kX5_tryFlight_ok 10 rfl) ?_
  refine lv_iload_n hx hb (dk kX5_tryFlight_ok 11 rfl) rfl (lv_at hl 2 rfl) ?_
  refine lv_iload_n hx hb (dk kX5_tryFlight_ok 12 rfl) rfl (lv_at hl 1 rfl) ?_
  refine lv_iload_n hx hb (dk kX5_tryFlight_ok 13 rfl) rfl (lv_at hl 3 rfl) ?_
  refine csP (As := [.int (nI w), .int (nI f)]) (rest := [.int d, .int (c w)]) ⟨hx, hb, hml, hown, hts⟩ (tX5_stepsOf l (nI w) w rfl (by omega) (nI f) f rfl (by omega)) (cwS9 2 hts mcX5_stepsOf (ac12 _ (List.mem_of_getElem? (i := 13) rfl)) msX5_stepsOf mini_RX5 rfl rfl hdX5_stepsOf ⟨Nat.le_of_ble_eq_true rfl, Nat.le_of_ble_eq_true rfl⟩) rfl hl.1 rfl (Nat.le_of_ble_eq_true rfl) (by decide) (dk kX5_tryFlight_ok 14 rfl) ?_
  refine csP (As := [.int (c w), .int d, .int (nI (stp w f))]) (rest := []) ⟨hx, hb, hml, hown, hts⟩ (tX5_landing l (c w) d (nI (stp w f)) (stp w f) rfl (by omega)) (cwS9 3 hts mcX5_landing (ac12 _ (List.mem_of_getElem? (i := 14) rfl)) msX5_landing mini_RX5 rfl rfl hdX5_landing ⟨Nat.le_of_ble_eq_true rfl, Nat.le_of_ble_eq_true rfl⟩) rfl hl.1 rfl (Nat.le_of_ble_eq_true rfl) (by decide) (dk kX5_tryFlight_ok 15 rfl) ?_
  refine lv_istore (lv' := [(4, .int (ldg (c w) d (stp w f))), (0, .ref (ad 0)), (1, .int (nI w)), (2, .int d), (3, .int (nI f))]) hx hb (dk kX5_tryFlight_ok 16 rfl) hl (by decide) rfl (fun ls hl => ?_)
  refine lv_aload_n hx hb (dk kX5_tryFlight_ok 17 rfl) rfl (lv_at hl 1 rfl) ?_
  refine gf hx hb hts (fun w h => List.mem_cons_of_mem _ (acX5 w h)) hown hK hP hz0 ((mSet_out (by omega)).trans hC) rfl 4 (by decide) (hts _ (List.mem_cons_of_mem _ (ac7 _ (List.mem_of_getElem? (i := 21) rfl)))) (fun _ h => h) rfl (dk kX5_tryFlight_ok 18 rfl) ?_
  refine lv_iload_n hx hb (dk kX5_tryFlight_ok 19 rfl) rfl (lv_at hl 2 rfl) ?_
  refine lv_iload_n hx hb (dk kX5_tryFlight_ok 20 rfl) rfl (lv_at hl 2 rfl) ?_
  refine lv_iload hx hb (dk kX5_tryFlight_ok 21 rfl) (lv_at hl 0 rfl) ?_
  refine csP (As := [.int (nI w), .int (ldg (c w) d (stp w f))]) (rest := [.int (nI w), .ref (ad 69)]) ⟨hx, hb, hml, hown, hts⟩ (tX5_restingCell l (nI w) w rfl (by omega) (ldg (c w) d (stp w f))) (cwS9 2 hts mcX5_restingCell (ac12 _ (List.mem_of_getElem? (i := 17) rfl)) msX5_restingCell mini_RX5 rfl rfl hdX5_restingCell ⟨Nat.le_of_ble_eq_true rfl, Nat.le_of_ble_eq_true rfl⟩) rfl hl.1 rfl (Nat.le_of_ble_eq_true rfl) (by decide) (dk kX5_tryFlight_ok 22 rfl) ?_
  refine cvDv (As := [.int (nI w), .int (rest9 w (ldg (c w) d (stp w f)))]) (rest := []) (mSet cI F 69 (mov1 c b v w (rest9 w (ldg (c w) d (stp w f)))) (mov2 c b v w (rest9 w (ldg (c w) d (stp w f)))) (mov3 c b v w (rest9 w (ldg (c w) d (stp w f))))) ⟨hx, hb, hml, hown, hts⟩ (tX1_move l D cI cQ cL ad N (mSet cI F 69 c b v) 69 (by omega) c b v (mSet_at hM6) (nI w) w rfl (by omega) (rest9 w (ldg (c w) d (stp w f)))) (cwV9 2 hts mcX1_move (ac10 _ (List.mem_of_getElem? (i := 7) rfl)) miX1_move meX1_move mini_RX1 rfl rfl hdX1_move ⟨Nat.le_of_ble_eq_true rfl, Nat.le_of_ble_eq_true rfl⟩) hDi hK hP hNW hS hz69 (mSet_at hM6).1 rfl rfl hl.1 rfl (Nat.le_of_ble_eq_true rfl) (by decide) (dk kX5_tryFlight_ok 23 rfl) mSet_mSet (fun H locs hP hS => ?_)
  exact hret _ _ _ _ _ _ _ (by exact ⟨rfl, rfl⟩) hP hS (by decide) (by decide) (dk kX5_tryFlight_ok 24 rfl)
end
section
theorem m_touch {D : va_G} {cl : List vw_C} {cI : ClassId} {ad : Nat → Nat} {N : Nat} {F : Nat → va_E} {H : Heap} {k : Nat} {c b v : Nat → Int32} (hM : matAt cI ad F k c b v) (hP : va_P D cl (iW ad N F) H) : va_P D cl (iW ad N (mSet cI F k c b v)) H := by
  rw [mSet_self hM]
  exact hP
def cM1 (c b v : Nat → Int32) (w : Nat) (d : Int32) (f : Nat) : Nat → Int32 := mov1 c b v w (rest9 w (ldg (c w) d (stp w f)))
def cM2 (c b v : Nat → Int32) (w : Nat) (d : Int32) (f : Nat) : Nat → Int32 := mov2 c b v w (rest9 w (ldg (c w) d (stp w f)))
def cM3 (c b v : Nat → Int32) (w : Nat) (d : Int32) (f : Nat) : Nat → Int32 := mov3 c b v w (rest9 w (ldg (c w) d (stp w f)))
def cLd (c b v : Nat → Int32) (w : Nat) (d : Int32) (f : Nat) : Int32 := nI (ptt (cM1 c b v w d f) (cM3 c b v w d f) (w / 4 % 2)) - nI (ptt (cM1 c b v w d f) (cM3 c b v w d f) (1 - w / 4 % 2))
def cCv (c b v : Nat → Int32) (w : Nat) (d : Int32) (f : Nat) : Nat := covc (cM3 c b v w d f) (1 - w / 4 % 2) + covc (cM3 c b v w d f) (1 - w / 4 % 2 + 2)
def cIf (c b v : Nat → Int32) (w : Nat) (d : Int32) (f : Nat) (y : Int32) : Int32 := if y = 0 then cLd c b v w d f else nI (cCv c b v w d f)
abbrev CSt : Type := Int32 × Int32 × Int32 × (Nat → Int32) × (Nat → Int32) × (Nat → Int32)
def cNw (c b v : Nat → Int32) (w i : Nat) : CSt := (nI (100 * w + 10 * (i / 9) + (i % 9 + 1)), cLd c b v w (nI (i / 9)) (i % 9 + 1), nI (cCv c b v w (nI (i / 9)) (i % 9 + 1)), cM1 c b v w (nI (i / 9)) (i % 9 + 1), cM2 c b v w (nI (i / 9)) (i % 9 + 1), cM3 c b v w (nI (i / 9)) (i % 9 + 1))
def cOl (c b v : Nat → Int32) (w i : Nat) (s : CSt) : CSt := (s.1, s.2.1, s.2.2.1, cM1 c b v w (nI (i / 9)) (i % 9 + 1), cM2 c b v w (nI (i / 9)) (i % 9 + 1), cM3 c b v w (nI (i / 9)) (i % 9 + 1))
def cbI (c b v : Nat → Int32) (w : Nat) : Nat → CSt → CSt
  | 0, s => s
  | i + 1, s => if (cbI c b v w i s).1 = -1 then cNw c b v w i else if (cbI c b v w i s).2.1 < cLd c b v w (nI (i / 9)) (i % 9 + 1) then cNw c b v w i else if cLd c b v w (nI (i / 9)) (i % 9 + 1) = (cbI c b v w i s).2.1 then (if nI (cCv c b v w (nI (i / 9)) (i % 9 + 1)) ≤ (cbI c b v w i s).2.2.1 then cOl c b v w i (cbI c b v w i s) else cNw c b v w i) else cOl c b v w i (cbI c b v w i s)
def cbO (c b v : Nat → Int32) (t : Nat) (s : CSt) : Nat → CSt
  | 0 => s
  | w + 1 => if wnf c v t w = 0 then cbI c b v w 72 (cbO c b v t s w) else cbO c b v t s w
theorem cbO_0 {c b v : Nat → Int32} {t : Nat} {s : CSt} : cbO c b v t s 0 = s := rfl
theorem cbO_s {c b v : Nat → Int32} {t w : Nat} {s : CSt} (h : wnf c v t w = 0) : cbO c b v t s (w + 1) = cbI c b v w 72 (cbO c b v t s w) := by
  simp only [cbO, h, if_true]
theorem cbO_n {c b v : Nat → Int32} {t w : Nat} {s : CSt} (h : wnf c v t w ≠ 0) : cbO c b v t s (w + 1) = cbO c b v t s w := by
  simp only [cbO, if_neg h]
theorem cbI_0 {c b v : Nat → Int32} {w : Nat} {s : CSt} : cbI c b v w 0 s = s := rfl
end
section
set_option maxRecDepth 100000 in
set_option maxHeartbeats 4000000 in
theorem tX5_ifFlown (l : Launch) (D : va_G) (cI cQ cL : ClassId) (ad : Nat → Nat) (N : Nat) (F : Nat → va_E) (hk : 76 < N) (c b v g h j : Nat → Int32) (t : Nat) (u z : Int32) (hN : stAt cI ad F 1 c b v g h j (nI t) u z) (c8 b8 v8 g8 h8 j8 : Nat → Int32) (t8 : Nat) (u8 z8 : Int32) (hSn : stAt cI ad F 9 c8 b8 v8 g8 h8 j8 (nI t8) u8 z8) (n9 m9 : Nat) (hn9 : n9 < 6) (hm9 : m9 ≤ 6) (hPa : paAt cQ ad F 17 n9 m9) (a : Nat → Int32) (n : Nat) (hn60 : n ≤ 60) (hT : gtAt cI ad F 67 a n) (c6 b6 v6 : Nat → Int32) (hM6 : matAt cI ad F 69 c6 b6 v6) (a7 d7 q7 : Nat → Int32) (hO : roAt cI ad F 73 a7 d7 q7) (hs : Bool) (hC : F 0 = .inr (5, [.ref (ad 1), .ref (ad 9), .ref (ad 17), .ref (ad 67), .ref (ad 69), .ref (ad 73), .int (bI hs)])) (ht : t < 4) (x : Int32) (w : Nat) (hxw : x = nI w) (hw : w < 16) (d : Int32) (hd9 : btw d (nI 0) (nI 7) = true) (k9 : Int32) (f : Nat) (hkf : k9 = nI f) (hf : 1 ≤ f ∧ f ≤ 9) (y : Int32) (hy9 : btw y (nI 0) (nI 1) = true) (hwn : wnf c v t w = 0) : MX l yX5_ifFlown (Cond.code yX5_ifFlown cX5_ifFlown 5 (some .int) :: AW) ({ frames := 8, cells := 0, slots := 0, locals := 123 } : Room) D cI cQ cL ad N F [.ref (ad 0), .int x, .int d, .int k9, .int y] (dp (some (.int (cIf c b v w d f y))) (mSet cI F 69 (cM1 c b v w d f) (cM2 c b v w d f) (cM3 c b v w d f))) 0 0 := by
  refine mx_i (ty := .int) (by decide +kernel) rfl (Nat.le_of_ble_eq_true rfl) (fun p e s m below meth cd Q ls hx hb hml hown hts hDi hP hK hNW hS hret hl => ?_)
  have hown : s.vm.findClass RX5 = some m.cls := hown
  subst hxw
  subst hkf
  have hst : stp w f < 2 ^ 31 := by unfold stp; split <;> omega
  have hz0 : 0 < N := by omega
  have hz1 : 1 < N := by omega
  have hz1___1 : 1 + 1 < N := by omega
  have hz1___1___1 : 1 + 1 + 1 < N := by omega
  have hz1___1___2 : 1 + 1 + 2 < N := by omega
  have hz1___1___3 : 1 + 1 + 3 < N := by omega
  have hz1___5 : 1 + 5 < N := by omega
  have hz1___6 : 1 + 6 < N := by omega
  have hz1___7 : 1 + 7 < N := by omega
  have hz9 : 9 < N := by omega
  have hz17 : 17 < N := by omega
  have hz17___1 : 17 + 1 < N := by omega
  have hz67 : 67 < N := by omega
  have hz67___1 : 67 + 1 < N := by omega
  have hz69 : 69 < N := by omega
  have hz69___1 : 69 + 1 < N := by omega
  have hz69___2 : 69 + 2 < N := by omega
  have hz69___3 : 69 + 3 < N := by omega
  have hz73 : 73 < N := by omega
  have hz1___1___3 : 1 + 1 + 3 < N := by omega
  have hz69___3 : 69 + 3 < N := by omega
  have hl : lv_has ls 5 [(0, .ref (ad 0)), (1, .int (nI w)), (2, .int d), (3, .int (nI f)), (4, .int y)] := hl
  refine lv_iload_n hx hb (dk kX5_ifFlown_ok 0 rfl) rfl (lv_at hl 1 rfl) ?_
  refine csPv (As := [.int (nI w)]) (rest := []) ⟨hx, hb, hml, hown, hts⟩ (tX5_requireWink_ok l (nI w) (wk_nI hw)) (cwS9 1 hts mcX5_requireWink (ac8 _ (List.mem_of_getElem? (i := 20) rfl)) msX5_requireWink mini_RX5 rfl rfl hdX5_requireWink ⟨Nat.le_of_ble_eq_true rfl, Nat.le_of_ble_eq_true rfl⟩) rfl hl.1 rfl (Nat.le_of_ble_eq_true rfl) (by decide) (dk kX5_ifFlown_ok 1 rfl) ?_
  refine lv_iload_n hx hb (dk kX5_ifFlown_ok 2 rfl) rfl (lv_at hl 2 rfl) ?_
  refine lv_iload_n hx hb (dk kX5_ifFlown_ok 3 rfl) rfl (lv_at hl 3 rfl) ?_
  refine csPv (As := [.int d, .int (nI f)]) (rest := []) ⟨hx, hb, hml, hown, hts⟩ (tX5_requireFlight_ok l d (nI f) hd9 (btw_nI hf)) (cwS9 2 hts mcX5_requireFlight (ac8 _ (List.mem_of_getElem? (i := 23) rfl)) msX5_requireFlight mini_RX5 rfl rfl hdX5_requireFlight ⟨Nat.le_of_ble_eq_true rfl, Nat.le_of_ble_eq_true rfl⟩) rfl hl.1 rfl (Nat.le_of_ble_eq_true rfl) (by decide) (dk kX5_ifFlown_ok 4 rfl) ?_
  refine lv_iload hx hb (dk kX5_ifFlown_ok 5 rfl) (lv_at hl 4 rfl) ?_
  refine lv_if_lt (tgt := 20) hx hb (dk kX5_ifFlown_ok 6 rfl) (by decide) (fun h1 => ?_) (fun h1 => ?_)
  · exact absurd h1 (rng_ok hy9).1
  · skip
    refine lv_iload hx hb (dk kX5_ifFlown_ok 7 rfl) (lv_at hl 4 rfl) ?_
    refine lv_iconst (v := nI 1) hx hb (dk kX5_ifFlown_ok 8 rfl) rfl ?_
    refine lv_icmp_le (tgt := 31) hx hb (dk kX5_ifFlown_ok 9 rfl) (by decide) (fun h2 => ?_) (fun h2 => ?_)
    · skip
      refine lv_aload_n hx hb (dk kX5_ifFlown_ok 15 rfl) rfl (lv_at hl 0 rfl) ?_
      refine gf hx hb hts (fun w h => List.mem_cons_of_mem _ (acX5 w h)) hown hK hP hz0 hC rfl 0 (by decide) (hts _ (List.mem_cons_of_mem _ (ac7 _ (List.mem_of_getElem? (i := 10) rfl)))) (fun _ h => h) rfl (dk kX5_ifFlown_ok 16 rfl) ?_
      refine lv_iload_n hx hb (dk kX5_ifFlown_ok 17 rfl) rfl (lv_at hl 1 rfl) ?_
      refine cvR (As := [.int (nI w)]) (rest := []) ⟨hx, hb, hml, hown, hts⟩ (tX4_whyNotFlown l D cI cQ cL ad N F 1 (by omega) c b v g h j t u z hN ht (nI w) w rfl (by omega)) (cwV9 1 hts mcX4_whyNotFlown (ac9 _ (List.mem_of_getElem? (i := 2) rfl)) miX4_whyNotFlown meX4_whyNotFlown mini_RX4 rfl rfl hdX4_whyNotFlown ⟨Nat.le_of_ble_eq_true rfl, Nat.le_of_ble_eq_true rfl⟩) hK hP hNW hz1 hN.1 rfl rfl hl.1 rfl (Nat.le_of_ble_eq_true rfl) (by decide) (dk kX5_ifFlown_ok 18 rfl) ?_
      refine n_if_eq (tgt := 46) hx hb (by first | omega | (have q1 := wnf_le c v t w; omega)) (dk kX5_ifFlown_ok 19 rfl) (by decide) (fun h3 => ?_) (fun h3 => ?_)
      · skip
        refine lv_aload_n hx hb (dk kX5_ifFlown_ok 22 rfl) rfl (lv_at hl 0 rfl) ?_
        refine lv_iload_n hx hb (dk kX5_ifFlown_ok 23 rfl) rfl (lv_at hl 1 rfl) ?_
        refine lv_iload_n hx hb (dk kX5_ifFlown_ok 24 rfl) rfl (lv_at hl 2 rfl) ?_
        refine lv_iload_n hx hb (dk kX5_ifFlown_ok 25 rfl) rfl (lv_at hl 3 rfl) ?_
        refine cvDv (As := [.int (nI w), .int d, .int (nI f)]) (rest := []) (mSet cI F 69 (mov1 c b v w (rest9 w (ldg (c w) d (stp w f)))) (mov2 c b v w (rest9 w (ldg (c w) d (stp w f)))) (mov3 c b v w (rest9 w (ldg (c w) d (stp w f))))) ⟨hx, hb, hml, hown, hts⟩ (tX5_tryFlight l D cI cQ cL ad N F (by omega) c b v g h j t u z hN c8 b8 v8 g8 h8 j8 t8 u8 z8 hSn n9 m9 hn9 hm9 hPa a n hn60 hT c6 b6 v6 hM6 a7 d7 q7 hO hs hC (nI w) w rfl (by omega) d (nI f) f rfl (by omega)) (cwV9 3 hts mcX5_tryFlight (ac12 _ (List.mem_of_getElem? (i := 18) rfl)) miX5_tryFlight meX5_tryFlight mini_RX5 rfl rfl hdX5_tryFlight ⟨Nat.le_of_ble_eq_true rfl, Nat.le_of_ble_eq_true rfl⟩) hDi hK hP hNW hS hz0 hC rfl rfl hl.1 rfl (Nat.le_of_ble_eq_true rfl) (by decide) (dk kX5_ifFlown_ok 26 rfl) rfl (fun H locs hP hS => ?_)
        refine lv_iload hx hb (dk kX5_ifFlown_ok 27 rfl) (lv_at hl 4 rfl) ?_
        refine lv_if_ne (tgt := 72) hx hb (dk kX5_ifFlown_ok 28 rfl) (by decide) (fun h4 => ?_) (fun h4 => ?_)
        · skip
          refine lv_aload_n hx hb (dk kX5_ifFlown_ok 35 rfl) rfl (lv_at hl 0 rfl) ?_
          refine gf hx hb hts (fun w h => List.mem_cons_of_mem _ (acX5 w h)) hown hK hP hz0 ((mSet_out (by omega)).trans hC) rfl 4 (by decide) (hts _ (List.mem_cons_of_mem _ (ac7 _ (List.mem_of_getElem? (i := 21) rfl)))) (fun _ h => h) rfl (dk kX5_ifFlown_ok 36 rfl) ?_
          refine lv_iconst (v := nI 1) hx hb (dk kX5_ifFlown_ok 37 rfl) rfl ?_
          refine lv_iload_n hx hb (dk kX5_ifFlown_ok 38 rfl) rfl (lv_at hl 1 rfl) ?_
          refine csP (As := [.int (nI w)]) (rest := [.int (nI 1), .ref (ad 69)]) ⟨hx, hb, hml, hown, hts⟩ (tX5_teamOf l (nI w) w rfl (by omega)) (cwS9 1 hts mcX5_teamOf (ac12 _ (List.mem_of_getElem? (i := 22) rfl)) msX5_teamOf mini_RX5 rfl rfl hdX5_teamOf ⟨Nat.le_of_ble_eq_true rfl, Nat.le_of_ble_eq_true rfl⟩) rfl hl.1 rfl (Nat.le_of_ble_eq_true rfl) (by decide) (dk kX5_ifFlown_ok 39 rfl) ?_
          refine n_isub hx hb (by omega) (dk kX5_ifFlown_ok 40 rfl) ?_
          refine cvR (As := [.int (nI (1 - (w / 4 % 2)))]) (rest := []) ⟨hx, hb, hml, hown, hts⟩ (tX1_coveredOfTeam l D cI cQ cL ad N (mSet cI F 69 (mov1 c b v w (rest9 w (ldg (c w) d (stp w f)))) (mov2 c b v w (rest9 w (ldg (c w) d (stp w f)))) (mov3 c b v w (rest9 w (ldg (c w) d (stp w f))))) 69 (by omega) (mov1 c b v w (rest9 w (ldg (c w) d (stp w f)))) (mov2 c b v w (rest9 w (ldg (c w) d (stp w f)))) (mov3 c b v w (rest9 w (ldg (c w) d (stp w f)))) (mSet_at hM6) (nI (1 - (w / 4 % 2))) (1 - (w / 4 % 2)) rfl (by omega)) (cwV9 1 hts mcX1_coveredOfTeam (ac13 _ (List.mem_of_getElem? (i := 5) rfl)) miX1_coveredOfTeam meX1_coveredOfTeam mini_RX1 rfl rfl hdX1_coveredOfTeam ⟨Nat.le_of_ble_eq_true rfl, Nat.le_of_ble_eq_true rfl⟩) hK hP hNW hz69 (mSet_at hM6).1 rfl rfl hl.1 rfl (Nat.le_of_ble_eq_true rfl) (by decide) (dk kX5_ifFlown_ok 41 rfl) ?_
          exact hret _ _ _ _ _ _ _ _ rfl (by simp only [dp, cIf, cLd, cCv, cM1, cM2, cM3, (eq_false h1), (eq_true h2), (eq_true h3), (eq_false h4), not_true_eq_false, not_false_eq_true, and_true, true_and, and_false, false_and, or_true, true_or, or_false, false_or, and_self, or_self, if_true, if_false, Bool.false_eq_true, reduceIte]) hP hS (by decide) (by decide) (dk kX5_ifFlown_ok 42 rfl)
        · skip
          refine lv_aload_n hx hb (dk kX5_ifFlown_ok 29 rfl) rfl (lv_at hl 0 rfl) ?_
          refine gf hx hb hts (fun w h => List.mem_cons_of_mem _ (acX5 w h)) hown hK hP hz0 ((mSet_out (by omega)).trans hC) rfl 4 (by decide) (hts _ (List.mem_cons_of_mem _ (ac7 _ (List.mem_of_getElem? (i := 21) rfl)))) (fun _ h => h) rfl (dk kX5_ifFlown_ok 30 rfl) ?_
          refine lv_iload_n hx hb (dk kX5_ifFlown_ok 31 rfl) rfl (lv_at hl 1 rfl) ?_
          refine csP (As := [.int (nI w)]) (rest := [.ref (ad 69)]) ⟨hx, hb, hml, hown, hts⟩ (tX5_teamOf l (nI w) w rfl (by omega)) (cwS9 1 hts mcX5_teamOf (ac12 _ (List.mem_of_getElem? (i := 22) rfl)) msX5_teamOf mini_RX5 rfl rfl hdX5_teamOf ⟨Nat.le_of_ble_eq_true rfl, Nat.le_of_ble_eq_true rfl⟩) rfl hl.1 rfl (Nat.le_of_ble_eq_true rfl) (by decide) (dk kX5_ifFlown_ok 32 rfl) ?_
          refine cvR (As := [.int (nI (w / 4 % 2))]) (rest := []) ⟨hx, hb, hml, hown, hts⟩ (tX1_leadOf l D cI cQ cL ad N (mSet cI F 69 (mov1 c b v w (rest9 w (ldg (c w) d (stp w f)))) (mov2 c b v w (rest9 w (ldg (c w) d (stp w f)))) (mov3 c b v w (rest9 w (ldg (c w) d (stp w f))))) 69 (by omega) (mov1 c b v w (rest9 w (ldg (c w) d (stp w f)))) (mov2 c b v w (rest9 w (ldg (c w) d (stp w f)))) (mov3 c b v w (rest9 w (ldg (c w) d (stp w f)))) (mSet_at hM6) (nI (w / 4 % 2)) (w / 4 % 2) rfl (by omega)) (cwV9 1 hts mcX1_leadOf (ac13 _ (List.mem_of_getElem? (i := 1) rfl)) miX1_leadOf meX1_leadOf mini_RX1 rfl rfl hdX1_leadOf ⟨Nat.le_of_ble_eq_true rfl, Nat.le_of_ble_eq_true rfl⟩) hK hP hNW hz69 (mSet_at hM6).1 rfl rfl hl.1 rfl (Nat.le_of_ble_eq_true rfl) (by decide) (dk kX5_ifFlown_ok 33 rfl) ?_
          refine lv_goto (tgt := 85) hx hb (dk kX5_ifFlown_ok 34 rfl) (by decide) ?_
          exact hret _ _ _ _ _ _ _ _ rfl (by simp only [dp, cIf, cLd, cCv, cM1, cM2, cM3, (eq_false h1), (eq_true h2), (eq_true h3), (eq_true h4), not_true_eq_false, not_false_eq_true, and_true, true_and, and_false, false_and, or_true, true_or, or_false, false_or, and_self, or_self, if_true, if_false, Bool.false_eq_true, reduceIte]) hP hS (by decide) (by decide) (dk kX5_ifFlown_ok 42 rfl)
      · exact absurd hwn h3
    · exact absurd (Int32.not_le.mp h2) (rng_ok hy9).2
set_option maxRecDepth 100000 in
set_option maxHeartbeats 4000000 in
theorem tX5_ifFlownX (l : Launch) (D : va_G) (cI cQ cL : ClassId) (ad : Nat → Nat) (N : Nat) (F : Nat → va_E) (hk : 76 < N) (c b v g h j : Nat → Int32) (t : Nat) (u z : Int32) (hN : stAt cI ad F 1 c b v g h j (nI t) u z) (c8 b8 v8 g8 h8 j8 : Nat → Int32) (t8 : Nat) (u8 z8 : Int32) (hSn : stAt cI ad F 9 c8 b8 v8 g8 h8 j8 (nI t8) u8 z8) (n9 m9 : Nat) (hn9 : n9 < 6) (hm9 : m9 ≤ 6) (hPa : paAt cQ ad F 17 n9 m9) (a : Nat → Int32) (n : Nat) (hn60 : n ≤ 60) (hT : gtAt cI ad F 67 a n) (c6 b6 v6 : Nat → Int32) (hM6 : matAt cI ad F 69 c6 b6 v6) (a7 d7 q7 : Nat → Int32) (hO : roAt cI ad F 73 a7 d7 q7) (hs : Bool) (hC : F 0 = .inr (5, [.ref (ad 1), .ref (ad 9), .ref (ad 17), .ref (ad 67), .ref (ad 69), .ref (ad 73), .int (bI hs)])) (ht : t < 4) (x : Int32) (w : Nat) (hxw : x = nI w) (hw : w < 16) (d : Int32) (hd9 : btw d (nI 0) (nI 7) = true) (k9 : Int32) (f : Nat) (hkf : k9 = nI f) (hf : 1 ≤ f ∧ f ≤ 9) (y : Int32) (hy9 : btw y (nI 0) (nI 1) = true) (hwn : wnf c v t w ≠ 0) : MR l yX5_ifFlown (Cond.code yX5_ifFlown cX5_ifFlown 5 (some .int) :: AW) ({ frames := 8, cells := 0, slots := 0, locals := 123 } : Room) D cI cQ cL ad N F [.ref (ad 0), .int x, .int d, .int k9, .int y] (.int (-1000)) := by
  refine mr_i (ty := .int) (by decide +kernel) rfl rfl rfl rfl (Nat.le_of_ble_eq_true rfl) (fun p e s m below meth cd Q ls hx hb hml hown hts hP hK hNW hret hl => ?_)
  have hown : s.vm.findClass RX5 = some m.cls := hown
  subst hxw
  subst hkf
  have hz0 : 0 < N := by omega
  have hz1 : 1 < N := by omega
  have hz1___1 : 1 + 1 < N := by omega
  have hz1___1___1 : 1 + 1 + 1 < N := by omega
  have hz1___1___2 : 1 + 1 + 2 < N := by omega
  have hz1___1___3 : 1 + 1 + 3 < N := by omega
  have hz1___5 : 1 + 5 < N := by omega
  have hz1___6 : 1 + 6 < N := by omega
  have hz1___7 : 1 + 7 < N := by omega
  have hz9 : 9 < N := by omega
  have hz17 : 17 < N := by omega
  have hz17___1 : 17 + 1 < N := by omega
  have hz67 : 67 < N := by omega
  have hz67___1 : 67 + 1 < N := by omega
  have hz69 : 69 < N := by omega
  have hz69___1 : 69 + 1 < N := by omega
  have hz69___2 : 69 + 2 < N := by omega
  have hz69___3 : 69 + 3 < N := by omega
  have hz73 : 73 < N := by omega
  have hz1___1___3 : 1 + 1 + 3 < N := by omega
  have hz69___3 : 69 + 3 < N := by omega
  have hl : lv_has ls 5 [(0, .ref (ad 0)), (1, .int (nI w)), (2, .int d), (3, .int (nI f)), (4, .int y)] := hl
  refine lv_iload_n hx hb (dk kX5_ifFlown_ok 0 rfl) rfl (lv_at hl 1 rfl) ?_
  refine csPv (As := [.int (nI w)]) (rest := []) ⟨hx, hb, hml, hown, hts⟩ (tX5_requireWink_ok l (nI w) (wk_nI hw)) (cwS9 1 hts mcX5_requireWink (ac8 _ (List.mem_of_getElem? (i := 20) rfl)) msX5_requireWink mini_RX5 rfl rfl hdX5_requireWink ⟨Nat.le_of_ble_eq_true rfl, Nat.le_of_ble_eq_true rfl⟩) rfl hl.1 rfl (Nat.le_of_ble_eq_true rfl) (by decide) (dk kX5_ifFlown_ok 1 rfl) ?_
  refine lv_iload_n hx hb (dk kX5_ifFlown_ok 2 rfl) rfl (lv_at hl 2 rfl) ?_
  refine lv_iload_n hx hb (dk kX5_ifFlown_ok 3 rfl) rfl (lv_at hl 3 rfl) ?_
  refine csPv (As := [.int d, .int (nI f)]) (rest := []) ⟨hx, hb, hml, hown, hts⟩ (tX5_requireFlight_ok l d (nI f) hd9 (btw_nI hf)) (cwS9 2 hts mcX5_requireFlight (ac8 _ (List.mem_of_getElem? (i := 23) rfl)) msX5_requireFlight mini_RX5 rfl rfl hdX5_requireFlight ⟨Nat.le_of_ble_eq_true rfl, Nat.le_of_ble_eq_true rfl⟩) rfl hl.1 rfl (Nat.le_of_ble_eq_true rfl) (by decide) (dk kX5_ifFlown_ok 4 rfl) ?_
  refine lv_iload hx hb (dk kX5_ifFlown_ok 5 rfl) (lv_at hl 4 rfl) ?_
  refine lv_if_lt (tgt := 20) hx hb (dk kX5_ifFlown_ok 6 rfl) (by decide) (fun h1 => ?_) (fun h1 => ?_)
  · exact absurd h1 (rng_ok hy9).1
  · skip
    refine lv_iload hx hb (dk kX5_ifFlown_ok 7 rfl) (lv_at hl 4 rfl) ?_
    refine lv_iconst (v := nI 1) hx hb (dk kX5_ifFlown_ok 8 rfl) rfl ?_
    refine lv_icmp_le (tgt := 31) hx hb (dk kX5_ifFlown_ok 9 rfl) (by decide) (fun h2 => ?_) (fun h2 => ?_)
    · skip
      refine lv_aload_n hx hb (dk kX5_ifFlown_ok 15 rfl) rfl (lv_at hl 0 rfl) ?_
      refine gf hx hb hts (fun w h => List.mem_cons_of_mem _ (acX5 w h)) hown hK hP hz0 hC rfl 0 (by decide) (hts _ (List.mem_cons_of_mem _ (ac7 _ (List.mem_of_getElem? (i := 10) rfl)))) (fun _ h => h) rfl (dk kX5_ifFlown_ok 16 rfl) ?_
      refine lv_iload_n hx hb (dk kX5_ifFlown_ok 17 rfl) rfl (lv_at hl 1 rfl) ?_
      refine cvR (As := [.int (nI w)]) (rest := []) ⟨hx, hb, hml, hown, hts⟩ (tX4_whyNotFlown l D cI cQ cL ad N F 1 (by omega) c b v g h j t u z hN ht (nI w) w rfl (by omega)) (cwV9 1 hts mcX4_whyNotFlown (ac9 _ (List.mem_of_getElem? (i := 2) rfl)) miX4_whyNotFlown meX4_whyNotFlown mini_RX4 rfl rfl hdX4_whyNotFlown ⟨Nat.le_of_ble_eq_true rfl, Nat.le_of_ble_eq_true rfl⟩) hK hP hNW hz1 hN.1 rfl rfl hl.1 rfl (Nat.le_of_ble_eq_true rfl) (by decide) (dk kX5_ifFlown_ok 18 rfl) ?_
      refine n_if_eq (tgt := 46) hx hb (by first | omega | (have q1 := wnf_le c v t w; omega)) (dk kX5_ifFlown_ok 19 rfl) (by decide) (fun h3 => ?_) (fun h3 => ?_)
      · exact absurd h3 hwn
      · skip
        refine lv_sipush (v := -1000) hx hb (dk kX5_ifFlown_ok 20 rfl) rfl ?_
        exact hret _ _ _ (by rfl) (dk kX5_ifFlown_ok 21 rfl)
    · exact absurd (Int32.not_le.mp h2) (rng_ok hy9).2
set_option maxRecDepth 100000 in
set_option maxHeartbeats 4000000 in
theorem tX5_flightsToX (l : Launch) (D : va_G) (cI cQ cL : ClassId) (ad : Nat → Nat) (N : Nat) (F : Nat → va_E) (hk : 76 < N) (c b v g h j : Nat → Int32) (t : Nat) (u z : Int32) (hN : stAt cI ad F 1 c b v g h j (nI t) u z) (c8 b8 v8 g8 h8 j8 : Nat → Int32) (t8 : Nat) (u8 z8 : Int32) (hSn : stAt cI ad F 9 c8 b8 v8 g8 h8 j8 (nI t8) u8 z8) (n9 m9 : Nat) (hn9 : n9 < 6) (hm9 : m9 ≤ 6) (hPa : paAt cQ ad F 17 n9 m9) (a : Nat → Int32) (n : Nat) (hn60 : n ≤ 60) (hT : gtAt cI ad F 67 a n) (c6 b6 v6 : Nat → Int32) (hM6 : matAt cI ad F 69 c6 b6 v6) (a7 d7 q7 : Nat → Int32) (hO : roAt cI ad F 73 a7 d7 q7) (hs : Bool) (hC : F 0 = .inr (5, [.ref (ad 1), .ref (ad 9), .ref (ad 17), .ref (ad 67), .ref (ad 69), .ref (ad 73), .int (bI hs)])) (x : Int32) (w : Nat) (hxw : x = nI w) (hw : w < 16) (hpt : pot c w = true) : MR l yX5_flightsTo (Cond.code yX5_flightsTo cX5_flightsTo 2 (some .int) :: AW) ({ frames := 7, cells := 0, slots := 0, locals := 102 } : Room) D cI cQ cL ad N F [.ref (ad 0), .int x] (.int (nI 0)) := by
  refine mr_i (ty := .int) (by decide +kernel) rfl rfl rfl rfl (Nat.le_of_ble_eq_true rfl) (fun p e s m below meth cd Q ls hx hb hml hown hts hP hK hNW hret hl => ?_)
  have hown : s.vm.findClass RX5 = some m.cls := hown
  subst hxw
  have hz0 : 0 < N := by omega
  have hz1 : 1 < N := by omega
  have hz1___1 : 1 + 1 < N := by omega
  have hz1___1___1 : 1 + 1 + 1 < N := by omega
  have hz1___1___2 : 1 + 1 + 2 < N := by omega
  have hz1___1___3 : 1 + 1 + 3 < N := by omega
  have hz1___5 : 1 + 5 < N := by omega
  have hz1___6 : 1 + 6 < N := by omega
  have hz1___7 : 1 + 7 < N := by omega
  have hz9 : 9 < N := by omega
  have hz17 : 17 < N := by omega
  have hz17___1 : 17 + 1 < N := by omega
  have hz67 : 67 < N := by omega
  have hz67___1 : 67 + 1 < N := by omega
  have hz69 : 69 < N := by omega
  have hz69___1 : 69 + 1 < N := by omega
  have hz69___2 : 69 + 2 < N := by omega
  have hz69___3 : 69 + 3 < N := by omega
  have hz73 : 73 < N := by omega
  have hz1___1___3 : 1 + 1 + 3 < N := by omega
  have hz69___3 : 69 + 3 < N := by omega
  have hl : lv_has ls 2 [(0, .ref (ad 0)), (1, .int (nI w))] := hl
  refine lv_iload_n hx hb (dk kX5_flightsTo_ok 0 rfl) rfl (lv_at hl 1 rfl) ?_
  refine csPv (As := [.int (nI w)]) (rest := []) ⟨hx, hb, hml, hown, hts⟩ (tX5_requireWink_ok l (nI w) (wk_nI hw)) (cwS9 1 hts mcX5_requireWink (ac8 _ (List.mem_of_getElem? (i := 20) rfl)) msX5_requireWink mini_RX5 rfl rfl hdX5_requireWink ⟨Nat.le_of_ble_eq_true rfl, Nat.le_of_ble_eq_true rfl⟩) rfl hl.1 rfl (Nat.le_of_ble_eq_true rfl) (by decide) (dk kX5_flightsTo_ok 1 rfl) ?_
  refine lv_aload_n hx hb (dk kX5_flightsTo_ok 2 rfl) rfl (lv_at hl 0 rfl) ?_
  refine gf hx hb hts (fun w h => List.mem_cons_of_mem _ (acX5 w h)) hown hK hP hz0 hC rfl 0 (by decide) (hts _ (List.mem_cons_of_mem _ (ac7 _ (List.mem_of_getElem? (i := 10) rfl)))) (fun _ h => h) rfl (dk kX5_flightsTo_ok 3 rfl) ?_
  refine gfN hx hb hts (fun w h => List.mem_cons_of_mem _ (acX4 w h)) hown hK hP hz1 hN.1 rfl 0 (by decide) (nf2 hNW) (fun _ h => h) rfl (dk kX5_flightsTo_ok 4 rfl) ?_
  refine lv_iload_n hx hb (dk kX5_flightsTo_ok 5 rfl) rfl (lv_at hl 1 rfl) ?_
  refine cvR (As := [.int (nI w)]) (rest := []) ⟨hx, hb, hml, hown, hts⟩ (tX1_isPotted l D cI cQ cL ad N F (1 + 1) (by omega) c b v hN.2.1 (nI w) w rfl (by omega)) (cwV9 1 hts mcX1_isPotted (ac12 _ (List.mem_of_getElem? (i := 12) rfl)) miX1_isPotted meX1_isPotted mini_RX1 rfl rfl hdX1_isPotted ⟨Nat.le_of_ble_eq_true rfl, Nat.le_of_ble_eq_true rfl⟩) hK hP hNW hz1___1 hN.2.1.1 rfl rfl hl.1 rfl (Nat.le_of_ble_eq_true rfl) (by decide) (dk kX5_flightsTo_ok 6 rfl) ?_
  refine b_if_eq (tgt := 22) hx hb (dk kX5_flightsTo_ok 7 rfl) (by decide) (fun h1 => ?_) (fun h1 => ?_)
  · exact absurd (hpt.symm.trans h1) (by decide)
  · skip
    refine lv_iconst (v := nI 0) hx hb (dk kX5_flightsTo_ok 8 rfl) rfl ?_
    refine lv_goto (tgt := 45) hx hb (dk kX5_flightsTo_ok 9 rfl) (by decide) ?_
    exact hret _ _ _ (by rfl) (dk kX5_flightsTo_ok 21 rfl)
end
section
section RS0
variable {p : Program} {l : Launch} {e : Env} {R : Room} {s : State} {m : MethodId} {args : Array Value} {below : List Frame} {meth : Method} {c : Code} {H : Heap} {locs : List Loc} {cells slots : Nat} {Q : State → Prop}
variable {cc : ByteArray} {pc : Nat} {ls : Array Slot} {rest : List Value}
theorem n_iadd0 (hx : p.tables.exec = Jvm.exec) (hb : c.code = cc) {b : Nat} (hdg : decode cc pc = .ok (.iadd, 1)) (k : W p l e R s m args below meth c H locs cells slots Q (F0 m (pc + 1) ls (.int (nI b) :: rest))) : W p l e R s m args below meth c H locs cells slots Q (F0 m pc ls (.int (nI b) :: .int (nI 0) :: rest)) :=
  n_iadd hx hb hdg (by rw [Nat.zero_add]; exact k)
end RS0
theorem btw_of {x : Int32} {a m : Nat} (ha : a < 2 ^ 31) (hm : m < 2 ^ 31) (h : btw x (nI a) (nI m) = true) : ∃ j : Nat, x = nI j ∧ a ≤ j ∧ j ≤ m := by
  simp only [btw, Bool.and_eq_true, Bool.not_eq_true', decide_eq_false_iff_not] at h
  obtain ⟨h1, h2⟩ := h
  have h0 : ¬ x < 0 := by
    intro q
    apply h1
    rw [Int32.lt_iff_toInt_lt] at q ⊢
    rw [nI_toInt ha]
    have : (0 : Int32).toInt = 0 := rfl
    omega
  obtain ⟨j, hj, rfl⟩ := nI_of h0
  exact ⟨j, rfl, Nat.not_lt.mp fun q => h1 ((nI_ltI hj ha).mpr q), Nat.not_lt.mp fun q => h2 ((nI_ltI hm hj).mpr q)⟩
theorem btw_eq {x : Int32} {a m : Nat} (h : btw x (nI a) (nI m) = true) (ha : a < 2 ^ 31 := by decide) (hm : m < 2 ^ 31 := by decide) : x = nI (ix x) := by
  obtain ⟨j, rfl, h1, h2⟩ := btw_of ha hm h
  rw [ix_nI (by omega)]
theorem btw_le {x : Int32} {a m : Nat} (h : btw x (nI a) (nI m) = true) (ha : a < 2 ^ 31 := by decide) (hm : m < 2 ^ 31 := by decide) : a ≤ ix x ∧ ix x ≤ m := by
  obtain ⟨j, rfl, h1, h2⟩ := btw_of ha hm h
  rw [ix_nI (by omega)]
  exact ⟨h1, h2⟩
theorem btw_nI {j a m : Nat} (h : a ≤ j ∧ j ≤ m) (hm : m < 2 ^ 31 := by decide) : btw (nI j) (nI a) (nI m) = true := by
  have h1 : ¬ nI j < nI a := fun q => absurd ((nI_ltI (by omega) (by omega)).mp q) (by omega)
  have h2 : ¬ nI m < nI j := fun q => absurd ((nI_ltI (by omega) (by omega)).mp q) (by omega)
  simp [btw, h1, h2]
theorem btw_wk (x : Int32) : btw x (nI 0) (nI 15) = wk x := by
  rw [Bool.eq_iff_iff]
  constructor
  · intro h
    obtain ⟨j, rfl, h1, h2⟩ := btw_of (by decide) (by decide) h
    exact wk_nI (by omega)
  · intro h
    obtain ⟨j, hj, rfl⟩ := wk_of h
    exact btw_nI (by omega)
theorem lt13 (x : Int32) : (nI 12 < x) ↔ (nI 13 ≤ x) := by
  rw [Int32.lt_iff_toInt_lt, Int32.le_iff_toInt_le, nI_toInt (by decide), nI_toInt (by decide)]
  omega
theorem btw_on (x y : Int32) : (btw x (nI 0) (nI 12) && btw y (nI 0) (nI 12)) = on x y := by
  have e : ∀ z : Int32, decide (nI 12 < z) = decide (nI 13 ≤ z) := fun z => by simp only [lt13]
  simp only [btw, on, e]
  rfl
theorem on_tt {x y : Int32} (h1 : btw x (nI 0) (nI 12) = true) (h2 : btw y (nI 0) (nI 12) = true) : on x y = true := by rw [← btw_on, h1, h2]; rfl
theorem ldg_nI {q : Nat} (hq : q < 2 ^ 31) (d : Int32) (f : Nat) : ldg (nI q) d f = ldL f (nI (q % 13)) (nI (q / 13)) (ea d) (so d) false := by
  rw [ldg, pk_rem hq (by decide) (by decide), pk_div hq (by decide) (by decide)]
def rbs (q d : Nat) : Int32 := beside (nI (q % 13)) (nI (q / 13)) (nI d)
theorem upd_at9 {f : Nat → Int32} {i : Nat} {x : Int32} : upd f i x i = x := by simp [upd]
theorem upd_ne9 {f : Nat → Int32} {i j : Nat} {x : Int32} (h : j ≠ i) : upd f i x j = f j := by simp [upd, h]
/-! PILES: N q winks lie on the cell q, W q i the one at the place i from the bottom -/
theorem nI_m1 {n : Nat} (h : n < 2 ^ 31) : nI n ≠ -1 := fun e => by
  have h1 : (nI n).toInt = (n : Int) := nI_toInt h
  rw [e] at h1
  have h2 : (-1 : Int32).toInt = -1 := by decide
  omega
theorem cnt_zero {p : Nat → Bool} : ∀ {n : Nat}, (∀ k, k < n → p k = false) → cnt p n = 0
  | 0, _ => rfl
  | n + 1, h => by
    simp only [cnt]
    rw [if_neg (by rw [h n (Nat.lt_succ_self n)]; decide), cnt_zero (fun k hk => h k (Nat.lt_succ_of_lt hk))]
theorem cnt_del {p : Nat → Bool} {a : Nat} : ∀ n, a < n → p a = true → cnt p n = cnt (fun w => p w && !(decide (w = a))) n + 1
  | 0, h, _ => absurd h (Nat.not_lt_zero _)
  | n + 1, h, hp => by
    simp only [cnt]
    by_cases e : n = a
    · subst e
      have h1 : cnt p n = cnt (fun w => p w && !(decide (w = n))) n := cnt_cong (fun k hk => by simp [Nat.ne_of_lt hk])
      simp [hp, h1]
    · have ih := cnt_del n (by omega) hp
      have h1 : (p n && !(decide (n = a))) = p n := by simp [e]
      by_cases hpn : p n = true
      · rw [if_pos hpn, if_pos (by rw [h1]; exact hpn)]; omega
      · rw [if_neg hpn, if_neg (by rw [h1]; exact hpn)]; exact ih
theorem cnt_w {n : Nat} {W : Nat → Nat} : ∀ (m : Nat) {p : Nat → Bool}, (∀ i, i < m → W i < n ∧ p (W i) = true) → (∀ w, w < n → p w = true → ∃ i, i < m ∧ W i = w) → (∀ i j, i < m → j < m → W i = W j → i = j) → cnt p n = m
  | 0, p, _, h2, _ => cnt_zero (fun k hk => by
    by_cases h : p k = true
    · obtain ⟨i, hi, -⟩ := h2 k hk h
      exact absurd hi (Nat.not_lt_zero _)
    · simpa using h)
  | m + 1, p, h1, h2, h3 => by
    obtain ⟨g1, g2⟩ := h1 m (Nat.lt_succ_self m)
    rw [cnt_del n g1 g2]
    have ih := cnt_w (n := n) (W := W) m (p := fun w => p w && !(decide (w = W m))) (fun i hi => ⟨(h1 i (by omega)).1, by
      have hne : W i ≠ W m := fun e => by have := h3 i m (by omega) (by omega) e; omega
      simp [(h1 i (by omega)).2, hne]⟩) (fun w hw hp => by
      simp only [Bool.and_eq_true, Bool.not_eq_true', decide_eq_false_iff_not] at hp
      obtain ⟨i, hi, rfl⟩ := h2 w hw hp.1
      have hne : i ≠ m := fun e => hp.2 (by rw [e])
      exact ⟨i, by omega, rfl⟩) (fun i j hi hj e => h3 i j (by omega) (by omega) e)
    rw [ih]
theorem fst_u {p : Nat → Bool} {w : Nat} : ∀ n i, i ≤ w → w < i + n → p w = true → (∀ k, i ≤ k → k < i + n → p k = true → k = w) → fst p n i = nI w
  | 0, i, h1, h2, _, _ => by omega
  | n + 1, i, h1, h2, h3, h4 => by
    simp only [fst]
    by_cases hp : p i = true
    · rw [if_pos hp, h4 i (Nat.le_refl i) (by omega) hp]
    · rw [if_neg hp]
      have hne : i ≠ w := fun e => hp (by rw [e]; exact h3)
      exact fst_u n (i + 1) (by omega) (by omega) h3 (fun k hk hk2 => h4 k (by omega) (by omega))
theorem fst_n {p : Nat → Bool} : ∀ n i, (∀ k, i ≤ k → k < i + n → p k = false) → fst p n i = -1
  | 0, _, _ => rfl
  | n + 1, i, h => by
    simp only [fst]
    rw [if_neg (by rw [h i (Nat.le_refl i) (by omega)]; decide)]
    exact fst_n n (i + 1) (fun k hk hk2 => h k (by omega) (by omega))
/-- the cells -/
def Rc (c : Nat → Int32) (N : Nat → Nat) (W : Nat → Nat → Nat) : Prop :=
  (∀ q i, i < N q → W q i < 16 ∧ q < 169 ∧ q ≠ 84 ∧ c (W q i) = nI q) ∧ (∀ q i j, i < N q → j < N q → W q i = W q j → i = j) ∧ (∀ w, w < 16 → c w = -1 ∨ ∃ q i, i < N q ∧ W q i = w)
/-- the links -/
def Rl (c b v : Nat → Int32) (N : Nat → Nat) (W : Nat → Nat → Nat) : Prop :=
  (∀ q i, i < N q → b (W q i) = if i = 0 then -1 else nI (W q (i - 1))) ∧ (∀ q i, i < N q → v (W q i) = if i + 1 < N q then nI (W q (i + 1)) else -1) ∧ (∀ w, w < 16 → c w = -1 → b w = -1 ∧ v w = -1)
section PL
variable {c b v r : Nat → Int32} {N : Nat → Nat} {W : Nat → Nat → Nat}
theorem Rc.cell (h : Rc c N W) {q w : Nat} (hq : q < 2 ^ 31) (hw : w < 16) (hc : c w = nI q) : ∃ i, i < N q ∧ W q i = w := by
  rcases h.2.2 w hw with h1 | ⟨q', i, h1, h2⟩
  · rw [h1] at hc; exact absurd hc.symm (nI_m1 hq)
  · obtain ⟨-, g2, -, g4⟩ := h.1 q' i h1
    rw [h2, hc] at g4
    have := nI_inj hq (by omega) g4
    subst this
    exact ⟨i, h1, h2⟩
theorem Rc.hgtN (h : Rc c N W) {q : Nat} (hq : q < 2 ^ 31) : hgt c (nI q) = N q := by
  unfold hgt
  exact cnt_w (W := W q) (N q) (fun i hi => ⟨(h.1 q i hi).1, by simp [(h.1 q i hi).2.2.2]⟩) (fun w hw hp => h.cell hq hw (by simpa using hp)) (fun i j hi hj e => h.2.1 q i j hi hj e)
theorem Rc.le (h : Rc c N W) {q : Nat} (hq : q < 2 ^ 31) : N q ≤ 16 := by rw [← h.hgtN hq]; exact hgt_le _ _
theorem Rc.q (h : Rc c N W) {q i : Nat} (hi : i < N q) : q < 169 := (h.1 q i hi).2.1
theorem Rc.i (h : Rc c N W) {q i : Nat} (hi : i < N q) : i < 16 := Nat.lt_of_lt_of_le hi (h.le (by have := h.q hi; omega))
theorem Rc.potN (h : Rc c N W) {q i : Nat} (hi : i < N q) : pot c (W q i) = false := by
  unfold pot
  rw [(h.1 q i hi).2.2.2]
  simp [nI_m1 (show q < 2 ^ 31 by have := h.q hi; omega)]
theorem Rc.no (h : Rc c N W) {q i w : Nat} (hi : i < N q) (hw : W q i = w) (hc : c w = -1) : False := by
  have := (h.1 q i hi).2.2.2
  rw [hw, hc] at this
  exact nI_m1 (show q < 2 ^ 31 by have := h.q hi; omega) this.symm
theorem Rc.one (h : Rc c N W) {q i q' j : Nat} (hi : i < N q) (hj : j < N q') (e : W q i = W q' j) : q = q' ∧ i = j := by
  have h1 := (h.1 q i hi).2.2.2
  have h2 := (h.1 q' j hj).2.2.2
  rw [e, h2] at h1
  have := nI_inj (by have := h.q hj; omega) (by have := h.q hi; omega) h1
  subst this
  exact ⟨rfl, h.2.1 _ _ _ hi hj e⟩
theorem Rl.topv (h : Rc c N W) (hl : Rl c b v N W) {q : Nat} (hq : q < 2 ^ 31) : top c v (nI q) = if N q = 0 then -1 else nI (W q (N q - 1)) := by
  unfold top
  by_cases h0 : N q = 0
  · rw [if_pos h0]
    refine fst_n 16 0 (fun k _ hk => ?_)
    unfold tpq
    by_cases hc : c k = nI q
    · obtain ⟨i, hi, -⟩ := h.cell hq (by omega) hc
      omega
    · simp [hc]
  · rw [if_neg h0]
    have hlt : N q - 1 < N q := by omega
    refine fst_u 16 0 (Nat.zero_le _) (by have := (h.1 q _ hlt).1; omega) ?_ (fun k _ hk hp => ?_)
    · unfold tpq
      rw [(h.1 q _ hlt).2.2.2, hl.2.1 q _ hlt, if_neg (by omega)]
      simp
    · unfold tpq at hp
      simp only [Bool.and_eq_true, decide_eq_true_eq] at hp
      obtain ⟨i, hi, rfl⟩ := h.cell hq (by omega) hp.1
      have h2 := hl.2.1 q i hi
      rw [hp.2] at h2
      by_cases h3 : i + 1 < N q
      · rw [if_pos h3] at h2
        exact absurd h2.symm (nI_m1 (by have := (h.1 q _ h3).1; omega))
      · rw [show i = N q - 1 by omega]
theorem Rl.topb (h : Rc c N W) (hl : Rl c b v N W) {q : Nat} (hq : q < 2 ^ 31) : top c b (nI q) = if N q = 0 then -1 else nI (W q 0) := by
  unfold top
  by_cases h0 : N q = 0
  · rw [if_pos h0]
    refine fst_n 16 0 (fun k _ hk => ?_)
    unfold tpq
    by_cases hc : c k = nI q
    · obtain ⟨i, hi, -⟩ := h.cell hq (by omega) hc
      omega
    · simp [hc]
  · rw [if_neg h0]
    have hlt : 0 < N q := by omega
    refine fst_u 16 0 (Nat.zero_le _) (by have := (h.1 q _ hlt).1; omega) ?_ (fun k _ hk hp => ?_)
    · unfold tpq
      rw [(h.1 q _ hlt).2.2.2, hl.1 q _ hlt, if_pos rfl]
      simp
    · unfold tpq at hp
      simp only [Bool.and_eq_true, decide_eq_true_eq] at hp
      obtain ⟨i, hi, rfl⟩ := h.cell hq (by omega) hp.1
      have h2 := hl.1 q i hi
      rw [hp.2] at h2
      by_cases h3 : i = 0
      · rw [h3]
      · rw [if_neg h3] at h2
        exact absurd h2.symm (nI_m1 (by have := (h.1 q (i - 1) (by omega)).1; omega))
theorem Rl.covN (h : Rc c N W) (hl : Rl c b v N W) {q i : Nat} (hi : i < N q) : cov v (W q i) = decide (i + 1 < N q) := by
  unfold cov
  rw [hl.2.1 q i hi]
  by_cases h3 : i + 1 < N q
  · rw [if_pos h3]
    simp [nI_m1 (show W q (i + 1) < 2 ^ 31 by have := (h.1 q _ h3).1; omega), h3]
  · rw [if_neg h3]
    simp [h3]
theorem Rl.plcN (h : Rc c N W) (hl : Rl c b v N W) {q : Nat} : ∀ n i, i ≤ n → i ≤ N q → plc b n (if i = 0 then -1 else nI (W q (i - 1))) = i
  | 0, i, h1, _ => by
    have : i = 0 := by omega
    subst this
    rfl
  | n + 1, i, h1, h2 => by
    simp only [plc]
    by_cases h0 : i = 0
    · subst h0
      rw [if_pos rfl, if_neg (by rw [wk_m1]; decide)]
    · rw [if_neg h0]
      have hlt : i - 1 < N q := by omega
      have hw := (h.1 q _ hlt).1
      rw [if_pos (wk_nI hw), ix_nI (by omega), hl.1 q _ hlt, Rl.plcN h hl n (i - 1) (by omega) (by omega)]
      omega
theorem Rl.louN (h : Rc c N W) (hl : Rl c b v N W) {q : Nat} : ∀ k j, j < N q → lou b k (nI (W q j)) = if k ≤ j then nI (W q (j - k)) else -1
  | 0, j, hj => by rw [if_pos (Nat.zero_le _)]; rfl
  | k + 1, j, hj => by
    simp only [lou]
    have hw := (h.1 q _ hj).1
    rw [if_pos (wk_nI hw), ix_nI (by omega), hl.1 q _ hj]
    by_cases h0 : j = 0
    · subst h0
      rw [if_pos rfl, if_neg (by omega)]
      cases k with
      | zero => rfl
      | succ k => simp only [lou]; rw [if_neg (by rw [wk_m1]; decide)]
    · rw [if_neg h0, Rl.louN h hl k (j - 1) (by omega)]
      by_cases h3 : k + 1 ≤ j
      · rw [if_pos (by omega), if_pos h3, show j - 1 - k = j - (k + 1) by omega]
      · rw [if_neg (by omega), if_neg h3]
theorem lou_m1 {b : Nat → Int32} : ∀ k, lou b k (-1) = -1
  | 0 => rfl
  | k + 1 => by simp only [lou]; rw [if_neg (by rw [wk_m1]; decide)]
theorem Rl.lowN (h : Rc c N W) (hl : Rl c b v N W) {q n : Nat} (hq : q < 2 ^ 31) (hn : 1 ≤ n) : low c b v (nI q) n = if n ≤ N q then nI (W q (N q - n)) else -1 := by
  unfold low
  rw [hl.topv h hq]
  by_cases h0 : N q = 0
  · rw [if_pos h0, if_neg (by omega), lou_m1]
  · rw [if_neg h0, hl.louN h _ _ (by omega)]
    by_cases h3 : n ≤ N q
    · rw [if_pos (by omega), if_pos h3, show N q - 1 - (n - 1) = N q - n by omega]
    · rw [if_neg (by omega), if_neg h3]
end PL
/-! what both sides tell of one position -/
theorem bool_ff {b : Bool} (h : ¬ b = true) : b = false := by simpa using h
theorem nI_ne {a b : Nat} (ha : a < 2 ^ 31) (hb : b < 2 ^ 31) (h : a ≠ b) : nI a ≠ nI b := fun e => h (nI_inj ha hb e)
/-! moves of a pile's upper part S (n winks, S 0 the lowest) onto another pile, or into the cup -/
theorem topv0 {c v : Nat → Int32} {N : Nat → Nat} {W : Nat → Nat → Nat} (h : Rc c N W) (hv : ∀ q i, i < N q → v (W q i) = if i + 1 < N q then nI (W q (i + 1)) else -1) {q : Nat} (hq : q < 2 ^ 31) : top c v (nI q) = if N q = 0 then -1 else nI (W q (N q - 1)) := by
  unfold top
  by_cases h0 : N q = 0
  · rw [if_pos h0]
    refine fst_n 16 0 (fun k _ hk => ?_)
    unfold tpq
    by_cases hc : c k = nI q
    · obtain ⟨i, hi, -⟩ := h.cell hq (by omega) hc
      omega
    · simp [hc]
  · rw [if_neg h0]
    have hlt : N q - 1 < N q := by omega
    refine fst_u 16 0 (Nat.zero_le _) (by have := (h.1 q _ hlt).1; omega) ?_ (fun k _ hk hp => ?_)
    · unfold tpq
      rw [(h.1 q _ hlt).2.2.2, hv q _ hlt, if_neg (by omega)]
      simp
    · unfold tpq at hp
      simp only [Bool.and_eq_true, decide_eq_true_eq] at hp
      obtain ⟨i, hi, rfl⟩ := h.cell hq (by omega) hp.1
      have h2 := hv q i hi
      rw [hp.2] at h2
      by_cases h3 : i + 1 < N q
      · rw [if_pos h3] at h2
        exact absurd h2.symm (nI_m1 (by have := (h.1 q _ h3).1; omega))
      · rw [show i = N q - 1 by omega]
/-- the piles without S, and the links with S cut off -/
def SG (r b v : Nat → Int32) (N : Nat → Nat) (W : Nat → Nat → Nat) (S : Nat → Nat) (n : Nat) : Prop :=
  1 ≤ n ∧ n ≤ 16 ∧ (∀ k, k < n → S k < 16) ∧ (∀ k m, k < n → m < n → S k = S m → k = m) ∧
  (∀ k, k < n → v (S k) = if k + 1 < n then nI (S (k + 1)) else -1) ∧ (∀ k, k < n → 0 < k → b (S k) = nI (S (k - 1))) ∧
  (∀ q m, m < N q → W q m < 16 ∧ q < 169 ∧ q ≠ 84 ∧ r (W q m) = nI q ∧ ∀ k, k < n → W q m ≠ S k) ∧ (∀ q i j, i < N q → j < N q → W q i = W q j → i = j) ∧
  (∀ q m, m < N q → b (W q m) = if m = 0 then -1 else nI (W q (m - 1))) ∧ (∀ q m, m < N q → v (W q m) = if m + 1 < N q then nI (W q (m + 1)) else -1) ∧
  (∀ w, w < 16 → (∃ k, k < n ∧ S k = w) ∨ (r w = -1 ∧ b w = -1 ∧ v w = -1) ∨ ∃ q m, m < N q ∧ W q m = w)
def cutN (N : Nat → Nat) (q0 i : Nat) : Nat → Nat := fun q => if q = q0 then i else N q
theorem cutv_on {r b v : Nat → Int32} {N : Nat → Nat} {W : Nat → Nat → Nat} (h : Rc r N W) (hl : Rl r b v N W) {q0 i : Nat} (hi : i < N q0) : cutv b v (W q0 i) = if i = 0 then v else upd v (W q0 (i - 1)) (-1) := by
  unfold cutv
  rw [hl.1 q0 i hi]
  by_cases h0 : i = 0
  · rw [if_pos h0, if_pos h0, if_neg (by rw [wk_m1]; decide)]
  · have := (h.1 q0 (i - 1) (by omega)).1
    rw [if_neg h0, if_neg h0, if_pos (wk_nI this), ix_nI (by omega)]
theorem SG_on {r b v : Nat → Int32} {N : Nat → Nat} {W : Nat → Nat → Nat} (h : Rc r N W) (hl : Rl r b v N W) {q0 i : Nat} (hi : i < N q0) : SG r b (cutv b v (W q0 i)) (cutN N q0 i) W (fun k => W q0 (i + k)) (N q0 - i) := by
  have hle := h.le (q := q0) (by have := h.q hi; omega)
  have hv : ∀ q m, m < N q → (q ≠ q0 ∨ m + 1 ≠ i) → cutv b v (W q0 i) (W q m) = v (W q m) := by
    intro q m hm hne
    rw [cutv_on h hl hi]
    by_cases h0 : i = 0
    · rw [if_pos h0]
    · rw [if_neg h0]
      refine upd_ne9 (fun e => ?_)
      obtain ⟨rfl, rfl⟩ := h.one hm (show i - 1 < N q0 by omega) e
      omega
  have hcut : ∀ q m, m < cutN N q0 i q → m < N q ∧ (q = q0 → m < i) := by
    intro q m hm
    unfold cutN at hm
    by_cases e : q = q0
    · rw [if_pos e] at hm; subst e; exact ⟨by omega, fun _ => hm⟩
    · rw [if_neg e] at hm; exact ⟨hm, fun e2 => absurd e2 e⟩
  refine ⟨by omega, by omega, fun k hk => (h.1 q0 (i + k) (by omega)).1, fun k m hk hm e => ?_, fun k hk => ?_, fun k hk h0 => ?_, fun q m hm => ?_, fun q a j ha hj e => h.2.1 q a j (hcut q a ha).1 (hcut q j hj).1 e, fun q m hm => ?_, fun q m hm => ?_, fun w hw => ?_⟩
  · have := h.2.1 q0 (i + k) (i + m) (by omega) (by omega) e
    omega
  · show cutv b v (W q0 i) (W q0 (i + k)) = if k + 1 < N q0 - i then nI (W q0 (i + (k + 1))) else -1
    rw [hv q0 (i + k) (by omega) (Or.inr (by omega)), hl.2.1 q0 (i + k) (by omega)]
    by_cases h3 : i + k + 1 < N q0
    · rw [if_pos h3, if_pos (by omega)]; rfl
    · rw [if_neg h3, if_neg (by omega)]
  · show b (W q0 (i + k)) = nI (W q0 (i + (k - 1)))
    rw [hl.1 q0 (i + k) (by omega), if_neg (by omega), show i + k - 1 = i + (k - 1) by omega]
  · obtain ⟨g1, g2⟩ := hcut q m hm
    obtain ⟨k1, k2, k3, k4⟩ := h.1 q m g1
    refine ⟨k1, k2, k3, k4, fun k hk e => ?_⟩
    obtain ⟨rfl, rfl⟩ := h.one g1 (show i + k < N q0 by omega) e
    have := g2 rfl
    omega
  · obtain ⟨g1, g2⟩ := hcut q m hm
    exact hl.1 q m g1
  · obtain ⟨g1, g2⟩ := hcut q m hm
    by_cases e : q = q0
    · subst e
      have h3 := g2 rfl
      have hcn : cutN N q i q = i := by unfold cutN; rw [if_pos rfl]
      rw [hcn]
      by_cases h4 : m + 1 < i
      · rw [if_pos h4, hv q m g1 (Or.inr (by omega)), hl.2.1 q m g1, if_pos (by omega)]
      · rw [if_neg h4, cutv_on h hl hi, if_neg (by omega), show i - 1 = m by omega]
        exact upd_at9
    · have hcn : cutN N q0 i q = N q := by unfold cutN; rw [if_neg e]
      rw [hcn, hv q m g1 (Or.inl e), hl.2.1 q m g1]
  · rcases h.2.2 w hw with h1 | ⟨q, m, g1, g2⟩
    · refine Or.inr (Or.inl ⟨h1, (hl.2.2 w hw h1).1, ?_⟩)
      rw [cutv_on h hl hi]
      by_cases h0 : i = 0
      · rw [if_pos h0]; exact (hl.2.2 w hw h1).2
      · rw [if_neg h0, upd_ne9 (fun e => h.no (show i - 1 < N q0 by omega) e.symm h1)]
        exact (hl.2.2 w hw h1).2
    · by_cases e : q = q0 ∧ i ≤ m
      · obtain ⟨rfl, e2⟩ := e
        exact Or.inl ⟨m - i, by omega, by show W q (i + (m - i)) = w; rw [show i + (m - i) = m by omega]; exact g2⟩
      · refine Or.inr (Or.inr ⟨q, m, ?_, g2⟩)
        unfold cutN
        by_cases e2 : q = q0
        · rw [if_pos e2]
          by_cases e3 : i ≤ m
          · exact absurd ⟨e2, e3⟩ e
          · omega
        · rw [if_neg e2]; exact g1
theorem SG_pot {r b v : Nat → Int32} {N : Nat → Nat} {W : Nat → Nat → Nat} (h : Rc r N W) (hl : Rl r b v N W) {w : Nat} (hw : w < 16) (hp : r w = -1) : SG r b (cutv b v w) N W (fun _ => w) 1 := by
  obtain ⟨p1, p2⟩ := hl.2.2 w hw hp
  have hv : cutv b v w = v := by
    unfold cutv
    rw [p1, if_neg (by rw [wk_m1]; decide)]
  rw [hv]
  refine ⟨Nat.le_refl 1, by omega, fun _ _ => hw, fun k m hk hm _ => by omega, fun k hk => ?_, fun k hk h0 => by omega, fun q m hm => ?_, h.2.1, hl.1, hl.2.1, fun w' hw' => ?_⟩
  · rw [if_neg (by omega)]; exact p2
  · obtain ⟨k1, k2, k3, k4⟩ := h.1 q m hm
    exact ⟨k1, k2, k3, k4, fun k hk e => h.no hm e hp⟩
  · rcases h.2.2 w' hw' with h1 | h1
    · exact Or.inr (Or.inl ⟨h1, hl.2.2 w' hw' h1⟩)
    · exact Or.inr (Or.inr h1)
theorem scl_P {v : Nat → Int32} {S : Nat → Nat} {n : Nat} (h16 : ∀ k, k < n → S k < 16) (hi : ∀ k m, k < n → m < n → S k = S m → k = m) (hv : ∀ k, k < n → v (S k) = if k + 1 < n then nI (S (k + 1)) else -1) {x : Int32} : ∀ (f j : Nat) (c : Nat → Int32), n ≤ j + f → (∀ k, j ≤ k → k < n → scl v x f c (if j < n then nI (S j) else -1) (S k) = x) ∧ (∀ y, (∀ k, j ≤ k → k < n → S k ≠ y) → scl v x f c (if j < n then nI (S j) else -1) y = c y)
  | 0, j, c, h => ⟨fun k h1 h2 => by omega, fun _ _ => rfl⟩
  | f + 1, j, c, h => by
    by_cases hj : j < n
    · rw [if_pos hj]
      simp only [scl]
      have hw := h16 j hj
      rw [if_pos (wk_nI hw), ix_nI (by omega), hv j hj]
      obtain ⟨i1, i2⟩ := scl_P h16 hi hv (x := x) f (j + 1) (upd c (S j) x) (by omega)
      refine ⟨fun k h1 h2 => ?_, fun y hy => ?_⟩
      · by_cases e : k = j
        · subst e
          rw [i2 (S k) (fun m h3 h4 e2 => by have := hi m k h4 h2 e2; omega)]
          exact upd_at9
        · exact i1 k (by omega) h2
      · rw [i2 y (fun k h1 h2 => hy k (by omega) h2)]
        exact upd_ne9 (fun e => hy j (Nat.le_refl j) hj e.symm)
    · rw [if_neg hj]
      simp only [scl]
      rw [if_neg (by rw [wk_m1]; decide)]
      exact ⟨fun k h1 h2 => by omega, fun _ _ => rfl⟩
theorem sep_P {S : Nat → Nat} {n : Nat} (h16 : ∀ k, k < n → S k < 16) (hi : ∀ k m, k < n → m < n → S k = S m → k = m) : ∀ (f j : Nat) (b v : Nat → Int32), (∀ k, j ≤ k → k < n → v (S k) = if k + 1 < n then nI (S (k + 1)) else -1) → n ≤ j + f → (∀ k, j ≤ k → k < n → (sep f b v (if j < n then nI (S j) else -1)).1 (S k) = -1 ∧ (sep f b v (if j < n then nI (S j) else -1)).2 (S k) = -1) ∧ (∀ y, (∀ k, j ≤ k → k < n → S k ≠ y) → (sep f b v (if j < n then nI (S j) else -1)).1 y = b y ∧ (sep f b v (if j < n then nI (S j) else -1)).2 y = v y)
  | 0, j, b, v, _, h => ⟨fun k h1 h2 => by omega, fun _ _ => ⟨rfl, rfl⟩⟩
  | f + 1, j, b, v, hv, h => by
    by_cases hj : j < n
    · rw [if_pos hj]
      simp only [sep]
      have hw := h16 j hj
      rw [if_pos (wk_nI hw), ix_nI (by omega), hv j (Nat.le_refl j) hj]
      obtain ⟨i1, i2⟩ := sep_P h16 hi f (j + 1) (upd b (S j) (-1)) (upd v (S j) (-1)) (fun k h1 h2 => by
        rw [upd_ne9 (fun e => by have := hi k j h2 hj e; omega)]
        exact hv k (by omega) h2) (by omega)
      refine ⟨fun k h1 h2 => ?_, fun y hy => ?_⟩
      · by_cases e : k = j
        · subst e
          obtain ⟨a1, a2⟩ := i2 (S k) (fun m h3 h4 e2 => by have := hi m k h4 h2 e2; omega)
          rw [a1, a2]
          exact ⟨upd_at9, upd_at9⟩
        · exact i1 k (by omega) h2
      · obtain ⟨a1, a2⟩ := i2 y (fun k h1 h2 => hy k (by omega) h2)
        rw [a1, a2]
        exact ⟨upd_ne9 (fun e => hy j (Nat.le_refl j) hj e.symm), upd_ne9 (fun e => hy j (Nat.le_refl j) hj e.symm)⟩
    · rw [if_neg hj]
      simp only [sep]
      rw [if_neg (by rw [wk_m1]; decide)]
      exact ⟨fun k h1 h2 => by omega, fun _ _ => ⟨rfl, rfl⟩⟩
/-- the piles behind the move onto q1 -/
def onN (N : Nat → Nat) (q1 n : Nat) : Nat → Nat := fun q => if q = q1 then N q1 + n else N q
def onW (N : Nat → Nat) (W : Nat → Nat → Nat) (q1 : Nat) (S : Nat → Nat) : Nat → Nat → Nat := fun q m => if q = q1 ∧ N q1 ≤ m then S (m - N q1) else W q m
theorem onW_new {N : Nat → Nat} {W : Nat → Nat → Nat} {q1 k : Nat} {S : Nat → Nat} : onW N W q1 S q1 (N q1 + k) = S k := by
  unfold onW
  rw [if_pos ⟨rfl, by omega⟩, show N q1 + k - N q1 = k by omega]
theorem onW_old {N : Nat → Nat} {W : Nat → Nat → Nat} {q1 q m : Nat} {S : Nat → Nat} (h : m < N q) : onW N W q1 S q m = W q m := by
  unfold onW
  rw [if_neg (fun e => by obtain ⟨rfl, e2⟩ := e; omega)]
theorem onN_cases {N : Nat → Nat} {q1 n q m : Nat} (h : m < onN N q1 n q) : m < N q ∨ (q = q1 ∧ ∃ k, k < n ∧ m = N q1 + k) := by
  unfold onN at h
  by_cases e : q = q1
  · rw [if_pos e] at h
    subst e
    by_cases h2 : m < N q
    · exact Or.inl h2
    · exact Or.inr ⟨rfl, m - N q, by omega, by omega⟩
  · rw [if_neg e] at h; exact Or.inl h
theorem onN_old {N : Nat → Nat} {q1 n q m : Nat} (h : m < N q) : m < onN N q1 n q := by
  unfold onN
  by_cases e : q = q1
  · rw [if_pos e]; subst e; omega
  · rw [if_neg e]; exact h
theorem onN_new {N : Nat → Nat} {q1 n k : Nat} (h : k < n) : N q1 + k < onN N q1 n q1 := by
  unfold onN
  rw [if_pos rfl]
  omega
/-- the cells behind it, whoever writes them -/
theorem Rc_on {r c' : Nat → Int32} {N : Nat → Nat} {W : Nat → Nat → Nat} {S : Nat → Nat} {n q1 : Nat} (hq : q1 < 169) (hq84 : q1 ≠ 84) (h16 : ∀ k, k < n → S k < 16) (hi : ∀ k m, k < n → m < n → S k = S m → k = m) (hN : ∀ q m, m < N q → W q m < 16 ∧ q < 169 ∧ q ≠ 84 ∧ r (W q m) = nI q ∧ ∀ k, k < n → W q m ≠ S k) (hW : ∀ q i j, i < N q → j < N q → W q i = W q j → i = j) (hA : ∀ w, w < 16 → (∃ k, k < n ∧ S k = w) ∨ r w = -1 ∨ ∃ q m, m < N q ∧ W q m = w) (c1 : ∀ k, k < n → c' (S k) = nI q1) (c2 : ∀ y, y < 16 → (∀ k, k < n → S k ≠ y) → c' y = r y) : Rc c' (onN N q1 n) (onW N W q1 S) := by
  refine ⟨fun q m hm => ?_, fun q i j hi' hj e => ?_, fun w hw => ?_⟩
  · rcases onN_cases hm with h1 | ⟨rfl, k, hk, rfl⟩
    · rw [onW_old h1]
      obtain ⟨k1, k2, k3, k4, k5⟩ := hN q m h1
      exact ⟨k1, k2, k3, (c2 _ k1 (fun k hk e => k5 k hk e.symm)).trans k4⟩
    · rw [onW_new]
      exact ⟨h16 k hk, hq, hq84, c1 k hk⟩
  · rcases onN_cases hi' with h1 | ⟨e1, k, hk, rfl⟩
    · rcases onN_cases hj with h2 | ⟨rfl, k, hk, rfl⟩
      · rw [onW_old h1, onW_old h2] at e
        exact hW q i j h1 h2 e
      · rw [onW_old h1, onW_new] at e
        exact absurd e ((hN q i h1).2.2.2.2 k hk)
    · subst e1
      rcases onN_cases hj with h2 | ⟨-, m, hm, rfl⟩
      · rw [onW_old h2, onW_new] at e
        exact absurd e.symm ((hN q j h2).2.2.2.2 k hk)
      · rw [onW_new, onW_new] at e
        rw [hi k m hk hm e]
  · rcases hA w hw with ⟨k, hk, rfl⟩ | h1 | ⟨q, m, hm, rfl⟩
    · exact Or.inr ⟨q1, N q1 + k, onN_new hk, onW_new⟩
    · by_cases hs : ∃ k, k < n ∧ S k = w
      · obtain ⟨k, hk, rfl⟩ := hs
        exact Or.inr ⟨q1, N q1 + k, onN_new hk, onW_new⟩
      · exact Or.inl ((c2 w hw (fun k hk e => hs ⟨k, hk, e⟩)).trans h1)
    · exact Or.inr ⟨q, m, onN_old hm, onW_old hm⟩
theorem Rc_cup {r c' : Nat → Int32} {N : Nat → Nat} {W : Nat → Nat → Nat} {S : Nat → Nat} {n : Nat} (hN : ∀ q m, m < N q → W q m < 16 ∧ q < 169 ∧ q ≠ 84 ∧ r (W q m) = nI q ∧ ∀ k, k < n → W q m ≠ S k) (hW : ∀ q i j, i < N q → j < N q → W q i = W q j → i = j) (hA : ∀ w, w < 16 → (∃ k, k < n ∧ S k = w) ∨ r w = -1 ∨ ∃ q m, m < N q ∧ W q m = w) (c1 : ∀ k, k < n → c' (S k) = -1) (c2 : ∀ y, y < 16 → (∀ k, k < n → S k ≠ y) → c' y = r y) : Rc c' N W := by
  refine ⟨fun q m hm => ?_, hW, fun w hw => ?_⟩
  · obtain ⟨k1, k2, k3, k4, k5⟩ := hN q m hm
    exact ⟨k1, k2, k3, (c2 _ k1 (fun k hk e => k5 k hk e.symm)).trans k4⟩
  · rcases hA w hw with ⟨k, hk, rfl⟩ | h1 | h1
    · exact Or.inl (c1 k hk)
    · by_cases hs : ∃ k, k < n ∧ S k = w
      · obtain ⟨k, hk, rfl⟩ := hs
        exact Or.inl (c1 k hk)
      · exact Or.inl ((c2 w hw (fun k hk e => hs ⟨k, hk, e⟩)).trans h1)
    · exact Or.inr h1
theorem SG.cells {r b v : Nat → Int32} {N : Nat → Nat} {W : Nat → Nat → Nat} {S : Nat → Nat} {n : Nat} (h : SG r b v N W S n) {c : Nat → Int32} {x : Int32} : (∀ k, k < n → scl v x 16 c (nI (S 0)) (S k) = x) ∧ (∀ y, (∀ k, k < n → S k ≠ y) → scl v x 16 c (nI (S 0)) y = c y) := by
  obtain ⟨h1, h2, h3, h4, h5, -⟩ := h
  have := scl_P h3 h4 h5 (x := x) 16 0 c (by omega)
  rw [if_pos (by omega)] at this
  exact ⟨fun k hk => this.1 k (Nat.zero_le _) hk, fun y hy => this.2 y (fun k _ hk => hy k hk)⟩
/-- what the class's move leaves: onto a pile -/
theorem mov_on {r b v : Nat → Int32} {N : Nat → Nat} {W : Nat → Nat → Nat} {S : Nat → Nat} {n q1 : Nat} (hq : q1 < 169) (hq84 : q1 ≠ 84) (h : SG r b (cutv b v (S 0)) N W S n) : Rc (mov1 r b v (S 0) (nI q1)) (onN N q1 n) (onW N W q1 S) ∧ Rl (mov1 r b v (S 0) (nI q1)) (mov2 r b v (S 0) (nI q1)) (mov3 r b v (S 0) (nI q1)) (onN N q1 n) (onW N W q1 S) ∧ (∀ k, k < n → mov1 r b v (S 0) (nI q1) (S k) = nI q1) ∧ (∀ y, (∀ k, k < n → S k ≠ y) → mov1 r b v (S 0) (nI q1) y = r y) := by
  obtain ⟨a1, a2⟩ := h.cells (c := r) (x := -1)
  obtain ⟨d1, d2⟩ := h.cells (c := scl (cutv b v (S 0)) (-1) 16 r (nI (S 0))) (x := nI q1)
  obtain ⟨h1, h2, h3, h4, h5, h6, h7, h8, h9, h10, h11⟩ := h
  have hA : ∀ w, w < 16 → (∃ k, k < n ∧ S k = w) ∨ r w = -1 ∨ ∃ q m, m < N q ∧ W q m = w := fun w hw => (h11 w hw).imp id (fun g => g.imp (fun g => g.1) id)
  have hcup : Rc (scl (cutv b v (S 0)) (-1) 16 r (nI (S 0))) N W := Rc_cup h7 h8 hA a1 (fun y _ hy => a2 y hy)
  have hne : nI q1 ≠ nI 84 := nI_ne (by omega) (by omega) hq84
  have e1 : mov1 r b v (S 0) (nI q1) = scl (cutv b v (S 0)) (nI q1) 16 (scl (cutv b v (S 0)) (-1) 16 r (nI (S 0))) (nI (S 0)) := by unfold mov1; rw [if_neg hne]
  have c1 : ∀ k, k < n → mov1 r b v (S 0) (nI q1) (S k) = nI q1 := by rw [e1]; exact d1
  have c2 : ∀ y, (∀ k, k < n → S k ≠ y) → mov1 r b v (S 0) (nI q1) y = r y := fun y hy => by rw [e1, d2 y hy, a2 y hy]
  have hle := hcup.le (q := q1) (by omega)
  have et : movt r b v (S 0) (nI q1) = if N q1 = 0 then -1 else nI (W q1 (N q1 - 1)) := topv0 hcup h10 (by omega)
  have e2 : mov2 r b v (S 0) (nI q1) = upd b (S 0) (if N q1 = 0 then -1 else nI (W q1 (N q1 - 1))) := by unfold mov2; rw [if_neg hne, et]
  have e3 : mov3 r b v (S 0) (nI q1) = if N q1 = 0 then cutv b v (S 0) else upd (cutv b v (S 0)) (W q1 (N q1 - 1)) (nI (S 0)) := by
    unfold mov3
    rw [if_neg hne, et]
    by_cases h0 : N q1 = 0
    · rw [if_pos h0, if_pos h0, if_neg (by rw [wk_m1]; decide)]
    · have hw := (h7 q1 (N q1 - 1) (by omega)).1
      rw [if_neg h0, if_neg h0, if_pos (wk_nI hw), ix_nI (by omega)]
  have hRc := Rc_on hq hq84 h3 h4 h7 h8 hA c1 (fun y _ hy => c2 y hy)
  refine ⟨hRc, ⟨fun q m hm => ?_, fun q m hm => ?_, fun w hw hp => ?_⟩, c1, c2⟩
  · rw [e2]
    rcases onN_cases hm with g1 | ⟨rfl, k, hk, rfl⟩
    · rw [onW_old g1, upd_ne9 ((h7 q m g1).2.2.2.2 0 (by omega)), h9 q m g1]
      by_cases h0 : m = 0
      · rw [if_pos h0, if_pos h0]
      · rw [if_neg h0, if_neg h0, onW_old (show m - 1 < N q by omega)]
    · rw [onW_new]
      by_cases h0 : k = 0
      · subst h0
        rw [upd_at9]
        by_cases h00 : N q = 0
        · rw [if_pos h00, if_pos (by omega)]
        · rw [if_neg h00, if_neg (by omega), Nat.add_zero, onW_old (show N q - 1 < N q by omega)]
      · rw [upd_ne9 (fun e => h0 (h4 k 0 hk (by omega) e)), h6 k hk (by omega), if_neg (by omega), show N q + k - 1 = N q + (k - 1) by omega, onW_new]
  · rw [e3]
    rcases onN_cases hm with g1 | ⟨rfl, k, hk, rfl⟩
    · rw [onW_old g1]
      by_cases hlast : q = q1 ∧ m + 1 = N q1
      · obtain ⟨rfl, hm1⟩ := hlast
        rw [if_neg (by omega), show N q - 1 = m by omega, upd_at9, if_pos (by rw [hm1]; exact onN_new (k := 0) (by omega)), hm1]
        have := onW_new (N := N) (W := W) (q1 := q) (k := 0) (S := S)
        rw [Nat.add_zero] at this
        rw [this]
      · have hv : (if N q1 = 0 then cutv b v (S 0) else upd (cutv b v (S 0)) (W q1 (N q1 - 1)) (nI (S 0))) (W q m) = cutv b v (S 0) (W q m) := by
          by_cases h00 : N q1 = 0
          · rw [if_pos h00]
          · rw [if_neg h00]
            refine upd_ne9 (fun e => hlast ?_)
            have g2 := (h7 q m g1).2.2.2.1
            have g3 := (h7 q1 (N q1 - 1) (by omega)).2.2.2.1
            rw [e, g3] at g2
            have e9 := nI_inj (by omega) (by have := (h7 q m g1).2.1; omega) g2
            subst e9
            have := h8 q1 m (N q1 - 1) g1 (by omega) e
            exact ⟨rfl, by omega⟩
        rw [hv, h10 q m g1]
        by_cases h12 : m + 1 < N q
        · rw [if_pos h12, if_pos (onN_old h12), onW_old h12]
        · rw [if_neg h12, if_neg (fun g => by
            rcases onN_cases g with g4 | ⟨rfl, k, hk, e9⟩
            · exact h12 g4
            · exact hlast ⟨rfl, by omega⟩)]
    · rw [onW_new]
      have hv : (if N q = 0 then cutv b v (S 0) else upd (cutv b v (S 0)) (W q (N q - 1)) (nI (S 0))) (S k) = cutv b v (S 0) (S k) := by
        by_cases h00 : N q = 0
        · rw [if_pos h00]
        · rw [if_neg h00]
          exact upd_ne9 (fun e => (h7 q (N q - 1) (by omega)).2.2.2.2 k hk e.symm)
      rw [hv, h5 k hk]
      by_cases h12 : k + 1 < n
      · rw [if_pos h12, if_pos (by rw [Nat.add_assoc]; exact onN_new h12), Nat.add_assoc, onW_new]
      · rw [if_neg h12, if_neg (fun g => by
          rcases onN_cases g with g4 | ⟨-, m, hm, e9⟩ <;> omega)]
  · have hns : ∀ k, k < n → S k ≠ w := fun k hk e => by
      rw [← e, c1 k hk] at hp
      exact nI_m1 (by omega) hp
    rw [c2 w hns] at hp
    rcases h11 w hw with ⟨k, hk, e⟩ | ⟨-, g2, g3⟩ | ⟨q, m, hm, e⟩
    · exact absurd e (hns k hk)
    · rw [e2, e3]
      refine ⟨by rw [upd_ne9 (fun e => hns 0 (by omega) e.symm)]; exact g2, ?_⟩
      by_cases h00 : N q1 = 0
      · rw [if_pos h00]; exact g3
      · rw [if_neg h00, upd_ne9 (fun e => by
          have g4 := (h7 q1 (N q1 - 1) (by omega)).2.2.2.1
          rw [← e, hp] at g4
          exact nI_m1 (by omega) g4.symm)]
        exact g3
    · have g4 := (h7 q m hm).2.2.2.1
      rw [e, hp] at g4
      exact absurd g4.symm (nI_m1 (by have := (h7 q m hm).2.1; omega))
/-- into the cup -/
theorem mov_cup {r b v : Nat → Int32} {N : Nat → Nat} {W : Nat → Nat → Nat} {S : Nat → Nat} {n : Nat} (h : SG r b (cutv b v (S 0)) N W S n) : Rc (mov1 r b v (S 0) (nI 84)) N W ∧ Rl (mov1 r b v (S 0) (nI 84)) (mov2 r b v (S 0) (nI 84)) (mov3 r b v (S 0) (nI 84)) N W ∧ (∀ k, k < n → mov1 r b v (S 0) (nI 84) (S k) = -1) ∧ (∀ y, (∀ k, k < n → S k ≠ y) → mov1 r b v (S 0) (nI 84) y = r y) := by
  obtain ⟨a1, a2⟩ := h.cells (c := r) (x := -1)
  obtain ⟨h1, h2, h3, h4, h5, h6, h7, h8, h9, h10, h11⟩ := h
  have hA : ∀ w, w < 16 → (∃ k, k < n ∧ S k = w) ∨ r w = -1 ∨ ∃ q m, m < N q ∧ W q m = w := fun w hw => (h11 w hw).imp id (fun g => g.imp (fun g => g.1) id)
  have e1 : mov1 r b v (S 0) (nI 84) = scl (cutv b v (S 0)) (-1) 16 r (nI (S 0)) := by unfold mov1; rw [if_pos rfl]
  have hs := sep_P h3 h4 16 0 b (cutv b v (S 0)) (fun k _ hk => h5 k hk) (by omega)
  rw [if_pos (show 0 < n by omega)] at hs
  have e2 : mov2 r b v (S 0) (nI 84) = (sep 16 b (cutv b v (S 0)) (nI (S 0))).1 := by unfold mov2; rw [if_pos rfl]
  have e3 : mov3 r b v (S 0) (nI 84) = (sep 16 b (cutv b v (S 0)) (nI (S 0))).2 := by unfold mov3; rw [if_pos rfl]
  rw [e1, e2, e3]
  refine ⟨Rc_cup h7 h8 hA a1 (fun y _ hy => a2 y hy), ⟨fun q m hm => ?_, fun q m hm => ?_, fun w hw hp => ?_⟩, a1, a2⟩
  · rw [(hs.2 (W q m) (fun k _ hk e => (h7 q m hm).2.2.2.2 k hk e.symm)).1]
    exact h9 q m hm
  · rw [(hs.2 (W q m) (fun k _ hk e => (h7 q m hm).2.2.2.2 k hk e.symm)).2]
    exact h10 q m hm
  · rcases h11 w hw with ⟨k, hk, rfl⟩ | ⟨g1, g2, g3⟩ | ⟨q, m, hm, rfl⟩
    · exact hs.1 k (Nat.zero_le _) hk
    · by_cases hx : ∃ k, k < n ∧ S k = w
      · obtain ⟨k, hk, rfl⟩ := hx
        exact hs.1 k (Nat.zero_le _) hk
      · obtain ⟨i1, i2⟩ := hs.2 w (fun k _ hk e => hx ⟨k, hk, e⟩)
        rw [i1, i2]
        exact ⟨g2, g3⟩
    · rw [a2 _ (fun k hk e => (h7 q m hm).2.2.2.2 k hk e.symm), (h7 q m hm).2.2.2.1] at hp
      exact absurd hp (nI_m1 (by have := (h7 q m hm).2.1; omega))
theorem potc_ext {c c' : Nat → Int32} {k : Nat} (hk : k < 4) (h : ∀ x, x < 16 → c x = c' x) : potc c k = potc c' k := cnt_cong (fun w hw => by rw [h (4 * k + w) (by omega)])
theorem anyl_cong {p q : Nat → Bool} : ∀ n i, (∀ k, i ≤ k → k < i + n → p k = q k) → anyl p n i = anyl q n i
  | 0, _, _ => rfl
  | n + 1, i, h => by
    have e := h i (Nat.le_refl i) (by omega)
    simp only [anyl]
    by_cases hp : p i = true
    · rw [if_pos hp, if_pos (by rw [← e]; exact hp)]
    · rw [if_neg hp, if_neg (by rw [← e]; exact hp)]
      exact anyl_cong n (i + 1) (fun k h1 h2 => h k (by omega) (by omega))
theorem over_ext {c c' : Nat → Int32} (h : ∀ x, x < 16 → c x = c' x) : over c = over c' := by
  unfold over
  exact anyl_cong 4 0 (fun k _ hk => by rw [potc_ext (k := k) (by omega) h])
theorem over_f {c : Nat → Int32} (h : over c = false) {k : Nat} (hk : k < 4) : potc c k ≠ 4 := by
  unfold over at h
  simp only [anyl] at h
  intro e
  rcases (show k = 0 ∨ k = 1 ∨ k = 2 ∨ k = 3 by omega) with rfl | rfl | rfl | rfl <;> simp [e] at h
theorem Rl_ext {c c' b v : Nat → Int32} {N : Nat → Nat} {W : Nat → Nat → Nat} (h : Rl c b v N W) (e : ∀ x, x < 16 → c x = c' x) : Rl c' b v N W := ⟨h.1, h.2.1, fun w hw hp => h.2.2 w hw ((e w hw).trans hp)⟩
theorem Rc_ext {c c' : Nat → Int32} {N : Nat → Nat} {W : Nat → Nat → Nat} (h : Rc c N W) (e : ∀ x, x < 16 → c x = c' x) : Rc c' N W := ⟨fun q i hi => ⟨(h.1 q i hi).1, (h.1 q i hi).2.1, (h.1 q i hi).2.2.1, (e _ (h.1 q i hi).1).symm.trans (h.1 q i hi).2.2.2⟩, h.2.1, fun w hw => (h.2.2 w hw).imp (fun g => (e w hw).symm.trans g) id⟩
/-! one position on both sides, behind a move -/
theorem SG_ext {r b v : Nat → Int32} {N : Nat → Nat} {W : Nat → Nat → Nat} {S S' : Nat → Nat} {n : Nat} (h : SG r b v N W S n) (e : ∀ k, k < n → S k = S' k) : SG r b v N W S' n := by
  obtain ⟨h1, h2, h3, h4, h5, h6, h7, h8, h9, h10, h11⟩ := h
  refine ⟨h1, h2, fun k hk => by rw [← e k hk]; exact h3 k hk, fun k m hk hm => by rw [← e k hk, ← e m hm]; exact h4 k m hk hm, fun k hk => ?_, fun k hk h0 => ?_, fun q m hm => ?_, h8, h9, h10, fun w hw => ?_⟩
  · rw [← e k hk, h5 k hk]
    by_cases h12 : k + 1 < n
    · rw [if_pos h12, if_pos h12, e _ h12]
    · rw [if_neg h12, if_neg h12]
  · rw [← e k hk, h6 k hk h0, e (k - 1) (by omega)]
  · obtain ⟨k1, k2, k3, k4, k5⟩ := h7 q m hm
    exact ⟨k1, k2, k3, k4, fun k hk => by rw [← e k hk]; exact k5 k hk⟩
  · rcases h11 w hw with ⟨k, hk, hs⟩ | g
    · exact Or.inl ⟨k, hk, by rw [← e k hk]; exact hs⟩
    · exact Or.inr g
theorem SG_row {r r' b v : Nat → Int32} {N : Nat → Nat} {W : Nat → Nat → Nat} {S : Nat → Nat} {n : Nat} (h : SG r b v N W S n) (e : ∀ x, x < 16 → r x = r' x) : SG r' b v N W S n := by
  obtain ⟨h1, h2, h3, h4, h5, h6, h7, h8, h9, h10, h11⟩ := h
  refine ⟨h1, h2, h3, h4, h5, h6, fun q m hm => ?_, h8, h9, h10, fun w hw => ?_⟩
  · obtain ⟨k1, k2, k3, k4, k5⟩ := h7 q m hm
    exact ⟨k1, k2, k3, (e _ k1).symm.trans k4, k5⟩
  · rcases h11 w hw with g | ⟨g1, g2⟩ | g
    · exact Or.inl g
    · exact Or.inr (Or.inl ⟨(e w hw).symm.trans g1, g2⟩)
    · exact Or.inr (Or.inr g)
/-- a wink that isn't covered: it alone is moved -/
theorem SG_top {r b v : Nat → Int32} {N : Nat → Nat} {W : Nat → Nat → Nat} (h : Rc r N W) (hl : Rl r b v N W) {w : Nat} (hw : w < 16) (hcv : cov v w = false) : ∃ N1 : Nat → Nat, SG r b (cutv b v w) N1 W (fun _ => w) 1 ∧ ∀ q m, m < N1 q → m < N q := by
  rcases h.2.2 w hw with h1 | ⟨q0, i, hi, rfl⟩
  · exact ⟨N, SG_pot h hl hw h1, fun _ _ hm => hm⟩
  · rw [hl.covN h hi] at hcv
    have hn : N q0 - i = 1 := by
      have : ¬ i + 1 < N q0 := by simpa using hcv
      omega
    have hs := SG_on h hl hi
    rw [hn] at hs
    refine ⟨cutN N q0 i, SG_ext hs (fun k hk => by have : k = 0 := by omega
                                                   subst this; rfl), fun q m hm => ?_⟩
    unfold cutN at hm
    by_cases e : q = q0
    · rw [if_pos e] at hm; subst e; omega
    · rw [if_neg e] at hm; exact hm
section PM
variable {r b v g h j : Nat → Int32} {t : Nat} {u z : Int32} {N : Nat → Nat} {W : Nat → Nat → Nat}
theorem wnf_0 {c v : Nat → Int32} {t w : Nat} (h : wnf c v t w = 0) : over c = false ∧ w / 4 = t ∧ pot c w = false ∧ cov v w = false := by
  unfold wnf at h
  by_cases h1 : over c = true
  · rw [if_pos h1] at h; omega
  · rw [if_neg h1] at h
    by_cases h2 : ¬ w / 4 = t
    · rw [if_pos h2] at h; omega
    · rw [if_neg h2] at h
      by_cases h3 : pot c w = true
      · rw [if_pos h3] at h; omega
      · rw [if_neg h3] at h
        by_cases h4 : cov v w = true
        · rw [if_pos h4] at h; omega
        · exact ⟨bool_ff h1, Decidable.not_not.mp h2, bool_ff h3, bool_ff h4⟩
theorem bs_lt (w : Nat) : bs (w / 4) < 169 ∧ bs (w / 4) ≠ 84 := by
  unfold bs
  repeat' split
  all_goals decide
end PM
/-! the lift, on both sides -/
theorem rbs_all : ∀ q, q < 169 → ∀ d, d < 8 → rbs q d = -1 ∨ (ix (rbs q d) < 169 ∧ ix (rbs q d) ≠ q ∧ rbs q d = nI (ix (rbs q d))) := by decide +kernel
/-! helpers of the steps -/
theorem ixn {n : Nat} (h : n < 2 ^ 31) : ix (nI n) = n := nI_clamp h
theorem cat_n {x y : Nat} : cat (nI x) (nI y) = nI (13 * y + x) := by unfold cat; rw [pk_mul, nI_add]
theorem rbs_n {x y d : Nat} (hx : x < 13) : rbs (13 * y + x) d = beside (nI x) (nI y) (nI d) := by
  unfold rbs
  rw [show (13 * y + x) % 13 = x by omega, show (13 * y + x) / 13 = y by omega]
end
