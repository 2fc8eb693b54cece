/-! from base -/
section
/-! THE POOL: objects 0 .. N-1 at the addresses ad, object k with the contents F k -/
def iW (ad : Nat → Nat) (N : Nat) (F : Nat → va_E) : va_W := (List.range N).map (fun k => (ad k, F k))
theorem iW_get {ad : Nat → Nat} {N : Nat} {F : Nat → va_E} {k : Nat} (h : k < N) : (iW ad N F)[k]? = some (ad k, F k) := by
  simp [iW, List.getElem?_map, List.getElem?_range, h]
theorem iW_at {ad : Nat → Nat} {N : Nat} {F : Nat → va_E} {k : Nat} {e : va_E} (h : k < N) (he : F k = e) : (iW ad N F)[k]? = some (ad k, e) := by
  rw [iW_get h, he]
theorem iW_inv {ad : Nat → Nat} {N : Nat} {F : Nat → va_E} {k : Nat} {q : Nat × va_E} (h : (iW ad N F)[k]? = some q) : k < N ∧ q = (ad k, F k) := by
  have hk : k < N := by
    have := (List.getElem?_eq_some_iff.mp h).1
    simpa [iW] using this
  rw [iW_get hk] at h
  exact ⟨hk, (Option.some.inj h).symm⟩
theorem iW_set {ad : Nat → Nat} {N : Nat} {F : Nat → va_E} {k : Nat} {e : va_E} (h : k < N) : (iW ad N F).set k (ad k, e) = iW ad N (va_up F k e) := by
  apply List.ext_getElem?
  intro j
  rw [List.getElem?_set]
  by_cases hj : k = j
  · subst hj
    rw [if_pos rfl, if_pos (by simpa [iW] using h), iW_get h, va_up_self]
  · rw [if_neg hj]
    by_cases hl : j < N
    · rw [iW_get hl, iW_get hl, va_up_ne _ _ (Ne.symm hj)]
    · rw [List.getElem?_eq_none (by simp [iW]; omega), List.getElem?_eq_none (by simp [iW]; omega)]
theorem iW_push {ad : Nat → Nat} {N : Nat} {F : Nat → va_E} {q : Nat} {e : va_E} : iW ad N F ++ [(q, e)] = iW (va_up ad N q) (N + 1) (va_up F N e) := by
  apply List.ext_getElem?
  intro j
  by_cases hl : j < N
  · rw [List.getElem?_append_left (by simpa [iW] using hl), iW_get hl, iW_get (by omega), va_up_ne _ _ (by omega), va_up_ne _ _ (by omega)]
  · by_cases he : j = N
    · subst he
      rw [List.getElem?_append_right (by simp [iW]), iW_get (by omega), va_up_self, va_up_self]
      simp [iW]
    · rw [List.getElem?_eq_none (by simp [iW]; omega), List.getElem?_eq_none (by simp [iW]; omega)]
/-- which cells a method may change -/
def iA (ad : Nat → Nat) (N sz : Nat) : Nat → Prop := fun q => (∃ k, k < N ∧ q = ad k) ∨ sz ≤ q
/-- the addresses are apart -/
def iD (ad : Nat → Nat) (N : Nat) : Prop := ∀ i j, i < N → j < N → ad i = ad j → i = j
theorem iD_D {ad : Nat → Nat} {N : Nat} {A : Nat → Prop} {F : Nat → va_E} (h : iD ad N) (hA : ∀ k, k < N → A (ad k)) : va_D A (iW ad N F) := by
  refine ⟨fun i j p q hi hj hpq => ?_, fun k q hk => ?_⟩
  · obtain ⟨a1, a2⟩ := iW_inv hi
    obtain ⟨b1, b2⟩ := iW_inv hj
    rw [a2, b2] at hpq
    exact h i j a1 b1 hpq
  · obtain ⟨a1, a2⟩ := iW_inv hk
    rw [a2]
    exact hA k a1
theorem iD_of {ad : Nat → Nat} {N : Nat} {A : Nat → Prop} {F : Nat → va_E} (h : va_D A (iW ad N F)) : iD ad N ∧ ∀ k, k < N → A (ad k) :=
  ⟨fun i j hi hj e => h.1 i j _ _ (iW_get hi) (iW_get hj) e, fun k hk => h.2 k _ (iW_get hk)⟩
abbrev iT (cI cQ cL : ClassId) : List (ClassId × FieldType) := [(cI, .int), (cQ, .object "SquopPiles$State"), (cL, .long)]
/-- what links members of the nest -/
def nestF : List (String × Nat × String × String × String) := [("SquopPiles$State", 77, "SquopPiles$Mat", "cell", "[I"), ("SquopPiles", 170, "SquopPiles$Mat", "cell", "[I"), ("SquopPiles", 94, "SquopPiles$State", "mat", "LSquopPiles$Mat;"), ("SquopPiles", 177, "SquopPiles$State", "flights", "[I"), ("SquopPiles", 210, "SquopPiles$State", "fouls", "[I"), ("SquopPiles", 213, "SquopPiles$State", "lost", "[I"), ("SquopPiles", 219, "SquopPiles$State", "turn", "I"), ("SquopPiles", 237, "SquopPiles$State", "lifts", "I"), ("SquopPiles", 109, "SquopPiles$State", "setting", "I"), ("SquopPiles", 156, "SquopPiles$Past", "many", "I"), ("SquopPiles", 128, "SquopPiles$GameText", "length", "I")]
def nestM : List (String × Nat × MethodName) := [(RX5, 9, yX4_init), (RX1, 21, yX5_colourOf), (RX1, 25, yX5_baseOf), (RX2, 24, yX4_init), (RX5, 28, yX0_init), (RX5, 42, yX3_init), (RX4, 52, yX5_colourOf), (RX1, 34, yX5_isWink), (RX3, 31, yX5_landing), (RX4, 80, yX5_stepsOf), (RX4, 83, yX5_landing), (RX4, 86, yX5_restingCell), (RX4, 99, yX5_flightAnswer), (RX4, 63, yX5_cellAt), (RX4, 73, yX5_cellBeside), (RX4, 102, yX5_isWink)]
def NW (U : State) : Prop := (∀ q ∈ nestF, va_Nw (.fieldLinkNest q.1 q.2.1 q.2.2.1 q.2.2.2.1 q.2.2.2.2 "SquopPiles") U) ∧ ∀ q ∈ nestM, va_Nw (.methodLinkNest q.1 q.2.1 q.2.2 "SquopPiles") U
theorem NW.warm {s U : State} (hW : s.WarmedH U.vm) (h : NW s) : NW U := ⟨fun q hq => va_Nw.warmF hW (h.1 q hq), fun q hq => va_Nw.warmM hW (h.2 q hq)⟩
theorem NW.same {u U : State} (e : u.vm = U.vm) (h : NW u) : NW U := ⟨fun q hq => va_Nw.same rfl e (h.1 q hq), fun q hq => va_Nw.same rfl e (h.2 q hq)⟩
/-- the world of a method that reads -/
def rW (D : va_G) (cI cQ cL : ClassId) (ad : Nat → Nat) (N : Nat) (F : Nat → va_E) (U : State) : Prop := va_P D vwCl (iW ad N F) U.heap ∧ va_K D vwCl (iT cI cQ cL) U ∧ NW U
theorem rW_blind {D : va_G} {cI cQ cL : ClassId} {ad : Nat → Nat} {N : Nat} {F : Nat → va_E} {args : List Value} : FrameBlind (va_Pc args (rW D cI cQ cL ad N F)) :=
  fun a U g mk q => ⟨q.1, q.2.1, va_K.moved (u := U) (U := U.calling g mk a) (Vm.Alike.refl U.vm) q.2.2.1, NW.same rfl q.2.2.2⟩
/-- a method that reads, in a world -/
def MR (l : Launch) (y : MethodName) (ws : List Cond) (rm : Room) (D : va_G) (cI cQ cL : ClassId) (ad : Nat → Nat) (N : Nat) (F : Nat → va_E) (args : List Value) (r : Value) : Prop :=
  Met l y ws rm (va_Pc args (rW D cI cQ cL ad N F)) (fun _ st o t => o = .returned (some r) ∧ t.heap = st.heap) 0 0 (fun _ => False)
/-- a method of its arguments alone -/
def MP (l : Launch) (y : MethodName) (ws : List Cond) (rm : Room) (args : List Value) (r : Value) : Prop :=
  Met l y ws rm (va_Pc args (fun _ => True)) (fun _ st o t => o = .returned (some r) ∧ t.heap = st.heap) 0 0 (fun _ => False)
theorem MP_blind {args : List Value} : FrameBlind (va_Pc args (fun _ => True)) := fun _ _ _ _ q => q
section MRS
variable {l : Launch} {y : MethodName} {ws ws' : List Cond} {rm : Room} {cc : ByteArray} {maxL : Nat} {D : va_G} {cI cQ cL : ClassId} {ad : Nat → Nat} {N : Nat} {F : Nat → va_E} {args : List Value}
theorem mr_i {ty : FieldType} {r : Int32} (hy : plainName y.cls = true) (hw : ws = Cond.code y cc maxL (some ty) :: ws') (hrc : rm.cells = 0) (hrs : rm.slots = 0) (hn : narrow ty (.int r) = .int r) (hlen : (lg_sl args).length ≤ maxL)
    (body : ∀ (p : Program) (e : Env) (s : State) (m : MethodId) (below : List Frame) (meth : Method) (c : Code) (Q : State → Prop) (ls : Array Slot),
      p.tables.exec = Jvm.exec → c.code = cc → c.maxLocals = maxL → s.vm.findClass y.cls = some m.cls → (∀ w ∈ ws, w.before args.toArray s = true) → va_P D vwCl (iW ad N F) s.heap → va_K D vwCl (iT cI cQ cL) s → NW s →
      (∀ (pc : Nat) (ls : Array Slot) (v : Int32), v = r → decode cc pc = .ok (.ireturn, 1) → W p l e rm s m args.toArray below meth c s.heap [] 0 0 Q (F0 m pc ls [.int v])) →
      lv_has ls maxL (lv_args 0 args) → W p l e rm s m args.toArray below meth c s.heap [] 0 0 Q (F0 m 0 ls [])) : MR l y ws rm D cI cQ cL ad N F args (.int r) := by
  refine Met.ofW (cc := cc) (maxL := maxL) (ret := some ty) hy hw ?_
  intro p e s m args9 below meth c s₁ B hml hv
  obtain ⟨rfl, hP, hK, hNW⟩ := hv
  have hl := lv_entry args (n := maxL) hlen
  rw [lg_entry_eq]
  exact body p e s m below meth c _ _ B.exec B.bytes hml (findClass_of_methodNamed B.named) (atoms_spec B.pre) hP hK hNW (fun pc ls v hv hd => by
    subst hv
    exact W.zret B.exec B.bytes B.returns hn (fun t ht _ => ⟨rfl, ht⟩) (fun _ h => nomatch h) hd B.notSynchronized) hl
theorem mp_i {ty : FieldType} {r : Int32} (hy : plainName y.cls = true) (hw : ws = Cond.code y cc maxL (some ty) :: ws') (hrc : rm.cells = 0) (hrs : rm.slots = 0) (hn : narrow ty (.int r) = .int r) (hlen : (lg_sl args).length ≤ maxL)
    (body : ∀ (p : Program) (e : Env) (s : State) (m : MethodId) (below : List Frame) (meth : Method) (c : Code) (Q : State → Prop) (ls : Array Slot),
      p.tables.exec = Jvm.exec → c.code = cc → c.maxLocals = maxL → s.vm.findClass y.cls = some m.cls → (∀ w ∈ ws, w.before args.toArray s = true) →
      (∀ (pc : Nat) (ls : Array Slot) (v : Int32), v = r → decode cc pc = .ok (.ireturn, 1) → W p l e rm s m args.toArray below meth c s.heap [] 0 0 Q (F0 m pc ls [.int v])) →
      lv_has ls maxL (lv_args 0 args) → W p l e rm s m args.toArray below meth c s.heap [] 0 0 Q (F0 m 0 ls [])) : MP l y ws rm args (.int r) := by
  refine Met.ofW (cc := cc) (maxL := maxL) (ret := some ty) hy hw ?_
  intro p e s m args9 below meth c s₁ B hml hv
  obtain ⟨rfl, -⟩ := hv
  have hl := lv_entry args (n := maxL) hlen
  rw [lg_entry_eq]
  exact body p e s m below meth c _ _ B.exec B.bytes hml (findClass_of_methodNamed B.named) (atoms_spec B.pre) (fun pc ls v hv hd => by
    subst hv
    exact W.zret B.exec B.bytes B.returns hn (fun t ht _ => ⟨rfl, ht⟩) (fun _ h => nomatch h) hd B.notSynchronized) hl
end MRS
section ROWS
variable {p : Program} {l : Launch} {e : Env} {R : Room} {s : State} {m : MethodId} {args : Array Value} {below : List Frame} {meth : Method} {c : Code} {H : Heap} {locs : List Loc} {cells slots : Nat} {Q : State → Prop}
variable {cc : ByteArray} {pc : Nat} {ls : Array Slot} {rest st0 : List Value} {D : va_G} {cI cQ cL : ClassId} {ad : Nat → Nat} {N : Nat} {F : Nat → va_E} {A : Nat → Prop} {H0 : Heap} {Ts : List Cond}
theorem gf (hx : p.tables.exec = Jvm.exec) (hb : c.code = cc) {own ref C : String} {T : u_T} {n ci index : Nat} (hts : ∀ w ∈ Ts, w.before args s = true) (hin : ∀ w ∈ u_ws C T n, w ∈ Ts) (hown : s.vm.findClass own = some m.cls) (hK : va_K D vwCl (iT cI cQ cL) s) (hP : va_P D vwCl (iW ad N F) H) {k : Nat} (hk : k < N) {fs : List Value} (hF : F k = .inr (ci, fs)) (hc : vwCl[ci]? = some (C, T, n)) (j : Nat) (hj : j < n) (hlink : (Cond.fieldLink own index ref (T j).2.1 (T j).2.2.1).before args s = true) (hsame : ∀ x, s.fieldFound? (T j).1 (T j).2.1 (T j).2.2.1 = some x → s.fieldFound? ref (T j).2.1 (T j).2.2.1 = some x) {v : Value} (hv : fs[j]? = some v) (hdg : decode cc pc = .ok (.getfield index, 3))
    (kk : W p l e R s m args below meth c H locs cells slots Q (F0 m (pc + 3) ls (v :: rest))) : W p l e R s m args below meth c H locs cells slots Q (F0 m pc ls (.ref (ad k) :: rest)) :=
  va_get hx hb hts hin hown hK hP k (iW_at hk hF) hc j hj hlink hsame hv hdg kk
theorem gfN (hx : p.tables.exec = Jvm.exec) (hb : c.code = cc) {own ref C host : String} {T : u_T} {n ci index : Nat} (hts : ∀ w ∈ Ts, w.before args s = true) (hin : ∀ w ∈ u_ws C T n, w ∈ Ts) (hown : s.vm.findClass own = some m.cls) (hK : va_K D vwCl (iT cI cQ cL) s) (hP : va_P D vwCl (iW ad N F) H) {k : Nat} (hk : k < N) {fs : List Value} (hF : F k = .inr (ci, fs)) (hc : vwCl[ci]? = some (C, T, n)) (j : Nat) (hj : j < n) (hlink : va_Nw (.fieldLinkNest own index ref (T j).2.1 (T j).2.2.1 host) s) (hsame : ∀ x, s.fieldFound? (T j).1 (T j).2.1 (T j).2.2.1 = some x → s.fieldFound? ref (T j).2.1 (T j).2.2.1 = some x) {v : Value} (hv : fs[j]? = some v) (hdg : decode cc pc = .ok (.getfield index, 3))
    (kk : W p l e R s m args below meth c H locs cells slots Q (F0 m (pc + 3) ls (v :: rest))) : W p l e R s m args below meth c H locs cells slots Q (F0 m pc ls (.ref (ad k) :: rest)) :=
  va_getN hx hb hts hin hown hK hP k (iW_at hk hF) hc j hj (va_Nw.use rfl hlink) hsame hv hdg kk
theorem ald (hx : p.tables.exec = Jvm.exec) (hb : c.code = cc) (hK : va_K D vwCl (iT cI cQ cL) s) (hP : va_P D vwCl (iW ad N F) H) {k n : Nat} {f : Nat → Int32} {x : Int32} {j : Nat} (hk : k < N) (hF : F k = .inl (cI, n, .inl f)) (hxj : x = nI j) (hj : j < n) (hn : n < 2 ^ 31) (hdg : decode cc pc = .ok (.iaload, 1))
    (kk : W p l e R s m args below meth c H locs cells slots Q (F0 m (pc + 1) ls (.int (f j) :: rest))) : W p l e R s m args below meth c H locs cells slots Q (F0 m pc ls (.int x :: .ref (ad k) :: rest)) := by
  subst hxj
  refine va_iald hx hb hK hP k 0 (iW_at hk hF) rfl (vp_in_nI hj hn) hdg ?_
  rw [nI_clamp (Nat.lt_trans hj hn)]
  exact kk
theorem alen (hx : p.tables.exec = Jvm.exec) (hb : c.code = cc) (hK : va_K D vwCl (iT cI cQ cL) s) (hP : va_P D vwCl (iW ad N F) H) {k n : Nat} {f : Nat → Int32} (hk : k < N) (hF : F k = .inl (cI, n, .inl f)) (hdg : decode cc pc = .ok (.arraylength, 1))
    (kk : W p l e R s m args below meth c H locs cells slots Q (F0 m (pc + 1) ls (.int (nI n) :: rest))) : W p l e R s m args below meth c H locs cells slots Q (F0 m pc ls (.ref (ad k) :: rest)) :=
  va_alen hx hb hK hP k 0 (iW_at hk hF) (ty := .int) rfl rfl hdg kk
/-- behind a call that reads -/
theorem cp {r : Value} (hr : va_Run p l e R s m args below meth c H locs cells slots 0 0 (F0 m pc ls st0) rest (fun st o t => o = .returned (some r) ∧ t.heap = st.heap) (fun _ => False))
    (kk : W p l e R s m args below meth c H locs cells slots Q (F0 m (pc + 3) ls (r :: rest))) : W p l e R s m args below meth c H locs cells slots Q (F0 m pc ls st0) := by
  intro T hT X
  obtain ⟨v, st₀, t, T', L, h0, X', hL, e1, e2, ⟨hv, hh⟩, st⟩ := hr T hT X
  cases hv
  have hLn : L = [] := by
    cases L with
    | nil => rfl
    | cons a L => exact (hL a List.mem_cons_self).elim
  subst hLn
  rw [List.append_nil] at X'
  obtain ⟨t2, a1, b1⟩ := kk T' (by rw [e1, hh, h0]) X'
  exact ⟨t2, st t2 a1, b1⟩
theorem icond {k ci n : Nat} {C : String} {T : u_T} {fs : List Value} (hK : va_K D vwCl (iT cI cQ cL) s) (hP : va_P D vwCl (iW ad N F) H) (hk : k < N) (hF : F k = .inr (ci, fs)) (hc : vwCl[ci]? = some (C, T, n)) : ∃ cell : Cell, H[ad k]? = some cell ∧ cell.vm.isStatics = false ∧ s.vm.findClass C = some cell.cls :=
  va_recv hK hP hc (iW_at hk hF)
theorem rW_pre {argl : List Value} {U : State} (hK : va_K D vwCl (iT cI cQ cL) s) (hP : va_P D vwCl (iW ad N F) H) (hNW : NW s) (hU : U.heap = H) (hW : s.WarmedH U.vm) : va_Pc argl (rW D cI cQ cL ad N F) argl.toArray U :=
  ⟨rfl, by rw [hU]; exact hP, va_K.moved hW.alike hK, hNW.warm hW⟩
/-- a call of a virtual method that reads -/
theorem cvR {nL index na : Nat} {own C : String} {y : MethodName} {bytes : ByteArray} {maxL : Nat} {ret : Option FieldType} {ws : List Cond} {rm : Room} {As : List Value} {r : Value} {k ci n : Nat} {T : u_T} {fs : List Value}
    (S : CallFix p m c cc nL s args Ts own) (hM : MR l y ws rm D cI cQ cL ad N F (.ref (ad k) :: As) r) (cw : CallW R s args own C index y bytes maxL ret ws rm 0 0 na) (hK : va_K D vwCl (iT cI cQ cL) s) (hP : va_P D vwCl (iW ad N F) H) (hNW : NW s) (hk : k < N) (hF : F k = .inr (ci, fs)) (hc : vwCl[ci]? = some (C, T, n))
    (hn : As.length = na) (hsize : ls.size = nL) (hstack : st0 = As.reverse ++ .ref (ad k) :: rest) (hW : (rest.map fun v => v.category).sum ≤ 8) (hf : cells + 0 ≤ R.cells ∧ slots + 0 ≤ R.slots) (hdg : decode cc pc = .ok (.invokevirtual index, 3))
    (kk : W p l e R s m args below meth c H locs cells slots Q (F0 m (pc + 3) ls (r :: rest))) : W p l e R s m args below meth c H locs cells slots Q (F0 m pc ls st0) :=
  cp (va_runV (g := F0 m pc ls st0) S hM cw ⟨rW_blind, icond hK hP hk hF hc, fun U hU hW => rW_pre hK hP hNW hU hW⟩ rfl hn hsize hstack (lv_room hW) hdg hf) kk
/-- a call of a static method of its arguments alone -/
theorem csP {nL index na : Nat} {own : String} {y : MethodName} {bytes : ByteArray} {maxL : Nat} {ret : Option FieldType} {ws : List Cond} {rm : Room} {As : List Value} {r : Value}
    (S : CallFix p m c cc nL s args Ts own) (hM : MP l y ws rm As r) (cw : CallB R s args own index y bytes maxL ret ws rm 0 0 na ∧ (Cond.static y).before args s = true)
    (hn : As.length = na) (hsize : ls.size = nL) (hstack : st0 = As.reverse ++ rest) (hW : (rest.map fun v => v.category).sum ≤ 8) (hf : cells + 0 ≤ R.cells ∧ slots + 0 ≤ R.slots) (hdg : decode cc pc = .ok (.invokestatic index, 3))
    (kk : W p l e R s m args below meth c H locs cells slots Q (F0 m (pc + 3) ls (r :: rest))) : W p l e R s m args below meth c H locs cells slots Q (F0 m pc ls st0) :=
  cp (va_runS (g := F0 m pc ls st0) S hM cw ⟨MP_blind, fun U hU hW => ⟨rfl, trivial⟩⟩ rfl hn hsize hstack (lv_room hW) hdg hf) kk
theorem csPN {nL index na : Nat} {own host : String} {y : MethodName} {bytes : ByteArray} {maxL : Nat} {ret : Option FieldType} {ws : List Cond} {rm : Room} {As : List Value} {r : Value}
    (S : CallFix p m c cc nL s args Ts own) (hM : MP l y ws rm As r) (cw : va_CN R s args own index y host bytes maxL ret ws rm 0 0 na) (hst : (Cond.static y).before args s = true)
    (hn : As.length = na) (hsize : ls.size = nL) (hstack : st0 = As.reverse ++ rest) (hW : (rest.map fun v => v.category).sum ≤ 8) (hf : cells + 0 ≤ R.cells ∧ slots + 0 ≤ R.slots) (hdg : decode cc pc = .ok (.invokestatic index, 3))
    (kk : W p l e R s m args below meth c H locs cells slots Q (F0 m (pc + 3) ls (r :: rest))) : W p l e R s m args below meth c H locs cells slots Q (F0 m pc ls st0) :=
  cp (va_runSN (g := F0 m pc ls st0) S hM ⟨cw, hst, trivial⟩ ⟨MP_blind, fun U hU hW => ⟨rfl, trivial⟩⟩ rfl hn hsize hstack (lv_room hW) hdg hf) kk
end ROWS
end
/-! from rows -/
section
def bI (b : Bool) : Int32 := if b then nI 1 else nI 0
theorem bI_t {b : Bool} (h : b = true) : bI b = nI 1 := by rw [h]; rfl
theorem bI_f {b : Bool} (h : b = false) : bI b = nI 0 := by rw [h]; rfl
theorem bI_0 {b : Bool} : bI b = 0 ↔ b = false := by cases b <;> simp [bI, nI_0, show ¬ nI 1 = 0 by decide]
theorem bI_fit (b : Bool) : fits .boolean (.int (bI b)) = true := by cases b <;> rfl
theorem bI_nar (b : Bool) : narrow .boolean (.int (bI b)) = .int (bI b) := by cases b <;> rfl
theorem n_inc (i : Nat) : nI i + Int32.ofInt 1 = nI (i + 1) := by rw [show Int32.ofInt 1 = 1 from rfl, nI_1]
theorem nI_inj {a b : Nat} (ha : a < 2 ^ 31) (hb : b < 2 ^ 31) (h : nI a = nI b) : a = b := (nI_eq ha hb).mp h
section NROWS
variable {p : Program} {l : Launch} {e : Env} {R : Room} {s : State} {m : MethodId} {args : Array Value} {below : List Frame} {meth : Method} {c : Code} {H : Heap} {locs : List Loc} {cells slots : Nat} {Q : State → Prop}
variable {cc : ByteArray} {pc tgt : Nat} {ls : Array Slot} {rest : List Value} {off : Int}
theorem n_iadd (hx : p.tables.exec = Jvm.exec) (hb : c.code = cc) {a b : Nat} (hdg : decode cc pc = .ok (.iadd, 1)) (k : W p l e R s m args below meth c H locs cells slots Q (F0 m (pc + 1) ls (.int (nI (a + b)) :: rest))) : W p l e R s m args below meth c H locs cells slots Q (F0 m pc ls (.int (nI b) :: .int (nI a) :: rest)) :=
  lv_iadd hx hb hdg (by rw [nI_add]; exact k)
theorem n_isub (hx : p.tables.exec = Jvm.exec) (hb : c.code = cc) {a b : Nat} (hba : b ≤ a) (hdg : decode cc pc = .ok (.isub, 1)) (k : W p l e R s m args below meth c H locs cells slots Q (F0 m (pc + 1) ls (.int (nI (a - b)) :: rest))) : W p l e R s m args below meth c H locs cells slots Q (F0 m pc ls (.int (nI b) :: .int (nI a) :: rest)) :=
  lv_isub hx hb hdg (by rw [pk_sub hba]; exact k)
theorem n_imul (hx : p.tables.exec = Jvm.exec) (hb : c.code = cc) {a b : Nat} (hdg : decode cc pc = .ok (.imul, 1)) (k : W p l e R s m args below meth c H locs cells slots Q (F0 m (pc + 1) ls (.int (nI (a * b)) :: rest))) : W p l e R s m args below meth c H locs cells slots Q (F0 m pc ls (.int (nI b) :: .int (nI a) :: rest)) :=
  lv_imul hx hb hdg (by rw [pk_mul]; exact k)
theorem n_idiv (hx : p.tables.exec = Jvm.exec) (hb : c.code = cc) {a b : Nat} (ha : a < 2 ^ 31) (h0 : 0 < b) (hb2 : b < 2 ^ 31) (hdg : decode cc pc = .ok (.idiv, 1)) (k : W p l e R s m args below meth c H locs cells slots Q (F0 m (pc + 1) ls (.int (nI (a / b)) :: rest))) : W p l e R s m args below meth c H locs cells slots Q (F0 m pc ls (.int (nI b) :: .int (nI a) :: rest)) :=
  lv_idiv hx hb hdg (nI_ne0 h0 hb2) (by rw [pk_div ha h0 hb2]; exact k)
theorem n_irem (hx : p.tables.exec = Jvm.exec) (hb : c.code = cc) {a b : Nat} (ha : a < 2 ^ 31) (h0 : 0 < b) (hb2 : b < 2 ^ 31) (hdg : decode cc pc = .ok (.irem, 1)) (k : W p l e R s m args below meth c H locs cells slots Q (F0 m (pc + 1) ls (.int (nI (a % b)) :: rest))) : W p l e R s m args below meth c H locs cells slots Q (F0 m pc ls (.int (nI b) :: .int (nI a) :: rest)) :=
  lv_irem hx hb hdg (nI_ne0 h0 hb2) (by rw [pk_rem ha h0 hb2]; exact k)
theorem n_icmp_eq (hx : p.tables.exec = Jvm.exec) (hb : c.code = cc) {a b : Nat} (ha : a < 2 ^ 31) (hb2 : b < 2 ^ 31) (hdg : decode cc pc = .ok (.if_icmp .eq off, 3)) (ht : (pc : Int) + off = (tgt : Int)) (kt : a = b → W p l e R s m args below meth c H locs cells slots Q (F0 m tgt ls rest)) (kf : a ≠ b → W p l e R s m args below meth c H locs cells slots Q (F0 m (pc + 3) ls rest)) : W p l e R s m args below meth c H locs cells slots Q (F0 m pc ls (.int (nI b) :: .int (nI a) :: rest)) :=
  lv_icmp_eq hx hb hdg ht (fun h => kt ((nI_eq ha hb2).mp h)) (fun h => kf (fun q => h ((nI_eq ha hb2).mpr q)))
theorem n_icmp_ne (hx : p.tables.exec = Jvm.exec) (hb : c.code = cc) {a b : Nat} (ha : a < 2 ^ 31) (hb2 : b < 2 ^ 31) (hdg : decode cc pc = .ok (.if_icmp .ne off, 3)) (ht : (pc : Int) + off = (tgt : Int)) (kt : a ≠ b → W p l e R s m args below meth c H locs cells slots Q (F0 m tgt ls rest)) (kf : a = b → W p l e R s m args below meth c H locs cells slots Q (F0 m (pc + 3) ls rest)) : W p l e R s m args below meth c H locs cells slots Q (F0 m pc ls (.int (nI b) :: .int (nI a) :: rest)) :=
  lv_icmp_ne hx hb hdg ht (fun h => kt (fun q => h ((nI_eq ha hb2).mpr q))) (fun h => kf ((nI_eq ha hb2).mp h))
theorem n_icmp_lt (hx : p.tables.exec = Jvm.exec) (hb : c.code = cc) {a b : Nat} (ha : a < 2 ^ 31) (hb2 : b < 2 ^ 31) (hdg : decode cc pc = .ok (.if_icmp .lt off, 3)) (ht : (pc : Int) + off = (tgt : Int)) (kt : a < b → W p l e R s m args below meth c H locs cells slots Q (F0 m tgt ls rest)) (kf : b ≤ a → W p l e R s m args below meth c H locs cells slots Q (F0 m (pc + 3) ls rest)) : W p l e R s m args below meth c H locs cells slots Q (F0 m pc ls (.int (nI b) :: .int (nI a) :: rest)) :=
  lv_icmp_lt hx hb hdg ht (fun h => kt ((nI_ltI ha hb2).mp h)) (fun h => kf (Nat.not_lt.mp fun q => h ((nI_ltI ha hb2).mpr q)))
theorem n_icmp_ge (hx : p.tables.exec = Jvm.exec) (hb : c.code = cc) {a b : Nat} (ha : a < 2 ^ 31) (hb2 : b < 2 ^ 31) (hdg : decode cc pc = .ok (.if_icmp .ge off, 3)) (ht : (pc : Int) + off = (tgt : Int)) (kt : b ≤ a → W p l e R s m args below meth c H locs cells slots Q (F0 m tgt ls rest)) (kf : a < b → W p l e R s m args below meth c H locs cells slots Q (F0 m (pc + 3) ls rest)) : W p l e R s m args below meth c H locs cells slots Q (F0 m pc ls (.int (nI b) :: .int (nI a) :: rest)) :=
  lv_icmp_ge hx hb hdg ht (fun h => kt ((nI_leI hb2 ha).mp h)) (fun h => kf (Nat.not_le.mp fun q => h ((nI_leI hb2 ha).mpr q)))
theorem n_icmp_gt (hx : p.tables.exec = Jvm.exec) (hb : c.code = cc) {a b : Nat} (ha : a < 2 ^ 31) (hb2 : b < 2 ^ 31) (hdg : decode cc pc = .ok (.if_icmp .gt off, 3)) (ht : (pc : Int) + off = (tgt : Int)) (kt : b < a → W p l e R s m args below meth c H locs cells slots Q (F0 m tgt ls rest)) (kf : a ≤ b → W p l e R s m args below meth c H locs cells slots Q (F0 m (pc + 3) ls rest)) : W p l e R s m args below meth c H locs cells slots Q (F0 m pc ls (.int (nI b) :: .int (nI a) :: rest)) :=
  lv_icmp_gt hx hb hdg ht (fun h => kt ((nI_ltI hb2 ha).mp h)) (fun h => kf (Nat.not_lt.mp fun q => h ((nI_ltI hb2 ha).mpr q)))
theorem n_icmp_le (hx : p.tables.exec = Jvm.exec) (hb : c.code = cc) {a b : Nat} (ha : a < 2 ^ 31) (hb2 : b < 2 ^ 31) (hdg : decode cc pc = .ok (.if_icmp .le off, 3)) (ht : (pc : Int) + off = (tgt : Int)) (kt : a ≤ b → W p l e R s m args below meth c H locs cells slots Q (F0 m tgt ls rest)) (kf : b < a → W p l e R s m args below meth c H locs cells slots Q (F0 m (pc + 3) ls rest)) : W p l e R s m args below meth c H locs cells slots Q (F0 m pc ls (.int (nI b) :: .int (nI a) :: rest)) :=
  lv_icmp_le hx hb hdg ht (fun h => kt ((nI_leI ha hb2).mp h)) (fun h => kf (Nat.not_le.mp fun q => h ((nI_leI ha hb2).mpr q)))
theorem n_if_eq (hx : p.tables.exec = Jvm.exec) (hb : c.code = cc) {a : Nat} (ha : a < 2 ^ 31) (hdg : decode cc pc = .ok (.ifCond .eq off, 3)) (ht : (pc : Int) + off = (tgt : Int)) (kt : a = 0 → W p l e R s m args below meth c H locs cells slots Q (F0 m tgt ls rest)) (kf : a ≠ 0 → W p l e R s m args below meth c H locs cells slots Q (F0 m (pc + 3) ls rest)) : W p l e R s m args below meth c H locs cells slots Q (F0 m pc ls (.int (nI a) :: rest)) :=
  lv_if_eq hx hb hdg ht (fun h => kt ((nI_eq ha (by decide)).mp h)) (fun h => kf (fun q => h (by rw [q]; rfl)))
theorem n_if_ne (hx : p.tables.exec = Jvm.exec) (hb : c.code = cc) {a : Nat} (ha : a < 2 ^ 31) (hdg : decode cc pc = .ok (.ifCond .ne off, 3)) (ht : (pc : Int) + off = (tgt : Int)) (kt : a ≠ 0 → W p l e R s m args below meth c H locs cells slots Q (F0 m tgt ls rest)) (kf : a = 0 → W p l e R s m args below meth c H locs cells slots Q (F0 m (pc + 3) ls rest)) : W p l e R s m args below meth c H locs cells slots Q (F0 m pc ls (.int (nI a) :: rest)) :=
  lv_if_ne hx hb hdg ht (fun h => kt (fun q => h (by rw [q]; rfl))) (fun h => kf ((nI_eq ha (by decide)).mp h))
theorem n_if_le (hx : p.tables.exec = Jvm.exec) (hb : c.code = cc) {a : Nat} (ha : a < 2 ^ 31) (hdg : decode cc pc = .ok (.ifCond .le off, 3)) (ht : (pc : Int) + off = (tgt : Int)) (kt : a = 0 → W p l e R s m args below meth c H locs cells slots Q (F0 m tgt ls rest)) (kf : 0 < a → W p l e R s m args below meth c H locs cells slots Q (F0 m (pc + 3) ls rest)) : W p l e R s m args below meth c H locs cells slots Q (F0 m pc ls (.int (nI a) :: rest)) :=
  lv_if_le hx hb hdg ht (fun h => kt (Nat.le_zero.mp ((nI_leI (b := 0) ha (by decide)).mp h))) (fun h => kf (Nat.pos_of_ne_zero fun q => h (by rw [q]; decide)))
theorem n_if_gt (hx : p.tables.exec = Jvm.exec) (hb : c.code = cc) {a : Nat} (ha : a < 2 ^ 31) (hdg : decode cc pc = .ok (.ifCond .gt off, 3)) (ht : (pc : Int) + off = (tgt : Int)) (kt : 0 < a → W p l e R s m args below meth c H locs cells slots Q (F0 m tgt ls rest)) (kf : a = 0 → W p l e R s m args below meth c H locs cells slots Q (F0 m (pc + 3) ls rest)) : W p l e R s m args below meth c H locs cells slots Q (F0 m pc ls (.int (nI a) :: rest)) :=
  lv_if_gt hx hb hdg ht (fun h => kt ((nI_ltI (a := 0) (by decide) ha).mp h)) (fun h => kf (Nat.le_zero.mp (Nat.not_lt.mp fun q => h ((nI_ltI (a := 0) (by decide) ha).mpr q))))
theorem n_if_lt (hx : p.tables.exec = Jvm.exec) (hb : c.code = cc) {a : Nat} (ha : a < 2 ^ 31) (hdg : decode cc pc = .ok (.ifCond .lt off, 3)) (ht : (pc : Int) + off = (tgt : Int)) (kf : W p l e R s m args below meth c H locs cells slots Q (F0 m (pc + 3) ls rest)) : W p l e R s m args below meth c H locs cells slots Q (F0 m pc ls (.int (nI a) :: rest)) :=
  lv_if_lt hx hb hdg ht (fun h => absurd h (nI_pos ha)) (fun _ => kf)
theorem n_if_ge (hx : p.tables.exec = Jvm.exec) (hb : c.code = cc) {a : Nat} (ha : a < 2 ^ 31) (hdg : decode cc pc = .ok (.ifCond .ge off, 3)) (ht : (pc : Int) + off = (tgt : Int)) (kt : W p l e R s m args below meth c H locs cells slots Q (F0 m tgt ls rest)) : W p l e R s m args below meth c H locs cells slots Q (F0 m pc ls (.int (nI a) :: rest)) :=
  lv_if_ge hx hb hdg ht (fun _ => kt) (fun h => absurd (nI_pos' ha) h)
theorem b_if_eq (hx : p.tables.exec = Jvm.exec) (hb : c.code = cc) {b : Bool} (hdg : decode cc pc = .ok (.ifCond .eq off, 3)) (ht : (pc : Int) + off = (tgt : Int)) (kt : b = false → W p l e R s m args below meth c H locs cells slots Q (F0 m tgt ls rest)) (kf : b = true → W p l e R s m args below meth c H locs cells slots Q (F0 m (pc + 3) ls rest)) : W p l e R s m args below meth c H locs cells slots Q (F0 m pc ls (.int (bI b) :: rest)) :=
  lv_if_eq hx hb hdg ht (fun h => kt (bI_0.mp h)) (fun h => kf (by cases b; exact absurd rfl h; rfl))
theorem b_if_ne (hx : p.tables.exec = Jvm.exec) (hb : c.code = cc) {b : Bool} (hdg : decode cc pc = .ok (.ifCond .ne off, 3)) (ht : (pc : Int) + off = (tgt : Int)) (kt : b = true → W p l e R s m args below meth c H locs cells slots Q (F0 m tgt ls rest)) (kf : b = false → W p l e R s m args below meth c H locs cells slots Q (F0 m (pc + 3) ls rest)) : W p l e R s m args below meth c H locs cells slots Q (F0 m pc ls (.int (bI b) :: rest)) :=
  lv_if_ne hx hb hdg ht (fun h => kt (by cases b; exact absurd rfl h; rfl)) (fun h => kf (bI_0.mp h))
end NROWS
theorem gIn {x y : Cond} (h : y ∈ AW) : GoodIn (x :: AW) (y :: AW) := by
  intro w hw
  have hm : w ∈ AW := by
    rcases List.mem_cons.mp hw with rfl | h9
    · exact h
    · exact h9
  exact ⟨List.mem_cons_of_mem _ hm, good_of_word (List.all_eq_true.mp AW_good w hm)⟩
section CWS
variable {s : State} {args : Array Value} {R rm : Room} {own C : String} {index maxL mc ms : Nat} {y : MethodName} {bytes : ByteArray} {ret : Option FieldType} {x : Cond}
theorem cwV9 (n : Nat) (ht : ∀ w ∈ x :: AW, w.before args s = true) (hc : Cond.code y bytes maxL ret ∈ AW) (hl : Cond.methodLink own index y ∈ AW) (hi : Cond.instanceMethod y ∈ AW) (he : Cond.selects C y y ∈ AW) (hini : Cond.initialized y.cls ∈ AW) (hrc : rm.cells = mc) (hrs : rm.slots = ms)
    (hd : y.cls ≠ "java/lang/invoke/MethodHandle" ∧ y.cls ≠ "java/lang/invoke/VarHandle" ∧ (parseMethodDescriptor y.desc).map (fun d => d.parameters.length) = some n) (hR : rm.frames + 1 ≤ R.frames ∧ 8 + (maxL + 11) + rm.locals ≤ R.locals) : CallW R s args own C index y bytes maxL ret (Cond.code y bytes maxL ret :: AW) rm mc ms n :=
  ⟨callB_of n ht (gIn hc) rfl hrc hrs (ht _ (List.mem_cons_of_mem _ hini)) (ht _ (List.mem_cons_of_mem _ hl)) hd hR, ht _ (List.mem_cons_of_mem _ hi), ht _ (List.mem_cons_of_mem _ he)⟩
theorem cwS9 (n : Nat) (ht : ∀ w ∈ x :: AW, w.before args s = true) (hc : Cond.code y bytes maxL ret ∈ AW) (hl : Cond.methodLink own index y ∈ AW) (hst : Cond.static y ∈ AW) (hini : Cond.initialized y.cls ∈ AW) (hrc : rm.cells = mc) (hrs : rm.slots = ms)
    (hd : y.cls ≠ "java/lang/invoke/MethodHandle" ∧ y.cls ≠ "java/lang/invoke/VarHandle" ∧ (parseMethodDescriptor y.desc).map (fun d => d.parameters.length) = some n) (hR : rm.frames + 1 ≤ R.frames ∧ 8 + (maxL + 11) + rm.locals ≤ R.locals) : CallB R s args own index y bytes maxL ret (Cond.code y bytes maxL ret :: AW) rm mc ms n ∧ (Cond.static y).before args s = true :=
  ⟨callB_of n ht (gIn hc) rfl hrc hrs (ht _ (List.mem_cons_of_mem _ hini)) (ht _ (List.mem_cons_of_mem _ hl)) hd hR, ht _ (List.mem_cons_of_mem _ hst)⟩
theorem cwN9 (n : Nat) (ht : ∀ w ∈ x :: AW, w.before args s = true) (hc : Cond.code y bytes maxL ret ∈ AW) {host : String} (hl : va_Nw (.methodLinkNest own index y host) s) (hini : Cond.initialized y.cls ∈ AW) (hrc : rm.cells = mc) (hrs : rm.slots = ms)
    (hd : y.cls ≠ "java/lang/invoke/MethodHandle" ∧ y.cls ≠ "java/lang/invoke/VarHandle" ∧ (parseMethodDescriptor y.desc).map (fun d => d.parameters.length) = some n) (hR : rm.frames + 1 ≤ R.frames ∧ 8 + (maxL + 11) + rm.locals ≤ R.locals) : va_CN R s args own index y host bytes maxL ret (Cond.code y bytes maxL ret :: AW) rm mc ms n :=
  va_cnB n ht (gIn hc) rfl hrc hrs hl (ht _ (List.mem_cons_of_mem _ hini)) hd hR
end CWS
theorem nf0 {s : State} (h : NW s) : va_Nw (.fieldLinkNest RX4 77 "SquopPiles$Mat" "cell" "[I" "SquopPiles") s := h.1 (RX4, 77, "SquopPiles$Mat", "cell", "[I") (List.mem_of_getElem? (i := 0) rfl)
theorem nf1 {s : State} (h : NW s) : va_Nw (.fieldLinkNest RX5 170 "SquopPiles$Mat" "cell" "[I" "SquopPiles") s := h.1 (RX5, 170, "SquopPiles$Mat", "cell", "[I") (List.mem_of_getElem? (i := 1) rfl)
theorem nf2 {s : State} (h : NW s) : va_Nw (.fieldLinkNest RX5 94 "SquopPiles$State" "mat" "LSquopPiles$Mat;" "SquopPiles") s := h.1 (RX5, 94, "SquopPiles$State", "mat", "LSquopPiles$Mat;") (List.mem_of_getElem? (i := 2) rfl)
theorem nf3 {s : State} (h : NW s) : va_Nw (.fieldLinkNest RX5 177 "SquopPiles$State" "flights" "[I" "SquopPiles") s := h.1 (RX5, 177, "SquopPiles$State", "flights", "[I") (List.mem_of_getElem? (i := 3) rfl)
theorem nf4 {s : State} (h : NW s) : va_Nw (.fieldLinkNest RX5 210 "SquopPiles$State" "fouls" "[I" "SquopPiles") s := h.1 (RX5, 210, "SquopPiles$State", "fouls", "[I") (List.mem_of_getElem? (i := 4) rfl)
theorem nf5 {s : State} (h : NW s) : va_Nw (.fieldLinkNest RX5 213 "SquopPiles$State" "lost" "[I" "SquopPiles") s := h.1 (RX5, 213, "SquopPiles$State", "lost", "[I") (List.mem_of_getElem? (i := 5) rfl)
theorem nf6 {s : State} (h : NW s) : va_Nw (.fieldLinkNest RX5 219 "SquopPiles$State" "turn" "I" "SquopPiles") s := h.1 (RX5, 219, "SquopPiles$State", "turn", "I") (List.mem_of_getElem? (i := 6) rfl)
theorem nf7 {s : State} (h : NW s) : va_Nw (.fieldLinkNest RX5 237 "SquopPiles$State" "lifts" "I" "SquopPiles") s := h.1 (RX5, 237, "SquopPiles$State", "lifts", "I") (List.mem_of_getElem? (i := 7) rfl)
theorem nf8 {s : State} (h : NW s) : va_Nw (.fieldLinkNest RX5 109 "SquopPiles$State" "setting" "I" "SquopPiles") s := h.1 (RX5, 109, "SquopPiles$State", "setting", "I") (List.mem_of_getElem? (i := 8) rfl)
theorem nf9 {s : State} (h : NW s) : va_Nw (.fieldLinkNest RX5 156 "SquopPiles$Past" "many" "I" "SquopPiles") s := h.1 (RX5, 156, "SquopPiles$Past", "many", "I") (List.mem_of_getElem? (i := 9) rfl)
theorem nf10 {s : State} (h : NW s) : va_Nw (.fieldLinkNest RX5 128 "SquopPiles$GameText" "length" "I" "SquopPiles") s := h.1 (RX5, 128, "SquopPiles$GameText", "length", "I") (List.mem_of_getElem? (i := 10) rfl)
theorem nm0 {s : State} (h : NW s) : va_Nw (.methodLinkNest RX5 9 yX4_init "SquopPiles") s := h.2 (RX5, 9, yX4_init) (List.mem_of_getElem? (i := 0) rfl)
theorem nm1 {s : State} (h : NW s) : va_Nw (.methodLinkNest RX1 21 yX5_colourOf "SquopPiles") s := h.2 (RX1, 21, yX5_colourOf) (List.mem_of_getElem? (i := 1) rfl)
theorem nm2 {s : State} (h : NW s) : va_Nw (.methodLinkNest RX1 25 yX5_baseOf "SquopPiles") s := h.2 (RX1, 25, yX5_baseOf) (List.mem_of_getElem? (i := 2) rfl)
theorem nm3 {s : State} (h : NW s) : va_Nw (.methodLinkNest RX2 24 yX4_init "SquopPiles") s := h.2 (RX2, 24, yX4_init) (List.mem_of_getElem? (i := 3) rfl)
theorem nm4 {s : State} (h : NW s) : va_Nw (.methodLinkNest RX5 28 yX0_init "SquopPiles") s := h.2 (RX5, 28, yX0_init) (List.mem_of_getElem? (i := 4) rfl)
theorem nm5 {s : State} (h : NW s) : va_Nw (.methodLinkNest RX5 42 yX3_init "SquopPiles") s := h.2 (RX5, 42, yX3_init) (List.mem_of_getElem? (i := 5) rfl)
theorem nm6 {s : State} (h : NW s) : va_Nw (.methodLinkNest RX4 52 yX5_colourOf "SquopPiles") s := h.2 (RX4, 52, yX5_colourOf) (List.mem_of_getElem? (i := 6) rfl)
theorem nm7 {s : State} (h : NW s) : va_Nw (.methodLinkNest RX1 34 yX5_isWink "SquopPiles") s := h.2 (RX1, 34, yX5_isWink) (List.mem_of_getElem? (i := 7) rfl)
theorem nm8 {s : State} (h : NW s) : va_Nw (.methodLinkNest RX3 31 yX5_landing "SquopPiles") s := h.2 (RX3, 31, yX5_landing) (List.mem_of_getElem? (i := 8) rfl)
theorem nm9 {s : State} (h : NW s) : va_Nw (.methodLinkNest RX4 80 yX5_stepsOf "SquopPiles") s := h.2 (RX4, 80, yX5_stepsOf) (List.mem_of_getElem? (i := 9) rfl)
theorem nm10 {s : State} (h : NW s) : va_Nw (.methodLinkNest RX4 83 yX5_landing "SquopPiles") s := h.2 (RX4, 83, yX5_landing) (List.mem_of_getElem? (i := 10) rfl)
theorem nm11 {s : State} (h : NW s) : va_Nw (.methodLinkNest RX4 86 yX5_restingCell "SquopPiles") s := h.2 (RX4, 86, yX5_restingCell) (List.mem_of_getElem? (i := 11) rfl)
theorem nm12 {s : State} (h : NW s) : va_Nw (.methodLinkNest RX4 99 yX5_flightAnswer "SquopPiles") s := h.2 (RX4, 99, yX5_flightAnswer) (List.mem_of_getElem? (i := 12) rfl)
theorem nm13 {s : State} (h : NW s) : va_Nw (.methodLinkNest RX4 63 yX5_cellAt "SquopPiles") s := h.2 (RX4, 63, yX5_cellAt) (List.mem_of_getElem? (i := 13) rfl)
theorem nm14 {s : State} (h : NW s) : va_Nw (.methodLinkNest RX4 73 yX5_cellBeside "SquopPiles") s := h.2 (RX4, 73, yX5_cellBeside) (List.mem_of_getElem? (i := 14) rfl)
theorem nm15 {s : State} (h : NW s) : va_Nw (.methodLinkNest RX4 102 yX5_isWink "SquopPiles") s := h.2 (RX4, 102, yX5_isWink) (List.mem_of_getElem? (i := 15) rfl)
end
/-! from spec -/
section
theorem sw_out {x : Int32} (n : Nat) (h : ∀ k, k < n → x ≠ nI k) (hn : n < 2 ^ 31 := by decide) : x.toInt < 0 ∨ ((n : Int) - 1) < x.toInt := by
  rcases Int.lt_or_le x.toInt 0 with q | q
  · exact Or.inl q
  · refine Or.inr ?_
    rcases Int.lt_or_le ((n : Int) - 1) x.toInt with r | r
    · exact r
    · exfalso
      refine h x.toInt.toNat (by omega) ?_
      apply Int32.toInt_inj.mp
      rw [nI_toInt (by omega)]
      omega
def wk (x : Int32) : Bool := !(decide (x < 0)) && !(decide (nI 16 ≤ x))
def ix (x : Int32) : Nat := x.toNatClampNeg
theorem wk_of {x : Int32} (h : wk x = true) : ∃ j : Nat, j < 16 ∧ x = nI j := by
  simp only [wk, Bool.and_eq_true, Bool.not_eq_true', decide_eq_false_iff_not] at h
  obtain ⟨j, h1, h2⟩ := nI_of h.1
  refine ⟨j, ?_, h2⟩
  have h3 := h.2
  rw [h2] at h3
  exact Nat.not_le.mp fun q => h3 ((nI_leI (by decide) h1).mpr q)
theorem wk_nI {j : Nat} (h : j < 16) : wk (nI j) = true := by
  have h1 : ¬ nI j < 0 := nI_pos (Nat.lt_trans h (by decide))
  have h2 : ¬ nI 16 ≤ nI j := fun q => absurd ((nI_leI (by decide) (Nat.lt_trans h (by decide))).mp q) (by omega)
  simp [wk, h1, h2]
theorem ix_nI {j : Nat} (h : j < 2 ^ 31) : ix (nI j) = j := nI_clamp h
theorem wk_eq {x : Int32} (h : wk x = true) : x = nI (ix x) := by
  obtain ⟨j, hj, rfl⟩ := wk_of h
  rw [ix_nI (Nat.lt_trans hj (by decide))]
theorem wk_lt {x : Int32} (h : wk x = true) : ix x < 16 := by
  obtain ⟨j, hj, rfl⟩ := wk_of h
  rw [ix_nI (Nat.lt_trans hj (by decide))]
  exact hj
theorem wk_m1 : wk (-1) = false := by decide
def cl4 (x : Int32) : Bool := !(decide (x < 0)) && !(decide (nI 4 ≤ x))
def on (x y : Int32) : Bool := (!(decide (x < 0)) && !(decide (nI 13 ≤ x))) && (!(decide (y < 0)) && !(decide (nI 13 ≤ y)))
def bs (c : Nat) : Nat := if c = 0 then 0 else if c = 1 then 12 else if c = 2 then 168 else 156
def ea (d : Int32) : Int32 := if ¬ d < nI 1 ∧ ¬ nI 3 < d then nI 1 else if ¬ d < nI 5 then -1 else nI 0
def so (d : Int32) : Int32 := if ¬ d < nI 3 ∧ ¬ nI 5 < d then nI 1 else if d = nI 2 ∨ d = nI 6 then nI 0 else -1
def cat (x y : Int32) : Int32 := nI 13 * y + x
def beside (x y d : Int32) : Int32 := if on (x + ea d) (y + so d) = true then cat (x + ea d) (y + so d) else -1
/-- a flight: steps left, where, how it goes, whether it has bounced -/
def ldL : Nat → Int32 → Int32 → Int32 → Int32 → Bool → Int32
  | 0, x, y, _, _, _ => cat x y
  | n + 1, x, y, u, v, b => if on (x + u) (y + v) = true then ldL n (x + u) (y + v) u v b else if b = true then -1 else if on (x + -u) (y + -v) = true then ldL n (x + -u) (y + -v) (-u) (-v) true else -1
def stp (w f : Nat) : Nat := if w % 4 < 2 then f else f + 1
def rest9 (w : Nat) (q : Int32) : Int32 := if q = -1 then nI (bs (w / 4)) else q
def fans (q : Int32) : Int32 := if q = nI 84 then nI 169 else q
/-- how many i below n -/
def cnt (p : Nat → Bool) : Nat → Nat
  | 0 => 0
  | n + 1 => if p n then cnt p n + 1 else cnt p n
theorem cnt_le (p : Nat → Bool) : ∀ n, cnt p n ≤ n
  | 0 => Nat.le_refl 0
  | n + 1 => by
    have h := cnt_le p n
    simp only [cnt]
    split <;> omega
theorem cnt_cong {p q : Nat → Bool} : ∀ {n : Nat}, (∀ k, k < n → p k = q k) → cnt p n = cnt q n
  | 0, _ => rfl
  | n + 1, h => by
    simp only [cnt]
    rw [cnt_cong (n := n) (fun k hk => h k (Nat.lt_succ_of_lt hk)), h n (Nat.lt_succ_self n)]
theorem cnt_pos {p : Nat → Bool} : ∀ {n i : Nat}, i < n → p i = true → 0 < cnt p n
  | 0, _, h, _ => absurd h (Nat.not_lt_zero _)
  | n + 1, i, h, hp => by
    simp only [cnt]
    by_cases e : i = n
    · subst e
      rw [if_pos hp]
      omega
    · have := cnt_pos (n := n) (i := i) (by omega) hp
      split <;> omega
/-- the first i from i0 on, n of them; none: -1 -/
def fst (p : Nat → Bool) : Nat → Nat → Int32
  | 0, _ => -1
  | n + 1, i => if p i then nI i else fst p n (i + 1)
def sm (f : Nat → Nat) : Nat → Nat
  | 0 => 0
  | n + 1 => sm f n + f n
theorem sm_le {f : Nat → Nat} {b : Nat} (h : ∀ k, f k ≤ b) : ∀ n, sm f n ≤ n * b
  | 0 => by simp [sm]
  | n + 1 => by
    have h1 := sm_le h n
    have h2 := h n
    simp only [sm]
    rw [Nat.succ_mul]
    omega
def anyl (p : Nat → Bool) : Nat → Nat → Bool
  | 0, _ => false
  | n + 1, i => if p i then true else anyl p n (i + 1)
/-- a pile's links down: how many -/
def plc (b : Nat → Int32) : Nat → Int32 → Nat
  | 0, _ => 0
  | n + 1, x => if wk x = true then plc b n (b (ix x)) + 1 else 0
theorem plc_le (b : Nat → Int32) : ∀ n x, plc b n x ≤ n
  | 0, _ => Nat.le_refl 0
  | n + 1, x => by
    have h := plc_le b n (b (ix x))
    simp only [plc]
    split <;> omega
/-- so many links down, as long as there is one -/
def lou (b : Nat → Int32) : Nat → Int32 → Int32
  | 0, x => x
  | n + 1, x => if wk x = true then lou b n (b (ix x)) else x
def lbl (v : Nat → Int32) (c : Nat) : Nat → Int32 → Bool
  | 0, _ => false
  | n + 1, x => if wk x = true then (if ix x / 4 = c then true else lbl v c n (v (ix x))) else false
def msk (p : Nat → Bool) : Nat → Int32
  | 0 => nI 0
  | n + 1 => if p n then msk p n ||| (nI 1 <<< (nI (n / 4) &&& 31)) else msk p n
def mxl (p : Nat → Bool) (f : Nat → Nat) : Nat → Nat
  | 0 => 0
  | n + 1 => if p n then max (mxl p f n) (f n) else mxl p f n
def imax (x y : Int32) : Int32 := if x < y then y else x
def imin (x y : Int32) : Int32 := if y < x then y else x
def mxi (p : Nat → Bool) (f : Nat → Int32) : Nat → Int32
  | 0 => nI 0
  | n + 1 => if p n then imax (mxi p f n) (f n) else mxi p f n
-- the mat
def pot (c : Nat → Int32) (w : Nat) : Bool := decide (c w = -1)
def cov (v : Nat → Int32) (w : Nat) : Bool := !(decide (v w = -1))
def hgt (c : Nat → Int32) (q : Int32) : Nat := cnt (fun i => decide (c i = q)) 16
def tpq (c v : Nat → Int32) (q : Int32) (i : Nat) : Bool := decide (c i = q) && decide (v i = -1)
def top (c v : Nat → Int32) (q : Int32) : Int32 := fst (tpq c v q) 16 0
def bot (c b : Nat → Int32) (w : Nat) : Bool := !(decide (c w = -1)) && decide (b w = -1)
def pls (c b : Nat → Int32) (w : Nat) : Int32 := if c w = -1 then -1 else nI (plc b 16 (b w))
def low (c b v : Nat → Int32) (q : Int32) (n : Nat) : Int32 := lou b (n - 1) (top c v q)
def potc (c : Nat → Int32) (k : Nat) : Nat := cnt (fun w => decide (c (4 * k + w) = -1)) 4
def covc (v : Nat → Int32) (k : Nat) : Nat := cnt (fun w => cov v (4 * k + w)) 4
def potn (c : Nat → Int32) : Nat := sm (potc c) 4
def over (c : Nat → Int32) : Bool := anyl (fun k => decide (potc c k = 4)) 4 0
def ptw (c v : Nat → Int32) (k w : Nat) : Nat := if c (4 * k + w) = -1 then 3 else if cov v (4 * k + w) = true then 0 else if c (4 * k + w) = nI (bs k) then 0 else 1
def ptc (c v : Nat → Int32) (k : Nat) : Nat := sm (ptw c v k) 4
def ptt (c v : Nat → Int32) (t : Nat) : Nat := ptc c v t + ptc c v (t + 2)
def oth (v : Nat → Int32) (k w : Nat) : Bool := !(decide (w / 4 = k)) && lbl v k 16 (v w)
theorem potc_le (c : Nat → Int32) (k : Nat) : potc c k ≤ 4 := cnt_le _ 4
theorem covc_le (v : Nat → Int32) (k : Nat) : covc v k ≤ 4 := cnt_le _ 4
theorem hgt_le (c : Nat → Int32) (q : Int32) : hgt c q ≤ 16 := cnt_le _ 16
theorem ptw_le (c v : Nat → Int32) (k w : Nat) : ptw c v k w ≤ 3 := by
  unfold ptw
  split
  · omega
  · split
    · omega
    · split <;> omega
theorem ptc_le (c v : Nat → Int32) (k : Nat) : ptc c v k ≤ 12 := sm_le (ptw_le c v k) 4
theorem potn_le (c : Nat → Int32) : potn c ≤ 16 := sm_le (potc_le c) 4
def matAt (cI : ClassId) (ad : Nat → Nat) (F : Nat → va_E) (k : Nat) (c b v : Nat → Int32) : Prop :=
  F k = .inr (1, [.ref (ad (k + 1)), .ref (ad (k + 2)), .ref (ad (k + 3))]) ∧ F (k + 1) = .inl (cI, 16, .inl c) ∧ F (k + 2) = .inl (cI, 16, .inl b) ∧ F (k + 3) = .inl (cI, 16, .inl v)
section SWI
variable {p : Program} {l : Launch} {e : Env} {R : Room} {s : State} {m : MethodId} {args : Array Value} {below : List Frame} {meth : Method} {c : Code} {H : Heap} {locs : List Loc} {cells slots : Nat} {Q : State → Prop}
variable {cc : ByteArray} {pc tgt : Nat} {ls : Array Slot} {rest : List Value} {off : Int}
theorem sw_in (j : Nat) (hx : p.tables.exec = Jvm.exec) (hb : c.code = cc) {dflt hi : Int} {offs : Array Int} {len : Nat} {x : Int32} (hdg : decode cc pc = .ok (.tableswitch dflt 0 hi offs, len)) (h : x = nI j) (hj : (nI j).toInt = (j : Int)) (hh : decide ((j : Int) ≤ hi) = true) (ho : offs[j]? = some off) (ht : (pc : Int) + off = (tgt : Int))
    (k : W p l e R s m args below meth c H locs cells slots Q (F0 m tgt ls rest)) : W p l e R s m args below meth c H locs cells slots Q (F0 m pc ls (.int x :: rest)) := by
  have h9 := of_decide_eq_true hh
  subst h
  refine lv_tableIn hx hb hdg (by rw [hj]; omega) (by rw [hj]; omega) ?_ ht k
  rw [hj, show ((j : Int) - 0).toNat = j by omega]
  exact ho
end SWI
def ldg (q d : Int32) (f : Nat) : Int32 := ldL f (q - q / nI 13 * nI 13) (q / nI 13) (ea d) (so d) false
end
/-! from statics -/
section
set_option maxRecDepth 100000 in
set_option maxHeartbeats 4000000 in
theorem tX5_isWink (l : Launch) (x : Int32) : MP l yX5_isWink (Cond.code yX5_isWink cX5_isWink 1 (some .boolean) :: AW) ({ frames := 0, cells := 0, slots := 0, locals := 0 } : Room) [.int x] (.int (bI (wk x))) := by
  refine mp_i (ty := .boolean) (by decide +kernel) rfl rfl rfl (bI_nar _) (Nat.le_of_ble_eq_true rfl) (fun p e s m below meth cd Q ls hx hb hml hown hts hret hl => ?_)
  have hown : s.vm.findClass RX5 = some m.cls := hown
  have hl : lv_has ls 1 [(0, .int x)] := hl
  refine lv_iload_n hx hb (dk kX5_isWink_ok 0 rfl) rfl (lv_at hl 0 rfl) ?_
  refine lv_if_lt (tgt := 14) hx hb (dk kX5_isWink_ok 1 rfl) (by decide) (fun h1 => ?_) (fun h1 => ?_)
  · skip
    refine lv_iconst (v := nI 0) hx hb (dk kX5_isWink_ok 7 rfl) rfl ?_
    exact hret _ _ _ (by simp [wk, h1, bI]) (dk kX5_isWink_ok 8 rfl)
  · skip
    refine lv_iload_n hx hb (dk kX5_isWink_ok 2 rfl) rfl (lv_at hl 0 rfl) ?_
    refine lv_bipush (v := nI 16) hx hb (dk kX5_isWink_ok 3 rfl) rfl ?_
    refine lv_icmp_ge (tgt := 14) hx hb (dk kX5_isWink_ok 4 rfl) (by decide) (fun h2 => ?_) (fun h2 => ?_)
    · skip
      refine lv_iconst (v := nI 0) hx hb (dk kX5_isWink_ok 7 rfl) rfl ?_
      exact hret _ _ _ (by simp [wk, h1, h2, bI]) (dk kX5_isWink_ok 8 rfl)
    · skip
      refine lv_iconst (v := nI 1) hx hb (dk kX5_isWink_ok 5 rfl) rfl ?_
      refine lv_goto (tgt := 15) hx hb (dk kX5_isWink_ok 6 rfl) (by decide) ?_
      exact hret _ _ _ (by simp [wk, h1, h2, bI]) (dk kX5_isWink_ok 8 rfl)
set_option maxRecDepth 100000 in
set_option maxHeartbeats 4000000 in
theorem tX5_isColour (l : Launch) (x : Int32) : MP l yX5_isColour (Cond.code yX5_isColour cX5_isColour 1 (some .boolean) :: AW) ({ frames := 0, cells := 0, slots := 0, locals := 0 } : Room) [.int x] (.int (bI (cl4 x))) := by
  refine mp_i (ty := .boolean) (by decide +kernel) rfl rfl rfl (bI_nar _) (Nat.le_of_ble_eq_true rfl) (fun p e s m below meth cd Q ls hx hb hml hown hts hret hl => ?_)
  have hown : s.vm.findClass RX5 = some m.cls := hown
  have hl : lv_has ls 1 [(0, .int x)] := hl
  refine lv_iload_n hx hb (dk kX5_isColour_ok 0 rfl) rfl (lv_at hl 0 rfl) ?_
  refine lv_if_lt (tgt := 13) hx hb (dk kX5_isColour_ok 1 rfl) (by decide) (fun h1 => ?_) (fun h1 => ?_)
  · skip
    refine lv_iconst (v := nI 0) hx hb (dk kX5_isColour_ok 7 rfl) rfl ?_
    exact hret _ _ _ (by simp [cl4, h1, bI]) (dk kX5_isColour_ok 8 rfl)
  · skip
    refine lv_iload_n hx hb (dk kX5_isColour_ok 2 rfl) rfl (lv_at hl 0 rfl) ?_
    refine lv_iconst (v := nI 4) hx hb (dk kX5_isColour_ok 3 rfl) rfl ?_
    refine lv_icmp_ge (tgt := 13) hx hb (dk kX5_isColour_ok 4 rfl) (by decide) (fun h2 => ?_) (fun h2 => ?_)
    · skip
      refine lv_iconst (v := nI 0) hx hb (dk kX5_isColour_ok 7 rfl) rfl ?_
      exact hret _ _ _ (by simp [cl4, h1, h2, bI]) (dk kX5_isColour_ok 8 rfl)
    · skip
      refine lv_iconst (v := nI 1) hx hb (dk kX5_isColour_ok 5 rfl) rfl ?_
      refine lv_goto (tgt := 14) hx hb (dk kX5_isColour_ok 6 rfl) (by decide) ?_
      exact hret _ _ _ (by simp [cl4, h1, h2, bI]) (dk kX5_isColour_ok 8 rfl)
set_option maxRecDepth 100000 in
set_option maxHeartbeats 4000000 in
theorem tX5_isOnMat (l : Launch) (x y : Int32) : MP l yX5_isOnMat (Cond.code yX5_isOnMat cX5_isOnMat 2 (some .boolean) :: AW) ({ frames := 0, cells := 0, slots := 0, locals := 0 } : Room) [.int x, .int y] (.int (bI (on x y))) := by
  refine mp_i (ty := .boolean) (by decide +kernel) rfl rfl rfl (bI_nar _) (Nat.le_of_ble_eq_true rfl) (fun p e s m below meth cd Q ls hx hb hml hown hts hret hl => ?_)
  have hown : s.vm.findClass RX5 = some m.cls := hown
  have hl : lv_has ls 2 [(0, .int x), (1, .int y)] := hl
  refine lv_iload_n hx hb (dk kX5_isOnMat_ok 0 rfl) rfl (lv_at hl 0 rfl) ?_
  refine lv_if_lt (tgt := 24) hx hb (dk kX5_isOnMat_ok 1 rfl) (by decide) (fun h1 => ?_) (fun h1 => ?_)
  · skip
    refine lv_iconst (v := nI 0) hx hb (dk kX5_isOnMat_ok 12 rfl) rfl ?_
    exact hret _ _ _ (by simp [on, h1, bI]) (dk kX5_isOnMat_ok 13 rfl)
  · skip
    refine lv_iload_n hx hb (dk kX5_isOnMat_ok 2 rfl) rfl (lv_at hl 0 rfl) ?_
    refine lv_bipush (v := nI 13) hx hb (dk kX5_isOnMat_ok 3 rfl) rfl ?_
    refine lv_icmp_ge (tgt := 24) hx hb (dk kX5_isOnMat_ok 4 rfl) (by decide) (fun h2 => ?_) (fun h2 => ?_)
    · skip
      refine lv_iconst (v := nI 0) hx hb (dk kX5_isOnMat_ok 12 rfl) rfl ?_
      exact hret _ _ _ (by simp [on, h1, h2, bI]) (dk kX5_isOnMat_ok 13 rfl)
    · skip
      refine lv_iload_n hx hb (dk kX5_isOnMat_ok 5 rfl) rfl (lv_at hl 1 rfl) ?_
      refine lv_if_lt (tgt := 24) hx hb (dk kX5_isOnMat_ok 6 rfl) (by decide) (fun h3 => ?_) (fun h3 => ?_)
      · skip
        refine lv_iconst (v := nI 0) hx hb (dk kX5_isOnMat_ok 12 rfl) rfl ?_
        exact hret _ _ _ (by simp [on, h1, h2, h3, bI]) (dk kX5_isOnMat_ok 13 rfl)
      · skip
        refine lv_iload_n hx hb (dk kX5_isOnMat_ok 7 rfl) rfl (lv_at hl 1 rfl) ?_
        refine lv_bipush (v := nI 13) hx hb (dk kX5_isOnMat_ok 8 rfl) rfl ?_
        refine lv_icmp_ge (tgt := 24) hx hb (dk kX5_isOnMat_ok 9 rfl) (by decide) (fun h4 => ?_) (fun h4 => ?_)
        · skip
          refine lv_iconst (v := nI 0) hx hb (dk kX5_isOnMat_ok 12 rfl) rfl ?_
          exact hret _ _ _ (by simp [on, h1, h2, h3, h4, bI]) (dk kX5_isOnMat_ok 13 rfl)
        · skip
          refine lv_iconst (v := nI 1) hx hb (dk kX5_isOnMat_ok 10 rfl) rfl ?_
          refine lv_goto (tgt := 25) hx hb (dk kX5_isOnMat_ok 11 rfl) (by decide) ?_
          exact hret _ _ _ (by simp [on, h1, h2, h3, h4, bI]) (dk kX5_isOnMat_ok 13 rfl)
set_option maxRecDepth 100000 in
set_option maxHeartbeats 4000000 in
theorem tX5_cellAt (l : Launch) (x y : Int32) : MP l yX5_cellAt (Cond.code yX5_cellAt cX5_cellAt 2 (some .int) :: AW) ({ frames := 0, cells := 0, slots := 0, locals := 0 } : Room) [.int x, .int y] (.int (cat x y)) := by
  refine mp_i (ty := .int) (by decide +kernel) rfl rfl rfl rfl (Nat.le_of_ble_eq_true rfl) (fun p e s m below meth cd Q ls hx hb hml hown hts hret hl => ?_)
  have hown : s.vm.findClass RX5 = some m.cls := hown
  have hl : lv_has ls 2 [(0, .int x), (1, .int y)] := hl
  refine lv_bipush (v := nI 13) hx hb (dk kX5_cellAt_ok 0 rfl) rfl ?_
  refine lv_iload_n hx hb (dk kX5_cellAt_ok 1 rfl) rfl (lv_at hl 1 rfl) ?_
  refine lv_imul hx hb (dk kX5_cellAt_ok 2 rfl) ?_
  refine lv_iload_n hx hb (dk kX5_cellAt_ok 3 rfl) rfl (lv_at hl 0 rfl) ?_
  refine lv_iadd hx hb (dk kX5_cellAt_ok 4 rfl) ?_
  exact hret _ _ _ (by rfl) (dk kX5_cellAt_ok 5 rfl)
set_option maxRecDepth 100000 in
set_option maxHeartbeats 4000000 in
theorem tX5_eastOf (l : Launch) (d : Int32) : MP l yX5_eastOf (Cond.code yX5_eastOf cX5_eastOf 1 (some .int) :: AW) ({ frames := 0, cells := 0, slots := 0, locals := 0 } : Room) [.int d] (.int (ea d)) := by
  refine mp_i (ty := .int) (by decide +kernel) rfl rfl rfl rfl (Nat.le_of_ble_eq_true rfl) (fun p e s m below meth cd Q ls hx hb hml hown hts hret hl => ?_)
  have hown : s.vm.findClass RX5 = some m.cls := hown
  have hl : lv_has ls 1 [(0, .int d)] := hl
  refine lv_iload_n hx hb (dk kX5_eastOf_ok 0 rfl) rfl (lv_at hl 0 rfl) ?_
  refine lv_iconst (v := nI 1) hx hb (dk kX5_eastOf_ok 1 rfl) rfl ?_
  refine lv_icmp_lt (tgt := 14) hx hb (dk kX5_eastOf_ok 2 rfl) (by decide) (fun h1 => ?_) (fun h1 => ?_)
  · skip
    refine lv_iload_n hx hb (dk kX5_eastOf_ok 8 rfl) rfl (lv_at hl 0 rfl) ?_
    refine lv_iconst (v := nI 5) hx hb (dk kX5_eastOf_ok 9 rfl) rfl ?_
    refine lv_icmp_lt (tgt := 23) hx hb (dk kX5_eastOf_ok 10 rfl) (by decide) (fun h2 => ?_) (fun h2 => ?_)
    · skip
      refine lv_iconst (v := nI 0) hx hb (dk kX5_eastOf_ok 13 rfl) rfl ?_
      exact hret _ _ _ (by simp [ea, h1, h2]) (dk kX5_eastOf_ok 14 rfl)
    · skip
      refine lv_iconst (v := -1) hx hb (dk kX5_eastOf_ok 11 rfl) rfl ?_
      refine lv_goto (tgt := 24) hx hb (dk kX5_eastOf_ok 12 rfl) (by decide) ?_
      exact hret _ _ _ (by simp [ea, h1, h2]) (dk kX5_eastOf_ok 14 rfl)
  · skip
    refine lv_iload_n hx hb (dk kX5_eastOf_ok 3 rfl) rfl (lv_at hl 0 rfl) ?_
    refine lv_iconst (v := nI 3) hx hb (dk kX5_eastOf_ok 4 rfl) rfl ?_
    refine lv_icmp_gt (tgt := 14) hx hb (dk kX5_eastOf_ok 5 rfl) (by decide) (fun h3 => ?_) (fun h3 => ?_)
    · skip
      refine lv_iload_n hx hb (dk kX5_eastOf_ok 8 rfl) rfl (lv_at hl 0 rfl) ?_
      refine lv_iconst (v := nI 5) hx hb (dk kX5_eastOf_ok 9 rfl) rfl ?_
      refine lv_icmp_lt (tgt := 23) hx hb (dk kX5_eastOf_ok 10 rfl) (by decide) (fun h4 => ?_) (fun h4 => ?_)
      · skip
        refine lv_iconst (v := nI 0) hx hb (dk kX5_eastOf_ok 13 rfl) rfl ?_
        exact hret _ _ _ (by simp [ea, h1, h3, h4]) (dk kX5_eastOf_ok 14 rfl)
      · skip
        refine lv_iconst (v := -1) hx hb (dk kX5_eastOf_ok 11 rfl) rfl ?_
        refine lv_goto (tgt := 24) hx hb (dk kX5_eastOf_ok 12 rfl) (by decide) ?_
        exact hret _ _ _ (by simp [ea, h1, h3, h4]) (dk kX5_eastOf_ok 14 rfl)
    · skip
      refine lv_iconst (v := nI 1) hx hb (dk kX5_eastOf_ok 6 rfl) rfl ?_
      refine lv_goto (tgt := 24) hx hb (dk kX5_eastOf_ok 7 rfl) (by decide) ?_
      exact hret _ _ _ (by simp [ea, h1, h3]) (dk kX5_eastOf_ok 14 rfl)
set_option maxRecDepth 100000 in
set_option maxHeartbeats 4000000 in
theorem tX5_southOf (l : Launch) (d : Int32) : MP l yX5_southOf (Cond.code yX5_southOf cX5_southOf 1 (some .int) :: AW) ({ frames := 0, cells := 0, slots := 0, locals := 0 } : Room) [.int d] (.int (so d)) := by
  refine mp_i (ty := .int) (by decide +kernel) rfl rfl rfl rfl (Nat.le_of_ble_eq_true rfl) (fun p e s m below meth cd Q ls hx hb hml hown hts hret hl => ?_)
  have hown : s.vm.findClass RX5 = some m.cls := hown
  have hl : lv_has ls 1 [(0, .int d)] := hl
  refine lv_iload_n hx hb (dk kX5_southOf_ok 0 rfl) rfl (lv_at hl 0 rfl) ?_
  refine lv_iconst (v := nI 3) hx hb (dk kX5_southOf_ok 1 rfl) rfl ?_
  refine lv_icmp_lt (tgt := 14) hx hb (dk kX5_southOf_ok 2 rfl) (by decide) (fun h1 => ?_) (fun h1 => ?_)
  · skip
    refine lv_iload_n hx hb (dk kX5_southOf_ok 8 rfl) rfl (lv_at hl 0 rfl) ?_
    refine lv_iconst (v := nI 2) hx hb (dk kX5_southOf_ok 9 rfl) rfl ?_
    refine lv_icmp_eq (tgt := 25) hx hb (dk kX5_southOf_ok 10 rfl) (by decide) (fun h2 => ?_) (fun h2 => ?_)
    · skip
      refine lv_iconst (v := nI 0) hx hb (dk kX5_southOf_ok 14 rfl) rfl ?_
      refine lv_goto (tgt := 30) hx hb (dk kX5_southOf_ok 15 rfl) (by decide) ?_
      exact hret _ _ _ (by unfold so; (repeat' split) <;> first | rfl | (exfalso; simp_all; done) | (exfalso; revert h1 h2; subst_vars; decide) | (exfalso; subst_vars; simp_all (decide := true))) (dk kX5_southOf_ok 17 rfl)
    · skip
      refine lv_iload_n hx hb (dk kX5_southOf_ok 11 rfl) rfl (lv_at hl 0 rfl) ?_
      refine lv_bipush (v := nI 6) hx hb (dk kX5_southOf_ok 12 rfl) rfl ?_
      refine lv_icmp_ne (tgt := 29) hx hb (dk kX5_southOf_ok 13 rfl) (by decide) (fun h3 => ?_) (fun h3 => ?_)
      · skip
        refine lv_iconst (v := -1) hx hb (dk kX5_southOf_ok 16 rfl) rfl ?_
        exact hret _ _ _ (by unfold so; (repeat' split) <;> first | rfl | (exfalso; simp_all; done) | (exfalso; revert h1 h2 h3; subst_vars; decide) | (exfalso; subst_vars; simp_all (decide := true))) (dk kX5_southOf_ok 17 rfl)
      · skip
        refine lv_iconst (v := nI 0) hx hb (dk kX5_southOf_ok 14 rfl) rfl ?_
        refine lv_goto (tgt := 30) hx hb (dk kX5_southOf_ok 15 rfl) (by decide) ?_
        exact hret _ _ _ (by unfold so; (repeat' split) <;> first | rfl | (exfalso; simp_all; done) | (exfalso; revert h1 h2 h3; subst_vars; decide) | (exfalso; subst_vars; simp_all (decide := true))) (dk kX5_southOf_ok 17 rfl)
  · skip
    refine lv_iload_n hx hb (dk kX5_southOf_ok 3 rfl) rfl (lv_at hl 0 rfl) ?_
    refine lv_iconst (v := nI 5) hx hb (dk kX5_southOf_ok 4 rfl) rfl ?_
    refine lv_icmp_gt (tgt := 14) hx hb (dk kX5_southOf_ok 5 rfl) (by decide) (fun h4 => ?_) (fun h4 => ?_)
    · skip
      refine lv_iload_n hx hb (dk kX5_southOf_ok 8 rfl) rfl (lv_at hl 0 rfl) ?_
      refine lv_iconst (v := nI 2) hx hb (dk kX5_southOf_ok 9 rfl) rfl ?_
      refine lv_icmp_eq (tgt := 25) hx hb (dk kX5_southOf_ok 10 rfl) (by decide) (fun h5 => ?_) (fun h5 => ?_)
      · skip
        refine lv_iconst (v := nI 0) hx hb (dk kX5_southOf_ok 14 rfl) rfl ?_
        refine lv_goto (tgt := 30) hx hb (dk kX5_southOf_ok 15 rfl) (by decide) ?_
        exact hret _ _ _ (by unfold so; (repeat' split) <;> first | rfl | (exfalso; simp_all; done) | (exfalso; revert h1 h4 h5; subst_vars; decide) | (exfalso; subst_vars; simp_all (decide := true))) (dk kX5_southOf_ok 17 rfl)
      · skip
        refine lv_iload_n hx hb (dk kX5_southOf_ok 11 rfl) rfl (lv_at hl 0 rfl) ?_
        refine lv_bipush (v := nI 6) hx hb (dk kX5_southOf_ok 12 rfl) rfl ?_
        refine lv_icmp_ne (tgt := 29) hx hb (dk kX5_southOf_ok 13 rfl) (by decide) (fun h6 => ?_) (fun h6 => ?_)
        · skip
          refine lv_iconst (v := -1) hx hb (dk kX5_southOf_ok 16 rfl) rfl ?_
          exact hret _ _ _ (by unfold so; (repeat' split) <;> first | rfl | (exfalso; simp_all; done) | (exfalso; revert h1 h4 h5 h6; subst_vars; decide) | (exfalso; subst_vars; simp_all (decide := true))) (dk kX5_southOf_ok 17 rfl)
        · skip
          refine lv_iconst (v := nI 0) hx hb (dk kX5_southOf_ok 14 rfl) rfl ?_
          refine lv_goto (tgt := 30) hx hb (dk kX5_southOf_ok 15 rfl) (by decide) ?_
          exact hret _ _ _ (by unfold so; (repeat' split) <;> first | rfl | (exfalso; simp_all; done) | (exfalso; revert h1 h4 h5 h6; subst_vars; decide) | (exfalso; subst_vars; simp_all (decide := true))) (dk kX5_southOf_ok 17 rfl)
    · skip
      refine lv_iconst (v := nI 1) hx hb (dk kX5_southOf_ok 6 rfl) rfl ?_
      refine lv_goto (tgt := 30) hx hb (dk kX5_southOf_ok 7 rfl) (by decide) ?_
      exact hret _ _ _ (by unfold so; (repeat' split) <;> first | rfl | (exfalso; simp_all; done) | (exfalso; revert h1 h4; subst_vars; decide) | (exfalso; subst_vars; simp_all (decide := true))) (dk kX5_southOf_ok 17 rfl)
set_option maxRecDepth 100000 in
set_option maxHeartbeats 4000000 in
theorem tX5_colourOf (l : Launch) (x : Int32) (w : Nat) (hxw : x = nI w) (hw : w < 2 ^ 31) : MP l yX5_colourOf (Cond.code yX5_colourOf cX5_colourOf 1 (some .int) :: AW) ({ frames := 0, cells := 0, slots := 0, locals := 0 } : Room) [.int x] (.int (nI (w / 4))) := by
  refine mp_i (ty := .int) (by decide +kernel) rfl rfl rfl rfl (Nat.le_of_ble_eq_true rfl) (fun p e s m below meth cd Q ls hx hb hml hown hts hret hl => ?_)
  have hown : s.vm.findClass RX5 = some m.cls := hown
  subst hxw
  have hl : lv_has ls 1 [(0, .int (nI w))] := hl
  refine lv_iload_n hx hb (dk kX5_colourOf_ok 0 rfl) rfl (lv_at hl 0 rfl) ?_
  refine lv_iconst (v := nI 4) hx hb (dk kX5_colourOf_ok 1 rfl) rfl ?_
  refine n_idiv hx hb (by omega) (by decide) (by decide) (dk kX5_colourOf_ok 2 rfl) ?_
  exact hret _ _ _ (by first | rfl | assumption | omega | (simp_all; done)) (dk kX5_colourOf_ok 3 rfl)
set_option maxRecDepth 100000 in
set_option maxHeartbeats 4000000 in
theorem tX5_teamOf (l : Launch) (x : Int32) (w : Nat) (hxw : x = nI w) (hw : w < 2 ^ 31) : MP l yX5_teamOf (Cond.code yX5_teamOf cX5_teamOf 1 (some .int) :: AW) ({ frames := 1, cells := 0, slots := 0, locals := 20 } : Room) [.int x] (.int (nI (w / 4 % 2))) := by
  refine mp_i (ty := .int) (by decide +kernel) rfl rfl rfl rfl (Nat.le_of_ble_eq_true rfl) (fun p e s m below meth cd Q ls hx hb hml hown hts hret hl => ?_)
  have hown : s.vm.findClass RX5 = some m.cls := hown
  subst hxw
  have hl : lv_has ls 1 [(0, .int (nI w))] := hl
  refine lv_iload_n hx hb (dk kX5_teamOf_ok 0 rfl) rfl (lv_at hl 0 rfl) ?_
  refine csP (As := [.int (nI w)]) (rest := []) ⟨hx, hb, hml, hown, hts⟩ (tX5_colourOf l (nI w) w rfl (by omega)) (cwS9 1 hts mcX5_colourOf (ac7 _ (List.mem_of_getElem? (i := 2) rfl)) msX5_colourOf mini_RX5 rfl rfl hdX5_colourOf ⟨Nat.le_of_ble_eq_true rfl, Nat.le_of_ble_eq_true rfl⟩) rfl hl.1 rfl (Nat.le_of_ble_eq_true rfl) (by decide) (dk kX5_teamOf_ok 1 rfl) ?_
  refine lv_iconst (v := nI 2) hx hb (dk kX5_teamOf_ok 2 rfl) rfl ?_
  refine n_irem hx hb (by omega) (by decide) (by decide) (dk kX5_teamOf_ok 3 rfl) ?_
  exact hret _ _ _ (by first | rfl | assumption | omega | (simp_all; done)) (dk kX5_teamOf_ok 4 rfl)
set_option maxRecDepth 100000 in
set_option maxHeartbeats 4000000 in
theorem tX5_isLarge (l : Launch) (x : Int32) (w : Nat) (hxw : x = nI w) (hw : w < 2 ^ 31) : MP l yX5_isLarge (Cond.code yX5_isLarge cX5_isLarge 1 (some .boolean) :: AW) ({ frames := 0, cells := 0, slots := 0, locals := 0 } : Room) [.int x] (.int (bI (decide (w % 4 < 2)))) := by
  refine mp_i (ty := .boolean) (by decide +kernel) rfl rfl rfl (bI_nar _) (Nat.le_of_ble_eq_true rfl) (fun p e s m below meth cd Q ls hx hb hml hown hts hret hl => ?_)
  have hown : s.vm.findClass RX5 = some m.cls := hown
  subst hxw
  have hl : lv_has ls 1 [(0, .int (nI w))] := hl
  refine lv_iload_n hx hb (dk kX5_isLarge_ok 0 rfl) rfl (lv_at hl 0 rfl) ?_
  refine lv_iconst (v := nI 4) hx hb (dk kX5_isLarge_ok 1 rfl) rfl ?_
  refine n_irem hx hb (by omega) (by decide) (by decide) (dk kX5_isLarge_ok 2 rfl) ?_
  refine lv_iconst (v := nI 2) hx hb (dk kX5_isLarge_ok 3 rfl) rfl ?_
  refine n_icmp_ge (tgt := 11) hx hb (by omega) (by decide) (dk kX5_isLarge_ok 4 rfl) (by decide) (fun h1 => ?_) (fun h1 => ?_)
  · skip
    refine lv_iconst (v := nI 0) hx hb (dk kX5_isLarge_ok 7 rfl) rfl ?_
    exact hret _ _ _ (by first | (rw [decide_eq_true (by omega)]; rfl) | (rw [decide_eq_false (by omega)]; rfl)) (dk kX5_isLarge_ok 8 rfl)
  · skip
    refine lv_iconst (v := nI 1) hx hb (dk kX5_isLarge_ok 5 rfl) rfl ?_
    refine lv_goto (tgt := 12) hx hb (dk kX5_isLarge_ok 6 rfl) (by decide) ?_
    exact hret _ _ _ (by first | (rw [decide_eq_true (by omega)]; rfl) | (rw [decide_eq_false (by omega)]; rfl)) (dk kX5_isLarge_ok 8 rfl)
set_option maxRecDepth 100000 in
set_option maxHeartbeats 4000000 in
theorem tX5_stepsOf (l : Launch) (x : Int32) (w : Nat) (hxw : x = nI w) (hw : w < 2 ^ 31) (y : Int32) (f : Nat) (hyf : y = nI f) (hf : f < 2 ^ 30) : MP l yX5_stepsOf (Cond.code yX5_stepsOf cX5_stepsOf 2 (some .int) :: AW) ({ frames := 1, cells := 0, slots := 0, locals := 20 } : Room) [.int x, .int y] (.int (nI (stp w f))) := by
  refine mp_i (ty := .int) (by decide +kernel) rfl rfl rfl rfl (Nat.le_of_ble_eq_true rfl) (fun p e s m below meth cd Q ls hx hb hml hown hts hret hl => ?_)
  have hown : s.vm.findClass RX5 = some m.cls := hown
  subst hxw
  subst hyf
  have hl : lv_has ls 2 [(0, .int (nI w)), (1, .int (nI f))] := hl
  refine lv_iload_n hx hb (dk kX5_stepsOf_ok 0 rfl) rfl (lv_at hl 0 rfl) ?_
  refine csP (As := [.int (nI w)]) (rest := []) ⟨hx, hb, hml, hown, hts⟩ (tX5_isLarge l (nI w) w rfl (by omega)) (cwS9 1 hts mcX5_isLarge (ac6 _ (List.mem_of_getElem? (i := 23) rfl)) msX5_isLarge mini_RX5 rfl rfl hdX5_isLarge ⟨Nat.le_of_ble_eq_true rfl, Nat.le_of_ble_eq_true rfl⟩) rfl hl.1 rfl (Nat.le_of_ble_eq_true rfl) (by decide) (dk kX5_stepsOf_ok 1 rfl) ?_
  refine b_if_eq (tgt := 11) hx hb (dk kX5_stepsOf_ok 2 rfl) (by decide) (fun h1 => ?_) (fun h1 => ?_)
  · replace h1 := of_decide_eq_false h1
    refine lv_iload_n hx hb (dk kX5_stepsOf_ok 5 rfl) rfl (lv_at hl 1 rfl) ?_
    refine lv_iconst (v := nI 1) hx hb (dk kX5_stepsOf_ok 6 rfl) rfl ?_
    refine n_iadd hx hb (dk kX5_stepsOf_ok 7 rfl) ?_
    exact hret _ _ _ (by unfold stp; split <;> first | rfl | (exfalso; omega)) (dk kX5_stepsOf_ok 8 rfl)
  · replace h1 := of_decide_eq_true h1
    refine lv_iload_n hx hb (dk kX5_stepsOf_ok 3 rfl) rfl (lv_at hl 1 rfl) ?_
    refine lv_goto (tgt := 14) hx hb (dk kX5_stepsOf_ok 4 rfl) (by decide) ?_
    exact hret _ _ _ (by unfold stp; split <;> first | rfl | (exfalso; omega)) (dk kX5_stepsOf_ok 8 rfl)
set_option maxRecDepth 100000 in
set_option maxHeartbeats 4000000 in
theorem tX5_baseOf (l : Launch) (x : Int32) (w : Nat) (hxw : x = nI w) (hw : w < 4) : MP l yX5_baseOf (Cond.code yX5_baseOf cX5_baseOf 1 (some .int) :: AW) ({ frames := 1, cells := 0, slots := 0, locals := 21 } : Room) [.int x] (.int (nI (bs w))) := by
  refine mp_i (ty := .int) (by decide +kernel) rfl rfl rfl rfl (Nat.le_of_ble_eq_true rfl) (fun p e s m below meth cd Q ls hx hb hml hown hts hret hl => ?_)
  have hown : s.vm.findClass RX5 = some m.cls := hown
  subst hxw
  have hl : lv_has ls 1 [(0, .int (nI w))] := hl
  refine lv_iload_n hx hb (dk kX5_baseOf_ok 0 rfl) rfl (lv_at hl 0 rfl) ?_
  rcases Classical.em (nI w = nI 0) with hs1 | hs1
  · skip
    refine sw_in (off := 27) (tgt := 28) 0 hx hb (dk kX5_baseOf_ok 1 rfl) hs1 rfl rfl rfl (by decide) ?_
    refine lv_iconst (v := nI 0) hx hb (dk kX5_baseOf_ok 2 rfl) rfl ?_
    refine lv_iconst (v := nI 0) hx hb (dk kX5_baseOf_ok 3 rfl) rfl ?_
    refine csP (As := [.int (nI 0), .int (nI 0)]) (rest := []) ⟨hx, hb, hml, hown, hts⟩ (tX5_cellAt l (nI 0) (nI 0)) (cwS9 2 hts mcX5_cellAt (ac0 _ (List.mem_of_getElem? (i := 17) rfl)) msX5_cellAt mini_RX5 rfl rfl hdX5_cellAt ⟨Nat.le_of_ble_eq_true rfl, Nat.le_of_ble_eq_true rfl⟩) rfl hl.1 rfl (Nat.le_of_ble_eq_true rfl) (by decide) (dk kX5_baseOf_ok 4 rfl) ?_
    exact hret _ _ _ (by rcases (show w = 0 ∨ w = 1 ∨ w = 2 ∨ w = 3 by omega) with rfl | rfl | rfl | rfl <;> first | rfl | (exfalso; revert hs1; decide)) (dk kX5_baseOf_ok 5 rfl)
  rcases Classical.em (nI w = nI 1) with hs2 | hs2
  · skip
    refine sw_in (off := 33) (tgt := 34) 1 hx hb (dk kX5_baseOf_ok 1 rfl) hs2 rfl rfl rfl (by decide) ?_
    refine lv_bipush (v := nI 12) hx hb (dk kX5_baseOf_ok 6 rfl) rfl ?_
    refine lv_iconst (v := nI 0) hx hb (dk kX5_baseOf_ok 7 rfl) rfl ?_
    refine csP (As := [.int (nI 12), .int (nI 0)]) (rest := []) ⟨hx, hb, hml, hown, hts⟩ (tX5_cellAt l (nI 12) (nI 0)) (cwS9 2 hts mcX5_cellAt (ac0 _ (List.mem_of_getElem? (i := 17) rfl)) msX5_cellAt mini_RX5 rfl rfl hdX5_cellAt ⟨Nat.le_of_ble_eq_true rfl, Nat.le_of_ble_eq_true rfl⟩) rfl hl.1 rfl (Nat.le_of_ble_eq_true rfl) (by decide) (dk kX5_baseOf_ok 8 rfl) ?_
    exact hret _ _ _ (by rcases (show w = 0 ∨ w = 1 ∨ w = 2 ∨ w = 3 by omega) with rfl | rfl | rfl | rfl <;> first | rfl | (exfalso; revert hs1 hs2; decide)) (dk kX5_baseOf_ok 9 rfl)
  rcases Classical.em (nI w = nI 2) with hs3 | hs3
  · skip
    refine sw_in (off := 40) (tgt := 41) 2 hx hb (dk kX5_baseOf_ok 1 rfl) hs3 rfl rfl rfl (by decide) ?_
    refine lv_bipush (v := nI 12) hx hb (dk kX5_baseOf_ok 10 rfl) rfl ?_
    refine lv_bipush (v := nI 12) hx hb (dk kX5_baseOf_ok 11 rfl) rfl ?_
    refine csP (As := [.int (nI 12), .int (nI 12)]) (rest := []) ⟨hx, hb, hml, hown, hts⟩ (tX5_cellAt l (nI 12) (nI 12)) (cwS9 2 hts mcX5_cellAt (ac0 _ (List.mem_of_getElem? (i := 17) rfl)) msX5_cellAt mini_RX5 rfl rfl hdX5_cellAt ⟨Nat.le_of_ble_eq_true rfl, Nat.le_of_ble_eq_true rfl⟩) rfl hl.1 rfl (Nat.le_of_ble_eq_true rfl) (by decide) (dk kX5_baseOf_ok 12 rfl) ?_
    exact hret _ _ _ (by rcases (show w = 0 ∨ w = 1 ∨ w = 2 ∨ w = 3 by omega) with rfl | rfl | rfl | rfl <;> first | rfl | (exfalso; revert hs1 hs2 hs3; decide)) (dk kX5_baseOf_ok 13 rfl)
  refine lv_tableOut (tgt := 49) hx hb (dk kX5_baseOf_ok 1 rfl) (sw_out 3 (by intro k9 hk9; rcases k9 with _ | _ | _ | _ <;> first | assumption | omega)) (by decide) ?_
  refine lv_iconst (v := nI 0) hx hb (dk kX5_baseOf_ok 14 rfl) rfl ?_
  refine lv_bipush (v := nI 12) hx hb (dk kX5_baseOf_ok 15 rfl) rfl ?_
  refine csP (As := [.int (nI 0), .int (nI 12)]) (rest := []) ⟨hx, hb, hml, hown, hts⟩ (tX5_cellAt l (nI 0) (nI 12)) (cwS9 2 hts mcX5_cellAt (ac0 _ (List.mem_of_getElem? (i := 17) rfl)) msX5_cellAt mini_RX5 rfl rfl hdX5_cellAt ⟨Nat.le_of_ble_eq_true rfl, Nat.le_of_ble_eq_true rfl⟩) rfl hl.1 rfl (Nat.le_of_ble_eq_true rfl) (by decide) (dk kX5_baseOf_ok 16 rfl) ?_
  exact hret _ _ _ (by rcases (show w = 0 ∨ w = 1 ∨ w = 2 ∨ w = 3 by omega) with rfl | rfl | rfl | rfl <;> first | rfl | (exfalso; revert hs1 hs2 hs3; decide)) (dk kX5_baseOf_ok 17 rfl)
set_option maxRecDepth 100000 in
set_option maxHeartbeats 4000000 in
theorem tX5_cellBeside (l : Launch) (x y d : Int32) : MP l yX5_cellBeside (Cond.code yX5_cellBeside cX5_cellBeside 5 (some .int) :: AW) ({ frames := 1, cells := 0, slots := 0, locals := 21 } : Room) [.int x, .int y, .int d] (.int (beside x y d)) := by
  refine mp_i (ty := .int) (by decide +kernel) rfl rfl rfl rfl (Nat.le_of_ble_eq_true rfl) (fun p e s m below meth cd Q ls hx hb hml hown hts hret hl => ?_)
  have hown : s.vm.findClass RX5 = some m.cls := hown
  have hl : lv_has ls 5 [(0, .int x), (1, .int y), (2, .int d)] := hl
  refine lv_iload_n hx hb (dk kX5_cellBeside_ok 0 rfl) rfl (lv_at hl 0 rfl) ?_
  refine lv_iload_n hx hb (dk kX5_cellBeside_ok 1 rfl) rfl (lv_at hl 2 rfl) ?_
  refine csP (As := [.int d]) (rest := [.int x]) ⟨hx, hb, hml, hown, hts⟩ (tX5_eastOf l d) (cwS9 1 hts mcX5_eastOf (ac5 _ (List.mem_of_getElem? (i := 14) rfl)) msX5_eastOf mini_RX5 rfl rfl hdX5_eastOf ⟨Nat.le_of_ble_eq_true rfl, Nat.le_of_ble_eq_true rfl⟩) rfl hl.1 rfl (Nat.le_of_ble_eq_true rfl) (by decide) (dk kX5_cellBeside_ok 2 rfl) ?_
  refine lv_iadd hx hb (dk kX5_cellBeside_ok 3 rfl) ?_
  refine lv_istore_n (lv' := [(3, .int (x + (ea d))), (0, .int x), (1, .int y), (2, .int d)]) hx hb (dk kX5_cellBeside_ok 4 rfl) rfl hl (by decide) rfl (fun ls hl => ?_)
  refine lv_iload_n hx hb (dk kX5_cellBeside_ok 5 rfl) rfl (lv_at hl 2 rfl) ?_
  refine lv_iload_n hx hb (dk kX5_cellBeside_ok 6 rfl) rfl (lv_at hl 3 rfl) ?_
  refine csP (As := [.int d]) (rest := [.int y]) ⟨hx, hb, hml, hown, hts⟩ (tX5_southOf l d) (cwS9 1 hts mcX5_southOf (ac5 _ (List.mem_of_getElem? (i := 17) rfl)) msX5_southOf mini_RX5 rfl rfl hdX5_southOf ⟨Nat.le_of_ble_eq_true rfl, Nat.le_of_ble_eq_true rfl⟩) rfl hl.1 rfl (Nat.le_of_ble_eq_true rfl) (by decide) (dk kX5_cellBeside_ok 7 rfl) ?_
  refine lv_iadd hx hb (dk kX5_cellBeside_ok 8 rfl) ?_
  refine lv_istore (lv' := [(4, .int (y + (so d))), (3, .int (x + (ea d))), (0, .int x), (1, .int y), (2, .int d)]) hx hb (dk kX5_cellBeside_ok 9 rfl) hl (by decide) rfl (fun ls hl => ?_)
  refine lv_iload_n hx hb (dk kX5_cellBeside_ok 10 rfl) rfl (lv_at hl 1 rfl) ?_
  refine lv_iload hx hb (dk kX5_cellBeside_ok 11 rfl) (lv_at hl 0 rfl) ?_
  refine csP (As := [.int (x + (ea d)), .int (y + (so d))]) (rest := []) ⟨hx, hb, hml, hown, hts⟩ (tX5_isOnMat l (x + (ea d)) (y + (so d))) (cwS9 2 hts mcX5_isOnMat (ac5 _ (List.mem_of_getElem? (i := 20) rfl)) msX5_isOnMat mini_RX5 rfl rfl hdX5_isOnMat ⟨Nat.le_of_ble_eq_true rfl, Nat.le_of_ble_eq_true rfl⟩) rfl hl.1 rfl (Nat.le_of_ble_eq_true rfl) (by decide) (dk kX5_cellBeside_ok 12 rfl) ?_
  refine b_if_eq (tgt := 33) hx hb (dk kX5_cellBeside_ok 13 rfl) (by decide) (fun h1 => ?_) (fun h1 => ?_)
  · skip
    refine lv_iconst (v := -1) hx hb (dk kX5_cellBeside_ok 18 rfl) rfl ?_
    exact hret _ _ _ (by simp [beside, h1]) (dk kX5_cellBeside_ok 19 rfl)
  · skip
    refine lv_iload_n hx hb (dk kX5_cellBeside_ok 14 rfl) rfl (lv_at hl 1 rfl) ?_
    refine lv_iload hx hb (dk kX5_cellBeside_ok 15 rfl) (lv_at hl 0 rfl) ?_
    refine csP (As := [.int (x + (ea d)), .int (y + (so d))]) (rest := []) ⟨hx, hb, hml, hown, hts⟩ (tX5_cellAt l (x + (ea d)) (y + (so d))) (cwS9 2 hts mcX5_cellAt (ac0 _ (List.mem_of_getElem? (i := 17) rfl)) msX5_cellAt mini_RX5 rfl rfl hdX5_cellAt ⟨Nat.le_of_ble_eq_true rfl, Nat.le_of_ble_eq_true rfl⟩) rfl hl.1 rfl (Nat.le_of_ble_eq_true rfl) (by decide) (dk kX5_cellBeside_ok 16 rfl) ?_
    refine lv_goto (tgt := 34) hx hb (dk kX5_cellBeside_ok 17 rfl) (by decide) ?_
    exact hret _ _ _ (by simp [beside, h1]) (dk kX5_cellBeside_ok 19 rfl)
set_option maxRecDepth 100000 in
set_option maxHeartbeats 4000000 in
theorem tX5_landing (l : Launch) (q d z : Int32) (f : Nat) (hzf : z = nI f) (hf : f < 2 ^ 31) : MP l yX5_landing (Cond.code yX5_landing cX5_landing 9 (some .int) :: AW) ({ frames := 1, cells := 0, slots := 0, locals := 21 } : Room) [.int q, .int d, .int z] (.int (ldg q d f)) := by
  refine mp_i (ty := .int) (by decide +kernel) rfl rfl rfl rfl (Nat.le_of_ble_eq_true rfl) (fun p e s m below meth cd Q ls hx hb hml hown hts hret hl => ?_)
  have hown : s.vm.findClass RX5 = some m.cls := hown
  subst hzf
  have hl : lv_has ls 9 [(0, .int q), (1, .int d), (2, .int (nI f))] := hl
  refine lv_iload_n hx hb (dk kX5_landing_0_ok 0 rfl) rfl (lv_at hl 0 rfl) ?_
  refine lv_bipush (v := nI 13) hx hb (dk kX5_landing_0_ok 1 rfl) rfl ?_
  refine lv_irem hx hb (dk kX5_landing_0_ok 2 rfl) (by decide) ?_
  refine lv_istore_n (lv' := [(3, .int (q - q / (nI 13) * (nI 13))), (0, .int q), (1, .int d), (2, .int (nI f))]) hx hb (dk kX5_landing_0_ok 3 rfl) rfl hl (by decide) rfl (fun ls hl => ?_)
  refine lv_iload_n hx hb (dk kX5_landing_0_ok 4 rfl) rfl (lv_at hl 1 rfl) ?_
  refine lv_bipush (v := nI 13) hx hb (dk kX5_landing_0_ok 5 rfl) rfl ?_
  refine lv_idiv hx hb (dk kX5_landing_0_ok 6 rfl) (by decide) ?_
  refine lv_istore (lv' := [(4, .int (q / (nI 13))), (3, .int (q - q / (nI 13) * (nI 13))), (0, .int q), (1, .int d), (2, .int (nI f))]) hx hb (dk kX5_landing_0_ok 7 rfl) hl (by decide) rfl (fun ls hl => ?_)
  refine lv_iload_n hx hb (dk kX5_landing_0_ok 8 rfl) rfl (lv_at hl 3 rfl) ?_
  refine csP (As := [.int d]) (rest := []) ⟨hx, hb, hml, hown, hts⟩ (tX5_eastOf l d) (cwS9 1 hts mcX5_eastOf (ac5 _ (List.mem_of_getElem? (i := 14) rfl)) msX5_eastOf mini_RX5 rfl rfl hdX5_eastOf ⟨Nat.le_of_ble_eq_true rfl, Nat.le_of_ble_eq_true rfl⟩) rfl hl.1 rfl (Nat.le_of_ble_eq_true rfl) (by decide) (dk kX5_landing_0_ok 9 rfl) ?_
  refine lv_istore (lv' := [(5, .int (ea d)), (4, .int (q / (nI 13))), (3, .int (q - q / (nI 13) * (nI 13))), (0, .int q), (1, .int d), (2, .int (nI f))]) hx hb (dk kX5_landing_0_ok 10 rfl) hl (by decide) rfl (fun ls hl => ?_)
  refine lv_iload_n hx hb (dk kX5_landing_0_ok 11 rfl) rfl (lv_at hl 4 rfl) ?_
  refine csP (As := [.int d]) (rest := []) ⟨hx, hb, hml, hown, hts⟩ (tX5_southOf l d) (cwS9 1 hts mcX5_southOf (ac5 _ (List.mem_of_getElem? (i := 17) rfl)) msX5_southOf mini_RX5 rfl rfl hdX5_southOf ⟨Nat.le_of_ble_eq_true rfl, Nat.le_of_ble_eq_true rfl⟩) rfl hl.1 rfl (Nat.le_of_ble_eq_true rfl) (by decide) (dk kX5_landing_0_ok 12 rfl) ?_
  refine lv_istore (lv' := [(6, .int (so d)), (5, .int (ea d)), (4, .int (q / (nI 13))), (3, .int (q - q / (nI 13) * (nI 13))), (0, .int q), (1, .int d), (2, .int (nI f))]) hx hb (dk kX5_landing_0_ok 13 rfl) hl (by decide) rfl (fun ls hl => ?_)
  refine lv_iconst (v := nI 0) hx hb (dk kX5_landing_0_ok 14 rfl) rfl ?_
  refine lv_istore (lv' := [(7, .int (nI 0)), (6, .int (so d)), (5, .int (ea d)), (4, .int (q / (nI 13))), (3, .int (q - q / (nI 13) * (nI 13))), (0, .int q), (1, .int d), (2, .int (nI f))]) hx hb (dk kX5_landing_0_ok 15 rfl) hl (by decide) rfl (fun ls hl => ?_)
  refine lv_iconst (v := nI 0) hx hb (dk kX5_landing_0_ok 16 rfl) rfl ?_
  refine lv_istore (lv' := [(8, .int (nI 0)), (7, .int (nI 0)), (6, .int (so d)), (5, .int (ea d)), (4, .int (q / (nI 13))), (3, .int (q - q / (nI 13) * (nI 13))), (0, .int q), (1, .int d), (2, .int (nI f))]) hx hb (dk kX5_landing_0_ok 17 rfl) hl (by decide) rfl (fun ls hl => ?_)
  have L29 : ∀ (fu : Nat) (i : Nat) (x y u v : Int32) (b : Bool) (x7 : Int32), x7 = bI b → i ≤ f → ldg q d f = ldL (f - i) x y u v b → f - i < fu → ∀ ls : Array Slot, lv_has ls 9 [(0, .int q), (1, .int d), (2, .int (nI f)), (3, .int x), (4, .int y), (5, .int u), (6, .int v), (7, .int x7), (8, .int (nI i))] → W p l e ({ frames := 1, cells := 0, slots := 0, locals := 21 } : Room) s m ([.int q, .int d, .int (nI f)] : List Value).toArray below meth cd s.heap [] 0 0 Q (F0 m 29 ls []) := by
    intro fu
    induction fu with
    | zero => intros; omega
    | succ fu ih29 =>
      intro i x y u v b x7 ex7 hi hr hm29 ls hl
      subst ex7
      refine lv_iload hx hb (dk kX5_landing_0_ok 18 rfl) (lv_at hl 8 rfl) ?_
      refine lv_iload_n hx hb (dk kX5_landing_0_ok 19 rfl) rfl (lv_at hl 2 rfl) ?_
      refine n_icmp_ge (tgt := 103) hx hb (by omega) (by omega) (dk kX5_landing_0_ok 20 rfl) (by decide) (fun h1 => ?_) (fun h1 => ?_)
      · skip
        refine lv_iload_n hx hb (dk kX5_landing_0_ok 59 rfl) rfl (lv_at hl 3 rfl) ?_
        refine lv_iload hx hb (dk kX5_landing_1_ok 0 rfl) (lv_at hl 4 rfl) ?_
        refine csP (As := [.int x, .int y]) (rest := []) ⟨hx, hb, hml, hown, hts⟩ (tX5_cellAt l x y) (cwS9 2 hts mcX5_cellAt (ac0 _ (List.mem_of_getElem? (i := 17) rfl)) msX5_cellAt mini_RX5 rfl rfl hdX5_cellAt ⟨Nat.le_of_ble_eq_true rfl, Nat.le_of_ble_eq_true rfl⟩) rfl hl.1 rfl (Nat.le_of_ble_eq_true rfl) (by decide) (dk kX5_landing_1_ok 1 rfl) ?_
        exact hret _ _ _ (by first | (rw [hr, show f - i = (f - (i + 1)) + 1 by omega]; simp [ldL, h1]; done) | (rw [hr, show f - i = 0 by omega]; rfl)) (dk kX5_landing_1_ok 2 rfl)
      · skip
        refine lv_iload_n hx hb (dk kX5_landing_0_ok 21 rfl) rfl (lv_at hl 3 rfl) ?_
        refine lv_iload hx hb (dk kX5_landing_0_ok 22 rfl) (lv_at hl 5 rfl) ?_
        refine lv_iadd hx hb (dk kX5_landing_0_ok 23 rfl) ?_
        refine lv_iload hx hb (dk kX5_landing_0_ok 24 rfl) (lv_at hl 4 rfl) ?_
        refine lv_iload hx hb (dk kX5_landing_0_ok 25 rfl) (lv_at hl 6 rfl) ?_
        refine lv_iadd hx hb (dk kX5_landing_0_ok 26 rfl) ?_
        refine csP (As := [.int (x + u), .int (y + v)]) (rest := []) ⟨hx, hb, hml, hown, hts⟩ (tX5_isOnMat l (x + u) (y + v)) (cwS9 2 hts mcX5_isOnMat (ac5 _ (List.mem_of_getElem? (i := 20) rfl)) msX5_isOnMat mini_RX5 rfl rfl hdX5_isOnMat ⟨Nat.le_of_ble_eq_true rfl, Nat.le_of_ble_eq_true rfl⟩) rfl hl.1 rfl (Nat.le_of_ble_eq_true rfl) (by decide) (dk kX5_landing_0_ok 27 rfl) ?_
        refine b_if_ne (tgt := 85) hx hb (dk kX5_landing_0_ok 28 rfl) (by decide) (fun h2 => ?_) (fun h2 => ?_)
        · skip
          refine lv_iload_n hx hb (dk kX5_landing_0_ok 49 rfl) rfl (lv_at hl 3 rfl) ?_
          refine lv_iload hx hb (dk kX5_landing_0_ok 50 rfl) (lv_at hl 5 rfl) ?_
          refine lv_iadd hx hb (dk kX5_landing_0_ok 51 rfl) ?_
          refine lv_istore_n (lv' := [(3, .int (x + u)), (0, .int q), (1, .int d), (2, .int (nI f)), (4, .int y), (5, .int u), (6, .int v), (7, .int (bI b)), (8, .int (nI i))]) hx hb (dk kX5_landing_0_ok 52 rfl) rfl hl (by decide) rfl (fun ls hl => ?_)
          refine lv_iload hx hb (dk kX5_landing_0_ok 53 rfl) (lv_at hl 4 rfl) ?_
          refine lv_iload hx hb (dk kX5_landing_0_ok 54 rfl) (lv_at hl 6 rfl) ?_
          refine lv_iadd hx hb (dk kX5_landing_0_ok 55 rfl) ?_
          refine lv_istore (lv' := [(4, .int (y + v)), (3, .int (x + u)), (0, .int q), (1, .int d), (2, .int (nI f)), (5, .int u), (6, .int v), (7, .int (bI b)), (8, .int (nI i))]) hx hb (dk kX5_landing_0_ok 56 rfl) hl (by decide) rfl (fun ls hl => ?_)
          refine lv_iinc (v := nI (i + 1)) (lv' := [(8, .int (nI (i + 1))), (4, .int (y + v)), (3, .int (x + u)), (0, .int q), (1, .int d), (2, .int (nI f)), (5, .int u), (6, .int v), (7, .int (bI b))]) hx hb (dk kX5_landing_0_ok 57 rfl) hl (k := 8) rfl (n_inc _) (by decide) rfl (fun ls hl => ?_)
          refine lv_goto (tgt := 29) hx hb (dk kX5_landing_0_ok 58 rfl) (by decide) ?_
          exact ih29 (i + 1) (x + u) (y + v) u v b _ (by rfl) (by omega) (by rw [hr, show f - i = (f - (i + 1)) + 1 by omega]; simp [ldL, h1, h2]) (by omega) ls (lv_sub hl [3, 4, 5, 2, 1, 6, 7, 8, 0] rfl)
        · skip
          refine lv_iload hx hb (dk kX5_landing_0_ok 29 rfl) (lv_at hl 5 rfl) ?_
          refine lv_ineg hx hb (dk kX5_landing_0_ok 30 rfl) ?_
          refine lv_istore (lv' := [(5, .int (-u)), (0, .int q), (1, .int d), (2, .int (nI f)), (3, .int x), (4, .int y), (6, .int v), (7, .int (bI b)), (8, .int (nI i))]) hx hb (dk kX5_landing_0_ok 31 rfl) hl (by decide) rfl (fun ls hl => ?_)
          refine lv_iload hx hb (dk kX5_landing_0_ok 32 rfl) (lv_at hl 6 rfl) ?_
          refine lv_ineg hx hb (dk kX5_landing_0_ok 33 rfl) ?_
          refine lv_istore (lv' := [(6, .int (-v)), (5, .int (-u)), (0, .int q), (1, .int d), (2, .int (nI f)), (3, .int x), (4, .int y), (7, .int (bI b)), (8, .int (nI i))]) hx hb (dk kX5_landing_0_ok 34 rfl) hl (by decide) rfl (fun ls hl => ?_)
          refine lv_iload hx hb (dk kX5_landing_0_ok 35 rfl) (lv_at hl 7 rfl) ?_
          refine b_if_ne (tgt := 80) hx hb (dk kX5_landing_0_ok 36 rfl) (by decide) (fun h3 => ?_) (fun h3 => ?_)
          · skip
            refine lv_iconst (v := -1) hx hb (dk kX5_landing_0_ok 45 rfl) rfl ?_
            exact hret _ _ _ (by first | (rw [hr, show f - i = (f - (i + 1)) + 1 by omega]; simp [ldL, h1, h2, h3]; done) | (rw [hr, show f - i = 0 by omega]; rfl)) (dk kX5_landing_0_ok 46 rfl)
          · skip
            refine lv_iload_n hx hb (dk kX5_landing_0_ok 37 rfl) rfl (lv_at hl 5 rfl) ?_
            refine lv_iload hx hb (dk kX5_landing_0_ok 38 rfl) (lv_at hl 1 rfl) ?_
            refine lv_iadd hx hb (dk kX5_landing_0_ok 39 rfl) ?_
            refine lv_iload hx hb (dk kX5_landing_0_ok 40 rfl) (lv_at hl 6 rfl) ?_
            refine lv_iload hx hb (dk kX5_landing_0_ok 41 rfl) (lv_at hl 0 rfl) ?_
            refine lv_iadd hx hb (dk kX5_landing_0_ok 42 rfl) ?_
            refine csP (As := [.int (x + (-u)), .int (y + (-v))]) (rest := []) ⟨hx, hb, hml, hown, hts⟩ (tX5_isOnMat l (x + (-u)) (y + (-v))) (cwS9 2 hts mcX5_isOnMat (ac5 _ (List.mem_of_getElem? (i := 20) rfl)) msX5_isOnMat mini_RX5 rfl rfl hdX5_isOnMat ⟨Nat.le_of_ble_eq_true rfl, Nat.le_of_ble_eq_true rfl⟩) rfl hl.1 rfl (Nat.le_of_ble_eq_true rfl) (by decide) (dk kX5_landing_0_ok 43 rfl) ?_
            refine b_if_ne (tgt := 82) hx hb (dk kX5_landing_0_ok 44 rfl) (by decide) (fun h4 => ?_) (fun h4 => ?_)
            · skip
              refine lv_iconst (v := nI 1) hx hb (dk kX5_landing_0_ok 47 rfl) rfl ?_
              refine lv_istore (lv' := [(7, .int (nI 1)), (6, .int (-v)), (5, .int (-u)), (0, .int q), (1, .int d), (2, .int (nI f)), (3, .int x), (4, .int y), (8, .int (nI i))]) hx hb (dk kX5_landing_0_ok 48 rfl) hl (by decide) rfl (fun ls hl => ?_)
              refine lv_iload_n hx hb (dk kX5_landing_0_ok 49 rfl) rfl (lv_at hl 6 rfl) ?_
              refine lv_iload hx hb (dk kX5_landing_0_ok 50 rfl) (lv_at hl 2 rfl) ?_
              refine lv_iadd hx hb (dk kX5_landing_0_ok 51 rfl) ?_
              refine lv_istore_n (lv' := [(3, .int (x + (-u))), (7, .int (nI 1)), (6, .int (-v)), (5, .int (-u)), (0, .int q), (1, .int d), (2, .int (nI f)), (4, .int y), (8, .int (nI i))]) hx hb (dk kX5_landing_0_ok 52 rfl) rfl hl (by decide) rfl (fun ls hl => ?_)
              refine lv_iload hx hb (dk kX5_landing_0_ok 53 rfl) (lv_at hl 7 rfl) ?_
              refine lv_iload hx hb (dk kX5_landing_0_ok 54 rfl) (lv_at hl 2 rfl) ?_
              refine lv_iadd hx hb (dk kX5_landing_0_ok 55 rfl) ?_
              refine lv_istore (lv' := [(4, .int (y + (-v))), (3, .int (x + (-u))), (7, .int (nI 1)), (6, .int (-v)), (5, .int (-u)), (0, .int q), (1, .int d), (2, .int (nI f)), (8, .int (nI i))]) hx hb (dk kX5_landing_0_ok 56 rfl) hl (by decide) rfl (fun ls hl => ?_)
              refine lv_iinc (v := nI (i + 1)) (lv' := [(8, .int (nI (i + 1))), (4, .int (y + (-v))), (3, .int (x + (-u))), (7, .int (nI 1)), (6, .int (-v)), (5, .int (-u)), (0, .int q), (1, .int d), (2, .int (nI f))]) hx hb (dk kX5_landing_0_ok 57 rfl) hl (k := 8) rfl (n_inc _) (by decide) rfl (fun ls hl => ?_)
              refine lv_goto (tgt := 29) hx hb (dk kX5_landing_0_ok 58 rfl) (by decide) ?_
              exact ih29 (i + 1) (x + (-u)) (y + (-v)) (-u) (-v) true _ (by rfl) (by omega) (by rw [hr, show f - i = (f - (i + 1)) + 1 by omega]; simp [ldL, h1, h2, h3, h4]) (by omega) ls (lv_sub hl [6, 7, 8, 2, 1, 5, 4, 3, 0] rfl)
            · skip
              refine lv_iconst (v := -1) hx hb (dk kX5_landing_0_ok 45 rfl) rfl ?_
              exact hret _ _ _ (by first | (rw [hr, show f - i = (f - (i + 1)) + 1 by omega]; simp [ldL, h1, h2, h3, h4]; done) | (rw [hr, show f - i = 0 by omega]; rfl)) (dk kX5_landing_0_ok 46 rfl)
  exact L29 _ 0 (q - q / nI 13 * nI 13) (q / nI 13) (ea d) (so d) false _ (by first | rfl | omega) (by first | rfl | omega) (by first | rfl | omega) (Nat.lt_succ_self _) ls (lv_sub hl [6, 7, 8, 5, 4, 3, 2, 1, 0] rfl)
set_option maxRecDepth 100000 in
set_option maxHeartbeats 4000000 in
theorem tX5_restingCell (l : Launch) (x : Int32) (w : Nat) (hxw : x = nI w) (hw : w < 16) (q : Int32) : MP l yX5_restingCell (Cond.code yX5_restingCell cX5_restingCell 2 (some .int) :: AW) ({ frames := 2, cells := 0, slots := 0, locals := 41 } : Room) [.int x, .int q] (.int (rest9 w q)) := by
  refine mp_i (ty := .int) (by decide +kernel) rfl rfl rfl rfl (Nat.le_of_ble_eq_true rfl) (fun p e s m below meth cd Q ls hx hb hml hown hts hret hl => ?_)
  have hown : s.vm.findClass RX5 = some m.cls := hown
  subst hxw
  have hl : lv_has ls 2 [(0, .int (nI w)), (1, .int q)] := hl
  refine lv_iload_n hx hb (dk kX5_restingCell_ok 0 rfl) rfl (lv_at hl 1 rfl) ?_
  refine lv_iconst (v := -1) hx hb (dk kX5_restingCell_ok 1 rfl) rfl ?_
  refine lv_icmp_ne (tgt := 15) hx hb (dk kX5_restingCell_ok 2 rfl) (by decide) (fun h1 => ?_) (fun h1 => ?_)
  · skip
    refine lv_iload_n hx hb (dk kX5_restingCell_ok 7 rfl) rfl (lv_at hl 1 rfl) ?_
    exact hret _ _ _ (by simp [rest9, h1]) (dk kX5_restingCell_ok 8 rfl)
  · skip
    refine lv_iload_n hx hb (dk kX5_restingCell_ok 3 rfl) rfl (lv_at hl 0 rfl) ?_
    refine csP (As := [.int (nI w)]) (rest := []) ⟨hx, hb, hml, hown, hts⟩ (tX5_colourOf l (nI w) w rfl (by omega)) (cwS9 1 hts mcX5_colourOf (ac7 _ (List.mem_of_getElem? (i := 2) rfl)) msX5_colourOf mini_RX5 rfl rfl hdX5_colourOf ⟨Nat.le_of_ble_eq_true rfl, Nat.le_of_ble_eq_true rfl⟩) rfl hl.1 rfl (Nat.le_of_ble_eq_true rfl) (by decide) (dk kX5_restingCell_ok 4 rfl) ?_
    refine csP (As := [.int (nI (w / 4))]) (rest := []) ⟨hx, hb, hml, hown, hts⟩ (tX5_baseOf l (nI (w / 4)) (w / 4) rfl (by omega)) (cwS9 1 hts mcX5_baseOf (ac7 _ (List.mem_of_getElem? (i := 3) rfl)) msX5_baseOf mini_RX5 rfl rfl hdX5_baseOf ⟨Nat.le_of_ble_eq_true rfl, Nat.le_of_ble_eq_true rfl⟩) rfl hl.1 rfl (Nat.le_of_ble_eq_true rfl) (by decide) (dk kX5_restingCell_ok 5 rfl) ?_
    refine lv_goto (tgt := 16) hx hb (dk kX5_restingCell_ok 6 rfl) (by decide) ?_
    exact hret _ _ _ (by simp [rest9, h1]) (dk kX5_restingCell_ok 8 rfl)
set_option maxRecDepth 100000 in
set_option maxHeartbeats 4000000 in
theorem tX5_flightAnswer (l : Launch) (q : Int32) : MP l yX5_flightAnswer (Cond.code yX5_flightAnswer cX5_flightAnswer 1 (some .int) :: AW) ({ frames := 0, cells := 0, slots := 0, locals := 0 } : Room) [.int q] (.int (fans q)) := by
  refine mp_i (ty := .int) (by decide +kernel) rfl rfl rfl rfl (Nat.le_of_ble_eq_true rfl) (fun p e s m below meth cd Q ls hx hb hml hown hts hret hl => ?_)
  have hown : s.vm.findClass RX5 = some m.cls := hown
  have hl : lv_has ls 1 [(0, .int q)] := hl
  refine lv_iload_n hx hb (dk kX5_flightAnswer_ok 0 rfl) rfl (lv_at hl 0 rfl) ?_
  refine lv_bipush (v := nI 84) hx hb (dk kX5_flightAnswer_ok 1 rfl) rfl ?_
  refine lv_icmp_ne (tgt := 12) hx hb (dk kX5_flightAnswer_ok 2 rfl) (by decide) (fun h1 => ?_) (fun h1 => ?_)
  · skip
    refine lv_iload_n hx hb (dk kX5_flightAnswer_ok 5 rfl) rfl (lv_at hl 0 rfl) ?_
    exact hret _ _ _ (by simp [fans, h1]) (dk kX5_flightAnswer_ok 6 rfl)
  · skip
    refine lv_sipush (v := nI 169) hx hb (dk kX5_flightAnswer_ok 3 rfl) rfl ?_
    refine lv_goto (tgt := 13) hx hb (dk kX5_flightAnswer_ok 4 rfl) (by decide) ?_
    exact hret _ _ _ (by simp [fans, h1]) (dk kX5_flightAnswer_ok 6 rfl)
set_option maxRecDepth 100000 in
set_option maxHeartbeats 4000000 in
theorem tX5_colourOf_r (l : Launch) (x : Int32) : MP l yX5_colourOf (Cond.code yX5_colourOf cX5_colourOf 1 (some .int) :: AW) ({ frames := 0, cells := 0, slots := 0, locals := 0 } : Room) [.int x] (.int (x / nI 4)) := by
  refine mp_i (ty := .int) (by decide +kernel) rfl rfl rfl rfl (Nat.le_of_ble_eq_true rfl) (fun p e s m below meth cd Q ls hx hb hml hown hts hret hl => ?_)
  have hown : s.vm.findClass RX5 = some m.cls := hown
  have hl : lv_has ls 1 [(0, .int x)] := hl
  refine lv_iload_n hx hb (dk kX5_colourOf_ok 0 rfl) rfl (lv_at hl 0 rfl) ?_
  refine lv_iconst (v := nI 4) hx hb (dk kX5_colourOf_ok 1 rfl) rfl ?_
  refine lv_idiv hx hb (dk kX5_colourOf_ok 2 rfl) (by decide) ?_
  exact hret _ _ _ (by rfl) (dk kX5_colourOf_ok 3 rfl)
end
/-! from matr -/
section
set_option maxRecDepth 100000 in
set_option maxHeartbeats 4000000 in
theorem tX1_isPotted (l : Launch) (D : va_G) (cI cQ cL : ClassId) (ad : Nat → Nat) (N : Nat) (F : Nat → va_E) (k : Nat) (hk : k + 3 < N) (c b v : Nat → Int32) (hM : matAt cI ad F k c b v) (x : Int32) (w : Nat) (hxw : x = nI w) (hw : w < 16) : MR l yX1_isPotted (Cond.code yX1_isPotted cX1_isPotted 2 (some .boolean) :: AW) ({ frames := 0, cells := 0, slots := 0, locals := 0 } : Room) D cI cQ cL ad N F [.ref (ad k), .int x] (.int (bI (pot c w))) := by
  refine mr_i (ty := .boolean) (by decide +kernel) rfl rfl rfl (bI_nar _) (Nat.le_of_ble_eq_true rfl) (fun p e s m below meth cd Q ls hx hb hml hown hts hP hK hNW hret hl => ?_)
  have hown : s.vm.findClass RX1 = some m.cls := hown
  subst hxw
  obtain ⟨f0, f1, f2, f3⟩ := id hM
  have hk0 : k < N := by omega
  have hk1 : k + 1 < N := by omega
  have hk2 : k + 2 < N := by omega
  have hk3 : k + 3 < N := hk
  have hl : lv_has ls 2 [(0, .ref (ad k)), (1, .int (nI w))] := hl
  refine lv_aload_n hx hb (dk kX1_isPotted_ok 0 rfl) rfl (lv_at hl 0 rfl) ?_
  refine gf hx hb hts (fun w h => List.mem_cons_of_mem _ (acX1 w h)) hown hK hP hk0 f0 rfl 0 (by decide) (hts _ (List.mem_cons_of_mem _ (ac0 _ (List.mem_of_getElem? (i := 22) rfl)))) (fun _ h => h) rfl (dk kX1_isPotted_ok 1 rfl) ?_
  refine lv_iload_n hx hb (dk kX1_isPotted_ok 2 rfl) rfl (lv_at hl 1 rfl) ?_
  refine ald (j := w) hx hb hK hP hk1 f1 rfl (by omega) (by decide) (dk kX1_isPotted_ok 3 rfl) ?_
  refine lv_iconst (v := -1) hx hb (dk kX1_isPotted_ok 4 rfl) rfl ?_
  refine lv_icmp_ne (tgt := 14) hx hb (dk kX1_isPotted_ok 5 rfl) (by decide) (fun h1 => ?_) (fun h1 => ?_)
  · skip
    refine lv_iconst (v := nI 0) hx hb (dk kX1_isPotted_ok 8 rfl) rfl ?_
    exact hret _ _ _ (by simp [pot, h1, bI]) (dk kX1_isPotted_ok 9 rfl)
  · skip
    refine lv_iconst (v := nI 1) hx hb (dk kX1_isPotted_ok 6 rfl) rfl ?_
    refine lv_goto (tgt := 15) hx hb (dk kX1_isPotted_ok 7 rfl) (by decide) ?_
    exact hret _ _ _ (by simp [pot, h1, bI]) (dk kX1_isPotted_ok 9 rfl)
set_option maxRecDepth 100000 in
set_option maxHeartbeats 4000000 in
theorem tX1_isCovered (l : Launch) (D : va_G) (cI cQ cL : ClassId) (ad : Nat → Nat) (N : Nat) (F : Nat → va_E) (k : Nat) (hk : k + 3 < N) (c b v : Nat → Int32) (hM : matAt cI ad F k c b v) (x : Int32) (w : Nat) (hxw : x = nI w) (hw : w < 16) : MR l yX1_isCovered (Cond.code yX1_isCovered cX1_isCovered 2 (some .boolean) :: AW) ({ frames := 0, cells := 0, slots := 0, locals := 0 } : Room) D cI cQ cL ad N F [.ref (ad k), .int x] (.int (bI (cov v w))) := by
  refine mr_i (ty := .boolean) (by decide +kernel) rfl rfl rfl (bI_nar _) (Nat.le_of_ble_eq_true rfl) (fun p e s m below meth cd Q ls hx hb hml hown hts hP hK hNW hret hl => ?_)
  have hown : s.vm.findClass RX1 = some m.cls := hown
  subst hxw
  obtain ⟨f0, f1, f2, f3⟩ := id hM
  have hk0 : k < N := by omega
  have hk1 : k + 1 < N := by omega
  have hk2 : k + 2 < N := by omega
  have hk3 : k + 3 < N := hk
  have hl : lv_has ls 2 [(0, .ref (ad k)), (1, .int (nI w))] := hl
  refine lv_aload_n hx hb (dk kX1_isCovered_ok 0 rfl) rfl (lv_at hl 0 rfl) ?_
  refine gf hx hb hts (fun w h => List.mem_cons_of_mem _ (acX1 w h)) hown hK hP hk0 f0 rfl 2 (by decide) (hts _ (List.mem_cons_of_mem _ (ac1 _ (List.mem_of_getElem? (i := 0) rfl)))) (fun _ h => h) rfl (dk kX1_isCovered_ok 1 rfl) ?_
  refine lv_iload_n hx hb (dk kX1_isCovered_ok 2 rfl) rfl (lv_at hl 1 rfl) ?_
  refine ald (j := w) hx hb hK hP hk3 f3 rfl (by omega) (by decide) (dk kX1_isCovered_ok 3 rfl) ?_
  refine lv_iconst (v := -1) hx hb (dk kX1_isCovered_ok 4 rfl) rfl ?_
  refine lv_icmp_eq (tgt := 14) hx hb (dk kX1_isCovered_ok 5 rfl) (by decide) (fun h1 => ?_) (fun h1 => ?_)
  · skip
    refine lv_iconst (v := nI 0) hx hb (dk kX1_isCovered_ok 8 rfl) rfl ?_
    exact hret _ _ _ (by simp [cov, h1, bI]) (dk kX1_isCovered_ok 9 rfl)
  · skip
    refine lv_iconst (v := nI 1) hx hb (dk kX1_isCovered_ok 6 rfl) rfl ?_
    refine lv_goto (tgt := 15) hx hb (dk kX1_isCovered_ok 7 rfl) (by decide) ?_
    exact hret _ _ _ (by simp [cov, h1, bI]) (dk kX1_isCovered_ok 9 rfl)
set_option maxRecDepth 100000 in
set_option maxHeartbeats 4000000 in
theorem tX1_topAt (l : Launch) (D : va_G) (cI cQ cL : ClassId) (ad : Nat → Nat) (N : Nat) (F : Nat → va_E) (k : Nat) (hk : k + 3 < N) (c b v : Nat → Int32) (hM : matAt cI ad F k c b v) (q : Int32) : MR l yX1_topAt (Cond.code yX1_topAt cX1_topAt 3 (some .int) :: AW) ({ frames := 0, cells := 0, slots := 0, locals := 0 } : Room) D cI cQ cL ad N F [.ref (ad k), .int q] (.int (top c v q)) := by
  refine mr_i (ty := .int) (by decide +kernel) rfl rfl rfl rfl (Nat.le_of_ble_eq_true rfl) (fun p e s m below meth cd Q ls hx hb hml hown hts hP hK hNW hret hl => ?_)
  have hown : s.vm.findClass RX1 = some m.cls := hown
  obtain ⟨f0, f1, f2, f3⟩ := id hM
  have hk0 : k < N := by omega
  have hk1 : k + 1 < N := by omega
  have hk2 : k + 2 < N := by omega
  have hk3 : k + 3 < N := hk
  have hl : lv_has ls 3 [(0, .ref (ad k)), (1, .int q)] := hl
  refine lv_iconst (v := nI 0) hx hb (dk kX1_topAt_ok 0 rfl) rfl ?_
  refine lv_istore_n (lv' := [(2, .int (nI 0)), (0, .ref (ad k)), (1, .int q)]) hx hb (dk kX1_topAt_ok 1 rfl) rfl hl (by decide) rfl (fun ls hl => ?_)
  have L2 : ∀ (fu : Nat) (i : Nat), i ≤ 16 → top c v q = fst (tpq c v q) (16 - i) i → 16 - i < fu → ∀ ls : Array Slot, lv_has ls 3 [(0, .ref (ad k)), (1, .int q), (2, .int (nI i))] → W p l e ({ frames := 0, cells := 0, slots := 0, locals := 0 } : Room) s m ([.ref (ad k), .int q] : List Value).toArray below meth cd s.heap [] 0 0 Q (F0 m 2 ls []) := by
    intro fu
    induction fu with
    | zero => intros; omega
    | succ fu ih2 =>
      intro i hi hr hm2 ls hl
      refine lv_iload_n hx hb (dk kX1_topAt_ok 2 rfl) rfl (lv_at hl 2 rfl) ?_
      refine lv_bipush (v := nI 16) hx hb (dk kX1_topAt_ok 3 rfl) rfl ?_
      refine n_icmp_ge (tgt := 36) hx hb (by omega) (by decide) (dk kX1_topAt_ok 4 rfl) (by decide) (fun h1 => ?_) (fun h1 => ?_)
      · skip
        refine lv_iconst (v := -1) hx hb (dk kX1_topAt_ok 21 rfl) rfl ?_
        exact hret _ _ _ (by first | (rw [hr, show 16 - i = (16 - (i + 1)) + 1 by omega]; simp [fst, tpq, h1]; done) | (rw [hr, show 16 - i = 0 by omega]; rfl)) (dk kX1_topAt_ok 22 rfl)
      · skip
        refine lv_aload_n hx hb (dk kX1_topAt_ok 5 rfl) rfl (lv_at hl 0 rfl) ?_
        refine gf hx hb hts (fun w h => List.mem_cons_of_mem _ (acX1 w h)) hown hK hP hk0 f0 rfl 0 (by decide) (hts _ (List.mem_cons_of_mem _ (ac0 _ (List.mem_of_getElem? (i := 22) rfl)))) (fun _ h => h) rfl (dk kX1_topAt_ok 6 rfl) ?_
        refine lv_iload_n hx hb (dk kX1_topAt_ok 7 rfl) rfl (lv_at hl 2 rfl) ?_
        refine ald (j := i) hx hb hK hP hk1 f1 rfl (by omega) (by decide) (dk kX1_topAt_ok 8 rfl) ?_
        refine lv_iload_n hx hb (dk kX1_topAt_ok 9 rfl) rfl (lv_at hl 1 rfl) ?_
        refine lv_icmp_ne (tgt := 30) hx hb (dk kX1_topAt_ok 10 rfl) (by decide) (fun h2 => ?_) (fun h2 => ?_)
        · skip
          refine lv_iinc (v := nI (i + 1)) (lv' := [(2, .int (nI (i + 1))), (0, .ref (ad k)), (1, .int q)]) hx hb (dk kX1_topAt_ok 19 rfl) hl (k := 2) rfl (n_inc _) (by decide) rfl (fun ls hl => ?_)
          refine lv_goto (tgt := 2) hx hb (dk kX1_topAt_ok 20 rfl) (by decide) ?_
          exact ih2 (i + 1) (by omega) (by rw [hr, show 16 - i = (16 - (i + 1)) + 1 by omega]; simp [fst, tpq, h1, h2]) (by omega) ls (lv_sub hl [1, 2, 0] rfl)
        · skip
          refine lv_aload_n hx hb (dk kX1_topAt_ok 11 rfl) rfl (lv_at hl 0 rfl) ?_
          refine gf hx hb hts (fun w h => List.mem_cons_of_mem _ (acX1 w h)) hown hK hP hk0 f0 rfl 2 (by decide) (hts _ (List.mem_cons_of_mem _ (ac1 _ (List.mem_of_getElem? (i := 0) rfl)))) (fun _ h => h) rfl (dk kX1_topAt_ok 12 rfl) ?_
          refine lv_iload_n hx hb (dk kX1_topAt_ok 13 rfl) rfl (lv_at hl 2 rfl) ?_
          refine ald (j := i) hx hb hK hP hk3 f3 rfl (by omega) (by decide) (dk kX1_topAt_ok 14 rfl) ?_
          refine lv_iconst (v := -1) hx hb (dk kX1_topAt_ok 15 rfl) rfl ?_
          refine lv_icmp_ne (tgt := 30) hx hb (dk kX1_topAt_ok 16 rfl) (by decide) (fun h3 => ?_) (fun h3 => ?_)
          · skip
            refine lv_iinc (v := nI (i + 1)) (lv' := [(2, .int (nI (i + 1))), (0, .ref (ad k)), (1, .int q)]) hx hb (dk kX1_topAt_ok 19 rfl) hl (k := 2) rfl (n_inc _) (by decide) rfl (fun ls hl => ?_)
            refine lv_goto (tgt := 2) hx hb (dk kX1_topAt_ok 20 rfl) (by decide) ?_
            exact ih2 (i + 1) (by omega) (by rw [hr, show 16 - i = (16 - (i + 1)) + 1 by omega]; simp [fst, tpq, h1, h2, h3]) (by omega) ls (lv_sub hl [1, 2, 0] rfl)
          · skip
            refine lv_iload_n hx hb (dk kX1_topAt_ok 17 rfl) rfl (lv_at hl 2 rfl) ?_
            exact hret _ _ _ (by first | (rw [hr, show 16 - i = (16 - (i + 1)) + 1 by omega]; simp [fst, tpq, h1, h2, h3]; done) | (rw [hr, show 16 - i = 0 by omega]; rfl)) (dk kX1_topAt_ok 18 rfl)
  exact L2 _ 0 (by first | rfl | omega) (by first | rfl | omega) (Nat.lt_succ_self _) ls (lv_sub hl [1, 2, 0] rfl)
set_option maxRecDepth 100000 in
set_option maxHeartbeats 4000000 in
theorem tX1_bottomAt (l : Launch) (D : va_G) (cI cQ cL : ClassId) (ad : Nat → Nat) (N : Nat) (F : Nat → va_E) (k : Nat) (hk : k + 3 < N) (c b v : Nat → Int32) (hM : matAt cI ad F k c b v) (q : Int32) : MR l yX1_bottomAt (Cond.code yX1_bottomAt cX1_bottomAt 3 (some .int) :: AW) ({ frames := 0, cells := 0, slots := 0, locals := 0 } : Room) D cI cQ cL ad N F [.ref (ad k), .int q] (.int (top c b q)) := by
  refine mr_i (ty := .int) (by decide +kernel) rfl rfl rfl rfl (Nat.le_of_ble_eq_true rfl) (fun p e s m below meth cd Q ls hx hb hml hown hts hP hK hNW hret hl => ?_)
  have hown : s.vm.findClass RX1 = some m.cls := hown
  obtain ⟨f0, f1, f2, f3⟩ := id hM
  have hk0 : k < N := by omega
  have hk1 : k + 1 < N := by omega
  have hk2 : k + 2 < N := by omega
  have hk3 : k + 3 < N := hk
  have hl : lv_has ls 3 [(0, .ref (ad k)), (1, .int q)] := hl
  refine lv_iconst (v := nI 0) hx hb (dk kX1_bottomAt_ok 0 rfl) rfl ?_
  refine lv_istore_n (lv' := [(2, .int (nI 0)), (0, .ref (ad k)), (1, .int q)]) hx hb (dk kX1_bottomAt_ok 1 rfl) rfl hl (by decide) rfl (fun ls hl => ?_)
  have L2 : ∀ (fu : Nat) (i : Nat), i ≤ 16 → top c b q = fst (tpq c b q) (16 - i) i → 16 - i < fu → ∀ ls : Array Slot, lv_has ls 3 [(0, .ref (ad k)), (1, .int q), (2, .int (nI i))] → W p l e ({ frames := 0, cells := 0, slots := 0, locals := 0 } : Room) s m ([.ref (ad k), .int q] : List Value).toArray below meth cd s.heap [] 0 0 Q (F0 m 2 ls []) := by
    intro fu
    induction fu with
    | zero => intros; omega
    | succ fu ih2 =>
      intro i hi hr hm2 ls hl
      refine lv_iload_n hx hb (dk kX1_bottomAt_ok 2 rfl) rfl (lv_at hl 2 rfl) ?_
      refine lv_bipush (v := nI 16) hx hb (dk kX1_bottomAt_ok 3 rfl) rfl ?_
      refine n_icmp_ge (tgt := 36) hx hb (by omega) (by decide) (dk kX1_bottomAt_ok 4 rfl) (by decide) (fun h1 => ?_) (fun h1 => ?_)
      · skip
        refine lv_iconst (v := -1) hx hb (dk kX1_bottomAt_ok 21 rfl) rfl ?_
        exact hret _ _ _ (by first | (rw [hr, show 16 - i = (16 - (i + 1)) + 1 by omega]; simp [fst, tpq, h1]; done) | (rw [hr, show 16 - i = 0 by omega]; rfl)) (dk kX1_bottomAt_ok 22 rfl)
      · skip
        refine lv_aload_n hx hb (dk kX1_bottomAt_ok 5 rfl) rfl (lv_at hl 0 rfl) ?_
        refine gf hx hb hts (fun w h => List.mem_cons_of_mem _ (acX1 w h)) hown hK hP hk0 f0 rfl 0 (by decide) (hts _ (List.mem_cons_of_mem _ (ac0 _ (List.mem_of_getElem? (i := 22) rfl)))) (fun _ h => h) rfl (dk kX1_bottomAt_ok 6 rfl) ?_
        refine lv_iload_n hx hb (dk kX1_bottomAt_ok 7 rfl) rfl (lv_at hl 2 rfl) ?_
        refine ald (j := i) hx hb hK hP hk1 f1 rfl (by omega) (by decide) (dk kX1_bottomAt_ok 8 rfl) ?_
        refine lv_iload_n hx hb (dk kX1_bottomAt_ok 9 rfl) rfl (lv_at hl 1 rfl) ?_
        refine lv_icmp_ne (tgt := 30) hx hb (dk kX1_bottomAt_ok 10 rfl) (by decide) (fun h2 => ?_) (fun h2 => ?_)
        · skip
          refine lv_iinc (v := nI (i + 1)) (lv' := [(2, .int (nI (i + 1))), (0, .ref (ad k)), (1, .int q)]) hx hb (dk kX1_bottomAt_ok 19 rfl) hl (k := 2) rfl (n_inc _) (by decide) rfl (fun ls hl => ?_)
          refine lv_goto (tgt := 2) hx hb (dk kX1_bottomAt_ok 20 rfl) (by decide) ?_
          exact ih2 (i + 1) (by omega) (by rw [hr, show 16 - i = (16 - (i + 1)) + 1 by omega]; simp [fst, tpq, h1, h2]) (by omega) ls (lv_sub hl [1, 2, 0] rfl)
        · skip
          refine lv_aload_n hx hb (dk kX1_bottomAt_ok 11 rfl) rfl (lv_at hl 0 rfl) ?_
          refine gf hx hb hts (fun w h => List.mem_cons_of_mem _ (acX1 w h)) hown hK hP hk0 f0 rfl 1 (by decide) (hts _ (List.mem_cons_of_mem _ (ac0 _ (List.mem_of_getElem? (i := 23) rfl)))) (fun _ h => h) rfl (dk kX1_bottomAt_ok 12 rfl) ?_
          refine lv_iload_n hx hb (dk kX1_bottomAt_ok 13 rfl) rfl (lv_at hl 2 rfl) ?_
          refine ald (j := i) hx hb hK hP hk2 f2 rfl (by omega) (by decide) (dk kX1_bottomAt_ok 14 rfl) ?_
          refine lv_iconst (v := -1) hx hb (dk kX1_bottomAt_ok 15 rfl) rfl ?_
          refine lv_icmp_ne (tgt := 30) hx hb (dk kX1_bottomAt_ok 16 rfl) (by decide) (fun h3 => ?_) (fun h3 => ?_)
          · skip
            refine lv_iinc (v := nI (i + 1)) (lv' := [(2, .int (nI (i + 1))), (0, .ref (ad k)), (1, .int q)]) hx hb (dk kX1_bottomAt_ok 19 rfl) hl (k := 2) rfl (n_inc _) (by decide) rfl (fun ls hl => ?_)
            refine lv_goto (tgt := 2) hx hb (dk kX1_bottomAt_ok 20 rfl) (by decide) ?_
            exact ih2 (i + 1) (by omega) (by rw [hr, show 16 - i = (16 - (i + 1)) + 1 by omega]; simp [fst, tpq, h1, h2, h3]) (by omega) ls (lv_sub hl [1, 2, 0] rfl)
          · skip
            refine lv_iload_n hx hb (dk kX1_bottomAt_ok 17 rfl) rfl (lv_at hl 2 rfl) ?_
            exact hret _ _ _ (by first | (rw [hr, show 16 - i = (16 - (i + 1)) + 1 by omega]; simp [fst, tpq, h1, h2, h3]; done) | (rw [hr, show 16 - i = 0 by omega]; rfl)) (dk kX1_bottomAt_ok 18 rfl)
  exact L2 _ 0 (by first | rfl | omega) (by first | rfl | omega) (Nat.lt_succ_self _) ls (lv_sub hl [1, 2, 0] rfl)
set_option maxRecDepth 100000 in
set_option maxHeartbeats 4000000 in
theorem tX1_placeOf (l : Launch) (D : va_G) (cI cQ cL : ClassId) (ad : Nat → Nat) (N : Nat) (F : Nat → va_E) (k : Nat) (hk : k + 3 < N) (c b v : Nat → Int32) (hM : matAt cI ad F k c b v) (x : Int32) (w : Nat) (hxw : x = nI w) (hw : w < 16) : MR l yX1_placeOf (Cond.code yX1_placeOf cX1_placeOf 5 (some .int) :: AW) ({ frames := 1, cells := 0, slots := 0, locals := 21 } : Room) D cI cQ cL ad N F [.ref (ad k), .int x] (.int (pls c b w)) := by
  refine mr_i (ty := .int) (by decide +kernel) rfl rfl rfl rfl (Nat.le_of_ble_eq_true rfl) (fun p e s m below meth cd Q ls hx hb hml hown hts hP hK hNW hret hl => ?_)
  have hown : s.vm.findClass RX1 = some m.cls := hown
  subst hxw
  obtain ⟨f0, f1, f2, f3⟩ := id hM
  have hk0 : k < N := by omega
  have hk1 : k + 1 < N := by omega
  have hk2 : k + 2 < N := by omega
  have hk3 : k + 3 < N := hk
  have hl : lv_has ls 5 [(0, .ref (ad k)), (1, .int (nI w))] := hl
  refine lv_aload_n hx hb (dk kX1_placeOf_ok 0 rfl) rfl (lv_at hl 0 rfl) ?_
  refine lv_iload_n hx hb (dk kX1_placeOf_ok 1 rfl) rfl (lv_at hl 1 rfl) ?_
  refine cvR (As := [.int (nI w)]) (rest := []) ⟨hx, hb, hml, hown, hts⟩ (tX1_isPotted l D cI cQ cL ad N F k hk c b v hM (nI w) w rfl (by omega)) (cwV9 1 hts mcX1_isPotted (ac2 _ (List.mem_of_getElem? (i := 0) rfl)) miX1_isPotted meX1_isPotted mini_RX1 rfl rfl hdX1_isPotted ⟨Nat.le_of_ble_eq_true rfl, Nat.le_of_ble_eq_true rfl⟩) hK hP hNW hk0 f0 rfl rfl hl.1 rfl (Nat.le_of_ble_eq_true rfl) (by decide) (dk kX1_placeOf_ok 2 rfl) ?_
  refine b_if_eq (tgt := 10) hx hb (dk kX1_placeOf_ok 3 rfl) (by decide) (fun h1 => ?_) (fun h1 => ?_)
  · skip
    refine lv_iconst (v := nI 0) hx hb (dk kX1_placeOf_ok 6 rfl) rfl ?_
    refine lv_istore_n (lv' := [(2, .int (nI 0)), (0, .ref (ad k)), (1, .int (nI w))]) hx hb (dk kX1_placeOf_ok 7 rfl) rfl hl (by decide) rfl (fun ls hl => ?_)
    refine lv_aload_n hx hb (dk kX1_placeOf_ok 8 rfl) rfl (lv_at hl 1 rfl) ?_
    refine gf hx hb hts (fun w h => List.mem_cons_of_mem _ (acX1 w h)) hown hK hP hk0 f0 rfl 1 (by decide) (hts _ (List.mem_cons_of_mem _ (ac0 _ (List.mem_of_getElem? (i := 23) rfl)))) (fun _ h => h) rfl (dk kX1_placeOf_ok 9 rfl) ?_
    refine lv_iload_n hx hb (dk kX1_placeOf_ok 10 rfl) rfl (lv_at hl 2 rfl) ?_
    refine ald (j := w) hx hb hK hP hk2 f2 rfl (by omega) (by decide) (dk kX1_placeOf_ok 11 rfl) ?_
    refine lv_istore_n (lv' := [(3, .int (b w)), (2, .int (nI 0)), (0, .ref (ad k)), (1, .int (nI w))]) hx hb (dk kX1_placeOf_ok 12 rfl) rfl hl (by decide) rfl (fun ls hl => ?_)
    refine lv_iconst (v := nI 0) hx hb (dk kX1_placeOf_ok 13 rfl) rfl ?_
    refine lv_istore (lv' := [(4, .int (nI 0)), (3, .int (b w)), (2, .int (nI 0)), (0, .ref (ad k)), (1, .int (nI w))]) hx hb (dk kX1_placeOf_ok 14 rfl) hl (by decide) rfl (fun ls hl => ?_)
    have L22 : ∀ (fu : Nat) (i a : Nat) (x : Int32), i ≤ 16 → a ≤ i → plc b 16 (b w) = a + plc b (16 - i) x → 16 - i < fu → ∀ ls : Array Slot, lv_has ls 5 [(0, .ref (ad k)), (1, .int (nI w)), (2, .int (nI a)), (3, .int x), (4, .int (nI i))] → W p l e ({ frames := 1, cells := 0, slots := 0, locals := 21 } : Room) s m ([.ref (ad k), .int (nI w)] : List Value).toArray below meth cd s.heap [] 0 0 Q (F0 m 22 ls []) := by
      intro fu
      induction fu with
      | zero => intros; omega
      | succ fu ih22 =>
        intro i a x hi ha hr hm22 ls hl
        refine lv_iload hx hb (dk kX1_placeOf_ok 15 rfl) (lv_at hl 4 rfl) ?_
        refine lv_bipush (v := nI 16) hx hb (dk kX1_placeOf_ok 16 rfl) rfl ?_
        refine n_icmp_ge (tgt := 52) hx hb (by omega) (by decide) (dk kX1_placeOf_ok 17 rfl) (by decide) (fun h2 => ?_) (fun h2 => ?_)
        · skip
          refine lv_iload_n hx hb (dk kX1_placeOf_ok 29 rfl) rfl (lv_at hl 2 rfl) ?_
          exact hret _ _ _ (by first | (rw [pls, if_neg (by simpa [pot] using h1), hr, show 16 - i = (16 - (i + 1)) + 1 by omega]; simp [plc, h1, h2]; done) | (rw [pls, if_neg (by simpa [pot] using h1), hr, show 16 - i = 0 by omega]; rfl) | (rw [pls, if_pos (by simpa [pot] using h1)])) (dk kX1_placeOf_ok 30 rfl)
        · skip
          refine lv_iload_n hx hb (dk kX1_placeOf_ok 18 rfl) rfl (lv_at hl 3 rfl) ?_
          refine csPN (As := [.int x]) (rest := []) ⟨hx, hb, hml, hown, hts⟩ (tX5_isWink l x) (cwN9 1 hts mcX5_isWink (nm7 hNW) mini_RX5 rfl rfl hdX5_isWink ⟨Nat.le_of_ble_eq_true rfl, Nat.le_of_ble_eq_true rfl⟩) (hts _ (List.mem_cons_of_mem _ msX5_isWink)) rfl hl.1 rfl (Nat.le_of_ble_eq_true rfl) (by decide) (dk kX1_placeOf_ok 19 rfl) ?_
          refine b_if_eq (tgt := 52) hx hb (dk kX1_placeOf_ok 20 rfl) (by decide) (fun h3 => ?_) (fun h3 => ?_)
          · skip
            refine lv_iload_n hx hb (dk kX1_placeOf_ok 29 rfl) rfl (lv_at hl 2 rfl) ?_
            exact hret _ _ _ (by first | (rw [pls, if_neg (by simpa [pot] using h1), hr, show 16 - i = (16 - (i + 1)) + 1 by omega]; simp [plc, h1, h2, h3]; done) | (rw [pls, if_neg (by simpa [pot] using h1), hr, show 16 - i = 0 by omega]; rfl) | (rw [pls, if_pos (by simpa [pot] using h1)])) (dk kX1_placeOf_ok 30 rfl)
          · skip
            refine lv_iinc (v := nI (a + 1)) (lv' := [(2, .int (nI (a + 1))), (0, .ref (ad k)), (1, .int (nI w)), (3, .int x), (4, .int (nI i))]) hx hb (dk kX1_placeOf_ok 21 rfl) hl (k := 2) rfl (n_inc _) (by decide) rfl (fun ls hl => ?_)
            refine lv_aload_n hx hb (dk kX1_placeOf_ok 22 rfl) rfl (lv_at hl 1 rfl) ?_
            refine gf hx hb hts (fun w h => List.mem_cons_of_mem _ (acX1 w h)) hown hK hP hk0 f0 rfl 1 (by decide) (hts _ (List.mem_cons_of_mem _ (ac0 _ (List.mem_of_getElem? (i := 23) rfl)))) (fun _ h => h) rfl (dk kX1_placeOf_ok 23 rfl) ?_
            refine lv_iload_n hx hb (dk kX1_placeOf_ok 24 rfl) rfl (lv_at hl 3 rfl) ?_
            refine ald (j := (ix x)) hx hb hK hP hk2 f2 (wk_eq h3) (wk_lt h3) (by decide) (dk kX1_placeOf_ok 25 rfl) ?_
            refine lv_istore_n (lv' := [(3, .int (b (ix x))), (2, .int (nI (a + 1))), (0, .ref (ad k)), (1, .int (nI w)), (4, .int (nI i))]) hx hb (dk kX1_placeOf_ok 26 rfl) rfl hl (by decide) rfl (fun ls hl => ?_)
            refine lv_iinc (v := nI (i + 1)) (lv' := [(4, .int (nI (i + 1))), (3, .int (b (ix x))), (2, .int (nI (a + 1))), (0, .ref (ad k)), (1, .int (nI w))]) hx hb (dk kX1_placeOf_ok 27 rfl) hl (k := 4) rfl (n_inc _) (by decide) rfl (fun ls hl => ?_)
            refine lv_goto (tgt := 22) hx hb (dk kX1_placeOf_ok 28 rfl) (by decide) ?_
            exact ih22 (i + 1) (a + 1) (b (ix x)) (by omega) (by omega) (by rw [hr, show 16 - i = (16 - (i + 1)) + 1 by omega]; simp only [plc, h1, h2, h3, if_true]; omega) (by omega) ls (lv_sub hl [3, 4, 2, 1, 0] rfl)
    exact L22 _ 0 0 (b w) (by first | omega | (rw [Nat.zero_add])) (by first | omega | (rw [Nat.zero_add])) (by first | omega | (rw [Nat.zero_add])) (Nat.lt_succ_self _) ls (lv_sub hl [3, 4, 2, 1, 0] rfl)
  · skip
    refine lv_iconst (v := -1) hx hb (dk kX1_placeOf_ok 4 rfl) rfl ?_
    exact hret _ _ _ (by first | (rw [pls, if_neg (by simpa [pot] using h1), hr, show 16 - i = (16 - (i + 1)) + 1 by omega]; simp [plc, h1]; done) | (rw [pls, if_neg (by simpa [pot] using h1), hr, show 16 - i = 0 by omega]; rfl) | (rw [pls, if_pos (by simpa [pot] using h1)])) (dk kX1_placeOf_ok 5 rfl)
set_option maxRecDepth 100000 in
set_option maxHeartbeats 4000000 in
theorem tX1_lowestOfUpper (l : Launch) (D : va_G) (cI cQ cL : ClassId) (ad : Nat → Nat) (N : Nat) (F : Nat → va_E) (k : Nat) (hk : k + 3 < N) (c b v : Nat → Int32) (hM : matAt cI ad F k c b v) (q x : Int32) (n : Nat) (hxn : x = nI n) (hn1 : 1 ≤ n) (hn : n < 2 ^ 31) : MR l yX1_lowestOfUpper (Cond.code yX1_lowestOfUpper cX1_lowestOfUpper 5 (some .int) :: AW) ({ frames := 1, cells := 0, slots := 0, locals := 22 } : Room) D cI cQ cL ad N F [.ref (ad k), .int q, .int x] (.int (low c b v q n)) := by
  refine mr_i (ty := .int) (by decide +kernel) rfl rfl rfl rfl (Nat.le_of_ble_eq_true rfl) (fun p e s m below meth cd Q ls hx hb hml hown hts hP hK hNW hret hl => ?_)
  have hown : s.vm.findClass RX1 = some m.cls := hown
  subst hxn
  obtain ⟨f0, f1, f2, f3⟩ := id hM
  have hk0 : k < N := by omega
  have hk1 : k + 1 < N := by omega
  have hk2 : k + 2 < N := by omega
  have hk3 : k + 3 < N := hk
  have hl : lv_has ls 5 [(0, .ref (ad k)), (1, .int q), (2, .int (nI n))] := hl
  refine lv_aload_n hx hb (dk kX1_lowestOfUpper_ok 0 rfl) rfl (lv_at hl 0 rfl) ?_
  refine lv_iload_n hx hb (dk kX1_lowestOfUpper_ok 1 rfl) rfl (lv_at hl 1 rfl) ?_
  refine cvR (As := [.int q]) (rest := []) ⟨hx, hb, hml, hown, hts⟩ (tX1_topAt l D cI cQ cL ad N F k hk c b v hM q) (cwV9 1 hts mcX1_topAt (ac1 _ (List.mem_of_getElem? (i := 20) rfl)) miX1_topAt meX1_topAt mini_RX1 rfl rfl hdX1_topAt ⟨Nat.le_of_ble_eq_true rfl, Nat.le_of_ble_eq_true rfl⟩) hK hP hNW hk0 f0 rfl rfl hl.1 rfl (Nat.le_of_ble_eq_true rfl) (by decide) (dk kX1_lowestOfUpper_ok 2 rfl) ?_
  refine lv_istore_n (lv' := [(3, .int (top c v q)), (0, .ref (ad k)), (1, .int q), (2, .int (nI n))]) hx hb (dk kX1_lowestOfUpper_ok 3 rfl) rfl hl (by decide) rfl (fun ls hl => ?_)
  refine lv_iconst (v := nI 1) hx hb (dk kX1_lowestOfUpper_ok 4 rfl) rfl ?_
  refine lv_istore (lv' := [(4, .int (nI 1)), (3, .int (top c v q)), (0, .ref (ad k)), (1, .int q), (2, .int (nI n))]) hx hb (dk kX1_lowestOfUpper_ok 5 rfl) hl (by decide) rfl (fun ls hl => ?_)
  have L9 : ∀ (fu : Nat) (i : Nat) (x : Int32), 1 ≤ i ∧ i ≤ n → low c b v q n = lou b (n - i) x → n - i < fu → ∀ ls : Array Slot, lv_has ls 5 [(0, .ref (ad k)), (1, .int q), (2, .int (nI n)), (3, .int x), (4, .int (nI i))] → W p l e ({ frames := 1, cells := 0, slots := 0, locals := 22 } : Room) s m ([.ref (ad k), .int q, .int (nI n)] : List Value).toArray below meth cd s.heap [] 0 0 Q (F0 m 9 ls []) := by
    intro fu
    induction fu with
    | zero => intros; omega
    | succ fu ih9 =>
      intro i x hi hr hm9 ls hl
      refine lv_iload hx hb (dk kX1_lowestOfUpper_ok 6 rfl) (lv_at hl 4 rfl) ?_
      refine lv_iload_n hx hb (dk kX1_lowestOfUpper_ok 7 rfl) rfl (lv_at hl 2 rfl) ?_
      refine n_icmp_ge (tgt := 35) hx hb (by omega) (by omega) (dk kX1_lowestOfUpper_ok 8 rfl) (by decide) (fun h1 => ?_) (fun h1 => ?_)
      · skip
        refine lv_iload_n hx hb (dk kX1_lowestOfUpper_ok 19 rfl) rfl (lv_at hl 3 rfl) ?_
        exact hret _ _ _ (by first | (rw [hr, show n - i = (n - (i + 1)) + 1 by omega]; simp [lou, h1]; done) | (rw [hr, show n - i = 0 by omega]; rfl)) (dk kX1_lowestOfUpper_ok 20 rfl)
      · skip
        refine lv_iload_n hx hb (dk kX1_lowestOfUpper_ok 9 rfl) rfl (lv_at hl 3 rfl) ?_
        refine csPN (As := [.int x]) (rest := []) ⟨hx, hb, hml, hown, hts⟩ (tX5_isWink l x) (cwN9 1 hts mcX5_isWink (nm7 hNW) mini_RX5 rfl rfl hdX5_isWink ⟨Nat.le_of_ble_eq_true rfl, Nat.le_of_ble_eq_true rfl⟩) (hts _ (List.mem_cons_of_mem _ msX5_isWink)) rfl hl.1 rfl (Nat.le_of_ble_eq_true rfl) (by decide) (dk kX1_lowestOfUpper_ok 10 rfl) ?_
        refine b_if_eq (tgt := 35) hx hb (dk kX1_lowestOfUpper_ok 11 rfl) (by decide) (fun h2 => ?_) (fun h2 => ?_)
        · skip
          refine lv_iload_n hx hb (dk kX1_lowestOfUpper_ok 19 rfl) rfl (lv_at hl 3 rfl) ?_
          exact hret _ _ _ (by first | (rw [hr, show n - i = (n - (i + 1)) + 1 by omega]; simp [lou, h1, h2]; done) | (rw [hr, show n - i = 0 by omega]; rfl)) (dk kX1_lowestOfUpper_ok 20 rfl)
        · skip
          refine lv_aload_n hx hb (dk kX1_lowestOfUpper_ok 12 rfl) rfl (lv_at hl 0 rfl) ?_
          refine gf hx hb hts (fun w h => List.mem_cons_of_mem _ (acX1 w h)) hown hK hP hk0 f0 rfl 1 (by decide) (hts _ (List.mem_cons_of_mem _ (ac0 _ (List.mem_of_getElem? (i := 23) rfl)))) (fun _ h => h) rfl (dk kX1_lowestOfUpper_ok 13 rfl) ?_
          refine lv_iload_n hx hb (dk kX1_lowestOfUpper_ok 14 rfl) rfl (lv_at hl 3 rfl) ?_
          refine ald (j := (ix x)) hx hb hK hP hk2 f2 (wk_eq h2) (wk_lt h2) (by decide) (dk kX1_lowestOfUpper_ok 15 rfl) ?_
          refine lv_istore_n (lv' := [(3, .int (b (ix x))), (0, .ref (ad k)), (1, .int q), (2, .int (nI n)), (4, .int (nI i))]) hx hb (dk kX1_lowestOfUpper_ok 16 rfl) rfl hl (by decide) rfl (fun ls hl => ?_)
          refine lv_iinc (v := nI (i + 1)) (lv' := [(4, .int (nI (i + 1))), (3, .int (b (ix x))), (0, .ref (ad k)), (1, .int q), (2, .int (nI n))]) hx hb (dk kX1_lowestOfUpper_ok 17 rfl) hl (k := 4) rfl (n_inc _) (by decide) rfl (fun ls hl => ?_)
          refine lv_goto (tgt := 9) hx hb (dk kX1_lowestOfUpper_ok 18 rfl) (by decide) ?_
          exact ih9 (i + 1) (b (ix x)) (by omega) (by rw [hr, show n - i = (n - (i + 1)) + 1 by omega]; simp [lou, h1, h2]) (by omega) ls (lv_sub hl [2, 3, 4, 1, 0] rfl)
  exact L9 _ 1 (top c v q) (by first | omega | rfl) (by first | omega | rfl) (Nat.lt_succ_self _) ls (lv_sub hl [2, 3, 4, 1, 0] rfl)
set_option maxRecDepth 100000 in
set_option maxHeartbeats 4000000 in
theorem tX1_heightAt (l : Launch) (D : va_G) (cI cQ cL : ClassId) (ad : Nat → Nat) (N : Nat) (F : Nat → va_E) (k : Nat) (hk : k + 3 < N) (c b v : Nat → Int32) (hM : matAt cI ad F k c b v) (q : Int32) : MR l yX1_heightAt (Cond.code yX1_heightAt cX1_heightAt 4 (some .int) :: AW) ({ frames := 0, cells := 0, slots := 0, locals := 0 } : Room) D cI cQ cL ad N F [.ref (ad k), .int q] (.int (nI (hgt c q))) := by
  refine mr_i (ty := .int) (by decide +kernel) rfl rfl rfl rfl (Nat.le_of_ble_eq_true rfl) (fun p e s m below meth cd Q ls hx hb hml hown hts hP hK hNW hret hl => ?_)
  have hown : s.vm.findClass RX1 = some m.cls := hown
  obtain ⟨f0, f1, f2, f3⟩ := id hM
  have hk0 : k < N := by omega
  have hk1 : k + 1 < N := by omega
  have hk2 : k + 2 < N := by omega
  have hk3 : k + 3 < N := hk
  have hl : lv_has ls 4 [(0, .ref (ad k)), (1, .int q)] := hl
  refine lv_iconst (v := nI 0) hx hb (dk kX1_heightAt_ok 0 rfl) rfl ?_
  refine lv_istore_n (lv' := [(2, .int (nI 0)), (0, .ref (ad k)), (1, .int q)]) hx hb (dk kX1_heightAt_ok 1 rfl) rfl hl (by decide) rfl (fun ls hl => ?_)
  refine lv_iconst (v := nI 0) hx hb (dk kX1_heightAt_ok 2 rfl) rfl ?_
  refine lv_istore_n (lv' := [(3, .int (nI 0)), (2, .int (nI 0)), (0, .ref (ad k)), (1, .int q)]) hx hb (dk kX1_heightAt_ok 3 rfl) rfl hl (by decide) rfl (fun ls hl => ?_)
  have L4 : ∀ (fu : Nat) (i : Nat) (x2 : Int32), x2 = nI (cnt (fun i => decide (c i = q)) i) → i ≤ 16 → 16 - i < fu → ∀ ls : Array Slot, lv_has ls 4 [(0, .ref (ad k)), (1, .int q), (2, .int x2), (3, .int (nI i))] → W p l e ({ frames := 0, cells := 0, slots := 0, locals := 0 } : Room) s m ([.ref (ad k), .int q] : List Value).toArray below meth cd s.heap [] 0 0 Q (F0 m 4 ls []) := by
    intro fu
    induction fu with
    | zero => intros; omega
    | succ fu ih4 =>
      intro i x2 ex2 hi hm4 ls hl
      subst ex2
      refine lv_iload_n hx hb (dk kX1_heightAt_ok 4 rfl) rfl (lv_at hl 3 rfl) ?_
      refine lv_bipush (v := nI 16) hx hb (dk kX1_heightAt_ok 5 rfl) rfl ?_
      refine n_icmp_ge (tgt := 29) hx hb (by omega) (by decide) (dk kX1_heightAt_ok 6 rfl) (by decide) (fun h1 => ?_) (fun h1 => ?_)
      · skip
        refine lv_iload_n hx hb (dk kX1_heightAt_ok 16 rfl) rfl (lv_at hl 2 rfl) ?_
        exact hret _ _ _ (by rw [show i = 16 by omega] <;> rfl) (dk kX1_heightAt_ok 17 rfl)
      · skip
        refine lv_aload_n hx hb (dk kX1_heightAt_ok 7 rfl) rfl (lv_at hl 0 rfl) ?_
        refine gf hx hb hts (fun w h => List.mem_cons_of_mem _ (acX1 w h)) hown hK hP hk0 f0 rfl 0 (by decide) (hts _ (List.mem_cons_of_mem _ (ac0 _ (List.mem_of_getElem? (i := 22) rfl)))) (fun _ h => h) rfl (dk kX1_heightAt_ok 8 rfl) ?_
        refine lv_iload_n hx hb (dk kX1_heightAt_ok 9 rfl) rfl (lv_at hl 3 rfl) ?_
        refine ald (j := i) hx hb hK hP hk1 f1 rfl (by omega) (by decide) (dk kX1_heightAt_ok 10 rfl) ?_
        refine lv_iload_n hx hb (dk kX1_heightAt_ok 11 rfl) rfl (lv_at hl 1 rfl) ?_
        refine lv_icmp_ne (tgt := 23) hx hb (dk kX1_heightAt_ok 12 rfl) (by decide) (fun h2 => ?_) (fun h2 => ?_)
        · skip
          refine lv_iinc (v := nI (i + 1)) (lv' := [(3, .int (nI (i + 1))), (0, .ref (ad k)), (1, .int q), (2, .int (nI (cnt (fun i => decide (c i = q)) i)))]) hx hb (dk kX1_heightAt_ok 14 rfl) hl (k := 3) rfl (n_inc _) (by decide) rfl (fun ls hl => ?_)
          refine lv_goto (tgt := 4) hx hb (dk kX1_heightAt_ok 15 rfl) (by decide) ?_
          exact ih4 (i + 1) _ (by simp [cnt, h1, h2]) (by omega) (by omega) ls (lv_sub hl [1, 2, 3, 0] rfl)
        · skip
          refine lv_iinc (v := nI ((cnt (fun i => decide (c i = q)) i) + 1)) (lv' := [(2, .int (nI ((cnt (fun i => decide (c i = q)) i) + 1))), (0, .ref (ad k)), (1, .int q), (3, .int (nI i))]) hx hb (dk kX1_heightAt_ok 13 rfl) hl (k := 2) rfl (n_inc _) (by decide) rfl (fun ls hl => ?_)
          refine lv_iinc (v := nI (i + 1)) (lv' := [(3, .int (nI (i + 1))), (2, .int (nI ((cnt (fun i => decide (c i = q)) i) + 1))), (0, .ref (ad k)), (1, .int q)]) hx hb (dk kX1_heightAt_ok 14 rfl) hl (k := 3) rfl (n_inc _) (by decide) rfl (fun ls hl => ?_)
          refine lv_goto (tgt := 4) hx hb (dk kX1_heightAt_ok 15 rfl) (by decide) ?_
          exact ih4 (i + 1) _ (by simp [cnt, h1, h2]) (by omega) (by omega) ls (lv_sub hl [2, 3, 1, 0] rfl)
  exact L4 _ 0 _ (by first | rfl | omega) (by first | rfl | omega) (Nat.lt_succ_self _) ls (lv_sub hl [2, 3, 1, 0] rfl)
set_option maxRecDepth 100000 in
set_option maxHeartbeats 4000000 in
theorem tX1_coloursAt (l : Launch) (D : va_G) (cI cQ cL : ClassId) (ad : Nat → Nat) (N : Nat) (F : Nat → va_E) (k : Nat) (hk : k + 3 < N) (c b v : Nat → Int32) (hM : matAt cI ad F k c b v) (q : Int32) : MR l yX1_coloursAt (Cond.code yX1_coloursAt cX1_coloursAt 4 (some .int) :: AW) ({ frames := 1, cells := 0, slots := 0, locals := 20 } : Room) D cI cQ cL ad N F [.ref (ad k), .int q] (.int (msk (fun i => decide (c i = q)) 16)) := by
  refine mr_i (ty := .int) (by decide +kernel) rfl rfl rfl rfl (Nat.le_of_ble_eq_true rfl) (fun p e s m below meth cd Q ls hx hb hml hown hts hP hK hNW hret hl => ?_)
  have hown : s.vm.findClass RX1 = some m.cls := hown
  obtain ⟨f0, f1, f2, f3⟩ := id hM
  have hk0 : k < N := by omega
  have hk1 : k + 1 < N := by omega
  have hk2 : k + 2 < N := by omega
  have hk3 : k + 3 < N := hk
  have hl : lv_has ls 4 [(0, .ref (ad k)), (1, .int q)] := hl
  refine lv_iconst (v := nI 0) hx hb (dk kX1_coloursAt_ok 0 rfl) rfl ?_
  refine lv_istore_n (lv' := [(2, .int (nI 0)), (0, .ref (ad k)), (1, .int q)]) hx hb (dk kX1_coloursAt_ok 1 rfl) rfl hl (by decide) rfl (fun ls hl => ?_)
  refine lv_iconst (v := nI 0) hx hb (dk kX1_coloursAt_ok 2 rfl) rfl ?_
  refine lv_istore_n (lv' := [(3, .int (nI 0)), (2, .int (nI 0)), (0, .ref (ad k)), (1, .int q)]) hx hb (dk kX1_coloursAt_ok 3 rfl) rfl hl (by decide) rfl (fun ls hl => ?_)
  have L4 : ∀ (fu : Nat) (i : Nat) (x2 : Int32), x2 = msk (fun i => decide (c i = q)) i → i ≤ 16 → 16 - i < fu → ∀ ls : Array Slot, lv_has ls 4 [(0, .ref (ad k)), (1, .int q), (2, .int x2), (3, .int (nI i))] → W p l e ({ frames := 1, cells := 0, slots := 0, locals := 20 } : Room) s m ([.ref (ad k), .int q] : List Value).toArray below meth cd s.heap [] 0 0 Q (F0 m 4 ls []) := by
    intro fu
    induction fu with
    | zero => intros; omega
    | succ fu ih4 =>
      intro i x2 ex2 hi hm4 ls hl
      subst ex2
      refine lv_iload_n hx hb (dk kX1_coloursAt_ok 4 rfl) rfl (lv_at hl 3 rfl) ?_
      refine lv_bipush (v := nI 16) hx hb (dk kX1_coloursAt_ok 5 rfl) rfl ?_
      refine n_icmp_ge (tgt := 35) hx hb (by omega) (by decide) (dk kX1_coloursAt_ok 6 rfl) (by decide) (fun h1 => ?_) (fun h1 => ?_)
      · skip
        refine lv_iload_n hx hb (dk kX1_coloursAt_ok 22 rfl) rfl (lv_at hl 2 rfl) ?_
        exact hret _ _ _ (by rw [show i = 16 by omega] <;> rfl) (dk kX1_coloursAt_ok 23 rfl)
      · skip
        refine lv_aload_n hx hb (dk kX1_coloursAt_ok 7 rfl) rfl (lv_at hl 0 rfl) ?_
        refine gf hx hb hts (fun w h => List.mem_cons_of_mem _ (acX1 w h)) hown hK hP hk0 f0 rfl 0 (by decide) (hts _ (List.mem_cons_of_mem _ (ac0 _ (List.mem_of_getElem? (i := 22) rfl)))) (fun _ h => h) rfl (dk kX1_coloursAt_ok 8 rfl) ?_
        refine lv_iload_n hx hb (dk kX1_coloursAt_ok 9 rfl) rfl (lv_at hl 3 rfl) ?_
        refine ald (j := i) hx hb hK hP hk1 f1 rfl (by omega) (by decide) (dk kX1_coloursAt_ok 10 rfl) ?_
        refine lv_iload_n hx hb (dk kX1_coloursAt_ok 11 rfl) rfl (lv_at hl 1 rfl) ?_
        refine lv_icmp_ne (tgt := 29) hx hb (dk kX1_coloursAt_ok 12 rfl) (by decide) (fun h2 => ?_) (fun h2 => ?_)
        · skip
          refine lv_iinc (v := nI (i + 1)) (lv' := [(3, .int (nI (i + 1))), (0, .ref (ad k)), (1, .int q), (2, .int (msk (fun i => decide (c i = q)) i))]) hx hb (dk kX1_coloursAt_ok 20 rfl) hl (k := 3) rfl (n_inc _) (by decide) rfl (fun ls hl => ?_)
          refine lv_goto (tgt := 4) hx hb (dk kX1_coloursAt_ok 21 rfl) (by decide) ?_
          exact ih4 (i + 1) _ (by simp [msk, h1, h2]) (by omega) (by omega) ls (lv_sub hl [1, 2, 3, 0] rfl)
        · skip
          refine lv_iload_n hx hb (dk kX1_coloursAt_ok 13 rfl) rfl (lv_at hl 2 rfl) ?_
          refine lv_iconst (v := nI 1) hx hb (dk kX1_coloursAt_ok 14 rfl) rfl ?_
          refine lv_iload_n hx hb (dk kX1_coloursAt_ok 15 rfl) rfl (lv_at hl 3 rfl) ?_
          refine csPN (As := [.int (nI i)]) (rest := [.int (nI 1), .int (msk (fun i => decide (c i = q)) i)]) ⟨hx, hb, hml, hown, hts⟩ (tX5_colourOf l (nI i) i rfl (by omega)) (cwN9 1 hts mcX5_colourOf (nm1 hNW) mini_RX5 rfl rfl hdX5_colourOf ⟨Nat.le_of_ble_eq_true rfl, Nat.le_of_ble_eq_true rfl⟩) (hts _ (List.mem_cons_of_mem _ msX5_colourOf)) rfl hl.1 rfl (Nat.le_of_ble_eq_true rfl) (by decide) (dk kX1_coloursAt_ok 16 rfl) ?_
          refine lv_ishl hx hb (dk kX1_coloursAt_ok 17 rfl) ?_
          refine lv_ior hx hb (dk kX1_coloursAt_ok 18 rfl) ?_
          refine lv_istore_n (lv' := [(2, .int ((msk (fun i => decide (c i = q)) i) ||| ((nI 1) <<< ((nI (i / 4)) &&& 31)))), (0, .ref (ad k)), (1, .int q), (3, .int (nI i))]) hx hb (dk kX1_coloursAt_ok 19 rfl) rfl hl (by decide) rfl (fun ls hl => ?_)
          refine lv_iinc (v := nI (i + 1)) (lv' := [(3, .int (nI (i + 1))), (2, .int ((msk (fun i => decide (c i = q)) i) ||| ((nI 1) <<< ((nI (i / 4)) &&& 31)))), (0, .ref (ad k)), (1, .int q)]) hx hb (dk kX1_coloursAt_ok 20 rfl) hl (k := 3) rfl (n_inc _) (by decide) rfl (fun ls hl => ?_)
          refine lv_goto (tgt := 4) hx hb (dk kX1_coloursAt_ok 21 rfl) (by decide) ?_
          exact ih4 (i + 1) _ (by simp [msk, h1, h2]) (by omega) (by omega) ls (lv_sub hl [2, 3, 1, 0] rfl)
  exact L4 _ 0 _ (by first | rfl | omega) (by first | rfl | omega) (Nat.lt_succ_self _) ls (lv_sub hl [2, 3, 1, 0] rfl)
set_option maxRecDepth 100000 in
set_option maxHeartbeats 4000000 in
theorem tX1_isBottom (l : Launch) (D : va_G) (cI cQ cL : ClassId) (ad : Nat → Nat) (N : Nat) (F : Nat → va_E) (k : Nat) (hk : k + 3 < N) (c b v : Nat → Int32) (hM : matAt cI ad F k c b v) (x : Int32) (w : Nat) (hxw : x = nI w) (hw : w < 16) : MR l yX1_isBottom (Cond.code yX1_isBottom cX1_isBottom 2 (some .boolean) :: AW) ({ frames := 0, cells := 0, slots := 0, locals := 0 } : Room) D cI cQ cL ad N F [.ref (ad k), .int x] (.int (bI (bot c b w))) := by
  refine mr_i (ty := .boolean) (by decide +kernel) rfl rfl rfl (bI_nar _) (Nat.le_of_ble_eq_true rfl) (fun p e s m below meth cd Q ls hx hb hml hown hts hP hK hNW hret hl => ?_)
  have hown : s.vm.findClass RX1 = some m.cls := hown
  subst hxw
  obtain ⟨f0, f1, f2, f3⟩ := id hM
  have hk0 : k < N := by omega
  have hk1 : k + 1 < N := by omega
  have hk2 : k + 2 < N := by omega
  have hk3 : k + 3 < N := hk
  have hl : lv_has ls 2 [(0, .ref (ad k)), (1, .int (nI w))] := hl
  refine lv_aload_n hx hb (dk kX1_isBottom_ok 0 rfl) rfl (lv_at hl 0 rfl) ?_
  refine gf hx hb hts (fun w h => List.mem_cons_of_mem _ (acX1 w h)) hown hK hP hk0 f0 rfl 0 (by decide) (hts _ (List.mem_cons_of_mem _ (ac0 _ (List.mem_of_getElem? (i := 22) rfl)))) (fun _ h => h) rfl (dk kX1_isBottom_ok 1 rfl) ?_
  refine lv_iload_n hx hb (dk kX1_isBottom_ok 2 rfl) rfl (lv_at hl 1 rfl) ?_
  refine ald (j := w) hx hb hK hP hk1 f1 rfl (by omega) (by decide) (dk kX1_isBottom_ok 3 rfl) ?_
  refine lv_iconst (v := -1) hx hb (dk kX1_isBottom_ok 4 rfl) rfl ?_
  refine lv_icmp_eq (tgt := 24) hx hb (dk kX1_isBottom_ok 5 rfl) (by decide) (fun h1 => ?_) (fun h1 => ?_)
  · skip
    refine lv_iconst (v := nI 0) hx hb (dk kX1_isBottom_ok 14 rfl) rfl ?_
    exact hret _ _ _ (by simp [bot, h1, bI]) (dk kX1_isBottom_ok 15 rfl)
  · skip
    refine lv_aload_n hx hb (dk kX1_isBottom_ok 6 rfl) rfl (lv_at hl 0 rfl) ?_
    refine gf hx hb hts (fun w h => List.mem_cons_of_mem _ (acX1 w h)) hown hK hP hk0 f0 rfl 1 (by decide) (hts _ (List.mem_cons_of_mem _ (ac0 _ (List.mem_of_getElem? (i := 23) rfl)))) (fun _ h => h) rfl (dk kX1_isBottom_ok 7 rfl) ?_
    refine lv_iload_n hx hb (dk kX1_isBottom_ok 8 rfl) rfl (lv_at hl 1 rfl) ?_
    refine ald (j := w) hx hb hK hP hk2 f2 rfl (by omega) (by decide) (dk kX1_isBottom_ok 9 rfl) ?_
    refine lv_iconst (v := -1) hx hb (dk kX1_isBottom_ok 10 rfl) rfl ?_
    refine lv_icmp_ne (tgt := 24) hx hb (dk kX1_isBottom_ok 11 rfl) (by decide) (fun h2 => ?_) (fun h2 => ?_)
    · skip
      refine lv_iconst (v := nI 0) hx hb (dk kX1_isBottom_ok 14 rfl) rfl ?_
      exact hret _ _ _ (by simp [bot, h1, h2, bI]) (dk kX1_isBottom_ok 15 rfl)
    · skip
      refine lv_iconst (v := nI 1) hx hb (dk kX1_isBottom_ok 12 rfl) rfl ?_
      refine lv_goto (tgt := 25) hx hb (dk kX1_isBottom_ok 13 rfl) (by decide) ?_
      exact hret _ _ _ (by simp [bot, h1, h2, bI]) (dk kX1_isBottom_ok 15 rfl)
set_option maxRecDepth 100000 in
set_option maxHeartbeats 4000000 in
theorem tX1_piles (l : Launch) (D : va_G) (cI cQ cL : ClassId) (ad : Nat → Nat) (N : Nat) (F : Nat → va_E) (k : Nat) (hk : k + 3 < N) (c b v : Nat → Int32) (hM : matAt cI ad F k c b v) : MR l yX1_piles (Cond.code yX1_piles cX1_piles 3 (some .int) :: AW) ({ frames := 1, cells := 0, slots := 0, locals := 21 } : Room) D cI cQ cL ad N F [.ref (ad k)] (.int (nI (cnt (bot c b) 16))) := by
  refine mr_i (ty := .int) (by decide +kernel) rfl rfl rfl rfl (Nat.le_of_ble_eq_true rfl) (fun p e s m below meth cd Q ls hx hb hml hown hts hP hK hNW hret hl => ?_)
  have hown : s.vm.findClass RX1 = some m.cls := hown
  obtain ⟨f0, f1, f2, f3⟩ := id hM
  have hk0 : k < N := by omega
  have hk1 : k + 1 < N := by omega
  have hk2 : k + 2 < N := by omega
  have hk3 : k + 3 < N := hk
  have hl : lv_has ls 3 [(0, .ref (ad k))] := hl
  refine lv_iconst (v := nI 0) hx hb (dk kX1_piles_ok 0 rfl) rfl ?_
  refine lv_istore_n (lv' := [(1, .int (nI 0)), (0, .ref (ad k))]) hx hb (dk kX1_piles_ok 1 rfl) rfl hl (by decide) rfl (fun ls hl => ?_)
  refine lv_iconst (v := nI 0) hx hb (dk kX1_piles_ok 2 rfl) rfl ?_
  refine lv_istore_n (lv' := [(2, .int (nI 0)), (1, .int (nI 0)), (0, .ref (ad k))]) hx hb (dk kX1_piles_ok 3 rfl) rfl hl (by decide) rfl (fun ls hl => ?_)
  have L4 : ∀ (fu : Nat) (i : Nat) (x1 : Int32), x1 = nI (cnt (bot c b) i) → i ≤ 16 → 16 - i < fu → ∀ ls : Array Slot, lv_has ls 3 [(0, .ref (ad k)), (1, .int x1), (2, .int (nI i))] → W p l e ({ frames := 1, cells := 0, slots := 0, locals := 21 } : Room) s m ([.ref (ad k)] : List Value).toArray below meth cd s.heap [] 0 0 Q (F0 m 4 ls []) := by
    intro fu
    induction fu with
    | zero => intros; omega
    | succ fu ih4 =>
      intro i x1 ex1 hi hm4 ls hl
      subst ex1
      refine lv_iload_n hx hb (dk kX1_piles_ok 4 rfl) rfl (lv_at hl 2 rfl) ?_
      refine lv_bipush (v := nI 16) hx hb (dk kX1_piles_ok 5 rfl) rfl ?_
      refine n_icmp_ge (tgt := 27) hx hb (by omega) (by decide) (dk kX1_piles_ok 6 rfl) (by decide) (fun h1 => ?_) (fun h1 => ?_)
      · skip
        refine lv_iload_n hx hb (dk kX1_piles_ok 14 rfl) rfl (lv_at hl 1 rfl) ?_
        exact hret _ _ _ (by rw [show i = 16 by omega] <;> rfl) (dk kX1_piles_ok 15 rfl)
      · skip
        refine lv_aload_n hx hb (dk kX1_piles_ok 7 rfl) rfl (lv_at hl 0 rfl) ?_
        refine lv_iload_n hx hb (dk kX1_piles_ok 8 rfl) rfl (lv_at hl 2 rfl) ?_
        refine cvR (As := [.int (nI i)]) (rest := []) ⟨hx, hb, hml, hown, hts⟩ (tX1_isBottom l D cI cQ cL ad N F k hk c b v hM (nI i) i rfl (by omega)) (cwV9 1 hts mcX1_isBottom (ac2 _ (List.mem_of_getElem? (i := 4) rfl)) miX1_isBottom meX1_isBottom mini_RX1 rfl rfl hdX1_isBottom ⟨Nat.le_of_ble_eq_true rfl, Nat.le_of_ble_eq_true rfl⟩) hK hP hNW hk0 f0 rfl rfl hl.1 rfl (Nat.le_of_ble_eq_true rfl) (by decide) (dk kX1_piles_ok 9 rfl) ?_
        refine b_if_eq (tgt := 21) hx hb (dk kX1_piles_ok 10 rfl) (by decide) (fun h2 => ?_) (fun h2 => ?_)
        · skip
          refine lv_iinc (v := nI (i + 1)) (lv' := [(2, .int (nI (i + 1))), (0, .ref (ad k)), (1, .int (nI (cnt (bot c b) i)))]) hx hb (dk kX1_piles_ok 12 rfl) hl (k := 2) rfl (n_inc _) (by decide) rfl (fun ls hl => ?_)
          refine lv_goto (tgt := 4) hx hb (dk kX1_piles_ok 13 rfl) (by decide) ?_
          exact ih4 (i + 1) _ (by simp [cnt, h1, h2]) (by omega) (by omega) ls (lv_sub hl [1, 2, 0] rfl)
        · skip
          refine lv_iinc (v := nI ((cnt (bot c b) i) + 1)) (lv' := [(1, .int (nI ((cnt (bot c b) i) + 1))), (0, .ref (ad k)), (2, .int (nI i))]) hx hb (dk kX1_piles_ok 11 rfl) hl (k := 1) rfl (n_inc _) (by decide) rfl (fun ls hl => ?_)
          refine lv_iinc (v := nI (i + 1)) (lv' := [(2, .int (nI (i + 1))), (1, .int (nI ((cnt (bot c b) i) + 1))), (0, .ref (ad k))]) hx hb (dk kX1_piles_ok 12 rfl) hl (k := 2) rfl (n_inc _) (by decide) rfl (fun ls hl => ?_)
          refine lv_goto (tgt := 4) hx hb (dk kX1_piles_ok 13 rfl) (by decide) ?_
          exact ih4 (i + 1) _ (by simp [cnt, h1, h2]) (by omega) (by omega) ls (lv_sub hl [2, 1, 0] rfl)
  exact L4 _ 0 _ (by first | rfl | omega) (by first | rfl | omega) (Nat.lt_succ_self _) ls (lv_sub hl [2, 1, 0] rfl)
set_option maxRecDepth 100000 in
set_option maxHeartbeats 4000000 in
theorem tX1_highest (l : Launch) (D : va_G) (cI cQ cL : ClassId) (ad : Nat → Nat) (N : Nat) (F : Nat → va_E) (k : Nat) (hk : k + 3 < N) (c b v : Nat → Int32) (hM : matAt cI ad F k c b v) : MR l yX1_highest (Cond.code yX1_highest cX1_highest 3 (some .int) :: AW) ({ frames := 1, cells := 0, slots := 0, locals := 23 } : Room) D cI cQ cL ad N F [.ref (ad k)] (.int (mxi (bot c b) (fun i => nI (hgt c (c i))) 16)) := by
  refine mr_i (ty := .int) (by decide +kernel) rfl rfl rfl rfl (Nat.le_of_ble_eq_true rfl) (fun p e s m below meth cd Q ls hx hb hml hown hts hP hK hNW hret hl => ?_)
  have hown : s.vm.findClass RX1 = some m.cls := hown
  obtain ⟨f0, f1, f2, f3⟩ := id hM
  have hk0 : k < N := by omega
  have hk1 : k + 1 < N := by omega
  have hk2 : k + 2 < N := by omega
  have hk3 : k + 3 < N := hk
  have hl : lv_has ls 3 [(0, .ref (ad k))] := hl
  refine lv_iconst (v := nI 0) hx hb (dk kX1_highest_ok 0 rfl) rfl ?_
  refine lv_istore_n (lv' := [(1, .int (nI 0)), (0, .ref (ad k))]) hx hb (dk kX1_highest_ok 1 rfl) rfl hl (by decide) rfl (fun ls hl => ?_)
  refine lv_iconst (v := nI 0) hx hb (dk kX1_highest_ok 2 rfl) rfl ?_
  refine lv_istore_n (lv' := [(2, .int (nI 0)), (1, .int (nI 0)), (0, .ref (ad k))]) hx hb (dk kX1_highest_ok 3 rfl) rfl hl (by decide) rfl (fun ls hl => ?_)
  have L4 : ∀ (fu : Nat) (i : Nat) (x1 : Int32), x1 = mxi (bot c b) (fun i => nI (hgt c (c i))) i → i ≤ 16 → 16 - i < fu → ∀ ls : Array Slot, lv_has ls 3 [(0, .ref (ad k)), (1, .int x1), (2, .int (nI i))] → W p l e ({ frames := 1, cells := 0, slots := 0, locals := 23 } : Room) s m ([.ref (ad k)] : List Value).toArray below meth cd s.heap [] 0 0 Q (F0 m 4 ls []) := by
    intro fu
    induction fu with
    | zero => intros; omega
    | succ fu ih4 =>
      intro i x1 ex1 hi hm4 ls hl
      subst ex1
      refine lv_iload_n hx hb (dk kX1_highest_ok 4 rfl) rfl (lv_at hl 2 rfl) ?_
      refine lv_bipush (v := nI 16) hx hb (dk kX1_highest_ok 5 rfl) rfl ?_
      refine n_icmp_ge (tgt := 39) hx hb (by omega) (by decide) (dk kX1_highest_ok 6 rfl) (by decide) (fun h1 => ?_) (fun h1 => ?_)
      · skip
        refine lv_iload_n hx hb (dk kX1_highest_ok 22 rfl) rfl (lv_at hl 1 rfl) ?_
        exact hret _ _ _ (by rw [show i = 16 by omega] <;> rfl) (dk kX1_highest_ok 23 rfl)
      · skip
        refine lv_aload_n hx hb (dk kX1_highest_ok 7 rfl) rfl (lv_at hl 0 rfl) ?_
        refine lv_iload_n hx hb (dk kX1_highest_ok 8 rfl) rfl (lv_at hl 2 rfl) ?_
        refine cvR (As := [.int (nI i)]) (rest := []) ⟨hx, hb, hml, hown, hts⟩ (tX1_isBottom l D cI cQ cL ad N F k hk c b v hM (nI i) i rfl (by omega)) (cwV9 1 hts mcX1_isBottom (ac2 _ (List.mem_of_getElem? (i := 4) rfl)) miX1_isBottom meX1_isBottom mini_RX1 rfl rfl hdX1_isBottom ⟨Nat.le_of_ble_eq_true rfl, Nat.le_of_ble_eq_true rfl⟩) hK hP hNW hk0 f0 rfl rfl hl.1 rfl (Nat.le_of_ble_eq_true rfl) (by decide) (dk kX1_highest_ok 9 rfl) ?_
        refine b_if_eq (tgt := 33) hx hb (dk kX1_highest_ok 10 rfl) (by decide) (fun h2 => ?_) (fun h2 => ?_)
        · skip
          refine lv_iinc (v := nI (i + 1)) (lv' := [(2, .int (nI (i + 1))), (0, .ref (ad k)), (1, .int (mxi (bot c b) (fun i => nI (hgt c (c i))) i))]) hx hb (dk kX1_highest_ok 20 rfl) hl (k := 2) rfl (n_inc _) (by decide) rfl (fun ls hl => ?_)
          refine lv_goto (tgt := 4) hx hb (dk kX1_highest_ok 21 rfl) (by decide) ?_
          exact ih4 (i + 1) _ (by simp [mxi, h1, h2]) (by omega) (by omega) ls (lv_sub hl [1, 2, 0] rfl)
        · skip
          refine lv_iload_n hx hb (dk kX1_highest_ok 11 rfl) rfl (lv_at hl 1 rfl) ?_
          refine lv_aload_n hx hb (dk kX1_highest_ok 12 rfl) rfl (lv_at hl 0 rfl) ?_
          refine lv_aload_n hx hb (dk kX1_highest_ok 13 rfl) rfl (lv_at hl 0 rfl) ?_
          refine gf hx hb hts (fun w h => List.mem_cons_of_mem _ (acX1 w h)) hown hK hP hk0 f0 rfl 0 (by decide) (hts _ (List.mem_cons_of_mem _ (ac0 _ (List.mem_of_getElem? (i := 22) rfl)))) (fun _ h => h) rfl (dk kX1_highest_ok 14 rfl) ?_
          refine lv_iload_n hx hb (dk kX1_highest_ok 15 rfl) rfl (lv_at hl 2 rfl) ?_
          refine ald (j := i) hx hb hK hP hk1 f1 rfl (by omega) (by decide) (dk kX1_highest_ok 16 rfl) ?_
          refine cvR (As := [.int (c i)]) (rest := [.int (mxi (bot c b) (fun i => nI (hgt c (c i))) i)]) ⟨hx, hb, hml, hown, hts⟩ (tX1_heightAt l D cI cQ cL ad N F k hk c b v hM (c i)) (cwV9 1 hts mcX1_heightAt (ac2 _ (List.mem_of_getElem? (i := 12) rfl)) miX1_heightAt meX1_heightAt mini_RX1 rfl rfl hdX1_heightAt ⟨Nat.le_of_ble_eq_true rfl, Nat.le_of_ble_eq_true rfl⟩) hK hP hNW hk0 f0 rfl rfl hl.1 rfl (Nat.le_of_ble_eq_true rfl) (by decide) (dk kX1_highest_ok 17 rfl) ?_
          refine va_mmax hx hb (by rw [hml, hl.1]) hown (hts _ (List.mem_cons_of_mem _ (ac2 _ (List.mem_of_getElem? (i := 8) rfl)))) (hts _ (List.mem_cons_of_mem _ (ac2 _ (List.mem_of_getElem? (i := 9) rfl)))) (hts _ (List.mem_cons_of_mem _ (ac2 _ (List.mem_of_getElem? (i := 10) rfl)))) (hts _ (List.mem_cons_of_mem _ (ac2 _ (List.mem_of_getElem? (i := 11) rfl)))) (Nat.le_of_ble_eq_true rfl) (Nat.le_of_ble_eq_true rfl) (Nat.le_of_ble_eq_true rfl) (Nat.le_of_ble_eq_true rfl) (dk kX1_highest_ok 18 rfl) ?_
          refine lv_istore_n (lv' := [(1, .int (imax (mxi (bot c b) (fun i => nI (hgt c (c i))) i) (nI (hgt c (c i))))), (0, .ref (ad k)), (2, .int (nI i))]) hx hb (dk kX1_highest_ok 19 rfl) rfl hl (by decide) rfl (fun ls hl => ?_)
          refine lv_iinc (v := nI (i + 1)) (lv' := [(2, .int (nI (i + 1))), (1, .int (imax (mxi (bot c b) (fun i => nI (hgt c (c i))) i) (nI (hgt c (c i))))), (0, .ref (ad k))]) hx hb (dk kX1_highest_ok 20 rfl) hl (k := 2) rfl (n_inc _) (by decide) rfl (fun ls hl => ?_)
          refine lv_goto (tgt := 4) hx hb (dk kX1_highest_ok 21 rfl) (by decide) ?_
          exact ih4 (i + 1) _ (by simp [mxi, h1, h2]) (by omega) (by omega) ls (lv_sub hl [2, 1, 0] rfl)
  exact L4 _ 0 _ (by first | rfl | omega) (by first | rfl | omega) (Nat.lt_succ_self _) ls (lv_sub hl [2, 1, 0] rfl)
set_option maxRecDepth 100000 in
set_option maxHeartbeats 4000000 in
theorem tX1_coveredByPiles (l : Launch) (D : va_G) (cI cQ cL : ClassId) (ad : Nat → Nat) (N : Nat) (F : Nat → va_E) (k : Nat) (hk : k + 3 < N) (c b v : Nat → Int32) (hM : matAt cI ad F k c b v) : MR l yX1_coveredByPiles (Cond.code yX1_coveredByPiles cX1_coveredByPiles 3 (some .int) :: AW) ({ frames := 1, cells := 0, slots := 0, locals := 23 } : Room) D cI cQ cL ad N F [.ref (ad k)] (.int (nI (sm (fun i => if bot c b i = true then hgt c (c i) - 1 else 0) 16))) := by
  refine mr_i (ty := .int) (by decide +kernel) rfl rfl rfl rfl (Nat.le_of_ble_eq_true rfl) (fun p e s m below meth cd Q ls hx hb hml hown hts hP hK hNW hret hl => ?_)
  have hown : s.vm.findClass RX1 = some m.cls := hown
  obtain ⟨f0, f1, f2, f3⟩ := id hM
  have hk0 : k < N := by omega
  have hk1 : k + 1 < N := by omega
  have hk2 : k + 2 < N := by omega
  have hk3 : k + 3 < N := hk
  have hl : lv_has ls 3 [(0, .ref (ad k))] := hl
  refine lv_iconst (v := nI 0) hx hb (dk kX1_coveredByPiles_ok 0 rfl) rfl ?_
  refine lv_istore_n (lv' := [(1, .int (nI 0)), (0, .ref (ad k))]) hx hb (dk kX1_coveredByPiles_ok 1 rfl) rfl hl (by decide) rfl (fun ls hl => ?_)
  refine lv_iconst (v := nI 0) hx hb (dk kX1_coveredByPiles_ok 2 rfl) rfl ?_
  refine lv_istore_n (lv' := [(2, .int (nI 0)), (1, .int (nI 0)), (0, .ref (ad k))]) hx hb (dk kX1_coveredByPiles_ok 3 rfl) rfl hl (by decide) rfl (fun ls hl => ?_)
  have L4 : ∀ (fu : Nat) (i : Nat) (x1 : Int32), x1 = nI (sm (fun i => if bot c b i = true then hgt c (c i) - 1 else 0) i) → i ≤ 16 → 16 - i < fu → ∀ ls : Array Slot, lv_has ls 3 [(0, .ref (ad k)), (1, .int x1), (2, .int (nI i))] → W p l e ({ frames := 1, cells := 0, slots := 0, locals := 23 } : Room) s m ([.ref (ad k)] : List Value).toArray below meth cd s.heap [] 0 0 Q (F0 m 4 ls []) := by
    intro fu
    induction fu with
    | zero => intros; omega
    | succ fu ih4 =>
      intro i x1 ex1 hi hm4 ls hl
      subst ex1
      refine lv_iload_n hx hb (dk kX1_coveredByPiles_ok 4 rfl) rfl (lv_at hl 2 rfl) ?_
      refine lv_bipush (v := nI 16) hx hb (dk kX1_coveredByPiles_ok 5 rfl) rfl ?_
      refine n_icmp_ge (tgt := 39) hx hb (by omega) (by decide) (dk kX1_coveredByPiles_ok 6 rfl) (by decide) (fun h1 => ?_) (fun h1 => ?_)
      · skip
        refine lv_iload_n hx hb (dk kX1_coveredByPiles_ok 24 rfl) rfl (lv_at hl 1 rfl) ?_
        exact hret _ _ _ (by rw [show i = 16 by omega] <;> rfl) (dk kX1_coveredByPiles_ok 25 rfl)
      · skip
        refine lv_aload_n hx hb (dk kX1_coveredByPiles_ok 7 rfl) rfl (lv_at hl 0 rfl) ?_
        refine lv_iload_n hx hb (dk kX1_coveredByPiles_ok 8 rfl) rfl (lv_at hl 2 rfl) ?_
        refine cvR (As := [.int (nI i)]) (rest := []) ⟨hx, hb, hml, hown, hts⟩ (tX1_isBottom l D cI cQ cL ad N F k hk c b v hM (nI i) i rfl (by omega)) (cwV9 1 hts mcX1_isBottom (ac2 _ (List.mem_of_getElem? (i := 4) rfl)) miX1_isBottom meX1_isBottom mini_RX1 rfl rfl hdX1_isBottom ⟨Nat.le_of_ble_eq_true rfl, Nat.le_of_ble_eq_true rfl⟩) hK hP hNW hk0 f0 rfl rfl hl.1 rfl (Nat.le_of_ble_eq_true rfl) (by decide) (dk kX1_coveredByPiles_ok 9 rfl) ?_
        refine b_if_eq (tgt := 33) hx hb (dk kX1_coveredByPiles_ok 10 rfl) (by decide) (fun h2 => ?_) (fun h2 => ?_)
        · skip
          refine lv_iinc (v := nI (i + 1)) (lv' := [(2, .int (nI (i + 1))), (0, .ref (ad k)), (1, .int (nI (sm (fun i => if bot c b i = true then hgt c (c i) - 1 else 0) i)))]) hx hb (dk kX1_coveredByPiles_ok 22 rfl) hl (k := 2) rfl (n_inc _) (by decide) rfl (fun ls hl => ?_)
          refine lv_goto (tgt := 4) hx hb (dk kX1_coveredByPiles_ok 23 rfl) (by decide) ?_
          exact ih4 (i + 1) _ (by simp [sm, h1, h2]) (by omega) (by omega) ls (lv_sub hl [1, 2, 0] rfl)
        · skip
          refine lv_iload_n hx hb (dk kX1_coveredByPiles_ok 11 rfl) rfl (lv_at hl 1 rfl) ?_
          refine lv_aload_n hx hb (dk kX1_coveredByPiles_ok 12 rfl) rfl (lv_at hl 0 rfl) ?_
          refine lv_aload_n hx hb (dk kX1_coveredByPiles_ok 13 rfl) rfl (lv_at hl 0 rfl) ?_
          refine gf hx hb hts (fun w h => List.mem_cons_of_mem _ (acX1 w h)) hown hK hP hk0 f0 rfl 0 (by decide) (hts _ (List.mem_cons_of_mem _ (ac0 _ (List.mem_of_getElem? (i := 22) rfl)))) (fun _ h => h) rfl (dk kX1_coveredByPiles_ok 14 rfl) ?_
          refine lv_iload_n hx hb (dk kX1_coveredByPiles_ok 15 rfl) rfl (lv_at hl 2 rfl) ?_
          refine ald (j := i) hx hb hK hP hk1 f1 rfl (by omega) (by decide) (dk kX1_coveredByPiles_ok 16 rfl) ?_
          refine cvR (As := [.int (c i)]) (rest := [.int (nI (sm (fun i => if bot c b i = true then hgt c (c i) - 1 else 0) i))]) ⟨hx, hb, hml, hown, hts⟩ (tX1_heightAt l D cI cQ cL ad N F k hk c b v hM (c i)) (cwV9 1 hts mcX1_heightAt (ac2 _ (List.mem_of_getElem? (i := 12) rfl)) miX1_heightAt meX1_heightAt mini_RX1 rfl rfl hdX1_heightAt ⟨Nat.le_of_ble_eq_true rfl, Nat.le_of_ble_eq_true rfl⟩) hK hP hNW hk0 f0 rfl rfl hl.1 rfl (Nat.le_of_ble_eq_true rfl) (by decide) (dk kX1_coveredByPiles_ok 17 rfl) ?_
          refine lv_iconst (v := nI 1) hx hb (dk kX1_coveredByPiles_ok 18 rfl) rfl ?_
          refine n_isub hx hb (by exact cnt_pos (i := i) (by omega) (by simp)) (dk kX1_coveredByPiles_ok 19 rfl) ?_
          refine n_iadd hx hb (dk kX1_coveredByPiles_ok 20 rfl) ?_
          refine lv_istore_n (lv' := [(1, .int (nI ((sm (fun i => if bot c b i = true then hgt c (c i) - 1 else 0) i) + ((hgt c (c i)) - 1)))), (0, .ref (ad k)), (2, .int (nI i))]) hx hb (dk kX1_coveredByPiles_ok 21 rfl) rfl hl (by decide) rfl (fun ls hl => ?_)
          refine lv_iinc (v := nI (i + 1)) (lv' := [(2, .int (nI (i + 1))), (1, .int (nI ((sm (fun i => if bot c b i = true then hgt c (c i) - 1 else 0) i) + ((hgt c (c i)) - 1)))), (0, .ref (ad k))]) hx hb (dk kX1_coveredByPiles_ok 22 rfl) hl (k := 2) rfl (n_inc _) (by decide) rfl (fun ls hl => ?_)
          refine lv_goto (tgt := 4) hx hb (dk kX1_coveredByPiles_ok 23 rfl) (by decide) ?_
          exact ih4 (i + 1) _ (by simp [sm, h1, h2]) (by omega) (by omega) ls (lv_sub hl [2, 1, 0] rfl)
  exact L4 _ 0 _ (by first | rfl | omega) (by first | rfl | omega) (Nat.lt_succ_self _) ls (lv_sub hl [2, 1, 0] rfl)
set_option maxRecDepth 100000 in
set_option maxHeartbeats 4000000 in
theorem tX1_coveredOf (l : Launch) (D : va_G) (cI cQ cL : ClassId) (ad : Nat → Nat) (N : Nat) (F : Nat → va_E) (k : Nat) (hk : k + 3 < N) (c b v : Nat → Int32) (hM : matAt cI ad F k c b v) (x : Int32) (w : Nat) (hxw : x = nI w) (hw : w < 4) : MR l yX1_coveredOf (Cond.code yX1_coveredOf cX1_coveredOf 4 (some .int) :: AW) ({ frames := 1, cells := 0, slots := 0, locals := 21 } : Room) D cI cQ cL ad N F [.ref (ad k), .int x] (.int (nI (covc v w))) := by
  refine mr_i (ty := .int) (by decide +kernel) rfl rfl rfl rfl (Nat.le_of_ble_eq_true rfl) (fun p e s m below meth cd Q ls hx hb hml hown hts hP hK hNW hret hl => ?_)
  have hown : s.vm.findClass RX1 = some m.cls := hown
  subst hxw
  obtain ⟨f0, f1, f2, f3⟩ := id hM
  have hk0 : k < N := by omega
  have hk1 : k + 1 < N := by omega
  have hk2 : k + 2 < N := by omega
  have hk3 : k + 3 < N := hk
  have hl : lv_has ls 4 [(0, .ref (ad k)), (1, .int (nI w))] := hl
  refine lv_iconst (v := nI 0) hx hb (dk kX1_coveredOf_ok 0 rfl) rfl ?_
  refine lv_istore_n (lv' := [(2, .int (nI 0)), (0, .ref (ad k)), (1, .int (nI w))]) hx hb (dk kX1_coveredOf_ok 1 rfl) rfl hl (by decide) rfl (fun ls hl => ?_)
  refine lv_iconst (v := nI 0) hx hb (dk kX1_coveredOf_ok 2 rfl) rfl ?_
  refine lv_istore_n (lv' := [(3, .int (nI 0)), (2, .int (nI 0)), (0, .ref (ad k)), (1, .int (nI w))]) hx hb (dk kX1_coveredOf_ok 3 rfl) rfl hl (by decide) rfl (fun ls hl => ?_)
  have L4 : ∀ (fu : Nat) (i : Nat) (x2 : Int32), x2 = nI (cnt (fun i => cov v (4 * w + i)) i) → i ≤ 4 → 4 - i < fu → ∀ ls : Array Slot, lv_has ls 4 [(0, .ref (ad k)), (1, .int (nI w)), (2, .int x2), (3, .int (nI i))] → W p l e ({ frames := 1, cells := 0, slots := 0, locals := 21 } : Room) s m ([.ref (ad k), .int (nI w)] : List Value).toArray below meth cd s.heap [] 0 0 Q (F0 m 4 ls []) := by
    intro fu
    induction fu with
    | zero => intros; omega
    | succ fu ih4 =>
      intro i x2 ex2 hi hm4 ls hl
      subst ex2
      refine lv_iload_n hx hb (dk kX1_coveredOf_ok 4 rfl) rfl (lv_at hl 3 rfl) ?_
      refine lv_iconst (v := nI 4) hx hb (dk kX1_coveredOf_ok 5 rfl) rfl ?_
      refine n_icmp_ge (tgt := 30) hx hb (by omega) (by decide) (dk kX1_coveredOf_ok 6 rfl) (by decide) (fun h1 => ?_) (fun h1 => ?_)
      · skip
        refine lv_iload_n hx hb (dk kX1_coveredOf_ok 18 rfl) rfl (lv_at hl 2 rfl) ?_
        exact hret _ _ _ (by rw [show i = 4 by omega] <;> rfl) (dk kX1_coveredOf_ok 19 rfl)
      · skip
        refine lv_aload_n hx hb (dk kX1_coveredOf_ok 7 rfl) rfl (lv_at hl 0 rfl) ?_
        refine lv_iconst (v := nI 4) hx hb (dk kX1_coveredOf_ok 8 rfl) rfl ?_
        refine lv_iload_n hx hb (dk kX1_coveredOf_ok 9 rfl) rfl (lv_at hl 1 rfl) ?_
        refine n_imul hx hb (dk kX1_coveredOf_ok 10 rfl) ?_
        refine lv_iload_n hx hb (dk kX1_coveredOf_ok 11 rfl) rfl (lv_at hl 3 rfl) ?_
        refine n_iadd hx hb (dk kX1_coveredOf_ok 12 rfl) ?_
        refine cvR (As := [.int (nI ((4 * w) + i))]) (rest := []) ⟨hx, hb, hml, hown, hts⟩ (tX1_isCovered l D cI cQ cL ad N F k hk c b v hM (nI ((4 * w) + i)) ((4 * w) + i) rfl (by omega)) (cwV9 1 hts mcX1_isCovered (ac2 _ (List.mem_of_getElem? (i := 16) rfl)) miX1_isCovered meX1_isCovered mini_RX1 rfl rfl hdX1_isCovered ⟨Nat.le_of_ble_eq_true rfl, Nat.le_of_ble_eq_true rfl⟩) hK hP hNW hk0 f0 rfl rfl hl.1 rfl (Nat.le_of_ble_eq_true rfl) (by decide) (dk kX1_coveredOf_ok 13 rfl) ?_
        refine b_if_eq (tgt := 24) hx hb (dk kX1_coveredOf_ok 14 rfl) (by decide) (fun h2 => ?_) (fun h2 => ?_)
        · skip
          refine lv_iinc (v := nI (i + 1)) (lv' := [(3, .int (nI (i + 1))), (0, .ref (ad k)), (1, .int (nI w)), (2, .int (nI (cnt (fun i => cov v (4 * w + i)) i)))]) hx hb (dk kX1_coveredOf_ok 16 rfl) hl (k := 3) rfl (n_inc _) (by decide) rfl (fun ls hl => ?_)
          refine lv_goto (tgt := 4) hx hb (dk kX1_coveredOf_ok 17 rfl) (by decide) ?_
          exact ih4 (i + 1) _ (by simp [cnt, h1, h2]) (by omega) (by omega) ls (lv_sub hl [1, 2, 3, 0] rfl)
        · skip
          refine lv_iinc (v := nI ((cnt (fun i => cov v (4 * w + i)) i) + 1)) (lv' := [(2, .int (nI ((cnt (fun i => cov v (4 * w + i)) i) + 1))), (0, .ref (ad k)), (1, .int (nI w)), (3, .int (nI i))]) hx hb (dk kX1_coveredOf_ok 15 rfl) hl (k := 2) rfl (n_inc _) (by decide) rfl (fun ls hl => ?_)
          refine lv_iinc (v := nI (i + 1)) (lv' := [(3, .int (nI (i + 1))), (2, .int (nI ((cnt (fun i => cov v (4 * w + i)) i) + 1))), (0, .ref (ad k)), (1, .int (nI w))]) hx hb (dk kX1_coveredOf_ok 16 rfl) hl (k := 3) rfl (n_inc _) (by decide) rfl (fun ls hl => ?_)
          refine lv_goto (tgt := 4) hx hb (dk kX1_coveredOf_ok 17 rfl) (by decide) ?_
          exact ih4 (i + 1) _ (by simp [cnt, h1, h2]) (by omega) (by omega) ls (lv_sub hl [2, 3, 1, 0] rfl)
  exact L4 _ 0 _ (by first | rfl | omega) (by first | rfl | omega) (Nat.lt_succ_self _) ls (lv_sub hl [2, 3, 1, 0] rfl)
set_option maxRecDepth 100000 in
set_option maxHeartbeats 4000000 in
theorem tX1_coveredOfTeam (l : Launch) (D : va_G) (cI cQ cL : ClassId) (ad : Nat → Nat) (N : Nat) (F : Nat → va_E) (k : Nat) (hk : k + 3 < N) (c b v : Nat → Int32) (hM : matAt cI ad F k c b v) (x : Int32) (w : Nat) (hxw : x = nI w) (hw : w < 2) : MR l yX1_coveredOfTeam (Cond.code yX1_coveredOfTeam cX1_coveredOfTeam 2 (some .int) :: AW) ({ frames := 2, cells := 0, slots := 0, locals := 44 } : Room) D cI cQ cL ad N F [.ref (ad k), .int x] (.int (nI (covc v w + covc v (w + 2)))) := by
  refine mr_i (ty := .int) (by decide +kernel) rfl rfl rfl rfl (Nat.le_of_ble_eq_true rfl) (fun p e s m below meth cd Q ls hx hb hml hown hts hP hK hNW hret hl => ?_)
  have hown : s.vm.findClass RX1 = some m.cls := hown
  subst hxw
  obtain ⟨f0, f1, f2, f3⟩ := id hM
  have hk0 : k < N := by omega
  have hk1 : k + 1 < N := by omega
  have hk2 : k + 2 < N := by omega
  have hk3 : k + 3 < N := hk
  have hl : lv_has ls 2 [(0, .ref (ad k)), (1, .int (nI w))] := hl
  refine lv_aload_n hx hb (dk kX1_coveredOfTeam_ok 0 rfl) rfl (lv_at hl 0 rfl) ?_
  refine lv_iload_n hx hb (dk kX1_coveredOfTeam_ok 1 rfl) rfl (lv_at hl 1 rfl) ?_
  refine cvR (As := [.int (nI w)]) (rest := []) ⟨hx, hb, hml, hown, hts⟩ (tX1_coveredOf l D cI cQ cL ad N F k hk c b v hM (nI w) w rfl (by omega)) (cwV9 1 hts mcX1_coveredOf (ac2 _ (List.mem_of_getElem? (i := 20) rfl)) miX1_coveredOf meX1_coveredOf mini_RX1 rfl rfl hdX1_coveredOf ⟨Nat.le_of_ble_eq_true rfl, Nat.le_of_ble_eq_true rfl⟩) hK hP hNW hk0 f0 rfl rfl hl.1 rfl (Nat.le_of_ble_eq_true rfl) (by decide) (dk kX1_coveredOfTeam_ok 2 rfl) ?_
  refine lv_aload_n hx hb (dk kX1_coveredOfTeam_ok 3 rfl) rfl (lv_at hl 0 rfl) ?_
  refine lv_iload_n hx hb (dk kX1_coveredOfTeam_ok 4 rfl) rfl (lv_at hl 1 rfl) ?_
  refine lv_iconst (v := nI 2) hx hb (dk kX1_coveredOfTeam_ok 5 rfl) rfl ?_
  refine n_iadd hx hb (dk kX1_coveredOfTeam_ok 6 rfl) ?_
  refine cvR (As := [.int (nI (w + 2))]) (rest := [.int (nI (covc v w))]) ⟨hx, hb, hml, hown, hts⟩ (tX1_coveredOf l D cI cQ cL ad N F k hk c b v hM (nI (w + 2)) (w + 2) rfl (by omega)) (cwV9 1 hts mcX1_coveredOf (ac2 _ (List.mem_of_getElem? (i := 20) rfl)) miX1_coveredOf meX1_coveredOf mini_RX1 rfl rfl hdX1_coveredOf ⟨Nat.le_of_ble_eq_true rfl, Nat.le_of_ble_eq_true rfl⟩) hK hP hNW hk0 f0 rfl rfl hl.1 rfl (Nat.le_of_ble_eq_true rfl) (by decide) (dk kX1_coveredOfTeam_ok 7 rfl) ?_
  refine n_iadd hx hb (dk kX1_coveredOfTeam_ok 8 rfl) ?_
  exact hret _ _ _ (by rfl) (dk kX1_coveredOfTeam_ok 9 rfl)
set_option maxRecDepth 100000 in
set_option maxHeartbeats 4000000 in
theorem tX1_coveredByWinks (l : Launch) (D : va_G) (cI cQ cL : ClassId) (ad : Nat → Nat) (N : Nat) (F : Nat → va_E) (k : Nat) (hk : k + 3 < N) (c b v : Nat → Int32) (hM : matAt cI ad F k c b v) : MR l yX1_coveredByWinks (Cond.code yX1_coveredByWinks cX1_coveredByWinks 1 (some .int) :: AW) ({ frames := 3, cells := 0, slots := 0, locals := 65 } : Room) D cI cQ cL ad N F [.ref (ad k)] (.int (nI ((covc v 0 + covc v (0 + 2)) + (covc v 1 + covc v (1 + 2))))) := by
  refine mr_i (ty := .int) (by decide +kernel) rfl rfl rfl rfl (Nat.le_of_ble_eq_true rfl) (fun p e s m below meth cd Q ls hx hb hml hown hts hP hK hNW hret hl => ?_)
  have hown : s.vm.findClass RX1 = some m.cls := hown
  obtain ⟨f0, f1, f2, f3⟩ := id hM
  have hk0 : k < N := by omega
  have hk1 : k + 1 < N := by omega
  have hk2 : k + 2 < N := by omega
  have hk3 : k + 3 < N := hk
  have hl : lv_has ls 1 [(0, .ref (ad k))] := hl
  refine lv_aload_n hx hb (dk kX1_coveredByWinks_ok 0 rfl) rfl (lv_at hl 0 rfl) ?_
  refine lv_iconst (v := nI 0) hx hb (dk kX1_coveredByWinks_ok 1 rfl) rfl ?_
  refine cvR (As := [.int (nI 0)]) (rest := []) ⟨hx, hb, hml, hown, hts⟩ (tX1_coveredOfTeam l D cI cQ cL ad N F k hk c b v hM (nI 0) 0 rfl (by omega)) (cwV9 1 hts mcX1_coveredOfTeam (ac3 _ (List.mem_of_getElem? (i := 0) rfl)) miX1_coveredOfTeam meX1_coveredOfTeam mini_RX1 rfl rfl hdX1_coveredOfTeam ⟨Nat.le_of_ble_eq_true rfl, Nat.le_of_ble_eq_true rfl⟩) hK hP hNW hk0 f0 rfl rfl hl.1 rfl (Nat.le_of_ble_eq_true rfl) (by decide) (dk kX1_coveredByWinks_ok 2 rfl) ?_
  refine lv_aload_n hx hb (dk kX1_coveredByWinks_ok 3 rfl) rfl (lv_at hl 0 rfl) ?_
  refine lv_iconst (v := nI 1) hx hb (dk kX1_coveredByWinks_ok 4 rfl) rfl ?_
  refine cvR (As := [.int (nI 1)]) (rest := [.int (nI (covc v 0 + covc v (0 + 2)))]) ⟨hx, hb, hml, hown, hts⟩ (tX1_coveredOfTeam l D cI cQ cL ad N F k hk c b v hM (nI 1) 1 rfl (by omega)) (cwV9 1 hts mcX1_coveredOfTeam (ac3 _ (List.mem_of_getElem? (i := 0) rfl)) miX1_coveredOfTeam meX1_coveredOfTeam mini_RX1 rfl rfl hdX1_coveredOfTeam ⟨Nat.le_of_ble_eq_true rfl, Nat.le_of_ble_eq_true rfl⟩) hK hP hNW hk0 f0 rfl rfl hl.1 rfl (Nat.le_of_ble_eq_true rfl) (by decide) (dk kX1_coveredByWinks_ok 5 rfl) ?_
  refine n_iadd hx hb (dk kX1_coveredByWinks_ok 6 rfl) ?_
  exact hret _ _ _ (by rfl) (dk kX1_coveredByWinks_ok 7 rfl)
set_option maxRecDepth 100000 in
set_option maxHeartbeats 4000000 in
theorem tX1_pottedOf (l : Launch) (D : va_G) (cI cQ cL : ClassId) (ad : Nat → Nat) (N : Nat) (F : Nat → va_E) (k : Nat) (hk : k + 3 < N) (c b v : Nat → Int32) (hM : matAt cI ad F k c b v) (x : Int32) (w : Nat) (hxw : x = nI w) (hw : w < 4) : MR l yX1_pottedOf (Cond.code yX1_pottedOf cX1_pottedOf 4 (some .int) :: AW) ({ frames := 0, cells := 0, slots := 0, locals := 0 } : Room) D cI cQ cL ad N F [.ref (ad k), .int x] (.int (nI (potc c w))) := by
  refine mr_i (ty := .int) (by decide +kernel) rfl rfl rfl rfl (Nat.le_of_ble_eq_true rfl) (fun p e s m below meth cd Q ls hx hb hml hown hts hP hK hNW hret hl => ?_)
  have hown : s.vm.findClass RX1 = some m.cls := hown
  subst hxw
  obtain ⟨f0, f1, f2, f3⟩ := id hM
  have hk0 : k < N := by omega
  have hk1 : k + 1 < N := by omega
  have hk2 : k + 2 < N := by omega
  have hk3 : k + 3 < N := hk
  have hl : lv_has ls 4 [(0, .ref (ad k)), (1, .int (nI w))] := hl
  refine lv_iconst (v := nI 0) hx hb (dk kX1_pottedOf_ok 0 rfl) rfl ?_
  refine lv_istore_n (lv' := [(2, .int (nI 0)), (0, .ref (ad k)), (1, .int (nI w))]) hx hb (dk kX1_pottedOf_ok 1 rfl) rfl hl (by decide) rfl (fun ls hl => ?_)
  refine lv_iconst (v := nI 0) hx hb (dk kX1_pottedOf_ok 2 rfl) rfl ?_
  refine lv_istore_n (lv' := [(3, .int (nI 0)), (2, .int (nI 0)), (0, .ref (ad k)), (1, .int (nI w))]) hx hb (dk kX1_pottedOf_ok 3 rfl) rfl hl (by decide) rfl (fun ls hl => ?_)
  have L4 : ∀ (fu : Nat) (i : Nat) (x2 : Int32), x2 = nI (cnt (fun i => decide (c (4 * w + i) = -1)) i) → i ≤ 4 → 4 - i < fu → ∀ ls : Array Slot, lv_has ls 4 [(0, .ref (ad k)), (1, .int (nI w)), (2, .int x2), (3, .int (nI i))] → W p l e ({ frames := 0, cells := 0, slots := 0, locals := 0 } : Room) s m ([.ref (ad k), .int (nI w)] : List Value).toArray below meth cd s.heap [] 0 0 Q (F0 m 4 ls []) := by
    intro fu
    induction fu with
    | zero => intros; omega
    | succ fu ih4 =>
      intro i x2 ex2 hi hm4 ls hl
      subst ex2
      refine lv_iload_n hx hb (dk kX1_pottedOf_ok 4 rfl) rfl (lv_at hl 3 rfl) ?_
      refine lv_iconst (v := nI 4) hx hb (dk kX1_pottedOf_ok 5 rfl) rfl ?_
      refine n_icmp_ge (tgt := 32) hx hb (by omega) (by decide) (dk kX1_pottedOf_ok 6 rfl) (by decide) (fun h1 => ?_) (fun h1 => ?_)
      · skip
        refine lv_iload_n hx hb (dk kX1_pottedOf_ok 20 rfl) rfl (lv_at hl 2 rfl) ?_
        exact hret _ _ _ (by rw [show i = 4 by omega] <;> rfl) (dk kX1_pottedOf_ok 21 rfl)
      · skip
        refine lv_aload_n hx hb (dk kX1_pottedOf_ok 7 rfl) rfl (lv_at hl 0 rfl) ?_
        refine gf hx hb hts (fun w h => List.mem_cons_of_mem _ (acX1 w h)) hown hK hP hk0 f0 rfl 0 (by decide) (hts _ (List.mem_cons_of_mem _ (ac0 _ (List.mem_of_getElem? (i := 22) rfl)))) (fun _ h => h) rfl (dk kX1_pottedOf_ok 8 rfl) ?_
        refine lv_iconst (v := nI 4) hx hb (dk kX1_pottedOf_ok 9 rfl) rfl ?_
        refine lv_iload_n hx hb (dk kX1_pottedOf_ok 10 rfl) rfl (lv_at hl 1 rfl) ?_
        refine n_imul hx hb (dk kX1_pottedOf_ok 11 rfl) ?_
        refine lv_iload_n hx hb (dk kX1_pottedOf_ok 12 rfl) rfl (lv_at hl 3 rfl) ?_
        refine n_iadd hx hb (dk kX1_pottedOf_ok 13 rfl) ?_
        refine ald (j := ((4 * w) + i)) hx hb hK hP hk1 f1 rfl (by omega) (by decide) (dk kX1_pottedOf_ok 14 rfl) ?_
        refine lv_iconst (v := -1) hx hb (dk kX1_pottedOf_ok 15 rfl) rfl ?_
        refine lv_icmp_ne (tgt := 26) hx hb (dk kX1_pottedOf_ok 16 rfl) (by decide) (fun h2 => ?_) (fun h2 => ?_)
        · skip
          refine lv_iinc (v := nI (i + 1)) (lv' := [(3, .int (nI (i + 1))), (0, .ref (ad k)), (1, .int (nI w)), (2, .int (nI (cnt (fun i => decide (c (4 * w + i) = -1)) i)))]) hx hb (dk kX1_pottedOf_ok 18 rfl) hl (k := 3) rfl (n_inc _) (by decide) rfl (fun ls hl => ?_)
          refine lv_goto (tgt := 4) hx hb (dk kX1_pottedOf_ok 19 rfl) (by decide) ?_
          exact ih4 (i + 1) _ (by simp [cnt, h1, h2]) (by omega) (by omega) ls (lv_sub hl [1, 2, 3, 0] rfl)
        · skip
          refine lv_iinc (v := nI ((cnt (fun i => decide (c (4 * w + i) = -1)) i) + 1)) (lv' := [(2, .int (nI ((cnt (fun i => decide (c (4 * w + i) = -1)) i) + 1))), (0, .ref (ad k)), (1, .int (nI w)), (3, .int (nI i))]) hx hb (dk kX1_pottedOf_ok 17 rfl) hl (k := 2) rfl (n_inc _) (by decide) rfl (fun ls hl => ?_)
          refine lv_iinc (v := nI (i + 1)) (lv' := [(3, .int (nI (i + 1))), (2, .int (nI ((cnt (fun i => decide (c (4 * w + i) = -1)) i) + 1))), (0, .ref (ad k)), (1, .int (nI w))]) hx hb (dk kX1_pottedOf_ok 18 rfl) hl (k := 3) rfl (n_inc _) (by decide) rfl (fun ls hl => ?_)
          refine lv_goto (tgt := 4) hx hb (dk kX1_pottedOf_ok 19 rfl) (by decide) ?_
          exact ih4 (i + 1) _ (by simp [cnt, h1, h2]) (by omega) (by omega) ls (lv_sub hl [2, 3, 1, 0] rfl)
  exact L4 _ 0 _ (by first | rfl | omega) (by first | rfl | omega) (Nat.lt_succ_self _) ls (lv_sub hl [2, 3, 1, 0] rfl)
set_option maxRecDepth 100000 in
set_option maxHeartbeats 4000000 in
theorem tX1_potted (l : Launch) (D : va_G) (cI cQ cL : ClassId) (ad : Nat → Nat) (N : Nat) (F : Nat → va_E) (k : Nat) (hk : k + 3 < N) (c b v : Nat → Int32) (hM : matAt cI ad F k c b v) : MR l yX1_potted (Cond.code yX1_potted cX1_potted 3 (some .int) :: AW) ({ frames := 1, cells := 0, slots := 0, locals := 23 } : Room) D cI cQ cL ad N F [.ref (ad k)] (.int (nI (potn c))) := by
  refine mr_i (ty := .int) (by decide +kernel) rfl rfl rfl rfl (Nat.le_of_ble_eq_true rfl) (fun p e s m below meth cd Q ls hx hb hml hown hts hP hK hNW hret hl => ?_)
  have hown : s.vm.findClass RX1 = some m.cls := hown
  obtain ⟨f0, f1, f2, f3⟩ := id hM
  have hk0 : k < N := by omega
  have hk1 : k + 1 < N := by omega
  have hk2 : k + 2 < N := by omega
  have hk3 : k + 3 < N := hk
  have hl : lv_has ls 3 [(0, .ref (ad k))] := hl
  refine lv_iconst (v := nI 0) hx hb (dk kX1_potted_ok 0 rfl) rfl ?_
  refine lv_istore_n (lv' := [(1, .int (nI 0)), (0, .ref (ad k))]) hx hb (dk kX1_potted_ok 1 rfl) rfl hl (by decide) rfl (fun ls hl => ?_)
  refine lv_iconst (v := nI 0) hx hb (dk kX1_potted_ok 2 rfl) rfl ?_
  refine lv_istore_n (lv' := [(2, .int (nI 0)), (1, .int (nI 0)), (0, .ref (ad k))]) hx hb (dk kX1_potted_ok 3 rfl) rfl hl (by decide) rfl (fun ls hl => ?_)
  have L4 : ∀ (fu : Nat) (i : Nat) (x1 : Int32), x1 = nI (sm (potc c) i) → i ≤ 4 → 4 - i < fu → ∀ ls : Array Slot, lv_has ls 3 [(0, .ref (ad k)), (1, .int x1), (2, .int (nI i))] → W p l e ({ frames := 1, cells := 0, slots := 0, locals := 23 } : Room) s m ([.ref (ad k)] : List Value).toArray below meth cd s.heap [] 0 0 Q (F0 m 4 ls []) := by
    intro fu
    induction fu with
    | zero => intros; omega
    | succ fu ih4 =>
      intro i x1 ex1 hi hm4 ls hl
      subst ex1
      refine lv_iload_n hx hb (dk kX1_potted_ok 4 rfl) rfl (lv_at hl 2 rfl) ?_
      refine lv_iconst (v := nI 4) hx hb (dk kX1_potted_ok 5 rfl) rfl ?_
      refine n_icmp_ge (tgt := 23) hx hb (by omega) (by decide) (dk kX1_potted_ok 6 rfl) (by decide) (fun h1 => ?_) (fun h1 => ?_)
      · skip
        refine lv_iload_n hx hb (dk kX1_potted_ok 15 rfl) rfl (lv_at hl 1 rfl) ?_
        exact hret _ _ _ (by rw [show i = 4 by omega] <;> rfl) (dk kX1_potted_ok 16 rfl)
      · skip
        refine lv_iload_n hx hb (dk kX1_potted_ok 7 rfl) rfl (lv_at hl 1 rfl) ?_
        refine lv_aload_n hx hb (dk kX1_potted_ok 8 rfl) rfl (lv_at hl 0 rfl) ?_
        refine lv_iload_n hx hb (dk kX1_potted_ok 9 rfl) rfl (lv_at hl 2 rfl) ?_
        refine cvR (As := [.int (nI i)]) (rest := [.int (nI (sm (potc c) i))]) ⟨hx, hb, hml, hown, hts⟩ (tX1_pottedOf l D cI cQ cL ad N F k hk c b v hM (nI i) i rfl (by omega)) (cwV9 1 hts mcX1_pottedOf (ac3 _ (List.mem_of_getElem? (i := 4) rfl)) miX1_pottedOf meX1_pottedOf mini_RX1 rfl rfl hdX1_pottedOf ⟨Nat.le_of_ble_eq_true rfl, Nat.le_of_ble_eq_true rfl⟩) hK hP hNW hk0 f0 rfl rfl hl.1 rfl (Nat.le_of_ble_eq_true rfl) (by decide) (dk kX1_potted_ok 10 rfl) ?_
        refine n_iadd hx hb (dk kX1_potted_ok 11 rfl) ?_
        refine lv_istore_n (lv' := [(1, .int (nI ((sm (potc c) i) + (potc c i)))), (0, .ref (ad k)), (2, .int (nI i))]) hx hb (dk kX1_potted_ok 12 rfl) rfl hl (by decide) rfl (fun ls hl => ?_)
        refine lv_iinc (v := nI (i + 1)) (lv' := [(2, .int (nI (i + 1))), (1, .int (nI ((sm (potc c) i) + (potc c i)))), (0, .ref (ad k))]) hx hb (dk kX1_potted_ok 13 rfl) hl (k := 2) rfl (n_inc _) (by decide) rfl (fun ls hl => ?_)
        refine lv_goto (tgt := 4) hx hb (dk kX1_potted_ok 14 rfl) (by decide) ?_
        exact ih4 (i + 1) _ (by rfl) (by omega) (by omega) ls (lv_sub hl [2, 1, 0] rfl)
  exact L4 _ 0 _ (by first | rfl | omega) (by first | rfl | omega) (Nat.lt_succ_self _) ls (lv_sub hl [2, 1, 0] rfl)
set_option maxRecDepth 100000 in
set_option maxHeartbeats 4000000 in
theorem tX1_isAllPotted (l : Launch) (D : va_G) (cI cQ cL : ClassId) (ad : Nat → Nat) (N : Nat) (F : Nat → va_E) (k : Nat) (hk : k + 3 < N) (c b v : Nat → Int32) (hM : matAt cI ad F k c b v) (x : Int32) (w : Nat) (hxw : x = nI w) (hw : w < 4) : MR l yX1_isAllPotted (Cond.code yX1_isAllPotted cX1_isAllPotted 2 (some .boolean) :: AW) ({ frames := 1, cells := 0, slots := 0, locals := 23 } : Room) D cI cQ cL ad N F [.ref (ad k), .int x] (.int (bI (decide (potc c w = 4)))) := by
  refine mr_i (ty := .boolean) (by decide +kernel) rfl rfl rfl (bI_nar _) (Nat.le_of_ble_eq_true rfl) (fun p e s m below meth cd Q ls hx hb hml hown hts hP hK hNW hret hl => ?_)
  have hown : s.vm.findClass RX1 = some m.cls := hown
  subst hxw
  obtain ⟨f0, f1, f2, f3⟩ := id hM
  have hk0 : k < N := by omega
  have hk1 : k + 1 < N := by omega
  have hk2 : k + 2 < N := by omega
  have hk3 : k + 3 < N := hk
  have hl : lv_has ls 2 [(0, .ref (ad k)), (1, .int (nI w))] := hl
  refine lv_aload_n hx hb (dk kX1_isAllPotted_ok 0 rfl) rfl (lv_at hl 0 rfl) ?_
  refine lv_iload_n hx hb (dk kX1_isAllPotted_ok 1 rfl) rfl (lv_at hl 1 rfl) ?_
  refine cvR (As := [.int (nI w)]) (rest := []) ⟨hx, hb, hml, hown, hts⟩ (tX1_pottedOf l D cI cQ cL ad N F k hk c b v hM (nI w) w rfl (by omega)) (cwV9 1 hts mcX1_pottedOf (ac3 _ (List.mem_of_getElem? (i := 4) rfl)) miX1_pottedOf meX1_pottedOf mini_RX1 rfl rfl hdX1_pottedOf ⟨Nat.le_of_ble_eq_true rfl, Nat.le_of_ble_eq_true rfl⟩) hK hP hNW hk0 f0 rfl rfl hl.1 rfl (Nat.le_of_ble_eq_true rfl) (by decide) (dk kX1_isAllPotted_ok 2 rfl) ?_
  refine lv_iconst (v := nI 4) hx hb (dk kX1_isAllPotted_ok 3 rfl) rfl ?_
  refine n_icmp_ne (tgt := 13) hx hb (by have := potc_le c w; omega) (by decide) (dk kX1_isAllPotted_ok 4 rfl) (by decide) (fun h1 => ?_) (fun h1 => ?_)
  · skip
    refine lv_iconst (v := nI 0) hx hb (dk kX1_isAllPotted_ok 7 rfl) rfl ?_
    exact hret _ _ _ (by simp only [(eq_false h1), decide_true, decide_false]; rfl) (dk kX1_isAllPotted_ok 8 rfl)
  · skip
    refine lv_iconst (v := nI 1) hx hb (dk kX1_isAllPotted_ok 5 rfl) rfl ?_
    refine lv_goto (tgt := 14) hx hb (dk kX1_isAllPotted_ok 6 rfl) (by decide) ?_
    exact hret _ _ _ (by simp only [(eq_true h1), decide_true, decide_false]; rfl) (dk kX1_isAllPotted_ok 8 rfl)
set_option maxRecDepth 100000 in
set_option maxHeartbeats 4000000 in
theorem tX1_isOver (l : Launch) (D : va_G) (cI cQ cL : ClassId) (ad : Nat → Nat) (N : Nat) (F : Nat → va_E) (k : Nat) (hk : k + 3 < N) (c b v : Nat → Int32) (hM : matAt cI ad F k c b v) : MR l yX1_isOver (Cond.code yX1_isOver cX1_isOver 2 (some .boolean) :: AW) ({ frames := 2, cells := 0, slots := 0, locals := 44 } : Room) D cI cQ cL ad N F [.ref (ad k)] (.int (bI (over c))) := by
  refine mr_i (ty := .boolean) (by decide +kernel) rfl rfl rfl (bI_nar _) (Nat.le_of_ble_eq_true rfl) (fun p e s m below meth cd Q ls hx hb hml hown hts hP hK hNW hret hl => ?_)
  have hown : s.vm.findClass RX1 = some m.cls := hown
  obtain ⟨f0, f1, f2, f3⟩ := id hM
  have hk0 : k < N := by omega
  have hk1 : k + 1 < N := by omega
  have hk2 : k + 2 < N := by omega
  have hk3 : k + 3 < N := hk
  have hl : lv_has ls 2 [(0, .ref (ad k))] := hl
  refine lv_iconst (v := nI 0) hx hb (dk kX1_isOver_ok 0 rfl) rfl ?_
  refine lv_istore_n (lv' := [(1, .int (nI 0)), (0, .ref (ad k))]) hx hb (dk kX1_isOver_ok 1 rfl) rfl hl (by decide) rfl (fun ls hl => ?_)
  have L2 : ∀ (fu : Nat) (i : Nat), i ≤ 4 → over c = anyl (fun k => decide (potc c k = 4)) (4 - i) i → 4 - i < fu → ∀ ls : Array Slot, lv_has ls 2 [(0, .ref (ad k)), (1, .int (nI i))] → W p l e ({ frames := 2, cells := 0, slots := 0, locals := 44 } : Room) s m ([.ref (ad k)] : List Value).toArray below meth cd s.heap [] 0 0 Q (F0 m 2 ls []) := by
    intro fu
    induction fu with
    | zero => intros; omega
    | succ fu ih2 =>
      intro i hi hr hm2 ls hl
      refine lv_iload_n hx hb (dk kX1_isOver_ok 2 rfl) rfl (lv_at hl 1 rfl) ?_
      refine lv_iconst (v := nI 4) hx hb (dk kX1_isOver_ok 3 rfl) rfl ?_
      refine n_icmp_ge (tgt := 23) hx hb (by omega) (by decide) (dk kX1_isOver_ok 4 rfl) (by decide) (fun h1 => ?_) (fun h1 => ?_)
      · skip
        refine lv_iconst (v := nI 0) hx hb (dk kX1_isOver_ok 13 rfl) rfl ?_
        exact hret _ _ _ (by first | (rw [hr, show 4 - i = (4 - (i + 1)) + 1 by omega]; simp only [anyl, (eq_true h1), (eq_false (Nat.not_lt.mpr h1)), decide_true, decide_false, not_true_eq_false, not_false_eq_true, and_true, true_and, and_false, false_and, or_true, true_or, or_false, false_or, and_self, or_self, if_true, if_false, Bool.false_eq_true, reduceIte]; rfl) | (rw [hr, show 4 - i = 0 by omega]; rfl)) (dk kX1_isOver_ok 14 rfl)
      · skip
        refine lv_aload_n hx hb (dk kX1_isOver_ok 5 rfl) rfl (lv_at hl 0 rfl) ?_
        refine lv_iload_n hx hb (dk kX1_isOver_ok 6 rfl) rfl (lv_at hl 1 rfl) ?_
        refine cvR (As := [.int (nI i)]) (rest := []) ⟨hx, hb, hml, hown, hts⟩ (tX1_isAllPotted l D cI cQ cL ad N F k hk c b v hM (nI i) i rfl (by omega)) (cwV9 1 hts mcX1_isAllPotted (ac3 _ (List.mem_of_getElem? (i := 8) rfl)) miX1_isAllPotted meX1_isAllPotted mini_RX1 rfl rfl hdX1_isAllPotted ⟨Nat.le_of_ble_eq_true rfl, Nat.le_of_ble_eq_true rfl⟩) hK hP hNW hk0 f0 rfl rfl hl.1 rfl (Nat.le_of_ble_eq_true rfl) (by decide) (dk kX1_isOver_ok 7 rfl) ?_
        refine b_if_eq (tgt := 17) hx hb (dk kX1_isOver_ok 8 rfl) (by decide) (fun h2 => ?_) (fun h2 => ?_)
        · replace h2 := of_decide_eq_false h2
          refine lv_iinc (v := nI (i + 1)) (lv' := [(1, .int (nI (i + 1))), (0, .ref (ad k))]) hx hb (dk kX1_isOver_ok 11 rfl) hl (k := 1) rfl (n_inc _) (by decide) rfl (fun ls hl => ?_)
          refine lv_goto (tgt := 2) hx hb (dk kX1_isOver_ok 12 rfl) (by decide) ?_
          exact ih2 (i + 1) (by omega) (by rw [hr, show 4 - i = (4 - (i + 1)) + 1 by omega]; simp only [anyl, (eq_true h1), (eq_false (Nat.not_le.mpr h1)), (eq_false h2), decide_true, decide_false, not_true_eq_false, not_false_eq_true, and_true, true_and, and_false, false_and, or_true, true_or, or_false, false_or, and_self, or_self, if_true, if_false, Bool.false_eq_true, reduceIte]) (by omega) ls (lv_sub hl [1, 0] rfl)
        · replace h2 := of_decide_eq_true h2
          refine lv_iconst (v := nI 1) hx hb (dk kX1_isOver_ok 9 rfl) rfl ?_
          exact hret _ _ _ (by first | (rw [hr, show 4 - i = (4 - (i + 1)) + 1 by omega]; simp only [anyl, (eq_true h1), (eq_false (Nat.not_le.mpr h1)), (eq_true h2), decide_true, decide_false, not_true_eq_false, not_false_eq_true, and_true, true_and, and_false, false_and, or_true, true_or, or_false, false_or, and_self, or_self, if_true, if_false, Bool.false_eq_true, reduceIte]; rfl) | (rw [hr, show 4 - i = 0 by omega]; rfl)) (dk kX1_isOver_ok 10 rfl)
  exact L2 _ 0 (by first | rfl | omega) (by first | rfl | omega) (Nat.lt_succ_self _) ls (lv_sub hl [1, 0] rfl)
set_option maxRecDepth 100000 in
set_option maxHeartbeats 4000000 in
theorem tX1_pointsOf (l : Launch) (D : va_G) (cI cQ cL : ClassId) (ad : Nat → Nat) (N : Nat) (F : Nat → va_E) (k : Nat) (hk : k + 3 < N) (c b v : Nat → Int32) (hM : matAt cI ad F k c b v) (x : Int32) (w : Nat) (hxw : x = nI w) (hw : w < 4) : MR l yX1_pointsOf (Cond.code yX1_pointsOf cX1_pointsOf 6 (some .int) :: AW) ({ frames := 2, cells := 0, slots := 0, locals := 41 } : Room) D cI cQ cL ad N F [.ref (ad k), .int x] (.int (nI (ptc c v w))) := by
  refine mr_i (ty := .int) (by decide +kernel) rfl rfl rfl rfl (Nat.le_of_ble_eq_true rfl) (fun p e s m below meth cd Q ls hx hb hml hown hts hP hK hNW hret hl => ?_)
  have hown : s.vm.findClass RX1 = some m.cls := hown
  subst hxw
  obtain ⟨f0, f1, f2, f3⟩ := id hM
  have hk0 : k < N := by omega
  have hk1 : k + 1 < N := by omega
  have hk2 : k + 2 < N := by omega
  have hk3 : k + 3 < N := hk
  have hl : lv_has ls 6 [(0, .ref (ad k)), (1, .int (nI w))] := hl
  refine lv_iload_n hx hb (dk kX1_pointsOf_ok 0 rfl) rfl (lv_at hl 1 rfl) ?_
  refine csPN (As := [.int (nI w)]) (rest := []) ⟨hx, hb, hml, hown, hts⟩ (tX5_baseOf l (nI w) w rfl (by omega)) (cwN9 1 hts mcX5_baseOf (nm2 hNW) mini_RX5 rfl rfl hdX5_baseOf ⟨Nat.le_of_ble_eq_true rfl, Nat.le_of_ble_eq_true rfl⟩) (hts _ (List.mem_cons_of_mem _ msX5_baseOf)) rfl hl.1 rfl (Nat.le_of_ble_eq_true rfl) (by decide) (dk kX1_pointsOf_ok 1 rfl) ?_
  refine lv_istore_n (lv' := [(2, .int (nI (bs w))), (0, .ref (ad k)), (1, .int (nI w))]) hx hb (dk kX1_pointsOf_ok 2 rfl) rfl hl (by decide) rfl (fun ls hl => ?_)
  refine lv_iconst (v := nI 0) hx hb (dk kX1_pointsOf_ok 3 rfl) rfl ?_
  refine lv_istore_n (lv' := [(3, .int (nI 0)), (2, .int (nI (bs w))), (0, .ref (ad k)), (1, .int (nI w))]) hx hb (dk kX1_pointsOf_ok 4 rfl) rfl hl (by decide) rfl (fun ls hl => ?_)
  refine lv_iconst (v := nI 0) hx hb (dk kX1_pointsOf_ok 5 rfl) rfl ?_
  refine lv_istore (lv' := [(4, .int (nI 0)), (3, .int (nI 0)), (2, .int (nI (bs w))), (0, .ref (ad k)), (1, .int (nI w))]) hx hb (dk kX1_pointsOf_ok 6 rfl) hl (by decide) rfl (fun ls hl => ?_)
  have L10 : ∀ (fu : Nat) (i : Nat) (x3 : Int32), x3 = nI (sm (ptw c v w) i) → i ≤ 4 → 4 - i < fu → ∀ ls : Array Slot, lv_has ls 6 [(0, .ref (ad k)), (1, .int (nI w)), (2, .int (nI (bs w))), (3, .int x3), (4, .int (nI i))] → W p l e ({ frames := 2, cells := 0, slots := 0, locals := 41 } : Room) s m ([.ref (ad k), .int (nI w)] : List Value).toArray below meth cd s.heap [] 0 0 Q (F0 m 10 ls []) := by
    intro fu
    induction fu with
    | zero => intros; omega
    | succ fu ih10 =>
      intro i x3 ex3 hi hm10 ls hl
      subst ex3
      refine lv_iload hx hb (dk kX1_pointsOf_ok 7 rfl) (lv_at hl 4 rfl) ?_
      refine lv_iconst (v := nI 4) hx hb (dk kX1_pointsOf_ok 8 rfl) rfl ?_
      refine n_icmp_ge (tgt := 68) hx hb (by omega) (by decide) (dk kX1_pointsOf_ok 9 rfl) (by decide) (fun h1 => ?_) (fun h1 => ?_)
      · skip
        refine lv_iload_n hx hb (dk kX1_pointsOf_ok 35 rfl) rfl (lv_at hl 3 rfl) ?_
        exact hret _ _ _ (by rw [show i = 4 by omega] <;> rfl) (dk kX1_pointsOf_ok 36 rfl)
      · skip
        refine lv_iconst (v := nI 4) hx hb (dk kX1_pointsOf_ok 10 rfl) rfl ?_
        refine lv_iload_n hx hb (dk kX1_pointsOf_ok 11 rfl) rfl (lv_at hl 1 rfl) ?_
        refine n_imul hx hb (dk kX1_pointsOf_ok 12 rfl) ?_
        refine lv_iload hx hb (dk kX1_pointsOf_ok 13 rfl) (lv_at hl 4 rfl) ?_
        refine n_iadd hx hb (dk kX1_pointsOf_ok 14 rfl) ?_
        refine lv_istore (lv' := [(5, .int (nI ((4 * w) + i))), (0, .ref (ad k)), (1, .int (nI w)), (2, .int (nI (bs w))), (3, .int (nI (sm (ptw c v w) i))), (4, .int (nI i))]) hx hb (dk kX1_pointsOf_ok 15 rfl) hl (by decide) rfl (fun ls hl => ?_)
        refine lv_aload_n hx hb (dk kX1_pointsOf_ok 16 rfl) rfl (lv_at hl 1 rfl) ?_
        refine lv_iload hx hb (dk kX1_pointsOf_ok 17 rfl) (lv_at hl 0 rfl) ?_
        refine cvR (As := [.int (nI ((4 * w) + i))]) (rest := []) ⟨hx, hb, hml, hown, hts⟩ (tX1_isPotted l D cI cQ cL ad N F k hk c b v hM (nI ((4 * w) + i)) ((4 * w) + i) rfl (by omega)) (cwV9 1 hts mcX1_isPotted (ac2 _ (List.mem_of_getElem? (i := 0) rfl)) miX1_isPotted meX1_isPotted mini_RX1 rfl rfl hdX1_isPotted ⟨Nat.le_of_ble_eq_true rfl, Nat.le_of_ble_eq_true rfl⟩) hK hP hNW hk0 f0 rfl rfl hl.1 rfl (Nat.le_of_ble_eq_true rfl) (by decide) (dk kX1_pointsOf_ok 18 rfl) ?_
        refine b_if_eq (tgt := 39) hx hb (dk kX1_pointsOf_ok 19 rfl) (by decide) (fun h2 => ?_) (fun h2 => ?_)
        · skip
          refine lv_aload_n hx hb (dk kX1_pointsOf_ok 22 rfl) rfl (lv_at hl 1 rfl) ?_
          refine lv_iload hx hb (dk kX1_pointsOf_ok 23 rfl) (lv_at hl 0 rfl) ?_
          refine cvR (As := [.int (nI ((4 * w) + i))]) (rest := []) ⟨hx, hb, hml, hown, hts⟩ (tX1_isCovered l D cI cQ cL ad N F k hk c b v hM (nI ((4 * w) + i)) ((4 * w) + i) rfl (by omega)) (cwV9 1 hts mcX1_isCovered (ac2 _ (List.mem_of_getElem? (i := 16) rfl)) miX1_isCovered meX1_isCovered mini_RX1 rfl rfl hdX1_isCovered ⟨Nat.le_of_ble_eq_true rfl, Nat.le_of_ble_eq_true rfl⟩) hK hP hNW hk0 f0 rfl rfl hl.1 rfl (Nat.le_of_ble_eq_true rfl) (by decide) (dk kX1_pointsOf_ok 24 rfl) ?_
          refine b_if_ne (tgt := 62) hx hb (dk kX1_pointsOf_ok 25 rfl) (by decide) (fun h3 => ?_) (fun h3 => ?_)
          · skip
            refine lv_iinc (v := nI (i + 1)) (lv' := [(4, .int (nI (i + 1))), (5, .int (nI ((4 * w) + i))), (0, .ref (ad k)), (1, .int (nI w)), (2, .int (nI (bs w))), (3, .int (nI (sm (ptw c v w) i)))]) hx hb (dk kX1_pointsOf_ok 33 rfl) hl (k := 5) rfl (n_inc _) (by decide) rfl (fun ls hl => ?_)
            refine lv_goto (tgt := 10) hx hb (dk kX1_pointsOf_ok 34 rfl) (by decide) ?_
            exact ih10 (i + 1) _ (by simp only [pot, decide_eq_true_eq, decide_eq_false_iff_not] at h1 h2 h3; simp only [sm, ptw]; (repeat' split) <;> first | rfl | contradiction | (simp_all; done)) (by omega) (by omega) ls (lv_sub hl [2, 3, 4, 5, 0] rfl)
          · skip
            refine lv_aload_n hx hb (dk kX1_pointsOf_ok 26 rfl) rfl (lv_at hl 1 rfl) ?_
            refine gf hx hb hts (fun w h => List.mem_cons_of_mem _ (acX1 w h)) hown hK hP hk0 f0 rfl 0 (by decide) (hts _ (List.mem_cons_of_mem _ (ac0 _ (List.mem_of_getElem? (i := 22) rfl)))) (fun _ h => h) rfl (dk kX1_pointsOf_ok 27 rfl) ?_
            refine lv_iload hx hb (dk kX1_pointsOf_ok 28 rfl) (lv_at hl 0 rfl) ?_
            refine ald (j := ((4 * w) + i)) hx hb hK hP hk1 f1 rfl (by omega) (by decide) (dk kX1_pointsOf_ok 29 rfl) ?_
            refine lv_iload_n hx hb (dk kX1_pointsOf_ok 30 rfl) rfl (lv_at hl 3 rfl) ?_
            refine lv_icmp_eq (tgt := 62) hx hb (dk kX1_pointsOf_ok 31 rfl) (by decide) (fun h4 => ?_) (fun h4 => ?_)
            · skip
              refine lv_iinc (v := nI (i + 1)) (lv' := [(4, .int (nI (i + 1))), (5, .int (nI ((4 * w) + i))), (0, .ref (ad k)), (1, .int (nI w)), (2, .int (nI (bs w))), (3, .int (nI (sm (ptw c v w) i)))]) hx hb (dk kX1_pointsOf_ok 33 rfl) hl (k := 5) rfl (n_inc _) (by decide) rfl (fun ls hl => ?_)
              refine lv_goto (tgt := 10) hx hb (dk kX1_pointsOf_ok 34 rfl) (by decide) ?_
              exact ih10 (i + 1) _ (by simp only [pot, decide_eq_true_eq, decide_eq_false_iff_not] at h1 h2 h3 h4; simp only [sm, ptw]; (repeat' split) <;> first | rfl | contradiction | (simp_all; done)) (by omega) (by omega) ls (lv_sub hl [2, 3, 4, 5, 0] rfl)
            · skip
              refine lv_iinc (v := nI ((sm (ptw c v w) i) + 1)) (lv' := [(3, .int (nI ((sm (ptw c v w) i) + 1))), (5, .int (nI ((4 * w) + i))), (0, .ref (ad k)), (1, .int (nI w)), (2, .int (nI (bs w))), (4, .int (nI i))]) hx hb (dk kX1_pointsOf_ok 32 rfl) hl (k := 4) rfl (n_inc _) (by decide) rfl (fun ls hl => ?_)
              refine lv_iinc (v := nI (i + 1)) (lv' := [(4, .int (nI (i + 1))), (3, .int (nI ((sm (ptw c v w) i) + 1))), (5, .int (nI ((4 * w) + i))), (0, .ref (ad k)), (1, .int (nI w)), (2, .int (nI (bs w)))]) hx hb (dk kX1_pointsOf_ok 33 rfl) hl (k := 5) rfl (n_inc _) (by decide) rfl (fun ls hl => ?_)
              refine lv_goto (tgt := 10) hx hb (dk kX1_pointsOf_ok 34 rfl) (by decide) ?_
              exact ih10 (i + 1) _ (by simp only [pot, decide_eq_true_eq, decide_eq_false_iff_not] at h1 h2 h3 h4; simp only [sm, ptw]; (repeat' split) <;> first | rfl | contradiction | (simp_all; done)) (by omega) (by omega) ls (lv_sub hl [3, 4, 5, 1, 0] rfl)
        · skip
          refine lv_iinc (v := nI ((sm (ptw c v w) i) + 3)) (lv' := [(3, .int (nI ((sm (ptw c v w) i) + 3))), (5, .int (nI ((4 * w) + i))), (0, .ref (ad k)), (1, .int (nI w)), (2, .int (nI (bs w))), (4, .int (nI i))]) hx hb (dk kX1_pointsOf_ok 20 rfl) hl (k := 4) rfl (by rw [show Int32.ofInt 3 = nI 3 from rfl, nI_add]) (by decide) rfl (fun ls hl => ?_)
          refine lv_goto (tgt := 62) hx hb (dk kX1_pointsOf_ok 21 rfl) (by decide) ?_
          refine lv_iinc (v := nI (i + 1)) (lv' := [(4, .int (nI (i + 1))), (3, .int (nI ((sm (ptw c v w) i) + 3))), (5, .int (nI ((4 * w) + i))), (0, .ref (ad k)), (1, .int (nI w)), (2, .int (nI (bs w)))]) hx hb (dk kX1_pointsOf_ok 33 rfl) hl (k := 5) rfl (n_inc _) (by decide) rfl (fun ls hl => ?_)
          refine lv_goto (tgt := 10) hx hb (dk kX1_pointsOf_ok 34 rfl) (by decide) ?_
          exact ih10 (i + 1) _ (by simp only [pot, decide_eq_true_eq, decide_eq_false_iff_not] at h1 h2; simp only [sm, ptw]; (repeat' split) <;> first | rfl | contradiction | (simp_all; done)) (by omega) (by omega) ls (lv_sub hl [3, 4, 5, 1, 0] rfl)
  exact L10 _ 0 _ (by first | rfl | omega) (by first | rfl | omega) (Nat.lt_succ_self _) ls (lv_sub hl [3, 4, 2, 1, 0] rfl)
set_option maxRecDepth 100000 in
set_option maxHeartbeats 4000000 in
theorem tX1_pointsOfTeam (l : Launch) (D : va_G) (cI cQ cL : ClassId) (ad : Nat → Nat) (N : Nat) (F : Nat → va_E) (k : Nat) (hk : k + 3 < N) (c b v : Nat → Int32) (hM : matAt cI ad F k c b v) (x : Int32) (w : Nat) (hxw : x = nI w) (hw : w < 2) : MR l yX1_pointsOfTeam (Cond.code yX1_pointsOfTeam cX1_pointsOfTeam 2 (some .int) :: AW) ({ frames := 3, cells := 0, slots := 0, locals := 66 } : Room) D cI cQ cL ad N F [.ref (ad k), .int x] (.int (nI (ptt c v w))) := by
  refine mr_i (ty := .int) (by decide +kernel) rfl rfl rfl rfl (Nat.le_of_ble_eq_true rfl) (fun p e s m below meth cd Q ls hx hb hml hown hts hP hK hNW hret hl => ?_)
  have hown : s.vm.findClass RX1 = some m.cls := hown
  subst hxw
  obtain ⟨f0, f1, f2, f3⟩ := id hM
  have hk0 : k < N := by omega
  have hk1 : k + 1 < N := by omega
  have hk2 : k + 2 < N := by omega
  have hk3 : k + 3 < N := hk
  have hl : lv_has ls 2 [(0, .ref (ad k)), (1, .int (nI w))] := hl
  refine lv_aload_n hx hb (dk kX1_pointsOfTeam_ok 0 rfl) rfl (lv_at hl 0 rfl) ?_
  refine lv_iload_n hx hb (dk kX1_pointsOfTeam_ok 1 rfl) rfl (lv_at hl 1 rfl) ?_
  refine cvR (As := [.int (nI w)]) (rest := []) ⟨hx, hb, hml, hown, hts⟩ (tX1_pointsOf l D cI cQ cL ad N F k hk c b v hM (nI w) w rfl (by omega)) (cwV9 1 hts mcX1_pointsOf (ac3 _ (List.mem_of_getElem? (i := 12) rfl)) miX1_pointsOf meX1_pointsOf mini_RX1 rfl rfl hdX1_pointsOf ⟨Nat.le_of_ble_eq_true rfl, Nat.le_of_ble_eq_true rfl⟩) hK hP hNW hk0 f0 rfl rfl hl.1 rfl (Nat.le_of_ble_eq_true rfl) (by decide) (dk kX1_pointsOfTeam_ok 2 rfl) ?_
  refine lv_aload_n hx hb (dk kX1_pointsOfTeam_ok 3 rfl) rfl (lv_at hl 0 rfl) ?_
  refine lv_iload_n hx hb (dk kX1_pointsOfTeam_ok 4 rfl) rfl (lv_at hl 1 rfl) ?_
  refine lv_iconst (v := nI 2) hx hb (dk kX1_pointsOfTeam_ok 5 rfl) rfl ?_
  refine n_iadd hx hb (dk kX1_pointsOfTeam_ok 6 rfl) ?_
  refine cvR (As := [.int (nI (w + 2))]) (rest := [.int (nI (ptc c v w))]) ⟨hx, hb, hml, hown, hts⟩ (tX1_pointsOf l D cI cQ cL ad N F k hk c b v hM (nI (w + 2)) (w + 2) rfl (by omega)) (cwV9 1 hts mcX1_pointsOf (ac3 _ (List.mem_of_getElem? (i := 12) rfl)) miX1_pointsOf meX1_pointsOf mini_RX1 rfl rfl hdX1_pointsOf ⟨Nat.le_of_ble_eq_true rfl, Nat.le_of_ble_eq_true rfl⟩) hK hP hNW hk0 f0 rfl rfl hl.1 rfl (Nat.le_of_ble_eq_true rfl) (by decide) (dk kX1_pointsOfTeam_ok 7 rfl) ?_
  refine n_iadd hx hb (dk kX1_pointsOfTeam_ok 8 rfl) ?_
  exact hret _ _ _ (by rfl) (dk kX1_pointsOfTeam_ok 9 rfl)
set_option maxRecDepth 100000 in
set_option maxHeartbeats 4000000 in
theorem tX1_leadOf (l : Launch) (D : va_G) (cI cQ cL : ClassId) (ad : Nat → Nat) (N : Nat) (F : Nat → va_E) (k : Nat) (hk : k + 3 < N) (c b v : Nat → Int32) (hM : matAt cI ad F k c b v) (x : Int32) (w : Nat) (hxw : x = nI w) (hw : w < 2) : MR l yX1_leadOf (Cond.code yX1_leadOf cX1_leadOf 2 (some .int) :: AW) ({ frames := 4, cells := 0, slots := 0, locals := 87 } : Room) D cI cQ cL ad N F [.ref (ad k), .int x] (.int (nI (ptt c v w) - nI (ptt c v (1 - w)))) := by
  refine mr_i (ty := .int) (by decide +kernel) rfl rfl rfl rfl (Nat.le_of_ble_eq_true rfl) (fun p e s m below meth cd Q ls hx hb hml hown hts hP hK hNW hret hl => ?_)
  have hown : s.vm.findClass RX1 = some m.cls := hown
  subst hxw
  obtain ⟨f0, f1, f2, f3⟩ := id hM
  have hk0 : k < N := by omega
  have hk1 : k + 1 < N := by omega
  have hk2 : k + 2 < N := by omega
  have hk3 : k + 3 < N := hk
  have hl : lv_has ls 2 [(0, .ref (ad k)), (1, .int (nI w))] := hl
  refine lv_aload_n hx hb (dk kX1_leadOf_ok 0 rfl) rfl (lv_at hl 0 rfl) ?_
  refine lv_iload_n hx hb (dk kX1_leadOf_ok 1 rfl) rfl (lv_at hl 1 rfl) ?_
  refine cvR (As := [.int (nI w)]) (rest := []) ⟨hx, hb, hml, hown, hts⟩ (tX1_pointsOfTeam l D cI cQ cL ad N F k hk c b v hM (nI w) w rfl (by omega)) (cwV9 1 hts mcX1_pointsOfTeam (ac3 _ (List.mem_of_getElem? (i := 16) rfl)) miX1_pointsOfTeam meX1_pointsOfTeam mini_RX1 rfl rfl hdX1_pointsOfTeam ⟨Nat.le_of_ble_eq_true rfl, Nat.le_of_ble_eq_true rfl⟩) hK hP hNW hk0 f0 rfl rfl hl.1 rfl (Nat.le_of_ble_eq_true rfl) (by decide) (dk kX1_leadOf_ok 2 rfl) ?_
  refine lv_aload_n hx hb (dk kX1_leadOf_ok 3 rfl) rfl (lv_at hl 0 rfl) ?_
  refine lv_iconst (v := nI 1) hx hb (dk kX1_leadOf_ok 4 rfl) rfl ?_
  refine lv_iload_n hx hb (dk kX1_leadOf_ok 5 rfl) rfl (lv_at hl 1 rfl) ?_
  refine n_isub hx hb (by omega) (dk kX1_leadOf_ok 6 rfl) ?_
  refine cvR (As := [.int (nI (1 - w))]) (rest := [.int (nI (ptt c v w))]) ⟨hx, hb, hml, hown, hts⟩ (tX1_pointsOfTeam l D cI cQ cL ad N F k hk c b v hM (nI (1 - w)) (1 - w) rfl (by omega)) (cwV9 1 hts mcX1_pointsOfTeam (ac3 _ (List.mem_of_getElem? (i := 16) rfl)) miX1_pointsOfTeam meX1_pointsOfTeam mini_RX1 rfl rfl hdX1_pointsOfTeam ⟨Nat.le_of_ble_eq_true rfl, Nat.le_of_ble_eq_true rfl⟩) hK hP hNW hk0 f0 rfl rfl hl.1 rfl (Nat.le_of_ble_eq_true rfl) (by decide) (dk kX1_leadOf_ok 7 rfl) ?_
  refine lv_isub hx hb (dk kX1_leadOf_ok 8 rfl) ?_
  exact hret _ _ _ (by rfl) (dk kX1_leadOf_ok 9 rfl)
set_option maxRecDepth 100000 in
set_option maxHeartbeats 4000000 in
theorem tX1_liesBelow (l : Launch) (D : va_G) (cI cQ cL : ClassId) (ad : Nat → Nat) (N : Nat) (F : Nat → va_E) (k : Nat) (hk : k + 3 < N) (c b v : Nat → Int32) (hM : matAt cI ad F k c b v) (x : Int32) (w : Nat) (hxw : x = nI w) (hw : w < 16) (y : Int32) (g : Nat) (hyg : y = nI g) (hg : g < 2 ^ 31) : MR l yX1_liesBelow (Cond.code yX1_liesBelow cX1_liesBelow 5 (some .boolean) :: AW) ({ frames := 1, cells := 0, slots := 0, locals := 20 } : Room) D cI cQ cL ad N F [.ref (ad k), .int x, .int y] (.int (bI (lbl v g 16 (v w)))) := by
  refine mr_i (ty := .boolean) (by decide +kernel) rfl rfl rfl (bI_nar _) (Nat.le_of_ble_eq_true rfl) (fun p e s m below meth cd Q ls hx hb hml hown hts hP hK hNW hret hl => ?_)
  have hown : s.vm.findClass RX1 = some m.cls := hown
  subst hxw
  subst hyg
  obtain ⟨f0, f1, f2, f3⟩ := id hM
  have hk0 : k < N := by omega
  have hk1 : k + 1 < N := by omega
  have hk2 : k + 2 < N := by omega
  have hk3 : k + 3 < N := hk
  have hl : lv_has ls 5 [(0, .ref (ad k)), (1, .int (nI w)), (2, .int (nI g))] := hl
  refine lv_aload_n hx hb (dk kX1_liesBelow_ok 0 rfl) rfl (lv_at hl 0 rfl) ?_
  refine gf hx hb hts (fun w h => List.mem_cons_of_mem _ (acX1 w h)) hown hK hP hk0 f0 rfl 2 (by decide) (hts _ (List.mem_cons_of_mem _ (ac1 _ (List.mem_of_getElem? (i := 0) rfl)))) (fun _ h => h) rfl (dk kX1_liesBelow_ok 1 rfl) ?_
  refine lv_iload_n hx hb (dk kX1_liesBelow_ok 2 rfl) rfl (lv_at hl 1 rfl) ?_
  refine ald (j := w) hx hb hK hP hk3 f3 rfl (by omega) (by decide) (dk kX1_liesBelow_ok 3 rfl) ?_
  refine lv_istore_n (lv' := [(3, .int (v w)), (0, .ref (ad k)), (1, .int (nI w)), (2, .int (nI g))]) hx hb (dk kX1_liesBelow_ok 4 rfl) rfl hl (by decide) rfl (fun ls hl => ?_)
  refine lv_iconst (v := nI 0) hx hb (dk kX1_liesBelow_ok 5 rfl) rfl ?_
  refine lv_istore (lv' := [(4, .int (nI 0)), (3, .int (v w)), (0, .ref (ad k)), (1, .int (nI w)), (2, .int (nI g))]) hx hb (dk kX1_liesBelow_ok 6 rfl) hl (by decide) rfl (fun ls hl => ?_)
  have L10 : ∀ (fu : Nat) (i : Nat) (x : Int32), i ≤ 16 → lbl v g 16 (v w) = lbl v g (16 - i) x → 16 - i < fu → ∀ ls : Array Slot, lv_has ls 5 [(0, .ref (ad k)), (1, .int (nI w)), (2, .int (nI g)), (3, .int x), (4, .int (nI i))] → W p l e ({ frames := 1, cells := 0, slots := 0, locals := 20 } : Room) s m ([.ref (ad k), .int (nI w), .int (nI g)] : List Value).toArray below meth cd s.heap [] 0 0 Q (F0 m 10 ls []) := by
    intro fu
    induction fu with
    | zero => intros; omega
    | succ fu ih10 =>
      intro i x hi hr hm10 ls hl
      refine lv_iload hx hb (dk kX1_liesBelow_ok 7 rfl) (lv_at hl 4 rfl) ?_
      refine lv_bipush (v := nI 16) hx hb (dk kX1_liesBelow_ok 8 rfl) rfl ?_
      refine n_icmp_ge (tgt := 47) hx hb (by first | omega | (have := wk_lt h2; omega)) (by decide) (dk kX1_liesBelow_ok 9 rfl) (by decide) (fun h1 => ?_) (fun h1 => ?_)
      · skip
        refine lv_iconst (v := nI 0) hx hb (dk kX1_liesBelow_ok 26 rfl) rfl ?_
        exact hret _ _ _ (by first | (rw [hr, show 16 - i = (16 - (i + 1)) + 1 by omega]; simp [lbl, bI, h1]; done) | (rw [hr, show 16 - i = 0 by omega]; rfl)) (dk kX1_liesBelow_ok 27 rfl)
      · skip
        refine lv_iload_n hx hb (dk kX1_liesBelow_ok 10 rfl) rfl (lv_at hl 3 rfl) ?_
        refine csPN (As := [.int x]) (rest := []) ⟨hx, hb, hml, hown, hts⟩ (tX5_isWink l x) (cwN9 1 hts mcX5_isWink (nm7 hNW) mini_RX5 rfl rfl hdX5_isWink ⟨Nat.le_of_ble_eq_true rfl, Nat.le_of_ble_eq_true rfl⟩) (hts _ (List.mem_cons_of_mem _ msX5_isWink)) rfl hl.1 rfl (Nat.le_of_ble_eq_true rfl) (by decide) (dk kX1_liesBelow_ok 11 rfl) ?_
        refine b_if_eq (tgt := 47) hx hb (dk kX1_liesBelow_ok 12 rfl) (by decide) (fun h2 => ?_) (fun h2 => ?_)
        · skip
          refine lv_iconst (v := nI 0) hx hb (dk kX1_liesBelow_ok 26 rfl) rfl ?_
          exact hret _ _ _ (by first | (rw [hr, show 16 - i = (16 - (i + 1)) + 1 by omega]; simp [lbl, bI, h1, h2]; done) | (rw [hr, show 16 - i = 0 by omega]; rfl)) (dk kX1_liesBelow_ok 27 rfl)
        · skip
          refine lv_iload_n hx hb (dk kX1_liesBelow_ok 13 rfl) rfl (lv_at hl 3 rfl) ?_
          refine csPN (As := [.int x]) (rest := []) ⟨hx, hb, hml, hown, hts⟩ (tX5_colourOf l x (ix x) (wk_eq h2) (by have := wk_lt h2; omega)) (cwN9 1 hts mcX5_colourOf (nm1 hNW) mini_RX5 rfl rfl hdX5_colourOf ⟨Nat.le_of_ble_eq_true rfl, Nat.le_of_ble_eq_true rfl⟩) (hts _ (List.mem_cons_of_mem _ msX5_colourOf)) rfl hl.1 rfl (Nat.le_of_ble_eq_true rfl) (by decide) (dk kX1_liesBelow_ok 14 rfl) ?_
          refine lv_iload_n hx hb (dk kX1_liesBelow_ok 15 rfl) rfl (lv_at hl 2 rfl) ?_
          refine n_icmp_ne (tgt := 34) hx hb (by first | omega | (have := wk_lt h2; omega)) (by first | omega | (have := wk_lt h2; omega)) (dk kX1_liesBelow_ok 16 rfl) (by decide) (fun h3 => ?_) (fun h3 => ?_)
          · skip
            refine lv_aload_n hx hb (dk kX1_liesBelow_ok 19 rfl) rfl (lv_at hl 0 rfl) ?_
            refine gf hx hb hts (fun w h => List.mem_cons_of_mem _ (acX1 w h)) hown hK hP hk0 f0 rfl 2 (by decide) (hts _ (List.mem_cons_of_mem _ (ac1 _ (List.mem_of_getElem? (i := 0) rfl)))) (fun _ h => h) rfl (dk kX1_liesBelow_ok 20 rfl) ?_
            refine lv_iload_n hx hb (dk kX1_liesBelow_ok 21 rfl) rfl (lv_at hl 3 rfl) ?_
            refine ald (j := (ix x)) hx hb hK hP hk3 f3 (wk_eq h2) (wk_lt h2) (by decide) (dk kX1_liesBelow_ok 22 rfl) ?_
            refine lv_istore_n (lv' := [(3, .int (v (ix x))), (0, .ref (ad k)), (1, .int (nI w)), (2, .int (nI g)), (4, .int (nI i))]) hx hb (dk kX1_liesBelow_ok 23 rfl) rfl hl (by decide) rfl (fun ls hl => ?_)
            refine lv_iinc (v := nI (i + 1)) (lv' := [(4, .int (nI (i + 1))), (3, .int (v (ix x))), (0, .ref (ad k)), (1, .int (nI w)), (2, .int (nI g))]) hx hb (dk kX1_liesBelow_ok 24 rfl) hl (k := 4) rfl (n_inc _) (by decide) rfl (fun ls hl => ?_)
            refine lv_goto (tgt := 10) hx hb (dk kX1_liesBelow_ok 25 rfl) (by decide) ?_
            exact ih10 (i + 1) (v (ix x)) (by omega) (by rw [hr, show 16 - i = (16 - (i + 1)) + 1 by omega]; simp [lbl, h1, h2, h3]) (by omega) ls (lv_sub hl [2, 3, 4, 1, 0] rfl)
          · skip
            refine lv_iconst (v := nI 1) hx hb (dk kX1_liesBelow_ok 17 rfl) rfl ?_
            exact hret _ _ _ (by first | (rw [hr, show 16 - i = (16 - (i + 1)) + 1 by omega]; simp [lbl, bI, h1, h2, h3]; done) | (rw [hr, show 16 - i = 0 by omega]; rfl)) (dk kX1_liesBelow_ok 18 rfl)
  exact L10 _ 0 (v w) (by first | omega | rfl) (by first | omega | rfl) (Nat.lt_succ_self _) ls (lv_sub hl [2, 3, 4, 1, 0] rfl)
set_option maxRecDepth 100000 in
set_option maxHeartbeats 4000000 in
theorem tX1_othersBelow (l : Launch) (D : va_G) (cI cQ cL : ClassId) (ad : Nat → Nat) (N : Nat) (F : Nat → va_E) (k : Nat) (hk : k + 3 < N) (c b v : Nat → Int32) (hM : matAt cI ad F k c b v) (x : Int32) (w : Nat) (hxw : x = nI w) (hw : w < 4) : MR l yX1_othersBelow (Cond.code yX1_othersBelow cX1_othersBelow 4 (some .int) :: AW) ({ frames := 2, cells := 0, slots := 0, locals := 44 } : Room) D cI cQ cL ad N F [.ref (ad k), .int x] (.int (nI (cnt (oth v w) 16))) := by
  refine mr_i (ty := .int) (by decide +kernel) rfl rfl rfl rfl (Nat.le_of_ble_eq_true rfl) (fun p e s m below meth cd Q ls hx hb hml hown hts hP hK hNW hret hl => ?_)
  have hown : s.vm.findClass RX1 = some m.cls := hown
  subst hxw
  obtain ⟨f0, f1, f2, f3⟩ := id hM
  have hk0 : k < N := by omega
  have hk1 : k + 1 < N := by omega
  have hk2 : k + 2 < N := by omega
  have hk3 : k + 3 < N := hk
  have hl : lv_has ls 4 [(0, .ref (ad k)), (1, .int (nI w))] := hl
  refine lv_iconst (v := nI 0) hx hb (dk kX1_othersBelow_ok 0 rfl) rfl ?_
  refine lv_istore_n (lv' := [(2, .int (nI 0)), (0, .ref (ad k)), (1, .int (nI w))]) hx hb (dk kX1_othersBelow_ok 1 rfl) rfl hl (by decide) rfl (fun ls hl => ?_)
  refine lv_iconst (v := nI 0) hx hb (dk kX1_othersBelow_ok 2 rfl) rfl ?_
  refine lv_istore_n (lv' := [(3, .int (nI 0)), (2, .int (nI 0)), (0, .ref (ad k)), (1, .int (nI w))]) hx hb (dk kX1_othersBelow_ok 3 rfl) rfl hl (by decide) rfl (fun ls hl => ?_)
  have L4 : ∀ (fu : Nat) (i : Nat) (x2 : Int32), x2 = nI (cnt (oth v w) i) → i ≤ 16 → 16 - i < fu → ∀ ls : Array Slot, lv_has ls 4 [(0, .ref (ad k)), (1, .int (nI w)), (2, .int x2), (3, .int (nI i))] → W p l e ({ frames := 2, cells := 0, slots := 0, locals := 44 } : Room) s m ([.ref (ad k), .int (nI w)] : List Value).toArray below meth cd s.heap [] 0 0 Q (F0 m 4 ls []) := by
    intro fu
    induction fu with
    | zero => intros; omega
    | succ fu ih4 =>
      intro i x2 ex2 hi hm4 ls hl
      subst ex2
      refine lv_iload_n hx hb (dk kX1_othersBelow_ok 4 rfl) rfl (lv_at hl 3 rfl) ?_
      refine lv_bipush (v := nI 16) hx hb (dk kX1_othersBelow_ok 5 rfl) rfl ?_
      refine n_icmp_ge (tgt := 36) hx hb (by omega) (by decide) (dk kX1_othersBelow_ok 6 rfl) (by decide) (fun h1 => ?_) (fun h1 => ?_)
      · skip
        refine lv_iload_n hx hb (dk kX1_othersBelow_ok 19 rfl) rfl (lv_at hl 2 rfl) ?_
        exact hret _ _ _ (by rw [show i = 16 by omega] <;> rfl) (dk kX1_othersBelow_ok 20 rfl)
      · skip
        refine lv_iload_n hx hb (dk kX1_othersBelow_ok 7 rfl) rfl (lv_at hl 3 rfl) ?_
        refine csPN (As := [.int (nI i)]) (rest := []) ⟨hx, hb, hml, hown, hts⟩ (tX5_colourOf l (nI i) i rfl (by omega)) (cwN9 1 hts mcX5_colourOf (nm1 hNW) mini_RX5 rfl rfl hdX5_colourOf ⟨Nat.le_of_ble_eq_true rfl, Nat.le_of_ble_eq_true rfl⟩) (hts _ (List.mem_cons_of_mem _ msX5_colourOf)) rfl hl.1 rfl (Nat.le_of_ble_eq_true rfl) (by decide) (dk kX1_othersBelow_ok 8 rfl) ?_
        refine lv_iload_n hx hb (dk kX1_othersBelow_ok 9 rfl) rfl (lv_at hl 1 rfl) ?_
        refine n_icmp_eq (tgt := 30) hx hb (by omega) (by omega) (dk kX1_othersBelow_ok 10 rfl) (by decide) (fun h2 => ?_) (fun h2 => ?_)
        · skip
          refine lv_iinc (v := nI (i + 1)) (lv' := [(3, .int (nI (i + 1))), (0, .ref (ad k)), (1, .int (nI w)), (2, .int (nI (cnt (oth v w) i)))]) hx hb (dk kX1_othersBelow_ok 17 rfl) hl (k := 3) rfl (n_inc _) (by decide) rfl (fun ls hl => ?_)
          refine lv_goto (tgt := 4) hx hb (dk kX1_othersBelow_ok 18 rfl) (by decide) ?_
          exact ih4 (i + 1) _ (by simp [cnt, h1, h2, oth]) (by omega) (by omega) ls (lv_sub hl [1, 2, 3, 0] rfl)
        · skip
          refine lv_aload_n hx hb (dk kX1_othersBelow_ok 11 rfl) rfl (lv_at hl 0 rfl) ?_
          refine lv_iload_n hx hb (dk kX1_othersBelow_ok 12 rfl) rfl (lv_at hl 3 rfl) ?_
          refine lv_iload_n hx hb (dk kX1_othersBelow_ok 13 rfl) rfl (lv_at hl 1 rfl) ?_
          refine cvR (As := [.int (nI i), .int (nI w)]) (rest := []) ⟨hx, hb, hml, hown, hts⟩ (tX1_liesBelow l D cI cQ cL ad N F k hk c b v hM (nI i) i rfl (by omega) (nI w) w rfl (by omega)) (cwV9 2 hts mcX1_liesBelow (ac3 _ (List.mem_of_getElem? (i := 20) rfl)) miX1_liesBelow meX1_liesBelow mini_RX1 rfl rfl hdX1_liesBelow ⟨Nat.le_of_ble_eq_true rfl, Nat.le_of_ble_eq_true rfl⟩) hK hP hNW hk0 f0 rfl rfl hl.1 rfl (Nat.le_of_ble_eq_true rfl) (by decide) (dk kX1_othersBelow_ok 14 rfl) ?_
          refine b_if_eq (tgt := 30) hx hb (dk kX1_othersBelow_ok 15 rfl) (by decide) (fun h3 => ?_) (fun h3 => ?_)
          · skip
            refine lv_iinc (v := nI (i + 1)) (lv' := [(3, .int (nI (i + 1))), (0, .ref (ad k)), (1, .int (nI w)), (2, .int (nI (cnt (oth v w) i)))]) hx hb (dk kX1_othersBelow_ok 17 rfl) hl (k := 3) rfl (n_inc _) (by decide) rfl (fun ls hl => ?_)
            refine lv_goto (tgt := 4) hx hb (dk kX1_othersBelow_ok 18 rfl) (by decide) ?_
            exact ih4 (i + 1) _ (by simp [cnt, h1, h2, h3, oth]) (by omega) (by omega) ls (lv_sub hl [1, 2, 3, 0] rfl)
          · skip
            refine lv_iinc (v := nI ((cnt (oth v w) i) + 1)) (lv' := [(2, .int (nI ((cnt (oth v w) i) + 1))), (0, .ref (ad k)), (1, .int (nI w)), (3, .int (nI i))]) hx hb (dk kX1_othersBelow_ok 16 rfl) hl (k := 2) rfl (n_inc _) (by decide) rfl (fun ls hl => ?_)
            refine lv_iinc (v := nI (i + 1)) (lv' := [(3, .int (nI (i + 1))), (2, .int (nI ((cnt (oth v w) i) + 1))), (0, .ref (ad k)), (1, .int (nI w))]) hx hb (dk kX1_othersBelow_ok 17 rfl) hl (k := 3) rfl (n_inc _) (by decide) rfl (fun ls hl => ?_)
            refine lv_goto (tgt := 4) hx hb (dk kX1_othersBelow_ok 18 rfl) (by decide) ?_
            exact ih4 (i + 1) _ (by simp [cnt, h1, h2, h3, oth]) (by omega) (by omega) ls (lv_sub hl [2, 3, 1, 0] rfl)
  exact L4 _ 0 _ (by first | rfl | omega) (by first | rfl | omega) (Nat.lt_succ_self _) ls (lv_sub hl [2, 3, 1, 0] rfl)
end
/-! from write -/
section
/-- a method that writes, in a world: what it answers and leaves -/
def MX (l : Launch) (y : MethodName) (ws : List Cond) (rm : Room) (D : va_G) (cI cQ cL : ClassId) (ad : Nat → Nat) (N : Nat) (F : Nat → va_E) (args : List Value) (post : Option Value → (Nat → va_E) → Prop) (mc ms : Nat) : Prop :=
  ∀ sz : Nat, Met l y ws rm (va_Pc args (fun U => U.heap.size = sz ∧ iD ad N ∧ rW D cI cQ cL ad N F U)) (fun _ st o t => ∃ (v : Option Value) (F' : Nat → va_E), o = .returned v ∧ post v F' ∧ va_P D vwCl (iW ad N F') t.heap ∧ va_F (iA ad N sz) st t) mc ms (iA ad N sz)
/-- one answer, one world -/
def dp (r : Option Value) (G : Nat → va_E) : Option Value → (Nat → va_E) → Prop := fun v F' => v = r ∧ F' = G
theorem MX_blind {D : va_G} {cI cQ cL : ClassId} {ad : Nat → Nat} {N : Nat} {F : Nat → va_E} {args : List Value} {sz : Nat} : FrameBlind (va_Pc args (fun U => U.heap.size = sz ∧ iD ad N ∧ rW D cI cQ cL ad N F U)) :=
  fun a U g mk q => ⟨q.1, q.2.1, q.2.2.1, q.2.2.2.1, va_K.moved (u := U) (U := U.calling g mk a) (Vm.Alike.refl U.vm) q.2.2.2.2.1, NW.same rfl q.2.2.2.2.2⟩
section MXS
variable {l : Launch} {y : MethodName} {ws ws' : List Cond} {rm : Room} {cc : ByteArray} {maxL : Nat} {D : va_G} {cI cQ cL : ClassId} {ad : Nat → Nat} {N : Nat} {F : Nat → va_E} {args : List Value} {post : Option Value → (Nat → va_E) → Prop} {mc ms : Nat}
theorem mx_i {ty : FieldType} (hy : plainName y.cls = true) (hw : ws = Cond.code y cc maxL (some ty) :: ws') (hlen : (lg_sl args).length ≤ maxL)
    (body : ∀ (p : Program) (e : Env) (s : State) (m : MethodId) (below : List Frame) (meth : Method) (c : Code) (Q : State → Prop) (ls : Array Slot),
      p.tables.exec = Jvm.exec → c.code = cc → c.maxLocals = maxL → s.vm.findClass y.cls = some m.cls → (∀ w ∈ ws, w.before args.toArray s = true) → iD ad N → va_P D vwCl (iW ad N F) s.heap → va_K D vwCl (iT cI cQ cL) s → NW s → va_S (iA ad N s.heap.size) s.heap s.heap [] →
      (∀ (pc : Nat) (ls : Array Slot) (v : Int32) (H : Heap) (locs : List Loc) (F' : Nat → va_E) (k n : Nat), narrow ty (.int v) = .int v → post (some (.int v)) F' → va_P D vwCl (iW ad N F') H → va_S (iA ad N s.heap.size) s.heap H locs → k ≤ mc → n ≤ ms → decode cc pc = .ok (.ireturn, 1) → W p l e rm s m args.toArray below meth c H locs k n Q (F0 m pc ls [.int v])) →
      lv_has ls maxL (lv_args 0 args) → W p l e rm s m args.toArray below meth c s.heap [] 0 0 Q (F0 m 0 ls [])) : MX l y ws rm D cI cQ cL ad N F args post mc ms := by
  intro sz
  refine Met.ofW (cc := cc) (maxL := maxL) (ret := some ty) hy hw ?_
  intro p e s m args9 below meth c s₁ B hml hv
  obtain ⟨rfl, hsz, hDi, hP, hK, hNW⟩ := hv
  subst hsz
  have hl := lv_entry args (n := maxL) hlen
  rw [lg_entry_eq]
  exact body p e s m below meth c _ _ B.exec B.bytes hml (findClass_of_methodNamed B.named) (atoms_spec B.pre) hDi hP hK hNW va_S.rf (fun pc ls v H locs F' k n hn hp hP1 hS h1 h2 hd => by
    refine W.widen (k := mc) (n := ms) h1 h2 ?_
    exact W.zret B.exec B.bytes B.returns hn (fun t ht _ => ⟨_, F', rfl, hp, by rw [ht]; exact hP1, hS.F ht⟩) hS.2.2 hd B.notSynchronized) hl
theorem mx_v (hy : plainName y.cls = true) (hw : ws = Cond.code y cc maxL none :: ws') (hlen : (lg_sl args).length ≤ maxL)
    (body : ∀ (p : Program) (e : Env) (s : State) (m : MethodId) (below : List Frame) (meth : Method) (c : Code) (Q : State → Prop) (ls : Array Slot),
      p.tables.exec = Jvm.exec → c.code = cc → c.maxLocals = maxL → s.vm.findClass y.cls = some m.cls → (∀ w ∈ ws, w.before args.toArray s = true) → iD ad N → va_P D vwCl (iW ad N F) s.heap → va_K D vwCl (iT cI cQ cL) s → NW s → va_S (iA ad N s.heap.size) s.heap s.heap [] →
      (∀ (pc : Nat) (ls : Array Slot) (H : Heap) (locs : List Loc) (F' : Nat → va_E) (k n : Nat), post none F' → va_P D vwCl (iW ad N F') H → va_S (iA ad N s.heap.size) s.heap H locs → k ≤ mc → n ≤ ms → decode cc pc = .ok (.return_, 1) → W p l e rm s m args.toArray below meth c H locs k n Q (F0 m pc ls [])) →
      lv_has ls maxL (lv_args 0 args) → W p l e rm s m args.toArray below meth c s.heap [] 0 0 Q (F0 m 0 ls [])) : MX l y ws rm D cI cQ cL ad N F args post mc ms := by
  intro sz
  refine Met.ofW (cc := cc) (maxL := maxL) (ret := none) hy hw ?_
  intro p e s m args9 below meth c s₁ B hml hv
  obtain ⟨rfl, hsz, hDi, hP, hK, hNW⟩ := hv
  subst hsz
  have hl := lv_entry args (n := maxL) hlen
  rw [lg_entry_eq]
  exact body p e s m below meth c _ _ B.exec B.bytes hml (findClass_of_methodNamed B.named) (atoms_spec B.pre) hDi hP hK hNW va_S.rf (fun pc ls H locs F' k n hp hP1 hS h1 h2 hd => by
    refine W.widen (k := mc) (n := ms) h1 h2 ?_
    exact W.vret B.exec B.bytes B.returns (fun t ht _ => ⟨_, F', rfl, hp, by rw [ht]; exact hP1, hS.F ht⟩) hS.2.2 hd B.notSynchronized) hl
end MXS
section WROWS
variable {p : Program} {l : Launch} {e : Env} {R : Room} {s : State} {m : MethodId} {args : Array Value} {below : List Frame} {meth : Method} {c : Code} {H : Heap} {locs : List Loc} {cells slots : Nat} {Q : State → Prop}
variable {cc : ByteArray} {pc : Nat} {ls : Array Slot} {rest st0 : List Value} {D : va_G} {cI cQ cL : ClassId} {ad : Nat → Nat} {N : Nat} {F : Nat → va_E} {Ts : List Cond}
theorem iA_D (h : iD ad N) {F : Nat → va_E} {sz : Nat} : va_D (iA ad N sz) (iW ad N F) := iD_D h (fun k hk => Or.inl ⟨k, hk, rfl⟩)
theorem pf (F' : Nat → va_E) (hx : p.tables.exec = Jvm.exec) (hb : c.code = cc) {own ref C : String} {T : u_T} {n ci index : Nat} (hts : ∀ w ∈ Ts, w.before args s = true) (hin : ∀ w ∈ u_ws C T n, w ∈ Ts) (ty0 : Nat → FieldType) (hty : ∀ k, k < n → parseFieldDescriptor (T k).2.2.1 = some (ty0 k)) (hnm : ∀ a, a < n → ∀ b, b < n → a ≠ b → (T a).2.1 ≠ (T b).2.1) (hown : s.vm.findClass own = some m.cls) (hK : va_K D vwCl (iT cI cQ cL) s) (hDi : iD ad N) (hP : va_P D vwCl (iW ad N F) H) (hS : va_S (iA ad N s.heap.size) s.heap H locs) {k : Nat} (hk : k < N) {fs : List Value} (hF : F k = .inr (ci, fs)) (hc : vwCl[ci]? = some (C, T, n)) (j : Nat) (hj : j < n) (hlink : (Cond.fieldLink own index ref (T j).2.1 (T j).2.2.1).before args s = true) (hsame : ∀ x, s.fieldFound? (T j).1 (T j).2.1 (T j).2.2.1 = some x → s.fieldFound? ref (T j).2.1 (T j).2.2.1 = some x) (hfin : (T j).2.2.2 = false) {ty : FieldType} {v : Value} (hd : parseFieldDescriptor (T j).2.2.1 = some ty) (hn : narrow ty v = v) (hfit : fits ty v = true) (hl : j < fs.length) (hdg : decode cc pc = .ok (.putfield index, 3)) (hcan : va_up F k (.inr (ci, fs.set j v)) = F')
    (kk : ∀ (H1 : Heap) (locs1 : List Loc), va_P D vwCl (iW ad N F') H1 → va_S (iA ad N s.heap.size) s.heap H1 locs1 → W p l e R s m args below meth c H1 locs1 cells slots Q (F0 m (pc + 3) ls rest)) : W p l e R s m args below meth c H locs cells slots Q (F0 m pc ls (v :: .ref (ad k) :: rest)) :=
  va_put hx hb hts hin ty0 hty hnm hown hK hP (iA_D hDi) hS k (iW_at hk hF) hc j hj hlink hsame hfin hd hn hfit hl hdg (fun H1 locs1 hP1 hD1 hS1 => kk H1 locs1 (by rw [iW_set hk, hcan] at hP1; exact hP1) hS1)
theorem pfN (F' : Nat → va_E) (hx : p.tables.exec = Jvm.exec) (hb : c.code = cc) {own ref C host : String} {T : u_T} {n ci index : Nat} (hts : ∀ w ∈ Ts, w.before args s = true) (hin : ∀ w ∈ u_ws C T n, w ∈ Ts) (ty0 : Nat → FieldType) (hty : ∀ k, k < n → parseFieldDescriptor (T k).2.2.1 = some (ty0 k)) (hnm : ∀ a, a < n → ∀ b, b < n → a ≠ b → (T a).2.1 ≠ (T b).2.1) (hown : s.vm.findClass own = some m.cls) (hK : va_K D vwCl (iT cI cQ cL) s) (hDi : iD ad N) (hP : va_P D vwCl (iW ad N F) H) (hS : va_S (iA ad N s.heap.size) s.heap H locs) {k : Nat} (hk : k < N) {fs : List Value} (hF : F k = .inr (ci, fs)) (hc : vwCl[ci]? = some (C, T, n)) (j : Nat) (hj : j < n) (hlink : va_Nw (.fieldLinkNest own index ref (T j).2.1 (T j).2.2.1 host) s) (hsame : ∀ x, s.fieldFound? (T j).1 (T j).2.1 (T j).2.2.1 = some x → s.fieldFound? ref (T j).2.1 (T j).2.2.1 = some x) (hfin : (T j).2.2.2 = false) {ty : FieldType} {v : Value} (hd : parseFieldDescriptor (T j).2.2.1 = some ty) (hn : narrow ty v = v) (hfit : fits ty v = true) (hl : j < fs.length) (hdg : decode cc pc = .ok (.putfield index, 3)) (hcan : va_up F k (.inr (ci, fs.set j v)) = F')
    (kk : ∀ (H1 : Heap) (locs1 : List Loc), va_P D vwCl (iW ad N F') H1 → va_S (iA ad N s.heap.size) s.heap H1 locs1 → W p l e R s m args below meth c H1 locs1 cells slots Q (F0 m (pc + 3) ls rest)) : W p l e R s m args below meth c H locs cells slots Q (F0 m pc ls (v :: .ref (ad k) :: rest)) :=
  va_putN hx hb hts hin ty0 hty hnm hown hK hP (iA_D hDi) hS k (iW_at hk hF) hc j hj (va_Nw.use rfl hlink) hsame hfin hd hn hfit hl hdg (fun H1 locs1 hP1 hD1 hS1 => kk H1 locs1 (by rw [iW_set hk, hcan] at hP1; exact hP1) hS1)
theorem ast (F' : Nat → va_E) (hx : p.tables.exec = Jvm.exec) (hb : c.code = cc) (hK : va_K D vwCl (iT cI cQ cL) s) (hDi : iD ad N) (hP : va_P D vwCl (iW ad N F) H) (hS : va_S (iA ad N s.heap.size) s.heap H locs) {k n : Nat} {f : Nat → Int32} {x z : Int32} {j : Nat} (hk : k < N) (hF : F k = .inl (cI, n, .inl f)) (hxj : x = nI j) (hj : j < n) (hn : n < 2 ^ 31) (hdg : decode cc pc = .ok (.iastore, 1)) (hcan : va_up F k (.inl (cI, n, .inl (upd f j z))) = F')
    (kk : ∀ (H1 : Heap) (locs1 : List Loc), va_P D vwCl (iW ad N F') H1 → va_S (iA ad N s.heap.size) s.heap H1 locs1 → W p l e R s m args below meth c H1 locs1 cells slots Q (F0 m (pc + 1) ls rest)) : W p l e R s m args below meth c H locs cells slots Q (F0 m pc ls (.int z :: .int x :: .ref (ad k) :: rest)) := by
  subst hxj
  refine va_iast hx hb hK hP (iA_D hDi) hS k 0 (iW_at hk hF) rfl (vp_in_nI hj hn) hdg (fun H1 locs1 hP1 hD1 hS1 => kk H1 locs1 ?_ hS1)
  rw [nI_clamp (Nat.lt_trans hj hn), iW_set hk, hcan] at hP1
  exact hP1
theorem iA_up {H0 H : Heap} (hS : va_S (iA ad N H0.size) H0 H locs) : ∀ q, iA ad N H.size q → iA ad N H0.size q := fun q h => h.elim Or.inl (fun h => Or.inr (Nat.le_trans hS.1 h))
/-- behind a call that writes -/
theorem cW {post : Option Value → (Nat → va_E) → Prop} {mc ms : Nat} (hr : va_Run p l e R s m args below meth c H locs cells slots mc ms (F0 m pc ls st0) rest (fun st o t => ∃ (v : Option Value) (F' : Nat → va_E), o = .returned v ∧ post v F' ∧ va_P D vwCl (iW ad N F') t.heap ∧ va_F (iA ad N H.size) st t) (iA ad N H.size)) (hS : va_S (iA ad N s.heap.size) s.heap H locs)
    (kk : ∀ (v : Option Value) (F' : Nat → va_E) (H1 : Heap) (locs1 : List Loc), post v F' → va_P D vwCl (iW ad N F') H1 → va_S (iA ad N s.heap.size) s.heap H1 locs1 → W p l e R s m args below meth c H1 locs1 (cells + mc) (slots + ms) Q (F0 m (pc + 3) ls (v.toList ++ rest))) : W p l e R s m args below meth c H locs cells slots Q (F0 m pc ls st0) := by
  intro T hT X
  obtain ⟨v, st₀, t, T', L, h0, X', hL, e1, e2, ⟨v9, F', hv, hp, hb, hF⟩, st⟩ := hr T hT X
  cases hv
  obtain ⟨-, -, k3⟩ := vx_keep h0 e1 hS (fun q _ h => iA_up hS q h) (iA_up hS) hL hF
  obtain ⟨t2, a1, b1⟩ := kk v F' T'.heap (locs ++ L) hp (by rw [e1]; exact hb) k3 T' rfl X'
  exact ⟨t2, st t2 a1, b1⟩
theorem MX_pre {argl : List Value} {U : State} (hDi : iD ad N) (hK : va_K D vwCl (iT cI cQ cL) s) (hP : va_P D vwCl (iW ad N F) H) (hNW : NW s) (hU : U.heap = H) (hW : s.WarmedH U.vm) : va_Pc argl (fun U => U.heap.size = H.size ∧ iD ad N ∧ rW D cI cQ cL ad N F U) argl.toArray U :=
  ⟨rfl, by rw [hU], hDi, by rw [hU]; exact hP, va_K.moved hW.alike hK, hNW.warm hW⟩
theorem cvW {nL index na mc ms : Nat} {own C : String} {y : MethodName} {bytes : ByteArray} {maxL : Nat} {ret : Option FieldType} {ws : List Cond} {rm : Room} {As : List Value} {post : Option Value → (Nat → va_E) → Prop} {k ci n : Nat} {T : u_T} {fs : List Value}
    (S : CallFix p m c cc nL s args Ts own) (hM : MX l y ws rm D cI cQ cL ad N F (.ref (ad k) :: As) post mc ms) (cw : CallW R s args own C index y bytes maxL ret ws rm mc ms na) (hDi : iD ad N) (hK : va_K D vwCl (iT cI cQ cL) s) (hP : va_P D vwCl (iW ad N F) H) (hNW : NW s) (hS : va_S (iA ad N s.heap.size) s.heap H locs) (hk : k < N) (hF : F k = .inr (ci, fs)) (hc : vwCl[ci]? = some (C, T, n))
    (hn : As.length = na) (hsize : ls.size = nL) (hstack : st0 = As.reverse ++ .ref (ad k) :: rest) (hW : (rest.map fun v => v.category).sum ≤ 8) (hf : cells + mc ≤ R.cells ∧ slots + ms ≤ R.slots) (hdg : decode cc pc = .ok (.invokevirtual index, 3))
    (kk : ∀ (v : Option Value) (F' : Nat → va_E) (H1 : Heap) (locs1 : List Loc), post v F' → va_P D vwCl (iW ad N F') H1 → va_S (iA ad N s.heap.size) s.heap H1 locs1 → W p l e R s m args below meth c H1 locs1 (cells + mc) (slots + ms) Q (F0 m (pc + 3) ls (v.toList ++ rest))) : W p l e R s m args below meth c H locs cells slots Q (F0 m pc ls st0) :=
  cW (va_runV (g := F0 m pc ls st0) S (hM H.size) cw ⟨MX_blind, icond hK hP hk hF hc, fun U hU hW => MX_pre hDi hK hP hNW hU hW⟩ rfl hn hsize hstack (lv_room hW) hdg hf) hS kk
/-- .. with one answer and one world -/
theorem cvD {nL index na : Nat} {own C : String} {y : MethodName} {bytes : ByteArray} {maxL : Nat} {ret : Option FieldType} {ws : List Cond} {rm : Room} {As : List Value} {r : Value} {G : Nat → va_E} {k ci n : Nat} {T : u_T} {fs : List Value} (F' : Nat → va_E)
    (S : CallFix p m c cc nL s args Ts own) (hM : MX l y ws rm D cI cQ cL ad N F (.ref (ad k) :: As) (dp (some r) G) 0 0) (cw : CallW R s args own C index y bytes maxL ret ws rm 0 0 na) (hDi : iD ad N) (hK : va_K D vwCl (iT cI cQ cL) s) (hP : va_P D vwCl (iW ad N F) H) (hNW : NW s) (hS : va_S (iA ad N s.heap.size) s.heap H locs) (hk : k < N) (hF : F k = .inr (ci, fs)) (hc : vwCl[ci]? = some (C, T, n))
    (hn : As.length = na) (hsize : ls.size = nL) (hstack : st0 = As.reverse ++ .ref (ad k) :: rest) (hW : (rest.map fun v => v.category).sum ≤ 8) (hf : cells + 0 ≤ R.cells ∧ slots + 0 ≤ R.slots) (hdg : decode cc pc = .ok (.invokevirtual index, 3)) (hcan : G = F')
    (kk : ∀ (H1 : Heap) (locs1 : List Loc), va_P D vwCl (iW ad N F') H1 → va_S (iA ad N s.heap.size) s.heap H1 locs1 → W p l e R s m args below meth c H1 locs1 cells slots Q (F0 m (pc + 3) ls (r :: rest))) : W p l e R s m args below meth c H locs cells slots Q (F0 m pc ls st0) :=
  cvW S hM cw hDi hK hP hNW hS hk hF hc hn hsize hstack hW hf hdg (fun v G9 H1 locs1 hp hP1 hS1 => by
    obtain ⟨rfl, rfl⟩ := hp
    exact kk H1 locs1 (by rw [← hcan]; exact hP1) hS1)
theorem cvDv {nL index na : Nat} {own C : String} {y : MethodName} {bytes : ByteArray} {maxL : Nat} {ret : Option FieldType} {ws : List Cond} {rm : Room} {As : List Value} {G : Nat → va_E} {k ci n : Nat} {T : u_T} {fs : List Value} (F' : Nat → va_E)
    (S : CallFix p m c cc nL s args Ts own) (hM : MX l y ws rm D cI cQ cL ad N F (.ref (ad k) :: As) (dp none G) 0 0) (cw : CallW R s args own C index y bytes maxL ret ws rm 0 0 na) (hDi : iD ad N) (hK : va_K D vwCl (iT cI cQ cL) s) (hP : va_P D vwCl (iW ad N F) H) (hNW : NW s) (hS : va_S (iA ad N s.heap.size) s.heap H locs) (hk : k < N) (hF : F k = .inr (ci, fs)) (hc : vwCl[ci]? = some (C, T, n))
    (hn : As.length = na) (hsize : ls.size = nL) (hstack : st0 = As.reverse ++ .ref (ad k) :: rest) (hW : (rest.map fun v => v.category).sum ≤ 8) (hf : cells + 0 ≤ R.cells ∧ slots + 0 ≤ R.slots) (hdg : decode cc pc = .ok (.invokevirtual index, 3)) (hcan : G = F')
    (kk : ∀ (H1 : Heap) (locs1 : List Loc), va_P D vwCl (iW ad N F') H1 → va_S (iA ad N s.heap.size) s.heap H1 locs1 → W p l e R s m args below meth c H1 locs1 cells slots Q (F0 m (pc + 3) ls rest)) : W p l e R s m args below meth c H locs cells slots Q (F0 m pc ls st0) :=
  cvW S hM cw hDi hK hP hNW hS hk hF hc hn hsize hstack hW hf hdg (fun v G9 H1 locs1 hp hP1 hS1 => by
    obtain ⟨rfl, rfl⟩ := hp
    exact kk H1 locs1 (by rw [← hcan]; exact hP1) hS1)
end WROWS
/-- the mat at k with other contents -/
def mSet (cI : ClassId) (F : Nat → va_E) (k : Nat) (c b v : Nat → Int32) : Nat → va_E := fun j => if j = k + 1 then .inl (cI, 16, .inl c) else if j = k + 2 then .inl (cI, 16, .inl b) else if j = k + 3 then .inl (cI, 16, .inl v) else F j
theorem mSet_self {cI : ClassId} {ad : Nat → Nat} {F : Nat → va_E} {k : Nat} {c b v : Nat → Int32} (h : matAt cI ad F k c b v) : mSet cI F k c b v = F := by
  funext j
  obtain ⟨-, h1, h2, h3⟩ := h
  unfold mSet
  split
  · next e => rw [e, h1]
  · split
    · next e => rw [e, h2]
    · split
      · next e => rw [e, h3]
      · rfl
theorem mSet_at {cI : ClassId} {ad : Nat → Nat} {F : Nat → va_E} {k : Nat} {c b v c' b' v' : Nat → Int32} (h : matAt cI ad F k c b v) : matAt cI ad (mSet cI F k c' b' v') k c' b' v' := by
  obtain ⟨h0, -, -, -⟩ := h
  refine ⟨?_, ?_, ?_, ?_⟩
  · simp [mSet, h0]
  · simp [mSet]
  · simp [mSet]
  · simp [mSet]
theorem mSet_mSet {cI : ClassId} {F : Nat → va_E} {k : Nat} {c b v c' b' v' : Nat → Int32} : mSet cI (mSet cI F k c b v) k c' b' v' = mSet cI F k c' b' v' := by
  funext j
  simp only [mSet]
  repeat' split
  all_goals rfl
theorem mSet_out {cI : ClassId} {F : Nat → va_E} {k j : Nat} {c b v : Nat → Int32} (h : j < k + 1 ∨ k + 3 < j) : mSet cI F k c b v j = F j := by
  unfold mSet
  rw [if_neg (by omega), if_neg (by omega), if_neg (by omega)]
theorem mSet_c {cI : ClassId} {F : Nat → va_E} {k : Nat} {c b v c' : Nat → Int32} : va_up (mSet cI F k c b v) (k + 1) (.inl (cI, 16, .inl c')) = mSet cI F k c' b v := by
  funext j
  simp only [va_up, mSet]
  repeat' split
  all_goals first | rfl | omega
theorem mSet_b {cI : ClassId} {F : Nat → va_E} {k : Nat} {c b v b' : Nat → Int32} : va_up (mSet cI F k c b v) (k + 2) (.inl (cI, 16, .inl b')) = mSet cI F k c b' v := by
  funext j
  simp only [va_up, mSet]
  repeat' split
  all_goals first | rfl | omega
theorem mSet_v {cI : ClassId} {F : Nat → va_E} {k : Nat} {c b v v' : Nat → Int32} : va_up (mSet cI F k c b v) (k + 3) (.inl (cI, 16, .inl v')) = mSet cI F k c b v' := by
  funext j
  simp only [va_up, mSet]
  repeat' split
  all_goals first | rfl | omega
end
/-! from spec2 -/
section
theorem nfw : nativeFrameWords "java/lang/System" "arraycopy" 5 = 7 := by decide +kernel
theorem cell_ext {cA : ClassId} {n : Nat} {f g : Nat → Int32} (h : ∀ j, j < n → f j = g j) : vp_cell cA (n, .inl f) = vp_cell cA (n, .inl g) := by
  show arrV cA n (fun j => .int (f j)) = arrV cA n (fun j => .int (g j))
  unfold arrV
  congr 1
  apply Array.ext
  · simp
  · intro i h1 h2
    simp only [Array.size_ofFn] at h1
    simp [h i h1]
theorem iW_ext {D : va_G} {cl : List vw_C} {ad : Nat → Nat} {N : Nat} {F F' : Nat → va_E} {H : Heap} (h : va_P D cl (iW ad N F) H) (e : ∀ k, k < N → F k = F' k ∨ ∃ (cA : ClassId) (n : Nat) (f g : Nat → Int32), F k = .inl (cA, n, .inl f) ∧ F' k = .inl (cA, n, .inl g) ∧ ∀ j, j < n → f j = g j) : va_P D cl (iW ad N F') H := by
  intro k q hq
  obtain ⟨hk, rfl⟩ := iW_inv hq
  have h1 := h k _ (iW_get hk)
  rcases e k hk with e1 | ⟨cA, n, f, g, e1, e2, e3⟩
  · rw [← e1]
    exact h1
  · rw [e2]
    rw [e1] at h1
    show H[ad k]? = some (vp_cell cA (n, .inl g))
    rw [← cell_ext e3]
    exact h1
section CPY
variable {p : Program} {l : Launch} {e : Env} {R : Room} {s : State} {m : MethodId} {args : Array Value} {below : List Frame} {meth : Method} {c : Code} {H : Heap} {locs : List Loc} {cells slots : Nat} {Q : State → Prop}
variable {cc : ByteArray} {pc : Nat} {ls : Array Slot} {rest st0 : List Value} {D : va_G} {cI cQ cL : ClassId} {ad : Nat → Nat} {N : Nat} {F : Nat → va_E} {Ts : List Cond}
/-- a whole row copied over another one -/
theorem cpy (F' : Nat → va_E) (hx : p.tables.exec = Jvm.exec) (hb : c.code = cc) (hml : c.maxLocals = ls.size) {own : String} {index : Nat} (hown : s.vm.findClass own = some m.cls) (hlink : (Cond.methodLink own index arraycopyName).before args s = true) (hnat : (Cond.native arraycopyName).before args s = true) (hstat : (Cond.static arraycopyName).before args s = true) (hini : (Cond.initialized "java/lang/System").before args s = true)
    (hK : va_K D vwCl (iT cI cQ cL) s) (hDi : iD ad N) (hP : va_P D vwCl (iW ad N F) H) (hS : va_S (iA ad N s.heap.size) s.heap H locs) {kS kD n : Nat} {f g : Nat → Int32} (hkS : kS < N) (hFS : F kS = .inl (cI, n, .inl f)) (hkD : kD < N) (hFD : F kD = .inl (cI, n, .inl g)) (hn : n < 2 ^ 31)
    (hframes : 1 ≤ R.frames) (hlocals : (rest.map fun v => v.category).sum + 18 ≤ R.locals) (hdg : decode cc pc = .ok (.invokestatic index, 3)) (hcan : va_up F kD (.inl (cI, n, .inl f)) = F')
    (kk : ∀ (H1 : Heap) (locs1 : List Loc), va_P D vwCl (iW ad N F') H1 → va_S (iA ad N s.heap.size) s.heap H1 locs1 → W p l e R s m args below meth c H1 locs1 cells slots Q (F0 m (pc + 3) ls rest)) : W p l e R s m args below meth c H locs cells slots Q (F0 m pc ls (.int (nI n) :: .int (nI 0) :: .ref (ad kD) :: .int (nI 0) :: .ref (ad kS) :: rest)) := by
  have z0 : (nI 0).toNatClampNeg = 0 := nI_clamp (by decide)
  have zn : (nI n).toNatClampNeg = n := nI_clamp hn
  refine va_copyi hx hb hml hown hlink hnat hstat hini hK hP (iA_D hDi) hS kS kD 0 0 (iW_at hkS hFS) (iW_at hkD hFD) (ty := .int) rfl rfl rfl (nI_pos (by decide)) (nI_pos (by decide)) (nI_pos hn) (by rw [z0, zn]; omega) (by rw [z0, zn]; omega) (fun _ _ => rfl) hframes (by rw [nfw]; exact hlocals) hdg (fun H1 locs1 hP1 hD1 hS1 => kk H1 locs1 ?_ hS1)
  rw [z0, zn, iW_set hkD] at hP1
  subst hcan
  refine iW_ext hP1 (fun k _ => ?_)
  by_cases e9 : k = kD
  · subst e9
    refine Or.inr ⟨cI, n, _, f, va_up_self _ _ _, va_up_self _ _ _, fun j hj => ?_⟩
    have := pk_cpy_in (f := f) (g := g) (sp := 0) (dp := 0) (n := n) (j := j) (Nat.zero_le _) (by omega)
    rw [this]
    congr 1
    omega
  · exact Or.inl (by rw [va_up_ne _ _ e9, va_up_ne _ _ e9])
end CPY
-- what the mat's writers do
def scl (v : Nat → Int32) (q : Int32) : Nat → (Nat → Int32) → Int32 → (Nat → Int32)
  | 0, c, _ => c
  | n + 1, c, x => if wk x = true then scl v q n (upd c (ix x) q) (v (ix x)) else c
def sep : Nat → (Nat → Int32) → (Nat → Int32) → Int32 → (Nat → Int32) × (Nat → Int32)
  | 0, b, v, _ => (b, v)
  | n + 1, b, v, x => if wk x = true then sep n (upd b (ix x) (-1)) (upd v (ix x) (-1)) (v (ix x)) else (b, v)
def cutv (b v : Nat → Int32) (w : Nat) : Nat → Int32 := if wk (b w) = true then upd v (ix (b w)) (-1) else v
def mov1 (c b v : Nat → Int32) (w : Nat) (q : Int32) : Nat → Int32 := if q = nI 84 then scl (cutv b v w) (-1) 16 c (nI w) else scl (cutv b v w) q 16 (scl (cutv b v w) (-1) 16 c (nI w)) (nI w)
def movt (c b v : Nat → Int32) (w : Nat) (q : Int32) : Int32 := top (scl (cutv b v w) (-1) 16 c (nI w)) (cutv b v w) q
def mov2 (c b v : Nat → Int32) (w : Nat) (q : Int32) : Nat → Int32 := if q = nI 84 then (sep 16 b (cutv b v w) (nI w)).1 else upd b w (movt c b v w q)
def mov3 (c b v : Nat → Int32) (w : Nat) (q : Int32) : Nat → Int32 := if q = nI 84 then (sep 16 b (cutv b v w) (nI w)).2 else if wk (movt c b v w q) = true then upd (cutv b v w) (ix (movt c b v w q)) (nI w) else cutv b v w
end
/-! from matw -/
section
set_option maxRecDepth 100000 in
set_option maxHeartbeats 4000000 in
theorem tX1_setCells (l : Launch) (D : va_G) (cI cQ cL : ClassId) (ad : Nat → Nat) (N : Nat) (F : Nat → va_E) (k : Nat) (hk : k + 3 < N) (c b v : Nat → Int32) (hM : matAt cI ad F k c b v) (x : Int32) (w : Nat) (hxw : x = nI w) (hw : w < 16) (q : Int32) : MX l yX1_setCells (Cond.code yX1_setCells cX1_setCells 5 none :: AW) ({ frames := 1, cells := 0, slots := 0, locals := 20 } : Room) D cI cQ cL ad N F [.ref (ad k), .int x, .int q] (dp none (mSet cI F k (scl v q 16 c (nI w)) b v)) 0 0 := by
  refine mx_v (by decide +kernel) rfl (Nat.le_of_ble_eq_true rfl) (fun p e s m below meth cd Q ls hx hb hml hown hts hDi hP hK hNW hS hret hl => ?_)
  have hown : s.vm.findClass RX1 = some m.cls := hown
  subst hxw
  have hk0 : k < N := by omega
  have hk1 : k + 1 < N := by omega
  have hk2 : k + 2 < N := by omega
  have hk3 : k + 3 < N := hk
  have hP : va_P D vwCl (iW ad N (mSet cI F k c b v)) s.heap := by rw [mSet_self hM]; exact hP
  have hl : lv_has ls 5 [(0, .ref (ad k)), (1, .int (nI w)), (2, .int q)] := hl
  refine lv_iload_n hx hb (dk kX1_setCells_ok 0 rfl) rfl (lv_at hl 1 rfl) ?_
  refine lv_istore_n (lv' := [(3, .int (nI w)), (0, .ref (ad k)), (1, .int (nI w)), (2, .int q)]) hx hb (dk kX1_setCells_ok 1 rfl) rfl hl (by decide) rfl (fun ls hl => ?_)
  refine lv_iconst (v := nI 0) hx hb (dk kX1_setCells_ok 2 rfl) rfl ?_
  refine lv_istore (lv' := [(4, .int (nI 0)), (3, .int (nI w)), (0, .ref (ad k)), (1, .int (nI w)), (2, .int q)]) hx hb (dk kX1_setCells_ok 3 rfl) hl (by decide) rfl (fun ls hl => ?_)
  have L5 : ∀ (fu : Nat) (i : Nat) (x : Int32) (c2 : Nat → Int32) (H : Heap) (locs : List Loc), va_P D vwCl (iW ad N (mSet cI F k c2 b v)) H → va_S (iA ad N s.heap.size) s.heap H locs → i ≤ 16 → scl v q 16 c (nI w) = scl v q (16 - i) c2 x → 16 - i < fu → ∀ ls : Array Slot, lv_has ls 5 [(0, .ref (ad k)), (1, .int (nI w)), (2, .int q), (3, .int x), (4, .int (nI i))] → W p l e ({ frames := 1, cells := 0, slots := 0, locals := 20 } : Room) s m ([.ref (ad k), .int (nI w), .int q] : List Value).toArray below meth cd H locs 0 0 Q (F0 m 5 ls []) := by
    intro fu
    induction fu with
    | zero => intros; omega
    | succ fu ih5 =>
      intro i x c2 H locs hP hS hi hr hm5 ls hl
      refine lv_iload hx hb (dk kX1_setCells_ok 4 rfl) (lv_at hl 4 rfl) ?_
      refine lv_bipush (v := nI 16) hx hb (dk kX1_setCells_ok 5 rfl) rfl ?_
      refine n_icmp_ge (tgt := 39) hx hb (by omega) (by decide) (dk kX1_setCells_ok 6 rfl) (by decide) (fun h1 => ?_) (fun h1 => ?_)
      · skip
        exact hret _ _ _ _ _ _ _ (by refine ⟨rfl, ?_⟩; first | (rw [hr, show 16 - i = (16 - (i + 1)) + 1 by omega]; simp [scl, h1]; done) | (rw [hr, show 16 - i = 0 by omega]; rfl)) hP hS (by decide) (by decide) (dk kX1_setCells_ok 22 rfl)
      · skip
        refine lv_iload_n hx hb (dk kX1_setCells_ok 7 rfl) rfl (lv_at hl 3 rfl) ?_
        refine csPN (As := [.int x]) (rest := []) ⟨hx, hb, hml, hown, hts⟩ (tX5_isWink l x) (cwN9 1 hts mcX5_isWink (nm7 hNW) mini_RX5 rfl rfl hdX5_isWink ⟨Nat.le_of_ble_eq_true rfl, Nat.le_of_ble_eq_true rfl⟩) (hts _ (List.mem_cons_of_mem _ msX5_isWink)) rfl hl.1 rfl (Nat.le_of_ble_eq_true rfl) (by decide) (dk kX1_setCells_ok 8 rfl) ?_
        refine b_if_eq (tgt := 39) hx hb (dk kX1_setCells_ok 9 rfl) (by decide) (fun h2 => ?_) (fun h2 => ?_)
        · skip
          exact hret _ _ _ _ _ _ _ (by refine ⟨rfl, ?_⟩; first | (rw [hr, show 16 - i = (16 - (i + 1)) + 1 by omega]; simp [scl, h1, h2]; done) | (rw [hr, show 16 - i = 0 by omega]; rfl)) hP hS (by decide) (by decide) (dk kX1_setCells_ok 22 rfl)
        · skip
          refine lv_aload_n hx hb (dk kX1_setCells_ok 10 rfl) rfl (lv_at hl 0 rfl) ?_
          refine gf hx hb hts (fun w h => List.mem_cons_of_mem _ (acX1 w h)) hown hK hP hk0 (mSet_at hM).1 rfl 0 (by decide) (hts _ (List.mem_cons_of_mem _ (ac0 _ (List.mem_of_getElem? (i := 22) rfl)))) (fun _ h => h) rfl (dk kX1_setCells_ok 11 rfl) ?_
          refine lv_iload_n hx hb (dk kX1_setCells_ok 12 rfl) rfl (lv_at hl 3 rfl) ?_
          refine lv_iload_n hx hb (dk kX1_setCells_ok 13 rfl) rfl (lv_at hl 2 rfl) ?_
          refine ast (mSet cI F k (upd c2 (ix x) q) b v) (j := (ix x)) hx hb hK hDi hP hS hk1 (mSet_at hM).2.1 (wk_eq h2) (wk_lt h2) (by decide) (dk kX1_setCells_ok 14 rfl) mSet_c (fun H locs hP hS => ?_)
          refine lv_aload_n hx hb (dk kX1_setCells_ok 15 rfl) rfl (lv_at hl 0 rfl) ?_
          refine gf hx hb hts (fun w h => List.mem_cons_of_mem _ (acX1 w h)) hown hK hP hk0 (mSet_at hM).1 rfl 2 (by decide) (hts _ (List.mem_cons_of_mem _ (ac1 _ (List.mem_of_getElem? (i := 0) rfl)))) (fun _ h => h) rfl (dk kX1_setCells_ok 16 rfl) ?_
          refine lv_iload_n hx hb (dk kX1_setCells_ok 17 rfl) rfl (lv_at hl 3 rfl) ?_
          refine ald (j := (ix x)) hx hb hK hP hk3 (mSet_at hM).2.2.2 (wk_eq h2) (wk_lt h2) (by decide) (dk kX1_setCells_ok 18 rfl) ?_
          refine lv_istore_n (lv' := [(3, .int (v (ix x))), (0, .ref (ad k)), (1, .int (nI w)), (2, .int q), (4, .int (nI i))]) hx hb (dk kX1_setCells_ok 19 rfl) rfl hl (by decide) rfl (fun ls hl => ?_)
          refine lv_iinc (v := nI (i + 1)) (lv' := [(4, .int (nI (i + 1))), (3, .int (v (ix x))), (0, .ref (ad k)), (1, .int (nI w)), (2, .int q)]) hx hb (dk kX1_setCells_ok 20 rfl) hl (k := 4) rfl (n_inc _) (by decide) rfl (fun ls hl => ?_)
          refine lv_goto (tgt := 5) hx hb (dk kX1_setCells_ok 21 rfl) (by decide) ?_
          exact ih5 (i + 1) (v (ix x)) (upd c2 (ix x) q) _ _ hP hS (by omega) (by rw [hr, show 16 - i = (16 - (i + 1)) + 1 by omega]; simp [scl, h1, h2]) (by omega) ls (lv_sub hl [2, 3, 4, 1, 0] rfl)
  exact L5 _ 0 (nI w) c _ _ hP hS (by first | omega | rfl) (by first | omega | rfl) (Nat.lt_succ_self _) ls (lv_sub hl [2, 3, 4, 1, 0] rfl)
set_option maxRecDepth 100000 in
set_option maxHeartbeats 4000000 in
theorem tX1_separate (l : Launch) (D : va_G) (cI cQ cL : ClassId) (ad : Nat → Nat) (N : Nat) (F : Nat → va_E) (k : Nat) (hk : k + 3 < N) (c b v : Nat → Int32) (hM : matAt cI ad F k c b v) (x : Int32) (w : Nat) (hxw : x = nI w) (hw : w < 16) : MX l yX1_separate (Cond.code yX1_separate cX1_separate 5 none :: AW) ({ frames := 1, cells := 0, slots := 0, locals := 20 } : Room) D cI cQ cL ad N F [.ref (ad k), .int x] (dp none (mSet cI F k c ((sep 16 b v (nI w)).1) ((sep 16 b v (nI w)).2))) 0 0 := by
  refine mx_v (by decide +kernel) rfl (Nat.le_of_ble_eq_true rfl) (fun p e s m below meth cd Q ls hx hb hml hown hts hDi hP hK hNW hS hret hl => ?_)
  have hown : s.vm.findClass RX1 = some m.cls := hown
  subst hxw
  have hk0 : k < N := by omega
  have hk1 : k + 1 < N := by omega
  have hk2 : k + 2 < N := by omega
  have hk3 : k + 3 < N := hk
  have hP : va_P D vwCl (iW ad N (mSet cI F k c b v)) s.heap := by rw [mSet_self hM]; exact hP
  have hl : lv_has ls 5 [(0, .ref (ad k)), (1, .int (nI w))] := hl
  refine lv_iload_n hx hb (dk kX1_separate_ok 0 rfl) rfl (lv_at hl 1 rfl) ?_
  refine lv_istore_n (lv' := [(2, .int (nI w)), (0, .ref (ad k)), (1, .int (nI w))]) hx hb (dk kX1_separate_ok 1 rfl) rfl hl (by decide) rfl (fun ls hl => ?_)
  refine lv_iconst (v := nI 0) hx hb (dk kX1_separate_ok 2 rfl) rfl ?_
  refine lv_istore_n (lv' := [(3, .int (nI 0)), (2, .int (nI w)), (0, .ref (ad k)), (1, .int (nI w))]) hx hb (dk kX1_separate_ok 3 rfl) rfl hl (by decide) rfl (fun ls hl => ?_)
  have L4 : ∀ (fu : Nat) (i : Nat) (x : Int32) (b2 v2 : Nat → Int32) (H : Heap) (locs : List Loc), va_P D vwCl (iW ad N (mSet cI F k c b2 v2)) H → va_S (iA ad N s.heap.size) s.heap H locs → i ≤ 16 → sep 16 b v (nI w) = sep (16 - i) b2 v2 x → 16 - i < fu → ∀ ls : Array Slot, lv_has ls 5 [(0, .ref (ad k)), (1, .int (nI w)), (2, .int x), (3, .int (nI i))] → W p l e ({ frames := 1, cells := 0, slots := 0, locals := 20 } : Room) s m ([.ref (ad k), .int (nI w)] : List Value).toArray below meth cd H locs 0 0 Q (F0 m 4 ls []) := by
    intro fu
    induction fu with
    | zero => intros; omega
    | succ fu ih4 =>
      intro i x b2 v2 H locs hP hS hi hr hm4 ls hl
      refine lv_iload_n hx hb (dk kX1_separate_ok 4 rfl) rfl (lv_at hl 3 rfl) ?_
      refine lv_bipush (v := nI 16) hx hb (dk kX1_separate_ok 5 rfl) rfl ?_
      refine n_icmp_ge (tgt := 48) hx hb (by omega) (by decide) (dk kX1_separate_ok 6 rfl) (by decide) (fun h1 => ?_) (fun h1 => ?_)
      · skip
        exact hret _ _ _ _ _ _ _ (by refine ⟨rfl, ?_⟩; first | (rw [hr, show 16 - i = (16 - (i + 1)) + 1 by omega]; simp [sep, h1]; done) | (rw [hr, show 16 - i = 0 by omega]; rfl)) hP hS (by decide) (by decide) (dk kX1_separate_ok 29 rfl)
      · skip
        refine lv_iload_n hx hb (dk kX1_separate_ok 7 rfl) rfl (lv_at hl 2 rfl) ?_
        refine csPN (As := [.int x]) (rest := []) ⟨hx, hb, hml, hown, hts⟩ (tX5_isWink l x) (cwN9 1 hts mcX5_isWink (nm7 hNW) mini_RX5 rfl rfl hdX5_isWink ⟨Nat.le_of_ble_eq_true rfl, Nat.le_of_ble_eq_true rfl⟩) (hts _ (List.mem_cons_of_mem _ msX5_isWink)) rfl hl.1 rfl (Nat.le_of_ble_eq_true rfl) (by decide) (dk kX1_separate_ok 8 rfl) ?_
        refine b_if_eq (tgt := 48) hx hb (dk kX1_separate_ok 9 rfl) (by decide) (fun h2 => ?_) (fun h2 => ?_)
        · skip
          exact hret _ _ _ _ _ _ _ (by refine ⟨rfl, ?_⟩; first | (rw [hr, show 16 - i = (16 - (i + 1)) + 1 by omega]; simp [sep, h1, h2]; done) | (rw [hr, show 16 - i = 0 by omega]; rfl)) hP hS (by decide) (by decide) (dk kX1_separate_ok 29 rfl)
        · skip
          refine lv_aload_n hx hb (dk kX1_separate_ok 10 rfl) rfl (lv_at hl 0 rfl) ?_
          refine gf hx hb hts (fun w h => List.mem_cons_of_mem _ (acX1 w h)) hown hK hP hk0 (mSet_at hM).1 rfl 2 (by decide) (hts _ (List.mem_cons_of_mem _ (ac1 _ (List.mem_of_getElem? (i := 0) rfl)))) (fun _ h => h) rfl (dk kX1_separate_ok 11 rfl) ?_
          refine lv_iload_n hx hb (dk kX1_separate_ok 12 rfl) rfl (lv_at hl 2 rfl) ?_
          refine ald (j := (ix x)) hx hb hK hP hk3 (mSet_at hM).2.2.2 (wk_eq h2) (wk_lt h2) (by decide) (dk kX1_separate_ok 13 rfl) ?_
          refine lv_istore (lv' := [(4, .int (v2 (ix x))), (0, .ref (ad k)), (1, .int (nI w)), (2, .int x), (3, .int (nI i))]) hx hb (dk kX1_separate_ok 14 rfl) hl (by decide) rfl (fun ls hl => ?_)
          refine lv_aload_n hx hb (dk kX1_separate_ok 15 rfl) rfl (lv_at hl 1 rfl) ?_
          refine gf hx hb hts (fun w h => List.mem_cons_of_mem _ (acX1 w h)) hown hK hP hk0 (mSet_at hM).1 rfl 1 (by decide) (hts _ (List.mem_cons_of_mem _ (ac0 _ (List.mem_of_getElem? (i := 23) rfl)))) (fun _ h => h) rfl (dk kX1_separate_ok 16 rfl) ?_
          refine lv_iload_n hx hb (dk kX1_separate_ok 17 rfl) rfl (lv_at hl 3 rfl) ?_
          refine lv_iconst (v := -1) hx hb (dk kX1_separate_ok 18 rfl) rfl ?_
          refine ast (mSet cI F k c (upd b2 (ix x) (-1)) v2) (j := (ix x)) hx hb hK hDi hP hS hk2 (mSet_at hM).2.2.1 (wk_eq h2) (wk_lt h2) (by decide) (dk kX1_separate_ok 19 rfl) mSet_b (fun H locs hP hS => ?_)
          refine lv_aload_n hx hb (dk kX1_separate_ok 20 rfl) rfl (lv_at hl 1 rfl) ?_
          refine gf hx hb hts (fun w h => List.mem_cons_of_mem _ (acX1 w h)) hown hK hP hk0 (mSet_at hM).1 rfl 2 (by decide) (hts _ (List.mem_cons_of_mem _ (ac1 _ (List.mem_of_getElem? (i := 0) rfl)))) (fun _ h => h) rfl (dk kX1_separate_ok 21 rfl) ?_
          refine lv_iload_n hx hb (dk kX1_separate_ok 22 rfl) rfl (lv_at hl 3 rfl) ?_
          refine lv_iconst (v := -1) hx hb (dk kX1_separate_ok 23 rfl) rfl ?_
          refine ast (mSet cI F k c (upd b2 (ix x) (-1)) (upd v2 (ix x) (-1))) (j := (ix x)) hx hb hK hDi hP hS hk3 (mSet_at hM).2.2.2 (wk_eq h2) (wk_lt h2) (by decide) (dk kX1_separate_ok 24 rfl) mSet_v (fun H locs hP hS => ?_)
          refine lv_iload hx hb (dk kX1_separate_ok 25 rfl) (lv_at hl 0 rfl) ?_
          refine lv_istore_n (lv' := [(2, .int (v2 (ix x))), (4, .int (v2 (ix x))), (0, .ref (ad k)), (1, .int (nI w)), (3, .int (nI i))]) hx hb (dk kX1_separate_ok 26 rfl) rfl hl (by decide) rfl (fun ls hl => ?_)
          refine lv_iinc (v := nI (i + 1)) (lv' := [(3, .int (nI (i + 1))), (2, .int (v2 (ix x))), (4, .int (v2 (ix x))), (0, .ref (ad k)), (1, .int (nI w))]) hx hb (dk kX1_separate_ok 27 rfl) hl (k := 4) rfl (n_inc _) (by decide) rfl (fun ls hl => ?_)
          refine lv_goto (tgt := 4) hx hb (dk kX1_separate_ok 28 rfl) (by decide) ?_
          exact ih4 (i + 1) (v2 (ix x)) (upd b2 (ix x) (-1)) (upd v2 (ix x) (-1)) _ _ hP hS (by omega) (by rw [hr, show 16 - i = (16 - (i + 1)) + 1 by omega]; simp [sep, h1, h2]) (by omega) ls (lv_sub hl [3, 4, 1, 0] rfl)
  exact L4 _ 0 (nI w) b v _ _ hP hS (by first | omega | rfl) (by first | omega | rfl) (Nat.lt_succ_self _) ls (lv_sub hl [2, 3, 1, 0] rfl)
set_option maxRecDepth 100000 in
set_option maxHeartbeats 4000000 in
theorem tX1_move (l : Launch) (D : va_G) (cI cQ cL : ClassId) (ad : Nat → Nat) (N : Nat) (F : Nat → va_E) (k : Nat) (hk : k + 3 < N) (c b v : Nat → Int32) (hM : matAt cI ad F k c b v) (x : Int32) (w : Nat) (hxw : x = nI w) (hw : w < 16) (q : Int32) : MX l yX1_move (Cond.code yX1_move cX1_move 5 none :: AW) ({ frames := 2, cells := 0, slots := 0, locals := 44 } : Room) D cI cQ cL ad N F [.ref (ad k), .int x, .int q] (dp none (mSet cI F k (mov1 c b v w q) (mov2 c b v w q) (mov3 c b v w q))) 0 0 := by
  refine mx_v (by decide +kernel) rfl (Nat.le_of_ble_eq_true rfl) (fun p e s m below meth cd Q ls hx hb hml hown hts hDi hP hK hNW hS hret hl => ?_)
  have hown : s.vm.findClass RX1 = some m.cls := hown
  subst hxw
  have hk0 : k < N := by omega
  have hk1 : k + 1 < N := by omega
  have hk2 : k + 2 < N := by omega
  have hk3 : k + 3 < N := hk
  have hP : va_P D vwCl (iW ad N (mSet cI F k c b v)) s.heap := by rw [mSet_self hM]; exact hP
  have hl : lv_has ls 5 [(0, .ref (ad k)), (1, .int (nI w)), (2, .int q)] := hl
  refine lv_aload_n hx hb (dk kX1_move_ok 0 rfl) rfl (lv_at hl 0 rfl) ?_
  refine gf hx hb hts (fun w h => List.mem_cons_of_mem _ (acX1 w h)) hown hK hP hk0 (mSet_at hM).1 rfl 1 (by decide) (hts _ (List.mem_cons_of_mem _ (ac0 _ (List.mem_of_getElem? (i := 23) rfl)))) (fun _ h => h) rfl (dk kX1_move_ok 1 rfl) ?_
  refine lv_iload_n hx hb (dk kX1_move_ok 2 rfl) rfl (lv_at hl 1 rfl) ?_
  refine ald (j := w) hx hb hK hP hk2 (mSet_at hM).2.2.1 rfl (by omega) (by decide) (dk kX1_move_ok 3 rfl) ?_
  refine lv_istore_n (lv' := [(3, .int (b w)), (0, .ref (ad k)), (1, .int (nI w)), (2, .int q)]) hx hb (dk kX1_move_ok 4 rfl) rfl hl (by decide) rfl (fun ls hl => ?_)
  refine lv_iload_n hx hb (dk kX1_move_ok 5 rfl) rfl (lv_at hl 0 rfl) ?_
  refine csPN (As := [.int (b w)]) (rest := []) ⟨hx, hb, hml, hown, hts⟩ (tX5_isWink l (b w)) (cwN9 1 hts mcX5_isWink (nm7 hNW) mini_RX5 rfl rfl hdX5_isWink ⟨Nat.le_of_ble_eq_true rfl, Nat.le_of_ble_eq_true rfl⟩) (hts _ (List.mem_cons_of_mem _ msX5_isWink)) rfl hl.1 rfl (Nat.le_of_ble_eq_true rfl) (by decide) (dk kX1_move_ok 6 rfl) ?_
  refine b_if_eq (tgt := 21) hx hb (dk kX1_move_ok 7 rfl) (by decide) (fun h1 => ?_) (fun h1 => ?_)
  · skip
    refine lv_aload_n hx hb (dk kX1_move_ok 13 rfl) rfl (lv_at hl 1 rfl) ?_
    refine lv_iload_n hx hb (dk kX1_move_ok 14 rfl) rfl (lv_at hl 2 rfl) ?_
    refine lv_iconst (v := -1) hx hb (dk kX1_move_ok 15 rfl) rfl ?_
    refine cvDv (As := [.int (nI w), .int (-1)]) (rest := []) (mSet cI F k (scl v (-1) 16 c (nI w)) b v) ⟨hx, hb, hml, hown, hts⟩ (tX1_setCells l D cI cQ cL ad N (mSet cI F k c b v) k hk c b v (mSet_at hM) (nI w) w rfl (by omega) (-1)) (cwV9 2 hts mcX1_setCells (ac1 _ (List.mem_of_getElem? (i := 11) rfl)) miX1_setCells meX1_setCells mini_RX1 rfl rfl hdX1_setCells ⟨Nat.le_of_ble_eq_true rfl, Nat.le_of_ble_eq_true rfl⟩) hDi hK hP hNW hS hk0 (mSet_at hM).1 rfl rfl hl.1 rfl (Nat.le_of_ble_eq_true rfl) (by decide) (dk kX1_move_ok 16 rfl) mSet_mSet (fun H locs hP hS => ?_)
    refine lv_iload_n hx hb (dk kX1_move_ok 17 rfl) rfl (lv_at hl 3 rfl) ?_
    refine lv_bipush (v := nI 84) hx hb (dk kX1_move_ok 18 rfl) rfl ?_
    refine lv_icmp_ne (tgt := 39) hx hb (dk kX1_move_ok 19 rfl) (by decide) (fun h2 => ?_) (fun h2 => ?_)
    · skip
      refine lv_aload_n hx hb (dk kX1_move_ok 24 rfl) rfl (lv_at hl 1 rfl) ?_
      refine lv_iload_n hx hb (dk kX1_move_ok 25 rfl) rfl (lv_at hl 3 rfl) ?_
      refine cvR (As := [.int q]) (rest := []) ⟨hx, hb, hml, hown, hts⟩ (tX1_topAt l D cI cQ cL ad N (mSet cI F k (scl v (-1) 16 c (nI w)) b v) k hk (scl v (-1) 16 c (nI w)) b v (mSet_at hM) q) (cwV9 1 hts mcX1_topAt (ac1 _ (List.mem_of_getElem? (i := 20) rfl)) miX1_topAt meX1_topAt mini_RX1 rfl rfl hdX1_topAt ⟨Nat.le_of_ble_eq_true rfl, Nat.le_of_ble_eq_true rfl⟩) hK hP hNW hk0 (mSet_at hM).1 rfl rfl hl.1 rfl (Nat.le_of_ble_eq_true rfl) (by decide) (dk kX1_move_ok 26 rfl) ?_
      refine lv_istore (lv' := [(4, .int (top (scl v (-1) 16 c (nI w)) v q)), (3, .int (b w)), (0, .ref (ad k)), (1, .int (nI w)), (2, .int q)]) hx hb (dk kX1_move_ok 27 rfl) hl (by decide) rfl (fun ls hl => ?_)
      refine lv_aload_n hx hb (dk kX1_move_ok 28 rfl) rfl (lv_at hl 2 rfl) ?_
      refine lv_iload_n hx hb (dk kX1_move_ok 29 rfl) rfl (lv_at hl 3 rfl) ?_
      refine lv_iload_n hx hb (dk kX1_move_ok 30 rfl) rfl (lv_at hl 4 rfl) ?_
      refine cvDv (As := [.int (nI w), .int q]) (rest := []) (mSet cI F k (scl v q 16 (scl v (-1) 16 c (nI w)) (nI w)) b v) ⟨hx, hb, hml, hown, hts⟩ (tX1_setCells l D cI cQ cL ad N (mSet cI F k (scl v (-1) 16 c (nI w)) b v) k hk (scl v (-1) 16 c (nI w)) b v (mSet_at hM) (nI w) w rfl (by omega) q) (cwV9 2 hts mcX1_setCells (ac1 _ (List.mem_of_getElem? (i := 11) rfl)) miX1_setCells meX1_setCells mini_RX1 rfl rfl hdX1_setCells ⟨Nat.le_of_ble_eq_true rfl, Nat.le_of_ble_eq_true rfl⟩) hDi hK hP hNW hS hk0 (mSet_at hM).1 rfl rfl hl.1 rfl (Nat.le_of_ble_eq_true rfl) (by decide) (dk kX1_move_ok 31 rfl) mSet_mSet (fun H locs hP hS => ?_)
      refine lv_aload_n hx hb (dk kX1_move_ok 32 rfl) rfl (lv_at hl 2 rfl) ?_
      refine gf hx hb hts (fun w h => List.mem_cons_of_mem _ (acX1 w h)) hown hK hP hk0 (mSet_at hM).1 rfl 1 (by decide) (hts _ (List.mem_cons_of_mem _ (ac0 _ (List.mem_of_getElem? (i := 23) rfl)))) (fun _ h => h) rfl (dk kX1_move_ok 33 rfl) ?_
      refine lv_iload_n hx hb (dk kX1_move_ok 34 rfl) rfl (lv_at hl 3 rfl) ?_
      refine lv_iload hx hb (dk kX1_move_ok 35 rfl) (lv_at hl 0 rfl) ?_
      refine ast (mSet cI F k (scl v q 16 (scl v (-1) 16 c (nI w)) (nI w)) (upd b w (top (scl v (-1) 16 c (nI w)) v q)) v) (j := w) hx hb hK hDi hP hS hk2 (mSet_at hM).2.2.1 rfl (by omega) (by decide) (dk kX1_move_ok 36 rfl) mSet_b (fun H locs hP hS => ?_)
      refine lv_iload hx hb (dk kX1_move_ok 37 rfl) (lv_at hl 0 rfl) ?_
      refine csPN (As := [.int (top (scl v (-1) 16 c (nI w)) v q)]) (rest := []) ⟨hx, hb, hml, hown, hts⟩ (tX5_isWink l (top (scl v (-1) 16 c (nI w)) v q)) (cwN9 1 hts mcX5_isWink (nm7 hNW) mini_RX5 rfl rfl hdX5_isWink ⟨Nat.le_of_ble_eq_true rfl, Nat.le_of_ble_eq_true rfl⟩) (hts _ (List.mem_cons_of_mem _ msX5_isWink)) rfl hl.1 rfl (Nat.le_of_ble_eq_true rfl) (by decide) (dk kX1_move_ok 38 rfl) ?_
      refine b_if_eq (tgt := 76) hx hb (dk kX1_move_ok 39 rfl) (by decide) (fun h3 => ?_) (fun h3 => ?_)
      · skip
        exact hret _ _ _ _ _ _ _ (by refine ⟨rfl, ?_⟩; simp [mov1, mov2, mov3, movt, cutv, h1, h2, h3]) hP hS (by decide) (by decide) (dk kX1_move_ok 45 rfl)
      · skip
        refine lv_aload_n hx hb (dk kX1_move_ok 40 rfl) rfl (lv_at hl 2 rfl) ?_
        refine gf hx hb hts (fun w h => List.mem_cons_of_mem _ (acX1 w h)) hown hK hP hk0 (mSet_at hM).1 rfl 2 (by decide) (hts _ (List.mem_cons_of_mem _ (ac1 _ (List.mem_of_getElem? (i := 0) rfl)))) (fun _ h => h) rfl (dk kX1_move_ok 41 rfl) ?_
        refine lv_iload hx hb (dk kX1_move_ok 42 rfl) (lv_at hl 0 rfl) ?_
        refine lv_iload_n hx hb (dk kX1_move_ok 43 rfl) rfl (lv_at hl 3 rfl) ?_
        refine ast (mSet cI F k (scl v q 16 (scl v (-1) 16 c (nI w)) (nI w)) (upd b w (top (scl v (-1) 16 c (nI w)) v q)) (upd v (ix (top (scl v (-1) 16 c (nI w)) v q)) (nI w))) (j := (ix (top (scl v (-1) 16 c (nI w)) v q))) hx hb hK hDi hP hS hk3 (mSet_at hM).2.2.2 (wk_eq h3) (wk_lt h3) (by decide) (dk kX1_move_ok 44 rfl) mSet_v (fun H locs hP hS => ?_)
        exact hret _ _ _ _ _ _ _ (by refine ⟨rfl, ?_⟩; simp [mov1, mov2, mov3, movt, cutv, h1, h2, h3]) hP hS (by decide) (by decide) (dk kX1_move_ok 45 rfl)
    · skip
      refine lv_aload_n hx hb (dk kX1_move_ok 20 rfl) rfl (lv_at hl 1 rfl) ?_
      refine lv_iload_n hx hb (dk kX1_move_ok 21 rfl) rfl (lv_at hl 2 rfl) ?_
      refine cvDv (As := [.int (nI w)]) (rest := []) (mSet cI F k (scl v (-1) 16 c (nI w)) ((sep 16 b v (nI w)).1) ((sep 16 b v (nI w)).2)) ⟨hx, hb, hml, hown, hts⟩ (tX1_separate l D cI cQ cL ad N (mSet cI F k (scl v (-1) 16 c (nI w)) b v) k hk (scl v (-1) 16 c (nI w)) b v (mSet_at hM) (nI w) w rfl (by omega)) (cwV9 1 hts mcX1_separate (ac1 _ (List.mem_of_getElem? (i := 16) rfl)) miX1_separate meX1_separate mini_RX1 rfl rfl hdX1_separate ⟨Nat.le_of_ble_eq_true rfl, Nat.le_of_ble_eq_true rfl⟩) hDi hK hP hNW hS hk0 (mSet_at hM).1 rfl rfl hl.1 rfl (Nat.le_of_ble_eq_true rfl) (by decide) (dk kX1_move_ok 22 rfl) mSet_mSet (fun H locs hP hS => ?_)
      exact hret _ _ _ _ _ _ _ (by refine ⟨rfl, ?_⟩; simp [mov1, mov2, mov3, movt, cutv, h1, h2]) hP hS (by decide) (by decide) (dk kX1_move_ok 23 rfl)
  · skip
    refine lv_aload_n hx hb (dk kX1_move_ok 8 rfl) rfl (lv_at hl 1 rfl) ?_
    refine gf hx hb hts (fun w h => List.mem_cons_of_mem _ (acX1 w h)) hown hK hP hk0 (mSet_at hM).1 rfl 2 (by decide) (hts _ (List.mem_cons_of_mem _ (ac1 _ (List.mem_of_getElem? (i := 0) rfl)))) (fun _ h => h) rfl (dk kX1_move_ok 9 rfl) ?_
    refine lv_iload_n hx hb (dk kX1_move_ok 10 rfl) rfl (lv_at hl 0 rfl) ?_
    refine lv_iconst (v := -1) hx hb (dk kX1_move_ok 11 rfl) rfl ?_
    refine ast (mSet cI F k c b (upd v (ix (b w)) (-1))) (j := (ix (b w))) hx hb hK hDi hP hS hk3 (mSet_at hM).2.2.2 (wk_eq h1) (wk_lt h1) (by decide) (dk kX1_move_ok 12 rfl) mSet_v (fun H locs hP hS => ?_)
    refine lv_aload_n hx hb (dk kX1_move_ok 13 rfl) rfl (lv_at hl 1 rfl) ?_
    refine lv_iload_n hx hb (dk kX1_move_ok 14 rfl) rfl (lv_at hl 2 rfl) ?_
    refine lv_iconst (v := -1) hx hb (dk kX1_move_ok 15 rfl) rfl ?_
    refine cvDv (As := [.int (nI w), .int (-1)]) (rest := []) (mSet cI F k (scl (upd v (ix (b w)) (-1)) (-1) 16 c (nI w)) b (upd v (ix (b w)) (-1))) ⟨hx, hb, hml, hown, hts⟩ (tX1_setCells l D cI cQ cL ad N (mSet cI F k c b (upd v (ix (b w)) (-1))) k hk c b (upd v (ix (b w)) (-1)) (mSet_at hM) (nI w) w rfl (by omega) (-1)) (cwV9 2 hts mcX1_setCells (ac1 _ (List.mem_of_getElem? (i := 11) rfl)) miX1_setCells meX1_setCells mini_RX1 rfl rfl hdX1_setCells ⟨Nat.le_of_ble_eq_true rfl, Nat.le_of_ble_eq_true rfl⟩) hDi hK hP hNW hS hk0 (mSet_at hM).1 rfl rfl hl.1 rfl (Nat.le_of_ble_eq_true rfl) (by decide) (dk kX1_move_ok 16 rfl) mSet_mSet (fun H locs hP hS => ?_)
    refine lv_iload_n hx hb (dk kX1_move_ok 17 rfl) rfl (lv_at hl 3 rfl) ?_
    refine lv_bipush (v := nI 84) hx hb (dk kX1_move_ok 18 rfl) rfl ?_
    refine lv_icmp_ne (tgt := 39) hx hb (dk kX1_move_ok 19 rfl) (by decide) (fun h4 => ?_) (fun h4 => ?_)
    · skip
      refine lv_aload_n hx hb (dk kX1_move_ok 24 rfl) rfl (lv_at hl 1 rfl) ?_
      refine lv_iload_n hx hb (dk kX1_move_ok 25 rfl) rfl (lv_at hl 3 rfl) ?_
      refine cvR (As := [.int q]) (rest := []) ⟨hx, hb, hml, hown, hts⟩ (tX1_topAt l D cI cQ cL ad N (mSet cI F k (scl (upd v (ix (b w)) (-1)) (-1) 16 c (nI w)) b (upd v (ix (b w)) (-1))) k hk (scl (upd v (ix (b w)) (-1)) (-1) 16 c (nI w)) b (upd v (ix (b w)) (-1)) (mSet_at hM) q) (cwV9 1 hts mcX1_topAt (ac1 _ (List.mem_of_getElem? (i := 20) rfl)) miX1_topAt meX1_topAt mini_RX1 rfl rfl hdX1_topAt ⟨Nat.le_of_ble_eq_true rfl, Nat.le_of_ble_eq_true rfl⟩) hK hP hNW hk0 (mSet_at hM).1 rfl rfl hl.1 rfl (Nat.le_of_ble_eq_true rfl) (by decide) (dk kX1_move_ok 26 rfl) ?_
      refine lv_istore (lv' := [(4, .int (top (scl (upd v (ix (b w)) (-1)) (-1) 16 c (nI w)) (upd v (ix (b w)) (-1)) q)), (3, .int (b w)), (0, .ref (ad k)), (1, .int (nI w)), (2, .int q)]) hx hb (dk kX1_move_ok 27 rfl) hl (by decide) rfl (fun ls hl => ?_)
      refine lv_aload_n hx hb (dk kX1_move_ok 28 rfl) rfl (lv_at hl 2 rfl) ?_
      refine lv_iload_n hx hb (dk kX1_move_ok 29 rfl) rfl (lv_at hl 3 rfl) ?_
      refine lv_iload_n hx hb (dk kX1_move_ok 30 rfl) rfl (lv_at hl 4 rfl) ?_
      refine cvDv (As := [.int (nI w), .int q]) (rest := []) (mSet cI F k (scl (upd v (ix (b w)) (-1)) q 16 (scl (upd v (ix (b w)) (-1)) (-1) 16 c (nI w)) (nI w)) b (upd v (ix (b w)) (-1))) ⟨hx, hb, hml, hown, hts⟩ (tX1_setCells l D cI cQ cL ad N (mSet cI F k (scl (upd v (ix (b w)) (-1)) (-1) 16 c (nI w)) b (upd v (ix (b w)) (-1))) k hk (scl (upd v (ix (b w)) (-1)) (-1) 16 c (nI w)) b (upd v (ix (b w)) (-1)) (mSet_at hM) (nI w) w rfl (by omega) q) (cwV9 2 hts mcX1_setCells (ac1 _ (List.mem_of_getElem? (i := 11) rfl)) miX1_setCells meX1_setCells mini_RX1 rfl rfl hdX1_setCells ⟨Nat.le_of_ble_eq_true rfl, Nat.le_of_ble_eq_true rfl⟩) hDi hK hP hNW hS hk0 (mSet_at hM).1 rfl rfl hl.1 rfl (Nat.le_of_ble_eq_true rfl) (by decide) (dk kX1_move_ok 31 rfl) mSet_mSet (fun H locs hP hS => ?_)
      refine lv_aload_n hx hb (dk kX1_move_ok 32 rfl) rfl (lv_at hl 2 rfl) ?_
      refine gf hx hb hts (fun w h => List.mem_cons_of_mem _ (acX1 w h)) hown hK hP hk0 (mSet_at hM).1 rfl 1 (by decide) (hts _ (List.mem_cons_of_mem _ (ac0 _ (List.mem_of_getElem? (i := 23) rfl)))) (fun _ h => h) rfl (dk kX1_move_ok 33 rfl) ?_
      refine lv_iload_n hx hb (dk kX1_move_ok 34 rfl) rfl (lv_at hl 3 rfl) ?_
      refine lv_iload hx hb (dk kX1_move_ok 35 rfl) (lv_at hl 0 rfl) ?_
      refine ast (mSet cI F k (scl (upd v (ix (b w)) (-1)) q 16 (scl (upd v (ix (b w)) (-1)) (-1) 16 c (nI w)) (nI w)) (upd b w (top (scl (upd v (ix (b w)) (-1)) (-1) 16 c (nI w)) (upd v (ix (b w)) (-1)) q)) (upd v (ix (b w)) (-1))) (j := w) hx hb hK hDi hP hS hk2 (mSet_at hM).2.2.1 rfl (by omega) (by decide) (dk kX1_move_ok 36 rfl) mSet_b (fun H locs hP hS => ?_)
      refine lv_iload hx hb (dk kX1_move_ok 37 rfl) (lv_at hl 0 rfl) ?_
      refine csPN (As := [.int (top (scl (upd v (ix (b w)) (-1)) (-1) 16 c (nI w)) (upd v (ix (b w)) (-1)) q)]) (rest := []) ⟨hx, hb, hml, hown, hts⟩ (tX5_isWink l (top (scl (upd v (ix (b w)) (-1)) (-1) 16 c (nI w)) (upd v (ix (b w)) (-1)) q)) (cwN9 1 hts mcX5_isWink (nm7 hNW) mini_RX5 rfl rfl hdX5_isWink ⟨Nat.le_of_ble_eq_true rfl, Nat.le_of_ble_eq_true rfl⟩) (hts _ (List.mem_cons_of_mem _ msX5_isWink)) rfl hl.1 rfl (Nat.le_of_ble_eq_true rfl) (by decide) (dk kX1_move_ok 38 rfl) ?_
      refine b_if_eq (tgt := 76) hx hb (dk kX1_move_ok 39 rfl) (by decide) (fun h5 => ?_) (fun h5 => ?_)
      · skip
        exact hret _ _ _ _ _ _ _ (by refine ⟨rfl, ?_⟩; simp [mov1, mov2, mov3, movt, cutv, h1, h4, h5]) hP hS (by decide) (by decide) (dk kX1_move_ok 45 rfl)
      · skip
        refine lv_aload_n hx hb (dk kX1_move_ok 40 rfl) rfl (lv_at hl 2 rfl) ?_
        refine gf hx hb hts (fun w h => List.mem_cons_of_mem _ (acX1 w h)) hown hK hP hk0 (mSet_at hM).1 rfl 2 (by decide) (hts _ (List.mem_cons_of_mem _ (ac1 _ (List.mem_of_getElem? (i := 0) rfl)))) (fun _ h => h) rfl (dk kX1_move_ok 41 rfl) ?_
        refine lv_iload hx hb (dk kX1_move_ok 42 rfl) (lv_at hl 0 rfl) ?_
        refine lv_iload_n hx hb (dk kX1_move_ok 43 rfl) rfl (lv_at hl 3 rfl) ?_
        refine ast (mSet cI F k (scl (upd v (ix (b w)) (-1)) q 16 (scl (upd v (ix (b w)) (-1)) (-1) 16 c (nI w)) (nI w)) (upd b w (top (scl (upd v (ix (b w)) (-1)) (-1) 16 c (nI w)) (upd v (ix (b w)) (-1)) q)) (upd (upd v (ix (b w)) (-1)) (ix (top (scl (upd v (ix (b w)) (-1)) (-1) 16 c (nI w)) (upd v (ix (b w)) (-1)) q)) (nI w))) (j := (ix (top (scl (upd v (ix (b w)) (-1)) (-1) 16 c (nI w)) (upd v (ix (b w)) (-1)) q))) hx hb hK hDi hP hS hk3 (mSet_at hM).2.2.2 (wk_eq h5) (wk_lt h5) (by decide) (dk kX1_move_ok 44 rfl) mSet_v (fun H locs hP hS => ?_)
        exact hret _ _ _ _ _ _ _ (by refine ⟨rfl, ?_⟩; simp [mov1, mov2, mov3, movt, cutv, h1, h4, h5]) hP hS (by decide) (by decide) (dk kX1_move_ok 45 rfl)
    · skip
      refine lv_aload_n hx hb (dk kX1_move_ok 20 rfl) rfl (lv_at hl 1 rfl) ?_
      refine lv_iload_n hx hb (dk kX1_move_ok 21 rfl) rfl (lv_at hl 2 rfl) ?_
      refine cvDv (As := [.int (nI w)]) (rest := []) (mSet cI F k (scl (upd v (ix (b w)) (-1)) (-1) 16 c (nI w)) ((sep 16 b (upd v (ix (b w)) (-1)) (nI w)).1) ((sep 16 b (upd v (ix (b w)) (-1)) (nI w)).2)) ⟨hx, hb, hml, hown, hts⟩ (tX1_separate l D cI cQ cL ad N (mSet cI F k (scl (upd v (ix (b w)) (-1)) (-1) 16 c (nI w)) b (upd v (ix (b w)) (-1))) k hk (scl (upd v (ix (b w)) (-1)) (-1) 16 c (nI w)) b (upd v (ix (b w)) (-1)) (mSet_at hM) (nI w) w rfl (by omega)) (cwV9 1 hts mcX1_separate (ac1 _ (List.mem_of_getElem? (i := 16) rfl)) miX1_separate meX1_separate mini_RX1 rfl rfl hdX1_separate ⟨Nat.le_of_ble_eq_true rfl, Nat.le_of_ble_eq_true rfl⟩) hDi hK hP hNW hS hk0 (mSet_at hM).1 rfl rfl hl.1 rfl (Nat.le_of_ble_eq_true rfl) (by decide) (dk kX1_move_ok 22 rfl) mSet_mSet (fun H locs hP hS => ?_)
      exact hret _ _ _ _ _ _ _ (by refine ⟨rfl, ?_⟩; simp [mov1, mov2, mov3, movt, cutv, h1, h4]) hP hS (by decide) (by decide) (dk kX1_move_ok 23 rfl)
end
/-! from spec3 -/
section
theorem mSet_oth {cI : ClassId} {ad : Nat → Nat} {F : Nat → va_E} {k k2 : Nat} {c b v c' b' v' : Nat → Int32} (h : matAt cI ad F k2 c' b' v') (hd : k + 3 < k2 ∨ k2 + 3 < k) : matAt cI ad (mSet cI F k c b v) k2 c' b' v' := by
  obtain ⟨h0, h1, h2, h3⟩ := h
  refine ⟨?_, ?_, ?_, ?_⟩
  · rw [mSet_out (by omega)]; exact h0
  · rw [mSet_out (by omega)]; exact h1
  · rw [mSet_out (by omega)]; exact h2
  · rw [mSet_out (by omega)]; exact h3
-- a State: its mat, flights, fouls, lost turns, the turn, lifts, the setting
def stAt (cI : ClassId) (ad : Nat → Nat) (F : Nat → va_E) (k : Nat) (c b v g h j : Nat → Int32) (t u z : Int32) : Prop :=
  F k = .inr (4, [.ref (ad (k + 1)), .ref (ad (k + 5)), .ref (ad (k + 6)), .ref (ad (k + 7)), .int t, .int u, .int z]) ∧ matAt cI ad F (k + 1) c b v ∧ F (k + 5) = .inl (cI, 16, .inl g) ∧ F (k + 6) = .inl (cI, 4, .inl h) ∧ F (k + 7) = .inl (cI, 4, .inl j)
def sSet (cI : ClassId) (ad : Nat → Nat) (F : Nat → va_E) (k : Nat) (c b v g h j : Nat → Int32) (t u z : Int32) : Nat → va_E := fun i => if i = k then .inr (4, [.ref (ad (k + 1)), .ref (ad (k + 5)), .ref (ad (k + 6)), .ref (ad (k + 7)), .int t, .int u, .int z]) else if i = k + 5 then .inl (cI, 16, .inl g) else if i = k + 6 then .inl (cI, 4, .inl h) else if i = k + 7 then .inl (cI, 4, .inl j) else mSet cI F (k + 1) c b v i
section SS
variable {cI : ClassId} {ad : Nat → Nat} {F : Nat → va_E} {k : Nat} {c b v g h j c' b' v' g' h' j' : Nat → Int32} {t u z t' u' z' : Int32}
theorem sSet_self (H : stAt cI ad F k c b v g h j t u z) : sSet cI ad F k c b v g h j t u z = F := by
  funext i
  obtain ⟨h0, h1, h2, h3, h4⟩ := H
  unfold sSet
  split
  · next e => rw [e, h0]
  · split
    · next e => rw [e, h2]
    · split
      · next e => rw [e, h3]
      · split
        · next e => rw [e, h4]
        · rw [mSet_self h1]
theorem sSet_out {i : Nat} (hi : i < k ∨ k + 7 < i) : sSet cI ad F k c b v g h j t u z i = F i := by
  unfold sSet
  rw [if_neg (by omega), if_neg (by omega), if_neg (by omega), if_neg (by omega), mSet_out (by omega)]
theorem sSet_at (H : stAt cI ad F k c b v g h j t u z) : stAt cI ad (sSet cI ad F k c' b' v' g' h' j' t' u' z') k c' b' v' g' h' j' t' u' z' := by
  obtain ⟨-, ⟨h1, -, -, -⟩, -, -, -⟩ := H
  refine ⟨by simp [sSet], ⟨?_, ?_, ?_, ?_⟩, by simp [sSet], by simp [sSet], by simp [sSet]⟩
  · simp [sSet, mSet, h1]
  · simp [sSet, mSet]; omega
  · simp [sSet, mSet]; omega
  · simp [sSet, mSet]; omega
theorem sSet_sSet : sSet cI ad (sSet cI ad F k c b v g h j t u z) k c' b' v' g' h' j' t' u' z' = sSet cI ad F k c' b' v' g' h' j' t' u' z' := by
  funext i
  simp only [sSet]
  by_cases e0 : i = k
  · rw [if_pos e0, if_pos e0]
  rw [if_neg e0, if_neg e0]
  by_cases e1 : i = k + 5
  · rw [if_pos e1, if_pos e1]
  rw [if_neg e1, if_neg e1]
  by_cases e2 : i = k + 6
  · rw [if_pos e2, if_pos e2]
  rw [if_neg e2, if_neg e2]
  by_cases e3 : i = k + 7
  · rw [if_pos e3, if_pos e3]
  rw [if_neg e3, if_neg e3]
  simp only [mSet]
  by_cases e4 : i = k + 1 + 1
  · rw [if_pos e4, if_pos e4]
  rw [if_neg e4, if_neg e4]
  by_cases e5 : i = k + 1 + 2
  · rw [if_pos e5, if_pos e5]
  rw [if_neg e5, if_neg e5]
  by_cases e6 : i = k + 1 + 3
  · rw [if_pos e6, if_pos e6]
  rw [if_neg e6, if_neg e6]
  simp only [sSet, mSet]
  rw [if_neg e0, if_neg e1, if_neg e2, if_neg e3, if_neg e4, if_neg e5, if_neg e6]
theorem sSet_m : mSet cI (sSet cI ad F k c b v g h j t u z) (k + 1) c' b' v' = sSet cI ad F k c' b' v' g h j t u z := by
  funext i
  simp only [sSet, mSet]
  repeat' split
  all_goals first | rfl | omega
theorem sSet_g : va_up (sSet cI ad F k c b v g h j t u z) (k + 5) (.inl (cI, 16, .inl g')) = sSet cI ad F k c b v g' h j t u z := by
  funext i
  simp only [va_up, sSet]
  repeat' split
  all_goals first | rfl | omega
theorem sSet_h : va_up (sSet cI ad F k c b v g h j t u z) (k + 6) (.inl (cI, 4, .inl h')) = sSet cI ad F k c b v g h' j t u z := by
  funext i
  simp only [va_up, sSet]
  repeat' split
  all_goals first | rfl | omega
theorem sSet_j : va_up (sSet cI ad F k c b v g h j t u z) (k + 7) (.inl (cI, 4, .inl j')) = sSet cI ad F k c b v g h j' t u z := by
  funext i
  simp only [va_up, sSet]
  repeat' split
  all_goals first | rfl | omega
theorem sSet_0 : va_up (sSet cI ad F k c b v g h j t u z) k (.inr (4, [.ref (ad (k + 1)), .ref (ad (k + 5)), .ref (ad (k + 6)), .ref (ad (k + 7)), .int t', .int u', .int z'])) = sSet cI ad F k c b v g h j t' u' z' := by
  funext i
  simp only [va_up, sSet]
  repeat' split
  all_goals first | rfl | omega
theorem sSet_oth {k2 : Nat} (H : stAt cI ad F k2 c' b' v' g' h' j' t' u' z') (hd : k + 7 < k2 ∨ k2 + 7 < k) : stAt cI ad (sSet cI ad F k c b v g h j t u z) k2 c' b' v' g' h' j' t' u' z' := by
  obtain ⟨h0, ⟨h1, h2, h3, h4⟩, h5, h6, h7⟩ := H
  refine ⟨?_, ⟨?_, ?_, ?_, ?_⟩, ?_, ?_, ?_⟩
  · rw [sSet_out (by omega)]; exact h0
  · rw [sSet_out (by omega)]; exact h1
  · rw [sSet_out (by omega)]; exact h2
  · rw [sSet_out (by omega)]; exact h3
  · rw [sSet_out (by omega)]; exact h4
  · rw [sSet_out (by omega)]; exact h5
  · rw [sSet_out (by omega)]; exact h6
  · rw [sSet_out (by omega)]; exact h7
end SS
def wnf (c v : Nat → Int32) (t w : Nat) : Nat := if over c = true then 1 else if ¬ w / 4 = t then 2 else if pot c w = true then 3 else if cov v w = true then 4 else 0
theorem wnf_le (c v : Nat → Int32) (t w : Nat) : wnf c v t w ≤ 4 := by
  unfold wnf
  repeat' split
  all_goals omega
def wnl (c b v : Nat → Int32) (t : Nat) (z x y : Int32) (n : Nat) (d : Int32) : Nat := if over c = true then 1 else if low c b v (cat x y) n = -1 then 2 else if ¬ top c v (cat x y) / nI 4 = nI t then 3 else if ¬ nI n ≤ z then 4 else if beside x y d = -1 then 5 else 0
theorem wnl_le (c b v : Nat → Int32) (t : Nat) (z x y : Int32) (n : Nat) (d : Int32) : wnl c b v t z x y n d ≤ 5 := by
  unfold wnl
  repeat' split
  all_goals omega
/-- to the next colour: steps, lost turns, from which one on -/
def pasg (c : Nat → Int32) (t : Nat) : Nat → (Nat → Int32) → Nat → (Nat → Int32) × Nat
  | 0, j, _ => (j, t)
  | n + 1, j, q => if potc c ((q + 1) % 4) = 4 then pasg c t n j ((q + 1) % 4) else if j ((q + 1) % 4) = 0 then (j, (q + 1) % 4) else pasg c t n (upd j ((q + 1) % 4) (j ((q + 1) % 4) - nI 1)) ((q + 1) % 4)
theorem pasg_lt (c : Nat → Int32) (t : Nat) (ht : t < 4) : ∀ (n : Nat) (j : Nat → Int32) (q : Nat), (pasg c t n j q).2 < 4
  | 0, _, _ => ht
  | n + 1, j, q => by
    simp only [pasg]
    split
    · exact pasg_lt c t ht n _ _
    · split
      · exact Nat.mod_lt _ (by decide)
      · exact pasg_lt c t ht n _ _
-- a flight that is allowed
def flE (c : Nat → Int32) (w : Nat) (d : Int32) (f : Nat) : Int32 := ldg (c w) d (stp w f)
def flH (h : Nat → Int32) (w : Nat) (q : Int32) : Nat → Int32 := if q = -1 then upd h (w / 4) (h (w / 4) + nI 1) else h
def flP (c' : Nat → Int32) (t w : Nat) (q : Int32) (j : Nat → Int32) : (Nat → Int32) × Nat := if ¬ q = nI 84 ∨ potc c' (w / 4) = 4 then pasg c' t 8 j t else (j, t)
theorem flP_lt (c' : Nat → Int32) (t w : Nat) (ht : t < 4) (q : Int32) (j : Nat → Int32) : (flP c' t w q j).2 < 4 := by
  unfold flP
  split
  · exact pasg_lt _ _ ht _ _ _
  · exact ht
-- a lift that is allowed
def liC (c b v : Nat → Int32) (x y : Int32) (n : Nat) (d : Int32) : Nat → Int32 := if wk (low c b v (cat x y) n) = true then mov1 c b v (ix (low c b v (cat x y) n)) (beside x y d) else c
def liB (c b v : Nat → Int32) (x y : Int32) (n : Nat) (d : Int32) : Nat → Int32 := if wk (low c b v (cat x y) n) = true then mov2 c b v (ix (low c b v (cat x y) n)) (beside x y d) else b
def liV (c b v : Nat → Int32) (x y : Int32) (n : Nat) (d : Int32) : Nat → Int32 := if wk (low c b v (cat x y) n) = true then mov3 c b v (ix (low c b v (cat x y) n)) (beside x y d) else v
def smi (f : Nat → Int32) : Nat → Int32
  | 0 => nI 0
  | n + 1 => smi f n + f n
end
/-! from state -/
section
set_option maxRecDepth 100000 in
set_option maxHeartbeats 4000000 in
theorem tX1_copyFrom (l : Launch) (D : va_G) (cI cQ cL : ClassId) (ad : Nat → Nat) (N : Nat) (F : Nat → va_E) (k : Nat) (hk : k + 3 < N) (c b v : Nat → Int32) (hM : matAt cI ad F k c b v) (k2 : Nat) (hq : k2 + 3 < N) (hd : k + 3 < k2 ∨ k2 + 3 < k) (c2 b2 v2 : Nat → Int32) (hM2 : matAt cI ad F k2 c2 b2 v2) : MX l yX1_copyFrom (Cond.code yX1_copyFrom cX1_copyFrom 2 none :: AW) ({ frames := 1, cells := 0, slots := 0, locals := 18 } : Room) D cI cQ cL ad N F [.ref (ad k), .ref (ad k2)] (dp none (mSet cI F k c2 b2 v2)) 0 0 := by
  refine mx_v (by decide +kernel) rfl (Nat.le_of_ble_eq_true rfl) (fun p e s m below meth cd Q ls hx hb hml hown hts hDi hP hK hNW hS hret hl => ?_)
  have hown : s.vm.findClass RX1 = some m.cls := hown
  have hk0 : k < N := by omega
  have hk1 : k + 1 < N := by omega
  have hk2 : k + 2 < N := by omega
  have hk3 : k + 3 < N := hk
  have hq0 : k2 < N := by omega
  have hq1 : k2 + 1 < N := by omega
  have hq2 : k2 + 2 < N := by omega
  have hq3 : k2 + 3 < N := hq
  have hP : va_P D vwCl (iW ad N (mSet cI F k c b v)) s.heap := by rw [mSet_self hM]; exact hP
  have hl : lv_has ls 2 [(0, .ref (ad k)), (1, .ref (ad k2))] := hl
  refine lv_aload_n hx hb (dk kX1_copyFrom_ok 0 rfl) rfl (lv_at hl 1 rfl) ?_
  refine gf hx hb hts (fun w h => List.mem_cons_of_mem _ (acX1 w h)) hown hK hP hq0 (mSet_oth hM2 hd).1 rfl 0 (by decide) (hts _ (List.mem_cons_of_mem _ (ac0 _ (List.mem_of_getElem? (i := 22) rfl)))) (fun _ h => h) rfl (dk kX1_copyFrom_ok 1 rfl) ?_
  refine lv_iconst (v := nI 0) hx hb (dk kX1_copyFrom_ok 2 rfl) rfl ?_
  refine lv_aload_n hx hb (dk kX1_copyFrom_ok 3 rfl) rfl (lv_at hl 0 rfl) ?_
  refine gf hx hb hts (fun w h => List.mem_cons_of_mem _ (acX1 w h)) hown hK hP hk0 (mSet_at hM).1 rfl 0 (by decide) (hts _ (List.mem_cons_of_mem _ (ac0 _ (List.mem_of_getElem? (i := 22) rfl)))) (fun _ h => h) rfl (dk kX1_copyFrom_ok 4 rfl) ?_
  refine lv_iconst (v := nI 0) hx hb (dk kX1_copyFrom_ok 5 rfl) rfl ?_
  refine lv_bipush (v := nI 16) hx hb (dk kX1_copyFrom_ok 6 rfl) rfl ?_
  refine cpy (mSet cI F k c2 b v) hx hb (by rw [hml, hl.1]) hown (hts _ (List.mem_cons_of_mem _ (ac1 _ (List.mem_of_getElem? (i := 5) rfl)))) (hts _ (List.mem_cons_of_mem _ (ac1 _ (List.mem_of_getElem? (i := 6) rfl)))) (hts _ (List.mem_cons_of_mem _ (ac1 _ (List.mem_of_getElem? (i := 7) rfl)))) (hts _ (List.mem_cons_of_mem _ (ac1 _ (List.mem_of_getElem? (i := 8) rfl)))) hK hDi hP hS hq1 (mSet_oth hM2 hd).2.1 hk1 (mSet_at hM).2.1 (by decide) (Nat.le_of_ble_eq_true rfl) (Nat.le_of_ble_eq_true rfl) (dk kX1_copyFrom_ok 7 rfl) mSet_c (fun H locs hP hS => ?_)
  refine lv_aload_n hx hb (dk kX1_copyFrom_ok 8 rfl) rfl (lv_at hl 1 rfl) ?_
  refine gf hx hb hts (fun w h => List.mem_cons_of_mem _ (acX1 w h)) hown hK hP hq0 (mSet_oth hM2 hd).1 rfl 1 (by decide) (hts _ (List.mem_cons_of_mem _ (ac0 _ (List.mem_of_getElem? (i := 23) rfl)))) (fun _ h => h) rfl (dk kX1_copyFrom_ok 9 rfl) ?_
  refine lv_iconst (v := nI 0) hx hb (dk kX1_copyFrom_ok 10 rfl) rfl ?_
  refine lv_aload_n hx hb (dk kX1_copyFrom_ok 11 rfl) rfl (lv_at hl 0 rfl) ?_
  refine gf hx hb hts (fun w h => List.mem_cons_of_mem _ (acX1 w h)) hown hK hP hk0 (mSet_at hM).1 rfl 1 (by decide) (hts _ (List.mem_cons_of_mem _ (ac0 _ (List.mem_of_getElem? (i := 23) rfl)))) (fun _ h => h) rfl (dk kX1_copyFrom_ok 12 rfl) ?_
  refine lv_iconst (v := nI 0) hx hb (dk kX1_copyFrom_ok 13 rfl) rfl ?_
  refine lv_bipush (v := nI 16) hx hb (dk kX1_copyFrom_ok 14 rfl) rfl ?_
  refine cpy (mSet cI F k c2 b2 v) hx hb (by rw [hml, hl.1]) hown (hts _ (List.mem_cons_of_mem _ (ac1 _ (List.mem_of_getElem? (i := 5) rfl)))) (hts _ (List.mem_cons_of_mem _ (ac1 _ (List.mem_of_getElem? (i := 6) rfl)))) (hts _ (List.mem_cons_of_mem _ (ac1 _ (List.mem_of_getElem? (i := 7) rfl)))) (hts _ (List.mem_cons_of_mem _ (ac1 _ (List.mem_of_getElem? (i := 8) rfl)))) hK hDi hP hS hq2 (mSet_oth hM2 hd).2.2.1 hk2 (mSet_at hM).2.2.1 (by decide) (Nat.le_of_ble_eq_true rfl) (Nat.le_of_ble_eq_true rfl) (dk kX1_copyFrom_ok 15 rfl) mSet_b (fun H locs hP hS => ?_)
  refine lv_aload_n hx hb (dk kX1_copyFrom_ok 16 rfl) rfl (lv_at hl 1 rfl) ?_
  refine gf hx hb hts (fun w h => List.mem_cons_of_mem _ (acX1 w h)) hown hK hP hq0 (mSet_oth hM2 hd).1 rfl 2 (by decide) (hts _ (List.mem_cons_of_mem _ (ac1 _ (List.mem_of_getElem? (i := 0) rfl)))) (fun _ h => h) rfl (dk kX1_copyFrom_ok 17 rfl) ?_
  refine lv_iconst (v := nI 0) hx hb (dk kX1_copyFrom_ok 18 rfl) rfl ?_
  refine lv_aload_n hx hb (dk kX1_copyFrom_ok 19 rfl) rfl (lv_at hl 0 rfl) ?_
  refine gf hx hb hts (fun w h => List.mem_cons_of_mem _ (acX1 w h)) hown hK hP hk0 (mSet_at hM).1 rfl 2 (by decide) (hts _ (List.mem_cons_of_mem _ (ac1 _ (List.mem_of_getElem? (i := 0) rfl)))) (fun _ h => h) rfl (dk kX1_copyFrom_ok 20 rfl) ?_
  refine lv_iconst (v := nI 0) hx hb (dk kX1_copyFrom_ok 21 rfl) rfl ?_
  refine lv_bipush (v := nI 16) hx hb (dk kX1_copyFrom_ok 22 rfl) rfl ?_
  refine cpy (mSet cI F k c2 b2 v2) hx hb (by rw [hml, hl.1]) hown (hts _ (List.mem_cons_of_mem _ (ac1 _ (List.mem_of_getElem? (i := 5) rfl)))) (hts _ (List.mem_cons_of_mem _ (ac1 _ (List.mem_of_getElem? (i := 6) rfl)))) (hts _ (List.mem_cons_of_mem _ (ac1 _ (List.mem_of_getElem? (i := 7) rfl)))) (hts _ (List.mem_cons_of_mem _ (ac1 _ (List.mem_of_getElem? (i := 8) rfl)))) hK hDi hP hS hq3 (mSet_oth hM2 hd).2.2.2 hk3 (mSet_at hM).2.2.2 (by decide) (Nat.le_of_ble_eq_true rfl) (Nat.le_of_ble_eq_true rfl) (dk kX1_copyFrom_ok 23 rfl) mSet_v (fun H locs hP hS => ?_)
  exact hret _ _ _ _ _ _ _ (by exact ⟨rfl, rfl⟩) hP hS (by decide) (by decide) (dk kX1_copyFrom_ok 24 rfl)
set_option maxRecDepth 100000 in
set_option maxHeartbeats 4000000 in
theorem tX4_whyNotFlown (l : Launch) (D : va_G) (cI cQ cL : ClassId) (ad : Nat → Nat) (N : Nat) (F : Nat → va_E) (k : Nat) (hk : k + 7 < N) (c b v g h j : Nat → Int32) (t : Nat) (u z : Int32) (hS0 : stAt cI ad F k c b v g h j (nI t) u z) (ht : t < 4) (x : Int32) (w : Nat) (hxw : x = nI w) (hw : w < 16) : MR l yX4_whyNotFlown (Cond.code yX4_whyNotFlown cX4_whyNotFlown 2 (some .int) :: AW) ({ frames := 3, cells := 0, slots := 0, locals := 65 } : Room) D cI cQ cL ad N F [.ref (ad k), .int x] (.int (nI (wnf c v t w))) := by
  refine mr_i (ty := .int) (by decide +kernel) rfl rfl rfl rfl (Nat.le_of_ble_eq_true rfl) (fun p e s m below meth cd Q ls hx hb hml hown hts hP hK hNW hret hl => ?_)
  have hown : s.vm.findClass RX4 = some m.cls := hown
  subst hxw
  have hk0 : k < N := by omega
  have hk1 : k + 1 < N := by omega
  have hk11 : k + 1 + 1 < N := by omega
  have hk12 : k + 1 + 2 < N := by omega
  have hk13 : k + 1 + 3 < N := by omega
  have hkm : k + 1 + 3 < N := by omega
  have hk5 : k + 5 < N := by omega
  have hk6 : k + 6 < N := by omega
  have hk7 : k + 7 < N := hk
  have hl : lv_has ls 2 [(0, .ref (ad k)), (1, .int (nI w))] := hl
  refine lv_aload_n hx hb (dk kX4_whyNotFlown_ok 0 rfl) rfl (lv_at hl 0 rfl) ?_
  refine gf hx hb hts (fun w h => List.mem_cons_of_mem _ (acX4 w h)) hown hK hP hk0 hS0.1 rfl 0 (by decide) (hts _ (List.mem_cons_of_mem _ (ac4 _ (List.mem_of_getElem? (i := 3) rfl)))) (fun _ h => h) rfl (dk kX4_whyNotFlown_ok 1 rfl) ?_
  refine cvR (As := []) (rest := []) ⟨hx, hb, hml, hown, hts⟩ (tX1_isOver l D cI cQ cL ad N F (k + 1) hkm c b v hS0.2.1) (cwV9 0 hts mcX1_isOver (ac6 _ (List.mem_of_getElem? (i := 10) rfl)) miX1_isOver meX1_isOver mini_RX1 rfl rfl hdX1_isOver ⟨Nat.le_of_ble_eq_true rfl, Nat.le_of_ble_eq_true rfl⟩) hK hP hNW hk1 hS0.2.1.1 rfl rfl hl.1 rfl (Nat.le_of_ble_eq_true rfl) (by decide) (dk kX4_whyNotFlown_ok 2 rfl) ?_
  refine b_if_eq (tgt := 12) hx hb (dk kX4_whyNotFlown_ok 3 rfl) (by decide) (fun h1 => ?_) (fun h1 => ?_)
  · skip
    refine lv_iload_n hx hb (dk kX4_whyNotFlown_ok 6 rfl) rfl (lv_at hl 1 rfl) ?_
    refine csPN (As := [.int (nI w)]) (rest := []) ⟨hx, hb, hml, hown, hts⟩ (tX5_colourOf l (nI w) w rfl (by omega)) (cwN9 1 hts mcX5_colourOf (nm6 hNW) mini_RX5 rfl rfl hdX5_colourOf ⟨Nat.le_of_ble_eq_true rfl, Nat.le_of_ble_eq_true rfl⟩) (hts _ (List.mem_cons_of_mem _ msX5_colourOf)) rfl hl.1 rfl (Nat.le_of_ble_eq_true rfl) (by decide) (dk kX4_whyNotFlown_ok 7 rfl) ?_
    refine lv_aload_n hx hb (dk kX4_whyNotFlown_ok 8 rfl) rfl (lv_at hl 0 rfl) ?_
    refine gf hx hb hts (fun w h => List.mem_cons_of_mem _ (acX4 w h)) hown hK hP hk0 hS0.1 rfl 4 (by decide) (hts _ (List.mem_cons_of_mem _ (ac4 _ (List.mem_of_getElem? (i := 7) rfl)))) (fun _ h => h) rfl (dk kX4_whyNotFlown_ok 9 rfl) ?_
    refine n_icmp_eq (tgt := 25) hx hb (by omega) (by omega) (dk kX4_whyNotFlown_ok 10 rfl) (by decide) (fun h2 => ?_) (fun h2 => ?_)
    · skip
      refine lv_aload_n hx hb (dk kX4_whyNotFlown_ok 13 rfl) rfl (lv_at hl 0 rfl) ?_
      refine gf hx hb hts (fun w h => List.mem_cons_of_mem _ (acX4 w h)) hown hK hP hk0 hS0.1 rfl 0 (by decide) (hts _ (List.mem_cons_of_mem _ (ac4 _ (List.mem_of_getElem? (i := 3) rfl)))) (fun _ h => h) rfl (dk kX4_whyNotFlown_ok 14 rfl) ?_
      refine lv_iload_n hx hb (dk kX4_whyNotFlown_ok 15 rfl) rfl (lv_at hl 1 rfl) ?_
      refine cvR (As := [.int (nI w)]) (rest := []) ⟨hx, hb, hml, hown, hts⟩ (tX1_isPotted l D cI cQ cL ad N F (k + 1) hkm c b v hS0.2.1 (nI w) w rfl (by omega)) (cwV9 1 hts mcX1_isPotted (ac6 _ (List.mem_of_getElem? (i := 14) rfl)) miX1_isPotted meX1_isPotted mini_RX1 rfl rfl hdX1_isPotted ⟨Nat.le_of_ble_eq_true rfl, Nat.le_of_ble_eq_true rfl⟩) hK hP hNW hk1 hS0.2.1.1 rfl rfl hl.1 rfl (Nat.le_of_ble_eq_true rfl) (by decide) (dk kX4_whyNotFlown_ok 16 rfl) ?_
      refine b_if_eq (tgt := 38) hx hb (dk kX4_whyNotFlown_ok 17 rfl) (by decide) (fun h3 => ?_) (fun h3 => ?_)
      · skip
        refine lv_aload_n hx hb (dk kX4_whyNotFlown_ok 20 rfl) rfl (lv_at hl 0 rfl) ?_
        refine gf hx hb hts (fun w h => List.mem_cons_of_mem _ (acX4 w h)) hown hK hP hk0 hS0.1 rfl 0 (by decide) (hts _ (List.mem_cons_of_mem _ (ac4 _ (List.mem_of_getElem? (i := 3) rfl)))) (fun _ h => h) rfl (dk kX4_whyNotFlown_ok 21 rfl) ?_
        refine lv_iload_n hx hb (dk kX4_whyNotFlown_ok 22 rfl) rfl (lv_at hl 1 rfl) ?_
        refine cvR (As := [.int (nI w)]) (rest := []) ⟨hx, hb, hml, hown, hts⟩ (tX1_isCovered l D cI cQ cL ad N F (k + 1) hkm c b v hS0.2.1 (nI w) w rfl (by omega)) (cwV9 1 hts mcX1_isCovered (ac6 _ (List.mem_of_getElem? (i := 15) rfl)) miX1_isCovered meX1_isCovered mini_RX1 rfl rfl hdX1_isCovered ⟨Nat.le_of_ble_eq_true rfl, Nat.le_of_ble_eq_true rfl⟩) hK hP hNW hk1 hS0.2.1.1 rfl rfl hl.1 rfl (Nat.le_of_ble_eq_true rfl) (by decide) (dk kX4_whyNotFlown_ok 23 rfl) ?_
        refine b_if_eq (tgt := 53) hx hb (dk kX4_whyNotFlown_ok 24 rfl) (by decide) (fun h4 => ?_) (fun h4 => ?_)
        · skip
          refine lv_iconst (v := nI 0) hx hb (dk kX4_whyNotFlown_ok 27 rfl) rfl ?_
          exact hret _ _ _ (by simp [wnf, h1, h2, h3, h4]) (dk kX4_whyNotFlown_ok 28 rfl)
        · skip
          refine lv_iconst (v := nI 4) hx hb (dk kX4_whyNotFlown_ok 25 rfl) rfl ?_
          refine lv_goto (tgt := 54) hx hb (dk kX4_whyNotFlown_ok 26 rfl) (by decide) ?_
          exact hret _ _ _ (by simp [wnf, h1, h2, h3, h4]) (dk kX4_whyNotFlown_ok 28 rfl)
      · skip
        refine lv_iconst (v := nI 3) hx hb (dk kX4_whyNotFlown_ok 18 rfl) rfl ?_
        exact hret _ _ _ (by simp [wnf, h1, h2, h3]) (dk kX4_whyNotFlown_ok 19 rfl)
    · skip
      refine lv_iconst (v := nI 2) hx hb (dk kX4_whyNotFlown_ok 11 rfl) rfl ?_
      exact hret _ _ _ (by simp [wnf, h1, h2]) (dk kX4_whyNotFlown_ok 12 rfl)
  · skip
    refine lv_iconst (v := nI 1) hx hb (dk kX4_whyNotFlown_ok 4 rfl) rfl ?_
    exact hret _ _ _ (by simp [wnf, h1]) (dk kX4_whyNotFlown_ok 5 rfl)
set_option maxRecDepth 100000 in
set_option maxHeartbeats 4000000 in
theorem tX4_whyNotLifted (l : Launch) (D : va_G) (cI cQ cL : ClassId) (ad : Nat → Nat) (N : Nat) (F : Nat → va_E) (k : Nat) (hk : k + 7 < N) (c b v g h j : Nat → Int32) (t : Nat) (u z : Int32) (hS0 : stAt cI ad F k c b v g h j (nI t) u z) (x y m9 : Int32) (n : Nat) (hmn : m9 = nI n) (hn1 : 1 ≤ n) (hn : n < 2 ^ 31) (d : Int32) : MR l yX4_whyNotLifted (Cond.code yX4_whyNotLifted cX4_whyNotLifted 6 (some .int) :: AW) ({ frames := 3, cells := 0, slots := 0, locals := 65 } : Room) D cI cQ cL ad N F [.ref (ad k), .int x, .int y, .int m9, .int d] (.int (nI (wnl c b v t z x y n d))) := by
  refine mr_i (ty := .int) (by decide +kernel) rfl rfl rfl rfl (Nat.le_of_ble_eq_true rfl) (fun p e s m below meth cd Q ls hx hb hml hown hts hP hK hNW hret hl => ?_)
  have hown : s.vm.findClass RX4 = some m.cls := hown
  subst hmn
  have hk0 : k < N := by omega
  have hk1 : k + 1 < N := by omega
  have hk11 : k + 1 + 1 < N := by omega
  have hk12 : k + 1 + 2 < N := by omega
  have hk13 : k + 1 + 3 < N := by omega
  have hkm : k + 1 + 3 < N := by omega
  have hk5 : k + 5 < N := by omega
  have hk6 : k + 6 < N := by omega
  have hk7 : k + 7 < N := hk
  have hl : lv_has ls 6 [(0, .ref (ad k)), (1, .int x), (2, .int y), (3, .int (nI n)), (4, .int d)] := hl
  refine lv_aload_n hx hb (dk kX4_whyNotLifted_ok 0 rfl) rfl (lv_at hl 0 rfl) ?_
  refine gf hx hb hts (fun w h => List.mem_cons_of_mem _ (acX4 w h)) hown hK hP hk0 hS0.1 rfl 0 (by decide) (hts _ (List.mem_cons_of_mem _ (ac4 _ (List.mem_of_getElem? (i := 3) rfl)))) (fun _ h => h) rfl (dk kX4_whyNotLifted_ok 1 rfl) ?_
  refine cvR (As := []) (rest := []) ⟨hx, hb, hml, hown, hts⟩ (tX1_isOver l D cI cQ cL ad N F (k + 1) hkm c b v hS0.2.1) (cwV9 0 hts mcX1_isOver (ac6 _ (List.mem_of_getElem? (i := 10) rfl)) miX1_isOver meX1_isOver mini_RX1 rfl rfl hdX1_isOver ⟨Nat.le_of_ble_eq_true rfl, Nat.le_of_ble_eq_true rfl⟩) hK hP hNW hk1 hS0.2.1.1 rfl rfl hl.1 rfl (Nat.le_of_ble_eq_true rfl) (by decide) (dk kX4_whyNotLifted_ok 2 rfl) ?_
  refine b_if_eq (tgt := 12) hx hb (dk kX4_whyNotLifted_ok 3 rfl) (by decide) (fun h1 => ?_) (fun h1 => ?_)
  · skip
    refine lv_iload_n hx hb (dk kX4_whyNotLifted_ok 6 rfl) rfl (lv_at hl 1 rfl) ?_
    refine lv_iload_n hx hb (dk kX4_whyNotLifted_ok 7 rfl) rfl (lv_at hl 2 rfl) ?_
    refine csPN (As := [.int x, .int y]) (rest := []) ⟨hx, hb, hml, hown, hts⟩ (tX5_cellAt l x y) (cwN9 2 hts mcX5_cellAt (nm13 hNW) mini_RX5 rfl rfl hdX5_cellAt ⟨Nat.le_of_ble_eq_true rfl, Nat.le_of_ble_eq_true rfl⟩) (hts _ (List.mem_cons_of_mem _ msX5_cellAt)) rfl hl.1 rfl (Nat.le_of_ble_eq_true rfl) (by decide) (dk kX4_whyNotLifted_ok 8 rfl) ?_
    refine lv_istore (lv' := [(5, .int (cat x y)), (0, .ref (ad k)), (1, .int x), (2, .int y), (3, .int (nI n)), (4, .int d)]) hx hb (dk kX4_whyNotLifted_ok 9 rfl) hl (by decide) rfl (fun ls hl => ?_)
    refine lv_aload_n hx hb (dk kX4_whyNotLifted_ok 10 rfl) rfl (lv_at hl 1 rfl) ?_
    refine gf hx hb hts (fun w h => List.mem_cons_of_mem _ (acX4 w h)) hown hK hP hk0 hS0.1 rfl 0 (by decide) (hts _ (List.mem_cons_of_mem _ (ac4 _ (List.mem_of_getElem? (i := 3) rfl)))) (fun _ h => h) rfl (dk kX4_whyNotLifted_ok 11 rfl) ?_
    refine lv_iload hx hb (dk kX4_whyNotLifted_ok 12 rfl) (lv_at hl 0 rfl) ?_
    refine lv_iload_n hx hb (dk kX4_whyNotLifted_ok 13 rfl) rfl (lv_at hl 4 rfl) ?_
    refine cvR (As := [.int (cat x y), .int (nI n)]) (rest := []) ⟨hx, hb, hml, hown, hts⟩ (tX1_lowestOfUpper l D cI cQ cL ad N F (k + 1) hkm c b v hS0.2.1 (cat x y) (nI n) n rfl (by omega) (by omega)) (cwV9 2 hts mcX1_lowestOfUpper (ac6 _ (List.mem_of_getElem? (i := 16) rfl)) miX1_lowestOfUpper meX1_lowestOfUpper mini_RX1 rfl rfl hdX1_lowestOfUpper ⟨Nat.le_of_ble_eq_true rfl, Nat.le_of_ble_eq_true rfl⟩) hK hP hNW hk1 hS0.2.1.1 rfl rfl hl.1 rfl (Nat.le_of_ble_eq_true rfl) (by decide) (dk kX4_whyNotLifted_ok 14 rfl) ?_
    refine lv_iconst (v := -1) hx hb (dk kX4_whyNotLifted_ok 15 rfl) rfl ?_
    refine lv_icmp_ne (tgt := 35) hx hb (dk kX4_whyNotLifted_ok 16 rfl) (by decide) (fun h2 => ?_) (fun h2 => ?_)
    · skip
      refine lv_aload_n hx hb (dk kX4_whyNotLifted_ok 19 rfl) rfl (lv_at hl 1 rfl) ?_
      refine gf hx hb hts (fun w h => List.mem_cons_of_mem _ (acX4 w h)) hown hK hP hk0 hS0.1 rfl 0 (by decide) (hts _ (List.mem_cons_of_mem _ (ac4 _ (List.mem_of_getElem? (i := 3) rfl)))) (fun _ h => h) rfl (dk kX4_whyNotLifted_ok 20 rfl) ?_
      refine lv_iload hx hb (dk kX4_whyNotLifted_ok 21 rfl) (lv_at hl 0 rfl) ?_
      refine cvR (As := [.int (cat x y)]) (rest := []) ⟨hx, hb, hml, hown, hts⟩ (tX1_topAt l D cI cQ cL ad N F (k + 1) hkm c b v hS0.2.1 (cat x y)) (cwV9 1 hts mcX1_topAt (ac6 _ (List.mem_of_getElem? (i := 20) rfl)) miX1_topAt meX1_topAt mini_RX1 rfl rfl hdX1_topAt ⟨Nat.le_of_ble_eq_true rfl, Nat.le_of_ble_eq_true rfl⟩) hK hP hNW hk1 hS0.2.1.1 rfl rfl hl.1 rfl (Nat.le_of_ble_eq_true rfl) (by decide) (dk kX4_whyNotLifted_ok 22 rfl) ?_
      refine csPN (As := [.int (top c v (cat x y))]) (rest := []) ⟨hx, hb, hml, hown, hts⟩ (tX5_colourOf_r l (top c v (cat x y))) (cwN9 1 hts mcX5_colourOf (nm6 hNW) mini_RX5 rfl rfl hdX5_colourOf ⟨Nat.le_of_ble_eq_true rfl, Nat.le_of_ble_eq_true rfl⟩) (hts _ (List.mem_cons_of_mem _ msX5_colourOf)) rfl hl.1 rfl (Nat.le_of_ble_eq_true rfl) (by decide) (dk kX4_whyNotLifted_ok 23 rfl) ?_
      refine lv_aload_n hx hb (dk kX4_whyNotLifted_ok 24 rfl) rfl (lv_at hl 1 rfl) ?_
      refine gf hx hb hts (fun w h => List.mem_cons_of_mem _ (acX4 w h)) hown hK hP hk0 hS0.1 rfl 4 (by decide) (hts _ (List.mem_cons_of_mem _ (ac4 _ (List.mem_of_getElem? (i := 7) rfl)))) (fun _ h => h) rfl (dk kX4_whyNotLifted_ok 25 rfl) ?_
      refine lv_icmp_eq (tgt := 56) hx hb (dk kX4_whyNotLifted_ok 26 rfl) (by decide) (fun h3 => ?_) (fun h3 => ?_)
      · skip
        refine lv_iload_n hx hb (dk kX4_whyNotLifted_ok 29 rfl) rfl (lv_at hl 4 rfl) ?_
        refine lv_aload_n hx hb (dk kX4_whyNotLifted_ok 30 rfl) rfl (lv_at hl 1 rfl) ?_
        refine gf hx hb hts (fun w h => List.mem_cons_of_mem _ (acX4 w h)) hown hK hP hk0 hS0.1 rfl 6 (by decide) (hts _ (List.mem_cons_of_mem _ (ac4 _ (List.mem_of_getElem? (i := 9) rfl)))) (fun _ h => h) rfl (dk kX4_whyNotLifted_ok 31 rfl) ?_
        refine lv_icmp_le (tgt := 66) hx hb (dk kX4_whyNotLifted_ok 32 rfl) (by decide) (fun h4 => ?_) (fun h4 => ?_)
        · skip
          refine lv_iload_n hx hb (dk kX4_whyNotLifted_ok 35 rfl) rfl (lv_at hl 2 rfl) ?_
          refine lv_iload_n hx hb (dk kX4_whyNotLifted_ok 36 rfl) rfl (lv_at hl 3 rfl) ?_
          refine lv_iload hx hb (dk kX4_whyNotLifted_ok 37 rfl) (lv_at hl 5 rfl) ?_
          refine csPN (As := [.int x, .int y, .int d]) (rest := []) ⟨hx, hb, hml, hown, hts⟩ (tX5_cellBeside l x y d) (cwN9 3 hts mcX5_cellBeside (nm14 hNW) mini_RX5 rfl rfl hdX5_cellBeside ⟨Nat.le_of_ble_eq_true rfl, Nat.le_of_ble_eq_true rfl⟩) (hts _ (List.mem_cons_of_mem _ msX5_cellBeside)) rfl hl.1 rfl (Nat.le_of_ble_eq_true rfl) (by decide) (dk kX4_whyNotLifted_ok 38 rfl) ?_
          refine lv_iconst (v := -1) hx hb (dk kX4_whyNotLifted_ok 39 rfl) rfl ?_
          refine lv_icmp_ne (tgt := 81) hx hb (dk kX4_whyNotLifted_ok 40 rfl) (by decide) (fun h5 => ?_) (fun h5 => ?_)
          · skip
            refine lv_iconst (v := nI 0) hx hb (dk kX4_whyNotLifted_ok 43 rfl) rfl ?_
            exact hret _ _ _ (by simp only [wnl, h1, (eq_false h2), (eq_true h3), (eq_true h4), (eq_false h5), not_true_eq_false, not_false_eq_true, and_true, true_and, and_false, false_and, or_true, true_or, or_false, false_or, and_self, or_self, if_true, if_false, Bool.false_eq_true, reduceIte]) (dk kX4_whyNotLifted_ok 44 rfl)
          · skip
            refine lv_iconst (v := nI 5) hx hb (dk kX4_whyNotLifted_ok 41 rfl) rfl ?_
            refine lv_goto (tgt := 82) hx hb (dk kX4_whyNotLifted_ok 42 rfl) (by decide) ?_
            exact hret _ _ _ (by simp only [wnl, h1, (eq_false h2), (eq_true h3), (eq_true h4), (eq_true h5), not_true_eq_false, not_false_eq_true, and_true, true_and, and_false, false_and, or_true, true_or, or_false, false_or, and_self, or_self, if_true, if_false, Bool.false_eq_true, reduceIte]) (dk kX4_whyNotLifted_ok 44 rfl)
        · skip
          refine lv_iconst (v := nI 4) hx hb (dk kX4_whyNotLifted_ok 33 rfl) rfl ?_
          exact hret _ _ _ (by simp only [wnl, h1, (eq_false h2), (eq_true h3), (eq_false h4), not_true_eq_false, not_false_eq_true, and_true, true_and, and_false, false_and, or_true, true_or, or_false, false_or, and_self, or_self, if_true, if_false, Bool.false_eq_true, reduceIte]) (dk kX4_whyNotLifted_ok 34 rfl)
      · skip
        refine lv_iconst (v := nI 3) hx hb (dk kX4_whyNotLifted_ok 27 rfl) rfl ?_
        exact hret _ _ _ (by simp only [wnl, h1, (eq_false h2), (eq_false h3), not_true_eq_false, not_false_eq_true, and_true, true_and, and_false, false_and, or_true, true_or, or_false, false_or, and_self, or_self, if_true, if_false, Bool.false_eq_true, reduceIte]) (dk kX4_whyNotLifted_ok 28 rfl)
    · skip
      refine lv_iconst (v := nI 2) hx hb (dk kX4_whyNotLifted_ok 17 rfl) rfl ?_
      exact hret _ _ _ (by simp only [wnl, h1, (eq_true h2), not_true_eq_false, not_false_eq_true, and_true, true_and, and_false, false_and, or_true, true_or, or_false, false_or, and_self, or_self, if_true, if_false, Bool.false_eq_true, reduceIte]) (dk kX4_whyNotLifted_ok 18 rfl)
  · skip
    refine lv_iconst (v := nI 1) hx hb (dk kX4_whyNotLifted_ok 4 rfl) rfl ?_
    exact hret _ _ _ (by simp only [wnl, h1, not_true_eq_false, not_false_eq_true, and_true, true_and, and_false, false_and, or_true, true_or, or_false, false_or, and_self, or_self, if_true, if_false, Bool.false_eq_true, reduceIte]) (dk kX4_whyNotLifted_ok 5 rfl)
set_option maxRecDepth 100000 in
set_option maxHeartbeats 4000000 in
theorem tX4_allFlights (l : Launch) (D : va_G) (cI cQ cL : ClassId) (ad : Nat → Nat) (N : Nat) (F : Nat → va_E) (k : Nat) (hk : k + 7 < N) (c b v g h j : Nat → Int32) (t : Nat) (u z : Int32) (hS0 : stAt cI ad F k c b v g h j (nI t) u z) : MR l yX4_allFlights (Cond.code yX4_allFlights cX4_allFlights 3 (some .int) :: AW) ({ frames := 0, cells := 0, slots := 0, locals := 0 } : Room) D cI cQ cL ad N F [.ref (ad k)] (.int (smi g 16)) := by
  refine mr_i (ty := .int) (by decide +kernel) rfl rfl rfl rfl (Nat.le_of_ble_eq_true rfl) (fun p e s m below meth cd Q ls hx hb hml hown hts hP hK hNW hret hl => ?_)
  have hown : s.vm.findClass RX4 = some m.cls := hown
  have hk0 : k < N := by omega
  have hk1 : k + 1 < N := by omega
  have hk11 : k + 1 + 1 < N := by omega
  have hk12 : k + 1 + 2 < N := by omega
  have hk13 : k + 1 + 3 < N := by omega
  have hkm : k + 1 + 3 < N := by omega
  have hk5 : k + 5 < N := by omega
  have hk6 : k + 6 < N := by omega
  have hk7 : k + 7 < N := hk
  have hl : lv_has ls 3 [(0, .ref (ad k))] := hl
  refine lv_iconst (v := nI 0) hx hb (dk kX4_allFlights_ok 0 rfl) rfl ?_
  refine lv_istore_n (lv' := [(1, .int (nI 0)), (0, .ref (ad k))]) hx hb (dk kX4_allFlights_ok 1 rfl) rfl hl (by decide) rfl (fun ls hl => ?_)
  refine lv_iconst (v := nI 0) hx hb (dk kX4_allFlights_ok 2 rfl) rfl ?_
  refine lv_istore_n (lv' := [(2, .int (nI 0)), (1, .int (nI 0)), (0, .ref (ad k))]) hx hb (dk kX4_allFlights_ok 3 rfl) rfl hl (by decide) rfl (fun ls hl => ?_)
  have L4 : ∀ (fu : Nat) (i : Nat) (x1 : Int32), x1 = smi g i → i ≤ 16 → 16 - i < fu → ∀ ls : Array Slot, lv_has ls 3 [(0, .ref (ad k)), (1, .int x1), (2, .int (nI i))] → W p l e ({ frames := 0, cells := 0, slots := 0, locals := 0 } : Room) s m ([.ref (ad k)] : List Value).toArray below meth cd s.heap [] 0 0 Q (F0 m 4 ls []) := by
    intro fu
    induction fu with
    | zero => intros; omega
    | succ fu ih4 =>
      intro i x1 ex1 hi hm4 ls hl
      subst ex1
      refine lv_iload_n hx hb (dk kX4_allFlights_ok 4 rfl) rfl (lv_at hl 2 rfl) ?_
      refine lv_bipush (v := nI 16) hx hb (dk kX4_allFlights_ok 5 rfl) rfl ?_
      refine n_icmp_ge (tgt := 25) hx hb (by omega) (by decide) (dk kX4_allFlights_ok 6 rfl) (by decide) (fun h1 => ?_) (fun h1 => ?_)
      · skip
        refine lv_iload_n hx hb (dk kX4_allFlights_ok 16 rfl) rfl (lv_at hl 1 rfl) ?_
        exact hret _ _ _ (by rw [show i = 16 by omega] <;> rfl) (dk kX4_allFlights_ok 17 rfl)
      · skip
        refine lv_iload_n hx hb (dk kX4_allFlights_ok 7 rfl) rfl (lv_at hl 1 rfl) ?_
        refine lv_aload_n hx hb (dk kX4_allFlights_ok 8 rfl) rfl (lv_at hl 0 rfl) ?_
        refine gf hx hb hts (fun w h => List.mem_cons_of_mem _ (acX4 w h)) hown hK hP hk0 hS0.1 rfl 1 (by decide) (hts _ (List.mem_cons_of_mem _ (ac4 _ (List.mem_of_getElem? (i := 4) rfl)))) (fun _ h => h) rfl (dk kX4_allFlights_ok 9 rfl) ?_
        refine lv_iload_n hx hb (dk kX4_allFlights_ok 10 rfl) rfl (lv_at hl 2 rfl) ?_
        refine ald (j := i) hx hb hK hP hk5 hS0.2.2.1 rfl (by omega) (by decide) (dk kX4_allFlights_ok 11 rfl) ?_
        refine lv_iadd hx hb (dk kX4_allFlights_ok 12 rfl) ?_
        refine lv_istore_n (lv' := [(1, .int ((smi g i) + (g i))), (0, .ref (ad k)), (2, .int (nI i))]) hx hb (dk kX4_allFlights_ok 13 rfl) rfl hl (by decide) rfl (fun ls hl => ?_)
        refine lv_iinc (v := nI (i + 1)) (lv' := [(2, .int (nI (i + 1))), (1, .int ((smi g i) + (g i))), (0, .ref (ad k))]) hx hb (dk kX4_allFlights_ok 14 rfl) hl (k := 2) rfl (n_inc _) (by decide) rfl (fun ls hl => ?_)
        refine lv_goto (tgt := 4) hx hb (dk kX4_allFlights_ok 15 rfl) (by decide) ?_
        exact ih4 (i + 1) _ (by rfl) (by omega) (by omega) ls (lv_sub hl [2, 1, 0] rfl)
  exact L4 _ 0 _ (by first | rfl | omega) (by first | rfl | omega) (Nat.lt_succ_self _) ls (lv_sub hl [2, 1, 0] rfl)
set_option maxRecDepth 100000 in
set_option maxHeartbeats 4000000 in
theorem tX4_allFouls (l : Launch) (D : va_G) (cI cQ cL : ClassId) (ad : Nat → Nat) (N : Nat) (F : Nat → va_E) (k : Nat) (hk : k + 7 < N) (c b v g h j : Nat → Int32) (t : Nat) (u z : Int32) (hS0 : stAt cI ad F k c b v g h j (nI t) u z) : MR l yX4_allFouls (Cond.code yX4_allFouls cX4_allFouls 3 (some .int) :: AW) ({ frames := 0, cells := 0, slots := 0, locals := 0 } : Room) D cI cQ cL ad N F [.ref (ad k)] (.int (smi h 4)) := by
  refine mr_i (ty := .int) (by decide +kernel) rfl rfl rfl rfl (Nat.le_of_ble_eq_true rfl) (fun p e s m below meth cd Q ls hx hb hml hown hts hP hK hNW hret hl => ?_)
  have hown : s.vm.findClass RX4 = some m.cls := hown
  have hk0 : k < N := by omega
  have hk1 : k + 1 < N := by omega
  have hk11 : k + 1 + 1 < N := by omega
  have hk12 : k + 1 + 2 < N := by omega
  have hk13 : k + 1 + 3 < N := by omega
  have hkm : k + 1 + 3 < N := by omega
  have hk5 : k + 5 < N := by omega
  have hk6 : k + 6 < N := by omega
  have hk7 : k + 7 < N := hk
  have hl : lv_has ls 3 [(0, .ref (ad k))] := hl
  refine lv_iconst (v := nI 0) hx hb (dk kX4_allFouls_ok 0 rfl) rfl ?_
  refine lv_istore_n (lv' := [(1, .int (nI 0)), (0, .ref (ad k))]) hx hb (dk kX4_allFouls_ok 1 rfl) rfl hl (by decide) rfl (fun ls hl => ?_)
  refine lv_iconst (v := nI 0) hx hb (dk kX4_allFouls_ok 2 rfl) rfl ?_
  refine lv_istore_n (lv' := [(2, .int (nI 0)), (1, .int (nI 0)), (0, .ref (ad k))]) hx hb (dk kX4_allFouls_ok 3 rfl) rfl hl (by decide) rfl (fun ls hl => ?_)
  have L4 : ∀ (fu : Nat) (i : Nat) (x1 : Int32), x1 = smi h i → i ≤ 4 → 4 - i < fu → ∀ ls : Array Slot, lv_has ls 3 [(0, .ref (ad k)), (1, .int x1), (2, .int (nI i))] → W p l e ({ frames := 0, cells := 0, slots := 0, locals := 0 } : Room) s m ([.ref (ad k)] : List Value).toArray below meth cd s.heap [] 0 0 Q (F0 m 4 ls []) := by
    intro fu
    induction fu with
    | zero => intros; omega
    | succ fu ih4 =>
      intro i x1 ex1 hi hm4 ls hl
      subst ex1
      refine lv_iload_n hx hb (dk kX4_allFouls_ok 4 rfl) rfl (lv_at hl 2 rfl) ?_
      refine lv_iconst (v := nI 4) hx hb (dk kX4_allFouls_ok 5 rfl) rfl ?_
      refine n_icmp_ge (tgt := 24) hx hb (by omega) (by decide) (dk kX4_allFouls_ok 6 rfl) (by decide) (fun h1 => ?_) (fun h1 => ?_)
      · skip
        refine lv_iload_n hx hb (dk kX4_allFouls_ok 16 rfl) rfl (lv_at hl 1 rfl) ?_
        exact hret _ _ _ (by rw [show i = 4 by omega] <;> rfl) (dk kX4_allFouls_ok 17 rfl)
      · skip
        refine lv_iload_n hx hb (dk kX4_allFouls_ok 7 rfl) rfl (lv_at hl 1 rfl) ?_
        refine lv_aload_n hx hb (dk kX4_allFouls_ok 8 rfl) rfl (lv_at hl 0 rfl) ?_
        refine gf hx hb hts (fun w h => List.mem_cons_of_mem _ (acX4 w h)) hown hK hP hk0 hS0.1 rfl 2 (by decide) (hts _ (List.mem_cons_of_mem _ (ac4 _ (List.mem_of_getElem? (i := 5) rfl)))) (fun _ h => h) rfl (dk kX4_allFouls_ok 9 rfl) ?_
        refine lv_iload_n hx hb (dk kX4_allFouls_ok 10 rfl) rfl (lv_at hl 2 rfl) ?_
        refine ald (j := i) hx hb hK hP hk6 hS0.2.2.2.1 rfl (by omega) (by decide) (dk kX4_allFouls_ok 11 rfl) ?_
        refine lv_iadd hx hb (dk kX4_allFouls_ok 12 rfl) ?_
        refine lv_istore_n (lv' := [(1, .int ((smi h i) + (h i))), (0, .ref (ad k)), (2, .int (nI i))]) hx hb (dk kX4_allFouls_ok 13 rfl) rfl hl (by decide) rfl (fun ls hl => ?_)
        refine lv_iinc (v := nI (i + 1)) (lv' := [(2, .int (nI (i + 1))), (1, .int ((smi h i) + (h i))), (0, .ref (ad k))]) hx hb (dk kX4_allFouls_ok 14 rfl) hl (k := 2) rfl (n_inc _) (by decide) rfl (fun ls hl => ?_)
        refine lv_goto (tgt := 4) hx hb (dk kX4_allFouls_ok 15 rfl) (by decide) ?_
        exact ih4 (i + 1) _ (by rfl) (by omega) (by omega) ls (lv_sub hl [2, 1, 0] rfl)
  exact L4 _ 0 _ (by first | rfl | omega) (by first | rfl | omega) (Nat.lt_succ_self _) ls (lv_sub hl [2, 1, 0] rfl)
set_option maxRecDepth 100000 in
set_option maxHeartbeats 4000000 in
theorem tX4_passTurn (l : Launch) (D : va_G) (cI cQ cL : ClassId) (ad : Nat → Nat) (N : Nat) (F : Nat → va_E) (k : Nat) (hk : k + 7 < N) (c b v g h j : Nat → Int32) (t : Nat) (u z : Int32) (hS0 : stAt cI ad F k c b v g h j (nI t) u z) (ht : t < 4) : MX l yX4_passTurn (Cond.code yX4_passTurn cX4_passTurn 3 none :: AW) ({ frames := 2, cells := 0, slots := 0, locals := 44 } : Room) D cI cQ cL ad N F [.ref (ad k)] (dp none (sSet cI ad F k c b v g h ((pasg c t 8 j t).1) (nI ((pasg c t 8 j t).2)) u z)) 0 0 := by
  refine mx_v (by decide +kernel) rfl (Nat.le_of_ble_eq_true rfl) (fun p e s m below meth cd Q ls hx hb hml hown hts hDi hP hK hNW hS hret hl => ?_)
  have hown : s.vm.findClass RX4 = some m.cls := hown
  have hk0 : k < N := by omega
  have hk1 : k + 1 < N := by omega
  have hk11 : k + 1 + 1 < N := by omega
  have hk12 : k + 1 + 2 < N := by omega
  have hk13 : k + 1 + 3 < N := by omega
  have hkm : k + 1 + 3 < N := by omega
  have hk5 : k + 5 < N := by omega
  have hk6 : k + 6 < N := by omega
  have hk7 : k + 7 < N := hk
  have hP : va_P D vwCl (iW ad N (sSet cI ad F k c b v g h j (nI t) u z)) s.heap := by rw [sSet_self hS0]; exact hP
  have hl : lv_has ls 3 [(0, .ref (ad k))] := hl
  refine lv_aload_n hx hb (dk kX4_passTurn_ok 0 rfl) rfl (lv_at hl 0 rfl) ?_
  refine gf hx hb hts (fun w h => List.mem_cons_of_mem _ (acX4 w h)) hown hK hP hk0 (sSet_at hS0).1 rfl 4 (by decide) (hts _ (List.mem_cons_of_mem _ (ac4 _ (List.mem_of_getElem? (i := 7) rfl)))) (fun _ h => h) rfl (dk kX4_passTurn_ok 1 rfl) ?_
  refine lv_istore_n (lv' := [(1, .int (nI t)), (0, .ref (ad k))]) hx hb (dk kX4_passTurn_ok 2 rfl) rfl hl (by decide) rfl (fun ls hl => ?_)
  refine lv_iconst (v := nI 0) hx hb (dk kX4_passTurn_ok 3 rfl) rfl ?_
  refine lv_istore_n (lv' := [(2, .int (nI 0)), (1, .int (nI t)), (0, .ref (ad k))]) hx hb (dk kX4_passTurn_ok 4 rfl) rfl hl (by decide) rfl (fun ls hl => ?_)
  have L7 : ∀ (fu : Nat) (i q : Nat) (j2 : Nat → Int32) (H : Heap) (locs : List Loc), va_P D vwCl (iW ad N (sSet cI ad F k c b v g h j2 (nI t) u z)) H → va_S (iA ad N s.heap.size) s.heap H locs → i ≤ 8 → q < 4 → pasg c t 8 j t = pasg c t (8 - i) j2 q → 8 - i < fu → ∀ ls : Array Slot, lv_has ls 3 [(0, .ref (ad k)), (1, .int (nI q)), (2, .int (nI i))] → W p l e ({ frames := 2, cells := 0, slots := 0, locals := 44 } : Room) s m ([.ref (ad k)] : List Value).toArray below meth cd H locs 0 0 Q (F0 m 7 ls []) := by
    intro fu
    induction fu with
    | zero => intros; omega
    | succ fu ih7 =>
      intro i q j2 H locs hP hS hi hq hr hm7 ls hl
      refine lv_iload_n hx hb (dk kX4_passTurn_ok 5 rfl) rfl (lv_at hl 2 rfl) ?_
      refine lv_bipush (v := nI 8) hx hb (dk kX4_passTurn_ok 6 rfl) rfl ?_
      refine n_icmp_ge (tgt := 64) hx hb (by omega) (by decide) (dk kX4_passTurn_ok 7 rfl) (by decide) (fun h1 => ?_) (fun h1 => ?_)
      · skip
        exact hret _ _ _ _ _ _ _ (by refine ⟨rfl, ?_⟩; first | (rw [hr, show 8 - i = (8 - (i + 1)) + 1 by omega]; simp only [pasg, (eq_true h1), (eq_false (Nat.not_lt.mpr h1)), not_true_eq_false, not_false_eq_true, and_true, true_and, and_false, false_and, or_true, true_or, or_false, false_or, and_self, or_self, if_true, if_false, Bool.false_eq_true, reduceIte]; done) | (rw [hr, show 8 - i = 0 by omega]; rfl)) hP hS (by decide) (by decide) (dk kX4_passTurn_ok 39 rfl)
      · skip
        refine lv_iload_n hx hb (dk kX4_passTurn_ok 8 rfl) rfl (lv_at hl 1 rfl) ?_
        refine lv_iconst (v := nI 1) hx hb (dk kX4_passTurn_ok 9 rfl) rfl ?_
        refine n_iadd hx hb (dk kX4_passTurn_ok 10 rfl) ?_
        refine lv_iconst (v := nI 4) hx hb (dk kX4_passTurn_ok 11 rfl) rfl ?_
        refine n_irem hx hb (by omega) (by decide) (by decide) (dk kX4_passTurn_ok 12 rfl) ?_
        refine lv_istore_n (lv' := [(1, .int (nI ((q + 1) % 4))), (0, .ref (ad k)), (2, .int (nI i))]) hx hb (dk kX4_passTurn_ok 13 rfl) rfl hl (by decide) rfl (fun ls hl => ?_)
        refine lv_aload_n hx hb (dk kX4_passTurn_ok 14 rfl) rfl (lv_at hl 1 rfl) ?_
        refine gf hx hb hts (fun w h => List.mem_cons_of_mem _ (acX4 w h)) hown hK hP hk0 (sSet_at hS0).1 rfl 0 (by decide) (hts _ (List.mem_cons_of_mem _ (ac4 _ (List.mem_of_getElem? (i := 3) rfl)))) (fun _ h => h) rfl (dk kX4_passTurn_ok 15 rfl) ?_
        refine lv_iload_n hx hb (dk kX4_passTurn_ok 16 rfl) rfl (lv_at hl 0 rfl) ?_
        refine cvR (As := [.int (nI ((q + 1) % 4))]) (rest := []) ⟨hx, hb, hml, hown, hts⟩ (tX1_isAllPotted l D cI cQ cL ad N (sSet cI ad F k c b v g h j2 (nI t) u z) (k + 1) hkm c b v (sSet_at hS0).2.1 (nI ((q + 1) % 4)) ((q + 1) % 4) rfl (by omega)) (cwV9 1 hts mcX1_isAllPotted (ac7 _ (List.mem_of_getElem? (i := 4) rfl)) miX1_isAllPotted meX1_isAllPotted mini_RX1 rfl rfl hdX1_isAllPotted ⟨Nat.le_of_ble_eq_true rfl, Nat.le_of_ble_eq_true rfl⟩) hK hP hNW hk1 (sSet_at hS0).2.1.1 rfl rfl hl.1 rfl (Nat.le_of_ble_eq_true rfl) (by decide) (dk kX4_passTurn_ok 17 rfl) ?_
        refine b_if_eq (tgt := 33) hx hb (dk kX4_passTurn_ok 18 rfl) (by decide) (fun h2 => ?_) (fun h2 => ?_)
        · replace h2 := of_decide_eq_false h2
          refine lv_aload_n hx hb (dk kX4_passTurn_ok 20 rfl) rfl (lv_at hl 1 rfl) ?_
          refine gf hx hb hts (fun w h => List.mem_cons_of_mem _ (acX4 w h)) hown hK hP hk0 (sSet_at hS0).1 rfl 3 (by decide) (hts _ (List.mem_cons_of_mem _ (ac4 _ (List.mem_of_getElem? (i := 6) rfl)))) (fun _ h => h) rfl (dk kX4_passTurn_ok 21 rfl) ?_
          refine lv_iload_n hx hb (dk kX4_passTurn_ok 22 rfl) rfl (lv_at hl 0 rfl) ?_
          refine ald (j := ((q + 1) % 4)) hx hb hK hP hk7 (sSet_at hS0).2.2.2.2 rfl (by omega) (by decide) (dk kX4_passTurn_ok 23 rfl) ?_
          refine lv_if_ne (tgt := 48) hx hb (dk kX4_passTurn_ok 24 rfl) (by decide) (fun h3 => ?_) (fun h3 => ?_)
          · skip
            refine lv_aload_n hx hb (dk kX4_passTurn_ok 29 rfl) rfl (lv_at hl 1 rfl) ?_
            refine gf hx hb hts (fun w h => List.mem_cons_of_mem _ (acX4 w h)) hown hK hP hk0 (sSet_at hS0).1 rfl 3 (by decide) (hts _ (List.mem_cons_of_mem _ (ac4 _ (List.mem_of_getElem? (i := 6) rfl)))) (fun _ h => h) rfl (dk kX4_passTurn_ok 30 rfl) ?_
            refine lv_iload_n hx hb (dk kX4_passTurn_ok 31 rfl) rfl (lv_at hl 0 rfl) ?_
            refine lv_dup2_11 hx hb (dk kX4_passTurn_ok 32 rfl) rfl rfl ?_
            refine ald (j := ((q + 1) % 4)) hx hb hK hP hk7 (sSet_at hS0).2.2.2.2 rfl (by omega) (by decide) (dk kX4_passTurn_ok 33 rfl) ?_
            refine lv_iconst (v := nI 1) hx hb (dk kX4_passTurn_ok 34 rfl) rfl ?_
            refine lv_isub hx hb (dk kX4_passTurn_ok 35 rfl) ?_
            refine ast (sSet cI ad F k c b v g h (upd j2 ((q + 1) % 4) ((j2 ((q + 1) % 4)) - (nI 1))) (nI t) u z) (j := ((q + 1) % 4)) hx hb hK hDi hP hS hk7 (sSet_at hS0).2.2.2.2 rfl (by omega) (by decide) (dk kX4_passTurn_ok 36 rfl) sSet_j (fun H locs hP hS => ?_)
            refine lv_iinc (v := nI (i + 1)) (lv' := [(2, .int (nI (i + 1))), (1, .int (nI ((q + 1) % 4))), (0, .ref (ad k))]) hx hb (dk kX4_passTurn_ok 37 rfl) hl (k := 2) rfl (n_inc _) (by decide) rfl (fun ls hl => ?_)
            refine lv_goto (tgt := 7) hx hb (dk kX4_passTurn_ok 38 rfl) (by decide) ?_
            exact ih7 (i + 1) ((q + 1) % 4) (upd j2 ((q + 1) % 4) ((j2 ((q + 1) % 4)) - (nI 1))) _ _ hP hS (by omega) (by omega) (by rw [hr, show 8 - i = (8 - (i + 1)) + 1 by omega]; simp only [pasg, (eq_true h1), (eq_false (Nat.not_le.mpr h1)), (eq_false h2), (eq_false h3), not_true_eq_false, not_false_eq_true, and_true, true_and, and_false, false_and, or_true, true_or, or_false, false_or, and_self, or_self, if_true, if_false, Bool.false_eq_true, reduceIte]) (by omega) ls (lv_sub hl [2, 1, 0] rfl)
          · skip
            refine lv_aload_n hx hb (dk kX4_passTurn_ok 25 rfl) rfl (lv_at hl 1 rfl) ?_
            refine lv_iload_n hx hb (dk kX4_passTurn_ok 26 rfl) rfl (lv_at hl 0 rfl) ?_
            refine pf (sSet cI ad F k c b v g h j2 (nI ((q + 1) % 4)) u z) hx hb hts (fun w h => List.mem_cons_of_mem _ (acX4 w h)) tyX4 tyX4_ok nmX4 hown hK hDi hP hS hk0 (sSet_at hS0).1 rfl 4 (by decide) (hts _ (List.mem_cons_of_mem _ (ac4 _ (List.mem_of_getElem? (i := 7) rfl)))) (fun _ h => h) rfl (ty := .int) rfl rfl rfl (Nat.le_of_ble_eq_true rfl) (dk kX4_passTurn_ok 27 rfl) sSet_0 (fun H locs hP hS => ?_)
            exact hret _ _ _ _ _ _ _ (by refine ⟨rfl, ?_⟩; first | (rw [hr, show 8 - i = (8 - (i + 1)) + 1 by omega]; simp only [pasg, (eq_true h1), (eq_false (Nat.not_le.mpr h1)), (eq_false h2), (eq_true h3), not_true_eq_false, not_false_eq_true, and_true, true_and, and_false, false_and, or_true, true_or, or_false, false_or, and_self, or_self, if_true, if_false, Bool.false_eq_true, reduceIte]; done) | (rw [hr, show 8 - i = 0 by omega]; rfl)) hP hS (by decide) (by decide) (dk kX4_passTurn_ok 28 rfl)
        · replace h2 := of_decide_eq_true h2
          refine lv_goto (tgt := 58) hx hb (dk kX4_passTurn_ok 19 rfl) (by decide) ?_
          refine lv_iinc (v := nI (i + 1)) (lv' := [(2, .int (nI (i + 1))), (1, .int (nI ((q + 1) % 4))), (0, .ref (ad k))]) hx hb (dk kX4_passTurn_ok 37 rfl) hl (k := 2) rfl (n_inc _) (by decide) rfl (fun ls hl => ?_)
          refine lv_goto (tgt := 7) hx hb (dk kX4_passTurn_ok 38 rfl) (by decide) ?_
          exact ih7 (i + 1) ((q + 1) % 4) j2 _ _ hP hS (by omega) (by omega) (by rw [hr, show 8 - i = (8 - (i + 1)) + 1 by omega]; simp only [pasg, (eq_true h1), (eq_false (Nat.not_le.mpr h1)), (eq_true h2), not_true_eq_false, not_false_eq_true, and_true, true_and, and_false, false_and, or_true, true_or, or_false, false_or, and_self, or_self, if_true, if_false, Bool.false_eq_true, reduceIte]) (by omega) ls (lv_sub hl [2, 1, 0] rfl)
  exact L7 _ 0 t j _ _ hP hS (by first | omega | rfl) (by first | omega | rfl) (by first | omega | rfl) (Nat.lt_succ_self _) ls (lv_sub hl [2, 1, 0] rfl)
set_option maxRecDepth 100000 in
set_option maxHeartbeats 4000000 in
theorem tX4_carryOutFlight (l : Launch) (D : va_G) (cI cQ cL : ClassId) (ad : Nat → Nat) (N : Nat) (F : Nat → va_E) (k : Nat) (hk : k + 7 < N) (c b v g h j : Nat → Int32) (t : Nat) (u z : Int32) (hS0 : stAt cI ad F k c b v g h j (nI t) u z) (ht : t < 4) (x : Int32) (w : Nat) (hxw : x = nI w) (hw : w < 16) (d y : Int32) (f : Nat) (hyf : y = nI f) (hf : f < 2 ^ 30) : MX l yX4_carryOutFlight (Cond.code yX4_carryOutFlight cX4_carryOutFlight 6 (some .int) :: AW) ({ frames := 3, cells := 0, slots := 0, locals := 68 } : Room) D cI cQ cL ad N F [.ref (ad k), .int x, .int d, .int y] (dp (some (.int (fans (flE c w d f)))) (sSet cI ad F k (mov1 c b v w (rest9 w (flE c w d f))) (mov2 c b v w (rest9 w (flE c w d f))) (mov3 c b v w (rest9 w (flE c w d f))) (upd g w (g w + nI 1)) (flH h w (flE c w d f)) ((flP (mov1 c b v w (rest9 w (flE c w d f))) t w (flE c w d f) (flH j w (flE c w d f))).1) (nI ((flP (mov1 c b v w (rest9 w (flE c w d f))) t w (flE c w d f) (flH j w (flE c w d f))).2)) u z)) 0 0 := by
  refine mx_i (ty := .int) (by decide +kernel) rfl (Nat.le_of_ble_eq_true rfl) (fun p e s m below meth cd Q ls hx hb hml hown hts hDi hP hK hNW hS hret hl => ?_)
  have hown : s.vm.findClass RX4 = some m.cls := hown
  subst hxw
  subst hyf
  have hst : stp w f < 2 ^ 31 := by unfold stp; split <;> omega
  have hk0 : k < N := by omega
  have hk1 : k + 1 < N := by omega
  have hk11 : k + 1 + 1 < N := by omega
  have hk12 : k + 1 + 2 < N := by omega
  have hk13 : k + 1 + 3 < N := by omega
  have hkm : k + 1 + 3 < N := by omega
  have hk5 : k + 5 < N := by omega
  have hk6 : k + 6 < N := by omega
  have hk7 : k + 7 < N := hk
  have hP : va_P D vwCl (iW ad N (sSet cI ad F k c b v g h j (nI t) u z)) s.heap := by rw [sSet_self hS0]; exact hP
  have hl : lv_has ls 6 [(0, .ref (ad k)), (1, .int (nI w)), (2, .int d), (3, .int (nI f))] := hl
  refine lv_iload_n hx hb (dk kX4_carryOutFlight_0_ok 0 rfl) rfl (lv_at hl 1 rfl) ?_
  refine csPN (As := [.int (nI w)]) (rest := []) ⟨hx, hb, hml, hown, hts⟩ (tX5_colourOf l (nI w) w rfl (by omega)) (cwN9 1 hts mcX5_colourOf (nm6 hNW) mini_RX5 rfl rfl hdX5_colourOf ⟨Nat.le_of_ble_eq_true rfl, Nat.le_of_ble_eq_true rfl⟩) (hts _ (List.mem_cons_of_mem _ msX5_colourOf)) rfl hl.1 rfl (Nat.le_of_ble_eq_true rfl) (by decide) (dk kX4_carryOutFlight_0_ok 1 rfl) ?_
  refine lv_istore (lv' := [(4, .int (nI (w / 4))), (0, .ref (ad k)), (1, .int (nI w)), (2, .int d), (3, .int (nI f))]) hx hb (dk kX4_carryOutFlight_0_ok 2 rfl) hl (by decide) rfl (fun ls hl => ?_)
  refine lv_aload_n hx hb (dk kX4_carryOutFlight_0_ok 3 rfl) rfl (lv_at hl 1 rfl) ?_
  refine gf hx hb hts (fun w h => List.mem_cons_of_mem _ (acX4 w h)) hown hK hP hk0 (sSet_at hS0).1 rfl 0 (by decide) (hts _ (List.mem_cons_of_mem _ (ac4 _ (List.mem_of_getElem? (i := 3) rfl)))) (fun _ h => h) rfl (dk kX4_carryOutFlight_0_ok 4 rfl) ?_
  refine gfN hx hb hts (fun w h => List.mem_cons_of_mem _ (acX1 w h)) hown hK hP hk1 (sSet_at hS0).2.1.1 rfl 0 (by decide) (nf0 hNW) (fun _ h => h) rfl (dk kX4_carryOutFlight_0_ok 5 rfl) ?_
  refine lv_iload_n hx hb (dk kX4_carryOutFlight_0_ok 6 rfl) rfl (lv_at hl 2 rfl) ?_
  refine ald (j := w) hx hb hK hP hk11 (sSet_at hS0).2.1.2.1 rfl (by omega) (by decide) (dk kX4_carryOutFlight_0_ok 7 rfl) ?_
  refine lv_iload_n hx hb (dk kX4_carryOutFlight_0_ok 8 rfl) rfl (lv_at hl 3 rfl) ?_
  refine lv_iload_n hx hb (dk kX4_carryOutFlight_0_ok 9 rfl) rfl (lv_at hl 2 rfl) ?_
  refine lv_iload_n hx hb (dk kX4_carryOutFlight_0_ok 10 rfl) rfl (lv_at hl 4 rfl) ?_
  refine csPN (As := [.int (nI w), .int (nI f)]) (rest := [.int d, .int (c w)]) ⟨hx, hb, hml, hown, hts⟩ (tX5_stepsOf l (nI w) w rfl (by omega) (nI f) f rfl (by omega)) (cwN9 2 hts mcX5_stepsOf (nm9 hNW) mini_RX5 rfl rfl hdX5_stepsOf ⟨Nat.le_of_ble_eq_true rfl, Nat.le_of_ble_eq_true rfl⟩) (hts _ (List.mem_cons_of_mem _ msX5_stepsOf)) rfl hl.1 rfl (Nat.le_of_ble_eq_true rfl) (by decide) (dk kX4_carryOutFlight_0_ok 11 rfl) ?_
  refine csPN (As := [.int (c w), .int d, .int (nI (stp w f))]) (rest := []) ⟨hx, hb, hml, hown, hts⟩ (tX5_landing l (c w) d (nI (stp w f)) (stp w f) rfl (by omega)) (cwN9 3 hts mcX5_landing (nm10 hNW) mini_RX5 rfl rfl hdX5_landing ⟨Nat.le_of_ble_eq_true rfl, Nat.le_of_ble_eq_true rfl⟩) (hts _ (List.mem_cons_of_mem _ msX5_landing)) rfl hl.1 rfl (Nat.le_of_ble_eq_true rfl) (by decide) (dk kX4_carryOutFlight_0_ok 12 rfl) ?_
  refine lv_istore (lv' := [(5, .int (ldg (c w) d (stp w f))), (4, .int (nI (w / 4))), (0, .ref (ad k)), (1, .int (nI w)), (2, .int d), (3, .int (nI f))]) hx hb (dk kX4_carryOutFlight_0_ok 13 rfl) hl (by decide) rfl (fun ls hl => ?_)
  refine lv_aload_n hx hb (dk kX4_carryOutFlight_0_ok 14 rfl) rfl (lv_at hl 2 rfl) ?_
  refine gf hx hb hts (fun w h => List.mem_cons_of_mem _ (acX4 w h)) hown hK hP hk0 (sSet_at hS0).1 rfl 0 (by decide) (hts _ (List.mem_cons_of_mem _ (ac4 _ (List.mem_of_getElem? (i := 3) rfl)))) (fun _ h => h) rfl (dk kX4_carryOutFlight_0_ok 15 rfl) ?_
  refine lv_iload_n hx hb (dk kX4_carryOutFlight_0_ok 16 rfl) rfl (lv_at hl 3 rfl) ?_
  refine lv_iload_n hx hb (dk kX4_carryOutFlight_0_ok 17 rfl) rfl (lv_at hl 3 rfl) ?_
  refine lv_iload hx hb (dk kX4_carryOutFlight_0_ok 18 rfl) (lv_at hl 0 rfl) ?_
  refine csPN (As := [.int (nI w), .int (ldg (c w) d (stp w f))]) (rest := [.int (nI w), .ref (ad (k + 1))]) ⟨hx, hb, hml, hown, hts⟩ (tX5_restingCell l (nI w) w rfl (by omega) (ldg (c w) d (stp w f))) (cwN9 2 hts mcX5_restingCell (nm11 hNW) mini_RX5 rfl rfl hdX5_restingCell ⟨Nat.le_of_ble_eq_true rfl, Nat.le_of_ble_eq_true rfl⟩) (hts _ (List.mem_cons_of_mem _ msX5_restingCell)) rfl hl.1 rfl (Nat.le_of_ble_eq_true rfl) (by decide) (dk kX4_carryOutFlight_0_ok 19 rfl) ?_
  refine cvDv (As := [.int (nI w), .int (rest9 w (ldg (c w) d (stp w f)))]) (rest := []) (sSet cI ad F k (mov1 c b v w (rest9 w (ldg (c w) d (stp w f)))) (mov2 c b v w (rest9 w (ldg (c w) d (stp w f)))) (mov3 c b v w (rest9 w (ldg (c w) d (stp w f)))) g h j (nI t) u z) ⟨hx, hb, hml, hown, hts⟩ (tX1_move l D cI cQ cL ad N (sSet cI ad F k c b v g h j (nI t) u z) (k + 1) hkm c b v (sSet_at hS0).2.1 (nI w) w rfl (by omega) (rest9 w (ldg (c w) d (stp w f)))) (cwV9 2 hts mcX1_move (ac7 _ (List.mem_of_getElem? (i := 9) rfl)) miX1_move meX1_move mini_RX1 rfl rfl hdX1_move ⟨Nat.le_of_ble_eq_true rfl, Nat.le_of_ble_eq_true rfl⟩) hDi hK hP hNW hS hk1 (sSet_at hS0).2.1.1 rfl rfl hl.1 rfl (Nat.le_of_ble_eq_true rfl) (by decide) (dk kX4_carryOutFlight_0_ok 20 rfl) sSet_m (fun H locs hP hS => ?_)
  refine lv_aload_n hx hb (dk kX4_carryOutFlight_0_ok 21 rfl) rfl (lv_at hl 2 rfl) ?_
  refine gf hx hb hts (fun w h => List.mem_cons_of_mem _ (acX4 w h)) hown hK hP hk0 (sSet_at hS0).1 rfl 1 (by decide) (hts _ (List.mem_cons_of_mem _ (ac4 _ (List.mem_of_getElem? (i := 4) rfl)))) (fun _ h => h) rfl (dk kX4_carryOutFlight_0_ok 22 rfl) ?_
  refine lv_iload_n hx hb (dk kX4_carryOutFlight_0_ok 23 rfl) rfl (lv_at hl 3 rfl) ?_
  refine lv_dup2_11 hx hb (dk kX4_carryOutFlight_0_ok 24 rfl) rfl rfl ?_
  refine ald (j := w) hx hb hK hP hk5 (sSet_at hS0).2.2.1 rfl (by omega) (by decide) (dk kX4_carryOutFlight_0_ok 25 rfl) ?_
  refine lv_iconst (v := nI 1) hx hb (dk kX4_carryOutFlight_0_ok 26 rfl) rfl ?_
  refine lv_iadd hx hb (dk kX4_carryOutFlight_0_ok 27 rfl) ?_
  refine ast (sSet cI ad F k (mov1 c b v w (rest9 w (ldg (c w) d (stp w f)))) (mov2 c b v w (rest9 w (ldg (c w) d (stp w f)))) (mov3 c b v w (rest9 w (ldg (c w) d (stp w f)))) (upd g w ((g w) + (nI 1))) h j (nI t) u z) (j := w) hx hb hK hDi hP hS hk5 (sSet_at hS0).2.2.1 rfl (by omega) (by decide) (dk kX4_carryOutFlight_0_ok 28 rfl) sSet_g (fun H locs hP hS => ?_)
  refine lv_iload hx hb (dk kX4_carryOutFlight_0_ok 29 rfl) (lv_at hl 0 rfl) ?_
  refine lv_iconst (v := -1) hx hb (dk kX4_carryOutFlight_0_ok 30 rfl) rfl ?_
  refine lv_icmp_ne (tgt := 78) hx hb (dk kX4_carryOutFlight_0_ok 31 rfl) (by decide) (fun h1 => ?_) (fun h1 => ?_)
  · skip
    refine lv_iload hx hb (dk kX4_carryOutFlight_0_ok 48 rfl) (lv_at hl 0 rfl) ?_
    refine lv_bipush (v := nI 84) hx hb (dk kX4_carryOutFlight_0_ok 49 rfl) rfl ?_
    refine lv_icmp_ne (tgt := 97) hx hb (dk kX4_carryOutFlight_0_ok 50 rfl) (by decide) (fun h2 => ?_) (fun h2 => ?_)
    · skip
      refine lv_aload_n hx hb (dk kX4_carryOutFlight_0_ok 56 rfl) rfl (lv_at hl 2 rfl) ?_
      refine cvDv (As := []) (rest := []) (sSet cI ad F k (mov1 c b v w (rest9 w (ldg (c w) d (stp w f)))) (mov2 c b v w (rest9 w (ldg (c w) d (stp w f)))) (mov3 c b v w (rest9 w (ldg (c w) d (stp w f)))) (upd g w ((g w) + (nI 1))) h ((pasg (mov1 c b v w (rest9 w (ldg (c w) d (stp w f)))) t 8 j t).1) (nI ((pasg (mov1 c b v w (rest9 w (ldg (c w) d (stp w f)))) t 8 j t).2)) u z) ⟨hx, hb, hml, hown, hts⟩ (tX4_passTurn l D cI cQ cL ad N (sSet cI ad F k (mov1 c b v w (rest9 w (ldg (c w) d (stp w f)))) (mov2 c b v w (rest9 w (ldg (c w) d (stp w f)))) (mov3 c b v w (rest9 w (ldg (c w) d (stp w f)))) (upd g w ((g w) + (nI 1))) h j (nI t) u z) k hk (mov1 c b v w (rest9 w (ldg (c w) d (stp w f)))) (mov2 c b v w (rest9 w (ldg (c w) d (stp w f)))) (mov3 c b v w (rest9 w (ldg (c w) d (stp w f)))) (upd g w ((g w) + (nI 1))) h j t u z (sSet_at hS0) ht) (cwV9 0 hts mcX4_passTurn (ac7 _ (List.mem_of_getElem? (i := 13) rfl)) miX4_passTurn meX4_passTurn mini_RX4 rfl rfl hdX4_passTurn ⟨Nat.le_of_ble_eq_true rfl, Nat.le_of_ble_eq_true rfl⟩) hDi hK hP hNW hS hk0 (sSet_at hS0).1 rfl rfl hl.1 rfl (Nat.le_of_ble_eq_true rfl) (by decide) (dk kX4_carryOutFlight_0_ok 57 rfl) sSet_sSet (fun H locs hP hS => ?_)
      refine lv_iload hx hb (dk kX4_carryOutFlight_0_ok 58 rfl) (lv_at hl 0 rfl) ?_
      refine csPN (As := [.int (ldg (c w) d (stp w f))]) (rest := []) ⟨hx, hb, hml, hown, hts⟩ (tX5_flightAnswer l (ldg (c w) d (stp w f))) (cwN9 1 hts mcX5_flightAnswer (nm12 hNW) mini_RX5 rfl rfl hdX5_flightAnswer ⟨Nat.le_of_ble_eq_true rfl, Nat.le_of_ble_eq_true rfl⟩) (hts _ (List.mem_cons_of_mem _ msX5_flightAnswer)) rfl hl.1 rfl (Nat.le_of_ble_eq_true rfl) (by decide) (dk kX4_carryOutFlight_0_ok 59 rfl) ?_
      exact hret _ _ _ _ _ _ _ _ rfl (by simp only [dp, flE, flH, flP, (eq_false h1), (eq_false h2), not_true_eq_false, not_false_eq_true, and_true, true_and, and_false, false_and, or_true, true_or, or_false, false_or, and_self, or_self, if_true, if_false, Bool.false_eq_true, reduceIte]) hP hS (by decide) (by decide) (dk kX4_carryOutFlight_1_ok 0 rfl)
    · skip
      refine lv_aload_n hx hb (dk kX4_carryOutFlight_0_ok 51 rfl) rfl (lv_at hl 2 rfl) ?_
      refine gf hx hb hts (fun w h => List.mem_cons_of_mem _ (acX4 w h)) hown hK hP hk0 (sSet_at hS0).1 rfl 0 (by decide) (hts _ (List.mem_cons_of_mem _ (ac4 _ (List.mem_of_getElem? (i := 3) rfl)))) (fun _ h => h) rfl (dk kX4_carryOutFlight_0_ok 52 rfl) ?_
      refine lv_iload hx hb (dk kX4_carryOutFlight_0_ok 53 rfl) (lv_at hl 1 rfl) ?_
      refine cvR (As := [.int (nI (w / 4))]) (rest := []) ⟨hx, hb, hml, hown, hts⟩ (tX1_isAllPotted l D cI cQ cL ad N (sSet cI ad F k (mov1 c b v w (rest9 w (ldg (c w) d (stp w f)))) (mov2 c b v w (rest9 w (ldg (c w) d (stp w f)))) (mov3 c b v w (rest9 w (ldg (c w) d (stp w f)))) (upd g w ((g w) + (nI 1))) h j (nI t) u z) (k + 1) hkm (mov1 c b v w (rest9 w (ldg (c w) d (stp w f)))) (mov2 c b v w (rest9 w (ldg (c w) d (stp w f)))) (mov3 c b v w (rest9 w (ldg (c w) d (stp w f)))) (sSet_at hS0).2.1 (nI (w / 4)) (w / 4) rfl (by omega)) (cwV9 1 hts mcX1_isAllPotted (ac7 _ (List.mem_of_getElem? (i := 4) rfl)) miX1_isAllPotted meX1_isAllPotted mini_RX1 rfl rfl hdX1_isAllPotted ⟨Nat.le_of_ble_eq_true rfl, Nat.le_of_ble_eq_true rfl⟩) hK hP hNW hk1 (sSet_at hS0).2.1.1 rfl rfl hl.1 rfl (Nat.le_of_ble_eq_true rfl) (by decide) (dk kX4_carryOutFlight_0_ok 54 rfl) ?_
      refine b_if_eq (tgt := 101) hx hb (dk kX4_carryOutFlight_0_ok 55 rfl) (by decide) (fun h3 => ?_) (fun h3 => ?_)
      · replace h3 := of_decide_eq_false h3
        refine lv_iload hx hb (dk kX4_carryOutFlight_0_ok 58 rfl) (lv_at hl 0 rfl) ?_
        refine csPN (As := [.int (ldg (c w) d (stp w f))]) (rest := []) ⟨hx, hb, hml, hown, hts⟩ (tX5_flightAnswer l (ldg (c w) d (stp w f))) (cwN9 1 hts mcX5_flightAnswer (nm12 hNW) mini_RX5 rfl rfl hdX5_flightAnswer ⟨Nat.le_of_ble_eq_true rfl, Nat.le_of_ble_eq_true rfl⟩) (hts _ (List.mem_cons_of_mem _ msX5_flightAnswer)) rfl hl.1 rfl (Nat.le_of_ble_eq_true rfl) (by decide) (dk kX4_carryOutFlight_0_ok 59 rfl) ?_
        exact hret _ _ _ _ _ _ _ _ rfl (by simp only [dp, flE, flH, flP, (eq_false h1), (eq_true h2), (eq_false h3), not_true_eq_false, not_false_eq_true, and_true, true_and, and_false, false_and, or_true, true_or, or_false, false_or, and_self, or_self, if_true, if_false, Bool.false_eq_true, reduceIte]) hP hS (by decide) (by decide) (dk kX4_carryOutFlight_1_ok 0 rfl)
      · replace h3 := of_decide_eq_true h3
        refine lv_aload_n hx hb (dk kX4_carryOutFlight_0_ok 56 rfl) rfl (lv_at hl 2 rfl) ?_
        refine cvDv (As := []) (rest := []) (sSet cI ad F k (mov1 c b v w (rest9 w (ldg (c w) d (stp w f)))) (mov2 c b v w (rest9 w (ldg (c w) d (stp w f)))) (mov3 c b v w (rest9 w (ldg (c w) d (stp w f)))) (upd g w ((g w) + (nI 1))) h ((pasg (mov1 c b v w (rest9 w (ldg (c w) d (stp w f)))) t 8 j t).1) (nI ((pasg (mov1 c b v w (rest9 w (ldg (c w) d (stp w f)))) t 8 j t).2)) u z) ⟨hx, hb, hml, hown, hts⟩ (tX4_passTurn l D cI cQ cL ad N (sSet cI ad F k (mov1 c b v w (rest9 w (ldg (c w) d (stp w f)))) (mov2 c b v w (rest9 w (ldg (c w) d (stp w f)))) (mov3 c b v w (rest9 w (ldg (c w) d (stp w f)))) (upd g w ((g w) + (nI 1))) h j (nI t) u z) k hk (mov1 c b v w (rest9 w (ldg (c w) d (stp w f)))) (mov2 c b v w (rest9 w (ldg (c w) d (stp w f)))) (mov3 c b v w (rest9 w (ldg (c w) d (stp w f)))) (upd g w ((g w) + (nI 1))) h j t u z (sSet_at hS0) ht) (cwV9 0 hts mcX4_passTurn (ac7 _ (List.mem_of_getElem? (i := 13) rfl)) miX4_passTurn meX4_passTurn mini_RX4 rfl rfl hdX4_passTurn ⟨Nat.le_of_ble_eq_true rfl, Nat.le_of_ble_eq_true rfl⟩) hDi hK hP hNW hS hk0 (sSet_at hS0).1 rfl rfl hl.1 rfl (Nat.le_of_ble_eq_true rfl) (by decide) (dk kX4_carryOutFlight_0_ok 57 rfl) sSet_sSet (fun H locs hP hS => ?_)
        refine lv_iload hx hb (dk kX4_carryOutFlight_0_ok 58 rfl) (lv_at hl 0 rfl) ?_
        refine csPN (As := [.int (ldg (c w) d (stp w f))]) (rest := []) ⟨hx, hb, hml, hown, hts⟩ (tX5_flightAnswer l (ldg (c w) d (stp w f))) (cwN9 1 hts mcX5_flightAnswer (nm12 hNW) mini_RX5 rfl rfl hdX5_flightAnswer ⟨Nat.le_of_ble_eq_true rfl, Nat.le_of_ble_eq_true rfl⟩) (hts _ (List.mem_cons_of_mem _ msX5_flightAnswer)) rfl hl.1 rfl (Nat.le_of_ble_eq_true rfl) (by decide) (dk kX4_carryOutFlight_0_ok 59 rfl) ?_
        exact hret _ _ _ _ _ _ _ _ rfl (by simp only [dp, flE, flH, flP, (eq_false h1), (eq_true h2), (eq_true h3), not_true_eq_false, not_false_eq_true, and_true, true_and, and_false, false_and, or_true, true_or, or_false, false_or, and_self, or_self, if_true, if_false, Bool.false_eq_true, reduceIte]) hP hS (by decide) (by decide) (dk kX4_carryOutFlight_1_ok 0 rfl)
  · skip
    refine lv_aload_n hx hb (dk kX4_carryOutFlight_0_ok 32 rfl) rfl (lv_at hl 2 rfl) ?_
    refine gf hx hb hts (fun w h => List.mem_cons_of_mem _ (acX4 w h)) hown hK hP hk0 (sSet_at hS0).1 rfl 2 (by decide) (hts _ (List.mem_cons_of_mem _ (ac4 _ (List.mem_of_getElem? (i := 5) rfl)))) (fun _ h => h) rfl (dk kX4_carryOutFlight_0_ok 33 rfl) ?_
    refine lv_iload hx hb (dk kX4_carryOutFlight_0_ok 34 rfl) (lv_at hl 1 rfl) ?_
    refine lv_dup2_11 hx hb (dk kX4_carryOutFlight_0_ok 35 rfl) rfl rfl ?_
    refine ald (j := (w / 4)) hx hb hK hP hk6 (sSet_at hS0).2.2.2.1 rfl (by omega) (by decide) (dk kX4_carryOutFlight_0_ok 36 rfl) ?_
    refine lv_iconst (v := nI 1) hx hb (dk kX4_carryOutFlight_0_ok 37 rfl) rfl ?_
    refine lv_iadd hx hb (dk kX4_carryOutFlight_0_ok 38 rfl) ?_
    refine ast (sSet cI ad F k (mov1 c b v w (rest9 w (ldg (c w) d (stp w f)))) (mov2 c b v w (rest9 w (ldg (c w) d (stp w f)))) (mov3 c b v w (rest9 w (ldg (c w) d (stp w f)))) (upd g w ((g w) + (nI 1))) (upd h (w / 4) ((h (w / 4)) + (nI 1))) j (nI t) u z) (j := (w / 4)) hx hb hK hDi hP hS hk6 (sSet_at hS0).2.2.2.1 rfl (by omega) (by decide) (dk kX4_carryOutFlight_0_ok 39 rfl) sSet_h (fun H locs hP hS => ?_)
    refine lv_aload_n hx hb (dk kX4_carryOutFlight_0_ok 40 rfl) rfl (lv_at hl 2 rfl) ?_
    refine gf hx hb hts (fun w h => List.mem_cons_of_mem _ (acX4 w h)) hown hK hP hk0 (sSet_at hS0).1 rfl 3 (by decide) (hts _ (List.mem_cons_of_mem _ (ac4 _ (List.mem_of_getElem? (i := 6) rfl)))) (fun _ h => h) rfl (dk kX4_carryOutFlight_0_ok 41 rfl) ?_
    refine lv_iload hx hb (dk kX4_carryOutFlight_0_ok 42 rfl) (lv_at hl 1 rfl) ?_
    refine lv_dup2_11 hx hb (dk kX4_carryOutFlight_0_ok 43 rfl) rfl rfl ?_
    refine ald (j := (w / 4)) hx hb hK hP hk7 (sSet_at hS0).2.2.2.2 rfl (by omega) (by decide) (dk kX4_carryOutFlight_0_ok 44 rfl) ?_
    refine lv_iconst (v := nI 1) hx hb (dk kX4_carryOutFlight_0_ok 45 rfl) rfl ?_
    refine lv_iadd hx hb (dk kX4_carryOutFlight_0_ok 46 rfl) ?_
    refine ast (sSet cI ad F k (mov1 c b v w (rest9 w (ldg (c w) d (stp w f)))) (mov2 c b v w (rest9 w (ldg (c w) d (stp w f)))) (mov3 c b v w (rest9 w (ldg (c w) d (stp w f)))) (upd g w ((g w) + (nI 1))) (upd h (w / 4) ((h (w / 4)) + (nI 1))) (upd j (w / 4) ((j (w / 4)) + (nI 1))) (nI t) u z) (j := (w / 4)) hx hb hK hDi hP hS hk7 (sSet_at hS0).2.2.2.2 rfl (by omega) (by decide) (dk kX4_carryOutFlight_0_ok 47 rfl) sSet_j (fun H locs hP hS => ?_)
    refine lv_iload hx hb (dk kX4_carryOutFlight_0_ok 48 rfl) (lv_at hl 0 rfl) ?_
    refine lv_bipush (v := nI 84) hx hb (dk kX4_carryOutFlight_0_ok 49 rfl) rfl ?_
    refine lv_icmp_ne (tgt := 97) hx hb (dk kX4_carryOutFlight_0_ok 50 rfl) (by decide) (fun h4 => ?_) (fun h4 => ?_)
    · skip
      refine lv_aload_n hx hb (dk kX4_carryOutFlight_0_ok 56 rfl) rfl (lv_at hl 2 rfl) ?_
      refine cvDv (As := []) (rest := []) (sSet cI ad F k (mov1 c b v w (rest9 w (ldg (c w) d (stp w f)))) (mov2 c b v w (rest9 w (ldg (c w) d (stp w f)))) (mov3 c b v w (rest9 w (ldg (c w) d (stp w f)))) (upd g w ((g w) + (nI 1))) (upd h (w / 4) ((h (w / 4)) + (nI 1))) ((pasg (mov1 c b v w (rest9 w (ldg (c w) d (stp w f)))) t 8 (upd j (w / 4) ((j (w / 4)) + (nI 1))) t).1) (nI ((pasg (mov1 c b v w (rest9 w (ldg (c w) d (stp w f)))) t 8 (upd j (w / 4) ((j (w / 4)) + (nI 1))) t).2)) u z) ⟨hx, hb, hml, hown, hts⟩ (tX4_passTurn l D cI cQ cL ad N (sSet cI ad F k (mov1 c b v w (rest9 w (ldg (c w) d (stp w f)))) (mov2 c b v w (rest9 w (ldg (c w) d (stp w f)))) (mov3 c b v w (rest9 w (ldg (c w) d (stp w f)))) (upd g w ((g w) + (nI 1))) (upd h (w / 4) ((h (w / 4)) + (nI 1))) (upd j (w / 4) ((j (w / 4)) + (nI 1))) (nI t) u z) k hk (mov1 c b v w (rest9 w (ldg (c w) d (stp w f)))) (mov2 c b v w (rest9 w (ldg (c w) d (stp w f)))) (mov3 c b v w (rest9 w (ldg (c w) d (stp w f)))) (upd g w ((g w) + (nI 1))) (upd h (w / 4) ((h (w / 4)) + (nI 1))) (upd j (w / 4) ((j (w / 4)) + (nI 1))) t u z (sSet_at hS0) ht) (cwV9 0 hts mcX4_passTurn (ac7 _ (List.mem_of_getElem? (i := 13) rfl)) miX4_passTurn meX4_passTurn mini_RX4 rfl rfl hdX4_passTurn ⟨Nat.le_of_ble_eq_true rfl, Nat.le_of_ble_eq_true rfl⟩) hDi hK hP hNW hS hk0 (sSet_at hS0).1 rfl rfl hl.1 rfl (Nat.le_of_ble_eq_true rfl) (by decide) (dk kX4_carryOutFlight_0_ok 57 rfl) sSet_sSet (fun H locs hP hS => ?_)
      refine lv_iload hx hb (dk kX4_carryOutFlight_0_ok 58 rfl) (lv_at hl 0 rfl) ?_
      refine csPN (As := [.int (ldg (c w) d (stp w f))]) (rest := []) ⟨hx, hb, hml, hown, hts⟩ (tX5_flightAnswer l (ldg (c w) d (stp w f))) (cwN9 1 hts mcX5_flightAnswer (nm12 hNW) mini_RX5 rfl rfl hdX5_flightAnswer ⟨Nat.le_of_ble_eq_true rfl, Nat.le_of_ble_eq_true rfl⟩) (hts _ (List.mem_cons_of_mem _ msX5_flightAnswer)) rfl hl.1 rfl (Nat.le_of_ble_eq_true rfl) (by decide) (dk kX4_carryOutFlight_0_ok 59 rfl) ?_
      exact hret _ _ _ _ _ _ _ _ rfl (by simp only [dp, flE, flH, flP, (eq_true h1), (eq_false h4), not_true_eq_false, not_false_eq_true, and_true, true_and, and_false, false_and, or_true, true_or, or_false, false_or, and_self, or_self, if_true, if_false, Bool.false_eq_true, reduceIte]) hP hS (by decide) (by decide) (dk kX4_carryOutFlight_1_ok 0 rfl)
    · skip
      refine lv_aload_n hx hb (dk kX4_carryOutFlight_0_ok 51 rfl) rfl (lv_at hl 2 rfl) ?_
      refine gf hx hb hts (fun w h => List.mem_cons_of_mem _ (acX4 w h)) hown hK hP hk0 (sSet_at hS0).1 rfl 0 (by decide) (hts _ (List.mem_cons_of_mem _ (ac4 _ (List.mem_of_getElem? (i := 3) rfl)))) (fun _ h => h) rfl (dk kX4_carryOutFlight_0_ok 52 rfl) ?_
      refine lv_iload hx hb (dk kX4_carryOutFlight_0_ok 53 rfl) (lv_at hl 1 rfl) ?_
      refine cvR (As := [.int (nI (w / 4))]) (rest := []) ⟨hx, hb, hml, hown, hts⟩ (tX1_isAllPotted l D cI cQ cL ad N (sSet cI ad F k (mov1 c b v w (rest9 w (ldg (c w) d (stp w f)))) (mov2 c b v w (rest9 w (ldg (c w) d (stp w f)))) (mov3 c b v w (rest9 w (ldg (c w) d (stp w f)))) (upd g w ((g w) + (nI 1))) (upd h (w / 4) ((h (w / 4)) + (nI 1))) (upd j (w / 4) ((j (w / 4)) + (nI 1))) (nI t) u z) (k + 1) hkm (mov1 c b v w (rest9 w (ldg (c w) d (stp w f)))) (mov2 c b v w (rest9 w (ldg (c w) d (stp w f)))) (mov3 c b v w (rest9 w (ldg (c w) d (stp w f)))) (sSet_at hS0).2.1 (nI (w / 4)) (w / 4) rfl (by omega)) (cwV9 1 hts mcX1_isAllPotted (ac7 _ (List.mem_of_getElem? (i := 4) rfl)) miX1_isAllPotted meX1_isAllPotted mini_RX1 rfl rfl hdX1_isAllPotted ⟨Nat.le_of_ble_eq_true rfl, Nat.le_of_ble_eq_true rfl⟩) hK hP hNW hk1 (sSet_at hS0).2.1.1 rfl rfl hl.1 rfl (Nat.le_of_ble_eq_true rfl) (by decide) (dk kX4_carryOutFlight_0_ok 54 rfl) ?_
      refine b_if_eq (tgt := 101) hx hb (dk kX4_carryOutFlight_0_ok 55 rfl) (by decide) (fun h5 => ?_) (fun h5 => ?_)
      · replace h5 := of_decide_eq_false h5
        refine lv_iload hx hb (dk kX4_carryOutFlight_0_ok 58 rfl) (lv_at hl 0 rfl) ?_
        refine csPN (As := [.int (ldg (c w) d (stp w f))]) (rest := []) ⟨hx, hb, hml, hown, hts⟩ (tX5_flightAnswer l (ldg (c w) d (stp w f))) (cwN9 1 hts mcX5_flightAnswer (nm12 hNW) mini_RX5 rfl rfl hdX5_flightAnswer ⟨Nat.le_of_ble_eq_true rfl, Nat.le_of_ble_eq_true rfl⟩) (hts _ (List.mem_cons_of_mem _ msX5_flightAnswer)) rfl hl.1 rfl (Nat.le_of_ble_eq_true rfl) (by decide) (dk kX4_carryOutFlight_0_ok 59 rfl) ?_
        exact hret _ _ _ _ _ _ _ _ rfl (by simp only [dp, flE, flH, flP, (eq_true h1), (eq_true h4), (eq_false h5), not_true_eq_false, not_false_eq_true, and_true, true_and, and_false, false_and, or_true, true_or, or_false, false_or, and_self, or_self, if_true, if_false, Bool.false_eq_true, reduceIte]) hP hS (by decide) (by decide) (dk kX4_carryOutFlight_1_ok 0 rfl)
      · replace h5 := of_decide_eq_true h5
        refine lv_aload_n hx hb (dk kX4_carryOutFlight_0_ok 56 rfl) rfl (lv_at hl 2 rfl) ?_
        refine cvDv (As := []) (rest := []) (sSet cI ad F k (mov1 c b v w (rest9 w (ldg (c w) d (stp w f)))) (mov2 c b v w (rest9 w (ldg (c w) d (stp w f)))) (mov3 c b v w (rest9 w (ldg (c w) d (stp w f)))) (upd g w ((g w) + (nI 1))) (upd h (w / 4) ((h (w / 4)) + (nI 1))) ((pasg (mov1 c b v w (rest9 w (ldg (c w) d (stp w f)))) t 8 (upd j (w / 4) ((j (w / 4)) + (nI 1))) t).1) (nI ((pasg (mov1 c b v w (rest9 w (ldg (c w) d (stp w f)))) t 8 (upd j (w / 4) ((j (w / 4)) + (nI 1))) t).2)) u z) ⟨hx, hb, hml, hown, hts⟩ (tX4_passTurn l D cI cQ cL ad N (sSet cI ad F k (mov1 c b v w (rest9 w (ldg (c w) d (stp w f)))) (mov2 c b v w (rest9 w (ldg (c w) d (stp w f)))) (mov3 c b v w (rest9 w (ldg (c w) d (stp w f)))) (upd g w ((g w) + (nI 1))) (upd h (w / 4) ((h (w / 4)) + (nI 1))) (upd j (w / 4) ((j (w / 4)) + (nI 1))) (nI t) u z) k hk (mov1 c b v w (rest9 w (ldg (c w) d (stp w f)))) (mov2 c b v w (rest9 w (ldg (c w) d (stp w f)))) (mov3 c b v w (rest9 w (ldg (c w) d (stp w f)))) (upd g w ((g w) + (nI 1))) (upd h (w / 4) ((h (w / 4)) + (nI 1))) (upd j (w / 4) ((j (w / 4)) + (nI 1))) t u z (sSet_at hS0) ht) (cwV9 0 hts mcX4_passTurn (ac7 _ (List.mem_of_getElem? (i := 13) rfl)) miX4_passTurn meX4_passTurn mini_RX4 rfl rfl hdX4_passTurn ⟨Nat.le_of_ble_eq_true rfl, Nat.le_of_ble_eq_true rfl⟩) hDi hK hP hNW hS hk0 (sSet_at hS0).1 rfl rfl hl.1 rfl (Nat.le_of_ble_eq_true rfl) (by decide) (dk kX4_carryOutFlight_0_ok 57 rfl) sSet_sSet (fun H locs hP hS => ?_)
        refine lv_iload hx hb (dk kX4_carryOutFlight_0_ok 58 rfl) (lv_at hl 0 rfl) ?_
        refine csPN (As := [.int (ldg (c w) d (stp w f))]) (rest := []) ⟨hx, hb, hml, hown, hts⟩ (tX5_flightAnswer l (ldg (c w) d (stp w f))) (cwN9 1 hts mcX5_flightAnswer (nm12 hNW) mini_RX5 rfl rfl hdX5_flightAnswer ⟨Nat.le_of_ble_eq_true rfl, Nat.le_of_ble_eq_true rfl⟩) (hts _ (List.mem_cons_of_mem _ msX5_flightAnswer)) rfl hl.1 rfl (Nat.le_of_ble_eq_true rfl) (by decide) (dk kX4_carryOutFlight_0_ok 59 rfl) ?_
        exact hret _ _ _ _ _ _ _ _ rfl (by simp only [dp, flE, flH, flP, (eq_true h1), (eq_true h4), (eq_true h5), not_true_eq_false, not_false_eq_true, and_true, true_and, and_false, false_and, or_true, true_or, or_false, false_or, and_self, or_self, if_true, if_false, Bool.false_eq_true, reduceIte]) hP hS (by decide) (by decide) (dk kX4_carryOutFlight_1_ok 0 rfl)
set_option maxRecDepth 100000 in
set_option maxHeartbeats 4000000 in
theorem tX4_carryOutLift (l : Launch) (D : va_G) (cI cQ cL : ClassId) (ad : Nat → Nat) (N : Nat) (F : Nat → va_E) (k : Nat) (hk : k + 7 < N) (c b v g h j : Nat → Int32) (t : Nat) (u z : Int32) (hS0 : stAt cI ad F k c b v g h j (nI t) u z) (ht : t < 4) (x y m9 : Int32) (n : Nat) (hmn : m9 = nI n) (hn1 : 1 ≤ n) (hn : n < 2 ^ 31) (d : Int32) : MX l yX4_carryOutLift (Cond.code yX4_carryOutLift cX4_carryOutLift 6 none :: AW) ({ frames := 3, cells := 0, slots := 0, locals := 68 } : Room) D cI cQ cL ad N F [.ref (ad k), .int x, .int y, .int m9, .int d] (dp none (sSet cI ad F k (liC c b v x y n d) (liB c b v x y n d) (liV c b v x y n d) g h ((pasg (liC c b v x y n d) t 8 j t).1) (nI ((pasg (liC c b v x y n d) t 8 j t).2)) (u + nI 1) z)) 0 0 := by
  refine mx_v (by decide +kernel) rfl (Nat.le_of_ble_eq_true rfl) (fun p e s m below meth cd Q ls hx hb hml hown hts hDi hP hK hNW hS hret hl => ?_)
  have hown : s.vm.findClass RX4 = some m.cls := hown
  subst hmn
  have hk0 : k < N := by omega
  have hk1 : k + 1 < N := by omega
  have hk11 : k + 1 + 1 < N := by omega
  have hk12 : k + 1 + 2 < N := by omega
  have hk13 : k + 1 + 3 < N := by omega
  have hkm : k + 1 + 3 < N := by omega
  have hk5 : k + 5 < N := by omega
  have hk6 : k + 6 < N := by omega
  have hk7 : k + 7 < N := hk
  have hP : va_P D vwCl (iW ad N (sSet cI ad F k c b v g h j (nI t) u z)) s.heap := by rw [sSet_self hS0]; exact hP
  have hl : lv_has ls 6 [(0, .ref (ad k)), (1, .int x), (2, .int y), (3, .int (nI n)), (4, .int d)] := hl
  refine lv_aload_n hx hb (dk kX4_carryOutLift_ok 0 rfl) rfl (lv_at hl 0 rfl) ?_
  refine gf hx hb hts (fun w h => List.mem_cons_of_mem _ (acX4 w h)) hown hK hP hk0 (sSet_at hS0).1 rfl 0 (by decide) (hts _ (List.mem_cons_of_mem _ (ac4 _ (List.mem_of_getElem? (i := 3) rfl)))) (fun _ h => h) rfl (dk kX4_carryOutLift_ok 1 rfl) ?_
  refine lv_iload_n hx hb (dk kX4_carryOutLift_ok 2 rfl) rfl (lv_at hl 1 rfl) ?_
  refine lv_iload_n hx hb (dk kX4_carryOutLift_ok 3 rfl) rfl (lv_at hl 2 rfl) ?_
  refine csPN (As := [.int x, .int y]) (rest := [.ref (ad (k + 1))]) ⟨hx, hb, hml, hown, hts⟩ (tX5_cellAt l x y) (cwN9 2 hts mcX5_cellAt (nm13 hNW) mini_RX5 rfl rfl hdX5_cellAt ⟨Nat.le_of_ble_eq_true rfl, Nat.le_of_ble_eq_true rfl⟩) (hts _ (List.mem_cons_of_mem _ msX5_cellAt)) rfl hl.1 rfl (Nat.le_of_ble_eq_true rfl) (by decide) (dk kX4_carryOutLift_ok 4 rfl) ?_
  refine lv_iload_n hx hb (dk kX4_carryOutLift_ok 5 rfl) rfl (lv_at hl 3 rfl) ?_
  refine cvR (As := [.int (cat x y), .int (nI n)]) (rest := []) ⟨hx, hb, hml, hown, hts⟩ (tX1_lowestOfUpper l D cI cQ cL ad N (sSet cI ad F k c b v g h j (nI t) u z) (k + 1) hkm c b v (sSet_at hS0).2.1 (cat x y) (nI n) n rfl (by omega) (by omega)) (cwV9 2 hts mcX1_lowestOfUpper (ac6 _ (List.mem_of_getElem? (i := 16) rfl)) miX1_lowestOfUpper meX1_lowestOfUpper mini_RX1 rfl rfl hdX1_lowestOfUpper ⟨Nat.le_of_ble_eq_true rfl, Nat.le_of_ble_eq_true rfl⟩) hK hP hNW hk1 (sSet_at hS0).2.1.1 rfl rfl hl.1 rfl (Nat.le_of_ble_eq_true rfl) (by decide) (dk kX4_carryOutLift_ok 6 rfl) ?_
  refine lv_istore (lv' := [(5, .int (low c b v (cat x y) n)), (0, .ref (ad k)), (1, .int x), (2, .int y), (3, .int (nI n)), (4, .int d)]) hx hb (dk kX4_carryOutLift_ok 7 rfl) hl (by decide) rfl (fun ls hl => ?_)
  refine lv_iload hx hb (dk kX4_carryOutLift_ok 8 rfl) (lv_at hl 0 rfl) ?_
  refine csPN (As := [.int (low c b v (cat x y) n)]) (rest := []) ⟨hx, hb, hml, hown, hts⟩ (tX5_isWink l (low c b v (cat x y) n)) (cwN9 1 hts mcX5_isWink (nm15 hNW) mini_RX5 rfl rfl hdX5_isWink ⟨Nat.le_of_ble_eq_true rfl, Nat.le_of_ble_eq_true rfl⟩) (hts _ (List.mem_cons_of_mem _ msX5_isWink)) rfl hl.1 rfl (Nat.le_of_ble_eq_true rfl) (by decide) (dk kX4_carryOutLift_ok 9 rfl) ?_
  refine b_if_eq (tgt := 39) hx hb (dk kX4_carryOutLift_ok 10 rfl) (by decide) (fun h1 => ?_) (fun h1 => ?_)
  · skip
    refine lv_aload_n hx hb (dk kX4_carryOutLift_ok 19 rfl) rfl (lv_at hl 1 rfl) ?_
    refine lv_dup hx hb (dk kX4_carryOutLift_ok 20 rfl) rfl ?_
    refine gf hx hb hts (fun w h => List.mem_cons_of_mem _ (acX4 w h)) hown hK hP hk0 (sSet_at hS0).1 rfl 5 (by decide) (hts _ (List.mem_cons_of_mem _ (ac4 _ (List.mem_of_getElem? (i := 8) rfl)))) (fun _ h => h) rfl (dk kX4_carryOutLift_ok 21 rfl) ?_
    refine lv_iconst (v := nI 1) hx hb (dk kX4_carryOutLift_ok 22 rfl) rfl ?_
    refine lv_iadd hx hb (dk kX4_carryOutLift_ok 23 rfl) ?_
    refine pf (sSet cI ad F k c b v g h j (nI t) (u + (nI 1)) z) hx hb hts (fun w h => List.mem_cons_of_mem _ (acX4 w h)) tyX4 tyX4_ok nmX4 hown hK hDi hP hS hk0 (sSet_at hS0).1 rfl 5 (by decide) (hts _ (List.mem_cons_of_mem _ (ac4 _ (List.mem_of_getElem? (i := 8) rfl)))) (fun _ h => h) rfl (ty := .int) rfl rfl rfl (Nat.le_of_ble_eq_true rfl) (dk kX4_carryOutLift_ok 24 rfl) sSet_0 (fun H locs hP hS => ?_)
    refine lv_aload_n hx hb (dk kX4_carryOutLift_ok 25 rfl) rfl (lv_at hl 1 rfl) ?_
    refine cvDv (As := []) (rest := []) (sSet cI ad F k c b v g h ((pasg c t 8 j t).1) (nI ((pasg c t 8 j t).2)) (u + (nI 1)) z) ⟨hx, hb, hml, hown, hts⟩ (tX4_passTurn l D cI cQ cL ad N (sSet cI ad F k c b v g h j (nI t) (u + (nI 1)) z) k hk c b v g h j t (u + (nI 1)) z (sSet_at hS0) ht) (cwV9 0 hts mcX4_passTurn (ac7 _ (List.mem_of_getElem? (i := 13) rfl)) miX4_passTurn meX4_passTurn mini_RX4 rfl rfl hdX4_passTurn ⟨Nat.le_of_ble_eq_true rfl, Nat.le_of_ble_eq_true rfl⟩) hDi hK hP hNW hS hk0 (sSet_at hS0).1 rfl rfl hl.1 rfl (Nat.le_of_ble_eq_true rfl) (by decide) (dk kX4_carryOutLift_ok 26 rfl) sSet_sSet (fun H locs hP hS => ?_)
    exact hret _ _ _ _ _ _ _ (by simp only [dp, liC, liB, liV, h1, not_true_eq_false, not_false_eq_true, and_true, true_and, and_false, false_and, or_true, true_or, or_false, false_or, and_self, or_self, if_true, if_false, Bool.false_eq_true, reduceIte]) hP hS (by decide) (by decide) (dk kX4_carryOutLift_ok 27 rfl)
  · skip
    refine lv_aload_n hx hb (dk kX4_carryOutLift_ok 11 rfl) rfl (lv_at hl 1 rfl) ?_
    refine gf hx hb hts (fun w h => List.mem_cons_of_mem _ (acX4 w h)) hown hK hP hk0 (sSet_at hS0).1 rfl 0 (by decide) (hts _ (List.mem_cons_of_mem _ (ac4 _ (List.mem_of_getElem? (i := 3) rfl)))) (fun _ h => h) rfl (dk kX4_carryOutLift_ok 12 rfl) ?_
    refine lv_iload hx hb (dk kX4_carryOutLift_ok 13 rfl) (lv_at hl 0 rfl) ?_
    refine lv_iload_n hx hb (dk kX4_carryOutLift_ok 14 rfl) rfl (lv_at hl 2 rfl) ?_
    refine lv_iload_n hx hb (dk kX4_carryOutLift_ok 15 rfl) rfl (lv_at hl 3 rfl) ?_
    refine lv_iload hx hb (dk kX4_carryOutLift_ok 16 rfl) (lv_at hl 5 rfl) ?_
    refine csPN (As := [.int x, .int y, .int d]) (rest := [.int (low c b v (cat x y) n), .ref (ad (k + 1))]) ⟨hx, hb, hml, hown, hts⟩ (tX5_cellBeside l x y d) (cwN9 3 hts mcX5_cellBeside (nm14 hNW) mini_RX5 rfl rfl hdX5_cellBeside ⟨Nat.le_of_ble_eq_true rfl, Nat.le_of_ble_eq_true rfl⟩) (hts _ (List.mem_cons_of_mem _ msX5_cellBeside)) rfl hl.1 rfl (Nat.le_of_ble_eq_true rfl) (by decide) (dk kX4_carryOutLift_ok 17 rfl) ?_
    refine cvDv (As := [.int (low c b v (cat x y) n), .int (beside x y d)]) (rest := []) (sSet cI ad F k (mov1 c b v (ix (low c b v (cat x y) n)) (beside x y d)) (mov2 c b v (ix (low c b v (cat x y) n)) (beside x y d)) (mov3 c b v (ix (low c b v (cat x y) n)) (beside x y d)) g h j (nI t) u z) ⟨hx, hb, hml, hown, hts⟩ (tX1_move l D cI cQ cL ad N (sSet cI ad F k c b v g h j (nI t) u z) (k + 1) hkm c b v (sSet_at hS0).2.1 (low c b v (cat x y) n) (ix (low c b v (cat x y) n)) (wk_eq h1) (by have := wk_lt h1; omega) (beside x y d)) (cwV9 2 hts mcX1_move (ac7 _ (List.mem_of_getElem? (i := 9) rfl)) miX1_move meX1_move mini_RX1 rfl rfl hdX1_move ⟨Nat.le_of_ble_eq_true rfl, Nat.le_of_ble_eq_true rfl⟩) hDi hK hP hNW hS hk1 (sSet_at hS0).2.1.1 rfl rfl hl.1 rfl (Nat.le_of_ble_eq_true rfl) (by decide) (dk kX4_carryOutLift_ok 18 rfl) sSet_m (fun H locs hP hS => ?_)
    refine lv_aload_n hx hb (dk kX4_carryOutLift_ok 19 rfl) rfl (lv_at hl 1 rfl) ?_
    refine lv_dup hx hb (dk kX4_carryOutLift_ok 20 rfl) rfl ?_
    refine gf hx hb hts (fun w h => List.mem_cons_of_mem _ (acX4 w h)) hown hK hP hk0 (sSet_at hS0).1 rfl 5 (by decide) (hts _ (List.mem_cons_of_mem _ (ac4 _ (List.mem_of_getElem? (i := 8) rfl)))) (fun _ h => h) rfl (dk kX4_carryOutLift_ok 21 rfl) ?_
    refine lv_iconst (v := nI 1) hx hb (dk kX4_carryOutLift_ok 22 rfl) rfl ?_
    refine lv_iadd hx hb (dk kX4_carryOutLift_ok 23 rfl) ?_
    refine pf (sSet cI ad F k (mov1 c b v (ix (low c b v (cat x y) n)) (beside x y d)) (mov2 c b v (ix (low c b v (cat x y) n)) (beside x y d)) (mov3 c b v (ix (low c b v (cat x y) n)) (beside x y d)) g h j (nI t) (u + (nI 1)) z) hx hb hts (fun w h => List.mem_cons_of_mem _ (acX4 w h)) tyX4 tyX4_ok nmX4 hown hK hDi hP hS hk0 (sSet_at hS0).1 rfl 5 (by decide) (hts _ (List.mem_cons_of_mem _ (ac4 _ (List.mem_of_getElem? (i := 8) rfl)))) (fun _ h => h) rfl (ty := .int) rfl rfl rfl (Nat.le_of_ble_eq_true rfl) (dk kX4_carryOutLift_ok 24 rfl) sSet_0 (fun H locs hP hS => ?_)
    refine lv_aload_n hx hb (dk kX4_carryOutLift_ok 25 rfl) rfl (lv_at hl 1 rfl) ?_
    refine cvDv (As := []) (rest := []) (sSet cI ad F k (mov1 c b v (ix (low c b v (cat x y) n)) (beside x y d)) (mov2 c b v (ix (low c b v (cat x y) n)) (beside x y d)) (mov3 c b v (ix (low c b v (cat x y) n)) (beside x y d)) g h ((pasg (mov1 c b v (ix (low c b v (cat x y) n)) (beside x y d)) t 8 j t).1) (nI ((pasg (mov1 c b v (ix (low c b v (cat x y) n)) (beside x y d)) t 8 j t).2)) (u + (nI 1)) z) ⟨hx, hb, hml, hown, hts⟩ (tX4_passTurn l D cI cQ cL ad N (sSet cI ad F k (mov1 c b v (ix (low c b v (cat x y) n)) (beside x y d)) (mov2 c b v (ix (low c b v (cat x y) n)) (beside x y d)) (mov3 c b v (ix (low c b v (cat x y) n)) (beside x y d)) g h j (nI t) (u + (nI 1)) z) k hk (mov1 c b v (ix (low c b v (cat x y) n)) (beside x y d)) (mov2 c b v (ix (low c b v (cat x y) n)) (beside x y d)) (mov3 c b v (ix (low c b v (cat x y) n)) (beside x y d)) g h j t (u + (nI 1)) z (sSet_at hS0) ht) (cwV9 0 hts mcX4_passTurn (ac7 _ (List.mem_of_getElem? (i := 13) rfl)) miX4_passTurn meX4_passTurn mini_RX4 rfl rfl hdX4_passTurn ⟨Nat.le_of_ble_eq_true rfl, Nat.le_of_ble_eq_true rfl⟩) hDi hK hP hNW hS hk0 (sSet_at hS0).1 rfl rfl hl.1 rfl (Nat.le_of_ble_eq_true rfl) (by decide) (dk kX4_carryOutLift_ok 26 rfl) sSet_sSet (fun H locs hP hS => ?_)
    exact hret _ _ _ _ _ _ _ (by simp only [dp, liC, liB, liV, h1, not_true_eq_false, not_false_eq_true, and_true, true_and, and_false, false_and, or_true, true_or, or_false, false_or, and_self, or_self, if_true, if_false, Bool.false_eq_true, reduceIte]) hP hS (by decide) (by decide) (dk kX4_carryOutLift_ok 27 rfl)
end
/-! from blocks -/
section
def gtAt (cI : ClassId) (ad : Nat → Nat) (F : Nat → va_E) (k : Nat) (a : Nat → Int32) (n : Nat) : Prop := F k = .inr (0, [.ref (ad (k + 1)), .int (nI n)]) ∧ F (k + 1) = .inl (cI, 60, .inl a)
def gtSet (cI : ClassId) (ad : Nat → Nat) (F : Nat → va_E) (k : Nat) (a : Nat → Int32) (n : Nat) : Nat → va_E := fun i => if i = k then .inr (0, [.ref (ad (k + 1)), .int (nI n)]) else if i = k + 1 then .inl (cI, 60, .inl a) else F i
section
variable {cI : ClassId} {ad : Nat → Nat} {F : Nat → va_E} {k : Nat} {a : Nat → Int32} {n : Nat} {a' : Nat → Int32} {n' : Nat}
theorem gtSet_self (H : gtAt cI ad F k a n) : gtSet cI ad F k a n = F := by
  funext i
  obtain ⟨h0, h1⟩ := H
  unfold gtSet
  by_cases e0 : i = k
  · rw [if_pos e0, e0, h0]
  rw [if_neg e0]
  by_cases e1 : i = k + 1
  · rw [if_pos e1, e1, h1]
  rw [if_neg e1]
theorem gtSet_out {i : Nat} (hi : i < k ∨ k + 1 < i) : gtSet cI ad F k a n i = F i := by
  unfold gtSet
  rw [if_neg (by omega), if_neg (by omega)]
theorem gtSet_at : gtAt cI ad (gtSet cI ad F k a n) k a n := by
  refine ⟨?_, ?_⟩
  · simp [gtSet]
  · simp [gtSet]
theorem gtSet_gtSet : gtSet cI ad (gtSet cI ad F k a n) k a' n' = gtSet cI ad F k a' n' := by
  funext i
  by_cases e0 : i = k
  · simp [gtSet, e0]
  by_cases e1 : i = k + 1
  · simp [gtSet, e1]
  simp [gtSet, e0, e1]
theorem gtSet_u0 : va_up (gtSet cI ad F k a n) (k) (.inr (0, [.ref (ad (k + 1)), .int (nI n')])) = gtSet cI ad F k a n' := by
  funext i
  by_cases e0 : i = k
  · simp [va_up, gtSet, e0]
  by_cases e1 : i = k + 1
  · simp [va_up, gtSet, e1]
  simp [va_up, gtSet, e0, e1]
theorem gtSet_u1 : va_up (gtSet cI ad F k a n) (k + 1) (.inl (cI, 60, .inl a')) = gtSet cI ad F k a' n := by
  funext i
  by_cases e0 : i = k
  · simp [va_up, gtSet, e0]
  by_cases e1 : i = k + 1
  · simp [va_up, gtSet, e1]
  simp [va_up, gtSet, e0, e1]
theorem gtAt_keep {G : Nat → va_E} (H : gtAt cI ad F k a n) (hG : ∀ i, k ≤ i → i ≤ k + 1 → G i = F i) : gtAt cI ad G k a n := by
  obtain ⟨h0, h1⟩ := H
  exact ⟨by rw [hG _ (by omega) (by omega)]; exact h0, by rw [hG _ (by omega) (by omega)]; exact h1⟩
end
def paAt (cQ : ClassId) (ad : Nat → Nat) (F : Nat → va_E) (k : Nat) (n : Nat) (m : Nat) : Prop := F k = .inr (2, [.ref (ad (k + 1)), .int (nI n), .int (nI m)]) ∧ F (k + 1) = .inl (cQ, 6, .inr (.inr (.inr (.inr (fun i9 => some (ad (k + 2 + 8 * i9)))))))
def paSet (cQ : ClassId) (ad : Nat → Nat) (F : Nat → va_E) (k : Nat) (n : Nat) (m : Nat) : Nat → va_E := fun i => if i = k then .inr (2, [.ref (ad (k + 1)), .int (nI n), .int (nI m)]) else if i = k + 1 then .inl (cQ, 6, .inr (.inr (.inr (.inr (fun i9 => some (ad (k + 2 + 8 * i9))))))) else F i
section
variable {cQ : ClassId} {ad : Nat → Nat} {F : Nat → va_E} {k : Nat} {n : Nat} {m : Nat} {n' : Nat} {m' : Nat}
theorem paSet_self (H : paAt cQ ad F k n m) : paSet cQ ad F k n m = F := by
  funext i
  obtain ⟨h0, h1⟩ := H
  unfold paSet
  by_cases e0 : i = k
  · rw [if_pos e0, e0, h0]
  rw [if_neg e0]
  by_cases e1 : i = k + 1
  · rw [if_pos e1, e1, h1]
  rw [if_neg e1]
theorem paSet_out {i : Nat} (hi : i < k ∨ k + 1 < i) : paSet cQ ad F k n m i = F i := by
  unfold paSet
  rw [if_neg (by omega), if_neg (by omega)]
theorem paSet_at : paAt cQ ad (paSet cQ ad F k n m) k n m := by
  refine ⟨?_, ?_⟩
  · simp [paSet]
  · simp [paSet]
theorem paSet_paSet : paSet cQ ad (paSet cQ ad F k n m) k n' m' = paSet cQ ad F k n' m' := by
  funext i
  by_cases e0 : i = k
  · simp [paSet, e0]
  by_cases e1 : i = k + 1
  · simp [paSet, e1]
  simp [paSet, e0, e1]
theorem paSet_u0 : va_up (paSet cQ ad F k n m) (k) (.inr (2, [.ref (ad (k + 1)), .int (nI n'), .int (nI m')])) = paSet cQ ad F k n' m' := by
  funext i
  by_cases e0 : i = k
  · simp [va_up, paSet, e0]
  by_cases e1 : i = k + 1
  · simp [va_up, paSet, e1]
  simp [va_up, paSet, e0, e1]
theorem paAt_keep {G : Nat → va_E} (H : paAt cQ ad F k n m) (hG : ∀ i, k ≤ i → i ≤ k + 1 → G i = F i) : paAt cQ ad G k n m := by
  obtain ⟨h0, h1⟩ := H
  exact ⟨by rw [hG _ (by omega) (by omega)]; exact h0, by rw [hG _ (by omega) (by omega)]; exact h1⟩
end
def roAt (cI : ClassId) (ad : Nat → Nat) (F : Nat → va_E) (k : Nat) (a : Nat → Int32) (d : Nat → Int32) (q : Nat → Int32) : Prop := F k = .inr (3, [.ref (ad (k + 1)), .ref (ad (k + 2)), .ref (ad (k + 3))]) ∧ F (k + 1) = .inl (cI, 338, .inl a) ∧ F (k + 2) = .inl (cI, 169, .inl d) ∧ F (k + 3) = .inl (cI, 169, .inl q)
def roSet (cI : ClassId) (ad : Nat → Nat) (F : Nat → va_E) (k : Nat) (a : Nat → Int32) (d : Nat → Int32) (q : Nat → Int32) : Nat → va_E := fun i => if i = k then .inr (3, [.ref (ad (k + 1)), .ref (ad (k + 2)), .ref (ad (k + 3))]) else if i = k + 1 then .inl (cI, 338, .inl a) else if i = k + 2 then .inl (cI, 169, .inl d) else if i = k + 3 then .inl (cI, 169, .inl q) else F i
section
variable {cI : ClassId} {ad : Nat → Nat} {F : Nat → va_E} {k : Nat} {a : Nat → Int32} {d : Nat → Int32} {q : Nat → Int32} {a' : Nat → Int32} {d' : Nat → Int32} {q' : Nat → Int32}
theorem roSet_self (H : roAt cI ad F k a d q) : roSet cI ad F k a d q = F := by
  funext i
  obtain ⟨h0, h1, h2, h3⟩ := H
  unfold roSet
  by_cases e0 : i = k
  · rw [if_pos e0, e0, h0]
  rw [if_neg e0]
  by_cases e1 : i = k + 1
  · rw [if_pos e1, e1, h1]
  rw [if_neg e1]
  by_cases e2 : i = k + 2
  · rw [if_pos e2, e2, h2]
  rw [if_neg e2]
  by_cases e3 : i = k + 3
  · rw [if_pos e3, e3, h3]
  rw [if_neg e3]
theorem roSet_out {i : Nat} (hi : i < k ∨ k + 3 < i) : roSet cI ad F k a d q i = F i := by
  unfold roSet
  rw [if_neg (by omega), if_neg (by omega), if_neg (by omega), if_neg (by omega)]
theorem roSet_at : roAt cI ad (roSet cI ad F k a d q) k a d q := by
  refine ⟨?_, ?_, ?_, ?_⟩
  · simp [roSet]
  · simp [roSet]
  · simp [roSet]
  · simp [roSet]
theorem roSet_roSet : roSet cI ad (roSet cI ad F k a d q) k a' d' q' = roSet cI ad F k a' d' q' := by
  funext i
  by_cases e0 : i = k
  · simp [roSet, e0]
  by_cases e1 : i = k + 1
  · simp [roSet, e1]
  by_cases e2 : i = k + 2
  · simp [roSet, e2]
  by_cases e3 : i = k + 3
  · simp [roSet, e3]
  simp [roSet, e0, e1, e2, e3]
theorem roSet_u1 : va_up (roSet cI ad F k a d q) (k + 1) (.inl (cI, 338, .inl a')) = roSet cI ad F k a' d q := by
  funext i
  by_cases e0 : i = k
  · simp [va_up, roSet, e0]
  by_cases e1 : i = k + 1
  · simp [va_up, roSet, e1]
  by_cases e2 : i = k + 2
  · simp [va_up, roSet, e2]
  by_cases e3 : i = k + 3
  · simp [va_up, roSet, e3]
  simp [va_up, roSet, e0, e1, e2, e3]
theorem roSet_u2 : va_up (roSet cI ad F k a d q) (k + 2) (.inl (cI, 169, .inl d')) = roSet cI ad F k a d' q := by
  funext i
  by_cases e0 : i = k
  · simp [va_up, roSet, e0]
  by_cases e1 : i = k + 1
  · simp [va_up, roSet, e1]
  by_cases e2 : i = k + 2
  · simp [va_up, roSet, e2]
  by_cases e3 : i = k + 3
  · simp [va_up, roSet, e3]
  simp [va_up, roSet, e0, e1, e2, e3]
theorem roSet_u3 : va_up (roSet cI ad F k a d q) (k + 3) (.inl (cI, 169, .inl q')) = roSet cI ad F k a d q' := by
  funext i
  by_cases e0 : i = k
  · simp [va_up, roSet, e0]
  by_cases e1 : i = k + 1
  · simp [va_up, roSet, e1]
  by_cases e2 : i = k + 2
  · simp [va_up, roSet, e2]
  by_cases e3 : i = k + 3
  · simp [va_up, roSet, e3]
  simp [va_up, roSet, e0, e1, e2, e3]
theorem roAt_keep {G : Nat → va_E} (H : roAt cI ad F k a d q) (hG : ∀ i, k ≤ i → i ≤ k + 3 → G i = F i) : roAt cI ad G k a d q := by
  obtain ⟨h0, h1, h2, h3⟩ := H
  exact ⟨by rw [hG _ (by omega) (by omega)]; exact h0, by rw [hG _ (by omega) (by omega)]; exact h1, by rw [hG _ (by omega) (by omega)]; exact h2, by rw [hG _ (by omega) (by omega)]; exact h3⟩
end
end
/-! from spec4 -/
section
theorem stAt_keep {cI : ClassId} {ad : Nat → Nat} {F G : Nat → va_E} {k : Nat} {c b v g h j : Nat → Int32} {t u z : Int32} (H : stAt cI ad F k c b v g h j t u z) (hG : ∀ i, k ≤ i → i ≤ k + 7 → G i = F i) : stAt cI ad G k c b v g h j t u z := by
  obtain ⟨h0, ⟨h1, h2, h3, h4⟩, h5, h6, h7⟩ := H
  exact ⟨by rw [hG _ (by omega) (by omega)]; exact h0, ⟨by rw [hG _ (by omega) (by omega)]; exact h1, by rw [hG _ (by omega) (by omega)]; exact h2, by rw [hG _ (by omega) (by omega)]; exact h3, by rw [hG _ (by omega) (by omega)]; exact h4⟩, by rw [hG _ (by omega) (by omega)]; exact h5, by rw [hG _ (by omega) (by omega)]; exact h6, by rw [hG _ (by omega) (by omega)]; exact h7⟩
theorem matAt_keep {cI : ClassId} {ad : Nat → Nat} {F G : Nat → va_E} {k : Nat} {c b v : Nat → Int32} (H : matAt cI ad F k c b v) (hG : ∀ i, k ≤ i → i ≤ k + 3 → G i = F i) : matAt cI ad G k c b v := by
  obtain ⟨h1, h2, h3, h4⟩ := H
  exact ⟨by rw [hG _ (by omega) (by omega)]; exact h1, by rw [hG _ (by omega) (by omega)]; exact h2, by rw [hG _ (by omega) (by omega)]; exact h3, by rw [hG _ (by omega) (by omega)]; exact h4⟩
theorem imin_nI {a b : Nat} (ha : a < 2 ^ 31) (hb : b < 2 ^ 31) : imin (nI a) (nI b) = nI (min a b) := by
  unfold imin
  by_cases h : nI b < nI a
  · rw [if_pos h]
    have := (nI_ltI hb ha).mp h
    congr 1
    omega
  · rw [if_neg h]
    have : ¬ b < a := fun q => h ((nI_ltI hb ha).mpr q)
    congr 1
    omega
theorem imax_nI {a b : Nat} (ha : a < 2 ^ 31) (hb : b < 2 ^ 31) : imax (nI a) (nI b) = nI (max a b) := by
  unfold imax
  by_cases h : nI a < nI b
  · rw [if_pos h]
    have := (nI_ltI ha hb).mp h
    congr 1
    omega
  · rw [if_neg h]
    have : ¬ a < b := fun q => h ((nI_ltI ha hb).mpr q)
    congr 1
    omega
section N14
variable {p : Program} {l : Launch} {e : Env} {R : Room} {s : State} {m : MethodId} {args : Array Value} {below : List Frame} {meth : Method} {c : Code} {H : Heap} {locs : List Loc} {cells slots : Nat} {Q : State → Prop}
variable {cc : ByteArray} {pc : Nat} {ls : Array Slot} {rest st0 : List Value} {D : va_G} {cI cQ cL : ClassId} {ad : Nat → Nat} {N : Nat} {F : Nat → va_E} {Ts : List Cond}
theorem n_mmin {a b : Nat} (ha : a < 2 ^ 31) (hb2 : b < 2 ^ 31) (hexec : p.tables.exec = Jvm.exec) (hb : c.code = cc) (hml : c.maxLocals = ls.size) {own : String} {index : Nat} (hown : s.vm.findClass own = some m.cls) (hlink : (Cond.methodLink own index Lib.Math.min.name).before args s = true) (hstat : (Cond.static Lib.Math.min.name).before args s = true) (hini : (Cond.initialized "java/lang/Math").before args s = true) (hcode : (Cond.code Lib.Math.min.name Lib.Math.min.code 2 (some .int)).before args s = true)
    (hframes : 1 ≤ R.frames) (hlocals : (rest.map fun v => v.category).sum + 13 ≤ R.locals) (hc : cells ≤ R.cells) (hs : slots ≤ R.slots) (hdg : decode cc pc = .ok (.invokestatic index, 3))
    (kk : W p l e R s m args below meth c H locs cells slots Q (F0 m (pc + 3) ls (.int (nI (min a b)) :: rest))) : W p l e R s m args below meth c H locs cells slots Q (F0 m pc ls (.int (nI b) :: .int (nI a) :: rest)) :=
  va_mmin hexec hb hml hown hlink hstat hini hcode hframes hlocals hc hs hdg (by rw [show (if nI b < nI a then nI b else nI a) = nI (min a b) from imin_nI ha hb2]; exact kk)
theorem aldq (hx : p.tables.exec = Jvm.exec) (hb : c.code = cc) (hK : va_K D vwCl (iT cI cQ cL) s) (hP : va_P D vwCl (iW ad N F) H) {k n : Nat} {f : Nat → Option Nat} {j a : Nat} (hk : k < N) (hF : F k = .inl (cQ, n, .inr (.inr (.inr (.inr f))))) (hj : j < n) (hn : n < 2 ^ 31) (hf : f j = some a) (hdg : decode cc pc = .ok (.aaload, 1))
    (kk : W p l e R s m args below meth c H locs cells slots Q (F0 m (pc + 1) ls (.ref a :: rest))) : W p l e R s m args below meth c H locs cells slots Q (F0 m pc ls (.int (nI j) :: .ref (ad k) :: rest)) := by
  refine va_aldq hx hb hK hP k 1 (iW_at hk hF) rfl (vp_in_nI hj hn) hdg ?_
  rw [nI_clamp (Nat.lt_trans hj hn), hf]
  exact kk
/-- behind a call of a static method that writes -/
theorem csW {nL index na mc ms : Nat} {own : String} {y : MethodName} {bytes : ByteArray} {maxL : Nat} {ret : Option FieldType} {ws : List Cond} {rm : Room} {As : List Value} {post : Option Value → (Nat → va_E) → Prop}
    (S : CallFix p m c cc nL s args Ts own) (hM : MX l y ws rm D cI cQ cL ad N F As post mc ms) (cw : CallB R s args own index y bytes maxL ret ws rm mc ms na ∧ (Cond.static y).before args s = true) (hDi : iD ad N) (hK : va_K D vwCl (iT cI cQ cL) s) (hP : va_P D vwCl (iW ad N F) H) (hNW : NW s) (hS : va_S (iA ad N s.heap.size) s.heap H locs)
    (hn : As.length = na) (hsize : ls.size = nL) (hstack : st0 = As.reverse ++ rest) (hW : (rest.map fun v => v.category).sum ≤ 8) (hf : cells + mc ≤ R.cells ∧ slots + ms ≤ R.slots) (hdg : decode cc pc = .ok (.invokestatic index, 3))
    (kk : ∀ (v : Option Value) (F' : Nat → va_E) (H1 : Heap) (locs1 : List Loc), post v F' → va_P D vwCl (iW ad N F') H1 → va_S (iA ad N s.heap.size) s.heap H1 locs1 → W p l e R s m args below meth c H1 locs1 (cells + mc) (slots + ms) Q (F0 m (pc + 3) ls (v.toList ++ rest))) : W p l e R s m args below meth c H locs cells slots Q (F0 m pc ls st0) :=
  cW (va_runS (g := F0 m pc ls st0) S (hM H.size) cw ⟨MX_blind, fun U hU hW => MX_pre hDi hK hP hNW hU hW⟩ rfl hn hsize hstack (lv_room hW) hdg hf) hS kk
theorem csDv {nL index na : Nat} {own : String} {y : MethodName} {bytes : ByteArray} {maxL : Nat} {ret : Option FieldType} {ws : List Cond} {rm : Room} {As : List Value} {G : Nat → va_E} (F' : Nat → va_E)
    (S : CallFix p m c cc nL s args Ts own) (hM : MX l y ws rm D cI cQ cL ad N F As (dp none G) 0 0) (cw : CallB R s args own index y bytes maxL ret ws rm 0 0 na ∧ (Cond.static y).before args s = true) (hDi : iD ad N) (hK : va_K D vwCl (iT cI cQ cL) s) (hP : va_P D vwCl (iW ad N F) H) (hNW : NW s) (hS : va_S (iA ad N s.heap.size) s.heap H locs)
    (hn : As.length = na) (hsize : ls.size = nL) (hstack : st0 = As.reverse ++ rest) (hW : (rest.map fun v => v.category).sum ≤ 8) (hf : cells + 0 ≤ R.cells ∧ slots + 0 ≤ R.slots) (hdg : decode cc pc = .ok (.invokestatic index, 3)) (hcan : G = F')
    (kk : ∀ (H1 : Heap) (locs1 : List Loc), va_P D vwCl (iW ad N F') H1 → va_S (iA ad N s.heap.size) s.heap H1 locs1 → W p l e R s m args below meth c H1 locs1 cells slots Q (F0 m (pc + 3) ls rest)) : W p l e R s m args below meth c H locs cells slots Q (F0 m pc ls st0) :=
  csW S hM cw hDi hK hP hNW hS hn hsize hstack hW hf hdg (fun v G9 H1 locs1 hp hP1 hS1 => by
    obtain ⟨rfl, rfl⟩ := hp
    exact kk H1 locs1 (by rw [← hcan]; exact hP1) hS1)
end N14
-- the text
def btw (x a b : Int32) : Bool := !(decide (x < a)) && !(decide (b < x))
def stb (s x : Int32) : Int32 := if s = nI 0 then (if x = nI 102 then nI 1 else if x = nI 108 then nI 4 else -1) else if s = nI 1 then (if btw x (nI 48) (nI 51) = true then nI 2 else -1) else if s = nI 2 then (if btw x (nI 48) (nI 55) = true then nI 3 else -1) else if s = nI 3 then (if btw x (nI 49) (nI 57) = true then nI 8 else -1) else if s = nI 4 then (if btw x (nI 97) (nI 109) = true then nI 5 else -1) else if s = nI 5 then (if btw x (nI 97) (nI 109) = true then nI 6 else -1) else if s = nI 6 then (if btw x (nI 49) (nI 54) = true then nI 7 else -1) else if s = nI 7 then (if btw x (nI 48) (nI 55) = true then nI 8 else -1) else if s = nI 8 then (if x = nI 59 then nI 0 else -1) else -1
def cod (a : Nat → Int32) (n i : Nat) : Int32 := if i < n then a i else nI 0
def sta (a : Nat → Int32) : Nat → Int32
  | 0 => nI 0
  | n + 1 => stb (sta a n) (a n)
/-- the first place, of n more from i on, behind which the text is none any more -/
def eri (a : Nat → Int32) : Nat → Nat → Int32 → Nat
  | 0, i, _ => i
  | n + 1, i, s => if stb s (a i) = -1 then i else eri a n (i + 1) (stb s (a i))
theorem eri_le (a : Nat → Int32) : ∀ (n i : Nat) (s : Int32), eri a n i s ≤ i + n
  | 0, i, _ => Nat.le_refl i
  | n + 1, i, s => by
    have h := eri_le a n (i + 1) (stb s (a i))
    simp only [eri]
    split <;> omega
-- the routes
def srI (m : Nat) (cell : Int32) : Nat → Nat → (Nat → Int32) → (Nat → Int32) → Nat → (Option Int32) × (Nat → Int32) × (Nat → Int32) × Nat
  | 0, _, d, q, n => (none, d, q, n)
  | i + 1, f, d, q, n =>
    if ldg cell (nI (f / 9)) (f % 9 + 1 + m) = nI 84 then (some (d (ix cell) + nI 1), d, q, n)
    else if ldg cell (nI (f / 9)) (f % 9 + 1 + m) = -1 then srI m cell i (f + 1) d q n
    else if ¬ d (ix (ldg cell (nI (f / 9)) (f % 9 + 1 + m))) = -1 then srI m cell i (f + 1) d q n
    else if ¬ n < 169 then srI m cell i (f + 1) d q n
    else srI m cell i (f + 1) (upd d (ix (ldg cell (nI (f / 9)) (f % 9 + 1 + m))) (d (ix cell) + nI 1)) (upd q n (ldg cell (nI (f / 9)) (f % 9 + 1 + m))) (n + 1)
def srO (m : Nat) : Nat → Nat → (Nat → Int32) → (Nat → Int32) → Nat → Int32 × (Nat → Int32) × (Nat → Int32)
  | 0, _, d, q, _ => (-1, d, q)
  | i + 1, k, d, q, n => if ¬ (k < n ∧ k < 169) then (-1, d, q) else match (srI m (q k) 72 0 d q n).1 with
    | some r => (r, (srI m (q k) 72 0 d q n).2.1, (srI m (q k) 72 0 d q n).2.2.1)
    | none => srO m i (k + 1) (srI m (q k) 72 0 d q n).2.1 (srI m (q k) 72 0 d q n).2.2.1 (srI m (q k) 72 0 d q n).2.2.2
def srD (w : Nat) : Nat → Int32 := upd (fun _ => -1) w (nI 0)
def sea (q : Nat → Int32) (w m : Nat) : Int32 × (Nat → Int32) × (Nat → Int32) := srO m 170 0 (srD w) (upd q 0 (nI w)) 1
def cell9 (x : Int32) : Prop := ∃ j : Nat, j < 169 ∧ x = nI j
theorem cat_on {x y : Int32} (h : on x y = true) : cell9 (cat x y) := by
  simp only [on, Bool.and_eq_true, Bool.not_eq_true', decide_eq_false_iff_not] at h
  obtain ⟨⟨h1, h2⟩, h3, h4⟩ := h
  obtain ⟨i, hi, rfl⟩ := nI_of h1
  obtain ⟨j, hj, rfl⟩ := nI_of h3
  have hi2 : i < 13 := Nat.not_le.mp fun q => h2 ((nI_leI (by decide) hi).mpr q)
  have hj2 : j < 13 := Nat.not_le.mp fun q => h4 ((nI_leI (by decide) hj).mpr q)
  exact ⟨13 * j + i, by omega, by rw [cat, pk_mul, nI_add]⟩
theorem ldL_cell : ∀ (n : Nat) (x y u v : Int32) (b : Bool), on x y = true → ldL n x y u v b = -1 ∨ cell9 (ldL n x y u v b)
  | 0, x, y, _, _, _, h => Or.inr (cat_on h)
  | n + 1, x, y, u, v, b, h => by
    simp only [ldL]
    by_cases h1 : on (x + u) (y + v) = true
    · rw [if_pos h1]
      exact ldL_cell n _ _ _ _ _ h1
    · rw [if_neg h1]
      split
      · exact Or.inl rfl
      · split
        · next h2 => exact ldL_cell n _ _ _ _ _ h2
        · exact Or.inl rfl
theorem ldg_cell {q : Int32} (h : cell9 q) (d : Int32) (f : Nat) : ldg q d f = -1 ∨ cell9 (ldg q d f) := by
  obtain ⟨j, hj, rfl⟩ := h
  refine ldL_cell f _ _ _ _ _ ?_
  rw [pk_rem (by omega) (by decide) (by decide), pk_div (by omega) (by decide) (by decide)]
  have h1 : j % 13 < 13 := Nat.mod_lt _ (by decide)
  have h2 : j / 13 < 13 := by omega
  have z1 : ¬ nI (j % 13) < 0 := nI_pos (by omega)
  have z2 : ¬ nI (j / 13) < 0 := nI_pos (by omega)
  have z3 : ¬ nI 13 ≤ nI (j % 13) := fun q => absurd ((nI_leI (by decide) (by omega)).mp q) (by omega)
  have z4 : ¬ nI 13 ≤ nI (j / 13) := fun q => absurd ((nI_leI (by decide) (by omega)).mp q) (by omega)
  simp [on, z1, z2, z3, z4]
theorem cell9_ix {x : Int32} (h : cell9 x) : x = nI (ix x) ∧ ix x < 169 := by
  obtain ⟨j, hj, rfl⟩ := h
  rw [ix_nI (by omega)]
  exact ⟨rfl, hj⟩
end
/-! from spec5 -/
section
theorem va_up_id {F : Nat → va_E} {k : Nat} {e : va_E} (h : F k = e) : va_up F k e = F := by
  funext i
  by_cases hi : i = k
  · subst hi
    rw [va_up_self, h]
  · rw [va_up_ne _ _ hi]
theorem va_up_up {F : Nat → va_E} {k : Nat} {e e' : va_E} : va_up (va_up F k e) k e' = va_up F k e' := by
  funext i
  by_cases hi : i = k
  · subst hi
    rw [va_up_self, va_up_self]
  · rw [va_up_ne _ _ hi, va_up_ne _ _ hi, va_up_ne _ _ hi]
def fl9 (g : Nat → Int32) (i : Nat) (x : Int32) : Nat → Int32 := fun j => if j < i then x else g j
theorem fl9_0 (g : Nat → Int32) (x : Int32) : fl9 g 0 x = g := by
  funext j
  simp [fl9]
theorem fl9_s (g : Nat → Int32) (i : Nat) (x : Int32) : upd (fl9 g i x) i x = fl9 g (i + 1) x := by
  funext j
  unfold upd fl9
  by_cases h : j = i
  · subst h
    rw [if_pos rfl, if_pos (by omega)]
  · rw [if_neg h]
    by_cases h2 : j < i
    · rw [if_pos h2, if_pos (by omega)]
    · rw [if_neg h2, if_neg (by omega)]
theorem fl9_end {D : va_G} {cl : List vw_C} {ad : Nat → Nat} {N : Nat} {F : Nat → va_E} {H : Heap} {k n : Nat} {cA : ClassId} {g : Nat → Int32} {x : Int32} (h : va_P D cl (iW ad N (va_up F k (.inl (cA, n, .inl (fl9 g n x))))) H) : va_P D cl (iW ad N (va_up F k (.inl (cA, n, .inl (fun _ => x))))) H := by
  refine iW_ext h (fun i _ => ?_)
  by_cases hi : i = k
  · subst hi
    exact Or.inr ⟨cA, n, _, _, va_up_self _ _ _, va_up_self _ _ _, fun j hj => by simp [fl9, hj]⟩
  · exact Or.inl (by rw [va_up_ne _ _ hi, va_up_ne _ _ hi])
theorem srO_hit {m i k n n' : Nat} {d q d' q' : Nat → Int32} {r : Int32} (h1 : k < n) (h2 : k < 169) (h : srI m (q k) 72 0 d q n = (some r, d', q', n')) : srO m (i + 1) k d q n = (r, d', q') := by
  simp only [srO]
  rw [if_neg (fun h9 => h9 ⟨h1, h2⟩), h]
theorem srO_miss {m i k n n' : Nat} {d q d' q' : Nat → Int32} (h1 : k < n) (h2 : k < 169) (h : srI m (q k) 72 0 d q n = (none, d', q', n')) : srO m (i + 1) k d q n = srO m i (k + 1) d' q' n' := by
  simp only [srO]
  rw [if_neg (fun h9 => h9 ⟨h1, h2⟩), h]
theorem srO_end {m i k n : Nat} {d q : Nat → Int32} (h1 : ¬ (k < n ∧ k < 169)) : srO m (i + 1) k d q n = (-1, d, q) := by
  simp only [srO]
  rw [if_pos h1]
def few (a d q : Nat → Int32) (w : Nat) (large : Bool) : (Nat → Int32) × (Nat → Int32) × (Nat → Int32) := if a (if large = true then w else 169 + w) = 0 then (upd a (if large = true then w else 169 + w) (sea q w (if large = true then 0 else 1)).1, (sea q w (if large = true then 0 else 1)).2.1, (sea q w (if large = true then 0 else 1)).2.2) else (a, d, q)
end
/-! from misc -/
section
set_option maxRecDepth 100000 in
set_option maxHeartbeats 4000000 in
theorem tX4_copyFrom (l : Launch) (D : va_G) (cI cQ cL : ClassId) (ad : Nat → Nat) (N : Nat) (F : Nat → va_E) (k : Nat) (hk : k + 7 < N) (c b v g h j : Nat → Int32) (t : Nat) (u z : Int32) (hS0 : stAt cI ad F k c b v g h j (nI t) u z) (k2 : Nat) (hq : k2 + 7 < N) (c2 b2 v2 g2 h2 j2 : Nat → Int32) (t2 : Nat) (u2 z2 : Int32) (hS2 : stAt cI ad F k2 c2 b2 v2 g2 h2 j2 (nI t2) u2 z2) (hd : k + 7 < k2 ∨ k2 + 7 < k) : MX l yX4_copyFrom (Cond.code yX4_copyFrom cX4_copyFrom 2 none :: AW) ({ frames := 2, cells := 0, slots := 0, locals := 39 } : Room) D cI cQ cL ad N F [.ref (ad k), .ref (ad k2)] (dp none (sSet cI ad F k c2 b2 v2 g2 h2 j2 (nI t2) u2 z2)) 0 0 := by
  refine mx_v (by decide +kernel) rfl (Nat.le_of_ble_eq_true rfl) (fun p e s m below meth cd Q ls hx hb hml hown hts hDi hP hK hNW hS hret hl => ?_)
  have hown : s.vm.findClass RX4 = some m.cls := hown
  have hk0 : k < N := by omega
  have hk1 : k + 1 < N := by omega
  have hk11 : k + 1 + 1 < N := by omega
  have hk12 : k + 1 + 2 < N := by omega
  have hk13 : k + 1 + 3 < N := by omega
  have hkm : k + 1 + 3 < N := by omega
  have hk5 : k + 5 < N := by omega
  have hk6 : k + 6 < N := by omega
  have hk7 : k + 7 < N := hk
  have hq0 : k2 < N := by omega
  have hq1 : k2 + 1 < N := by omega
  have hqm : k2 + 1 + 3 < N := by omega
  have hq5 : k2 + 5 < N := by omega
  have hq6 : k2 + 6 < N := by omega
  have hq7 : k2 + 7 < N := hq
  have hP : va_P D vwCl (iW ad N (sSet cI ad F k c b v g h j (nI t) u z)) s.heap := by rw [sSet_self hS0]; exact hP
  have hl : lv_has ls 2 [(0, .ref (ad k)), (1, .ref (ad k2))] := hl
  refine lv_aload_n hx hb (dk kX4_copyFrom_ok 0 rfl) rfl (lv_at hl 0 rfl) ?_
  refine gf hx hb hts (fun w h => List.mem_cons_of_mem _ (acX4 w h)) hown hK hP hk0 (sSet_at hS0).1 rfl 0 (by decide) (hts _ (List.mem_cons_of_mem _ (ac4 _ (List.mem_of_getElem? (i := 3) rfl)))) (fun _ h => h) rfl (dk kX4_copyFrom_ok 1 rfl) ?_
  refine lv_aload_n hx hb (dk kX4_copyFrom_ok 2 rfl) rfl (lv_at hl 1 rfl) ?_
  refine gf hx hb hts (fun w h => List.mem_cons_of_mem _ (acX4 w h)) hown hK hP hq0 (sSet_oth hS2 hd).1 rfl 0 (by decide) (hts _ (List.mem_cons_of_mem _ (ac4 _ (List.mem_of_getElem? (i := 3) rfl)))) (fun _ h => h) rfl (dk kX4_copyFrom_ok 3 rfl) ?_
  refine cvDv (As := [.ref (ad (k2 + 1))]) (rest := []) (sSet cI ad F k c2 b2 v2 g h j (nI t) u z) ⟨hx, hb, hml, hown, hts⟩ (tX1_copyFrom l D cI cQ cL ad N (sSet cI ad F k c b v g h j (nI t) u z) (k + 1) hkm c b v (sSet_at hS0).2.1 (k2 + 1) hqm (by omega) c2 b2 v2 (sSet_oth hS2 hd).2.1) (cwV9 1 hts mcX1_copyFrom (ac4 _ (List.mem_of_getElem? (i := 23) rfl)) miX1_copyFrom meX1_copyFrom mini_RX1 rfl rfl hdX1_copyFrom ⟨Nat.le_of_ble_eq_true rfl, Nat.le_of_ble_eq_true rfl⟩) hDi hK hP hNW hS hk1 (sSet_at hS0).2.1.1 rfl rfl hl.1 rfl (Nat.le_of_ble_eq_true rfl) (by decide) (dk kX4_copyFrom_ok 4 rfl) sSet_m (fun H locs hP hS => ?_)
  refine lv_aload_n hx hb (dk kX4_copyFrom_ok 5 rfl) rfl (lv_at hl 1 rfl) ?_
  refine gf hx hb hts (fun w h => List.mem_cons_of_mem _ (acX4 w h)) hown hK hP hq0 (sSet_oth hS2 hd).1 rfl 1 (by decide) (hts _ (List.mem_cons_of_mem _ (ac4 _ (List.mem_of_getElem? (i := 4) rfl)))) (fun _ h => h) rfl (dk kX4_copyFrom_ok 6 rfl) ?_
  refine lv_iconst (v := nI 0) hx hb (dk kX4_copyFrom_ok 7 rfl) rfl ?_
  refine lv_aload_n hx hb (dk kX4_copyFrom_ok 8 rfl) rfl (lv_at hl 0 rfl) ?_
  refine gf hx hb hts (fun w h => List.mem_cons_of_mem _ (acX4 w h)) hown hK hP hk0 (sSet_at hS0).1 rfl 1 (by decide) (hts _ (List.mem_cons_of_mem _ (ac4 _ (List.mem_of_getElem? (i := 4) rfl)))) (fun _ h => h) rfl (dk kX4_copyFrom_ok 9 rfl) ?_
  refine lv_iconst (v := nI 0) hx hb (dk kX4_copyFrom_ok 10 rfl) rfl ?_
  refine lv_bipush (v := nI 16) hx hb (dk kX4_copyFrom_ok 11 rfl) rfl ?_
  refine cpy (sSet cI ad F k c2 b2 v2 g2 h j (nI t) u z) hx hb (by rw [hml, hl.1]) hown (hts _ (List.mem_cons_of_mem _ (ac4 _ (List.mem_of_getElem? (i := 22) rfl)))) (hts _ (List.mem_cons_of_mem _ (ac1 _ (List.mem_of_getElem? (i := 6) rfl)))) (hts _ (List.mem_cons_of_mem _ (ac1 _ (List.mem_of_getElem? (i := 7) rfl)))) (hts _ (List.mem_cons_of_mem _ (ac1 _ (List.mem_of_getElem? (i := 8) rfl)))) hK hDi hP hS hq5 (sSet_oth hS2 hd).2.2.1 hk5 (sSet_at hS0).2.2.1 (by decide) (Nat.le_of_ble_eq_true rfl) (Nat.le_of_ble_eq_true rfl) (dk kX4_copyFrom_ok 12 rfl) sSet_g (fun H locs hP hS => ?_)
  refine lv_aload_n hx hb (dk kX4_copyFrom_ok 13 rfl) rfl (lv_at hl 1 rfl) ?_
  refine gf hx hb hts (fun w h => List.mem_cons_of_mem _ (acX4 w h)) hown hK hP hq0 (sSet_oth hS2 hd).1 rfl 2 (by decide) (hts _ (List.mem_cons_of_mem _ (ac4 _ (List.mem_of_getElem? (i := 5) rfl)))) (fun _ h => h) rfl (dk kX4_copyFrom_ok 14 rfl) ?_
  refine lv_iconst (v := nI 0) hx hb (dk kX4_copyFrom_ok 15 rfl) rfl ?_
  refine lv_aload_n hx hb (dk kX4_copyFrom_ok 16 rfl) rfl (lv_at hl 0 rfl) ?_
  refine gf hx hb hts (fun w h => List.mem_cons_of_mem _ (acX4 w h)) hown hK hP hk0 (sSet_at hS0).1 rfl 2 (by decide) (hts _ (List.mem_cons_of_mem _ (ac4 _ (List.mem_of_getElem? (i := 5) rfl)))) (fun _ h => h) rfl (dk kX4_copyFrom_ok 17 rfl) ?_
  refine lv_iconst (v := nI 0) hx hb (dk kX4_copyFrom_ok 18 rfl) rfl ?_
  refine lv_iconst (v := nI 4) hx hb (dk kX4_copyFrom_ok 19 rfl) rfl ?_
  refine cpy (sSet cI ad F k c2 b2 v2 g2 h2 j (nI t) u z) hx hb (by rw [hml, hl.1]) hown (hts _ (List.mem_cons_of_mem _ (ac4 _ (List.mem_of_getElem? (i := 22) rfl)))) (hts _ (List.mem_cons_of_mem _ (ac1 _ (List.mem_of_getElem? (i := 6) rfl)))) (hts _ (List.mem_cons_of_mem _ (ac1 _ (List.mem_of_getElem? (i := 7) rfl)))) (hts _ (List.mem_cons_of_mem _ (ac1 _ (List.mem_of_getElem? (i := 8) rfl)))) hK hDi hP hS hq6 (sSet_oth hS2 hd).2.2.2.1 hk6 (sSet_at hS0).2.2.2.1 (by decide) (Nat.le_of_ble_eq_true rfl) (Nat.le_of_ble_eq_true rfl) (dk kX4_copyFrom_ok 20 rfl) sSet_h (fun H locs hP hS => ?_)
  refine lv_aload_n hx hb (dk kX4_copyFrom_ok 21 rfl) rfl (lv_at hl 1 rfl) ?_
  refine gf hx hb hts (fun w h => List.mem_cons_of_mem _ (acX4 w h)) hown hK hP hq0 (sSet_oth hS2 hd).1 rfl 3 (by decide) (hts _ (List.mem_cons_of_mem _ (ac4 _ (List.mem_of_getElem? (i := 6) rfl)))) (fun _ h => h) rfl (dk kX4_copyFrom_ok 22 rfl) ?_
  refine lv_iconst (v := nI 0) hx hb (dk kX4_copyFrom_ok 23 rfl) rfl ?_
  refine lv_aload_n hx hb (dk kX4_copyFrom_ok 24 rfl) rfl (lv_at hl 0 rfl) ?_
  refine gf hx hb hts (fun w h => List.mem_cons_of_mem _ (acX4 w h)) hown hK hP hk0 (sSet_at hS0).1 rfl 3 (by decide) (hts _ (List.mem_cons_of_mem _ (ac4 _ (List.mem_of_getElem? (i := 6) rfl)))) (fun _ h => h) rfl (dk kX4_copyFrom_ok 25 rfl) ?_
  refine lv_iconst (v := nI 0) hx hb (dk kX4_copyFrom_ok 26 rfl) rfl ?_
  refine lv_iconst (v := nI 4) hx hb (dk kX4_copyFrom_ok 27 rfl) rfl ?_
  refine cpy (sSet cI ad F k c2 b2 v2 g2 h2 j2 (nI t) u z) hx hb (by rw [hml, hl.1]) hown (hts _ (List.mem_cons_of_mem _ (ac4 _ (List.mem_of_getElem? (i := 22) rfl)))) (hts _ (List.mem_cons_of_mem _ (ac1 _ (List.mem_of_getElem? (i := 6) rfl)))) (hts _ (List.mem_cons_of_mem _ (ac1 _ (List.mem_of_getElem? (i := 7) rfl)))) (hts _ (List.mem_cons_of_mem _ (ac1 _ (List.mem_of_getElem? (i := 8) rfl)))) hK hDi hP hS hq7 (sSet_oth hS2 hd).2.2.2.2 hk7 (sSet_at hS0).2.2.2.2 (by decide) (Nat.le_of_ble_eq_true rfl) (Nat.le_of_ble_eq_true rfl) (dk kX4_copyFrom_ok 28 rfl) sSet_j (fun H locs hP hS => ?_)
  refine lv_aload_n hx hb (dk kX4_copyFrom_ok 29 rfl) rfl (lv_at hl 0 rfl) ?_
  refine lv_aload_n hx hb (dk kX4_copyFrom_ok 30 rfl) rfl (lv_at hl 1 rfl) ?_
  refine gf hx hb hts (fun w h => List.mem_cons_of_mem _ (acX4 w h)) hown hK hP hq0 (sSet_oth hS2 hd).1 rfl 4 (by decide) (hts _ (List.mem_cons_of_mem _ (ac4 _ (List.mem_of_getElem? (i := 7) rfl)))) (fun _ h => h) rfl (dk kX4_copyFrom_ok 31 rfl) ?_
  refine pf (sSet cI ad F k c2 b2 v2 g2 h2 j2 (nI t2) u z) hx hb hts (fun w h => List.mem_cons_of_mem _ (acX4 w h)) tyX4 tyX4_ok nmX4 hown hK hDi hP hS hk0 (sSet_at hS0).1 rfl 4 (by decide) (hts _ (List.mem_cons_of_mem _ (ac4 _ (List.mem_of_getElem? (i := 7) rfl)))) (fun _ h => h) rfl (ty := .int) rfl rfl rfl (Nat.le_of_ble_eq_true rfl) (dk kX4_copyFrom_ok 32 rfl) sSet_0 (fun H locs hP hS => ?_)
  refine lv_aload_n hx hb (dk kX4_copyFrom_ok 33 rfl) rfl (lv_at hl 0 rfl) ?_
  refine lv_aload_n hx hb (dk kX4_copyFrom_ok 34 rfl) rfl (lv_at hl 1 rfl) ?_
  refine gf hx hb hts (fun w h => List.mem_cons_of_mem _ (acX4 w h)) hown hK hP hq0 (sSet_oth hS2 hd).1 rfl 5 (by decide) (hts _ (List.mem_cons_of_mem _ (ac4 _ (List.mem_of_getElem? (i := 8) rfl)))) (fun _ h => h) rfl (dk kX4_copyFrom_ok 35 rfl) ?_
  refine pf (sSet cI ad F k c2 b2 v2 g2 h2 j2 (nI t2) u2 z) hx hb hts (fun w h => List.mem_cons_of_mem _ (acX4 w h)) tyX4 tyX4_ok nmX4 hown hK hDi hP hS hk0 (sSet_at hS0).1 rfl 5 (by decide) (hts _ (List.mem_cons_of_mem _ (ac4 _ (List.mem_of_getElem? (i := 8) rfl)))) (fun _ h => h) rfl (ty := .int) rfl rfl rfl (Nat.le_of_ble_eq_true rfl) (dk kX4_copyFrom_ok 36 rfl) sSet_0 (fun H locs hP hS => ?_)
  refine lv_aload_n hx hb (dk kX4_copyFrom_ok 37 rfl) rfl (lv_at hl 0 rfl) ?_
  refine lv_aload_n hx hb (dk kX4_copyFrom_ok 38 rfl) rfl (lv_at hl 1 rfl) ?_
  refine gf hx hb hts (fun w h => List.mem_cons_of_mem _ (acX4 w h)) hown hK hP hq0 (sSet_oth hS2 hd).1 rfl 6 (by decide) (hts _ (List.mem_cons_of_mem _ (ac4 _ (List.mem_of_getElem? (i := 9) rfl)))) (fun _ h => h) rfl (dk kX4_copyFrom_ok 39 rfl) ?_
  refine pf (sSet cI ad F k c2 b2 v2 g2 h2 j2 (nI t2) u2 z2) hx hb hts (fun w h => List.mem_cons_of_mem _ (acX4 w h)) tyX4 tyX4_ok nmX4 hown hK hDi hP hS hk0 (sSet_at hS0).1 rfl 6 (by decide) (hts _ (List.mem_cons_of_mem _ (ac4 _ (List.mem_of_getElem? (i := 9) rfl)))) (fun _ h => h) rfl (ty := .int) rfl rfl rfl (Nat.le_of_ble_eq_true rfl) (dk kX4_copyFrom_ok 40 rfl) sSet_0 (fun H locs hP hS => ?_)
  exact hret _ _ _ _ _ _ _ (by exact ⟨rfl, rfl⟩) hP hS (by decide) (by decide) (dk kX4_copyFrom_ok 41 rfl)
set_option maxRecDepth 100000 in
set_option maxHeartbeats 4000000 in
theorem tX0_between (l : Launch) (x a b : Int32) : MP l yX0_between (Cond.code yX0_between cX0_between 3 (some .boolean) :: AW) ({ frames := 0, cells := 0, slots := 0, locals := 0 } : Room) [.int x, .int a, .int b] (.int (bI (btw x a b))) := by
  refine mp_i (ty := .boolean) (by decide +kernel) rfl rfl rfl (bI_nar _) (Nat.le_of_ble_eq_true rfl) (fun p e s m below meth cd Q ls hx hb hml hown hts hret hl => ?_)
  have hown : s.vm.findClass RX0 = some m.cls := hown
  have hl : lv_has ls 3 [(0, .int x), (1, .int a), (2, .int b)] := hl
  refine lv_iload_n hx hb (dk kX0_between_ok 0 rfl) rfl (lv_at hl 0 rfl) ?_
  refine lv_iload_n hx hb (dk kX0_between_ok 1 rfl) rfl (lv_at hl 1 rfl) ?_
  refine lv_icmp_lt (tgt := 14) hx hb (dk kX0_between_ok 2 rfl) (by decide) (fun h1 => ?_) (fun h1 => ?_)
  · skip
    refine lv_iconst (v := nI 0) hx hb (dk kX0_between_ok 8 rfl) rfl ?_
    exact hret _ _ _ (by simp only [btw, (eq_true h1), decide_true, decide_false, not_true_eq_false, not_false_eq_true, and_true, true_and, and_false, false_and, or_true, true_or, or_false, false_or, and_self, or_self, if_true, if_false, Bool.false_eq_true, reduceIte, Bool.not_true, Bool.not_false, Bool.and_true, Bool.true_and, Bool.and_false, Bool.false_and]; rfl) (dk kX0_between_ok 9 rfl)
  · skip
    refine lv_iload_n hx hb (dk kX0_between_ok 3 rfl) rfl (lv_at hl 0 rfl) ?_
    refine lv_iload_n hx hb (dk kX0_between_ok 4 rfl) rfl (lv_at hl 2 rfl) ?_
    refine lv_icmp_gt (tgt := 14) hx hb (dk kX0_between_ok 5 rfl) (by decide) (fun h2 => ?_) (fun h2 => ?_)
    · skip
      refine lv_iconst (v := nI 0) hx hb (dk kX0_between_ok 8 rfl) rfl ?_
      exact hret _ _ _ (by simp only [btw, (eq_false h1), (eq_true h2), decide_true, decide_false, not_true_eq_false, not_false_eq_true, and_true, true_and, and_false, false_and, or_true, true_or, or_false, false_or, and_self, or_self, if_true, if_false, Bool.false_eq_true, reduceIte, Bool.not_true, Bool.not_false, Bool.and_true, Bool.true_and, Bool.and_false, Bool.false_and]; rfl) (dk kX0_between_ok 9 rfl)
    · skip
      refine lv_iconst (v := nI 1) hx hb (dk kX0_between_ok 6 rfl) rfl ?_
      refine lv_goto (tgt := 15) hx hb (dk kX0_between_ok 7 rfl) (by decide) ?_
      exact hret _ _ _ (by simp only [btw, (eq_false h1), (eq_false h2), decide_true, decide_false, not_true_eq_false, not_false_eq_true, and_true, true_and, and_false, false_and, or_true, true_or, or_false, false_or, and_self, or_self, if_true, if_false, Bool.false_eq_true, reduceIte, Bool.not_true, Bool.not_false, Bool.and_true, Bool.true_and, Bool.and_false, Bool.false_and]; rfl) (dk kX0_between_ok 9 rfl)
set_option maxRecDepth 100000 in
set_option maxHeartbeats 4000000 in
theorem tX0_stateBehind (l : Launch) (s9 x : Int32) : MP l yX0_stateBehind (Cond.code yX0_stateBehind cX0_stateBehind 2 (some .int) :: AW) ({ frames := 1, cells := 0, slots := 0, locals := 22 } : Room) [.int s9, .int x] (.int (stb s9 x)) := by
  refine mp_i (ty := .int) (by decide +kernel) rfl rfl rfl rfl (Nat.le_of_ble_eq_true rfl) (fun p e s m below meth cd Q ls hx hb hml hown hts hret hl => ?_)
  have hown : s.vm.findClass RX0 = some m.cls := hown
  have hl : lv_has ls 2 [(0, .int s9), (1, .int x)] := hl
  refine lv_iload_n hx hb (dk kX0_stateBehind_0_ok 0 rfl) rfl (lv_at hl 0 rfl) ?_
  rcases Classical.em (s9 = nI 0) with hs1 | hs1
  · skip
    refine sw_in (off := 51) (tgt := 52) 0 hx hb (dk kX0_stateBehind_0_ok 1 rfl) hs1 rfl rfl rfl (by decide) ?_
    refine lv_iload_n hx hb (dk kX0_stateBehind_0_ok 2 rfl) rfl (lv_at hl 1 rfl) ?_
    refine lv_bipush (v := nI 102) hx hb (dk kX0_stateBehind_0_ok 3 rfl) rfl ?_
    refine lv_icmp_ne (tgt := 62) hx hb (dk kX0_stateBehind_0_ok 4 rfl) (by decide) (fun h2 => ?_) (fun h2 => ?_)
    · skip
      refine lv_iload_n hx hb (dk kX0_stateBehind_0_ok 7 rfl) rfl (lv_at hl 1 rfl) ?_
      refine lv_bipush (v := nI 108) hx hb (dk kX0_stateBehind_0_ok 8 rfl) rfl ?_
      refine lv_icmp_ne (tgt := 72) hx hb (dk kX0_stateBehind_0_ok 9 rfl) (by decide) (fun h3 => ?_) (fun h3 => ?_)
      · skip
        refine lv_iconst (v := -1) hx hb (dk kX0_stateBehind_0_ok 12 rfl) rfl ?_
        exact hret _ _ _ (by simp only [stb, (eq_true hs1), (eq_false h2), (eq_false h3), not_true_eq_false, not_false_eq_true, and_true, true_and, and_false, false_and, or_true, true_or, or_false, false_or, and_self, or_self, if_true, if_false, Bool.false_eq_true, reduceIte]) (dk kX0_stateBehind_0_ok 13 rfl)
      · skip
        refine lv_iconst (v := nI 4) hx hb (dk kX0_stateBehind_0_ok 10 rfl) rfl ?_
        refine lv_goto (tgt := 73) hx hb (dk kX0_stateBehind_0_ok 11 rfl) (by decide) ?_
        exact hret _ _ _ (by simp only [stb, (eq_true hs1), (eq_false h2), (eq_true h3), not_true_eq_false, not_false_eq_true, and_true, true_and, and_false, false_and, or_true, true_or, or_false, false_or, and_self, or_self, if_true, if_false, Bool.false_eq_true, reduceIte]) (dk kX0_stateBehind_0_ok 13 rfl)
    · skip
      refine lv_iconst (v := nI 1) hx hb (dk kX0_stateBehind_0_ok 5 rfl) rfl ?_
      refine lv_goto (tgt := 73) hx hb (dk kX0_stateBehind_0_ok 6 rfl) (by decide) ?_
      exact hret _ _ _ (by simp only [stb, (eq_true hs1), (eq_true h2), not_true_eq_false, not_false_eq_true, and_true, true_and, and_false, false_and, or_true, true_or, or_false, false_or, and_self, or_self, if_true, if_false, Bool.false_eq_true, reduceIte]) (dk kX0_stateBehind_0_ok 13 rfl)
  rcases Classical.em (s9 = nI 1) with hs4 | hs4
  · skip
    refine sw_in (off := 73) (tgt := 74) 1 hx hb (dk kX0_stateBehind_0_ok 1 rfl) hs4 rfl rfl rfl (by decide) ?_
    refine lv_iload_n hx hb (dk kX0_stateBehind_0_ok 14 rfl) rfl (lv_at hl 1 rfl) ?_
    refine lv_bipush (v := nI 48) hx hb (dk kX0_stateBehind_0_ok 15 rfl) rfl ?_
    refine lv_bipush (v := nI 51) hx hb (dk kX0_stateBehind_0_ok 16 rfl) rfl ?_
    refine csP (As := [.int x, .int (nI 48), .int (nI 51)]) (rest := []) ⟨hx, hb, hml, hown, hts⟩ (tX0_between l x (nI 48) (nI 51)) (cwS9 3 hts mcX0_between (ac0 _ (List.mem_of_getElem? (i := 6) rfl)) msX0_between mini_RX0 rfl rfl hdX0_between ⟨Nat.le_of_ble_eq_true rfl, Nat.le_of_ble_eq_true rfl⟩) rfl hl.1 rfl (Nat.le_of_ble_eq_true rfl) (by decide) (dk kX0_stateBehind_0_ok 17 rfl) ?_
    refine b_if_eq (tgt := 89) hx hb (dk kX0_stateBehind_0_ok 18 rfl) (by decide) (fun h5 => ?_) (fun h5 => ?_)
    · skip
      refine lv_iconst (v := -1) hx hb (dk kX0_stateBehind_0_ok 21 rfl) rfl ?_
      exact hret _ _ _ (by simp only [stb, (eq_false hs1), (eq_true hs4), h5, not_true_eq_false, not_false_eq_true, and_true, true_and, and_false, false_and, or_true, true_or, or_false, false_or, and_self, or_self, if_true, if_false, Bool.false_eq_true, reduceIte]) (dk kX0_stateBehind_0_ok 22 rfl)
    · skip
      refine lv_iconst (v := nI 2) hx hb (dk kX0_stateBehind_0_ok 19 rfl) rfl ?_
      refine lv_goto (tgt := 90) hx hb (dk kX0_stateBehind_0_ok 20 rfl) (by decide) ?_
      exact hret _ _ _ (by simp only [stb, (eq_false hs1), (eq_true hs4), h5, not_true_eq_false, not_false_eq_true, and_true, true_and, and_false, false_and, or_true, true_or, or_false, false_or, and_self, or_self, if_true, if_false, Bool.false_eq_true, reduceIte]) (dk kX0_stateBehind_0_ok 22 rfl)
  rcases Classical.em (s9 = nI 2) with hs6 | hs6
  · skip
    refine sw_in (off := 90) (tgt := 91) 2 hx hb (dk kX0_stateBehind_0_ok 1 rfl) hs6 rfl rfl rfl (by decide) ?_
    refine lv_iload_n hx hb (dk kX0_stateBehind_0_ok 23 rfl) rfl (lv_at hl 1 rfl) ?_
    refine lv_bipush (v := nI 48) hx hb (dk kX0_stateBehind_0_ok 24 rfl) rfl ?_
    refine lv_bipush (v := nI 55) hx hb (dk kX0_stateBehind_0_ok 25 rfl) rfl ?_
    refine csP (As := [.int x, .int (nI 48), .int (nI 55)]) (rest := []) ⟨hx, hb, hml, hown, hts⟩ (tX0_between l x (nI 48) (nI 55)) (cwS9 3 hts mcX0_between (ac0 _ (List.mem_of_getElem? (i := 6) rfl)) msX0_between mini_RX0 rfl rfl hdX0_between ⟨Nat.le_of_ble_eq_true rfl, Nat.le_of_ble_eq_true rfl⟩) rfl hl.1 rfl (Nat.le_of_ble_eq_true rfl) (by decide) (dk kX0_stateBehind_0_ok 26 rfl) ?_
    refine b_if_eq (tgt := 106) hx hb (dk kX0_stateBehind_0_ok 27 rfl) (by decide) (fun h7 => ?_) (fun h7 => ?_)
    · skip
      refine lv_iconst (v := -1) hx hb (dk kX0_stateBehind_0_ok 30 rfl) rfl ?_
      exact hret _ _ _ (by simp only [stb, (eq_false hs1), (eq_false hs4), (eq_true hs6), h7, not_true_eq_false, not_false_eq_true, and_true, true_and, and_false, false_and, or_true, true_or, or_false, false_or, and_self, or_self, if_true, if_false, Bool.false_eq_true, reduceIte]) (dk kX0_stateBehind_0_ok 31 rfl)
    · skip
      refine lv_iconst (v := nI 3) hx hb (dk kX0_stateBehind_0_ok 28 rfl) rfl ?_
      refine lv_goto (tgt := 107) hx hb (dk kX0_stateBehind_0_ok 29 rfl) (by decide) ?_
      exact hret _ _ _ (by simp only [stb, (eq_false hs1), (eq_false hs4), (eq_true hs6), h7, not_true_eq_false, not_false_eq_true, and_true, true_and, and_false, false_and, or_true, true_or, or_false, false_or, and_self, or_self, if_true, if_false, Bool.false_eq_true, reduceIte]) (dk kX0_stateBehind_0_ok 31 rfl)
  rcases Classical.em (s9 = nI 3) with hs8 | hs8
  · skip
    refine sw_in (off := 107) (tgt := 108) 3 hx hb (dk kX0_stateBehind_0_ok 1 rfl) hs8 rfl rfl rfl (by decide) ?_
    refine lv_iload_n hx hb (dk kX0_stateBehind_0_ok 32 rfl) rfl (lv_at hl 1 rfl) ?_
    refine lv_bipush (v := nI 49) hx hb (dk kX0_stateBehind_0_ok 33 rfl) rfl ?_
    refine lv_bipush (v := nI 57) hx hb (dk kX0_stateBehind_0_ok 34 rfl) rfl ?_
    refine csP (As := [.int x, .int (nI 49), .int (nI 57)]) (rest := []) ⟨hx, hb, hml, hown, hts⟩ (tX0_between l x (nI 49) (nI 57)) (cwS9 3 hts mcX0_between (ac0 _ (List.mem_of_getElem? (i := 6) rfl)) msX0_between mini_RX0 rfl rfl hdX0_between ⟨Nat.le_of_ble_eq_true rfl, Nat.le_of_ble_eq_true rfl⟩) rfl hl.1 rfl (Nat.le_of_ble_eq_true rfl) (by decide) (dk kX0_stateBehind_0_ok 35 rfl) ?_
    refine b_if_eq (tgt := 124) hx hb (dk kX0_stateBehind_0_ok 36 rfl) (by decide) (fun h9 => ?_) (fun h9 => ?_)
    · skip
      refine lv_iconst (v := -1) hx hb (dk kX0_stateBehind_0_ok 39 rfl) rfl ?_
      exact hret _ _ _ (by simp only [stb, (eq_false hs1), (eq_false hs4), (eq_false hs6), (eq_true hs8), h9, not_true_eq_false, not_false_eq_true, and_true, true_and, and_false, false_and, or_true, true_or, or_false, false_or, and_self, or_self, if_true, if_false, Bool.false_eq_true, reduceIte]) (dk kX0_stateBehind_0_ok 40 rfl)
    · skip
      refine lv_bipush (v := nI 8) hx hb (dk kX0_stateBehind_0_ok 37 rfl) rfl ?_
      refine lv_goto (tgt := 125) hx hb (dk kX0_stateBehind_0_ok 38 rfl) (by decide) ?_
      exact hret _ _ _ (by simp only [stb, (eq_false hs1), (eq_false hs4), (eq_false hs6), (eq_true hs8), h9, not_true_eq_false, not_false_eq_true, and_true, true_and, and_false, false_and, or_true, true_or, or_false, false_or, and_self, or_self, if_true, if_false, Bool.false_eq_true, reduceIte]) (dk kX0_stateBehind_0_ok 40 rfl)
  rcases Classical.em (s9 = nI 4) with hs10 | hs10
  · skip
    refine sw_in (off := 125) (tgt := 126) 4 hx hb (dk kX0_stateBehind_0_ok 1 rfl) hs10 rfl rfl rfl (by decide) ?_
    refine lv_iload_n hx hb (dk kX0_stateBehind_0_ok 41 rfl) rfl (lv_at hl 1 rfl) ?_
    refine lv_bipush (v := nI 97) hx hb (dk kX0_stateBehind_0_ok 42 rfl) rfl ?_
    refine lv_bipush (v := nI 109) hx hb (dk kX0_stateBehind_0_ok 43 rfl) rfl ?_
    refine csP (As := [.int x, .int (nI 97), .int (nI 109)]) (rest := []) ⟨hx, hb, hml, hown, hts⟩ (tX0_between l x (nI 97) (nI 109)) (cwS9 3 hts mcX0_between (ac0 _ (List.mem_of_getElem? (i := 6) rfl)) msX0_between mini_RX0 rfl rfl hdX0_between ⟨Nat.le_of_ble_eq_true rfl, Nat.le_of_ble_eq_true rfl⟩) rfl hl.1 rfl (Nat.le_of_ble_eq_true rfl) (by decide) (dk kX0_stateBehind_0_ok 44 rfl) ?_
    refine b_if_eq (tgt := 141) hx hb (dk kX0_stateBehind_0_ok 45 rfl) (by decide) (fun h11 => ?_) (fun h11 => ?_)
    · skip
      refine lv_iconst (v := -1) hx hb (dk kX0_stateBehind_0_ok 48 rfl) rfl ?_
      exact hret _ _ _ (by simp only [stb, (eq_false hs1), (eq_false hs4), (eq_false hs6), (eq_false hs8), (eq_true hs10), h11, not_true_eq_false, not_false_eq_true, and_true, true_and, and_false, false_and, or_true, true_or, or_false, false_or, and_self, or_self, if_true, if_false, Bool.false_eq_true, reduceIte]) (dk kX0_stateBehind_0_ok 49 rfl)
    · skip
      refine lv_iconst (v := nI 5) hx hb (dk kX0_stateBehind_0_ok 46 rfl) rfl ?_
      refine lv_goto (tgt := 142) hx hb (dk kX0_stateBehind_0_ok 47 rfl) (by decide) ?_
      exact hret _ _ _ (by simp only [stb, (eq_false hs1), (eq_false hs4), (eq_false hs6), (eq_false hs8), (eq_true hs10), h11, not_true_eq_false, not_false_eq_true, and_true, true_and, and_false, false_and, or_true, true_or, or_false, false_or, and_self, or_self, if_true, if_false, Bool.false_eq_true, reduceIte]) (dk kX0_stateBehind_0_ok 49 rfl)
  rcases Classical.em (s9 = nI 5) with hs12 | hs12
  · skip
    refine sw_in (off := 142) (tgt := 143) 5 hx hb (dk kX0_stateBehind_0_ok 1 rfl) hs12 rfl rfl rfl (by decide) ?_
    refine lv_iload_n hx hb (dk kX0_stateBehind_0_ok 50 rfl) rfl (lv_at hl 1 rfl) ?_
    refine lv_bipush (v := nI 97) hx hb (dk kX0_stateBehind_0_ok 51 rfl) rfl ?_
    refine lv_bipush (v := nI 109) hx hb (dk kX0_stateBehind_0_ok 52 rfl) rfl ?_
    refine csP (As := [.int x, .int (nI 97), .int (nI 109)]) (rest := []) ⟨hx, hb, hml, hown, hts⟩ (tX0_between l x (nI 97) (nI 109)) (cwS9 3 hts mcX0_between (ac0 _ (List.mem_of_getElem? (i := 6) rfl)) msX0_between mini_RX0 rfl rfl hdX0_between ⟨Nat.le_of_ble_eq_true rfl, Nat.le_of_ble_eq_true rfl⟩) rfl hl.1 rfl (Nat.le_of_ble_eq_true rfl) (by decide) (dk kX0_stateBehind_0_ok 53 rfl) ?_
    refine b_if_eq (tgt := 159) hx hb (dk kX0_stateBehind_0_ok 54 rfl) (by decide) (fun h13 => ?_) (fun h13 => ?_)
    · skip
      refine lv_iconst (v := -1) hx hb (dk kX0_stateBehind_0_ok 57 rfl) rfl ?_
      exact hret _ _ _ (by simp only [stb, (eq_false hs1), (eq_false hs4), (eq_false hs6), (eq_false hs8), (eq_false hs10), (eq_true hs12), h13, not_true_eq_false, not_false_eq_true, and_true, true_and, and_false, false_and, or_true, true_or, or_false, false_or, and_self, or_self, if_true, if_false, Bool.false_eq_true, reduceIte]) (dk kX0_stateBehind_0_ok 58 rfl)
    · skip
      refine lv_bipush (v := nI 6) hx hb (dk kX0_stateBehind_0_ok 55 rfl) rfl ?_
      refine lv_goto (tgt := 160) hx hb (dk kX0_stateBehind_0_ok 56 rfl) (by decide) ?_
      exact hret _ _ _ (by simp only [stb, (eq_false hs1), (eq_false hs4), (eq_false hs6), (eq_false hs8), (eq_false hs10), (eq_true hs12), h13, not_true_eq_false, not_false_eq_true, and_true, true_and, and_false, false_and, or_true, true_or, or_false, false_or, and_self, or_self, if_true, if_false, Bool.false_eq_true, reduceIte]) (dk kX0_stateBehind_0_ok 58 rfl)
  rcases Classical.em (s9 = nI 6) with hs14 | hs14
  · skip
    refine sw_in (off := 160) (tgt := 161) 6 hx hb (dk kX0_stateBehind_0_ok 1 rfl) hs14 rfl rfl rfl (by decide) ?_
    refine lv_iload_n hx hb (dk kX0_stateBehind_0_ok 59 rfl) rfl (lv_at hl 1 rfl) ?_
    refine lv_bipush (v := nI 49) hx hb (dk kX0_stateBehind_1_ok 0 rfl) rfl ?_
    refine lv_bipush (v := nI 54) hx hb (dk kX0_stateBehind_1_ok 1 rfl) rfl ?_
    refine csP (As := [.int x, .int (nI 49), .int (nI 54)]) (rest := []) ⟨hx, hb, hml, hown, hts⟩ (tX0_between l x (nI 49) (nI 54)) (cwS9 3 hts mcX0_between (ac0 _ (List.mem_of_getElem? (i := 6) rfl)) msX0_between mini_RX0 rfl rfl hdX0_between ⟨Nat.le_of_ble_eq_true rfl, Nat.le_of_ble_eq_true rfl⟩) rfl hl.1 rfl (Nat.le_of_ble_eq_true rfl) (by decide) (dk kX0_stateBehind_1_ok 2 rfl) ?_
    refine b_if_eq (tgt := 177) hx hb (dk kX0_stateBehind_1_ok 3 rfl) (by decide) (fun h15 => ?_) (fun h15 => ?_)
    · skip
      refine lv_iconst (v := -1) hx hb (dk kX0_stateBehind_1_ok 6 rfl) rfl ?_
      exact hret _ _ _ (by simp only [stb, (eq_false hs1), (eq_false hs4), (eq_false hs6), (eq_false hs8), (eq_false hs10), (eq_false hs12), (eq_true hs14), h15, not_true_eq_false, not_false_eq_true, and_true, true_and, and_false, false_and, or_true, true_or, or_false, false_or, and_self, or_self, if_true, if_false, Bool.false_eq_true, reduceIte]) (dk kX0_stateBehind_1_ok 7 rfl)
    · skip
      refine lv_bipush (v := nI 7) hx hb (dk kX0_stateBehind_1_ok 4 rfl) rfl ?_
      refine lv_goto (tgt := 178) hx hb (dk kX0_stateBehind_1_ok 5 rfl) (by decide) ?_
      exact hret _ _ _ (by simp only [stb, (eq_false hs1), (eq_false hs4), (eq_false hs6), (eq_false hs8), (eq_false hs10), (eq_false hs12), (eq_true hs14), h15, not_true_eq_false, not_false_eq_true, and_true, true_and, and_false, false_and, or_true, true_or, or_false, false_or, and_self, or_self, if_true, if_false, Bool.false_eq_true, reduceIte]) (dk kX0_stateBehind_1_ok 7 rfl)
  rcases Classical.em (s9 = nI 7) with hs16 | hs16
  · skip
    refine sw_in (off := 178) (tgt := 179) 7 hx hb (dk kX0_stateBehind_0_ok 1 rfl) hs16 rfl rfl rfl (by decide) ?_
    refine lv_iload_n hx hb (dk kX0_stateBehind_1_ok 8 rfl) rfl (lv_at hl 1 rfl) ?_
    refine lv_bipush (v := nI 48) hx hb (dk kX0_stateBehind_1_ok 9 rfl) rfl ?_
    refine lv_bipush (v := nI 55) hx hb (dk kX0_stateBehind_1_ok 10 rfl) rfl ?_
    refine csP (As := [.int x, .int (nI 48), .int (nI 55)]) (rest := []) ⟨hx, hb, hml, hown, hts⟩ (tX0_between l x (nI 48) (nI 55)) (cwS9 3 hts mcX0_between (ac0 _ (List.mem_of_getElem? (i := 6) rfl)) msX0_between mini_RX0 rfl rfl hdX0_between ⟨Nat.le_of_ble_eq_true rfl, Nat.le_of_ble_eq_true rfl⟩) rfl hl.1 rfl (Nat.le_of_ble_eq_true rfl) (by decide) (dk kX0_stateBehind_1_ok 11 rfl) ?_
    refine b_if_eq (tgt := 195) hx hb (dk kX0_stateBehind_1_ok 12 rfl) (by decide) (fun h17 => ?_) (fun h17 => ?_)
    · skip
      refine lv_iconst (v := -1) hx hb (dk kX0_stateBehind_1_ok 15 rfl) rfl ?_
      exact hret _ _ _ (by simp only [stb, (eq_false hs1), (eq_false hs4), (eq_false hs6), (eq_false hs8), (eq_false hs10), (eq_false hs12), (eq_false hs14), (eq_true hs16), h17, not_true_eq_false, not_false_eq_true, and_true, true_and, and_false, false_and, or_true, true_or, or_false, false_or, and_self, or_self, if_true, if_false, Bool.false_eq_true, reduceIte]) (dk kX0_stateBehind_1_ok 16 rfl)
    · skip
      refine lv_bipush (v := nI 8) hx hb (dk kX0_stateBehind_1_ok 13 rfl) rfl ?_
      refine lv_goto (tgt := 196) hx hb (dk kX0_stateBehind_1_ok 14 rfl) (by decide) ?_
      exact hret _ _ _ (by simp only [stb, (eq_false hs1), (eq_false hs4), (eq_false hs6), (eq_false hs8), (eq_false hs10), (eq_false hs12), (eq_false hs14), (eq_true hs16), h17, not_true_eq_false, not_false_eq_true, and_true, true_and, and_false, false_and, or_true, true_or, or_false, false_or, and_self, or_self, if_true, if_false, Bool.false_eq_true, reduceIte]) (dk kX0_stateBehind_1_ok 16 rfl)
  rcases Classical.em (s9 = nI 8) with hs18 | hs18
  · skip
    refine sw_in (off := 196) (tgt := 197) 8 hx hb (dk kX0_stateBehind_0_ok 1 rfl) hs18 rfl rfl rfl (by decide) ?_
    refine lv_iload_n hx hb (dk kX0_stateBehind_1_ok 17 rfl) rfl (lv_at hl 1 rfl) ?_
    refine lv_bipush (v := nI 59) hx hb (dk kX0_stateBehind_1_ok 18 rfl) rfl ?_
    refine lv_icmp_ne (tgt := 207) hx hb (dk kX0_stateBehind_1_ok 19 rfl) (by decide) (fun h19 => ?_) (fun h19 => ?_)
    · skip
      refine lv_iconst (v := -1) hx hb (dk kX0_stateBehind_1_ok 22 rfl) rfl ?_
      exact hret _ _ _ (by simp only [stb, (eq_false hs1), (eq_false hs4), (eq_false hs6), (eq_false hs8), (eq_false hs10), (eq_false hs12), (eq_false hs14), (eq_false hs16), (eq_true hs18), (eq_false h19), not_true_eq_false, not_false_eq_true, and_true, true_and, and_false, false_and, or_true, true_or, or_false, false_or, and_self, or_self, if_true, if_false, Bool.false_eq_true, reduceIte]) (dk kX0_stateBehind_1_ok 23 rfl)
    · skip
      refine lv_iconst (v := nI 0) hx hb (dk kX0_stateBehind_1_ok 20 rfl) rfl ?_
      refine lv_goto (tgt := 208) hx hb (dk kX0_stateBehind_1_ok 21 rfl) (by decide) ?_
      exact hret _ _ _ (by simp only [stb, (eq_false hs1), (eq_false hs4), (eq_false hs6), (eq_false hs8), (eq_false hs10), (eq_false hs12), (eq_false hs14), (eq_false hs16), (eq_true hs18), (eq_true h19), not_true_eq_false, not_false_eq_true, and_true, true_and, and_false, false_and, or_true, true_or, or_false, false_or, and_self, or_self, if_true, if_false, Bool.false_eq_true, reduceIte]) (dk kX0_stateBehind_1_ok 23 rfl)
  refine lv_tableOut (tgt := 209) hx hb (dk kX0_stateBehind_0_ok 1 rfl) (sw_out 9 (by intro k9 hk9; rcases k9 with _ | _ | _ | _ | _ | _ | _ | _ | _ | _ <;> first | assumption | omega)) (by decide) ?_
  refine lv_iconst (v := -1) hx hb (dk kX0_stateBehind_1_ok 24 rfl) rfl ?_
  exact hret _ _ _ (by simp only [stb, (eq_false hs1), (eq_false hs4), (eq_false hs6), (eq_false hs8), (eq_false hs10), (eq_false hs12), (eq_false hs14), (eq_false hs16), (eq_false hs18), not_true_eq_false, not_false_eq_true, and_true, true_and, and_false, false_and, or_true, true_or, or_false, false_or, and_self, or_self, if_true, if_false, Bool.false_eq_true, reduceIte]) (dk kX0_stateBehind_1_ok 25 rfl)
set_option maxRecDepth 100000 in
set_option maxHeartbeats 4000000 in
theorem tX0_codeAt (l : Launch) (D : va_G) (cI cQ cL : ClassId) (ad : Nat → Nat) (N : Nat) (F : Nat → va_E) (k : Nat) (hk : k + 1 < N) (a : Nat → Int32) (n : Nat) (hn60 : n ≤ 60) (hT : gtAt cI ad F k a n) (x : Int32) (i : Nat) (hxi : x = nI i) (hi : i < 2 ^ 31) : MR l yX0_codeAt (Cond.code yX0_codeAt cX0_codeAt 2 (some .int) :: AW) ({ frames := 0, cells := 0, slots := 0, locals := 0 } : Room) D cI cQ cL ad N F [.ref (ad k), .int x] (.int (cod a n i)) := by
  refine mr_i (ty := .int) (by decide +kernel) rfl rfl rfl rfl (Nat.le_of_ble_eq_true rfl) (fun p e s m below meth cd Q ls hx hb hml hown hts hP hK hNW hret hl => ?_)
  have hown : s.vm.findClass RX0 = some m.cls := hown
  subst hxi
  have hk0 : k < N := by omega
  have hk1 : k + 1 < N := hk
  have hl : lv_has ls 2 [(0, .ref (ad k)), (1, .int (nI i))] := hl
  refine lv_iload_n hx hb (dk kX0_codeAt_ok 0 rfl) rfl (lv_at hl 1 rfl) ?_
  refine n_if_lt (tgt := 21) hx hb (by omega) (dk kX0_codeAt_ok 1 rfl) (by decide) ?_
  refine lv_iload_n hx hb (dk kX0_codeAt_ok 2 rfl) rfl (lv_at hl 1 rfl) ?_
  refine lv_aload_n hx hb (dk kX0_codeAt_ok 3 rfl) rfl (lv_at hl 0 rfl) ?_
  refine gf hx hb hts (fun w h => List.mem_cons_of_mem _ (acX0 w h)) hown hK hP hk0 hT.1 rfl 1 (by decide) (hts _ (List.mem_cons_of_mem _ (ac0 _ (List.mem_of_getElem? (i := 5) rfl)))) (fun _ h => h) rfl (dk kX0_codeAt_ok 4 rfl) ?_
  refine n_icmp_ge (tgt := 21) hx hb (by omega) (by omega) (dk kX0_codeAt_ok 5 rfl) (by decide) (fun h1 => ?_) (fun h1 => ?_)
  · skip
    refine lv_iconst (v := nI 0) hx hb (dk kX0_codeAt_ok 11 rfl) rfl ?_
    exact hret _ _ _ (by first | (rw [cod, if_pos (by omega)]) | (rw [cod, if_neg (by omega)])) (dk kX0_codeAt_ok 12 rfl)
  · skip
    refine lv_aload_n hx hb (dk kX0_codeAt_ok 6 rfl) rfl (lv_at hl 0 rfl) ?_
    refine gf hx hb hts (fun w h => List.mem_cons_of_mem _ (acX0 w h)) hown hK hP hk0 hT.1 rfl 0 (by decide) (hts _ (List.mem_cons_of_mem _ (ac0 _ (List.mem_of_getElem? (i := 4) rfl)))) (fun _ h => h) rfl (dk kX0_codeAt_ok 7 rfl) ?_
    refine lv_iload_n hx hb (dk kX0_codeAt_ok 8 rfl) rfl (lv_at hl 1 rfl) ?_
    refine ald (j := i) hx hb hK hP hk1 hT.2 rfl (by omega) (by decide) (dk kX0_codeAt_ok 9 rfl) ?_
    refine lv_goto (tgt := 22) hx hb (dk kX0_codeAt_ok 10 rfl) (by decide) ?_
    exact hret _ _ _ (by first | (rw [cod, if_pos (by omega)]) | (rw [cod, if_neg (by omega)])) (dk kX0_codeAt_ok 12 rfl)
set_option maxRecDepth 100000 in
set_option maxHeartbeats 4000000 in
theorem tX0_errorIndex (l : Launch) (D : va_G) (cI cQ cL : ClassId) (ad : Nat → Nat) (N : Nat) (F : Nat → va_E) (k : Nat) (hk : k + 1 < N) (a : Nat → Int32) (n : Nat) (hn60 : n ≤ 60) (hT : gtAt cI ad F k a n) : MR l yX0_errorIndex (Cond.code yX0_errorIndex cX0_errorIndex 3 (some .int) :: AW) ({ frames := 2, cells := 0, slots := 0, locals := 43 } : Room) D cI cQ cL ad N F [.ref (ad k)] (.int (nI (eri a n 0 (nI 0)))) := by
  refine mr_i (ty := .int) (by decide +kernel) rfl rfl rfl rfl (Nat.le_of_ble_eq_true rfl) (fun p e s m below meth cd Q ls hx hb hml hown hts hP hK hNW hret hl => ?_)
  have hown : s.vm.findClass RX0 = some m.cls := hown
  have hk0 : k < N := by omega
  have hk1 : k + 1 < N := hk
  have hl : lv_has ls 3 [(0, .ref (ad k))] := hl
  refine lv_iconst (v := nI 0) hx hb (dk kX0_errorIndex_ok 0 rfl) rfl ?_
  refine lv_istore_n (lv' := [(1, .int (nI 0)), (0, .ref (ad k))]) hx hb (dk kX0_errorIndex_ok 1 rfl) rfl hl (by decide) rfl (fun ls hl => ?_)
  refine lv_iconst (v := nI 0) hx hb (dk kX0_errorIndex_ok 2 rfl) rfl ?_
  refine lv_istore_n (lv' := [(2, .int (nI 0)), (1, .int (nI 0)), (0, .ref (ad k))]) hx hb (dk kX0_errorIndex_ok 3 rfl) rfl hl (by decide) rfl (fun ls hl => ?_)
  have L4 : ∀ (fu : Nat) (i : Nat) (x : Int32), i ≤ n → eri a n 0 (nI 0) = eri a (n - i) i x → n - i < fu → ∀ ls : Array Slot, lv_has ls 3 [(0, .ref (ad k)), (1, .int x), (2, .int (nI i))] → W p l e ({ frames := 2, cells := 0, slots := 0, locals := 43 } : Room) s m ([.ref (ad k)] : List Value).toArray below meth cd s.heap [] 0 0 Q (F0 m 4 ls []) := by
    intro fu
    induction fu with
    | zero => intros; omega
    | succ fu ih4 =>
      intro i x hi hr hm4 ls hl
      refine lv_iload_n hx hb (dk kX0_errorIndex_ok 4 rfl) rfl (lv_at hl 2 rfl) ?_
      refine lv_aload_n hx hb (dk kX0_errorIndex_ok 5 rfl) rfl (lv_at hl 0 rfl) ?_
      refine gf hx hb hts (fun w h => List.mem_cons_of_mem _ (acX0 w h)) hown hK hP hk0 hT.1 rfl 1 (by decide) (hts _ (List.mem_cons_of_mem _ (ac0 _ (List.mem_of_getElem? (i := 5) rfl)))) (fun _ h => h) rfl (dk kX0_errorIndex_ok 6 rfl) ?_
      refine n_icmp_ge (tgt := 35) hx hb (by omega) (by omega) (dk kX0_errorIndex_ok 7 rfl) (by decide) (fun h1 => ?_) (fun h1 => ?_)
      · skip
        refine lv_aload_n hx hb (dk kX0_errorIndex_ok 21 rfl) rfl (lv_at hl 0 rfl) ?_
        refine gf hx hb hts (fun w h => List.mem_cons_of_mem _ (acX0 w h)) hown hK hP hk0 hT.1 rfl 1 (by decide) (hts _ (List.mem_cons_of_mem _ (ac0 _ (List.mem_of_getElem? (i := 5) rfl)))) (fun _ h => h) rfl (dk kX0_errorIndex_ok 22 rfl) ?_
        exact hret _ _ _ (by first | (rw [hr, show n - i = (n - (i + 1)) + 1 by omega]; simp only [eri]; rw [if_pos (by rw [show cod a n i = a i from if_pos (by omega)] at h2; exact h2)]) | (rw [hr, show n - i = 0 by omega]; simp only [eri]; rw [show n = i by omega])) (dk kX0_errorIndex_ok 23 rfl)
      · skip
        refine lv_iload_n hx hb (dk kX0_errorIndex_ok 8 rfl) rfl (lv_at hl 1 rfl) ?_
        refine lv_aload_n hx hb (dk kX0_errorIndex_ok 9 rfl) rfl (lv_at hl 0 rfl) ?_
        refine lv_iload_n hx hb (dk kX0_errorIndex_ok 10 rfl) rfl (lv_at hl 2 rfl) ?_
        refine cvR (As := [.int (nI i)]) (rest := [.int x]) ⟨hx, hb, hml, hown, hts⟩ (tX0_codeAt l D cI cQ cL ad N F k hk a n hn60 hT (nI i) i rfl (by omega)) (cwV9 1 hts mcX0_codeAt (ac0 _ (List.mem_of_getElem? (i := 10) rfl)) miX0_codeAt meX0_codeAt mini_RX0 rfl rfl hdX0_codeAt ⟨Nat.le_of_ble_eq_true rfl, Nat.le_of_ble_eq_true rfl⟩) hK hP hNW hk0 hT.1 rfl rfl hl.1 rfl (Nat.le_of_ble_eq_true rfl) (by decide) (dk kX0_errorIndex_ok 11 rfl) ?_
        refine csP (As := [.int x, .int (cod a n i)]) (rest := []) ⟨hx, hb, hml, hown, hts⟩ (tX0_stateBehind l x (cod a n i)) (cwS9 2 hts mcX0_stateBehind (ac0 _ (List.mem_of_getElem? (i := 14) rfl)) msX0_stateBehind mini_RX0 rfl rfl hdX0_stateBehind ⟨Nat.le_of_ble_eq_true rfl, Nat.le_of_ble_eq_true rfl⟩) rfl hl.1 rfl (Nat.le_of_ble_eq_true rfl) (by decide) (dk kX0_errorIndex_ok 12 rfl) ?_
        refine lv_istore_n (lv' := [(1, .int (stb x (cod a n i))), (0, .ref (ad k)), (2, .int (nI i))]) hx hb (dk kX0_errorIndex_ok 13 rfl) rfl hl (by decide) rfl (fun ls hl => ?_)
        refine lv_iload_n hx hb (dk kX0_errorIndex_ok 14 rfl) rfl (lv_at hl 0 rfl) ?_
        refine lv_iconst (v := -1) hx hb (dk kX0_errorIndex_ok 15 rfl) rfl ?_
        refine lv_icmp_ne (tgt := 29) hx hb (dk kX0_errorIndex_ok 16 rfl) (by decide) (fun h2 => ?_) (fun h2 => ?_)
        · skip
          refine lv_iinc (v := nI (i + 1)) (lv' := [(2, .int (nI (i + 1))), (1, .int (stb x (cod a n i))), (0, .ref (ad k))]) hx hb (dk kX0_errorIndex_ok 19 rfl) hl (k := 2) rfl (n_inc _) (by decide) rfl (fun ls hl => ?_)
          refine lv_goto (tgt := 4) hx hb (dk kX0_errorIndex_ok 20 rfl) (by decide) ?_
          exact ih4 (i + 1) (stb x (cod a n i)) (by omega) (by rw [hr, show n - i = (n - (i + 1)) + 1 by omega, show cod a n i = a i from if_pos (by omega)]; simp only [eri]; rw [if_neg (by rw [show cod a n i = a i from if_pos (by omega)] at h2; exact h2)]) (by omega) ls (lv_sub hl [2, 1, 0] rfl)
        · skip
          refine lv_iload_n hx hb (dk kX0_errorIndex_ok 17 rfl) rfl (lv_at hl 2 rfl) ?_
          exact hret _ _ _ (by first | (rw [hr, show n - i = (n - (i + 1)) + 1 by omega]; simp only [eri]; rw [if_pos (by rw [show cod a n i = a i from if_pos (by omega)] at h2; exact h2)]) | (rw [hr, show n - i = 0 by omega]; simp only [eri]; rw [show n = i by omega])) (dk kX0_errorIndex_ok 18 rfl)
  exact L4 _ 0 (nI 0) (by first | omega | rfl) (by first | omega | rfl) (Nat.lt_succ_self _) ls (lv_sub hl [2, 1, 0] rfl)
set_option maxRecDepth 100000 in
set_option maxHeartbeats 4000000 in
theorem tX0_isComplete (l : Launch) (D : va_G) (cI cQ cL : ClassId) (ad : Nat → Nat) (N : Nat) (F : Nat → va_E) (k : Nat) (hk : k + 1 < N) (a : Nat → Int32) (n : Nat) (hn60 : n ≤ 60) (hT : gtAt cI ad F k a n) : MR l yX0_isComplete (Cond.code yX0_isComplete cX0_isComplete 3 (some .boolean) :: AW) ({ frames := 2, cells := 0, slots := 0, locals := 43 } : Room) D cI cQ cL ad N F [.ref (ad k)] (.int (bI (decide (sta a n = nI 8)))) := by
  refine mr_i (ty := .boolean) (by decide +kernel) rfl rfl rfl (bI_nar _) (Nat.le_of_ble_eq_true rfl) (fun p e s m below meth cd Q ls hx hb hml hown hts hP hK hNW hret hl => ?_)
  have hown : s.vm.findClass RX0 = some m.cls := hown
  have hk0 : k < N := by omega
  have hk1 : k + 1 < N := hk
  have hl : lv_has ls 3 [(0, .ref (ad k))] := hl
  refine lv_iconst (v := nI 0) hx hb (dk kX0_isComplete_ok 0 rfl) rfl ?_
  refine lv_istore_n (lv' := [(1, .int (nI 0)), (0, .ref (ad k))]) hx hb (dk kX0_isComplete_ok 1 rfl) rfl hl (by decide) rfl (fun ls hl => ?_)
  refine lv_iconst (v := nI 0) hx hb (dk kX0_isComplete_ok 2 rfl) rfl ?_
  refine lv_istore_n (lv' := [(2, .int (nI 0)), (1, .int (nI 0)), (0, .ref (ad k))]) hx hb (dk kX0_isComplete_ok 3 rfl) rfl hl (by decide) rfl (fun ls hl => ?_)
  have L4 : ∀ (fu : Nat) (i : Nat) (x1 : Int32), x1 = sta a i → i ≤ n → n - i < fu → ∀ ls : Array Slot, lv_has ls 3 [(0, .ref (ad k)), (1, .int x1), (2, .int (nI i))] → W p l e ({ frames := 2, cells := 0, slots := 0, locals := 43 } : Room) s m ([.ref (ad k)] : List Value).toArray below meth cd s.heap [] 0 0 Q (F0 m 4 ls []) := by
    intro fu
    induction fu with
    | zero => intros; omega
    | succ fu ih4 =>
      intro i x1 ex1 hi hm4 ls hl
      subst ex1
      refine lv_iload_n hx hb (dk kX0_isComplete_ok 4 rfl) rfl (lv_at hl 2 rfl) ?_
      refine lv_aload_n hx hb (dk kX0_isComplete_ok 5 rfl) rfl (lv_at hl 0 rfl) ?_
      refine gf hx hb hts (fun w h => List.mem_cons_of_mem _ (acX0 w h)) hown hK hP hk0 hT.1 rfl 1 (by decide) (hts _ (List.mem_cons_of_mem _ (ac0 _ (List.mem_of_getElem? (i := 5) rfl)))) (fun _ h => h) rfl (dk kX0_isComplete_ok 6 rfl) ?_
      refine n_icmp_ge (tgt := 28) hx hb (by omega) (by omega) (dk kX0_isComplete_ok 7 rfl) (by decide) (fun h1 => ?_) (fun h1 => ?_)
      · skip
        refine lv_iload_n hx hb (dk kX0_isComplete_ok 16 rfl) rfl (lv_at hl 1 rfl) ?_
        refine lv_bipush (v := nI 8) hx hb (dk kX0_isComplete_ok 17 rfl) rfl ?_
        refine lv_icmp_ne (tgt := 38) hx hb (dk kX0_isComplete_ok 18 rfl) (by decide) (fun h2 => ?_) (fun h2 => ?_)
        · skip
          refine lv_iconst (v := nI 0) hx hb (dk kX0_isComplete_ok 21 rfl) rfl ?_
          exact hret _ _ _ (by rw [← show i = n by omega]; simp only [(eq_true h1), (eq_false (Nat.not_lt.mpr h1)), (eq_false h2), decide_true, decide_false]; rfl) (dk kX0_isComplete_ok 22 rfl)
        · skip
          refine lv_iconst (v := nI 1) hx hb (dk kX0_isComplete_ok 19 rfl) rfl ?_
          refine lv_goto (tgt := 39) hx hb (dk kX0_isComplete_ok 20 rfl) (by decide) ?_
          exact hret _ _ _ (by rw [← show i = n by omega]; simp only [(eq_true h1), (eq_false (Nat.not_lt.mpr h1)), (eq_true h2), decide_true, decide_false]; rfl) (dk kX0_isComplete_ok 22 rfl)
      · skip
        refine lv_iload_n hx hb (dk kX0_isComplete_ok 8 rfl) rfl (lv_at hl 1 rfl) ?_
        refine lv_aload_n hx hb (dk kX0_isComplete_ok 9 rfl) rfl (lv_at hl 0 rfl) ?_
        refine lv_iload_n hx hb (dk kX0_isComplete_ok 10 rfl) rfl (lv_at hl 2 rfl) ?_
        refine cvR (As := [.int (nI i)]) (rest := [.int (sta a i)]) ⟨hx, hb, hml, hown, hts⟩ (tX0_codeAt l D cI cQ cL ad N F k hk a n hn60 hT (nI i) i rfl (by omega)) (cwV9 1 hts mcX0_codeAt (ac0 _ (List.mem_of_getElem? (i := 10) rfl)) miX0_codeAt meX0_codeAt mini_RX0 rfl rfl hdX0_codeAt ⟨Nat.le_of_ble_eq_true rfl, Nat.le_of_ble_eq_true rfl⟩) hK hP hNW hk0 hT.1 rfl rfl hl.1 rfl (Nat.le_of_ble_eq_true rfl) (by decide) (dk kX0_isComplete_ok 11 rfl) ?_
        refine csP (As := [.int (sta a i), .int (cod a n i)]) (rest := []) ⟨hx, hb, hml, hown, hts⟩ (tX0_stateBehind l (sta a i) (cod a n i)) (cwS9 2 hts mcX0_stateBehind (ac0 _ (List.mem_of_getElem? (i := 14) rfl)) msX0_stateBehind mini_RX0 rfl rfl hdX0_stateBehind ⟨Nat.le_of_ble_eq_true rfl, Nat.le_of_ble_eq_true rfl⟩) rfl hl.1 rfl (Nat.le_of_ble_eq_true rfl) (by decide) (dk kX0_isComplete_ok 12 rfl) ?_
        refine lv_istore_n (lv' := [(1, .int (stb (sta a i) (cod a n i))), (0, .ref (ad k)), (2, .int (nI i))]) hx hb (dk kX0_isComplete_ok 13 rfl) rfl hl (by decide) rfl (fun ls hl => ?_)
        refine lv_iinc (v := nI (i + 1)) (lv' := [(2, .int (nI (i + 1))), (1, .int (stb (sta a i) (cod a n i))), (0, .ref (ad k))]) hx hb (dk kX0_isComplete_ok 14 rfl) hl (k := 2) rfl (n_inc _) (by decide) rfl (fun ls hl => ?_)
        refine lv_goto (tgt := 4) hx hb (dk kX0_isComplete_ok 15 rfl) (by decide) ?_
        exact ih4 (i + 1) _ (by rw [show cod a n i = a i from if_pos (by omega)]; rfl) (by omega) (by omega) ls (lv_sub hl [2, 1, 0] rfl)
  exact L4 _ 0 _ (by first | rfl | omega) (by first | rfl | omega) (Nat.lt_succ_self _) ls (lv_sub hl [2, 1, 0] rfl)
set_option maxRecDepth 100000 in
set_option maxHeartbeats 4000000 in
theorem tX0_add (l : Launch) (D : va_G) (cI cQ cL : ClassId) (ad : Nat → Nat) (N : Nat) (F : Nat → va_E) (k : Nat) (hk : k + 1 < N) (a : Nat → Int32) (n : Nat) (hn60 : n ≤ 60) (hT : gtAt cI ad F k a n) (x : Int32) : MX l yX0_add (Cond.code yX0_add cX0_add 2 none :: AW) ({ frames := 0, cells := 0, slots := 0, locals := 0 } : Room) D cI cQ cL ad N F [.ref (ad k), .int x] (dp none (if n < 60 then gtSet cI ad F k (upd a n x) (n + 1) else F)) 0 0 := by
  refine mx_v (by decide +kernel) rfl (Nat.le_of_ble_eq_true rfl) (fun p e s m below meth cd Q ls hx hb hml hown hts hDi hP hK hNW hS hret hl => ?_)
  have hown : s.vm.findClass RX0 = some m.cls := hown
  have hk0 : k < N := by omega
  have hk1 : k + 1 < N := hk
  have hP : va_P D vwCl (iW ad N (gtSet cI ad F k a n)) s.heap := by rw [gtSet_self hT]; exact hP
  have hl : lv_has ls 2 [(0, .ref (ad k)), (1, .int x)] := hl
  refine lv_aload_n hx hb (dk kX0_add_ok 0 rfl) rfl (lv_at hl 0 rfl) ?_
  refine gf hx hb hts (fun w h => List.mem_cons_of_mem _ (acX0 w h)) hown hK hP hk0 gtSet_at.1 rfl 1 (by decide) (hts _ (List.mem_cons_of_mem _ (ac0 _ (List.mem_of_getElem? (i := 5) rfl)))) (fun _ h => h) rfl (dk kX0_add_ok 1 rfl) ?_
  refine lv_bipush (v := nI 60) hx hb (dk kX0_add_ok 2 rfl) rfl ?_
  refine n_icmp_ge (tgt := 29) hx hb (by omega) (by decide) (dk kX0_add_ok 3 rfl) (by decide) (fun h1 => ?_) (fun h1 => ?_)
  · skip
    exact hret _ _ _ _ _ _ _ (by refine ⟨rfl, ?_⟩; first | (rw [if_pos (by omega)]) | (rw [if_neg (by omega), gtSet_self hT])) hP hS (by decide) (by decide) (dk kX0_add_ok 16 rfl)
  · skip
    refine lv_aload_n hx hb (dk kX0_add_ok 4 rfl) rfl (lv_at hl 0 rfl) ?_
    refine gf hx hb hts (fun w h => List.mem_cons_of_mem _ (acX0 w h)) hown hK hP hk0 gtSet_at.1 rfl 0 (by decide) (hts _ (List.mem_cons_of_mem _ (ac0 _ (List.mem_of_getElem? (i := 4) rfl)))) (fun _ h => h) rfl (dk kX0_add_ok 5 rfl) ?_
    refine lv_aload_n hx hb (dk kX0_add_ok 6 rfl) rfl (lv_at hl 0 rfl) ?_
    refine gf hx hb hts (fun w h => List.mem_cons_of_mem _ (acX0 w h)) hown hK hP hk0 gtSet_at.1 rfl 1 (by decide) (hts _ (List.mem_cons_of_mem _ (ac0 _ (List.mem_of_getElem? (i := 5) rfl)))) (fun _ h => h) rfl (dk kX0_add_ok 7 rfl) ?_
    refine lv_iload_n hx hb (dk kX0_add_ok 8 rfl) rfl (lv_at hl 1 rfl) ?_
    refine ast (gtSet cI ad F k (upd a n x) n) (j := n) hx hb hK hDi hP hS hk1 gtSet_at.2 rfl (by omega) (by decide) (dk kX0_add_ok 9 rfl) gtSet_u1 (fun H locs hP hS => ?_)
    refine lv_aload_n hx hb (dk kX0_add_ok 10 rfl) rfl (lv_at hl 0 rfl) ?_
    refine lv_dup hx hb (dk kX0_add_ok 11 rfl) rfl ?_
    refine gf hx hb hts (fun w h => List.mem_cons_of_mem _ (acX0 w h)) hown hK hP hk0 gtSet_at.1 rfl 1 (by decide) (hts _ (List.mem_cons_of_mem _ (ac0 _ (List.mem_of_getElem? (i := 5) rfl)))) (fun _ h => h) rfl (dk kX0_add_ok 12 rfl) ?_
    refine lv_iconst (v := nI 1) hx hb (dk kX0_add_ok 13 rfl) rfl ?_
    refine n_iadd hx hb (dk kX0_add_ok 14 rfl) ?_
    refine pf (gtSet cI ad F k (upd a n x) (n + 1)) hx hb hts (fun w h => List.mem_cons_of_mem _ (acX0 w h)) tyX0 tyX0_ok nmX0 hown hK hDi hP hS hk0 gtSet_at.1 rfl 1 (by decide) (hts _ (List.mem_cons_of_mem _ (ac0 _ (List.mem_of_getElem? (i := 5) rfl)))) (fun _ h => h) rfl (ty := .int) rfl rfl rfl (Nat.le_of_ble_eq_true rfl) (dk kX0_add_ok 15 rfl) gtSet_u0 (fun H locs hP hS => ?_)
    exact hret _ _ _ _ _ _ _ (by refine ⟨rfl, ?_⟩; first | (rw [if_pos (by omega)]) | (rw [if_neg (by omega), gtSet_self hT])) hP hS (by decide) (by decide) (dk kX0_add_ok 16 rfl)
set_option maxRecDepth 100000 in
set_option maxHeartbeats 4000000 in
theorem tJ7_fill_53178 (l : Launch) (D : va_G) (cI cQ cL : ClassId) (ad : Nat → Nat) (N : Nat) (F : Nat → va_E) (k : Nat) (hk : k < N) (g : Nat → Int32) (hA : F k = .inl (cI, 169, .inl g)) (x : Int32) : MX l yJ7_fill_53178 (Cond.code yJ7_fill_53178 cJ7_fill_53178 4 none :: AW) ({ frames := 0, cells := 0, slots := 0, locals := 0 } : Room) D cI cQ cL ad N F [.ref (ad k), .int x] (dp none (va_up F k (.inl (cI, 169, .inl (fun _ => x))))) 0 0 := by
  refine mx_v (by decide +kernel) rfl (Nat.le_of_ble_eq_true rfl) (fun p e s m below meth cd Q ls hx hb hml hown hts hDi hP hK hNW hS hret hl => ?_)
  have hown : s.vm.findClass RJ7 = some m.cls := hown
  have hP : va_P D vwCl (iW ad N (va_up F k (.inl (cI, 169, .inl g)))) s.heap := by rw [va_up_id hA]; exact hP
  have hl : lv_has ls 4 [(0, .ref (ad k)), (1, .int x)] := hl
  refine lv_iconst (v := nI 0) hx hb (dk kJ7_fill_53178_ok 0 rfl) rfl ?_
  refine lv_istore_n (lv' := [(2, .int (nI 0)), (0, .ref (ad k)), (1, .int x)]) hx hb (dk kJ7_fill_53178_ok 1 rfl) rfl hl (by decide) rfl (fun ls hl => ?_)
  refine lv_aload_n hx hb (dk kJ7_fill_53178_ok 2 rfl) rfl (lv_at hl 1 rfl) ?_
  refine alen hx hb hK hP hk (va_up_self _ _ _) (dk kJ7_fill_53178_ok 3 rfl) ?_
  refine lv_istore_n (lv' := [(3, .int (nI 169)), (2, .int (nI 0)), (0, .ref (ad k)), (1, .int x)]) hx hb (dk kJ7_fill_53178_ok 4 rfl) rfl hl (by decide) rfl (fun ls hl => ?_)
  have L5 : ∀ (fu : Nat) (i : Nat) (H : Heap) (locs : List Loc), va_P D vwCl (iW ad N (va_up F k (.inl (cI, 169, .inl (fl9 g i x))))) H → va_S (iA ad N s.heap.size) s.heap H locs → i ≤ 169 → 169 - i < fu → ∀ ls : Array Slot, lv_has ls 4 [(0, .ref (ad k)), (1, .int x), (2, .int (nI i)), (3, .int (nI 169))] → W p l e ({ frames := 0, cells := 0, slots := 0, locals := 0 } : Room) s m ([.ref (ad k), .int x] : List Value).toArray below meth cd H locs 0 0 Q (F0 m 5 ls []) := by
    intro fu
    induction fu with
    | zero => intros; omega
    | succ fu ih5 =>
      intro i H locs hP hS hi hm5 ls hl
      refine lv_iload_n hx hb (dk kJ7_fill_53178_ok 5 rfl) rfl (lv_at hl 2 rfl) ?_
      refine lv_iload_n hx hb (dk kJ7_fill_53178_ok 6 rfl) rfl (lv_at hl 3 rfl) ?_
      refine n_icmp_ge (tgt := 20) hx hb (by omega) (by decide) (dk kJ7_fill_53178_ok 7 rfl) (by decide) (fun h1 => ?_) (fun h1 => ?_)
      · skip
        exact hret _ _ _ _ _ _ _ (by exact ⟨rfl, rfl⟩) (fl9_end (g := g) (by rw [show i = 169 by omega] at hP; exact hP)) hS (by decide) (by decide) (dk kJ7_fill_53178_ok 14 rfl)
      · skip
        refine lv_aload_n hx hb (dk kJ7_fill_53178_ok 8 rfl) rfl (lv_at hl 0 rfl) ?_
        refine lv_iload_n hx hb (dk kJ7_fill_53178_ok 9 rfl) rfl (lv_at hl 2 rfl) ?_
        refine lv_iload_n hx hb (dk kJ7_fill_53178_ok 10 rfl) rfl (lv_at hl 1 rfl) ?_
        refine ast (va_up F k (.inl (cI, 169, .inl (upd (fl9 g i x) i x)))) (j := i) hx hb hK hDi hP hS hk (va_up_self _ _ _) rfl (by omega) (by decide) (dk kJ7_fill_53178_ok 11 rfl) va_up_up (fun H locs hP hS => ?_)
        refine lv_iinc (v := nI (i + 1)) (lv' := [(2, .int (nI (i + 1))), (0, .ref (ad k)), (1, .int x), (3, .int (nI 169))]) hx hb (dk kJ7_fill_53178_ok 12 rfl) hl (k := 2) rfl (n_inc _) (by decide) rfl (fun ls hl => ?_)
        refine lv_goto (tgt := 5) hx hb (dk kJ7_fill_53178_ok 13 rfl) (by decide) ?_
        exact ih5 (i + 1) _ _ (by first | (rw [fl9_0]; exact hP) | (rw [← fl9_s]; exact hP)) hS (by omega) (by omega) ls (lv_sub hl [1, 2, 0, 3] rfl)
  exact L5 _ 0 _ _ (by first | (rw [fl9_0]; exact hP) | (rw [← fl9_s]; exact hP)) hS (by first | omega | rfl) (Nat.lt_succ_self _) ls (lv_sub hl [2, 3, 1, 0] rfl)
set_option maxRecDepth 100000 in
set_option maxHeartbeats 4000000 in
theorem tX3_search (l : Launch) (D : va_G) (cI cQ cL : ClassId) (ad : Nat → Nat) (N : Nat) (F : Nat → va_E) (k : Nat) (hk : k + 3 < N) (a d q : Nat → Int32) (hO : roAt cI ad F k a d q) (x : Int32) (w : Nat) (hxw : x = nI w) (hw : w < 169) (y : Int32) (m9 : Nat) (hym : y = nI m9) (hm9 : m9 ≤ 1) : MX l yX3_search (Cond.code yX3_search cX3_search 8 (some .int) :: AW) ({ frames := 2, cells := 0, slots := 0, locals := 49 } : Room) D cI cQ cL ad N F [.ref (ad k), .int x, .int y] (dp (some (.int (sea q w m9).1)) (roSet cI ad F k a (sea q w m9).2.1 (sea q w m9).2.2)) 0 0 := by
  refine mx_i (ty := .int) (by decide +kernel) rfl (Nat.le_of_ble_eq_true rfl) (fun p e s m below meth cd Q ls hx hb hml hown hts hDi hP hK hNW hS hret hl => ?_)
  have hown : s.vm.findClass RX3 = some m.cls := hown
  subst hxw
  subst hym
  have hk0 : k < N := by omega
  have hk1 : k + 1 < N := by omega
  have hk2 : k + 2 < N := by omega
  have hk3 : k + 3 < N := hk
  have hP : va_P D vwCl (iW ad N (roSet cI ad F k a d q)) s.heap := by rw [roSet_self hO]; exact hP
  have hl : lv_has ls 8 [(0, .ref (ad k)), (1, .int (nI w)), (2, .int (nI m9))] := hl
  refine lv_aload_n hx hb (dk kX3_search_0_ok 0 rfl) rfl (lv_at hl 0 rfl) ?_
  refine gf hx hb hts (fun w h => List.mem_cons_of_mem _ (acX3 w h)) hown hK hP hk0 roSet_at.1 rfl 1 (by decide) (hts _ (List.mem_cons_of_mem _ (ac5 _ (List.mem_of_getElem? (i := 12) rfl)))) (fun _ h => h) rfl (dk kX3_search_0_ok 1 rfl) ?_
  refine lv_iconst (v := -1) hx hb (dk kX3_search_0_ok 2 rfl) rfl ?_
  refine csDv (As := [.ref (ad (k + 2)), .int (-1)]) (rest := []) (roSet cI ad F k a (fun _ => -1) q) ⟨hx, hb, hml, hown, hts⟩ (tJ7_fill_53178 l D cI cQ cL ad N (roSet cI ad F k a d q) (k + 2) hk2 d roSet_at.2.2.1 (-1)) (cwS9 2 hts mcJ7_fill_53178 (ac5 _ (List.mem_of_getElem? (i := 23) rfl)) msJ7_fill_53178 (ac6 _ (List.mem_of_getElem? (i := 1) rfl)) rfl rfl hdJ7_fill_53178 ⟨Nat.le_of_ble_eq_true rfl, Nat.le_of_ble_eq_true rfl⟩) hDi hK hP hNW hS rfl hl.1 rfl (Nat.le_of_ble_eq_true rfl) (by decide) (dk kX3_search_0_ok 3 rfl) roSet_u2 (fun H locs hP hS => ?_)
  refine lv_aload_n hx hb (dk kX3_search_0_ok 4 rfl) rfl (lv_at hl 0 rfl) ?_
  refine gf hx hb hts (fun w h => List.mem_cons_of_mem _ (acX3 w h)) hown hK hP hk0 roSet_at.1 rfl 1 (by decide) (hts _ (List.mem_cons_of_mem _ (ac5 _ (List.mem_of_getElem? (i := 12) rfl)))) (fun _ h => h) rfl (dk kX3_search_0_ok 5 rfl) ?_
  refine lv_iload_n hx hb (dk kX3_search_0_ok 6 rfl) rfl (lv_at hl 1 rfl) ?_
  refine lv_iconst (v := nI 0) hx hb (dk kX3_search_0_ok 7 rfl) rfl ?_
  refine ast (roSet cI ad F k a (upd (fun _ => -1) w (nI 0)) q) (j := w) hx hb hK hDi hP hS hk2 roSet_at.2.2.1 rfl (by omega) (by decide) (dk kX3_search_0_ok 8 rfl) roSet_u2 (fun H locs hP hS => ?_)
  refine lv_aload_n hx hb (dk kX3_search_0_ok 9 rfl) rfl (lv_at hl 0 rfl) ?_
  refine gf hx hb hts (fun w h => List.mem_cons_of_mem _ (acX3 w h)) hown hK hP hk0 roSet_at.1 rfl 2 (by decide) (hts _ (List.mem_cons_of_mem _ (ac5 _ (List.mem_of_getElem? (i := 13) rfl)))) (fun _ h => h) rfl (dk kX3_search_0_ok 10 rfl) ?_
  refine lv_iconst (v := nI 0) hx hb (dk kX3_search_0_ok 11 rfl) rfl ?_
  refine lv_iload_n hx hb (dk kX3_search_0_ok 12 rfl) rfl (lv_at hl 1 rfl) ?_
  refine ast (roSet cI ad F k a (upd (fun _ => -1) w (nI 0)) (upd q 0 (nI w))) (j := 0) hx hb hK hDi hP hS hk3 roSet_at.2.2.2 rfl (by omega) (by decide) (dk kX3_search_0_ok 13 rfl) roSet_u3 (fun H locs hP hS => ?_)
  refine lv_iconst (v := nI 1) hx hb (dk kX3_search_0_ok 14 rfl) rfl ?_
  refine lv_istore_n (lv' := [(3, .int (nI 1)), (0, .ref (ad k)), (1, .int (nI w)), (2, .int (nI m9))]) hx hb (dk kX3_search_0_ok 15 rfl) rfl hl (by decide) rfl (fun ls hl => ?_)
  refine lv_iconst (v := nI 0) hx hb (dk kX3_search_0_ok 16 rfl) rfl ?_
  refine lv_istore (lv' := [(4, .int (nI 0)), (3, .int (nI 1)), (0, .ref (ad k)), (1, .int (nI w)), (2, .int (nI m9))]) hx hb (dk kX3_search_0_ok 17 rfl) hl (by decide) rfl (fun ls hl => ?_)
  have L27 : ∀ (fu : Nat) (kk n : Nat) (d2 q2 : Nat → Int32) (H : Heap) (locs : List Loc), va_P D vwCl (iW ad N (roSet cI ad F k a d2 q2)) H → va_S (iA ad N s.heap.size) s.heap H locs → kk ≤ 169 → n ≤ 169 → (∀ i, i < n → cell9 (q2 i)) → sea q w m9 = srO m9 (170 - kk) kk d2 q2 n → 170 - kk < fu → ∀ ls : Array Slot, lv_has ls 8 [(0, .ref (ad k)), (1, .int (nI w)), (2, .int (nI m9)), (3, .int (nI n)), (4, .int (nI kk))] → W p l e ({ frames := 2, cells := 0, slots := 0, locals := 49 } : Room) s m ([.ref (ad k), .int (nI w), .int (nI m9)] : List Value).toArray below meth cd H locs 0 0 Q (F0 m 27 ls []) := by
    intro fu
    induction fu with
    | zero => intros; omega
    | succ fu ih27 =>
      intro kk n d2 q2 H locs hP hS hkk hn hq2 hr hm27 ls hl
      refine lv_iload hx hb (dk kX3_search_0_ok 18 rfl) (lv_at hl 4 rfl) ?_
      refine lv_iload_n hx hb (dk kX3_search_0_ok 19 rfl) rfl (lv_at hl 3 rfl) ?_
      refine n_icmp_ge (tgt := 161) hx hb (by omega) (by omega) (dk kX3_search_0_ok 20 rfl) (by decide) (fun h1 => ?_) (fun h1 => ?_)
      · skip
        refine lv_iconst (v := -1) hx hb (dk kX3_search_1_ok 29 rfl) rfl ?_
        exact hret _ _ _ _ _ _ _ _ rfl (by first | (have e9 := srO_hit (i := 170 - (kk + 1)) (r := d3 (ix (q2 kk)) + nI 1) (d' := d3) (q' := q3) (n' := n3) h1 h2 (hri.trans (by rw [show 72 - f = (72 - (f + 1)) + 1 by omega]; simp only [srI, (eq_true h1), (eq_false (Nat.not_lt.mpr h1)), not_true_eq_false, not_false_eq_true, and_true, true_and, and_false, false_and, or_true, true_or, or_false, false_or, and_self, or_self, if_true, if_false, Bool.false_eq_true, reduceIte])); rw [← show 170 - kk = (170 - (kk + 1)) + 1 by omega, ← hr] at e9; rw [e9]; exact ⟨rfl, rfl⟩) | (have e9 := srO_end (m := m9) (i := 170 - (kk + 1)) (k := kk) (n := n) (d := d2) (q := q2) (by omega); rw [← show 170 - kk = (170 - (kk + 1)) + 1 by omega, ← hr] at e9; rw [e9]; exact ⟨rfl, rfl⟩)) hP hS (by decide) (by decide) (dk kX3_search_1_ok 30 rfl)
      · skip
        refine lv_iload hx hb (dk kX3_search_0_ok 21 rfl) (lv_at hl 4 rfl) ?_
        refine lv_sipush (v := nI 169) hx hb (dk kX3_search_0_ok 22 rfl) rfl ?_
        refine n_icmp_ge (tgt := 161) hx hb (by omega) (by decide) (dk kX3_search_0_ok 23 rfl) (by decide) (fun h2 => ?_) (fun h2 => ?_)
        · skip
          refine lv_iconst (v := -1) hx hb (dk kX3_search_1_ok 29 rfl) rfl ?_
          exact hret _ _ _ _ _ _ _ _ rfl (by first | (have e9 := srO_hit (i := 170 - (kk + 1)) (r := d3 (ix (q2 kk)) + nI 1) (d' := d3) (q' := q3) (n' := n3) h1 h2 (hri.trans (by rw [show 72 - f = (72 - (f + 1)) + 1 by omega]; simp only [srI, (eq_true h1), (eq_false (Nat.not_le.mpr h1)), (eq_true h2), (eq_false (Nat.not_lt.mpr h2)), not_true_eq_false, not_false_eq_true, and_true, true_and, and_false, false_and, or_true, true_or, or_false, false_or, and_self, or_self, if_true, if_false, Bool.false_eq_true, reduceIte])); rw [← show 170 - kk = (170 - (kk + 1)) + 1 by omega, ← hr] at e9; rw [e9]; exact ⟨rfl, rfl⟩) | (have e9 := srO_end (m := m9) (i := 170 - (kk + 1)) (k := kk) (n := n) (d := d2) (q := q2) (by omega); rw [← show 170 - kk = (170 - (kk + 1)) + 1 by omega, ← hr] at e9; rw [e9]; exact ⟨rfl, rfl⟩)) hP hS (by decide) (by decide) (dk kX3_search_1_ok 30 rfl)
        · skip
          refine lv_aload_n hx hb (dk kX3_search_0_ok 24 rfl) rfl (lv_at hl 0 rfl) ?_
          refine gf hx hb hts (fun w h => List.mem_cons_of_mem _ (acX3 w h)) hown hK hP hk0 roSet_at.1 rfl 2 (by decide) (hts _ (List.mem_cons_of_mem _ (ac5 _ (List.mem_of_getElem? (i := 13) rfl)))) (fun _ h => h) rfl (dk kX3_search_0_ok 25 rfl) ?_
          refine lv_iload hx hb (dk kX3_search_0_ok 26 rfl) (lv_at hl 4 rfl) ?_
          refine ald (j := kk) hx hb hK hP hk3 roSet_at.2.2.2 rfl (by omega) (by decide) (dk kX3_search_0_ok 27 rfl) ?_
          refine lv_istore (lv' := [(5, .int (q2 kk)), (0, .ref (ad k)), (1, .int (nI w)), (2, .int (nI m9)), (3, .int (nI n)), (4, .int (nI kk))]) hx hb (dk kX3_search_0_ok 28 rfl) hl (by decide) rfl (fun ls hl => ?_)
          refine lv_iconst (v := nI 0) hx hb (dk kX3_search_0_ok 29 rfl) rfl ?_
          refine lv_istore (lv' := [(6, .int (nI 0)), (5, .int (q2 kk)), (0, .ref (ad k)), (1, .int (nI w)), (2, .int (nI m9)), (3, .int (nI n)), (4, .int (nI kk))]) hx hb (dk kX3_search_0_ok 30 rfl) hl (by decide) rfl (fun ls hl => ?_)
          have L53 : ∀ (fu : Nat) (f n3 : Nat) (d3 q3 : Nat → Int32) (H : Heap) (locs : List Loc), va_P D vwCl (iW ad N (roSet cI ad F k a d3 q3)) H → va_S (iA ad N s.heap.size) s.heap H locs → f ≤ 72 → n3 ≤ 169 → (∀ i, i < n3 → cell9 (q3 i)) → srI m9 (q2 kk) 72 0 d2 q2 n = srI m9 (q2 kk) (72 - f) f d3 q3 n3 → 72 - f < fu → ∀ ls : Array Slot, lv_has ls 8 [(0, .ref (ad k)), (1, .int (nI w)), (2, .int (nI m9)), (3, .int (nI n3)), (4, .int (nI kk)), (5, .int (q2 kk)), (6, .int (nI f))] → W p l e ({ frames := 2, cells := 0, slots := 0, locals := 49 } : Room) s m ([.ref (ad k), .int (nI w), .int (nI m9)] : List Value).toArray below meth cd H locs 0 0 Q (F0 m 53 ls []) := by
            intro fu
            induction fu with
            | zero => intros; omega
            | succ fu ih53 =>
              intro f n3 d3 q3 H locs hP hS hf hn3 hq3 hri hm53 ls hl
              have hc : cell9 (q2 kk) := hq2 kk h1
              refine lv_iload hx hb (dk kX3_search_0_ok 31 rfl) (lv_at hl 6 rfl) ?_
              refine lv_bipush (v := nI 72) hx hb (dk kX3_search_0_ok 32 rfl) rfl ?_
              refine n_icmp_ge (tgt := 155) hx hb (by omega) (by decide) (dk kX3_search_0_ok 33 rfl) (by decide) (fun h3 => ?_) (fun h3 => ?_)
              · skip
                refine lv_iinc (v := nI (kk + 1)) (lv' := [(4, .int (nI (kk + 1))), (0, .ref (ad k)), (1, .int (nI w)), (2, .int (nI m9)), (3, .int (nI n3)), (5, .int (q2 kk)), (6, .int (nI f))]) hx hb (dk kX3_search_1_ok 27 rfl) hl (k := 4) rfl (n_inc _) (by decide) rfl (fun ls hl => ?_)
                refine lv_goto (tgt := 27) hx hb (dk kX3_search_1_ok 28 rfl) (by decide) ?_
                exact ih27 (kk + 1) n3 d3 q3 _ _ hP hS (by omega) (by omega) (by exact hq3) (by rw [hr, show 170 - kk = (170 - (kk + 1)) + 1 by omega]; exact srO_miss h1 h2 (hri.trans (by rw [show 72 - f = 0 by omega]; rfl))) (by omega) ls (lv_sub hl [1, 2, 3, 4, 0] rfl)
              · skip
                refine lv_iload hx hb (dk kX3_search_0_ok 34 rfl) (lv_at hl 5 rfl) ?_
                refine lv_iload hx hb (dk kX3_search_0_ok 35 rfl) (lv_at hl 6 rfl) ?_
                refine lv_bipush (v := nI 9) hx hb (dk kX3_search_0_ok 36 rfl) rfl ?_
                refine n_idiv hx hb (by omega) (by decide) (by decide) (dk kX3_search_0_ok 37 rfl) ?_
                refine lv_iload hx hb (dk kX3_search_0_ok 38 rfl) (lv_at hl 6 rfl) ?_
                refine lv_bipush (v := nI 9) hx hb (dk kX3_search_0_ok 39 rfl) rfl ?_
                refine n_irem hx hb (by omega) (by decide) (by decide) (dk kX3_search_0_ok 40 rfl) ?_
                refine lv_iconst (v := nI 1) hx hb (dk kX3_search_0_ok 41 rfl) rfl ?_
                refine n_iadd hx hb (dk kX3_search_0_ok 42 rfl) ?_
                refine lv_iload_n hx hb (dk kX3_search_0_ok 43 rfl) rfl (lv_at hl 2 rfl) ?_
                refine n_iadd hx hb (dk kX3_search_0_ok 44 rfl) ?_
                refine csPN (As := [.int (q2 kk), .int (nI (f / 9)), .int (nI (((f % 9) + 1) + m9))]) (rest := []) ⟨hx, hb, hml, hown, hts⟩ (tX5_landing l (q2 kk) (nI (f / 9)) (nI (((f % 9) + 1) + m9)) (((f % 9) + 1) + m9) rfl (by omega)) (cwN9 3 hts mcX5_landing (nm8 hNW) mini_RX5 rfl rfl hdX5_landing ⟨Nat.le_of_ble_eq_true rfl, Nat.le_of_ble_eq_true rfl⟩) (hts _ (List.mem_cons_of_mem _ msX5_landing)) rfl hl.1 rfl (Nat.le_of_ble_eq_true rfl) (by decide) (dk kX3_search_0_ok 45 rfl) ?_
                refine lv_istore (lv' := [(7, .int (ldg (q2 kk) (nI (f / 9)) (((f % 9) + 1) + m9))), (0, .ref (ad k)), (1, .int (nI w)), (2, .int (nI m9)), (3, .int (nI n3)), (4, .int (nI kk)), (5, .int (q2 kk)), (6, .int (nI f))]) hx hb (dk kX3_search_0_ok 46 rfl) hl (by decide) rfl (fun ls hl => ?_)
                refine lv_iload hx hb (dk kX3_search_0_ok 47 rfl) (lv_at hl 0 rfl) ?_
                refine lv_bipush (v := nI 84) hx hb (dk kX3_search_0_ok 48 rfl) rfl ?_
                refine lv_icmp_ne (tgt := 98) hx hb (dk kX3_search_0_ok 49 rfl) (by decide) (fun h4 => ?_) (fun h4 => ?_)
                · skip
                  refine lv_iload hx hb (dk kX3_search_0_ok 57 rfl) (lv_at hl 0 rfl) ?_
                  refine lv_iconst (v := -1) hx hb (dk kX3_search_0_ok 58 rfl) rfl ?_
                  refine lv_icmp_eq (tgt := 149) hx hb (dk kX3_search_0_ok 59 rfl) (by decide) (fun h5 => ?_) (fun h5 => ?_)
                  · skip
                    refine lv_iinc (v := nI (f + 1)) (lv' := [(6, .int (nI (f + 1))), (7, .int (ldg (q2 kk) (nI (f / 9)) (((f % 9) + 1) + m9))), (0, .ref (ad k)), (1, .int (nI w)), (2, .int (nI m9)), (3, .int (nI n3)), (4, .int (nI kk)), (5, .int (q2 kk))]) hx hb (dk kX3_search_1_ok 25 rfl) hl (k := 7) rfl (n_inc _) (by decide) rfl (fun ls hl => ?_)
                    refine lv_goto (tgt := 53) hx hb (dk kX3_search_1_ok 26 rfl) (by decide) ?_
                    exact ih53 (f + 1) n3 d3 q3 _ _ hP hS (by omega) (by omega) (by first | exact hq3 | (intro i hi; unfold upd; split; exact (ldg_cell hc _ _).resolve_left (by assumption); exact hq3 i (by omega))) (by rw [hri, show 72 - f = (72 - (f + 1)) + 1 by omega]; simp only [srI, (eq_true h1), (eq_false (Nat.not_le.mpr h1)), (eq_true h2), (eq_false (Nat.not_le.mpr h2)), (eq_true h3), (eq_false (Nat.not_le.mpr h3)), (eq_false h4), (eq_true h5), not_true_eq_false, not_false_eq_true, and_true, true_and, and_false, false_and, or_true, true_or, or_false, false_or, and_self, or_self, if_true, if_false, Bool.false_eq_true, reduceIte]) (by omega) ls (lv_sub hl [2, 3, 4, 5, 6, 7, 0] rfl)
                  · skip
                    refine lv_aload_n hx hb (dk kX3_search_1_ok 0 rfl) rfl (lv_at hl 1 rfl) ?_
                    refine gf hx hb hts (fun w h => List.mem_cons_of_mem _ (acX3 w h)) hown hK hP hk0 roSet_at.1 rfl 1 (by decide) (hts _ (List.mem_cons_of_mem _ (ac5 _ (List.mem_of_getElem? (i := 12) rfl)))) (fun _ h => h) rfl (dk kX3_search_1_ok 1 rfl) ?_
                    refine lv_iload hx hb (dk kX3_search_1_ok 2 rfl) (lv_at hl 0 rfl) ?_
                    refine ald (j := (ix (ldg (q2 kk) (nI (f / 9)) (((f % 9) + 1) + m9)))) hx hb hK hP hk2 roSet_at.2.2.1 (cell9_ix ((ldg_cell hc _ _).resolve_left h5)).1 (cell9_ix ((ldg_cell hc _ _).resolve_left h5)).2 (by decide) (dk kX3_search_1_ok 3 rfl) ?_
                    refine lv_iconst (v := -1) hx hb (dk kX3_search_1_ok 4 rfl) rfl ?_
                    refine lv_icmp_ne (tgt := 149) hx hb (dk kX3_search_1_ok 5 rfl) (by decide) (fun h6 => ?_) (fun h6 => ?_)
                    · skip
                      refine lv_iinc (v := nI (f + 1)) (lv' := [(6, .int (nI (f + 1))), (7, .int (ldg (q2 kk) (nI (f / 9)) (((f % 9) + 1) + m9))), (0, .ref (ad k)), (1, .int (nI w)), (2, .int (nI m9)), (3, .int (nI n3)), (4, .int (nI kk)), (5, .int (q2 kk))]) hx hb (dk kX3_search_1_ok 25 rfl) hl (k := 7) rfl (n_inc _) (by decide) rfl (fun ls hl => ?_)
                      refine lv_goto (tgt := 53) hx hb (dk kX3_search_1_ok 26 rfl) (by decide) ?_
                      exact ih53 (f + 1) n3 d3 q3 _ _ hP hS (by omega) (by omega) (by first | exact hq3 | (intro i hi; unfold upd; split; exact (ldg_cell hc _ _).resolve_left (by assumption); exact hq3 i (by omega))) (by rw [hri, show 72 - f = (72 - (f + 1)) + 1 by omega]; simp only [srI, (eq_true h1), (eq_false (Nat.not_le.mpr h1)), (eq_true h2), (eq_false (Nat.not_le.mpr h2)), (eq_true h3), (eq_false (Nat.not_le.mpr h3)), (eq_false h4), (eq_false h5), (eq_false h6), not_true_eq_false, not_false_eq_true, and_true, true_and, and_false, false_and, or_true, true_or, or_false, false_or, and_self, or_self, if_true, if_false, Bool.false_eq_true, reduceIte]) (by omega) ls (lv_sub hl [2, 3, 4, 5, 6, 7, 0] rfl)
                    · skip
                      refine lv_iload_n hx hb (dk kX3_search_1_ok 6 rfl) rfl (lv_at hl 4 rfl) ?_
                      refine lv_sipush (v := nI 169) hx hb (dk kX3_search_1_ok 7 rfl) rfl ?_
                      refine n_icmp_ge (tgt := 149) hx hb (by omega) (by decide) (dk kX3_search_1_ok 8 rfl) (by decide) (fun h7 => ?_) (fun h7 => ?_)
                      · skip
                        refine lv_iinc (v := nI (f + 1)) (lv' := [(6, .int (nI (f + 1))), (7, .int (ldg (q2 kk) (nI (f / 9)) (((f % 9) + 1) + m9))), (0, .ref (ad k)), (1, .int (nI w)), (2, .int (nI m9)), (3, .int (nI n3)), (4, .int (nI kk)), (5, .int (q2 kk))]) hx hb (dk kX3_search_1_ok 25 rfl) hl (k := 7) rfl (n_inc _) (by decide) rfl (fun ls hl => ?_)
                        refine lv_goto (tgt := 53) hx hb (dk kX3_search_1_ok 26 rfl) (by decide) ?_
                        exact ih53 (f + 1) n3 d3 q3 _ _ hP hS (by omega) (by omega) (by first | exact hq3 | (intro i hi; unfold upd; split; exact (ldg_cell hc _ _).resolve_left (by assumption); exact hq3 i (by omega))) (by rw [hri, show 72 - f = (72 - (f + 1)) + 1 by omega]; simp only [srI, (eq_true h1), (eq_false (Nat.not_le.mpr h1)), (eq_true h2), (eq_false (Nat.not_le.mpr h2)), (eq_true h3), (eq_false (Nat.not_le.mpr h3)), (eq_false h4), (eq_false h5), (eq_true h6), (eq_true h7), (eq_false (Nat.not_lt.mpr h7)), not_true_eq_false, not_false_eq_true, and_true, true_and, and_false, false_and, or_true, true_or, or_false, false_or, and_self, or_self, if_true, if_false, Bool.false_eq_true, reduceIte]) (by omega) ls (lv_sub hl [2, 3, 4, 5, 6, 7, 0] rfl)
                      · skip
                        refine lv_aload_n hx hb (dk kX3_search_1_ok 9 rfl) rfl (lv_at hl 1 rfl) ?_
                        refine gf hx hb hts (fun w h => List.mem_cons_of_mem _ (acX3 w h)) hown hK hP hk0 roSet_at.1 rfl 1 (by decide) (hts _ (List.mem_cons_of_mem _ (ac5 _ (List.mem_of_getElem? (i := 12) rfl)))) (fun _ h => h) rfl (dk kX3_search_1_ok 10 rfl) ?_
                        refine lv_iload hx hb (dk kX3_search_1_ok 11 rfl) (lv_at hl 0 rfl) ?_
                        refine lv_aload_n hx hb (dk kX3_search_1_ok 12 rfl) rfl (lv_at hl 1 rfl) ?_
                        refine gf hx hb hts (fun w h => List.mem_cons_of_mem _ (acX3 w h)) hown hK hP hk0 roSet_at.1 rfl 1 (by decide) (hts _ (List.mem_cons_of_mem _ (ac5 _ (List.mem_of_getElem? (i := 12) rfl)))) (fun _ h => h) rfl (dk kX3_search_1_ok 13 rfl) ?_
                        refine lv_iload hx hb (dk kX3_search_1_ok 14 rfl) (lv_at hl 6 rfl) ?_
                        refine ald (j := (ix (q2 kk))) hx hb hK hP hk2 roSet_at.2.2.1 (cell9_ix hc).1 (cell9_ix hc).2 (by decide) (dk kX3_search_1_ok 15 rfl) ?_
                        refine lv_iconst (v := nI 1) hx hb (dk kX3_search_1_ok 16 rfl) rfl ?_
                        refine lv_iadd hx hb (dk kX3_search_1_ok 17 rfl) ?_
                        refine ast (roSet cI ad F k a (upd d3 (ix (ldg (q2 kk) (nI (f / 9)) (((f % 9) + 1) + m9))) ((d3 (ix (q2 kk))) + (nI 1))) q3) (j := (ix (ldg (q2 kk) (nI (f / 9)) (((f % 9) + 1) + m9)))) hx hb hK hDi hP hS hk2 roSet_at.2.2.1 (cell9_ix ((ldg_cell hc _ _).resolve_left h5)).1 (cell9_ix ((ldg_cell hc _ _).resolve_left h5)).2 (by decide) (dk kX3_search_1_ok 18 rfl) roSet_u2 (fun H locs hP hS => ?_)
                        refine lv_aload_n hx hb (dk kX3_search_1_ok 19 rfl) rfl (lv_at hl 1 rfl) ?_
                        refine gf hx hb hts (fun w h => List.mem_cons_of_mem _ (acX3 w h)) hown hK hP hk0 roSet_at.1 rfl 2 (by decide) (hts _ (List.mem_cons_of_mem _ (ac5 _ (List.mem_of_getElem? (i := 13) rfl)))) (fun _ h => h) rfl (dk kX3_search_1_ok 20 rfl) ?_
                        refine lv_iload_n hx hb (dk kX3_search_1_ok 21 rfl) rfl (lv_at hl 4 rfl) ?_
                        refine lv_iload hx hb (dk kX3_search_1_ok 22 rfl) (lv_at hl 0 rfl) ?_
                        refine ast (roSet cI ad F k a (upd d3 (ix (ldg (q2 kk) (nI (f / 9)) (((f % 9) + 1) + m9))) ((d3 (ix (q2 kk))) + (nI 1))) (upd q3 n3 (ldg (q2 kk) (nI (f / 9)) (((f % 9) + 1) + m9)))) (j := n3) hx hb hK hDi hP hS hk3 roSet_at.2.2.2 rfl (by omega) (by decide) (dk kX3_search_1_ok 23 rfl) roSet_u3 (fun H locs hP hS => ?_)
                        refine lv_iinc (v := nI (n3 + 1)) (lv' := [(3, .int (nI (n3 + 1))), (7, .int (ldg (q2 kk) (nI (f / 9)) (((f % 9) + 1) + m9))), (0, .ref (ad k)), (1, .int (nI w)), (2, .int (nI m9)), (4, .int (nI kk)), (5, .int (q2 kk)), (6, .int (nI f))]) hx hb (dk kX3_search_1_ok 24 rfl) hl (k := 4) rfl (n_inc _) (by decide) rfl (fun ls hl => ?_)
                        refine lv_iinc (v := nI (f + 1)) (lv' := [(6, .int (nI (f + 1))), (3, .int (nI (n3 + 1))), (7, .int (ldg (q2 kk) (nI (f / 9)) (((f % 9) + 1) + m9))), (0, .ref (ad k)), (1, .int (nI w)), (2, .int (nI m9)), (4, .int (nI kk)), (5, .int (q2 kk))]) hx hb (dk kX3_search_1_ok 25 rfl) hl (k := 7) rfl (n_inc _) (by decide) rfl (fun ls hl => ?_)
                        refine lv_goto (tgt := 53) hx hb (dk kX3_search_1_ok 26 rfl) (by decide) ?_
                        exact ih53 (f + 1) (n3 + 1) (upd d3 (ix (ldg (q2 kk) (nI (f / 9)) (((f % 9) + 1) + m9))) ((d3 (ix (q2 kk))) + (nI 1))) (upd q3 n3 (ldg (q2 kk) (nI (f / 9)) (((f % 9) + 1) + m9))) _ _ hP hS (by omega) (by omega) (by first | exact hq3 | (intro i hi; unfold upd; split; exact (ldg_cell hc _ _).resolve_left (by assumption); exact hq3 i (by omega))) (by rw [hri, show 72 - f = (72 - (f + 1)) + 1 by omega]; simp only [srI, (eq_true h1), (eq_false (Nat.not_le.mpr h1)), (eq_true h2), (eq_false (Nat.not_le.mpr h2)), (eq_true h3), (eq_false (Nat.not_le.mpr h3)), (eq_false h4), (eq_false h5), (eq_true h6), (eq_true h7), (eq_false (Nat.not_le.mpr h7)), not_true_eq_false, not_false_eq_true, and_true, true_and, and_false, false_and, or_true, true_or, or_false, false_or, and_self, or_self, if_true, if_false, Bool.false_eq_true, reduceIte]) (by omega) ls (lv_sub hl [3, 4, 5, 1, 6, 7, 0] rfl)
                · skip
                  refine lv_aload_n hx hb (dk kX3_search_0_ok 50 rfl) rfl (lv_at hl 1 rfl) ?_
                  refine gf hx hb hts (fun w h => List.mem_cons_of_mem _ (acX3 w h)) hown hK hP hk0 roSet_at.1 rfl 1 (by decide) (hts _ (List.mem_cons_of_mem _ (ac5 _ (List.mem_of_getElem? (i := 12) rfl)))) (fun _ h => h) rfl (dk kX3_search_0_ok 51 rfl) ?_
                  refine lv_iload hx hb (dk kX3_search_0_ok 52 rfl) (lv_at hl 6 rfl) ?_
                  refine ald (j := (ix (q2 kk))) hx hb hK hP hk2 roSet_at.2.2.1 (cell9_ix hc).1 (cell9_ix hc).2 (by decide) (dk kX3_search_0_ok 53 rfl) ?_
                  refine lv_iconst (v := nI 1) hx hb (dk kX3_search_0_ok 54 rfl) rfl ?_
                  refine lv_iadd hx hb (dk kX3_search_0_ok 55 rfl) ?_
                  exact hret _ _ _ _ _ _ _ _ rfl (by first | (have e9 := srO_hit (i := 170 - (kk + 1)) (r := d3 (ix (q2 kk)) + nI 1) (d' := d3) (q' := q3) (n' := n3) h1 h2 (hri.trans (by rw [show 72 - f = (72 - (f + 1)) + 1 by omega]; simp only [srI, (eq_true h1), (eq_false (Nat.not_le.mpr h1)), (eq_true h2), (eq_false (Nat.not_le.mpr h2)), (eq_true h3), (eq_false (Nat.not_le.mpr h3)), (eq_true h4), not_true_eq_false, not_false_eq_true, and_true, true_and, and_false, false_and, or_true, true_or, or_false, false_or, and_self, or_self, if_true, if_false, Bool.false_eq_true, reduceIte])); rw [← show 170 - kk = (170 - (kk + 1)) + 1 by omega, ← hr] at e9; rw [e9]; exact ⟨rfl, rfl⟩) | (have e9 := srO_end (m := m9) (i := 170 - (kk + 1)) (k := kk) (n := n) (d := d2) (q := q2) (by omega); rw [← show 170 - kk = (170 - (kk + 1)) + 1 by omega, ← hr] at e9; rw [e9]; exact ⟨rfl, rfl⟩)) hP hS (by decide) (by decide) (dk kX3_search_0_ok 56 rfl)
          exact L53 _ 0 n d2 q2 _ _ hP hS (by omega) (by omega) (by exact hq2) (by rfl) (Nat.lt_succ_self _) ls (lv_sub hl [2, 3, 4, 5, 6, 1, 0] rfl)
  exact L27 _ 0 1 (srD w) (upd q 0 (nI w)) _ _ hP hS (by omega) (by omega) (by intro i hi; rw [show i = 0 by omega]; exact ⟨w, hw, by simp [upd]⟩) (by rfl) (Nat.lt_succ_self _) ls (lv_sub hl [2, 3, 4, 1, 0] rfl)
end
/-! from past -/
section
set_option maxRecDepth 100000 in
set_option maxHeartbeats 4000000 in
theorem tX3_fewest (l : Launch) (D : va_G) (cI cQ cL : ClassId) (ad : Nat → Nat) (N : Nat) (F : Nat → va_E) (k : Nat) (hk : k + 3 < N) (a d q : Nat → Int32) (hO : roAt cI ad F k a d q) (x : Int32) (w : Nat) (hxw : x = nI w) (hw : w < 169) (g : Bool) : MX l yX3_fewest (Cond.code yX3_fewest cX3_fewest 4 (some .int) :: AW) ({ frames := 3, cells := 0, slots := 0, locals := 76 } : Room) D cI cQ cL ad N F [.ref (ad k), .int x, .int (bI g)] (dp (some (.int ((few a d q w g).1 (if g = true then w else 169 + w)))) (roSet cI ad F k (few a d q w g).1 (few a d q w g).2.1 (few a d q w g).2.2)) 0 0 := by
  refine mx_i (ty := .int) (by decide +kernel) rfl (Nat.le_of_ble_eq_true rfl) (fun p e s m below meth cd Q ls hx hb hml hown hts hDi hP hK hNW hS hret hl => ?_)
  have hown : s.vm.findClass RX3 = some m.cls := hown
  subst hxw
  have hk0 : k < N := by omega
  have hk1 : k + 1 < N := by omega
  have hk2 : k + 2 < N := by omega
  have hk3 : k + 3 < N := hk
  have hP : va_P D vwCl (iW ad N (roSet cI ad F k a d q)) s.heap := by rw [roSet_self hO]; exact hP
  have hl : lv_has ls 4 [(0, .ref (ad k)), (1, .int (nI w)), (2, .int (bI g))] := hl
  refine lv_iload_n hx hb (dk kX3_fewest_ok 0 rfl) rfl (lv_at hl 1 rfl) ?_
  refine n_if_lt (tgt := 11) hx hb (by omega) (dk kX3_fewest_ok 1 rfl) (by decide) ?_
  refine lv_iload_n hx hb (dk kX3_fewest_ok 2 rfl) rfl (lv_at hl 1 rfl) ?_
  refine lv_sipush (v := nI 169) hx hb (dk kX3_fewest_ok 3 rfl) rfl ?_
  refine n_icmp_lt (tgt := 13) hx hb (by omega) (by decide) (dk kX3_fewest_ok 4 rfl) (by decide) (fun h1 => ?_) (fun h1 => ?_)
  · skip
    refine lv_iload_n hx hb (dk kX3_fewest_ok 7 rfl) rfl (lv_at hl 2 rfl) ?_
    refine b_if_eq (tgt := 21) hx hb (dk kX3_fewest_ok 8 rfl) (by decide) (fun h2 => ?_) (fun h2 => ?_)
    · skip
      refine lv_sipush (v := nI 169) hx hb (dk kX3_fewest_ok 11 rfl) rfl ?_
      refine lv_iload_n hx hb (dk kX3_fewest_ok 12 rfl) rfl (lv_at hl 1 rfl) ?_
      refine n_iadd hx hb (dk kX3_fewest_ok 13 rfl) ?_
      refine lv_istore_n (lv' := [(3, .int (nI (169 + w))), (0, .ref (ad k)), (1, .int (nI w)), (2, .int (bI g))]) hx hb (dk kX3_fewest_ok 14 rfl) rfl hl (by decide) rfl (fun ls hl => ?_)
      refine lv_aload_n hx hb (dk kX3_fewest_ok 15 rfl) rfl (lv_at hl 1 rfl) ?_
      refine gf hx hb hts (fun w h => List.mem_cons_of_mem _ (acX3 w h)) hown hK hP hk0 roSet_at.1 rfl 0 (by decide) (hts _ (List.mem_cons_of_mem _ (ac5 _ (List.mem_of_getElem? (i := 11) rfl)))) (fun _ h => h) rfl (dk kX3_fewest_ok 16 rfl) ?_
      refine lv_iload_n hx hb (dk kX3_fewest_ok 17 rfl) rfl (lv_at hl 0 rfl) ?_
      refine ald (j := (169 + w)) hx hb hK hP hk1 roSet_at.2.1 rfl (by omega) (by decide) (dk kX3_fewest_ok 18 rfl) ?_
      refine lv_if_ne (tgt := 56) hx hb (dk kX3_fewest_ok 19 rfl) (by decide) (fun h3 => ?_) (fun h3 => ?_)
      · skip
        refine lv_aload_n hx hb (dk kX3_fewest_ok 32 rfl) rfl (lv_at hl 1 rfl) ?_
        refine gf hx hb hts (fun w h => List.mem_cons_of_mem _ (acX3 w h)) hown hK hP hk0 roSet_at.1 rfl 0 (by decide) (hts _ (List.mem_cons_of_mem _ (ac5 _ (List.mem_of_getElem? (i := 11) rfl)))) (fun _ h => h) rfl (dk kX3_fewest_ok 33 rfl) ?_
        refine lv_iload_n hx hb (dk kX3_fewest_ok 34 rfl) rfl (lv_at hl 0 rfl) ?_
        refine ald (j := (169 + w)) hx hb hK hP hk1 roSet_at.2.1 rfl (by omega) (by decide) (dk kX3_fewest_ok 35 rfl) ?_
        exact hret _ _ _ _ _ _ _ _ rfl (by first | (exfalso; omega) | (simp only [few, dp, (eq_true h1), (eq_false (Nat.not_le.mpr h1)), h2, (eq_false h3), not_true_eq_false, not_false_eq_true, and_true, true_and, and_false, false_and, or_true, true_or, or_false, false_or, and_self, or_self, if_true, if_false, Bool.false_eq_true, reduceIte, upd]; first | done | exact ⟨rfl, rfl⟩)) hP hS (by decide) (by decide) (dk kX3_fewest_ok 36 rfl)
      · skip
        refine lv_aload_n hx hb (dk kX3_fewest_ok 20 rfl) rfl (lv_at hl 1 rfl) ?_
        refine gf hx hb hts (fun w h => List.mem_cons_of_mem _ (acX3 w h)) hown hK hP hk0 roSet_at.1 rfl 0 (by decide) (hts _ (List.mem_cons_of_mem _ (ac5 _ (List.mem_of_getElem? (i := 11) rfl)))) (fun _ h => h) rfl (dk kX3_fewest_ok 21 rfl) ?_
        refine lv_iload_n hx hb (dk kX3_fewest_ok 22 rfl) rfl (lv_at hl 0 rfl) ?_
        refine lv_aload_n hx hb (dk kX3_fewest_ok 23 rfl) rfl (lv_at hl 1 rfl) ?_
        refine lv_iload_n hx hb (dk kX3_fewest_ok 24 rfl) rfl (lv_at hl 2 rfl) ?_
        refine lv_iload_n hx hb (dk kX3_fewest_ok 25 rfl) rfl (lv_at hl 3 rfl) ?_
        refine b_if_eq (tgt := 51) hx hb (dk kX3_fewest_ok 26 rfl) (by decide) (fun h4 => ?_) (fun h4 => ?_)
        · skip
          refine lv_iconst (v := nI 1) hx hb (dk kX3_fewest_ok 29 rfl) rfl ?_
          refine cvD (As := [.int (nI w), .int (nI 1)]) (rest := [.int (nI (169 + w)), .ref (ad (k + 1))]) (roSet cI ad F k a ((sea q w 1).2.1) ((sea q w 1).2.2)) ⟨hx, hb, hml, hown, hts⟩ (tX3_search l D cI cQ cL ad N (roSet cI ad F k a d q) k hk a d q (roSet_at) (nI w) w rfl (by omega) (nI 1) 1 rfl (by omega)) (cwV9 2 hts mcX3_search (ac6 _ (List.mem_of_getElem? (i := 5) rfl)) miX3_search meX3_search mini_RX3 rfl rfl hdX3_search ⟨Nat.le_of_ble_eq_true rfl, Nat.le_of_ble_eq_true rfl⟩) hDi hK hP hNW hS hk0 roSet_at.1 rfl rfl hl.1 rfl (Nat.le_of_ble_eq_true rfl) (by decide) (dk kX3_fewest_ok 30 rfl) roSet_roSet (fun H locs hP hS => ?_)
          refine ast (roSet cI ad F k (upd a (169 + w) ((sea q w 1).1)) ((sea q w 1).2.1) ((sea q w 1).2.2)) (j := (169 + w)) hx hb hK hDi hP hS hk1 roSet_at.2.1 rfl (by omega) (by decide) (dk kX3_fewest_ok 31 rfl) roSet_u1 (fun H locs hP hS => ?_)
          refine lv_aload_n hx hb (dk kX3_fewest_ok 32 rfl) rfl (lv_at hl 1 rfl) ?_
          refine gf hx hb hts (fun w h => List.mem_cons_of_mem _ (acX3 w h)) hown hK hP hk0 roSet_at.1 rfl 0 (by decide) (hts _ (List.mem_cons_of_mem _ (ac5 _ (List.mem_of_getElem? (i := 11) rfl)))) (fun _ h => h) rfl (dk kX3_fewest_ok 33 rfl) ?_
          refine lv_iload_n hx hb (dk kX3_fewest_ok 34 rfl) rfl (lv_at hl 0 rfl) ?_
          refine ald (j := (169 + w)) hx hb hK hP hk1 roSet_at.2.1 rfl (by omega) (by decide) (dk kX3_fewest_ok 35 rfl) ?_
          exact hret _ _ _ _ _ _ _ _ rfl (by first | (exfalso; omega) | (simp only [few, dp, (eq_true h1), (eq_false (Nat.not_le.mpr h1)), h2, (eq_true h3), h4, not_true_eq_false, not_false_eq_true, and_true, true_and, and_false, false_and, or_true, true_or, or_false, false_or, and_self, or_self, if_true, if_false, Bool.false_eq_true, reduceIte, upd]; first | done | exact ⟨rfl, rfl⟩)) hP hS (by decide) (by decide) (dk kX3_fewest_ok 36 rfl)
        · exact absurd (h2.symm.trans h4) (by decide)
    · skip
      refine lv_iload_n hx hb (dk kX3_fewest_ok 9 rfl) rfl (lv_at hl 1 rfl) ?_
      refine lv_goto (tgt := 26) hx hb (dk kX3_fewest_ok 10 rfl) (by decide) ?_
      refine lv_istore_n (lv' := [(3, .int (nI w)), (0, .ref (ad k)), (1, .int (nI w)), (2, .int (bI g))]) hx hb (dk kX3_fewest_ok 14 rfl) rfl hl (by decide) rfl (fun ls hl => ?_)
      refine lv_aload_n hx hb (dk kX3_fewest_ok 15 rfl) rfl (lv_at hl 1 rfl) ?_
      refine gf hx hb hts (fun w h => List.mem_cons_of_mem _ (acX3 w h)) hown hK hP hk0 roSet_at.1 rfl 0 (by decide) (hts _ (List.mem_cons_of_mem _ (ac5 _ (List.mem_of_getElem? (i := 11) rfl)))) (fun _ h => h) rfl (dk kX3_fewest_ok 16 rfl) ?_
      refine lv_iload_n hx hb (dk kX3_fewest_ok 17 rfl) rfl (lv_at hl 0 rfl) ?_
      refine ald (j := w) hx hb hK hP hk1 roSet_at.2.1 rfl (by omega) (by decide) (dk kX3_fewest_ok 18 rfl) ?_
      refine lv_if_ne (tgt := 56) hx hb (dk kX3_fewest_ok 19 rfl) (by decide) (fun h5 => ?_) (fun h5 => ?_)
      · skip
        refine lv_aload_n hx hb (dk kX3_fewest_ok 32 rfl) rfl (lv_at hl 1 rfl) ?_
        refine gf hx hb hts (fun w h => List.mem_cons_of_mem _ (acX3 w h)) hown hK hP hk0 roSet_at.1 rfl 0 (by decide) (hts _ (List.mem_cons_of_mem _ (ac5 _ (List.mem_of_getElem? (i := 11) rfl)))) (fun _ h => h) rfl (dk kX3_fewest_ok 33 rfl) ?_
        refine lv_iload_n hx hb (dk kX3_fewest_ok 34 rfl) rfl (lv_at hl 0 rfl) ?_
        refine ald (j := w) hx hb hK hP hk1 roSet_at.2.1 rfl (by omega) (by decide) (dk kX3_fewest_ok 35 rfl) ?_
        exact hret _ _ _ _ _ _ _ _ rfl (by first | (exfalso; omega) | (simp only [few, dp, (eq_true h1), (eq_false (Nat.not_le.mpr h1)), h2, (eq_false h5), not_true_eq_false, not_false_eq_true, and_true, true_and, and_false, false_and, or_true, true_or, or_false, false_or, and_self, or_self, if_true, if_false, Bool.false_eq_true, reduceIte, upd]; first | done | exact ⟨rfl, rfl⟩)) hP hS (by decide) (by decide) (dk kX3_fewest_ok 36 rfl)
      · skip
        refine lv_aload_n hx hb (dk kX3_fewest_ok 20 rfl) rfl (lv_at hl 1 rfl) ?_
        refine gf hx hb hts (fun w h => List.mem_cons_of_mem _ (acX3 w h)) hown hK hP hk0 roSet_at.1 rfl 0 (by decide) (hts _ (List.mem_cons_of_mem _ (ac5 _ (List.mem_of_getElem? (i := 11) rfl)))) (fun _ h => h) rfl (dk kX3_fewest_ok 21 rfl) ?_
        refine lv_iload_n hx hb (dk kX3_fewest_ok 22 rfl) rfl (lv_at hl 0 rfl) ?_
        refine lv_aload_n hx hb (dk kX3_fewest_ok 23 rfl) rfl (lv_at hl 1 rfl) ?_
        refine lv_iload_n hx hb (dk kX3_fewest_ok 24 rfl) rfl (lv_at hl 2 rfl) ?_
        refine lv_iload_n hx hb (dk kX3_fewest_ok 25 rfl) rfl (lv_at hl 3 rfl) ?_
        refine b_if_eq (tgt := 51) hx hb (dk kX3_fewest_ok 26 rfl) (by decide) (fun h6 => ?_) (fun h6 => ?_)
        · exact absurd (h2.symm.trans h6) (by decide)
        · skip
          refine lv_iconst (v := nI 0) hx hb (dk kX3_fewest_ok 27 rfl) rfl ?_
          refine lv_goto (tgt := 52) hx hb (dk kX3_fewest_ok 28 rfl) (by decide) ?_
          refine cvD (As := [.int (nI w), .int (nI 0)]) (rest := [.int (nI w), .ref (ad (k + 1))]) (roSet cI ad F k a ((sea q w 0).2.1) ((sea q w 0).2.2)) ⟨hx, hb, hml, hown, hts⟩ (tX3_search l D cI cQ cL ad N (roSet cI ad F k a d q) k hk a d q (roSet_at) (nI w) w rfl (by omega) (nI 0) 0 rfl (by omega)) (cwV9 2 hts mcX3_search (ac6 _ (List.mem_of_getElem? (i := 5) rfl)) miX3_search meX3_search mini_RX3 rfl rfl hdX3_search ⟨Nat.le_of_ble_eq_true rfl, Nat.le_of_ble_eq_true rfl⟩) hDi hK hP hNW hS hk0 roSet_at.1 rfl rfl hl.1 rfl (Nat.le_of_ble_eq_true rfl) (by decide) (dk kX3_fewest_ok 30 rfl) roSet_roSet (fun H locs hP hS => ?_)
          refine ast (roSet cI ad F k (upd a w ((sea q w 0).1)) ((sea q w 0).2.1) ((sea q w 0).2.2)) (j := w) hx hb hK hDi hP hS hk1 roSet_at.2.1 rfl (by omega) (by decide) (dk kX3_fewest_ok 31 rfl) roSet_u1 (fun H locs hP hS => ?_)
          refine lv_aload_n hx hb (dk kX3_fewest_ok 32 rfl) rfl (lv_at hl 1 rfl) ?_
          refine gf hx hb hts (fun w h => List.mem_cons_of_mem _ (acX3 w h)) hown hK hP hk0 roSet_at.1 rfl 0 (by decide) (hts _ (List.mem_cons_of_mem _ (ac5 _ (List.mem_of_getElem? (i := 11) rfl)))) (fun _ h => h) rfl (dk kX3_fewest_ok 33 rfl) ?_
          refine lv_iload_n hx hb (dk kX3_fewest_ok 34 rfl) rfl (lv_at hl 0 rfl) ?_
          refine ald (j := w) hx hb hK hP hk1 roSet_at.2.1 rfl (by omega) (by decide) (dk kX3_fewest_ok 35 rfl) ?_
          exact hret _ _ _ _ _ _ _ _ rfl (by first | (exfalso; omega) | (simp only [few, dp, (eq_true h1), (eq_false (Nat.not_le.mpr h1)), h2, (eq_true h5), h6, not_true_eq_false, not_false_eq_true, and_true, true_and, and_false, false_and, or_true, true_or, or_false, false_or, and_self, or_self, if_true, if_false, Bool.false_eq_true, reduceIte, upd]; first | done | exact ⟨rfl, rfl⟩)) hP hS (by decide) (by decide) (dk kX3_fewest_ok 36 rfl)
  · skip
    refine lv_iconst (v := -1) hx hb (dk kX3_fewest_ok 5 rfl) rfl ?_
    exact hret _ _ _ _ _ _ _ _ rfl (by first | (exfalso; omega) | (simp only [few, dp, (eq_true h1), (eq_false (Nat.not_lt.mpr h1)), not_true_eq_false, not_false_eq_true, and_true, true_and, and_false, false_and, or_true, true_or, or_false, false_or, and_self, or_self, if_true, if_false, Bool.false_eq_true, reduceIte, upd]; first | done | exact ⟨rfl, rfl⟩)) hP hS (by decide) (by decide) (dk kX3_fewest_ok 6 rfl)
set_option maxRecDepth 100000 in
set_option maxHeartbeats 4000000 in
theorem tX2_save (l : Launch) (D : va_G) (cI cQ cL : ClassId) (ad : Nat → Nat) (N : Nat) (F : Nat → va_E) (k : Nat) (n m9 : Nat) (hn : n < 6) (hm9 : m9 ≤ 6) (hk : k + 1 < N) (hPa : paAt cQ ad F k n m9) (c b v g h j : Nat → Int32) (t : Nat) (u z : Int32) (hS0 : stAt cI ad F (k + 2 + 8 * n) c b v g h j (nI t) u z) (hks7 : k + 2 + 8 * n + 7 < N) (k2 : Nat) (hq : k2 + 7 < N) (c2 b2 v2 g2 h2 j2 : Nat → Int32) (t2 : Nat) (u2 z2 : Int32) (hS2 : stAt cI ad F k2 c2 b2 v2 g2 h2 j2 (nI t2) u2 z2) (hd : k2 + 7 < k ∨ k + 2 + 8 * 5 + 7 < k2) : MX l yX2_save (Cond.code yX2_save cX2_save 2 none :: AW) ({ frames := 3, cells := 0, slots := 0, locals := 60 } : Room) D cI cQ cL ad N F [.ref (ad k), .ref (ad k2)] (dp none (paSet cQ ad (sSet cI ad F (k + 2 + 8 * n) c2 b2 v2 g2 h2 j2 (nI t2) u2 z2) k ((n + 1) % 6) (min (m9 + 1) 6))) 0 0 := by
  refine mx_v (by decide +kernel) rfl (Nat.le_of_ble_eq_true rfl) (fun p e s m below meth cd Q ls hx hb hml hown hts hDi hP hK hNW hS hret hl => ?_)
  have hown : s.vm.findClass RX2 = some m.cls := hown
  have hk0 : k < N := by omega
  have hk1 : k + 1 < N := hk
  have hks : k + 2 + 8 * n < N := by omega
  have hq0 : k2 < N := by omega
  have hl : lv_has ls 2 [(0, .ref (ad k)), (1, .ref (ad k2))] := hl
  refine lv_aload_n hx hb (dk kX2_save_ok 0 rfl) rfl (lv_at hl 0 rfl) ?_
  refine gf hx hb hts (fun w h => List.mem_cons_of_mem _ (acX2 w h)) hown hK hP hk0 hPa.1 rfl 0 (by decide) (hts _ (List.mem_cons_of_mem _ (ac4 _ (List.mem_of_getElem? (i := 15) rfl)))) (fun _ h => h) rfl (dk kX2_save_ok 1 rfl) ?_
  refine lv_aload_n hx hb (dk kX2_save_ok 2 rfl) rfl (lv_at hl 0 rfl) ?_
  refine gf hx hb hts (fun w h => List.mem_cons_of_mem _ (acX2 w h)) hown hK hP hk0 hPa.1 rfl 1 (by decide) (hts _ (List.mem_cons_of_mem _ (ac4 _ (List.mem_of_getElem? (i := 16) rfl)))) (fun _ h => h) rfl (dk kX2_save_ok 3 rfl) ?_
  refine aldq hx hb hK hP hk1 hPa.2 (by omega) (by decide) rfl (dk kX2_save_ok 4 rfl) ?_
  refine lv_ifnull hx hb (dk kX2_save_ok 5 rfl) ?_
  refine lv_aload_n hx hb (dk kX2_save_ok 6 rfl) rfl (lv_at hl 0 rfl) ?_
  refine gf hx hb hts (fun w h => List.mem_cons_of_mem _ (acX2 w h)) hown hK hP hk0 hPa.1 rfl 0 (by decide) (hts _ (List.mem_cons_of_mem _ (ac4 _ (List.mem_of_getElem? (i := 15) rfl)))) (fun _ h => h) rfl (dk kX2_save_ok 7 rfl) ?_
  refine lv_aload_n hx hb (dk kX2_save_ok 8 rfl) rfl (lv_at hl 0 rfl) ?_
  refine gf hx hb hts (fun w h => List.mem_cons_of_mem _ (acX2 w h)) hown hK hP hk0 hPa.1 rfl 1 (by decide) (hts _ (List.mem_cons_of_mem _ (ac4 _ (List.mem_of_getElem? (i := 16) rfl)))) (fun _ h => h) rfl (dk kX2_save_ok 9 rfl) ?_
  refine aldq hx hb hK hP hk1 hPa.2 (by omega) (by decide) rfl (dk kX2_save_ok 10 rfl) ?_
  refine lv_aload_n hx hb (dk kX2_save_ok 11 rfl) rfl (lv_at hl 1 rfl) ?_
  refine cvDv (As := [.ref (ad k2)]) (rest := []) (paSet cQ ad (sSet cI ad F (k + 2 + 8 * n) c2 b2 v2 g2 h2 j2 (nI t2) u2 z2) k n m9) ⟨hx, hb, hml, hown, hts⟩ (tX4_copyFrom l D cI cQ cL ad N F (k + 2 + 8 * n) (by omega) c b v g h j t u z hS0 k2 hq c2 b2 v2 g2 h2 j2 t2 u2 z2 hS2 (by omega)) (cwV9 1 hts mcX4_copyFrom (ac5 _ (List.mem_of_getElem? (i := 6) rfl)) miX4_copyFrom meX4_copyFrom mini_RX4 rfl rfl hdX4_copyFrom ⟨Nat.le_of_ble_eq_true rfl, Nat.le_of_ble_eq_true rfl⟩) hDi hK hP hNW hS hks hS0.1 rfl rfl hl.1 rfl (Nat.le_of_ble_eq_true rfl) (by decide) (dk kX2_save_ok 12 rfl) (paSet_self (paAt_keep hPa (fun i _ _ => sSet_out (by omega)))).symm (fun H locs hP hS => ?_)
  refine lv_aload_n hx hb (dk kX2_save_ok 13 rfl) rfl (lv_at hl 0 rfl) ?_
  refine lv_aload_n hx hb (dk kX2_save_ok 14 rfl) rfl (lv_at hl 0 rfl) ?_
  refine gf hx hb hts (fun w h => List.mem_cons_of_mem _ (acX2 w h)) hown hK hP hk0 paSet_at.1 rfl 1 (by decide) (hts _ (List.mem_cons_of_mem _ (ac4 _ (List.mem_of_getElem? (i := 16) rfl)))) (fun _ h => h) rfl (dk kX2_save_ok 15 rfl) ?_
  refine lv_iconst (v := nI 1) hx hb (dk kX2_save_ok 16 rfl) rfl ?_
  refine n_iadd hx hb (dk kX2_save_ok 17 rfl) ?_
  refine lv_bipush (v := nI 6) hx hb (dk kX2_save_ok 18 rfl) rfl ?_
  refine n_irem hx hb (by omega) (by decide) (by decide) (dk kX2_save_ok 19 rfl) ?_
  refine pf (paSet cQ ad (sSet cI ad F (k + 2 + 8 * n) c2 b2 v2 g2 h2 j2 (nI t2) u2 z2) k ((n + 1) % 6) m9) hx hb hts (fun w h => List.mem_cons_of_mem _ (acX2 w h)) tyX2 tyX2_ok nmX2 hown hK hDi hP hS hk0 paSet_at.1 rfl 1 (by decide) (hts _ (List.mem_cons_of_mem _ (ac4 _ (List.mem_of_getElem? (i := 16) rfl)))) (fun _ h => h) rfl (ty := .int) rfl rfl rfl (Nat.le_of_ble_eq_true rfl) (dk kX2_save_ok 20 rfl) paSet_u0 (fun H locs hP hS => ?_)
  refine lv_aload_n hx hb (dk kX2_save_ok 21 rfl) rfl (lv_at hl 0 rfl) ?_
  refine lv_aload_n hx hb (dk kX2_save_ok 22 rfl) rfl (lv_at hl 0 rfl) ?_
  refine gf hx hb hts (fun w h => List.mem_cons_of_mem _ (acX2 w h)) hown hK hP hk0 paSet_at.1 rfl 2 (by decide) (hts _ (List.mem_cons_of_mem _ (ac4 _ (List.mem_of_getElem? (i := 17) rfl)))) (fun _ h => h) rfl (dk kX2_save_ok 23 rfl) ?_
  refine lv_iconst (v := nI 1) hx hb (dk kX2_save_ok 24 rfl) rfl ?_
  refine n_iadd hx hb (dk kX2_save_ok 25 rfl) ?_
  refine lv_bipush (v := nI 6) hx hb (dk kX2_save_ok 26 rfl) rfl ?_
  refine n_mmin (by omega) (by decide) hx hb (by rw [hml, hl.1]) hown (hts _ (List.mem_cons_of_mem _ (ac5 _ (List.mem_of_getElem? (i := 3) rfl)))) (hts _ (List.mem_cons_of_mem _ (ac5 _ (List.mem_of_getElem? (i := 4) rfl)))) (hts _ (List.mem_cons_of_mem _ (ac2 _ (List.mem_of_getElem? (i := 10) rfl)))) (hts _ (List.mem_cons_of_mem _ (ac5 _ (List.mem_of_getElem? (i := 5) rfl)))) (Nat.le_of_ble_eq_true rfl) (Nat.le_of_ble_eq_true rfl) (Nat.le_of_ble_eq_true rfl) (Nat.le_of_ble_eq_true rfl) (dk kX2_save_ok 27 rfl) ?_
  refine pf (paSet cQ ad (sSet cI ad F (k + 2 + 8 * n) c2 b2 v2 g2 h2 j2 (nI t2) u2 z2) k ((n + 1) % 6) (min (m9 + 1) 6)) hx hb hts (fun w h => List.mem_cons_of_mem _ (acX2 w h)) tyX2 tyX2_ok nmX2 hown hK hDi hP hS hk0 paSet_at.1 rfl 2 (by decide) (hts _ (List.mem_cons_of_mem _ (ac4 _ (List.mem_of_getElem? (i := 17) rfl)))) (fun _ h => h) rfl (ty := .int) rfl rfl rfl (Nat.le_of_ble_eq_true rfl) (dk kX2_save_ok 28 rfl) paSet_u0 (fun H locs hP hS => ?_)
  exact hret _ _ _ _ _ _ _ (by exact ⟨rfl, rfl⟩) hP hS (by decide) (by decide) (dk kX2_save_ok 29 rfl)
set_option maxRecDepth 100000 in
set_option maxHeartbeats 4000000 in
theorem tX2_restore (l : Launch) (D : va_G) (cI cQ cL : ClassId) (ad : Nat → Nat) (N : Nat) (F : Nat → va_E) (k : Nat) (n m9 : Nat) (hn : n < 6) (hm9 : m9 ≤ 6) (hm0 : 1 ≤ m9) (hk : k + 1 < N) (hPa : paAt cQ ad F k n m9) (c b v g h j : Nat → Int32) (t : Nat) (u z : Int32) (hS0 : stAt cI ad F (k + 2 + 8 * ((n + 6 - 1) % 6)) c b v g h j (nI t) u z) (hks7 : k + 2 + 8 * ((n + 6 - 1) % 6) + 7 < N) (k2 : Nat) (hq : k2 + 7 < N) (c2 b2 v2 g2 h2 j2 : Nat → Int32) (t2 : Nat) (u2 z2 : Int32) (hS2 : stAt cI ad F k2 c2 b2 v2 g2 h2 j2 (nI t2) u2 z2) (hd : k2 + 7 < k ∨ k + 2 + 8 * 5 + 7 < k2) : MX l yX2_restore (Cond.code yX2_restore cX2_restore 2 none :: AW) ({ frames := 3, cells := 0, slots := 0, locals := 60 } : Room) D cI cQ cL ad N F [.ref (ad k), .ref (ad k2)] (dp none (sSet cI ad (paSet cQ ad F k ((n + 6 - 1) % 6) (m9 - 1)) k2 c b v g h j (nI t) u z)) 0 0 := by
  refine mx_v (by decide +kernel) rfl (Nat.le_of_ble_eq_true rfl) (fun p e s m below meth cd Q ls hx hb hml hown hts hDi hP hK hNW hS hret hl => ?_)
  have hown : s.vm.findClass RX2 = some m.cls := hown
  have hk0 : k < N := by omega
  have hk1 : k + 1 < N := hk
  have hq0 : k2 < N := by omega
  have hP : va_P D vwCl (iW ad N (paSet cQ ad F k n m9)) s.heap := by rw [paSet_self hPa]; exact hP
  have hl : lv_has ls 2 [(0, .ref (ad k)), (1, .ref (ad k2))] := hl
  refine lv_aload_n hx hb (dk kX2_restore_ok 0 rfl) rfl (lv_at hl 0 rfl) ?_
  refine lv_aload_n hx hb (dk kX2_restore_ok 1 rfl) rfl (lv_at hl 0 rfl) ?_
  refine gf hx hb hts (fun w h => List.mem_cons_of_mem _ (acX2 w h)) hown hK hP hk0 paSet_at.1 rfl 1 (by decide) (hts _ (List.mem_cons_of_mem _ (ac4 _ (List.mem_of_getElem? (i := 16) rfl)))) (fun _ h => h) rfl (dk kX2_restore_ok 2 rfl) ?_
  refine lv_bipush (v := nI 6) hx hb (dk kX2_restore_ok 3 rfl) rfl ?_
  refine n_iadd hx hb (dk kX2_restore_ok 4 rfl) ?_
  refine lv_iconst (v := nI 1) hx hb (dk kX2_restore_ok 5 rfl) rfl ?_
  refine n_isub hx hb (by omega) (dk kX2_restore_ok 6 rfl) ?_
  refine lv_bipush (v := nI 6) hx hb (dk kX2_restore_ok 7 rfl) rfl ?_
  refine n_irem hx hb (by omega) (by decide) (by decide) (dk kX2_restore_ok 8 rfl) ?_
  refine pf (paSet cQ ad F k (((n + 6) - 1) % 6) m9) hx hb hts (fun w h => List.mem_cons_of_mem _ (acX2 w h)) tyX2 tyX2_ok nmX2 hown hK hDi hP hS hk0 paSet_at.1 rfl 1 (by decide) (hts _ (List.mem_cons_of_mem _ (ac4 _ (List.mem_of_getElem? (i := 16) rfl)))) (fun _ h => h) rfl (ty := .int) rfl rfl rfl (Nat.le_of_ble_eq_true rfl) (dk kX2_restore_ok 9 rfl) paSet_u0 (fun H locs hP hS => ?_)
  refine lv_aload_n hx hb (dk kX2_restore_ok 10 rfl) rfl (lv_at hl 0 rfl) ?_
  refine lv_dup hx hb (dk kX2_restore_ok 11 rfl) rfl ?_
  refine gf hx hb hts (fun w h => List.mem_cons_of_mem _ (acX2 w h)) hown hK hP hk0 paSet_at.1 rfl 2 (by decide) (hts _ (List.mem_cons_of_mem _ (ac4 _ (List.mem_of_getElem? (i := 17) rfl)))) (fun _ h => h) rfl (dk kX2_restore_ok 12 rfl) ?_
  refine lv_iconst (v := nI 1) hx hb (dk kX2_restore_ok 13 rfl) rfl ?_
  refine n_isub hx hb (by omega) (dk kX2_restore_ok 14 rfl) ?_
  refine pf (paSet cQ ad F k (((n + 6) - 1) % 6) (m9 - 1)) hx hb hts (fun w h => List.mem_cons_of_mem _ (acX2 w h)) tyX2 tyX2_ok nmX2 hown hK hDi hP hS hk0 paSet_at.1 rfl 2 (by decide) (hts _ (List.mem_cons_of_mem _ (ac4 _ (List.mem_of_getElem? (i := 17) rfl)))) (fun _ h => h) rfl (ty := .int) rfl rfl rfl (Nat.le_of_ble_eq_true rfl) (dk kX2_restore_ok 15 rfl) paSet_u0 (fun H locs hP hS => ?_)
  refine lv_aload_n hx hb (dk kX2_restore_ok 16 rfl) rfl (lv_at hl 0 rfl) ?_
  refine gf hx hb hts (fun w h => List.mem_cons_of_mem _ (acX2 w h)) hown hK hP hk0 paSet_at.1 rfl 0 (by decide) (hts _ (List.mem_cons_of_mem _ (ac4 _ (List.mem_of_getElem? (i := 15) rfl)))) (fun _ h => h) rfl (dk kX2_restore_ok 17 rfl) ?_
  refine lv_aload_n hx hb (dk kX2_restore_ok 18 rfl) rfl (lv_at hl 0 rfl) ?_
  refine gf hx hb hts (fun w h => List.mem_cons_of_mem _ (acX2 w h)) hown hK hP hk0 paSet_at.1 rfl 1 (by decide) (hts _ (List.mem_cons_of_mem _ (ac4 _ (List.mem_of_getElem? (i := 16) rfl)))) (fun _ h => h) rfl (dk kX2_restore_ok 19 rfl) ?_
  refine aldq hx hb hK hP hk1 paSet_at.2 (by omega) (by decide) rfl (dk kX2_restore_ok 20 rfl) ?_
  refine lv_ifnull hx hb (dk kX2_restore_ok 21 rfl) ?_
  refine lv_aload_n hx hb (dk kX2_restore_ok 22 rfl) rfl (lv_at hl 1 rfl) ?_
  refine lv_aload_n hx hb (dk kX2_restore_ok 23 rfl) rfl (lv_at hl 0 rfl) ?_
  refine gf hx hb hts (fun w h => List.mem_cons_of_mem _ (acX2 w h)) hown hK hP hk0 paSet_at.1 rfl 0 (by decide) (hts _ (List.mem_cons_of_mem _ (ac4 _ (List.mem_of_getElem? (i := 15) rfl)))) (fun _ h => h) rfl (dk kX2_restore_ok 24 rfl) ?_
  refine lv_aload_n hx hb (dk kX2_restore_ok 25 rfl) rfl (lv_at hl 0 rfl) ?_
  refine gf hx hb hts (fun w h => List.mem_cons_of_mem _ (acX2 w h)) hown hK hP hk0 paSet_at.1 rfl 1 (by decide) (hts _ (List.mem_cons_of_mem _ (ac4 _ (List.mem_of_getElem? (i := 16) rfl)))) (fun _ h => h) rfl (dk kX2_restore_ok 26 rfl) ?_
  refine aldq hx hb hK hP hk1 paSet_at.2 (by omega) (by decide) rfl (dk kX2_restore_ok 27 rfl) ?_
  refine cvDv (As := [.ref (ad (k + 2 + 8 * ((n + 6 - 1) % 6)))]) (rest := []) (sSet cI ad (paSet cQ ad F k (((n + 6) - 1) % 6) (m9 - 1)) k2 c b v g h j (nI t) u z) ⟨hx, hb, hml, hown, hts⟩ (tX4_copyFrom l D cI cQ cL ad N (paSet cQ ad F k (((n + 6) - 1) % 6) (m9 - 1)) k2 hq c2 b2 v2 g2 h2 j2 t2 u2 z2 (stAt_keep hS2 (fun i _ _ => paSet_out (by omega))) (k + 2 + 8 * ((n + 6 - 1) % 6)) (by omega) c b v g h j t u z (stAt_keep hS0 (fun i _ _ => paSet_out (by omega))) (by omega)) (cwV9 1 hts mcX4_copyFrom (ac5 _ (List.mem_of_getElem? (i := 6) rfl)) miX4_copyFrom meX4_copyFrom mini_RX4 rfl rfl hdX4_copyFrom ⟨Nat.le_of_ble_eq_true rfl, Nat.le_of_ble_eq_true rfl⟩) hDi hK hP hNW hS hq0 (stAt_keep hS2 (fun i _ _ => paSet_out (by omega))).1 rfl rfl hl.1 rfl (Nat.le_of_ble_eq_true rfl) (by decide) (dk kX2_restore_ok 28 rfl) rfl (fun H locs hP hS => ?_)
  exact hret _ _ _ _ _ _ _ (by exact ⟨rfl, rfl⟩) hP hS (by decide) (by decide) (dk kX2_restore_ok 29 rfl)
end
/-! from throws -/
section
abbrev eS : String := "java/lang/IllegalStateException"
abbrev eA : String := "java/lang/IllegalArgumentException"
abbrev eI : String := "java/lang/IndexOutOfBoundsException"
abbrev eN : List String := ["java/lang/RuntimeException", "java/lang/Exception"]
def thrW : List (Nat × Nat × String) := [(63, 67, eS), (104, 108, eA), (196, 200, eI)]
def strW : List (Nat × String) := [(65, "the wink can not fly"), (88, "the pile can not be lifted"), (106, "the setting is 1 to 6"), (121, "the wink can not be put"), (126, "a character code is 33 to 126"), (131, "the buffer is full"), (143, "the buffer is not a complete game"), (154, "there is no snapshot"), (159, "there is no saved state"), (180, "what is 0 to 6"), (191, "what is 0 to 3"), (198, "a colour is 0 to 3"), (246, "what is 0 to 13"), (260, "what is 0 or 1"), (355, "a wink is 0 to 15"), (361, "x and y are 0 to 12"), (366, "a force is 1 to 9"), (368, "1 to 6 winks are lifted"), (370, "a direction is 0 to 7")]
def xbD : List MethodName := [Bundle.initS "java/lang/RuntimeException", Bundle.initS "java/lang/Exception", Bundle.initS Bundle.tN]
def xbC : List String := [eS, eA, eI]
/-- what a throw needs beyond the words -/
def XW (ad : Nat → Nat) (N sz : Nat) (U : State) : Prop := (∀ y ∈ xbD, va_Nw (.declares y) U) ∧ (∀ c ∈ xbC, va_Nw (.castable c c) U) ∧ (∀ q ∈ strW, ∃ a, vk_R RX5 q.1 q.2 a U) ∧ vx_Zq Bundle.tN "UNASSIGNED_STACK" Bundle.steD (iA ad N sz) U U.heap ∧ vx_Zq Bundle.tN "SUPPRESSED_SENTINEL" Bundle.listD (iA ad N sz) U U.heap
theorem XW.same {ad : Nat → Nat} {N sz : Nat} {u U : State} (e : u.vm = U.vm) (eh : u.heap = U.heap) (h : XW ad N sz u) : XW ad N sz U := by
  obtain ⟨h1, h2, h3, h4, h5⟩ := h
  refine ⟨fun y hy => va_Nw.same rfl e (h1 y hy), fun c hc => va_Nw.same rfl e (h2 c hc), fun q hq => ?_, ?_, ?_⟩
  · obtain ⟨a, ha⟩ := h3 q hq
    exact ⟨a, vk_R.same e.symm ha⟩
  · rw [← eh]
    exact vx_Zq.moved (by rw [e]; exact Vm.Alike.refl U.vm) h4
  · rw [← eh]
    exact vx_Zq.moved (by rw [e]; exact Vm.Alike.refl U.vm) h5
theorem XW.go {ad : Nat → Nat} {N : Nat} {s U : State} {H : Heap} {locs : List Loc} (hS : va_S (iA ad N s.heap.size) s.heap H locs) (hU : U.heap = H) (hW : s.WarmedH U.vm) (h : XW ad N s.heap.size s) : XW ad N H.size U := by
  obtain ⟨h1, h2, h3, h4, h5⟩ := h
  refine ⟨fun y hy => va_Nw.warmD hW (h1 y hy), fun c hc => va_Nw.warmC hW (h2 c hc), fun q hq => ?_, ?_, ?_⟩
  · obtain ⟨a, ha⟩ := h3 q hq
    exact ⟨a, vk_R.warm hW ha⟩
  · rw [hU]
    exact (vx_Zq.moved hW.alike (h4.kept hS.2.1)).narrow (iA_up hS)
  · rw [hU]
    exact (vx_Zq.moved hW.alike (h5.kept hS.2.1)).narrow (iA_up hS)
/-- a method that throws E, and changes nothing -/
def MT (l : Launch) (y : MethodName) (ws : List Cond) (rm : Room) (D : va_G) (cI cQ cL : ClassId) (ad : Nat → Nat) (N : Nat) (F : Nat → va_E) (args : List Value) (E : String) (mc ms : Nat) : Prop :=
  ∀ sz : Nat, vx_Met l y ws rm (va_Pc args (fun U => U.heap.size = sz ∧ iD ad N ∧ rW D cI cQ cL ad N F U ∧ XW ad N sz U)) (fun _ _ _ _ => False) (fun E' st t => E' = E ∧ va_P D vwCl (iW ad N F) t.heap ∧ va_F (iA ad N sz) st t) mc ms (iA ad N sz)
theorem MT_blind {D : va_G} {cI cQ cL : ClassId} {ad : Nat → Nat} {N : Nat} {F : Nat → va_E} {args : List Value} {sz : Nat} : FrameBlind (va_Pc args (fun U => U.heap.size = sz ∧ iD ad N ∧ rW D cI cQ cL ad N F U ∧ XW ad N sz U)) :=
  fun a U g mk q => ⟨q.1, q.2.1, q.2.2.1, ⟨q.2.2.2.1.1, va_K.moved (u := U) (U := U.calling g mk a) (Vm.Alike.refl U.vm) q.2.2.2.1.2.1, NW.same rfl q.2.2.2.1.2.2⟩, XW.same rfl rfl q.2.2.2.2⟩
theorem thr_hat {args : Array Value} {s : State} {x : Cond} {ad : Nat → Nat} {N sz : Nat} {ik ic : Nat} {cls : String} (hin : (ik, ic, cls) ∈ thrW) (hts : ∀ w ∈ x :: AW, w.before args s = true) (hX : XW ad N sz s) : (Cond.classLink RX5 ik cls).before args s = true ∧ (Cond.initialized cls).before args s = true ∧ (∀ w ∈ vx_atS RX5 ic cls eN, w.before args s = true) ∧ (∀ w ∈ Cond.classLink RX5 ik cls :: Cond.initialized cls :: vx_atS RX5 ic cls eN, vx_ot w = true) ∧ Bundle.fit cls = true := by
  have hB : ∀ w ∈ (xbD.map Cond.declares ++ xbC.map (fun c => Cond.castable c c)), w.before args s = true := by
    intro w hw
    rcases List.mem_append.mp hw with h | h
    · obtain ⟨y, hy, rfl⟩ := List.mem_map.mp h
      exact va_Nw.use rfl (hX.1 y hy)
    · obtain ⟨c, hc, rfl⟩ := List.mem_map.mp h
      exact va_Nw.use rfl (hX.2.1 c hc)
  have hin2 : (ik, ic, cls) = (63, 67, eS) ∨ (ik, ic, cls) = (104, 108, eA) ∨ (ik, ic, cls) = (196, 200, eI) := by
    simpa [thrW] using hin
  rcases hin2 with h | h | h
  · cases h
    refine ⟨(hts _ (List.mem_cons_of_mem _ (ac9 _ (List.mem_of_getElem? (i := 4) rfl)))), (hts _ (List.mem_cons_of_mem _ (ac9 _ (List.mem_of_getElem? (i := 5) rfl)))), vx_hat (B := xbD.map Cond.declares ++ xbC.map (fun c => Cond.castable c c)) (fun w hw => hts _ (List.mem_cons_of_mem _ (acV0 w hw))) (by decide +kernel) hB, by decide +kernel, by decide +kernel⟩
  · cases h
    refine ⟨(hts _ (List.mem_cons_of_mem _ (ac8 _ (List.mem_of_getElem? (i := 23) rfl)))), (hts _ (List.mem_cons_of_mem _ (ac9 _ (List.mem_of_getElem? (i := 0) rfl)))), vx_hat (B := xbD.map Cond.declares ++ xbC.map (fun c => Cond.castable c c)) (fun w hw => hts _ (List.mem_cons_of_mem _ (acV2 w hw))) (by decide +kernel) hB, by decide +kernel, by decide +kernel⟩
  · cases h
    refine ⟨(hts _ (List.mem_cons_of_mem _ (ac8 _ (List.mem_of_getElem? (i := 20) rfl)))), (hts _ (List.mem_cons_of_mem _ (ac8 _ (List.mem_of_getElem? (i := 21) rfl)))), vx_hat (B := xbD.map Cond.declares ++ xbC.map (fun c => Cond.castable c c)) (fun w hw => hts _ (List.mem_cons_of_mem _ (acV1 w hw))) (by decide +kernel) hB, by decide +kernel, by decide +kernel⟩
section MTS
variable {l : Launch} {y : MethodName} {rm : Room} {cc : ByteArray} {maxL : Nat} {D : va_G} {cI cQ cL : ClassId} {ad : Nat → Nat} {N : Nat} {F : Nat → va_E} {args : List Value} {E : String} {mc ms : Nat}
theorem mt_of {ret : Option FieldType} (hst : l.stackTraces = false) (hy : plainName y.cls = true) (hy5 : y.cls = RX5) (hlen : (lg_sl args).length ≤ maxL)
    (body : ∀ (p : Program) (e : Env) (s : State) (m : MethodId) (below : List Frame) (meth : Method) (c : Code) (Q : State → Prop) (ls : Array Slot),
      p.tables.exec = Jvm.exec → c.code = cc → c.maxLocals = maxL → s.vm.findClass y.cls = some m.cls → (∀ w ∈ Cond.code y cc maxL ret :: AW, w.before args.toArray s = true) → iD ad N → va_P D vwCl (iW ad N F) s.heap → va_K D vwCl (iT cI cQ cL) s → NW s → va_S (iA ad N s.heap.size) s.heap s.heap [] → XW ad N s.heap.size s →
      (∀ (ik ic is pc : Nat) (text : String) (ls : Array Slot) (rest : List Value) (H : Heap) (locs : List Loc) (k n : Nat), (ik, ic, E) ∈ thrW → (is, text) ∈ strW → va_P D vwCl (iW ad N F) H → va_S (iA ad N s.heap.size) s.heap H locs → ls.size = maxL →
        decode cc pc = .ok (.new ik, 3) → decode cc (pc + 3) = .ok (.dup, 1) → decode cc (pc + 4) = .ok (.ldc is, 2) → decode cc (pc + 6) = .ok (.invokespecial ic, 3) → decode cc (pc + 9) = .ok (.athrow, 1) → 5 < rm.frames → (rest.map fun v => v.category).sum + 82 ≤ rm.locals → k + 1 ≤ rm.cells → n + 6 ≤ rm.slots → k + 1 ≤ mc → n + 6 ≤ ms → W p l e rm s m args.toArray below meth c H locs k n Q (F0 m pc ls rest)) →
      (∀ (ik ic is pc : Nat) (text : String) (ls : Array Slot) (rest : List Value) (H : Heap) (locs : List Loc) (k n : Nat), (ik, ic, E) ∈ thrW → (is, text) ∈ strW → va_P D vwCl (iW ad N F) H → va_S (iA ad N s.heap.size) s.heap H locs → ls.size = maxL →
        decode cc pc = .ok (.new ik, 3) → decode cc (pc + 3) = .ok (.dup, 1) → decode cc (pc + 4) = .ok (.ldc_w is, 3) → decode cc (pc + 7) = .ok (.invokespecial ic, 3) → decode cc (pc + 10) = .ok (.athrow, 1) → 5 < rm.frames → (rest.map fun v => v.category).sum + 82 ≤ rm.locals → k + 1 ≤ rm.cells → n + 6 ≤ rm.slots → k + 1 ≤ mc → n + 6 ≤ ms → W p l e rm s m args.toArray below meth c H locs k n Q (F0 m pc ls rest)) →
      (∀ (pc : Nat) (ls : Array Slot) (rest : List Value) (H : Heap) (locs : List Loc) (q : Addr) (ce : Cell) (k n : Nat), va_P D vwCl (iW ad N F) H → va_S (iA ad N s.heap.size) s.heap H locs → H[q]? = some ce → ce.vm = .none → s.vm.findClass E = some ce.cls → k ≤ mc → n ≤ ms → vx_W p l e rm s m args.toArray below meth c H locs k n Q (F0 m pc ls rest) q) →
      lv_has ls maxL (lv_args 0 args) → W p l e rm s m args.toArray below meth c s.heap [] 0 0 Q (F0 m 0 ls [])) : MT l y (Cond.code y cc maxL ret :: AW) rm D cI cQ cL ad N F args E mc ms := by
  intro sz
  refine vx_ofW (cc := cc) (maxL := maxL) (ret := ret) hy rfl ?_
  intro p e s m args9 below meth c s₁ B hml htab hv
  obtain ⟨rfl, hsz, hDi, ⟨hP, hK, hNW⟩, hX⟩ := hv
  subst hsz
  have hl := lv_entry args (n := maxL) hlen
  have hown : s.vm.findClass RX5 = some m.cls := by rw [← hy5]; exact findClass_of_methodNamed B.named
  rw [lg_entry_eq]
  refine body p e s m below meth c _ _ B.exec B.bytes hml (findClass_of_methodNamed B.named) (atoms_spec B.pre) hDi hP hK hNW va_S.rf hX ?_ ?_ ?_ hl
  · intro ik ic is pc text ls rest H locs k n h1 h2 hP1 hS hsz d0 d3 d4 d6 d9 hfr hlo hc0 hs0 hc hs
    obtain ⟨q1, q2, q3, q4, q5⟩ := thr_hat h1 (atoms_spec B.pre) hX
    obtain ⟨sa, hsa⟩ := hX.2.2.1 _ h2
    exact vx_throwS (names := eN) B.exec B.bytes hst hown q5 (by decide +kernel) q1 q2 hsa q3 q4 hX.2.2.2.1 hX.2.2.2.2 hS (by rw [hml]; exact hsz) d0 d3 d4 d6 d9 (fun x hx => (htab x hx).elim) hfr hlo hc0 hs0 B.notSynchronized (fun t _ hz hk => ⟨rfl, hP1.kept (fun k q hq => hk _ ((hP1 k q hq).lt)), Nat.le_trans hS.1 hz, fun q hq hA => (hk q (Nat.lt_of_lt_of_le hq hS.1)).trans (hS.2.1 q hq hA)⟩) hS.2.2 hc hs
  · intro ik ic is pc text ls rest H locs k n h1 h2 hP1 hS hsz d0 d3 d4 d6 d9 hfr hlo hc0 hs0 hc hs
    obtain ⟨q1, q2, q3, q4, q5⟩ := thr_hat h1 (atoms_spec B.pre) hX
    obtain ⟨sa, hsa⟩ := hX.2.2.1 _ h2
    exact vx_throwSW (names := eN) B.exec B.bytes hst hown q5 (by decide +kernel) q1 q2 hsa q3 q4 hX.2.2.2.1 hX.2.2.2.2 hS (by rw [hml]; exact hsz) d0 d3 d4 d6 d9 (fun x hx => (htab x hx).elim) hfr hlo hc0 hs0 B.notSynchronized (fun t _ hz hk => ⟨rfl, hP1.kept (fun k q hq => hk _ ((hP1 k q hq).lt)), Nat.le_trans hS.1 hz, fun q hq hA => (hk q (Nat.lt_of_lt_of_le hq hS.1)).trans (hS.2.1 q hq hA)⟩) hS.2.2 hc hs
  · intro pc ls rest H locs q ce k n hP1 hS h1 h2 h3 hc hs
    exact vx_out (fun x hx => (htab x hx).elim) B.notSynchronized h1 h2 h3 (fun t ht _ => ⟨rfl, by rw [ht]; exact hP1, hS.F ht⟩) hS.2.2 hc hs
end MTS
section TROWS
variable {p : Program} {l : Launch} {e : Env} {R : Room} {s : State} {m : MethodId} {args : Array Value} {below : List Frame} {meth : Method} {c : Code} {H : Heap} {locs : List Loc} {cells slots : Nat} {Q : State → Prop}
variable {cc : ByteArray} {pc : Nat} {ls : Array Slot} {rest st0 : List Value} {D : va_G} {cI cQ cL : ClassId} {ad : Nat → Nat} {N : Nat} {F : Nat → va_E} {Ts : List Cond}
theorem MT_pre {argl : List Value} {U : State} (hDi : iD ad N) (hK : va_K D vwCl (iT cI cQ cL) s) (hP : va_P D vwCl (iW ad N F) H) (hNW : NW s) (hS : va_S (iA ad N s.heap.size) s.heap H locs) (hX : XW ad N s.heap.size s) (hU : U.heap = H) (hW : s.WarmedH U.vm) : va_Pc argl (fun U => U.heap.size = H.size ∧ iD ad N ∧ rW D cI cQ cL ad N F U ∧ XW ad N H.size U) argl.toArray U :=
  ⟨rfl, by rw [hU], hDi, ⟨by rw [hU]; exact hP, va_K.moved hW.alike hK, hNW.warm hW⟩, hX.go hS hU hW⟩
/-- a call of a static method that throws -/
theorem csT {nL index na mc ms : Nat} {own : String} {y : MethodName} {bytes : ByteArray} {maxL : Nat} {ret : Option FieldType} {ws : List Cond} {rm : Room} {As : List Value} {E : String}
    (S : CallFix p m c cc nL s args Ts own) (hM : MT l y ws rm D cI cQ cL ad N F As E mc ms) (cw : CallB R s args own index y bytes maxL ret ws rm mc ms na ∧ (Cond.static y).before args s = true) (hDi : iD ad N) (hK : va_K D vwCl (iT cI cQ cL) s) (hP : va_P D vwCl (iW ad N F) H) (hNW : NW s) (hS : va_S (iA ad N s.heap.size) s.heap H locs) (hX : XW ad N s.heap.size s)
    (hn : As.length = na) (hsize : ls.size = nL) (hstack : st0 = As.reverse ++ rest) (hW : (rest.map fun v => v.category).sum ≤ 8) (hf : cells + mc ≤ R.cells ∧ slots + ms ≤ R.slots) (hdg : decode cc pc = .ok (.invokestatic index, 3))
    (kx : ∀ (H1 : Heap) (locs1 : List Loc) (q : Addr) (ce : Cell), va_P D vwCl (iW ad N F) H1 → va_S (iA ad N s.heap.size) s.heap H1 locs1 → H1[q]? = some ce → ce.vm = .none → s.vm.findClass E = some ce.cls → vx_W p l e R s m args below meth c H1 locs1 (cells + mc) (slots + ms) Q (F0 m pc ls rest) q) : W p l e R s m args below meth c H locs cells slots Q (F0 m pc ls st0) := by
  have hr := vx_runS (g := F0 m pc ls st0) (p := p) (l := l) (e := e) (R := R) (m := m) (meth := meth) (below := below) (H := H) (locs := locs) (cells := cells) (slots := slots) S (hM H.size) cw ⟨MT_blind, fun U hU hW => MT_pre hDi hK hP hNW hS hX hU hW⟩ rfl hn hsize hstack (lv_room hW) hdg hf
  intro T hT X
  rcases hr T hT X with ⟨v, st₀, t, T', L, h0, X', hL, e1, e2, hfalse, st⟩ | ⟨q, st₀, t, T', L, E9, ce, h0, X', hL, e1, e2, ⟨rfl, hb, hF⟩, hce, hcv, hcl, st⟩
  · exact hfalse.elim
  · obtain ⟨-, -, k3⟩ := vx_keep h0 e1 hS (fun q _ h => iA_up hS q h) (iA_up hS) hL hF
    obtain ⟨t2, a1, b1⟩ := kx T'.heap (locs ++ L) q ce (by rw [e1]; exact hb) k3 (by rw [e1]; exact hce) hcv hcl T' rfl X'
    exact ⟨t2, st.trans a1, b1⟩
end TROWS
/-- a void static method of its arguments alone -/
def MPv (l : Launch) (y : MethodName) (ws : List Cond) (rm : Room) (args : List Value) : Prop :=
  Met l y ws rm (va_Pc args (fun _ => True)) (fun _ st o t => o = .returned none ∧ t.heap = st.heap) 0 0 (fun _ => False)
section MPV
variable {l : Launch} {y : MethodName} {ws ws' : List Cond} {rm : Room} {cc : ByteArray} {maxL : Nat} {args : List Value}
theorem mp_v (hy : plainName y.cls = true) (hw : ws = Cond.code y cc maxL none :: ws') (hlen : (lg_sl args).length ≤ maxL)
    (body : ∀ (p : Program) (e : Env) (s : State) (m : MethodId) (below : List Frame) (meth : Method) (c : Code) (Q : State → Prop) (ls : Array Slot),
      p.tables.exec = Jvm.exec → c.code = cc → c.maxLocals = maxL → s.vm.findClass y.cls = some m.cls → (∀ w ∈ ws, w.before args.toArray s = true) →
      (∀ (pc : Nat) (ls : Array Slot), decode cc pc = .ok (.return_, 1) → W p l e rm s m args.toArray below meth c s.heap [] 0 0 Q (F0 m pc ls [])) →
      lv_has ls maxL (lv_args 0 args) → W p l e rm s m args.toArray below meth c s.heap [] 0 0 Q (F0 m 0 ls [])) : MPv l y ws rm args := by
  refine Met.ofW (cc := cc) (maxL := maxL) (ret := none) hy hw ?_
  intro p e s m args9 below meth c s₁ B hml hv
  obtain ⟨rfl, -⟩ := hv
  have hl := lv_entry args (n := maxL) hlen
  rw [lg_entry_eq]
  exact body p e s m below meth c _ _ B.exec B.bytes hml (findClass_of_methodNamed B.named) (atoms_spec B.pre) (fun pc ls hd => W.vret B.exec B.bytes B.returns (fun t ht _ => ⟨rfl, ht⟩) (fun _ h => nomatch h) hd B.notSynchronized) hl
end MPV
section PVROWS
variable {p : Program} {l : Launch} {e : Env} {R : Room} {s : State} {m : MethodId} {args : Array Value} {below : List Frame} {meth : Method} {c : Code} {H : Heap} {locs : List Loc} {cells slots : Nat} {Q : State → Prop}
variable {cc : ByteArray} {pc : Nat} {ls : Array Slot} {rest st0 : List Value} {Ts : List Cond}
theorem csPv {nL index na : Nat} {own : String} {y : MethodName} {bytes : ByteArray} {maxL : Nat} {ret : Option FieldType} {ws : List Cond} {rm : Room} {As : List Value}
    (S : CallFix p m c cc nL s args Ts own) (hM : MPv l y ws rm As) (cw : CallB R s args own index y bytes maxL ret ws rm 0 0 na ∧ (Cond.static y).before args s = true)
    (hn : As.length = na) (hsize : ls.size = nL) (hstack : st0 = As.reverse ++ rest) (hW : (rest.map fun v => v.category).sum ≤ 8) (hf : cells + 0 ≤ R.cells ∧ slots + 0 ≤ R.slots) (hdg : decode cc pc = .ok (.invokestatic index, 3))
    (kk : W p l e R s m args below meth c H locs cells slots Q (F0 m (pc + 3) ls rest)) : W p l e R s m args below meth c H locs cells slots Q (F0 m pc ls st0) := by
  have hr := va_runS (g := F0 m pc ls st0) (p := p) (l := l) (e := e) (R := R) (m := m) (meth := meth) (below := below) (locs := locs) (cells := cells) (slots := slots) (H := H) S hM cw ⟨MP_blind, fun U hU hW => ⟨rfl, trivial⟩⟩ rfl hn hsize hstack (lv_room hW) hdg hf
  intro T hT X
  obtain ⟨v, st₀, t, T', L, h0, X', hL, e1, e2, ⟨hv, hh⟩, st⟩ := hr T hT X
  cases hv
  have hLn : L = [] := by
    cases L with
    | nil => rfl
    | cons a L => exact (hL a List.mem_cons_self).elim
  subst hLn
  rw [List.append_nil] at X'
  obtain ⟨t2, a1, b1⟩ := kk T' (by rw [e1, hh, h0]) X'
  exact ⟨t2, st t2 a1, b1⟩
end PVROWS
end
/-! from refspec -/
section
def rfAt (cI : ClassId) (ad : Nat → Nat) (F : Nat → va_E) (k : Nat) (r : Nat → Int32) (ps : Nat → Int32) (sl : Nat → Int32) (sd : Nat → Int32) (ne : Nat → Int32) (fa : Nat → Int32) (bu : Nat → Int32) (hs : Bool) (st : Nat) (ln : Nat) (pt : Nat) (th : Int32) : Prop := F k = .inr (6, [.ref (ad (k + 1)), .ref (ad (k + 2)), .ref (ad (k + 3)), .ref (ad (k + 4)), .ref (ad (k + 5)), .ref (ad (k + 6)), .ref (ad (k + 7)), .int (bI hs), .int (nI st), .int (nI ln), .int (nI pt), .int th]) ∧ F (k + 1) = .inl (cI, 60, .inl r) ∧ F (k + 2) = .inl (cI, 360, .inl ps) ∧ F (k + 3) = .inl (cI, 60, .inl sl) ∧ F (k + 4) = .inl (cI, 60, .inl sd) ∧ F (k + 5) = .inl (cI, 169, .inl ne) ∧ F (k + 6) = .inl (cI, 169, .inl fa) ∧ F (k + 7) = .inl (cI, 60, .inl bu)
def rfSet (cI : ClassId) (ad : Nat → Nat) (F : Nat → va_E) (k : Nat) (r : Nat → Int32) (ps : Nat → Int32) (sl : Nat → Int32) (sd : Nat → Int32) (ne : Nat → Int32) (fa : Nat → Int32) (bu : Nat → Int32) (hs : Bool) (st : Nat) (ln : Nat) (pt : Nat) (th : Int32) : Nat → va_E := fun i => if i = k then .inr (6, [.ref (ad (k + 1)), .ref (ad (k + 2)), .ref (ad (k + 3)), .ref (ad (k + 4)), .ref (ad (k + 5)), .ref (ad (k + 6)), .ref (ad (k + 7)), .int (bI hs), .int (nI st), .int (nI ln), .int (nI pt), .int th]) else if i = k + 1 then .inl (cI, 60, .inl r) else if i = k + 2 then .inl (cI, 360, .inl ps) else if i = k + 3 then .inl (cI, 60, .inl sl) else if i = k + 4 then .inl (cI, 60, .inl sd) else if i = k + 5 then .inl (cI, 169, .inl ne) else if i = k + 6 then .inl (cI, 169, .inl fa) else if i = k + 7 then .inl (cI, 60, .inl bu) else F i
section
variable {cI : ClassId} {ad : Nat → Nat} {F : Nat → va_E} {k : Nat} {r : Nat → Int32} {ps : Nat → Int32} {sl : Nat → Int32} {sd : Nat → Int32} {ne : Nat → Int32} {fa : Nat → Int32} {bu : Nat → Int32} {hs : Bool} {st : Nat} {ln : Nat} {pt : Nat} {th : Int32} {r' : Nat → Int32} {ps' : Nat → Int32} {sl' : Nat → Int32} {sd' : Nat → Int32} {ne' : Nat → Int32} {fa' : Nat → Int32} {bu' : Nat → Int32} {hs' : Bool} {st' : Nat} {ln' : Nat} {pt' : Nat} {th' : Int32}
theorem rfSet_self (H : rfAt cI ad F k r ps sl sd ne fa bu hs st ln pt th) : rfSet cI ad F k r ps sl sd ne fa bu hs st ln pt th = F := by
  funext i
  obtain ⟨h0, h1, h2, h3, h4, h5, h6, h7⟩ := H
  unfold rfSet
  by_cases e0 : i = k
  · rw [if_pos e0, e0, h0]
  rw [if_neg e0]
  by_cases e1 : i = k + 1
  · rw [if_pos e1, e1, h1]
  rw [if_neg e1]
  by_cases e2 : i = k + 2
  · rw [if_pos e2, e2, h2]
  rw [if_neg e2]
  by_cases e3 : i = k + 3
  · rw [if_pos e3, e3, h3]
  rw [if_neg e3]
  by_cases e4 : i = k + 4
  · rw [if_pos e4, e4, h4]
  rw [if_neg e4]
  by_cases e5 : i = k + 5
  · rw [if_pos e5, e5, h5]
  rw [if_neg e5]
  by_cases e6 : i = k + 6
  · rw [if_pos e6, e6, h6]
  rw [if_neg e6]
  by_cases e7 : i = k + 7
  · rw [if_pos e7, e7, h7]
  rw [if_neg e7]
theorem rfSet_out {i : Nat} (hi : i < k ∨ k + 7 < i) : rfSet cI ad F k r ps sl sd ne fa bu hs st ln pt th i = F i := by
  unfold rfSet
  rw [if_neg (by omega), if_neg (by omega), if_neg (by omega), if_neg (by omega), if_neg (by omega), if_neg (by omega), if_neg (by omega), if_neg (by omega)]
theorem rfSet_at : rfAt cI ad (rfSet cI ad F k r ps sl sd ne fa bu hs st ln pt th) k r ps sl sd ne fa bu hs st ln pt th := by
  refine ⟨?_, ?_, ?_, ?_, ?_, ?_, ?_, ?_⟩
  · simp [rfSet]
  · simp [rfSet]
  · simp [rfSet]
  · simp [rfSet]
  · simp [rfSet]
  · simp [rfSet]
  · simp [rfSet]
  · simp [rfSet]
theorem rfSet_rfSet : rfSet cI ad (rfSet cI ad F k r ps sl sd ne fa bu hs st ln pt th) k r' ps' sl' sd' ne' fa' bu' hs' st' ln' pt' th' = rfSet cI ad F k r' ps' sl' sd' ne' fa' bu' hs' st' ln' pt' th' := by
  funext i
  by_cases e0 : i = k
  · simp [rfSet, e0]
  by_cases e1 : i = k + 1
  · simp [rfSet, e1]
  by_cases e2 : i = k + 2
  · simp [rfSet, e2]
  by_cases e3 : i = k + 3
  · simp [rfSet, e3]
  by_cases e4 : i = k + 4
  · simp [rfSet, e4]
  by_cases e5 : i = k + 5
  · simp [rfSet, e5]
  by_cases e6 : i = k + 6
  · simp [rfSet, e6]
  by_cases e7 : i = k + 7
  · simp [rfSet, e7]
  simp [rfSet, e0, e1, e2, e3, e4, e5, e6, e7]
theorem rfSet_u0 : va_up (rfSet cI ad F k r ps sl sd ne fa bu hs st ln pt th) (k) (.inr (6, [.ref (ad (k + 1)), .ref (ad (k + 2)), .ref (ad (k + 3)), .ref (ad (k + 4)), .ref (ad (k + 5)), .ref (ad (k + 6)), .ref (ad (k + 7)), .int (bI hs'), .int (nI st'), .int (nI ln'), .int (nI pt'), .int th'])) = rfSet cI ad F k r ps sl sd ne fa bu hs' st' ln' pt' th' := by
  funext i
  by_cases e0 : i = k
  · simp [va_up, rfSet, e0]
  by_cases e1 : i = k + 1
  · simp [va_up, rfSet, e1]
  by_cases e2 : i = k + 2
  · simp [va_up, rfSet, e2]
  by_cases e3 : i = k + 3
  · simp [va_up, rfSet, e3]
  by_cases e4 : i = k + 4
  · simp [va_up, rfSet, e4]
  by_cases e5 : i = k + 5
  · simp [va_up, rfSet, e5]
  by_cases e6 : i = k + 6
  · simp [va_up, rfSet, e6]
  by_cases e7 : i = k + 7
  · simp [va_up, rfSet, e7]
  simp [va_up, rfSet, e0, e1, e2, e3, e4, e5, e6, e7]
theorem rfSet_u1 : va_up (rfSet cI ad F k r ps sl sd ne fa bu hs st ln pt th) (k + 1) (.inl (cI, 60, .inl r')) = rfSet cI ad F k r' ps sl sd ne fa bu hs st ln pt th := by
  funext i
  by_cases e0 : i = k
  · simp [va_up, rfSet, e0]
  by_cases e1 : i = k + 1
  · simp [va_up, rfSet, e1]
  by_cases e2 : i = k + 2
  · simp [va_up, rfSet, e2]
  by_cases e3 : i = k + 3
  · simp [va_up, rfSet, e3]
  by_cases e4 : i = k + 4
  · simp [va_up, rfSet, e4]
  by_cases e5 : i = k + 5
  · simp [va_up, rfSet, e5]
  by_cases e6 : i = k + 6
  · simp [va_up, rfSet, e6]
  by_cases e7 : i = k + 7
  · simp [va_up, rfSet, e7]
  simp [va_up, rfSet, e0, e1, e2, e3, e4, e5, e6, e7]
theorem rfSet_u2 : va_up (rfSet cI ad F k r ps sl sd ne fa bu hs st ln pt th) (k + 2) (.inl (cI, 360, .inl ps')) = rfSet cI ad F k r ps' sl sd ne fa bu hs st ln pt th := by
  funext i
  by_cases e0 : i = k
  · simp [va_up, rfSet, e0]
  by_cases e1 : i = k + 1
  · simp [va_up, rfSet, e1]
  by_cases e2 : i = k + 2
  · simp [va_up, rfSet, e2]
  by_cases e3 : i = k + 3
  · simp [va_up, rfSet, e3]
  by_cases e4 : i = k + 4
  · simp [va_up, rfSet, e4]
  by_cases e5 : i = k + 5
  · simp [va_up, rfSet, e5]
  by_cases e6 : i = k + 6
  · simp [va_up, rfSet, e6]
  by_cases e7 : i = k + 7
  · simp [va_up, rfSet, e7]
  simp [va_up, rfSet, e0, e1, e2, e3, e4, e5, e6, e7]
theorem rfSet_u3 : va_up (rfSet cI ad F k r ps sl sd ne fa bu hs st ln pt th) (k + 3) (.inl (cI, 60, .inl sl')) = rfSet cI ad F k r ps sl' sd ne fa bu hs st ln pt th := by
  funext i
  by_cases e0 : i = k
  · simp [va_up, rfSet, e0]
  by_cases e1 : i = k + 1
  · simp [va_up, rfSet, e1]
  by_cases e2 : i = k + 2
  · simp [va_up, rfSet, e2]
  by_cases e3 : i = k + 3
  · simp [va_up, rfSet, e3]
  by_cases e4 : i = k + 4
  · simp [va_up, rfSet, e4]
  by_cases e5 : i = k + 5
  · simp [va_up, rfSet, e5]
  by_cases e6 : i = k + 6
  · simp [va_up, rfSet, e6]
  by_cases e7 : i = k + 7
  · simp [va_up, rfSet, e7]
  simp [va_up, rfSet, e0, e1, e2, e3, e4, e5, e6, e7]
theorem rfSet_u4 : va_up (rfSet cI ad F k r ps sl sd ne fa bu hs st ln pt th) (k + 4) (.inl (cI, 60, .inl sd')) = rfSet cI ad F k r ps sl sd' ne fa bu hs st ln pt th := by
  funext i
  by_cases e0 : i = k
  · simp [va_up, rfSet, e0]
  by_cases e1 : i = k + 1
  · simp [va_up, rfSet, e1]
  by_cases e2 : i = k + 2
  · simp [va_up, rfSet, e2]
  by_cases e3 : i = k + 3
  · simp [va_up, rfSet, e3]
  by_cases e4 : i = k + 4
  · simp [va_up, rfSet, e4]
  by_cases e5 : i = k + 5
  · simp [va_up, rfSet, e5]
  by_cases e6 : i = k + 6
  · simp [va_up, rfSet, e6]
  by_cases e7 : i = k + 7
  · simp [va_up, rfSet, e7]
  simp [va_up, rfSet, e0, e1, e2, e3, e4, e5, e6, e7]
theorem rfSet_u5 : va_up (rfSet cI ad F k r ps sl sd ne fa bu hs st ln pt th) (k + 5) (.inl (cI, 169, .inl ne')) = rfSet cI ad F k r ps sl sd ne' fa bu hs st ln pt th := by
  funext i
  by_cases e0 : i = k
  · simp [va_up, rfSet, e0]
  by_cases e1 : i = k + 1
  · simp [va_up, rfSet, e1]
  by_cases e2 : i = k + 2
  · simp [va_up, rfSet, e2]
  by_cases e3 : i = k + 3
  · simp [va_up, rfSet, e3]
  by_cases e4 : i = k + 4
  · simp [va_up, rfSet, e4]
  by_cases e5 : i = k + 5
  · simp [va_up, rfSet, e5]
  by_cases e6 : i = k + 6
  · simp [va_up, rfSet, e6]
  by_cases e7 : i = k + 7
  · simp [va_up, rfSet, e7]
  simp [va_up, rfSet, e0, e1, e2, e3, e4, e5, e6, e7]
theorem rfSet_u6 : va_up (rfSet cI ad F k r ps sl sd ne fa bu hs st ln pt th) (k + 6) (.inl (cI, 169, .inl fa')) = rfSet cI ad F k r ps sl sd ne fa' bu hs st ln pt th := by
  funext i
  by_cases e0 : i = k
  · simp [va_up, rfSet, e0]
  by_cases e1 : i = k + 1
  · simp [va_up, rfSet, e1]
  by_cases e2 : i = k + 2
  · simp [va_up, rfSet, e2]
  by_cases e3 : i = k + 3
  · simp [va_up, rfSet, e3]
  by_cases e4 : i = k + 4
  · simp [va_up, rfSet, e4]
  by_cases e5 : i = k + 5
  · simp [va_up, rfSet, e5]
  by_cases e6 : i = k + 6
  · simp [va_up, rfSet, e6]
  by_cases e7 : i = k + 7
  · simp [va_up, rfSet, e7]
  simp [va_up, rfSet, e0, e1, e2, e3, e4, e5, e6, e7]
theorem rfSet_u7 : va_up (rfSet cI ad F k r ps sl sd ne fa bu hs st ln pt th) (k + 7) (.inl (cI, 60, .inl bu')) = rfSet cI ad F k r ps sl sd ne fa bu' hs st ln pt th := by
  funext i
  by_cases e0 : i = k
  · simp [va_up, rfSet, e0]
  by_cases e1 : i = k + 1
  · simp [va_up, rfSet, e1]
  by_cases e2 : i = k + 2
  · simp [va_up, rfSet, e2]
  by_cases e3 : i = k + 3
  · simp [va_up, rfSet, e3]
  by_cases e4 : i = k + 4
  · simp [va_up, rfSet, e4]
  by_cases e5 : i = k + 5
  · simp [va_up, rfSet, e5]
  by_cases e6 : i = k + 6
  · simp [va_up, rfSet, e6]
  by_cases e7 : i = k + 7
  · simp [va_up, rfSet, e7]
  simp [va_up, rfSet, e0, e1, e2, e3, e4, e5, e6, e7]
theorem rfAt_keep {G : Nat → va_E} (H : rfAt cI ad F k r ps sl sd ne fa bu hs st ln pt th) (hG : ∀ i, k ≤ i → i ≤ k + 7 → G i = F i) : rfAt cI ad G k r ps sl sd ne fa bu hs st ln pt th := by
  obtain ⟨h0, h1, h2, h3, h4, h5, h6, h7⟩ := H
  exact ⟨by rw [hG _ (by omega) (by omega)]; exact h0, by rw [hG _ (by omega) (by omega)]; exact h1, by rw [hG _ (by omega) (by omega)]; exact h2, by rw [hG _ (by omega) (by omega)]; exact h3, by rw [hG _ (by omega) (by omega)]; exact h4, by rw [hG _ (by omega) (by omega)]; exact h5, by rw [hG _ (by omega) (by omega)]; exact h6, by rw [hG _ (by omega) (by omega)]; exact h7⟩
end
section RS0
variable {p : Program} {l : Launch} {e : Env} {R : Room} {s : State} {m : MethodId} {args : Array Value} {below : List Frame} {meth : Method} {c : Code} {H : Heap} {locs : List Loc} {cells slots : Nat} {Q : State → Prop}
variable {cc : ByteArray} {pc : Nat} {ls : Array Slot} {rest : List Value}
theorem n_iadd0 (hx : p.tables.exec = Jvm.exec) (hb : c.code = cc) {b : Nat} (hdg : decode cc pc = .ok (.iadd, 1)) (k : W p l e R s m args below meth c H locs cells slots Q (F0 m (pc + 1) ls (.int (nI b) :: rest))) : W p l e R s m args below meth c H locs cells slots Q (F0 m pc ls (.int (nI b) :: .int (nI 0) :: rest)) :=
  n_iadd hx hb hdg (by rw [Nat.zero_add]; exact k)
end RS0
theorem btw_of {x : Int32} {a m : Nat} (ha : a < 2 ^ 31) (hm : m < 2 ^ 31) (h : btw x (nI a) (nI m) = true) : ∃ j : Nat, x = nI j ∧ a ≤ j ∧ j ≤ m := by
  simp only [btw, Bool.and_eq_true, Bool.not_eq_true', decide_eq_false_iff_not] at h
  obtain ⟨h1, h2⟩ := h
  have h0 : ¬ x < 0 := by
    intro q
    apply h1
    rw [Int32.lt_iff_toInt_lt] at q ⊢
    rw [nI_toInt ha]
    have : (0 : Int32).toInt = 0 := rfl
    omega
  obtain ⟨j, hj, rfl⟩ := nI_of h0
  exact ⟨j, rfl, Nat.not_lt.mp fun q => h1 ((nI_ltI hj ha).mpr q), Nat.not_lt.mp fun q => h2 ((nI_ltI hm hj).mpr q)⟩
theorem btw_eq {x : Int32} {a m : Nat} (h : btw x (nI a) (nI m) = true) (ha : a < 2 ^ 31 := by decide) (hm : m < 2 ^ 31 := by decide) : x = nI (ix x) := by
  obtain ⟨j, rfl, h1, h2⟩ := btw_of ha hm h
  rw [ix_nI (by omega)]
theorem btw_le {x : Int32} {a m : Nat} (h : btw x (nI a) (nI m) = true) (ha : a < 2 ^ 31 := by decide) (hm : m < 2 ^ 31 := by decide) : a ≤ ix x ∧ ix x ≤ m := by
  obtain ⟨j, rfl, h1, h2⟩ := btw_of ha hm h
  rw [ix_nI (by omega)]
  exact ⟨h1, h2⟩
theorem btw_nI {j a m : Nat} (h : a ≤ j ∧ j ≤ m) (hm : m < 2 ^ 31 := by decide) : btw (nI j) (nI a) (nI m) = true := by
  have h1 : ¬ nI j < nI a := fun q => absurd ((nI_ltI (by omega) (by omega)).mp q) (by omega)
  have h2 : ¬ nI m < nI j := fun q => absurd ((nI_ltI (by omega) (by omega)).mp q) (by omega)
  simp [btw, h1, h2]
theorem btw_wk (x : Int32) : btw x (nI 0) (nI 15) = wk x := by
  rw [Bool.eq_iff_iff]
  constructor
  · intro h
    obtain ⟨j, rfl, h1, h2⟩ := btw_of (by decide) (by decide) h
    exact wk_nI (by omega)
  · intro h
    obtain ⟨j, hj, rfl⟩ := wk_of h
    exact btw_nI (by omega)
theorem lt13 (x : Int32) : (nI 12 < x) ↔ (nI 13 ≤ x) := by
  rw [Int32.lt_iff_toInt_lt, Int32.le_iff_toInt_le, nI_toInt (by decide), nI_toInt (by decide)]
  omega
theorem btw_on (x y : Int32) : (btw x (nI 0) (nI 12) && btw y (nI 0) (nI 12)) = on x y := by
  have e : ∀ z : Int32, decide (nI 12 < z) = decide (nI 13 ≤ z) := fun z => by simp only [lt13]
  simp only [btw, on, e]
  rfl
theorem on_tt {x y : Int32} (h1 : btw x (nI 0) (nI 12) = true) (h2 : btw y (nI 0) (nI 12) = true) : on x y = true := by rw [← btw_on, h1, h2]; rfl
theorem on_f1 {x y : Int32} (h1 : btw x (nI 0) (nI 12) = false) : on x y = false := by rw [← btw_on, h1]; rfl
theorem on_f2 {x y : Int32} (h2 : btw y (nI 0) (nI 12) = false) : on x y = false := by rw [← btw_on, h2, Bool.and_false]
theorem ldg_nI {q : Nat} (hq : q < 2 ^ 31) (d : Int32) (f : Nat) : ldg (nI q) d f = ldL f (nI (q % 13)) (nI (q / 13)) (ea d) (so d) false := by
  rw [ldg, pk_rem hq (by decide) (by decide), pk_div hq (by decide) (by decide)]
theorem ea_0 {d : Nat} (h : d < 8) (q : d % 4 = 0) : ea (nI d) = nI 0 := (show ∀ d, d < 8 → d % 4 = 0 → ea (nI d) = nI 0 by decide) d h q
theorem ea_1 {d : Nat} (h : d < 8) (q : d % 4 ≠ 0) (z : d < 4) : ea (nI d) = nI 1 := (show ∀ d, d < 8 → d % 4 ≠ 0 → d < 4 → ea (nI d) = nI 1 by decide) d h q z
theorem ea_2 {d : Nat} (h : d < 8) (q : d % 4 ≠ 0) (z : 4 ≤ d) : ea (nI d) = -1 := (show ∀ d, d < 8 → d % 4 ≠ 0 → 4 ≤ d → ea (nI d) = -1 by decide) d h q z
theorem so_0 {d : Nat} (q : d = 2 ∨ d = 6) : so (nI d) = nI 0 := by rcases q with rfl | rfl <;> decide
theorem so_1 {d : Nat} (h : d < 8) (q : d ≠ 2) (z : d ≠ 6) (a : 2 < d) (b : d < 6) : so (nI d) = nI 1 := (show ∀ d, d < 8 → d ≠ 2 → d ≠ 6 → 2 < d → d < 6 → so (nI d) = nI 1 by decide) d h q z a b
theorem so_2 {d : Nat} (h : d < 8) (q : d ≠ 2) (z : d ≠ 6) (a : d ≤ 2 ∨ 6 ≤ d) : so (nI d) = -1 := (show ∀ d, d < 8 → d ≠ 2 → d ≠ 6 → (d ≤ 2 ∨ 6 ≤ d) → so (nI d) = -1 by decide) d h q z a
-- the reference's row
def rcv (r : Nat → Int32) (w : Nat) : Bool := !(pot r w) && !(decide (nI (hgt r (r w)) - nI 1 ≤ r (16 + w)))
def rwt (r : Nat → Int32) (q p : Int32) (i : Nat) : Bool := decide (r i = q) && decide (r (16 + i) = p)
def wat (r : Nat → Int32) (q p : Int32) : Int32 := fst (rwt r q p) 16 0
def rfr (r : Nat → Int32) (k w : Nat) : Bool := !(pot r (4 * k + w)) && (!(rcv r (4 * k + w)) && !(decide (r (4 * k + w) = nI (bs k))))
def rpt (r : Nat → Int32) (k : Nat) : Nat := 3 * potc r k + cnt (rfr r k) 4
def rtm (r : Nat → Int32) (k : Nat) : Nat := rpt r k + rpt r (k + 2)
def rwn (r : Nat → Int32) (w : Nat) : Nat := if over r = true then 1 else if r 56 = nI (w / 4) then (if pot r w = true then 3 else if rcv r w = true then 4 else 0) else 2
def rcc (r : Nat → Int32) (k : Nat) : Nat := cnt (fun i => rcv r (4 * k + i)) 4
def rbw (r : Nat → Int32) (w o : Nat) : Bool := !(pot r w) && (decide (r o = r w) && !(decide (r (16 + o) ≤ r (16 + w))))
def rbo (r : Nat → Int32) (k w : Nat) : Nat → Bool
  | 0 => false
  | n + 1 => if rbo r k w n = true then true else rbw r w (4 * k + n)
def rbl (r : Nat → Int32) (k : Nat) : Nat := cnt (fun w => rbo r k w 4 && !(decide (w / 4 = k))) 16
def rpl (r : Nat → Int32) : Nat := cnt (fun w => decide (r (16 + w) = 0)) 16
def rhi (r : Nat → Int32) : Nat → Int32
  | 0 => nI 0
  | n + 1 => if r (16 + n) + nI 1 ≤ rhi r n then rhi r n else r (16 + n) + nI 1
def rcs (r : Nat → Int32) : Nat := ((rcc r 0 + rcc r 1) + rcc r 2) + rcc r 3
def rbs (q d : Nat) : Int32 := beside (nI (q % 13)) (nI (q / 13)) (nI d)
def rwl (r : Nat → Int32) (q n d : Nat) : Nat := if over r = true then 1 else if hgt r (nI q) < n then 2 else if ¬ wat r (nI q) (nI (hgt r (nI q) - 1)) / nI 4 = r 56 then 3 else if ¬ nI n ≤ r 57 then 4 else if rbs q d = -1 then 5 else 0
theorem rcc_le (r : Nat → Int32) (k : Nat) : rcc r k ≤ 4 := cnt_le _ 4
theorem rpt_le (r : Nat → Int32) (k : Nat) : rpt r k ≤ 16 := by
  have h1 := potc_le r k
  have h2 := cnt_le (rfr r k) 4
  unfold rpt
  omega
theorem fst_mem {p : Nat → Bool} : ∀ (n i : Nat), i + n < 2 ^ 31 → fst p n i = -1 ∨ ∃ j, i ≤ j ∧ j < i + n ∧ p j = true ∧ fst p n i = nI j
  | 0, _, _ => Or.inl rfl
  | n + 1, i, hb => by
    simp only [fst]
    by_cases h : p i = true
    · rw [if_pos h]
      exact Or.inr ⟨i, Nat.le_refl i, by omega, h, rfl⟩
    · rw [if_neg h]
      rcases fst_mem n (i + 1) (by omega) with q | ⟨j, a, b, c, d⟩
      · exact Or.inl q
      · exact Or.inr ⟨j, by omega, by omega, c, d⟩
theorem or0 (x : Int32) : x ||| nI 0 = x := by rw [show nI 0 = 0 from rfl]; exact Int32.or_zero
end
