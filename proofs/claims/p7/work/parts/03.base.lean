/-! THE POOL: objects 0 .. N-1 at the addresses ad, object k with the contents F k -/
def iW (ad : Nat → Nat) (N : Nat) (F : Nat → va_E) : va_W := (List.range N).map (fun k => (ad k, F k))
theorem iW_get {ad : Nat → Nat} {N : Nat} {F : Nat → va_E} {k : Nat} (h : k < N) : (iW ad N F)[k]? = some (ad k, F k) := by
  simp [iW, List.getElem?_map, List.getElem?_range, h]
theorem iW_at {ad : Nat → Nat} {N : Nat} {F : Nat → va_E} {k : Nat} {e : va_E} (h : k < N) (he : F k = e) : (iW ad N F)[k]? = some (ad k, e) := by
  rw [iW_get h, he]
theorem iW_inv {ad : Nat → Nat} {N : Nat} {F : Nat → va_E} {k : Nat} {q : Nat × va_E} (h : (iW ad N F)[k]? = some q) : k < N ∧ q = (ad k, F k) := by
  have hk : k < N := by
    have := (List.getElem?_eq_some_iff.mp h).1
    simpa [iW] using this
  rw [iW_get hk] at h
  exact ⟨hk, (Option.some.inj h).symm⟩
theorem iW_set {ad : Nat → Nat} {N : Nat} {F : Nat → va_E} {k : Nat} {e : va_E} (h : k < N) : (iW ad N F).set k (ad k, e) = iW ad N (va_up F k e) := by
  apply List.ext_getElem?
  intro j
  rw [List.getElem?_set]
  by_cases hj : k = j
  · subst hj
    rw [if_pos rfl, if_pos (by simpa [iW] using h), iW_get h, va_up_self]
  · rw [if_neg hj]
    by_cases hl : j < N
    · rw [iW_get hl, iW_get hl, va_up_ne _ _ (Ne.symm hj)]
    · rw [List.getElem?_eq_none (by simp [iW]; omega), List.getElem?_eq_none (by simp [iW]; omega)]
theorem iW_push {ad : Nat → Nat} {N : Nat} {F : Nat → va_E} {q : Nat} {e : va_E} : iW ad N F ++ [(q, e)] = iW (va_up ad N q) (N + 1) (va_up F N e) := by
  apply List.ext_getElem?
  intro j
  by_cases hl : j < N
  · rw [List.getElem?_append_left (by simpa [iW] using hl), iW_get hl, iW_get (by omega), va_up_ne _ _ (by omega), va_up_ne _ _ (by omega)]
  · by_cases he : j = N
    · subst he
      rw [List.getElem?_append_right (by simp [iW]), iW_get (by omega), va_up_self, va_up_self]
      simp [iW]
    · rw [List.getElem?_eq_none (by simp [iW]; omega), List.getElem?_eq_none (by simp [iW]; omega)]
/-- which cells a method may change -/
def iA (ad : Nat → Nat) (N sz : Nat) : Nat → Prop := fun q => (∃ k, k < N ∧ q = ad k) ∨ sz ≤ q
/-- the addresses are apart -/
def iD (ad : Nat → Nat) (N : Nat) : Prop := ∀ i j, i < N → j < N → ad i = ad j → i = j
theorem iD_D {ad : Nat → Nat} {N : Nat} {A : Nat → Prop} {F : Nat → va_E} (h : iD ad N) (hA : ∀ k, k < N → A (ad k)) : va_D A (iW ad N F) := by
  refine ⟨fun i j p q hi hj hpq => ?_, fun k q hk => ?_⟩
  · obtain ⟨a1, a2⟩ := iW_inv hi
    obtain ⟨b1, b2⟩ := iW_inv hj
    rw [a2, b2] at hpq
    exact h i j a1 b1 hpq
  · obtain ⟨a1, a2⟩ := iW_inv hk
    rw [a2]
    exact hA k a1
theorem iD_of {ad : Nat → Nat} {N : Nat} {A : Nat → Prop} {F : Nat → va_E} (h : va_D A (iW ad N F)) : iD ad N ∧ ∀ k, k < N → A (ad k) :=
  ⟨fun i j hi hj e => h.1 i j _ _ (iW_get hi) (iW_get hj) e, fun k hk => h.2 k _ (iW_get hk)⟩
abbrev iT (cI cQ cL : ClassId) : List (ClassId × FieldType) := [(cI, .int), (cQ, .object "SquopPiles$State"), (cL, .long)]
/-- what links members of the nest -/
def nestF : List (String × Nat × String × String × String) := [("SquopPiles$State", 77, "SquopPiles$Mat", "cell", "[I"), ("SquopPiles", 170, "SquopPiles$Mat", "cell", "[I"), ("SquopPiles", 94, "SquopPiles$State", "mat", "LSquopPiles$Mat;"), ("SquopPiles", 177, "SquopPiles$State", "flights", "[I"), ("SquopPiles", 210, "SquopPiles$State", "fouls", "[I"), ("SquopPiles", 213, "SquopPiles$State", "lost", "[I"), ("SquopPiles", 219, "SquopPiles$State", "turn", "I"), ("SquopPiles", 237, "SquopPiles$State", "lifts", "I"), ("SquopPiles", 109, "SquopPiles$State", "setting", "I"), ("SquopPiles", 156, "SquopPiles$Past", "many", "I"), ("SquopPiles", 128, "SquopPiles$GameText", "length", "I")]
def nestM : List (String × Nat × MethodName) := [(RX5, 9, yX4_init), (RX1, 21, yX5_colourOf), (RX1, 25, yX5_baseOf), (RX2, 24, yX4_init), (RX5, 28, yX0_init), (RX5, 42, yX3_init), (RX4, 52, yX5_colourOf), (RX1, 34, yX5_isWink), (RX3, 31, yX5_landing), (RX4, 80, yX5_stepsOf), (RX4, 83, yX5_landing), (RX4, 86, yX5_restingCell), (RX4, 99, yX5_flightAnswer), (RX4, 63, yX5_cellAt), (RX4, 73, yX5_cellBeside), (RX4, 102, yX5_isWink)]
def NW (U : State) : Prop := (∀ q ∈ nestF, va_Nw (.fieldLinkNest q.1 q.2.1 q.2.2.1 q.2.2.2.1 q.2.2.2.2 "SquopPiles") U) ∧ ∀ q ∈ nestM, va_Nw (.methodLinkNest q.1 q.2.1 q.2.2 "SquopPiles") U
theorem NW.warm {s U : State} (hW : s.WarmedH U.vm) (h : NW s) : NW U := ⟨fun q hq => va_Nw.warmF hW (h.1 q hq), fun q hq => va_Nw.warmM hW (h.2 q hq)⟩
theorem NW.same {u U : State} (e : u.vm = U.vm) (h : NW u) : NW U := ⟨fun q hq => va_Nw.same rfl e (h.1 q hq), fun q hq => va_Nw.same rfl e (h.2 q hq)⟩
/-- the world of a method that reads -/
def rW (D : va_G) (cI cQ cL : ClassId) (ad : Nat → Nat) (N : Nat) (F : Nat → va_E) (U : State) : Prop := va_P D vwCl (iW ad N F) U.heap ∧ va_K D vwCl (iT cI cQ cL) U ∧ NW U
theorem rW_blind {D : va_G} {cI cQ cL : ClassId} {ad : Nat → Nat} {N : Nat} {F : Nat → va_E} {args : List Value} : FrameBlind (va_Pc args (rW D cI cQ cL ad N F)) :=
  fun a U g mk q => ⟨q.1, q.2.1, va_K.moved (u := U) (U := U.calling g mk a) (Vm.Alike.refl U.vm) q.2.2.1, NW.same rfl q.2.2.2⟩
/-- a method that reads, in a world -/
def MR (l : Launch) (y : MethodName) (ws : List Cond) (rm : Room) (D : va_G) (cI cQ cL : ClassId) (ad : Nat → Nat) (N : Nat) (F : Nat → va_E) (args : List Value) (r : Value) : Prop :=
  Met l y ws rm (va_Pc args (rW D cI cQ cL ad N F)) (fun _ st o t => o = .returned (some r) ∧ t.heap = st.heap) 0 0 (fun _ => False)
/-- a method of its arguments alone -/
def MP (l : Launch) (y : MethodName) (ws : List Cond) (rm : Room) (args : List Value) (r : Value) : Prop :=
  Met l y ws rm (va_Pc args (fun _ => True)) (fun _ st o t => o = .returned (some r) ∧ t.heap = st.heap) 0 0 (fun _ => False)
theorem MP_blind {args : List Value} : FrameBlind (va_Pc args (fun _ => True)) := fun _ _ _ _ q => q
section MRS
variable {l : Launch} {y : MethodName} {ws ws' : List Cond} {rm : Room} {cc : ByteArray} {maxL : Nat} {D : va_G} {cI cQ cL : ClassId} {ad : Nat → Nat} {N : Nat} {F : Nat → va_E} {args : List Value}
theorem mr_i {ty : FieldType} {r : Int32} (hy : plainName y.cls = true) (hw : ws = Cond.code y cc maxL (some ty) :: ws') (hrc : rm.cells = 0) (hrs : rm.slots = 0) (hn : narrow ty (.int r) = .int r) (hlen : (lg_sl args).length ≤ maxL)
    (body : ∀ (p : Program) (e : Env) (s : State) (m : MethodId) (below : List Frame) (meth : Method) (c : Code) (Q : State → Prop) (ls : Array Slot),
      p.tables.exec = Jvm.exec → c.code = cc → c.maxLocals = maxL → s.vm.findClass y.cls = some m.cls → (∀ w ∈ ws, w.before args.toArray s = true) → va_P D vwCl (iW ad N F) s.heap → va_K D vwCl (iT cI cQ cL) s → NW s →
      (∀ (pc : Nat) (ls : Array Slot) (v : Int32), v = r → decode cc pc = .ok (.ireturn, 1) → W p l e rm s m args.toArray below meth c s.heap [] 0 0 Q (F0 m pc ls [.int v])) →
      lv_has ls maxL (lv_args 0 args) → W p l e rm s m args.toArray below meth c s.heap [] 0 0 Q (F0 m 0 ls [])) : MR l y ws rm D cI cQ cL ad N F args (.int r) := by
  refine Met.ofW (cc := cc) (maxL := maxL) (ret := some ty) hy hw ?_
  intro p e s m args9 below meth c s₁ B hml hv
  obtain ⟨rfl, hP, hK, hNW⟩ := hv
  have hl := lv_entry args (n := maxL) hlen
  rw [lg_entry_eq]
  exact body p e s m below meth c _ _ B.exec B.bytes hml (findClass_of_methodNamed B.named) (atoms_spec B.pre) hP hK hNW (fun pc ls v hv hd => by
    subst hv
    exact W.zret B.exec B.bytes B.returns hn (fun t ht _ => ⟨rfl, ht⟩) (fun _ h => nomatch h) hd B.notSynchronized) hl
theorem mp_i {ty : FieldType} {r : Int32} (hy : plainName y.cls = true) (hw : ws = Cond.code y cc maxL (some ty) :: ws') (hrc : rm.cells = 0) (hrs : rm.slots = 0) (hn : narrow ty (.int r) = .int r) (hlen : (lg_sl args).length ≤ maxL)
    (body : ∀ (p : Program) (e : Env) (s : State) (m : MethodId) (below : List Frame) (meth : Method) (c : Code) (Q : State → Prop) (ls : Array Slot),
      p.tables.exec = Jvm.exec → c.code = cc → c.maxLocals = maxL → s.vm.findClass y.cls = some m.cls → (∀ w ∈ ws, w.before args.toArray s = true) →
      (∀ (pc : Nat) (ls : Array Slot) (v : Int32), v = r → decode cc pc = .ok (.ireturn, 1) → W p l e rm s m args.toArray below meth c s.heap [] 0 0 Q (F0 m pc ls [.int v])) →
      lv_has ls maxL (lv_args 0 args) → W p l e rm s m args.toArray below meth c s.heap [] 0 0 Q (F0 m 0 ls [])) : MP l y ws rm args (.int r) := by
  refine Met.ofW (cc := cc) (maxL := maxL) (ret := some ty) hy hw ?_
  intro p e s m args9 below meth c s₁ B hml hv
  obtain ⟨rfl, -⟩ := hv
  have hl := lv_entry args (n := maxL) hlen
  rw [lg_entry_eq]
  exact body p e s m below meth c _ _ B.exec B.bytes hml (findClass_of_methodNamed B.named) (atoms_spec B.pre) (fun pc ls v hv hd => by
    subst hv
    exact W.zret B.exec B.bytes B.returns hn (fun t ht _ => ⟨rfl, ht⟩) (fun _ h => nomatch h) hd B.notSynchronized) hl
end MRS
section ROWS
variable {p : Program} {l : Launch} {e : Env} {R : Room} {s : State} {m : MethodId} {args : Array Value} {below : List Frame} {meth : Method} {c : Code} {H : Heap} {locs : List Loc} {cells slots : Nat} {Q : State → Prop}
variable {cc : ByteArray} {pc : Nat} {ls : Array Slot} {rest st0 : List Value} {D : va_G} {cI cQ cL : ClassId} {ad : Nat → Nat} {N : Nat} {F : Nat → va_E} {A : Nat → Prop} {H0 : Heap} {Ts : List Cond}
theorem gf (hx : p.tables.exec = Jvm.exec) (hb : c.code = cc) {own ref C : String} {T : u_T} {n ci index : Nat} (hts : ∀ w ∈ Ts, w.before args s = true) (hin : ∀ w ∈ u_ws C T n, w ∈ Ts) (hown : s.vm.findClass own = some m.cls) (hK : va_K D vwCl (iT cI cQ cL) s) (hP : va_P D vwCl (iW ad N F) H) {k : Nat} (hk : k < N) {fs : List Value} (hF : F k = .inr (ci, fs)) (hc : vwCl[ci]? = some (C, T, n)) (j : Nat) (hj : j < n) (hlink : (Cond.fieldLink own index ref (T j).2.1 (T j).2.2.1).before args s = true) (hsame : ∀ x, s.fieldFound? (T j).1 (T j).2.1 (T j).2.2.1 = some x → s.fieldFound? ref (T j).2.1 (T j).2.2.1 = some x) {v : Value} (hv : fs[j]? = some v) (hdg : decode cc pc = .ok (.getfield index, 3))
    (kk : W p l e R s m args below meth c H locs cells slots Q (F0 m (pc + 3) ls (v :: rest))) : W p l e R s m args below meth c H locs cells slots Q (F0 m pc ls (.ref (ad k) :: rest)) :=
  va_get hx hb hts hin hown hK hP k (iW_at hk hF) hc j hj hlink hsame hv hdg kk
theorem gfN (hx : p.tables.exec = Jvm.exec) (hb : c.code = cc) {own ref C host : String} {T : u_T} {n ci index : Nat} (hts : ∀ w ∈ Ts, w.before args s = true) (hin : ∀ w ∈ u_ws C T n, w ∈ Ts) (hown : s.vm.findClass own = some m.cls) (hK : va_K D vwCl (iT cI cQ cL) s) (hP : va_P D vwCl (iW ad N F) H) {k : Nat} (hk : k < N) {fs : List Value} (hF : F k = .inr (ci, fs)) (hc : vwCl[ci]? = some (C, T, n)) (j : Nat) (hj : j < n) (hlink : va_Nw (.fieldLinkNest own index ref (T j).2.1 (T j).2.2.1 host) s) (hsame : ∀ x, s.fieldFound? (T j).1 (T j).2.1 (T j).2.2.1 = some x → s.fieldFound? ref (T j).2.1 (T j).2.2.1 = some x) {v : Value} (hv : fs[j]? = some v) (hdg : decode cc pc = .ok (.getfield index, 3))
    (kk : W p l e R s m args below meth c H locs cells slots Q (F0 m (pc + 3) ls (v :: rest))) : W p l e R s m args below meth c H locs cells slots Q (F0 m pc ls (.ref (ad k) :: rest)) :=
  va_getN hx hb hts hin hown hK hP k (iW_at hk hF) hc j hj (va_Nw.use rfl hlink) hsame hv hdg kk
theorem ald (hx : p.tables.exec = Jvm.exec) (hb : c.code = cc) (hK : va_K D vwCl (iT cI cQ cL) s) (hP : va_P D vwCl (iW ad N F) H) {k n : Nat} {f : Nat → Int32} {x : Int32} {j : Nat} (hk : k < N) (hF : F k = .inl (cI, n, .inl f)) (hxj : x = nI j) (hj : j < n) (hn : n < 2 ^ 31) (hdg : decode cc pc = .ok (.iaload, 1))
    (kk : W p l e R s m args below meth c H locs cells slots Q (F0 m (pc + 1) ls (.int (f j) :: rest))) : W p l e R s m args below meth c H locs cells slots Q (F0 m pc ls (.int x :: .ref (ad k) :: rest)) := by
  subst hxj
  refine va_iald hx hb hK hP k 0 (iW_at hk hF) rfl (vp_in_nI hj hn) hdg ?_
  rw [nI_clamp (Nat.lt_trans hj hn)]
  exact kk
theorem alen (hx : p.tables.exec = Jvm.exec) (hb : c.code = cc) (hK : va_K D vwCl (iT cI cQ cL) s) (hP : va_P D vwCl (iW ad N F) H) {k n : Nat} {f : Nat → Int32} (hk : k < N) (hF : F k = .inl (cI, n, .inl f)) (hdg : decode cc pc = .ok (.arraylength, 1))
    (kk : W p l e R s m args below meth c H locs cells slots Q (F0 m (pc + 1) ls (.int (nI n) :: rest))) : W p l e R s m args below meth c H locs cells slots Q (F0 m pc ls (.ref (ad k) :: rest)) :=
  va_alen hx hb hK hP k 0 (iW_at hk hF) (ty := .int) rfl rfl hdg kk
/-- behind a call that reads -/
theorem cp {r : Value} (hr : va_Run p l e R s m args below meth c H locs cells slots 0 0 (F0 m pc ls st0) rest (fun st o t => o = .returned (some r) ∧ t.heap = st.heap) (fun _ => False))
    (kk : W p l e R s m args below meth c H locs cells slots Q (F0 m (pc + 3) ls (r :: rest))) : W p l e R s m args below meth c H locs cells slots Q (F0 m pc ls st0) := by
  intro T hT X
  obtain ⟨v, st₀, t, T', L, h0, X', hL, e1, e2, ⟨hv, hh⟩, st⟩ := hr T hT X
  cases hv
  have hLn : L = [] := by
    cases L with
    | nil => rfl
    | cons a L => exact (hL a List.mem_cons_self).elim
  subst hLn
  rw [List.append_nil] at X'
  obtain ⟨t2, a1, b1⟩ := kk T' (by rw [e1, hh, h0]) X'
  exact ⟨t2, st t2 a1, b1⟩
theorem icond {k ci n : Nat} {C : String} {T : u_T} {fs : List Value} (hK : va_K D vwCl (iT cI cQ cL) s) (hP : va_P D vwCl (iW ad N F) H) (hk : k < N) (hF : F k = .inr (ci, fs)) (hc : vwCl[ci]? = some (C, T, n)) : ∃ cell : Cell, H[ad k]? = some cell ∧ cell.vm.isStatics = false ∧ s.vm.findClass C = some cell.cls :=
  va_recv hK hP hc (iW_at hk hF)
theorem rW_pre {argl : List Value} {U : State} (hK : va_K D vwCl (iT cI cQ cL) s) (hP : va_P D vwCl (iW ad N F) H) (hNW : NW s) (hU : U.heap = H) (hW : s.WarmedH U.vm) : va_Pc argl (rW D cI cQ cL ad N F) argl.toArray U :=
  ⟨rfl, by rw [hU]; exact hP, va_K.moved hW.alike hK, hNW.warm hW⟩
/-- a call of a virtual method that reads -/
theorem cvR {nL index na : Nat} {own C : String} {y : MethodName} {bytes : ByteArray} {maxL : Nat} {ret : Option FieldType} {ws : List Cond} {rm : Room} {As : List Value} {r : Value} {k ci n : Nat} {T : u_T} {fs : List Value}
    (S : CallFix p m c cc nL s args Ts own) (hM : MR l y ws rm D cI cQ cL ad N F (.ref (ad k) :: As) r) (cw : CallW R s args own C index y bytes maxL ret ws rm 0 0 na) (hK : va_K D vwCl (iT cI cQ cL) s) (hP : va_P D vwCl (iW ad N F) H) (hNW : NW s) (hk : k < N) (hF : F k = .inr (ci, fs)) (hc : vwCl[ci]? = some (C, T, n))
    (hn : As.length = na) (hsize : ls.size = nL) (hstack : st0 = As.reverse ++ .ref (ad k) :: rest) (hW : (rest.map fun v => v.category).sum ≤ 8) (hf : cells + 0 ≤ R.cells ∧ slots + 0 ≤ R.slots) (hdg : decode cc pc = .ok (.invokevirtual index, 3))
    (kk : W p l e R s m args below meth c H locs cells slots Q (F0 m (pc + 3) ls (r :: rest))) : W p l e R s m args below meth c H locs cells slots Q (F0 m pc ls st0) :=
  cp (va_runV (g := F0 m pc ls st0) S hM cw ⟨rW_blind, icond hK hP hk hF hc, fun U hU hW => rW_pre hK hP hNW hU hW⟩ rfl hn hsize hstack (lv_room hW) hdg hf) kk
/-- a call of a static method of its arguments alone -/
theorem csP {nL index na : Nat} {own : String} {y : MethodName} {bytes : ByteArray} {maxL : Nat} {ret : Option FieldType} {ws : List Cond} {rm : Room} {As : List Value} {r : Value}
    (S : CallFix p m c cc nL s args Ts own) (hM : MP l y ws rm As r) (cw : CallB R s args own index y bytes maxL ret ws rm 0 0 na ∧ (Cond.static y).before args s = true)
    (hn : As.length = na) (hsize : ls.size = nL) (hstack : st0 = As.reverse ++ rest) (hW : (rest.map fun v => v.category).sum ≤ 8) (hf : cells + 0 ≤ R.cells ∧ slots + 0 ≤ R.slots) (hdg : decode cc pc = .ok (.invokestatic index, 3))
    (kk : W p l e R s m args below meth c H locs cells slots Q (F0 m (pc + 3) ls (r :: rest))) : W p l e R s m args below meth c H locs cells slots Q (F0 m pc ls st0) :=
  cp (va_runS (g := F0 m pc ls st0) S hM cw ⟨MP_blind, fun U hU hW => ⟨rfl, trivial⟩⟩ rfl hn hsize hstack (lv_room hW) hdg hf) kk
theorem csPN {nL index na : Nat} {own host : String} {y : MethodName} {bytes : ByteArray} {maxL : Nat} {ret : Option FieldType} {ws : List Cond} {rm : Room} {As : List Value} {r : Value}
    (S : CallFix p m c cc nL s args Ts own) (hM : MP l y ws rm As r) (cw : va_CN R s args own index y host bytes maxL ret ws rm 0 0 na) (hst : (Cond.static y).before args s = true)
    (hn : As.length = na) (hsize : ls.size = nL) (hstack : st0 = As.reverse ++ rest) (hW : (rest.map fun v => v.category).sum ≤ 8) (hf : cells + 0 ≤ R.cells ∧ slots + 0 ≤ R.slots) (hdg : decode cc pc = .ok (.invokestatic index, 3))
    (kk : W p l e R s m args below meth c H locs cells slots Q (F0 m (pc + 3) ls (r :: rest))) : W p l e R s m args below meth c H locs cells slots Q (F0 m pc ls st0) :=
  cp (va_runSN (g := F0 m pc ls st0) S hM ⟨cw, hst, trivial⟩ ⟨MP_blind, fun U hU hW => ⟨rfl, trivial⟩⟩ rfl hn hsize hstack (lv_room hW) hdg hf) kk
end ROWS
