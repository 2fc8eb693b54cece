/-- a method that writes, in a world: what it answers and leaves -/
def MX (l : Launch) (y : MethodName) (ws : List Cond) (rm : Room) (D : va_G) (cI cQ cL : ClassId) (ad : Nat → Nat) (N : Nat) (F : Nat → va_E) (args : List Value) (post : Option Value → (Nat → va_E) → Prop) (mc ms : Nat) : Prop :=
  ∀ sz : Nat, Met l y ws rm (va_Pc args (fun U => U.heap.size = sz ∧ iD ad N ∧ rW D cI cQ cL ad N F U)) (fun _ st o t => ∃ (v : Option Value) (F' : Nat → va_E), o = .returned v ∧ post v F' ∧ va_P D vwCl (iW ad N F') t.heap ∧ va_F (iA ad N sz) st t) mc ms (iA ad N sz)
/-- one answer, one world -/
def dp (r : Option Value) (G : Nat → va_E) : Option Value → (Nat → va_E) → Prop := fun v F' => v = r ∧ F' = G
theorem MX_blind {D : va_G} {cI cQ cL : ClassId} {ad : Nat → Nat} {N : Nat} {F : Nat → va_E} {args : List Value} {sz : Nat} : FrameBlind (va_Pc args (fun U => U.heap.size = sz ∧ iD ad N ∧ rW D cI cQ cL ad N F U)) :=
  fun a U g mk q => ⟨q.1, q.2.1, q.2.2.1, q.2.2.2.1, va_K.moved (u := U) (U := U.calling g mk a) (Vm.Alike.refl U.vm) q.2.2.2.2.1, NW.same rfl q.2.2.2.2.2⟩
section MXS
variable {l : Launch} {y : MethodName} {ws ws' : List Cond} {rm : Room} {cc : ByteArray} {maxL : Nat} {D : va_G} {cI cQ cL : ClassId} {ad : Nat → Nat} {N : Nat} {F : Nat → va_E} {args : List Value} {post : Option Value → (Nat → va_E) → Prop} {mc ms : Nat}
theorem mx_i {ty : FieldType} (hy : plainName y.cls = true) (hw : ws = Cond.code y cc maxL (some ty) :: ws') (hlen : (lg_sl args).length ≤ maxL)
    (body : ∀ (p : Program) (e : Env) (s : State) (m : MethodId) (below : List Frame) (meth : Method) (c : Code) (Q : State → Prop) (ls : Array Slot),
      p.tables.exec = Jvm.exec → c.code = cc → c.maxLocals = maxL → s.vm.findClass y.cls = some m.cls → (∀ w ∈ ws, w.before args.toArray s = true) → iD ad N → va_P D vwCl (iW ad N F) s.heap → va_K D vwCl (iT cI cQ cL) s → NW s → va_S (iA ad N s.heap.size) s.heap s.heap [] →
      (∀ (pc : Nat) (ls : Array Slot) (v : Int32) (H : Heap) (locs : List Loc) (F' : Nat → va_E) (k n : Nat), narrow ty (.int v) = .int v → post (some (.int v)) F' → va_P D vwCl (iW ad N F') H → va_S (iA ad N s.heap.size) s.heap H locs → k ≤ mc → n ≤ ms → decode cc pc = .ok (.ireturn, 1) → W p l e rm s m args.toArray below meth c H locs k n Q (F0 m pc ls [.int v])) →
      lv_has ls maxL (lv_args 0 args) → W p l e rm s m args.toArray below meth c s.heap [] 0 0 Q (F0 m 0 ls [])) : MX l y ws rm D cI cQ cL ad N F args post mc ms := by
  intro sz
  refine Met.ofW (cc := cc) (maxL := maxL) (ret := some ty) hy hw ?_
  intro p e s m args9 below meth c s₁ B hml hv
  obtain ⟨rfl, hsz, hDi, hP, hK, hNW⟩ := hv
  subst hsz
  have hl := lv_entry args (n := maxL) hlen
  rw [lg_entry_eq]
  exact body p e s m below meth c _ _ B.exec B.bytes hml (findClass_of_methodNamed B.named) (atoms_spec B.pre) hDi hP hK hNW va_S.rf (fun pc ls v H locs F' k n hn hp hP1 hS h1 h2 hd => by
    refine W.widen (k := mc) (n := ms) h1 h2 ?_
    exact W.zret B.exec B.bytes B.returns hn (fun t ht _ => ⟨_, F', rfl, hp, by rw [ht]; exact hP1, hS.F ht⟩) hS.2.2 hd B.notSynchronized) hl
theorem mx_v (hy : plainName y.cls = true) (hw : ws = Cond.code y cc maxL none :: ws') (hlen : (lg_sl args).length ≤ maxL)
    (body : ∀ (p : Program) (e : Env) (s : State) (m : MethodId) (below : List Frame) (meth : Method) (c : Code) (Q : State → Prop) (ls : Array Slot),
      p.tables.exec = Jvm.exec → c.code = cc → c.maxLocals = maxL → s.vm.findClass y.cls = some m.cls → (∀ w ∈ ws, w.before args.toArray s = true) → iD ad N → va_P D vwCl (iW ad N F) s.heap → va_K D vwCl (iT cI cQ cL) s → NW s → va_S (iA ad N s.heap.size) s.heap s.heap [] →
      (∀ (pc : Nat) (ls : Array Slot) (H : Heap) (locs : List Loc) (F' : Nat → va_E) (k n : Nat), post none F' → va_P D vwCl (iW ad N F') H → va_S (iA ad N s.heap.size) s.heap H locs → k ≤ mc → n ≤ ms → decode cc pc = .ok (.return_, 1) → W p l e rm s m args.toArray below meth c H locs k n Q (F0 m pc ls [])) →
      lv_has ls maxL (lv_args 0 args) → W p l e rm s m args.toArray below meth c s.heap [] 0 0 Q (F0 m 0 ls [])) : MX l y ws rm D cI cQ cL ad N F args post mc ms := by
  intro sz
  refine Met.ofW (cc := cc) (maxL := maxL) (ret := none) hy hw ?_
  intro p e s m args9 below meth c s₁ B hml hv
  obtain ⟨rfl, hsz, hDi, hP, hK, hNW⟩ := hv
  subst hsz
  have hl := lv_entry args (n := maxL) hlen
  rw [lg_entry_eq]
  exact body p e s m below meth c _ _ B.exec B.bytes hml (findClass_of_methodNamed B.named) (atoms_spec B.pre) hDi hP hK hNW va_S.rf (fun pc ls H locs F' k n hp hP1 hS h1 h2 hd => by
    refine W.widen (k := mc) (n := ms) h1 h2 ?_
    exact W.vret B.exec B.bytes B.returns (fun t ht _ => ⟨_, F', rfl, hp, by rw [ht]; exact hP1, hS.F ht⟩) hS.2.2 hd B.notSynchronized) hl
end MXS
section WROWS
variable {p : Program} {l : Launch} {e : Env} {R : Room} {s : State} {m : MethodId} {args : Array Value} {below : List Frame} {meth : Method} {c : Code} {H : Heap} {locs : List Loc} {cells slots : Nat} {Q : State → Prop}
variable {cc : ByteArray} {pc : Nat} {ls : Array Slot} {rest st0 : List Value} {D : va_G} {cI cQ cL : ClassId} {ad : Nat → Nat} {N : Nat} {F : Nat → va_E} {Ts : List Cond}
theorem iA_D (h : iD ad N) {F : Nat → va_E} {sz : Nat} : va_D (iA ad N sz) (iW ad N F) := iD_D h (fun k hk => Or.inl ⟨k, hk, rfl⟩)
theorem pf (F' : Nat → va_E) (hx : p.tables.exec = Jvm.exec) (hb : c.code = cc) {own ref C : String} {T : u_T} {n ci index : Nat} (hts : ∀ w ∈ Ts, w.before args s = true) (hin : ∀ w ∈ u_ws C T n, w ∈ Ts) (ty0 : Nat → FieldType) (hty : ∀ k, k < n → parseFieldDescriptor (T k).2.2.1 = some (ty0 k)) (hnm : ∀ a, a < n → ∀ b, b < n → a ≠ b → (T a).2.1 ≠ (T b).2.1) (hown : s.vm.findClass own = some m.cls) (hK : va_K D vwCl (iT cI cQ cL) s) (hDi : iD ad N) (hP : va_P D vwCl (iW ad N F) H) (hS : va_S (iA ad N s.heap.size) s.heap H locs) {k : Nat} (hk : k < N) {fs : List Value} (hF : F k = .inr (ci, fs)) (hc : vwCl[ci]? = some (C, T, n)) (j : Nat) (hj : j < n) (hlink : (Cond.fieldLink own index ref (T j).2.1 (T j).2.2.1).before args s = true) (hsame : ∀ x, s.fieldFound? (T j).1 (T j).2.1 (T j).2.2.1 = some x → s.fieldFound? ref (T j).2.1 (T j).2.2.1 = some x) (hfin : (T j).2.2.2 = false) {ty : FieldType} {v : Value} (hd : parseFieldDescriptor (T j).2.2.1 = some ty) (hn : narrow ty v = v) (hfit : fits ty v = true) (hl : j < fs.length) (hdg : decode cc pc = .ok (.putfield index, 3)) (hcan : va_up F k (.inr (ci, fs.set j v)) = F')
    (kk : ∀ (H1 : Heap) (locs1 : List Loc), va_P D vwCl (iW ad N F') H1 → va_S (iA ad N s.heap.size) s.heap H1 locs1 → W p l e R s m args below meth c H1 locs1 cells slots Q (F0 m (pc + 3) ls rest)) : W p l e R s m args below meth c H locs cells slots Q (F0 m pc ls (v :: .ref (ad k) :: rest)) :=
  va_put hx hb hts hin ty0 hty hnm hown hK hP (iA_D hDi) hS k (iW_at hk hF) hc j hj hlink hsame hfin hd hn hfit hl hdg (fun H1 locs1 hP1 hD1 hS1 => kk H1 locs1 (by rw [iW_set hk, hcan] at hP1; exact hP1) hS1)
theorem pfN (F' : Nat → va_E) (hx : p.tables.exec = Jvm.exec) (hb : c.code = cc) {own ref C host : String} {T : u_T} {n ci index : Nat} (hts : ∀ w ∈ Ts, w.before args s = true) (hin : ∀ w ∈ u_ws C T n, w ∈ Ts) (ty0 : Nat → FieldType) (hty : ∀ k, k < n → parseFieldDescriptor (T k).2.2.1 = some (ty0 k)) (hnm : ∀ a, a < n → ∀ b, b < n → a ≠ b → (T a).2.1 ≠ (T b).2.1) (hown : s.vm.findClass own = some m.cls) (hK : va_K D vwCl (iT cI cQ cL) s) (hDi : iD ad N) (hP : va_P D vwCl (iW ad N F) H) (hS : va_S (iA ad N s.heap.size) s.heap H locs) {k : Nat} (hk : k < N) {fs : List Value} (hF : F k = .inr (ci, fs)) (hc : vwCl[ci]? = some (C, T, n)) (j : Nat) (hj : j < n) (hlink : va_Nw (.fieldLinkNest own index ref (T j).2.1 (T j).2.2.1 host) s) (hsame : ∀ x, s.fieldFound? (T j).1 (T j).2.1 (T j).2.2.1 = some x → s.fieldFound? ref (T j).2.1 (T j).2.2.1 = some x) (hfin : (T j).2.2.2 = false) {ty : FieldType} {v : Value} (hd : parseFieldDescriptor (T j).2.2.1 = some ty) (hn : narrow ty v = v) (hfit : fits ty v = true) (hl : j < fs.length) (hdg : decode cc pc = .ok (.putfield index, 3)) (hcan : va_up F k (.inr (ci, fs.set j v)) = F')
    (kk : ∀ (H1 : Heap) (locs1 : List Loc), va_P D vwCl (iW ad N F') H1 → va_S (iA ad N s.heap.size) s.heap H1 locs1 → W p l e R s m args below meth c H1 locs1 cells slots Q (F0 m (pc + 3) ls rest)) : W p l e R s m args below meth c H locs cells slots Q (F0 m pc ls (v :: .ref (ad k) :: rest)) :=
  va_putN hx hb hts hin ty0 hty hnm hown hK hP (iA_D hDi) hS k (iW_at hk hF) hc j hj (va_Nw.use rfl hlink) hsame hfin hd hn hfit hl hdg (fun H1 locs1 hP1 hD1 hS1 => kk H1 locs1 (by rw [iW_set hk, hcan] at hP1; exact hP1) hS1)
theorem ast (F' : Nat → va_E) (hx : p.tables.exec = Jvm.exec) (hb : c.code = cc) (hK : va_K D vwCl (iT cI cQ cL) s) (hDi : iD ad N) (hP : va_P D vwCl (iW ad N F) H) (hS : va_S (iA ad N s.heap.size) s.heap H locs) {k n : Nat} {f : Nat → Int32} {x z : Int32} {j : Nat} (hk : k < N) (hF : F k = .inl (cI, n, .inl f)) (hxj : x = nI j) (hj : j < n) (hn : n < 2 ^ 31) (hdg : decode cc pc = .ok (.iastore, 1)) (hcan : va_up F k (.inl (cI, n, .inl (upd f j z))) = F')
    (kk : ∀ (H1 : Heap) (locs1 : List Loc), va_P D vwCl (iW ad N F') H1 → va_S (iA ad N s.heap.size) s.heap H1 locs1 → W p l e R s m args below meth c H1 locs1 cells slots Q (F0 m (pc + 1) ls rest)) : W p l e R s m args below meth c H locs cells slots Q (F0 m pc ls (.int z :: .int x :: .ref (ad k) :: rest)) := by
  subst hxj
  refine va_iast hx hb hK hP (iA_D hDi) hS k 0 (iW_at hk hF) rfl (vp_in_nI hj hn) hdg (fun H1 locs1 hP1 hD1 hS1 => kk H1 locs1 ?_ hS1)
  rw [nI_clamp (Nat.lt_trans hj hn), iW_set hk, hcan] at hP1
  exact hP1
theorem iA_up {H0 H : Heap} (hS : va_S (iA ad N H0.size) H0 H locs) : ∀ q, iA ad N H.size q → iA ad N H0.size q := fun q h => h.elim Or.inl (fun h => Or.inr (Nat.le_trans hS.1 h))
/-- behind a call that writes -/
theorem cW {post : Option Value → (Nat → va_E) → Prop} {mc ms : Nat} (hr : va_Run p l e R s m args below meth c H locs cells slots mc ms (F0 m pc ls st0) rest (fun st o t => ∃ (v : Option Value) (F' : Nat → va_E), o = .returned v ∧ post v F' ∧ va_P D vwCl (iW ad N F') t.heap ∧ va_F (iA ad N H.size) st t) (iA ad N H.size)) (hS : va_S (iA ad N s.heap.size) s.heap H locs)
    (kk : ∀ (v : Option Value) (F' : Nat → va_E) (H1 : Heap) (locs1 : List Loc), post v F' → va_P D vwCl (iW ad N F') H1 → va_S (iA ad N s.heap.size) s.heap H1 locs1 → W p l e R s m args below meth c H1 locs1 (cells + mc) (slots + ms) Q (F0 m (pc + 3) ls (v.toList ++ rest))) : W p l e R s m args below meth c H locs cells slots Q (F0 m pc ls st0) := by
  intro T hT X
  obtain ⟨v, st₀, t, T', L, h0, X', hL, e1, e2, ⟨v9, F', hv, hp, hb, hF⟩, st⟩ := hr T hT X
  cases hv
  obtain ⟨-, -, k3⟩ := vx_keep h0 e1 hS (fun q _ h => iA_up hS q h) (iA_up hS) hL hF
  obtain ⟨t2, a1, b1⟩ := kk v F' T'.heap (locs ++ L) hp (by rw [e1]; exact hb) k3 T' rfl X'
  exact ⟨t2, st t2 a1, b1⟩
theorem MX_pre {argl : List Value} {U : State} (hDi : iD ad N) (hK : va_K D vwCl (iT cI cQ cL) s) (hP : va_P D vwCl (iW ad N F) H) (hNW : NW s) (hU : U.heap = H) (hW : s.WarmedH U.vm) : va_Pc argl (fun U => U.heap.size = H.size ∧ iD ad N ∧ rW D cI cQ cL ad N F U) argl.toArray U :=
  ⟨rfl, by rw [hU], hDi, by rw [hU]; exact hP, va_K.moved hW.alike hK, hNW.warm hW⟩
theorem cvW {nL index na mc ms : Nat} {own C : String} {y : MethodName} {bytes : ByteArray} {maxL : Nat} {ret : Option FieldType} {ws : List Cond} {rm : Room} {As : List Value} {post : Option Value → (Nat → va_E) → Prop} {k ci n : Nat} {T : u_T} {fs : List Value}
    (S : CallFix p m c cc nL s args Ts own) (hM : MX l y ws rm D cI cQ cL ad N F (.ref (ad k) :: As) post mc ms) (cw : CallW R s args own C index y bytes maxL ret ws rm mc ms na) (hDi : iD ad N) (hK : va_K D vwCl (iT cI cQ cL) s) (hP : va_P D vwCl (iW ad N F) H) (hNW : NW s) (hS : va_S (iA ad N s.heap.size) s.heap H locs) (hk : k < N) (hF : F k = .inr (ci, fs)) (hc : vwCl[ci]? = some (C, T, n))
    (hn : As.length = na) (hsize : ls.size = nL) (hstack : st0 = As.reverse ++ .ref (ad k) :: rest) (hW : (rest.map fun v => v.category).sum ≤ 8) (hf : cells + mc ≤ R.cells ∧ slots + ms ≤ R.slots) (hdg : decode cc pc = .ok (.invokevirtual index, 3))
    (kk : ∀ (v : Option Value) (F' : Nat → va_E) (H1 : Heap) (locs1 : List Loc), post v F' → va_P D vwCl (iW ad N F') H1 → va_S (iA ad N s.heap.size) s.heap H1 locs1 → W p l e R s m args below meth c H1 locs1 (cells + mc) (slots + ms) Q (F0 m (pc + 3) ls (v.toList ++ rest))) : W p l e R s m args below meth c H locs cells slots Q (F0 m pc ls st0) :=
  cW (va_runV (g := F0 m pc ls st0) S (hM H.size) cw ⟨MX_blind, icond hK hP hk hF hc, fun U hU hW => MX_pre hDi hK hP hNW hU hW⟩ rfl hn hsize hstack (lv_room hW) hdg hf) hS kk
/-- .. with one answer and one world -/
theorem cvD {nL index na : Nat} {own C : String} {y : MethodName} {bytes : ByteArray} {maxL : Nat} {ret : Option FieldType} {ws : List Cond} {rm : Room} {As : List Value} {r : Value} {G : Nat → va_E} {k ci n : Nat} {T : u_T} {fs : List Value} (F' : Nat → va_E)
    (S : CallFix p m c cc nL s args Ts own) (hM : MX l y ws rm D cI cQ cL ad N F (.ref (ad k) :: As) (dp (some r) G) 0 0) (cw : CallW R s args own C index y bytes maxL ret ws rm 0 0 na) (hDi : iD ad N) (hK : va_K D vwCl (iT cI cQ cL) s) (hP : va_P D vwCl (iW ad N F) H) (hNW : NW s) (hS : va_S (iA ad N s.heap.size) s.heap H locs) (hk : k < N) (hF : F k = .inr (ci, fs)) (hc : vwCl[ci]? = some (C, T, n))
    (hn : As.length = na) (hsize : ls.size = nL) (hstack : st0 = As.reverse ++ .ref (ad k) :: rest) (hW : (rest.map fun v => v.category).sum ≤ 8) (hf : cells + 0 ≤ R.cells ∧ slots + 0 ≤ R.slots) (hdg : decode cc pc = .ok (.invokevirtual index, 3)) (hcan : G = F')
    (kk : ∀ (H1 : Heap) (locs1 : List Loc), va_P D vwCl (iW ad N F') H1 → va_S (iA ad N s.heap.size) s.heap H1 locs1 → W p l e R s m args below meth c H1 locs1 cells slots Q (F0 m (pc + 3) ls (r :: rest))) : W p l e R s m args below meth c H locs cells slots Q (F0 m pc ls st0) :=
  cvW S hM cw hDi hK hP hNW hS hk hF hc hn hsize hstack hW hf hdg (fun v G9 H1 locs1 hp hP1 hS1 => by
    obtain ⟨rfl, rfl⟩ := hp
    exact kk H1 locs1 (by rw [← hcan]; exact hP1) hS1)
theorem cvDv {nL index na : Nat} {own C : String} {y : MethodName} {bytes : ByteArray} {maxL : Nat} {ret : Option FieldType} {ws : List Cond} {rm : Room} {As : List Value} {G : Nat → va_E} {k ci n : Nat} {T : u_T} {fs : List Value} (F' : Nat → va_E)
    (S : CallFix p m c cc nL s args Ts own) (hM : MX l y ws rm D cI cQ cL ad N F (.ref (ad k) :: As) (dp none G) 0 0) (cw : CallW R s args own C index y bytes maxL ret ws rm 0 0 na) (hDi : iD ad N) (hK : va_K D vwCl (iT cI cQ cL) s) (hP : va_P D vwCl (iW ad N F) H) (hNW : NW s) (hS : va_S (iA ad N s.heap.size) s.heap H locs) (hk : k < N) (hF : F k = .inr (ci, fs)) (hc : vwCl[ci]? = some (C, T, n))
    (hn : As.length = na) (hsize : ls.size = nL) (hstack : st0 = As.reverse ++ .ref (ad k) :: rest) (hW : (rest.map fun v => v.category).sum ≤ 8) (hf : cells + 0 ≤ R.cells ∧ slots + 0 ≤ R.slots) (hdg : decode cc pc = .ok (.invokevirtual index, 3)) (hcan : G = F')
    (kk : ∀ (H1 : Heap) (locs1 : List Loc), va_P D vwCl (iW ad N F') H1 → va_S (iA ad N s.heap.size) s.heap H1 locs1 → W p l e R s m args below meth c H1 locs1 cells slots Q (F0 m (pc + 3) ls rest)) : W p l e R s m args below meth c H locs cells slots Q (F0 m pc ls st0) :=
  cvW S hM cw hDi hK hP hNW hS hk hF hc hn hsize hstack hW hf hdg (fun v G9 H1 locs1 hp hP1 hS1 => by
    obtain ⟨rfl, rfl⟩ := hp
    exact kk H1 locs1 (by rw [← hcan]; exact hP1) hS1)
end WROWS
/-- the mat at k with other contents -/
def mSet (cI : ClassId) (F : Nat → va_E) (k : Nat) (c b v : Nat → Int32) : Nat → va_E := fun j => if j = k + 1 then .inl (cI, 16, .inl c) else if j = k + 2 then .inl (cI, 16, .inl b) else if j = k + 3 then .inl (cI, 16, .inl v) else F j
theorem mSet_self {cI : ClassId} {ad : Nat → Nat} {F : Nat → va_E} {k : Nat} {c b v : Nat → Int32} (h : matAt cI ad F k c b v) : mSet cI F k c b v = F := by
  funext j
  obtain ⟨-, h1, h2, h3⟩ := h
  unfold mSet
  split
  · next e => rw [e, h1]
  · split
    · next e => rw [e, h2]
    · split
      · next e => rw [e, h3]
      · rfl
theorem mSet_at {cI : ClassId} {ad : Nat → Nat} {F : Nat → va_E} {k : Nat} {c b v c' b' v' : Nat → Int32} (h : matAt cI ad F k c b v) : matAt cI ad (mSet cI F k c' b' v') k c' b' v' := by
  obtain ⟨h0, -, -, -⟩ := h
  refine ⟨?_, ?_, ?_, ?_⟩
  · simp [mSet, h0]
  · simp [mSet]
  · simp [mSet]
  · simp [mSet]
theorem mSet_mSet {cI : ClassId} {F : Nat → va_E} {k : Nat} {c b v c' b' v' : Nat → Int32} : mSet cI (mSet cI F k c b v) k c' b' v' = mSet cI F k c' b' v' := by
  funext j
  simp only [mSet]
  repeat' split
  all_goals rfl
theorem mSet_out {cI : ClassId} {F : Nat → va_E} {k j : Nat} {c b v : Nat → Int32} (h : j < k + 1 ∨ k + 3 < j) : mSet cI F k c b v j = F j := by
  unfold mSet
  rw [if_neg (by omega), if_neg (by omega), if_neg (by omega)]
theorem mSet_c {cI : ClassId} {F : Nat → va_E} {k : Nat} {c b v c' : Nat → Int32} : va_up (mSet cI F k c b v) (k + 1) (.inl (cI, 16, .inl c')) = mSet cI F k c' b v := by
  funext j
  simp only [va_up, mSet]
  repeat' split
  all_goals first | rfl | omega
theorem mSet_b {cI : ClassId} {F : Nat → va_E} {k : Nat} {c b v b' : Nat → Int32} : va_up (mSet cI F k c b v) (k + 2) (.inl (cI, 16, .inl b')) = mSet cI F k c b' v := by
  funext j
  simp only [va_up, mSet]
  repeat' split
  all_goals first | rfl | omega
theorem mSet_v {cI : ClassId} {F : Nat → va_E} {k : Nat} {c b v v' : Nat → Int32} : va_up (mSet cI F k c b v) (k + 3) (.inl (cI, 16, .inl v')) = mSet cI F k c b v' := by
  funext j
  simp only [va_up, mSet]
  repeat' split
  all_goals first | rfl | omega
