/-! MAKING: the cells of the pool lie one behind the other from b0 on; a constructor makes the pool grow -/
def pb (b0 : Nat) : Nat → Nat := fun k => b0 + k
def bA (b0 : Nat) : Nat → Prop := fun q => b0 ≤ q
theorem pb_D {b0 N : Nat} : iD (pb b0) N := fun _ _ _ _ h => Nat.add_left_cancel h
theorem bA_D {b0 N : Nat} {F : Nat → va_E} : va_D (bA b0) (iW (pb b0) N F) := iD_D pb_D (fun _ _ => Nat.le_add_right _ _)
theorem iA_pb {b0 N sz : Nat} (h1 : b0 ≤ sz) (h2 : sz ≤ b0 + N) : iA (pb b0) N sz = bA b0 := by
  funext q
  apply propext
  constructor
  · rintro (⟨k, -, rfl⟩ | h)
    · exact Nat.le_add_right _ _
    · exact Nat.le_trans h1 h
  · intro h
    have h : b0 ≤ q := h
    by_cases hq : sz ≤ q
    · exact Or.inr hq
    · exact Or.inl ⟨q - b0, by omega, by unfold pb; omega⟩
theorem pb_push {b0 N : Nat} : va_up (pb b0) N (pb b0 N) = pb b0 := by
  funext j
  by_cases h : j = N
  · rw [h, va_up_self]
  · rw [va_up_ne _ _ h]
theorem pb_fresh {D : va_G} {cl : List vw_C} {b0 N q : Nat} {F : Nat → va_E} {e : va_E} {H1 : Heap} (hP : va_P D cl (iW (pb b0) N F ++ [(q, e)]) H1) (hD : va_D (bA b0) (iW (pb b0) N F ++ [(q, e)])) (hsz : H1.size ≤ b0 + N + 1) : q = pb b0 N := by
  have hlen : (iW (pb b0) N F).length = N := by simp [iW]
  have hlast : (iW (pb b0) N F ++ [(q, e)])[N]? = some (q, e) := by
    rw [List.getElem?_append_right (by omega)]
    simp [hlen]
  have h1 : q < H1.size := (hP N _ hlast).lt
  have h2 : b0 ≤ q := hD.2 N _ hlast
  by_cases h : q = b0 + N
  · exact h
  · exfalso
    have hj : q - b0 < N := by omega
    have hg : (iW (pb b0) N F ++ [(q, e)])[q - b0]? = some (pb b0 (q - b0), F (q - b0)) := by
      rw [List.getElem?_append_left (by omega)]
      exact iW_get hj
    have := hD.1 (q - b0) N _ _ hg hlast (by show b0 + (q - b0) = q; omega)
    omega
theorem pb_grow {D : va_G} {cl : List vw_C} {b0 N q : Nat} {F : Nat → va_E} {e : va_E} {H1 : Heap} (hP : va_P D cl (iW (pb b0) N F ++ [(q, e)]) H1) (hq : q = pb b0 N) : va_P D cl (iW (pb b0) (N + 1) (va_up F N e)) H1 := by
  subst hq
  rw [iW_push, pb_push] at hP
  exact hP
theorem pb_size {D : va_G} {cl : List vw_C} {b0 N : Nat} {F : Nat → va_E} {H : Heap} (hP : va_P D cl (iW (pb b0) N F) H) (hN : 0 < N) : b0 + N ≤ H.size := by
  have := (hP (N - 1) _ (iW_get (by omega))).lt
  have h2 : b0 + (N - 1) < H.size := this
  omega
/-- a constructor: from the pool of N cells to that of N', in the room of mc cells with ms slots -/
def MK (l : Launch) (y : MethodName) (ws : List Cond) (rm : Room) (D : va_G) (cI cQ cL : ClassId) (b0 N : Nat) (F : Nat → va_E) (k N' : Nat) (G : Nat → va_E) (mc ms : Nat) : Prop :=
  Met l y ws rm (va_Pc [.ref (pb b0 k)] (fun U => U.heap.size = b0 + N ∧ va_AO "SquopPiles$State" U ∧ rW D cI cQ cL (pb b0) N F U)) (fun _ st o t => o = .returned none ∧ va_P D vwCl (iW (pb b0) N' G) t.heap ∧ va_F (bA b0) st t) mc ms (bA b0)
theorem MK_blind {D : va_G} {cI cQ cL : ClassId} {b0 N : Nat} {F : Nat → va_E} {args : List Value} : FrameBlind (va_Pc args (fun U => U.heap.size = b0 + N ∧ va_AO "SquopPiles$State" U ∧ rW D cI cQ cL (pb b0) N F U)) :=
  fun a U g mk q => ⟨q.1, q.2.1, va_AO.moved (u := U) (U := U.calling g mk a) (Vm.Alike.refl U.vm) q.2.2.1, q.2.2.2.1, va_K.moved (u := U) (U := U.calling g mk a) (Vm.Alike.refl U.vm) q.2.2.2.2.1, NW.same rfl q.2.2.2.2.2⟩
section MKS
variable {l : Launch} {y : MethodName} {ws ws' : List Cond} {rm : Room} {cc : ByteArray} {maxL : Nat} {D : va_G} {cI cQ cL : ClassId} {b0 N : Nat} {F G : Nat → va_E} {k N' mc ms : Nat}
theorem mk_v (hy : plainName y.cls = true) (hw : ws = Cond.code y cc maxL none :: ws') (hlen : 1 ≤ maxL) (hnm : y.name = "<init>")
    (body : ∀ (p : Program) (e : Env) (s : State) (m : MethodId) (below : List Frame) (meth : Method) (c : Code) (Q : State → Prop) (ls : Array Slot),
      p.tables.exec = Jvm.exec → c.code = cc → c.maxLocals = maxL → s.vm.findClass y.cls = some m.cls → (∀ w ∈ ws, w.before #[.ref (pb b0 k)] s = true) → meth.name = "<init>" → s.heap.size = b0 + N → va_AO "SquopPiles$State" s → va_P D vwCl (iW (pb b0) N F) s.heap → va_K D vwCl (iT cI cQ cL) s → NW s → va_S (bA b0) s.heap s.heap [] →
      (∀ (pc : Nat) (ls : Array Slot) (H : Heap) (locs : List Loc), va_P D vwCl (iW (pb b0) N' G) H → va_S (bA b0) s.heap H locs → decode cc pc = .ok (.return_, 1) → W p l e rm s m #[.ref (pb b0 k)] below meth c H locs mc ms Q (F0 m pc ls [])) →
      lv_has ls maxL [(0, .ref (pb b0 k))] → W p l e rm s m #[.ref (pb b0 k)] below meth c s.heap [] 0 0 Q (F0 m 0 ls [])) : MK l y ws rm D cI cQ cL b0 N F k N' G mc ms := by
  refine Met.ofW (cc := cc) (maxL := maxL) (ret := none) hy hw ?_
  intro p e s m args9 below meth c s₁ B hml hv
  obtain ⟨rfl, hsz, hAO, hP, hK, hNW⟩ := hv
  have hl := lv_entry [Value.ref (pb b0 k)] (n := maxL) hlen
  rw [lg_entry_eq]
  have hin : meth.name = "<init>" := ((name_of_methodNamed B.named B.method).1).trans hnm
  exact body p e s m below meth c _ _ B.exec B.bytes hml (findClass_of_methodNamed B.named) (atoms_spec B.pre) hin hsz hAO hP hK hNW va_S.rf (fun pc ls H locs hP1 hS hd =>
    W.vret B.exec B.bytes B.returns (fun t ht _ => ⟨rfl, by rw [ht]; exact hP1, hS.F ht⟩) hS.2.2 hd B.notSynchronized) hl
end MKS
section MKR
variable {p : Program} {l : Launch} {e : Env} {R : Room} {s : State} {m : MethodId} {args : Array Value} {below : List Frame} {meth : Method} {c : Code} {H : Heap} {locs : List Loc} {cells slots : Nat} {Q : State → Prop}
variable {cc : ByteArray} {pc : Nat} {ls : Array Slot} {rest st0 : List Value} {D : va_G} {cI cQ cL : ClassId} {b0 N : Nat} {F : Nat → va_E} {Ts : List Cond}
theorem wBound {g : JFrame} (kk : H.size ≤ s.heap.size + cells → W p l e R s m args below meth c H locs cells slots Q g) : W p l e R s m args below meth c H locs cells slots Q g := by
  intro T hT X
  refine kk ?_ T hT X
  have := X.same.2.2.1
  rw [← hT]
  exact this
theorem nwI (hx : p.tables.exec = Jvm.exec) (hb : c.code = cc) (harr : (Cond.arrayClass .int).before args s = true) (hK : va_K D vwCl (iT cI cQ cL) s) (hP : va_P D vwCl (iW (pb b0) N F) H) (hS : va_S (bA b0) s.heap H locs) (hb0 : b0 ≤ s.heap.size) (hcl : s.heap.size + cells = b0 + N) {x : Int32} (n : Nat) (hxn : x = nI n) (hn : n < 2 ^ 20) (hcells : cells + 1 ≤ R.cells) (hslots : slots + n ≤ R.slots) (hdg : decode cc pc = .ok (.newarray .int, 2))
    (kk : ∀ H1 : Heap, va_P D vwCl (iW (pb b0) (N + 1) (va_up F N (.inl (cI, n, .inl (fun _ => 0))))) H1 → va_S (bA b0) s.heap H1 locs → W p l e R s m args below meth c H1 locs (cells + 1) (slots + n) Q (F0 m (pc + 2) ls (.ref (pb b0 N) :: rest))) : W p l e R s m args below meth c H locs cells slots Q (F0 m pc ls (.int x :: rest)) := by
  subst hxn
  refine va_newa (atype := .int) (ty := .int) (N' := n) (a0 := (n, .inl (fun _ => 0))) hx hb harr rfl hK hP bA_D hS (fun q h => Nat.le_trans hb0 h) (fun cA => rfl) (nI_pos (by omega)) (nI_clamp (by omega)) (by simp only [componentBytes]; omega) hcells hslots hdg (fun q cA H1 hK1 hP1 hD1 hS1 => ?_)
  refine wBound (fun hsz => ?_)
  have h3 : s.vm.findClass ("[" ++ FieldType.int.toString) = some cA := (hK1.2 3 (cA, .int) rfl).2
  have h0 : s.vm.findClass ("[" ++ FieldType.int.toString) = some cI := (hK1.2 0 (cI, .int) rfl).2
  have hcA : cA = cI := Option.some.inj (h3.symm.trans h0)
  subst hcA
  have hq : q = pb b0 N := pb_fresh hP1 hD1 (by omega)
  have hP2 := pb_grow hP1 hq
  subst hq
  exact kk H1 hP2 hS1
theorem nwL (hx : p.tables.exec = Jvm.exec) (hb : c.code = cc) (harr : (Cond.arrayClass .long).before args s = true) (hK : va_K D vwCl (iT cI cQ cL) s) (hP : va_P D vwCl (iW (pb b0) N F) H) (hS : va_S (bA b0) s.heap H locs) (hb0 : b0 ≤ s.heap.size) (hcl : s.heap.size + cells = b0 + N) {x : Int32} (n : Nat) (hxn : x = nI n) (hn : n < 2 ^ 20) (hcells : cells + 1 ≤ R.cells) (hslots : slots + n ≤ R.slots) (hdg : decode cc pc = .ok (.newarray .long, 2))
    (kk : ∀ H1 : Heap, va_P D vwCl (iW (pb b0) (N + 1) (va_up F N (.inl (cL, n, .inr (.inl (fun _ => 0)))))) H1 → va_S (bA b0) s.heap H1 locs → W p l e R s m args below meth c H1 locs (cells + 1) (slots + n) Q (F0 m (pc + 2) ls (.ref (pb b0 N) :: rest))) : W p l e R s m args below meth c H locs cells slots Q (F0 m pc ls (.int x :: rest)) := by
  subst hxn
  refine va_newa (atype := .long) (ty := .long) (N' := n) (a0 := (n, .inr (.inl (fun _ => 0)))) hx hb harr rfl hK hP bA_D hS (fun q h => Nat.le_trans hb0 h) (fun cA => rfl) (nI_pos (by omega)) (nI_clamp (by omega)) (by simp only [componentBytes]; omega) hcells hslots hdg (fun q cA H1 hK1 hP1 hD1 hS1 => ?_)
  refine wBound (fun hsz => ?_)
  have h3 : s.vm.findClass ("[" ++ FieldType.long.toString) = some cA := (hK1.2 3 (cA, .long) rfl).2
  have h0 : s.vm.findClass ("[" ++ FieldType.long.toString) = some cL := (hK1.2 2 (cL, .long) rfl).2
  have hcA : cA = cL := Option.some.inj (h3.symm.trans h0)
  subst hcA
  have hq : q = pb b0 N := pb_fresh hP1 hD1 (by omega)
  have hP2 := pb_grow hP1 hq
  subst hq
  exact kk H1 hP2 hS1
theorem nwQ (hx : p.tables.exec = Jvm.exec) (hb : c.code = cc) {own : String} {index : Nat} (hown : s.vm.findClass own = some m.cls) (hclink : (Cond.classLink own index "SquopPiles$State").before args s = true) (hover : va_AO "SquopPiles$State" s) (hK : va_K D vwCl (iT cI cQ cL) s) (hP : va_P D vwCl (iW (pb b0) N F) H) (hS : va_S (bA b0) s.heap H locs) (hb0 : b0 ≤ s.heap.size) (hcl : s.heap.size + cells = b0 + N) {x : Int32} (n : Nat) (hxn : x = nI n) (hn : n < 2 ^ 20) (hcells : cells + 1 ≤ R.cells) (hslots : slots + n ≤ R.slots) (hdg : decode cc pc = .ok (.anewarray index, 3))
    (kk : ∀ H1 : Heap, va_P D vwCl (iW (pb b0) (N + 1) (va_up F N (.inl (cQ, n, .inr (.inr (.inr (.inr (fun _ => none)))))))) H1 → va_S (bA b0) s.heap H1 locs → W p l e R s m args below meth c H1 locs (cells + 1) (slots + n) Q (F0 m (pc + 3) ls (.ref (pb b0 N) :: rest))) : W p l e R s m args below meth c H locs cells slots Q (F0 m pc ls (.int x :: rest)) := by
  subst hxn
  refine va_newq (C := "SquopPiles$State") (N' := n) hx hb hown hclink hover hK hP bA_D hS (fun q h => Nat.le_trans hb0 h) (nI_pos (by omega)) (nI_clamp (by omega)) (by omega) hcells hslots hdg (fun q cA H1 hK1 hP1 hD1 hS1 => ?_)
  refine wBound (fun hsz => ?_)
  obtain ⟨kA, comp, -, -, -, h3⟩ : ∃ (kA : Class) (comp : ClassId), s.vm.classes[cA]? = some kA ∧ kA.kind = .array comp (.object "SquopPiles$State") ∧ s.vm.findClass "SquopPiles$State" = some comp ∧ s.vm.findClass ("[" ++ (FieldType.object "SquopPiles$State").toString) = some cA := (hK1.2 3 (cA, .object "SquopPiles$State") rfl).2
  obtain ⟨kA0, comp0, -, -, -, h0⟩ : ∃ (kA : Class) (comp : ClassId), s.vm.classes[cQ]? = some kA ∧ kA.kind = .array comp (.object "SquopPiles$State") ∧ s.vm.findClass "SquopPiles$State" = some comp ∧ s.vm.findClass ("[" ++ (FieldType.object "SquopPiles$State").toString) = some cQ := (hK1.2 1 (cQ, .object "SquopPiles$State") rfl).2
  have hcA : cA = cQ := Option.some.inj (h3.symm.trans h0)
  subst hcA
  have hq : q = pb b0 N := pb_fresh hP1 hD1 (by omega)
  have hP2 := pb_grow hP1 hq
  subst hq
  exact kk H1 hP2 hS1
theorem nwO (hx : p.tables.exec = Jvm.exec) (hb : c.code = cc) {own C : String} {T : u_T} {n ci index : Nat} (hts : ∀ w ∈ Ts, w.before args s = true) (hin : ∀ w ∈ u_ws C T n, w ∈ Ts) (ty : Nat → FieldType) (hty : ∀ k, k < n → parseFieldDescriptor (T k).2.2.1 = some (ty k)) (hown : s.vm.findClass own = some m.cls) (hcl0 : (Cond.classLink own index C).before args s = true) (hinst : (Cond.instantiable C n).before args s = true) (hini : (Cond.initialized C).before args s = true) (hK : va_K D vwCl (iT cI cQ cL) s) (hP : va_P D vwCl (iW (pb b0) N F) H) (hS : va_S (bA b0) s.heap H locs) (hb0 : b0 ≤ s.heap.size) (hcl : s.heap.size + cells = b0 + N) (hc : vwCl[ci]? = some (C, T, n)) (fs : List Value) (hfs : ∀ j, j < n → defaultValue (ty j) = vp_V fs j) (hcells : cells + 1 ≤ R.cells) (hslots : slots + n ≤ R.slots) (hdg : decode cc pc = .ok (.new index, 3))
    (kk : ∀ H1 : Heap, va_P D vwCl (iW (pb b0) (N + 1) (va_up F N (.inr (ci, fs)))) H1 → va_S (bA b0) s.heap H1 locs → W p l e R s m args below meth c H1 locs (cells + 1) (slots + n) Q (F0 m (pc + 3) ls (.ref (pb b0 N) :: rest))) : W p l e R s m args below meth c H locs cells slots Q (F0 m pc ls rest) := by
  refine va_new hx hb hts hin ty hty hown hcl0 hinst hini hK hP bA_D hS (fun q h => Nat.le_trans hb0 h) hc hfs hcells hslots hdg (fun q H1 hP1 hD1 hS1 => ?_)
  refine wBound (fun hsz => ?_)
  have hq : q = pb b0 N := pb_fresh hP1 hD1 (by omega)
  have hP2 := pb_grow hP1 hq
  subst hq
  exact kk H1 hP2 hS1
theorem pfF (F' : Nat → va_E) (hx : p.tables.exec = Jvm.exec) (hb : c.code = cc) {own ref C : String} {T : u_T} {n ci index : Nat} (hts : ∀ w ∈ Ts, w.before args s = true) (hin : ∀ w ∈ u_ws C T n, w ∈ Ts) (ty0 : Nat → FieldType) (hty : ∀ k, k < n → parseFieldDescriptor (T k).2.2.1 = some (ty0 k)) (hnm : ∀ a, a < n → ∀ b, b < n → a ≠ b → (T a).2.1 ≠ (T b).2.1) (hown : s.vm.findClass own = some m.cls) (hK : va_K D vwCl (iT cI cQ cL) s) (hP : va_P D vwCl (iW (pb b0) N F) H) (hS : va_S (bA b0) s.heap H locs) {k : Nat} (hk : k < N) {fs : List Value} (hF : F k = .inr (ci, fs)) (hc : vwCl[ci]? = some (C, T, n)) (j : Nat) (hj : j < n) (hlink : (Cond.fieldLink own index ref (T j).2.1 (T j).2.2.1).before args s = true) (hsame : ∀ x, s.fieldFound? (T j).1 (T j).2.1 (T j).2.2.1 = some x → s.fieldFound? ref (T j).2.1 (T j).2.2.1 = some x) (hfin : (T j).2.2.2 = true) (hin2 : meth.name = "<init>") (hdecl : (T j).1 = own) {ty : FieldType} {v : Value} (hd : parseFieldDescriptor (T j).2.2.1 = some ty) (hn : narrow ty v = v) (hfit : fits ty v = true) (hl : j < fs.length) (hdg : decode cc pc = .ok (.putfield index, 3)) (hcan : va_up F k (.inr (ci, fs.set j v)) = F')
    (kk : ∀ (H1 : Heap) (locs1 : List Loc), va_P D vwCl (iW (pb b0) N F') H1 → va_S (bA b0) s.heap H1 locs1 → W p l e R s m args below meth c H1 locs1 cells slots Q (F0 m (pc + 3) ls rest)) : W p l e R s m args below meth c H locs cells slots Q (F0 m pc ls (v :: .ref (pb b0 k) :: rest)) :=
  va_putF hx hb hts hin ty0 hty hnm hown hK hP bA_D hS k (iW_at hk hF) hc j hj hlink hsame hfin hin2 hdecl hd hn hfit hl hdg (fun H1 locs1 hP1 hD1 hS1 => kk H1 locs1 (by rw [iW_set hk, hcan] at hP1; exact hP1) hS1)
theorem pfA (F' : Nat → va_E) (hx : p.tables.exec = Jvm.exec) (hb : c.code = cc) {own ref C : String} {T : u_T} {n ci index : Nat} (hts : ∀ w ∈ Ts, w.before args s = true) (hin : ∀ w ∈ u_ws C T n, w ∈ Ts) (ty0 : Nat → FieldType) (hty : ∀ k, k < n → parseFieldDescriptor (T k).2.2.1 = some (ty0 k)) (hnm : ∀ a, a < n → ∀ b, b < n → a ≠ b → (T a).2.1 ≠ (T b).2.1) (hown : s.vm.findClass own = some m.cls) (hK : va_K D vwCl (iT cI cQ cL) s) (hP : va_P D vwCl (iW (pb b0) N F) H) (hS : va_S (bA b0) s.heap H locs) {k : Nat} (hk : k < N) {fs : List Value} (hF : F k = .inr (ci, fs)) (hc : vwCl[ci]? = some (C, T, n)) (j : Nat) (hj : j < n) (hlink : (Cond.fieldLink own index ref (T j).2.1 (T j).2.2.1).before args s = true) (hsame : ∀ x, s.fieldFound? (T j).1 (T j).2.1 (T j).2.2.1 = some x → s.fieldFound? ref (T j).2.1 (T j).2.2.1 = some x) (hfin : (T j).2.2.2 = false) {ty : FieldType} {v : Value} (hd : parseFieldDescriptor (T j).2.2.1 = some ty) (hn : narrow ty v = v) (hfit : fits ty v = true) (hl : j < fs.length) (hdg : decode cc pc = .ok (.putfield index, 3)) (hcan : va_up F k (.inr (ci, fs.set j v)) = F')
    (kk : ∀ (H1 : Heap) (locs1 : List Loc), va_P D vwCl (iW (pb b0) N F') H1 → va_S (bA b0) s.heap H1 locs1 → W p l e R s m args below meth c H1 locs1 cells slots Q (F0 m (pc + 3) ls rest)) : W p l e R s m args below meth c H locs cells slots Q (F0 m pc ls (v :: .ref (pb b0 k) :: rest)) :=
  va_put hx hb hts hin ty0 hty hnm hown hK hP bA_D hS k (iW_at hk hF) hc j hj hlink hsame hfin hd hn hfit hl hdg (fun H1 locs1 hP1 hD1 hS1 => kk H1 locs1 (by rw [iW_set hk, hcan] at hP1; exact hP1) hS1)
theorem astA (F' : Nat → va_E) (hx : p.tables.exec = Jvm.exec) (hb : c.code = cc) (hK : va_K D vwCl (iT cI cQ cL) s) (hP : va_P D vwCl (iW (pb b0) N F) H) (hS : va_S (bA b0) s.heap H locs) {k n : Nat} {f : Nat → Int32} {x z : Int32} {j : Nat} (hk : k < N) (hF : F k = .inl (cI, n, .inl f)) (hxj : x = nI j) (hj : j < n) (hn : n < 2 ^ 31) (hdg : decode cc pc = .ok (.iastore, 1)) (hcan : va_up F k (.inl (cI, n, .inl (upd f j z))) = F')
    (kk : ∀ (H1 : Heap) (locs1 : List Loc), va_P D vwCl (iW (pb b0) N F') H1 → va_S (bA b0) s.heap H1 locs1 → W p l e R s m args below meth c H1 locs1 cells slots Q (F0 m (pc + 1) ls rest)) : W p l e R s m args below meth c H locs cells slots Q (F0 m pc ls (.int z :: .int x :: .ref (pb b0 k) :: rest)) := by
  subst hxj
  refine va_iast hx hb hK hP bA_D hS k 0 (iW_at hk hF) rfl (vp_in_nI hj hn) hdg (fun H1 locs1 hP1 hD1 hS1 => kk H1 locs1 ?_ hS1)
  rw [nI_clamp (Nat.lt_trans hj hn), iW_set hk, hcan] at hP1
  exact hP1
theorem astQ (F' : Nat → va_E) (hx : p.tables.exec = Jvm.exec) (hb : c.code = cc) (hK : va_K D vwCl (iT cI cQ cL) s) (hP : va_P D vwCl (iW (pb b0) N F) H) (hS : va_S (bA b0) s.heap H locs) {k n v : Nat} {f : Nat → Option Nat} {x : Int32} {j : Nat} {vs : List Value} (hk : k < N) (hF : F k = .inl (cQ, n, .inr (.inr (.inr (.inr f))))) (hv : v < N) (hFv : F v = .inr (4, vs)) (hxj : x = nI j) (hj : j < n) (hn : n < 2 ^ 31) (hdg : decode cc pc = .ok (.aastore, 1)) (hcan : va_up F k (.inl (cQ, n, .inr (.inr (.inr (.inr (va_up f j (some (pb b0 v)))))))) = F')
    (kk : ∀ (H1 : Heap) (locs1 : List Loc), va_P D vwCl (iW (pb b0) N F') H1 → va_S (bA b0) s.heap H1 locs1 → W p l e R s m args below meth c H1 locs1 cells slots Q (F0 m (pc + 1) ls rest)) : W p l e R s m args below meth c H locs cells slots Q (F0 m pc ls (.ref (pb b0 v) :: .int x :: .ref (pb b0 k) :: rest)) := by
  subst hxj
  refine va_astq (r := (RX4, TX4, 7)) hx hb hK hP bA_D hS k 1 v 4 (iW_at hk hF) rfl (iW_at hv hFv) rfl (vp_in_nI hj hn) hdg (fun H1 locs1 hP1 hD1 hS1 => kk H1 locs1 ?_ hS1)
  rw [nI_clamp (Nat.lt_trans hj hn), iW_set hk, hcan] at hP1
  exact hP1
theorem cKr {N' mc ms : Nat} {G : Nat → va_E} (hr : va_Run p l e R s m args below meth c H locs cells slots mc ms (F0 m pc ls st0) rest (fun st o t => o = .returned none ∧ va_P D vwCl (iW (pb b0) N' G) t.heap ∧ va_F (bA b0) st t) (bA b0)) (hS : va_S (bA b0) s.heap H locs)
    (kk : ∀ (H1 : Heap) (locs1 : List Loc), va_P D vwCl (iW (pb b0) N' G) H1 → va_S (bA b0) s.heap H1 locs1 → W p l e R s m args below meth c H1 locs1 (cells + mc) (slots + ms) Q (F0 m (pc + 3) ls rest)) : W p l e R s m args below meth c H locs cells slots Q (F0 m pc ls st0) := by
  intro T hT X
  obtain ⟨v, st₀, t, T', L, h0, X', hL, e1, e2, ⟨hv, hp, hF⟩, st⟩ := hr T hT X
  cases hv
  obtain ⟨-, -, k3⟩ := vx_keep h0 e1 hS (fun q _ h => h) (fun q h => h) hL hF
  obtain ⟨t2, a1, b1⟩ := kk T'.heap (locs ++ L) (by rw [e1]; exact hp) k3 T' rfl X'
  exact ⟨t2, st t2 a1, b1⟩
theorem MK_pre {argl : List Value} {U : State} (hAO : va_AO "SquopPiles$State" s) (hK : va_K D vwCl (iT cI cQ cL) s) (hP : va_P D vwCl (iW (pb b0) N F) H) (hNW : NW s) (hsz : H.size = b0 + N) (hU : U.heap = H) (hW : s.WarmedH U.vm) : va_Pc argl (fun U => U.heap.size = b0 + N ∧ va_AO "SquopPiles$State" U ∧ rW D cI cQ cL (pb b0) N F U) argl.toArray U :=
  ⟨rfl, by rw [hU]; exact hsz, va_AO.moved hW.alike hAO, by rw [hU]; exact hP, va_K.moved hW.alike hK, hNW.warm hW⟩
theorem cvK {nL index : Nat} {own : String} {y : MethodName} {bytes : ByteArray} {maxL : Nat} {ws : List Cond} {rm : Room} {k N' mc ms : Nat} {G : Nat → va_E}
    (S : CallFix p m c cc nL s args Ts own) (hM : MK l y ws rm D cI cQ cL b0 N F k N' G mc ms) (cw : CallB R s args own index y bytes maxL none ws rm mc ms 0 ∧ y.name = "<init>" ∧ (Cond.instanceMethod y).before args s = true) (hAO : va_AO "SquopPiles$State" s) (hK : va_K D vwCl (iT cI cQ cL) s) (hP : va_P D vwCl (iW (pb b0) N F) H) (hNW : NW s) (hS : va_S (bA b0) s.heap H locs) (hcl : s.heap.size + cells = b0 + N) (hN : 0 < N)
    (hsize : ls.size = nL) (hstack : st0 = .ref (pb b0 k) :: rest) (hW : (rest.map fun v => v.category).sum ≤ 8) (hf : cells + mc ≤ R.cells ∧ slots + ms ≤ R.slots) (hdg : decode cc pc = .ok (.invokespecial index, 3))
    (kk : ∀ (H1 : Heap) (locs1 : List Loc), va_P D vwCl (iW (pb b0) N' G) H1 → va_S (bA b0) s.heap H1 locs1 → W p l e R s m args below meth c H1 locs1 (cells + mc) (slots + ms) Q (F0 m (pc + 3) ls rest)) : W p l e R s m args below meth c H locs cells slots Q (F0 m pc ls st0) :=
  wBound (fun hsz => cKr (va_runI (g := F0 m pc ls st0) (As := []) S hM cw ⟨MK_blind, fun U hU hW => MK_pre hAO hK hP hNW (Nat.le_antisymm (by omega) (pb_size hP hN)) hU hW⟩ rfl rfl hsize hstack (lv_room hW) hdg hf) hS kk)
theorem cvKN {nL index : Nat} {own host : String} {y : MethodName} {bytes : ByteArray} {maxL : Nat} {ws : List Cond} {rm : Room} {k N' mc ms : Nat} {G : Nat → va_E}
    (S : CallFix p m c cc nL s args Ts own) (hM : MK l y ws rm D cI cQ cL b0 N F k N' G mc ms) (cw : va_CN R s args own index y host bytes maxL none ws rm mc ms 0 ∧ y.name = "<init>" ∧ (Cond.instanceMethod y).before args s = true) (hAO : va_AO "SquopPiles$State" s) (hK : va_K D vwCl (iT cI cQ cL) s) (hP : va_P D vwCl (iW (pb b0) N F) H) (hNW : NW s) (hS : va_S (bA b0) s.heap H locs) (hcl : s.heap.size + cells = b0 + N) (hN : 0 < N)
    (hsize : ls.size = nL) (hstack : st0 = .ref (pb b0 k) :: rest) (hW : (rest.map fun v => v.category).sum ≤ 8) (hf : cells + mc ≤ R.cells ∧ slots + ms ≤ R.slots) (hdg : decode cc pc = .ok (.invokespecial index, 3))
    (kk : ∀ (H1 : Heap) (locs1 : List Loc), va_P D vwCl (iW (pb b0) N' G) H1 → va_S (bA b0) s.heap H1 locs1 → W p l e R s m args below meth c H1 locs1 (cells + mc) (slots + ms) Q (F0 m (pc + 3) ls rest)) : W p l e R s m args below meth c H locs cells slots Q (F0 m pc ls st0) :=
  wBound (fun hsz => cKr (va_runIN (g := F0 m pc ls st0) (As := []) S hM cw ⟨MK_blind, fun U hU hW => MK_pre hAO hK hP hNW (Nat.le_antisymm (by omega) (pb_size hP hN)) hU hW⟩ rfl rfl hsize hstack (lv_room hW) hdg hf) hS kk)
end MKR
theorem cwI9 {s : State} {args : Array Value} {R rm : Room} {own : String} {index maxL mc ms : Nat} {y : MethodName} {bytes : ByteArray} {x : Cond} (ht : ∀ w ∈ x :: AW, w.before args s = true) (hc : Cond.code y bytes maxL none ∈ AW) (hl : Cond.methodLink own index y ∈ AW) (hi : Cond.instanceMethod y ∈ AW) (hini : Cond.initialized y.cls ∈ AW) (hy1 : y.name = "<init>") (hrc : rm.cells = mc) (hrs : rm.slots = ms)
    (hd : y.cls ≠ "java/lang/invoke/MethodHandle" ∧ y.cls ≠ "java/lang/invoke/VarHandle" ∧ (parseMethodDescriptor y.desc).map (fun d => d.parameters.length) = some 0) (hR : rm.frames + 1 ≤ R.frames ∧ 8 + (maxL + 11) + rm.locals ≤ R.locals) : CallB R s args own index y bytes maxL none (Cond.code y bytes maxL none :: AW) rm mc ms 0 ∧ y.name = "<init>" ∧ (Cond.instanceMethod y).before args s = true :=
  ⟨callB_of 0 ht (gIn hc) rfl hrc hrs (ht _ (List.mem_cons_of_mem _ hini)) (ht _ (List.mem_cons_of_mem _ hl)) hd hR, hy1, ht _ (List.mem_cons_of_mem _ hi)⟩
theorem cwIN9 {s : State} {args : Array Value} {R rm : Room} {own host : String} {index maxL mc ms : Nat} {y : MethodName} {bytes : ByteArray} {x : Cond} (ht : ∀ w ∈ x :: AW, w.before args s = true) (hc : Cond.code y bytes maxL none ∈ AW) (hl : va_Nw (.methodLinkNest own index y host) s) (hi : Cond.instanceMethod y ∈ AW) (hini : Cond.initialized y.cls ∈ AW) (hy1 : y.name = "<init>") (hrc : rm.cells = mc) (hrs : rm.slots = ms)
    (hd : y.cls ≠ "java/lang/invoke/MethodHandle" ∧ y.cls ≠ "java/lang/invoke/VarHandle" ∧ (parseMethodDescriptor y.desc).map (fun d => d.parameters.length) = some 0) (hR : rm.frames + 1 ≤ R.frames ∧ 8 + (maxL + 11) + rm.locals ≤ R.locals) : va_CN R s args own index y host bytes maxL none (Cond.code y bytes maxL none :: AW) rm mc ms 0 ∧ y.name = "<init>" ∧ (Cond.instanceMethod y).before args s = true :=
  ⟨cwN9 0 ht hc hl hini hrc hrs hd hR, hy1, ht _ (List.mem_cons_of_mem _ hi)⟩
theorem up3 {A : Nat → va_E} {k N : Nat} {e0 e1 a : va_E} : va_up (va_up (va_up A k e0) N a) k e1 = va_up (va_up A N a) k e1 := by
  funext j
  simp only [va_up]
  repeat' split
  all_goals rfl
theorem upk {A : Nat → va_E} {k N : Nat} {e0 a : va_E} (h : k < N) : va_up (va_up A k e0) N a k = e0 := by
  rw [va_up_ne _ _ (Nat.ne_of_lt h), va_up_self]
