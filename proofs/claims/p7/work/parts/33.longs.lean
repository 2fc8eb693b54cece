section MRl
variable {l : Launch} {y : MethodName} {ws ws' : List Cond} {rm : Room} {cc : ByteArray} {maxL : Nat} {D : va_G} {cI cQ cL : ClassId} {ad : Nat → Nat} {N : Nat} {F : Nat → va_E} {args : List Value} {post : Option Value → (Nat → va_E) → Prop} {mc ms : Nat}
theorem mr_l {r : Int64} (hy : plainName y.cls = true) (hw : ws = Cond.code y cc maxL (some .long) :: ws') (hlen : (lg_sl args).length ≤ maxL)
    (body : ∀ (p : Program) (e : Env) (s : State) (m : MethodId) (below : List Frame) (meth : Method) (c : Code) (Q : State → Prop) (ls : Array Slot),
      p.tables.exec = Jvm.exec → c.code = cc → c.maxLocals = maxL → s.vm.findClass y.cls = some m.cls → (∀ w ∈ ws, w.before args.toArray s = true) → va_P D vwCl (iW ad N F) s.heap → va_K D vwCl (iT cI cQ cL) s → NW s →
      (∀ (pc : Nat) (ls : Array Slot) (v : Int64), v = r → decode cc pc = .ok (.lreturn, 1) → W p l e rm s m args.toArray below meth c s.heap [] 0 0 Q (F0 m pc ls [.long v])) →
      lv_has ls maxL (lv_args 0 args) → W p l e rm s m args.toArray below meth c s.heap [] 0 0 Q (F0 m 0 ls [])) : MR l y ws rm D cI cQ cL ad N F args (.long r) := by
  refine Met.ofW (cc := cc) (maxL := maxL) (ret := some .long) hy hw ?_
  intro p e s m args9 below meth c s₁ B hml hv
  obtain ⟨rfl, hP, hK, hNW⟩ := hv
  have hl := lv_entry args (n := maxL) hlen
  rw [lg_entry_eq]
  exact body p e s m below meth c _ _ B.exec B.bytes hml (findClass_of_methodNamed B.named) (atoms_spec B.pre) hP hK hNW (fun pc ls v hv hd => by
    subst hv
    exact W.lret B.exec B.bytes B.returns (fun t ht _ => ⟨rfl, ht⟩) (fun _ h => nomatch h) hd B.notSynchronized) hl
theorem mp_l {r : Int64} (hy : plainName y.cls = true) (hw : ws = Cond.code y cc maxL (some .long) :: ws') (hlen : (lg_sl args).length ≤ maxL)
    (body : ∀ (p : Program) (e : Env) (s : State) (m : MethodId) (below : List Frame) (meth : Method) (c : Code) (Q : State → Prop) (ls : Array Slot),
      p.tables.exec = Jvm.exec → c.code = cc → c.maxLocals = maxL → s.vm.findClass y.cls = some m.cls → (∀ w ∈ ws, w.before args.toArray s = true) → (∀ (pc : Nat) (ls : Array Slot) (v : Int64), v = r → decode cc pc = .ok (.lreturn, 1) → W p l e rm s m args.toArray below meth c s.heap [] 0 0 Q (F0 m pc ls [.long v])) →
      lv_has ls maxL (lv_args 0 args) → W p l e rm s m args.toArray below meth c s.heap [] 0 0 Q (F0 m 0 ls [])) : MP l y ws rm args (.long r) := by
  refine Met.ofW (cc := cc) (maxL := maxL) (ret := some .long) hy hw ?_
  intro p e s m args9 below meth c s₁ B hml hv
  obtain ⟨rfl, -⟩ := hv
  have hl := lv_entry args (n := maxL) hlen
  rw [lg_entry_eq]
  exact body p e s m below meth c _ _ B.exec B.bytes hml (findClass_of_methodNamed B.named) (atoms_spec B.pre) (fun pc ls v hv hd => by
    subst hv
    exact W.lret B.exec B.bytes B.returns (fun t ht _ => ⟨rfl, ht⟩) (fun _ h => nomatch h) hd B.notSynchronized) hl
theorem mx_l (hy : plainName y.cls = true) (hw : ws = Cond.code y cc maxL (some .long) :: ws') (hlen : (lg_sl args).length ≤ maxL)
    (body : ∀ (p : Program) (e : Env) (s : State) (m : MethodId) (below : List Frame) (meth : Method) (c : Code) (Q : State → Prop) (ls : Array Slot),
      p.tables.exec = Jvm.exec → c.code = cc → c.maxLocals = maxL → s.vm.findClass y.cls = some m.cls → (∀ w ∈ ws, w.before args.toArray s = true) → iD ad N → va_P D vwCl (iW ad N F) s.heap → va_K D vwCl (iT cI cQ cL) s → NW s → va_S (iA ad N s.heap.size) s.heap s.heap [] →
      (∀ (pc : Nat) (ls : Array Slot) (v : Int64) (H : Heap) (locs : List Loc) (F' : Nat → va_E) (k n : Nat), post (some (.long v)) F' → va_P D vwCl (iW ad N F') H → va_S (iA ad N s.heap.size) s.heap H locs → k ≤ mc → n ≤ ms → decode cc pc = .ok (.lreturn, 1) → W p l e rm s m args.toArray below meth c H locs k n Q (F0 m pc ls [.long v])) →
      lv_has ls maxL (lv_args 0 args) → W p l e rm s m args.toArray below meth c s.heap [] 0 0 Q (F0 m 0 ls [])) : MX l y ws rm D cI cQ cL ad N F args post mc ms := by
  intro sz
  refine Met.ofW (cc := cc) (maxL := maxL) (ret := some .long) hy hw ?_
  intro p e s m args9 below meth c s₁ B hml hv
  obtain ⟨rfl, hsz, hDi, hP, hK, hNW⟩ := hv
  subst hsz
  have hl := lv_entry args (n := maxL) hlen
  rw [lg_entry_eq]
  exact body p e s m below meth c _ _ B.exec B.bytes hml (findClass_of_methodNamed B.named) (atoms_spec B.pre) hDi hP hK hNW va_S.rf (fun pc ls v H locs F' k n hp hP1 hS h1 h2 hd => by
    refine W.widen (k := mc) (n := ms) h1 h2 ?_
    exact W.lret B.exec B.bytes B.returns (fun t ht _ => ⟨_, F', rfl, hp, by rw [ht]; exact hP1, hS.F ht⟩) hS.2.2 hd B.notSynchronized) hl
end MRl
section MRd
variable {l : Launch} {y : MethodName} {ws ws' : List Cond} {rm : Room} {cc : ByteArray} {maxL : Nat} {D : va_G} {cI cQ cL : ClassId} {ad : Nat → Nat} {N : Nat} {F : Nat → va_E} {args : List Value} {post : Option Value → (Nat → va_E) → Prop} {mc ms : Nat}
theorem mr_d {r : UInt64} (hy : plainName y.cls = true) (hw : ws = Cond.code y cc maxL (some .double) :: ws') (hlen : (lg_sl args).length ≤ maxL)
    (body : ∀ (p : Program) (e : Env) (s : State) (m : MethodId) (below : List Frame) (meth : Method) (c : Code) (Q : State → Prop) (ls : Array Slot),
      p.tables.exec = Jvm.exec → c.code = cc → c.maxLocals = maxL → s.vm.findClass y.cls = some m.cls → (∀ w ∈ ws, w.before args.toArray s = true) → va_P D vwCl (iW ad N F) s.heap → va_K D vwCl (iT cI cQ cL) s → NW s →
      (∀ (pc : Nat) (ls : Array Slot) (v : UInt64), v = r → decode cc pc = .ok (.dreturn, 1) → W p l e rm s m args.toArray below meth c s.heap [] 0 0 Q (F0 m pc ls [.double v])) →
      lv_has ls maxL (lv_args 0 args) → W p l e rm s m args.toArray below meth c s.heap [] 0 0 Q (F0 m 0 ls [])) : MR l y ws rm D cI cQ cL ad N F args (.double r) := by
  refine Met.ofW (cc := cc) (maxL := maxL) (ret := some .double) hy hw ?_
  intro p e s m args9 below meth c s₁ B hml hv
  obtain ⟨rfl, hP, hK, hNW⟩ := hv
  have hl := lv_entry args (n := maxL) hlen
  rw [lg_entry_eq]
  exact body p e s m below meth c _ _ B.exec B.bytes hml (findClass_of_methodNamed B.named) (atoms_spec B.pre) hP hK hNW (fun pc ls v hv hd => by
    subst hv
    exact W.dret B.exec B.bytes B.returns (fun t ht _ => ⟨rfl, ht⟩) (fun _ h => nomatch h) hd B.notSynchronized) hl
theorem mp_d {r : UInt64} (hy : plainName y.cls = true) (hw : ws = Cond.code y cc maxL (some .double) :: ws') (hlen : (lg_sl args).length ≤ maxL)
    (body : ∀ (p : Program) (e : Env) (s : State) (m : MethodId) (below : List Frame) (meth : Method) (c : Code) (Q : State → Prop) (ls : Array Slot),
      p.tables.exec = Jvm.exec → c.code = cc → c.maxLocals = maxL → s.vm.findClass y.cls = some m.cls → (∀ w ∈ ws, w.before args.toArray s = true) → (∀ (pc : Nat) (ls : Array Slot) (v : UInt64), v = r → decode cc pc = .ok (.dreturn, 1) → W p l e rm s m args.toArray below meth c s.heap [] 0 0 Q (F0 m pc ls [.double v])) →
      lv_has ls maxL (lv_args 0 args) → W p l e rm s m args.toArray below meth c s.heap [] 0 0 Q (F0 m 0 ls [])) : MP l y ws rm args (.double r) := by
  refine Met.ofW (cc := cc) (maxL := maxL) (ret := some .double) hy hw ?_
  intro p e s m args9 below meth c s₁ B hml hv
  obtain ⟨rfl, -⟩ := hv
  have hl := lv_entry args (n := maxL) hlen
  rw [lg_entry_eq]
  exact body p e s m below meth c _ _ B.exec B.bytes hml (findClass_of_methodNamed B.named) (atoms_spec B.pre) (fun pc ls v hv hd => by
    subst hv
    exact W.dret B.exec B.bytes B.returns (fun t ht _ => ⟨rfl, ht⟩) (fun _ h => nomatch h) hd B.notSynchronized) hl
theorem mx_d (hy : plainName y.cls = true) (hw : ws = Cond.code y cc maxL (some .double) :: ws') (hlen : (lg_sl args).length ≤ maxL)
    (body : ∀ (p : Program) (e : Env) (s : State) (m : MethodId) (below : List Frame) (meth : Method) (c : Code) (Q : State → Prop) (ls : Array Slot),
      p.tables.exec = Jvm.exec → c.code = cc → c.maxLocals = maxL → s.vm.findClass y.cls = some m.cls → (∀ w ∈ ws, w.before args.toArray s = true) → iD ad N → va_P D vwCl (iW ad N F) s.heap → va_K D vwCl (iT cI cQ cL) s → NW s → va_S (iA ad N s.heap.size) s.heap s.heap [] →
      (∀ (pc : Nat) (ls : Array Slot) (v : UInt64) (H : Heap) (locs : List Loc) (F' : Nat → va_E) (k n : Nat), post (some (.double v)) F' → va_P D vwCl (iW ad N F') H → va_S (iA ad N s.heap.size) s.heap H locs → k ≤ mc → n ≤ ms → decode cc pc = .ok (.dreturn, 1) → W p l e rm s m args.toArray below meth c H locs k n Q (F0 m pc ls [.double v])) →
      lv_has ls maxL (lv_args 0 args) → W p l e rm s m args.toArray below meth c s.heap [] 0 0 Q (F0 m 0 ls [])) : MX l y ws rm D cI cQ cL ad N F args post mc ms := by
  intro sz
  refine Met.ofW (cc := cc) (maxL := maxL) (ret := some .double) hy hw ?_
  intro p e s m args9 below meth c s₁ B hml hv
  obtain ⟨rfl, hsz, hDi, hP, hK, hNW⟩ := hv
  subst hsz
  have hl := lv_entry args (n := maxL) hlen
  rw [lg_entry_eq]
  exact body p e s m below meth c _ _ B.exec B.bytes hml (findClass_of_methodNamed B.named) (atoms_spec B.pre) hDi hP hK hNW va_S.rf (fun pc ls v H locs F' k n hp hP1 hS h1 h2 hd => by
    refine W.widen (k := mc) (n := ms) h1 h2 ?_
    exact W.dret B.exec B.bytes B.returns (fun t ht _ => ⟨_, F', rfl, hp, by rw [ht]; exact hP1, hS.F ht⟩) hS.2.2 hd B.notSynchronized) hl
end MRd
section MRf
variable {l : Launch} {y : MethodName} {ws ws' : List Cond} {rm : Room} {cc : ByteArray} {maxL : Nat} {D : va_G} {cI cQ cL : ClassId} {ad : Nat → Nat} {N : Nat} {F : Nat → va_E} {args : List Value} {post : Option Value → (Nat → va_E) → Prop} {mc ms : Nat}
theorem mr_f {r : UInt32} (hy : plainName y.cls = true) (hw : ws = Cond.code y cc maxL (some .float) :: ws') (hlen : (lg_sl args).length ≤ maxL)
    (body : ∀ (p : Program) (e : Env) (s : State) (m : MethodId) (below : List Frame) (meth : Method) (c : Code) (Q : State → Prop) (ls : Array Slot),
      p.tables.exec = Jvm.exec → c.code = cc → c.maxLocals = maxL → s.vm.findClass y.cls = some m.cls → (∀ w ∈ ws, w.before args.toArray s = true) → va_P D vwCl (iW ad N F) s.heap → va_K D vwCl (iT cI cQ cL) s → NW s →
      (∀ (pc : Nat) (ls : Array Slot) (v : UInt32), v = r → decode cc pc = .ok (.freturn, 1) → W p l e rm s m args.toArray below meth c s.heap [] 0 0 Q (F0 m pc ls [.float v])) →
      lv_has ls maxL (lv_args 0 args) → W p l e rm s m args.toArray below meth c s.heap [] 0 0 Q (F0 m 0 ls [])) : MR l y ws rm D cI cQ cL ad N F args (.float r) := by
  refine Met.ofW (cc := cc) (maxL := maxL) (ret := some .float) hy hw ?_
  intro p e s m args9 below meth c s₁ B hml hv
  obtain ⟨rfl, hP, hK, hNW⟩ := hv
  have hl := lv_entry args (n := maxL) hlen
  rw [lg_entry_eq]
  exact body p e s m below meth c _ _ B.exec B.bytes hml (findClass_of_methodNamed B.named) (atoms_spec B.pre) hP hK hNW (fun pc ls v hv hd => by
    subst hv
    exact W.fret B.exec B.bytes B.returns (fun t ht _ => ⟨rfl, ht⟩) (fun _ h => nomatch h) hd B.notSynchronized) hl
theorem mp_f {r : UInt32} (hy : plainName y.cls = true) (hw : ws = Cond.code y cc maxL (some .float) :: ws') (hlen : (lg_sl args).length ≤ maxL)
    (body : ∀ (p : Program) (e : Env) (s : State) (m : MethodId) (below : List Frame) (meth : Method) (c : Code) (Q : State → Prop) (ls : Array Slot),
      p.tables.exec = Jvm.exec → c.code = cc → c.maxLocals = maxL → s.vm.findClass y.cls = some m.cls → (∀ w ∈ ws, w.before args.toArray s = true) → (∀ (pc : Nat) (ls : Array Slot) (v : UInt32), v = r → decode cc pc = .ok (.freturn, 1) → W p l e rm s m args.toArray below meth c s.heap [] 0 0 Q (F0 m pc ls [.float v])) →
      lv_has ls maxL (lv_args 0 args) → W p l e rm s m args.toArray below meth c s.heap [] 0 0 Q (F0 m 0 ls [])) : MP l y ws rm args (.float r) := by
  refine Met.ofW (cc := cc) (maxL := maxL) (ret := some .float) hy hw ?_
  intro p e s m args9 below meth c s₁ B hml hv
  obtain ⟨rfl, -⟩ := hv
  have hl := lv_entry args (n := maxL) hlen
  rw [lg_entry_eq]
  exact body p e s m below meth c _ _ B.exec B.bytes hml (findClass_of_methodNamed B.named) (atoms_spec B.pre) (fun pc ls v hv hd => by
    subst hv
    exact W.fret B.exec B.bytes B.returns (fun t ht _ => ⟨rfl, ht⟩) (fun _ h => nomatch h) hd B.notSynchronized) hl
theorem mx_f (hy : plainName y.cls = true) (hw : ws = Cond.code y cc maxL (some .float) :: ws') (hlen : (lg_sl args).length ≤ maxL)
    (body : ∀ (p : Program) (e : Env) (s : State) (m : MethodId) (below : List Frame) (meth : Method) (c : Code) (Q : State → Prop) (ls : Array Slot),
      p.tables.exec = Jvm.exec → c.code = cc → c.maxLocals = maxL → s.vm.findClass y.cls = some m.cls → (∀ w ∈ ws, w.before args.toArray s = true) → iD ad N → va_P D vwCl (iW ad N F) s.heap → va_K D vwCl (iT cI cQ cL) s → NW s → va_S (iA ad N s.heap.size) s.heap s.heap [] →
      (∀ (pc : Nat) (ls : Array Slot) (v : UInt32) (H : Heap) (locs : List Loc) (F' : Nat → va_E) (k n : Nat), post (some (.float v)) F' → va_P D vwCl (iW ad N F') H → va_S (iA ad N s.heap.size) s.heap H locs → k ≤ mc → n ≤ ms → decode cc pc = .ok (.freturn, 1) → W p l e rm s m args.toArray below meth c H locs k n Q (F0 m pc ls [.float v])) →
      lv_has ls maxL (lv_args 0 args) → W p l e rm s m args.toArray below meth c s.heap [] 0 0 Q (F0 m 0 ls [])) : MX l y ws rm D cI cQ cL ad N F args post mc ms := by
  intro sz
  refine Met.ofW (cc := cc) (maxL := maxL) (ret := some .float) hy hw ?_
  intro p e s m args9 below meth c s₁ B hml hv
  obtain ⟨rfl, hsz, hDi, hP, hK, hNW⟩ := hv
  subst hsz
  have hl := lv_entry args (n := maxL) hlen
  rw [lg_entry_eq]
  exact body p e s m below meth c _ _ B.exec B.bytes hml (findClass_of_methodNamed B.named) (atoms_spec B.pre) hDi hP hK hNW va_S.rf (fun pc ls v H locs F' k n hp hP1 hS h1 h2 hd => by
    refine W.widen (k := mc) (n := ms) h1 h2 ?_
    exact W.fret B.exec B.bytes B.returns (fun t ht _ => ⟨_, F', rfl, hp, by rw [ht]; exact hP1, hS.F ht⟩) hS.2.2 hd B.notSynchronized) hl
end MRf
def i16 : UInt64 := 4625196817309499392
/-- the share that is potted; the mean height -/
def shr (n : Nat) : UInt64 := FP.ddiv (FP.i2d (nI n)) i16
def mea (p n : Nat) : UInt32 := if p = 0 then FP.fconst0 else FP.fdiv (FP.i2f (nI (16 - n))) (FP.i2f (nI p))
theorem shr_ok {n : Nat} (h : n ≤ 16) : vf_n64 (shr n) := (show ∀ n, n < 17 → vf_n64 (shr n) by unfold vf_n64; decide +kernel) n (by omega)
theorem mea_ok {p n : Nat} (h : n ≤ 16) (hp : p ≤ 16) (h0 : p ≠ 0) : vf_n32 (FP.fdiv (FP.i2f (nI (16 - n))) (FP.i2f (nI p))) := (show ∀ p, p < 17 → ∀ n, n < 17 → p ≠ 0 → vf_n32 (FP.fdiv (FP.i2f (nI (16 - n))) (FP.i2f (nI p))) by unfold vf_n32; decide +kernel) p (by omega) n (by omega) h0
