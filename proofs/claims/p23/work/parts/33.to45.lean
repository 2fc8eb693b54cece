/-! from longs -/
section
section MRl
variable {l : Launch} {y : MethodName} {ws ws' : List Cond} {rm : Room} {cc : ByteArray} {maxL : Nat} {D : va_G} {cI cQ cL : ClassId} {ad : Nat → Nat} {N : Nat} {F : Nat → va_E} {args : List Value} {post : Option Value → (Nat → va_E) → Prop} {mc ms : Nat}
theorem mr_l {r : Int64} (hy : plainName y.cls = true) (hw : ws = Cond.code y cc maxL (some .long) :: ws') (hlen : (lg_sl args).length ≤ maxL)
    (body : ∀ (p : Program) (e : Env) (s : State) (m : MethodId) (below : List Frame) (meth : Method) (c : Code) (Q : State → Prop) (ls : Array Slot),
      p.tables.exec = Jvm.exec → c.code = cc → c.maxLocals = maxL → s.vm.findClass y.cls = some m.cls → (∀ w ∈ ws, w.before args.toArray s = true) → va_P D vwCl (iW ad N F) s.heap → va_K D vwCl (iT cI cQ cL) s → NW s →
      (∀ (pc : Nat) (ls : Array Slot) (v : Int64), v = r → decode cc pc = .ok (.lreturn, 1) → W p l e rm s m args.toArray below meth c s.heap [] 0 0 Q (F0 m pc ls [.long v])) →
      lv_has ls maxL (lv_args 0 args) → W p l e rm s m args.toArray below meth c s.heap [] 0 0 Q (F0 m 0 ls [])) : MR l y ws rm D cI cQ cL ad N F args (.long r) := by
  refine Met.ofW (cc := cc) (maxL := maxL) (ret := some .long) hy hw ?_
  intro p e s m args9 below meth c s₁ B hml hv
  obtain ⟨rfl, hP, hK, hNW⟩ := hv
  have hl := lv_entry args (n := maxL) hlen
  rw [lg_entry_eq]
  exact body p e s m below meth c _ _ B.exec B.bytes hml (findClass_of_methodNamed B.named) (atoms_spec B.pre) hP hK hNW (fun pc ls v hv hd => by
    subst hv
    exact W.lret B.exec B.bytes B.returns (fun t ht _ => ⟨rfl, ht⟩) (fun _ h => nomatch h) hd B.notSynchronized) hl
theorem mp_l {r : Int64} (hy : plainName y.cls = true) (hw : ws = Cond.code y cc maxL (some .long) :: ws') (hlen : (lg_sl args).length ≤ maxL)
    (body : ∀ (p : Program) (e : Env) (s : State) (m : MethodId) (below : List Frame) (meth : Method) (c : Code) (Q : State → Prop) (ls : Array Slot),
      p.tables.exec = Jvm.exec → c.code = cc → c.maxLocals = maxL → s.vm.findClass y.cls = some m.cls → (∀ w ∈ ws, w.before args.toArray s = true) → (∀ (pc : Nat) (ls : Array Slot) (v : Int64), v = r → decode cc pc = .ok (.lreturn, 1) → W p l e rm s m args.toArray below meth c s.heap [] 0 0 Q (F0 m pc ls [.long v])) →
      lv_has ls maxL (lv_args 0 args) → W p l e rm s m args.toArray below meth c s.heap [] 0 0 Q (F0 m 0 ls [])) : MP l y ws rm args (.long r) := by
  refine Met.ofW (cc := cc) (maxL := maxL) (ret := some .long) hy hw ?_
  intro p e s m args9 below meth c s₁ B hml hv
  obtain ⟨rfl, -⟩ := hv
  have hl := lv_entry args (n := maxL) hlen
  rw [lg_entry_eq]
  exact body p e s m below meth c _ _ B.exec B.bytes hml (findClass_of_methodNamed B.named) (atoms_spec B.pre) (fun pc ls v hv hd => by
    subst hv
    exact W.lret B.exec B.bytes B.returns (fun t ht _ => ⟨rfl, ht⟩) (fun _ h => nomatch h) hd B.notSynchronized) hl
theorem mx_l (hy : plainName y.cls = true) (hw : ws = Cond.code y cc maxL (some .long) :: ws') (hlen : (lg_sl args).length ≤ maxL)
    (body : ∀ (p : Program) (e : Env) (s : State) (m : MethodId) (below : List Frame) (meth : Method) (c : Code) (Q : State → Prop) (ls : Array Slot),
      p.tables.exec = Jvm.exec → c.code = cc → c.maxLocals = maxL → s.vm.findClass y.cls = some m.cls → (∀ w ∈ ws, w.before args.toArray s = true) → iD ad N → va_P D vwCl (iW ad N F) s.heap → va_K D vwCl (iT cI cQ cL) s → NW s → va_S (iA ad N s.heap.size) s.heap s.heap [] →
      (∀ (pc : Nat) (ls : Array Slot) (v : Int64) (H : Heap) (locs : List Loc) (F' : Nat → va_E) (k n : Nat), post (some (.long v)) F' → va_P D vwCl (iW ad N F') H → va_S (iA ad N s.heap.size) s.heap H locs → k ≤ mc → n ≤ ms → decode cc pc = .ok (.lreturn, 1) → W p l e rm s m args.toArray below meth c H locs k n Q (F0 m pc ls [.long v])) →
      lv_has ls maxL (lv_args 0 args) → W p l e rm s m args.toArray below meth c s.heap [] 0 0 Q (F0 m 0 ls [])) : MX l y ws rm D cI cQ cL ad N F args post mc ms := by
  intro sz
  refine Met.ofW (cc := cc) (maxL := maxL) (ret := some .long) hy hw ?_
  intro p e s m args9 below meth c s₁ B hml hv
  obtain ⟨rfl, hsz, hDi, hP, hK, hNW⟩ := hv
  subst hsz
  have hl := lv_entry args (n := maxL) hlen
  rw [lg_entry_eq]
  exact body p e s m below meth c _ _ B.exec B.bytes hml (findClass_of_methodNamed B.named) (atoms_spec B.pre) hDi hP hK hNW va_S.rf (fun pc ls v H locs F' k n hp hP1 hS h1 h2 hd => by
    refine W.widen (k := mc) (n := ms) h1 h2 ?_
    exact W.lret B.exec B.bytes B.returns (fun t ht _ => ⟨_, F', rfl, hp, by rw [ht]; exact hP1, hS.F ht⟩) hS.2.2 hd B.notSynchronized) hl
end MRl
section MRd
variable {l : Launch} {y : MethodName} {ws ws' : List Cond} {rm : Room} {cc : ByteArray} {maxL : Nat} {D : va_G} {cI cQ cL : ClassId} {ad : Nat → Nat} {N : Nat} {F : Nat → va_E} {args : List Value} {post : Option Value → (Nat → va_E) → Prop} {mc ms : Nat}
theorem mr_d {r : UInt64} (hy : plainName y.cls = true) (hw : ws = Cond.code y cc maxL (some .double) :: ws') (hlen : (lg_sl args).length ≤ maxL)
    (body : ∀ (p : Program) (e : Env) (s : State) (m : MethodId) (below : List Frame) (meth : Method) (c : Code) (Q : State → Prop) (ls : Array Slot),
      p.tables.exec = Jvm.exec → c.code = cc → c.maxLocals = maxL → s.vm.findClass y.cls = some m.cls → (∀ w ∈ ws, w.before args.toArray s = true) → va_P D vwCl (iW ad N F) s.heap → va_K D vwCl (iT cI cQ cL) s → NW s →
      (∀ (pc : Nat) (ls : Array Slot) (v : UInt64), v = r → decode cc pc = .ok (.dreturn, 1) → W p l e rm s m args.toArray below meth c s.heap [] 0 0 Q (F0 m pc ls [.double v])) →
      lv_has ls maxL (lv_args 0 args) → W p l e rm s m args.toArray below meth c s.heap [] 0 0 Q (F0 m 0 ls [])) : MR l y ws rm D cI cQ cL ad N F args (.double r) := by
  refine Met.ofW (cc := cc) (maxL := maxL) (ret := some .double) hy hw ?_
  intro p e s m args9 below meth c s₁ B hml hv
  obtain ⟨rfl, hP, hK, hNW⟩ := hv
  have hl := lv_entry args (n := maxL) hlen
  rw [lg_entry_eq]
  exact body p e s m below meth c _ _ B.exec B.bytes hml (findClass_of_methodNamed B.named) (atoms_spec B.pre) hP hK hNW (fun pc ls v hv hd => by
    subst hv
    exact W.dret B.exec B.bytes B.returns (fun t ht _ => ⟨rfl, ht⟩) (fun _ h => nomatch h) hd B.notSynchronized) hl
theorem mp_d {r : UInt64} (hy : plainName y.cls = true) (hw : ws = Cond.code y cc maxL (some .double) :: ws') (hlen : (lg_sl args).length ≤ maxL)
    (body : ∀ (p : Program) (e : Env) (s : State) (m : MethodId) (below : List Frame) (meth : Method) (c : Code) (Q : State → Prop) (ls : Array Slot),
      p.tables.exec = Jvm.exec → c.code = cc → c.maxLocals = maxL → s.vm.findClass y.cls = some m.cls → (∀ w ∈ ws, w.before args.toArray s = true) → (∀ (pc : Nat) (ls : Array Slot) (v : UInt64), v = r → decode cc pc = .ok (.dreturn, 1) → W p l e rm s m args.toArray below meth c s.heap [] 0 0 Q (F0 m pc ls [.double v])) →
      lv_has ls maxL (lv_args 0 args) → W p l e rm s m args.toArray below meth c s.heap [] 0 0 Q (F0 m 0 ls [])) : MP l y ws rm args (.double r) := by
  refine Met.ofW (cc := cc) (maxL := maxL) (ret := some .double) hy hw ?_
  intro p e s m args9 below meth c s₁ B hml hv
  obtain ⟨rfl, -⟩ := hv
  have hl := lv_entry args (n := maxL) hlen
  rw [lg_entry_eq]
  exact body p e s m below meth c _ _ B.exec B.bytes hml (findClass_of_methodNamed B.named) (atoms_spec B.pre) (fun pc ls v hv hd => by
    subst hv
    exact W.dret B.exec B.bytes B.returns (fun t ht _ => ⟨rfl, ht⟩) (fun _ h => nomatch h) hd B.notSynchronized) hl
theorem mx_d (hy : plainName y.cls = true) (hw : ws = Cond.code y cc maxL (some .double) :: ws') (hlen : (lg_sl args).length ≤ maxL)
    (body : ∀ (p : Program) (e : Env) (s : State) (m : MethodId) (below : List Frame) (meth : Method) (c : Code) (Q : State → Prop) (ls : Array Slot),
      p.tables.exec = Jvm.exec → c.code = cc → c.maxLocals = maxL → s.vm.findClass y.cls = some m.cls → (∀ w ∈ ws, w.before args.toArray s = true) → iD ad N → va_P D vwCl (iW ad N F) s.heap → va_K D vwCl (iT cI cQ cL) s → NW s → va_S (iA ad N s.heap.size) s.heap s.heap [] →
      (∀ (pc : Nat) (ls : Array Slot) (v : UInt64) (H : Heap) (locs : List Loc) (F' : Nat → va_E) (k n : Nat), post (some (.double v)) F' → va_P D vwCl (iW ad N F') H → va_S (iA ad N s.heap.size) s.heap H locs → k ≤ mc → n ≤ ms → decode cc pc = .ok (.dreturn, 1) → W p l e rm s m args.toArray below meth c H locs k n Q (F0 m pc ls [.double v])) →
      lv_has ls maxL (lv_args 0 args) → W p l e rm s m args.toArray below meth c s.heap [] 0 0 Q (F0 m 0 ls [])) : MX l y ws rm D cI cQ cL ad N F args post mc ms := by
  intro sz
  refine Met.ofW (cc := cc) (maxL := maxL) (ret := some .double) hy hw ?_
  intro p e s m args9 below meth c s₁ B hml hv
  obtain ⟨rfl, hsz, hDi, hP, hK, hNW⟩ := hv
  subst hsz
  have hl := lv_entry args (n := maxL) hlen
  rw [lg_entry_eq]
  exact body p e s m below meth c _ _ B.exec B.bytes hml (findClass_of_methodNamed B.named) (atoms_spec B.pre) hDi hP hK hNW va_S.rf (fun pc ls v H locs F' k n hp hP1 hS h1 h2 hd => by
    refine W.widen (k := mc) (n := ms) h1 h2 ?_
    exact W.dret B.exec B.bytes B.returns (fun t ht _ => ⟨_, F', rfl, hp, by rw [ht]; exact hP1, hS.F ht⟩) hS.2.2 hd B.notSynchronized) hl
end MRd
section MRf
variable {l : Launch} {y : MethodName} {ws ws' : List Cond} {rm : Room} {cc : ByteArray} {maxL : Nat} {D : va_G} {cI cQ cL : ClassId} {ad : Nat → Nat} {N : Nat} {F : Nat → va_E} {args : List Value} {post : Option Value → (Nat → va_E) → Prop} {mc ms : Nat}
theorem mr_f {r : UInt32} (hy : plainName y.cls = true) (hw : ws = Cond.code y cc maxL (some .float) :: ws') (hlen : (lg_sl args).length ≤ maxL)
    (body : ∀ (p : Program) (e : Env) (s : State) (m : MethodId) (below : List Frame) (meth : Method) (c : Code) (Q : State → Prop) (ls : Array Slot),
      p.tables.exec = Jvm.exec → c.code = cc → c.maxLocals = maxL → s.vm.findClass y.cls = some m.cls → (∀ w ∈ ws, w.before args.toArray s = true) → va_P D vwCl (iW ad N F) s.heap → va_K D vwCl (iT cI cQ cL) s → NW s →
      (∀ (pc : Nat) (ls : Array Slot) (v : UInt32), v = r → decode cc pc = .ok (.freturn, 1) → W p l e rm s m args.toArray below meth c s.heap [] 0 0 Q (F0 m pc ls [.float v])) →
      lv_has ls maxL (lv_args 0 args) → W p l e rm s m args.toArray below meth c s.heap [] 0 0 Q (F0 m 0 ls [])) : MR l y ws rm D cI cQ cL ad N F args (.float r) := by
  refine Met.ofW (cc := cc) (maxL := maxL) (ret := some .float) hy hw ?_
  intro p e s m args9 below meth c s₁ B hml hv
  obtain ⟨rfl, hP, hK, hNW⟩ := hv
  have hl := lv_entry args (n := maxL) hlen
  rw [lg_entry_eq]
  exact body p e s m below meth c _ _ B.exec B.bytes hml (findClass_of_methodNamed B.named) (atoms_spec B.pre) hP hK hNW (fun pc ls v hv hd => by
    subst hv
    exact W.fret B.exec B.bytes B.returns (fun t ht _ => ⟨rfl, ht⟩) (fun _ h => nomatch h) hd B.notSynchronized) hl
theorem mp_f {r : UInt32} (hy : plainName y.cls = true) (hw : ws = Cond.code y cc maxL (some .float) :: ws') (hlen : (lg_sl args).length ≤ maxL)
    (body : ∀ (p : Program) (e : Env) (s : State) (m : MethodId) (below : List Frame) (meth : Method) (c : Code) (Q : State → Prop) (ls : Array Slot),
      p.tables.exec = Jvm.exec → c.code = cc → c.maxLocals = maxL → s.vm.findClass y.cls = some m.cls → (∀ w ∈ ws, w.before args.toArray s = true) → (∀ (pc : Nat) (ls : Array Slot) (v : UInt32), v = r → decode cc pc = .ok (.freturn, 1) → W p l e rm s m args.toArray below meth c s.heap [] 0 0 Q (F0 m pc ls [.float v])) →
      lv_has ls maxL (lv_args 0 args) → W p l e rm s m args.toArray below meth c s.heap [] 0 0 Q (F0 m 0 ls [])) : MP l y ws rm args (.float r) := by
  refine Met.ofW (cc := cc) (maxL := maxL) (ret := some .float) hy hw ?_
  intro p e s m args9 below meth c s₁ B hml hv
  obtain ⟨rfl, -⟩ := hv
  have hl := lv_entry args (n := maxL) hlen
  rw [lg_entry_eq]
  exact body p e s m below meth c _ _ B.exec B.bytes hml (findClass_of_methodNamed B.named) (atoms_spec B.pre) (fun pc ls v hv hd => by
    subst hv
    exact W.fret B.exec B.bytes B.returns (fun t ht _ => ⟨rfl, ht⟩) (fun _ h => nomatch h) hd B.notSynchronized) hl
theorem mx_f (hy : plainName y.cls = true) (hw : ws = Cond.code y cc maxL (some .float) :: ws') (hlen : (lg_sl args).length ≤ maxL)
    (body : ∀ (p : Program) (e : Env) (s : State) (m : MethodId) (below : List Frame) (meth : Method) (c : Code) (Q : State → Prop) (ls : Array Slot),
      p.tables.exec = Jvm.exec → c.code = cc → c.maxLocals = maxL → s.vm.findClass y.cls = some m.cls → (∀ w ∈ ws, w.before args.toArray s = true) → iD ad N → va_P D vwCl (iW ad N F) s.heap → va_K D vwCl (iT cI cQ cL) s → NW s → va_S (iA ad N s.heap.size) s.heap s.heap [] →
      (∀ (pc : Nat) (ls : Array Slot) (v : UInt32) (H : Heap) (locs : List Loc) (F' : Nat → va_E) (k n : Nat), post (some (.float v)) F' → va_P D vwCl (iW ad N F') H → va_S (iA ad N s.heap.size) s.heap H locs → k ≤ mc → n ≤ ms → decode cc pc = .ok (.freturn, 1) → W p l e rm s m args.toArray below meth c H locs k n Q (F0 m pc ls [.float v])) →
      lv_has ls maxL (lv_args 0 args) → W p l e rm s m args.toArray below meth c s.heap [] 0 0 Q (F0 m 0 ls [])) : MX l y ws rm D cI cQ cL ad N F args post mc ms := by
  intro sz
  refine Met.ofW (cc := cc) (maxL := maxL) (ret := some .float) hy hw ?_
  intro p e s m args9 below meth c s₁ B hml hv
  obtain ⟨rfl, hsz, hDi, hP, hK, hNW⟩ := hv
  subst hsz
  have hl := lv_entry args (n := maxL) hlen
  rw [lg_entry_eq]
  exact body p e s m below meth c _ _ B.exec B.bytes hml (findClass_of_methodNamed B.named) (atoms_spec B.pre) hDi hP hK hNW va_S.rf (fun pc ls v H locs F' k n hp hP1 hS h1 h2 hd => by
    refine W.widen (k := mc) (n := ms) h1 h2 ?_
    exact W.fret B.exec B.bytes B.returns (fun t ht _ => ⟨_, F', rfl, hp, by rw [ht]; exact hP1, hS.F ht⟩) hS.2.2 hd B.notSynchronized) hl
end MRf
def i16 : UInt64 := 4625196817309499392
/-- the share that is potted; the mean height -/
def shr (n : Nat) : UInt64 := FP.ddiv (FP.i2d (nI n)) i16
def mea (p n : Nat) : UInt32 := if p = 0 then FP.fconst0 else FP.fdiv (FP.i2f (nI (16 - n))) (FP.i2f (nI p))
theorem shr_ok {n : Nat} (h : n ≤ 16) : vf_n64 (shr n) := (show ∀ n, n < 17 → vf_n64 (shr n) by unfold vf_n64; decide +kernel) n (by omega)
theorem mea_ok {p n : Nat} (h : n ≤ 16) (hp : p ≤ 16) (h0 : p ≠ 0) : vf_n32 (FP.fdiv (FP.i2f (nI (16 - n))) (FP.i2f (nI p))) := (show ∀ p, p < 17 → ∀ n, n < 17 → p ≠ 0 → vf_n32 (FP.fdiv (FP.i2f (nI (16 - n))) (FP.i2f (nI p))) by unfold vf_n32; decide +kernel) p (by omega) n (by omega) h0
end
/-! from foldspec -/
section
def mxd (x y : Int64) : Int64 := 31 * x + y
def fo (A : Nat → Int32) : Nat → Int64 → Int64
  | 0, h => h
  | k + 1, h => mxd (fo A k h) (A k).toInt64
def fo2 (A : Nat → Nat → Int32) (n : Nat) : Nat → Int64 → Int64
  | 0, h => h
  | i + 1, h => fo (A i) n (fo2 A n i h)
def foP (T : Nat → Bool) (A : Nat → Nat → Int32) (n : Nat) : Nat → Int64 → Int64
  | 0, h => h
  | i + 1, h => if T i = true then foP T A n i h else fo (A i) n (foP T A n i h)
theorem fo_s {A : Nat → Int32} {k : Nat} {h : Int64} : mxd (fo A k h) (A k).toInt64 = fo A (k + 1) h := rfl
theorem fo2_s {A : Nat → Nat → Int32} {n i : Nat} {h : Int64} : fo (A i) n (fo2 A n i h) = fo2 A n (i + 1) h := rfl
theorem foP_t {T : Nat → Bool} {A : Nat → Nat → Int32} {n i : Nat} {h : Int64} (e : T i = true) : foP T A n i h = foP T A n (i + 1) h := by simp only [foP, e, if_true]
theorem foP_f {T : Nat → Bool} {A : Nat → Nat → Int32} {n i : Nat} {h : Int64} (e : T i = false) : fo (A i) n (foP T A n i h) = foP T A n (i + 1) h := by simp only [foP, e, Bool.false_eq_true, if_false]
theorem piles_le (c b : Nat → Int32) : cnt (bot c b) 16 ≤ 16 := cnt_le _ 16
theorem on_cell {i : Nat} (h : i < 169) : on (nI (i % 13)) (nI (i / 13)) = true := on_tt (btw_nI (by omega)) (btw_nI (by omega))
end
/-! from cllong -/
section
set_option maxRecDepth 100000 in
set_option maxHeartbeats 4000000 in
theorem tX5_mixed (l : Launch) (x y : Int64) : MP l yX5_mixed (Cond.code yX5_mixed cX5_mixed 4 (some .long) :: AW) ({ frames := 0, cells := 0, slots := 0, locals := 0 } : Room) [.long x, .long y] (.long (mxd x y)) := by
  refine mp_l (by decide +kernel) rfl (Nat.le_of_ble_eq_true rfl) (fun p e s m below meth cd Q ls hx hb hml hown hts hret hl => ?_)
  have hown : s.vm.findClass RX5 = some m.cls := hown
  have hl : lv_has ls 4 [(0, .long x), (2, .long y)] := hl
  refine lv_ldc2 (v := (31)) hx hb hown (hts _ (List.mem_cons_of_mem _ (ac15 _ (List.mem_of_getElem? (i := 3) rfl)))) (dk kX5_mixed_ok 0 rfl) ?_
  refine lv_lload_n hx hb (dk kX5_mixed_ok 1 rfl) rfl (lv_at hl 0 rfl) ?_
  refine lv_lmul hx hb (dk kX5_mixed_ok 2 rfl) ?_
  refine lv_lload_n hx hb (dk kX5_mixed_ok 3 rfl) rfl (lv_at hl 1 rfl) ?_
  refine lv_ladd hx hb (dk kX5_mixed_ok 4 rfl) ?_
  exact hret _ _ _ (by rfl) (dk kX5_mixed_ok 5 rfl)
set_option maxRecDepth 100000 in
set_option maxHeartbeats 4000000 in
theorem tX5_pottedShare (l : Launch) (D : va_G) (cI cQ cL : ClassId) (ad : Nat → Nat) (N : Nat) (F : Nat → va_E) (hk : 76 < N) (c b v g h j : Nat → Int32) (t : Nat) (u z : Int32) (hN : stAt cI ad F 1 c b v g h j (nI t) u z) (c8 b8 v8 g8 h8 j8 : Nat → Int32) (t8 : Nat) (u8 z8 : Int32) (hSn : stAt cI ad F 9 c8 b8 v8 g8 h8 j8 (nI t8) u8 z8) (n9 m9 : Nat) (hn9 : n9 < 6) (hm9 : m9 ≤ 6) (hPa : paAt cQ ad F 17 n9 m9) (a : Nat → Int32) (n : Nat) (hn60 : n ≤ 60) (hT : gtAt cI ad F 67 a n) (c6 b6 v6 : Nat → Int32) (hM6 : matAt cI ad F 69 c6 b6 v6) (a7 d7 q7 : Nat → Int32) (hO : roAt cI ad F 73 a7 d7 q7) (hs : Bool) (hC : F 0 = .inr (5, [.ref (ad 1), .ref (ad 9), .ref (ad 17), .ref (ad 67), .ref (ad 69), .ref (ad 73), .int (bI hs)])) : MR l yX5_pottedShare (Cond.code yX5_pottedShare cX5_pottedShare 1 (some .double) :: AW) ({ frames := 6, cells := 0, slots := 0, locals := 82 } : Room) D cI cQ cL ad N F [.ref (ad 0)] (.double (shr (potn c))) := by
  refine mr_d (by decide +kernel) rfl (Nat.le_of_ble_eq_true rfl) (fun p e s m below meth cd Q ls hx hb hml hown hts hP hK hNW hret hl => ?_)
  have hown : s.vm.findClass RX5 = some m.cls := hown
  have hz0 : 0 < N := by omega
  have hz1 : 1 < N := by omega
  have hz1___1 : 1 + 1 < N := by omega
  have hz1___1___1 : 1 + 1 + 1 < N := by omega
  have hz1___1___2 : 1 + 1 + 2 < N := by omega
  have hz1___1___3 : 1 + 1 + 3 < N := by omega
  have hz1___5 : 1 + 5 < N := by omega
  have hz1___6 : 1 + 6 < N := by omega
  have hz1___7 : 1 + 7 < N := by omega
  have hz9 : 9 < N := by omega
  have hz17 : 17 < N := by omega
  have hz17___1 : 17 + 1 < N := by omega
  have hz67 : 67 < N := by omega
  have hz67___1 : 67 + 1 < N := by omega
  have hz69 : 69 < N := by omega
  have hz69___1 : 69 + 1 < N := by omega
  have hz69___2 : 69 + 2 < N := by omega
  have hz69___3 : 69 + 3 < N := by omega
  have hz73 : 73 < N := by omega
  have hz1___1___3 : 1 + 1 + 3 < N := by omega
  have hz69___3 : 69 + 3 < N := by omega
  have hl : lv_has ls 1 [(0, .ref (ad 0))] := hl
  refine lv_aload_n hx hb (dk kX5_pottedShare_ok 0 rfl) rfl (lv_at hl 0 rfl) ?_
  refine gf hx hb hts (fun w h => List.mem_cons_of_mem _ (acX5 w h)) hown hK hP hz0 hC rfl 0 (by decide) (hts _ (List.mem_cons_of_mem _ (ac7 _ (List.mem_of_getElem? (i := 21) rfl)))) (fun _ h => h) rfl (dk kX5_pottedShare_ok 1 rfl) ?_
  refine gfN hx hb hts (fun w h => List.mem_cons_of_mem _ (acX4 w h)) hown hK hP hz1 hN.1 rfl 0 (by decide) (nf2 hNW) (fun _ h => h) rfl (dk kX5_pottedShare_ok 2 rfl) ?_
  refine cvR (As := []) (rest := []) ⟨hx, hb, hml, hown, hts⟩ (tX1_potted l D cI cQ cL ad N F (1 + 1) (by omega) c b v hN.2.1) (cwV9 0 hts mcX1_potted (ac11 _ (List.mem_of_getElem? (i := 20) rfl)) miX1_potted meX1_potted mini_RX1 rfl rfl hdX1_potted ⟨Nat.le_of_ble_eq_true rfl, Nat.le_of_ble_eq_true rfl⟩) hK hP hNW hz1___1 hN.2.1.1 rfl rfl hl.1 rfl (Nat.le_of_ble_eq_true rfl) (by decide) (dk kX5_pottedShare_ok 3 rfl) ?_
  refine lv_i2d hx hb (dk kX5_pottedShare_ok 4 rfl) ?_
  refine lv_ldc2d (v := (4625196817309499392)) hx hb hown (hts _ (List.mem_cons_of_mem _ (ac15 _ (List.mem_of_getElem? (i := 2) rfl)))) (dk kX5_pottedShare_ok 5 rfl) ?_
  refine lv_ddiv hx hb (dk kX5_pottedShare_ok 6 rfl) (shr_ok (potn_le c)) ?_
  exact hret _ _ _ (by rfl) (dk kX5_pottedShare_ok 7 rfl)
set_option maxRecDepth 100000 in
set_option maxHeartbeats 4000000 in
theorem tX5_meanPile (l : Launch) (D : va_G) (cI cQ cL : ClassId) (ad : Nat → Nat) (N : Nat) (F : Nat → va_E) (hk : 76 < N) (c b v g h j : Nat → Int32) (t : Nat) (u z : Int32) (hN : stAt cI ad F 1 c b v g h j (nI t) u z) (c8 b8 v8 g8 h8 j8 : Nat → Int32) (t8 : Nat) (u8 z8 : Int32) (hSn : stAt cI ad F 9 c8 b8 v8 g8 h8 j8 (nI t8) u8 z8) (n9 m9 : Nat) (hn9 : n9 < 6) (hm9 : m9 ≤ 6) (hPa : paAt cQ ad F 17 n9 m9) (a : Nat → Int32) (n : Nat) (hn60 : n ≤ 60) (hT : gtAt cI ad F 67 a n) (c6 b6 v6 : Nat → Int32) (hM6 : matAt cI ad F 69 c6 b6 v6) (a7 d7 q7 : Nat → Int32) (hO : roAt cI ad F 73 a7 d7 q7) (hs : Bool) (hC : F 0 = .inr (5, [.ref (ad 1), .ref (ad 9), .ref (ad 17), .ref (ad 67), .ref (ad 69), .ref (ad 73), .int (bI hs)])) : MR l yX5_meanPile (Cond.code yX5_meanPile cX5_meanPile 2 (some .float) :: AW) ({ frames := 6, cells := 0, slots := 0, locals := 82 } : Room) D cI cQ cL ad N F [.ref (ad 0)] (.float (mea (cnt (bot c b) 16) (potn c))) := by
  refine mr_f (by decide +kernel) rfl (Nat.le_of_ble_eq_true rfl) (fun p e s m below meth cd Q ls hx hb hml hown hts hP hK hNW hret hl => ?_)
  have hown : s.vm.findClass RX5 = some m.cls := hown
  have hz0 : 0 < N := by omega
  have hz1 : 1 < N := by omega
  have hz1___1 : 1 + 1 < N := by omega
  have hz1___1___1 : 1 + 1 + 1 < N := by omega
  have hz1___1___2 : 1 + 1 + 2 < N := by omega
  have hz1___1___3 : 1 + 1 + 3 < N := by omega
  have hz1___5 : 1 + 5 < N := by omega
  have hz1___6 : 1 + 6 < N := by omega
  have hz1___7 : 1 + 7 < N := by omega
  have hz9 : 9 < N := by omega
  have hz17 : 17 < N := by omega
  have hz17___1 : 17 + 1 < N := by omega
  have hz67 : 67 < N := by omega
  have hz67___1 : 67 + 1 < N := by omega
  have hz69 : 69 < N := by omega
  have hz69___1 : 69 + 1 < N := by omega
  have hz69___2 : 69 + 2 < N := by omega
  have hz69___3 : 69 + 3 < N := by omega
  have hz73 : 73 < N := by omega
  have hz1___1___3 : 1 + 1 + 3 < N := by omega
  have hz69___3 : 69 + 3 < N := by omega
  have hl : lv_has ls 2 [(0, .ref (ad 0))] := hl
  refine lv_aload_n hx hb (dk kX5_meanPile_ok 0 rfl) rfl (lv_at hl 0 rfl) ?_
  refine gf hx hb hts (fun w h => List.mem_cons_of_mem _ (acX5 w h)) hown hK hP hz0 hC rfl 0 (by decide) (hts _ (List.mem_cons_of_mem _ (ac7 _ (List.mem_of_getElem? (i := 21) rfl)))) (fun _ h => h) rfl (dk kX5_meanPile_ok 1 rfl) ?_
  refine gfN hx hb hts (fun w h => List.mem_cons_of_mem _ (acX4 w h)) hown hK hP hz1 hN.1 rfl 0 (by decide) (nf2 hNW) (fun _ h => h) rfl (dk kX5_meanPile_ok 2 rfl) ?_
  refine cvR (As := []) (rest := []) ⟨hx, hb, hml, hown, hts⟩ (tX1_piles l D cI cQ cL ad N F (1 + 1) (by omega) c b v hN.2.1) (cwV9 0 hts mcX1_piles (ac13 _ (List.mem_of_getElem? (i := 11) rfl)) miX1_piles meX1_piles mini_RX1 rfl rfl hdX1_piles ⟨Nat.le_of_ble_eq_true rfl, Nat.le_of_ble_eq_true rfl⟩) hK hP hNW hz1___1 hN.2.1.1 rfl rfl hl.1 rfl (Nat.le_of_ble_eq_true rfl) (by decide) (dk kX5_meanPile_ok 3 rfl) ?_
  refine lv_istore_n (lv' := [(1, .int (nI (cnt (bot c b) 16))), (0, .ref (ad 0))]) hx hb (dk kX5_meanPile_ok 4 rfl) rfl hl (by decide) rfl (fun ls hl => ?_)
  refine lv_iload_n hx hb (dk kX5_meanPile_ok 5 rfl) rfl (lv_at hl 0 rfl) ?_
  refine n_if_ne (tgt := 19) hx hb (by have q1 := piles_le c b; omega) (dk kX5_meanPile_ok 6 rfl) (by decide) (fun h1 => ?_) (fun h1 => ?_)
  · skip
    refine lv_bipush (v := nI 16) hx hb (dk kX5_meanPile_ok 9 rfl) rfl ?_
    refine lv_aload_n hx hb (dk kX5_meanPile_ok 10 rfl) rfl (lv_at hl 1 rfl) ?_
    refine gf hx hb hts (fun w h => List.mem_cons_of_mem _ (acX5 w h)) hown hK hP hz0 hC rfl 0 (by decide) (hts _ (List.mem_cons_of_mem _ (ac7 _ (List.mem_of_getElem? (i := 21) rfl)))) (fun _ h => h) rfl (dk kX5_meanPile_ok 11 rfl) ?_
    refine gfN hx hb hts (fun w h => List.mem_cons_of_mem _ (acX4 w h)) hown hK hP hz1 hN.1 rfl 0 (by decide) (nf2 hNW) (fun _ h => h) rfl (dk kX5_meanPile_ok 12 rfl) ?_
    refine cvR (As := []) (rest := [.int (nI 16)]) ⟨hx, hb, hml, hown, hts⟩ (tX1_potted l D cI cQ cL ad N F (1 + 1) (by omega) c b v hN.2.1) (cwV9 0 hts mcX1_potted (ac11 _ (List.mem_of_getElem? (i := 20) rfl)) miX1_potted meX1_potted mini_RX1 rfl rfl hdX1_potted ⟨Nat.le_of_ble_eq_true rfl, Nat.le_of_ble_eq_true rfl⟩) hK hP hNW hz1___1 hN.2.1.1 rfl rfl hl.1 rfl (Nat.le_of_ble_eq_true rfl) (by decide) (dk kX5_meanPile_ok 13 rfl) ?_
    refine n_isub hx hb (by have q1 := potn_le c; omega) (dk kX5_meanPile_ok 14 rfl) ?_
    refine lv_i2f hx hb (dk kX5_meanPile_ok 15 rfl) ?_
    refine lv_iload_n hx hb (dk kX5_meanPile_ok 16 rfl) rfl (lv_at hl 0 rfl) ?_
    refine lv_i2f hx hb (dk kX5_meanPile_ok 17 rfl) ?_
    refine lv_fdiv hx hb (dk kX5_meanPile_ok 18 rfl) (mea_ok (potn_le c) (piles_le c b) (by assumption)) ?_
    exact hret _ _ _ (by simp only [mea, (eq_false h1), not_true_eq_false, not_false_eq_true, and_true, true_and, and_false, false_and, or_true, true_or, or_false, false_or, and_self, or_self, if_true, if_false, Bool.false_eq_true, reduceIte]; first | done | rfl) (dk kX5_meanPile_ok 19 rfl)
  · skip
    refine lv_fconst0 hx hb (dk kX5_meanPile_ok 7 rfl) ?_
    refine lv_goto (tgt := 36) hx hb (dk kX5_meanPile_ok 8 rfl) (by decide) ?_
    exact hret _ _ _ (by simp only [mea, (eq_true h1), not_true_eq_false, not_false_eq_true, and_true, true_and, and_false, false_and, or_true, true_or, or_false, false_or, and_self, or_self, if_true, if_false, Bool.false_eq_true, reduceIte]; first | done | rfl) (dk kX5_meanPile_ok 19 rfl)
set_option maxRecDepth 100000 in
set_option maxHeartbeats 4000000 in
theorem tX5_withColours (l : Launch) (D : va_G) (cI cQ cL : ClassId) (ad : Nat → Nat) (N : Nat) (F : Nat → va_E) (hk : 76 < N) (c b v g h j : Nat → Int32) (t : Nat) (u z : Int32) (hN : stAt cI ad F 1 c b v g h j (nI t) u z) (c8 b8 v8 g8 h8 j8 : Nat → Int32) (t8 : Nat) (u8 z8 : Int32) (hSn : stAt cI ad F 9 c8 b8 v8 g8 h8 j8 (nI t8) u8 z8) (n9 m9 : Nat) (hn9 : n9 < 6) (hm9 : m9 ≤ 6) (hPa : paAt cQ ad F 17 n9 m9) (a : Nat → Int32) (n : Nat) (hn60 : n ≤ 60) (hT : gtAt cI ad F 67 a n) (c6 b6 v6 : Nat → Int32) (hM6 : matAt cI ad F 69 c6 b6 v6) (a7 d7 q7 : Nat → Int32) (hO : roAt cI ad F 73 a7 d7 q7) (hs : Bool) (hC : F 0 = .inr (5, [.ref (ad 1), .ref (ad 9), .ref (ad 17), .ref (ad 67), .ref (ad 69), .ref (ad 73), .int (bI hs)])) (x : Int64) : MR l yX5_withColours (Cond.code yX5_withColours cX5_withColours 7 (some .long) :: AW) ({ frames := 7, cells := 0, slots := 0, locals := 104 } : Room) D cI cQ cL ad N F [.ref (ad 0), .long x] (.long (fo2 (fun w9 k9 => cCol c b v h j w9 (nI k9)) 7 4 x)) := by
  refine mr_l (by decide +kernel) rfl (Nat.le_of_ble_eq_true rfl) (fun p e s m below meth cd Q ls hx hb hml hown hts hP hK hNW hret hl => ?_)
  have hown : s.vm.findClass RX5 = some m.cls := hown
  have hz0 : 0 < N := by omega
  have hz1 : 1 < N := by omega
  have hz1___1 : 1 + 1 < N := by omega
  have hz1___1___1 : 1 + 1 + 1 < N := by omega
  have hz1___1___2 : 1 + 1 + 2 < N := by omega
  have hz1___1___3 : 1 + 1 + 3 < N := by omega
  have hz1___5 : 1 + 5 < N := by omega
  have hz1___6 : 1 + 6 < N := by omega
  have hz1___7 : 1 + 7 < N := by omega
  have hz9 : 9 < N := by omega
  have hz17 : 17 < N := by omega
  have hz17___1 : 17 + 1 < N := by omega
  have hz67 : 67 < N := by omega
  have hz67___1 : 67 + 1 < N := by omega
  have hz69 : 69 < N := by omega
  have hz69___1 : 69 + 1 < N := by omega
  have hz69___2 : 69 + 2 < N := by omega
  have hz69___3 : 69 + 3 < N := by omega
  have hz73 : 73 < N := by omega
  have hz1___1___3 : 1 + 1 + 3 < N := by omega
  have hz69___3 : 69 + 3 < N := by omega
  have hl : lv_has ls 7 [(0, .ref (ad 0)), (1, .long x)] := hl
  refine lv_lload_n hx hb (dk kX5_withColours_ok 0 rfl) rfl (lv_at hl 1 rfl) ?_
  refine lv_lstore_n (lv' := [(3, .long x), (0, .ref (ad 0)), (1, .long x)]) hx hb (dk kX5_withColours_ok 1 rfl) rfl hl (by decide) rfl (fun ls hl => ?_)
  refine lv_iconst (v := nI 0) hx hb (dk kX5_withColours_ok 2 rfl) rfl ?_
  refine lv_istore (lv' := [(5, .int (nI 0)), (3, .long x), (0, .ref (ad 0)), (1, .long x)]) hx hb (dk kX5_withColours_ok 3 rfl) hl (by decide) rfl (fun ls hl => ?_)
  have L5 : ∀ (fu : Nat) (i : Nat) (x3 : Int64), x3 = fo2 (fun w9 k9 => cCol c b v h j w9 (nI k9)) 7 i x → i ≤ 4 → 4 - i < fu → ∀ ls : Array Slot, lv_has ls 7 [(0, .ref (ad 0)), (1, .long x), (3, .long x3), (5, .int (nI i))] → W p l e ({ frames := 7, cells := 0, slots := 0, locals := 104 } : Room) s m ([.ref (ad 0), .long x] : List Value).toArray below meth cd s.heap [] 0 0 Q (F0 m 5 ls []) := by
    intro fu
    induction fu with
    | zero => intros; omega
    | succ fu ih5 =>
      intro i x3 ex3 hi hme5 ls hl
      subst ex3
      refine lv_iload hx hb (dk kX5_withColours_ok 4 rfl) (lv_at hl 3 rfl) ?_
      refine lv_iconst (v := nI 4) hx hb (dk kX5_withColours_ok 5 rfl) rfl ?_
      refine n_icmp_ge (tgt := 47) hx hb (by omega) (by decide) (dk kX5_withColours_ok 6 rfl) (by decide) (fun h1 => ?_) (fun h1 => ?_)
      · skip
        refine lv_lload_n hx hb (dk kX5_withColours_ok 24 rfl) rfl (lv_at hl 2 rfl) ?_
        exact hret _ _ _ (by rw [show i = 4 by omega]) (dk kX5_withColours_ok 25 rfl)
      · skip
        refine lv_iconst (v := nI 0) hx hb (dk kX5_withColours_ok 7 rfl) rfl ?_
        refine lv_istore (lv' := [(6, .int (nI 0)), (0, .ref (ad 0)), (1, .long x), (3, .long (fo2 (fun w9 k9 => cCol c b v h j w9 (nI k9)) 7 i x)), (5, .int (nI i))]) hx hb (dk kX5_withColours_ok 8 rfl) hl (by decide) rfl (fun ls hl => ?_)
        have L14 : ∀ (fu : Nat) (q : Nat) (x3 : Int64), x3 = fo ((fun w9 k9 => cCol c b v h j w9 (nI k9)) i) q (fo2 (fun w9 k9 => cCol c b v h j w9 (nI k9)) 7 i x) → q ≤ 7 → 7 - q < fu → ∀ ls : Array Slot, lv_has ls 7 [(0, .ref (ad 0)), (1, .long x), (3, .long x3), (5, .int (nI i)), (6, .int (nI q))] → W p l e ({ frames := 7, cells := 0, slots := 0, locals := 104 } : Room) s m ([.ref (ad 0), .long x] : List Value).toArray below meth cd s.heap [] 0 0 Q (F0 m 14 ls []) := by
          intro fu
          induction fu with
          | zero => intros; omega
          | succ fu ih14 =>
            intro q x3 ex3 hq hme14 ls hl
            subst ex3
            refine lv_iload hx hb (dk kX5_withColours_ok 9 rfl) (lv_at hl 4 rfl) ?_
            refine lv_bipush (v := nI 6) hx hb (dk kX5_withColours_ok 10 rfl) rfl ?_
            refine n_icmp_gt (tgt := 41) hx hb (by omega) (by decide) (dk kX5_withColours_ok 11 rfl) (by decide) (fun h2 => ?_) (fun h2 => ?_)
            · skip
              refine lv_iinc (v := nI (i + 1)) (lv' := [(5, .int (nI (i + 1))), (0, .ref (ad 0)), (1, .long x), (3, .long (fo ((fun w9 k9 => cCol c b v h j w9 (nI k9)) i) q (fo2 (fun w9 k9 => cCol c b v h j w9 (nI k9)) 7 i x))), (6, .int (nI q))]) hx hb (dk kX5_withColours_ok 22 rfl) hl (k := 3) rfl (n_inc _) (by decide) rfl (fun ls hl => ?_)
              refine lv_goto (tgt := 5) hx hb (dk kX5_withColours_ok 23 rfl) (by decide) ?_
              exact ih5 (i + 1) _ (by obtain rfl : q = 7 := (by omega); exact fo2_s (A := (fun w9 k9 => cCol c b v h j w9 (nI k9)))) (by omega) (by omega) ls (lv_sub hl [1, 2, 3, 0] rfl)
            · skip
              refine lv_lload_n hx hb (dk kX5_withColours_ok 12 rfl) rfl (lv_at hl 2 rfl) ?_
              refine lv_aload_n hx hb (dk kX5_withColours_ok 13 rfl) rfl (lv_at hl 0 rfl) ?_
              refine lv_iload hx hb (dk kX5_withColours_ok 14 rfl) (lv_at hl 3 rfl) ?_
              refine lv_iload hx hb (dk kX5_withColours_ok 15 rfl) (lv_at hl 4 rfl) ?_
              refine cvR (As := [.int (nI i), .int (nI q)]) (rest := [.long (fo ((fun w9 k9 => cCol c b v h j w9 (nI k9)) i) q (fo2 (fun w9 k9 => cCol c b v h j w9 (nI k9)) 7 i x))]) ⟨hx, hb, hml, hown, hts⟩ (tX5_colour l D cI cQ cL ad N F (by omega) c b v g h j t u z hN c8 b8 v8 g8 h8 j8 t8 u8 z8 hSn n9 m9 hn9 hm9 hPa a n hn60 hT c6 b6 v6 hM6 a7 d7 q7 hO hs hC (nI i) i rfl (by omega) (nI q) (btw_nI ⟨Nat.zero_le _, by omega⟩)) (cwV9 2 hts mcX5_colour (ac15 _ (List.mem_of_getElem? (i := 19) rfl)) miX5_colour meX5_colour mini_RX5 rfl rfl hdX5_colour ⟨Nat.le_of_ble_eq_true rfl, Nat.le_of_ble_eq_true rfl⟩) hK hP hNW hz0 hC rfl rfl hl.1 rfl (Nat.le_of_ble_eq_true rfl) (by decide) (dk kX5_withColours_ok 16 rfl) ?_
              refine lv_i2l hx hb (dk kX5_withColours_ok 17 rfl) rfl ?_
              refine csP (As := [.long (fo ((fun w9 k9 => cCol c b v h j w9 (nI k9)) i) q (fo2 (fun w9 k9 => cCol c b v h j w9 (nI k9)) 7 i x)), .long ((cCol c b v h j i (nI q)).toInt64)]) (rest := []) ⟨hx, hb, hml, hown, hts⟩ (tX5_mixed l (fo ((fun w9 k9 => cCol c b v h j w9 (nI k9)) i) q (fo2 (fun w9 k9 => cCol c b v h j w9 (nI k9)) 7 i x)) ((cCol c b v h j i (nI q)).toInt64)) (cwS9 2 hts mcX5_mixed (ac15 _ (List.mem_of_getElem? (i := 8) rfl)) msX5_mixed mini_RX5 rfl rfl hdX5_mixed ⟨Nat.le_of_ble_eq_true rfl, Nat.le_of_ble_eq_true rfl⟩) rfl hl.1 rfl (Nat.le_of_ble_eq_true rfl) (by decide) (dk kX5_withColours_ok 18 rfl) ?_
              refine lv_lstore_n (lv' := [(3, .long (mxd (fo ((fun w9 k9 => cCol c b v h j w9 (nI k9)) i) q (fo2 (fun w9 k9 => cCol c b v h j w9 (nI k9)) 7 i x)) ((cCol c b v h j i (nI q)).toInt64))), (0, .ref (ad 0)), (1, .long x), (5, .int (nI i)), (6, .int (nI q))]) hx hb (dk kX5_withColours_ok 19 rfl) rfl hl (by decide) rfl (fun ls hl => ?_)
              refine lv_iinc (v := nI (q + 1)) (lv' := [(6, .int (nI (q + 1))), (3, .long (mxd (fo ((fun w9 k9 => cCol c b v h j w9 (nI k9)) i) q (fo2 (fun w9 k9 => cCol c b v h j w9 (nI k9)) 7 i x)) ((cCol c b v h j i (nI q)).toInt64))), (0, .ref (ad 0)), (1, .long x), (5, .int (nI i))]) hx hb (dk kX5_withColours_ok 20 rfl) hl (k := 4) rfl (n_inc _) (by decide) rfl (fun ls hl => ?_)
              refine lv_goto (tgt := 14) hx hb (dk kX5_withColours_ok 21 rfl) (by decide) ?_
              exact ih14 (q + 1) _ (by exact fo_s (A := (fun w9 k9 => cCol c b v h j w9 (nI k9)) i)) (by omega) (by omega) ls (lv_sub hl [2, 3, 1, 4, 0] rfl)
        exact L14 _ 0 _ (by first | rfl | omega) (by first | rfl | omega) (Nat.lt_succ_self _) ls (lv_sub hl [1, 2, 3, 4, 0] rfl)
  exact L5 _ 0 _ (by first | rfl | omega) (by first | rfl | omega) (Nat.lt_succ_self _) ls (lv_sub hl [2, 3, 1, 0] rfl)
set_option maxRecDepth 100000 in
set_option maxHeartbeats 4000000 in
theorem tX5_withPiles (l : Launch) (D : va_G) (cI cQ cL : ClassId) (ad : Nat → Nat) (N : Nat) (F : Nat → va_E) (hk : 76 < N) (c b v g h j : Nat → Int32) (t : Nat) (u z : Int32) (hN : stAt cI ad F 1 c b v g h j (nI t) u z) (c8 b8 v8 g8 h8 j8 : Nat → Int32) (t8 : Nat) (u8 z8 : Int32) (hSn : stAt cI ad F 9 c8 b8 v8 g8 h8 j8 (nI t8) u8 z8) (n9 m9 : Nat) (hn9 : n9 < 6) (hm9 : m9 ≤ 6) (hPa : paAt cQ ad F 17 n9 m9) (a : Nat → Int32) (n : Nat) (hn60 : n ≤ 60) (hT : gtAt cI ad F 67 a n) (c6 b6 v6 : Nat → Int32) (hM6 : matAt cI ad F 69 c6 b6 v6) (a7 d7 q7 : Nat → Int32) (hO : roAt cI ad F 73 a7 d7 q7) (hs : Bool) (hC : F 0 = .inr (5, [.ref (ad 1), .ref (ad 9), .ref (ad 17), .ref (ad 67), .ref (ad 69), .ref (ad 73), .int (bI hs)])) (x : Int64) : MR l yX5_withPiles (Cond.code yX5_withPiles cX5_withPiles 7 (some .long) :: AW) ({ frames := 8, cells := 0, slots := 0, locals := 127 } : Room) D cI cQ cL ad N F [.ref (ad 0), .long x] (.long (foP (fun w9 => decide (top c v (nI w9) = -1)) (fun w9 k9 => cPile c b v (cat (nI (w9 % 13)) (nI (w9 / 13))) (nI k9)) 4 169 x)) := by
  refine mr_l (by decide +kernel) rfl (Nat.le_of_ble_eq_true rfl) (fun p e s m below meth cd Q ls hx hb hml hown hts hP hK hNW hret hl => ?_)
  have hown : s.vm.findClass RX5 = some m.cls := hown
  have hz0 : 0 < N := by omega
  have hz1 : 1 < N := by omega
  have hz1___1 : 1 + 1 < N := by omega
  have hz1___1___1 : 1 + 1 + 1 < N := by omega
  have hz1___1___2 : 1 + 1 + 2 < N := by omega
  have hz1___1___3 : 1 + 1 + 3 < N := by omega
  have hz1___5 : 1 + 5 < N := by omega
  have hz1___6 : 1 + 6 < N := by omega
  have hz1___7 : 1 + 7 < N := by omega
  have hz9 : 9 < N := by omega
  have hz17 : 17 < N := by omega
  have hz17___1 : 17 + 1 < N := by omega
  have hz67 : 67 < N := by omega
  have hz67___1 : 67 + 1 < N := by omega
  have hz69 : 69 < N := by omega
  have hz69___1 : 69 + 1 < N := by omega
  have hz69___2 : 69 + 2 < N := by omega
  have hz69___3 : 69 + 3 < N := by omega
  have hz73 : 73 < N := by omega
  have hz1___1___3 : 1 + 1 + 3 < N := by omega
  have hz69___3 : 69 + 3 < N := by omega
  have hl : lv_has ls 7 [(0, .ref (ad 0)), (1, .long x)] := hl
  refine lv_lload_n hx hb (dk kX5_withPiles_ok 0 rfl) rfl (lv_at hl 1 rfl) ?_
  refine lv_lstore_n (lv' := [(3, .long x), (0, .ref (ad 0)), (1, .long x)]) hx hb (dk kX5_withPiles_ok 1 rfl) rfl hl (by decide) rfl (fun ls hl => ?_)
  refine lv_iconst (v := nI 0) hx hb (dk kX5_withPiles_ok 2 rfl) rfl ?_
  refine lv_istore (lv' := [(5, .int (nI 0)), (3, .long x), (0, .ref (ad 0)), (1, .long x)]) hx hb (dk kX5_withPiles_ok 3 rfl) hl (by decide) rfl (fun ls hl => ?_)
  have L5 : ∀ (fu : Nat) (i : Nat) (x3 : Int64), x3 = foP (fun w9 => decide (top c v (nI w9) = -1)) (fun w9 k9 => cPile c b v (cat (nI (w9 % 13)) (nI (w9 / 13))) (nI k9)) 4 i x → i ≤ 169 → 169 - i < fu → ∀ ls : Array Slot, lv_has ls 7 [(0, .ref (ad 0)), (1, .long x), (3, .long x3), (5, .int (nI i))] → W p l e ({ frames := 8, cells := 0, slots := 0, locals := 127 } : Room) s m ([.ref (ad 0), .long x] : List Value).toArray below meth cd s.heap [] 0 0 Q (F0 m 5 ls []) := by
    intro fu
    induction fu with
    | zero => intros; omega
    | succ fu ih5 =>
      intro i x3 ex3 hi hme5 ls hl
      subst ex3
      refine lv_iload hx hb (dk kX5_withPiles_ok 4 rfl) (lv_at hl 3 rfl) ?_
      refine lv_sipush (v := nI 169) hx hb (dk kX5_withPiles_ok 5 rfl) rfl ?_
      refine n_icmp_ge (tgt := 75) hx hb (by omega) (by decide) (dk kX5_withPiles_ok 6 rfl) (by decide) (fun h1 => ?_) (fun h1 => ?_)
      · skip
        refine lv_lload_n hx hb (dk kX5_withPiles_ok 37 rfl) rfl (lv_at hl 2 rfl) ?_
        exact hret _ _ _ (by rw [show i = 169 by omega]) (dk kX5_withPiles_ok 38 rfl)
      · skip
        refine lv_aload_n hx hb (dk kX5_withPiles_ok 7 rfl) rfl (lv_at hl 0 rfl) ?_
        refine gf hx hb hts (fun w h => List.mem_cons_of_mem _ (acX5 w h)) hown hK hP hz0 hC rfl 0 (by decide) (hts _ (List.mem_cons_of_mem _ (ac7 _ (List.mem_of_getElem? (i := 21) rfl)))) (fun _ h => h) rfl (dk kX5_withPiles_ok 8 rfl) ?_
        refine gfN hx hb hts (fun w h => List.mem_cons_of_mem _ (acX4 w h)) hown hK hP hz1 hN.1 rfl 0 (by decide) (nf2 hNW) (fun _ h => h) rfl (dk kX5_withPiles_ok 9 rfl) ?_
        refine lv_iload hx hb (dk kX5_withPiles_ok 10 rfl) (lv_at hl 3 rfl) ?_
        refine cvR (As := [.int (nI i)]) (rest := []) ⟨hx, hb, hml, hown, hts⟩ (tX1_topAt l D cI cQ cL ad N F (1 + 1) (by omega) c b v hN.2.1 (nI i)) (cwV9 1 hts mcX1_topAt (ac12 _ (List.mem_of_getElem? (i := 8) rfl)) miX1_topAt meX1_topAt mini_RX1 rfl rfl hdX1_topAt ⟨Nat.le_of_ble_eq_true rfl, Nat.le_of_ble_eq_true rfl⟩) hK hP hNW hz1___1 hN.2.1.1 rfl rfl hl.1 rfl (Nat.le_of_ble_eq_true rfl) (by decide) (dk kX5_withPiles_ok 11 rfl) ?_
        refine lv_iconst (v := -1) hx hb (dk kX5_withPiles_ok 12 rfl) rfl ?_
        refine lv_icmp_ne (tgt := 32) hx hb (dk kX5_withPiles_ok 13 rfl) (by decide) (fun h2 => ?_) (fun h2 => ?_)
        · skip
          refine lv_iconst (v := nI 0) hx hb (dk kX5_withPiles_ok 15 rfl) rfl ?_
          refine lv_istore (lv' := [(6, .int (nI 0)), (0, .ref (ad 0)), (1, .long x), (3, .long (foP (fun w9 => decide (top c v (nI w9) = -1)) (fun w9 k9 => cPile c b v (cat (nI (w9 % 13)) (nI (w9 / 13))) (nI k9)) 4 i x)), (5, .int (nI i))]) hx hb (dk kX5_withPiles_ok 16 rfl) hl (by decide) rfl (fun ls hl => ?_)
          have L35 : ∀ (fu : Nat) (q : Nat) (x3 : Int64), x3 = fo ((fun w9 k9 => cPile c b v (cat (nI (w9 % 13)) (nI (w9 / 13))) (nI k9)) i) q (foP (fun w9 => decide (top c v (nI w9) = -1)) (fun w9 k9 => cPile c b v (cat (nI (w9 % 13)) (nI (w9 / 13))) (nI k9)) 4 i x) → q ≤ 4 → 4 - q < fu → ∀ ls : Array Slot, lv_has ls 7 [(0, .ref (ad 0)), (1, .long x), (3, .long x3), (5, .int (nI i)), (6, .int (nI q))] → W p l e ({ frames := 8, cells := 0, slots := 0, locals := 127 } : Room) s m ([.ref (ad 0), .long x] : List Value).toArray below meth cd s.heap [] 0 0 Q (F0 m 35 ls []) := by
            intro fu
            induction fu with
            | zero => intros; omega
            | succ fu ih35 =>
              intro q x3 ex3 hq hme35 ls hl
              subst ex3
              refine lv_iload hx hb (dk kX5_withPiles_ok 17 rfl) (lv_at hl 4 rfl) ?_
              refine lv_iconst (v := nI 3) hx hb (dk kX5_withPiles_ok 18 rfl) rfl ?_
              refine n_icmp_gt (tgt := 69) hx hb (by omega) (by decide) (dk kX5_withPiles_ok 19 rfl) (by decide) (fun h3 => ?_) (fun h3 => ?_)
              · skip
                refine lv_iinc (v := nI (i + 1)) (lv' := [(5, .int (nI (i + 1))), (0, .ref (ad 0)), (1, .long x), (3, .long (fo ((fun w9 k9 => cPile c b v (cat (nI (w9 % 13)) (nI (w9 / 13))) (nI k9)) i) q (foP (fun w9 => decide (top c v (nI w9) = -1)) (fun w9 k9 => cPile c b v (cat (nI (w9 % 13)) (nI (w9 / 13))) (nI k9)) 4 i x))), (6, .int (nI q))]) hx hb (dk kX5_withPiles_ok 35 rfl) hl (k := 3) rfl (n_inc _) (by decide) rfl (fun ls hl => ?_)
                refine lv_goto (tgt := 5) hx hb (dk kX5_withPiles_ok 36 rfl) (by decide) ?_
                exact ih5 (i + 1) _ (by first | exact foP_t (T := (fun w9 => decide (top c v (nI w9) = -1))) (A := (fun w9 k9 => cPile c b v (cat (nI (w9 % 13)) (nI (w9 / 13))) (nI k9))) (decide_eq_true h2) | (obtain rfl : q = 4 := (by omega); exact foP_f (T := (fun w9 => decide (top c v (nI w9) = -1))) (A := (fun w9 k9 => cPile c b v (cat (nI (w9 % 13)) (nI (w9 / 13))) (nI k9))) (decide_eq_false h2))) (by omega) (by omega) ls (lv_sub hl [1, 2, 3, 0] rfl)
              · skip
                refine lv_lload_n hx hb (dk kX5_withPiles_ok 20 rfl) rfl (lv_at hl 2 rfl) ?_
                refine lv_aload_n hx hb (dk kX5_withPiles_ok 21 rfl) rfl (lv_at hl 0 rfl) ?_
                refine lv_iload hx hb (dk kX5_withPiles_ok 22 rfl) (lv_at hl 3 rfl) ?_
                refine lv_bipush (v := nI 13) hx hb (dk kX5_withPiles_ok 23 rfl) rfl ?_
                refine n_irem hx hb (by omega) (by decide) (by decide) (dk kX5_withPiles_ok 24 rfl) ?_
                refine lv_iload hx hb (dk kX5_withPiles_ok 25 rfl) (lv_at hl 3 rfl) ?_
                refine lv_bipush (v := nI 13) hx hb (dk kX5_withPiles_ok 26 rfl) rfl ?_
                refine n_idiv hx hb (by omega) (by decide) (by decide) (dk kX5_withPiles_ok 27 rfl) ?_
                refine lv_iload hx hb (dk kX5_withPiles_ok 28 rfl) (lv_at hl 4 rfl) ?_
                refine cvR (As := [.int (nI (i % 13)), .int (nI (i / 13)), .int (nI q)]) (rest := [.long (fo ((fun w9 k9 => cPile c b v (cat (nI (w9 % 13)) (nI (w9 / 13))) (nI k9)) i) q (foP (fun w9 => decide (top c v (nI w9) = -1)) (fun w9 k9 => cPile c b v (cat (nI (w9 % 13)) (nI (w9 / 13))) (nI k9)) 4 i x))]) ⟨hx, hb, hml, hown, hts⟩ (tX5_pile l D cI cQ cL ad N F (by omega) c b v g h j t u z hN c8 b8 v8 g8 h8 j8 t8 u8 z8 hSn n9 m9 hn9 hm9 hPa a n hn60 hT c6 b6 v6 hM6 a7 d7 q7 hO hs hC (nI (i % 13)) (nI (i / 13)) (nI q) (on_cell (by omega)) (btw_nI ⟨Nat.zero_le _, by omega⟩)) (cwV9 3 hts mcX5_pile (ac15 _ (List.mem_of_getElem? (i := 23) rfl)) miX5_pile meX5_pile mini_RX5 rfl rfl hdX5_pile ⟨Nat.le_of_ble_eq_true rfl, Nat.le_of_ble_eq_true rfl⟩) hK hP hNW hz0 hC rfl rfl hl.1 rfl (Nat.le_of_ble_eq_true rfl) (by decide) (dk kX5_withPiles_ok 29 rfl) ?_
                refine lv_i2l hx hb (dk kX5_withPiles_ok 30 rfl) rfl ?_
                refine csP (As := [.long (fo ((fun w9 k9 => cPile c b v (cat (nI (w9 % 13)) (nI (w9 / 13))) (nI k9)) i) q (foP (fun w9 => decide (top c v (nI w9) = -1)) (fun w9 k9 => cPile c b v (cat (nI (w9 % 13)) (nI (w9 / 13))) (nI k9)) 4 i x)), .long ((cPile c b v (cat (nI (i % 13)) (nI (i / 13))) (nI q)).toInt64)]) (rest := []) ⟨hx, hb, hml, hown, hts⟩ (tX5_mixed l (fo ((fun w9 k9 => cPile c b v (cat (nI (w9 % 13)) (nI (w9 / 13))) (nI k9)) i) q (foP (fun w9 => decide (top c v (nI w9) = -1)) (fun w9 k9 => cPile c b v (cat (nI (w9 % 13)) (nI (w9 / 13))) (nI k9)) 4 i x)) ((cPile c b v (cat (nI (i % 13)) (nI (i / 13))) (nI q)).toInt64)) (cwS9 2 hts mcX5_mixed (ac15 _ (List.mem_of_getElem? (i := 8) rfl)) msX5_mixed mini_RX5 rfl rfl hdX5_mixed ⟨Nat.le_of_ble_eq_true rfl, Nat.le_of_ble_eq_true rfl⟩) rfl hl.1 rfl (Nat.le_of_ble_eq_true rfl) (by decide) (dk kX5_withPiles_ok 31 rfl) ?_
                refine lv_lstore_n (lv' := [(3, .long (mxd (fo ((fun w9 k9 => cPile c b v (cat (nI (w9 % 13)) (nI (w9 / 13))) (nI k9)) i) q (foP (fun w9 => decide (top c v (nI w9) = -1)) (fun w9 k9 => cPile c b v (cat (nI (w9 % 13)) (nI (w9 / 13))) (nI k9)) 4 i x)) ((cPile c b v (cat (nI (i % 13)) (nI (i / 13))) (nI q)).toInt64))), (0, .ref (ad 0)), (1, .long x), (5, .int (nI i)), (6, .int (nI q))]) hx hb (dk kX5_withPiles_ok 32 rfl) rfl hl (by decide) rfl (fun ls hl => ?_)
                refine lv_iinc (v := nI (q + 1)) (lv' := [(6, .int (nI (q + 1))), (3, .long (mxd (fo ((fun w9 k9 => cPile c b v (cat (nI (w9 % 13)) (nI (w9 / 13))) (nI k9)) i) q (foP (fun w9 => decide (top c v (nI w9) = -1)) (fun w9 k9 => cPile c b v (cat (nI (w9 % 13)) (nI (w9 / 13))) (nI k9)) 4 i x)) ((cPile c b v (cat (nI (i % 13)) (nI (i / 13))) (nI q)).toInt64))), (0, .ref (ad 0)), (1, .long x), (5, .int (nI i))]) hx hb (dk kX5_withPiles_ok 33 rfl) hl (k := 4) rfl (n_inc _) (by decide) rfl (fun ls hl => ?_)
                refine lv_goto (tgt := 35) hx hb (dk kX5_withPiles_ok 34 rfl) (by decide) ?_
                exact ih35 (q + 1) _ (by exact fo_s (A := (fun w9 k9 => cPile c b v (cat (nI (w9 % 13)) (nI (w9 / 13))) (nI k9)) i)) (by omega) (by omega) ls (lv_sub hl [2, 3, 1, 4, 0] rfl)
          exact L35 _ 0 _ (by first | rfl | omega) (by first | rfl | omega) (Nat.lt_succ_self _) ls (lv_sub hl [1, 2, 3, 4, 0] rfl)
        · skip
          refine lv_goto (tgt := 69) hx hb (dk kX5_withPiles_ok 14 rfl) (by decide) ?_
          refine lv_iinc (v := nI (i + 1)) (lv' := [(5, .int (nI (i + 1))), (0, .ref (ad 0)), (1, .long x), (3, .long (foP (fun w9 => decide (top c v (nI w9) = -1)) (fun w9 k9 => cPile c b v (cat (nI (w9 % 13)) (nI (w9 / 13))) (nI k9)) 4 i x))]) hx hb (dk kX5_withPiles_ok 35 rfl) hl (k := 3) rfl (n_inc _) (by decide) rfl (fun ls hl => ?_)
          refine lv_goto (tgt := 5) hx hb (dk kX5_withPiles_ok 36 rfl) (by decide) ?_
          exact ih5 (i + 1) _ (by first | exact foP_t (T := (fun w9 => decide (top c v (nI w9) = -1))) (A := (fun w9 k9 => cPile c b v (cat (nI (w9 % 13)) (nI (w9 / 13))) (nI k9))) (decide_eq_true h2) | (obtain rfl : q = 4 := (by omega); exact foP_f (T := (fun w9 => decide (top c v (nI w9) = -1))) (A := (fun w9 k9 => cPile c b v (cat (nI (w9 % 13)) (nI (w9 / 13))) (nI k9))) (decide_eq_false h2))) (by omega) (by omega) ls (lv_sub hl [1, 2, 3, 0] rfl)
  exact L5 _ 0 _ (by first | rfl | omega) (by first | rfl | omega) (Nat.lt_succ_self _) ls (lv_sub hl [2, 3, 1, 0] rfl)
set_option maxRecDepth 100000 in
set_option maxHeartbeats 4000000 in
theorem tX5_withText (l : Launch) (D : va_G) (cI cQ cL : ClassId) (ad : Nat → Nat) (N : Nat) (F : Nat → va_E) (hk : 76 < N) (c b v g h j : Nat → Int32) (t : Nat) (u z : Int32) (hN : stAt cI ad F 1 c b v g h j (nI t) u z) (c8 b8 v8 g8 h8 j8 : Nat → Int32) (t8 : Nat) (u8 z8 : Int32) (hSn : stAt cI ad F 9 c8 b8 v8 g8 h8 j8 (nI t8) u8 z8) (n9 m9 : Nat) (hn9 : n9 < 6) (hm9 : m9 ≤ 6) (hPa : paAt cQ ad F 17 n9 m9) (a : Nat → Int32) (n : Nat) (hn60 : n ≤ 60) (hT : gtAt cI ad F 67 a n) (c6 b6 v6 : Nat → Int32) (hM6 : matAt cI ad F 69 c6 b6 v6) (a7 d7 q7 : Nat → Int32) (hO : roAt cI ad F 73 a7 d7 q7) (hs : Bool) (hC : F 0 = .inr (5, [.ref (ad 1), .ref (ad 9), .ref (ad 17), .ref (ad 67), .ref (ad 69), .ref (ad 73), .int (bI hs)])) (x : Int64) : MR l yX5_withText (Cond.code yX5_withText cX5_withText 6 (some .long) :: AW) ({ frames := 6, cells := 0, slots := 0, locals := 82 } : Room) D cI cQ cL ad N F [.ref (ad 0), .long x] (.long (fo (fun k9 => cod a n k9) n (mxd x (nI n).toInt64))) := by
  refine mr_l (by decide +kernel) rfl (Nat.le_of_ble_eq_true rfl) (fun p e s m below meth cd Q ls hx hb hml hown hts hP hK hNW hret hl => ?_)
  have hown : s.vm.findClass RX5 = some m.cls := hown
  have hz0 : 0 < N := by omega
  have hz1 : 1 < N := by omega
  have hz1___1 : 1 + 1 < N := by omega
  have hz1___1___1 : 1 + 1 + 1 < N := by omega
  have hz1___1___2 : 1 + 1 + 2 < N := by omega
  have hz1___1___3 : 1 + 1 + 3 < N := by omega
  have hz1___5 : 1 + 5 < N := by omega
  have hz1___6 : 1 + 6 < N := by omega
  have hz1___7 : 1 + 7 < N := by omega
  have hz9 : 9 < N := by omega
  have hz17 : 17 < N := by omega
  have hz17___1 : 17 + 1 < N := by omega
  have hz67 : 67 < N := by omega
  have hz67___1 : 67 + 1 < N := by omega
  have hz69 : 69 < N := by omega
  have hz69___1 : 69 + 1 < N := by omega
  have hz69___2 : 69 + 2 < N := by omega
  have hz69___3 : 69 + 3 < N := by omega
  have hz73 : 73 < N := by omega
  have hz1___1___3 : 1 + 1 + 3 < N := by omega
  have hz69___3 : 69 + 3 < N := by omega
  have hl : lv_has ls 6 [(0, .ref (ad 0)), (1, .long x)] := hl
  refine lv_lload_n hx hb (dk kX5_withText_ok 0 rfl) rfl (lv_at hl 1 rfl) ?_
  refine lv_aload_n hx hb (dk kX5_withText_ok 1 rfl) rfl (lv_at hl 0 rfl) ?_
  refine gf hx hb hts (fun w h => List.mem_cons_of_mem _ (acX5 w h)) hown hK hP hz0 hC rfl 3 (by decide) (hts _ (List.mem_cons_of_mem _ (ac8 _ (List.mem_of_getElem? (i := 5) rfl)))) (fun _ h => h) rfl (dk kX5_withText_ok 2 rfl) ?_
  refine gfN hx hb hts (fun w h => List.mem_cons_of_mem _ (acX0 w h)) hown hK hP hz67 hT.1 rfl 1 (by decide) (nf10 hNW) (fun _ h => h) rfl (dk kX5_withText_ok 3 rfl) ?_
  refine lv_i2l hx hb (dk kX5_withText_ok 4 rfl) rfl ?_
  refine csP (As := [.long x, .long ((nI n).toInt64)]) (rest := []) ⟨hx, hb, hml, hown, hts⟩ (tX5_mixed l x ((nI n).toInt64)) (cwS9 2 hts mcX5_mixed (ac15 _ (List.mem_of_getElem? (i := 8) rfl)) msX5_mixed mini_RX5 rfl rfl hdX5_mixed ⟨Nat.le_of_ble_eq_true rfl, Nat.le_of_ble_eq_true rfl⟩) rfl hl.1 rfl (Nat.le_of_ble_eq_true rfl) (by decide) (dk kX5_withText_ok 5 rfl) ?_
  refine lv_lstore_n (lv' := [(3, .long (mxd x ((nI n).toInt64))), (0, .ref (ad 0)), (1, .long x)]) hx hb (dk kX5_withText_ok 6 rfl) rfl hl (by decide) rfl (fun ls hl => ?_)
  refine lv_iconst (v := nI 0) hx hb (dk kX5_withText_ok 7 rfl) rfl ?_
  refine lv_istore (lv' := [(5, .int (nI 0)), (3, .long (mxd x ((nI n).toInt64))), (0, .ref (ad 0)), (1, .long x)]) hx hb (dk kX5_withText_ok 8 rfl) hl (by decide) rfl (fun ls hl => ?_)
  have L16 : ∀ (fu : Nat) (i : Nat) (x3 : Int64), x3 = fo (fun k9 => cod a n k9) i (mxd x (nI n).toInt64) → i ≤ n → n - i < fu → ∀ ls : Array Slot, lv_has ls 6 [(0, .ref (ad 0)), (1, .long x), (3, .long x3), (5, .int (nI i))] → W p l e ({ frames := 6, cells := 0, slots := 0, locals := 82 } : Room) s m ([.ref (ad 0), .long x] : List Value).toArray below meth cd s.heap [] 0 0 Q (F0 m 16 ls []) := by
    intro fu
    induction fu with
    | zero => intros; omega
    | succ fu ih16 =>
      intro i x3 ex3 hi hme16 ls hl
      subst ex3
      refine lv_iload hx hb (dk kX5_withText_ok 9 rfl) (lv_at hl 3 rfl) ?_
      refine lv_aload_n hx hb (dk kX5_withText_ok 10 rfl) rfl (lv_at hl 0 rfl) ?_
      refine gf hx hb hts (fun w h => List.mem_cons_of_mem _ (acX5 w h)) hown hK hP hz0 hC rfl 3 (by decide) (hts _ (List.mem_cons_of_mem _ (ac8 _ (List.mem_of_getElem? (i := 5) rfl)))) (fun _ h => h) rfl (dk kX5_withText_ok 11 rfl) ?_
      refine gfN hx hb hts (fun w h => List.mem_cons_of_mem _ (acX0 w h)) hown hK hP hz67 hT.1 rfl 1 (by decide) (nf10 hNW) (fun _ h => h) rfl (dk kX5_withText_ok 12 rfl) ?_
      refine n_icmp_ge (tgt := 49) hx hb (by omega) (by omega) (dk kX5_withText_ok 13 rfl) (by decide) (fun h1 => ?_) (fun h1 => ?_)
      · skip
        refine lv_lload_n hx hb (dk kX5_withText_ok 24 rfl) rfl (lv_at hl 2 rfl) ?_
        exact hret _ _ _ (by rw [show i = n by omega]) (dk kX5_withText_ok 25 rfl)
      · skip
        refine lv_lload_n hx hb (dk kX5_withText_ok 14 rfl) rfl (lv_at hl 2 rfl) ?_
        refine lv_aload_n hx hb (dk kX5_withText_ok 15 rfl) rfl (lv_at hl 0 rfl) ?_
        refine gf hx hb hts (fun w h => List.mem_cons_of_mem _ (acX5 w h)) hown hK hP hz0 hC rfl 3 (by decide) (hts _ (List.mem_cons_of_mem _ (ac8 _ (List.mem_of_getElem? (i := 5) rfl)))) (fun _ h => h) rfl (dk kX5_withText_ok 16 rfl) ?_
        refine lv_iload hx hb (dk kX5_withText_ok 17 rfl) (lv_at hl 3 rfl) ?_
        refine cvR (As := [.int (nI i)]) (rest := [.long (fo (fun k9 => cod a n k9) i (mxd x (nI n).toInt64))]) ⟨hx, hb, hml, hown, hts⟩ (tX0_codeAt l D cI cQ cL ad N F 67 (by omega) a n hn60 hT (nI i) i rfl (by omega)) (cwV9 1 hts mcX0_codeAt (ac11 _ (List.mem_of_getElem? (i := 2) rfl)) miX0_codeAt meX0_codeAt mini_RX0 rfl rfl hdX0_codeAt ⟨Nat.le_of_ble_eq_true rfl, Nat.le_of_ble_eq_true rfl⟩) hK hP hNW hz67 hT.1 rfl rfl hl.1 rfl (Nat.le_of_ble_eq_true rfl) (by decide) (dk kX5_withText_ok 18 rfl) ?_
        refine lv_i2l hx hb (dk kX5_withText_ok 19 rfl) rfl ?_
        refine csP (As := [.long (fo (fun k9 => cod a n k9) i (mxd x (nI n).toInt64)), .long ((cod a n i).toInt64)]) (rest := []) ⟨hx, hb, hml, hown, hts⟩ (tX5_mixed l (fo (fun k9 => cod a n k9) i (mxd x (nI n).toInt64)) ((cod a n i).toInt64)) (cwS9 2 hts mcX5_mixed (ac15 _ (List.mem_of_getElem? (i := 8) rfl)) msX5_mixed mini_RX5 rfl rfl hdX5_mixed ⟨Nat.le_of_ble_eq_true rfl, Nat.le_of_ble_eq_true rfl⟩) rfl hl.1 rfl (Nat.le_of_ble_eq_true rfl) (by decide) (dk kX5_withText_ok 20 rfl) ?_
        refine lv_lstore_n (lv' := [(3, .long (mxd (fo (fun k9 => cod a n k9) i (mxd x (nI n).toInt64)) ((cod a n i).toInt64))), (0, .ref (ad 0)), (1, .long x), (5, .int (nI i))]) hx hb (dk kX5_withText_ok 21 rfl) rfl hl (by decide) rfl (fun ls hl => ?_)
        refine lv_iinc (v := nI (i + 1)) (lv' := [(5, .int (nI (i + 1))), (3, .long (mxd (fo (fun k9 => cod a n k9) i (mxd x (nI n).toInt64)) ((cod a n i).toInt64))), (0, .ref (ad 0)), (1, .long x)]) hx hb (dk kX5_withText_ok 22 rfl) hl (k := 3) rfl (n_inc _) (by decide) rfl (fun ls hl => ?_)
        refine lv_goto (tgt := 16) hx hb (dk kX5_withText_ok 23 rfl) (by decide) ?_
        exact ih16 (i + 1) _ (by exact fo_s (A := (fun k9 => cod a n k9))) (by omega) (by omega) ls (lv_sub hl [2, 3, 1, 0] rfl)
  exact L16 _ 0 _ (by first | rfl | omega) (by first | rfl | omega) (Nat.lt_succ_self _) ls (lv_sub hl [2, 3, 1, 0] rfl)
end
/-! from refspec5 -/
section
theorem rpl_le (r : Nat → Int32) : rpl r ≤ 16 := cnt_le _ 16
theorem potn_cong {f g : Nat → Int32} (h : ∀ i, i < 16 → f i = g i) : potn f = potn g := by
  have e : ∀ k, k < 4 → potc f k = potc g k := fun k hk => cnt_cong (fun w hw => by rw [h _ (by omega)])
  simp only [potn, sm]
  rw [e 0 (by decide), e 1 (by decide), e 2 (by decide), e 3 (by decide)]
theorem potn_cp {f g : Nat → Int32} : potn (cp9 f g 0 60) = potn g := potn_cong (fun i hi => cp9_lo (by omega))
end
/-! from reflong -/
section
set_option maxRecDepth 100000 in
set_option maxHeartbeats 4000000 in
theorem tX6_goBack (l : Launch) (D : va_G) (cI cQ cL : ClassId) (ad : Nat → Nat) (N : Nat) (F : Nat → va_E) (k : Nat) (hk : k + 7 < N) (r ps sl sd ne fa bu : Nat → Int32) (hs : Bool) (st ln pt : Nat) (th : Int32) (hR : rfAt cI ad F k r ps sl sd ne fa bu hs st ln pt th) (hst6 : st ≤ 6) (hh : hs = true) : MX l yX6_goBack (Cond.code yX6_goBack cX6_goBack 2 (some .int) :: AW) ({ frames := 3, cells := 0, slots := 0, locals := 64 } : Room) D cI cQ cL ad N F [.ref (ad k)] (dp (some (.int (nI (potn sl)))) (rfSet cI ad F k sl (rcP ps r st) sl sd ne fa bu hs (rcS st) ln pt (nI 0))) 0 0 := by
  refine mx_i (ty := .int) (by decide +kernel) rfl (Nat.le_of_ble_eq_true rfl) (fun p e s m below meth cd Q ls hx hb hml hown hts hDi hP hK hNW hS hret hl => ?_)
  have hown : s.vm.findClass RX6 = some m.cls := hown
  have hk0 : k < N := by omega
  have hk1 : k + 1 < N := by omega
  have hk2 : k + 2 < N := by omega
  have hk3 : k + 3 < N := by omega
  have hk4 : k + 4 < N := by omega
  have hk5 : k + 5 < N := by omega
  have hk6 : k + 6 < N := by omega
  have hk7 : k + 7 < N := by omega
  have hP : va_P D vwCl (iW ad N (rfSet cI ad F k r ps sl sd ne fa bu hs st ln pt th)) s.heap := by rw [rfSet_self hR]; exact hP
  have hl : lv_has ls 2 [(0, .ref (ad k))] := hl
  refine lv_aload_n hx hb (dk kX6_goBack_ok 0 rfl) rfl (lv_at hl 0 rfl) ?_
  refine lv_iconst (v := nI 0) hx hb (dk kX6_goBack_ok 1 rfl) rfl ?_
  refine pf (rfSet cI ad F k r ps sl sd ne fa bu hs st ln pt (nI 0)) hx hb hts (fun w h => List.mem_cons_of_mem _ (acX6 w h)) tyX6 tyX6_ok nmX6 hown hK hDi hP hS hk0 rfSet_at.1 rfl 11 (by decide) (hts _ (List.mem_cons_of_mem _ (ac18 _ (List.mem_of_getElem? (i := 4) rfl)))) (fun _ h => h) rfl (ty := .int) rfl rfl rfl (Nat.le_of_ble_eq_true rfl) (dk kX6_goBack_ok 2 rfl) rfSet_u0 (fun H locs hP hS => ?_)
  refine lv_aload_n hx hb (dk kX6_goBack_ok 3 rfl) rfl (lv_at hl 0 rfl) ?_
  refine gf hx hb hts (fun w h => List.mem_cons_of_mem _ (acX6 w h)) hown hK hP hk0 rfSet_at.1 rfl 7 (by decide) (hts _ (List.mem_cons_of_mem _ (ac22 _ (List.mem_of_getElem? (i := 9) rfl)))) (fun _ h => h) rfl (dk kX6_goBack_ok 4 rfl) ?_
  refine b_if_ne (tgt := 18) hx hb (dk kX6_goBack_ok 5 rfl) (by decide) (fun h1 => ?_) (fun h1 => ?_)
  · skip
    refine lv_aload_n hx hb (dk kX6_goBack_ok 10 rfl) rfl (lv_at hl 0 rfl) ?_
    refine cvDv (As := []) (rest := []) (rfSet cI ad F k r (rcP ps r st) sl sd ne fa bu hs (rcS st) ln pt (nI 0)) ⟨hx, hb, hml, hown, hts⟩ (tX6_record l D cI cQ cL ad N (rfSet cI ad F k r ps sl sd ne fa bu hs st ln pt (nI 0)) k hk r ps sl sd ne fa bu hs st ln pt (nI 0) (rfSet_at) hst6) (cwV9 0 hts mcX6_record (ac20 _ (List.mem_of_getElem? (i := 23) rfl)) miX6_record meX6_record mini_RX6 rfl rfl hdX6_record ⟨Nat.le_of_ble_eq_true rfl, Nat.le_of_ble_eq_true rfl⟩) hDi hK hP hNW hS hk0 rfSet_at.1 rfl rfl hl.1 rfl (Nat.le_of_ble_eq_true rfl) (by decide) (dk kX6_goBack_ok 11 rfl) rfSet_rfSet (fun H locs hP hS => ?_)
    refine lv_iconst (v := nI 0) hx hb (dk kX6_goBack_ok 12 rfl) rfl ?_
    refine lv_istore_n (lv' := [(1, .int (nI 0)), (0, .ref (ad k))]) hx hb (dk kX6_goBack_ok 13 rfl) rfl hl (by decide) rfl (fun ls hl => ?_)
    have L24 : ∀ (fu : Nat) (i : Nat) (H : Heap) (locs : List Loc), va_P D vwCl (iW ad N (rfSet cI ad F k (cp9 r sl 0 i) (rcP ps r st) sl sd ne fa bu hs (rcS st) ln pt (nI 0))) H → va_S (iA ad N s.heap.size) s.heap H locs → i ≤ 60 → 60 - i < fu → ∀ ls : Array Slot, lv_has ls 2 [(0, .ref (ad k)), (1, .int (nI i))] → W p l e ({ frames := 3, cells := 0, slots := 0, locals := 64 } : Room) s m ([.ref (ad k)] : List Value).toArray below meth cd H locs 0 0 Q (F0 m 24 ls []) := by
      intro fu
      induction fu with
      | zero => intros; omega
      | succ fu ih24 =>
        intro i H locs hP hS hi hme24 ls hl
        refine lv_iload_n hx hb (dk kX6_goBack_ok 14 rfl) rfl (lv_at hl 1 rfl) ?_
        refine lv_bipush (v := nI 60) hx hb (dk kX6_goBack_ok 15 rfl) rfl ?_
        refine n_icmp_ge (tgt := 48) hx hb (by omega) (by decide) (dk kX6_goBack_ok 16 rfl) (by decide) (fun h2 => ?_) (fun h2 => ?_)
        · skip
          refine lv_aload_n hx hb (dk kX6_goBack_ok 27 rfl) rfl (lv_at hl 0 rfl) ?_
          refine cvR (As := []) (rest := []) ⟨hx, hb, hml, hown, hts⟩ (tX6_pottedInAll l D cI cQ cL ad N (rfSet cI ad F k (cp9 r sl 0 i) (rcP ps r st) sl sd ne fa bu hs (rcS st) ln pt (nI 0)) k hk (cp9 r sl 0 i) (rcP ps r st) sl sd ne fa bu hs (rcS st) ln pt (nI 0) (rfSet_at)) (cwV9 0 hts mcX6_pottedInAll (ac22 _ (List.mem_of_getElem? (i := 10) rfl)) miX6_pottedInAll meX6_pottedInAll mini_RX6 rfl rfl hdX6_pottedInAll ⟨Nat.le_of_ble_eq_true rfl, Nat.le_of_ble_eq_true rfl⟩) hK hP hNW hk0 rfSet_at.1 rfl rfl hl.1 rfl (Nat.le_of_ble_eq_true rfl) (by decide) (dk kX6_goBack_ok 28 rfl) ?_
          exact hret _ _ _ _ _ _ _ _ rfl (by refine ⟨?_, rfl⟩; rw [show i = 60 by omega, potn_cp]) (rf_ext (by rw [show i = 60 by omega] at hP; exact hP) (h1 := fun _ h9 => cp9_lo h9)) hS (by decide) (by decide) (dk kX6_goBack_ok 29 rfl)
        · skip
          refine lv_aload_n hx hb (dk kX6_goBack_ok 17 rfl) rfl (lv_at hl 0 rfl) ?_
          refine gf hx hb hts (fun w h => List.mem_cons_of_mem _ (acX6 w h)) hown hK hP hk0 rfSet_at.1 rfl 0 (by decide) (hts _ (List.mem_cons_of_mem _ (ac17 _ (List.mem_of_getElem? (i := 17) rfl)))) (fun _ h => h) rfl (dk kX6_goBack_ok 18 rfl) ?_
          refine lv_iload_n hx hb (dk kX6_goBack_ok 19 rfl) rfl (lv_at hl 1 rfl) ?_
          refine lv_aload_n hx hb (dk kX6_goBack_ok 20 rfl) rfl (lv_at hl 0 rfl) ?_
          refine gf hx hb hts (fun w h => List.mem_cons_of_mem _ (acX6 w h)) hown hK hP hk0 rfSet_at.1 rfl 2 (by decide) (hts _ (List.mem_cons_of_mem _ (ac17 _ (List.mem_of_getElem? (i := 19) rfl)))) (fun _ h => h) rfl (dk kX6_goBack_ok 21 rfl) ?_
          refine lv_iload_n hx hb (dk kX6_goBack_ok 22 rfl) rfl (lv_at hl 1 rfl) ?_
          refine ald (j := i) hx hb hK hP hk3 rfSet_at.2.2.2.1 rfl (by omega) (by decide) (dk kX6_goBack_ok 23 rfl) ?_
          refine ast (rfSet cI ad F k (upd (cp9 r sl 0 i) i (sl i)) (rcP ps r st) sl sd ne fa bu hs (rcS st) ln pt (nI 0)) (j := i) hx hb hK hDi hP hS hk1 rfSet_at.2.1 rfl (by omega) (by decide) (dk kX6_goBack_ok 24 rfl) rfSet_u1 (fun H locs hP hS => ?_)
          refine lv_iinc (v := nI (i + 1)) (lv' := [(1, .int (nI (i + 1))), (0, .ref (ad k))]) hx hb (dk kX6_goBack_ok 25 rfl) hl (k := 1) rfl (n_inc _) (by decide) rfl (fun ls hl => ?_)
          refine lv_goto (tgt := 24) hx hb (dk kX6_goBack_ok 26 rfl) (by decide) ?_
          exact ih24 (i + 1) _ _ (by first | (rw [cp9_0]; exact hP) | (rw [← cp9_s0]; exact hP)) hS (by omega) (by omega) ls (lv_sub hl [1, 0] rfl)
    exact L24 _ 0 _ _ (by first | (rw [cp9_0]; exact hP) | (rw [← cp9_s0]; exact hP)) hS (by omega) (Nat.lt_succ_self _) ls (lv_sub hl [1, 0] rfl)
  · exact absurd (hh.symm.trans h1) (by decide)
set_option maxRecDepth 100000 in
set_option maxHeartbeats 4000000 in
theorem tX6_goBackX (l : Launch) (D : va_G) (cI cQ cL : ClassId) (ad : Nat → Nat) (N : Nat) (F : Nat → va_E) (k : Nat) (hk : k + 7 < N) (r ps sl sd ne fa bu : Nat → Int32) (hs : Bool) (st ln pt : Nat) (th : Int32) (hR : rfAt cI ad F k r ps sl sd ne fa bu hs st ln pt th) (hh : hs = false) : MX l yX6_goBack (Cond.code yX6_goBack cX6_goBack 2 (some .int) :: AW) ({ frames := 1, cells := 0, slots := 0, locals := 21 } : Room) D cI cQ cL ad N F [.ref (ad k)] (dp (some (.int (nI 0))) (rfSet cI ad F k r ps sl sd ne fa bu hs st ln pt (nI 1))) 0 0 := by
  refine mx_i (ty := .int) (by decide +kernel) rfl (Nat.le_of_ble_eq_true rfl) (fun p e s m below meth cd Q ls hx hb hml hown hts hDi hP hK hNW hS hret hl => ?_)
  have hown : s.vm.findClass RX6 = some m.cls := hown
  have hk0 : k < N := by omega
  have hk1 : k + 1 < N := by omega
  have hk2 : k + 2 < N := by omega
  have hk3 : k + 3 < N := by omega
  have hk4 : k + 4 < N := by omega
  have hk5 : k + 5 < N := by omega
  have hk6 : k + 6 < N := by omega
  have hk7 : k + 7 < N := by omega
  have hP : va_P D vwCl (iW ad N (rfSet cI ad F k r ps sl sd ne fa bu hs st ln pt th)) s.heap := by rw [rfSet_self hR]; exact hP
  have hl : lv_has ls 2 [(0, .ref (ad k))] := hl
  refine lv_aload_n hx hb (dk kX6_goBack_ok 0 rfl) rfl (lv_at hl 0 rfl) ?_
  refine lv_iconst (v := nI 0) hx hb (dk kX6_goBack_ok 1 rfl) rfl ?_
  refine pf (rfSet cI ad F k r ps sl sd ne fa bu hs st ln pt (nI 0)) hx hb hts (fun w h => List.mem_cons_of_mem _ (acX6 w h)) tyX6 tyX6_ok nmX6 hown hK hDi hP hS hk0 rfSet_at.1 rfl 11 (by decide) (hts _ (List.mem_cons_of_mem _ (ac18 _ (List.mem_of_getElem? (i := 4) rfl)))) (fun _ h => h) rfl (ty := .int) rfl rfl rfl (Nat.le_of_ble_eq_true rfl) (dk kX6_goBack_ok 2 rfl) rfSet_u0 (fun H locs hP hS => ?_)
  refine lv_aload_n hx hb (dk kX6_goBack_ok 3 rfl) rfl (lv_at hl 0 rfl) ?_
  refine gf hx hb hts (fun w h => List.mem_cons_of_mem _ (acX6 w h)) hown hK hP hk0 rfSet_at.1 rfl 7 (by decide) (hts _ (List.mem_cons_of_mem _ (ac22 _ (List.mem_of_getElem? (i := 9) rfl)))) (fun _ h => h) rfl (dk kX6_goBack_ok 4 rfl) ?_
  refine b_if_ne (tgt := 18) hx hb (dk kX6_goBack_ok 5 rfl) (by decide) (fun h1 => ?_) (fun h1 => ?_)
  · exact absurd (hh.symm.trans h1) (by decide)
  · skip
    refine lv_aload_n hx hb (dk kX6_goBack_ok 6 rfl) rfl (lv_at hl 0 rfl) ?_
    refine lv_iconst (v := nI 1) hx hb (dk kX6_goBack_ok 7 rfl) rfl ?_
    refine cvD (As := [.int (nI 1)]) (rest := []) (rfSet cI ad F k r ps sl sd ne fa bu hs st ln pt (nI 1)) ⟨hx, hb, hml, hown, hts⟩ (tX6_fails l D cI cQ cL ad N (rfSet cI ad F k r ps sl sd ne fa bu hs st ln pt (nI 0)) k hk r ps sl sd ne fa bu hs st ln pt (nI 0) (rfSet_at) (nI 1)) (cwV9 1 hts mcX6_fails (ac20 _ (List.mem_of_getElem? (i := 15) rfl)) miX6_fails meX6_fails mini_RX6 rfl rfl hdX6_fails ⟨Nat.le_of_ble_eq_true rfl, Nat.le_of_ble_eq_true rfl⟩) hDi hK hP hNW hS hk0 rfSet_at.1 rfl rfl hl.1 rfl (Nat.le_of_ble_eq_true rfl) (by decide) (dk kX6_goBack_ok 8 rfl) rfSet_rfSet (fun H locs hP hS => ?_)
    exact hret _ _ _ _ _ _ _ _ rfl (by exact ⟨rfl, rfl⟩) hP hS (by decide) (by decide) (dk kX6_goBack_ok 9 rfl)
set_option maxRecDepth 100000 in
set_option maxHeartbeats 4000000 in
theorem tX6_undo (l : Launch) (D : va_G) (cI cQ cL : ClassId) (ad : Nat → Nat) (N : Nat) (F : Nat → va_E) (k : Nat) (hk : k + 7 < N) (r ps sl sd ne fa bu : Nat → Int32) (hs : Bool) (st ln pt : Nat) (th : Int32) (hR : rfAt cI ad F k r ps sl sd ne fa bu hs st ln pt th) (hst6 : st ≤ 6) (hs1 : 1 ≤ st) : MX l yX6_undo (Cond.code yX6_undo cX6_undo 2 (some .int) :: AW) ({ frames := 0, cells := 0, slots := 0, locals := 0 } : Room) D cI cQ cL ad N F [.ref (ad k)] (dp (some (.int (nI (st - 1)))) (rfSet cI ad F k (fun j9 => ps (60 * (st - 1) + j9)) ps sl sd ne fa bu hs (st - 1) ln pt (nI 0))) 0 0 := by
  refine mx_i (ty := .int) (by decide +kernel) rfl (Nat.le_of_ble_eq_true rfl) (fun p e s m below meth cd Q ls hx hb hml hown hts hDi hP hK hNW hS hret hl => ?_)
  have hown : s.vm.findClass RX6 = some m.cls := hown
  have hk0 : k < N := by omega
  have hk1 : k + 1 < N := by omega
  have hk2 : k + 2 < N := by omega
  have hk3 : k + 3 < N := by omega
  have hk4 : k + 4 < N := by omega
  have hk5 : k + 5 < N := by omega
  have hk6 : k + 6 < N := by omega
  have hk7 : k + 7 < N := by omega
  have hP : va_P D vwCl (iW ad N (rfSet cI ad F k r ps sl sd ne fa bu hs st ln pt th)) s.heap := by rw [rfSet_self hR]; exact hP
  have hl : lv_has ls 2 [(0, .ref (ad k))] := hl
  refine lv_aload_n hx hb (dk kX6_undo_ok 0 rfl) rfl (lv_at hl 0 rfl) ?_
  refine lv_iconst (v := nI 0) hx hb (dk kX6_undo_ok 1 rfl) rfl ?_
  refine pf (rfSet cI ad F k r ps sl sd ne fa bu hs st ln pt (nI 0)) hx hb hts (fun w h => List.mem_cons_of_mem _ (acX6 w h)) tyX6 tyX6_ok nmX6 hown hK hDi hP hS hk0 rfSet_at.1 rfl 11 (by decide) (hts _ (List.mem_cons_of_mem _ (ac18 _ (List.mem_of_getElem? (i := 4) rfl)))) (fun _ h => h) rfl (ty := .int) rfl rfl rfl (Nat.le_of_ble_eq_true rfl) (dk kX6_undo_ok 2 rfl) rfSet_u0 (fun H locs hP hS => ?_)
  refine lv_aload_n hx hb (dk kX6_undo_ok 3 rfl) rfl (lv_at hl 0 rfl) ?_
  refine gf hx hb hts (fun w h => List.mem_cons_of_mem _ (acX6 w h)) hown hK hP hk0 rfSet_at.1 rfl 8 (by decide) (hts _ (List.mem_cons_of_mem _ (ac18 _ (List.mem_of_getElem? (i := 5) rfl)))) (fun _ h => h) rfl (dk kX6_undo_ok 4 rfl) ?_
  refine n_if_ne (tgt := 18) hx hb (by omega) (dk kX6_undo_ok 5 rfl) (by decide) (fun h1 => ?_) (fun h1 => ?_)
  · skip
    refine lv_aload_n hx hb (dk kX6_undo_ok 10 rfl) rfl (lv_at hl 0 rfl) ?_
    refine lv_dup hx hb (dk kX6_undo_ok 11 rfl) rfl ?_
    refine gf hx hb hts (fun w h => List.mem_cons_of_mem _ (acX6 w h)) hown hK hP hk0 rfSet_at.1 rfl 8 (by decide) (hts _ (List.mem_cons_of_mem _ (ac18 _ (List.mem_of_getElem? (i := 5) rfl)))) (fun _ h => h) rfl (dk kX6_undo_ok 12 rfl) ?_
    refine lv_iconst (v := nI 1) hx hb (dk kX6_undo_ok 13 rfl) rfl ?_
    refine n_isub hx hb (by omega) (dk kX6_undo_ok 14 rfl) ?_
    refine pf (rfSet cI ad F k r ps sl sd ne fa bu hs (st - 1) ln pt (nI 0)) hx hb hts (fun w h => List.mem_cons_of_mem _ (acX6 w h)) tyX6 tyX6_ok nmX6 hown hK hDi hP hS hk0 rfSet_at.1 rfl 8 (by decide) (hts _ (List.mem_cons_of_mem _ (ac18 _ (List.mem_of_getElem? (i := 5) rfl)))) (fun _ h => h) rfl (ty := .int) rfl rfl rfl (Nat.le_of_ble_eq_true rfl) (dk kX6_undo_ok 15 rfl) rfSet_u0 (fun H locs hP hS => ?_)
    refine lv_iconst (v := nI 0) hx hb (dk kX6_undo_ok 16 rfl) rfl ?_
    refine lv_istore_n (lv' := [(1, .int (nI 0)), (0, .ref (ad k))]) hx hb (dk kX6_undo_ok 17 rfl) rfl hl (by decide) rfl (fun ls hl => ?_)
    have L30 : ∀ (fu : Nat) (i : Nat) (H : Heap) (locs : List Loc), va_P D vwCl (iW ad N (rfSet cI ad F k (cp9 r (fun j9 => ps (60 * (st - 1) + j9)) 0 i) ps sl sd ne fa bu hs (st - 1) ln pt (nI 0))) H → va_S (iA ad N s.heap.size) s.heap H locs → i ≤ 60 → 60 - i < fu → ∀ ls : Array Slot, lv_has ls 2 [(0, .ref (ad k)), (1, .int (nI i))] → W p l e ({ frames := 0, cells := 0, slots := 0, locals := 0 } : Room) s m ([.ref (ad k)] : List Value).toArray below meth cd H locs 0 0 Q (F0 m 30 ls []) := by
      intro fu
      induction fu with
      | zero => intros; omega
      | succ fu ih30 =>
        intro i H locs hP hS hi hme30 ls hl
        refine lv_iload_n hx hb (dk kX6_undo_ok 18 rfl) rfl (lv_at hl 1 rfl) ?_
        refine lv_bipush (v := nI 60) hx hb (dk kX6_undo_ok 19 rfl) rfl ?_
        refine n_icmp_ge (tgt := 62) hx hb (by omega) (by decide) (dk kX6_undo_ok 20 rfl) (by decide) (fun h2 => ?_) (fun h2 => ?_)
        · skip
          refine lv_aload_n hx hb (dk kX6_undo_ok 36 rfl) rfl (lv_at hl 0 rfl) ?_
          refine gf hx hb hts (fun w h => List.mem_cons_of_mem _ (acX6 w h)) hown hK hP hk0 rfSet_at.1 rfl 8 (by decide) (hts _ (List.mem_cons_of_mem _ (ac18 _ (List.mem_of_getElem? (i := 5) rfl)))) (fun _ h => h) rfl (dk kX6_undo_ok 37 rfl) ?_
          exact hret _ _ _ _ _ _ _ _ rfl (by exact ⟨rfl, rfl⟩) (rf_ext (by rw [show i = 60 by omega] at hP; exact hP) (r := cp9 r (fun j9 => ps (60 * (st - 1) + j9)) 0 60) (r' := fun j9 => ps (60 * (st - 1) + j9)) (h1 := fun _ h9 => cp9_lo (f := r) (g := fun j9 => ps (60 * (st - 1) + j9)) h9)) hS (by decide) (by decide) (dk kX6_undo_ok 38 rfl)
        · skip
          refine lv_aload_n hx hb (dk kX6_undo_ok 21 rfl) rfl (lv_at hl 0 rfl) ?_
          refine gf hx hb hts (fun w h => List.mem_cons_of_mem _ (acX6 w h)) hown hK hP hk0 rfSet_at.1 rfl 0 (by decide) (hts _ (List.mem_cons_of_mem _ (ac17 _ (List.mem_of_getElem? (i := 17) rfl)))) (fun _ h => h) rfl (dk kX6_undo_ok 22 rfl) ?_
          refine lv_iload_n hx hb (dk kX6_undo_ok 23 rfl) rfl (lv_at hl 1 rfl) ?_
          refine lv_aload_n hx hb (dk kX6_undo_ok 24 rfl) rfl (lv_at hl 0 rfl) ?_
          refine gf hx hb hts (fun w h => List.mem_cons_of_mem _ (acX6 w h)) hown hK hP hk0 rfSet_at.1 rfl 1 (by decide) (hts _ (List.mem_cons_of_mem _ (ac17 _ (List.mem_of_getElem? (i := 18) rfl)))) (fun _ h => h) rfl (dk kX6_undo_ok 25 rfl) ?_
          refine lv_bipush (v := nI 60) hx hb (dk kX6_undo_ok 26 rfl) rfl ?_
          refine lv_aload_n hx hb (dk kX6_undo_ok 27 rfl) rfl (lv_at hl 0 rfl) ?_
          refine gf hx hb hts (fun w h => List.mem_cons_of_mem _ (acX6 w h)) hown hK hP hk0 rfSet_at.1 rfl 8 (by decide) (hts _ (List.mem_cons_of_mem _ (ac18 _ (List.mem_of_getElem? (i := 5) rfl)))) (fun _ h => h) rfl (dk kX6_undo_ok 28 rfl) ?_
          refine n_imul hx hb (dk kX6_undo_ok 29 rfl) ?_
          refine lv_iload_n hx hb (dk kX6_undo_ok 30 rfl) rfl (lv_at hl 1 rfl) ?_
          refine n_iadd hx hb (dk kX6_undo_ok 31 rfl) ?_
          refine ald (j := ((60 * (st - 1)) + i)) hx hb hK hP hk2 rfSet_at.2.2.1 rfl (by omega) (by decide) (dk kX6_undo_ok 32 rfl) ?_
          refine ast (rfSet cI ad F k (upd (cp9 r (fun j9 => ps (60 * (st - 1) + j9)) 0 i) i (ps ((60 * (st - 1)) + i))) ps sl sd ne fa bu hs (st - 1) ln pt (nI 0)) (j := i) hx hb hK hDi hP hS hk1 rfSet_at.2.1 rfl (by omega) (by decide) (dk kX6_undo_ok 33 rfl) rfSet_u1 (fun H locs hP hS => ?_)
          refine lv_iinc (v := nI (i + 1)) (lv' := [(1, .int (nI (i + 1))), (0, .ref (ad k))]) hx hb (dk kX6_undo_ok 34 rfl) hl (k := 1) rfl (n_inc _) (by decide) rfl (fun ls hl => ?_)
          refine lv_goto (tgt := 30) hx hb (dk kX6_undo_ok 35 rfl) (by decide) ?_
          exact ih30 (i + 1) _ _ (by first | (rw [cp9_0]; exact hP) | (rw [← cp9_s0]; exact hP)) hS (by omega) (by omega) ls (lv_sub hl [1, 0] rfl)
    exact L30 _ 0 _ _ (by first | (rw [cp9_0]; exact hP) | (rw [← cp9_s0]; exact hP)) hS (by omega) (Nat.lt_succ_self _) ls (lv_sub hl [1, 0] rfl)
  · exact absurd h1 (by omega)
set_option maxRecDepth 100000 in
set_option maxHeartbeats 4000000 in
theorem tX6_undoX (l : Launch) (D : va_G) (cI cQ cL : ClassId) (ad : Nat → Nat) (N : Nat) (F : Nat → va_E) (k : Nat) (hk : k + 7 < N) (r ps sl sd ne fa bu : Nat → Int32) (hs : Bool) (st ln pt : Nat) (th : Int32) (hR : rfAt cI ad F k r ps sl sd ne fa bu hs st ln pt th) (hs0 : st = 0) : MX l yX6_undo (Cond.code yX6_undo cX6_undo 2 (some .int) :: AW) ({ frames := 1, cells := 0, slots := 0, locals := 21 } : Room) D cI cQ cL ad N F [.ref (ad k)] (dp (some (.int (nI 0))) (rfSet cI ad F k r ps sl sd ne fa bu hs st ln pt (nI 1))) 0 0 := by
  refine mx_i (ty := .int) (by decide +kernel) rfl (Nat.le_of_ble_eq_true rfl) (fun p e s m below meth cd Q ls hx hb hml hown hts hDi hP hK hNW hS hret hl => ?_)
  have hown : s.vm.findClass RX6 = some m.cls := hown
  have hk0 : k < N := by omega
  have hk1 : k + 1 < N := by omega
  have hk2 : k + 2 < N := by omega
  have hk3 : k + 3 < N := by omega
  have hk4 : k + 4 < N := by omega
  have hk5 : k + 5 < N := by omega
  have hk6 : k + 6 < N := by omega
  have hk7 : k + 7 < N := by omega
  have hP : va_P D vwCl (iW ad N (rfSet cI ad F k r ps sl sd ne fa bu hs st ln pt th)) s.heap := by rw [rfSet_self hR]; exact hP
  have hl : lv_has ls 2 [(0, .ref (ad k))] := hl
  refine lv_aload_n hx hb (dk kX6_undo_ok 0 rfl) rfl (lv_at hl 0 rfl) ?_
  refine lv_iconst (v := nI 0) hx hb (dk kX6_undo_ok 1 rfl) rfl ?_
  refine pf (rfSet cI ad F k r ps sl sd ne fa bu hs st ln pt (nI 0)) hx hb hts (fun w h => List.mem_cons_of_mem _ (acX6 w h)) tyX6 tyX6_ok nmX6 hown hK hDi hP hS hk0 rfSet_at.1 rfl 11 (by decide) (hts _ (List.mem_cons_of_mem _ (ac18 _ (List.mem_of_getElem? (i := 4) rfl)))) (fun _ h => h) rfl (ty := .int) rfl rfl rfl (Nat.le_of_ble_eq_true rfl) (dk kX6_undo_ok 2 rfl) rfSet_u0 (fun H locs hP hS => ?_)
  refine lv_aload_n hx hb (dk kX6_undo_ok 3 rfl) rfl (lv_at hl 0 rfl) ?_
  refine gf hx hb hts (fun w h => List.mem_cons_of_mem _ (acX6 w h)) hown hK hP hk0 rfSet_at.1 rfl 8 (by decide) (hts _ (List.mem_cons_of_mem _ (ac18 _ (List.mem_of_getElem? (i := 5) rfl)))) (fun _ h => h) rfl (dk kX6_undo_ok 4 rfl) ?_
  refine n_if_ne (tgt := 18) hx hb (by omega) (dk kX6_undo_ok 5 rfl) (by decide) (fun h1 => ?_) (fun h1 => ?_)
  · exact absurd hs0 h1
  · skip
    refine lv_aload_n hx hb (dk kX6_undo_ok 6 rfl) rfl (lv_at hl 0 rfl) ?_
    refine lv_iconst (v := nI 1) hx hb (dk kX6_undo_ok 7 rfl) rfl ?_
    refine cvD (As := [.int (nI 1)]) (rest := []) (rfSet cI ad F k r ps sl sd ne fa bu hs st ln pt (nI 1)) ⟨hx, hb, hml, hown, hts⟩ (tX6_fails l D cI cQ cL ad N (rfSet cI ad F k r ps sl sd ne fa bu hs st ln pt (nI 0)) k hk r ps sl sd ne fa bu hs st ln pt (nI 0) (rfSet_at) (nI 1)) (cwV9 1 hts mcX6_fails (ac20 _ (List.mem_of_getElem? (i := 15) rfl)) miX6_fails meX6_fails mini_RX6 rfl rfl hdX6_fails ⟨Nat.le_of_ble_eq_true rfl, Nat.le_of_ble_eq_true rfl⟩) hDi hK hP hNW hS hk0 rfSet_at.1 rfl rfl hl.1 rfl (Nat.le_of_ble_eq_true rfl) (by decide) (dk kX6_undo_ok 8 rfl) rfSet_rfSet (fun H locs hP hS => ?_)
    exact hret _ _ _ _ _ _ _ _ rfl (by exact ⟨rfl, rfl⟩) hP hS (by decide) (by decide) (dk kX6_undo_ok 9 rfl)
set_option maxRecDepth 100000 in
set_option maxHeartbeats 4000000 in
theorem tX6_pottedShare (l : Launch) (D : va_G) (cI cQ cL : ClassId) (ad : Nat → Nat) (N : Nat) (F : Nat → va_E) (k : Nat) (hk : k + 7 < N) (r ps sl sd ne fa bu : Nat → Int32) (hs : Bool) (st ln pt : Nat) (th : Int32) (hR : rfAt cI ad F k r ps sl sd ne fa bu hs st ln pt th) : MX l yX6_pottedShare (Cond.code yX6_pottedShare cX6_pottedShare 1 (some .double) :: AW) ({ frames := 3, cells := 0, slots := 0, locals := 64 } : Room) D cI cQ cL ad N F [.ref (ad k)] (dp (some (.double (shr (potn r)))) (rfSet cI ad F k r ps sl sd ne fa bu hs st ln pt (nI 0))) 0 0 := by
  refine mx_d (by decide +kernel) rfl (Nat.le_of_ble_eq_true rfl) (fun p e s m below meth cd Q ls hx hb hml hown hts hDi hP hK hNW hS hret hl => ?_)
  have hown : s.vm.findClass RX6 = some m.cls := hown
  have hk0 : k < N := by omega
  have hk1 : k + 1 < N := by omega
  have hk2 : k + 2 < N := by omega
  have hk3 : k + 3 < N := by omega
  have hk4 : k + 4 < N := by omega
  have hk5 : k + 5 < N := by omega
  have hk6 : k + 6 < N := by omega
  have hk7 : k + 7 < N := by omega
  have hP : va_P D vwCl (iW ad N (rfSet cI ad F k r ps sl sd ne fa bu hs st ln pt th)) s.heap := by rw [rfSet_self hR]; exact hP
  have hl : lv_has ls 1 [(0, .ref (ad k))] := hl
  refine lv_aload_n hx hb (dk kX6_pottedShare_ok 0 rfl) rfl (lv_at hl 0 rfl) ?_
  refine lv_iconst (v := nI 0) hx hb (dk kX6_pottedShare_ok 1 rfl) rfl ?_
  refine pf (rfSet cI ad F k r ps sl sd ne fa bu hs st ln pt (nI 0)) hx hb hts (fun w h => List.mem_cons_of_mem _ (acX6 w h)) tyX6 tyX6_ok nmX6 hown hK hDi hP hS hk0 rfSet_at.1 rfl 11 (by decide) (hts _ (List.mem_cons_of_mem _ (ac18 _ (List.mem_of_getElem? (i := 4) rfl)))) (fun _ h => h) rfl (ty := .int) rfl rfl rfl (Nat.le_of_ble_eq_true rfl) (dk kX6_pottedShare_ok 2 rfl) rfSet_u0 (fun H locs hP hS => ?_)
  refine lv_aload_n hx hb (dk kX6_pottedShare_ok 3 rfl) rfl (lv_at hl 0 rfl) ?_
  refine cvR (As := []) (rest := []) ⟨hx, hb, hml, hown, hts⟩ (tX6_pottedInAll l D cI cQ cL ad N (rfSet cI ad F k r ps sl sd ne fa bu hs st ln pt (nI 0)) k hk r ps sl sd ne fa bu hs st ln pt (nI 0) (rfSet_at)) (cwV9 0 hts mcX6_pottedInAll (ac22 _ (List.mem_of_getElem? (i := 10) rfl)) miX6_pottedInAll meX6_pottedInAll mini_RX6 rfl rfl hdX6_pottedInAll ⟨Nat.le_of_ble_eq_true rfl, Nat.le_of_ble_eq_true rfl⟩) hK hP hNW hk0 rfSet_at.1 rfl rfl hl.1 rfl (Nat.le_of_ble_eq_true rfl) (by decide) (dk kX6_pottedShare_ok 4 rfl) ?_
  refine lv_i2d hx hb (dk kX6_pottedShare_ok 5 rfl) ?_
  refine lv_ldc2d (v := (4625196817309499392)) hx hb hown (hts _ (List.mem_cons_of_mem _ (ac25 _ (List.mem_of_getElem? (i := 10) rfl)))) (dk kX6_pottedShare_ok 6 rfl) ?_
  refine lv_ddiv hx hb (dk kX6_pottedShare_ok 7 rfl) (shr_ok (potn_le r)) ?_
  exact hret _ _ _ _ _ _ _ _  (by exact ⟨rfl, rfl⟩) hP hS (by decide) (by decide) (dk kX6_pottedShare_ok 8 rfl)
set_option maxRecDepth 100000 in
set_option maxHeartbeats 4000000 in
theorem tX6_meanPile (l : Launch) (D : va_G) (cI cQ cL : ClassId) (ad : Nat → Nat) (N : Nat) (F : Nat → va_E) (k : Nat) (hk : k + 7 < N) (r ps sl sd ne fa bu : Nat → Int32) (hs : Bool) (st ln pt : Nat) (th : Int32) (hR : rfAt cI ad F k r ps sl sd ne fa bu hs st ln pt th) : MX l yX6_meanPile (Cond.code yX6_meanPile cX6_meanPile 1 (some .float) :: AW) ({ frames := 3, cells := 0, slots := 0, locals := 64 } : Room) D cI cQ cL ad N F [.ref (ad k)] (dp (some (.float (mea (rpl r) (potn r)))) (rfSet cI ad F k r ps sl sd ne fa bu hs st ln pt (nI 0))) 0 0 := by
  refine mx_f (by decide +kernel) rfl (Nat.le_of_ble_eq_true rfl) (fun p e s m below meth cd Q ls hx hb hml hown hts hDi hP hK hNW hS hret hl => ?_)
  have hown : s.vm.findClass RX6 = some m.cls := hown
  have hk0 : k < N := by omega
  have hk1 : k + 1 < N := by omega
  have hk2 : k + 2 < N := by omega
  have hk3 : k + 3 < N := by omega
  have hk4 : k + 4 < N := by omega
  have hk5 : k + 5 < N := by omega
  have hk6 : k + 6 < N := by omega
  have hk7 : k + 7 < N := by omega
  have hP : va_P D vwCl (iW ad N (rfSet cI ad F k r ps sl sd ne fa bu hs st ln pt th)) s.heap := by rw [rfSet_self hR]; exact hP
  have hl : lv_has ls 1 [(0, .ref (ad k))] := hl
  refine lv_aload_n hx hb (dk kX6_meanPile_ok 0 rfl) rfl (lv_at hl 0 rfl) ?_
  refine lv_iconst (v := nI 0) hx hb (dk kX6_meanPile_ok 1 rfl) rfl ?_
  refine pf (rfSet cI ad F k r ps sl sd ne fa bu hs st ln pt (nI 0)) hx hb hts (fun w h => List.mem_cons_of_mem _ (acX6 w h)) tyX6 tyX6_ok nmX6 hown hK hDi hP hS hk0 rfSet_at.1 rfl 11 (by decide) (hts _ (List.mem_cons_of_mem _ (ac18 _ (List.mem_of_getElem? (i := 4) rfl)))) (fun _ h => h) rfl (ty := .int) rfl rfl rfl (Nat.le_of_ble_eq_true rfl) (dk kX6_meanPile_ok 2 rfl) rfSet_u0 (fun H locs hP hS => ?_)
  refine lv_aload_n hx hb (dk kX6_meanPile_ok 3 rfl) rfl (lv_at hl 0 rfl) ?_
  refine cvR (As := []) (rest := []) ⟨hx, hb, hml, hown, hts⟩ (tX6_piles l D cI cQ cL ad N (rfSet cI ad F k r ps sl sd ne fa bu hs st ln pt (nI 0)) k hk r ps sl sd ne fa bu hs st ln pt (nI 0) (rfSet_at)) (cwV9 0 hts mcX6_piles (ac23 _ (List.mem_of_getElem? (i := 18) rfl)) miX6_piles meX6_piles mini_RX6 rfl rfl hdX6_piles ⟨Nat.le_of_ble_eq_true rfl, Nat.le_of_ble_eq_true rfl⟩) hK hP hNW hk0 rfSet_at.1 rfl rfl hl.1 rfl (Nat.le_of_ble_eq_true rfl) (by decide) (dk kX6_meanPile_ok 4 rfl) ?_
  refine n_if_ne (tgt := 16) hx hb (by have q1 := rpl_le r; omega) (dk kX6_meanPile_ok 5 rfl) (by decide) (fun h1 => ?_) (fun h1 => ?_)
  · skip
    refine lv_bipush (v := nI 16) hx hb (dk kX6_meanPile_ok 8 rfl) rfl ?_
    refine lv_aload_n hx hb (dk kX6_meanPile_ok 9 rfl) rfl (lv_at hl 0 rfl) ?_
    refine cvR (As := []) (rest := [.int (nI 16)]) ⟨hx, hb, hml, hown, hts⟩ (tX6_pottedInAll l D cI cQ cL ad N (rfSet cI ad F k r ps sl sd ne fa bu hs st ln pt (nI 0)) k hk r ps sl sd ne fa bu hs st ln pt (nI 0) (rfSet_at)) (cwV9 0 hts mcX6_pottedInAll (ac22 _ (List.mem_of_getElem? (i := 10) rfl)) miX6_pottedInAll meX6_pottedInAll mini_RX6 rfl rfl hdX6_pottedInAll ⟨Nat.le_of_ble_eq_true rfl, Nat.le_of_ble_eq_true rfl⟩) hK hP hNW hk0 rfSet_at.1 rfl rfl hl.1 rfl (Nat.le_of_ble_eq_true rfl) (by decide) (dk kX6_meanPile_ok 10 rfl) ?_
    refine n_isub hx hb (by have q1 := potn_le r; omega) (dk kX6_meanPile_ok 11 rfl) ?_
    refine lv_i2f hx hb (dk kX6_meanPile_ok 12 rfl) ?_
    refine lv_aload_n hx hb (dk kX6_meanPile_ok 13 rfl) rfl (lv_at hl 0 rfl) ?_
    refine cvR (As := []) (rest := [.float (FP.i2f (nI (16 - (potn r))))]) ⟨hx, hb, hml, hown, hts⟩ (tX6_piles l D cI cQ cL ad N (rfSet cI ad F k r ps sl sd ne fa bu hs st ln pt (nI 0)) k hk r ps sl sd ne fa bu hs st ln pt (nI 0) (rfSet_at)) (cwV9 0 hts mcX6_piles (ac23 _ (List.mem_of_getElem? (i := 18) rfl)) miX6_piles meX6_piles mini_RX6 rfl rfl hdX6_piles ⟨Nat.le_of_ble_eq_true rfl, Nat.le_of_ble_eq_true rfl⟩) hK hP hNW hk0 rfSet_at.1 rfl rfl hl.1 rfl (Nat.le_of_ble_eq_true rfl) (by decide) (dk kX6_meanPile_ok 14 rfl) ?_
    refine lv_i2f hx hb (dk kX6_meanPile_ok 15 rfl) ?_
    refine lv_fdiv hx hb (dk kX6_meanPile_ok 16 rfl) (mea_ok (potn_le r) (rpl_le r) (by assumption)) ?_
    exact hret _ _ _ _ _ _ _ _  (by simp only [dp, mea, (eq_false h1), not_true_eq_false, not_false_eq_true, and_true, true_and, and_false, false_and, or_true, true_or, or_false, false_or, and_self, or_self, if_true, if_false, Bool.false_eq_true, reduceIte]; first | done | exact ⟨rfl, rfl⟩ | rfl) hP hS (by decide) (by decide) (dk kX6_meanPile_ok 17 rfl)
  · skip
    refine lv_fconst0 hx hb (dk kX6_meanPile_ok 6 rfl) ?_
    refine lv_goto (tgt := 30) hx hb (dk kX6_meanPile_ok 7 rfl) (by decide) ?_
    exact hret _ _ _ _ _ _ _ _  (by simp only [dp, mea, (eq_true h1), not_true_eq_false, not_false_eq_true, and_true, true_and, and_false, false_and, or_true, true_or, or_false, false_or, and_self, or_self, if_true, if_false, Bool.false_eq_true, reduceIte]; first | done | exact ⟨rfl, rfl⟩ | rfl) hP hS (by decide) (by decide) (dk kX6_meanPile_ok 17 rfl)
set_option maxRecDepth 100000 in
set_option maxHeartbeats 4000000 in
theorem tX6_playX (l : Launch) (D : va_G) (cI cQ cL : ClassId) (ad : Nat → Nat) (N : Nat) (F : Nat → va_E) (k : Nat) (hk : k + 7 < N) (r ps sl sd ne fa bu : Nat → Int32) (hs : Bool) (st ln pt : Nat) (th : Int32) (hR : rfAt cI ad F k r ps sl sd ne fa bu hs st ln pt th) (hln : ln ≤ 60) (hh : (rwh bu ln).1 = false) : MX l yX6_play (Cond.code yX6_play cX6_play 3 (some .int) :: AW) ({ frames := 4, cells := 0, slots := 0, locals := 86 } : Room) D cI cQ cL ad N F [.ref (ad k)] (dp (some (.int (nI 0))) (rfSet cI ad F k r ps sl sd ne fa bu hs st ln ((rwh bu ln).2) (nI 1))) 0 0 := by
  refine mx_i (ty := .int) (by decide +kernel) rfl (Nat.le_of_ble_eq_true rfl) (fun p e s m below meth cd Q ls hx hb hml hown hts hDi hP hK hNW hS hret hl => ?_)
  have hown : s.vm.findClass RX6 = some m.cls := hown
  have hk0 : k < N := by omega
  have hk1 : k + 1 < N := by omega
  have hk2 : k + 2 < N := by omega
  have hk3 : k + 3 < N := by omega
  have hk4 : k + 4 < N := by omega
  have hk5 : k + 5 < N := by omega
  have hk6 : k + 6 < N := by omega
  have hk7 : k + 7 < N := by omega
  have hP : va_P D vwCl (iW ad N (rfSet cI ad F k r ps sl sd ne fa bu hs st ln pt th)) s.heap := by rw [rfSet_self hR]; exact hP
  have hl : lv_has ls 3 [(0, .ref (ad k))] := hl
  refine lv_aload_n hx hb (dk kX6_play_ok 0 rfl) rfl (lv_at hl 0 rfl) ?_
  refine lv_iconst (v := nI 0) hx hb (dk kX6_play_ok 1 rfl) rfl ?_
  refine pf (rfSet cI ad F k r ps sl sd ne fa bu hs st ln pt (nI 0)) hx hb hts (fun w h => List.mem_cons_of_mem _ (acX6 w h)) tyX6 tyX6_ok nmX6 hown hK hDi hP hS hk0 rfSet_at.1 rfl 11 (by decide) (hts _ (List.mem_cons_of_mem _ (ac18 _ (List.mem_of_getElem? (i := 4) rfl)))) (fun _ h => h) rfl (ty := .int) rfl rfl rfl (Nat.le_of_ble_eq_true rfl) (dk kX6_play_ok 2 rfl) rfSet_u0 (fun H locs hP hS => ?_)
  refine lv_aload_n hx hb (dk kX6_play_ok 3 rfl) rfl (lv_at hl 0 rfl) ?_
  refine cvD (As := []) (rest := []) (rfSet cI ad F k r ps sl sd ne fa bu hs st ln ((rwh bu ln).2) (nI 0)) ⟨hx, hb, hml, hown, hts⟩ (tX6_isWhole l D cI cQ cL ad N (rfSet cI ad F k r ps sl sd ne fa bu hs st ln pt (nI 0)) k hk r ps sl sd ne fa bu hs st ln pt (nI 0) (rfSet_at) hln) (cwV9 0 hts mcX6_isWhole (ac22 _ (List.mem_of_getElem? (i := 1) rfl)) miX6_isWhole meX6_isWhole mini_RX6 rfl rfl hdX6_isWhole ⟨Nat.le_of_ble_eq_true rfl, Nat.le_of_ble_eq_true rfl⟩) hDi hK hP hNW hS hk0 rfSet_at.1 rfl rfl hl.1 rfl (Nat.le_of_ble_eq_true rfl) (by decide) (dk kX6_play_ok 4 rfl) rfSet_rfSet (fun H locs hP hS => ?_)
  refine b_if_ne (tgt := 18) hx hb (dk kX6_play_ok 5 rfl) (by decide) (fun h1 => ?_) (fun h1 => ?_)
  · exact absurd (hh.symm.trans h1) (by decide)
  · skip
    refine lv_aload_n hx hb (dk kX6_play_ok 6 rfl) rfl (lv_at hl 0 rfl) ?_
    refine lv_iconst (v := nI 1) hx hb (dk kX6_play_ok 7 rfl) rfl ?_
    refine cvD (As := [.int (nI 1)]) (rest := []) (rfSet cI ad F k r ps sl sd ne fa bu hs st ln ((rwh bu ln).2) (nI 1)) ⟨hx, hb, hml, hown, hts⟩ (tX6_fails l D cI cQ cL ad N (rfSet cI ad F k r ps sl sd ne fa bu hs st ln ((rwh bu ln).2) (nI 0)) k hk r ps sl sd ne fa bu hs st ln ((rwh bu ln).2) (nI 0) (rfSet_at) (nI 1)) (cwV9 1 hts mcX6_fails (ac20 _ (List.mem_of_getElem? (i := 15) rfl)) miX6_fails meX6_fails mini_RX6 rfl rfl hdX6_fails ⟨Nat.le_of_ble_eq_true rfl, Nat.le_of_ble_eq_true rfl⟩) hDi hK hP hNW hS hk0 rfSet_at.1 rfl rfl hl.1 rfl (Nat.le_of_ble_eq_true rfl) (by decide) (dk kX6_play_ok 8 rfl) rfSet_rfSet (fun H locs hP hS => ?_)
    exact hret _ _ _ _ _ _ _ _ rfl (by exact ⟨rfl, rfl⟩) hP hS (by decide) (by decide) (dk kX6_play_ok 9 rfl)
set_option maxRecDepth 100000 in
set_option maxHeartbeats 4000000 in
theorem tX6_ofCells (l : Launch) (D : va_G) (cI cQ cL : ClassId) (ad : Nat → Nat) (N : Nat) (F : Nat → va_E) (k : Nat) (hk : k + 7 < N) (r ps sl sd ne fa bu : Nat → Int32) (hs : Bool) (st ln pt : Nat) (th : Int32) (hR : rfAt cI ad F k r ps sl sd ne fa bu hs st ln pt th) (x : Int64) : MR l yX6_ofCells (Cond.code yX6_ofCells cX6_ofCells 7 (some .long) :: AW) ({ frames := 2, cells := 0, slots := 0, locals := 46 } : Room) D cI cQ cL ad N F [.ref (ad k), .long x] (.long (foP (fun w9 => decide (hgt r (nI w9) = 0)) (fun w9 k9 => aPile r (nI w9) k9) 4 169 x)) := by
  refine mr_l (by decide +kernel) rfl (Nat.le_of_ble_eq_true rfl) (fun p e s m below meth cd Q ls hx hb hml hown hts hP hK hNW hret hl => ?_)
  have hown : s.vm.findClass RX6 = some m.cls := hown
  have hk0 : k < N := by omega
  have hk1 : k + 1 < N := by omega
  have hk2 : k + 2 < N := by omega
  have hk3 : k + 3 < N := by omega
  have hk4 : k + 4 < N := by omega
  have hk5 : k + 5 < N := by omega
  have hk6 : k + 6 < N := by omega
  have hk7 : k + 7 < N := by omega
  have hl : lv_has ls 7 [(0, .ref (ad k)), (1, .long x)] := hl
  refine lv_lload_n hx hb (dk kX6_ofCells_ok 0 rfl) rfl (lv_at hl 1 rfl) ?_
  refine lv_lstore_n (lv' := [(3, .long x), (0, .ref (ad k)), (1, .long x)]) hx hb (dk kX6_ofCells_ok 1 rfl) rfl hl (by decide) rfl (fun ls hl => ?_)
  refine lv_iconst (v := nI 0) hx hb (dk kX6_ofCells_ok 2 rfl) rfl ?_
  refine lv_istore (lv' := [(5, .int (nI 0)), (3, .long x), (0, .ref (ad k)), (1, .long x)]) hx hb (dk kX6_ofCells_ok 3 rfl) hl (by decide) rfl (fun ls hl => ?_)
  have L5 : ∀ (fu : Nat) (i : Nat) (x3 : Int64), x3 = foP (fun w9 => decide (hgt r (nI w9) = 0)) (fun w9 k9 => aPile r (nI w9) k9) 4 i x → i ≤ 169 → 169 - i < fu → ∀ ls : Array Slot, lv_has ls 7 [(0, .ref (ad k)), (1, .long x), (3, .long x3), (5, .int (nI i))] → W p l e ({ frames := 2, cells := 0, slots := 0, locals := 46 } : Room) s m ([.ref (ad k), .long x] : List Value).toArray below meth cd s.heap [] 0 0 Q (F0 m 5 ls []) := by
    intro fu
    induction fu with
    | zero => intros; omega
    | succ fu ih5 =>
      intro i x3 ex3 hi hme5 ls hl
      subst ex3
      refine lv_iload hx hb (dk kX6_ofCells_ok 4 rfl) (lv_at hl 3 rfl) ?_
      refine lv_sipush (v := nI 169) hx hb (dk kX6_ofCells_ok 5 rfl) rfl ?_
      refine n_icmp_ge (tgt := 59) hx hb (by first | omega | (have q1 := hgt_le r (nI i); omega)) (by decide) (dk kX6_ofCells_ok 6 rfl) (by decide) (fun h1 => ?_) (fun h1 => ?_)
      · skip
        refine lv_lload_n hx hb (dk kX6_ofCells_ok 30 rfl) rfl (lv_at hl 2 rfl) ?_
        exact hret _ _ _ (by rw [show i = 169 by omega]) (dk kX6_ofCells_ok 31 rfl)
      · skip
        refine lv_iconst (v := nI 0) hx hb (dk kX6_ofCells_ok 7 rfl) rfl ?_
        refine lv_istore (lv' := [(6, .int (nI 0)), (0, .ref (ad k)), (1, .long x), (3, .long (foP (fun w9 => decide (hgt r (nI w9) = 0)) (fun w9 k9 => aPile r (nI w9) k9) 4 i x)), (5, .int (nI i))]) hx hb (dk kX6_ofCells_ok 8 rfl) hl (by decide) rfl (fun ls hl => ?_)
        have L16 : ∀ (fu : Nat) (q : Nat) (x3 : Int64), x3 = fo ((fun w9 k9 => aPile r (nI w9) k9) i) q (foP (fun w9 => decide (hgt r (nI w9) = 0)) (fun w9 k9 => aPile r (nI w9) k9) 4 i x) → q ≤ 4 → (hgt r (nI i) = 0 → q = 0) → 4 - q < fu → ∀ ls : Array Slot, lv_has ls 7 [(0, .ref (ad k)), (1, .long x), (3, .long x3), (5, .int (nI i)), (6, .int (nI q))] → W p l e ({ frames := 2, cells := 0, slots := 0, locals := 46 } : Room) s m ([.ref (ad k), .long x] : List Value).toArray below meth cd s.heap [] 0 0 Q (F0 m 16 ls []) := by
          intro fu
          induction fu with
          | zero => intros; omega
          | succ fu ih16 =>
            intro q x3 ex3 hq hq0 hme16 ls hl
            subst ex3
            refine lv_iload hx hb (dk kX6_ofCells_ok 9 rfl) (lv_at hl 4 rfl) ?_
            refine lv_iconst (v := nI 4) hx hb (dk kX6_ofCells_ok 10 rfl) rfl ?_
            refine n_icmp_ge (tgt := 53) hx hb (by first | omega | (have q1 := hgt_le r (nI i); omega)) (by decide) (dk kX6_ofCells_ok 11 rfl) (by decide) (fun h2 => ?_) (fun h2 => ?_)
            · skip
              refine lv_iinc (v := nI (i + 1)) (lv' := [(5, .int (nI (i + 1))), (0, .ref (ad k)), (1, .long x), (3, .long (fo ((fun w9 k9 => aPile r (nI w9) k9) i) q (foP (fun w9 => decide (hgt r (nI w9) = 0)) (fun w9 k9 => aPile r (nI w9) k9) 4 i x))), (6, .int (nI q))]) hx hb (dk kX6_ofCells_ok 28 rfl) hl (k := 3) rfl (n_inc _) (by decide) rfl (fun ls hl => ?_)
              refine lv_goto (tgt := 5) hx hb (dk kX6_ofCells_ok 29 rfl) (by decide) ?_
              exact ih5 (i + 1) _ (by first | (have e4 : q = 4 := (by omega); have e5 : hgt r (nI i) ≠ 0 := (fun e9 => by have e6 := hq0 e9; omega); rw [e4]; exact foP_f (T := (fun w9 => decide (hgt r (nI w9) = 0))) (A := (fun w9 k9 => aPile r (nI w9) k9)) (decide_eq_false e5)) | (have e9 : hgt r (nI i) = 0 := (by omega); have e8 := hq0 e9; subst e8; exact foP_t (T := (fun w9 => decide (hgt r (nI w9) = 0))) (A := (fun w9 k9 => aPile r (nI w9) k9)) (decide_eq_true e9))) (by omega) (by omega) ls (lv_sub hl [1, 2, 3, 0] rfl)
            · skip
              refine lv_aload_n hx hb (dk kX6_ofCells_ok 12 rfl) rfl (lv_at hl 0 rfl) ?_
              refine lv_iload hx hb (dk kX6_ofCells_ok 13 rfl) (lv_at hl 3 rfl) ?_
              refine cvR (As := [.int (nI i)]) (rest := []) ⟨hx, hb, hml, hown, hts⟩ (tX6_lying l D cI cQ cL ad N F k hk r ps sl sd ne fa bu hs st ln pt th hR (nI i)) (cwV9 1 hts mcX6_lying (ac18 _ (List.mem_of_getElem? (i := 10) rfl)) miX6_lying meX6_lying mini_RX6 rfl rfl hdX6_lying ⟨Nat.le_of_ble_eq_true rfl, Nat.le_of_ble_eq_true rfl⟩) hK hP hNW hk0 hR.1 rfl rfl hl.1 rfl (Nat.le_of_ble_eq_true rfl) (by decide) (dk kX6_ofCells_ok 14 rfl) ?_
              refine n_if_le (tgt := 53) hx hb (by first | omega | (have q1 := hgt_le r (nI i); omega)) (dk kX6_ofCells_ok 15 rfl) (by decide) (fun h3 => ?_) (fun h3 => ?_)
              · skip
                refine lv_iinc (v := nI (i + 1)) (lv' := [(5, .int (nI (i + 1))), (0, .ref (ad k)), (1, .long x), (3, .long (fo ((fun w9 k9 => aPile r (nI w9) k9) i) q (foP (fun w9 => decide (hgt r (nI w9) = 0)) (fun w9 k9 => aPile r (nI w9) k9) 4 i x))), (6, .int (nI q))]) hx hb (dk kX6_ofCells_ok 28 rfl) hl (k := 3) rfl (n_inc _) (by decide) rfl (fun ls hl => ?_)
                refine lv_goto (tgt := 5) hx hb (dk kX6_ofCells_ok 29 rfl) (by decide) ?_
                exact ih5 (i + 1) _ (by first | (have e4 : q = 4 := (by omega); have e5 : hgt r (nI i) ≠ 0 := (fun e9 => by have e6 := hq0 e9; omega); rw [e4]; exact foP_f (T := (fun w9 => decide (hgt r (nI w9) = 0))) (A := (fun w9 k9 => aPile r (nI w9) k9)) (decide_eq_false e5)) | (have e9 : hgt r (nI i) = 0 := (by omega); have e8 := hq0 e9; subst e8; exact foP_t (T := (fun w9 => decide (hgt r (nI w9) = 0))) (A := (fun w9 k9 => aPile r (nI w9) k9)) (decide_eq_true e9))) (by omega) (by omega) ls (lv_sub hl [1, 2, 3, 0] rfl)
              · skip
                refine lv_ldc2 (v := (31)) hx hb hown (hts _ (List.mem_cons_of_mem _ (ac25 _ (List.mem_of_getElem? (i := 11) rfl)))) (dk kX6_ofCells_ok 16 rfl) ?_
                refine lv_lload_n hx hb (dk kX6_ofCells_ok 17 rfl) rfl (lv_at hl 2 rfl) ?_
                refine lv_lmul hx hb (dk kX6_ofCells_ok 18 rfl) ?_
                refine lv_aload_n hx hb (dk kX6_ofCells_ok 19 rfl) rfl (lv_at hl 0 rfl) ?_
                refine lv_iload hx hb (dk kX6_ofCells_ok 20 rfl) (lv_at hl 3 rfl) ?_
                refine lv_iload hx hb (dk kX6_ofCells_ok 21 rfl) (lv_at hl 4 rfl) ?_
                refine cvR (As := [.int (nI i), .int (nI q)]) (rest := [.long (31 * (fo ((fun w9 k9 => aPile r (nI w9) k9) i) q (foP (fun w9 => decide (hgt r (nI w9) = 0)) (fun w9 k9 => aPile r (nI w9) k9) 4 i x)))]) ⟨hx, hb, hml, hown, hts⟩ (tX6_ofPile l D cI cQ cL ad N F k hk r ps sl sd ne fa bu hs st ln pt th hR (nI i) (nI q) q rfl (by omega)) (cwV9 2 hts mcX6_ofPile (ac22 _ (List.mem_of_getElem? (i := 22) rfl)) miX6_ofPile meX6_ofPile mini_RX6 rfl rfl hdX6_ofPile ⟨Nat.le_of_ble_eq_true rfl, Nat.le_of_ble_eq_true rfl⟩) hK hP hNW hk0 hR.1 rfl rfl hl.1 rfl (Nat.le_of_ble_eq_true rfl) (by decide) (dk kX6_ofCells_ok 22 rfl) ?_
                refine lv_i2l hx hb (dk kX6_ofCells_ok 23 rfl) rfl ?_
                refine lv_ladd hx hb (dk kX6_ofCells_ok 24 rfl) ?_
                refine lv_lstore_n (lv' := [(3, .long ((31 * (fo ((fun w9 k9 => aPile r (nI w9) k9) i) q (foP (fun w9 => decide (hgt r (nI w9) = 0)) (fun w9 k9 => aPile r (nI w9) k9) 4 i x))) + ((aPile r (nI i) q).toInt64))), (0, .ref (ad k)), (1, .long x), (5, .int (nI i)), (6, .int (nI q))]) hx hb (dk kX6_ofCells_ok 25 rfl) rfl hl (by decide) rfl (fun ls hl => ?_)
                refine lv_iinc (v := nI (q + 1)) (lv' := [(6, .int (nI (q + 1))), (3, .long ((31 * (fo ((fun w9 k9 => aPile r (nI w9) k9) i) q (foP (fun w9 => decide (hgt r (nI w9) = 0)) (fun w9 k9 => aPile r (nI w9) k9) 4 i x))) + ((aPile r (nI i) q).toInt64))), (0, .ref (ad k)), (1, .long x), (5, .int (nI i))]) hx hb (dk kX6_ofCells_ok 26 rfl) hl (k := 4) rfl (n_inc _) (by decide) rfl (fun ls hl => ?_)
                refine lv_goto (tgt := 16) hx hb (dk kX6_ofCells_ok 27 rfl) (by decide) ?_
                exact ih16 (q + 1) _ (by exact fo_s (A := (fun w9 k9 => aPile r (nI w9) k9) i)) (by omega) (by omega) (by omega) ls (lv_sub hl [2, 3, 1, 4, 0] rfl)
        exact L16 _ 0 _ (by first | rfl | omega) (by first | rfl | omega) (by first | rfl | omega) (Nat.lt_succ_self _) ls (lv_sub hl [1, 2, 3, 4, 0] rfl)
  exact L5 _ 0 _ (by first | rfl | omega) (by first | rfl | omega) (Nat.lt_succ_self _) ls (lv_sub hl [2, 3, 1, 0] rfl)
end
/-! from fewspec -/
section
/-- where the flight k of a wink leads from a cell -/
def ldk (w c k : Nat) : Int32 := ldg (nI c) (nI (k / 9)) (stp w (k % 9 + 1))
def dirp (w c : Nat) : Prop := ∃ k, k < 72 ∧ ldk w c k = nI 84
/-- one flight leads to the cup; or none does, and two do -/
def fwr (w q n : Nat) : Prop := (n = 1 ∧ dirp w q) ∨ (n = 2 ∧ ¬ dirp w q ∧ ∃ k c1, k < 72 ∧ c1 < 169 ∧ ldk w q k = nI c1 ∧ dirp w c1)
def fwB (w : Nat) (f e : Nat → Int32) (fl i : Nat) : Prop := ∀ c, c < i → f c = nI (fl - 1) → ∀ k, k < 72 → ldk w c k = -1 ∨ e (ix (ldk w c k)) ≠ -1
def fwC (w : Nat) (f e : Nat → Int32) (fl i p : Nat) : Prop := f i = nI (fl - 1) → ∀ k, k < p → ldk w i k = -1 ∨ e (ix (ldk w i k)) ≠ -1
def fwA (w q : Nat) (e : Nat → Int32) : Prop := ∀ c, c < 169 → e c = -1 ∨ (e c = nI 0 ∧ c = q) ∨ (e c = nI 1 ∧ ∃ k, k < 72 ∧ ldk w q k = nI c)
def fw1 (q : Nat) (e : Nat → Int32) : Prop := ∀ c, c < 169 → e c = if c = q then nI 0 else -1
def fw2 (w q : Nat) (e : Nat → Int32) : Prop := ¬ dirp w q ∧ ∃ c1, c1 < 169 ∧ e c1 = nI 1 ∧ dirp w c1
theorem fw1_s {q i : Nat} {e : Nat → Int32} (x : Int32) (h : ∀ c, c < i → e c = if c = q then nI 0 else -1) (hx : x = if i = q then nI 0 else -1) : ∀ c, c < i + 1 → upd e i x c = if c = q then nI 0 else -1 := by
  intro c hc
  by_cases ec : c = i
  · rw [ec, upd_at9, hx]
  · rw [upd_ne9 ec]
    exact h c (by omega)
theorem fw_ne {fl : Nat} (h : fl = 1 ∨ fl = 2) : nI fl ≠ -1 := by rcases h with rfl | rfl <;> decide
theorem upd_mono {e : Nat → Int32} {i x fl : Nat} (h : fl = 1 ∨ fl = 2) (hx : e x ≠ -1) : upd e i (nI fl) x ≠ -1 := by
  by_cases ei : x = i
  · rw [ei, upd_at9]; exact fw_ne h
  · rw [upd_ne9 ei]; exact hx
theorem fwB_up {w : Nat} {f e : Nat → Int32} {fl i j : Nat} (h : fl = 1 ∨ fl = 2) (hB : fwB w f e fl i) : fwB w f (upd e j (nI fl)) fl i := fun c hc hf k hk => (hB c hc hf k hk).imp_right (upd_mono h)
theorem fwC_s {w : Nat} {f e : Nat → Int32} {fl i p : Nat} (hC : fwC w f e fl i p) (hn : ldk w i p = -1 ∨ e (ix (ldk w i p)) ≠ -1) : fwC w f e fl i (p + 1) := fun hf k hk => by
  by_cases ek : k = p
  · rw [ek]; exact hn
  · exact hC hf k (by omega)
theorem fwC_up {w : Nat} {f e : Nat → Int32} {fl i p : Nat} (h : fl = 1 ∨ fl = 2) (hC : fwC w f e fl i p) : fwC w f (upd e (ix (ldk w i p)) (nI fl)) fl i (p + 1) :=
  fwC_s (fun hf k hk => (hC hf k hk).imp_right (upd_mono h)) (Or.inr (by rw [upd_at9]; exact fw_ne h))
theorem fwB_s {w : Nat} {f e : Nat → Int32} {fl i p : Nat} (hB : fwB w f e fl i) (hC : fwC w f e fl i p) (hp : p = 72 ∨ f i ≠ nI (fl - 1)) : fwB w f e fl (i + 1) := fun c hc hf k hk => by
  by_cases ec : c = i
  · subst ec
    rcases hp with hp | hp
    · exact hC hf k (by omega)
    · exact absurd hf hp
  · exact hB c (by omega) hf k hk
theorem fwA_1 {w q : Nat} {e : Nat → Int32} (h : fw1 q e) : fwA w q e := fun c hc => by
  rw [h c hc]
  by_cases ec : c = q
  · rw [if_pos ec]; exact Or.inr (Or.inl ⟨rfl, ec⟩)
  · rw [if_neg ec]; exact Or.inl rfl
theorem fwA_up {w q i p : Nat} {f e : Nat → Int32} (hA : fwA w q e) (hf : f i = nI 0) (hfe : ∀ c, c < 169 → f c = if c = q then nI 0 else -1) (hi : i < 169) (hp : p < 72) (hc : cell9 (ldk w i p)) : fwA w q (upd e (ix (ldk w i p)) (nI 1)) := fun c hc9 => by
  by_cases ec : c = ix (ldk w i p)
  · have hiq : i = q := by
      have h9 := hfe i hi
      rw [hf] at h9
      by_cases eq : i = q
      · exact eq
      · rw [if_neg eq] at h9; exact absurd h9 (by decide)
    rw [ec, upd_at9]
    refine Or.inr (Or.inr ⟨rfl, p, hp, ?_⟩)
    rw [← hiq]
    exact (cell9_ix hc).1
  · rw [upd_ne9 ec]
    exact hA c hc9
theorem nI_ne_m1 {q : Nat} (hq : q < 169) : nI q ≠ -1 := by
  intro h
  have h1 : ¬ nI q < 0 := nI_pos (by omega)
  rw [h] at h1
  exact h1 (by decide)
theorem nI84 {q : Nat} (hq : q < 169) : ix (nI q) = q := ix_nI (by omega)
/-- the end of the first round -/
theorem fw_r1 {w q n : Nat} {f e : Nat → Int32} (hfw : fwr w q n) (hB : fwB w f e 1 169) (hA : fwA w q e) (hf : fw1 q f) (hq : q < 169) (h84 : e 84 = -1) : n = 2 ∧ ¬ dirp w q ∧ ∃ c1, c1 < 169 ∧ c1 ≠ q ∧ e c1 = nI 1 ∧ dirp w c1 := by
  have hfq : f q = nI (1 - 1) := by rw [hf q hq, if_pos rfl]
  have hnd : ¬ dirp w q := by
    rintro ⟨k, hk, hl⟩
    rcases hB q hq hfq k hk with h | h
    · rw [hl] at h; exact absurd h (by decide)
    · rw [hl, nI84 (by decide)] at h; exact h h84
  rcases hfw with ⟨-, h⟩ | ⟨h2, -, k, c1, hk, hc, hl, hd⟩
  · exact absurd h hnd
  · refine ⟨h2, hnd, c1, hc, ?_, ?_, hd⟩
    · intro e9; rw [e9] at hd; exact hnd hd
    · have h3 : e c1 ≠ -1 := by
        rcases hB q hq hfq k hk with h | h
        · rw [hl] at h
          exact absurd h (nI_ne_m1 hc)
        · rw [hl, nI84 hc] at h; exact h
      rcases hA c1 hc with h | ⟨-, h⟩ | ⟨h, -⟩
      · exact absurd h h3
      · rw [h] at hd; exact absurd hd hnd
      · exact h
theorem fw_ret1 {w q n : Nat} {e : Nat → Int32} (hfw : fwr w q n) (hA : fwA w q e) (h84q : q ≠ 84) (h84 : e 84 ≠ -1) : n = 1 := by
  rcases hA 84 (by decide) with h | ⟨-, h⟩ | ⟨-, h⟩
  · exact absurd h h84
  · exact absurd h.symm h84q
  · rcases hfw with ⟨h1, -⟩ | ⟨-, h2, -⟩
    · exact h1
    · exact absurd h h2
theorem fw_ret2 {w q n : Nat} {e : Nat → Int32} (hfw : fwr w q n) (h : fw2 w q e) : n = 2 := by
  rcases hfw with ⟨-, h1⟩ | ⟨h2, -⟩
  · exact absurd h1 h.1
  · exact h2
theorem fw_r2 {w q : Nat} {f e e2 : Nat → Int32} (h : fw2 w q e2) (hfe : ∀ c, c < 169 → f c = e2 c) (hB : fwB w f e 2 169) (h84 : e 84 = -1) : False := by
  obtain ⟨-, c1, hc, h1, k, hk, hl⟩ := h
  rcases hB c1 hc (by rw [hfe c1 hc, h1]) k hk with h | h
  · rw [hl] at h; exact absurd h (by decide)
  · rw [hl, nI84 (by decide)] at h; exact h h84
end
/-! from reffew -/
section
set_option maxRecDepth 100000 in
set_option maxHeartbeats 4000000 in
theorem tX6_fewest (l : Launch) (D : va_G) (cI cQ cL : ClassId) (ad : Nat → Nat) (N : Nat) (F : Nat → va_E) (k : Nat) (hk : k + 7 < N) (r ps sl sd ne fa bu : Nat → Int32) (hs : Bool) (st ln pt : Nat) (th : Int32) (hR : rfAt cI ad F k r ps sl sd ne fa bu hs st ln pt th) (x : Int32) (w : Nat) (hxw : x = nI w) (hw : w < 16) (q n : Nat) (hq : r w = nI q) (hq9 : q < 169) (hq84 : q ≠ 84) (hpt : pot r w = false) (hfw : fwr w q n) : MX l yX6_fewest (Cond.code yX6_fewest cX6_fewest 7 (some .int) :: AW) ({ frames := 2, cells := 0, slots := 0, locals := 50 } : Room) D cI cQ cL ad N F [.ref (ad k), .int x] (fun v9 G9 => v9 = some (.int (nI n)) ∧ ∃ ne9 fa9, G9 = rfSet cI ad F k r ps sl sd ne9 fa9 bu hs st ln pt th) 0 0 := by
  refine mx_i (ty := .int) (by decide +kernel) rfl (Nat.le_of_ble_eq_true rfl) (fun p e s m below meth cd Q ls hx hb hml hown hts hDi hP hK hNW hS hret hl => ?_)
  have hown : s.vm.findClass RX6 = some m.cls := hown
  subst hxw
  have hk0 : k < N := by omega
  have hk1 : k + 1 < N := by omega
  have hk2 : k + 2 < N := by omega
  have hk3 : k + 3 < N := by omega
  have hk4 : k + 4 < N := by omega
  have hk5 : k + 5 < N := by omega
  have hk6 : k + 6 < N := by omega
  have hk7 : k + 7 < N := by omega
  have hP : va_P D vwCl (iW ad N (rfSet cI ad F k r ps sl sd ne fa bu hs st ln pt th)) s.heap := by rw [rfSet_self hR]; exact hP
  have hl : lv_has ls 7 [(0, .ref (ad k)), (1, .int (nI w))] := hl
  refine lv_aload_n hx hb (dk kX6_fewest_0_ok 0 rfl) rfl (lv_at hl 0 rfl) ?_
  refine lv_iload_n hx hb (dk kX6_fewest_0_ok 1 rfl) rfl (lv_at hl 1 rfl) ?_
  refine cvR (As := [.int (nI w)]) (rest := []) ⟨hx, hb, hml, hown, hts⟩ (tX6_isPotted l D cI cQ cL ad N (rfSet cI ad F k r ps sl sd ne fa bu hs st ln pt th) k hk r ps sl sd ne fa bu hs st ln pt th (rfSet_at) (nI w) w rfl (by omega)) (cwV9 1 hts mcX6_isPotted (ac18 _ (List.mem_of_getElem? (i := 6) rfl)) miX6_isPotted meX6_isPotted mini_RX6 rfl rfl hdX6_isPotted ⟨Nat.le_of_ble_eq_true rfl, Nat.le_of_ble_eq_true rfl⟩) hK hP hNW hk0 rfSet_at.1 rfl rfl hl.1 rfl (Nat.le_of_ble_eq_true rfl) (by decide) (dk kX6_fewest_0_ok 2 rfl) ?_
  refine b_if_eq (tgt := 10) hx hb (dk kX6_fewest_0_ok 3 rfl) (by decide) (fun h1 => ?_) (fun h1 => ?_)
  · skip
    refine lv_iconst (v := nI 0) hx hb (dk kX6_fewest_0_ok 6 rfl) rfl ?_
    refine lv_istore_n (lv' := [(2, .int (nI 0)), (0, .ref (ad k)), (1, .int (nI w))]) hx hb (dk kX6_fewest_0_ok 7 rfl) rfl hl (by decide) rfl (fun ls hl => ?_)
    have L12 : ∀ (fu : Nat) (i : Nat) (e1 : Nat → Int32) (H : Heap) (locs : List Loc), va_P D vwCl (iW ad N (rfSet cI ad F k r ps sl sd e1 fa bu hs st ln pt th)) H → va_S (iA ad N s.heap.size) s.heap H locs → i ≤ 169 → (∀ c, c < i → e1 c = if c = q then nI 0 else -1) → 169 - i < fu → ∀ ls : Array Slot, lv_has ls 7 [(0, .ref (ad k)), (1, .int (nI w)), (2, .int (nI i))] → W p l e ({ frames := 2, cells := 0, slots := 0, locals := 50 } : Room) s m ([.ref (ad k), .int (nI w)] : List Value).toArray below meth cd H locs 0 0 Q (F0 m 12 ls []) := by
      intro fu
      induction fu with
      | zero => intros; omega
      | succ fu ih12 =>
        intro i e1 H locs hP hS hi hz1 hme12 ls hl
        refine lv_iload_n hx hb (dk kX6_fewest_0_ok 8 rfl) rfl (lv_at hl 2 rfl) ?_
        refine lv_sipush (v := nI 169) hx hb (dk kX6_fewest_0_ok 9 rfl) rfl ?_
        refine n_icmp_ge (tgt := 48) hx hb (by first | omega | (rcases hfl with q9 | q9 <;> omega)) (by decide) (dk kX6_fewest_0_ok 10 rfl) (by decide) (fun h2 => ?_) (fun h2 => ?_)
        · skip
          refine lv_iconst (v := nI 1) hx hb (dk kX6_fewest_0_ok 28 rfl) rfl ?_
          refine lv_istore_n (lv' := [(2, .int (nI 1)), (0, .ref (ad k)), (1, .int (nI w))]) hx hb (dk kX6_fewest_0_ok 29 rfl) rfl hl (by decide) rfl (fun ls hl => ?_)
          have L50 : ∀ (fu : Nat) (fl : Nat) (e2 f2 : Nat → Int32) (H : Heap) (locs : List Loc), va_P D vwCl (iW ad N (rfSet cI ad F k r ps sl sd e2 f2 bu hs st ln pt th)) H → va_S (iA ad N s.heap.size) s.heap H locs → fl = 1 ∨ fl = 2 → (fl = 1 → fw1 q e2) → (fl = 2 → fw2 w q e2) → 3 - fl < fu → ∀ ls : Array Slot, lv_has ls 7 [(0, .ref (ad k)), (1, .int (nI w)), (2, .int (nI fl))] → W p l e ({ frames := 2, cells := 0, slots := 0, locals := 50 } : Room) s m ([.ref (ad k), .int (nI w)] : List Value).toArray below meth cd H locs 0 0 Q (F0 m 50 ls []) := by
            intro fu
            induction fu with
            | zero => intros; omega
            | succ fu ih50 =>
              intro fl e2 f2 H locs hP hS hfl hr1 hr2 hme50 ls hl
              refine lv_iload_n hx hb (dk kX6_fewest_0_ok 30 rfl) rfl (lv_at hl 2 rfl) ?_
              refine lv_sipush (v := nI 169) hx hb (dk kX6_fewest_0_ok 31 rfl) rfl ?_
              refine n_icmp_gt (tgt := 211) hx hb (by first | omega | (rcases hfl with q9 | q9 <;> omega)) (by decide) (dk kX6_fewest_0_ok 32 rfl) (by decide) (fun h3 => ?_) (fun h3 => ?_)
              · skip
                refine lv_iconst (v := -1) hx hb (dk kX6_fewest_1_ok 55 rfl) rfl ?_
                exact hret _ _ _ _ _ _ _ _ rfl (by first | (exfalso; omega) | (have u9 := rfl; exact ⟨by rcases hfl with q9 | q9 <;> first | (rw [fw_ret1 hfw (hA q9) hq84 u9, q9]) | (rw [fw_ret2 hfw (hr2 q9), q9]), _, _, rfl⟩) | (have hb9 : fwB w f3 e4 fl 169 := (by rw [show (169 : Nat) = i by omega]; exact hB); have fl9 : fl = 1 := hfl.resolve_right (fun q9 => fw_r2 (hr2 q9) hfe (by rw [q9] at hb9; exact hb9) rfl); obtain ⟨hn2, h93, c9, hc9, hcq9, he9, hd9⟩ := fw_r1 (w := w) (q := q) (n := n) (f := f3) (e := e4) hfw (by rw [fl9] at hb9; exact hb9) (hA fl9) (fun c hc => (hfe c hc).trans (hr1 fl9 c hc)) hq9 rfl; exfalso; have z9 := hG rfl c9 hc9; rw [he9, hfe c9 hc9, hr1 fl9 c9 hc9, if_neg hcq9] at z9; exact absurd z9 (by decide))) hP hS (by decide) (by decide) (dk kX6_fewest_1_ok 56 rfl)
              · skip
                refine lv_iconst (v := nI 0) hx hb (dk kX6_fewest_0_ok 33 rfl) rfl ?_
                refine lv_istore_n (lv' := [(3, .int (nI 0)), (0, .ref (ad k)), (1, .int (nI w)), (2, .int (nI fl))]) hx hb (dk kX6_fewest_0_ok 34 rfl) rfl hl (by decide) rfl (fun ls hl => ?_)
                refine lv_iconst (v := nI 0) hx hb (dk kX6_fewest_0_ok 35 rfl) rfl ?_
                refine lv_istore (lv' := [(4, .int (nI 0)), (3, .int (nI 0)), (0, .ref (ad k)), (1, .int (nI w)), (2, .int (nI fl))]) hx hb (dk kX6_fewest_0_ok 36 rfl) hl (by decide) rfl (fun ls hl => ?_)
                have L62 : ∀ (fu : Nat) (i : Nat) (f3 : Nat → Int32) (H : Heap) (locs : List Loc), va_P D vwCl (iW ad N (rfSet cI ad F k r ps sl sd e2 f3 bu hs st ln pt th)) H → va_S (iA ad N s.heap.size) s.heap H locs → i ≤ 169 → (∀ c, c < i → f3 c = e2 c) → 169 - i < fu → ∀ ls : Array Slot, lv_has ls 7 [(0, .ref (ad k)), (1, .int (nI w)), (2, .int (nI fl)), (3, .int (nI 0)), (4, .int (nI i))] → W p l e ({ frames := 2, cells := 0, slots := 0, locals := 50 } : Room) s m ([.ref (ad k), .int (nI w)] : List Value).toArray below meth cd H locs 0 0 Q (F0 m 62 ls []) := by
                  intro fu
                  induction fu with
                  | zero => intros; omega
                  | succ fu ih62 =>
                    intro i f3 H locs hP hS hi hf3 hme62 ls hl
                    refine lv_iload hx hb (dk kX6_fewest_0_ok 37 rfl) (lv_at hl 4 rfl) ?_
                    refine lv_sipush (v := nI 169) hx hb (dk kX6_fewest_0_ok 38 rfl) rfl ?_
                    refine n_icmp_ge (tgt := 90) hx hb (by first | omega | (rcases hfl with q9 | q9 <;> omega)) (by decide) (dk kX6_fewest_0_ok 39 rfl) (by decide) (fun h4 => ?_) (fun h4 => ?_)
                    · skip
                      refine lv_iconst (v := nI 0) hx hb (dk kX6_fewest_0_ok 50 rfl) rfl ?_
                      refine lv_istore (lv' := [(4, .int (nI 0)), (0, .ref (ad k)), (1, .int (nI w)), (2, .int (nI fl)), (3, .int (nI 0))]) hx hb (dk kX6_fewest_0_ok 51 rfl) hl (by decide) rfl (fun ls hl => ?_)
                      have L93 : ∀ (fu : Nat) (i : Nat) (e4 : Nat → Int32) (g : Bool) (x3 : Int32) (H : Heap) (locs : List Loc), va_P D vwCl (iW ad N (rfSet cI ad F k r ps sl sd e4 f3 bu hs st ln pt th)) H → va_S (iA ad N s.heap.size) s.heap H locs → x3 = bI g → i ≤ 169 → fwB w f3 e4 fl i → (fl = 1 → fwA w q e4) → (g = false → ∀ c, c < 169 → e4 c = f3 c) → 169 - i < fu → ∀ ls : Array Slot, lv_has ls 7 [(0, .ref (ad k)), (1, .int (nI w)), (2, .int (nI fl)), (3, .int x3), (4, .int (nI i))] → W p l e ({ frames := 2, cells := 0, slots := 0, locals := 50 } : Room) s m ([.ref (ad k), .int (nI w)] : List Value).toArray below meth cd H locs 0 0 Q (F0 m 93 ls []) := by
                        intro fu
                        induction fu with
                        | zero => intros; omega
                        | succ fu ih93 =>
                          intro i e4 g x3 H locs hP hS ex3 hi hB hA hG hme93 ls hl
                          subst ex3
                          have hfe : ∀ c, c < 169 → f3 c = e2 c := fun c hc => hf3 c (by omega)
                          refine lv_iload hx hb (dk kX6_fewest_0_ok 52 rfl) (lv_at hl 4 rfl) ?_
                          refine lv_sipush (v := nI 169) hx hb (dk kX6_fewest_0_ok 53 rfl) rfl ?_
                          refine n_icmp_ge (tgt := 186) hx hb (by first | omega | (rcases hfl with q9 | q9 <;> omega)) (by decide) (dk kX6_fewest_0_ok 54 rfl) (by decide) (fun h5 => ?_) (fun h5 => ?_)
                          · skip
                            refine lv_aload_n hx hb (dk kX6_fewest_1_ok 41 rfl) rfl (lv_at hl 0 rfl) ?_
                            refine gf hx hb hts (fun w h => List.mem_cons_of_mem _ (acX6 w h)) hown hK hP hk0 rfSet_at.1 rfl 4 (by decide) (hts _ (List.mem_cons_of_mem _ (ac17 _ (List.mem_of_getElem? (i := 21) rfl)))) (fun _ h => h) rfl (dk kX6_fewest_1_ok 42 rfl) ?_
                            refine lv_bipush (v := nI 84) hx hb (dk kX6_fewest_1_ok 43 rfl) rfl ?_
                            refine ald (j := 84) hx hb hK hP hk5 rfSet_at.2.2.2.2.2.1 rfl (by omega) (by decide) (dk kX6_fewest_1_ok 44 rfl) ?_
                            refine lv_iconst (v := -1) hx hb (dk kX6_fewest_1_ok 45 rfl) rfl ?_
                            refine lv_icmp_eq (tgt := 199) hx hb (dk kX6_fewest_1_ok 46 rfl) (by decide) (fun h6 => ?_) (fun h6 => ?_)
                            · skip
                              refine lv_iload_n hx hb (dk kX6_fewest_1_ok 49 rfl) rfl (lv_at hl 3 rfl) ?_
                              refine b_if_ne (tgt := 205) hx hb (dk kX6_fewest_1_ok 50 rfl) (by decide) (fun h7 => ?_) (fun h7 => ?_)
                              · skip
                                refine lv_iinc (v := nI (fl + 1)) (lv' := [(2, .int (nI (fl + 1))), (0, .ref (ad k)), (1, .int (nI w)), (3, .int (bI g)), (4, .int (nI i))]) hx hb (dk kX6_fewest_1_ok 53 rfl) hl (k := 2) rfl (n_inc _) (by decide) rfl (fun ls hl => ?_)
                                refine lv_goto (tgt := 50) hx hb (dk kX6_fewest_1_ok 54 rfl) (by decide) ?_
                                exact ih50 (fl + 1) e4 f3 _ _ hP hS (by have hb9 : fwB w f3 e4 fl 169 := (by rw [show (169 : Nat) = i by omega]; exact hB); have fl9 : fl = 1 := hfl.resolve_right (fun q9 => fw_r2 (hr2 q9) hfe (by rw [q9] at hb9; exact hb9) h6); obtain ⟨hn2, h93, c9, hc9, hcq9, he9, hd9⟩ := fw_r1 (w := w) (q := q) (n := n) (f := f3) (e := e4) hfw (by rw [fl9] at hb9; exact hb9) (hA fl9) (fun c hc => (hfe c hc).trans (hr1 fl9 c hc)) hq9 h6; omega) (by intro h9; omega) (by have hb9 : fwB w f3 e4 fl 169 := (by rw [show (169 : Nat) = i by omega]; exact hB); have fl9 : fl = 1 := hfl.resolve_right (fun q9 => fw_r2 (hr2 q9) hfe (by rw [q9] at hb9; exact hb9) h6); obtain ⟨hn2, h93, c9, hc9, hcq9, he9, hd9⟩ := fw_r1 (w := w) (q := q) (n := n) (f := f3) (e := e4) hfw (by rw [fl9] at hb9; exact hb9) (hA fl9) (fun c hc => (hfe c hc).trans (hr1 fl9 c hc)) hq9 h6; exact fun _ => ⟨h93, c9, hc9, he9, hd9⟩) (by have hb9 : fwB w f3 e4 fl 169 := (by rw [show (169 : Nat) = i by omega]; exact hB); have fl9 : fl = 1 := hfl.resolve_right (fun q9 => fw_r2 (hr2 q9) hfe (by rw [q9] at hb9; exact hb9) h6); obtain ⟨hn2, h93, c9, hc9, hcq9, he9, hd9⟩ := fw_r1 (w := w) (q := q) (n := n) (f := f3) (e := e4) hfw (by rw [fl9] at hb9; exact hb9) (hA fl9) (fun c hc => (hfe c hc).trans (hr1 fl9 c hc)) hq9 h6; omega) ls (lv_sub hl [1, 2, 0] rfl)
                              · skip
                                refine lv_iconst (v := -1) hx hb (dk kX6_fewest_1_ok 51 rfl) rfl ?_
                                exact hret _ _ _ _ _ _ _ _ rfl (by first | (exfalso; omega) | (have u9 := rfl; exact ⟨by rcases hfl with q9 | q9 <;> first | (rw [fw_ret1 hfw (hA q9) hq84 u9, q9]) | (rw [fw_ret2 hfw (hr2 q9), q9]), _, _, rfl⟩) | (have hb9 : fwB w f3 e4 fl 169 := (by rw [show (169 : Nat) = i by omega]; exact hB); have fl9 : fl = 1 := hfl.resolve_right (fun q9 => fw_r2 (hr2 q9) hfe (by rw [q9] at hb9; exact hb9) h6); obtain ⟨hn2, h93, c9, hc9, hcq9, he9, hd9⟩ := fw_r1 (w := w) (q := q) (n := n) (f := f3) (e := e4) hfw (by rw [fl9] at hb9; exact hb9) (hA fl9) (fun c hc => (hfe c hc).trans (hr1 fl9 c hc)) hq9 h6; exfalso; have z9 := hG h7 c9 hc9; rw [he9, hfe c9 hc9, hr1 fl9 c9 hc9, if_neg hcq9] at z9; exact absurd z9 (by decide))) hP hS (by decide) (by decide) (dk kX6_fewest_1_ok 52 rfl)
                            · skip
                              refine lv_iload_n hx hb (dk kX6_fewest_1_ok 47 rfl) rfl (lv_at hl 2 rfl) ?_
                              exact hret _ _ _ _ _ _ _ _ rfl (by first | (exfalso; omega) | (have u9 := h6; exact ⟨by rcases hfl with q9 | q9 <;> first | (rw [fw_ret1 hfw (hA q9) hq84 u9, q9]) | (rw [fw_ret2 hfw (hr2 q9), q9]), _, _, rfl⟩) | (have hb9 : fwB w f3 e4 fl 169 := (by rw [show (169 : Nat) = i by omega]; exact hB); have fl9 : fl = 1 := hfl.resolve_right (fun q9 => fw_r2 (hr2 q9) hfe (by rw [q9] at hb9; exact hb9) rfl); obtain ⟨hn2, h93, c9, hc9, hcq9, he9, hd9⟩ := fw_r1 (w := w) (q := q) (n := n) (f := f3) (e := e4) hfw (by rw [fl9] at hb9; exact hb9) (hA fl9) (fun c hc => (hfe c hc).trans (hr1 fl9 c hc)) hq9 rfl; exfalso; have z9 := hG rfl c9 hc9; rw [he9, hfe c9 hc9, hr1 fl9 c9 hc9, if_neg hcq9] at z9; exact absurd z9 (by decide))) hP hS (by decide) (by decide) (dk kX6_fewest_1_ok 48 rfl)
                          · skip
                            refine lv_iconst (v := nI 0) hx hb (dk kX6_fewest_0_ok 55 rfl) rfl ?_
                            refine lv_istore (lv' := [(5, .int (nI 0)), (0, .ref (ad k)), (1, .int (nI w)), (2, .int (nI fl)), (3, .int (bI g)), (4, .int (nI i))]) hx hb (dk kX6_fewest_0_ok 56 rfl) hl (by decide) rfl (fun ls hl => ?_)
                            have L104 : ∀ (fu : Nat) (kk : Nat) (e4 : Nat → Int32) (g : Bool) (x3 : Int32) (H : Heap) (locs : List Loc), va_P D vwCl (iW ad N (rfSet cI ad F k r ps sl sd e4 f3 bu hs st ln pt th)) H → va_S (iA ad N s.heap.size) s.heap H locs → x3 = bI g → fwB w f3 e4 fl i → (fl = 1 → fwA w q e4) → (g = false → ∀ c, c < 169 → e4 c = f3 c) → kk ≤ 72 → fwC w f3 e4 fl i kk → 72 - kk < fu → ∀ ls : Array Slot, lv_has ls 7 [(0, .ref (ad k)), (1, .int (nI w)), (2, .int (nI fl)), (3, .int x3), (4, .int (nI i)), (5, .int (nI kk))] → W p l e ({ frames := 2, cells := 0, slots := 0, locals := 50 } : Room) s m ([.ref (ad k), .int (nI w)] : List Value).toArray below meth cd H locs 0 0 Q (F0 m 104 ls []) := by
                              intro fu
                              induction fu with
                              | zero => intros; omega
                              | succ fu ih104 =>
                                intro kk e4 g x3 H locs hP hS ex3 hB hA hG hp hC hme104 ls hl
                                subst ex3
                                have hst : stp w (kk % 9 + 1) < 2 ^ 31 := by unfold stp; split <;> omega
                                refine lv_iload hx hb (dk kX6_fewest_0_ok 57 rfl) (lv_at hl 5 rfl) ?_
                                refine lv_bipush (v := nI 72) hx hb (dk kX6_fewest_0_ok 58 rfl) rfl ?_
                                refine n_icmp_ge (tgt := 180) hx hb (by first | omega | (rcases hfl with q9 | q9 <;> omega)) (by decide) (dk kX6_fewest_0_ok 59 rfl) (by decide) (fun h8 => ?_) (fun h8 => ?_)
                                · skip
                                  refine lv_iinc (v := nI (i + 1)) (lv' := [(4, .int (nI (i + 1))), (0, .ref (ad k)), (1, .int (nI w)), (2, .int (nI fl)), (3, .int (bI g)), (5, .int (nI kk))]) hx hb (dk kX6_fewest_1_ok 39 rfl) hl (k := 4) rfl (n_inc _) (by decide) rfl (fun ls hl => ?_)
                                  refine lv_goto (tgt := 93) hx hb (dk kX6_fewest_1_ok 40 rfl) (by decide) ?_
                                  exact ih93 (i + 1) e4 g _ _ _ hP hS (by rfl) (by omega) (by first | exact fwB_s hB hC (Or.inl (by omega)) | exact fwB_s hB hC (Or.inr rfl)) (by exact hA) (by exact hG) (by omega) ls (lv_sub hl [1, 2, 3, 4, 0] rfl)
                                · skip
                                  refine lv_aload_n hx hb (dk kX6_fewest_1_ok 0 rfl) rfl (lv_at hl 0 rfl) ?_
                                  refine gf hx hb hts (fun w h => List.mem_cons_of_mem _ (acX6 w h)) hown hK hP hk0 rfSet_at.1 rfl 5 (by decide) (hts _ (List.mem_cons_of_mem _ (ac17 _ (List.mem_of_getElem? (i := 22) rfl)))) (fun _ h => h) rfl (dk kX6_fewest_1_ok 1 rfl) ?_
                                  refine lv_iload hx hb (dk kX6_fewest_1_ok 2 rfl) (lv_at hl 4 rfl) ?_
                                  refine ald (j := i) hx hb hK hP hk6 rfSet_at.2.2.2.2.2.2.1 rfl (by omega) (by decide) (dk kX6_fewest_1_ok 3 rfl) ?_
                                  refine lv_iload_n hx hb (dk kX6_fewest_1_ok 4 rfl) rfl (lv_at hl 2 rfl) ?_
                                  refine lv_iconst (v := nI 1) hx hb (dk kX6_fewest_1_ok 5 rfl) rfl ?_
                                  refine n_isub hx hb (by omega) (dk kX6_fewest_1_ok 6 rfl) ?_
                                  refine lv_icmp_ne (tgt := 180) hx hb (dk kX6_fewest_1_ok 7 rfl) (by decide) (fun h9 => ?_) (fun h9 => ?_)
                                  · skip
                                    refine lv_iinc (v := nI (i + 1)) (lv' := [(4, .int (nI (i + 1))), (0, .ref (ad k)), (1, .int (nI w)), (2, .int (nI fl)), (3, .int (bI g)), (5, .int (nI kk))]) hx hb (dk kX6_fewest_1_ok 39 rfl) hl (k := 4) rfl (n_inc _) (by decide) rfl (fun ls hl => ?_)
                                    refine lv_goto (tgt := 93) hx hb (dk kX6_fewest_1_ok 40 rfl) (by decide) ?_
                                    exact ih93 (i + 1) e4 g _ _ _ hP hS (by rfl) (by omega) (by first | exact fwB_s hB hC (Or.inl (by omega)) | exact fwB_s hB hC (Or.inr h9)) (by exact hA) (by exact hG) (by omega) ls (lv_sub hl [1, 2, 3, 4, 0] rfl)
                                  · skip
                                    refine lv_iload hx hb (dk kX6_fewest_1_ok 8 rfl) (lv_at hl 4 rfl) ?_
                                    refine lv_iload hx hb (dk kX6_fewest_1_ok 9 rfl) (lv_at hl 5 rfl) ?_
                                    refine lv_bipush (v := nI 9) hx hb (dk kX6_fewest_1_ok 10 rfl) rfl ?_
                                    refine n_idiv hx hb (by first | omega | (rcases hfl with q9 | q9 <;> omega)) (by decide) (by decide) (dk kX6_fewest_1_ok 11 rfl) ?_
                                    refine lv_iload_n hx hb (dk kX6_fewest_1_ok 12 rfl) rfl (lv_at hl 1 rfl) ?_
                                    refine lv_iload hx hb (dk kX6_fewest_1_ok 13 rfl) (lv_at hl 5 rfl) ?_
                                    refine lv_bipush (v := nI 9) hx hb (dk kX6_fewest_1_ok 14 rfl) rfl ?_
                                    refine n_irem hx hb (by first | omega | (rcases hfl with q9 | q9 <;> omega)) (by decide) (by decide) (dk kX6_fewest_1_ok 15 rfl) ?_
                                    refine lv_iconst (v := nI 1) hx hb (dk kX6_fewest_1_ok 16 rfl) rfl ?_
                                    refine n_iadd hx hb (dk kX6_fewest_1_ok 17 rfl) ?_
                                    refine csP (As := [.int (nI w), .int (nI ((kk % 9) + 1))]) (rest := [.int (nI (kk / 9)), .int (nI i)]) ⟨hx, hb, hml, hown, hts⟩ (tX6_steps l (nI w) w rfl (by omega) (nI ((kk % 9) + 1)) ((kk % 9) + 1) rfl (by omega)) (cwS9 2 hts mcX6_steps (ac19 _ (List.mem_of_getElem? (i := 15) rfl)) msX6_steps mini_RX6 rfl rfl hdX6_steps ⟨Nat.le_of_ble_eq_true rfl, Nat.le_of_ble_eq_true rfl⟩) rfl hl.1 rfl (Nat.le_of_ble_eq_true rfl) (by decide) (dk kX6_fewest_1_ok 18 rfl) ?_
                                    refine csP (As := [.int (nI i), .int (nI (kk / 9)), .int (nI (stp w ((kk % 9) + 1)))]) (rest := []) ⟨hx, hb, hml, hown, hts⟩ (tX6_leads l (nI i) ⟨i, by omega, rfl⟩ (nI (kk / 9)) (kk / 9) rfl (by omega) (nI (stp w ((kk % 9) + 1))) (stp w ((kk % 9) + 1)) rfl (by omega)) (cwS9 3 hts mcX6_leads (ac19 _ (List.mem_of_getElem? (i := 18) rfl)) msX6_leads mini_RX6 rfl rfl hdX6_leads ⟨Nat.le_of_ble_eq_true rfl, Nat.le_of_ble_eq_true rfl⟩) rfl hl.1 rfl (Nat.le_of_ble_eq_true rfl) (by decide) (dk kX6_fewest_1_ok 19 rfl) ?_
                                    refine lv_istore (lv' := [(6, .int (ldg (nI i) (nI (kk / 9)) (stp w ((kk % 9) + 1)))), (0, .ref (ad k)), (1, .int (nI w)), (2, .int (nI fl)), (3, .int (bI g)), (4, .int (nI i)), (5, .int (nI kk))]) hx hb (dk kX6_fewest_1_ok 20 rfl) hl (by decide) rfl (fun ls hl => ?_)
                                    refine lv_iload hx hb (dk kX6_fewest_1_ok 21 rfl) (lv_at hl 0 rfl) ?_
                                    refine lv_iconst (v := -1) hx hb (dk kX6_fewest_1_ok 22 rfl) rfl ?_
                                    refine lv_icmp_eq (tgt := 174) hx hb (dk kX6_fewest_1_ok 23 rfl) (by decide) (fun h10 => ?_) (fun h10 => ?_)
                                    · skip
                                      refine lv_iinc (v := nI (kk + 1)) (lv' := [(5, .int (nI (kk + 1))), (6, .int (ldg (nI i) (nI (kk / 9)) (stp w ((kk % 9) + 1)))), (0, .ref (ad k)), (1, .int (nI w)), (2, .int (nI fl)), (3, .int (bI g)), (4, .int (nI i))]) hx hb (dk kX6_fewest_1_ok 37 rfl) hl (k := 6) rfl (n_inc _) (by decide) rfl (fun ls hl => ?_)
                                      refine lv_goto (tgt := 104) hx hb (dk kX6_fewest_1_ok 38 rfl) (by decide) ?_
                                      exact ih104 (kk + 1) e4 g _ _ _ hP hS (by rfl) (by first | exact hB | exact fwB_up hfl hB) (by first | exact hA | (intro u9; subst u9; exact fwA_up (f := f3) (hA rfl) h9 (fun c hc => (hfe c hc).trans (hr1 rfl c hc)) (by omega) (by omega) ((ldg_cell ⟨i, by omega, rfl⟩ _ _).resolve_left rfl))) (by first | exact hG | (intro h9; exact absurd h9 (by decide))) (by omega) (by first | exact fwC_s hC (Or.inl h10) | exact fwC_s hC (Or.inr rfl) | exact fwC_up hfl hC) (by omega) ls (lv_sub hl [2, 3, 4, 5, 6, 0] rfl)
                                    · skip
                                      refine lv_aload_n hx hb (dk kX6_fewest_1_ok 24 rfl) rfl (lv_at hl 1 rfl) ?_
                                      refine gf hx hb hts (fun w h => List.mem_cons_of_mem _ (acX6 w h)) hown hK hP hk0 rfSet_at.1 rfl 4 (by decide) (hts _ (List.mem_cons_of_mem _ (ac17 _ (List.mem_of_getElem? (i := 21) rfl)))) (fun _ h => h) rfl (dk kX6_fewest_1_ok 25 rfl) ?_
                                      refine lv_iload hx hb (dk kX6_fewest_1_ok 26 rfl) (lv_at hl 0 rfl) ?_
                                      refine ald (j := (ix (ldg (nI i) (nI (kk / 9)) (stp w ((kk % 9) + 1))))) hx hb hK hP hk5 rfSet_at.2.2.2.2.2.1 (cell9_ix ((ldg_cell ⟨i, by omega, rfl⟩ _ _).resolve_left h10)).1 (cell9_ix ((ldg_cell ⟨i, by omega, rfl⟩ _ _).resolve_left h10)).2 (by decide) (dk kX6_fewest_1_ok 27 rfl) ?_
                                      refine lv_iconst (v := -1) hx hb (dk kX6_fewest_1_ok 28 rfl) rfl ?_
                                      refine lv_icmp_ne (tgt := 174) hx hb (dk kX6_fewest_1_ok 29 rfl) (by decide) (fun h11 => ?_) (fun h11 => ?_)
                                      · skip
                                        refine lv_iinc (v := nI (kk + 1)) (lv' := [(5, .int (nI (kk + 1))), (6, .int (ldg (nI i) (nI (kk / 9)) (stp w ((kk % 9) + 1)))), (0, .ref (ad k)), (1, .int (nI w)), (2, .int (nI fl)), (3, .int (bI g)), (4, .int (nI i))]) hx hb (dk kX6_fewest_1_ok 37 rfl) hl (k := 6) rfl (n_inc _) (by decide) rfl (fun ls hl => ?_)
                                        refine lv_goto (tgt := 104) hx hb (dk kX6_fewest_1_ok 38 rfl) (by decide) ?_
                                        exact ih104 (kk + 1) e4 g _ _ _ hP hS (by rfl) (by first | exact hB | exact fwB_up hfl hB) (by first | exact hA | (intro u9; subst u9; exact fwA_up (f := f3) (hA rfl) h9 (fun c hc => (hfe c hc).trans (hr1 rfl c hc)) (by omega) (by omega) ((ldg_cell ⟨i, by omega, rfl⟩ _ _).resolve_left h10))) (by first | exact hG | (intro h9; exact absurd h9 (by decide))) (by omega) (by first | exact fwC_s hC (Or.inl rfl) | exact fwC_s hC (Or.inr h11) | exact fwC_up hfl hC) (by omega) ls (lv_sub hl [2, 3, 4, 5, 6, 0] rfl)
                                      · skip
                                        refine lv_aload_n hx hb (dk kX6_fewest_1_ok 30 rfl) rfl (lv_at hl 1 rfl) ?_
                                        refine gf hx hb hts (fun w h => List.mem_cons_of_mem _ (acX6 w h)) hown hK hP hk0 rfSet_at.1 rfl 4 (by decide) (hts _ (List.mem_cons_of_mem _ (ac17 _ (List.mem_of_getElem? (i := 21) rfl)))) (fun _ h => h) rfl (dk kX6_fewest_1_ok 31 rfl) ?_
                                        refine lv_iload hx hb (dk kX6_fewest_1_ok 32 rfl) (lv_at hl 0 rfl) ?_
                                        refine lv_iload_n hx hb (dk kX6_fewest_1_ok 33 rfl) rfl (lv_at hl 3 rfl) ?_
                                        refine ast (rfSet cI ad F k r ps sl sd (upd e4 (ix (ldg (nI i) (nI (kk / 9)) (stp w ((kk % 9) + 1)))) (nI fl)) f3 bu hs st ln pt th) (j := (ix (ldg (nI i) (nI (kk / 9)) (stp w ((kk % 9) + 1))))) hx hb hK hDi hP hS hk5 rfSet_at.2.2.2.2.2.1 (cell9_ix ((ldg_cell ⟨i, by omega, rfl⟩ _ _).resolve_left h10)).1 (cell9_ix ((ldg_cell ⟨i, by omega, rfl⟩ _ _).resolve_left h10)).2 (by decide) (dk kX6_fewest_1_ok 34 rfl) rfSet_u5 (fun H locs hP hS => ?_)
                                        refine lv_iconst (v := nI 1) hx hb (dk kX6_fewest_1_ok 35 rfl) rfl ?_
                                        refine lv_istore_n (lv' := [(3, .int (nI 1)), (6, .int (ldg (nI i) (nI (kk / 9)) (stp w ((kk % 9) + 1)))), (0, .ref (ad k)), (1, .int (nI w)), (2, .int (nI fl)), (4, .int (nI i)), (5, .int (nI kk))]) hx hb (dk kX6_fewest_1_ok 36 rfl) rfl hl (by decide) rfl (fun ls hl => ?_)
                                        refine lv_iinc (v := nI (kk + 1)) (lv' := [(5, .int (nI (kk + 1))), (3, .int (nI 1)), (6, .int (ldg (nI i) (nI (kk / 9)) (stp w ((kk % 9) + 1)))), (0, .ref (ad k)), (1, .int (nI w)), (2, .int (nI fl)), (4, .int (nI i))]) hx hb (dk kX6_fewest_1_ok 37 rfl) hl (k := 6) rfl (n_inc _) (by decide) rfl (fun ls hl => ?_)
                                        refine lv_goto (tgt := 104) hx hb (dk kX6_fewest_1_ok 38 rfl) (by decide) ?_
                                        exact ih104 (kk + 1) (upd e4 (ix (ldg (nI i) (nI (kk / 9)) (stp w ((kk % 9) + 1)))) (nI fl)) true _ _ _ hP hS (by rfl) (by first | exact hB | exact fwB_up hfl hB) (by first | exact hA | (intro u9; subst u9; exact fwA_up (f := f3) (hA rfl) h9 (fun c hc => (hfe c hc).trans (hr1 rfl c hc)) (by omega) (by omega) ((ldg_cell ⟨i, by omega, rfl⟩ _ _).resolve_left h10))) (by first | exact hG | (intro h9; exact absurd h9 (by decide))) (by omega) (by first | exact fwC_s hC (Or.inl rfl) | exact fwC_s hC (Or.inr rfl) | exact fwC_up hfl hC) (by omega) ls (lv_sub hl [3, 4, 5, 1, 6, 0] rfl)
                            exact L104 _ 0 e4 g _ _ _ hP hS (by rfl) (by exact hB) (by exact hA) (by exact hG) (by omega) (by intro _ k9 hk9; omega) (Nat.lt_succ_self _) ls (lv_sub hl [1, 2, 3, 4, 5, 0] rfl)
                      exact L93 _ 0 e2 false _ _ _ hP hS (by rfl) (by omega) (by intro c hc; omega) (by intro h9; exact fwA_1 (hr1 h9)) (by intro _ c hc; exact (hf3 c (by omega)).symm) (Nat.lt_succ_self _) ls (lv_sub hl [1, 2, 3, 4, 0] rfl)
                    · skip
                      refine lv_aload_n hx hb (dk kX6_fewest_0_ok 40 rfl) rfl (lv_at hl 0 rfl) ?_
                      refine gf hx hb hts (fun w h => List.mem_cons_of_mem _ (acX6 w h)) hown hK hP hk0 rfSet_at.1 rfl 5 (by decide) (hts _ (List.mem_cons_of_mem _ (ac17 _ (List.mem_of_getElem? (i := 22) rfl)))) (fun _ h => h) rfl (dk kX6_fewest_0_ok 41 rfl) ?_
                      refine lv_iload hx hb (dk kX6_fewest_0_ok 42 rfl) (lv_at hl 4 rfl) ?_
                      refine lv_aload_n hx hb (dk kX6_fewest_0_ok 43 rfl) rfl (lv_at hl 0 rfl) ?_
                      refine gf hx hb hts (fun w h => List.mem_cons_of_mem _ (acX6 w h)) hown hK hP hk0 rfSet_at.1 rfl 4 (by decide) (hts _ (List.mem_cons_of_mem _ (ac17 _ (List.mem_of_getElem? (i := 21) rfl)))) (fun _ h => h) rfl (dk kX6_fewest_0_ok 44 rfl) ?_
                      refine lv_iload hx hb (dk kX6_fewest_0_ok 45 rfl) (lv_at hl 4 rfl) ?_
                      refine ald (j := i) hx hb hK hP hk5 rfSet_at.2.2.2.2.2.1 rfl (by omega) (by decide) (dk kX6_fewest_0_ok 46 rfl) ?_
                      refine ast (rfSet cI ad F k r ps sl sd e2 (upd f3 i (e2 i)) bu hs st ln pt th) (j := i) hx hb hK hDi hP hS hk6 rfSet_at.2.2.2.2.2.2.1 rfl (by omega) (by decide) (dk kX6_fewest_0_ok 47 rfl) rfSet_u6 (fun H locs hP hS => ?_)
                      refine lv_iinc (v := nI (i + 1)) (lv' := [(4, .int (nI (i + 1))), (0, .ref (ad k)), (1, .int (nI w)), (2, .int (nI fl)), (3, .int (nI 0))]) hx hb (dk kX6_fewest_0_ok 48 rfl) hl (k := 4) rfl (n_inc _) (by decide) rfl (fun ls hl => ?_)
                      refine lv_goto (tgt := 62) hx hb (dk kX6_fewest_0_ok 49 rfl) (by decide) ?_
                      exact ih62 (i + 1) (upd f3 i (e2 i)) _ _ hP hS (by omega) (by intro c hc; exact dite (c = i) (fun ec => by rw [ec, upd_at9]) (fun ec => by rw [upd_ne9 ec]; exact hf3 c (by omega))) (by omega) ls (lv_sub hl [1, 2, 3, 4, 0] rfl)
                exact L62 _ 0 f2 _ _ hP hS (by omega) (by intro c hc; omega) (Nat.lt_succ_self _) ls (lv_sub hl [2, 3, 4, 1, 0] rfl)
          exact L50 _ 1 e1 fa _ _ hP hS (by omega) (by intro _; obtain rfl : i = 169 := (by omega); exact hz1) (by intro h9; exact absurd h9 (by decide)) (Nat.lt_succ_self _) ls (lv_sub hl [1, 2, 0] rfl)
        · skip
          refine lv_aload_n hx hb (dk kX6_fewest_0_ok 11 rfl) rfl (lv_at hl 0 rfl) ?_
          refine gf hx hb hts (fun w h => List.mem_cons_of_mem _ (acX6 w h)) hown hK hP hk0 rfSet_at.1 rfl 4 (by decide) (hts _ (List.mem_cons_of_mem _ (ac17 _ (List.mem_of_getElem? (i := 21) rfl)))) (fun _ h => h) rfl (dk kX6_fewest_0_ok 12 rfl) ?_
          refine lv_iload_n hx hb (dk kX6_fewest_0_ok 13 rfl) rfl (lv_at hl 2 rfl) ?_
          refine lv_iload_n hx hb (dk kX6_fewest_0_ok 14 rfl) rfl (lv_at hl 2 rfl) ?_
          refine lv_aload_n hx hb (dk kX6_fewest_0_ok 15 rfl) rfl (lv_at hl 0 rfl) ?_
          refine gf hx hb hts (fun w h => List.mem_cons_of_mem _ (acX6 w h)) hown hK hP hk0 rfSet_at.1 rfl 0 (by decide) (hts _ (List.mem_cons_of_mem _ (ac17 _ (List.mem_of_getElem? (i := 17) rfl)))) (fun _ h => h) rfl (dk kX6_fewest_0_ok 16 rfl) ?_
          refine lv_iconst (v := nI 0) hx hb (dk kX6_fewest_0_ok 17 rfl) rfl ?_
          refine lv_iload_n hx hb (dk kX6_fewest_0_ok 18 rfl) rfl (lv_at hl 1 rfl) ?_
          refine n_iadd0 hx hb (dk kX6_fewest_0_ok 19 rfl) ?_
          refine ald (j := w) hx hb hK hP hk1 rfSet_at.2.1 rfl (by omega) (by decide) (dk kX6_fewest_0_ok 20 rfl) ?_
          rw [show r w = nI q from hq]
          refine n_icmp_ne (tgt := 40) hx hb (by first | omega | (rcases hfl with q9 | q9 <;> omega)) (by first | omega | (rcases hfl with q9 | q9 <;> omega)) (dk kX6_fewest_0_ok 21 rfl) (by decide) (fun h12 => ?_) (fun h12 => ?_)
          · skip
            refine lv_iconst (v := -1) hx hb (dk kX6_fewest_0_ok 24 rfl) rfl ?_
            refine ast (rfSet cI ad F k r ps sl sd (upd e1 i (-1)) fa bu hs st ln pt th) (j := i) hx hb hK hDi hP hS hk5 rfSet_at.2.2.2.2.2.1 rfl (by omega) (by decide) (dk kX6_fewest_0_ok 25 rfl) rfSet_u5 (fun H locs hP hS => ?_)
            refine lv_iinc (v := nI (i + 1)) (lv' := [(2, .int (nI (i + 1))), (0, .ref (ad k)), (1, .int (nI w))]) hx hb (dk kX6_fewest_0_ok 26 rfl) hl (k := 2) rfl (n_inc _) (by decide) rfl (fun ls hl => ?_)
            refine lv_goto (tgt := 12) hx hb (dk kX6_fewest_0_ok 27 rfl) (by decide) ?_
            exact ih12 (i + 1) (upd e1 i (-1)) _ _ hP hS (by omega) (by exact fw1_s _ hz1 (by simp only [h1, (eq_true h2), (eq_false (Nat.not_le.mpr h2)), (eq_false h12), not_true_eq_false, not_false_eq_true, and_true, true_and, and_false, false_and, or_true, true_or, or_false, false_or, and_self, or_self, if_true, if_false, Bool.false_eq_true, reduceIte])) (by omega) ls (lv_sub hl [1, 2, 0] rfl)
          · skip
            refine lv_iconst (v := nI 0) hx hb (dk kX6_fewest_0_ok 22 rfl) rfl ?_
            refine lv_goto (tgt := 41) hx hb (dk kX6_fewest_0_ok 23 rfl) (by decide) ?_
            refine ast (rfSet cI ad F k r ps sl sd (upd e1 i (nI 0)) fa bu hs st ln pt th) (j := i) hx hb hK hDi hP hS hk5 rfSet_at.2.2.2.2.2.1 rfl (by omega) (by decide) (dk kX6_fewest_0_ok 25 rfl) rfSet_u5 (fun H locs hP hS => ?_)
            refine lv_iinc (v := nI (i + 1)) (lv' := [(2, .int (nI (i + 1))), (0, .ref (ad k)), (1, .int (nI w))]) hx hb (dk kX6_fewest_0_ok 26 rfl) hl (k := 2) rfl (n_inc _) (by decide) rfl (fun ls hl => ?_)
            refine lv_goto (tgt := 12) hx hb (dk kX6_fewest_0_ok 27 rfl) (by decide) ?_
            exact ih12 (i + 1) (upd e1 i (nI 0)) _ _ hP hS (by omega) (by exact fw1_s _ hz1 (by simp only [h1, (eq_true h2), (eq_false (Nat.not_le.mpr h2)), (eq_true h12), not_true_eq_false, not_false_eq_true, and_true, true_and, and_false, false_and, or_true, true_or, or_false, false_or, and_self, or_self, if_true, if_false, Bool.false_eq_true, reduceIte])) (by omega) ls (lv_sub hl [1, 2, 0] rfl)
    exact L12 _ 0 ne _ _ hP hS (by omega) (by intro c hc; omega) (Nat.lt_succ_self _) ls (lv_sub hl [1, 2, 0] rfl)
  · exact absurd (hpt.symm.trans h1) (by decide)
end
/-! from reach -/
section
def tw0 : List (Nat × Nat × Nat) := [(27, 14, 31), (0, 14, 31), (1, 28, 30), (2, 42, 29), (3, 56, 28), (4, 70, 27), (3, 58, 37), (4, 72, 45), (3, 60, 46), (14, 81, 20), (12, 58, 37), (13, 71, 36), (12, 60, 46), (18, 14, 31), (27, 28, 30), (30, 71, 36), (29, 58, 37), (38, 56, 28), (29, 60, 46), (38, 58, 37), (39, 72, 45), (38, 60, 46), (47, 58, 37), (48, 71, 36), (47, 60, 46), (13, 85, 54), (9, 14, 31), (18, 28, 30), (27, 42, 29), (29, 71, 36), (28, 58, 37), (38, 70, 27), (28, 60, 46), (38, 72, 45), (37, 60, 46), (47, 71, 36), (46, 60, 46), (48, 85, 54), (12, 86, 55), (20, 42, 29), (9, 28, 30), (18, 42, 29), (27, 56, 28), (28, 71, 36), (27, 58, 37), (36, 58, 37), (27, 60, 46), (36, 60, 46), (45, 60, 46), (47, 85, 54), (47, 86, 55), (2, 12, 14), (10, 28, 30), (20, 56, 28), (9, 42, 29), (18, 56, 28), (27, 70, 27), (27, 71, 36), (27, 72, 45), (36, 72, 45), (45, 72, 45), (46, 85, 54), (46, 86, 55), (56, 60, 46), (12, 112, 64), (22, 70, 27), (10, 42, 29), (20, 70, 27), (9, 56, 28), (18, 70, 27), (18, 71, 36), (18, 72, 45), (36, 85, 54), (45, 85, 54), (45, 86, 55), (56, 72, 45), (47, 112, 64), (22, 72, 45), (11, 42, 29), (18, 80, 21), (10, 56, 28), (18, 82, 19), (9, 70, 27), (0, 70, 27), (0, 71, 36), (0, 72, 45), (45, 98, 63), (54, 86, 55), (46, 112, 64), (56, 86, 55), (21, 86, 55), (9, 79, 22), (9, 80, 21), (9, 81, 20), (9, 82, 19), (9, 83, 18), (0, 83, 18), (9, 85, 54), (0, 85, 54), (54, 98, 63), (45, 112, 64), (56, 98, 63), (57, 98, 63), (22, 98, 63), (10, 80, 21), (10, 81, 20), (10, 82, 19), (10, 83, 18), (9, 96, 9), (0, 96, 9), (0, 97, 0), (0, 98, 63), (63, 98, 63), (54, 112, 64), (55, 112, 64), (56, 112, 64), (21, 112, 64), (11, 81, 20), (11, 82, 19), (11, 83, 18), (9, 108, 10), (0, 108, 10), (1, 96, 9), (0, 110, 1), (1, 98, 63), (0, 112, 64), (63, 112, 64), (65, 85, 54), (65, 86, 55), (2, 90, 23), (12, 82, 19), (12, 83, 18), (9, 120, 11), (0, 120, 11), (1, 108, 10), (2, 96, 9), (0, 123, 2), (2, 98, 63), (1, 112, 64), (65, 97, 0), (64, 112, 64), (66, 85, 54), (30, 86, 55), (13, 83, 18), (9, 132, 12), (0, 132, 12), (1, 120, 11), (2, 108, 10), (3, 96, 9), (0, 136, 3), (3, 98, 63), (2, 112, 64), (65, 110, 1), (66, 97, 0), (65, 112, 64), (31, 85, 54), (9, 144, 13), (0, 144, 13), (1, 132, 12), (2, 120, 11), (3, 108, 10), (4, 96, 9), (0, 149, 4), (4, 98, 63), (3, 112, 64), (29, 123, 2), (30, 110, 1), (31, 97, 0), (30, 112, 64)]
def tw1 : List (Nat × Nat × Nat) := [(27, 28, 29), (4, 79, 21), (0, 28, 29), (1, 42, 28), (2, 56, 27), (57, 0, 31), (10, 42, 28), (13, 79, 21), (11, 56, 27), (13, 81, 19), (13, 82, 18), (57, 6, 4), (9, 36, 15), (39, 78, 22), (27, 42, 28), (1, 28, 29), (36, 42, 28), (37, 56, 27), (45, 42, 28), (0, 19, 5), (46, 56, 27), (48, 81, 19), (48, 82, 18), (19, 24, 14), (0, 24, 14), (39, 90, 22), (18, 28, 29), (55, 28, 29), (27, 56, 27), (38, 81, 19), (36, 56, 27), (55, 28, 29), (45, 56, 27), (47, 81, 19), (47, 82, 18), (55, 32, 6), (9, 12, 13), (1, 24, 14), (0, 12, 13), (19, 42, 28), (18, 42, 28), (37, 80, 20), (37, 81, 19), (37, 82, 18), (54, 42, 28), (46, 81, 19), (46, 82, 18), (57, 42, 28), (48, 108, 9), (59, 42, 28), (48, 110, 0), (1, 12, 13), (9, 28, 29), (19, 56, 27), (18, 56, 27), (36, 81, 19), (36, 82, 18), (45, 81, 19), (45, 82, 18), (55, 56, 27), (47, 108, 9), (57, 56, 27), (47, 110, 0), (48, 123, 1), (36, 90, 22), (3, 0, 31), (9, 42, 28), (1, 28, 29), (0, 42, 28), (37, 108, 9), (63, 42, 28), (37, 110, 0), (46, 108, 9), (63, 45, 7), (46, 110, 0), (47, 123, 1), (48, 136, 2), (3, 12, 13), (10, 42, 28), (18, 81, 19), (9, 56, 27), (1, 42, 28), (0, 56, 27), (54, 81, 19), (36, 110, 0), (55, 82, 18), (45, 110, 0), (46, 123, 1), (18, 90, 22), (9, 89, 23), (18, 88, 24), (39, 156, 13), (10, 56, 27), (37, 132, 11), (36, 120, 10), (1, 56, 27), (45, 120, 10), (36, 123, 1), (64, 56, 27), (45, 123, 1), (46, 136, 2), (47, 149, 3), (28, 88, 24), (39, 168, 31), (9, 80, 20), (9, 81, 19), (9, 82, 18), (0, 81, 19), (0, 82, 18), (63, 81, 19), (54, 108, 9), (55, 108, 9), (54, 110, 0), (55, 110, 0), (56, 110, 0), (57, 110, 0), (0, 90, 22), (10, 81, 19), (10, 82, 18), (1, 80, 20), (1, 81, 19), (1, 82, 18), (54, 120, 10), (55, 120, 10), (64, 82, 18), (54, 123, 1), (55, 123, 1), (56, 123, 1), (57, 123, 1), (1, 90, 22), (11, 82, 18), (55, 132, 11), (9, 108, 9), (2, 81, 19), (0, 108, 9), (55, 132, 11), (0, 110, 0), (65, 81, 19), (63, 110, 0), (55, 136, 2), (27, 168, 31), (57, 136, 2), (36, 168, 31), (3, 78, 22), (9, 120, 10), (37, 132, 11), (0, 120, 10), (1, 108, 9), (63, 120, 10), (0, 123, 1), (64, 108, 9), (63, 123, 1), (64, 110, 0), (56, 149, 3), (9, 154, 32), (3, 90, 22), (9, 132, 11), (4, 79, 21), (0, 132, 11), (1, 120, 10), (2, 108, 9), (57, 156, 13), (0, 136, 2), (21, 168, 31), (27, 136, 2), (28, 123, 1), (29, 110, 0), (57, 162, 4), (27, 140, 33)]
def ldm (m c k : Nat) : Int32 := ldg (nI c) (nI (k / 9)) (k % 9 + 1 + m)
def twq (m q : Nat) (t : Nat × Nat × Nat) : Bool := decide (t.1 < 72) && (decide (t.2.1 < 169) && (decide (t.2.2 < 72) && (decide (ldm m q t.1 = nI t.2.1) && decide (ldm m t.2.1 t.2.2 = nI 84))))
def twl (m : Nat) : List (Nat × Nat × Nat) → Nat → Bool
  | [], _ => true
  | t :: ts, q => twq m q t && twl m ts (q + 1)
theorem tw0_ok : twl 0 tw0 0 = true := by decide +kernel
theorem tw1_ok : twl 1 tw1 0 = true := by decide +kernel
theorem twl_at {m : Nat} : ∀ (ts : List (Nat × Nat × Nat)) (i : Nat), twl m ts i = true → ∀ j, j < ts.length → ∃ t, twq m (i + j) t = true
  | [], _, _, j, hj => absurd hj (Nat.not_lt_zero j)
  | t :: ts, i, h, j, hj => by
    simp only [twl, Bool.and_eq_true] at h
    cases j with
    | zero => exact ⟨t, h.1⟩
    | succ j =>
      obtain ⟨t', h'⟩ := twl_at ts (i + 1) h.2 j (by simpa using hj)
      exact ⟨t', by rw [show i + (j + 1) = i + 1 + j by omega]; exact h'⟩
theorem tw_all {m q : Nat} (hm : m < 2) (hq : q < 169) : ∃ k c1 k2, k < 72 ∧ c1 < 169 ∧ k2 < 72 ∧ ldm m q k = nI c1 ∧ ldm m c1 k2 = nI 84 := by
  have h : ∃ t, twq m q t = true := by
    rcases (show m = 0 ∨ m = 1 by omega) with rfl | rfl
    · obtain ⟨t, h⟩ := twl_at tw0 0 tw0_ok q (by rw [show tw0.length = 169 by decide +kernel]; exact hq)
      exact ⟨t, by rw [Nat.zero_add] at h; exact h⟩
    · obtain ⟨t, h⟩ := twl_at tw1 0 tw1_ok q (by rw [show tw1.length = 169 by decide +kernel]; exact hq)
      exact ⟨t, by rw [Nat.zero_add] at h; exact h⟩
  obtain ⟨t, h⟩ := h
  simp only [twq, Bool.and_eq_true, decide_eq_true_eq] at h
  exact ⟨t.1, t.2.1, t.2.2, h.1, h.2.1, h.2.2.1, h.2.2.2.1, h.2.2.2.2⟩
def big (w : Nat) : Nat := if w % 4 < 2 then 0 else 1
theorem stp_big (w f : Nat) : stp w f = f + big w := by
  unfold stp big
  split <;> rfl
theorem ldk_ldm (w c k : Nat) : ldk w c k = ldm (big w) c k := by
  unfold ldk ldm
  rw [stp_big]
theorem fwr_all (w : Nat) {q : Nat} (hq : q < 169) : ∃ n, fwr w q n := by
  by_cases h : dirp w q
  · exact ⟨1, Or.inl ⟨rfl, h⟩⟩
  · obtain ⟨k, c1, k2, h1, h2, h3, h4, h5⟩ := tw_all (m := big w) (q := q) (by unfold big; split <;> omega) hq
    exact ⟨2, Or.inr ⟨rfl, h, k, c1, h1, h2, by rw [ldk_ldm]; exact h4, k2, h3, by rw [ldk_ldm]; exact h5⟩⟩
end
/-! from seareach -/
section
def tof (m : Nat) (cell : Int32) (f : Nat) : Int32 := ldg cell (nI (f / 9)) (f % 9 + 1 + m)
theorem srI_cases (m : Nat) (cell : Int32) (i f : Nat) (d q : Nat → Int32) (n : Nat) :
    (tof m cell f = nI 84 ∧ srI m cell (i + 1) f d q n = (some (d (ix cell) + nI 1), d, q, n)) ∨
    (tof m cell f ≠ nI 84 ∧ (tof m cell f = -1 ∨ d (ix (tof m cell f)) ≠ -1 ∨ ¬ n < 169) ∧ srI m cell (i + 1) f d q n = srI m cell i (f + 1) d q n) ∨
    (tof m cell f ≠ nI 84 ∧ tof m cell f ≠ -1 ∧ d (ix (tof m cell f)) = -1 ∧ n < 169 ∧ srI m cell (i + 1) f d q n = srI m cell i (f + 1) (upd d (ix (tof m cell f)) (d (ix cell) + nI 1)) (upd q n (tof m cell f)) (n + 1)) := by
  unfold tof
  by_cases h1 : ldg cell (nI (f / 9)) (f % 9 + 1 + m) = nI 84
  · exact Or.inl ⟨h1, by simp only [srI]; rw [if_pos h1]⟩
  · refine Or.inr ?_
    by_cases h2 : ldg cell (nI (f / 9)) (f % 9 + 1 + m) = -1
    · exact Or.inl ⟨h1, Or.inl h2, by simp only [srI]; rw [if_neg h1, if_pos h2]⟩
    · by_cases h3 : d (ix (ldg cell (nI (f / 9)) (f % 9 + 1 + m))) = -1
      · by_cases h4 : n < 169
        · exact Or.inr ⟨h1, h2, h3, h4, by simp only [srI]; rw [if_neg h1, if_neg h2, if_neg (fun h9 => h9 h3), if_neg (fun h9 => h9 h4)]⟩
        · exact Or.inl ⟨h1, Or.inr (Or.inr h4), by simp only [srI]; rw [if_neg h1, if_neg h2, if_neg (fun h9 => h9 h3), if_pos h4]⟩
      · exact Or.inl ⟨h1, Or.inr (Or.inl h3), by simp only [srI]; rw [if_neg h1, if_neg h2, if_pos h3]⟩
theorem srI_some {m : Nat} {cell : Int32} : ∀ (i f : Nat) (d q : Nat → Int32) (n : Nat), d (ix cell) ≠ -1 → (∃ f', f ≤ f' ∧ f' < f + i ∧ tof m cell f' = nI 84) → (srI m cell i f d q n).1 = some (d (ix cell) + nI 1)
  | 0, f, _, _, _, _, ⟨f', h1, h2, _⟩ => by omega
  | i + 1, f, d, q, n, hd, ⟨f', h1, h2, h3⟩ => by
    rcases srI_cases m cell i f d q n with ⟨-, e⟩ | ⟨a, -, e⟩ | ⟨a, -, b, -, e⟩
    · rw [e]
    · rw [e]
      exact srI_some i (f + 1) d q n hd ⟨f', by rcases Nat.lt_or_ge f f' with h | h; exact h; exact absurd (by rw [show f = f' by omega]; exact h3) a, by omega, h3⟩
    · rw [e, srI_some i (f + 1) _ _ _ (by rw [upd_ne9 (fun h9 => hd (by rw [h9]; exact b))]; exact hd) ⟨f', by rcases Nat.lt_or_ge f f' with h | h; exact h; exact absurd (by rw [show f = f' by omega]; exact h3) a, by omega, h3⟩, upd_ne9 (fun h9 => hd (by rw [h9]; exact b))]
theorem srI_keep {m : Nat} {cell : Int32} : ∀ (i f : Nat) (d q : Nat → Int32) (n : Nat), (∀ f', f ≤ f' → f' < f + i → tof m cell f' ≠ nI 84) →
    (srI m cell i f d q n).1 = none ∧ (∀ x, d x ≠ -1 → (srI m cell i f d q n).2.1 x = d x) ∧ (∀ j, j < n → (srI m cell i f d q n).2.2.1 j = q j) ∧ n ≤ (srI m cell i f d q n).2.2.2
  | 0, _, _, _, _, _ => ⟨rfl, fun _ _ => rfl, fun _ _ => rfl, Nat.le_refl _⟩
  | i + 1, f, d, q, n, h => by
    rcases srI_cases m cell i f d q n with ⟨a, -⟩ | ⟨-, -, e⟩ | ⟨-, -, b, -, e⟩
    · exact absurd a (h f (Nat.le_refl f) (by omega))
    · rw [e]
      exact srI_keep i (f + 1) d q n (fun f' h1 h2 => h f' (by omega) (by omega))
    · rw [e]
      obtain ⟨k1, k2, k3, k4⟩ := srI_keep i (f + 1) (upd d (ix (tof m cell f)) (d (ix cell) + nI 1)) (upd q n (tof m cell f)) (n + 1) (fun f' h1 h2 => h f' (by omega) (by omega))
      refine ⟨k1, fun x hx => ?_, fun j hj => ?_, by omega⟩
      · have hne : x ≠ ix (tof m cell f) := fun h9 => hx (by rw [h9]; exact b)
        rw [k2 x (by rw [upd_ne9 hne]; exact hx), upd_ne9 hne]
      · rw [k3 j (by omega), upd_ne9 (by omega)]
/-- what is new in the queue, and what is reached -/
theorem srI_new {m : Nat} {cell : Int32} (hc : cell9 cell) : ∀ (i f : Nat) (d q : Nat → Int32) (n : Nat), d (ix cell) = nI 0 → n + i ≤ 169 → (∀ f', f ≤ f' → f' < f + i → tof m cell f' ≠ nI 84) → (∀ j, 1 ≤ j → j < n → ∃ x, x < 169 ∧ q j = nI x ∧ d x = nI 1) → (∀ x, x < 169 → d x ≠ -1 → x = ix cell ∨ ∃ j, 1 ≤ j ∧ j < n ∧ q j = nI x) → 1 ≤ n →
    (∀ j, 1 ≤ j → j < (srI m cell i f d q n).2.2.2 → ∃ x, x < 169 ∧ (srI m cell i f d q n).2.2.1 j = nI x ∧ (srI m cell i f d q n).2.1 x = nI 1) ∧ (srI m cell i f d q n).2.2.2 ≤ n + i ∧
    (∀ f' c1, f ≤ f' → f' < f + i → c1 < 169 → tof m cell f' = nI c1 → c1 = ix cell ∨ ∃ j, 1 ≤ j ∧ j < (srI m cell i f d q n).2.2.2 ∧ (srI m cell i f d q n).2.2.1 j = nI c1)
  | 0, f, d, q, n, _, _, _, hq, _, _ => ⟨hq, Nat.le_refl _, fun f' c1 h1 h2 => by omega⟩
  | i + 1, f, d, q, n, h0, hn, h, hq, hr, h1n => by
    have hk := fun f' (h1 : f + 1 ≤ f') (h2 : f' < f + 1 + i) => h f' (by omega) (by omega)
    rcases srI_cases m cell i f d q n with ⟨a, -⟩ | ⟨-, b, e⟩ | ⟨-, b1, b2, b3, e⟩
    · exact absurd a (h f (Nat.le_refl f) (by omega))
    · rw [e]
      obtain ⟨r1, r2, r3⟩ := srI_new hc i (f + 1) d q n h0 (by omega) hk hq hr h1n
      refine ⟨r1, by omega, fun f' c1 h1 h2 h3 h4 => ?_⟩
      by_cases ef : f' = f
      · rw [ef] at h4
        rcases b with b | b | b
        · rw [h4] at b; exact absurd b (nI_ne_m1 h3)
        · rw [h4, nI84 h3] at b
          rcases hr c1 h3 b with hx | ⟨j, g1, g2, g3⟩
          · exact Or.inl hx
          · obtain ⟨-, -, k3, k4⟩ := srI_keep i (f + 1) d q n hk
            exact Or.inr ⟨j, g1, by omega, by rw [k3 j g2]; exact g3⟩
        · omega
      · exact r3 f' c1 (by omega) (by omega) h3 h4
    · rw [e]
      obtain ⟨y, hy, ey⟩ := (ldg_cell hc (nI (f / 9)) (f % 9 + 1 + m)).resolve_left b1
      have ey : tof m cell f = nI y := ey
      rw [ey, nI84 hy] at b2 ⊢
      have hyc : ix cell ≠ y := fun h9 => by rw [← h9, h0] at b2; exact absurd b2 (by decide)
      have v1 : d (ix cell) + nI 1 = nI 1 := by rw [h0]; decide
      rw [v1]
      have hq' : ∀ j, 1 ≤ j → j < n + 1 → ∃ x, x < 169 ∧ upd q n (nI y) j = nI x ∧ upd d y (nI 1) x = nI 1 := fun j g1 g2 => by
        by_cases ej : j = n
        · exact ⟨y, hy, by rw [ej, upd_at9], upd_at9⟩
        · obtain ⟨x, u1, u2, u3⟩ := hq j g1 (by omega)
          refine ⟨x, u1, by rw [upd_ne9 ej]; exact u2, ?_⟩
          by_cases ex : x = y
          · rw [ex, upd_at9]
          · rw [upd_ne9 ex]; exact u3
      have hr' : ∀ x, x < 169 → upd d y (nI 1) x ≠ -1 → x = ix cell ∨ ∃ j, 1 ≤ j ∧ j < n + 1 ∧ upd q n (nI y) j = nI x := fun x hx h9 => by
        by_cases ex : x = y
        · exact Or.inr ⟨n, h1n, by omega, by rw [upd_at9, ex]⟩
        · rw [upd_ne9 ex] at h9
          rcases hr x hx h9 with g | ⟨j, g1, g2, g3⟩
          · exact Or.inl g
          · exact Or.inr ⟨j, g1, by omega, by rw [upd_ne9 (by omega)]; exact g3⟩
      obtain ⟨r1, r2, r3⟩ := srI_new hc i (f + 1) (upd d y (nI 1)) (upd q n (nI y)) (n + 1) (by rw [upd_ne9 hyc]; exact h0) (by omega) hk hq' hr' (by omega)
      refine ⟨r1, by omega, fun f' c1 h1 h2 h3 h4 => ?_⟩
      by_cases ef : f' = f
      · rw [ef, ey] at h4
        obtain ⟨-, -, k3, k4⟩ := srI_keep i (f + 1) (upd d y (nI 1)) (upd q n (nI y)) (n + 1) hk
        exact Or.inr ⟨n, h1n, by omega, by rw [k3 n (by omega), upd_at9]; exact h4⟩
      · exact r3 f' c1 (by omega) (by omega) h3 h4
/-- the second level -/
theorem srO_2 {m : Nat} : ∀ (t i k : Nat) (d q : Nat → Int32) (n J : Nat), J = k + t → t < i → J < n → J < 169 → (∀ j, k ≤ j → j ≤ J → ∃ x, x < 169 ∧ q j = nI x ∧ d x = nI 1) → (∃ f, f < 72 ∧ tof m (q J) f = nI 84) → (srO m i k d q n).1 = nI 2
  | t, 0, _, _, _, _, _, _, h, _, _, _, _ => absurd h (Nat.not_lt_zero t)
  | t, i + 1, k, d, q, n, J, hJ, hi, hn, h9, hq, hf => by
    obtain ⟨x, hx, ex, dx⟩ := hq k (Nat.le_refl k) (by omega)
    have hdk : d (ix (q k)) = nI 1 := by rw [ex, nI84 hx]; exact dx
    by_cases hh : ∃ f, f < 72 ∧ tof m (q k) f = nI 84
    · obtain ⟨f, h1, h2⟩ := hh
      have e := srI_some (m := m) (cell := q k) 72 0 d q n (by rw [hdk]; decide) ⟨f, Nat.zero_le f, by omega, h2⟩
      simp only [srO]
      rw [if_neg (fun h => h ⟨by omega, by omega⟩), e]
      show d (ix (q k)) + nI 1 = nI 2
      rw [hdk]
      decide
    · have hno : ∀ f', 0 ≤ f' → f' < 0 + 72 → tof m (q k) f' ≠ nI 84 := fun f' _ h2 h3 => hh ⟨f', by omega, h3⟩
      obtain ⟨e, k2, k3, k4⟩ := srI_keep (m := m) (cell := q k) 72 0 d q n hno
      simp only [srO]
      rw [if_neg (fun h => h ⟨by omega, by omega⟩), e]
      have ht : t ≠ 0 := fun h => hh (by rw [show k = J by omega]; exact hf)
      exact srO_2 (t - 1) i (k + 1) _ _ _ J (by omega) (by omega) (by omega) h9 (fun j g1 g2 => by
        obtain ⟨x, u1, u2, u3⟩ := hq j (by omega) g2
        exact ⟨x, u1, by rw [k3 j (by omega)]; exact u2, by rw [k2 x (by rw [u3]; decide)]; exact u3⟩) (by rw [k3 J hn]; exact hf)
theorem srO_s1 {m i k n : Nat} {d q : Nat → Int32} {r : Int32} (h1 : k < n) (h2 : k < 169) (e : (srI m (q k) 72 0 d q n).1 = some r) : (srO m (i + 1) k d q n).1 = r := by
  simp only [srO]
  rw [if_neg (fun h => h ⟨h1, h2⟩), e]
theorem srO_n1 {m i k n : Nat} {d q : Nat → Int32} (h1 : k < n) (h2 : k < 169) (e : (srI m (q k) 72 0 d q n).1 = none) : (srO m (i + 1) k d q n).1 = (srO m i (k + 1) (srI m (q k) 72 0 d q n).2.1 (srI m (q k) 72 0 d q n).2.2.1 (srI m (q k) 72 0 d q n).2.2.2).1 := by
  simp only [srO]
  rw [if_neg (fun h => h ⟨h1, h2⟩), e]
theorem sea_n {q : Nat → Int32} {c m : Nat} (w n : Nat) (hm : m = big w) (hc : c < 169) (hfw : fwr w c n) : (sea q c m).1 = nI n := by
  have tl : ∀ x f, tof m (nI x) f = ldk w x f := fun x f => by rw [ldk_ldm, hm]; rfl
  have q0 : upd q 0 (nI c) 0 = nI c := upd_at9
  have d0 : srD c (ix (nI c)) = nI 0 := by rw [nI84 hc]; exact upd_at9
  have sp : sea q c m = srO m (169 + 1) 0 (srD c) (upd q 0 (nI c)) 1 := rfl
  rw [sp]
  rcases hfw with ⟨rfl, f, h1, h2⟩ | ⟨rfl, hnd, f, c1, h1, h2, h3, f2, h4, h5⟩
  · have e := srI_some (m := m) (cell := nI c) 72 0 (srD c) (upd q 0 (nI c)) 1 (by rw [d0]; decide) ⟨f, Nat.zero_le f, by omega, by rw [tl]; exact h2⟩
    rw [srO_s1 (by decide) (by decide) (by rw [q0]; exact e), d0]
    decide
  · have hno : ∀ f', 0 ≤ f' → f' < 0 + 72 → tof m (nI c) f' ≠ nI 84 := fun f' _ g2 g3 => hnd ⟨f', by omega, by rw [← tl]; exact g3⟩
    obtain ⟨e, -, -, -⟩ := srI_keep (m := m) (cell := nI c) 72 0 (srD c) (upd q 0 (nI c)) 1 hno
    obtain ⟨r1, r2, r3⟩ := srI_new (m := m) (cell := nI c) ⟨c, hc, rfl⟩ 72 0 (srD c) (upd q 0 (nI c)) 1 d0 (by decide) hno (fun j g1 g2 => by omega) (fun x hx h9 => by
      by_cases ex : x = c
      · exact Or.inl (by rw [nI84 hc]; exact ex)
      · exact absurd (by unfold srD; rw [upd_ne9 ex]) h9) (Nat.le_refl 1)
    rw [srO_n1 (by decide) (by decide) (by rw [q0]; exact e), q0]
    rcases r3 f c1 (Nat.zero_le f) (by omega) h2 (by rw [tl]; exact h3) with g | ⟨j, g1, g2, g3⟩
    · exfalso
      rw [nI84 hc] at g
      rw [g] at h5
      exact hnd ⟨f2, h4, h5⟩
    · exact srO_2 (j - 1) 169 1 _ _ _ j (by omega) (by omega) g2 (by omega) (fun j' u1 u2 => r1 j' u1 (by omega)) ⟨f2, h4, by rw [g3, tl]; exact h5⟩
end
/-! from exi -/
section
section CVE
variable {p : Program} {l : Launch} {e : Env} {R : Room} {s : State} {m : MethodId} {args : Array Value} {below : List Frame} {meth : Method} {c : Code} {H : Heap} {locs : List Loc} {cells slots : Nat} {Q : State → Prop}
variable {cc : ByteArray} {pc : Nat} {ls : Array Slot} {rest st0 : List Value} {D : va_G} {cI cQ cL : ClassId} {ad : Nat → Nat} {N : Nat} {F : Nat → va_E} {Ts : List Cond}
theorem cvE {nL index na : Nat} {own C : String} {y : MethodName} {bytes : ByteArray} {maxL : Nat} {ret : Option FieldType} {ws : List Cond} {rm : Room} {As : List Value} {r : Value} {P9 : (Nat → va_E) → Prop} {k ci n : Nat} {T : u_T} {fs : List Value}
    (S : CallFix p m c cc nL s args Ts own) (hM : MX l y ws rm D cI cQ cL ad N F (.ref (ad k) :: As) (fun v9 G9 => v9 = some r ∧ P9 G9) 0 0) (cw : CallW R s args own C index y bytes maxL ret ws rm 0 0 na) (hDi : iD ad N) (hK : va_K D vwCl (iT cI cQ cL) s) (hP : va_P D vwCl (iW ad N F) H) (hNW : NW s) (hS : va_S (iA ad N s.heap.size) s.heap H locs) (hk : k < N) (hF : F k = .inr (ci, fs)) (hc : vwCl[ci]? = some (C, T, n))
    (hn : As.length = na) (hsize : ls.size = nL) (hstack : st0 = As.reverse ++ .ref (ad k) :: rest) (hW : (rest.map fun v => v.category).sum ≤ 8) (hf : cells + 0 ≤ R.cells ∧ slots + 0 ≤ R.slots) (hdg : decode cc pc = .ok (.invokevirtual index, 3))
    (kk : ∀ (F' : Nat → va_E) (H1 : Heap) (locs1 : List Loc), P9 F' → va_P D vwCl (iW ad N F') H1 → va_S (iA ad N s.heap.size) s.heap H1 locs1 → W p l e R s m args below meth c H1 locs1 cells slots Q (F0 m (pc + 3) ls (r :: rest))) : W p l e R s m args below meth c H locs cells slots Q (F0 m pc ls st0) :=
  cvW S hM cw hDi hK hP hNW hS hk hF hc hn hsize hstack hW hf hdg (fun v G9 H1 locs1 hp hP1 hS1 => by
    obtain ⟨rfl, hq⟩ := hp
    exact kk G9 H1 locs1 hq hP1 hS1)
end CVE
end
/-! from refflt -/
section
set_option maxRecDepth 100000 in
set_option maxHeartbeats 4000000 in
theorem tX6_fewestP (l : Launch) (D : va_G) (cI cQ cL : ClassId) (ad : Nat → Nat) (N : Nat) (F : Nat → va_E) (k : Nat) (hk : k + 7 < N) (r ps sl sd ne fa bu : Nat → Int32) (hs : Bool) (st ln pt : Nat) (th : Int32) (hR : rfAt cI ad F k r ps sl sd ne fa bu hs st ln pt th) (x : Int32) (w : Nat) (hxw : x = nI w) (hw : w < 16) (hpt : pot r w = true) : MR l yX6_fewest (Cond.code yX6_fewest cX6_fewest 7 (some .int) :: AW) ({ frames := 1, cells := 0, slots := 0, locals := 21 } : Room) D cI cQ cL ad N F [.ref (ad k), .int x] (.int (nI 0)) := by
  refine mr_i (ty := .int) (by decide +kernel) rfl rfl rfl rfl (Nat.le_of_ble_eq_true rfl) (fun p e s m below meth cd Q ls hx hb hml hown hts hP hK hNW hret hl => ?_)
  have hown : s.vm.findClass RX6 = some m.cls := hown
  subst hxw
  have hk0 : k < N := by omega
  have hk1 : k + 1 < N := by omega
  have hk2 : k + 2 < N := by omega
  have hk3 : k + 3 < N := by omega
  have hk4 : k + 4 < N := by omega
  have hk5 : k + 5 < N := by omega
  have hk6 : k + 6 < N := by omega
  have hk7 : k + 7 < N := by omega
  have hl : lv_has ls 7 [(0, .ref (ad k)), (1, .int (nI w))] := hl
  refine lv_aload_n hx hb (dk kX6_fewest_0_ok 0 rfl) rfl (lv_at hl 0 rfl) ?_
  refine lv_iload_n hx hb (dk kX6_fewest_0_ok 1 rfl) rfl (lv_at hl 1 rfl) ?_
  refine cvR (As := [.int (nI w)]) (rest := []) ⟨hx, hb, hml, hown, hts⟩ (tX6_isPotted l D cI cQ cL ad N F k hk r ps sl sd ne fa bu hs st ln pt th hR (nI w) w rfl (by omega)) (cwV9 1 hts mcX6_isPotted (ac18 _ (List.mem_of_getElem? (i := 6) rfl)) miX6_isPotted meX6_isPotted mini_RX6 rfl rfl hdX6_isPotted ⟨Nat.le_of_ble_eq_true rfl, Nat.le_of_ble_eq_true rfl⟩) hK hP hNW hk0 hR.1 rfl rfl hl.1 rfl (Nat.le_of_ble_eq_true rfl) (by decide) (dk kX6_fewest_0_ok 2 rfl) ?_
  refine b_if_eq (tgt := 10) hx hb (dk kX6_fewest_0_ok 3 rfl) (by decide) (fun h1 => ?_) (fun h1 => ?_)
  · exact absurd (hpt.symm.trans h1) (by decide)
  · skip
    refine lv_iconst (v := nI 0) hx hb (dk kX6_fewest_0_ok 4 rfl) rfl ?_
    exact hret _ _ _ (by rfl) (dk kX6_fewest_0_ok 5 rfl)
set_option maxRecDepth 100000 in
set_option maxHeartbeats 4000000 in
theorem tX6_flightsTo (l : Launch) (D : va_G) (cI cQ cL : ClassId) (ad : Nat → Nat) (N : Nat) (F : Nat → va_E) (k : Nat) (hk : k + 7 < N) (r ps sl sd ne fa bu : Nat → Int32) (hs : Bool) (st ln pt : Nat) (th : Int32) (hR : rfAt cI ad F k r ps sl sd ne fa bu hs st ln pt th) (x : Int32) (w : Nat) (hxw : x = nI w) (hw : w < 16) (q n : Nat) (hq : r w = nI q) (hq9 : q < 169) (hq84 : q ≠ 84) (hpt : pot r w = false) (hfw : fwr w q n) : MX l yX6_flightsTo (Cond.code yX6_flightsTo cX6_flightsTo 2 (some .int) :: AW) ({ frames := 3, cells := 0, slots := 0, locals := 76 } : Room) D cI cQ cL ad N F [.ref (ad k), .int x] (fun v9 G9 => v9 = some (.int (nI n)) ∧ ∃ ne9 fa9, G9 = rfSet cI ad F k r ps sl sd ne9 fa9 bu hs st ln pt (nI 0)) 0 0 := by
  refine mx_i (ty := .int) (by decide +kernel) rfl (Nat.le_of_ble_eq_true rfl) (fun p e s m below meth cd Q ls hx hb hml hown hts hDi hP hK hNW hS hret hl => ?_)
  have hown : s.vm.findClass RX6 = some m.cls := hown
  subst hxw
  have hk0 : k < N := by omega
  have hk1 : k + 1 < N := by omega
  have hk2 : k + 2 < N := by omega
  have hk3 : k + 3 < N := by omega
  have hk4 : k + 4 < N := by omega
  have hk5 : k + 5 < N := by omega
  have hk6 : k + 6 < N := by omega
  have hk7 : k + 7 < N := by omega
  have hP : va_P D vwCl (iW ad N (rfSet cI ad F k r ps sl sd ne fa bu hs st ln pt th)) s.heap := by rw [rfSet_self hR]; exact hP
  have hl : lv_has ls 2 [(0, .ref (ad k)), (1, .int (nI w))] := hl
  refine lv_aload_n hx hb (dk kX6_flightsTo_ok 0 rfl) rfl (lv_at hl 0 rfl) ?_
  refine lv_iconst (v := nI 0) hx hb (dk kX6_flightsTo_ok 1 rfl) rfl ?_
  refine pf (rfSet cI ad F k r ps sl sd ne fa bu hs st ln pt (nI 0)) hx hb hts (fun w h => List.mem_cons_of_mem _ (acX6 w h)) tyX6 tyX6_ok nmX6 hown hK hDi hP hS hk0 rfSet_at.1 rfl 11 (by decide) (hts _ (List.mem_cons_of_mem _ (ac18 _ (List.mem_of_getElem? (i := 4) rfl)))) (fun _ h => h) rfl (ty := .int) rfl rfl rfl (Nat.le_of_ble_eq_true rfl) (dk kX6_flightsTo_ok 2 rfl) rfSet_u0 (fun H locs hP hS => ?_)
  refine lv_iload_n hx hb (dk kX6_flightsTo_ok 3 rfl) rfl (lv_at hl 1 rfl) ?_
  refine lv_iconst (v := nI 0) hx hb (dk kX6_flightsTo_ok 4 rfl) rfl ?_
  refine lv_bipush (v := nI 15) hx hb (dk kX6_flightsTo_ok 5 rfl) rfl ?_
  refine csP (As := [.int (nI w), .int (nI 0), .int (nI 15)]) (rest := []) ⟨hx, hb, hml, hown, hts⟩ (tX6_in l (nI w) (nI 0) (nI 15)) (cwS9 3 hts mcX6_in (ac19 _ (List.mem_of_getElem? (i := 12) rfl)) msX6_in mini_RX6 rfl rfl hdX6_in ⟨Nat.le_of_ble_eq_true rfl, Nat.le_of_ble_eq_true rfl⟩) rfl hl.1 rfl (Nat.le_of_ble_eq_true rfl) (by decide) (dk kX6_flightsTo_ok 6 rfl) ?_
  refine b_if_eq (tgt := 23) hx hb (dk kX6_flightsTo_ok 7 rfl) (by decide) (fun h1 => ?_) (fun h1 => ?_)
  · exact absurd ((btw_nI (by omega)).symm.trans h1) (by decide)
  · skip
    refine lv_aload_n hx hb (dk kX6_flightsTo_ok 8 rfl) rfl (lv_at hl 0 rfl) ?_
    refine lv_iload_n hx hb (dk kX6_flightsTo_ok 9 rfl) rfl (lv_at hl 1 rfl) ?_
    refine cvE (As := [.int (nI w)]) (rest := []) ⟨hx, hb, hml, hown, hts⟩ (tX6_fewest l D cI cQ cL ad N (rfSet cI ad F k r ps sl sd ne fa bu hs st ln pt (nI 0)) k hk r ps sl sd ne fa bu hs st ln pt (nI 0) (rfSet_at) (nI w) w rfl (by omega) q n hq hq9 hq84 hpt hfw) (cwV9 1 hts mcX6_fewest (ac25 _ (List.mem_of_getElem? (i := 6) rfl)) miX6_fewest meX6_fewest mini_RX6 rfl rfl hdX6_fewest ⟨Nat.le_of_ble_eq_true rfl, Nat.le_of_ble_eq_true rfl⟩) hDi hK hP hNW hS hk0 rfSet_at.1 rfl rfl hl.1 rfl (Nat.le_of_ble_eq_true rfl) (by decide) (dk kX6_flightsTo_ok 10 rfl) (fun G9 H locs hp9 hP hS => ?_)
    obtain ⟨ne9, fa9, rfl⟩ := hp9
    rw [rfSet_rfSet] at hP
    refine lv_goto (tgt := 28) hx hb (dk kX6_flightsTo_ok 11 rfl) (by decide) ?_
    exact hret _ _ _ _ _ _ _ _ rfl (by exact ⟨rfl, _, _, rfl⟩) hP hS (by decide) (by decide) (dk kX6_flightsTo_ok 15 rfl)
set_option maxRecDepth 100000 in
set_option maxHeartbeats 4000000 in
theorem tX6_flightsToP (l : Launch) (D : va_G) (cI cQ cL : ClassId) (ad : Nat → Nat) (N : Nat) (F : Nat → va_E) (k : Nat) (hk : k + 7 < N) (r ps sl sd ne fa bu : Nat → Int32) (hs : Bool) (st ln pt : Nat) (th : Int32) (hR : rfAt cI ad F k r ps sl sd ne fa bu hs st ln pt th) (x : Int32) (w : Nat) (hxw : x = nI w) (hw : w < 16) (hpt : pot r w = true) : MX l yX6_flightsTo (Cond.code yX6_flightsTo cX6_flightsTo 2 (some .int) :: AW) ({ frames := 2, cells := 0, slots := 0, locals := 47 } : Room) D cI cQ cL ad N F [.ref (ad k), .int x] (dp (some (.int (nI 0))) (rfSet cI ad F k r ps sl sd ne fa bu hs st ln pt (nI 0))) 0 0 := by
  refine mx_i (ty := .int) (by decide +kernel) rfl (Nat.le_of_ble_eq_true rfl) (fun p e s m below meth cd Q ls hx hb hml hown hts hDi hP hK hNW hS hret hl => ?_)
  have hown : s.vm.findClass RX6 = some m.cls := hown
  subst hxw
  have hk0 : k < N := by omega
  have hk1 : k + 1 < N := by omega
  have hk2 : k + 2 < N := by omega
  have hk3 : k + 3 < N := by omega
  have hk4 : k + 4 < N := by omega
  have hk5 : k + 5 < N := by omega
  have hk6 : k + 6 < N := by omega
  have hk7 : k + 7 < N := by omega
  have hP : va_P D vwCl (iW ad N (rfSet cI ad F k r ps sl sd ne fa bu hs st ln pt th)) s.heap := by rw [rfSet_self hR]; exact hP
  have hl : lv_has ls 2 [(0, .ref (ad k)), (1, .int (nI w))] := hl
  refine lv_aload_n hx hb (dk kX6_flightsTo_ok 0 rfl) rfl (lv_at hl 0 rfl) ?_
  refine lv_iconst (v := nI 0) hx hb (dk kX6_flightsTo_ok 1 rfl) rfl ?_
  refine pf (rfSet cI ad F k r ps sl sd ne fa bu hs st ln pt (nI 0)) hx hb hts (fun w h => List.mem_cons_of_mem _ (acX6 w h)) tyX6 tyX6_ok nmX6 hown hK hDi hP hS hk0 rfSet_at.1 rfl 11 (by decide) (hts _ (List.mem_cons_of_mem _ (ac18 _ (List.mem_of_getElem? (i := 4) rfl)))) (fun _ h => h) rfl (ty := .int) rfl rfl rfl (Nat.le_of_ble_eq_true rfl) (dk kX6_flightsTo_ok 2 rfl) rfSet_u0 (fun H locs hP hS => ?_)
  refine lv_iload_n hx hb (dk kX6_flightsTo_ok 3 rfl) rfl (lv_at hl 1 rfl) ?_
  refine lv_iconst (v := nI 0) hx hb (dk kX6_flightsTo_ok 4 rfl) rfl ?_
  refine lv_bipush (v := nI 15) hx hb (dk kX6_flightsTo_ok 5 rfl) rfl ?_
  refine csP (As := [.int (nI w), .int (nI 0), .int (nI 15)]) (rest := []) ⟨hx, hb, hml, hown, hts⟩ (tX6_in l (nI w) (nI 0) (nI 15)) (cwS9 3 hts mcX6_in (ac19 _ (List.mem_of_getElem? (i := 12) rfl)) msX6_in mini_RX6 rfl rfl hdX6_in ⟨Nat.le_of_ble_eq_true rfl, Nat.le_of_ble_eq_true rfl⟩) rfl hl.1 rfl (Nat.le_of_ble_eq_true rfl) (by decide) (dk kX6_flightsTo_ok 6 rfl) ?_
  refine b_if_eq (tgt := 23) hx hb (dk kX6_flightsTo_ok 7 rfl) (by decide) (fun h1 => ?_) (fun h1 => ?_)
  · exact absurd ((btw_nI (by omega)).symm.trans h1) (by decide)
  · skip
    refine lv_aload_n hx hb (dk kX6_flightsTo_ok 8 rfl) rfl (lv_at hl 0 rfl) ?_
    refine lv_iload_n hx hb (dk kX6_flightsTo_ok 9 rfl) rfl (lv_at hl 1 rfl) ?_
    refine cvR (As := [.int (nI w)]) (rest := []) ⟨hx, hb, hml, hown, hts⟩ (tX6_fewestP l D cI cQ cL ad N (rfSet cI ad F k r ps sl sd ne fa bu hs st ln pt (nI 0)) k hk r ps sl sd ne fa bu hs st ln pt (nI 0) (rfSet_at) (nI w) w rfl (by omega) hpt) (cwV9 1 hts mcX6_fewest (ac25 _ (List.mem_of_getElem? (i := 6) rfl)) miX6_fewest meX6_fewest mini_RX6 rfl rfl hdX6_fewest ⟨Nat.le_of_ble_eq_true rfl, Nat.le_of_ble_eq_true rfl⟩) hK hP hNW hk0 rfSet_at.1 rfl rfl hl.1 rfl (Nat.le_of_ble_eq_true rfl) (by decide) (dk kX6_flightsTo_ok 10 rfl) ?_
    refine lv_goto (tgt := 28) hx hb (dk kX6_flightsTo_ok 11 rfl) (by decide) ?_
    exact hret _ _ _ _ _ _ _ _ rfl (by exact ⟨rfl, rfl⟩) hP hS (by decide) (by decide) (dk kX6_flightsTo_ok 15 rfl)
set_option maxRecDepth 100000 in
set_option maxHeartbeats 4000000 in
theorem tX6_flightsToX (l : Launch) (D : va_G) (cI cQ cL : ClassId) (ad : Nat → Nat) (N : Nat) (F : Nat → va_E) (k : Nat) (hk : k + 7 < N) (r ps sl sd ne fa bu : Nat → Int32) (hs : Bool) (st ln pt : Nat) (th : Int32) (hR : rfAt cI ad F k r ps sl sd ne fa bu hs st ln pt th) (x : Int32) (hx9 : btw x (nI 0) (nI 15) = false) : MX l yX6_flightsTo (Cond.code yX6_flightsTo cX6_flightsTo 2 (some .int) :: AW) ({ frames := 1, cells := 0, slots := 0, locals := 22 } : Room) D cI cQ cL ad N F [.ref (ad k), .int x] (dp (some (.int (nI 0))) (rfSet cI ad F k r ps sl sd ne fa bu hs st ln pt (nI 1))) 0 0 := by
  refine mx_i (ty := .int) (by decide +kernel) rfl (Nat.le_of_ble_eq_true rfl) (fun p e s m below meth cd Q ls hx hb hml hown hts hDi hP hK hNW hS hret hl => ?_)
  have hown : s.vm.findClass RX6 = some m.cls := hown
  have hk0 : k < N := by omega
  have hk1 : k + 1 < N := by omega
  have hk2 : k + 2 < N := by omega
  have hk3 : k + 3 < N := by omega
  have hk4 : k + 4 < N := by omega
  have hk5 : k + 5 < N := by omega
  have hk6 : k + 6 < N := by omega
  have hk7 : k + 7 < N := by omega
  have hP : va_P D vwCl (iW ad N (rfSet cI ad F k r ps sl sd ne fa bu hs st ln pt th)) s.heap := by rw [rfSet_self hR]; exact hP
  have hl : lv_has ls 2 [(0, .ref (ad k)), (1, .int x)] := hl
  refine lv_aload_n hx hb (dk kX6_flightsTo_ok 0 rfl) rfl (lv_at hl 0 rfl) ?_
  refine lv_iconst (v := nI 0) hx hb (dk kX6_flightsTo_ok 1 rfl) rfl ?_
  refine pf (rfSet cI ad F k r ps sl sd ne fa bu hs st ln pt (nI 0)) hx hb hts (fun w h => List.mem_cons_of_mem _ (acX6 w h)) tyX6 tyX6_ok nmX6 hown hK hDi hP hS hk0 rfSet_at.1 rfl 11 (by decide) (hts _ (List.mem_cons_of_mem _ (ac18 _ (List.mem_of_getElem? (i := 4) rfl)))) (fun _ h => h) rfl (ty := .int) rfl rfl rfl (Nat.le_of_ble_eq_true rfl) (dk kX6_flightsTo_ok 2 rfl) rfSet_u0 (fun H locs hP hS => ?_)
  refine lv_iload_n hx hb (dk kX6_flightsTo_ok 3 rfl) rfl (lv_at hl 1 rfl) ?_
  refine lv_iconst (v := nI 0) hx hb (dk kX6_flightsTo_ok 4 rfl) rfl ?_
  refine lv_bipush (v := nI 15) hx hb (dk kX6_flightsTo_ok 5 rfl) rfl ?_
  refine csP (As := [.int x, .int (nI 0), .int (nI 15)]) (rest := []) ⟨hx, hb, hml, hown, hts⟩ (tX6_in l x (nI 0) (nI 15)) (cwS9 3 hts mcX6_in (ac19 _ (List.mem_of_getElem? (i := 12) rfl)) msX6_in mini_RX6 rfl rfl hdX6_in ⟨Nat.le_of_ble_eq_true rfl, Nat.le_of_ble_eq_true rfl⟩) rfl hl.1 rfl (Nat.le_of_ble_eq_true rfl) (by decide) (dk kX6_flightsTo_ok 6 rfl) ?_
  refine b_if_eq (tgt := 23) hx hb (dk kX6_flightsTo_ok 7 rfl) (by decide) (fun h1 => ?_) (fun h1 => ?_)
  · skip
    refine lv_aload_n hx hb (dk kX6_flightsTo_ok 12 rfl) rfl (lv_at hl 0 rfl) ?_
    refine lv_iconst (v := nI 1) hx hb (dk kX6_flightsTo_ok 13 rfl) rfl ?_
    refine cvD (As := [.int (nI 1)]) (rest := []) (rfSet cI ad F k r ps sl sd ne fa bu hs st ln pt (nI 1)) ⟨hx, hb, hml, hown, hts⟩ (tX6_fails l D cI cQ cL ad N (rfSet cI ad F k r ps sl sd ne fa bu hs st ln pt (nI 0)) k hk r ps sl sd ne fa bu hs st ln pt (nI 0) (rfSet_at) (nI 1)) (cwV9 1 hts mcX6_fails (ac20 _ (List.mem_of_getElem? (i := 15) rfl)) miX6_fails meX6_fails mini_RX6 rfl rfl hdX6_fails ⟨Nat.le_of_ble_eq_true rfl, Nat.le_of_ble_eq_true rfl⟩) hDi hK hP hNW hS hk0 rfSet_at.1 rfl rfl hl.1 rfl (Nat.le_of_ble_eq_true rfl) (by decide) (dk kX6_flightsTo_ok 14 rfl) rfSet_rfSet (fun H locs hP hS => ?_)
    exact hret _ _ _ _ _ _ _ _ rfl (by exact ⟨rfl, rfl⟩) hP hS (by decide) (by decide) (dk kX6_flightsTo_ok 15 rfl)
  · exact absurd (hx9.symm.trans h1) (by decide)
end
/-! from winkspec -/
section
def rNF (r : Nat → Int32) (nf : Nat → Nat) : Prop := ∀ w, w < 16 → pot r w = false → r w = nI (ix (r w)) ∧ ix (r w) < 169 ∧ ix (r w) ≠ 84 ∧ fwr w (ix (r w)) (nf w)
def rF9 (r : Nat → Int32) (nf : Nat → Nat) (w : Nat) : Int32 := if pot r w = true then nI 0 else nI (nf w)
def rwD (r : Nat → Int32) (nf : Nat → Nat) : Nat → Int64 → Int64
  | 0, h => h
  | w + 1, h => mxd (mxd (fo (aWink r w) 7 (rwD r nf w h)) (aLan r w 3 5).toInt64) (rF9 r nf w).toInt64
def rwE (r : Nat → Int32) (nf : Nat → Nat) (h : Int64) : Int64 := fo2 (aCol r) 7 4 (rwD r nf 16 h)
theorem rwD_p {r : Nat → Int32} {nf : Nat → Nat} {w : Nat} {h : Int64} (hp : pot r w = true) : mxd (mxd (fo (aWink r w) 7 (rwD r nf w h)) (aLan r w 3 5).toInt64) (nI 0).toInt64 = rwD r nf (w + 1) h := by
  simp only [rwD, rF9, hp, if_true]
theorem rwD_n {r : Nat → Int32} {nf : Nat → Nat} {w : Nat} {h : Int64} (hp : pot r w = false) : mxd (mxd (fo (aWink r w) 7 (rwD r nf w h)) (aLan r w 3 5).toInt64) (nI (nf w)).toInt64 = rwD r nf (w + 1) h := by
  simp only [rwD, rF9, hp, Bool.false_eq_true, if_false]
end
/-! from refwink -/
section
set_option maxRecDepth 100000 in
set_option maxHeartbeats 4000000 in
theorem tX6_ofWinks (l : Launch) (D : va_G) (cI cQ cL : ClassId) (ad : Nat → Nat) (N : Nat) (F : Nat → va_E) (k : Nat) (hk : k + 7 < N) (r ps sl sd ne fa bu : Nat → Int32) (hs : Bool) (st ln pt : Nat) (th : Int32) (hR : rfAt cI ad F k r ps sl sd ne fa bu hs st ln pt th) (x : Int64) (nf : Nat → Nat) (hnf : rNF r nf) : MX l yX6_ofWinks (Cond.code yX6_ofWinks cX6_ofWinks 7 (some .long) :: AW) ({ frames := 5, cells := 0, slots := 0, locals := 107 } : Room) D cI cQ cL ad N F [.ref (ad k), .long x] (fun v9 G9 => v9 = some (.long (rwE r nf x)) ∧ ∃ ne9 fa9, G9 = rfSet cI ad F k r ps sl sd ne9 fa9 bu hs st ln pt th) 0 0 := by
  refine mx_l (by decide +kernel) rfl (Nat.le_of_ble_eq_true rfl) (fun p e s m below meth cd Q ls hx hb hml hown hts hDi hP hK hNW hS hret hl => ?_)
  have hown : s.vm.findClass RX6 = some m.cls := hown
  have hk0 : k < N := by omega
  have hk1 : k + 1 < N := by omega
  have hk2 : k + 2 < N := by omega
  have hk3 : k + 3 < N := by omega
  have hk4 : k + 4 < N := by omega
  have hk5 : k + 5 < N := by omega
  have hk6 : k + 6 < N := by omega
  have hk7 : k + 7 < N := by omega
  have hP : va_P D vwCl (iW ad N (rfSet cI ad F k r ps sl sd ne fa bu hs st ln pt th)) s.heap := by rw [rfSet_self hR]; exact hP
  have hl : lv_has ls 7 [(0, .ref (ad k)), (1, .long x)] := hl
  refine lv_lload_n hx hb (dk kX6_ofWinks_0_ok 0 rfl) rfl (lv_at hl 1 rfl) ?_
  refine lv_lstore_n (lv' := [(3, .long x), (0, .ref (ad k)), (1, .long x)]) hx hb (dk kX6_ofWinks_0_ok 1 rfl) rfl hl (by decide) rfl (fun ls hl => ?_)
  refine lv_iconst (v := nI 0) hx hb (dk kX6_ofWinks_0_ok 2 rfl) rfl ?_
  refine lv_istore (lv' := [(5, .int (nI 0)), (3, .long x), (0, .ref (ad k)), (1, .long x)]) hx hb (dk kX6_ofWinks_0_ok 3 rfl) hl (by decide) rfl (fun ls hl => ?_)
  have L5 : ∀ (fu : Nat) (w : Nat) (ne2 fa2 : Nat → Int32) (x3 : Int64) (H : Heap) (locs : List Loc), va_P D vwCl (iW ad N (rfSet cI ad F k r ps sl sd ne2 fa2 bu hs st ln pt th)) H → va_S (iA ad N s.heap.size) s.heap H locs → x3 = rwD r nf w x → w ≤ 16 → 16 - w < fu → ∀ ls : Array Slot, lv_has ls 7 [(0, .ref (ad k)), (1, .long x), (3, .long x3), (5, .int (nI w))] → W p l e ({ frames := 5, cells := 0, slots := 0, locals := 107 } : Room) s m ([.ref (ad k), .long x] : List Value).toArray below meth cd H locs 0 0 Q (F0 m 5 ls []) := by
    intro fu
    induction fu with
    | zero => intros; omega
    | succ fu ih5 =>
      intro w ne2 fa2 x3 H locs hP hS ex3 hw hme5 ls hl
      subst ex3
      refine lv_iload hx hb (dk kX6_ofWinks_0_ok 4 rfl) (lv_at hl 3 rfl) ?_
      refine lv_bipush (v := nI 16) hx hb (dk kX6_ofWinks_0_ok 5 rfl) rfl ?_
      refine n_icmp_ge (tgt := 80) hx hb (by omega) (by decide) (dk kX6_ofWinks_0_ok 6 rfl) (by decide) (fun h1 => ?_) (fun h1 => ?_)
      · skip
        refine lv_iconst (v := nI 0) hx hb (dk kX6_ofWinks_0_ok 46 rfl) rfl ?_
        refine lv_istore (lv' := [(5, .int (nI 0)), (0, .ref (ad k)), (1, .long x), (3, .long (rwD r nf w x))]) hx hb (dk kX6_ofWinks_0_ok 47 rfl) hl (by decide) rfl (fun ls hl => ?_)
        have L83 : ∀ (fu : Nat) (c9 : Nat) (x3 : Int64) (H : Heap) (locs : List Loc), va_P D vwCl (iW ad N (rfSet cI ad F k r ps sl sd ne2 fa2 bu hs st ln pt th)) H → va_S (iA ad N s.heap.size) s.heap H locs → x3 = fo2 (aCol r) 7 c9 (rwD r nf 16 x) → c9 ≤ 4 → 4 - c9 < fu → ∀ ls : Array Slot, lv_has ls 7 [(0, .ref (ad k)), (1, .long x), (3, .long x3), (5, .int (nI c9))] → W p l e ({ frames := 5, cells := 0, slots := 0, locals := 107 } : Room) s m ([.ref (ad k), .long x] : List Value).toArray below meth cd H locs 0 0 Q (F0 m 83 ls []) := by
          intro fu
          induction fu with
          | zero => intros; omega
          | succ fu ih83 =>
            intro c9 x3 H locs hP hS ex3 hc hme83 ls hl
            subst ex3
            refine lv_iload hx hb (dk kX6_ofWinks_0_ok 48 rfl) (lv_at hl 3 rfl) ?_
            refine lv_iconst (v := nI 4) hx hb (dk kX6_ofWinks_0_ok 49 rfl) rfl ?_
            refine n_icmp_ge (tgt := 127) hx hb (by omega) (by decide) (dk kX6_ofWinks_0_ok 50 rfl) (by decide) (fun h2 => ?_) (fun h2 => ?_)
            · skip
              refine lv_lload_n hx hb (dk kX6_ofWinks_1_ok 10 rfl) rfl (lv_at hl 2 rfl) ?_
              exact hret _ _ _ _ _ _ _ _  (by rw [show c9 = 4 by omega]; exact ⟨rfl, _, _, rfl⟩) hP hS (by decide) (by decide) (dk kX6_ofWinks_1_ok 11 rfl)
            · skip
              refine lv_iconst (v := nI 0) hx hb (dk kX6_ofWinks_0_ok 51 rfl) rfl ?_
              refine lv_istore (lv' := [(6, .int (nI 0)), (0, .ref (ad k)), (1, .long x), (3, .long (fo2 (aCol r) 7 c9 (rwD r nf 16 x))), (5, .int (nI c9))]) hx hb (dk kX6_ofWinks_0_ok 52 rfl) hl (by decide) rfl (fun ls hl => ?_)
              have L92 : ∀ (fu : Nat) (i : Nat) (x3 : Int64) (H : Heap) (locs : List Loc), va_P D vwCl (iW ad N (rfSet cI ad F k r ps sl sd ne2 fa2 bu hs st ln pt th)) H → va_S (iA ad N s.heap.size) s.heap H locs → x3 = fo (aCol r c9) i (fo2 (aCol r) 7 c9 (rwD r nf 16 x)) → i ≤ 7 → 7 - i < fu → ∀ ls : Array Slot, lv_has ls 7 [(0, .ref (ad k)), (1, .long x), (3, .long x3), (5, .int (nI c9)), (6, .int (nI i))] → W p l e ({ frames := 5, cells := 0, slots := 0, locals := 107 } : Room) s m ([.ref (ad k), .long x] : List Value).toArray below meth cd H locs 0 0 Q (F0 m 92 ls []) := by
                intro fu
                induction fu with
                | zero => intros; omega
                | succ fu ih92 =>
                  intro i x3 H locs hP hS ex3 hi hme92 ls hl
                  subst ex3
                  refine lv_iload hx hb (dk kX6_ofWinks_0_ok 53 rfl) (lv_at hl 4 rfl) ?_
                  refine lv_bipush (v := nI 7) hx hb (dk kX6_ofWinks_0_ok 54 rfl) rfl ?_
                  refine n_icmp_ge (tgt := 121) hx hb (by omega) (by decide) (dk kX6_ofWinks_0_ok 55 rfl) (by decide) (fun h3 => ?_) (fun h3 => ?_)
                  · skip
                    refine lv_iinc (v := nI (c9 + 1)) (lv' := [(5, .int (nI (c9 + 1))), (0, .ref (ad k)), (1, .long x), (3, .long (fo (aCol r c9) i (fo2 (aCol r) 7 c9 (rwD r nf 16 x)))), (6, .int (nI i))]) hx hb (dk kX6_ofWinks_1_ok 8 rfl) hl (k := 3) rfl (n_inc _) (by decide) rfl (fun ls hl => ?_)
                    refine lv_goto (tgt := 83) hx hb (dk kX6_ofWinks_1_ok 9 rfl) (by decide) ?_
                    exact ih83 (c9 + 1) _ _ _ hP hS (by obtain rfl : i = 7 := (by omega); exact fo2_s (A := aCol r)) (by omega) (by omega) ls (lv_sub hl [1, 2, 3, 0] rfl)
                  · skip
                    refine lv_ldc2 (v := (31)) hx hb hown (hts _ (List.mem_cons_of_mem _ (ac25 _ (List.mem_of_getElem? (i := 11) rfl)))) (dk kX6_ofWinks_0_ok 56 rfl) ?_
                    refine lv_lload_n hx hb (dk kX6_ofWinks_0_ok 57 rfl) rfl (lv_at hl 2 rfl) ?_
                    refine lv_lmul hx hb (dk kX6_ofWinks_0_ok 58 rfl) ?_
                    refine lv_aload_n hx hb (dk kX6_ofWinks_0_ok 59 rfl) rfl (lv_at hl 0 rfl) ?_
                    refine lv_iload hx hb (dk kX6_ofWinks_1_ok 0 rfl) (lv_at hl 3 rfl) ?_
                    refine lv_iload hx hb (dk kX6_ofWinks_1_ok 1 rfl) (lv_at hl 4 rfl) ?_
                    refine cvR (As := [.int (nI c9), .int (nI i)]) (rest := [.long (31 * (fo (aCol r c9) i (fo2 (aCol r) 7 c9 (rwD r nf 16 x))))]) ⟨hx, hb, hml, hown, hts⟩ (tX6_ofColour l D cI cQ cL ad N (rfSet cI ad F k r ps sl sd ne2 fa2 bu hs st ln pt th) k hk r ps sl sd ne2 fa2 bu hs st ln pt th (rfSet_at) (nI c9) c9 rfl (by omega) (nI i) i rfl (by omega)) (cwV9 2 hts mcX6_ofColour (ac23 _ (List.mem_of_getElem? (i := 10) rfl)) miX6_ofColour meX6_ofColour mini_RX6 rfl rfl hdX6_ofColour ⟨Nat.le_of_ble_eq_true rfl, Nat.le_of_ble_eq_true rfl⟩) hK hP hNW hk0 rfSet_at.1 rfl rfl hl.1 rfl (Nat.le_of_ble_eq_true rfl) (by decide) (dk kX6_ofWinks_1_ok 2 rfl) ?_
                    refine lv_i2l hx hb (dk kX6_ofWinks_1_ok 3 rfl) rfl ?_
                    refine lv_ladd hx hb (dk kX6_ofWinks_1_ok 4 rfl) ?_
                    refine lv_lstore_n (lv' := [(3, .long ((31 * (fo (aCol r c9) i (fo2 (aCol r) 7 c9 (rwD r nf 16 x)))) + ((aCol r c9 i).toInt64))), (0, .ref (ad k)), (1, .long x), (5, .int (nI c9)), (6, .int (nI i))]) hx hb (dk kX6_ofWinks_1_ok 5 rfl) rfl hl (by decide) rfl (fun ls hl => ?_)
                    refine lv_iinc (v := nI (i + 1)) (lv' := [(6, .int (nI (i + 1))), (3, .long ((31 * (fo (aCol r c9) i (fo2 (aCol r) 7 c9 (rwD r nf 16 x)))) + ((aCol r c9 i).toInt64))), (0, .ref (ad k)), (1, .long x), (5, .int (nI c9))]) hx hb (dk kX6_ofWinks_1_ok 6 rfl) hl (k := 4) rfl (n_inc _) (by decide) rfl (fun ls hl => ?_)
                    refine lv_goto (tgt := 92) hx hb (dk kX6_ofWinks_1_ok 7 rfl) (by decide) ?_
                    exact ih92 (i + 1) _ _ _ hP hS (by exact fo_s (A := aCol r c9)) (by omega) (by omega) ls (lv_sub hl [2, 3, 1, 4, 0] rfl)
              exact L92 _ 0 _ _ _ hP hS (by first | rfl | omega) (by first | rfl | omega) (Nat.lt_succ_self _) ls (lv_sub hl [1, 2, 3, 4, 0] rfl)
        exact L83 _ 0 _ _ _ hP hS (by first | omega | (rw [show w = 16 by omega]; rfl)) (by first | omega | (rw [show w = 16 by omega]; rfl)) (Nat.lt_succ_self _) ls (lv_sub hl [1, 2, 3, 0] rfl)
      · skip
        refine lv_iconst (v := nI 0) hx hb (dk kX6_ofWinks_0_ok 7 rfl) rfl ?_
        refine lv_istore (lv' := [(6, .int (nI 0)), (0, .ref (ad k)), (1, .long x), (3, .long (rwD r nf w x)), (5, .int (nI w))]) hx hb (dk kX6_ofWinks_0_ok 8 rfl) hl (by decide) rfl (fun ls hl => ?_)
        have L15 : ∀ (fu : Nat) (i : Nat) (x3 : Int64) (H : Heap) (locs : List Loc), va_P D vwCl (iW ad N (rfSet cI ad F k r ps sl sd ne2 fa2 bu hs st ln pt th)) H → va_S (iA ad N s.heap.size) s.heap H locs → x3 = fo (aWink r w) i (rwD r nf w x) → i ≤ 7 → 7 - i < fu → ∀ ls : Array Slot, lv_has ls 7 [(0, .ref (ad k)), (1, .long x), (3, .long x3), (5, .int (nI w)), (6, .int (nI i))] → W p l e ({ frames := 5, cells := 0, slots := 0, locals := 107 } : Room) s m ([.ref (ad k), .long x] : List Value).toArray below meth cd H locs 0 0 Q (F0 m 15 ls []) := by
          intro fu
          induction fu with
          | zero => intros; omega
          | succ fu ih15 =>
            intro i x3 H locs hP hS ex3 hi hme15 ls hl
            subst ex3
            refine lv_iload hx hb (dk kX6_ofWinks_0_ok 9 rfl) (lv_at hl 4 rfl) ?_
            refine lv_bipush (v := nI 7) hx hb (dk kX6_ofWinks_0_ok 10 rfl) rfl ?_
            refine n_icmp_ge (tgt := 44) hx hb (by omega) (by decide) (dk kX6_ofWinks_0_ok 11 rfl) (by decide) (fun h4 => ?_) (fun h4 => ?_)
            · skip
              refine lv_ldc2 (v := (31)) hx hb hown (hts _ (List.mem_cons_of_mem _ (ac25 _ (List.mem_of_getElem? (i := 11) rfl)))) (dk kX6_ofWinks_0_ok 24 rfl) ?_
              refine lv_lload_n hx hb (dk kX6_ofWinks_0_ok 25 rfl) rfl (lv_at hl 2 rfl) ?_
              refine lv_lmul hx hb (dk kX6_ofWinks_0_ok 26 rfl) ?_
              refine lv_aload_n hx hb (dk kX6_ofWinks_0_ok 27 rfl) rfl (lv_at hl 0 rfl) ?_
              refine lv_iload hx hb (dk kX6_ofWinks_0_ok 28 rfl) (lv_at hl 3 rfl) ?_
              refine lv_iconst (v := nI 3) hx hb (dk kX6_ofWinks_0_ok 29 rfl) rfl ?_
              refine lv_iconst (v := nI 5) hx hb (dk kX6_ofWinks_0_ok 30 rfl) rfl ?_
              refine cvR (As := [.int (nI w), .int (nI 3), .int (nI 5)]) (rest := [.long (31 * (fo (aWink r w) i (rwD r nf w x)))]) ⟨hx, hb, hml, hown, hts⟩ (tX6_landing l D cI cQ cL ad N (rfSet cI ad F k r ps sl sd ne2 fa2 bu hs st ln pt th) k hk r ps sl sd ne2 fa2 bu hs st ln pt th (rfSet_at) (nI w) w rfl (by omega) (nI 3) 3 rfl (by omega) (nI 5) 5 rfl (by omega) (fun h9 => ⟨_, (hnf w (by omega) h9).2.1, (hnf w (by omega) h9).1⟩)) (cwV9 3 hts mcX6_landing (ac24 _ (List.mem_of_getElem? (i := 10) rfl)) miX6_landing meX6_landing mini_RX6 rfl rfl hdX6_landing ⟨Nat.le_of_ble_eq_true rfl, Nat.le_of_ble_eq_true rfl⟩) hK hP hNW hk0 rfSet_at.1 rfl rfl hl.1 rfl (Nat.le_of_ble_eq_true rfl) (by decide) (dk kX6_ofWinks_0_ok 31 rfl) ?_
              refine lv_i2l hx hb (dk kX6_ofWinks_0_ok 32 rfl) rfl ?_
              refine lv_ladd hx hb (dk kX6_ofWinks_0_ok 33 rfl) ?_
              refine lv_lstore_n (lv' := [(3, .long ((31 * (fo (aWink r w) i (rwD r nf w x))) + ((aLan r w 3 5).toInt64))), (0, .ref (ad k)), (1, .long x), (5, .int (nI w)), (6, .int (nI i))]) hx hb (dk kX6_ofWinks_0_ok 34 rfl) rfl hl (by decide) rfl (fun ls hl => ?_)
              refine lv_ldc2 (v := (31)) hx hb hown (hts _ (List.mem_cons_of_mem _ (ac25 _ (List.mem_of_getElem? (i := 11) rfl)))) (dk kX6_ofWinks_0_ok 35 rfl) ?_
              refine lv_lload_n hx hb (dk kX6_ofWinks_0_ok 36 rfl) rfl (lv_at hl 0 rfl) ?_
              refine lv_lmul hx hb (dk kX6_ofWinks_0_ok 37 rfl) ?_
              rcases (Bool.eq_false_or_eq_true (pot r w)) with hsp5 | hsp5
              · skip
                refine lv_aload_n hx hb (dk kX6_ofWinks_0_ok 38 rfl) rfl (lv_at hl 1 rfl) ?_
                refine lv_iload hx hb (dk kX6_ofWinks_0_ok 39 rfl) (lv_at hl 3 rfl) ?_
                refine cvR (As := [.int (nI w)]) (rest := [.long (31 * ((31 * (fo (aWink r w) i (rwD r nf w x))) + ((aLan r w 3 5).toInt64)))]) ⟨hx, hb, hml, hown, hts⟩ (tX6_fewestP l D cI cQ cL ad N (rfSet cI ad F k r ps sl sd ne2 fa2 bu hs st ln pt th) k hk r ps sl sd ne2 fa2 bu hs st ln pt th (rfSet_at) (nI w) w rfl (by omega) hsp5) (cwV9 1 hts mcX6_fewest (ac25 _ (List.mem_of_getElem? (i := 6) rfl)) miX6_fewest meX6_fewest mini_RX6 rfl rfl hdX6_fewest ⟨Nat.le_of_ble_eq_true rfl, Nat.le_of_ble_eq_true rfl⟩) hK hP hNW hk0 rfSet_at.1 rfl rfl hl.1 rfl (Nat.le_of_ble_eq_true rfl) (by decide) (dk kX6_ofWinks_0_ok 40 rfl) ?_
                refine lv_i2l hx hb (dk kX6_ofWinks_0_ok 41 rfl) rfl ?_
                refine lv_ladd hx hb (dk kX6_ofWinks_0_ok 42 rfl) ?_
                refine lv_lstore_n (lv' := [(3, .long ((31 * ((31 * (fo (aWink r w) i (rwD r nf w x))) + ((aLan r w 3 5).toInt64))) + ((nI 0).toInt64))), (0, .ref (ad k)), (1, .long x), (5, .int (nI w)), (6, .int (nI i))]) hx hb (dk kX6_ofWinks_0_ok 43 rfl) rfl hl (by decide) rfl (fun ls hl => ?_)
                refine lv_iinc (v := nI (w + 1)) (lv' := [(5, .int (nI (w + 1))), (3, .long ((31 * ((31 * (fo (aWink r w) i (rwD r nf w x))) + ((aLan r w 3 5).toInt64))) + ((nI 0).toInt64))), (0, .ref (ad k)), (1, .long x), (6, .int (nI i))]) hx hb (dk kX6_ofWinks_0_ok 44 rfl) hl (k := 3) rfl (n_inc _) (by decide) rfl (fun ls hl => ?_)
                refine lv_goto (tgt := 5) hx hb (dk kX6_ofWinks_0_ok 45 rfl) (by decide) ?_
                exact ih5 (w + 1) ne2 fa2 _ _ _ hP hS (by obtain rfl : i = 7 := (by omega); first | exact rwD_p hsp5 | exact rwD_n hsp5) (by omega) (by omega) ls (lv_sub hl [2, 3, 1, 0] rfl)
              · skip
                refine lv_aload_n hx hb (dk kX6_ofWinks_0_ok 38 rfl) rfl (lv_at hl 1 rfl) ?_
                refine lv_iload hx hb (dk kX6_ofWinks_0_ok 39 rfl) (lv_at hl 3 rfl) ?_
                refine cvE (As := [.int (nI w)]) (rest := [.long (31 * ((31 * (fo (aWink r w) i (rwD r nf w x))) + ((aLan r w 3 5).toInt64)))]) ⟨hx, hb, hml, hown, hts⟩ (tX6_fewest l D cI cQ cL ad N (rfSet cI ad F k r ps sl sd ne2 fa2 bu hs st ln pt th) k hk r ps sl sd ne2 fa2 bu hs st ln pt th (rfSet_at) (nI w) w rfl (by omega) (ix (r w)) (nf w) (hnf w (by omega) hsp5).1 (hnf w (by omega) hsp5).2.1 (hnf w (by omega) hsp5).2.2.1 hsp5 (hnf w (by omega) hsp5).2.2.2) (cwV9 1 hts mcX6_fewest (ac25 _ (List.mem_of_getElem? (i := 6) rfl)) miX6_fewest meX6_fewest mini_RX6 rfl rfl hdX6_fewest ⟨Nat.le_of_ble_eq_true rfl, Nat.le_of_ble_eq_true rfl⟩) hDi hK hP hNW hS hk0 rfSet_at.1 rfl rfl hl.1 rfl (Nat.le_of_ble_eq_true rfl) (by decide) (dk kX6_ofWinks_0_ok 40 rfl) (fun G9 H locs hp9 hP hS => ?_)
                obtain ⟨ne9, fa9, rfl⟩ := hp9
                rw [rfSet_rfSet] at hP
                refine lv_i2l hx hb (dk kX6_ofWinks_0_ok 41 rfl) rfl ?_
                refine lv_ladd hx hb (dk kX6_ofWinks_0_ok 42 rfl) ?_
                refine lv_lstore_n (lv' := [(3, .long ((31 * ((31 * (fo (aWink r w) i (rwD r nf w x))) + ((aLan r w 3 5).toInt64))) + ((nI (nf w)).toInt64))), (0, .ref (ad k)), (1, .long x), (5, .int (nI w)), (6, .int (nI i))]) hx hb (dk kX6_ofWinks_0_ok 43 rfl) rfl hl (by decide) rfl (fun ls hl => ?_)
                refine lv_iinc (v := nI (w + 1)) (lv' := [(5, .int (nI (w + 1))), (3, .long ((31 * ((31 * (fo (aWink r w) i (rwD r nf w x))) + ((aLan r w 3 5).toInt64))) + ((nI (nf w)).toInt64))), (0, .ref (ad k)), (1, .long x), (6, .int (nI i))]) hx hb (dk kX6_ofWinks_0_ok 44 rfl) hl (k := 3) rfl (n_inc _) (by decide) rfl (fun ls hl => ?_)
                refine lv_goto (tgt := 5) hx hb (dk kX6_ofWinks_0_ok 45 rfl) (by decide) ?_
                exact ih5 (w + 1) ne9 fa9 _ _ _ hP hS (by obtain rfl : i = 7 := (by omega); first | exact rwD_p hsp5 | exact rwD_n hsp5) (by omega) (by omega) ls (lv_sub hl [2, 3, 1, 0] rfl)
            · skip
              refine lv_ldc2 (v := (31)) hx hb hown (hts _ (List.mem_cons_of_mem _ (ac25 _ (List.mem_of_getElem? (i := 11) rfl)))) (dk kX6_ofWinks_0_ok 12 rfl) ?_
              refine lv_lload_n hx hb (dk kX6_ofWinks_0_ok 13 rfl) rfl (lv_at hl 2 rfl) ?_
              refine lv_lmul hx hb (dk kX6_ofWinks_0_ok 14 rfl) ?_
              refine lv_aload_n hx hb (dk kX6_ofWinks_0_ok 15 rfl) rfl (lv_at hl 0 rfl) ?_
              refine lv_iload hx hb (dk kX6_ofWinks_0_ok 16 rfl) (lv_at hl 3 rfl) ?_
              refine lv_iload hx hb (dk kX6_ofWinks_0_ok 17 rfl) (lv_at hl 4 rfl) ?_
              refine cvR (As := [.int (nI w), .int (nI i)]) (rest := [.long (31 * (fo (aWink r w) i (rwD r nf w x)))]) ⟨hx, hb, hml, hown, hts⟩ (tX6_ofWink l D cI cQ cL ad N (rfSet cI ad F k r ps sl sd ne2 fa2 bu hs st ln pt th) k hk r ps sl sd ne2 fa2 bu hs st ln pt th (rfSet_at) (nI w) w rfl (by omega) (nI i) i rfl (by omega)) (cwV9 2 hts mcX6_ofWink (ac22 _ (List.mem_of_getElem? (i := 14) rfl)) miX6_ofWink meX6_ofWink mini_RX6 rfl rfl hdX6_ofWink ⟨Nat.le_of_ble_eq_true rfl, Nat.le_of_ble_eq_true rfl⟩) hK hP hNW hk0 rfSet_at.1 rfl rfl hl.1 rfl (Nat.le_of_ble_eq_true rfl) (by decide) (dk kX6_ofWinks_0_ok 18 rfl) ?_
              refine lv_i2l hx hb (dk kX6_ofWinks_0_ok 19 rfl) rfl ?_
              refine lv_ladd hx hb (dk kX6_ofWinks_0_ok 20 rfl) ?_
              refine lv_lstore_n (lv' := [(3, .long ((31 * (fo (aWink r w) i (rwD r nf w x))) + ((aWink r w i).toInt64))), (0, .ref (ad k)), (1, .long x), (5, .int (nI w)), (6, .int (nI i))]) hx hb (dk kX6_ofWinks_0_ok 21 rfl) rfl hl (by decide) rfl (fun ls hl => ?_)
              refine lv_iinc (v := nI (i + 1)) (lv' := [(6, .int (nI (i + 1))), (3, .long ((31 * (fo (aWink r w) i (rwD r nf w x))) + ((aWink r w i).toInt64))), (0, .ref (ad k)), (1, .long x), (5, .int (nI w))]) hx hb (dk kX6_ofWinks_0_ok 22 rfl) hl (k := 4) rfl (n_inc _) (by decide) rfl (fun ls hl => ?_)
              refine lv_goto (tgt := 15) hx hb (dk kX6_ofWinks_0_ok 23 rfl) (by decide) ?_
              exact ih15 (i + 1) _ _ _ hP hS (by exact fo_s (A := aWink r w)) (by omega) (by omega) ls (lv_sub hl [2, 3, 1, 4, 0] rfl)
        exact L15 _ 0 _ _ _ hP hS (by first | rfl | omega) (by first | rfl | omega) (Nat.lt_succ_self _) ls (lv_sub hl [1, 2, 3, 4, 0] rfl)
  exact L5 _ 0 ne fa _ _ _ hP hS (by first | rfl | omega) (by first | rfl | omega) (Nat.lt_succ_self _) ls (lv_sub hl [2, 3, 1, 0] rfl)
end
