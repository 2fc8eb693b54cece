/-! the law's cases: what a call owes, and what the walk of its case gives -/
abbrev RML : Room := { frames := 12, cells := 1, slots := 6, locals := 450 }
/-- the reference stands at its place, with this word of the latest throw -/
def RT (cI : ClassId) (ad : Nat → Nat) (G : Nat → va_E) (th : Int32) : Prop := ∃ (r ps sl sd ne fa bu : Nat → Int32) (hs : Bool) (st ln pt : Nat), rfAt cI ad G 77 r ps sl sd ne fa bu hs st ln pt th
/-- a call that may throw -/
def STw (l : Launch) (D : va_G) (cI cQ cL : ClassId) (ad : Nat → Nat) (N : Nat) (yL : MethodName) (bL : ByteArray) (mL : Nat) (hh : List (Nat × Nat × Nat × Nat)) (y6 : MethodName) (b6 : ByteArray) (m6 : Nat) (F : Nat → va_E) (INV : (Nat → va_E) → Prop) (As : List Value) : Prop :=
  ∃ (kk : Nat) (b : Int32) (F1 : Nat → va_E) (o : Nat → Int64) (fs : List Value) (post : Option Value → (Nat → va_E) → Prop) (rm6 : Room), kk < 8 ∧ F1 85 = .inl (cL, 1, .inr (.inl o)) ∧ (kk = 0 → o 0 = b.toInt64) ∧ ML l yL (Cond.codeWith yL bL mL (some .int) hh :: LW) RML D cI cQ cL ad N F (.ref (ad 0) :: (As ++ [.ref (ad 85)])) (nI kk) F1 1 6 ∧ F1 77 = .inr (6, fs) ∧ MX l y6 (Cond.code y6 b6 m6 (some .int) :: AW) rm6 D cI cQ cL ad N F1 (.ref (ad 77) :: As) post 0 0 ∧ rm6.cells = 0 ∧ rm6.slots = 0 ∧ rm6.frames + 1 ≤ 13 ∧ 8 + (m6 + 11) + rm6.locals ≤ 476 ∧ ∀ v G, post v G → v = some (.int b) ∧ INV G ∧ G 85 = F1 85 ∧ RT cI ad G (nI kk)
/-- a call that doesn't -/
def STs (l : Launch) (D : va_G) (cI cQ cL : ClassId) (ad : Nat → Nat) (N : Nat) (y5 : MethodName) (b5 : ByteArray) (m5 : Nat) (y6 : MethodName) (b6 : ByteArray) (m6 : Nat) (ty : FieldType) (ok : Value → Prop) (F : Nat → va_E) (INV : (Nat → va_E) → Prop) : Prop :=
  ∃ (b : Value) (F1 : Nat → va_E) (f5 f6 : List Value) (post : Option Value → (Nat → va_E) → Prop) (rm5 rm6 : Room), ok b ∧ F 0 = .inr (5, f5) ∧ MX l y5 (Cond.code y5 b5 m5 (some ty) :: AW) rm5 D cI cQ cL ad N F [.ref (ad 0)] (dp (some b) F1) 0 0 ∧ rm5.cells = 0 ∧ rm5.slots = 0 ∧ rm5.frames + 1 ≤ 13 ∧ 8 + (m5 + 11) + rm5.locals ≤ 476 ∧ F1 77 = .inr (6, f6) ∧ MX l y6 (Cond.code y6 b6 m6 (some ty) :: AW) rm6 D cI cQ cL ad N F1 [.ref (ad 77)] post 0 0 ∧ rm6.cells = 0 ∧ rm6.slots = 0 ∧ rm6.frames + 1 ≤ 13 ∧ 8 + (m6 + 11) + rm6.locals ≤ 476 ∧ ∀ v G, post v G → v = some b ∧ INV G
/-- a call that may throw, not compared -/
def STw0 (l : Launch) (D : va_G) (cI cQ cL : ClassId) (ad : Nat → Nat) (N : Nat) (yL : MethodName) (bL : ByteArray) (mL : Nat) (hh : List (Nat × Nat × Nat × Nat)) (y6 : MethodName) (b6 : ByteArray) (m6 : Nat) (F : Nat → va_E) (INV : (Nat → va_E) → Prop) (As : List Value) : Prop :=
  ∃ (kk : Nat) (F1 : Nat → va_E) (fs : List Value) (post : Option Value → (Nat → va_E) → Prop) (rm6 : Room), ML l yL (Cond.codeWith yL bL mL (some .int) hh :: LW) RML D cI cQ cL ad N F (.ref (ad 0) :: (As ++ [.ref (ad 85)])) (nI kk) F1 1 6 ∧ F1 77 = .inr (6, fs) ∧ MX l y6 (Cond.code y6 b6 m6 (some .int) :: AW) rm6 D cI cQ cL ad N F1 (.ref (ad 77) :: As) post 0 0 ∧ rm6.cells = 0 ∧ rm6.slots = 0 ∧ rm6.frames + 1 ≤ 13 ∧ 8 + (m6 + 11) + rm6.locals ≤ 476 ∧ ∀ v G, post v G → (∃ b : Int32, v = some (.int b)) ∧ INV G
/-- the same, where the class's own world isn't told in full -/
def STwE (l : Launch) (D : va_G) (cI cQ cL : ClassId) (ad : Nat → Nat) (N : Nat) (yL : MethodName) (bL : ByteArray) (mL : Nat) (hh : List (Nat × Nat × Nat × Nat)) (y6 : MethodName) (b6 : ByteArray) (m6 : Nat) (F : Nat → va_E) (INV : (Nat → va_E) → Prop) (As : List Value) : Prop :=
  ∃ (kk : Nat) (PG : (Nat → va_E) → Prop), MLE l yL (Cond.codeWith yL bL mL (some .int) hh :: LW) RML D cI cQ cL ad N F (.ref (ad 0) :: (As ++ [.ref (ad 85)])) (nI kk) PG 1 6 ∧ ∀ F1, PG F1 → ∃ (b : Int32) (o : Nat → Int64) (fs : List Value) (post : Option Value → (Nat → va_E) → Prop) (rm6 : Room), kk < 8 ∧ F1 85 = .inl (cL, 1, .inr (.inl o)) ∧ (kk = 0 → o 0 = b.toInt64) ∧ F1 77 = .inr (6, fs) ∧ MX l y6 (Cond.code y6 b6 m6 (some .int) :: AW) rm6 D cI cQ cL ad N F1 (.ref (ad 77) :: As) post 0 0 ∧ rm6.cells = 0 ∧ rm6.slots = 0 ∧ rm6.frames + 1 ≤ 13 ∧ 8 + (m6 + 11) + rm6.locals ≤ 476 ∧ ∀ v G, post v G → v = some (.int b) ∧ INV G ∧ G 85 = F1 85 ∧ RT cI ad G (nI kk)
def STw0E (l : Launch) (D : va_G) (cI cQ cL : ClassId) (ad : Nat → Nat) (N : Nat) (yL : MethodName) (bL : ByteArray) (mL : Nat) (hh : List (Nat × Nat × Nat × Nat)) (y6 : MethodName) (b6 : ByteArray) (m6 : Nat) (F : Nat → va_E) (INV : (Nat → va_E) → Prop) (As : List Value) : Prop :=
  ∃ (kk : Nat) (PG : (Nat → va_E) → Prop), MLE l yL (Cond.codeWith yL bL mL (some .int) hh :: LW) RML D cI cQ cL ad N F (.ref (ad 0) :: (As ++ [.ref (ad 85)])) (nI kk) PG 1 6 ∧ ∀ F1, PG F1 → ∃ (fs : List Value) (post : Option Value → (Nat → va_E) → Prop) (rm6 : Room), F1 77 = .inr (6, fs) ∧ MX l y6 (Cond.code y6 b6 m6 (some .int) :: AW) rm6 D cI cQ cL ad N F1 (.ref (ad 77) :: As) post 0 0 ∧ rm6.cells = 0 ∧ rm6.slots = 0 ∧ rm6.frames + 1 ≤ 13 ∧ 8 + (m6 + 11) + rm6.locals ≤ 476 ∧ ∀ v G, post v G → (∃ b : Int32, v = some (.int b)) ∧ INV G
/-- a call that doesn't throw, not compared -/
def STs0 (l : Launch) (D : va_G) (cI cQ cL : ClassId) (ad : Nat → Nat) (N : Nat) (y5 : MethodName) (b5 : ByteArray) (m5 : Nat) (y6 : MethodName) (b6 : ByteArray) (m6 : Nat) (ty : FieldType) (ok : Value → Prop) (F : Nat → va_E) (INV : (Nat → va_E) → Prop) : Prop :=
  ∃ (b : Value) (F1 : Nat → va_E) (f5 f6 : List Value) (post : Option Value → (Nat → va_E) → Prop) (rm5 rm6 : Room), ok b ∧ F 0 = .inr (5, f5) ∧ MX l y5 (Cond.code y5 b5 m5 (some ty) :: AW) rm5 D cI cQ cL ad N F [.ref (ad 0)] (dp (some b) F1) 0 0 ∧ rm5.cells = 0 ∧ rm5.slots = 0 ∧ rm5.frames + 1 ≤ 13 ∧ 8 + (m5 + 11) + rm5.locals ≤ 476 ∧ F1 77 = .inr (6, f6) ∧ MX l y6 (Cond.code y6 b6 m6 (some ty) :: AW) rm6 D cI cQ cL ad N F1 [.ref (ad 77)] post 0 0 ∧ rm6.cells = 0 ∧ rm6.slots = 0 ∧ rm6.frames + 1 ≤ 13 ∧ 8 + (m6 + 11) + rm6.locals ≤ 476 ∧ ∀ v G, post v G → (∃ b2, ok b2 ∧ v = some b2) ∧ INV G
def okI (v : Value) : Prop := ∃ x : Int32, v = .int x
def okL (v : Value) : Prop := ∃ x : Int64, v = .long x
def okD (v : Value) : Prop := ∃ x : UInt64, v = .double x ∧ Op.cmpValue (FP.dcmp x x) .l = 0
def okF (v : Value) : Prop := ∃ x : UInt32, v = .float x ∧ vf_n64 (FP.f2d x) ∧ Op.cmpValue (FP.dcmp (FP.f2d x) (FP.f2d x)) .l = 0
/-- what holds in the law's body all along -/
def LX (p : Program) (s : State) (m : MethodId) (c : Code) (b L : Nat) (xs : Nat → Int32) (D : va_G) (cI cQ cL : ClassId) : Prop :=
  p.tables.exec = Jvm.exec ∧ c.code = cL_law ∧ c.maxLocals = 9 ∧ s.vm.findClass RL = some m.cls ∧ (∀ w ∈ LW, w.before #[Value.ref b] s = true) ∧ va_K D vwCl (iT cI cQ cL) s ∧ NW s ∧ XW (pb s.heap.size) 86 s.heap.size s ∧ XN s ∧ va_X b L xs s s.heap ∧ b < s.heap.size ∧ L < 2 ^ 30
/-- the law's own places -/
abbrev lvL (b b0 i : Nat) : List (Nat × Value) := [(0, .ref b), (1, .ref (pb b0 0)), (2, .ref (pb b0 77)), (3, .ref (pb b0 85)), (4, .int (nI i))]
theorem lg_self (x : Int64) : lg_cmp x x = 0 := by simp [lg_cmp]
section LAWR
variable {p : Program} {l : Launch} {e : Env} {R : Room} {s : State} {m : MethodId} {below : List Frame} {meth : Method} {c : Code} {H : Heap} {locs : List Loc} {cells slots : Nat} {Q : State → Prop}
variable {cc : ByteArray} {pc : Nat} {ls : Array Slot} {rest : List Value} {N : Nat}
theorem sld {b L : Nat} {xs : Nat → Int32} (hx : p.tables.exec = Jvm.exec) (hb : c.code = cc) (hX : va_X b L xs s s.heap) (hbl : b < s.heap.size) (hL : L < 2 ^ 30) (hS : va_S (iA (pb s.heap.size) N s.heap.size) s.heap H locs) (j : Nat) {x : Int32} (hxj : x = nI j) (hj : j < L) (hdg : decode cc pc = .ok (.iaload, 1))
    (kk : W p l e R s m #[Value.ref b] below meth c H locs cells slots Q (F0 m (pc + 1) ls (.int (xs j) :: rest))) : W p l e R s m #[Value.ref b] below meth c H locs cells slots Q (F0 m pc ls (.int x :: .ref b :: rest)) := by
  subst hxj
  have hA : ¬ iA (pb s.heap.size) N s.heap.size b := by
    rintro (⟨k, -, h⟩ | h)
    · have h : b = s.heap.size + k := h
      omega
    · omega
  refine va_sld hx hb hX hbl hA hS (vp_in_nI hj (by omega)) hdg ?_
  rw [nI_clamp (by omega)]
  exact kk
theorem sln {b L : Nat} {xs : Nat → Int32} (hx : p.tables.exec = Jvm.exec) (hb : c.code = cc) (hX : va_X b L xs s s.heap) (hbl : b < s.heap.size) (hS : va_S (iA (pb s.heap.size) N s.heap.size) s.heap H locs) (hdg : decode cc pc = .ok (.arraylength, 1))
    (kk : W p l e R s m #[Value.ref b] below meth c H locs cells slots Q (F0 m (pc + 1) ls (.int (nI L) :: rest))) : W p l e R s m #[Value.ref b] below meth c H locs cells slots Q (F0 m pc ls (.ref b :: rest)) := by
  have hA : ¬ iA (pb s.heap.size) N s.heap.size b := by
    rintro (⟨k, -, h⟩ | h)
    · have h : b = s.heap.size + k := h
      omega
    · omega
  exact va_slen hx hb hX hbl hA hS hdg kk
end LAWR
