theorem nfw : nativeFrameWords "java/lang/System" "arraycopy" 5 = 7 := by decide +kernel
theorem cell_ext {cA : ClassId} {n : Nat} {f g : Nat → Int32} (h : ∀ j, j < n → f j = g j) : vp_cell cA (n, .inl f) = vp_cell cA (n, .inl g) := by
  show arrV cA n (fun j => .int (f j)) = arrV cA n (fun j => .int (g j))
  unfold arrV
  congr 1
  apply Array.ext
  · simp
  · intro i h1 h2
    simp only [Array.size_ofFn] at h1
    simp [h i h1]
theorem iW_ext {D : va_G} {cl : List vw_C} {ad : Nat → Nat} {N : Nat} {F F' : Nat → va_E} {H : Heap} (h : va_P D cl (iW ad N F) H) (e : ∀ k, k < N → F k = F' k ∨ ∃ (cA : ClassId) (n : Nat) (f g : Nat → Int32), F k = .inl (cA, n, .inl f) ∧ F' k = .inl (cA, n, .inl g) ∧ ∀ j, j < n → f j = g j) : va_P D cl (iW ad N F') H := by
  intro k q hq
  obtain ⟨hk, rfl⟩ := iW_inv hq
  have h1 := h k _ (iW_get hk)
  rcases e k hk with e1 | ⟨cA, n, f, g, e1, e2, e3⟩
  · rw [← e1]
    exact h1
  · rw [e2]
    rw [e1] at h1
    show H[ad k]? = some (vp_cell cA (n, .inl g))
    rw [← cell_ext e3]
    exact h1
section CPY
variable {p : Program} {l : Launch} {e : Env} {R : Room} {s : State} {m : MethodId} {args : Array Value} {below : List Frame} {meth : Method} {c : Code} {H : Heap} {locs : List Loc} {cells slots : Nat} {Q : State → Prop}
variable {cc : ByteArray} {pc : Nat} {ls : Array Slot} {rest st0 : List Value} {D : va_G} {cI cQ cL : ClassId} {ad : Nat → Nat} {N : Nat} {F : Nat → va_E} {Ts : List Cond}
/-- a whole row copied over another one -/
theorem cpy (F' : Nat → va_E) (hx : p.tables.exec = Jvm.exec) (hb : c.code = cc) (hml : c.maxLocals = ls.size) {own : String} {index : Nat} (hown : s.vm.findClass own = some m.cls) (hlink : (Cond.methodLink own index arraycopyName).before args s = true) (hnat : (Cond.native arraycopyName).before args s = true) (hstat : (Cond.static arraycopyName).before args s = true) (hini : (Cond.initialized "java/lang/System").before args s = true)
    (hK : va_K D vwCl (iT cI cQ cL) s) (hDi : iD ad N) (hP : va_P D vwCl (iW ad N F) H) (hS : va_S (iA ad N s.heap.size) s.heap H locs) {kS kD n : Nat} {f g : Nat → Int32} (hkS : kS < N) (hFS : F kS = .inl (cI, n, .inl f)) (hkD : kD < N) (hFD : F kD = .inl (cI, n, .inl g)) (hn : n < 2 ^ 31)
    (hframes : 1 ≤ R.frames) (hlocals : (rest.map fun v => v.category).sum + 18 ≤ R.locals) (hdg : decode cc pc = .ok (.invokestatic index, 3)) (hcan : va_up F kD (.inl (cI, n, .inl f)) = F')
    (kk : ∀ (H1 : Heap) (locs1 : List Loc), va_P D vwCl (iW ad N F') H1 → va_S (iA ad N s.heap.size) s.heap H1 locs1 → W p l e R s m args below meth c H1 locs1 cells slots Q (F0 m (pc + 3) ls rest)) : W p l e R s m args below meth c H locs cells slots Q (F0 m pc ls (.int (nI n) :: .int (nI 0) :: .ref (ad kD) :: .int (nI 0) :: .ref (ad kS) :: rest)) := by
  have z0 : (nI 0).toNatClampNeg = 0 := nI_clamp (by decide)
  have zn : (nI n).toNatClampNeg = n := nI_clamp hn
  refine va_copyi hx hb hml hown hlink hnat hstat hini hK hP (iA_D hDi) hS kS kD 0 0 (iW_at hkS hFS) (iW_at hkD hFD) (ty := .int) rfl rfl rfl (nI_pos (by decide)) (nI_pos (by decide)) (nI_pos hn) (by rw [z0, zn]; omega) (by rw [z0, zn]; omega) (fun _ _ => rfl) hframes (by rw [nfw]; exact hlocals) hdg (fun H1 locs1 hP1 hD1 hS1 => kk H1 locs1 ?_ hS1)
  rw [z0, zn, iW_set hkD] at hP1
  subst hcan
  refine iW_ext hP1 (fun k _ => ?_)
  by_cases e9 : k = kD
  · subst e9
    refine Or.inr ⟨cI, n, _, f, va_up_self _ _ _, va_up_self _ _ _, fun j hj => ?_⟩
    have := pk_cpy_in (f := f) (g := g) (sp := 0) (dp := 0) (n := n) (j := j) (Nat.zero_le _) (by omega)
    rw [this]
    congr 1
    omega
  · exact Or.inl (by rw [va_up_ne _ _ e9, va_up_ne _ _ e9])
end CPY
-- what the mat's writers do
def scl (v : Nat → Int32) (q : Int32) : Nat → (Nat → Int32) → Int32 → (Nat → Int32)
  | 0, c, _ => c
  | n + 1, c, x => if wk x = true then scl v q n (upd c (ix x) q) (v (ix x)) else c
def sep : Nat → (Nat → Int32) → (Nat → Int32) → Int32 → (Nat → Int32) × (Nat → Int32)
  | 0, b, v, _ => (b, v)
  | n + 1, b, v, x => if wk x = true then sep n (upd b (ix x) (-1)) (upd v (ix x) (-1)) (v (ix x)) else (b, v)
def cutv (b v : Nat → Int32) (w : Nat) : Nat → Int32 := if wk (b w) = true then upd v (ix (b w)) (-1) else v
def mov1 (c b v : Nat → Int32) (w : Nat) (q : Int32) : Nat → Int32 := if q = nI 84 then scl (cutv b v w) (-1) 16 c (nI w) else scl (cutv b v w) q 16 (scl (cutv b v w) (-1) 16 c (nI w)) (nI w)
def movt (c b v : Nat → Int32) (w : Nat) (q : Int32) : Int32 := top (scl (cutv b v w) (-1) 16 c (nI w)) (cutv b v w) q
def mov2 (c b v : Nat → Int32) (w : Nat) (q : Int32) : Nat → Int32 := if q = nI 84 then (sep 16 b (cutv b v w) (nI w)).1 else upd b w (movt c b v w q)
def mov3 (c b v : Nat → Int32) (w : Nat) (q : Int32) : Nat → Int32 := if q = nI 84 then (sep 16 b (cutv b v w) (nI w)).2 else if wk (movt c b v w q) = true then upd (cutv b v w) (ix (movt c b v w q)) (nI w) else cutv b v w
