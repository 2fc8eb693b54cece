theorem stAt_keep {cI : ClassId} {ad : Nat → Nat} {F G : Nat → va_E} {k : Nat} {c b v g h j : Nat → Int32} {t u z : Int32} (H : stAt cI ad F k c b v g h j t u z) (hG : ∀ i, k ≤ i → i ≤ k + 7 → G i = F i) : stAt cI ad G k c b v g h j t u z := by
  obtain ⟨h0, ⟨h1, h2, h3, h4⟩, h5, h6, h7⟩ := H
  exact ⟨by rw [hG _ (by omega) (by omega)]; exact h0, ⟨by rw [hG _ (by omega) (by omega)]; exact h1, by rw [hG _ (by omega) (by omega)]; exact h2, by rw [hG _ (by omega) (by omega)]; exact h3, by rw [hG _ (by omega) (by omega)]; exact h4⟩, by rw [hG _ (by omega) (by omega)]; exact h5, by rw [hG _ (by omega) (by omega)]; exact h6, by rw [hG _ (by omega) (by omega)]; exact h7⟩
theorem matAt_keep {cI : ClassId} {ad : Nat → Nat} {F G : Nat → va_E} {k : Nat} {c b v : Nat → Int32} (H : matAt cI ad F k c b v) (hG : ∀ i, k ≤ i → i ≤ k + 3 → G i = F i) : matAt cI ad G k c b v := by
  obtain ⟨h1, h2, h3, h4⟩ := H
  exact ⟨by rw [hG _ (by omega) (by omega)]; exact h1, by rw [hG _ (by omega) (by omega)]; exact h2, by rw [hG _ (by omega) (by omega)]; exact h3, by rw [hG _ (by omega) (by omega)]; exact h4⟩
theorem imin_nI {a b : Nat} (ha : a < 2 ^ 31) (hb : b < 2 ^ 31) : imin (nI a) (nI b) = nI (min a b) := by
  unfold imin
  by_cases h : nI b < nI a
  · rw [if_pos h]
    have := (nI_ltI hb ha).mp h
    congr 1
    omega
  · rw [if_neg h]
    have : ¬ b < a := fun q => h ((nI_ltI hb ha).mpr q)
    congr 1
    omega
theorem imax_nI {a b : Nat} (ha : a < 2 ^ 31) (hb : b < 2 ^ 31) : imax (nI a) (nI b) = nI (max a b) := by
  unfold imax
  by_cases h : nI a < nI b
  · rw [if_pos h]
    have := (nI_ltI ha hb).mp h
    congr 1
    omega
  · rw [if_neg h]
    have : ¬ a < b := fun q => h ((nI_ltI ha hb).mpr q)
    congr 1
    omega
section N14
variable {p : Program} {l : Launch} {e : Env} {R : Room} {s : State} {m : MethodId} {args : Array Value} {below : List Frame} {meth : Method} {c : Code} {H : Heap} {locs : List Loc} {cells slots : Nat} {Q : State → Prop}
variable {cc : ByteArray} {pc : Nat} {ls : Array Slot} {rest st0 : List Value} {D : va_G} {cI cQ cL : ClassId} {ad : Nat → Nat} {N : Nat} {F : Nat → va_E} {Ts : List Cond}
theorem n_mmin {a b : Nat} (ha : a < 2 ^ 31) (hb2 : b < 2 ^ 31) (hexec : p.tables.exec = Jvm.exec) (hb : c.code = cc) (hml : c.maxLocals = ls.size) {own : String} {index : Nat} (hown : s.vm.findClass own = some m.cls) (hlink : (Cond.methodLink own index Lib.Math.min.name).before args s = true) (hstat : (Cond.static Lib.Math.min.name).before args s = true) (hini : (Cond.initialized "java/lang/Math").before args s = true) (hcode : (Cond.code Lib.Math.min.name Lib.Math.min.code 2 (some .int)).before args s = true)
    (hframes : 1 ≤ R.frames) (hlocals : (rest.map fun v => v.category).sum + 13 ≤ R.locals) (hc : cells ≤ R.cells) (hs : slots ≤ R.slots) (hdg : decode cc pc = .ok (.invokestatic index, 3))
    (kk : W p l e R s m args below meth c H locs cells slots Q (F0 m (pc + 3) ls (.int (nI (min a b)) :: rest))) : W p l e R s m args below meth c H locs cells slots Q (F0 m pc ls (.int (nI b) :: .int (nI a) :: rest)) :=
  va_mmin hexec hb hml hown hlink hstat hini hcode hframes hlocals hc hs hdg (by rw [show (if nI b < nI a then nI b else nI a) = nI (min a b) from imin_nI ha hb2]; exact kk)
theorem aldq (hx : p.tables.exec = Jvm.exec) (hb : c.code = cc) (hK : va_K D vwCl (iT cI cQ cL) s) (hP : va_P D vwCl (iW ad N F) H) {k n : Nat} {f : Nat → Option Nat} {j a : Nat} (hk : k < N) (hF : F k = .inl (cQ, n, .inr (.inr (.inr (.inr f))))) (hj : j < n) (hn : n < 2 ^ 31) (hf : f j = some a) (hdg : decode cc pc = .ok (.aaload, 1))
    (kk : W p l e R s m args below meth c H locs cells slots Q (F0 m (pc + 1) ls (.ref a :: rest))) : W p l e R s m args below meth c H locs cells slots Q (F0 m pc ls (.int (nI j) :: .ref (ad k) :: rest)) := by
  refine va_aldq hx hb hK hP k 1 (iW_at hk hF) rfl (vp_in_nI hj hn) hdg ?_
  rw [nI_clamp (Nat.lt_trans hj hn), hf]
  exact kk
/-- behind a call of a static method that writes -/
theorem csW {nL index na mc ms : Nat} {own : String} {y : MethodName} {bytes : ByteArray} {maxL : Nat} {ret : Option FieldType} {ws : List Cond} {rm : Room} {As : List Value} {post : Option Value → (Nat → va_E) → Prop}
    (S : CallFix p m c cc nL s args Ts own) (hM : MX l y ws rm D cI cQ cL ad N F As post mc ms) (cw : CallB R s args own index y bytes maxL ret ws rm mc ms na ∧ (Cond.static y).before args s = true) (hDi : iD ad N) (hK : va_K D vwCl (iT cI cQ cL) s) (hP : va_P D vwCl (iW ad N F) H) (hNW : NW s) (hS : va_S (iA ad N s.heap.size) s.heap H locs)
    (hn : As.length = na) (hsize : ls.size = nL) (hstack : st0 = As.reverse ++ rest) (hW : (rest.map fun v => v.category).sum ≤ 8) (hf : cells + mc ≤ R.cells ∧ slots + ms ≤ R.slots) (hdg : decode cc pc = .ok (.invokestatic index, 3))
    (kk : ∀ (v : Option Value) (F' : Nat → va_E) (H1 : Heap) (locs1 : List Loc), post v F' → va_P D vwCl (iW ad N F') H1 → va_S (iA ad N s.heap.size) s.heap H1 locs1 → W p l e R s m args below meth c H1 locs1 (cells + mc) (slots + ms) Q (F0 m (pc + 3) ls (v.toList ++ rest))) : W p l e R s m args below meth c H locs cells slots Q (F0 m pc ls st0) :=
  cW (va_runS (g := F0 m pc ls st0) S (hM H.size) cw ⟨MX_blind, fun U hU hW => MX_pre hDi hK hP hNW hU hW⟩ rfl hn hsize hstack (lv_room hW) hdg hf) hS kk
theorem csDv {nL index na : Nat} {own : String} {y : MethodName} {bytes : ByteArray} {maxL : Nat} {ret : Option FieldType} {ws : List Cond} {rm : Room} {As : List Value} {G : Nat → va_E} (F' : Nat → va_E)
    (S : CallFix p m c cc nL s args Ts own) (hM : MX l y ws rm D cI cQ cL ad N F As (dp none G) 0 0) (cw : CallB R s args own index y bytes maxL ret ws rm 0 0 na ∧ (Cond.static y).before args s = true) (hDi : iD ad N) (hK : va_K D vwCl (iT cI cQ cL) s) (hP : va_P D vwCl (iW ad N F) H) (hNW : NW s) (hS : va_S (iA ad N s.heap.size) s.heap H locs)
    (hn : As.length = na) (hsize : ls.size = nL) (hstack : st0 = As.reverse ++ rest) (hW : (rest.map fun v => v.category).sum ≤ 8) (hf : cells + 0 ≤ R.cells ∧ slots + 0 ≤ R.slots) (hdg : decode cc pc = .ok (.invokestatic index, 3)) (hcan : G = F')
    (kk : ∀ (H1 : Heap) (locs1 : List Loc), va_P D vwCl (iW ad N F') H1 → va_S (iA ad N s.heap.size) s.heap H1 locs1 → W p l e R s m args below meth c H1 locs1 cells slots Q (F0 m (pc + 3) ls rest)) : W p l e R s m args below meth c H locs cells slots Q (F0 m pc ls st0) :=
  csW S hM cw hDi hK hP hNW hS hn hsize hstack hW hf hdg (fun v G9 H1 locs1 hp hP1 hS1 => by
    obtain ⟨rfl, rfl⟩ := hp
    exact kk H1 locs1 (by rw [← hcan]; exact hP1) hS1)
end N14
-- the text
def btw (x a b : Int32) : Bool := !(decide (x < a)) && !(decide (b < x))
def stb (s x : Int32) : Int32 := if s = nI 0 then (if x = nI 102 then nI 1 else if x = nI 108 then nI 4 else -1) else if s = nI 1 then (if btw x (nI 48) (nI 51) = true then nI 2 else -1) else if s = nI 2 then (if btw x (nI 48) (nI 55) = true then nI 3 else -1) else if s = nI 3 then (if btw x (nI 49) (nI 57) = true then nI 8 else -1) else if s = nI 4 then (if btw x (nI 97) (nI 109) = true then nI 5 else -1) else if s = nI 5 then (if btw x (nI 97) (nI 109) = true then nI 6 else -1) else if s = nI 6 then (if btw x (nI 49) (nI 54) = true then nI 7 else -1) else if s = nI 7 then (if btw x (nI 48) (nI 55) = true then nI 8 else -1) else if s = nI 8 then (if x = nI 59 then nI 0 else -1) else -1
def cod (a : Nat → Int32) (n i : Nat) : Int32 := if i < n then a i else nI 0
def sta (a : Nat → Int32) : Nat → Int32
  | 0 => nI 0
  | n + 1 => stb (sta a n) (a n)
/-- the first place, of n more from i on, behind which the text is none any more -/
def eri (a : Nat → Int32) : Nat → Nat → Int32 → Nat
  | 0, i, _ => i
  | n + 1, i, s => if stb s (a i) = -1 then i else eri a n (i + 1) (stb s (a i))
theorem eri_le (a : Nat → Int32) : ∀ (n i : Nat) (s : Int32), eri a n i s ≤ i + n
  | 0, i, _ => Nat.le_refl i
  | n + 1, i, s => by
    have h := eri_le a n (i + 1) (stb s (a i))
    simp only [eri]
    split <;> omega
-- the routes
def srI (m : Nat) (cell : Int32) : Nat → Nat → (Nat → Int32) → (Nat → Int32) → Nat → (Option Int32) × (Nat → Int32) × (Nat → Int32) × Nat
  | 0, _, d, q, n => (none, d, q, n)
  | i + 1, f, d, q, n =>
    if ldg cell (nI (f / 9)) (f % 9 + 1 + m) = nI 84 then (some (d (ix cell) + nI 1), d, q, n)
    else if ldg cell (nI (f / 9)) (f % 9 + 1 + m) = -1 then srI m cell i (f + 1) d q n
    else if ¬ d (ix (ldg cell (nI (f / 9)) (f % 9 + 1 + m))) = -1 then srI m cell i (f + 1) d q n
    else if ¬ n < 169 then srI m cell i (f + 1) d q n
    else srI m cell i (f + 1) (upd d (ix (ldg cell (nI (f / 9)) (f % 9 + 1 + m))) (d (ix cell) + nI 1)) (upd q n (ldg cell (nI (f / 9)) (f % 9 + 1 + m))) (n + 1)
def srO (m : Nat) : Nat → Nat → (Nat → Int32) → (Nat → Int32) → Nat → Int32 × (Nat → Int32) × (Nat → Int32)
  | 0, _, d, q, _ => (-1, d, q)
  | i + 1, k, d, q, n => if ¬ (k < n ∧ k < 169) then (-1, d, q) else match (srI m (q k) 72 0 d q n).1 with
    | some r => (r, (srI m (q k) 72 0 d q n).2.1, (srI m (q k) 72 0 d q n).2.2.1)
    | none => srO m i (k + 1) (srI m (q k) 72 0 d q n).2.1 (srI m (q k) 72 0 d q n).2.2.1 (srI m (q k) 72 0 d q n).2.2.2
def srD (w : Nat) : Nat → Int32 := upd (fun _ => -1) w (nI 0)
def sea (q : Nat → Int32) (w m : Nat) : Int32 × (Nat → Int32) × (Nat → Int32) := srO m 170 0 (srD w) (upd q 0 (nI w)) 1
def cell9 (x : Int32) : Prop := ∃ j : Nat, j < 169 ∧ x = nI j
theorem cat_on {x y : Int32} (h : on x y = true) : cell9 (cat x y) := by
  simp only [on, Bool.and_eq_true, Bool.not_eq_true', decide_eq_false_iff_not] at h
  obtain ⟨⟨h1, h2⟩, h3, h4⟩ := h
  obtain ⟨i, hi, rfl⟩ := nI_of h1
  obtain ⟨j, hj, rfl⟩ := nI_of h3
  have hi2 : i < 13 := Nat.not_le.mp fun q => h2 ((nI_leI (by decide) hi).mpr q)
  have hj2 : j < 13 := Nat.not_le.mp fun q => h4 ((nI_leI (by decide) hj).mpr q)
  exact ⟨13 * j + i, by omega, by rw [cat, pk_mul, nI_add]⟩
theorem ldL_cell : ∀ (n : Nat) (x y u v : Int32) (b : Bool), on x y = true → ldL n x y u v b = -1 ∨ cell9 (ldL n x y u v b)
  | 0, x, y, _, _, _, h => Or.inr (cat_on h)
  | n + 1, x, y, u, v, b, h => by
    simp only [ldL]
    by_cases h1 : on (x + u) (y + v) = true
    · rw [if_pos h1]
      exact ldL_cell n _ _ _ _ _ h1
    · rw [if_neg h1]
      split
      · exact Or.inl rfl
      · split
        · next h2 => exact ldL_cell n _ _ _ _ _ h2
        · exact Or.inl rfl
theorem ldg_cell {q : Int32} (h : cell9 q) (d : Int32) (f : Nat) : ldg q d f = -1 ∨ cell9 (ldg q d f) := by
  obtain ⟨j, hj, rfl⟩ := h
  refine ldL_cell f _ _ _ _ _ ?_
  rw [pk_rem (by omega) (by decide) (by decide), pk_div (by omega) (by decide) (by decide)]
  have h1 : j % 13 < 13 := Nat.mod_lt _ (by decide)
  have h2 : j / 13 < 13 := by omega
  have z1 : ¬ nI (j % 13) < 0 := nI_pos (by omega)
  have z2 : ¬ nI (j / 13) < 0 := nI_pos (by omega)
  have z3 : ¬ nI 13 ≤ nI (j % 13) := fun q => absurd ((nI_leI (by decide) (by omega)).mp q) (by omega)
  have z4 : ¬ nI 13 ≤ nI (j / 13) := fun q => absurd ((nI_leI (by decide) (by omega)).mp q) (by omega)
  simp [on, z1, z2, z3, z4]
theorem cell9_ix {x : Int32} (h : cell9 x) : x = nI (ix x) ∧ ix x < 169 := by
  obtain ⟨j, hj, rfl⟩ := h
  rw [ix_nI (by omega)]
  exact ⟨rfl, hj⟩
