section RS0
variable {p : Program} {l : Launch} {e : Env} {R : Room} {s : State} {m : MethodId} {args : Array Value} {below : List Frame} {meth : Method} {c : Code} {H : Heap} {locs : List Loc} {cells slots : Nat} {Q : State → Prop}
variable {cc : ByteArray} {pc : Nat} {ls : Array Slot} {rest : List Value}
theorem n_iadd0 (hx : p.tables.exec = Jvm.exec) (hb : c.code = cc) {b : Nat} (hdg : decode cc pc = .ok (.iadd, 1)) (k : W p l e R s m args below meth c H locs cells slots Q (F0 m (pc + 1) ls (.int (nI b) :: rest))) : W p l e R s m args below meth c H locs cells slots Q (F0 m pc ls (.int (nI b) :: .int (nI 0) :: rest)) :=
  n_iadd hx hb hdg (by rw [Nat.zero_add]; exact k)
end RS0
theorem btw_of {x : Int32} {a m : Nat} (ha : a < 2 ^ 31) (hm : m < 2 ^ 31) (h : btw x (nI a) (nI m) = true) : ∃ j : Nat, x = nI j ∧ a ≤ j ∧ j ≤ m := by
  simp only [btw, Bool.and_eq_true, Bool.not_eq_true', decide_eq_false_iff_not] at h
  obtain ⟨h1, h2⟩ := h
  have h0 : ¬ x < 0 := by
    intro q
    apply h1
    rw [Int32.lt_iff_toInt_lt] at q ⊢
    rw [nI_toInt ha]
    have : (0 : Int32).toInt = 0 := rfl
    omega
  obtain ⟨j, hj, rfl⟩ := nI_of h0
  exact ⟨j, rfl, Nat.not_lt.mp fun q => h1 ((nI_ltI hj ha).mpr q), Nat.not_lt.mp fun q => h2 ((nI_ltI hm hj).mpr q)⟩
theorem btw_eq {x : Int32} {a m : Nat} (h : btw x (nI a) (nI m) = true) (ha : a < 2 ^ 31 := by decide) (hm : m < 2 ^ 31 := by decide) : x = nI (ix x) := by
  obtain ⟨j, rfl, h1, h2⟩ := btw_of ha hm h
  rw [ix_nI (by omega)]
theorem btw_le {x : Int32} {a m : Nat} (h : btw x (nI a) (nI m) = true) (ha : a < 2 ^ 31 := by decide) (hm : m < 2 ^ 31 := by decide) : a ≤ ix x ∧ ix x ≤ m := by
  obtain ⟨j, rfl, h1, h2⟩ := btw_of ha hm h
  rw [ix_nI (by omega)]
  exact ⟨h1, h2⟩
theorem btw_nI {j a m : Nat} (h : a ≤ j ∧ j ≤ m) (hm : m < 2 ^ 31 := by decide) : btw (nI j) (nI a) (nI m) = true := by
  have h1 : ¬ nI j < nI a := fun q => absurd ((nI_ltI (by omega) (by omega)).mp q) (by omega)
  have h2 : ¬ nI m < nI j := fun q => absurd ((nI_ltI (by omega) (by omega)).mp q) (by omega)
  simp [btw, h1, h2]
theorem btw_wk (x : Int32) : btw x (nI 0) (nI 15) = wk x := by
  rw [Bool.eq_iff_iff]
  constructor
  · intro h
    obtain ⟨j, rfl, h1, h2⟩ := btw_of (by decide) (by decide) h
    exact wk_nI (by omega)
  · intro h
    obtain ⟨j, hj, rfl⟩ := wk_of h
    exact btw_nI (by omega)
theorem lt13 (x : Int32) : (nI 12 < x) ↔ (nI 13 ≤ x) := by
  rw [Int32.lt_iff_toInt_lt, Int32.le_iff_toInt_le, nI_toInt (by decide), nI_toInt (by decide)]
  omega
theorem btw_on (x y : Int32) : (btw x (nI 0) (nI 12) && btw y (nI 0) (nI 12)) = on x y := by
  have e : ∀ z : Int32, decide (nI 12 < z) = decide (nI 13 ≤ z) := fun z => by simp only [lt13]
  simp only [btw, on, e]
  rfl
theorem on_tt {x y : Int32} (h1 : btw x (nI 0) (nI 12) = true) (h2 : btw y (nI 0) (nI 12) = true) : on x y = true := by rw [← btw_on, h1, h2]; rfl
theorem ldg_nI {q : Nat} (hq : q < 2 ^ 31) (d : Int32) (f : Nat) : ldg (nI q) d f = ldL f (nI (q % 13)) (nI (q / 13)) (ea d) (so d) false := by
  rw [ldg, pk_rem hq (by decide) (by decide), pk_div hq (by decide) (by decide)]
def rbs (q d : Nat) : Int32 := beside (nI (q % 13)) (nI (q / 13)) (nI d)
theorem bI_1 : bI true = nI 1 := rfl
theorem bI_00 : bI false = nI 0 := rfl
