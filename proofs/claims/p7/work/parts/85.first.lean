/-! the first state -/
theorem rw_c : ∀ w, w < 16 → mC 16 w = row0 w := by decide +kernel
def FM (cI cQ cL : ClassId) (b0 : Nat) : Nat → va_E := mSet cI (FL cI cQ cL b0) 2 row0 (mB 16) (mV 16)
theorem FM_of {D : va_G} {cI cQ cL : ClassId} {b0 : Nat} {H : Heap} (hP : va_P D vwCl (iW (pb b0) 86 (FL cI cQ cL b0)) H) : va_P D vwCl (iW (pb b0) 86 (FM cI cQ cL b0)) H := by
  refine iW_ext hP (fun k hk => ?_)
  by_cases h3 : k = 3
  · subst h3
    exact Or.inr ⟨cI, 16, mC 16, row0, rfl, rfl, fun j hj => rw_c j hj⟩
  · refine Or.inl ?_
    by_cases h4 : k = 4
    · subst h4; rfl
    · by_cases h5 : k = 5
      · subst h5; rfl
      · exact (mSet_out (by omega)).symm
section FMS
variable {cI cQ cL : ClassId} {b0 : Nat}
theorem fm_N : stAt cI (pb b0) (FM cI cQ cL b0) 1 row0 (mB 16) (mV 16) z0 z0 z0 (nI 0) (nI 0) (nI 3) := ⟨rfl, ⟨rfl, rfl, rfl, rfl⟩, rfl, rfl, rfl⟩
theorem fm_S : stAt cI (pb b0) (FM cI cQ cL b0) 9 (mC 16) (mB 16) (mV 16) z0 z0 z0 (nI 0) (nI 0) (nI 3) := ⟨rfl, ⟨rfl, rfl, rfl, rfl⟩, rfl, rfl, rfl⟩
theorem fm_P : paAt cQ (pb b0) (FM cI cQ cL b0) 17 0 0 := ⟨rfl, rfl⟩
theorem fm_R : stAt cI (pb b0) (FM cI cQ cL b0) 19 (mC 16) (mB 16) (mV 16) z0 z0 z0 (nI 0) (nI 0) (nI 3) := ⟨rfl, ⟨rfl, rfl, rfl, rfl⟩, rfl, rfl, rfl⟩
theorem fm_T : gtAt cI (pb b0) (FM cI cQ cL b0) 67 z0 0 := ⟨rfl, rfl⟩
theorem fm_M : matAt cI (pb b0) (FM cI cQ cL b0) 69 (mC 16) (mB 16) (mV 16) := ⟨rfl, rfl, rfl, rfl⟩
theorem fm_O : roAt cI (pb b0) (FM cI cQ cL b0) 73 z0 z0 z0 := ⟨rfl, rfl, rfl, rfl⟩
theorem fm_0 : FM cI cQ cL b0 0 = .inr (5, [.ref (pb b0 1), .ref (pb b0 9), .ref (pb b0 17), .ref (pb b0 67), .ref (pb b0 69), .ref (pb b0 73), .int (bI false)]) := rfl
theorem fm_85 : FM cI cQ cL b0 85 = .inl (cL, 1, .inr (.inl (fun _ => 0))) := rfl
theorem fm_r : rfAt cI (pb b0) (FM cI cQ cL b0) 77 row0 z0 z0 z0 z0 z0 z0 false 0 0 0 (nI 0) := ⟨rfl, rfl, rfl, rfl, rfl, rfl, rfl, rfl⟩
end FMS
def N0 (q : Nat) : Nat := if q = 0 ∨ q = 12 ∨ q = 168 ∨ q = 156 then 4 else 0
def W0 (q i : Nat) : Nat := (if q = 0 then 0 else if q = 12 then 4 else if q = 168 then 8 else 12) + i
theorem N0_i {q i : Nat} (h : i < N0 q) : i < 4 ∧ (q = 0 ∨ q = 12 ∨ q = 168 ∨ q = 156) := by
  unfold N0 at h
  by_cases hq : q = 0 ∨ q = 12 ∨ q = 168 ∨ q = 156
  · rw [if_pos hq] at h
    exact ⟨h, hq⟩
  · rw [if_neg hq] at h
    omega
theorem f0_c : ∀ i, i < 4 → (row0 (W0 0 i) = nI 0 ∧ row0 (W0 12 i) = nI 12 ∧ row0 (W0 168 i) = nI 168 ∧ row0 (W0 156 i) = nI 156) := by decide +kernel
theorem f0_b : ∀ i, i < 4 → ∀ q, q < 169 → (q = 0 ∨ q = 12 ∨ q = 168 ∨ q = 156) → (mB 16 (W0 q i) = if i = 0 then -1 else nI (W0 q (i - 1))) ∧ (mV 16 (W0 q i) = if i + 1 < 4 then nI (W0 q (i + 1)) else -1) ∧ row0 (16 + W0 q i) = nI i := by decide +kernel
theorem f0_m : ∀ w, w < 16 → row0 w ≠ -1 := by decide +kernel
theorem f0_o : (∀ w, w < 16 → z0 w = row0 (32 + w)) ∧ (∀ i, i < 4 → z0 i = row0 (48 + i)) ∧ nI 0 = row0 59 ∧ nI 3 = row0 57 ∧ smi z0 16 = row0 58 ∧ (∀ i, i < 4 → row0 (52 + i) = nI 0) ∧ row0 56 = nI 0 := by decide +kernel
theorem f0_w : ∀ w, w < 16 → W0 (bs (w / 4)) (w % 4) = w ∧ N0 (bs (w / 4)) = 4 := by decide +kernel
theorem Pos_0 : Pos row0 (mB 16) (mV 16) z0 z0 z0 0 (nI 0) (nI 3) N0 W0 := by
  obtain ⟨o1, o2, o3, o4, o5, o6, o7⟩ := f0_o
  refine ⟨⟨fun q i hi => ?_, fun q i j hi hj hw => ?_, fun w hw => Or.inr ⟨bs (w / 4), w % 4, by rw [(f0_w w hw).2]; omega, (f0_w w hw).1⟩⟩, ⟨fun q i hi => ?_, fun q i hi => ?_, fun w hw hm => absurd hm (f0_m w hw)⟩, ⟨fun q i hi => ?_, fun w hw hm => absurd hm (f0_m w hw)⟩, o1, o2, o3, o4, o5, by decide, ?_, fun i hi => Or.inl (o6 i hi), fun _ => ⟨o7.symm, o6 0 (by decide), fun i hi => by rw [o6 i hi]; rfl⟩⟩
  · obtain ⟨h1, h2⟩ := N0_i hi
    obtain ⟨a1, a2, a3, a4⟩ := f0_c i h1
    rcases h2 with rfl | rfl | rfl | rfl
    · exact ⟨by unfold W0; simp; omega, by decide, by decide, a1⟩
    · exact ⟨by unfold W0; simp; omega, by decide, by decide, a2⟩
    · exact ⟨by unfold W0; simp; omega, by decide, by decide, a3⟩
    · exact ⟨by unfold W0; simp; omega, by decide, by decide, a4⟩
  · unfold W0 at hw
    omega
  · obtain ⟨h1, h2⟩ := N0_i hi
    exact (f0_b i h1 q (by omega) h2).1
  · obtain ⟨h1, h2⟩ := N0_i hi
    have h3 := (f0_b i h1 q (by omega) h2).2.1
    rw [show N0 q = 4 by unfold N0; rw [if_pos h2]]
    exact h3
  · obtain ⟨h1, h2⟩ := N0_i hi
    exact (f0_b i h1 q (by omega) h2).2.2
  · unfold rTu
    rw [o7]
    exact ⟨by decide, by decide⟩
theorem INV_0 {cI cQ cL : ClassId} {b0 : Nat} : INV cI cQ cL (pb b0) (FM cI cQ cL b0) := by
  have hS : ∀ k, stAt cI (pb b0) (FM cI cQ cL b0) k (mC 16) (mB 16) (mV 16) z0 z0 z0 (nI 0) (nI 0) (nI 3) → SP cI (pb b0) (FM cI cQ cL b0) k row0 := fun k h => ⟨mC 16, mB 16, mV 16, z0, z0, z0, 0, nI 0, nI 3, N0, W0, h, Pos_0, rw_c⟩
  refine ⟨row0, z0, z0, z0, z0, z0, z0, false, 0, 0, 0, nI 0, fm_r, ⟨⟨row0, mB 16, mV 16, z0, z0, z0, 0, nI 0, nI 3, N0, W0, fm_N, Pos_0, fun _ _ => rfl⟩, ⟨⟨row0, hS 9 fm_S⟩, fun h => absurd h (by decide)⟩, ⟨0, by decide, by decide, fm_P, fun i hi => ⟨row0, hS _ ?_⟩, fun k hk => absurd hk (Nat.not_lt_zero k)⟩, ⟨by decide, z0, fm_T, fun x hx => absurd hx (Nat.not_lt_zero x)⟩, ⟨⟨_, _, _, fm_M⟩, z0, z0, z0, fm_O, KNa_0 (fun _ _ => rfl)⟩, fm_0⟩, _, fm_85⟩
  match i, hi with
  | 0, _ => exact ⟨rfl, ⟨rfl, rfl, rfl, rfl⟩, rfl, rfl, rfl⟩
  | 1, _ => exact ⟨rfl, ⟨rfl, rfl, rfl, rfl⟩, rfl, rfl, rfl⟩
  | 2, _ => exact ⟨rfl, ⟨rfl, rfl, rfl, rfl⟩, rfl, rfl, rfl⟩
  | 3, _ => exact ⟨rfl, ⟨rfl, rfl, rfl, rfl⟩, rfl, rfl, rfl⟩
  | 4, _ => exact ⟨rfl, ⟨rfl, rfl, rfl, rfl⟩, rfl, rfl, rfl⟩
  | 5, _ => exact ⟨rfl, ⟨rfl, rfl, rfl, rfl⟩, rfl, rfl, rfl⟩
  | i + 6, h => exact absurd h (by omega)
theorem STwE_eqv {l : Launch} {D : va_G} {cI cQ cL : ClassId} {ad : Nat → Nat} {yL : MethodName} {bL : ByteArray} {mL : Nat} {hh : List (Nat × Nat × Nat × Nat)} {y6 : MethodName} {b6 : ByteArray} {m6 : Nat} {F F' : Nat → va_E} {INV : (Nat → va_E) → Prop} {As : List Value} (q : eqv 86 F F') (h : STwE l D cI cQ cL ad 86 yL bL mL hh y6 b6 m6 F' INV As) : STwE l D cI cQ cL ad 86 yL bL mL hh y6 b6 m6 F INV As := by
  obtain ⟨kk, PG, hM, hr⟩ := h
  exact ⟨kk, PG, MLE_eqv hM q, hr⟩
theorem STw0E_eqv {l : Launch} {D : va_G} {cI cQ cL : ClassId} {ad : Nat → Nat} {yL : MethodName} {bL : ByteArray} {mL : Nat} {hh : List (Nat × Nat × Nat × Nat)} {y6 : MethodName} {b6 : ByteArray} {m6 : Nat} {F F' : Nat → va_E} {INV : (Nat → va_E) → Prop} {As : List Value} (q : eqv 86 F F') (h : STw0E l D cI cQ cL ad 86 yL bL mL hh y6 b6 m6 F' INV As) : STw0E l D cI cQ cL ad 86 yL bL mL hh y6 b6 m6 F INV As := by
  obtain ⟨kk, PG, hM, hr⟩ := h
  exact ⟨kk, PG, MLE_eqv hM q, hr⟩
theorem STw0_eqv {l : Launch} {D : va_G} {cI cQ cL : ClassId} {ad : Nat → Nat} {yL : MethodName} {bL : ByteArray} {mL : Nat} {hh : List (Nat × Nat × Nat × Nat)} {y6 : MethodName} {b6 : ByteArray} {m6 : Nat} {F F' : Nat → va_E} {INV : (Nat → va_E) → Prop} {As : List Value} (q : eqv 86 F F') (h : STw0 l D cI cQ cL ad 86 yL bL mL hh y6 b6 m6 F' INV As) : STw0 l D cI cQ cL ad 86 yL bL mL hh y6 b6 m6 F INV As := by
  obtain ⟨kk, F1, fs, post, rm6, hM, hr⟩ := h
  exact ⟨kk, F1, fs, post, rm6, ML_eqv hM q, hr⟩
theorem STw_eqv {l : Launch} {D : va_G} {cI cQ cL : ClassId} {ad : Nat → Nat} {yL : MethodName} {bL : ByteArray} {mL : Nat} {hh : List (Nat × Nat × Nat × Nat)} {y6 : MethodName} {b6 : ByteArray} {m6 : Nat} {F F' : Nat → va_E} {INV : (Nat → va_E) → Prop} {As : List Value} (q : eqv 86 F F') (h : STw l D cI cQ cL ad 86 yL bL mL hh y6 b6 m6 F' INV As) : STw l D cI cQ cL ad 86 yL bL mL hh y6 b6 m6 F INV As := by
  obtain ⟨kk, b, F1, o, fs, post, rm6, h1, h2, h3, hM, hr⟩ := h
  exact ⟨kk, b, F1, o, fs, post, rm6, h1, h2, h3, ML_eqv hM q, hr⟩
theorem STs_eqv {l : Launch} {D : va_G} {cI cQ cL : ClassId} {ad : Nat → Nat} {y5 : MethodName} {b5 : ByteArray} {m5 : Nat} {y6 : MethodName} {b6 : ByteArray} {m6 : Nat} {ty : FieldType} {ok : Value → Prop} {F F' : Nat → va_E} {INV : (Nat → va_E) → Prop} (q : eqv 86 F F') (q0 : F' 0 = F 0) (h : STs l D cI cQ cL ad 86 y5 b5 m5 y6 b6 m6 ty ok F' INV) : STs l D cI cQ cL ad 86 y5 b5 m5 y6 b6 m6 ty ok F INV := by
  obtain ⟨b, F1, f5, f6, post, rm5, rm6, h1, h2, hM, hr⟩ := h
  exact ⟨b, F1, f5, f6, post, rm5, rm6, h1, q0.symm.trans h2, MX_eqv hM q, hr⟩
theorem STs0_eqv {l : Launch} {D : va_G} {cI cQ cL : ClassId} {ad : Nat → Nat} {y5 : MethodName} {b5 : ByteArray} {m5 : Nat} {y6 : MethodName} {b6 : ByteArray} {m6 : Nat} {ty : FieldType} {ok : Value → Prop} {F F' : Nat → va_E} {INV : (Nat → va_E) → Prop} (q : eqv 86 F F') (q0 : F' 0 = F 0) (h : STs0 l D cI cQ cL ad 86 y5 b5 m5 y6 b6 m6 ty ok F' INV) : STs0 l D cI cQ cL ad 86 y5 b5 m5 y6 b6 m6 ty ok F INV := by
  obtain ⟨b, F1, f5, f6, post, rm5, rm6, h1, h2, hM, hr⟩ := h
  exact ⟨b, F1, f5, f6, post, rm5, rm6, h1, q0.symm.trans h2, MX_eqv hM q, hr⟩
