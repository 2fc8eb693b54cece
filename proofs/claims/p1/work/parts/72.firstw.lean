def FM (cI cQ cL : ClassId) (b0 : Nat) : Nat → va_E := mSet cI (FL cI cQ cL b0) 2 row0 (mB 16) (mV 16)
theorem FM_of {D : va_G} {cI cQ cL : ClassId} {b0 : Nat} {H : Heap} (hP : va_P D vwCl (iW (pb b0) 86 (FL cI cQ cL b0)) H) : va_P D vwCl (iW (pb b0) 86 (FM cI cQ cL b0)) H := by
  refine iW_ext hP (fun k hk => ?_)
  by_cases h3 : k = 3
  · subst h3
    exact Or.inr ⟨cI, 16, mC 16, row0, rfl, rfl, fun j hj => rw_c j hj⟩
  · refine Or.inl ?_
    by_cases h4 : k = 4
    · subst h4; rfl
    · by_cases h5 : k = 5
      · subst h5; rfl
      · exact (mSet_out (by omega)).symm
section FMS
variable {cI cQ cL : ClassId} {b0 : Nat}
theorem fm_N : stAt cI (pb b0) (FM cI cQ cL b0) 1 row0 (mB 16) (mV 16) z0 z0 z0 (nI 0) (nI 0) (nI 3) := ⟨rfl, ⟨rfl, rfl, rfl, rfl⟩, rfl, rfl, rfl⟩
theorem fm_S : stAt cI (pb b0) (FM cI cQ cL b0) 9 (mC 16) (mB 16) (mV 16) z0 z0 z0 (nI 0) (nI 0) (nI 3) := ⟨rfl, ⟨rfl, rfl, rfl, rfl⟩, rfl, rfl, rfl⟩
theorem fm_P : paAt cQ (pb b0) (FM cI cQ cL b0) 17 0 0 := ⟨rfl, rfl⟩
theorem fm_R : stAt cI (pb b0) (FM cI cQ cL b0) 19 (mC 16) (mB 16) (mV 16) z0 z0 z0 (nI 0) (nI 0) (nI 3) := ⟨rfl, ⟨rfl, rfl, rfl, rfl⟩, rfl, rfl, rfl⟩
theorem fm_T : gtAt cI (pb b0) (FM cI cQ cL b0) 67 z0 0 := ⟨rfl, rfl⟩
theorem fm_M : matAt cI (pb b0) (FM cI cQ cL b0) 69 (mC 16) (mB 16) (mV 16) := ⟨rfl, rfl, rfl, rfl⟩
theorem fm_O : roAt cI (pb b0) (FM cI cQ cL b0) 73 z0 z0 z0 := ⟨rfl, rfl, rfl, rfl⟩
theorem fm_0 : FM cI cQ cL b0 0 = .inr (5, [.ref (pb b0 1), .ref (pb b0 9), .ref (pb b0 17), .ref (pb b0 67), .ref (pb b0 69), .ref (pb b0 73), .int (bI false)]) := rfl
theorem fm_85 : FM cI cQ cL b0 85 = .inl (cL, 1, .inr (.inl (fun _ => 0))) := rfl
theorem fm_r : rfAt cI (pb b0) (FM cI cQ cL b0) 77 row0 z0 z0 z0 z0 z0 z0 false 0 0 0 (nI 0) := ⟨rfl, rfl, rfl, rfl, rfl, rfl, rfl, rfl⟩
end FMS
