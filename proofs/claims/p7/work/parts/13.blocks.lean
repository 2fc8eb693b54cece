def gtAt (cI : ClassId) (ad : Nat → Nat) (F : Nat → va_E) (k : Nat) (a : Nat → Int32) (n : Nat) : Prop := F k = .inr (0, [.ref (ad (k + 1)), .int (nI n)]) ∧ F (k + 1) = .inl (cI, 60, .inl a)
def gtSet (cI : ClassId) (ad : Nat → Nat) (F : Nat → va_E) (k : Nat) (a : Nat → Int32) (n : Nat) : Nat → va_E := fun i => if i = k then .inr (0, [.ref (ad (k + 1)), .int (nI n)]) else if i = k + 1 then .inl (cI, 60, .inl a) else F i
section
variable {cI : ClassId} {ad : Nat → Nat} {F : Nat → va_E} {k : Nat} {a : Nat → Int32} {n : Nat} {a' : Nat → Int32} {n' : Nat}
theorem gtSet_self (H : gtAt cI ad F k a n) : gtSet cI ad F k a n = F := by
  funext i
  obtain ⟨h0, h1⟩ := H
  unfold gtSet
  by_cases e0 : i = k
  · rw [if_pos e0, e0, h0]
  rw [if_neg e0]
  by_cases e1 : i = k + 1
  · rw [if_pos e1, e1, h1]
  rw [if_neg e1]
theorem gtSet_out {i : Nat} (hi : i < k ∨ k + 1 < i) : gtSet cI ad F k a n i = F i := by
  unfold gtSet
  rw [if_neg (by omega), if_neg (by omega)]
theorem gtSet_at : gtAt cI ad (gtSet cI ad F k a n) k a n := by
  refine ⟨?_, ?_⟩
  · simp [gtSet]
  · simp [gtSet]
theorem gtSet_gtSet : gtSet cI ad (gtSet cI ad F k a n) k a' n' = gtSet cI ad F k a' n' := by
  funext i
  by_cases e0 : i = k
  · simp [gtSet, e0]
  by_cases e1 : i = k + 1
  · simp [gtSet, e1]
  simp [gtSet, e0, e1]
theorem gtSet_u0 : va_up (gtSet cI ad F k a n) (k) (.inr (0, [.ref (ad (k + 1)), .int (nI n')])) = gtSet cI ad F k a n' := by
  funext i
  by_cases e0 : i = k
  · simp [va_up, gtSet, e0]
  by_cases e1 : i = k + 1
  · simp [va_up, gtSet, e1]
  simp [va_up, gtSet, e0, e1]
theorem gtSet_u1 : va_up (gtSet cI ad F k a n) (k + 1) (.inl (cI, 60, .inl a')) = gtSet cI ad F k a' n := by
  funext i
  by_cases e0 : i = k
  · simp [va_up, gtSet, e0]
  by_cases e1 : i = k + 1
  · simp [va_up, gtSet, e1]
  simp [va_up, gtSet, e0, e1]
theorem gtAt_keep {G : Nat → va_E} (H : gtAt cI ad F k a n) (hG : ∀ i, k ≤ i → i ≤ k + 1 → G i = F i) : gtAt cI ad G k a n := by
  obtain ⟨h0, h1⟩ := H
  exact ⟨by rw [hG _ (by omega) (by omega)]; exact h0, by rw [hG _ (by omega) (by omega)]; exact h1⟩
end
def paAt (cQ : ClassId) (ad : Nat → Nat) (F : Nat → va_E) (k : Nat) (n : Nat) (m : Nat) : Prop := F k = .inr (2, [.ref (ad (k + 1)), .int (nI n), .int (nI m)]) ∧ F (k + 1) = .inl (cQ, 6, .inr (.inr (.inr (.inr (fun i9 => some (ad (k + 2 + 8 * i9)))))))
def paSet (cQ : ClassId) (ad : Nat → Nat) (F : Nat → va_E) (k : Nat) (n : Nat) (m : Nat) : Nat → va_E := fun i => if i = k then .inr (2, [.ref (ad (k + 1)), .int (nI n), .int (nI m)]) else if i = k + 1 then .inl (cQ, 6, .inr (.inr (.inr (.inr (fun i9 => some (ad (k + 2 + 8 * i9))))))) else F i
section
variable {cQ : ClassId} {ad : Nat → Nat} {F : Nat → va_E} {k : Nat} {n : Nat} {m : Nat} {n' : Nat} {m' : Nat}
theorem paSet_self (H : paAt cQ ad F k n m) : paSet cQ ad F k n m = F := by
  funext i
  obtain ⟨h0, h1⟩ := H
  unfold paSet
  by_cases e0 : i = k
  · rw [if_pos e0, e0, h0]
  rw [if_neg e0]
  by_cases e1 : i = k + 1
  · rw [if_pos e1, e1, h1]
  rw [if_neg e1]
theorem paSet_out {i : Nat} (hi : i < k ∨ k + 1 < i) : paSet cQ ad F k n m i = F i := by
  unfold paSet
  rw [if_neg (by omega), if_neg (by omega)]
theorem paSet_at : paAt cQ ad (paSet cQ ad F k n m) k n m := by
  refine ⟨?_, ?_⟩
  · simp [paSet]
  · simp [paSet]
theorem paSet_paSet : paSet cQ ad (paSet cQ ad F k n m) k n' m' = paSet cQ ad F k n' m' := by
  funext i
  by_cases e0 : i = k
  · simp [paSet, e0]
  by_cases e1 : i = k + 1
  · simp [paSet, e1]
  simp [paSet, e0, e1]
theorem paSet_u0 : va_up (paSet cQ ad F k n m) (k) (.inr (2, [.ref (ad (k + 1)), .int (nI n'), .int (nI m')])) = paSet cQ ad F k n' m' := by
  funext i
  by_cases e0 : i = k
  · simp [va_up, paSet, e0]
  by_cases e1 : i = k + 1
  · simp [va_up, paSet, e1]
  simp [va_up, paSet, e0, e1]
theorem paAt_keep {G : Nat → va_E} (H : paAt cQ ad F k n m) (hG : ∀ i, k ≤ i → i ≤ k + 1 → G i = F i) : paAt cQ ad G k n m := by
  obtain ⟨h0, h1⟩ := H
  exact ⟨by rw [hG _ (by omega) (by omega)]; exact h0, by rw [hG _ (by omega) (by omega)]; exact h1⟩
end
def roAt (cI : ClassId) (ad : Nat → Nat) (F : Nat → va_E) (k : Nat) (a : Nat → Int32) (d : Nat → Int32) (q : Nat → Int32) : Prop := F k = .inr (3, [.ref (ad (k + 1)), .ref (ad (k + 2)), .ref (ad (k + 3))]) ∧ F (k + 1) = .inl (cI, 338, .inl a) ∧ F (k + 2) = .inl (cI, 169, .inl d) ∧ F (k + 3) = .inl (cI, 169, .inl q)
def roSet (cI : ClassId) (ad : Nat → Nat) (F : Nat → va_E) (k : Nat) (a : Nat → Int32) (d : Nat → Int32) (q : Nat → Int32) : Nat → va_E := fun i => if i = k then .inr (3, [.ref (ad (k + 1)), .ref (ad (k + 2)), .ref (ad (k + 3))]) else if i = k + 1 then .inl (cI, 338, .inl a) else if i = k + 2 then .inl (cI, 169, .inl d) else if i = k + 3 then .inl (cI, 169, .inl q) else F i
section
variable {cI : ClassId} {ad : Nat → Nat} {F : Nat → va_E} {k : Nat} {a : Nat → Int32} {d : Nat → Int32} {q : Nat → Int32} {a' : Nat → Int32} {d' : Nat → Int32} {q' : Nat → Int32}
theorem roSet_self (H : roAt cI ad F k a d q) : roSet cI ad F k a d q = F := by
  funext i
  obtain ⟨h0, h1, h2, h3⟩ := H
  unfold roSet
  by_cases e0 : i = k
  · rw [if_pos e0, e0, h0]
  rw [if_neg e0]
  by_cases e1 : i = k + 1
  · rw [if_pos e1, e1, h1]
  rw [if_neg e1]
  by_cases e2 : i = k + 2
  · rw [if_pos e2, e2, h2]
  rw [if_neg e2]
  by_cases e3 : i = k + 3
  · rw [if_pos e3, e3, h3]
  rw [if_neg e3]
theorem roSet_out {i : Nat} (hi : i < k ∨ k + 3 < i) : roSet cI ad F k a d q i = F i := by
  unfold roSet
  rw [if_neg (by omega), if_neg (by omega), if_neg (by omega), if_neg (by omega)]
theorem roSet_at : roAt cI ad (roSet cI ad F k a d q) k a d q := by
  refine ⟨?_, ?_, ?_, ?_⟩
  · simp [roSet]
  · simp [roSet]
  · simp [roSet]
  · simp [roSet]
theorem roSet_roSet : roSet cI ad (roSet cI ad F k a d q) k a' d' q' = roSet cI ad F k a' d' q' := by
  funext i
  by_cases e0 : i = k
  · simp [roSet, e0]
  by_cases e1 : i = k + 1
  · simp [roSet, e1]
  by_cases e2 : i = k + 2
  · simp [roSet, e2]
  by_cases e3 : i = k + 3
  · simp [roSet, e3]
  simp [roSet, e0, e1, e2, e3]
theorem roSet_u1 : va_up (roSet cI ad F k a d q) (k + 1) (.inl (cI, 338, .inl a')) = roSet cI ad F k a' d q := by
  funext i
  by_cases e0 : i = k
  · simp [va_up, roSet, e0]
  by_cases e1 : i = k + 1
  · simp [va_up, roSet, e1]
  by_cases e2 : i = k + 2
  · simp [va_up, roSet, e2]
  by_cases e3 : i = k + 3
  · simp [va_up, roSet, e3]
  simp [va_up, roSet, e0, e1, e2, e3]
theorem roSet_u2 : va_up (roSet cI ad F k a d q) (k + 2) (.inl (cI, 169, .inl d')) = roSet cI ad F k a d' q := by
  funext i
  by_cases e0 : i = k
  · simp [va_up, roSet, e0]
  by_cases e1 : i = k + 1
  · simp [va_up, roSet, e1]
  by_cases e2 : i = k + 2
  · simp [va_up, roSet, e2]
  by_cases e3 : i = k + 3
  · simp [va_up, roSet, e3]
  simp [va_up, roSet, e0, e1, e2, e3]
theorem roSet_u3 : va_up (roSet cI ad F k a d q) (k + 3) (.inl (cI, 169, .inl q')) = roSet cI ad F k a d q' := by
  funext i
  by_cases e0 : i = k
  · simp [va_up, roSet, e0]
  by_cases e1 : i = k + 1
  · simp [va_up, roSet, e1]
  by_cases e2 : i = k + 2
  · simp [va_up, roSet, e2]
  by_cases e3 : i = k + 3
  · simp [va_up, roSet, e3]
  simp [va_up, roSet, e0, e1, e2, e3]
theorem roAt_keep {G : Nat → va_E} (H : roAt cI ad F k a d q) (hG : ∀ i, k ≤ i → i ≤ k + 3 → G i = F i) : roAt cI ad G k a d q := by
  obtain ⟨h0, h1, h2, h3⟩ := H
  exact ⟨by rw [hG _ (by omega) (by omega)]; exact h0, by rw [hG _ (by omega) (by omega)]; exact h1, by rw [hG _ (by omega) (by omega)]; exact h2, by rw [hG _ (by omega) (by omega)]; exact h3⟩
end
