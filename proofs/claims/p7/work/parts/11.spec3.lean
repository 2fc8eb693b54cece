theorem mSet_oth {cI : ClassId} {ad : Nat → Nat} {F : Nat → va_E} {k k2 : Nat} {c b v c' b' v' : Nat → Int32} (h : matAt cI ad F k2 c' b' v') (hd : k + 3 < k2 ∨ k2 + 3 < k) : matAt cI ad (mSet cI F k c b v) k2 c' b' v' := by
  obtain ⟨h0, h1, h2, h3⟩ := h
  refine ⟨?_, ?_, ?_, ?_⟩
  · rw [mSet_out (by omega)]; exact h0
  · rw [mSet_out (by omega)]; exact h1
  · rw [mSet_out (by omega)]; exact h2
  · rw [mSet_out (by omega)]; exact h3
-- a State: its mat, flights, fouls, lost turns, the turn, lifts, the setting
def stAt (cI : ClassId) (ad : Nat → Nat) (F : Nat → va_E) (k : Nat) (c b v g h j : Nat → Int32) (t u z : Int32) : Prop :=
  F k = .inr (4, [.ref (ad (k + 1)), .ref (ad (k + 5)), .ref (ad (k + 6)), .ref (ad (k + 7)), .int t, .int u, .int z]) ∧ matAt cI ad F (k + 1) c b v ∧ F (k + 5) = .inl (cI, 16, .inl g) ∧ F (k + 6) = .inl (cI, 4, .inl h) ∧ F (k + 7) = .inl (cI, 4, .inl j)
def sSet (cI : ClassId) (ad : Nat → Nat) (F : Nat → va_E) (k : Nat) (c b v g h j : Nat → Int32) (t u z : Int32) : Nat → va_E := fun i => if i = k then .inr (4, [.ref (ad (k + 1)), .ref (ad (k + 5)), .ref (ad (k + 6)), .ref (ad (k + 7)), .int t, .int u, .int z]) else if i = k + 5 then .inl (cI, 16, .inl g) else if i = k + 6 then .inl (cI, 4, .inl h) else if i = k + 7 then .inl (cI, 4, .inl j) else mSet cI F (k + 1) c b v i
section SS
variable {cI : ClassId} {ad : Nat → Nat} {F : Nat → va_E} {k : Nat} {c b v g h j c' b' v' g' h' j' : Nat → Int32} {t u z t' u' z' : Int32}
theorem sSet_self (H : stAt cI ad F k c b v g h j t u z) : sSet cI ad F k c b v g h j t u z = F := by
  funext i
  obtain ⟨h0, h1, h2, h3, h4⟩ := H
  unfold sSet
  split
  · next e => rw [e, h0]
  · split
    · next e => rw [e, h2]
    · split
      · next e => rw [e, h3]
      · split
        · next e => rw [e, h4]
        · rw [mSet_self h1]
theorem sSet_out {i : Nat} (hi : i < k ∨ k + 7 < i) : sSet cI ad F k c b v g h j t u z i = F i := by
  unfold sSet
  rw [if_neg (by omega), if_neg (by omega), if_neg (by omega), if_neg (by omega), mSet_out (by omega)]
theorem sSet_at (H : stAt cI ad F k c b v g h j t u z) : stAt cI ad (sSet cI ad F k c' b' v' g' h' j' t' u' z') k c' b' v' g' h' j' t' u' z' := by
  obtain ⟨-, ⟨h1, -, -, -⟩, -, -, -⟩ := H
  refine ⟨by simp [sSet], ⟨?_, ?_, ?_, ?_⟩, by simp [sSet], by simp [sSet], by simp [sSet]⟩
  · simp [sSet, mSet, h1]
  · simp [sSet, mSet]; omega
  · simp [sSet, mSet]; omega
  · simp [sSet, mSet]; omega
theorem sSet_sSet : sSet cI ad (sSet cI ad F k c b v g h j t u z) k c' b' v' g' h' j' t' u' z' = sSet cI ad F k c' b' v' g' h' j' t' u' z' := by
  funext i
  simp only [sSet]
  by_cases e0 : i = k
  · rw [if_pos e0, if_pos e0]
  rw [if_neg e0, if_neg e0]
  by_cases e1 : i = k + 5
  · rw [if_pos e1, if_pos e1]
  rw [if_neg e1, if_neg e1]
  by_cases e2 : i = k + 6
  · rw [if_pos e2, if_pos e2]
  rw [if_neg e2, if_neg e2]
  by_cases e3 : i = k + 7
  · rw [if_pos e3, if_pos e3]
  rw [if_neg e3, if_neg e3]
  simp only [mSet]
  by_cases e4 : i = k + 1 + 1
  · rw [if_pos e4, if_pos e4]
  rw [if_neg e4, if_neg e4]
  by_cases e5 : i = k + 1 + 2
  · rw [if_pos e5, if_pos e5]
  rw [if_neg e5, if_neg e5]
  by_cases e6 : i = k + 1 + 3
  · rw [if_pos e6, if_pos e6]
  rw [if_neg e6, if_neg e6]
  simp only [sSet, mSet]
  rw [if_neg e0, if_neg e1, if_neg e2, if_neg e3, if_neg e4, if_neg e5, if_neg e6]
theorem sSet_m : mSet cI (sSet cI ad F k c b v g h j t u z) (k + 1) c' b' v' = sSet cI ad F k c' b' v' g h j t u z := by
  funext i
  simp only [sSet, mSet]
  repeat' split
  all_goals first | rfl | omega
theorem sSet_g : va_up (sSet cI ad F k c b v g h j t u z) (k + 5) (.inl (cI, 16, .inl g')) = sSet cI ad F k c b v g' h j t u z := by
  funext i
  simp only [va_up, sSet]
  repeat' split
  all_goals first | rfl | omega
theorem sSet_h : va_up (sSet cI ad F k c b v g h j t u z) (k + 6) (.inl (cI, 4, .inl h')) = sSet cI ad F k c b v g h' j t u z := by
  funext i
  simp only [va_up, sSet]
  repeat' split
  all_goals first | rfl | omega
theorem sSet_j : va_up (sSet cI ad F k c b v g h j t u z) (k + 7) (.inl (cI, 4, .inl j')) = sSet cI ad F k c b v g h j' t u z := by
  funext i
  simp only [va_up, sSet]
  repeat' split
  all_goals first | rfl | omega
theorem sSet_0 : va_up (sSet cI ad F k c b v g h j t u z) k (.inr (4, [.ref (ad (k + 1)), .ref (ad (k + 5)), .ref (ad (k + 6)), .ref (ad (k + 7)), .int t', .int u', .int z'])) = sSet cI ad F k c b v g h j t' u' z' := by
  funext i
  simp only [va_up, sSet]
  repeat' split
  all_goals first | rfl | omega
theorem sSet_oth {k2 : Nat} (H : stAt cI ad F k2 c' b' v' g' h' j' t' u' z') (hd : k + 7 < k2 ∨ k2 + 7 < k) : stAt cI ad (sSet cI ad F k c b v g h j t u z) k2 c' b' v' g' h' j' t' u' z' := by
  obtain ⟨h0, ⟨h1, h2, h3, h4⟩, h5, h6, h7⟩ := H
  refine ⟨?_, ⟨?_, ?_, ?_, ?_⟩, ?_, ?_, ?_⟩
  · rw [sSet_out (by omega)]; exact h0
  · rw [sSet_out (by omega)]; exact h1
  · rw [sSet_out (by omega)]; exact h2
  · rw [sSet_out (by omega)]; exact h3
  · rw [sSet_out (by omega)]; exact h4
  · rw [sSet_out (by omega)]; exact h5
  · rw [sSet_out (by omega)]; exact h6
  · rw [sSet_out (by omega)]; exact h7
end SS
def wnf (c v : Nat → Int32) (t w : Nat) : Nat := if over c = true then 1 else if ¬ w / 4 = t then 2 else if pot c w = true then 3 else if cov v w = true then 4 else 0
theorem wnf_le (c v : Nat → Int32) (t w : Nat) : wnf c v t w ≤ 4 := by
  unfold wnf
  repeat' split
  all_goals omega
def wnl (c b v : Nat → Int32) (t : Nat) (z x y : Int32) (n : Nat) (d : Int32) : Nat := if over c = true then 1 else if low c b v (cat x y) n = -1 then 2 else if ¬ top c v (cat x y) / nI 4 = nI t then 3 else if ¬ nI n ≤ z then 4 else if beside x y d = -1 then 5 else 0
theorem wnl_le (c b v : Nat → Int32) (t : Nat) (z x y : Int32) (n : Nat) (d : Int32) : wnl c b v t z x y n d ≤ 5 := by
  unfold wnl
  repeat' split
  all_goals omega
/-- to the next colour: steps, lost turns, from which one on -/
def pasg (c : Nat → Int32) (t : Nat) : Nat → (Nat → Int32) → Nat → (Nat → Int32) × Nat
  | 0, j, _ => (j, t)
  | n + 1, j, q => if potc c ((q + 1) % 4) = 4 then pasg c t n j ((q + 1) % 4) else if j ((q + 1) % 4) = 0 then (j, (q + 1) % 4) else pasg c t n (upd j ((q + 1) % 4) (j ((q + 1) % 4) - nI 1)) ((q + 1) % 4)
theorem pasg_lt (c : Nat → Int32) (t : Nat) (ht : t < 4) : ∀ (n : Nat) (j : Nat → Int32) (q : Nat), (pasg c t n j q).2 < 4
  | 0, _, _ => ht
  | n + 1, j, q => by
    simp only [pasg]
    split
    · exact pasg_lt c t ht n _ _
    · split
      · exact Nat.mod_lt _ (by decide)
      · exact pasg_lt c t ht n _ _
-- a flight that is allowed
def flE (c : Nat → Int32) (w : Nat) (d : Int32) (f : Nat) : Int32 := ldg (c w) d (stp w f)
def flH (h : Nat → Int32) (w : Nat) (q : Int32) : Nat → Int32 := if q = -1 then upd h (w / 4) (h (w / 4) + nI 1) else h
def flP (c' : Nat → Int32) (t w : Nat) (q : Int32) (j : Nat → Int32) : (Nat → Int32) × Nat := if ¬ q = nI 84 ∨ potc c' (w / 4) = 4 then pasg c' t 8 j t else (j, t)
theorem flP_lt (c' : Nat → Int32) (t w : Nat) (ht : t < 4) (q : Int32) (j : Nat → Int32) : (flP c' t w q j).2 < 4 := by
  unfold flP
  split
  · exact pasg_lt _ _ ht _ _ _
  · exact ht
-- a lift that is allowed
def liC (c b v : Nat → Int32) (x y : Int32) (n : Nat) (d : Int32) : Nat → Int32 := if wk (low c b v (cat x y) n) = true then mov1 c b v (ix (low c b v (cat x y) n)) (beside x y d) else c
def liB (c b v : Nat → Int32) (x y : Int32) (n : Nat) (d : Int32) : Nat → Int32 := if wk (low c b v (cat x y) n) = true then mov2 c b v (ix (low c b v (cat x y) n)) (beside x y d) else b
def liV (c b v : Nat → Int32) (x y : Int32) (n : Nat) (d : Int32) : Nat → Int32 := if wk (low c b v (cat x y) n) = true then mov3 c b v (ix (low c b v (cat x y) n)) (beside x y d) else v
def smi (f : Nat → Int32) : Nat → Int32
  | 0 => nI 0
  | n + 1 => smi f n + f n
