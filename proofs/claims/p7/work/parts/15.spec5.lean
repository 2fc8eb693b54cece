theorem va_up_id {F : Nat → va_E} {k : Nat} {e : va_E} (h : F k = e) : va_up F k e = F := by
  funext i
  by_cases hi : i = k
  · subst hi
    rw [va_up_self, h]
  · rw [va_up_ne _ _ hi]
theorem va_up_up {F : Nat → va_E} {k : Nat} {e e' : va_E} : va_up (va_up F k e) k e' = va_up F k e' := by
  funext i
  by_cases hi : i = k
  · subst hi
    rw [va_up_self, va_up_self]
  · rw [va_up_ne _ _ hi, va_up_ne _ _ hi, va_up_ne _ _ hi]
def fl9 (g : Nat → Int32) (i : Nat) (x : Int32) : Nat → Int32 := fun j => if j < i then x else g j
theorem fl9_0 (g : Nat → Int32) (x : Int32) : fl9 g 0 x = g := by
  funext j
  simp [fl9]
theorem fl9_s (g : Nat → Int32) (i : Nat) (x : Int32) : upd (fl9 g i x) i x = fl9 g (i + 1) x := by
  funext j
  unfold upd fl9
  by_cases h : j = i
  · subst h
    rw [if_pos rfl, if_pos (by omega)]
  · rw [if_neg h]
    by_cases h2 : j < i
    · rw [if_pos h2, if_pos (by omega)]
    · rw [if_neg h2, if_neg (by omega)]
theorem fl9_end {D : va_G} {cl : List vw_C} {ad : Nat → Nat} {N : Nat} {F : Nat → va_E} {H : Heap} {k n : Nat} {cA : ClassId} {g : Nat → Int32} {x : Int32} (h : va_P D cl (iW ad N (va_up F k (.inl (cA, n, .inl (fl9 g n x))))) H) : va_P D cl (iW ad N (va_up F k (.inl (cA, n, .inl (fun _ => x))))) H := by
  refine iW_ext h (fun i _ => ?_)
  by_cases hi : i = k
  · subst hi
    exact Or.inr ⟨cA, n, _, _, va_up_self _ _ _, va_up_self _ _ _, fun j hj => by simp [fl9, hj]⟩
  · exact Or.inl (by rw [va_up_ne _ _ hi, va_up_ne _ _ hi])
theorem srO_hit {m i k n n' : Nat} {d q d' q' : Nat → Int32} {r : Int32} (h1 : k < n) (h2 : k < 169) (h : srI m (q k) 72 0 d q n = (some r, d', q', n')) : srO m (i + 1) k d q n = (r, d', q') := by
  simp only [srO]
  rw [if_neg (fun h9 => h9 ⟨h1, h2⟩), h]
theorem srO_miss {m i k n n' : Nat} {d q d' q' : Nat → Int32} (h1 : k < n) (h2 : k < 169) (h : srI m (q k) 72 0 d q n = (none, d', q', n')) : srO m (i + 1) k d q n = srO m i (k + 1) d' q' n' := by
  simp only [srO]
  rw [if_neg (fun h9 => h9 ⟨h1, h2⟩), h]
theorem srO_end {m i k n : Nat} {d q : Nat → Int32} (h1 : ¬ (k < n ∧ k < 169)) : srO m (i + 1) k d q n = (-1, d, q) := by
  simp only [srO]
  rw [if_pos h1]
def few (a d q : Nat → Int32) (w : Nat) (large : Bool) : (Nat → Int32) × (Nat → Int32) × (Nat → Int32) := if a (if large = true then w else 169 + w) = 0 then (upd a (if large = true then w else 169 + w) (sea q w (if large = true then 0 else 1)).1, (sea q w (if large = true then 0 else 1)).2.1, (sea q w (if large = true then 0 else 1)).2.2) else (a, d, q)
