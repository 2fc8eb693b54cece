/-! a text's parts, one after the other -/
def pF (a : Nat → Int32) (n k e d f : Nat) : Prop := k + 3 < n ∧ e < 4 ∧ d < 8 ∧ (1 ≤ f ∧ f ≤ 9) ∧ a k = nI 102 ∧ a (k + 1) = nI (48 + e) ∧ a (k + 2) = nI (48 + d) ∧ a (k + 3) = nI (48 + f)
def pLi (a : Nat → Int32) (n k x y f d : Nat) : Prop := k + 4 < n ∧ x < 13 ∧ y < 13 ∧ (1 ≤ f ∧ f ≤ 6) ∧ d < 8 ∧ a k = nI 108 ∧ a (k + 1) = nI (97 + x) ∧ a (k + 2) = nI (97 + y) ∧ a (k + 3) = nI (48 + f) ∧ a (k + 4) = nI (48 + d)
/-- the text is one of parts, from k on -/
def wfT (a : Nat → Int32) (n : Nat) : Nat → Nat → Prop
  | 0, k => n ≤ k
  | fu + 1, k => n ≤ k ∨ (∃ e d f, pF a n k e d f ∧ wfT a n fu (k + 5)) ∨ ∃ x y f d, pLi a n k x y f d ∧ wfT a n fu (k + 6)
def rRun (a : Nat → Int32) (n : Nat) : Nat → Nat → (Nat → Int32) → Nat → Nat × (Nat → Int32)
  | 0, _, r, dn => (dn, r)
  | fu + 1, k, r, dn =>
    if n ≤ k then (dn, r)
    else if a k = nI 102 then
      (if rwn r (4 * ix (r 56) + (ix (a (k + 1)) - 48)) = 0 then rRun a n fu (k + 5) (rfx r (4 * ix (r 56) + (ix (a (k + 1)) - 48)) (ldg (r (4 * ix (r 56) + (ix (a (k + 1)) - 48))) (nI (ix (a (k + 2)) - 48)) (stp (4 * ix (r 56) + (ix (a (k + 1)) - 48)) (ix (a (k + 3)) - 48))) (ix (r 56))) (dn + 1) else (dn, r))
    else if rwl r (13 * (ix (a (k + 2)) - 97) + (ix (a (k + 1)) - 97)) (ix (a (k + 3)) - 48) (ix (a (k + 4)) - 48) = 0 then rRun a n fu (k + 6) (rlx r (13 * (ix (a (k + 2)) - 97) + (ix (a (k + 1)) - 97)) (ix (a (k + 3)) - 48) (ix (a (k + 4)) - 48) (ix (r 56))) (dn + 1) else (dn, r)
theorem ixc {o e : Nat} (h : o + e < 2 ^ 31) : ix (nI (o + e)) - o = e := by rw [ix_nI h]; omega
section RN
variable {a r : Nat → Int32} {n fu k dn : Nat}
theorem rRun_end (h : n ≤ k) : rRun a n fu k r dn = (dn, r) := by
  cases fu with
  | zero => rfl
  | succ fu => rw [rRun, if_pos h]
theorem rRun_f {e d f t : Nat} (hp : pF a n k e d f) (ht : ix (r 56) = t) (h : rwn r (4 * t + e) = 0) : rRun a n (fu + 1) k r dn = rRun a n fu (k + 5) (rfx r (4 * t + e) (ldg (r (4 * t + e)) (nI d) (stp (4 * t + e) f)) t) (dn + 1) := by
  obtain ⟨h1, h2, h3, h4, h5, h6, h7, h8⟩ := hp
  rw [rRun, if_neg (by omega), if_pos h5, h6, h7, h8, ixc (by omega), ixc (by omega), ixc (by omega), ht, if_pos h]
theorem rRun_fx {e d f : Nat} (hp : pF a n k e d f) (h : rwn r (4 * ix (r 56) + e) ≠ 0) : rRun a n (fu + 1) k r dn = (dn, r) := by
  obtain ⟨h1, h2, h3, h4, h5, h6, h7, h8⟩ := hp
  rw [rRun, if_neg (by omega), if_pos h5, h6, h7, h8, ixc (by omega), ixc (by omega), ixc (by omega), if_neg h]
theorem rRun_l {x y f d t : Nat} (hp : pLi a n k x y f d) (ht : ix (r 56) = t) (h : rwl r (13 * y + x) f d = 0) : rRun a n (fu + 1) k r dn = rRun a n fu (k + 6) (rlx r (13 * y + x) f d t) (dn + 1) := by
  obtain ⟨h1, h2, h3, h4, h5, h6, h7, h8, h9, h10⟩ := hp
  rw [rRun, if_neg (by omega), if_neg (by rw [h6]; decide), h7, h8, h9, h10, ixc (by omega), ixc (by omega), ixc (by omega), ixc (by omega), ht, if_pos h]
theorem rRun_lx {x y f d : Nat} (hp : pLi a n k x y f d) (h : rwl r (13 * y + x) f d ≠ 0) : rRun a n (fu + 1) k r dn = (dn, r) := by
  obtain ⟨h1, h2, h3, h4, h5, h6, h7, h8, h9, h10⟩ := hp
  rw [rRun, if_neg (by omega), if_neg (by rw [h6]; decide), h7, h8, h9, h10, ixc (by omega), ixc (by omega), ixc (by omega), ixc (by omega), if_neg h]
end RN
theorem st_cell {D : va_G} {cl : List vw_C} {cI : ClassId} {ad : Nat → Nat} {N : Nat} {F : Nat → va_E} {H : Heap} {k : Nat} {c c' b v g h j : Nat → Int32} {t u z : Int32} (hP : va_P D cl (iW ad N (sSet cI ad F k c b v g h j t u z)) H) (e : ∀ x, x < 16 → c x = c' x) : va_P D cl (iW ad N (sSet cI ad F k c' b v g h j t u z)) H := by
  refine iW_ext hP (fun i _ => ?_)
  by_cases hi : i = k + 1 + 1
  · subst hi
    refine Or.inr ⟨cI, 16, c, c', ?_, ?_, e⟩
    · unfold sSet mSet
      rw [if_neg (by omega), if_neg (by omega), if_neg (by omega), if_neg (by omega), if_pos rfl]
    · unfold sSet mSet
      rw [if_neg (by omega), if_neg (by omega), if_neg (by omega), if_neg (by omega), if_pos rfl]
  · refine Or.inl ?_
    unfold sSet mSet
    repeat' split
    all_goals first | rfl | omega
theorem Pos.t_of {r b v g h j : Nat → Int32} {t : Nat} {u z : Int32} {Np : Nat → Nat} {Wp : Nat → Nat → Nat} (H : Pos r b v g h j t u z Np Wp) (ho : over r = false) : ix (r 56) = t ∧ r 56 = nI t := by
  have ht := H.2.2.2.2.2.2.2.2.1
  have h1 := (H.2.2.2.2.2.2.2.2.2.2.2 ho).1
  exact ⟨by rw [← h1]; exact ix_nI (by omega), h1.symm⟩
theorem Pos.tlt {r b v g h j : Nat → Int32} {t : Nat} {u z : Int32} {Np : Nat → Nat} {Wp : Nat → Nat → Nat} (H : Pos r b v g h j t u z Np Wp) : t < 4 := H.2.2.2.2.2.2.2.2.1
theorem rwn_over {r : Nat → Int32} {w : Nat} (h : rwn r w = 0) : over r = false := (rwn_0 h).1
theorem wnf_over {c v : Nat → Int32} {t w : Nat} (h : over c = true) : wnf c v t w ≠ 0 := by unfold wnf; rw [if_pos h]; decide
theorem rwn_over1 {r : Nat → Int32} {w : Nat} (h : over r = true) : rwn r w ≠ 0 := by unfold rwn; rw [if_pos h]; decide
theorem ldg_q {r b v g h j : Nat → Int32} {t : Nat} {u z : Int32} {Np : Nat → Nat} {Wp : Nat → Nat → Nat} (H : Pos r b v g h j t u z Np Wp) {w : Nat} (hw : w < 16) (hp : pot r w = false) (d : Int32) (f : Nat) : ldg (r w) d f = -1 ∨ ∃ q1, q1 < 169 ∧ ldg (r w) d f = nI q1 := ldg_cell (H.rok.2.2.1 w hw hp) d f
