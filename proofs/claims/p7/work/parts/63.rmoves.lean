/-! the reference's moves, and both sides together -/
/-- one wink laid -/
theorem lay_P {r b v : Nat → Int32} {N : Nat → Nat} {W : Nat → Nat → Nat} {w : Nat} (hw : w < 16) (h : SG r b v N W (fun _ => w) 1) (hp : ∀ q m, m < N q → r (16 + W q m) = nI m) (hp2 : ∀ x, x < 16 → x ≠ w → r x = -1 → r (16 + x) = -1) : (Rc (rly r w (nI 84)) N W ∧ Rp (rly r w (nI 84)) N W) ∧ ∀ q1, q1 < 169 → q1 ≠ 84 → Rc (rly r w (nI q1)) (onN N q1 1) (onW N W q1 (fun _ => w)) ∧ Rp (rly r w (nI q1)) (onN N q1 1) (onW N W q1 (fun _ => w)) := by
  obtain ⟨h1, h2, h3, h4, h5, h6, h7, h8, h9, h10, h11⟩ := h
  have hA : ∀ x, x < 16 → (∃ k : Nat, k < 1 ∧ w = x) ∨ r x = -1 ∨ ∃ q m, m < N q ∧ W q m = x := fun x hx => (h11 x hx).imp id (fun g => g.imp (fun g => g.1) id)
  have e0 : ∀ x, x < 16 → (∀ k : Nat, k < 1 → w ≠ x) → rly1 r w x = r x := fun x hx hne => rly1_out (fun e => hne 0 (by omega) e.symm) (by omega)
  have ew : rly1 r w w = -1 := by unfold rly1; rw [upd_ne9 (by omega)]; exact upd_at9
  have ep : rly1 r w (16 + w) = -1 := upd_at9
  have hcup : Rc (rly1 r w) N W := Rc_cup h7 h8 hA (fun _ _ => ew) e0
  have hpl : ∀ q m, m < N q → rly1 r w (16 + W q m) = nI m := fun q m hm => by
    obtain ⟨k1, -, -, -, k5⟩ := h7 q m hm
    have k6 : W q m ≠ w := k5 0 (by omega)
    rw [rly1_out (by omega) (by omega)]
    exact hp q m hm
  have hpp : ∀ x, x < 16 → rly1 r w x = -1 → rly1 r w (16 + x) = -1 := fun x hx hx1 => by
    by_cases e : x = w
    · rw [e]; exact ep
    · rw [rly1_out (by omega) (by omega)] at hx1 ⊢
      exact hp2 x hx e hx1
  refine ⟨?_, fun q1 hq hq84 => ?_⟩
  · have e1 : rly r w (nI 84) = rly1 r w := by unfold rly; rw [if_pos rfl]
    rw [e1]
    exact ⟨hcup, hpl, hpp⟩
  · have hne : nI q1 ≠ nI 84 := nI_ne (by omega) (by omega) hq84
    have e1 : rly r w (nI q1) = upd (upd (rly1 r w) (16 + w) (nI (N q1))) w (nI q1) := by
      unfold rly
      rw [if_neg hne, hcup.hgtN (by omega)]
    have a1 : rly r w (nI q1) w = nI q1 := by rw [e1]; exact upd_at9
    have a2 : ∀ x, x < 16 → x ≠ w → rly r w (nI q1) x = r x := fun x hx hne => rly_out hne (by omega)
    refine ⟨Rc_on hq hq84 h3 h4 h7 h8 hA (fun _ _ => a1) (fun x hx hne => a2 x hx (fun e => hne 0 (by omega) e.symm)), fun q m hm => ?_, fun x hx hx1 => ?_⟩
    · rcases onN_cases hm with g1 | ⟨rfl, k, hk, rfl⟩
      · rw [onW_old g1]
        obtain ⟨k1, -, -, -, k5⟩ := h7 q m g1
        have k6 : W q m ≠ w := k5 0 (by omega)
        rw [rly_out (by omega) (by omega)]
        exact hp q m g1
      · have hk0 : k = 0 := by omega
        subst hk0
        rw [onW_new, e1, upd_ne9 (by omega), Nat.add_zero]
        exact upd_at9
    · by_cases e : x = w
      · rw [e, a1] at hx1
        exact absurd hx1 (nI_m1 (by omega))
      · rw [rly_out (by omega) (by omega)] at hx1 ⊢
        exact hp2 x hx e hx1
theorem potc_ext {c c' : Nat → Int32} {k : Nat} (hk : k < 4) (h : ∀ x, x < 16 → c x = c' x) : potc c k = potc c' k := cnt_cong (fun w hw => by rw [h (4 * k + w) (by omega)])
theorem anyl_cong {p q : Nat → Bool} : ∀ n i, (∀ k, i ≤ k → k < i + n → p k = q k) → anyl p n i = anyl q n i
  | 0, _, _ => rfl
  | n + 1, i, h => by
    have e := h i (Nat.le_refl i) (by omega)
    simp only [anyl]
    by_cases hp : p i = true
    · rw [if_pos hp, if_pos (by rw [← e]; exact hp)]
    · rw [if_neg hp, if_neg (by rw [← e]; exact hp)]
      exact anyl_cong n (i + 1) (fun k h1 h2 => h k (by omega) (by omega))
theorem over_ext {c c' : Nat → Int32} (h : ∀ x, x < 16 → c x = c' x) : over c = over c' := by
  unfold over
  exact anyl_cong 4 0 (fun k _ hk => by rw [potc_ext (k := k) (by omega) h])
theorem over_f {c : Nat → Int32} (h : over c = false) {k : Nat} (hk : k < 4) : potc c k ≠ 4 := by
  unfold over at h
  simp only [anyl] at h
  intro e
  rcases (show k = 0 ∨ k = 1 ∨ k = 2 ∨ k = 3 by omega) with rfl | rfl | rfl | rfl <;> simp [e] at h
theorem Rl_ext {c c' b v : Nat → Int32} {N : Nat → Nat} {W : Nat → Nat → Nat} (h : Rl c b v N W) (e : ∀ x, x < 16 → c x = c' x) : Rl c' b v N W := ⟨h.1, h.2.1, fun w hw hp => h.2.2 w hw ((e w hw).trans hp)⟩
theorem Rc_ext {c c' : Nat → Int32} {N : Nat → Nat} {W : Nat → Nat → Nat} (h : Rc c N W) (e : ∀ x, x < 16 → c x = c' x) : Rc c' N W := ⟨fun q i hi => ⟨(h.1 q i hi).1, (h.1 q i hi).2.1, (h.1 q i hi).2.2.1, (e _ (h.1 q i hi).1).symm.trans (h.1 q i hi).2.2.2⟩, h.2.1, fun w hw => (h.2.2 w hw).imp (fun g => (e w hw).symm.trans g) id⟩
theorem Rp_ext {r r' : Nat → Int32} {N : Nat → Nat} {W : Nat → Nat → Nat} (hc : Rc r N W) (h : Rp r N W) (e : ∀ x, x < 32 → r x = r' x) : Rp r' N W := ⟨fun q i hi => (e _ (by have := (hc.1 q i hi).1; omega)).symm.trans (h.1 q i hi), fun w hw hp => (e _ (by omega)).symm.trans (h.2 w hw ((e w (by omega)).trans hp))⟩
/-- the turn passes -/
def on9 (r : Nat → Int32) : Nat := cnt (fun i => !(decide (r (52 + i) = nI 0))) 4
theorem pass_eq {c : Nat → Int32} {t0 : Nat} (hnp : ∀ k, k < 4 → potc c k ≠ 4) : ∀ (n : Nat) (r j : Nat → Int32) (t : Nat), lo01 r → (∀ i, i < 4 → j i = r (52 + i)) → on9 r < n → rps n r t 56 = nI (pasg c t0 n j t).2 ∧ (pasg c t0 n j t).2 < 4 ∧ (∀ i, i < 4 → (pasg c t0 n j t).1 i = rps n r t (52 + i)) ∧ rps n r t (52 + (pasg c t0 n j t).2) = nI 0 ∧ lo01 (rps n r t) ∧ (∀ x, x < 52 ∨ 56 < x → rps n r t x = r x)
  | 0, _, _, _, _, _, h => absurd h (Nat.not_lt_zero _)
  | n + 1, r, j, t, hlo, hj, hn => by
    have hm : (t + 1) % 4 < 4 := Nat.mod_lt _ (by decide)
    have e1 : upd r 56 (nI ((t + 1) % 4)) (52 + (t + 1) % 4) = r (52 + (t + 1) % 4) := upd_ne9 (by omega)
    simp only [rps, pasg]
    rw [if_neg (hnp _ hm), e1, hj _ hm]
    by_cases h0 : r (52 + (t + 1) % 4) = 0
    · rw [if_pos (show r (52 + (t + 1) % 4) ≤ 0 by rw [h0]; decide), if_pos h0, h0]
      have e2 : (0 : Int32) - nI 0 = nI 0 := by decide
      rw [e2]
      have hx : ∀ i, i < 4 → upd (upd r 56 (nI ((t + 1) % 4))) (52 + (t + 1) % 4) (nI 0) (52 + i) = r (52 + i) := fun i hi => by
        by_cases e : i = (t + 1) % 4
        · rw [← e, upd_at9]; rw [← e] at h0; rw [h0]; rfl
        · rw [upd_ne9 (by omega), upd_ne9 (by omega)]
      refine ⟨by rw [upd_ne9 (by omega)]; exact upd_at9, hm, fun i hi => by rw [hx i hi]; exact hj i hi, upd_at9, fun i hi => by rw [hx i hi]; exact hlo i hi, fun x hx2 => by rw [upd_ne9 (by omega), upd_ne9 (by omega)]⟩
    · have h1 : r (52 + (t + 1) % 4) = nI 1 := (hlo _ hm).resolve_left h0
      rw [if_neg (show ¬ r (52 + (t + 1) % 4) ≤ 0 by rw [h1]; decide), if_neg h0, h1]
      have e2 : nI 1 - nI 1 = nI 0 := by decide
      rw [e2]
      have hx : ∀ i, i < 4 → upd (upd r 56 (nI ((t + 1) % 4))) (52 + (t + 1) % 4) (nI 0) (52 + i) = if i = (t + 1) % 4 then nI 0 else r (52 + i) := fun i hi => by
        by_cases e : i = (t + 1) % 4
        · rw [if_pos e, ← e, upd_at9]
        · rw [if_neg e, upd_ne9 (by omega), upd_ne9 (by omega)]
      have hlt : on9 (upd (upd r 56 (nI ((t + 1) % 4))) (52 + (t + 1) % 4) (nI 0)) + 1 = on9 r := by
        unfold on9
        rw [cnt_del (p := fun i => !(decide (r (52 + i) = nI 0))) (a := (t + 1) % 4) 4 hm (by rw [h1]; decide)]
        congr 1
        refine cnt_cong (fun i hi => ?_)
        rw [hx i hi]
        by_cases e : i = (t + 1) % 4
        · rw [if_pos e]; simp [e]
        · rw [if_neg e]; simp [e]
      obtain ⟨g1, g2, g3, g4, g5, g6⟩ := pass_eq hnp n (upd (upd r 56 (nI ((t + 1) % 4))) (52 + (t + 1) % 4) (nI 0)) (upd j ((t + 1) % 4) (nI 0)) ((t + 1) % 4) (fun i hi => by
        rw [hx i hi]
        by_cases e : i = (t + 1) % 4
        · rw [if_pos e]; exact Or.inl rfl
        · rw [if_neg e]; exact hlo i hi) (fun i hi => by
        rw [hx i hi]
        by_cases e : i = (t + 1) % 4
        · rw [if_pos e, e, upd_at9]
        · rw [if_neg e, upd_ne9 e]; exact hj i hi) (by omega)
      exact ⟨g1, g2, g3, g4, g5, fun x hx2 => by rw [g6 x hx2, upd_ne9 (by omega), upd_ne9 (by omega)]⟩
theorem on9_lt (r : Nat → Int32) : on9 r < 8 := Nat.lt_of_le_of_lt (cnt_le _ 4) (by decide)
theorem smi_up {g : Nat → Int32} {w : Nat} {x : Int32} : ∀ n, smi (upd g w (g w + x)) n = if w < n then smi g n + x else smi g n
  | 0 => by rw [if_neg (Nat.not_lt_zero _)]; rfl
  | n + 1 => by
    simp only [smi]
    rw [smi_up n]
    by_cases e : n = w
    · subst e
      rw [if_neg (by omega), if_pos (by omega), upd_at9, Int32.add_assoc]
    · rw [upd_ne9 e]
      by_cases h : w < n
      · rw [if_pos h, if_pos (by omega), Int32.add_assoc, Int32.add_comm x, ← Int32.add_assoc]
      · rw [if_neg h, if_neg (by omega)]
