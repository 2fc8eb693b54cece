/-! the best flight: lead first and covered then, or both in one number -/
theorem ms_ri (x a b c : Int32) : x * (a - b) + c = (x * a + c) - x * b := by grind
theorem ms_to {P Q C : Nat} (hP : P ≤ 24) (hQ : Q ≤ 24) (hC : C ≤ 8) : (nI 100 * (nI P - nI Q) + nI C).toInt = 100 * ((P : Int) - Q) + C := by
  rw [ms_ri, pk_mul, pk_mul, nI_add, pk_sub_toInt (by omega) (by omega)]
  omega
theorem ms_iff {P Q C P' Q' C' : Nat} (hP : P ≤ 24) (hQ : Q ≤ 24) (hC : C ≤ 8) (hP' : P' ≤ 24) (hQ' : Q' ≤ 24) (hC' : C' ≤ 8) : (nI 100 * (nI P' - nI Q') + nI C' ≤ nI 100 * (nI P - nI Q) + nI C) ↔ ¬ (nI P - nI Q < nI P' - nI Q' ∨ (nI P' - nI Q' = nI P - nI Q ∧ ¬ nI C' ≤ nI C)) := by
  have e1 : (nI P - nI Q).toInt = (P : Int) - Q := pk_sub_toInt (by omega) (by omega)
  have e2 : (nI P' - nI Q').toInt = (P' : Int) - Q' := pk_sub_toInt (by omega) (by omega)
  have e3 : (nI C).toInt = (C : Int) := nI_toInt (by omega)
  have e4 : (nI C').toInt = (C' : Int) := nI_toInt (by omega)
  rw [Int32.le_iff_toInt_le, ms_to hP hQ hC, ms_to hP' hQ' hC', Int32.lt_iff_toInt_lt, Int32.le_iff_toInt_le, ← Int32.toInt_inj, e1, e2, e3, e4]
  omega
/-- what both scans hold -/
def Bs (s : CSt) (R : Int32 × Int32 × (Nat → Int32)) : Prop := s.1 = R.1 ∧ (s.1 = -1 ∨ ∃ P Q C : Nat, P ≤ 24 ∧ Q ≤ 24 ∧ C ≤ 8 ∧ s.2.1 = nI P - nI Q ∧ s.2.2.1 = nI C ∧ R.2.1 = nI 100 * (nI P - nI Q) + nI C)
theorem ptt_le (c v : Nat → Int32) (k : Nat) : ptt c v k ≤ 24 := by
  unfold ptt
  have h1 := ptc_le c v k
  have h2 := ptc_le c v (k + 2)
  omega
theorem cCv_le (c b v : Nat → Int32) (w : Nat) (d : Int32) (f : Nat) : cCv c b v w d f ≤ 8 := by
  unfold cCv covc
  have h1 := cnt_le (fun x => cov (cM3 c b v w d f) (4 * (1 - w / 4 % 2) + x)) 4
  have h2 := cnt_le (fun x => cov (cM3 c b v w d f) (4 * (1 - w / 4 % 2 + 2) + x)) 4
  omega
theorem Pos.bsI {r b v g h j : Nat → Int32} {t : Nat} {u z : Int32} {Np : Nat → Nat} {Wp : Nat → Nat → Nat} (H : Pos r b v g h j t u z Np Wp) {sd : Nat → Int32} {k : Nat} (hk : k < 4) (hwn : wnf r v t (4 * t + k) = 0) {s : CSt} (h0 : Bs s (rbst r sd (72 * k))) : ∀ i, i ≤ 72 → Bs (cbI r b v (4 * t + k) i s) (rbst r sd (72 * k + i))
  | 0, _ => h0
  | i + 1, hi => by
    have ih := H.bsI hk hwn h0 i (by omega)
    have ht4 := H.tlt
    have hw : 4 * t + k < 16 := by omega
    have hov := (wnf_0 hwn).1
    have ht := (H.t_of hov).1
    have hW : rbW r (72 * k + i) = 4 * t + k := by
      unfold rbW
      rw [ht]
      omega
    have hd : (72 * k + i) / 9 % 8 = i / 9 := by omega
    have hf : (72 * k + i) % 9 = i % 9 := by omega
    have hr : rwn r (rbW r (72 * k + i)) = 0 := by rw [hW, ← H.wnfN hw]; exact hwn
    have hI : rbI r (72 * k + i) = nI 100 * cLd r b v (4 * t + k) (nI (i / 9)) (i % 9 + 1) + nI (cCv r b v (4 * t + k) (nI (i / 9)) (i % 9 + 1)) := by
      unfold rbI
      rw [hW, hd, hf, ← H.brL hw hwn, ← H.brC hw hwn]
    have hL : ∃ P Q : Nat, P ≤ 24 ∧ Q ≤ 24 ∧ cLd r b v (4 * t + k) (nI (i / 9)) (i % 9 + 1) = nI P - nI Q := ⟨_, _, ptt_le _ _ _, ptt_le _ _ _, rfl⟩
    obtain ⟨P', Q', hP', hQ', hL⟩ := hL
    have hC' := cCv_le r b v (4 * t + k) (nI (i / 9)) (i % 9 + 1)
    have hnew : Bs (cNw r b v (4 * t + k) i) (nI (100 * rbW r (72 * k + i) + 10 * ((72 * k + i) / 9 % 8) + ((72 * k + i) % 9 + 1)), rbI r (72 * k + i), r) := by
      refine ⟨?_, Or.inr ⟨P', Q', _, hP', hQ', hC', hL, rfl, ?_⟩⟩
      · show nI _ = nI _
        rw [hW, hd, hf]
      · show rbI r (72 * k + i) = _
        rw [hI, hL]
    obtain ⟨i1, i2⟩ := ih
    rw [show 72 * k + (i + 1) = (72 * k + i) + 1 from rfl]
    simp only [rbst, cbI]
    rw [if_pos hr]
    by_cases hm : (cbI r b v (4 * t + k) i s).1 = -1
    · rw [if_pos hm, if_pos (i1.symm.trans hm)]
      exact hnew
    · rw [if_neg hm, if_neg (fun q => hm (i1.trans q))]
      rcases i2 with i2 | ⟨P, Q, C, hP, hQ, hC, j1, j2, j3⟩
      · exact absurd i2 hm
      · have hiff := ms_iff hP hQ hC hP' hQ' hC'
        rw [← hL, ← hI, ← j1, ← j2, ← j3] at hiff
        have hold : Bs (cOl r b v (4 * t + k) i (cbI r b v (4 * t + k) i s)) ((rbst r sd (72 * k + i)).1, (rbst r sd (72 * k + i)).2.1, r) := ⟨i1, Or.inr ⟨P, Q, C, hP, hQ, hC, j1, j2, j3⟩⟩
        by_cases c1 : (cbI r b v (4 * t + k) i s).2.1 < cLd r b v (4 * t + k) (nI (i / 9)) (i % 9 + 1)
        · rw [if_pos c1, if_neg (fun q => hiff.mp q (Or.inl c1))]
          exact hnew
        · rw [if_neg c1]
          by_cases c2 : cLd r b v (4 * t + k) (nI (i / 9)) (i % 9 + 1) = (cbI r b v (4 * t + k) i s).2.1
          · rw [if_pos c2]
            by_cases c3 : nI (cCv r b v (4 * t + k) (nI (i / 9)) (i % 9 + 1)) ≤ (cbI r b v (4 * t + k) i s).2.2.1
            · rw [if_pos c3, if_pos (hiff.mpr (fun q => q.elim c1 (fun q2 => q2.2 c3)))]
              exact hold
            · rw [if_neg c3, if_neg (fun q => hiff.mp q (Or.inr ⟨c2, c3⟩))]
              exact hnew
          · rw [if_neg c2, if_pos (hiff.mpr (fun q => q.elim c1 (fun q2 => c2 q2.1)))]
            exact hold
theorem rbst_n {r sd : Nat → Int32} {a : Nat} : ∀ n, (∀ i, i < n → rwn r (rbW r (a + i)) ≠ 0) → rbst r sd (a + n) = rbst r sd a
  | 0, _ => rfl
  | n + 1, h => by
    rw [show a + (n + 1) = (a + n) + 1 from rfl]
    simp only [rbst]
    rw [if_neg (h n (by omega)), rbst_n n (fun i hi => h i (by omega))]
theorem cbO_nn {c b v : Nat → Int32} {t a : Nat} {s : CSt} : ∀ n, (∀ i, i < n → wnf c v t (a + i) ≠ 0) → cbO c b v t s (a + n) = cbO c b v t s a
  | 0, _ => rfl
  | n + 1, h => by
    rw [show a + (n + 1) = (a + n) + 1 from rfl, cbO_n (h n (by omega)), cbO_nn n (fun i hi => h i (by omega))]
theorem wnf_t {c v : Nat → Int32} {t w : Nat} (h : w / 4 ≠ t) : wnf c v t w ≠ 0 := fun q => h (wnf_0 q).2.1
theorem Pos.bests {r b v g h j : Nat → Int32} {t : Nat} {u z : Int32} {Np : Nat → Nat} {Wp : Nat → Nat → Nat} (H : Pos r b v g h j t u z Np Wp) {sd : Nat → Int32} {s : CSt} (hs : s.1 = -1) : (cbO r b v t s 16).1 = (rbst r sd 288).1 := by
  have ht4 := H.tlt
  by_cases hov : over r = true
  · rw [show (16 : Nat) = 0 + 16 from rfl, cbO_nn 16 (fun i _ => wnf_over hov), show (288 : Nat) = 0 + 288 from rfl, rbst_n 288 (fun i _ => rwn_over1 hov)]
    exact hs
  · have hov := bool_f hov
    have ht := (H.t_of hov).1
    have e0 : cbO r b v t s (4 * t) = s := by
      have := cbO_nn (c := r) (b := b) (v := v) (t := t) (a := 0) (s := s) (4 * t) (fun i hi => wnf_t (by omega))
      rw [Nat.zero_add] at this
      exact this
    have L : ∀ k, k ≤ 4 → Bs (cbO r b v t s (4 * t + k)) (rbst r sd (72 * k)) := by
      intro k
      induction k with
      | zero =>
        intro _
        rw [show 4 * t + 0 = 4 * t from rfl, e0]
        exact ⟨hs, Or.inl hs⟩
      | succ k ih =>
        intro hk
        have ih := ih (by omega)
        rw [show 4 * t + (k + 1) = (4 * t + k) + 1 from rfl, show 72 * (k + 1) = 72 * k + 72 by omega]
        by_cases hwn : wnf r v t (4 * t + k) = 0
        · rw [cbO_s hwn]
          exact H.bsI (by omega) hwn ih 72 (Nat.le_refl _)
        · rw [cbO_n hwn, rbst_n 72 (fun i hi => by
            rw [show rbW r (72 * k + i) = 4 * t + k by unfold rbW; rw [ht]; omega, ← H.wnfN (by omega)]
            exact hwn)]
          exact ih
    have h4 := (L 4 (Nat.le_refl _)).1
    have e16 : cbO r b v t s 16 = cbO r b v t s (4 * t + 4) := by
      have := cbO_nn (c := r) (b := b) (v := v) (t := t) (a := 4 * t + 4) (s := s) (16 - (4 * t + 4)) (fun i hi => wnf_t (by omega))
      rw [show 4 * t + 4 + (16 - (4 * t + 4)) = 16 by omega] at this
      exact this
    rw [e16]
    exact h4
set_option maxRecDepth 100000 in
theorem is_best (l : Launch) (D : va_G) (cI cQ cL : ClassId) (ad : Nat → Nat) (F : Nat → va_E) (H : IN1 cI cQ cL ad F) : STs l D cI cQ cL ad 86 yX5_best cX5_best 11 yX6_best cX6_best 1 .int okI F (INV cI cQ cL ad) := by
  obtain ⟨r, ps, sl, sd, ne, fa, bu, hs, st, ln, pt, th, hR, ⟨bB, vB, gB, hB, jB, tB, uB, zB, Np, Wp, hN, HP⟩, hI, o85, h85⟩ := H
  obtain ⟨-, ⟨⟨R8, c8, b8, v8, g8, h8, j8, t8, u8, z8, N8, W8, hSn, hP8, hc8⟩, hSnp⟩, ⟨n9, hRg⟩, ⟨hln, aT, hT, haT⟩, ⟨⟨c6, b6, v6, hM6⟩, a7, d7, q7, hO, hKN⟩, hC⟩ := id hI
  obtain ⟨hn9, hst6, hPa, hri, hrk⟩ := id hRg
  obtain ⟨Rr, cr, br, vr, gr, hr9, jr, tr, ur, zr, Nr, Wr, hRi, hRp, hRc⟩ := hri n9 hn9
  have hC : F 0 = .inr (5, [.ref (ad 1), .ref (ad 9), .ref (ad 17), .ref (ad 67), .ref (ad 69), .ref (ad 73), .int (bI hs)]) := hC
  have htB := HP.tlt
  exact sts_mk hC ⟨_, rfl⟩ (tX5_best l D cI cQ cL ad 86 F (by decide) r bB vB gB hB jB tB uB zB hN c8 b8 v8 g8 h8 j8 t8 u8 z8 hSn n9 st hn9 hst6 hPa aT ln hln hT c6 b6 v6 hM6 a7 d7 q7 hO hs hC htB) rfl rfl (by decide) (by decide) (rf_tm hR) (tX6_best l D cI cQ cL ad 86 _ 77 (by decide) r ps sl sd ne fa bu hs st ln pt th (rf_tm hR) HP.rok) (congrArg Value.int (HP.bests rfl).symm) rfl rfl (by decide) (by decide) (INV_rf (ICl_tm hI) _ ((mSet_out (by decide)).trans h85))
