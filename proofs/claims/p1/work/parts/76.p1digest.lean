theorem dig_eq {r b v g h j : Nat → Int32} {t m9 : Nat} {u z : Int32} {a7 d7 q7 c6 b6 v6 sd a bu : Nat → Int32} {nf : Nat → Nat} {st ln : Nat} {hs : Bool} (hK : KNa a7) (hnf : rNF r nf) (hW : ∀ w, w < 16 → ∀ k, k < 7 → cWink r b v g t w (nI k) = aWink r w k) (hP : ∀ q, q < 169 → ∀ k, k < 4 → cPile r b v (nI q) (nI k) = aPile r (nI q) k) (hT : ∀ q, q < 169 → decide (top r v (nI q) = -1) = decide (hgt r (nI q) = 0)) (hC : ∀ i, i < 4 → ∀ k, k < 7 → cCol r b v h j i (nI k) = aCol r i k) (hN : ∀ k, k < 14 → cCnt r b v g h t u z m9 (nI k) = aNum r st k) (hB : (cbO r b v t ((-1 : Int32), nI 0, nI 0, c6, b6, v6) 16).1 = (rbst r sd 288).1) (hpl : cnt (bot r b) 16 = rpl r) (ha : ∀ k, k < ln → cod a ln k = bu k) :
    fo (fun k9 => cod a ln k9) ln (mxd (mxd (mxd (mxd (mxd (foP (fun w9 => decide (top r v (nI w9) = -1)) (fun w9 k9 => cPile r b v (cat (nI (w9 % 13)) (nI (w9 / 13))) (nI k9)) 4 169 (fo2 (fun w9 k9 => cCol r b v h j w9 (nI k9)) 7 4 (cwD r b v g t (a7, d7, q7) 16 (fo (fun k9 => cCnt r b v g h t u z m9 (nI k9)) 14 3823)))) (cbO r b v t ((-1 : Int32), nI 0, nI 0, c6, b6, v6) 16).1.toInt64) (bOf (shr (potn r)) 52 1023)) (bOf (FP.f2d (mea (cnt (bot r b) 16) (potn r))) 23 127)) (if hs = true then 1 else 0)) (nI ln).toInt64) = fo bu ln (rd3 r nf st sd hs ln) := by
  rw [fo_congr (A := fun k9 => cod a ln k9) (B := bu) ln ha]
  refine congrArg (fo bu ln) ?_
  have hhs : (if hs = true then (1 : Int64) else 0) = (bI hs).toInt64 := by cases hs <;> decide
  unfold rd3 rd2 rd1 rwE
  rw [hhs, hB, (bok_shr (potn_le r)).2, (bok_mea (potn_le r) (cnt_le _ 16)).2.2, hpl]
  rw [fo_congr (A := fun k9 => cCnt r b v g h t u z m9 (nI k9)) (B := fun k9 => aNum r st k9) 14 hN, cwD_eq (s := (a7, d7, q7)) hK hnf hW 16 (Nat.le_refl _), fo2_congr (A := fun w9 k9 => cCol r b v h j w9 (nI k9)) (B := aCol r) 4 hC]
  rw [foP_congr (T := fun w9 => decide (top r v (nI w9) = -1)) (U := fun w9 => decide (hgt r (nI w9) = 0)) (A := fun w9 k9 => cPile r b v (cat (nI (w9 % 13)) (nI (w9 / 13))) (nI k9)) (B := fun w9 k9 => aPile r (nI w9) k9) 169 hT (fun i hi _ k hk => by
    show cPile r b v (cat (nI (i % 13)) (nI (i / 13))) (nI k) = _
    rw [cat_n, show 13 * (i / 13) + i % 13 = i by omega]
    exact hP i hi k hk)]
theorem fd_tt : ∀ q, q < 169 → decide (top row0 (mV 16) (nI q) = -1) = decide (hgt row0 (nI q) = 0) := by decide +kernel
set_option maxRecDepth 100000 in
theorem p1_digest (l : Launch) (D : va_G) (cI cQ cL : ClassId) (b0 : Nat) : STs l D cI cQ cL (pb b0) 86 yX5_digest cX5_digest 4 yX6_digest cX6_digest 4 .long okL (FM cI cQ cL b0) (fun _ => True) := by
  obtain ⟨nf, hnf⟩ := fd_nf
  refine ⟨_, _, _, _, _, _, _, ⟨_, rfl⟩, fm_0, (tX5_digest l D cI cQ cL (pb b0) 86 _ (by decide) row0 (mB 16) (mV 16) z0 z0 z0 0 (nI 0) (nI 3) fm_N (mC 16) (mB 16) (mV 16) z0 z0 z0 0 (nI 0) (nI 3) fm_S 0 0 (by decide) (by decide) fm_P z0 0 (by decide) fm_T (mC 16) (mB 16) (mV 16) fm_M z0 z0 z0 fm_O false fm_0 (by decide) (fun w hw _ => ⟨bs (w / 4), (fd_bs w hw).1, fd_c9 w hw⟩)), rfl, rfl, by decide, by decide, rfl, tX6_digest l D cI cQ cL (pb b0) 86 _ 77 (by decide) row0 z0 z0 z0 z0 z0 z0 false 0 0 0 (nI 0) ⟨rfl, rfl, rfl, rfl, rfl, rfl, rfl, rfl⟩ nf hnf fd_rok (by decide), rfl, rfl, by decide, by decide, ?_⟩
  rintro v G ⟨rfl, -⟩
  exact ⟨congrArg (fun x : Int64 => some (Value.long x)) (dig_eq (KNa_0 (a := z0) (fun _ _ => rfl)) hnf fd_wink fd_pile fd_tt fd_col fd_cnt fd_best fd_rpl (fun k hk => absurd hk (Nat.not_lt_zero k))).symm, trivial⟩
