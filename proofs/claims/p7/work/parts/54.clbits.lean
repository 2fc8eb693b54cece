set_option maxRecDepth 100000 in
set_option maxHeartbeats 4000000 in
theorem tX5_bitsOf (l : Launch) (x : UInt64) (y : Int32) (fb : Nat) (hyf : y = nI fb) (z : Int32) (bi : Nat) (hzb : z = nI bi) (hbi : bi < 2 ^ 31) (hok : bok x fb bi = true) : MP l yX5_bitsOf (Cond.code yX5_bitsOf cX5_bitsOf 10 (some .long) :: AW) ({ frames := 0, cells := 0, slots := 0, locals := 0 } : Room) [.double x, .int y, .int z] (.long (bOf x fb bi)) := by
  refine mp_l (by decide +kernel) rfl (Nat.le_of_ble_eq_true rfl) (fun p e s m below meth cd Q ls hx hb hml hown hts hret hl => ?_)
  have hown : s.vm.findClass RX5 = some m.cls := hown
  subst hyf
  subst hzb
  have hk1 : s1 bi x = true := by simp only [bok, Bool.and_eq_true] at hok; exact hok.1
  have hk2 : s2 bi (b1 bi x (nI bi).toInt64).1 = true := by simp only [bok, Bool.and_eq_true] at hok; exact hok.2.1
  have hk3 : n64 (FP.dsub (b12 x bi).1 FP.dconst1) = true ∧ n64 (bfr (b12 x bi).1 fb) = true := by simp only [bok, Bool.and_eq_true] at hok; exact hok.2.2
  have hl : lv_has ls 10 [(0, .double x), (2, .int (nI fb)), (3, .int (nI bi))] := hl
  refine lv_dload_n hx hb (dk kX5_bitsOf_0_ok 0 rfl) rfl (lv_at hl 0 rfl) ?_
  refine lv_dconst0 hx hb (dk kX5_bitsOf_0_ok 1 rfl) ?_
  refine lv_dcmp hx hb (dk kX5_bitsOf_0_ok 2 rfl) ?_
  refine lv_if_gt (tgt := 8) hx hb (dk kX5_bitsOf_0_ok 3 rfl) (by decide) (fun h1 => ?_) (fun h1 => ?_)
  · skip
    refine lv_dload_n hx hb (dk kX5_bitsOf_0_ok 6 rfl) rfl (lv_at hl 0 rfl) ?_
    refine lv_dstore (lv' := [(4, .double x), (0, .double x), (2, .int (nI fb)), (3, .int (nI bi))]) hx hb (dk kX5_bitsOf_0_ok 7 rfl) hl (by decide) rfl (fun ls hl => ?_)
    refine lv_iload_n hx hb (dk kX5_bitsOf_0_ok 8 rfl) rfl (lv_at hl 3 rfl) ?_
    refine lv_i2l hx hb (dk kX5_bitsOf_0_ok 9 rfl) rfl ?_
    refine lv_lstore (lv' := [(6, .long ((nI bi).toInt64)), (4, .double x), (0, .double x), (2, .int (nI fb)), (3, .int (nI bi))]) hx hb (dk kX5_bitsOf_0_ok 10 rfl) hl (by decide) rfl (fun ls hl => ?_)
    refine lv_iconst (v := nI 0) hx hb (dk kX5_bitsOf_0_ok 11 rfl) rfl ?_
    refine lv_istore (lv' := [(8, .int (nI 0)), (6, .long ((nI bi).toInt64)), (4, .double x), (0, .double x), (2, .int (nI fb)), (3, .int (nI bi))]) hx hb (dk kX5_bitsOf_0_ok 12 rfl) hl (by decide) rfl (fun ls hl => ?_)
    have L18 : ∀ (fu : Nat) (q : Nat) (r1 : UInt64) (e1 : Int64), q ≤ bi → b1 bi x (nI bi).toInt64 = b1 (bi - q) r1 e1 → s1 (bi - q) r1 = true → bi - q < fu → ∀ ls : Array Slot, lv_has ls 10 [(0, .double x), (2, .int (nI fb)), (3, .int (nI bi)), (4, .double r1), (6, .long e1), (8, .int (nI q))] → W p l e ({ frames := 0, cells := 0, slots := 0, locals := 0 } : Room) s m ([.double x, .int (nI fb), .int (nI bi)] : List Value).toArray below meth cd s.heap [] 0 0 Q (F0 m 18 ls []) := by
      intro fu
      induction fu with
      | zero => intros; omega
      | succ fu ih18 =>
        intro q r1 e1 hq hr hs hme18 ls hl
        refine lv_iload hx hb (dk kX5_bitsOf_0_ok 13 rfl) (lv_at hl 5 rfl) ?_
        refine lv_iload_n hx hb (dk kX5_bitsOf_0_ok 14 rfl) rfl (lv_at hl 2 rfl) ?_
        refine n_icmp_ge (tgt := 53) hx hb (by omega) (by omega) (dk kX5_bitsOf_0_ok 15 rfl) (by decide) (fun h2 => ?_) (fun h2 => ?_)
        · skip
          refine lv_iconst (v := nI 0) hx hb (dk kX5_bitsOf_0_ok 30 rfl) rfl ?_
          refine lv_istore (lv' := [(8, .int (nI 0)), (0, .double x), (2, .int (nI fb)), (3, .int (nI bi)), (4, .double r1), (6, .long e1)]) hx hb (dk kX5_bitsOf_0_ok 31 rfl) hl (by decide) rfl (fun ls hl => ?_)
          have L56 : ∀ (fu : Nat) (q2 : Nat) (r2 : UInt64) (e2 : Int64), q2 ≤ bi → b12 x bi = b2 (bi - q2) r2 e2 → s2 (bi - q2) r2 = true → bi - q2 < fu → ∀ ls : Array Slot, lv_has ls 10 [(0, .double x), (2, .int (nI fb)), (3, .int (nI bi)), (4, .double r2), (6, .long e2), (8, .int (nI q2))] → W p l e ({ frames := 0, cells := 0, slots := 0, locals := 0 } : Room) s m ([.double x, .int (nI fb), .int (nI bi)] : List Value).toArray below meth cd s.heap [] 0 0 Q (F0 m 56 ls []) := by
            intro fu
            induction fu with
            | zero => intros; omega
            | succ fu ih56 =>
              intro q2 r2 e2 hq2 hr2 hs2 hme56 ls hl
              refine lv_iload hx hb (dk kX5_bitsOf_0_ok 32 rfl) (lv_at hl 5 rfl) ?_
              refine lv_iload_n hx hb (dk kX5_bitsOf_0_ok 33 rfl) rfl (lv_at hl 2 rfl) ?_
              refine n_icmp_ge (tgt := 89) hx hb (by omega) (by omega) (dk kX5_bitsOf_0_ok 34 rfl) (by decide) (fun h3 => ?_) (fun h3 => ?_)
              · skip
                refine lv_dload hx hb (dk kX5_bitsOf_0_ok 49 rfl) (lv_at hl 3 rfl) ?_
                refine lv_dconst1 hx hb (dk kX5_bitsOf_0_ok 50 rfl) ?_
                refine lv_dsub hx hb (dk kX5_bitsOf_0_ok 51 rfl) (n64_ok (by have e9 := b2_e (n := bi - q2) (x := r2) (e := e2) (by first | exact Or.inr (by assumption) | exact Or.inl (by omega)); rw [← hr2] at e9; have z9 := hk3.1; rw [e9] at z9; exact z9)) ?_
                refine lv_lconst (v := 1) hx hb (dk kX5_bitsOf_0_ok 52 rfl) (by decide) ?_
                refine lv_iload_n hx hb (dk kX5_bitsOf_0_ok 53 rfl) rfl (lv_at hl 1 rfl) ?_
                refine lv_lshl hx hb (dk kX5_bitsOf_0_ok 54 rfl) rfl ?_
                refine lv_l2d hx hb (dk kX5_bitsOf_0_ok 55 rfl) ?_
                refine lv_dmul hx hb (dk kX5_bitsOf_0_ok 56 rfl) (n64_ok (by have e9 := b2_e (n := bi - q2) (x := r2) (e := e2) (by first | exact Or.inr (by assumption) | exact Or.inl (by omega)); rw [← hr2] at e9; have z9 := hk3.2; rw [e9] at z9; exact z9)) ?_
                refine lv_dstore (lv' := [(8, .double (FP.dmul (FP.dsub r2 FP.dconst1) (FP.l2d (1 <<< ((nI fb).toInt64 &&& 63))))), (0, .double x), (2, .int (nI fb)), (3, .int (nI bi)), (4, .double r2), (6, .long e2)]) hx hb (dk kX5_bitsOf_0_ok 57 rfl) hl (by decide) rfl (fun ls hl => ?_)
                refine lv_lload hx hb (dk kX5_bitsOf_0_ok 58 rfl) (lv_at hl 5 rfl) ?_
                refine lv_iload_n hx hb (dk kX5_bitsOf_0_ok 59 rfl) rfl (lv_at hl 2 rfl) ?_
                refine lv_lshl hx hb (dk kX5_bitsOf_1_ok 0 rfl) rfl ?_
                refine lv_dload hx hb (dk kX5_bitsOf_1_ok 1 rfl) (lv_at hl 0 rfl) ?_
                refine lv_d2l hx hb (dk kX5_bitsOf_1_ok 2 rfl) ?_
                refine lv_ladd hx hb (dk kX5_bitsOf_1_ok 3 rfl) ?_
                exact hret _ _ _ (by first | (rw [bOf, if_neg (by assumption)]; done) | (have e9 := b2_e (n := bi - q2) (x := r2) (e := e2) (by first | exact Or.inr (by assumption) | exact Or.inl (by omega)); rw [← hr2] at e9; rw [bOf, if_pos (by assumption), e9]; rfl)) (dk kX5_bitsOf_1_ok 4 rfl)
              · skip
                refine lv_dload hx hb (dk kX5_bitsOf_0_ok 35 rfl) (lv_at hl 3 rfl) ?_
                refine lv_dconst1 hx hb (dk kX5_bitsOf_0_ok 36 rfl) ?_
                refine lv_dcmp hx hb (dk kX5_bitsOf_0_ok 37 rfl) ?_
                refine lv_if_ge (tgt := 89) hx hb (dk kX5_bitsOf_0_ok 38 rfl) (by decide) (fun h4 => ?_) (fun h4 => ?_)
                · skip
                  refine lv_dload hx hb (dk kX5_bitsOf_0_ok 49 rfl) (lv_at hl 3 rfl) ?_
                  refine lv_dconst1 hx hb (dk kX5_bitsOf_0_ok 50 rfl) ?_
                  refine lv_dsub hx hb (dk kX5_bitsOf_0_ok 51 rfl) (n64_ok (by have e9 := b2_e (n := bi - q2) (x := r2) (e := e2) (by first | exact Or.inr (by assumption) | exact Or.inl (by omega)); rw [← hr2] at e9; have z9 := hk3.1; rw [e9] at z9; exact z9)) ?_
                  refine lv_lconst (v := 1) hx hb (dk kX5_bitsOf_0_ok 52 rfl) (by decide) ?_
                  refine lv_iload_n hx hb (dk kX5_bitsOf_0_ok 53 rfl) rfl (lv_at hl 1 rfl) ?_
                  refine lv_lshl hx hb (dk kX5_bitsOf_0_ok 54 rfl) rfl ?_
                  refine lv_l2d hx hb (dk kX5_bitsOf_0_ok 55 rfl) ?_
                  refine lv_dmul hx hb (dk kX5_bitsOf_0_ok 56 rfl) (n64_ok (by have e9 := b2_e (n := bi - q2) (x := r2) (e := e2) (by first | exact Or.inr (by assumption) | exact Or.inl (by omega)); rw [← hr2] at e9; have z9 := hk3.2; rw [e9] at z9; exact z9)) ?_
                  refine lv_dstore (lv' := [(8, .double (FP.dmul (FP.dsub r2 FP.dconst1) (FP.l2d (1 <<< ((nI fb).toInt64 &&& 63))))), (0, .double x), (2, .int (nI fb)), (3, .int (nI bi)), (4, .double r2), (6, .long e2)]) hx hb (dk kX5_bitsOf_0_ok 57 rfl) hl (by decide) rfl (fun ls hl => ?_)
                  refine lv_lload hx hb (dk kX5_bitsOf_0_ok 58 rfl) (lv_at hl 5 rfl) ?_
                  refine lv_iload_n hx hb (dk kX5_bitsOf_0_ok 59 rfl) rfl (lv_at hl 2 rfl) ?_
                  refine lv_lshl hx hb (dk kX5_bitsOf_1_ok 0 rfl) rfl ?_
                  refine lv_dload hx hb (dk kX5_bitsOf_1_ok 1 rfl) (lv_at hl 0 rfl) ?_
                  refine lv_d2l hx hb (dk kX5_bitsOf_1_ok 2 rfl) ?_
                  refine lv_ladd hx hb (dk kX5_bitsOf_1_ok 3 rfl) ?_
                  exact hret _ _ _ (by first | (rw [bOf, if_neg (by assumption)]; done) | (have e9 := b2_e (n := bi - q2) (x := r2) (e := e2) (by first | exact Or.inr (by assumption) | exact Or.inl (by omega)); rw [← hr2] at e9; rw [bOf, if_pos (by assumption), e9]; rfl)) (dk kX5_bitsOf_1_ok 4 rfl)
                · skip
                  refine lv_dload hx hb (dk kX5_bitsOf_0_ok 39 rfl) (lv_at hl 3 rfl) ?_
                  refine lv_ldc2d (v := (4611686018427387904)) hx hb hown (hts _ (List.mem_cons_of_mem _ (ac16 _ (List.mem_of_getElem? (i := 3) rfl)))) (dk kX5_bitsOf_0_ok 40 rfl) ?_
                  refine lv_dmul hx hb (dk kX5_bitsOf_0_ok 41 rfl) (n64_ok (s2_n (n := bi - (q2 + 1)) (by rw [← show bi - q2 = bi - (q2 + 1) + 1 by omega]; exact hs2) h4).1) ?_
                  refine lv_dstore (lv' := [(4, .double (FP.dmul r2 two9)), (0, .double x), (2, .int (nI fb)), (3, .int (nI bi)), (6, .long e2), (8, .int (nI q2))]) hx hb (dk kX5_bitsOf_0_ok 42 rfl) hl (by decide) rfl (fun ls hl => ?_)
                  refine lv_lload hx hb (dk kX5_bitsOf_0_ok 43 rfl) (lv_at hl 4 rfl) ?_
                  refine lv_lconst (v := 1) hx hb (dk kX5_bitsOf_0_ok 44 rfl) (by decide) ?_
                  refine lv_lsub hx hb (dk kX5_bitsOf_0_ok 45 rfl) ?_
                  refine lv_lstore (lv' := [(6, .long (e2 - 1)), (4, .double (FP.dmul r2 two9)), (0, .double x), (2, .int (nI fb)), (3, .int (nI bi)), (8, .int (nI q2))]) hx hb (dk kX5_bitsOf_0_ok 46 rfl) hl (by decide) rfl (fun ls hl => ?_)
                  refine lv_iinc (v := nI (q2 + 1)) (lv' := [(8, .int (nI (q2 + 1))), (6, .long (e2 - 1)), (4, .double (FP.dmul r2 two9)), (0, .double x), (2, .int (nI fb)), (3, .int (nI bi))]) hx hb (dk kX5_bitsOf_0_ok 47 rfl) hl (k := 5) rfl (n_inc _) (by decide) rfl (fun ls hl => ?_)
                  refine lv_goto (tgt := 56) hx hb (dk kX5_bitsOf_0_ok 48 rfl) (by decide) ?_
                  exact ih56 (q2 + 1) (FP.dmul r2 two9) (e2 - 1) (by omega) (by have z9 := (show ¬ 0 ≤ Op.cmpValue (FP.dcmp r2 FP.dconst1) .g by assumption); rw [hr2, show bi - q2 = bi - (q2 + 1) + 1 by omega, b2_n z9]) (by have z9 := (show ¬ 0 ≤ Op.cmpValue (FP.dcmp r2 FP.dconst1) .g by assumption); exact (s2_n (n := bi - (q2 + 1)) (by rw [← show bi - q2 = bi - (q2 + 1) + 1 by omega]; exact hs2) z9).2) (by omega) ls (lv_sub hl [3, 4, 5, 2, 1, 0] rfl)
          exact L56 _ 0 r1 e1 (by omega) (by have e8 := b1_e (n := bi - q) (x := r1) (e := e1) (by first | exact Or.inr (by assumption) | exact Or.inl (by omega)); rw [← hr] at e8; rw [b12, e8]; rfl) (by have e8 := b1_e (n := bi - q) (x := r1) (e := e1) (by first | exact Or.inr (by assumption) | exact Or.inl (by omega)); rw [← hr] at e8; rw [e8] at hk2; exact hk2) (Nat.lt_succ_self _) ls (lv_sub hl [1, 2, 3, 4, 5, 0] rfl)
        · skip
          refine lv_dload hx hb (dk kX5_bitsOf_0_ok 16 rfl) (lv_at hl 3 rfl) ?_
          refine lv_ldc2d (v := (4611686018427387904)) hx hb hown (hts _ (List.mem_cons_of_mem _ (ac16 _ (List.mem_of_getElem? (i := 3) rfl)))) (dk kX5_bitsOf_0_ok 17 rfl) ?_
          refine lv_dcmp hx hb (dk kX5_bitsOf_0_ok 18 rfl) ?_
          refine lv_if_lt (tgt := 53) hx hb (dk kX5_bitsOf_0_ok 19 rfl) (by decide) (fun h5 => ?_) (fun h5 => ?_)
          · skip
            refine lv_iconst (v := nI 0) hx hb (dk kX5_bitsOf_0_ok 30 rfl) rfl ?_
            refine lv_istore (lv' := [(8, .int (nI 0)), (0, .double x), (2, .int (nI fb)), (3, .int (nI bi)), (4, .double r1), (6, .long e1)]) hx hb (dk kX5_bitsOf_0_ok 31 rfl) hl (by decide) rfl (fun ls hl => ?_)
            have L56 : ∀ (fu : Nat) (q2 : Nat) (r2 : UInt64) (e2 : Int64), q2 ≤ bi → b12 x bi = b2 (bi - q2) r2 e2 → s2 (bi - q2) r2 = true → bi - q2 < fu → ∀ ls : Array Slot, lv_has ls 10 [(0, .double x), (2, .int (nI fb)), (3, .int (nI bi)), (4, .double r2), (6, .long e2), (8, .int (nI q2))] → W p l e ({ frames := 0, cells := 0, slots := 0, locals := 0 } : Room) s m ([.double x, .int (nI fb), .int (nI bi)] : List Value).toArray below meth cd s.heap [] 0 0 Q (F0 m 56 ls []) := by
              intro fu
              induction fu with
              | zero => intros; omega
              | succ fu ih56 =>
                intro q2 r2 e2 hq2 hr2 hs2 hme56 ls hl
                refine lv_iload hx hb (dk kX5_bitsOf_0_ok 32 rfl) (lv_at hl 5 rfl) ?_
                refine lv_iload_n hx hb (dk kX5_bitsOf_0_ok 33 rfl) rfl (lv_at hl 2 rfl) ?_
                refine n_icmp_ge (tgt := 89) hx hb (by omega) (by omega) (dk kX5_bitsOf_0_ok 34 rfl) (by decide) (fun h6 => ?_) (fun h6 => ?_)
                · skip
                  refine lv_dload hx hb (dk kX5_bitsOf_0_ok 49 rfl) (lv_at hl 3 rfl) ?_
                  refine lv_dconst1 hx hb (dk kX5_bitsOf_0_ok 50 rfl) ?_
                  refine lv_dsub hx hb (dk kX5_bitsOf_0_ok 51 rfl) (n64_ok (by have e9 := b2_e (n := bi - q2) (x := r2) (e := e2) (by first | exact Or.inr (by assumption) | exact Or.inl (by omega)); rw [← hr2] at e9; have z9 := hk3.1; rw [e9] at z9; exact z9)) ?_
                  refine lv_lconst (v := 1) hx hb (dk kX5_bitsOf_0_ok 52 rfl) (by decide) ?_
                  refine lv_iload_n hx hb (dk kX5_bitsOf_0_ok 53 rfl) rfl (lv_at hl 1 rfl) ?_
                  refine lv_lshl hx hb (dk kX5_bitsOf_0_ok 54 rfl) rfl ?_
                  refine lv_l2d hx hb (dk kX5_bitsOf_0_ok 55 rfl) ?_
                  refine lv_dmul hx hb (dk kX5_bitsOf_0_ok 56 rfl) (n64_ok (by have e9 := b2_e (n := bi - q2) (x := r2) (e := e2) (by first | exact Or.inr (by assumption) | exact Or.inl (by omega)); rw [← hr2] at e9; have z9 := hk3.2; rw [e9] at z9; exact z9)) ?_
                  refine lv_dstore (lv' := [(8, .double (FP.dmul (FP.dsub r2 FP.dconst1) (FP.l2d (1 <<< ((nI fb).toInt64 &&& 63))))), (0, .double x), (2, .int (nI fb)), (3, .int (nI bi)), (4, .double r2), (6, .long e2)]) hx hb (dk kX5_bitsOf_0_ok 57 rfl) hl (by decide) rfl (fun ls hl => ?_)
                  refine lv_lload hx hb (dk kX5_bitsOf_0_ok 58 rfl) (lv_at hl 5 rfl) ?_
                  refine lv_iload_n hx hb (dk kX5_bitsOf_0_ok 59 rfl) rfl (lv_at hl 2 rfl) ?_
                  refine lv_lshl hx hb (dk kX5_bitsOf_1_ok 0 rfl) rfl ?_
                  refine lv_dload hx hb (dk kX5_bitsOf_1_ok 1 rfl) (lv_at hl 0 rfl) ?_
                  refine lv_d2l hx hb (dk kX5_bitsOf_1_ok 2 rfl) ?_
                  refine lv_ladd hx hb (dk kX5_bitsOf_1_ok 3 rfl) ?_
                  exact hret _ _ _ (by first | (rw [bOf, if_neg (by assumption)]; done) | (have e9 := b2_e (n := bi - q2) (x := r2) (e := e2) (by first | exact Or.inr (by assumption) | exact Or.inl (by omega)); rw [← hr2] at e9; rw [bOf, if_pos (by assumption), e9]; rfl)) (dk kX5_bitsOf_1_ok 4 rfl)
                · skip
                  refine lv_dload hx hb (dk kX5_bitsOf_0_ok 35 rfl) (lv_at hl 3 rfl) ?_
                  refine lv_dconst1 hx hb (dk kX5_bitsOf_0_ok 36 rfl) ?_
                  refine lv_dcmp hx hb (dk kX5_bitsOf_0_ok 37 rfl) ?_
                  refine lv_if_ge (tgt := 89) hx hb (dk kX5_bitsOf_0_ok 38 rfl) (by decide) (fun h7 => ?_) (fun h7 => ?_)
                  · skip
                    refine lv_dload hx hb (dk kX5_bitsOf_0_ok 49 rfl) (lv_at hl 3 rfl) ?_
                    refine lv_dconst1 hx hb (dk kX5_bitsOf_0_ok 50 rfl) ?_
                    refine lv_dsub hx hb (dk kX5_bitsOf_0_ok 51 rfl) (n64_ok (by have e9 := b2_e (n := bi - q2) (x := r2) (e := e2) (by first | exact Or.inr (by assumption) | exact Or.inl (by omega)); rw [← hr2] at e9; have z9 := hk3.1; rw [e9] at z9; exact z9)) ?_
                    refine lv_lconst (v := 1) hx hb (dk kX5_bitsOf_0_ok 52 rfl) (by decide) ?_
                    refine lv_iload_n hx hb (dk kX5_bitsOf_0_ok 53 rfl) rfl (lv_at hl 1 rfl) ?_
                    refine lv_lshl hx hb (dk kX5_bitsOf_0_ok 54 rfl) rfl ?_
                    refine lv_l2d hx hb (dk kX5_bitsOf_0_ok 55 rfl) ?_
                    refine lv_dmul hx hb (dk kX5_bitsOf_0_ok 56 rfl) (n64_ok (by have e9 := b2_e (n := bi - q2) (x := r2) (e := e2) (by first | exact Or.inr (by assumption) | exact Or.inl (by omega)); rw [← hr2] at e9; have z9 := hk3.2; rw [e9] at z9; exact z9)) ?_
                    refine lv_dstore (lv' := [(8, .double (FP.dmul (FP.dsub r2 FP.dconst1) (FP.l2d (1 <<< ((nI fb).toInt64 &&& 63))))), (0, .double x), (2, .int (nI fb)), (3, .int (nI bi)), (4, .double r2), (6, .long e2)]) hx hb (dk kX5_bitsOf_0_ok 57 rfl) hl (by decide) rfl (fun ls hl => ?_)
                    refine lv_lload hx hb (dk kX5_bitsOf_0_ok 58 rfl) (lv_at hl 5 rfl) ?_
                    refine lv_iload_n hx hb (dk kX5_bitsOf_0_ok 59 rfl) rfl (lv_at hl 2 rfl) ?_
                    refine lv_lshl hx hb (dk kX5_bitsOf_1_ok 0 rfl) rfl ?_
                    refine lv_dload hx hb (dk kX5_bitsOf_1_ok 1 rfl) (lv_at hl 0 rfl) ?_
                    refine lv_d2l hx hb (dk kX5_bitsOf_1_ok 2 rfl) ?_
                    refine lv_ladd hx hb (dk kX5_bitsOf_1_ok 3 rfl) ?_
                    exact hret _ _ _ (by first | (rw [bOf, if_neg (by assumption)]; done) | (have e9 := b2_e (n := bi - q2) (x := r2) (e := e2) (by first | exact Or.inr (by assumption) | exact Or.inl (by omega)); rw [← hr2] at e9; rw [bOf, if_pos (by assumption), e9]; rfl)) (dk kX5_bitsOf_1_ok 4 rfl)
                  · skip
                    refine lv_dload hx hb (dk kX5_bitsOf_0_ok 39 rfl) (lv_at hl 3 rfl) ?_
                    refine lv_ldc2d (v := (4611686018427387904)) hx hb hown (hts _ (List.mem_cons_of_mem _ (ac16 _ (List.mem_of_getElem? (i := 3) rfl)))) (dk kX5_bitsOf_0_ok 40 rfl) ?_
                    refine lv_dmul hx hb (dk kX5_bitsOf_0_ok 41 rfl) (n64_ok (s2_n (n := bi - (q2 + 1)) (by rw [← show bi - q2 = bi - (q2 + 1) + 1 by omega]; exact hs2) h7).1) ?_
                    refine lv_dstore (lv' := [(4, .double (FP.dmul r2 two9)), (0, .double x), (2, .int (nI fb)), (3, .int (nI bi)), (6, .long e2), (8, .int (nI q2))]) hx hb (dk kX5_bitsOf_0_ok 42 rfl) hl (by decide) rfl (fun ls hl => ?_)
                    refine lv_lload hx hb (dk kX5_bitsOf_0_ok 43 rfl) (lv_at hl 4 rfl) ?_
                    refine lv_lconst (v := 1) hx hb (dk kX5_bitsOf_0_ok 44 rfl) (by decide) ?_
                    refine lv_lsub hx hb (dk kX5_bitsOf_0_ok 45 rfl) ?_
                    refine lv_lstore (lv' := [(6, .long (e2 - 1)), (4, .double (FP.dmul r2 two9)), (0, .double x), (2, .int (nI fb)), (3, .int (nI bi)), (8, .int (nI q2))]) hx hb (dk kX5_bitsOf_0_ok 46 rfl) hl (by decide) rfl (fun ls hl => ?_)
                    refine lv_iinc (v := nI (q2 + 1)) (lv' := [(8, .int (nI (q2 + 1))), (6, .long (e2 - 1)), (4, .double (FP.dmul r2 two9)), (0, .double x), (2, .int (nI fb)), (3, .int (nI bi))]) hx hb (dk kX5_bitsOf_0_ok 47 rfl) hl (k := 5) rfl (n_inc _) (by decide) rfl (fun ls hl => ?_)
                    refine lv_goto (tgt := 56) hx hb (dk kX5_bitsOf_0_ok 48 rfl) (by decide) ?_
                    exact ih56 (q2 + 1) (FP.dmul r2 two9) (e2 - 1) (by omega) (by have z9 := (show ¬ 0 ≤ Op.cmpValue (FP.dcmp r2 FP.dconst1) .g by assumption); rw [hr2, show bi - q2 = bi - (q2 + 1) + 1 by omega, b2_n z9]) (by have z9 := (show ¬ 0 ≤ Op.cmpValue (FP.dcmp r2 FP.dconst1) .g by assumption); exact (s2_n (n := bi - (q2 + 1)) (by rw [← show bi - q2 = bi - (q2 + 1) + 1 by omega]; exact hs2) z9).2) (by omega) ls (lv_sub hl [3, 4, 5, 2, 1, 0] rfl)
            exact L56 _ 0 r1 e1 (by omega) (by have e8 := b1_e (n := bi - q) (x := r1) (e := e1) (by first | exact Or.inr (by assumption) | exact Or.inl (by omega)); rw [← hr] at e8; rw [b12, e8]; rfl) (by have e8 := b1_e (n := bi - q) (x := r1) (e := e1) (by first | exact Or.inr (by assumption) | exact Or.inl (by omega)); rw [← hr] at e8; rw [e8] at hk2; exact hk2) (Nat.lt_succ_self _) ls (lv_sub hl [1, 2, 3, 4, 5, 0] rfl)
          · skip
            refine lv_dload hx hb (dk kX5_bitsOf_0_ok 20 rfl) (lv_at hl 3 rfl) ?_
            refine lv_ldc2d (v := (4611686018427387904)) hx hb hown (hts _ (List.mem_cons_of_mem _ (ac16 _ (List.mem_of_getElem? (i := 3) rfl)))) (dk kX5_bitsOf_0_ok 21 rfl) ?_
            refine lv_ddiv hx hb (dk kX5_bitsOf_0_ok 22 rfl) (n64_ok (s1_n (n := bi - (q + 1)) (by rw [← show bi - q = bi - (q + 1) + 1 by omega]; exact hs) h5).1) ?_
            refine lv_dstore (lv' := [(4, .double (FP.ddiv r1 two9)), (0, .double x), (2, .int (nI fb)), (3, .int (nI bi)), (6, .long e1), (8, .int (nI q))]) hx hb (dk kX5_bitsOf_0_ok 23 rfl) hl (by decide) rfl (fun ls hl => ?_)
            refine lv_lload hx hb (dk kX5_bitsOf_0_ok 24 rfl) (lv_at hl 4 rfl) ?_
            refine lv_lconst (v := 1) hx hb (dk kX5_bitsOf_0_ok 25 rfl) (by decide) ?_
            refine lv_ladd hx hb (dk kX5_bitsOf_0_ok 26 rfl) ?_
            refine lv_lstore (lv' := [(6, .long (e1 + 1)), (4, .double (FP.ddiv r1 two9)), (0, .double x), (2, .int (nI fb)), (3, .int (nI bi)), (8, .int (nI q))]) hx hb (dk kX5_bitsOf_0_ok 27 rfl) hl (by decide) rfl (fun ls hl => ?_)
            refine lv_iinc (v := nI (q + 1)) (lv' := [(8, .int (nI (q + 1))), (6, .long (e1 + 1)), (4, .double (FP.ddiv r1 two9)), (0, .double x), (2, .int (nI fb)), (3, .int (nI bi))]) hx hb (dk kX5_bitsOf_0_ok 28 rfl) hl (k := 5) rfl (n_inc _) (by decide) rfl (fun ls hl => ?_)
            refine lv_goto (tgt := 18) hx hb (dk kX5_bitsOf_0_ok 29 rfl) (by decide) ?_
            exact ih18 (q + 1) (FP.ddiv r1 two9) (e1 + 1) (by omega) (by have z9 := (show ¬ Op.cmpValue (FP.dcmp r1 two9) .l < 0 by assumption); rw [hr, show bi - q = bi - (q + 1) + 1 by omega, b1_n z9]) (by have z9 := (show ¬ Op.cmpValue (FP.dcmp r1 two9) .l < 0 by assumption); exact (s1_n (n := bi - (q + 1)) (by rw [← show bi - q = bi - (q + 1) + 1 by omega]; exact hs) z9).2) (by omega) ls (lv_sub hl [3, 4, 5, 2, 1, 0] rfl)
    exact L18 _ 0 x ((nI bi).toInt64) (by omega) (by rfl) (by exact hk1) (Nat.lt_succ_self _) ls (lv_sub hl [3, 4, 5, 2, 1, 0] rfl)
  · skip
    refine lv_lconst (v := 0) hx hb (dk kX5_bitsOf_0_ok 4 rfl) (by decide) ?_
    exact hret _ _ _ (by first | (rw [bOf, if_neg (by assumption)]; done) | (have e9 := b2_e (n := bi - q2) (x := r2) (e := e2) (by first | exact Or.inr (by assumption) | exact Or.inl (by omega)); rw [← hr2] at e9; rw [bOf, if_pos (by assumption), e9]; rfl)) (dk kX5_bitsOf_0_ok 5 rfl)
