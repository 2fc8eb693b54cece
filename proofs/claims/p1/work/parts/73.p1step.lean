theorem ixn {n : Nat} (h : n < 2 ^ 31) : ix (nI n) = n := nI_clamp h
theorem rf_up {cI : ClassId} {ad : Nat → Nat} {G : Nat → va_E} {r ps sl sd ne fa bu : Nat → Int32} {hs : Bool} {st ln pt : Nat} {th : Int32} {x : va_E} (h : rfAt cI ad G 77 r ps sl sd ne fa bu hs st ln pt th) : rfAt cI ad (va_up G 85 x) 77 r ps sl sd ne fa bu hs st ln pt th := by
  obtain ⟨h0, h1, h2, h3, h4, h5, h6, h7⟩ := h
  refine ⟨?_, ?_, ?_, ?_, ?_, ?_, ?_, ?_⟩
  all_goals rw [va_up_ne _ _ (by decide)]; assumption
theorem stw_mk {l : Launch} {D : va_G} {cI cQ cL : ClassId} {ad : Nat → Nat} {yL : MethodName} {bL : ByteArray} {mL : Nat} {hh : List (Nat × Nat × Nat × Nat)} {y6 : MethodName} {b6 : ByteArray} {m6 : Nat} {F : Nat → va_E} {INV : (Nat → va_E) → Prop} {As : List Value} (kk : Nat) (hkk : kk < 8) {F1 : Nat → va_E} {o : Nat → Int64} {b : Int32}
    (hML : ML l yL (Cond.codeWith yL bL mL (some .int) hh :: LW) RML D cI cQ cL ad 86 F (.ref (ad 0) :: (As ++ [.ref (ad 85)])) (nI kk) F1 1 6) (ho : F1 85 = .inl (cL, 1, .inr (.inl o))) (hob : kk = 0 → o 0 = b.toInt64) {r0 ps0 sl0 sd0 ne0 fa0 bu0 : Nat → Int32} {hs0 : Bool} {st0 ln0 pt0 : Nat} {th0 : Int32} (hR : rfAt cI ad F1 77 r0 ps0 sl0 sd0 ne0 fa0 bu0 hs0 st0 ln0 pt0 th0) {r ps sl sd ne fa bu : Nat → Int32} {hs : Bool} {st ln pt : Nat} {th : Int32} {rm6 : Room}
    (hM6 : MX l y6 (Cond.code y6 b6 m6 (some .int) :: AW) rm6 D cI cQ cL ad 86 F1 (.ref (ad 77) :: As) (dp (some (.int b)) (rfSet cI ad F1 77 r ps sl sd ne fa bu hs st ln pt th)) 0 0) (hth : th = nI kk) (e1 : rm6.cells = 0) (e2 : rm6.slots = 0) (e3 : rm6.frames + 1 ≤ 13) (e4 : 8 + (m6 + 11) + rm6.locals ≤ 476) (hINV : INV (rfSet cI ad F1 77 r ps sl sd ne fa bu hs st ln pt th)) : STw l D cI cQ cL ad 86 yL bL mL hh y6 b6 m6 F INV As :=
  ⟨kk, b, F1, o, _, _, rm6, hkk, ho, hob, hML, hR.1, hM6, e1, e2, e3, e4, fun v G hp => by
    obtain ⟨rfl, rfl⟩ := hp
    exact ⟨rfl, hINV, rfSet_out (by omega), r, ps, sl, sd, ne, fa, bu, hs, st, ln, pt, by rw [← hth]; exact rfSet_at⟩⟩
theorem sts_mk {l : Launch} {D : va_G} {cI cQ cL : ClassId} {ad : Nat → Nat} {y5 : MethodName} {b5 : ByteArray} {m5 : Nat} {y6 : MethodName} {b6 : ByteArray} {m6 : Nat} {ty : FieldType} {ok : Value → Prop} {F : Nat → va_E} {INV : (Nat → va_E) → Prop} {b b' : Value} {F1 : Nat → va_E} {f5 : List Value} (h0 : F 0 = .inr (5, f5)) (hok : ok b) {rm5 rm6 : Room}
    (hM5 : MX l y5 (Cond.code y5 b5 m5 (some ty) :: AW) rm5 D cI cQ cL ad 86 F [.ref (ad 0)] (dp (some b) F1) 0 0) (d1 : rm5.cells = 0) (d2 : rm5.slots = 0) (d3 : rm5.frames + 1 ≤ 13) (d4 : 8 + (m5 + 11) + rm5.locals ≤ 476) {r0 ps0 sl0 sd0 ne0 fa0 bu0 : Nat → Int32} {hs0 : Bool} {st0 ln0 pt0 : Nat} {th0 : Int32} (hR : rfAt cI ad F1 77 r0 ps0 sl0 sd0 ne0 fa0 bu0 hs0 st0 ln0 pt0 th0) {G1 : Nat → va_E}
    (hM6 : MX l y6 (Cond.code y6 b6 m6 (some ty) :: AW) rm6 D cI cQ cL ad 86 F1 [.ref (ad 77)] (dp (some b') G1) 0 0) (hbb : b' = b) (e1 : rm6.cells = 0) (e2 : rm6.slots = 0) (e3 : rm6.frames + 1 ≤ 13) (e4 : 8 + (m6 + 11) + rm6.locals ≤ 476) (hINV : INV G1) : STs l D cI cQ cL ad 86 y5 b5 m5 y6 b6 m6 ty ok F INV :=
  ⟨b, F1, f5, _, _, rm5, rm6, hok, h0, hM5, d1, d2, d3, d4, hR.1, hM6, e1, e2, e3, e4, fun v G hp => by
    obtain ⟨rfl, rfl⟩ := hp
    exact ⟨by rw [hbb], hINV⟩⟩
theorem btw_f {x a m : Int32} (h : ¬ btw x a m = true) : btw x a m = false := by simpa using h
theorem bool_f {b : Bool} (h : ¬ b = true) : b = false := by simpa using h
theorem pW_ok {r : Nat → Int32} {w k : Nat} (hw : w < 16) (hk : k < 7) : pW r (nI w) (nI k) = aWink r w k := by
  unfold pW
  rw [if_pos (btw_nI (by omega)), if_pos (btw_nI (by omega)), ixn (by omega), ixn (by omega)]
theorem pC_ok {r : Nat → Int32} {w k : Nat} (hw : w < 4) (hk : k < 7) : pC r (nI w) (nI k) = aCol r w k := by
  unfold pC
  rw [if_pos (btw_nI (by omega)), if_pos (btw_nI (by omega)), ixn (by omega), ixn (by omega)]
theorem pP_ok {r : Nat → Int32} {x y k : Nat} (hx : x < 13) (hy : y < 13) (hk : k < 4) : pP r (nI x) (nI y) (nI k) = aPile r (nI (13 * y + x)) k := by
  unfold pP
  rw [if_pos (btw_nI (by omega)), if_pos (btw_nI (by omega)), if_pos (btw_nI (by omega)), ixn (by omega), pk_mul, nI_add]
theorem pN_ok {r : Nat → Int32} {st k : Nat} (hk : k < 14) : pN r st (nI k) = aNum r st k := by
  unfold pN
  rw [if_pos (btw_nI (by omega)), ixn (by omega)]
theorem pY_ok {r : Nat → Int32} {x y f d : Nat} (hx : x < 13) (hy : y < 13) (hf : 1 ≤ f ∧ f ≤ 6) (hd : d < 8) : pY r (nI x) (nI y) (nI f) (nI d) = nI (rwl r (13 * y + x) f d) := by
  unfold pY
  rw [if_pos (btw_nI (by omega)), if_pos (btw_nI (by omega)), if_pos (btw_nI (by omega)), if_pos (btw_nI (by omega)), ixn (by omega), ixn (by omega), ixn (by omega), ixn (by omega)]
theorem pL_ok {r : Nat → Int32} {w d f : Nat} (hw : w < 16) (hd : d < 8) (hf : 1 ≤ f ∧ f ≤ 9) : pL r (nI w) (nI d) (nI f) = aLan r w d f := by
  unfold pL
  rw [if_pos (btw_nI (by omega)), if_pos (btw_nI (by omega)), if_pos (btw_nI (by omega)), ixn (by omega), ixn (by omega), ixn (by omega)]
theorem cat_n {x y : Nat} : cat (nI x) (nI y) = nI (13 * y + x) := by unfold cat; rw [pk_mul, nI_add]
theorem rbs_n {x y d : Nat} (hx : x < 13) : rbs (13 * y + x) d = beside (nI x) (nI y) (nI d) := by
  unfold rbs
  rw [show (13 * y + x) % 13 = x by omega, show (13 * y + x) / 13 = y by omega]
/-- why a pile isn't lifted, told in both ways, at the first state -/
theorem fd_why {x y f d : Nat} (hx : x < 13) (hy : y < 13) (hf : 1 ≤ f ∧ f ≤ 6) : wnl row0 (mB 16) (mV 16) 0 (nI 3) (nI x) (nI y) f (nI d) = rwl row0 (13 * y + x) f d := by
  have hq : 13 * y + x < 169 := by omega
  unfold wnl rwl
  rw [cat_n, fd_top _ hq, fd_56.1, fd_56.2, rbs_n hx]
  by_cases h1 : over row0 = true
  · rw [if_pos h1, if_pos h1]
  · rw [if_neg h1, if_neg h1]
    by_cases h2 : low row0 (mB 16) (mV 16) (nI (13 * y + x)) f = -1
    · rw [if_pos h2, if_pos ((fd_low _ hq f (by omega) hf.1).mp h2)]
    · rw [if_neg h2, if_neg (fun h => h2 ((fd_low _ hq f (by omega) hf.1).mpr h))]
theorem fd_rok : rok row0 := by
  refine ⟨by unfold rTu; rw [fd_56.1]; exact ⟨by decide, by decide⟩, fun i hi => Or.inl (fd_lo i hi), fun w hw _ => ⟨bs (w / 4), ?_, fd_c9 w hw⟩, fun w hw _ => fd_lo _ (by omega), ?_⟩
  · exact (show ∀ w, w < 16 → bs (w / 4) < 169 by decide) w hw
  · intro q n d hq hn hn6 hd h
    unfold rwl at h
    rw [if_neg (by rw [fd_over]; decide)] at h
    by_cases h2 : hgt row0 (nI q) < n
    · rw [if_pos h2] at h; omega
    · rw [if_neg h2] at h
      by_cases h3 : ¬ wat row0 (nI q) (nI (hgt row0 (nI q) - 1)) / nI 4 = row0 56
      · rw [if_pos h3] at h; omega
      · rw [if_neg h3] at h
        have hq0 : q = 0 := fd_hgt q hq (by omega) (Decidable.not_not.mp h3)
        subst hq0
        by_cases h4 : ¬ nI n ≤ row0 57
        · rw [if_pos h4] at h; omega
        · have hn4 : n < 4 := by
            have h5 : nI n ≤ nI 3 := by rw [← fd_56.2]; exact Decidable.not_not.mp h4
            have := (nI_leI (by omega) (by decide)).mp h5
            omega
          exact fun k hk => fd_li n hn4 d hd k hk
theorem fd_nf : ∃ nf, rNF row0 nf := rNF_of (fun w hw _ => ⟨bs (w / 4), (show ∀ w, w < 16 → bs (w / 4) < 169 ∧ bs (w / 4) ≠ 84 by decide) w hw |>.1, (show ∀ w, w < 16 → bs (w / 4) < 169 ∧ bs (w / 4) ≠ 84 by decide) w hw |>.2, fd_c9 w hw⟩)
set_option maxRecDepth 100000 in
theorem p1_wink (l : Launch) (hst : l.stackTraces = false) (D : va_G) (cI cQ cL : ClassId) (b0 : Nat) (x y : Int32) : STw l D cI cQ cL (pb b0) 86 yL_wink cL_wink 5 [(0, 10, 13, 13), (0, 10, 17, 15)] yX6_wink cX6_wink 3 (FM cI cQ cL b0) (fun _ => True) [.int x, .int y] := by
  by_cases hx : wk x = true
  · obtain ⟨w, hw, rfl⟩ := wk_of hx
    have hb := (btw_wk _).trans hx
    by_cases hy : btw y (nI 0) (nI 6) = true
    · obtain ⟨k, rfl, -, hk⟩ := btw_of (by decide) (by decide) hy
      exact stw_mk 0 (by decide) (tL_wink l D cI cQ cL (pb b0) 86 _ (by decide) _ fm_0 (nI w) (nI k) _ _ fm_85 _ (MX_of_MR (tX5_wink l D cI cQ cL (pb b0) 86 _ (by decide) row0 (mB 16) (mV 16) z0 z0 z0 0 (nI 0) (nI 3) fm_N (mC 16) (mB 16) (mV 16) z0 z0 z0 0 (nI 0) (nI 3) fm_S 0 0 (by decide) (by decide) fm_P z0 0 (by decide) fm_T (mC 16) (mB 16) (mV 16) fm_M z0 z0 z0 fm_O false fm_0 (by decide) (nI w) w rfl hw (nI k) hy)) rfl rfl (by decide) (by decide)) (va_up_self _ _ _) (fun _ => by rw [pk_uLs]; rw [fd_wink w hw k (by omega), pW_ok hw (by omega)]) (rf_up fm_r) (tX6_wink l D cI cQ cL (pb b0) 86 _ 77 (by decide) row0 z0 z0 z0 z0 z0 z0 false 0 0 0 (nI 0) (rf_up fm_r) (nI w) (nI k)) (by simp only [tW, hb, hy, if_true]) rfl rfl (by decide) (by decide) trivial
    · have hy := btw_f hy
      exact stw_mk 2 (by decide) (tL_wink_x l D cI cQ cL (pb b0) 86 _ (by decide) _ fm_0 (nI w) y eA 2 (Or.inr ⟨rfl, rfl⟩) (tX5_wink_b2 l hst D cI cQ cL (pb b0) 86 _ (by decide) row0 (mB 16) (mV 16) z0 z0 z0 0 (nI 0) (nI 3) fm_N (mC 16) (mB 16) (mV 16) z0 z0 z0 0 (nI 0) (nI 3) fm_S 0 0 (by decide) (by decide) fm_P z0 0 (by decide) fm_T (mC 16) (mB 16) (mV 16) fm_M z0 z0 z0 fm_O false fm_0 (nI w) w rfl hw y hy) rfl rfl (by decide) (by decide)) fm_85 (fun h => absurd h (by decide)) fm_r (tX6_wink l D cI cQ cL (pb b0) 86 _ 77 (by decide) row0 z0 z0 z0 z0 z0 z0 false 0 0 0 (nI 0) fm_r (nI w) y) (by simp [tW, hb, hy]) rfl rfl (by decide) (by decide) trivial
  · have hx := bool_f hx
    have hb := (btw_wk _).trans hx
    exact stw_mk 1 (by decide) (tL_wink_x l D cI cQ cL (pb b0) 86 _ (by decide) _ fm_0 x y eI 1 (Or.inl ⟨rfl, rfl⟩) (tX5_wink_b1 l hst D cI cQ cL (pb b0) 86 _ (by decide) row0 (mB 16) (mV 16) z0 z0 z0 0 (nI 0) (nI 3) fm_N (mC 16) (mB 16) (mV 16) z0 z0 z0 0 (nI 0) (nI 3) fm_S 0 0 (by decide) (by decide) fm_P z0 0 (by decide) fm_T (mC 16) (mB 16) (mV 16) fm_M z0 z0 z0 fm_O false fm_0 x y hx) rfl rfl (by decide) (by decide)) fm_85 (fun h => absurd h (by decide)) fm_r (tX6_wink l D cI cQ cL (pb b0) 86 _ 77 (by decide) row0 z0 z0 z0 z0 z0 z0 false 0 0 0 (nI 0) fm_r x y) (by simp [tW, hb]) rfl rfl (by decide) (by decide) trivial
set_option maxRecDepth 100000 in
theorem p1_pile (l : Launch) (hst : l.stackTraces = false) (D : va_G) (cI cQ cL : ClassId) (b0 : Nat) (x y z : Int32) : STw l D cI cQ cL (pb b0) 86 yL_pile cL_pile 6 [(0, 12, 15, 13), (0, 12, 19, 15)] yX6_pile cX6_pile 4 (FM cI cQ cL b0) (fun _ => True) [.int x, .int y, .int z] := by
  by_cases h1 : btw x (nI 0) (nI 12) = true
  · by_cases h2 : btw y (nI 0) (nI 12) = true
    · have hon := on_tt h1 h2
      obtain ⟨a, rfl, -, ha⟩ := btw_of (by decide) (by decide) h1
      obtain ⟨b, rfl, -, hb⟩ := btw_of (by decide) (by decide) h2
      by_cases h3 : btw z (nI 0) (nI 3) = true
      · obtain ⟨k, rfl, -, hk⟩ := btw_of (by decide) (by decide) h3
        exact stw_mk 0 (by decide) (tL_pile l D cI cQ cL (pb b0) 86 _ (by decide) _ fm_0 (nI a) (nI b) (nI k) _ _ fm_85 _ (MX_of_MR (tX5_pile l D cI cQ cL (pb b0) 86 _ (by decide) row0 (mB 16) (mV 16) z0 z0 z0 0 (nI 0) (nI 3) fm_N (mC 16) (mB 16) (mV 16) z0 z0 z0 0 (nI 0) (nI 3) fm_S 0 0 (by decide) (by decide) fm_P z0 0 (by decide) fm_T (mC 16) (mB 16) (mV 16) fm_M z0 z0 z0 fm_O false fm_0 (nI a) (nI b) (nI k) hon h3)) rfl rfl (by decide) (by decide)) (va_up_self _ _ _) (fun _ => by rw [pk_uLs]; rw [cat_n, fd_pile _ (by omega) k (by omega), pP_ok (by omega) (by omega) (by omega)]) (rf_up fm_r) (tX6_pile l D cI cQ cL (pb b0) 86 _ 77 (by decide) row0 z0 z0 z0 z0 z0 z0 false 0 0 0 (nI 0) (rf_up fm_r) (nI a) (nI b) (nI k)) (by simp only [tP, h1, h2, h3, if_true]) rfl rfl (by decide) (by decide) trivial
      · have h3 := btw_f h3
        exact stw_mk 2 (by decide) (tL_pile_x l D cI cQ cL (pb b0) 86 _ (by decide) _ fm_0 (nI a) (nI b) z eA 2 (Or.inr ⟨rfl, rfl⟩) (tX5_pile_b2 l hst D cI cQ cL (pb b0) 86 _ (by decide) row0 (mB 16) (mV 16) z0 z0 z0 0 (nI 0) (nI 3) fm_N (mC 16) (mB 16) (mV 16) z0 z0 z0 0 (nI 0) (nI 3) fm_S 0 0 (by decide) (by decide) fm_P z0 0 (by decide) fm_T (mC 16) (mB 16) (mV 16) fm_M z0 z0 z0 fm_O false fm_0 (nI a) (nI b) z hon h3) rfl rfl (by decide) (by decide)) fm_85 (fun h => absurd h (by decide)) fm_r (tX6_pile l D cI cQ cL (pb b0) 86 _ 77 (by decide) row0 z0 z0 z0 z0 z0 z0 false 0 0 0 (nI 0) fm_r (nI a) (nI b) z) (by simp [tP, h1, h2, h3]) rfl rfl (by decide) (by decide) trivial
    · have h2 := btw_f h2
      exact stw_mk 1 (by decide) (tL_pile_x l D cI cQ cL (pb b0) 86 _ (by decide) _ fm_0 x y z eI 1 (Or.inl ⟨rfl, rfl⟩) (tX5_pile_b1 l hst D cI cQ cL (pb b0) 86 _ (by decide) row0 (mB 16) (mV 16) z0 z0 z0 0 (nI 0) (nI 3) fm_N (mC 16) (mB 16) (mV 16) z0 z0 z0 0 (nI 0) (nI 3) fm_S 0 0 (by decide) (by decide) fm_P z0 0 (by decide) fm_T (mC 16) (mB 16) (mV 16) fm_M z0 z0 z0 fm_O false fm_0 x y z (on_f2 h2)) rfl rfl (by decide) (by decide)) fm_85 (fun h => absurd h (by decide)) fm_r (tX6_pile l D cI cQ cL (pb b0) 86 _ 77 (by decide) row0 z0 z0 z0 z0 z0 z0 false 0 0 0 (nI 0) fm_r x y z) (by simp [tP, h1, h2]) rfl rfl (by decide) (by decide) trivial
  · have h1 := btw_f h1
    exact stw_mk 1 (by decide) (tL_pile_x l D cI cQ cL (pb b0) 86 _ (by decide) _ fm_0 x y z eI 1 (Or.inl ⟨rfl, rfl⟩) (tX5_pile_b1 l hst D cI cQ cL (pb b0) 86 _ (by decide) row0 (mB 16) (mV 16) z0 z0 z0 0 (nI 0) (nI 3) fm_N (mC 16) (mB 16) (mV 16) z0 z0 z0 0 (nI 0) (nI 3) fm_S 0 0 (by decide) (by decide) fm_P z0 0 (by decide) fm_T (mC 16) (mB 16) (mV 16) fm_M z0 z0 z0 fm_O false fm_0 x y z (on_f1 h1)) rfl rfl (by decide) (by decide)) fm_85 (fun h => absurd h (by decide)) fm_r (tX6_pile l D cI cQ cL (pb b0) 86 _ 77 (by decide) row0 z0 z0 z0 z0 z0 z0 false 0 0 0 (nI 0) fm_r x y z) (by simp [tP, h1]) rfl rfl (by decide) (by decide) trivial
theorem cl4_b (x : Int32) : btw x (nI 0) (nI 3) = cl4 x := by
  by_cases h : btw x (nI 0) (nI 3) = true
  · obtain ⟨j, rfl, -, hj⟩ := btw_of (by decide) (by decide) h
    rw [h, cl4_nI (by omega)]
  · have h := btw_f h
    rw [h]
    by_cases h2 : cl4 x = true
    · exfalso
      unfold cl4 at h2
      simp only [Bool.and_eq_true, Bool.not_eq_true', decide_eq_false_iff_not] at h2
      obtain ⟨j, hj, rfl⟩ := nI_of h2.1
      have h3 : j < 4 := Nat.lt_of_not_le fun q => h2.2 (nI_le q hj)
      rw [btw_nI (by omega)] at h
      cases h
    · exact (bool_f h2).symm
set_option maxRecDepth 100000 in
theorem p1_colour (l : Launch) (hst : l.stackTraces = false) (D : va_G) (cI cQ cL : ClassId) (b0 : Nat) (x y : Int32) : STw l D cI cQ cL (pb b0) 86 yL_colour cL_colour 5 [(0, 10, 13, 13), (0, 10, 17, 15)] yX6_colour cX6_colour 3 (FM cI cQ cL b0) (fun _ => True) [.int x, .int y] := by
  by_cases hb : btw x (nI 0) (nI 3) = true
  · obtain ⟨w, rfl, -, hw⟩ := btw_of (by decide) (by decide) hb
    by_cases hy : btw y (nI 0) (nI 6) = true
    · obtain ⟨k, rfl, -, hk⟩ := btw_of (by decide) (by decide) hy
      exact stw_mk 0 (by decide) (tL_colour l D cI cQ cL (pb b0) 86 _ (by decide) _ fm_0 (nI w) (nI k) _ _ fm_85 _ (MX_of_MR (tX5_colour l D cI cQ cL (pb b0) 86 _ (by decide) row0 (mB 16) (mV 16) z0 z0 z0 0 (nI 0) (nI 3) fm_N (mC 16) (mB 16) (mV 16) z0 z0 z0 0 (nI 0) (nI 3) fm_S 0 0 (by decide) (by decide) fm_P z0 0 (by decide) fm_T (mC 16) (mB 16) (mV 16) fm_M z0 z0 z0 fm_O false fm_0 (nI w) w rfl (by omega) (nI k) hy)) rfl rfl (by decide) (by decide)) (va_up_self _ _ _) (fun _ => by rw [pk_uLs]; rw [fd_col w (by omega) k (by omega), pC_ok (by omega) (by omega)]) (rf_up fm_r) (tX6_colour l D cI cQ cL (pb b0) 86 _ 77 (by decide) row0 z0 z0 z0 z0 z0 z0 false 0 0 0 (nI 0) (rf_up fm_r) (nI w) (nI k)) (by simp only [tW, hb, hy, if_true]) rfl rfl (by decide) (by decide) trivial
    · have hy := btw_f hy
      exact stw_mk 2 (by decide) (tL_colour_x l D cI cQ cL (pb b0) 86 _ (by decide) _ fm_0 (nI w) y eA 2 (Or.inr ⟨rfl, rfl⟩) (tX5_colour_b2 l hst D cI cQ cL (pb b0) 86 _ (by decide) row0 (mB 16) (mV 16) z0 z0 z0 0 (nI 0) (nI 3) fm_N (mC 16) (mB 16) (mV 16) z0 z0 z0 0 (nI 0) (nI 3) fm_S 0 0 (by decide) (by decide) fm_P z0 0 (by decide) fm_T (mC 16) (mB 16) (mV 16) fm_M z0 z0 z0 fm_O false fm_0 (nI w) w rfl (by omega) y hy) rfl rfl (by decide) (by decide)) fm_85 (fun h => absurd h (by decide)) fm_r (tX6_colour l D cI cQ cL (pb b0) 86 _ 77 (by decide) row0 z0 z0 z0 z0 z0 z0 false 0 0 0 (nI 0) fm_r (nI w) y) (by simp [tW, hb, hy]) rfl rfl (by decide) (by decide) trivial
  · have hb := btw_f hb
    exact stw_mk 1 (by decide) (tL_colour_x l D cI cQ cL (pb b0) 86 _ (by decide) _ fm_0 x y eI 1 (Or.inl ⟨rfl, rfl⟩) (tX5_colour_b1 l hst D cI cQ cL (pb b0) 86 _ (by decide) row0 (mB 16) (mV 16) z0 z0 z0 0 (nI 0) (nI 3) fm_N (mC 16) (mB 16) (mV 16) z0 z0 z0 0 (nI 0) (nI 3) fm_S 0 0 (by decide) (by decide) fm_P z0 0 (by decide) fm_T (mC 16) (mB 16) (mV 16) fm_M z0 z0 z0 fm_O false fm_0 x y ((cl4_b x).symm.trans hb)) rfl rfl (by decide) (by decide)) fm_85 (fun h => absurd h (by decide)) fm_r (tX6_colour l D cI cQ cL (pb b0) 86 _ 77 (by decide) row0 z0 z0 z0 z0 z0 z0 false 0 0 0 (nI 0) fm_r x y) (by simp [tW, hb]) rfl rfl (by decide) (by decide) trivial
set_option maxRecDepth 100000 in
theorem p1_count (l : Launch) (hst : l.stackTraces = false) (D : va_G) (cI cQ cL : ClassId) (b0 : Nat) (x : Int32) : STw l D cI cQ cL (pb b0) 86 yL_count cL_count 4 [(0, 9, 12, 15)] yX6_count cX6_count 2 (FM cI cQ cL b0) (fun _ => True) [.int x] := by
  by_cases hy : btw x (nI 0) (nI 13) = true
  · obtain ⟨k, rfl, -, hk⟩ := btw_of (by decide) (by decide) hy
    exact stw_mk 0 (by decide) (tL_count l D cI cQ cL (pb b0) 86 _ (by decide) _ fm_0 (nI k) _ _ fm_85 _ (MX_of_MR (tX5_count l D cI cQ cL (pb b0) 86 _ (by decide) row0 (mB 16) (mV 16) z0 z0 z0 0 (nI 0) (nI 3) fm_N (mC 16) (mB 16) (mV 16) z0 z0 z0 0 (nI 0) (nI 3) fm_S 0 0 (by decide) (by decide) fm_P z0 0 (by decide) fm_T (mC 16) (mB 16) (mV 16) fm_M z0 z0 z0 fm_O false fm_0 (nI k) hy)) rfl rfl (by decide) (by decide)) (va_up_self _ _ _) (fun _ => by rw [pk_uLs]; rw [fd_cnt k (by omega), pN_ok (by omega)]) (rf_up fm_r) (tX6_count l D cI cQ cL (pb b0) 86 _ 77 (by decide) row0 z0 z0 z0 z0 z0 z0 false 0 0 0 (nI 0) (rf_up fm_r) (nI k)) (by simp only [tN, hy, if_true]) rfl rfl (by decide) (by decide) trivial
  · have hy := btw_f hy
    exact stw_mk 1 (by decide) (tL_count_x l D cI cQ cL (pb b0) 86 _ (by decide) _ fm_0 x eA 1 ⟨rfl, rfl⟩ (tX5_count_b1 l hst D cI cQ cL (pb b0) 86 _ (by decide) row0 (mB 16) (mV 16) z0 z0 z0 0 (nI 0) (nI 3) fm_N (mC 16) (mB 16) (mV 16) z0 z0 z0 0 (nI 0) (nI 3) fm_S 0 0 (by decide) (by decide) fm_P z0 0 (by decide) fm_T (mC 16) (mB 16) (mV 16) fm_M z0 z0 z0 fm_O false fm_0 x hy) rfl rfl (by decide) (by decide)) fm_85 (fun h => absurd h (by decide)) fm_r (tX6_count l D cI cQ cL (pb b0) 86 _ 77 (by decide) row0 z0 z0 z0 z0 z0 z0 false 0 0 0 (nI 0) fm_r x) (by simp [tN, hy]) rfl rfl (by decide) (by decide) trivial
set_option maxRecDepth 100000 in
theorem p1_why (l : Launch) (hst : l.stackTraces = false) (D : va_G) (cI cQ cL : ClassId) (b0 : Nat) (x y z z2 : Int32) : STw l D cI cQ cL (pb b0) 86 yL_why cL_why 7 [(0, 14, 17, 13), (0, 14, 21, 15)] yX6_why cX6_why 5 (FM cI cQ cL b0) (fun _ => True) [.int x, .int y, .int z, .int z2] := by
  by_cases h1 : btw x (nI 0) (nI 12) = true
  · by_cases h2 : btw y (nI 0) (nI 12) = true
    · have hon := on_tt h1 h2
      obtain ⟨a, rfl, -, ha⟩ := btw_of (by decide) (by decide) h1
      obtain ⟨b, rfl, -, hb⟩ := btw_of (by decide) (by decide) h2
      by_cases h3 : btw z (nI 1) (nI 6) = true
      · obtain ⟨f, rfl, hf1, hf2⟩ := btw_of (by decide) (by decide) h3
        by_cases h4 : btw z2 (nI 0) (nI 7) = true
        · obtain ⟨d, rfl, -, hd⟩ := btw_of (by decide) (by decide) h4
          exact stw_mk 0 (by decide) (tL_why l D cI cQ cL (pb b0) 86 _ (by decide) _ fm_0 (nI a) (nI b) (nI f) (nI d) _ _ fm_85 _ (MX_of_MR (tX5_why l D cI cQ cL (pb b0) 86 _ (by decide) row0 (mB 16) (mV 16) z0 z0 z0 0 (nI 0) (nI 3) fm_N (mC 16) (mB 16) (mV 16) z0 z0 z0 0 (nI 0) (nI 3) fm_S 0 0 (by decide) (by decide) fm_P z0 0 (by decide) fm_T (mC 16) (mB 16) (mV 16) fm_M z0 z0 z0 fm_O false fm_0 (nI a) (nI b) (nI f) f rfl ⟨hf1, hf2⟩ (nI d) h4 hon)) rfl rfl (by decide) (by decide)) (va_up_self _ _ _) (fun _ => by rw [pk_uLs]; rw [fd_why (by omega) (by omega) ⟨hf1, hf2⟩, pY_ok (by omega) (by omega) ⟨hf1, hf2⟩ (by omega)]) (rf_up fm_r) (tX6_why l D cI cQ cL (pb b0) 86 _ 77 (by decide) row0 z0 z0 z0 z0 z0 z0 false 0 0 0 (nI 0) (rf_up fm_r) (nI a) (nI b) (nI f) (nI d)) (by simp only [tY, h1, h2, h3, h4, if_true]) rfl rfl (by decide) (by decide) trivial
        · have h4 := btw_f h4
          exact stw_mk 2 (by decide) (tL_why_x l D cI cQ cL (pb b0) 86 _ (by decide) _ fm_0 (nI a) (nI b) (nI f) z2 eA 2 (Or.inr ⟨rfl, rfl⟩) (tX5_why_b3 l hst D cI cQ cL (pb b0) 86 _ (by decide) row0 (mB 16) (mV 16) z0 z0 z0 0 (nI 0) (nI 3) fm_N (mC 16) (mB 16) (mV 16) z0 z0 z0 0 (nI 0) (nI 3) fm_S 0 0 (by decide) (by decide) fm_P z0 0 (by decide) fm_T (mC 16) (mB 16) (mV 16) fm_M z0 z0 z0 fm_O false fm_0 (nI a) (nI b) (nI f) z2 hon h3 h4) rfl rfl (by decide) (by decide)) fm_85 (fun h => absurd h (by decide)) fm_r (tX6_why l D cI cQ cL (pb b0) 86 _ 77 (by decide) row0 z0 z0 z0 z0 z0 z0 false 0 0 0 (nI 0) fm_r (nI a) (nI b) (nI f) z2) (by simp [tY, h1, h2, h3, h4]) rfl rfl (by decide) (by decide) trivial
      · have h3 := btw_f h3
        exact stw_mk 2 (by decide) (tL_why_x l D cI cQ cL (pb b0) 86 _ (by decide) _ fm_0 (nI a) (nI b) z z2 eA 2 (Or.inr ⟨rfl, rfl⟩) (tX5_why_b2 l hst D cI cQ cL (pb b0) 86 _ (by decide) row0 (mB 16) (mV 16) z0 z0 z0 0 (nI 0) (nI 3) fm_N (mC 16) (mB 16) (mV 16) z0 z0 z0 0 (nI 0) (nI 3) fm_S 0 0 (by decide) (by decide) fm_P z0 0 (by decide) fm_T (mC 16) (mB 16) (mV 16) fm_M z0 z0 z0 fm_O false fm_0 (nI a) (nI b) z z2 hon h3) rfl rfl (by decide) (by decide)) fm_85 (fun h => absurd h (by decide)) fm_r (tX6_why l D cI cQ cL (pb b0) 86 _ 77 (by decide) row0 z0 z0 z0 z0 z0 z0 false 0 0 0 (nI 0) fm_r (nI a) (nI b) z z2) (by simp [tY, h1, h2, h3]) rfl rfl (by decide) (by decide) trivial
    · have h2 := btw_f h2
      exact stw_mk 1 (by decide) (tL_why_x l D cI cQ cL (pb b0) 86 _ (by decide) _ fm_0 x y z z2 eI 1 (Or.inl ⟨rfl, rfl⟩) (tX5_why_b1 l hst D cI cQ cL (pb b0) 86 _ (by decide) row0 (mB 16) (mV 16) z0 z0 z0 0 (nI 0) (nI 3) fm_N (mC 16) (mB 16) (mV 16) z0 z0 z0 0 (nI 0) (nI 3) fm_S 0 0 (by decide) (by decide) fm_P z0 0 (by decide) fm_T (mC 16) (mB 16) (mV 16) fm_M z0 z0 z0 fm_O false fm_0 x y z z2 (on_f2 h2)) rfl rfl (by decide) (by decide)) fm_85 (fun h => absurd h (by decide)) fm_r (tX6_why l D cI cQ cL (pb b0) 86 _ 77 (by decide) row0 z0 z0 z0 z0 z0 z0 false 0 0 0 (nI 0) fm_r x y z z2) (by simp [tY, h1, h2]) rfl rfl (by decide) (by decide) trivial
  · have h1 := btw_f h1
    exact stw_mk 1 (by decide) (tL_why_x l D cI cQ cL (pb b0) 86 _ (by decide) _ fm_0 x y z z2 eI 1 (Or.inl ⟨rfl, rfl⟩) (tX5_why_b1 l hst D cI cQ cL (pb b0) 86 _ (by decide) row0 (mB 16) (mV 16) z0 z0 z0 0 (nI 0) (nI 3) fm_N (mC 16) (mB 16) (mV 16) z0 z0 z0 0 (nI 0) (nI 3) fm_S 0 0 (by decide) (by decide) fm_P z0 0 (by decide) fm_T (mC 16) (mB 16) (mV 16) fm_M z0 z0 z0 fm_O false fm_0 x y z z2 (on_f1 h1)) rfl rfl (by decide) (by decide)) fm_85 (fun h => absurd h (by decide)) fm_r (tX6_why l D cI cQ cL (pb b0) 86 _ 77 (by decide) row0 z0 z0 z0 z0 z0 z0 false 0 0 0 (nI 0) fm_r x y z z2) (by simp [tY, h1]) rfl rfl (by decide) (by decide) trivial
set_option maxRecDepth 100000 in
theorem p1_lands (l : Launch) (hst : l.stackTraces = false) (D : va_G) (cI cQ cL : ClassId) (b0 : Nat) (x y z : Int32) : STw l D cI cQ cL (pb b0) 86 yL_lands cL_lands 6 [(0, 12, 15, 13), (0, 12, 19, 15)] yX6_lands cX6_lands 4 (FM cI cQ cL b0) (fun _ => True) [.int x, .int y, .int z] := by
  by_cases hx : wk x = true
  · obtain ⟨w, hw, rfl⟩ := wk_of hx
    have hb := (btw_wk _).trans hx
    by_cases hd : btw y (nI 0) (nI 7) = true
    · by_cases hf : btw z (nI 1) (nI 9) = true
      · obtain ⟨d, rfl, -, hd7⟩ := btw_of (by decide) (by decide) hd
        obtain ⟨f, rfl, hf1, hf2⟩ := btw_of (by decide) (by decide) hf
        exact stw_mk 0 (by decide) (tL_lands l D cI cQ cL (pb b0) 86 _ (by decide) _ fm_0 (nI w) (nI d) (nI f) _ _ fm_85 _ (MX_of_MR (tX5_lands l D cI cQ cL (pb b0) 86 _ (by decide) row0 (mB 16) (mV 16) z0 z0 z0 0 (nI 0) (nI 3) fm_N (mC 16) (mB 16) (mV 16) z0 z0 z0 0 (nI 0) (nI 3) fm_S 0 0 (by decide) (by decide) fm_P z0 0 (by decide) fm_T (mC 16) (mB 16) (mV 16) fm_M z0 z0 z0 fm_O false fm_0 (nI w) w rfl hw (nI d) hd (nI f) f rfl ⟨hf1, hf2⟩)) rfl rfl (by decide) (by decide)) (va_up_self _ _ _) (fun _ => by rw [pk_uLs]; rw [pL_ok hw (by omega) ⟨hf1, hf2⟩]; rfl) (rf_up fm_r) (tX6_lands l D cI cQ cL (pb b0) 86 _ 77 (by decide) row0 z0 z0 z0 z0 z0 z0 false 0 0 0 (nI 0) (rf_up fm_r) (nI w) (nI d) (nI f) fd_rok) (by simp only [tL, hb, hd, hf, if_true]) rfl rfl (by decide) (by decide) trivial
      · have hf := btw_f hf
        exact stw_mk 2 (by decide) (tL_lands_x l D cI cQ cL (pb b0) 86 _ (by decide) _ fm_0 (nI w) y z eA 2 (Or.inr ⟨rfl, rfl⟩) (tX5_lands_b3 l hst D cI cQ cL (pb b0) 86 _ (by decide) row0 (mB 16) (mV 16) z0 z0 z0 0 (nI 0) (nI 3) fm_N (mC 16) (mB 16) (mV 16) z0 z0 z0 0 (nI 0) (nI 3) fm_S 0 0 (by decide) (by decide) fm_P z0 0 (by decide) fm_T (mC 16) (mB 16) (mV 16) fm_M z0 z0 z0 fm_O false fm_0 (nI w) w rfl hw y z hd hf) rfl rfl (by decide) (by decide)) fm_85 (fun h => absurd h (by decide)) fm_r (tX6_lands l D cI cQ cL (pb b0) 86 _ 77 (by decide) row0 z0 z0 z0 z0 z0 z0 false 0 0 0 (nI 0) fm_r (nI w) y z fd_rok) (by simp [tL, hb, hd, hf]) rfl rfl (by decide) (by decide) trivial
    · have hd := btw_f hd
      exact stw_mk 2 (by decide) (tL_lands_x l D cI cQ cL (pb b0) 86 _ (by decide) _ fm_0 (nI w) y z eA 2 (Or.inr ⟨rfl, rfl⟩) (tX5_lands_b2 l hst D cI cQ cL (pb b0) 86 _ (by decide) row0 (mB 16) (mV 16) z0 z0 z0 0 (nI 0) (nI 3) fm_N (mC 16) (mB 16) (mV 16) z0 z0 z0 0 (nI 0) (nI 3) fm_S 0 0 (by decide) (by decide) fm_P z0 0 (by decide) fm_T (mC 16) (mB 16) (mV 16) fm_M z0 z0 z0 fm_O false fm_0 (nI w) w rfl hw y z hd) rfl rfl (by decide) (by decide)) fm_85 (fun h => absurd h (by decide)) fm_r (tX6_lands l D cI cQ cL (pb b0) 86 _ 77 (by decide) row0 z0 z0 z0 z0 z0 z0 false 0 0 0 (nI 0) fm_r (nI w) y z fd_rok) (by simp [tL, hb, hd]) rfl rfl (by decide) (by decide) trivial
  · have hx := bool_f hx
    have hb := (btw_wk _).trans hx
    exact stw_mk 1 (by decide) (tL_lands_x l D cI cQ cL (pb b0) 86 _ (by decide) _ fm_0 x y z eI 1 (Or.inl ⟨rfl, rfl⟩) (tX5_lands_b1 l hst D cI cQ cL (pb b0) 86 _ (by decide) row0 (mB 16) (mV 16) z0 z0 z0 0 (nI 0) (nI 3) fm_N (mC 16) (mB 16) (mV 16) z0 z0 z0 0 (nI 0) (nI 3) fm_S 0 0 (by decide) (by decide) fm_P z0 0 (by decide) fm_T (mC 16) (mB 16) (mV 16) fm_M z0 z0 z0 fm_O false fm_0 x y z hx) rfl rfl (by decide) (by decide)) fm_85 (fun h => absurd h (by decide)) fm_r (tX6_lands l D cI cQ cL (pb b0) 86 _ 77 (by decide) row0 z0 z0 z0 z0 z0 z0 false 0 0 0 (nI 0) fm_r x y z fd_rok) (by simp [tL, hb]) rfl rfl (by decide) (by decide) trivial
theorem pI_ok {r : Nat → Int32} {w d f a : Nat} (hw : w < 16) (hd : d < 8) (hf : 1 ≤ f ∧ f ≤ 9) (ha : a < 2) : pI r (nI w) (nI d) (nI f) (nI a) = if rwn r w = 0 then aBr r w d f a else -1000 := by
  unfold pI
  rw [if_pos (btw_nI (by omega)), if_pos (btw_nI (by omega)), if_pos (btw_nI (by omega)), if_pos (btw_nI (by omega)), ixn (by omega), ixn (by omega), ixn (by omega), ixn (by omega)]
set_option maxRecDepth 100000 in
theorem p1_ifFlown (l : Launch) (hst : l.stackTraces = false) (D : va_G) (cI cQ cL : ClassId) (b0 : Nat) (x y z z2 : Int32) : STw l D cI cQ cL (pb b0) 86 yL_ifFlown cL_ifFlown 7 [(0, 14, 17, 13), (0, 14, 21, 15)] yX6_ifFlown cX6_ifFlown 5 (FM cI cQ cL b0) (fun _ => True) [.int x, .int y, .int z, .int z2] := by
  by_cases hx : wk x = true
  · obtain ⟨w, hw, rfl⟩ := wk_of hx
    have hb := (btw_wk _).trans hx
    by_cases hd : btw y (nI 0) (nI 7) = true
    · by_cases hf : btw z (nI 1) (nI 9) = true
      · obtain ⟨d, rfl, -, hd7⟩ := btw_of (by decide) (by decide) hd
        obtain ⟨f, rfl, hf1, hf2⟩ := btw_of (by decide) (by decide) hf
        by_cases ha : btw z2 (nI 0) (nI 1) = true
        · obtain ⟨a, rfl, -, ha1⟩ := btw_of (by decide) (by decide) ha
          by_cases hwn : wnf row0 (mV 16) 0 w = 0
          · have hw3 : w = 3 := fd_rwn w hw (by rw [← fd_wnf w hw]; exact hwn)
            subst hw3
            exact stw_mk 0 (by decide) (tL_ifFlown l D cI cQ cL (pb b0) 86 _ (by decide) _ fm_0 (nI 3) (nI d) (nI f) (nI a) _ _ rfl _ (tX5_ifFlown l D cI cQ cL (pb b0) 86 _ (by decide) row0 (mB 16) (mV 16) z0 z0 z0 0 (nI 0) (nI 3) fm_N (mC 16) (mB 16) (mV 16) z0 z0 z0 0 (nI 0) (nI 3) fm_S 0 0 (by decide) (by decide) fm_P z0 0 (by decide) fm_T (mC 16) (mB 16) (mV 16) fm_M z0 z0 z0 fm_O false fm_0 (by decide) (nI 3) 3 rfl hw (nI d) hd (nI f) f rfl ⟨hf1, hf2⟩ (nI a) ha hwn) rfl rfl (by decide) (by decide)) (va_up_self _ _ _) (fun _ => by rw [pk_uLs]; rw [fd_if d (by omega) f (by omega) hf1 a (by omega), pI_ok hw (by omega) ⟨hf1, hf2⟩ (by omega), if_pos (by rw [← fd_wnf 3 hw]; exact hwn)]) (rf_up ⟨rfl, rfl, rfl, rfl, rfl, rfl, rfl, rfl⟩) (tX6_ifFlown l D cI cQ cL (pb b0) 86 _ 77 (by decide) row0 z0 z0 z0 z0 z0 z0 false 0 0 0 (nI 0) (rf_up ⟨rfl, rfl, rfl, rfl, rfl, rfl, rfl, rfl⟩) (nI 3) (nI d) (nI f) (nI a) fd_rok) (by simp only [tI, hb, hd, hf, ha, if_true]) rfl rfl (by decide) (by decide) trivial
          · exact stw_mk 0 (by decide) (tL_ifFlown l D cI cQ cL (pb b0) 86 _ (by decide) _ fm_0 (nI w) (nI d) (nI f) (nI a) _ _ fm_85 _ (MX_of_MR (tX5_ifFlownX l D cI cQ cL (pb b0) 86 _ (by decide) row0 (mB 16) (mV 16) z0 z0 z0 0 (nI 0) (nI 3) fm_N (mC 16) (mB 16) (mV 16) z0 z0 z0 0 (nI 0) (nI 3) fm_S 0 0 (by decide) (by decide) fm_P z0 0 (by decide) fm_T (mC 16) (mB 16) (mV 16) fm_M z0 z0 z0 fm_O false fm_0 (by decide) (nI w) w rfl hw (nI d) hd (nI f) f rfl ⟨hf1, hf2⟩ (nI a) ha hwn)) rfl rfl (by decide) (by decide)) (va_up_self _ _ _) (fun _ => by rw [pk_uLs]; rw [pI_ok hw (by omega) ⟨hf1, hf2⟩ (by omega), if_neg (by rw [← fd_wnf w hw]; exact hwn)]) (rf_up fm_r) (tX6_ifFlown l D cI cQ cL (pb b0) 86 _ 77 (by decide) row0 z0 z0 z0 z0 z0 z0 false 0 0 0 (nI 0) (rf_up fm_r) (nI w) (nI d) (nI f) (nI a) fd_rok) (by simp only [tI, hb, hd, hf, ha, if_true]) rfl rfl (by decide) (by decide) trivial
        · have ha := btw_f ha
          exact stw_mk 2 (by decide) (tL_ifFlown_x l D cI cQ cL (pb b0) 86 _ (by decide) _ fm_0 (nI w) (nI d) (nI f) z2 eA 2 (Or.inr ⟨rfl, rfl⟩) (tX5_ifFlownX_b4 l hst D cI cQ cL (pb b0) 86 _ (by decide) row0 (mB 16) (mV 16) z0 z0 z0 0 (nI 0) (nI 3) fm_N (mC 16) (mB 16) (mV 16) z0 z0 z0 0 (nI 0) (nI 3) fm_S 0 0 (by decide) (by decide) fm_P z0 0 (by decide) fm_T (mC 16) (mB 16) (mV 16) fm_M z0 z0 z0 fm_O false fm_0 (nI w) w rfl hw (nI d) hd (nI f) f rfl ⟨hf1, hf2⟩ z2 ha) rfl rfl (by decide) (by decide)) fm_85 (fun h => absurd h (by decide)) fm_r (tX6_ifFlown l D cI cQ cL (pb b0) 86 _ 77 (by decide) row0 z0 z0 z0 z0 z0 z0 false 0 0 0 (nI 0) fm_r (nI w) (nI d) (nI f) z2 fd_rok) (by simp [tI, hb, hd, hf, ha]) rfl rfl (by decide) (by decide) trivial
      · have hf := btw_f hf
        exact stw_mk 2 (by decide) (tL_ifFlown_x l D cI cQ cL (pb b0) 86 _ (by decide) _ fm_0 (nI w) y z z2 eA 2 (Or.inr ⟨rfl, rfl⟩) (tX5_ifFlownX_b3 l hst D cI cQ cL (pb b0) 86 _ (by decide) row0 (mB 16) (mV 16) z0 z0 z0 0 (nI 0) (nI 3) fm_N (mC 16) (mB 16) (mV 16) z0 z0 z0 0 (nI 0) (nI 3) fm_S 0 0 (by decide) (by decide) fm_P z0 0 (by decide) fm_T (mC 16) (mB 16) (mV 16) fm_M z0 z0 z0 fm_O false fm_0 (nI w) w rfl hw y z hd hf z2) rfl rfl (by decide) (by decide)) fm_85 (fun h => absurd h (by decide)) fm_r (tX6_ifFlown l D cI cQ cL (pb b0) 86 _ 77 (by decide) row0 z0 z0 z0 z0 z0 z0 false 0 0 0 (nI 0) fm_r (nI w) y z z2 fd_rok) (by simp [tI, hb, hd, hf]) rfl rfl (by decide) (by decide) trivial
    · have hd := btw_f hd
      exact stw_mk 2 (by decide) (tL_ifFlown_x l D cI cQ cL (pb b0) 86 _ (by decide) _ fm_0 (nI w) y z z2 eA 2 (Or.inr ⟨rfl, rfl⟩) (tX5_ifFlownX_b2 l hst D cI cQ cL (pb b0) 86 _ (by decide) row0 (mB 16) (mV 16) z0 z0 z0 0 (nI 0) (nI 3) fm_N (mC 16) (mB 16) (mV 16) z0 z0 z0 0 (nI 0) (nI 3) fm_S 0 0 (by decide) (by decide) fm_P z0 0 (by decide) fm_T (mC 16) (mB 16) (mV 16) fm_M z0 z0 z0 fm_O false fm_0 (nI w) w rfl hw y z hd z2) rfl rfl (by decide) (by decide)) fm_85 (fun h => absurd h (by decide)) fm_r (tX6_ifFlown l D cI cQ cL (pb b0) 86 _ 77 (by decide) row0 z0 z0 z0 z0 z0 z0 false 0 0 0 (nI 0) fm_r (nI w) y z z2 fd_rok) (by simp [tI, hb, hd]) rfl rfl (by decide) (by decide) trivial
  · have hx := bool_f hx
    have hb := (btw_wk _).trans hx
    exact stw_mk 1 (by decide) (tL_ifFlown_x l D cI cQ cL (pb b0) 86 _ (by decide) _ fm_0 x y z z2 eI 1 (Or.inl ⟨rfl, rfl⟩) (tX5_ifFlownX_b1 l hst D cI cQ cL (pb b0) 86 _ (by decide) row0 (mB 16) (mV 16) z0 z0 z0 0 (nI 0) (nI 3) fm_N (mC 16) (mB 16) (mV 16) z0 z0 z0 0 (nI 0) (nI 3) fm_S 0 0 (by decide) (by decide) fm_P z0 0 (by decide) fm_T (mC 16) (mB 16) (mV 16) fm_M z0 z0 z0 fm_O false fm_0 x y z hx z2) rfl rfl (by decide) (by decide)) fm_85 (fun h => absurd h (by decide)) fm_r (tX6_ifFlown l D cI cQ cL (pb b0) 86 _ 77 (by decide) row0 z0 z0 z0 z0 z0 z0 false 0 0 0 (nI 0) fm_r x y z z2 fd_rok) (by simp [tI, hb]) rfl rfl (by decide) (by decide) trivial
set_option maxRecDepth 100000 in
theorem p1_fly (l : Launch) (hst : l.stackTraces = false) (D : va_G) (cI cQ cL : ClassId) (b0 : Nat) (x y z : Int32) : STw l D cI cQ cL (pb b0) 86 yL_fly cL_fly 6 [(0, 12, 15, 13), (0, 12, 19, 15), (0, 12, 23, 17)] yX6_fly cX6_fly 4 (FM cI cQ cL b0) (fun _ => True) [.int x, .int y, .int z] := by
  by_cases hx : wk x = true
  · obtain ⟨w, hw, rfl⟩ := wk_of hx
    have hb := (btw_wk _).trans hx
    by_cases hd : btw y (nI 0) (nI 7) = true
    · by_cases hf : btw z (nI 1) (nI 9) = true
      · obtain ⟨d, rfl, -, hd7⟩ := btw_of (by decide) (by decide) hd
        obtain ⟨f, rfl, hf1, hf2⟩ := btw_of (by decide) (by decide) hf
        by_cases hwn : wnf row0 (mV 16) 0 w = 0
        · exact stw_mk 0 (by decide) (tL_fly l D cI cQ cL (pb b0) 86 _ (by decide) _ fm_0 (nI w) (nI d) (nI f) _ _ rfl _ (tX5_fly l D cI cQ cL (pb b0) 86 _ (by decide) row0 (mB 16) (mV 16) z0 z0 z0 0 (nI 0) (nI 3) fm_N (mC 16) (mB 16) (mV 16) z0 z0 z0 0 (nI 0) (nI 3) fm_S 0 0 (by decide) (by decide) fm_P z0 0 (by decide) fm_T (mC 16) (mB 16) (mV 16) fm_M z0 z0 z0 fm_O false fm_0 (mC 16) (mB 16) (mV 16) z0 z0 z0 0 (nI 0) (nI 3) fm_R (by decide) (nI w) w rfl hw (nI d) hd (nI f) f rfl ⟨hf1, hf2⟩ hwn) rfl rfl (by decide) (by decide)) (va_up_self _ _ _) (fun _ => by rw [pk_uLs]; rw [if_pos (gF_t hb hd hf (by rw [ixn (by omega), ← fd_wnf w hw]; exact hwn)), ixn (by omega), ixn (by omega), ixn (by omega)]; rfl) (rf_up ⟨rfl, rfl, rfl, rfl, rfl, rfl, rfl, rfl⟩) (tX6_fly l D cI cQ cL (pb b0) 86 _ 77 (by decide) row0 z0 z0 z0 z0 z0 z0 false 0 0 0 (nI 0) (rf_up ⟨rfl, rfl, rfl, rfl, rfl, rfl, rfl, rfl⟩) (nI w) (nI d) (nI f) (by decide) fd_rok) (by simp only [tF, hb, hd, hf, if_true]; rw [if_pos (by rw [ixn (by omega), ← fd_wnf w hw]; exact hwn)]) rfl rfl (by decide) (by decide) trivial
        · exact stw_mk 3 (by decide) (tL_fly_x l D cI cQ cL (pb b0) 86 _ (by decide) _ fm_0 (nI w) (nI d) (nI f) eS 3 (Or.inr (Or.inr ⟨rfl, rfl⟩)) (tX5_flyX_b4 l hst D cI cQ cL (pb b0) 86 _ (by decide) row0 (mB 16) (mV 16) z0 z0 z0 0 (nI 0) (nI 3) fm_N (mC 16) (mB 16) (mV 16) z0 z0 z0 0 (nI 0) (nI 3) fm_S 0 0 (by decide) (by decide) fm_P z0 0 (by decide) fm_T (mC 16) (mB 16) (mV 16) fm_M z0 z0 z0 fm_O false fm_0 (by decide) (nI w) w rfl hw (nI d) hd (nI f) f rfl ⟨hf1, hf2⟩ hwn) rfl rfl (by decide) (by decide)) fm_85 (fun h => absurd h (by decide)) fm_r (tX6_fly l D cI cQ cL (pb b0) 86 _ 77 (by decide) row0 z0 z0 z0 z0 z0 z0 false 0 0 0 (nI 0) fm_r (nI w) (nI d) (nI f) (by decide) fd_rok) (by simp only [tF, hb, hd, hf, if_true]; rw [if_neg (by rw [ixn (by omega), ← fd_wnf w hw]; exact hwn)]) rfl rfl (by decide) (by decide) trivial
      · have hf := btw_f hf
        exact stw_mk 2 (by decide) (tL_fly_x l D cI cQ cL (pb b0) 86 _ (by decide) _ fm_0 (nI w) y z eA 2 (Or.inr (Or.inl ⟨rfl, rfl⟩)) (tX5_flyX_b3 l hst D cI cQ cL (pb b0) 86 _ (by decide) row0 (mB 16) (mV 16) z0 z0 z0 0 (nI 0) (nI 3) fm_N (mC 16) (mB 16) (mV 16) z0 z0 z0 0 (nI 0) (nI 3) fm_S 0 0 (by decide) (by decide) fm_P z0 0 (by decide) fm_T (mC 16) (mB 16) (mV 16) fm_M z0 z0 z0 fm_O false fm_0 (nI w) w rfl hw y z hd hf) rfl rfl (by decide) (by decide)) fm_85 (fun h => absurd h (by decide)) fm_r (tX6_fly l D cI cQ cL (pb b0) 86 _ 77 (by decide) row0 z0 z0 z0 z0 z0 z0 false 0 0 0 (nI 0) fm_r (nI w) y z (by decide) fd_rok) (by simp [tF, hb, hd, hf]) rfl rfl (by decide) (by decide) trivial
    · have hd := btw_f hd
      exact stw_mk 2 (by decide) (tL_fly_x l D cI cQ cL (pb b0) 86 _ (by decide) _ fm_0 (nI w) y z eA 2 (Or.inr (Or.inl ⟨rfl, rfl⟩)) (tX5_flyX_b2 l hst D cI cQ cL (pb b0) 86 _ (by decide) row0 (mB 16) (mV 16) z0 z0 z0 0 (nI 0) (nI 3) fm_N (mC 16) (mB 16) (mV 16) z0 z0 z0 0 (nI 0) (nI 3) fm_S 0 0 (by decide) (by decide) fm_P z0 0 (by decide) fm_T (mC 16) (mB 16) (mV 16) fm_M z0 z0 z0 fm_O false fm_0 (nI w) w rfl hw y z hd) rfl rfl (by decide) (by decide)) fm_85 (fun h => absurd h (by decide)) fm_r (tX6_fly l D cI cQ cL (pb b0) 86 _ 77 (by decide) row0 z0 z0 z0 z0 z0 z0 false 0 0 0 (nI 0) fm_r (nI w) y z (by decide) fd_rok) (by simp [tF, hb, hd]) rfl rfl (by decide) (by decide) trivial
  · have hx := bool_f hx
    have hb := (btw_wk _).trans hx
    exact stw_mk 1 (by decide) (tL_fly_x l D cI cQ cL (pb b0) 86 _ (by decide) _ fm_0 x y z eI 1 (Or.inl ⟨rfl, rfl⟩) (tX5_flyX_b1 l hst D cI cQ cL (pb b0) 86 _ (by decide) row0 (mB 16) (mV 16) z0 z0 z0 0 (nI 0) (nI 3) fm_N (mC 16) (mB 16) (mV 16) z0 z0 z0 0 (nI 0) (nI 3) fm_S 0 0 (by decide) (by decide) fm_P z0 0 (by decide) fm_T (mC 16) (mB 16) (mV 16) fm_M z0 z0 z0 fm_O false fm_0 x y z hx) rfl rfl (by decide) (by decide)) fm_85 (fun h => absurd h (by decide)) fm_r (tX6_fly l D cI cQ cL (pb b0) 86 _ 77 (by decide) row0 z0 z0 z0 z0 z0 z0 false 0 0 0 (nI 0) fm_r x y z (by decide) fd_rok) (by simp [tF, hb]) rfl rfl (by decide) (by decide) trivial
