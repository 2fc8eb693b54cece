/-! what a flight would bring -/
theorem sm_cg {f g : Nat → Nat} : ∀ {n : Nat}, (∀ k, k < n → f k = g k) → sm f n = sm g n
  | 0, _ => rfl
  | n + 1, h => by rw [sm, sm, sm_cg (fun k hk => h k (by omega)), h n (by omega)]
theorem ptc_cg {c c' v : Nat → Int32} {k : Nat} (hk : k < 4) (h : ∀ x, x < 16 → c x = c' x) : ptc c v k = ptc c' v k := sm_cg (fun w hw => by unfold ptw; rw [h (4 * k + w) (by omega)])
theorem Pos.brg {r b v g h j : Nat → Int32} {t : Nat} {u z : Int32} {Np : Nat → Nat} {Wp : Nat → Nat → Nat} (H : Pos r b v g h j t u z Np Wp) {w : Nat} (hw : w < 16) (hwn : wnf r v t w = 0) (d f : Nat) : (∀ k, k < 4 → ptc (cM1 r b v w (nI d) f) (cM3 r b v w (nI d) f) k = rpt (rFx r w d f) k) ∧ ∀ k, k < 4 → covc (cM3 r b v w (nI d) f) k = rcc (rFx r w d f) k := by
  obtain ⟨h1, -, h3, -⟩ := wnf_0 hwn
  obtain ⟨N', W', HP', hc'⟩ := H.fly hw hwn (ldg_q H hw h3 (nI d) (stp w f))
  have ht := (H.t_of h1).1
  have e9 : rFx r w d f = rfx r w (ldg (r w) (nI d) (stp w f)) t := by unfold rFx; rw [ht]
  rw [e9]
  exact ⟨fun k hk => (ptc_cg hk hc').trans (HP'.ptcN hk), fun k hk => HP'.covcN hk⟩
theorem Pos.brL {r b v g h j : Nat → Int32} {t : Nat} {u z : Int32} {Np : Nat → Nat} {Wp : Nat → Nat → Nat} (H : Pos r b v g h j t u z Np Wp) {w : Nat} (hw : w < 16) (hwn : wnf r v t w = 0) (d f : Nat) : cLd r b v w (nI d) f = aBr r w d f 0 := by
  obtain ⟨h1, -⟩ := H.brg hw hwn d f
  unfold cLd aBr ptt rtm
  rw [if_pos rfl, h1 _ (by omega), h1 _ (by omega), h1 _ (by omega), h1 _ (by omega), show 1 - (1 - w / 4 % 2) = w / 4 % 2 by omega]
theorem Pos.brC {r b v g h j : Nat → Int32} {t : Nat} {u z : Int32} {Np : Nat → Nat} {Wp : Nat → Nat → Nat} (H : Pos r b v g h j t u z Np Wp) {w : Nat} (hw : w < 16) (hwn : wnf r v t w = 0) (d f : Nat) : nI (cCv r b v w (nI d) f) = aBr r w d f 1 := by
  obtain ⟨-, h2⟩ := H.brg hw hwn d f
  unfold cCv aBr
  rw [if_neg (by decide), h2 _ (by omega), h2 _ (by omega)]
theorem Pos.brI {r b v g h j : Nat → Int32} {t : Nat} {u z : Int32} {Np : Nat → Nat} {Wp : Nat → Nat → Nat} (H : Pos r b v g h j t u z Np Wp) {w : Nat} (hw : w < 16) (hwn : wnf r v t w = 0) (d f : Nat) {a : Nat} (ha : a < 2) : cIf r b v w (nI d) f (nI a) = aBr r w d f a := by
  unfold cIf
  have h01 : a = 0 ∨ a = 1 := by omega
  rcases h01 with rfl | rfl
  · rw [if_pos (show nI 0 = 0 from rfl)]
    exact H.brL hw hwn d f
  · rw [if_neg (by decide)]
    exact H.brC hw hwn d f
set_option maxRecDepth 100000 in
theorem is_ifFlown (l : Launch) (hst : l.stackTraces = false) (D : va_G) (cI cQ cL : ClassId) (ad : Nat → Nat) (F : Nat → va_E) (H : IN1 cI cQ cL ad F) (x y z z2 : Int32) : STw l D cI cQ cL ad 86 yL_ifFlown cL_ifFlown 7 [(0, 14, 17, 13), (0, 14, 21, 15)] yX6_ifFlown cX6_ifFlown 5 F (INV cI cQ cL ad) [.int x, .int y, .int z, .int z2] := by
  obtain ⟨r, ps, sl, sd, ne, fa, bu, hs, st, ln, pt, th, hR, ⟨bB, vB, gB, hB, jB, tB, uB, zB, Np, Wp, hN, HP⟩, hI, o85, h85⟩ := H
  obtain ⟨-, ⟨⟨R8, c8, b8, v8, g8, h8, j8, t8, u8, z8, N8, W8, hSn, hP8, hc8⟩, hSnp⟩, ⟨n9, hRg⟩, ⟨hln, aT, hT, haT⟩, ⟨⟨c6, b6, v6, hM6⟩, a7, d7, q7, hO, hKN⟩, hC⟩ := id hI
  obtain ⟨hn9, hst6, hPa, hri, hrk⟩ := id hRg
  obtain ⟨Rr, cr, br, vr, gr, hr9, jr, tr, ur, zr, Nr, Wr, hRi, hRp, hRc⟩ := hri n9 hn9
  have hC : F 0 = .inr (5, [.ref (ad 1), .ref (ad 9), .ref (ad 17), .ref (ad 67), .ref (ad 69), .ref (ad 73), .int (bI hs)]) := hC
  have htB := HP.tlt
  by_cases hx : wk x = true
  · obtain ⟨w, hw, rfl⟩ := wk_of hx
    have hb := (btw_wk _).trans hx
    by_cases hd : btw y (nI 0) (nI 7) = true
    · by_cases hf : btw z (nI 1) (nI 9) = true
      · obtain ⟨d, rfl, -, hd7⟩ := btw_of (by decide) (by decide) hd
        obtain ⟨f, rfl, hf1, hf2⟩ := btw_of (by decide) (by decide) hf
        by_cases ha : btw z2 (nI 0) (nI 1) = true
        · obtain ⟨a, rfl, -, ha1⟩ := btw_of (by decide) (by decide) ha
          have hwe := HP.wnfN hw
          by_cases hwn : wnf r vB tB w = 0
          · exact stw_mk 0 (by decide) (tL_ifFlown l D cI cQ cL ad 86 F (by decide) _ hC (nI w) (nI d) (nI f) (nI a) _ _ ((mSet_out (by decide)).trans h85) _ (tX5_ifFlown l D cI cQ cL ad 86 F (by decide) r bB vB gB hB jB tB uB zB hN c8 b8 v8 g8 h8 j8 t8 u8 z8 hSn n9 st hn9 hst6 hPa aT ln hln hT c6 b6 v6 hM6 a7 d7 q7 hO hs hC htB (nI w) w rfl hw (nI d) hd (nI f) f rfl ⟨hf1, hf2⟩ (nI a) ha hwn) rfl rfl (by decide) (by decide)) (va_up_self _ _ _) (fun _ => by rw [pk_uLs]; rw [HP.brI hw hwn d f (by omega), pI_ok hw (by omega) ⟨hf1, hf2⟩ (by omega), if_pos (by rw [← hwe]; exact hwn)]) (rf_up (rf_tm hR)) (tX6_ifFlown l D cI cQ cL ad 86 _ 77 (by decide) r ps sl sd ne fa bu hs st ln pt th (rf_up (rf_tm hR)) (nI w) (nI d) (nI f) (nI a) HP.rok) (by simp only [tI, hb, hd, hf, ha, if_true]) rfl rfl (by decide) (by decide) (INV_rf (ICl_up (ICl_tm hI)) _ (va_up_self _ _ _))
          · exact stw_mk 0 (by decide) (tL_ifFlown l D cI cQ cL ad 86 F (by decide) _ hC (nI w) (nI d) (nI f) (nI a) _ _ h85 _ (MX_of_MR (tX5_ifFlownX l D cI cQ cL ad 86 F (by decide) r bB vB gB hB jB tB uB zB hN c8 b8 v8 g8 h8 j8 t8 u8 z8 hSn n9 st hn9 hst6 hPa aT ln hln hT c6 b6 v6 hM6 a7 d7 q7 hO hs hC htB (nI w) w rfl hw (nI d) hd (nI f) f rfl ⟨hf1, hf2⟩ (nI a) ha hwn)) rfl rfl (by decide) (by decide)) (va_up_self _ _ _) (fun _ => by rw [pk_uLs]; rw [pI_ok hw (by omega) ⟨hf1, hf2⟩ (by omega), if_neg (by rw [← hwe]; exact hwn)]) (rf_up hR) (tX6_ifFlown l D cI cQ cL ad 86 _ 77 (by decide) r ps sl sd ne fa bu hs st ln pt th (rf_up hR) (nI w) (nI d) (nI f) (nI a) HP.rok) (by simp only [tI, hb, hd, hf, ha, if_true]) rfl rfl (by decide) (by decide) (INV_rf (ICl_up hI) _ (va_up_self _ _ _))
        · have ha := btw_f ha
          exact stw_mk 2 (by decide) (tL_ifFlown_x l D cI cQ cL ad 86 F (by decide) _ hC (nI w) (nI d) (nI f) z2 eA 2 (Or.inr ⟨rfl, rfl⟩) (tX5_ifFlownX_b4 l hst D cI cQ cL ad 86 F (by decide) r bB vB gB hB jB tB uB zB hN c8 b8 v8 g8 h8 j8 t8 u8 z8 hSn n9 st hn9 hst6 hPa aT ln hln hT c6 b6 v6 hM6 a7 d7 q7 hO hs hC (nI w) w rfl hw (nI d) hd (nI f) f rfl ⟨hf1, hf2⟩ z2 ha) rfl rfl (by decide) (by decide)) h85 (fun h => absurd h (by decide)) hR (tX6_ifFlown l D cI cQ cL ad 86 _ 77 (by decide) r ps sl sd ne fa bu hs st ln pt th hR (nI w) (nI d) (nI f) z2 HP.rok) (by simp [tI, hb, hd, hf, ha]) rfl rfl (by decide) (by decide) (INV_rf hI _ h85)
      · have hf := btw_f hf
        exact stw_mk 2 (by decide) (tL_ifFlown_x l D cI cQ cL ad 86 F (by decide) _ hC (nI w) y z z2 eA 2 (Or.inr ⟨rfl, rfl⟩) (tX5_ifFlownX_b3 l hst D cI cQ cL ad 86 F (by decide) r bB vB gB hB jB tB uB zB hN c8 b8 v8 g8 h8 j8 t8 u8 z8 hSn n9 st hn9 hst6 hPa aT ln hln hT c6 b6 v6 hM6 a7 d7 q7 hO hs hC (nI w) w rfl hw y z hd hf z2) rfl rfl (by decide) (by decide)) h85 (fun h => absurd h (by decide)) hR (tX6_ifFlown l D cI cQ cL ad 86 _ 77 (by decide) r ps sl sd ne fa bu hs st ln pt th hR (nI w) y z z2 HP.rok) (by simp [tI, hb, hd, hf]) rfl rfl (by decide) (by decide) (INV_rf hI _ h85)
    · have hd := btw_f hd
      exact stw_mk 2 (by decide) (tL_ifFlown_x l D cI cQ cL ad 86 F (by decide) _ hC (nI w) y z z2 eA 2 (Or.inr ⟨rfl, rfl⟩) (tX5_ifFlownX_b2 l hst D cI cQ cL ad 86 F (by decide) r bB vB gB hB jB tB uB zB hN c8 b8 v8 g8 h8 j8 t8 u8 z8 hSn n9 st hn9 hst6 hPa aT ln hln hT c6 b6 v6 hM6 a7 d7 q7 hO hs hC (nI w) w rfl hw y z hd z2) rfl rfl (by decide) (by decide)) h85 (fun h => absurd h (by decide)) hR (tX6_ifFlown l D cI cQ cL ad 86 _ 77 (by decide) r ps sl sd ne fa bu hs st ln pt th hR (nI w) y z z2 HP.rok) (by simp [tI, hb, hd]) rfl rfl (by decide) (by decide) (INV_rf hI _ h85)
  · have hx := bool_f hx
    have hb := (btw_wk _).trans hx
    exact stw_mk 1 (by decide) (tL_ifFlown_x l D cI cQ cL ad 86 F (by decide) _ hC x y z z2 eI 1 (Or.inl ⟨rfl, rfl⟩) (tX5_ifFlownX_b1 l hst D cI cQ cL ad 86 F (by decide) r bB vB gB hB jB tB uB zB hN c8 b8 v8 g8 h8 j8 t8 u8 z8 hSn n9 st hn9 hst6 hPa aT ln hln hT c6 b6 v6 hM6 a7 d7 q7 hO hs hC x y z hx z2) rfl rfl (by decide) (by decide)) h85 (fun h => absurd h (by decide)) hR (tX6_ifFlown l D cI cQ cL ad 86 _ 77 (by decide) r ps sl sd ne fa bu hs st ln pt th hR x y z z2 HP.rok) (by simp [tI, hb]) rfl rfl (by decide) (by decide) (INV_rf hI _ h85)
theorem sm_ad (f g : Nat → Nat) : ∀ n, sm (fun i => f i + g i) n = sm f n + sm g n
  | 0 => rfl
  | n + 1 => by rw [sm, sm, sm, sm_ad f g n]; omega
theorem sm_0 : ∀ n, sm (fun _ => 0) n = 0
  | 0 => rfl
  | n + 1 => by rw [sm, sm_0 n]
theorem sm_1 {x : Nat} : ∀ n, sm (fun i => if x = i then 1 else 0) n = if x < n then 1 else 0
  | 0 => rfl
  | n + 1 => by
    rw [sm, sm_1 n]
    by_cases h1 : x < n
    · rw [if_pos h1, if_neg (by omega), if_pos (by omega)]
    · rw [if_neg h1]
      by_cases h2 : x = n
      · rw [if_pos h2, if_pos (by omega)]
      · rw [if_neg h2, if_neg (by omega)]
/-- counted by the class that each belongs to -/
theorem cnt_by {p : Nat → Bool} {B : Nat → Nat} {m : Nat} : ∀ n, (∀ x, x < n → p x = true → B x < m) → cnt p n = sm (fun i => cnt (fun x => p x && decide (B x = i)) n) m
  | 0, _ => (sm_0 m).symm
  | n + 1, h => by
    have ih := cnt_by n (fun x hx => h x (by omega))
    by_cases hp : p n = true
    · have e1 : cnt p (n + 1) = cnt p n + 1 := by simp only [cnt]; rw [if_pos hp]
      have e2 : sm (fun i => cnt (fun x => p x && decide (B x = i)) (n + 1)) m = sm (fun i => cnt (fun x => p x && decide (B x = i)) n + (if B n = i then 1 else 0)) m := sm_cg (fun i _ => by
        simp only [cnt]
        by_cases hb : B n = i
        · rw [if_pos (by rw [hp, decide_eq_true hb]; rfl), if_pos hb]
        · rw [if_neg (by rw [hp, decide_eq_false hb]; decide), if_neg hb])
      rw [e1, e2, sm_ad, sm_1, if_pos (h n (by omega) hp), ih]
    · have hp : p n = false := by simpa using hp
      have e1 : cnt p (n + 1) = cnt p n := by simp only [cnt]; rw [if_neg (by rw [hp]; decide)]
      have e2 : sm (fun i => cnt (fun x => p x && decide (B x = i)) (n + 1)) m = sm (fun i => cnt (fun x => p x && decide (B x = i)) n) m := sm_cg (fun i _ => by
        simp only [cnt]
        rw [if_neg (by rw [hp]; decide)])
      rw [e1, e2, ih]
theorem cnt_4 (p : Nat → Bool) : cnt p 16 = ((cnt (fun i => p (4 * 0 + i)) 4 + cnt (fun i => p (4 * 1 + i)) 4) + cnt (fun i => p (4 * 2 + i)) 4) + cnt (fun i => p (4 * 3 + i)) 4 := by
  have h : ∀ b : Bool, (if b = true then 1 else 0) = (if b = true then 1 else 0) := fun _ => rfl
  simp only [cnt]
  repeat' split
  all_goals omega
theorem Pos.rcsN {r b v g h j : Nat → Int32} {t : Nat} {u z : Int32} {Np : Nat → Nat} {Wp : Nat → Nat → Nat} (H : Pos r b v g h j t u z Np Wp) : sm (fun i => if bot r b i = true then hgt r (r i) - 1 else 0) 16 = rcs r := by
  have hc := H.1
  have hp := H.2.2.1
  have e0 : rcs r = cnt (rcv r) 16 := by rw [cnt_4]; rfl
  have hB : ∀ x, x < 16 → rcv r x = true → Wp (ix (r x)) 0 < 16 := by
    intro x hx hr
    rcases hc.2.2 x hx with e | ⟨q, i, hi, e⟩
    · unfold rcv pot at hr
      rw [e] at hr
      simp at hr
    · have h3 := (hc.1 q i hi).2.2.2
      rw [e] at h3
      rw [h3, ixn (by have := (hc.1 q i hi).2.1; omega)]
      exact (hc.1 q 0 (by omega)).1
  rw [e0, cnt_by 16 hB]
  refine sm_cg (fun i hi => ?_)
  rw [hp.botN hc H.2.1 hi]
  by_cases h0 : r (16 + i) = 0
  · rw [if_pos (decide_eq_true h0)]
    rcases hc.2.2 i hi with e | ⟨q, j, hj, e⟩
    · have := hp.2 i hi e
      rw [this] at h0
      exact absurd h0 (by decide)
    · have hq := (hc.1 q j hj).2.1
      have h3 := (hc.1 q j hj).2.2.2
      have h4 := hp.1 q j hj
      rw [e] at h3 h4
      have hj0 : j = 0 := by
        rw [h4] at h0
        exact nI_inj (by have := hc.i hj; omega) (by decide) h0
      subst hj0
      rw [h3, hc.hgtN (by omega)]
      refine (cnt_w (W := Wp q) (Np q - 1) (fun k hk => ?_) (fun w hw hpw => ?_) (fun a b9 ha hb hab => hc.2.1 q a b9 (by omega) (by omega) hab)).symm
      · have hk1 : k < Np q := by omega
        refine ⟨(hc.1 q k hk1).1, ?_⟩
        rw [hp.rcvN hc hk1, (hc.1 q k hk1).2.2.2, ixn (by omega), decide_eq_true (show k + 1 < Np q by omega), decide_eq_true e]
        rfl
      · simp only [Bool.and_eq_true, decide_eq_true_eq] at hpw
        obtain ⟨g1, g2⟩ := hpw
        rcases hc.2.2 w hw with e5 | ⟨q5, i5, hi5, e5⟩
        · unfold rcv pot at g1
          rw [e5] at g1
          simp at g1
        · have h6 := (hc.1 q5 i5 hi5).2.2.2
          have hq5 := (hc.1 q5 i5 hi5).2.1
          rw [e5] at h6
          rw [h6, ixn (by omega)] at g2
          have hqq := (hc.one (q := q5) (i := 0) (q' := q) (j := 0) (by omega) hj (g2.trans e.symm)).1
          subst hqq
          rw [← e5, hp.rcvN hc hi5] at g1
          have g3 : i5 + 1 < Np q5 := of_decide_eq_true g1
          exact ⟨i5, by omega, e5⟩
  · rw [if_neg (by rw [decide_eq_false h0]; decide)]
    refine (cnt_zero (fun x hx => ?_)).symm
    by_cases hr : rcv r x = true
    · rw [hr, Bool.true_and]
      refine decide_eq_false (fun hbx => ?_)
      rcases hc.2.2 x hx with e | ⟨q, k, hk, e⟩
      · unfold rcv pot at hr
        rw [e] at hr
        simp at hr
      · have h3 := (hc.1 q k hk).2.2.2
        have hq := (hc.1 q k hk).2.1
        rw [e] at h3
        rw [h3, ixn (by omega)] at hbx
        have h4 := hp.1 q 0 (by omega)
        rw [hbx] at h4
        exact h0 h4
    · have hr : rcv r x = false := by simpa using hr
      rw [hr]
      rfl
theorem smi_4 (h : Nat → Int32) : smi h 4 = h 0 + h 1 + h 2 + h 3 := by
  show (0 : Int32) + h 0 + h 1 + h 2 + h 3 = _
  rw [Int32.zero_add]
theorem Pos.cnts {r b v g h j : Nat → Int32} {t : Nat} {u z : Int32} {Np : Nat → Nat} {Wp : Nat → Nat → Nat} (H : Pos r b v g h j t u z Np Wp) {m9 k : Nat} (hk : k < 14) : cCnt r b v g h t u z m9 (nI k) = aNum r m9 k := by
  have hov : over r = false → nI t = r 56 := fun ho => (H.t_of ho).2.symm
  obtain ⟨-, -, -, -, hh, hu, hz, hsm, -⟩ := id H
  have hk9 : k = 0 ∨ k = 1 ∨ k = 2 ∨ k = 3 ∨ k = 4 ∨ k = 5 ∨ k = 6 ∨ k = 7 ∨ k = 8 ∨ k = 9 ∨ k = 10 ∨ k = 11 ∨ k = 12 ∨ k = 13 := by omega
  rcases hk9 with rfl | rfl | rfl | rfl | rfl | rfl | rfl | rfl | rfl | rfl | rfl | rfl | rfl | rfl
  · show (if over r = true then (-1 : Int32) else nI t) = (if over r = true then -1 else r 56)
    by_cases ho : over r = true
    · rw [if_pos ho, if_pos ho]
    · rw [if_neg ho, if_neg ho, hov (bool_f ho)]
  · show (if over r = true then nI 1 else nI 0) = bI (over r)
    cases over r <;> rfl
  · rfl
  · show nI (sm (fun i => if bot r b i = true then hgt r (r i) - 1 else 0) 16) = nI (rcs r)
    rw [H.rcsN]
  · show nI ((covc v 0 + covc v (0 + 2)) + (covc v 1 + covc v (1 + 2))) = nI (rcs r)
    rw [H.covcN (by decide), H.covcN (by decide), H.covcN (by decide), H.covcN (by decide)]
    unfold rcs
    exact congrArg nI (by omega)
  · show nI (cnt (bot r b) 16) = nI (rpl r)
    rw [H.bots]
  · show mxi (bot r b) (fun i => nI (hgt r (r i))) 16 = rhi r 16
    exact H.high
  · exact hsm
  · exact hu
  · show smi h 4 = r 48 + r 49 + r 50 + r 51
    rw [smi_4, hh 0 (by decide), hh 1 (by decide), hh 2 (by decide), hh 3 (by decide)]
  · show nI (ptc r v 0 + ptc r v (0 + 2)) = nI (rpt r 0 + rpt r (0 + 2))
    rw [H.ptcN (by decide), H.ptcN (by decide)]
  · show nI (ptc r v 1 + ptc r v (1 + 2)) = nI (rpt r 1 + rpt r (1 + 2))
    rw [H.ptcN (by decide), H.ptcN (by decide)]
  · exact hz
  · rfl
set_option maxRecDepth 100000 in
theorem is_count (l : Launch) (hst : l.stackTraces = false) (D : va_G) (cI cQ cL : ClassId) (ad : Nat → Nat) (F : Nat → va_E) (H : IN1 cI cQ cL ad F) (x : Int32) : STw l D cI cQ cL ad 86 yL_count cL_count 4 [(0, 9, 12, 15)] yX6_count cX6_count 2 F (INV cI cQ cL ad) [.int x] := by
  obtain ⟨r, ps, sl, sd, ne, fa, bu, hs, st, ln, pt, th, hR, ⟨bB, vB, gB, hB, jB, tB, uB, zB, Np, Wp, hN, HP⟩, hI, o85, h85⟩ := H
  obtain ⟨-, ⟨⟨R8, c8, b8, v8, g8, h8, j8, t8, u8, z8, N8, W8, hSn, hP8, hc8⟩, hSnp⟩, ⟨n9, hRg⟩, ⟨hln, aT, hT, haT⟩, ⟨⟨c6, b6, v6, hM6⟩, a7, d7, q7, hO, hKN⟩, hC⟩ := id hI
  obtain ⟨hn9, hst6, hPa, hri, hrk⟩ := id hRg
  obtain ⟨Rr, cr, br, vr, gr, hr9, jr, tr, ur, zr, Nr, Wr, hRi, hRp, hRc⟩ := hri n9 hn9
  have hC : F 0 = .inr (5, [.ref (ad 1), .ref (ad 9), .ref (ad 17), .ref (ad 67), .ref (ad 69), .ref (ad 73), .int (bI hs)]) := hC
  have htB := HP.tlt
  by_cases hy : btw x (nI 0) (nI 13) = true
  · obtain ⟨k, rfl, -, hk⟩ := btw_of (by decide) (by decide) hy
    exact stw_mk 0 (by decide) (tL_count l D cI cQ cL ad 86 F (by decide) _ hC (nI k) _ _ h85 _ (MX_of_MR (tX5_count l D cI cQ cL ad 86 F (by decide) r bB vB gB hB jB tB uB zB hN c8 b8 v8 g8 h8 j8 t8 u8 z8 hSn n9 st hn9 hst6 hPa aT ln hln hT c6 b6 v6 hM6 a7 d7 q7 hO hs hC (nI k) hy)) rfl rfl (by decide) (by decide)) (va_up_self _ _ _) (fun _ => by rw [pk_uLs]; rw [HP.cnts (by omega), pN_ok (by omega)]) (rf_up hR) (tX6_count l D cI cQ cL ad 86 _ 77 (by decide) r ps sl sd ne fa bu hs st ln pt th (rf_up hR) (nI k)) (by simp only [tN, hy, if_true]) rfl rfl (by decide) (by decide) (INV_rf (ICl_up hI) _ (va_up_self _ _ _))
  · have hy := btw_f hy
    exact stw_mk 1 (by decide) (tL_count_x l D cI cQ cL ad 86 F (by decide) _ hC x eA 1 ⟨rfl, rfl⟩ (tX5_count_b1 l hst D cI cQ cL ad 86 F (by decide) r bB vB gB hB jB tB uB zB hN c8 b8 v8 g8 h8 j8 t8 u8 z8 hSn n9 st hn9 hst6 hPa aT ln hln hT c6 b6 v6 hM6 a7 d7 q7 hO hs hC x hy) rfl rfl (by decide) (by decide)) h85 (fun h => absurd h (by decide)) hR (tX6_count l D cI cQ cL ad 86 _ 77 (by decide) r ps sl sd ne fa bu hs st ln pt th hR x) (by simp [tN, hy]) rfl rfl (by decide) (by decide) (INV_rf hI _ h85)
