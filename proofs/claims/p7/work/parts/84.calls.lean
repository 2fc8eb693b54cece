theorem Pos.cel {r b v g h j : Nat → Int32} {t : Nat} {u z : Int32} {Np : Nat → Nat} {Wp : Nat → Nat → Nat} (H : Pos r b v g h j t u z Np Wp) {w : Nat} (hw : w < 16) (hp : pot r w = false) : ∃ q, q < 169 ∧ q ≠ 84 ∧ r w = nI q := by
  rcases H.1.2.2 w hw with e | ⟨q, i, hi, e⟩
  · unfold pot at hp
    rw [e] at hp
    simp at hp
  · obtain ⟨-, h1, h2, h3⟩ := H.1.1 q i hi
    exact ⟨q, h1, h2, by rw [← e]; exact h3⟩
theorem Pos.nfx {r b v g h j : Nat → Int32} {t : Nat} {u z : Int32} {Np : Nat → Nat} {Wp : Nat → Nat → Nat} (H : Pos r b v g h j t u z Np Wp) : ∃ nf, rNF r nf := rNF_of (fun _ hw hp => H.cel hw hp)
theorem Pos.ixl {r b v g h j : Nat → Int32} {t : Nat} {u z : Int32} {Np : Nat → Nat} {Wp : Nat → Nat → Nat} (H : Pos r b v g h j t u z Np Wp) (w : Nat) (hw : w < 16) (hp : pot r w = false) : ix (r w) < 169 := by
  obtain ⟨q, h1, -, h3⟩ := H.cel hw hp
  rw [h3, ixn (by omega)]
  exact h1
theorem Pos.bots {r b v g h j : Nat → Int32} {t : Nat} {u z : Int32} {Np : Nat → Nat} {Wp : Nat → Nat → Nat} (H : Pos r b v g h j t u z Np Wp) : cnt (bot r b) 16 = rpl r := cnt_cong (fun _ hw => H.2.2.1.botN H.1 H.2.1 hw)
set_option maxRecDepth 100000 in
theorem in_wink (l : Launch) (hst : l.stackTraces = false) (D : va_G) (cI cQ cL : ClassId) (ad : Nat → Nat) (F : Nat → va_E) (H : IN1 cI cQ cL ad F) (x y : Int32) : STw l D cI cQ cL ad 86 yL_wink cL_wink 5 [(0, 10, 13, 13), (0, 10, 17, 15)] yX6_wink cX6_wink 3 F (INV cI cQ cL ad) [.int x, .int y] := by
  obtain ⟨r, ps, sl, sd, ne, fa, bu, hs, st, ln, pt, th, hR, ⟨bB, vB, gB, hB, jB, tB, uB, zB, Np, Wp, hN, HP⟩, hI, o85, h85⟩ := H
  obtain ⟨-, ⟨⟨R8, c8, b8, v8, g8, h8, j8, t8, u8, z8, N8, W8, hSn, hP8, hc8⟩, hSnp⟩, ⟨n9, hRg⟩, ⟨hln, aT, hT, haT⟩, ⟨⟨c6, b6, v6, hM6⟩, a7, d7, q7, hO, hKN⟩, hC⟩ := id hI
  obtain ⟨hn9, hst6, hPa, hri, hrk⟩ := id hRg
  obtain ⟨Rr, cr, br, vr, gr, hr9, jr, tr, ur, zr, Nr, Wr, hRi, hRp, hRc⟩ := hri n9 hn9
  have hC : F 0 = .inr (5, [.ref (ad 1), .ref (ad 9), .ref (ad 17), .ref (ad 67), .ref (ad 69), .ref (ad 73), .int (bI hs)]) := hC
  have htB := HP.tlt
  by_cases hx : wk x = true
  · obtain ⟨w, hw, rfl⟩ := wk_of hx
    have hb := (btw_wk _).trans hx
    by_cases hy : btw y (nI 0) (nI 6) = true
    · obtain ⟨k, rfl, -, hk⟩ := btw_of (by decide) (by decide) hy
      exact stw_mk 0 (by decide) (tL_wink l D cI cQ cL ad 86 F (by decide) _ hC (nI w) (nI k) _ _ h85 _ (MX_of_MR (tX5_wink l D cI cQ cL ad 86 F (by decide) r bB vB gB hB jB tB uB zB hN c8 b8 v8 g8 h8 j8 t8 u8 z8 hSn n9 st hn9 hst6 hPa aT ln hln hT c6 b6 v6 hM6 a7 d7 q7 hO hs hC htB (nI w) w rfl hw (nI k) hy)) rfl rfl (by decide) (by decide)) (va_up_self _ _ _) (fun _ => by rw [pk_uLs]; rw [HP.wink hw (by omega), pW_ok hw (by omega)]) (rf_up hR) (tX6_wink l D cI cQ cL ad 86 _ 77 (by decide) r ps sl sd ne fa bu hs st ln pt th (rf_up hR) (nI w) (nI k)) (by simp only [tW, hb, hy, if_true]) rfl rfl (by decide) (by decide) (INV_rf (ICl_up hI) _ (va_up_self _ _ _))
    · have hy := btw_f hy
      exact stw_mk 2 (by decide) (tL_wink_x l D cI cQ cL ad 86 F (by decide) _ hC (nI w) y eA 2 (Or.inr ⟨rfl, rfl⟩) (tX5_wink_b2 l hst D cI cQ cL ad 86 F (by decide) r bB vB gB hB jB tB uB zB hN c8 b8 v8 g8 h8 j8 t8 u8 z8 hSn n9 st hn9 hst6 hPa aT ln hln hT c6 b6 v6 hM6 a7 d7 q7 hO hs hC (nI w) w rfl hw y hy) rfl rfl (by decide) (by decide)) h85 (fun h => absurd h (by decide)) hR (tX6_wink l D cI cQ cL ad 86 _ 77 (by decide) r ps sl sd ne fa bu hs st ln pt th hR (nI w) y) (by simp [tW, hb, hy]) rfl rfl (by decide) (by decide) (INV_rf hI _ h85)
  · have hx := bool_f hx
    have hb := (btw_wk _).trans hx
    exact stw_mk 1 (by decide) (tL_wink_x l D cI cQ cL ad 86 F (by decide) _ hC x y eI 1 (Or.inl ⟨rfl, rfl⟩) (tX5_wink_b1 l hst D cI cQ cL ad 86 F (by decide) r bB vB gB hB jB tB uB zB hN c8 b8 v8 g8 h8 j8 t8 u8 z8 hSn n9 st hn9 hst6 hPa aT ln hln hT c6 b6 v6 hM6 a7 d7 q7 hO hs hC x y hx) rfl rfl (by decide) (by decide)) h85 (fun h => absurd h (by decide)) hR (tX6_wink l D cI cQ cL ad 86 _ 77 (by decide) r ps sl sd ne fa bu hs st ln pt th hR x y) (by simp [tW, hb]) rfl rfl (by decide) (by decide) (INV_rf hI _ h85)
set_option maxRecDepth 100000 in
theorem in_pile (l : Launch) (hst : l.stackTraces = false) (D : va_G) (cI cQ cL : ClassId) (ad : Nat → Nat) (F : Nat → va_E) (H : IN1 cI cQ cL ad F) (x y z : Int32) : STw l D cI cQ cL ad 86 yL_pile cL_pile 6 [(0, 12, 15, 13), (0, 12, 19, 15)] yX6_pile cX6_pile 4 F (INV cI cQ cL ad) [.int x, .int y, .int z] := by
  obtain ⟨r, ps, sl, sd, ne, fa, bu, hs, st, ln, pt, th, hR, ⟨bB, vB, gB, hB, jB, tB, uB, zB, Np, Wp, hN, HP⟩, hI, o85, h85⟩ := H
  obtain ⟨-, ⟨⟨R8, c8, b8, v8, g8, h8, j8, t8, u8, z8, N8, W8, hSn, hP8, hc8⟩, hSnp⟩, ⟨n9, hRg⟩, ⟨hln, aT, hT, haT⟩, ⟨⟨c6, b6, v6, hM6⟩, a7, d7, q7, hO, hKN⟩, hC⟩ := id hI
  obtain ⟨hn9, hst6, hPa, hri, hrk⟩ := id hRg
  obtain ⟨Rr, cr, br, vr, gr, hr9, jr, tr, ur, zr, Nr, Wr, hRi, hRp, hRc⟩ := hri n9 hn9
  have hC : F 0 = .inr (5, [.ref (ad 1), .ref (ad 9), .ref (ad 17), .ref (ad 67), .ref (ad 69), .ref (ad 73), .int (bI hs)]) := hC
  have htB := HP.tlt
  by_cases h1 : btw x (nI 0) (nI 12) = true
  · by_cases h2 : btw y (nI 0) (nI 12) = true
    · have hon := on_tt h1 h2
      obtain ⟨a, rfl, -, ha⟩ := btw_of (by decide) (by decide) h1
      obtain ⟨b, rfl, -, hb⟩ := btw_of (by decide) (by decide) h2
      by_cases h3 : btw z (nI 0) (nI 3) = true
      · obtain ⟨k, rfl, -, hk⟩ := btw_of (by decide) (by decide) h3
        exact stw_mk 0 (by decide) (tL_pile l D cI cQ cL ad 86 F (by decide) _ hC (nI a) (nI b) (nI k) _ _ h85 _ (MX_of_MR (tX5_pile l D cI cQ cL ad 86 F (by decide) r bB vB gB hB jB tB uB zB hN c8 b8 v8 g8 h8 j8 t8 u8 z8 hSn n9 st hn9 hst6 hPa aT ln hln hT c6 b6 v6 hM6 a7 d7 q7 hO hs hC (nI a) (nI b) (nI k) hon h3)) rfl rfl (by decide) (by decide)) (va_up_self _ _ _) (fun _ => by rw [pk_uLs]; rw [cat_n, HP.pile (by omega) (by omega), pP_ok (by omega) (by omega) (by omega)]) (rf_up hR) (tX6_pile l D cI cQ cL ad 86 _ 77 (by decide) r ps sl sd ne fa bu hs st ln pt th (rf_up hR) (nI a) (nI b) (nI k)) (by simp only [tP, h1, h2, h3, if_true]) rfl rfl (by decide) (by decide) (INV_rf (ICl_up hI) _ (va_up_self _ _ _))
      · have h3 := btw_f h3
        exact stw_mk 2 (by decide) (tL_pile_x l D cI cQ cL ad 86 F (by decide) _ hC (nI a) (nI b) z eA 2 (Or.inr ⟨rfl, rfl⟩) (tX5_pile_b2 l hst D cI cQ cL ad 86 F (by decide) r bB vB gB hB jB tB uB zB hN c8 b8 v8 g8 h8 j8 t8 u8 z8 hSn n9 st hn9 hst6 hPa aT ln hln hT c6 b6 v6 hM6 a7 d7 q7 hO hs hC (nI a) (nI b) z hon h3) rfl rfl (by decide) (by decide)) h85 (fun h => absurd h (by decide)) hR (tX6_pile l D cI cQ cL ad 86 _ 77 (by decide) r ps sl sd ne fa bu hs st ln pt th hR (nI a) (nI b) z) (by simp [tP, h1, h2, h3]) rfl rfl (by decide) (by decide) (INV_rf hI _ h85)
    · have h2 := btw_f h2
      exact stw_mk 1 (by decide) (tL_pile_x l D cI cQ cL ad 86 F (by decide) _ hC x y z eI 1 (Or.inl ⟨rfl, rfl⟩) (tX5_pile_b1 l hst D cI cQ cL ad 86 F (by decide) r bB vB gB hB jB tB uB zB hN c8 b8 v8 g8 h8 j8 t8 u8 z8 hSn n9 st hn9 hst6 hPa aT ln hln hT c6 b6 v6 hM6 a7 d7 q7 hO hs hC x y z (on_f2 h2)) rfl rfl (by decide) (by decide)) h85 (fun h => absurd h (by decide)) hR (tX6_pile l D cI cQ cL ad 86 _ 77 (by decide) r ps sl sd ne fa bu hs st ln pt th hR x y z) (by simp [tP, h1, h2]) rfl rfl (by decide) (by decide) (INV_rf hI _ h85)
  · have h1 := btw_f h1
    exact stw_mk 1 (by decide) (tL_pile_x l D cI cQ cL ad 86 F (by decide) _ hC x y z eI 1 (Or.inl ⟨rfl, rfl⟩) (tX5_pile_b1 l hst D cI cQ cL ad 86 F (by decide) r bB vB gB hB jB tB uB zB hN c8 b8 v8 g8 h8 j8 t8 u8 z8 hSn n9 st hn9 hst6 hPa aT ln hln hT c6 b6 v6 hM6 a7 d7 q7 hO hs hC x y z (on_f1 h1)) rfl rfl (by decide) (by decide)) h85 (fun h => absurd h (by decide)) hR (tX6_pile l D cI cQ cL ad 86 _ 77 (by decide) r ps sl sd ne fa bu hs st ln pt th hR x y z) (by simp [tP, h1]) rfl rfl (by decide) (by decide) (INV_rf hI _ h85)
set_option maxRecDepth 100000 in
theorem in_colour (l : Launch) (hst : l.stackTraces = false) (D : va_G) (cI cQ cL : ClassId) (ad : Nat → Nat) (F : Nat → va_E) (H : IN1 cI cQ cL ad F) (x y : Int32) : STw0 l D cI cQ cL ad 86 yL_colour cL_colour 5 [(0, 10, 13, 13), (0, 10, 17, 15)] yX6_colour cX6_colour 3 F (INV cI cQ cL ad) [.int x, .int y] := by
  obtain ⟨r, ps, sl, sd, ne, fa, bu, hs, st, ln, pt, th, hR, ⟨bB, vB, gB, hB, jB, tB, uB, zB, Np, Wp, hN, HP⟩, hI, o85, h85⟩ := H
  obtain ⟨-, ⟨⟨R8, c8, b8, v8, g8, h8, j8, t8, u8, z8, N8, W8, hSn, hP8, hc8⟩, hSnp⟩, ⟨n9, hRg⟩, ⟨hln, aT, hT, haT⟩, ⟨⟨c6, b6, v6, hM6⟩, a7, d7, q7, hO, hKN⟩, hC⟩ := id hI
  obtain ⟨hn9, hst6, hPa, hri, hrk⟩ := id hRg
  obtain ⟨Rr, cr, br, vr, gr, hr9, jr, tr, ur, zr, Nr, Wr, hRi, hRp, hRc⟩ := hri n9 hn9
  have hC : F 0 = .inr (5, [.ref (ad 1), .ref (ad 9), .ref (ad 17), .ref (ad 67), .ref (ad 69), .ref (ad 73), .int (bI hs)]) := hC
  have htB := HP.tlt
  by_cases hb : btw x (nI 0) (nI 3) = true
  · obtain ⟨w, rfl, -, hw⟩ := btw_of (by decide) (by decide) hb
    by_cases hy : btw y (nI 0) (nI 6) = true
    · obtain ⟨k, rfl, -, hk⟩ := btw_of (by decide) (by decide) hy
      exact stw0_mk (kk := 0) (tL_colour l D cI cQ cL ad 86 F (by decide) _ hC (nI w) (nI k) _ _ h85 _ (MX_of_MR (tX5_colour l D cI cQ cL ad 86 F (by decide) r bB vB gB hB jB tB uB zB hN c8 b8 v8 g8 h8 j8 t8 u8 z8 hSn n9 st hn9 hst6 hPa aT ln hln hT c6 b6 v6 hM6 a7 d7 q7 hO hs hC (nI w) w rfl (by omega) (nI k) hy)) rfl rfl (by decide) (by decide)) (rf_up hR) (tX6_colour l D cI cQ cL ad 86 _ 77 (by decide) r ps sl sd ne fa bu hs st ln pt th (rf_up hR) (nI w) (nI k)) rfl rfl (by decide) (by decide) (INV_rf (ICl_up hI) _ (va_up_self _ _ _))
    · have hy := btw_f hy
      exact STw_weak (by exact stw_mk 2 (by decide) (tL_colour_x l D cI cQ cL ad 86 F (by decide) _ hC (nI w) y eA 2 (Or.inr ⟨rfl, rfl⟩) (tX5_colour_b2 l hst D cI cQ cL ad 86 F (by decide) r bB vB gB hB jB tB uB zB hN c8 b8 v8 g8 h8 j8 t8 u8 z8 hSn n9 st hn9 hst6 hPa aT ln hln hT c6 b6 v6 hM6 a7 d7 q7 hO hs hC (nI w) w rfl (by omega) y hy) rfl rfl (by decide) (by decide)) h85 (fun h => absurd h (by decide)) hR (tX6_colour l D cI cQ cL ad 86 _ 77 (by decide) r ps sl sd ne fa bu hs st ln pt th hR (nI w) y) (by simp [tW, hb, hy]) rfl rfl (by decide) (by decide) (INV_rf hI _ h85))
  · have hb := btw_f hb
    exact STw_weak (by exact stw_mk 1 (by decide) (tL_colour_x l D cI cQ cL ad 86 F (by decide) _ hC x y eI 1 (Or.inl ⟨rfl, rfl⟩) (tX5_colour_b1 l hst D cI cQ cL ad 86 F (by decide) r bB vB gB hB jB tB uB zB hN c8 b8 v8 g8 h8 j8 t8 u8 z8 hSn n9 st hn9 hst6 hPa aT ln hln hT c6 b6 v6 hM6 a7 d7 q7 hO hs hC x y ((cl4_b x).symm.trans hb)) rfl rfl (by decide) (by decide)) h85 (fun h => absurd h (by decide)) hR (tX6_colour l D cI cQ cL ad 86 _ 77 (by decide) r ps sl sd ne fa bu hs st ln pt th hR x y) (by simp [tW, hb]) rfl rfl (by decide) (by decide) (INV_rf hI _ h85))
set_option maxRecDepth 100000 in
theorem in_count (l : Launch) (hst : l.stackTraces = false) (D : va_G) (cI cQ cL : ClassId) (ad : Nat → Nat) (F : Nat → va_E) (H : IN1 cI cQ cL ad F) (x : Int32) : STw0 l D cI cQ cL ad 86 yL_count cL_count 4 [(0, 9, 12, 15)] yX6_count cX6_count 2 F (INV cI cQ cL ad) [.int x] := by
  obtain ⟨r, ps, sl, sd, ne, fa, bu, hs, st, ln, pt, th, hR, ⟨bB, vB, gB, hB, jB, tB, uB, zB, Np, Wp, hN, HP⟩, hI, o85, h85⟩ := H
  obtain ⟨-, ⟨⟨R8, c8, b8, v8, g8, h8, j8, t8, u8, z8, N8, W8, hSn, hP8, hc8⟩, hSnp⟩, ⟨n9, hRg⟩, ⟨hln, aT, hT, haT⟩, ⟨⟨c6, b6, v6, hM6⟩, a7, d7, q7, hO, hKN⟩, hC⟩ := id hI
  obtain ⟨hn9, hst6, hPa, hri, hrk⟩ := id hRg
  obtain ⟨Rr, cr, br, vr, gr, hr9, jr, tr, ur, zr, Nr, Wr, hRi, hRp, hRc⟩ := hri n9 hn9
  have hC : F 0 = .inr (5, [.ref (ad 1), .ref (ad 9), .ref (ad 17), .ref (ad 67), .ref (ad 69), .ref (ad 73), .int (bI hs)]) := hC
  have htB := HP.tlt
  by_cases hy : btw x (nI 0) (nI 13) = true
  · obtain ⟨k, rfl, -, hk⟩ := btw_of (by decide) (by decide) hy
    exact stw0_mk (kk := 0) (tL_count l D cI cQ cL ad 86 F (by decide) _ hC (nI k) _ _ h85 _ (MX_of_MR (tX5_count l D cI cQ cL ad 86 F (by decide) r bB vB gB hB jB tB uB zB hN c8 b8 v8 g8 h8 j8 t8 u8 z8 hSn n9 st hn9 hst6 hPa aT ln hln hT c6 b6 v6 hM6 a7 d7 q7 hO hs hC (nI k) hy)) rfl rfl (by decide) (by decide)) (rf_up hR) (tX6_count l D cI cQ cL ad 86 _ 77 (by decide) r ps sl sd ne fa bu hs st ln pt th (rf_up hR) (nI k)) rfl rfl (by decide) (by decide) (INV_rf (ICl_up hI) _ (va_up_self _ _ _))
  · have hy := btw_f hy
    exact STw_weak (by exact stw_mk 1 (by decide) (tL_count_x l D cI cQ cL ad 86 F (by decide) _ hC x eA 1 ⟨rfl, rfl⟩ (tX5_count_b1 l hst D cI cQ cL ad 86 F (by decide) r bB vB gB hB jB tB uB zB hN c8 b8 v8 g8 h8 j8 t8 u8 z8 hSn n9 st hn9 hst6 hPa aT ln hln hT c6 b6 v6 hM6 a7 d7 q7 hO hs hC x hy) rfl rfl (by decide) (by decide)) h85 (fun h => absurd h (by decide)) hR (tX6_count l D cI cQ cL ad 86 _ 77 (by decide) r ps sl sd ne fa bu hs st ln pt th hR x) (by simp [tN, hy]) rfl rfl (by decide) (by decide) (INV_rf hI _ h85))
set_option maxRecDepth 100000 in
theorem in_why (l : Launch) (hst : l.stackTraces = false) (D : va_G) (cI cQ cL : ClassId) (ad : Nat → Nat) (F : Nat → va_E) (H : IN1 cI cQ cL ad F) (x y z z2 : Int32) : STw l D cI cQ cL ad 86 yL_why cL_why 7 [(0, 14, 17, 13), (0, 14, 21, 15)] yX6_why cX6_why 5 F (INV cI cQ cL ad) [.int x, .int y, .int z, .int z2] := by
  obtain ⟨r, ps, sl, sd, ne, fa, bu, hs, st, ln, pt, th, hR, ⟨bB, vB, gB, hB, jB, tB, uB, zB, Np, Wp, hN, HP⟩, hI, o85, h85⟩ := H
  obtain ⟨-, ⟨⟨R8, c8, b8, v8, g8, h8, j8, t8, u8, z8, N8, W8, hSn, hP8, hc8⟩, hSnp⟩, ⟨n9, hRg⟩, ⟨hln, aT, hT, haT⟩, ⟨⟨c6, b6, v6, hM6⟩, a7, d7, q7, hO, hKN⟩, hC⟩ := id hI
  obtain ⟨hn9, hst6, hPa, hri, hrk⟩ := id hRg
  obtain ⟨Rr, cr, br, vr, gr, hr9, jr, tr, ur, zr, Nr, Wr, hRi, hRp, hRc⟩ := hri n9 hn9
  have hC : F 0 = .inr (5, [.ref (ad 1), .ref (ad 9), .ref (ad 17), .ref (ad 67), .ref (ad 69), .ref (ad 73), .int (bI hs)]) := hC
  have htB := HP.tlt
  by_cases h1 : btw x (nI 0) (nI 12) = true
  · by_cases h2 : btw y (nI 0) (nI 12) = true
    · have hon := on_tt h1 h2
      obtain ⟨a, rfl, -, ha⟩ := btw_of (by decide) (by decide) h1
      obtain ⟨b, rfl, -, hb⟩ := btw_of (by decide) (by decide) h2
      by_cases h3 : btw z (nI 1) (nI 6) = true
      · obtain ⟨f, rfl, hf1, hf2⟩ := btw_of (by decide) (by decide) h3
        by_cases h4 : btw z2 (nI 0) (nI 7) = true
        · obtain ⟨d, rfl, -, hd⟩ := btw_of (by decide) (by decide) h4
          exact stw_mk 0 (by decide) (tL_why l D cI cQ cL ad 86 F (by decide) _ hC (nI a) (nI b) (nI f) (nI d) _ _ h85 _ (MX_of_MR (tX5_why l D cI cQ cL ad 86 F (by decide) r bB vB gB hB jB tB uB zB hN c8 b8 v8 g8 h8 j8 t8 u8 z8 hSn n9 st hn9 hst6 hPa aT ln hln hT c6 b6 v6 hM6 a7 d7 q7 hO hs hC (nI a) (nI b) (nI f) f rfl ⟨hf1, hf2⟩ (nI d) h4 hon)) rfl rfl (by decide) (by decide)) (va_up_self _ _ _) (fun _ => by rw [pk_uLs]; rw [HP.why (by omega) (by omega) hf1, pY_ok (by omega) (by omega) ⟨hf1, hf2⟩ (by omega)]) (rf_up hR) (tX6_why l D cI cQ cL ad 86 _ 77 (by decide) r ps sl sd ne fa bu hs st ln pt th (rf_up hR) (nI a) (nI b) (nI f) (nI d)) (by simp only [tY, h1, h2, h3, h4, if_true]) rfl rfl (by decide) (by decide) (INV_rf (ICl_up hI) _ (va_up_self _ _ _))
        · have h4 := btw_f h4
          exact stw_mk 2 (by decide) (tL_why_x l D cI cQ cL ad 86 F (by decide) _ hC (nI a) (nI b) (nI f) z2 eA 2 (Or.inr ⟨rfl, rfl⟩) (tX5_why_b3 l hst D cI cQ cL ad 86 F (by decide) r bB vB gB hB jB tB uB zB hN c8 b8 v8 g8 h8 j8 t8 u8 z8 hSn n9 st hn9 hst6 hPa aT ln hln hT c6 b6 v6 hM6 a7 d7 q7 hO hs hC (nI a) (nI b) (nI f) z2 hon h3 h4) rfl rfl (by decide) (by decide)) h85 (fun h => absurd h (by decide)) hR (tX6_why l D cI cQ cL ad 86 _ 77 (by decide) r ps sl sd ne fa bu hs st ln pt th hR (nI a) (nI b) (nI f) z2) (by simp [tY, h1, h2, h3, h4]) rfl rfl (by decide) (by decide) (INV_rf hI _ h85)
      · have h3 := btw_f h3
        exact stw_mk 2 (by decide) (tL_why_x l D cI cQ cL ad 86 F (by decide) _ hC (nI a) (nI b) z z2 eA 2 (Or.inr ⟨rfl, rfl⟩) (tX5_why_b2 l hst D cI cQ cL ad 86 F (by decide) r bB vB gB hB jB tB uB zB hN c8 b8 v8 g8 h8 j8 t8 u8 z8 hSn n9 st hn9 hst6 hPa aT ln hln hT c6 b6 v6 hM6 a7 d7 q7 hO hs hC (nI a) (nI b) z z2 hon h3) rfl rfl (by decide) (by decide)) h85 (fun h => absurd h (by decide)) hR (tX6_why l D cI cQ cL ad 86 _ 77 (by decide) r ps sl sd ne fa bu hs st ln pt th hR (nI a) (nI b) z z2) (by simp [tY, h1, h2, h3]) rfl rfl (by decide) (by decide) (INV_rf hI _ h85)
    · have h2 := btw_f h2
      exact stw_mk 1 (by decide) (tL_why_x l D cI cQ cL ad 86 F (by decide) _ hC x y z z2 eI 1 (Or.inl ⟨rfl, rfl⟩) (tX5_why_b1 l hst D cI cQ cL ad 86 F (by decide) r bB vB gB hB jB tB uB zB hN c8 b8 v8 g8 h8 j8 t8 u8 z8 hSn n9 st hn9 hst6 hPa aT ln hln hT c6 b6 v6 hM6 a7 d7 q7 hO hs hC x y z z2 (on_f2 h2)) rfl rfl (by decide) (by decide)) h85 (fun h => absurd h (by decide)) hR (tX6_why l D cI cQ cL ad 86 _ 77 (by decide) r ps sl sd ne fa bu hs st ln pt th hR x y z z2) (by simp [tY, h1, h2]) rfl rfl (by decide) (by decide) (INV_rf hI _ h85)
  · have h1 := btw_f h1
    exact stw_mk 1 (by decide) (tL_why_x l D cI cQ cL ad 86 F (by decide) _ hC x y z z2 eI 1 (Or.inl ⟨rfl, rfl⟩) (tX5_why_b1 l hst D cI cQ cL ad 86 F (by decide) r bB vB gB hB jB tB uB zB hN c8 b8 v8 g8 h8 j8 t8 u8 z8 hSn n9 st hn9 hst6 hPa aT ln hln hT c6 b6 v6 hM6 a7 d7 q7 hO hs hC x y z z2 (on_f1 h1)) rfl rfl (by decide) (by decide)) h85 (fun h => absurd h (by decide)) hR (tX6_why l D cI cQ cL ad 86 _ 77 (by decide) r ps sl sd ne fa bu hs st ln pt th hR x y z z2) (by simp [tY, h1]) rfl rfl (by decide) (by decide) (INV_rf hI _ h85)
set_option maxRecDepth 100000 in
theorem in_lands (l : Launch) (hst : l.stackTraces = false) (D : va_G) (cI cQ cL : ClassId) (ad : Nat → Nat) (F : Nat → va_E) (H : IN1 cI cQ cL ad F) (x y z : Int32) : STw l D cI cQ cL ad 86 yL_lands cL_lands 6 [(0, 12, 15, 13), (0, 12, 19, 15)] yX6_lands cX6_lands 4 F (INV cI cQ cL ad) [.int x, .int y, .int z] := by
  obtain ⟨r, ps, sl, sd, ne, fa, bu, hs, st, ln, pt, th, hR, ⟨bB, vB, gB, hB, jB, tB, uB, zB, Np, Wp, hN, HP⟩, hI, o85, h85⟩ := H
  obtain ⟨-, ⟨⟨R8, c8, b8, v8, g8, h8, j8, t8, u8, z8, N8, W8, hSn, hP8, hc8⟩, hSnp⟩, ⟨n9, hRg⟩, ⟨hln, aT, hT, haT⟩, ⟨⟨c6, b6, v6, hM6⟩, a7, d7, q7, hO, hKN⟩, hC⟩ := id hI
  obtain ⟨hn9, hst6, hPa, hri, hrk⟩ := id hRg
  obtain ⟨Rr, cr, br, vr, gr, hr9, jr, tr, ur, zr, Nr, Wr, hRi, hRp, hRc⟩ := hri n9 hn9
  have hC : F 0 = .inr (5, [.ref (ad 1), .ref (ad 9), .ref (ad 17), .ref (ad 67), .ref (ad 69), .ref (ad 73), .int (bI hs)]) := hC
  have htB := HP.tlt
  by_cases hx : wk x = true
  · obtain ⟨w, hw, rfl⟩ := wk_of hx
    have hb := (btw_wk _).trans hx
    by_cases hd : btw y (nI 0) (nI 7) = true
    · by_cases hf : btw z (nI 1) (nI 9) = true
      · obtain ⟨d, rfl, -, hd7⟩ := btw_of (by decide) (by decide) hd
        obtain ⟨f, rfl, hf1, hf2⟩ := btw_of (by decide) (by decide) hf
        exact stw_mk 0 (by decide) (tL_lands l D cI cQ cL ad 86 F (by decide) _ hC (nI w) (nI d) (nI f) _ _ h85 _ (MX_of_MR (tX5_lands l D cI cQ cL ad 86 F (by decide) r bB vB gB hB jB tB uB zB hN c8 b8 v8 g8 h8 j8 t8 u8 z8 hSn n9 st hn9 hst6 hPa aT ln hln hT c6 b6 v6 hM6 a7 d7 q7 hO hs hC (nI w) w rfl hw (nI d) hd (nI f) f rfl ⟨hf1, hf2⟩)) rfl rfl (by decide) (by decide)) (va_up_self _ _ _) (fun _ => by rw [pk_uLs]; rw [pL_ok hw (by omega) ⟨hf1, hf2⟩]; rfl) (rf_up hR) (tX6_lands l D cI cQ cL ad 86 _ 77 (by decide) r ps sl sd ne fa bu hs st ln pt th (rf_up hR) (nI w) (nI d) (nI f) HP.rok) (by simp only [tL, hb, hd, hf, if_true]) rfl rfl (by decide) (by decide) (INV_rf (ICl_up hI) _ (va_up_self _ _ _))
      · have hf := btw_f hf
        exact stw_mk 2 (by decide) (tL_lands_x l D cI cQ cL ad 86 F (by decide) _ hC (nI w) y z eA 2 (Or.inr ⟨rfl, rfl⟩) (tX5_lands_b3 l hst D cI cQ cL ad 86 F (by decide) r bB vB gB hB jB tB uB zB hN c8 b8 v8 g8 h8 j8 t8 u8 z8 hSn n9 st hn9 hst6 hPa aT ln hln hT c6 b6 v6 hM6 a7 d7 q7 hO hs hC (nI w) w rfl hw y z hd hf) rfl rfl (by decide) (by decide)) h85 (fun h => absurd h (by decide)) hR (tX6_lands l D cI cQ cL ad 86 _ 77 (by decide) r ps sl sd ne fa bu hs st ln pt th hR (nI w) y z HP.rok) (by simp [tL, hb, hd, hf]) rfl rfl (by decide) (by decide) (INV_rf hI _ h85)
    · have hd := btw_f hd
      exact stw_mk 2 (by decide) (tL_lands_x l D cI cQ cL ad 86 F (by decide) _ hC (nI w) y z eA 2 (Or.inr ⟨rfl, rfl⟩) (tX5_lands_b2 l hst D cI cQ cL ad 86 F (by decide) r bB vB gB hB jB tB uB zB hN c8 b8 v8 g8 h8 j8 t8 u8 z8 hSn n9 st hn9 hst6 hPa aT ln hln hT c6 b6 v6 hM6 a7 d7 q7 hO hs hC (nI w) w rfl hw y z hd) rfl rfl (by decide) (by decide)) h85 (fun h => absurd h (by decide)) hR (tX6_lands l D cI cQ cL ad 86 _ 77 (by decide) r ps sl sd ne fa bu hs st ln pt th hR (nI w) y z HP.rok) (by simp [tL, hb, hd]) rfl rfl (by decide) (by decide) (INV_rf hI _ h85)
  · have hx := bool_f hx
    have hb := (btw_wk _).trans hx
    exact stw_mk 1 (by decide) (tL_lands_x l D cI cQ cL ad 86 F (by decide) _ hC x y z eI 1 (Or.inl ⟨rfl, rfl⟩) (tX5_lands_b1 l hst D cI cQ cL ad 86 F (by decide) r bB vB gB hB jB tB uB zB hN c8 b8 v8 g8 h8 j8 t8 u8 z8 hSn n9 st hn9 hst6 hPa aT ln hln hT c6 b6 v6 hM6 a7 d7 q7 hO hs hC x y z hx) rfl rfl (by decide) (by decide)) h85 (fun h => absurd h (by decide)) hR (tX6_lands l D cI cQ cL ad 86 _ 77 (by decide) r ps sl sd ne fa bu hs st ln pt th hR x y z HP.rok) (by simp [tL, hb]) rfl rfl (by decide) (by decide) (INV_rf hI _ h85)
set_option maxRecDepth 100000 in
theorem in_ifFlown (l : Launch) (hst : l.stackTraces = false) (D : va_G) (cI cQ cL : ClassId) (ad : Nat → Nat) (F : Nat → va_E) (H : IN1 cI cQ cL ad F) (x y z z2 : Int32) : STw0 l D cI cQ cL ad 86 yL_ifFlown cL_ifFlown 7 [(0, 14, 17, 13), (0, 14, 21, 15)] yX6_ifFlown cX6_ifFlown 5 F (INV cI cQ cL ad) [.int x, .int y, .int z, .int z2] := by
  obtain ⟨r, ps, sl, sd, ne, fa, bu, hs, st, ln, pt, th, hR, ⟨bB, vB, gB, hB, jB, tB, uB, zB, Np, Wp, hN, HP⟩, hI, o85, h85⟩ := H
  obtain ⟨-, ⟨⟨R8, c8, b8, v8, g8, h8, j8, t8, u8, z8, N8, W8, hSn, hP8, hc8⟩, hSnp⟩, ⟨n9, hRg⟩, ⟨hln, aT, hT, haT⟩, ⟨⟨c6, b6, v6, hM6⟩, a7, d7, q7, hO, hKN⟩, hC⟩ := id hI
  obtain ⟨hn9, hst6, hPa, hri, hrk⟩ := id hRg
  obtain ⟨Rr, cr, br, vr, gr, hr9, jr, tr, ur, zr, Nr, Wr, hRi, hRp, hRc⟩ := hri n9 hn9
  have hC : F 0 = .inr (5, [.ref (ad 1), .ref (ad 9), .ref (ad 17), .ref (ad 67), .ref (ad 69), .ref (ad 73), .int (bI hs)]) := hC
  have htB := HP.tlt
  by_cases hx : wk x = true
  · obtain ⟨w, hw, rfl⟩ := wk_of hx
    have hb := (btw_wk _).trans hx
    by_cases hd : btw y (nI 0) (nI 7) = true
    · by_cases hf : btw z (nI 1) (nI 9) = true
      · obtain ⟨d, rfl, -, hd7⟩ := btw_of (by decide) (by decide) hd
        obtain ⟨f, rfl, hf1, hf2⟩ := btw_of (by decide) (by decide) hf
        by_cases ha : btw z2 (nI 0) (nI 1) = true
        · obtain ⟨a, rfl, -, ha1⟩ := btw_of (by decide) (by decide) ha
          by_cases hwn : wnf r vB tB w = 0
          · exact stw0_mk (kk := 0) (tL_ifFlown l D cI cQ cL ad 86 F (by decide) _ hC (nI w) (nI d) (nI f) (nI a) _ _ ((mSet_out (by decide)).trans h85) _ (tX5_ifFlown l D cI cQ cL ad 86 F (by decide) r bB vB gB hB jB tB uB zB hN c8 b8 v8 g8 h8 j8 t8 u8 z8 hSn n9 st hn9 hst6 hPa aT ln hln hT c6 b6 v6 hM6 a7 d7 q7 hO hs hC htB (nI w) w rfl hw (nI d) hd (nI f) f rfl ⟨hf1, hf2⟩ (nI a) ha hwn) rfl rfl (by decide) (by decide)) (rf_up (rf_tm hR)) (tX6_ifFlown l D cI cQ cL ad 86 _ 77 (by decide) r ps sl sd ne fa bu hs st ln pt th (rf_up (rf_tm hR)) (nI w) (nI d) (nI f) (nI a) HP.rok) rfl rfl (by decide) (by decide) (INV_rf (ICl_up (ICl_tm hI)) _ (va_up_self _ _ _))
          · exact stw0_mk (kk := 0) (tL_ifFlown l D cI cQ cL ad 86 F (by decide) _ hC (nI w) (nI d) (nI f) (nI a) _ _ h85 _ (MX_of_MR (tX5_ifFlownX l D cI cQ cL ad 86 F (by decide) r bB vB gB hB jB tB uB zB hN c8 b8 v8 g8 h8 j8 t8 u8 z8 hSn n9 st hn9 hst6 hPa aT ln hln hT c6 b6 v6 hM6 a7 d7 q7 hO hs hC htB (nI w) w rfl hw (nI d) hd (nI f) f rfl ⟨hf1, hf2⟩ (nI a) ha hwn)) rfl rfl (by decide) (by decide)) (rf_up hR) (tX6_ifFlown l D cI cQ cL ad 86 _ 77 (by decide) r ps sl sd ne fa bu hs st ln pt th (rf_up hR) (nI w) (nI d) (nI f) (nI a) HP.rok) rfl rfl (by decide) (by decide) (INV_rf (ICl_up hI) _ (va_up_self _ _ _))
        · have ha := btw_f ha
          exact STw_weak (by exact stw_mk 2 (by decide) (tL_ifFlown_x l D cI cQ cL ad 86 F (by decide) _ hC (nI w) (nI d) (nI f) z2 eA 2 (Or.inr ⟨rfl, rfl⟩) (tX5_ifFlownX_b4 l hst D cI cQ cL ad 86 F (by decide) r bB vB gB hB jB tB uB zB hN c8 b8 v8 g8 h8 j8 t8 u8 z8 hSn n9 st hn9 hst6 hPa aT ln hln hT c6 b6 v6 hM6 a7 d7 q7 hO hs hC (nI w) w rfl hw (nI d) hd (nI f) f rfl ⟨hf1, hf2⟩ z2 ha) rfl rfl (by decide) (by decide)) h85 (fun h => absurd h (by decide)) hR (tX6_ifFlown l D cI cQ cL ad 86 _ 77 (by decide) r ps sl sd ne fa bu hs st ln pt th hR (nI w) (nI d) (nI f) z2 HP.rok) (by simp [tI, hb, hd, hf, ha]) rfl rfl (by decide) (by decide) (INV_rf hI _ h85))
      · have hf := btw_f hf
        exact STw_weak (by exact stw_mk 2 (by decide) (tL_ifFlown_x l D cI cQ cL ad 86 F (by decide) _ hC (nI w) y z z2 eA 2 (Or.inr ⟨rfl, rfl⟩) (tX5_ifFlownX_b3 l hst D cI cQ cL ad 86 F (by decide) r bB vB gB hB jB tB uB zB hN c8 b8 v8 g8 h8 j8 t8 u8 z8 hSn n9 st hn9 hst6 hPa aT ln hln hT c6 b6 v6 hM6 a7 d7 q7 hO hs hC (nI w) w rfl hw y z hd hf z2) rfl rfl (by decide) (by decide)) h85 (fun h => absurd h (by decide)) hR (tX6_ifFlown l D cI cQ cL ad 86 _ 77 (by decide) r ps sl sd ne fa bu hs st ln pt th hR (nI w) y z z2 HP.rok) (by simp [tI, hb, hd, hf]) rfl rfl (by decide) (by decide) (INV_rf hI _ h85))
    · have hd := btw_f hd
      exact STw_weak (by exact stw_mk 2 (by decide) (tL_ifFlown_x l D cI cQ cL ad 86 F (by decide) _ hC (nI w) y z z2 eA 2 (Or.inr ⟨rfl, rfl⟩) (tX5_ifFlownX_b2 l hst D cI cQ cL ad 86 F (by decide) r bB vB gB hB jB tB uB zB hN c8 b8 v8 g8 h8 j8 t8 u8 z8 hSn n9 st hn9 hst6 hPa aT ln hln hT c6 b6 v6 hM6 a7 d7 q7 hO hs hC (nI w) w rfl hw y z hd z2) rfl rfl (by decide) (by decide)) h85 (fun h => absurd h (by decide)) hR (tX6_ifFlown l D cI cQ cL ad 86 _ 77 (by decide) r ps sl sd ne fa bu hs st ln pt th hR (nI w) y z z2 HP.rok) (by simp [tI, hb, hd]) rfl rfl (by decide) (by decide) (INV_rf hI _ h85))
  · have hx := bool_f hx
    have hb := (btw_wk _).trans hx
    exact STw_weak (by exact stw_mk 1 (by decide) (tL_ifFlown_x l D cI cQ cL ad 86 F (by decide) _ hC x y z z2 eI 1 (Or.inl ⟨rfl, rfl⟩) (tX5_ifFlownX_b1 l hst D cI cQ cL ad 86 F (by decide) r bB vB gB hB jB tB uB zB hN c8 b8 v8 g8 h8 j8 t8 u8 z8 hSn n9 st hn9 hst6 hPa aT ln hln hT c6 b6 v6 hM6 a7 d7 q7 hO hs hC x y z hx z2) rfl rfl (by decide) (by decide)) h85 (fun h => absurd h (by decide)) hR (tX6_ifFlown l D cI cQ cL ad 86 _ 77 (by decide) r ps sl sd ne fa bu hs st ln pt th hR x y z z2 HP.rok) (by simp [tI, hb]) rfl rfl (by decide) (by decide) (INV_rf hI _ h85))
set_option maxRecDepth 100000 in
theorem in_flightsTo (l : Launch) (hst : l.stackTraces = false) (D : va_G) (cI cQ cL : ClassId) (ad : Nat → Nat) (F : Nat → va_E) (H : IN1 cI cQ cL ad F) (x : Int32) : STw l D cI cQ cL ad 86 yL_flightsTo cL_flightsTo 4 [(0, 9, 12, 13)] yX6_flightsTo cX6_flightsTo 2 F (INV cI cQ cL ad) [.int x] := by
  obtain ⟨r, ps, sl, sd, ne, fa, bu, hs, st, ln, pt, th, hR, ⟨bB, vB, gB, hB, jB, tB, uB, zB, Np, Wp, hN, HP⟩, hI, o85, h85⟩ := H
  obtain ⟨-, ⟨⟨R8, c8, b8, v8, g8, h8, j8, t8, u8, z8, N8, W8, hSn, hP8, hc8⟩, hSnp⟩, ⟨n9, hRg⟩, ⟨hln, aT, hT, haT⟩, ⟨⟨c6, b6, v6, hM6⟩, a7, d7, q7, hO, hKN⟩, hC⟩ := id hI
  obtain ⟨hn9, hst6, hPa, hri, hrk⟩ := id hRg
  obtain ⟨Rr, cr, br, vr, gr, hr9, jr, tr, ur, zr, Nr, Wr, hRi, hRp, hRc⟩ := hri n9 hn9
  have hC : F 0 = .inr (5, [.ref (ad 1), .ref (ad 9), .ref (ad 17), .ref (ad 67), .ref (ad 69), .ref (ad 73), .int (bI hs)]) := hC
  have htB := HP.tlt
  by_cases hx : wk x = true
  · obtain ⟨w, hw, rfl⟩ := wk_of hx
    by_cases hpt : pot r w = true
    · exact stw_mk 0 (by decide) (tL_flightsTo l D cI cQ cL ad 86 F (by decide) _ hC (nI w) _ _ h85 _ (MX_of_MR (tX5_flightsToX l D cI cQ cL ad 86 F (by decide) r bB vB gB hB jB tB uB zB hN c8 b8 v8 g8 h8 j8 t8 u8 z8 hSn n9 st hn9 hst6 hPa aT ln hln hT c6 b6 v6 hM6 a7 d7 q7 hO hs hC (nI w) w rfl hw hpt)) rfl rfl (by decide) (by decide)) (va_up_self _ _ _) (fun _ => by rw [pk_uLs]) (rf_up hR) (tX6_flightsToP l D cI cQ cL ad 86 _ 77 (by decide) r ps sl sd ne fa bu hs st ln pt th (rf_up hR) (nI w) w rfl hw hpt) (rfl) rfl rfl (by decide) (by decide) (INV_rf (ICl_up hI) _ (va_up_self _ _ _))
    · have hpt := bool_f hpt
      obtain ⟨q, hq1, hq84, hqe⟩ := HP.cel hw hpt
      obtain ⟨n, hn⟩ := fwr_all w hq1
      have hix : ix (r w) = q := by rw [hqe]; exact ixn (by omega)
      have hM := (tX5_flightsTo l D cI cQ cL ad 86 F (by decide) r bB vB gB hB jB tB uB zB hN c8 b8 v8 g8 h8 j8 t8 u8 z8 hSn n9 st hn9 hst6 hPa aT ln hln hT c6 b6 v6 hM6 a7 d7 q7 hO hs hC (nI w) w rfl hw (fun _ => ⟨q, hq1, hqe⟩) hpt)
      obtain ⟨n', g1, g2, g3⟩ := few_ok (d := d7) (qq := q7) hKN hw hq1
      rw [hix] at hM
      exact stw_mk2 (tL_flightsTo l D cI cQ cL ad 86 F (by decide) _ hC (nI w) _ _ ((roSet_out (by decide)).trans h85) _ hM rfl rfl (by decide) (by decide)) (va_up_self _ _ _) (by rw [pk_uLs, fwr_un hn g1]; exact congrArg Int32.toInt64 g2) (rf_up (rf_ro hR)) (tX6_flightsTo l D cI cQ cL ad 86 _ 77 (by decide) r ps sl sd ne fa bu hs st ln pt th (rf_up (rf_ro hR)) (nI w) w rfl hw q n hqe hq1 hq84 hpt hn) rfl rfl (by decide) (by decide) (fun ne9 fa9 => INV_rf (ICl_up (ICl_ro hI g3)) _ (va_up_self _ _ _))
  · have hx := bool_f hx
    have hb := (btw_wk _).trans hx
    exact stw_mk 1 (by decide) (tL_flightsTo_x l D cI cQ cL ad 86 F (by decide) _ hC x eI 1 ⟨rfl, rfl⟩ (tX5_flightsToX_b1 l hst D cI cQ cL ad 86 F (by decide) r bB vB gB hB jB tB uB zB hN c8 b8 v8 g8 h8 j8 t8 u8 z8 hSn n9 st hn9 hst6 hPa aT ln hln hT c6 b6 v6 hM6 a7 d7 q7 hO hs hC x hx) rfl rfl (by decide) (by decide)) h85 (fun h => absurd h (by decide)) hR (tX6_flightsToX l D cI cQ cL ad 86 _ 77 (by decide) r ps sl sd ne fa bu hs st ln pt th hR x hb) (rfl) rfl rfl (by decide) (by decide) (INV_rf hI _ h85)
set_option maxRecDepth 100000 in
theorem in_play (l : Launch) (hst : l.stackTraces = false) (D : va_G) (cI cQ cL : ClassId) (ad : Nat → Nat) (F : Nat → va_E) (H : IN1 cI cQ cL ad F) : STwE l D cI cQ cL ad 86 yL_play cL_play 3 [(0, 8, 11, 15)] yX6_play cX6_play 3 F (INV cI cQ cL ad) [] := by
  obtain ⟨r, ps, sl, sd, ne, fa, bu, hs, st, ln, pt, th, hR, ⟨bB, vB, gB, hB, jB, tB, uB, zB, Np, Wp, hN, HP⟩, hI, o85, h85⟩ := H
  obtain ⟨-, ⟨⟨R8, c8, b8, v8, g8, h8, j8, t8, u8, z8, N8, W8, hSn, hP8, hc8⟩, hSnp⟩, ⟨n9, hRg⟩, ⟨hln, aT, hT, haT⟩, ⟨⟨c6, b6, v6, hM6⟩, a7, d7, q7, hO, hKN⟩, hC⟩ := id hI
  obtain ⟨hn9, hst6, hPa, hri, hrk⟩ := id hRg
  obtain ⟨Rr, cr, br, vr, gr, hr9, jr, tr, ur, zr, Nr, Wr, hRi, hRp, hRc⟩ := hri n9 hn9
  have hC : F 0 = .inr (5, [.ref (ad 1), .ref (ad 9), .ref (ad 17), .ref (ad 67), .ref (ad 69), .ref (ad 73), .int (bI hs)]) := hC
  have htB := HP.tlt
  have hrw : rwh aT ln = rwh bu ln := rwh_congr haT
  by_cases hw8 : sta aT ln = nI 8
  · have hh := (sta_rwh aT ln).mp hw8
    have hh2 : (rwh bu ln).1 = true := by rw [← hrw]; exact hh
    have hwf := rwh_wfT hln hh
    have hwf2 := rwh_wfT hln hh2
    have hrr := rRun_congr haT 61 0 r 0 hwf
    refine ⟨0, _, tL_play l D cI cQ cL ad 86 F (by decide) _ hC _ _ ?_ (tX5_play l D cI cQ cL ad 86 F (by decide) r bB vB gB hB jB tB uB zB hN aT ln hln hT hs hC n9 st hn9 hst6 hPa cr br vr gr hr9 jr tr ur zr hRi Np Wp HP hwf hw8) rfl rfl (by decide) (by decide), fun F1 hp1 => ?_⟩
    · rintro G ⟨b1, v1, g1, h1, j1, t1, u1, N1, W1, hPs, rfl⟩
      exact ⟨o85, (gtSet_out (by decide)).trans ((mv_out hn9 (by decide)).trans h85)⟩
    · obtain ⟨G, o, ⟨b1, v1, g1, h1, j1, t1, u1, N1, W1, hPs, hG⟩, ho, rfl⟩ := hp1
      subst hG
      rw [hrr] at hPs
      have hR1 := rf_up (x := .inl (cL, 1, .inr (.inl (vp_updL o 0 (nI (rRun aT ln 61 0 r 0).1).toInt64)))) (rf_tx (a' := aT) (n := 0) (rf_mv (cQ := cQ) (c := r) (b := bB) (v := vB) (g := gB) (h := hB) (j := jB) (t := nI tB) (u := uB) (z := zB) (c' := (rRun aT ln 61 0 r 0).2) (b' := b1) (v' := v1) (g' := g1) (h' := h1) (j' := j1) (t' := nI t1) (u' := u1) (z' := zB) (n1 := (n9 + 1) % 6) (m1 := min (st + 1) 6) hn9 hR))
      refine ⟨nI (rRun aT ln 61 0 r 0).1, _, _, _, _, by decide, va_up_self _ _ _, fun _ => by rw [pk_uLs], hR1.1, tX6_play l D cI cQ cL ad 86 _ 77 (by decide) r ps sl sd ne fa bu hs st ln pt th hR1 hst6 hln bB vB gB hB jB tB uB zB Np Wp HP hwf2 hh2, rfl, rfl, by decide, by decide, ?_⟩
      rintro v G ⟨rfl, rfl⟩
      refine ⟨by rw [hrr], INV_rf (ICl_up (ICl_tx (ICl_mv hI hN HP (fun _ _ => rfl) hRg hPs (fun x _ => by rw [hrr])) (by decide) (fun x hx => absurd hx (Nat.not_lt_zero x)))) _ (va_up_self _ _ _), rfSet_out (by omega), _, _, _, _, _, _, _, _, _, _, _, rfSet_at⟩
  · have hh2 : (rwh bu ln).1 = false := by
      rw [← hrw]
      cases h9 : (rwh aT ln).1 with
      | false => rfl
      | true => exact absurd ((sta_rwh aT ln).mpr h9) hw8
    refine ⟨1, _, MLE_of_ML (tL_play_x l D cI cQ cL ad 86 F (by decide) _ hC eA 1 ⟨rfl, rfl⟩ (tX5_playX_b1 l hst D cI cQ cL ad 86 _ (by decide) r bB vB gB hB jB tB uB zB hN c8 b8 v8 g8 h8 j8 t8 u8 z8 hSn n9 st hn9 hst6 hPa aT ln hln hT c6 b6 v6 hM6 a7 d7 q7 hO hs hC hw8) rfl rfl (by decide) (by decide)), fun F1 hp1 => ?_⟩
    subst hp1
    refine ⟨nI 0, o85, _, _, _, by decide, h85, fun h => absurd h (by decide), hR.1, tX6_playX l D cI cQ cL ad 86 _ 77 (by decide) r ps sl sd ne fa bu hs st ln pt th hR hln hh2, rfl, rfl, by decide, by decide, ?_⟩
    rintro v G ⟨rfl, rfl⟩
    exact ⟨rfl, INV_rf hI _ h85, rfSet_out (by omega), _, _, _, _, _, _, _, _, _, _, _, rfSet_at⟩
set_option maxRecDepth 100000 in
theorem in_clearBuffer (l : Launch) (D : va_G) (cI cQ cL : ClassId) (ad : Nat → Nat) (F : Nat → va_E) (H : IN1 cI cQ cL ad F) : STs l D cI cQ cL ad 86 yX5_clearBuffer cX5_clearBuffer 2 yX6_clearBuffer cX6_clearBuffer 2 .int okI F (INV cI cQ cL ad) := by
  obtain ⟨r, ps, sl, sd, ne, fa, bu, hs, st, ln, pt, th, hR, ⟨bB, vB, gB, hB, jB, tB, uB, zB, Np, Wp, hN, HP⟩, hI, o85, h85⟩ := H
  obtain ⟨-, ⟨⟨R8, c8, b8, v8, g8, h8, j8, t8, u8, z8, N8, W8, hSn, hP8, hc8⟩, hSnp⟩, ⟨n9, hRg⟩, ⟨hln, aT, hT, haT⟩, ⟨⟨c6, b6, v6, hM6⟩, a7, d7, q7, hO, hKN⟩, hC⟩ := id hI
  obtain ⟨hn9, hst6, hPa, hri, hrk⟩ := id hRg
  obtain ⟨Rr, cr, br, vr, gr, hr9, jr, tr, ur, zr, Nr, Wr, hRi, hRp, hRc⟩ := hri n9 hn9
  have hC : F 0 = .inr (5, [.ref (ad 1), .ref (ad 9), .ref (ad 17), .ref (ad 67), .ref (ad 69), .ref (ad 73), .int (bI hs)]) := hC
  have htB := HP.tlt
  exact sts_mk hC (⟨_, rfl⟩) (tX5_clearBuffer l D cI cQ cL ad 86 F (by decide) r bB vB gB hB jB tB uB zB hN c8 b8 v8 g8 h8 j8 t8 u8 z8 hSn n9 st hn9 hst6 hPa aT ln hln hT c6 b6 v6 hM6 a7 d7 q7 hO hs hC ) rfl rfl (by decide) (by decide) (rf_tx hR) (tX6_clearBuffer l D cI cQ cL ad 86 _ 77 (by decide) r ps sl sd ne fa bu hs st ln pt th (rf_tx hR) ) (rfl) rfl rfl (by decide) (by decide) (INV_rf (ICl_tx hI (by decide) (fun x hx => absurd hx (Nat.not_lt_zero x))) _ ((gtSet_out (by decide)).trans h85))
set_option maxRecDepth 100000 in
theorem in_firstError (l : Launch) (D : va_G) (cI cQ cL : ClassId) (ad : Nat → Nat) (F : Nat → va_E) (H : IN1 cI cQ cL ad F) : STs l D cI cQ cL ad 86 yX5_firstError cX5_firstError 1 yX6_firstError cX6_firstError 1 .int okI F (INV cI cQ cL ad) := by
  obtain ⟨r, ps, sl, sd, ne, fa, bu, hs, st, ln, pt, th, hR, ⟨bB, vB, gB, hB, jB, tB, uB, zB, Np, Wp, hN, HP⟩, hI, o85, h85⟩ := H
  obtain ⟨-, ⟨⟨R8, c8, b8, v8, g8, h8, j8, t8, u8, z8, N8, W8, hSn, hP8, hc8⟩, hSnp⟩, ⟨n9, hRg⟩, ⟨hln, aT, hT, haT⟩, ⟨⟨c6, b6, v6, hM6⟩, a7, d7, q7, hO, hKN⟩, hC⟩ := id hI
  obtain ⟨hn9, hst6, hPa, hri, hrk⟩ := id hRg
  obtain ⟨Rr, cr, br, vr, gr, hr9, jr, tr, ur, zr, Nr, Wr, hRi, hRp, hRc⟩ := hri n9 hn9
  have hC : F 0 = .inr (5, [.ref (ad 1), .ref (ad 9), .ref (ad 17), .ref (ad 67), .ref (ad 69), .ref (ad 73), .int (bI hs)]) := hC
  have htB := HP.tlt
  exact sts_mk hC (⟨_, rfl⟩) (MX_of_MR (tX5_firstError l D cI cQ cL ad 86 F (by decide) r bB vB gB hB jB tB uB zB hN c8 b8 v8 g8 h8 j8 t8 u8 z8 hSn n9 st hn9 hst6 hPa aT ln hln hT c6 b6 v6 hM6 a7 d7 q7 hO hs hC )) rfl rfl (by decide) (by decide) hR (tX6_firstError l D cI cQ cL ad 86 _ 77 (by decide) r ps sl sd ne fa bu hs st ln pt th hR hln) (by rw [eri_rwh, rwh_congr haT]) rfl rfl (by decide) (by decide) (INV_rf hI _ h85)
set_option maxRecDepth 100000 in
theorem in_keep (l : Launch) (D : va_G) (cI cQ cL : ClassId) (ad : Nat → Nat) (F : Nat → va_E) (H : IN1 cI cQ cL ad F) : STs l D cI cQ cL ad 86 yX5_keep cX5_keep 1 yX6_keep cX6_keep 2 .int okI F (INV cI cQ cL ad) := by
  obtain ⟨r, ps, sl, sd, ne, fa, bu, hs, st, ln, pt, th, hR, ⟨bB, vB, gB, hB, jB, tB, uB, zB, Np, Wp, hN, HP⟩, hI, o85, h85⟩ := H
  obtain ⟨-, ⟨⟨R8, c8, b8, v8, g8, h8, j8, t8, u8, z8, N8, W8, hSn, hP8, hc8⟩, hSnp⟩, ⟨n9, hRg⟩, ⟨hln, aT, hT, haT⟩, ⟨⟨c6, b6, v6, hM6⟩, a7, d7, q7, hO, hKN⟩, hC⟩ := id hI
  obtain ⟨hn9, hst6, hPa, hri, hrk⟩ := id hRg
  obtain ⟨Rr, cr, br, vr, gr, hr9, jr, tr, ur, zr, Nr, Wr, hRi, hRp, hRc⟩ := hri n9 hn9
  have hC : F 0 = .inr (5, [.ref (ad 1), .ref (ad 9), .ref (ad 17), .ref (ad 67), .ref (ad 69), .ref (ad 73), .int (bI hs)]) := hC
  have htB := HP.tlt
  exact sts_mk hC (⟨_, rfl⟩) (tX5_keep l D cI cQ cL ad 86 F (by decide) r bB vB gB hB jB tB uB zB hN c8 b8 v8 g8 h8 j8 t8 u8 z8 hSn n9 st hn9 hst6 hPa aT ln hln hT c6 b6 v6 hM6 a7 d7 q7 hO hs hC ) rfl rfl (by decide) (by decide) (rf_kp hR) (tX6_keep l D cI cQ cL ad 86 _ 77 (by decide) r ps sl sd ne fa bu hs st ln pt th (rf_kp hR) ) (rfl) rfl rfl (by decide) (by decide) (INV_rf (ICl_kp hI HP hSn) _ ((va_up_ne _ _ (by decide)).trans ((sSet_out (by decide)).trans h85)))
set_option maxRecDepth 100000 in
theorem in_pottedShare (l : Launch) (D : va_G) (cI cQ cL : ClassId) (ad : Nat → Nat) (F : Nat → va_E) (H : IN1 cI cQ cL ad F) : STs l D cI cQ cL ad 86 yX5_pottedShare cX5_pottedShare 1 yX6_pottedShare cX6_pottedShare 1 .double okD F (INV cI cQ cL ad) := by
  obtain ⟨r, ps, sl, sd, ne, fa, bu, hs, st, ln, pt, th, hR, ⟨bB, vB, gB, hB, jB, tB, uB, zB, Np, Wp, hN, HP⟩, hI, o85, h85⟩ := H
  obtain ⟨-, ⟨⟨R8, c8, b8, v8, g8, h8, j8, t8, u8, z8, N8, W8, hSn, hP8, hc8⟩, hSnp⟩, ⟨n9, hRg⟩, ⟨hln, aT, hT, haT⟩, ⟨⟨c6, b6, v6, hM6⟩, a7, d7, q7, hO, hKN⟩, hC⟩ := id hI
  obtain ⟨hn9, hst6, hPa, hri, hrk⟩ := id hRg
  obtain ⟨Rr, cr, br, vr, gr, hr9, jr, tr, ur, zr, Nr, Wr, hRi, hRp, hRc⟩ := hri n9 hn9
  have hC : F 0 = .inr (5, [.ref (ad 1), .ref (ad 9), .ref (ad 17), .ref (ad 67), .ref (ad 69), .ref (ad 73), .int (bI hs)]) := hC
  have htB := HP.tlt
  exact sts_mk hC (⟨_, rfl, shr_cmp (potn_le _)⟩) (MX_of_MR (tX5_pottedShare l D cI cQ cL ad 86 F (by decide) r bB vB gB hB jB tB uB zB hN c8 b8 v8 g8 h8 j8 t8 u8 z8 hSn n9 st hn9 hst6 hPa aT ln hln hT c6 b6 v6 hM6 a7 d7 q7 hO hs hC )) rfl rfl (by decide) (by decide) hR (tX6_pottedShare l D cI cQ cL ad 86 _ 77 (by decide) r ps sl sd ne fa bu hs st ln pt th hR ) (rfl) rfl rfl (by decide) (by decide) (INV_rf hI _ h85)
set_option maxRecDepth 100000 in
theorem in_meanPile (l : Launch) (D : va_G) (cI cQ cL : ClassId) (ad : Nat → Nat) (F : Nat → va_E) (H : IN1 cI cQ cL ad F) : STs l D cI cQ cL ad 86 yX5_meanPile cX5_meanPile 2 yX6_meanPile cX6_meanPile 1 .float okF F (INV cI cQ cL ad) := by
  obtain ⟨r, ps, sl, sd, ne, fa, bu, hs, st, ln, pt, th, hR, ⟨bB, vB, gB, hB, jB, tB, uB, zB, Np, Wp, hN, HP⟩, hI, o85, h85⟩ := H
  obtain ⟨-, ⟨⟨R8, c8, b8, v8, g8, h8, j8, t8, u8, z8, N8, W8, hSn, hP8, hc8⟩, hSnp⟩, ⟨n9, hRg⟩, ⟨hln, aT, hT, haT⟩, ⟨⟨c6, b6, v6, hM6⟩, a7, d7, q7, hO, hKN⟩, hC⟩ := id hI
  obtain ⟨hn9, hst6, hPa, hri, hrk⟩ := id hRg
  obtain ⟨Rr, cr, br, vr, gr, hr9, jr, tr, ur, zr, Nr, Wr, hRi, hRp, hRc⟩ := hri n9 hn9
  have hC : F 0 = .inr (5, [.ref (ad 1), .ref (ad 9), .ref (ad 17), .ref (ad 67), .ref (ad 69), .ref (ad 73), .int (bI hs)]) := hC
  have htB := HP.tlt
  exact sts_mk hC (⟨_, rfl, n64_ok (mea_c64 _ (Nat.lt_succ_of_le (cnt_le _ 16)) _ (Nat.lt_succ_of_le (potn_le _))).1, (mea_c64 _ (Nat.lt_succ_of_le (cnt_le _ 16)) _ (Nat.lt_succ_of_le (potn_le _))).2⟩) (MX_of_MR (tX5_meanPile l D cI cQ cL ad 86 F (by decide) r bB vB gB hB jB tB uB zB hN c8 b8 v8 g8 h8 j8 t8 u8 z8 hSn n9 st hn9 hst6 hPa aT ln hln hT c6 b6 v6 hM6 a7 d7 q7 hO hs hC )) rfl rfl (by decide) (by decide) hR (tX6_meanPile l D cI cQ cL ad 86 _ 77 (by decide) r ps sl sd ne fa bu hs st ln pt th hR ) (by rw [HP.bots]) rfl rfl (by decide) (by decide) (INV_rf hI _ h85)
set_option maxRecDepth 100000 in
theorem in_best (l : Launch) (D : va_G) (cI cQ cL : ClassId) (ad : Nat → Nat) (F : Nat → va_E) (H : IN1 cI cQ cL ad F) : STs0 l D cI cQ cL ad 86 yX5_best cX5_best 11 yX6_best cX6_best 1 .int okI F (INV cI cQ cL ad) := by
  obtain ⟨r, ps, sl, sd, ne, fa, bu, hs, st, ln, pt, th, hR, ⟨bB, vB, gB, hB, jB, tB, uB, zB, Np, Wp, hN, HP⟩, hI, o85, h85⟩ := H
  obtain ⟨-, ⟨⟨R8, c8, b8, v8, g8, h8, j8, t8, u8, z8, N8, W8, hSn, hP8, hc8⟩, hSnp⟩, ⟨n9, hRg⟩, ⟨hln, aT, hT, haT⟩, ⟨⟨c6, b6, v6, hM6⟩, a7, d7, q7, hO, hKN⟩, hC⟩ := id hI
  obtain ⟨hn9, hst6, hPa, hri, hrk⟩ := id hRg
  obtain ⟨Rr, cr, br, vr, gr, hr9, jr, tr, ur, zr, Nr, Wr, hRi, hRp, hRc⟩ := hri n9 hn9
  have hC : F 0 = .inr (5, [.ref (ad 1), .ref (ad 9), .ref (ad 17), .ref (ad 67), .ref (ad 69), .ref (ad 73), .int (bI hs)]) := hC
  have htB := HP.tlt
  exact sts0_mk hC ⟨_, rfl⟩ ⟨_, rfl⟩ (tX5_best l D cI cQ cL ad 86 F (by decide) r bB vB gB hB jB tB uB zB hN c8 b8 v8 g8 h8 j8 t8 u8 z8 hSn n9 st hn9 hst6 hPa aT ln hln hT c6 b6 v6 hM6 a7 d7 q7 hO hs hC htB) rfl rfl (by decide) (by decide) (rf_tm hR) (tX6_best l D cI cQ cL ad 86 _ 77 (by decide) r ps sl sd ne fa bu hs st ln pt th (rf_tm hR) HP.rok) rfl rfl (by decide) (by decide) (INV_rf (ICl_tm hI) _ ((mSet_out (by decide)).trans h85))
set_option maxRecDepth 100000 in
theorem in_digest (l : Launch) (D : va_G) (cI cQ cL : ClassId) (ad : Nat → Nat) (F : Nat → va_E) (H : IN1 cI cQ cL ad F) : STs0 l D cI cQ cL ad 86 yX5_digest cX5_digest 4 yX6_digest cX6_digest 4 .long okL F (INV cI cQ cL ad) := by
  obtain ⟨r, ps, sl, sd, ne, fa, bu, hs, st, ln, pt, th, hR, ⟨bB, vB, gB, hB, jB, tB, uB, zB, Np, Wp, hN, HP⟩, hI, o85, h85⟩ := H
  obtain ⟨-, ⟨⟨R8, c8, b8, v8, g8, h8, j8, t8, u8, z8, N8, W8, hSn, hP8, hc8⟩, hSnp⟩, ⟨n9, hRg⟩, ⟨hln, aT, hT, haT⟩, ⟨⟨c6, b6, v6, hM6⟩, a7, d7, q7, hO, hKN⟩, hC⟩ := id hI
  obtain ⟨hn9, hst6, hPa, hri, hrk⟩ := id hRg
  obtain ⟨Rr, cr, br, vr, gr, hr9, jr, tr, ur, zr, Nr, Wr, hRi, hRp, hRc⟩ := hri n9 hn9
  have hC : F 0 = .inr (5, [.ref (ad 1), .ref (ad 9), .ref (ad 17), .ref (ad 67), .ref (ad 69), .ref (ad 73), .int (bI hs)]) := hC
  have htB := HP.tlt
  obtain ⟨nf, hnf⟩ := HP.nfx
  have hR1 := rf_tm (c := (cbO r bB vB tB ((-1 : Int32), nI 0, nI 0, c6, b6, v6) 16).2.2.2.1) (b := (cbO r bB vB tB ((-1 : Int32), nI 0, nI 0, c6, b6, v6) 16).2.2.2.2.1) (v := (cbO r bB vB tB ((-1 : Int32), nI 0, nI 0, c6, b6, v6) 16).2.2.2.2.2) (rf_ro (a := (cRo r (a7, d7, q7) 16).1) (d := (cRo r (a7, d7, q7) 16).2.1) (q := (cRo r (a7, d7, q7) 16).2.2) hR)
  refine ⟨_, _, _, _, _, _, _, ⟨_, rfl⟩, hC, (tX5_digest l D cI cQ cL ad 86 F (by decide) r bB vB gB hB jB tB uB zB hN c8 b8 v8 g8 h8 j8 t8 u8 z8 hSn n9 st hn9 hst6 hPa aT ln hln hT c6 b6 v6 hM6 a7 d7 q7 hO hs hC htB (fun w hw hp => HP.rok.2.2.1 w hw hp)), rfl, rfl, by decide, by decide, hR1.1, (tX6_digest l D cI cQ cL ad 86 _ 77 (by decide) r ps sl sd ne fa bu hs st ln pt th hR1 nf hnf HP.rok hln), rfl, rfl, by decide, by decide, ?_⟩
  rintro v G ⟨rfl, ne9, fa9, rfl⟩
  exact ⟨⟨_, ⟨_, rfl⟩, rfl⟩, INV_rf (ICl_tm (ICl_ro hI (cRo_kn (s := (a7, d7, q7)) hKN (fun w hw hp => HP.ixl w hw hp) 16 (Nat.le_refl _)))) _ ((mSet_out (by decide)).trans ((roSet_out (by decide)).trans h85))⟩
