/-! the calls anywhere in a game -/
theorem hgt_cong9 {c c' : Nat → Int32} {q : Int32} (h : ∀ x, x < 16 → c x = c' x) : hgt c q = hgt c' q := cnt_cong (fun i hi => by rw [h i hi])
theorem app_ok {a bu : Nat → Int32} {ln : Nat} {x : Int32} (h : ∀ y, y < ln → a y = bu y) (y : Nat) (hy : y < ln + 1) : upd a ln x y = upd bu ln x y := by
  by_cases e : y = ln
  · rw [e, upd_at9, upd_at9]
  · rw [upd_ne9 e, upd_ne9 e]
    exact h y (by omega)
theorem tX6_fly_x (l : Launch) (D : va_G) (cI cQ cL : ClassId) (ad : Nat → Nat) (N : Nat) (F : Nat → va_E) (k : Nat) (hk : k + 7 < N) (r ps sl sd ne fa bu : Nat → Int32) (hs : Bool) (st ln pt : Nat) (th : Int32) (hR : rfAt cI ad F k r ps sl sd ne fa bu hs st ln pt th) (x y z : Int32) (hst6 : st ≤ 6) (hrk : rok r) (hg : gF r x y z = false) : MX l yX6_fly (Cond.code yX6_fly cX6_fly 4 (some .int) :: AW) ({ frames := 5, cells := 0, slots := 0, locals := 109 } : Room) D cI cQ cL ad N F [.ref (ad k), .int x, .int y, .int z] (dp (some (.int (nI 0))) (rfSet cI ad F k r ps sl sd ne fa bu hs st ln pt (tF r x y z))) 0 0 := by
  have h6 := tX6_fly l D cI cQ cL ad N F k hk r ps sl sd ne fa bu hs st ln pt th hR x y z hst6 hrk
  simp only [hg, Bool.false_eq_true, if_false] at h6
  exact h6
theorem tX6_lift_x (l : Launch) (D : va_G) (cI cQ cL : ClassId) (ad : Nat → Nat) (N : Nat) (F : Nat → va_E) (k : Nat) (hk : k + 7 < N) (r ps sl sd ne fa bu : Nat → Int32) (hs : Bool) (st ln pt : Nat) (th : Int32) (hR : rfAt cI ad F k r ps sl sd ne fa bu hs st ln pt th) (x y z z2 : Int32) (hst6 : st ≤ 6) (hrk : rok r) (hg : gL r x y z z2 = false) : MX l yX6_lift (Cond.code yX6_lift cX6_lift 5 (some .int) :: AW) ({ frames := 5, cells := 0, slots := 0, locals := 110 } : Room) D cI cQ cL ad N F [.ref (ad k), .int x, .int y, .int z, .int z2] (dp (some (.int (nI 0))) (rfSet cI ad F k r ps sl sd ne fa bu hs st ln pt (tLi r x y z z2))) 0 0 := by
  have h6 := tX6_lift l D cI cQ cL ad N F k hk r ps sl sd ne fa bu hs st ln pt th hR x y z z2 hst6 hrk
  simp only [hg, Bool.false_eq_true, if_false] at h6
  exact h6
theorem tX6_put_x (l : Launch) (D : va_G) (cI cQ cL : ClassId) (ad : Nat → Nat) (N : Nat) (F : Nat → va_E) (k : Nat) (hk : k + 7 < N) (r ps sl sd ne fa bu : Nat → Int32) (hs : Bool) (st ln pt : Nat) (th : Int32) (hR : rfAt cI ad F k r ps sl sd ne fa bu hs st ln pt th) (x y z : Int32) (hst6 : st ≤ 6) (hg : gP r x y z = false) : MX l yX6_put (Cond.code yX6_put cX6_put 4 (some .int) :: AW) ({ frames := 3, cells := 0, slots := 0, locals := 64 } : Room) D cI cQ cL ad N F [.ref (ad k), .int x, .int y, .int z] (dp (some (.int (nI 0))) (rfSet cI ad F k r ps sl sd ne fa bu hs st ln pt (tPu r x y z))) 0 0 := by
  have h6 := tX6_put l D cI cQ cL ad N F k hk r ps sl sd ne fa bu hs st ln pt th hR x y z hst6
  simp only [hg, Bool.false_eq_true, if_false] at h6
  exact h6
theorem tX6_set_x (l : Launch) (D : va_G) (cI cQ cL : ClassId) (ad : Nat → Nat) (N : Nat) (F : Nat → va_E) (k : Nat) (hk : k + 7 < N) (r ps sl sd ne fa bu : Nat → Int32) (hs : Bool) (st ln pt : Nat) (th : Int32) (hR : rfAt cI ad F k r ps sl sd ne fa bu hs st ln pt th) (x : Int32) (hst6 : st ≤ 6) (hg : gS x = false) : MX l yX6_set (Cond.code yX6_set cX6_set 3 (some .int) :: AW) ({ frames := 1, cells := 0, slots := 0, locals := 22 } : Room) D cI cQ cL ad N F [.ref (ad k), .int x] (dp (some (.int (nI 0))) (rfSet cI ad F k r ps sl sd ne fa bu hs st ln pt (nI 1))) 0 0 := by
  have h6 := tX6_set l D cI cQ cL ad N F k hk r ps sl sd ne fa bu hs st ln pt th hR x hst6
  simp only [hg, Bool.false_eq_true, if_false] at h6
  exact h6
theorem tX6_fly_n (l : Launch) (D : va_G) (cI cQ cL : ClassId) (ad : Nat → Nat) (N : Nat) (F : Nat → va_E) (k : Nat) (hk : k + 7 < N) (r ps sl sd ne fa bu : Nat → Int32) (hs : Bool) (st ln pt : Nat) (th : Int32) (hR : rfAt cI ad F k r ps sl sd ne fa bu hs st ln pt th) {w d f t : Nat} (hst6 : st ≤ 6) (hrk : rok r) (hw : w < 16) (hd : d < 8) (hf : 1 ≤ f ∧ f ≤ 9) (ht : ix (r 56) = t) (hwn : rwn r w = 0) : MX l yX6_fly (Cond.code yX6_fly cX6_fly 4 (some .int) :: AW) ({ frames := 5, cells := 0, slots := 0, locals := 109 } : Room) D cI cQ cL ad N F [.ref (ad k), .int (nI w), .int (nI d), .int (nI f)] (dp (some (.int (fans (flE r w (nI d) f)))) (rfSet cI ad F k (rfx r w (flE r w (nI d) f) t) (rcP ps r st) sl sd ne fa bu hs (rcS st) ln pt (nI 0))) 0 0 := by
  have h6 := tX6_fly l D cI cQ cL ad N F k hk r ps sl sd ne fa bu hs st ln pt th hR (nI w) (nI d) (nI f) hst6 hrk
  have hg : gF r (nI w) (nI d) (nI f) = true := gF_t (btw_nI (by omega)) (btw_nI (by omega)) (btw_nI (by omega)) (by rw [ixn (by omega)]; exact hwn)
  have ht2 : tF r (nI w) (nI d) (nI f) = nI 0 := by
    unfold tF
    rw [if_pos (btw_nI (by omega)), if_pos (btw_nI (by omega)), if_pos (btw_nI (by omega)), ixn (by omega), if_pos hwn]
  simp only [hg, if_true, ht2, ht] at h6
  rw [ixn (show w < 2 ^ 31 by omega), ixn (show d < 2 ^ 31 by omega), ixn (show f < 2 ^ 31 by omega)] at h6
  exact h6
theorem tX6_lift_n (l : Launch) (D : va_G) (cI cQ cL : ClassId) (ad : Nat → Nat) (N : Nat) (F : Nat → va_E) (k : Nat) (hk : k + 7 < N) (r ps sl sd ne fa bu : Nat → Int32) (hs : Bool) (st ln pt : Nat) (th : Int32) (hR : rfAt cI ad F k r ps sl sd ne fa bu hs st ln pt th) {x y f d t : Nat} (hst6 : st ≤ 6) (hrk : rok r) (hx : x < 13) (hy : y < 13) (hf : 1 ≤ f ∧ f ≤ 6) (hd : d < 8) (ht : ix (r 56) = t) (hwn : rwl r (13 * y + x) f d = 0) : MX l yX6_lift (Cond.code yX6_lift cX6_lift 5 (some .int) :: AW) ({ frames := 5, cells := 0, slots := 0, locals := 110 } : Room) D cI cQ cL ad N F [.ref (ad k), .int (nI x), .int (nI y), .int (nI f), .int (nI d)] (dp (some (.int (nI (hgt r (nI (13 * y + x)) - f)))) (rfSet cI ad F k (rlx r (13 * y + x) f d t) (rcP ps r st) sl sd ne fa bu hs (rcS st) ln pt (nI 0))) 0 0 := by
  have h6 := tX6_lift l D cI cQ cL ad N F k hk r ps sl sd ne fa bu hs st ln pt th hR (nI x) (nI y) (nI f) (nI d) hst6 hrk
  have hg : gL r (nI x) (nI y) (nI f) (nI d) = true := by rw [gL_ok hx hy hf hd, hwn]; rfl
  have ht2 : tLi r (nI x) (nI y) (nI f) (nI d) = nI 0 := by rw [tLi_ok hx hy hf hd, if_pos hwn]
  simp only [hg, if_true, ht2, ht] at h6
  rw [ixn (show x < 2 ^ 31 by omega), ixn (show y < 2 ^ 31 by omega), ixn (show f < 2 ^ 31 by omega), ixn (show d < 2 ^ 31 by omega)] at h6
  exact h6
theorem tX6_put_n (l : Launch) (D : va_G) (cI cQ cL : ClassId) (ad : Nat → Nat) (N : Nat) (F : Nat → va_E) (k : Nat) (hk : k + 7 < N) (r ps sl sd ne fa bu : Nat → Int32) (hs : Bool) (st ln pt : Nat) (th : Int32) (hR : rfAt cI ad F k r ps sl sd ne fa bu hs st ln pt th) {w x y : Nat} (hst6 : st ≤ 6) (hw : w < 16) (hx : x < 13) (hy : y < 13) (hov : over r = false) (hcv : rcv r w = false) : MX l yX6_put (Cond.code yX6_put cX6_put 4 (some .int) :: AW) ({ frames := 3, cells := 0, slots := 0, locals := 64 } : Room) D cI cQ cL ad N F [.ref (ad k), .int (nI w), .int (nI x), .int (nI y)] (dp (some (.int (nI (hgt (rly r w (nI (13 * y + x))) (nI (13 * y + x)))))) (rfSet cI ad F k (rly r w (nI (13 * y + x))) (rcP ps r st) sl sd ne fa bu hs (rcS st) ln pt (nI 0))) 0 0 := by
  have h6 := tX6_put l D cI cQ cL ad N F k hk r ps sl sd ne fa bu hs st ln pt th hR (nI w) (nI x) (nI y) hst6
  have hb : (!(over r) && !(rcv r w)) = true := by rw [hov, hcv]; rfl
  have hg : gP r (nI w) (nI x) (nI y) = true := (gP_ok hw hx hy).trans hb
  have ht2 : tPu r (nI w) (nI x) (nI y) = nI 0 := by rw [tPu_ok hw hx hy, if_pos hb]
  simp only [hg, if_true, ht2] at h6
  rw [ixn (show w < 2 ^ 31 by omega), pk_mul, nI_add] at h6
  exact h6
theorem tX6_set_n (l : Launch) (D : va_G) (cI cQ cL : ClassId) (ad : Nat → Nat) (N : Nat) (F : Nat → va_E) (k : Nat) (hk : k + 7 < N) (r ps sl sd ne fa bu : Nat → Int32) (hs : Bool) (st ln pt : Nat) (th : Int32) (hR : rfAt cI ad F k r ps sl sd ne fa bu hs st ln pt th) (x : Int32) (hst6 : st ≤ 6) (hx : btw x (nI 1) (nI 6) = true) : MX l yX6_set (Cond.code yX6_set cX6_set 3 (some .int) :: AW) ({ frames := 1, cells := 0, slots := 0, locals := 22 } : Room) D cI cQ cL ad N F [.ref (ad k), .int x] (dp (some (.int (r 57))) (rfSet cI ad F k (upd r 57 x) (rcP ps r st) sl sd ne fa bu hs (rcS st) ln pt (nI 0))) 0 0 := by
  have h6 := tX6_set l D cI cQ cL ad N F k hk r ps sl sd ne fa bu hs st ln pt th hR x hst6
  have hg : gS x = true := hx
  simp only [hg, if_true] at h6
  exact h6
theorem tX6_append_n (l : Launch) (D : va_G) (cI cQ cL : ClassId) (ad : Nat → Nat) (N : Nat) (F : Nat → va_E) (k : Nat) (hk : k + 7 < N) (r ps sl sd ne fa bu : Nat → Int32) (hs : Bool) (st ln pt : Nat) (th : Int32) (hR : rfAt cI ad F k r ps sl sd ne fa bu hs st ln pt th) (x : Int32) (hln : ln < 60) (hx : btw x (nI 33) (nI 126) = true) : MX l yX6_append (Cond.code yX6_append cX6_append 2 (some .int) :: AW) ({ frames := 1, cells := 0, slots := 0, locals := 22 } : Room) D cI cQ cL ad N F [.ref (ad k), .int x] (dp (some (.int (nI (ln + 1)))) (rfSet cI ad F k r ps sl sd ne fa (upd bu ln x) hs st (ln + 1) pt (nI 0))) 0 0 := by
  have h6 := tX6_append l D cI cQ cL ad N F k hk r ps sl sd ne fa bu hs st ln pt th hR x (by omega)
  have hg : decide (ln = 60) = false := decide_eq_false (by omega)
  simp only [hx, hg, Bool.not_false, Bool.and_self, if_true] at h6
  rw [if_neg (show ¬ ln = 60 by omega)] at h6
  exact h6
theorem tX6_append_x (l : Launch) (D : va_G) (cI cQ cL : ClassId) (ad : Nat → Nat) (N : Nat) (F : Nat → va_E) (k : Nat) (hk : k + 7 < N) (r ps sl sd ne fa bu : Nat → Int32) (hs : Bool) (st ln pt : Nat) (th : Int32) (hR : rfAt cI ad F k r ps sl sd ne fa bu hs st ln pt th) (x : Int32) (hln : ln ≤ 60) (hg : (btw x (nI 33) (nI 126) && !(decide (ln = 60))) = false) : MX l yX6_append (Cond.code yX6_append cX6_append 2 (some .int) :: AW) ({ frames := 1, cells := 0, slots := 0, locals := 22 } : Room) D cI cQ cL ad N F [.ref (ad k), .int x] (dp (some (.int (nI 0))) (rfSet cI ad F k r ps sl sd ne fa bu hs st ln pt (if btw x (nI 33) (nI 126) = true then (if ln = 60 then nI 2 else nI 0) else nI 1))) 0 0 := by
  have h6 := tX6_append l D cI cQ cL ad N F k hk r ps sl sd ne fa bu hs st ln pt th hR x hln
  simp only [hg, Bool.false_eq_true, if_false] at h6
  exact h6
set_option maxRecDepth 100000 in
theorem in_fly (l : Launch) (hst : l.stackTraces = false) (D : va_G) (cI cQ cL : ClassId) (ad : Nat → Nat) (F : Nat → va_E) (H : IN1 cI cQ cL ad F) (x y z : Int32) : STw l D cI cQ cL ad 86 yL_fly cL_fly 6 [(0, 12, 15, 13), (0, 12, 19, 15), (0, 12, 23, 17)] yX6_fly cX6_fly 4 F (INV cI cQ cL ad) [.int x, .int y, .int z] := by
  obtain ⟨r, ps, sl, sd, ne, fa, bu, hs, st, ln, pt, th, hR, ⟨bB, vB, gB, hB, jB, tB, uB, zB, Np, Wp, hN, HP⟩, hI, o85, h85⟩ := H
  obtain ⟨-, ⟨⟨R8, c8, b8, v8, g8, h8, j8, t8, u8, z8, N8, W8, hSn, hP8, hc8⟩, hSnp⟩, ⟨n9, hRg⟩, ⟨hln, aT, hT, haT⟩, ⟨⟨c6, b6, v6, hM6⟩, a7, d7, q7, hO, hKN⟩, hC⟩ := id hI
  obtain ⟨hn9, hst6, hPa, hri, hrk⟩ := id hRg
  obtain ⟨Rr, cr, br, vr, gr, hr9, jr, tr, ur, zr, Nr, Wr, hRi, hRp, hRc⟩ := hri n9 hn9
  have hC : F 0 = .inr (5, [.ref (ad 1), .ref (ad 9), .ref (ad 17), .ref (ad 67), .ref (ad 69), .ref (ad 73), .int (bI hs)]) := hC
  have htB := HP.tlt
  by_cases hx : wk x = true
  · obtain ⟨w, hw, rfl⟩ := wk_of hx
    have hb := (btw_wk _).trans hx
    by_cases hd : btw y (nI 0) (nI 7) = true
    · by_cases hf : btw z (nI 1) (nI 9) = true
      · obtain ⟨d, rfl, -, hd7⟩ := btw_of (by decide) (by decide) hd
        obtain ⟨f, rfl, hf1, hf2⟩ := btw_of (by decide) (by decide) hf
        have hwe := HP.wnfN hw
        by_cases hwn : wnf r vB tB w = 0
        · have hwr : rwn r w = 0 := by rw [← hwe]; exact hwn
          have hp9 := (wnf_0 hwn).2.2.1
          obtain ⟨N', W', HP', hc'⟩ := HP.fly hw hwn (ldg_q HP hw hp9 (nI d) (stp w f))
          exact stw_mk 0 (by decide) (tL_fly l D cI cQ cL ad 86 F (by decide) _ hC (nI w) (nI d) (nI f) _ _ ((mv_out hn9 (by decide)).trans h85) _ (tX5_fly l D cI cQ cL ad 86 F (by decide) r bB vB gB hB jB tB uB zB hN c8 b8 v8 g8 h8 j8 t8 u8 z8 hSn n9 st hn9 hst6 hPa aT ln hln hT c6 b6 v6 hM6 a7 d7 q7 hO hs hC cr br vr gr hr9 jr tr ur zr hRi htB (nI w) w rfl hw (nI d) hd (nI f) f rfl ⟨hf1, hf2⟩ hwn) rfl rfl (by decide) (by decide)) (va_up_self _ _ _) (fun _ => by rw [pk_uLs]) (rf_up (rf_mv hn9 hR)) (tX6_fly_n l D cI cQ cL ad 86 _ 77 (by decide) r ps sl sd ne fa bu hs st ln pt th (rf_up (rf_mv hn9 hR)) hst6 HP.rok hw (by omega) ⟨hf1, hf2⟩ (HP.t_of (wnf_0 hwn).1).1 hwr) (rfl) rfl rfl (by decide) (by decide) (INV_rf (ICl_up (ICl_mv hI hN HP (fun _ _ => rfl) hRg HP' hc')) _ (va_up_self _ _ _))
        · exact stw_mk 3 (by decide) (tL_fly_x l D cI cQ cL ad 86 F (by decide) _ hC (nI w) (nI d) (nI f) eS 3 (Or.inr (Or.inr ⟨rfl, rfl⟩)) (tX5_flyX_b4 l hst D cI cQ cL ad 86 F (by decide) r bB vB gB hB jB tB uB zB hN c8 b8 v8 g8 h8 j8 t8 u8 z8 hSn n9 st hn9 hst6 hPa aT ln hln hT c6 b6 v6 hM6 a7 d7 q7 hO hs hC htB (nI w) w rfl hw (nI d) hd (nI f) f rfl ⟨hf1, hf2⟩ hwn) rfl rfl (by decide) (by decide)) h85 (fun h => absurd h (by decide)) hR (tX6_fly_x l D cI cQ cL ad 86 _ 77 (by decide) r ps sl sd ne fa bu hs st ln pt th hR (nI w) (nI d) (nI f) hst6 HP.rok (by simp only [gF, hb, hd, hf, if_true]; rw [if_neg (by rw [ixn (by omega), ← hwe]; exact hwn)])) (by simp only [tF, hb, hd, hf, if_true]; rw [if_neg (by rw [ixn (by omega), ← hwe]; exact hwn)]) rfl rfl (by decide) (by decide) (INV_rf hI _ h85)
      · have hf := btw_f hf
        exact stw_mk 2 (by decide) (tL_fly_x l D cI cQ cL ad 86 F (by decide) _ hC (nI w) y z eA 2 (Or.inr (Or.inl ⟨rfl, rfl⟩)) (tX5_flyX_b3 l hst D cI cQ cL ad 86 F (by decide) r bB vB gB hB jB tB uB zB hN c8 b8 v8 g8 h8 j8 t8 u8 z8 hSn n9 st hn9 hst6 hPa aT ln hln hT c6 b6 v6 hM6 a7 d7 q7 hO hs hC (nI w) w rfl hw y z hd hf) rfl rfl (by decide) (by decide)) h85 (fun h => absurd h (by decide)) hR (tX6_fly_x l D cI cQ cL ad 86 _ 77 (by decide) r ps sl sd ne fa bu hs st ln pt th hR (nI w) y z hst6 HP.rok (by simp [gF, hb, hd, hf])) (by simp [tF, hb, hd, hf]) rfl rfl (by decide) (by decide) (INV_rf hI _ h85)
    · have hd := btw_f hd
      exact stw_mk 2 (by decide) (tL_fly_x l D cI cQ cL ad 86 F (by decide) _ hC (nI w) y z eA 2 (Or.inr (Or.inl ⟨rfl, rfl⟩)) (tX5_flyX_b2 l hst D cI cQ cL ad 86 F (by decide) r bB vB gB hB jB tB uB zB hN c8 b8 v8 g8 h8 j8 t8 u8 z8 hSn n9 st hn9 hst6 hPa aT ln hln hT c6 b6 v6 hM6 a7 d7 q7 hO hs hC (nI w) w rfl hw y z hd) rfl rfl (by decide) (by decide)) h85 (fun h => absurd h (by decide)) hR (tX6_fly_x l D cI cQ cL ad 86 _ 77 (by decide) r ps sl sd ne fa bu hs st ln pt th hR (nI w) y z hst6 HP.rok (by simp [gF, hb, hd])) (by simp [tF, hb, hd]) rfl rfl (by decide) (by decide) (INV_rf hI _ h85)
  · have hx := bool_f hx
    have hb := (btw_wk _).trans hx
    exact stw_mk 1 (by decide) (tL_fly_x l D cI cQ cL ad 86 F (by decide) _ hC x y z eI 1 (Or.inl ⟨rfl, rfl⟩) (tX5_flyX_b1 l hst D cI cQ cL ad 86 F (by decide) r bB vB gB hB jB tB uB zB hN c8 b8 v8 g8 h8 j8 t8 u8 z8 hSn n9 st hn9 hst6 hPa aT ln hln hT c6 b6 v6 hM6 a7 d7 q7 hO hs hC x y z hx) rfl rfl (by decide) (by decide)) h85 (fun h => absurd h (by decide)) hR (tX6_fly_x l D cI cQ cL ad 86 _ 77 (by decide) r ps sl sd ne fa bu hs st ln pt th hR x y z hst6 HP.rok (by simp [gF, hb])) (by simp [tF, hb]) rfl rfl (by decide) (by decide) (INV_rf hI _ h85)
set_option maxRecDepth 100000 in
theorem in_lift (l : Launch) (hst : l.stackTraces = false) (D : va_G) (cI cQ cL : ClassId) (ad : Nat → Nat) (F : Nat → va_E) (H : IN1 cI cQ cL ad F) (x y z z2 : Int32) : STw l D cI cQ cL ad 86 yL_lift cL_lift 7 [(0, 14, 17, 13), (0, 14, 21, 15), (0, 14, 25, 17)] yX6_lift cX6_lift 5 F (INV cI cQ cL ad) [.int x, .int y, .int z, .int z2] := by
  obtain ⟨r, ps, sl, sd, ne, fa, bu, hs, st, ln, pt, th, hR, ⟨bB, vB, gB, hB, jB, tB, uB, zB, Np, Wp, hN, HP⟩, hI, o85, h85⟩ := H
  obtain ⟨-, ⟨⟨R8, c8, b8, v8, g8, h8, j8, t8, u8, z8, N8, W8, hSn, hP8, hc8⟩, hSnp⟩, ⟨n9, hRg⟩, ⟨hln, aT, hT, haT⟩, ⟨⟨c6, b6, v6, hM6⟩, a7, d7, q7, hO, hKN⟩, hC⟩ := id hI
  obtain ⟨hn9, hst6, hPa, hri, hrk⟩ := id hRg
  obtain ⟨Rr, cr, br, vr, gr, hr9, jr, tr, ur, zr, Nr, Wr, hRi, hRp, hRc⟩ := hri n9 hn9
  have hC : F 0 = .inr (5, [.ref (ad 1), .ref (ad 9), .ref (ad 17), .ref (ad 67), .ref (ad 69), .ref (ad 73), .int (bI hs)]) := hC
  have htB := HP.tlt
  by_cases h1 : btw x (nI 0) (nI 12) = true
  · by_cases h2 : btw y (nI 0) (nI 12) = true
    · have hon := on_tt h1 h2
      obtain ⟨a, rfl, -, ha⟩ := btw_of (by decide) (by decide) h1
      obtain ⟨b, rfl, -, hb⟩ := btw_of (by decide) (by decide) h2
      by_cases h3 : btw z (nI 1) (nI 6) = true
      · obtain ⟨f, rfl, hf1, hf2⟩ := btw_of (by decide) (by decide) h3
        by_cases h4 : btw z2 (nI 0) (nI 7) = true
        · obtain ⟨d, rfl, -, hd⟩ := btw_of (by decide) (by decide) h4
          have hwr := HP.why (d := d) (show a < 13 by omega) (show b < 13 by omega) hf1
          by_cases hwn : wnl r bB vB tB zB (nI a) (nI b) f (nI d) = 0
          · have hwn6 : rwl r (13 * b + a) f d = 0 := by rw [← hwr]; exact hwn
            obtain ⟨N', W', HP', hc', hga⟩ := HP.lift (show a < 13 by omega) (show b < 13 by omega) ⟨hf1, hf2⟩ (show d < 8 by omega) hwn6
            have hov : over r = false := by
              unfold rwl at hwn6
              by_cases h9 : over r = true
              · rw [if_pos h9] at hwn6; omega
              · exact bool_f h9
            exact stw_mk 0 (by decide) (tL_lift l D cI cQ cL ad 86 F (by decide) _ hC (nI a) (nI b) (nI f) (nI d) _ _ ((mv_out hn9 (by decide)).trans h85) _ (tX5_lift l D cI cQ cL ad 86 F (by decide) r bB vB gB hB jB tB uB zB hN c8 b8 v8 g8 h8 j8 t8 u8 z8 hSn n9 st hn9 hst6 hPa aT ln hln hT c6 b6 v6 hM6 a7 d7 q7 hO hs hC cr br vr gr hr9 jr tr ur zr hRi htB (nI a) (nI b) (nI f) f rfl ⟨hf1, hf2⟩ (nI d) h4 hon hwn) rfl rfl (by decide) (by decide)) (va_up_self _ _ _) (fun _ => by rw [pk_uLs]; rw [hga]) (rf_up (rf_mv hn9 hR)) (tX6_lift_n l D cI cQ cL ad 86 _ 77 (by decide) r ps sl sd ne fa bu hs st ln pt th (rf_up (rf_mv hn9 hR)) hst6 HP.rok (by omega) (by omega) ⟨hf1, hf2⟩ (by omega) (HP.t_of hov).1 hwn6) (rfl) rfl rfl (by decide) (by decide) (INV_rf (ICl_up (ICl_mv hI hN HP (fun _ _ => rfl) hRg HP' hc')) _ (va_up_self _ _ _))
          · exact stw_mk 3 (by decide) (tL_lift_x l D cI cQ cL ad 86 F (by decide) _ hC (nI a) (nI b) (nI f) (nI d) eS 3 (Or.inr (Or.inr ⟨rfl, rfl⟩)) (tX5_liftX_b4 l hst D cI cQ cL ad 86 F (by decide) r bB vB gB hB jB tB uB zB hN c8 b8 v8 g8 h8 j8 t8 u8 z8 hSn n9 st hn9 hst6 hPa aT ln hln hT c6 b6 v6 hM6 a7 d7 q7 hO hs hC (nI a) (nI b) (nI f) f rfl ⟨hf1, hf2⟩ (nI d) h4 hon hwn) rfl rfl (by decide) (by decide)) h85 (fun h => absurd h (by decide)) hR (tX6_lift_x l D cI cQ cL ad 86 _ 77 (by decide) r ps sl sd ne fa bu hs st ln pt th hR (nI a) (nI b) (nI f) (nI d) hst6 HP.rok (by rw [gL_ok (by omega) (by omega) ⟨hf1, hf2⟩ (by omega)]; exact decide_eq_false (by rw [← hwr]; exact hwn))) (by rw [tLi_ok (by omega) (by omega) ⟨hf1, hf2⟩ (by omega), if_neg (by rw [← hwr]; exact hwn)]) rfl rfl (by decide) (by decide) (INV_rf hI _ h85)
        · have h4 := btw_f h4
          exact stw_mk 2 (by decide) (tL_lift_x l D cI cQ cL ad 86 F (by decide) _ hC (nI a) (nI b) (nI f) z2 eA 2 (Or.inr (Or.inl ⟨rfl, rfl⟩)) (tX5_liftX_b3 l hst D cI cQ cL ad 86 F (by decide) r bB vB gB hB jB tB uB zB hN c8 b8 v8 g8 h8 j8 t8 u8 z8 hSn n9 st hn9 hst6 hPa aT ln hln hT c6 b6 v6 hM6 a7 d7 q7 hO hs hC (nI a) (nI b) (nI f) z2 hon h3 h4) rfl rfl (by decide) (by decide)) h85 (fun h => absurd h (by decide)) hR (tX6_lift_x l D cI cQ cL ad 86 _ 77 (by decide) r ps sl sd ne fa bu hs st ln pt th hR (nI a) (nI b) (nI f) z2 hst6 HP.rok (by simp [gL, h1, h2, h3, h4])) (by simp [tLi, h1, h2, h3, h4]) rfl rfl (by decide) (by decide) (INV_rf hI _ h85)
      · have h3 := btw_f h3
        exact stw_mk 2 (by decide) (tL_lift_x l D cI cQ cL ad 86 F (by decide) _ hC (nI a) (nI b) z z2 eA 2 (Or.inr (Or.inl ⟨rfl, rfl⟩)) (tX5_liftX_b2 l hst D cI cQ cL ad 86 F (by decide) r bB vB gB hB jB tB uB zB hN c8 b8 v8 g8 h8 j8 t8 u8 z8 hSn n9 st hn9 hst6 hPa aT ln hln hT c6 b6 v6 hM6 a7 d7 q7 hO hs hC (nI a) (nI b) z z2 hon h3) rfl rfl (by decide) (by decide)) h85 (fun h => absurd h (by decide)) hR (tX6_lift_x l D cI cQ cL ad 86 _ 77 (by decide) r ps sl sd ne fa bu hs st ln pt th hR (nI a) (nI b) z z2 hst6 HP.rok (by simp [gL, h1, h2, h3])) (by simp [tLi, h1, h2, h3]) rfl rfl (by decide) (by decide) (INV_rf hI _ h85)
    · have h2 := btw_f h2
      exact stw_mk 1 (by decide) (tL_lift_x l D cI cQ cL ad 86 F (by decide) _ hC x y z z2 eI 1 (Or.inl ⟨rfl, rfl⟩) (tX5_liftX_b1 l hst D cI cQ cL ad 86 F (by decide) r bB vB gB hB jB tB uB zB hN c8 b8 v8 g8 h8 j8 t8 u8 z8 hSn n9 st hn9 hst6 hPa aT ln hln hT c6 b6 v6 hM6 a7 d7 q7 hO hs hC x y z z2 (on_f2 h2)) rfl rfl (by decide) (by decide)) h85 (fun h => absurd h (by decide)) hR (tX6_lift_x l D cI cQ cL ad 86 _ 77 (by decide) r ps sl sd ne fa bu hs st ln pt th hR x y z z2 hst6 HP.rok (by simp [gL, h1, h2])) (by simp [tLi, h1, h2]) rfl rfl (by decide) (by decide) (INV_rf hI _ h85)
  · have h1 := btw_f h1
    exact stw_mk 1 (by decide) (tL_lift_x l D cI cQ cL ad 86 F (by decide) _ hC x y z z2 eI 1 (Or.inl ⟨rfl, rfl⟩) (tX5_liftX_b1 l hst D cI cQ cL ad 86 F (by decide) r bB vB gB hB jB tB uB zB hN c8 b8 v8 g8 h8 j8 t8 u8 z8 hSn n9 st hn9 hst6 hPa aT ln hln hT c6 b6 v6 hM6 a7 d7 q7 hO hs hC x y z z2 (on_f1 h1)) rfl rfl (by decide) (by decide)) h85 (fun h => absurd h (by decide)) hR (tX6_lift_x l D cI cQ cL ad 86 _ 77 (by decide) r ps sl sd ne fa bu hs st ln pt th hR x y z z2 hst6 HP.rok (by simp [gL, h1])) (by simp [tLi, h1]) rfl rfl (by decide) (by decide) (INV_rf hI _ h85)
set_option maxRecDepth 100000 in
theorem in_set (l : Launch) (hst : l.stackTraces = false) (D : va_G) (cI cQ cL : ClassId) (ad : Nat → Nat) (F : Nat → va_E) (H : IN1 cI cQ cL ad F) (x : Int32) : STw l D cI cQ cL ad 86 yL_set cL_set 4 [(0, 9, 12, 15)] yX6_set cX6_set 3 F (INV cI cQ cL ad) [.int x] := by
  obtain ⟨r, ps, sl, sd, ne, fa, bu, hs, st, ln, pt, th, hR, ⟨bB, vB, gB, hB, jB, tB, uB, zB, Np, Wp, hN, HP⟩, hI, o85, h85⟩ := H
  obtain ⟨-, ⟨⟨R8, c8, b8, v8, g8, h8, j8, t8, u8, z8, N8, W8, hSn, hP8, hc8⟩, hSnp⟩, ⟨n9, hRg⟩, ⟨hln, aT, hT, haT⟩, ⟨⟨c6, b6, v6, hM6⟩, a7, d7, q7, hO, hKN⟩, hC⟩ := id hI
  obtain ⟨hn9, hst6, hPa, hri, hrk⟩ := id hRg
  obtain ⟨Rr, cr, br, vr, gr, hr9, jr, tr, ur, zr, Nr, Wr, hRi, hRp, hRc⟩ := hri n9 hn9
  have hC : F 0 = .inr (5, [.ref (ad 1), .ref (ad 9), .ref (ad 17), .ref (ad 67), .ref (ad 69), .ref (ad 73), .int (bI hs)]) := hC
  have htB := HP.tlt
  by_cases hx : btw x (nI 1) (nI 6) = true
  · exact stw_mk 0 (by decide) (tL_set l D cI cQ cL ad 86 F (by decide) _ hC x _ _ ((mv_out hn9 (by decide)).trans h85) _ (tX5_set l D cI cQ cL ad 86 F (by decide) r bB vB gB hB jB tB uB zB hN c8 b8 v8 g8 h8 j8 t8 u8 z8 hSn n9 st hn9 hst6 hPa aT ln hln hT c6 b6 v6 hM6 a7 d7 q7 hO hs hC cr br vr gr hr9 jr tr ur zr hRi x hx) rfl rfl (by decide) (by decide)) (va_up_self _ _ _) (fun _ => by rw [pk_uLs]; rw [HP.2.2.2.2.2.2.1]) (rf_up (rf_mv hn9 hR)) (tX6_set_n l D cI cQ cL ad 86 _ 77 (by decide) r ps sl sd ne fa bu hs st ln pt th (rf_up (rf_mv hn9 hR)) x hst6 hx) (rfl) rfl rfl (by decide) (by decide) (INV_rf (ICl_up (ICl_mv hI hN HP (fun _ _ => rfl) hRg (HP.set x) (fun y hy => (upd_ne9 (by omega)).symm))) _ (va_up_self _ _ _))
  · have hx := btw_f hx
    exact stw_mk 1 (by decide) (tL_set_x l D cI cQ cL ad 86 F (by decide) _ hC x eA 1 ⟨rfl, rfl⟩ (tX5_setX_b1 l hst D cI cQ cL ad 86 F (by decide) r bB vB gB hB jB tB uB zB hN c8 b8 v8 g8 h8 j8 t8 u8 z8 hSn n9 st hn9 hst6 hPa aT ln hln hT c6 b6 v6 hM6 a7 d7 q7 hO hs hC x hx) rfl rfl (by decide) (by decide)) h85 (fun h => absurd h (by decide)) hR (tX6_set_x l D cI cQ cL ad 86 _ 77 (by decide) r ps sl sd ne fa bu hs st ln pt th hR x hst6 hx) (rfl) rfl rfl (by decide) (by decide) (INV_rf hI _ h85)
set_option maxRecDepth 100000 in
theorem in_put (l : Launch) (hst : l.stackTraces = false) (D : va_G) (cI cQ cL : ClassId) (ad : Nat → Nat) (F : Nat → va_E) (H : IN1 cI cQ cL ad F) (x y z : Int32) : STw l D cI cQ cL ad 86 yL_put cL_put 6 [(0, 12, 15, 13), (0, 12, 19, 17)] yX6_put cX6_put 4 F (INV cI cQ cL ad) [.int x, .int y, .int z] := by
  obtain ⟨r, ps, sl, sd, ne, fa, bu, hs, st, ln, pt, th, hR, ⟨bB, vB, gB, hB, jB, tB, uB, zB, Np, Wp, hN, HP⟩, hI, o85, h85⟩ := H
  obtain ⟨-, ⟨⟨R8, c8, b8, v8, g8, h8, j8, t8, u8, z8, N8, W8, hSn, hP8, hc8⟩, hSnp⟩, ⟨n9, hRg⟩, ⟨hln, aT, hT, haT⟩, ⟨⟨c6, b6, v6, hM6⟩, a7, d7, q7, hO, hKN⟩, hC⟩ := id hI
  obtain ⟨hn9, hst6, hPa, hri, hrk⟩ := id hRg
  obtain ⟨Rr, cr, br, vr, gr, hr9, jr, tr, ur, zr, Nr, Wr, hRi, hRp, hRc⟩ := hri n9 hn9
  have hC : F 0 = .inr (5, [.ref (ad 1), .ref (ad 9), .ref (ad 17), .ref (ad 67), .ref (ad 69), .ref (ad 73), .int (bI hs)]) := hC
  have htB := HP.tlt
  by_cases hx : wk x = true
  · obtain ⟨w, hw, rfl⟩ := wk_of hx
    have hb := (btw_wk _).trans hx
    by_cases h1 : btw y (nI 0) (nI 12) = true
    · by_cases h2 : btw z (nI 0) (nI 12) = true
      · have hon := on_tt h1 h2
        obtain ⟨a, rfl, -, ha⟩ := btw_of (by decide) (by decide) h1
        obtain ⟨b, rfl, -, hb2⟩ := btw_of (by decide) (by decide) h2
        have hrv : cov vB w = rcv r w := HP.2.2.1.cov_rcv HP.1 HP.2.1 hw
        by_cases hov : over r = true
        · exact stw_mk 2 (by decide) (tL_put_x l D cI cQ cL ad 86 F (by decide) _ hC (nI w) (nI a) (nI b) eS 2 (Or.inr ⟨rfl, rfl⟩) (tX5_putX_b3 l hst D cI cQ cL ad 86 F (by decide) r bB vB gB hB jB tB uB zB hN c8 b8 v8 g8 h8 j8 t8 u8 z8 hSn n9 st hn9 hst6 hPa aT ln hln hT c6 b6 v6 hM6 a7 d7 q7 hO hs hC (nI w) w rfl hw (nI a) (nI b) hon hov) rfl rfl (by decide) (by decide)) h85 (fun h => absurd h (by decide)) hR (tX6_put_x l D cI cQ cL ad 86 _ 77 (by decide) r ps sl sd ne fa bu hs st ln pt th hR (nI w) (nI a) (nI b) hst6 (by rw [gP_ok hw (by omega) (by omega), hov]; rfl)) (by rw [tPu_ok hw (by omega) (by omega), hov]; rfl) rfl rfl (by decide) (by decide) (INV_rf hI _ h85)
        · have hov := bool_f hov
          by_cases hcv : cov vB w = true
          · exact stw_mk 2 (by decide) (tL_put_x l D cI cQ cL ad 86 F (by decide) _ hC (nI w) (nI a) (nI b) eS 2 (Or.inr ⟨rfl, rfl⟩) (tX5_putX_b4 l hst D cI cQ cL ad 86 F (by decide) r bB vB gB hB jB tB uB zB hN c8 b8 v8 g8 h8 j8 t8 u8 z8 hSn n9 st hn9 hst6 hPa aT ln hln hT c6 b6 v6 hM6 a7 d7 q7 hO hs hC (nI w) w rfl hw (nI a) (nI b) hon hov hcv) rfl rfl (by decide) (by decide)) h85 (fun h => absurd h (by decide)) hR (tX6_put_x l D cI cQ cL ad 86 _ 77 (by decide) r ps sl sd ne fa bu hs st ln pt th hR (nI w) (nI a) (nI b) hst6 (by rw [gP_ok hw (by omega) (by omega), hov, ← hrv, hcv]; rfl)) (by rw [tPu_ok hw (by omega) (by omega), hov, ← hrv, hcv]; rfl) rfl rfl (by decide) (by decide) (INV_rf hI _ h85)
          · have hcv := bool_f hcv
            obtain ⟨N', W', HP', hc'⟩ := HP.put hw hov hcv (show 13 * b + a < 169 by omega)
            rw [← cat_n] at HP' hc'
            have hq9 : hgt (mov1 r bB vB w (cat (nI a) (nI b))) (cat (nI a) (nI b)) = hgt (rly r w (cat (nI a) (nI b))) (cat (nI a) (nI b)) := hgt_cong9 hc'
            exact stw_mk 0 (by decide) (tL_put l D cI cQ cL ad 86 F (by decide) _ hC (nI w) (nI a) (nI b) _ _ ((mv_out hn9 (by decide)).trans h85) _ (tX5_put l D cI cQ cL ad 86 F (by decide) r bB vB gB hB jB tB uB zB hN c8 b8 v8 g8 h8 j8 t8 u8 z8 hSn n9 st hn9 hst6 hPa aT ln hln hT c6 b6 v6 hM6 a7 d7 q7 hO hs hC cr br vr gr hr9 jr tr ur zr hRi (nI w) w rfl hw (nI a) (nI b) hon hov hcv) rfl rfl (by decide) (by decide)) (va_up_self _ _ _) (fun _ => by rw [pk_uLs]; rw [hq9, cat_n]) (rf_up (rf_mv hn9 hR)) (tX6_put_n l D cI cQ cL ad 86 _ 77 (by decide) r ps sl sd ne fa bu hs st ln pt th (rf_up (rf_mv hn9 hR)) hst6 hw (by omega) (by omega) hov (by rw [← hrv]; exact hcv)) (rfl) rfl rfl (by decide) (by decide) (INV_rf (ICl_up (by rw [← cat_n]; exact ICl_mv hI hN HP (fun _ _ => rfl) hRg HP' hc')) _ (va_up_self _ _ _))
      · have h2 := btw_f h2
        exact stw_mk 1 (by decide) (tL_put_x l D cI cQ cL ad 86 F (by decide) _ hC (nI w) y z eI 1 (Or.inl ⟨rfl, rfl⟩) (tX5_putX_b2 l hst D cI cQ cL ad 86 F (by decide) r bB vB gB hB jB tB uB zB hN c8 b8 v8 g8 h8 j8 t8 u8 z8 hSn n9 st hn9 hst6 hPa aT ln hln hT c6 b6 v6 hM6 a7 d7 q7 hO hs hC (nI w) w rfl hw y z (on_f2 h2)) rfl rfl (by decide) (by decide)) h85 (fun h => absurd h (by decide)) hR (tX6_put_x l D cI cQ cL ad 86 _ 77 (by decide) r ps sl sd ne fa bu hs st ln pt th hR (nI w) y z hst6 (by simp [gP, hb, h1, h2])) (by simp [tPu, hb, h1, h2]) rfl rfl (by decide) (by decide) (INV_rf hI _ h85)
    · have h1 := btw_f h1
      exact stw_mk 1 (by decide) (tL_put_x l D cI cQ cL ad 86 F (by decide) _ hC (nI w) y z eI 1 (Or.inl ⟨rfl, rfl⟩) (tX5_putX_b2 l hst D cI cQ cL ad 86 F (by decide) r bB vB gB hB jB tB uB zB hN c8 b8 v8 g8 h8 j8 t8 u8 z8 hSn n9 st hn9 hst6 hPa aT ln hln hT c6 b6 v6 hM6 a7 d7 q7 hO hs hC (nI w) w rfl hw y z (on_f1 h1)) rfl rfl (by decide) (by decide)) h85 (fun h => absurd h (by decide)) hR (tX6_put_x l D cI cQ cL ad 86 _ 77 (by decide) r ps sl sd ne fa bu hs st ln pt th hR (nI w) y z hst6 (by simp [gP, hb, h1])) (by simp [tPu, hb, h1]) rfl rfl (by decide) (by decide) (INV_rf hI _ h85)
  · have hx := bool_f hx
    have hb := (btw_wk _).trans hx
    exact stw_mk 1 (by decide) (tL_put_x l D cI cQ cL ad 86 F (by decide) _ hC x y z eI 1 (Or.inl ⟨rfl, rfl⟩) (tX5_putX_b1 l hst D cI cQ cL ad 86 F (by decide) r bB vB gB hB jB tB uB zB hN c8 b8 v8 g8 h8 j8 t8 u8 z8 hSn n9 st hn9 hst6 hPa aT ln hln hT c6 b6 v6 hM6 a7 d7 q7 hO hs hC x y z hx) rfl rfl (by decide) (by decide)) h85 (fun h => absurd h (by decide)) hR (tX6_put_x l D cI cQ cL ad 86 _ 77 (by decide) r ps sl sd ne fa bu hs st ln pt th hR x y z hst6 (by simp [gP, hb])) (by simp [tPu, hb]) rfl rfl (by decide) (by decide) (INV_rf hI _ h85)
set_option maxRecDepth 100000 in
theorem in_append (l : Launch) (hst : l.stackTraces = false) (D : va_G) (cI cQ cL : ClassId) (ad : Nat → Nat) (F : Nat → va_E) (H : IN1 cI cQ cL ad F) (x : Int32) : STw l D cI cQ cL ad 86 yL_append cL_append 4 [(0, 9, 12, 15), (0, 9, 15, 17)] yX6_append cX6_append 2 F (INV cI cQ cL ad) [.int x] := by
  obtain ⟨r, ps, sl, sd, ne, fa, bu, hs, st, ln, pt, th, hR, ⟨bB, vB, gB, hB, jB, tB, uB, zB, Np, Wp, hN, HP⟩, hI, o85, h85⟩ := H
  obtain ⟨-, ⟨⟨R8, c8, b8, v8, g8, h8, j8, t8, u8, z8, N8, W8, hSn, hP8, hc8⟩, hSnp⟩, ⟨n9, hRg⟩, ⟨hln, aT, hT, haT⟩, ⟨⟨c6, b6, v6, hM6⟩, a7, d7, q7, hO, hKN⟩, hC⟩ := id hI
  obtain ⟨hn9, hst6, hPa, hri, hrk⟩ := id hRg
  obtain ⟨Rr, cr, br, vr, gr, hr9, jr, tr, ur, zr, Nr, Wr, hRi, hRp, hRc⟩ := hri n9 hn9
  have hC : F 0 = .inr (5, [.ref (ad 1), .ref (ad 9), .ref (ad 17), .ref (ad 67), .ref (ad 69), .ref (ad 73), .int (bI hs)]) := hC
  have htB := HP.tlt
  by_cases hx : btw x (nI 33) (nI 126) = true
  · by_cases h60 : ln < 60
    · exact stw_mk 0 (by decide) (tL_append l D cI cQ cL ad 86 F (by decide) _ hC x _ _ ((gtSet_out (by decide)).trans h85) _ (tX5_append l D cI cQ cL ad 86 F (by decide) r bB vB gB hB jB tB uB zB hN c8 b8 v8 g8 h8 j8 t8 u8 z8 hSn n9 st hn9 hst6 hPa aT ln hln hT c6 b6 v6 hM6 a7 d7 q7 hO hs hC x hx h60) rfl rfl (by decide) (by decide)) (va_up_self _ _ _) (fun _ => by rw [pk_uLs]) (rf_up (rf_tx hR)) (tX6_append_n l D cI cQ cL ad 86 _ 77 (by decide) r ps sl sd ne fa bu hs st ln pt th (rf_up (rf_tx hR)) x h60 hx) (rfl) rfl rfl (by decide) (by decide) (INV_rf (ICl_up (ICl_tx hI h60 (app_ok haT))) _ (va_up_self _ _ _))
    · have h60 : ln = 60 := by omega
      exact stw_mk 2 (by decide) (tL_append_x l D cI cQ cL ad 86 F (by decide) _ hC x eS 2 (Or.inr ⟨rfl, rfl⟩) (tX5_appendX_b2 l hst D cI cQ cL ad 86 F (by decide) r bB vB gB hB jB tB uB zB hN c8 b8 v8 g8 h8 j8 t8 u8 z8 hSn n9 st hn9 hst6 hPa aT ln hln hT c6 b6 v6 hM6 a7 d7 q7 hO hs hC x hx (by omega)) rfl rfl (by decide) (by decide)) h85 (fun h => absurd h (by decide)) hR (tX6_append_x l D cI cQ cL ad 86 _ 77 (by decide) r ps sl sd ne fa bu hs st ln pt th hR x hln (by rw [hx, h60]; rfl)) (by rw [if_pos hx, if_pos h60]) rfl rfl (by decide) (by decide) (INV_rf hI _ h85)
  · have hx := btw_f hx
    exact stw_mk 1 (by decide) (tL_append_x l D cI cQ cL ad 86 F (by decide) _ hC x eA 1 (Or.inl ⟨rfl, rfl⟩) (tX5_appendX_b1 l hst D cI cQ cL ad 86 F (by decide) r bB vB gB hB jB tB uB zB hN c8 b8 v8 g8 h8 j8 t8 u8 z8 hSn n9 st hn9 hst6 hPa aT ln hln hT c6 b6 v6 hM6 a7 d7 q7 hO hs hC x hx) rfl rfl (by decide) (by decide)) h85 (fun h => absurd h (by decide)) hR (tX6_append_x l D cI cQ cL ad 86 _ 77 (by decide) r ps sl sd ne fa bu hs st ln pt th hR x hln (by rw [hx]; rfl)) (by rw [if_neg (by rw [hx]; decide)]) rfl rfl (by decide) (by decide) (INV_rf hI _ h85)
set_option maxRecDepth 100000 in
theorem in_goBack (l : Launch) (hst : l.stackTraces = false) (D : va_G) (cI cQ cL : ClassId) (ad : Nat → Nat) (F : Nat → va_E) (H : IN1 cI cQ cL ad F) : STw l D cI cQ cL ad 86 yL_goBack cL_goBack 3 [(0, 8, 11, 17)] yX6_goBack cX6_goBack 2 F (INV cI cQ cL ad) [] := by
  obtain ⟨r, ps, sl, sd, ne, fa, bu, hs, st, ln, pt, th, hR, ⟨bB, vB, gB, hB, jB, tB, uB, zB, Np, Wp, hN, HP⟩, hI, o85, h85⟩ := H
  obtain ⟨-, ⟨⟨R8, c8, b8, v8, g8, h8, j8, t8, u8, z8, N8, W8, hSn, hP8, hc8⟩, hSnp⟩, ⟨n9, hRg⟩, ⟨hln, aT, hT, haT⟩, ⟨⟨c6, b6, v6, hM6⟩, a7, d7, q7, hO, hKN⟩, hC⟩ := id hI
  obtain ⟨hn9, hst6, hPa, hri, hrk⟩ := id hRg
  obtain ⟨Rr, cr, br, vr, gr, hr9, jr, tr, ur, zr, Nr, Wr, hRi, hRp, hRc⟩ := hri n9 hn9
  have hC : F 0 = .inr (5, [.ref (ad 1), .ref (ad 9), .ref (ad 17), .ref (ad 67), .ref (ad 69), .ref (ad 73), .int (bI hs)]) := hC
  have htB := HP.tlt
  cases hs with
  | false => exact stw_mk 1 (by decide) (tL_goBack_x l D cI cQ cL ad 86 F (by decide) _ hC  eS 1 ⟨rfl, rfl⟩ (tX5_goBackX_b1 l hst D cI cQ cL ad 86 F (by decide) r bB vB gB hB jB tB uB zB hN c8 b8 v8 g8 h8 j8 t8 u8 z8 hSn n9 st hn9 hst6 hPa aT ln hln hT c6 b6 v6 hM6 a7 d7 q7 hO false hC rfl) rfl rfl (by decide) (by decide)) h85 (fun h => absurd h (by decide)) hR (tX6_goBackX l D cI cQ cL ad 86 _ 77 (by decide) r ps sl sd ne fa bu false st ln pt th hR rfl) (rfl) rfl rfl (by decide) (by decide) (INV_rf hI _ h85)
  | true =>
    obtain ⟨c8, b8, v8, g8, h8, j8, t8, u8, z8, N8, W8, hSn, hP8, hc8⟩ := hSnp rfl
    have hq9 : potn c8 = potn sl := potn_cong hc8
    exact stw_mk 0 (by decide) (tL_goBack l D cI cQ cL ad 86 F (by decide) _ hC  _ _ ((mv_out hn9 (by decide)).trans h85) _ (tX5_goBack l D cI cQ cL ad 86 F (by decide) r bB vB gB hB jB tB uB zB hN c8 b8 v8 g8 h8 j8 t8 u8 z8 hSn n9 st hn9 hst6 hPa aT ln hln hT c6 b6 v6 hM6 a7 d7 q7 hO true hC cr br vr gr hr9 jr tr ur zr hRi rfl) rfl rfl (by decide) (by decide)) (va_up_self _ _ _) (fun _ => by rw [pk_uLs]; rw [hq9]) (rf_up (rf_mv hn9 hR)) (tX6_goBack l D cI cQ cL ad 86 _ 77 (by decide) r ps sl sd ne fa bu true st ln pt th (rf_up (rf_mv hn9 hR)) hst6 rfl) (rfl) rfl rfl (by decide) (by decide) (INV_rf (ICl_up (ICl_mv hI hN HP (fun _ _ => rfl) hRg hP8 hc8)) _ (va_up_self _ _ _))
set_option maxRecDepth 100000 in
theorem in_undo (l : Launch) (hst : l.stackTraces = false) (D : va_G) (cI cQ cL : ClassId) (ad : Nat → Nat) (F : Nat → va_E) (H : IN1 cI cQ cL ad F) : STw l D cI cQ cL ad 86 yL_undo cL_undo 3 [(0, 8, 11, 17)] yX6_undo cX6_undo 2 F (INV cI cQ cL ad) [] := by
  obtain ⟨r, ps, sl, sd, ne, fa, bu, hs, st, ln, pt, th, hR, ⟨bB, vB, gB, hB, jB, tB, uB, zB, Np, Wp, hN, HP⟩, hI, o85, h85⟩ := H
  obtain ⟨-, ⟨⟨R8, c8, b8, v8, g8, h8, j8, t8, u8, z8, N8, W8, hSn, hP8, hc8⟩, hSnp⟩, ⟨n9, hRg⟩, ⟨hln, aT, hT, haT⟩, ⟨⟨c6, b6, v6, hM6⟩, a7, d7, q7, hO, hKN⟩, hC⟩ := id hI
  obtain ⟨hn9, hst6, hPa, hri, hrk⟩ := id hRg
  obtain ⟨Rr, cr, br, vr, gr, hr9, jr, tr, ur, zr, Nr, Wr, hRi, hRp, hRc⟩ := hri n9 hn9
  have hC : F 0 = .inr (5, [.ref (ad 1), .ref (ad 9), .ref (ad 17), .ref (ad 67), .ref (ad 69), .ref (ad 73), .int (bI hs)]) := hC
  have htB := HP.tlt
  by_cases h0 : st = 0
  · exact stw_mk 1 (by decide) (tL_undo_x l D cI cQ cL ad 86 F (by decide) _ hC  eS 1 ⟨rfl, rfl⟩ (tX5_undoX_b1 l hst D cI cQ cL ad 86 F (by decide) r bB vB gB hB jB tB uB zB hN c8 b8 v8 g8 h8 j8 t8 u8 z8 hSn n9 st hn9 hst6 hPa aT ln hln hT c6 b6 v6 hM6 a7 d7 q7 hO hs hC h0) rfl rfl (by decide) (by decide)) h85 (fun h => absurd h (by decide)) hR (tX6_undoX l D cI cQ cL ad 86 _ 77 (by decide) r ps sl sd ne fa bu hs st ln pt th hR h0) (rfl) rfl rfl (by decide) (by decide) (INV_rf hI _ h85)
  · have hs1 : 1 ≤ st := by omega
    have hq := hrk (st - 1) (by omega)
    rw [show (n9 + 6 - (st - (st - 1))) % 6 = (n9 + 6 - 1) % 6 by omega] at hq
    obtain ⟨cr, br, vr, gr, hr9, jr, tr, ur, zr, Nr, Wr, hRi, hRp, hRc⟩ := hq
    exact stw_mk 0 (by decide) (tL_undo l D cI cQ cL ad 86 F (by decide) _ hC  _ _ ((un_out (by decide)).trans h85) _ (tX5_undo l D cI cQ cL ad 86 F (by decide) r bB vB gB hB jB tB uB zB hN c8 b8 v8 g8 h8 j8 t8 u8 z8 hSn n9 st hn9 hst6 hPa aT ln hln hT c6 b6 v6 hM6 a7 d7 q7 hO hs hC cr br vr gr hr9 jr tr ur zr hRi hs1) rfl rfl (by decide) (by decide)) (va_up_self _ _ _) (fun _ => by rw [pk_uLs]) (rf_up (rf_un hR)) (tX6_undo l D cI cQ cL ad 86 _ 77 (by decide) r ps sl sd ne fa bu hs st ln pt th (rf_up (rf_un hR)) hst6 hs1) (rfl) rfl rfl (by decide) (by decide) (INV_rf (ICl_up (ICl_un hI hN hRg hs1 hRp hRc)) _ (va_up_self _ _ _))
