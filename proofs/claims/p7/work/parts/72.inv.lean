/-! what class and reference keep to each other between the law's calls -/
theorem Pos_ext {r r' b v g h j : Nat → Int32} {t : Nat} {u z : Int32} {Np : Nat → Nat} {Wp : Nat → Nat → Nat} (H : Pos r b v g h j t u z Np Wp) (e : ∀ x, x < 60 → r x = r' x) : Pos r' b v g h j t u z Np Wp := by
  obtain ⟨hc, hl, hp, hg, hh, hu, hz, hsm, ht, hTu, hLo, ho⟩ := H
  refine ⟨Rc_ext hc (fun x hx => e x (by omega)), Rl_ext hl (fun x hx => e x (by omega)), Rp_ext hc hp (fun x hx => e x (by omega)), fun w hw => (hg w hw).trans (e _ (by omega)), fun i hi => (hh i hi).trans (e _ (by omega)), hu.trans (e _ (by omega)), hz.trans (e _ (by omega)), hsm.trans (e _ (by omega)), ht, ?_, fun i hi => ?_, fun hov => ?_⟩
  · unfold rTu at *
    rw [← e 56 (by omega)]
    exact hTu
  · rw [← e _ (by omega)]
    exact hLo i hi
  · rw [← over_ext (fun x hx => e x (by omega))] at hov
    obtain ⟨o1, o2, o3⟩ := ho hov
    exact ⟨o1.trans (e _ (by omega)), by rw [← e _ (by omega)]; exact o2, fun i hi => (o3 i hi).trans (e _ (by omega))⟩
/-- a State of the class's at place k stands as the row r says -/
def SP (cI : ClassId) (ad : Nat → Nat) (F : Nat → va_E) (k : Nat) (r : Nat → Int32) : Prop := ∃ (c b v g h j : Nat → Int32) (t : Nat) (u z : Int32) (Np : Nat → Nat) (Wp : Nat → Nat → Nat), stAt cI ad F k c b v g h j (nI t) u z ∧ Pos r b v g h j t u z Np Wp ∧ ∀ x, x < 16 → c x = r x
theorem SP_ext {cI : ClassId} {ad : Nat → Nat} {F : Nat → va_E} {k : Nat} {r r' : Nat → Int32} (h : SP cI ad F k r) (e : ∀ x, x < 60 → r x = r' x) : SP cI ad F k r' := by
  obtain ⟨c, b, v, g, h, j, t, u, z, Np, Wp, h1, h2, h3⟩ := h
  exact ⟨c, b, v, g, h, j, t, u, z, Np, Wp, h1, Pos_ext h2 e, fun x hx => (h3 x hx).trans (e x (by omega))⟩
theorem SP_fr {cI : ClassId} {ad : Nat → Nat} {F G : Nat → va_E} {k : Nat} {r : Nat → Int32} (h : SP cI ad F k r) (e : ∀ i, k ≤ i → i ≤ k + 7 → G i = F i) : SP cI ad G k r := by
  obtain ⟨c, b, v, g, h, j, t, u, z, Np, Wp, h1, h2, h3⟩ := h
  exact ⟨c, b, v, g, h, j, t, u, z, Np, Wp, stAt_keep h1 e, h2, h3⟩
/-- the ring of past positions -/
def RNG (cI cQ : ClassId) (ad : Nat → Nat) (F : Nat → va_E) (ps : Nat → Int32) (st n9 : Nat) : Prop := n9 < 6 ∧ st ≤ 6 ∧ paAt cQ ad F 17 n9 st ∧ (∀ i, i < 6 → ∃ R, SP cI ad F (17 + 2 + 8 * i) R) ∧ ∀ k, k < st → SP cI ad F (17 + 2 + 8 * ((n9 + 6 - (st - k)) % 6)) (fun x => ps (60 * k + x))
def SNP (cI : ClassId) (ad : Nat → Nat) (F : Nat → va_E) (sl : Nat → Int32) (hs : Bool) : Prop := (∃ R, SP cI ad F 9 R) ∧ (hs = true → SP cI ad F 9 sl)
def TXT (cI : ClassId) (ad : Nat → Nat) (F : Nat → va_E) (bu : Nat → Int32) (ln : Nat) : Prop := ln ≤ 60 ∧ ∃ a, gtAt cI ad F 67 a ln ∧ ∀ x, x < ln → a x = bu x
def F0is (ad : Nat → Nat) (F : Nat → va_E) (hs : Bool) : Prop := F 0 = .inr (5, [.ref (ad 1), .ref (ad 9), .ref (ad 17), .ref (ad 67), .ref (ad 69), .ref (ad 73), .int (bI hs)])
/-- what is neither the position nor the text -/
def OTH (cI : ClassId) (ad : Nat → Nat) (F : Nat → va_E) : Prop := (∃ c6 b6 v6, matAt cI ad F 69 c6 b6 v6) ∧ ∃ a7 d7 q7, roAt cI ad F 73 a7 d7 q7 ∧ KNa a7
def ICl (cI cQ : ClassId) (ad : Nat → Nat) (F : Nat → va_E) (r ps sl bu : Nat → Int32) (hs : Bool) (st ln : Nat) : Prop := SP cI ad F 1 r ∧ SNP cI ad F sl hs ∧ (∃ n9, RNG cI cQ ad F ps st n9) ∧ TXT cI ad F bu ln ∧ OTH cI ad F ∧ F0is ad F hs
def INV (cI cQ cL : ClassId) (ad : Nat → Nat) (F : Nat → va_E) : Prop := ∃ (r ps sl sd ne fa bu : Nat → Int32) (hs : Bool) (st ln pt : Nat) (th : Int32), rfAt cI ad F 77 r ps sl sd ne fa bu hs st ln pt th ∧ ICl cI cQ ad F r ps sl bu hs st ln ∧ ∃ o, F 85 = .inl (cL, 1, .inr (.inl o))
section INVS
variable {cI cQ cL : ClassId} {ad : Nat → Nat} {F G : Nat → va_E} {r ps sl sd ne fa bu : Nat → Int32} {hs : Bool} {st ln pt : Nat} {th : Int32}
theorem RNG_fr {n9 : Nat} (h : RNG cI cQ ad F ps st n9) (e : ∀ i, 17 ≤ i → i ≤ 66 → G i = F i) : RNG cI cQ ad G ps st n9 := by
  obtain ⟨h1, h2, h3, h4, h5⟩ := h
  refine ⟨h1, h2, paAt_keep h3 (fun i a b => e i (by omega) (by omega)), fun i hi => ?_, fun k hk => SP_fr (h5 k hk) (fun i a b => e i (by omega) (by omega))⟩
  obtain ⟨R, hR⟩ := h4 i hi
  exact ⟨R, SP_fr hR (fun i a b => e i (by omega) (by omega))⟩
theorem SNP_fr (h : SNP cI ad F sl hs) (e : ∀ i, 9 ≤ i → i ≤ 16 → G i = F i) : SNP cI ad G sl hs := by
  obtain ⟨⟨R, h1⟩, h2⟩ := h
  exact ⟨⟨R, SP_fr h1 e⟩, fun q => SP_fr (h2 q) e⟩
theorem TXT_fr (h : TXT cI ad F bu ln) (e : ∀ i, 67 ≤ i → i ≤ 68 → G i = F i) : TXT cI ad G bu ln := by
  obtain ⟨h1, a, h2, h3⟩ := h
  exact ⟨h1, a, gtAt_keep h2 e, h3⟩
theorem OTH_fr (h : OTH cI ad F) (e : ∀ i, 69 ≤ i → i ≤ 76 → G i = F i) : OTH cI ad G := by
  obtain ⟨⟨c6, b6, v6, h1⟩, a7, d7, q7, h2, h3⟩ := h
  exact ⟨⟨c6, b6, v6, matAt_keep h1 (fun i a b => e i (by omega) (by omega))⟩, a7, d7, q7, roAt_keep h2 (fun i a b => e i (by omega) (by omega)), h3⟩
theorem ICl_fr (h : ICl cI cQ ad F r ps sl bu hs st ln) (e : ∀ i, i < 77 → G i = F i) : ICl cI cQ ad G r ps sl bu hs st ln := by
  obtain ⟨h1, h2, ⟨n9, h3⟩, h4, h5, h6⟩ := h
  exact ⟨SP_fr h1 (fun i a b => e i (by omega)), SNP_fr h2 (fun i a b => e i (by omega)), ⟨n9, RNG_fr h3 (fun i a b => e i (by omega))⟩, TXT_fr h4 (fun i a b => e i (by omega)), OTH_fr h5 (fun i a b => e i (by omega)), (e 0 (by decide)).trans h6⟩
theorem rcS_min (h : st ≤ 6) : rcS st = min (st + 1) 6 := by
  unfold rcS
  split <;> omega
theorem rcP_at {x k : Nat} (hx : x < 60) (hk : k < st) (hst : st < 6) : rcP ps r st (60 * k + x) = ps (60 * k + x) := by
  unfold rcP cp9
  rw [if_neg (by omega)]
  show (if _ then _ else _) = _
  rw [if_neg (by omega)]
theorem rcP_new {x : Nat} (hx : x < 60) (hst : st < 6) : rcP ps r st (60 * st + x) = r x := by
  unfold rcP cp9
  rw [if_neg (by omega)]
  show (if _ then _ else _) = _
  rw [if_pos (by omega), show 60 * st + x - 60 * st = x by omega]
theorem rcP_at6 {x k : Nat} (hx : x < 60) (hk : k < 5) : rcP ps r 6 (60 * k + x) = ps (60 * (k + 1) + x) := by
  unfold rcP cp9
  rw [if_pos rfl]
  show (if _ then _ else (if _ then _ else _)) = _
  rw [if_neg (by omega), if_pos (by omega)]
  show ps (60 + (60 * k + x - 0)) = _
  rw [show 60 + (60 * k + x - 0) = 60 * (k + 1) + x by omega]
theorem rcP_new6 {x : Nat} (hx : x < 60) : rcP ps r 6 (60 * 5 + x) = r x := by
  unfold rcP cp9
  rw [if_pos rfl]
  show (if _ then _ else _) = _
  rw [if_pos (by omega), show 60 * 5 + x - 60 * (6 - 1) = x by omega]
/-- a position saved, and a new one -/
theorem ICl_mv {c b v g h j : Nat → Int32} {t : Nat} {u z : Int32} {Np : Nat → Nat} {Wp : Nat → Nat → Nat} {n9 : Nat} (hI : ICl cI cQ ad F r ps sl bu hs st ln) (hN : stAt cI ad F 1 c b v g h j (nI t) u z) (hp : Pos r b v g h j t u z Np Wp) (hc : ∀ x, x < 16 → c x = r x) (hR : RNG cI cQ ad F ps st n9) {r' c' b' v' g' h' j' : Nat → Int32} {t' : Nat} {u' z' : Int32} {Np' : Nat → Nat} {Wp' : Nat → Nat → Nat} (hp' : Pos r' b' v' g' h' j' t' u' z' Np' Wp') (hc' : ∀ x, x < 16 → c' x = r' x) : ICl cI cQ ad (sSet cI ad (paSet cQ ad (sSet cI ad F (17 + 2 + 8 * n9) c b v g h j (nI t) u z) 17 ((n9 + 1) % 6) (min (st + 1) 6)) 1 c' b' v' g' h' j' (nI t') u' z') r' (rcP ps r st) sl bu hs (rcS st) ln := by
  obtain ⟨h1, h2, -, h4, h5, h6⟩ := hI
  obtain ⟨g1, g2, g3, g4, g5⟩ := hR
  have out : ∀ i, (i < 1 ∨ 8 < i) → (i < 17 ∨ 18 < i) → (i < 17 + 2 + 8 * n9 ∨ 17 + 2 + 8 * n9 + 7 < i) → sSet cI ad (paSet cQ ad (sSet cI ad F (17 + 2 + 8 * n9) c b v g h j (nI t) u z) 17 ((n9 + 1) % 6) (min (st + 1) 6)) 1 c' b' v' g' h' j' (nI t') u' z' i = F i := fun i a1 a2 a3 => by rw [sSet_out (by omega), paSet_out (by omega), sSet_out (by omega)]
  have hnew : SP cI ad (sSet cI ad (paSet cQ ad (sSet cI ad F (17 + 2 + 8 * n9) c b v g h j (nI t) u z) 17 ((n9 + 1) % 6) (min (st + 1) 6)) 1 c' b' v' g' h' j' (nI t') u' z') (17 + 2 + 8 * n9) r := by
    obtain ⟨R, cR, bR, vR, gR, hR, jR, tR, uR, zR, NR, WR, q1, -, -⟩ := g4 n9 g1
    exact ⟨c, b, v, g, h, j, t, u, z, Np, Wp, stAt_keep (sSet_at q1) (fun i a1 a2 => by rw [sSet_out (by omega), paSet_out (by omega)]), hp, hc⟩
  have hold : ∀ i R, i < 6 → i ≠ n9 → SP cI ad F (17 + 2 + 8 * i) R → SP cI ad (sSet cI ad (paSet cQ ad (sSet cI ad F (17 + 2 + 8 * n9) c b v g h j (nI t) u z) 17 ((n9 + 1) % 6) (min (st + 1) 6)) 1 c' b' v' g' h' j' (nI t') u' z') (17 + 2 + 8 * i) R := fun i R hi hne q => SP_fr q (fun x a1 a2 => out x (by omega) (by omega) (by omega))
  refine ⟨?_, SNP_fr h2 (fun i a1 a2 => out i (by omega) (by omega) (by omega)), ⟨(n9 + 1) % 6, Nat.mod_lt _ (by decide), by rw [rcS_min g2]; omega, ?_, fun i hi => ?_, fun k hk => ?_⟩, TXT_fr h4 (fun i a1 a2 => out i (by omega) (by omega) (by omega)), OTH_fr h5 (fun i a1 a2 => out i (by omega) (by omega) (by omega)), (out 0 (by omega) (by omega) (by omega)).trans h6⟩
  · exact ⟨c', b', v', g', h', j', t', u', z', Np', Wp', sSet_at (stAt_keep hN (fun i a1 a2 => by rw [paSet_out (by omega), sSet_out (by omega)])), hp', hc'⟩
  · rw [rcS_min g2]
    exact paAt_keep (paSet_at (F := sSet cI ad F (17 + 2 + 8 * n9) c b v g h j (nI t) u z)) (fun i a1 a2 => sSet_out (by omega))
  · by_cases hne : i = n9
    · subst hne; exact ⟨r, hnew⟩
    · obtain ⟨R, hR⟩ := g4 i hi
      exact ⟨R, hold i R hi hne hR⟩
  · by_cases h60 : st = 6
    · subst h60
      have hk6 : k < 6 := hk
      rw [show rcS 6 = 6 from rfl]
      by_cases hk5 : k = 5
      · subst hk5
        rw [show ((n9 + 1) % 6 + 6 - (6 - 5)) % 6 = n9 by omega]
        exact SP_ext hnew (fun x hx => (rcP_new6 hx).symm)
      · have hq := g5 (k + 1) (by omega)
        rw [show ((n9 + 1) % 6 + 6 - (6 - k)) % 6 = (n9 + 6 - (6 - (k + 1))) % 6 by omega]
        exact SP_ext (hold _ _ (Nat.mod_lt _ (by decide)) (by omega) hq) (fun x hx => (rcP_at6 hx (by omega)).symm)
    · have hS : rcS st = st + 1 := by unfold rcS; rw [if_neg h60]
      rw [hS] at hk ⊢
      by_cases hk5 : k = st
      · subst hk5
        rw [show ((n9 + 1) % 6 + 6 - (k + 1 - k)) % 6 = n9 by omega]
        exact SP_ext hnew (fun x hx => (rcP_new hx (by omega)).symm)
      · have hq := g5 k (by omega)
        rw [show ((n9 + 1) % 6 + 6 - (st + 1 - k)) % 6 = (n9 + 6 - (st - k)) % 6 by omega]
        exact SP_ext (hold _ _ (Nat.mod_lt _ (by decide)) (by omega) hq) (fun x hx => (rcP_at hx (by omega) (by omega)).symm)
end INVS
