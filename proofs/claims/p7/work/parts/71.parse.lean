/-! the text's parser: the class's states and the reference's reading say the same -/
def stg (a : Nat → Int32) : Nat → Nat → Int32 → Int32
  | 0, _, s => s
  | m + 1, i, s => stg a m (i + 1) (stb s (a i))
theorem sta_stg (a : Nat → Int32) : ∀ (m i : Nat), stg a m i (sta a i) = sta a (i + m)
  | 0, _ => rfl
  | m + 1, i => by
    rw [stg, show stb (sta a i) (a i) = sta a (i + 1) from rfl, sta_stg a m (i + 1), show i + 1 + m = i + (m + 1) by omega]
theorem stb_m (x : Int32) : stb (-1) x = -1 := by unfold stb; rfl
theorem stg_m (a : Nat → Int32) : ∀ (m i : Nat), stg a m i (-1) = -1
  | 0, _ => rfl
  | m + 1, i => by rw [stg, stb_m, stg_m a m (i + 1)]
/-- state s goes on to s2 by a sign from lo to hi alone -/
def goesR (s s2 : Int32) (lo hi : Nat) : Prop := s ≠ nI 8 ∧ ∀ x, stb s x = if btw x (nI lo) (nI hi) = true then s2 else -1
theorem go1 : goesR (nI 1) (nI 2) 48 51 := ⟨by decide, fun x => rfl⟩
theorem go2 : goesR (nI 2) (nI 3) 48 55 := ⟨by decide, fun x => rfl⟩
theorem go3 : goesR (nI 3) (nI 8) 49 57 := ⟨by decide, fun x => rfl⟩
theorem go4 : goesR (nI 4) (nI 5) 97 109 := ⟨by decide, fun x => rfl⟩
theorem go5 : goesR (nI 5) (nI 6) 97 109 := ⟨by decide, fun x => rfl⟩
theorem go6 : goesR (nI 6) (nI 7) 49 54 := ⟨by decide, fun x => rfl⟩
theorem go7 : goesR (nI 7) (nI 8) 48 55 := ⟨by decide, fun x => rfl⟩
theorem stb0 (x : Int32) : stb (nI 0) x = if x = nI 102 then nI 1 else if x = nI 108 then nI 4 else -1 := rfl
theorem stb8 (x : Int32) : stb (nI 8) x = if x = nI 59 then nI 0 else -1 := rfl
theorem btw_one {x : Int32} {a : Nat} (ha : a < 2 ^ 31) : btw x (nI a) (nI a) = true ↔ x = nI a := by
  constructor
  · intro h
    obtain ⟨j, h1, h2, h3⟩ := btw_of ha ha h
    rw [h1, show j = a by omega]
  · intro h
    rw [h]
    exact btw_nI ⟨Nat.le_refl a, Nat.le_refl a⟩ ha
section PARSE
variable {a : Nat → Int32} {n : Nat}
/-- read from (s0, p0): the pair says where it stands, in state s1 -/
def Ag (a : Nat → Int32) (n : Nat) (s0 : Int32) (p0 : Nat) (pr : Bool × Nat) (s1 : Int32) : Prop := p0 ≤ pr.2 ∧ pr.2 ≤ n ∧ (pr.1 = true → eri a (n - p0) p0 s0 = eri a (n - pr.2) pr.2 s1 ∧ stg a (n - p0) p0 s0 = stg a (n - pr.2) pr.2 s1) ∧ (pr.1 = false → eri a (n - p0) p0 s0 = pr.2 ∧ stg a (n - p0) p0 s0 ≠ nI 8)
theorem eri_go {p : Nat} {s s2 : Int32} (h : p < n) (h1 : stb s (a p) = s2) (h2 : s2 ≠ -1) : eri a (n - p) p s = eri a (n - (p + 1)) (p + 1) s2 ∧ stg a (n - p) p s = stg a (n - (p + 1)) (p + 1) s2 := by
  rw [show n - p = (n - (p + 1)) + 1 by omega]
  subst h1
  exact ⟨by rw [eri, if_neg h2], by rw [stg]⟩
theorem eri_stop {p : Nat} {s : Int32} (hp : p ≤ n) (h : p < n → stb s (a p) = -1) (hs : p = n → s ≠ nI 8) : eri a (n - p) p s = p ∧ stg a (n - p) p s ≠ nI 8 := by
  rcases Nat.lt_or_ge p n with q | q
  · rw [show n - p = (n - (p + 1)) + 1 by omega]
    refine ⟨by rw [eri, if_pos (h q)], ?_⟩
    rw [stg, h q, stg_m]
    decide
  · have e : p = n := by omega
    rw [show n - p = 0 by omega]
    exact ⟨rfl, hs e⟩
theorem Ag_start {s : Int32} {p : Nat} (hp : p ≤ n) : Ag a n s p (true, p) s := ⟨Nat.le_refl p, hp, fun _ => ⟨rfl, rfl⟩, fun h => Bool.noConfusion h⟩
theorem Ag_tk {s0 s1 s2 : Int32} {p0 lo hi : Nat} {pr : Bool × Nat} (hs2 : s2 ≠ -1) (hg : goesR s1 s2 lo hi) (h : Ag a n s0 p0 pr s1) : Ag a n s0 p0 (tk a n lo hi pr) s2 := by
  obtain ⟨g, q⟩ := pr
  obtain ⟨h1, h2, h3, h4⟩ := h
  cases g with
  | false =>
    rw [show tk a n lo hi (false, q) = (false, q) from rfl]
    exact ⟨h1, h2, fun e => Bool.noConfusion e, h4⟩
  | true =>
    obtain ⟨e1, e2⟩ := h3 rfl
    rw [show tk a n lo hi (true, q) = (tks a n q lo hi, tkn a n q lo hi) from rfl]
    cases ht : tks a n q lo hi with
    | true =>
      rw [tkn, ht, if_pos rfl]
      have ht2 := ht
      unfold tks at ht2
      rw [Bool.and_eq_true] at ht2
      have hq : q < n := of_decide_eq_true ht2.1
      obtain ⟨f1, f2⟩ := eri_go (a := a) (n := n) (p := q) (s := s1) (s2 := s2) hq (by rw [hg.2, if_pos ht2.2]) hs2
      exact ⟨by show p0 ≤ q + 1; have : p0 ≤ q := h1; omega, hq, fun _ => ⟨by rw [e1, f1], by rw [e2, f2]⟩, fun e => Bool.noConfusion e⟩
    | false =>
      rw [tkn, ht, if_neg (by decide)]
      obtain ⟨f1, f2⟩ := eri_stop (a := a) (n := n) (p := q) (s := s1) h2 (fun q9 => by
        rw [hg.2, if_neg]
        intro hb
        unfold tks at ht
        rw [decide_eq_true q9, hb] at ht
        exact absurd ht (by decide)) (fun _ => hg.1)
      exact ⟨h1, h2, fun e => Bool.noConfusion e, fun _ => ⟨by rw [e1, f1], by rw [e2]; exact f2⟩⟩
theorem Ag_rprt {p : Nat} (hp : p ≤ n) : Ag a n (nI 0) p (rprt a n p) (nI 8) := by
  unfold rprt
  by_cases h : tks a n p 102 102 = true
  · rw [if_pos h, tkn, if_pos h]
    unfold tks at h
    rw [Bool.and_eq_true] at h
    have hq : p < n := of_decide_eq_true h.1
    obtain ⟨f1, f2⟩ := eri_go (a := a) (n := n) (p := p) (s := nI 0) (s2 := nI 1) hq (by rw [stb0, if_pos ((btw_one (by decide)).mp h.2)]) (by decide)
    refine Ag_tk (by decide) go3 (Ag_tk (by decide) go2 (Ag_tk (by decide) go1 ?_))
    exact ⟨Nat.le_succ p, hq, fun _ => ⟨f1, f2⟩, fun e => Bool.noConfusion e⟩
  · rw [if_neg h, tkn, if_neg h]
    have hf : p < n → a p ≠ nI 102 := by
      intro q e
      apply h
      unfold tks
      rw [decide_eq_true q, (btw_one (by decide)).mpr e]
      rfl
    refine Ag_tk (by decide) go7 (Ag_tk (by decide) go6 (Ag_tk (by decide) go5 (Ag_tk (by decide) go4 ?_)))
    rw [show tk a n 108 108 (true, p) = (tks a n p 108 108, tkn a n p 108 108) from rfl]
    cases ht : tks a n p 108 108 with
    | true =>
      rw [tkn, ht, if_pos rfl]
      unfold tks at ht
      rw [Bool.and_eq_true] at ht
      have hq : p < n := of_decide_eq_true ht.1
      obtain ⟨f1, f2⟩ := eri_go (a := a) (n := n) (p := p) (s := nI 0) (s2 := nI 4) hq (by rw [stb0, if_neg (hf hq), if_pos ((btw_one (by decide)).mp ht.2)]) (by decide)
      exact ⟨Nat.le_succ p, hq, fun _ => ⟨f1, f2⟩, fun e => Bool.noConfusion e⟩
    | false =>
      rw [tkn, ht, if_neg (by decide)]
      obtain ⟨f1, f2⟩ := eri_stop (a := a) (n := n) (p := p) (s := nI 0) hp (fun q9 => by
        rw [stb0, if_neg (hf q9), if_neg]
        intro hb
        unfold tks at ht
        rw [decide_eq_true q9, (btw_one (by decide)).mpr hb] at ht
        exact absurd ht (by decide)) (fun _ => by decide)
      exact ⟨Nat.le_refl p, hp, fun e => Bool.noConfusion e, fun _ => ⟨f1, f2⟩⟩
theorem Ag_trans {s0 s1 s2 : Int32} {p0 p1 : Nat} {pr : Bool × Nat} (h : Ag a n s0 p0 (true, p1) s1) (h2 : Ag a n s1 p1 pr s2) : Ag a n s0 p0 pr s2 := by
  obtain ⟨h1, -, h3, -⟩ := h
  obtain ⟨k1, k2, k3, k4⟩ := h2
  obtain ⟨e1, e2⟩ := h3 rfl
  have e1 : eri a (n - p0) p0 s0 = eri a (n - p1) p1 s1 := e1
  have e2 : stg a (n - p0) p0 s0 = stg a (n - p1) p1 s1 := e2
  exact ⟨Nat.le_trans h1 k1, k2, fun g => ⟨by rw [e1]; exact (k3 g).1, by rw [e2]; exact (k3 g).2⟩, fun g => ⟨by rw [e1]; exact (k4 g).1, by rw [e2]; exact (k4 g).2⟩⟩
theorem Ag_rwhL : ∀ (m : Nat) (g : Bool) (p : Nat), (g = true → n ≤ p + m) → Ag a n (nI 0) 0 (g, p) (nI 8) → Ag a n (nI 0) 0 (rwhL a n m g p) (nI 8) ∧ ((rwhL a n m g p).1 = true → (rwhL a n m g p).2 = n)
  | 0, g, p, hf, h => ⟨h, fun hg => by
      have hg : g = true := hg
      have h5 : p ≤ n := h.2.1
      have h6 := hf hg
      show p = n
      omega⟩
  | m + 1, g, p, hf, h => by
    have h5 : p ≤ n := h.2.1
    rw [rwhL]
    by_cases hc : g = true ∧ p < n
    · rw [if_pos hc]
      obtain ⟨hg, hq⟩ := hc
      subst hg
      have hfm := hf rfl
      by_cases ht : tks a n p 59 59 = true
      · rw [if_pos ht, tkn, if_pos ht]
        unfold tks at ht
        rw [Bool.and_eq_true] at ht
        obtain ⟨f1, f2⟩ := eri_go (a := a) (n := n) (p := p) (s := nI 8) (s2 := nI 0) hq (by rw [stb8, if_pos ((btw_one (by decide)).mp ht.2)]) (by decide)
        have hr := Ag_rprt (a := a) (n := n) (p := p + 1) hq
        have h9 : Ag a n (nI 8) p (true, p + 1) (nI 0) := ⟨Nat.le_succ p, hq, fun _ => ⟨f1, f2⟩, fun e => Bool.noConfusion e⟩
        have hge : p + 1 ≤ (rprt a n (p + 1)).2 := hr.1
        exact Ag_rwhL m _ _ (fun _ => by omega) (Ag_trans (Ag_trans h h9) hr)
      · rw [if_neg ht, tkn, if_neg ht]
        obtain ⟨f1, f2⟩ := eri_stop (a := a) (n := n) (p := p) (s := nI 8) h5 (fun q9 => by
          rw [stb8, if_neg]
          intro hb
          apply ht
          unfold tks
          rw [decide_eq_true q9, (btw_one (by decide)).mpr hb]
          rfl) (fun e => by omega)
        refine Ag_rwhL m false p (fun e => Bool.noConfusion e) ?_
        have h9 : Ag a n (nI 8) p (false, p) (nI 8) := ⟨Nat.le_refl p, h5, fun e => Bool.noConfusion e, fun _ => ⟨f1, f2⟩⟩
        exact Ag_trans h h9
    · rw [if_neg hc]
      exact ⟨h, fun hg => by
        have hg : g = true := hg
        have : ¬ p < n := fun q => hc ⟨hg, q⟩
        show p = n
        omega⟩
theorem rwh_Ag (a : Nat → Int32) (n : Nat) : Ag a n (nI 0) 0 (rwh a n) (nI 8) ∧ ((rwh a n).1 = true → (rwh a n).2 = n) := by
  unfold rwh
  refine Ag_rwhL (n + 1) _ _ (fun _ => by omega) ?_
  have h := Ag_rprt (a := a) (n := n) (p := 0) (Nat.zero_le n)
  exact h
theorem sta_rwh (a : Nat → Int32) (n : Nat) : sta a n = nI 8 ↔ (rwh a n).1 = true := by
  obtain ⟨⟨h1, h2, h3, h4⟩, h5⟩ := rwh_Ag a n
  have e : stg a (n - 0) 0 (nI 0) = sta a n := by
    rw [show nI 0 = sta a 0 from rfl, sta_stg, show 0 + (n - 0) = n by omega]
  constructor
  · intro h
    cases hb : (rwh a n).1 with
    | true => rfl
    | false => exact absurd (e.trans h) (h4 hb).2
  · intro hb
    rw [← e, (h3 hb).2, h5 hb, show n - n = 0 by omega]
    rfl
theorem eri_rwh (a : Nat → Int32) (n : Nat) : eri a n 0 (nI 0) = if (rwh a n).1 = true then n else (rwh a n).2 := by
  obtain ⟨⟨h1, h2, h3, h4⟩, h5⟩ := rwh_Ag a n
  cases hb : (rwh a n).1 with
  | true =>
    rw [if_pos rfl]
    have := (h3 hb).1
    rw [h5 hb, show n - n = 0 by omega] at this
    exact this
  | false =>
    rw [if_neg (by decide)]
    exact (h4 hb).1
theorem stg_in {m k lo hi : Nat} {s s2 : Int32} (hlo : lo < 2 ^ 31) (hhi : hi < 2 ^ 31) (hg : goesR s s2 lo hi) (h : stg a m k s = nI 8) : ∃ m', m = m' + 1 ∧ (∃ j, a k = nI j ∧ lo ≤ j ∧ j ≤ hi) ∧ stg a m' (k + 1) s2 = nI 8 := by
  cases m with
  | zero => exact absurd h hg.1
  | succ m' =>
    rw [stg, hg.2] at h
    by_cases hb : btw (a k) (nI lo) (nI hi) = true
    · rw [if_pos hb] at h
      exact ⟨m', rfl, btw_of hlo hhi hb, h⟩
    · rw [if_neg hb, stg_m] at h
      exact absurd h (by decide)
theorem stg_8 {m k : Nat} (h : stg a m k (nI 8) = nI 8) : m = 0 ∨ ∃ m', m = m' + 1 ∧ stg a m' (k + 1) (nI 0) = nI 8 := by
  cases m with
  | zero => exact Or.inl rfl
  | succ m' =>
    rw [stg, stb8] at h
    by_cases hb : a k = nI 59
    · rw [if_pos hb] at h
      exact Or.inr ⟨m', rfl, h⟩
    · rw [if_neg hb, stg_m] at h
      exact absurd h (by decide)
theorem wfT_of : ∀ (fu m k : Nat), k + m = n → m ≤ fu → stg a m k (nI 0) = nI 8 → wfT a n fu k
  | 0, m, k, hk, hf, h => by
    show n ≤ k
    omega
  | fu + 1, m, k, hk, hf, h => by
    have hend : ∀ (m9 k9 : Nat), k9 + m9 = n → m9 < fu + 1 → stg a m9 k9 (nI 8) = nI 8 → wfT a n fu (k9 + 1) := by
      intro m9 k9 h1 h2 h3
      rcases stg_8 h3 with h4 | ⟨m', h4, h5⟩
      · cases fu with
        | zero => show n ≤ k9 + 1; omega
        | succ fu => exact Or.inl (by omega)
      · exact wfT_of fu m' (k9 + 1) (by omega) (by omega) h5
    cases m with
    | zero => exact absurd (show nI 0 = nI 8 from h) (by decide)
    | succ m0 =>
      rw [stg, stb0] at h
      by_cases hf0 : a k = nI 102
      · rw [if_pos hf0] at h
        obtain ⟨m1, e1, ⟨j1, b1, b2, b3⟩, h⟩ := stg_in (by decide) (by decide) go1 h
        obtain ⟨m2, e2, ⟨j2, c1, c2, c3⟩, h⟩ := stg_in (by decide) (by decide) go2 h
        obtain ⟨m3, e3, ⟨j3, d1, d2, d3⟩, h⟩ := stg_in (by decide) (by decide) go3 h
        refine Or.inr (Or.inl ⟨j1 - 48, j2 - 48, j3 - 48, ⟨by omega, by omega, by omega, by omega, hf0, ?_, ?_, ?_⟩, hend m3 (k + 4) (by omega) (by omega) h⟩)
        · exact b1.trans (congrArg nI (by omega))
        · exact c1.trans (congrArg nI (by omega))
        · exact d1.trans (congrArg nI (by omega))
      · rw [if_neg hf0] at h
        by_cases hl0 : a k = nI 108
        · rw [if_pos hl0] at h
          obtain ⟨m1, e1, ⟨j1, b1, b2, b3⟩, h⟩ := stg_in (by decide) (by decide) go4 h
          obtain ⟨m2, e2, ⟨j2, c1, c2, c3⟩, h⟩ := stg_in (by decide) (by decide) go5 h
          obtain ⟨m3, e3, ⟨j3, d1, d2, d3⟩, h⟩ := stg_in (by decide) (by decide) go6 h
          obtain ⟨m4, e4, ⟨j4, f1, f2, f3⟩, h⟩ := stg_in (by decide) (by decide) go7 h
          refine Or.inr (Or.inr ⟨j1 - 97, j2 - 97, j3 - 48, j4 - 48, ⟨by omega, by omega, by omega, by omega, by omega, hl0, ?_, ?_, ?_, ?_⟩, hend m4 (k + 5) (by omega) (by omega) h⟩)
          · exact b1.trans (congrArg nI (by omega))
          · exact c1.trans (congrArg nI (by omega))
          · exact d1.trans (congrArg nI (by omega))
          · exact f1.trans (congrArg nI (by omega))
        · rw [if_neg hl0, stg_m] at h
          exact absurd h (by decide)
theorem rwh_wfT (h60 : n ≤ 60) (h : (rwh a n).1 = true) : wfT a n 61 0 := by
  have h1 := (sta_rwh a n).mpr h
  refine wfT_of 61 n 0 (by omega) (by omega) ?_
  have h2 := sta_stg a n 0
  rw [show sta a 0 = nI 0 from rfl, show 0 + n = n by omega, h1] at h2
  exact h2
-- what lies behind the text doesn't count
variable {b : Nat → Int32}
theorem tks_congr (h : ∀ k, k < n → a k = b k) (p lo hi : Nat) : tks a n p lo hi = tks b n p lo hi := by
  unfold tks
  by_cases q : p < n
  · rw [h p q]
  · rw [decide_eq_false q, Bool.false_and, Bool.false_and]
theorem tkn_congr (h : ∀ k, k < n → a k = b k) (p lo hi : Nat) : tkn a n p lo hi = tkn b n p lo hi := by unfold tkn; rw [tks_congr h]
theorem tk_congr (h : ∀ k, k < n → a k = b k) (lo hi : Nat) (p : Bool × Nat) : tk a n lo hi p = tk b n lo hi p := by unfold tk; rw [tks_congr h, tkn_congr h]
theorem rprt_congr (h : ∀ k, k < n → a k = b k) (p : Nat) : rprt a n p = rprt b n p := by
  unfold rprt
  simp only [tks_congr h, tkn_congr h, tk_congr h]
theorem rwhL_congr (h : ∀ k, k < n → a k = b k) : ∀ (m : Nat) (g : Bool) (p : Nat), rwhL a n m g p = rwhL b n m g p
  | 0, _, _ => rfl
  | m + 1, g, p => by
    rw [rwhL, rwhL, tks_congr h, tkn_congr h, rprt_congr h, rwhL_congr h m, rwhL_congr h m]
theorem rwh_congr (h : ∀ k, k < n → a k = b k) : rwh a n = rwh b n := by
  unfold rwh
  rw [rprt_congr h, rwhL_congr h]
theorem rRun_congr (h : ∀ k, k < n → a k = b k) : ∀ (fu k : Nat) (r : Nat → Int32) (dn : Nat), wfT a n fu k → rRun a n fu k r dn = rRun b n fu k r dn
  | 0, _, _, _, _ => rfl
  | fu + 1, k, r, dn, hw => by
    rcases hw with h1 | ⟨e, d, f, h1, h2⟩ | ⟨x, y, f, d, h1, h2⟩
    · rw [rRun, rRun, if_pos h1, if_pos h1]
    · obtain ⟨q1, -, -, -, q5, -, -, -⟩ := h1
      rw [rRun, rRun, ← h k (by omega), ← h (k + 1) (by omega), ← h (k + 2) (by omega), ← h (k + 3) (by omega), rRun_congr h fu (k + 5) _ _ h2, if_pos q5, if_pos q5]
    · obtain ⟨q1, -, -, -, -, q5, -⟩ := h1
      have q6 : a k ≠ nI 102 := by rw [q5]; decide
      rw [rRun, rRun, ← h k (by omega), ← h (k + 1) (by omega), ← h (k + 2) (by omega), ← h (k + 3) (by omega), ← h (k + 4) (by omega), rRun_congr h fu (k + 6) _ _ h2, if_neg q6, if_neg q6]
end PARSE
