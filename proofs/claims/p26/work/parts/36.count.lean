/-! counting winks -/
theorem sm_cg {f g : Nat → Nat} : ∀ {n : Nat}, (∀ k, k < n → f k = g k) → sm f n = sm g n
  | 0, _ => rfl
  | n + 1, h => by rw [sm, sm, sm_cg (fun k hk => h k (by omega)), h n (by omega)]
theorem sm_ad (f g : Nat → Nat) : ∀ n, sm (fun i => f i + g i) n = sm f n + sm g n
  | 0 => rfl
  | n + 1 => by rw [sm, sm, sm, sm_ad f g n]; omega
theorem sm_0 : ∀ n, sm (fun _ => 0) n = 0
  | 0 => rfl
  | n + 1 => by rw [sm, sm_0 n]
theorem sm_1 {x : Nat} : ∀ n, sm (fun i => if x = i then 1 else 0) n = if x < n then 1 else 0
  | 0 => rfl
  | n + 1 => by
    rw [sm, sm_1 n]
    by_cases h1 : x < n
    · rw [if_pos h1, if_neg (by omega), if_pos (by omega)]
    · rw [if_neg h1]
      by_cases h2 : x = n
      · rw [if_pos h2, if_pos (by omega)]
      · rw [if_neg h2, if_neg (by omega)]
/-- counted by the class that each belongs to -/
theorem cnt_by {p : Nat → Bool} {B : Nat → Nat} {m : Nat} : ∀ n, (∀ x, x < n → p x = true → B x < m) → cnt p n = sm (fun i => cnt (fun x => p x && decide (B x = i)) n) m
  | 0, _ => (sm_0 m).symm
  | n + 1, h => by
    have ih := cnt_by n (fun x hx => h x (by omega))
    by_cases hp : p n = true
    · have e1 : cnt p (n + 1) = cnt p n + 1 := by simp only [cnt]; rw [if_pos hp]
      have e2 : sm (fun i => cnt (fun x => p x && decide (B x = i)) (n + 1)) m = sm (fun i => cnt (fun x => p x && decide (B x = i)) n + (if B n = i then 1 else 0)) m := sm_cg (fun i _ => by
        simp only [cnt]
        by_cases hb : B n = i
        · rw [if_pos (by rw [hp, decide_eq_true hb]; rfl), if_pos hb]
        · rw [if_neg (by rw [hp, decide_eq_false hb]; decide), if_neg hb, Nat.add_zero])
      rw [e1, e2, sm_ad, sm_1, if_pos (h n (by omega) hp), ih]
    · have hp : p n = false := by simpa using hp
      have e1 : cnt p (n + 1) = cnt p n := by simp only [cnt]; rw [if_neg (by rw [hp]; decide)]
      have e2 : sm (fun i => cnt (fun x => p x && decide (B x = i)) (n + 1)) m = sm (fun i => cnt (fun x => p x && decide (B x = i)) n) m := sm_cg (fun i _ => by
        simp only [cnt]
        rw [if_neg (by rw [hp, Bool.false_and]; decide)])
      rw [e1, e2, ih]
theorem cnt_sp {p : Nat → Bool} (a : Nat) : ∀ n, cnt p (a + n) = cnt p a + cnt (fun i => p (a + i)) n
  | 0 => rfl
  | n + 1 => by
    have ih := cnt_sp (p := p) a n
    show cnt p ((a + n) + 1) = _
    simp only [cnt]
    rw [ih]
    by_cases h : p (a + n) = true
    · rw [if_pos h, if_pos h]; omega
    · rw [if_neg h, if_neg h]
theorem cnt_4 (p : Nat → Bool) : cnt p 16 = ((cnt (fun i => p (4 * 0 + i)) 4 + cnt (fun i => p (4 * 1 + i)) 4) + cnt (fun i => p (4 * 2 + i)) 4) + cnt (fun i => p (4 * 3 + i)) 4 := by
  have h1 : cnt p 16 = cnt p 12 + cnt (fun i => p (4 * 3 + i)) 4 := cnt_sp (p := p) 12 4
  have h2 : cnt p 12 = cnt p 8 + cnt (fun i => p (4 * 2 + i)) 4 := cnt_sp (p := p) 8 4
  have h3 : cnt p 8 = cnt p 4 + cnt (fun i => p (4 * 1 + i)) 4 := cnt_sp (p := p) 4 4
  have h4 : cnt p 4 = 0 + cnt (fun i => p (4 * 0 + i)) 4 := cnt_sp (p := p) 0 4
  omega

theorem sm_sp {f : Nat → Nat} (a : Nat) : ∀ n, sm f (a + n) = sm f a + sm (fun i => f (a + i)) n
  | 0 => rfl
  | n + 1 => by
    have ih := sm_sp (f := f) a n
    show sm f ((a + n) + 1) = _
    simp only [sm]
    omega
theorem sm_4 (f : Nat → Nat) : sm f 16 = ((sm (fun i => f (4 * 0 + i)) 4 + sm (fun i => f (4 * 1 + i)) 4) + sm (fun i => f (4 * 2 + i)) 4) + sm (fun i => f (4 * 3 + i)) 4 := by
  have h1 : sm f 16 = sm f 12 + sm (fun i => f (4 * 3 + i)) 4 := sm_sp (f := f) 12 4
  have h2 : sm f 12 = sm f 8 + sm (fun i => f (4 * 2 + i)) 4 := sm_sp (f := f) 8 4
  have h3 : sm f 8 = sm f 4 + sm (fun i => f (4 * 1 + i)) 4 := sm_sp (f := f) 4 4
  have h4 : sm f 4 = 0 + sm (fun i => f (4 * 0 + i)) 4 := sm_sp (f := f) 0 4
  omega
theorem cnt_3 {p q r : Nat → Bool} : ∀ n, (∀ x, x < n → (p x = true ∧ q x = false ∧ r x = false) ∨ (p x = false ∧ q x = true ∧ r x = false) ∨ (p x = false ∧ q x = false ∧ r x = true)) → cnt p n + cnt q n + cnt r n = n
  | 0, _ => rfl
  | n + 1, h => by
    have ih := cnt_3 (p := p) (q := q) (r := r) n (fun x hx => h x (by omega))
    simp only [cnt]
    rcases h n (Nat.lt_succ_self n) with ⟨h1, h2, h3⟩ | ⟨h1, h2, h3⟩ | ⟨h1, h2, h3⟩ <;> simp only [h1, h2, h3, if_true, if_false, Bool.false_eq_true] <;> omega
theorem cnt_2 {p q : Nat → Bool} : ∀ n, (∀ x, x < n → p x = true → q x = false) → cnt p n + cnt q n ≤ n
  | 0, _ => Nat.le_refl 0
  | n + 1, h => by
    have ih := cnt_2 (p := p) (q := q) n (fun x hx => h x (by omega))
    simp only [cnt]
    by_cases h1 : p n = true
    · rw [if_pos h1, if_neg (by rw [h n (Nat.lt_succ_self n) h1]; decide)]
      omega
    · rw [if_neg h1]
      split <;> omega
section CQ
variable {c b v : Nat → Int32} {N : Nat → Nat} {W : Nat → Nat → Nat}
theorem bot_at (h : Rc c N W) (hl : Rl c b v N W) {q i : Nat} (hi : i < N q) : bot c b (W q i) = decide (i = 0) := by
  unfold bot
  have hne : c (W q i) ≠ -1 := fun e => h.no hi rfl e
  rw [hl.1 q i hi]
  by_cases h0 : i = 0
  · subst h0
    simp [hne]
  · rw [if_neg h0]
    have h1 := (h.1 q (i - 1) (by omega)).1
    simp [nI_m1 (show W q (i - 1) < 2 ^ 31 by omega), h0]
theorem pot_at {w : Nat} : pot c w = true ↔ c w = -1 := by
  unfold pot
  simp
/-- counted pile by pile: N q - 1 in each -/
theorem cnt_pile (h : Rc c N W) (hl : Rl c b v N W) {p : Nat → Bool} (hp0 : ∀ x, x < 16 → p x = true → c x ≠ -1) (hpq : ∀ q, 0 < N q → cnt (fun x => p x && decide (c x = nI q)) 16 = N q - 1) : cnt p 16 = sm (fun i => if bot c b i = true then hgt c (c i) - 1 else 0) 16 := by
  have hB : ∀ x, x < 16 → p x = true → ∃ q i, i < N q ∧ W q i = x ∧ c x = nI q ∧ q < 169 ∧ W (ix (c x)) 0 = W q 0 := by
    intro x hx hr
    rcases h.2.2 x hx with e | ⟨q, i, hi, e⟩
    · exact absurd e (hp0 x hx hr)
    · have h3 := (h.1 q i hi).2.2.2
      have h4 := (h.1 q i hi).2.1
      rw [e] at h3
      exact ⟨q, i, hi, e, h3, h4, by rw [h3, ix_nI (by omega)]⟩
  rw [cnt_by (B := fun x => W (ix (c x)) 0) (m := 16) 16 (fun x hx hr => by
    obtain ⟨q, i, hi, -, -, -, e⟩ := hB x hx hr
    show W (ix (c x)) 0 < 16
    rw [e]
    exact (h.1 q 0 (by omega)).1)]
  refine sm_cg (fun i hi => ?_)
  rcases h.2.2 i hi with e | ⟨q, k, hk, e⟩
  · have hb : bot c b i = false := by
      unfold bot
      rw [e]
      simp
    rw [hb, if_neg (by decide)]
    refine cnt_zero (fun x hx => ?_)
    by_cases hr : p x = true
    · obtain ⟨q, i2, hi2, -, -, -, e2⟩ := hB x hx hr
      rw [hr, Bool.true_and]
      refine decide_eq_false (fun e3 => ?_)
      exact h.no (show 0 < N q by omega) (e2.symm.trans e3) e
    · rw [bool_ff hr]
      rfl
  · have hb := bot_at h hl hk
    rw [e] at hb
    rw [hb]
    have hcq := (h.1 q k hk).2.2.2
    have hq := (h.1 q k hk).2.1
    rw [e] at hcq
    by_cases h0 : k = 0
    · subst h0
      rw [if_pos (by simp), hcq, h.hgtN (by omega), ← hpq q hk]
      refine cnt_cong (fun x hx => ?_)
      by_cases hr : p x = true
      · obtain ⟨q2, i2, hi2, -, e3, hq2, e2⟩ := hB x hx hr
        rw [hr, Bool.true_and, Bool.true_and, e2, e3]
        by_cases eq : q2 = q
        · subst eq
          rw [decide_eq_true e, decide_eq_true rfl]
        · rw [decide_eq_false (fun e4 => eq (h.one (show 0 < N q2 by omega) hk (e4.trans e.symm)).1), decide_eq_false (nI_ne (by omega) (by omega) eq)]
      · rw [bool_ff hr]
        rfl
    · rw [if_neg (by simp [h0])]
      refine cnt_zero (fun x hx => ?_)
      by_cases hr : p x = true
      · obtain ⟨q2, i2, hi2, -, -, -, e2⟩ := hB x hx hr
        rw [hr, Bool.true_and]
        refine decide_eq_false (fun e3 => h0 ?_)
        exact (h.one (show 0 < N q2 by omega) hk ((e2.symm.trans e3).trans e.symm)).2.symm
      · rw [bool_ff hr]
        rfl
theorem cov_at (h : Rc c N W) (hl : Rl c b v N W) {w : Nat} (hw : w < 16) (hc : cov v w = true) : c w ≠ -1 := fun e => by
  unfold cov at hc
  rw [(hl.2.2 w hw e).2] at hc
  simp at hc
theorem cnt_cov (h : Rc c N W) (hl : Rl c b v N W) : cnt (fun i => cov v i) 16 = sm (fun i => if bot c b i = true then hgt c (c i) - 1 else 0) 16 := by
  refine cnt_pile h hl (fun x hx hr => cov_at h hl hx hr) (fun q hq => ?_)
  refine cnt_w (W := W q) (N q - 1) (fun i hi => ?_) (fun w hw hp => ?_) (fun i j hi hj e => h.2.1 q i j (by omega) (by omega) e)
  · refine ⟨(h.1 q i (by omega)).1, ?_⟩
    have h1 := hl.covN h (show i < N q by omega)
    show (cov v (W q i) && decide (c (W q i) = nI q)) = true
    rw [h1, (h.1 q i (by omega)).2.2.2, decide_eq_true (show i + 1 < N q by omega), decide_eq_true rfl]
    rfl
  · simp only [Bool.and_eq_true, decide_eq_true_eq] at hp
    obtain ⟨i, hi, rfl⟩ := h.cell (by have := h.q hq; omega) hw hp.2
    have h1 := hl.covN h hi
    rw [hp.1] at h1
    have h2 : i + 1 < N q := of_decide_eq_true h1.symm
    exact ⟨i, by omega, rfl⟩
theorem cnt_nb (h : Rc c N W) (hl : Rl c b v N W) : cnt (fun i => !(pot c i) && !(bot c b i)) 16 = sm (fun i => if bot c b i = true then hgt c (c i) - 1 else 0) 16 := by
  refine cnt_pile h hl (fun x hx hr e => ?_) (fun q hq => ?_)
  · rw [pot_at.mpr e] at hr
    simp at hr
  · refine cnt_w (W := fun i => W q (i + 1)) (N q - 1) (fun i hi => ?_) (fun w hw hp => ?_) (fun i j hi hj e => by have := h.2.1 q (i + 1) (j + 1) (by omega) (by omega) e; omega)
    · refine ⟨(h.1 q (i + 1) (by omega)).1, ?_⟩
      have h1 := bot_at h hl (show i + 1 < N q by omega)
      have h2 := h.potN (show i + 1 < N q by omega)
      show ((!(pot c (W q (i + 1))) && !(bot c b (W q (i + 1)))) && decide (c (W q (i + 1)) = nI q)) = true
      rw [h1, h2, (h.1 q (i + 1) (by omega)).2.2.2, decide_eq_false (show ¬ i + 1 = 0 by omega), decide_eq_true rfl]
      rfl
    · simp only [Bool.and_eq_true, decide_eq_true_eq] at hp
      obtain ⟨i, hi, rfl⟩ := h.cell (by have := h.q hq; omega) hw hp.2
      have h1 := bot_at h hl hi
      have h3 : bot c b (W q i) = false := by simpa using hp.1.2
      rw [h3] at h1
      have h2 : ¬ i = 0 := of_decide_eq_false h1.symm
      exact ⟨i - 1, by omega, by show W q (i - 1 + 1) = W q i; rw [show i - 1 + 1 = i by omega]⟩
theorem cnt_all (h : Rc c N W) (hl : Rl c b v N W) : cnt (pot c) 16 + cnt (bot c b) 16 + cnt (fun i => cov v i) 16 = 16 := by
  rw [cnt_cov h hl, ← cnt_nb h hl]
  refine cnt_3 16 (fun x hx => ?_)
  by_cases h1 : pot c x = true
  · have h2 : bot c b x = false := by
      unfold bot
      rw [pot_at.mp h1]
      simp
    exact Or.inl ⟨h1, h2, by rw [h1]; rfl⟩
  · have h1 := bool_ff h1
    by_cases h2 : bot c b x = true
    · exact Or.inr (Or.inl ⟨h1, h2, by rw [h2, Bool.not_true, Bool.and_false]⟩)
    · have h2 := bool_ff h2
      exact Or.inr (Or.inr ⟨h1, h2, by rw [h1, h2]; rfl⟩)
theorem col_2 (h : Rc c N W) (hl : Rl c b v N W) {k : Nat} (hk : k < 4) : potc c k + covc v k ≤ 4 := by
  refine cnt_2 4 (fun x hx hp => ?_)
  have hp : c (4 * k + x) = -1 := by simpa using hp
  by_cases hc : cov v (4 * k + x) = true
  · exact absurd hp (cov_at h hl (by omega) hc)
  · exact bool_ff hc
end CQ
theorem col_c2 {c b v h j : Nat → Int32} {k : Nat} (hk : potc c k + covc v k ≤ 4) : cCol c b v h j k (nI 2) = nI (4 - potc c k - covc v k) := by
  show nI 4 - nI (potc c k) - nI (covc v k) = _
  rw [pk_sub (by omega), pk_sub (by omega)]
theorem potn_16 {c : Nat → Int32} : potn c = cnt (pot c) 16 := by
  rw [cnt_4]
  show 0 + potc c 0 + potc c 1 + potc c 2 + potc c 3 = ((potc c 0 + potc c 1) + potc c 2) + potc c 3
  omega
theorem cov_16 {v : Nat → Int32} : (covc v 0 + covc v (0 + 2)) + (covc v 1 + covc v (1 + 2)) = cnt (fun i => cov v i) 16 := by
  rw [cnt_4]
  show (covc v 0 + covc v 2) + (covc v 1 + covc v 3) = ((covc v 0 + covc v 1) + covc v 2) + covc v 3
  omega
/-- what fits() counts up to the wink i -/
def pk (c : Nat → Int32) (k i : Nat) : Nat := cnt (fun x => decide (x / 4 = k) && pot c x) i
def ptx (c v : Nat → Int32) (x : Nat) : Nat := if c x = -1 then 3 else if cov v x = true then 0 else if c x = nI (bs (x / 4)) then 0 else 1
def qk (c v : Nat → Int32) (k i : Nat) : Nat := sm (fun x => if x / 4 = k then ptx c v x else 0) i
theorem pk_s {c : Nat → Int32} {i : Nat} (hp : pot c i = true) : upd (fun k => nI (pk c k i)) (i / 4) (nI (pk c (i / 4) i) + nI 1) = fun k => nI (pk c k (i + 1)) := by
  funext k
  by_cases e : k = i / 4
  · subst e
    rw [upd_at9, nI_add]
    unfold pk
    simp only [cnt]
    simp [hp]
  · rw [upd_ne9 e]
    unfold pk
    simp only [cnt]
    rw [if_neg (by rw [decide_eq_false (fun q => e q.symm)]; simp)]
theorem pk_n {c : Nat → Int32} {i : Nat} (hp : pot c i = false) : (fun k => nI (pk c k i)) = fun k => nI (pk c k (i + 1)) := by
  funext k
  unfold pk
  simp only [cnt]
  rw [if_neg (by rw [hp, Bool.and_false]; decide)]
theorem qk_s {c v : Nat → Int32} {i : Nat} {x : Int32} (hx : x = nI (ptx c v i)) : upd (fun k => nI (qk c v k i)) (i / 4) (nI (qk c v (i / 4) i) + x) = fun k => nI (qk c v k (i + 1)) := by
  subst hx
  funext k
  by_cases e : k = i / 4
  · subst e
    rw [upd_at9, nI_add]
    unfold qk
    simp [sm]
  · rw [upd_ne9 e]
    unfold qk
    simp only [sm]
    rw [if_neg (fun q => e q.symm), Nat.add_zero]
theorem pk_16 {c : Nat → Int32} {k : Nat} (hk : k < 4) : pk c k 16 = potc c k := by
  have hz : ∀ a, a < 4 → a ≠ k → cnt (fun i => decide ((4 * a + i) / 4 = k) && pot c (4 * a + i)) 4 = 0 := fun a _ hne => cnt_zero (fun i hi => by rw [decide_eq_false (by omega)]; rfl)
  have hs : cnt (fun i => decide ((4 * k + i) / 4 = k) && pot c (4 * k + i)) 4 = potc c k := cnt_cong (fun i hi => by rw [decide_eq_true (show (4 * k + i) / 4 = k by omega)]; rfl)
  unfold pk
  rw [cnt_4]
  rcases (show k = 0 ∨ k = 1 ∨ k = 2 ∨ k = 3 by omega) with rfl | rfl | rfl | rfl
  · rw [hs, hz 1 (by decide) (by decide), hz 2 (by decide) (by decide), hz 3 (by decide) (by decide)]
    omega
  · rw [hs, hz 0 (by decide) (by decide), hz 2 (by decide) (by decide), hz 3 (by decide) (by decide)]
    omega
  · rw [hs, hz 0 (by decide) (by decide), hz 1 (by decide) (by decide), hz 3 (by decide) (by decide)]
    omega
  · rw [hs, hz 0 (by decide) (by decide), hz 1 (by decide) (by decide), hz 2 (by decide) (by decide)]
    omega
theorem qk_16 {c v : Nat → Int32} {k : Nat} (hk : k < 4) : qk c v k 16 = ptc c v k := by
  have hz : ∀ a, a < 4 → a ≠ k → sm (fun i => if (4 * a + i) / 4 = k then ptx c v (4 * a + i) else 0) 4 = 0 := fun a _ hne => (sm_cg (fun i hi => by rw [if_neg (by omega)])).trans (sm_0 4)
  have hs : sm (fun i => if (4 * k + i) / 4 = k then ptx c v (4 * k + i) else 0) 4 = ptc c v k := sm_cg (fun i hi => by
    rw [if_pos (show (4 * k + i) / 4 = k by omega)]
    unfold ptx ptw
    rw [show (4 * k + i) / 4 = k by omega])
  unfold qk
  rw [sm_4]
  rcases (show k = 0 ∨ k = 1 ∨ k = 2 ∨ k = 3 by omega) with rfl | rfl | rfl | rfl
  · rw [hs, hz 1 (by decide) (by decide), hz 2 (by decide) (by decide), hz 3 (by decide) (by decide)]
    omega
  · rw [hs, hz 0 (by decide) (by decide), hz 2 (by decide) (by decide), hz 3 (by decide) (by decide)]
    omega
  · rw [hs, hz 0 (by decide) (by decide), hz 1 (by decide) (by decide), hz 3 (by decide) (by decide)]
    omega
  · rw [hs, hz 0 (by decide) (by decide), hz 1 (by decide) (by decide), hz 2 (by decide) (by decide)]
    omega
def ovn (c : Nat → Int32) (n : Nat) : Nat := cnt (fun x => decide (potc c x = 4)) n
theorem ovn_le (c : Nat → Int32) (n : Nat) : ovn c n ≤ n := cnt_le _ n
theorem ovn_o {c : Nat → Int32} : (0 < ovn c 4) ↔ over c = true := by
  unfold ovn over
  simp only [cnt, anyl]
  by_cases h0 : potc c 0 = 4 <;> by_cases h1 : potc c 1 = 4 <;> by_cases h2 : potc c 2 = 4 <;> by_cases h3 : potc c 3 = 4 <;> simp [h0, h1, h2, h3]
theorem cCnt_10 {c b v g h : Nat → Int32} {t : Nat} {u z : Int32} {m9 e : Nat} (he : e < 2) : cCnt c b v g h t u z m9 (nI (10 + e)) = nI (ptt c v e) := by
  rcases (show e = 0 ∨ e = 1 by omega) with rfl | rfl <;> rfl
theorem cCnt_11 {c b v g h : Nat → Int32} {t : Nat} {u z : Int32} {m9 e : Nat} (he : e < 2) : cCnt c b v g h t u z m9 (nI (11 - e)) = nI (ptt c v (1 - e)) := by
  rcases (show e = 0 ∨ e = 1 by omega) with rfl | rfl <;> rfl
