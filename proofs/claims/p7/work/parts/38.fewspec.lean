/-- where the flight k of a wink leads from a cell -/
def ldk (w c k : Nat) : Int32 := ldg (nI c) (nI (k / 9)) (stp w (k % 9 + 1))
def dirp (w c : Nat) : Prop := ∃ k, k < 72 ∧ ldk w c k = nI 84
/-- one flight leads to the cup; or none does, and two do -/
def fwr (w q n : Nat) : Prop := (n = 1 ∧ dirp w q) ∨ (n = 2 ∧ ¬ dirp w q ∧ ∃ k c1, k < 72 ∧ c1 < 169 ∧ ldk w q k = nI c1 ∧ dirp w c1)
def fwB (w : Nat) (f e : Nat → Int32) (fl i : Nat) : Prop := ∀ c, c < i → f c = nI (fl - 1) → ∀ k, k < 72 → ldk w c k = -1 ∨ e (ix (ldk w c k)) ≠ -1
def fwC (w : Nat) (f e : Nat → Int32) (fl i p : Nat) : Prop := f i = nI (fl - 1) → ∀ k, k < p → ldk w i k = -1 ∨ e (ix (ldk w i k)) ≠ -1
def fwA (w q : Nat) (e : Nat → Int32) : Prop := ∀ c, c < 169 → e c = -1 ∨ (e c = nI 0 ∧ c = q) ∨ (e c = nI 1 ∧ ∃ k, k < 72 ∧ ldk w q k = nI c)
def fw1 (q : Nat) (e : Nat → Int32) : Prop := ∀ c, c < 169 → e c = if c = q then nI 0 else -1
def fw2 (w q : Nat) (e : Nat → Int32) : Prop := ¬ dirp w q ∧ ∃ c1, c1 < 169 ∧ e c1 = nI 1 ∧ dirp w c1
theorem fw1_s {q i : Nat} {e : Nat → Int32} (x : Int32) (h : ∀ c, c < i → e c = if c = q then nI 0 else -1) (hx : x = if i = q then nI 0 else -1) : ∀ c, c < i + 1 → upd e i x c = if c = q then nI 0 else -1 := by
  intro c hc
  by_cases ec : c = i
  · rw [ec, upd_at9, hx]
  · rw [upd_ne9 ec]
    exact h c (by omega)
theorem fw_ne {fl : Nat} (h : fl = 1 ∨ fl = 2) : nI fl ≠ -1 := by rcases h with rfl | rfl <;> decide
theorem upd_mono {e : Nat → Int32} {i x fl : Nat} (h : fl = 1 ∨ fl = 2) (hx : e x ≠ -1) : upd e i (nI fl) x ≠ -1 := by
  by_cases ei : x = i
  · rw [ei, upd_at9]; exact fw_ne h
  · rw [upd_ne9 ei]; exact hx
theorem fwB_up {w : Nat} {f e : Nat → Int32} {fl i j : Nat} (h : fl = 1 ∨ fl = 2) (hB : fwB w f e fl i) : fwB w f (upd e j (nI fl)) fl i := fun c hc hf k hk => (hB c hc hf k hk).imp_right (upd_mono h)
theorem fwC_s {w : Nat} {f e : Nat → Int32} {fl i p : Nat} (hC : fwC w f e fl i p) (hn : ldk w i p = -1 ∨ e (ix (ldk w i p)) ≠ -1) : fwC w f e fl i (p + 1) := fun hf k hk => by
  by_cases ek : k = p
  · rw [ek]; exact hn
  · exact hC hf k (by omega)
theorem fwC_up {w : Nat} {f e : Nat → Int32} {fl i p : Nat} (h : fl = 1 ∨ fl = 2) (hC : fwC w f e fl i p) : fwC w f (upd e (ix (ldk w i p)) (nI fl)) fl i (p + 1) :=
  fwC_s (fun hf k hk => (hC hf k hk).imp_right (upd_mono h)) (Or.inr (by rw [upd_at9]; exact fw_ne h))
theorem fwB_s {w : Nat} {f e : Nat → Int32} {fl i p : Nat} (hB : fwB w f e fl i) (hC : fwC w f e fl i p) (hp : p = 72 ∨ f i ≠ nI (fl - 1)) : fwB w f e fl (i + 1) := fun c hc hf k hk => by
  by_cases ec : c = i
  · subst ec
    rcases hp with hp | hp
    · exact hC hf k (by omega)
    · exact absurd hf hp
  · exact hB c (by omega) hf k hk
theorem fwA_1 {w q : Nat} {e : Nat → Int32} (h : fw1 q e) : fwA w q e := fun c hc => by
  rw [h c hc]
  by_cases ec : c = q
  · rw [if_pos ec]; exact Or.inr (Or.inl ⟨rfl, ec⟩)
  · rw [if_neg ec]; exact Or.inl rfl
theorem fwA_up {w q i p : Nat} {f e : Nat → Int32} (hA : fwA w q e) (hf : f i = nI 0) (hfe : ∀ c, c < 169 → f c = if c = q then nI 0 else -1) (hi : i < 169) (hp : p < 72) (hc : cell9 (ldk w i p)) : fwA w q (upd e (ix (ldk w i p)) (nI 1)) := fun c hc9 => by
  by_cases ec : c = ix (ldk w i p)
  · have hiq : i = q := by
      have h9 := hfe i hi
      rw [hf] at h9
      by_cases eq : i = q
      · exact eq
      · rw [if_neg eq] at h9; exact absurd h9 (by decide)
    rw [ec, upd_at9]
    refine Or.inr (Or.inr ⟨rfl, p, hp, ?_⟩)
    rw [← hiq]
    exact (cell9_ix hc).1
  · rw [upd_ne9 ec]
    exact hA c hc9
theorem nI_ne_m1 {q : Nat} (hq : q < 169) : nI q ≠ -1 := by
  intro h
  have h1 : ¬ nI q < 0 := nI_pos (by omega)
  rw [h] at h1
  exact h1 (by decide)
theorem nI84 {q : Nat} (hq : q < 169) : ix (nI q) = q := ix_nI (by omega)
/-- the end of the first round -/
theorem fw_r1 {w q n : Nat} {f e : Nat → Int32} (hfw : fwr w q n) (hB : fwB w f e 1 169) (hA : fwA w q e) (hf : fw1 q f) (hq : q < 169) (h84 : e 84 = -1) : n = 2 ∧ ¬ dirp w q ∧ ∃ c1, c1 < 169 ∧ c1 ≠ q ∧ e c1 = nI 1 ∧ dirp w c1 := by
  have hfq : f q = nI (1 - 1) := by rw [hf q hq, if_pos rfl]
  have hnd : ¬ dirp w q := by
    rintro ⟨k, hk, hl⟩
    rcases hB q hq hfq k hk with h | h
    · rw [hl] at h; exact absurd h (by decide)
    · rw [hl, nI84 (by decide)] at h; exact h h84
  rcases hfw with ⟨-, h⟩ | ⟨h2, -, k, c1, hk, hc, hl, hd⟩
  · exact absurd h hnd
  · refine ⟨h2, hnd, c1, hc, ?_, ?_, hd⟩
    · intro e9; rw [e9] at hd; exact hnd hd
    · have h3 : e c1 ≠ -1 := by
        rcases hB q hq hfq k hk with h | h
        · rw [hl] at h
          exact absurd h (nI_ne_m1 hc)
        · rw [hl, nI84 hc] at h; exact h
      rcases hA c1 hc with h | ⟨-, h⟩ | ⟨h, -⟩
      · exact absurd h h3
      · rw [h] at hd; exact absurd hd hnd
      · exact h
theorem fw_ret1 {w q n : Nat} {e : Nat → Int32} (hfw : fwr w q n) (hA : fwA w q e) (h84q : q ≠ 84) (h84 : e 84 ≠ -1) : n = 1 := by
  rcases hA 84 (by decide) with h | ⟨-, h⟩ | ⟨-, h⟩
  · exact absurd h h84
  · exact absurd h.symm h84q
  · rcases hfw with ⟨h1, -⟩ | ⟨-, h2, -⟩
    · exact h1
    · exact absurd h h2
theorem fw_ret2 {w q n : Nat} {e : Nat → Int32} (hfw : fwr w q n) (h : fw2 w q e) : n = 2 := by
  rcases hfw with ⟨-, h1⟩ | ⟨h2, -⟩
  · exact absurd h1 h.1
  · exact h2
theorem fw_r2 {w q : Nat} {f e e2 : Nat → Int32} (h : fw2 w q e2) (hfe : ∀ c, c < 169 → f c = e2 c) (hB : fwB w f e 2 169) (h84 : e 84 = -1) : False := by
  obtain ⟨-, c1, hc, h1, k, hk, hl⟩ := h
  rcases hB c1 hc (by rw [hfe c1 hc, h1]) k hk with h | h
  · rw [hl] at h; exact absurd h (by decide)
  · rw [hl, nI84 (by decide)] at h; exact h h84
