def cp9 (f g : Nat → Int32) (a i : Nat) : Nat → Int32 := fun j => if a ≤ j ∧ j < a + i then g (j - a) else f j
theorem cp9_0 (f g : Nat → Int32) (a : Nat) : cp9 f g a 0 = f := by
  funext j
  unfold cp9
  rw [if_neg (by omega)]
theorem cp9_s (f g : Nat → Int32) (a i : Nat) : upd (cp9 f g a i) (a + i) (g i) = cp9 f g a (i + 1) := by
  funext j
  unfold upd cp9
  by_cases h : j = a + i
  · subst h
    rw [if_pos rfl, if_pos (by omega), show a + i - a = i by omega]
  · rw [if_neg h]
    by_cases h2 : a ≤ j ∧ j < a + i
    · rw [if_pos h2, if_pos (by omega)]
    · rw [if_neg h2, if_neg (by omega)]
theorem cp9_s0 (f g : Nat → Int32) (i : Nat) : upd (cp9 f g 0 i) i (g i) = cp9 f g 0 (i + 1) := by
  have h := cp9_s f g 0 i
  rw [Nat.zero_add] at h
  exact h
theorem cp9_hi {f g : Nat → Int32} {a i j : Nat} (h : a + i ≤ j) : cp9 f g a i j = f j := by
  unfold cp9
  rw [if_neg (by omega)]
theorem cp9_lo {f g : Nat → Int32} {i j : Nat} (h : j < i) : cp9 f g 0 i j = g j := by
  unfold cp9
  rw [if_pos (by omega), Nat.sub_zero]
theorem rf_ext {D : va_G} {cl : List vw_C} {cI : ClassId} {ad : Nat → Nat} {N : Nat} {F : Nat → va_E} {H : Heap} {k : Nat} {r ps sl sd ne fa bu r' ps' sl' sd' ne' fa' : Nat → Int32} {hs : Bool} {st ln pt : Nat} {th : Int32}
    (h : va_P D cl (iW ad N (rfSet cI ad F k r ps sl sd ne fa bu hs st ln pt th)) H) (h1 : ∀ i, i < 60 → r i = r' i := by intros; rfl) (h2 : ∀ i, i < 360 → ps i = ps' i := by intros; rfl) (h3 : ∀ i, i < 60 → sl i = sl' i := by intros; rfl) (h4 : ∀ i, i < 60 → sd i = sd' i := by intros; rfl) (h5 : ∀ i, i < 169 → ne i = ne' i := by intros; rfl) (h6 : ∀ i, i < 169 → fa i = fa' i := by intros; rfl) :
    va_P D cl (iW ad N (rfSet cI ad F k r' ps' sl' sd' ne' fa' bu hs st ln pt th)) H := by
  refine iW_ext h (fun i _ => ?_)
  by_cases e1 : i = k + 1
  · exact Or.inr ⟨cI, 60, r, r', by rw [e1]; exact rfSet_at.2.1, by rw [e1]; exact rfSet_at.2.1, h1⟩
  by_cases e2 : i = k + 2
  · exact Or.inr ⟨cI, 360, ps, ps', by rw [e2]; exact rfSet_at.2.2.1, by rw [e2]; exact rfSet_at.2.2.1, h2⟩
  by_cases e3 : i = k + 3
  · exact Or.inr ⟨cI, 60, sl, sl', by rw [e3]; exact rfSet_at.2.2.2.1, by rw [e3]; exact rfSet_at.2.2.2.1, h3⟩
  by_cases e4 : i = k + 4
  · exact Or.inr ⟨cI, 60, sd, sd', by rw [e4]; exact rfSet_at.2.2.2.2.1, by rw [e4]; exact rfSet_at.2.2.2.2.1, h4⟩
  by_cases e5 : i = k + 5
  · exact Or.inr ⟨cI, 169, ne, ne', by rw [e5]; exact rfSet_at.2.2.2.2.2.1, by rw [e5]; exact rfSet_at.2.2.2.2.2.1, h5⟩
  by_cases e6 : i = k + 6
  · exact Or.inr ⟨cI, 169, fa, fa', by rw [e6]; exact rfSet_at.2.2.2.2.2.2.1, by rw [e6]; exact rfSet_at.2.2.2.2.2.2.1, h6⟩
  refine Or.inl ?_
  unfold rfSet
  by_cases e0 : i = k
  · rw [if_pos e0, if_pos e0]
  by_cases e7 : i = k + 7
  · simp [e7]
  · simp [e0, e1, e2, e3, e4, e5, e6, e7]
theorem upd_at9 {f : Nat → Int32} {i : Nat} {x : Int32} : upd f i x i = x := by simp [upd]
theorem upd_ne9 {f : Nat → Int32} {i j : Nat} {x : Int32} (h : j ≠ i) : upd f i x j = f j := by simp [upd, h]
def rly1 (r : Nat → Int32) (w : Nat) : Nat → Int32 := upd (upd r w (-1)) (16 + w) (-1)
def rly (r : Nat → Int32) (w : Nat) (q : Int32) : Nat → Int32 := if q = nI 84 then rly1 r w else upd (upd (rly1 r w) (16 + w) (nI (hgt (rly1 r w) q))) w q
theorem rly1_out {r : Nat → Int32} {w i : Nat} (h1 : i ≠ w) (h2 : i ≠ 16 + w) : rly1 r w i = r i := by
  unfold rly1
  rw [upd_ne9 h2, upd_ne9 h1]
theorem rly_out {r : Nat → Int32} {w i : Nat} {q : Int32} (h1 : i ≠ w) (h2 : i ≠ 16 + w) : rly r w q i = r i := by
  unfold rly
  split
  · exact rly1_out h1 h2
  · rw [upd_ne9 h1, upd_ne9 h2, rly1_out h1 h2]
-- passing the turn
def rps : Nat → (Nat → Int32) → Nat → (Nat → Int32)
  | 0, r, _ => r
  | n + 1, r, t => if upd r 56 (nI ((t + 1) % 4)) (52 + (t + 1) % 4) ≤ 0 then upd (upd r 56 (nI ((t + 1) % 4))) (52 + (t + 1) % 4) (upd r 56 (nI ((t + 1) % 4)) (52 + (t + 1) % 4) - nI 0)
    else rps n (upd (upd r 56 (nI ((t + 1) % 4))) (52 + (t + 1) % 4) (upd r 56 (nI ((t + 1) % 4)) (52 + (t + 1) % 4) - nI 1)) ((t + 1) % 4)
def rpass (r : Nat → Int32) (t : Nat) : Nat → Int32 := if over r = true then r else rps 8 r t
def lsu (r : Nat → Int32) : Nat := ix (r 52) + ix (r 53) + ix (r 54) + ix (r 55)
def lo01 (r : Nat → Int32) : Prop := ∀ i, i < 4 → r (52 + i) = nI 0 ∨ r (52 + i) = nI 1
theorem lsu_le {r : Nat → Int32} (h : lo01 r) : lsu r ≤ 4 := by
  have q : ∀ x : Int32, x = nI 0 ∨ x = nI 1 → ix x ≤ 1 := by
    intro x hx
    rcases hx with rfl | rfl <;> decide
  have h0 := q _ (h 0 (by decide))
  have h1 := q _ (h 1 (by decide))
  have h2 := q _ (h 2 (by decide))
  have h3 := q _ (h 3 (by decide))
  have h0 : ix (r 52) ≤ 1 := h0
  have h1 : ix (r 53) ≤ 1 := h1
  have h2 : ix (r 54) ≤ 1 := h2
  have h3 : ix (r 55) ≤ 1 := h3
  unfold lsu
  omega
theorem lo01_up {r : Nat → Int32} {i : Nat} {x : Int32} (h : lo01 r) (hx : x = nI 0 ∨ x = nI 1) : lo01 (upd r i x) := by
  intro j hj
  by_cases e : 52 + j = i
  · rw [← e, upd_at9]; exact hx
  · rw [upd_ne9 e]; exact h j hj
theorem lo01_56 {r : Nat → Int32} {x : Int32} (h : lo01 r) : lo01 (upd r 56 x) := fun j hj => by
  rw [upd_ne9 (by omega)]
  exact h j hj
theorem lo01_end {r : Nat → Int32} {u : Nat} (hu : u < 4) (h : lo01 r) : lo01 (upd r (52 + u) (r (52 + u) - nI 0)) := lo01_up h (by rcases h u hu with e | e <;> rw [e] <;> decide)
theorem lo01_go {r : Nat → Int32} {u : Nat} (hu : u < 4) (h : lo01 r) (hx : ¬ r (52 + u) ≤ 0) : lo01 (upd r (52 + u) (r (52 + u) - nI 1)) := lo01_up h (by
  rcases h u hu with e | e
  · exact absurd (by rw [e]; decide) hx
  · rw [e]; decide)
theorem lsu_dec {r : Nat → Int32} {u : Nat} (hu : u < 4) (h : lo01 r) (hx : ¬ r (52 + u) ≤ 0) : lsu (upd r (52 + u) (r (52 + u) - nI 1)) + 1 = lsu r := by
  have e : r (52 + u) = nI 1 := by
    rcases h u hu with e | e
    · exact absurd (by rw [e]; decide) hx
    · exact e
  rw [e]
  have z : ix (nI 1 - nI 1) = 0 := by decide
  have o : ix (nI 1) = 1 := by decide
  rcases (show u = 0 ∨ u = 1 ∨ u = 2 ∨ u = 3 by omega) with rfl | rfl | rfl | rfl
  · unfold lsu; simp only [Nat.add_zero] at e ⊢; rw [upd_at9, upd_ne9 (by decide), upd_ne9 (by decide), upd_ne9 (by decide), e, z, o]; omega
  · unfold lsu; simp only [show 52 + 1 = 53 from rfl] at e ⊢; rw [upd_at9, upd_ne9 (by decide), upd_ne9 (by decide), upd_ne9 (by decide), e, z, o]; omega
  · unfold lsu; simp only [show 52 + 2 = 54 from rfl] at e ⊢; rw [upd_at9, upd_ne9 (by decide), upd_ne9 (by decide), upd_ne9 (by decide), e, z, o]; omega
  · unfold lsu; simp only [show 52 + 3 = 55 from rfl] at e ⊢; rw [upd_at9, upd_ne9 (by decide), upd_ne9 (by decide), upd_ne9 (by decide), e, z, o]
theorem lsu_56 {r : Nat → Int32} {x : Int32} : lsu (upd r 56 x) = lsu r := by
  unfold lsu
  rw [upd_ne9 (by decide), upd_ne9 (by decide), upd_ne9 (by decide), upd_ne9 (by decide)]
theorem rps_go {r r2 : Nat → Int32} {t t2 i : Nat} (h1 : rps 8 r t = rps (8 - i) r2 t2 ∧ i + lsu r2 ≤ 4) (hl : lo01 r2) (hx : ¬ upd r2 56 (nI ((t2 + 1) % 4)) (52 + (t2 + 1) % 4) ≤ 0) :
    rps 8 r t = rps (8 - (i + 1)) (upd (upd r2 56 (nI ((t2 + 1) % 4))) (52 + (t2 + 1) % 4) (upd r2 56 (nI ((t2 + 1) % 4)) (52 + (t2 + 1) % 4) - nI 1)) ((t2 + 1) % 4) ∧ (i + 1) + lsu (upd (upd r2 56 (nI ((t2 + 1) % 4))) (52 + (t2 + 1) % 4) (upd r2 56 (nI ((t2 + 1) % 4)) (52 + (t2 + 1) % 4) - nI 1)) ≤ 4 := by
  obtain ⟨a, b⟩ := h1
  have d := lsu_dec (r := upd r2 56 (nI ((t2 + 1) % 4))) (u := (t2 + 1) % 4) (by omega) (lo01_56 hl) hx
  rw [lsu_56] at d
  refine ⟨?_, by omega⟩
  rw [a, show 8 - i = (8 - (i + 1)) + 1 by omega]
  simp only [rps]
  rw [if_neg hx]
theorem rps_end {r r2 : Nat → Int32} {t t2 i : Nat} (h1 : rps 8 r t = rps (8 - i) r2 t2 ∧ i + lsu r2 ≤ 4) (hx : upd r2 56 (nI ((t2 + 1) % 4)) (52 + (t2 + 1) % 4) ≤ 0) :
    rps 8 r t = upd (upd r2 56 (nI ((t2 + 1) % 4))) (52 + (t2 + 1) % 4) (upd r2 56 (nI ((t2 + 1) % 4)) (52 + (t2 + 1) % 4) - nI 0) := by
  rw [h1.1, show 8 - i = (8 - (i + 1)) + 1 by omega]
  simp only [rps]
  rw [if_pos hx]
-- a flight
def rf0 (r : Nat → Int32) (w : Nat) : Nat → Int32 := upd (upd r (32 + w) (r (32 + w) + nI 1)) 58 (upd r (32 + w) (r (32 + w) + nI 1) 58 + nI 1)
def rf1 (r : Nat → Int32) (w : Nat) : Nat → Int32 := upd (upd (rly (rf0 r w) w (nI (bs (w / 4)))) (48 + w / 4) (rly (rf0 r w) w (nI (bs (w / 4))) (48 + w / 4) + nI 1)) (52 + w / 4) (upd (rly (rf0 r w) w (nI (bs (w / 4)))) (48 + w / 4) (rly (rf0 r w) w (nI (bs (w / 4))) (48 + w / 4) + nI 1) (52 + w / 4) + nI 1)
def rfx (r : Nat → Int32) (w : Nat) (q : Int32) (t : Nat) : Nat → Int32 := if q = -1 then rpass (rf1 r w) t else if q = nI 84 then rly (rf0 r w) w q else rpass (rly (rf0 r w) w q) t
theorem rf0_out {r : Nat → Int32} {w i : Nat} (h1 : i ≠ 32 + w) (h2 : i ≠ 58) : rf0 r w i = r i := by
  unfold rf0
  rw [upd_ne9 h2, upd_ne9 h1]
theorem rly0_out {r : Nat → Int32} {w i : Nat} {q : Int32} (hw : w < 16) (h1 : 48 ≤ i) (h2 : i ≠ 58) : rly (rf0 r w) w q i = r i := by
  rw [rly_out (by omega) (by omega), rf0_out (by omega) h2]
theorem rf1_56 {r : Nat → Int32} {w : Nat} (hw : w < 16) : rf1 r w 56 = r 56 := by
  unfold rf1
  rw [upd_ne9 (by omega), upd_ne9 (by omega), rly0_out hw (by omega) (by omega)]
theorem rly0_lo {r : Nat → Int32} {w : Nat} {q : Int32} (hw : w < 16) (h : lo01 r) : lo01 (rly (rf0 r w) w q) := fun i hi => by
  rw [rly0_out hw (by omega) (by omega)]
  exact h i hi
theorem rf1_lo {r : Nat → Int32} {w : Nat} (hw : w < 16) (h : lo01 r) (h0 : r (52 + w / 4) = nI 0) : lo01 (rf1 r w) := by
  unfold rf1
  refine lo01_up (fun i hi => ?_) ?_
  · rw [upd_ne9 (by omega), rly0_out hw (by omega) (by omega)]
    exact h i hi
  · rw [upd_ne9 (by omega), rly0_out hw (by omega) (by omega), h0]
    exact Or.inr (by decide)
-- a lift
def rlf (r : Nat → Int32) (q n d : Nat) : Nat → (Nat → Int32)
  | 0 => r
  | k + 1 => rly (rlf r q n d k) (ix (wat (rlf r q n d k) (nI q) (nI (hgt r (nI q) - n + k)))) (rbs q d)
def rlW (r : Nat → Int32) (q n d : Nat) : Prop := ∀ k, k < n → wk (wat (rlf r q n d k) (nI q) (nI (hgt r (nI q) - n + k))) = true
theorem rlf_hi {r : Nat → Int32} {q n d i : Nat} (hw : rlW r q n d) (hi : 32 ≤ i) : ∀ k, k ≤ n → rlf r q n d k i = r i
  | 0, _ => rfl
  | k + 1, h => by
    have h1 := wk_lt (hw k (by omega))
    simp only [rlf]
    rw [rly_out (by omega) (by omega)]
    exact rlf_hi hw hi k (by omega)
def rlx (r : Nat → Int32) (q n d t : Nat) : Nat → Int32 := rpass (upd (rlf r q n d n) 59 (rlf r q n d n 59 + nI 1)) t
theorem rlx_56 {r : Nat → Int32} {q n d : Nat} (hw : rlW r q n d) : upd (rlf r q n d n) 59 (rlf r q n d n 59 + nI 1) 56 = r 56 := by
  rw [upd_ne9 (by omega), rlf_hi hw (by omega) n (Nat.le_refl n)]
theorem rlx_lo {r : Nat → Int32} {q n d : Nat} (hw : rlW r q n d) (h : lo01 r) : lo01 (upd (rlf r q n d n) 59 (rlf r q n d n 59 + nI 1)) := fun i hi => by
  rw [upd_ne9 (by omega), rlf_hi hw (by omega) n (Nat.le_refl n)]
  exact h i hi
-- what is saved
def rcP (ps r : Nat → Int32) (st : Nat) : Nat → Int32 := if st = 6 then cp9 (cp9 ps (fun j9 => ps (60 + j9)) 0 300) r (60 * (st - 1)) 60 else cp9 ps r (60 * st) 60
def rcS (st : Nat) : Nat := if st = 6 then st - 1 + 1 else st + 1
-- the text
def tks (bu : Nat → Int32) (ln pt a b : Nat) : Bool := decide (pt < ln) && btw (bu pt) (nI a) (nI b)
def tkn (bu : Nat → Int32) (ln pt a b : Nat) : Nat := if tks bu ln pt a b = true then pt + 1 else pt
