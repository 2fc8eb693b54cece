def rfAt (cI : ClassId) (ad : Nat → Nat) (F : Nat → va_E) (k : Nat) (r : Nat → Int32) (ps : Nat → Int32) (sl : Nat → Int32) (sd : Nat → Int32) (ne : Nat → Int32) (fa : Nat → Int32) (bu : Nat → Int32) (hs : Bool) (st : Nat) (ln : Nat) (pt : Nat) (th : Int32) : Prop := F k = .inr (6, [.ref (ad (k + 1)), .ref (ad (k + 2)), .ref (ad (k + 3)), .ref (ad (k + 4)), .ref (ad (k + 5)), .ref (ad (k + 6)), .ref (ad (k + 7)), .int (bI hs), .int (nI st), .int (nI ln), .int (nI pt), .int th]) ∧ F (k + 1) = .inl (cI, 60, .inl r) ∧ F (k + 2) = .inl (cI, 360, .inl ps) ∧ F (k + 3) = .inl (cI, 60, .inl sl) ∧ F (k + 4) = .inl (cI, 60, .inl sd) ∧ F (k + 5) = .inl (cI, 169, .inl ne) ∧ F (k + 6) = .inl (cI, 169, .inl fa) ∧ F (k + 7) = .inl (cI, 60, .inl bu)
def rfSet (cI : ClassId) (ad : Nat → Nat) (F : Nat → va_E) (k : Nat) (r : Nat → Int32) (ps : Nat → Int32) (sl : Nat → Int32) (sd : Nat → Int32) (ne : Nat → Int32) (fa : Nat → Int32) (bu : Nat → Int32) (hs : Bool) (st : Nat) (ln : Nat) (pt : Nat) (th : Int32) : Nat → va_E := fun i => if i = k then .inr (6, [.ref (ad (k + 1)), .ref (ad (k + 2)), .ref (ad (k + 3)), .ref (ad (k + 4)), .ref (ad (k + 5)), .ref (ad (k + 6)), .ref (ad (k + 7)), .int (bI hs), .int (nI st), .int (nI ln), .int (nI pt), .int th]) else if i = k + 1 then .inl (cI, 60, .inl r) else if i = k + 2 then .inl (cI, 360, .inl ps) else if i = k + 3 then .inl (cI, 60, .inl sl) else if i = k + 4 then .inl (cI, 60, .inl sd) else if i = k + 5 then .inl (cI, 169, .inl ne) else if i = k + 6 then .inl (cI, 169, .inl fa) else if i = k + 7 then .inl (cI, 60, .inl bu) else F i
section
variable {cI : ClassId} {ad : Nat → Nat} {F : Nat → va_E} {k : Nat} {r : Nat → Int32} {ps : Nat → Int32} {sl : Nat → Int32} {sd : Nat → Int32} {ne : Nat → Int32} {fa : Nat → Int32} {bu : Nat → Int32} {hs : Bool} {st : Nat} {ln : Nat} {pt : Nat} {th : Int32} {r' : Nat → Int32} {ps' : Nat → Int32} {sl' : Nat → Int32} {sd' : Nat → Int32} {ne' : Nat → Int32} {fa' : Nat → Int32} {bu' : Nat → Int32} {hs' : Bool} {st' : Nat} {ln' : Nat} {pt' : Nat} {th' : Int32}
theorem rfSet_self (H : rfAt cI ad F k r ps sl sd ne fa bu hs st ln pt th) : rfSet cI ad F k r ps sl sd ne fa bu hs st ln pt th = F := by
  funext i
  obtain ⟨h0, h1, h2, h3, h4, h5, h6, h7⟩ := H
  unfold rfSet
  by_cases e0 : i = k
  · rw [if_pos e0, e0, h0]
  rw [if_neg e0]
  by_cases e1 : i = k + 1
  · rw [if_pos e1, e1, h1]
  rw [if_neg e1]
  by_cases e2 : i = k + 2
  · rw [if_pos e2, e2, h2]
  rw [if_neg e2]
  by_cases e3 : i = k + 3
  · rw [if_pos e3, e3, h3]
  rw [if_neg e3]
  by_cases e4 : i = k + 4
  · rw [if_pos e4, e4, h4]
  rw [if_neg e4]
  by_cases e5 : i = k + 5
  · rw [if_pos e5, e5, h5]
  rw [if_neg e5]
  by_cases e6 : i = k + 6
  · rw [if_pos e6, e6, h6]
  rw [if_neg e6]
  by_cases e7 : i = k + 7
  · rw [if_pos e7, e7, h7]
  rw [if_neg e7]
theorem rfSet_out {i : Nat} (hi : i < k ∨ k + 7 < i) : rfSet cI ad F k r ps sl sd ne fa bu hs st ln pt th i = F i := by
  unfold rfSet
  rw [if_neg (by omega), if_neg (by omega), if_neg (by omega), if_neg (by omega), if_neg (by omega), if_neg (by omega), if_neg (by omega), if_neg (by omega)]
theorem rfSet_at : rfAt cI ad (rfSet cI ad F k r ps sl sd ne fa bu hs st ln pt th) k r ps sl sd ne fa bu hs st ln pt th := by
  refine ⟨?_, ?_, ?_, ?_, ?_, ?_, ?_, ?_⟩
  · simp [rfSet]
  · simp [rfSet]
  · simp [rfSet]
  · simp [rfSet]
  · simp [rfSet]
  · simp [rfSet]
  · simp [rfSet]
  · simp [rfSet]
theorem rfSet_rfSet : rfSet cI ad (rfSet cI ad F k r ps sl sd ne fa bu hs st ln pt th) k r' ps' sl' sd' ne' fa' bu' hs' st' ln' pt' th' = rfSet cI ad F k r' ps' sl' sd' ne' fa' bu' hs' st' ln' pt' th' := by
  funext i
  by_cases e0 : i = k
  · simp [rfSet, e0]
  by_cases e1 : i = k + 1
  · simp [rfSet, e1]
  by_cases e2 : i = k + 2
  · simp [rfSet, e2]
  by_cases e3 : i = k + 3
  · simp [rfSet, e3]
  by_cases e4 : i = k + 4
  · simp [rfSet, e4]
  by_cases e5 : i = k + 5
  · simp [rfSet, e5]
  by_cases e6 : i = k + 6
  · simp [rfSet, e6]
  by_cases e7 : i = k + 7
  · simp [rfSet, e7]
  simp [rfSet, e0, e1, e2, e3, e4, e5, e6, e7]
theorem rfSet_u0 : va_up (rfSet cI ad F k r ps sl sd ne fa bu hs st ln pt th) (k) (.inr (6, [.ref (ad (k + 1)), .ref (ad (k + 2)), .ref (ad (k + 3)), .ref (ad (k + 4)), .ref (ad (k + 5)), .ref (ad (k + 6)), .ref (ad (k + 7)), .int (bI hs'), .int (nI st'), .int (nI ln'), .int (nI pt'), .int th'])) = rfSet cI ad F k r ps sl sd ne fa bu hs' st' ln' pt' th' := by
  funext i
  by_cases e0 : i = k
  · simp [va_up, rfSet, e0]
  by_cases e1 : i = k + 1
  · simp [va_up, rfSet, e1]
  by_cases e2 : i = k + 2
  · simp [va_up, rfSet, e2]
  by_cases e3 : i = k + 3
  · simp [va_up, rfSet, e3]
  by_cases e4 : i = k + 4
  · simp [va_up, rfSet, e4]
  by_cases e5 : i = k + 5
  · simp [va_up, rfSet, e5]
  by_cases e6 : i = k + 6
  · simp [va_up, rfSet, e6]
  by_cases e7 : i = k + 7
  · simp [va_up, rfSet, e7]
  simp [va_up, rfSet, e0, e1, e2, e3, e4, e5, e6, e7]
theorem rfSet_u1 : va_up (rfSet cI ad F k r ps sl sd ne fa bu hs st ln pt th) (k + 1) (.inl (cI, 60, .inl r')) = rfSet cI ad F k r' ps sl sd ne fa bu hs st ln pt th := by
  funext i
  by_cases e0 : i = k
  · simp [va_up, rfSet, e0]
  by_cases e1 : i = k + 1
  · simp [va_up, rfSet, e1]
  by_cases e2 : i = k + 2
  · simp [va_up, rfSet, e2]
  by_cases e3 : i = k + 3
  · simp [va_up, rfSet, e3]
  by_cases e4 : i = k + 4
  · simp [va_up, rfSet, e4]
  by_cases e5 : i = k + 5
  · simp [va_up, rfSet, e5]
  by_cases e6 : i = k + 6
  · simp [va_up, rfSet, e6]
  by_cases e7 : i = k + 7
  · simp [va_up, rfSet, e7]
  simp [va_up, rfSet, e0, e1, e2, e3, e4, e5, e6, e7]
theorem rfSet_u2 : va_up (rfSet cI ad F k r ps sl sd ne fa bu hs st ln pt th) (k + 2) (.inl (cI, 360, .inl ps')) = rfSet cI ad F k r ps' sl sd ne fa bu hs st ln pt th := by
  funext i
  by_cases e0 : i = k
  · simp [va_up, rfSet, e0]
  by_cases e1 : i = k + 1
  · simp [va_up, rfSet, e1]
  by_cases e2 : i = k + 2
  · simp [va_up, rfSet, e2]
  by_cases e3 : i = k + 3
  · simp [va_up, rfSet, e3]
  by_cases e4 : i = k + 4
  · simp [va_up, rfSet, e4]
  by_cases e5 : i = k + 5
  · simp [va_up, rfSet, e5]
  by_cases e6 : i = k + 6
  · simp [va_up, rfSet, e6]
  by_cases e7 : i = k + 7
  · simp [va_up, rfSet, e7]
  simp [va_up, rfSet, e0, e1, e2, e3, e4, e5, e6, e7]
theorem rfSet_u3 : va_up (rfSet cI ad F k r ps sl sd ne fa bu hs st ln pt th) (k + 3) (.inl (cI, 60, .inl sl')) = rfSet cI ad F k r ps sl' sd ne fa bu hs st ln pt th := by
  funext i
  by_cases e0 : i = k
  · simp [va_up, rfSet, e0]
  by_cases e1 : i = k + 1
  · simp [va_up, rfSet, e1]
  by_cases e2 : i = k + 2
  · simp [va_up, rfSet, e2]
  by_cases e3 : i = k + 3
  · simp [va_up, rfSet, e3]
  by_cases e4 : i = k + 4
  · simp [va_up, rfSet, e4]
  by_cases e5 : i = k + 5
  · simp [va_up, rfSet, e5]
  by_cases e6 : i = k + 6
  · simp [va_up, rfSet, e6]
  by_cases e7 : i = k + 7
  · simp [va_up, rfSet, e7]
  simp [va_up, rfSet, e0, e1, e2, e3, e4, e5, e6, e7]
theorem rfSet_u4 : va_up (rfSet cI ad F k r ps sl sd ne fa bu hs st ln pt th) (k + 4) (.inl (cI, 60, .inl sd')) = rfSet cI ad F k r ps sl sd' ne fa bu hs st ln pt th := by
  funext i
  by_cases e0 : i = k
  · simp [va_up, rfSet, e0]
  by_cases e1 : i = k + 1
  · simp [va_up, rfSet, e1]
  by_cases e2 : i = k + 2
  · simp [va_up, rfSet, e2]
  by_cases e3 : i = k + 3
  · simp [va_up, rfSet, e3]
  by_cases e4 : i = k + 4
  · simp [va_up, rfSet, e4]
  by_cases e5 : i = k + 5
  · simp [va_up, rfSet, e5]
  by_cases e6 : i = k + 6
  · simp [va_up, rfSet, e6]
  by_cases e7 : i = k + 7
  · simp [va_up, rfSet, e7]
  simp [va_up, rfSet, e0, e1, e2, e3, e4, e5, e6, e7]
theorem rfSet_u5 : va_up (rfSet cI ad F k r ps sl sd ne fa bu hs st ln pt th) (k + 5) (.inl (cI, 169, .inl ne')) = rfSet cI ad F k r ps sl sd ne' fa bu hs st ln pt th := by
  funext i
  by_cases e0 : i = k
  · simp [va_up, rfSet, e0]
  by_cases e1 : i = k + 1
  · simp [va_up, rfSet, e1]
  by_cases e2 : i = k + 2
  · simp [va_up, rfSet, e2]
  by_cases e3 : i = k + 3
  · simp [va_up, rfSet, e3]
  by_cases e4 : i = k + 4
  · simp [va_up, rfSet, e4]
  by_cases e5 : i = k + 5
  · simp [va_up, rfSet, e5]
  by_cases e6 : i = k + 6
  · simp [va_up, rfSet, e6]
  by_cases e7 : i = k + 7
  · simp [va_up, rfSet, e7]
  simp [va_up, rfSet, e0, e1, e2, e3, e4, e5, e6, e7]
theorem rfSet_u6 : va_up (rfSet cI ad F k r ps sl sd ne fa bu hs st ln pt th) (k + 6) (.inl (cI, 169, .inl fa')) = rfSet cI ad F k r ps sl sd ne fa' bu hs st ln pt th := by
  funext i
  by_cases e0 : i = k
  · simp [va_up, rfSet, e0]
  by_cases e1 : i = k + 1
  · simp [va_up, rfSet, e1]
  by_cases e2 : i = k + 2
  · simp [va_up, rfSet, e2]
  by_cases e3 : i = k + 3
  · simp [va_up, rfSet, e3]
  by_cases e4 : i = k + 4
  · simp [va_up, rfSet, e4]
  by_cases e5 : i = k + 5
  · simp [va_up, rfSet, e5]
  by_cases e6 : i = k + 6
  · simp [va_up, rfSet, e6]
  by_cases e7 : i = k + 7
  · simp [va_up, rfSet, e7]
  simp [va_up, rfSet, e0, e1, e2, e3, e4, e5, e6, e7]
theorem rfSet_u7 : va_up (rfSet cI ad F k r ps sl sd ne fa bu hs st ln pt th) (k + 7) (.inl (cI, 60, .inl bu')) = rfSet cI ad F k r ps sl sd ne fa bu' hs st ln pt th := by
  funext i
  by_cases e0 : i = k
  · simp [va_up, rfSet, e0]
  by_cases e1 : i = k + 1
  · simp [va_up, rfSet, e1]
  by_cases e2 : i = k + 2
  · simp [va_up, rfSet, e2]
  by_cases e3 : i = k + 3
  · simp [va_up, rfSet, e3]
  by_cases e4 : i = k + 4
  · simp [va_up, rfSet, e4]
  by_cases e5 : i = k + 5
  · simp [va_up, rfSet, e5]
  by_cases e6 : i = k + 6
  · simp [va_up, rfSet, e6]
  by_cases e7 : i = k + 7
  · simp [va_up, rfSet, e7]
  simp [va_up, rfSet, e0, e1, e2, e3, e4, e5, e6, e7]
theorem rfAt_keep {G : Nat → va_E} (H : rfAt cI ad F k r ps sl sd ne fa bu hs st ln pt th) (hG : ∀ i, k ≤ i → i ≤ k + 7 → G i = F i) : rfAt cI ad G k r ps sl sd ne fa bu hs st ln pt th := by
  obtain ⟨h0, h1, h2, h3, h4, h5, h6, h7⟩ := H
  exact ⟨by rw [hG _ (by omega) (by omega)]; exact h0, by rw [hG _ (by omega) (by omega)]; exact h1, by rw [hG _ (by omega) (by omega)]; exact h2, by rw [hG _ (by omega) (by omega)]; exact h3, by rw [hG _ (by omega) (by omega)]; exact h4, by rw [hG _ (by omega) (by omega)]; exact h5, by rw [hG _ (by omega) (by omega)]; exact h6, by rw [hG _ (by omega) (by omega)]; exact h7⟩
end
section RS0
variable {p : Program} {l : Launch} {e : Env} {R : Room} {s : State} {m : MethodId} {args : Array Value} {below : List Frame} {meth : Method} {c : Code} {H : Heap} {locs : List Loc} {cells slots : Nat} {Q : State → Prop}
variable {cc : ByteArray} {pc : Nat} {ls : Array Slot} {rest : List Value}
theorem n_iadd0 (hx : p.tables.exec = Jvm.exec) (hb : c.code = cc) {b : Nat} (hdg : decode cc pc = .ok (.iadd, 1)) (k : W p l e R s m args below meth c H locs cells slots Q (F0 m (pc + 1) ls (.int (nI b) :: rest))) : W p l e R s m args below meth c H locs cells slots Q (F0 m pc ls (.int (nI b) :: .int (nI 0) :: rest)) :=
  n_iadd hx hb hdg (by rw [Nat.zero_add]; exact k)
end RS0
theorem btw_of {x : Int32} {a m : Nat} (ha : a < 2 ^ 31) (hm : m < 2 ^ 31) (h : btw x (nI a) (nI m) = true) : ∃ j : Nat, x = nI j ∧ a ≤ j ∧ j ≤ m := by
  simp only [btw, Bool.and_eq_true, Bool.not_eq_true', decide_eq_false_iff_not] at h
  obtain ⟨h1, h2⟩ := h
  have h0 : ¬ x < 0 := by
    intro q
    apply h1
    rw [Int32.lt_iff_toInt_lt] at q ⊢
    rw [nI_toInt ha]
    have : (0 : Int32).toInt = 0 := rfl
    omega
  obtain ⟨j, hj, rfl⟩ := nI_of h0
  exact ⟨j, rfl, Nat.not_lt.mp fun q => h1 ((nI_ltI hj ha).mpr q), Nat.not_lt.mp fun q => h2 ((nI_ltI hm hj).mpr q)⟩
theorem btw_eq {x : Int32} {a m : Nat} (h : btw x (nI a) (nI m) = true) (ha : a < 2 ^ 31 := by decide) (hm : m < 2 ^ 31 := by decide) : x = nI (ix x) := by
  obtain ⟨j, rfl, h1, h2⟩ := btw_of ha hm h
  rw [ix_nI (by omega)]
theorem btw_le {x : Int32} {a m : Nat} (h : btw x (nI a) (nI m) = true) (ha : a < 2 ^ 31 := by decide) (hm : m < 2 ^ 31 := by decide) : a ≤ ix x ∧ ix x ≤ m := by
  obtain ⟨j, rfl, h1, h2⟩ := btw_of ha hm h
  rw [ix_nI (by omega)]
  exact ⟨h1, h2⟩
theorem btw_nI {j a m : Nat} (h : a ≤ j ∧ j ≤ m) (hm : m < 2 ^ 31 := by decide) : btw (nI j) (nI a) (nI m) = true := by
  have h1 : ¬ nI j < nI a := fun q => absurd ((nI_ltI (by omega) (by omega)).mp q) (by omega)
  have h2 : ¬ nI m < nI j := fun q => absurd ((nI_ltI (by omega) (by omega)).mp q) (by omega)
  simp [btw, h1, h2]
theorem btw_wk (x : Int32) : btw x (nI 0) (nI 15) = wk x := by
  rw [Bool.eq_iff_iff]
  constructor
  · intro h
    obtain ⟨j, rfl, h1, h2⟩ := btw_of (by decide) (by decide) h
    exact wk_nI (by omega)
  · intro h
    obtain ⟨j, hj, rfl⟩ := wk_of h
    exact btw_nI (by omega)
theorem lt13 (x : Int32) : (nI 12 < x) ↔ (nI 13 ≤ x) := by
  rw [Int32.lt_iff_toInt_lt, Int32.le_iff_toInt_le, nI_toInt (by decide), nI_toInt (by decide)]
  omega
theorem btw_on (x y : Int32) : (btw x (nI 0) (nI 12) && btw y (nI 0) (nI 12)) = on x y := by
  have e : ∀ z : Int32, decide (nI 12 < z) = decide (nI 13 ≤ z) := fun z => by simp only [lt13]
  simp only [btw, on, e]
  rfl
theorem on_tt {x y : Int32} (h1 : btw x (nI 0) (nI 12) = true) (h2 : btw y (nI 0) (nI 12) = true) : on x y = true := by rw [← btw_on, h1, h2]; rfl
theorem on_f1 {x y : Int32} (h1 : btw x (nI 0) (nI 12) = false) : on x y = false := by rw [← btw_on, h1]; rfl
theorem on_f2 {x y : Int32} (h2 : btw y (nI 0) (nI 12) = false) : on x y = false := by rw [← btw_on, h2, Bool.and_false]
theorem ldg_nI {q : Nat} (hq : q < 2 ^ 31) (d : Int32) (f : Nat) : ldg (nI q) d f = ldL f (nI (q % 13)) (nI (q / 13)) (ea d) (so d) false := by
  rw [ldg, pk_rem hq (by decide) (by decide), pk_div hq (by decide) (by decide)]
theorem ea_0 {d : Nat} (h : d < 8) (q : d % 4 = 0) : ea (nI d) = nI 0 := (show ∀ d, d < 8 → d % 4 = 0 → ea (nI d) = nI 0 by decide) d h q
theorem ea_1 {d : Nat} (h : d < 8) (q : d % 4 ≠ 0) (z : d < 4) : ea (nI d) = nI 1 := (show ∀ d, d < 8 → d % 4 ≠ 0 → d < 4 → ea (nI d) = nI 1 by decide) d h q z
theorem ea_2 {d : Nat} (h : d < 8) (q : d % 4 ≠ 0) (z : 4 ≤ d) : ea (nI d) = -1 := (show ∀ d, d < 8 → d % 4 ≠ 0 → 4 ≤ d → ea (nI d) = -1 by decide) d h q z
theorem so_0 {d : Nat} (q : d = 2 ∨ d = 6) : so (nI d) = nI 0 := by rcases q with rfl | rfl <;> decide
theorem so_1 {d : Nat} (h : d < 8) (q : d ≠ 2) (z : d ≠ 6) (a : 2 < d) (b : d < 6) : so (nI d) = nI 1 := (show ∀ d, d < 8 → d ≠ 2 → d ≠ 6 → 2 < d → d < 6 → so (nI d) = nI 1 by decide) d h q z a b
theorem so_2 {d : Nat} (h : d < 8) (q : d ≠ 2) (z : d ≠ 6) (a : d ≤ 2 ∨ 6 ≤ d) : so (nI d) = -1 := (show ∀ d, d < 8 → d ≠ 2 → d ≠ 6 → (d ≤ 2 ∨ 6 ≤ d) → so (nI d) = -1 by decide) d h q z a
-- the reference's row
def rcv (r : Nat → Int32) (w : Nat) : Bool := !(pot r w) && !(decide (nI (hgt r (r w)) - nI 1 ≤ r (16 + w)))
def rwt (r : Nat → Int32) (q p : Int32) (i : Nat) : Bool := decide (r i = q) && decide (r (16 + i) = p)
def wat (r : Nat → Int32) (q p : Int32) : Int32 := fst (rwt r q p) 16 0
def rfr (r : Nat → Int32) (k w : Nat) : Bool := !(pot r (4 * k + w)) && (!(rcv r (4 * k + w)) && !(decide (r (4 * k + w) = nI (bs k))))
def rpt (r : Nat → Int32) (k : Nat) : Nat := 3 * potc r k + cnt (rfr r k) 4
def rtm (r : Nat → Int32) (k : Nat) : Nat := rpt r k + rpt r (k + 2)
def rwn (r : Nat → Int32) (w : Nat) : Nat := if over r = true then 1 else if r 56 = nI (w / 4) then (if pot r w = true then 3 else if rcv r w = true then 4 else 0) else 2
def rcc (r : Nat → Int32) (k : Nat) : Nat := cnt (fun i => rcv r (4 * k + i)) 4
def rbw (r : Nat → Int32) (w o : Nat) : Bool := !(pot r w) && (decide (r o = r w) && !(decide (r (16 + o) ≤ r (16 + w))))
def rbo (r : Nat → Int32) (k w : Nat) : Nat → Bool
  | 0 => false
  | n + 1 => if rbo r k w n = true then true else rbw r w (4 * k + n)
def rbl (r : Nat → Int32) (k : Nat) : Nat := cnt (fun w => rbo r k w 4 && !(decide (w / 4 = k))) 16
def rpl (r : Nat → Int32) : Nat := cnt (fun w => decide (r (16 + w) = 0)) 16
def rhi (r : Nat → Int32) : Nat → Int32
  | 0 => nI 0
  | n + 1 => if r (16 + n) + nI 1 ≤ rhi r n then rhi r n else r (16 + n) + nI 1
def rcs (r : Nat → Int32) : Nat := ((rcc r 0 + rcc r 1) + rcc r 2) + rcc r 3
def rbs (q d : Nat) : Int32 := beside (nI (q % 13)) (nI (q / 13)) (nI d)
def rwl (r : Nat → Int32) (q n d : Nat) : Nat := if over r = true then 1 else if hgt r (nI q) < n then 2 else if ¬ wat r (nI q) (nI (hgt r (nI q) - 1)) / nI 4 = r 56 then 3 else if ¬ nI n ≤ r 57 then 4 else if rbs q d = -1 then 5 else 0
theorem rcc_le (r : Nat → Int32) (k : Nat) : rcc r k ≤ 4 := cnt_le _ 4
theorem rpt_le (r : Nat → Int32) (k : Nat) : rpt r k ≤ 16 := by
  have h1 := potc_le r k
  have h2 := cnt_le (rfr r k) 4
  unfold rpt
  omega
theorem fst_mem {p : Nat → Bool} : ∀ (n i : Nat), i + n < 2 ^ 31 → fst p n i = -1 ∨ ∃ j, i ≤ j ∧ j < i + n ∧ p j = true ∧ fst p n i = nI j
  | 0, _, _ => Or.inl rfl
  | n + 1, i, hb => by
    simp only [fst]
    by_cases h : p i = true
    · rw [if_pos h]
      exact Or.inr ⟨i, Nat.le_refl i, by omega, h, rfl⟩
    · rw [if_neg h]
      rcases fst_mem n (i + 1) (by omega) with q | ⟨j, a, b, c, d⟩
      · exact Or.inl q
      · exact Or.inr ⟨j, by omega, by omega, c, d⟩
theorem or0 (x : Int32) : x ||| nI 0 = x := by rw [show nI 0 = 0 from rfl]; exact Int32.or_zero
