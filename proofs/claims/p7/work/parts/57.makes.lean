theorem dv0 (j : Nat) (hj : j < 2) : defaultValue (tyX0 j) = vp_V [.null, .int (nI 0)] j := by rcases (show j = 0 ∨ j = 1 by omega) with rfl | rfl <;> rfl
theorem dv1 (j : Nat) (hj : j < 3) : defaultValue (tyX1 j) = vp_V [.null, .null, .null] j := by rcases (show j = 0 ∨ j = 1 ∨ j = 2 by omega) with rfl | rfl | rfl <;> rfl
theorem dv2 (j : Nat) (hj : j < 3) : defaultValue (tyX2 j) = vp_V [.null, .int (nI 0), .int (nI 0)] j := by rcases (show j = 0 ∨ j = 1 ∨ j = 2 by omega) with rfl | rfl | rfl <;> rfl
theorem dv3 (j : Nat) (hj : j < 3) : defaultValue (tyX3 j) = vp_V [.null, .null, .null] j := by rcases (show j = 0 ∨ j = 1 ∨ j = 2 by omega) with rfl | rfl | rfl <;> rfl
theorem dv4 (j : Nat) (hj : j < 7) : defaultValue (tyX4 j) = vp_V [.null, .null, .null, .null, .int (nI 0), .int (nI 0), .int (nI 0)] j := by rcases (show j = 0 ∨ j = 1 ∨ j = 2 ∨ j = 3 ∨ j = 4 ∨ j = 5 ∨ j = 6 by omega) with rfl | rfl | rfl | rfl | rfl | rfl | rfl <;> rfl
theorem dv5 (j : Nat) (hj : j < 7) : defaultValue (tyX5 j) = vp_V [.null, .null, .null, .null, .null, .null, .int (bI false)] j := by rcases (show j = 0 ∨ j = 1 ∨ j = 2 ∨ j = 3 ∨ j = 4 ∨ j = 5 ∨ j = 6 by omega) with rfl | rfl | rfl | rfl | rfl | rfl | rfl <;> rfl
theorem dv6 (j : Nat) (hj : j < 12) : defaultValue (tyX6 j) = vp_V [.null, .null, .null, .null, .null, .null, .null, .int (bI false), .int (nI 0), .int (nI 0), .int (nI 0), .int (nI 0)] j := by rcases (show j = 0 ∨ j = 1 ∨ j = 2 ∨ j = 3 ∨ j = 4 ∨ j = 5 ∨ j = 6 ∨ j = 7 ∨ j = 8 ∨ j = 9 ∨ j = 10 ∨ j = 11 by omega) with rfl | rfl | rfl | rfl | rfl | rfl | rfl | rfl | rfl | rfl | rfl | rfl <;> rfl
/-- the mat as it is made -/
def mC (i : Nat) : Nat → Int32 := fun w => if w < i then nI (bs (w / 4)) else 0
def mB (i : Nat) : Nat → Int32 := fun w => if w < i then (if w % 4 = 0 then -1 else nI (w - 1)) else 0
def mV (i : Nat) : Nat → Int32 := fun w => if w < i then (if w % 4 = 3 then -1 else nI (w + 1)) else 0
theorem mC_s {i : Nat} : upd (mC i) i (nI (bs (i / 4))) = mC (i + 1) := by
  funext w
  unfold upd mC
  by_cases h : w = i
  · subst h; simp
  · rw [if_neg h]
    by_cases h2 : w < i
    · rw [if_pos h2, if_pos (by omega)]
    · rw [if_neg h2, if_neg (by omega)]
theorem mB_s {i : Nat} {x : Int32} (hx : x = if i % 4 = 0 then -1 else nI (i - 1)) : upd (mB i) i x = mB (i + 1) := by
  funext w
  unfold upd mB
  by_cases h : w = i
  · subst h; simp [hx]
  · rw [if_neg h]
    by_cases h2 : w < i
    · rw [if_pos h2, if_pos (show w < i + 1 by omega)]
    · rw [if_neg h2, if_neg (show ¬ w < i + 1 by omega)]
theorem mV_s {i : Nat} {x : Int32} (hx : x = if i % 4 = 3 then -1 else nI (i + 1)) : upd (mV i) i x = mV (i + 1) := by
  funext w
  unfold upd mV
  by_cases h : w = i
  · subst h; simp [hx]
  · rw [if_neg h]
    by_cases h2 : w < i
    · rw [if_pos h2, if_pos (show w < i + 1 by omega)]
    · rw [if_neg h2, if_neg (show ¬ w < i + 1 by omega)]
theorem mC_0 : mC 0 = fun _ => 0 := by funext w; simp [mC]
theorem mB_0 : mB 0 = fun _ => 0 := by funext w; simp [mB]
theorem mV_0 : mV 0 = fun _ => 0 := by funext w; simp [mV]
/-- worlds behind the constructors -/
def w0N (cI : ClassId) (b0 : Nat) (F : Nat → va_E) (k : Nat) : Nat → va_E := va_up (va_up F (k + 1) (.inl (cI, 60, .inl (fun _ => 0)))) k (.inr (0, [.ref (pb b0 (k + 1)), .int (nI 0)]))
def w1O (b0 : Nat) (F : Nat → va_E) (k : Nat) : Nat → va_E := va_up F k (.inr (1, [.ref (pb b0 (k + 1)), .ref (pb b0 (k + 2)), .ref (pb b0 (k + 3))]))
def w1N (cI : ClassId) (b0 : Nat) (F : Nat → va_E) (k : Nat) : Nat → va_E := mSet cI (w1O b0 F k) k (mC 16) (mB 16) (mV 16)
def w3N (cI : ClassId) (b0 : Nat) (F : Nat → va_E) (k : Nat) : Nat → va_E := va_up (va_up (va_up (va_up F (k + 1) (.inl (cI, 338, .inl (fun _ => 0)))) (k + 2) (.inl (cI, 169, .inl (fun _ => 0)))) (k + 3) (.inl (cI, 169, .inl (fun _ => 0)))) k (.inr (3, [.ref (pb b0 (k + 1)), .ref (pb b0 (k + 2)), .ref (pb b0 (k + 3))]))
def w4N (cI : ClassId) (b0 : Nat) (F : Nat → va_E) (k : Nat) : Nat → va_E := va_up (va_up (va_up (va_up (w1N cI b0 F (k + 1)) (k + 5) (.inl (cI, 16, .inl (fun _ => 0)))) (k + 6) (.inl (cI, 4, .inl (fun _ => 0)))) (k + 7) (.inl (cI, 4, .inl (fun _ => 0)))) k (.inr (4, [.ref (pb b0 (k + 1)), .ref (pb b0 (k + 5)), .ref (pb b0 (k + 6)), .ref (pb b0 (k + 7)), .int (nI 0), .int (nI 0), .int (nI 3)]))
def w2A (b0 k i : Nat) : Nat → Option Nat := fun j => if j < i then some (pb b0 (k + 2 + 8 * j)) else none
def w2R (cI : ClassId) (b0 : Nat) (F : Nat → va_E) (k : Nat) : Nat → (Nat → va_E)
  | 0 => va_up F k (.inr (2, [.ref (pb b0 (k + 1)), .int (nI 0), .int (nI 0)]))
  | i + 1 => w4N cI b0 (w2R cI b0 F k i) (k + 2 + 8 * i)
def w2N (cI cQ : ClassId) (b0 : Nat) (F : Nat → va_E) (k i : Nat) : Nat → va_E := va_up (w2R cI b0 F k i) (k + 1) (.inl (cQ, 6, .inr (.inr (.inr (.inr (w2A b0 k i))))))
theorem w1N_own {cI : ClassId} {b0 : Nat} {F : Nat → va_E} {k : Nat} {e : va_E} : w1N cI b0 (va_up F k e) k = w1N cI b0 F k := by unfold w1N w1O; rw [bx_uu]
theorem w1N_up {cI : ClassId} {b0 : Nat} {A : Nat → va_E} {k n : Nat} {e0 e1 : va_E} (h : k < n) : va_up (w1N cI b0 (va_up A k e0) n) k e1 = va_up (w1N cI b0 A n) k e1 := by
  funext j
  simp only [va_up, w1N, w1O, mSet]
  repeat' split
  all_goals first | rfl | omega
theorem w1N_at {cI : ClassId} {b0 : Nat} {A : Nat → va_E} {k n : Nat} (h : k < n ∨ n + 3 < k) : w1N cI b0 A n k = A k := by
  unfold w1N w1O
  rw [mSet_out (by omega), va_up_ne _ _ (by omega)]
theorem w4N_own {cI : ClassId} {b0 : Nat} {F : Nat → va_E} {k : Nat} {e : va_E} : w4N cI b0 (va_up F k e) k = w4N cI b0 F k := by
  funext j
  simp only [va_up, w4N, w1N, w1O, mSet]
  repeat' split
  all_goals first | rfl | omega
theorem w4N_up {cI : ClassId} {b0 : Nat} {A : Nat → va_E} {k n : Nat} {e0 e1 : va_E} (h : k < n) : va_up (w4N cI b0 (va_up A k e0) n) k e1 = va_up (w4N cI b0 A n) k e1 := by
  funext j
  simp only [va_up, w4N, w1N, w1O, mSet]
  repeat' split
  all_goals first | rfl | omega
theorem w4N_at {cI : ClassId} {b0 : Nat} {A : Nat → va_E} {k n : Nat} (h : k < n ∨ n + 7 < k) : w4N cI b0 A n k = A k := by
  unfold w4N
  rw [va_up_ne _ _ (by omega), va_up_ne _ _ (by omega), va_up_ne _ _ (by omega), va_up_ne _ _ (by omega), w1N_at (by omega)]
theorem w0N_own {cI : ClassId} {b0 : Nat} {F : Nat → va_E} {k : Nat} {e : va_E} : w0N cI b0 (va_up F k e) k = w0N cI b0 F k := up3
theorem w0N_up {cI : ClassId} {b0 : Nat} {A : Nat → va_E} {k n : Nat} {e0 e1 : va_E} (h : k < n) : va_up (w0N cI b0 (va_up A k e0) n) k e1 = va_up (w0N cI b0 A n) k e1 := by
  funext j
  simp only [va_up, w0N]
  repeat' split
  all_goals first | rfl | omega
theorem w0N_at {cI : ClassId} {b0 : Nat} {A : Nat → va_E} {k n : Nat} (h : k < n ∨ n + 1 < k) : w0N cI b0 A n k = A k := by
  unfold w0N
  rw [va_up_ne _ _ (by omega), va_up_ne _ _ (by omega)]
theorem w3N_own {cI : ClassId} {b0 : Nat} {F : Nat → va_E} {k : Nat} {e : va_E} : w3N cI b0 (va_up F k e) k = w3N cI b0 F k := by
  funext j
  simp only [va_up, w3N]
  repeat' split
  all_goals first | rfl | omega
theorem w3N_up {cI : ClassId} {b0 : Nat} {A : Nat → va_E} {k n : Nat} {e0 e1 : va_E} (h : k < n) : va_up (w3N cI b0 (va_up A k e0) n) k e1 = va_up (w3N cI b0 A n) k e1 := by
  funext j
  simp only [va_up, w3N]
  repeat' split
  all_goals first | rfl | omega
theorem w3N_at {cI : ClassId} {b0 : Nat} {A : Nat → va_E} {k n : Nat} (h : k < n ∨ n + 3 < k) : w3N cI b0 A n k = A k := by
  unfold w3N
  rw [va_up_ne _ _ (by omega), va_up_ne _ _ (by omega), va_up_ne _ _ (by omega), va_up_ne _ _ (by omega)]
theorem w2R_at {cI : ClassId} {b0 : Nat} {F : Nat → va_E} {k m : Nat} : ∀ i : Nat, (m < k ∨ m = k + 1 ∨ k + 1 + 8 * i < m) → w2R cI b0 F k i m = F m
  | 0, h => by rw [w2R, va_up_ne _ _ (by omega)]
  | i + 1, h => by rw [w2R, w4N_at (by omega), w2R_at i (by omega)]
theorem w2R_self {cI : ClassId} {b0 : Nat} {F : Nat → va_E} {k : Nat} : ∀ i : Nat, w2R cI b0 F k i k = .inr (2, [.ref (pb b0 (k + 1)), .int (nI 0), .int (nI 0)])
  | 0 => by rw [w2R, va_up_self]
  | i + 1 => by rw [w2R, w4N_at (by omega), w2R_self i]
theorem w2R_own {cI : ClassId} {b0 : Nat} {F : Nat → va_E} {k : Nat} {e : va_E} : ∀ i : Nat, w2R cI b0 (va_up F k e) k i = w2R cI b0 F k i
  | 0 => bx_uu _ _ _ _
  | i + 1 => by rw [w2R, w2R, w2R_own i]
theorem w2R_up {cI : ClassId} {b0 : Nat} {A : Nat → va_E} {k n : Nat} {e0 e1 : va_E} (h : k < n) : ∀ i : Nat, va_up (w2R cI b0 (va_up A k e0) n i) k e1 = va_up (w2R cI b0 A n i) k e1
  | 0 => by
    funext j
    simp only [va_up, w2R]
    repeat' split
    all_goals first | rfl | omega
  | i + 1 => by
    rw [w2R, w2R, ← w4N_up (A := w2R cI b0 (va_up A k e0) n i) (e0 := e1) (by omega), w2R_up h i, w4N_up (by omega)]
theorem w2N_own {cI cQ : ClassId} {b0 : Nat} {F : Nat → va_E} {k i : Nat} {e : va_E} : w2N cI cQ b0 (va_up F k e) k i = w2N cI cQ b0 F k i := by rw [w2N, w2N, w2R_own]
theorem up_sw {A : Nat → va_E} {k n : Nat} {e a : va_E} (h : k ≠ n) : va_up (va_up A n a) k e = va_up (va_up A k e) n a := by
  funext j
  simp only [va_up]
  repeat' split
  all_goals first | rfl | omega
theorem w2N_up {cI cQ : ClassId} {b0 : Nat} {A : Nat → va_E} {k n i : Nat} {e0 e1 : va_E} (h : k < n) : va_up (w2N cI cQ b0 (va_up A k e0) n i) k e1 = va_up (w2N cI cQ b0 A n i) k e1 := by
  rw [w2N, w2N, up_sw (k := k) (n := n + 1) (by omega), up_sw (k := k) (n := n + 1) (by omega), w2R_up h]
theorem w2N_at {cI cQ : ClassId} {b0 : Nat} {A : Nat → va_E} {k n i : Nat} (h : k < n ∨ n + 1 + 8 * i < k) : w2N cI cQ b0 A n i k = A k := by
  rw [w2N, va_up_ne _ _ (by omega), w2R_at i (by omega)]
theorem w2_step {cI cQ : ClassId} {b0 : Nat} {F : Nat → va_E} {k i : Nat} {e : va_E} : va_up (w4N cI b0 (va_up (w2N cI cQ b0 F k i) (k + 2 + 8 * i) e) (k + 2 + 8 * i)) (k + 1) (.inl (cQ, 6, .inr (.inr (.inr (.inr (va_up (w2A b0 k i) i (some (pb b0 (k + 2 + 8 * i))))))))) = w2N cI cQ b0 F k (i + 1) := by
  rw [w4N_own, w2N, w4N_up (by omega), w2N, w2R]
  have e9 : va_up (w2A b0 k i) i (some (pb b0 (k + 2 + 8 * i))) = w2A b0 k (i + 1) := by
    funext j
    unfold va_up w2A
    by_cases h : j = i
    · subst h; simp
    · rw [if_neg h]
      by_cases h2 : j < i
      · rw [if_pos h2, if_pos (show j < i + 1 by omega)]
      · rw [if_neg h2, if_neg (show ¬ j < i + 1 by omega)]
  rw [e9]
theorem cell_extq {cA : ClassId} {n : Nat} {f g : Nat → Option Nat} (h : ∀ j, j < n → f j = g j) : vp_cell cA (n, .inr (.inr (.inr (.inr f)))) = vp_cell cA (n, .inr (.inr (.inr (.inr g)))) := by
  show arrV cA n (fun j => va_rf (f j)) = arrV cA n (fun j => va_rf (g j))
  unfold arrV
  congr 1
  apply Array.ext
  · simp
  · intro i h1 h2
    simp only [Array.size_ofFn] at h1
    simp [h i h1]
theorem iW_extq {D : va_G} {cl : List vw_C} {ad : Nat → Nat} {N : Nat} {F : Nat → va_E} {H : Heap} {k : Nat} {cA : ClassId} {n : Nat} {f g : Nat → Option Nat} (h : va_P D cl (iW ad N (va_up F k (.inl (cA, n, .inr (.inr (.inr (.inr f))))))) H) (e : ∀ j, j < n → f j = g j) : va_P D cl (iW ad N (va_up F k (.inl (cA, n, .inr (.inr (.inr (.inr g))))))) H := by
  intro i q hq
  obtain ⟨hi, rfl⟩ := iW_inv hq
  have h1 := h i _ (iW_get hi)
  by_cases e9 : i = k
  · subst e9
    rw [va_up_self] at h1 ⊢
    show H[ad i]? = some (vp_cell cA (n, .inr (.inr (.inr (.inr g)))))
    rw [← cell_extq e]
    exact h1
  · rw [va_up_ne _ _ e9] at h1 ⊢
    exact h1
set_option maxRecDepth 100000 in
set_option maxHeartbeats 4000000 in
theorem tX0_init (l : Launch) (D : va_G) (cI cQ cL : ClassId) (b0 : Nat) (F : Nat → va_E) (k : Nat) (hF : F k = .inr (0, [.null, .int (nI 0)])) : MK l yX0_init (Cond.code yX0_init cX0_init 1 none :: AW) ({ frames := 1, cells := 1, slots := 60, locals := 12 } : Room) D cI cQ cL b0 (k + 1) F (k) (k + 2) (w0N cI b0 F k) 1 60 := by
  refine mk_v (by decide +kernel) rfl (Nat.le_of_ble_eq_true rfl) rfl (fun p e s m below meth cd Q ls hx hb hml hown hts hin hsz hAO hP hK hNW hS hret hl => ?_)
  have hown : s.vm.findClass RX0 = some m.cls := hown
  have hb0 : b0 ≤ s.heap.size := by omega
  refine lv_aload_n hx hb (dk kX0_init_ok 0 rfl) rfl (lv_at hl 0 rfl) ?_
  refine W.objInit hx hb hown (hts _ (List.mem_cons_of_mem _ (ac0 _ (List.mem_of_getElem? (i := 0) rfl)))) (hts _ (List.mem_cons_of_mem _ (ac0 _ (List.mem_of_getElem? (i := 1) rfl)))) (hts _ (List.mem_cons_of_mem _ (ac0 _ (List.mem_of_getElem? (i := 2) rfl)))) rfl (by rw [hml]; exact hl.1) rfl (dk kX0_init_ok 1 rfl) (Nat.le_of_ble_eq_true rfl) (Nat.le_of_ble_eq_true rfl) ?_
  refine W.eq (g2 := F0 m 4 ls []) rfl ?_
  refine lv_aload_n hx hb (dk kX0_init_ok 2 rfl) rfl (lv_at hl 0 rfl) ?_
  refine lv_bipush (v := nI 60) hx hb (dk kX0_init_ok 3 rfl) rfl ?_
  refine nwI hx hb (hts _ (List.mem_cons_of_mem _ (ac0 _ (List.mem_of_getElem? (i := 3) rfl)))) hK hP hS hb0 (by omega) 60 rfl (by decide) (Nat.le_of_ble_eq_true rfl) (Nat.le_of_ble_eq_true rfl) (dk kX0_init_ok 4 rfl) (fun H hP hS => ?_)
  have hP : va_P D vwCl (iW (pb b0) (k + 2) (va_up F (k + 1) (.inl (cI, 60, .inl (fun _ => 0))))) H := hP
  refine pfF (w0N cI b0 F k) (ty := .array .int) hx hb hts (fun w h => List.mem_cons_of_mem _ (acX0 w h)) tyX0 tyX0_ok nmX0 hown hK hP hS (k := k) (by omega) (by rw [va_up_ne _ _ (by omega)]; exact hF) rfl 0 (by decide) (hts _ (List.mem_cons_of_mem _ (ac0 _ (List.mem_of_getElem? (i := 4) rfl)))) (fun _ h => h) rfl hin rfl (by decide +kernel) rfl rfl (Nat.le_of_ble_eq_true rfl) (dk kX0_init_ok 5 rfl) (rfl) (fun H locs hP hS => ?_)
  refine lv_aload_n hx hb (dk kX0_init_ok 6 rfl) rfl (lv_at hl 0 rfl) ?_
  refine lv_iconst (v := nI 0) hx hb (dk kX0_init_ok 7 rfl) rfl ?_
  refine pfA (w0N cI b0 F k) (ty := .int) hx hb hts (fun w h => List.mem_cons_of_mem _ (acX0 w h)) tyX0 tyX0_ok nmX0 hown hK hP hS (k := k) (by omega) (va_up_self _ _ _) rfl 1 (by decide) (hts _ (List.mem_cons_of_mem _ (ac0 _ (List.mem_of_getElem? (i := 5) rfl)))) (fun _ h => h) rfl (by decide +kernel) rfl rfl (Nat.le_of_ble_eq_true rfl) (dk kX0_init_ok 8 rfl) (bx_uu _ _ _ _) (fun H locs hP hS => ?_)
  exact hret _ _ _ _ hP hS (dk kX0_init_ok 9 rfl)
set_option maxRecDepth 100000 in
set_option maxHeartbeats 4000000 in
theorem tX3_init (l : Launch) (D : va_G) (cI cQ cL : ClassId) (b0 : Nat) (F : Nat → va_E) (k : Nat) (hF : F k = .inr (3, [.null, .null, .null])) : MK l yX3_init (Cond.code yX3_init cX3_init 1 none :: AW) ({ frames := 1, cells := 3, slots := 676, locals := 12 } : Room) D cI cQ cL b0 (k + 1) F (k) (k + 4) (w3N cI b0 F k) 3 676 := by
  refine mk_v (by decide +kernel) rfl (Nat.le_of_ble_eq_true rfl) rfl (fun p e s m below meth cd Q ls hx hb hml hown hts hin hsz hAO hP hK hNW hS hret hl => ?_)
  have hown : s.vm.findClass RX3 = some m.cls := hown
  have hb0 : b0 ≤ s.heap.size := by omega
  refine lv_aload_n hx hb (dk kX3_init_ok 0 rfl) rfl (lv_at hl 0 rfl) ?_
  refine W.objInit hx hb hown (hts _ (List.mem_cons_of_mem _ (ac5 _ (List.mem_of_getElem? (i := 10) rfl)))) (hts _ (List.mem_cons_of_mem _ (ac0 _ (List.mem_of_getElem? (i := 1) rfl)))) (hts _ (List.mem_cons_of_mem _ (ac0 _ (List.mem_of_getElem? (i := 2) rfl)))) rfl (by rw [hml]; exact hl.1) rfl (dk kX3_init_ok 1 rfl) (Nat.le_of_ble_eq_true rfl) (Nat.le_of_ble_eq_true rfl) ?_
  refine W.eq (g2 := F0 m 4 ls []) rfl ?_
  refine lv_aload_n hx hb (dk kX3_init_ok 2 rfl) rfl (lv_at hl 0 rfl) ?_
  refine lv_sipush (v := nI 338) hx hb (dk kX3_init_ok 3 rfl) rfl ?_
  refine nwI hx hb (hts _ (List.mem_cons_of_mem _ (ac0 _ (List.mem_of_getElem? (i := 3) rfl)))) hK hP hS hb0 (by omega) 338 rfl (by decide) (Nat.le_of_ble_eq_true rfl) (Nat.le_of_ble_eq_true rfl) (dk kX3_init_ok 4 rfl) (fun H hP hS => ?_)
  have hP : va_P D vwCl (iW (pb b0) (k + 2) (va_up (F) (k + 1) (.inl (cI, 338, .inl (fun _ => 0))))) H := hP
  refine pfF (va_up (va_up (F) (k + 1) (.inl (cI, 338, .inl (fun _ => 0)))) k (.inr (3, [.ref (pb b0 (k + 1)), .null, .null]))) (ty := .array .int) hx hb hts (fun w h => List.mem_cons_of_mem _ (acX3 w h)) tyX3 tyX3_ok nmX3 hown hK hP hS (k := k) (by omega) (by rw [va_up_ne _ _ (by omega)]; exact hF) rfl 0 (by decide) (hts _ (List.mem_cons_of_mem _ (ac5 _ (List.mem_of_getElem? (i := 11) rfl)))) (fun _ h => h) rfl hin rfl (by decide +kernel) rfl rfl (Nat.le_of_ble_eq_true rfl) (dk kX3_init_ok 5 rfl) (rfl) (fun H locs hP hS => ?_)
  refine lv_aload_n hx hb (dk kX3_init_ok 6 rfl) rfl (lv_at hl 0 rfl) ?_
  refine lv_sipush (v := nI 169) hx hb (dk kX3_init_ok 7 rfl) rfl ?_
  refine nwI hx hb (hts _ (List.mem_cons_of_mem _ (ac0 _ (List.mem_of_getElem? (i := 3) rfl)))) hK hP hS hb0 (by omega) 169 rfl (by decide) (Nat.le_of_ble_eq_true rfl) (Nat.le_of_ble_eq_true rfl) (dk kX3_init_ok 8 rfl) (fun H hP hS => ?_)
  have hP : va_P D vwCl (iW (pb b0) (k + 3) (va_up (va_up (va_up (F) (k + 1) (.inl (cI, 338, .inl (fun _ => 0)))) k (.inr (3, [.ref (pb b0 (k + 1)), .null, .null]))) (k + 2) (.inl (cI, 169, .inl (fun _ => 0))))) H := hP
  refine pfF (va_up (va_up (va_up (F) (k + 1) (.inl (cI, 338, .inl (fun _ => 0)))) (k + 2) (.inl (cI, 169, .inl (fun _ => 0)))) k (.inr (3, [.ref (pb b0 (k + 1)), .ref (pb b0 (k + 2)), .null]))) (ty := .array .int) hx hb hts (fun w h => List.mem_cons_of_mem _ (acX3 w h)) tyX3 tyX3_ok nmX3 hown hK hP hS (k := k) (by omega) (upk (by omega)) rfl 1 (by decide) (hts _ (List.mem_cons_of_mem _ (ac5 _ (List.mem_of_getElem? (i := 12) rfl)))) (fun _ h => h) rfl hin rfl (by decide +kernel) rfl rfl (Nat.le_of_ble_eq_true rfl) (dk kX3_init_ok 9 rfl) (up3) (fun H locs hP hS => ?_)
  refine lv_aload_n hx hb (dk kX3_init_ok 10 rfl) rfl (lv_at hl 0 rfl) ?_
  refine lv_sipush (v := nI 169) hx hb (dk kX3_init_ok 11 rfl) rfl ?_
  refine nwI hx hb (hts _ (List.mem_cons_of_mem _ (ac0 _ (List.mem_of_getElem? (i := 3) rfl)))) hK hP hS hb0 (by omega) 169 rfl (by decide) (Nat.le_of_ble_eq_true rfl) (Nat.le_of_ble_eq_true rfl) (dk kX3_init_ok 12 rfl) (fun H hP hS => ?_)
  have hP : va_P D vwCl (iW (pb b0) (k + 4) (va_up (va_up (va_up (va_up (F) (k + 1) (.inl (cI, 338, .inl (fun _ => 0)))) (k + 2) (.inl (cI, 169, .inl (fun _ => 0)))) k (.inr (3, [.ref (pb b0 (k + 1)), .ref (pb b0 (k + 2)), .null]))) (k + 3) (.inl (cI, 169, .inl (fun _ => 0))))) H := hP
  refine pfF (va_up (va_up (va_up (va_up (F) (k + 1) (.inl (cI, 338, .inl (fun _ => 0)))) (k + 2) (.inl (cI, 169, .inl (fun _ => 0)))) (k + 3) (.inl (cI, 169, .inl (fun _ => 0)))) k (.inr (3, [.ref (pb b0 (k + 1)), .ref (pb b0 (k + 2)), .ref (pb b0 (k + 3))]))) (ty := .array .int) hx hb hts (fun w h => List.mem_cons_of_mem _ (acX3 w h)) tyX3 tyX3_ok nmX3 hown hK hP hS (k := k) (by omega) (upk (by omega)) rfl 2 (by decide) (hts _ (List.mem_cons_of_mem _ (ac5 _ (List.mem_of_getElem? (i := 13) rfl)))) (fun _ h => h) rfl hin rfl (by decide +kernel) rfl rfl (Nat.le_of_ble_eq_true rfl) (dk kX3_init_ok 13 rfl) (up3) (fun H locs hP hS => ?_)
  exact hret _ _ _ _ hP hS (dk kX3_init_ok 14 rfl)
set_option maxRecDepth 100000 in
set_option maxHeartbeats 4000000 in
theorem tX1_init (l : Launch) (D : va_G) (cI cQ cL : ClassId) (b0 : Nat) (F : Nat → va_E) (k : Nat) (hF : F k = .inr (1, [.null, .null, .null])) : MK l yX1_init (Cond.code yX1_init cX1_init 3 none :: AW) ({ frames := 2, cells := 3, slots := 48, locals := 41 } : Room) D cI cQ cL b0 (k + 1) F (k) (k + 4) (w1N cI b0 F k) 3 48 := by
  refine mk_v (by decide +kernel) rfl (Nat.le_of_ble_eq_true rfl) rfl (fun p e s m below meth cd Q ls hx hb hml hown hts hin hsz hAO hP hK hNW hS hret hl => ?_)
  have hown : s.vm.findClass RX1 = some m.cls := hown
  have hb0 : b0 ≤ s.heap.size := by omega
  refine lv_aload_n hx hb (dk kX1_init_ok 0 rfl) rfl (lv_at hl 0 rfl) ?_
  refine W.objInit hx hb hown (hts _ (List.mem_cons_of_mem _ (ac0 _ (List.mem_of_getElem? (i := 21) rfl)))) (hts _ (List.mem_cons_of_mem _ (ac0 _ (List.mem_of_getElem? (i := 1) rfl)))) (hts _ (List.mem_cons_of_mem _ (ac0 _ (List.mem_of_getElem? (i := 2) rfl)))) rfl (by rw [hml]; exact hl.1) rfl (dk kX1_init_ok 1 rfl) (Nat.le_of_ble_eq_true rfl) (Nat.le_of_ble_eq_true rfl) ?_
  refine W.eq (g2 := F0 m 4 ls []) rfl ?_
  refine lv_aload_n hx hb (dk kX1_init_ok 2 rfl) rfl (lv_at hl 0 rfl) ?_
  refine lv_bipush (v := nI 16) hx hb (dk kX1_init_ok 3 rfl) rfl ?_
  refine nwI hx hb (hts _ (List.mem_cons_of_mem _ (ac0 _ (List.mem_of_getElem? (i := 3) rfl)))) hK hP hS hb0 (by omega) 16 rfl (by decide) (Nat.le_of_ble_eq_true rfl) (Nat.le_of_ble_eq_true rfl) (dk kX1_init_ok 4 rfl) (fun H hP hS => ?_)
  have hP : va_P D vwCl (iW (pb b0) (k + 2) (va_up (F) (k + 1) (.inl (cI, 16, .inl (fun _ => 0))))) H := hP
  refine pfF (va_up (va_up (F) (k + 1) (.inl (cI, 16, .inl (fun _ => 0)))) k (.inr (1, [.ref (pb b0 (k + 1)), .null, .null]))) (ty := .array .int) hx hb hts (fun w h => List.mem_cons_of_mem _ (acX1 w h)) tyX1 tyX1_ok nmX1 hown hK hP hS (k := k) (by omega) (by rw [va_up_ne _ _ (by omega)]; exact hF) rfl 0 (by decide) (hts _ (List.mem_cons_of_mem _ (ac0 _ (List.mem_of_getElem? (i := 22) rfl)))) (fun _ h => h) rfl hin rfl (by decide +kernel) rfl rfl (Nat.le_of_ble_eq_true rfl) (dk kX1_init_ok 5 rfl) (rfl) (fun H locs hP hS => ?_)
  refine lv_aload_n hx hb (dk kX1_init_ok 6 rfl) rfl (lv_at hl 0 rfl) ?_
  refine lv_bipush (v := nI 16) hx hb (dk kX1_init_ok 7 rfl) rfl ?_
  refine nwI hx hb (hts _ (List.mem_cons_of_mem _ (ac0 _ (List.mem_of_getElem? (i := 3) rfl)))) hK hP hS hb0 (by omega) 16 rfl (by decide) (Nat.le_of_ble_eq_true rfl) (Nat.le_of_ble_eq_true rfl) (dk kX1_init_ok 8 rfl) (fun H hP hS => ?_)
  have hP : va_P D vwCl (iW (pb b0) (k + 3) (va_up (va_up (va_up (F) (k + 1) (.inl (cI, 16, .inl (fun _ => 0)))) k (.inr (1, [.ref (pb b0 (k + 1)), .null, .null]))) (k + 2) (.inl (cI, 16, .inl (fun _ => 0))))) H := hP
  refine pfF (va_up (va_up (va_up (F) (k + 1) (.inl (cI, 16, .inl (fun _ => 0)))) (k + 2) (.inl (cI, 16, .inl (fun _ => 0)))) k (.inr (1, [.ref (pb b0 (k + 1)), .ref (pb b0 (k + 2)), .null]))) (ty := .array .int) hx hb hts (fun w h => List.mem_cons_of_mem _ (acX1 w h)) tyX1 tyX1_ok nmX1 hown hK hP hS (k := k) (by omega) (upk (by omega)) rfl 1 (by decide) (hts _ (List.mem_cons_of_mem _ (ac0 _ (List.mem_of_getElem? (i := 23) rfl)))) (fun _ h => h) rfl hin rfl (by decide +kernel) rfl rfl (Nat.le_of_ble_eq_true rfl) (dk kX1_init_ok 9 rfl) (up3) (fun H locs hP hS => ?_)
  refine lv_aload_n hx hb (dk kX1_init_ok 10 rfl) rfl (lv_at hl 0 rfl) ?_
  refine lv_bipush (v := nI 16) hx hb (dk kX1_init_ok 11 rfl) rfl ?_
  refine nwI hx hb (hts _ (List.mem_cons_of_mem _ (ac0 _ (List.mem_of_getElem? (i := 3) rfl)))) hK hP hS hb0 (by omega) 16 rfl (by decide) (Nat.le_of_ble_eq_true rfl) (Nat.le_of_ble_eq_true rfl) (dk kX1_init_ok 12 rfl) (fun H hP hS => ?_)
  have hP : va_P D vwCl (iW (pb b0) (k + 4) (va_up (va_up (va_up (va_up (F) (k + 1) (.inl (cI, 16, .inl (fun _ => 0)))) (k + 2) (.inl (cI, 16, .inl (fun _ => 0)))) k (.inr (1, [.ref (pb b0 (k + 1)), .ref (pb b0 (k + 2)), .null]))) (k + 3) (.inl (cI, 16, .inl (fun _ => 0))))) H := hP
  refine pfF (va_up (va_up (va_up (va_up (F) (k + 1) (.inl (cI, 16, .inl (fun _ => 0)))) (k + 2) (.inl (cI, 16, .inl (fun _ => 0)))) (k + 3) (.inl (cI, 16, .inl (fun _ => 0)))) k (.inr (1, [.ref (pb b0 (k + 1)), .ref (pb b0 (k + 2)), .ref (pb b0 (k + 3))]))) (ty := .array .int) hx hb hts (fun w h => List.mem_cons_of_mem _ (acX1 w h)) tyX1 tyX1_ok nmX1 hown hK hP hS (k := k) (by omega) (upk (by omega)) rfl 2 (by decide) (hts _ (List.mem_cons_of_mem _ (ac1 _ (List.mem_of_getElem? (i := 0) rfl)))) (fun _ h => h) rfl hin rfl (by decide +kernel) rfl rfl (Nat.le_of_ble_eq_true rfl) (dk kX1_init_ok 13 rfl) (up3) (fun H locs hP hS => ?_)
  have hP : va_P D vwCl (iW (pb b0) (k + 4) (mSet cI (w1O b0 F k) k (mC 0) (mB 0) (mV 0))) H := by
    rw [mC_0, mB_0, mV_0]
    refine Eq.mp ?_ hP
    congr 2
    funext j
    simp only [va_up, w1O, mSet]
    repeat' split
    all_goals first | rfl | omega
  have hM : ∀ c2 b2 v2 : Nat → Int32, matAt cI (pb b0) (mSet cI (w1O b0 F k) k c2 b2 v2) k c2 b2 v2 := fun c2 b2 v2 => by
    refine ⟨?_, ?_, ?_, ?_⟩
    · simp [mSet, w1O, va_up]
    · simp [mSet]
    · simp [mSet]
    · simp [mSet]
  refine lv_iconst (v := nI 0) hx hb (dk kX1_init_ok 14 rfl) rfl ?_
  refine lv_istore_n (lv' := [(1, .int (nI 0)), (0, .ref (pb b0 k))]) hx hb (dk kX1_init_ok 15 rfl) rfl hl (by decide) rfl (fun ls hl => ?_)
  have L30 : ∀ (fu i : Nat) (H : Heap) (locs : List Loc), va_P D vwCl (iW (pb b0) (k + 4) (mSet cI (w1O b0 F k) k (mC i) (mB i) (mV i))) H → va_S (bA b0) s.heap H locs → i ≤ 16 → 16 - i < fu → ∀ ls : Array Slot, lv_has ls 3 [(0, .ref (pb b0 k)), (1, .int (nI i))] → W p l e ({ frames := 2, cells := 3, slots := 48, locals := 41 } : Room) s m #[.ref (pb b0 k)] below meth cd H locs 3 48 Q (F0 m 30 ls []) := by
    intro fu
    induction fu with
    | zero => intros; omega
    | succ fu ih =>
      intro i H locs hP hS hi hm ls hl
      refine lv_iload_n hx hb (dk kX1_init_ok 16 rfl) rfl (lv_at hl 1 rfl) ?_
      refine lv_bipush (v := nI 16) hx hb (dk kX1_init_ok 17 rfl) rfl ?_
      refine n_icmp_ge (tgt := 94) hx hb (by omega) (by decide) (dk kX1_init_ok 18 rfl) (by decide) (fun h1 => ?_) (fun h1 => ?_)
      · have e9 : i = 16 := by omega
        subst e9
        exact hret _ _ _ _ hP hS (dk kX1_init_ok 55 rfl)
      · refine lv_iload_n hx hb (dk kX1_init_ok 19 rfl) rfl (lv_at hl 1 rfl) ?_
        refine lv_iconst (v := nI 4) hx hb (dk kX1_init_ok 20 rfl) rfl ?_
        refine n_irem hx hb (by omega) (by decide) (by decide) (dk kX1_init_ok 21 rfl) ?_
        refine lv_istore_n (lv' := [(2, .int (nI (i % 4))), (0, .ref (pb b0 k)), (1, .int (nI i))]) hx hb (dk kX1_init_ok 22 rfl) rfl hl (by decide) rfl (fun ls hl => ?_)
        have hl := lv_sub hl [1, 2, 0] rfl
        refine lv_aload_n hx hb (dk kX1_init_ok 23 rfl) rfl (lv_at hl 0 rfl) ?_
        refine gf hx hb hts (fun w h => List.mem_cons_of_mem _ (acX1 w h)) hown hK hP (by omega) (hM _ _ _).1 rfl 0 (by decide) (hts _ (List.mem_cons_of_mem _ (ac0 _ (List.mem_of_getElem? (i := 22) rfl)))) (fun _ h => h) rfl (dk kX1_init_ok 24 rfl) ?_
        refine lv_iload_n hx hb (dk kX1_init_ok 25 rfl) rfl (lv_at hl 1 rfl) ?_
        refine lv_iload_n hx hb (dk kX1_init_ok 26 rfl) rfl (lv_at hl 1 rfl) ?_
        refine csPN (As := [.int (nI i)]) (rest := [.int (nI i), .ref (pb b0 (k + 1))]) ⟨hx, hb, hml, hown, hts⟩ (tX5_colourOf l (nI i) i rfl (by omega)) (cwN9 1 hts mcX5_colourOf (nm1 hNW) mini_RX5 rfl rfl hdX5_colourOf ⟨Nat.le_of_ble_eq_true rfl, Nat.le_of_ble_eq_true rfl⟩) (hts _ (List.mem_cons_of_mem _ msX5_colourOf)) rfl hl.1 rfl (Nat.le_of_ble_eq_true rfl) ⟨Nat.le_of_ble_eq_true rfl, Nat.le_of_ble_eq_true rfl⟩ (dk kX1_init_ok 27 rfl) ?_
        refine csPN (As := [.int (nI (i / 4))]) (rest := [.int (nI i), .ref (pb b0 (k + 1))]) ⟨hx, hb, hml, hown, hts⟩ (tX5_baseOf l (nI (i / 4)) (i / 4) rfl (by omega)) (cwN9 1 hts mcX5_baseOf (nm2 hNW) mini_RX5 rfl rfl hdX5_baseOf ⟨Nat.le_of_ble_eq_true rfl, Nat.le_of_ble_eq_true rfl⟩) (hts _ (List.mem_cons_of_mem _ msX5_baseOf)) rfl hl.1 rfl (Nat.le_of_ble_eq_true rfl) ⟨Nat.le_of_ble_eq_true rfl, Nat.le_of_ble_eq_true rfl⟩ (dk kX1_init_ok 28 rfl) ?_
        refine astA (mSet cI (w1O b0 F k) k (mC (i + 1)) (mB i) (mV i)) (j := i) hx hb hK hP hS (by omega) (hM _ _ _).2.1 rfl (by omega) (by decide) (dk kX1_init_ok 29 rfl) (by rw [mSet_c, mC_s]) (fun H locs hP hS => ?_)
        refine lv_aload_n hx hb (dk kX1_init_ok 30 rfl) rfl (lv_at hl 0 rfl) ?_
        refine gf hx hb hts (fun w h => List.mem_cons_of_mem _ (acX1 w h)) hown hK hP (by omega) (hM _ _ _).1 rfl 1 (by decide) (hts _ (List.mem_cons_of_mem _ (ac0 _ (List.mem_of_getElem? (i := 23) rfl)))) (fun _ h => h) rfl (dk kX1_init_ok 31 rfl) ?_
        refine lv_iload_n hx hb (dk kX1_init_ok 32 rfl) rfl (lv_at hl 1 rfl) ?_
        refine lv_iload_n hx hb (dk kX1_init_ok 33 rfl) rfl (lv_at hl 2 rfl) ?_
        have K69 : ∀ x : Int32, (x = if i % 4 = 0 then -1 else nI (i - 1)) → W p l e ({ frames := 2, cells := 3, slots := 48, locals := 41 } : Room) s m #[.ref (pb b0 k)] below meth cd H locs 3 48 Q (F0 m 69 ls [.int x, .int (nI i), .ref (pb b0 (k + 2))]) := by
          intro x hx9
          refine astA (mSet cI (w1O b0 F k) k (mC (i + 1)) (mB (i + 1)) (mV i)) (j := i) hx hb hK hP hS (by omega) (hM _ _ _).2.2.1 rfl (by omega) (by decide) (dk kX1_init_ok 40 rfl) (by rw [mSet_b, mB_s hx9]) (fun H locs hP hS => ?_)
          refine lv_aload_n hx hb (dk kX1_init_ok 41 rfl) rfl (lv_at hl 0 rfl) ?_
          refine gf hx hb hts (fun w h => List.mem_cons_of_mem _ (acX1 w h)) hown hK hP (by omega) (hM _ _ _).1 rfl 2 (by decide) (hts _ (List.mem_cons_of_mem _ (ac1 _ (List.mem_of_getElem? (i := 0) rfl)))) (fun _ h => h) rfl (dk kX1_init_ok 42 rfl) ?_
          refine lv_iload_n hx hb (dk kX1_init_ok 43 rfl) rfl (lv_at hl 1 rfl) ?_
          refine lv_iload_n hx hb (dk kX1_init_ok 44 rfl) rfl (lv_at hl 2 rfl) ?_
          refine lv_iconst (v := nI 3) hx hb (dk kX1_init_ok 45 rfl) rfl ?_
          have K87 : ∀ x : Int32, (x = if i % 4 = 3 then -1 else nI (i + 1)) → W p l e ({ frames := 2, cells := 3, slots := 48, locals := 41 } : Room) s m #[.ref (pb b0 k)] below meth cd H locs 3 48 Q (F0 m 87 ls [.int x, .int (nI i), .ref (pb b0 (k + 3))]) := by
            intro x hx9
            refine astA (mSet cI (w1O b0 F k) k (mC (i + 1)) (mB (i + 1)) (mV (i + 1))) (j := i) hx hb hK hP hS (by omega) (hM _ _ _).2.2.2 rfl (by omega) (by decide) (dk kX1_init_ok 52 rfl) (by rw [mSet_v, mV_s hx9]) (fun H locs hP hS => ?_)
            refine lv_iinc (v := nI (i + 1)) (lv' := [(1, .int (nI (i + 1))), (0, .ref (pb b0 k)), (2, .int (nI (i % 4)))]) hx hb (dk kX1_init_ok 53 rfl) hl (k := 1) rfl (n_inc _) (by decide) rfl (fun ls hl => ?_)
            refine lv_goto (tgt := 30) hx hb (dk kX1_init_ok 54 rfl) (by decide) ?_
            exact ih (i + 1) _ _ hP hS (by omega) (by omega) ls (lv_sub hl [1, 0] rfl)
          refine n_icmp_ne (tgt := 84) hx hb (by omega) (by decide) (dk kX1_init_ok 46 rfl) (by decide) (fun h2 => ?_) (fun h2 => ?_)
          · refine lv_iload_n hx hb (dk kX1_init_ok 49 rfl) rfl (lv_at hl 1 rfl) ?_
            refine lv_iconst (v := nI 1) hx hb (dk kX1_init_ok 50 rfl) rfl ?_
            refine n_iadd hx hb (dk kX1_init_ok 51 rfl) ?_
            exact K87 _ (by rw [if_neg h2])
          · refine lv_iconst (v := -1) hx hb (dk kX1_init_ok 47 rfl) rfl ?_
            refine lv_goto (tgt := 87) hx hb (dk kX1_init_ok 48 rfl) (by decide) ?_
            exact K87 _ (by rw [if_pos h2])
        refine n_if_ne (tgt := 66) hx hb (by omega) (dk kX1_init_ok 34 rfl) (by decide) (fun h2 => ?_) (fun h2 => ?_)
        · refine lv_iload_n hx hb (dk kX1_init_ok 37 rfl) rfl (lv_at hl 1 rfl) ?_
          refine lv_iconst (v := nI 1) hx hb (dk kX1_init_ok 38 rfl) rfl ?_
          refine n_isub hx hb (by omega) (dk kX1_init_ok 39 rfl) ?_
          exact K69 _ (by rw [if_neg h2])
        · refine lv_iconst (v := -1) hx hb (dk kX1_init_ok 35 rfl) rfl ?_
          refine lv_goto (tgt := 69) hx hb (dk kX1_init_ok 36 rfl) (by decide) ?_
          exact K69 _ (by rw [if_pos h2])
  exact L30 17 0 _ _ hP hS (by omega) (by omega) ls (lv_sub hl [1, 0] rfl)
set_option maxRecDepth 100000 in
set_option maxHeartbeats 4000000 in
theorem tX4_init (l : Launch) (D : va_G) (cI cQ cL : ClassId) (b0 : Nat) (F : Nat → va_E) (k : Nat) (hF : F k = .inr (4, [.null, .null, .null, .null, .int (nI 0), .int (nI 0), .int (nI 0)])) : MK l yX4_init (Cond.code yX4_init cX4_init 1 none :: AW) ({ frames := 3, cells := 7, slots := 75, locals := 63 } : Room) D cI cQ cL b0 (k + 1) F (k) (k + 8) (w4N cI b0 F k) 7 75 := by
  refine mk_v (by decide +kernel) rfl (Nat.le_of_ble_eq_true rfl) rfl (fun p e s m below meth cd Q ls hx hb hml hown hts hin hsz hAO hP hK hNW hS hret hl => ?_)
  have hown : s.vm.findClass RX4 = some m.cls := hown
  have hb0 : b0 ≤ s.heap.size := by omega
  refine lv_aload_n hx hb (dk kX4_init_ok 0 rfl) rfl (lv_at hl 0 rfl) ?_
  refine W.objInit hx hb hown (hts _ (List.mem_cons_of_mem _ (ac4 _ (List.mem_of_getElem? (i := 0) rfl)))) (hts _ (List.mem_cons_of_mem _ (ac0 _ (List.mem_of_getElem? (i := 1) rfl)))) (hts _ (List.mem_cons_of_mem _ (ac0 _ (List.mem_of_getElem? (i := 2) rfl)))) rfl (by rw [hml]; exact hl.1) rfl (dk kX4_init_ok 1 rfl) (Nat.le_of_ble_eq_true rfl) (Nat.le_of_ble_eq_true rfl) ?_
  refine W.eq (g2 := F0 m 4 ls []) rfl ?_
  refine lv_aload_n hx hb (dk kX4_init_ok 2 rfl) rfl (lv_at hl 0 rfl) ?_
  refine nwO (ci := 1) hx hb hts (fun w h => List.mem_cons_of_mem _ (acX1 w h)) tyX1 tyX1_ok hown (hts _ (List.mem_cons_of_mem _ (ac4 _ (List.mem_of_getElem? (i := 1) rfl)))) (hts _ (List.mem_cons_of_mem _ (ac4 _ (List.mem_of_getElem? (i := 2) rfl)))) (hts _ (List.mem_cons_of_mem _ (ac1 _ (List.mem_of_getElem? (i := 14) rfl)))) hK hP hS hb0 (by omega) rfl ([.null, .null, .null]) (fun j hj => dv1 j hj) (Nat.le_of_ble_eq_true rfl) (Nat.le_of_ble_eq_true rfl) (dk kX4_init_ok 3 rfl) (fun H hP hS => ?_)
  refine lv_dup hx hb (dk kX4_init_ok 4 rfl) rfl ?_
  have hP : va_P D vwCl (iW (pb b0) (k + 2) (va_up F (k + 1) (.inr (1, [.null, .null, .null])))) H := hP
  refine cvK ⟨hx, hb, hml, hown, hts⟩ (tX1_init l D cI cQ cL b0 _ (k + 1) (va_up_self _ _ _)) (cwI9 hts mcX1_init (ac4 _ (List.mem_of_getElem? (i := 10) rfl)) miX1_init mini_RX1 rfl rfl rfl hdX1_init ⟨Nat.le_of_ble_eq_true rfl, Nat.le_of_ble_eq_true rfl⟩) hAO hK hP hNW hS (by omega) (by omega) hl.1 rfl (Nat.le_of_ble_eq_true rfl) ⟨Nat.le_of_ble_eq_true rfl, Nat.le_of_ble_eq_true rfl⟩ (dk kX4_init_ok 5 rfl) (fun H locs hP hS => ?_)
  rw [w1N_own] at hP
  have hP : va_P D vwCl (iW (pb b0) (k + 5) (w1N cI b0 F (k + 1))) H := hP
  refine pfF (va_up (w1N cI b0 F (k + 1)) k (.inr (4, [.ref (pb b0 (k + 1)), .null, .null, .null, .int (nI 0), .int (nI 0), .int (nI 0)]))) (ty := .object "SquopPiles$Mat") hx hb hts (fun w h => List.mem_cons_of_mem _ (acX4 w h)) tyX4 tyX4_ok nmX4 hown hK hP hS (k := k) (by omega) (by rw [w1N_at (by omega)]; exact hF) rfl 0 (by decide) (hts _ (List.mem_cons_of_mem _ (ac4 _ (List.mem_of_getElem? (i := 3) rfl)))) (fun _ h => h) rfl hin rfl (by decide +kernel) rfl rfl (Nat.le_of_ble_eq_true rfl) (dk kX4_init_ok 6 rfl) (rfl) (fun H locs hP hS => ?_)
  refine lv_aload_n hx hb (dk kX4_init_ok 7 rfl) rfl (lv_at hl 0 rfl) ?_
  refine lv_bipush (v := nI 16) hx hb (dk kX4_init_ok 8 rfl) rfl ?_
  refine nwI hx hb (hts _ (List.mem_cons_of_mem _ (ac0 _ (List.mem_of_getElem? (i := 3) rfl)))) hK hP hS hb0 (by omega) 16 rfl (by decide) (Nat.le_of_ble_eq_true rfl) (Nat.le_of_ble_eq_true rfl) (dk kX4_init_ok 9 rfl) (fun H hP hS => ?_)
  have hP : va_P D vwCl (iW (pb b0) (k + 6) (va_up (va_up (w1N cI b0 F (k + 1)) k (.inr (4, [.ref (pb b0 (k + 1)), .null, .null, .null, .int (nI 0), .int (nI 0), .int (nI 0)]))) (k + 5) (.inl (cI, 16, .inl (fun _ => 0))))) H := hP
  refine pfF (va_up (va_up (w1N cI b0 F (k + 1)) (k + 5) (.inl (cI, 16, .inl (fun _ => 0)))) k (.inr (4, [.ref (pb b0 (k + 1)), .ref (pb b0 (k + 5)), .null, .null, .int (nI 0), .int (nI 0), .int (nI 0)]))) (ty := .array .int) hx hb hts (fun w h => List.mem_cons_of_mem _ (acX4 w h)) tyX4 tyX4_ok nmX4 hown hK hP hS (k := k) (by omega) (upk (by omega)) rfl 1 (by decide) (hts _ (List.mem_cons_of_mem _ (ac4 _ (List.mem_of_getElem? (i := 4) rfl)))) (fun _ h => h) rfl hin rfl (by decide +kernel) rfl rfl (Nat.le_of_ble_eq_true rfl) (dk kX4_init_ok 10 rfl) (up3) (fun H locs hP hS => ?_)
  refine lv_aload_n hx hb (dk kX4_init_ok 11 rfl) rfl (lv_at hl 0 rfl) ?_
  refine lv_iconst (v := nI 4) hx hb (dk kX4_init_ok 12 rfl) rfl ?_
  refine nwI hx hb (hts _ (List.mem_cons_of_mem _ (ac0 _ (List.mem_of_getElem? (i := 3) rfl)))) hK hP hS hb0 (by omega) 4 rfl (by decide) (Nat.le_of_ble_eq_true rfl) (Nat.le_of_ble_eq_true rfl) (dk kX4_init_ok 13 rfl) (fun H hP hS => ?_)
  have hP : va_P D vwCl (iW (pb b0) (k + 7) (va_up (va_up (va_up (w1N cI b0 F (k + 1)) (k + 5) (.inl (cI, 16, .inl (fun _ => 0)))) k (.inr (4, [.ref (pb b0 (k + 1)), .ref (pb b0 (k + 5)), .null, .null, .int (nI 0), .int (nI 0), .int (nI 0)]))) (k + 6) (.inl (cI, 4, .inl (fun _ => 0))))) H := hP
  refine pfF (va_up (va_up (va_up (w1N cI b0 F (k + 1)) (k + 5) (.inl (cI, 16, .inl (fun _ => 0)))) (k + 6) (.inl (cI, 4, .inl (fun _ => 0)))) k (.inr (4, [.ref (pb b0 (k + 1)), .ref (pb b0 (k + 5)), .ref (pb b0 (k + 6)), .null, .int (nI 0), .int (nI 0), .int (nI 0)]))) (ty := .array .int) hx hb hts (fun w h => List.mem_cons_of_mem _ (acX4 w h)) tyX4 tyX4_ok nmX4 hown hK hP hS (k := k) (by omega) (upk (by omega)) rfl 2 (by decide) (hts _ (List.mem_cons_of_mem _ (ac4 _ (List.mem_of_getElem? (i := 5) rfl)))) (fun _ h => h) rfl hin rfl (by decide +kernel) rfl rfl (Nat.le_of_ble_eq_true rfl) (dk kX4_init_ok 14 rfl) (up3) (fun H locs hP hS => ?_)
  refine lv_aload_n hx hb (dk kX4_init_ok 15 rfl) rfl (lv_at hl 0 rfl) ?_
  refine lv_iconst (v := nI 4) hx hb (dk kX4_init_ok 16 rfl) rfl ?_
  refine nwI hx hb (hts _ (List.mem_cons_of_mem _ (ac0 _ (List.mem_of_getElem? (i := 3) rfl)))) hK hP hS hb0 (by omega) 4 rfl (by decide) (Nat.le_of_ble_eq_true rfl) (Nat.le_of_ble_eq_true rfl) (dk kX4_init_ok 17 rfl) (fun H hP hS => ?_)
  have hP : va_P D vwCl (iW (pb b0) (k + 8) (va_up (va_up (va_up (va_up (w1N cI b0 F (k + 1)) (k + 5) (.inl (cI, 16, .inl (fun _ => 0)))) (k + 6) (.inl (cI, 4, .inl (fun _ => 0)))) k (.inr (4, [.ref (pb b0 (k + 1)), .ref (pb b0 (k + 5)), .ref (pb b0 (k + 6)), .null, .int (nI 0), .int (nI 0), .int (nI 0)]))) (k + 7) (.inl (cI, 4, .inl (fun _ => 0))))) H := hP
  refine pfF (va_up (va_up (va_up (va_up (w1N cI b0 F (k + 1)) (k + 5) (.inl (cI, 16, .inl (fun _ => 0)))) (k + 6) (.inl (cI, 4, .inl (fun _ => 0)))) (k + 7) (.inl (cI, 4, .inl (fun _ => 0)))) k (.inr (4, [.ref (pb b0 (k + 1)), .ref (pb b0 (k + 5)), .ref (pb b0 (k + 6)), .ref (pb b0 (k + 7)), .int (nI 0), .int (nI 0), .int (nI 0)]))) (ty := .array .int) hx hb hts (fun w h => List.mem_cons_of_mem _ (acX4 w h)) tyX4 tyX4_ok nmX4 hown hK hP hS (k := k) (by omega) (upk (by omega)) rfl 3 (by decide) (hts _ (List.mem_cons_of_mem _ (ac4 _ (List.mem_of_getElem? (i := 6) rfl)))) (fun _ h => h) rfl hin rfl (by decide +kernel) rfl rfl (Nat.le_of_ble_eq_true rfl) (dk kX4_init_ok 18 rfl) (up3) (fun H locs hP hS => ?_)
  refine lv_aload_n hx hb (dk kX4_init_ok 19 rfl) rfl (lv_at hl 0 rfl) ?_
  refine lv_iconst (v := nI 0) hx hb (dk kX4_init_ok 20 rfl) rfl ?_
  refine pfA (va_up (va_up (va_up (va_up (w1N cI b0 F (k + 1)) (k + 5) (.inl (cI, 16, .inl (fun _ => 0)))) (k + 6) (.inl (cI, 4, .inl (fun _ => 0)))) (k + 7) (.inl (cI, 4, .inl (fun _ => 0)))) k (.inr (4, [.ref (pb b0 (k + 1)), .ref (pb b0 (k + 5)), .ref (pb b0 (k + 6)), .ref (pb b0 (k + 7)), .int (nI 0), .int (nI 0), .int (nI 0)]))) (ty := .int) hx hb hts (fun w h => List.mem_cons_of_mem _ (acX4 w h)) tyX4 tyX4_ok nmX4 hown hK hP hS (k := k) (by omega) (va_up_self _ _ _) rfl 4 (by decide) (hts _ (List.mem_cons_of_mem _ (ac4 _ (List.mem_of_getElem? (i := 7) rfl)))) (fun _ h => h) rfl (by decide +kernel) rfl rfl (Nat.le_of_ble_eq_true rfl) (dk kX4_init_ok 21 rfl) (bx_uu _ _ _ _) (fun H locs hP hS => ?_)
  refine lv_aload_n hx hb (dk kX4_init_ok 22 rfl) rfl (lv_at hl 0 rfl) ?_
  refine lv_iconst (v := nI 0) hx hb (dk kX4_init_ok 23 rfl) rfl ?_
  refine pfA (va_up (va_up (va_up (va_up (w1N cI b0 F (k + 1)) (k + 5) (.inl (cI, 16, .inl (fun _ => 0)))) (k + 6) (.inl (cI, 4, .inl (fun _ => 0)))) (k + 7) (.inl (cI, 4, .inl (fun _ => 0)))) k (.inr (4, [.ref (pb b0 (k + 1)), .ref (pb b0 (k + 5)), .ref (pb b0 (k + 6)), .ref (pb b0 (k + 7)), .int (nI 0), .int (nI 0), .int (nI 0)]))) (ty := .int) hx hb hts (fun w h => List.mem_cons_of_mem _ (acX4 w h)) tyX4 tyX4_ok nmX4 hown hK hP hS (k := k) (by omega) (va_up_self _ _ _) rfl 5 (by decide) (hts _ (List.mem_cons_of_mem _ (ac4 _ (List.mem_of_getElem? (i := 8) rfl)))) (fun _ h => h) rfl (by decide +kernel) rfl rfl (Nat.le_of_ble_eq_true rfl) (dk kX4_init_ok 24 rfl) (bx_uu _ _ _ _) (fun H locs hP hS => ?_)
  refine lv_aload_n hx hb (dk kX4_init_ok 25 rfl) rfl (lv_at hl 0 rfl) ?_
  refine lv_iconst (v := nI 3) hx hb (dk kX4_init_ok 26 rfl) rfl ?_
  refine pfA (w4N cI b0 F k) (ty := .int) hx hb hts (fun w h => List.mem_cons_of_mem _ (acX4 w h)) tyX4 tyX4_ok nmX4 hown hK hP hS (k := k) (by omega) (va_up_self _ _ _) rfl 6 (by decide) (hts _ (List.mem_cons_of_mem _ (ac4 _ (List.mem_of_getElem? (i := 9) rfl)))) (fun _ h => h) rfl (by decide +kernel) rfl rfl (Nat.le_of_ble_eq_true rfl) (dk kX4_init_ok 27 rfl) (bx_uu _ _ _ _) (fun H locs hP hS => ?_)
  exact hret _ _ _ _ hP hS (dk kX4_init_ok 28 rfl)
def w2F (cI cQ : ClassId) (b0 : Nat) (F : Nat → va_E) (k : Nat) : Nat → va_E := va_up (w2R cI b0 F k 6) (k + 1) (.inl (cQ, 6, .inr (.inr (.inr (.inr (fun j => some (pb b0 (k + 2 + 8 * j))))))))
set_option maxRecDepth 100000 in
set_option maxHeartbeats 4000000 in
theorem tX2_init (l : Launch) (D : va_G) (cI cQ cL : ClassId) (b0 : Nat) (F : Nat → va_E) (k : Nat) (hF : F k = .inr (2, [.null, .int (nI 0), .int (nI 0)])) : MK l yX2_init (Cond.code yX2_init cX2_init 2 none :: AW) ({ frames := 4, cells := 49, slots := 498, locals := 83 } : Room) D cI cQ cL b0 (k + 1) F (k) (k + 50) (w2F cI cQ b0 F k) 49 498 := by
  refine mk_v (by decide +kernel) rfl (Nat.le_of_ble_eq_true rfl) rfl (fun p e s m below meth cd Q ls hx hb hml hown hts hin hsz hAO hP hK hNW hS hret hl => ?_)
  have hown : s.vm.findClass RX2 = some m.cls := hown
  have hb0 : b0 ≤ s.heap.size := by omega
  refine lv_aload_n hx hb (dk kX2_init_ok 0 rfl) rfl (lv_at hl 0 rfl) ?_
  refine W.objInit hx hb hown (hts _ (List.mem_cons_of_mem _ (ac4 _ (List.mem_of_getElem? (i := 13) rfl)))) (hts _ (List.mem_cons_of_mem _ (ac0 _ (List.mem_of_getElem? (i := 1) rfl)))) (hts _ (List.mem_cons_of_mem _ (ac0 _ (List.mem_of_getElem? (i := 2) rfl)))) rfl (by rw [hml]; exact hl.1) rfl (dk kX2_init_ok 1 rfl) (Nat.le_of_ble_eq_true rfl) (Nat.le_of_ble_eq_true rfl) ?_
  refine W.eq (g2 := F0 m 4 ls []) rfl ?_
  refine lv_aload_n hx hb (dk kX2_init_ok 2 rfl) rfl (lv_at hl 0 rfl) ?_
  refine lv_bipush (v := nI 6) hx hb (dk kX2_init_ok 3 rfl) rfl ?_
  refine nwQ hx hb hown (hts _ (List.mem_cons_of_mem _ (ac4 _ (List.mem_of_getElem? (i := 14) rfl)))) hAO hK hP hS hb0 (by omega) 6 rfl (by decide) (Nat.le_of_ble_eq_true rfl) (Nat.le_of_ble_eq_true rfl) (dk kX2_init_ok 4 rfl) (fun H hP hS => ?_)
  have hP : va_P D vwCl (iW (pb b0) (k + 2) (va_up F (k + 1) (.inl (cQ, 6, .inr (.inr (.inr (.inr (fun _ => none)))))))) H := hP
  refine pfF (va_up (va_up F (k + 1) (.inl (cQ, 6, .inr (.inr (.inr (.inr (fun _ => none))))))) k (.inr (2, [.ref (pb b0 (k + 1)), .int (nI 0), .int (nI 0)]))) (ty := .array (.object "SquopPiles$State")) hx hb hts (fun w h => List.mem_cons_of_mem _ (acX2 w h)) tyX2 tyX2_ok nmX2 hown hK hP hS (k := k) (by omega) (by rw [va_up_ne _ _ (by omega)]; exact hF) rfl 0 (by decide) (hts _ (List.mem_cons_of_mem _ (ac4 _ (List.mem_of_getElem? (i := 15) rfl)))) (fun _ h => h) rfl hin rfl (by decide +kernel) rfl rfl (Nat.le_of_ble_eq_true rfl) (dk kX2_init_ok 5 rfl) (rfl) (fun H locs hP hS => ?_)
  refine lv_aload_n hx hb (dk kX2_init_ok 6 rfl) rfl (lv_at hl 0 rfl) ?_
  refine lv_iconst (v := nI 0) hx hb (dk kX2_init_ok 7 rfl) rfl ?_
  refine pfA (va_up (va_up F (k + 1) (.inl (cQ, 6, .inr (.inr (.inr (.inr (fun _ => none))))))) k (.inr (2, [.ref (pb b0 (k + 1)), .int (nI 0), .int (nI 0)]))) (ty := .int) hx hb hts (fun w h => List.mem_cons_of_mem _ (acX2 w h)) tyX2 tyX2_ok nmX2 hown hK hP hS (k := k) (by omega) (va_up_self _ _ _) rfl 1 (by decide) (hts _ (List.mem_cons_of_mem _ (ac4 _ (List.mem_of_getElem? (i := 16) rfl)))) (fun _ h => h) rfl (by decide +kernel) rfl rfl (Nat.le_of_ble_eq_true rfl) (dk kX2_init_ok 8 rfl) (bx_uu _ _ _ _) (fun H locs hP hS => ?_)
  refine lv_aload_n hx hb (dk kX2_init_ok 9 rfl) rfl (lv_at hl 0 rfl) ?_
  refine lv_iconst (v := nI 0) hx hb (dk kX2_init_ok 10 rfl) rfl ?_
  refine pfA (va_up (va_up F (k + 1) (.inl (cQ, 6, .inr (.inr (.inr (.inr (fun _ => none))))))) k (.inr (2, [.ref (pb b0 (k + 1)), .int (nI 0), .int (nI 0)]))) (ty := .int) hx hb hts (fun w h => List.mem_cons_of_mem _ (acX2 w h)) tyX2 tyX2_ok nmX2 hown hK hP hS (k := k) (by omega) (va_up_self _ _ _) rfl 2 (by decide) (hts _ (List.mem_cons_of_mem _ (ac4 _ (List.mem_of_getElem? (i := 17) rfl)))) (fun _ h => h) rfl (by decide +kernel) rfl rfl (Nat.le_of_ble_eq_true rfl) (dk kX2_init_ok 11 rfl) (bx_uu _ _ _ _) (fun H locs hP hS => ?_)
  have hP : va_P D vwCl (iW (pb b0) (k + 2 + 8 * 0) (w2N cI cQ b0 F k 0)) H := by
    have e9 : w2A b0 k 0 = fun _ => none := by funext j; simp [w2A]
    rw [w2N, w2R, e9, ← up_sw (by omega)]
    exact hP
  refine lv_iconst (v := nI 0) hx hb (dk kX2_init_ok 12 rfl) rfl ?_
  refine lv_istore_n (lv' := [(1, .int (nI 0)), (0, .ref (pb b0 k))]) hx hb (dk kX2_init_ok 13 rfl) rfl hl (by decide) rfl (fun ls hl => ?_)
  have L25 : ∀ (fu i : Nat) (H : Heap) (locs : List Loc), va_P D vwCl (iW (pb b0) (k + 2 + 8 * i) (w2N cI cQ b0 F k i)) H → va_S (bA b0) s.heap H locs → i ≤ 6 → 6 - i < fu → ∀ ls : Array Slot, lv_has ls 2 [(0, .ref (pb b0 k)), (1, .int (nI i))] → W p l e ({ frames := 4, cells := 49, slots := 498, locals := 83 } : Room) s m #[.ref (pb b0 k)] below meth cd H locs (1 + 8 * i) (6 + 82 * i) Q (F0 m 25 ls []) := by
    intro fu
    induction fu with
    | zero => intros; omega
    | succ fu ih =>
      intro i H locs hP hS hi hm ls hl
      refine lv_iload_n hx hb (dk kX2_init_ok 14 rfl) rfl (lv_at hl 1 rfl) ?_
      refine lv_bipush (v := nI 6) hx hb (dk kX2_init_ok 15 rfl) rfl ?_
      refine n_icmp_ge (tgt := 50) hx hb (by omega) (by decide) (dk kX2_init_ok 16 rfl) (by decide) (fun h1 => ?_) (fun h1 => ?_)
      · have e9 : i = 6 := by omega
        subst e9
        have hP := iW_extq (g := fun j => some (pb b0 (k + 2 + 8 * j))) hP (fun j hj => if_pos hj)
        exact hret _ _ _ _ hP hS (dk kX2_init_ok 26 rfl)
      · refine lv_aload_n hx hb (dk kX2_init_ok 17 rfl) rfl (lv_at hl 0 rfl) ?_
        refine gf hx hb hts (fun w h => List.mem_cons_of_mem _ (acX2 w h)) hown hK hP (by omega) (by rw [w2N, va_up_ne _ _ (by omega)]; exact w2R_self i) rfl 0 (by decide) (hts _ (List.mem_cons_of_mem _ (ac4 _ (List.mem_of_getElem? (i := 15) rfl)))) (fun _ h => h) rfl (dk kX2_init_ok 18 rfl) ?_
        refine lv_iload_n hx hb (dk kX2_init_ok 19 rfl) rfl (lv_at hl 1 rfl) ?_
        refine nwO (ci := 4) hx hb hts (fun w h => List.mem_cons_of_mem _ (acX4 w h)) tyX4 tyX4_ok hown (hts _ (List.mem_cons_of_mem _ (ac4 _ (List.mem_of_getElem? (i := 14) rfl)))) (hts _ (List.mem_cons_of_mem _ (ac4 _ (List.mem_of_getElem? (i := 18) rfl)))) (hts _ (List.mem_cons_of_mem _ (ac4 _ (List.mem_of_getElem? (i := 19) rfl)))) hK hP hS hb0 (by omega) rfl [.null, .null, .null, .null, .int (nI 0), .int (nI 0), .int (nI 0)] (fun j hj => dv4 j hj) (by show 1 + 8 * i + 1 ≤ 49; omega) (by show 6 + 82 * i + 7 ≤ 498; omega) (dk kX2_init_ok 20 rfl) (fun H hP hS => ?_)
        refine lv_dup hx hb (dk kX2_init_ok 21 rfl) rfl ?_
        refine cvKN ⟨hx, hb, hml, hown, hts⟩ (tX4_init l D cI cQ cL b0 _ (k + 2 + 8 * i) (va_up_self _ _ _)) (cwIN9 hts mcX4_init (nm3 hNW) miX4_init mini_RX4 rfl rfl rfl hdX4_init ⟨Nat.le_of_ble_eq_true rfl, Nat.le_of_ble_eq_true rfl⟩) hAO hK hP hNW hS (by omega) (by omega) hl.1 rfl (Nat.le_of_ble_eq_true rfl) ⟨by show 1 + 8 * i + 1 + 7 ≤ 49; omega, by show 6 + 82 * i + 7 + 75 ≤ 498; omega⟩ (dk kX2_init_ok 22 rfl) (fun H locs hP hS => ?_)
        refine astQ (w2N cI cQ b0 F k (i + 1)) (j := i) (v := k + 2 + 8 * i) (k := k + 1) hx hb hK hP hS (by omega) (by rw [w4N_own, w4N_at (by omega), w2N, va_up_self]) (by omega) (by rw [w4N, va_up_self]) rfl (by omega) (by decide) (dk kX2_init_ok 23 rfl) w2_step (fun H locs hP hS => ?_)
        refine lv_iinc (v := nI (i + 1)) (lv' := [(1, .int (nI (i + 1))), (0, .ref (pb b0 k))]) hx hb (dk kX2_init_ok 24 rfl) hl (k := 1) rfl (n_inc _) (by decide) rfl (fun ls hl => ?_)
        refine lv_goto (tgt := 25) hx hb (dk kX2_init_ok 25 rfl) (by decide) ?_
        have hP : va_P D vwCl (iW (pb b0) (k + 2 + 8 * (i + 1)) (w2N cI cQ b0 F k (i + 1))) H := by
          rw [show k + 2 + 8 * (i + 1) = k + 2 + 8 * i + 8 by omega]
          exact hP
        have G := ih (i + 1) _ _ hP hS (by omega) (by omega) ls (lv_sub hl [1, 0] rfl)
        rw [show 1 + 8 * (i + 1) = 1 + 8 * i + 1 + 7 by omega, show 6 + 82 * (i + 1) = 6 + 82 * i + 7 + 75 by omega] at G
        exact G
  exact L25 7 0 _ _ hP hS (by omega) (by omega) ls (lv_sub hl [1, 0] rfl)
