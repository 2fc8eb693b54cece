/-! from cwinkspec -/
section
abbrev RSt : Type := (Nat → Int32) × (Nat → Int32) × (Nat → Int32)
def cRo (c : Nat → Int32) (s : RSt) : Nat → RSt
  | 0 => s
  | w + 1 => if pot c w = true then cRo c s w else few (cRo c s w).1 (cRo c s w).2.1 (cRo c s w).2.2 (ix (c w)) (decide (w % 4 < 2))
theorem cRo_0 {c : Nat → Int32} {s : RSt} : cRo c s 0 = s := rfl
theorem cRo_p {c : Nat → Int32} {s : RSt} {w : Nat} (h : pot c w = true) : cRo c s (w + 1) = cRo c s w := by simp only [cRo, h, if_true]
theorem cRo_n {c : Nat → Int32} {s : RSt} {w : Nat} (h : pot c w = false) : cRo c s (w + 1) = few (cRo c s w).1 (cRo c s w).2.1 (cRo c s w).2.2 (ix (c w)) (decide (w % 4 < 2)) := by simp only [cRo, h, Bool.false_eq_true, if_false]
def cFv (c : Nat → Int32) (s : RSt) (w : Nat) : Int32 := if pot c w = true then nI 0 else (few (cRo c s w).1 (cRo c s w).2.1 (cRo c s w).2.2 (ix (c w)) (decide (w % 4 < 2))).1 (if decide (w % 4 < 2) = true then ix (c w) else 169 + ix (c w))
def cwD (c b v g : Nat → Int32) (t : Nat) (s : RSt) : Nat → Int64 → Int64
  | 0, h => h
  | w + 1, h => mxd (mxd (fo (fun k9 => cWink c b v g t w (nI k9)) 7 (cwD c b v g t s w h)) (cLan c w (nI 3) 5).toInt64) (cFv c s w).toInt64
theorem cwD_p {c b v g : Nat → Int32} {t : Nat} {s : RSt} {w : Nat} {h : Int64} (hp : pot c w = true) : mxd (mxd (fo (fun k9 => cWink c b v g t w (nI k9)) 7 (cwD c b v g t s w h)) (cLan c w (nI 3) 5).toInt64) (nI 0).toInt64 = cwD c b v g t s (w + 1) h := by
  simp only [cwD, cFv, hp, if_true]
theorem cwD_n {c b v g : Nat → Int32} {t : Nat} {s : RSt} {w : Nat} {h : Int64} (hp : pot c w = false) : mxd (mxd (fo (fun k9 => cWink c b v g t w (nI k9)) 7 (cwD c b v g t s w h)) (cLan c w (nI 3) 5).toInt64) ((few (cRo c s w).1 (cRo c s w).2.1 (cRo c s w).2.2 (ix (c w)) (decide (w % 4 < 2))).1 (if decide (w % 4 < 2) = true then ix (c w) else 169 + ix (c w))).toInt64 = cwD c b v g t s (w + 1) h := by
  simp only [cwD, cFv, hp, Bool.false_eq_true, if_false]
theorem ro_touch {D : va_G} {cl : List vw_C} {cI : ClassId} {ad : Nat → Nat} {N : Nat} {F : Nat → va_E} {H : Heap} {k : Nat} {a d q : Nat → Int32} (hO : roAt cI ad F k a d q) (hP : va_P D cl (iW ad N F) H) : va_P D cl (iW ad N (roSet cI ad F k a d q)) H := by
  rw [roSet_self hO]
  exact hP
end
/-! from clwink -/
section
set_option maxRecDepth 100000 in
set_option maxHeartbeats 4000000 in
theorem tX5_withWinks (l : Launch) (D : va_G) (cI cQ cL : ClassId) (ad : Nat → Nat) (N : Nat) (F : Nat → va_E) (hk : 76 < N) (c b v g h j : Nat → Int32) (t : Nat) (u z : Int32) (hN : stAt cI ad F 1 c b v g h j (nI t) u z) (c8 b8 v8 g8 h8 j8 : Nat → Int32) (t8 : Nat) (u8 z8 : Int32) (hSn : stAt cI ad F 9 c8 b8 v8 g8 h8 j8 (nI t8) u8 z8) (n9 m9 : Nat) (hn9 : n9 < 6) (hm9 : m9 ≤ 6) (hPa : paAt cQ ad F 17 n9 m9) (a : Nat → Int32) (n : Nat) (hn60 : n ≤ 60) (hT : gtAt cI ad F 67 a n) (c6 b6 v6 : Nat → Int32) (hM6 : matAt cI ad F 69 c6 b6 v6) (a7 d7 q7 : Nat → Int32) (hO : roAt cI ad F 73 a7 d7 q7) (hs : Bool) (hC : F 0 = .inr (5, [.ref (ad 1), .ref (ad 9), .ref (ad 17), .ref (ad 67), .ref (ad 69), .ref (ad 73), .int (bI hs)])) (ht : t < 4) (hc9 : ∀ w, w < 16 → pot c w = false → cell9 (c w)) (x : Int64) : MX l yX5_withWinks (Cond.code yX5_withWinks cX5_withWinks 7 (some .long) :: AW) ({ frames := 9, cells := 0, slots := 0, locals := 146 } : Room) D cI cQ cL ad N F [.ref (ad 0), .long x] (dp (some (.long (cwD c b v g t (a7, d7, q7) 16 x))) (roSet cI ad F 73 (cRo c (a7, d7, q7) 16).1 (cRo c (a7, d7, q7) 16).2.1 (cRo c (a7, d7, q7) 16).2.2)) 0 0 := by
  refine mx_l (by decide +kernel) rfl (Nat.le_of_ble_eq_true rfl) (fun p e s m below meth cd Q ls hx hb hml hown hts hDi hP hK hNW hS hret hl => ?_)
  have hown : s.vm.findClass RX5 = some m.cls := hown
  have hz0 : 0 < N := by omega
  have hz1 : 1 < N := by omega
  have hz1___1 : 1 + 1 < N := by omega
  have hz1___1___1 : 1 + 1 + 1 < N := by omega
  have hz1___1___2 : 1 + 1 + 2 < N := by omega
  have hz1___1___3 : 1 + 1 + 3 < N := by omega
  have hz1___5 : 1 + 5 < N := by omega
  have hz1___6 : 1 + 6 < N := by omega
  have hz1___7 : 1 + 7 < N := by omega
  have hz9 : 9 < N := by omega
  have hz17 : 17 < N := by omega
  have hz17___1 : 17 + 1 < N := by omega
  have hz67 : 67 < N := by omega
  have hz67___1 : 67 + 1 < N := by omega
  have hz69 : 69 < N := by omega
  have hz69___1 : 69 + 1 < N := by omega
  have hz69___2 : 69 + 2 < N := by omega
  have hz69___3 : 69 + 3 < N := by omega
  have hz73 : 73 < N := by omega
  have hz1___1___3 : 1 + 1 + 3 < N := by omega
  have hz69___3 : 69 + 3 < N := by omega
  have hl : lv_has ls 7 [(0, .ref (ad 0)), (1, .long x)] := hl
  refine lv_lload_n hx hb (dk kX5_withWinks_ok 0 rfl) rfl (lv_at hl 1 rfl) ?_
  refine lv_lstore_n (lv' := [(3, .long x), (0, .ref (ad 0)), (1, .long x)]) hx hb (dk kX5_withWinks_ok 1 rfl) rfl hl (by decide) rfl (fun ls hl => ?_)
  refine lv_iconst (v := nI 0) hx hb (dk kX5_withWinks_ok 2 rfl) rfl ?_
  refine lv_istore (lv' := [(5, .int (nI 0)), (3, .long x), (0, .ref (ad 0)), (1, .long x)]) hx hb (dk kX5_withWinks_ok 3 rfl) hl (by decide) rfl (fun ls hl => ?_)
  have L5 : ∀ (fu : Nat) (w : Nat) (x3 : Int64) (H : Heap) (locs : List Loc), va_P D vwCl (iW ad N (roSet cI ad F 73 ((cRo c (a7, d7, q7) w).1) ((cRo c (a7, d7, q7) w).2.1) ((cRo c (a7, d7, q7) w).2.2))) H → va_S (iA ad N s.heap.size) s.heap H locs → x3 = cwD c b v g t (a7, d7, q7) w x → w ≤ 16 → 16 - w < fu → ∀ ls : Array Slot, lv_has ls 7 [(0, .ref (ad 0)), (1, .long x), (3, .long x3), (5, .int (nI w))] → W p l e ({ frames := 9, cells := 0, slots := 0, locals := 146 } : Room) s m ([.ref (ad 0), .long x] : List Value).toArray below meth cd H locs 0 0 Q (F0 m 5 ls []) := by
    intro fu
    induction fu with
    | zero => intros; omega
    | succ fu ih5 =>
      intro w x3 H locs hP hS ex3 hw hme5 ls hl
      subst ex3
      refine lv_iload hx hb (dk kX5_withWinks_ok 4 rfl) (lv_at hl 3 rfl) ?_
      refine lv_bipush (v := nI 16) hx hb (dk kX5_withWinks_ok 5 rfl) rfl ?_
      refine n_icmp_ge (tgt := 74) hx hb (by omega) (by decide) (dk kX5_withWinks_ok 6 rfl) (by decide) (fun h1 => ?_) (fun h1 => ?_)
      · skip
        refine lv_lload_n hx hb (dk kX5_withWinks_ok 40 rfl) rfl (lv_at hl 2 rfl) ?_
        exact hret _ _ _ _ _ _ _ _  (by rw [show w = 16 by omega]; exact ⟨rfl, rfl⟩) hP hS (by decide) (by decide) (dk kX5_withWinks_ok 41 rfl)
      · skip
        refine lv_iconst (v := nI 0) hx hb (dk kX5_withWinks_ok 7 rfl) rfl ?_
        refine lv_istore (lv' := [(6, .int (nI 0)), (0, .ref (ad 0)), (1, .long x), (3, .long (cwD c b v g t (a7, d7, q7) w x)), (5, .int (nI w))]) hx hb (dk kX5_withWinks_ok 8 rfl) hl (by decide) rfl (fun ls hl => ?_)
        have L15 : ∀ (fu : Nat) (i : Nat) (x3 : Int64) (H : Heap) (locs : List Loc), va_P D vwCl (iW ad N (roSet cI ad F 73 ((cRo c (a7, d7, q7) w).1) ((cRo c (a7, d7, q7) w).2.1) ((cRo c (a7, d7, q7) w).2.2))) H → va_S (iA ad N s.heap.size) s.heap H locs → x3 = fo (fun k9 => cWink c b v g t w (nI k9)) i (cwD c b v g t (a7, d7, q7) w x) → i ≤ 7 → 7 - i < fu → ∀ ls : Array Slot, lv_has ls 7 [(0, .ref (ad 0)), (1, .long x), (3, .long x3), (5, .int (nI w)), (6, .int (nI i))] → W p l e ({ frames := 9, cells := 0, slots := 0, locals := 146 } : Room) s m ([.ref (ad 0), .long x] : List Value).toArray below meth cd H locs 0 0 Q (F0 m 15 ls []) := by
          intro fu
          induction fu with
          | zero => intros; omega
          | succ fu ih15 =>
            intro i x3 H locs hP hS ex3 hi hme15 ls hl
            subst ex3
            refine lv_iload hx hb (dk kX5_withWinks_ok 9 rfl) (lv_at hl 4 rfl) ?_
            refine lv_bipush (v := nI 6) hx hb (dk kX5_withWinks_ok 10 rfl) rfl ?_
            refine n_icmp_gt (tgt := 42) hx hb (by omega) (by decide) (dk kX5_withWinks_ok 11 rfl) (by decide) (fun h2 => ?_) (fun h2 => ?_)
            · skip
              refine lv_lload_n hx hb (dk kX5_withWinks_ok 22 rfl) rfl (lv_at hl 2 rfl) ?_
              refine lv_aload_n hx hb (dk kX5_withWinks_ok 23 rfl) rfl (lv_at hl 0 rfl) ?_
              refine lv_iload hx hb (dk kX5_withWinks_ok 24 rfl) (lv_at hl 3 rfl) ?_
              refine lv_iconst (v := nI 3) hx hb (dk kX5_withWinks_ok 25 rfl) rfl ?_
              refine lv_iconst (v := nI 5) hx hb (dk kX5_withWinks_ok 26 rfl) rfl ?_
              refine cvR (As := [.int (nI w), .int (nI 3), .int (nI 5)]) (rest := [.long (fo (fun k9 => cWink c b v g t w (nI k9)) i (cwD c b v g t (a7, d7, q7) w x))]) ⟨hx, hb, hml, hown, hts⟩ (tX5_lands l D cI cQ cL ad N (roSet cI ad F 73 ((cRo c (a7, d7, q7) w).1) ((cRo c (a7, d7, q7) w).2.1) ((cRo c (a7, d7, q7) w).2.2)) (by omega) c b v g h j t u z (stAt_keep hN (fun i _ _ => roSet_out (by omega))) c8 b8 v8 g8 h8 j8 t8 u8 z8 (stAt_keep hSn (fun i _ _ => roSet_out (by omega))) n9 m9 hn9 hm9 (paAt_keep hPa (fun i _ _ => roSet_out (by omega))) a n hn60 (gtAt_keep hT (fun i _ _ => roSet_out (by omega))) c6 b6 v6 (matAt_keep hM6 (fun i _ _ => roSet_out (by omega))) ((cRo c (a7, d7, q7) w).1) ((cRo c (a7, d7, q7) w).2.1) ((cRo c (a7, d7, q7) w).2.2) roSet_at hs ((roSet_out (by omega)).trans hC) (nI w) w rfl (by omega) (nI 3) (btw_nI (by omega)) (nI 5) 5 rfl (by omega)) (cwV9 3 hts mcX5_lands (ac15 _ (List.mem_of_getElem? (i := 11) rfl)) miX5_lands meX5_lands mini_RX5 rfl rfl hdX5_lands ⟨Nat.le_of_ble_eq_true rfl, Nat.le_of_ble_eq_true rfl⟩) hK hP hNW hz0 ((roSet_out (by omega)).trans hC) rfl rfl hl.1 rfl (Nat.le_of_ble_eq_true rfl) (by decide) (dk kX5_withWinks_ok 27 rfl) ?_
              refine lv_i2l hx hb (dk kX5_withWinks_ok 28 rfl) rfl ?_
              refine csP (As := [.long (fo (fun k9 => cWink c b v g t w (nI k9)) i (cwD c b v g t (a7, d7, q7) w x)), .long ((cLan c w (nI 3) 5).toInt64)]) (rest := []) ⟨hx, hb, hml, hown, hts⟩ (tX5_mixed l (fo (fun k9 => cWink c b v g t w (nI k9)) i (cwD c b v g t (a7, d7, q7) w x)) ((cLan c w (nI 3) 5).toInt64)) (cwS9 2 hts mcX5_mixed (ac15 _ (List.mem_of_getElem? (i := 8) rfl)) msX5_mixed mini_RX5 rfl rfl hdX5_mixed ⟨Nat.le_of_ble_eq_true rfl, Nat.le_of_ble_eq_true rfl⟩) rfl hl.1 rfl (Nat.le_of_ble_eq_true rfl) (by decide) (dk kX5_withWinks_ok 29 rfl) ?_
              refine lv_lstore_n (lv' := [(3, .long (mxd (fo (fun k9 => cWink c b v g t w (nI k9)) i (cwD c b v g t (a7, d7, q7) w x)) ((cLan c w (nI 3) 5).toInt64))), (0, .ref (ad 0)), (1, .long x), (5, .int (nI w)), (6, .int (nI i))]) hx hb (dk kX5_withWinks_ok 30 rfl) rfl hl (by decide) rfl (fun ls hl => ?_)
              refine lv_lload_n hx hb (dk kX5_withWinks_ok 31 rfl) rfl (lv_at hl 0 rfl) ?_
              rcases (Bool.eq_false_or_eq_true (pot c w)) with hsp3 | hsp3
              · skip
                refine lv_aload_n hx hb (dk kX5_withWinks_ok 32 rfl) rfl (lv_at hl 1 rfl) ?_
                refine lv_iload hx hb (dk kX5_withWinks_ok 33 rfl) (lv_at hl 3 rfl) ?_
                refine cvR (As := [.int (nI w)]) (rest := [.long (mxd (fo (fun k9 => cWink c b v g t w (nI k9)) i (cwD c b v g t (a7, d7, q7) w x)) ((cLan c w (nI 3) 5).toInt64))]) ⟨hx, hb, hml, hown, hts⟩ (tX5_flightsToX l D cI cQ cL ad N (roSet cI ad F 73 ((cRo c (a7, d7, q7) w).1) ((cRo c (a7, d7, q7) w).2.1) ((cRo c (a7, d7, q7) w).2.2)) (by omega) c b v g h j t u z (stAt_keep hN (fun i _ _ => roSet_out (by omega))) c8 b8 v8 g8 h8 j8 t8 u8 z8 (stAt_keep hSn (fun i _ _ => roSet_out (by omega))) n9 m9 hn9 hm9 (paAt_keep hPa (fun i _ _ => roSet_out (by omega))) a n hn60 (gtAt_keep hT (fun i _ _ => roSet_out (by omega))) c6 b6 v6 (matAt_keep hM6 (fun i _ _ => roSet_out (by omega))) ((cRo c (a7, d7, q7) w).1) ((cRo c (a7, d7, q7) w).2.1) ((cRo c (a7, d7, q7) w).2.2) roSet_at hs ((roSet_out (by omega)).trans hC) (nI w) w rfl (by omega) hsp3) (cwV9 1 hts mcX5_flightsTo (ac15 _ (List.mem_of_getElem? (i := 15) rfl)) miX5_flightsTo meX5_flightsTo mini_RX5 rfl rfl hdX5_flightsTo ⟨Nat.le_of_ble_eq_true rfl, Nat.le_of_ble_eq_true rfl⟩) hK hP hNW hz0 ((roSet_out (by omega)).trans hC) rfl rfl hl.1 rfl (Nat.le_of_ble_eq_true rfl) (by decide) (dk kX5_withWinks_ok 34 rfl) ?_
                refine lv_i2l hx hb (dk kX5_withWinks_ok 35 rfl) rfl ?_
                refine csP (As := [.long (mxd (fo (fun k9 => cWink c b v g t w (nI k9)) i (cwD c b v g t (a7, d7, q7) w x)) ((cLan c w (nI 3) 5).toInt64)), .long ((nI 0).toInt64)]) (rest := []) ⟨hx, hb, hml, hown, hts⟩ (tX5_mixed l (mxd (fo (fun k9 => cWink c b v g t w (nI k9)) i (cwD c b v g t (a7, d7, q7) w x)) ((cLan c w (nI 3) 5).toInt64)) ((nI 0).toInt64)) (cwS9 2 hts mcX5_mixed (ac15 _ (List.mem_of_getElem? (i := 8) rfl)) msX5_mixed mini_RX5 rfl rfl hdX5_mixed ⟨Nat.le_of_ble_eq_true rfl, Nat.le_of_ble_eq_true rfl⟩) rfl hl.1 rfl (Nat.le_of_ble_eq_true rfl) (by decide) (dk kX5_withWinks_ok 36 rfl) ?_
                refine lv_lstore_n (lv' := [(3, .long (mxd (mxd (fo (fun k9 => cWink c b v g t w (nI k9)) i (cwD c b v g t (a7, d7, q7) w x)) ((cLan c w (nI 3) 5).toInt64)) ((nI 0).toInt64))), (0, .ref (ad 0)), (1, .long x), (5, .int (nI w)), (6, .int (nI i))]) hx hb (dk kX5_withWinks_ok 37 rfl) rfl hl (by decide) rfl (fun ls hl => ?_)
                refine lv_iinc (v := nI (w + 1)) (lv' := [(5, .int (nI (w + 1))), (3, .long (mxd (mxd (fo (fun k9 => cWink c b v g t w (nI k9)) i (cwD c b v g t (a7, d7, q7) w x)) ((cLan c w (nI 3) 5).toInt64)) ((nI 0).toInt64))), (0, .ref (ad 0)), (1, .long x), (6, .int (nI i))]) hx hb (dk kX5_withWinks_ok 38 rfl) hl (k := 3) rfl (n_inc _) (by decide) rfl (fun ls hl => ?_)
                refine lv_goto (tgt := 5) hx hb (dk kX5_withWinks_ok 39 rfl) (by decide) ?_
                exact ih5 (w + 1) _ _ _ (by first | (rw [cRo_0]; exact ro_touch hO hP) | (rw [cRo_p hsp3]; exact hP) | (rw [cRo_n hsp3]; exact hP)) hS (by obtain rfl : i = 7 := (by omega); first | exact cwD_p hsp3 | exact cwD_n hsp3) (by omega) (by omega) ls (lv_sub hl [2, 3, 1, 0] rfl)
              · skip
                refine lv_aload_n hx hb (dk kX5_withWinks_ok 32 rfl) rfl (lv_at hl 1 rfl) ?_
                refine lv_iload hx hb (dk kX5_withWinks_ok 33 rfl) (lv_at hl 3 rfl) ?_
                refine cvD (As := [.int (nI w)]) (rest := [.long (mxd (fo (fun k9 => cWink c b v g t w (nI k9)) i (cwD c b v g t (a7, d7, q7) w x)) ((cLan c w (nI 3) 5).toInt64))]) (roSet cI ad F 73 ((few ((cRo c (a7, d7, q7) w).1) ((cRo c (a7, d7, q7) w).2.1) ((cRo c (a7, d7, q7) w).2.2) (ix (c w)) (decide (w % 4 < 2))).1) ((few ((cRo c (a7, d7, q7) w).1) ((cRo c (a7, d7, q7) w).2.1) ((cRo c (a7, d7, q7) w).2.2) (ix (c w)) (decide (w % 4 < 2))).2.1) ((few ((cRo c (a7, d7, q7) w).1) ((cRo c (a7, d7, q7) w).2.1) ((cRo c (a7, d7, q7) w).2.2) (ix (c w)) (decide (w % 4 < 2))).2.2)) ⟨hx, hb, hml, hown, hts⟩ (tX5_flightsTo l D cI cQ cL ad N (roSet cI ad F 73 ((cRo c (a7, d7, q7) w).1) ((cRo c (a7, d7, q7) w).2.1) ((cRo c (a7, d7, q7) w).2.2)) (by omega) c b v g h j t u z (stAt_keep hN (fun i _ _ => roSet_out (by omega))) c8 b8 v8 g8 h8 j8 t8 u8 z8 (stAt_keep hSn (fun i _ _ => roSet_out (by omega))) n9 m9 hn9 hm9 (paAt_keep hPa (fun i _ _ => roSet_out (by omega))) a n hn60 (gtAt_keep hT (fun i _ _ => roSet_out (by omega))) c6 b6 v6 (matAt_keep hM6 (fun i _ _ => roSet_out (by omega))) ((cRo c (a7, d7, q7) w).1) ((cRo c (a7, d7, q7) w).2.1) ((cRo c (a7, d7, q7) w).2.2) roSet_at hs ((roSet_out (by omega)).trans hC) (nI w) w rfl (by omega) (hc9 w (by omega)) hsp3) (cwV9 1 hts mcX5_flightsTo (ac15 _ (List.mem_of_getElem? (i := 15) rfl)) miX5_flightsTo meX5_flightsTo mini_RX5 rfl rfl hdX5_flightsTo ⟨Nat.le_of_ble_eq_true rfl, Nat.le_of_ble_eq_true rfl⟩) hDi hK hP hNW hS hz0 ((roSet_out (by omega)).trans hC) rfl rfl hl.1 rfl (Nat.le_of_ble_eq_true rfl) (by decide) (dk kX5_withWinks_ok 34 rfl) roSet_roSet (fun H locs hP hS => ?_)
                refine lv_i2l hx hb (dk kX5_withWinks_ok 35 rfl) rfl ?_
                refine csP (As := [.long (mxd (fo (fun k9 => cWink c b v g t w (nI k9)) i (cwD c b v g t (a7, d7, q7) w x)) ((cLan c w (nI 3) 5).toInt64)), .long (((few ((cRo c (a7, d7, q7) w).1) ((cRo c (a7, d7, q7) w).2.1) ((cRo c (a7, d7, q7) w).2.2) (ix (c w)) (decide (w % 4 < 2))).1 (if decide (w % 4 < 2) = true then ix (c w) else 169 + ix (c w))).toInt64)]) (rest := []) ⟨hx, hb, hml, hown, hts⟩ (tX5_mixed l (mxd (fo (fun k9 => cWink c b v g t w (nI k9)) i (cwD c b v g t (a7, d7, q7) w x)) ((cLan c w (nI 3) 5).toInt64)) (((few ((cRo c (a7, d7, q7) w).1) ((cRo c (a7, d7, q7) w).2.1) ((cRo c (a7, d7, q7) w).2.2) (ix (c w)) (decide (w % 4 < 2))).1 (if decide (w % 4 < 2) = true then ix (c w) else 169 + ix (c w))).toInt64)) (cwS9 2 hts mcX5_mixed (ac15 _ (List.mem_of_getElem? (i := 8) rfl)) msX5_mixed mini_RX5 rfl rfl hdX5_mixed ⟨Nat.le_of_ble_eq_true rfl, Nat.le_of_ble_eq_true rfl⟩) rfl hl.1 rfl (Nat.le_of_ble_eq_true rfl) (by decide) (dk kX5_withWinks_ok 36 rfl) ?_
                refine lv_lstore_n (lv' := [(3, .long (mxd (mxd (fo (fun k9 => cWink c b v g t w (nI k9)) i (cwD c b v g t (a7, d7, q7) w x)) ((cLan c w (nI 3) 5).toInt64)) (((few ((cRo c (a7, d7, q7) w).1) ((cRo c (a7, d7, q7) w).2.1) ((cRo c (a7, d7, q7) w).2.2) (ix (c w)) (decide (w % 4 < 2))).1 (if decide (w % 4 < 2) = true then ix (c w) else 169 + ix (c w))).toInt64))), (0, .ref (ad 0)), (1, .long x), (5, .int (nI w)), (6, .int (nI i))]) hx hb (dk kX5_withWinks_ok 37 rfl) rfl hl (by decide) rfl (fun ls hl => ?_)
                refine lv_iinc (v := nI (w + 1)) (lv' := [(5, .int (nI (w + 1))), (3, .long (mxd (mxd (fo (fun k9 => cWink c b v g t w (nI k9)) i (cwD c b v g t (a7, d7, q7) w x)) ((cLan c w (nI 3) 5).toInt64)) (((few ((cRo c (a7, d7, q7) w).1) ((cRo c (a7, d7, q7) w).2.1) ((cRo c (a7, d7, q7) w).2.2) (ix (c w)) (decide (w % 4 < 2))).1 (if decide (w % 4 < 2) = true then ix (c w) else 169 + ix (c w))).toInt64))), (0, .ref (ad 0)), (1, .long x), (6, .int (nI i))]) hx hb (dk kX5_withWinks_ok 38 rfl) hl (k := 3) rfl (n_inc _) (by decide) rfl (fun ls hl => ?_)
                refine lv_goto (tgt := 5) hx hb (dk kX5_withWinks_ok 39 rfl) (by decide) ?_
                exact ih5 (w + 1) _ _ _ (by first | (rw [cRo_0]; exact ro_touch hO hP) | (rw [cRo_p hsp3]; exact hP) | (rw [cRo_n hsp3]; exact hP)) hS (by obtain rfl : i = 7 := (by omega); first | exact cwD_p hsp3 | exact cwD_n hsp3) (by omega) (by omega) ls (lv_sub hl [2, 3, 1, 0] rfl)
            · skip
              refine lv_lload_n hx hb (dk kX5_withWinks_ok 12 rfl) rfl (lv_at hl 2 rfl) ?_
              refine lv_aload_n hx hb (dk kX5_withWinks_ok 13 rfl) rfl (lv_at hl 0 rfl) ?_
              refine lv_iload hx hb (dk kX5_withWinks_ok 14 rfl) (lv_at hl 3 rfl) ?_
              refine lv_iload hx hb (dk kX5_withWinks_ok 15 rfl) (lv_at hl 4 rfl) ?_
              refine cvR (As := [.int (nI w), .int (nI i)]) (rest := [.long (fo (fun k9 => cWink c b v g t w (nI k9)) i (cwD c b v g t (a7, d7, q7) w x))]) ⟨hx, hb, hml, hown, hts⟩ (tX5_wink l D cI cQ cL ad N (roSet cI ad F 73 ((cRo c (a7, d7, q7) w).1) ((cRo c (a7, d7, q7) w).2.1) ((cRo c (a7, d7, q7) w).2.2)) (by omega) c b v g h j t u z (stAt_keep hN (fun i _ _ => roSet_out (by omega))) c8 b8 v8 g8 h8 j8 t8 u8 z8 (stAt_keep hSn (fun i _ _ => roSet_out (by omega))) n9 m9 hn9 hm9 (paAt_keep hPa (fun i _ _ => roSet_out (by omega))) a n hn60 (gtAt_keep hT (fun i _ _ => roSet_out (by omega))) c6 b6 v6 (matAt_keep hM6 (fun i _ _ => roSet_out (by omega))) ((cRo c (a7, d7, q7) w).1) ((cRo c (a7, d7, q7) w).2.1) ((cRo c (a7, d7, q7) w).2.2) roSet_at hs ((roSet_out (by omega)).trans hC) ht (nI w) w rfl (by omega) (nI i) (btw_nI ⟨Nat.zero_le _, by omega⟩)) (cwV9 2 hts mcX5_wink (ac15 _ (List.mem_of_getElem? (i := 4) rfl)) miX5_wink meX5_wink mini_RX5 rfl rfl hdX5_wink ⟨Nat.le_of_ble_eq_true rfl, Nat.le_of_ble_eq_true rfl⟩) hK hP hNW hz0 ((roSet_out (by omega)).trans hC) rfl rfl hl.1 rfl (Nat.le_of_ble_eq_true rfl) (by decide) (dk kX5_withWinks_ok 16 rfl) ?_
              refine lv_i2l hx hb (dk kX5_withWinks_ok 17 rfl) rfl ?_
              refine csP (As := [.long (fo (fun k9 => cWink c b v g t w (nI k9)) i (cwD c b v g t (a7, d7, q7) w x)), .long ((cWink c b v g t w (nI i)).toInt64)]) (rest := []) ⟨hx, hb, hml, hown, hts⟩ (tX5_mixed l (fo (fun k9 => cWink c b v g t w (nI k9)) i (cwD c b v g t (a7, d7, q7) w x)) ((cWink c b v g t w (nI i)).toInt64)) (cwS9 2 hts mcX5_mixed (ac15 _ (List.mem_of_getElem? (i := 8) rfl)) msX5_mixed mini_RX5 rfl rfl hdX5_mixed ⟨Nat.le_of_ble_eq_true rfl, Nat.le_of_ble_eq_true rfl⟩) rfl hl.1 rfl (Nat.le_of_ble_eq_true rfl) (by decide) (dk kX5_withWinks_ok 18 rfl) ?_
              refine lv_lstore_n (lv' := [(3, .long (mxd (fo (fun k9 => cWink c b v g t w (nI k9)) i (cwD c b v g t (a7, d7, q7) w x)) ((cWink c b v g t w (nI i)).toInt64))), (0, .ref (ad 0)), (1, .long x), (5, .int (nI w)), (6, .int (nI i))]) hx hb (dk kX5_withWinks_ok 19 rfl) rfl hl (by decide) rfl (fun ls hl => ?_)
              refine lv_iinc (v := nI (i + 1)) (lv' := [(6, .int (nI (i + 1))), (3, .long (mxd (fo (fun k9 => cWink c b v g t w (nI k9)) i (cwD c b v g t (a7, d7, q7) w x)) ((cWink c b v g t w (nI i)).toInt64))), (0, .ref (ad 0)), (1, .long x), (5, .int (nI w))]) hx hb (dk kX5_withWinks_ok 20 rfl) hl (k := 4) rfl (n_inc _) (by decide) rfl (fun ls hl => ?_)
              refine lv_goto (tgt := 15) hx hb (dk kX5_withWinks_ok 21 rfl) (by decide) ?_
              exact ih15 (i + 1) _ _ _ hP hS (by exact fo_s (A := (fun k9 => cWink c b v g t w (nI k9)))) (by omega) (by omega) ls (lv_sub hl [2, 3, 1, 4, 0] rfl)
        exact L15 _ 0 _ _ _ hP hS (by first | rfl | omega) (by first | rfl | omega) (Nat.lt_succ_self _) ls (lv_sub hl [1, 2, 3, 4, 0] rfl)
  exact L5 _ 0 _ _ _ (by first | (rw [cRo_0]; exact ro_touch hO hP) | (rw [cRo_p hpt]; exact hP) | (rw [cRo_n hpt]; exact hP)) hS (by first | rfl | omega) (by first | rfl | omega) (Nat.lt_succ_self _) ls (lv_sub hl [2, 3, 1, 0] rfl)
end
/-! from bits -/
section
theorem mini_RJxe99ae : Cond.initialized RJxe99ae ∈ AW := ac25 _ (List.mem_of_getElem? (i := 19) rfl)
theorem mini_RJxf58ca : Cond.initialized RJxf58ca ∈ AW := ac26 _ (List.mem_of_getElem? (i := 4) rfl)
set_option maxRecDepth 100000 in
set_option maxHeartbeats 4000000 in
theorem tJxe99ae_isNaN_b9ae7 (l : Launch) (x : UInt64) (hn : Op.cmpValue (FP.dcmp x x) .l = 0) : MP l yJxe99ae_isNaN_b9ae7 (Cond.code yJxe99ae_isNaN_b9ae7 cJxe99ae_isNaN_b9ae7 2 (some .boolean) :: AW) ({ frames := 0, cells := 0, slots := 0, locals := 0 } : Room) [.double x] (.int (nI 0)) := by
  refine mp_i (ty := .boolean) (by decide +kernel) rfl rfl rfl rfl (Nat.le_of_ble_eq_true rfl) (fun p e s m below meth cd Q ls hx hb hml hown hts hret hl => ?_)
  have hown : s.vm.findClass RJxe99ae = some m.cls := hown
  have hl : lv_has ls 2 [(0, .double x)] := hl
  refine lv_dload_n hx hb (dk kJxe99ae_isNaN_b9ae7_ok 0 rfl) rfl (lv_at hl 0 rfl) ?_
  refine lv_dload_n hx hb (dk kJxe99ae_isNaN_b9ae7_ok 1 rfl) rfl (lv_at hl 0 rfl) ?_
  refine lv_dcmp hx hb (dk kJxe99ae_isNaN_b9ae7_ok 2 rfl) ?_
  refine lv_if_eq (tgt := 10) hx hb (dk kJxe99ae_isNaN_b9ae7_ok 3 rfl) (by decide) (fun h1 => ?_) (fun h1 => ?_)
  · skip
    refine lv_iconst (v := nI 0) hx hb (dk kJxe99ae_isNaN_b9ae7_ok 6 rfl) rfl ?_
    exact hret _ _ _ (by rfl) (dk kJxe99ae_isNaN_b9ae7_ok 7 rfl)
  · exact absurd hn h1
set_option maxRecDepth 100000 in
set_option maxHeartbeats 4000000 in
theorem tJxe99ae_doubleToLongBits_ccdee (l : Launch) (x : UInt64) (hn : Op.cmpValue (FP.dcmp x x) .l = 0) : MP l yJxe99ae_doubleToLongBits_ccdee (Cond.code yJxe99ae_doubleToLongBits_ccdee cJxe99ae_doubleToLongBits_ccdee 2 (some .long) :: AW) ({ frames := 1, cells := 0, slots := 0, locals := 21 } : Room) [.double x] (.long ((x).toInt64)) := by
  refine mp_l (by decide +kernel) rfl (Nat.le_of_ble_eq_true rfl) (fun p e s m below meth cd Q ls hx hb hml hown hts hret hl => ?_)
  have hown : s.vm.findClass RJxe99ae = some m.cls := hown
  have hl : lv_has ls 2 [(0, .double x)] := hl
  refine lv_dload_n hx hb (dk kJxe99ae_doubleToLongBits_ccdee_ok 0 rfl) rfl (lv_at hl 0 rfl) ?_
  refine csP (As := [.double x]) (rest := []) ⟨hx, hb, hml, hown, hts⟩ (tJxe99ae_isNaN_b9ae7 l x hn) (cwS9 1 hts mcJxe99ae_isNaN_b9ae7 (ac25 _ (List.mem_of_getElem? (i := 17) rfl)) msJxe99ae_isNaN_b9ae7 mini_RJxe99ae rfl rfl hdJxe99ae_isNaN_b9ae7 ⟨Nat.le_of_ble_eq_true rfl, Nat.le_of_ble_eq_true rfl⟩) rfl hl.1 rfl (Nat.le_of_ble_eq_true rfl) (by decide) (dk kJxe99ae_doubleToLongBits_ccdee_ok 1 rfl) ?_
  refine n_if_ne (tgt := 12) hx hb (by decide) (dk kJxe99ae_doubleToLongBits_ccdee_ok 2 rfl) (by decide) (fun h9 => absurd h9 (by decide)) ?_
  intro _
  refine lv_dload_n hx hb (dk kJxe99ae_doubleToLongBits_ccdee_ok 3 rfl) rfl (lv_at hl 0 rfl) ?_
  refine vn_d2l hx hb (by rw [hml, hl.1]) hown (hts _ (List.mem_cons_of_mem _ (ac25 _ (List.mem_of_getElem? (i := 12) rfl)))) (hts _ (List.mem_cons_of_mem _ (ac25 _ (List.mem_of_getElem? (i := 13) rfl)))) (hts _ (List.mem_cons_of_mem _ (ac25 _ (List.mem_of_getElem? (i := 14) rfl)))) (hts _ (List.mem_cons_of_mem _ (ac25 _ (List.mem_of_getElem? (i := 15) rfl)))) (Nat.le_of_ble_eq_true rfl) (Nat.le_of_ble_eq_true rfl) (dk kJxe99ae_doubleToLongBits_ccdee_ok 4 rfl) ?_
  exact hret _ _ _ (by rfl) (dk kJxe99ae_doubleToLongBits_ccdee_ok 5 rfl)
end
/-! from floats -/
section
theorem ofWF {l : Launch} {y : MethodName} {ws ws' : List Cond} {rm : Room} {Pc : Array Value → State → Prop} {Qc : Array Value → State → Outcome → State → Prop} {mc ms : Nat} {free : Addr → Prop} {cc : ByteArray} {maxL : Nat} {ret : Option FieldType}
    (hy : plainFor y = true) (hw : ws = Cond.code y cc maxL ret :: ws')
    (body : ∀ p e s m args below meth c s₁, BodyLoose p l y (headSpec ws rm) cc maxL ret e s m args below meth c s₁ → c.maxLocals = maxL → Pc args s →
      W p l e (headSpec ws rm).room s m args below meth c s.heap [] 0 0 (MQ below Qc args s mc ms free) (entryFrame m args maxL)) : Met l y ws rm Pc Qc mc ms free := by
  refine MetFree.of_bodySF (code := cc) (maxLocals := maxL) (ret := ret) hy ?_ ?_
  · intro args s m h hn
    obtain ⟨meth, c, h1, h2, h3, h4, h5, h6, -, -⟩ := Cond.code_spec hn (atoms_spec (ws := ws) h _ (by rw [hw]; exact List.mem_cons_self))
    exact ⟨meth, c, h1, h2, h3, h4, h5, h6⟩
  · intro p e s m args below meth c s₁ B hml hP _
    have hh0 : s₁.heap = s.heap := by rw [B.state]; rfl
    obtain ⟨t, a1, o, b1, b2, b3⟩ := body p e s m args below meth c s₁ B hml hP s₁ hh0 (Stand.of_body B)
    exact ⟨t, o, a1, b1, b2, ⟨b3.1, b3.2⟩⟩
theorem mp_iF {l : Launch} {y : MethodName} {ws ws' : List Cond} {rm : Room} {cc : ByteArray} {maxL : Nat} {args : List Value} {ty : FieldType} {r : Int32} (hy : plainFor y = true) (hw : ws = Cond.code y cc maxL (some ty) :: ws') (hn : narrow ty (.int r) = .int r) (hlen : (lg_sl args).length ≤ maxL)
    (body : ∀ (p : Program) (e : Env) (s : State) (m : MethodId) (below : List Frame) (meth : Method) (c : Code) (Q : State → Prop) (ls : Array Slot),
      p.tables.exec = Jvm.exec → c.code = cc → c.maxLocals = maxL → s.vm.findClass y.cls = some m.cls → (∀ w ∈ ws, w.before args.toArray s = true) →
      (∀ (pc : Nat) (ls : Array Slot) (v : Int32), v = r → decode cc pc = .ok (.ireturn, 1) → W p l e rm s m args.toArray below meth c s.heap [] 0 0 Q (F0 m pc ls [.int v])) →
      lv_has ls maxL (lv_args 0 args) → W p l e rm s m args.toArray below meth c s.heap [] 0 0 Q (F0 m 0 ls [])) : MP l y ws rm args (.int r) := by
  refine ofWF (cc := cc) (maxL := maxL) (ret := some ty) hy hw ?_
  intro p e s m args9 below meth c s₁ B hml hv
  obtain ⟨rfl, -⟩ := hv
  have hl := lv_entry args (n := maxL) hlen
  rw [lg_entry_eq]
  exact body p e s m below meth c _ _ B.exec B.bytes hml (findClass_of_methodNamed B.named) (atoms_spec B.pre) (fun pc ls v hv hd => by
    subst hv
    exact W.zret B.exec B.bytes B.returns hn (fun t ht _ => ⟨rfl, ht⟩) (fun _ h => nomatch h) hd B.notSynchronized) hl
end
/-! from floats2 -/
section
set_option maxRecDepth 100000 in
set_option maxHeartbeats 4000000 in
theorem tJxf58ca_isNaN_12338 (l : Launch) (x : UInt32) (hn : Op.cmpValue (FP.fcmp x x) .l = 0) : MP l yJxf58ca_isNaN_12338 (Cond.code yJxf58ca_isNaN_12338 cJxf58ca_isNaN_12338 1 (some .boolean) :: AW) ({ frames := 0, cells := 0, slots := 0, locals := 0 } : Room) [.float x] (.int (nI 0)) := by
  refine mp_iF (ty := .boolean) (by decide +kernel) rfl rfl (Nat.le_of_ble_eq_true rfl) (fun p e s m below meth cd Q ls hx hb hml hown hts hret hl => ?_)
  have hown : s.vm.findClass RJxf58ca = some m.cls := hown
  have hl : lv_has ls 1 [(0, .float x)] := hl
  refine lv_fload_n hx hb (dk kJxf58ca_isNaN_12338_ok 0 rfl) rfl (lv_at hl 0 rfl) ?_
  refine lv_fload_n hx hb (dk kJxf58ca_isNaN_12338_ok 1 rfl) rfl (lv_at hl 0 rfl) ?_
  refine lv_fcmp hx hb (dk kJxf58ca_isNaN_12338_ok 2 rfl) ?_
  refine lv_if_eq (tgt := 10) hx hb (dk kJxf58ca_isNaN_12338_ok 3 rfl) (by decide) (fun h1 => ?_) (fun h1 => ?_)
  · skip
    refine lv_iconst (v := nI 0) hx hb (dk kJxf58ca_isNaN_12338_ok 6 rfl) rfl ?_
    exact hret _ _ _ (by rfl) (dk kJxf58ca_isNaN_12338_ok 7 rfl)
  · exact absurd hn h1
set_option maxRecDepth 100000 in
set_option maxHeartbeats 4000000 in
theorem tJxf58ca_floatToIntBits_5c35a (l : Launch) (x : UInt32) (hn : Op.cmpValue (FP.fcmp x x) .l = 0) : MP l yJxf58ca_floatToIntBits_5c35a (Cond.code yJxf58ca_floatToIntBits_5c35a cJxf58ca_floatToIntBits_5c35a 1 (some .int) :: AW) ({ frames := 1, cells := 0, slots := 0, locals := 20 } : Room) [.float x] (.int ((x).toInt32)) := by
  refine mp_iF (ty := .int) (by decide +kernel) rfl rfl (Nat.le_of_ble_eq_true rfl) (fun p e s m below meth cd Q ls hx hb hml hown hts hret hl => ?_)
  have hown : s.vm.findClass RJxf58ca = some m.cls := hown
  have hl : lv_has ls 1 [(0, .float x)] := hl
  refine lv_fload_n hx hb (dk kJxf58ca_floatToIntBits_5c35a_ok 0 rfl) rfl (lv_at hl 0 rfl) ?_
  refine csP (As := [.float x]) (rest := []) ⟨hx, hb, hml, hown, hts⟩ (tJxf58ca_isNaN_12338 l x hn) (cwS9 1 hts mcJxf58ca_isNaN_12338 (ac26 _ (List.mem_of_getElem? (i := 2) rfl)) msJxf58ca_isNaN_12338 mini_RJxf58ca rfl rfl hdJxf58ca_isNaN_12338 ⟨Nat.le_of_ble_eq_true rfl, Nat.le_of_ble_eq_true rfl⟩) rfl hl.1 rfl (Nat.le_of_ble_eq_true rfl) (by decide) (dk kJxf58ca_floatToIntBits_5c35a_ok 1 rfl) ?_
  refine n_if_ne (tgt := 12) hx hb (by decide) (dk kJxf58ca_floatToIntBits_5c35a_ok 2 rfl) (by decide) (fun h9 => absurd h9 (by decide)) ?_
  intro _
  refine lv_fload_n hx hb (dk kJxf58ca_floatToIntBits_5c35a_ok 3 rfl) rfl (lv_at hl 0 rfl) ?_
  refine vn_f2i hx hb (by rw [hml, hl.1]) hown (hts _ (List.mem_cons_of_mem _ (ac25 _ (List.mem_of_getElem? (i := 21) rfl)))) (hts _ (List.mem_cons_of_mem _ (ac25 _ (List.mem_of_getElem? (i := 22) rfl)))) (hts _ (List.mem_cons_of_mem _ (ac25 _ (List.mem_of_getElem? (i := 23) rfl)))) (hts _ (List.mem_cons_of_mem _ (ac26 _ (List.mem_of_getElem? (i := 0) rfl)))) (Nat.le_of_ble_eq_true rfl) (Nat.le_of_ble_eq_true rfl) (dk kJxf58ca_floatToIntBits_5c35a_ok 4 rfl) ?_
  exact hret _ _ _ (by rfl) (dk kJxf58ca_floatToIntBits_5c35a_ok 5 rfl)
end
/-! from digspec -/
section
theorem shr_cmp {n : Nat} (h : n ≤ 16) : Op.cmpValue (FP.dcmp (shr n) (shr n)) .l = 0 := (show ∀ n, n < 17 → Op.cmpValue (FP.dcmp (shr n) (shr n)) .l = 0 by decide +kernel) n (by omega)
theorem mea_cmp {p n : Nat} (h : n ≤ 16) (hp : p ≤ 16) : Op.cmpValue (FP.fcmp (mea p n) (mea p n)) .l = 0 := (show ∀ p, p < 17 → ∀ n, n < 17 → Op.cmpValue (FP.fcmp (mea p n) (mea p n)) .l = 0 by decide +kernel) p (by omega) n (by omega)
def rd1 (r : Nat → Int32) (nf : Nat → Nat) (st : Nat) : Int64 := foP (fun w9 => decide (hgt r (nI w9) = 0)) (fun w9 k9 => aPile r (nI w9) k9) 4 169 (rwE r nf (fo (fun k9 => aNum r st k9) 14 3823))
def rd2 (r : Nat → Int32) (nf : Nat → Nat) (st : Nat) (sd : Nat → Int32) : Int64 := mxd (mxd (mxd (rd1 r nf st) (rbst r sd 288).1.toInt64) (shr (potn r)).toInt64) (mea (rpl r) (potn r)).toInt32.toInt64
def rd3 (r : Nat → Int32) (nf : Nat → Nat) (st : Nat) (sd : Nat → Int32) (hs : Bool) (ln : Nat) : Int64 := mxd (mxd (rd2 r nf st sd) (bI hs).toInt64) (nI ln).toInt64
end
/-! from refdig -/
section
set_option maxRecDepth 100000 in
set_option maxHeartbeats 4000000 in
theorem tX6_digest (l : Launch) (D : va_G) (cI cQ cL : ClassId) (ad : Nat → Nat) (N : Nat) (F : Nat → va_E) (k : Nat) (hk : k + 7 < N) (r ps sl sd ne fa bu : Nat → Int32) (hs : Bool) (st ln pt : Nat) (th : Int32) (hR : rfAt cI ad F k r ps sl sd ne fa bu hs st ln pt th) (nf : Nat → Nat) (hnf : rNF r nf) (hrk : rok r) (hln : ln ≤ 60) : MX l yX6_digest (Cond.code yX6_digest cX6_digest 4 (some .long) :: AW) ({ frames := 7, cells := 0, slots := 0, locals := 163 } : Room) D cI cQ cL ad N F [.ref (ad k)] (fun v9 G9 => v9 = some (.long (fo bu ln (rd3 r nf st sd hs ln))) ∧ ∃ ne9 fa9, G9 = rfSet cI ad F k r ps sl ((rbst r sd 288).2.2) ne9 fa9 bu hs st ln pt (nI 0)) 0 0 := by
  refine mx_l (by decide +kernel) rfl (Nat.le_of_ble_eq_true rfl) (fun p e s m below meth cd Q ls hx hb hml hown hts hDi hP hK hNW hS hret hl => ?_)
  have hown : s.vm.findClass RX6 = some m.cls := hown
  have hk0 : k < N := by omega
  have hk1 : k + 1 < N := by omega
  have hk2 : k + 2 < N := by omega
  have hk3 : k + 3 < N := by omega
  have hk4 : k + 4 < N := by omega
  have hk5 : k + 5 < N := by omega
  have hk6 : k + 6 < N := by omega
  have hk7 : k + 7 < N := by omega
  have hP : va_P D vwCl (iW ad N (rfSet cI ad F k r ps sl sd ne fa bu hs st ln pt th)) s.heap := by rw [rfSet_self hR]; exact hP
  have hl : lv_has ls 4 [(0, .ref (ad k))] := hl
  refine lv_aload_n hx hb (dk kX6_digest_0_ok 0 rfl) rfl (lv_at hl 0 rfl) ?_
  refine lv_iconst (v := nI 0) hx hb (dk kX6_digest_0_ok 1 rfl) rfl ?_
  refine pf (rfSet cI ad F k r ps sl sd ne fa bu hs st ln pt (nI 0)) hx hb hts (fun w h => List.mem_cons_of_mem _ (acX6 w h)) tyX6 tyX6_ok nmX6 hown hK hDi hP hS hk0 rfSet_at.1 rfl 11 (by decide) (hts _ (List.mem_cons_of_mem _ (ac18 _ (List.mem_of_getElem? (i := 4) rfl)))) (fun _ h => h) rfl (ty := .int) rfl rfl rfl (Nat.le_of_ble_eq_true rfl) (dk kX6_digest_0_ok 2 rfl) rfSet_u0 (fun H locs hP hS => ?_)
  refine lv_ldc2 (v := (3823)) hx hb hown (hts _ (List.mem_cons_of_mem _ (ac26 _ (List.mem_of_getElem? (i := 6) rfl)))) (dk kX6_digest_0_ok 3 rfl) ?_
  refine lv_lstore_n (lv' := [(1, .long 3823), (0, .ref (ad k))]) hx hb (dk kX6_digest_0_ok 4 rfl) rfl hl (by decide) rfl (fun ls hl => ?_)
  refine lv_iconst (v := nI 0) hx hb (dk kX6_digest_0_ok 5 rfl) rfl ?_
  refine lv_istore_n (lv' := [(3, .int (nI 0)), (1, .long 3823), (0, .ref (ad k))]) hx hb (dk kX6_digest_0_ok 6 rfl) rfl hl (by decide) rfl (fun ls hl => ?_)
  have L11 : ∀ (fu : Nat) (i : Nat) (x1 : Int64) (H : Heap) (locs : List Loc), va_P D vwCl (iW ad N (rfSet cI ad F k r ps sl sd ne fa bu hs st ln pt (nI 0))) H → va_S (iA ad N s.heap.size) s.heap H locs → x1 = fo (fun k9 => aNum r st k9) i 3823 → i ≤ 14 → 14 - i < fu → ∀ ls : Array Slot, lv_has ls 4 [(0, .ref (ad k)), (1, .long x1), (3, .int (nI i))] → W p l e ({ frames := 7, cells := 0, slots := 0, locals := 163 } : Room) s m ([.ref (ad k)] : List Value).toArray below meth cd H locs 0 0 Q (F0 m 11 ls []) := by
    intro fu
    induction fu with
    | zero => intros; omega
    | succ fu ih11 =>
      intro i x1 H locs hP hS ex1 hi hme11 ls hl
      subst ex1
      refine lv_iload_n hx hb (dk kX6_digest_0_ok 7 rfl) rfl (lv_at hl 2 rfl) ?_
      refine lv_bipush (v := nI 14) hx hb (dk kX6_digest_0_ok 8 rfl) rfl ?_
      refine n_icmp_ge (tgt := 36) hx hb (by omega) (by decide) (dk kX6_digest_0_ok 9 rfl) (by decide) (fun h1 => ?_) (fun h1 => ?_)
      · skip
        refine lv_aload_n hx hb (dk kX6_digest_0_ok 21 rfl) rfl (lv_at hl 0 rfl) ?_
        refine lv_aload_n hx hb (dk kX6_digest_0_ok 22 rfl) rfl (lv_at hl 0 rfl) ?_
        refine lv_lload_n hx hb (dk kX6_digest_0_ok 23 rfl) rfl (lv_at hl 1 rfl) ?_
        refine cvE (As := [.long (fo (fun k9 => aNum r st k9) i 3823)]) (rest := [.ref (ad k)]) ⟨hx, hb, hml, hown, hts⟩ (tX6_ofWinks l D cI cQ cL ad N (rfSet cI ad F k r ps sl sd ne fa bu hs st ln pt (nI 0)) k hk r ps sl sd ne fa bu hs st ln pt (nI 0) (rfSet_at) (fo (fun k9 => aNum r st k9) i 3823) nf hnf) (cwV9 1 hts mcX6_ofWinks (ac26 _ (List.mem_of_getElem? (i := 7) rfl)) miX6_ofWinks meX6_ofWinks mini_RX6 rfl rfl hdX6_ofWinks ⟨Nat.le_of_ble_eq_true rfl, Nat.le_of_ble_eq_true rfl⟩) hDi hK hP hNW hS hk0 rfSet_at.1 rfl rfl hl.1 rfl (Nat.le_of_ble_eq_true rfl) (by decide) (dk kX6_digest_0_ok 24 rfl) (fun G9 H locs hp9 hP hS => ?_)
        obtain ⟨ne9, fa9, rfl⟩ := hp9
        rw [rfSet_rfSet] at hP
        refine cvR (As := [.long (rwE r nf (fo (fun k9 => aNum r st k9) i 3823))]) (rest := []) ⟨hx, hb, hml, hown, hts⟩ (tX6_ofCells l D cI cQ cL ad N (rfSet cI ad F k r ps sl sd ne9 fa9 bu hs st ln pt (nI 0)) k hk r ps sl sd ne9 fa9 bu hs st ln pt (nI 0) (rfSet_at) (rwE r nf (fo (fun k9 => aNum r st k9) i 3823))) (cwV9 1 hts mcX6_ofCells (ac26 _ (List.mem_of_getElem? (i := 11) rfl)) miX6_ofCells meX6_ofCells mini_RX6 rfl rfl hdX6_ofCells ⟨Nat.le_of_ble_eq_true rfl, Nat.le_of_ble_eq_true rfl⟩) hK hP hNW hk0 rfSet_at.1 rfl rfl hl.1 rfl (Nat.le_of_ble_eq_true rfl) (by decide) (dk kX6_digest_0_ok 25 rfl) ?_
        refine lv_lstore_n (lv' := [(1, .long (foP (fun w9 => decide (hgt r (nI w9) = 0)) (fun w9 k9 => aPile r (nI w9) k9) 4 169 (rwE r nf (fo (fun k9 => aNum r st k9) i 3823)))), (0, .ref (ad k)), (3, .int (nI i))]) hx hb (dk kX6_digest_0_ok 26 rfl) rfl hl (by decide) rfl (fun ls hl => ?_)
        refine lv_ldc2 (v := (31)) hx hb hown (hts _ (List.mem_cons_of_mem _ (ac25 _ (List.mem_of_getElem? (i := 11) rfl)))) (dk kX6_digest_0_ok 27 rfl) ?_
        refine lv_lload_n hx hb (dk kX6_digest_0_ok 28 rfl) rfl (lv_at hl 0 rfl) ?_
        refine lv_lmul hx hb (dk kX6_digest_0_ok 29 rfl) ?_
        refine lv_aload_n hx hb (dk kX6_digest_0_ok 30 rfl) rfl (lv_at hl 1 rfl) ?_
        refine cvD (As := []) (rest := [.long (31 * (foP (fun w9 => decide (hgt r (nI w9) = 0)) (fun w9 k9 => aPile r (nI w9) k9) 4 169 (rwE r nf (fo (fun k9 => aNum r st k9) i 3823))))]) (rfSet cI ad F k r ps sl ((rbst r sd 288).2.2) ne9 fa9 bu hs st ln pt (nI 0)) ⟨hx, hb, hml, hown, hts⟩ (tX6_bestFlight l D cI cQ cL ad N (rfSet cI ad F k r ps sl sd ne9 fa9 bu hs st ln pt (nI 0)) k hk r ps sl sd ne9 fa9 bu hs st ln pt (nI 0) (rfSet_at) hrk) (cwV9 0 hts mcX6_bestFlight (ac25 _ (List.mem_of_getElem? (i := 2) rfl)) miX6_bestFlight meX6_bestFlight mini_RX6 rfl rfl hdX6_bestFlight ⟨Nat.le_of_ble_eq_true rfl, Nat.le_of_ble_eq_true rfl⟩) hDi hK hP hNW hS hk0 rfSet_at.1 rfl rfl hl.1 rfl (Nat.le_of_ble_eq_true rfl) (by decide) (dk kX6_digest_0_ok 31 rfl) rfSet_rfSet (fun H locs hP hS => ?_)
        refine lv_i2l hx hb (dk kX6_digest_0_ok 32 rfl) rfl ?_
        refine lv_ladd hx hb (dk kX6_digest_0_ok 33 rfl) ?_
        refine lv_lstore_n (lv' := [(1, .long ((31 * (foP (fun w9 => decide (hgt r (nI w9) = 0)) (fun w9 k9 => aPile r (nI w9) k9) 4 169 (rwE r nf (fo (fun k9 => aNum r st k9) i 3823)))) + (((rbst r sd 288).1).toInt64))), (0, .ref (ad k)), (3, .int (nI i))]) hx hb (dk kX6_digest_0_ok 34 rfl) rfl hl (by decide) rfl (fun ls hl => ?_)
        refine lv_ldc2 (v := (31)) hx hb hown (hts _ (List.mem_cons_of_mem _ (ac25 _ (List.mem_of_getElem? (i := 11) rfl)))) (dk kX6_digest_0_ok 35 rfl) ?_
        refine lv_lload_n hx hb (dk kX6_digest_0_ok 36 rfl) rfl (lv_at hl 0 rfl) ?_
        refine lv_lmul hx hb (dk kX6_digest_0_ok 37 rfl) ?_
        refine lv_aload_n hx hb (dk kX6_digest_0_ok 38 rfl) rfl (lv_at hl 1 rfl) ?_
        refine cvD (As := []) (rest := [.long (31 * ((31 * (foP (fun w9 => decide (hgt r (nI w9) = 0)) (fun w9 k9 => aPile r (nI w9) k9) 4 169 (rwE r nf (fo (fun k9 => aNum r st k9) i 3823)))) + (((rbst r sd 288).1).toInt64)))]) (rfSet cI ad F k r ps sl ((rbst r sd 288).2.2) ne9 fa9 bu hs st ln pt (nI 0)) ⟨hx, hb, hml, hown, hts⟩ (tX6_pottedShare l D cI cQ cL ad N (rfSet cI ad F k r ps sl ((rbst r sd 288).2.2) ne9 fa9 bu hs st ln pt (nI 0)) k hk r ps sl ((rbst r sd 288).2.2) ne9 fa9 bu hs st ln pt (nI 0) (rfSet_at)) (cwV9 0 hts mcX6_pottedShare (ac26 _ (List.mem_of_getElem? (i := 15) rfl)) miX6_pottedShare meX6_pottedShare mini_RX6 rfl rfl hdX6_pottedShare ⟨Nat.le_of_ble_eq_true rfl, Nat.le_of_ble_eq_true rfl⟩) hDi hK hP hNW hS hk0 rfSet_at.1 rfl rfl hl.1 rfl (Nat.le_of_ble_eq_true rfl) (by decide) (dk kX6_digest_0_ok 39 rfl) rfSet_rfSet (fun H locs hP hS => ?_)
        refine csP (As := [.double (shr (potn r))]) (rest := [.long (31 * ((31 * (foP (fun w9 => decide (hgt r (nI w9) = 0)) (fun w9 k9 => aPile r (nI w9) k9) 4 169 (rwE r nf (fo (fun k9 => aNum r st k9) i 3823)))) + (((rbst r sd 288).1).toInt64)))]) ⟨hx, hb, hml, hown, hts⟩ (tJxe99ae_doubleToLongBits_ccdee l (shr (potn r)) (shr_cmp (potn_le r))) (cwS9 1 hts mcJxe99ae_doubleToLongBits_ccdee (ac26 _ (List.mem_of_getElem? (i := 19) rfl)) msJxe99ae_doubleToLongBits_ccdee mini_RJxe99ae rfl rfl hdJxe99ae_doubleToLongBits_ccdee ⟨Nat.le_of_ble_eq_true rfl, Nat.le_of_ble_eq_true rfl⟩) rfl hl.1 rfl (Nat.le_of_ble_eq_true rfl) (by decide) (dk kX6_digest_0_ok 40 rfl) ?_
        refine lv_ladd hx hb (dk kX6_digest_0_ok 41 rfl) ?_
        refine lv_lstore_n (lv' := [(1, .long ((31 * ((31 * (foP (fun w9 => decide (hgt r (nI w9) = 0)) (fun w9 k9 => aPile r (nI w9) k9) 4 169 (rwE r nf (fo (fun k9 => aNum r st k9) i 3823)))) + (((rbst r sd 288).1).toInt64))) + ((shr (potn r)).toInt64))), (0, .ref (ad k)), (3, .int (nI i))]) hx hb (dk kX6_digest_0_ok 42 rfl) rfl hl (by decide) rfl (fun ls hl => ?_)
        refine lv_ldc2 (v := (31)) hx hb hown (hts _ (List.mem_cons_of_mem _ (ac25 _ (List.mem_of_getElem? (i := 11) rfl)))) (dk kX6_digest_0_ok 43 rfl) ?_
        refine lv_lload_n hx hb (dk kX6_digest_0_ok 44 rfl) rfl (lv_at hl 0 rfl) ?_
        refine lv_lmul hx hb (dk kX6_digest_0_ok 45 rfl) ?_
        refine lv_aload_n hx hb (dk kX6_digest_0_ok 46 rfl) rfl (lv_at hl 1 rfl) ?_
        refine cvD (As := []) (rest := [.long (31 * ((31 * ((31 * (foP (fun w9 => decide (hgt r (nI w9) = 0)) (fun w9 k9 => aPile r (nI w9) k9) 4 169 (rwE r nf (fo (fun k9 => aNum r st k9) i 3823)))) + (((rbst r sd 288).1).toInt64))) + ((shr (potn r)).toInt64)))]) (rfSet cI ad F k r ps sl ((rbst r sd 288).2.2) ne9 fa9 bu hs st ln pt (nI 0)) ⟨hx, hb, hml, hown, hts⟩ (tX6_meanPile l D cI cQ cL ad N (rfSet cI ad F k r ps sl ((rbst r sd 288).2.2) ne9 fa9 bu hs st ln pt (nI 0)) k hk r ps sl ((rbst r sd 288).2.2) ne9 fa9 bu hs st ln pt (nI 0) (rfSet_at)) (cwV9 0 hts mcX6_meanPile (ac26 _ (List.mem_of_getElem? (i := 22) rfl)) miX6_meanPile meX6_meanPile mini_RX6 rfl rfl hdX6_meanPile ⟨Nat.le_of_ble_eq_true rfl, Nat.le_of_ble_eq_true rfl⟩) hDi hK hP hNW hS hk0 rfSet_at.1 rfl rfl hl.1 rfl (Nat.le_of_ble_eq_true rfl) (by decide) (dk kX6_digest_0_ok 47 rfl) rfSet_rfSet (fun H locs hP hS => ?_)
        refine csP (As := [.float (mea (rpl r) (potn r))]) (rest := [.long (31 * ((31 * ((31 * (foP (fun w9 => decide (hgt r (nI w9) = 0)) (fun w9 k9 => aPile r (nI w9) k9) 4 169 (rwE r nf (fo (fun k9 => aNum r st k9) i 3823)))) + (((rbst r sd 288).1).toInt64))) + ((shr (potn r)).toInt64)))]) ⟨hx, hb, hml, hown, hts⟩ (tJxf58ca_floatToIntBits_5c35a l (mea (rpl r) (potn r)) (mea_cmp (potn_le r) (rpl_le r))) (cwS9 1 hts mcJxf58ca_floatToIntBits_5c35a (ac27 _ (List.mem_of_getElem? (i := 2) rfl)) msJxf58ca_floatToIntBits_5c35a mini_RJxf58ca rfl rfl hdJxf58ca_floatToIntBits_5c35a ⟨Nat.le_of_ble_eq_true rfl, Nat.le_of_ble_eq_true rfl⟩) rfl hl.1 rfl (Nat.le_of_ble_eq_true rfl) (by decide) (dk kX6_digest_0_ok 48 rfl) ?_
        refine lv_i2l hx hb (dk kX6_digest_0_ok 49 rfl) rfl ?_
        refine lv_ladd hx hb (dk kX6_digest_0_ok 50 rfl) ?_
        refine lv_lstore_n (lv' := [(1, .long ((31 * ((31 * ((31 * (foP (fun w9 => decide (hgt r (nI w9) = 0)) (fun w9 k9 => aPile r (nI w9) k9) 4 169 (rwE r nf (fo (fun k9 => aNum r st k9) i 3823)))) + (((rbst r sd 288).1).toInt64))) + ((shr (potn r)).toInt64))) + (((mea (rpl r) (potn r)).toInt32).toInt64))), (0, .ref (ad k)), (3, .int (nI i))]) hx hb (dk kX6_digest_0_ok 51 rfl) rfl hl (by decide) rfl (fun ls hl => ?_)
        refine lv_ldc2 (v := (31)) hx hb hown (hts _ (List.mem_cons_of_mem _ (ac25 _ (List.mem_of_getElem? (i := 11) rfl)))) (dk kX6_digest_0_ok 52 rfl) ?_
        refine lv_lload_n hx hb (dk kX6_digest_0_ok 53 rfl) rfl (lv_at hl 0 rfl) ?_
        refine lv_lmul hx hb (dk kX6_digest_0_ok 54 rfl) ?_
        refine lv_aload_n hx hb (dk kX6_digest_0_ok 55 rfl) rfl (lv_at hl 1 rfl) ?_
        refine gf hx hb hts (fun w h => List.mem_cons_of_mem _ (acX6 w h)) hown hK hP hk0 rfSet_at.1 rfl 7 (by decide) (hts _ (List.mem_cons_of_mem _ (ac22 _ (List.mem_of_getElem? (i := 9) rfl)))) (fun _ h => h) rfl (dk kX6_digest_0_ok 56 rfl) ?_
        refine b_if_eq (tgt := 103) hx hb (dk kX6_digest_0_ok 57 rfl) (by decide) (fun h2 => ?_) (fun h2 => ?_)
        · skip
          refine lv_iconst (v := nI 0) hx hb (dk kX6_digest_1_ok 0 rfl) rfl ?_
          refine lv_i2l hx hb (dk kX6_digest_1_ok 1 rfl) rfl ?_
          refine lv_ladd hx hb (dk kX6_digest_1_ok 2 rfl) ?_
          refine lv_lstore_n (lv' := [(1, .long ((31 * ((31 * ((31 * ((31 * (foP (fun w9 => decide (hgt r (nI w9) = 0)) (fun w9 k9 => aPile r (nI w9) k9) 4 169 (rwE r nf (fo (fun k9 => aNum r st k9) i 3823)))) + (((rbst r sd 288).1).toInt64))) + ((shr (potn r)).toInt64))) + (((mea (rpl r) (potn r)).toInt32).toInt64))) + ((nI 0).toInt64))), (0, .ref (ad k)), (3, .int (nI i))]) hx hb (dk kX6_digest_1_ok 3 rfl) rfl hl (by decide) rfl (fun ls hl => ?_)
          refine lv_ldc2 (v := (31)) hx hb hown (hts _ (List.mem_cons_of_mem _ (ac25 _ (List.mem_of_getElem? (i := 11) rfl)))) (dk kX6_digest_1_ok 4 rfl) ?_
          refine lv_lload_n hx hb (dk kX6_digest_1_ok 5 rfl) rfl (lv_at hl 0 rfl) ?_
          refine lv_lmul hx hb (dk kX6_digest_1_ok 6 rfl) ?_
          refine lv_aload_n hx hb (dk kX6_digest_1_ok 7 rfl) rfl (lv_at hl 1 rfl) ?_
          refine gf hx hb hts (fun w h => List.mem_cons_of_mem _ (acX6 w h)) hown hK hP hk0 rfSet_at.1 rfl 9 (by decide) (hts _ (List.mem_cons_of_mem _ (ac21 _ (List.mem_of_getElem? (i := 15) rfl)))) (fun _ h => h) rfl (dk kX6_digest_1_ok 8 rfl) ?_
          refine lv_i2l hx hb (dk kX6_digest_1_ok 9 rfl) rfl ?_
          refine lv_ladd hx hb (dk kX6_digest_1_ok 10 rfl) ?_
          refine lv_lstore_n (lv' := [(1, .long ((31 * ((31 * ((31 * ((31 * ((31 * (foP (fun w9 => decide (hgt r (nI w9) = 0)) (fun w9 k9 => aPile r (nI w9) k9) 4 169 (rwE r nf (fo (fun k9 => aNum r st k9) i 3823)))) + (((rbst r sd 288).1).toInt64))) + ((shr (potn r)).toInt64))) + (((mea (rpl r) (potn r)).toInt32).toInt64))) + ((nI 0).toInt64))) + ((nI ln).toInt64))), (0, .ref (ad k)), (3, .int (nI i))]) hx hb (dk kX6_digest_1_ok 11 rfl) rfl hl (by decide) rfl (fun ls hl => ?_)
          refine lv_iconst (v := nI 0) hx hb (dk kX6_digest_1_ok 12 rfl) rfl ?_
          refine lv_istore_n (lv' := [(3, .int (nI 0)), (1, .long ((31 * ((31 * ((31 * ((31 * ((31 * (foP (fun w9 => decide (hgt r (nI w9) = 0)) (fun w9 k9 => aPile r (nI w9) k9) 4 169 (rwE r nf (fo (fun k9 => aNum r st k9) i 3823)))) + (((rbst r sd 288).1).toInt64))) + ((shr (potn r)).toInt64))) + (((mea (rpl r) (potn r)).toInt32).toInt64))) + ((nI 0).toInt64))) + ((nI ln).toInt64))), (0, .ref (ad k))]) hx hb (dk kX6_digest_1_ok 13 rfl) rfl hl (by decide) rfl (fun ls hl => ?_)
          have L121 : ∀ (fu : Nat) (i : Nat) (x1 : Int64) (H : Heap) (locs : List Loc), va_P D vwCl (iW ad N (rfSet cI ad F k r ps sl ((rbst r sd 288).2.2) ne9 fa9 bu hs st ln pt (nI 0))) H → va_S (iA ad N s.heap.size) s.heap H locs → x1 = fo bu i (rd3 r nf st sd hs ln) → i ≤ ln → ln - i < fu → ∀ ls : Array Slot, lv_has ls 4 [(0, .ref (ad k)), (1, .long x1), (3, .int (nI i))] → W p l e ({ frames := 7, cells := 0, slots := 0, locals := 163 } : Room) s m ([.ref (ad k)] : List Value).toArray below meth cd H locs 0 0 Q (F0 m 121 ls []) := by
            intro fu
            induction fu with
            | zero => intros; omega
            | succ fu ih121 =>
              intro i x1 H locs hP hS ex1 hi hme121 ls hl
              subst ex1
              refine lv_iload_n hx hb (dk kX6_digest_1_ok 14 rfl) rfl (lv_at hl 2 rfl) ?_
              refine lv_aload_n hx hb (dk kX6_digest_1_ok 15 rfl) rfl (lv_at hl 0 rfl) ?_
              refine gf hx hb hts (fun w h => List.mem_cons_of_mem _ (acX6 w h)) hown hK hP hk0 rfSet_at.1 rfl 9 (by decide) (hts _ (List.mem_cons_of_mem _ (ac21 _ (List.mem_of_getElem? (i := 15) rfl)))) (fun _ h => h) rfl (dk kX6_digest_1_ok 16 rfl) ?_
              refine n_icmp_ge (tgt := 149) hx hb (by omega) (by omega) (dk kX6_digest_1_ok 17 rfl) (by decide) (fun h3 => ?_) (fun h3 => ?_)
              · skip
                refine lv_lload_n hx hb (dk kX6_digest_1_ok 30 rfl) rfl (lv_at hl 1 rfl) ?_
                exact hret _ _ _ _ _ _ _ _  (by rw [show i = ln by omega]; exact ⟨rfl, _, _, rfl⟩) hP hS (by decide) (by decide) (dk kX6_digest_1_ok 31 rfl)
              · skip
                refine lv_ldc2 (v := (31)) hx hb hown (hts _ (List.mem_cons_of_mem _ (ac25 _ (List.mem_of_getElem? (i := 11) rfl)))) (dk kX6_digest_1_ok 18 rfl) ?_
                refine lv_lload_n hx hb (dk kX6_digest_1_ok 19 rfl) rfl (lv_at hl 1 rfl) ?_
                refine lv_lmul hx hb (dk kX6_digest_1_ok 20 rfl) ?_
                refine lv_aload_n hx hb (dk kX6_digest_1_ok 21 rfl) rfl (lv_at hl 0 rfl) ?_
                refine gf hx hb hts (fun w h => List.mem_cons_of_mem _ (acX6 w h)) hown hK hP hk0 rfSet_at.1 rfl 6 (by decide) (hts _ (List.mem_cons_of_mem _ (ac17 _ (List.mem_of_getElem? (i := 23) rfl)))) (fun _ h => h) rfl (dk kX6_digest_1_ok 22 rfl) ?_
                refine lv_iload_n hx hb (dk kX6_digest_1_ok 23 rfl) rfl (lv_at hl 2 rfl) ?_
                refine ald (j := i) hx hb hK hP hk7 rfSet_at.2.2.2.2.2.2.2 rfl (by omega) (by decide) (dk kX6_digest_1_ok 24 rfl) ?_
                refine lv_i2l hx hb (dk kX6_digest_1_ok 25 rfl) rfl ?_
                refine lv_ladd hx hb (dk kX6_digest_1_ok 26 rfl) ?_
                refine lv_lstore_n (lv' := [(1, .long ((31 * (fo bu i (rd3 r nf st sd hs ln))) + ((bu i).toInt64))), (0, .ref (ad k)), (3, .int (nI i))]) hx hb (dk kX6_digest_1_ok 27 rfl) rfl hl (by decide) rfl (fun ls hl => ?_)
                refine lv_iinc (v := nI (i + 1)) (lv' := [(3, .int (nI (i + 1))), (1, .long ((31 * (fo bu i (rd3 r nf st sd hs ln))) + ((bu i).toInt64))), (0, .ref (ad k))]) hx hb (dk kX6_digest_1_ok 28 rfl) hl (k := 2) rfl (n_inc _) (by decide) rfl (fun ls hl => ?_)
                refine lv_goto (tgt := 121) hx hb (dk kX6_digest_1_ok 29 rfl) (by decide) ?_
                exact ih121 (i + 1) _ _ _ hP hS (by exact fo_s (A := bu)) (by omega) (by omega) ls (lv_sub hl [2, 1, 0] rfl)
          exact L121 _ 0 _ _ _ hP hS (by first | omega | (rw [rd3, bI_t h2, rd2, rd1, show (14 : Nat) = i by omega]; rfl) | (rw [rd3, bI_f h2, rd2, rd1, show (14 : Nat) = i by omega]; rfl)) (by first | omega | (rw [rd3, bI_t h2, rd2, rd1, show (14 : Nat) = i by omega]; rfl) | (rw [rd3, bI_f h2, rd2, rd1, show (14 : Nat) = i by omega]; rfl)) (Nat.lt_succ_self _) ls (lv_sub hl [2, 1, 0] rfl)
        · skip
          refine lv_iconst (v := nI 1) hx hb (dk kX6_digest_0_ok 58 rfl) rfl ?_
          refine lv_goto (tgt := 104) hx hb (dk kX6_digest_0_ok 59 rfl) (by decide) ?_
          refine lv_i2l hx hb (dk kX6_digest_1_ok 1 rfl) rfl ?_
          refine lv_ladd hx hb (dk kX6_digest_1_ok 2 rfl) ?_
          refine lv_lstore_n (lv' := [(1, .long ((31 * ((31 * ((31 * ((31 * (foP (fun w9 => decide (hgt r (nI w9) = 0)) (fun w9 k9 => aPile r (nI w9) k9) 4 169 (rwE r nf (fo (fun k9 => aNum r st k9) i 3823)))) + (((rbst r sd 288).1).toInt64))) + ((shr (potn r)).toInt64))) + (((mea (rpl r) (potn r)).toInt32).toInt64))) + ((nI 1).toInt64))), (0, .ref (ad k)), (3, .int (nI i))]) hx hb (dk kX6_digest_1_ok 3 rfl) rfl hl (by decide) rfl (fun ls hl => ?_)
          refine lv_ldc2 (v := (31)) hx hb hown (hts _ (List.mem_cons_of_mem _ (ac25 _ (List.mem_of_getElem? (i := 11) rfl)))) (dk kX6_digest_1_ok 4 rfl) ?_
          refine lv_lload_n hx hb (dk kX6_digest_1_ok 5 rfl) rfl (lv_at hl 0 rfl) ?_
          refine lv_lmul hx hb (dk kX6_digest_1_ok 6 rfl) ?_
          refine lv_aload_n hx hb (dk kX6_digest_1_ok 7 rfl) rfl (lv_at hl 1 rfl) ?_
          refine gf hx hb hts (fun w h => List.mem_cons_of_mem _ (acX6 w h)) hown hK hP hk0 rfSet_at.1 rfl 9 (by decide) (hts _ (List.mem_cons_of_mem _ (ac21 _ (List.mem_of_getElem? (i := 15) rfl)))) (fun _ h => h) rfl (dk kX6_digest_1_ok 8 rfl) ?_
          refine lv_i2l hx hb (dk kX6_digest_1_ok 9 rfl) rfl ?_
          refine lv_ladd hx hb (dk kX6_digest_1_ok 10 rfl) ?_
          refine lv_lstore_n (lv' := [(1, .long ((31 * ((31 * ((31 * ((31 * ((31 * (foP (fun w9 => decide (hgt r (nI w9) = 0)) (fun w9 k9 => aPile r (nI w9) k9) 4 169 (rwE r nf (fo (fun k9 => aNum r st k9) i 3823)))) + (((rbst r sd 288).1).toInt64))) + ((shr (potn r)).toInt64))) + (((mea (rpl r) (potn r)).toInt32).toInt64))) + ((nI 1).toInt64))) + ((nI ln).toInt64))), (0, .ref (ad k)), (3, .int (nI i))]) hx hb (dk kX6_digest_1_ok 11 rfl) rfl hl (by decide) rfl (fun ls hl => ?_)
          refine lv_iconst (v := nI 0) hx hb (dk kX6_digest_1_ok 12 rfl) rfl ?_
          refine lv_istore_n (lv' := [(3, .int (nI 0)), (1, .long ((31 * ((31 * ((31 * ((31 * ((31 * (foP (fun w9 => decide (hgt r (nI w9) = 0)) (fun w9 k9 => aPile r (nI w9) k9) 4 169 (rwE r nf (fo (fun k9 => aNum r st k9) i 3823)))) + (((rbst r sd 288).1).toInt64))) + ((shr (potn r)).toInt64))) + (((mea (rpl r) (potn r)).toInt32).toInt64))) + ((nI 1).toInt64))) + ((nI ln).toInt64))), (0, .ref (ad k))]) hx hb (dk kX6_digest_1_ok 13 rfl) rfl hl (by decide) rfl (fun ls hl => ?_)
          have L121 : ∀ (fu : Nat) (i : Nat) (x1 : Int64) (H : Heap) (locs : List Loc), va_P D vwCl (iW ad N (rfSet cI ad F k r ps sl ((rbst r sd 288).2.2) ne9 fa9 bu hs st ln pt (nI 0))) H → va_S (iA ad N s.heap.size) s.heap H locs → x1 = fo bu i (rd3 r nf st sd hs ln) → i ≤ ln → ln - i < fu → ∀ ls : Array Slot, lv_has ls 4 [(0, .ref (ad k)), (1, .long x1), (3, .int (nI i))] → W p l e ({ frames := 7, cells := 0, slots := 0, locals := 163 } : Room) s m ([.ref (ad k)] : List Value).toArray below meth cd H locs 0 0 Q (F0 m 121 ls []) := by
            intro fu
            induction fu with
            | zero => intros; omega
            | succ fu ih121 =>
              intro i x1 H locs hP hS ex1 hi hme121 ls hl
              subst ex1
              refine lv_iload_n hx hb (dk kX6_digest_1_ok 14 rfl) rfl (lv_at hl 2 rfl) ?_
              refine lv_aload_n hx hb (dk kX6_digest_1_ok 15 rfl) rfl (lv_at hl 0 rfl) ?_
              refine gf hx hb hts (fun w h => List.mem_cons_of_mem _ (acX6 w h)) hown hK hP hk0 rfSet_at.1 rfl 9 (by decide) (hts _ (List.mem_cons_of_mem _ (ac21 _ (List.mem_of_getElem? (i := 15) rfl)))) (fun _ h => h) rfl (dk kX6_digest_1_ok 16 rfl) ?_
              refine n_icmp_ge (tgt := 149) hx hb (by omega) (by omega) (dk kX6_digest_1_ok 17 rfl) (by decide) (fun h4 => ?_) (fun h4 => ?_)
              · skip
                refine lv_lload_n hx hb (dk kX6_digest_1_ok 30 rfl) rfl (lv_at hl 1 rfl) ?_
                exact hret _ _ _ _ _ _ _ _  (by rw [show i = ln by omega]; exact ⟨rfl, _, _, rfl⟩) hP hS (by decide) (by decide) (dk kX6_digest_1_ok 31 rfl)
              · skip
                refine lv_ldc2 (v := (31)) hx hb hown (hts _ (List.mem_cons_of_mem _ (ac25 _ (List.mem_of_getElem? (i := 11) rfl)))) (dk kX6_digest_1_ok 18 rfl) ?_
                refine lv_lload_n hx hb (dk kX6_digest_1_ok 19 rfl) rfl (lv_at hl 1 rfl) ?_
                refine lv_lmul hx hb (dk kX6_digest_1_ok 20 rfl) ?_
                refine lv_aload_n hx hb (dk kX6_digest_1_ok 21 rfl) rfl (lv_at hl 0 rfl) ?_
                refine gf hx hb hts (fun w h => List.mem_cons_of_mem _ (acX6 w h)) hown hK hP hk0 rfSet_at.1 rfl 6 (by decide) (hts _ (List.mem_cons_of_mem _ (ac17 _ (List.mem_of_getElem? (i := 23) rfl)))) (fun _ h => h) rfl (dk kX6_digest_1_ok 22 rfl) ?_
                refine lv_iload_n hx hb (dk kX6_digest_1_ok 23 rfl) rfl (lv_at hl 2 rfl) ?_
                refine ald (j := i) hx hb hK hP hk7 rfSet_at.2.2.2.2.2.2.2 rfl (by omega) (by decide) (dk kX6_digest_1_ok 24 rfl) ?_
                refine lv_i2l hx hb (dk kX6_digest_1_ok 25 rfl) rfl ?_
                refine lv_ladd hx hb (dk kX6_digest_1_ok 26 rfl) ?_
                refine lv_lstore_n (lv' := [(1, .long ((31 * (fo bu i (rd3 r nf st sd hs ln))) + ((bu i).toInt64))), (0, .ref (ad k)), (3, .int (nI i))]) hx hb (dk kX6_digest_1_ok 27 rfl) rfl hl (by decide) rfl (fun ls hl => ?_)
                refine lv_iinc (v := nI (i + 1)) (lv' := [(3, .int (nI (i + 1))), (1, .long ((31 * (fo bu i (rd3 r nf st sd hs ln))) + ((bu i).toInt64))), (0, .ref (ad k))]) hx hb (dk kX6_digest_1_ok 28 rfl) hl (k := 2) rfl (n_inc _) (by decide) rfl (fun ls hl => ?_)
                refine lv_goto (tgt := 121) hx hb (dk kX6_digest_1_ok 29 rfl) (by decide) ?_
                exact ih121 (i + 1) _ _ _ hP hS (by exact fo_s (A := bu)) (by omega) (by omega) ls (lv_sub hl [2, 1, 0] rfl)
          exact L121 _ 0 _ _ _ hP hS (by first | omega | (rw [rd3, bI_t h2, rd2, rd1, show (14 : Nat) = i by omega]; rfl) | (rw [rd3, bI_f h2, rd2, rd1, show (14 : Nat) = i by omega]; rfl)) (by first | omega | (rw [rd3, bI_t h2, rd2, rd1, show (14 : Nat) = i by omega]; rfl) | (rw [rd3, bI_f h2, rd2, rd1, show (14 : Nat) = i by omega]; rfl)) (Nat.lt_succ_self _) ls (lv_sub hl [2, 1, 0] rfl)
      · skip
        refine lv_ldc2 (v := (31)) hx hb hown (hts _ (List.mem_cons_of_mem _ (ac25 _ (List.mem_of_getElem? (i := 11) rfl)))) (dk kX6_digest_0_ok 10 rfl) ?_
        refine lv_lload_n hx hb (dk kX6_digest_0_ok 11 rfl) rfl (lv_at hl 1 rfl) ?_
        refine lv_lmul hx hb (dk kX6_digest_0_ok 12 rfl) ?_
        refine lv_aload_n hx hb (dk kX6_digest_0_ok 13 rfl) rfl (lv_at hl 0 rfl) ?_
        refine lv_iload_n hx hb (dk kX6_digest_0_ok 14 rfl) rfl (lv_at hl 2 rfl) ?_
        refine cvR (As := [.int (nI i)]) (rest := [.long (31 * (fo (fun k9 => aNum r st k9) i 3823))]) ⟨hx, hb, hml, hown, hts⟩ (tX6_number l D cI cQ cL ad N (rfSet cI ad F k r ps sl sd ne fa bu hs st ln pt (nI 0)) k hk r ps sl sd ne fa bu hs st ln pt (nI 0) (rfSet_at) (nI i) i rfl (by omega)) (cwV9 1 hts mcX6_number (ac24 _ (List.mem_of_getElem? (i := 6) rfl)) miX6_number meX6_number mini_RX6 rfl rfl hdX6_number ⟨Nat.le_of_ble_eq_true rfl, Nat.le_of_ble_eq_true rfl⟩) hK hP hNW hk0 rfSet_at.1 rfl rfl hl.1 rfl (Nat.le_of_ble_eq_true rfl) (by decide) (dk kX6_digest_0_ok 15 rfl) ?_
        refine lv_i2l hx hb (dk kX6_digest_0_ok 16 rfl) rfl ?_
        refine lv_ladd hx hb (dk kX6_digest_0_ok 17 rfl) ?_
        refine lv_lstore_n (lv' := [(1, .long ((31 * (fo (fun k9 => aNum r st k9) i 3823)) + ((aNum r st i).toInt64))), (0, .ref (ad k)), (3, .int (nI i))]) hx hb (dk kX6_digest_0_ok 18 rfl) rfl hl (by decide) rfl (fun ls hl => ?_)
        refine lv_iinc (v := nI (i + 1)) (lv' := [(3, .int (nI (i + 1))), (1, .long ((31 * (fo (fun k9 => aNum r st k9) i 3823)) + ((aNum r st i).toInt64))), (0, .ref (ad k))]) hx hb (dk kX6_digest_0_ok 19 rfl) hl (k := 2) rfl (n_inc _) (by decide) rfl (fun ls hl => ?_)
        refine lv_goto (tgt := 11) hx hb (dk kX6_digest_0_ok 20 rfl) (by decide) ?_
        exact ih11 (i + 1) _ _ _ hP hS (by exact fo_s (A := fun k9 => aNum r st k9)) (by omega) (by omega) ls (lv_sub hl [2, 1, 0] rfl)
  exact L11 _ 0 _ _ _ hP hS (by first | rfl | omega) (by first | rfl | omega) (Nat.lt_succ_self _) ls (lv_sub hl [2, 1, 0] rfl)
end
/-! from bitspec -/
section
def two9 : UInt64 := 4611686018427387904
def n64 (r : UInt64) : Bool := decide (r &&& 0x7fffffffffffffff ≤ 0x7ff0000000000000)
theorem n64_ok {r : UInt64} (h : n64 r = true) : vf_n64 r := by
  unfold vf_n64
  exact of_decide_eq_true h
def b1 : Nat → UInt64 → Int64 → UInt64 × Int64
  | 0, x, e => (x, e)
  | n + 1, x, e => if Op.cmpValue (FP.dcmp x two9) .l < 0 then (x, e) else b1 n (FP.ddiv x two9) (e + 1)
def b2 : Nat → UInt64 → Int64 → UInt64 × Int64
  | 0, x, e => (x, e)
  | n + 1, x, e => if 0 ≤ Op.cmpValue (FP.dcmp x FP.dconst1) .g then (x, e) else b2 n (FP.dmul x two9) (e - 1)
def s1 : Nat → UInt64 → Bool
  | 0, _ => true
  | n + 1, x => if Op.cmpValue (FP.dcmp x two9) .l < 0 then true else n64 (FP.ddiv x two9) && s1 n (FP.ddiv x two9)
def s2 : Nat → UInt64 → Bool
  | 0, _ => true
  | n + 1, x => if 0 ≤ Op.cmpValue (FP.dcmp x FP.dconst1) .g then true else n64 (FP.dmul x two9) && s2 n (FP.dmul x two9)
def bfr (x : UInt64) (fb : Nat) : UInt64 := FP.dmul (FP.dsub x FP.dconst1) (FP.l2d (1 <<< ((nI fb).toInt64 &&& 63)))
def bfi (p : UInt64 × Int64) (fb : Nat) : Int64 := (p.2 <<< ((nI fb).toInt64 &&& 63)) + FP.d2l (bfr p.1 fb)
def b12 (x : UInt64) (bi : Nat) : UInt64 × Int64 := b2 bi (b1 bi x (nI bi).toInt64).1 (b1 bi x (nI bi).toInt64).2
def bOf (x : UInt64) (fb bi : Nat) : Int64 := if 0 < Op.cmpValue (FP.dcmp x FP.dconst0) .g then bfi (b12 x bi) fb else 0
def bok (x : UInt64) (fb bi : Nat) : Bool := s1 bi x && (s2 bi (b1 bi x (nI bi).toInt64).1 && (n64 (FP.dsub (b12 x bi).1 FP.dconst1) && n64 (bfr (b12 x bi).1 fb)))
theorem s1_n {n : Nat} {x : UInt64} (h : s1 (n + 1) x = true) (hc : ¬ Op.cmpValue (FP.dcmp x two9) .l < 0) : n64 (FP.ddiv x two9) = true ∧ s1 n (FP.ddiv x two9) = true := by
  simp only [s1] at h
  rw [if_neg hc] at h
  simpa using h
theorem s2_n {n : Nat} {x : UInt64} (h : s2 (n + 1) x = true) (hc : ¬ 0 ≤ Op.cmpValue (FP.dcmp x FP.dconst1) .g) : n64 (FP.dmul x two9) = true ∧ s2 n (FP.dmul x two9) = true := by
  simp only [s2] at h
  rw [if_neg hc] at h
  simpa using h
theorem b1_n {n : Nat} {x : UInt64} {e : Int64} (hc : ¬ Op.cmpValue (FP.dcmp x two9) .l < 0) : b1 (n + 1) x e = b1 n (FP.ddiv x two9) (e + 1) := by
  simp only [b1]
  rw [if_neg hc]
theorem b1_e {n : Nat} {x : UInt64} {e : Int64} (hc : n = 0 ∨ Op.cmpValue (FP.dcmp x two9) .l < 0) : b1 n x e = (x, e) := by
  cases n with
  | zero => rfl
  | succ n =>
    simp only [b1]
    rw [if_pos (hc.resolve_left (by omega))]
theorem b2_n {n : Nat} {x : UInt64} {e : Int64} (hc : ¬ 0 ≤ Op.cmpValue (FP.dcmp x FP.dconst1) .g) : b2 (n + 1) x e = b2 n (FP.dmul x two9) (e - 1) := by
  simp only [b2]
  rw [if_neg hc]
theorem b2_e {n : Nat} {x : UInt64} {e : Int64} (hc : n = 0 ∨ 0 ≤ Op.cmpValue (FP.dcmp x FP.dconst1) .g) : b2 n x e = (x, e) := by
  cases n with
  | zero => rfl
  | succ n =>
    simp only [b2]
    rw [if_pos (hc.resolve_left (by omega))]
theorem bok_shr {n : Nat} (h : n ≤ 16) : bok (shr n) 52 1023 = true ∧ bOf (shr n) 52 1023 = (shr n).toInt64 := (show ∀ n, n < 17 → bok (shr n) 52 1023 = true ∧ bOf (shr n) 52 1023 = (shr n).toInt64 by decide +kernel) n (by omega)
theorem bok_mea {p n : Nat} (h : n ≤ 16) (hp : p ≤ 16) : n64 (FP.f2d (mea p n)) = true ∧ bok (FP.f2d (mea p n)) 23 127 = true ∧ bOf (FP.f2d (mea p n)) 23 127 = (mea p n).toInt32.toInt64 := (show ∀ p, p < 17 → ∀ n, n < 17 → n64 (FP.f2d (mea p n)) = true ∧ bok (FP.f2d (mea p n)) 23 127 = true ∧ bOf (FP.f2d (mea p n)) 23 127 = (mea p n).toInt32.toInt64 by decide +kernel) p (by omega) n (by omega)
end
/-! from clbits -/
section
set_option maxRecDepth 100000 in
set_option maxHeartbeats 4000000 in
theorem tX5_bitsOf (l : Launch) (x : UInt64) (y : Int32) (fb : Nat) (hyf : y = nI fb) (z : Int32) (bi : Nat) (hzb : z = nI bi) (hbi : bi < 2 ^ 31) (hok : bok x fb bi = true) : MP l yX5_bitsOf (Cond.code yX5_bitsOf cX5_bitsOf 10 (some .long) :: AW) ({ frames := 0, cells := 0, slots := 0, locals := 0 } : Room) [.double x, .int y, .int z] (.long (bOf x fb bi)) := by
  refine mp_l (by decide +kernel) rfl (Nat.le_of_ble_eq_true rfl) (fun p e s m below meth cd Q ls hx hb hml hown hts hret hl => ?_)
  have hown : s.vm.findClass RX5 = some m.cls := hown
  subst hyf
  subst hzb
  have hk1 : s1 bi x = true := by simp only [bok, Bool.and_eq_true] at hok; exact hok.1
  have hk2 : s2 bi (b1 bi x (nI bi).toInt64).1 = true := by simp only [bok, Bool.and_eq_true] at hok; exact hok.2.1
  have hk3 : n64 (FP.dsub (b12 x bi).1 FP.dconst1) = true ∧ n64 (bfr (b12 x bi).1 fb) = true := by simp only [bok, Bool.and_eq_true] at hok; exact hok.2.2
  have hl : lv_has ls 10 [(0, .double x), (2, .int (nI fb)), (3, .int (nI bi))] := hl
  refine lv_dload_n hx hb (dk kX5_bitsOf_0_ok 0 rfl) rfl (lv_at hl 0 rfl) ?_
  refine lv_dconst0 hx hb (dk kX5_bitsOf_0_ok 1 rfl) ?_
  refine lv_dcmp hx hb (dk kX5_bitsOf_0_ok 2 rfl) ?_
  refine lv_if_gt (tgt := 8) hx hb (dk kX5_bitsOf_0_ok 3 rfl) (by decide) (fun h1 => ?_) (fun h1 => ?_)
  · skip
    refine lv_dload_n hx hb (dk kX5_bitsOf_0_ok 6 rfl) rfl (lv_at hl 0 rfl) ?_
    refine lv_dstore (lv' := [(4, .double x), (0, .double x), (2, .int (nI fb)), (3, .int (nI bi))]) hx hb (dk kX5_bitsOf_0_ok 7 rfl) hl (by decide) rfl (fun ls hl => ?_)
    refine lv_iload_n hx hb (dk kX5_bitsOf_0_ok 8 rfl) rfl (lv_at hl 3 rfl) ?_
    refine lv_i2l hx hb (dk kX5_bitsOf_0_ok 9 rfl) rfl ?_
    refine lv_lstore (lv' := [(6, .long ((nI bi).toInt64)), (4, .double x), (0, .double x), (2, .int (nI fb)), (3, .int (nI bi))]) hx hb (dk kX5_bitsOf_0_ok 10 rfl) hl (by decide) rfl (fun ls hl => ?_)
    refine lv_iconst (v := nI 0) hx hb (dk kX5_bitsOf_0_ok 11 rfl) rfl ?_
    refine lv_istore (lv' := [(8, .int (nI 0)), (6, .long ((nI bi).toInt64)), (4, .double x), (0, .double x), (2, .int (nI fb)), (3, .int (nI bi))]) hx hb (dk kX5_bitsOf_0_ok 12 rfl) hl (by decide) rfl (fun ls hl => ?_)
    have L18 : ∀ (fu : Nat) (q : Nat) (r1 : UInt64) (e1 : Int64), q ≤ bi → b1 bi x (nI bi).toInt64 = b1 (bi - q) r1 e1 → s1 (bi - q) r1 = true → bi - q < fu → ∀ ls : Array Slot, lv_has ls 10 [(0, .double x), (2, .int (nI fb)), (3, .int (nI bi)), (4, .double r1), (6, .long e1), (8, .int (nI q))] → W p l e ({ frames := 0, cells := 0, slots := 0, locals := 0 } : Room) s m ([.double x, .int (nI fb), .int (nI bi)] : List Value).toArray below meth cd s.heap [] 0 0 Q (F0 m 18 ls []) := by
      intro fu
      induction fu with
      | zero => intros; omega
      | succ fu ih18 =>
        intro q r1 e1 hq hr hs hme18 ls hl
        refine lv_iload hx hb (dk kX5_bitsOf_0_ok 13 rfl) (lv_at hl 5 rfl) ?_
        refine lv_iload_n hx hb (dk kX5_bitsOf_0_ok 14 rfl) rfl (lv_at hl 2 rfl) ?_
        refine n_icmp_ge (tgt := 53) hx hb (by omega) (by omega) (dk kX5_bitsOf_0_ok 15 rfl) (by decide) (fun h2 => ?_) (fun h2 => ?_)
        · skip
          refine lv_iconst (v := nI 0) hx hb (dk kX5_bitsOf_0_ok 30 rfl) rfl ?_
          refine lv_istore (lv' := [(8, .int (nI 0)), (0, .double x), (2, .int (nI fb)), (3, .int (nI bi)), (4, .double r1), (6, .long e1)]) hx hb (dk kX5_bitsOf_0_ok 31 rfl) hl (by decide) rfl (fun ls hl => ?_)
          have L56 : ∀ (fu : Nat) (q2 : Nat) (r2 : UInt64) (e2 : Int64), q2 ≤ bi → b12 x bi = b2 (bi - q2) r2 e2 → s2 (bi - q2) r2 = true → bi - q2 < fu → ∀ ls : Array Slot, lv_has ls 10 [(0, .double x), (2, .int (nI fb)), (3, .int (nI bi)), (4, .double r2), (6, .long e2), (8, .int (nI q2))] → W p l e ({ frames := 0, cells := 0, slots := 0, locals := 0 } : Room) s m ([.double x, .int (nI fb), .int (nI bi)] : List Value).toArray below meth cd s.heap [] 0 0 Q (F0 m 56 ls []) := by
            intro fu
            induction fu with
            | zero => intros; omega
            | succ fu ih56 =>
              intro q2 r2 e2 hq2 hr2 hs2 hme56 ls hl
              refine lv_iload hx hb (dk kX5_bitsOf_0_ok 32 rfl) (lv_at hl 5 rfl) ?_
              refine lv_iload_n hx hb (dk kX5_bitsOf_0_ok 33 rfl) rfl (lv_at hl 2 rfl) ?_
              refine n_icmp_ge (tgt := 89) hx hb (by omega) (by omega) (dk kX5_bitsOf_0_ok 34 rfl) (by decide) (fun h3 => ?_) (fun h3 => ?_)
              · skip
                refine lv_dload hx hb (dk kX5_bitsOf_0_ok 49 rfl) (lv_at hl 3 rfl) ?_
                refine lv_dconst1 hx hb (dk kX5_bitsOf_0_ok 50 rfl) ?_
                refine lv_dsub hx hb (dk kX5_bitsOf_0_ok 51 rfl) (n64_ok (by have e9 := b2_e (n := bi - q2) (x := r2) (e := e2) (by first | exact Or.inr (by assumption) | exact Or.inl (by omega)); rw [← hr2] at e9; have z9 := hk3.1; rw [e9] at z9; exact z9)) ?_
                refine lv_lconst (v := 1) hx hb (dk kX5_bitsOf_0_ok 52 rfl) (by decide) ?_
                refine lv_iload_n hx hb (dk kX5_bitsOf_0_ok 53 rfl) rfl (lv_at hl 1 rfl) ?_
                refine lv_lshl hx hb (dk kX5_bitsOf_0_ok 54 rfl) rfl ?_
                refine lv_l2d hx hb (dk kX5_bitsOf_0_ok 55 rfl) ?_
                refine lv_dmul hx hb (dk kX5_bitsOf_0_ok 56 rfl) (n64_ok (by have e9 := b2_e (n := bi - q2) (x := r2) (e := e2) (by first | exact Or.inr (by assumption) | exact Or.inl (by omega)); rw [← hr2] at e9; have z9 := hk3.2; rw [e9] at z9; exact z9)) ?_
                refine lv_dstore (lv' := [(8, .double (FP.dmul (FP.dsub r2 FP.dconst1) (FP.l2d (1 <<< ((nI fb).toInt64 &&& 63))))), (0, .double x), (2, .int (nI fb)), (3, .int (nI bi)), (4, .double r2), (6, .long e2)]) hx hb (dk kX5_bitsOf_0_ok 57 rfl) hl (by decide) rfl (fun ls hl => ?_)
                refine lv_lload hx hb (dk kX5_bitsOf_0_ok 58 rfl) (lv_at hl 5 rfl) ?_
                refine lv_iload_n hx hb (dk kX5_bitsOf_0_ok 59 rfl) rfl (lv_at hl 2 rfl) ?_
                refine lv_lshl hx hb (dk kX5_bitsOf_1_ok 0 rfl) rfl ?_
                refine lv_dload hx hb (dk kX5_bitsOf_1_ok 1 rfl) (lv_at hl 0 rfl) ?_
                refine lv_d2l hx hb (dk kX5_bitsOf_1_ok 2 rfl) ?_
                refine lv_ladd hx hb (dk kX5_bitsOf_1_ok 3 rfl) ?_
                exact hret _ _ _ (by first | (rw [bOf, if_neg (by assumption)]; done) | (have e9 := b2_e (n := bi - q2) (x := r2) (e := e2) (by first | exact Or.inr (by assumption) | exact Or.inl (by omega)); rw [← hr2] at e9; rw [bOf, if_pos (by assumption), e9]; rfl)) (dk kX5_bitsOf_1_ok 4 rfl)
              · skip
                refine lv_dload hx hb (dk kX5_bitsOf_0_ok 35 rfl) (lv_at hl 3 rfl) ?_
                refine lv_dconst1 hx hb (dk kX5_bitsOf_0_ok 36 rfl) ?_
                refine lv_dcmp hx hb (dk kX5_bitsOf_0_ok 37 rfl) ?_
                refine lv_if_ge (tgt := 89) hx hb (dk kX5_bitsOf_0_ok 38 rfl) (by decide) (fun h4 => ?_) (fun h4 => ?_)
                · skip
                  refine lv_dload hx hb (dk kX5_bitsOf_0_ok 49 rfl) (lv_at hl 3 rfl) ?_
                  refine lv_dconst1 hx hb (dk kX5_bitsOf_0_ok 50 rfl) ?_
                  refine lv_dsub hx hb (dk kX5_bitsOf_0_ok 51 rfl) (n64_ok (by have e9 := b2_e (n := bi - q2) (x := r2) (e := e2) (by first | exact Or.inr (by assumption) | exact Or.inl (by omega)); rw [← hr2] at e9; have z9 := hk3.1; rw [e9] at z9; exact z9)) ?_
                  refine lv_lconst (v := 1) hx hb (dk kX5_bitsOf_0_ok 52 rfl) (by decide) ?_
                  refine lv_iload_n hx hb (dk kX5_bitsOf_0_ok 53 rfl) rfl (lv_at hl 1 rfl) ?_
                  refine lv_lshl hx hb (dk kX5_bitsOf_0_ok 54 rfl) rfl ?_
                  refine lv_l2d hx hb (dk kX5_bitsOf_0_ok 55 rfl) ?_
                  refine lv_dmul hx hb (dk kX5_bitsOf_0_ok 56 rfl) (n64_ok (by have e9 := b2_e (n := bi - q2) (x := r2) (e := e2) (by first | exact Or.inr (by assumption) | exact Or.inl (by omega)); rw [← hr2] at e9; have z9 := hk3.2; rw [e9] at z9; exact z9)) ?_
                  refine lv_dstore (lv' := [(8, .double (FP.dmul (FP.dsub r2 FP.dconst1) (FP.l2d (1 <<< ((nI fb).toInt64 &&& 63))))), (0, .double x), (2, .int (nI fb)), (3, .int (nI bi)), (4, .double r2), (6, .long e2)]) hx hb (dk kX5_bitsOf_0_ok 57 rfl) hl (by decide) rfl (fun ls hl => ?_)
                  refine lv_lload hx hb (dk kX5_bitsOf_0_ok 58 rfl) (lv_at hl 5 rfl) ?_
                  refine lv_iload_n hx hb (dk kX5_bitsOf_0_ok 59 rfl) rfl (lv_at hl 2 rfl) ?_
                  refine lv_lshl hx hb (dk kX5_bitsOf_1_ok 0 rfl) rfl ?_
                  refine lv_dload hx hb (dk kX5_bitsOf_1_ok 1 rfl) (lv_at hl 0 rfl) ?_
                  refine lv_d2l hx hb (dk kX5_bitsOf_1_ok 2 rfl) ?_
                  refine lv_ladd hx hb (dk kX5_bitsOf_1_ok 3 rfl) ?_
                  exact hret _ _ _ (by first | (rw [bOf, if_neg (by assumption)]; done) | (have e9 := b2_e (n := bi - q2) (x := r2) (e := e2) (by first | exact Or.inr (by assumption) | exact Or.inl (by omega)); rw [← hr2] at e9; rw [bOf, if_pos (by assumption), e9]; rfl)) (dk kX5_bitsOf_1_ok 4 rfl)
                · skip
                  refine lv_dload hx hb (dk kX5_bitsOf_0_ok 39 rfl) (lv_at hl 3 rfl) ?_
                  refine lv_ldc2d (v := (4611686018427387904)) hx hb hown (hts _ (List.mem_cons_of_mem _ (ac16 _ (List.mem_of_getElem? (i := 3) rfl)))) (dk kX5_bitsOf_0_ok 40 rfl) ?_
                  refine lv_dmul hx hb (dk kX5_bitsOf_0_ok 41 rfl) (n64_ok (s2_n (n := bi - (q2 + 1)) (by rw [← show bi - q2 = bi - (q2 + 1) + 1 by omega]; exact hs2) h4).1) ?_
                  refine lv_dstore (lv' := [(4, .double (FP.dmul r2 two9)), (0, .double x), (2, .int (nI fb)), (3, .int (nI bi)), (6, .long e2), (8, .int (nI q2))]) hx hb (dk kX5_bitsOf_0_ok 42 rfl) hl (by decide) rfl (fun ls hl => ?_)
                  refine lv_lload hx hb (dk kX5_bitsOf_0_ok 43 rfl) (lv_at hl 4 rfl) ?_
                  refine lv_lconst (v := 1) hx hb (dk kX5_bitsOf_0_ok 44 rfl) (by decide) ?_
                  refine lv_lsub hx hb (dk kX5_bitsOf_0_ok 45 rfl) ?_
                  refine lv_lstore (lv' := [(6, .long (e2 - 1)), (4, .double (FP.dmul r2 two9)), (0, .double x), (2, .int (nI fb)), (3, .int (nI bi)), (8, .int (nI q2))]) hx hb (dk kX5_bitsOf_0_ok 46 rfl) hl (by decide) rfl (fun ls hl => ?_)
                  refine lv_iinc (v := nI (q2 + 1)) (lv' := [(8, .int (nI (q2 + 1))), (6, .long (e2 - 1)), (4, .double (FP.dmul r2 two9)), (0, .double x), (2, .int (nI fb)), (3, .int (nI bi))]) hx hb (dk kX5_bitsOf_0_ok 47 rfl) hl (k := 5) rfl (n_inc _) (by decide) rfl (fun ls hl => ?_)
                  refine lv_goto (tgt := 56) hx hb (dk kX5_bitsOf_0_ok 48 rfl) (by decide) ?_
                  exact ih56 (q2 + 1) (FP.dmul r2 two9) (e2 - 1) (by omega) (by have z9 := (show ¬ 0 ≤ Op.cmpValue (FP.dcmp r2 FP.dconst1) .g by assumption); rw [hr2, show bi - q2 = bi - (q2 + 1) + 1 by omega, b2_n z9]) (by have z9 := (show ¬ 0 ≤ Op.cmpValue (FP.dcmp r2 FP.dconst1) .g by assumption); exact (s2_n (n := bi - (q2 + 1)) (by rw [← show bi - q2 = bi - (q2 + 1) + 1 by omega]; exact hs2) z9).2) (by omega) ls (lv_sub hl [3, 4, 5, 2, 1, 0] rfl)
          exact L56 _ 0 r1 e1 (by omega) (by have e8 := b1_e (n := bi - q) (x := r1) (e := e1) (by first | exact Or.inr (by assumption) | exact Or.inl (by omega)); rw [← hr] at e8; rw [b12, e8]; rfl) (by have e8 := b1_e (n := bi - q) (x := r1) (e := e1) (by first | exact Or.inr (by assumption) | exact Or.inl (by omega)); rw [← hr] at e8; rw [e8] at hk2; exact hk2) (Nat.lt_succ_self _) ls (lv_sub hl [1, 2, 3, 4, 5, 0] rfl)
        · skip
          refine lv_dload hx hb (dk kX5_bitsOf_0_ok 16 rfl) (lv_at hl 3 rfl) ?_
          refine lv_ldc2d (v := (4611686018427387904)) hx hb hown (hts _ (List.mem_cons_of_mem _ (ac16 _ (List.mem_of_getElem? (i := 3) rfl)))) (dk kX5_bitsOf_0_ok 17 rfl) ?_
          refine lv_dcmp hx hb (dk kX5_bitsOf_0_ok 18 rfl) ?_
          refine lv_if_lt (tgt := 53) hx hb (dk kX5_bitsOf_0_ok 19 rfl) (by decide) (fun h5 => ?_) (fun h5 => ?_)
          · skip
            refine lv_iconst (v := nI 0) hx hb (dk kX5_bitsOf_0_ok 30 rfl) rfl ?_
            refine lv_istore (lv' := [(8, .int (nI 0)), (0, .double x), (2, .int (nI fb)), (3, .int (nI bi)), (4, .double r1), (6, .long e1)]) hx hb (dk kX5_bitsOf_0_ok 31 rfl) hl (by decide) rfl (fun ls hl => ?_)
            have L56 : ∀ (fu : Nat) (q2 : Nat) (r2 : UInt64) (e2 : Int64), q2 ≤ bi → b12 x bi = b2 (bi - q2) r2 e2 → s2 (bi - q2) r2 = true → bi - q2 < fu → ∀ ls : Array Slot, lv_has ls 10 [(0, .double x), (2, .int (nI fb)), (3, .int (nI bi)), (4, .double r2), (6, .long e2), (8, .int (nI q2))] → W p l e ({ frames := 0, cells := 0, slots := 0, locals := 0 } : Room) s m ([.double x, .int (nI fb), .int (nI bi)] : List Value).toArray below meth cd s.heap [] 0 0 Q (F0 m 56 ls []) := by
              intro fu
              induction fu with
              | zero => intros; omega
              | succ fu ih56 =>
                intro q2 r2 e2 hq2 hr2 hs2 hme56 ls hl
                refine lv_iload hx hb (dk kX5_bitsOf_0_ok 32 rfl) (lv_at hl 5 rfl) ?_
                refine lv_iload_n hx hb (dk kX5_bitsOf_0_ok 33 rfl) rfl (lv_at hl 2 rfl) ?_
                refine n_icmp_ge (tgt := 89) hx hb (by omega) (by omega) (dk kX5_bitsOf_0_ok 34 rfl) (by decide) (fun h6 => ?_) (fun h6 => ?_)
                · skip
                  refine lv_dload hx hb (dk kX5_bitsOf_0_ok 49 rfl) (lv_at hl 3 rfl) ?_
                  refine lv_dconst1 hx hb (dk kX5_bitsOf_0_ok 50 rfl) ?_
                  refine lv_dsub hx hb (dk kX5_bitsOf_0_ok 51 rfl) (n64_ok (by have e9 := b2_e (n := bi - q2) (x := r2) (e := e2) (by first | exact Or.inr (by assumption) | exact Or.inl (by omega)); rw [← hr2] at e9; have z9 := hk3.1; rw [e9] at z9; exact z9)) ?_
                  refine lv_lconst (v := 1) hx hb (dk kX5_bitsOf_0_ok 52 rfl) (by decide) ?_
                  refine lv_iload_n hx hb (dk kX5_bitsOf_0_ok 53 rfl) rfl (lv_at hl 1 rfl) ?_
                  refine lv_lshl hx hb (dk kX5_bitsOf_0_ok 54 rfl) rfl ?_
                  refine lv_l2d hx hb (dk kX5_bitsOf_0_ok 55 rfl) ?_
                  refine lv_dmul hx hb (dk kX5_bitsOf_0_ok 56 rfl) (n64_ok (by have e9 := b2_e (n := bi - q2) (x := r2) (e := e2) (by first | exact Or.inr (by assumption) | exact Or.inl (by omega)); rw [← hr2] at e9; have z9 := hk3.2; rw [e9] at z9; exact z9)) ?_
                  refine lv_dstore (lv' := [(8, .double (FP.dmul (FP.dsub r2 FP.dconst1) (FP.l2d (1 <<< ((nI fb).toInt64 &&& 63))))), (0, .double x), (2, .int (nI fb)), (3, .int (nI bi)), (4, .double r2), (6, .long e2)]) hx hb (dk kX5_bitsOf_0_ok 57 rfl) hl (by decide) rfl (fun ls hl => ?_)
                  refine lv_lload hx hb (dk kX5_bitsOf_0_ok 58 rfl) (lv_at hl 5 rfl) ?_
                  refine lv_iload_n hx hb (dk kX5_bitsOf_0_ok 59 rfl) rfl (lv_at hl 2 rfl) ?_
                  refine lv_lshl hx hb (dk kX5_bitsOf_1_ok 0 rfl) rfl ?_
                  refine lv_dload hx hb (dk kX5_bitsOf_1_ok 1 rfl) (lv_at hl 0 rfl) ?_
                  refine lv_d2l hx hb (dk kX5_bitsOf_1_ok 2 rfl) ?_
                  refine lv_ladd hx hb (dk kX5_bitsOf_1_ok 3 rfl) ?_
                  exact hret _ _ _ (by first | (rw [bOf, if_neg (by assumption)]; done) | (have e9 := b2_e (n := bi - q2) (x := r2) (e := e2) (by first | exact Or.inr (by assumption) | exact Or.inl (by omega)); rw [← hr2] at e9; rw [bOf, if_pos (by assumption), e9]; rfl)) (dk kX5_bitsOf_1_ok 4 rfl)
                · skip
                  refine lv_dload hx hb (dk kX5_bitsOf_0_ok 35 rfl) (lv_at hl 3 rfl) ?_
                  refine lv_dconst1 hx hb (dk kX5_bitsOf_0_ok 36 rfl) ?_
                  refine lv_dcmp hx hb (dk kX5_bitsOf_0_ok 37 rfl) ?_
                  refine lv_if_ge (tgt := 89) hx hb (dk kX5_bitsOf_0_ok 38 rfl) (by decide) (fun h7 => ?_) (fun h7 => ?_)
                  · skip
                    refine lv_dload hx hb (dk kX5_bitsOf_0_ok 49 rfl) (lv_at hl 3 rfl) ?_
                    refine lv_dconst1 hx hb (dk kX5_bitsOf_0_ok 50 rfl) ?_
                    refine lv_dsub hx hb (dk kX5_bitsOf_0_ok 51 rfl) (n64_ok (by have e9 := b2_e (n := bi - q2) (x := r2) (e := e2) (by first | exact Or.inr (by assumption) | exact Or.inl (by omega)); rw [← hr2] at e9; have z9 := hk3.1; rw [e9] at z9; exact z9)) ?_
                    refine lv_lconst (v := 1) hx hb (dk kX5_bitsOf_0_ok 52 rfl) (by decide) ?_
                    refine lv_iload_n hx hb (dk kX5_bitsOf_0_ok 53 rfl) rfl (lv_at hl 1 rfl) ?_
                    refine lv_lshl hx hb (dk kX5_bitsOf_0_ok 54 rfl) rfl ?_
                    refine lv_l2d hx hb (dk kX5_bitsOf_0_ok 55 rfl) ?_
                    refine lv_dmul hx hb (dk kX5_bitsOf_0_ok 56 rfl) (n64_ok (by have e9 := b2_e (n := bi - q2) (x := r2) (e := e2) (by first | exact Or.inr (by assumption) | exact Or.inl (by omega)); rw [← hr2] at e9; have z9 := hk3.2; rw [e9] at z9; exact z9)) ?_
                    refine lv_dstore (lv' := [(8, .double (FP.dmul (FP.dsub r2 FP.dconst1) (FP.l2d (1 <<< ((nI fb).toInt64 &&& 63))))), (0, .double x), (2, .int (nI fb)), (3, .int (nI bi)), (4, .double r2), (6, .long e2)]) hx hb (dk kX5_bitsOf_0_ok 57 rfl) hl (by decide) rfl (fun ls hl => ?_)
                    refine lv_lload hx hb (dk kX5_bitsOf_0_ok 58 rfl) (lv_at hl 5 rfl) ?_
                    refine lv_iload_n hx hb (dk kX5_bitsOf_0_ok 59 rfl) rfl (lv_at hl 2 rfl) ?_
                    refine lv_lshl hx hb (dk kX5_bitsOf_1_ok 0 rfl) rfl ?_
                    refine lv_dload hx hb (dk kX5_bitsOf_1_ok 1 rfl) (lv_at hl 0 rfl) ?_
                    refine lv_d2l hx hb (dk kX5_bitsOf_1_ok 2 rfl) ?_
                    refine lv_ladd hx hb (dk kX5_bitsOf_1_ok 3 rfl) ?_
                    exact hret _ _ _ (by first | (rw [bOf, if_neg (by assumption)]; done) | (have e9 := b2_e (n := bi - q2) (x := r2) (e := e2) (by first | exact Or.inr (by assumption) | exact Or.inl (by omega)); rw [← hr2] at e9; rw [bOf, if_pos (by assumption), e9]; rfl)) (dk kX5_bitsOf_1_ok 4 rfl)
                  · skip
                    refine lv_dload hx hb (dk kX5_bitsOf_0_ok 39 rfl) (lv_at hl 3 rfl) ?_
                    refine lv_ldc2d (v := (4611686018427387904)) hx hb hown (hts _ (List.mem_cons_of_mem _ (ac16 _ (List.mem_of_getElem? (i := 3) rfl)))) (dk kX5_bitsOf_0_ok 40 rfl) ?_
                    refine lv_dmul hx hb (dk kX5_bitsOf_0_ok 41 rfl) (n64_ok (s2_n (n := bi - (q2 + 1)) (by rw [← show bi - q2 = bi - (q2 + 1) + 1 by omega]; exact hs2) h7).1) ?_
                    refine lv_dstore (lv' := [(4, .double (FP.dmul r2 two9)), (0, .double x), (2, .int (nI fb)), (3, .int (nI bi)), (6, .long e2), (8, .int (nI q2))]) hx hb (dk kX5_bitsOf_0_ok 42 rfl) hl (by decide) rfl (fun ls hl => ?_)
                    refine lv_lload hx hb (dk kX5_bitsOf_0_ok 43 rfl) (lv_at hl 4 rfl) ?_
                    refine lv_lconst (v := 1) hx hb (dk kX5_bitsOf_0_ok 44 rfl) (by decide) ?_
                    refine lv_lsub hx hb (dk kX5_bitsOf_0_ok 45 rfl) ?_
                    refine lv_lstore (lv' := [(6, .long (e2 - 1)), (4, .double (FP.dmul r2 two9)), (0, .double x), (2, .int (nI fb)), (3, .int (nI bi)), (8, .int (nI q2))]) hx hb (dk kX5_bitsOf_0_ok 46 rfl) hl (by decide) rfl (fun ls hl => ?_)
                    refine lv_iinc (v := nI (q2 + 1)) (lv' := [(8, .int (nI (q2 + 1))), (6, .long (e2 - 1)), (4, .double (FP.dmul r2 two9)), (0, .double x), (2, .int (nI fb)), (3, .int (nI bi))]) hx hb (dk kX5_bitsOf_0_ok 47 rfl) hl (k := 5) rfl (n_inc _) (by decide) rfl (fun ls hl => ?_)
                    refine lv_goto (tgt := 56) hx hb (dk kX5_bitsOf_0_ok 48 rfl) (by decide) ?_
                    exact ih56 (q2 + 1) (FP.dmul r2 two9) (e2 - 1) (by omega) (by have z9 := (show ¬ 0 ≤ Op.cmpValue (FP.dcmp r2 FP.dconst1) .g by assumption); rw [hr2, show bi - q2 = bi - (q2 + 1) + 1 by omega, b2_n z9]) (by have z9 := (show ¬ 0 ≤ Op.cmpValue (FP.dcmp r2 FP.dconst1) .g by assumption); exact (s2_n (n := bi - (q2 + 1)) (by rw [← show bi - q2 = bi - (q2 + 1) + 1 by omega]; exact hs2) z9).2) (by omega) ls (lv_sub hl [3, 4, 5, 2, 1, 0] rfl)
            exact L56 _ 0 r1 e1 (by omega) (by have e8 := b1_e (n := bi - q) (x := r1) (e := e1) (by first | exact Or.inr (by assumption) | exact Or.inl (by omega)); rw [← hr] at e8; rw [b12, e8]; rfl) (by have e8 := b1_e (n := bi - q) (x := r1) (e := e1) (by first | exact Or.inr (by assumption) | exact Or.inl (by omega)); rw [← hr] at e8; rw [e8] at hk2; exact hk2) (Nat.lt_succ_self _) ls (lv_sub hl [1, 2, 3, 4, 5, 0] rfl)
          · skip
            refine lv_dload hx hb (dk kX5_bitsOf_0_ok 20 rfl) (lv_at hl 3 rfl) ?_
            refine lv_ldc2d (v := (4611686018427387904)) hx hb hown (hts _ (List.mem_cons_of_mem _ (ac16 _ (List.mem_of_getElem? (i := 3) rfl)))) (dk kX5_bitsOf_0_ok 21 rfl) ?_
            refine lv_ddiv hx hb (dk kX5_bitsOf_0_ok 22 rfl) (n64_ok (s1_n (n := bi - (q + 1)) (by rw [← show bi - q = bi - (q + 1) + 1 by omega]; exact hs) h5).1) ?_
            refine lv_dstore (lv' := [(4, .double (FP.ddiv r1 two9)), (0, .double x), (2, .int (nI fb)), (3, .int (nI bi)), (6, .long e1), (8, .int (nI q))]) hx hb (dk kX5_bitsOf_0_ok 23 rfl) hl (by decide) rfl (fun ls hl => ?_)
            refine lv_lload hx hb (dk kX5_bitsOf_0_ok 24 rfl) (lv_at hl 4 rfl) ?_
            refine lv_lconst (v := 1) hx hb (dk kX5_bitsOf_0_ok 25 rfl) (by decide) ?_
            refine lv_ladd hx hb (dk kX5_bitsOf_0_ok 26 rfl) ?_
            refine lv_lstore (lv' := [(6, .long (e1 + 1)), (4, .double (FP.ddiv r1 two9)), (0, .double x), (2, .int (nI fb)), (3, .int (nI bi)), (8, .int (nI q))]) hx hb (dk kX5_bitsOf_0_ok 27 rfl) hl (by decide) rfl (fun ls hl => ?_)
            refine lv_iinc (v := nI (q + 1)) (lv' := [(8, .int (nI (q + 1))), (6, .long (e1 + 1)), (4, .double (FP.ddiv r1 two9)), (0, .double x), (2, .int (nI fb)), (3, .int (nI bi))]) hx hb (dk kX5_bitsOf_0_ok 28 rfl) hl (k := 5) rfl (n_inc _) (by decide) rfl (fun ls hl => ?_)
            refine lv_goto (tgt := 18) hx hb (dk kX5_bitsOf_0_ok 29 rfl) (by decide) ?_
            exact ih18 (q + 1) (FP.ddiv r1 two9) (e1 + 1) (by omega) (by have z9 := (show ¬ Op.cmpValue (FP.dcmp r1 two9) .l < 0 by assumption); rw [hr, show bi - q = bi - (q + 1) + 1 by omega, b1_n z9]) (by have z9 := (show ¬ Op.cmpValue (FP.dcmp r1 two9) .l < 0 by assumption); exact (s1_n (n := bi - (q + 1)) (by rw [← show bi - q = bi - (q + 1) + 1 by omega]; exact hs) z9).2) (by omega) ls (lv_sub hl [3, 4, 5, 2, 1, 0] rfl)
    exact L18 _ 0 x ((nI bi).toInt64) (by omega) (by rfl) (by exact hk1) (Nat.lt_succ_self _) ls (lv_sub hl [3, 4, 5, 2, 1, 0] rfl)
  · skip
    refine lv_lconst (v := 0) hx hb (dk kX5_bitsOf_0_ok 4 rfl) (by decide) ?_
    exact hret _ _ _ (by first | (rw [bOf, if_neg (by assumption)]; done) | (have e9 := b2_e (n := bi - q2) (x := r2) (e := e2) (by first | exact Or.inr (by assumption) | exact Or.inl (by omega)); rw [← hr2] at e9; rw [bOf, if_pos (by assumption), e9]; rfl)) (dk kX5_bitsOf_0_ok 5 rfl)
end
/-! from cldig -/
section
set_option maxRecDepth 100000 in
set_option maxHeartbeats 4000000 in
theorem tX5_digest (l : Launch) (D : va_G) (cI cQ cL : ClassId) (ad : Nat → Nat) (N : Nat) (F : Nat → va_E) (hk : 76 < N) (c b v g h j : Nat → Int32) (t : Nat) (u z : Int32) (hN : stAt cI ad F 1 c b v g h j (nI t) u z) (c8 b8 v8 g8 h8 j8 : Nat → Int32) (t8 : Nat) (u8 z8 : Int32) (hSn : stAt cI ad F 9 c8 b8 v8 g8 h8 j8 (nI t8) u8 z8) (n9 m9 : Nat) (hn9 : n9 < 6) (hm9 : m9 ≤ 6) (hPa : paAt cQ ad F 17 n9 m9) (a : Nat → Int32) (n : Nat) (hn60 : n ≤ 60) (hT : gtAt cI ad F 67 a n) (c6 b6 v6 : Nat → Int32) (hM6 : matAt cI ad F 69 c6 b6 v6) (a7 d7 q7 : Nat → Int32) (hO : roAt cI ad F 73 a7 d7 q7) (hs : Bool) (hC : F 0 = .inr (5, [.ref (ad 1), .ref (ad 9), .ref (ad 17), .ref (ad 67), .ref (ad 69), .ref (ad 73), .int (bI hs)])) (ht : t < 4) (hc9 : ∀ w, w < 16 → pot c w = false → cell9 (c w)) : MX l yX5_digest (Cond.code yX5_digest cX5_digest 4 (some .long) :: AW) ({ frames := 10, cells := 0, slots := 0, locals := 172 } : Room) D cI cQ cL ad N F [.ref (ad 0)] (dp (some (.long (fo (fun k9 => cod a n k9) n (mxd (mxd (mxd (mxd (mxd (foP (fun w9 => decide (top c v (nI w9) = -1)) (fun w9 k9 => cPile c b v (cat (nI (w9 % 13)) (nI (w9 / 13))) (nI k9)) 4 169 (fo2 (fun w9 k9 => cCol c b v h j w9 (nI k9)) 7 4 (cwD c b v g t (a7, d7, q7) 16 (fo (fun k9 => cCnt c b v g h t u z m9 (nI k9)) 14 3823)))) (cbO c b v t ((-1 : Int32), nI 0, nI 0, c6, b6, v6) 16).1.toInt64) (bOf (shr (potn c)) 52 1023)) (bOf (FP.f2d (mea (cnt (bot c b) 16) (potn c))) 23 127)) (if hs = true then 1 else 0)) (nI n).toInt64)))) (mSet cI (roSet cI ad F 73 (cRo c (a7, d7, q7) 16).1 (cRo c (a7, d7, q7) 16).2.1 (cRo c (a7, d7, q7) 16).2.2) 69 (cbO c b v t ((-1 : Int32), nI 0, nI 0, c6, b6, v6) 16).2.2.2.1 (cbO c b v t ((-1 : Int32), nI 0, nI 0, c6, b6, v6) 16).2.2.2.2.1 (cbO c b v t ((-1 : Int32), nI 0, nI 0, c6, b6, v6) 16).2.2.2.2.2)) 0 0 := by
  refine mx_l (by decide +kernel) rfl (Nat.le_of_ble_eq_true rfl) (fun p e s m below meth cd Q ls hx hb hml hown hts hDi hP hK hNW hS hret hl => ?_)
  have hown : s.vm.findClass RX5 = some m.cls := hown
  have hz0 : 0 < N := by omega
  have hz1 : 1 < N := by omega
  have hz1___1 : 1 + 1 < N := by omega
  have hz1___1___1 : 1 + 1 + 1 < N := by omega
  have hz1___1___2 : 1 + 1 + 2 < N := by omega
  have hz1___1___3 : 1 + 1 + 3 < N := by omega
  have hz1___5 : 1 + 5 < N := by omega
  have hz1___6 : 1 + 6 < N := by omega
  have hz1___7 : 1 + 7 < N := by omega
  have hz9 : 9 < N := by omega
  have hz17 : 17 < N := by omega
  have hz17___1 : 17 + 1 < N := by omega
  have hz67 : 67 < N := by omega
  have hz67___1 : 67 + 1 < N := by omega
  have hz69 : 69 < N := by omega
  have hz69___1 : 69 + 1 < N := by omega
  have hz69___2 : 69 + 2 < N := by omega
  have hz69___3 : 69 + 3 < N := by omega
  have hz73 : 73 < N := by omega
  have hz1___1___3 : 1 + 1 + 3 < N := by omega
  have hz69___3 : 69 + 3 < N := by omega
  have hl : lv_has ls 4 [(0, .ref (ad 0))] := hl
  refine lv_ldc2 (v := (3823)) hx hb hown (hts _ (List.mem_cons_of_mem _ (ac16 _ (List.mem_of_getElem? (i := 4) rfl)))) (dk kX5_digest_0_ok 0 rfl) ?_
  refine lv_lstore_n (lv' := [(1, .long 3823), (0, .ref (ad 0))]) hx hb (dk kX5_digest_0_ok 1 rfl) rfl hl (by decide) rfl (fun ls hl => ?_)
  refine lv_iconst (v := nI 0) hx hb (dk kX5_digest_0_ok 2 rfl) rfl ?_
  refine lv_istore_n (lv' := [(3, .int (nI 0)), (1, .long 3823), (0, .ref (ad 0))]) hx hb (dk kX5_digest_0_ok 3 rfl) rfl hl (by decide) rfl (fun ls hl => ?_)
  have L6 : ∀ (fu : Nat) (i : Nat) (x1 : Int64) (H : Heap) (locs : List Loc), va_P D vwCl (iW ad N (F)) H → va_S (iA ad N s.heap.size) s.heap H locs → x1 = fo (fun k9 => cCnt c b v g h t u z m9 (nI k9)) i 3823 → i ≤ 14 → 14 - i < fu → ∀ ls : Array Slot, lv_has ls 4 [(0, .ref (ad 0)), (1, .long x1), (3, .int (nI i))] → W p l e ({ frames := 10, cells := 0, slots := 0, locals := 172 } : Room) s m ([.ref (ad 0)] : List Value).toArray below meth cd H locs 0 0 Q (F0 m 6 ls []) := by
    intro fu
    induction fu with
    | zero => intros; omega
    | succ fu ih6 =>
      intro i x1 H locs hP hS ex1 hi hme6 ls hl
      subst ex1
      refine lv_iload_n hx hb (dk kX5_digest_0_ok 4 rfl) rfl (lv_at hl 2 rfl) ?_
      refine lv_bipush (v := nI 13) hx hb (dk kX5_digest_0_ok 5 rfl) rfl ?_
      refine n_icmp_gt (tgt := 29) hx hb (by omega) (by decide) (dk kX5_digest_0_ok 6 rfl) (by decide) (fun h1 => ?_) (fun h1 => ?_)
      · skip
        refine lv_aload_n hx hb (dk kX5_digest_0_ok 16 rfl) rfl (lv_at hl 0 rfl) ?_
        refine lv_lload_n hx hb (dk kX5_digest_0_ok 17 rfl) rfl (lv_at hl 1 rfl) ?_
        refine cvD (As := [.long (fo (fun k9 => cCnt c b v g h t u z m9 (nI k9)) i 3823)]) (rest := []) (roSet cI ad F 73 ((cRo c (a7, d7, q7) 16).1) ((cRo c (a7, d7, q7) 16).2.1) ((cRo c (a7, d7, q7) 16).2.2)) ⟨hx, hb, hml, hown, hts⟩ (tX5_withWinks l D cI cQ cL ad N F (by omega) c b v g h j t u z hN c8 b8 v8 g8 h8 j8 t8 u8 z8 hSn n9 m9 hn9 hm9 hPa a n hn60 hT c6 b6 v6 hM6 a7 d7 q7 hO hs hC ht hc9 (fo (fun k9 => cCnt c b v g h t u z m9 (nI k9)) i 3823)) (cwV9 1 hts mcX5_withWinks (ac16 _ (List.mem_of_getElem? (i := 9) rfl)) miX5_withWinks meX5_withWinks mini_RX5 rfl rfl hdX5_withWinks ⟨Nat.le_of_ble_eq_true rfl, Nat.le_of_ble_eq_true rfl⟩) hDi hK hP hNW hS hz0 hC rfl rfl hl.1 rfl (Nat.le_of_ble_eq_true rfl) (by decide) (dk kX5_digest_0_ok 18 rfl) rfl (fun H locs hP hS => ?_)
        refine lv_lstore_n (lv' := [(1, .long (cwD c b v g t (a7, d7, q7) 16 (fo (fun k9 => cCnt c b v g h t u z m9 (nI k9)) i 3823))), (0, .ref (ad 0)), (3, .int (nI i))]) hx hb (dk kX5_digest_0_ok 19 rfl) rfl hl (by decide) rfl (fun ls hl => ?_)
        refine lv_aload_n hx hb (dk kX5_digest_0_ok 20 rfl) rfl (lv_at hl 1 rfl) ?_
        refine lv_lload_n hx hb (dk kX5_digest_0_ok 21 rfl) rfl (lv_at hl 0 rfl) ?_
        refine cvR (As := [.long (cwD c b v g t (a7, d7, q7) 16 (fo (fun k9 => cCnt c b v g h t u z m9 (nI k9)) i 3823))]) (rest := []) ⟨hx, hb, hml, hown, hts⟩ (tX5_withColours l D cI cQ cL ad N (roSet cI ad F 73 ((cRo c (a7, d7, q7) 16).1) ((cRo c (a7, d7, q7) 16).2.1) ((cRo c (a7, d7, q7) 16).2.2)) (by omega) c b v g h j t u z (stAt_keep hN (fun i _ _ => roSet_out (by omega))) c8 b8 v8 g8 h8 j8 t8 u8 z8 (stAt_keep hSn (fun i _ _ => roSet_out (by omega))) n9 m9 hn9 hm9 (paAt_keep hPa (fun i _ _ => roSet_out (by omega))) a n hn60 (gtAt_keep hT (fun i _ _ => roSet_out (by omega))) c6 b6 v6 (matAt_keep hM6 (fun i _ _ => roSet_out (by omega))) ((cRo c (a7, d7, q7) 16).1) ((cRo c (a7, d7, q7) 16).2.1) ((cRo c (a7, d7, q7) 16).2.2) roSet_at hs ((roSet_out (by omega)).trans hC) (cwD c b v g t (a7, d7, q7) 16 (fo (fun k9 => cCnt c b v g h t u z m9 (nI k9)) i 3823))) (cwV9 1 hts mcX5_withColours (ac16 _ (List.mem_of_getElem? (i := 13) rfl)) miX5_withColours meX5_withColours mini_RX5 rfl rfl hdX5_withColours ⟨Nat.le_of_ble_eq_true rfl, Nat.le_of_ble_eq_true rfl⟩) hK hP hNW hz0 ((roSet_out (by omega)).trans hC) rfl rfl hl.1 rfl (Nat.le_of_ble_eq_true rfl) (by decide) (dk kX5_digest_0_ok 22 rfl) ?_
        refine lv_lstore_n (lv' := [(1, .long (fo2 (fun w9 k9 => cCol c b v h j w9 (nI k9)) 7 4 (cwD c b v g t (a7, d7, q7) 16 (fo (fun k9 => cCnt c b v g h t u z m9 (nI k9)) i 3823)))), (0, .ref (ad 0)), (3, .int (nI i))]) hx hb (dk kX5_digest_0_ok 23 rfl) rfl hl (by decide) rfl (fun ls hl => ?_)
        refine lv_aload_n hx hb (dk kX5_digest_0_ok 24 rfl) rfl (lv_at hl 1 rfl) ?_
        refine lv_lload_n hx hb (dk kX5_digest_0_ok 25 rfl) rfl (lv_at hl 0 rfl) ?_
        refine cvR (As := [.long (fo2 (fun w9 k9 => cCol c b v h j w9 (nI k9)) 7 4 (cwD c b v g t (a7, d7, q7) 16 (fo (fun k9 => cCnt c b v g h t u z m9 (nI k9)) i 3823)))]) (rest := []) ⟨hx, hb, hml, hown, hts⟩ (tX5_withPiles l D cI cQ cL ad N (roSet cI ad F 73 ((cRo c (a7, d7, q7) 16).1) ((cRo c (a7, d7, q7) 16).2.1) ((cRo c (a7, d7, q7) 16).2.2)) (by omega) c b v g h j t u z (stAt_keep hN (fun i _ _ => roSet_out (by omega))) c8 b8 v8 g8 h8 j8 t8 u8 z8 (stAt_keep hSn (fun i _ _ => roSet_out (by omega))) n9 m9 hn9 hm9 (paAt_keep hPa (fun i _ _ => roSet_out (by omega))) a n hn60 (gtAt_keep hT (fun i _ _ => roSet_out (by omega))) c6 b6 v6 (matAt_keep hM6 (fun i _ _ => roSet_out (by omega))) ((cRo c (a7, d7, q7) 16).1) ((cRo c (a7, d7, q7) 16).2.1) ((cRo c (a7, d7, q7) 16).2.2) roSet_at hs ((roSet_out (by omega)).trans hC) (fo2 (fun w9 k9 => cCol c b v h j w9 (nI k9)) 7 4 (cwD c b v g t (a7, d7, q7) 16 (fo (fun k9 => cCnt c b v g h t u z m9 (nI k9)) i 3823)))) (cwV9 1 hts mcX5_withPiles (ac16 _ (List.mem_of_getElem? (i := 17) rfl)) miX5_withPiles meX5_withPiles mini_RX5 rfl rfl hdX5_withPiles ⟨Nat.le_of_ble_eq_true rfl, Nat.le_of_ble_eq_true rfl⟩) hK hP hNW hz0 ((roSet_out (by omega)).trans hC) rfl rfl hl.1 rfl (Nat.le_of_ble_eq_true rfl) (by decide) (dk kX5_digest_0_ok 26 rfl) ?_
        refine lv_lstore_n (lv' := [(1, .long (foP (fun w9 => decide (top c v (nI w9) = -1)) (fun w9 k9 => cPile c b v (cat (nI (w9 % 13)) (nI (w9 / 13))) (nI k9)) 4 169 (fo2 (fun w9 k9 => cCol c b v h j w9 (nI k9)) 7 4 (cwD c b v g t (a7, d7, q7) 16 (fo (fun k9 => cCnt c b v g h t u z m9 (nI k9)) i 3823))))), (0, .ref (ad 0)), (3, .int (nI i))]) hx hb (dk kX5_digest_0_ok 27 rfl) rfl hl (by decide) rfl (fun ls hl => ?_)
        refine lv_lload_n hx hb (dk kX5_digest_0_ok 28 rfl) rfl (lv_at hl 0 rfl) ?_
        refine lv_aload_n hx hb (dk kX5_digest_0_ok 29 rfl) rfl (lv_at hl 1 rfl) ?_
        refine cvD (As := []) (rest := [.long (foP (fun w9 => decide (top c v (nI w9) = -1)) (fun w9 k9 => cPile c b v (cat (nI (w9 % 13)) (nI (w9 / 13))) (nI k9)) 4 169 (fo2 (fun w9 k9 => cCol c b v h j w9 (nI k9)) 7 4 (cwD c b v g t (a7, d7, q7) 16 (fo (fun k9 => cCnt c b v g h t u z m9 (nI k9)) i 3823))))]) (mSet cI (roSet cI ad F 73 ((cRo c (a7, d7, q7) 16).1) ((cRo c (a7, d7, q7) 16).2.1) ((cRo c (a7, d7, q7) 16).2.2)) 69 ((cbO c b v t ((-1 : Int32), nI 0, nI 0, c6, b6, v6) 16).2.2.2.1) ((cbO c b v t ((-1 : Int32), nI 0, nI 0, c6, b6, v6) 16).2.2.2.2.1) ((cbO c b v t ((-1 : Int32), nI 0, nI 0, c6, b6, v6) 16).2.2.2.2.2)) ⟨hx, hb, hml, hown, hts⟩ (tX5_best l D cI cQ cL ad N (roSet cI ad F 73 ((cRo c (a7, d7, q7) 16).1) ((cRo c (a7, d7, q7) 16).2.1) ((cRo c (a7, d7, q7) 16).2.2)) (by omega) c b v g h j t u z (stAt_keep hN (fun i _ _ => roSet_out (by omega))) c8 b8 v8 g8 h8 j8 t8 u8 z8 (stAt_keep hSn (fun i _ _ => roSet_out (by omega))) n9 m9 hn9 hm9 (paAt_keep hPa (fun i _ _ => roSet_out (by omega))) a n hn60 (gtAt_keep hT (fun i _ _ => roSet_out (by omega))) c6 b6 v6 (matAt_keep hM6 (fun i _ _ => roSet_out (by omega))) ((cRo c (a7, d7, q7) 16).1) ((cRo c (a7, d7, q7) 16).2.1) ((cRo c (a7, d7, q7) 16).2.2) roSet_at hs ((roSet_out (by omega)).trans hC) ht) (cwV9 0 hts mcX5_best (ac16 _ (List.mem_of_getElem? (i := 21) rfl)) miX5_best meX5_best mini_RX5 rfl rfl hdX5_best ⟨Nat.le_of_ble_eq_true rfl, Nat.le_of_ble_eq_true rfl⟩) hDi hK hP hNW hS hz0 ((roSet_out (by omega)).trans hC) rfl rfl hl.1 rfl (Nat.le_of_ble_eq_true rfl) (by decide) (dk kX5_digest_0_ok 30 rfl) rfl (fun H locs hP hS => ?_)
        refine lv_i2l hx hb (dk kX5_digest_0_ok 31 rfl) rfl ?_
        refine csP (As := [.long (foP (fun w9 => decide (top c v (nI w9) = -1)) (fun w9 k9 => cPile c b v (cat (nI (w9 % 13)) (nI (w9 / 13))) (nI k9)) 4 169 (fo2 (fun w9 k9 => cCol c b v h j w9 (nI k9)) 7 4 (cwD c b v g t (a7, d7, q7) 16 (fo (fun k9 => cCnt c b v g h t u z m9 (nI k9)) i 3823)))), .long (((cbO c b v t ((-1 : Int32), nI 0, nI 0, c6, b6, v6) 16).1).toInt64)]) (rest := []) ⟨hx, hb, hml, hown, hts⟩ (tX5_mixed l (foP (fun w9 => decide (top c v (nI w9) = -1)) (fun w9 k9 => cPile c b v (cat (nI (w9 % 13)) (nI (w9 / 13))) (nI k9)) 4 169 (fo2 (fun w9 k9 => cCol c b v h j w9 (nI k9)) 7 4 (cwD c b v g t (a7, d7, q7) 16 (fo (fun k9 => cCnt c b v g h t u z m9 (nI k9)) i 3823)))) (((cbO c b v t ((-1 : Int32), nI 0, nI 0, c6, b6, v6) 16).1).toInt64)) (cwS9 2 hts mcX5_mixed (ac15 _ (List.mem_of_getElem? (i := 8) rfl)) msX5_mixed mini_RX5 rfl rfl hdX5_mixed ⟨Nat.le_of_ble_eq_true rfl, Nat.le_of_ble_eq_true rfl⟩) rfl hl.1 rfl (Nat.le_of_ble_eq_true rfl) (by decide) (dk kX5_digest_0_ok 32 rfl) ?_
        refine lv_lstore_n (lv' := [(1, .long (mxd (foP (fun w9 => decide (top c v (nI w9) = -1)) (fun w9 k9 => cPile c b v (cat (nI (w9 % 13)) (nI (w9 / 13))) (nI k9)) 4 169 (fo2 (fun w9 k9 => cCol c b v h j w9 (nI k9)) 7 4 (cwD c b v g t (a7, d7, q7) 16 (fo (fun k9 => cCnt c b v g h t u z m9 (nI k9)) i 3823)))) (((cbO c b v t ((-1 : Int32), nI 0, nI 0, c6, b6, v6) 16).1).toInt64))), (0, .ref (ad 0)), (3, .int (nI i))]) hx hb (dk kX5_digest_0_ok 33 rfl) rfl hl (by decide) rfl (fun ls hl => ?_)
        refine lv_lload_n hx hb (dk kX5_digest_0_ok 34 rfl) rfl (lv_at hl 0 rfl) ?_
        refine lv_aload_n hx hb (dk kX5_digest_0_ok 35 rfl) rfl (lv_at hl 1 rfl) ?_
        refine cvR (As := []) (rest := [.long (mxd (foP (fun w9 => decide (top c v (nI w9) = -1)) (fun w9 k9 => cPile c b v (cat (nI (w9 % 13)) (nI (w9 / 13))) (nI k9)) 4 169 (fo2 (fun w9 k9 => cCol c b v h j w9 (nI k9)) 7 4 (cwD c b v g t (a7, d7, q7) 16 (fo (fun k9 => cCnt c b v g h t u z m9 (nI k9)) i 3823)))) (((cbO c b v t ((-1 : Int32), nI 0, nI 0, c6, b6, v6) 16).1).toInt64))]) ⟨hx, hb, hml, hown, hts⟩ (tX5_pottedShare l D cI cQ cL ad N (mSet cI (roSet cI ad F 73 ((cRo c (a7, d7, q7) 16).1) ((cRo c (a7, d7, q7) 16).2.1) ((cRo c (a7, d7, q7) 16).2.2)) 69 ((cbO c b v t ((-1 : Int32), nI 0, nI 0, c6, b6, v6) 16).2.2.2.1) ((cbO c b v t ((-1 : Int32), nI 0, nI 0, c6, b6, v6) 16).2.2.2.2.1) ((cbO c b v t ((-1 : Int32), nI 0, nI 0, c6, b6, v6) 16).2.2.2.2.2)) (by omega) c b v g h j t u z (stAt_keep (stAt_keep hN (fun i _ _ => roSet_out (by omega))) (fun i _ _ => mSet_out (by omega))) c8 b8 v8 g8 h8 j8 t8 u8 z8 (stAt_keep (stAt_keep hSn (fun i _ _ => roSet_out (by omega))) (fun i _ _ => mSet_out (by omega))) n9 m9 hn9 hm9 (paAt_keep (paAt_keep hPa (fun i _ _ => roSet_out (by omega))) (fun i _ _ => mSet_out (by omega))) a n hn60 (gtAt_keep (gtAt_keep hT (fun i _ _ => roSet_out (by omega))) (fun i _ _ => mSet_out (by omega))) ((cbO c b v t ((-1 : Int32), nI 0, nI 0, c6, b6, v6) 16).2.2.2.1) ((cbO c b v t ((-1 : Int32), nI 0, nI 0, c6, b6, v6) 16).2.2.2.2.1) ((cbO c b v t ((-1 : Int32), nI 0, nI 0, c6, b6, v6) 16).2.2.2.2.2) (mSet_at (matAt_keep hM6 (fun i _ _ => roSet_out (by omega)))) ((cRo c (a7, d7, q7) 16).1) ((cRo c (a7, d7, q7) 16).2.1) ((cRo c (a7, d7, q7) 16).2.2) (roAt_keep roSet_at (fun i _ _ => mSet_out (by omega))) hs ((mSet_out (by omega)).trans ((roSet_out (by omega)).trans hC))) (cwV9 0 hts mcX5_pottedShare (ac17 _ (List.mem_of_getElem? (i := 1) rfl)) miX5_pottedShare meX5_pottedShare mini_RX5 rfl rfl hdX5_pottedShare ⟨Nat.le_of_ble_eq_true rfl, Nat.le_of_ble_eq_true rfl⟩) hK hP hNW hz0 ((mSet_out (by omega)).trans ((roSet_out (by omega)).trans hC)) rfl rfl hl.1 rfl (Nat.le_of_ble_eq_true rfl) (by decide) (dk kX5_digest_0_ok 36 rfl) ?_
        refine lv_bipush (v := nI 52) hx hb (dk kX5_digest_0_ok 37 rfl) rfl ?_
        refine lv_sipush (v := nI 1023) hx hb (dk kX5_digest_0_ok 38 rfl) rfl ?_
        refine csP (As := [.double (shr (potn c)), .int (nI 52), .int (nI 1023)]) (rest := [.long (mxd (foP (fun w9 => decide (top c v (nI w9) = -1)) (fun w9 k9 => cPile c b v (cat (nI (w9 % 13)) (nI (w9 / 13))) (nI k9)) 4 169 (fo2 (fun w9 k9 => cCol c b v h j w9 (nI k9)) 7 4 (cwD c b v g t (a7, d7, q7) 16 (fo (fun k9 => cCnt c b v g h t u z m9 (nI k9)) i 3823)))) (((cbO c b v t ((-1 : Int32), nI 0, nI 0, c6, b6, v6) 16).1).toInt64))]) ⟨hx, hb, hml, hown, hts⟩ (tX5_bitsOf l (shr (potn c)) (nI 52) 52 rfl (nI 1023) 1023 rfl (by decide) (bok_shr (potn_le c)).1) (cwS9 3 hts mcX5_bitsOf (ac17 _ (List.mem_of_getElem? (i := 5) rfl)) msX5_bitsOf mini_RX5 rfl rfl hdX5_bitsOf ⟨Nat.le_of_ble_eq_true rfl, Nat.le_of_ble_eq_true rfl⟩) rfl hl.1 rfl (Nat.le_of_ble_eq_true rfl) (by decide) (dk kX5_digest_0_ok 39 rfl) ?_
        refine csP (As := [.long (mxd (foP (fun w9 => decide (top c v (nI w9) = -1)) (fun w9 k9 => cPile c b v (cat (nI (w9 % 13)) (nI (w9 / 13))) (nI k9)) 4 169 (fo2 (fun w9 k9 => cCol c b v h j w9 (nI k9)) 7 4 (cwD c b v g t (a7, d7, q7) 16 (fo (fun k9 => cCnt c b v g h t u z m9 (nI k9)) i 3823)))) (((cbO c b v t ((-1 : Int32), nI 0, nI 0, c6, b6, v6) 16).1).toInt64)), .long (bOf (shr (potn c)) 52 1023)]) (rest := []) ⟨hx, hb, hml, hown, hts⟩ (tX5_mixed l (mxd (foP (fun w9 => decide (top c v (nI w9) = -1)) (fun w9 k9 => cPile c b v (cat (nI (w9 % 13)) (nI (w9 / 13))) (nI k9)) 4 169 (fo2 (fun w9 k9 => cCol c b v h j w9 (nI k9)) 7 4 (cwD c b v g t (a7, d7, q7) 16 (fo (fun k9 => cCnt c b v g h t u z m9 (nI k9)) i 3823)))) (((cbO c b v t ((-1 : Int32), nI 0, nI 0, c6, b6, v6) 16).1).toInt64)) (bOf (shr (potn c)) 52 1023)) (cwS9 2 hts mcX5_mixed (ac15 _ (List.mem_of_getElem? (i := 8) rfl)) msX5_mixed mini_RX5 rfl rfl hdX5_mixed ⟨Nat.le_of_ble_eq_true rfl, Nat.le_of_ble_eq_true rfl⟩) rfl hl.1 rfl (Nat.le_of_ble_eq_true rfl) (by decide) (dk kX5_digest_0_ok 40 rfl) ?_
        refine lv_lstore_n (lv' := [(1, .long (mxd (mxd (foP (fun w9 => decide (top c v (nI w9) = -1)) (fun w9 k9 => cPile c b v (cat (nI (w9 % 13)) (nI (w9 / 13))) (nI k9)) 4 169 (fo2 (fun w9 k9 => cCol c b v h j w9 (nI k9)) 7 4 (cwD c b v g t (a7, d7, q7) 16 (fo (fun k9 => cCnt c b v g h t u z m9 (nI k9)) i 3823)))) (((cbO c b v t ((-1 : Int32), nI 0, nI 0, c6, b6, v6) 16).1).toInt64)) (bOf (shr (potn c)) 52 1023))), (0, .ref (ad 0)), (3, .int (nI i))]) hx hb (dk kX5_digest_0_ok 41 rfl) rfl hl (by decide) rfl (fun ls hl => ?_)
        refine lv_lload_n hx hb (dk kX5_digest_0_ok 42 rfl) rfl (lv_at hl 0 rfl) ?_
        refine lv_aload_n hx hb (dk kX5_digest_0_ok 43 rfl) rfl (lv_at hl 1 rfl) ?_
        refine cvR (As := []) (rest := [.long (mxd (mxd (foP (fun w9 => decide (top c v (nI w9) = -1)) (fun w9 k9 => cPile c b v (cat (nI (w9 % 13)) (nI (w9 / 13))) (nI k9)) 4 169 (fo2 (fun w9 k9 => cCol c b v h j w9 (nI k9)) 7 4 (cwD c b v g t (a7, d7, q7) 16 (fo (fun k9 => cCnt c b v g h t u z m9 (nI k9)) i 3823)))) (((cbO c b v t ((-1 : Int32), nI 0, nI 0, c6, b6, v6) 16).1).toInt64)) (bOf (shr (potn c)) 52 1023))]) ⟨hx, hb, hml, hown, hts⟩ (tX5_meanPile l D cI cQ cL ad N (mSet cI (roSet cI ad F 73 ((cRo c (a7, d7, q7) 16).1) ((cRo c (a7, d7, q7) 16).2.1) ((cRo c (a7, d7, q7) 16).2.2)) 69 ((cbO c b v t ((-1 : Int32), nI 0, nI 0, c6, b6, v6) 16).2.2.2.1) ((cbO c b v t ((-1 : Int32), nI 0, nI 0, c6, b6, v6) 16).2.2.2.2.1) ((cbO c b v t ((-1 : Int32), nI 0, nI 0, c6, b6, v6) 16).2.2.2.2.2)) (by omega) c b v g h j t u z (stAt_keep (stAt_keep hN (fun i _ _ => roSet_out (by omega))) (fun i _ _ => mSet_out (by omega))) c8 b8 v8 g8 h8 j8 t8 u8 z8 (stAt_keep (stAt_keep hSn (fun i _ _ => roSet_out (by omega))) (fun i _ _ => mSet_out (by omega))) n9 m9 hn9 hm9 (paAt_keep (paAt_keep hPa (fun i _ _ => roSet_out (by omega))) (fun i _ _ => mSet_out (by omega))) a n hn60 (gtAt_keep (gtAt_keep hT (fun i _ _ => roSet_out (by omega))) (fun i _ _ => mSet_out (by omega))) ((cbO c b v t ((-1 : Int32), nI 0, nI 0, c6, b6, v6) 16).2.2.2.1) ((cbO c b v t ((-1 : Int32), nI 0, nI 0, c6, b6, v6) 16).2.2.2.2.1) ((cbO c b v t ((-1 : Int32), nI 0, nI 0, c6, b6, v6) 16).2.2.2.2.2) (mSet_at (matAt_keep hM6 (fun i _ _ => roSet_out (by omega)))) ((cRo c (a7, d7, q7) 16).1) ((cRo c (a7, d7, q7) 16).2.1) ((cRo c (a7, d7, q7) 16).2.2) (roAt_keep roSet_at (fun i _ _ => mSet_out (by omega))) hs ((mSet_out (by omega)).trans ((roSet_out (by omega)).trans hC))) (cwV9 0 hts mcX5_meanPile (ac17 _ (List.mem_of_getElem? (i := 8) rfl)) miX5_meanPile meX5_meanPile mini_RX5 rfl rfl hdX5_meanPile ⟨Nat.le_of_ble_eq_true rfl, Nat.le_of_ble_eq_true rfl⟩) hK hP hNW hz0 ((mSet_out (by omega)).trans ((roSet_out (by omega)).trans hC)) rfl rfl hl.1 rfl (Nat.le_of_ble_eq_true rfl) (by decide) (dk kX5_digest_0_ok 44 rfl) ?_
        refine lv_f2d hx hb (dk kX5_digest_0_ok 45 rfl) (n64_ok (bok_mea (potn_le c) (piles_le c b)).1) ?_
        refine lv_bipush (v := nI 23) hx hb (dk kX5_digest_0_ok 46 rfl) rfl ?_
        refine lv_bipush (v := nI 127) hx hb (dk kX5_digest_0_ok 47 rfl) rfl ?_
        refine csP (As := [.double (FP.f2d (mea (cnt (bot c b) 16) (potn c))), .int (nI 23), .int (nI 127)]) (rest := [.long (mxd (mxd (foP (fun w9 => decide (top c v (nI w9) = -1)) (fun w9 k9 => cPile c b v (cat (nI (w9 % 13)) (nI (w9 / 13))) (nI k9)) 4 169 (fo2 (fun w9 k9 => cCol c b v h j w9 (nI k9)) 7 4 (cwD c b v g t (a7, d7, q7) 16 (fo (fun k9 => cCnt c b v g h t u z m9 (nI k9)) i 3823)))) (((cbO c b v t ((-1 : Int32), nI 0, nI 0, c6, b6, v6) 16).1).toInt64)) (bOf (shr (potn c)) 52 1023))]) ⟨hx, hb, hml, hown, hts⟩ (tX5_bitsOf l (FP.f2d (mea (cnt (bot c b) 16) (potn c))) (nI 23) 23 rfl (nI 127) 127 rfl (by decide) (bok_mea (potn_le c) (piles_le c b)).2.1) (cwS9 3 hts mcX5_bitsOf (ac17 _ (List.mem_of_getElem? (i := 5) rfl)) msX5_bitsOf mini_RX5 rfl rfl hdX5_bitsOf ⟨Nat.le_of_ble_eq_true rfl, Nat.le_of_ble_eq_true rfl⟩) rfl hl.1 rfl (Nat.le_of_ble_eq_true rfl) (by decide) (dk kX5_digest_0_ok 48 rfl) ?_
        refine csP (As := [.long (mxd (mxd (foP (fun w9 => decide (top c v (nI w9) = -1)) (fun w9 k9 => cPile c b v (cat (nI (w9 % 13)) (nI (w9 / 13))) (nI k9)) 4 169 (fo2 (fun w9 k9 => cCol c b v h j w9 (nI k9)) 7 4 (cwD c b v g t (a7, d7, q7) 16 (fo (fun k9 => cCnt c b v g h t u z m9 (nI k9)) i 3823)))) (((cbO c b v t ((-1 : Int32), nI 0, nI 0, c6, b6, v6) 16).1).toInt64)) (bOf (shr (potn c)) 52 1023)), .long (bOf (FP.f2d (mea (cnt (bot c b) 16) (potn c))) 23 127)]) (rest := []) ⟨hx, hb, hml, hown, hts⟩ (tX5_mixed l (mxd (mxd (foP (fun w9 => decide (top c v (nI w9) = -1)) (fun w9 k9 => cPile c b v (cat (nI (w9 % 13)) (nI (w9 / 13))) (nI k9)) 4 169 (fo2 (fun w9 k9 => cCol c b v h j w9 (nI k9)) 7 4 (cwD c b v g t (a7, d7, q7) 16 (fo (fun k9 => cCnt c b v g h t u z m9 (nI k9)) i 3823)))) (((cbO c b v t ((-1 : Int32), nI 0, nI 0, c6, b6, v6) 16).1).toInt64)) (bOf (shr (potn c)) 52 1023)) (bOf (FP.f2d (mea (cnt (bot c b) 16) (potn c))) 23 127)) (cwS9 2 hts mcX5_mixed (ac15 _ (List.mem_of_getElem? (i := 8) rfl)) msX5_mixed mini_RX5 rfl rfl hdX5_mixed ⟨Nat.le_of_ble_eq_true rfl, Nat.le_of_ble_eq_true rfl⟩) rfl hl.1 rfl (Nat.le_of_ble_eq_true rfl) (by decide) (dk kX5_digest_0_ok 49 rfl) ?_
        refine lv_lstore_n (lv' := [(1, .long (mxd (mxd (mxd (foP (fun w9 => decide (top c v (nI w9) = -1)) (fun w9 k9 => cPile c b v (cat (nI (w9 % 13)) (nI (w9 / 13))) (nI k9)) 4 169 (fo2 (fun w9 k9 => cCol c b v h j w9 (nI k9)) 7 4 (cwD c b v g t (a7, d7, q7) 16 (fo (fun k9 => cCnt c b v g h t u z m9 (nI k9)) i 3823)))) (((cbO c b v t ((-1 : Int32), nI 0, nI 0, c6, b6, v6) 16).1).toInt64)) (bOf (shr (potn c)) 52 1023)) (bOf (FP.f2d (mea (cnt (bot c b) 16) (potn c))) 23 127))), (0, .ref (ad 0)), (3, .int (nI i))]) hx hb (dk kX5_digest_0_ok 50 rfl) rfl hl (by decide) rfl (fun ls hl => ?_)
        refine lv_lload_n hx hb (dk kX5_digest_0_ok 51 rfl) rfl (lv_at hl 0 rfl) ?_
        refine lv_aload_n hx hb (dk kX5_digest_0_ok 52 rfl) rfl (lv_at hl 1 rfl) ?_
        refine gf hx hb hts (fun w h => List.mem_cons_of_mem _ (acX5 w h)) hown hK hP hz0 ((mSet_out (by omega)).trans ((roSet_out (by omega)).trans hC)) rfl 6 (by decide) (hts _ (List.mem_cons_of_mem _ (ac8 _ (List.mem_of_getElem? (i := 11) rfl)))) (fun _ h => h) rfl (dk kX5_digest_0_ok 53 rfl) ?_
        refine b_if_eq (tgt := 103) hx hb (dk kX5_digest_0_ok 54 rfl) (by decide) (fun h2 => ?_) (fun h2 => ?_)
        · skip
          refine lv_lconst (v := 0) hx hb (dk kX5_digest_0_ok 57 rfl) (by decide) ?_
          refine csP (As := [.long (mxd (mxd (mxd (foP (fun w9 => decide (top c v (nI w9) = -1)) (fun w9 k9 => cPile c b v (cat (nI (w9 % 13)) (nI (w9 / 13))) (nI k9)) 4 169 (fo2 (fun w9 k9 => cCol c b v h j w9 (nI k9)) 7 4 (cwD c b v g t (a7, d7, q7) 16 (fo (fun k9 => cCnt c b v g h t u z m9 (nI k9)) i 3823)))) (((cbO c b v t ((-1 : Int32), nI 0, nI 0, c6, b6, v6) 16).1).toInt64)) (bOf (shr (potn c)) 52 1023)) (bOf (FP.f2d (mea (cnt (bot c b) 16) (potn c))) 23 127)), .long 0]) (rest := []) ⟨hx, hb, hml, hown, hts⟩ (tX5_mixed l (mxd (mxd (mxd (foP (fun w9 => decide (top c v (nI w9) = -1)) (fun w9 k9 => cPile c b v (cat (nI (w9 % 13)) (nI (w9 / 13))) (nI k9)) 4 169 (fo2 (fun w9 k9 => cCol c b v h j w9 (nI k9)) 7 4 (cwD c b v g t (a7, d7, q7) 16 (fo (fun k9 => cCnt c b v g h t u z m9 (nI k9)) i 3823)))) (((cbO c b v t ((-1 : Int32), nI 0, nI 0, c6, b6, v6) 16).1).toInt64)) (bOf (shr (potn c)) 52 1023)) (bOf (FP.f2d (mea (cnt (bot c b) 16) (potn c))) 23 127)) 0) (cwS9 2 hts mcX5_mixed (ac15 _ (List.mem_of_getElem? (i := 8) rfl)) msX5_mixed mini_RX5 rfl rfl hdX5_mixed ⟨Nat.le_of_ble_eq_true rfl, Nat.le_of_ble_eq_true rfl⟩) rfl hl.1 rfl (Nat.le_of_ble_eq_true rfl) (by decide) (dk kX5_digest_0_ok 58 rfl) ?_
          refine lv_lstore_n (lv' := [(1, .long (mxd (mxd (mxd (mxd (foP (fun w9 => decide (top c v (nI w9) = -1)) (fun w9 k9 => cPile c b v (cat (nI (w9 % 13)) (nI (w9 / 13))) (nI k9)) 4 169 (fo2 (fun w9 k9 => cCol c b v h j w9 (nI k9)) 7 4 (cwD c b v g t (a7, d7, q7) 16 (fo (fun k9 => cCnt c b v g h t u z m9 (nI k9)) i 3823)))) (((cbO c b v t ((-1 : Int32), nI 0, nI 0, c6, b6, v6) 16).1).toInt64)) (bOf (shr (potn c)) 52 1023)) (bOf (FP.f2d (mea (cnt (bot c b) 16) (potn c))) 23 127)) 0)), (0, .ref (ad 0)), (3, .int (nI i))]) hx hb (dk kX5_digest_0_ok 59 rfl) rfl hl (by decide) rfl (fun ls hl => ?_)
          refine lv_aload_n hx hb (dk kX5_digest_1_ok 0 rfl) rfl (lv_at hl 1 rfl) ?_
          refine lv_lload_n hx hb (dk kX5_digest_1_ok 1 rfl) rfl (lv_at hl 0 rfl) ?_
          refine cvR (As := [.long (mxd (mxd (mxd (mxd (foP (fun w9 => decide (top c v (nI w9) = -1)) (fun w9 k9 => cPile c b v (cat (nI (w9 % 13)) (nI (w9 / 13))) (nI k9)) 4 169 (fo2 (fun w9 k9 => cCol c b v h j w9 (nI k9)) 7 4 (cwD c b v g t (a7, d7, q7) 16 (fo (fun k9 => cCnt c b v g h t u z m9 (nI k9)) i 3823)))) (((cbO c b v t ((-1 : Int32), nI 0, nI 0, c6, b6, v6) 16).1).toInt64)) (bOf (shr (potn c)) 52 1023)) (bOf (FP.f2d (mea (cnt (bot c b) 16) (potn c))) 23 127)) 0)]) (rest := []) ⟨hx, hb, hml, hown, hts⟩ (tX5_withText l D cI cQ cL ad N (mSet cI (roSet cI ad F 73 ((cRo c (a7, d7, q7) 16).1) ((cRo c (a7, d7, q7) 16).2.1) ((cRo c (a7, d7, q7) 16).2.2)) 69 ((cbO c b v t ((-1 : Int32), nI 0, nI 0, c6, b6, v6) 16).2.2.2.1) ((cbO c b v t ((-1 : Int32), nI 0, nI 0, c6, b6, v6) 16).2.2.2.2.1) ((cbO c b v t ((-1 : Int32), nI 0, nI 0, c6, b6, v6) 16).2.2.2.2.2)) (by omega) c b v g h j t u z (stAt_keep (stAt_keep hN (fun i _ _ => roSet_out (by omega))) (fun i _ _ => mSet_out (by omega))) c8 b8 v8 g8 h8 j8 t8 u8 z8 (stAt_keep (stAt_keep hSn (fun i _ _ => roSet_out (by omega))) (fun i _ _ => mSet_out (by omega))) n9 m9 hn9 hm9 (paAt_keep (paAt_keep hPa (fun i _ _ => roSet_out (by omega))) (fun i _ _ => mSet_out (by omega))) a n hn60 (gtAt_keep (gtAt_keep hT (fun i _ _ => roSet_out (by omega))) (fun i _ _ => mSet_out (by omega))) ((cbO c b v t ((-1 : Int32), nI 0, nI 0, c6, b6, v6) 16).2.2.2.1) ((cbO c b v t ((-1 : Int32), nI 0, nI 0, c6, b6, v6) 16).2.2.2.2.1) ((cbO c b v t ((-1 : Int32), nI 0, nI 0, c6, b6, v6) 16).2.2.2.2.2) (mSet_at (matAt_keep hM6 (fun i _ _ => roSet_out (by omega)))) ((cRo c (a7, d7, q7) 16).1) ((cRo c (a7, d7, q7) 16).2.1) ((cRo c (a7, d7, q7) 16).2.2) (roAt_keep roSet_at (fun i _ _ => mSet_out (by omega))) hs ((mSet_out (by omega)).trans ((roSet_out (by omega)).trans hC)) (mxd (mxd (mxd (mxd (foP (fun w9 => decide (top c v (nI w9) = -1)) (fun w9 k9 => cPile c b v (cat (nI (w9 % 13)) (nI (w9 / 13))) (nI k9)) 4 169 (fo2 (fun w9 k9 => cCol c b v h j w9 (nI k9)) 7 4 (cwD c b v g t (a7, d7, q7) 16 (fo (fun k9 => cCnt c b v g h t u z m9 (nI k9)) i 3823)))) (((cbO c b v t ((-1 : Int32), nI 0, nI 0, c6, b6, v6) 16).1).toInt64)) (bOf (shr (potn c)) 52 1023)) (bOf (FP.f2d (mea (cnt (bot c b) 16) (potn c))) 23 127)) 0)) (cwV9 1 hts mcX5_withText (ac17 _ (List.mem_of_getElem? (i := 12) rfl)) miX5_withText meX5_withText mini_RX5 rfl rfl hdX5_withText ⟨Nat.le_of_ble_eq_true rfl, Nat.le_of_ble_eq_true rfl⟩) hK hP hNW hz0 ((mSet_out (by omega)).trans ((roSet_out (by omega)).trans hC)) rfl rfl hl.1 rfl (Nat.le_of_ble_eq_true rfl) (by decide) (dk kX5_digest_1_ok 2 rfl) ?_
          exact hret _ _ _ _ _ _ _ _  (by rw [show (14 : Nat) = i by omega]; first | (rw [if_pos h2]; exact ⟨rfl, rfl⟩) | (rw [if_neg (by rw [h2]; decide)]; exact ⟨rfl, rfl⟩)) hP hS (by decide) (by decide) (dk kX5_digest_1_ok 3 rfl)
        · skip
          refine lv_lconst (v := 1) hx hb (dk kX5_digest_0_ok 55 rfl) (by decide) ?_
          refine lv_goto (tgt := 104) hx hb (dk kX5_digest_0_ok 56 rfl) (by decide) ?_
          refine csP (As := [.long (mxd (mxd (mxd (foP (fun w9 => decide (top c v (nI w9) = -1)) (fun w9 k9 => cPile c b v (cat (nI (w9 % 13)) (nI (w9 / 13))) (nI k9)) 4 169 (fo2 (fun w9 k9 => cCol c b v h j w9 (nI k9)) 7 4 (cwD c b v g t (a7, d7, q7) 16 (fo (fun k9 => cCnt c b v g h t u z m9 (nI k9)) i 3823)))) (((cbO c b v t ((-1 : Int32), nI 0, nI 0, c6, b6, v6) 16).1).toInt64)) (bOf (shr (potn c)) 52 1023)) (bOf (FP.f2d (mea (cnt (bot c b) 16) (potn c))) 23 127)), .long 1]) (rest := []) ⟨hx, hb, hml, hown, hts⟩ (tX5_mixed l (mxd (mxd (mxd (foP (fun w9 => decide (top c v (nI w9) = -1)) (fun w9 k9 => cPile c b v (cat (nI (w9 % 13)) (nI (w9 / 13))) (nI k9)) 4 169 (fo2 (fun w9 k9 => cCol c b v h j w9 (nI k9)) 7 4 (cwD c b v g t (a7, d7, q7) 16 (fo (fun k9 => cCnt c b v g h t u z m9 (nI k9)) i 3823)))) (((cbO c b v t ((-1 : Int32), nI 0, nI 0, c6, b6, v6) 16).1).toInt64)) (bOf (shr (potn c)) 52 1023)) (bOf (FP.f2d (mea (cnt (bot c b) 16) (potn c))) 23 127)) 1) (cwS9 2 hts mcX5_mixed (ac15 _ (List.mem_of_getElem? (i := 8) rfl)) msX5_mixed mini_RX5 rfl rfl hdX5_mixed ⟨Nat.le_of_ble_eq_true rfl, Nat.le_of_ble_eq_true rfl⟩) rfl hl.1 rfl (Nat.le_of_ble_eq_true rfl) (by decide) (dk kX5_digest_0_ok 58 rfl) ?_
          refine lv_lstore_n (lv' := [(1, .long (mxd (mxd (mxd (mxd (foP (fun w9 => decide (top c v (nI w9) = -1)) (fun w9 k9 => cPile c b v (cat (nI (w9 % 13)) (nI (w9 / 13))) (nI k9)) 4 169 (fo2 (fun w9 k9 => cCol c b v h j w9 (nI k9)) 7 4 (cwD c b v g t (a7, d7, q7) 16 (fo (fun k9 => cCnt c b v g h t u z m9 (nI k9)) i 3823)))) (((cbO c b v t ((-1 : Int32), nI 0, nI 0, c6, b6, v6) 16).1).toInt64)) (bOf (shr (potn c)) 52 1023)) (bOf (FP.f2d (mea (cnt (bot c b) 16) (potn c))) 23 127)) 1)), (0, .ref (ad 0)), (3, .int (nI i))]) hx hb (dk kX5_digest_0_ok 59 rfl) rfl hl (by decide) rfl (fun ls hl => ?_)
          refine lv_aload_n hx hb (dk kX5_digest_1_ok 0 rfl) rfl (lv_at hl 1 rfl) ?_
          refine lv_lload_n hx hb (dk kX5_digest_1_ok 1 rfl) rfl (lv_at hl 0 rfl) ?_
          refine cvR (As := [.long (mxd (mxd (mxd (mxd (foP (fun w9 => decide (top c v (nI w9) = -1)) (fun w9 k9 => cPile c b v (cat (nI (w9 % 13)) (nI (w9 / 13))) (nI k9)) 4 169 (fo2 (fun w9 k9 => cCol c b v h j w9 (nI k9)) 7 4 (cwD c b v g t (a7, d7, q7) 16 (fo (fun k9 => cCnt c b v g h t u z m9 (nI k9)) i 3823)))) (((cbO c b v t ((-1 : Int32), nI 0, nI 0, c6, b6, v6) 16).1).toInt64)) (bOf (shr (potn c)) 52 1023)) (bOf (FP.f2d (mea (cnt (bot c b) 16) (potn c))) 23 127)) 1)]) (rest := []) ⟨hx, hb, hml, hown, hts⟩ (tX5_withText l D cI cQ cL ad N (mSet cI (roSet cI ad F 73 ((cRo c (a7, d7, q7) 16).1) ((cRo c (a7, d7, q7) 16).2.1) ((cRo c (a7, d7, q7) 16).2.2)) 69 ((cbO c b v t ((-1 : Int32), nI 0, nI 0, c6, b6, v6) 16).2.2.2.1) ((cbO c b v t ((-1 : Int32), nI 0, nI 0, c6, b6, v6) 16).2.2.2.2.1) ((cbO c b v t ((-1 : Int32), nI 0, nI 0, c6, b6, v6) 16).2.2.2.2.2)) (by omega) c b v g h j t u z (stAt_keep (stAt_keep hN (fun i _ _ => roSet_out (by omega))) (fun i _ _ => mSet_out (by omega))) c8 b8 v8 g8 h8 j8 t8 u8 z8 (stAt_keep (stAt_keep hSn (fun i _ _ => roSet_out (by omega))) (fun i _ _ => mSet_out (by omega))) n9 m9 hn9 hm9 (paAt_keep (paAt_keep hPa (fun i _ _ => roSet_out (by omega))) (fun i _ _ => mSet_out (by omega))) a n hn60 (gtAt_keep (gtAt_keep hT (fun i _ _ => roSet_out (by omega))) (fun i _ _ => mSet_out (by omega))) ((cbO c b v t ((-1 : Int32), nI 0, nI 0, c6, b6, v6) 16).2.2.2.1) ((cbO c b v t ((-1 : Int32), nI 0, nI 0, c6, b6, v6) 16).2.2.2.2.1) ((cbO c b v t ((-1 : Int32), nI 0, nI 0, c6, b6, v6) 16).2.2.2.2.2) (mSet_at (matAt_keep hM6 (fun i _ _ => roSet_out (by omega)))) ((cRo c (a7, d7, q7) 16).1) ((cRo c (a7, d7, q7) 16).2.1) ((cRo c (a7, d7, q7) 16).2.2) (roAt_keep roSet_at (fun i _ _ => mSet_out (by omega))) hs ((mSet_out (by omega)).trans ((roSet_out (by omega)).trans hC)) (mxd (mxd (mxd (mxd (foP (fun w9 => decide (top c v (nI w9) = -1)) (fun w9 k9 => cPile c b v (cat (nI (w9 % 13)) (nI (w9 / 13))) (nI k9)) 4 169 (fo2 (fun w9 k9 => cCol c b v h j w9 (nI k9)) 7 4 (cwD c b v g t (a7, d7, q7) 16 (fo (fun k9 => cCnt c b v g h t u z m9 (nI k9)) i 3823)))) (((cbO c b v t ((-1 : Int32), nI 0, nI 0, c6, b6, v6) 16).1).toInt64)) (bOf (shr (potn c)) 52 1023)) (bOf (FP.f2d (mea (cnt (bot c b) 16) (potn c))) 23 127)) 1)) (cwV9 1 hts mcX5_withText (ac17 _ (List.mem_of_getElem? (i := 12) rfl)) miX5_withText meX5_withText mini_RX5 rfl rfl hdX5_withText ⟨Nat.le_of_ble_eq_true rfl, Nat.le_of_ble_eq_true rfl⟩) hK hP hNW hz0 ((mSet_out (by omega)).trans ((roSet_out (by omega)).trans hC)) rfl rfl hl.1 rfl (Nat.le_of_ble_eq_true rfl) (by decide) (dk kX5_digest_1_ok 2 rfl) ?_
          exact hret _ _ _ _ _ _ _ _  (by rw [show (14 : Nat) = i by omega]; first | (rw [if_pos h2]; exact ⟨rfl, rfl⟩) | (rw [if_neg (by rw [h2]; decide)]; exact ⟨rfl, rfl⟩)) hP hS (by decide) (by decide) (dk kX5_digest_1_ok 3 rfl)
      · skip
        refine lv_lload_n hx hb (dk kX5_digest_0_ok 7 rfl) rfl (lv_at hl 1 rfl) ?_
        refine lv_aload_n hx hb (dk kX5_digest_0_ok 8 rfl) rfl (lv_at hl 0 rfl) ?_
        refine lv_iload_n hx hb (dk kX5_digest_0_ok 9 rfl) rfl (lv_at hl 2 rfl) ?_
        refine cvR (As := [.int (nI i)]) (rest := [.long (fo (fun k9 => cCnt c b v g h t u z m9 (nI k9)) i 3823)]) ⟨hx, hb, hml, hown, hts⟩ (tX5_count l D cI cQ cL ad N F (by omega) c b v g h j t u z hN c8 b8 v8 g8 h8 j8 t8 u8 z8 hSn n9 m9 hn9 hm9 hPa a n hn60 hT c6 b6 v6 hM6 a7 d7 q7 hO hs hC (nI i) (btw_nI ⟨Nat.zero_le _, by omega⟩)) (cwV9 1 hts mcX5_count (ac16 _ (List.mem_of_getElem? (i := 5) rfl)) miX5_count meX5_count mini_RX5 rfl rfl hdX5_count ⟨Nat.le_of_ble_eq_true rfl, Nat.le_of_ble_eq_true rfl⟩) hK hP hNW hz0 hC rfl rfl hl.1 rfl (Nat.le_of_ble_eq_true rfl) (by decide) (dk kX5_digest_0_ok 10 rfl) ?_
        refine lv_i2l hx hb (dk kX5_digest_0_ok 11 rfl) rfl ?_
        refine csP (As := [.long (fo (fun k9 => cCnt c b v g h t u z m9 (nI k9)) i 3823), .long ((cCnt c b v g h t u z m9 (nI i)).toInt64)]) (rest := []) ⟨hx, hb, hml, hown, hts⟩ (tX5_mixed l (fo (fun k9 => cCnt c b v g h t u z m9 (nI k9)) i 3823) ((cCnt c b v g h t u z m9 (nI i)).toInt64)) (cwS9 2 hts mcX5_mixed (ac15 _ (List.mem_of_getElem? (i := 8) rfl)) msX5_mixed mini_RX5 rfl rfl hdX5_mixed ⟨Nat.le_of_ble_eq_true rfl, Nat.le_of_ble_eq_true rfl⟩) rfl hl.1 rfl (Nat.le_of_ble_eq_true rfl) (by decide) (dk kX5_digest_0_ok 12 rfl) ?_
        refine lv_lstore_n (lv' := [(1, .long (mxd (fo (fun k9 => cCnt c b v g h t u z m9 (nI k9)) i 3823) ((cCnt c b v g h t u z m9 (nI i)).toInt64))), (0, .ref (ad 0)), (3, .int (nI i))]) hx hb (dk kX5_digest_0_ok 13 rfl) rfl hl (by decide) rfl (fun ls hl => ?_)
        refine lv_iinc (v := nI (i + 1)) (lv' := [(3, .int (nI (i + 1))), (1, .long (mxd (fo (fun k9 => cCnt c b v g h t u z m9 (nI k9)) i 3823) ((cCnt c b v g h t u z m9 (nI i)).toInt64))), (0, .ref (ad 0))]) hx hb (dk kX5_digest_0_ok 14 rfl) hl (k := 2) rfl (n_inc _) (by decide) rfl (fun ls hl => ?_)
        refine lv_goto (tgt := 6) hx hb (dk kX5_digest_0_ok 15 rfl) (by decide) ?_
        exact ih6 (i + 1) _ _ _ hP hS (by exact fo_s (A := (fun k9 => cCnt c b v g h t u z m9 (nI k9)))) (by omega) (by omega) ls (lv_sub hl [2, 1, 0] rfl)
  exact L6 _ 0 _ _ _ hP hS (by first | rfl | omega) (by first | rfl | omega) (Nat.lt_succ_self _) ls (lv_sub hl [2, 1, 0] rfl)
end
/-! from make -/
section
/-! MAKING: the cells of the pool lie one behind the other from b0 on; a constructor makes the pool grow -/
def pb (b0 : Nat) : Nat → Nat := fun k => b0 + k
def bA (b0 : Nat) : Nat → Prop := fun q => b0 ≤ q
theorem pb_D {b0 N : Nat} : iD (pb b0) N := fun _ _ _ _ h => Nat.add_left_cancel h
theorem bA_D {b0 N : Nat} {F : Nat → va_E} : va_D (bA b0) (iW (pb b0) N F) := iD_D pb_D (fun _ _ => Nat.le_add_right _ _)
theorem iA_pb {b0 N sz : Nat} (h1 : b0 ≤ sz) (h2 : sz ≤ b0 + N) : iA (pb b0) N sz = bA b0 := by
  funext q
  apply propext
  constructor
  · rintro (⟨k, -, rfl⟩ | h)
    · exact Nat.le_add_right _ _
    · exact Nat.le_trans h1 h
  · intro h
    have h : b0 ≤ q := h
    by_cases hq : sz ≤ q
    · exact Or.inr hq
    · exact Or.inl ⟨q - b0, by omega, by unfold pb; omega⟩
theorem pb_push {b0 N : Nat} : va_up (pb b0) N (pb b0 N) = pb b0 := by
  funext j
  by_cases h : j = N
  · rw [h, va_up_self]
  · rw [va_up_ne _ _ h]
theorem pb_fresh {D : va_G} {cl : List vw_C} {b0 N q : Nat} {F : Nat → va_E} {e : va_E} {H1 : Heap} (hP : va_P D cl (iW (pb b0) N F ++ [(q, e)]) H1) (hD : va_D (bA b0) (iW (pb b0) N F ++ [(q, e)])) (hsz : H1.size ≤ b0 + N + 1) : q = pb b0 N := by
  have hlen : (iW (pb b0) N F).length = N := by simp [iW]
  have hlast : (iW (pb b0) N F ++ [(q, e)])[N]? = some (q, e) := by
    rw [List.getElem?_append_right (by omega)]
    simp [hlen]
  have h1 : q < H1.size := (hP N _ hlast).lt
  have h2 : b0 ≤ q := hD.2 N _ hlast
  by_cases h : q = b0 + N
  · exact h
  · exfalso
    have hj : q - b0 < N := by omega
    have hg : (iW (pb b0) N F ++ [(q, e)])[q - b0]? = some (pb b0 (q - b0), F (q - b0)) := by
      rw [List.getElem?_append_left (by omega)]
      exact iW_get hj
    have := hD.1 (q - b0) N _ _ hg hlast (by show b0 + (q - b0) = q; omega)
    omega
theorem pb_grow {D : va_G} {cl : List vw_C} {b0 N q : Nat} {F : Nat → va_E} {e : va_E} {H1 : Heap} (hP : va_P D cl (iW (pb b0) N F ++ [(q, e)]) H1) (hq : q = pb b0 N) : va_P D cl (iW (pb b0) (N + 1) (va_up F N e)) H1 := by
  subst hq
  rw [iW_push, pb_push] at hP
  exact hP
theorem pb_size {D : va_G} {cl : List vw_C} {b0 N : Nat} {F : Nat → va_E} {H : Heap} (hP : va_P D cl (iW (pb b0) N F) H) (hN : 0 < N) : b0 + N ≤ H.size := by
  have := (hP (N - 1) _ (iW_get (by omega))).lt
  have h2 : b0 + (N - 1) < H.size := this
  omega
/-- a constructor: from the pool of N cells to that of N', in the room of mc cells with ms slots -/
def MK (l : Launch) (y : MethodName) (ws : List Cond) (rm : Room) (D : va_G) (cI cQ cL : ClassId) (b0 N : Nat) (F : Nat → va_E) (k N' : Nat) (G : Nat → va_E) (mc ms : Nat) : Prop :=
  Met l y ws rm (va_Pc [.ref (pb b0 k)] (fun U => U.heap.size = b0 + N ∧ va_AO "SquopPiles$State" U ∧ rW D cI cQ cL (pb b0) N F U)) (fun _ st o t => o = .returned none ∧ va_P D vwCl (iW (pb b0) N' G) t.heap ∧ va_F (bA b0) st t) mc ms (bA b0)
theorem MK_blind {D : va_G} {cI cQ cL : ClassId} {b0 N : Nat} {F : Nat → va_E} {args : List Value} : FrameBlind (va_Pc args (fun U => U.heap.size = b0 + N ∧ va_AO "SquopPiles$State" U ∧ rW D cI cQ cL (pb b0) N F U)) :=
  fun a U g mk q => ⟨q.1, q.2.1, va_AO.moved (u := U) (U := U.calling g mk a) (Vm.Alike.refl U.vm) q.2.2.1, q.2.2.2.1, va_K.moved (u := U) (U := U.calling g mk a) (Vm.Alike.refl U.vm) q.2.2.2.2.1, NW.same rfl q.2.2.2.2.2⟩
section MKS
variable {l : Launch} {y : MethodName} {ws ws' : List Cond} {rm : Room} {cc : ByteArray} {maxL : Nat} {D : va_G} {cI cQ cL : ClassId} {b0 N : Nat} {F G : Nat → va_E} {k N' mc ms : Nat}
theorem mk_v (hy : plainName y.cls = true) (hw : ws = Cond.code y cc maxL none :: ws') (hlen : 1 ≤ maxL) (hnm : y.name = "<init>")
    (body : ∀ (p : Program) (e : Env) (s : State) (m : MethodId) (below : List Frame) (meth : Method) (c : Code) (Q : State → Prop) (ls : Array Slot),
      p.tables.exec = Jvm.exec → c.code = cc → c.maxLocals = maxL → s.vm.findClass y.cls = some m.cls → (∀ w ∈ ws, w.before #[.ref (pb b0 k)] s = true) → meth.name = "<init>" → s.heap.size = b0 + N → va_AO "SquopPiles$State" s → va_P D vwCl (iW (pb b0) N F) s.heap → va_K D vwCl (iT cI cQ cL) s → NW s → va_S (bA b0) s.heap s.heap [] →
      (∀ (pc : Nat) (ls : Array Slot) (H : Heap) (locs : List Loc), va_P D vwCl (iW (pb b0) N' G) H → va_S (bA b0) s.heap H locs → decode cc pc = .ok (.return_, 1) → W p l e rm s m #[.ref (pb b0 k)] below meth c H locs mc ms Q (F0 m pc ls [])) →
      lv_has ls maxL [(0, .ref (pb b0 k))] → W p l e rm s m #[.ref (pb b0 k)] below meth c s.heap [] 0 0 Q (F0 m 0 ls [])) : MK l y ws rm D cI cQ cL b0 N F k N' G mc ms := by
  refine Met.ofW (cc := cc) (maxL := maxL) (ret := none) hy hw ?_
  intro p e s m args9 below meth c s₁ B hml hv
  obtain ⟨rfl, hsz, hAO, hP, hK, hNW⟩ := hv
  have hl := lv_entry [Value.ref (pb b0 k)] (n := maxL) hlen
  rw [lg_entry_eq]
  have hin : meth.name = "<init>" := ((name_of_methodNamed B.named B.method).1).trans hnm
  exact body p e s m below meth c _ _ B.exec B.bytes hml (findClass_of_methodNamed B.named) (atoms_spec B.pre) hin hsz hAO hP hK hNW va_S.rf (fun pc ls H locs hP1 hS hd =>
    W.vret B.exec B.bytes B.returns (fun t ht _ => ⟨rfl, by rw [ht]; exact hP1, hS.F ht⟩) hS.2.2 hd B.notSynchronized) hl
end MKS
section MKR
variable {p : Program} {l : Launch} {e : Env} {R : Room} {s : State} {m : MethodId} {args : Array Value} {below : List Frame} {meth : Method} {c : Code} {H : Heap} {locs : List Loc} {cells slots : Nat} {Q : State → Prop}
variable {cc : ByteArray} {pc : Nat} {ls : Array Slot} {rest st0 : List Value} {D : va_G} {cI cQ cL : ClassId} {b0 N : Nat} {F : Nat → va_E} {Ts : List Cond}
theorem wBound {g : JFrame} (kk : H.size ≤ s.heap.size + cells → W p l e R s m args below meth c H locs cells slots Q g) : W p l e R s m args below meth c H locs cells slots Q g := by
  intro T hT X
  refine kk ?_ T hT X
  have := X.same.2.2.1
  rw [← hT]
  exact this
theorem nwI (hx : p.tables.exec = Jvm.exec) (hb : c.code = cc) (harr : (Cond.arrayClass .int).before args s = true) (hK : va_K D vwCl (iT cI cQ cL) s) (hP : va_P D vwCl (iW (pb b0) N F) H) (hS : va_S (bA b0) s.heap H locs) (hb0 : b0 ≤ s.heap.size) (hcl : s.heap.size + cells = b0 + N) {x : Int32} (n : Nat) (hxn : x = nI n) (hn : n < 2 ^ 20) (hcells : cells + 1 ≤ R.cells) (hslots : slots + n ≤ R.slots) (hdg : decode cc pc = .ok (.newarray .int, 2))
    (kk : ∀ H1 : Heap, va_P D vwCl (iW (pb b0) (N + 1) (va_up F N (.inl (cI, n, .inl (fun _ => 0))))) H1 → va_S (bA b0) s.heap H1 locs → W p l e R s m args below meth c H1 locs (cells + 1) (slots + n) Q (F0 m (pc + 2) ls (.ref (pb b0 N) :: rest))) : W p l e R s m args below meth c H locs cells slots Q (F0 m pc ls (.int x :: rest)) := by
  subst hxn
  refine va_newa (atype := .int) (ty := .int) (N' := n) (a0 := (n, .inl (fun _ => 0))) hx hb harr rfl hK hP bA_D hS (fun q h => Nat.le_trans hb0 h) (fun cA => rfl) (nI_pos (by omega)) (nI_clamp (by omega)) (by simp only [componentBytes]; omega) hcells hslots hdg (fun q cA H1 hK1 hP1 hD1 hS1 => ?_)
  refine wBound (fun hsz => ?_)
  have h3 : s.vm.findClass ("[" ++ FieldType.int.toString) = some cA := (hK1.2 3 (cA, .int) rfl).2
  have h0 : s.vm.findClass ("[" ++ FieldType.int.toString) = some cI := (hK1.2 0 (cI, .int) rfl).2
  have hcA : cA = cI := Option.some.inj (h3.symm.trans h0)
  subst hcA
  have hq : q = pb b0 N := pb_fresh hP1 hD1 (by omega)
  have hP2 := pb_grow hP1 hq
  subst hq
  exact kk H1 hP2 hS1
theorem nwL (hx : p.tables.exec = Jvm.exec) (hb : c.code = cc) (harr : (Cond.arrayClass .long).before args s = true) (hK : va_K D vwCl (iT cI cQ cL) s) (hP : va_P D vwCl (iW (pb b0) N F) H) (hS : va_S (bA b0) s.heap H locs) (hb0 : b0 ≤ s.heap.size) (hcl : s.heap.size + cells = b0 + N) {x : Int32} (n : Nat) (hxn : x = nI n) (hn : n < 2 ^ 20) (hcells : cells + 1 ≤ R.cells) (hslots : slots + n ≤ R.slots) (hdg : decode cc pc = .ok (.newarray .long, 2))
    (kk : ∀ H1 : Heap, va_P D vwCl (iW (pb b0) (N + 1) (va_up F N (.inl (cL, n, .inr (.inl (fun _ => 0)))))) H1 → va_S (bA b0) s.heap H1 locs → W p l e R s m args below meth c H1 locs (cells + 1) (slots + n) Q (F0 m (pc + 2) ls (.ref (pb b0 N) :: rest))) : W p l e R s m args below meth c H locs cells slots Q (F0 m pc ls (.int x :: rest)) := by
  subst hxn
  refine va_newa (atype := .long) (ty := .long) (N' := n) (a0 := (n, .inr (.inl (fun _ => 0)))) hx hb harr rfl hK hP bA_D hS (fun q h => Nat.le_trans hb0 h) (fun cA => rfl) (nI_pos (by omega)) (nI_clamp (by omega)) (by simp only [componentBytes]; omega) hcells hslots hdg (fun q cA H1 hK1 hP1 hD1 hS1 => ?_)
  refine wBound (fun hsz => ?_)
  have h3 : s.vm.findClass ("[" ++ FieldType.long.toString) = some cA := (hK1.2 3 (cA, .long) rfl).2
  have h0 : s.vm.findClass ("[" ++ FieldType.long.toString) = some cL := (hK1.2 2 (cL, .long) rfl).2
  have hcA : cA = cL := Option.some.inj (h3.symm.trans h0)
  subst hcA
  have hq : q = pb b0 N := pb_fresh hP1 hD1 (by omega)
  have hP2 := pb_grow hP1 hq
  subst hq
  exact kk H1 hP2 hS1
theorem nwQ (hx : p.tables.exec = Jvm.exec) (hb : c.code = cc) {own : String} {index : Nat} (hown : s.vm.findClass own = some m.cls) (hclink : (Cond.classLink own index "SquopPiles$State").before args s = true) (hover : va_AO "SquopPiles$State" s) (hK : va_K D vwCl (iT cI cQ cL) s) (hP : va_P D vwCl (iW (pb b0) N F) H) (hS : va_S (bA b0) s.heap H locs) (hb0 : b0 ≤ s.heap.size) (hcl : s.heap.size + cells = b0 + N) {x : Int32} (n : Nat) (hxn : x = nI n) (hn : n < 2 ^ 20) (hcells : cells + 1 ≤ R.cells) (hslots : slots + n ≤ R.slots) (hdg : decode cc pc = .ok (.anewarray index, 3))
    (kk : ∀ H1 : Heap, va_P D vwCl (iW (pb b0) (N + 1) (va_up F N (.inl (cQ, n, .inr (.inr (.inr (.inr (fun _ => none)))))))) H1 → va_S (bA b0) s.heap H1 locs → W p l e R s m args below meth c H1 locs (cells + 1) (slots + n) Q (F0 m (pc + 3) ls (.ref (pb b0 N) :: rest))) : W p l e R s m args below meth c H locs cells slots Q (F0 m pc ls (.int x :: rest)) := by
  subst hxn
  refine va_newq (C := "SquopPiles$State") (N' := n) hx hb hown hclink hover hK hP bA_D hS (fun q h => Nat.le_trans hb0 h) (nI_pos (by omega)) (nI_clamp (by omega)) (by omega) hcells hslots hdg (fun q cA H1 hK1 hP1 hD1 hS1 => ?_)
  refine wBound (fun hsz => ?_)
  obtain ⟨kA, comp, -, -, -, h3⟩ : ∃ (kA : Class) (comp : ClassId), s.vm.classes[cA]? = some kA ∧ kA.kind = .array comp (.object "SquopPiles$State") ∧ s.vm.findClass "SquopPiles$State" = some comp ∧ s.vm.findClass ("[" ++ (FieldType.object "SquopPiles$State").toString) = some cA := (hK1.2 3 (cA, .object "SquopPiles$State") rfl).2
  obtain ⟨kA0, comp0, -, -, -, h0⟩ : ∃ (kA : Class) (comp : ClassId), s.vm.classes[cQ]? = some kA ∧ kA.kind = .array comp (.object "SquopPiles$State") ∧ s.vm.findClass "SquopPiles$State" = some comp ∧ s.vm.findClass ("[" ++ (FieldType.object "SquopPiles$State").toString) = some cQ := (hK1.2 1 (cQ, .object "SquopPiles$State") rfl).2
  have hcA : cA = cQ := Option.some.inj (h3.symm.trans h0)
  subst hcA
  have hq : q = pb b0 N := pb_fresh hP1 hD1 (by omega)
  have hP2 := pb_grow hP1 hq
  subst hq
  exact kk H1 hP2 hS1
theorem nwO (hx : p.tables.exec = Jvm.exec) (hb : c.code = cc) {own C : String} {T : u_T} {n ci index : Nat} (hts : ∀ w ∈ Ts, w.before args s = true) (hin : ∀ w ∈ u_ws C T n, w ∈ Ts) (ty : Nat → FieldType) (hty : ∀ k, k < n → parseFieldDescriptor (T k).2.2.1 = some (ty k)) (hown : s.vm.findClass own = some m.cls) (hcl0 : (Cond.classLink own index C).before args s = true) (hinst : (Cond.instantiable C n).before args s = true) (hini : (Cond.initialized C).before args s = true) (hK : va_K D vwCl (iT cI cQ cL) s) (hP : va_P D vwCl (iW (pb b0) N F) H) (hS : va_S (bA b0) s.heap H locs) (hb0 : b0 ≤ s.heap.size) (hcl : s.heap.size + cells = b0 + N) (hc : vwCl[ci]? = some (C, T, n)) (fs : List Value) (hfs : ∀ j, j < n → defaultValue (ty j) = vp_V fs j) (hcells : cells + 1 ≤ R.cells) (hslots : slots + n ≤ R.slots) (hdg : decode cc pc = .ok (.new index, 3))
    (kk : ∀ H1 : Heap, va_P D vwCl (iW (pb b0) (N + 1) (va_up F N (.inr (ci, fs)))) H1 → va_S (bA b0) s.heap H1 locs → W p l e R s m args below meth c H1 locs (cells + 1) (slots + n) Q (F0 m (pc + 3) ls (.ref (pb b0 N) :: rest))) : W p l e R s m args below meth c H locs cells slots Q (F0 m pc ls rest) := by
  refine va_new hx hb hts hin ty hty hown hcl0 hinst hini hK hP bA_D hS (fun q h => Nat.le_trans hb0 h) hc hfs hcells hslots hdg (fun q H1 hP1 hD1 hS1 => ?_)
  refine wBound (fun hsz => ?_)
  have hq : q = pb b0 N := pb_fresh hP1 hD1 (by omega)
  have hP2 := pb_grow hP1 hq
  subst hq
  exact kk H1 hP2 hS1
theorem pfF (F' : Nat → va_E) (hx : p.tables.exec = Jvm.exec) (hb : c.code = cc) {own ref C : String} {T : u_T} {n ci index : Nat} (hts : ∀ w ∈ Ts, w.before args s = true) (hin : ∀ w ∈ u_ws C T n, w ∈ Ts) (ty0 : Nat → FieldType) (hty : ∀ k, k < n → parseFieldDescriptor (T k).2.2.1 = some (ty0 k)) (hnm : ∀ a, a < n → ∀ b, b < n → a ≠ b → (T a).2.1 ≠ (T b).2.1) (hown : s.vm.findClass own = some m.cls) (hK : va_K D vwCl (iT cI cQ cL) s) (hP : va_P D vwCl (iW (pb b0) N F) H) (hS : va_S (bA b0) s.heap H locs) {k : Nat} (hk : k < N) {fs : List Value} (hF : F k = .inr (ci, fs)) (hc : vwCl[ci]? = some (C, T, n)) (j : Nat) (hj : j < n) (hlink : (Cond.fieldLink own index ref (T j).2.1 (T j).2.2.1).before args s = true) (hsame : ∀ x, s.fieldFound? (T j).1 (T j).2.1 (T j).2.2.1 = some x → s.fieldFound? ref (T j).2.1 (T j).2.2.1 = some x) (hfin : (T j).2.2.2 = true) (hin2 : meth.name = "<init>") (hdecl : (T j).1 = own) {ty : FieldType} {v : Value} (hd : parseFieldDescriptor (T j).2.2.1 = some ty) (hn : narrow ty v = v) (hfit : fits ty v = true) (hl : j < fs.length) (hdg : decode cc pc = .ok (.putfield index, 3)) (hcan : va_up F k (.inr (ci, fs.set j v)) = F')
    (kk : ∀ (H1 : Heap) (locs1 : List Loc), va_P D vwCl (iW (pb b0) N F') H1 → va_S (bA b0) s.heap H1 locs1 → W p l e R s m args below meth c H1 locs1 cells slots Q (F0 m (pc + 3) ls rest)) : W p l e R s m args below meth c H locs cells slots Q (F0 m pc ls (v :: .ref (pb b0 k) :: rest)) :=
  va_putF hx hb hts hin ty0 hty hnm hown hK hP bA_D hS k (iW_at hk hF) hc j hj hlink hsame hfin hin2 hdecl hd hn hfit hl hdg (fun H1 locs1 hP1 hD1 hS1 => kk H1 locs1 (by rw [iW_set hk, hcan] at hP1; exact hP1) hS1)
theorem pfA (F' : Nat → va_E) (hx : p.tables.exec = Jvm.exec) (hb : c.code = cc) {own ref C : String} {T : u_T} {n ci index : Nat} (hts : ∀ w ∈ Ts, w.before args s = true) (hin : ∀ w ∈ u_ws C T n, w ∈ Ts) (ty0 : Nat → FieldType) (hty : ∀ k, k < n → parseFieldDescriptor (T k).2.2.1 = some (ty0 k)) (hnm : ∀ a, a < n → ∀ b, b < n → a ≠ b → (T a).2.1 ≠ (T b).2.1) (hown : s.vm.findClass own = some m.cls) (hK : va_K D vwCl (iT cI cQ cL) s) (hP : va_P D vwCl (iW (pb b0) N F) H) (hS : va_S (bA b0) s.heap H locs) {k : Nat} (hk : k < N) {fs : List Value} (hF : F k = .inr (ci, fs)) (hc : vwCl[ci]? = some (C, T, n)) (j : Nat) (hj : j < n) (hlink : (Cond.fieldLink own index ref (T j).2.1 (T j).2.2.1).before args s = true) (hsame : ∀ x, s.fieldFound? (T j).1 (T j).2.1 (T j).2.2.1 = some x → s.fieldFound? ref (T j).2.1 (T j).2.2.1 = some x) (hfin : (T j).2.2.2 = false) {ty : FieldType} {v : Value} (hd : parseFieldDescriptor (T j).2.2.1 = some ty) (hn : narrow ty v = v) (hfit : fits ty v = true) (hl : j < fs.length) (hdg : decode cc pc = .ok (.putfield index, 3)) (hcan : va_up F k (.inr (ci, fs.set j v)) = F')
    (kk : ∀ (H1 : Heap) (locs1 : List Loc), va_P D vwCl (iW (pb b0) N F') H1 → va_S (bA b0) s.heap H1 locs1 → W p l e R s m args below meth c H1 locs1 cells slots Q (F0 m (pc + 3) ls rest)) : W p l e R s m args below meth c H locs cells slots Q (F0 m pc ls (v :: .ref (pb b0 k) :: rest)) :=
  va_put hx hb hts hin ty0 hty hnm hown hK hP bA_D hS k (iW_at hk hF) hc j hj hlink hsame hfin hd hn hfit hl hdg (fun H1 locs1 hP1 hD1 hS1 => kk H1 locs1 (by rw [iW_set hk, hcan] at hP1; exact hP1) hS1)
theorem astA (F' : Nat → va_E) (hx : p.tables.exec = Jvm.exec) (hb : c.code = cc) (hK : va_K D vwCl (iT cI cQ cL) s) (hP : va_P D vwCl (iW (pb b0) N F) H) (hS : va_S (bA b0) s.heap H locs) {k n : Nat} {f : Nat → Int32} {x z : Int32} {j : Nat} (hk : k < N) (hF : F k = .inl (cI, n, .inl f)) (hxj : x = nI j) (hj : j < n) (hn : n < 2 ^ 31) (hdg : decode cc pc = .ok (.iastore, 1)) (hcan : va_up F k (.inl (cI, n, .inl (upd f j z))) = F')
    (kk : ∀ (H1 : Heap) (locs1 : List Loc), va_P D vwCl (iW (pb b0) N F') H1 → va_S (bA b0) s.heap H1 locs1 → W p l e R s m args below meth c H1 locs1 cells slots Q (F0 m (pc + 1) ls rest)) : W p l e R s m args below meth c H locs cells slots Q (F0 m pc ls (.int z :: .int x :: .ref (pb b0 k) :: rest)) := by
  subst hxj
  refine va_iast hx hb hK hP bA_D hS k 0 (iW_at hk hF) rfl (vp_in_nI hj hn) hdg (fun H1 locs1 hP1 hD1 hS1 => kk H1 locs1 ?_ hS1)
  rw [nI_clamp (Nat.lt_trans hj hn), iW_set hk, hcan] at hP1
  exact hP1
theorem astQ (F' : Nat → va_E) (hx : p.tables.exec = Jvm.exec) (hb : c.code = cc) (hK : va_K D vwCl (iT cI cQ cL) s) (hP : va_P D vwCl (iW (pb b0) N F) H) (hS : va_S (bA b0) s.heap H locs) {k n v : Nat} {f : Nat → Option Nat} {x : Int32} {j : Nat} {vs : List Value} (hk : k < N) (hF : F k = .inl (cQ, n, .inr (.inr (.inr (.inr f))))) (hv : v < N) (hFv : F v = .inr (4, vs)) (hxj : x = nI j) (hj : j < n) (hn : n < 2 ^ 31) (hdg : decode cc pc = .ok (.aastore, 1)) (hcan : va_up F k (.inl (cQ, n, .inr (.inr (.inr (.inr (va_up f j (some (pb b0 v)))))))) = F')
    (kk : ∀ (H1 : Heap) (locs1 : List Loc), va_P D vwCl (iW (pb b0) N F') H1 → va_S (bA b0) s.heap H1 locs1 → W p l e R s m args below meth c H1 locs1 cells slots Q (F0 m (pc + 1) ls rest)) : W p l e R s m args below meth c H locs cells slots Q (F0 m pc ls (.ref (pb b0 v) :: .int x :: .ref (pb b0 k) :: rest)) := by
  subst hxj
  refine va_astq (r := (RX4, TX4, 7)) hx hb hK hP bA_D hS k 1 v 4 (iW_at hk hF) rfl (iW_at hv hFv) rfl (vp_in_nI hj hn) hdg (fun H1 locs1 hP1 hD1 hS1 => kk H1 locs1 ?_ hS1)
  rw [nI_clamp (Nat.lt_trans hj hn), iW_set hk, hcan] at hP1
  exact hP1
theorem cKr {N' mc ms : Nat} {G : Nat → va_E} (hr : va_Run p l e R s m args below meth c H locs cells slots mc ms (F0 m pc ls st0) rest (fun st o t => o = .returned none ∧ va_P D vwCl (iW (pb b0) N' G) t.heap ∧ va_F (bA b0) st t) (bA b0)) (hS : va_S (bA b0) s.heap H locs)
    (kk : ∀ (H1 : Heap) (locs1 : List Loc), va_P D vwCl (iW (pb b0) N' G) H1 → va_S (bA b0) s.heap H1 locs1 → W p l e R s m args below meth c H1 locs1 (cells + mc) (slots + ms) Q (F0 m (pc + 3) ls rest)) : W p l e R s m args below meth c H locs cells slots Q (F0 m pc ls st0) := by
  intro T hT X
  obtain ⟨v, st₀, t, T', L, h0, X', hL, e1, e2, ⟨hv, hp, hF⟩, st⟩ := hr T hT X
  cases hv
  obtain ⟨-, -, k3⟩ := vx_keep h0 e1 hS (fun q _ h => h) (fun q h => h) hL hF
  obtain ⟨t2, a1, b1⟩ := kk T'.heap (locs ++ L) (by rw [e1]; exact hp) k3 T' rfl X'
  exact ⟨t2, st t2 a1, b1⟩
theorem MK_pre {argl : List Value} {U : State} (hAO : va_AO "SquopPiles$State" s) (hK : va_K D vwCl (iT cI cQ cL) s) (hP : va_P D vwCl (iW (pb b0) N F) H) (hNW : NW s) (hsz : H.size = b0 + N) (hU : U.heap = H) (hW : s.WarmedH U.vm) : va_Pc argl (fun U => U.heap.size = b0 + N ∧ va_AO "SquopPiles$State" U ∧ rW D cI cQ cL (pb b0) N F U) argl.toArray U :=
  ⟨rfl, by rw [hU]; exact hsz, va_AO.moved hW.alike hAO, by rw [hU]; exact hP, va_K.moved hW.alike hK, hNW.warm hW⟩
theorem cvK {nL index : Nat} {own : String} {y : MethodName} {bytes : ByteArray} {maxL : Nat} {ws : List Cond} {rm : Room} {k N' mc ms : Nat} {G : Nat → va_E}
    (S : CallFix p m c cc nL s args Ts own) (hM : MK l y ws rm D cI cQ cL b0 N F k N' G mc ms) (cw : CallB R s args own index y bytes maxL none ws rm mc ms 0 ∧ y.name = "<init>" ∧ (Cond.instanceMethod y).before args s = true) (hAO : va_AO "SquopPiles$State" s) (hK : va_K D vwCl (iT cI cQ cL) s) (hP : va_P D vwCl (iW (pb b0) N F) H) (hNW : NW s) (hS : va_S (bA b0) s.heap H locs) (hcl : s.heap.size + cells = b0 + N) (hN : 0 < N)
    (hsize : ls.size = nL) (hstack : st0 = .ref (pb b0 k) :: rest) (hW : (rest.map fun v => v.category).sum ≤ 8) (hf : cells + mc ≤ R.cells ∧ slots + ms ≤ R.slots) (hdg : decode cc pc = .ok (.invokespecial index, 3))
    (kk : ∀ (H1 : Heap) (locs1 : List Loc), va_P D vwCl (iW (pb b0) N' G) H1 → va_S (bA b0) s.heap H1 locs1 → W p l e R s m args below meth c H1 locs1 (cells + mc) (slots + ms) Q (F0 m (pc + 3) ls rest)) : W p l e R s m args below meth c H locs cells slots Q (F0 m pc ls st0) :=
  wBound (fun hsz => cKr (va_runI (g := F0 m pc ls st0) (As := []) S hM cw ⟨MK_blind, fun U hU hW => MK_pre hAO hK hP hNW (Nat.le_antisymm (by omega) (pb_size hP hN)) hU hW⟩ rfl rfl hsize hstack (lv_room hW) hdg hf) hS kk)
theorem cvKN {nL index : Nat} {own host : String} {y : MethodName} {bytes : ByteArray} {maxL : Nat} {ws : List Cond} {rm : Room} {k N' mc ms : Nat} {G : Nat → va_E}
    (S : CallFix p m c cc nL s args Ts own) (hM : MK l y ws rm D cI cQ cL b0 N F k N' G mc ms) (cw : va_CN R s args own index y host bytes maxL none ws rm mc ms 0 ∧ y.name = "<init>" ∧ (Cond.instanceMethod y).before args s = true) (hAO : va_AO "SquopPiles$State" s) (hK : va_K D vwCl (iT cI cQ cL) s) (hP : va_P D vwCl (iW (pb b0) N F) H) (hNW : NW s) (hS : va_S (bA b0) s.heap H locs) (hcl : s.heap.size + cells = b0 + N) (hN : 0 < N)
    (hsize : ls.size = nL) (hstack : st0 = .ref (pb b0 k) :: rest) (hW : (rest.map fun v => v.category).sum ≤ 8) (hf : cells + mc ≤ R.cells ∧ slots + ms ≤ R.slots) (hdg : decode cc pc = .ok (.invokespecial index, 3))
    (kk : ∀ (H1 : Heap) (locs1 : List Loc), va_P D vwCl (iW (pb b0) N' G) H1 → va_S (bA b0) s.heap H1 locs1 → W p l e R s m args below meth c H1 locs1 (cells + mc) (slots + ms) Q (F0 m (pc + 3) ls rest)) : W p l e R s m args below meth c H locs cells slots Q (F0 m pc ls st0) :=
  wBound (fun hsz => cKr (va_runIN (g := F0 m pc ls st0) (As := []) S hM cw ⟨MK_blind, fun U hU hW => MK_pre hAO hK hP hNW (Nat.le_antisymm (by omega) (pb_size hP hN)) hU hW⟩ rfl rfl hsize hstack (lv_room hW) hdg hf) hS kk)
end MKR
theorem cwI9 {s : State} {args : Array Value} {R rm : Room} {own : String} {index maxL mc ms : Nat} {y : MethodName} {bytes : ByteArray} {x : Cond} (ht : ∀ w ∈ x :: AW, w.before args s = true) (hc : Cond.code y bytes maxL none ∈ AW) (hl : Cond.methodLink own index y ∈ AW) (hi : Cond.instanceMethod y ∈ AW) (hini : Cond.initialized y.cls ∈ AW) (hy1 : y.name = "<init>") (hrc : rm.cells = mc) (hrs : rm.slots = ms)
    (hd : y.cls ≠ "java/lang/invoke/MethodHandle" ∧ y.cls ≠ "java/lang/invoke/VarHandle" ∧ (parseMethodDescriptor y.desc).map (fun d => d.parameters.length) = some 0) (hR : rm.frames + 1 ≤ R.frames ∧ 8 + (maxL + 11) + rm.locals ≤ R.locals) : CallB R s args own index y bytes maxL none (Cond.code y bytes maxL none :: AW) rm mc ms 0 ∧ y.name = "<init>" ∧ (Cond.instanceMethod y).before args s = true :=
  ⟨callB_of 0 ht (gIn hc) rfl hrc hrs (ht _ (List.mem_cons_of_mem _ hini)) (ht _ (List.mem_cons_of_mem _ hl)) hd hR, hy1, ht _ (List.mem_cons_of_mem _ hi)⟩
theorem cwIN9 {s : State} {args : Array Value} {R rm : Room} {own host : String} {index maxL mc ms : Nat} {y : MethodName} {bytes : ByteArray} {x : Cond} (ht : ∀ w ∈ x :: AW, w.before args s = true) (hc : Cond.code y bytes maxL none ∈ AW) (hl : va_Nw (.methodLinkNest own index y host) s) (hi : Cond.instanceMethod y ∈ AW) (hini : Cond.initialized y.cls ∈ AW) (hy1 : y.name = "<init>") (hrc : rm.cells = mc) (hrs : rm.slots = ms)
    (hd : y.cls ≠ "java/lang/invoke/MethodHandle" ∧ y.cls ≠ "java/lang/invoke/VarHandle" ∧ (parseMethodDescriptor y.desc).map (fun d => d.parameters.length) = some 0) (hR : rm.frames + 1 ≤ R.frames ∧ 8 + (maxL + 11) + rm.locals ≤ R.locals) : va_CN R s args own index y host bytes maxL none (Cond.code y bytes maxL none :: AW) rm mc ms 0 ∧ y.name = "<init>" ∧ (Cond.instanceMethod y).before args s = true :=
  ⟨cwN9 0 ht hc hl hini hrc hrs hd hR, hy1, ht _ (List.mem_cons_of_mem _ hi)⟩
theorem up3 {A : Nat → va_E} {k N : Nat} {e0 e1 a : va_E} : va_up (va_up (va_up A k e0) N a) k e1 = va_up (va_up A N a) k e1 := by
  funext j
  simp only [va_up]
  repeat' split
  all_goals rfl
theorem upk {A : Nat → va_E} {k N : Nat} {e0 a : va_E} (h : k < N) : va_up (va_up A k e0) N a k = e0 := by
  rw [va_up_ne _ _ (Nat.ne_of_lt h), va_up_self]
end
/-! from makes -/
section
theorem dv0 (j : Nat) (hj : j < 2) : defaultValue (tyX0 j) = vp_V [.null, .int (nI 0)] j := by rcases (show j = 0 ∨ j = 1 by omega) with rfl | rfl <;> rfl
theorem dv1 (j : Nat) (hj : j < 3) : defaultValue (tyX1 j) = vp_V [.null, .null, .null] j := by rcases (show j = 0 ∨ j = 1 ∨ j = 2 by omega) with rfl | rfl | rfl <;> rfl
theorem dv2 (j : Nat) (hj : j < 3) : defaultValue (tyX2 j) = vp_V [.null, .int (nI 0), .int (nI 0)] j := by rcases (show j = 0 ∨ j = 1 ∨ j = 2 by omega) with rfl | rfl | rfl <;> rfl
theorem dv3 (j : Nat) (hj : j < 3) : defaultValue (tyX3 j) = vp_V [.null, .null, .null] j := by rcases (show j = 0 ∨ j = 1 ∨ j = 2 by omega) with rfl | rfl | rfl <;> rfl
theorem dv4 (j : Nat) (hj : j < 7) : defaultValue (tyX4 j) = vp_V [.null, .null, .null, .null, .int (nI 0), .int (nI 0), .int (nI 0)] j := by rcases (show j = 0 ∨ j = 1 ∨ j = 2 ∨ j = 3 ∨ j = 4 ∨ j = 5 ∨ j = 6 by omega) with rfl | rfl | rfl | rfl | rfl | rfl | rfl <;> rfl
theorem dv5 (j : Nat) (hj : j < 7) : defaultValue (tyX5 j) = vp_V [.null, .null, .null, .null, .null, .null, .int (bI false)] j := by rcases (show j = 0 ∨ j = 1 ∨ j = 2 ∨ j = 3 ∨ j = 4 ∨ j = 5 ∨ j = 6 by omega) with rfl | rfl | rfl | rfl | rfl | rfl | rfl <;> rfl
theorem dv6 (j : Nat) (hj : j < 12) : defaultValue (tyX6 j) = vp_V [.null, .null, .null, .null, .null, .null, .null, .int (bI false), .int (nI 0), .int (nI 0), .int (nI 0), .int (nI 0)] j := by rcases (show j = 0 ∨ j = 1 ∨ j = 2 ∨ j = 3 ∨ j = 4 ∨ j = 5 ∨ j = 6 ∨ j = 7 ∨ j = 8 ∨ j = 9 ∨ j = 10 ∨ j = 11 by omega) with rfl | rfl | rfl | rfl | rfl | rfl | rfl | rfl | rfl | rfl | rfl | rfl <;> rfl
/-- the mat as it is made -/
def mC (i : Nat) : Nat → Int32 := fun w => if w < i then nI (bs (w / 4)) else 0
def mB (i : Nat) : Nat → Int32 := fun w => if w < i then (if w % 4 = 0 then -1 else nI (w - 1)) else 0
def mV (i : Nat) : Nat → Int32 := fun w => if w < i then (if w % 4 = 3 then -1 else nI (w + 1)) else 0
theorem mC_s {i : Nat} : upd (mC i) i (nI (bs (i / 4))) = mC (i + 1) := by
  funext w
  unfold upd mC
  by_cases h : w = i
  · subst h; simp
  · rw [if_neg h]
    by_cases h2 : w < i
    · rw [if_pos h2, if_pos (by omega)]
    · rw [if_neg h2, if_neg (by omega)]
theorem mB_s {i : Nat} {x : Int32} (hx : x = if i % 4 = 0 then -1 else nI (i - 1)) : upd (mB i) i x = mB (i + 1) := by
  funext w
  unfold upd mB
  by_cases h : w = i
  · subst h; simp [hx]
  · rw [if_neg h]
    by_cases h2 : w < i
    · rw [if_pos h2, if_pos (show w < i + 1 by omega)]
    · rw [if_neg h2, if_neg (show ¬ w < i + 1 by omega)]
theorem mV_s {i : Nat} {x : Int32} (hx : x = if i % 4 = 3 then -1 else nI (i + 1)) : upd (mV i) i x = mV (i + 1) := by
  funext w
  unfold upd mV
  by_cases h : w = i
  · subst h; simp [hx]
  · rw [if_neg h]
    by_cases h2 : w < i
    · rw [if_pos h2, if_pos (show w < i + 1 by omega)]
    · rw [if_neg h2, if_neg (show ¬ w < i + 1 by omega)]
theorem mC_0 : mC 0 = fun _ => 0 := by funext w; simp [mC]
theorem mB_0 : mB 0 = fun _ => 0 := by funext w; simp [mB]
theorem mV_0 : mV 0 = fun _ => 0 := by funext w; simp [mV]
/-- worlds behind the constructors -/
def w0N (cI : ClassId) (b0 : Nat) (F : Nat → va_E) (k : Nat) : Nat → va_E := va_up (va_up F (k + 1) (.inl (cI, 60, .inl (fun _ => 0)))) k (.inr (0, [.ref (pb b0 (k + 1)), .int (nI 0)]))
def w1O (b0 : Nat) (F : Nat → va_E) (k : Nat) : Nat → va_E := va_up F k (.inr (1, [.ref (pb b0 (k + 1)), .ref (pb b0 (k + 2)), .ref (pb b0 (k + 3))]))
def w1N (cI : ClassId) (b0 : Nat) (F : Nat → va_E) (k : Nat) : Nat → va_E := mSet cI (w1O b0 F k) k (mC 16) (mB 16) (mV 16)
def w3N (cI : ClassId) (b0 : Nat) (F : Nat → va_E) (k : Nat) : Nat → va_E := va_up (va_up (va_up (va_up F (k + 1) (.inl (cI, 338, .inl (fun _ => 0)))) (k + 2) (.inl (cI, 169, .inl (fun _ => 0)))) (k + 3) (.inl (cI, 169, .inl (fun _ => 0)))) k (.inr (3, [.ref (pb b0 (k + 1)), .ref (pb b0 (k + 2)), .ref (pb b0 (k + 3))]))
def w4N (cI : ClassId) (b0 : Nat) (F : Nat → va_E) (k : Nat) : Nat → va_E := va_up (va_up (va_up (va_up (w1N cI b0 F (k + 1)) (k + 5) (.inl (cI, 16, .inl (fun _ => 0)))) (k + 6) (.inl (cI, 4, .inl (fun _ => 0)))) (k + 7) (.inl (cI, 4, .inl (fun _ => 0)))) k (.inr (4, [.ref (pb b0 (k + 1)), .ref (pb b0 (k + 5)), .ref (pb b0 (k + 6)), .ref (pb b0 (k + 7)), .int (nI 0), .int (nI 0), .int (nI 3)]))
def w2A (b0 k i : Nat) : Nat → Option Nat := fun j => if j < i then some (pb b0 (k + 2 + 8 * j)) else none
def w2R (cI : ClassId) (b0 : Nat) (F : Nat → va_E) (k : Nat) : Nat → (Nat → va_E)
  | 0 => va_up F k (.inr (2, [.ref (pb b0 (k + 1)), .int (nI 0), .int (nI 0)]))
  | i + 1 => w4N cI b0 (w2R cI b0 F k i) (k + 2 + 8 * i)
def w2N (cI cQ : ClassId) (b0 : Nat) (F : Nat → va_E) (k i : Nat) : Nat → va_E := va_up (w2R cI b0 F k i) (k + 1) (.inl (cQ, 6, .inr (.inr (.inr (.inr (w2A b0 k i))))))
theorem w1N_own {cI : ClassId} {b0 : Nat} {F : Nat → va_E} {k : Nat} {e : va_E} : w1N cI b0 (va_up F k e) k = w1N cI b0 F k := by unfold w1N w1O; rw [bx_uu]
theorem w1N_up {cI : ClassId} {b0 : Nat} {A : Nat → va_E} {k n : Nat} {e0 e1 : va_E} (h : k < n) : va_up (w1N cI b0 (va_up A k e0) n) k e1 = va_up (w1N cI b0 A n) k e1 := by
  funext j
  simp only [va_up, w1N, w1O, mSet]
  repeat' split
  all_goals first | rfl | omega
theorem w1N_at {cI : ClassId} {b0 : Nat} {A : Nat → va_E} {k n : Nat} (h : k < n ∨ n + 3 < k) : w1N cI b0 A n k = A k := by
  unfold w1N w1O
  rw [mSet_out (by omega), va_up_ne _ _ (by omega)]
theorem w4N_own {cI : ClassId} {b0 : Nat} {F : Nat → va_E} {k : Nat} {e : va_E} : w4N cI b0 (va_up F k e) k = w4N cI b0 F k := by
  funext j
  simp only [va_up, w4N, w1N, w1O, mSet]
  repeat' split
  all_goals first | rfl | omega
theorem w4N_up {cI : ClassId} {b0 : Nat} {A : Nat → va_E} {k n : Nat} {e0 e1 : va_E} (h : k < n) : va_up (w4N cI b0 (va_up A k e0) n) k e1 = va_up (w4N cI b0 A n) k e1 := by
  funext j
  simp only [va_up, w4N, w1N, w1O, mSet]
  repeat' split
  all_goals first | rfl | omega
theorem w4N_at {cI : ClassId} {b0 : Nat} {A : Nat → va_E} {k n : Nat} (h : k < n ∨ n + 7 < k) : w4N cI b0 A n k = A k := by
  unfold w4N
  rw [va_up_ne _ _ (by omega), va_up_ne _ _ (by omega), va_up_ne _ _ (by omega), va_up_ne _ _ (by omega), w1N_at (by omega)]
theorem w0N_own {cI : ClassId} {b0 : Nat} {F : Nat → va_E} {k : Nat} {e : va_E} : w0N cI b0 (va_up F k e) k = w0N cI b0 F k := up3
theorem w0N_up {cI : ClassId} {b0 : Nat} {A : Nat → va_E} {k n : Nat} {e0 e1 : va_E} (h : k < n) : va_up (w0N cI b0 (va_up A k e0) n) k e1 = va_up (w0N cI b0 A n) k e1 := by
  funext j
  simp only [va_up, w0N]
  repeat' split
  all_goals first | rfl | omega
theorem w0N_at {cI : ClassId} {b0 : Nat} {A : Nat → va_E} {k n : Nat} (h : k < n ∨ n + 1 < k) : w0N cI b0 A n k = A k := by
  unfold w0N
  rw [va_up_ne _ _ (by omega), va_up_ne _ _ (by omega)]
theorem w3N_own {cI : ClassId} {b0 : Nat} {F : Nat → va_E} {k : Nat} {e : va_E} : w3N cI b0 (va_up F k e) k = w3N cI b0 F k := by
  funext j
  simp only [va_up, w3N]
  repeat' split
  all_goals first | rfl | omega
theorem w3N_up {cI : ClassId} {b0 : Nat} {A : Nat → va_E} {k n : Nat} {e0 e1 : va_E} (h : k < n) : va_up (w3N cI b0 (va_up A k e0) n) k e1 = va_up (w3N cI b0 A n) k e1 := by
  funext j
  simp only [va_up, w3N]
  repeat' split
  all_goals first | rfl | omega
theorem w3N_at {cI : ClassId} {b0 : Nat} {A : Nat → va_E} {k n : Nat} (h : k < n ∨ n + 3 < k) : w3N cI b0 A n k = A k := by
  unfold w3N
  rw [va_up_ne _ _ (by omega), va_up_ne _ _ (by omega), va_up_ne _ _ (by omega), va_up_ne _ _ (by omega)]
theorem w2R_at {cI : ClassId} {b0 : Nat} {F : Nat → va_E} {k m : Nat} : ∀ i : Nat, (m < k ∨ m = k + 1 ∨ k + 1 + 8 * i < m) → w2R cI b0 F k i m = F m
  | 0, h => by rw [w2R, va_up_ne _ _ (by omega)]
  | i + 1, h => by rw [w2R, w4N_at (by omega), w2R_at i (by omega)]
theorem w2R_self {cI : ClassId} {b0 : Nat} {F : Nat → va_E} {k : Nat} : ∀ i : Nat, w2R cI b0 F k i k = .inr (2, [.ref (pb b0 (k + 1)), .int (nI 0), .int (nI 0)])
  | 0 => by rw [w2R, va_up_self]
  | i + 1 => by rw [w2R, w4N_at (by omega), w2R_self i]
theorem w2R_own {cI : ClassId} {b0 : Nat} {F : Nat → va_E} {k : Nat} {e : va_E} : ∀ i : Nat, w2R cI b0 (va_up F k e) k i = w2R cI b0 F k i
  | 0 => bx_uu _ _ _ _
  | i + 1 => by rw [w2R, w2R, w2R_own i]
theorem w2R_up {cI : ClassId} {b0 : Nat} {A : Nat → va_E} {k n : Nat} {e0 e1 : va_E} (h : k < n) : ∀ i : Nat, va_up (w2R cI b0 (va_up A k e0) n i) k e1 = va_up (w2R cI b0 A n i) k e1
  | 0 => by
    funext j
    simp only [va_up, w2R]
    repeat' split
    all_goals first | rfl | omega
  | i + 1 => by
    rw [w2R, w2R, ← w4N_up (A := w2R cI b0 (va_up A k e0) n i) (e0 := e1) (by omega), w2R_up h i, w4N_up (by omega)]
theorem w2N_own {cI cQ : ClassId} {b0 : Nat} {F : Nat → va_E} {k i : Nat} {e : va_E} : w2N cI cQ b0 (va_up F k e) k i = w2N cI cQ b0 F k i := by rw [w2N, w2N, w2R_own]
theorem up_sw {A : Nat → va_E} {k n : Nat} {e a : va_E} (h : k ≠ n) : va_up (va_up A n a) k e = va_up (va_up A k e) n a := by
  funext j
  simp only [va_up]
  repeat' split
  all_goals first | rfl | omega
theorem w2N_up {cI cQ : ClassId} {b0 : Nat} {A : Nat → va_E} {k n i : Nat} {e0 e1 : va_E} (h : k < n) : va_up (w2N cI cQ b0 (va_up A k e0) n i) k e1 = va_up (w2N cI cQ b0 A n i) k e1 := by
  rw [w2N, w2N, up_sw (k := k) (n := n + 1) (by omega), up_sw (k := k) (n := n + 1) (by omega), w2R_up h]
theorem w2N_at {cI cQ : ClassId} {b0 : Nat} {A : Nat → va_E} {k n i : Nat} (h : k < n ∨ n + 1 + 8 * i < k) : w2N cI cQ b0 A n i k = A k := by
  rw [w2N, va_up_ne _ _ (by omega), w2R_at i (by omega)]
theorem w2_step {cI cQ : ClassId} {b0 : Nat} {F : Nat → va_E} {k i : Nat} {e : va_E} : va_up (w4N cI b0 (va_up (w2N cI cQ b0 F k i) (k + 2 + 8 * i) e) (k + 2 + 8 * i)) (k + 1) (.inl (cQ, 6, .inr (.inr (.inr (.inr (va_up (w2A b0 k i) i (some (pb b0 (k + 2 + 8 * i))))))))) = w2N cI cQ b0 F k (i + 1) := by
  rw [w4N_own, w2N, w4N_up (by omega), w2N, w2R]
  have e9 : va_up (w2A b0 k i) i (some (pb b0 (k + 2 + 8 * i))) = w2A b0 k (i + 1) := by
    funext j
    unfold va_up w2A
    by_cases h : j = i
    · subst h; simp
    · rw [if_neg h]
      by_cases h2 : j < i
      · rw [if_pos h2, if_pos (show j < i + 1 by omega)]
      · rw [if_neg h2, if_neg (show ¬ j < i + 1 by omega)]
  rw [e9]
theorem cell_extq {cA : ClassId} {n : Nat} {f g : Nat → Option Nat} (h : ∀ j, j < n → f j = g j) : vp_cell cA (n, .inr (.inr (.inr (.inr f)))) = vp_cell cA (n, .inr (.inr (.inr (.inr g)))) := by
  show arrV cA n (fun j => va_rf (f j)) = arrV cA n (fun j => va_rf (g j))
  unfold arrV
  congr 1
  apply Array.ext
  · simp
  · intro i h1 h2
    simp only [Array.size_ofFn] at h1
    simp [h i h1]
theorem iW_extq {D : va_G} {cl : List vw_C} {ad : Nat → Nat} {N : Nat} {F : Nat → va_E} {H : Heap} {k : Nat} {cA : ClassId} {n : Nat} {f g : Nat → Option Nat} (h : va_P D cl (iW ad N (va_up F k (.inl (cA, n, .inr (.inr (.inr (.inr f))))))) H) (e : ∀ j, j < n → f j = g j) : va_P D cl (iW ad N (va_up F k (.inl (cA, n, .inr (.inr (.inr (.inr g))))))) H := by
  intro i q hq
  obtain ⟨hi, rfl⟩ := iW_inv hq
  have h1 := h i _ (iW_get hi)
  by_cases e9 : i = k
  · subst e9
    rw [va_up_self] at h1 ⊢
    show H[ad i]? = some (vp_cell cA (n, .inr (.inr (.inr (.inr g)))))
    rw [← cell_extq e]
    exact h1
  · rw [va_up_ne _ _ e9] at h1 ⊢
    exact h1
set_option maxRecDepth 100000 in
set_option maxHeartbeats 4000000 in
theorem tX0_init (l : Launch) (D : va_G) (cI cQ cL : ClassId) (b0 : Nat) (F : Nat → va_E) (k : Nat) (hF : F k = .inr (0, [.null, .int (nI 0)])) : MK l yX0_init (Cond.code yX0_init cX0_init 1 none :: AW) ({ frames := 1, cells := 1, slots := 60, locals := 12 } : Room) D cI cQ cL b0 (k + 1) F (k) (k + 2) (w0N cI b0 F k) 1 60 := by
  refine mk_v (by decide +kernel) rfl (Nat.le_of_ble_eq_true rfl) rfl (fun p e s m below meth cd Q ls hx hb hml hown hts hin hsz hAO hP hK hNW hS hret hl => ?_)
  have hown : s.vm.findClass RX0 = some m.cls := hown
  have hb0 : b0 ≤ s.heap.size := by omega
  refine lv_aload_n hx hb (dk kX0_init_ok 0 rfl) rfl (lv_at hl 0 rfl) ?_
  refine W.objInit hx hb hown (hts _ (List.mem_cons_of_mem _ (ac0 _ (List.mem_of_getElem? (i := 0) rfl)))) (hts _ (List.mem_cons_of_mem _ (ac0 _ (List.mem_of_getElem? (i := 1) rfl)))) (hts _ (List.mem_cons_of_mem _ (ac0 _ (List.mem_of_getElem? (i := 2) rfl)))) rfl (by rw [hml]; exact hl.1) rfl (dk kX0_init_ok 1 rfl) (Nat.le_of_ble_eq_true rfl) (Nat.le_of_ble_eq_true rfl) ?_
  refine W.eq (g2 := F0 m 4 ls []) rfl ?_
  refine lv_aload_n hx hb (dk kX0_init_ok 2 rfl) rfl (lv_at hl 0 rfl) ?_
  refine lv_bipush (v := nI 60) hx hb (dk kX0_init_ok 3 rfl) rfl ?_
  refine nwI hx hb (hts _ (List.mem_cons_of_mem _ (ac0 _ (List.mem_of_getElem? (i := 3) rfl)))) hK hP hS hb0 (by omega) 60 rfl (by decide) (Nat.le_of_ble_eq_true rfl) (Nat.le_of_ble_eq_true rfl) (dk kX0_init_ok 4 rfl) (fun H hP hS => ?_)
  have hP : va_P D vwCl (iW (pb b0) (k + 2) (va_up F (k + 1) (.inl (cI, 60, .inl (fun _ => 0))))) H := hP
  refine pfF (w0N cI b0 F k) (ty := .array .int) hx hb hts (fun w h => List.mem_cons_of_mem _ (acX0 w h)) tyX0 tyX0_ok nmX0 hown hK hP hS (k := k) (by omega) (by rw [va_up_ne _ _ (by omega)]; exact hF) rfl 0 (by decide) (hts _ (List.mem_cons_of_mem _ (ac0 _ (List.mem_of_getElem? (i := 4) rfl)))) (fun _ h => h) rfl hin rfl (by decide +kernel) rfl rfl (Nat.le_of_ble_eq_true rfl) (dk kX0_init_ok 5 rfl) (rfl) (fun H locs hP hS => ?_)
  refine lv_aload_n hx hb (dk kX0_init_ok 6 rfl) rfl (lv_at hl 0 rfl) ?_
  refine lv_iconst (v := nI 0) hx hb (dk kX0_init_ok 7 rfl) rfl ?_
  refine pfA (w0N cI b0 F k) (ty := .int) hx hb hts (fun w h => List.mem_cons_of_mem _ (acX0 w h)) tyX0 tyX0_ok nmX0 hown hK hP hS (k := k) (by omega) (va_up_self _ _ _) rfl 1 (by decide) (hts _ (List.mem_cons_of_mem _ (ac0 _ (List.mem_of_getElem? (i := 5) rfl)))) (fun _ h => h) rfl (by decide +kernel) rfl rfl (Nat.le_of_ble_eq_true rfl) (dk kX0_init_ok 8 rfl) (bx_uu _ _ _ _) (fun H locs hP hS => ?_)
  exact hret _ _ _ _ hP hS (dk kX0_init_ok 9 rfl)
set_option maxRecDepth 100000 in
set_option maxHeartbeats 4000000 in
theorem tX3_init (l : Launch) (D : va_G) (cI cQ cL : ClassId) (b0 : Nat) (F : Nat → va_E) (k : Nat) (hF : F k = .inr (3, [.null, .null, .null])) : MK l yX3_init (Cond.code yX3_init cX3_init 1 none :: AW) ({ frames := 1, cells := 3, slots := 676, locals := 12 } : Room) D cI cQ cL b0 (k + 1) F (k) (k + 4) (w3N cI b0 F k) 3 676 := by
  refine mk_v (by decide +kernel) rfl (Nat.le_of_ble_eq_true rfl) rfl (fun p e s m below meth cd Q ls hx hb hml hown hts hin hsz hAO hP hK hNW hS hret hl => ?_)
  have hown : s.vm.findClass RX3 = some m.cls := hown
  have hb0 : b0 ≤ s.heap.size := by omega
  refine lv_aload_n hx hb (dk kX3_init_ok 0 rfl) rfl (lv_at hl 0 rfl) ?_
  refine W.objInit hx hb hown (hts _ (List.mem_cons_of_mem _ (ac5 _ (List.mem_of_getElem? (i := 10) rfl)))) (hts _ (List.mem_cons_of_mem _ (ac0 _ (List.mem_of_getElem? (i := 1) rfl)))) (hts _ (List.mem_cons_of_mem _ (ac0 _ (List.mem_of_getElem? (i := 2) rfl)))) rfl (by rw [hml]; exact hl.1) rfl (dk kX3_init_ok 1 rfl) (Nat.le_of_ble_eq_true rfl) (Nat.le_of_ble_eq_true rfl) ?_
  refine W.eq (g2 := F0 m 4 ls []) rfl ?_
  refine lv_aload_n hx hb (dk kX3_init_ok 2 rfl) rfl (lv_at hl 0 rfl) ?_
  refine lv_sipush (v := nI 338) hx hb (dk kX3_init_ok 3 rfl) rfl ?_
  refine nwI hx hb (hts _ (List.mem_cons_of_mem _ (ac0 _ (List.mem_of_getElem? (i := 3) rfl)))) hK hP hS hb0 (by omega) 338 rfl (by decide) (Nat.le_of_ble_eq_true rfl) (Nat.le_of_ble_eq_true rfl) (dk kX3_init_ok 4 rfl) (fun H hP hS => ?_)
  have hP : va_P D vwCl (iW (pb b0) (k + 2) (va_up (F) (k + 1) (.inl (cI, 338, .inl (fun _ => 0))))) H := hP
  refine pfF (va_up (va_up (F) (k + 1) (.inl (cI, 338, .inl (fun _ => 0)))) k (.inr (3, [.ref (pb b0 (k + 1)), .null, .null]))) (ty := .array .int) hx hb hts (fun w h => List.mem_cons_of_mem _ (acX3 w h)) tyX3 tyX3_ok nmX3 hown hK hP hS (k := k) (by omega) (by rw [va_up_ne _ _ (by omega)]; exact hF) rfl 0 (by decide) (hts _ (List.mem_cons_of_mem _ (ac5 _ (List.mem_of_getElem? (i := 11) rfl)))) (fun _ h => h) rfl hin rfl (by decide +kernel) rfl rfl (Nat.le_of_ble_eq_true rfl) (dk kX3_init_ok 5 rfl) (rfl) (fun H locs hP hS => ?_)
  refine lv_aload_n hx hb (dk kX3_init_ok 6 rfl) rfl (lv_at hl 0 rfl) ?_
  refine lv_sipush (v := nI 169) hx hb (dk kX3_init_ok 7 rfl) rfl ?_
  refine nwI hx hb (hts _ (List.mem_cons_of_mem _ (ac0 _ (List.mem_of_getElem? (i := 3) rfl)))) hK hP hS hb0 (by omega) 169 rfl (by decide) (Nat.le_of_ble_eq_true rfl) (Nat.le_of_ble_eq_true rfl) (dk kX3_init_ok 8 rfl) (fun H hP hS => ?_)
  have hP : va_P D vwCl (iW (pb b0) (k + 3) (va_up (va_up (va_up (F) (k + 1) (.inl (cI, 338, .inl (fun _ => 0)))) k (.inr (3, [.ref (pb b0 (k + 1)), .null, .null]))) (k + 2) (.inl (cI, 169, .inl (fun _ => 0))))) H := hP
  refine pfF (va_up (va_up (va_up (F) (k + 1) (.inl (cI, 338, .inl (fun _ => 0)))) (k + 2) (.inl (cI, 169, .inl (fun _ => 0)))) k (.inr (3, [.ref (pb b0 (k + 1)), .ref (pb b0 (k + 2)), .null]))) (ty := .array .int) hx hb hts (fun w h => List.mem_cons_of_mem _ (acX3 w h)) tyX3 tyX3_ok nmX3 hown hK hP hS (k := k) (by omega) (upk (by omega)) rfl 1 (by decide) (hts _ (List.mem_cons_of_mem _ (ac5 _ (List.mem_of_getElem? (i := 12) rfl)))) (fun _ h => h) rfl hin rfl (by decide +kernel) rfl rfl (Nat.le_of_ble_eq_true rfl) (dk kX3_init_ok 9 rfl) (up3) (fun H locs hP hS => ?_)
  refine lv_aload_n hx hb (dk kX3_init_ok 10 rfl) rfl (lv_at hl 0 rfl) ?_
  refine lv_sipush (v := nI 169) hx hb (dk kX3_init_ok 11 rfl) rfl ?_
  refine nwI hx hb (hts _ (List.mem_cons_of_mem _ (ac0 _ (List.mem_of_getElem? (i := 3) rfl)))) hK hP hS hb0 (by omega) 169 rfl (by decide) (Nat.le_of_ble_eq_true rfl) (Nat.le_of_ble_eq_true rfl) (dk kX3_init_ok 12 rfl) (fun H hP hS => ?_)
  have hP : va_P D vwCl (iW (pb b0) (k + 4) (va_up (va_up (va_up (va_up (F) (k + 1) (.inl (cI, 338, .inl (fun _ => 0)))) (k + 2) (.inl (cI, 169, .inl (fun _ => 0)))) k (.inr (3, [.ref (pb b0 (k + 1)), .ref (pb b0 (k + 2)), .null]))) (k + 3) (.inl (cI, 169, .inl (fun _ => 0))))) H := hP
  refine pfF (va_up (va_up (va_up (va_up (F) (k + 1) (.inl (cI, 338, .inl (fun _ => 0)))) (k + 2) (.inl (cI, 169, .inl (fun _ => 0)))) (k + 3) (.inl (cI, 169, .inl (fun _ => 0)))) k (.inr (3, [.ref (pb b0 (k + 1)), .ref (pb b0 (k + 2)), .ref (pb b0 (k + 3))]))) (ty := .array .int) hx hb hts (fun w h => List.mem_cons_of_mem _ (acX3 w h)) tyX3 tyX3_ok nmX3 hown hK hP hS (k := k) (by omega) (upk (by omega)) rfl 2 (by decide) (hts _ (List.mem_cons_of_mem _ (ac5 _ (List.mem_of_getElem? (i := 13) rfl)))) (fun _ h => h) rfl hin rfl (by decide +kernel) rfl rfl (Nat.le_of_ble_eq_true rfl) (dk kX3_init_ok 13 rfl) (up3) (fun H locs hP hS => ?_)
  exact hret _ _ _ _ hP hS (dk kX3_init_ok 14 rfl)
set_option maxRecDepth 100000 in
set_option maxHeartbeats 4000000 in
theorem tX1_init (l : Launch) (D : va_G) (cI cQ cL : ClassId) (b0 : Nat) (F : Nat → va_E) (k : Nat) (hF : F k = .inr (1, [.null, .null, .null])) : MK l yX1_init (Cond.code yX1_init cX1_init 3 none :: AW) ({ frames := 2, cells := 3, slots := 48, locals := 41 } : Room) D cI cQ cL b0 (k + 1) F (k) (k + 4) (w1N cI b0 F k) 3 48 := by
  refine mk_v (by decide +kernel) rfl (Nat.le_of_ble_eq_true rfl) rfl (fun p e s m below meth cd Q ls hx hb hml hown hts hin hsz hAO hP hK hNW hS hret hl => ?_)
  have hown : s.vm.findClass RX1 = some m.cls := hown
  have hb0 : b0 ≤ s.heap.size := by omega
  refine lv_aload_n hx hb (dk kX1_init_ok 0 rfl) rfl (lv_at hl 0 rfl) ?_
  refine W.objInit hx hb hown (hts _ (List.mem_cons_of_mem _ (ac0 _ (List.mem_of_getElem? (i := 21) rfl)))) (hts _ (List.mem_cons_of_mem _ (ac0 _ (List.mem_of_getElem? (i := 1) rfl)))) (hts _ (List.mem_cons_of_mem _ (ac0 _ (List.mem_of_getElem? (i := 2) rfl)))) rfl (by rw [hml]; exact hl.1) rfl (dk kX1_init_ok 1 rfl) (Nat.le_of_ble_eq_true rfl) (Nat.le_of_ble_eq_true rfl) ?_
  refine W.eq (g2 := F0 m 4 ls []) rfl ?_
  refine lv_aload_n hx hb (dk kX1_init_ok 2 rfl) rfl (lv_at hl 0 rfl) ?_
  refine lv_bipush (v := nI 16) hx hb (dk kX1_init_ok 3 rfl) rfl ?_
  refine nwI hx hb (hts _ (List.mem_cons_of_mem _ (ac0 _ (List.mem_of_getElem? (i := 3) rfl)))) hK hP hS hb0 (by omega) 16 rfl (by decide) (Nat.le_of_ble_eq_true rfl) (Nat.le_of_ble_eq_true rfl) (dk kX1_init_ok 4 rfl) (fun H hP hS => ?_)
  have hP : va_P D vwCl (iW (pb b0) (k + 2) (va_up (F) (k + 1) (.inl (cI, 16, .inl (fun _ => 0))))) H := hP
  refine pfF (va_up (va_up (F) (k + 1) (.inl (cI, 16, .inl (fun _ => 0)))) k (.inr (1, [.ref (pb b0 (k + 1)), .null, .null]))) (ty := .array .int) hx hb hts (fun w h => List.mem_cons_of_mem _ (acX1 w h)) tyX1 tyX1_ok nmX1 hown hK hP hS (k := k) (by omega) (by rw [va_up_ne _ _ (by omega)]; exact hF) rfl 0 (by decide) (hts _ (List.mem_cons_of_mem _ (ac0 _ (List.mem_of_getElem? (i := 22) rfl)))) (fun _ h => h) rfl hin rfl (by decide +kernel) rfl rfl (Nat.le_of_ble_eq_true rfl) (dk kX1_init_ok 5 rfl) (rfl) (fun H locs hP hS => ?_)
  refine lv_aload_n hx hb (dk kX1_init_ok 6 rfl) rfl (lv_at hl 0 rfl) ?_
  refine lv_bipush (v := nI 16) hx hb (dk kX1_init_ok 7 rfl) rfl ?_
  refine nwI hx hb (hts _ (List.mem_cons_of_mem _ (ac0 _ (List.mem_of_getElem? (i := 3) rfl)))) hK hP hS hb0 (by omega) 16 rfl (by decide) (Nat.le_of_ble_eq_true rfl) (Nat.le_of_ble_eq_true rfl) (dk kX1_init_ok 8 rfl) (fun H hP hS => ?_)
  have hP : va_P D vwCl (iW (pb b0) (k + 3) (va_up (va_up (va_up (F) (k + 1) (.inl (cI, 16, .inl (fun _ => 0)))) k (.inr (1, [.ref (pb b0 (k + 1)), .null, .null]))) (k + 2) (.inl (cI, 16, .inl (fun _ => 0))))) H := hP
  refine pfF (va_up (va_up (va_up (F) (k + 1) (.inl (cI, 16, .inl (fun _ => 0)))) (k + 2) (.inl (cI, 16, .inl (fun _ => 0)))) k (.inr (1, [.ref (pb b0 (k + 1)), .ref (pb b0 (k + 2)), .null]))) (ty := .array .int) hx hb hts (fun w h => List.mem_cons_of_mem _ (acX1 w h)) tyX1 tyX1_ok nmX1 hown hK hP hS (k := k) (by omega) (upk (by omega)) rfl 1 (by decide) (hts _ (List.mem_cons_of_mem _ (ac0 _ (List.mem_of_getElem? (i := 23) rfl)))) (fun _ h => h) rfl hin rfl (by decide +kernel) rfl rfl (Nat.le_of_ble_eq_true rfl) (dk kX1_init_ok 9 rfl) (up3) (fun H locs hP hS => ?_)
  refine lv_aload_n hx hb (dk kX1_init_ok 10 rfl) rfl (lv_at hl 0 rfl) ?_
  refine lv_bipush (v := nI 16) hx hb (dk kX1_init_ok 11 rfl) rfl ?_
  refine nwI hx hb (hts _ (List.mem_cons_of_mem _ (ac0 _ (List.mem_of_getElem? (i := 3) rfl)))) hK hP hS hb0 (by omega) 16 rfl (by decide) (Nat.le_of_ble_eq_true rfl) (Nat.le_of_ble_eq_true rfl) (dk kX1_init_ok 12 rfl) (fun H hP hS => ?_)
  have hP : va_P D vwCl (iW (pb b0) (k + 4) (va_up (va_up (va_up (va_up (F) (k + 1) (.inl (cI, 16, .inl (fun _ => 0)))) (k + 2) (.inl (cI, 16, .inl (fun _ => 0)))) k (.inr (1, [.ref (pb b0 (k + 1)), .ref (pb b0 (k + 2)), .null]))) (k + 3) (.inl (cI, 16, .inl (fun _ => 0))))) H := hP
  refine pfF (va_up (va_up (va_up (va_up (F) (k + 1) (.inl (cI, 16, .inl (fun _ => 0)))) (k + 2) (.inl (cI, 16, .inl (fun _ => 0)))) (k + 3) (.inl (cI, 16, .inl (fun _ => 0)))) k (.inr (1, [.ref (pb b0 (k + 1)), .ref (pb b0 (k + 2)), .ref (pb b0 (k + 3))]))) (ty := .array .int) hx hb hts (fun w h => List.mem_cons_of_mem _ (acX1 w h)) tyX1 tyX1_ok nmX1 hown hK hP hS (k := k) (by omega) (upk (by omega)) rfl 2 (by decide) (hts _ (List.mem_cons_of_mem _ (ac1 _ (List.mem_of_getElem? (i := 0) rfl)))) (fun _ h => h) rfl hin rfl (by decide +kernel) rfl rfl (Nat.le_of_ble_eq_true rfl) (dk kX1_init_ok 13 rfl) (up3) (fun H locs hP hS => ?_)
  have hP : va_P D vwCl (iW (pb b0) (k + 4) (mSet cI (w1O b0 F k) k (mC 0) (mB 0) (mV 0))) H := by
    rw [mC_0, mB_0, mV_0]
    refine Eq.mp ?_ hP
    congr 2
    funext j
    simp only [va_up, w1O, mSet]
    repeat' split
    all_goals first | rfl | omega
  have hM : ∀ c2 b2 v2 : Nat → Int32, matAt cI (pb b0) (mSet cI (w1O b0 F k) k c2 b2 v2) k c2 b2 v2 := fun c2 b2 v2 => by
    refine ⟨?_, ?_, ?_, ?_⟩
    · simp [mSet, w1O, va_up]
    · simp [mSet]
    · simp [mSet]
    · simp [mSet]
  refine lv_iconst (v := nI 0) hx hb (dk kX1_init_ok 14 rfl) rfl ?_
  refine lv_istore_n (lv' := [(1, .int (nI 0)), (0, .ref (pb b0 k))]) hx hb (dk kX1_init_ok 15 rfl) rfl hl (by decide) rfl (fun ls hl => ?_)
  have L30 : ∀ (fu i : Nat) (H : Heap) (locs : List Loc), va_P D vwCl (iW (pb b0) (k + 4) (mSet cI (w1O b0 F k) k (mC i) (mB i) (mV i))) H → va_S (bA b0) s.heap H locs → i ≤ 16 → 16 - i < fu → ∀ ls : Array Slot, lv_has ls 3 [(0, .ref (pb b0 k)), (1, .int (nI i))] → W p l e ({ frames := 2, cells := 3, slots := 48, locals := 41 } : Room) s m #[.ref (pb b0 k)] below meth cd H locs 3 48 Q (F0 m 30 ls []) := by
    intro fu
    induction fu with
    | zero => intros; omega
    | succ fu ih =>
      intro i H locs hP hS hi hm ls hl
      refine lv_iload_n hx hb (dk kX1_init_ok 16 rfl) rfl (lv_at hl 1 rfl) ?_
      refine lv_bipush (v := nI 16) hx hb (dk kX1_init_ok 17 rfl) rfl ?_
      refine n_icmp_ge (tgt := 94) hx hb (by omega) (by decide) (dk kX1_init_ok 18 rfl) (by decide) (fun h1 => ?_) (fun h1 => ?_)
      · have e9 : i = 16 := by omega
        subst e9
        exact hret _ _ _ _ hP hS (dk kX1_init_ok 55 rfl)
      · refine lv_iload_n hx hb (dk kX1_init_ok 19 rfl) rfl (lv_at hl 1 rfl) ?_
        refine lv_iconst (v := nI 4) hx hb (dk kX1_init_ok 20 rfl) rfl ?_
        refine n_irem hx hb (by omega) (by decide) (by decide) (dk kX1_init_ok 21 rfl) ?_
        refine lv_istore_n (lv' := [(2, .int (nI (i % 4))), (0, .ref (pb b0 k)), (1, .int (nI i))]) hx hb (dk kX1_init_ok 22 rfl) rfl hl (by decide) rfl (fun ls hl => ?_)
        have hl := lv_sub hl [1, 2, 0] rfl
        refine lv_aload_n hx hb (dk kX1_init_ok 23 rfl) rfl (lv_at hl 0 rfl) ?_
        refine gf hx hb hts (fun w h => List.mem_cons_of_mem _ (acX1 w h)) hown hK hP (by omega) (hM _ _ _).1 rfl 0 (by decide) (hts _ (List.mem_cons_of_mem _ (ac0 _ (List.mem_of_getElem? (i := 22) rfl)))) (fun _ h => h) rfl (dk kX1_init_ok 24 rfl) ?_
        refine lv_iload_n hx hb (dk kX1_init_ok 25 rfl) rfl (lv_at hl 1 rfl) ?_
        refine lv_iload_n hx hb (dk kX1_init_ok 26 rfl) rfl (lv_at hl 1 rfl) ?_
        refine csPN (As := [.int (nI i)]) (rest := [.int (nI i), .ref (pb b0 (k + 1))]) ⟨hx, hb, hml, hown, hts⟩ (tX5_colourOf l (nI i) i rfl (by omega)) (cwN9 1 hts mcX5_colourOf (nm1 hNW) mini_RX5 rfl rfl hdX5_colourOf ⟨Nat.le_of_ble_eq_true rfl, Nat.le_of_ble_eq_true rfl⟩) (hts _ (List.mem_cons_of_mem _ msX5_colourOf)) rfl hl.1 rfl (Nat.le_of_ble_eq_true rfl) ⟨Nat.le_of_ble_eq_true rfl, Nat.le_of_ble_eq_true rfl⟩ (dk kX1_init_ok 27 rfl) ?_
        refine csPN (As := [.int (nI (i / 4))]) (rest := [.int (nI i), .ref (pb b0 (k + 1))]) ⟨hx, hb, hml, hown, hts⟩ (tX5_baseOf l (nI (i / 4)) (i / 4) rfl (by omega)) (cwN9 1 hts mcX5_baseOf (nm2 hNW) mini_RX5 rfl rfl hdX5_baseOf ⟨Nat.le_of_ble_eq_true rfl, Nat.le_of_ble_eq_true rfl⟩) (hts _ (List.mem_cons_of_mem _ msX5_baseOf)) rfl hl.1 rfl (Nat.le_of_ble_eq_true rfl) ⟨Nat.le_of_ble_eq_true rfl, Nat.le_of_ble_eq_true rfl⟩ (dk kX1_init_ok 28 rfl) ?_
        refine astA (mSet cI (w1O b0 F k) k (mC (i + 1)) (mB i) (mV i)) (j := i) hx hb hK hP hS (by omega) (hM _ _ _).2.1 rfl (by omega) (by decide) (dk kX1_init_ok 29 rfl) (by rw [mSet_c, mC_s]) (fun H locs hP hS => ?_)
        refine lv_aload_n hx hb (dk kX1_init_ok 30 rfl) rfl (lv_at hl 0 rfl) ?_
        refine gf hx hb hts (fun w h => List.mem_cons_of_mem _ (acX1 w h)) hown hK hP (by omega) (hM _ _ _).1 rfl 1 (by decide) (hts _ (List.mem_cons_of_mem _ (ac0 _ (List.mem_of_getElem? (i := 23) rfl)))) (fun _ h => h) rfl (dk kX1_init_ok 31 rfl) ?_
        refine lv_iload_n hx hb (dk kX1_init_ok 32 rfl) rfl (lv_at hl 1 rfl) ?_
        refine lv_iload_n hx hb (dk kX1_init_ok 33 rfl) rfl (lv_at hl 2 rfl) ?_
        have K69 : ∀ x : Int32, (x = if i % 4 = 0 then -1 else nI (i - 1)) → W p l e ({ frames := 2, cells := 3, slots := 48, locals := 41 } : Room) s m #[.ref (pb b0 k)] below meth cd H locs 3 48 Q (F0 m 69 ls [.int x, .int (nI i), .ref (pb b0 (k + 2))]) := by
          intro x hx9
          refine astA (mSet cI (w1O b0 F k) k (mC (i + 1)) (mB (i + 1)) (mV i)) (j := i) hx hb hK hP hS (by omega) (hM _ _ _).2.2.1 rfl (by omega) (by decide) (dk kX1_init_ok 40 rfl) (by rw [mSet_b, mB_s hx9]) (fun H locs hP hS => ?_)
          refine lv_aload_n hx hb (dk kX1_init_ok 41 rfl) rfl (lv_at hl 0 rfl) ?_
          refine gf hx hb hts (fun w h => List.mem_cons_of_mem _ (acX1 w h)) hown hK hP (by omega) (hM _ _ _).1 rfl 2 (by decide) (hts _ (List.mem_cons_of_mem _ (ac1 _ (List.mem_of_getElem? (i := 0) rfl)))) (fun _ h => h) rfl (dk kX1_init_ok 42 rfl) ?_
          refine lv_iload_n hx hb (dk kX1_init_ok 43 rfl) rfl (lv_at hl 1 rfl) ?_
          refine lv_iload_n hx hb (dk kX1_init_ok 44 rfl) rfl (lv_at hl 2 rfl) ?_
          refine lv_iconst (v := nI 3) hx hb (dk kX1_init_ok 45 rfl) rfl ?_
          have K87 : ∀ x : Int32, (x = if i % 4 = 3 then -1 else nI (i + 1)) → W p l e ({ frames := 2, cells := 3, slots := 48, locals := 41 } : Room) s m #[.ref (pb b0 k)] below meth cd H locs 3 48 Q (F0 m 87 ls [.int x, .int (nI i), .ref (pb b0 (k + 3))]) := by
            intro x hx9
            refine astA (mSet cI (w1O b0 F k) k (mC (i + 1)) (mB (i + 1)) (mV (i + 1))) (j := i) hx hb hK hP hS (by omega) (hM _ _ _).2.2.2 rfl (by omega) (by decide) (dk kX1_init_ok 52 rfl) (by rw [mSet_v, mV_s hx9]) (fun H locs hP hS => ?_)
            refine lv_iinc (v := nI (i + 1)) (lv' := [(1, .int (nI (i + 1))), (0, .ref (pb b0 k)), (2, .int (nI (i % 4)))]) hx hb (dk kX1_init_ok 53 rfl) hl (k := 1) rfl (n_inc _) (by decide) rfl (fun ls hl => ?_)
            refine lv_goto (tgt := 30) hx hb (dk kX1_init_ok 54 rfl) (by decide) ?_
            exact ih (i + 1) _ _ hP hS (by omega) (by omega) ls (lv_sub hl [1, 0] rfl)
          refine n_icmp_ne (tgt := 84) hx hb (by omega) (by decide) (dk kX1_init_ok 46 rfl) (by decide) (fun h2 => ?_) (fun h2 => ?_)
          · refine lv_iload_n hx hb (dk kX1_init_ok 49 rfl) rfl (lv_at hl 1 rfl) ?_
            refine lv_iconst (v := nI 1) hx hb (dk kX1_init_ok 50 rfl) rfl ?_
            refine n_iadd hx hb (dk kX1_init_ok 51 rfl) ?_
            exact K87 _ (by rw [if_neg h2])
          · refine lv_iconst (v := -1) hx hb (dk kX1_init_ok 47 rfl) rfl ?_
            refine lv_goto (tgt := 87) hx hb (dk kX1_init_ok 48 rfl) (by decide) ?_
            exact K87 _ (by rw [if_pos h2])
        refine n_if_ne (tgt := 66) hx hb (by omega) (dk kX1_init_ok 34 rfl) (by decide) (fun h2 => ?_) (fun h2 => ?_)
        · refine lv_iload_n hx hb (dk kX1_init_ok 37 rfl) rfl (lv_at hl 1 rfl) ?_
          refine lv_iconst (v := nI 1) hx hb (dk kX1_init_ok 38 rfl) rfl ?_
          refine n_isub hx hb (by omega) (dk kX1_init_ok 39 rfl) ?_
          exact K69 _ (by rw [if_neg h2])
        · refine lv_iconst (v := -1) hx hb (dk kX1_init_ok 35 rfl) rfl ?_
          refine lv_goto (tgt := 69) hx hb (dk kX1_init_ok 36 rfl) (by decide) ?_
          exact K69 _ (by rw [if_pos h2])
  exact L30 17 0 _ _ hP hS (by omega) (by omega) ls (lv_sub hl [1, 0] rfl)
set_option maxRecDepth 100000 in
set_option maxHeartbeats 4000000 in
theorem tX4_init (l : Launch) (D : va_G) (cI cQ cL : ClassId) (b0 : Nat) (F : Nat → va_E) (k : Nat) (hF : F k = .inr (4, [.null, .null, .null, .null, .int (nI 0), .int (nI 0), .int (nI 0)])) : MK l yX4_init (Cond.code yX4_init cX4_init 1 none :: AW) ({ frames := 3, cells := 7, slots := 75, locals := 63 } : Room) D cI cQ cL b0 (k + 1) F (k) (k + 8) (w4N cI b0 F k) 7 75 := by
  refine mk_v (by decide +kernel) rfl (Nat.le_of_ble_eq_true rfl) rfl (fun p e s m below meth cd Q ls hx hb hml hown hts hin hsz hAO hP hK hNW hS hret hl => ?_)
  have hown : s.vm.findClass RX4 = some m.cls := hown
  have hb0 : b0 ≤ s.heap.size := by omega
  refine lv_aload_n hx hb (dk kX4_init_ok 0 rfl) rfl (lv_at hl 0 rfl) ?_
  refine W.objInit hx hb hown (hts _ (List.mem_cons_of_mem _ (ac4 _ (List.mem_of_getElem? (i := 0) rfl)))) (hts _ (List.mem_cons_of_mem _ (ac0 _ (List.mem_of_getElem? (i := 1) rfl)))) (hts _ (List.mem_cons_of_mem _ (ac0 _ (List.mem_of_getElem? (i := 2) rfl)))) rfl (by rw [hml]; exact hl.1) rfl (dk kX4_init_ok 1 rfl) (Nat.le_of_ble_eq_true rfl) (Nat.le_of_ble_eq_true rfl) ?_
  refine W.eq (g2 := F0 m 4 ls []) rfl ?_
  refine lv_aload_n hx hb (dk kX4_init_ok 2 rfl) rfl (lv_at hl 0 rfl) ?_
  refine nwO (ci := 1) hx hb hts (fun w h => List.mem_cons_of_mem _ (acX1 w h)) tyX1 tyX1_ok hown (hts _ (List.mem_cons_of_mem _ (ac4 _ (List.mem_of_getElem? (i := 1) rfl)))) (hts _ (List.mem_cons_of_mem _ (ac4 _ (List.mem_of_getElem? (i := 2) rfl)))) (hts _ (List.mem_cons_of_mem _ (ac1 _ (List.mem_of_getElem? (i := 14) rfl)))) hK hP hS hb0 (by omega) rfl ([.null, .null, .null]) (fun j hj => dv1 j hj) (Nat.le_of_ble_eq_true rfl) (Nat.le_of_ble_eq_true rfl) (dk kX4_init_ok 3 rfl) (fun H hP hS => ?_)
  refine lv_dup hx hb (dk kX4_init_ok 4 rfl) rfl ?_
  have hP : va_P D vwCl (iW (pb b0) (k + 2) (va_up F (k + 1) (.inr (1, [.null, .null, .null])))) H := hP
  refine cvK ⟨hx, hb, hml, hown, hts⟩ (tX1_init l D cI cQ cL b0 _ (k + 1) (va_up_self _ _ _)) (cwI9 hts mcX1_init (ac4 _ (List.mem_of_getElem? (i := 10) rfl)) miX1_init mini_RX1 rfl rfl rfl hdX1_init ⟨Nat.le_of_ble_eq_true rfl, Nat.le_of_ble_eq_true rfl⟩) hAO hK hP hNW hS (by omega) (by omega) hl.1 rfl (Nat.le_of_ble_eq_true rfl) ⟨Nat.le_of_ble_eq_true rfl, Nat.le_of_ble_eq_true rfl⟩ (dk kX4_init_ok 5 rfl) (fun H locs hP hS => ?_)
  rw [w1N_own] at hP
  have hP : va_P D vwCl (iW (pb b0) (k + 5) (w1N cI b0 F (k + 1))) H := hP
  refine pfF (va_up (w1N cI b0 F (k + 1)) k (.inr (4, [.ref (pb b0 (k + 1)), .null, .null, .null, .int (nI 0), .int (nI 0), .int (nI 0)]))) (ty := .object "SquopPiles$Mat") hx hb hts (fun w h => List.mem_cons_of_mem _ (acX4 w h)) tyX4 tyX4_ok nmX4 hown hK hP hS (k := k) (by omega) (by rw [w1N_at (by omega)]; exact hF) rfl 0 (by decide) (hts _ (List.mem_cons_of_mem _ (ac4 _ (List.mem_of_getElem? (i := 3) rfl)))) (fun _ h => h) rfl hin rfl (by decide +kernel) rfl rfl (Nat.le_of_ble_eq_true rfl) (dk kX4_init_ok 6 rfl) (rfl) (fun H locs hP hS => ?_)
  refine lv_aload_n hx hb (dk kX4_init_ok 7 rfl) rfl (lv_at hl 0 rfl) ?_
  refine lv_bipush (v := nI 16) hx hb (dk kX4_init_ok 8 rfl) rfl ?_
  refine nwI hx hb (hts _ (List.mem_cons_of_mem _ (ac0 _ (List.mem_of_getElem? (i := 3) rfl)))) hK hP hS hb0 (by omega) 16 rfl (by decide) (Nat.le_of_ble_eq_true rfl) (Nat.le_of_ble_eq_true rfl) (dk kX4_init_ok 9 rfl) (fun H hP hS => ?_)
  have hP : va_P D vwCl (iW (pb b0) (k + 6) (va_up (va_up (w1N cI b0 F (k + 1)) k (.inr (4, [.ref (pb b0 (k + 1)), .null, .null, .null, .int (nI 0), .int (nI 0), .int (nI 0)]))) (k + 5) (.inl (cI, 16, .inl (fun _ => 0))))) H := hP
  refine pfF (va_up (va_up (w1N cI b0 F (k + 1)) (k + 5) (.inl (cI, 16, .inl (fun _ => 0)))) k (.inr (4, [.ref (pb b0 (k + 1)), .ref (pb b0 (k + 5)), .null, .null, .int (nI 0), .int (nI 0), .int (nI 0)]))) (ty := .array .int) hx hb hts (fun w h => List.mem_cons_of_mem _ (acX4 w h)) tyX4 tyX4_ok nmX4 hown hK hP hS (k := k) (by omega) (upk (by omega)) rfl 1 (by decide) (hts _ (List.mem_cons_of_mem _ (ac4 _ (List.mem_of_getElem? (i := 4) rfl)))) (fun _ h => h) rfl hin rfl (by decide +kernel) rfl rfl (Nat.le_of_ble_eq_true rfl) (dk kX4_init_ok 10 rfl) (up3) (fun H locs hP hS => ?_)
  refine lv_aload_n hx hb (dk kX4_init_ok 11 rfl) rfl (lv_at hl 0 rfl) ?_
  refine lv_iconst (v := nI 4) hx hb (dk kX4_init_ok 12 rfl) rfl ?_
  refine nwI hx hb (hts _ (List.mem_cons_of_mem _ (ac0 _ (List.mem_of_getElem? (i := 3) rfl)))) hK hP hS hb0 (by omega) 4 rfl (by decide) (Nat.le_of_ble_eq_true rfl) (Nat.le_of_ble_eq_true rfl) (dk kX4_init_ok 13 rfl) (fun H hP hS => ?_)
  have hP : va_P D vwCl (iW (pb b0) (k + 7) (va_up (va_up (va_up (w1N cI b0 F (k + 1)) (k + 5) (.inl (cI, 16, .inl (fun _ => 0)))) k (.inr (4, [.ref (pb b0 (k + 1)), .ref (pb b0 (k + 5)), .null, .null, .int (nI 0), .int (nI 0), .int (nI 0)]))) (k + 6) (.inl (cI, 4, .inl (fun _ => 0))))) H := hP
  refine pfF (va_up (va_up (va_up (w1N cI b0 F (k + 1)) (k + 5) (.inl (cI, 16, .inl (fun _ => 0)))) (k + 6) (.inl (cI, 4, .inl (fun _ => 0)))) k (.inr (4, [.ref (pb b0 (k + 1)), .ref (pb b0 (k + 5)), .ref (pb b0 (k + 6)), .null, .int (nI 0), .int (nI 0), .int (nI 0)]))) (ty := .array .int) hx hb hts (fun w h => List.mem_cons_of_mem _ (acX4 w h)) tyX4 tyX4_ok nmX4 hown hK hP hS (k := k) (by omega) (upk (by omega)) rfl 2 (by decide) (hts _ (List.mem_cons_of_mem _ (ac4 _ (List.mem_of_getElem? (i := 5) rfl)))) (fun _ h => h) rfl hin rfl (by decide +kernel) rfl rfl (Nat.le_of_ble_eq_true rfl) (dk kX4_init_ok 14 rfl) (up3) (fun H locs hP hS => ?_)
  refine lv_aload_n hx hb (dk kX4_init_ok 15 rfl) rfl (lv_at hl 0 rfl) ?_
  refine lv_iconst (v := nI 4) hx hb (dk kX4_init_ok 16 rfl) rfl ?_
  refine nwI hx hb (hts _ (List.mem_cons_of_mem _ (ac0 _ (List.mem_of_getElem? (i := 3) rfl)))) hK hP hS hb0 (by omega) 4 rfl (by decide) (Nat.le_of_ble_eq_true rfl) (Nat.le_of_ble_eq_true rfl) (dk kX4_init_ok 17 rfl) (fun H hP hS => ?_)
  have hP : va_P D vwCl (iW (pb b0) (k + 8) (va_up (va_up (va_up (va_up (w1N cI b0 F (k + 1)) (k + 5) (.inl (cI, 16, .inl (fun _ => 0)))) (k + 6) (.inl (cI, 4, .inl (fun _ => 0)))) k (.inr (4, [.ref (pb b0 (k + 1)), .ref (pb b0 (k + 5)), .ref (pb b0 (k + 6)), .null, .int (nI 0), .int (nI 0), .int (nI 0)]))) (k + 7) (.inl (cI, 4, .inl (fun _ => 0))))) H := hP
  refine pfF (va_up (va_up (va_up (va_up (w1N cI b0 F (k + 1)) (k + 5) (.inl (cI, 16, .inl (fun _ => 0)))) (k + 6) (.inl (cI, 4, .inl (fun _ => 0)))) (k + 7) (.inl (cI, 4, .inl (fun _ => 0)))) k (.inr (4, [.ref (pb b0 (k + 1)), .ref (pb b0 (k + 5)), .ref (pb b0 (k + 6)), .ref (pb b0 (k + 7)), .int (nI 0), .int (nI 0), .int (nI 0)]))) (ty := .array .int) hx hb hts (fun w h => List.mem_cons_of_mem _ (acX4 w h)) tyX4 tyX4_ok nmX4 hown hK hP hS (k := k) (by omega) (upk (by omega)) rfl 3 (by decide) (hts _ (List.mem_cons_of_mem _ (ac4 _ (List.mem_of_getElem? (i := 6) rfl)))) (fun _ h => h) rfl hin rfl (by decide +kernel) rfl rfl (Nat.le_of_ble_eq_true rfl) (dk kX4_init_ok 18 rfl) (up3) (fun H locs hP hS => ?_)
  refine lv_aload_n hx hb (dk kX4_init_ok 19 rfl) rfl (lv_at hl 0 rfl) ?_
  refine lv_iconst (v := nI 0) hx hb (dk kX4_init_ok 20 rfl) rfl ?_
  refine pfA (va_up (va_up (va_up (va_up (w1N cI b0 F (k + 1)) (k + 5) (.inl (cI, 16, .inl (fun _ => 0)))) (k + 6) (.inl (cI, 4, .inl (fun _ => 0)))) (k + 7) (.inl (cI, 4, .inl (fun _ => 0)))) k (.inr (4, [.ref (pb b0 (k + 1)), .ref (pb b0 (k + 5)), .ref (pb b0 (k + 6)), .ref (pb b0 (k + 7)), .int (nI 0), .int (nI 0), .int (nI 0)]))) (ty := .int) hx hb hts (fun w h => List.mem_cons_of_mem _ (acX4 w h)) tyX4 tyX4_ok nmX4 hown hK hP hS (k := k) (by omega) (va_up_self _ _ _) rfl 4 (by decide) (hts _ (List.mem_cons_of_mem _ (ac4 _ (List.mem_of_getElem? (i := 7) rfl)))) (fun _ h => h) rfl (by decide +kernel) rfl rfl (Nat.le_of_ble_eq_true rfl) (dk kX4_init_ok 21 rfl) (bx_uu _ _ _ _) (fun H locs hP hS => ?_)
  refine lv_aload_n hx hb (dk kX4_init_ok 22 rfl) rfl (lv_at hl 0 rfl) ?_
  refine lv_iconst (v := nI 0) hx hb (dk kX4_init_ok 23 rfl) rfl ?_
  refine pfA (va_up (va_up (va_up (va_up (w1N cI b0 F (k + 1)) (k + 5) (.inl (cI, 16, .inl (fun _ => 0)))) (k + 6) (.inl (cI, 4, .inl (fun _ => 0)))) (k + 7) (.inl (cI, 4, .inl (fun _ => 0)))) k (.inr (4, [.ref (pb b0 (k + 1)), .ref (pb b0 (k + 5)), .ref (pb b0 (k + 6)), .ref (pb b0 (k + 7)), .int (nI 0), .int (nI 0), .int (nI 0)]))) (ty := .int) hx hb hts (fun w h => List.mem_cons_of_mem _ (acX4 w h)) tyX4 tyX4_ok nmX4 hown hK hP hS (k := k) (by omega) (va_up_self _ _ _) rfl 5 (by decide) (hts _ (List.mem_cons_of_mem _ (ac4 _ (List.mem_of_getElem? (i := 8) rfl)))) (fun _ h => h) rfl (by decide +kernel) rfl rfl (Nat.le_of_ble_eq_true rfl) (dk kX4_init_ok 24 rfl) (bx_uu _ _ _ _) (fun H locs hP hS => ?_)
  refine lv_aload_n hx hb (dk kX4_init_ok 25 rfl) rfl (lv_at hl 0 rfl) ?_
  refine lv_iconst (v := nI 3) hx hb (dk kX4_init_ok 26 rfl) rfl ?_
  refine pfA (w4N cI b0 F k) (ty := .int) hx hb hts (fun w h => List.mem_cons_of_mem _ (acX4 w h)) tyX4 tyX4_ok nmX4 hown hK hP hS (k := k) (by omega) (va_up_self _ _ _) rfl 6 (by decide) (hts _ (List.mem_cons_of_mem _ (ac4 _ (List.mem_of_getElem? (i := 9) rfl)))) (fun _ h => h) rfl (by decide +kernel) rfl rfl (Nat.le_of_ble_eq_true rfl) (dk kX4_init_ok 27 rfl) (bx_uu _ _ _ _) (fun H locs hP hS => ?_)
  exact hret _ _ _ _ hP hS (dk kX4_init_ok 28 rfl)
def w2F (cI cQ : ClassId) (b0 : Nat) (F : Nat → va_E) (k : Nat) : Nat → va_E := va_up (w2R cI b0 F k 6) (k + 1) (.inl (cQ, 6, .inr (.inr (.inr (.inr (fun j => some (pb b0 (k + 2 + 8 * j))))))))
set_option maxRecDepth 100000 in
set_option maxHeartbeats 4000000 in
theorem tX2_init (l : Launch) (D : va_G) (cI cQ cL : ClassId) (b0 : Nat) (F : Nat → va_E) (k : Nat) (hF : F k = .inr (2, [.null, .int (nI 0), .int (nI 0)])) : MK l yX2_init (Cond.code yX2_init cX2_init 2 none :: AW) ({ frames := 4, cells := 49, slots := 498, locals := 83 } : Room) D cI cQ cL b0 (k + 1) F (k) (k + 50) (w2F cI cQ b0 F k) 49 498 := by
  refine mk_v (by decide +kernel) rfl (Nat.le_of_ble_eq_true rfl) rfl (fun p e s m below meth cd Q ls hx hb hml hown hts hin hsz hAO hP hK hNW hS hret hl => ?_)
  have hown : s.vm.findClass RX2 = some m.cls := hown
  have hb0 : b0 ≤ s.heap.size := by omega
  refine lv_aload_n hx hb (dk kX2_init_ok 0 rfl) rfl (lv_at hl 0 rfl) ?_
  refine W.objInit hx hb hown (hts _ (List.mem_cons_of_mem _ (ac4 _ (List.mem_of_getElem? (i := 13) rfl)))) (hts _ (List.mem_cons_of_mem _ (ac0 _ (List.mem_of_getElem? (i := 1) rfl)))) (hts _ (List.mem_cons_of_mem _ (ac0 _ (List.mem_of_getElem? (i := 2) rfl)))) rfl (by rw [hml]; exact hl.1) rfl (dk kX2_init_ok 1 rfl) (Nat.le_of_ble_eq_true rfl) (Nat.le_of_ble_eq_true rfl) ?_
  refine W.eq (g2 := F0 m 4 ls []) rfl ?_
  refine lv_aload_n hx hb (dk kX2_init_ok 2 rfl) rfl (lv_at hl 0 rfl) ?_
  refine lv_bipush (v := nI 6) hx hb (dk kX2_init_ok 3 rfl) rfl ?_
  refine nwQ hx hb hown (hts _ (List.mem_cons_of_mem _ (ac4 _ (List.mem_of_getElem? (i := 14) rfl)))) hAO hK hP hS hb0 (by omega) 6 rfl (by decide) (Nat.le_of_ble_eq_true rfl) (Nat.le_of_ble_eq_true rfl) (dk kX2_init_ok 4 rfl) (fun H hP hS => ?_)
  have hP : va_P D vwCl (iW (pb b0) (k + 2) (va_up F (k + 1) (.inl (cQ, 6, .inr (.inr (.inr (.inr (fun _ => none)))))))) H := hP
  refine pfF (va_up (va_up F (k + 1) (.inl (cQ, 6, .inr (.inr (.inr (.inr (fun _ => none))))))) k (.inr (2, [.ref (pb b0 (k + 1)), .int (nI 0), .int (nI 0)]))) (ty := .array (.object "SquopPiles$State")) hx hb hts (fun w h => List.mem_cons_of_mem _ (acX2 w h)) tyX2 tyX2_ok nmX2 hown hK hP hS (k := k) (by omega) (by rw [va_up_ne _ _ (by omega)]; exact hF) rfl 0 (by decide) (hts _ (List.mem_cons_of_mem _ (ac4 _ (List.mem_of_getElem? (i := 15) rfl)))) (fun _ h => h) rfl hin rfl (by decide +kernel) rfl rfl (Nat.le_of_ble_eq_true rfl) (dk kX2_init_ok 5 rfl) (rfl) (fun H locs hP hS => ?_)
  refine lv_aload_n hx hb (dk kX2_init_ok 6 rfl) rfl (lv_at hl 0 rfl) ?_
  refine lv_iconst (v := nI 0) hx hb (dk kX2_init_ok 7 rfl) rfl ?_
  refine pfA (va_up (va_up F (k + 1) (.inl (cQ, 6, .inr (.inr (.inr (.inr (fun _ => none))))))) k (.inr (2, [.ref (pb b0 (k + 1)), .int (nI 0), .int (nI 0)]))) (ty := .int) hx hb hts (fun w h => List.mem_cons_of_mem _ (acX2 w h)) tyX2 tyX2_ok nmX2 hown hK hP hS (k := k) (by omega) (va_up_self _ _ _) rfl 1 (by decide) (hts _ (List.mem_cons_of_mem _ (ac4 _ (List.mem_of_getElem? (i := 16) rfl)))) (fun _ h => h) rfl (by decide +kernel) rfl rfl (Nat.le_of_ble_eq_true rfl) (dk kX2_init_ok 8 rfl) (bx_uu _ _ _ _) (fun H locs hP hS => ?_)
  refine lv_aload_n hx hb (dk kX2_init_ok 9 rfl) rfl (lv_at hl 0 rfl) ?_
  refine lv_iconst (v := nI 0) hx hb (dk kX2_init_ok 10 rfl) rfl ?_
  refine pfA (va_up (va_up F (k + 1) (.inl (cQ, 6, .inr (.inr (.inr (.inr (fun _ => none))))))) k (.inr (2, [.ref (pb b0 (k + 1)), .int (nI 0), .int (nI 0)]))) (ty := .int) hx hb hts (fun w h => List.mem_cons_of_mem _ (acX2 w h)) tyX2 tyX2_ok nmX2 hown hK hP hS (k := k) (by omega) (va_up_self _ _ _) rfl 2 (by decide) (hts _ (List.mem_cons_of_mem _ (ac4 _ (List.mem_of_getElem? (i := 17) rfl)))) (fun _ h => h) rfl (by decide +kernel) rfl rfl (Nat.le_of_ble_eq_true rfl) (dk kX2_init_ok 11 rfl) (bx_uu _ _ _ _) (fun H locs hP hS => ?_)
  have hP : va_P D vwCl (iW (pb b0) (k + 2 + 8 * 0) (w2N cI cQ b0 F k 0)) H := by
    have e9 : w2A b0 k 0 = fun _ => none := by funext j; simp [w2A]
    rw [w2N, w2R, e9, ← up_sw (by omega)]
    exact hP
  refine lv_iconst (v := nI 0) hx hb (dk kX2_init_ok 12 rfl) rfl ?_
  refine lv_istore_n (lv' := [(1, .int (nI 0)), (0, .ref (pb b0 k))]) hx hb (dk kX2_init_ok 13 rfl) rfl hl (by decide) rfl (fun ls hl => ?_)
  have L25 : ∀ (fu i : Nat) (H : Heap) (locs : List Loc), va_P D vwCl (iW (pb b0) (k + 2 + 8 * i) (w2N cI cQ b0 F k i)) H → va_S (bA b0) s.heap H locs → i ≤ 6 → 6 - i < fu → ∀ ls : Array Slot, lv_has ls 2 [(0, .ref (pb b0 k)), (1, .int (nI i))] → W p l e ({ frames := 4, cells := 49, slots := 498, locals := 83 } : Room) s m #[.ref (pb b0 k)] below meth cd H locs (1 + 8 * i) (6 + 82 * i) Q (F0 m 25 ls []) := by
    intro fu
    induction fu with
    | zero => intros; omega
    | succ fu ih =>
      intro i H locs hP hS hi hm ls hl
      refine lv_iload_n hx hb (dk kX2_init_ok 14 rfl) rfl (lv_at hl 1 rfl) ?_
      refine lv_bipush (v := nI 6) hx hb (dk kX2_init_ok 15 rfl) rfl ?_
      refine n_icmp_ge (tgt := 50) hx hb (by omega) (by decide) (dk kX2_init_ok 16 rfl) (by decide) (fun h1 => ?_) (fun h1 => ?_)
      · have e9 : i = 6 := by omega
        subst e9
        have hP := iW_extq (g := fun j => some (pb b0 (k + 2 + 8 * j))) hP (fun j hj => if_pos hj)
        exact hret _ _ _ _ hP hS (dk kX2_init_ok 26 rfl)
      · refine lv_aload_n hx hb (dk kX2_init_ok 17 rfl) rfl (lv_at hl 0 rfl) ?_
        refine gf hx hb hts (fun w h => List.mem_cons_of_mem _ (acX2 w h)) hown hK hP (by omega) (by rw [w2N, va_up_ne _ _ (by omega)]; exact w2R_self i) rfl 0 (by decide) (hts _ (List.mem_cons_of_mem _ (ac4 _ (List.mem_of_getElem? (i := 15) rfl)))) (fun _ h => h) rfl (dk kX2_init_ok 18 rfl) ?_
        refine lv_iload_n hx hb (dk kX2_init_ok 19 rfl) rfl (lv_at hl 1 rfl) ?_
        refine nwO (ci := 4) hx hb hts (fun w h => List.mem_cons_of_mem _ (acX4 w h)) tyX4 tyX4_ok hown (hts _ (List.mem_cons_of_mem _ (ac4 _ (List.mem_of_getElem? (i := 14) rfl)))) (hts _ (List.mem_cons_of_mem _ (ac4 _ (List.mem_of_getElem? (i := 18) rfl)))) (hts _ (List.mem_cons_of_mem _ (ac4 _ (List.mem_of_getElem? (i := 19) rfl)))) hK hP hS hb0 (by omega) rfl [.null, .null, .null, .null, .int (nI 0), .int (nI 0), .int (nI 0)] (fun j hj => dv4 j hj) (by show 1 + 8 * i + 1 ≤ 49; omega) (by show 6 + 82 * i + 7 ≤ 498; omega) (dk kX2_init_ok 20 rfl) (fun H hP hS => ?_)
        refine lv_dup hx hb (dk kX2_init_ok 21 rfl) rfl ?_
        refine cvKN ⟨hx, hb, hml, hown, hts⟩ (tX4_init l D cI cQ cL b0 _ (k + 2 + 8 * i) (va_up_self _ _ _)) (cwIN9 hts mcX4_init (nm3 hNW) miX4_init mini_RX4 rfl rfl rfl hdX4_init ⟨Nat.le_of_ble_eq_true rfl, Nat.le_of_ble_eq_true rfl⟩) hAO hK hP hNW hS (by omega) (by omega) hl.1 rfl (Nat.le_of_ble_eq_true rfl) ⟨by show 1 + 8 * i + 1 + 7 ≤ 49; omega, by show 6 + 82 * i + 7 + 75 ≤ 498; omega⟩ (dk kX2_init_ok 22 rfl) (fun H locs hP hS => ?_)
        refine astQ (w2N cI cQ b0 F k (i + 1)) (j := i) (v := k + 2 + 8 * i) (k := k + 1) hx hb hK hP hS (by omega) (by rw [w4N_own, w4N_at (by omega), w2N, va_up_self]) (by omega) (by rw [w4N, va_up_self]) rfl (by omega) (by decide) (dk kX2_init_ok 23 rfl) w2_step (fun H locs hP hS => ?_)
        refine lv_iinc (v := nI (i + 1)) (lv' := [(1, .int (nI (i + 1))), (0, .ref (pb b0 k))]) hx hb (dk kX2_init_ok 24 rfl) hl (k := 1) rfl (n_inc _) (by decide) rfl (fun ls hl => ?_)
        refine lv_goto (tgt := 25) hx hb (dk kX2_init_ok 25 rfl) (by decide) ?_
        have hP : va_P D vwCl (iW (pb b0) (k + 2 + 8 * (i + 1)) (w2N cI cQ b0 F k (i + 1))) H := by
          rw [show k + 2 + 8 * (i + 1) = k + 2 + 8 * i + 8 by omega]
          exact hP
        have G := ih (i + 1) _ _ hP hS (by omega) (by omega) ls (lv_sub hl [1, 0] rfl)
        rw [show 1 + 8 * (i + 1) = 1 + 8 * i + 1 + 7 by omega, show 6 + 82 * (i + 1) = 6 + 82 * i + 7 + 75 by omega] at G
        exact G
  exact L25 7 0 _ _ hP hS (by omega) (by omega) ls (lv_sub hl [1, 0] rfl)
end
/-! from makes2 -/
section
theorem w2F_own {cI cQ : ClassId} {b0 : Nat} {F : Nat → va_E} {k : Nat} {e : va_E} : w2F cI cQ b0 (va_up F k e) k = w2F cI cQ b0 F k := by rw [w2F, w2F, w2R_own]
theorem w2F_up {cI cQ : ClassId} {b0 : Nat} {A : Nat → va_E} {k n : Nat} {e0 e1 : va_E} (h : k < n) : va_up (w2F cI cQ b0 (va_up A k e0) n) k e1 = va_up (w2F cI cQ b0 A n) k e1 := by
  rw [w2F, w2F, up_sw (k := k) (n := n + 1) (by omega), up_sw (k := k) (n := n + 1) (by omega), w2R_up h]
theorem w2F_at {cI cQ : ClassId} {b0 : Nat} {A : Nat → va_E} {k n : Nat} (h : k < n ∨ n + 49 < k) : w2F cI cQ b0 A n k = A k := by
  rw [w2F, va_up_ne _ _ (by omega), w2R_at 6 (by omega)]
def w5A (cI cQ : ClassId) (b0 : Nat) (F : Nat → va_E) : Nat → va_E := w3N cI b0 (w1N cI b0 (w0N cI b0 (w2F cI cQ b0 (w4N cI b0 (w4N cI b0 F 1) 9) 17) 67) 69) 73
def w5N (cI cQ : ClassId) (b0 : Nat) (F : Nat → va_E) : Nat → va_E := va_up (w5A cI cQ b0 F) 0 (.inr (5, [.ref (pb b0 1), .ref (pb b0 9), .ref (pb b0 17), .ref (pb b0 67), .ref (pb b0 69), .ref (pb b0 73), .int (bI false)]))
/-- the reference's row as it is made -/
def rI (i i2 : Nat) : Nat → Int32 := fun j => if j < i then nI (bs (j / 4)) else if 16 ≤ j ∧ j < 16 + i2 then nI ((j - 16) % 4) else 0
theorem rI_c {i : Nat} (hi : i < 16) : upd (rI i i) (0 + i) (nI (bs (i / 4))) = rI (i + 1) i := by
  funext j
  unfold upd rI
  by_cases h : j = 0 + i
  · rw [if_pos h, if_pos (show j < i + 1 by omega), show j = i by omega]
  · rw [if_neg h]
    by_cases h2 : j < i
    · rw [if_pos h2, if_pos (show j < i + 1 by omega)]
    · rw [if_neg h2, if_neg (show ¬ j < i + 1 by omega)]
theorem rI_p {i : Nat} (hi : i < 16) : upd (rI (i + 1) i) (16 + i) (nI (i % 4)) = rI (i + 1) (i + 1) := by
  funext j
  unfold upd rI
  by_cases h : j = 16 + i
  · rw [if_pos h, if_neg (show ¬ j < i + 1 by omega), if_pos (show 16 ≤ j ∧ j < 16 + (i + 1) by omega), show j - 16 = i by omega]
  · rw [if_neg h]
    by_cases h2 : j < i + 1
    · rw [if_pos h2, if_pos h2]
    · rw [if_neg h2, if_neg h2]
      by_cases h3 : 16 ≤ j ∧ j < 16 + i
      · rw [if_pos h3, if_pos (show 16 ≤ j ∧ j < 16 + (i + 1) by omega)]
      · rw [if_neg h3, if_neg (show ¬ (16 ≤ j ∧ j < 16 + (i + 1)) by omega)]
theorem rI_0 : rI 0 0 = fun _ => 0 := by
  funext j
  unfold rI
  rw [if_neg (by omega), if_neg (by omega)]
def z0 : Nat → Int32 := fun _ => 0
def row0 : Nat → Int32 := upd (rI 16 16) 57 (nI 3)
def w6W (cI : ClassId) (b0 : Nat) (F : Nat → va_E) (k : Nat) (r : Nat → Int32) : Nat → va_E := rfSet cI (pb b0) F k r z0 z0 z0 z0 z0 z0 false 0 0 0 (nI 0)
set_option maxRecDepth 100000 in
set_option maxHeartbeats 4000000 in
theorem tX5_init (l : Launch) (D : va_G) (cI cQ cL : ClassId) (b0 : Nat) (F : Nat → va_E) (hF : F 0 = .inr (5, [.null, .null, .null, .null, .null, .null, .int (bI false)])) : MK l yX5_init (Cond.code yX5_init cX5_init 1 none :: AW) ({ frames := 5, cells := 76, slots := 1457, locals := 104 } : Room) D cI cQ cL b0 (0 + 1) F (0) (77) (w5N cI cQ b0 F) 76 1457 := by
  refine mk_v (by decide +kernel) rfl (Nat.le_of_ble_eq_true rfl) rfl (fun p e s m below meth cd Q ls hx hb hml hown hts hin hsz hAO hP hK hNW hS hret hl => ?_)
  have hown : s.vm.findClass RX5 = some m.cls := hown
  have hb0 : b0 ≤ s.heap.size := by omega
  refine lv_aload_n hx hb (dk kX5_init_ok 0 rfl) rfl (lv_at hl 0 rfl) ?_
  refine W.objInit hx hb hown (hts _ (List.mem_cons_of_mem _ (ac7 _ (List.mem_of_getElem? (i := 19) rfl)))) (hts _ (List.mem_cons_of_mem _ (ac0 _ (List.mem_of_getElem? (i := 1) rfl)))) (hts _ (List.mem_cons_of_mem _ (ac0 _ (List.mem_of_getElem? (i := 2) rfl)))) rfl (by rw [hml]; exact hl.1) rfl (dk kX5_init_ok 1 rfl) (Nat.le_of_ble_eq_true rfl) (Nat.le_of_ble_eq_true rfl) ?_
  refine W.eq (g2 := F0 m 4 ls []) rfl ?_
  refine lv_aload_n hx hb (dk kX5_init_ok 2 rfl) rfl (lv_at hl 0 rfl) ?_
  refine nwO (ci := 4) hx hb hts (fun w h => List.mem_cons_of_mem _ (acX4 w h)) tyX4 tyX4_ok hown (hts _ (List.mem_cons_of_mem _ (ac7 _ (List.mem_of_getElem? (i := 20) rfl)))) (hts _ (List.mem_cons_of_mem _ (ac4 _ (List.mem_of_getElem? (i := 18) rfl)))) (hts _ (List.mem_cons_of_mem _ (ac4 _ (List.mem_of_getElem? (i := 19) rfl)))) hK hP hS hb0 (by omega) rfl ([.null, .null, .null, .null, .int (nI 0), .int (nI 0), .int (nI 0)]) (fun j hj => dv4 j hj) (Nat.le_of_ble_eq_true rfl) (Nat.le_of_ble_eq_true rfl) (dk kX5_init_ok 3 rfl) (fun H hP hS => ?_)
  refine lv_dup hx hb (dk kX5_init_ok 4 rfl) rfl ?_
  have hP : va_P D vwCl (iW (pb b0) (2) (va_up (F) 1 (.inr (4, [.null, .null, .null, .null, .int (nI 0), .int (nI 0), .int (nI 0)])))) H := hP
  refine cvKN ⟨hx, hb, hml, hown, hts⟩ (tX4_init l D cI cQ cL b0 _ 1 (va_up_self _ _ _)) (cwIN9 hts mcX4_init (nm0 hNW) miX4_init mini_RX4 rfl rfl rfl hdX4_init ⟨Nat.le_of_ble_eq_true rfl, Nat.le_of_ble_eq_true rfl⟩) hAO hK hP hNW hS (by omega) (by omega) hl.1 rfl (Nat.le_of_ble_eq_true rfl) ⟨Nat.le_of_ble_eq_true rfl, Nat.le_of_ble_eq_true rfl⟩ (dk kX5_init_ok 5 rfl) (fun H locs hP hS => ?_)
  rw [w4N_own] at hP
  have hP : va_P D vwCl (iW (pb b0) (9) (w4N cI b0 (F) 1)) H := hP
  refine pfF (va_up (w4N cI b0 (F) 1) 0 (.inr (5, [.ref (pb b0 1), .null, .null, .null, .null, .null, .int (bI false)]))) (ty := .object "SquopPiles$State") hx hb hts (fun w h => List.mem_cons_of_mem _ (acX5 w h)) tyX5 tyX5_ok nmX5 hown hK hP hS (k := 0) (by omega) (by rw [w4N_at (k := 0) (n := 1) (Or.inl (by decide))]; exact hF) rfl 0 (by decide) (hts _ (List.mem_cons_of_mem _ (ac7 _ (List.mem_of_getElem? (i := 21) rfl)))) (fun _ h => h) rfl hin rfl (by decide +kernel) rfl rfl (Nat.le_of_ble_eq_true rfl) (dk kX5_init_ok 6 rfl) (rfl) (fun H locs hP hS => ?_)
  refine lv_aload_n hx hb (dk kX5_init_ok 7 rfl) rfl (lv_at hl 0 rfl) ?_
  refine nwO (ci := 4) hx hb hts (fun w h => List.mem_cons_of_mem _ (acX4 w h)) tyX4 tyX4_ok hown (hts _ (List.mem_cons_of_mem _ (ac7 _ (List.mem_of_getElem? (i := 20) rfl)))) (hts _ (List.mem_cons_of_mem _ (ac4 _ (List.mem_of_getElem? (i := 18) rfl)))) (hts _ (List.mem_cons_of_mem _ (ac4 _ (List.mem_of_getElem? (i := 19) rfl)))) hK hP hS hb0 (by omega) rfl ([.null, .null, .null, .null, .int (nI 0), .int (nI 0), .int (nI 0)]) (fun j hj => dv4 j hj) (Nat.le_of_ble_eq_true rfl) (Nat.le_of_ble_eq_true rfl) (dk kX5_init_ok 8 rfl) (fun H hP hS => ?_)
  refine lv_dup hx hb (dk kX5_init_ok 9 rfl) rfl ?_
  have hP : va_P D vwCl (iW (pb b0) (10) (va_up (va_up (w4N cI b0 (F) 1) 0 (.inr (5, [.ref (pb b0 1), .null, .null, .null, .null, .null, .int (bI false)]))) 9 (.inr (4, [.null, .null, .null, .null, .int (nI 0), .int (nI 0), .int (nI 0)])))) H := hP
  refine cvKN ⟨hx, hb, hml, hown, hts⟩ (tX4_init l D cI cQ cL b0 _ 9 (va_up_self _ _ _)) (cwIN9 hts mcX4_init (nm0 hNW) miX4_init mini_RX4 rfl rfl rfl hdX4_init ⟨Nat.le_of_ble_eq_true rfl, Nat.le_of_ble_eq_true rfl⟩) hAO hK hP hNW hS (by omega) (by omega) hl.1 rfl (Nat.le_of_ble_eq_true rfl) ⟨Nat.le_of_ble_eq_true rfl, Nat.le_of_ble_eq_true rfl⟩ (dk kX5_init_ok 10 rfl) (fun H locs hP hS => ?_)
  rw [w4N_own] at hP
  have hP : va_P D vwCl (iW (pb b0) (17) (w4N cI b0 (va_up (w4N cI b0 (F) 1) 0 (.inr (5, [.ref (pb b0 1), .null, .null, .null, .null, .null, .int (bI false)]))) 9)) H := hP
  refine pfF (va_up (w4N cI b0 (w4N cI b0 (F) 1) 9) 0 (.inr (5, [.ref (pb b0 1), .ref (pb b0 9), .null, .null, .null, .null, .int (bI false)]))) (ty := .object "SquopPiles$State") hx hb hts (fun w h => List.mem_cons_of_mem _ (acX5 w h)) tyX5 tyX5_ok nmX5 hown hK hP hS (k := 0) (by omega) (by rw [w4N_at (k := 0) (n := 9) (Or.inl (by decide))]; exact va_up_self _ _ _) rfl 1 (by decide) (hts _ (List.mem_cons_of_mem _ (ac7 _ (List.mem_of_getElem? (i := 22) rfl)))) (fun _ h => h) rfl hin rfl (by decide +kernel) rfl rfl (Nat.le_of_ble_eq_true rfl) (dk kX5_init_ok 11 rfl) (w4N_up (k := 0) (n := 9) (by decide)) (fun H locs hP hS => ?_)
  refine lv_aload_n hx hb (dk kX5_init_ok 12 rfl) rfl (lv_at hl 0 rfl) ?_
  refine nwO (ci := 2) hx hb hts (fun w h => List.mem_cons_of_mem _ (acX2 w h)) tyX2 tyX2_ok hown (hts _ (List.mem_cons_of_mem _ (ac7 _ (List.mem_of_getElem? (i := 23) rfl)))) (hts _ (List.mem_cons_of_mem _ (ac8 _ (List.mem_of_getElem? (i := 0) rfl)))) (hts _ (List.mem_cons_of_mem _ (ac8 _ (List.mem_of_getElem? (i := 1) rfl)))) hK hP hS hb0 (by omega) rfl ([.null, .int (nI 0), .int (nI 0)]) (fun j hj => dv2 j hj) (Nat.le_of_ble_eq_true rfl) (Nat.le_of_ble_eq_true rfl) (dk kX5_init_ok 13 rfl) (fun H hP hS => ?_)
  refine lv_dup hx hb (dk kX5_init_ok 14 rfl) rfl ?_
  have hP : va_P D vwCl (iW (pb b0) (18) (va_up (va_up (w4N cI b0 (w4N cI b0 (F) 1) 9) 0 (.inr (5, [.ref (pb b0 1), .ref (pb b0 9), .null, .null, .null, .null, .int (bI false)]))) 17 (.inr (2, [.null, .int (nI 0), .int (nI 0)])))) H := hP
  refine cvK ⟨hx, hb, hml, hown, hts⟩ (tX2_init l D cI cQ cL b0 _ 17 (va_up_self _ _ _)) (cwI9 hts mcX2_init (ac8 _ (List.mem_of_getElem? (i := 12) rfl)) miX2_init mini_RX2 rfl rfl rfl hdX2_init ⟨Nat.le_of_ble_eq_true rfl, Nat.le_of_ble_eq_true rfl⟩) hAO hK hP hNW hS (by omega) (by omega) hl.1 rfl (Nat.le_of_ble_eq_true rfl) ⟨Nat.le_of_ble_eq_true rfl, Nat.le_of_ble_eq_true rfl⟩ (dk kX5_init_ok 15 rfl) (fun H locs hP hS => ?_)
  rw [w2F_own] at hP
  have hP : va_P D vwCl (iW (pb b0) (67) (w2F cI cQ b0 (va_up (w4N cI b0 (w4N cI b0 (F) 1) 9) 0 (.inr (5, [.ref (pb b0 1), .ref (pb b0 9), .null, .null, .null, .null, .int (bI false)]))) 17)) H := hP
  refine pfF (va_up (w2F cI cQ b0 (w4N cI b0 (w4N cI b0 (F) 1) 9) 17) 0 (.inr (5, [.ref (pb b0 1), .ref (pb b0 9), .ref (pb b0 17), .null, .null, .null, .int (bI false)]))) (ty := .object "SquopPiles$Past") hx hb hts (fun w h => List.mem_cons_of_mem _ (acX5 w h)) tyX5 tyX5_ok nmX5 hown hK hP hS (k := 0) (by omega) (by rw [w2F_at (k := 0) (n := 17) (Or.inl (by decide))]; exact va_up_self _ _ _) rfl 2 (by decide) (hts _ (List.mem_cons_of_mem _ (ac8 _ (List.mem_of_getElem? (i := 2) rfl)))) (fun _ h => h) rfl hin rfl (by decide +kernel) rfl rfl (Nat.le_of_ble_eq_true rfl) (dk kX5_init_ok 16 rfl) (w2F_up (k := 0) (n := 17) (by decide)) (fun H locs hP hS => ?_)
  refine lv_aload_n hx hb (dk kX5_init_ok 17 rfl) rfl (lv_at hl 0 rfl) ?_
  refine nwO (ci := 0) hx hb hts (fun w h => List.mem_cons_of_mem _ (acX0 w h)) tyX0 tyX0_ok hown (hts _ (List.mem_cons_of_mem _ (ac8 _ (List.mem_of_getElem? (i := 3) rfl)))) (hts _ (List.mem_cons_of_mem _ (ac8 _ (List.mem_of_getElem? (i := 4) rfl)))) (hts _ (List.mem_cons_of_mem _ (ac0 _ (List.mem_of_getElem? (i := 8) rfl)))) hK hP hS hb0 (by omega) rfl ([.null, .int (nI 0)]) (fun j hj => dv0 j hj) (Nat.le_of_ble_eq_true rfl) (Nat.le_of_ble_eq_true rfl) (dk kX5_init_ok 18 rfl) (fun H hP hS => ?_)
  refine lv_dup hx hb (dk kX5_init_ok 19 rfl) rfl ?_
  have hP : va_P D vwCl (iW (pb b0) (68) (va_up (va_up (w2F cI cQ b0 (w4N cI b0 (w4N cI b0 (F) 1) 9) 17) 0 (.inr (5, [.ref (pb b0 1), .ref (pb b0 9), .ref (pb b0 17), .null, .null, .null, .int (bI false)]))) 67 (.inr (0, [.null, .int (nI 0)])))) H := hP
  refine cvKN ⟨hx, hb, hml, hown, hts⟩ (tX0_init l D cI cQ cL b0 _ 67 (va_up_self _ _ _)) (cwIN9 hts mcX0_init (nm4 hNW) miX0_init mini_RX0 rfl rfl rfl hdX0_init ⟨Nat.le_of_ble_eq_true rfl, Nat.le_of_ble_eq_true rfl⟩) hAO hK hP hNW hS (by omega) (by omega) hl.1 rfl (Nat.le_of_ble_eq_true rfl) ⟨Nat.le_of_ble_eq_true rfl, Nat.le_of_ble_eq_true rfl⟩ (dk kX5_init_ok 20 rfl) (fun H locs hP hS => ?_)
  rw [w0N_own] at hP
  have hP : va_P D vwCl (iW (pb b0) (69) (w0N cI b0 (va_up (w2F cI cQ b0 (w4N cI b0 (w4N cI b0 (F) 1) 9) 17) 0 (.inr (5, [.ref (pb b0 1), .ref (pb b0 9), .ref (pb b0 17), .null, .null, .null, .int (bI false)]))) 67)) H := hP
  refine pfF (va_up (w0N cI b0 (w2F cI cQ b0 (w4N cI b0 (w4N cI b0 (F) 1) 9) 17) 67) 0 (.inr (5, [.ref (pb b0 1), .ref (pb b0 9), .ref (pb b0 17), .ref (pb b0 67), .null, .null, .int (bI false)]))) (ty := .object "SquopPiles$GameText") hx hb hts (fun w h => List.mem_cons_of_mem _ (acX5 w h)) tyX5 tyX5_ok nmX5 hown hK hP hS (k := 0) (by omega) (by rw [w0N_at (k := 0) (n := 67) (Or.inl (by decide))]; exact va_up_self _ _ _) rfl 3 (by decide) (hts _ (List.mem_cons_of_mem _ (ac8 _ (List.mem_of_getElem? (i := 5) rfl)))) (fun _ h => h) rfl hin rfl (by decide +kernel) rfl rfl (Nat.le_of_ble_eq_true rfl) (dk kX5_init_ok 21 rfl) (w0N_up (k := 0) (n := 67) (by decide)) (fun H locs hP hS => ?_)
  refine lv_aload_n hx hb (dk kX5_init_ok 22 rfl) rfl (lv_at hl 0 rfl) ?_
  refine nwO (ci := 1) hx hb hts (fun w h => List.mem_cons_of_mem _ (acX1 w h)) tyX1 tyX1_ok hown (hts _ (List.mem_cons_of_mem _ (ac8 _ (List.mem_of_getElem? (i := 6) rfl)))) (hts _ (List.mem_cons_of_mem _ (ac4 _ (List.mem_of_getElem? (i := 2) rfl)))) (hts _ (List.mem_cons_of_mem _ (ac1 _ (List.mem_of_getElem? (i := 14) rfl)))) hK hP hS hb0 (by omega) rfl ([.null, .null, .null]) (fun j hj => dv1 j hj) (Nat.le_of_ble_eq_true rfl) (Nat.le_of_ble_eq_true rfl) (dk kX5_init_ok 23 rfl) (fun H hP hS => ?_)
  refine lv_dup hx hb (dk kX5_init_ok 24 rfl) rfl ?_
  have hP : va_P D vwCl (iW (pb b0) (70) (va_up (va_up (w0N cI b0 (w2F cI cQ b0 (w4N cI b0 (w4N cI b0 (F) 1) 9) 17) 67) 0 (.inr (5, [.ref (pb b0 1), .ref (pb b0 9), .ref (pb b0 17), .ref (pb b0 67), .null, .null, .int (bI false)]))) 69 (.inr (1, [.null, .null, .null])))) H := hP
  refine cvK ⟨hx, hb, hml, hown, hts⟩ (tX1_init l D cI cQ cL b0 _ 69 (va_up_self _ _ _)) (cwI9 hts mcX1_init (ac8 _ (List.mem_of_getElem? (i := 17) rfl)) miX1_init mini_RX1 rfl rfl rfl hdX1_init ⟨Nat.le_of_ble_eq_true rfl, Nat.le_of_ble_eq_true rfl⟩) hAO hK hP hNW hS (by omega) (by omega) hl.1 rfl (Nat.le_of_ble_eq_true rfl) ⟨Nat.le_of_ble_eq_true rfl, Nat.le_of_ble_eq_true rfl⟩ (dk kX5_init_ok 25 rfl) (fun H locs hP hS => ?_)
  rw [w1N_own] at hP
  have hP : va_P D vwCl (iW (pb b0) (73) (w1N cI b0 (va_up (w0N cI b0 (w2F cI cQ b0 (w4N cI b0 (w4N cI b0 (F) 1) 9) 17) 67) 0 (.inr (5, [.ref (pb b0 1), .ref (pb b0 9), .ref (pb b0 17), .ref (pb b0 67), .null, .null, .int (bI false)]))) 69)) H := hP
  refine pfF (va_up (w1N cI b0 (w0N cI b0 (w2F cI cQ b0 (w4N cI b0 (w4N cI b0 (F) 1) 9) 17) 67) 69) 0 (.inr (5, [.ref (pb b0 1), .ref (pb b0 9), .ref (pb b0 17), .ref (pb b0 67), .ref (pb b0 69), .null, .int (bI false)]))) (ty := .object "SquopPiles$Mat") hx hb hts (fun w h => List.mem_cons_of_mem _ (acX5 w h)) tyX5 tyX5_ok nmX5 hown hK hP hS (k := 0) (by omega) (by rw [w1N_at (k := 0) (n := 69) (Or.inl (by decide))]; exact va_up_self _ _ _) rfl 4 (by decide) (hts _ (List.mem_cons_of_mem _ (ac8 _ (List.mem_of_getElem? (i := 7) rfl)))) (fun _ h => h) rfl hin rfl (by decide +kernel) rfl rfl (Nat.le_of_ble_eq_true rfl) (dk kX5_init_ok 26 rfl) (w1N_up (k := 0) (n := 69) (by decide)) (fun H locs hP hS => ?_)
  refine lv_aload_n hx hb (dk kX5_init_ok 27 rfl) rfl (lv_at hl 0 rfl) ?_
  refine nwO (ci := 3) hx hb hts (fun w h => List.mem_cons_of_mem _ (acX3 w h)) tyX3 tyX3_ok hown (hts _ (List.mem_cons_of_mem _ (ac8 _ (List.mem_of_getElem? (i := 8) rfl)))) (hts _ (List.mem_cons_of_mem _ (ac8 _ (List.mem_of_getElem? (i := 9) rfl)))) (hts _ (List.mem_cons_of_mem _ (ac6 _ (List.mem_of_getElem? (i := 8) rfl)))) hK hP hS hb0 (by omega) rfl ([.null, .null, .null]) (fun j hj => dv3 j hj) (Nat.le_of_ble_eq_true rfl) (Nat.le_of_ble_eq_true rfl) (dk kX5_init_ok 28 rfl) (fun H hP hS => ?_)
  refine lv_dup hx hb (dk kX5_init_ok 29 rfl) rfl ?_
  have hP : va_P D vwCl (iW (pb b0) (74) (va_up (va_up (w1N cI b0 (w0N cI b0 (w2F cI cQ b0 (w4N cI b0 (w4N cI b0 (F) 1) 9) 17) 67) 69) 0 (.inr (5, [.ref (pb b0 1), .ref (pb b0 9), .ref (pb b0 17), .ref (pb b0 67), .ref (pb b0 69), .null, .int (bI false)]))) 73 (.inr (3, [.null, .null, .null])))) H := hP
  refine cvKN ⟨hx, hb, hml, hown, hts⟩ (tX3_init l D cI cQ cL b0 _ 73 (va_up_self _ _ _)) (cwIN9 hts mcX3_init (nm5 hNW) miX3_init mini_RX3 rfl rfl rfl hdX3_init ⟨Nat.le_of_ble_eq_true rfl, Nat.le_of_ble_eq_true rfl⟩) hAO hK hP hNW hS (by omega) (by omega) hl.1 rfl (Nat.le_of_ble_eq_true rfl) ⟨Nat.le_of_ble_eq_true rfl, Nat.le_of_ble_eq_true rfl⟩ (dk kX5_init_ok 30 rfl) (fun H locs hP hS => ?_)
  rw [w3N_own] at hP
  have hP : va_P D vwCl (iW (pb b0) (77) (w3N cI b0 (va_up (w1N cI b0 (w0N cI b0 (w2F cI cQ b0 (w4N cI b0 (w4N cI b0 (F) 1) 9) 17) 67) 69) 0 (.inr (5, [.ref (pb b0 1), .ref (pb b0 9), .ref (pb b0 17), .ref (pb b0 67), .ref (pb b0 69), .null, .int (bI false)]))) 73)) H := hP
  refine pfF (va_up (w3N cI b0 (w1N cI b0 (w0N cI b0 (w2F cI cQ b0 (w4N cI b0 (w4N cI b0 (F) 1) 9) 17) 67) 69) 73) 0 (.inr (5, [.ref (pb b0 1), .ref (pb b0 9), .ref (pb b0 17), .ref (pb b0 67), .ref (pb b0 69), .ref (pb b0 73), .int (bI false)]))) (ty := .object "SquopPiles$Routes") hx hb hts (fun w h => List.mem_cons_of_mem _ (acX5 w h)) tyX5 tyX5_ok nmX5 hown hK hP hS (k := 0) (by omega) (by rw [w3N_at (k := 0) (n := 73) (Or.inl (by decide))]; exact va_up_self _ _ _) rfl 5 (by decide) (hts _ (List.mem_cons_of_mem _ (ac8 _ (List.mem_of_getElem? (i := 10) rfl)))) (fun _ h => h) rfl hin rfl (by decide +kernel) rfl rfl (Nat.le_of_ble_eq_true rfl) (dk kX5_init_ok 31 rfl) (w3N_up (k := 0) (n := 73) (by decide)) (fun H locs hP hS => ?_)
  refine lv_aload_n hx hb (dk kX5_init_ok 32 rfl) rfl (lv_at hl 0 rfl) ?_
  refine lv_iconst (v := nI 0) hx hb (dk kX5_init_ok 33 rfl) rfl ?_
  refine pfA (w5N cI cQ b0 F) (ty := .boolean) hx hb hts (fun w h => List.mem_cons_of_mem _ (acX5 w h)) tyX5 tyX5_ok nmX5 hown hK hP hS (k := 0) (by omega) (va_up_self _ _ _) rfl 6 (by decide) (hts _ (List.mem_cons_of_mem _ (ac8 _ (List.mem_of_getElem? (i := 11) rfl)))) (fun _ h => h) rfl (by decide +kernel) rfl rfl (Nat.le_of_ble_eq_true rfl) (dk kX5_init_ok 34 rfl) (bx_uu _ _ _ _) (fun H locs hP hS => ?_)
  exact hret _ _ _ _ hP hS (dk kX5_init_ok 35 rfl)
set_option maxRecDepth 100000 in
set_option maxHeartbeats 4000000 in
theorem tX6_init (l : Launch) (D : va_G) (cI cQ cL : ClassId) (b0 : Nat) (F : Nat → va_E) (k : Nat) (hF : F k = .inr (6, [.null, .null, .null, .null, .null, .null, .null, .int (bI false), .int (nI 0), .int (nI 0), .int (nI 0), .int (nI 0)])) : MK l yX6_init (Cond.code yX6_init cX6_init 2 none :: AW) ({ frames := 1, cells := 7, slots := 938, locals := 32 } : Room) D cI cQ cL b0 (k + 1) F (k) (k + 8) (w6W cI b0 F k row0) 7 938 := by
  refine mk_v (by decide +kernel) rfl (Nat.le_of_ble_eq_true rfl) rfl (fun p e s m below meth cd Q ls hx hb hml hown hts hin hsz hAO hP hK hNW hS hret hl => ?_)
  have hown : s.vm.findClass RX6 = some m.cls := hown
  have hb0 : b0 ≤ s.heap.size := by omega
  refine lv_aload_n hx hb (dk kX6_init_0_ok 0 rfl) rfl (lv_at hl 0 rfl) ?_
  refine W.objInit hx hb hown (hts _ (List.mem_cons_of_mem _ (ac17 _ (List.mem_of_getElem? (i := 16) rfl)))) (hts _ (List.mem_cons_of_mem _ (ac0 _ (List.mem_of_getElem? (i := 1) rfl)))) (hts _ (List.mem_cons_of_mem _ (ac0 _ (List.mem_of_getElem? (i := 2) rfl)))) rfl (by rw [hml]; exact hl.1) rfl (dk kX6_init_0_ok 1 rfl) (Nat.le_of_ble_eq_true rfl) (Nat.le_of_ble_eq_true rfl) ?_
  refine W.eq (g2 := F0 m 4 ls []) rfl ?_
  refine lv_aload_n hx hb (dk kX6_init_0_ok 2 rfl) rfl (lv_at hl 0 rfl) ?_
  refine lv_bipush (v := nI 60) hx hb (dk kX6_init_0_ok 3 rfl) rfl ?_
  refine nwI hx hb (hts _ (List.mem_cons_of_mem _ (ac0 _ (List.mem_of_getElem? (i := 3) rfl)))) hK hP hS hb0 (by omega) 60 rfl (by decide) (Nat.le_of_ble_eq_true rfl) (Nat.le_of_ble_eq_true rfl) (dk kX6_init_0_ok 4 rfl) (fun H hP hS => ?_)
  have hP : va_P D vwCl (iW (pb b0) (k + 2) (va_up (F) (k + 1) (.inl (cI, 60, .inl (fun _ => 0))))) H := hP
  refine pfF (va_up (va_up (F) (k + 1) (.inl (cI, 60, .inl (fun _ => 0)))) k (.inr (6, [.ref (pb b0 (k + 1)), .null, .null, .null, .null, .null, .null, .int (bI false), .int (nI 0), .int (nI 0), .int (nI 0), .int (nI 0)]))) (ty := .array .int) hx hb hts (fun w h => List.mem_cons_of_mem _ (acX6 w h)) tyX6 tyX6_ok nmX6 hown hK hP hS (k := k) (by omega) (by rw [va_up_ne _ _ (by omega)]; exact hF) rfl 0 (by decide) (hts _ (List.mem_cons_of_mem _ (ac17 _ (List.mem_of_getElem? (i := 17) rfl)))) (fun _ h => h) rfl hin rfl (by decide +kernel) rfl rfl (Nat.le_of_ble_eq_true rfl) (dk kX6_init_0_ok 5 rfl) (rfl) (fun H locs hP hS => ?_)
  refine lv_aload_n hx hb (dk kX6_init_0_ok 6 rfl) rfl (lv_at hl 0 rfl) ?_
  refine lv_sipush (v := nI 360) hx hb (dk kX6_init_0_ok 7 rfl) rfl ?_
  refine nwI hx hb (hts _ (List.mem_cons_of_mem _ (ac0 _ (List.mem_of_getElem? (i := 3) rfl)))) hK hP hS hb0 (by omega) 360 rfl (by decide) (Nat.le_of_ble_eq_true rfl) (Nat.le_of_ble_eq_true rfl) (dk kX6_init_0_ok 8 rfl) (fun H hP hS => ?_)
  have hP : va_P D vwCl (iW (pb b0) (k + 3) (va_up (va_up (va_up (F) (k + 1) (.inl (cI, 60, .inl (fun _ => 0)))) k (.inr (6, [.ref (pb b0 (k + 1)), .null, .null, .null, .null, .null, .null, .int (bI false), .int (nI 0), .int (nI 0), .int (nI 0), .int (nI 0)]))) (k + 2) (.inl (cI, 360, .inl (fun _ => 0))))) H := hP
  refine pfF (va_up (va_up (va_up (F) (k + 1) (.inl (cI, 60, .inl (fun _ => 0)))) (k + 2) (.inl (cI, 360, .inl (fun _ => 0)))) k (.inr (6, [.ref (pb b0 (k + 1)), .ref (pb b0 (k + 2)), .null, .null, .null, .null, .null, .int (bI false), .int (nI 0), .int (nI 0), .int (nI 0), .int (nI 0)]))) (ty := .array .int) hx hb hts (fun w h => List.mem_cons_of_mem _ (acX6 w h)) tyX6 tyX6_ok nmX6 hown hK hP hS (k := k) (by omega) (upk (by omega)) rfl 1 (by decide) (hts _ (List.mem_cons_of_mem _ (ac17 _ (List.mem_of_getElem? (i := 18) rfl)))) (fun _ h => h) rfl hin rfl (by decide +kernel) rfl rfl (Nat.le_of_ble_eq_true rfl) (dk kX6_init_0_ok 9 rfl) (up3) (fun H locs hP hS => ?_)
  refine lv_aload_n hx hb (dk kX6_init_0_ok 10 rfl) rfl (lv_at hl 0 rfl) ?_
  refine lv_bipush (v := nI 60) hx hb (dk kX6_init_0_ok 11 rfl) rfl ?_
  refine nwI hx hb (hts _ (List.mem_cons_of_mem _ (ac0 _ (List.mem_of_getElem? (i := 3) rfl)))) hK hP hS hb0 (by omega) 60 rfl (by decide) (Nat.le_of_ble_eq_true rfl) (Nat.le_of_ble_eq_true rfl) (dk kX6_init_0_ok 12 rfl) (fun H hP hS => ?_)
  have hP : va_P D vwCl (iW (pb b0) (k + 4) (va_up (va_up (va_up (va_up (F) (k + 1) (.inl (cI, 60, .inl (fun _ => 0)))) (k + 2) (.inl (cI, 360, .inl (fun _ => 0)))) k (.inr (6, [.ref (pb b0 (k + 1)), .ref (pb b0 (k + 2)), .null, .null, .null, .null, .null, .int (bI false), .int (nI 0), .int (nI 0), .int (nI 0), .int (nI 0)]))) (k + 3) (.inl (cI, 60, .inl (fun _ => 0))))) H := hP
  refine pfF (va_up (va_up (va_up (va_up (F) (k + 1) (.inl (cI, 60, .inl (fun _ => 0)))) (k + 2) (.inl (cI, 360, .inl (fun _ => 0)))) (k + 3) (.inl (cI, 60, .inl (fun _ => 0)))) k (.inr (6, [.ref (pb b0 (k + 1)), .ref (pb b0 (k + 2)), .ref (pb b0 (k + 3)), .null, .null, .null, .null, .int (bI false), .int (nI 0), .int (nI 0), .int (nI 0), .int (nI 0)]))) (ty := .array .int) hx hb hts (fun w h => List.mem_cons_of_mem _ (acX6 w h)) tyX6 tyX6_ok nmX6 hown hK hP hS (k := k) (by omega) (upk (by omega)) rfl 2 (by decide) (hts _ (List.mem_cons_of_mem _ (ac17 _ (List.mem_of_getElem? (i := 19) rfl)))) (fun _ h => h) rfl hin rfl (by decide +kernel) rfl rfl (Nat.le_of_ble_eq_true rfl) (dk kX6_init_0_ok 13 rfl) (up3) (fun H locs hP hS => ?_)
  refine lv_aload_n hx hb (dk kX6_init_0_ok 14 rfl) rfl (lv_at hl 0 rfl) ?_
  refine lv_bipush (v := nI 60) hx hb (dk kX6_init_0_ok 15 rfl) rfl ?_
  refine nwI hx hb (hts _ (List.mem_cons_of_mem _ (ac0 _ (List.mem_of_getElem? (i := 3) rfl)))) hK hP hS hb0 (by omega) 60 rfl (by decide) (Nat.le_of_ble_eq_true rfl) (Nat.le_of_ble_eq_true rfl) (dk kX6_init_0_ok 16 rfl) (fun H hP hS => ?_)
  have hP : va_P D vwCl (iW (pb b0) (k + 5) (va_up (va_up (va_up (va_up (va_up (F) (k + 1) (.inl (cI, 60, .inl (fun _ => 0)))) (k + 2) (.inl (cI, 360, .inl (fun _ => 0)))) (k + 3) (.inl (cI, 60, .inl (fun _ => 0)))) k (.inr (6, [.ref (pb b0 (k + 1)), .ref (pb b0 (k + 2)), .ref (pb b0 (k + 3)), .null, .null, .null, .null, .int (bI false), .int (nI 0), .int (nI 0), .int (nI 0), .int (nI 0)]))) (k + 4) (.inl (cI, 60, .inl (fun _ => 0))))) H := hP
  refine pfF (va_up (va_up (va_up (va_up (va_up (F) (k + 1) (.inl (cI, 60, .inl (fun _ => 0)))) (k + 2) (.inl (cI, 360, .inl (fun _ => 0)))) (k + 3) (.inl (cI, 60, .inl (fun _ => 0)))) (k + 4) (.inl (cI, 60, .inl (fun _ => 0)))) k (.inr (6, [.ref (pb b0 (k + 1)), .ref (pb b0 (k + 2)), .ref (pb b0 (k + 3)), .ref (pb b0 (k + 4)), .null, .null, .null, .int (bI false), .int (nI 0), .int (nI 0), .int (nI 0), .int (nI 0)]))) (ty := .array .int) hx hb hts (fun w h => List.mem_cons_of_mem _ (acX6 w h)) tyX6 tyX6_ok nmX6 hown hK hP hS (k := k) (by omega) (upk (by omega)) rfl 3 (by decide) (hts _ (List.mem_cons_of_mem _ (ac17 _ (List.mem_of_getElem? (i := 20) rfl)))) (fun _ h => h) rfl hin rfl (by decide +kernel) rfl rfl (Nat.le_of_ble_eq_true rfl) (dk kX6_init_0_ok 17 rfl) (up3) (fun H locs hP hS => ?_)
  refine lv_aload_n hx hb (dk kX6_init_0_ok 18 rfl) rfl (lv_at hl 0 rfl) ?_
  refine lv_sipush (v := nI 169) hx hb (dk kX6_init_0_ok 19 rfl) rfl ?_
  refine nwI hx hb (hts _ (List.mem_cons_of_mem _ (ac0 _ (List.mem_of_getElem? (i := 3) rfl)))) hK hP hS hb0 (by omega) 169 rfl (by decide) (Nat.le_of_ble_eq_true rfl) (Nat.le_of_ble_eq_true rfl) (dk kX6_init_0_ok 20 rfl) (fun H hP hS => ?_)
  have hP : va_P D vwCl (iW (pb b0) (k + 6) (va_up (va_up (va_up (va_up (va_up (va_up (F) (k + 1) (.inl (cI, 60, .inl (fun _ => 0)))) (k + 2) (.inl (cI, 360, .inl (fun _ => 0)))) (k + 3) (.inl (cI, 60, .inl (fun _ => 0)))) (k + 4) (.inl (cI, 60, .inl (fun _ => 0)))) k (.inr (6, [.ref (pb b0 (k + 1)), .ref (pb b0 (k + 2)), .ref (pb b0 (k + 3)), .ref (pb b0 (k + 4)), .null, .null, .null, .int (bI false), .int (nI 0), .int (nI 0), .int (nI 0), .int (nI 0)]))) (k + 5) (.inl (cI, 169, .inl (fun _ => 0))))) H := hP
  refine pfF (va_up (va_up (va_up (va_up (va_up (va_up (F) (k + 1) (.inl (cI, 60, .inl (fun _ => 0)))) (k + 2) (.inl (cI, 360, .inl (fun _ => 0)))) (k + 3) (.inl (cI, 60, .inl (fun _ => 0)))) (k + 4) (.inl (cI, 60, .inl (fun _ => 0)))) (k + 5) (.inl (cI, 169, .inl (fun _ => 0)))) k (.inr (6, [.ref (pb b0 (k + 1)), .ref (pb b0 (k + 2)), .ref (pb b0 (k + 3)), .ref (pb b0 (k + 4)), .ref (pb b0 (k + 5)), .null, .null, .int (bI false), .int (nI 0), .int (nI 0), .int (nI 0), .int (nI 0)]))) (ty := .array .int) hx hb hts (fun w h => List.mem_cons_of_mem _ (acX6 w h)) tyX6 tyX6_ok nmX6 hown hK hP hS (k := k) (by omega) (upk (by omega)) rfl 4 (by decide) (hts _ (List.mem_cons_of_mem _ (ac17 _ (List.mem_of_getElem? (i := 21) rfl)))) (fun _ h => h) rfl hin rfl (by decide +kernel) rfl rfl (Nat.le_of_ble_eq_true rfl) (dk kX6_init_0_ok 21 rfl) (up3) (fun H locs hP hS => ?_)
  refine lv_aload_n hx hb (dk kX6_init_0_ok 22 rfl) rfl (lv_at hl 0 rfl) ?_
  refine lv_sipush (v := nI 169) hx hb (dk kX6_init_0_ok 23 rfl) rfl ?_
  refine nwI hx hb (hts _ (List.mem_cons_of_mem _ (ac0 _ (List.mem_of_getElem? (i := 3) rfl)))) hK hP hS hb0 (by omega) 169 rfl (by decide) (Nat.le_of_ble_eq_true rfl) (Nat.le_of_ble_eq_true rfl) (dk kX6_init_0_ok 24 rfl) (fun H hP hS => ?_)
  have hP : va_P D vwCl (iW (pb b0) (k + 7) (va_up (va_up (va_up (va_up (va_up (va_up (va_up (F) (k + 1) (.inl (cI, 60, .inl (fun _ => 0)))) (k + 2) (.inl (cI, 360, .inl (fun _ => 0)))) (k + 3) (.inl (cI, 60, .inl (fun _ => 0)))) (k + 4) (.inl (cI, 60, .inl (fun _ => 0)))) (k + 5) (.inl (cI, 169, .inl (fun _ => 0)))) k (.inr (6, [.ref (pb b0 (k + 1)), .ref (pb b0 (k + 2)), .ref (pb b0 (k + 3)), .ref (pb b0 (k + 4)), .ref (pb b0 (k + 5)), .null, .null, .int (bI false), .int (nI 0), .int (nI 0), .int (nI 0), .int (nI 0)]))) (k + 6) (.inl (cI, 169, .inl (fun _ => 0))))) H := hP
  refine pfF (va_up (va_up (va_up (va_up (va_up (va_up (va_up (F) (k + 1) (.inl (cI, 60, .inl (fun _ => 0)))) (k + 2) (.inl (cI, 360, .inl (fun _ => 0)))) (k + 3) (.inl (cI, 60, .inl (fun _ => 0)))) (k + 4) (.inl (cI, 60, .inl (fun _ => 0)))) (k + 5) (.inl (cI, 169, .inl (fun _ => 0)))) (k + 6) (.inl (cI, 169, .inl (fun _ => 0)))) k (.inr (6, [.ref (pb b0 (k + 1)), .ref (pb b0 (k + 2)), .ref (pb b0 (k + 3)), .ref (pb b0 (k + 4)), .ref (pb b0 (k + 5)), .ref (pb b0 (k + 6)), .null, .int (bI false), .int (nI 0), .int (nI 0), .int (nI 0), .int (nI 0)]))) (ty := .array .int) hx hb hts (fun w h => List.mem_cons_of_mem _ (acX6 w h)) tyX6 tyX6_ok nmX6 hown hK hP hS (k := k) (by omega) (upk (by omega)) rfl 5 (by decide) (hts _ (List.mem_cons_of_mem _ (ac17 _ (List.mem_of_getElem? (i := 22) rfl)))) (fun _ h => h) rfl hin rfl (by decide +kernel) rfl rfl (Nat.le_of_ble_eq_true rfl) (dk kX6_init_0_ok 25 rfl) (up3) (fun H locs hP hS => ?_)
  refine lv_aload_n hx hb (dk kX6_init_0_ok 26 rfl) rfl (lv_at hl 0 rfl) ?_
  refine lv_bipush (v := nI 60) hx hb (dk kX6_init_0_ok 27 rfl) rfl ?_
  refine nwI hx hb (hts _ (List.mem_cons_of_mem _ (ac0 _ (List.mem_of_getElem? (i := 3) rfl)))) hK hP hS hb0 (by omega) 60 rfl (by decide) (Nat.le_of_ble_eq_true rfl) (Nat.le_of_ble_eq_true rfl) (dk kX6_init_0_ok 28 rfl) (fun H hP hS => ?_)
  have hP : va_P D vwCl (iW (pb b0) (k + 8) (va_up (va_up (va_up (va_up (va_up (va_up (va_up (va_up (F) (k + 1) (.inl (cI, 60, .inl (fun _ => 0)))) (k + 2) (.inl (cI, 360, .inl (fun _ => 0)))) (k + 3) (.inl (cI, 60, .inl (fun _ => 0)))) (k + 4) (.inl (cI, 60, .inl (fun _ => 0)))) (k + 5) (.inl (cI, 169, .inl (fun _ => 0)))) (k + 6) (.inl (cI, 169, .inl (fun _ => 0)))) k (.inr (6, [.ref (pb b0 (k + 1)), .ref (pb b0 (k + 2)), .ref (pb b0 (k + 3)), .ref (pb b0 (k + 4)), .ref (pb b0 (k + 5)), .ref (pb b0 (k + 6)), .null, .int (bI false), .int (nI 0), .int (nI 0), .int (nI 0), .int (nI 0)]))) (k + 7) (.inl (cI, 60, .inl (fun _ => 0))))) H := hP
  refine pfF (va_up (va_up (va_up (va_up (va_up (va_up (va_up (va_up (F) (k + 1) (.inl (cI, 60, .inl (fun _ => 0)))) (k + 2) (.inl (cI, 360, .inl (fun _ => 0)))) (k + 3) (.inl (cI, 60, .inl (fun _ => 0)))) (k + 4) (.inl (cI, 60, .inl (fun _ => 0)))) (k + 5) (.inl (cI, 169, .inl (fun _ => 0)))) (k + 6) (.inl (cI, 169, .inl (fun _ => 0)))) (k + 7) (.inl (cI, 60, .inl (fun _ => 0)))) k (.inr (6, [.ref (pb b0 (k + 1)), .ref (pb b0 (k + 2)), .ref (pb b0 (k + 3)), .ref (pb b0 (k + 4)), .ref (pb b0 (k + 5)), .ref (pb b0 (k + 6)), .ref (pb b0 (k + 7)), .int (bI false), .int (nI 0), .int (nI 0), .int (nI 0), .int (nI 0)]))) (ty := .array .int) hx hb hts (fun w h => List.mem_cons_of_mem _ (acX6 w h)) tyX6 tyX6_ok nmX6 hown hK hP hS (k := k) (by omega) (upk (by omega)) rfl 6 (by decide) (hts _ (List.mem_cons_of_mem _ (ac17 _ (List.mem_of_getElem? (i := 23) rfl)))) (fun _ h => h) rfl hin rfl (by decide +kernel) rfl rfl (Nat.le_of_ble_eq_true rfl) (dk kX6_init_0_ok 29 rfl) (up3) (fun H locs hP hS => ?_)
  have hP : va_P D vwCl (iW (pb b0) (k + 8) (w6W cI b0 F k (rI 0 0))) H := by
    rw [rI_0]
    refine Eq.mp ?_ hP
    congr 2
    funext j
    by_cases h0 : j = k
    · subst h0; rw [va_up_self]; simp [w6W, rfSet]
    · rw [va_up_ne _ _ h0]
      by_cases h1 : j < k ∨ k + 7 < j
      · rw [w6W, rfSet_out h1]; simp only [va_up]; repeat' split
        all_goals first | rfl | omega
      · rcases (show j = k + 1 ∨ j = k + 2 ∨ j = k + 3 ∨ j = k + 4 ∨ j = k + 5 ∨ j = k + 6 ∨ j = k + 7 by omega) with rfl | rfl | rfl | rfl | rfl | rfl | rfl <;> first | (simp [w6W, rfSet, va_up]; done) | (simp [w6W, rfSet, va_up]; rfl)
  have hR : ∀ r : Nat → Int32, rfAt cI (pb b0) (w6W cI b0 F k r) k r z0 z0 z0 z0 z0 z0 false 0 0 0 (nI 0) := fun r => rfSet_at
  have hU : ∀ r r2 : Nat → Int32, va_up (w6W cI b0 F k r) (k + 1) (.inl (cI, 60, .inl r2)) = w6W cI b0 F k r2 := fun r r2 => by
    funext j
    simp only [va_up, w6W, rfSet]
    repeat' split
    all_goals first | rfl | omega
  refine lv_iconst (v := nI 0) hx hb (dk kX6_init_0_ok 30 rfl) rfl ?_
  refine lv_istore_n (lv' := [(1, .int (nI 0)), (0, .ref (pb b0 k))]) hx hb (dk kX6_init_0_ok 31 rfl) rfl hl (by decide) rfl (fun ls hl => ?_)
  have L65 : ∀ (fu i : Nat) (H : Heap) (locs : List Loc), va_P D vwCl (iW (pb b0) (k + 8) (w6W cI b0 F k (rI i i))) H → va_S (bA b0) s.heap H locs → i ≤ 16 → 16 - i < fu → ∀ ls : Array Slot, lv_has ls 2 [(0, .ref (pb b0 k)), (1, .int (nI i))] → W p l e ({ frames := 1, cells := 7, slots := 938, locals := 32 } : Room) s m #[.ref (pb b0 k)] below meth cd H locs 7 938 Q (F0 m 65 ls []) := by
    intro fu
    induction fu with
    | zero => intros; omega
    | succ fu ih =>
      intro i H locs hP hS hi hm ls hl
      refine lv_iload_n hx hb (dk kX6_init_0_ok 32 rfl) rfl (lv_at hl 1 rfl) ?_
      refine lv_bipush (v := nI 16) hx hb (dk kX6_init_0_ok 33 rfl) rfl ?_
      refine n_icmp_ge (tgt := 103) hx hb (by omega) (by decide) (dk kX6_init_0_ok 34 rfl) (by decide) (fun h1 => ?_) (fun h1 => ?_)
      · have e9 : i = 16 := by omega
        subst e9
        refine lv_aload_n hx hb (dk kX6_init_0_ok 56 rfl) rfl (lv_at hl 0 rfl) ?_
        refine gf hx hb hts (fun w h => List.mem_cons_of_mem _ (acX6 w h)) hown hK hP (by omega) (hR _).1 rfl 0 (by decide) (hts _ (List.mem_cons_of_mem _ (ac17 _ (List.mem_of_getElem? (i := 17) rfl)))) (fun _ h => h) rfl (dk kX6_init_0_ok 57 rfl) ?_
        refine lv_bipush (v := nI 57) hx hb (dk kX6_init_0_ok 58 rfl) rfl ?_
        refine lv_iconst (v := nI 3) hx hb (dk kX6_init_0_ok 59 rfl) rfl ?_
        refine astA (w6W cI b0 F k row0) (j := 57) hx hb hK hP hS (by omega) (hR _).2.1 rfl (by decide) (by decide) (dk kX6_init_1_ok 0 rfl) (hU _ _) (fun H locs hP hS => ?_)
        exact hret _ _ _ _ hP hS (dk kX6_init_1_ok 1 rfl)
      · have hi2 : i < 16 := by omega
        refine lv_aload_n hx hb (dk kX6_init_0_ok 35 rfl) rfl (lv_at hl 0 rfl) ?_
        refine gf hx hb hts (fun w h => List.mem_cons_of_mem _ (acX6 w h)) hown hK hP (by omega) (hR _).1 rfl 0 (by decide) (hts _ (List.mem_cons_of_mem _ (ac17 _ (List.mem_of_getElem? (i := 17) rfl)))) (fun _ h => h) rfl (dk kX6_init_0_ok 36 rfl) ?_
        refine lv_iconst (v := nI 0) hx hb (dk kX6_init_0_ok 37 rfl) rfl ?_
        refine lv_iload_n hx hb (dk kX6_init_0_ok 38 rfl) rfl (lv_at hl 1 rfl) ?_
        refine n_iadd hx hb (dk kX6_init_0_ok 39 rfl) ?_
        refine lv_iload_n hx hb (dk kX6_init_0_ok 40 rfl) rfl (lv_at hl 1 rfl) ?_
        refine lv_iconst (v := nI 4) hx hb (dk kX6_init_0_ok 41 rfl) rfl ?_
        refine n_idiv hx hb (by omega) (by decide) (by decide) (dk kX6_init_0_ok 42 rfl) ?_
        refine csP (As := [.int (nI (i / 4))]) (rest := [.int (nI (0 + i)), .ref (pb b0 (k + 1))]) ⟨hx, hb, hml, hown, hts⟩ (tX6_base l (nI (i / 4)) (i / 4) rfl (by omega)) (cwS9 1 hts mcX6_base (ac18 _ (List.mem_of_getElem? (i := 0) rfl)) msX6_base mini_RX6 rfl rfl hdX6_base ⟨Nat.le_of_ble_eq_true rfl, Nat.le_of_ble_eq_true rfl⟩) rfl hl.1 rfl (Nat.le_of_ble_eq_true rfl) ⟨Nat.le_of_ble_eq_true rfl, Nat.le_of_ble_eq_true rfl⟩ (dk kX6_init_0_ok 43 rfl) ?_
        refine astA (w6W cI b0 F k (rI (i + 1) i)) (j := 0 + i) hx hb hK hP hS (by omega) (hR _).2.1 rfl (by omega) (by decide) (dk kX6_init_0_ok 44 rfl) (by rw [rI_c hi2]; exact hU _ _) (fun H locs hP hS => ?_)
        refine lv_aload_n hx hb (dk kX6_init_0_ok 45 rfl) rfl (lv_at hl 0 rfl) ?_
        refine gf hx hb hts (fun w h => List.mem_cons_of_mem _ (acX6 w h)) hown hK hP (by omega) (hR _).1 rfl 0 (by decide) (hts _ (List.mem_cons_of_mem _ (ac17 _ (List.mem_of_getElem? (i := 17) rfl)))) (fun _ h => h) rfl (dk kX6_init_0_ok 46 rfl) ?_
        refine lv_bipush (v := nI 16) hx hb (dk kX6_init_0_ok 47 rfl) rfl ?_
        refine lv_iload_n hx hb (dk kX6_init_0_ok 48 rfl) rfl (lv_at hl 1 rfl) ?_
        refine n_iadd hx hb (dk kX6_init_0_ok 49 rfl) ?_
        refine lv_iload_n hx hb (dk kX6_init_0_ok 50 rfl) rfl (lv_at hl 1 rfl) ?_
        refine lv_iconst (v := nI 4) hx hb (dk kX6_init_0_ok 51 rfl) rfl ?_
        refine n_irem hx hb (by omega) (by decide) (by decide) (dk kX6_init_0_ok 52 rfl) ?_
        refine astA (w6W cI b0 F k (rI (i + 1) (i + 1))) (j := 16 + i) hx hb hK hP hS (by omega) (hR _).2.1 rfl (by omega) (by decide) (dk kX6_init_0_ok 53 rfl) (by rw [rI_p hi2]; exact hU _ _) (fun H locs hP hS => ?_)
        refine lv_iinc (v := nI (i + 1)) (lv' := [(1, .int (nI (i + 1))), (0, .ref (pb b0 k))]) hx hb (dk kX6_init_0_ok 54 rfl) hl (k := 1) rfl (n_inc _) (by decide) rfl (fun ls hl => ?_)
        refine lv_goto (tgt := 65) hx hb (dk kX6_init_0_ok 55 rfl) (by decide) ?_
        exact ih (i + 1) _ _ hP hS (by omega) (by omega) ls (lv_sub hl [1, 0] rfl)
  exact L65 17 0 _ _ hP hS (by omega) (by omega) ls (lv_sub hl [1, 0] rfl)
end
