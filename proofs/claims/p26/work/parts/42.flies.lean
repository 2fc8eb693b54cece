/-! the law's invariant; flies() behind the flight -/
def LINV (cI cQ : ClassId) (ad : Nat → Nat) (F : Nat → va_E) : Prop := ∃ (c b v g h j : Nat → Int32) (t : Nat) (u z : Int32) (m9 : Nat) (lo : Nat → Int32), KW cI cQ ad F c b v g h j t u z m9 ∧ PQ c b v ∧ t < 4 ∧ F 77 = .inl (cI, 4, .inl lo) ∧ (over c = false → JT j t ∧ ∀ i, i < 4 → lo i = j i)
set_option maxRecDepth 100000 in
set_option maxHeartbeats 4000000 in
theorem flies_A {p : Program} {l : Launch} {e : Env} {s : State} {m : MethodId} {AR : Array Value} {below : List Frame} {meth : Method} {cd : Code} {Q : State → Prop} {D : va_G} {cI cQ cL : ClassId} {ad : Nat → Nat} {N : Nat} (hN77 : 77 < N) (hC : CX p s m cd cL_flies 16 AR D cI cQ cL ({ frames := 11, cells := 0, slots := 0, locals := 400 } : Room)) (hDi : iD ad N) 
    (hret : ∀ (pc : Nat) (ls : Array Slot) (H : Heap) (locs : List Loc) (F9 : Nat → va_E), LINV cI cQ ad F9 → va_P D vwCl (iW ad N F9) H → va_S (iA ad N s.heap.size) s.heap H locs → decode cL_flies pc = .ok (.ireturn, 1) → W p l e ({ frames := 11, cells := 0, slots := 0, locals := 400 } : Room) s m AR below meth cd H locs 0 0 Q (F0 m pc ls [.int (nI 1)]))
    {cY bY vY gY hY jY : Nat → Int32} {tY : Nat} {uY zY : Int32} {mY : Nat} {w d f t q1 th : Nat} {y0 g0 f0 a0 v0 : Int32} {lo : Nat → Int32} (hw : w < 16) (htt : t < 4) (hq1 : q1 < 169) (hPQ2 : PQ cY bY vY) (ht : tY < 4) (he5 : gY w = g0 + nI 1) (heh : hY (w / 4) = f0 + nI 1) (hea : nI (ptt cY vY (w / 4 % 2)) - nI (ptt cY vY (1 - w / 4 % 2)) = a0) (hecv : nI (covc vY (1 - w / 4 % 2) + covc vY (3 - w / 4 % 2)) = v0) (hec : cY w = nI q1) (hep : pls cY bY w = nI th) (hev : cov vY w = false) (hl01 : ∀ i, i < 4 → (upd lo (w / 4) (lo (w / 4) + nI 1)) i = nI 0 ∨ (upd lo (w / 4) (lo (w / 4) + nI 1)) i = nI 1) (hen : over cY = false → (pasg cY t 8 (upd lo (w / 4) (lo (w / 4) + nI 1)) t).2 = tY ∧ (∀ i, i < 4 → (pasg cY t 8 (upd lo (w / 4) (lo (w / 4) + nI 1)) t).1 i = jY i) ∧ JT jY tY) {F : Nat → va_E} {H : Heap} {locs : List Loc} (hKW : KW cI cQ ad F cY bY vY gY hY jY tY uY zY mY) (h77 : F 77 = .inl (cI, 4, .inl lo)) (hP : va_P D vwCl (iW ad N F) H) (hS : va_S (iA ad N s.heap.size) s.heap H locs) (ls : Array Slot) (hl : lv_has ls 16 [(13, .int v0), (12, .int a0), (11, .int f0), (10, .int g0), (9, .int (nI th)), (8, .int (nI q1)), (7, .int y0), (6, .int (-1)), (5, .int (nI t)), (0, .ref (ad 0)), (1, .ref (ad 77)), (2, .int (nI w)), (3, .int (nI d)), (4, .int (nI f))]) : W p l e ({ frames := 11, cells := 0, slots := 0, locals := 400 } : Room) s m AR below meth cd H locs 0 0 Q (F0 m 125 ls [.int (-1)]) := by
  obtain ⟨hx, hb, hml, hown, hts, hK, hNW, hfr, hlo9⟩ := id hC
  have hN76 : 76 < N := by omega
  refine lv_iload hx hb (dk kL_flies_1_ok 12 rfl) (lv_at hl 7 rfl) ?_
  refine lv_icmp_ne (tgt := 168) hx hb (dk kL_flies_1_ok 13 rfl) (by decide) (fun h1 => ?_) (fun h1 => ?_)
  · exact absurd rfl h1
  · skip
    refine lv_aload_n hx hb (dk kL_flies_1_ok 14 rfl) rfl (lv_at hl 9 rfl) ?_
    refine lv_iload_n hx hb (dk kL_flies_1_ok 15 rfl) rfl (lv_at hl 11 rfl) ?_
    refine lv_iconst (v := nI 5) hx hb (dk kL_flies_1_ok 16 rfl) rfl ?_
    refine kw_wink hC hKW hN76 hP ht (w := w) (k := 5) (by omega) (by decide) (lc0 _ (List.mem_of_getElem? (i := 3) rfl)) hl.1 (Nat.le_of_ble_eq_true rfl) ⟨Nat.le_of_ble_eq_true rfl, Nat.le_of_ble_eq_true rfl⟩ (dk kL_flies_1_ok 17 rfl) (r := gY w) rfl ?_
    refine lv_iload hx hb (dk kL_flies_1_ok 18 rfl) (lv_at hl 3 rfl) ?_
    refine lv_iconst (v := nI 1) hx hb (dk kL_flies_1_ok 19 rfl) rfl ?_
    refine lv_iadd hx hb (dk kL_flies_1_ok 20 rfl) ?_
    refine lv_icmp_ne (tgt := 168) hx hb (dk kL_flies_1_ok 21 rfl) (by decide) (fun h2 => ?_) (fun h2 => ?_)
    · exact absurd he5 h2
    · skip
      refine lv_aload_n hx hb (dk kL_flies_1_ok 22 rfl) rfl (lv_at hl 9 rfl) ?_
      refine lv_iload_n hx hb (dk kL_flies_1_ok 23 rfl) rfl (lv_at hl 11 rfl) ?_
      refine lv_iconst (v := nI 4) hx hb (dk kL_flies_1_ok 24 rfl) rfl ?_
      refine n_idiv hx hb (by omega) (by decide) (by decide) (dk kL_flies_1_ok 25 rfl) ?_
      refine lv_iconst (v := nI 4) hx hb (dk kL_flies_1_ok 26 rfl) rfl ?_
      refine kw_colour hC hKW hN76 hP (w := w / 4) (k := 4) (by omega) (by decide) (lc0 _ (List.mem_of_getElem? (i := 13) rfl)) hl.1 (Nat.le_of_ble_eq_true rfl) ⟨Nat.le_of_ble_eq_true rfl, Nat.le_of_ble_eq_true rfl⟩ (dk kL_flies_1_ok 27 rfl) (r := hY (w / 4)) rfl ?_
      refine lv_iload hx hb (dk kL_flies_1_ok 28 rfl) (lv_at hl 2 rfl) ?_
      refine lv_iload hx hb (dk kL_flies_1_ok 29 rfl) (lv_at hl 7 rfl) ?_
      refine lv_iconst (v := -1) hx hb (dk kL_flies_1_ok 30 rfl) rfl ?_
      refine lv_icmp_ne (tgt := 163) hx hb (dk kL_flies_1_ok 31 rfl) (by decide) (fun h3 => ?_) (fun h3 => ?_)
      · exact absurd rfl h3
      · skip
        refine lv_iconst (v := nI 1) hx hb (dk kL_flies_1_ok 32 rfl) rfl ?_
        refine lv_goto (tgt := 164) hx hb (dk kL_flies_1_ok 33 rfl) (by decide) ?_
        refine lv_iadd hx hb (dk kL_flies_1_ok 35 rfl) ?_
        refine lv_icmp_eq (tgt := 170) hx hb (dk kL_flies_1_ok 36 rfl) (by decide) (fun h4 => ?_) (fun h4 => ?_)
        · skip
          refine lv_iload hx hb (dk kL_flies_1_ok 39 rfl) (lv_at hl 7 rfl) ?_
          refine lv_sipush (v := nI 169) hx hb (dk kL_flies_1_ok 40 rfl) rfl ?_
          refine lv_icmp_ne (tgt := 196) hx hb (dk kL_flies_1_ok 41 rfl) (by decide) (fun h5 => ?_) (fun h5 => ?_)
          · skip
            refine lv_aload_n hx hb (dk kL_flies_1_ok 52 rfl) rfl (lv_at hl 9 rfl) ?_
            refine lv_iload_n hx hb (dk kL_flies_1_ok 53 rfl) rfl (lv_at hl 11 rfl) ?_
            refine lv_iconst (v := nI 2) hx hb (dk kL_flies_1_ok 54 rfl) rfl ?_
            refine kw_wink hC hKW hN76 hP ht (w := w) (k := 2) (by omega) (by decide) (lc0 _ (List.mem_of_getElem? (i := 3) rfl)) hl.1 (Nat.le_of_ble_eq_true rfl) ⟨Nat.le_of_ble_eq_true rfl, Nat.le_of_ble_eq_true rfl⟩ (dk kL_flies_1_ok 55 rfl) (r := cY w) rfl ?_
            refine lv_iload hx hb (dk kL_flies_1_ok 56 rfl) (lv_at hl 5 rfl) ?_
            refine lv_icmp_ne (tgt := 231) hx hb (dk kL_flies_1_ok 57 rfl) (by decide) (fun h6 => ?_) (fun h6 => ?_)
            · exact absurd hec h6
            · skip
              refine lv_aload_n hx hb (dk kL_flies_1_ok 58 rfl) rfl (lv_at hl 9 rfl) ?_
              refine lv_iload_n hx hb (dk kL_flies_1_ok 59 rfl) rfl (lv_at hl 11 rfl) ?_
              refine lv_iconst (v := nI 3) hx hb (dk kL_flies_2_ok 0 rfl) rfl ?_
              refine kw_wink hC hKW hN76 hP ht (w := w) (k := 3) (by omega) (by decide) (lc0 _ (List.mem_of_getElem? (i := 3) rfl)) hl.1 (Nat.le_of_ble_eq_true rfl) ⟨Nat.le_of_ble_eq_true rfl, Nat.le_of_ble_eq_true rfl⟩ (dk kL_flies_2_ok 1 rfl) (r := pls cY bY w) rfl ?_
              refine lv_iload hx hb (dk kL_flies_2_ok 2 rfl) (lv_at hl 4 rfl) ?_
              refine lv_icmp_ne (tgt := 231) hx hb (dk kL_flies_2_ok 3 rfl) (by decide) (fun h7 => ?_) (fun h7 => ?_)
              · exact absurd hep h7
              · skip
                refine lv_aload_n hx hb (dk kL_flies_2_ok 4 rfl) rfl (lv_at hl 9 rfl) ?_
                refine lv_iload_n hx hb (dk kL_flies_2_ok 5 rfl) rfl (lv_at hl 11 rfl) ?_
                refine lv_iconst (v := nI 4) hx hb (dk kL_flies_2_ok 6 rfl) rfl ?_
                refine kw_wink hC hKW hN76 hP ht (w := w) (k := 4) (by omega) (by decide) (lc0 _ (List.mem_of_getElem? (i := 3) rfl)) hl.1 (Nat.le_of_ble_eq_true rfl) ⟨Nat.le_of_ble_eq_true rfl, Nat.le_of_ble_eq_true rfl⟩ (dk kL_flies_2_ok 7 rfl) (r := bI (cov vY w)) rfl ?_
                refine b_if_ne (tgt := 231) hx hb (dk kL_flies_2_ok 8 rfl) (by decide) (fun h8 => ?_) (fun h8 => ?_)
                · exact absurd (hev.symm.trans h8) (by decide)
                · skip
                  refine lv_iconst (v := nI 1) hx hb (dk kL_flies_2_ok 9 rfl) rfl ?_
                  refine lv_goto (tgt := 232) hx hb (dk kL_flies_2_ok 10 rfl) (by decide) ?_
                  refine lv_istore (lv' := [(14, .int (nI 1)), (13, .int v0), (12, .int a0), (11, .int f0), (10, .int g0), (9, .int (nI th)), (8, .int (nI q1)), (7, .int y0), (6, .int (-1)), (5, .int (nI t)), (0, .ref (ad 0)), (1, .ref (ad 77)), (2, .int (nI w)), (3, .int (nI d)), (4, .int (nI f))]) hx hb (dk kL_flies_2_ok 12 rfl) hl (by decide) rfl (fun ls hl => ?_)
                  refine lv_iload_n hx hb (dk kL_flies_2_ok 13 rfl) rfl (lv_at hl 12 rfl) ?_
                  refine lv_iconst (v := nI 4) hx hb (dk kL_flies_2_ok 14 rfl) rfl ?_
                  refine n_idiv hx hb (by omega) (by decide) (by decide) (dk kL_flies_2_ok 15 rfl) ?_
                  refine lv_iconst (v := nI 2) hx hb (dk kL_flies_2_ok 16 rfl) rfl ?_
                  refine n_irem hx hb (by omega) (by decide) (by decide) (dk kL_flies_2_ok 17 rfl) ?_
                  refine lv_istore (lv' := [(15, .int (nI ((w / 4) % 2))), (14, .int (nI 1)), (13, .int v0), (12, .int a0), (11, .int f0), (10, .int g0), (9, .int (nI th)), (8, .int (nI q1)), (7, .int y0), (6, .int (-1)), (5, .int (nI t)), (0, .ref (ad 0)), (1, .ref (ad 77)), (2, .int (nI w)), (3, .int (nI d)), (4, .int (nI f))]) hx hb (dk kL_flies_2_ok 18 rfl) hl (by decide) rfl (fun ls hl => ?_)
                  refine lv_iload hx hb (dk kL_flies_2_ok 19 rfl) (lv_at hl 1 rfl) ?_
                  refine n_if_eq (tgt := 298) hx hb (by decide) (dk kL_flies_2_ok 20 rfl) (by decide) (fun h9 => absurd h9 (by decide)) ?_
                  intro _
                  refine lv_aload_n hx hb (dk kL_flies_2_ok 21 rfl) rfl (lv_at hl 11 rfl) ?_
                  refine lv_bipush (v := nI 10) hx hb (dk kL_flies_2_ok 22 rfl) rfl ?_
                  refine lv_iload hx hb (dk kL_flies_2_ok 23 rfl) (lv_at hl 0 rfl) ?_
                  refine n_iadd hx hb (dk kL_flies_2_ok 24 rfl) ?_
                  refine kw_count hC hKW hN76 hP (k := 10 + ((w / 4) % 2)) (by omega) (lc0 _ (List.mem_of_getElem? (i := 14) rfl)) hl.1 (Nat.le_of_ble_eq_true rfl) ⟨Nat.le_of_ble_eq_true rfl, Nat.le_of_ble_eq_true rfl⟩ (dk kL_flies_2_ok 25 rfl) (r := nI (ptt cY vY (w / 4 % 2))) (cCnt_10 (by omega)) ?_
                  refine lv_aload_n hx hb (dk kL_flies_2_ok 26 rfl) rfl (lv_at hl 11 rfl) ?_
                  refine lv_bipush (v := nI 11) hx hb (dk kL_flies_2_ok 27 rfl) rfl ?_
                  refine lv_iload hx hb (dk kL_flies_2_ok 28 rfl) (lv_at hl 0 rfl) ?_
                  refine n_isub hx hb (by omega) (dk kL_flies_2_ok 29 rfl) ?_
                  refine kw_count hC hKW hN76 hP (k := 11 - ((w / 4) % 2)) (by omega) (lc0 _ (List.mem_of_getElem? (i := 14) rfl)) hl.1 (Nat.le_of_ble_eq_true rfl) ⟨Nat.le_of_ble_eq_true rfl, Nat.le_of_ble_eq_true rfl⟩ (dk kL_flies_2_ok 30 rfl) (r := nI (ptt cY vY (1 - w / 4 % 2))) (cCnt_11 (by omega)) ?_
                  refine lv_isub hx hb (dk kL_flies_2_ok 31 rfl) ?_
                  refine lv_iload hx hb (dk kL_flies_2_ok 32 rfl) (lv_at hl 3 rfl) ?_
                  refine lv_icmp_ne (tgt := 298) hx hb (dk kL_flies_2_ok 33 rfl) (by decide) (fun h9 => ?_) (fun h9 => ?_)
                  · exact absurd hea h9
                  · skip
                    refine lv_aload_n hx hb (dk kL_flies_2_ok 34 rfl) rfl (lv_at hl 11 rfl) ?_
                    refine lv_iconst (v := nI 1) hx hb (dk kL_flies_2_ok 35 rfl) rfl ?_
                    refine lv_iload hx hb (dk kL_flies_2_ok 36 rfl) (lv_at hl 0 rfl) ?_
                    refine n_isub hx hb (by omega) (dk kL_flies_2_ok 37 rfl) ?_
                    refine lv_iconst (v := nI 1) hx hb (dk kL_flies_2_ok 38 rfl) rfl ?_
                    refine kw_colour hC hKW hN76 hP (w := 1 - ((w / 4) % 2)) (k := 1) (by omega) (by decide) (lc0 _ (List.mem_of_getElem? (i := 13) rfl)) hl.1 (Nat.le_of_ble_eq_true rfl) ⟨Nat.le_of_ble_eq_true rfl, Nat.le_of_ble_eq_true rfl⟩ (dk kL_flies_2_ok 39 rfl) (r := nI (covc vY (1 - ((w / 4) % 2)))) rfl ?_
                    refine lv_aload_n hx hb (dk kL_flies_2_ok 40 rfl) rfl (lv_at hl 11 rfl) ?_
                    refine lv_iconst (v := nI 3) hx hb (dk kL_flies_2_ok 41 rfl) rfl ?_
                    refine lv_iload hx hb (dk kL_flies_2_ok 42 rfl) (lv_at hl 0 rfl) ?_
                    refine n_isub hx hb (by omega) (dk kL_flies_2_ok 43 rfl) ?_
                    refine lv_iconst (v := nI 1) hx hb (dk kL_flies_2_ok 44 rfl) rfl ?_
                    refine kw_colour hC hKW hN76 hP (w := 3 - ((w / 4) % 2)) (k := 1) (by omega) (by decide) (lc0 _ (List.mem_of_getElem? (i := 13) rfl)) hl.1 (Nat.le_of_ble_eq_true rfl) ⟨Nat.le_of_ble_eq_true rfl, Nat.le_of_ble_eq_true rfl⟩ (dk kL_flies_2_ok 45 rfl) (r := nI (covc vY (3 - ((w / 4) % 2)))) rfl ?_
                    refine n_iadd hx hb (dk kL_flies_2_ok 46 rfl) ?_
                    refine lv_iload hx hb (dk kL_flies_2_ok 47 rfl) (lv_at hl 2 rfl) ?_
                    refine lv_icmp_ne (tgt := 298) hx hb (dk kL_flies_2_ok 48 rfl) (by decide) (fun h10 => ?_) (fun h10 => ?_)
                    · exact absurd hecv h10
                    · skip
                      refine lv_iconst (v := nI 1) hx hb (dk kL_flies_2_ok 49 rfl) rfl ?_
                      refine lv_goto (tgt := 299) hx hb (dk kL_flies_2_ok 50 rfl) (by decide) ?_
                      refine lv_istore (lv' := [(14, .int (nI 1)), (15, .int (nI ((w / 4) % 2))), (13, .int v0), (12, .int a0), (11, .int f0), (10, .int g0), (9, .int (nI th)), (8, .int (nI q1)), (7, .int y0), (6, .int (-1)), (5, .int (nI t)), (0, .ref (ad 0)), (1, .ref (ad 77)), (2, .int (nI w)), (3, .int (nI d)), (4, .int (nI f))]) hx hb (dk kL_flies_2_ok 52 rfl) hl (by decide) rfl (fun ls hl => ?_)
                      rcases (Bool.eq_false_or_eq_true (over cY)) with hsp11 | hsp11
                      · skip
                        refine lv_aload_n hx hb (dk kL_flies_2_ok 53 rfl) rfl (lv_at hl 11 rfl) ?_
                        refine lv_iconst (v := nI 1) hx hb (dk kL_flies_2_ok 54 rfl) rfl ?_
                        refine kw_count hC hKW hN76 hP (k := 1) (by decide) (lc0 _ (List.mem_of_getElem? (i := 14) rfl)) hl.1 (Nat.le_of_ble_eq_true rfl) ⟨Nat.le_of_ble_eq_true rfl, Nat.le_of_ble_eq_true rfl⟩ (dk kL_flies_2_ok 55 rfl) (r := nI 1) (show (if over cY = true then nI 1 else nI 0) = nI 1 from if_pos hsp11) ?_
                        refine lv_iconst (v := nI 1) hx hb (dk kL_flies_2_ok 56 rfl) rfl ?_
                        refine n_icmp_ne (tgt := 313) hx hb (by decide) (by decide) (dk kL_flies_2_ok 57 rfl) (by decide) (fun h12 => ?_) (fun h12 => ?_)
                        · exact absurd rfl h12
                        · skip
                          refine lv_iload hx hb (dk kL_flies_2_ok 58 rfl) (lv_at hl 0 rfl) ?_
                          exact hret _ ls _ _ _ ⟨_, _, _, _, _, _, _, _, _, _, _, hKW, hPQ2, ht, h77, fun ho => absurd (hsp11.symm.trans ho) (by decide)⟩ hP hS (dk kL_flies_2_ok 59 rfl)
                      · skip
                        refine lv_aload_n hx hb (dk kL_flies_2_ok 53 rfl) rfl (lv_at hl 11 rfl) ?_
                        refine lv_iconst (v := nI 1) hx hb (dk kL_flies_2_ok 54 rfl) rfl ?_
                        refine kw_count hC hKW hN76 hP (k := 1) (by decide) (lc0 _ (List.mem_of_getElem? (i := 14) rfl)) hl.1 (Nat.le_of_ble_eq_true rfl) ⟨Nat.le_of_ble_eq_true rfl, Nat.le_of_ble_eq_true rfl⟩ (dk kL_flies_2_ok 55 rfl) (r := nI 0) (show (if over cY = true then nI 1 else nI 0) = nI 0 from if_neg (by rw [hsp11]; decide)) ?_
                        refine lv_iconst (v := nI 1) hx hb (dk kL_flies_2_ok 56 rfl) rfl ?_
                        refine n_icmp_ne (tgt := 313) hx hb (by decide) (by decide) (dk kL_flies_2_ok 57 rfl) (by decide) (fun h13 => ?_) (fun h13 => ?_)
                        · skip
                          refine lv_aload_n hx hb (dk kL_flies_3_ok 0 rfl) rfl (lv_at hl 12 rfl) ?_
                          refine lv_iload_n hx hb (dk kL_flies_3_ok 1 rfl) rfl (lv_at hl 13 rfl) ?_
                          refine lv_iconst (v := nI 4) hx hb (dk kL_flies_3_ok 2 rfl) rfl ?_
                          refine n_idiv hx hb (by omega) (by decide) (by decide) (dk kL_flies_3_ok 3 rfl) ?_
                          refine lv_dup2_11 hx hb (dk kL_flies_3_ok 4 rfl) rfl rfl ?_
                          refine ald (j := (w / 4)) hx hb hK hP (by omega) h77 rfl (by omega) (by decide) (dk kL_flies_3_ok 5 rfl) ?_
                          refine lv_iload hx hb (dk kL_flies_3_ok 6 rfl) (lv_at hl 9 rfl) ?_
                          refine lv_iconst (v := -1) hx hb (dk kL_flies_3_ok 7 rfl) rfl ?_
                          refine lv_icmp_ne (tgt := 329) hx hb (dk kL_flies_3_ok 8 rfl) (by decide) (fun h14 => ?_) (fun h14 => ?_)
                          · exact absurd rfl h14
                          · skip
                            refine lv_iconst (v := nI 1) hx hb (dk kL_flies_3_ok 9 rfl) rfl ?_
                            refine lv_goto (tgt := 330) hx hb (dk kL_flies_3_ok 10 rfl) (by decide) ?_
                            refine lv_iadd hx hb (dk kL_flies_3_ok 12 rfl) ?_
                            refine ast (va_up F 77 (.inl (cI, 4, .inl (upd lo (w / 4) ((lo (w / 4)) + (nI 1)))))) (k := 77) (j := w / 4) hx hb hC.2.2.2.2.2.1 hDi hP hS (by omega) h77 rfl (by omega) (by decide) (dk kL_flies_3_ok 13 rfl) rfl (fun H locs hP hS => ?_)
                            have hK_2 : KW cI cQ ad (va_up F 77 (.inl (cI, 4, .inl (upd lo (w / 4) ((lo (w / 4)) + (nI 1)))))) cY bY vY gY hY jY tY uY zY mY := KW_fr hKW (fun i hi => va_up_ne _ _ (by omega))
                            have h77_3 : va_up F 77 (.inl (cI, 4, .inl (upd lo (w / 4) ((lo (w / 4)) + (nI 1))))) 77 = .inl (cI, 4, .inl (upd lo (w / 4) ((lo (w / 4)) + (nI 1)))) := va_up_self _ _ _
                            generalize va_up F 77 (.inl (cI, 4, .inl (upd lo (w / 4) ((lo (w / 4)) + (nI 1))))) = F_1 at hP hK_2 h77_3
                            refine lv_iload hx hb (dk kL_flies_3_ok 14 rfl) (lv_at hl 0 rfl) ?_
                            refine n_if_eq (tgt := 376) hx hb (by decide) (dk kL_flies_3_ok 15 rfl) (by decide) (fun h9 => absurd h9 (by decide)) ?_
                            intro _
                            refine lv_aload_n hx hb (dk kL_flies_3_ok 16 rfl) rfl (lv_at hl 11 rfl) ?_
                            refine lv_iconst (v := nI 0) hx hb (dk kL_flies_3_ok 17 rfl) rfl ?_
                            refine kw_count hC hK_2 hN76 hP (k := 0) (by decide) (lc0 _ (List.mem_of_getElem? (i := 14) rfl)) hl.1 (Nat.le_of_ble_eq_true rfl) ⟨Nat.le_of_ble_eq_true rfl, Nat.le_of_ble_eq_true rfl⟩ (dk kL_flies_3_ok 18 rfl) (r := nI tY) (show (if over cY = true then -1 else nI tY) = nI tY from if_neg (by rw [hsp11]; decide)) ?_
                            refine lv_iload hx hb (dk kL_flies_3_ok 19 rfl) (lv_at hl 9 rfl) ?_
                            refine lv_sipush (v := nI 169) hx hb (dk kL_flies_3_ok 20 rfl) rfl ?_
                            refine lv_icmp_ne (tgt := 355) hx hb (dk kL_flies_3_ok 21 rfl) (by decide) (fun h15 => ?_) (fun h15 => ?_)
                            · skip
                              refine lv_aload_n hx hb (dk kL_flies_3_ok 24 rfl) rfl (lv_at hl 12 rfl) ?_
                              refine lv_iload hx hb (dk kL_flies_3_ok 25 rfl) (lv_at hl 10 rfl) ?_
                              refine csW (As := [.ref (ad 77), .int (nI t)]) (rest := [.int (nI tY)]) ⟨hC.1, hC.2.1, hC.2.2.1, hC.2.2.2.1, hC.2.2.2.2.1⟩ (tL_next l D cI cQ cL ad N F_1 hN77 (upd lo (w / 4) ((lo (w / 4)) + (nI 1))) h77_3 cY t htt (fun k hk => over_f hsp11 hk) hl01) (cwSL 2 hC.2.2.2.2.1 mcL_next (lc0 _ (List.mem_of_getElem? (i := 17) rfl)) msL_next mini_RL rfl rfl hdL_next ⟨Nat.le_of_ble_eq_true rfl, Nat.le_of_ble_eq_true rfl⟩) hDi hC.2.2.2.2.2.1 hP hC.2.2.2.2.2.2.1 hS rfl hl.1 rfl (Nat.le_of_ble_eq_true rfl) ⟨Nat.le_of_ble_eq_true rfl, Nat.le_of_ble_eq_true rfl⟩ (dk kL_flies_3_ok 26 rfl) (fun v9 F9 H locs hp hP hS => ?_)
                              obtain ⟨rfl, hF9⟩ := hp
                              have hK_5 : KW cI cQ ad F9 cY bY vY gY hY jY tY uY zY mY := KW_fr hK_2 (fun i hi => by rw [hF9]; exact va_up_ne _ _ (by omega))
                              have h77_6 : F9 77 = .inl (cI, 4, .inl (pasg cY t 8 (upd lo (w / 4) ((lo (w / 4)) + (nI 1))) t).1) := by rw [hF9]; exact va_up_self _ _ _
                              clear hF9
                              refine W.eq (g2 := F0 m 361 ls [.int (nI ((pasg cY t 8 (upd lo (w / 4) ((lo (w / 4)) + (nI 1))) t).2)), .int (nI tY)]) rfl ?_
                              refine W.eq (g2 := F0 m 361 ls [.int (nI tY), .int (nI tY)]) (by rw [(hen hsp11).1]) ?_
                              refine n_icmp_ne (tgt := 376) hx hb (by omega) (by omega) (dk kL_flies_3_ok 27 rfl) (by decide) (fun h16 => ?_) (fun h16 => ?_)
                              · exact absurd rfl h16
                              · skip
                                refine lv_aload_n hx hb (dk kL_flies_3_ok 28 rfl) rfl (lv_at hl 11 rfl) ?_
                                refine lv_aload_n hx hb (dk kL_flies_3_ok 29 rfl) rfl (lv_at hl 12 rfl) ?_
                                refine csR (As := [.ref (ad 0), .ref (ad 77)]) (rest := []) ⟨hC.1, hC.2.1, hC.2.2.1, hC.2.2.2.1, hC.2.2.2.2.1⟩ (tL_losts l D cI cQ cL ad N F9 hN77 hK_5 ((pasg cY t 8 (upd lo (w / 4) ((lo (w / 4)) + (nI 1))) t).1) h77_6 (hen hsp11).2.1) (cwSL 2 hC.2.2.2.2.1 mcL_losts (lc0 _ (List.mem_of_getElem? (i := 20) rfl)) msL_losts mini_RL rfl rfl hdL_losts ⟨Nat.le_of_ble_eq_true rfl, Nat.le_of_ble_eq_true rfl⟩) hC.2.2.2.2.2.1 hP hC.2.2.2.2.2.2.1 rfl hl.1 rfl (Nat.le_of_ble_eq_true rfl) ⟨Nat.le_of_ble_eq_true rfl, Nat.le_of_ble_eq_true rfl⟩ (dk kL_flies_3_ok 30 rfl) ?_
                                refine n_if_eq (tgt := 376) hx hb (by decide) (dk kL_flies_3_ok 31 rfl) (by decide) (fun h9 => absurd h9 (by decide)) ?_
                                intro _
                                refine lv_iconst (v := nI 1) hx hb (dk kL_flies_3_ok 32 rfl) rfl ?_
                                refine lv_goto (tgt := 377) hx hb (dk kL_flies_3_ok 33 rfl) (by decide) ?_
                                exact hret _ ls _ _ _ ⟨_, _, _, _, _, _, _, _, _, _, _, hK_5, hPQ2, ht, h77_6, fun _ => ⟨(hen hsp11).2.2, (hen hsp11).2.1⟩⟩ hP hS (dk kL_flies_3_ok 35 rfl)
                            · exact absurd h15 (by decide)
                        · exact absurd h13 (by decide)
          · exact absurd h5 (by decide)
        · exact absurd heh h4
set_option maxRecDepth 100000 in
set_option maxHeartbeats 4000000 in
theorem flies_B {p : Program} {l : Launch} {e : Env} {s : State} {m : MethodId} {AR : Array Value} {below : List Frame} {meth : Method} {cd : Code} {Q : State → Prop} {D : va_G} {cI cQ cL : ClassId} {ad : Nat → Nat} {N : Nat} (hN77 : 77 < N) (hC : CX p s m cd cL_flies 16 AR D cI cQ cL ({ frames := 11, cells := 0, slots := 0, locals := 400 } : Room)) (hDi : iD ad N) 
    (hret : ∀ (pc : Nat) (ls : Array Slot) (H : Heap) (locs : List Loc) (F9 : Nat → va_E), LINV cI cQ ad F9 → va_P D vwCl (iW ad N F9) H → va_S (iA ad N s.heap.size) s.heap H locs → decode cL_flies pc = .ok (.ireturn, 1) → W p l e ({ frames := 11, cells := 0, slots := 0, locals := 400 } : Room) s m AR below meth cd H locs 0 0 Q (F0 m pc ls [.int (nI 1)]))
    {cY bY vY gY hY jY : Nat → Int32} {tY : Nat} {uY zY : Int32} {mY : Nat} {w d f t q1 th : Nat} {y0 g0 f0 a0 v0 : Int32} {lo : Nat → Int32} (hw : w < 16) (htt : t < 4) (hq1 : q1 < 169) (hPQ2 : PQ cY bY vY) (ht : tY < 4) (he5 : gY w = g0 + nI 1) (heh : hY (w / 4) = f0 + nI 0) (hea : nI (ptt cY vY (w / 4 % 2)) - nI (ptt cY vY (1 - w / 4 % 2)) = a0) (hecv : nI (covc vY (1 - w / 4 % 2) + covc vY (3 - w / 4 % 2)) = v0) (hec : cY w = -1) (hen : over cY = false → t = tY ∧ (∀ i, i < 4 → (upd lo (w / 4) (lo (w / 4) + nI 0)) i = jY i) ∧ JT jY tY) {F : Nat → va_E} {H : Heap} {locs : List Loc} (hKW : KW cI cQ ad F cY bY vY gY hY jY tY uY zY mY) (h77 : F 77 = .inl (cI, 4, .inl lo)) (hP : va_P D vwCl (iW ad N F) H) (hS : va_S (iA ad N s.heap.size) s.heap H locs) (ls : Array Slot) (hl : lv_has ls 16 [(13, .int v0), (12, .int a0), (11, .int f0), (10, .int g0), (9, .int (nI 0)), (8, .int (nI 169)), (7, .int y0), (6, .int (nI 169)), (5, .int (nI t)), (0, .ref (ad 0)), (1, .ref (ad 77)), (2, .int (nI w)), (3, .int (nI d)), (4, .int (nI f))]) : W p l e ({ frames := 11, cells := 0, slots := 0, locals := 400 } : Room) s m AR below meth cd H locs 0 0 Q (F0 m 125 ls [.int (nI 169)]) := by
  obtain ⟨hx, hb, hml, hown, hts, hK, hNW, hfr, hlo9⟩ := id hC
  have hN76 : 76 < N := by omega
  refine lv_iload hx hb (dk kL_flies_1_ok 12 rfl) (lv_at hl 7 rfl) ?_
  refine n_icmp_ne (tgt := 168) hx hb (by decide) (by decide) (dk kL_flies_1_ok 13 rfl) (by decide) (fun h1 => ?_) (fun h1 => ?_)
  · exact absurd rfl h1
  · skip
    refine lv_aload_n hx hb (dk kL_flies_1_ok 14 rfl) rfl (lv_at hl 9 rfl) ?_
    refine lv_iload_n hx hb (dk kL_flies_1_ok 15 rfl) rfl (lv_at hl 11 rfl) ?_
    refine lv_iconst (v := nI 5) hx hb (dk kL_flies_1_ok 16 rfl) rfl ?_
    refine kw_wink hC hKW hN76 hP ht (w := w) (k := 5) (by omega) (by decide) (lc0 _ (List.mem_of_getElem? (i := 3) rfl)) hl.1 (Nat.le_of_ble_eq_true rfl) ⟨Nat.le_of_ble_eq_true rfl, Nat.le_of_ble_eq_true rfl⟩ (dk kL_flies_1_ok 17 rfl) (r := gY w) rfl ?_
    refine lv_iload hx hb (dk kL_flies_1_ok 18 rfl) (lv_at hl 3 rfl) ?_
    refine lv_iconst (v := nI 1) hx hb (dk kL_flies_1_ok 19 rfl) rfl ?_
    refine lv_iadd hx hb (dk kL_flies_1_ok 20 rfl) ?_
    refine lv_icmp_ne (tgt := 168) hx hb (dk kL_flies_1_ok 21 rfl) (by decide) (fun h2 => ?_) (fun h2 => ?_)
    · exact absurd he5 h2
    · skip
      refine lv_aload_n hx hb (dk kL_flies_1_ok 22 rfl) rfl (lv_at hl 9 rfl) ?_
      refine lv_iload_n hx hb (dk kL_flies_1_ok 23 rfl) rfl (lv_at hl 11 rfl) ?_
      refine lv_iconst (v := nI 4) hx hb (dk kL_flies_1_ok 24 rfl) rfl ?_
      refine n_idiv hx hb (by omega) (by decide) (by decide) (dk kL_flies_1_ok 25 rfl) ?_
      refine lv_iconst (v := nI 4) hx hb (dk kL_flies_1_ok 26 rfl) rfl ?_
      refine kw_colour hC hKW hN76 hP (w := w / 4) (k := 4) (by omega) (by decide) (lc0 _ (List.mem_of_getElem? (i := 13) rfl)) hl.1 (Nat.le_of_ble_eq_true rfl) ⟨Nat.le_of_ble_eq_true rfl, Nat.le_of_ble_eq_true rfl⟩ (dk kL_flies_1_ok 27 rfl) (r := hY (w / 4)) rfl ?_
      refine lv_iload hx hb (dk kL_flies_1_ok 28 rfl) (lv_at hl 2 rfl) ?_
      refine lv_iload hx hb (dk kL_flies_1_ok 29 rfl) (lv_at hl 7 rfl) ?_
      refine lv_iconst (v := -1) hx hb (dk kL_flies_1_ok 30 rfl) rfl ?_
      refine lv_icmp_ne (tgt := 163) hx hb (dk kL_flies_1_ok 31 rfl) (by decide) (fun h3 => ?_) (fun h3 => ?_)
      · skip
        refine lv_iconst (v := nI 0) hx hb (dk kL_flies_1_ok 34 rfl) rfl ?_
        refine lv_iadd hx hb (dk kL_flies_1_ok 35 rfl) ?_
        refine lv_icmp_eq (tgt := 170) hx hb (dk kL_flies_1_ok 36 rfl) (by decide) (fun h4 => ?_) (fun h4 => ?_)
        · skip
          refine lv_iload hx hb (dk kL_flies_1_ok 39 rfl) (lv_at hl 7 rfl) ?_
          refine lv_sipush (v := nI 169) hx hb (dk kL_flies_1_ok 40 rfl) rfl ?_
          refine n_icmp_ne (tgt := 196) hx hb (by decide) (by decide) (dk kL_flies_1_ok 41 rfl) (by decide) (fun h5 => ?_) (fun h5 => ?_)
          · exact absurd rfl h5
          · skip
            refine lv_aload_n hx hb (dk kL_flies_1_ok 42 rfl) rfl (lv_at hl 9 rfl) ?_
            refine lv_iload_n hx hb (dk kL_flies_1_ok 43 rfl) rfl (lv_at hl 11 rfl) ?_
            refine lv_iconst (v := nI 2) hx hb (dk kL_flies_1_ok 44 rfl) rfl ?_
            refine kw_wink hC hKW hN76 hP ht (w := w) (k := 2) (by omega) (by decide) (lc0 _ (List.mem_of_getElem? (i := 3) rfl)) hl.1 (Nat.le_of_ble_eq_true rfl) ⟨Nat.le_of_ble_eq_true rfl, Nat.le_of_ble_eq_true rfl⟩ (dk kL_flies_1_ok 45 rfl) (r := cY w) rfl ?_
            refine lv_iconst (v := -1) hx hb (dk kL_flies_1_ok 46 rfl) rfl ?_
            refine lv_icmp_ne (tgt := 192) hx hb (dk kL_flies_1_ok 47 rfl) (by decide) (fun h6 => ?_) (fun h6 => ?_)
            · exact absurd hec h6
            · skip
              refine lv_iconst (v := nI 1) hx hb (dk kL_flies_1_ok 48 rfl) rfl ?_
              refine lv_goto (tgt := 232) hx hb (dk kL_flies_1_ok 49 rfl) (by decide) ?_
              refine lv_istore (lv' := [(14, .int (nI 1)), (13, .int v0), (12, .int a0), (11, .int f0), (10, .int g0), (9, .int (nI 0)), (8, .int (nI 169)), (7, .int y0), (6, .int (nI 169)), (5, .int (nI t)), (0, .ref (ad 0)), (1, .ref (ad 77)), (2, .int (nI w)), (3, .int (nI d)), (4, .int (nI f))]) hx hb (dk kL_flies_2_ok 12 rfl) hl (by decide) rfl (fun ls hl => ?_)
              refine lv_iload_n hx hb (dk kL_flies_2_ok 13 rfl) rfl (lv_at hl 12 rfl) ?_
              refine lv_iconst (v := nI 4) hx hb (dk kL_flies_2_ok 14 rfl) rfl ?_
              refine n_idiv hx hb (by omega) (by decide) (by decide) (dk kL_flies_2_ok 15 rfl) ?_
              refine lv_iconst (v := nI 2) hx hb (dk kL_flies_2_ok 16 rfl) rfl ?_
              refine n_irem hx hb (by omega) (by decide) (by decide) (dk kL_flies_2_ok 17 rfl) ?_
              refine lv_istore (lv' := [(15, .int (nI ((w / 4) % 2))), (14, .int (nI 1)), (13, .int v0), (12, .int a0), (11, .int f0), (10, .int g0), (9, .int (nI 0)), (8, .int (nI 169)), (7, .int y0), (6, .int (nI 169)), (5, .int (nI t)), (0, .ref (ad 0)), (1, .ref (ad 77)), (2, .int (nI w)), (3, .int (nI d)), (4, .int (nI f))]) hx hb (dk kL_flies_2_ok 18 rfl) hl (by decide) rfl (fun ls hl => ?_)
              refine lv_iload hx hb (dk kL_flies_2_ok 19 rfl) (lv_at hl 1 rfl) ?_
              refine n_if_eq (tgt := 298) hx hb (by decide) (dk kL_flies_2_ok 20 rfl) (by decide) (fun h9 => absurd h9 (by decide)) ?_
              intro _
              refine lv_aload_n hx hb (dk kL_flies_2_ok 21 rfl) rfl (lv_at hl 11 rfl) ?_
              refine lv_bipush (v := nI 10) hx hb (dk kL_flies_2_ok 22 rfl) rfl ?_
              refine lv_iload hx hb (dk kL_flies_2_ok 23 rfl) (lv_at hl 0 rfl) ?_
              refine n_iadd hx hb (dk kL_flies_2_ok 24 rfl) ?_
              refine kw_count hC hKW hN76 hP (k := 10 + ((w / 4) % 2)) (by omega) (lc0 _ (List.mem_of_getElem? (i := 14) rfl)) hl.1 (Nat.le_of_ble_eq_true rfl) ⟨Nat.le_of_ble_eq_true rfl, Nat.le_of_ble_eq_true rfl⟩ (dk kL_flies_2_ok 25 rfl) (r := nI (ptt cY vY (w / 4 % 2))) (cCnt_10 (by omega)) ?_
              refine lv_aload_n hx hb (dk kL_flies_2_ok 26 rfl) rfl (lv_at hl 11 rfl) ?_
              refine lv_bipush (v := nI 11) hx hb (dk kL_flies_2_ok 27 rfl) rfl ?_
              refine lv_iload hx hb (dk kL_flies_2_ok 28 rfl) (lv_at hl 0 rfl) ?_
              refine n_isub hx hb (by omega) (dk kL_flies_2_ok 29 rfl) ?_
              refine kw_count hC hKW hN76 hP (k := 11 - ((w / 4) % 2)) (by omega) (lc0 _ (List.mem_of_getElem? (i := 14) rfl)) hl.1 (Nat.le_of_ble_eq_true rfl) ⟨Nat.le_of_ble_eq_true rfl, Nat.le_of_ble_eq_true rfl⟩ (dk kL_flies_2_ok 30 rfl) (r := nI (ptt cY vY (1 - w / 4 % 2))) (cCnt_11 (by omega)) ?_
              refine lv_isub hx hb (dk kL_flies_2_ok 31 rfl) ?_
              refine lv_iload hx hb (dk kL_flies_2_ok 32 rfl) (lv_at hl 3 rfl) ?_
              refine lv_icmp_ne (tgt := 298) hx hb (dk kL_flies_2_ok 33 rfl) (by decide) (fun h7 => ?_) (fun h7 => ?_)
              · exact absurd hea h7
              · skip
                refine lv_aload_n hx hb (dk kL_flies_2_ok 34 rfl) rfl (lv_at hl 11 rfl) ?_
                refine lv_iconst (v := nI 1) hx hb (dk kL_flies_2_ok 35 rfl) rfl ?_
                refine lv_iload hx hb (dk kL_flies_2_ok 36 rfl) (lv_at hl 0 rfl) ?_
                refine n_isub hx hb (by omega) (dk kL_flies_2_ok 37 rfl) ?_
                refine lv_iconst (v := nI 1) hx hb (dk kL_flies_2_ok 38 rfl) rfl ?_
                refine kw_colour hC hKW hN76 hP (w := 1 - ((w / 4) % 2)) (k := 1) (by omega) (by decide) (lc0 _ (List.mem_of_getElem? (i := 13) rfl)) hl.1 (Nat.le_of_ble_eq_true rfl) ⟨Nat.le_of_ble_eq_true rfl, Nat.le_of_ble_eq_true rfl⟩ (dk kL_flies_2_ok 39 rfl) (r := nI (covc vY (1 - ((w / 4) % 2)))) rfl ?_
                refine lv_aload_n hx hb (dk kL_flies_2_ok 40 rfl) rfl (lv_at hl 11 rfl) ?_
                refine lv_iconst (v := nI 3) hx hb (dk kL_flies_2_ok 41 rfl) rfl ?_
                refine lv_iload hx hb (dk kL_flies_2_ok 42 rfl) (lv_at hl 0 rfl) ?_
                refine n_isub hx hb (by omega) (dk kL_flies_2_ok 43 rfl) ?_
                refine lv_iconst (v := nI 1) hx hb (dk kL_flies_2_ok 44 rfl) rfl ?_
                refine kw_colour hC hKW hN76 hP (w := 3 - ((w / 4) % 2)) (k := 1) (by omega) (by decide) (lc0 _ (List.mem_of_getElem? (i := 13) rfl)) hl.1 (Nat.le_of_ble_eq_true rfl) ⟨Nat.le_of_ble_eq_true rfl, Nat.le_of_ble_eq_true rfl⟩ (dk kL_flies_2_ok 45 rfl) (r := nI (covc vY (3 - ((w / 4) % 2)))) rfl ?_
                refine n_iadd hx hb (dk kL_flies_2_ok 46 rfl) ?_
                refine lv_iload hx hb (dk kL_flies_2_ok 47 rfl) (lv_at hl 2 rfl) ?_
                refine lv_icmp_ne (tgt := 298) hx hb (dk kL_flies_2_ok 48 rfl) (by decide) (fun h8 => ?_) (fun h8 => ?_)
                · exact absurd hecv h8
                · skip
                  refine lv_iconst (v := nI 1) hx hb (dk kL_flies_2_ok 49 rfl) rfl ?_
                  refine lv_goto (tgt := 299) hx hb (dk kL_flies_2_ok 50 rfl) (by decide) ?_
                  refine lv_istore (lv' := [(14, .int (nI 1)), (15, .int (nI ((w / 4) % 2))), (13, .int v0), (12, .int a0), (11, .int f0), (10, .int g0), (9, .int (nI 0)), (8, .int (nI 169)), (7, .int y0), (6, .int (nI 169)), (5, .int (nI t)), (0, .ref (ad 0)), (1, .ref (ad 77)), (2, .int (nI w)), (3, .int (nI d)), (4, .int (nI f))]) hx hb (dk kL_flies_2_ok 52 rfl) hl (by decide) rfl (fun ls hl => ?_)
                  rcases (Bool.eq_false_or_eq_true (over cY)) with hsp9 | hsp9
                  · skip
                    refine lv_aload_n hx hb (dk kL_flies_2_ok 53 rfl) rfl (lv_at hl 11 rfl) ?_
                    refine lv_iconst (v := nI 1) hx hb (dk kL_flies_2_ok 54 rfl) rfl ?_
                    refine kw_count hC hKW hN76 hP (k := 1) (by decide) (lc0 _ (List.mem_of_getElem? (i := 14) rfl)) hl.1 (Nat.le_of_ble_eq_true rfl) ⟨Nat.le_of_ble_eq_true rfl, Nat.le_of_ble_eq_true rfl⟩ (dk kL_flies_2_ok 55 rfl) (r := nI 1) (show (if over cY = true then nI 1 else nI 0) = nI 1 from if_pos hsp9) ?_
                    refine lv_iconst (v := nI 1) hx hb (dk kL_flies_2_ok 56 rfl) rfl ?_
                    refine n_icmp_ne (tgt := 313) hx hb (by decide) (by decide) (dk kL_flies_2_ok 57 rfl) (by decide) (fun h10 => ?_) (fun h10 => ?_)
                    · exact absurd rfl h10
                    · skip
                      refine lv_iload hx hb (dk kL_flies_2_ok 58 rfl) (lv_at hl 0 rfl) ?_
                      exact hret _ ls _ _ _ ⟨_, _, _, _, _, _, _, _, _, _, _, hKW, hPQ2, ht, h77, fun ho => absurd (hsp9.symm.trans ho) (by decide)⟩ hP hS (dk kL_flies_2_ok 59 rfl)
                  · skip
                    refine lv_aload_n hx hb (dk kL_flies_2_ok 53 rfl) rfl (lv_at hl 11 rfl) ?_
                    refine lv_iconst (v := nI 1) hx hb (dk kL_flies_2_ok 54 rfl) rfl ?_
                    refine kw_count hC hKW hN76 hP (k := 1) (by decide) (lc0 _ (List.mem_of_getElem? (i := 14) rfl)) hl.1 (Nat.le_of_ble_eq_true rfl) ⟨Nat.le_of_ble_eq_true rfl, Nat.le_of_ble_eq_true rfl⟩ (dk kL_flies_2_ok 55 rfl) (r := nI 0) (show (if over cY = true then nI 1 else nI 0) = nI 0 from if_neg (by rw [hsp9]; decide)) ?_
                    refine lv_iconst (v := nI 1) hx hb (dk kL_flies_2_ok 56 rfl) rfl ?_
                    refine n_icmp_ne (tgt := 313) hx hb (by decide) (by decide) (dk kL_flies_2_ok 57 rfl) (by decide) (fun h11 => ?_) (fun h11 => ?_)
                    · skip
                      refine lv_aload_n hx hb (dk kL_flies_3_ok 0 rfl) rfl (lv_at hl 12 rfl) ?_
                      refine lv_iload_n hx hb (dk kL_flies_3_ok 1 rfl) rfl (lv_at hl 13 rfl) ?_
                      refine lv_iconst (v := nI 4) hx hb (dk kL_flies_3_ok 2 rfl) rfl ?_
                      refine n_idiv hx hb (by omega) (by decide) (by decide) (dk kL_flies_3_ok 3 rfl) ?_
                      refine lv_dup2_11 hx hb (dk kL_flies_3_ok 4 rfl) rfl rfl ?_
                      refine ald (j := (w / 4)) hx hb hK hP (by omega) h77 rfl (by omega) (by decide) (dk kL_flies_3_ok 5 rfl) ?_
                      refine lv_iload hx hb (dk kL_flies_3_ok 6 rfl) (lv_at hl 9 rfl) ?_
                      refine lv_iconst (v := -1) hx hb (dk kL_flies_3_ok 7 rfl) rfl ?_
                      refine lv_icmp_ne (tgt := 329) hx hb (dk kL_flies_3_ok 8 rfl) (by decide) (fun h12 => ?_) (fun h12 => ?_)
                      · skip
                        refine lv_iconst (v := nI 0) hx hb (dk kL_flies_3_ok 11 rfl) rfl ?_
                        refine lv_iadd hx hb (dk kL_flies_3_ok 12 rfl) ?_
                        refine ast (va_up F 77 (.inl (cI, 4, .inl (upd lo (w / 4) ((lo (w / 4)) + (nI 0)))))) (k := 77) (j := w / 4) hx hb hC.2.2.2.2.2.1 hDi hP hS (by omega) h77 rfl (by omega) (by decide) (dk kL_flies_3_ok 13 rfl) rfl (fun H locs hP hS => ?_)
                        have hK_2 : KW cI cQ ad (va_up F 77 (.inl (cI, 4, .inl (upd lo (w / 4) ((lo (w / 4)) + (nI 0)))))) cY bY vY gY hY jY tY uY zY mY := KW_fr hKW (fun i hi => va_up_ne _ _ (by omega))
                        have h77_3 : va_up F 77 (.inl (cI, 4, .inl (upd lo (w / 4) ((lo (w / 4)) + (nI 0))))) 77 = .inl (cI, 4, .inl (upd lo (w / 4) ((lo (w / 4)) + (nI 0)))) := va_up_self _ _ _
                        generalize va_up F 77 (.inl (cI, 4, .inl (upd lo (w / 4) ((lo (w / 4)) + (nI 0))))) = F_1 at hP hK_2 h77_3
                        refine lv_iload hx hb (dk kL_flies_3_ok 14 rfl) (lv_at hl 0 rfl) ?_
                        refine n_if_eq (tgt := 376) hx hb (by decide) (dk kL_flies_3_ok 15 rfl) (by decide) (fun h9 => absurd h9 (by decide)) ?_
                        intro _
                        refine lv_aload_n hx hb (dk kL_flies_3_ok 16 rfl) rfl (lv_at hl 11 rfl) ?_
                        refine lv_iconst (v := nI 0) hx hb (dk kL_flies_3_ok 17 rfl) rfl ?_
                        refine kw_count hC hK_2 hN76 hP (k := 0) (by decide) (lc0 _ (List.mem_of_getElem? (i := 14) rfl)) hl.1 (Nat.le_of_ble_eq_true rfl) ⟨Nat.le_of_ble_eq_true rfl, Nat.le_of_ble_eq_true rfl⟩ (dk kL_flies_3_ok 18 rfl) (r := nI tY) (show (if over cY = true then -1 else nI tY) = nI tY from if_neg (by rw [hsp9]; decide)) ?_
                        refine lv_iload hx hb (dk kL_flies_3_ok 19 rfl) (lv_at hl 9 rfl) ?_
                        refine lv_sipush (v := nI 169) hx hb (dk kL_flies_3_ok 20 rfl) rfl ?_
                        refine n_icmp_ne (tgt := 355) hx hb (by decide) (by decide) (dk kL_flies_3_ok 21 rfl) (by decide) (fun h13 => ?_) (fun h13 => ?_)
                        · exact absurd rfl h13
                        · skip
                          refine lv_iload hx hb (dk kL_flies_3_ok 22 rfl) (lv_at hl 10 rfl) ?_
                          refine lv_goto (tgt := 361) hx hb (dk kL_flies_3_ok 23 rfl) (by decide) ?_
                          refine W.eq (g2 := F0 m 361 ls [.int (nI tY), .int (nI tY)]) (by rw [(hen hsp9).1]) ?_
                          refine n_icmp_ne (tgt := 376) hx hb (by omega) (by omega) (dk kL_flies_3_ok 27 rfl) (by decide) (fun h14 => ?_) (fun h14 => ?_)
                          · exact absurd rfl h14
                          · skip
                            refine lv_aload_n hx hb (dk kL_flies_3_ok 28 rfl) rfl (lv_at hl 11 rfl) ?_
                            refine lv_aload_n hx hb (dk kL_flies_3_ok 29 rfl) rfl (lv_at hl 12 rfl) ?_
                            refine csR (As := [.ref (ad 0), .ref (ad 77)]) (rest := []) ⟨hC.1, hC.2.1, hC.2.2.1, hC.2.2.2.1, hC.2.2.2.2.1⟩ (tL_losts l D cI cQ cL ad N F_1 hN77 hK_2 (upd lo (w / 4) ((lo (w / 4)) + (nI 0))) h77_3 (hen hsp9).2.1) (cwSL 2 hC.2.2.2.2.1 mcL_losts (lc0 _ (List.mem_of_getElem? (i := 20) rfl)) msL_losts mini_RL rfl rfl hdL_losts ⟨Nat.le_of_ble_eq_true rfl, Nat.le_of_ble_eq_true rfl⟩) hC.2.2.2.2.2.1 hP hC.2.2.2.2.2.2.1 rfl hl.1 rfl (Nat.le_of_ble_eq_true rfl) ⟨Nat.le_of_ble_eq_true rfl, Nat.le_of_ble_eq_true rfl⟩ (dk kL_flies_3_ok 30 rfl) ?_
                            refine n_if_eq (tgt := 376) hx hb (by decide) (dk kL_flies_3_ok 31 rfl) (by decide) (fun h9 => absurd h9 (by decide)) ?_
                            intro _
                            refine lv_iconst (v := nI 1) hx hb (dk kL_flies_3_ok 32 rfl) rfl ?_
                            refine lv_goto (tgt := 377) hx hb (dk kL_flies_3_ok 33 rfl) (by decide) ?_
                            exact hret _ ls _ _ _ ⟨_, _, _, _, _, _, _, _, _, _, _, hK_2, hPQ2, ht, h77_3, fun _ => ⟨(hen hsp9).2.2, (hen hsp9).2.1⟩⟩ hP hS (dk kL_flies_3_ok 35 rfl)
                      · exact absurd h12 (by decide)
                    · exact absurd h11 (by decide)
        · exact absurd heh h4
      · exact absurd h3 (by decide)
set_option maxRecDepth 100000 in
set_option maxHeartbeats 4000000 in
theorem flies_C {p : Program} {l : Launch} {e : Env} {s : State} {m : MethodId} {AR : Array Value} {below : List Frame} {meth : Method} {cd : Code} {Q : State → Prop} {D : va_G} {cI cQ cL : ClassId} {ad : Nat → Nat} {N : Nat} (hN77 : 77 < N) (hC : CX p s m cd cL_flies 16 AR D cI cQ cL ({ frames := 11, cells := 0, slots := 0, locals := 400 } : Room)) (hDi : iD ad N) 
    (hret : ∀ (pc : Nat) (ls : Array Slot) (H : Heap) (locs : List Loc) (F9 : Nat → va_E), LINV cI cQ ad F9 → va_P D vwCl (iW ad N F9) H → va_S (iA ad N s.heap.size) s.heap H locs → decode cL_flies pc = .ok (.ireturn, 1) → W p l e ({ frames := 11, cells := 0, slots := 0, locals := 400 } : Room) s m AR below meth cd H locs 0 0 Q (F0 m pc ls [.int (nI 1)]))
    {cY bY vY gY hY jY : Nat → Int32} {tY : Nat} {uY zY : Int32} {mY : Nat} {w d f t q1 th : Nat} {y0 g0 f0 a0 v0 : Int32} {lo : Nat → Int32} (hw : w < 16) (htt : t < 4) (hq1 : q1 < 169) (hPQ2 : PQ cY bY vY) (ht : tY < 4) (he5 : gY w = g0 + nI 1) (heh : hY (w / 4) = f0 + nI 0) (hea : nI (ptt cY vY (w / 4 % 2)) - nI (ptt cY vY (1 - w / 4 % 2)) = a0) (hecv : nI (covc vY (1 - w / 4 % 2) + covc vY (3 - w / 4 % 2)) = v0) (hec : cY w = nI q1) (hep : pls cY bY w = nI th) (hev : cov vY w = false) (hl01 : ∀ i, i < 4 → (upd lo (w / 4) (lo (w / 4) + nI 0)) i = nI 0 ∨ (upd lo (w / 4) (lo (w / 4) + nI 0)) i = nI 1) (hen : over cY = false → (pasg cY t 8 (upd lo (w / 4) (lo (w / 4) + nI 0)) t).2 = tY ∧ (∀ i, i < 4 → (pasg cY t 8 (upd lo (w / 4) (lo (w / 4) + nI 0)) t).1 i = jY i) ∧ JT jY tY) {F : Nat → va_E} {H : Heap} {locs : List Loc} (hKW : KW cI cQ ad F cY bY vY gY hY jY tY uY zY mY) (h77 : F 77 = .inl (cI, 4, .inl lo)) (hP : va_P D vwCl (iW ad N F) H) (hS : va_S (iA ad N s.heap.size) s.heap H locs) (ls : Array Slot) (hl : lv_has ls 16 [(13, .int v0), (12, .int a0), (11, .int f0), (10, .int g0), (9, .int (nI th)), (8, .int (nI q1)), (7, .int y0), (6, .int (nI q1)), (5, .int (nI t)), (0, .ref (ad 0)), (1, .ref (ad 77)), (2, .int (nI w)), (3, .int (nI d)), (4, .int (nI f))]) : W p l e ({ frames := 11, cells := 0, slots := 0, locals := 400 } : Room) s m AR below meth cd H locs 0 0 Q (F0 m 125 ls [.int (nI q1)]) := by
  obtain ⟨hx, hb, hml, hown, hts, hK, hNW, hfr, hlo9⟩ := id hC
  have hN76 : 76 < N := by omega
  refine lv_iload hx hb (dk kL_flies_1_ok 12 rfl) (lv_at hl 7 rfl) ?_
  refine n_icmp_ne (tgt := 168) hx hb (by omega) (by omega) (dk kL_flies_1_ok 13 rfl) (by decide) (fun h1 => ?_) (fun h1 => ?_)
  · exact absurd rfl h1
  · skip
    refine lv_aload_n hx hb (dk kL_flies_1_ok 14 rfl) rfl (lv_at hl 9 rfl) ?_
    refine lv_iload_n hx hb (dk kL_flies_1_ok 15 rfl) rfl (lv_at hl 11 rfl) ?_
    refine lv_iconst (v := nI 5) hx hb (dk kL_flies_1_ok 16 rfl) rfl ?_
    refine kw_wink hC hKW hN76 hP ht (w := w) (k := 5) (by omega) (by decide) (lc0 _ (List.mem_of_getElem? (i := 3) rfl)) hl.1 (Nat.le_of_ble_eq_true rfl) ⟨Nat.le_of_ble_eq_true rfl, Nat.le_of_ble_eq_true rfl⟩ (dk kL_flies_1_ok 17 rfl) (r := gY w) rfl ?_
    refine lv_iload hx hb (dk kL_flies_1_ok 18 rfl) (lv_at hl 3 rfl) ?_
    refine lv_iconst (v := nI 1) hx hb (dk kL_flies_1_ok 19 rfl) rfl ?_
    refine lv_iadd hx hb (dk kL_flies_1_ok 20 rfl) ?_
    refine lv_icmp_ne (tgt := 168) hx hb (dk kL_flies_1_ok 21 rfl) (by decide) (fun h2 => ?_) (fun h2 => ?_)
    · exact absurd he5 h2
    · skip
      refine lv_aload_n hx hb (dk kL_flies_1_ok 22 rfl) rfl (lv_at hl 9 rfl) ?_
      refine lv_iload_n hx hb (dk kL_flies_1_ok 23 rfl) rfl (lv_at hl 11 rfl) ?_
      refine lv_iconst (v := nI 4) hx hb (dk kL_flies_1_ok 24 rfl) rfl ?_
      refine n_idiv hx hb (by omega) (by decide) (by decide) (dk kL_flies_1_ok 25 rfl) ?_
      refine lv_iconst (v := nI 4) hx hb (dk kL_flies_1_ok 26 rfl) rfl ?_
      refine kw_colour hC hKW hN76 hP (w := w / 4) (k := 4) (by omega) (by decide) (lc0 _ (List.mem_of_getElem? (i := 13) rfl)) hl.1 (Nat.le_of_ble_eq_true rfl) ⟨Nat.le_of_ble_eq_true rfl, Nat.le_of_ble_eq_true rfl⟩ (dk kL_flies_1_ok 27 rfl) (r := hY (w / 4)) rfl ?_
      refine lv_iload hx hb (dk kL_flies_1_ok 28 rfl) (lv_at hl 2 rfl) ?_
      refine lv_iload hx hb (dk kL_flies_1_ok 29 rfl) (lv_at hl 7 rfl) ?_
      refine lv_iconst (v := -1) hx hb (dk kL_flies_1_ok 30 rfl) rfl ?_
      refine lv_icmp_ne (tgt := 163) hx hb (dk kL_flies_1_ok 31 rfl) (by decide) (fun h3 => ?_) (fun h3 => ?_)
      · skip
        refine lv_iconst (v := nI 0) hx hb (dk kL_flies_1_ok 34 rfl) rfl ?_
        refine lv_iadd hx hb (dk kL_flies_1_ok 35 rfl) ?_
        refine lv_icmp_eq (tgt := 170) hx hb (dk kL_flies_1_ok 36 rfl) (by decide) (fun h4 => ?_) (fun h4 => ?_)
        · skip
          refine lv_iload hx hb (dk kL_flies_1_ok 39 rfl) (lv_at hl 7 rfl) ?_
          refine lv_sipush (v := nI 169) hx hb (dk kL_flies_1_ok 40 rfl) rfl ?_
          refine n_icmp_ne (tgt := 196) hx hb (by omega) (by decide) (dk kL_flies_1_ok 41 rfl) (by decide) (fun h5 => ?_) (fun h5 => ?_)
          · skip
            refine lv_aload_n hx hb (dk kL_flies_1_ok 52 rfl) rfl (lv_at hl 9 rfl) ?_
            refine lv_iload_n hx hb (dk kL_flies_1_ok 53 rfl) rfl (lv_at hl 11 rfl) ?_
            refine lv_iconst (v := nI 2) hx hb (dk kL_flies_1_ok 54 rfl) rfl ?_
            refine kw_wink hC hKW hN76 hP ht (w := w) (k := 2) (by omega) (by decide) (lc0 _ (List.mem_of_getElem? (i := 3) rfl)) hl.1 (Nat.le_of_ble_eq_true rfl) ⟨Nat.le_of_ble_eq_true rfl, Nat.le_of_ble_eq_true rfl⟩ (dk kL_flies_1_ok 55 rfl) (r := cY w) rfl ?_
            refine lv_iload hx hb (dk kL_flies_1_ok 56 rfl) (lv_at hl 5 rfl) ?_
            refine lv_icmp_ne (tgt := 231) hx hb (dk kL_flies_1_ok 57 rfl) (by decide) (fun h6 => ?_) (fun h6 => ?_)
            · exact absurd hec h6
            · skip
              refine lv_aload_n hx hb (dk kL_flies_1_ok 58 rfl) rfl (lv_at hl 9 rfl) ?_
              refine lv_iload_n hx hb (dk kL_flies_1_ok 59 rfl) rfl (lv_at hl 11 rfl) ?_
              refine lv_iconst (v := nI 3) hx hb (dk kL_flies_2_ok 0 rfl) rfl ?_
              refine kw_wink hC hKW hN76 hP ht (w := w) (k := 3) (by omega) (by decide) (lc0 _ (List.mem_of_getElem? (i := 3) rfl)) hl.1 (Nat.le_of_ble_eq_true rfl) ⟨Nat.le_of_ble_eq_true rfl, Nat.le_of_ble_eq_true rfl⟩ (dk kL_flies_2_ok 1 rfl) (r := pls cY bY w) rfl ?_
              refine lv_iload hx hb (dk kL_flies_2_ok 2 rfl) (lv_at hl 4 rfl) ?_
              refine lv_icmp_ne (tgt := 231) hx hb (dk kL_flies_2_ok 3 rfl) (by decide) (fun h7 => ?_) (fun h7 => ?_)
              · exact absurd hep h7
              · skip
                refine lv_aload_n hx hb (dk kL_flies_2_ok 4 rfl) rfl (lv_at hl 9 rfl) ?_
                refine lv_iload_n hx hb (dk kL_flies_2_ok 5 rfl) rfl (lv_at hl 11 rfl) ?_
                refine lv_iconst (v := nI 4) hx hb (dk kL_flies_2_ok 6 rfl) rfl ?_
                refine kw_wink hC hKW hN76 hP ht (w := w) (k := 4) (by omega) (by decide) (lc0 _ (List.mem_of_getElem? (i := 3) rfl)) hl.1 (Nat.le_of_ble_eq_true rfl) ⟨Nat.le_of_ble_eq_true rfl, Nat.le_of_ble_eq_true rfl⟩ (dk kL_flies_2_ok 7 rfl) (r := bI (cov vY w)) rfl ?_
                refine b_if_ne (tgt := 231) hx hb (dk kL_flies_2_ok 8 rfl) (by decide) (fun h8 => ?_) (fun h8 => ?_)
                · exact absurd (hev.symm.trans h8) (by decide)
                · skip
                  refine lv_iconst (v := nI 1) hx hb (dk kL_flies_2_ok 9 rfl) rfl ?_
                  refine lv_goto (tgt := 232) hx hb (dk kL_flies_2_ok 10 rfl) (by decide) ?_
                  refine lv_istore (lv' := [(14, .int (nI 1)), (13, .int v0), (12, .int a0), (11, .int f0), (10, .int g0), (9, .int (nI th)), (8, .int (nI q1)), (7, .int y0), (6, .int (nI q1)), (5, .int (nI t)), (0, .ref (ad 0)), (1, .ref (ad 77)), (2, .int (nI w)), (3, .int (nI d)), (4, .int (nI f))]) hx hb (dk kL_flies_2_ok 12 rfl) hl (by decide) rfl (fun ls hl => ?_)
                  refine lv_iload_n hx hb (dk kL_flies_2_ok 13 rfl) rfl (lv_at hl 12 rfl) ?_
                  refine lv_iconst (v := nI 4) hx hb (dk kL_flies_2_ok 14 rfl) rfl ?_
                  refine n_idiv hx hb (by omega) (by decide) (by decide) (dk kL_flies_2_ok 15 rfl) ?_
                  refine lv_iconst (v := nI 2) hx hb (dk kL_flies_2_ok 16 rfl) rfl ?_
                  refine n_irem hx hb (by omega) (by decide) (by decide) (dk kL_flies_2_ok 17 rfl) ?_
                  refine lv_istore (lv' := [(15, .int (nI ((w / 4) % 2))), (14, .int (nI 1)), (13, .int v0), (12, .int a0), (11, .int f0), (10, .int g0), (9, .int (nI th)), (8, .int (nI q1)), (7, .int y0), (6, .int (nI q1)), (5, .int (nI t)), (0, .ref (ad 0)), (1, .ref (ad 77)), (2, .int (nI w)), (3, .int (nI d)), (4, .int (nI f))]) hx hb (dk kL_flies_2_ok 18 rfl) hl (by decide) rfl (fun ls hl => ?_)
                  refine lv_iload hx hb (dk kL_flies_2_ok 19 rfl) (lv_at hl 1 rfl) ?_
                  refine n_if_eq (tgt := 298) hx hb (by decide) (dk kL_flies_2_ok 20 rfl) (by decide) (fun h9 => absurd h9 (by decide)) ?_
                  intro _
                  refine lv_aload_n hx hb (dk kL_flies_2_ok 21 rfl) rfl (lv_at hl 11 rfl) ?_
                  refine lv_bipush (v := nI 10) hx hb (dk kL_flies_2_ok 22 rfl) rfl ?_
                  refine lv_iload hx hb (dk kL_flies_2_ok 23 rfl) (lv_at hl 0 rfl) ?_
                  refine n_iadd hx hb (dk kL_flies_2_ok 24 rfl) ?_
                  refine kw_count hC hKW hN76 hP (k := 10 + ((w / 4) % 2)) (by omega) (lc0 _ (List.mem_of_getElem? (i := 14) rfl)) hl.1 (Nat.le_of_ble_eq_true rfl) ⟨Nat.le_of_ble_eq_true rfl, Nat.le_of_ble_eq_true rfl⟩ (dk kL_flies_2_ok 25 rfl) (r := nI (ptt cY vY (w / 4 % 2))) (cCnt_10 (by omega)) ?_
                  refine lv_aload_n hx hb (dk kL_flies_2_ok 26 rfl) rfl (lv_at hl 11 rfl) ?_
                  refine lv_bipush (v := nI 11) hx hb (dk kL_flies_2_ok 27 rfl) rfl ?_
                  refine lv_iload hx hb (dk kL_flies_2_ok 28 rfl) (lv_at hl 0 rfl) ?_
                  refine n_isub hx hb (by omega) (dk kL_flies_2_ok 29 rfl) ?_
                  refine kw_count hC hKW hN76 hP (k := 11 - ((w / 4) % 2)) (by omega) (lc0 _ (List.mem_of_getElem? (i := 14) rfl)) hl.1 (Nat.le_of_ble_eq_true rfl) ⟨Nat.le_of_ble_eq_true rfl, Nat.le_of_ble_eq_true rfl⟩ (dk kL_flies_2_ok 30 rfl) (r := nI (ptt cY vY (1 - w / 4 % 2))) (cCnt_11 (by omega)) ?_
                  refine lv_isub hx hb (dk kL_flies_2_ok 31 rfl) ?_
                  refine lv_iload hx hb (dk kL_flies_2_ok 32 rfl) (lv_at hl 3 rfl) ?_
                  refine lv_icmp_ne (tgt := 298) hx hb (dk kL_flies_2_ok 33 rfl) (by decide) (fun h9 => ?_) (fun h9 => ?_)
                  · exact absurd hea h9
                  · skip
                    refine lv_aload_n hx hb (dk kL_flies_2_ok 34 rfl) rfl (lv_at hl 11 rfl) ?_
                    refine lv_iconst (v := nI 1) hx hb (dk kL_flies_2_ok 35 rfl) rfl ?_
                    refine lv_iload hx hb (dk kL_flies_2_ok 36 rfl) (lv_at hl 0 rfl) ?_
                    refine n_isub hx hb (by omega) (dk kL_flies_2_ok 37 rfl) ?_
                    refine lv_iconst (v := nI 1) hx hb (dk kL_flies_2_ok 38 rfl) rfl ?_
                    refine kw_colour hC hKW hN76 hP (w := 1 - ((w / 4) % 2)) (k := 1) (by omega) (by decide) (lc0 _ (List.mem_of_getElem? (i := 13) rfl)) hl.1 (Nat.le_of_ble_eq_true rfl) ⟨Nat.le_of_ble_eq_true rfl, Nat.le_of_ble_eq_true rfl⟩ (dk kL_flies_2_ok 39 rfl) (r := nI (covc vY (1 - ((w / 4) % 2)))) rfl ?_
                    refine lv_aload_n hx hb (dk kL_flies_2_ok 40 rfl) rfl (lv_at hl 11 rfl) ?_
                    refine lv_iconst (v := nI 3) hx hb (dk kL_flies_2_ok 41 rfl) rfl ?_
                    refine lv_iload hx hb (dk kL_flies_2_ok 42 rfl) (lv_at hl 0 rfl) ?_
                    refine n_isub hx hb (by omega) (dk kL_flies_2_ok 43 rfl) ?_
                    refine lv_iconst (v := nI 1) hx hb (dk kL_flies_2_ok 44 rfl) rfl ?_
                    refine kw_colour hC hKW hN76 hP (w := 3 - ((w / 4) % 2)) (k := 1) (by omega) (by decide) (lc0 _ (List.mem_of_getElem? (i := 13) rfl)) hl.1 (Nat.le_of_ble_eq_true rfl) ⟨Nat.le_of_ble_eq_true rfl, Nat.le_of_ble_eq_true rfl⟩ (dk kL_flies_2_ok 45 rfl) (r := nI (covc vY (3 - ((w / 4) % 2)))) rfl ?_
                    refine n_iadd hx hb (dk kL_flies_2_ok 46 rfl) ?_
                    refine lv_iload hx hb (dk kL_flies_2_ok 47 rfl) (lv_at hl 2 rfl) ?_
                    refine lv_icmp_ne (tgt := 298) hx hb (dk kL_flies_2_ok 48 rfl) (by decide) (fun h10 => ?_) (fun h10 => ?_)
                    · exact absurd hecv h10
                    · skip
                      refine lv_iconst (v := nI 1) hx hb (dk kL_flies_2_ok 49 rfl) rfl ?_
                      refine lv_goto (tgt := 299) hx hb (dk kL_flies_2_ok 50 rfl) (by decide) ?_
                      refine lv_istore (lv' := [(14, .int (nI 1)), (15, .int (nI ((w / 4) % 2))), (13, .int v0), (12, .int a0), (11, .int f0), (10, .int g0), (9, .int (nI th)), (8, .int (nI q1)), (7, .int y0), (6, .int (nI q1)), (5, .int (nI t)), (0, .ref (ad 0)), (1, .ref (ad 77)), (2, .int (nI w)), (3, .int (nI d)), (4, .int (nI f))]) hx hb (dk kL_flies_2_ok 52 rfl) hl (by decide) rfl (fun ls hl => ?_)
                      rcases (Bool.eq_false_or_eq_true (over cY)) with hsp11 | hsp11
                      · skip
                        refine lv_aload_n hx hb (dk kL_flies_2_ok 53 rfl) rfl (lv_at hl 11 rfl) ?_
                        refine lv_iconst (v := nI 1) hx hb (dk kL_flies_2_ok 54 rfl) rfl ?_
                        refine kw_count hC hKW hN76 hP (k := 1) (by decide) (lc0 _ (List.mem_of_getElem? (i := 14) rfl)) hl.1 (Nat.le_of_ble_eq_true rfl) ⟨Nat.le_of_ble_eq_true rfl, Nat.le_of_ble_eq_true rfl⟩ (dk kL_flies_2_ok 55 rfl) (r := nI 1) (show (if over cY = true then nI 1 else nI 0) = nI 1 from if_pos hsp11) ?_
                        refine lv_iconst (v := nI 1) hx hb (dk kL_flies_2_ok 56 rfl) rfl ?_
                        refine n_icmp_ne (tgt := 313) hx hb (by decide) (by decide) (dk kL_flies_2_ok 57 rfl) (by decide) (fun h12 => ?_) (fun h12 => ?_)
                        · exact absurd rfl h12
                        · skip
                          refine lv_iload hx hb (dk kL_flies_2_ok 58 rfl) (lv_at hl 0 rfl) ?_
                          exact hret _ ls _ _ _ ⟨_, _, _, _, _, _, _, _, _, _, _, hKW, hPQ2, ht, h77, fun ho => absurd (hsp11.symm.trans ho) (by decide)⟩ hP hS (dk kL_flies_2_ok 59 rfl)
                      · skip
                        refine lv_aload_n hx hb (dk kL_flies_2_ok 53 rfl) rfl (lv_at hl 11 rfl) ?_
                        refine lv_iconst (v := nI 1) hx hb (dk kL_flies_2_ok 54 rfl) rfl ?_
                        refine kw_count hC hKW hN76 hP (k := 1) (by decide) (lc0 _ (List.mem_of_getElem? (i := 14) rfl)) hl.1 (Nat.le_of_ble_eq_true rfl) ⟨Nat.le_of_ble_eq_true rfl, Nat.le_of_ble_eq_true rfl⟩ (dk kL_flies_2_ok 55 rfl) (r := nI 0) (show (if over cY = true then nI 1 else nI 0) = nI 0 from if_neg (by rw [hsp11]; decide)) ?_
                        refine lv_iconst (v := nI 1) hx hb (dk kL_flies_2_ok 56 rfl) rfl ?_
                        refine n_icmp_ne (tgt := 313) hx hb (by decide) (by decide) (dk kL_flies_2_ok 57 rfl) (by decide) (fun h13 => ?_) (fun h13 => ?_)
                        · skip
                          refine lv_aload_n hx hb (dk kL_flies_3_ok 0 rfl) rfl (lv_at hl 12 rfl) ?_
                          refine lv_iload_n hx hb (dk kL_flies_3_ok 1 rfl) rfl (lv_at hl 13 rfl) ?_
                          refine lv_iconst (v := nI 4) hx hb (dk kL_flies_3_ok 2 rfl) rfl ?_
                          refine n_idiv hx hb (by omega) (by decide) (by decide) (dk kL_flies_3_ok 3 rfl) ?_
                          refine lv_dup2_11 hx hb (dk kL_flies_3_ok 4 rfl) rfl rfl ?_
                          refine ald (j := (w / 4)) hx hb hK hP (by omega) h77 rfl (by omega) (by decide) (dk kL_flies_3_ok 5 rfl) ?_
                          refine lv_iload hx hb (dk kL_flies_3_ok 6 rfl) (lv_at hl 9 rfl) ?_
                          refine lv_iconst (v := -1) hx hb (dk kL_flies_3_ok 7 rfl) rfl ?_
                          refine lv_icmp_ne (tgt := 329) hx hb (dk kL_flies_3_ok 8 rfl) (by decide) (fun h14 => ?_) (fun h14 => ?_)
                          · skip
                            refine lv_iconst (v := nI 0) hx hb (dk kL_flies_3_ok 11 rfl) rfl ?_
                            refine lv_iadd hx hb (dk kL_flies_3_ok 12 rfl) ?_
                            refine ast (va_up F 77 (.inl (cI, 4, .inl (upd lo (w / 4) ((lo (w / 4)) + (nI 0)))))) (k := 77) (j := w / 4) hx hb hC.2.2.2.2.2.1 hDi hP hS (by omega) h77 rfl (by omega) (by decide) (dk kL_flies_3_ok 13 rfl) rfl (fun H locs hP hS => ?_)
                            have hK_2 : KW cI cQ ad (va_up F 77 (.inl (cI, 4, .inl (upd lo (w / 4) ((lo (w / 4)) + (nI 0)))))) cY bY vY gY hY jY tY uY zY mY := KW_fr hKW (fun i hi => va_up_ne _ _ (by omega))
                            have h77_3 : va_up F 77 (.inl (cI, 4, .inl (upd lo (w / 4) ((lo (w / 4)) + (nI 0))))) 77 = .inl (cI, 4, .inl (upd lo (w / 4) ((lo (w / 4)) + (nI 0)))) := va_up_self _ _ _
                            generalize va_up F 77 (.inl (cI, 4, .inl (upd lo (w / 4) ((lo (w / 4)) + (nI 0))))) = F_1 at hP hK_2 h77_3
                            refine lv_iload hx hb (dk kL_flies_3_ok 14 rfl) (lv_at hl 0 rfl) ?_
                            refine n_if_eq (tgt := 376) hx hb (by decide) (dk kL_flies_3_ok 15 rfl) (by decide) (fun h9 => absurd h9 (by decide)) ?_
                            intro _
                            refine lv_aload_n hx hb (dk kL_flies_3_ok 16 rfl) rfl (lv_at hl 11 rfl) ?_
                            refine lv_iconst (v := nI 0) hx hb (dk kL_flies_3_ok 17 rfl) rfl ?_
                            refine kw_count hC hK_2 hN76 hP (k := 0) (by decide) (lc0 _ (List.mem_of_getElem? (i := 14) rfl)) hl.1 (Nat.le_of_ble_eq_true rfl) ⟨Nat.le_of_ble_eq_true rfl, Nat.le_of_ble_eq_true rfl⟩ (dk kL_flies_3_ok 18 rfl) (r := nI tY) (show (if over cY = true then -1 else nI tY) = nI tY from if_neg (by rw [hsp11]; decide)) ?_
                            refine lv_iload hx hb (dk kL_flies_3_ok 19 rfl) (lv_at hl 9 rfl) ?_
                            refine lv_sipush (v := nI 169) hx hb (dk kL_flies_3_ok 20 rfl) rfl ?_
                            refine n_icmp_ne (tgt := 355) hx hb (by omega) (by decide) (dk kL_flies_3_ok 21 rfl) (by decide) (fun h15 => ?_) (fun h15 => ?_)
                            · skip
                              refine lv_aload_n hx hb (dk kL_flies_3_ok 24 rfl) rfl (lv_at hl 12 rfl) ?_
                              refine lv_iload hx hb (dk kL_flies_3_ok 25 rfl) (lv_at hl 10 rfl) ?_
                              refine csW (As := [.ref (ad 77), .int (nI t)]) (rest := [.int (nI tY)]) ⟨hC.1, hC.2.1, hC.2.2.1, hC.2.2.2.1, hC.2.2.2.2.1⟩ (tL_next l D cI cQ cL ad N F_1 hN77 (upd lo (w / 4) ((lo (w / 4)) + (nI 0))) h77_3 cY t htt (fun k hk => over_f hsp11 hk) hl01) (cwSL 2 hC.2.2.2.2.1 mcL_next (lc0 _ (List.mem_of_getElem? (i := 17) rfl)) msL_next mini_RL rfl rfl hdL_next ⟨Nat.le_of_ble_eq_true rfl, Nat.le_of_ble_eq_true rfl⟩) hDi hC.2.2.2.2.2.1 hP hC.2.2.2.2.2.2.1 hS rfl hl.1 rfl (Nat.le_of_ble_eq_true rfl) ⟨Nat.le_of_ble_eq_true rfl, Nat.le_of_ble_eq_true rfl⟩ (dk kL_flies_3_ok 26 rfl) (fun v9 F9 H locs hp hP hS => ?_)
                              obtain ⟨rfl, hF9⟩ := hp
                              have hK_5 : KW cI cQ ad F9 cY bY vY gY hY jY tY uY zY mY := KW_fr hK_2 (fun i hi => by rw [hF9]; exact va_up_ne _ _ (by omega))
                              have h77_6 : F9 77 = .inl (cI, 4, .inl (pasg cY t 8 (upd lo (w / 4) ((lo (w / 4)) + (nI 0))) t).1) := by rw [hF9]; exact va_up_self _ _ _
                              clear hF9
                              refine W.eq (g2 := F0 m 361 ls [.int (nI ((pasg cY t 8 (upd lo (w / 4) ((lo (w / 4)) + (nI 0))) t).2)), .int (nI tY)]) rfl ?_
                              refine W.eq (g2 := F0 m 361 ls [.int (nI tY), .int (nI tY)]) (by rw [(hen hsp11).1]) ?_
                              refine n_icmp_ne (tgt := 376) hx hb (by omega) (by omega) (dk kL_flies_3_ok 27 rfl) (by decide) (fun h16 => ?_) (fun h16 => ?_)
                              · exact absurd rfl h16
                              · skip
                                refine lv_aload_n hx hb (dk kL_flies_3_ok 28 rfl) rfl (lv_at hl 11 rfl) ?_
                                refine lv_aload_n hx hb (dk kL_flies_3_ok 29 rfl) rfl (lv_at hl 12 rfl) ?_
                                refine csR (As := [.ref (ad 0), .ref (ad 77)]) (rest := []) ⟨hC.1, hC.2.1, hC.2.2.1, hC.2.2.2.1, hC.2.2.2.2.1⟩ (tL_losts l D cI cQ cL ad N F9 hN77 hK_5 ((pasg cY t 8 (upd lo (w / 4) ((lo (w / 4)) + (nI 0))) t).1) h77_6 (hen hsp11).2.1) (cwSL 2 hC.2.2.2.2.1 mcL_losts (lc0 _ (List.mem_of_getElem? (i := 20) rfl)) msL_losts mini_RL rfl rfl hdL_losts ⟨Nat.le_of_ble_eq_true rfl, Nat.le_of_ble_eq_true rfl⟩) hC.2.2.2.2.2.1 hP hC.2.2.2.2.2.2.1 rfl hl.1 rfl (Nat.le_of_ble_eq_true rfl) ⟨Nat.le_of_ble_eq_true rfl, Nat.le_of_ble_eq_true rfl⟩ (dk kL_flies_3_ok 30 rfl) ?_
                                refine n_if_eq (tgt := 376) hx hb (by decide) (dk kL_flies_3_ok 31 rfl) (by decide) (fun h9 => absurd h9 (by decide)) ?_
                                intro _
                                refine lv_iconst (v := nI 1) hx hb (dk kL_flies_3_ok 32 rfl) rfl ?_
                                refine lv_goto (tgt := 377) hx hb (dk kL_flies_3_ok 33 rfl) (by decide) ?_
                                exact hret _ ls _ _ _ ⟨_, _, _, _, _, _, _, _, _, _, _, hK_5, hPQ2, ht, h77_6, fun _ => ⟨(hen hsp11).2.2, (hen hsp11).2.1⟩⟩ hP hS (dk kL_flies_3_ok 35 rfl)
                            · exact absurd h15 (by omega)
                          · exact absurd h14 (nI_m1 (by omega))
                        · exact absurd h13 (by decide)
          · exact absurd h5 (by omega)
        · exact absurd heh h4
      · exact absurd h3 (nI_m1 (by omega))
