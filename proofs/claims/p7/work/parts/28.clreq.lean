set_option maxRecDepth 100000 in
set_option maxHeartbeats 4000000 in
theorem tX5_requireWink_ok (l : Launch) (x : Int32) (hr1 : wk x = true) : MPv l yX5_requireWink (Cond.code yX5_requireWink cX5_requireWink 1 none :: AW) ({ frames := 6, cells := 0, slots := 0, locals := 82 } : Room) [.int x] := by
  refine mp_v (by decide +kernel) rfl (Nat.le_of_ble_eq_true rfl) (fun p e s m below meth cd Q ls hx hb hml hown hts hret hl => ?_)
  have hown : s.vm.findClass RX5 = some m.cls := hown
  have hl : lv_has ls 1 [(0, .int x)] := hl
  refine lv_iload_n hx hb (dk kX5_requireWink_ok 0 rfl) rfl (lv_at hl 0 rfl) ?_
  refine csP (As := [.int x]) (rest := []) ⟨hx, hb, hml, hown, hts⟩ (tX5_isWink l x) (cwS9 1 hts mcX5_isWink (ac8 _ (List.mem_of_getElem? (i := 22) rfl)) msX5_isWink mini_RX5 rfl rfl hdX5_isWink ⟨Nat.le_of_ble_eq_true rfl, Nat.le_of_ble_eq_true rfl⟩) rfl hl.1 rfl (Nat.le_of_ble_eq_true rfl) (by decide) (dk kX5_requireWink_ok 1 rfl) ?_
  refine b_if_ne (tgt := 18) hx hb (dk kX5_requireWink_ok 2 rfl) (by decide) (fun h1 => ?_) (fun h1 => ?_)
  · skip
    exact hret _ _ (dk kX5_requireWink_ok 8 rfl)
  · exact absurd (hr1.symm.trans h1) (by decide)
set_option maxRecDepth 100000 in
set_option maxHeartbeats 4000000 in
theorem tX5_requireWink_b1 (l : Launch) (hst : l.stackTraces = false) (D : va_G) (cI cQ cL : ClassId) (ad : Nat → Nat) (N : Nat) (F : Nat → va_E) (x : Int32) (hr1 : wk x = false) : MT l yX5_requireWink (Cond.code yX5_requireWink cX5_requireWink 1 none :: AW) ({ frames := 6, cells := 1, slots := 6, locals := 82 } : Room) D cI cQ cL ad N F [.int x] eI 1 6 := by
  refine mt_of (ret := none) hst (by decide +kernel) rfl (Nat.le_of_ble_eq_true rfl) (fun p e s m below meth cd Q ls hx hb hml hown hts hDi hP hK hNW hS hX hthr hthrW hout hl => ?_)
  have hown : s.vm.findClass RX5 = some m.cls := hown
  have hl : lv_has ls 1 [(0, .int x)] := hl
  refine lv_iload_n hx hb (dk kX5_requireWink_ok 0 rfl) rfl (lv_at hl 0 rfl) ?_
  refine csP (As := [.int x]) (rest := []) ⟨hx, hb, hml, hown, hts⟩ (tX5_isWink l x) (cwS9 1 hts mcX5_isWink (ac8 _ (List.mem_of_getElem? (i := 22) rfl)) msX5_isWink mini_RX5 rfl rfl hdX5_isWink ⟨Nat.le_of_ble_eq_true rfl, Nat.le_of_ble_eq_true rfl⟩) rfl hl.1 rfl (Nat.le_of_ble_eq_true rfl) (by decide) (dk kX5_requireWink_ok 1 rfl) ?_
  refine b_if_ne (tgt := 18) hx hb (dk kX5_requireWink_ok 2 rfl) (by decide) (fun h1 => ?_) (fun h1 => ?_)
  · exact absurd (hr1.symm.trans h1) (by decide)
  · skip
    exact hthrW 196 200 355 7 "a wink is 0 to 15" ls [] _ _ 0 0 (by decide) (by decide) hP hS hl.1 (dk kX5_requireWink_ok 3 rfl) (dk kX5_requireWink_ok 4 rfl) (dk kX5_requireWink_ok 5 rfl) (dk kX5_requireWink_ok 6 rfl) (dk kX5_requireWink_ok 7 rfl) (by decide) (by decide) (by decide) (by decide) (by decide) (by decide)
set_option maxRecDepth 100000 in
set_option maxHeartbeats 4000000 in
theorem tX5_requireCell_ok (l : Launch) (x y : Int32) (hr1 : on x y = true) : MPv l yX5_requireCell (Cond.code yX5_requireCell cX5_requireCell 2 none :: AW) ({ frames := 6, cells := 0, slots := 0, locals := 82 } : Room) [.int x, .int y] := by
  refine mp_v (by decide +kernel) rfl (Nat.le_of_ble_eq_true rfl) (fun p e s m below meth cd Q ls hx hb hml hown hts hret hl => ?_)
  have hown : s.vm.findClass RX5 = some m.cls := hown
  have hl : lv_has ls 2 [(0, .int x), (1, .int y)] := hl
  refine lv_iload_n hx hb (dk kX5_requireCell_ok 0 rfl) rfl (lv_at hl 0 rfl) ?_
  refine lv_iload_n hx hb (dk kX5_requireCell_ok 1 rfl) rfl (lv_at hl 1 rfl) ?_
  refine csP (As := [.int x, .int y]) (rest := []) ⟨hx, hb, hml, hown, hts⟩ (tX5_isOnMat l x y) (cwS9 2 hts mcX5_isOnMat (ac5 _ (List.mem_of_getElem? (i := 20) rfl)) msX5_isOnMat mini_RX5 rfl rfl hdX5_isOnMat ⟨Nat.le_of_ble_eq_true rfl, Nat.le_of_ble_eq_true rfl⟩) rfl hl.1 rfl (Nat.le_of_ble_eq_true rfl) (by decide) (dk kX5_requireCell_ok 2 rfl) ?_
  refine b_if_ne (tgt := 19) hx hb (dk kX5_requireCell_ok 3 rfl) (by decide) (fun h1 => ?_) (fun h1 => ?_)
  · skip
    exact hret _ _ (dk kX5_requireCell_ok 9 rfl)
  · exact absurd (hr1.symm.trans h1) (by decide)
set_option maxRecDepth 100000 in
set_option maxHeartbeats 4000000 in
theorem tX5_requireCell_b1 (l : Launch) (hst : l.stackTraces = false) (D : va_G) (cI cQ cL : ClassId) (ad : Nat → Nat) (N : Nat) (F : Nat → va_E) (x y : Int32) (hr1 : on x y = false) : MT l yX5_requireCell (Cond.code yX5_requireCell cX5_requireCell 2 none :: AW) ({ frames := 6, cells := 1, slots := 6, locals := 82 } : Room) D cI cQ cL ad N F [.int x, .int y] eI 1 6 := by
  refine mt_of (ret := none) hst (by decide +kernel) rfl (Nat.le_of_ble_eq_true rfl) (fun p e s m below meth cd Q ls hx hb hml hown hts hDi hP hK hNW hS hX hthr hthrW hout hl => ?_)
  have hown : s.vm.findClass RX5 = some m.cls := hown
  have hl : lv_has ls 2 [(0, .int x), (1, .int y)] := hl
  refine lv_iload_n hx hb (dk kX5_requireCell_ok 0 rfl) rfl (lv_at hl 0 rfl) ?_
  refine lv_iload_n hx hb (dk kX5_requireCell_ok 1 rfl) rfl (lv_at hl 1 rfl) ?_
  refine csP (As := [.int x, .int y]) (rest := []) ⟨hx, hb, hml, hown, hts⟩ (tX5_isOnMat l x y) (cwS9 2 hts mcX5_isOnMat (ac5 _ (List.mem_of_getElem? (i := 20) rfl)) msX5_isOnMat mini_RX5 rfl rfl hdX5_isOnMat ⟨Nat.le_of_ble_eq_true rfl, Nat.le_of_ble_eq_true rfl⟩) rfl hl.1 rfl (Nat.le_of_ble_eq_true rfl) (by decide) (dk kX5_requireCell_ok 2 rfl) ?_
  refine b_if_ne (tgt := 19) hx hb (dk kX5_requireCell_ok 3 rfl) (by decide) (fun h1 => ?_) (fun h1 => ?_)
  · exact absurd (hr1.symm.trans h1) (by decide)
  · skip
    exact hthrW 196 200 361 8 "x and y are 0 to 12" ls [] _ _ 0 0 (by decide) (by decide) hP hS hl.1 (dk kX5_requireCell_ok 4 rfl) (dk kX5_requireCell_ok 5 rfl) (dk kX5_requireCell_ok 6 rfl) (dk kX5_requireCell_ok 7 rfl) (dk kX5_requireCell_ok 8 rfl) (by decide) (by decide) (by decide) (by decide) (by decide) (by decide)
set_option maxRecDepth 100000 in
set_option maxHeartbeats 4000000 in
theorem tX5_requireDirection_ok (l : Launch) (x : Int32) (hr1 : btw x (nI 0) (nI 7) = true) : MPv l yX5_requireDirection (Cond.code yX5_requireDirection cX5_requireDirection 1 none :: AW) ({ frames := 6, cells := 0, slots := 0, locals := 82 } : Room) [.int x] := by
  refine mp_v (by decide +kernel) rfl (Nat.le_of_ble_eq_true rfl) (fun p e s m below meth cd Q ls hx hb hml hown hts hret hl => ?_)
  have hown : s.vm.findClass RX5 = some m.cls := hown
  have hl : lv_has ls 1 [(0, .int x)] := hl
  refine lv_iload_n hx hb (dk kX5_requireDirection_ok 0 rfl) rfl (lv_at hl 0 rfl) ?_
  refine lv_if_lt (tgt := 10) hx hb (dk kX5_requireDirection_ok 1 rfl) (by decide) (fun h1 => ?_) (fun h1 => ?_)
  · exact absurd h1 (dir_ok hr1).1
  · skip
    refine lv_iload_n hx hb (dk kX5_requireDirection_ok 2 rfl) rfl (lv_at hl 0 rfl) ?_
    refine lv_bipush (v := nI 8) hx hb (dk kX5_requireDirection_ok 3 rfl) rfl ?_
    refine lv_icmp_lt (tgt := 21) hx hb (dk kX5_requireDirection_ok 4 rfl) (by decide) (fun h2 => ?_) (fun h2 => ?_)
    · skip
      exact hret _ _ (dk kX5_requireDirection_ok 10 rfl)
    · exact absurd (Int32.not_lt.mp h2) (dir_ok hr1).2
set_option maxRecDepth 100000 in
set_option maxHeartbeats 4000000 in
theorem tX5_requireDirection_b1 (l : Launch) (hst : l.stackTraces = false) (D : va_G) (cI cQ cL : ClassId) (ad : Nat → Nat) (N : Nat) (F : Nat → va_E) (x : Int32) (hr1 : btw x (nI 0) (nI 7) = false) : MT l yX5_requireDirection (Cond.code yX5_requireDirection cX5_requireDirection 1 none :: AW) ({ frames := 6, cells := 1, slots := 6, locals := 82 } : Room) D cI cQ cL ad N F [.int x] eA 1 6 := by
  refine mt_of (ret := none) hst (by decide +kernel) rfl (Nat.le_of_ble_eq_true rfl) (fun p e s m below meth cd Q ls hx hb hml hown hts hDi hP hK hNW hS hX hthr hthrW hout hl => ?_)
  have hown : s.vm.findClass RX5 = some m.cls := hown
  have hl : lv_has ls 1 [(0, .int x)] := hl
  refine lv_iload_n hx hb (dk kX5_requireDirection_ok 0 rfl) rfl (lv_at hl 0 rfl) ?_
  refine lv_if_lt (tgt := 10) hx hb (dk kX5_requireDirection_ok 1 rfl) (by decide) (fun h1 => ?_) (fun h1 => ?_)
  · skip
    exact hthrW 104 108 370 10 "a direction is 0 to 7" ls [] _ _ 0 0 (by decide) (by decide) hP hS hl.1 (dk kX5_requireDirection_ok 5 rfl) (dk kX5_requireDirection_ok 6 rfl) (dk kX5_requireDirection_ok 7 rfl) (dk kX5_requireDirection_ok 8 rfl) (dk kX5_requireDirection_ok 9 rfl) (by decide) (by decide) (by decide) (by decide) (by decide) (by decide)
  · skip
    refine lv_iload_n hx hb (dk kX5_requireDirection_ok 2 rfl) rfl (lv_at hl 0 rfl) ?_
    refine lv_bipush (v := nI 8) hx hb (dk kX5_requireDirection_ok 3 rfl) rfl ?_
    refine lv_icmp_lt (tgt := 21) hx hb (dk kX5_requireDirection_ok 4 rfl) (by decide) (fun h2 => ?_) (fun h2 => ?_)
    · exact (ff_tt hr1 (dir_bad h1 (Int32.not_le.mpr h2))).elim
    · skip
      exact hthrW 104 108 370 10 "a direction is 0 to 7" ls [] _ _ 0 0 (by decide) (by decide) hP hS hl.1 (dk kX5_requireDirection_ok 5 rfl) (dk kX5_requireDirection_ok 6 rfl) (dk kX5_requireDirection_ok 7 rfl) (dk kX5_requireDirection_ok 8 rfl) (dk kX5_requireDirection_ok 9 rfl) (by decide) (by decide) (by decide) (by decide) (by decide) (by decide)
set_option maxRecDepth 100000 in
set_option maxHeartbeats 4000000 in
theorem tX5_requireFlight_ok (l : Launch) (x y : Int32) (hr1 : btw x (nI 0) (nI 7) = true) (hr2 : btw y (nI 1) (nI 9) = true) : MPv l yX5_requireFlight (Cond.code yX5_requireFlight cX5_requireFlight 2 none :: AW) ({ frames := 7, cells := 0, slots := 0, locals := 102 } : Room) [.int x, .int y] := by
  refine mp_v (by decide +kernel) rfl (Nat.le_of_ble_eq_true rfl) (fun p e s m below meth cd Q ls hx hb hml hown hts hret hl => ?_)
  have hown : s.vm.findClass RX5 = some m.cls := hown
  have hl : lv_has ls 2 [(0, .int x), (1, .int y)] := hl
  refine lv_iload_n hx hb (dk kX5_requireFlight_ok 0 rfl) rfl (lv_at hl 0 rfl) ?_
  refine csPv (As := [.int x]) (rest := []) ⟨hx, hb, hml, hown, hts⟩ (tX5_requireDirection_ok l x hr1) (cwS9 1 hts mcX5_requireDirection (ac9 _ (List.mem_of_getElem? (i := 1) rfl)) msX5_requireDirection mini_RX5 rfl rfl hdX5_requireDirection ⟨Nat.le_of_ble_eq_true rfl, Nat.le_of_ble_eq_true rfl⟩) rfl hl.1 rfl (Nat.le_of_ble_eq_true rfl) (by decide) (dk kX5_requireFlight_ok 1 rfl) ?_
  refine lv_iload_n hx hb (dk kX5_requireFlight_ok 2 rfl) rfl (lv_at hl 1 rfl) ?_
  refine lv_iconst (v := nI 1) hx hb (dk kX5_requireFlight_ok 3 rfl) rfl ?_
  refine lv_icmp_lt (tgt := 15) hx hb (dk kX5_requireFlight_ok 4 rfl) (by decide) (fun h1 => ?_) (fun h1 => ?_)
  · exact absurd h1 (rng_ok hr2).1
  · skip
    refine lv_iload_n hx hb (dk kX5_requireFlight_ok 5 rfl) rfl (lv_at hl 1 rfl) ?_
    refine lv_bipush (v := nI 9) hx hb (dk kX5_requireFlight_ok 6 rfl) rfl ?_
    refine lv_icmp_le (tgt := 26) hx hb (dk kX5_requireFlight_ok 7 rfl) (by decide) (fun h2 => ?_) (fun h2 => ?_)
    · skip
      exact hret _ _ (dk kX5_requireFlight_ok 13 rfl)
    · exact absurd (Int32.not_le.mp h2) (rng_ok hr2).2
set_option maxRecDepth 100000 in
set_option maxHeartbeats 4000000 in
theorem tX5_requireFlight_b1 (l : Launch) (hst : l.stackTraces = false) (D : va_G) (cI cQ cL : ClassId) (ad : Nat → Nat) (N : Nat) (F : Nat → va_E) (x y : Int32) (hr1 : btw x (nI 0) (nI 7) = false) : MT l yX5_requireFlight (Cond.code yX5_requireFlight cX5_requireFlight 2 none :: AW) ({ frames := 7, cells := 1, slots := 6, locals := 102 } : Room) D cI cQ cL ad N F [.int x, .int y] eA 1 6 := by
  refine mt_of (ret := none) hst (by decide +kernel) rfl (Nat.le_of_ble_eq_true rfl) (fun p e s m below meth cd Q ls hx hb hml hown hts hDi hP hK hNW hS hX hthr hthrW hout hl => ?_)
  have hown : s.vm.findClass RX5 = some m.cls := hown
  have hl : lv_has ls 2 [(0, .int x), (1, .int y)] := hl
  refine lv_iload_n hx hb (dk kX5_requireFlight_ok 0 rfl) rfl (lv_at hl 0 rfl) ?_
  exact csT (As := [.int x]) (rest := []) ⟨hx, hb, hml, hown, hts⟩ (tX5_requireDirection_b1 l hst D cI cQ cL ad N F x hr1) (cwS9 1 hts mcX5_requireDirection (ac9 _ (List.mem_of_getElem? (i := 1) rfl)) msX5_requireDirection mini_RX5 rfl rfl hdX5_requireDirection ⟨Nat.le_of_ble_eq_true rfl, Nat.le_of_ble_eq_true rfl⟩) hDi hK hP hNW hS hX rfl hl.1 rfl (Nat.le_of_ble_eq_true rfl) (by decide) (dk kX5_requireFlight_ok 1 rfl) (fun H locs q ce hP hS h1 h2 h3 => hout _ _ _ H locs q ce _ _ hP hS h1 h2 h3 (by decide) (by decide))
set_option maxRecDepth 100000 in
set_option maxHeartbeats 4000000 in
theorem tX5_requireFlight_b2 (l : Launch) (hst : l.stackTraces = false) (D : va_G) (cI cQ cL : ClassId) (ad : Nat → Nat) (N : Nat) (F : Nat → va_E) (x y : Int32) (hr1 : btw x (nI 0) (nI 7) = true) (hr2 : btw y (nI 1) (nI 9) = false) : MT l yX5_requireFlight (Cond.code yX5_requireFlight cX5_requireFlight 2 none :: AW) ({ frames := 7, cells := 1, slots := 6, locals := 102 } : Room) D cI cQ cL ad N F [.int x, .int y] eA 1 6 := by
  refine mt_of (ret := none) hst (by decide +kernel) rfl (Nat.le_of_ble_eq_true rfl) (fun p e s m below meth cd Q ls hx hb hml hown hts hDi hP hK hNW hS hX hthr hthrW hout hl => ?_)
  have hown : s.vm.findClass RX5 = some m.cls := hown
  have hl : lv_has ls 2 [(0, .int x), (1, .int y)] := hl
  refine lv_iload_n hx hb (dk kX5_requireFlight_ok 0 rfl) rfl (lv_at hl 0 rfl) ?_
  refine csPv (As := [.int x]) (rest := []) ⟨hx, hb, hml, hown, hts⟩ (tX5_requireDirection_ok l x hr1) (cwS9 1 hts mcX5_requireDirection (ac9 _ (List.mem_of_getElem? (i := 1) rfl)) msX5_requireDirection mini_RX5 rfl rfl hdX5_requireDirection ⟨Nat.le_of_ble_eq_true rfl, Nat.le_of_ble_eq_true rfl⟩) rfl hl.1 rfl (Nat.le_of_ble_eq_true rfl) (by decide) (dk kX5_requireFlight_ok 1 rfl) ?_
  refine lv_iload_n hx hb (dk kX5_requireFlight_ok 2 rfl) rfl (lv_at hl 1 rfl) ?_
  refine lv_iconst (v := nI 1) hx hb (dk kX5_requireFlight_ok 3 rfl) rfl ?_
  refine lv_icmp_lt (tgt := 15) hx hb (dk kX5_requireFlight_ok 4 rfl) (by decide) (fun h1 => ?_) (fun h1 => ?_)
  · skip
    exact hthrW 104 108 366 15 "a force is 1 to 9" ls [] _ _ 0 0 (by decide) (by decide) hP hS hl.1 (dk kX5_requireFlight_ok 8 rfl) (dk kX5_requireFlight_ok 9 rfl) (dk kX5_requireFlight_ok 10 rfl) (dk kX5_requireFlight_ok 11 rfl) (dk kX5_requireFlight_ok 12 rfl) (by decide) (by decide) (by decide) (by decide) (by decide) (by decide)
  · skip
    refine lv_iload_n hx hb (dk kX5_requireFlight_ok 5 rfl) rfl (lv_at hl 1 rfl) ?_
    refine lv_bipush (v := nI 9) hx hb (dk kX5_requireFlight_ok 6 rfl) rfl ?_
    refine lv_icmp_le (tgt := 26) hx hb (dk kX5_requireFlight_ok 7 rfl) (by decide) (fun h2 => ?_) (fun h2 => ?_)
    · exact (ff_tt hr2 (rng_bad h1 (Int32.not_lt.mpr h2))).elim
    · skip
      exact hthrW 104 108 366 15 "a force is 1 to 9" ls [] _ _ 0 0 (by decide) (by decide) hP hS hl.1 (dk kX5_requireFlight_ok 8 rfl) (dk kX5_requireFlight_ok 9 rfl) (dk kX5_requireFlight_ok 10 rfl) (dk kX5_requireFlight_ok 11 rfl) (dk kX5_requireFlight_ok 12 rfl) (by decide) (by decide) (by decide) (by decide) (by decide) (by decide)
set_option maxRecDepth 100000 in
set_option maxHeartbeats 4000000 in
theorem tX5_requireLift_ok (l : Launch) (x y : Int32) (hr2 : btw x (nI 1) (nI 6) = true) (hr1 : btw y (nI 0) (nI 7) = true) : MPv l yX5_requireLift (Cond.code yX5_requireLift cX5_requireLift 2 none :: AW) ({ frames := 7, cells := 0, slots := 0, locals := 102 } : Room) [.int x, .int y] := by
  refine mp_v (by decide +kernel) rfl (Nat.le_of_ble_eq_true rfl) (fun p e s m below meth cd Q ls hx hb hml hown hts hret hl => ?_)
  have hown : s.vm.findClass RX5 = some m.cls := hown
  have hl : lv_has ls 2 [(0, .int x), (1, .int y)] := hl
  refine lv_iload_n hx hb (dk kX5_requireLift_ok 0 rfl) rfl (lv_at hl 0 rfl) ?_
  refine lv_iconst (v := nI 1) hx hb (dk kX5_requireLift_ok 1 rfl) rfl ?_
  refine lv_icmp_lt (tgt := 11) hx hb (dk kX5_requireLift_ok 2 rfl) (by decide) (fun h1 => ?_) (fun h1 => ?_)
  · exact absurd h1 (rng_ok hr2).1
  · skip
    refine lv_iload_n hx hb (dk kX5_requireLift_ok 3 rfl) rfl (lv_at hl 0 rfl) ?_
    refine lv_bipush (v := nI 6) hx hb (dk kX5_requireLift_ok 4 rfl) rfl ?_
    refine lv_icmp_le (tgt := 22) hx hb (dk kX5_requireLift_ok 5 rfl) (by decide) (fun h2 => ?_) (fun h2 => ?_)
    · skip
      refine lv_iload_n hx hb (dk kX5_requireLift_ok 11 rfl) rfl (lv_at hl 1 rfl) ?_
      refine csPv (As := [.int y]) (rest := []) ⟨hx, hb, hml, hown, hts⟩ (tX5_requireDirection_ok l y hr1) (cwS9 1 hts mcX5_requireDirection (ac9 _ (List.mem_of_getElem? (i := 1) rfl)) msX5_requireDirection mini_RX5 rfl rfl hdX5_requireDirection ⟨Nat.le_of_ble_eq_true rfl, Nat.le_of_ble_eq_true rfl⟩) rfl hl.1 rfl (Nat.le_of_ble_eq_true rfl) (by decide) (dk kX5_requireLift_ok 12 rfl) ?_
      exact hret _ _ (dk kX5_requireLift_ok 13 rfl)
    · exact absurd (Int32.not_le.mp h2) (rng_ok hr2).2
set_option maxRecDepth 100000 in
set_option maxHeartbeats 4000000 in
theorem tX5_requireLift_b1 (l : Launch) (hst : l.stackTraces = false) (D : va_G) (cI cQ cL : ClassId) (ad : Nat → Nat) (N : Nat) (F : Nat → va_E) (x y : Int32) (hr2 : btw x (nI 1) (nI 6) = false) : MT l yX5_requireLift (Cond.code yX5_requireLift cX5_requireLift 2 none :: AW) ({ frames := 6, cells := 1, slots := 6, locals := 82 } : Room) D cI cQ cL ad N F [.int x, .int y] eA 1 6 := by
  refine mt_of (ret := none) hst (by decide +kernel) rfl (Nat.le_of_ble_eq_true rfl) (fun p e s m below meth cd Q ls hx hb hml hown hts hDi hP hK hNW hS hX hthr hthrW hout hl => ?_)
  have hown : s.vm.findClass RX5 = some m.cls := hown
  have hl : lv_has ls 2 [(0, .int x), (1, .int y)] := hl
  refine lv_iload_n hx hb (dk kX5_requireLift_ok 0 rfl) rfl (lv_at hl 0 rfl) ?_
  refine lv_iconst (v := nI 1) hx hb (dk kX5_requireLift_ok 1 rfl) rfl ?_
  refine lv_icmp_lt (tgt := 11) hx hb (dk kX5_requireLift_ok 2 rfl) (by decide) (fun h1 => ?_) (fun h1 => ?_)
  · skip
    exact hthrW 104 108 368 11 "1 to 6 winks are lifted" ls [] _ _ 0 0 (by decide) (by decide) hP hS hl.1 (dk kX5_requireLift_ok 6 rfl) (dk kX5_requireLift_ok 7 rfl) (dk kX5_requireLift_ok 8 rfl) (dk kX5_requireLift_ok 9 rfl) (dk kX5_requireLift_ok 10 rfl) (by decide) (by decide) (by decide) (by decide) (by decide) (by decide)
  · skip
    refine lv_iload_n hx hb (dk kX5_requireLift_ok 3 rfl) rfl (lv_at hl 0 rfl) ?_
    refine lv_bipush (v := nI 6) hx hb (dk kX5_requireLift_ok 4 rfl) rfl ?_
    refine lv_icmp_le (tgt := 22) hx hb (dk kX5_requireLift_ok 5 rfl) (by decide) (fun h2 => ?_) (fun h2 => ?_)
    · exact (ff_tt hr2 (rng_bad h1 (Int32.not_lt.mpr h2))).elim
    · skip
      exact hthrW 104 108 368 11 "1 to 6 winks are lifted" ls [] _ _ 0 0 (by decide) (by decide) hP hS hl.1 (dk kX5_requireLift_ok 6 rfl) (dk kX5_requireLift_ok 7 rfl) (dk kX5_requireLift_ok 8 rfl) (dk kX5_requireLift_ok 9 rfl) (dk kX5_requireLift_ok 10 rfl) (by decide) (by decide) (by decide) (by decide) (by decide) (by decide)
set_option maxRecDepth 100000 in
set_option maxHeartbeats 4000000 in
theorem tX5_requireLift_b2 (l : Launch) (hst : l.stackTraces = false) (D : va_G) (cI cQ cL : ClassId) (ad : Nat → Nat) (N : Nat) (F : Nat → va_E) (x y : Int32) (hr2 : btw x (nI 1) (nI 6) = true) (hr1 : btw y (nI 0) (nI 7) = false) : MT l yX5_requireLift (Cond.code yX5_requireLift cX5_requireLift 2 none :: AW) ({ frames := 7, cells := 1, slots := 6, locals := 102 } : Room) D cI cQ cL ad N F [.int x, .int y] eA 1 6 := by
  refine mt_of (ret := none) hst (by decide +kernel) rfl (Nat.le_of_ble_eq_true rfl) (fun p e s m below meth cd Q ls hx hb hml hown hts hDi hP hK hNW hS hX hthr hthrW hout hl => ?_)
  have hown : s.vm.findClass RX5 = some m.cls := hown
  have hl : lv_has ls 2 [(0, .int x), (1, .int y)] := hl
  refine lv_iload_n hx hb (dk kX5_requireLift_ok 0 rfl) rfl (lv_at hl 0 rfl) ?_
  refine lv_iconst (v := nI 1) hx hb (dk kX5_requireLift_ok 1 rfl) rfl ?_
  refine lv_icmp_lt (tgt := 11) hx hb (dk kX5_requireLift_ok 2 rfl) (by decide) (fun h1 => ?_) (fun h1 => ?_)
  · exact absurd h1 (rng_ok hr2).1
  · skip
    refine lv_iload_n hx hb (dk kX5_requireLift_ok 3 rfl) rfl (lv_at hl 0 rfl) ?_
    refine lv_bipush (v := nI 6) hx hb (dk kX5_requireLift_ok 4 rfl) rfl ?_
    refine lv_icmp_le (tgt := 22) hx hb (dk kX5_requireLift_ok 5 rfl) (by decide) (fun h2 => ?_) (fun h2 => ?_)
    · skip
      refine lv_iload_n hx hb (dk kX5_requireLift_ok 11 rfl) rfl (lv_at hl 1 rfl) ?_
      exact csT (As := [.int y]) (rest := []) ⟨hx, hb, hml, hown, hts⟩ (tX5_requireDirection_b1 l hst D cI cQ cL ad N F y hr1) (cwS9 1 hts mcX5_requireDirection (ac9 _ (List.mem_of_getElem? (i := 1) rfl)) msX5_requireDirection mini_RX5 rfl rfl hdX5_requireDirection ⟨Nat.le_of_ble_eq_true rfl, Nat.le_of_ble_eq_true rfl⟩) hDi hK hP hNW hS hX rfl hl.1 rfl (Nat.le_of_ble_eq_true rfl) (by decide) (dk kX5_requireLift_ok 12 rfl) (fun H locs q ce hP hS h1 h2 h3 => hout _ _ _ H locs q ce _ _ hP hS h1 h2 h3 (by decide) (by decide))
    · exact absurd (Int32.not_le.mp h2) (rng_ok hr2).2
