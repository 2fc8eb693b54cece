def bI (b : Bool) : Int32 := if b then nI 1 else nI 0
theorem bI_t {b : Bool} (h : b = true) : bI b = nI 1 := by rw [h]; rfl
theorem bI_f {b : Bool} (h : b = false) : bI b = nI 0 := by rw [h]; rfl
theorem bI_0 {b : Bool} : bI b = 0 ↔ b = false := by cases b <;> simp [bI, nI_0, show ¬ nI 1 = 0 by decide]
theorem bI_fit (b : Bool) : fits .boolean (.int (bI b)) = true := by cases b <;> rfl
theorem bI_nar (b : Bool) : narrow .boolean (.int (bI b)) = .int (bI b) := by cases b <;> rfl
theorem n_inc (i : Nat) : nI i + Int32.ofInt 1 = nI (i + 1) := by rw [show Int32.ofInt 1 = 1 from rfl, nI_1]
theorem nI_inj {a b : Nat} (ha : a < 2 ^ 31) (hb : b < 2 ^ 31) (h : nI a = nI b) : a = b := (nI_eq ha hb).mp h
section NROWS
variable {p : Program} {l : Launch} {e : Env} {R : Room} {s : State} {m : MethodId} {args : Array Value} {below : List Frame} {meth : Method} {c : Code} {H : Heap} {locs : List Loc} {cells slots : Nat} {Q : State → Prop}
variable {cc : ByteArray} {pc tgt : Nat} {ls : Array Slot} {rest : List Value} {off : Int}
theorem n_iadd (hx : p.tables.exec = Jvm.exec) (hb : c.code = cc) {a b : Nat} (hdg : decode cc pc = .ok (.iadd, 1)) (k : W p l e R s m args below meth c H locs cells slots Q (F0 m (pc + 1) ls (.int (nI (a + b)) :: rest))) : W p l e R s m args below meth c H locs cells slots Q (F0 m pc ls (.int (nI b) :: .int (nI a) :: rest)) :=
  lv_iadd hx hb hdg (by rw [nI_add]; exact k)
theorem n_isub (hx : p.tables.exec = Jvm.exec) (hb : c.code = cc) {a b : Nat} (hba : b ≤ a) (hdg : decode cc pc = .ok (.isub, 1)) (k : W p l e R s m args below meth c H locs cells slots Q (F0 m (pc + 1) ls (.int (nI (a - b)) :: rest))) : W p l e R s m args below meth c H locs cells slots Q (F0 m pc ls (.int (nI b) :: .int (nI a) :: rest)) :=
  lv_isub hx hb hdg (by rw [pk_sub hba]; exact k)
theorem n_imul (hx : p.tables.exec = Jvm.exec) (hb : c.code = cc) {a b : Nat} (hdg : decode cc pc = .ok (.imul, 1)) (k : W p l e R s m args below meth c H locs cells slots Q (F0 m (pc + 1) ls (.int (nI (a * b)) :: rest))) : W p l e R s m args below meth c H locs cells slots Q (F0 m pc ls (.int (nI b) :: .int (nI a) :: rest)) :=
  lv_imul hx hb hdg (by rw [pk_mul]; exact k)
theorem n_idiv (hx : p.tables.exec = Jvm.exec) (hb : c.code = cc) {a b : Nat} (ha : a < 2 ^ 31) (h0 : 0 < b) (hb2 : b < 2 ^ 31) (hdg : decode cc pc = .ok (.idiv, 1)) (k : W p l e R s m args below meth c H locs cells slots Q (F0 m (pc + 1) ls (.int (nI (a / b)) :: rest))) : W p l e R s m args below meth c H locs cells slots Q (F0 m pc ls (.int (nI b) :: .int (nI a) :: rest)) :=
  lv_idiv hx hb hdg (nI_ne0 h0 hb2) (by rw [pk_div ha h0 hb2]; exact k)
theorem n_irem (hx : p.tables.exec = Jvm.exec) (hb : c.code = cc) {a b : Nat} (ha : a < 2 ^ 31) (h0 : 0 < b) (hb2 : b < 2 ^ 31) (hdg : decode cc pc = .ok (.irem, 1)) (k : W p l e R s m args below meth c H locs cells slots Q (F0 m (pc + 1) ls (.int (nI (a % b)) :: rest))) : W p l e R s m args below meth c H locs cells slots Q (F0 m pc ls (.int (nI b) :: .int (nI a) :: rest)) :=
  lv_irem hx hb hdg (nI_ne0 h0 hb2) (by rw [pk_rem ha h0 hb2]; exact k)
theorem n_icmp_eq (hx : p.tables.exec = Jvm.exec) (hb : c.code = cc) {a b : Nat} (ha : a < 2 ^ 31) (hb2 : b < 2 ^ 31) (hdg : decode cc pc = .ok (.if_icmp .eq off, 3)) (ht : (pc : Int) + off = (tgt : Int)) (kt : a = b → W p l e R s m args below meth c H locs cells slots Q (F0 m tgt ls rest)) (kf : a ≠ b → W p l e R s m args below meth c H locs cells slots Q (F0 m (pc + 3) ls rest)) : W p l e R s m args below meth c H locs cells slots Q (F0 m pc ls (.int (nI b) :: .int (nI a) :: rest)) :=
  lv_icmp_eq hx hb hdg ht (fun h => kt ((nI_eq ha hb2).mp h)) (fun h => kf (fun q => h ((nI_eq ha hb2).mpr q)))
theorem n_icmp_ne (hx : p.tables.exec = Jvm.exec) (hb : c.code = cc) {a b : Nat} (ha : a < 2 ^ 31) (hb2 : b < 2 ^ 31) (hdg : decode cc pc = .ok (.if_icmp .ne off, 3)) (ht : (pc : Int) + off = (tgt : Int)) (kt : a ≠ b → W p l e R s m args below meth c H locs cells slots Q (F0 m tgt ls rest)) (kf : a = b → W p l e R s m args below meth c H locs cells slots Q (F0 m (pc + 3) ls rest)) : W p l e R s m args below meth c H locs cells slots Q (F0 m pc ls (.int (nI b) :: .int (nI a) :: rest)) :=
  lv_icmp_ne hx hb hdg ht (fun h => kt (fun q => h ((nI_eq ha hb2).mpr q))) (fun h => kf ((nI_eq ha hb2).mp h))
theorem n_icmp_lt (hx : p.tables.exec = Jvm.exec) (hb : c.code = cc) {a b : Nat} (ha : a < 2 ^ 31) (hb2 : b < 2 ^ 31) (hdg : decode cc pc = .ok (.if_icmp .lt off, 3)) (ht : (pc : Int) + off = (tgt : Int)) (kt : a < b → W p l e R s m args below meth c H locs cells slots Q (F0 m tgt ls rest)) (kf : b ≤ a → W p l e R s m args below meth c H locs cells slots Q (F0 m (pc + 3) ls rest)) : W p l e R s m args below meth c H locs cells slots Q (F0 m pc ls (.int (nI b) :: .int (nI a) :: rest)) :=
  lv_icmp_lt hx hb hdg ht (fun h => kt ((nI_ltI ha hb2).mp h)) (fun h => kf (Nat.not_lt.mp fun q => h ((nI_ltI ha hb2).mpr q)))
theorem n_icmp_ge (hx : p.tables.exec = Jvm.exec) (hb : c.code = cc) {a b : Nat} (ha : a < 2 ^ 31) (hb2 : b < 2 ^ 31) (hdg : decode cc pc = .ok (.if_icmp .ge off, 3)) (ht : (pc : Int) + off = (tgt : Int)) (kt : b ≤ a → W p l e R s m args below meth c H locs cells slots Q (F0 m tgt ls rest)) (kf : a < b → W p l e R s m args below meth c H locs cells slots Q (F0 m (pc + 3) ls rest)) : W p l e R s m args below meth c H locs cells slots Q (F0 m pc ls (.int (nI b) :: .int (nI a) :: rest)) :=
  lv_icmp_ge hx hb hdg ht (fun h => kt ((nI_leI hb2 ha).mp h)) (fun h => kf (Nat.not_le.mp fun q => h ((nI_leI hb2 ha).mpr q)))
theorem n_icmp_gt (hx : p.tables.exec = Jvm.exec) (hb : c.code = cc) {a b : Nat} (ha : a < 2 ^ 31) (hb2 : b < 2 ^ 31) (hdg : decode cc pc = .ok (.if_icmp .gt off, 3)) (ht : (pc : Int) + off = (tgt : Int)) (kt : b < a → W p l e R s m args below meth c H locs cells slots Q (F0 m tgt ls rest)) (kf : a ≤ b → W p l e R s m args below meth c H locs cells slots Q (F0 m (pc + 3) ls rest)) : W p l e R s m args below meth c H locs cells slots Q (F0 m pc ls (.int (nI b) :: .int (nI a) :: rest)) :=
  lv_icmp_gt hx hb hdg ht (fun h => kt ((nI_ltI hb2 ha).mp h)) (fun h => kf (Nat.not_lt.mp fun q => h ((nI_ltI hb2 ha).mpr q)))
theorem n_icmp_le (hx : p.tables.exec = Jvm.exec) (hb : c.code = cc) {a b : Nat} (ha : a < 2 ^ 31) (hb2 : b < 2 ^ 31) (hdg : decode cc pc = .ok (.if_icmp .le off, 3)) (ht : (pc : Int) + off = (tgt : Int)) (kt : a ≤ b → W p l e R s m args below meth c H locs cells slots Q (F0 m tgt ls rest)) (kf : b < a → W p l e R s m args below meth c H locs cells slots Q (F0 m (pc + 3) ls rest)) : W p l e R s m args below meth c H locs cells slots Q (F0 m pc ls (.int (nI b) :: .int (nI a) :: rest)) :=
  lv_icmp_le hx hb hdg ht (fun h => kt ((nI_leI ha hb2).mp h)) (fun h => kf (Nat.not_le.mp fun q => h ((nI_leI ha hb2).mpr q)))
theorem n_if_eq (hx : p.tables.exec = Jvm.exec) (hb : c.code = cc) {a : Nat} (ha : a < 2 ^ 31) (hdg : decode cc pc = .ok (.ifCond .eq off, 3)) (ht : (pc : Int) + off = (tgt : Int)) (kt : a = 0 → W p l e R s m args below meth c H locs cells slots Q (F0 m tgt ls rest)) (kf : a ≠ 0 → W p l e R s m args below meth c H locs cells slots Q (F0 m (pc + 3) ls rest)) : W p l e R s m args below meth c H locs cells slots Q (F0 m pc ls (.int (nI a) :: rest)) :=
  lv_if_eq hx hb hdg ht (fun h => kt ((nI_eq ha (by decide)).mp h)) (fun h => kf (fun q => h (by rw [q]; rfl)))
theorem n_if_ne (hx : p.tables.exec = Jvm.exec) (hb : c.code = cc) {a : Nat} (ha : a < 2 ^ 31) (hdg : decode cc pc = .ok (.ifCond .ne off, 3)) (ht : (pc : Int) + off = (tgt : Int)) (kt : a ≠ 0 → W p l e R s m args below meth c H locs cells slots Q (F0 m tgt ls rest)) (kf : a = 0 → W p l e R s m args below meth c H locs cells slots Q (F0 m (pc + 3) ls rest)) : W p l e R s m args below meth c H locs cells slots Q (F0 m pc ls (.int (nI a) :: rest)) :=
  lv_if_ne hx hb hdg ht (fun h => kt (fun q => h (by rw [q]; rfl))) (fun h => kf ((nI_eq ha (by decide)).mp h))
theorem n_if_le (hx : p.tables.exec = Jvm.exec) (hb : c.code = cc) {a : Nat} (ha : a < 2 ^ 31) (hdg : decode cc pc = .ok (.ifCond .le off, 3)) (ht : (pc : Int) + off = (tgt : Int)) (kt : a = 0 → W p l e R s m args below meth c H locs cells slots Q (F0 m tgt ls rest)) (kf : 0 < a → W p l e R s m args below meth c H locs cells slots Q (F0 m (pc + 3) ls rest)) : W p l e R s m args below meth c H locs cells slots Q (F0 m pc ls (.int (nI a) :: rest)) :=
  lv_if_le hx hb hdg ht (fun h => kt (Nat.le_zero.mp ((nI_leI (b := 0) ha (by decide)).mp h))) (fun h => kf (Nat.pos_of_ne_zero fun q => h (by rw [q]; decide)))
theorem n_if_gt (hx : p.tables.exec = Jvm.exec) (hb : c.code = cc) {a : Nat} (ha : a < 2 ^ 31) (hdg : decode cc pc = .ok (.ifCond .gt off, 3)) (ht : (pc : Int) + off = (tgt : Int)) (kt : 0 < a → W p l e R s m args below meth c H locs cells slots Q (F0 m tgt ls rest)) (kf : a = 0 → W p l e R s m args below meth c H locs cells slots Q (F0 m (pc + 3) ls rest)) : W p l e R s m args below meth c H locs cells slots Q (F0 m pc ls (.int (nI a) :: rest)) :=
  lv_if_gt hx hb hdg ht (fun h => kt ((nI_ltI (a := 0) (by decide) ha).mp h)) (fun h => kf (Nat.le_zero.mp (Nat.not_lt.mp fun q => h ((nI_ltI (a := 0) (by decide) ha).mpr q))))
theorem n_if_lt (hx : p.tables.exec = Jvm.exec) (hb : c.code = cc) {a : Nat} (ha : a < 2 ^ 31) (hdg : decode cc pc = .ok (.ifCond .lt off, 3)) (ht : (pc : Int) + off = (tgt : Int)) (kf : W p l e R s m args below meth c H locs cells slots Q (F0 m (pc + 3) ls rest)) : W p l e R s m args below meth c H locs cells slots Q (F0 m pc ls (.int (nI a) :: rest)) :=
  lv_if_lt hx hb hdg ht (fun h => absurd h (nI_pos ha)) (fun _ => kf)
theorem n_if_ge (hx : p.tables.exec = Jvm.exec) (hb : c.code = cc) {a : Nat} (ha : a < 2 ^ 31) (hdg : decode cc pc = .ok (.ifCond .ge off, 3)) (ht : (pc : Int) + off = (tgt : Int)) (kt : W p l e R s m args below meth c H locs cells slots Q (F0 m tgt ls rest)) : W p l e R s m args below meth c H locs cells slots Q (F0 m pc ls (.int (nI a) :: rest)) :=
  lv_if_ge hx hb hdg ht (fun _ => kt) (fun h => absurd (nI_pos' ha) h)
theorem b_if_eq (hx : p.tables.exec = Jvm.exec) (hb : c.code = cc) {b : Bool} (hdg : decode cc pc = .ok (.ifCond .eq off, 3)) (ht : (pc : Int) + off = (tgt : Int)) (kt : b = false → W p l e R s m args below meth c H locs cells slots Q (F0 m tgt ls rest)) (kf : b = true → W p l e R s m args below meth c H locs cells slots Q (F0 m (pc + 3) ls rest)) : W p l e R s m args below meth c H locs cells slots Q (F0 m pc ls (.int (bI b) :: rest)) :=
  lv_if_eq hx hb hdg ht (fun h => kt (bI_0.mp h)) (fun h => kf (by cases b; exact absurd rfl h; rfl))
theorem b_if_ne (hx : p.tables.exec = Jvm.exec) (hb : c.code = cc) {b : Bool} (hdg : decode cc pc = .ok (.ifCond .ne off, 3)) (ht : (pc : Int) + off = (tgt : Int)) (kt : b = true → W p l e R s m args below meth c H locs cells slots Q (F0 m tgt ls rest)) (kf : b = false → W p l e R s m args below meth c H locs cells slots Q (F0 m (pc + 3) ls rest)) : W p l e R s m args below meth c H locs cells slots Q (F0 m pc ls (.int (bI b) :: rest)) :=
  lv_if_ne hx hb hdg ht (fun h => kt (by cases b; exact absurd rfl h; rfl)) (fun h => kf (bI_0.mp h))
end NROWS
theorem gIn {x y : Cond} (h : y ∈ AW) : GoodIn (x :: AW) (y :: AW) := by
  intro w hw
  have hm : w ∈ AW := by
    rcases List.mem_cons.mp hw with rfl | h9
    · exact h
    · exact h9
  exact ⟨List.mem_cons_of_mem _ hm, good_of_word (List.all_eq_true.mp AW_good w hm)⟩
section CWS
variable {s : State} {args : Array Value} {R rm : Room} {own C : String} {index maxL mc ms : Nat} {y : MethodName} {bytes : ByteArray} {ret : Option FieldType} {x : Cond}
theorem cwV9 (n : Nat) (ht : ∀ w ∈ x :: AW, w.before args s = true) (hc : Cond.code y bytes maxL ret ∈ AW) (hl : Cond.methodLink own index y ∈ AW) (hi : Cond.instanceMethod y ∈ AW) (he : Cond.selects C y y ∈ AW) (hini : Cond.initialized y.cls ∈ AW) (hrc : rm.cells = mc) (hrs : rm.slots = ms)
    (hd : y.cls ≠ "java/lang/invoke/MethodHandle" ∧ y.cls ≠ "java/lang/invoke/VarHandle" ∧ (parseMethodDescriptor y.desc).map (fun d => d.parameters.length) = some n) (hR : rm.frames + 1 ≤ R.frames ∧ 8 + (maxL + 11) + rm.locals ≤ R.locals) : CallW R s args own C index y bytes maxL ret (Cond.code y bytes maxL ret :: AW) rm mc ms n :=
  ⟨callB_of n ht (gIn hc) rfl hrc hrs (ht _ (List.mem_cons_of_mem _ hini)) (ht _ (List.mem_cons_of_mem _ hl)) hd hR, ht _ (List.mem_cons_of_mem _ hi), ht _ (List.mem_cons_of_mem _ he)⟩
theorem cwS9 (n : Nat) (ht : ∀ w ∈ x :: AW, w.before args s = true) (hc : Cond.code y bytes maxL ret ∈ AW) (hl : Cond.methodLink own index y ∈ AW) (hst : Cond.static y ∈ AW) (hini : Cond.initialized y.cls ∈ AW) (hrc : rm.cells = mc) (hrs : rm.slots = ms)
    (hd : y.cls ≠ "java/lang/invoke/MethodHandle" ∧ y.cls ≠ "java/lang/invoke/VarHandle" ∧ (parseMethodDescriptor y.desc).map (fun d => d.parameters.length) = some n) (hR : rm.frames + 1 ≤ R.frames ∧ 8 + (maxL + 11) + rm.locals ≤ R.locals) : CallB R s args own index y bytes maxL ret (Cond.code y bytes maxL ret :: AW) rm mc ms n ∧ (Cond.static y).before args s = true :=
  ⟨callB_of n ht (gIn hc) rfl hrc hrs (ht _ (List.mem_cons_of_mem _ hini)) (ht _ (List.mem_cons_of_mem _ hl)) hd hR, ht _ (List.mem_cons_of_mem _ hst)⟩
theorem cwN9 (n : Nat) (ht : ∀ w ∈ x :: AW, w.before args s = true) (hc : Cond.code y bytes maxL ret ∈ AW) {host : String} (hl : va_Nw (.methodLinkNest own index y host) s) (hini : Cond.initialized y.cls ∈ AW) (hrc : rm.cells = mc) (hrs : rm.slots = ms)
    (hd : y.cls ≠ "java/lang/invoke/MethodHandle" ∧ y.cls ≠ "java/lang/invoke/VarHandle" ∧ (parseMethodDescriptor y.desc).map (fun d => d.parameters.length) = some n) (hR : rm.frames + 1 ≤ R.frames ∧ 8 + (maxL + 11) + rm.locals ≤ R.locals) : va_CN R s args own index y host bytes maxL ret (Cond.code y bytes maxL ret :: AW) rm mc ms n :=
  va_cnB n ht (gIn hc) rfl hrc hrs hl (ht _ (List.mem_cons_of_mem _ hini)) hd hR
end CWS
theorem nf0 {s : State} (h : NW s) : va_Nw (.fieldLinkNest RX4 77 "SquopPiles$Mat" "cell" "[I" "SquopPiles") s := h.1 (RX4, 77, "SquopPiles$Mat", "cell", "[I") (List.mem_of_getElem? (i := 0) rfl)
theorem nf1 {s : State} (h : NW s) : va_Nw (.fieldLinkNest RX5 170 "SquopPiles$Mat" "cell" "[I" "SquopPiles") s := h.1 (RX5, 170, "SquopPiles$Mat", "cell", "[I") (List.mem_of_getElem? (i := 1) rfl)
theorem nf2 {s : State} (h : NW s) : va_Nw (.fieldLinkNest RX5 94 "SquopPiles$State" "mat" "LSquopPiles$Mat;" "SquopPiles") s := h.1 (RX5, 94, "SquopPiles$State", "mat", "LSquopPiles$Mat;") (List.mem_of_getElem? (i := 2) rfl)
theorem nf3 {s : State} (h : NW s) : va_Nw (.fieldLinkNest RX5 177 "SquopPiles$State" "flights" "[I" "SquopPiles") s := h.1 (RX5, 177, "SquopPiles$State", "flights", "[I") (List.mem_of_getElem? (i := 3) rfl)
theorem nf4 {s : State} (h : NW s) : va_Nw (.fieldLinkNest RX5 210 "SquopPiles$State" "fouls" "[I" "SquopPiles") s := h.1 (RX5, 210, "SquopPiles$State", "fouls", "[I") (List.mem_of_getElem? (i := 4) rfl)
theorem nf5 {s : State} (h : NW s) : va_Nw (.fieldLinkNest RX5 213 "SquopPiles$State" "lost" "[I" "SquopPiles") s := h.1 (RX5, 213, "SquopPiles$State", "lost", "[I") (List.mem_of_getElem? (i := 5) rfl)
theorem nf6 {s : State} (h : NW s) : va_Nw (.fieldLinkNest RX5 219 "SquopPiles$State" "turn" "I" "SquopPiles") s := h.1 (RX5, 219, "SquopPiles$State", "turn", "I") (List.mem_of_getElem? (i := 6) rfl)
theorem nf7 {s : State} (h : NW s) : va_Nw (.fieldLinkNest RX5 237 "SquopPiles$State" "lifts" "I" "SquopPiles") s := h.1 (RX5, 237, "SquopPiles$State", "lifts", "I") (List.mem_of_getElem? (i := 7) rfl)
theorem nf8 {s : State} (h : NW s) : va_Nw (.fieldLinkNest RX5 109 "SquopPiles$State" "setting" "I" "SquopPiles") s := h.1 (RX5, 109, "SquopPiles$State", "setting", "I") (List.mem_of_getElem? (i := 8) rfl)
theorem nf9 {s : State} (h : NW s) : va_Nw (.fieldLinkNest RX5 156 "SquopPiles$Past" "many" "I" "SquopPiles") s := h.1 (RX5, 156, "SquopPiles$Past", "many", "I") (List.mem_of_getElem? (i := 9) rfl)
theorem nf10 {s : State} (h : NW s) : va_Nw (.fieldLinkNest RX5 128 "SquopPiles$GameText" "length" "I" "SquopPiles") s := h.1 (RX5, 128, "SquopPiles$GameText", "length", "I") (List.mem_of_getElem? (i := 10) rfl)
theorem nm0 {s : State} (h : NW s) : va_Nw (.methodLinkNest RX5 9 yX4_init "SquopPiles") s := h.2 (RX5, 9, yX4_init) (List.mem_of_getElem? (i := 0) rfl)
theorem nm1 {s : State} (h : NW s) : va_Nw (.methodLinkNest RX1 21 yX5_colourOf "SquopPiles") s := h.2 (RX1, 21, yX5_colourOf) (List.mem_of_getElem? (i := 1) rfl)
theorem nm2 {s : State} (h : NW s) : va_Nw (.methodLinkNest RX1 25 yX5_baseOf "SquopPiles") s := h.2 (RX1, 25, yX5_baseOf) (List.mem_of_getElem? (i := 2) rfl)
theorem nm3 {s : State} (h : NW s) : va_Nw (.methodLinkNest RX2 24 yX4_init "SquopPiles") s := h.2 (RX2, 24, yX4_init) (List.mem_of_getElem? (i := 3) rfl)
theorem nm4 {s : State} (h : NW s) : va_Nw (.methodLinkNest RX5 28 yX0_init "SquopPiles") s := h.2 (RX5, 28, yX0_init) (List.mem_of_getElem? (i := 4) rfl)
theorem nm5 {s : State} (h : NW s) : va_Nw (.methodLinkNest RX5 42 yX3_init "SquopPiles") s := h.2 (RX5, 42, yX3_init) (List.mem_of_getElem? (i := 5) rfl)
theorem nm6 {s : State} (h : NW s) : va_Nw (.methodLinkNest RX4 52 yX5_colourOf "SquopPiles") s := h.2 (RX4, 52, yX5_colourOf) (List.mem_of_getElem? (i := 6) rfl)
theorem nm7 {s : State} (h : NW s) : va_Nw (.methodLinkNest RX1 34 yX5_isWink "SquopPiles") s := h.2 (RX1, 34, yX5_isWink) (List.mem_of_getElem? (i := 7) rfl)
theorem nm8 {s : State} (h : NW s) : va_Nw (.methodLinkNest RX3 31 yX5_landing "SquopPiles") s := h.2 (RX3, 31, yX5_landing) (List.mem_of_getElem? (i := 8) rfl)
theorem nm9 {s : State} (h : NW s) : va_Nw (.methodLinkNest RX4 80 yX5_stepsOf "SquopPiles") s := h.2 (RX4, 80, yX5_stepsOf) (List.mem_of_getElem? (i := 9) rfl)
theorem nm10 {s : State} (h : NW s) : va_Nw (.methodLinkNest RX4 83 yX5_landing "SquopPiles") s := h.2 (RX4, 83, yX5_landing) (List.mem_of_getElem? (i := 10) rfl)
theorem nm11 {s : State} (h : NW s) : va_Nw (.methodLinkNest RX4 86 yX5_restingCell "SquopPiles") s := h.2 (RX4, 86, yX5_restingCell) (List.mem_of_getElem? (i := 11) rfl)
theorem nm12 {s : State} (h : NW s) : va_Nw (.methodLinkNest RX4 99 yX5_flightAnswer "SquopPiles") s := h.2 (RX4, 99, yX5_flightAnswer) (List.mem_of_getElem? (i := 12) rfl)
theorem nm13 {s : State} (h : NW s) : va_Nw (.methodLinkNest RX4 63 yX5_cellAt "SquopPiles") s := h.2 (RX4, 63, yX5_cellAt) (List.mem_of_getElem? (i := 13) rfl)
theorem nm14 {s : State} (h : NW s) : va_Nw (.methodLinkNest RX4 73 yX5_cellBeside "SquopPiles") s := h.2 (RX4, 73, yX5_cellBeside) (List.mem_of_getElem? (i := 14) rfl)
theorem nm15 {s : State} (h : NW s) : va_Nw (.methodLinkNest RX4 102 yX5_isWink "SquopPiles") s := h.2 (RX4, 102, yX5_isWink) (List.mem_of_getElem? (i := 15) rfl)
