def FZ : Nat → va_E := fun _ => .inr (0, [])
def F5 (cI cQ : ClassId) (b0 : Nat) : Nat → va_E := w5N cI cQ b0 (va_up FZ 0 (.inr (5, [.null, .null, .null, .null, .null, .null, .int (bI false)])))
def F6 (cI cQ : ClassId) (b0 : Nat) : Nat → va_E := w6W cI b0 (va_up (F5 cI cQ b0) 77 (.inr (6, [.null, .null, .null, .null, .null, .null, .null, .int (bI false), .int (nI 0), .int (nI 0), .int (nI 0), .int (nI 0)]))) 77 row0
def FL (cI cQ cL : ClassId) (b0 : Nat) : Nat → va_E := va_up (F6 cI cQ b0) 85 (.inl (cL, 1, .inr (.inl (fun _ => 0))))
theorem cwIL {s : State} {args : Array Value} {R rm : Room} {own : String} {index maxL mc ms : Nat} {y : MethodName} {bytes : ByteArray} (ht : ∀ w ∈ LW, w.before args s = true) (hc : Cond.code y bytes maxL none ∈ AW) (hl : Cond.methodLink own index y ∈ LW) (hi : Cond.instanceMethod y ∈ AW) (hini : Cond.initialized y.cls ∈ AW) (hy1 : y.name = "<init>") (hrc : rm.cells = mc) (hrs : rm.slots = ms)
    (hd : y.cls ≠ "java/lang/invoke/MethodHandle" ∧ y.cls ≠ "java/lang/invoke/VarHandle" ∧ (parseMethodDescriptor y.desc).map (fun d => d.parameters.length) = some 0) (hR : rm.frames + 1 ≤ R.frames ∧ 8 + (maxL + 11) + rm.locals ≤ R.locals) : CallB R s args own index y bytes maxL none (Cond.code y bytes maxL none :: AW) rm mc ms 0 ∧ y.name = "<init>" ∧ (Cond.instanceMethod y).before args s = true :=
  ⟨callB_of 0 ht (gInL hc) rfl hrc hrs (ht _ (lcA _ hini)) (ht _ hl) hd hR, hy1, ht _ (lcA _ hi)⟩
set_option maxRecDepth 100000 in
set_option maxHeartbeats 4000000 in
theorem lw_begin {p : Program} {l : Launch} {e : Env} {s : State} {m : MethodId} {below : List Frame} {meth : Method} {c : Code} {D : va_G} {cI cQ cL : ClassId} {b L : Nat} {xs : Nat → Int32} {Q : State → Prop} (hC : LX p s m c b L xs D cI cQ cL) (hAO : va_AO "SquopPiles$State" s)
    (kk : ∀ (H : Heap) (locs : List Loc) (ls : Array Slot), va_P D vwCl (iW (pb s.heap.size) 86 (FL cI cQ cL s.heap.size)) H → va_S (iA (pb s.heap.size) 86 s.heap.size) s.heap H locs → lv_has ls 9 (lvL b s.heap.size 0) → W p l e room_1 s m #[Value.ref b] below meth c H locs 86 2415 Q (F0 m 23 ls [])) :
    W p l e room_1 s m #[Value.ref b] below meth c s.heap [] 0 0 Q (entryFrame m ([Value.ref b] : List Value).toArray 9) := by
  obtain ⟨hx, hb, hml, hown, hts, hK, hNW, hX, hXN, hXs, hbl, hL30⟩ := hC
  have hl := lv_entry ([.ref b]) (n := 9) (Nat.le_of_ble_eq_true rfl)
  rw [lg_entry_eq]
  generalize (lg_sl ([.ref b]) ++ List.replicate (9 - (lg_sl ([.ref b])).length) Slot.unset).toArray = ls at hl ⊢
  have hl : lv_has ls 9 [(0, .ref b)] := hl
  have hP : va_P D vwCl (iW (pb s.heap.size) 0 FZ) s.heap := fun k q h => by simp [iW] at h
  have hS : va_S (bA s.heap.size) s.heap s.heap [] := va_S.rf
  have hb0 : s.heap.size ≤ s.heap.size := Nat.le_refl _
  refine nwO (ci := 5) hx hb hts (fun w h => lcA _ (acX5 w h)) tyX5 tyX5_ok hown (hts _ (lc0 _ (List.mem_of_getElem? (i := 19) rfl))) (hts _ (lcA _ (ac28 _ (List.mem_of_getElem? (i := 11) rfl)))) (hts _ (lcA _ mini_RX5)) hK hP hS hb0 (by omega) rfl [.null, .null, .null, .null, .null, .null, .int (bI false)] (fun j hj => dv5 j hj) (Nat.le_of_ble_eq_true rfl) (Nat.le_of_ble_eq_true rfl) (dk kL_law_0_ok 0 rfl) (fun H hP hS => ?_)
  refine lv_dup hx hb (dk kL_law_0_ok 1 rfl) rfl ?_
  refine cvK (k := 0) ⟨hx, hb, hml, hown, hts⟩ (tX5_init l D cI cQ cL s.heap.size _ (va_up_self _ _ _)) (cwIL hts mcX5_init (lc0 _ (List.mem_of_getElem? (i := 21) rfl)) miX5_init mini_RX5 rfl rfl rfl hdX5_init ⟨Nat.le_of_ble_eq_true rfl, Nat.le_of_ble_eq_true rfl⟩) hAO hK hP hNW hS (by omega) (by omega) hl.1 rfl (Nat.le_of_ble_eq_true rfl) ⟨Nat.le_of_ble_eq_true rfl, Nat.le_of_ble_eq_true rfl⟩ (dk kL_law_0_ok 2 rfl) (fun H locs hP hS => ?_)
  have hP : va_P D vwCl (iW (pb s.heap.size) 77 (F5 cI cQ s.heap.size)) H := hP
  refine lv_astore_n (lv' := [(1, .ref (pb s.heap.size 0)), (0, .ref b)]) hx hb (dk kL_law_0_ok 3 rfl) rfl hl (by decide) rfl (fun ls hl => ?_)
  refine nwO (ci := 6) hx hb hts (fun w h => lcA _ (acX6 w h)) tyX6 tyX6_ok hown (hts _ (lc0 _ (List.mem_of_getElem? (i := 20) rfl))) (hts _ (lcA _ (ac28 _ (List.mem_of_getElem? (i := 12) rfl)))) (hts _ (lcA _ mini_RX6)) hK hP hS hb0 (by omega) rfl [.null, .null, .null, .null, .null, .null, .null, .int (bI false), .int (nI 0), .int (nI 0), .int (nI 0), .int (nI 0)] (fun j hj => dv6 j hj) (Nat.le_of_ble_eq_true rfl) (Nat.le_of_ble_eq_true rfl) (dk kL_law_0_ok 4 rfl) (fun H hP hS => ?_)
  refine lv_dup hx hb (dk kL_law_0_ok 5 rfl) rfl ?_
  refine cvK (k := 77) ⟨hx, hb, hml, hown, hts⟩ (tX6_init l D cI cQ cL s.heap.size _ 77 (va_up_self _ _ _)) (cwIL hts mcX6_init (lc0 _ (List.mem_of_getElem? (i := 22) rfl)) miX6_init mini_RX6 rfl rfl rfl hdX6_init ⟨Nat.le_of_ble_eq_true rfl, Nat.le_of_ble_eq_true rfl⟩) hAO hK hP hNW hS (by omega) (by omega) hl.1 rfl (Nat.le_of_ble_eq_true rfl) ⟨Nat.le_of_ble_eq_true rfl, Nat.le_of_ble_eq_true rfl⟩ (dk kL_law_0_ok 6 rfl) (fun H locs hP hS => ?_)
  have hP : va_P D vwCl (iW (pb s.heap.size) 85 (F6 cI cQ s.heap.size)) H := hP
  refine lv_astore_n (lv' := [(2, .ref (pb s.heap.size 77)), (1, .ref (pb s.heap.size 0)), (0, .ref b)]) hx hb (dk kL_law_0_ok 7 rfl) rfl hl (by decide) rfl (fun ls hl => ?_)
  refine lv_iconst (v := nI 1) hx hb (dk kL_law_0_ok 8 rfl) rfl ?_
  refine nwL hx hb (hts _ (lcA _ (ac28 _ (List.mem_of_getElem? (i := 13) rfl)))) hK hP hS hb0 (by omega) 1 rfl (by decide) (Nat.le_of_ble_eq_true rfl) (Nat.le_of_ble_eq_true rfl) (dk kL_law_0_ok 9 rfl) (fun H hP hS => ?_)
  have hP : va_P D vwCl (iW (pb s.heap.size) 86 (FL cI cQ cL s.heap.size)) H := hP
  refine lv_astore_n (lv' := [(3, .ref (pb s.heap.size 85)), (2, .ref (pb s.heap.size 77)), (1, .ref (pb s.heap.size 0)), (0, .ref b)]) hx hb (dk kL_law_0_ok 10 rfl) rfl hl (by decide) rfl (fun ls hl => ?_)
  refine lv_iconst (v := nI 0) hx hb (dk kL_law_0_ok 11 rfl) rfl ?_
  refine lv_istore (lv' := [(4, .int (nI 0)), (3, .ref (pb s.heap.size 85)), (2, .ref (pb s.heap.size 77)), (1, .ref (pb s.heap.size 0)), (0, .ref b)]) hx hb (dk kL_law_0_ok 12 rfl) hl (by decide) rfl (fun ls hl => ?_)
  rw [← iA_pb (N := 86) (Nat.le_refl s.heap.size) (Nat.le_add_right _ _)] at hS
  exact kk H _ ls hP hS (lv_sub hl [4, 3, 2, 1, 0] rfl)
