section CVE
variable {p : Program} {l : Launch} {e : Env} {R : Room} {s : State} {m : MethodId} {args : Array Value} {below : List Frame} {meth : Method} {c : Code} {H : Heap} {locs : List Loc} {cells slots : Nat} {Q : State → Prop}
variable {cc : ByteArray} {pc : Nat} {ls : Array Slot} {rest st0 : List Value} {D : va_G} {cI cQ cL : ClassId} {ad : Nat → Nat} {N : Nat} {F : Nat → va_E} {Ts : List Cond}
theorem cvE {nL index na : Nat} {own C : String} {y : MethodName} {bytes : ByteArray} {maxL : Nat} {ret : Option FieldType} {ws : List Cond} {rm : Room} {As : List Value} {r : Value} {P9 : (Nat → va_E) → Prop} {k ci n : Nat} {T : u_T} {fs : List Value}
    (S : CallFix p m c cc nL s args Ts own) (hM : MX l y ws rm D cI cQ cL ad N F (.ref (ad k) :: As) (fun v9 G9 => v9 = some r ∧ P9 G9) 0 0) (cw : CallW R s args own C index y bytes maxL ret ws rm 0 0 na) (hDi : iD ad N) (hK : va_K D vwCl (iT cI cQ cL) s) (hP : va_P D vwCl (iW ad N F) H) (hNW : NW s) (hS : va_S (iA ad N s.heap.size) s.heap H locs) (hk : k < N) (hF : F k = .inr (ci, fs)) (hc : vwCl[ci]? = some (C, T, n))
    (hn : As.length = na) (hsize : ls.size = nL) (hstack : st0 = As.reverse ++ .ref (ad k) :: rest) (hW : (rest.map fun v => v.category).sum ≤ 8) (hf : cells + 0 ≤ R.cells ∧ slots + 0 ≤ R.slots) (hdg : decode cc pc = .ok (.invokevirtual index, 3))
    (kk : ∀ (F' : Nat → va_E) (H1 : Heap) (locs1 : List Loc), P9 F' → va_P D vwCl (iW ad N F') H1 → va_S (iA ad N s.heap.size) s.heap H1 locs1 → W p l e R s m args below meth c H1 locs1 cells slots Q (F0 m (pc + 3) ls (r :: rest))) : W p l e R s m args below meth c H locs cells slots Q (F0 m pc ls st0) :=
  cvW S hM cw hDi hK hP hNW hS hk hF hc hn hsize hstack hW hf hdg (fun v G9 H1 locs1 hp hP1 hS1 => by
    obtain ⟨rfl, hq⟩ := hp
    exact kk G9 H1 locs1 hq hP1 hS1)
end CVE
