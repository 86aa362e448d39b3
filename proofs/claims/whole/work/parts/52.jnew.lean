/-! The rows of new things: an array of numbers, an object -/
section JNw
variable {G : GT} {nm own : String} {cc : ByteArray} {nL : Nat} {ret : Option FieldType} {mc ms d : Nat} {Q : Option Value → va_W → Prop} {k n pc : Nat} {lv : List (Nat × Value)} {st : List Value} {ws : va_W}
theorem J_newaI {x : Int32} {N : Nat} (hw : Cond.arrayClass .int ∈ TB) (hn : ¬ x < 0) (hN : x.toNatClampNeg = N) (hby : N * componentBytes .int ≤ 536870912) (hk : k + 1 ≤ mc) (hs : n + N ≤ ms) (hd : decode cc pc = .ok (.newarray .int, 2))
    (K : ∀ q : Nat, J G nm own cc nL ret mc ms d Q (k + 1) (n + N) (pc + 2) lv (.ref q :: st) (ws ++ [(q, .inl (gI G, N, .inl (fun _ => 0)))])) : J G nm own cc nL ret mc ms d Q k n pc lv (.int x :: st) ws := by
  intro p e s m args below meth c H locs A ls C hP hD hS hA hv
  refine va_newa (atype := .int) (D := G.2.1) (a0 := (N, .inl (fun _ => 0))) (ty := .int) C.ex C.cb (C.ts _ hw) rfl C.kk hP hD hS hA (fun cA => rfl) hn hN hby hk hs hd (fun q cA H1 hK1 hP1 hD1 hS1 => ?_)
  have e1 : s.vm.findClass ("[" ++ FieldType.int.toString) = some cA := (hK1.2 3 (cA, .int) rfl).2
  have e2 : s.vm.findClass ("[" ++ FieldType.int.toString) = some (gI G) := (C.kk.2 0 (gI G, .int) rfl).2
  have e3 : cA = gI G := Option.some.inj (e1.symm.trans e2)
  subst e3
  exact K q p e s m args below meth c H1 locs A ls C hP1 hD1 hS1 hA hv
theorem J_newaL {x : Int32} {N : Nat} (hw : Cond.arrayClass .long ∈ TB) (hn : ¬ x < 0) (hN : x.toNatClampNeg = N) (hby : N * componentBytes .long ≤ 536870912) (hk : k + 1 ≤ mc) (hs : n + N ≤ ms) (hd : decode cc pc = .ok (.newarray .long, 2))
    (K : ∀ q : Nat, J G nm own cc nL ret mc ms d Q (k + 1) (n + N) (pc + 2) lv (.ref q :: st) (ws ++ [(q, .inl (gJ G, N, .inr (.inl (fun _ => 0))))])) : J G nm own cc nL ret mc ms d Q k n pc lv (.int x :: st) ws := by
  intro p e s m args below meth c H locs A ls C hP hD hS hA hv
  refine va_newa (atype := .long) (D := G.2.1) (a0 := (N, .inr (.inl (fun _ => 0)))) (ty := .long) C.ex C.cb (C.ts _ hw) rfl C.kk hP hD hS hA (fun cA => rfl) hn hN hby hk hs hd (fun q cA H1 hK1 hP1 hD1 hS1 => ?_)
  have e1 : s.vm.findClass ("[" ++ FieldType.long.toString) = some cA := (hK1.2 3 (cA, .long) rfl).2
  have e2 : s.vm.findClass ("[" ++ FieldType.long.toString) = some (gJ G) := (C.kk.2 1 (gJ G, .long) rfl).2
  have e3 : cA = gJ G := Option.some.inj (e1.symm.trans e2)
  subst e3
  exact K q p e s m args below meth c H1 locs A ls C hP1 hD1 hS1 hA hv
theorem J_new {C0 : String} {T : u_T} {N ci index : Nat} (ty : Nat → FieldType) (fs : List Value) (hc : vwCl[ci]? = some (C0, T, N)) (hin : ∀ w ∈ u_ws C0 T N, w ∈ TB) (hty : ∀ k, k < N → parseFieldDescriptor (T k).2.2.1 = some (ty k)) (hcl : Cond.classLink own index C0 ∈ TB) (hinst : Cond.instantiable C0 N ∈ TB) (hini : Cond.initialized C0 ∈ TB) (hfs : ∀ j, j < N → defaultValue (ty j) = vp_V fs j) (hk : k + 1 ≤ mc) (hs : n + N ≤ ms) (hd : decode cc pc = .ok (.new index, 3))
    (K : ∀ q : Nat, J G nm own cc nL ret mc ms d Q (k + 1) (n + N) (pc + 3) lv (.ref q :: st) (ws ++ [(q, .inr (ci, fs))])) : J G nm own cc nL ret mc ms d Q k n pc lv st ws := by
  intro p e s m args below meth c H locs A ls C hP hD hS hA hv
  exact va_new (D := G.2.1) C.ex C.cb C.ts hin ty hty C.ow (C.ts _ hcl) (C.ts _ hinst) (C.ts _ hini) C.kk hP hD hS hA hc hfs hk hs hd (fun q H1 hP1 hD1 hS1 => K q p e s m args below meth c H1 locs A ls C hP1 hD1 hS1 hA hv)
end JNw
