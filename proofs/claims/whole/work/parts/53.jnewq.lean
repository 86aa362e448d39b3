theorem w_arrI : Cond.arrayClass .int ∈ TB := by decide +kernel
theorem w_arrL : Cond.arrayClass .long ∈ TB := by decide +kernel
theorem w_mAO : Cond.arrayOver (.object "HabitWill$Sheet") ∈ lw_tbl := by decide +kernel
theorem J_newq {G : GT} {nm own : String} {cc : ByteArray} {nL : Nat} {ret : Option FieldType} {mc ms d : Nat} {Q : Option Value → va_W → Prop} {k n pc : Nat} {lv : List (Nat × Value)} {st : List Value} {ws : va_W} {x : Int32} {N index : Nat} (hcl : Cond.classLink own index "HabitWill$Sheet" ∈ TB) (hn : ¬ x < 0) (hN : x.toNatClampNeg = N) (hby : N * 4 ≤ 536870912) (hk : k + 1 ≤ mc) (hs : n + N ≤ ms) (hd : decode cc pc = .ok (.anewarray index, 3))
    (K : ∀ q : Nat, J G nm own cc nL ret mc ms d Q (k + 1) (n + N) (pc + 3) lv (.ref q :: st) (ws ++ [(q, .inl (gS G, N, .inr (.inr (.inr (.inr (fun _ => none))))))])) : J G nm own cc nL ret mc ms d Q k n pc lv (.int x :: st) ws := by
  intro p e s m args below meth c H locs A ls C hP hD hS hA hv
  refine va_newq (D := G.2.1) C.ex C.cb C.ow (C.ts _ hcl) C.nw.2.2 C.kk hP hD hS hA hn hN hby hk hs hd (fun q cA H1 hK1 hP1 hD1 hS1 => ?_)
  obtain ⟨_, _, _, _, _, e1⟩ := (hK1.2 3 (cA, .object "HabitWill$Sheet") rfl).2
  obtain ⟨_, _, _, _, _, e2⟩ := (C.kk.2 2 (gS G, .object "HabitWill$Sheet") rfl).2
  have e3 : cA = gS G := Option.some.inj (e1.symm.trans e2)
  subst e3
  exact K q p e s m args below meth c H1 locs A ls C hP1 hD1 hS1 hA hv
