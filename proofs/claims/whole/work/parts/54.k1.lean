/-! Constructors -/
theorem wk_oi : Cond.instanceMethod Lib.objectInit ∈ TB := TB_mem 74 (by decide +kernel) (by decide +kernel)
theorem wk_oc : Cond.code Lib.objectInit ⟨#[0xb1]⟩ 1 none ∈ TB := TB_mem 75 (by decide +kernel) (by decide +kernel)
section JKt
variable {G : GT} {nm own : String} {cc : ByteArray} {nL : Nat} {ret : Option FieldType} {mc ms d : Nat} {Q : Option Value → va_W → Prop} {k n pc : Nat} {lv : List (Nat × Value)} {st : List Value} {ws : va_W}
theorem J_oinit {index a : Nat} (hw : Cond.methodLink own index Lib.objectInit ∈ TB) (h1 : 1 ≤ d) (hcat : (st.map fun v => v.category).sum ≤ 8) (hd : decode cc pc = .ok (.invokespecial index, 3)) (K : J G nm own cc nL ret mc ms d Q k n (pc + 3) lv st ws) : J G nm own cc nL ret mc ms d Q k n pc lv (.ref a :: st) ws := by
  intro p e s m args below meth c H locs A ls C hP hD hS hA hv
  refine W.objInit (a := a) (rest := st) C.ex C.cb C.ow (C.ts _ hw) (C.ts _ wk_oi) (C.ts _ wk_oc) rfl (hv.1.trans C.ml.symm) rfl hd (show 1 ≤ d from h1) ?_ (K p e s m args below meth c H locs A ls C hP hD hS hA hv)
  have := lv_room (m := m) (pc := pc) (ls := ls) (rest := .ref a :: st) hcat
  show _ ≤ 60 * d
  omega
/-- the cells in another order -/
theorem J_ix (ix : List Nat) (ws2 : va_W) (hn : ∀ i, i < ix.length → ∀ j, j < ix.length → ix[i]? = ix[j]? → i = j) (hw : ix.map (fun i => ws[i]?) = ws2.map some) (K : J G nm own cc nL ret mc ms d Q k n pc lv st ws2) : J G nm own cc nL ret mc ms d Q k n pc lv st ws := by
  have H : ∀ (i : Nat) (q : Nat × va_E), ws2[i]? = some q → ∃ j, ix[i]? = some j ∧ ws[j]? = some q := by
    intro i q h
    have h1 : (ws2.map some)[i]? = some (some q) := by rw [List.getElem?_map, h]; rfl
    rw [← hw, List.getElem?_map] at h1
    obtain ⟨j, hj, e⟩ := Option.map_eq_some_iff.mp h1
    exact ⟨j, hj, e⟩
  intro p e s m args below meth c H0 locs A ls C hP hD hS hA hv
  refine K p e s m args below meth c H0 locs A ls C (fun i q h => ?_) ⟨fun i j x y hx hy hxy => ?_, fun i x hx => ?_⟩ hS hA hv
  · obtain ⟨j, _, hj⟩ := H i q h
    exact hP j q hj
  · obtain ⟨i1, a1, b1⟩ := H i x hx
    obtain ⟨j1, a2, b2⟩ := H j y hy
    have e1 := hD.1 i1 j1 x y b1 b2 hxy
    subst e1
    exact hn i (List.getElem?_eq_some_iff.mp a1).1 j (List.getElem?_eq_some_iff.mp a2).1 (a1.trans a2.symm)
  · obtain ⟨j, _, hj⟩ := H i x hx
    exact hD.2 j x hj
theorem J_aast (q0 qk : Nat) {a N v : Nat} {vs : List Value} {f : Nat → Option Nat} {i : Int32} (ws2 : va_W) (ha : ws[q0]? = some (a, .inl (gS G, N, .inr (.inr (.inr (.inr f)))))) (hv : ws[qk]? = some (v, .inr (7, vs))) (hin : vp_in i N) (hw : ws.set q0 (a, .inl (gS G, N, .inr (.inr (.inr (.inr (va_up f i.toNatClampNeg (some v))))))) = ws2) (hd : decode cc pc = .ok (.aastore, 1)) (K : J G nm own cc nL ret mc ms d Q k n (pc + 1) lv st ws2) : J G nm own cc nL ret mc ms d Q k n pc lv (.ref v :: .int i :: .ref a :: st) ws := by
  subst hw
  have hv0 := hv
  intro p e s m args below meth c H locs A ls C hP hD hS hA hv
  exact va_astq (r := (RX8, TX8, 3)) C.ex C.cb C.kk hP hD hS q0 2 qk 7 ha rfl hv0 rfl hin hd (fun H1 locs1 hP1 hD1 hS1 => K p e s m args below meth c H1 locs1 A ls C hP1 hD1 hS1 hA hv)
end JKt
theorem df_X0 : ∀ j, j < 10 → defaultValue (tyX0 j) = vp_V [.null, .int 0, .int 0, .int 0, .int 0, .int 0, .null, .null, .null, .null] j := fun j hj => match j, hj with
  | 0, _ => rfl
  | 1, _ => rfl
  | 2, _ => rfl
  | 3, _ => rfl
  | 4, _ => rfl
  | 5, _ => rfl
  | 6, _ => rfl
  | 7, _ => rfl
  | 8, _ => rfl
  | 9, _ => rfl
  | n + 10, h => absurd h (by omega)
theorem df_X1 : ∀ j, j < 6 → defaultValue (tyX1 j) = vp_V [.null, .null, .null, .null, .null, .int 0] j := fun j hj => match j, hj with
  | 0, _ => rfl
  | 1, _ => rfl
  | 2, _ => rfl
  | 3, _ => rfl
  | 4, _ => rfl
  | 5, _ => rfl
  | n + 6, h => absurd h (by omega)
theorem df_X2 : ∀ j, j < 12 → defaultValue (tyX2 j) = vp_V [.null, .int 0, .int 0, .int 0, .int 0, .int 0, .null, .null, .null, .null, .null, .null] j := fun j hj => match j, hj with
  | 0, _ => rfl
  | 1, _ => rfl
  | 2, _ => rfl
  | 3, _ => rfl
  | 4, _ => rfl
  | 5, _ => rfl
  | 6, _ => rfl
  | 7, _ => rfl
  | 8, _ => rfl
  | 9, _ => rfl
  | 10, _ => rfl
  | 11, _ => rfl
  | n + 12, h => absurd h (by omega)
theorem df_X3 : ∀ j, j < 10 → defaultValue (tyX3 j) = vp_V [.null, .int 0, .int 0, .int 0, .int 0, .int 0, .null, .null, .null, .null] j := fun j hj => match j, hj with
  | 0, _ => rfl
  | 1, _ => rfl
  | 2, _ => rfl
  | 3, _ => rfl
  | 4, _ => rfl
  | 5, _ => rfl
  | 6, _ => rfl
  | 7, _ => rfl
  | 8, _ => rfl
  | 9, _ => rfl
  | n + 10, h => absurd h (by omega)
theorem df_X4 : ∀ j, j < 2 → defaultValue (tyX4 j) = vp_V [.null, .null] j := fun j hj => match j, hj with
  | 0, _ => rfl
  | 1, _ => rfl
  | n + 2, h => absurd h (by omega)
theorem df_X6 : ∀ j, j < 9 → defaultValue (tyX6 j) = vp_V [.null, .null, .null, .null, .null, .int 0, .int 0, .int 0, .int 0] j := fun j hj => match j, hj with
  | 0, _ => rfl
  | 1, _ => rfl
  | 2, _ => rfl
  | 3, _ => rfl
  | 4, _ => rfl
  | 5, _ => rfl
  | 6, _ => rfl
  | 7, _ => rfl
  | 8, _ => rfl
  | n + 9, h => absurd h (by omega)
theorem df_X7 : ∀ j, j < 3 → defaultValue (tyX7 j) = vp_V [.null, .null, .int 0] j := fun j hj => match j, hj with
  | 0, _ => rfl
  | 1, _ => rfl
  | 2, _ => rfl
  | n + 3, h => absurd h (by omega)
theorem df_X8 : ∀ j, j < 3 → defaultValue (tyX8 j) = vp_V [.null, .int 0, .int 0] j := fun j hj => match j, hj with
  | 0, _ => rfl
  | 1, _ => rfl
  | 2, _ => rfl
  | n + 3, h => absurd h (by omega)
theorem df_X9 : ∀ j, j < 4 → defaultValue (tyX9 j) = vp_V [.null, .null, .null, .int 0] j := fun j hj => match j, hj with
  | 0, _ => rfl
  | 1, _ => rfl
  | 2, _ => rfl
  | 3, _ => rfl
  | n + 4, h => absurd h (by omega)
theorem df_X10 : ∀ j, j < 1 → defaultValue (tyX10 j) = vp_V [.null] j := fun j hj => match j, hj with
  | 0, _ => rfl
  | n + 1, h => absurd h (by omega)
theorem wk_96 : Cond.methodLink RX5 3 Lib.objectInit ∈ TB := TB_mem 96 (by decide +kernel) (by decide +kernel)
theorem c_X5_init_X2 {G : GT} (a : Nat) (x0 : Int32) (x1 : Int32) : Ct G yX5_init cX5_init 3 none 1 59 1 [.ref a, .int x0, .int x1] [(a, .inr (2, [.null, .int 0, .int 0, .int 0, .int 0, .int 0, .null, .null, .null, .null, .null, .null]))] (fun v w => v = none ∧ ∃ q1 : Nat, w = [(a, .inr (2, [.ref q1, .int x0, .int x1, .int (nI 0), .int (nI 0), .int (-1), .null, .null, .null, .null, .null, .null])), (q1, .inl (gI G, 59, .inl (fun _ => 0)))]) := by
  refine Ct.of rfl (Nat.le_of_ble_eq_true rfl) ?_
  show J G "<init>" RX5 cX5_init 3 none 1 59 1 _ 0 0 0 [(0, .ref a), (1, .int x0), (2, .int x1)] [] [(a, .inr (2, [.null, .int 0, .int 0, .int 0, .int 0, .int 0, .null, .null, .null, .null, .null, .null]))]
  refine J_aload_n dX5_init_0 rfl rfl ?_
  refine J_oinit wk_96 (by decide) (Nat.le_of_ble_eq_true rfl) dX5_init_1 ?_
  refine J_aload_n dX5_init_4 rfl rfl ?_
  refine J_bipush (v := (nI 59)) dX5_init_5 (by decide) ?_
  refine J_newaI (N := 59) w_arrI (by decide) (by decide) (by decide) (by decide) (by decide) dX5_init_7 (fun q1 => ?_)
  show J G "<init>" RX5 cX5_init 3 none 1 59 1 _ 1 59 9 [(0, .ref a), (1, .int x0), (2, .int x1)] [.ref q1, .ref a] [(a, .inr (2, [.null, .int 0, .int 0, .int 0, .int 0, .int 0, .null, .null, .null, .null, .null, .null])), (q1, .inl (gI G, 59, .inl (fun _ => 0)))]
  refine J_putF fr_X5_9_2 (fun q h => by rw [← Option.some.inj (show some (RX2, TX2, 12) = some q from h)]; rfl) rfl 0 [(a, .inr (2, [.ref q1, .int 0, .int 0, .int 0, .int 0, .int 0, .null, .null, .null, .null, .null, .null])), (q1, .inl (gI G, 59, .inl (fun _ => 0)))] rfl rfl rfl (by show 0 < 12; decide) rfl dX5_init_9 ?_
  refine J_aload_n dX5_init_12 rfl rfl ?_
  refine J_iconst (v := (nI 0)) dX5_init_13 (by decide) ?_
  refine J_put fr_X5_15_2 0 [(a, .inr (2, [.ref q1, .int 0, .int 0, .int (nI 0), .int 0, .int 0, .null, .null, .null, .null, .null, .null])), (q1, .inl (gI G, 59, .inl (fun _ => 0)))] rfl rfl rfl (by show 3 < 12; decide) rfl dX5_init_14 ?_
  refine J_aload_n dX5_init_17 rfl rfl ?_
  refine J_iconst (v := (nI 0)) dX5_init_18 (by decide) ?_
  refine J_put fr_X5_19_2 0 [(a, .inr (2, [.ref q1, .int 0, .int 0, .int (nI 0), .int (nI 0), .int 0, .null, .null, .null, .null, .null, .null])), (q1, .inl (gI G, 59, .inl (fun _ => 0)))] rfl rfl rfl (by show 4 < 12; decide) rfl dX5_init_19 ?_
  refine J_aload_n dX5_init_22 rfl rfl ?_
  refine J_iconst (v := (-1)) dX5_init_23 (by decide) ?_
  refine J_put fr_X5_22_2 0 [(a, .inr (2, [.ref q1, .int 0, .int 0, .int (nI 0), .int (nI 0), .int (-1), .null, .null, .null, .null, .null, .null])), (q1, .inl (gI G, 59, .inl (fun _ => 0)))] rfl rfl rfl (by show 5 < 12; decide) rfl dX5_init_24 ?_
  refine J_aload_n dX5_init_27 rfl rfl ?_
  refine J_iload_n dX5_init_28 rfl rfl ?_
  refine J_putF fr_X5_25_2 (fun q h => by rw [← Option.some.inj (show some (RX2, TX2, 12) = some q from h)]; rfl) rfl 0 [(a, .inr (2, [.ref q1, .int x0, .int 0, .int (nI 0), .int (nI 0), .int (-1), .null, .null, .null, .null, .null, .null])), (q1, .inl (gI G, 59, .inl (fun _ => 0)))] rfl rfl rfl (by show 1 < 12; decide) rfl dX5_init_29 ?_
  refine J_aload_n dX5_init_32 rfl rfl ?_
  refine J_iload_n dX5_init_33 rfl rfl ?_
  refine J_putF fr_X5_28_2 (fun q h => by rw [← Option.some.inj (show some (RX2, TX2, 12) = some q from h)]; rfl) rfl 0 [(a, .inr (2, [.ref q1, .int x0, .int x1, .int (nI 0), .int (nI 0), .int (-1), .null, .null, .null, .null, .null, .null])), (q1, .inl (gI G, 59, .inl (fun _ => 0)))] rfl rfl rfl (by show 2 < 12; decide) rfl dX5_init_34 ?_
  exact J_vret dX5_init_37 rfl rfl rfl ⟨rfl, q1, rfl⟩
theorem c_X5_init_X3 {G : GT} (a : Nat) (x0 : Int32) (x1 : Int32) : Ct G yX5_init cX5_init 3 none 1 59 1 [.ref a, .int x0, .int x1] [(a, .inr (3, [.null, .int 0, .int 0, .int 0, .int 0, .int 0, .null, .null, .null, .null]))] (fun v w => v = none ∧ ∃ q1 : Nat, w = [(a, .inr (3, [.ref q1, .int x0, .int x1, .int (nI 0), .int (nI 0), .int (-1), .null, .null, .null, .null])), (q1, .inl (gI G, 59, .inl (fun _ => 0)))]) := by
  refine Ct.of rfl (Nat.le_of_ble_eq_true rfl) ?_
  show J G "<init>" RX5 cX5_init 3 none 1 59 1 _ 0 0 0 [(0, .ref a), (1, .int x0), (2, .int x1)] [] [(a, .inr (3, [.null, .int 0, .int 0, .int 0, .int 0, .int 0, .null, .null, .null, .null]))]
  refine J_aload_n dX5_init_0 rfl rfl ?_
  refine J_oinit wk_96 (by decide) (Nat.le_of_ble_eq_true rfl) dX5_init_1 ?_
  refine J_aload_n dX5_init_4 rfl rfl ?_
  refine J_bipush (v := (nI 59)) dX5_init_5 (by decide) ?_
  refine J_newaI (N := 59) w_arrI (by decide) (by decide) (by decide) (by decide) (by decide) dX5_init_7 (fun q1 => ?_)
  show J G "<init>" RX5 cX5_init 3 none 1 59 1 _ 1 59 9 [(0, .ref a), (1, .int x0), (2, .int x1)] [.ref q1, .ref a] [(a, .inr (3, [.null, .int 0, .int 0, .int 0, .int 0, .int 0, .null, .null, .null, .null])), (q1, .inl (gI G, 59, .inl (fun _ => 0)))]
  refine J_putF fr_X5_9_3 (fun q h => by rw [← Option.some.inj (show some (RX3, TX3, 10) = some q from h)]; rfl) rfl 0 [(a, .inr (3, [.ref q1, .int 0, .int 0, .int 0, .int 0, .int 0, .null, .null, .null, .null])), (q1, .inl (gI G, 59, .inl (fun _ => 0)))] rfl rfl rfl (by show 0 < 10; decide) rfl dX5_init_9 ?_
  refine J_aload_n dX5_init_12 rfl rfl ?_
  refine J_iconst (v := (nI 0)) dX5_init_13 (by decide) ?_
  refine J_put fr_X5_15_3 0 [(a, .inr (3, [.ref q1, .int 0, .int 0, .int (nI 0), .int 0, .int 0, .null, .null, .null, .null])), (q1, .inl (gI G, 59, .inl (fun _ => 0)))] rfl rfl rfl (by show 3 < 10; decide) rfl dX5_init_14 ?_
  refine J_aload_n dX5_init_17 rfl rfl ?_
  refine J_iconst (v := (nI 0)) dX5_init_18 (by decide) ?_
  refine J_put fr_X5_19_3 0 [(a, .inr (3, [.ref q1, .int 0, .int 0, .int (nI 0), .int (nI 0), .int 0, .null, .null, .null, .null])), (q1, .inl (gI G, 59, .inl (fun _ => 0)))] rfl rfl rfl (by show 4 < 10; decide) rfl dX5_init_19 ?_
  refine J_aload_n dX5_init_22 rfl rfl ?_
  refine J_iconst (v := (-1)) dX5_init_23 (by decide) ?_
  refine J_put fr_X5_22_3 0 [(a, .inr (3, [.ref q1, .int 0, .int 0, .int (nI 0), .int (nI 0), .int (-1), .null, .null, .null, .null])), (q1, .inl (gI G, 59, .inl (fun _ => 0)))] rfl rfl rfl (by show 5 < 10; decide) rfl dX5_init_24 ?_
  refine J_aload_n dX5_init_27 rfl rfl ?_
  refine J_iload_n dX5_init_28 rfl rfl ?_
  refine J_putF fr_X5_25_3 (fun q h => by rw [← Option.some.inj (show some (RX3, TX3, 10) = some q from h)]; rfl) rfl 0 [(a, .inr (3, [.ref q1, .int x0, .int 0, .int (nI 0), .int (nI 0), .int (-1), .null, .null, .null, .null])), (q1, .inl (gI G, 59, .inl (fun _ => 0)))] rfl rfl rfl (by show 1 < 10; decide) rfl dX5_init_29 ?_
  refine J_aload_n dX5_init_32 rfl rfl ?_
  refine J_iload_n dX5_init_33 rfl rfl ?_
  refine J_putF fr_X5_28_3 (fun q h => by rw [← Option.some.inj (show some (RX3, TX3, 10) = some q from h)]; rfl) rfl 0 [(a, .inr (3, [.ref q1, .int x0, .int x1, .int (nI 0), .int (nI 0), .int (-1), .null, .null, .null, .null])), (q1, .inl (gI G, 59, .inl (fun _ => 0)))] rfl rfl rfl (by show 2 < 10; decide) rfl dX5_init_34 ?_
  exact J_vret dX5_init_37 rfl rfl rfl ⟨rfl, q1, rfl⟩
theorem c_X5_init_X0 {G : GT} (a : Nat) (x0 : Int32) (x1 : Int32) : Ct G yX5_init cX5_init 3 none 1 59 1 [.ref a, .int x0, .int x1] [(a, .inr (0, [.null, .int 0, .int 0, .int 0, .int 0, .int 0, .null, .null, .null, .null]))] (fun v w => v = none ∧ ∃ q1 : Nat, w = [(a, .inr (0, [.ref q1, .int x0, .int x1, .int (nI 0), .int (nI 0), .int (-1), .null, .null, .null, .null])), (q1, .inl (gI G, 59, .inl (fun _ => 0)))]) := by
  refine Ct.of rfl (Nat.le_of_ble_eq_true rfl) ?_
  show J G "<init>" RX5 cX5_init 3 none 1 59 1 _ 0 0 0 [(0, .ref a), (1, .int x0), (2, .int x1)] [] [(a, .inr (0, [.null, .int 0, .int 0, .int 0, .int 0, .int 0, .null, .null, .null, .null]))]
  refine J_aload_n dX5_init_0 rfl rfl ?_
  refine J_oinit wk_96 (by decide) (Nat.le_of_ble_eq_true rfl) dX5_init_1 ?_
  refine J_aload_n dX5_init_4 rfl rfl ?_
  refine J_bipush (v := (nI 59)) dX5_init_5 (by decide) ?_
  refine J_newaI (N := 59) w_arrI (by decide) (by decide) (by decide) (by decide) (by decide) dX5_init_7 (fun q1 => ?_)
  show J G "<init>" RX5 cX5_init 3 none 1 59 1 _ 1 59 9 [(0, .ref a), (1, .int x0), (2, .int x1)] [.ref q1, .ref a] [(a, .inr (0, [.null, .int 0, .int 0, .int 0, .int 0, .int 0, .null, .null, .null, .null])), (q1, .inl (gI G, 59, .inl (fun _ => 0)))]
  refine J_putF fr_X5_9_0 (fun q h => by rw [← Option.some.inj (show some (RX0, TX0, 10) = some q from h)]; rfl) rfl 0 [(a, .inr (0, [.ref q1, .int 0, .int 0, .int 0, .int 0, .int 0, .null, .null, .null, .null])), (q1, .inl (gI G, 59, .inl (fun _ => 0)))] rfl rfl rfl (by show 0 < 10; decide) rfl dX5_init_9 ?_
  refine J_aload_n dX5_init_12 rfl rfl ?_
  refine J_iconst (v := (nI 0)) dX5_init_13 (by decide) ?_
  refine J_put fr_X5_15_0 0 [(a, .inr (0, [.ref q1, .int 0, .int 0, .int (nI 0), .int 0, .int 0, .null, .null, .null, .null])), (q1, .inl (gI G, 59, .inl (fun _ => 0)))] rfl rfl rfl (by show 3 < 10; decide) rfl dX5_init_14 ?_
  refine J_aload_n dX5_init_17 rfl rfl ?_
  refine J_iconst (v := (nI 0)) dX5_init_18 (by decide) ?_
  refine J_put fr_X5_19_0 0 [(a, .inr (0, [.ref q1, .int 0, .int 0, .int (nI 0), .int (nI 0), .int 0, .null, .null, .null, .null])), (q1, .inl (gI G, 59, .inl (fun _ => 0)))] rfl rfl rfl (by show 4 < 10; decide) rfl dX5_init_19 ?_
  refine J_aload_n dX5_init_22 rfl rfl ?_
  refine J_iconst (v := (-1)) dX5_init_23 (by decide) ?_
  refine J_put fr_X5_22_0 0 [(a, .inr (0, [.ref q1, .int 0, .int 0, .int (nI 0), .int (nI 0), .int (-1), .null, .null, .null, .null])), (q1, .inl (gI G, 59, .inl (fun _ => 0)))] rfl rfl rfl (by show 5 < 10; decide) rfl dX5_init_24 ?_
  refine J_aload_n dX5_init_27 rfl rfl ?_
  refine J_iload_n dX5_init_28 rfl rfl ?_
  refine J_putF fr_X5_25_0 (fun q h => by rw [← Option.some.inj (show some (RX0, TX0, 10) = some q from h)]; rfl) rfl 0 [(a, .inr (0, [.ref q1, .int x0, .int 0, .int (nI 0), .int (nI 0), .int (-1), .null, .null, .null, .null])), (q1, .inl (gI G, 59, .inl (fun _ => 0)))] rfl rfl rfl (by show 1 < 10; decide) rfl dX5_init_29 ?_
  refine J_aload_n dX5_init_32 rfl rfl ?_
  refine J_iload_n dX5_init_33 rfl rfl ?_
  refine J_putF fr_X5_28_0 (fun q h => by rw [← Option.some.inj (show some (RX0, TX0, 10) = some q from h)]; rfl) rfl 0 [(a, .inr (0, [.ref q1, .int x0, .int x1, .int (nI 0), .int (nI 0), .int (-1), .null, .null, .null, .null])), (q1, .inl (gI G, 59, .inl (fun _ => 0)))] rfl rfl rfl (by show 2 < 10; decide) rfl dX5_init_34 ?_
  exact J_vret dX5_init_37 rfl rfl rfl ⟨rfl, q1, rfl⟩
theorem c_X2_init {G : GT} (a : Nat) : Ct G yX2_init cX2_init 1 none 7 107 2 [.ref a] [(a, .inr (2, [.null, .int 0, .int 0, .int 0, .int 0, .int 0, .null, .null, .null, .null, .null, .null]))] (fun v w => v = none ∧ ∃ q1 : Nat, ∃ q2 : Nat, ∃ q3 : Nat, ∃ q4 : Nat, ∃ q5 : Nat, ∃ q6 : Nat, ∃ q7 : Nat, w = [(a, .inr (2, [.ref q1, .int (nI 47), .int (nI 8), .int (nI 0), .int (nI 0), .int (-1), .ref q2, .ref q3, .ref q4, .ref q5, .ref q6, .ref q7])), (q1, .inl (gI G, 59, .inl (fun _ => 0))), (q2, .inl (gI G, 8, .inl (fun _ => 0))), (q3, .inl (gI G, 8, .inl (fun _ => 0))), (q4, .inl (gI G, 8, .inl (fun _ => 0))), (q5, .inl (gI G, 8, .inl (fun _ => 0))), (q6, .inl (gI G, 8, .inl (fun _ => 0))), (q7, .inl (gI G, 8, .inl (fun _ => 0)))]) := by
  refine Ct.of rfl (Nat.le_of_ble_eq_true rfl) ?_
  show J G "<init>" RX2 cX2_init 1 none 7 107 2 _ 0 0 0 [(0, .ref a)] [] [(a, .inr (2, [.null, .int 0, .int 0, .int 0, .int 0, .int 0, .null, .null, .null, .null, .null, .null]))]
  refine J_aload_n dX2_init_0 rfl rfl ?_
  refine J_bipush (v := (nI 47)) dX2_init_1 (by decide) ?_
  refine J_bipush (v := (nI 8)) dX2_init_3 (by decide) ?_
  refine J_callI mi_X2_3 (As := [.int (nI 47), .int (nI 8)]) (st := []) (wr := []) (c_X5_init_X2 a (nI 47) (nI 8)) rfl rfl rfl (by decide) (Nat.le_of_ble_eq_true rfl) (by decide) dX2_init_5 (fun v w1 h => ?_)
  obtain ⟨rfl, q1, rfl⟩ := h
  show J G "<init>" RX2 cX2_init 1 none 7 107 2 _ 1 59 8 [(0, .ref a)] [] [(a, .inr (2, [.ref q1, .int (nI 47), .int (nI 8), .int (nI 0), .int (nI 0), .int (-1), .null, .null, .null, .null, .null, .null])), (q1, .inl (gI G, 59, .inl (fun _ => 0)))]
  refine J_aload_n dX2_init_8 rfl rfl ?_
  refine J_bipush (v := (nI 8)) dX2_init_9 (by decide) ?_
  refine J_newaI (N := 8) w_arrI (by decide) (by decide) (by decide) (by decide) (by decide) dX2_init_11 (fun q2 => ?_)
  show J G "<init>" RX2 cX2_init 1 none 7 107 2 _ 2 67 13 [(0, .ref a)] [.ref q2, .ref a] [(a, .inr (2, [.ref q1, .int (nI 47), .int (nI 8), .int (nI 0), .int (nI 0), .int (-1), .null, .null, .null, .null, .null, .null])), (q1, .inl (gI G, 59, .inl (fun _ => 0))), (q2, .inl (gI G, 8, .inl (fun _ => 0)))]
  refine J_putF fr_X2_9_2 (fun q h => by rw [← Option.some.inj (show some (RX2, TX2, 12) = some q from h)]; rfl) rfl 0 [(a, .inr (2, [.ref q1, .int (nI 47), .int (nI 8), .int (nI 0), .int (nI 0), .int (-1), .ref q2, .null, .null, .null, .null, .null])), (q1, .inl (gI G, 59, .inl (fun _ => 0))), (q2, .inl (gI G, 8, .inl (fun _ => 0)))] rfl rfl rfl (by show 6 < 12; decide) rfl dX2_init_13 ?_
  refine J_aload_n dX2_init_16 rfl rfl ?_
  refine J_bipush (v := (nI 8)) dX2_init_17 (by decide) ?_
  refine J_newaI (N := 8) w_arrI (by decide) (by decide) (by decide) (by decide) (by decide) dX2_init_19 (fun q3 => ?_)
  show J G "<init>" RX2 cX2_init 1 none 7 107 2 _ 3 75 21 [(0, .ref a)] [.ref q3, .ref a] [(a, .inr (2, [.ref q1, .int (nI 47), .int (nI 8), .int (nI 0), .int (nI 0), .int (-1), .ref q2, .null, .null, .null, .null, .null])), (q1, .inl (gI G, 59, .inl (fun _ => 0))), (q2, .inl (gI G, 8, .inl (fun _ => 0))), (q3, .inl (gI G, 8, .inl (fun _ => 0)))]
  refine J_putF fr_X2_15_2 (fun q h => by rw [← Option.some.inj (show some (RX2, TX2, 12) = some q from h)]; rfl) rfl 0 [(a, .inr (2, [.ref q1, .int (nI 47), .int (nI 8), .int (nI 0), .int (nI 0), .int (-1), .ref q2, .ref q3, .null, .null, .null, .null])), (q1, .inl (gI G, 59, .inl (fun _ => 0))), (q2, .inl (gI G, 8, .inl (fun _ => 0))), (q3, .inl (gI G, 8, .inl (fun _ => 0)))] rfl rfl rfl (by show 7 < 12; decide) rfl dX2_init_21 ?_
  refine J_aload_n dX2_init_24 rfl rfl ?_
  refine J_bipush (v := (nI 8)) dX2_init_25 (by decide) ?_
  refine J_newaI (N := 8) w_arrI (by decide) (by decide) (by decide) (by decide) (by decide) dX2_init_27 (fun q4 => ?_)
  show J G "<init>" RX2 cX2_init 1 none 7 107 2 _ 4 83 29 [(0, .ref a)] [.ref q4, .ref a] [(a, .inr (2, [.ref q1, .int (nI 47), .int (nI 8), .int (nI 0), .int (nI 0), .int (-1), .ref q2, .ref q3, .null, .null, .null, .null])), (q1, .inl (gI G, 59, .inl (fun _ => 0))), (q2, .inl (gI G, 8, .inl (fun _ => 0))), (q3, .inl (gI G, 8, .inl (fun _ => 0))), (q4, .inl (gI G, 8, .inl (fun _ => 0)))]
  refine J_putF fr_X2_18_2 (fun q h => by rw [← Option.some.inj (show some (RX2, TX2, 12) = some q from h)]; rfl) rfl 0 [(a, .inr (2, [.ref q1, .int (nI 47), .int (nI 8), .int (nI 0), .int (nI 0), .int (-1), .ref q2, .ref q3, .ref q4, .null, .null, .null])), (q1, .inl (gI G, 59, .inl (fun _ => 0))), (q2, .inl (gI G, 8, .inl (fun _ => 0))), (q3, .inl (gI G, 8, .inl (fun _ => 0))), (q4, .inl (gI G, 8, .inl (fun _ => 0)))] rfl rfl rfl (by show 8 < 12; decide) rfl dX2_init_29 ?_
  refine J_aload_n dX2_init_32 rfl rfl ?_
  refine J_bipush (v := (nI 8)) dX2_init_33 (by decide) ?_
  refine J_newaI (N := 8) w_arrI (by decide) (by decide) (by decide) (by decide) (by decide) dX2_init_35 (fun q5 => ?_)
  show J G "<init>" RX2 cX2_init 1 none 7 107 2 _ 5 91 37 [(0, .ref a)] [.ref q5, .ref a] [(a, .inr (2, [.ref q1, .int (nI 47), .int (nI 8), .int (nI 0), .int (nI 0), .int (-1), .ref q2, .ref q3, .ref q4, .null, .null, .null])), (q1, .inl (gI G, 59, .inl (fun _ => 0))), (q2, .inl (gI G, 8, .inl (fun _ => 0))), (q3, .inl (gI G, 8, .inl (fun _ => 0))), (q4, .inl (gI G, 8, .inl (fun _ => 0))), (q5, .inl (gI G, 8, .inl (fun _ => 0)))]
  refine J_putF fr_X2_21_2 (fun q h => by rw [← Option.some.inj (show some (RX2, TX2, 12) = some q from h)]; rfl) rfl 0 [(a, .inr (2, [.ref q1, .int (nI 47), .int (nI 8), .int (nI 0), .int (nI 0), .int (-1), .ref q2, .ref q3, .ref q4, .ref q5, .null, .null])), (q1, .inl (gI G, 59, .inl (fun _ => 0))), (q2, .inl (gI G, 8, .inl (fun _ => 0))), (q3, .inl (gI G, 8, .inl (fun _ => 0))), (q4, .inl (gI G, 8, .inl (fun _ => 0))), (q5, .inl (gI G, 8, .inl (fun _ => 0)))] rfl rfl rfl (by show 9 < 12; decide) rfl dX2_init_37 ?_
  refine J_aload_n dX2_init_40 rfl rfl ?_
  refine J_bipush (v := (nI 8)) dX2_init_41 (by decide) ?_
  refine J_newaI (N := 8) w_arrI (by decide) (by decide) (by decide) (by decide) (by decide) dX2_init_43 (fun q6 => ?_)
  show J G "<init>" RX2 cX2_init 1 none 7 107 2 _ 6 99 45 [(0, .ref a)] [.ref q6, .ref a] [(a, .inr (2, [.ref q1, .int (nI 47), .int (nI 8), .int (nI 0), .int (nI 0), .int (-1), .ref q2, .ref q3, .ref q4, .ref q5, .null, .null])), (q1, .inl (gI G, 59, .inl (fun _ => 0))), (q2, .inl (gI G, 8, .inl (fun _ => 0))), (q3, .inl (gI G, 8, .inl (fun _ => 0))), (q4, .inl (gI G, 8, .inl (fun _ => 0))), (q5, .inl (gI G, 8, .inl (fun _ => 0))), (q6, .inl (gI G, 8, .inl (fun _ => 0)))]
  refine J_putF fr_X2_24_2 (fun q h => by rw [← Option.some.inj (show some (RX2, TX2, 12) = some q from h)]; rfl) rfl 0 [(a, .inr (2, [.ref q1, .int (nI 47), .int (nI 8), .int (nI 0), .int (nI 0), .int (-1), .ref q2, .ref q3, .ref q4, .ref q5, .ref q6, .null])), (q1, .inl (gI G, 59, .inl (fun _ => 0))), (q2, .inl (gI G, 8, .inl (fun _ => 0))), (q3, .inl (gI G, 8, .inl (fun _ => 0))), (q4, .inl (gI G, 8, .inl (fun _ => 0))), (q5, .inl (gI G, 8, .inl (fun _ => 0))), (q6, .inl (gI G, 8, .inl (fun _ => 0)))] rfl rfl rfl (by show 10 < 12; decide) rfl dX2_init_45 ?_
  refine J_aload_n dX2_init_48 rfl rfl ?_
  refine J_bipush (v := (nI 8)) dX2_init_49 (by decide) ?_
  refine J_newaI (N := 8) w_arrI (by decide) (by decide) (by decide) (by decide) (by decide) dX2_init_51 (fun q7 => ?_)
  show J G "<init>" RX2 cX2_init 1 none 7 107 2 _ 7 107 53 [(0, .ref a)] [.ref q7, .ref a] [(a, .inr (2, [.ref q1, .int (nI 47), .int (nI 8), .int (nI 0), .int (nI 0), .int (-1), .ref q2, .ref q3, .ref q4, .ref q5, .ref q6, .null])), (q1, .inl (gI G, 59, .inl (fun _ => 0))), (q2, .inl (gI G, 8, .inl (fun _ => 0))), (q3, .inl (gI G, 8, .inl (fun _ => 0))), (q4, .inl (gI G, 8, .inl (fun _ => 0))), (q5, .inl (gI G, 8, .inl (fun _ => 0))), (q6, .inl (gI G, 8, .inl (fun _ => 0))), (q7, .inl (gI G, 8, .inl (fun _ => 0)))]
  refine J_putF fr_X2_27_2 (fun q h => by rw [← Option.some.inj (show some (RX2, TX2, 12) = some q from h)]; rfl) rfl 0 [(a, .inr (2, [.ref q1, .int (nI 47), .int (nI 8), .int (nI 0), .int (nI 0), .int (-1), .ref q2, .ref q3, .ref q4, .ref q5, .ref q6, .ref q7])), (q1, .inl (gI G, 59, .inl (fun _ => 0))), (q2, .inl (gI G, 8, .inl (fun _ => 0))), (q3, .inl (gI G, 8, .inl (fun _ => 0))), (q4, .inl (gI G, 8, .inl (fun _ => 0))), (q5, .inl (gI G, 8, .inl (fun _ => 0))), (q6, .inl (gI G, 8, .inl (fun _ => 0))), (q7, .inl (gI G, 8, .inl (fun _ => 0)))] rfl rfl rfl (by show 11 < 12; decide) rfl dX2_init_53 ?_
  exact J_vret dX2_init_56 rfl rfl rfl ⟨rfl, q1, q2, q3, q4, q5, q6, q7, rfl⟩
theorem c_X3_init {G : GT} (a : Nat) : Ct G yX3_init cX3_init 1 none 5 83 2 [.ref a] [(a, .inr (3, [.null, .int 0, .int 0, .int 0, .int 0, .int 0, .null, .null, .null, .null]))] (fun v w => v = none ∧ ∃ q1 : Nat, ∃ q2 : Nat, ∃ q3 : Nat, ∃ q4 : Nat, ∃ q5 : Nat, w = [(a, .inr (3, [.ref q1, .int (nI 23), .int (nI 6), .int (nI 0), .int (nI 0), .int (-1), .ref q2, .ref q3, .ref q4, .ref q5])), (q1, .inl (gI G, 59, .inl (fun _ => 0))), (q2, .inl (gI G, 6, .inl (fun _ => 0))), (q3, .inl (gI G, 6, .inl (fun _ => 0))), (q4, .inl (gI G, 6, .inl (fun _ => 0))), (q5, .inl (gI G, 6, .inl (fun _ => 0)))]) := by
  refine Ct.of rfl (Nat.le_of_ble_eq_true rfl) ?_
  show J G "<init>" RX3 cX3_init 1 none 5 83 2 _ 0 0 0 [(0, .ref a)] [] [(a, .inr (3, [.null, .int 0, .int 0, .int 0, .int 0, .int 0, .null, .null, .null, .null]))]
  refine J_aload_n dX3_init_0 rfl rfl ?_
  refine J_bipush (v := (nI 23)) dX3_init_1 (by decide) ?_
  refine J_bipush (v := (nI 6)) dX3_init_3 (by decide) ?_
  refine J_callI mi_X3_3 (As := [.int (nI 23), .int (nI 6)]) (st := []) (wr := []) (c_X5_init_X3 a (nI 23) (nI 6)) rfl rfl rfl (by decide) (Nat.le_of_ble_eq_true rfl) (by decide) dX3_init_5 (fun v w1 h => ?_)
  obtain ⟨rfl, q1, rfl⟩ := h
  show J G "<init>" RX3 cX3_init 1 none 5 83 2 _ 1 59 8 [(0, .ref a)] [] [(a, .inr (3, [.ref q1, .int (nI 23), .int (nI 6), .int (nI 0), .int (nI 0), .int (-1), .null, .null, .null, .null])), (q1, .inl (gI G, 59, .inl (fun _ => 0)))]
  refine J_aload_n dX3_init_8 rfl rfl ?_
  refine J_bipush (v := (nI 6)) dX3_init_9 (by decide) ?_
  refine J_newaI (N := 6) w_arrI (by decide) (by decide) (by decide) (by decide) (by decide) dX3_init_11 (fun q2 => ?_)
  show J G "<init>" RX3 cX3_init 1 none 5 83 2 _ 2 65 13 [(0, .ref a)] [.ref q2, .ref a] [(a, .inr (3, [.ref q1, .int (nI 23), .int (nI 6), .int (nI 0), .int (nI 0), .int (-1), .null, .null, .null, .null])), (q1, .inl (gI G, 59, .inl (fun _ => 0))), (q2, .inl (gI G, 6, .inl (fun _ => 0)))]
  refine J_putF fr_X3_9_3 (fun q h => by rw [← Option.some.inj (show some (RX3, TX3, 10) = some q from h)]; rfl) rfl 0 [(a, .inr (3, [.ref q1, .int (nI 23), .int (nI 6), .int (nI 0), .int (nI 0), .int (-1), .ref q2, .null, .null, .null])), (q1, .inl (gI G, 59, .inl (fun _ => 0))), (q2, .inl (gI G, 6, .inl (fun _ => 0)))] rfl rfl rfl (by show 6 < 10; decide) rfl dX3_init_13 ?_
  refine J_aload_n dX3_init_16 rfl rfl ?_
  refine J_bipush (v := (nI 6)) dX3_init_17 (by decide) ?_
  refine J_newaI (N := 6) w_arrI (by decide) (by decide) (by decide) (by decide) (by decide) dX3_init_19 (fun q3 => ?_)
  show J G "<init>" RX3 cX3_init 1 none 5 83 2 _ 3 71 21 [(0, .ref a)] [.ref q3, .ref a] [(a, .inr (3, [.ref q1, .int (nI 23), .int (nI 6), .int (nI 0), .int (nI 0), .int (-1), .ref q2, .null, .null, .null])), (q1, .inl (gI G, 59, .inl (fun _ => 0))), (q2, .inl (gI G, 6, .inl (fun _ => 0))), (q3, .inl (gI G, 6, .inl (fun _ => 0)))]
  refine J_putF fr_X3_15_3 (fun q h => by rw [← Option.some.inj (show some (RX3, TX3, 10) = some q from h)]; rfl) rfl 0 [(a, .inr (3, [.ref q1, .int (nI 23), .int (nI 6), .int (nI 0), .int (nI 0), .int (-1), .ref q2, .ref q3, .null, .null])), (q1, .inl (gI G, 59, .inl (fun _ => 0))), (q2, .inl (gI G, 6, .inl (fun _ => 0))), (q3, .inl (gI G, 6, .inl (fun _ => 0)))] rfl rfl rfl (by show 7 < 10; decide) rfl dX3_init_21 ?_
  refine J_aload_n dX3_init_24 rfl rfl ?_
  refine J_bipush (v := (nI 6)) dX3_init_25 (by decide) ?_
  refine J_newaI (N := 6) w_arrI (by decide) (by decide) (by decide) (by decide) (by decide) dX3_init_27 (fun q4 => ?_)
  show J G "<init>" RX3 cX3_init 1 none 5 83 2 _ 4 77 29 [(0, .ref a)] [.ref q4, .ref a] [(a, .inr (3, [.ref q1, .int (nI 23), .int (nI 6), .int (nI 0), .int (nI 0), .int (-1), .ref q2, .ref q3, .null, .null])), (q1, .inl (gI G, 59, .inl (fun _ => 0))), (q2, .inl (gI G, 6, .inl (fun _ => 0))), (q3, .inl (gI G, 6, .inl (fun _ => 0))), (q4, .inl (gI G, 6, .inl (fun _ => 0)))]
  refine J_putF fr_X3_18_3 (fun q h => by rw [← Option.some.inj (show some (RX3, TX3, 10) = some q from h)]; rfl) rfl 0 [(a, .inr (3, [.ref q1, .int (nI 23), .int (nI 6), .int (nI 0), .int (nI 0), .int (-1), .ref q2, .ref q3, .ref q4, .null])), (q1, .inl (gI G, 59, .inl (fun _ => 0))), (q2, .inl (gI G, 6, .inl (fun _ => 0))), (q3, .inl (gI G, 6, .inl (fun _ => 0))), (q4, .inl (gI G, 6, .inl (fun _ => 0)))] rfl rfl rfl (by show 8 < 10; decide) rfl dX3_init_29 ?_
  refine J_aload_n dX3_init_32 rfl rfl ?_
  refine J_bipush (v := (nI 6)) dX3_init_33 (by decide) ?_
  refine J_newaI (N := 6) w_arrI (by decide) (by decide) (by decide) (by decide) (by decide) dX3_init_35 (fun q5 => ?_)
  show J G "<init>" RX3 cX3_init 1 none 5 83 2 _ 5 83 37 [(0, .ref a)] [.ref q5, .ref a] [(a, .inr (3, [.ref q1, .int (nI 23), .int (nI 6), .int (nI 0), .int (nI 0), .int (-1), .ref q2, .ref q3, .ref q4, .null])), (q1, .inl (gI G, 59, .inl (fun _ => 0))), (q2, .inl (gI G, 6, .inl (fun _ => 0))), (q3, .inl (gI G, 6, .inl (fun _ => 0))), (q4, .inl (gI G, 6, .inl (fun _ => 0))), (q5, .inl (gI G, 6, .inl (fun _ => 0)))]
  refine J_putF fr_X3_21_3 (fun q h => by rw [← Option.some.inj (show some (RX3, TX3, 10) = some q from h)]; rfl) rfl 0 [(a, .inr (3, [.ref q1, .int (nI 23), .int (nI 6), .int (nI 0), .int (nI 0), .int (-1), .ref q2, .ref q3, .ref q4, .ref q5])), (q1, .inl (gI G, 59, .inl (fun _ => 0))), (q2, .inl (gI G, 6, .inl (fun _ => 0))), (q3, .inl (gI G, 6, .inl (fun _ => 0))), (q4, .inl (gI G, 6, .inl (fun _ => 0))), (q5, .inl (gI G, 6, .inl (fun _ => 0)))] rfl rfl rfl (by show 9 < 10; decide) rfl dX3_init_37 ?_
  exact J_vret dX3_init_40 rfl rfl rfl ⟨rfl, q1, q2, q3, q4, q5, rfl⟩
theorem c_X0_init {G : GT} (a : Nat) : Ct G yX0_init cX0_init 1 none 5 119 2 [.ref a] [(a, .inr (0, [.null, .int 0, .int 0, .int 0, .int 0, .int 0, .null, .null, .null, .null]))] (fun v w => v = none ∧ ∃ q1 : Nat, ∃ q2 : Nat, ∃ q3 : Nat, ∃ q4 : Nat, ∃ q5 : Nat, w = [(a, .inr (0, [.ref q1, .int (nI 59), .int (nI 15), .int (nI 0), .int (nI 0), .int (-1), .ref q2, .ref q3, .ref q4, .ref q5])), (q1, .inl (gI G, 59, .inl (fun _ => 0))), (q2, .inl (gI G, 15, .inl (fun _ => 0))), (q3, .inl (gI G, 15, .inl (fun _ => 0))), (q4, .inl (gI G, 15, .inl (fun _ => 0))), (q5, .inl (gI G, 15, .inl (fun _ => 0)))]) := by
  refine Ct.of rfl (Nat.le_of_ble_eq_true rfl) ?_
  show J G "<init>" RX0 cX0_init 1 none 5 119 2 _ 0 0 0 [(0, .ref a)] [] [(a, .inr (0, [.null, .int 0, .int 0, .int 0, .int 0, .int 0, .null, .null, .null, .null]))]
  refine J_aload_n dX0_init_0 rfl rfl ?_
  refine J_bipush (v := (nI 59)) dX0_init_1 (by decide) ?_
  refine J_bipush (v := (nI 15)) dX0_init_3 (by decide) ?_
  refine J_callI mi_X0_3 (As := [.int (nI 59), .int (nI 15)]) (st := []) (wr := []) (c_X5_init_X0 a (nI 59) (nI 15)) rfl rfl rfl (by decide) (Nat.le_of_ble_eq_true rfl) (by decide) dX0_init_5 (fun v w1 h => ?_)
  obtain ⟨rfl, q1, rfl⟩ := h
  show J G "<init>" RX0 cX0_init 1 none 5 119 2 _ 1 59 8 [(0, .ref a)] [] [(a, .inr (0, [.ref q1, .int (nI 59), .int (nI 15), .int (nI 0), .int (nI 0), .int (-1), .null, .null, .null, .null])), (q1, .inl (gI G, 59, .inl (fun _ => 0)))]
  refine J_aload_n dX0_init_8 rfl rfl ?_
  refine J_bipush (v := (nI 15)) dX0_init_9 (by decide) ?_
  refine J_newaI (N := 15) w_arrI (by decide) (by decide) (by decide) (by decide) (by decide) dX0_init_11 (fun q2 => ?_)
  show J G "<init>" RX0 cX0_init 1 none 5 119 2 _ 2 74 13 [(0, .ref a)] [.ref q2, .ref a] [(a, .inr (0, [.ref q1, .int (nI 59), .int (nI 15), .int (nI 0), .int (nI 0), .int (-1), .null, .null, .null, .null])), (q1, .inl (gI G, 59, .inl (fun _ => 0))), (q2, .inl (gI G, 15, .inl (fun _ => 0)))]
  refine J_putF fr_X0_9_0 (fun q h => by rw [← Option.some.inj (show some (RX0, TX0, 10) = some q from h)]; rfl) rfl 0 [(a, .inr (0, [.ref q1, .int (nI 59), .int (nI 15), .int (nI 0), .int (nI 0), .int (-1), .ref q2, .null, .null, .null])), (q1, .inl (gI G, 59, .inl (fun _ => 0))), (q2, .inl (gI G, 15, .inl (fun _ => 0)))] rfl rfl rfl (by show 6 < 10; decide) rfl dX0_init_13 ?_
  refine J_aload_n dX0_init_16 rfl rfl ?_
  refine J_bipush (v := (nI 15)) dX0_init_17 (by decide) ?_
  refine J_newaI (N := 15) w_arrI (by decide) (by decide) (by decide) (by decide) (by decide) dX0_init_19 (fun q3 => ?_)
  show J G "<init>" RX0 cX0_init 1 none 5 119 2 _ 3 89 21 [(0, .ref a)] [.ref q3, .ref a] [(a, .inr (0, [.ref q1, .int (nI 59), .int (nI 15), .int (nI 0), .int (nI 0), .int (-1), .ref q2, .null, .null, .null])), (q1, .inl (gI G, 59, .inl (fun _ => 0))), (q2, .inl (gI G, 15, .inl (fun _ => 0))), (q3, .inl (gI G, 15, .inl (fun _ => 0)))]
  refine J_putF fr_X0_15_0 (fun q h => by rw [← Option.some.inj (show some (RX0, TX0, 10) = some q from h)]; rfl) rfl 0 [(a, .inr (0, [.ref q1, .int (nI 59), .int (nI 15), .int (nI 0), .int (nI 0), .int (-1), .ref q2, .ref q3, .null, .null])), (q1, .inl (gI G, 59, .inl (fun _ => 0))), (q2, .inl (gI G, 15, .inl (fun _ => 0))), (q3, .inl (gI G, 15, .inl (fun _ => 0)))] rfl rfl rfl (by show 7 < 10; decide) rfl dX0_init_21 ?_
  refine J_aload_n dX0_init_24 rfl rfl ?_
  refine J_bipush (v := (nI 15)) dX0_init_25 (by decide) ?_
  refine J_newaI (N := 15) w_arrI (by decide) (by decide) (by decide) (by decide) (by decide) dX0_init_27 (fun q4 => ?_)
  show J G "<init>" RX0 cX0_init 1 none 5 119 2 _ 4 104 29 [(0, .ref a)] [.ref q4, .ref a] [(a, .inr (0, [.ref q1, .int (nI 59), .int (nI 15), .int (nI 0), .int (nI 0), .int (-1), .ref q2, .ref q3, .null, .null])), (q1, .inl (gI G, 59, .inl (fun _ => 0))), (q2, .inl (gI G, 15, .inl (fun _ => 0))), (q3, .inl (gI G, 15, .inl (fun _ => 0))), (q4, .inl (gI G, 15, .inl (fun _ => 0)))]
  refine J_putF fr_X0_18_0 (fun q h => by rw [← Option.some.inj (show some (RX0, TX0, 10) = some q from h)]; rfl) rfl 0 [(a, .inr (0, [.ref q1, .int (nI 59), .int (nI 15), .int (nI 0), .int (nI 0), .int (-1), .ref q2, .ref q3, .ref q4, .null])), (q1, .inl (gI G, 59, .inl (fun _ => 0))), (q2, .inl (gI G, 15, .inl (fun _ => 0))), (q3, .inl (gI G, 15, .inl (fun _ => 0))), (q4, .inl (gI G, 15, .inl (fun _ => 0)))] rfl rfl rfl (by show 8 < 10; decide) rfl dX0_init_29 ?_
  refine J_aload_n dX0_init_32 rfl rfl ?_
  refine J_bipush (v := (nI 15)) dX0_init_33 (by decide) ?_
  refine J_newaI (N := 15) w_arrI (by decide) (by decide) (by decide) (by decide) (by decide) dX0_init_35 (fun q5 => ?_)
  show J G "<init>" RX0 cX0_init 1 none 5 119 2 _ 5 119 37 [(0, .ref a)] [.ref q5, .ref a] [(a, .inr (0, [.ref q1, .int (nI 59), .int (nI 15), .int (nI 0), .int (nI 0), .int (-1), .ref q2, .ref q3, .ref q4, .null])), (q1, .inl (gI G, 59, .inl (fun _ => 0))), (q2, .inl (gI G, 15, .inl (fun _ => 0))), (q3, .inl (gI G, 15, .inl (fun _ => 0))), (q4, .inl (gI G, 15, .inl (fun _ => 0))), (q5, .inl (gI G, 15, .inl (fun _ => 0)))]
  refine J_putF fr_X0_21_0 (fun q h => by rw [← Option.some.inj (show some (RX0, TX0, 10) = some q from h)]; rfl) rfl 0 [(a, .inr (0, [.ref q1, .int (nI 59), .int (nI 15), .int (nI 0), .int (nI 0), .int (-1), .ref q2, .ref q3, .ref q4, .ref q5])), (q1, .inl (gI G, 59, .inl (fun _ => 0))), (q2, .inl (gI G, 15, .inl (fun _ => 0))), (q3, .inl (gI G, 15, .inl (fun _ => 0))), (q4, .inl (gI G, 15, .inl (fun _ => 0))), (q5, .inl (gI G, 15, .inl (fun _ => 0)))] rfl rfl rfl (by show 9 < 10; decide) rfl dX0_init_37 ?_
  exact J_vret dX0_init_40 rfl rfl rfl ⟨rfl, q1, q2, q3, q4, q5, rfl⟩
theorem wk_248 : Cond.methodLink RX7 3 Lib.objectInit ∈ TB := TB_mem 248 (by decide +kernel) (by decide +kernel)
theorem c_X7_init {G : GT} (a : Nat) : Ct G yX7_init cX7_init 1 none 2 24 1 [.ref a] [(a, .inr (6, [.null, .null, .int 0]))] (fun v w => v = none ∧ ∃ q1 : Nat, ∃ q2 : Nat, w = [(a, .inr (6, [.ref q1, .ref q2, .int (nI 0)])), (q1, .inl (gI G, 12, .inl (fun _ => 0))), (q2, .inl (gI G, 12, .inl (fun _ => 0)))]) := by
  refine Ct.of rfl (Nat.le_of_ble_eq_true rfl) ?_
  show J G "<init>" RX7 cX7_init 1 none 2 24 1 _ 0 0 0 [(0, .ref a)] [] [(a, .inr (6, [.null, .null, .int 0]))]
  refine J_aload_n dX7_init_0 rfl rfl ?_
  refine J_oinit wk_248 (by decide) (Nat.le_of_ble_eq_true rfl) dX7_init_1 ?_
  refine J_aload_n dX7_init_4 rfl rfl ?_
  refine J_bipush (v := (nI 12)) dX7_init_5 (by decide) ?_
  refine J_newaI (N := 12) w_arrI (by decide) (by decide) (by decide) (by decide) (by decide) dX7_init_7 (fun q1 => ?_)
  show J G "<init>" RX7 cX7_init 1 none 2 24 1 _ 1 12 9 [(0, .ref a)] [.ref q1, .ref a] [(a, .inr (6, [.null, .null, .int 0])), (q1, .inl (gI G, 12, .inl (fun _ => 0)))]
  refine J_putF fr_X7_9_6 (fun q h => by rw [← Option.some.inj (show some (RX7, TX7, 3) = some q from h)]; rfl) rfl 0 [(a, .inr (6, [.ref q1, .null, .int 0])), (q1, .inl (gI G, 12, .inl (fun _ => 0)))] rfl rfl rfl (by show 0 < 3; decide) rfl dX7_init_9 ?_
  refine J_aload_n dX7_init_12 rfl rfl ?_
  refine J_bipush (v := (nI 12)) dX7_init_13 (by decide) ?_
  refine J_newaI (N := 12) w_arrI (by decide) (by decide) (by decide) (by decide) (by decide) dX7_init_15 (fun q2 => ?_)
  show J G "<init>" RX7 cX7_init 1 none 2 24 1 _ 2 24 17 [(0, .ref a)] [.ref q2, .ref a] [(a, .inr (6, [.ref q1, .null, .int 0])), (q1, .inl (gI G, 12, .inl (fun _ => 0))), (q2, .inl (gI G, 12, .inl (fun _ => 0)))]
  refine J_putF fr_X7_15_6 (fun q h => by rw [← Option.some.inj (show some (RX7, TX7, 3) = some q from h)]; rfl) rfl 0 [(a, .inr (6, [.ref q1, .ref q2, .int 0])), (q1, .inl (gI G, 12, .inl (fun _ => 0))), (q2, .inl (gI G, 12, .inl (fun _ => 0)))] rfl rfl rfl (by show 1 < 3; decide) rfl dX7_init_17 ?_
  refine J_aload_n dX7_init_20 rfl rfl ?_
  refine J_iconst (v := (nI 0)) dX7_init_21 (by decide) ?_
  refine J_put fr_X7_18_6 0 [(a, .inr (6, [.ref q1, .ref q2, .int (nI 0)])), (q1, .inl (gI G, 12, .inl (fun _ => 0))), (q2, .inl (gI G, 12, .inl (fun _ => 0)))] rfl rfl rfl (by show 2 < 3; decide) rfl dX7_init_22 ?_
  exact J_vret dX7_init_25 rfl rfl rfl ⟨rfl, q1, q2, rfl⟩
theorem wk_360 : Cond.methodLink RX8 3 Lib.objectInit ∈ TB := TB_mem 360 (by decide +kernel) (by decide +kernel)
theorem c_X8_init {G : GT} (a : Nat) : Ct G yX8_init cX8_init 1 none 1 60 1 [.ref a] [(a, .inr (7, [.null, .int 0, .int 0]))] (fun v w => v = none ∧ ∃ q1 : Nat, w = [(a, .inr (7, [.ref q1, .int (nI 0), .int (-1)])), (q1, .inl (gI G, 60, .inl (fun _ => 0)))]) := by
  refine Ct.of rfl (Nat.le_of_ble_eq_true rfl) ?_
  show J G "<init>" RX8 cX8_init 1 none 1 60 1 _ 0 0 0 [(0, .ref a)] [] [(a, .inr (7, [.null, .int 0, .int 0]))]
  refine J_aload_n dX8_init_0 rfl rfl ?_
  refine J_oinit wk_360 (by decide) (Nat.le_of_ble_eq_true rfl) dX8_init_1 ?_
  refine J_aload_n dX8_init_4 rfl rfl ?_
  refine J_bipush (v := (nI 60)) dX8_init_5 (by decide) ?_
  refine J_newaI (N := 60) w_arrI (by decide) (by decide) (by decide) (by decide) (by decide) dX8_init_7 (fun q1 => ?_)
  show J G "<init>" RX8 cX8_init 1 none 1 60 1 _ 1 60 9 [(0, .ref a)] [.ref q1, .ref a] [(a, .inr (7, [.null, .int 0, .int 0])), (q1, .inl (gI G, 60, .inl (fun _ => 0)))]
  refine J_putF fr_X8_9_7 (fun q h => by rw [← Option.some.inj (show some (RX8, TX8, 3) = some q from h)]; rfl) rfl 0 [(a, .inr (7, [.ref q1, .int 0, .int 0])), (q1, .inl (gI G, 60, .inl (fun _ => 0)))] rfl rfl rfl (by show 0 < 3; decide) rfl dX8_init_9 ?_
  refine J_aload_n dX8_init_12 rfl rfl ?_
  refine J_iconst (v := (nI 0)) dX8_init_13 (by decide) ?_
  refine J_put fr_X8_15_7 0 [(a, .inr (7, [.ref q1, .int (nI 0), .int 0])), (q1, .inl (gI G, 60, .inl (fun _ => 0)))] rfl rfl rfl (by show 1 < 3; decide) rfl dX8_init_14 ?_
  refine J_aload_n dX8_init_17 rfl rfl ?_
  refine J_iconst (v := (-1)) dX8_init_18 (by decide) ?_
  refine J_put fr_X8_19_7 0 [(a, .inr (7, [.ref q1, .int (nI 0), .int (-1)])), (q1, .inl (gI G, 60, .inl (fun _ => 0)))] rfl rfl rfl (by show 2 < 3; decide) rfl dX8_init_19 ?_
  exact J_vret dX8_init_22 rfl rfl rfl ⟨rfl, q1, rfl⟩
theorem wk_302 : Cond.methodLink RX9 3 Lib.objectInit ∈ TB := TB_mem 302 (by decide +kernel) (by decide +kernel)
theorem c_X9_init {G : GT} (a : Nat) : Ct G yX9_init cX9_init 1 none 3 24 1 [.ref a] [(a, .inr (8, [.null, .null, .null, .int 0]))] (fun v w => v = none ∧ ∃ q1 : Nat, ∃ q2 : Nat, ∃ q3 : Nat, w = [(a, .inr (8, [.ref q1, .ref q2, .ref q3, .int (nI 0)])), (q1, .inl (gI G, 8, .inl (fun _ => 0))), (q2, .inl (gI G, 8, .inl (fun _ => 0))), (q3, .inl (gI G, 8, .inl (fun _ => 0)))]) := by
  refine Ct.of rfl (Nat.le_of_ble_eq_true rfl) ?_
  show J G "<init>" RX9 cX9_init 1 none 3 24 1 _ 0 0 0 [(0, .ref a)] [] [(a, .inr (8, [.null, .null, .null, .int 0]))]
  refine J_aload_n dX9_init_0 rfl rfl ?_
  refine J_oinit wk_302 (by decide) (Nat.le_of_ble_eq_true rfl) dX9_init_1 ?_
  refine J_aload_n dX9_init_4 rfl rfl ?_
  refine J_bipush (v := (nI 8)) dX9_init_5 (by decide) ?_
  refine J_newaI (N := 8) w_arrI (by decide) (by decide) (by decide) (by decide) (by decide) dX9_init_7 (fun q1 => ?_)
  show J G "<init>" RX9 cX9_init 1 none 3 24 1 _ 1 8 9 [(0, .ref a)] [.ref q1, .ref a] [(a, .inr (8, [.null, .null, .null, .int 0])), (q1, .inl (gI G, 8, .inl (fun _ => 0)))]
  refine J_putF fr_X9_9_8 (fun q h => by rw [← Option.some.inj (show some (RX9, TX9, 4) = some q from h)]; rfl) rfl 0 [(a, .inr (8, [.ref q1, .null, .null, .int 0])), (q1, .inl (gI G, 8, .inl (fun _ => 0)))] rfl rfl rfl (by show 0 < 4; decide) rfl dX9_init_9 ?_
  refine J_aload_n dX9_init_12 rfl rfl ?_
  refine J_bipush (v := (nI 8)) dX9_init_13 (by decide) ?_
  refine J_newaI (N := 8) w_arrI (by decide) (by decide) (by decide) (by decide) (by decide) dX9_init_15 (fun q2 => ?_)
  show J G "<init>" RX9 cX9_init 1 none 3 24 1 _ 2 16 17 [(0, .ref a)] [.ref q2, .ref a] [(a, .inr (8, [.ref q1, .null, .null, .int 0])), (q1, .inl (gI G, 8, .inl (fun _ => 0))), (q2, .inl (gI G, 8, .inl (fun _ => 0)))]
  refine J_putF fr_X9_15_8 (fun q h => by rw [← Option.some.inj (show some (RX9, TX9, 4) = some q from h)]; rfl) rfl 0 [(a, .inr (8, [.ref q1, .ref q2, .null, .int 0])), (q1, .inl (gI G, 8, .inl (fun _ => 0))), (q2, .inl (gI G, 8, .inl (fun _ => 0)))] rfl rfl rfl (by show 1 < 4; decide) rfl dX9_init_17 ?_
  refine J_aload_n dX9_init_20 rfl rfl ?_
  refine J_bipush (v := (nI 8)) dX9_init_21 (by decide) ?_
  refine J_newaI (N := 8) w_arrI (by decide) (by decide) (by decide) (by decide) (by decide) dX9_init_23 (fun q3 => ?_)
  show J G "<init>" RX9 cX9_init 1 none 3 24 1 _ 3 24 25 [(0, .ref a)] [.ref q3, .ref a] [(a, .inr (8, [.ref q1, .ref q2, .null, .int 0])), (q1, .inl (gI G, 8, .inl (fun _ => 0))), (q2, .inl (gI G, 8, .inl (fun _ => 0))), (q3, .inl (gI G, 8, .inl (fun _ => 0)))]
  refine J_putF fr_X9_18_8 (fun q h => by rw [← Option.some.inj (show some (RX9, TX9, 4) = some q from h)]; rfl) rfl 0 [(a, .inr (8, [.ref q1, .ref q2, .ref q3, .int 0])), (q1, .inl (gI G, 8, .inl (fun _ => 0))), (q2, .inl (gI G, 8, .inl (fun _ => 0))), (q3, .inl (gI G, 8, .inl (fun _ => 0)))] rfl rfl rfl (by show 2 < 4; decide) rfl dX9_init_25 ?_
  refine J_aload_n dX9_init_28 rfl rfl ?_
  refine J_iconst (v := (nI 0)) dX9_init_29 (by decide) ?_
  refine J_put fr_X9_21_8 0 [(a, .inr (8, [.ref q1, .ref q2, .ref q3, .int (nI 0)])), (q1, .inl (gI G, 8, .inl (fun _ => 0))), (q2, .inl (gI G, 8, .inl (fun _ => 0))), (q3, .inl (gI G, 8, .inl (fun _ => 0)))] rfl rfl rfl (by show 3 < 4; decide) rfl dX9_init_30 ?_
  exact J_vret dX9_init_33 rfl rfl rfl ⟨rfl, q1, q2, q3, rfl⟩
theorem wk_289 : Cond.methodLink RX10 3 Lib.objectInit ∈ TB := TB_mem 289 (by decide +kernel) (by decide +kernel)
theorem c_X10_init {G : GT} (a : Nat) : Ct G yX10_init cX10_init 1 none 1 42 1 [.ref a] [(a, .inr (9, [.null]))] (fun v w => v = none ∧ ∃ q1 : Nat, w = [(a, .inr (9, [.ref q1])), (q1, .inl (gI G, 42, .inl (fun _ => (nI 1))))]) := by
  refine Ct.of rfl (Nat.le_of_ble_eq_true rfl) ?_
  show J G "<init>" RX10 cX10_init 1 none 1 42 1 _ 0 0 0 [(0, .ref a)] [] [(a, .inr (9, [.null]))]
  refine J_aload_n dX10_init_0 rfl rfl ?_
  refine J_oinit wk_289 (by decide) (Nat.le_of_ble_eq_true rfl) dX10_init_1 ?_
  refine J_aload_n dX10_init_4 rfl rfl ?_
  refine J_bipush (v := (nI 42)) dX10_init_5 (by decide) ?_
  refine J_newaI (N := 42) w_arrI (by decide) (by decide) (by decide) (by decide) (by decide) dX10_init_7 (fun q1 => ?_)
  show J G "<init>" RX10 cX10_init 1 none 1 42 1 _ 1 42 9 [(0, .ref a)] [.ref q1, .ref a] [(a, .inr (9, [.null])), (q1, .inl (gI G, 42, .inl (fun _ => 0)))]
  refine J_putF fr_X10_9_9 (fun q h => by rw [← Option.some.inj (show some (RX10, TX10, 1) = some q from h)]; rfl) rfl 0 [(a, .inr (9, [.ref q1])), (q1, .inl (gI G, 42, .inl (fun _ => 0)))] rfl rfl rfl (by show 0 < 1; decide) rfl dX10_init_9 ?_
  refine J_aload_n dX10_init_12 rfl rfl ?_
  refine J_get fr_X10_9_9 0 rfl rfl dX10_init_13 ?_
  refine J_iconst (v := (nI 1)) dX10_init_16 (by decide) ?_
  refine J_cSv [.ref q1, .int (nI 1)] ms_X10_15 (c_fill [(a, .inr (9, [.ref q1])), (q1, .inl (gI G, 42, .inl (fun _ => 0)))] 1 q1 42 (fun _ => 0) (nI 1) rfl (by decide)) rfl rfl (by decide) (Nat.le_of_ble_eq_true rfl) (by decide) dX10_init_17 ?_
  show J G "<init>" RX10 cX10_init 1 none 1 42 1 _ 1 42 20 [(0, .ref a)] [] [(a, .inr (9, [.ref q1])), (q1, .inl (gI G, 42, .inl (fun _ => (nI 1))))]
  exact J_vret dX10_init_20 rfl rfl rfl ⟨rfl, q1, rfl⟩
theorem wk_322 : Cond.methodLink RX6 5 Lib.objectInit ∈ TB := TB_mem 322 (by decide +kernel) (by decide +kernel)
theorem c_X6_init {G : GT} (a : Nat) : Ct G yX6_init cX6_init 1 none 5 51 1 [.ref a] [(a, .inr (5, [.null, .null, .null, .null, .null, .int 0, .int 0, .int 0, .int 0]))] (fun v w => v = none ∧ ∃ q1 : Nat, ∃ q2 : Nat, ∃ q3 : Nat, ∃ q4 : Nat, ∃ q5 : Nat, w = [(a, .inr (5, [.ref q1, .ref q2, .ref q3, .ref q4, .ref q5, .int (nI 0), .int (nI 0), .int (nI 0), .int (nI 0)])), (q1, .inl (gI G, 6, .inl (fun _ => 0))), (q2, .inl (gI G, 6, .inl (fun _ => 0))), (q3, .inl (gI G, 4, .inl (fun _ => 0))), (q4, .inl (gI G, 7, .inl (fun _ => 0))), (q5, .inl (gJ G, 28, .inr (.inl (fun _ => 0))))]) := by
  refine Ct.of rfl (Nat.le_of_ble_eq_true rfl) ?_
  show J G "<init>" RX6 cX6_init 1 none 5 51 1 _ 0 0 0 [(0, .ref a)] [] [(a, .inr (5, [.null, .null, .null, .null, .null, .int 0, .int 0, .int 0, .int 0]))]
  refine J_aload_n dX6_init_0 rfl rfl ?_
  refine J_oinit wk_322 (by decide) (Nat.le_of_ble_eq_true rfl) dX6_init_1 ?_
  refine J_aload_n dX6_init_4 rfl rfl ?_
  refine J_bipush (v := (nI 6)) dX6_init_5 (by decide) ?_
  refine J_newaI (N := 6) w_arrI (by decide) (by decide) (by decide) (by decide) (by decide) dX6_init_7 (fun q1 => ?_)
  show J G "<init>" RX6 cX6_init 1 none 5 51 1 _ 1 6 9 [(0, .ref a)] [.ref q1, .ref a] [(a, .inr (5, [.null, .null, .null, .null, .null, .int 0, .int 0, .int 0, .int 0])), (q1, .inl (gI G, 6, .inl (fun _ => 0)))]
  refine J_putF fr_X6_11_5 (fun q h => by rw [← Option.some.inj (show some (RX6, TX6, 9) = some q from h)]; rfl) rfl 0 [(a, .inr (5, [.ref q1, .null, .null, .null, .null, .int 0, .int 0, .int 0, .int 0])), (q1, .inl (gI G, 6, .inl (fun _ => 0)))] rfl rfl rfl (by show 0 < 9; decide) rfl dX6_init_9 ?_
  refine J_aload_n dX6_init_12 rfl rfl ?_
  refine J_bipush (v := (nI 6)) dX6_init_13 (by decide) ?_
  refine J_newaI (N := 6) w_arrI (by decide) (by decide) (by decide) (by decide) (by decide) dX6_init_15 (fun q2 => ?_)
  show J G "<init>" RX6 cX6_init 1 none 5 51 1 _ 2 12 17 [(0, .ref a)] [.ref q2, .ref a] [(a, .inr (5, [.ref q1, .null, .null, .null, .null, .int 0, .int 0, .int 0, .int 0])), (q1, .inl (gI G, 6, .inl (fun _ => 0))), (q2, .inl (gI G, 6, .inl (fun _ => 0)))]
  refine J_putF fr_X6_15_5 (fun q h => by rw [← Option.some.inj (show some (RX6, TX6, 9) = some q from h)]; rfl) rfl 0 [(a, .inr (5, [.ref q1, .ref q2, .null, .null, .null, .int 0, .int 0, .int 0, .int 0])), (q1, .inl (gI G, 6, .inl (fun _ => 0))), (q2, .inl (gI G, 6, .inl (fun _ => 0)))] rfl rfl rfl (by show 1 < 9; decide) rfl dX6_init_17 ?_
  refine J_aload_n dX6_init_20 rfl rfl ?_
  refine J_iconst (v := (nI 4)) dX6_init_21 (by decide) ?_
  refine J_newaI (N := 4) w_arrI (by decide) (by decide) (by decide) (by decide) (by decide) dX6_init_22 (fun q3 => ?_)
  show J G "<init>" RX6 cX6_init 1 none 5 51 1 _ 3 16 24 [(0, .ref a)] [.ref q3, .ref a] [(a, .inr (5, [.ref q1, .ref q2, .null, .null, .null, .int 0, .int 0, .int 0, .int 0])), (q1, .inl (gI G, 6, .inl (fun _ => 0))), (q2, .inl (gI G, 6, .inl (fun _ => 0))), (q3, .inl (gI G, 4, .inl (fun _ => 0)))]
  refine J_putF fr_X6_18_5 (fun q h => by rw [← Option.some.inj (show some (RX6, TX6, 9) = some q from h)]; rfl) rfl 0 [(a, .inr (5, [.ref q1, .ref q2, .ref q3, .null, .null, .int 0, .int 0, .int 0, .int 0])), (q1, .inl (gI G, 6, .inl (fun _ => 0))), (q2, .inl (gI G, 6, .inl (fun _ => 0))), (q3, .inl (gI G, 4, .inl (fun _ => 0)))] rfl rfl rfl (by show 2 < 9; decide) rfl dX6_init_24 ?_
  refine J_aload_n dX6_init_27 rfl rfl ?_
  refine J_bipush (v := (nI 7)) dX6_init_28 (by decide) ?_
  refine J_newaI (N := 7) w_arrI (by decide) (by decide) (by decide) (by decide) (by decide) dX6_init_30 (fun q4 => ?_)
  show J G "<init>" RX6 cX6_init 1 none 5 51 1 _ 4 23 32 [(0, .ref a)] [.ref q4, .ref a] [(a, .inr (5, [.ref q1, .ref q2, .ref q3, .null, .null, .int 0, .int 0, .int 0, .int 0])), (q1, .inl (gI G, 6, .inl (fun _ => 0))), (q2, .inl (gI G, 6, .inl (fun _ => 0))), (q3, .inl (gI G, 4, .inl (fun _ => 0))), (q4, .inl (gI G, 7, .inl (fun _ => 0)))]
  refine J_putF fr_X6_21_5 (fun q h => by rw [← Option.some.inj (show some (RX6, TX6, 9) = some q from h)]; rfl) rfl 0 [(a, .inr (5, [.ref q1, .ref q2, .ref q3, .ref q4, .null, .int 0, .int 0, .int 0, .int 0])), (q1, .inl (gI G, 6, .inl (fun _ => 0))), (q2, .inl (gI G, 6, .inl (fun _ => 0))), (q3, .inl (gI G, 4, .inl (fun _ => 0))), (q4, .inl (gI G, 7, .inl (fun _ => 0)))] rfl rfl rfl (by show 3 < 9; decide) rfl dX6_init_32 ?_
  refine J_aload_n dX6_init_35 rfl rfl ?_
  refine J_bipush (v := (nI 28)) dX6_init_36 (by decide) ?_
  refine J_newaL (N := 28) w_arrL (by decide) (by decide) (by decide) (by decide) (by decide) dX6_init_38 (fun q5 => ?_)
  show J G "<init>" RX6 cX6_init 1 none 5 51 1 _ 5 51 40 [(0, .ref a)] [.ref q5, .ref a] [(a, .inr (5, [.ref q1, .ref q2, .ref q3, .ref q4, .null, .int 0, .int 0, .int 0, .int 0])), (q1, .inl (gI G, 6, .inl (fun _ => 0))), (q2, .inl (gI G, 6, .inl (fun _ => 0))), (q3, .inl (gI G, 4, .inl (fun _ => 0))), (q4, .inl (gI G, 7, .inl (fun _ => 0))), (q5, .inl (gJ G, 28, .inr (.inl (fun _ => 0))))]
  refine J_putF fr_X6_24_5 (fun q h => by rw [← Option.some.inj (show some (RX6, TX6, 9) = some q from h)]; rfl) rfl 0 [(a, .inr (5, [.ref q1, .ref q2, .ref q3, .ref q4, .ref q5, .int 0, .int 0, .int 0, .int 0])), (q1, .inl (gI G, 6, .inl (fun _ => 0))), (q2, .inl (gI G, 6, .inl (fun _ => 0))), (q3, .inl (gI G, 4, .inl (fun _ => 0))), (q4, .inl (gI G, 7, .inl (fun _ => 0))), (q5, .inl (gJ G, 28, .inr (.inl (fun _ => 0))))] rfl rfl rfl (by show 4 < 9; decide) rfl dX6_init_40 ?_
  refine J_aload_n dX6_init_43 rfl rfl ?_
  refine J_iconst (v := (nI 0)) dX6_init_44 (by decide) ?_
  refine J_put fr_X6_28_5 0 [(a, .inr (5, [.ref q1, .ref q2, .ref q3, .ref q4, .ref q5, .int (nI 0), .int 0, .int 0, .int 0])), (q1, .inl (gI G, 6, .inl (fun _ => 0))), (q2, .inl (gI G, 6, .inl (fun _ => 0))), (q3, .inl (gI G, 4, .inl (fun _ => 0))), (q4, .inl (gI G, 7, .inl (fun _ => 0))), (q5, .inl (gJ G, 28, .inr (.inl (fun _ => 0))))] rfl rfl rfl (by show 5 < 9; decide) rfl dX6_init_45 ?_
  refine J_aload_n dX6_init_48 rfl rfl ?_
  refine J_iconst (v := (nI 0)) dX6_init_49 (by decide) ?_
  refine J_put fr_X6_32_5 0 [(a, .inr (5, [.ref q1, .ref q2, .ref q3, .ref q4, .ref q5, .int (nI 0), .int (nI 0), .int 0, .int 0])), (q1, .inl (gI G, 6, .inl (fun _ => 0))), (q2, .inl (gI G, 6, .inl (fun _ => 0))), (q3, .inl (gI G, 4, .inl (fun _ => 0))), (q4, .inl (gI G, 7, .inl (fun _ => 0))), (q5, .inl (gJ G, 28, .inr (.inl (fun _ => 0))))] rfl rfl rfl (by show 6 < 9; decide) rfl dX6_init_50 ?_
  refine J_aload_n dX6_init_53 rfl rfl ?_
  refine J_iconst (v := (nI 0)) dX6_init_54 (by decide) ?_
  refine J_put fr_X6_35_5 0 [(a, .inr (5, [.ref q1, .ref q2, .ref q3, .ref q4, .ref q5, .int (nI 0), .int (nI 0), .int (nI 0), .int 0])), (q1, .inl (gI G, 6, .inl (fun _ => 0))), (q2, .inl (gI G, 6, .inl (fun _ => 0))), (q3, .inl (gI G, 4, .inl (fun _ => 0))), (q4, .inl (gI G, 7, .inl (fun _ => 0))), (q5, .inl (gJ G, 28, .inr (.inl (fun _ => 0))))] rfl rfl rfl (by show 7 < 9; decide) rfl dX6_init_55 ?_
  refine J_aload_n dX6_init_58 rfl rfl ?_
  refine J_iconst (v := (nI 0)) dX6_init_59 (by decide) ?_
  refine J_put fr_X6_38_5 0 [(a, .inr (5, [.ref q1, .ref q2, .ref q3, .ref q4, .ref q5, .int (nI 0), .int (nI 0), .int (nI 0), .int (nI 0)])), (q1, .inl (gI G, 6, .inl (fun _ => 0))), (q2, .inl (gI G, 6, .inl (fun _ => 0))), (q3, .inl (gI G, 4, .inl (fun _ => 0))), (q4, .inl (gI G, 7, .inl (fun _ => 0))), (q5, .inl (gJ G, 28, .inr (.inl (fun _ => 0))))] rfl rfl rfl (by show 8 < 9; decide) rfl dX6_init_60 ?_
  exact J_vret dX6_init_63 rfl rfl rfl ⟨rfl, q1, q2, q3, q4, q5, rfl⟩
theorem wk_87 : Cond.methodLink RX4 3 Lib.objectInit ∈ TB := TB_mem 87 (by decide +kernel) (by decide +kernel)
theorem wk_88 : Cond.classLink RX4 9 RX2 ∈ TB := TB_mem 88 (by decide +kernel) (by decide +kernel)
theorem wk_89 : Cond.instantiable RX2 12 ∈ TB := TB_mem 89 (by decide +kernel) (by decide +kernel)
theorem wk_55 : Cond.initialized RX2 ∈ TB := TB_mem 55 (by decide +kernel) (by decide +kernel)
theorem wk_166 : Cond.classLink RX4 18 RX3 ∈ TB := TB_mem 166 (by decide +kernel) (by decide +kernel)
theorem wk_167 : Cond.instantiable RX3 10 ∈ TB := TB_mem 167 (by decide +kernel) (by decide +kernel)
theorem wk_56 : Cond.initialized RX3 ∈ TB := TB_mem 56 (by decide +kernel) (by decide +kernel)
theorem c_X4_init {G : GT} (a : Nat) : Ct G yX4_init cX4_init 1 none 14 212 3 [.ref a] [(a, .inr (4, [.null, .null]))] (fun v w => v = none ∧ ∃ q1 : Nat, ∃ q2 : Nat, ∃ q3 : Nat, ∃ q4 : Nat, ∃ q5 : Nat, ∃ q6 : Nat, ∃ q7 : Nat, ∃ q8 : Nat, ∃ q9 : Nat, ∃ q10 : Nat, ∃ q11 : Nat, ∃ q12 : Nat, ∃ q13 : Nat, ∃ q14 : Nat, w = [(a, .inr (4, [.ref q1, .ref q9])), (q1, .inr (2, [.ref q2, .int (nI 47), .int (nI 8), .int (nI 0), .int (nI 0), .int (-1), .ref q3, .ref q4, .ref q5, .ref q6, .ref q7, .ref q8])), (q2, .inl (gI G, 59, .inl (fun _ => 0))), (q3, .inl (gI G, 8, .inl (fun _ => 0))), (q4, .inl (gI G, 8, .inl (fun _ => 0))), (q5, .inl (gI G, 8, .inl (fun _ => 0))), (q6, .inl (gI G, 8, .inl (fun _ => 0))), (q7, .inl (gI G, 8, .inl (fun _ => 0))), (q8, .inl (gI G, 8, .inl (fun _ => 0))), (q9, .inr (3, [.ref q10, .int (nI 23), .int (nI 6), .int (nI 0), .int (nI 0), .int (-1), .ref q11, .ref q12, .ref q13, .ref q14])), (q10, .inl (gI G, 59, .inl (fun _ => 0))), (q11, .inl (gI G, 6, .inl (fun _ => 0))), (q12, .inl (gI G, 6, .inl (fun _ => 0))), (q13, .inl (gI G, 6, .inl (fun _ => 0))), (q14, .inl (gI G, 6, .inl (fun _ => 0)))]) := by
  refine Ct.of rfl (Nat.le_of_ble_eq_true rfl) ?_
  show J G "<init>" RX4 cX4_init 1 none 14 212 3 _ 0 0 0 [(0, .ref a)] [] [(a, .inr (4, [.null, .null]))]
  refine J_aload_n dX4_init_0 rfl rfl ?_
  refine J_oinit wk_87 (by decide) (Nat.le_of_ble_eq_true rfl) dX4_init_1 ?_
  refine J_aload_n dX4_init_4 rfl rfl ?_
  refine J_new (C0 := RX2) (T := TX2) (N := 12) (ci := 2) tyX2 [.null, .int 0, .int 0, .int 0, .int 0, .int 0, .null, .null, .null, .null, .null, .null] rfl uwX2 tyX2_ok wk_88 wk_89 wk_55 (df_X2) (by decide) (by decide) dX4_init_5 (fun q1 => ?_)
  show J G "<init>" RX4 cX4_init 1 none 14 212 3 _ 1 12 8 [(0, .ref a)] [.ref q1, .ref a] [(a, .inr (4, [.null, .null])), (q1, .inr (2, [.null, .int 0, .int 0, .int 0, .int 0, .int 0, .null, .null, .null, .null, .null, .null]))]
  refine J_dup dX4_init_8 rfl ?_
  refine J_callI mi_X4_11 (As := []) (st := [.ref q1, .ref a]) (wr := [(a, .inr (4, [.null, .null]))]) (c_X2_init q1) rfl rfl rfl (by decide) (Nat.le_of_ble_eq_true rfl) (by decide) dX4_init_9 (fun v w1 h => ?_)
  obtain ⟨rfl, q2, q3, q4, q5, q6, q7, q8, rfl⟩ := h
  show J G "<init>" RX4 cX4_init 1 none 14 212 3 _ 8 119 12 [(0, .ref a)] [.ref q1, .ref a] [(a, .inr (4, [.null, .null])), (q1, .inr (2, [.ref q2, .int (nI 47), .int (nI 8), .int (nI 0), .int (nI 0), .int (-1), .ref q3, .ref q4, .ref q5, .ref q6, .ref q7, .ref q8])), (q2, .inl (gI G, 59, .inl (fun _ => 0))), (q3, .inl (gI G, 8, .inl (fun _ => 0))), (q4, .inl (gI G, 8, .inl (fun _ => 0))), (q5, .inl (gI G, 8, .inl (fun _ => 0))), (q6, .inl (gI G, 8, .inl (fun _ => 0))), (q7, .inl (gI G, 8, .inl (fun _ => 0))), (q8, .inl (gI G, 8, .inl (fun _ => 0)))]
  refine J_putF fr_X4_12_4 (fun q h => by rw [← Option.some.inj (show some (RX4, TX4, 2) = some q from h)]; rfl) rfl 0 [(a, .inr (4, [.ref q1, .null])), (q1, .inr (2, [.ref q2, .int (nI 47), .int (nI 8), .int (nI 0), .int (nI 0), .int (-1), .ref q3, .ref q4, .ref q5, .ref q6, .ref q7, .ref q8])), (q2, .inl (gI G, 59, .inl (fun _ => 0))), (q3, .inl (gI G, 8, .inl (fun _ => 0))), (q4, .inl (gI G, 8, .inl (fun _ => 0))), (q5, .inl (gI G, 8, .inl (fun _ => 0))), (q6, .inl (gI G, 8, .inl (fun _ => 0))), (q7, .inl (gI G, 8, .inl (fun _ => 0))), (q8, .inl (gI G, 8, .inl (fun _ => 0)))] rfl rfl rfl (by show 0 < 2; decide) rfl dX4_init_12 ?_
  refine J_aload_n dX4_init_15 rfl rfl ?_
  refine J_new (C0 := RX3) (T := TX3) (N := 10) (ci := 3) tyX3 [.null, .int 0, .int 0, .int 0, .int 0, .int 0, .null, .null, .null, .null] rfl uwX3 tyX3_ok wk_166 wk_167 wk_56 (df_X3) (by decide) (by decide) dX4_init_16 (fun q9 => ?_)
  show J G "<init>" RX4 cX4_init 1 none 14 212 3 _ 9 129 19 [(0, .ref a)] [.ref q9, .ref a] [(a, .inr (4, [.ref q1, .null])), (q1, .inr (2, [.ref q2, .int (nI 47), .int (nI 8), .int (nI 0), .int (nI 0), .int (-1), .ref q3, .ref q4, .ref q5, .ref q6, .ref q7, .ref q8])), (q2, .inl (gI G, 59, .inl (fun _ => 0))), (q3, .inl (gI G, 8, .inl (fun _ => 0))), (q4, .inl (gI G, 8, .inl (fun _ => 0))), (q5, .inl (gI G, 8, .inl (fun _ => 0))), (q6, .inl (gI G, 8, .inl (fun _ => 0))), (q7, .inl (gI G, 8, .inl (fun _ => 0))), (q8, .inl (gI G, 8, .inl (fun _ => 0))), (q9, .inr (3, [.null, .int 0, .int 0, .int 0, .int 0, .int 0, .null, .null, .null, .null]))]
  refine J_dup dX4_init_19 rfl ?_
  refine J_callI mi_X4_20 (As := []) (st := [.ref q9, .ref a]) (wr := [(a, .inr (4, [.ref q1, .null])), (q1, .inr (2, [.ref q2, .int (nI 47), .int (nI 8), .int (nI 0), .int (nI 0), .int (-1), .ref q3, .ref q4, .ref q5, .ref q6, .ref q7, .ref q8])), (q2, .inl (gI G, 59, .inl (fun _ => 0))), (q3, .inl (gI G, 8, .inl (fun _ => 0))), (q4, .inl (gI G, 8, .inl (fun _ => 0))), (q5, .inl (gI G, 8, .inl (fun _ => 0))), (q6, .inl (gI G, 8, .inl (fun _ => 0))), (q7, .inl (gI G, 8, .inl (fun _ => 0))), (q8, .inl (gI G, 8, .inl (fun _ => 0)))]) (c_X3_init q9) rfl rfl rfl (by decide) (Nat.le_of_ble_eq_true rfl) (by decide) dX4_init_20 (fun v w1 h => ?_)
  obtain ⟨rfl, q10, q11, q12, q13, q14, rfl⟩ := h
  show J G "<init>" RX4 cX4_init 1 none 14 212 3 _ 14 212 23 [(0, .ref a)] [.ref q9, .ref a] [(a, .inr (4, [.ref q1, .null])), (q1, .inr (2, [.ref q2, .int (nI 47), .int (nI 8), .int (nI 0), .int (nI 0), .int (-1), .ref q3, .ref q4, .ref q5, .ref q6, .ref q7, .ref q8])), (q2, .inl (gI G, 59, .inl (fun _ => 0))), (q3, .inl (gI G, 8, .inl (fun _ => 0))), (q4, .inl (gI G, 8, .inl (fun _ => 0))), (q5, .inl (gI G, 8, .inl (fun _ => 0))), (q6, .inl (gI G, 8, .inl (fun _ => 0))), (q7, .inl (gI G, 8, .inl (fun _ => 0))), (q8, .inl (gI G, 8, .inl (fun _ => 0))), (q9, .inr (3, [.ref q10, .int (nI 23), .int (nI 6), .int (nI 0), .int (nI 0), .int (-1), .ref q11, .ref q12, .ref q13, .ref q14])), (q10, .inl (gI G, 59, .inl (fun _ => 0))), (q11, .inl (gI G, 6, .inl (fun _ => 0))), (q12, .inl (gI G, 6, .inl (fun _ => 0))), (q13, .inl (gI G, 6, .inl (fun _ => 0))), (q14, .inl (gI G, 6, .inl (fun _ => 0)))]
  refine J_putF fr_X4_21_4 (fun q h => by rw [← Option.some.inj (show some (RX4, TX4, 2) = some q from h)]; rfl) rfl 0 [(a, .inr (4, [.ref q1, .ref q9])), (q1, .inr (2, [.ref q2, .int (nI 47), .int (nI 8), .int (nI 0), .int (nI 0), .int (-1), .ref q3, .ref q4, .ref q5, .ref q6, .ref q7, .ref q8])), (q2, .inl (gI G, 59, .inl (fun _ => 0))), (q3, .inl (gI G, 8, .inl (fun _ => 0))), (q4, .inl (gI G, 8, .inl (fun _ => 0))), (q5, .inl (gI G, 8, .inl (fun _ => 0))), (q6, .inl (gI G, 8, .inl (fun _ => 0))), (q7, .inl (gI G, 8, .inl (fun _ => 0))), (q8, .inl (gI G, 8, .inl (fun _ => 0))), (q9, .inr (3, [.ref q10, .int (nI 23), .int (nI 6), .int (nI 0), .int (nI 0), .int (-1), .ref q11, .ref q12, .ref q13, .ref q14])), (q10, .inl (gI G, 59, .inl (fun _ => 0))), (q11, .inl (gI G, 6, .inl (fun _ => 0))), (q12, .inl (gI G, 6, .inl (fun _ => 0))), (q13, .inl (gI G, 6, .inl (fun _ => 0))), (q14, .inl (gI G, 6, .inl (fun _ => 0)))] rfl rfl rfl (by show 1 < 2; decide) rfl dX4_init_23 ?_
  exact J_vret dX4_init_26 rfl rfl rfl ⟨rfl, q1, q2, q3, q4, q5, q6, q7, q8, q9, q10, q11, q12, q13, q14, rfl⟩
theorem wk_81 : Cond.methodLink RX1 3 Lib.objectInit ∈ TB := TB_mem 81 (by decide +kernel) (by decide +kernel)
theorem wk_82 : Cond.classLink RX1 9 RX4 ∈ TB := TB_mem 82 (by decide +kernel) (by decide +kernel)
theorem wk_83 : Cond.instantiable RX4 2 ∈ TB := TB_mem 83 (by decide +kernel) (by decide +kernel)
theorem wk_53 : Cond.initialized RX4 ∈ TB := TB_mem 53 (by decide +kernel) (by decide +kernel)
theorem wk_210 : Cond.classLink RX1 18 RX0 ∈ TB := TB_mem 210 (by decide +kernel) (by decide +kernel)
theorem wk_211 : Cond.instantiable RX0 10 ∈ TB := TB_mem 211 (by decide +kernel) (by decide +kernel)
theorem wk_57 : Cond.initialized RX0 ∈ TB := TB_mem 57 (by decide +kernel) (by decide +kernel)
theorem wk_243 : Cond.classLink RX1 25 RX7 ∈ TB := TB_mem 243 (by decide +kernel) (by decide +kernel)
theorem wk_244 : Cond.instantiable RX7 3 ∈ TB := TB_mem 244 (by decide +kernel) (by decide +kernel)
theorem wk_58 : Cond.initialized RX7 ∈ TB := TB_mem 58 (by decide +kernel) (by decide +kernel)
theorem c_X1_init {G : GT} (a : Nat) : Ct G yX1_init cX1_init 1 none 26 384 4 [.ref a] [(a, .inr (1, [.null, .null, .null, .null, .null, .int 0]))] (fun v w => v = none ∧ ∃ q1 : Nat, ∃ q2 : Nat, ∃ q3 : Nat, ∃ q4 : Nat, ∃ q5 : Nat, ∃ q6 : Nat, ∃ q7 : Nat, ∃ q8 : Nat, ∃ q9 : Nat, ∃ q10 : Nat, ∃ q11 : Nat, ∃ q12 : Nat, ∃ q13 : Nat, ∃ q14 : Nat, ∃ q15 : Nat, ∃ q16 : Nat, ∃ q17 : Nat, ∃ q18 : Nat, ∃ q19 : Nat, ∃ q20 : Nat, ∃ q21 : Nat, ∃ q22 : Nat, ∃ q23 : Nat, ∃ q24 : Nat, ∃ q25 : Nat, ∃ q26 : Nat, w = [(a, .inr (1, [.ref q1, .ref q16, .ref q22, .ref q25, .ref q26, .int (nI 0)])), (q1, .inr (4, [.ref q2, .ref q10])), (q2, .inr (2, [.ref q3, .int (nI 47), .int (nI 8), .int (nI 0), .int (nI 0), .int (-1), .ref q4, .ref q5, .ref q6, .ref q7, .ref q8, .ref q9])), (q3, .inl (gI G, 59, .inl (fun _ => 0))), (q4, .inl (gI G, 8, .inl (fun _ => 0))), (q5, .inl (gI G, 8, .inl (fun _ => 0))), (q6, .inl (gI G, 8, .inl (fun _ => 0))), (q7, .inl (gI G, 8, .inl (fun _ => 0))), (q8, .inl (gI G, 8, .inl (fun _ => 0))), (q9, .inl (gI G, 8, .inl (fun _ => 0))), (q10, .inr (3, [.ref q11, .int (nI 23), .int (nI 6), .int (nI 0), .int (nI 0), .int (-1), .ref q12, .ref q13, .ref q14, .ref q15])), (q11, .inl (gI G, 59, .inl (fun _ => 0))), (q12, .inl (gI G, 6, .inl (fun _ => 0))), (q13, .inl (gI G, 6, .inl (fun _ => 0))), (q14, .inl (gI G, 6, .inl (fun _ => 0))), (q15, .inl (gI G, 6, .inl (fun _ => 0))), (q16, .inr (0, [.ref q17, .int (nI 59), .int (nI 15), .int (nI 0), .int (nI 0), .int (-1), .ref q18, .ref q19, .ref q20, .ref q21])), (q17, .inl (gI G, 59, .inl (fun _ => 0))), (q18, .inl (gI G, 15, .inl (fun _ => 0))), (q19, .inl (gI G, 15, .inl (fun _ => 0))), (q20, .inl (gI G, 15, .inl (fun _ => 0))), (q21, .inl (gI G, 15, .inl (fun _ => 0))), (q22, .inr (6, [.ref q23, .ref q24, .int (nI 0)])), (q23, .inl (gI G, 12, .inl (fun _ => 0))), (q24, .inl (gI G, 12, .inl (fun _ => 0))), (q25, .inl (gI G, 8, .inl (fun _ => 0))), (q26, .inl (gI G, 6, .inl (fun _ => 0)))]) := by
  refine Ct.of rfl (Nat.le_of_ble_eq_true rfl) ?_
  show J G "<init>" RX1 cX1_init 1 none 26 384 4 _ 0 0 0 [(0, .ref a)] [] [(a, .inr (1, [.null, .null, .null, .null, .null, .int 0]))]
  refine J_aload_n dX1_init_0 rfl rfl ?_
  refine J_oinit wk_81 (by decide) (Nat.le_of_ble_eq_true rfl) dX1_init_1 ?_
  refine J_aload_n dX1_init_4 rfl rfl ?_
  refine J_new (C0 := RX4) (T := TX4) (N := 2) (ci := 4) tyX4 [.null, .null] rfl uwX4 tyX4_ok wk_82 wk_83 wk_53 (df_X4) (by decide) (by decide) dX1_init_5 (fun q1 => ?_)
  show J G "<init>" RX1 cX1_init 1 none 26 384 4 _ 1 2 8 [(0, .ref a)] [.ref q1, .ref a] [(a, .inr (1, [.null, .null, .null, .null, .null, .int 0])), (q1, .inr (4, [.null, .null]))]
  refine J_dup dX1_init_8 rfl ?_
  refine J_callIN mk_X1_11 (As := []) (st := [.ref q1, .ref a]) (wr := [(a, .inr (1, [.null, .null, .null, .null, .null, .int 0]))]) (c_X4_init q1) rfl rfl rfl (by decide) (Nat.le_of_ble_eq_true rfl) (by decide) dX1_init_9 (fun v w1 h => ?_)
  obtain ⟨rfl, q2, q3, q4, q5, q6, q7, q8, q9, q10, q11, q12, q13, q14, q15, rfl⟩ := h
  show J G "<init>" RX1 cX1_init 1 none 26 384 4 _ 15 214 12 [(0, .ref a)] [.ref q1, .ref a] [(a, .inr (1, [.null, .null, .null, .null, .null, .int 0])), (q1, .inr (4, [.ref q2, .ref q10])), (q2, .inr (2, [.ref q3, .int (nI 47), .int (nI 8), .int (nI 0), .int (nI 0), .int (-1), .ref q4, .ref q5, .ref q6, .ref q7, .ref q8, .ref q9])), (q3, .inl (gI G, 59, .inl (fun _ => 0))), (q4, .inl (gI G, 8, .inl (fun _ => 0))), (q5, .inl (gI G, 8, .inl (fun _ => 0))), (q6, .inl (gI G, 8, .inl (fun _ => 0))), (q7, .inl (gI G, 8, .inl (fun _ => 0))), (q8, .inl (gI G, 8, .inl (fun _ => 0))), (q9, .inl (gI G, 8, .inl (fun _ => 0))), (q10, .inr (3, [.ref q11, .int (nI 23), .int (nI 6), .int (nI 0), .int (nI 0), .int (-1), .ref q12, .ref q13, .ref q14, .ref q15])), (q11, .inl (gI G, 59, .inl (fun _ => 0))), (q12, .inl (gI G, 6, .inl (fun _ => 0))), (q13, .inl (gI G, 6, .inl (fun _ => 0))), (q14, .inl (gI G, 6, .inl (fun _ => 0))), (q15, .inl (gI G, 6, .inl (fun _ => 0)))]
  refine J_putF fr_X1_12_1 (fun q h => by rw [← Option.some.inj (show some (RX1, TX1, 6) = some q from h)]; rfl) rfl 0 [(a, .inr (1, [.ref q1, .null, .null, .null, .null, .int 0])), (q1, .inr (4, [.ref q2, .ref q10])), (q2, .inr (2, [.ref q3, .int (nI 47), .int (nI 8), .int (nI 0), .int (nI 0), .int (-1), .ref q4, .ref q5, .ref q6, .ref q7, .ref q8, .ref q9])), (q3, .inl (gI G, 59, .inl (fun _ => 0))), (q4, .inl (gI G, 8, .inl (fun _ => 0))), (q5, .inl (gI G, 8, .inl (fun _ => 0))), (q6, .inl (gI G, 8, .inl (fun _ => 0))), (q7, .inl (gI G, 8, .inl (fun _ => 0))), (q8, .inl (gI G, 8, .inl (fun _ => 0))), (q9, .inl (gI G, 8, .inl (fun _ => 0))), (q10, .inr (3, [.ref q11, .int (nI 23), .int (nI 6), .int (nI 0), .int (nI 0), .int (-1), .ref q12, .ref q13, .ref q14, .ref q15])), (q11, .inl (gI G, 59, .inl (fun _ => 0))), (q12, .inl (gI G, 6, .inl (fun _ => 0))), (q13, .inl (gI G, 6, .inl (fun _ => 0))), (q14, .inl (gI G, 6, .inl (fun _ => 0))), (q15, .inl (gI G, 6, .inl (fun _ => 0)))] rfl rfl rfl (by show 0 < 6; decide) rfl dX1_init_12 ?_
  refine J_aload_n dX1_init_15 rfl rfl ?_
  refine J_new (C0 := RX0) (T := TX0) (N := 10) (ci := 0) tyX0 [.null, .int 0, .int 0, .int 0, .int 0, .int 0, .null, .null, .null, .null] rfl uwX0 tyX0_ok wk_210 wk_211 wk_57 (df_X0) (by decide) (by decide) dX1_init_16 (fun q16 => ?_)
  show J G "<init>" RX1 cX1_init 1 none 26 384 4 _ 16 224 19 [(0, .ref a)] [.ref q16, .ref a] [(a, .inr (1, [.ref q1, .null, .null, .null, .null, .int 0])), (q1, .inr (4, [.ref q2, .ref q10])), (q2, .inr (2, [.ref q3, .int (nI 47), .int (nI 8), .int (nI 0), .int (nI 0), .int (-1), .ref q4, .ref q5, .ref q6, .ref q7, .ref q8, .ref q9])), (q3, .inl (gI G, 59, .inl (fun _ => 0))), (q4, .inl (gI G, 8, .inl (fun _ => 0))), (q5, .inl (gI G, 8, .inl (fun _ => 0))), (q6, .inl (gI G, 8, .inl (fun _ => 0))), (q7, .inl (gI G, 8, .inl (fun _ => 0))), (q8, .inl (gI G, 8, .inl (fun _ => 0))), (q9, .inl (gI G, 8, .inl (fun _ => 0))), (q10, .inr (3, [.ref q11, .int (nI 23), .int (nI 6), .int (nI 0), .int (nI 0), .int (-1), .ref q12, .ref q13, .ref q14, .ref q15])), (q11, .inl (gI G, 59, .inl (fun _ => 0))), (q12, .inl (gI G, 6, .inl (fun _ => 0))), (q13, .inl (gI G, 6, .inl (fun _ => 0))), (q14, .inl (gI G, 6, .inl (fun _ => 0))), (q15, .inl (gI G, 6, .inl (fun _ => 0))), (q16, .inr (0, [.null, .int 0, .int 0, .int 0, .int 0, .int 0, .null, .null, .null, .null]))]
  refine J_dup dX1_init_19 rfl ?_
  refine J_callI mi_X1_20 (As := []) (st := [.ref q16, .ref a]) (wr := [(a, .inr (1, [.ref q1, .null, .null, .null, .null, .int 0])), (q1, .inr (4, [.ref q2, .ref q10])), (q2, .inr (2, [.ref q3, .int (nI 47), .int (nI 8), .int (nI 0), .int (nI 0), .int (-1), .ref q4, .ref q5, .ref q6, .ref q7, .ref q8, .ref q9])), (q3, .inl (gI G, 59, .inl (fun _ => 0))), (q4, .inl (gI G, 8, .inl (fun _ => 0))), (q5, .inl (gI G, 8, .inl (fun _ => 0))), (q6, .inl (gI G, 8, .inl (fun _ => 0))), (q7, .inl (gI G, 8, .inl (fun _ => 0))), (q8, .inl (gI G, 8, .inl (fun _ => 0))), (q9, .inl (gI G, 8, .inl (fun _ => 0))), (q10, .inr (3, [.ref q11, .int (nI 23), .int (nI 6), .int (nI 0), .int (nI 0), .int (-1), .ref q12, .ref q13, .ref q14, .ref q15])), (q11, .inl (gI G, 59, .inl (fun _ => 0))), (q12, .inl (gI G, 6, .inl (fun _ => 0))), (q13, .inl (gI G, 6, .inl (fun _ => 0))), (q14, .inl (gI G, 6, .inl (fun _ => 0))), (q15, .inl (gI G, 6, .inl (fun _ => 0)))]) (c_X0_init q16) rfl rfl rfl (by decide) (Nat.le_of_ble_eq_true rfl) (by decide) dX1_init_20 (fun v w1 h => ?_)
  obtain ⟨rfl, q17, q18, q19, q20, q21, rfl⟩ := h
  show J G "<init>" RX1 cX1_init 1 none 26 384 4 _ 21 343 23 [(0, .ref a)] [.ref q16, .ref a] [(a, .inr (1, [.ref q1, .null, .null, .null, .null, .int 0])), (q1, .inr (4, [.ref q2, .ref q10])), (q2, .inr (2, [.ref q3, .int (nI 47), .int (nI 8), .int (nI 0), .int (nI 0), .int (-1), .ref q4, .ref q5, .ref q6, .ref q7, .ref q8, .ref q9])), (q3, .inl (gI G, 59, .inl (fun _ => 0))), (q4, .inl (gI G, 8, .inl (fun _ => 0))), (q5, .inl (gI G, 8, .inl (fun _ => 0))), (q6, .inl (gI G, 8, .inl (fun _ => 0))), (q7, .inl (gI G, 8, .inl (fun _ => 0))), (q8, .inl (gI G, 8, .inl (fun _ => 0))), (q9, .inl (gI G, 8, .inl (fun _ => 0))), (q10, .inr (3, [.ref q11, .int (nI 23), .int (nI 6), .int (nI 0), .int (nI 0), .int (-1), .ref q12, .ref q13, .ref q14, .ref q15])), (q11, .inl (gI G, 59, .inl (fun _ => 0))), (q12, .inl (gI G, 6, .inl (fun _ => 0))), (q13, .inl (gI G, 6, .inl (fun _ => 0))), (q14, .inl (gI G, 6, .inl (fun _ => 0))), (q15, .inl (gI G, 6, .inl (fun _ => 0))), (q16, .inr (0, [.ref q17, .int (nI 59), .int (nI 15), .int (nI 0), .int (nI 0), .int (-1), .ref q18, .ref q19, .ref q20, .ref q21])), (q17, .inl (gI G, 59, .inl (fun _ => 0))), (q18, .inl (gI G, 15, .inl (fun _ => 0))), (q19, .inl (gI G, 15, .inl (fun _ => 0))), (q20, .inl (gI G, 15, .inl (fun _ => 0))), (q21, .inl (gI G, 15, .inl (fun _ => 0)))]
  refine J_putF fr_X1_21_1 (fun q h => by rw [← Option.some.inj (show some (RX1, TX1, 6) = some q from h)]; rfl) rfl 0 [(a, .inr (1, [.ref q1, .ref q16, .null, .null, .null, .int 0])), (q1, .inr (4, [.ref q2, .ref q10])), (q2, .inr (2, [.ref q3, .int (nI 47), .int (nI 8), .int (nI 0), .int (nI 0), .int (-1), .ref q4, .ref q5, .ref q6, .ref q7, .ref q8, .ref q9])), (q3, .inl (gI G, 59, .inl (fun _ => 0))), (q4, .inl (gI G, 8, .inl (fun _ => 0))), (q5, .inl (gI G, 8, .inl (fun _ => 0))), (q6, .inl (gI G, 8, .inl (fun _ => 0))), (q7, .inl (gI G, 8, .inl (fun _ => 0))), (q8, .inl (gI G, 8, .inl (fun _ => 0))), (q9, .inl (gI G, 8, .inl (fun _ => 0))), (q10, .inr (3, [.ref q11, .int (nI 23), .int (nI 6), .int (nI 0), .int (nI 0), .int (-1), .ref q12, .ref q13, .ref q14, .ref q15])), (q11, .inl (gI G, 59, .inl (fun _ => 0))), (q12, .inl (gI G, 6, .inl (fun _ => 0))), (q13, .inl (gI G, 6, .inl (fun _ => 0))), (q14, .inl (gI G, 6, .inl (fun _ => 0))), (q15, .inl (gI G, 6, .inl (fun _ => 0))), (q16, .inr (0, [.ref q17, .int (nI 59), .int (nI 15), .int (nI 0), .int (nI 0), .int (-1), .ref q18, .ref q19, .ref q20, .ref q21])), (q17, .inl (gI G, 59, .inl (fun _ => 0))), (q18, .inl (gI G, 15, .inl (fun _ => 0))), (q19, .inl (gI G, 15, .inl (fun _ => 0))), (q20, .inl (gI G, 15, .inl (fun _ => 0))), (q21, .inl (gI G, 15, .inl (fun _ => 0)))] rfl rfl rfl (by show 1 < 6; decide) rfl dX1_init_23 ?_
  refine J_aload_n dX1_init_26 rfl rfl ?_
  refine J_new (C0 := RX7) (T := TX7) (N := 3) (ci := 6) tyX7 [.null, .null, .int 0] rfl uwX7 tyX7_ok wk_243 wk_244 wk_58 (df_X7) (by decide) (by decide) dX1_init_27 (fun q22 => ?_)
  show J G "<init>" RX1 cX1_init 1 none 26 384 4 _ 22 346 30 [(0, .ref a)] [.ref q22, .ref a] [(a, .inr (1, [.ref q1, .ref q16, .null, .null, .null, .int 0])), (q1, .inr (4, [.ref q2, .ref q10])), (q2, .inr (2, [.ref q3, .int (nI 47), .int (nI 8), .int (nI 0), .int (nI 0), .int (-1), .ref q4, .ref q5, .ref q6, .ref q7, .ref q8, .ref q9])), (q3, .inl (gI G, 59, .inl (fun _ => 0))), (q4, .inl (gI G, 8, .inl (fun _ => 0))), (q5, .inl (gI G, 8, .inl (fun _ => 0))), (q6, .inl (gI G, 8, .inl (fun _ => 0))), (q7, .inl (gI G, 8, .inl (fun _ => 0))), (q8, .inl (gI G, 8, .inl (fun _ => 0))), (q9, .inl (gI G, 8, .inl (fun _ => 0))), (q10, .inr (3, [.ref q11, .int (nI 23), .int (nI 6), .int (nI 0), .int (nI 0), .int (-1), .ref q12, .ref q13, .ref q14, .ref q15])), (q11, .inl (gI G, 59, .inl (fun _ => 0))), (q12, .inl (gI G, 6, .inl (fun _ => 0))), (q13, .inl (gI G, 6, .inl (fun _ => 0))), (q14, .inl (gI G, 6, .inl (fun _ => 0))), (q15, .inl (gI G, 6, .inl (fun _ => 0))), (q16, .inr (0, [.ref q17, .int (nI 59), .int (nI 15), .int (nI 0), .int (nI 0), .int (-1), .ref q18, .ref q19, .ref q20, .ref q21])), (q17, .inl (gI G, 59, .inl (fun _ => 0))), (q18, .inl (gI G, 15, .inl (fun _ => 0))), (q19, .inl (gI G, 15, .inl (fun _ => 0))), (q20, .inl (gI G, 15, .inl (fun _ => 0))), (q21, .inl (gI G, 15, .inl (fun _ => 0))), (q22, .inr (6, [.null, .null, .int 0]))]
  refine J_dup dX1_init_30 rfl ?_
  refine J_callIN mk_X1_27 (As := []) (st := [.ref q22, .ref a]) (wr := [(a, .inr (1, [.ref q1, .ref q16, .null, .null, .null, .int 0])), (q1, .inr (4, [.ref q2, .ref q10])), (q2, .inr (2, [.ref q3, .int (nI 47), .int (nI 8), .int (nI 0), .int (nI 0), .int (-1), .ref q4, .ref q5, .ref q6, .ref q7, .ref q8, .ref q9])), (q3, .inl (gI G, 59, .inl (fun _ => 0))), (q4, .inl (gI G, 8, .inl (fun _ => 0))), (q5, .inl (gI G, 8, .inl (fun _ => 0))), (q6, .inl (gI G, 8, .inl (fun _ => 0))), (q7, .inl (gI G, 8, .inl (fun _ => 0))), (q8, .inl (gI G, 8, .inl (fun _ => 0))), (q9, .inl (gI G, 8, .inl (fun _ => 0))), (q10, .inr (3, [.ref q11, .int (nI 23), .int (nI 6), .int (nI 0), .int (nI 0), .int (-1), .ref q12, .ref q13, .ref q14, .ref q15])), (q11, .inl (gI G, 59, .inl (fun _ => 0))), (q12, .inl (gI G, 6, .inl (fun _ => 0))), (q13, .inl (gI G, 6, .inl (fun _ => 0))), (q14, .inl (gI G, 6, .inl (fun _ => 0))), (q15, .inl (gI G, 6, .inl (fun _ => 0))), (q16, .inr (0, [.ref q17, .int (nI 59), .int (nI 15), .int (nI 0), .int (nI 0), .int (-1), .ref q18, .ref q19, .ref q20, .ref q21])), (q17, .inl (gI G, 59, .inl (fun _ => 0))), (q18, .inl (gI G, 15, .inl (fun _ => 0))), (q19, .inl (gI G, 15, .inl (fun _ => 0))), (q20, .inl (gI G, 15, .inl (fun _ => 0))), (q21, .inl (gI G, 15, .inl (fun _ => 0)))]) (c_X7_init q22) rfl rfl rfl (by decide) (Nat.le_of_ble_eq_true rfl) (by decide) dX1_init_31 (fun v w1 h => ?_)
  obtain ⟨rfl, q23, q24, rfl⟩ := h
  show J G "<init>" RX1 cX1_init 1 none 26 384 4 _ 24 370 34 [(0, .ref a)] [.ref q22, .ref a] [(a, .inr (1, [.ref q1, .ref q16, .null, .null, .null, .int 0])), (q1, .inr (4, [.ref q2, .ref q10])), (q2, .inr (2, [.ref q3, .int (nI 47), .int (nI 8), .int (nI 0), .int (nI 0), .int (-1), .ref q4, .ref q5, .ref q6, .ref q7, .ref q8, .ref q9])), (q3, .inl (gI G, 59, .inl (fun _ => 0))), (q4, .inl (gI G, 8, .inl (fun _ => 0))), (q5, .inl (gI G, 8, .inl (fun _ => 0))), (q6, .inl (gI G, 8, .inl (fun _ => 0))), (q7, .inl (gI G, 8, .inl (fun _ => 0))), (q8, .inl (gI G, 8, .inl (fun _ => 0))), (q9, .inl (gI G, 8, .inl (fun _ => 0))), (q10, .inr (3, [.ref q11, .int (nI 23), .int (nI 6), .int (nI 0), .int (nI 0), .int (-1), .ref q12, .ref q13, .ref q14, .ref q15])), (q11, .inl (gI G, 59, .inl (fun _ => 0))), (q12, .inl (gI G, 6, .inl (fun _ => 0))), (q13, .inl (gI G, 6, .inl (fun _ => 0))), (q14, .inl (gI G, 6, .inl (fun _ => 0))), (q15, .inl (gI G, 6, .inl (fun _ => 0))), (q16, .inr (0, [.ref q17, .int (nI 59), .int (nI 15), .int (nI 0), .int (nI 0), .int (-1), .ref q18, .ref q19, .ref q20, .ref q21])), (q17, .inl (gI G, 59, .inl (fun _ => 0))), (q18, .inl (gI G, 15, .inl (fun _ => 0))), (q19, .inl (gI G, 15, .inl (fun _ => 0))), (q20, .inl (gI G, 15, .inl (fun _ => 0))), (q21, .inl (gI G, 15, .inl (fun _ => 0))), (q22, .inr (6, [.ref q23, .ref q24, .int (nI 0)])), (q23, .inl (gI G, 12, .inl (fun _ => 0))), (q24, .inl (gI G, 12, .inl (fun _ => 0)))]
  refine J_putF fr_X1_28_1 (fun q h => by rw [← Option.some.inj (show some (RX1, TX1, 6) = some q from h)]; rfl) rfl 0 [(a, .inr (1, [.ref q1, .ref q16, .ref q22, .null, .null, .int 0])), (q1, .inr (4, [.ref q2, .ref q10])), (q2, .inr (2, [.ref q3, .int (nI 47), .int (nI 8), .int (nI 0), .int (nI 0), .int (-1), .ref q4, .ref q5, .ref q6, .ref q7, .ref q8, .ref q9])), (q3, .inl (gI G, 59, .inl (fun _ => 0))), (q4, .inl (gI G, 8, .inl (fun _ => 0))), (q5, .inl (gI G, 8, .inl (fun _ => 0))), (q6, .inl (gI G, 8, .inl (fun _ => 0))), (q7, .inl (gI G, 8, .inl (fun _ => 0))), (q8, .inl (gI G, 8, .inl (fun _ => 0))), (q9, .inl (gI G, 8, .inl (fun _ => 0))), (q10, .inr (3, [.ref q11, .int (nI 23), .int (nI 6), .int (nI 0), .int (nI 0), .int (-1), .ref q12, .ref q13, .ref q14, .ref q15])), (q11, .inl (gI G, 59, .inl (fun _ => 0))), (q12, .inl (gI G, 6, .inl (fun _ => 0))), (q13, .inl (gI G, 6, .inl (fun _ => 0))), (q14, .inl (gI G, 6, .inl (fun _ => 0))), (q15, .inl (gI G, 6, .inl (fun _ => 0))), (q16, .inr (0, [.ref q17, .int (nI 59), .int (nI 15), .int (nI 0), .int (nI 0), .int (-1), .ref q18, .ref q19, .ref q20, .ref q21])), (q17, .inl (gI G, 59, .inl (fun _ => 0))), (q18, .inl (gI G, 15, .inl (fun _ => 0))), (q19, .inl (gI G, 15, .inl (fun _ => 0))), (q20, .inl (gI G, 15, .inl (fun _ => 0))), (q21, .inl (gI G, 15, .inl (fun _ => 0))), (q22, .inr (6, [.ref q23, .ref q24, .int (nI 0)])), (q23, .inl (gI G, 12, .inl (fun _ => 0))), (q24, .inl (gI G, 12, .inl (fun _ => 0)))] rfl rfl rfl (by show 2 < 6; decide) rfl dX1_init_34 ?_
  refine J_aload_n dX1_init_37 rfl rfl ?_
  refine J_bipush (v := (nI 8)) dX1_init_38 (by decide) ?_
  refine J_newaI (N := 8) w_arrI (by decide) (by decide) (by decide) (by decide) (by decide) dX1_init_40 (fun q25 => ?_)
  show J G "<init>" RX1 cX1_init 1 none 26 384 4 _ 25 378 42 [(0, .ref a)] [.ref q25, .ref a] [(a, .inr (1, [.ref q1, .ref q16, .ref q22, .null, .null, .int 0])), (q1, .inr (4, [.ref q2, .ref q10])), (q2, .inr (2, [.ref q3, .int (nI 47), .int (nI 8), .int (nI 0), .int (nI 0), .int (-1), .ref q4, .ref q5, .ref q6, .ref q7, .ref q8, .ref q9])), (q3, .inl (gI G, 59, .inl (fun _ => 0))), (q4, .inl (gI G, 8, .inl (fun _ => 0))), (q5, .inl (gI G, 8, .inl (fun _ => 0))), (q6, .inl (gI G, 8, .inl (fun _ => 0))), (q7, .inl (gI G, 8, .inl (fun _ => 0))), (q8, .inl (gI G, 8, .inl (fun _ => 0))), (q9, .inl (gI G, 8, .inl (fun _ => 0))), (q10, .inr (3, [.ref q11, .int (nI 23), .int (nI 6), .int (nI 0), .int (nI 0), .int (-1), .ref q12, .ref q13, .ref q14, .ref q15])), (q11, .inl (gI G, 59, .inl (fun _ => 0))), (q12, .inl (gI G, 6, .inl (fun _ => 0))), (q13, .inl (gI G, 6, .inl (fun _ => 0))), (q14, .inl (gI G, 6, .inl (fun _ => 0))), (q15, .inl (gI G, 6, .inl (fun _ => 0))), (q16, .inr (0, [.ref q17, .int (nI 59), .int (nI 15), .int (nI 0), .int (nI 0), .int (-1), .ref q18, .ref q19, .ref q20, .ref q21])), (q17, .inl (gI G, 59, .inl (fun _ => 0))), (q18, .inl (gI G, 15, .inl (fun _ => 0))), (q19, .inl (gI G, 15, .inl (fun _ => 0))), (q20, .inl (gI G, 15, .inl (fun _ => 0))), (q21, .inl (gI G, 15, .inl (fun _ => 0))), (q22, .inr (6, [.ref q23, .ref q24, .int (nI 0)])), (q23, .inl (gI G, 12, .inl (fun _ => 0))), (q24, .inl (gI G, 12, .inl (fun _ => 0))), (q25, .inl (gI G, 8, .inl (fun _ => 0)))]
  refine J_putF fr_X1_32_1 (fun q h => by rw [← Option.some.inj (show some (RX1, TX1, 6) = some q from h)]; rfl) rfl 0 [(a, .inr (1, [.ref q1, .ref q16, .ref q22, .ref q25, .null, .int 0])), (q1, .inr (4, [.ref q2, .ref q10])), (q2, .inr (2, [.ref q3, .int (nI 47), .int (nI 8), .int (nI 0), .int (nI 0), .int (-1), .ref q4, .ref q5, .ref q6, .ref q7, .ref q8, .ref q9])), (q3, .inl (gI G, 59, .inl (fun _ => 0))), (q4, .inl (gI G, 8, .inl (fun _ => 0))), (q5, .inl (gI G, 8, .inl (fun _ => 0))), (q6, .inl (gI G, 8, .inl (fun _ => 0))), (q7, .inl (gI G, 8, .inl (fun _ => 0))), (q8, .inl (gI G, 8, .inl (fun _ => 0))), (q9, .inl (gI G, 8, .inl (fun _ => 0))), (q10, .inr (3, [.ref q11, .int (nI 23), .int (nI 6), .int (nI 0), .int (nI 0), .int (-1), .ref q12, .ref q13, .ref q14, .ref q15])), (q11, .inl (gI G, 59, .inl (fun _ => 0))), (q12, .inl (gI G, 6, .inl (fun _ => 0))), (q13, .inl (gI G, 6, .inl (fun _ => 0))), (q14, .inl (gI G, 6, .inl (fun _ => 0))), (q15, .inl (gI G, 6, .inl (fun _ => 0))), (q16, .inr (0, [.ref q17, .int (nI 59), .int (nI 15), .int (nI 0), .int (nI 0), .int (-1), .ref q18, .ref q19, .ref q20, .ref q21])), (q17, .inl (gI G, 59, .inl (fun _ => 0))), (q18, .inl (gI G, 15, .inl (fun _ => 0))), (q19, .inl (gI G, 15, .inl (fun _ => 0))), (q20, .inl (gI G, 15, .inl (fun _ => 0))), (q21, .inl (gI G, 15, .inl (fun _ => 0))), (q22, .inr (6, [.ref q23, .ref q24, .int (nI 0)])), (q23, .inl (gI G, 12, .inl (fun _ => 0))), (q24, .inl (gI G, 12, .inl (fun _ => 0))), (q25, .inl (gI G, 8, .inl (fun _ => 0)))] rfl rfl rfl (by show 3 < 6; decide) rfl dX1_init_42 ?_
  refine J_aload_n dX1_init_45 rfl rfl ?_
  refine J_bipush (v := (nI 6)) dX1_init_46 (by decide) ?_
  refine J_newaI (N := 6) w_arrI (by decide) (by decide) (by decide) (by decide) (by decide) dX1_init_48 (fun q26 => ?_)
  show J G "<init>" RX1 cX1_init 1 none 26 384 4 _ 26 384 50 [(0, .ref a)] [.ref q26, .ref a] [(a, .inr (1, [.ref q1, .ref q16, .ref q22, .ref q25, .null, .int 0])), (q1, .inr (4, [.ref q2, .ref q10])), (q2, .inr (2, [.ref q3, .int (nI 47), .int (nI 8), .int (nI 0), .int (nI 0), .int (-1), .ref q4, .ref q5, .ref q6, .ref q7, .ref q8, .ref q9])), (q3, .inl (gI G, 59, .inl (fun _ => 0))), (q4, .inl (gI G, 8, .inl (fun _ => 0))), (q5, .inl (gI G, 8, .inl (fun _ => 0))), (q6, .inl (gI G, 8, .inl (fun _ => 0))), (q7, .inl (gI G, 8, .inl (fun _ => 0))), (q8, .inl (gI G, 8, .inl (fun _ => 0))), (q9, .inl (gI G, 8, .inl (fun _ => 0))), (q10, .inr (3, [.ref q11, .int (nI 23), .int (nI 6), .int (nI 0), .int (nI 0), .int (-1), .ref q12, .ref q13, .ref q14, .ref q15])), (q11, .inl (gI G, 59, .inl (fun _ => 0))), (q12, .inl (gI G, 6, .inl (fun _ => 0))), (q13, .inl (gI G, 6, .inl (fun _ => 0))), (q14, .inl (gI G, 6, .inl (fun _ => 0))), (q15, .inl (gI G, 6, .inl (fun _ => 0))), (q16, .inr (0, [.ref q17, .int (nI 59), .int (nI 15), .int (nI 0), .int (nI 0), .int (-1), .ref q18, .ref q19, .ref q20, .ref q21])), (q17, .inl (gI G, 59, .inl (fun _ => 0))), (q18, .inl (gI G, 15, .inl (fun _ => 0))), (q19, .inl (gI G, 15, .inl (fun _ => 0))), (q20, .inl (gI G, 15, .inl (fun _ => 0))), (q21, .inl (gI G, 15, .inl (fun _ => 0))), (q22, .inr (6, [.ref q23, .ref q24, .int (nI 0)])), (q23, .inl (gI G, 12, .inl (fun _ => 0))), (q24, .inl (gI G, 12, .inl (fun _ => 0))), (q25, .inl (gI G, 8, .inl (fun _ => 0))), (q26, .inl (gI G, 6, .inl (fun _ => 0)))]
  refine J_putF fr_X1_36_1 (fun q h => by rw [← Option.some.inj (show some (RX1, TX1, 6) = some q from h)]; rfl) rfl 0 [(a, .inr (1, [.ref q1, .ref q16, .ref q22, .ref q25, .ref q26, .int 0])), (q1, .inr (4, [.ref q2, .ref q10])), (q2, .inr (2, [.ref q3, .int (nI 47), .int (nI 8), .int (nI 0), .int (nI 0), .int (-1), .ref q4, .ref q5, .ref q6, .ref q7, .ref q8, .ref q9])), (q3, .inl (gI G, 59, .inl (fun _ => 0))), (q4, .inl (gI G, 8, .inl (fun _ => 0))), (q5, .inl (gI G, 8, .inl (fun _ => 0))), (q6, .inl (gI G, 8, .inl (fun _ => 0))), (q7, .inl (gI G, 8, .inl (fun _ => 0))), (q8, .inl (gI G, 8, .inl (fun _ => 0))), (q9, .inl (gI G, 8, .inl (fun _ => 0))), (q10, .inr (3, [.ref q11, .int (nI 23), .int (nI 6), .int (nI 0), .int (nI 0), .int (-1), .ref q12, .ref q13, .ref q14, .ref q15])), (q11, .inl (gI G, 59, .inl (fun _ => 0))), (q12, .inl (gI G, 6, .inl (fun _ => 0))), (q13, .inl (gI G, 6, .inl (fun _ => 0))), (q14, .inl (gI G, 6, .inl (fun _ => 0))), (q15, .inl (gI G, 6, .inl (fun _ => 0))), (q16, .inr (0, [.ref q17, .int (nI 59), .int (nI 15), .int (nI 0), .int (nI 0), .int (-1), .ref q18, .ref q19, .ref q20, .ref q21])), (q17, .inl (gI G, 59, .inl (fun _ => 0))), (q18, .inl (gI G, 15, .inl (fun _ => 0))), (q19, .inl (gI G, 15, .inl (fun _ => 0))), (q20, .inl (gI G, 15, .inl (fun _ => 0))), (q21, .inl (gI G, 15, .inl (fun _ => 0))), (q22, .inr (6, [.ref q23, .ref q24, .int (nI 0)])), (q23, .inl (gI G, 12, .inl (fun _ => 0))), (q24, .inl (gI G, 12, .inl (fun _ => 0))), (q25, .inl (gI G, 8, .inl (fun _ => 0))), (q26, .inl (gI G, 6, .inl (fun _ => 0)))] rfl rfl rfl (by show 4 < 6; decide) rfl dX1_init_50 ?_
  refine J_aload_n dX1_init_53 rfl rfl ?_
  refine J_iconst (v := (nI 0)) dX1_init_54 (by decide) ?_
  refine J_put fr_X1_39_1 0 [(a, .inr (1, [.ref q1, .ref q16, .ref q22, .ref q25, .ref q26, .int (nI 0)])), (q1, .inr (4, [.ref q2, .ref q10])), (q2, .inr (2, [.ref q3, .int (nI 47), .int (nI 8), .int (nI 0), .int (nI 0), .int (-1), .ref q4, .ref q5, .ref q6, .ref q7, .ref q8, .ref q9])), (q3, .inl (gI G, 59, .inl (fun _ => 0))), (q4, .inl (gI G, 8, .inl (fun _ => 0))), (q5, .inl (gI G, 8, .inl (fun _ => 0))), (q6, .inl (gI G, 8, .inl (fun _ => 0))), (q7, .inl (gI G, 8, .inl (fun _ => 0))), (q8, .inl (gI G, 8, .inl (fun _ => 0))), (q9, .inl (gI G, 8, .inl (fun _ => 0))), (q10, .inr (3, [.ref q11, .int (nI 23), .int (nI 6), .int (nI 0), .int (nI 0), .int (-1), .ref q12, .ref q13, .ref q14, .ref q15])), (q11, .inl (gI G, 59, .inl (fun _ => 0))), (q12, .inl (gI G, 6, .inl (fun _ => 0))), (q13, .inl (gI G, 6, .inl (fun _ => 0))), (q14, .inl (gI G, 6, .inl (fun _ => 0))), (q15, .inl (gI G, 6, .inl (fun _ => 0))), (q16, .inr (0, [.ref q17, .int (nI 59), .int (nI 15), .int (nI 0), .int (nI 0), .int (-1), .ref q18, .ref q19, .ref q20, .ref q21])), (q17, .inl (gI G, 59, .inl (fun _ => 0))), (q18, .inl (gI G, 15, .inl (fun _ => 0))), (q19, .inl (gI G, 15, .inl (fun _ => 0))), (q20, .inl (gI G, 15, .inl (fun _ => 0))), (q21, .inl (gI G, 15, .inl (fun _ => 0))), (q22, .inr (6, [.ref q23, .ref q24, .int (nI 0)])), (q23, .inl (gI G, 12, .inl (fun _ => 0))), (q24, .inl (gI G, 12, .inl (fun _ => 0))), (q25, .inl (gI G, 8, .inl (fun _ => 0))), (q26, .inl (gI G, 6, .inl (fun _ => 0)))] rfl rfl rfl (by show 5 < 6; decide) rfl dX1_init_55 ?_
  exact J_vret dX1_init_58 rfl rfl rfl ⟨rfl, q1, q2, q3, q4, q5, q6, q7, q8, q9, q10, q11, q12, q13, q14, q15, q16, q17, q18, q19, q20, q21, q22, q23, q24, q25, q26, rfl⟩
