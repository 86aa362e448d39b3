theorem sel_sub {C : String} {x0 y : MethodName} {s : State} {args : Array Value} (h0 : (Cond.selects C x0 x0).before args s = true) (hxc : x0.cls = y.cls) (hy : y.cls ≠ "java/lang/invoke/MethodHandle" ∧ y.cls ≠ "java/lang/invoke/VarHandle") (hpriv : (Cond.privateMethod y).before args s = true) (hinst : (Cond.instanceMethod y).before args s = true) : (Cond.selects C y y).before args s = true := by
  obtain ⟨mk, methM, hnamed, hmethM, -, -⟩ := Cond.instanceMethod_spec hinst
  have hfound : s.methodFound? y.cls y.name y.desc = some mk := State.methodFound?_of_named hnamed hy
  simp only [Cond.before, Cond.holds, Cond.value] at h0 ⊢
  revert h0
  cases hc : s.vm.findClass C with
  | none => simp
  | some c =>
    cases hf : s.methodFound? x0.cls x0.name x0.desc with
    | none => simp
    | some r0 =>
      cases hn : s.methodNamed? x0 with
      | none => simp
      | some m0 =>
        intro h0
        have hsel : selectMethod {} s.vm c mk = .method mk := selectMethod_private hmethM (Cond.privateMethod_at hpriv mk methM hnamed hmethM)
        have hcls : mk.cls = m0.cls := by
          have h1 := findClass_of_methodNamed hnamed
          have h2 := findClass_of_methodNamed hn
          rw [hxc, h1] at h2
          exact Option.some.inj h2
        simp only [hfound, hnamed, hsel, hcls]
        cases hsm : selectMethod {} s.vm c r0 <;> simp_all
theorem mu_X5_35_2 : MU RX5 35 2 yX5_readRows yX5_readRows cX5_readRows 4 none 0 := ⟨RX2, RX5, _, _, rfl, TB_mem 416 (by decide +kernel) (by decide +kernel), TB_mem 413 (by decide +kernel) (by decide +kernel), TB_mem 1339 (by decide +kernel) (by decide +kernel), TB_xs 0 rfl (by decide +kernel), TB_mem 415 (by decide +kernel) (by decide +kernel), TB_mem 54 (by decide +kernel) (by decide +kernel), Or.inl rfl, by decide +kernel, by decide⟩
theorem mu_X5_35_3 : MU RX5 35 3 yX5_readRows yX5_readRows cX5_readRows 4 none 0 := ⟨RX3, RX5, _, _, rfl, TB_mem 416 (by decide +kernel) (by decide +kernel), TB_mem 413 (by decide +kernel) (by decide +kernel), TB_mem 1339 (by decide +kernel) (by decide +kernel), TB_xs 1 rfl (by decide +kernel), TB_mem 415 (by decide +kernel) (by decide +kernel), TB_mem 54 (by decide +kernel) (by decide +kernel), Or.inl rfl, by decide +kernel, by decide⟩
theorem mu_X5_35_0 : MU RX5 35 0 yX5_readRows yX5_readRows cX5_readRows 4 none 0 := ⟨RX0, RX5, _, _, rfl, TB_mem 416 (by decide +kernel) (by decide +kernel), TB_mem 413 (by decide +kernel) (by decide +kernel), TB_mem 1339 (by decide +kernel) (by decide +kernel), TB_xs 2 rfl (by decide +kernel), TB_mem 415 (by decide +kernel) (by decide +kernel), TB_mem 54 (by decide +kernel) (by decide +kernel), Or.inl rfl, by decide +kernel, by decide⟩
def RwH (B : Nat → Int32) (len : Nat) (y21 y22 y23 y24 y25 y26 : Nat → Int32) (j : Nat) : Prop := y21 j = fH B len j 0 ∧ y22 j = fH B len j 1 ∧ y23 j = fH B len j 2 ∧ y24 j = fH B len j 3 ∧ y25 j = fH B len j 4 ∧ y26 j = nI (hbs (fH B len j 0) (fH B len j 1))
def RwE (B : Nat → Int32) (len : Nat) (y28 y29 y30 y31 : Nat → Int32) (j : Nat) : Prop := y28 j = fE B len j 0 ∧ y29 j = fE B len j 1 ∧ y30 j = fE B len j 2 ∧ y31 j = nI (awb (fE B len j 1) (fE B len j 2))
def RwC (B : Nat → Int32) (len : Nat) (y33 y34 y35 y36 : Nat → Int32) (j : Nat) : Prop := y33 j = fC B len j 0 ∧ y34 j = fC B len j 1 ∧ y35 j = fC B len j 2 ∧ y36 j = fC B len j 3
theorem nI_nn {n : Nat} (h : n < 2 ^ 31) : 0 ≤ nI n := by
  rw [fa_le, nI_toInt h]
  have e : (0 : Int32).toInt = 0 := rfl
  omega
theorem nI_xn {n : Nat} (h : n < 100) : ¬ 0 ≤ nI n ^^^ (-1) := (show ∀ n, n < 100 → ¬ 0 ≤ nI n ^^^ (-1) by decide +kernel) n h
theorem nI_xx (x : Int32) : (x ^^^ (-1)) ^^^ (-1) = x := by rw [Int32.xor_assoc, Int32.xor_self, Int32.xor_zero]
theorem scT0_mx {B : Nat → Int32} {len f r p : Nat} (h : r = 8) : scT B 0 len (f + 1) r p = (0, nI p) := by
  show scn _ _ _ _ _ (f + 1) r p = _
  rw [scn, if_pos h]
theorem scT1_mx {B : Nat → Int32} {len f r p : Nat} (h : r = 6) : scT B 1 len (f + 1) r p = (0, nI p) := by
  show scn _ _ _ _ _ (f + 1) r p = _
  rw [scn, if_pos h]
theorem scT2_mx {B : Nat → Int32} {len f r p : Nat} (h : r = 15) : scT B 2 len (f + 1) r p = (0, nI p) := by
  show scn _ _ _ _ _ (f + 1) r p = _
  rw [scn, if_pos h]
theorem app_B {t len : Nat} {f B : Nat → Int32} {v : Int32} (hB : ∀ p, p < len → f p = B (60 * t + p)) : ∀ p, p < len + 1 → upd f len v p = upd B (60 * t + len) v (60 * t + p) := fun p hp => by
  by_cases e : p = len
  · rw [e, pk_us, pk_us]
  · rw [up_ne e, up_ne (by omega)]; exact hB p (by omega)
theorem crow_next0 {B : Nat → Int32} {len rr p : Nat} {y21 y22 y23 y24 y25 y26 : Nat → Int32} (hps : psT B 0 len rr = p) (h : ∀ j, j < rr → RwH B len y21 y22 y23 y24 y25 y26 j) : ∀ j, j < rr + 1 → RwH B len (upd y21 rr (tlH 0 (bA B 0 len p))) (upd y22 rr (tlH 1 (bA B 0 len (p + 1)))) (upd y23 rr (tlH 2 (bA B 0 len (p + 2)))) (upd y24 rr (tlH 3 (bA B 0 len (p + 3)))) (upd y25 rr (tlH 4 (bA B 0 len (p + 4)))) (upd y26 rr (nI (hbs (tlH 0 (bA B 0 len p)) (tlH 1 (bA B 0 len (p + 1)))))) j := fun j hj => by
  by_cases e : j = rr
  · subst e; subst hps
    exact ⟨pk_us, pk_us, pk_us, pk_us, pk_us, pk_us⟩
  · have h2 := h j (by omega)
    unfold RwH at h2 ⊢
    rw [up_ne e, up_ne e, up_ne e, up_ne e, up_ne e, up_ne e]
    exact h2
theorem crow_next1 {B : Nat → Int32} {len rr p : Nat} {y28 y29 y30 y31 : Nat → Int32} (hps : psT B 1 len rr = p) (h : ∀ j, j < rr → RwE B len y28 y29 y30 y31 j) : ∀ j, j < rr + 1 → RwE B len (upd y28 rr (tlE 0 (bA B 1 len p))) (upd y29 rr (tlE 1 (bA B 1 len (p + 1)))) (upd y30 rr (tlE 2 (bA B 1 len (p + 2)))) (upd y31 rr (nI (awb (tlE 1 (bA B 1 len (p + 1))) (tlE 2 (bA B 1 len (p + 2)))))) j := fun j hj => by
  by_cases e : j = rr
  · subst e; subst hps
    exact ⟨pk_us, pk_us, pk_us, pk_us⟩
  · have h2 := h j (by omega)
    unfold RwE at h2 ⊢
    rw [up_ne e, up_ne e, up_ne e, up_ne e]
    exact h2
theorem crow_next2 {B : Nat → Int32} {len rr p : Nat} {y33 y34 y35 y36 : Nat → Int32} (hps : psT B 2 len rr = p) (h : ∀ j, j < rr → RwC B len y33 y34 y35 y36 j) : ∀ j, j < rr + 1 → RwC B len (upd y33 rr (tlC 0 (bA B 2 len p))) (upd y34 rr (tlC 1 (bA B 2 len (p + 1)))) (upd y35 rr (tlC 2 (bA B 2 len (p + 2)))) (upd y36 rr ((if (bA B 2 len (p + 3)) = nI 63 then tlC 3 (bA B 2 len (p + 4)) else -1))) j := fun j hj => by
  by_cases e : j = rr
  · subst e; subst hps
    exact ⟨pk_us, pk_us, pk_us, pk_us⟩
  · have h2 := h j (by omega)
    unfold RwC at h2 ⊢
    rw [up_ne e, up_ne e, up_ne e, up_ne e]
    exact h2

set_option maxRecDepth 100000 in
set_option maxHeartbeats 1000000 in
theorem j_X5_readRows0 {G : GT} (r : Nat → Nat) (s : St) (l : Nat → Int64) (B : Nat → Int32) (len : Nat) (hlen : s 51 0 = nI len) (hlc : len ≤ 47) (hB : ∀ p, p < len → s 20 p = B (60 * 0 + p)) {Q : Option Value → va_W → Prop} (hq : ∀ (w_ : va_W) (y21 y22 y23 y24 y25 y26 : Nat → Int32), w_ = cW G r (su 53 (su 52 (su 26 (su 25 (su 24 (su 23 (su 22 (su 21 s y21) y22) y23) y24) y25) y26) (fun _ => nI (rdT B 0 len).1)) (fun _ => (rdT B 0 len).2)) l → (∀ j, j < (rdT B 0 len).1 → RwH B len y21 y22 y23 y24 y25 y26 j) → Q none w_) : J G "readRows" RX5 cX5_readRows 4 none 0 0 4 Q 0 0 0 [(0, .ref (r 3))] [] (cW G r s l) := by
  have hl59 : len ≤ 59 := (by omega)
  refine J_aload_n dX5_readRows_0 rfl rfl ?_
  refine J_iconst (v := nI 0) dX5_readRows_1 (by decide) ?_
  refine Cp_3_4 fr_X5_19_2 dX5_readRows_2 ?_
  refine J_aload_n dX5_readRows_5 rfl rfl ?_
  refine J_iconst (v := -1) dX5_readRows_6 (by decide) ?_
  refine Cp_3_5 fr_X5_22_2 dX5_readRows_7 ?_
  refine J_aload_n dX5_readRows_10 rfl rfl ?_
  refine Cg_3_3 (s := (su 53 (su 52 s (fun _ => nI 0)) (fun _ => (-1)))) fr_X5_15_2 (s 51 0) rfl dX5_readRows_11 ?_
  refine J_rw (y := nI len) hlen ?_
  refine J_if_neN 18 (by omega) dX5_readRows_14 (by decide) (fun kcz1 => ?_) (fun kcz1 => ?_)
  · have hz := kcz1
    refine J_iconst (v := nI 0) dX5_readRows_18 (by decide) ?_
    refine J_istore_n [(0, .ref (r 3)), (1, .int (nI 0))] dX5_readRows_19 rfl (by decide) rfl rfl rfl ?_
    refine J_iconst (v := nI 0) dX5_readRows_20 (by decide) ?_
    refine J_istore_n [(0, .ref (r 3)), (1, .int (nI 0)), (2, .int (nI 0))] dX5_readRows_21 rfl (by decide) rfl rfl rfl ?_
    have L22 : ∀ (f rr p : Nat) (y21 y22 y23 y24 y25 y26 : Nat → Int32), rr + f = 60 → 6 * rr ≤ p → p ≤ len → scT B 0 len f rr p = rdT B 0 len → psT B 0 len rr = p → (∀ j, j < rr → RwH B len y21 y22 y23 y24 y25 y26 j) → ∀ (x1 : Int32) (x2 : Int32), x1 = nI p → x2 = nI rr → J G "readRows" RX5 cX5_readRows 4 none 0 0 4 Q 0 0 22 [(0, .ref (r 3)), (1, .int x1), (2, .int x2)] [] (cW G r (su 53 (su 52 (su 26 (su 25 (su 24 (su 23 (su 22 (su 21 s y21) y22) y23) y24) y25) y26) (fun _ => nI 0)) (fun _ => (-1))) l) := by
      intro f
      induction f with
      | zero => intro rr p y21 y22 y23 y24 y25 y26 hrf hrp hpl; exact absurd hrf (by omega)
      | succ f ih22 =>
        intro rr p y21 y22 y23 y24 y25 y26 hrf hrp hpl hsc hps hyy x1 x2 e1 e2
        subst e1
        subst e2
        refine J_iload_n dX5_readRows_22 rfl rfl ?_
        refine J_aload_n dX5_readRows_23 rfl rfl ?_
        refine Cg_3_2 fr_X5_28_2 dX5_readRows_24 ?_
        refine J_icmp_geN 91 (by omega) (by omega) dX5_readRows_27 (by decide) (fun kcz2 => ?_) (fun kcz2 => ?_)
        · refine J_aload_n dX5_readRows_91 rfl rfl ?_
          refine J_iload_n dX5_readRows_92 rfl rfl ?_
          refine Cp_3_5 fr_X5_22_2 dX5_readRows_93 ?_
          refine J_ws (ws2 := (cW G r (su 53 (su 52 (su 26 (su 25 (su 24 (su 23 (su 22 (su 21 s y21) y22) y23) y24) y25) y26) (fun _ => nI 0)) (fun _ => nI p)) l)) (congrArg (fun q_ => cW G r q_ l) su_tw) ?_
          exact J_vret dX5_readRows_96 rfl rfl rfl (by rw [← hsc, scT0_mx (by omega)] at hq; exact hq _ (y21) (y22) (y23) (y24) (y25) (y26) rfl (fun j hj => absurd hj (Nat.not_lt_zero _)))
        · have hmx : ¬ rr = 8 := (by omega)
          refine J_aload_n dX5_readRows_30 rfl rfl ?_
          refine J_iload_n dX5_readRows_31 rfl rfl ?_
          refine J_iload_n dX5_readRows_32 rfl rfl ?_
          by_cases ksz3 : rW0 B len p = true
          · have hel := rE0_le B len p
            have hW := ksz3
            refine J_cUi [.int (nI p), .int (nI rr)] 3 mu_X5_42_2 (c_X2_readRow_ok r (su 53 (su 52 (su 26 (su 25 (su 24 (su 23 (su 22 (su 21 s y21) y22) y23) y24) y25) y26) (fun _ => nI 0)) (fun _ => (-1))) l B len hlen hl59 hB p rr (by omega) (by omega) hW) cW_3 rfl rfl (by decide) (Nat.le_of_ble_eq_true rfl) ⟨Nat.le_refl _, Nat.le_refl _⟩ dX5_readRows_33 ?_
            show J G "readRows" RX5 cX5_readRows 4 none 0 0 4 Q 0 0 36 [(0, .ref (r 3)), (1, .int (nI p)), (2, .int (nI rr))] [.int (nI (rE0 B len p))] (cW G r (su 26 (su 25 (su 24 (su 23 (su 22 (su 21 (su 53 (su 52 (su 26 (su 25 (su 24 (su 23 (su 22 (su 21 s y21) y22) y23) y24) y25) y26) (fun _ => nI 0)) (fun _ => (-1))) (upd y21 rr (tlH 0 (bA B 0 len p)))) (upd y22 rr (tlH 1 (bA B 0 len (p + 1))))) (upd y23 rr (tlH 2 (bA B 0 len (p + 2))))) (upd y24 rr (tlH 3 (bA B 0 len (p + 3))))) (upd y25 rr (tlH 4 (bA B 0 len (p + 4))))) (upd y26 rr (nI (hbs (tlH 0 (bA B 0 len p)) (tlH 1 (bA B 0 len (p + 1))))))) l)
            refine J_ws (ws2 := (cW G r (su 53 (su 52 (su 26 (su 25 (su 24 (su 23 (su 22 (su 21 s (upd y21 rr (tlH 0 (bA B 0 len p)))) (upd y22 rr (tlH 1 (bA B 0 len (p + 1))))) (upd y23 rr (tlH 2 (bA B 0 len (p + 2))))) (upd y24 rr (tlH 3 (bA B 0 len (p + 3))))) (upd y25 rr (tlH 4 (bA B 0 len (p + 4))))) (upd y26 rr (nI (hbs (tlH 0 (bA B 0 len p)) (tlH 1 (bA B 0 len (p + 1))))))) (fun _ => nI 0)) (fun _ => (-1))) l)) (congrArg (fun q_ => cW G r q_ l) (Eq.trans (Eq.trans (Eq.trans (Eq.trans (Eq.trans (su_cg (su_cg (su_cg (su_cg (su_cg ((su_sw (by decide)).trans (su_cg ((su_sw (by decide)).trans (su_cg ((su_sw (by decide)).trans (su_cg ((su_sw (by decide)).trans (su_cg ((su_sw (by decide)).trans (su_cg ((su_sw (by decide)).trans (su_cg ((su_sw (by decide)).trans (su_cg su_tw))))))))))))))))))) (su_cg (su_cg (su_cg (su_cg ((su_sw (by decide)).trans (su_cg ((su_sw (by decide)).trans (su_cg ((su_sw (by decide)).trans (su_cg ((su_sw (by decide)).trans (su_cg ((su_sw (by decide)).trans (su_cg ((su_sw (by decide)).trans (su_cg su_tw))))))))))))))))) (su_cg (su_cg (su_cg ((su_sw (by decide)).trans (su_cg ((su_sw (by decide)).trans (su_cg ((su_sw (by decide)).trans (su_cg ((su_sw (by decide)).trans (su_cg ((su_sw (by decide)).trans (su_cg su_tw)))))))))))))) (su_cg (su_cg ((su_sw (by decide)).trans (su_cg ((su_sw (by decide)).trans (su_cg ((su_sw (by decide)).trans (su_cg ((su_sw (by decide)).trans (su_cg su_tw))))))))))) (su_cg ((su_sw (by decide)).trans (su_cg ((su_sw (by decide)).trans (su_cg ((su_sw (by decide)).trans (su_cg su_tw)))))))) ((su_sw (by decide)).trans (su_cg ((su_sw (by decide)).trans (su_cg su_tw)))))) ?_
            refine J_istore_n [(0, .ref (r 3)), (1, .int (nI p)), (2, .int (nI rr)), (3, .int (nI (rE0 B len p)))] dX5_readRows_36 rfl (by decide) rfl rfl rfl ?_
            refine J_iload_n dX5_readRows_37 rfl rfl ?_
            refine J_if_ge 49 dX5_readRows_38 (by decide) (fun _ => ?_) (fun c => absurd (nI_nn (by omega)) c)
            refine J_iload_n dX5_readRows_49 rfl rfl ?_
            refine J_aload_n dX5_readRows_50 rfl rfl ?_
            refine Cg_3_3 (s := (su 53 (su 52 (su 26 (su 25 (su 24 (su 23 (su 22 (su 21 s (upd y21 rr (tlH 0 (bA B 0 len p)))) (upd y22 rr (tlH 1 (bA B 0 len (p + 1))))) (upd y23 rr (tlH 2 (bA B 0 len (p + 2))))) (upd y24 rr (tlH 3 (bA B 0 len (p + 3))))) (upd y25 rr (tlH 4 (bA B 0 len (p + 4))))) (upd y26 rr (nI (hbs (tlH 0 (bA B 0 len p)) (tlH 1 (bA B 0 len (p + 1))))))) (fun _ => nI 0)) (fun _ => (-1)))) fr_X5_15_2 (s 51 0) rfl dX5_readRows_51 ?_
            refine J_rw (y := nI len) hlen ?_
            refine J_icmp_ltN 65 (by omega) (by omega) dX5_readRows_54 (by decide) (fun kcz4 => ?_) (fun kcz4 => ?_)
            · refine J_aload_n dX5_readRows_65 rfl rfl ?_
              refine J_iload_n dX5_readRows_66 rfl rfl ?_
              refine J_cUi [.int (nI (rE0 B len p))] 3 mu_X5_38_2 (c_X5_signAt0 r (su 53 (su 52 (su 26 (su 25 (su 24 (su 23 (su 22 (su 21 s (upd y21 rr (tlH 0 (bA B 0 len p)))) (upd y22 rr (tlH 1 (bA B 0 len (p + 1))))) (upd y23 rr (tlH 2 (bA B 0 len (p + 2))))) (upd y24 rr (tlH 3 (bA B 0 len (p + 3))))) (upd y25 rr (tlH 4 (bA B 0 len (p + 4))))) (upd y26 rr (nI (hbs (tlH 0 (bA B 0 len p)) (tlH 1 (bA B 0 len (p + 1))))))) (fun _ => nI 0)) (fun _ => (-1))) l B len hlen hl59 hB (rE0 B len p) (by omega)) cW_3 rfl rfl (by decide) (Nat.le_of_ble_eq_true rfl) ⟨Nat.le_refl _, Nat.le_refl _⟩ dX5_readRows_67 ?_
              refine J_bipush (v := nI 59) dX5_readRows_70 (by decide) ?_
              refine J_icmp_eq 81 dX5_readRows_72 (by decide) (fun kcz5 => ?_) (fun kcz5 => ?_)
              · refine J_iload_n dX5_readRows_81 rfl rfl ?_
                refine J_iconst (v := nI 1) dX5_readRows_82 (by decide) ?_
                refine J_iaddN dX5_readRows_83 ?_
                refine J_istore_n [(0, .ref (r 3)), (1, .int (nI (rE0 B len p + 1))), (2, .int (nI rr)), (3, .int (nI (rE0 B len p)))] dX5_readRows_84 rfl (by decide) rfl rfl rfl ?_
                refine J_iincN [(0, .ref (r 3)), (1, .int (nI (rE0 B len p + 1))), (2, .int (nI (rr + 1))), (3, .int (nI (rE0 B len p)))] dX5_readRows_85 rfl (by decide) rfl rfl rfl ?_
                refine J_goto 22 dX5_readRows_88 (by decide) ?_
                refine J_lv [0, 1, 2] rfl ?_
                exact ih22 (rr + 1) (rE0 B len p + 1) (upd y21 rr (tlH 0 (bA B 0 len p))) (upd y22 rr (tlH 1 (bA B 0 len (p + 1)))) (upd y23 rr (tlH 2 (bA B 0 len (p + 2)))) (upd y24 rr (tlH 3 (bA B 0 len (p + 3)))) (upd y25 rr (tlH 4 (bA B 0 len (p + 4)))) (upd y26 rr (nI (hbs (tlH 0 (bA B 0 len p)) (tlH 1 (bA B 0 len (p + 1)))))) (by omega) (by have := rE0_ge B len p hW; omega) (by omega) (by rw [← hsc, scT0_go hmx hW (Nat.not_le.mpr kcz4) kcz5]) (by rw [psT0_s, hps]) (crow_next0 hps hyy) _ _ rfl rfl
              · refine J_aload_n dX5_readRows_75 rfl rfl ?_
                refine J_iload_n dX5_readRows_76 rfl rfl ?_
                refine Cp_3_5 fr_X5_22_2 dX5_readRows_77 ?_
                refine J_ws (ws2 := (cW G r (su 53 (su 52 (su 26 (su 25 (su 24 (su 23 (su 22 (su 21 s (upd y21 rr (tlH 0 (bA B 0 len p)))) (upd y22 rr (tlH 1 (bA B 0 len (p + 1))))) (upd y23 rr (tlH 2 (bA B 0 len (p + 2))))) (upd y24 rr (tlH 3 (bA B 0 len (p + 3))))) (upd y25 rr (tlH 4 (bA B 0 len (p + 4))))) (upd y26 rr (nI (hbs (tlH 0 (bA B 0 len p)) (tlH 1 (bA B 0 len (p + 1))))))) (fun _ => nI 0)) (fun _ => nI (rE0 B len p))) l)) (congrArg (fun q_ => cW G r q_ l) su_tw) ?_
                exact J_vret dX5_readRows_80 rfl rfl rfl (by rw [← hsc, scT0_sep hmx hW (Nat.not_le.mpr kcz4) kcz5] at hq; exact hq _ (upd y21 rr (tlH 0 (bA B 0 len p))) (upd y22 rr (tlH 1 (bA B 0 len (p + 1)))) (upd y23 rr (tlH 2 (bA B 0 len (p + 2)))) (upd y24 rr (tlH 3 (bA B 0 len (p + 3)))) (upd y25 rr (tlH 4 (bA B 0 len (p + 4)))) (upd y26 rr (nI (hbs (tlH 0 (bA B 0 len p)) (tlH 1 (bA B 0 len (p + 1)))))) rfl (fun j hj => absurd hj (Nat.not_lt_zero _)))
            · refine J_aload_n dX5_readRows_57 rfl rfl ?_
              refine J_iload_n dX5_readRows_58 rfl rfl ?_
              refine J_iconst (v := nI 1) dX5_readRows_59 (by decide) ?_
              refine J_iaddN dX5_readRows_60 ?_
              refine Cp_3_4 fr_X5_19_2 dX5_readRows_61 ?_
              refine J_ws (ws2 := (cW G r (su 53 (su 52 (su 26 (su 25 (su 24 (su 23 (su 22 (su 21 s (upd y21 rr (tlH 0 (bA B 0 len p)))) (upd y22 rr (tlH 1 (bA B 0 len (p + 1))))) (upd y23 rr (tlH 2 (bA B 0 len (p + 2))))) (upd y24 rr (tlH 3 (bA B 0 len (p + 3))))) (upd y25 rr (tlH 4 (bA B 0 len (p + 4))))) (upd y26 rr (nI (hbs (tlH 0 (bA B 0 len p)) (tlH 1 (bA B 0 len (p + 1))))))) (fun _ => nI (rr + 1))) (fun _ => (-1))) l)) (congrArg (fun q_ => cW G r q_ l) ((su_sw (by decide)).trans (su_cg su_tw))) ?_
              exact J_vret dX5_readRows_64 rfl rfl rfl (by rw [← hsc, scT0_end hmx hW (by omega)] at hq; exact hq _ (upd y21 rr (tlH 0 (bA B 0 len p))) (upd y22 rr (tlH 1 (bA B 0 len (p + 1)))) (upd y23 rr (tlH 2 (bA B 0 len (p + 2)))) (upd y24 rr (tlH 3 (bA B 0 len (p + 3)))) (upd y25 rr (tlH 4 (bA B 0 len (p + 4)))) (upd y26 rr (nI (hbs (tlH 0 (bA B 0 len p)) (tlH 1 (bA B 0 len (p + 1)))))) rfl (crow_next0 hps hyy))
          · have hel := rE0_le B len p
            have hW : rW0 B len p = false := Bool.eq_false_iff.mpr ksz3
            refine J_cUi [.int (nI p), .int (nI rr)] 3 mu_X5_42_2 (c_X2_readRow_bad r (su 53 (su 52 (su 26 (su 25 (su 24 (su 23 (su 22 (su 21 s y21) y22) y23) y24) y25) y26) (fun _ => nI 0)) (fun _ => (-1))) l B len hlen hl59 hB p rr (by omega) (by omega) hW) cW_3 rfl rfl (by decide) (Nat.le_of_ble_eq_true rfl) ⟨Nat.le_refl _, Nat.le_refl _⟩ dX5_readRows_33 ?_
            refine J_istore_n [(0, .ref (r 3)), (1, .int (nI p)), (2, .int (nI rr)), (3, .int (nI (rE0 B len p) ^^^ (-1)))] dX5_readRows_36 rfl (by decide) rfl rfl rfl ?_
            refine J_iload_n dX5_readRows_37 rfl rfl ?_
            refine J_if_ge 49 dX5_readRows_38 (by decide) (fun c => absurd c (nI_xn (by omega))) (fun _ => ?_)
            refine J_aload_n dX5_readRows_41 rfl rfl ?_
            refine J_iload_n dX5_readRows_42 rfl rfl ?_
            refine J_iconst (v := -1) dX5_readRows_43 (by decide) ?_
            refine J_ixor dX5_readRows_44 ?_
            refine J_rw (y := nI (rE0 B len p)) (nI_xx _) ?_
            refine Cp_3_5 fr_X5_22_2 dX5_readRows_45 ?_
            refine J_ws (ws2 := (cW G r (su 53 (su 52 (su 26 (su 25 (su 24 (su 23 (su 22 (su 21 s y21) y22) y23) y24) y25) y26) (fun _ => nI 0)) (fun _ => nI (rE0 B len p))) l)) (congrArg (fun q_ => cW G r q_ l) su_tw) ?_
            exact J_vret dX5_readRows_48 rfl rfl rfl (by rw [← hsc, scT0_bad hmx hW] at hq; exact hq _ (y21) (y22) (y23) (y24) (y25) (y26) rfl (fun j hj => absurd hj (Nat.not_lt_zero _)))
    exact L22 60 0 0 (s 21) (s 22) (s 23) (s 24) (s 25) (s 26) (by omega) (by omega) (by omega) (by unfold rdT; rw [if_neg hz]) rfl (fun j hj => absurd hj (Nat.not_lt_zero _)) _ _ rfl rfl
  · exact J_vret dX5_readRows_17 rfl rfl rfl (by rw [show (rdT B 0 len) = (0, -1) from if_pos kcz1] at hq; exact hq _ (s 21) (s 22) (s 23) (s 24) (s 25) (s 26) rfl (fun j hj => absurd hj (Nat.not_lt_zero _)))
theorem c_X5_readRows0 {G : GT} (r : Nat → Nat) (s : St) (l : Nat → Int64) (B : Nat → Int32) (len : Nat) (hlen : s 51 0 = nI len) (hlc : len ≤ 47) (hB : ∀ p, p < len → s 20 p = B (60 * 0 + p)) : Ct G yX5_readRows cX5_readRows 4 none 0 0 4 [.ref (r 3)] (cW G r s l) (fun v w => ∃ y21 y22 y23 y24 y25 y26 : Nat → Int32, v = none ∧ w = cW G r (su 53 (su 52 (su 26 (su 25 (su 24 (su 23 (su 22 (su 21 s y21) y22) y23) y24) y25) y26) (fun _ => nI (rdT B 0 len).1)) (fun _ => (rdT B 0 len).2)) l ∧ (∀ j, j < (rdT B 0 len).1 → RwH B len y21 y22 y23 y24 y25 y26 j)) := Ct.of rfl (Nat.le_of_ble_eq_true rfl) (j_X5_readRows0 r s l B len hlen hlc hB (fun w_ y21 y22 y23 y24 y25 y26 h1 h2 => ⟨y21, y22, y23, y24, y25, y26, rfl, h1, h2⟩))
set_option maxRecDepth 100000 in
set_option maxHeartbeats 1000000 in
theorem j_X5_readRows1 {G : GT} (r : Nat → Nat) (s : St) (l : Nat → Int64) (B : Nat → Int32) (len : Nat) (hlen : s 54 0 = nI len) (hlc : len ≤ 23) (hB : ∀ p, p < len → s 27 p = B (60 * 1 + p)) {Q : Option Value → va_W → Prop} (hq : ∀ (w_ : va_W) (y28 y29 y30 y31 : Nat → Int32), w_ = cW G r (su 56 (su 55 (su 31 (su 30 (su 29 (su 28 s y28) y29) y30) y31) (fun _ => nI (rdT B 1 len).1)) (fun _ => (rdT B 1 len).2)) l → (∀ j, j < (rdT B 1 len).1 → RwE B len y28 y29 y30 y31 j) → Q none w_) : J G "readRows" RX5 cX5_readRows 4 none 0 0 4 Q 0 0 0 [(0, .ref (r 4))] [] (cW G r s l) := by
  have hl59 : len ≤ 59 := (by omega)
  refine J_aload_n dX5_readRows_0 rfl rfl ?_
  refine J_iconst (v := nI 0) dX5_readRows_1 (by decide) ?_
  refine Cp_4_4 fr_X5_19_3 dX5_readRows_2 ?_
  refine J_aload_n dX5_readRows_5 rfl rfl ?_
  refine J_iconst (v := -1) dX5_readRows_6 (by decide) ?_
  refine Cp_4_5 fr_X5_22_3 dX5_readRows_7 ?_
  refine J_aload_n dX5_readRows_10 rfl rfl ?_
  refine Cg_4_3 (s := (su 56 (su 55 s (fun _ => nI 0)) (fun _ => (-1)))) fr_X5_15_3 (s 54 0) rfl dX5_readRows_11 ?_
  refine J_rw (y := nI len) hlen ?_
  refine J_if_neN 18 (by omega) dX5_readRows_14 (by decide) (fun kcz1 => ?_) (fun kcz1 => ?_)
  · have hz := kcz1
    refine J_iconst (v := nI 0) dX5_readRows_18 (by decide) ?_
    refine J_istore_n [(0, .ref (r 4)), (1, .int (nI 0))] dX5_readRows_19 rfl (by decide) rfl rfl rfl ?_
    refine J_iconst (v := nI 0) dX5_readRows_20 (by decide) ?_
    refine J_istore_n [(0, .ref (r 4)), (1, .int (nI 0)), (2, .int (nI 0))] dX5_readRows_21 rfl (by decide) rfl rfl rfl ?_
    have L22 : ∀ (f rr p : Nat) (y28 y29 y30 y31 : Nat → Int32), rr + f = 60 → 4 * rr ≤ p → p ≤ len → scT B 1 len f rr p = rdT B 1 len → psT B 1 len rr = p → (∀ j, j < rr → RwE B len y28 y29 y30 y31 j) → ∀ (x1 : Int32) (x2 : Int32), x1 = nI p → x2 = nI rr → J G "readRows" RX5 cX5_readRows 4 none 0 0 4 Q 0 0 22 [(0, .ref (r 4)), (1, .int x1), (2, .int x2)] [] (cW G r (su 56 (su 55 (su 31 (su 30 (su 29 (su 28 s y28) y29) y30) y31) (fun _ => nI 0)) (fun _ => (-1))) l) := by
      intro f
      induction f with
      | zero => intro rr p y28 y29 y30 y31 hrf hrp hpl; exact absurd hrf (by omega)
      | succ f ih22 =>
        intro rr p y28 y29 y30 y31 hrf hrp hpl hsc hps hyy x1 x2 e1 e2
        subst e1
        subst e2
        refine J_iload_n dX5_readRows_22 rfl rfl ?_
        refine J_aload_n dX5_readRows_23 rfl rfl ?_
        refine Cg_4_2 fr_X5_28_3 dX5_readRows_24 ?_
        refine J_icmp_geN 91 (by omega) (by omega) dX5_readRows_27 (by decide) (fun kcz2 => ?_) (fun kcz2 => ?_)
        · refine J_aload_n dX5_readRows_91 rfl rfl ?_
          refine J_iload_n dX5_readRows_92 rfl rfl ?_
          refine Cp_4_5 fr_X5_22_3 dX5_readRows_93 ?_
          refine J_ws (ws2 := (cW G r (su 56 (su 55 (su 31 (su 30 (su 29 (su 28 s y28) y29) y30) y31) (fun _ => nI 0)) (fun _ => nI p)) l)) (congrArg (fun q_ => cW G r q_ l) su_tw) ?_
          exact J_vret dX5_readRows_96 rfl rfl rfl (by rw [← hsc, scT1_mx (by omega)] at hq; exact hq _ (y28) (y29) (y30) (y31) rfl (fun j hj => absurd hj (Nat.not_lt_zero _)))
        · have hmx : ¬ rr = 6 := (by omega)
          refine J_aload_n dX5_readRows_30 rfl rfl ?_
          refine J_iload_n dX5_readRows_31 rfl rfl ?_
          refine J_iload_n dX5_readRows_32 rfl rfl ?_
          by_cases ksz3 : rW1 B len p = true
          · have hel := rE1_le B len p
            have hW := ksz3
            refine J_cUi [.int (nI p), .int (nI rr)] 4 mu_X5_42_3 (c_X3_readRow_ok r (su 56 (su 55 (su 31 (su 30 (su 29 (su 28 s y28) y29) y30) y31) (fun _ => nI 0)) (fun _ => (-1))) l B len hlen hl59 hB p rr (by omega) (by omega) hW) cW_4 rfl rfl (by decide) (Nat.le_of_ble_eq_true rfl) ⟨Nat.le_refl _, Nat.le_refl _⟩ dX5_readRows_33 ?_
            show J G "readRows" RX5 cX5_readRows 4 none 0 0 4 Q 0 0 36 [(0, .ref (r 4)), (1, .int (nI p)), (2, .int (nI rr))] [.int (nI (rE1 B len p))] (cW G r (su 31 (su 30 (su 29 (su 28 (su 56 (su 55 (su 31 (su 30 (su 29 (su 28 s y28) y29) y30) y31) (fun _ => nI 0)) (fun _ => (-1))) (upd y28 rr (tlE 0 (bA B 1 len p)))) (upd y29 rr (tlE 1 (bA B 1 len (p + 1))))) (upd y30 rr (tlE 2 (bA B 1 len (p + 2))))) (upd y31 rr (nI (awb (tlE 1 (bA B 1 len (p + 1))) (tlE 2 (bA B 1 len (p + 2))))))) l)
            refine J_ws (ws2 := (cW G r (su 56 (su 55 (su 31 (su 30 (su 29 (su 28 s (upd y28 rr (tlE 0 (bA B 1 len p)))) (upd y29 rr (tlE 1 (bA B 1 len (p + 1))))) (upd y30 rr (tlE 2 (bA B 1 len (p + 2))))) (upd y31 rr (nI (awb (tlE 1 (bA B 1 len (p + 1))) (tlE 2 (bA B 1 len (p + 2))))))) (fun _ => nI 0)) (fun _ => (-1))) l)) (congrArg (fun q_ => cW G r q_ l) (Eq.trans (Eq.trans (Eq.trans (su_cg (su_cg (su_cg ((su_sw (by decide)).trans (su_cg ((su_sw (by decide)).trans (su_cg ((su_sw (by decide)).trans (su_cg ((su_sw (by decide)).trans (su_cg ((su_sw (by decide)).trans (su_cg su_tw))))))))))))) (su_cg (su_cg ((su_sw (by decide)).trans (su_cg ((su_sw (by decide)).trans (su_cg ((su_sw (by decide)).trans (su_cg ((su_sw (by decide)).trans (su_cg su_tw))))))))))) (su_cg ((su_sw (by decide)).trans (su_cg ((su_sw (by decide)).trans (su_cg ((su_sw (by decide)).trans (su_cg su_tw)))))))) ((su_sw (by decide)).trans (su_cg ((su_sw (by decide)).trans (su_cg su_tw)))))) ?_
            refine J_istore_n [(0, .ref (r 4)), (1, .int (nI p)), (2, .int (nI rr)), (3, .int (nI (rE1 B len p)))] dX5_readRows_36 rfl (by decide) rfl rfl rfl ?_
            refine J_iload_n dX5_readRows_37 rfl rfl ?_
            refine J_if_ge 49 dX5_readRows_38 (by decide) (fun _ => ?_) (fun c => absurd (nI_nn (by omega)) c)
            refine J_iload_n dX5_readRows_49 rfl rfl ?_
            refine J_aload_n dX5_readRows_50 rfl rfl ?_
            refine Cg_4_3 (s := (su 56 (su 55 (su 31 (su 30 (su 29 (su 28 s (upd y28 rr (tlE 0 (bA B 1 len p)))) (upd y29 rr (tlE 1 (bA B 1 len (p + 1))))) (upd y30 rr (tlE 2 (bA B 1 len (p + 2))))) (upd y31 rr (nI (awb (tlE 1 (bA B 1 len (p + 1))) (tlE 2 (bA B 1 len (p + 2))))))) (fun _ => nI 0)) (fun _ => (-1)))) fr_X5_15_3 (s 54 0) rfl dX5_readRows_51 ?_
            refine J_rw (y := nI len) hlen ?_
            refine J_icmp_ltN 65 (by omega) (by omega) dX5_readRows_54 (by decide) (fun kcz4 => ?_) (fun kcz4 => ?_)
            · refine J_aload_n dX5_readRows_65 rfl rfl ?_
              refine J_iload_n dX5_readRows_66 rfl rfl ?_
              refine J_cUi [.int (nI (rE1 B len p))] 4 mu_X5_38_3 (c_X5_signAt1 r (su 56 (su 55 (su 31 (su 30 (su 29 (su 28 s (upd y28 rr (tlE 0 (bA B 1 len p)))) (upd y29 rr (tlE 1 (bA B 1 len (p + 1))))) (upd y30 rr (tlE 2 (bA B 1 len (p + 2))))) (upd y31 rr (nI (awb (tlE 1 (bA B 1 len (p + 1))) (tlE 2 (bA B 1 len (p + 2))))))) (fun _ => nI 0)) (fun _ => (-1))) l B len hlen hl59 hB (rE1 B len p) (by omega)) cW_4 rfl rfl (by decide) (Nat.le_of_ble_eq_true rfl) ⟨Nat.le_refl _, Nat.le_refl _⟩ dX5_readRows_67 ?_
              refine J_bipush (v := nI 59) dX5_readRows_70 (by decide) ?_
              refine J_icmp_eq 81 dX5_readRows_72 (by decide) (fun kcz5 => ?_) (fun kcz5 => ?_)
              · refine J_iload_n dX5_readRows_81 rfl rfl ?_
                refine J_iconst (v := nI 1) dX5_readRows_82 (by decide) ?_
                refine J_iaddN dX5_readRows_83 ?_
                refine J_istore_n [(0, .ref (r 4)), (1, .int (nI (rE1 B len p + 1))), (2, .int (nI rr)), (3, .int (nI (rE1 B len p)))] dX5_readRows_84 rfl (by decide) rfl rfl rfl ?_
                refine J_iincN [(0, .ref (r 4)), (1, .int (nI (rE1 B len p + 1))), (2, .int (nI (rr + 1))), (3, .int (nI (rE1 B len p)))] dX5_readRows_85 rfl (by decide) rfl rfl rfl ?_
                refine J_goto 22 dX5_readRows_88 (by decide) ?_
                refine J_lv [0, 1, 2] rfl ?_
                exact ih22 (rr + 1) (rE1 B len p + 1) (upd y28 rr (tlE 0 (bA B 1 len p))) (upd y29 rr (tlE 1 (bA B 1 len (p + 1)))) (upd y30 rr (tlE 2 (bA B 1 len (p + 2)))) (upd y31 rr (nI (awb (tlE 1 (bA B 1 len (p + 1))) (tlE 2 (bA B 1 len (p + 2)))))) (by omega) (by have := rE1_ge B len p hW; omega) (by omega) (by rw [← hsc, scT1_go hmx hW (Nat.not_le.mpr kcz4) kcz5]) (by rw [psT1_s, hps]) (crow_next1 hps hyy) _ _ rfl rfl
              · refine J_aload_n dX5_readRows_75 rfl rfl ?_
                refine J_iload_n dX5_readRows_76 rfl rfl ?_
                refine Cp_4_5 fr_X5_22_3 dX5_readRows_77 ?_
                refine J_ws (ws2 := (cW G r (su 56 (su 55 (su 31 (su 30 (su 29 (su 28 s (upd y28 rr (tlE 0 (bA B 1 len p)))) (upd y29 rr (tlE 1 (bA B 1 len (p + 1))))) (upd y30 rr (tlE 2 (bA B 1 len (p + 2))))) (upd y31 rr (nI (awb (tlE 1 (bA B 1 len (p + 1))) (tlE 2 (bA B 1 len (p + 2))))))) (fun _ => nI 0)) (fun _ => nI (rE1 B len p))) l)) (congrArg (fun q_ => cW G r q_ l) su_tw) ?_
                exact J_vret dX5_readRows_80 rfl rfl rfl (by rw [← hsc, scT1_sep hmx hW (Nat.not_le.mpr kcz4) kcz5] at hq; exact hq _ (upd y28 rr (tlE 0 (bA B 1 len p))) (upd y29 rr (tlE 1 (bA B 1 len (p + 1)))) (upd y30 rr (tlE 2 (bA B 1 len (p + 2)))) (upd y31 rr (nI (awb (tlE 1 (bA B 1 len (p + 1))) (tlE 2 (bA B 1 len (p + 2)))))) rfl (fun j hj => absurd hj (Nat.not_lt_zero _)))
            · refine J_aload_n dX5_readRows_57 rfl rfl ?_
              refine J_iload_n dX5_readRows_58 rfl rfl ?_
              refine J_iconst (v := nI 1) dX5_readRows_59 (by decide) ?_
              refine J_iaddN dX5_readRows_60 ?_
              refine Cp_4_4 fr_X5_19_3 dX5_readRows_61 ?_
              refine J_ws (ws2 := (cW G r (su 56 (su 55 (su 31 (su 30 (su 29 (su 28 s (upd y28 rr (tlE 0 (bA B 1 len p)))) (upd y29 rr (tlE 1 (bA B 1 len (p + 1))))) (upd y30 rr (tlE 2 (bA B 1 len (p + 2))))) (upd y31 rr (nI (awb (tlE 1 (bA B 1 len (p + 1))) (tlE 2 (bA B 1 len (p + 2))))))) (fun _ => nI (rr + 1))) (fun _ => (-1))) l)) (congrArg (fun q_ => cW G r q_ l) ((su_sw (by decide)).trans (su_cg su_tw))) ?_
              exact J_vret dX5_readRows_64 rfl rfl rfl (by rw [← hsc, scT1_end hmx hW (by omega)] at hq; exact hq _ (upd y28 rr (tlE 0 (bA B 1 len p))) (upd y29 rr (tlE 1 (bA B 1 len (p + 1)))) (upd y30 rr (tlE 2 (bA B 1 len (p + 2)))) (upd y31 rr (nI (awb (tlE 1 (bA B 1 len (p + 1))) (tlE 2 (bA B 1 len (p + 2)))))) rfl (crow_next1 hps hyy))
          · have hel := rE1_le B len p
            have hW : rW1 B len p = false := Bool.eq_false_iff.mpr ksz3
            refine J_cUi [.int (nI p), .int (nI rr)] 4 mu_X5_42_3 (c_X3_readRow_bad r (su 56 (su 55 (su 31 (su 30 (su 29 (su 28 s y28) y29) y30) y31) (fun _ => nI 0)) (fun _ => (-1))) l B len hlen hl59 hB p rr (by omega) (by omega) hW) cW_4 rfl rfl (by decide) (Nat.le_of_ble_eq_true rfl) ⟨Nat.le_refl _, Nat.le_refl _⟩ dX5_readRows_33 ?_
            refine J_istore_n [(0, .ref (r 4)), (1, .int (nI p)), (2, .int (nI rr)), (3, .int (nI (rE1 B len p) ^^^ (-1)))] dX5_readRows_36 rfl (by decide) rfl rfl rfl ?_
            refine J_iload_n dX5_readRows_37 rfl rfl ?_
            refine J_if_ge 49 dX5_readRows_38 (by decide) (fun c => absurd c (nI_xn (by omega))) (fun _ => ?_)
            refine J_aload_n dX5_readRows_41 rfl rfl ?_
            refine J_iload_n dX5_readRows_42 rfl rfl ?_
            refine J_iconst (v := -1) dX5_readRows_43 (by decide) ?_
            refine J_ixor dX5_readRows_44 ?_
            refine J_rw (y := nI (rE1 B len p)) (nI_xx _) ?_
            refine Cp_4_5 fr_X5_22_3 dX5_readRows_45 ?_
            refine J_ws (ws2 := (cW G r (su 56 (su 55 (su 31 (su 30 (su 29 (su 28 s y28) y29) y30) y31) (fun _ => nI 0)) (fun _ => nI (rE1 B len p))) l)) (congrArg (fun q_ => cW G r q_ l) su_tw) ?_
            exact J_vret dX5_readRows_48 rfl rfl rfl (by rw [← hsc, scT1_bad hmx hW] at hq; exact hq _ (y28) (y29) (y30) (y31) rfl (fun j hj => absurd hj (Nat.not_lt_zero _)))
    exact L22 60 0 0 (s 28) (s 29) (s 30) (s 31) (by omega) (by omega) (by omega) (by unfold rdT; rw [if_neg hz]) rfl (fun j hj => absurd hj (Nat.not_lt_zero _)) _ _ rfl rfl
  · exact J_vret dX5_readRows_17 rfl rfl rfl (by rw [show (rdT B 1 len) = (0, -1) from if_pos kcz1] at hq; exact hq _ (s 28) (s 29) (s 30) (s 31) rfl (fun j hj => absurd hj (Nat.not_lt_zero _)))
theorem c_X5_readRows1 {G : GT} (r : Nat → Nat) (s : St) (l : Nat → Int64) (B : Nat → Int32) (len : Nat) (hlen : s 54 0 = nI len) (hlc : len ≤ 23) (hB : ∀ p, p < len → s 27 p = B (60 * 1 + p)) : Ct G yX5_readRows cX5_readRows 4 none 0 0 4 [.ref (r 4)] (cW G r s l) (fun v w => ∃ y28 y29 y30 y31 : Nat → Int32, v = none ∧ w = cW G r (su 56 (su 55 (su 31 (su 30 (su 29 (su 28 s y28) y29) y30) y31) (fun _ => nI (rdT B 1 len).1)) (fun _ => (rdT B 1 len).2)) l ∧ (∀ j, j < (rdT B 1 len).1 → RwE B len y28 y29 y30 y31 j)) := Ct.of rfl (Nat.le_of_ble_eq_true rfl) (j_X5_readRows1 r s l B len hlen hlc hB (fun w_ y28 y29 y30 y31 h1 h2 => ⟨y28, y29, y30, y31, rfl, h1, h2⟩))
set_option maxRecDepth 100000 in
set_option maxHeartbeats 1000000 in
theorem j_X5_readRows2 {G : GT} (r : Nat → Nat) (s : St) (l : Nat → Int64) (B : Nat → Int32) (len : Nat) (hlen : s 57 0 = nI len) (hlc : len ≤ 59) (hB : ∀ p, p < len → s 32 p = B (60 * 2 + p)) {Q : Option Value → va_W → Prop} (hq : ∀ (w_ : va_W) (y33 y34 y35 y36 : Nat → Int32), w_ = cW G r (su 59 (su 58 (su 36 (su 35 (su 34 (su 33 s y33) y34) y35) y36) (fun _ => nI (rdT B 2 len).1)) (fun _ => (rdT B 2 len).2)) l → (∀ j, j < (rdT B 2 len).1 → RwC B len y33 y34 y35 y36 j) → Q none w_) : J G "readRows" RX5 cX5_readRows 4 none 0 0 4 Q 0 0 0 [(0, .ref (r 5))] [] (cW G r s l) := by
  have hl59 : len ≤ 59 := (by omega)
  refine J_aload_n dX5_readRows_0 rfl rfl ?_
  refine J_iconst (v := nI 0) dX5_readRows_1 (by decide) ?_
  refine Cp_5_4 fr_X5_19_0 dX5_readRows_2 ?_
  refine J_aload_n dX5_readRows_5 rfl rfl ?_
  refine J_iconst (v := -1) dX5_readRows_6 (by decide) ?_
  refine Cp_5_5 fr_X5_22_0 dX5_readRows_7 ?_
  refine J_aload_n dX5_readRows_10 rfl rfl ?_
  refine Cg_5_3 (s := (su 59 (su 58 s (fun _ => nI 0)) (fun _ => (-1)))) fr_X5_15_0 (s 57 0) rfl dX5_readRows_11 ?_
  refine J_rw (y := nI len) hlen ?_
  refine J_if_neN 18 (by omega) dX5_readRows_14 (by decide) (fun kcz1 => ?_) (fun kcz1 => ?_)
  · have hz := kcz1
    refine J_iconst (v := nI 0) dX5_readRows_18 (by decide) ?_
    refine J_istore_n [(0, .ref (r 5)), (1, .int (nI 0))] dX5_readRows_19 rfl (by decide) rfl rfl rfl ?_
    refine J_iconst (v := nI 0) dX5_readRows_20 (by decide) ?_
    refine J_istore_n [(0, .ref (r 5)), (1, .int (nI 0)), (2, .int (nI 0))] dX5_readRows_21 rfl (by decide) rfl rfl rfl ?_
    have L22 : ∀ (f rr p : Nat) (y33 y34 y35 y36 : Nat → Int32), rr + f = 60 → 4 * rr ≤ p → p ≤ len → scT B 2 len f rr p = rdT B 2 len → psT B 2 len rr = p → (∀ j, j < rr → RwC B len y33 y34 y35 y36 j) → ∀ (x1 : Int32) (x2 : Int32), x1 = nI p → x2 = nI rr → J G "readRows" RX5 cX5_readRows 4 none 0 0 4 Q 0 0 22 [(0, .ref (r 5)), (1, .int x1), (2, .int x2)] [] (cW G r (su 59 (su 58 (su 36 (su 35 (su 34 (su 33 s y33) y34) y35) y36) (fun _ => nI 0)) (fun _ => (-1))) l) := by
      intro f
      induction f with
      | zero => intro rr p y33 y34 y35 y36 hrf hrp hpl; exact absurd hrf (by omega)
      | succ f ih22 =>
        intro rr p y33 y34 y35 y36 hrf hrp hpl hsc hps hyy x1 x2 e1 e2
        subst e1
        subst e2
        refine J_iload_n dX5_readRows_22 rfl rfl ?_
        refine J_aload_n dX5_readRows_23 rfl rfl ?_
        refine Cg_5_2 fr_X5_28_0 dX5_readRows_24 ?_
        refine J_icmp_geN 91 (by omega) (by omega) dX5_readRows_27 (by decide) (fun kcz2 => ?_) (fun kcz2 => ?_)
        · refine J_aload_n dX5_readRows_91 rfl rfl ?_
          refine J_iload_n dX5_readRows_92 rfl rfl ?_
          refine Cp_5_5 fr_X5_22_0 dX5_readRows_93 ?_
          refine J_ws (ws2 := (cW G r (su 59 (su 58 (su 36 (su 35 (su 34 (su 33 s y33) y34) y35) y36) (fun _ => nI 0)) (fun _ => nI p)) l)) (congrArg (fun q_ => cW G r q_ l) su_tw) ?_
          exact J_vret dX5_readRows_96 rfl rfl rfl (by rw [← hsc, scT2_mx (by omega)] at hq; exact hq _ (y33) (y34) (y35) (y36) rfl (fun j hj => absurd hj (Nat.not_lt_zero _)))
        · have hmx : ¬ rr = 15 := (by omega)
          refine J_aload_n dX5_readRows_30 rfl rfl ?_
          refine J_iload_n dX5_readRows_31 rfl rfl ?_
          refine J_iload_n dX5_readRows_32 rfl rfl ?_
          by_cases ksz3 : rW2 B len p = true
          · have hel := rE2_le B len p
            have hW := ksz3
            refine J_cUi [.int (nI p), .int (nI rr)] 5 mu_X5_42_0 (c_X0_readRow_ok r (su 59 (su 58 (su 36 (su 35 (su 34 (su 33 s y33) y34) y35) y36) (fun _ => nI 0)) (fun _ => (-1))) l B len hlen hl59 hB p rr (by omega) (by omega) hW) cW_5 rfl rfl (by decide) (Nat.le_of_ble_eq_true rfl) ⟨Nat.le_refl _, Nat.le_refl _⟩ dX5_readRows_33 ?_
            show J G "readRows" RX5 cX5_readRows 4 none 0 0 4 Q 0 0 36 [(0, .ref (r 5)), (1, .int (nI p)), (2, .int (nI rr))] [.int (nI (rE2 B len p))] (cW G r (su 36 (su 35 (su 34 (su 33 (su 59 (su 58 (su 36 (su 35 (su 34 (su 33 s y33) y34) y35) y36) (fun _ => nI 0)) (fun _ => (-1))) (upd y33 rr (tlC 0 (bA B 2 len p)))) (upd y34 rr (tlC 1 (bA B 2 len (p + 1))))) (upd y35 rr (tlC 2 (bA B 2 len (p + 2))))) (upd y36 rr ((if (bA B 2 len (p + 3)) = nI 63 then tlC 3 (bA B 2 len (p + 4)) else -1)))) l)
            refine J_ws (ws2 := (cW G r (su 59 (su 58 (su 36 (su 35 (su 34 (su 33 s (upd y33 rr (tlC 0 (bA B 2 len p)))) (upd y34 rr (tlC 1 (bA B 2 len (p + 1))))) (upd y35 rr (tlC 2 (bA B 2 len (p + 2))))) (upd y36 rr ((if (bA B 2 len (p + 3)) = nI 63 then tlC 3 (bA B 2 len (p + 4)) else -1)))) (fun _ => nI 0)) (fun _ => (-1))) l)) (congrArg (fun q_ => cW G r q_ l) (Eq.trans (Eq.trans (Eq.trans (su_cg (su_cg (su_cg ((su_sw (by decide)).trans (su_cg ((su_sw (by decide)).trans (su_cg ((su_sw (by decide)).trans (su_cg ((su_sw (by decide)).trans (su_cg ((su_sw (by decide)).trans (su_cg su_tw))))))))))))) (su_cg (su_cg ((su_sw (by decide)).trans (su_cg ((su_sw (by decide)).trans (su_cg ((su_sw (by decide)).trans (su_cg ((su_sw (by decide)).trans (su_cg su_tw))))))))))) (su_cg ((su_sw (by decide)).trans (su_cg ((su_sw (by decide)).trans (su_cg ((su_sw (by decide)).trans (su_cg su_tw)))))))) ((su_sw (by decide)).trans (su_cg ((su_sw (by decide)).trans (su_cg su_tw)))))) ?_
            refine J_istore_n [(0, .ref (r 5)), (1, .int (nI p)), (2, .int (nI rr)), (3, .int (nI (rE2 B len p)))] dX5_readRows_36 rfl (by decide) rfl rfl rfl ?_
            refine J_iload_n dX5_readRows_37 rfl rfl ?_
            refine J_if_ge 49 dX5_readRows_38 (by decide) (fun _ => ?_) (fun c => absurd (nI_nn (by omega)) c)
            refine J_iload_n dX5_readRows_49 rfl rfl ?_
            refine J_aload_n dX5_readRows_50 rfl rfl ?_
            refine Cg_5_3 (s := (su 59 (su 58 (su 36 (su 35 (su 34 (su 33 s (upd y33 rr (tlC 0 (bA B 2 len p)))) (upd y34 rr (tlC 1 (bA B 2 len (p + 1))))) (upd y35 rr (tlC 2 (bA B 2 len (p + 2))))) (upd y36 rr ((if (bA B 2 len (p + 3)) = nI 63 then tlC 3 (bA B 2 len (p + 4)) else -1)))) (fun _ => nI 0)) (fun _ => (-1)))) fr_X5_15_0 (s 57 0) rfl dX5_readRows_51 ?_
            refine J_rw (y := nI len) hlen ?_
            refine J_icmp_ltN 65 (by omega) (by omega) dX5_readRows_54 (by decide) (fun kcz4 => ?_) (fun kcz4 => ?_)
            · refine J_aload_n dX5_readRows_65 rfl rfl ?_
              refine J_iload_n dX5_readRows_66 rfl rfl ?_
              refine J_cUi [.int (nI (rE2 B len p))] 5 mu_X5_38_0 (c_X5_signAt2 r (su 59 (su 58 (su 36 (su 35 (su 34 (su 33 s (upd y33 rr (tlC 0 (bA B 2 len p)))) (upd y34 rr (tlC 1 (bA B 2 len (p + 1))))) (upd y35 rr (tlC 2 (bA B 2 len (p + 2))))) (upd y36 rr ((if (bA B 2 len (p + 3)) = nI 63 then tlC 3 (bA B 2 len (p + 4)) else -1)))) (fun _ => nI 0)) (fun _ => (-1))) l B len hlen hl59 hB (rE2 B len p) (by omega)) cW_5 rfl rfl (by decide) (Nat.le_of_ble_eq_true rfl) ⟨Nat.le_refl _, Nat.le_refl _⟩ dX5_readRows_67 ?_
              refine J_bipush (v := nI 59) dX5_readRows_70 (by decide) ?_
              refine J_icmp_eq 81 dX5_readRows_72 (by decide) (fun kcz5 => ?_) (fun kcz5 => ?_)
              · refine J_iload_n dX5_readRows_81 rfl rfl ?_
                refine J_iconst (v := nI 1) dX5_readRows_82 (by decide) ?_
                refine J_iaddN dX5_readRows_83 ?_
                refine J_istore_n [(0, .ref (r 5)), (1, .int (nI (rE2 B len p + 1))), (2, .int (nI rr)), (3, .int (nI (rE2 B len p)))] dX5_readRows_84 rfl (by decide) rfl rfl rfl ?_
                refine J_iincN [(0, .ref (r 5)), (1, .int (nI (rE2 B len p + 1))), (2, .int (nI (rr + 1))), (3, .int (nI (rE2 B len p)))] dX5_readRows_85 rfl (by decide) rfl rfl rfl ?_
                refine J_goto 22 dX5_readRows_88 (by decide) ?_
                refine J_lv [0, 1, 2] rfl ?_
                exact ih22 (rr + 1) (rE2 B len p + 1) (upd y33 rr (tlC 0 (bA B 2 len p))) (upd y34 rr (tlC 1 (bA B 2 len (p + 1)))) (upd y35 rr (tlC 2 (bA B 2 len (p + 2)))) (upd y36 rr ((if (bA B 2 len (p + 3)) = nI 63 then tlC 3 (bA B 2 len (p + 4)) else -1))) (by omega) (by have := rE2_ge B len p hW; omega) (by omega) (by rw [← hsc, scT2_go hmx hW (Nat.not_le.mpr kcz4) kcz5]) (by rw [psT2_s, hps]) (crow_next2 hps hyy) _ _ rfl rfl
              · refine J_aload_n dX5_readRows_75 rfl rfl ?_
                refine J_iload_n dX5_readRows_76 rfl rfl ?_
                refine Cp_5_5 fr_X5_22_0 dX5_readRows_77 ?_
                refine J_ws (ws2 := (cW G r (su 59 (su 58 (su 36 (su 35 (su 34 (su 33 s (upd y33 rr (tlC 0 (bA B 2 len p)))) (upd y34 rr (tlC 1 (bA B 2 len (p + 1))))) (upd y35 rr (tlC 2 (bA B 2 len (p + 2))))) (upd y36 rr ((if (bA B 2 len (p + 3)) = nI 63 then tlC 3 (bA B 2 len (p + 4)) else -1)))) (fun _ => nI 0)) (fun _ => nI (rE2 B len p))) l)) (congrArg (fun q_ => cW G r q_ l) su_tw) ?_
                exact J_vret dX5_readRows_80 rfl rfl rfl (by rw [← hsc, scT2_sep hmx hW (Nat.not_le.mpr kcz4) kcz5] at hq; exact hq _ (upd y33 rr (tlC 0 (bA B 2 len p))) (upd y34 rr (tlC 1 (bA B 2 len (p + 1)))) (upd y35 rr (tlC 2 (bA B 2 len (p + 2)))) (upd y36 rr ((if (bA B 2 len (p + 3)) = nI 63 then tlC 3 (bA B 2 len (p + 4)) else -1))) rfl (fun j hj => absurd hj (Nat.not_lt_zero _)))
            · refine J_aload_n dX5_readRows_57 rfl rfl ?_
              refine J_iload_n dX5_readRows_58 rfl rfl ?_
              refine J_iconst (v := nI 1) dX5_readRows_59 (by decide) ?_
              refine J_iaddN dX5_readRows_60 ?_
              refine Cp_5_4 fr_X5_19_0 dX5_readRows_61 ?_
              refine J_ws (ws2 := (cW G r (su 59 (su 58 (su 36 (su 35 (su 34 (su 33 s (upd y33 rr (tlC 0 (bA B 2 len p)))) (upd y34 rr (tlC 1 (bA B 2 len (p + 1))))) (upd y35 rr (tlC 2 (bA B 2 len (p + 2))))) (upd y36 rr ((if (bA B 2 len (p + 3)) = nI 63 then tlC 3 (bA B 2 len (p + 4)) else -1)))) (fun _ => nI (rr + 1))) (fun _ => (-1))) l)) (congrArg (fun q_ => cW G r q_ l) ((su_sw (by decide)).trans (su_cg su_tw))) ?_
              exact J_vret dX5_readRows_64 rfl rfl rfl (by rw [← hsc, scT2_end hmx hW (by omega)] at hq; exact hq _ (upd y33 rr (tlC 0 (bA B 2 len p))) (upd y34 rr (tlC 1 (bA B 2 len (p + 1)))) (upd y35 rr (tlC 2 (bA B 2 len (p + 2)))) (upd y36 rr ((if (bA B 2 len (p + 3)) = nI 63 then tlC 3 (bA B 2 len (p + 4)) else -1))) rfl (crow_next2 hps hyy))
          · have hel := rE2_le B len p
            have hW : rW2 B len p = false := Bool.eq_false_iff.mpr ksz3
            refine J_cUi [.int (nI p), .int (nI rr)] 5 mu_X5_42_0 (c_X0_readRow_bad r (su 59 (su 58 (su 36 (su 35 (su 34 (su 33 s y33) y34) y35) y36) (fun _ => nI 0)) (fun _ => (-1))) l B len hlen hl59 hB p rr (by omega) (by omega) hW) cW_5 rfl rfl (by decide) (Nat.le_of_ble_eq_true rfl) ⟨Nat.le_refl _, Nat.le_refl _⟩ dX5_readRows_33 ?_
            refine J_istore_n [(0, .ref (r 5)), (1, .int (nI p)), (2, .int (nI rr)), (3, .int (nI (rE2 B len p) ^^^ (-1)))] dX5_readRows_36 rfl (by decide) rfl rfl rfl ?_
            refine J_iload_n dX5_readRows_37 rfl rfl ?_
            refine J_if_ge 49 dX5_readRows_38 (by decide) (fun c => absurd c (nI_xn (by omega))) (fun _ => ?_)
            refine J_aload_n dX5_readRows_41 rfl rfl ?_
            refine J_iload_n dX5_readRows_42 rfl rfl ?_
            refine J_iconst (v := -1) dX5_readRows_43 (by decide) ?_
            refine J_ixor dX5_readRows_44 ?_
            refine J_rw (y := nI (rE2 B len p)) (nI_xx _) ?_
            refine Cp_5_5 fr_X5_22_0 dX5_readRows_45 ?_
            refine J_ws (ws2 := (cW G r (su 59 (su 58 (su 36 (su 35 (su 34 (su 33 s y33) y34) y35) y36) (fun _ => nI 0)) (fun _ => nI (rE2 B len p))) l)) (congrArg (fun q_ => cW G r q_ l) su_tw) ?_
            exact J_vret dX5_readRows_48 rfl rfl rfl (by rw [← hsc, scT2_bad hmx hW] at hq; exact hq _ (y33) (y34) (y35) (y36) rfl (fun j hj => absurd hj (Nat.not_lt_zero _)))
    exact L22 60 0 0 (s 33) (s 34) (s 35) (s 36) (by omega) (by omega) (by omega) (by unfold rdT; rw [if_neg hz]) rfl (fun j hj => absurd hj (Nat.not_lt_zero _)) _ _ rfl rfl
  · exact J_vret dX5_readRows_17 rfl rfl rfl (by rw [show (rdT B 2 len) = (0, -1) from if_pos kcz1] at hq; exact hq _ (s 33) (s 34) (s 35) (s 36) rfl (fun j hj => absurd hj (Nat.not_lt_zero _)))
theorem c_X5_readRows2 {G : GT} (r : Nat → Nat) (s : St) (l : Nat → Int64) (B : Nat → Int32) (len : Nat) (hlen : s 57 0 = nI len) (hlc : len ≤ 59) (hB : ∀ p, p < len → s 32 p = B (60 * 2 + p)) : Ct G yX5_readRows cX5_readRows 4 none 0 0 4 [.ref (r 5)] (cW G r s l) (fun v w => ∃ y33 y34 y35 y36 : Nat → Int32, v = none ∧ w = cW G r (su 59 (su 58 (su 36 (su 35 (su 34 (su 33 s y33) y34) y35) y36) (fun _ => nI (rdT B 2 len).1)) (fun _ => (rdT B 2 len).2)) l ∧ (∀ j, j < (rdT B 2 len).1 → RwC B len y33 y34 y35 y36 j)) := Ct.of rfl (Nat.le_of_ble_eq_true rfl) (j_X5_readRows2 r s l B len hlen hlc hB (fun w_ y33 y34 y35 y36 h1 h2 => ⟨y33, y34, y35, y36, rfl, h1, h2⟩))
set_option maxRecDepth 100000 in
set_option maxHeartbeats 1000000 in
theorem j_X5_append0 {G : GT} (r : Nat → Nat) (s : St) (l : Nat → Int64) (B : Nat → Int32) (len : Nat) (hlen : s 51 0 = nI len) (hlc : len ≤ 47) (hB : ∀ p, p < len → s 20 p = B (60 * 0 + p)) (hlt : len < 47) (v : Int32) {Q : Option Value → va_W → Prop} (hq : ∀ (w_ : va_W) (y21 y22 y23 y24 y25 y26 : Nat → Int32), w_ = cW G r (su 53 (su 52 (su 51 (su 26 (su 25 (su 24 (su 23 (su 22 (su 21 (su 20 s (upd (s 20) len v)) y21) y22) y23) y24) y25) y26) (fun _ => nI (len + 1))) (fun _ => nI (rdT (upd B (60 * 0 + len) v) 0 (len + 1)).1)) (fun _ => (rdT (upd B (60 * 0 + len) v) 0 (len + 1)).2)) l → (∀ j, j < (rdT (upd B (60 * 0 + len) v) 0 (len + 1)).1 → RwH (upd B (60 * 0 + len) v) (len + 1) y21 y22 y23 y24 y25 y26 j) → Q (some (.int (bI true))) w_) : J G "append" RX5 cX5_append 2 (some .boolean) 0 0 5 Q 0 0 0 [(0, .ref (r 3)), (1, .int v)] [] (cW G r s l) := by
  refine J_aload_n dX5_append_0 rfl rfl ?_
  refine Cg_3_3 (s := s) fr_X5_15_2 (s 51 0) rfl dX5_append_1 ?_
  refine J_rw (y := nI len) hlen ?_
  refine J_aload_n dX5_append_4 rfl rfl ?_
  refine Cg_3_1 fr_X5_25_2 dX5_append_5 ?_
  refine J_icmp_geN 26 (by omega) (by omega) dX5_append_8 (by decide) (fun c => absurd c (by omega)) (fun _ => ?_)
  refine J_aload_n dX5_append_11 rfl rfl ?_
  refine Cg_3_3 (s := s) fr_X5_15_2 (s 51 0) rfl dX5_append_12 ?_
  refine J_rw (y := nI len) hlen ?_
  refine J_aload_n dX5_append_15 rfl rfl ?_
  refine Cg_3_0 fr_X5_9_2 dX5_append_16 ?_
  refine Cn_20 dX5_append_19 ?_
  refine J_cNi [.int (nI len), .int (nI 59)] mn_X5_31 (c_X11_isBelowN (cW G r s l) (nI len) 59) rfl rfl (by decide) (Nat.le_of_ble_eq_true rfl) ⟨Nat.le_refl _, Nat.le_refl _⟩ dX5_append_20 ?_
  refine J_if_neB 28 dX5_append_23 (by decide) (fun _ => ?_) (fun c => absurd c (by rw [(rng_of (by omega) (by decide))]; decide))
  refine J_aload_n dX5_append_28 rfl rfl ?_
  refine Cg_3_0 fr_X5_9_2 dX5_append_29 ?_
  refine J_aload_n dX5_append_32 rfl rfl ?_
  refine Cg_3_3 (s := s) fr_X5_15_2 (s 51 0) rfl dX5_append_33 ?_
  refine J_rw (y := nI len) hlen ?_
  refine J_iload_n dX5_append_36 rfl rfl ?_
  refine Cs_20 (s := s) (s 20) rfl len rfl (by omega) dX5_append_37 ?_
  refine J_aload_n dX5_append_38 rfl rfl ?_
  refine J_dup dX5_append_39 rfl ?_
  refine Cg_3_3 (s := (su 20 s (upd (s 20) len v))) fr_X5_15_2 (s 51 0) rfl dX5_append_40 ?_
  refine J_rw (y := nI len) hlen ?_
  refine J_iconst (v := nI 1) dX5_append_43 (by decide) ?_
  refine J_iaddN dX5_append_44 ?_
  refine Cp_3_3 fr_X5_15_2 dX5_append_45 ?_
  refine J_aload_n dX5_append_48 rfl rfl ?_
  refine J_callU (wr := []) (As := []) (st := []) 3 mu_X5_35_2 (c_X5_readRows0 r (su 51 (su 20 s (upd (s 20) len v)) (fun _ => nI (len + 1))) l (upd B (60 * 0 + len) v) (len + 1) rfl (by omega) (app_B hB)) cW_3 rfl rfl rfl (by decide) (Nat.le_of_ble_eq_true rfl) ⟨Nat.le_refl _, Nat.le_refl _⟩ dX5_append_49 (fun v_ w_ h_ => ?_)
  obtain ⟨z21, z22, z23, z24, z25, z26, rfl, rfl, hrows⟩ := h_
  show J G "append" RX5 cX5_append 2 (some .boolean) 0 0 5 Q 0 0 52 [(0, .ref (r 3)), (1, .int v)] [] (cW G r (su 53 (su 52 (su 26 (su 25 (su 24 (su 23 (su 22 (su 21 (su 51 (su 20 s (upd (s 20) len v)) (fun _ => nI (len + 1))) z21) z22) z23) z24) z25) z26) (fun _ => nI (rdT (upd B (60 * 0 + len) v) 0 (len + 1)).1)) (fun _ => (rdT (upd B (60 * 0 + len) v) 0 (len + 1)).2)) l)
  refine J_ws (ws2 := (cW G r (su 53 (su 52 (su 51 (su 26 (su 25 (su 24 (su 23 (su 22 (su 21 (su 20 s (upd (s 20) len v)) z21) z22) z23) z24) z25) z26) (fun _ => nI (len + 1))) (fun _ => nI (rdT (upd B (60 * 0 + len) v) 0 (len + 1)).1)) (fun _ => (rdT (upd B (60 * 0 + len) v) 0 (len + 1)).2)) l)) (congrArg (fun q_ => cW G r q_ l) (Eq.trans (Eq.trans (Eq.trans (Eq.trans (Eq.trans (su_cg (su_cg (su_cg (su_cg (su_cg (su_cg (su_cg (su_sw (by decide))))))))) (su_cg (su_cg (su_cg (su_cg (su_cg (su_cg (su_sw (by decide))))))))) (su_cg (su_cg (su_cg (su_cg (su_cg (su_sw (by decide)))))))) (su_cg (su_cg (su_cg (su_cg (su_sw (by decide))))))) (su_cg (su_cg (su_cg (su_sw (by decide)))))) (su_cg (su_cg (su_sw (by decide)))))) ?_
  refine J_iconst (v := nI 1) dX5_append_52 (by decide) ?_
  exact J_zretB (b := true) dX5_append_53 rfl rfl rfl (hq _ z21 z22 z23 z24 z25 z26 rfl hrows)
theorem c_X5_append0 {G : GT} (r : Nat → Nat) (s : St) (l : Nat → Int64) (B : Nat → Int32) (len : Nat) (hlen : s 51 0 = nI len) (hlc : len ≤ 47) (hB : ∀ p, p < len → s 20 p = B (60 * 0 + p)) (hlt : len < 47) (v : Int32) : Ct G yX5_append cX5_append 2 (some .boolean) 0 0 5 [.ref (r 3), .int v] (cW G r s l) (fun v_ w => ∃ y21 y22 y23 y24 y25 y26 : Nat → Int32, v_ = some (.int (bI true)) ∧ w = cW G r (su 53 (su 52 (su 51 (su 26 (su 25 (su 24 (su 23 (su 22 (su 21 (su 20 s (upd (s 20) len v)) y21) y22) y23) y24) y25) y26) (fun _ => nI (len + 1))) (fun _ => nI (rdT (upd B (60 * 0 + len) v) 0 (len + 1)).1)) (fun _ => (rdT (upd B (60 * 0 + len) v) 0 (len + 1)).2)) l ∧ (∀ j, j < (rdT (upd B (60 * 0 + len) v) 0 (len + 1)).1 → RwH (upd B (60 * 0 + len) v) (len + 1) y21 y22 y23 y24 y25 y26 j)) := Ct.of rfl (Nat.le_of_ble_eq_true rfl) (j_X5_append0 r s l B len hlen hlc hB hlt v (fun w_ y21 y22 y23 y24 y25 y26 h1 h2 => ⟨y21, y22, y23, y24, y25, y26, rfl, h1, h2⟩))
set_option maxRecDepth 100000 in
set_option maxHeartbeats 1000000 in
theorem j_X5_append0_full {G : GT} (r : Nat → Nat) (s : St) (l : Nat → Int64) (B : Nat → Int32) (len : Nat) (hlen : s 51 0 = nI len) (hlc : len ≤ 47) (hB : ∀ p, p < len → s 20 p = B (60 * 0 + p)) (hge : len = 47) (v : Int32) {Q : Option Value → va_W → Prop} (hq : ∀ v_ : Int32, v_ = bI false → Q (some (.int v_)) (cW G r s l)) : J G "append" RX5 cX5_append 2 (some .boolean) 0 0 5 Q 0 0 0 [(0, .ref (r 3)), (1, .int v)] [] (cW G r s l) := by
  refine J_aload_n dX5_append_0 rfl rfl ?_
  refine Cg_3_3 (s := s) fr_X5_15_2 (s 51 0) rfl dX5_append_1 ?_
  refine J_rw (y := nI len) hlen ?_
  refine J_aload_n dX5_append_4 rfl rfl ?_
  refine Cg_3_1 fr_X5_25_2 dX5_append_5 ?_
  refine J_icmp_geN 26 (by omega) (by omega) dX5_append_8 (by decide) (fun _ => ?_) (fun c => absurd (by omega) c)
  refine J_iconst (v := nI 0) dX5_append_26 (by decide) ?_
  exact J_zretB (b := false) dX5_append_27 rfl rfl rfl (hq _ rfl)
theorem c_X5_append0_full {G : GT} (r : Nat → Nat) (s : St) (l : Nat → Int64) (B : Nat → Int32) (len : Nat) (hlen : s 51 0 = nI len) (hlc : len ≤ 47) (hB : ∀ p, p < len → s 20 p = B (60 * 0 + p)) (hge : len = 47) (v : Int32) : Ct G yX5_append cX5_append 2 (some .boolean) 0 0 5 [.ref (r 3), .int v] (cW G r s l) (Is (some (.int (bI false))) (cW G r s l)) := Ct.of rfl (Nat.le_of_ble_eq_true rfl) (j_X5_append0_full r s l B len hlen hlc hB hge v (fun _ e => by subst e; exact Is.rf _ _))
set_option maxRecDepth 100000 in
set_option maxHeartbeats 1000000 in
theorem j_X5_cutTo0 {G : GT} (r : Nat → Nat) (s : St) (l : Nat → Int64) (B : Nat → Int32) (len : Nat) (hlen : s 51 0 = nI len) (hlc : len ≤ 47) (hB : ∀ p, p < len → s 20 p = B (60 * 0 + p)) (nl : Nat) (hnl : nl ≤ len) {Q : Option Value → va_W → Prop} (hq : ∀ (w_ : va_W) (y21 y22 y23 y24 y25 y26 : Nat → Int32), w_ = cW G r (su 53 (su 52 (su 51 (su 26 (su 25 (su 24 (su 23 (su 22 (su 21 s y21) y22) y23) y24) y25) y26) (fun _ => nI nl)) (fun _ => nI (rdT B 0 nl).1)) (fun _ => (rdT B 0 nl).2)) l → (∀ j, j < (rdT B 0 nl).1 → RwH B nl y21 y22 y23 y24 y25 y26 j) → Q none w_) : J G "cutTo" RX5 cX5_cutTo 2 none 0 0 5 Q 0 0 0 [(0, .ref (r 3)), (1, .int (nI nl))] [] (cW G r s l) := by
  refine J_aload_n dX5_cutTo_0 rfl rfl ?_
  refine J_iload_n dX5_cutTo_1 rfl rfl ?_
  refine Cp_3_3 fr_X5_15_2 dX5_cutTo_2 ?_
  refine J_aload_n dX5_cutTo_5 rfl rfl ?_
  refine J_callU (wr := []) (As := []) (st := []) 3 mu_X5_35_2 (c_X5_readRows0 r (su 51 s (fun _ => nI nl)) l B nl rfl (by omega) (fun p hp => hB p (by omega))) cW_3 rfl rfl rfl (by decide) (Nat.le_of_ble_eq_true rfl) ⟨Nat.le_refl _, Nat.le_refl _⟩ dX5_cutTo_6 (fun v_ w_ h_ => ?_)
  obtain ⟨z21, z22, z23, z24, z25, z26, rfl, rfl, hrows⟩ := h_
  show J G "cutTo" RX5 cX5_cutTo 2 none 0 0 5 Q 0 0 9 [(0, .ref (r 3)), (1, .int (nI nl))] [] (cW G r (su 53 (su 52 (su 26 (su 25 (su 24 (su 23 (su 22 (su 21 (su 51 s (fun _ => nI nl)) z21) z22) z23) z24) z25) z26) (fun _ => nI (rdT B 0 nl).1)) (fun _ => (rdT B 0 nl).2)) l)
  refine J_ws (ws2 := (cW G r (su 53 (su 52 (su 51 (su 26 (su 25 (su 24 (su 23 (su 22 (su 21 s z21) z22) z23) z24) z25) z26) (fun _ => nI nl)) (fun _ => nI (rdT B 0 nl).1)) (fun _ => (rdT B 0 nl).2)) l)) (congrArg (fun q_ => cW G r q_ l) (Eq.trans (Eq.trans (Eq.trans (Eq.trans (Eq.trans (su_cg (su_cg (su_cg (su_cg (su_cg (su_cg (su_cg (su_sw (by decide))))))))) (su_cg (su_cg (su_cg (su_cg (su_cg (su_cg (su_sw (by decide))))))))) (su_cg (su_cg (su_cg (su_cg (su_cg (su_sw (by decide)))))))) (su_cg (su_cg (su_cg (su_cg (su_sw (by decide))))))) (su_cg (su_cg (su_cg (su_sw (by decide)))))) (su_cg (su_cg (su_sw (by decide)))))) ?_
  exact J_vret dX5_cutTo_9 rfl rfl rfl (hq _ z21 z22 z23 z24 z25 z26 rfl hrows)
theorem c_X5_cutTo0 {G : GT} (r : Nat → Nat) (s : St) (l : Nat → Int64) (B : Nat → Int32) (len : Nat) (hlen : s 51 0 = nI len) (hlc : len ≤ 47) (hB : ∀ p, p < len → s 20 p = B (60 * 0 + p)) (nl : Nat) (hnl : nl ≤ len) : Ct G yX5_cutTo cX5_cutTo 2 none 0 0 5 [.ref (r 3), .int (nI nl)] (cW G r s l) (fun v_ w => ∃ y21 y22 y23 y24 y25 y26 : Nat → Int32, v_ = none ∧ w = cW G r (su 53 (su 52 (su 51 (su 26 (su 25 (su 24 (su 23 (su 22 (su 21 s y21) y22) y23) y24) y25) y26) (fun _ => nI nl)) (fun _ => nI (rdT B 0 nl).1)) (fun _ => (rdT B 0 nl).2)) l ∧ (∀ j, j < (rdT B 0 nl).1 → RwH B nl y21 y22 y23 y24 y25 y26 j)) := Ct.of rfl (Nat.le_of_ble_eq_true rfl) (j_X5_cutTo0 r s l B len hlen hlc hB nl hnl (fun w_ y21 y22 y23 y24 y25 y26 h1 h2 => ⟨y21, y22, y23, y24, y25, y26, rfl, h1, h2⟩))
set_option maxRecDepth 100000 in
set_option maxHeartbeats 1000000 in
theorem j_X5_append1 {G : GT} (r : Nat → Nat) (s : St) (l : Nat → Int64) (B : Nat → Int32) (len : Nat) (hlen : s 54 0 = nI len) (hlc : len ≤ 23) (hB : ∀ p, p < len → s 27 p = B (60 * 1 + p)) (hlt : len < 23) (v : Int32) {Q : Option Value → va_W → Prop} (hq : ∀ (w_ : va_W) (y28 y29 y30 y31 : Nat → Int32), w_ = cW G r (su 56 (su 55 (su 54 (su 31 (su 30 (su 29 (su 28 (su 27 s (upd (s 27) len v)) y28) y29) y30) y31) (fun _ => nI (len + 1))) (fun _ => nI (rdT (upd B (60 * 1 + len) v) 1 (len + 1)).1)) (fun _ => (rdT (upd B (60 * 1 + len) v) 1 (len + 1)).2)) l → (∀ j, j < (rdT (upd B (60 * 1 + len) v) 1 (len + 1)).1 → RwE (upd B (60 * 1 + len) v) (len + 1) y28 y29 y30 y31 j) → Q (some (.int (bI true))) w_) : J G "append" RX5 cX5_append 2 (some .boolean) 0 0 5 Q 0 0 0 [(0, .ref (r 4)), (1, .int v)] [] (cW G r s l) := by
  refine J_aload_n dX5_append_0 rfl rfl ?_
  refine Cg_4_3 (s := s) fr_X5_15_3 (s 54 0) rfl dX5_append_1 ?_
  refine J_rw (y := nI len) hlen ?_
  refine J_aload_n dX5_append_4 rfl rfl ?_
  refine Cg_4_1 fr_X5_25_3 dX5_append_5 ?_
  refine J_icmp_geN 26 (by omega) (by omega) dX5_append_8 (by decide) (fun c => absurd c (by omega)) (fun _ => ?_)
  refine J_aload_n dX5_append_11 rfl rfl ?_
  refine Cg_4_3 (s := s) fr_X5_15_3 (s 54 0) rfl dX5_append_12 ?_
  refine J_rw (y := nI len) hlen ?_
  refine J_aload_n dX5_append_15 rfl rfl ?_
  refine Cg_4_0 fr_X5_9_3 dX5_append_16 ?_
  refine Cn_27 dX5_append_19 ?_
  refine J_cNi [.int (nI len), .int (nI 59)] mn_X5_31 (c_X11_isBelowN (cW G r s l) (nI len) 59) rfl rfl (by decide) (Nat.le_of_ble_eq_true rfl) ⟨Nat.le_refl _, Nat.le_refl _⟩ dX5_append_20 ?_
  refine J_if_neB 28 dX5_append_23 (by decide) (fun _ => ?_) (fun c => absurd c (by rw [(rng_of (by omega) (by decide))]; decide))
  refine J_aload_n dX5_append_28 rfl rfl ?_
  refine Cg_4_0 fr_X5_9_3 dX5_append_29 ?_
  refine J_aload_n dX5_append_32 rfl rfl ?_
  refine Cg_4_3 (s := s) fr_X5_15_3 (s 54 0) rfl dX5_append_33 ?_
  refine J_rw (y := nI len) hlen ?_
  refine J_iload_n dX5_append_36 rfl rfl ?_
  refine Cs_27 (s := s) (s 27) rfl len rfl (by omega) dX5_append_37 ?_
  refine J_aload_n dX5_append_38 rfl rfl ?_
  refine J_dup dX5_append_39 rfl ?_
  refine Cg_4_3 (s := (su 27 s (upd (s 27) len v))) fr_X5_15_3 (s 54 0) rfl dX5_append_40 ?_
  refine J_rw (y := nI len) hlen ?_
  refine J_iconst (v := nI 1) dX5_append_43 (by decide) ?_
  refine J_iaddN dX5_append_44 ?_
  refine Cp_4_3 fr_X5_15_3 dX5_append_45 ?_
  refine J_aload_n dX5_append_48 rfl rfl ?_
  refine J_callU (wr := []) (As := []) (st := []) 4 mu_X5_35_3 (c_X5_readRows1 r (su 54 (su 27 s (upd (s 27) len v)) (fun _ => nI (len + 1))) l (upd B (60 * 1 + len) v) (len + 1) rfl (by omega) (app_B hB)) cW_4 rfl rfl rfl (by decide) (Nat.le_of_ble_eq_true rfl) ⟨Nat.le_refl _, Nat.le_refl _⟩ dX5_append_49 (fun v_ w_ h_ => ?_)
  obtain ⟨z28, z29, z30, z31, rfl, rfl, hrows⟩ := h_
  show J G "append" RX5 cX5_append 2 (some .boolean) 0 0 5 Q 0 0 52 [(0, .ref (r 4)), (1, .int v)] [] (cW G r (su 56 (su 55 (su 31 (su 30 (su 29 (su 28 (su 54 (su 27 s (upd (s 27) len v)) (fun _ => nI (len + 1))) z28) z29) z30) z31) (fun _ => nI (rdT (upd B (60 * 1 + len) v) 1 (len + 1)).1)) (fun _ => (rdT (upd B (60 * 1 + len) v) 1 (len + 1)).2)) l)
  refine J_ws (ws2 := (cW G r (su 56 (su 55 (su 54 (su 31 (su 30 (su 29 (su 28 (su 27 s (upd (s 27) len v)) z28) z29) z30) z31) (fun _ => nI (len + 1))) (fun _ => nI (rdT (upd B (60 * 1 + len) v) 1 (len + 1)).1)) (fun _ => (rdT (upd B (60 * 1 + len) v) 1 (len + 1)).2)) l)) (congrArg (fun q_ => cW G r q_ l) (Eq.trans (Eq.trans (Eq.trans (su_cg (su_cg (su_cg (su_cg (su_cg (su_sw (by decide))))))) (su_cg (su_cg (su_cg (su_cg (su_sw (by decide))))))) (su_cg (su_cg (su_cg (su_sw (by decide)))))) (su_cg (su_cg (su_sw (by decide)))))) ?_
  refine J_iconst (v := nI 1) dX5_append_52 (by decide) ?_
  exact J_zretB (b := true) dX5_append_53 rfl rfl rfl (hq _ z28 z29 z30 z31 rfl hrows)
theorem c_X5_append1 {G : GT} (r : Nat → Nat) (s : St) (l : Nat → Int64) (B : Nat → Int32) (len : Nat) (hlen : s 54 0 = nI len) (hlc : len ≤ 23) (hB : ∀ p, p < len → s 27 p = B (60 * 1 + p)) (hlt : len < 23) (v : Int32) : Ct G yX5_append cX5_append 2 (some .boolean) 0 0 5 [.ref (r 4), .int v] (cW G r s l) (fun v_ w => ∃ y28 y29 y30 y31 : Nat → Int32, v_ = some (.int (bI true)) ∧ w = cW G r (su 56 (su 55 (su 54 (su 31 (su 30 (su 29 (su 28 (su 27 s (upd (s 27) len v)) y28) y29) y30) y31) (fun _ => nI (len + 1))) (fun _ => nI (rdT (upd B (60 * 1 + len) v) 1 (len + 1)).1)) (fun _ => (rdT (upd B (60 * 1 + len) v) 1 (len + 1)).2)) l ∧ (∀ j, j < (rdT (upd B (60 * 1 + len) v) 1 (len + 1)).1 → RwE (upd B (60 * 1 + len) v) (len + 1) y28 y29 y30 y31 j)) := Ct.of rfl (Nat.le_of_ble_eq_true rfl) (j_X5_append1 r s l B len hlen hlc hB hlt v (fun w_ y28 y29 y30 y31 h1 h2 => ⟨y28, y29, y30, y31, rfl, h1, h2⟩))
set_option maxRecDepth 100000 in
set_option maxHeartbeats 1000000 in
theorem j_X5_append1_full {G : GT} (r : Nat → Nat) (s : St) (l : Nat → Int64) (B : Nat → Int32) (len : Nat) (hlen : s 54 0 = nI len) (hlc : len ≤ 23) (hB : ∀ p, p < len → s 27 p = B (60 * 1 + p)) (hge : len = 23) (v : Int32) {Q : Option Value → va_W → Prop} (hq : ∀ v_ : Int32, v_ = bI false → Q (some (.int v_)) (cW G r s l)) : J G "append" RX5 cX5_append 2 (some .boolean) 0 0 5 Q 0 0 0 [(0, .ref (r 4)), (1, .int v)] [] (cW G r s l) := by
  refine J_aload_n dX5_append_0 rfl rfl ?_
  refine Cg_4_3 (s := s) fr_X5_15_3 (s 54 0) rfl dX5_append_1 ?_
  refine J_rw (y := nI len) hlen ?_
  refine J_aload_n dX5_append_4 rfl rfl ?_
  refine Cg_4_1 fr_X5_25_3 dX5_append_5 ?_
  refine J_icmp_geN 26 (by omega) (by omega) dX5_append_8 (by decide) (fun _ => ?_) (fun c => absurd (by omega) c)
  refine J_iconst (v := nI 0) dX5_append_26 (by decide) ?_
  exact J_zretB (b := false) dX5_append_27 rfl rfl rfl (hq _ rfl)
theorem c_X5_append1_full {G : GT} (r : Nat → Nat) (s : St) (l : Nat → Int64) (B : Nat → Int32) (len : Nat) (hlen : s 54 0 = nI len) (hlc : len ≤ 23) (hB : ∀ p, p < len → s 27 p = B (60 * 1 + p)) (hge : len = 23) (v : Int32) : Ct G yX5_append cX5_append 2 (some .boolean) 0 0 5 [.ref (r 4), .int v] (cW G r s l) (Is (some (.int (bI false))) (cW G r s l)) := Ct.of rfl (Nat.le_of_ble_eq_true rfl) (j_X5_append1_full r s l B len hlen hlc hB hge v (fun _ e => by subst e; exact Is.rf _ _))
set_option maxRecDepth 100000 in
set_option maxHeartbeats 1000000 in
theorem j_X5_cutTo1 {G : GT} (r : Nat → Nat) (s : St) (l : Nat → Int64) (B : Nat → Int32) (len : Nat) (hlen : s 54 0 = nI len) (hlc : len ≤ 23) (hB : ∀ p, p < len → s 27 p = B (60 * 1 + p)) (nl : Nat) (hnl : nl ≤ len) {Q : Option Value → va_W → Prop} (hq : ∀ (w_ : va_W) (y28 y29 y30 y31 : Nat → Int32), w_ = cW G r (su 56 (su 55 (su 54 (su 31 (su 30 (su 29 (su 28 s y28) y29) y30) y31) (fun _ => nI nl)) (fun _ => nI (rdT B 1 nl).1)) (fun _ => (rdT B 1 nl).2)) l → (∀ j, j < (rdT B 1 nl).1 → RwE B nl y28 y29 y30 y31 j) → Q none w_) : J G "cutTo" RX5 cX5_cutTo 2 none 0 0 5 Q 0 0 0 [(0, .ref (r 4)), (1, .int (nI nl))] [] (cW G r s l) := by
  refine J_aload_n dX5_cutTo_0 rfl rfl ?_
  refine J_iload_n dX5_cutTo_1 rfl rfl ?_
  refine Cp_4_3 fr_X5_15_3 dX5_cutTo_2 ?_
  refine J_aload_n dX5_cutTo_5 rfl rfl ?_
  refine J_callU (wr := []) (As := []) (st := []) 4 mu_X5_35_3 (c_X5_readRows1 r (su 54 s (fun _ => nI nl)) l B nl rfl (by omega) (fun p hp => hB p (by omega))) cW_4 rfl rfl rfl (by decide) (Nat.le_of_ble_eq_true rfl) ⟨Nat.le_refl _, Nat.le_refl _⟩ dX5_cutTo_6 (fun v_ w_ h_ => ?_)
  obtain ⟨z28, z29, z30, z31, rfl, rfl, hrows⟩ := h_
  show J G "cutTo" RX5 cX5_cutTo 2 none 0 0 5 Q 0 0 9 [(0, .ref (r 4)), (1, .int (nI nl))] [] (cW G r (su 56 (su 55 (su 31 (su 30 (su 29 (su 28 (su 54 s (fun _ => nI nl)) z28) z29) z30) z31) (fun _ => nI (rdT B 1 nl).1)) (fun _ => (rdT B 1 nl).2)) l)
  refine J_ws (ws2 := (cW G r (su 56 (su 55 (su 54 (su 31 (su 30 (su 29 (su 28 s z28) z29) z30) z31) (fun _ => nI nl)) (fun _ => nI (rdT B 1 nl).1)) (fun _ => (rdT B 1 nl).2)) l)) (congrArg (fun q_ => cW G r q_ l) (Eq.trans (Eq.trans (Eq.trans (su_cg (su_cg (su_cg (su_cg (su_cg (su_sw (by decide))))))) (su_cg (su_cg (su_cg (su_cg (su_sw (by decide))))))) (su_cg (su_cg (su_cg (su_sw (by decide)))))) (su_cg (su_cg (su_sw (by decide)))))) ?_
  exact J_vret dX5_cutTo_9 rfl rfl rfl (hq _ z28 z29 z30 z31 rfl hrows)
theorem c_X5_cutTo1 {G : GT} (r : Nat → Nat) (s : St) (l : Nat → Int64) (B : Nat → Int32) (len : Nat) (hlen : s 54 0 = nI len) (hlc : len ≤ 23) (hB : ∀ p, p < len → s 27 p = B (60 * 1 + p)) (nl : Nat) (hnl : nl ≤ len) : Ct G yX5_cutTo cX5_cutTo 2 none 0 0 5 [.ref (r 4), .int (nI nl)] (cW G r s l) (fun v_ w => ∃ y28 y29 y30 y31 : Nat → Int32, v_ = none ∧ w = cW G r (su 56 (su 55 (su 54 (su 31 (su 30 (su 29 (su 28 s y28) y29) y30) y31) (fun _ => nI nl)) (fun _ => nI (rdT B 1 nl).1)) (fun _ => (rdT B 1 nl).2)) l ∧ (∀ j, j < (rdT B 1 nl).1 → RwE B nl y28 y29 y30 y31 j)) := Ct.of rfl (Nat.le_of_ble_eq_true rfl) (j_X5_cutTo1 r s l B len hlen hlc hB nl hnl (fun w_ y28 y29 y30 y31 h1 h2 => ⟨y28, y29, y30, y31, rfl, h1, h2⟩))
set_option maxRecDepth 100000 in
set_option maxHeartbeats 1000000 in
theorem j_X5_append2 {G : GT} (r : Nat → Nat) (s : St) (l : Nat → Int64) (B : Nat → Int32) (len : Nat) (hlen : s 57 0 = nI len) (hlc : len ≤ 59) (hB : ∀ p, p < len → s 32 p = B (60 * 2 + p)) (hlt : len < 59) (v : Int32) {Q : Option Value → va_W → Prop} (hq : ∀ (w_ : va_W) (y33 y34 y35 y36 : Nat → Int32), w_ = cW G r (su 59 (su 58 (su 57 (su 36 (su 35 (su 34 (su 33 (su 32 s (upd (s 32) len v)) y33) y34) y35) y36) (fun _ => nI (len + 1))) (fun _ => nI (rdT (upd B (60 * 2 + len) v) 2 (len + 1)).1)) (fun _ => (rdT (upd B (60 * 2 + len) v) 2 (len + 1)).2)) l → (∀ j, j < (rdT (upd B (60 * 2 + len) v) 2 (len + 1)).1 → RwC (upd B (60 * 2 + len) v) (len + 1) y33 y34 y35 y36 j) → Q (some (.int (bI true))) w_) : J G "append" RX5 cX5_append 2 (some .boolean) 0 0 5 Q 0 0 0 [(0, .ref (r 5)), (1, .int v)] [] (cW G r s l) := by
  refine J_aload_n dX5_append_0 rfl rfl ?_
  refine Cg_5_3 (s := s) fr_X5_15_0 (s 57 0) rfl dX5_append_1 ?_
  refine J_rw (y := nI len) hlen ?_
  refine J_aload_n dX5_append_4 rfl rfl ?_
  refine Cg_5_1 fr_X5_25_0 dX5_append_5 ?_
  refine J_icmp_geN 26 (by omega) (by omega) dX5_append_8 (by decide) (fun c => absurd c (by omega)) (fun _ => ?_)
  refine J_aload_n dX5_append_11 rfl rfl ?_
  refine Cg_5_3 (s := s) fr_X5_15_0 (s 57 0) rfl dX5_append_12 ?_
  refine J_rw (y := nI len) hlen ?_
  refine J_aload_n dX5_append_15 rfl rfl ?_
  refine Cg_5_0 fr_X5_9_0 dX5_append_16 ?_
  refine Cn_32 dX5_append_19 ?_
  refine J_cNi [.int (nI len), .int (nI 59)] mn_X5_31 (c_X11_isBelowN (cW G r s l) (nI len) 59) rfl rfl (by decide) (Nat.le_of_ble_eq_true rfl) ⟨Nat.le_refl _, Nat.le_refl _⟩ dX5_append_20 ?_
  refine J_if_neB 28 dX5_append_23 (by decide) (fun _ => ?_) (fun c => absurd c (by rw [(rng_of (by omega) (by decide))]; decide))
  refine J_aload_n dX5_append_28 rfl rfl ?_
  refine Cg_5_0 fr_X5_9_0 dX5_append_29 ?_
  refine J_aload_n dX5_append_32 rfl rfl ?_
  refine Cg_5_3 (s := s) fr_X5_15_0 (s 57 0) rfl dX5_append_33 ?_
  refine J_rw (y := nI len) hlen ?_
  refine J_iload_n dX5_append_36 rfl rfl ?_
  refine Cs_32 (s := s) (s 32) rfl len rfl (by omega) dX5_append_37 ?_
  refine J_aload_n dX5_append_38 rfl rfl ?_
  refine J_dup dX5_append_39 rfl ?_
  refine Cg_5_3 (s := (su 32 s (upd (s 32) len v))) fr_X5_15_0 (s 57 0) rfl dX5_append_40 ?_
  refine J_rw (y := nI len) hlen ?_
  refine J_iconst (v := nI 1) dX5_append_43 (by decide) ?_
  refine J_iaddN dX5_append_44 ?_
  refine Cp_5_3 fr_X5_15_0 dX5_append_45 ?_
  refine J_aload_n dX5_append_48 rfl rfl ?_
  refine J_callU (wr := []) (As := []) (st := []) 5 mu_X5_35_0 (c_X5_readRows2 r (su 57 (su 32 s (upd (s 32) len v)) (fun _ => nI (len + 1))) l (upd B (60 * 2 + len) v) (len + 1) rfl (by omega) (app_B hB)) cW_5 rfl rfl rfl (by decide) (Nat.le_of_ble_eq_true rfl) ⟨Nat.le_refl _, Nat.le_refl _⟩ dX5_append_49 (fun v_ w_ h_ => ?_)
  obtain ⟨z33, z34, z35, z36, rfl, rfl, hrows⟩ := h_
  show J G "append" RX5 cX5_append 2 (some .boolean) 0 0 5 Q 0 0 52 [(0, .ref (r 5)), (1, .int v)] [] (cW G r (su 59 (su 58 (su 36 (su 35 (su 34 (su 33 (su 57 (su 32 s (upd (s 32) len v)) (fun _ => nI (len + 1))) z33) z34) z35) z36) (fun _ => nI (rdT (upd B (60 * 2 + len) v) 2 (len + 1)).1)) (fun _ => (rdT (upd B (60 * 2 + len) v) 2 (len + 1)).2)) l)
  refine J_ws (ws2 := (cW G r (su 59 (su 58 (su 57 (su 36 (su 35 (su 34 (su 33 (su 32 s (upd (s 32) len v)) z33) z34) z35) z36) (fun _ => nI (len + 1))) (fun _ => nI (rdT (upd B (60 * 2 + len) v) 2 (len + 1)).1)) (fun _ => (rdT (upd B (60 * 2 + len) v) 2 (len + 1)).2)) l)) (congrArg (fun q_ => cW G r q_ l) (Eq.trans (Eq.trans (Eq.trans (su_cg (su_cg (su_cg (su_cg (su_cg (su_sw (by decide))))))) (su_cg (su_cg (su_cg (su_cg (su_sw (by decide))))))) (su_cg (su_cg (su_cg (su_sw (by decide)))))) (su_cg (su_cg (su_sw (by decide)))))) ?_
  refine J_iconst (v := nI 1) dX5_append_52 (by decide) ?_
  exact J_zretB (b := true) dX5_append_53 rfl rfl rfl (hq _ z33 z34 z35 z36 rfl hrows)
theorem c_X5_append2 {G : GT} (r : Nat → Nat) (s : St) (l : Nat → Int64) (B : Nat → Int32) (len : Nat) (hlen : s 57 0 = nI len) (hlc : len ≤ 59) (hB : ∀ p, p < len → s 32 p = B (60 * 2 + p)) (hlt : len < 59) (v : Int32) : Ct G yX5_append cX5_append 2 (some .boolean) 0 0 5 [.ref (r 5), .int v] (cW G r s l) (fun v_ w => ∃ y33 y34 y35 y36 : Nat → Int32, v_ = some (.int (bI true)) ∧ w = cW G r (su 59 (su 58 (su 57 (su 36 (su 35 (su 34 (su 33 (su 32 s (upd (s 32) len v)) y33) y34) y35) y36) (fun _ => nI (len + 1))) (fun _ => nI (rdT (upd B (60 * 2 + len) v) 2 (len + 1)).1)) (fun _ => (rdT (upd B (60 * 2 + len) v) 2 (len + 1)).2)) l ∧ (∀ j, j < (rdT (upd B (60 * 2 + len) v) 2 (len + 1)).1 → RwC (upd B (60 * 2 + len) v) (len + 1) y33 y34 y35 y36 j)) := Ct.of rfl (Nat.le_of_ble_eq_true rfl) (j_X5_append2 r s l B len hlen hlc hB hlt v (fun w_ y33 y34 y35 y36 h1 h2 => ⟨y33, y34, y35, y36, rfl, h1, h2⟩))
set_option maxRecDepth 100000 in
set_option maxHeartbeats 1000000 in
theorem j_X5_append2_full {G : GT} (r : Nat → Nat) (s : St) (l : Nat → Int64) (B : Nat → Int32) (len : Nat) (hlen : s 57 0 = nI len) (hlc : len ≤ 59) (hB : ∀ p, p < len → s 32 p = B (60 * 2 + p)) (hge : len = 59) (v : Int32) {Q : Option Value → va_W → Prop} (hq : ∀ v_ : Int32, v_ = bI false → Q (some (.int v_)) (cW G r s l)) : J G "append" RX5 cX5_append 2 (some .boolean) 0 0 5 Q 0 0 0 [(0, .ref (r 5)), (1, .int v)] [] (cW G r s l) := by
  refine J_aload_n dX5_append_0 rfl rfl ?_
  refine Cg_5_3 (s := s) fr_X5_15_0 (s 57 0) rfl dX5_append_1 ?_
  refine J_rw (y := nI len) hlen ?_
  refine J_aload_n dX5_append_4 rfl rfl ?_
  refine Cg_5_1 fr_X5_25_0 dX5_append_5 ?_
  refine J_icmp_geN 26 (by omega) (by omega) dX5_append_8 (by decide) (fun _ => ?_) (fun c => absurd (by omega) c)
  refine J_iconst (v := nI 0) dX5_append_26 (by decide) ?_
  exact J_zretB (b := false) dX5_append_27 rfl rfl rfl (hq _ rfl)
theorem c_X5_append2_full {G : GT} (r : Nat → Nat) (s : St) (l : Nat → Int64) (B : Nat → Int32) (len : Nat) (hlen : s 57 0 = nI len) (hlc : len ≤ 59) (hB : ∀ p, p < len → s 32 p = B (60 * 2 + p)) (hge : len = 59) (v : Int32) : Ct G yX5_append cX5_append 2 (some .boolean) 0 0 5 [.ref (r 5), .int v] (cW G r s l) (Is (some (.int (bI false))) (cW G r s l)) := Ct.of rfl (Nat.le_of_ble_eq_true rfl) (j_X5_append2_full r s l B len hlen hlc hB hge v (fun _ e => by subst e; exact Is.rf _ _))
set_option maxRecDepth 100000 in
set_option maxHeartbeats 1000000 in
theorem j_X5_cutTo2 {G : GT} (r : Nat → Nat) (s : St) (l : Nat → Int64) (B : Nat → Int32) (len : Nat) (hlen : s 57 0 = nI len) (hlc : len ≤ 59) (hB : ∀ p, p < len → s 32 p = B (60 * 2 + p)) (nl : Nat) (hnl : nl ≤ len) {Q : Option Value → va_W → Prop} (hq : ∀ (w_ : va_W) (y33 y34 y35 y36 : Nat → Int32), w_ = cW G r (su 59 (su 58 (su 57 (su 36 (su 35 (su 34 (su 33 s y33) y34) y35) y36) (fun _ => nI nl)) (fun _ => nI (rdT B 2 nl).1)) (fun _ => (rdT B 2 nl).2)) l → (∀ j, j < (rdT B 2 nl).1 → RwC B nl y33 y34 y35 y36 j) → Q none w_) : J G "cutTo" RX5 cX5_cutTo 2 none 0 0 5 Q 0 0 0 [(0, .ref (r 5)), (1, .int (nI nl))] [] (cW G r s l) := by
  refine J_aload_n dX5_cutTo_0 rfl rfl ?_
  refine J_iload_n dX5_cutTo_1 rfl rfl ?_
  refine Cp_5_3 fr_X5_15_0 dX5_cutTo_2 ?_
  refine J_aload_n dX5_cutTo_5 rfl rfl ?_
  refine J_callU (wr := []) (As := []) (st := []) 5 mu_X5_35_0 (c_X5_readRows2 r (su 57 s (fun _ => nI nl)) l B nl rfl (by omega) (fun p hp => hB p (by omega))) cW_5 rfl rfl rfl (by decide) (Nat.le_of_ble_eq_true rfl) ⟨Nat.le_refl _, Nat.le_refl _⟩ dX5_cutTo_6 (fun v_ w_ h_ => ?_)
  obtain ⟨z33, z34, z35, z36, rfl, rfl, hrows⟩ := h_
  show J G "cutTo" RX5 cX5_cutTo 2 none 0 0 5 Q 0 0 9 [(0, .ref (r 5)), (1, .int (nI nl))] [] (cW G r (su 59 (su 58 (su 36 (su 35 (su 34 (su 33 (su 57 s (fun _ => nI nl)) z33) z34) z35) z36) (fun _ => nI (rdT B 2 nl).1)) (fun _ => (rdT B 2 nl).2)) l)
  refine J_ws (ws2 := (cW G r (su 59 (su 58 (su 57 (su 36 (su 35 (su 34 (su 33 s z33) z34) z35) z36) (fun _ => nI nl)) (fun _ => nI (rdT B 2 nl).1)) (fun _ => (rdT B 2 nl).2)) l)) (congrArg (fun q_ => cW G r q_ l) (Eq.trans (Eq.trans (Eq.trans (su_cg (su_cg (su_cg (su_cg (su_cg (su_sw (by decide))))))) (su_cg (su_cg (su_cg (su_cg (su_sw (by decide))))))) (su_cg (su_cg (su_cg (su_sw (by decide)))))) (su_cg (su_cg (su_sw (by decide)))))) ?_
  exact J_vret dX5_cutTo_9 rfl rfl rfl (hq _ z33 z34 z35 z36 rfl hrows)
theorem c_X5_cutTo2 {G : GT} (r : Nat → Nat) (s : St) (l : Nat → Int64) (B : Nat → Int32) (len : Nat) (hlen : s 57 0 = nI len) (hlc : len ≤ 59) (hB : ∀ p, p < len → s 32 p = B (60 * 2 + p)) (nl : Nat) (hnl : nl ≤ len) : Ct G yX5_cutTo cX5_cutTo 2 none 0 0 5 [.ref (r 5), .int (nI nl)] (cW G r s l) (fun v_ w => ∃ y33 y34 y35 y36 : Nat → Int32, v_ = none ∧ w = cW G r (su 59 (su 58 (su 57 (su 36 (su 35 (su 34 (su 33 s y33) y34) y35) y36) (fun _ => nI nl)) (fun _ => nI (rdT B 2 nl).1)) (fun _ => (rdT B 2 nl).2)) l ∧ (∀ j, j < (rdT B 2 nl).1 → RwC B nl y33 y34 y35 y36 j)) := Ct.of rfl (Nat.le_of_ble_eq_true rfl) (j_X5_cutTo2 r s l B len hlen hlc hB nl hnl (fun w_ y33 y34 y35 y36 h1 h2 => ⟨y33, y34, y35, y36, rfl, h1, h2⟩))
