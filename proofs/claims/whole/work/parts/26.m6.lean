theorem LI.T {s : St} (hL : LI (cn s)) {t : Nat} (ht : t < 3) : s 6 t = nI (tl (cn s) t) ∧ tl (cn s) t ≤ capT t := hL.tt ht
theorem LI.R {s : St} (hL : LI (cn s)) : s 12 0 = nI (rfn (cn s)) ∧ rfn (cn s) ≤ 12 ∧ ∀ k, k < rfn (cn s) → (∃ e, e < 6 ∧ s 13 (2 * k) = nI e) ∧ ∃ h, h < 8 ∧ s 13 (2 * k + 1) = nI h := hL.rf
theorem LI.S {s : St} (hL : LI (cn s)) : s 21 0 = nI (sgn (cn s)) ∧ sgn (cn s) ≤ 8 ∧ ∀ k, k < sgn (cn s) → (∃ t, t < 24 ∧ s 22 (3 * k) = nI t) ∧ (∃ e, e < 6 ∧ s 22 (3 * k + 1) = nI e) ∧ (s 22 (3 * k + 2) = -1 ∨ ∃ h, h < 8 ∧ s 22 (3 * k + 2) = nI h) := hL.sg
theorem LI.H {s : St} (hL : LI (cn s)) {j : Nat} (hj : j < 4) : (s 0 j = -1 ∨ ∃ f, f < 3 ∧ s 0 j = nI f) ∧ ∃ n, n ≤ 60 ∧ s 1 j = nI n := hL.sh hj
theorem n1_ne0 : ¬ nI 1 = (0 : Int32) := by decide
theorem lgc_le {x y : Int64} : lg_cmp x y ≤ 0 ↔ ¬ y < x := by
  rw [← lgc_gt]
  rw [fa_le, fa_lt]; omega
theorem lgc_nle {x y : Int64} : ¬ lg_cmp x y ≤ 0 ↔ y < x := by rw [lgc_le, Decidable.not_not]
theorem nn_nat {n : Int32} (h : 0 ≤ n) : ∃ j : Nat, j < 2 ^ 31 ∧ n = nI j := by
  rw [fa_le] at h
  have e0 : (0 : Int32).toInt = 0 := rfl
  have h3 := (fb_rng n).2
  refine ⟨n.toInt.toNat, by omega, ?_⟩
  rw [fa_eq, nI_toInt (by omega)]
  omega
theorem lsum {a b z : Nat} (ha : a < 2 ^ 31) (hb : b < 2 ^ 31) (hz : z < 2 ^ 31) : (nI z).toInt64 < (nI a).toInt64 + (nI b).toInt64 ↔ z < a + b := by
  have h1 : ((nI a).toInt64).toInt = a := by rw [Int32.toInt_toInt64, nI_toInt ha]
  have h2 : ((nI b).toInt64).toInt = b := by rw [Int32.toInt_toInt64, nI_toInt hb]
  have h3 : ((nI z).toInt64).toInt = z := by rw [Int32.toInt_toInt64, nI_toInt hz]
  rw [fa_lt64, fb_addL (by omega) (by omega), h1, h2, h3]
  omega
theorem cp_in {i j n z1 z2 : Int32} (h1 : 0 ≤ i) (h2 : 0 ≤ j) (h3 : 0 ≤ n) (h4 : ¬ z1.toInt64 < i.toInt64 + n.toInt64) (h5 : ¬ z2.toInt64 < j.toInt64 + n.toInt64) (hz1 : ∃ z, z ≤ 60 ∧ z1 = nI z) (hz2 : ∃ z, z ≤ 60 ∧ z2 = nI z) : ∃ I J N : Nat, i = nI I ∧ j = nI J ∧ n = nI N ∧ I + N ≤ 60 ∧ J + N ≤ 60 := by
  obtain ⟨I, hI, rfl⟩ := nn_nat h1
  obtain ⟨J, hJ, rfl⟩ := nn_nat h2
  obtain ⟨N, hN, rfl⟩ := nn_nat h3
  obtain ⟨a, ha, rfl⟩ := hz1
  obtain ⟨b, hb, rfl⟩ := hz2
  rw [lsum hI hN (by omega)] at h4
  rw [lsum hJ hN (by omega)] at h5
  exact ⟨I, J, N, rfl, rfl, rfl, by omega, by omega⟩
theorem nI0e : nI 0 = (0 : Int32) := rfl
theorem lkM_cn (v : Nat) (f i : Int32) (s : St) : lkM v f i (cn s) = lkM v f i s := rfl
theorem lkM_ne (v : Nat) (f i : Int32) (s : St) : ¬ (-10) - nI (lkM v f i s) = 0 := by
  unfold lkM; repeat' split
  all_goals decide
theorem lkM_in {v : Nat} {f i : Int32} {s : St} (hz : ∃ z, z ≤ 60 ∧ s 1 v = nI z) (h : lkM v f i s = 0) : ∃ j, j < 60 ∧ i = nI j := by
  obtain ⟨z, hz, ez⟩ := hz
  unfold lkM at h
  split at h
  · split at h
    · split at h
      · next h3 =>
        rw [ez] at h3
        obtain ⟨j, hj, e⟩ := (rng_iff (by omega)).mp h3
        exact ⟨j, by omega, e⟩
      · cases h
    · cases h
  · cases h
theorem fb_put_s0 (f g : Nat → Int32) (n : Nat) : upd (fb_put f g 0 n) n (g n) = fb_put f g 0 (n + 1) := by
  have h := fb_put_succ f g 0 n
  rwa [Nat.zero_add] at h
theorem n60 {n : Int32} (h1 : 0 ≤ n) (h2 : n ≤ nI 60) : ∃ j, j ≤ 60 ∧ n = nI j := by
  rw [fa_le] at h1 h2
  rw [nI_toInt (by decide)] at h2
  have e0 : (0 : Int32).toInt = 0 := rfl
  refine ⟨n.toInt.toNat, by omega, ?_⟩
  rw [fa_eq, nI_toInt (by omega)]
  omega

set_option maxRecDepth 100000 in
set_option maxHeartbeats 1000000 in
theorem j_X12_type {G : GT} (o : Nat) (a : Nat → Nat) (s : Nat → Nat → Int32) (hL : LI (cn s)) (v b : Int32) {Q : Option Value → va_W → Prop} (hq : ∀ (x : St) (r : Int32 × St), r = oType v b (cn s) → cn x = r.2 → Q (some (.int r.1)) (mW G o a x)) : J G "type" RX12 cX12_type 3 (some .int) 0 0 2 Q 0 0 0 [(0, .ref o), (1, .int v), (2, .int b)] [] (mW G o a s) := by
  refine J_iload_n dX12_type_0 rfl rfl ?_
  refine J_cSi [.int v] ms_X12_86 (c_X12_isText (mW G o a s) v) rfl rfl (by decide) (Nat.le_of_ble_eq_true rfl) ⟨Nat.le_refl _, Nat.le_refl _⟩ dX12_type_1 ?_
  refine J_if_eqB 19 dX12_type_4 (by decide) (fun kcz1 => ?_) (fun kcz1 => ?_)
  · refine J_bipush (v := -2) dX12_type_19 (by decide) ?_
    exact J_iret dX12_type_21 rfl rfl rfl (hq s ((-2), (cn s)) (by simp [oType, kcz1, cn_0, cn_1, cn_2, cn_4, cn_5, cn_6, cn_12, cn_13, cn_16, cn_21, cn_22]) rfl)
  · obtain ⟨T, hT, rfl⟩ := (rng_iff (by omega)).mp kcz1
    have eT : (nI T).toNatClampNeg = T := nI_clamp (by omega)
    refine J_iload_n dX12_type_7 rfl rfl ?_
    refine J_i2l dX12_type_8 ?_
    refine J_lconst (v := 0) dX12_type_9 (by decide) ?_
    refine J_ldc2 dX12_type_10 k_X12_89 ?_
    refine J_cSi [.long b.toInt64, .long 0, .long (255)] ms_X12_57 (c_X12_in (mW G o a s) b.toInt64 0 (255)) rfl rfl (by decide) (Nat.le_of_ble_eq_true rfl) ⟨Nat.le_refl _, Nat.le_refl _⟩ dX12_type_13 ?_
    refine J_rw (y := bI (rng b 256)) (congrArg bI (inL_rng b (by decide) rfl)) ?_
    refine J_if_neB 22 dX12_type_16 (by decide) (fun kcz2 => ?_) (fun kcz2 => ?_)
    · obtain ⟨B, hB, rfl⟩ := (rng_iff (by omega)).mp kcz2
      have eB : (nI B).toNatClampNeg = B := nI_clamp (by omega)
      refine J_aload_n dX12_type_22 rfl rfl ?_
      refine Mg_6 dX12_type_23 ?_
      refine J_iload_n dX12_type_26 rfl rfl ?_
      refine Ml_6 (s := s) (s 6) rfl T rfl (by omega) dX12_type_27 ?_
      refine J_rw (y := nI (tl (cn s) T)) (hL.T hT).1 ?_
      refine J_iload_n dX12_type_28 rfl rfl ?_
      have K49_2 : ∀ (t0 : Int32), t0 = nI (capT T) → J G "type" RX12 cX12_type 3 (some .int) 0 0 2 Q 0 0 49 [(0, .ref o), (1, .int (nI T)), (2, .int (nI B))] [.int t0, .int (nI (tl (cn s) T))] (mW G o a s) := by
        intro t0 qt0
        subst qt0
        refine J_icmp_neN 55 (by have h1 := (hL.T hT).2; have h2 := capT_le T; omega) (by have h2 := capT_le T; omega) dX12_type_49 (by decide) (fun kcz4 => ?_) (fun kcz4 => ?_)
        · refine J_aload_n dX12_type_55 rfl rfl ?_
          refine Mg_5 dX12_type_56 ?_
          refine J_bipush (v := nI 60) dX12_type_59 (by decide) ?_
          refine J_iload_n dX12_type_61 rfl rfl ?_
          refine J_imulN dX12_type_62 ?_
          refine J_aload_n dX12_type_63 rfl rfl ?_
          refine Mg_6 dX12_type_64 ?_
          refine J_iload_n dX12_type_67 rfl rfl ?_
          refine Ml_6 (s := s) (s 6) rfl T rfl (by omega) dX12_type_68 ?_
          refine J_rw (y := nI (tl (cn s) T)) (hL.T hT).1 ?_
          refine J_iaddN dX12_type_69 ?_
          refine J_iload_n dX12_type_70 rfl rfl ?_
          refine Ms_5 (s := s) (s 5) rfl (60 * T + (tl (cn s) T)) rfl (by have h1 := (hL.T hT).2; have h2 := capT_le T; omega) dX12_type_71 ?_
          refine J_aload_n dX12_type_72 rfl rfl ?_
          refine Mg_6 dX12_type_73 ?_
          refine J_iload_n dX12_type_76 rfl rfl ?_
          refine J_dup2 dX12_type_77 rfl rfl ?_
          refine Ml_6 (s := (su 5 s (upd (s 5) (60 * T + (tl (cn s) T)) (nI B)))) (s 6) rfl T rfl (by omega) dX12_type_78 ?_
          refine J_rw (y := nI (tl (cn s) T)) (hL.T hT).1 ?_
          refine J_iconst (v := nI 1) dX12_type_79 (by decide) ?_
          refine J_iaddN dX12_type_80 ?_
          refine Ms_6 (s := (su 5 s (upd (s 5) (60 * T + (tl (cn s) T)) (nI B)))) (s 6) rfl T rfl (by omega) dX12_type_81 ?_
          refine J_aload_n dX12_type_82 rfl rfl ?_
          refine Mg_6 dX12_type_83 ?_
          refine J_iload_n dX12_type_86 rfl rfl ?_
          refine Ml_6 (s := (su 6 (su 5 s (upd (s 5) (60 * T + (tl (cn s) T)) (nI B))) (upd (s 6) T (nI (tl (cn s) T + 1))))) (upd (s 6) T (nI (tl (cn s) T + 1))) rfl T rfl (by omega) dX12_type_87 ?_
          refine J_rw (y := nI (tl (cn s) T + 1)) pk_us ?_
          exact J_iret dX12_type_88 rfl rfl rfl (hq (su 6 (su 5 s (upd (s 5) (60 * T + (tl (cn s) T)) (nI B))) (upd (s 6) T (nI (tl (cn s) T + 1)))) (nI (tl (cn s) T + 1), (su 6 (su 5 (cn s) (upd (s 5) (60 * T + (tl (cn s) T)) (nI B))) (upd (s 6) T (nI (tl (cn s) T + 1))))) (by simp [oType, kcz1, eT, kcz2, eB, kcz4, cn_0, cn_1, cn_2, cn_4, cn_5, cn_6, cn_12, cn_13, cn_16, cn_21, cn_22]) (by rw [cnu_in (k := 6) rfl, cnu_in (k := 5) rfl]))
        · refine J_bipush (v := -4) dX12_type_52 (by decide) ?_
          exact J_iret dX12_type_54 rfl rfl rfl (hq s ((-4), (cn s)) (by simp [oType, kcz1, eT, kcz2, eB, kcz4, cn_0, cn_1, cn_2, cn_4, cn_5, cn_6, cn_12, cn_13, cn_16, cn_21, cn_22]) rfl)
      refine J_if_neN 37 (by omega) dX12_type_29 (by decide) (fun kcz5 => ?_) (fun kcz5 => ?_)
      · refine J_iload_n dX12_type_37 rfl rfl ?_
        refine J_iconst (v := nI 1) dX12_type_38 (by decide) ?_
        refine J_icmp_neN 47 (by omega) (by omega) dX12_type_39 (by decide) (fun kcz6 => ?_) (fun kcz6 => ?_)
        · refine J_bipush (v := nI 59) dX12_type_47 (by decide) ?_
          exact K49_2 _ (by simp [capT, kcz1, eT, kcz2, eB, kcz5, kcz6])
        · refine J_bipush (v := nI 23) dX12_type_42 (by decide) ?_
          refine J_goto 49 dX12_type_44 (by decide) ?_
          exact K49_2 _ (by simp [capT, kcz1, eT, kcz2, eB, kcz5, kcz6])
      · refine J_bipush (v := nI 47) dX12_type_32 (by decide) ?_
        refine J_goto 49 dX12_type_34 (by decide) ?_
        exact K49_2 _ (by simp [capT, kcz1, eT, kcz2, eB, kcz5])
    · refine J_bipush (v := -2) dX12_type_19 (by decide) ?_
      exact J_iret dX12_type_21 rfl rfl rfl (hq s ((-2), (cn s)) (by simp [oType, kcz1, eT, kcz2, cn_0, cn_1, cn_2, cn_4, cn_5, cn_6, cn_12, cn_13, cn_16, cn_21, cn_22]) rfl)
theorem c_X12_type {G : GT} (o : Nat) (a : Nat → Nat) (s : Nat → Nat → Int32) (hL : LI (cn s)) (v b : Int32) : Ct G yX12_type cX12_type 3 (some .int) 0 0 2 [.ref o, .int v, .int b] (mW G o a s) (QM G o a (oType v b (cn s))) := Ct.of rfl (Nat.le_of_ble_eq_true rfl) (j_X12_type o a s hL v b (fun x r h1 h2 => ⟨x, by rw [h1], rfl, by rw [← h1]; exact h2⟩))
set_option maxRecDepth 100000 in
set_option maxHeartbeats 1000000 in
theorem j_X12_wipe {G : GT} (o : Nat) (a : Nat → Nat) (s : Nat → Nat → Int32) (hL : LI (cn s)) (v : Int32) {Q : Option Value → va_W → Prop} (hq : ∀ (x : St) (r : Int32 × St), r = oWipe v (cn s) → cn x = r.2 → Q (some (.int r.1)) (mW G o a x)) : J G "wipe" RX12 cX12_wipe 3 (some .int) 0 0 2 Q 0 0 0 [(0, .ref o), (1, .int v)] [] (mW G o a s) := by
  refine J_iload_n dX12_wipe_0 rfl rfl ?_
  refine J_cSi [.int v] ms_X12_86 (c_X12_isText (mW G o a s) v) rfl rfl (by decide) (Nat.le_of_ble_eq_true rfl) ⟨Nat.le_refl _, Nat.le_refl _⟩ dX12_wipe_1 ?_
  refine J_if_neB 10 dX12_wipe_4 (by decide) (fun kcz1 => ?_) (fun kcz1 => ?_)
  · obtain ⟨T, hT, rfl⟩ := (rng_iff (by omega)).mp kcz1
    have eT : (nI T).toNatClampNeg = T := nI_clamp (by omega)
    refine J_aload_n dX12_wipe_10 rfl rfl ?_
    refine Mg_6 dX12_wipe_11 ?_
    refine J_iload_n dX12_wipe_14 rfl rfl ?_
    refine Ml_6 (s := s) (s 6) rfl T rfl (by omega) dX12_wipe_15 ?_
    refine J_rw (y := nI (tl (cn s) T)) (hL.T hT).1 ?_
    refine J_istore_n [(0, .ref o), (1, .int (nI T)), (2, .int (nI (tl (cn s) T)))] dX12_wipe_16 rfl (by decide) rfl rfl rfl ?_
    refine J_aload_n dX12_wipe_17 rfl rfl ?_
    refine Mg_6 dX12_wipe_18 ?_
    refine J_iload_n dX12_wipe_21 rfl rfl ?_
    refine J_iconst (v := nI 0) dX12_wipe_22 (by decide) ?_
    refine Ms_6 (s := s) (s 6) rfl T rfl (by omega) dX12_wipe_23 ?_
    refine J_iload_n dX12_wipe_24 rfl rfl ?_
    exact J_iret dX12_wipe_25 rfl rfl rfl (hq (su 6 s (upd (s 6) T (nI 0))) (nI (tl (cn s) T), (su 6 (cn s) (upd (s 6) T (nI 0)))) (by simp [oWipe, kcz1, eT, cn_0, cn_1, cn_2, cn_4, cn_5, cn_6, cn_12, cn_13, cn_16, cn_21, cn_22]) (by rw [cnu_in (k := 6) rfl]))
  · refine J_bipush (v := -2) dX12_wipe_7 (by decide) ?_
    exact J_iret dX12_wipe_9 rfl rfl rfl (hq s ((-2), (cn s)) (by simp [oWipe, kcz1, cn_0, cn_1, cn_2, cn_4, cn_5, cn_6, cn_12, cn_13, cn_16, cn_21, cn_22]) rfl)
theorem c_X12_wipe {G : GT} (o : Nat) (a : Nat → Nat) (s : Nat → Nat → Int32) (hL : LI (cn s)) (v : Int32) : Ct G yX12_wipe cX12_wipe 3 (some .int) 0 0 2 [.ref o, .int v] (mW G o a s) (QM G o a (oWipe v (cn s))) := Ct.of rfl (Nat.le_of_ble_eq_true rfl) (j_X12_wipe o a s hL v (fun x r h1 h2 => ⟨x, by rw [h1], rfl, by rw [← h1]; exact h2⟩))
set_option maxRecDepth 100000 in
set_option maxHeartbeats 1000000 in
theorem j_X12_undo {G : GT} (o : Nat) (a : Nat → Nat) (s : Nat → Nat → Int32) (hL : LI (cn s)) (v : Int32) {Q : Option Value → va_W → Prop} (hq : ∀ (x : St) (r : Int32 × St), r = oUndo v (cn s) → cn x = r.2 → Q (some (.int r.1)) (mW G o a x)) : J G "undo" RX12 cX12_undo 2 (some .int) 0 0 2 Q 0 0 0 [(0, .ref o), (1, .int v)] [] (mW G o a s) := by
  refine J_iload_n dX12_undo_0 rfl rfl ?_
  refine J_cSi [.int v] ms_X12_86 (c_X12_isText (mW G o a s) v) rfl rfl (by decide) (Nat.le_of_ble_eq_true rfl) ⟨Nat.le_refl _, Nat.le_refl _⟩ dX12_undo_1 ?_
  refine J_if_neB 10 dX12_undo_4 (by decide) (fun kcz1 => ?_) (fun kcz1 => ?_)
  · obtain ⟨T, hT, rfl⟩ := (rng_iff (by omega)).mp kcz1
    have eT : (nI T).toNatClampNeg = T := nI_clamp (by omega)
    refine J_aload_n dX12_undo_10 rfl rfl ?_
    refine Mg_6 dX12_undo_11 ?_
    refine J_iload_n dX12_undo_14 rfl rfl ?_
    refine Ml_6 (s := s) (s 6) rfl T rfl (by omega) dX12_undo_15 ?_
    refine J_rw (y := nI (tl (cn s) T)) (hL.T hT).1 ?_
    refine J_if_neN 22 (by have h1 := (hL.T hT).2; have h2 := capT_le T; omega) dX12_undo_16 (by decide) (fun kcz2 => ?_) (fun kcz2 => ?_)
    · refine J_aload_n dX12_undo_22 rfl rfl ?_
      refine Mg_6 dX12_undo_23 ?_
      refine J_iload_n dX12_undo_26 rfl rfl ?_
      refine J_dup2 dX12_undo_27 rfl rfl ?_
      refine Ml_6 (s := s) (s 6) rfl T rfl (by omega) dX12_undo_28 ?_
      refine J_rw (y := nI (tl (cn s) T)) (hL.T hT).1 ?_
      refine J_iconst (v := nI 1) dX12_undo_29 (by decide) ?_
      refine J_isubN dX12_undo_30 (by omega) ?_
      refine Ms_6 (s := s) (s 6) rfl T rfl (by omega) dX12_undo_31 ?_
      refine J_aload_n dX12_undo_32 rfl rfl ?_
      refine Mg_6 dX12_undo_33 ?_
      refine J_iload_n dX12_undo_36 rfl rfl ?_
      refine Ml_6 (s := (su 6 s (upd (s 6) T (nI (tl (cn s) T - 1))))) (upd (s 6) T (nI (tl (cn s) T - 1))) rfl T rfl (by omega) dX12_undo_37 ?_
      refine J_rw (y := nI (tl (cn s) T - 1)) pk_us ?_
      exact J_iret dX12_undo_38 rfl rfl rfl (hq (su 6 s (upd (s 6) T (nI (tl (cn s) T - 1)))) (nI (tl (cn s) T - 1), (su 6 (cn s) (upd (s 6) T (nI (tl (cn s) T - 1))))) (by simp [oUndo, kcz1, eT, kcz2, cn_0, cn_1, cn_2, cn_4, cn_5, cn_6, cn_12, cn_13, cn_16, cn_21, cn_22]) (by rw [cnu_in (k := 6) rfl]))
    · refine J_bipush (v := -3) dX12_undo_19 (by decide) ?_
      exact J_iret dX12_undo_21 rfl rfl rfl (hq s ((-3), (cn s)) (by simp [oUndo, kcz1, eT, kcz2, cn_0, cn_1, cn_2, cn_4, cn_5, cn_6, cn_12, cn_13, cn_16, cn_21, cn_22]) rfl)
  · refine J_bipush (v := -2) dX12_undo_7 (by decide) ?_
    exact J_iret dX12_undo_9 rfl rfl rfl (hq s ((-2), (cn s)) (by simp [oUndo, kcz1, cn_0, cn_1, cn_2, cn_4, cn_5, cn_6, cn_12, cn_13, cn_16, cn_21, cn_22]) rfl)
theorem c_X12_undo {G : GT} (o : Nat) (a : Nat → Nat) (s : Nat → Nat → Int32) (hL : LI (cn s)) (v : Int32) : Ct G yX12_undo cX12_undo 2 (some .int) 0 0 2 [.ref o, .int v] (mW G o a s) (QM G o a (oUndo v (cn s))) := Ct.of rfl (Nat.le_of_ble_eq_true rfl) (j_X12_undo o a s hL v (fun x r h1 h2 => ⟨x, by rw [h1], rfl, by rw [← h1]; exact h2⟩))
set_option maxRecDepth 100000 in
set_option maxHeartbeats 1000000 in
theorem j_X12_refuse {G : GT} (o : Nat) (a : Nat → Nat) (s : Nat → Nat → Int32) (hL : LI (cn s)) (e h : Int32) {Q : Option Value → va_W → Prop} (hq : ∀ (x : St) (r : Int32 × St), r = oRefuse e h (cn s) → cn x = r.2 → Q (some (.int r.1)) (mW G o a x)) : J G "refuse" RX12 cX12_refuse 3 (some .int) 0 0 2 Q 0 0 0 [(0, .ref o), (1, .int e), (2, .int h)] [] (mW G o a s) := by
  refine J_iload_n dX12_refuse_0 rfl rfl ?_
  refine J_cSi [.int e] ms_X12_136 (c_X12_isAnyone (mW G o a s) e) rfl rfl (by decide) (Nat.le_of_ble_eq_true rfl) ⟨Nat.le_refl _, Nat.le_refl _⟩ dX12_refuse_1 ?_
  refine J_if_eqB 19 dX12_refuse_4 (by decide) (fun kcz1 => ?_) (fun kcz1 => ?_)
  · refine J_bipush (v := -2) dX12_refuse_19 (by decide) ?_
    exact J_iret dX12_refuse_21 rfl rfl rfl (hq s ((-2), (cn s)) (by simp [oRefuse, kcz1, cn_0, cn_1, cn_2, cn_4, cn_5, cn_6, cn_12, cn_13, cn_16, cn_21, cn_22]) rfl)
  · obtain ⟨E, hE, rfl⟩ := (rng_iff (by omega)).mp kcz1
    have eE : (nI E).toNatClampNeg = E := nI_clamp (by omega)
    refine J_iload_n dX12_refuse_7 rfl rfl ?_
    refine J_i2l dX12_refuse_8 ?_
    refine J_lconst (v := 0) dX12_refuse_9 (by decide) ?_
    refine J_ldc2 dX12_refuse_10 k_X12_139 ?_
    refine J_cSi [.long h.toInt64, .long 0, .long (7)] ms_X12_57 (c_X12_in (mW G o a s) h.toInt64 0 (7)) rfl rfl (by decide) (Nat.le_of_ble_eq_true rfl) ⟨Nat.le_refl _, Nat.le_refl _⟩ dX12_refuse_13 ?_
    refine J_rw (y := bI (rng h 8)) (congrArg bI (inL_rng h (by decide) rfl)) ?_
    refine J_if_neB 22 dX12_refuse_16 (by decide) (fun kcz2 => ?_) (fun kcz2 => ?_)
    · obtain ⟨H, hH, rfl⟩ := (rng_iff (by omega)).mp kcz2
      have eH : (nI H).toNatClampNeg = H := nI_clamp (by omega)
      refine J_aload_n dX12_refuse_22 rfl rfl ?_
      refine Mg_12 (s := s) (s 12 0) rfl dX12_refuse_23 ?_
      refine J_rw (y := nI (rfn (cn s))) hL.R.1 ?_
      refine J_bipush (v := nI 12) dX12_refuse_26 (by decide) ?_
      refine J_icmp_neN 34 (by have := hL.R.2.1; omega) (by omega) dX12_refuse_28 (by decide) (fun kcz3 => ?_) (fun kcz3 => ?_)
      · refine J_aload_n dX12_refuse_34 rfl rfl ?_
        refine Mg_13 dX12_refuse_35 ?_
        refine J_iconst (v := nI 2) dX12_refuse_38 (by decide) ?_
        refine J_aload_n dX12_refuse_39 rfl rfl ?_
        refine Mg_12 (s := s) (s 12 0) rfl dX12_refuse_40 ?_
        refine J_rw (y := nI (rfn (cn s))) hL.R.1 ?_
        refine J_imulN dX12_refuse_43 ?_
        refine J_iload_n dX12_refuse_44 rfl rfl ?_
        refine Ms_13 (s := s) (s 13) rfl (2 * (rfn (cn s))) rfl (by have := hL.R.2.1; omega) dX12_refuse_45 ?_
        refine J_aload_n dX12_refuse_46 rfl rfl ?_
        refine Mg_13 dX12_refuse_47 ?_
        refine J_iconst (v := nI 2) dX12_refuse_50 (by decide) ?_
        refine J_aload_n dX12_refuse_51 rfl rfl ?_
        refine Mg_12 (s := (su 13 s (upd (s 13) (2 * (rfn (cn s))) (nI E)))) (s 12 0) rfl dX12_refuse_52 ?_
        refine J_rw (y := nI (rfn (cn s))) hL.R.1 ?_
        refine J_imulN dX12_refuse_55 ?_
        refine J_iconst (v := nI 1) dX12_refuse_56 (by decide) ?_
        refine J_iaddN dX12_refuse_57 ?_
        refine J_iload_n dX12_refuse_58 rfl rfl ?_
        refine Ms_13 (s := (su 13 s (upd (s 13) (2 * (rfn (cn s))) (nI E)))) (upd (s 13) (2 * (rfn (cn s))) (nI E)) rfl (2 * (rfn (cn s)) + 1) rfl (by have := hL.R.2.1; omega) dX12_refuse_59 ?_
        refine J_ws (ws2 := (mW G o a (su 13 s (upd (upd (s 13) (2 * (rfn (cn s))) (nI E)) (2 * (rfn (cn s)) + 1) (nI H))))) (congrArg (mW G o a) su_tw) ?_
        refine J_aload_n dX12_refuse_60 rfl rfl ?_
        refine J_dup dX12_refuse_61 rfl ?_
        refine Mg_12 (s := (su 13 s (upd (upd (s 13) (2 * (rfn (cn s))) (nI E)) (2 * (rfn (cn s)) + 1) (nI H)))) (s 12 0) rfl dX12_refuse_62 ?_
        refine J_rw (y := nI (rfn (cn s))) hL.R.1 ?_
        refine J_iconst (v := nI 1) dX12_refuse_65 (by decide) ?_
        refine J_iaddN dX12_refuse_66 ?_
        refine Mp_12 dX12_refuse_67 ?_
        refine J_ws (ws2 := (mW G o a (su 13 (su 12 s (fun _ => nI (rfn (cn s) + 1))) (upd (upd (s 13) (2 * (rfn (cn s))) (nI E)) (2 * (rfn (cn s)) + 1) (nI H))))) (congrArg (mW G o a) (su_sw (by decide))) ?_
        refine J_aload_n dX12_refuse_70 rfl rfl ?_
        refine Mg_12 (s := (su 13 (su 12 s (fun _ => nI (rfn (cn s) + 1))) (upd (upd (s 13) (2 * (rfn (cn s))) (nI E)) (2 * (rfn (cn s)) + 1) (nI H)))) (nI (rfn (cn s) + 1)) rfl dX12_refuse_71 ?_
        exact J_iret dX12_refuse_74 rfl rfl rfl (hq (su 13 (su 12 s (fun _ => nI (rfn (cn s) + 1))) (upd (upd (s 13) (2 * (rfn (cn s))) (nI E)) (2 * (rfn (cn s)) + 1) (nI H))) (nI (rfn (cn s) + 1), (su 13 (su 12 (cn s) (fun _ => nI (rfn (cn s) + 1))) (upd (upd (s 13) (2 * (rfn (cn s))) (nI E)) (2 * (rfn (cn s)) + 1) (nI H)))) (by simp [oRefuse, kcz1, eE, kcz2, eH, kcz3, cn_0, cn_1, cn_2, cn_4, cn_5, cn_6, cn_12, cn_13, cn_16, cn_21, cn_22]) (by rw [cnu_in (k := 13) rfl, cnu_in (k := 12) rfl]))
      · refine J_bipush (v := -4) dX12_refuse_31 (by decide) ?_
        exact J_iret dX12_refuse_33 rfl rfl rfl (hq s ((-4), (cn s)) (by simp [oRefuse, kcz1, eE, kcz2, eH, kcz3, cn_0, cn_1, cn_2, cn_4, cn_5, cn_6, cn_12, cn_13, cn_16, cn_21, cn_22]) rfl)
    · refine J_bipush (v := -2) dX12_refuse_19 (by decide) ?_
      exact J_iret dX12_refuse_21 rfl rfl rfl (hq s ((-2), (cn s)) (by simp [oRefuse, kcz1, eE, kcz2, cn_0, cn_1, cn_2, cn_4, cn_5, cn_6, cn_12, cn_13, cn_16, cn_21, cn_22]) rfl)
theorem c_X12_refuse {G : GT} (o : Nat) (a : Nat → Nat) (s : Nat → Nat → Int32) (hL : LI (cn s)) (e h : Int32) : Ct G yX12_refuse cX12_refuse 3 (some .int) 0 0 2 [.ref o, .int e, .int h] (mW G o a s) (QM G o a (oRefuse e h (cn s))) := Ct.of rfl (Nat.le_of_ble_eq_true rfl) (j_X12_refuse o a s hL e h (fun x r h1 h2 => ⟨x, by rw [h1], rfl, by rw [← h1]; exact h2⟩))
set_option maxRecDepth 100000 in
set_option maxHeartbeats 1000000 in
theorem j_X12_back {G : GT} (o : Nat) (a : Nat → Nat) (s : Nat → Nat → Int32) (hL : LI (cn s)) {Q : Option Value → va_W → Prop} (hq : ∀ (x : St) (r : Int32 × St), r = oBack (cn s) → cn x = r.2 → Q (some (.int r.1)) (mW G o a x)) : J G "back" RX12 cX12_back 1 (some .int) 0 0 0 Q 0 0 0 [(0, .ref o)] [] (mW G o a s) := by
  refine J_aload_n dX12_back_0 rfl rfl ?_
  refine Mg_12 (s := s) (s 12 0) rfl dX12_back_1 ?_
  refine J_rw (y := nI (rfn (cn s))) hL.R.1 ?_
  refine J_if_neN 10 (by have := hL.R.2.1; omega) dX12_back_4 (by decide) (fun kcz1 => ?_) (fun kcz1 => ?_)
  · refine J_aload_n dX12_back_10 rfl rfl ?_
    refine J_dup dX12_back_11 rfl ?_
    refine Mg_12 (s := s) (s 12 0) rfl dX12_back_12 ?_
    refine J_rw (y := nI (rfn (cn s))) hL.R.1 ?_
    refine J_iconst (v := nI 1) dX12_back_15 (by decide) ?_
    refine J_isubN dX12_back_16 (by omega) ?_
    refine Mp_12 dX12_back_17 ?_
    refine J_aload_n dX12_back_20 rfl rfl ?_
    refine Mg_12 (s := (su 12 s (fun _ => nI (rfn (cn s) - 1)))) (nI (rfn (cn s) - 1)) rfl dX12_back_21 ?_
    exact J_iret dX12_back_24 rfl rfl rfl (hq (su 12 s (fun _ => nI (rfn (cn s) - 1))) (nI (rfn (cn s) - 1), (su 12 (cn s) (fun _ => nI (rfn (cn s) - 1)))) (by simp [oBack, kcz1, cn_0, cn_1, cn_2, cn_4, cn_5, cn_6, cn_12, cn_13, cn_16, cn_21, cn_22]) (by rw [cnu_in (k := 12) rfl]))
  · refine J_bipush (v := -3) dX12_back_7 (by decide) ?_
    exact J_iret dX12_back_9 rfl rfl rfl (hq s ((-3), (cn s)) (by simp [oBack, kcz1, cn_0, cn_1, cn_2, cn_4, cn_5, cn_6, cn_12, cn_13, cn_16, cn_21, cn_22]) rfl)
theorem c_X12_back {G : GT} (o : Nat) (a : Nat → Nat) (s : Nat → Nat → Int32) (hL : LI (cn s)) : Ct G yX12_back cX12_back 1 (some .int) 0 0 0 [.ref o] (mW G o a s) (QM G o a (oBack (cn s))) := Ct.of rfl (Nat.le_of_ble_eq_true rfl) (j_X12_back o a s hL (fun x r h1 h2 => ⟨x, by rw [h1], rfl, by rw [← h1]; exact h2⟩))
set_option maxRecDepth 100000 in
set_option maxHeartbeats 1000000 in
theorem j_X12_value {G : GT} (o : Nat) (a : Nat → Nat) (s : Nat → Nat → Int32) (hL : LI (cn s)) (e d v : Int32) {Q : Option Value → va_W → Prop} (hq : ∀ (x : St) (r : Int32 × St), r = oValue e d v (cn s) → cn x = r.2 → Q (some (.int r.1)) (mW G o a x)) : J G "value" RX12 cX12_value 5 (some .int) 0 0 2 Q 0 0 0 [(0, .ref o), (1, .int e), (2, .int d), (3, .int v)] [] (mW G o a s) := by
  refine J_iload_n dX12_value_0 rfl rfl ?_
  refine J_cSi [.int e] ms_X12_136 (c_X12_isAnyone (mW G o a s) e) rfl rfl (by decide) (Nat.le_of_ble_eq_true rfl) ⟨Nat.le_refl _, Nat.le_refl _⟩ dX12_value_1 ?_
  refine J_if_eqB 31 dX12_value_4 (by decide) (fun kcz1 => ?_) (fun kcz1 => ?_)
  · refine J_bipush (v := -2) dX12_value_31 (by decide) ?_
    exact J_iret dX12_value_33 rfl rfl rfl (hq s ((-2), (cn s)) (by simp [oValue, kcz1, cn_0, cn_1, cn_2, cn_4, cn_5, cn_6, cn_12, cn_13, cn_16, cn_21, cn_22]) rfl)
  · obtain ⟨E, hE, rfl⟩ := (rng_iff (by omega)).mp kcz1
    have eE : (nI E).toNatClampNeg = E := nI_clamp (by omega)
    refine J_iload_n dX12_value_7 rfl rfl ?_
    refine J_i2l dX12_value_8 ?_
    refine J_lconst (v := 0) dX12_value_9 (by decide) ?_
    refine J_ldc2 dX12_value_10 k_X12_144 ?_
    refine J_cSi [.long d.toInt64, .long 0, .long (6)] ms_X12_57 (c_X12_in (mW G o a s) d.toInt64 0 (6)) rfl rfl (by decide) (Nat.le_of_ble_eq_true rfl) ⟨Nat.le_refl _, Nat.le_refl _⟩ dX12_value_13 ?_
    refine J_rw (y := bI (rng d 7)) (congrArg bI (inL_rng d (by decide) rfl)) ?_
    refine J_if_eqB 31 dX12_value_16 (by decide) (fun kcz2 => ?_) (fun kcz2 => ?_)
    · refine J_bipush (v := -2) dX12_value_31 (by decide) ?_
      exact J_iret dX12_value_33 rfl rfl rfl (hq s ((-2), (cn s)) (by simp [oValue, kcz1, eE, kcz2, cn_0, cn_1, cn_2, cn_4, cn_5, cn_6, cn_12, cn_13, cn_16, cn_21, cn_22]) rfl)
    · obtain ⟨D, hD, rfl⟩ := (rng_iff (by omega)).mp kcz2
      have eD : (nI D).toNatClampNeg = D := nI_clamp (by omega)
      refine J_iload_n dX12_value_19 rfl rfl ?_
      refine J_i2l dX12_value_20 ?_
      refine J_lconst (v := 0) dX12_value_21 (by decide) ?_
      refine J_ldc2 dX12_value_22 k_X12_146 ?_
      refine J_cSi [.long v.toInt64, .long 0, .long (9)] ms_X12_57 (c_X12_in (mW G o a s) v.toInt64 0 (9)) rfl rfl (by decide) (Nat.le_of_ble_eq_true rfl) ⟨Nat.le_refl _, Nat.le_refl _⟩ dX12_value_25 ?_
      refine J_rw (y := bI (rng v 10)) (congrArg bI (inL_rng v (by decide) rfl)) ?_
      refine J_if_neB 34 dX12_value_28 (by decide) (fun kcz3 => ?_) (fun kcz3 => ?_)
      · obtain ⟨V, hV, rfl⟩ := (rng_iff (by omega)).mp kcz3
        have eV : (nI V).toNatClampNeg = V := nI_clamp (by omega)
        refine J_aload_n dX12_value_34 rfl rfl ?_
        refine Mg_16 dX12_value_35 ?_
        refine J_bipush (v := nI 7) dX12_value_38 (by decide) ?_
        refine J_iload_n dX12_value_40 rfl rfl ?_
        refine J_imulN dX12_value_41 ?_
        refine J_iload_n dX12_value_42 rfl rfl ?_
        refine J_iaddN dX12_value_43 ?_
        refine Ml_16 (s := s) (s 16) rfl (7 * E + D) rfl (by omega) dX12_value_44 ?_
        refine J_istore [(0, .ref o), (1, .int (nI E)), (2, .int (nI D)), (3, .int (nI V)), (4, .int (s 16 (7 * E + D)))] dX12_value_45 (by decide) rfl rfl rfl ?_
        refine J_aload_n dX12_value_47 rfl rfl ?_
        refine Mg_16 dX12_value_48 ?_
        refine J_bipush (v := nI 7) dX12_value_51 (by decide) ?_
        refine J_iload_n dX12_value_53 rfl rfl ?_
        refine J_imulN dX12_value_54 ?_
        refine J_iload_n dX12_value_55 rfl rfl ?_
        refine J_iaddN dX12_value_56 ?_
        refine J_iload_n dX12_value_57 rfl rfl ?_
        refine Ms_16 (s := s) (s 16) rfl (7 * E + D) rfl (by omega) dX12_value_58 ?_
        refine J_iload dX12_value_59 rfl ?_
        exact J_iret dX12_value_61 rfl rfl rfl (hq (su 16 s (upd (s 16) (7 * E + D) (nI V))) (s 16 (7 * E + D), (su 16 (cn s) (upd (s 16) (7 * E + D) (nI V)))) (by simp [oValue, kcz1, eE, kcz2, eD, kcz3, eV, cn_0, cn_1, cn_2, cn_4, cn_5, cn_6, cn_12, cn_13, cn_16, cn_21, cn_22]) (by rw [cnu_in (k := 16) rfl]))
      · refine J_bipush (v := -2) dX12_value_31 (by decide) ?_
        exact J_iret dX12_value_33 rfl rfl rfl (hq s ((-2), (cn s)) (by simp [oValue, kcz1, eE, kcz2, eD, kcz3, cn_0, cn_1, cn_2, cn_4, cn_5, cn_6, cn_12, cn_13, cn_16, cn_21, cn_22]) rfl)
theorem c_X12_value {G : GT} (o : Nat) (a : Nat → Nat) (s : Nat → Nat → Int32) (hL : LI (cn s)) (e d v : Int32) : Ct G yX12_value cX12_value 5 (some .int) 0 0 2 [.ref o, .int e, .int d, .int v] (mW G o a s) (QM G o a (oValue e d v (cn s))) := Ct.of rfl (Nat.le_of_ble_eq_true rfl) (j_X12_value o a s hL e d v (fun x r h1 h2 => ⟨x, by rw [h1], rfl, by rw [← h1]; exact h2⟩))
set_option maxRecDepth 100000 in
set_option maxHeartbeats 1000000 in
theorem j_X12_seen {G : GT} (o : Nat) (a : Nat → Nat) (s : Nat → Nat → Int32) (hL : LI (cn s)) (t e h : Int32) {Q : Option Value → va_W → Prop} (hq : ∀ (x : St) (r : Int32 × St), r = oSeen t e h (cn s) → cn x = r.2 → Q (some (.int r.1)) (mW G o a x)) : J G "seen" RX12 cX12_seen 4 (some .int) 0 0 2 Q 0 0 0 [(0, .ref o), (1, .int t), (2, .int e), (3, .int h)] [] (mW G o a s) := by
  refine J_iload_n dX12_seen_0 rfl rfl ?_
  refine J_cSi [.int t] ms_X12_204 (c_X12_isHour (mW G o a s) t) rfl rfl (by decide) (Nat.le_of_ble_eq_true rfl) ⟨Nat.le_refl _, Nat.le_refl _⟩ dX12_seen_1 ?_
  refine J_if_eqB 28 dX12_seen_4 (by decide) (fun kcz1 => ?_) (fun kcz1 => ?_)
  · refine J_bipush (v := -2) dX12_seen_28 (by decide) ?_
    exact J_iret dX12_seen_30 rfl rfl rfl (hq s ((-2), (cn s)) (by simp [oSeen, seenOk, kcz1, cn_0, cn_1, cn_2, cn_4, cn_5, cn_6, cn_12, cn_13, cn_16, cn_21, cn_22]) rfl)
  · obtain ⟨T, hT, rfl⟩ := (rng_iff (by omega)).mp kcz1
    have eT : (nI T).toNatClampNeg = T := nI_clamp (by omega)
    refine J_iload_n dX12_seen_7 rfl rfl ?_
    refine J_cSi [.int e] ms_X12_136 (c_X12_isAnyone (mW G o a s) e) rfl rfl (by decide) (Nat.le_of_ble_eq_true rfl) ⟨Nat.le_refl _, Nat.le_refl _⟩ dX12_seen_8 ?_
    refine J_if_eqB 28 dX12_seen_11 (by decide) (fun kcz2 => ?_) (fun kcz2 => ?_)
    · refine J_bipush (v := -2) dX12_seen_28 (by decide) ?_
      exact J_iret dX12_seen_30 rfl rfl rfl (hq s ((-2), (cn s)) (by simp [oSeen, seenOk, kcz1, eT, kcz2, cn_0, cn_1, cn_2, cn_4, cn_5, cn_6, cn_12, cn_13, cn_16, cn_21, cn_22]) rfl)
    · obtain ⟨E, hE, rfl⟩ := (rng_iff (by omega)).mp kcz2
      have eE : (nI E).toNatClampNeg = E := nI_clamp (by omega)
      refine J_iload_n dX12_seen_14 rfl rfl ?_
      refine J_i2l dX12_seen_15 ?_
      refine J_ldc2 dX12_seen_16 k_X12_228 ?_
      refine J_ldc2 dX12_seen_19 k_X12_139 ?_
      refine J_cSi [.long h.toInt64, .long (-1), .long (7)] ms_X12_57 (c_X12_in (mW G o a s) h.toInt64 (-1) (7)) rfl rfl (by decide) (Nat.le_of_ble_eq_true rfl) ⟨Nat.le_refl _, Nat.le_refl _⟩ dX12_seen_22 ?_
      refine J_rw (y := bI (inI h (-1) (nI 7))) (congrArg bI (inL_inI h (-1) (nI 7))) ?_
      refine J_if_neB 31 dX12_seen_25 (by decide) (fun kcz3 => ?_) (fun kcz3 => ?_)
      · refine J_aload_n dX12_seen_31 rfl rfl ?_
        refine Mg_21 (s := s) (s 21 0) rfl dX12_seen_32 ?_
        refine J_rw (y := nI (sgn (cn s))) hL.S.1 ?_
        refine J_bipush (v := nI 8) dX12_seen_35 (by decide) ?_
        refine J_icmp_neN 43 (by have := hL.S.2.1; omega) (by omega) dX12_seen_37 (by decide) (fun kcz4 => ?_) (fun kcz4 => ?_)
        · refine J_aload_n dX12_seen_43 rfl rfl ?_
          refine Mg_22 dX12_seen_44 ?_
          refine J_iconst (v := nI 3) dX12_seen_47 (by decide) ?_
          refine J_aload_n dX12_seen_48 rfl rfl ?_
          refine Mg_21 (s := s) (s 21 0) rfl dX12_seen_49 ?_
          refine J_rw (y := nI (sgn (cn s))) hL.S.1 ?_
          refine J_imulN dX12_seen_52 ?_
          refine J_iload_n dX12_seen_53 rfl rfl ?_
          refine Ms_22 (s := s) (s 22) rfl (3 * (sgn (cn s))) rfl (by have := hL.S.2.1; omega) dX12_seen_54 ?_
          refine J_aload_n dX12_seen_55 rfl rfl ?_
          refine Mg_22 dX12_seen_56 ?_
          refine J_iconst (v := nI 3) dX12_seen_59 (by decide) ?_
          refine J_aload_n dX12_seen_60 rfl rfl ?_
          refine Mg_21 (s := (su 22 s (upd (s 22) (3 * (sgn (cn s))) (nI T)))) (s 21 0) rfl dX12_seen_61 ?_
          refine J_rw (y := nI (sgn (cn s))) hL.S.1 ?_
          refine J_imulN dX12_seen_64 ?_
          refine J_iconst (v := nI 1) dX12_seen_65 (by decide) ?_
          refine J_iaddN dX12_seen_66 ?_
          refine J_iload_n dX12_seen_67 rfl rfl ?_
          refine Ms_22 (s := (su 22 s (upd (s 22) (3 * (sgn (cn s))) (nI T)))) (upd (s 22) (3 * (sgn (cn s))) (nI T)) rfl (3 * (sgn (cn s)) + 1) rfl (by have := hL.S.2.1; omega) dX12_seen_68 ?_
          refine J_ws (ws2 := (mW G o a (su 22 s (upd (upd (s 22) (3 * (sgn (cn s))) (nI T)) (3 * (sgn (cn s)) + 1) (nI E))))) (congrArg (mW G o a) su_tw) ?_
          refine J_aload_n dX12_seen_69 rfl rfl ?_
          refine Mg_22 dX12_seen_70 ?_
          refine J_iconst (v := nI 3) dX12_seen_73 (by decide) ?_
          refine J_aload_n dX12_seen_74 rfl rfl ?_
          refine Mg_21 (s := (su 22 s (upd (upd (s 22) (3 * (sgn (cn s))) (nI T)) (3 * (sgn (cn s)) + 1) (nI E)))) (s 21 0) rfl dX12_seen_75 ?_
          refine J_rw (y := nI (sgn (cn s))) hL.S.1 ?_
          refine J_imulN dX12_seen_78 ?_
          refine J_iconst (v := nI 2) dX12_seen_79 (by decide) ?_
          refine J_iaddN dX12_seen_80 ?_
          refine J_iload_n dX12_seen_81 rfl rfl ?_
          refine Ms_22 (s := (su 22 s (upd (upd (s 22) (3 * (sgn (cn s))) (nI T)) (3 * (sgn (cn s)) + 1) (nI E)))) (upd (upd (s 22) (3 * (sgn (cn s))) (nI T)) (3 * (sgn (cn s)) + 1) (nI E)) rfl (3 * (sgn (cn s)) + 2) rfl (by have := hL.S.2.1; omega) dX12_seen_82 ?_
          refine J_ws (ws2 := (mW G o a (su 22 s (upd (upd (upd (s 22) (3 * (sgn (cn s))) (nI T)) (3 * (sgn (cn s)) + 1) (nI E)) (3 * (sgn (cn s)) + 2) h)))) (congrArg (mW G o a) su_tw) ?_
          refine J_aload_n dX12_seen_83 rfl rfl ?_
          refine J_dup dX12_seen_84 rfl ?_
          refine Mg_21 (s := (su 22 s (upd (upd (upd (s 22) (3 * (sgn (cn s))) (nI T)) (3 * (sgn (cn s)) + 1) (nI E)) (3 * (sgn (cn s)) + 2) h))) (s 21 0) rfl dX12_seen_85 ?_
          refine J_rw (y := nI (sgn (cn s))) hL.S.1 ?_
          refine J_iconst (v := nI 1) dX12_seen_88 (by decide) ?_
          refine J_iaddN dX12_seen_89 ?_
          refine Mp_21 dX12_seen_90 ?_
          refine J_ws (ws2 := (mW G o a (su 22 (su 21 s (fun _ => nI (sgn (cn s) + 1))) (upd (upd (upd (s 22) (3 * (sgn (cn s))) (nI T)) (3 * (sgn (cn s)) + 1) (nI E)) (3 * (sgn (cn s)) + 2) h)))) (congrArg (mW G o a) (su_sw (by decide))) ?_
          refine J_aload_n dX12_seen_93 rfl rfl ?_
          refine Mg_21 (s := (su 22 (su 21 s (fun _ => nI (sgn (cn s) + 1))) (upd (upd (upd (s 22) (3 * (sgn (cn s))) (nI T)) (3 * (sgn (cn s)) + 1) (nI E)) (3 * (sgn (cn s)) + 2) h))) (nI (sgn (cn s) + 1)) rfl dX12_seen_94 ?_
          exact J_iret dX12_seen_97 rfl rfl rfl (hq (su 22 (su 21 s (fun _ => nI (sgn (cn s) + 1))) (upd (upd (upd (s 22) (3 * (sgn (cn s))) (nI T)) (3 * (sgn (cn s)) + 1) (nI E)) (3 * (sgn (cn s)) + 2) h)) (nI (sgn (cn s) + 1), (su 22 (su 21 (cn s) (fun _ => nI (sgn (cn s) + 1))) (upd (upd (upd (s 22) (3 * (sgn (cn s))) (nI T)) (3 * (sgn (cn s)) + 1) (nI E)) (3 * (sgn (cn s)) + 2) h))) (by simp [oSeen, seenOk, kcz1, eT, kcz2, eE, kcz3, kcz4, cn_0, cn_1, cn_2, cn_4, cn_5, cn_6, cn_12, cn_13, cn_16, cn_21, cn_22]) (by rw [cnu_in (k := 22) rfl, cnu_in (k := 21) rfl]))
        · refine J_bipush (v := -4) dX12_seen_40 (by decide) ?_
          exact J_iret dX12_seen_42 rfl rfl rfl (hq s ((-4), (cn s)) (by simp [oSeen, seenOk, kcz1, eT, kcz2, eE, kcz3, kcz4, cn_0, cn_1, cn_2, cn_4, cn_5, cn_6, cn_12, cn_13, cn_16, cn_21, cn_22]) rfl)
      · refine J_bipush (v := -2) dX12_seen_28 (by decide) ?_
        exact J_iret dX12_seen_30 rfl rfl rfl (hq s ((-2), (cn s)) (by simp [oSeen, seenOk, kcz1, eT, kcz2, eE, kcz3, cn_0, cn_1, cn_2, cn_4, cn_5, cn_6, cn_12, cn_13, cn_16, cn_21, cn_22]) rfl)
theorem c_X12_seen {G : GT} (o : Nat) (a : Nat → Nat) (s : Nat → Nat → Int32) (hL : LI (cn s)) (t e h : Int32) : Ct G yX12_seen cX12_seen 4 (some .int) 0 0 2 [.ref o, .int t, .int e, .int h] (mW G o a s) (QM G o a (oSeen t e h (cn s))) := Ct.of rfl (Nat.le_of_ble_eq_true rfl) (j_X12_seen o a s hL t e h (fun x r h1 h2 => ⟨x, by rw [h1], rfl, by rw [← h1]; exact h2⟩))
set_option maxRecDepth 100000 in
set_option maxHeartbeats 1000000 in
theorem j_X12_forget {G : GT} (o : Nat) (a : Nat → Nat) (s : Nat → Nat → Int32) (hL : LI (cn s)) {Q : Option Value → va_W → Prop} (hq : ∀ (x : St) (r : Int32 × St), r = oForget (cn s) → cn x = r.2 → Q (some (.int r.1)) (mW G o a x)) : J G "forget" RX12 cX12_forget 2 (some .int) 0 0 0 Q 0 0 0 [(0, .ref o)] [] (mW G o a s) := by
  refine J_aload_n dX12_forget_0 rfl rfl ?_
  refine Mg_21 (s := s) (s 21 0) rfl dX12_forget_1 ?_
  refine J_rw (y := nI (sgn (cn s))) hL.S.1 ?_
  refine J_istore_n [(0, .ref o), (1, .int (nI (sgn (cn s))))] dX12_forget_4 rfl (by decide) rfl rfl rfl ?_
  refine J_aload_n dX12_forget_5 rfl rfl ?_
  refine J_iconst (v := nI 0) dX12_forget_6 (by decide) ?_
  refine Mp_21 dX12_forget_7 ?_
  refine J_iload_n dX12_forget_10 rfl rfl ?_
  exact J_iret dX12_forget_11 rfl rfl rfl (hq (su 21 s (fun _ => nI 0)) (nI (sgn (cn s)), (su 21 (cn s) (fun _ => nI 0))) (by simp [oForget, if_pos, cn_0, cn_1, cn_2, cn_4, cn_5, cn_6, cn_12, cn_13, cn_16, cn_21, cn_22]) (by rw [cnu_in (k := 21) rfl]))
theorem c_X12_forget {G : GT} (o : Nat) (a : Nat → Nat) (s : Nat → Nat → Int32) (hL : LI (cn s)) : Ct G yX12_forget cX12_forget 2 (some .int) 0 0 0 [.ref o] (mW G o a s) (QM G o a (oForget (cn s))) := Ct.of rfl (Nat.le_of_ble_eq_true rfl) (j_X12_forget o a s hL (fun x r h1 h2 => ⟨x, by rw [h1], rfl, by rw [← h1]; exact h2⟩))
set_option maxRecDepth 100000 in
set_option maxHeartbeats 1000000 in
theorem j_X12_part {G : GT} (o : Nat) (a : Nat → Nat) (s : Nat → Nat → Int32) (hL : LI (cn s)) (p q w : Int32) {Q : Option Value → va_W → Prop} (hq : ∀ (x : St) (r : Int32 × St), r = (qPart p q w (cn s), (cn s)) → cn x = r.2 → Q (some (.int r.1)) (mW G o a x)) : J G "part" RX12 cX12_part 4 (some .int) 0 0 3 Q 0 0 0 [(0, .ref o), (1, .int p), (2, .int q), (3, .int w)] [] (mW G o a s) := by
  refine J_iload_n dX12_part_0 rfl rfl ?_
  refine J_cSi [.int p] ms_X12_136 (c_X12_isAnyone (mW G o a s) p) rfl rfl (by decide) (Nat.le_of_ble_eq_true rfl) ⟨Nat.le_refl _, Nat.le_refl _⟩ dX12_part_1 ?_
  refine J_if_eqB 36 dX12_part_4 (by decide) (fun kcz1 => ?_) (fun kcz1 => ?_)
  · refine J_bipush (v := -2) dX12_part_36 (by decide) ?_
    exact J_iret dX12_part_38 rfl rfl rfl (hq s ((-2), (cn s)) (by simp [qPart, prS, kcz1, cn_0, cn_1, cn_2, cn_4, cn_5, cn_6, cn_12, cn_13, cn_16, cn_21, cn_22]) rfl)
  · obtain ⟨A, hA, rfl⟩ := (rng_iff (by omega)).mp kcz1
    have eA : (nI A).toNatClampNeg = A := nI_clamp (by omega)
    refine J_iload_n dX12_part_7 rfl rfl ?_
    refine J_cSi [.int q] ms_X12_136 (c_X12_isAnyone (mW G o a s) q) rfl rfl (by decide) (Nat.le_of_ble_eq_true rfl) ⟨Nat.le_refl _, Nat.le_refl _⟩ dX12_part_8 ?_
    refine J_if_eqB 36 dX12_part_11 (by decide) (fun kcz2 => ?_) (fun kcz2 => ?_)
    · refine J_bipush (v := -2) dX12_part_36 (by decide) ?_
      exact J_iret dX12_part_38 rfl rfl rfl (hq s ((-2), (cn s)) (by simp [qPart, prS, kcz1, eA, kcz2, cn_0, cn_1, cn_2, cn_4, cn_5, cn_6, cn_12, cn_13, cn_16, cn_21, cn_22]) rfl)
    · obtain ⟨B, hB, rfl⟩ := (rng_iff (by omega)).mp kcz2
      have eB : (nI B).toNatClampNeg = B := nI_clamp (by omega)
      refine J_iload_n dX12_part_14 rfl rfl ?_
      refine J_iload_n dX12_part_15 rfl rfl ?_
      refine J_icmp_eqN 36 (by omega) (by omega) dX12_part_16 (by decide) (fun kcz3 => ?_) (fun kcz3 => ?_)
      · refine J_bipush (v := -2) dX12_part_36 (by decide) ?_
        exact J_iret dX12_part_38 rfl rfl rfl (hq s ((-2), (cn s)) (by simp [qPart, prS, kcz1, eA, kcz2, eB, kcz3, cn_0, cn_1, cn_2, cn_4, cn_5, cn_6, cn_12, cn_13, cn_16, cn_21, cn_22]) rfl)
      · refine J_iload_n dX12_part_19 rfl rfl ?_
        refine J_cSi [.int w] ms_X12_233 (c_X12_isTwo (mW G o a s) w) rfl rfl (by decide) (Nat.le_of_ble_eq_true rfl) ⟨Nat.le_refl _, Nat.le_refl _⟩ dX12_part_20 ?_
        refine J_if_eqB 36 dX12_part_23 (by decide) (fun kcz4 => ?_) (fun kcz4 => ?_)
        · refine J_bipush (v := -2) dX12_part_36 (by decide) ?_
          exact J_iret dX12_part_38 rfl rfl rfl (hq s ((-2), (cn s)) (by simp [qPart, prS, kcz1, eA, kcz2, eB, kcz3, kcz4, cn_0, cn_1, cn_2, cn_4, cn_5, cn_6, cn_12, cn_13, cn_16, cn_21, cn_22]) rfl)
        · obtain ⟨Wn, hWn, rfl⟩ := (rng_iff (by omega)).mp kcz4
          have eWn : (nI Wn).toNatClampNeg = Wn := nI_clamp (by omega)
          rcases (show Wn = 0 ∨ Wn = 1 by omega) with rfl | rfl
          · refine J_aload_n dX12_part_26 rfl rfl ?_
            refine J_iload_n dX12_part_27 rfl rfl ?_
            refine J_iload_n dX12_part_28 rfl rfl ?_
            refine J_iload_n dX12_part_29 rfl rfl ?_
            refine J_cVi (x := yX12_in) [.int (nI A), .int (nI B), .int (nI 0)] 0 mv_X12_245 (c_X12_partOf0 o a s A B (by omega) (by omega)) mW_0 rfl rfl (by decide) (Nat.le_of_ble_eq_true rfl) ⟨Nat.le_refl _, Nat.le_refl _⟩ dX12_part_30 ?_
            refine J_goto 38 dX12_part_33 (by decide) ?_
            exact J_iret dX12_part_38 rfl rfl rfl (hq s ((prF (s 16) A B 128).1, (cn s)) (by simp [qPart, prS, nI_eq (show A < 2 ^ 31 by omega) (show B < 2 ^ 31 by omega), kcz1, eA, kcz2, eB, kcz3, kcz4, eWn, cn_0, cn_1, cn_2, cn_4, cn_5, cn_6, cn_12, cn_13, cn_16, cn_21, cn_22]) rfl)
          · refine J_aload_n dX12_part_26 rfl rfl ?_
            refine J_iload_n dX12_part_27 rfl rfl ?_
            refine J_iload_n dX12_part_28 rfl rfl ?_
            refine J_iload_n dX12_part_29 rfl rfl ?_
            refine J_cVi (x := yX12_in) [.int (nI A), .int (nI B), .int (nI 1)] 0 mv_X12_245 (c_X12_partOf1 o a s A B (by omega) (by omega)) mW_0 rfl rfl (by decide) (Nat.le_of_ble_eq_true rfl) ⟨Nat.le_refl _, Nat.le_refl _⟩ dX12_part_30 ?_
            refine J_goto 38 dX12_part_33 (by decide) ?_
            exact J_iret dX12_part_38 rfl rfl rfl (hq s ((prF (s 16) A B 128).2, (cn s)) (by simp [qPart, prS, nI_eq (show A < 2 ^ 31 by omega) (show B < 2 ^ 31 by omega), kcz1, eA, kcz2, eB, kcz3, kcz4, eWn, cn_0, cn_1, cn_2, cn_4, cn_5, cn_6, cn_12, cn_13, cn_16, cn_21, cn_22]) rfl)
theorem c_X12_part {G : GT} (o : Nat) (a : Nat → Nat) (s : Nat → Nat → Int32) (hL : LI (cn s)) (p q w : Int32) : Ct G yX12_part cX12_part 4 (some .int) 0 0 3 [.ref o, .int p, .int q, .int w] (mW G o a s) (QM G o a ((qPart p q w (cn s), (cn s)))) := Ct.of rfl (Nat.le_of_ble_eq_true rfl) (j_X12_part o a s hL p q w (fun x r h1 h2 => ⟨x, by rw [h1], rfl, by rw [← h1]; exact h2⟩))
set_option maxRecDepth 100000 in
set_option maxHeartbeats 1000000 in
theorem j_X12_finds {G : GT} (o : Nat) (a : Nat → Nat) (s : Nat → Nat → Int32) (k : Nat) {Q : Option Value → va_W → Prop} (hq : ∀ v_ : Int32, v_ = (-10) - nI k → Q (some (.int v_)) (mW G o a (su 4 s (fun _ => nI k)))) : J G "finds" RX12 cX12_finds 2 (some .int) 0 0 0 Q 0 0 0 [(0, .ref o), (1, .int (nI k))] [] (mW G o a s) := by
  refine J_aload_n dX12_finds_0 rfl rfl ?_
  refine J_iload_n dX12_finds_1 rfl rfl ?_
  refine Mp_4 dX12_finds_2 ?_
  refine J_bipush (v := -10) dX12_finds_5 (by decide) ?_
  refine J_iload_n dX12_finds_7 rfl rfl ?_
  refine J_isub dX12_finds_8 ?_
  exact J_iret dX12_finds_9 rfl rfl rfl (hq _ (by simp []))
theorem c_X12_finds {G : GT} (o : Nat) (a : Nat → Nat) (s : Nat → Nat → Int32) (k : Nat) : Ct G yX12_finds cX12_finds 2 (some .int) 0 0 0 [.ref o, .int (nI k)] (mW G o a s) (Is (some (.int ((-10) - nI k))) (mW G o a (su 4 s (fun _ => nI k)))) := Ct.of rfl (Nat.le_of_ble_eq_true rfl) (j_X12_finds o a s k (fun _ e => by subst e; exact Is.rf _ _))
set_option maxRecDepth 100000 in
set_option maxHeartbeats 1000000 in
theorem j_X12_cut {G : GT} (ws : va_W) (f v : Int32) {Q : Option Value → va_W → Prop} (hq : ∀ v_ : Int32, v_ = cutM f v → Q (some (.int v_)) ws) : J G "cut" RX12 cX12_cut 2 (some .int) 0 0 0 Q 0 0 0 [(0, .int f), (1, .int v)] [] ws := by
  refine J_iload_n dX12_cut_0 rfl rfl ?_
  refine J_if_ne 9 dX12_cut_1 (by decide) (fun kcz1 => ?_) (fun kcz1 => ?_)
  · refine J_iload_n dX12_cut_9 rfl rfl ?_
    refine J_iconst (v := nI 1) dX12_cut_10 (by decide) ?_
    refine J_icmp_ne 19 dX12_cut_11 (by decide) (fun kcz2 => ?_) (fun kcz2 => ?_)
    · refine J_iload_n dX12_cut_19 rfl rfl ?_
      exact J_iret dX12_cut_20 rfl rfl rfl (hq _ (by simp [cutM, nI0e, n1_ne0, kcz1, kcz2]))
    · refine J_iload_n dX12_cut_14 rfl rfl ?_
      refine J_i2s dX12_cut_15 ?_
      refine J_goto 20 dX12_cut_16 (by decide) ?_
      exact J_iret dX12_cut_20 rfl rfl rfl (hq _ (by simp [cutM, nI0e, n1_ne0, kcz1, kcz2]))
  · refine J_iload_n dX12_cut_4 rfl rfl ?_
    refine J_i2b dX12_cut_5 ?_
    refine J_goto 20 dX12_cut_6 (by decide) ?_
    exact J_iret dX12_cut_20 rfl rfl rfl (hq _ (by simp [cutM, nI0e, n1_ne0, kcz1]))
theorem c_X12_cut {G : GT} (ws : va_W) (f v : Int32) : Ct G yX12_cut cX12_cut 2 (some .int) 0 0 0 [.int f, .int v] ws (Is (some (.int (cutM f v))) ws) := Ct.of rfl (Nat.le_of_ble_eq_true rfl) (j_X12_cut ws f v (fun _ e => by subst e; exact Is.rf _ _))
set_option maxRecDepth 100000 in
set_option maxHeartbeats 1000000 in
theorem j_X12_no {G : GT} (ws : va_W) {Q : Option Value → va_W → Prop} (hq : ∀ v_ : Int64, v_ = -9223372036854775806 → Q (some (.long v_)) ws) : J G "no" RX12 cX12_no 1 (some .long) 0 0 0 Q 0 0 0 [(0, .int (-2))] [] ws := by
  refine J_ldc2 dX12_no_0 k_X12_55 ?_
  refine J_iload_n dX12_no_3 rfl rfl ?_
  refine J_i2l dX12_no_4 ?_
  refine J_lsub dX12_no_5 ?_
  exact J_lret dX12_no_6 rfl rfl rfl (hq _ (by decide))
theorem c_X12_no {G : GT} (ws : va_W) : Ct G yX12_no cX12_no 1 (some .long) 0 0 0 [.int (-2)] ws (Is (some (.long (-9223372036854775806))) ws) := Ct.of rfl (Nat.le_of_ble_eq_true rfl) (j_X12_no ws (fun _ e => by subst e; exact Is.rf _ _))
set_option maxRecDepth 100000 in
set_option maxHeartbeats 1000000 in
theorem j_X12_lacks0 {G : GT} (o : Nat) (a : Nat → Nat) (s : Nat → Nat → Int32) (v : Nat) (f i : Int32) (hv4 : v < 4) (hsz : ∃ z, z ≤ 60 ∧ s 1 v = nI z) (hk : lkM v f i s = 0) {Q : Option Value → va_W → Prop} (hq : ∀ v_ : Int32, v_ = nI 0 → Q (some (.int v_)) (mW G o a s)) : J G "lacks" RX12 cX12_lacks 4 (some .int) 0 0 1 Q 0 0 0 [(0, .ref o), (1, .int (nI v)), (2, .int f), (3, .int i)] [] (mW G o a s) := by
  refine J_aload_n dX12_lacks_0 rfl rfl ?_
  refine Mg_0 dX12_lacks_1 ?_
  refine J_iload_n dX12_lacks_4 rfl rfl ?_
  refine Ml_0 (s := s) (s 0) rfl v rfl (by omega) dX12_lacks_5 ?_
  refine J_if_ge 15 dX12_lacks_6 (by decide) (fun kcz1 => ?_) (fun kcz1 => ?_)
  · refine J_aload_n dX12_lacks_15 rfl rfl ?_
    refine Mg_0 dX12_lacks_16 ?_
    refine J_iload_n dX12_lacks_19 rfl rfl ?_
    refine Ml_0 (s := s) (s 0) rfl v rfl (by omega) dX12_lacks_20 ?_
    refine J_iload_n dX12_lacks_21 rfl rfl ?_
    refine J_icmp_eq 31 dX12_lacks_22 (by decide) (fun kcz2 => ?_) (fun kcz2 => ?_)
    · refine J_iload_n dX12_lacks_31 rfl rfl ?_
      refine J_i2l dX12_lacks_32 ?_
      refine J_lconst (v := 0) dX12_lacks_33 (by decide) ?_
      refine J_aload_n dX12_lacks_34 rfl rfl ?_
      refine Mg_1 dX12_lacks_35 ?_
      refine J_iload_n dX12_lacks_38 rfl rfl ?_
      refine Ml_1 (s := s) (s 1) rfl v rfl (by omega) dX12_lacks_39 ?_
      refine J_iconst (v := nI 1) dX12_lacks_40 (by decide) ?_
      refine J_isub dX12_lacks_41 ?_
      refine J_i2l dX12_lacks_42 ?_
      refine J_cSi [.long i.toInt64, .long 0, .long (((s 1 v) - (nI 1)).toInt64)] ms_X12_57 (c_X12_in (mW G o a s) i.toInt64 0 (((s 1 v) - (nI 1)).toInt64)) rfl rfl (by decide) (Nat.le_of_ble_eq_true rfl) ⟨Nat.le_refl _, Nat.le_refl _⟩ dX12_lacks_43 ?_
      refine J_rw (y := bI (rngI i (s 1 v))) (congrArg bI (by obtain ⟨z9, hz9, ez9⟩ := hsz; rw [ez9]; exact inL_rng i (by omega) rfl)) ?_
      refine J_if_eqB 53 dX12_lacks_46 (by decide) (fun kcz3 => ?_) (fun kcz3 => ?_)
      · refine J_aload_n dX12_lacks_53 rfl rfl ?_
        refine J_iconst (v := nI 2) dX12_lacks_54 (by decide) ?_
        refine J_cVi (x := yX12_in) [.int (nI 2)] 0 mv_X12_73 (c_X12_finds o a s 2) mW_0 rfl rfl (by decide) (Nat.le_of_ble_eq_true rfl) ⟨Nat.le_refl _, Nat.le_refl _⟩ dX12_lacks_55 ?_
        show J G "lacks" RX12 cX12_lacks 4 (some .int) 0 0 1 Q 0 0 58 [(0, .ref o), (1, .int (nI v)), (2, .int f), (3, .int i)] [.int ((-10) - nI 2)] (mW G o a (su 4 s (fun _ => nI 2)))
        exact J_iret dX12_lacks_58 rfl rfl rfl (absurd hk (by rw [lkM, if_pos kcz1, if_pos kcz2, if_neg (by rw [kcz3]; decide)]; decide))
      · refine J_iconst (v := nI 0) dX12_lacks_49 (by decide) ?_
        refine J_goto 58 dX12_lacks_50 (by decide) ?_
        exact J_iret dX12_lacks_58 rfl rfl rfl (hq _ rfl)
    · refine J_aload_n dX12_lacks_25 rfl rfl ?_
      refine J_iconst (v := nI 3) dX12_lacks_26 (by decide) ?_
      refine J_cVi (x := yX12_in) [.int (nI 3)] 0 mv_X12_73 (c_X12_finds o a s 3) mW_0 rfl rfl (by decide) (Nat.le_of_ble_eq_true rfl) ⟨Nat.le_refl _, Nat.le_refl _⟩ dX12_lacks_27 ?_
      show J G "lacks" RX12 cX12_lacks 4 (some .int) 0 0 1 Q 0 0 30 [(0, .ref o), (1, .int (nI v)), (2, .int f), (3, .int i)] [.int ((-10) - nI 3)] (mW G o a (su 4 s (fun _ => nI 3)))
      exact J_iret dX12_lacks_30 rfl rfl rfl (absurd hk (by rw [lkM, if_pos kcz1, if_neg kcz2]; decide))
  · refine J_aload_n dX12_lacks_9 rfl rfl ?_
    refine J_iconst (v := nI 1) dX12_lacks_10 (by decide) ?_
    refine J_cVi (x := yX12_in) [.int (nI 1)] 0 mv_X12_73 (c_X12_finds o a s 1) mW_0 rfl rfl (by decide) (Nat.le_of_ble_eq_true rfl) ⟨Nat.le_refl _, Nat.le_refl _⟩ dX12_lacks_11 ?_
    show J G "lacks" RX12 cX12_lacks 4 (some .int) 0 0 1 Q 0 0 14 [(0, .ref o), (1, .int (nI v)), (2, .int f), (3, .int i)] [.int ((-10) - nI 1)] (mW G o a (su 4 s (fun _ => nI 1)))
    exact J_iret dX12_lacks_14 rfl rfl rfl (absurd hk (by rw [lkM, if_neg kcz1]; decide))
theorem c_X12_lacks0 {G : GT} (o : Nat) (a : Nat → Nat) (s : Nat → Nat → Int32) (v : Nat) (f i : Int32) (hv4 : v < 4) (hsz : ∃ z, z ≤ 60 ∧ s 1 v = nI z) (hk : lkM v f i s = 0) : Ct G yX12_lacks cX12_lacks 4 (some .int) 0 0 1 [.ref o, .int (nI v), .int f, .int i] (mW G o a s) (Is (some (.int (nI 0))) (mW G o a s)) := Ct.of rfl (Nat.le_of_ble_eq_true rfl) (j_X12_lacks0 o a s v f i hv4 hsz hk (fun _ e => by subst e; exact Is.rf _ _))
set_option maxRecDepth 100000 in
set_option maxHeartbeats 1000000 in
theorem j_X12_lacksX {G : GT} (o : Nat) (a : Nat → Nat) (s : Nat → Nat → Int32) (v : Nat) (f i : Int32) (hv4 : v < 4) (hsz : ∃ z, z ≤ 60 ∧ s 1 v = nI z) (hk : ¬ lkM v f i s = 0) {Q : Option Value → va_W → Prop} (hq : ∀ v_ : Int32, v_ = (-10) - nI (lkM v f i s) → Q (some (.int v_)) (mW G o a (su 4 s (fun _ => nI (lkM v f i s))))) : J G "lacks" RX12 cX12_lacks 4 (some .int) 0 0 1 Q 0 0 0 [(0, .ref o), (1, .int (nI v)), (2, .int f), (3, .int i)] [] (mW G o a s) := by
  refine J_aload_n dX12_lacks_0 rfl rfl ?_
  refine Mg_0 dX12_lacks_1 ?_
  refine J_iload_n dX12_lacks_4 rfl rfl ?_
  refine Ml_0 (s := s) (s 0) rfl v rfl (by omega) dX12_lacks_5 ?_
  refine J_if_ge 15 dX12_lacks_6 (by decide) (fun kcz1 => ?_) (fun kcz1 => ?_)
  · refine J_aload_n dX12_lacks_15 rfl rfl ?_
    refine Mg_0 dX12_lacks_16 ?_
    refine J_iload_n dX12_lacks_19 rfl rfl ?_
    refine Ml_0 (s := s) (s 0) rfl v rfl (by omega) dX12_lacks_20 ?_
    refine J_iload_n dX12_lacks_21 rfl rfl ?_
    refine J_icmp_eq 31 dX12_lacks_22 (by decide) (fun kcz2 => ?_) (fun kcz2 => ?_)
    · refine J_iload_n dX12_lacks_31 rfl rfl ?_
      refine J_i2l dX12_lacks_32 ?_
      refine J_lconst (v := 0) dX12_lacks_33 (by decide) ?_
      refine J_aload_n dX12_lacks_34 rfl rfl ?_
      refine Mg_1 dX12_lacks_35 ?_
      refine J_iload_n dX12_lacks_38 rfl rfl ?_
      refine Ml_1 (s := s) (s 1) rfl v rfl (by omega) dX12_lacks_39 ?_
      refine J_iconst (v := nI 1) dX12_lacks_40 (by decide) ?_
      refine J_isub dX12_lacks_41 ?_
      refine J_i2l dX12_lacks_42 ?_
      refine J_cSi [.long i.toInt64, .long 0, .long (((s 1 v) - (nI 1)).toInt64)] ms_X12_57 (c_X12_in (mW G o a s) i.toInt64 0 (((s 1 v) - (nI 1)).toInt64)) rfl rfl (by decide) (Nat.le_of_ble_eq_true rfl) ⟨Nat.le_refl _, Nat.le_refl _⟩ dX12_lacks_43 ?_
      refine J_rw (y := bI (rngI i (s 1 v))) (congrArg bI (by obtain ⟨z9, hz9, ez9⟩ := hsz; rw [ez9]; exact inL_rng i (by omega) rfl)) ?_
      refine J_if_eqB 53 dX12_lacks_46 (by decide) (fun kcz3 => ?_) (fun kcz3 => ?_)
      · refine J_aload_n dX12_lacks_53 rfl rfl ?_
        refine J_iconst (v := nI 2) dX12_lacks_54 (by decide) ?_
        refine J_cVi (x := yX12_in) [.int (nI 2)] 0 mv_X12_73 (c_X12_finds o a s 2) mW_0 rfl rfl (by decide) (Nat.le_of_ble_eq_true rfl) ⟨Nat.le_refl _, Nat.le_refl _⟩ dX12_lacks_55 ?_
        show J G "lacks" RX12 cX12_lacks 4 (some .int) 0 0 1 Q 0 0 58 [(0, .ref o), (1, .int (nI v)), (2, .int f), (3, .int i)] [.int ((-10) - nI 2)] (mW G o a (su 4 s (fun _ => nI 2)))
        exact J_iret dX12_lacks_58 rfl rfl rfl (by have e9 : lkM v f i s = 2 := (by rw [lkM, if_pos kcz1, if_pos kcz2, if_neg (by rw [kcz3]; decide)]); rw [e9] at hq; exact hq _ rfl)
      · refine J_iconst (v := nI 0) dX12_lacks_49 (by decide) ?_
        refine J_goto 58 dX12_lacks_50 (by decide) ?_
        exact J_iret dX12_lacks_58 rfl rfl rfl (absurd (by rw [lkM, if_pos kcz1, if_pos kcz2, if_pos kcz3]) hk)
    · refine J_aload_n dX12_lacks_25 rfl rfl ?_
      refine J_iconst (v := nI 3) dX12_lacks_26 (by decide) ?_
      refine J_cVi (x := yX12_in) [.int (nI 3)] 0 mv_X12_73 (c_X12_finds o a s 3) mW_0 rfl rfl (by decide) (Nat.le_of_ble_eq_true rfl) ⟨Nat.le_refl _, Nat.le_refl _⟩ dX12_lacks_27 ?_
      show J G "lacks" RX12 cX12_lacks 4 (some .int) 0 0 1 Q 0 0 30 [(0, .ref o), (1, .int (nI v)), (2, .int f), (3, .int i)] [.int ((-10) - nI 3)] (mW G o a (su 4 s (fun _ => nI 3)))
      exact J_iret dX12_lacks_30 rfl rfl rfl (by have e9 : lkM v f i s = 3 := (by rw [lkM, if_pos kcz1, if_neg kcz2]); rw [e9] at hq; exact hq _ rfl)
  · refine J_aload_n dX12_lacks_9 rfl rfl ?_
    refine J_iconst (v := nI 1) dX12_lacks_10 (by decide) ?_
    refine J_cVi (x := yX12_in) [.int (nI 1)] 0 mv_X12_73 (c_X12_finds o a s 1) mW_0 rfl rfl (by decide) (Nat.le_of_ble_eq_true rfl) ⟨Nat.le_refl _, Nat.le_refl _⟩ dX12_lacks_11 ?_
    show J G "lacks" RX12 cX12_lacks 4 (some .int) 0 0 1 Q 0 0 14 [(0, .ref o), (1, .int (nI v)), (2, .int f), (3, .int i)] [.int ((-10) - nI 1)] (mW G o a (su 4 s (fun _ => nI 1)))
    exact J_iret dX12_lacks_14 rfl rfl rfl (by have e9 : lkM v f i s = 1 := (by rw [lkM, if_neg kcz1]); rw [e9] at hq; exact hq _ rfl)
theorem c_X12_lacksX {G : GT} (o : Nat) (a : Nat → Nat) (s : Nat → Nat → Int32) (v : Nat) (f i : Int32) (hv4 : v < 4) (hsz : ∃ z, z ≤ 60 ∧ s 1 v = nI z) (hk : ¬ lkM v f i s = 0) : Ct G yX12_lacks cX12_lacks 4 (some .int) 0 0 1 [.ref o, .int (nI v), .int f, .int i] (mW G o a s) (Is (some (.int ((-10) - nI (lkM v f i s)))) (mW G o a (su 4 s (fun _ => nI (lkM v f i s))))) := Ct.of rfl (Nat.le_of_ble_eq_true rfl) (j_X12_lacksX o a s v f i hv4 hsz hk (fun _ e => by subst e; exact Is.rf _ _))
set_option maxRecDepth 100000 in
set_option maxHeartbeats 1000000 in
theorem j_X12_lay {G : GT} (o : Nat) (a : Nat → Nat) (s : Nat → Nat → Int32) (hL : LI (cn s)) (v f i z : Int32) {Q : Option Value → va_W → Prop} (hq : ∀ (x : St) (r : Int32 × St), r = oLay v f i z (cn s) → cn x = r.2 → Q (some (.int r.1)) (mW G o a x)) : J G "lay" RX12 cX12_lay 6 (some .int) 0 0 2 Q 0 0 0 [(0, .ref o), (1, .int v), (2, .int f), (3, .int i), (4, .int z)] [] (mW G o a s) := by
  refine J_iload_n dX12_lay_0 rfl rfl ?_
  refine J_cSi [.int v] ms_X12_67 (c_X12_isSheet (mW G o a s) v) rfl rfl (by decide) (Nat.le_of_ble_eq_true rfl) ⟨Nat.le_refl _, Nat.le_refl _⟩ dX12_lay_1 ?_
  refine J_if_eqB 19 dX12_lay_4 (by decide) (fun kcz1 => ?_) (fun kcz1 => ?_)
  · refine J_bipush (v := -2) dX12_lay_19 (by decide) ?_
    exact J_iret dX12_lay_21 rfl rfl rfl (hq s ((-2), (cn s)) (by simp [oLay, fnd, lkM_cn, kcz1, cn_0, cn_1, cn_2, cn_4, cn_5, cn_6, cn_12, cn_13, cn_16, cn_21, cn_22]) rfl)
  · obtain ⟨V, hV, rfl⟩ := (rng_iff (by omega)).mp kcz1
    have eV : (nI V).toNatClampNeg = V := nI_clamp (by omega)
    refine J_iload_n dX12_lay_7 rfl rfl ?_
    refine J_i2l dX12_lay_8 ?_
    refine J_lconst (v := 0) dX12_lay_9 (by decide) ?_
    refine J_ldc2 dX12_lay_10 k_X12_71 ?_
    refine J_cSi [.long f.toInt64, .long 0, .long (2)] ms_X12_57 (c_X12_in (mW G o a s) f.toInt64 0 (2)) rfl rfl (by decide) (Nat.le_of_ble_eq_true rfl) ⟨Nat.le_refl _, Nat.le_refl _⟩ dX12_lay_13 ?_
    refine J_rw (y := bI (rng f 3)) (congrArg bI (inL_rng f (by decide) rfl)) ?_
    refine J_if_neB 22 dX12_lay_16 (by decide) (fun kcz2 => ?_) (fun kcz2 => ?_)
    · obtain ⟨F, hF, rfl⟩ := (rng_iff (by omega)).mp kcz2
      have eF : (nI F).toNatClampNeg = F := nI_clamp (by omega)
      by_cases ksz3 : lkM V (nI F) i s = 0
      · refine J_aload_n dX12_lay_22 rfl rfl ?_
        refine J_iload_n dX12_lay_23 rfl rfl ?_
        refine J_iload_n dX12_lay_24 rfl rfl ?_
        refine J_iload_n dX12_lay_25 rfl rfl ?_
        refine J_cVi (x := yX12_in) [.int (nI V), .int (nI F), .int i] 0 mv_X12_77 (c_X12_lacks0 o a s V (nI F) i (by omega) (hL.H (by omega)).2 ksz3) mW_0 rfl rfl (by decide) (Nat.le_of_ble_eq_true rfl) ⟨Nat.le_refl _, Nat.le_refl _⟩ dX12_lay_26 ?_
        refine J_istore [(0, .ref o), (1, .int (nI V)), (2, .int (nI F)), (3, .int i), (4, .int z), (5, .int (nI 0))] dX12_lay_29 (by decide) rfl rfl rfl ?_
        refine J_iload dX12_lay_31 rfl ?_
        refine J_if_eq 39 dX12_lay_33 (by decide) (fun _ => ?_) (fun c => absurd c (by decide))
        obtain ⟨I9, hI9, rfl⟩ := lkM_in (hL.H (by omega)).2 ksz3
        have eI9 : (nI I9).toNatClampNeg = I9 := nI_clamp (by omega)
        refine J_aload_n dX12_lay_39 rfl rfl ?_
        refine Mg_2 dX12_lay_40 ?_
        refine J_bipush (v := nI 60) dX12_lay_43 (by decide) ?_
        refine J_iload_n dX12_lay_45 rfl rfl ?_
        refine J_imulN dX12_lay_46 ?_
        refine J_iload_n dX12_lay_47 rfl rfl ?_
        refine J_iaddN dX12_lay_48 ?_
        refine J_iload_n dX12_lay_49 rfl rfl ?_
        refine J_iload dX12_lay_50 rfl ?_
        refine J_cSi [.int (nI F), .int z] ms_X12_81 (c_X12_cut (mW G o a s) (nI F) z) rfl rfl (by decide) (Nat.le_of_ble_eq_true rfl) ⟨Nat.le_refl _, Nat.le_refl _⟩ dX12_lay_52 ?_
        refine Ms_2 (s := s) (s 2) rfl (60 * V + I9) rfl (by omega) dX12_lay_55 ?_
        refine J_iconst (v := nI 1) dX12_lay_56 (by decide) ?_
        exact J_iret dX12_lay_57 rfl rfl rfl (hq (su 2 s (upd (s 2) (60 * V + I9) (cutM (nI F) z))) (nI 1, (su 2 (cn s) (upd (s 2) (60 * V + I9) (cutM (nI F) z)))) (by simp [oLay, fnd, lkM_cn, kcz1, eV, kcz2, eF, ksz3, eI9, cn_0, cn_1, cn_2, cn_4, cn_5, cn_6, cn_12, cn_13, cn_16, cn_21, cn_22]) (by rw [cnu_in (k := 2) rfl]))
      · refine J_aload_n dX12_lay_22 rfl rfl ?_
        refine J_iload_n dX12_lay_23 rfl rfl ?_
        refine J_iload_n dX12_lay_24 rfl rfl ?_
        refine J_iload_n dX12_lay_25 rfl rfl ?_
        refine J_cVi (x := yX12_in) [.int (nI V), .int (nI F), .int i] 0 mv_X12_77 (c_X12_lacksX o a s V (nI F) i (by omega) (hL.H (by omega)).2 ksz3) mW_0 rfl rfl (by decide) (Nat.le_of_ble_eq_true rfl) ⟨Nat.le_refl _, Nat.le_refl _⟩ dX12_lay_26 ?_
        show J G "lay" RX12 cX12_lay 6 (some .int) 0 0 2 Q 0 0 29 [(0, .ref o), (1, .int (nI V)), (2, .int (nI F)), (3, .int i), (4, .int z)] [.int ((-10) - nI (lkM V (nI F) i s))] (mW G o a (su 4 s (fun _ => nI (lkM V (nI F) i s))))
        refine J_istore [(0, .ref o), (1, .int (nI V)), (2, .int (nI F)), (3, .int i), (4, .int z), (5, .int ((-10) - nI (lkM V (nI F) i s)))] dX12_lay_29 (by decide) rfl rfl rfl ?_
        refine J_iload dX12_lay_31 rfl ?_
        refine J_if_eq 39 dX12_lay_33 (by decide) (fun c => absurd c (lkM_ne V (nI F) i s)) (fun _ => ?_)
        refine J_iload dX12_lay_36 rfl ?_
        exact J_iret dX12_lay_38 rfl rfl rfl (hq (su 4 s (fun _ => nI (lkM V (nI F) i s))) ((-10) - nI (lkM V (nI F) i s), (su 4 (cn s) (fun _ => nI (lkM V (nI F) i s)))) (by simp [oLay, fnd, lkM_cn, kcz1, eV, kcz2, eF, ksz3, cn_0, cn_1, cn_2, cn_4, cn_5, cn_6, cn_12, cn_13, cn_16, cn_21, cn_22]) (by rw [cnu_in (k := 4) rfl]))
    · refine J_bipush (v := -2) dX12_lay_19 (by decide) ?_
      exact J_iret dX12_lay_21 rfl rfl rfl (hq s ((-2), (cn s)) (by simp [oLay, fnd, lkM_cn, kcz1, eV, kcz2, cn_0, cn_1, cn_2, cn_4, cn_5, cn_6, cn_12, cn_13, cn_16, cn_21, cn_22]) rfl)
theorem c_X12_lay {G : GT} (o : Nat) (a : Nat → Nat) (s : Nat → Nat → Int32) (hL : LI (cn s)) (v f i z : Int32) : Ct G yX12_lay cX12_lay 6 (some .int) 0 0 2 [.ref o, .int v, .int f, .int i, .int z] (mW G o a s) (QM G o a (oLay v f i z (cn s))) := Ct.of rfl (Nat.le_of_ble_eq_true rfl) (j_X12_lay o a s hL v f i z (fun x r h1 h2 => ⟨x, by rw [h1], rfl, by rw [← h1]; exact h2⟩))
set_option maxRecDepth 100000 in
set_option maxHeartbeats 1000000 in
theorem j_X12_get {G : GT} (o : Nat) (a : Nat → Nat) (s : Nat → Nat → Int32) (hL : LI (cn s)) (v f i : Int32) {Q : Option Value → va_W → Prop} (hq : ∀ (x : St) (r : Int32 × St), r = oGet v f i (cn s) → cn x = r.2 → Q (some (.int r.1)) (mW G o a x)) : J G "get" RX12 cX12_get 4 (some .int) 0 0 2 Q 0 0 0 [(0, .ref o), (1, .int v), (2, .int f), (3, .int i)] [] (mW G o a s) := by
  refine J_iload_n dX12_get_0 rfl rfl ?_
  refine J_cSi [.int v] ms_X12_67 (c_X12_isSheet (mW G o a s) v) rfl rfl (by decide) (Nat.le_of_ble_eq_true rfl) ⟨Nat.le_refl _, Nat.le_refl _⟩ dX12_get_1 ?_
  refine J_if_eqB 29 dX12_get_4 (by decide) (fun kcz1 => ?_) (fun kcz1 => ?_)
  · refine J_ldc dX12_get_29 k_X12_85 ?_
    exact J_iret dX12_get_31 rfl rfl rfl (hq s ((-2147483648), (cn s)) (by simp [oGet, fnd, lkM_cn, kcz1, cn_0, cn_1, cn_2, cn_4, cn_5, cn_6, cn_12, cn_13, cn_16, cn_21, cn_22]) rfl)
  · obtain ⟨V, hV, rfl⟩ := (rng_iff (by omega)).mp kcz1
    have eV : (nI V).toNatClampNeg = V := nI_clamp (by omega)
    refine J_iload_n dX12_get_7 rfl rfl ?_
    refine J_i2l dX12_get_8 ?_
    refine J_lconst (v := 0) dX12_get_9 (by decide) ?_
    refine J_ldc2 dX12_get_10 k_X12_71 ?_
    refine J_cSi [.long f.toInt64, .long 0, .long (2)] ms_X12_57 (c_X12_in (mW G o a s) f.toInt64 0 (2)) rfl rfl (by decide) (Nat.le_of_ble_eq_true rfl) ⟨Nat.le_refl _, Nat.le_refl _⟩ dX12_get_13 ?_
    refine J_rw (y := bI (rng f 3)) (congrArg bI (inL_rng f (by decide) rfl)) ?_
    refine J_if_eqB 29 dX12_get_16 (by decide) (fun kcz2 => ?_) (fun kcz2 => ?_)
    · refine J_ldc dX12_get_29 k_X12_85 ?_
      exact J_iret dX12_get_31 rfl rfl rfl (hq s ((-2147483648), (cn s)) (by simp [oGet, fnd, lkM_cn, kcz1, eV, kcz2, cn_0, cn_1, cn_2, cn_4, cn_5, cn_6, cn_12, cn_13, cn_16, cn_21, cn_22]) rfl)
    · obtain ⟨F, hF, rfl⟩ := (rng_iff (by omega)).mp kcz2
      have eF : (nI F).toNatClampNeg = F := nI_clamp (by omega)
      by_cases ksz3 : lkM V (nI F) i s = 0
      · refine J_aload_n dX12_get_19 rfl rfl ?_
        refine J_iload_n dX12_get_20 rfl rfl ?_
        refine J_iload_n dX12_get_21 rfl rfl ?_
        refine J_iload_n dX12_get_22 rfl rfl ?_
        refine J_cVi (x := yX12_in) [.int (nI V), .int (nI F), .int i] 0 mv_X12_77 (c_X12_lacks0 o a s V (nI F) i (by omega) (hL.H (by omega)).2 ksz3) mW_0 rfl rfl (by decide) (Nat.le_of_ble_eq_true rfl) ⟨Nat.le_refl _, Nat.le_refl _⟩ dX12_get_23 ?_
        refine J_if_eq 32 dX12_get_26 (by decide) (fun _ => ?_) (fun c => absurd c (by decide))
        obtain ⟨I9, hI9, rfl⟩ := lkM_in (hL.H (by omega)).2 ksz3
        have eI9 : (nI I9).toNatClampNeg = I9 := nI_clamp (by omega)
        refine J_aload_n dX12_get_32 rfl rfl ?_
        refine Mg_2 dX12_get_33 ?_
        refine J_bipush (v := nI 60) dX12_get_36 (by decide) ?_
        refine J_iload_n dX12_get_38 rfl rfl ?_
        refine J_imulN dX12_get_39 ?_
        refine J_iload_n dX12_get_40 rfl rfl ?_
        refine J_iaddN dX12_get_41 ?_
        refine Ml_2 (s := s) (s 2) rfl (60 * V + I9) rfl (by omega) dX12_get_42 ?_
        exact J_iret dX12_get_43 rfl rfl rfl (hq s (s 2 (60 * V + I9), (cn s)) (by simp [oGet, fnd, lkM_cn, kcz1, eV, kcz2, eF, ksz3, eI9, cn_0, cn_1, cn_2, cn_4, cn_5, cn_6, cn_12, cn_13, cn_16, cn_21, cn_22]) rfl)
      · refine J_aload_n dX12_get_19 rfl rfl ?_
        refine J_iload_n dX12_get_20 rfl rfl ?_
        refine J_iload_n dX12_get_21 rfl rfl ?_
        refine J_iload_n dX12_get_22 rfl rfl ?_
        refine J_cVi (x := yX12_in) [.int (nI V), .int (nI F), .int i] 0 mv_X12_77 (c_X12_lacksX o a s V (nI F) i (by omega) (hL.H (by omega)).2 ksz3) mW_0 rfl rfl (by decide) (Nat.le_of_ble_eq_true rfl) ⟨Nat.le_refl _, Nat.le_refl _⟩ dX12_get_23 ?_
        show J G "get" RX12 cX12_get 4 (some .int) 0 0 2 Q 0 0 26 [(0, .ref o), (1, .int (nI V)), (2, .int (nI F)), (3, .int i)] [.int ((-10) - nI (lkM V (nI F) i s))] (mW G o a (su 4 s (fun _ => nI (lkM V (nI F) i s))))
        refine J_if_eq 32 dX12_get_26 (by decide) (fun c => absurd c (lkM_ne V (nI F) i s)) (fun _ => ?_)
        refine J_ldc dX12_get_29 k_X12_85 ?_
        exact J_iret dX12_get_31 rfl rfl rfl (hq (su 4 s (fun _ => nI (lkM V (nI F) i s))) ((-2147483648), (su 4 (cn s) (fun _ => nI (lkM V (nI F) i s)))) (by simp [oGet, fnd, lkM_cn, kcz1, eV, kcz2, eF, ksz3, cn_0, cn_1, cn_2, cn_4, cn_5, cn_6, cn_12, cn_13, cn_16, cn_21, cn_22]) (by rw [cnu_in (k := 4) rfl]))
theorem c_X12_get {G : GT} (o : Nat) (a : Nat → Nat) (s : Nat → Nat → Int32) (hL : LI (cn s)) (v f i : Int32) : Ct G yX12_get cX12_get 4 (some .int) 0 0 2 [.ref o, .int v, .int f, .int i] (mW G o a s) (QM G o a (oGet v f i (cn s))) := Ct.of rfl (Nat.le_of_ble_eq_true rfl) (j_X12_get o a s hL v f i (fun x r h1 h2 => ⟨x, by rw [h1], rfl, by rw [← h1]; exact h2⟩))
set_option maxRecDepth 100000 in
set_option maxHeartbeats 1000000 in
theorem j_X12_sheet {G : GT} (o : Nat) (a : Nat → Nat) (s : Nat → Nat → Int32) (hL : LI (cn s)) (v f n : Int32) {Q : Option Value → va_W → Prop} (hq : ∀ (x : St) (r : Int32 × St), r = oSheet v f n (cn s) → cn x = r.2 → Q (some (.int r.1)) (mW G o a x)) : J G "sheet" RX12 cX12_sheet 5 (some .int) 0 0 2 Q 0 0 0 [(0, .ref o), (1, .int v), (2, .int f), (3, .int n)] [] (mW G o a s) := by
  refine J_iload_n dX12_sheet_0 rfl rfl ?_
  refine J_cSi [.int v] ms_X12_67 (c_X12_isSheet (mW G o a s) v) rfl rfl (by decide) (Nat.le_of_ble_eq_true rfl) ⟨Nat.le_refl _, Nat.le_refl _⟩ dX12_sheet_1 ?_
  refine J_if_eqB 25 dX12_sheet_4 (by decide) (fun kcz1 => ?_) (fun kcz1 => ?_)
  · refine J_bipush (v := -2) dX12_sheet_25 (by decide) ?_
    exact J_iret dX12_sheet_27 rfl rfl rfl (hq s ((-2), (cn s)) (by simp [oSheet, fnd, kcz1, cn_0, cn_1, cn_2, cn_4, cn_5, cn_6, cn_12, cn_13, cn_16, cn_21, cn_22]) rfl)
  · obtain ⟨V, hV, rfl⟩ := (rng_iff (by omega)).mp kcz1
    have eV : (nI V).toNatClampNeg = V := nI_clamp (by omega)
    refine J_iload_n dX12_sheet_7 rfl rfl ?_
    refine J_i2l dX12_sheet_8 ?_
    refine J_lconst (v := 0) dX12_sheet_9 (by decide) ?_
    refine J_ldc2 dX12_sheet_10 k_X12_71 ?_
    refine J_cSi [.long f.toInt64, .long 0, .long (2)] ms_X12_57 (c_X12_in (mW G o a s) f.toInt64 0 (2)) rfl rfl (by decide) (Nat.le_of_ble_eq_true rfl) ⟨Nat.le_refl _, Nat.le_refl _⟩ dX12_sheet_13 ?_
    refine J_rw (y := bI (rng f 3)) (congrArg bI (inL_rng f (by decide) rfl)) ?_
    refine J_if_eqB 25 dX12_sheet_16 (by decide) (fun kcz2 => ?_) (fun kcz2 => ?_)
    · refine J_bipush (v := -2) dX12_sheet_25 (by decide) ?_
      exact J_iret dX12_sheet_27 rfl rfl rfl (hq s ((-2), (cn s)) (by simp [oSheet, fnd, kcz1, eV, kcz2, cn_0, cn_1, cn_2, cn_4, cn_5, cn_6, cn_12, cn_13, cn_16, cn_21, cn_22]) rfl)
    · obtain ⟨F, hF, rfl⟩ := (rng_iff (by omega)).mp kcz2
      have eF : (nI F).toNatClampNeg = F := nI_clamp (by omega)
      refine J_iload_n dX12_sheet_19 rfl rfl ?_
      refine J_bipush (v := nI 60) dX12_sheet_20 (by decide) ?_
      refine J_icmp_le 28 dX12_sheet_22 (by decide) (fun kcz3 => ?_) (fun kcz3 => ?_)
      · refine J_iload_n dX12_sheet_28 rfl rfl ?_
        refine J_if_ge 38 dX12_sheet_29 (by decide) (fun kcz4 => ?_) (fun kcz4 => ?_)
        · obtain ⟨Nn, hNn, rfl⟩ := n60 kcz4 kcz3
          have eNn : (nI Nn).toNatClampNeg = Nn := nI_clamp (by omega)
          refine J_aload_n dX12_sheet_38 rfl rfl ?_
          refine Mg_0 dX12_sheet_39 ?_
          refine J_iload_n dX12_sheet_42 rfl rfl ?_
          refine J_iload_n dX12_sheet_43 rfl rfl ?_
          refine Ms_0 (s := s) (s 0) rfl V rfl (by omega) dX12_sheet_44 ?_
          refine J_aload_n dX12_sheet_45 rfl rfl ?_
          refine Mg_1 dX12_sheet_46 ?_
          refine J_iload_n dX12_sheet_49 rfl rfl ?_
          refine J_iload_n dX12_sheet_50 rfl rfl ?_
          refine Ms_1 (s := (su 0 s (upd (s 0) V (nI F)))) (s 1) rfl V rfl (by omega) dX12_sheet_51 ?_
          refine J_iconst (v := nI 0) dX12_sheet_52 (by decide) ?_
          refine J_istore [(0, .ref o), (1, .int (nI V)), (2, .int (nI F)), (3, .int (nI Nn)), (4, .int (nI 0))] dX12_sheet_53 (by decide) rfl rfl rfl ?_
          have L55 : ∀ (f i : Nat), Nn - i < f → i ≤ Nn → ∀ (x4 : Int32) (y2 : Nat → Int32), x4 = nI i → y2 = (fb_put (s 2) (fun _ => nI 0) (60 * V) i) → J G "sheet" RX12 cX12_sheet 5 (some .int) 0 0 2 Q 0 0 55 [(0, .ref o), (1, .int (nI V)), (2, .int (nI F)), (3, .int (nI Nn)), (4, .int x4)] [] (mW G o a (su 2 (su 1 (su 0 s (upd (s 0) V (nI F))) (upd (s 1) V (nI Nn))) y2)) := by
            intro f
            induction f with
            | zero => intro i h; exact absurd h (Nat.not_lt_zero _)
            | succ f ih55 =>
              intro i hf55 hle55  x4 y2 e4 g2
              subst e4
              subst g2
              refine J_iload dX12_sheet_55 rfl ?_
              refine J_iload_n dX12_sheet_57 rfl rfl ?_
              refine J_icmp_geN 80 (by omega) (by omega) dX12_sheet_58 (by decide) (fun kcz5 => ?_) (fun kcz5 => ?_)
              · obtain rfl : Nn = i := (by omega)
                refine J_iload_n dX12_sheet_80 rfl rfl ?_
                exact J_iret dX12_sheet_81 rfl rfl rfl (hq (su 2 (su 1 (su 0 s (upd (s 0) V (nI F))) (upd (s 1) V (nI Nn))) (fb_put (s 2) (fun _ => nI 0) (60 * V) Nn)) (nI Nn, (su 2 (su 1 (su 0 (cn s) (upd (s 0) V (nI F))) (upd (s 1) V (nI Nn))) (fb_put (s 2) (fun _ => nI 0) (60 * V) Nn))) (by simp [oSheet, fnd, kcz1, eV, kcz2, eF, kcz3, kcz4, eNn, kcz5, cn_0, cn_1, cn_2, cn_4, cn_5, cn_6, cn_12, cn_13, cn_16, cn_21, cn_22]) (by rw [cnu_in (k := 2) rfl, cnu_in (k := 1) rfl, cnu_in (k := 0) rfl]))
              · refine J_aload_n dX12_sheet_61 rfl rfl ?_
                refine Mg_2 dX12_sheet_62 ?_
                refine J_bipush (v := nI 60) dX12_sheet_65 (by decide) ?_
                refine J_iload_n dX12_sheet_67 rfl rfl ?_
                refine J_imulN dX12_sheet_68 ?_
                refine J_iload dX12_sheet_69 rfl ?_
                refine J_iaddN dX12_sheet_71 ?_
                refine J_iconst (v := nI 0) dX12_sheet_72 (by decide) ?_
                refine Ms_2 (s := (su 2 (su 1 (su 0 s (upd (s 0) V (nI F))) (upd (s 1) V (nI Nn))) (fb_put (s 2) (fun _ => nI 0) (60 * V) i))) (fb_put (s 2) (fun _ => nI 0) (60 * V) i) rfl (60 * V + i) rfl (by omega) dX12_sheet_73 ?_
                refine J_ws (ws2 := (mW G o a (su 2 (su 1 (su 0 s (upd (s 0) V (nI F))) (upd (s 1) V (nI Nn))) (upd (fb_put (s 2) (fun _ => nI 0) (60 * V) i) (60 * V + i) (nI 0))))) (congrArg (mW G o a) su_tw) ?_
                refine J_iincN [(0, .ref o), (1, .int (nI V)), (2, .int (nI F)), (3, .int (nI Nn)), (4, .int (nI (i + 1)))] dX12_sheet_74 rfl (by decide) rfl rfl rfl ?_
                refine J_goto 55 dX12_sheet_77 (by decide) ?_
                exact ih55 (i + 1) (by omega) (by omega)  _ _ rfl (fb_put_succ _ _ _ _)
          exact L55 (Nn + 1) 0 (by omega) (by omega)  _ _ rfl (fb_put_0 _ _ _).symm
        · refine J_aload_n dX12_sheet_32 rfl rfl ?_
          refine J_iconst (v := nI 5) dX12_sheet_33 (by decide) ?_
          refine J_cVi (x := yX12_in) [.int (nI 5)] 0 mv_X12_73 (c_X12_finds o a s 5) mW_0 rfl rfl (by decide) (Nat.le_of_ble_eq_true rfl) ⟨Nat.le_refl _, Nat.le_refl _⟩ dX12_sheet_34 ?_
          show J G "sheet" RX12 cX12_sheet 5 (some .int) 0 0 2 Q 0 0 37 [(0, .ref o), (1, .int (nI V)), (2, .int (nI F)), (3, .int n)] [.int ((-10) - nI 5)] (mW G o a (su 4 s (fun _ => nI 5)))
          exact J_iret dX12_sheet_37 rfl rfl rfl (hq (su 4 s (fun _ => nI 5)) ((-10) - nI 5, (su 4 (cn s) (fun _ => nI 5))) (by simp [oSheet, fnd, kcz1, eV, kcz2, eF, kcz3, kcz4, cn_0, cn_1, cn_2, cn_4, cn_5, cn_6, cn_12, cn_13, cn_16, cn_21, cn_22]) (by rw [cnu_in (k := 4) rfl]))
      · refine J_bipush (v := -2) dX12_sheet_25 (by decide) ?_
        exact J_iret dX12_sheet_27 rfl rfl rfl (hq s ((-2), (cn s)) (by simp [oSheet, fnd, kcz1, eV, kcz2, eF, kcz3, cn_0, cn_1, cn_2, cn_4, cn_5, cn_6, cn_12, cn_13, cn_16, cn_21, cn_22]) rfl)
theorem c_X12_sheet {G : GT} (o : Nat) (a : Nat → Nat) (s : Nat → Nat → Int32) (hL : LI (cn s)) (v f n : Int32) : Ct G yX12_sheet cX12_sheet 5 (some .int) 0 0 2 [.ref o, .int v, .int f, .int n] (mW G o a s) (QM G o a (oSheet v f n (cn s))) := Ct.of rfl (Nat.le_of_ble_eq_true rfl) (j_X12_sheet o a s hL v f n (fun x r h1 h2 => ⟨x, by rw [h1], rfl, by rw [← h1]; exact h2⟩))
set_option maxRecDepth 100000 in
set_option maxHeartbeats 1000000 in
theorem j_X12_lose {G : GT} (o : Nat) (a : Nat → Nat) (s : Nat → Nat → Int32) (hL : LI (cn s)) (v : Int32) {Q : Option Value → va_W → Prop} (hq : ∀ (x : St) (r : Int32 × St), r = oLose v (cn s) → cn x = r.2 → Q (some (.int r.1)) (mW G o a x)) : J G "lose" RX12 cX12_lose 2 (some .int) 0 0 2 Q 0 0 0 [(0, .ref o), (1, .int v)] [] (mW G o a s) := by
  refine J_iload_n dX12_lose_0 rfl rfl ?_
  refine J_cSi [.int v] ms_X12_67 (c_X12_isSheet (mW G o a s) v) rfl rfl (by decide) (Nat.le_of_ble_eq_true rfl) ⟨Nat.le_refl _, Nat.le_refl _⟩ dX12_lose_1 ?_
  refine J_if_neB 10 dX12_lose_4 (by decide) (fun kcz1 => ?_) (fun kcz1 => ?_)
  · obtain ⟨V, hV, rfl⟩ := (rng_iff (by omega)).mp kcz1
    have eV : (nI V).toNatClampNeg = V := nI_clamp (by omega)
    refine J_aload_n dX12_lose_10 rfl rfl ?_
    refine Mg_0 dX12_lose_11 ?_
    refine J_iload_n dX12_lose_14 rfl rfl ?_
    refine Ml_0 (s := s) (s 0) rfl V rfl (by omega) dX12_lose_15 ?_
    refine J_if_ge 25 dX12_lose_16 (by decide) (fun kcz2 => ?_) (fun kcz2 => ?_)
    · refine J_aload_n dX12_lose_25 rfl rfl ?_
      refine Mg_0 dX12_lose_26 ?_
      refine J_iload_n dX12_lose_29 rfl rfl ?_
      refine J_iconst (v := -1) dX12_lose_30 (by decide) ?_
      refine Ms_0 (s := s) (s 0) rfl V rfl (by omega) dX12_lose_31 ?_
      refine J_aload_n dX12_lose_32 rfl rfl ?_
      refine Mg_1 dX12_lose_33 ?_
      refine J_iload_n dX12_lose_36 rfl rfl ?_
      refine Ml_1 (s := (su 0 s (upd (s 0) V (-1)))) (s 1) rfl V rfl (by omega) dX12_lose_37 ?_
      exact J_iret dX12_lose_38 rfl rfl rfl (hq (su 0 s (upd (s 0) V (-1))) (s 1 V, (su 0 (cn s) (upd (s 0) V (-1)))) (by simp [oLose, fnd, kcz1, eV, kcz2, cn_0, cn_1, cn_2, cn_4, cn_5, cn_6, cn_12, cn_13, cn_16, cn_21, cn_22]) (by rw [cnu_in (k := 0) rfl]))
    · refine J_aload_n dX12_lose_19 rfl rfl ?_
      refine J_iconst (v := nI 1) dX12_lose_20 (by decide) ?_
      refine J_cVi (x := yX12_in) [.int (nI 1)] 0 mv_X12_73 (c_X12_finds o a s 1) mW_0 rfl rfl (by decide) (Nat.le_of_ble_eq_true rfl) ⟨Nat.le_refl _, Nat.le_refl _⟩ dX12_lose_21 ?_
      show J G "lose" RX12 cX12_lose 2 (some .int) 0 0 2 Q 0 0 24 [(0, .ref o), (1, .int (nI V))] [.int ((-10) - nI 1)] (mW G o a (su 4 s (fun _ => nI 1)))
      exact J_iret dX12_lose_24 rfl rfl rfl (hq (su 4 s (fun _ => nI 1)) ((-10) - nI 1, (su 4 (cn s) (fun _ => nI 1))) (by simp [oLose, fnd, kcz1, eV, kcz2, cn_0, cn_1, cn_2, cn_4, cn_5, cn_6, cn_12, cn_13, cn_16, cn_21, cn_22]) (by rw [cnu_in (k := 4) rfl]))
  · refine J_bipush (v := -2) dX12_lose_7 (by decide) ?_
    exact J_iret dX12_lose_9 rfl rfl rfl (hq s ((-2), (cn s)) (by simp [oLose, fnd, kcz1, cn_0, cn_1, cn_2, cn_4, cn_5, cn_6, cn_12, cn_13, cn_16, cn_21, cn_22]) rfl)
theorem c_X12_lose {G : GT} (o : Nat) (a : Nat → Nat) (s : Nat → Nat → Int32) (hL : LI (cn s)) (v : Int32) : Ct G yX12_lose cX12_lose 2 (some .int) 0 0 2 [.ref o, .int v] (mW G o a s) (QM G o a (oLose v (cn s))) := Ct.of rfl (Nat.le_of_ble_eq_true rfl) (j_X12_lose o a s hL v (fun x r h1 h2 => ⟨x, by rw [h1], rfl, by rw [← h1]; exact h2⟩))
set_option maxRecDepth 100000 in
set_option maxHeartbeats 1000000 in
theorem j_X12_copy {G : GT} (o : Nat) (a : Nat → Nat) (s : Nat → Nat → Int32) (hL : LI (cn s)) (p i q j n : Int32) {Q : Option Value → va_W → Prop} (hq : ∀ (x : St) (r : Int32 × St), r = oCopy p i q j n (cn s) → cn x = r.2 → Q (some (.int r.1)) (mW G o a x)) : J G "copy" RX12 cX12_copy 7 (some .int) 0 0 2 Q 0 0 0 [(0, .ref o), (1, .int p), (2, .int i), (3, .int q), (4, .int j), (5, .int n)] [] (mW G o a s) := by
  refine J_iload_n dX12_copy_0 rfl rfl ?_
  refine J_cSi [.int p] ms_X12_67 (c_X12_isSheet (mW G o a s) p) rfl rfl (by decide) (Nat.le_of_ble_eq_true rfl) ⟨Nat.le_refl _, Nat.le_refl _⟩ dX12_copy_1 ?_
  refine J_if_eqB 14 dX12_copy_4 (by decide) (fun kcz1 => ?_) (fun kcz1 => ?_)
  · refine J_bipush (v := -2) dX12_copy_14 (by decide) ?_
    exact J_iret dX12_copy_16 rfl rfl rfl (hq s ((-2), (cn s)) (by simp [oCopy, fnd, cpOk, kcz1, cn_0, cn_1, cn_2, cn_4, cn_5, cn_6, cn_12, cn_13, cn_16, cn_21, cn_22]) rfl)
  · obtain ⟨V, hV, rfl⟩ := (rng_iff (by omega)).mp kcz1
    have eV : (nI V).toNatClampNeg = V := nI_clamp (by omega)
    refine J_iload_n dX12_copy_7 rfl rfl ?_
    refine J_cSi [.int q] ms_X12_67 (c_X12_isSheet (mW G o a s) q) rfl rfl (by decide) (Nat.le_of_ble_eq_true rfl) ⟨Nat.le_refl _, Nat.le_refl _⟩ dX12_copy_8 ?_
    refine J_if_neB 17 dX12_copy_11 (by decide) (fun kcz2 => ?_) (fun kcz2 => ?_)
    · obtain ⟨U, hU, rfl⟩ := (rng_iff (by omega)).mp kcz2
      have eU : (nI U).toNatClampNeg = U := nI_clamp (by omega)
      refine J_aload_n dX12_copy_17 rfl rfl ?_
      refine Mg_0 dX12_copy_18 ?_
      refine J_iload_n dX12_copy_21 rfl rfl ?_
      refine Ml_0 (s := s) (s 0) rfl V rfl (by omega) dX12_copy_22 ?_
      refine J_if_ltG 35 dX12_copy_23 (by decide) (fun kcz3 => ?_) (fun kcz3 => ?_)
      · refine J_aload_n dX12_copy_35 rfl rfl ?_
        refine J_iconst (v := nI 1) dX12_copy_36 (by decide) ?_
        refine J_cVi (x := yX12_in) [.int (nI 1)] 0 mv_X12_73 (c_X12_finds o a s 1) mW_0 rfl rfl (by decide) (Nat.le_of_ble_eq_true rfl) ⟨Nat.le_refl _, Nat.le_refl _⟩ dX12_copy_37 ?_
        show J G "copy" RX12 cX12_copy 7 (some .int) 0 0 2 Q 0 0 40 [(0, .ref o), (1, .int (nI V)), (2, .int i), (3, .int (nI U)), (4, .int j), (5, .int n)] [.int ((-10) - nI 1)] (mW G o a (su 4 s (fun _ => nI 1)))
        exact J_iret dX12_copy_40 rfl rfl rfl (hq (su 4 s (fun _ => nI 1)) ((-10) - nI 1, (su 4 (cn s) (fun _ => nI 1))) (by simp [oCopy, fnd, cpOk, kcz1, eV, kcz2, eU, kcz3, cn_0, cn_1, cn_2, cn_4, cn_5, cn_6, cn_12, cn_13, cn_16, cn_21, cn_22]) (by rw [cnu_in (k := 4) rfl]))
      · refine J_aload_n dX12_copy_26 rfl rfl ?_
        refine Mg_0 dX12_copy_27 ?_
        refine J_iload_n dX12_copy_30 rfl rfl ?_
        refine Ml_0 (s := s) (s 0) rfl U rfl (by omega) dX12_copy_31 ?_
        refine J_if_ge 41 dX12_copy_32 (by decide) (fun kcz4 => ?_) (fun kcz4 => ?_)
        · refine J_aload_n dX12_copy_41 rfl rfl ?_
          refine Mg_0 dX12_copy_42 ?_
          refine J_iload_n dX12_copy_45 rfl rfl ?_
          refine Ml_0 (s := s) (s 0) rfl V rfl (by omega) dX12_copy_46 ?_
          refine J_aload_n dX12_copy_47 rfl rfl ?_
          refine Mg_0 dX12_copy_48 ?_
          refine J_iload_n dX12_copy_51 rfl rfl ?_
          refine Ml_0 (s := s) (s 0) rfl U rfl (by omega) dX12_copy_52 ?_
          refine J_icmp_eq 62 dX12_copy_53 (by decide) (fun kcz5 => ?_) (fun kcz5 => ?_)
          · refine J_iload_n dX12_copy_62 rfl rfl ?_
            refine J_if_ltG 111 dX12_copy_63 (by decide) (fun kcz6 => ?_) (fun kcz6 => ?_)
            · refine J_aload_n dX12_copy_111 rfl rfl ?_
              refine J_iconst (v := nI 2) dX12_copy_112 (by decide) ?_
              refine J_cVi (x := yX12_in) [.int (nI 2)] 0 mv_X12_73 (c_X12_finds o a s 2) mW_0 rfl rfl (by decide) (Nat.le_of_ble_eq_true rfl) ⟨Nat.le_refl _, Nat.le_refl _⟩ dX12_copy_113 ?_
              show J G "copy" RX12 cX12_copy 7 (some .int) 0 0 2 Q 0 0 116 [(0, .ref o), (1, .int (nI V)), (2, .int i), (3, .int (nI U)), (4, .int j), (5, .int n)] [.int ((-10) - nI 2)] (mW G o a (su 4 s (fun _ => nI 2)))
              exact J_iret dX12_copy_116 rfl rfl rfl (hq (su 4 s (fun _ => nI 2)) ((-10) - nI 2, (su 4 (cn s) (fun _ => nI 2))) (by simp [oCopy, fnd, cpOk, kcz1, eV, kcz2, eU, kcz3, kcz4, kcz5, kcz6, cn_0, cn_1, cn_2, cn_4, cn_5, cn_6, cn_12, cn_13, cn_16, cn_21, cn_22]) (by rw [cnu_in (k := 4) rfl]))
            · refine J_iload dX12_copy_66 rfl ?_
              refine J_if_ltG 111 dX12_copy_68 (by decide) (fun kcz7 => ?_) (fun kcz7 => ?_)
              · refine J_aload_n dX12_copy_111 rfl rfl ?_
                refine J_iconst (v := nI 2) dX12_copy_112 (by decide) ?_
                refine J_cVi (x := yX12_in) [.int (nI 2)] 0 mv_X12_73 (c_X12_finds o a s 2) mW_0 rfl rfl (by decide) (Nat.le_of_ble_eq_true rfl) ⟨Nat.le_refl _, Nat.le_refl _⟩ dX12_copy_113 ?_
                show J G "copy" RX12 cX12_copy 7 (some .int) 0 0 2 Q 0 0 116 [(0, .ref o), (1, .int (nI V)), (2, .int i), (3, .int (nI U)), (4, .int j), (5, .int n)] [.int ((-10) - nI 2)] (mW G o a (su 4 s (fun _ => nI 2)))
                exact J_iret dX12_copy_116 rfl rfl rfl (hq (su 4 s (fun _ => nI 2)) ((-10) - nI 2, (su 4 (cn s) (fun _ => nI 2))) (by simp [oCopy, fnd, cpOk, kcz1, eV, kcz2, eU, kcz3, kcz4, kcz5, kcz6, kcz7, cn_0, cn_1, cn_2, cn_4, cn_5, cn_6, cn_12, cn_13, cn_16, cn_21, cn_22]) (by rw [cnu_in (k := 4) rfl]))
              · refine J_iload dX12_copy_71 rfl ?_
                refine J_if_ltG 111 dX12_copy_73 (by decide) (fun kcz8 => ?_) (fun kcz8 => ?_)
                · refine J_aload_n dX12_copy_111 rfl rfl ?_
                  refine J_iconst (v := nI 2) dX12_copy_112 (by decide) ?_
                  refine J_cVi (x := yX12_in) [.int (nI 2)] 0 mv_X12_73 (c_X12_finds o a s 2) mW_0 rfl rfl (by decide) (Nat.le_of_ble_eq_true rfl) ⟨Nat.le_refl _, Nat.le_refl _⟩ dX12_copy_113 ?_
                  show J G "copy" RX12 cX12_copy 7 (some .int) 0 0 2 Q 0 0 116 [(0, .ref o), (1, .int (nI V)), (2, .int i), (3, .int (nI U)), (4, .int j), (5, .int n)] [.int ((-10) - nI 2)] (mW G o a (su 4 s (fun _ => nI 2)))
                  exact J_iret dX12_copy_116 rfl rfl rfl (hq (su 4 s (fun _ => nI 2)) ((-10) - nI 2, (su 4 (cn s) (fun _ => nI 2))) (by simp [oCopy, fnd, cpOk, kcz1, eV, kcz2, eU, kcz3, kcz4, kcz5, kcz6, kcz7, kcz8, cn_0, cn_1, cn_2, cn_4, cn_5, cn_6, cn_12, cn_13, cn_16, cn_21, cn_22]) (by rw [cnu_in (k := 4) rfl]))
                · refine J_iload_n dX12_copy_76 rfl rfl ?_
                  refine J_i2l dX12_copy_77 ?_
                  refine J_iload dX12_copy_78 rfl ?_
                  refine J_i2l dX12_copy_80 ?_
                  refine J_ladd dX12_copy_81 ?_
                  refine J_aload_n dX12_copy_82 rfl rfl ?_
                  refine Mg_1 dX12_copy_83 ?_
                  refine J_iload_n dX12_copy_86 rfl rfl ?_
                  refine Ml_1 (s := s) (s 1) rfl V rfl (by omega) dX12_copy_87 ?_
                  refine J_i2l dX12_copy_88 ?_
                  refine J_lcmp dX12_copy_89 ?_
                  refine J_if_gt 111 dX12_copy_90 (by decide) (fun kcz9 => ?_) (fun kcz9 => ?_)
                  · have kg111 := lgc_gt.mp kcz9
                    refine J_aload_n dX12_copy_111 rfl rfl ?_
                    refine J_iconst (v := nI 2) dX12_copy_112 (by decide) ?_
                    refine J_cVi (x := yX12_in) [.int (nI 2)] 0 mv_X12_73 (c_X12_finds o a s 2) mW_0 rfl rfl (by decide) (Nat.le_of_ble_eq_true rfl) ⟨Nat.le_refl _, Nat.le_refl _⟩ dX12_copy_113 ?_
                    show J G "copy" RX12 cX12_copy 7 (some .int) 0 0 2 Q 0 0 116 [(0, .ref o), (1, .int (nI V)), (2, .int i), (3, .int (nI U)), (4, .int j), (5, .int n)] [.int ((-10) - nI 2)] (mW G o a (su 4 s (fun _ => nI 2)))
                    exact J_iret dX12_copy_116 rfl rfl rfl (hq (su 4 s (fun _ => nI 2)) ((-10) - nI 2, (su 4 (cn s) (fun _ => nI 2))) (by simp [oCopy, fnd, cpOk, kcz1, eV, kcz2, eU, kcz3, kcz4, kcz5, kcz6, kcz7, kcz8, kg111, cn_0, cn_1, cn_2, cn_4, cn_5, cn_6, cn_12, cn_13, cn_16, cn_21, cn_22]) (by rw [cnu_in (k := 4) rfl]))
                  · have kg93 := (not_congr lgc_gt).mp kcz9
                    refine J_iload dX12_copy_93 rfl ?_
                    refine J_i2l dX12_copy_95 ?_
                    refine J_iload dX12_copy_96 rfl ?_
                    refine J_i2l dX12_copy_98 ?_
                    refine J_ladd dX12_copy_99 ?_
                    refine J_aload_n dX12_copy_100 rfl rfl ?_
                    refine Mg_1 dX12_copy_101 ?_
                    refine J_iload_n dX12_copy_104 rfl rfl ?_
                    refine Ml_1 (s := s) (s 1) rfl U rfl (by omega) dX12_copy_105 ?_
                    refine J_i2l dX12_copy_106 ?_
                    refine J_lcmp dX12_copy_107 ?_
                    refine J_if_le 117 dX12_copy_108 (by decide) (fun kcz10 => ?_) (fun kcz10 => ?_)
                    · have kg117 := lgc_le.mp kcz10
                      obtain ⟨Ii, Jj, Nn, rfl, rfl, rfl, hc1, hc2⟩ := cp_in kcz6 kcz7 kcz8 kg93 kg117 (hL.H hV).2 (hL.H hU).2
                      have eIi : (nI Ii).toNatClampNeg = Ii := nI_clamp (by omega)
                      have eJj : (nI Jj).toNatClampNeg = Jj := nI_clamp (by omega)
                      have eNn : (nI Nn).toNatClampNeg = Nn := nI_clamp (by omega)
                      refine J_iconst (v := nI 0) dX12_copy_117 (by decide) ?_
                      refine J_istore [(0, .ref o), (1, .int (nI V)), (2, .int (nI Ii)), (3, .int (nI U)), (4, .int (nI Jj)), (5, .int (nI Nn)), (6, .int (nI 0))] dX12_copy_118 (by decide) rfl rfl rfl ?_
                      have L120 : ∀ (f k : Nat), Nn - k < f → k ≤ Nn → ∀ (x6 : Int32) (y3 : Nat → Int32), x6 = nI k → y3 = (fb_put (s 3) (fun k => s 2 (60 * V + Ii + k)) 0 k) → J G "copy" RX12 cX12_copy 7 (some .int) 0 0 2 Q 0 0 120 [(0, .ref o), (1, .int (nI V)), (2, .int (nI Ii)), (3, .int (nI U)), (4, .int (nI Jj)), (5, .int (nI Nn)), (6, .int x6)] [] (mW G o a (su 3 s y3)) := by
                        intro f
                        induction f with
                        | zero => intro k h; exact absurd h (Nat.not_lt_zero _)
                        | succ f ih120 =>
                          intro k hf120 hle120  x6 y3 e6 g3
                          subst e6
                          subst g3
                          refine J_iload dX12_copy_120 rfl ?_
                          refine J_iload dX12_copy_122 rfl ?_
                          refine J_icmp_geN 154 (by omega) (by omega) dX12_copy_124 (by decide) (fun kcz11 => ?_) (fun kcz11 => ?_)
                          · obtain rfl : Nn = k := (by omega)
                            refine J_iconst (v := nI 0) dX12_copy_154 (by decide) ?_
                            refine J_istore [(0, .ref o), (1, .int (nI V)), (2, .int (nI Ii)), (3, .int (nI U)), (4, .int (nI Jj)), (5, .int (nI Nn)), (6, .int (nI 0))] dX12_copy_155 (by decide) rfl rfl rfl ?_
                            have L157 : ∀ (f l : Nat), Nn - l < f → l ≤ Nn → ∀ (x6 : Int32) (y2 : Nat → Int32), x6 = nI l → y2 = (fb_put (s 2) (fun k => s 2 (60 * V + Ii + k)) (60 * U + Jj) l) → J G "copy" RX12 cX12_copy 7 (some .int) 0 0 2 Q 0 0 157 [(0, .ref o), (1, .int (nI V)), (2, .int (nI Ii)), (3, .int (nI U)), (4, .int (nI Jj)), (5, .int (nI Nn)), (6, .int x6)] [] (mW G o a (su 3 (su 2 s y2) (fb_put (s 3) (fun k => s 2 (60 * V + Ii + k)) 0 Nn))) := by
                              intro f
                              induction f with
                              | zero => intro l h; exact absurd h (Nat.not_lt_zero _)
                              | succ f ih157 =>
                                intro l hf157 hle157  x6 y2 e6 g2
                                subst e6
                                subst g2
                                refine J_iload dX12_copy_157 rfl ?_
                                refine J_iload dX12_copy_159 rfl ?_
                                refine J_icmp_geN 192 (by omega) (by omega) dX12_copy_161 (by decide) (fun kcz12 => ?_) (fun kcz12 => ?_)
                                · obtain rfl : Nn = l := (by omega)
                                  refine J_iconst (v := nI 1) dX12_copy_192 (by decide) ?_
                                  exact J_iret dX12_copy_193 rfl rfl rfl (hq (su 3 (su 2 s (fb_put (s 2) (fun k => s 2 (60 * V + Ii + k)) (60 * U + Jj) Nn)) (fb_put (s 3) (fun k => s 2 (60 * V + Ii + k)) 0 Nn)) (nI 1, (su 2 (cn s) (fb_put (s 2) (fun k => s 2 (60 * V + Ii + k)) (60 * U + Jj) Nn))) (by simp [oCopy, fnd, cpOk, kcz1, eV, kcz2, eU, kcz3, kcz4, kcz5, kcz6, kcz7, kcz8, kg93, kg117, eIi, eJj, eNn, kcz11, kcz12, cn_0, cn_1, cn_2, cn_4, cn_5, cn_6, cn_12, cn_13, cn_16, cn_21, cn_22]) (by rw [cnu_out (k := 3) rfl, cnu_in (k := 2) rfl]))
                                · refine J_aload_n dX12_copy_164 rfl rfl ?_
                                  refine Mg_2 dX12_copy_165 ?_
                                  refine J_bipush (v := nI 60) dX12_copy_168 (by decide) ?_
                                  refine J_iload_n dX12_copy_170 rfl rfl ?_
                                  refine J_imulN dX12_copy_171 ?_
                                  refine J_iload dX12_copy_172 rfl ?_
                                  refine J_iaddN dX12_copy_174 ?_
                                  refine J_iload dX12_copy_175 rfl ?_
                                  refine J_iaddN dX12_copy_177 ?_
                                  refine J_aload_n dX12_copy_178 rfl rfl ?_
                                  refine Mg_3 dX12_copy_179 ?_
                                  refine J_iload dX12_copy_182 rfl ?_
                                  refine Ml_3 (s := (su 3 (su 2 s (fb_put (s 2) (fun k => s 2 (60 * V + Ii + k)) (60 * U + Jj) l)) (fb_put (s 3) (fun k => s 2 (60 * V + Ii + k)) 0 Nn))) (fb_put (s 3) (fun k => s 2 (60 * V + Ii + k)) 0 Nn) rfl l rfl (by omega) dX12_copy_184 ?_
                                  refine J_rw (y := s 2 (60 * V + Ii + l)) ((fb_put_in (Nat.zero_le _) (by omega)).trans (by rw [Nat.sub_zero])) ?_
                                  refine Ms_2 (s := (su 3 (su 2 s (fb_put (s 2) (fun k => s 2 (60 * V + Ii + k)) (60 * U + Jj) l)) (fb_put (s 3) (fun k => s 2 (60 * V + Ii + k)) 0 Nn))) (fb_put (s 2) (fun k => s 2 (60 * V + Ii + k)) (60 * U + Jj) l) rfl (60 * U + Jj + l) rfl (by omega) dX12_copy_185 ?_
                                  refine J_ws (ws2 := (mW G o a (su 3 (su 2 s (upd (fb_put (s 2) (fun k => s 2 (60 * V + Ii + k)) (60 * U + Jj) l) (60 * U + Jj + l) (s 2 (60 * V + Ii + l)))) (fb_put (s 3) (fun k => s 2 (60 * V + Ii + k)) 0 Nn)))) (congrArg (mW G o a) ((su_sw (by decide)).trans (su_cg su_tw))) ?_
                                  refine J_iincN [(0, .ref o), (1, .int (nI V)), (2, .int (nI Ii)), (3, .int (nI U)), (4, .int (nI Jj)), (5, .int (nI Nn)), (6, .int (nI (l + 1)))] dX12_copy_186 rfl (by decide) rfl rfl rfl ?_
                                  refine J_goto 157 dX12_copy_189 (by decide) ?_
                                  exact ih157 (l + 1) (by omega) (by omega)  _ _ rfl (fb_put_succ (s 2) (fun k => s 2 (60 * V + Ii + k)) _ _)
                            exact L157 (Nn + 1) 0 (by omega) (by omega)  _ _ rfl (fb_put_0 _ _ _).symm
                          · refine J_aload_n dX12_copy_127 rfl rfl ?_
                            refine Mg_3 dX12_copy_128 ?_
                            refine J_iload dX12_copy_131 rfl ?_
                            refine J_aload_n dX12_copy_133 rfl rfl ?_
                            refine Mg_2 dX12_copy_134 ?_
                            refine J_bipush (v := nI 60) dX12_copy_137 (by decide) ?_
                            refine J_iload_n dX12_copy_139 rfl rfl ?_
                            refine J_imulN dX12_copy_140 ?_
                            refine J_iload_n dX12_copy_141 rfl rfl ?_
                            refine J_iaddN dX12_copy_142 ?_
                            refine J_iload dX12_copy_143 rfl ?_
                            refine J_iaddN dX12_copy_145 ?_
                            refine Ml_2 (s := (su 3 s (fb_put (s 3) (fun k => s 2 (60 * V + Ii + k)) 0 k))) (s 2) rfl (60 * V + Ii + k) rfl (by omega) dX12_copy_146 ?_
                            refine Ms_3 (s := (su 3 s (fb_put (s 3) (fun k => s 2 (60 * V + Ii + k)) 0 k))) (fb_put (s 3) (fun k => s 2 (60 * V + Ii + k)) 0 k) rfl k rfl (by omega) dX12_copy_147 ?_
                            refine J_ws (ws2 := (mW G o a (su 3 s (upd (fb_put (s 3) (fun k => s 2 (60 * V + Ii + k)) 0 k) k (s 2 (60 * V + Ii + k)))))) (congrArg (mW G o a) su_tw) ?_
                            refine J_iincN [(0, .ref o), (1, .int (nI V)), (2, .int (nI Ii)), (3, .int (nI U)), (4, .int (nI Jj)), (5, .int (nI Nn)), (6, .int (nI (k + 1)))] dX12_copy_148 rfl (by decide) rfl rfl rfl ?_
                            refine J_goto 120 dX12_copy_151 (by decide) ?_
                            exact ih120 (k + 1) (by omega) (by omega)  _ _ rfl (fb_put_s0 (s 3) (fun k => s 2 (60 * V + Ii + k)) k)
                      exact L120 (Nn + 1) 0 (by omega) (by omega)  _ _ rfl (fb_put_0 _ _ _).symm
                    · have kg111 := lgc_nle.mp kcz10
                      refine J_aload_n dX12_copy_111 rfl rfl ?_
                      refine J_iconst (v := nI 2) dX12_copy_112 (by decide) ?_
                      refine J_cVi (x := yX12_in) [.int (nI 2)] 0 mv_X12_73 (c_X12_finds o a s 2) mW_0 rfl rfl (by decide) (Nat.le_of_ble_eq_true rfl) ⟨Nat.le_refl _, Nat.le_refl _⟩ dX12_copy_113 ?_
                      show J G "copy" RX12 cX12_copy 7 (some .int) 0 0 2 Q 0 0 116 [(0, .ref o), (1, .int (nI V)), (2, .int i), (3, .int (nI U)), (4, .int j), (5, .int n)] [.int ((-10) - nI 2)] (mW G o a (su 4 s (fun _ => nI 2)))
                      exact J_iret dX12_copy_116 rfl rfl rfl (hq (su 4 s (fun _ => nI 2)) ((-10) - nI 2, (su 4 (cn s) (fun _ => nI 2))) (by simp [oCopy, fnd, cpOk, kcz1, eV, kcz2, eU, kcz3, kcz4, kcz5, kcz6, kcz7, kcz8, kg93, kg111, cn_0, cn_1, cn_2, cn_4, cn_5, cn_6, cn_12, cn_13, cn_16, cn_21, cn_22]) (by rw [cnu_in (k := 4) rfl]))
          · refine J_aload_n dX12_copy_56 rfl rfl ?_
            refine J_iconst (v := nI 4) dX12_copy_57 (by decide) ?_
            refine J_cVi (x := yX12_in) [.int (nI 4)] 0 mv_X12_73 (c_X12_finds o a s 4) mW_0 rfl rfl (by decide) (Nat.le_of_ble_eq_true rfl) ⟨Nat.le_refl _, Nat.le_refl _⟩ dX12_copy_58 ?_
            show J G "copy" RX12 cX12_copy 7 (some .int) 0 0 2 Q 0 0 61 [(0, .ref o), (1, .int (nI V)), (2, .int i), (3, .int (nI U)), (4, .int j), (5, .int n)] [.int ((-10) - nI 4)] (mW G o a (su 4 s (fun _ => nI 4)))
            exact J_iret dX12_copy_61 rfl rfl rfl (hq (su 4 s (fun _ => nI 4)) ((-10) - nI 4, (su 4 (cn s) (fun _ => nI 4))) (by simp [oCopy, fnd, cpOk, kcz1, eV, kcz2, eU, kcz3, kcz4, kcz5, cn_0, cn_1, cn_2, cn_4, cn_5, cn_6, cn_12, cn_13, cn_16, cn_21, cn_22]) (by rw [cnu_in (k := 4) rfl]))
        · refine J_aload_n dX12_copy_35 rfl rfl ?_
          refine J_iconst (v := nI 1) dX12_copy_36 (by decide) ?_
          refine J_cVi (x := yX12_in) [.int (nI 1)] 0 mv_X12_73 (c_X12_finds o a s 1) mW_0 rfl rfl (by decide) (Nat.le_of_ble_eq_true rfl) ⟨Nat.le_refl _, Nat.le_refl _⟩ dX12_copy_37 ?_
          show J G "copy" RX12 cX12_copy 7 (some .int) 0 0 2 Q 0 0 40 [(0, .ref o), (1, .int (nI V)), (2, .int i), (3, .int (nI U)), (4, .int j), (5, .int n)] [.int ((-10) - nI 1)] (mW G o a (su 4 s (fun _ => nI 1)))
          exact J_iret dX12_copy_40 rfl rfl rfl (hq (su 4 s (fun _ => nI 1)) ((-10) - nI 1, (su 4 (cn s) (fun _ => nI 1))) (by simp [oCopy, fnd, cpOk, kcz1, eV, kcz2, eU, kcz3, kcz4, cn_0, cn_1, cn_2, cn_4, cn_5, cn_6, cn_12, cn_13, cn_16, cn_21, cn_22]) (by rw [cnu_in (k := 4) rfl]))
    · refine J_bipush (v := -2) dX12_copy_14 (by decide) ?_
      exact J_iret dX12_copy_16 rfl rfl rfl (hq s ((-2), (cn s)) (by simp [oCopy, fnd, cpOk, kcz1, eV, kcz2, cn_0, cn_1, cn_2, cn_4, cn_5, cn_6, cn_12, cn_13, cn_16, cn_21, cn_22]) rfl)
theorem c_X12_copy {G : GT} (o : Nat) (a : Nat → Nat) (s : Nat → Nat → Int32) (hL : LI (cn s)) (p i q j n : Int32) : Ct G yX12_copy cX12_copy 7 (some .int) 0 0 2 [.ref o, .int p, .int i, .int q, .int j, .int n] (mW G o a s) (QM G o a (oCopy p i q j n (cn s))) := Ct.of rfl (Nat.le_of_ble_eq_true rfl) (j_X12_copy o a s hL p i q j n (fun x r h1 h2 => ⟨x, by rw [h1], rfl, by rw [← h1]; exact h2⟩))
