theorem rng_ix {v : Int32} {n : Nat} (h : rng v n = true) (hn : n ≤ 8) : v = nI v.toNatClampNeg ∧ v.toNatClampNeg < 8 := by
  obtain ⟨j, hj, rfl⟩ := (rng_iff (by omega)).mp h
  rw [nI_clamp (by omega)]
  exact ⟨rfl, by omega⟩
theorem popc_le8 (b : Nat) : popc b ≤ 8 := fb_ct_le _ 8
theorem popc_lt31 (b : Nat) : popc b < 2 ^ 31 := Nat.lt_of_le_of_lt (popc_le8 b) (by decide)
theorem doF_ix5 {n : Nat} {Hb He wi : Nat → Int32} {q t h : Nat} (hne : ¬ doF n Hb He wi q t h = -1) (h8 : h ≤ 8) : nI 5 * doF n Hb He wi q t h + nI 2 = nI (5 * (doF n Hb He wi q t h).toNatClampNeg + 2) := by
  rcases doF_rng n Hb He wi q t h with e | ⟨j, hj, e⟩
  · exact absurd e hne
  · rw [e, pk_mul, nI_add, nI_clamp (by omega)]
theorem doF_lt {n : Nat} {Hb He wi : Nat → Int32} {q t h : Nat} (hne : ¬ doF n Hb He wi q t h = -1) (h8 : h ≤ 8) : (doF n Hb He wi q t h).toNatClampNeg < h := by
  rcases doF_rng n Hb He wi q t h with e | ⟨j, hj, e⟩
  · exact absurd e hne
  · rw [e, nI_clamp (by omega)]; exact hj
set_option maxRecDepth 100000 in
set_option maxHeartbeats 1000000 in
theorem j_X12_isHabit {G : GT} (o : Nat) (a : Nat → Nat) (s : Nat → Nat → Int32) (n : Nat) (hn : s 8 0 = nI n) (hn8 : n ≤ 8) (v : Int32) {Q : Option Value → va_W → Prop} (hq : ∀ v_ : Int32, v_ = bI (rng v n) → Q (some (.int v_)) (mW G o a s)) : J G "isHabit" RX12 cX12_isHabit 2 (some .boolean) 0 0 1 Q 0 0 0 [(0, .ref o), (1, .int v)] [] (mW G o a s) := by
  refine J_iload_n dX12_isHabit_0 rfl rfl ?_
  refine J_i2l dX12_isHabit_1 ?_
  refine J_lconst (v := 0) dX12_isHabit_2 (by decide) ?_
  refine J_aload_n dX12_isHabit_3 rfl rfl ?_
  refine Mg_8 dX12_isHabit_4 ?_
  refine J_iconst (v := nI 0) dX12_isHabit_7 (by decide) ?_
  refine Ml_8 (s := s) (s 8) rfl 0 rfl (by omega) dX12_isHabit_8 ?_
  refine J_rw (y := nI n) hn ?_
  refine J_iconst (v := nI 1) dX12_isHabit_9 (by decide) ?_
  refine J_isub dX12_isHabit_10 ?_
  refine J_i2l dX12_isHabit_11 ?_
  refine J_cSi [.long v.toInt64, .long 0, .long (((nI n) - (nI 1)).toInt64)] ms_X12_57 (c_X12_in (mW G o a s) v.toInt64 0 (((nI n) - (nI 1)).toInt64)) rfl rfl (by decide) (Nat.le_of_ble_eq_true rfl) ⟨Nat.le_refl _, Nat.le_refl _⟩ dX12_isHabit_12 ?_
  refine J_rw (y := bI (rng v n)) (congrArg bI (inL_rng v (by omega) rfl)) ?_
  exact J_zretB dX12_isHabit_15 rfl rfl rfl (hq _ rfl)
theorem c_X12_isHabit {G : GT} (o : Nat) (a : Nat → Nat) (s : Nat → Nat → Int32) (n : Nat) (hn : s 8 0 = nI n) (hn8 : n ≤ 8) (v : Int32) : Ct G yX12_isHabit cX12_isHabit 2 (some .boolean) 0 0 1 [.ref o, .int v] (mW G o a s) (Is (some (.int (bI (rng v n)))) (mW G o a s)) := Ct.of rfl (Nat.le_of_ble_eq_true rfl) (j_X12_isHabit o a s n hn hn8 v (fun _ e => by subst e; exact Is.rf _ _))
set_option maxRecDepth 100000 in
set_option maxHeartbeats 1000000 in
theorem j_X12_isHeir {G : GT} (o : Nat) (a : Nat → Nat) (s : Nat → Nat → Int32) (m : Nat) (hm : s 8 1 = nI m) (hm6 : m ≤ 6) (v : Int32) {Q : Option Value → va_W → Prop} (hq : ∀ v_ : Int32, v_ = bI (rng v m) → Q (some (.int v_)) (mW G o a s)) : J G "isHeir" RX12 cX12_isHeir 2 (some .boolean) 0 0 1 Q 0 0 0 [(0, .ref o), (1, .int v)] [] (mW G o a s) := by
  refine J_iload_n dX12_isHeir_0 rfl rfl ?_
  refine J_i2l dX12_isHeir_1 ?_
  refine J_lconst (v := 0) dX12_isHeir_2 (by decide) ?_
  refine J_aload_n dX12_isHeir_3 rfl rfl ?_
  refine Mg_8 dX12_isHeir_4 ?_
  refine J_iconst (v := nI 1) dX12_isHeir_7 (by decide) ?_
  refine Ml_8 (s := s) (s 8) rfl 1 rfl (by omega) dX12_isHeir_8 ?_
  refine J_rw (y := nI m) hm ?_
  refine J_iconst (v := nI 1) dX12_isHeir_9 (by decide) ?_
  refine J_isub dX12_isHeir_10 ?_
  refine J_i2l dX12_isHeir_11 ?_
  refine J_cSi [.long v.toInt64, .long 0, .long (((nI m) - (nI 1)).toInt64)] ms_X12_57 (c_X12_in (mW G o a s) v.toInt64 0 (((nI m) - (nI 1)).toInt64)) rfl rfl (by decide) (Nat.le_of_ble_eq_true rfl) ⟨Nat.le_refl _, Nat.le_refl _⟩ dX12_isHeir_12 ?_
  refine J_rw (y := bI (rng v m)) (congrArg bI (inL_rng v (by omega) rfl)) ?_
  exact J_zretB dX12_isHeir_15 rfl rfl rfl (hq _ rfl)
theorem c_X12_isHeir {G : GT} (o : Nat) (a : Nat → Nat) (s : Nat → Nat → Int32) (m : Nat) (hm : s 8 1 = nI m) (hm6 : m ≤ 6) (v : Int32) : Ct G yX12_isHeir cX12_isHeir 2 (some .boolean) 0 0 1 [.ref o, .int v] (mW G o a s) (Is (some (.int (bI (rng v m)))) (mW G o a s)) := Ct.of rfl (Nat.le_of_ble_eq_true rfl) (j_X12_isHeir o a s m hm hm6 v (fun _ e => by subst e; exact Is.rf _ _))
set_option maxRecDepth 100000 in
set_option maxHeartbeats 1000000 in
theorem j_X12_isAt {G : GT} (o : Nat) (a : Nat → Nat) (s : Nat → Nat → Int32) (h t : Nat) (hh : h < 8) {Q : Option Value → va_W → Prop} (hq : ∀ v_ : Int32, v_ = bI (atH (s 9) h t) → Q (some (.int v_)) (mW G o a s)) : J G "isAt" RX12 cX12_isAt 3 (some .boolean) 0 0 0 Q 0 0 0 [(0, .ref o), (1, .int (nI h)), (2, .int (nI t))] [] (mW G o a s) := by
  refine J_iload_n dX12_isAt_0 rfl rfl ?_
  refine J_aload_n dX12_isAt_1 rfl rfl ?_
  refine Mg_9 dX12_isAt_2 ?_
  refine J_iconst (v := nI 5) dX12_isAt_5 (by decide) ?_
  refine J_iload_n dX12_isAt_6 rfl rfl ?_
  refine J_imulN dX12_isAt_7 ?_
  refine Ml_9 (s := s) (s 9) rfl (5 * h) rfl (by omega) dX12_isAt_8 ?_
  refine J_isub dX12_isAt_9 ?_
  refine J_bipush (v := nI 24) dX12_isAt_10 (by decide) ?_
  refine J_iadd dX12_isAt_12 ?_
  refine J_bipush (v := nI 24) dX12_isAt_13 (by decide) ?_
  refine J_irem dX12_isAt_15 (by decide) ?_
  refine J_aload_n dX12_isAt_16 rfl rfl ?_
  refine Mg_9 dX12_isAt_17 ?_
  refine J_iconst (v := nI 5) dX12_isAt_20 (by decide) ?_
  refine J_iload_n dX12_isAt_21 rfl rfl ?_
  refine J_imulN dX12_isAt_22 ?_
  refine J_iconst (v := nI 1) dX12_isAt_23 (by decide) ?_
  refine J_iaddN dX12_isAt_24 ?_
  refine Ml_9 (s := s) (s 9) rfl (5 * h + 1) rfl (by omega) dX12_isAt_25 ?_
  refine J_icmp_ge 33 dX12_isAt_26 (by decide) (fun kcz1 => ?_) (fun kcz1 => ?_)
  · refine J_iconst (v := nI 0) dX12_isAt_33 (by decide) ?_
    exact J_zretB (b := false) dX12_isAt_34 rfl rfl rfl (hq _ (by show bI false = bI (atH (s 9) h t); simp [atH, kcz1]))
  · refine J_iconst (v := nI 1) dX12_isAt_29 (by decide) ?_
    refine J_goto 34 dX12_isAt_30 (by decide) ?_
    exact J_zretB (b := true) dX12_isAt_34 rfl rfl rfl (hq _ (by show bI true = bI (atH (s 9) h t); simp [atH, kcz1]))
theorem c_X12_isAt {G : GT} (o : Nat) (a : Nat → Nat) (s : Nat → Nat → Int32) (h t : Nat) (hh : h < 8) : Ct G yX12_isAt cX12_isAt 3 (some .boolean) 0 0 0 [.ref o, .int (nI h), .int (nI t)] (mW G o a s) (Is (some (.int (bI (atH (s 9) h t)))) (mW G o a s)) := Ct.of rfl (Nat.le_of_ble_eq_true rfl) (j_X12_isAt o a s h t hh (fun _ e => by subst e; exact Is.rf _ _))
set_option maxRecDepth 100000 in
set_option maxHeartbeats 1000000 in
theorem j_X12_isAway {G : GT} (o : Nat) (a : Nat → Nat) (s : Nat → Nat → Int32) (q t : Nat) (hq6 : q < 6) {Q : Option Value → va_W → Prop} (hq : ∀ v_ : Int32, v_ = bI (awE (s 10) q t) → Q (some (.int v_)) (mW G o a s)) : J G "isAway" RX12 cX12_isAway 5 (some .boolean) 0 0 0 Q 0 0 0 [(0, .ref o), (1, .int (nI q)), (2, .int (nI t))] [] (mW G o a s) := by
  refine J_aload_n dX12_isAway_0 rfl rfl ?_
  refine Mg_10 dX12_isAway_1 ?_
  refine J_iconst (v := nI 3) dX12_isAway_4 (by decide) ?_
  refine J_iload_n dX12_isAway_5 rfl rfl ?_
  refine J_imulN dX12_isAway_6 ?_
  refine J_iconst (v := nI 1) dX12_isAway_7 (by decide) ?_
  refine J_iaddN dX12_isAway_8 ?_
  refine Ml_10 (s := s) (s 10) rfl (3 * q + 1) rfl (by omega) dX12_isAway_9 ?_
  refine J_istore_n [(0, .ref o), (1, .int (nI q)), (2, .int (nI t)), (3, .int (s 10 (3 * q + 1)))] dX12_isAway_10 rfl (by decide) rfl rfl rfl ?_
  refine J_aload_n dX12_isAway_11 rfl rfl ?_
  refine Mg_10 dX12_isAway_12 ?_
  refine J_iconst (v := nI 3) dX12_isAway_15 (by decide) ?_
  refine J_iload_n dX12_isAway_16 rfl rfl ?_
  refine J_imulN dX12_isAway_17 ?_
  refine J_iconst (v := nI 2) dX12_isAway_18 (by decide) ?_
  refine J_iaddN dX12_isAway_19 ?_
  refine Ml_10 (s := s) (s 10) rfl (3 * q + 2) rfl (by omega) dX12_isAway_20 ?_
  refine J_istore [(0, .ref o), (1, .int (nI q)), (2, .int (nI t)), (3, .int (s 10 (3 * q + 1))), (4, .int (s 10 (3 * q + 2)))] dX12_isAway_21 (by decide) rfl rfl rfl ?_
  refine J_iload_n dX12_isAway_23 rfl rfl ?_
  refine J_iload dX12_isAway_24 rfl ?_
  refine J_icmp_gt 48 dX12_isAway_26 (by decide) (fun kcz1 => ?_) (fun kcz1 => ?_)
  · refine J_iload_n dX12_isAway_48 rfl rfl ?_
    refine J_iload_n dX12_isAway_49 rfl rfl ?_
    refine J_icmp_ge 59 dX12_isAway_50 (by decide) (fun kcz2 => ?_) (fun kcz2 => ?_)
    · refine J_iconst (v := nI 1) dX12_isAway_59 (by decide) ?_
      refine J_goto 64 dX12_isAway_60 (by decide) ?_
      exact J_zretB (b := true) dX12_isAway_64 rfl rfl rfl (hq _ (by show bI true = bI (awE (s 10) q t); simp [awE, kcz1, kcz2]))
    · refine J_iload_n dX12_isAway_53 rfl rfl ?_
      refine J_iload dX12_isAway_54 rfl ?_
      refine J_icmp_ge 63 dX12_isAway_56 (by decide) (fun kcz3 => ?_) (fun kcz3 => ?_)
      · refine J_iconst (v := nI 0) dX12_isAway_63 (by decide) ?_
        exact J_zretB (b := false) dX12_isAway_64 rfl rfl rfl (hq _ (by show bI false = bI (awE (s 10) q t); simp [awE, kcz1, kcz2, kcz3]))
      · refine J_iconst (v := nI 1) dX12_isAway_59 (by decide) ?_
        refine J_goto 64 dX12_isAway_60 (by decide) ?_
        exact J_zretB (b := true) dX12_isAway_64 rfl rfl rfl (hq _ (by show bI true = bI (awE (s 10) q t); simp [awE, kcz1, kcz2, kcz3]))
  · refine J_iload_n dX12_isAway_29 rfl rfl ?_
    refine J_iload_n dX12_isAway_30 rfl rfl ?_
    refine J_icmp_lt 44 dX12_isAway_31 (by decide) (fun kcz4 => ?_) (fun kcz4 => ?_)
    · refine J_iconst (v := nI 0) dX12_isAway_44 (by decide) ?_
      refine J_goto 64 dX12_isAway_45 (by decide) ?_
      exact J_zretB (b := false) dX12_isAway_64 rfl rfl rfl (hq _ (by show bI false = bI (awE (s 10) q t); simp [awE, kcz1, kcz4]))
    · refine J_iload_n dX12_isAway_34 rfl rfl ?_
      refine J_iload dX12_isAway_35 rfl ?_
      refine J_icmp_ge 44 dX12_isAway_37 (by decide) (fun kcz5 => ?_) (fun kcz5 => ?_)
      · refine J_iconst (v := nI 0) dX12_isAway_44 (by decide) ?_
        refine J_goto 64 dX12_isAway_45 (by decide) ?_
        exact J_zretB (b := false) dX12_isAway_64 rfl rfl rfl (hq _ (by show bI false = bI (awE (s 10) q t); simp [awE, kcz1, kcz4, kcz5]))
      · refine J_iconst (v := nI 1) dX12_isAway_40 (by decide) ?_
        refine J_goto 64 dX12_isAway_41 (by decide) ?_
        exact J_zretB (b := true) dX12_isAway_64 rfl rfl rfl (hq _ (by show bI true = bI (awE (s 10) q t); simp [awE, kcz1, kcz4, kcz5]))
theorem c_X12_isAway {G : GT} (o : Nat) (a : Nat → Nat) (s : Nat → Nat → Int32) (q t : Nat) (hq6 : q < 6) : Ct G yX12_isAway cX12_isAway 5 (some .boolean) 0 0 0 [.ref o, .int (nI q), .int (nI t)] (mW G o a s) (Is (some (.int (bI (awE (s 10) q t)))) (mW G o a s)) := Ct.of rfl (Nat.le_of_ble_eq_true rfl) (j_X12_isAway o a s q t hq6 (fun _ e => by subst e; exact Is.rf _ _))
set_option maxRecDepth 100000 in
set_option maxHeartbeats 1000000 in
theorem j_X12_cannot {G : GT} (o : Nat) (a : Nat → Nat) (s : Nat → Nat → Int32) (n : Nat) (hn : s 8 0 = nI n) (hn8 : n ≤ 8) (q h : Nat) (hq6 : q < 6) (hh : h < 8) {Q : Option Value → va_W → Prop} (hq : ∀ v_ : Int32, v_ = bI (canM n (s 9) (s 10) (s 17) q h) → Q (some (.int v_)) (mW G o a s)) : J G "cannot" RX12 cX12_cannot 6 (some .boolean) 0 0 2 Q 0 0 0 [(0, .ref o), (1, .int (nI q)), (2, .int (nI h))] [] (mW G o a s) := by
  refine J_aload_n dX12_cannot_0 rfl rfl ?_
  refine Mg_9 dX12_cannot_1 ?_
  refine J_iconst (v := nI 5) dX12_cannot_4 (by decide) ?_
  refine J_iload_n dX12_cannot_5 rfl rfl ?_
  refine J_imulN dX12_cannot_6 ?_
  refine J_iconst (v := nI 3) dX12_cannot_7 (by decide) ?_
  refine J_iaddN dX12_cannot_8 ?_
  refine Ml_9 (s := s) (s 9) rfl (5 * h + 3) rfl (by omega) dX12_cannot_9 ?_
  refine J_istore_n [(0, .ref o), (1, .int (nI q)), (2, .int (nI h)), (3, .int (s 9 (5 * h + 3)))] dX12_cannot_10 rfl (by decide) rfl rfl rfl ?_
  refine J_iload_n dX12_cannot_11 rfl rfl ?_
  refine J_iconst (v := -1) dX12_cannot_12 (by decide) ?_
  have K39_0 : ∀ (t0 : Int32), t0 = bI (leanM n (s 9) (s 17) q h) → J G "cannot" RX12 cX12_cannot 6 (some .boolean) 0 0 2 Q 0 0 39 [(0, .ref o), (1, .int (nI q)), (2, .int (nI h)), (3, .int (s 9 (5 * h + 3)))] [.int t0] (mW G o a s) := by
    intro t0 qt0
    subst qt0
    refine J_istore [(0, .ref o), (1, .int (nI q)), (2, .int (nI h)), (3, .int (s 9 (5 * h + 3))), (4, .int (bI (leanM n (s 9) (s 17) q h)))] dX12_cannot_39 (by decide) rfl rfl rfl ?_
    refine J_iconst (v := nI 0) dX12_cannot_41 (by decide) ?_
    refine J_istore [(0, .ref o), (1, .int (nI q)), (2, .int (nI h)), (3, .int (s 9 (5 * h + 3))), (4, .int (bI (leanM n (s 9) (s 17) q h))), (5, .int (nI 0))] dX12_cannot_42 (by decide) rfl rfl rfl ?_
    have L44 : ∀ (f i : Nat), 24 - i < f → i ≤ 24 → ∀ (x4 : Int32) (x5 : Int32), x4 = bI (leanM n (s 9) (s 17) q h || anyB (fun t => atH (s 9) h t && awE (s 10) q t) i) → x5 = nI i → J G "cannot" RX12 cX12_cannot 6 (some .boolean) 0 0 2 Q 0 0 44 [(0, .ref o), (1, .int (nI q)), (2, .int (nI h)), (3, .int (s 9 (5 * h + 3))), (4, .int x4), (5, .int x5)] [] (mW G o a s) := by
      intro f
      induction f with
      | zero => intro i h; exact absurd h (Nat.not_lt_zero _)
      | succ f ih =>
        intro i hf44 hle44  x4 x5 e4 e5
        subst e4
        subst e5
        refine J_iload dX12_cannot_44 rfl ?_
        refine J_bipush (v := nI 24) dX12_cannot_46 (by decide) ?_
        refine J_icmp_geN 89 (by omega) (by omega) dX12_cannot_48 (by decide) (fun kcz2 => ?_) (fun kcz2 => ?_)
        · refine J_iload dX12_cannot_89 rfl ?_
          exact J_zretB dX12_cannot_91 rfl rfl rfl (hq _ (by unfold canM; first | exact exit_any kcz2 (by omega) | (have e_ : i = 24 := (by omega); subst e_; rfl)))
        · refine J_iload dX12_cannot_51 rfl ?_
          refine J_if_neB 89 dX12_cannot_53 (by decide) (fun kcz3 => ?_) (fun kcz3 => ?_)
          · refine J_iload dX12_cannot_89 rfl ?_
            exact J_zretB dX12_cannot_91 rfl rfl rfl (hq _ (by unfold canM; first | exact exit_any kcz3 (by omega) | (have e_ : i = 24 := (by omega); subst e_; rfl)))
          · refine J_aload_n dX12_cannot_56 rfl rfl ?_
            refine J_iload_n dX12_cannot_57 rfl rfl ?_
            refine J_iload dX12_cannot_58 rfl ?_
            refine J_cVi (x := yX12_in) [.int (nI h), .int (nI i)] 0 mv_X12_174 (c_X12_isAt o a s h i (by omega)) mW_0 rfl rfl (by decide) (Nat.le_of_ble_eq_true rfl) ⟨Nat.le_refl _, Nat.le_refl _⟩ dX12_cannot_60 ?_
            have K81_3 : ∀ (t0 : Int32), t0 = bI ((atH (s 9) h i) && (awE (s 10) q i)) → J G "cannot" RX12 cX12_cannot 6 (some .boolean) 0 0 2 Q 0 0 81 [(0, .ref o), (1, .int (nI q)), (2, .int (nI h)), (3, .int (s 9 (5 * h + 3))), (4, .int (bI (leanM n (s 9) (s 17) q h || anyB (fun t => atH (s 9) h t && awE (s 10) q t) i))), (5, .int (nI i))] [.int t0] (mW G o a s) := by
              intro t0 qt0
              subst qt0
              refine J_istore [(0, .ref o), (1, .int (nI q)), (2, .int (nI h)), (3, .int (s 9 (5 * h + 3))), (4, .int (bI ((atH (s 9) h i) && (awE (s 10) q i)))), (5, .int (nI i))] dX12_cannot_81 (by decide) rfl rfl rfl ?_
              refine J_iincN [(0, .ref o), (1, .int (nI q)), (2, .int (nI h)), (3, .int (s 9 (5 * h + 3))), (4, .int (bI ((atH (s 9) h i) && (awE (s 10) q i)))), (5, .int (nI (i + 1)))] dX12_cannot_83 rfl (by decide) rfl rfl rfl ?_
              refine J_goto 44 dX12_cannot_86 (by decide) ?_
              exact ih (i + 1) (by omega) (by omega)  _ _ (step_any kcz3 (by simp [kcz2, kcz3])) rfl
            refine J_if_eqB 80 dX12_cannot_63 (by decide) (fun kcz5 => ?_) (fun kcz5 => ?_)
            · refine J_iconst (v := nI 0) dX12_cannot_80 (by decide) ?_
              exact K81_3 _ (by show bI false = bI ((atH (s 9) h i) && (awE (s 10) q i)); simp [kcz2, kcz3, kcz5])
            · refine J_aload_n dX12_cannot_66 rfl rfl ?_
              refine J_iload_n dX12_cannot_67 rfl rfl ?_
              refine J_iload dX12_cannot_68 rfl ?_
              refine J_cVi (x := yX12_in) [.int (nI q), .int (nI i)] 0 mv_X12_177 (c_X12_isAway o a s q i (by omega)) mW_0 rfl rfl (by decide) (Nat.le_of_ble_eq_true rfl) ⟨Nat.le_refl _, Nat.le_refl _⟩ dX12_cannot_70 ?_
              refine J_if_eqB 80 dX12_cannot_73 (by decide) (fun kcz6 => ?_) (fun kcz6 => ?_)
              · refine J_iconst (v := nI 0) dX12_cannot_80 (by decide) ?_
                exact K81_3 _ (by show bI false = bI ((atH (s 9) h i) && (awE (s 10) q i)); simp [kcz2, kcz3, kcz5, kcz6])
              · refine J_iconst (v := nI 1) dX12_cannot_76 (by decide) ?_
                refine J_goto 81 dX12_cannot_77 (by decide) ?_
                exact K81_3 _ (by show bI true = bI ((atH (s 9) h i) && (awE (s 10) q i)); simp [kcz2, kcz3, kcz5, kcz6])
    exact L44 (24 + 1) 0 (by omega) (by omega)  _ _ (by simp [anyB]) rfl
  refine J_icmp_eq 38 dX12_cannot_13 (by decide) (fun kcz7 => ?_) (fun kcz7 => ?_)
  · refine J_iconst (v := nI 0) dX12_cannot_38 (by decide) ?_
    exact K39_0 _ (by first | (show bI false = bI (leanM n (s 9) (s 17) q h); simp [leanM, kcz7]; done) | (show bI true = bI (leanM n (s 9) (s 17) q h); simp [leanM, kcz7]))
  · refine J_aload_n dX12_cannot_16 rfl rfl ?_
    refine J_iload_n dX12_cannot_17 rfl rfl ?_
    refine J_cVi (x := yX12_in) [.int (s 9 (5 * h + 3))] 0 mv_X12_128 (c_X12_isHabit o a s n hn hn8 (s 9 (5 * h + 3))) mW_0 rfl rfl (by decide) (Nat.le_of_ble_eq_true rfl) ⟨Nat.le_refl _, Nat.le_refl _⟩ dX12_cannot_18 ?_
    refine J_if_eqB 34 dX12_cannot_21 (by decide) (fun kcz8 => ?_) (fun kcz8 => ?_)
    · refine J_iconst (v := nI 1) dX12_cannot_34 (by decide) ?_
      refine J_goto 39 dX12_cannot_35 (by decide) ?_
      exact K39_0 _ (by first | (show bI false = bI (leanM n (s 9) (s 17) q h); simp [leanM, kcz7, kcz8]; done) | (show bI true = bI (leanM n (s 9) (s 17) q h); simp [leanM, kcz7, kcz8]))
    · refine J_aload_n dX12_cannot_24 rfl rfl ?_
      refine Mg_17 dX12_cannot_25 ?_
      refine J_iload_n dX12_cannot_28 rfl rfl ?_
      refine Ml_17 (s := s) (s 17) rfl ((s 9 (5 * h + 3)).toNatClampNeg) (rng_ix kcz8 hn8).1 (rng_ix kcz8 hn8).2 dX12_cannot_29 ?_
      refine J_iload_n dX12_cannot_30 rfl rfl ?_
      refine J_icmp_eq 38 dX12_cannot_31 (by decide) (fun kcz9 => ?_) (fun kcz9 => ?_)
      · refine J_iconst (v := nI 0) dX12_cannot_38 (by decide) ?_
        exact K39_0 _ (by first | (show bI false = bI (leanM n (s 9) (s 17) q h); simp [leanM, kcz7, kcz8, kcz9]; done) | (show bI true = bI (leanM n (s 9) (s 17) q h); simp [leanM, kcz7, kcz8, kcz9]))
      · refine J_iconst (v := nI 1) dX12_cannot_34 (by decide) ?_
        refine J_goto 39 dX12_cannot_35 (by decide) ?_
        exact K39_0 _ (by first | (show bI false = bI (leanM n (s 9) (s 17) q h); simp [leanM, kcz7, kcz8, kcz9]; done) | (show bI true = bI (leanM n (s 9) (s 17) q h); simp [leanM, kcz7, kcz8, kcz9]))
theorem c_X12_cannot {G : GT} (o : Nat) (a : Nat → Nat) (s : Nat → Nat → Int32) (n : Nat) (hn : s 8 0 = nI n) (hn8 : n ≤ 8) (q h : Nat) (hq6 : q < 6) (hh : h < 8) : Ct G yX12_cannot cX12_cannot 6 (some .boolean) 0 0 2 [.ref o, .int (nI q), .int (nI h)] (mW G o a s) (Is (some (.int (bI (canM n (s 9) (s 10) (s 17) q h)))) (mW G o a s)) := Ct.of rfl (Nat.le_of_ble_eq_true rfl) (j_X12_cannot o a s n hn hn8 q h hq6 hh (fun _ e => by subst e; exact Is.rf _ _))
set_option maxRecDepth 100000 in
set_option maxHeartbeats 1000000 in
theorem j_X12_hasNow {G : GT} (o : Nat) (a : Nat → Nat) (s : Nat → Nat → Int32) (n : Nat) (hn : s 8 0 = nI n) (hn8 : n ≤ 8) (q : Nat) {Q : Option Value → va_W → Prop} (hq : ∀ v_ : Int32, v_ = nI (hasM n (s 17) q) → Q (some (.int v_)) (mW G o a s)) : J G "hasNow" RX12 cX12_hasNow 4 (some .int) 0 0 0 Q 0 0 0 [(0, .ref o), (1, .int (nI q))] [] (mW G o a s) := by
  refine J_iconst (v := nI 0) dX12_hasNow_0 (by decide) ?_
  refine J_istore_n [(0, .ref o), (1, .int (nI q)), (2, .int (nI 0))] dX12_hasNow_1 rfl (by decide) rfl rfl rfl ?_
  refine J_iconst (v := nI 0) dX12_hasNow_2 (by decide) ?_
  refine J_istore_n [(0, .ref o), (1, .int (nI q)), (2, .int (nI 0)), (3, .int (nI 0))] dX12_hasNow_3 rfl (by decide) rfl rfl rfl ?_
  have L4 : ∀ (f i : Nat), n - i < f → i ≤ n → ∀ (x2 : Int32) (x3 : Int32), x2 = nI (bm (fun h => decide (s 17 h = nI q)) i) → x3 = nI i → J G "hasNow" RX12 cX12_hasNow 4 (some .int) 0 0 0 Q 0 0 4 [(0, .ref o), (1, .int (nI q)), (2, .int x2), (3, .int x3)] [] (mW G o a s) := by
    intro f
    induction f with
    | zero => intro i h; exact absurd h (Nat.not_lt_zero _)
    | succ f ih =>
      intro i hf4 hle4  x2 x3 e2 e3
      subst e2
      subst e3
      refine J_iload_n dX12_hasNow_4 rfl rfl ?_
      refine J_aload_n dX12_hasNow_5 rfl rfl ?_
      refine Mg_8 dX12_hasNow_6 ?_
      refine J_iconst (v := nI 0) dX12_hasNow_9 (by decide) ?_
      refine Ml_8 (s := s) (s 8) rfl 0 rfl (by omega) dX12_hasNow_10 ?_
      refine J_rw (y := nI n) hn ?_
      refine J_icmp_geN 40 (by omega) (by omega) dX12_hasNow_11 (by decide) (fun kcz1 => ?_) (fun kcz1 => ?_)
      · refine J_iload_n dX12_hasNow_40 rfl rfl ?_
        exact J_iret dX12_hasNow_41 rfl rfl rfl (hq _ (by obtain rfl : i = n := (by omega); rfl))
      · refine J_iload_n dX12_hasNow_14 rfl rfl ?_
        refine J_aload_n dX12_hasNow_15 rfl rfl ?_
        refine Mg_17 dX12_hasNow_16 ?_
        refine J_iload_n dX12_hasNow_19 rfl rfl ?_
        refine Ml_17 (s := s) (s 17) rfl i rfl (by omega) dX12_hasNow_20 ?_
        refine J_iload_n dX12_hasNow_21 rfl rfl ?_
        have K32_1 : ∀ (t0 : Int32), t0 = nI (if ¬ s 17 i = nI q then 0 else 2 ^ i) → J G "hasNow" RX12 cX12_hasNow 4 (some .int) 0 0 0 Q 0 0 32 [(0, .ref o), (1, .int (nI q)), (2, .int (nI (bm (fun h => decide (s 17 h = nI q)) i))), (3, .int (nI i))] [.int t0, .int (nI (bm (fun h => decide (s 17 h = nI q)) i))] (mW G o a s) := by
          intro t0 qt0
          subst qt0
          refine J_iorN dX12_hasNow_32 ?_
          refine J_istore_n [(0, .ref o), (1, .int (nI q)), (2, .int (nI ((bm (fun h => decide (s 17 h = nI q)) i) ||| (if ¬ s 17 i = nI q then 0 else 2 ^ i)))), (3, .int (nI i))] dX12_hasNow_33 rfl (by decide) rfl rfl rfl ?_
          refine J_iincN [(0, .ref o), (1, .int (nI q)), (2, .int (nI ((bm (fun h => decide (s 17 h = nI q)) i) ||| (if ¬ s 17 i = nI q then 0 else 2 ^ i)))), (3, .int (nI (i + 1)))] dX12_hasNow_34 rfl (by decide) rfl rfl rfl ?_
          refine J_goto 4 dX12_hasNow_37 (by decide) ?_
          exact ih (i + 1) (by omega) (by omega)  _ _ (by simp only [bm]; congr 2; (repeat' split) <;> simp_all) rfl
        refine J_icmp_ne 31 dX12_hasNow_22 (by decide) (fun kcz3 => ?_) (fun kcz3 => ?_)
        · refine J_iconst (v := nI 0) dX12_hasNow_31 (by decide) ?_
          exact K32_1 _ (by simp [kcz1, kcz3])
        · refine J_iconst (v := nI 1) dX12_hasNow_25 (by decide) ?_
          refine J_iload_n dX12_hasNow_26 rfl rfl ?_
          refine J_shl1N dX12_hasNow_27 (by omega) ?_
          refine J_goto 32 dX12_hasNow_28 (by decide) ?_
          exact K32_1 _ (by simp [kcz1, kcz3])
  exact L4 (n + 1) 0 (by omega) (by omega)  _ _ rfl rfl
theorem c_X12_hasNow {G : GT} (o : Nat) (a : Nat → Nat) (s : Nat → Nat → Int32) (n : Nat) (hn : s 8 0 = nI n) (hn8 : n ≤ 8) (q : Nat) : Ct G yX12_hasNow cX12_hasNow 4 (some .int) 0 0 0 [.ref o, .int (nI q)] (mW G o a s) (Is (some (.int (nI (hasM n (s 17) q)))) (mW G o a s)) := Ct.of rfl (Nat.le_of_ble_eq_true rfl) (j_X12_hasNow o a s n hn hn8 q (fun _ e => by subst e; exact Is.rf _ _))
set_option maxRecDepth 100000 in
set_option maxHeartbeats 1000000 in
theorem j_X12_cannotNow {G : GT} (o : Nat) (a : Nat → Nat) (s : Nat → Nat → Int32) (n : Nat) (hn : s 8 0 = nI n) (hn8 : n ≤ 8) (q : Nat) (hq6 : q < 6) {Q : Option Value → va_W → Prop} (hq : ∀ v_ : Int32, v_ = nI (canNowM n (s 9) (s 10) (s 17) q) → Q (some (.int v_)) (mW G o a s)) : J G "cannotNow" RX12 cX12_cannotNow 4 (some .int) 0 0 3 Q 0 0 0 [(0, .ref o), (1, .int (nI q))] [] (mW G o a s) := by
  refine J_iconst (v := nI 0) dX12_cannotNow_0 (by decide) ?_
  refine J_istore_n [(0, .ref o), (1, .int (nI q)), (2, .int (nI 0))] dX12_cannotNow_1 rfl (by decide) rfl rfl rfl ?_
  refine J_iconst (v := nI 0) dX12_cannotNow_2 (by decide) ?_
  refine J_istore_n [(0, .ref o), (1, .int (nI q)), (2, .int (nI 0)), (3, .int (nI 0))] dX12_cannotNow_3 rfl (by decide) rfl rfl rfl ?_
  have L4 : ∀ (f i : Nat), n - i < f → i ≤ n → ∀ (x2 : Int32) (x3 : Int32), x2 = nI (bm (fun h => decide (s 17 h = nI q) && canM n (s 9) (s 10) (s 17) q h) i) → x3 = nI i → J G "cannotNow" RX12 cX12_cannotNow 4 (some .int) 0 0 3 Q 0 0 4 [(0, .ref o), (1, .int (nI q)), (2, .int x2), (3, .int x3)] [] (mW G o a s) := by
    intro f
    induction f with
    | zero => intro i h; exact absurd h (Nat.not_lt_zero _)
    | succ f ih =>
      intro i hf4 hle4  x2 x3 e2 e3
      subst e2
      subst e3
      refine J_iload_n dX12_cannotNow_4 rfl rfl ?_
      refine J_aload_n dX12_cannotNow_5 rfl rfl ?_
      refine Mg_8 dX12_cannotNow_6 ?_
      refine J_iconst (v := nI 0) dX12_cannotNow_9 (by decide) ?_
      refine Ml_8 (s := s) (s 8) rfl 0 rfl (by omega) dX12_cannotNow_10 ?_
      refine J_rw (y := nI n) hn ?_
      refine J_icmp_geN 49 (by omega) (by omega) dX12_cannotNow_11 (by decide) (fun kcz1 => ?_) (fun kcz1 => ?_)
      · refine J_iload_n dX12_cannotNow_49 rfl rfl ?_
        exact J_iret dX12_cannotNow_50 rfl rfl rfl (hq _ (by obtain rfl : i = n := (by omega); rfl))
      · refine J_iload_n dX12_cannotNow_14 rfl rfl ?_
        refine J_aload_n dX12_cannotNow_15 rfl rfl ?_
        refine Mg_17 dX12_cannotNow_16 ?_
        refine J_iload_n dX12_cannotNow_19 rfl rfl ?_
        refine Ml_17 (s := s) (s 17) rfl i rfl (by omega) dX12_cannotNow_20 ?_
        refine J_iload_n dX12_cannotNow_21 rfl rfl ?_
        have K41_1 : ∀ (t0 : Int32), t0 = nI (if ¬ s 17 i = nI q then 0 else (if (canM n (s 9) (s 10) (s 17) q i) = false then 0 else 2 ^ i)) → J G "cannotNow" RX12 cX12_cannotNow 4 (some .int) 0 0 3 Q 0 0 41 [(0, .ref o), (1, .int (nI q)), (2, .int (nI (bm (fun h => decide (s 17 h = nI q) && canM n (s 9) (s 10) (s 17) q h) i))), (3, .int (nI i))] [.int t0, .int (nI (bm (fun h => decide (s 17 h = nI q) && canM n (s 9) (s 10) (s 17) q h) i))] (mW G o a s) := by
          intro t0 qt0
          subst qt0
          refine J_iorN dX12_cannotNow_41 ?_
          refine J_istore_n [(0, .ref o), (1, .int (nI q)), (2, .int (nI ((bm (fun h => decide (s 17 h = nI q) && canM n (s 9) (s 10) (s 17) q h) i) ||| (if ¬ s 17 i = nI q then 0 else (if (canM n (s 9) (s 10) (s 17) q i) = false then 0 else 2 ^ i))))), (3, .int (nI i))] dX12_cannotNow_42 rfl (by decide) rfl rfl rfl ?_
          refine J_iincN [(0, .ref o), (1, .int (nI q)), (2, .int (nI ((bm (fun h => decide (s 17 h = nI q) && canM n (s 9) (s 10) (s 17) q h) i) ||| (if ¬ s 17 i = nI q then 0 else (if (canM n (s 9) (s 10) (s 17) q i) = false then 0 else 2 ^ i))))), (3, .int (nI (i + 1)))] dX12_cannotNow_43 rfl (by decide) rfl rfl rfl ?_
          refine J_goto 4 dX12_cannotNow_46 (by decide) ?_
          exact ih (i + 1) (by omega) (by omega)  _ _ (by simp only [bm]; congr 2; (repeat' split) <;> simp_all) rfl
        refine J_icmp_ne 40 dX12_cannotNow_22 (by decide) (fun kcz3 => ?_) (fun kcz3 => ?_)
        · refine J_iconst (v := nI 0) dX12_cannotNow_40 (by decide) ?_
          exact K41_1 _ (by simp [kcz1, kcz3])
        · refine J_aload_n dX12_cannotNow_25 rfl rfl ?_
          refine J_iload_n dX12_cannotNow_26 rfl rfl ?_
          refine J_iload_n dX12_cannotNow_27 rfl rfl ?_
          refine J_cVi (x := yX12_in) [.int (nI q), .int (nI i)] 0 mv_X12_180 (c_X12_cannot o a s n hn hn8 q i (by omega) (by omega)) mW_0 rfl rfl (by decide) (Nat.le_of_ble_eq_true rfl) ⟨Nat.le_refl _, Nat.le_refl _⟩ dX12_cannotNow_28 ?_
          refine J_if_eqB 40 dX12_cannotNow_31 (by decide) (fun kcz4 => ?_) (fun kcz4 => ?_)
          · refine J_iconst (v := nI 0) dX12_cannotNow_40 (by decide) ?_
            exact K41_1 _ (by simp [kcz1, kcz3, kcz4])
          · refine J_iconst (v := nI 1) dX12_cannotNow_34 (by decide) ?_
            refine J_iload_n dX12_cannotNow_35 rfl rfl ?_
            refine J_shl1N dX12_cannotNow_36 (by omega) ?_
            refine J_goto 41 dX12_cannotNow_37 (by decide) ?_
            exact K41_1 _ (by simp [kcz1, kcz3, kcz4])
  exact L4 (n + 1) 0 (by omega) (by omega)  _ _ rfl rfl
theorem c_X12_cannotNow {G : GT} (o : Nat) (a : Nat → Nat) (s : Nat → Nat → Int32) (n : Nat) (hn : s 8 0 = nI n) (hn8 : n ≤ 8) (q : Nat) (hq6 : q < 6) : Ct G yX12_cannotNow cX12_cannotNow 4 (some .int) 0 0 3 [.ref o, .int (nI q)] (mW G o a s) (Is (some (.int (nI (canNowM n (s 9) (s 10) (s 17) q)))) (mW G o a s)) := Ct.of rfl (Nat.le_of_ble_eq_true rfl) (j_X12_cannotNow o a s n hn hn8 q hq6 (fun _ e => by subst e; exact Is.rf _ _))
set_option maxRecDepth 100000 in
set_option maxHeartbeats 1000000 in
theorem j_X12_worthNow {G : GT} (o : Nat) (a : Nat → Nat) (s : Nat → Nat → Int32) (n : Nat) (hn : s 8 0 = nI n) (hn8 : n ≤ 8) (q : Nat) {Q : Option Value → va_W → Prop} (hq : ∀ v_ : Int32, v_ = wrM n (s 9) (s 17) q → Q (some (.int v_)) (mW G o a s)) : J G "worthNow" RX12 cX12_worthNow 4 (some .int) 0 0 0 Q 0 0 0 [(0, .ref o), (1, .int (nI q))] [] (mW G o a s) := by
  refine J_iconst (v := nI 0) dX12_worthNow_0 (by decide) ?_
  refine J_istore_n [(0, .ref o), (1, .int (nI q)), (2, .int (nI 0))] dX12_worthNow_1 rfl (by decide) rfl rfl rfl ?_
  refine J_iconst (v := nI 0) dX12_worthNow_2 (by decide) ?_
  refine J_istore_n [(0, .ref o), (1, .int (nI q)), (2, .int (nI 0)), (3, .int (nI 0))] dX12_worthNow_3 rfl (by decide) rfl rfl rfl ?_
  have L4 : ∀ (f i : Nat), n - i < f → i ≤ n → ∀ (x2 : Int32) (x3 : Int32), x2 = smI (fun h => if s 17 h = nI q then s 9 (5 * h + 2) else nI 0) i → x3 = nI i → J G "worthNow" RX12 cX12_worthNow 4 (some .int) 0 0 0 Q 0 0 4 [(0, .ref o), (1, .int (nI q)), (2, .int x2), (3, .int x3)] [] (mW G o a s) := by
    intro f
    induction f with
    | zero => intro i h; exact absurd h (Nat.not_lt_zero _)
    | succ f ih =>
      intro i hf4 hle4  x2 x3 e2 e3
      subst e2
      subst e3
      refine J_iload_n dX12_worthNow_4 rfl rfl ?_
      refine J_aload_n dX12_worthNow_5 rfl rfl ?_
      refine Mg_8 dX12_worthNow_6 ?_
      refine J_iconst (v := nI 0) dX12_worthNow_9 (by decide) ?_
      refine Ml_8 (s := s) (s 8) rfl 0 rfl (by omega) dX12_worthNow_10 ?_
      refine J_rw (y := nI n) hn ?_
      refine J_icmp_geN 47 (by omega) (by omega) dX12_worthNow_11 (by decide) (fun kcz1 => ?_) (fun kcz1 => ?_)
      · refine J_iload_n dX12_worthNow_47 rfl rfl ?_
        exact J_iret dX12_worthNow_48 rfl rfl rfl (hq _ (by obtain rfl : i = n := (by omega); rfl))
      · refine J_iload_n dX12_worthNow_14 rfl rfl ?_
        refine J_aload_n dX12_worthNow_15 rfl rfl ?_
        refine Mg_17 dX12_worthNow_16 ?_
        refine J_iload_n dX12_worthNow_19 rfl rfl ?_
        refine Ml_17 (s := s) (s 17) rfl i rfl (by omega) dX12_worthNow_20 ?_
        refine J_iload_n dX12_worthNow_21 rfl rfl ?_
        have K39_1 : ∀ (t0 : Int32), t0 = (if ¬ s 17 i = nI q then nI 0 else s 9 (5 * i + 2)) → J G "worthNow" RX12 cX12_worthNow 4 (some .int) 0 0 0 Q 0 0 39 [(0, .ref o), (1, .int (nI q)), (2, .int (smI (fun h => if s 17 h = nI q then s 9 (5 * h + 2) else nI 0) i)), (3, .int (nI i))] [.int t0, .int (smI (fun h => if s 17 h = nI q then s 9 (5 * h + 2) else nI 0) i)] (mW G o a s) := by
          intro t0 qt0
          subst qt0
          refine J_iadd dX12_worthNow_39 ?_
          refine J_istore_n [(0, .ref o), (1, .int (nI q)), (2, .int ((smI (fun h => if s 17 h = nI q then s 9 (5 * h + 2) else nI 0) i) + (if ¬ s 17 i = nI q then nI 0 else s 9 (5 * i + 2)))), (3, .int (nI i))] dX12_worthNow_40 rfl (by decide) rfl rfl rfl ?_
          refine J_iincN [(0, .ref o), (1, .int (nI q)), (2, .int ((smI (fun h => if s 17 h = nI q then s 9 (5 * h + 2) else nI 0) i) + (if ¬ s 17 i = nI q then nI 0 else s 9 (5 * i + 2)))), (3, .int (nI (i + 1)))] dX12_worthNow_41 rfl (by decide) rfl rfl rfl ?_
          refine J_goto 4 dX12_worthNow_44 (by decide) ?_
          exact ih (i + 1) (by omega) (by omega)  _ _ (by simp only [smI]; simp [kcz1]) rfl
        refine J_icmp_ne 38 dX12_worthNow_22 (by decide) (fun kcz3 => ?_) (fun kcz3 => ?_)
        · refine J_iconst (v := nI 0) dX12_worthNow_38 (by decide) ?_
          exact K39_1 _ (by simp [kcz1, kcz3])
        · refine J_aload_n dX12_worthNow_25 rfl rfl ?_
          refine Mg_9 dX12_worthNow_26 ?_
          refine J_iconst (v := nI 5) dX12_worthNow_29 (by decide) ?_
          refine J_iload_n dX12_worthNow_30 rfl rfl ?_
          refine J_imulN dX12_worthNow_31 ?_
          refine J_iconst (v := nI 2) dX12_worthNow_32 (by decide) ?_
          refine J_iaddN dX12_worthNow_33 ?_
          refine Ml_9 (s := s) (s 9) rfl (5 * i + 2) rfl (by omega) dX12_worthNow_34 ?_
          refine J_goto 39 dX12_worthNow_35 (by decide) ?_
          exact K39_1 _ (by simp [kcz1, kcz3])
  exact L4 (n + 1) 0 (by omega) (by omega)  _ _ rfl rfl
theorem c_X12_worthNow {G : GT} (o : Nat) (a : Nat → Nat) (s : Nat → Nat → Int32) (n : Nat) (hn : s 8 0 = nI n) (hn8 : n ≤ 8) (q : Nat) : Ct G yX12_worthNow cX12_worthNow 4 (some .int) 0 0 0 [.ref o, .int (nI q)] (mW G o a s) (Is (some (.int (wrM n (s 9) (s 17) q))) (mW G o a s)) := Ct.of rfl (Nat.le_of_ble_eq_true rfl) (j_X12_worthNow o a s n hn hn8 q (fun _ e => by subst e; exact Is.rf _ _))
set_option maxRecDepth 100000 in
set_option maxHeartbeats 1000000 in
theorem j_X12_atOnce {G : GT} (o : Nat) (a : Nat → Nat) (s : Nat → Nat → Int32) (n : Nat) (hn : s 8 0 = nI n) (hn8 : n ≤ 8) (q t : Nat) {Q : Option Value → va_W → Prop} (hq : ∀ v_ : Int32, v_ = nI (onceM n (s 9) (s 17) q t) → Q (some (.int v_)) (mW G o a s)) : J G "atOnce" RX12 cX12_atOnce 5 (some .int) 0 0 1 Q 0 0 0 [(0, .ref o), (1, .int (nI q)), (2, .int (nI t))] [] (mW G o a s) := by
  refine J_iconst (v := nI 0) dX12_atOnce_0 (by decide) ?_
  refine J_istore_n [(0, .ref o), (1, .int (nI q)), (2, .int (nI t)), (3, .int (nI 0))] dX12_atOnce_1 rfl (by decide) rfl rfl rfl ?_
  refine J_iconst (v := nI 0) dX12_atOnce_2 (by decide) ?_
  refine J_istore [(0, .ref o), (1, .int (nI q)), (2, .int (nI t)), (3, .int (nI 0)), (4, .int (nI 0))] dX12_atOnce_3 (by decide) rfl rfl rfl ?_
  have L5 : ∀ (f i : Nat), n - i < f → i ≤ n → ∀ (x3 : Int32) (x4 : Int32), x3 = nI (bm (fun h => decide (s 17 h = nI q) && atH (s 9) h t) i) → x4 = nI i → J G "atOnce" RX12 cX12_atOnce 5 (some .int) 0 0 1 Q 0 0 5 [(0, .ref o), (1, .int (nI q)), (2, .int (nI t)), (3, .int x3), (4, .int x4)] [] (mW G o a s) := by
    intro f
    induction f with
    | zero => intro i h; exact absurd h (Nat.not_lt_zero _)
    | succ f ih =>
      intro i hf5 hle5  x3 x4 e3 e4
      subst e3
      subst e4
      refine J_iload dX12_atOnce_5 rfl ?_
      refine J_aload_n dX12_atOnce_7 rfl rfl ?_
      refine Mg_8 dX12_atOnce_8 ?_
      refine J_iconst (v := nI 0) dX12_atOnce_11 (by decide) ?_
      refine Ml_8 (s := s) (s 8) rfl 0 rfl (by omega) dX12_atOnce_12 ?_
      refine J_rw (y := nI n) hn ?_
      refine J_icmp_geN 54 (by omega) (by omega) dX12_atOnce_13 (by decide) (fun kcz1 => ?_) (fun kcz1 => ?_)
      · refine J_iload_n dX12_atOnce_54 rfl rfl ?_
        exact J_iret dX12_atOnce_55 rfl rfl rfl (hq _ (by obtain rfl : i = n := (by omega); rfl))
      · refine J_iload_n dX12_atOnce_16 rfl rfl ?_
        refine J_aload_n dX12_atOnce_17 rfl rfl ?_
        refine Mg_17 dX12_atOnce_18 ?_
        refine J_iload dX12_atOnce_21 rfl ?_
        refine Ml_17 (s := s) (s 17) rfl i rfl (by omega) dX12_atOnce_23 ?_
        refine J_iload_n dX12_atOnce_24 rfl rfl ?_
        have K46_1 : ∀ (t0 : Int32), t0 = nI (if ¬ s 17 i = nI q then 0 else (if (atH (s 9) i t) = false then 0 else 2 ^ i)) → J G "atOnce" RX12 cX12_atOnce 5 (some .int) 0 0 1 Q 0 0 46 [(0, .ref o), (1, .int (nI q)), (2, .int (nI t)), (3, .int (nI (bm (fun h => decide (s 17 h = nI q) && atH (s 9) h t) i))), (4, .int (nI i))] [.int t0, .int (nI (bm (fun h => decide (s 17 h = nI q) && atH (s 9) h t) i))] (mW G o a s) := by
          intro t0 qt0
          subst qt0
          refine J_iorN dX12_atOnce_46 ?_
          refine J_istore_n [(0, .ref o), (1, .int (nI q)), (2, .int (nI t)), (3, .int (nI ((bm (fun h => decide (s 17 h = nI q) && atH (s 9) h t) i) ||| (if ¬ s 17 i = nI q then 0 else (if (atH (s 9) i t) = false then 0 else 2 ^ i))))), (4, .int (nI i))] dX12_atOnce_47 rfl (by decide) rfl rfl rfl ?_
          refine J_iincN [(0, .ref o), (1, .int (nI q)), (2, .int (nI t)), (3, .int (nI ((bm (fun h => decide (s 17 h = nI q) && atH (s 9) h t) i) ||| (if ¬ s 17 i = nI q then 0 else (if (atH (s 9) i t) = false then 0 else 2 ^ i))))), (4, .int (nI (i + 1)))] dX12_atOnce_48 rfl (by decide) rfl rfl rfl ?_
          refine J_goto 5 dX12_atOnce_51 (by decide) ?_
          exact ih (i + 1) (by omega) (by omega)  _ _ (by simp only [bm]; congr 2; (repeat' split) <;> simp_all) rfl
        refine J_icmp_ne 45 dX12_atOnce_25 (by decide) (fun kcz3 => ?_) (fun kcz3 => ?_)
        · refine J_iconst (v := nI 0) dX12_atOnce_45 (by decide) ?_
          exact K46_1 _ (by simp [kcz1, kcz3])
        · refine J_aload_n dX12_atOnce_28 rfl rfl ?_
          refine J_iload dX12_atOnce_29 rfl ?_
          refine J_iload_n dX12_atOnce_31 rfl rfl ?_
          refine J_cVi (x := yX12_in) [.int (nI i), .int (nI t)] 0 mv_X12_174 (c_X12_isAt o a s i t (by omega)) mW_0 rfl rfl (by decide) (Nat.le_of_ble_eq_true rfl) ⟨Nat.le_refl _, Nat.le_refl _⟩ dX12_atOnce_32 ?_
          refine J_if_eqB 45 dX12_atOnce_35 (by decide) (fun kcz4 => ?_) (fun kcz4 => ?_)
          · refine J_iconst (v := nI 0) dX12_atOnce_45 (by decide) ?_
            exact K46_1 _ (by simp [kcz1, kcz3, kcz4])
          · refine J_iconst (v := nI 1) dX12_atOnce_38 (by decide) ?_
            refine J_iload dX12_atOnce_39 rfl ?_
            refine J_shl1N dX12_atOnce_41 (by omega) ?_
            refine J_goto 46 dX12_atOnce_42 (by decide) ?_
            exact K46_1 _ (by simp [kcz1, kcz3, kcz4])
  exact L5 (n + 1) 0 (by omega) (by omega)  _ _ rfl rfl
theorem c_X12_atOnce {G : GT} (o : Nat) (a : Nat → Nat) (s : Nat → Nat → Int32) (n : Nat) (hn : s 8 0 = nI n) (hn8 : n ≤ 8) (q t : Nat) : Ct G yX12_atOnce cX12_atOnce 5 (some .int) 0 0 1 [.ref o, .int (nI q), .int (nI t)] (mW G o a s) (Is (some (.int (nI (onceM n (s 9) (s 17) q t)))) (mW G o a s)) := Ct.of rfl (Nat.le_of_ble_eq_true rfl) (j_X12_atOnce o a s n hn hn8 q t (fun _ e => by subst e; exact Is.rf _ _))
set_option maxRecDepth 100000 in
set_option maxHeartbeats 1000000 in
theorem j_X12_ones {G : GT} (ws : va_W) (b : Nat) (hb : b < 256) {Q : Option Value → va_W → Prop} (hq : ∀ v_ : Int32, v_ = nI (popc b) → Q (some (.int v_)) ws) : J G "ones" RX12 cX12_ones 3 (some .int) 0 0 0 Q 0 0 0 [(0, .int (nI b))] [] ws := by
  refine J_iconst (v := nI 0) dX12_ones_0 (by decide) ?_
  refine J_istore_n [(0, .int (nI b)), (1, .int (nI 0))] dX12_ones_1 rfl (by decide) rfl rfl rfl ?_
  refine J_iload_n dX12_ones_2 rfl rfl ?_
  refine J_istore_n [(0, .int (nI b)), (1, .int (nI 0)), (2, .int (nI b))] dX12_ones_3 rfl (by decide) rfl rfl rfl ?_
  have L4 : ∀ (f r k : Nat), r < f → r < 256 → k + popc r = popc b → ∀ (x1 : Int32) (x2 : Int32), x1 = nI k → x2 = nI r → J G "ones" RX12 cX12_ones 3 (some .int) 0 0 0 Q 0 0 4 [(0, .int (nI b)), (1, .int x1), (2, .int x2)] [] ws := by
    intro f
    induction f with
    | zero => intro r k h; exact absurd h (Nat.not_lt_zero _)
    | succ f ih =>
      intro r k hf4 hr hk x1 x2 e1 e2
      subst e1
      subst e2
      refine J_iload_n dX12_ones_4 rfl rfl ?_
      refine J_if_eqN 20 (by omega) dX12_ones_5 (by decide) (fun kcz1 => ?_) (fun kcz1 => ?_)
      · refine J_iload_n dX12_ones_20 rfl rfl ?_
        exact J_iret dX12_ones_21 rfl rfl rfl (hq _ (by rw [kcz1, popc_zero] at hk; rw [← hk]; rfl))
      · refine J_iincN [(0, .int (nI b)), (1, .int (nI (k + 1))), (2, .int (nI r))] dX12_ones_8 rfl (by decide) rfl rfl rfl ?_
        refine J_iload_n dX12_ones_11 rfl rfl ?_
        refine J_iload_n dX12_ones_12 rfl rfl ?_
        refine J_iconst (v := nI 1) dX12_ones_13 (by decide) ?_
        refine J_isubN dX12_ones_14 (by omega) ?_
        refine J_iandN dX12_ones_15 ?_
        refine J_istore_n [(0, .int (nI b)), (1, .int (nI (k + 1))), (2, .int (nI (r &&& (r - 1))))] dX12_ones_16 rfl (by decide) rfl rfl rfl ?_
        refine J_goto 4 dX12_ones_17 (by decide) ?_
        exact ih (r &&& (r - 1)) (k + 1) (by have := (popc_step r hr kcz1).2; omega) (by have := (popc_step r hr kcz1).2; omega) (by have := (popc_step r hr kcz1).1; omega) _ _ rfl rfl
  exact L4 (b + 1) b 0 (by omega) hb (by omega) _ _ rfl rfl
theorem c_X12_ones {G : GT} (ws : va_W) (b : Nat) (hb : b < 256) : Ct G yX12_ones cX12_ones 3 (some .int) 0 0 0 [.int (nI b)] ws (Is (some (.int (nI (popc b)))) ws) := Ct.of rfl (Nat.le_of_ble_eq_true rfl) (j_X12_ones ws b hb (fun _ e => by subst e; exact Is.rf _ _))
set_option maxRecDepth 100000 in
set_option maxHeartbeats 1000000 in
theorem j_X12_lives {G : GT} (o : Nat) (a : Nat → Nat) (s : Nat → Nat → Int32) (n : Nat) (hn : s 8 0 = nI n) (hn8 : n ≤ 8) (q : Nat) (hq6 : q < 6) {Q : Option Value → va_W → Prop} (hq : ∀ v_ : Int32, v_ = bI (livM n (s 9) (s 10) (s 17) q) → Q (some (.int v_)) (mW G o a s)) : J G "lives" RX12 cX12_lives 4 (some .boolean) 0 0 4 Q 0 0 0 [(0, .ref o), (1, .int (nI q))] [] (mW G o a s) := by
  refine J_aload_n dX12_lives_0 rfl rfl ?_
  refine J_iload_n dX12_lives_1 rfl rfl ?_
  refine J_cVi (x := yX12_in) [.int (nI q)] 0 mv_X12_183 (c_X12_hasNow o a s n hn hn8 q) mW_0 rfl rfl (by decide) (Nat.le_of_ble_eq_true rfl) ⟨Nat.le_refl _, Nat.le_refl _⟩ dX12_lives_2 ?_
  refine J_cSi [.int (nI (hasM n (s 17) q))] ms_X12_186 (c_X12_ones (mW G o a s) (hasM n (s 17) q) (by first | omega | exact bm_lt256 _ (by omega))) rfl rfl (by decide) (Nat.le_of_ble_eq_true rfl) ⟨Nat.le_refl _, Nat.le_refl _⟩ dX12_lives_5 ?_
  refine J_aload_n dX12_lives_8 rfl rfl ?_
  refine Mg_10 dX12_lives_9 ?_
  refine J_iconst (v := nI 3) dX12_lives_12 (by decide) ?_
  refine J_iload_n dX12_lives_13 rfl rfl ?_
  refine J_imulN dX12_lives_14 ?_
  refine Ml_10 (s := s) (s 10) rfl (3 * q) rfl (by omega) dX12_lives_15 ?_
  have K32_0 : ∀ (t0 : Int32), t0 = bI (!decide (s 10 (3 * q) < nI (popc (hasM n (s 17) q))) && decide (canNowM n (s 9) (s 10) (s 17) q = 0)) → J G "lives" RX12 cX12_lives 4 (some .boolean) 0 0 4 Q 0 0 32 [(0, .ref o), (1, .int (nI q))] [.int t0] (mW G o a s) := by
    intro t0 qt0
    subst qt0
    refine J_istore_n [(0, .ref o), (1, .int (nI q)), (2, .int (bI (!decide (s 10 (3 * q) < nI (popc (hasM n (s 17) q))) && decide (canNowM n (s 9) (s 10) (s 17) q = 0))))] dX12_lives_32 rfl (by decide) rfl rfl rfl ?_
    refine J_iconst (v := nI 0) dX12_lives_33 (by decide) ?_
    refine J_istore_n [(0, .ref o), (1, .int (nI q)), (2, .int (bI (!decide (s 10 (3 * q) < nI (popc (hasM n (s 17) q))) && decide (canNowM n (s 9) (s 10) (s 17) q = 0)))), (3, .int (nI 0))] dX12_lives_34 rfl (by decide) rfl rfl rfl ?_
    have L35 : ∀ (f i : Nat), 24 - i < f → i ≤ 24 → ∀ (x2 : Int32) (x3 : Int32), x2 = bI ((!decide (s 10 (3 * q) < nI (popc (hasM n (s 17) q))) && decide (canNowM n (s 9) (s 10) (s 17) q = 0)) && allB (fun t => !decide (2 ≤ popc (onceM n (s 9) (s 17) q t))) i) → x3 = nI i → J G "lives" RX12 cX12_lives 4 (some .boolean) 0 0 4 Q 0 0 35 [(0, .ref o), (1, .int (nI q)), (2, .int x2), (3, .int x3)] [] (mW G o a s) := by
      intro f
      induction f with
      | zero => intro i h; exact absurd h (Nat.not_lt_zero _)
      | succ f ih =>
        intro i hf35 hle35  x2 x3 e2 e3
        subst e2
        subst e3
        refine J_iload_n dX12_lives_35 rfl rfl ?_
        refine J_bipush (v := nI 24) dX12_lives_36 (by decide) ?_
        refine J_icmp_geN 70 (by omega) (by omega) dX12_lives_38 (by decide) (fun kcz2 => ?_) (fun kcz2 => ?_)
        · refine J_iload_n dX12_lives_70 rfl rfl ?_
          exact J_zretB dX12_lives_71 rfl rfl rfl (hq _ (by unfold livM; first | exact exit_all kcz2 (by omega) | (have e_ : i = 24 := (by omega); subst e_; rfl)))
        · refine J_iload_n dX12_lives_41 rfl rfl ?_
          refine J_if_eqB 70 dX12_lives_42 (by decide) (fun kcz3 => ?_) (fun kcz3 => ?_)
          · refine J_iload_n dX12_lives_70 rfl rfl ?_
            exact J_zretB dX12_lives_71 rfl rfl rfl (hq _ (by unfold livM; first | exact exit_all kcz3 (by omega) | (have e_ : i = 24 := (by omega); subst e_; rfl)))
          · refine J_aload_n dX12_lives_45 rfl rfl ?_
            refine J_iload_n dX12_lives_46 rfl rfl ?_
            refine J_iload_n dX12_lives_47 rfl rfl ?_
            refine J_cVi (x := yX12_in) [.int (nI q), .int (nI i)] 0 mv_X12_192 (c_X12_atOnce o a s n hn hn8 q i) mW_0 rfl rfl (by decide) (Nat.le_of_ble_eq_true rfl) ⟨Nat.le_refl _, Nat.le_refl _⟩ dX12_lives_48 ?_
            refine J_cSi [.int (nI (onceM n (s 9) (s 17) q i))] ms_X12_186 (c_X12_ones (mW G o a s) (onceM n (s 9) (s 17) q i) (by first | omega | exact bm_lt256 _ (by omega))) rfl rfl (by decide) (Nat.le_of_ble_eq_true rfl) ⟨Nat.le_refl _, Nat.le_refl _⟩ dX12_lives_51 ?_
            refine J_iconst (v := nI 2) dX12_lives_54 (by decide) ?_
            have K63_3 : ∀ (t0 : Int32), t0 = bI (!decide (2 ≤ popc (onceM n (s 9) (s 17) q i))) → J G "lives" RX12 cX12_lives 4 (some .boolean) 0 0 4 Q 0 0 63 [(0, .ref o), (1, .int (nI q)), (2, .int (bI ((!decide (s 10 (3 * q) < nI (popc (hasM n (s 17) q))) && decide (canNowM n (s 9) (s 10) (s 17) q = 0)) && allB (fun t => !decide (2 ≤ popc (onceM n (s 9) (s 17) q t))) i))), (3, .int (nI i))] [.int t0] (mW G o a s) := by
              intro t0 qt0
              subst qt0
              refine J_istore_n [(0, .ref o), (1, .int (nI q)), (2, .int (bI (!decide (2 ≤ popc (onceM n (s 9) (s 17) q i))))), (3, .int (nI i))] dX12_lives_63 rfl (by decide) rfl rfl rfl ?_
              refine J_iincN [(0, .ref o), (1, .int (nI q)), (2, .int (bI (!decide (2 ≤ popc (onceM n (s 9) (s 17) q i))))), (3, .int (nI (i + 1)))] dX12_lives_64 rfl (by decide) rfl rfl rfl ?_
              refine J_goto 35 dX12_lives_67 (by decide) ?_
              exact ih (i + 1) (by omega) (by omega)  _ _ (step_all kcz3 (by simp [kcz2, kcz3]; try omega)) rfl
            refine J_icmp_geN 62 (popc_lt31 _) (by omega) dX12_lives_55 (by decide) (fun kcz5 => ?_) (fun kcz5 => ?_)
            · refine J_iconst (v := nI 0) dX12_lives_62 (by decide) ?_
              exact K63_3 _ (by show bI false = bI (!decide (2 ≤ popc (onceM n (s 9) (s 17) q i))); simp [kcz2, kcz3, kcz5])
            · refine J_iconst (v := nI 1) dX12_lives_58 (by decide) ?_
              refine J_goto 63 dX12_lives_59 (by decide) ?_
              exact K63_3 _ (by show bI true = bI (!decide (2 ≤ popc (onceM n (s 9) (s 17) q i))); simp [kcz2, kcz3, kcz5])
    exact L35 (24 + 1) 0 (by omega) (by omega)  _ _ (by simp [allB, anyB]) rfl
  refine J_icmp_gt 31 dX12_lives_16 (by decide) (fun kcz6 => ?_) (fun kcz6 => ?_)
  · refine J_iconst (v := nI 0) dX12_lives_31 (by decide) ?_
    exact K32_0 _ (by show bI false = bI (!decide (s 10 (3 * q) < nI (popc (hasM n (s 17) q))) && decide (canNowM n (s 9) (s 10) (s 17) q = 0)); simp [kcz6])
  · refine J_aload_n dX12_lives_19 rfl rfl ?_
    refine J_iload_n dX12_lives_20 rfl rfl ?_
    refine J_cVi (x := yX12_in) [.int (nI q)] 0 mv_X12_189 (c_X12_cannotNow o a s n hn hn8 q (by omega)) mW_0 rfl rfl (by decide) (Nat.le_of_ble_eq_true rfl) ⟨Nat.le_refl _, Nat.le_refl _⟩ dX12_lives_21 ?_
    refine J_if_neN 31 (Nat.lt_trans (bm_lt256 _ hn8) (by decide)) dX12_lives_24 (by decide) (fun kcz7 => ?_) (fun kcz7 => ?_)
    · refine J_iconst (v := nI 0) dX12_lives_31 (by decide) ?_
      exact K32_0 _ (by show bI false = bI (!decide (s 10 (3 * q) < nI (popc (hasM n (s 17) q))) && decide (canNowM n (s 9) (s 10) (s 17) q = 0)); simp [kcz6, kcz7])
    · refine J_iconst (v := nI 1) dX12_lives_27 (by decide) ?_
      refine J_goto 32 dX12_lives_28 (by decide) ?_
      exact K32_0 _ (by show bI true = bI (!decide (s 10 (3 * q) < nI (popc (hasM n (s 17) q))) && decide (canNowM n (s 9) (s 10) (s 17) q = 0)); simp [kcz6, kcz7])
theorem c_X12_lives {G : GT} (o : Nat) (a : Nat → Nat) (s : Nat → Nat → Int32) (n : Nat) (hn : s 8 0 = nI n) (hn8 : n ≤ 8) (q : Nat) (hq6 : q < 6) : Ct G yX12_lives cX12_lives 4 (some .boolean) 0 0 4 [.ref o, .int (nI q)] (mW G o a s) (Is (some (.int (bI (livM n (s 9) (s 10) (s 17) q)))) (mW G o a s)) := Ct.of rfl (Nat.le_of_ble_eq_true rfl) (j_X12_lives o a s n hn hn8 q hq6 (fun _ e => by subst e; exact Is.rf _ _))
set_option maxRecDepth 100000 in
set_option maxHeartbeats 1000000 in
theorem j_X12_doesNow {G : GT} (o : Nat) (a : Nat → Nat) (s : Nat → Nat → Int32) (n : Nat) (hn : s 8 0 = nI n) (hn8 : n ≤ 8) (q t : Nat) (hq6 : q < 6) {Q : Option Value → va_W → Prop} (hq : ∀ v_ : Int32, v_ = doM n (s 9) (s 10) (s 17) q t → Q (some (.int v_)) (mW G o a s)) : J G "doesNow" RX12 cX12_doesNow 7 (some .int) 0 0 3 Q 0 0 0 [(0, .ref o), (1, .int (nI q)), (2, .int (nI t))] [] (mW G o a s) := by
  refine J_iconst (v := -1) dX12_doesNow_0 (by decide) ?_
  refine J_istore_n [(0, .ref o), (1, .int (nI q)), (2, .int (nI t)), (3, .int (-1))] dX12_doesNow_1 rfl (by decide) rfl rfl rfl ?_
  refine J_aload_n dX12_doesNow_2 rfl rfl ?_
  refine J_iload_n dX12_doesNow_3 rfl rfl ?_
  refine J_iload_n dX12_doesNow_4 rfl rfl ?_
  refine J_cVi (x := yX12_in) [.int (nI q), .int (nI t)] 0 mv_X12_192 (c_X12_atOnce o a s n hn hn8 q t) mW_0 rfl rfl (by decide) (Nat.le_of_ble_eq_true rfl) ⟨Nat.le_refl _, Nat.le_refl _⟩ dX12_doesNow_5 ?_
  refine J_istore [(0, .ref o), (1, .int (nI q)), (2, .int (nI t)), (3, .int (-1)), (4, .int (nI (onceM n (s 9) (s 17) q t)))] dX12_doesNow_8 (by decide) rfl rfl rfl ?_
  refine J_iconst (v := nI 0) dX12_doesNow_10 (by decide) ?_
  refine J_istore [(0, .ref o), (1, .int (nI q)), (2, .int (nI t)), (3, .int (-1)), (4, .int (nI (onceM n (s 9) (s 17) q t))), (5, .int (nI 0))] dX12_doesNow_11 (by decide) rfl rfl rfl ?_
  have L13 : ∀ (f i : Nat), n - i < f → i ≤ n → ∀ (x3 : Int32) (x5 : Int32), x3 = doF n (s 9) (s 10) (s 17) q t i → x5 = nI i → J G "doesNow" RX12 cX12_doesNow 7 (some .int) 0 0 3 Q 0 0 13 [(0, .ref o), (1, .int (nI q)), (2, .int (nI t)), (3, .int x3), (4, .int (nI (onceM n (s 9) (s 17) q t))), (5, .int x5)] [] (mW G o a s) := by
    intro f
    induction f with
    | zero => intro i h; exact absurd h (Nat.not_lt_zero _)
    | succ f ih =>
      intro i hf13 hle13  x3 x5 e3 e5
      subst e3
      subst e5
      refine J_iload dX12_doesNow_13 rfl ?_
      refine J_aload_n dX12_doesNow_15 rfl rfl ?_
      refine Mg_8 dX12_doesNow_16 ?_
      refine J_iconst (v := nI 0) dX12_doesNow_19 (by decide) ?_
      refine Ml_8 (s := s) (s 8) rfl 0 rfl (by omega) dX12_doesNow_20 ?_
      refine J_rw (y := nI n) hn ?_
      refine J_icmp_geN 98 (by omega) (by omega) dX12_doesNow_21 (by decide) (fun kcz1 => ?_) (fun kcz1 => ?_)
      · refine J_iload_n dX12_doesNow_98 rfl rfl ?_
        exact J_iret dX12_doesNow_99 rfl rfl rfl (hq _ (by obtain rfl : i = n := (by omega); rfl))
      · refine J_iload dX12_doesNow_24 rfl ?_
        refine J_iload dX12_doesNow_26 rfl ?_
        refine J_cSi [.int (nI (onceM n (s 9) (s 17) q t)), .int (nI i)] ms_X12_154 (c_X12_isIn (mW G o a s) (onceM n (s 9) (s 17) q t) i (Nat.lt_trans (bm_lt256 _ hn8) (by decide)) (by omega)) rfl rfl (by decide) (Nat.le_of_ble_eq_true rfl) ⟨Nat.le_refl _, Nat.le_refl _⟩ dX12_doesNow_28 ?_
        have K49_1 : ∀ (t0 : Int32), t0 = bI (((onceM n (s 9) (s 17) q t).testBit i) && !(canM n (s 9) (s 10) (s 17) q i)) → J G "doesNow" RX12 cX12_doesNow 7 (some .int) 0 0 3 Q 0 0 49 [(0, .ref o), (1, .int (nI q)), (2, .int (nI t)), (3, .int (doF n (s 9) (s 10) (s 17) q t i)), (4, .int (nI (onceM n (s 9) (s 17) q t))), (5, .int (nI i))] [.int t0] (mW G o a s) := by
          intro t0 qt0
          subst qt0
          refine J_istore [(0, .ref o), (1, .int (nI q)), (2, .int (nI t)), (3, .int (doF n (s 9) (s 10) (s 17) q t i)), (4, .int (nI (onceM n (s 9) (s 17) q t))), (5, .int (nI i)), (6, .int (bI (((onceM n (s 9) (s 17) q t).testBit i) && !(canM n (s 9) (s 10) (s 17) q i))))] dX12_doesNow_49 (by decide) rfl rfl rfl ?_
          refine J_iload dX12_doesNow_51 rfl ?_
          have K91_2 : ∀ (t0 : Int32), t0 = (if (((onceM n (s 9) (s 17) q t).testBit i) && !(canM n (s 9) (s 10) (s 17) q i)) = false then doF n (s 9) (s 10) (s 17) q t i else (if doF n (s 9) (s 10) (s 17) q t i = (-1) then nI i else (if s 9 (5 * i + 2) ≤ s 9 (5 * (doF n (s 9) (s 10) (s 17) q t i).toNatClampNeg + 2) then doF n (s 9) (s 10) (s 17) q t i else nI i))) → J G "doesNow" RX12 cX12_doesNow 7 (some .int) 0 0 3 Q 0 0 91 [(0, .ref o), (1, .int (nI q)), (2, .int (nI t)), (3, .int (doF n (s 9) (s 10) (s 17) q t i)), (4, .int (nI (onceM n (s 9) (s 17) q t))), (5, .int (nI i)), (6, .int (bI (((onceM n (s 9) (s 17) q t).testBit i) && !(canM n (s 9) (s 10) (s 17) q i))))] [.int t0] (mW G o a s) := by
            intro t0 qt0
            subst qt0
            refine J_istore_n [(0, .ref o), (1, .int (nI q)), (2, .int (nI t)), (3, .int (if (((onceM n (s 9) (s 17) q t).testBit i) && !(canM n (s 9) (s 10) (s 17) q i)) = false then doF n (s 9) (s 10) (s 17) q t i else (if doF n (s 9) (s 10) (s 17) q t i = (-1) then nI i else (if s 9 (5 * i + 2) ≤ s 9 (5 * (doF n (s 9) (s 10) (s 17) q t i).toNatClampNeg + 2) then doF n (s 9) (s 10) (s 17) q t i else nI i)))), (4, .int (nI (onceM n (s 9) (s 17) q t))), (5, .int (nI i)), (6, .int (bI (((onceM n (s 9) (s 17) q t).testBit i) && !(canM n (s 9) (s 10) (s 17) q i))))] dX12_doesNow_91 rfl (by decide) rfl rfl rfl ?_
            refine J_iincN [(0, .ref o), (1, .int (nI q)), (2, .int (nI t)), (3, .int (if (((onceM n (s 9) (s 17) q t).testBit i) && !(canM n (s 9) (s 10) (s 17) q i)) = false then doF n (s 9) (s 10) (s 17) q t i else (if doF n (s 9) (s 10) (s 17) q t i = (-1) then nI i else (if s 9 (5 * i + 2) ≤ s 9 (5 * (doF n (s 9) (s 10) (s 17) q t i).toNatClampNeg + 2) then doF n (s 9) (s 10) (s 17) q t i else nI i)))), (4, .int (nI (onceM n (s 9) (s 17) q t))), (5, .int (nI (i + 1))), (6, .int (bI (((onceM n (s 9) (s 17) q t).testBit i) && !(canM n (s 9) (s 10) (s 17) q i))))] dX12_doesNow_92 rfl (by decide) rfl rfl rfl ?_
            refine J_goto 13 dX12_doesNow_95 (by decide) ?_
            refine J_lv [0, 1, 2, 3, 4, 5] rfl ?_
            exact ih (i + 1) (by omega) (by omega)  _ _ (by simp only [doF]; (repeat' split) <;> simp_all) rfl
          refine J_if_eqB 90 dX12_doesNow_53 (by decide) (fun kcz4 => ?_) (fun kcz4 => ?_)
          · refine J_iload_n dX12_doesNow_90 rfl rfl ?_
            exact K91_2 _ (by simp [kcz1, kcz4])
          · refine J_iload_n dX12_doesNow_56 rfl rfl ?_
            refine J_iconst (v := -1) dX12_doesNow_57 (by decide) ?_
            refine J_icmp_eq 85 dX12_doesNow_58 (by decide) (fun kcz5 => ?_) (fun kcz5 => ?_)
            · refine J_iload dX12_doesNow_85 rfl ?_
              refine J_goto 91 dX12_doesNow_87 (by decide) ?_
              exact K91_2 _ (by simp [kcz1, kcz4, kcz5])
            · refine J_aload_n dX12_doesNow_61 rfl rfl ?_
              refine Mg_9 dX12_doesNow_62 ?_
              refine J_iconst (v := nI 5) dX12_doesNow_65 (by decide) ?_
              refine J_iload dX12_doesNow_66 rfl ?_
              refine J_imulN dX12_doesNow_68 ?_
              refine J_iconst (v := nI 2) dX12_doesNow_69 (by decide) ?_
              refine J_iaddN dX12_doesNow_70 ?_
              refine Ml_9 (s := s) (s 9) rfl (5 * i + 2) rfl (by omega) dX12_doesNow_71 ?_
              refine J_aload_n dX12_doesNow_72 rfl rfl ?_
              refine Mg_9 dX12_doesNow_73 ?_
              refine J_iconst (v := nI 5) dX12_doesNow_76 (by decide) ?_
              refine J_iload_n dX12_doesNow_77 rfl rfl ?_
              refine J_imul dX12_doesNow_78 ?_
              refine J_iconst (v := nI 2) dX12_doesNow_79 (by decide) ?_
              refine J_iadd dX12_doesNow_80 ?_
              refine Ml_9 (s := s) (s 9) rfl (5 * (doF n (s 9) (s 10) (s 17) q t i).toNatClampNeg + 2) (doF_ix5 kcz5 (by omega)) (by have := doF_lt kcz5 (by omega); omega) dX12_doesNow_81 ?_
              refine J_icmp_le 90 dX12_doesNow_82 (by decide) (fun kcz6 => ?_) (fun kcz6 => ?_)
              · refine J_iload_n dX12_doesNow_90 rfl rfl ?_
                exact K91_2 _ (by simp [kcz1, kcz4, kcz5, kcz6])
              · refine J_iload dX12_doesNow_85 rfl ?_
                refine J_goto 91 dX12_doesNow_87 (by decide) ?_
                exact K91_2 _ (by simp [kcz1, kcz4, kcz5, kcz6])
        refine J_if_eqB 48 dX12_doesNow_31 (by decide) (fun kcz7 => ?_) (fun kcz7 => ?_)
        · refine J_iconst (v := nI 0) dX12_doesNow_48 (by decide) ?_
          exact K49_1 _ (by show bI false = bI (((onceM n (s 9) (s 17) q t).testBit i) && !(canM n (s 9) (s 10) (s 17) q i)); simp [kcz1, kcz7])
        · refine J_aload_n dX12_doesNow_34 rfl rfl ?_
          refine J_iload_n dX12_doesNow_35 rfl rfl ?_
          refine J_iload dX12_doesNow_36 rfl ?_
          refine J_cVi (x := yX12_in) [.int (nI q), .int (nI i)] 0 mv_X12_180 (c_X12_cannot o a s n hn hn8 q i (by omega) (by omega)) mW_0 rfl rfl (by decide) (Nat.le_of_ble_eq_true rfl) ⟨Nat.le_refl _, Nat.le_refl _⟩ dX12_doesNow_38 ?_
          refine J_if_neB 48 dX12_doesNow_41 (by decide) (fun kcz8 => ?_) (fun kcz8 => ?_)
          · refine J_iconst (v := nI 0) dX12_doesNow_48 (by decide) ?_
            exact K49_1 _ (by show bI false = bI (((onceM n (s 9) (s 17) q t).testBit i) && !(canM n (s 9) (s 10) (s 17) q i)); simp [kcz1, kcz7, kcz8])
          · refine J_iconst (v := nI 1) dX12_doesNow_44 (by decide) ?_
            refine J_goto 49 dX12_doesNow_45 (by decide) ?_
            exact K49_1 _ (by show bI true = bI (((onceM n (s 9) (s 17) q t).testBit i) && !(canM n (s 9) (s 10) (s 17) q i)); simp [kcz1, kcz7, kcz8])
  exact L13 (n + 1) 0 (by omega) (by omega)  _ _ rfl rfl
theorem c_X12_doesNow {G : GT} (o : Nat) (a : Nat → Nat) (s : Nat → Nat → Int32) (n : Nat) (hn : s 8 0 = nI n) (hn8 : n ≤ 8) (q t : Nat) (hq6 : q < 6) : Ct G yX12_doesNow cX12_doesNow 7 (some .int) 0 0 3 [.ref o, .int (nI q), .int (nI t)] (mW G o a s) (Is (some (.int (doM n (s 9) (s 10) (s 17) q t))) (mW G o a s)) := Ct.of rfl (Nat.le_of_ble_eq_true rfl) (j_X12_doesNow o a s n hn hn8 q t hq6 (fun _ e => by subst e; exact Is.rf _ _))
