theorem lb_0 {x k : Nat} : lg_cmp (lN (x / 2 ^ k % 2)) 0 = 0 ↔ x.testBit k = false := by
  rw [lgc_eq, Nat.testBit_eq_decide_div_mod_eq]
  have h : lN (x / 2 ^ k % 2) = 0 ↔ x / 2 ^ k % 2 = 0 := pk_lEQ (b := 0) (by omega) (by decide)
  rw [h, decide_eq_false_iff_not]
  omega
theorem lb_1 {x k : Nat} : ¬ lg_cmp (lN (x / 2 ^ k % 2)) 0 = 0 ↔ x.testBit k = true := by
  rw [lb_0, Bool.not_eq_false]
theorem lsh1 {k : Nat} (h : k < 64) : (1 : Int64) <<< ((nI k).toInt64 &&& 63) = lN (2 ^ k) := by
  have := wb_shl 1 h
  rw [Nat.one_mul] at this; exact this
theorem opN_lt (lv : Nat → Nat → Bool) (nn q : Nat) (h : nn ≤ 6) : ∀ k, opN lv nn q k < 2 ^ 64
  | 0 => by
    rw [opN]
    exact Nat.lt_of_lt_of_le (bm_lt _ _) (Nat.pow_le_pow_right (by decide) (show 2 ^ nn ≤ 64 from Nat.pow_le_pow_right (by decide) h))
  | k + 1 => by
    rw [opN]
    exact Nat.or_lt_two_pow (opN_lt lv nn q h k) (Nat.lt_of_le_of_lt (Nat.shiftRight_le _ _) (opN_lt lv nn q h k))
theorem op_s0 {lv : Nat → Nat → Bool} {q : Nat} {l : Nat → Int64} (nn : Nat) : ∀ k, k ≤ 0 → vp_updL l (q * 7 + nn) (lN (opN lv nn q 0)) (q * 7 + (nn - k)) = lN (opN lv nn q k) := fun k hk => by
  obtain rfl : k = 0 := by omega
  exact pk_uLs
theorem op_st {lv : Nat → Nat → Bool} {q nn j : Nat} {l : Nat → Int64} (h : ∀ k, k ≤ j → l (q * 7 + (nn - k)) = lN (opN lv nn q k)) (hj : j < nn) : ∀ k, k ≤ j + 1 → vp_updL l (q * 7 + (nn - 1 - j)) (lN (opN lv nn q (j + 1))) (q * 7 + (nn - k)) = lN (opN lv nn q k) := fun k hk => by
  by_cases e : k = j + 1
  · rw [e, show nn - (j + 1) = nn - 1 - j by omega]; exact pk_uLs
  · rw [pk_uLn (by omega)]; exact h k (by omega)
theorem op_out {q x0 : Nat} {l l2 : Nat → Int64} {v : Int64} (h : ∀ x, (x < q * 7 ∨ q * 7 + 7 ≤ x) → l2 x = l x) (hx : q * 7 ≤ x0 ∧ x0 < q * 7 + 7) : ∀ x, (x < q * 7 ∨ q * 7 + 7 ≤ x) → vp_updL l2 x0 v x = l x := fun x hx2 => by
  rw [pk_uLn (by omega)]; exact h x hx2

set_option maxRecDepth 100000 in
set_option maxHeartbeats 1000000 in
theorem j_X6_keepOpen {G : GT} (r : Nat → Nat) (s : St) (l : Nat → Int64) (q t : Nat) (hq4 : q < 4) (ht7 : t < 7) (S : Int64) {Q : Option Value → va_W → Prop} (hq : Q none (cW G r s (vp_updL l (q * 7 + t) S))) : J G "keepOpen" RX6 cX6_keepOpen 6 none 0 0 1 Q 0 0 0 [(0, .ref (r 9)), (1, .int (nI q)), (2, .int (nI t)), (3, .long S)] [] (cW G r s l) := by
  refine J_iload_n dX6_keepOpen_0 rfl rfl ?_
  refine J_bipush (v := nI 7) dX6_keepOpen_1 (by decide) ?_
  refine J_imulN dX6_keepOpen_3 ?_
  refine J_iload_n dX6_keepOpen_4 rfl rfl ?_
  refine J_iaddN dX6_keepOpen_5 ?_
  refine J_istore [(0, .ref (r 9)), (1, .int (nI q)), (2, .int (nI t)), (3, .long S), (5, .int (nI (q * 7 + t)))] dX6_keepOpen_6 (by decide) rfl rfl rfl ?_
  refine J_iload dX6_keepOpen_8 rfl ?_
  refine J_aload_n dX6_keepOpen_10 rfl rfl ?_
  refine Cg_9_4 fr_X6_24_5 dX6_keepOpen_11 ?_
  refine Cn_49 dX6_keepOpen_14 ?_
  refine J_cNi [.int (nI (q * 7 + t)), .int (nI 28)] mn_X6_82 (c_X11_isBelowN (cW G r s l) (nI (q * 7 + t)) 28) rfl rfl (by decide) (Nat.le_of_ble_eq_true rfl) ⟨Nat.le_refl _, Nat.le_refl _⟩ dX6_keepOpen_15 ?_
  refine J_if_eqB 29 dX6_keepOpen_18 (by decide) (fun c => absurd c (by rw [(show rng (nI (q * 7 + t)) 28 = true from rng_of (by omega) (by decide))]; decide)) (fun _ => ?_)
  refine J_aload_n dX6_keepOpen_21 rfl rfl ?_
  refine Cg_9_4 fr_X6_24_5 dX6_keepOpen_22 ?_
  refine J_iload dX6_keepOpen_25 rfl ?_
  refine J_lload_n dX6_keepOpen_27 rfl rfl ?_
  refine Cs_49 (q * 7 + t) rfl (by omega) dX6_keepOpen_28 ?_
  exact J_vret dX6_keepOpen_29 rfl rfl rfl (hq)
theorem c_X6_keepOpen {G : GT} (r : Nat → Nat) (s : St) (l : Nat → Int64) (q t : Nat) (hq4 : q < 4) (ht7 : t < 7) (S : Int64) : Ct G yX6_keepOpen cX6_keepOpen 6 none 0 0 1 [.ref (r 9), .int (nI q), .int (nI t), .long S] (cW G r s l) (Is none (cW G r s (vp_updL l (q * 7 + t) S))) := Ct.of rfl (Nat.le_of_ble_eq_true rfl) (j_X6_keepOpen r s l q t hq4 ht7 S (Is.rf _ _))
set_option maxRecDepth 100000 in
set_option maxHeartbeats 1000000 in
theorem j_X6_mayAllLive {G : GT} (r : Nat → Nat) (s : St) (l : Nat → Int64) (t : Nat) (ht7 : t < 7) (hh : Nat) (hhh : s 64 0 = nI hh) (hh4 : hh ≤ 4) (OP sh : Nat → Nat) (hop : ∀ q, q < hh → l (q * 7 + t) = lN (OP q) ∧ OP q < 2 ^ 64) (hsh : ∀ q, q < hh → s 47 q = nI (sh q) ∧ sh q < 64) {Q : Option Value → va_W → Prop} (hq : ∀ v_ : Int32, v_ = bI (allB (fun q => (OP q).testBit (sh q)) hh) → Q (some (.int v_)) (cW G r s l)) : J G "mayAllLive" RX6 cX6_mayAllLive 4 (some .boolean) 0 0 1 Q 0 0 0 [(0, .ref (r 9)), (1, .int (nI t))] [] (cW G r s l) := by
  refine J_iconst (v := nI 0) dX6_mayAllLive_0 (by decide) ?_
  refine J_istore_n [(0, .ref (r 9)), (1, .int (nI t)), (2, .int (nI 0))] dX6_mayAllLive_1 rfl (by decide) rfl rfl rfl ?_
  have L2 : ∀ (f i : Nat), hh - i < f → i ≤ hh → allB (fun q => (OP q).testBit (sh q)) i = true → ∀ (x2 : Int32), x2 = nI i → J G "mayAllLive" RX6 cX6_mayAllLive 4 (some .boolean) 0 0 1 Q 0 0 2 [(0, .ref (r 9)), (1, .int (nI t)), (2, .int x2)] [] (cW G r s l) := by
    intro f
    induction f with
    | zero => intro i h; exact absurd h (Nat.not_lt_zero _)
    | succ f ih2 =>
      intro i hf2 hle2 hal x2 e2
      subst e2
      refine J_iload_n dX6_mayAllLive_2 rfl rfl ?_
      refine J_aload_n dX6_mayAllLive_3 rfl rfl ?_
      refine Cg_9_6 (s := s) fr_X6_32_5 (s 64 0) rfl dX6_mayAllLive_4 ?_
      refine J_rw (y := nI hh) hhh ?_
      refine J_icmp_geN 62 (by omega) (by omega) dX6_mayAllLive_7 (by decide) (fun kcz1 => ?_) (fun kcz1 => ?_)
      · refine J_iconst (v := nI 1) dX6_mayAllLive_62 (by decide) ?_
        exact J_zretB (b := true) dX6_mayAllLive_63 rfl rfl rfl (by obtain rfl : i = hh := (by omega); exact hq _ (congrArg bI hal.symm))
      · refine J_iload_n dX6_mayAllLive_10 rfl rfl ?_
        refine J_iconst (v := nI 4) dX6_mayAllLive_11 (by decide) ?_
        refine J_icmp_geN 62 (by omega) (by omega) dX6_mayAllLive_12 (by decide) (fun kcz2 => ?_) (fun kcz2 => ?_)
        · refine J_iconst (v := nI 1) dX6_mayAllLive_62 (by decide) ?_
          exact J_zretB (b := true) dX6_mayAllLive_63 rfl rfl rfl (by obtain rfl : i = hh := (by omega); exact hq _ (congrArg bI hal.symm))
        · refine J_iload_n dX6_mayAllLive_15 rfl rfl ?_
          refine J_bipush (v := nI 7) dX6_mayAllLive_16 (by decide) ?_
          refine J_imulN dX6_mayAllLive_18 ?_
          refine J_iload_n dX6_mayAllLive_19 rfl rfl ?_
          refine J_iaddN dX6_mayAllLive_20 ?_
          refine J_istore_n [(0, .ref (r 9)), (1, .int (nI t)), (2, .int (nI i)), (3, .int (nI (i * 7 + t)))] dX6_mayAllLive_21 rfl (by decide) rfl rfl rfl ?_
          refine J_iload_n dX6_mayAllLive_22 rfl rfl ?_
          refine J_aload_n dX6_mayAllLive_23 rfl rfl ?_
          refine Cg_9_4 fr_X6_24_5 dX6_mayAllLive_24 ?_
          refine Cn_49 dX6_mayAllLive_27 ?_
          refine J_cNi [.int (nI (i * 7 + t)), .int (nI 28)] mn_X6_82 (c_X11_isBelowN (cW G r s l) (nI (i * 7 + t)) 28) rfl rfl (by decide) (Nat.le_of_ble_eq_true rfl) ⟨Nat.le_refl _, Nat.le_refl _⟩ dX6_mayAllLive_28 ?_
          refine J_if_eqB 54 dX6_mayAllLive_31 (by decide) (fun c => absurd c (by rw [(show rng (nI (i * 7 + t)) 28 = true from rng_of (by omega) (by decide))]; decide)) (fun _ => ?_)
          refine J_aload_n dX6_mayAllLive_34 rfl rfl ?_
          refine Cg_9_4 fr_X6_24_5 dX6_mayAllLive_35 ?_
          refine J_iload_n dX6_mayAllLive_38 rfl rfl ?_
          refine Cl_49 (i * 7 + t) rfl (by omega) dX6_mayAllLive_39 ?_
          refine J_rwl (y := (lN (OP i))) (hop i (by omega)).1 ?_
          refine J_aload_n dX6_mayAllLive_40 rfl rfl ?_
          refine Cg_9_2 fr_X6_18_5 dX6_mayAllLive_41 ?_
          refine J_iload_n dX6_mayAllLive_44 rfl rfl ?_
          refine Cl_47 (s := s) (s 47) rfl i rfl (by omega) dX6_mayAllLive_45 ?_
          refine J_rw (y := nI (sh i)) (hsh i (by omega)).1 ?_
          refine J_lushr dX6_mayAllLive_46 ?_
          refine J_lconst (v := 1) dX6_mayAllLive_47 (by decide) ?_
          refine J_land dX6_mayAllLive_48 ?_
          refine J_rwl (y := (lN (OP i / 2 ^ sh i % 2))) (wb_bit (hop i (by omega)).2 (hsh i (by omega)).2) ?_
          refine J_lconst (v := 0) dX6_mayAllLive_49 (by decide) ?_
          refine J_lcmp dX6_mayAllLive_50 ?_
          refine J_if_ne 56 dX6_mayAllLive_51 (by decide) (fun kcz3 => ?_) (fun kcz3 => ?_)
          · have kb9 := lb_1.mp kcz3
            refine J_iincN [(0, .ref (r 9)), (1, .int (nI t)), (2, .int (nI (i + 1))), (3, .int (nI (i * 7 + t)))] dX6_mayAllLive_56 rfl (by decide) rfl rfl rfl ?_
            refine J_goto 2 dX6_mayAllLive_59 (by decide) ?_
            refine J_lv [0, 1, 2] rfl ?_
            exact ih2 (i + 1) (by omega) (by omega) (all_s hal kb9) _ rfl
          · have kb9 := lb_0.mp kcz3
            refine J_iconst (v := nI 0) dX6_mayAllLive_54 (by decide) ?_
            exact J_zretB (b := false) dX6_mayAllLive_55 rfl rfl rfl (hq _ (congrArg bI (all_no (k := i) (by omega) kb9).symm))
  exact L2 (hh + 1) 0 (by omega) (by omega) rfl _ rfl
theorem c_X6_mayAllLive {G : GT} (r : Nat → Nat) (s : St) (l : Nat → Int64) (t : Nat) (ht7 : t < 7) (hh : Nat) (hhh : s 64 0 = nI hh) (hh4 : hh ≤ 4) (OP sh : Nat → Nat) (hop : ∀ q, q < hh → l (q * 7 + t) = lN (OP q) ∧ OP q < 2 ^ 64) (hsh : ∀ q, q < hh → s 47 q = nI (sh q) ∧ sh q < 64) : Ct G yX6_mayAllLive cX6_mayAllLive 4 (some .boolean) 0 0 1 [.ref (r 9), .int (nI t)] (cW G r s l) (Is (some (.int (bI (allB (fun q => (OP q).testBit (sh q)) hh)))) (cW G r s l)) := Ct.of rfl (Nat.le_of_ble_eq_true rfl) (j_X6_mayAllLive r s l t ht7 hh hhh hh4 OP sh hop hsh (fun _ e => by subst e; exact Is.rf _ _))
set_option maxRecDepth 100000 in
set_option maxHeartbeats 1000000 in
theorem j_X6_openSetsOf {G : GT} (r : Nat → Nat) (s : St) (l : Nat → Int64) (n : Nat) (hn : s 52 0 = nI n) (hn8 : n ≤ 8) (Hb : Nat → Int32) (hb : Nat → Nat) (hR : CHr n Hb hb s) (hk : HbOk n Hb hb) (m : Nat) (hm : s 55 0 = nI m) (hm6 : m ≤ 6) (He : Nat → Int32) (aw : Nat → Nat) (hE : CEr m He aw s) (ha : AwOk m He aw) (nn : Nat) (hnn : s 63 0 = nI nn) (hnn6 : nn ≤ 6) (hnnn : nn ≤ n) (q : Nat) (hqm : q < m) (hq4 : q < 4) {Q : Option Value → va_W → Prop} (hq : ∀ (l2 : Nat → Int64), (∀ k, k ≤ nn → l2 (q * 7 + (nn - k)) = lN (opN (lvB n Hb hb He aw) nn q k)) → (∀ x, (x < q * 7 ∨ q * 7 + 7 ≤ x) → l2 x = l x) → Q none (cW G r s l2)) : J G "openSetsOf" RX6 cX6_openSetsOf 6 none 0 0 3 Q 0 0 0 [(0, .ref (r 9)), (1, .ref (r 2)), (2, .int (nI q))] [] (cW G r s l) := by
  have h2p : 0 < 2 ^ nn := Nat.two_pow_pos nn
  have h2n : 2 ^ nn ≤ 64 := Nat.pow_le_pow_right (by decide) hnn6
  have hol : ∀ k, opN (lvB n Hb hb He aw) nn q k < 2 ^ 64 := opN_lt _ _ _ hnn6
  refine J_lconst (v := 0) dX6_openSetsOf_0 (by decide) ?_
  refine J_lstore_n [(0, .ref (r 9)), (1, .ref (r 2)), (2, .int (nI q)), (3, .long 0)] dX6_openSetsOf_1 rfl (by decide) rfl rfl rfl ?_
  refine J_iconst (v := nI 0) dX6_openSetsOf_2 (by decide) ?_
  refine J_istore [(0, .ref (r 9)), (1, .ref (r 2)), (2, .int (nI q)), (3, .long 0), (5, .int (nI 0))] dX6_openSetsOf_3 (by decide) rfl rfl rfl ?_
  have L5 : ∀ (f i : Nat), (2 ^ nn) - i < f → i ≤ (2 ^ nn) → ∀ (x3 : Int64) (x5 : Int32), x3 = lN (bm (lvB n Hb hb He aw q) i) → x5 = nI i → J G "openSetsOf" RX6 cX6_openSetsOf 6 none 0 0 3 Q 0 0 5 [(0, .ref (r 9)), (1, .ref (r 2)), (2, .int (nI q)), (3, .long x3), (5, .int x5)] [] (cW G r s l) := by
    intro f
    induction f with
    | zero => intro i h; exact absurd h (Nat.not_lt_zero _)
    | succ f ih5 =>
      intro i hf5 hle5  x3 x5 e3 e5
      subst e3
      subst e5
      refine J_iload dX6_openSetsOf_5 rfl ?_
      refine J_iconst (v := nI 1) dX6_openSetsOf_7 (by decide) ?_
      refine J_aload_n dX6_openSetsOf_8 rfl rfl ?_
      refine Cg_9_5 (s := s) fr_X6_28_5 (s 63 0) rfl dX6_openSetsOf_9 ?_
      refine J_rw (y := nI nn) hnn ?_
      refine J_shl1N dX6_openSetsOf_12 (by omega) ?_
      refine J_icmp_geN 39 (by omega) (by omega) dX6_openSetsOf_13 (by decide) (fun kcz1 => ?_) (fun kcz1 => ?_)
      · obtain rfl : 2 ^ nn = i := (by omega)
        show J G "openSetsOf" RX6 cX6_openSetsOf 6 none 0 0 3 Q 0 0 39 [(0, .ref (r 9)), (1, .ref (r 2)), (2, .int (nI q)), (3, .long (lN (opN (lvB n Hb hb He aw) nn q 0))), (5, .int (nI (2 ^ nn)))] [] (cW G r s l)
        refine J_aload_n dX6_openSetsOf_39 rfl rfl ?_
        refine J_iload_n dX6_openSetsOf_40 rfl rfl ?_
        refine J_aload_n dX6_openSetsOf_41 rfl rfl ?_
        refine Cg_9_5 (s := s) fr_X6_28_5 (s 63 0) rfl dX6_openSetsOf_42 ?_
        refine J_rw (y := nI nn) hnn ?_
        refine J_lload_n dX6_openSetsOf_45 rfl rfl ?_
        refine J_cVv (x := yX12_in) [.int (nI q), .int (nI nn), .long (lN (opN (lvB n Hb hb He aw) nn q 0))] 9 mv_X6_89 (c_X6_keepOpen r s l q nn (by omega) (by omega) (lN (opN (lvB n Hb hb He aw) nn q 0))) cW_9 rfl rfl (by decide) (Nat.le_of_ble_eq_true rfl) ⟨Nat.le_refl _, Nat.le_refl _⟩ dX6_openSetsOf_46 ?_
        refine J_ws (ws2 := (cW G r s (vp_updL l (q * 7 + nn) (lN (opN (lvB n Hb hb He aw) nn q 0))))) rfl ?_
        refine J_aload_n dX6_openSetsOf_49 rfl rfl ?_
        refine Cg_9_5 (s := s) fr_X6_28_5 (s 63 0) rfl dX6_openSetsOf_50 ?_
        refine J_rw (y := nI nn) hnn ?_
        refine J_iconst (v := nI 1) dX6_openSetsOf_53 (by decide) ?_
        refine J_isub dX6_openSetsOf_54 ?_
        refine J_istore [(0, .ref (r 9)), (1, .ref (r 2)), (2, .int (nI q)), (3, .long (lN (opN (lvB n Hb hb He aw) nn q 0))), (5, .int ((nI nn) - (nI 1)))] dX6_openSetsOf_55 (by decide) rfl rfl rfl ?_
        have L57 : ∀ (f j : Nat) (l2 : Nat → Int64), nn - j < f → j ≤ nn → (∀ k, k ≤ j → l2 (q * 7 + (nn - k)) = lN (opN (lvB n Hb hb He aw) nn q k)) → (∀ x, (x < q * 7 ∨ q * 7 + 7 ≤ x) → l2 x = l x) → ∀ (x3 : Int64) (x5 : Int32), x3 = lN (opN (lvB n Hb hb He aw) nn q j) → x5 = nI (nn - j) - nI 1 → J G "openSetsOf" RX6 cX6_openSetsOf 6 none 0 0 3 Q 0 0 57 [(0, .ref (r 9)), (1, .ref (r 2)), (2, .int (nI q)), (3, .long x3), (5, .int x5)] [] (cW G r s l2) := by
          intro f
          induction f with
          | zero => intro j l2 h; exact absurd h (Nat.not_lt_zero _)
          | succ f ih57 =>
            intro j l2 hf57 hle57 hl1 hl2 x3 x5 e3 e5
            subst e3
            subst e5
            by_cases ksz2 : nn - j = 0
            · refine J_iload dX6_openSetsOf_57 rfl ?_
              have hz9 : nI (nn - j) - nI 1 < 0 := by rw [ksz2]; decide
              refine J_if_lt 85 dX6_openSetsOf_59 (by decide) (fun _ => ?_) (fun c => absurd hz9 c)
              exact J_vret dX6_openSetsOf_85 rfl rfl rfl (by obtain rfl : nn = j := (by omega); exact hq _ hl1 hl2)
            · refine J_iload dX6_openSetsOf_57 rfl ?_
              have hs9 : nI (nn - j) - nI 1 = nI (nn - 1 - j) := by rw [pk_sub (by omega)]; congr 1; omega
              rw [hs9]
              have hn9 : ¬ nI (nn - 1 - j) < 0 := cI_nlt (by omega)
              have hw9 : 2 ^ (nn - 1 - j) < 64 := Nat.lt_of_le_of_lt (Nat.pow_le_pow_right (by decide) (show nn - 1 - j ≤ 5 by omega)) (by decide)
              refine J_if_lt 85 dX6_openSetsOf_59 (by decide) (fun c => absurd c hn9) (fun _ => ?_)
              refine J_lload_n dX6_openSetsOf_62 rfl rfl ?_
              refine J_lload_n dX6_openSetsOf_63 rfl rfl ?_
              refine J_iconst (v := nI 1) dX6_openSetsOf_64 (by decide) ?_
              refine J_iload dX6_openSetsOf_65 rfl ?_
              refine J_shl1N dX6_openSetsOf_67 (by omega) ?_
              refine J_lushr dX6_openSetsOf_68 ?_
              refine J_rwl (y := (lN (opN (lvB n Hb hb He aw) nn q j >>> 2 ^ (nn - 1 - j)))) ((wb_shr (hol j) hw9).trans (congrArg lN (Nat.shiftRight_eq_div_pow _ _).symm)) ?_
              refine J_lor dX6_openSetsOf_69 ?_
              refine J_rwl (y := (lN (opN (lvB n Hb hb He aw) nn q (j + 1)))) (wb_or (hol j) (Nat.lt_of_le_of_lt (Nat.shiftRight_le _ _) (hol j))) ?_
              refine J_lstore_n [(0, .ref (r 9)), (1, .ref (r 2)), (2, .int (nI q)), (3, .long (lN (opN (lvB n Hb hb He aw) nn q (j + 1)))), (5, .int (nI (nn - 1 - j)))] dX6_openSetsOf_70 rfl (by decide) rfl rfl rfl ?_
              refine J_aload_n dX6_openSetsOf_71 rfl rfl ?_
              refine J_iload_n dX6_openSetsOf_72 rfl rfl ?_
              refine J_iload dX6_openSetsOf_73 rfl ?_
              refine J_lload_n dX6_openSetsOf_75 rfl rfl ?_
              refine J_cVv (x := yX12_in) [.int (nI q), .int (nI (nn - 1 - j)), .long (lN (opN (lvB n Hb hb He aw) nn q (j + 1)))] 9 mv_X6_89 (c_X6_keepOpen r s l2 q (nn - 1 - j) (by omega) (by omega) (lN (opN (lvB n Hb hb He aw) nn q (j + 1)))) cW_9 rfl rfl (by decide) (Nat.le_of_ble_eq_true rfl) ⟨Nat.le_refl _, Nat.le_refl _⟩ dX6_openSetsOf_76 ?_
              refine J_ws (ws2 := (cW G r s (vp_updL l2 (q * 7 + (nn - 1 - j)) (lN (opN (lvB n Hb hb He aw) nn q (j + 1)))))) rfl ?_
              refine J_iinc [(0, .ref (r 9)), (1, .ref (r 2)), (2, .int (nI q)), (3, .long (lN (opN (lvB n Hb hb He aw) nn q (j + 1)))), (5, .int ((nI (nn - 1 - j)) + (-1)))] dX6_openSetsOf_79 rfl rfl (by decide) rfl rfl rfl ?_
              refine J_goto 57 dX6_openSetsOf_82 (by decide) ?_
              exact ih57 (j + 1) (vp_updL l2 (q * 7 + (nn - 1 - j)) (lN (opN (lvB n Hb hb He aw) nn q (j + 1)))) (by omega) (by omega) (op_st hl1 (by omega)) (op_out hl2 (by omega)) _ _ rfl (ly_dec (by omega))
        exact L57 (nn + 1) 0 (vp_updL l (q * 7 + nn) (lN (opN (lvB n Hb hb He aw) nn q 0))) (by omega) (by omega) (op_s0 nn) (op_out (fun x _ => rfl) (by omega)) _ _ rfl rfl
      · refine J_aload_n dX6_openSetsOf_16 rfl rfl ?_
        refine J_iload_n dX6_openSetsOf_17 rfl rfl ?_
        refine J_iload dX6_openSetsOf_18 rfl ?_
        refine J_cVi (x := yX12_in) [.int (nI q), .int (nI i)] 2 mv_X6_86 (c_X4_canLive r s l n hn hn8 Hb hb hR hk m hm hm6 He aw hE ha q i (by omega) (by omega)) cW_2 rfl rfl (by decide) (Nat.le_of_ble_eq_true rfl) ⟨Nat.le_refl _, Nat.le_refl _⟩ dX6_openSetsOf_20 ?_
        refine J_if_eqB 33 dX6_openSetsOf_23 (by decide) (fun kcz3 => ?_) (fun kcz3 => ?_)
        · refine J_iincN [(0, .ref (r 9)), (1, .ref (r 2)), (2, .int (nI q)), (3, .long (lN (bm (lvB n Hb hb He aw q) i))), (5, .int (nI (i + 1)))] dX6_openSetsOf_33 rfl (by decide) rfl rfl rfl ?_
          refine J_goto 5 dX6_openSetsOf_36 (by decide) ?_
          exact ih5 (i + 1) (by omega) (by omega)  _ _ (by simp [bm, kcz1, kcz3]) rfl
        · refine J_lload_n dX6_openSetsOf_26 rfl rfl ?_
          refine J_lconst (v := 1) dX6_openSetsOf_27 (by decide) ?_
          refine J_iload dX6_openSetsOf_28 rfl ?_
          refine J_lshl dX6_openSetsOf_30 ?_
          refine J_rwl (y := (lN (2 ^ i))) (lsh1 (by omega)) ?_
          refine J_lor dX6_openSetsOf_31 ?_
          refine J_rwl (y := (lN (bm (lvB n Hb hb He aw q) i ||| 2 ^ i))) (wb_or (Nat.lt_of_lt_of_le (bm_lt _ _) (Nat.pow_le_pow_right (by decide) (by omega))) (Nat.pow_lt_pow_right (by decide) (by omega))) ?_
          refine J_lstore_n [(0, .ref (r 9)), (1, .ref (r 2)), (2, .int (nI q)), (3, .long (lN (bm (lvB n Hb hb He aw q) i ||| 2 ^ i))), (5, .int (nI i))] dX6_openSetsOf_32 rfl (by decide) rfl rfl rfl ?_
          refine J_iincN [(0, .ref (r 9)), (1, .ref (r 2)), (2, .int (nI q)), (3, .long (lN (bm (lvB n Hb hb He aw q) i ||| 2 ^ i))), (5, .int (nI (i + 1)))] dX6_openSetsOf_33 rfl (by decide) rfl rfl rfl ?_
          refine J_goto 5 dX6_openSetsOf_36 (by decide) ?_
          exact ih5 (i + 1) (by omega) (by omega)  _ _ (by simp [bm, kcz1, kcz3]) rfl
  exact L5 ((2 ^ nn) + 1) 0 (by omega) (by omega)  _ _ rfl rfl
theorem c_X6_openSetsOf {G : GT} (r : Nat → Nat) (s : St) (l : Nat → Int64) (n : Nat) (hn : s 52 0 = nI n) (hn8 : n ≤ 8) (Hb : Nat → Int32) (hb : Nat → Nat) (hR : CHr n Hb hb s) (hk : HbOk n Hb hb) (m : Nat) (hm : s 55 0 = nI m) (hm6 : m ≤ 6) (He : Nat → Int32) (aw : Nat → Nat) (hE : CEr m He aw s) (ha : AwOk m He aw) (nn : Nat) (hnn : s 63 0 = nI nn) (hnn6 : nn ≤ 6) (hnnn : nn ≤ n) (q : Nat) (hqm : q < m) (hq4 : q < 4) : Ct G yX6_openSetsOf cX6_openSetsOf 6 none 0 0 3 [.ref (r 9), .ref (r 2), .int (nI q)] (cW G r s l) (fun v w => ∃ l2 : Nat → Int64, v = none ∧ w = cW G r s l2 ∧ (∀ k, k ≤ nn → l2 (q * 7 + (nn - k)) = lN (opN (lvB n Hb hb He aw) nn q k)) ∧ (∀ x, (x < q * 7 ∨ q * 7 + 7 ≤ x) → l2 x = l x)) := Ct.of rfl (Nat.le_of_ble_eq_true rfl) (j_X6_openSetsOf r s l n hn hn8 Hb hb hR hk m hm hm6 He aw hE ha nn hnn hnn6 hnnn q hqm hq4 (fun l2 h1 h2 => ⟨l2, rfl, rfl, h1, h2⟩))
