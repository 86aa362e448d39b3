def CHr (n : Nat) (Hb : Nat → Int32) (hb : Nat → Nat) (s : St) : Prop := ∀ j, j < n → s 23 j = Hb (5 * j + 2) ∧ s 24 j = Hb (5 * j + 3) ∧ s 25 j = Hb (5 * j + 4) ∧ s 26 j = nI (hb j)
def CEr (m : Nat) (He : Nat → Int32) (aw : Nat → Nat) (s : St) : Prop := ∀ q, q < m → s 28 q = He (3 * q) ∧ s 31 q = nI (aw q)
def CRr (rf : Nat) (Rf : Nat → Int32) (s : St) : Prop := ∀ k, k < rf → s 37 k = Rf (2 * k) ∧ s 38 k = Rf (2 * k + 1) ∧ (∃ e, e < 6 ∧ Rf (2 * k) = nI e) ∧ ∃ h, h < 8 ∧ Rf (2 * k + 1) = nI h
def rbB (Rf : Nat → Int32) (q : Nat) : Nat → Nat
  | 0 => 0
  | k + 1 => if Rf (2 * k) = nI q then rbB Rf q k ||| 2 ^ (Rf (2 * k + 1)).toNatClampNeg else rbB Rf q k
theorem cI_nlt {n : Nat} (h : n < 2 ^ 31) : ¬ nI n < 0 := by
  rw [fa_lt, nI_toInt h]
  have e : (0 : Int32).toInt = 0 := rfl
  omega
theorem cI_pos {n : Nat} (h0 : 0 < n) (h : n < 2 ^ 31) : 0 < nI n := by
  rw [fa_lt, nI_toInt h]
  have e : (0 : Int32).toInt = 0 := rfl
  omega
theorem tb_lean {bits : Nat} (hb : bits < 2 ^ 31) {v : Int32} (h : v = -1 ∨ ∃ k, k < 8 ∧ v = nI k) (hne : ¬ v = -1) : tb (nI bits) v = bits.testBit v.toNatClampNeg := by
  rcases h with h | ⟨k, hk, e⟩
  · exact absurd h hne
  · rw [e, nI_clamp (by omega), tb_nI hb (by omega)]

set_option maxRecDepth 100000 in
set_option maxHeartbeats 1000000 in
theorem j_X4_awayBitsOf {G : GT} (r : Nat → Nat) (s : St) (l : Nat → Int64) (m : Nat) (hm : s 55 0 = nI m) (hm6 : m ≤ 6) (He : Nat → Int32) (aw : Nat → Nat) (hE : CEr m He aw s) (ha : AwOk m He aw) (q : Nat) (hqm : q < m) {Q : Option Value → va_W → Prop} (hq : ∀ v_ : Int32, v_ = nI (aw q) → Q (some (.int v_)) (cW G r s l)) : J G "awayBitsOf" RX4 cX4_awayBitsOf 2 (some .int) 0 0 0 Q 0 0 0 [(0, .ref (r 2)), (1, .int (nI q))] [] (cW G r s l) := by
  refine J_iload_n dX4_awayBitsOf_0 rfl rfl ?_
  refine J_if_lt 33 dX4_awayBitsOf_1 (by decide) (fun c => absurd c (cI_nlt (by omega))) (fun _ => ?_)
  refine J_iload_n dX4_awayBitsOf_4 rfl rfl ?_
  refine J_aload_n dX4_awayBitsOf_5 rfl rfl ?_
  refine Cg_2_1 fr_X4_21_4 dX4_awayBitsOf_6 ?_
  refine Cg_4_4 (s := s) fr_X4_25_3 (s 55 0) rfl dX4_awayBitsOf_9 ?_
  refine J_rw (y := nI m) hm ?_
  refine J_icmp_geN 33 (by omega) (by omega) dX4_awayBitsOf_12 (by decide) (fun c => absurd c (by omega)) (fun _ => ?_)
  refine J_iload_n dX4_awayBitsOf_15 rfl rfl ?_
  refine J_bipush (v := nI 6) dX4_awayBitsOf_16 (by decide) ?_
  refine J_icmp_geN 33 (by omega) (by omega) dX4_awayBitsOf_18 (by decide) (fun c => absurd c (by omega)) (fun _ => ?_)
  refine J_aload_n dX4_awayBitsOf_21 rfl rfl ?_
  refine Cg_2_1 fr_X4_21_4 dX4_awayBitsOf_22 ?_
  refine Cg_4_9 fr_X4_29_3 dX4_awayBitsOf_25 ?_
  refine J_iload_n dX4_awayBitsOf_28 rfl rfl ?_
  refine Cl_31 (s := s) (s 31) rfl q rfl (by omega) dX4_awayBitsOf_29 ?_
  refine J_rw (y := nI (aw q)) (hE q hqm).2 ?_
  refine J_goto 34 dX4_awayBitsOf_30 (by decide) ?_
  exact J_iret dX4_awayBitsOf_34 rfl rfl rfl (hq _ rfl)
theorem c_X4_awayBitsOf {G : GT} (r : Nat → Nat) (s : St) (l : Nat → Int64) (m : Nat) (hm : s 55 0 = nI m) (hm6 : m ≤ 6) (He : Nat → Int32) (aw : Nat → Nat) (hE : CEr m He aw s) (ha : AwOk m He aw) (q : Nat) (hqm : q < m) : Ct G yX4_awayBitsOf cX4_awayBitsOf 2 (some .int) 0 0 0 [.ref (r 2), .int (nI q)] (cW G r s l) (Is (some (.int (nI (aw q)))) (cW G r s l)) := Ct.of rfl (Nat.le_of_ble_eq_true rfl) (j_X4_awayBitsOf r s l m hm hm6 He aw hE ha q hqm (fun _ e => by subst e; exact Is.rf _ _))
set_option maxRecDepth 100000 in
set_option maxHeartbeats 1000000 in
theorem j_X4_roomOf {G : GT} (r : Nat → Nat) (s : St) (l : Nat → Int64) (m : Nat) (hm : s 55 0 = nI m) (hm6 : m ≤ 6) (He : Nat → Int32) (aw : Nat → Nat) (hE : CEr m He aw s) (ha : AwOk m He aw) (q : Nat) (hqm : q < m) {Q : Option Value → va_W → Prop} (hq : ∀ v_ : Int32, v_ = He (3 * q) → Q (some (.int v_)) (cW G r s l)) : J G "roomOf" RX4 cX4_roomOf 2 (some .int) 0 0 0 Q 0 0 0 [(0, .ref (r 2)), (1, .int (nI q))] [] (cW G r s l) := by
  refine J_iload_n dX4_roomOf_0 rfl rfl ?_
  refine J_if_lt 33 dX4_roomOf_1 (by decide) (fun c => absurd c (cI_nlt (by omega))) (fun _ => ?_)
  refine J_iload_n dX4_roomOf_4 rfl rfl ?_
  refine J_aload_n dX4_roomOf_5 rfl rfl ?_
  refine Cg_2_1 fr_X4_21_4 dX4_roomOf_6 ?_
  refine Cg_4_4 (s := s) fr_X4_25_3 (s 55 0) rfl dX4_roomOf_9 ?_
  refine J_rw (y := nI m) hm ?_
  refine J_icmp_geN 33 (by omega) (by omega) dX4_roomOf_12 (by decide) (fun c => absurd c (by omega)) (fun _ => ?_)
  refine J_iload_n dX4_roomOf_15 rfl rfl ?_
  refine J_bipush (v := nI 6) dX4_roomOf_16 (by decide) ?_
  refine J_icmp_geN 33 (by omega) (by omega) dX4_roomOf_18 (by decide) (fun c => absurd c (by omega)) (fun _ => ?_)
  refine J_aload_n dX4_roomOf_21 rfl rfl ?_
  refine Cg_2_1 fr_X4_21_4 dX4_roomOf_22 ?_
  refine Cg_4_6 fr_X4_33_3 dX4_roomOf_25 ?_
  refine J_iload_n dX4_roomOf_28 rfl rfl ?_
  refine Cl_28 (s := s) (s 28) rfl q rfl (by omega) dX4_roomOf_29 ?_
  refine J_rw (y := He (3 * q)) (hE q hqm).1 ?_
  refine J_goto 34 dX4_roomOf_30 (by decide) ?_
  exact J_iret dX4_roomOf_34 rfl rfl rfl (hq _ rfl)
theorem c_X4_roomOf {G : GT} (r : Nat → Nat) (s : St) (l : Nat → Int64) (m : Nat) (hm : s 55 0 = nI m) (hm6 : m ≤ 6) (He : Nat → Int32) (aw : Nat → Nat) (hE : CEr m He aw s) (ha : AwOk m He aw) (q : Nat) (hqm : q < m) : Ct G yX4_roomOf cX4_roomOf 2 (some .int) 0 0 0 [.ref (r 2), .int (nI q)] (cW G r s l) (Is (some (.int (He (3 * q)))) (cW G r s l)) := Ct.of rfl (Nat.le_of_ble_eq_true rfl) (j_X4_roomOf r s l m hm hm6 He aw hE ha q hqm (fun _ e => by subst e; exact Is.rf _ _))
set_option maxRecDepth 100000 in
set_option maxHeartbeats 1000000 in
theorem j_X4_cannotBits {G : GT} (r : Nat → Nat) (s : St) (l : Nat → Int64) (n : Nat) (hn : s 52 0 = nI n) (hn8 : n ≤ 8) (Hb : Nat → Int32) (hb : Nat → Nat) (hR : CHr n Hb hb s) (hk : HbOk n Hb hb) (m : Nat) (hm : s 55 0 = nI m) (hm6 : m ≤ 6) (He : Nat → Int32) (aw : Nat → Nat) (hE : CEr m He aw s) (ha : AwOk m He aw) (q bits : Nat) (hqm : q < m) (hbits : bits < 256) {Q : Option Value → va_W → Prop} (hq : ∀ v_ : Int32, v_ = nI (cnB n Hb hb (aw q) bits) → Q (some (.int v_)) (cW G r s l)) : J G "cannotBits" RX4 cX4_cannotBits 9 (some .int) 0 0 1 Q 0 0 0 [(0, .ref (r 2)), (1, .int (nI q)), (2, .int (nI bits))] [] (cW G r s l) := by
  refine J_aload_n dX4_cannotBits_0 rfl rfl ?_
  refine J_iload_n dX4_cannotBits_1 rfl rfl ?_
  refine J_cVi (x := yX12_in) [.int (nI q)] 2 mv_X4_36 (c_X4_awayBitsOf r s l m hm hm6 He aw hE ha q (by omega)) cW_2 rfl rfl (by decide) (Nat.le_of_ble_eq_true rfl) ⟨Nat.le_refl _, Nat.le_refl _⟩ dX4_cannotBits_2 ?_
  refine J_istore_n [(0, .ref (r 2)), (1, .int (nI q)), (2, .int (nI bits)), (3, .int (nI (aw q)))] dX4_cannotBits_5 rfl (by decide) rfl rfl rfl ?_
  refine J_iconst (v := nI 0) dX4_cannotBits_6 (by decide) ?_
  refine J_istore [(0, .ref (r 2)), (1, .int (nI q)), (2, .int (nI bits)), (3, .int (nI (aw q))), (4, .int (nI 0))] dX4_cannotBits_7 (by decide) rfl rfl rfl ?_
  refine J_iconst (v := nI 0) dX4_cannotBits_9 (by decide) ?_
  refine J_istore [(0, .ref (r 2)), (1, .int (nI q)), (2, .int (nI bits)), (3, .int (nI (aw q))), (4, .int (nI 0)), (5, .int (nI 0))] dX4_cannotBits_10 (by decide) rfl rfl rfl ?_
  have L12 : ∀ (f i : Nat), n - i < f → i ≤ n → ∀ (x4 : Int32) (x5 : Int32), x4 = nI (bm (fun h => bits.testBit h && (lnB Hb bits h || !decide (hb h &&& aw q = 0))) i) → x5 = nI i → J G "cannotBits" RX4 cX4_cannotBits 9 (some .int) 0 0 1 Q 0 0 12 [(0, .ref (r 2)), (1, .int (nI q)), (2, .int (nI bits)), (3, .int (nI (aw q))), (4, .int x4), (5, .int x5)] [] (cW G r s l) := by
    intro f
    induction f with
    | zero => intro i h; exact absurd h (Nat.not_lt_zero _)
    | succ f ih12 =>
      intro i hf12 hle12  x4 x5 e4 e5
      subst e4
      subst e5
      refine J_iload dX4_cannotBits_12 rfl ?_
      refine J_aload_n dX4_cannotBits_14 rfl rfl ?_
      refine Cg_2_0 fr_X4_12_4 dX4_cannotBits_15 ?_
      refine Cg_3_4 (s := s) fr_X4_40_2 (s 52 0) rfl dX4_cannotBits_18 ?_
      refine J_rw (y := nI n) hn ?_
      refine J_icmp_geN 121 (by omega) (by omega) dX4_cannotBits_21 (by decide) (fun kcz1 => ?_) (fun kcz1 => ?_)
      · refine J_iload dX4_cannotBits_121 rfl ?_
        exact J_iret dX4_cannotBits_123 rfl rfl rfl (hq _ (by obtain rfl : i = n := (by omega); rfl))
      · refine J_iload dX4_cannotBits_24 rfl ?_
        refine J_bipush (v := nI 8) dX4_cannotBits_26 (by decide) ?_
        refine J_icmp_geN 121 (by omega) (by omega) dX4_cannotBits_28 (by decide) (fun kcz2 => ?_) (fun kcz2 => ?_)
        · refine J_iload dX4_cannotBits_121 rfl ?_
          exact J_iret dX4_cannotBits_123 rfl rfl rfl (hq _ (by obtain rfl : i = n := (by omega); rfl))
        · refine J_aload_n dX4_cannotBits_31 rfl rfl ?_
          refine Cg_2_0 fr_X4_12_4 dX4_cannotBits_32 ?_
          refine Cg_3_9 fr_X4_41_2 dX4_cannotBits_35 ?_
          refine J_iload dX4_cannotBits_38 rfl ?_
          refine Cl_24 (s := s) (s 24) rfl i rfl (by omega) dX4_cannotBits_40 ?_
          refine J_rw (y := Hb (5 * i + 3)) (hR i (by omega)).2.1 ?_
          refine J_istore [(0, .ref (r 2)), (1, .int (nI q)), (2, .int (nI bits)), (3, .int (nI (aw q))), (4, .int (nI (bm (fun h => bits.testBit h && (lnB Hb bits h || !decide (hb h &&& aw q = 0))) i))), (5, .int (nI i)), (6, .int (Hb (5 * i + 3)))] dX4_cannotBits_41 (by decide) rfl rfl rfl ?_
          refine J_iload dX4_cannotBits_43 rfl ?_
          refine J_iconst (v := -1) dX4_cannotBits_45 (by decide) ?_
          have K63_2 : ∀ (t0 : Int32), t0 = bI (lnB Hb bits i) → J G "cannotBits" RX4 cX4_cannotBits 9 (some .int) 0 0 1 Q 0 0 63 [(0, .ref (r 2)), (1, .int (nI q)), (2, .int (nI bits)), (3, .int (nI (aw q))), (4, .int (nI (bm (fun h => bits.testBit h && (lnB Hb bits h || !decide (hb h &&& aw q = 0))) i))), (5, .int (nI i)), (6, .int (Hb (5 * i + 3)))] [.int t0] (cW G r s l) := by
            intro t0 qt0
            subst qt0
            refine J_istore [(0, .ref (r 2)), (1, .int (nI q)), (2, .int (nI bits)), (3, .int (nI (aw q))), (4, .int (nI (bm (fun h => bits.testBit h && (lnB Hb bits h || !decide (hb h &&& aw q = 0))) i))), (5, .int (nI i)), (6, .int (Hb (5 * i + 3))), (7, .int (bI (lnB Hb bits i)))] dX4_cannotBits_63 (by decide) rfl rfl rfl ?_
            refine J_aload_n dX4_cannotBits_65 rfl rfl ?_
            refine Cg_2_0 fr_X4_12_4 dX4_cannotBits_66 ?_
            refine Cg_3_11 fr_X4_48_2 dX4_cannotBits_69 ?_
            refine J_iload dX4_cannotBits_72 rfl ?_
            refine Cl_26 (s := s) (s 26) rfl i rfl (by omega) dX4_cannotBits_74 ?_
            refine J_rw (y := nI (hb i)) (hR i (by omega)).2.2.2 ?_
            refine J_iload_n dX4_cannotBits_75 rfl rfl ?_
            refine J_iandN dX4_cannotBits_76 ?_
            refine J_if_eqN 84 (Nat.lt_of_le_of_lt Nat.and_le_left (Nat.lt_trans (hk i (by omega)).1 (by decide))) dX4_cannotBits_77 (by decide) (fun kcz4 => ?_) (fun kcz4 => ?_)
            · refine J_iconst (v := nI 0) dX4_cannotBits_84 (by decide) ?_
              refine J_istore [(0, .ref (r 2)), (1, .int (nI q)), (2, .int (nI bits)), (3, .int (nI (aw q))), (4, .int (nI (bm (fun h => bits.testBit h && (lnB Hb bits h || !decide (hb h &&& aw q = 0))) i))), (5, .int (nI i)), (6, .int (Hb (5 * i + 3))), (7, .int (bI (lnB Hb bits i))), (8, .int (nI 0))] dX4_cannotBits_85 (by decide) rfl rfl rfl ?_
              refine J_iload_n dX4_cannotBits_87 rfl rfl ?_
              refine J_iload dX4_cannotBits_88 rfl ?_
              refine J_cNi [.int (nI bits), .int (nI i)] mn_X4_44 (c_X11_hasBitN (cW G r s l) bits i (by omega) (by omega)) rfl rfl (by decide) (Nat.le_of_ble_eq_true rfl) ⟨Nat.le_refl _, Nat.le_refl _⟩ dX4_cannotBits_90 ?_
              refine J_if_eqB 115 dX4_cannotBits_93 (by decide) (fun kcz5 => ?_) (fun kcz5 => ?_)
              · refine J_iincN [(0, .ref (r 2)), (1, .int (nI q)), (2, .int (nI bits)), (3, .int (nI (aw q))), (4, .int (nI (bm (fun h => bits.testBit h && (lnB Hb bits h || !decide (hb h &&& aw q = 0))) i))), (5, .int (nI (i + 1))), (6, .int (Hb (5 * i + 3))), (7, .int (bI (lnB Hb bits i))), (8, .int (nI 0))] dX4_cannotBits_115 rfl (by decide) rfl rfl rfl ?_
                refine J_goto 12 dX4_cannotBits_118 (by decide) ?_
                refine J_lv [0, 1, 2, 3, 4, 5] rfl ?_
                exact ih12 (i + 1) (by omega) (by omega)  _ _ (by simp [bm, kcz1, kcz2, kcz4, kcz5]) rfl
              · refine J_iload dX4_cannotBits_96 rfl ?_
                refine J_if_neB 106 dX4_cannotBits_98 (by decide) (fun kcz6 => ?_) (fun kcz6 => ?_)
                · refine J_iload dX4_cannotBits_106 rfl ?_
                  refine J_iconst (v := nI 1) dX4_cannotBits_108 (by decide) ?_
                  refine J_iload dX4_cannotBits_109 rfl ?_
                  refine J_shl1N dX4_cannotBits_111 (by omega) ?_
                  refine J_iorN dX4_cannotBits_112 ?_
                  refine J_istore [(0, .ref (r 2)), (1, .int (nI q)), (2, .int (nI bits)), (3, .int (nI (aw q))), (4, .int (nI ((bm (fun h => bits.testBit h && (lnB Hb bits h || !decide (hb h &&& aw q = 0))) i) ||| (2 ^ i)))), (5, .int (nI i)), (6, .int (Hb (5 * i + 3))), (7, .int (bI (lnB Hb bits i))), (8, .int (nI 0))] dX4_cannotBits_113 (by decide) rfl rfl rfl ?_
                  refine J_iincN [(0, .ref (r 2)), (1, .int (nI q)), (2, .int (nI bits)), (3, .int (nI (aw q))), (4, .int (nI ((bm (fun h => bits.testBit h && (lnB Hb bits h || !decide (hb h &&& aw q = 0))) i) ||| (2 ^ i)))), (5, .int (nI (i + 1))), (6, .int (Hb (5 * i + 3))), (7, .int (bI (lnB Hb bits i))), (8, .int (nI 0))] dX4_cannotBits_115 rfl (by decide) rfl rfl rfl ?_
                  refine J_goto 12 dX4_cannotBits_118 (by decide) ?_
                  refine J_lv [0, 1, 2, 3, 4, 5] rfl ?_
                  exact ih12 (i + 1) (by omega) (by omega)  _ _ (by simp [bm, kcz1, kcz2, kcz4, kcz5, kcz6]) rfl
                · refine J_iload dX4_cannotBits_101 rfl ?_
                  refine J_if_eq 115 dX4_cannotBits_103 (by decide) (fun _ => ?_) (fun c => absurd c (by decide))
                  refine J_iincN [(0, .ref (r 2)), (1, .int (nI q)), (2, .int (nI bits)), (3, .int (nI (aw q))), (4, .int (nI (bm (fun h => bits.testBit h && (lnB Hb bits h || !decide (hb h &&& aw q = 0))) i))), (5, .int (nI (i + 1))), (6, .int (Hb (5 * i + 3))), (7, .int (bI (lnB Hb bits i))), (8, .int (nI 0))] dX4_cannotBits_115 rfl (by decide) rfl rfl rfl ?_
                  refine J_goto 12 dX4_cannotBits_118 (by decide) ?_
                  refine J_lv [0, 1, 2, 3, 4, 5] rfl ?_
                  exact ih12 (i + 1) (by omega) (by omega)  _ _ (by simp [bm, kcz1, kcz2, kcz4, kcz5, kcz6]) rfl
            · refine J_iconst (v := nI 1) dX4_cannotBits_80 (by decide) ?_
              refine J_goto 85 dX4_cannotBits_81 (by decide) ?_
              refine J_istore [(0, .ref (r 2)), (1, .int (nI q)), (2, .int (nI bits)), (3, .int (nI (aw q))), (4, .int (nI (bm (fun h => bits.testBit h && (lnB Hb bits h || !decide (hb h &&& aw q = 0))) i))), (5, .int (nI i)), (6, .int (Hb (5 * i + 3))), (7, .int (bI (lnB Hb bits i))), (8, .int (nI 1))] dX4_cannotBits_85 (by decide) rfl rfl rfl ?_
              refine J_iload_n dX4_cannotBits_87 rfl rfl ?_
              refine J_iload dX4_cannotBits_88 rfl ?_
              refine J_cNi [.int (nI bits), .int (nI i)] mn_X4_44 (c_X11_hasBitN (cW G r s l) bits i (by omega) (by omega)) rfl rfl (by decide) (Nat.le_of_ble_eq_true rfl) ⟨Nat.le_refl _, Nat.le_refl _⟩ dX4_cannotBits_90 ?_
              refine J_if_eqB 115 dX4_cannotBits_93 (by decide) (fun kcz7 => ?_) (fun kcz7 => ?_)
              · refine J_iincN [(0, .ref (r 2)), (1, .int (nI q)), (2, .int (nI bits)), (3, .int (nI (aw q))), (4, .int (nI (bm (fun h => bits.testBit h && (lnB Hb bits h || !decide (hb h &&& aw q = 0))) i))), (5, .int (nI (i + 1))), (6, .int (Hb (5 * i + 3))), (7, .int (bI (lnB Hb bits i))), (8, .int (nI 1))] dX4_cannotBits_115 rfl (by decide) rfl rfl rfl ?_
                refine J_goto 12 dX4_cannotBits_118 (by decide) ?_
                refine J_lv [0, 1, 2, 3, 4, 5] rfl ?_
                exact ih12 (i + 1) (by omega) (by omega)  _ _ (by simp [bm, kcz1, kcz2, kcz4, kcz7]) rfl
              · refine J_iload dX4_cannotBits_96 rfl ?_
                refine J_if_neB 106 dX4_cannotBits_98 (by decide) (fun kcz8 => ?_) (fun kcz8 => ?_)
                · refine J_iload dX4_cannotBits_106 rfl ?_
                  refine J_iconst (v := nI 1) dX4_cannotBits_108 (by decide) ?_
                  refine J_iload dX4_cannotBits_109 rfl ?_
                  refine J_shl1N dX4_cannotBits_111 (by omega) ?_
                  refine J_iorN dX4_cannotBits_112 ?_
                  refine J_istore [(0, .ref (r 2)), (1, .int (nI q)), (2, .int (nI bits)), (3, .int (nI (aw q))), (4, .int (nI ((bm (fun h => bits.testBit h && (lnB Hb bits h || !decide (hb h &&& aw q = 0))) i) ||| (2 ^ i)))), (5, .int (nI i)), (6, .int (Hb (5 * i + 3))), (7, .int (bI (lnB Hb bits i))), (8, .int (nI 1))] dX4_cannotBits_113 (by decide) rfl rfl rfl ?_
                  refine J_iincN [(0, .ref (r 2)), (1, .int (nI q)), (2, .int (nI bits)), (3, .int (nI (aw q))), (4, .int (nI ((bm (fun h => bits.testBit h && (lnB Hb bits h || !decide (hb h &&& aw q = 0))) i) ||| (2 ^ i)))), (5, .int (nI (i + 1))), (6, .int (Hb (5 * i + 3))), (7, .int (bI (lnB Hb bits i))), (8, .int (nI 1))] dX4_cannotBits_115 rfl (by decide) rfl rfl rfl ?_
                  refine J_goto 12 dX4_cannotBits_118 (by decide) ?_
                  refine J_lv [0, 1, 2, 3, 4, 5] rfl ?_
                  exact ih12 (i + 1) (by omega) (by omega)  _ _ (by simp [bm, kcz1, kcz2, kcz4, kcz7, kcz8]) rfl
                · refine J_iload dX4_cannotBits_101 rfl ?_
                  refine J_if_eq 115 dX4_cannotBits_103 (by decide) (fun c => absurd c (by decide)) (fun _ => ?_)
                  refine J_iload dX4_cannotBits_106 rfl ?_
                  refine J_iconst (v := nI 1) dX4_cannotBits_108 (by decide) ?_
                  refine J_iload dX4_cannotBits_109 rfl ?_
                  refine J_shl1N dX4_cannotBits_111 (by omega) ?_
                  refine J_iorN dX4_cannotBits_112 ?_
                  refine J_istore [(0, .ref (r 2)), (1, .int (nI q)), (2, .int (nI bits)), (3, .int (nI (aw q))), (4, .int (nI ((bm (fun h => bits.testBit h && (lnB Hb bits h || !decide (hb h &&& aw q = 0))) i) ||| (2 ^ i)))), (5, .int (nI i)), (6, .int (Hb (5 * i + 3))), (7, .int (bI (lnB Hb bits i))), (8, .int (nI 1))] dX4_cannotBits_113 (by decide) rfl rfl rfl ?_
                  refine J_iincN [(0, .ref (r 2)), (1, .int (nI q)), (2, .int (nI bits)), (3, .int (nI (aw q))), (4, .int (nI ((bm (fun h => bits.testBit h && (lnB Hb bits h || !decide (hb h &&& aw q = 0))) i) ||| (2 ^ i)))), (5, .int (nI (i + 1))), (6, .int (Hb (5 * i + 3))), (7, .int (bI (lnB Hb bits i))), (8, .int (nI 1))] dX4_cannotBits_115 rfl (by decide) rfl rfl rfl ?_
                  refine J_goto 12 dX4_cannotBits_118 (by decide) ?_
                  refine J_lv [0, 1, 2, 3, 4, 5] rfl ?_
                  exact ih12 (i + 1) (by omega) (by omega)  _ _ (by simp [bm, kcz1, kcz2, kcz4, kcz7, kcz8]) rfl
          refine J_icmp_eq 62 dX4_cannotBits_46 (by decide) (fun kcz9 => ?_) (fun kcz9 => ?_)
          · refine J_iconst (v := nI 0) dX4_cannotBits_62 (by decide) ?_
            exact K63_2 _ (by first | (show bI false = bI (lnB Hb bits i); simp [lnB, kcz1, kcz2, kcz9]; done) | (show bI true = bI (lnB Hb bits i); simp [lnB, kcz1, kcz2, kcz9]))
          · refine J_iload_n dX4_cannotBits_49 rfl rfl ?_
            refine J_iload dX4_cannotBits_50 rfl ?_
            refine J_cNi [.int (nI bits), .int (Hb (5 * i + 3))] mn_X4_44 (c_X11_hasBit (cW G r s l) (nI bits) (Hb (5 * i + 3))) rfl rfl (by decide) (Nat.le_of_ble_eq_true rfl) ⟨Nat.le_refl _, Nat.le_refl _⟩ dX4_cannotBits_52 ?_
            refine J_rw (y := bI (bits.testBit (Hb (5 * i + 3)).toNatClampNeg)) (congrArg bI (tb_lean (by omega) (hk i (by omega)).2.2.1 kcz9)) ?_
            refine J_if_neB 62 dX4_cannotBits_55 (by decide) (fun kcz10 => ?_) (fun kcz10 => ?_)
            · refine J_iconst (v := nI 0) dX4_cannotBits_62 (by decide) ?_
              exact K63_2 _ (by first | (show bI false = bI (lnB Hb bits i); simp [lnB, kcz1, kcz2, kcz9, kcz10]; done) | (show bI true = bI (lnB Hb bits i); simp [lnB, kcz1, kcz2, kcz9, kcz10]))
            · refine J_iconst (v := nI 1) dX4_cannotBits_58 (by decide) ?_
              refine J_goto 63 dX4_cannotBits_59 (by decide) ?_
              exact K63_2 _ (by first | (show bI false = bI (lnB Hb bits i); simp [lnB, kcz1, kcz2, kcz9, kcz10]; done) | (show bI true = bI (lnB Hb bits i); simp [lnB, kcz1, kcz2, kcz9, kcz10]))
  exact L12 (n + 1) 0 (by omega) (by omega)  _ _ rfl rfl
theorem c_X4_cannotBits {G : GT} (r : Nat → Nat) (s : St) (l : Nat → Int64) (n : Nat) (hn : s 52 0 = nI n) (hn8 : n ≤ 8) (Hb : Nat → Int32) (hb : Nat → Nat) (hR : CHr n Hb hb s) (hk : HbOk n Hb hb) (m : Nat) (hm : s 55 0 = nI m) (hm6 : m ≤ 6) (He : Nat → Int32) (aw : Nat → Nat) (hE : CEr m He aw s) (ha : AwOk m He aw) (q bits : Nat) (hqm : q < m) (hbits : bits < 256) : Ct G yX4_cannotBits cX4_cannotBits 9 (some .int) 0 0 1 [.ref (r 2), .int (nI q), .int (nI bits)] (cW G r s l) (Is (some (.int (nI (cnB n Hb hb (aw q) bits)))) (cW G r s l)) := Ct.of rfl (Nat.le_of_ble_eq_true rfl) (j_X4_cannotBits r s l n hn hn8 Hb hb hR hk m hm hm6 He aw hE ha q bits hqm hbits (fun _ e => by subst e; exact Is.rf _ _))
set_option maxRecDepth 100000 in
set_option maxHeartbeats 1000000 in
theorem j_X4_barEachOther {G : GT} (r : Nat → Nat) (s : St) (l : Nat → Int64) (n : Nat) (hn : s 52 0 = nI n) (hn8 : n ≤ 8) (Hb : Nat → Int32) (hb : Nat → Nat) (hR : CHr n Hb hb s) (hk : HbOk n Hb hb) (bits : Nat) (hbits : bits < 256) {Q : Option Value → va_W → Prop} (hq : ∀ v_ : Int32, v_ = bI (brB n hb bits) → Q (some (.int v_)) (cW G r s l)) : J G "barEachOther" RX4 cX4_barEachOther 4 (some .boolean) 0 0 1 Q 0 0 0 [(0, .ref (r 2)), (1, .int (nI bits))] [] (cW G r s l) := by
  refine J_iconst (v := nI 0) dX4_barEachOther_0 (by decide) ?_
  refine J_istore_n [(0, .ref (r 2)), (1, .int (nI bits)), (2, .int (nI 0))] dX4_barEachOther_1 rfl (by decide) rfl rfl rfl ?_
  refine J_iconst (v := nI 0) dX4_barEachOther_2 (by decide) ?_
  refine J_istore_n [(0, .ref (r 2)), (1, .int (nI bits)), (2, .int (nI 0)), (3, .int (nI 0))] dX4_barEachOther_3 rfl (by decide) rfl rfl rfl ?_
  have L4 : ∀ (f i : Nat), n - i < f → i ≤ n → anyB (fun h => bits.testBit h && !decide (tkB hb bits h &&& hb h = 0)) i = false → ∀ (x2 : Int32) (x3 : Int32), x2 = nI (tkB hb bits i) → x3 = nI i → J G "barEachOther" RX4 cX4_barEachOther 4 (some .boolean) 0 0 1 Q 0 0 4 [(0, .ref (r 2)), (1, .int (nI bits)), (2, .int x2), (3, .int x3)] [] (cW G r s l) := by
    intro f
    induction f with
    | zero => intro i h; exact absurd h (Nat.not_lt_zero _)
    | succ f ih4 =>
      intro i hf4 hle4 hno x2 x3 e2 e3
      subst e2
      subst e3
      refine J_iload_n dX4_barEachOther_4 rfl rfl ?_
      refine J_aload_n dX4_barEachOther_5 rfl rfl ?_
      refine Cg_2_0 fr_X4_12_4 dX4_barEachOther_6 ?_
      refine Cg_3_4 (s := s) fr_X4_40_2 (s 52 0) rfl dX4_barEachOther_9 ?_
      refine J_rw (y := nI n) hn ?_
      refine J_icmp_geN 63 (by omega) (by omega) dX4_barEachOther_12 (by decide) (fun kcz1 => ?_) (fun kcz1 => ?_)
      · refine J_iconst (v := nI 0) dX4_barEachOther_63 (by decide) ?_
        exact J_zretB (b := false) dX4_barEachOther_64 rfl rfl rfl (hq _ (by obtain rfl : i = n := (by omega); exact congrArg bI hno.symm))
      · refine J_iload_n dX4_barEachOther_15 rfl rfl ?_
        refine J_bipush (v := nI 8) dX4_barEachOther_16 (by decide) ?_
        refine J_icmp_geN 63 (by omega) (by omega) dX4_barEachOther_18 (by decide) (fun kcz2 => ?_) (fun kcz2 => ?_)
        · refine J_iconst (v := nI 0) dX4_barEachOther_63 (by decide) ?_
          exact J_zretB (b := false) dX4_barEachOther_64 rfl rfl rfl (hq _ (by obtain rfl : i = n := (by omega); exact congrArg bI hno.symm))
        · refine J_iload_n dX4_barEachOther_21 rfl rfl ?_
          refine J_iload_n dX4_barEachOther_22 rfl rfl ?_
          refine J_cNi [.int (nI bits), .int (nI i)] mn_X4_44 (c_X11_hasBitN (cW G r s l) bits i (by omega) (by omega)) rfl rfl (by decide) (Nat.le_of_ble_eq_true rfl) ⟨Nat.le_refl _, Nat.le_refl _⟩ dX4_barEachOther_23 ?_
          refine J_if_eqB 57 dX4_barEachOther_26 (by decide) (fun kcz3 => ?_) (fun kcz3 => ?_)
          · refine J_iincN [(0, .ref (r 2)), (1, .int (nI bits)), (2, .int (nI (tkB hb bits i))), (3, .int (nI (i + 1)))] dX4_barEachOther_57 rfl (by decide) rfl rfl rfl ?_
            refine J_goto 4 dX4_barEachOther_60 (by decide) ?_
            exact ih4 (i + 1) (by omega) (by omega) (by simp [anyB, hno, kcz1, kcz2, kcz3]) _ _ (by simp [tkB, kcz1, kcz2, kcz3]) rfl
          · refine J_iload_n dX4_barEachOther_29 rfl rfl ?_
            refine J_aload_n dX4_barEachOther_30 rfl rfl ?_
            refine Cg_2_0 fr_X4_12_4 dX4_barEachOther_31 ?_
            refine Cg_3_11 fr_X4_48_2 dX4_barEachOther_34 ?_
            refine J_iload_n dX4_barEachOther_37 rfl rfl ?_
            refine Cl_26 (s := s) (s 26) rfl i rfl (by omega) dX4_barEachOther_38 ?_
            refine J_rw (y := nI (hb i)) (hR i (by omega)).2.2.2 ?_
            refine J_iandN dX4_barEachOther_39 ?_
            refine J_if_eqN 45 (Nat.lt_of_le_of_lt Nat.and_le_left (Nat.lt_trans (tk_lt hk bits i (by omega)) (by decide))) dX4_barEachOther_40 (by decide) (fun kcz4 => ?_) (fun kcz4 => ?_)
            · refine J_iload_n dX4_barEachOther_45 rfl rfl ?_
              refine J_aload_n dX4_barEachOther_46 rfl rfl ?_
              refine Cg_2_0 fr_X4_12_4 dX4_barEachOther_47 ?_
              refine Cg_3_11 fr_X4_48_2 dX4_barEachOther_50 ?_
              refine J_iload_n dX4_barEachOther_53 rfl rfl ?_
              refine Cl_26 (s := s) (s 26) rfl i rfl (by omega) dX4_barEachOther_54 ?_
              refine J_rw (y := nI (hb i)) (hR i (by omega)).2.2.2 ?_
              refine J_iorN dX4_barEachOther_55 ?_
              refine J_istore_n [(0, .ref (r 2)), (1, .int (nI bits)), (2, .int (nI ((tkB hb bits i) ||| (hb i)))), (3, .int (nI i))] dX4_barEachOther_56 rfl (by decide) rfl rfl rfl ?_
              refine J_iincN [(0, .ref (r 2)), (1, .int (nI bits)), (2, .int (nI ((tkB hb bits i) ||| (hb i)))), (3, .int (nI (i + 1)))] dX4_barEachOther_57 rfl (by decide) rfl rfl rfl ?_
              refine J_goto 4 dX4_barEachOther_60 (by decide) ?_
              exact ih4 (i + 1) (by omega) (by omega) (by simp [anyB, hno, kcz1, kcz2, kcz3, kcz4]) _ _ (by simp [tkB, kcz1, kcz2, kcz3, kcz4]) rfl
            · refine J_iconst (v := nI 1) dX4_barEachOther_43 (by decide) ?_
              exact J_zretB (b := true) dX4_barEachOther_44 rfl rfl rfl (hq _ (congrArg bI (anyB_iff.mpr ⟨i, by omega, by simp [kcz1, kcz2, kcz3, kcz4]⟩).symm))
  exact L4 (n + 1) 0 (by omega) (by omega) rfl _ _ rfl rfl
theorem c_X4_barEachOther {G : GT} (r : Nat → Nat) (s : St) (l : Nat → Int64) (n : Nat) (hn : s 52 0 = nI n) (hn8 : n ≤ 8) (Hb : Nat → Int32) (hb : Nat → Nat) (hR : CHr n Hb hb s) (hk : HbOk n Hb hb) (bits : Nat) (hbits : bits < 256) : Ct G yX4_barEachOther cX4_barEachOther 4 (some .boolean) 0 0 1 [.ref (r 2), .int (nI bits)] (cW G r s l) (Is (some (.int (bI (brB n hb bits)))) (cW G r s l)) := Ct.of rfl (Nat.le_of_ble_eq_true rfl) (j_X4_barEachOther r s l n hn hn8 Hb hb hR hk bits hbits (fun _ e => by subst e; exact Is.rf _ _))
set_option maxRecDepth 100000 in
set_option maxHeartbeats 1000000 in
theorem j_X4_canLive {G : GT} (r : Nat → Nat) (s : St) (l : Nat → Int64) (n : Nat) (hn : s 52 0 = nI n) (hn8 : n ≤ 8) (Hb : Nat → Int32) (hb : Nat → Nat) (hR : CHr n Hb hb s) (hk : HbOk n Hb hb) (m : Nat) (hm : s 55 0 = nI m) (hm6 : m ≤ 6) (He : Nat → Int32) (aw : Nat → Nat) (hE : CEr m He aw s) (ha : AwOk m He aw) (q bits : Nat) (hqm : q < m) (hbits : bits < 256) {Q : Option Value → va_W → Prop} (hq : ∀ v_ : Int32, v_ = bI (lvB n Hb hb He aw q bits) → Q (some (.int v_)) (cW G r s l)) : J G "canLive" RX4 cX4_canLive 3 (some .boolean) 0 0 2 Q 0 0 0 [(0, .ref (r 2)), (1, .int (nI q)), (2, .int (nI bits))] [] (cW G r s l) := by
  refine J_iload_n dX4_canLive_0 rfl rfl ?_
  refine J_cSi [.int (nI bits)] ms_X4_51 (c_J6_bitCount_0f7a4 (cW G r s l) bits (by omega)) rfl rfl (by decide) (Nat.le_of_ble_eq_true rfl) ⟨Nat.le_refl _, Nat.le_refl _⟩ dX4_canLive_1 ?_
  refine J_aload_n dX4_canLive_4 rfl rfl ?_
  refine J_iload_n dX4_canLive_5 rfl rfl ?_
  refine J_cVi (x := yX12_in) [.int (nI q)] 2 mv_X4_56 (c_X4_roomOf r s l m hm hm6 He aw hE ha q (by omega)) cW_2 rfl rfl (by decide) (Nat.le_of_ble_eq_true rfl) ⟨Nat.le_refl _, Nat.le_refl _⟩ dX4_canLive_6 ?_
  refine J_icmp_gt 33 dX4_canLive_9 (by decide) (fun kcz1 => ?_) (fun kcz1 => ?_)
  · refine J_iconst (v := nI 0) dX4_canLive_33 (by decide) ?_
    exact J_zretB (b := false) dX4_canLive_34 rfl rfl rfl (hq _ (by show bI false = bI (lvB n Hb hb He aw q bits); simp [lvB, kcz1]))
  · refine J_aload_n dX4_canLive_12 rfl rfl ?_
    refine J_iload_n dX4_canLive_13 rfl rfl ?_
    refine J_iload_n dX4_canLive_14 rfl rfl ?_
    refine J_cVi (x := yX12_in) [.int (nI q), .int (nI bits)] 2 mv_X4_59 (c_X4_cannotBits r s l n hn hn8 Hb hb hR hk m hm hm6 He aw hE ha q bits (by omega) (by omega)) cW_2 rfl rfl (by decide) (Nat.le_of_ble_eq_true rfl) ⟨Nat.le_refl _, Nat.le_refl _⟩ dX4_canLive_15 ?_
    refine J_if_neN 33 (Nat.lt_trans (bm_lt256 _ hn8) (by decide)) dX4_canLive_18 (by decide) (fun kcz2 => ?_) (fun kcz2 => ?_)
    · refine J_iconst (v := nI 0) dX4_canLive_33 (by decide) ?_
      exact J_zretB (b := false) dX4_canLive_34 rfl rfl rfl (hq _ (by show bI false = bI (lvB n Hb hb He aw q bits); simp [lvB, kcz1, kcz2]))
    · refine J_aload_n dX4_canLive_21 rfl rfl ?_
      refine J_iload_n dX4_canLive_22 rfl rfl ?_
      refine J_cVi (x := yX12_in) [.int (nI bits)] 2 mv_X4_63 (c_X4_barEachOther r s l n hn hn8 Hb hb hR hk bits (by omega)) cW_2 rfl rfl (by decide) (Nat.le_of_ble_eq_true rfl) ⟨Nat.le_refl _, Nat.le_refl _⟩ dX4_canLive_23 ?_
      refine J_if_neB 33 dX4_canLive_26 (by decide) (fun kcz3 => ?_) (fun kcz3 => ?_)
      · refine J_iconst (v := nI 0) dX4_canLive_33 (by decide) ?_
        exact J_zretB (b := false) dX4_canLive_34 rfl rfl rfl (hq _ (by show bI false = bI (lvB n Hb hb He aw q bits); simp [lvB, kcz1, kcz2, kcz3]))
      · refine J_iconst (v := nI 1) dX4_canLive_29 (by decide) ?_
        refine J_goto 34 dX4_canLive_30 (by decide) ?_
        exact J_zretB (b := true) dX4_canLive_34 rfl rfl rfl (hq _ (by show bI true = bI (lvB n Hb hb He aw q bits); simp [lvB, kcz1, kcz2, kcz3]))
theorem c_X4_canLive {G : GT} (r : Nat → Nat) (s : St) (l : Nat → Int64) (n : Nat) (hn : s 52 0 = nI n) (hn8 : n ≤ 8) (Hb : Nat → Int32) (hb : Nat → Nat) (hR : CHr n Hb hb s) (hk : HbOk n Hb hb) (m : Nat) (hm : s 55 0 = nI m) (hm6 : m ≤ 6) (He : Nat → Int32) (aw : Nat → Nat) (hE : CEr m He aw s) (ha : AwOk m He aw) (q bits : Nat) (hqm : q < m) (hbits : bits < 256) : Ct G yX4_canLive cX4_canLive 3 (some .boolean) 0 0 2 [.ref (r 2), .int (nI q), .int (nI bits)] (cW G r s l) (Is (some (.int (bI (lvB n Hb hb He aw q bits)))) (cW G r s l)) := Ct.of rfl (Nat.le_of_ble_eq_true rfl) (j_X4_canLive r s l n hn hn8 Hb hb hR hk m hm hm6 He aw hE ha q bits hqm hbits (fun _ e => by subst e; exact Is.rf _ _))
set_option maxRecDepth 100000 in
set_option maxHeartbeats 1000000 in
theorem j_X4_worthOf {G : GT} (r : Nat → Nat) (s : St) (l : Nat → Int64) (n : Nat) (hn : s 52 0 = nI n) (hn8 : n ≤ 8) (Hb : Nat → Int32) (hb : Nat → Nat) (hR : CHr n Hb hb s) (hk : HbOk n Hb hb) (bits : Nat) (hbits : bits < 256) {Q : Option Value → va_W → Prop} (hq : ∀ v_ : Int32, v_ = wB n Hb bits → Q (some (.int v_)) (cW G r s l)) : J G "worthOf" RX4 cX4_worthOf 4 (some .int) 0 0 1 Q 0 0 0 [(0, .ref (r 2)), (1, .int (nI bits))] [] (cW G r s l) := by
  refine J_iconst (v := nI 0) dX4_worthOf_0 (by decide) ?_
  refine J_istore_n [(0, .ref (r 2)), (1, .int (nI bits)), (2, .int (nI 0))] dX4_worthOf_1 rfl (by decide) rfl rfl rfl ?_
  refine J_iconst (v := nI 0) dX4_worthOf_2 (by decide) ?_
  refine J_istore_n [(0, .ref (r 2)), (1, .int (nI bits)), (2, .int (nI 0)), (3, .int (nI 0))] dX4_worthOf_3 rfl (by decide) rfl rfl rfl ?_
  have L4 : ∀ (f i : Nat), n - i < f → i ≤ n → ∀ (x2 : Int32) (x3 : Int32), x2 = smI (fun h => if bits.testBit h = true then Hb (5 * h + 2) else nI 0) i → x3 = nI i → J G "worthOf" RX4 cX4_worthOf 4 (some .int) 0 0 1 Q 0 0 4 [(0, .ref (r 2)), (1, .int (nI bits)), (2, .int x2), (3, .int x3)] [] (cW G r s l) := by
    intro f
    induction f with
    | zero => intro i h; exact absurd h (Nat.not_lt_zero _)
    | succ f ih4 =>
      intro i hf4 hle4  x2 x3 e2 e3
      subst e2
      subst e3
      refine J_iload_n dX4_worthOf_4 rfl rfl ?_
      refine J_aload_n dX4_worthOf_5 rfl rfl ?_
      refine Cg_2_0 fr_X4_12_4 dX4_worthOf_6 ?_
      refine Cg_3_4 (s := s) fr_X4_40_2 (s 52 0) rfl dX4_worthOf_9 ?_
      refine J_rw (y := nI n) hn ?_
      refine J_icmp_geN 47 (by omega) (by omega) dX4_worthOf_12 (by decide) (fun kcz1 => ?_) (fun kcz1 => ?_)
      · refine J_iload_n dX4_worthOf_47 rfl rfl ?_
        exact J_iret dX4_worthOf_48 rfl rfl rfl (hq _ (by obtain rfl : i = n := (by omega); rfl))
      · refine J_iload_n dX4_worthOf_15 rfl rfl ?_
        refine J_bipush (v := nI 8) dX4_worthOf_16 (by decide) ?_
        refine J_icmp_geN 47 (by omega) (by omega) dX4_worthOf_18 (by decide) (fun kcz2 => ?_) (fun kcz2 => ?_)
        · refine J_iload_n dX4_worthOf_47 rfl rfl ?_
          exact J_iret dX4_worthOf_48 rfl rfl rfl (hq _ (by obtain rfl : i = n := (by omega); rfl))
        · refine J_iload_n dX4_worthOf_21 rfl rfl ?_
          refine J_iload_n dX4_worthOf_22 rfl rfl ?_
          refine J_cNi [.int (nI bits), .int (nI i)] mn_X4_44 (c_X11_hasBitN (cW G r s l) bits i (by omega) (by omega)) rfl rfl (by decide) (Nat.le_of_ble_eq_true rfl) ⟨Nat.le_refl _, Nat.le_refl _⟩ dX4_worthOf_23 ?_
          refine J_if_eqB 41 dX4_worthOf_26 (by decide) (fun kcz3 => ?_) (fun kcz3 => ?_)
          · refine J_iincN [(0, .ref (r 2)), (1, .int (nI bits)), (2, .int (smI (fun h => if bits.testBit h = true then Hb (5 * h + 2) else nI 0) i)), (3, .int (nI (i + 1)))] dX4_worthOf_41 rfl (by decide) rfl rfl rfl ?_
            refine J_goto 4 dX4_worthOf_44 (by decide) ?_
            exact ih4 (i + 1) (by omega) (by omega)  _ _ (by simp [smI, nI0e, kcz1, kcz2, kcz3]) rfl
          · refine J_iload_n dX4_worthOf_29 rfl rfl ?_
            refine J_aload_n dX4_worthOf_30 rfl rfl ?_
            refine Cg_2_0 fr_X4_12_4 dX4_worthOf_31 ?_
            refine Cg_3_8 fr_X4_67_2 dX4_worthOf_34 ?_
            refine J_iload_n dX4_worthOf_37 rfl rfl ?_
            refine Cl_23 (s := s) (s 23) rfl i rfl (by omega) dX4_worthOf_38 ?_
            refine J_rw (y := Hb (5 * i + 2)) (hR i (by omega)).1 ?_
            refine J_iadd dX4_worthOf_39 ?_
            refine J_istore_n [(0, .ref (r 2)), (1, .int (nI bits)), (2, .int ((smI (fun h => if bits.testBit h = true then Hb (5 * h + 2) else nI 0) i) + (Hb (5 * i + 2)))), (3, .int (nI i))] dX4_worthOf_40 rfl (by decide) rfl rfl rfl ?_
            refine J_iincN [(0, .ref (r 2)), (1, .int (nI bits)), (2, .int ((smI (fun h => if bits.testBit h = true then Hb (5 * h + 2) else nI 0) i) + (Hb (5 * i + 2)))), (3, .int (nI (i + 1)))] dX4_worthOf_41 rfl (by decide) rfl rfl rfl ?_
            refine J_goto 4 dX4_worthOf_44 (by decide) ?_
            exact ih4 (i + 1) (by omega) (by omega)  _ _ (by simp [smI, nI0e, kcz1, kcz2, kcz3]) rfl
  exact L4 (n + 1) 0 (by omega) (by omega)  _ _ rfl rfl
theorem c_X4_worthOf {G : GT} (r : Nat → Nat) (s : St) (l : Nat → Int64) (n : Nat) (hn : s 52 0 = nI n) (hn8 : n ≤ 8) (Hb : Nat → Int32) (hb : Nat → Nat) (hR : CHr n Hb hb s) (hk : HbOk n Hb hb) (bits : Nat) (hbits : bits < 256) : Ct G yX4_worthOf cX4_worthOf 4 (some .int) 0 0 1 [.ref (r 2), .int (nI bits)] (cW G r s l) (Is (some (.int (wB n Hb bits))) (cW G r s l)) := Ct.of rfl (Nat.le_of_ble_eq_true rfl) (j_X4_worthOf r s l n hn hn8 Hb hb hR hk bits hbits (fun _ e => by subst e; exact Is.rf _ _))
set_option maxRecDepth 100000 in
set_option maxHeartbeats 1000000 in
theorem j_X4_viceBits {G : GT} (r : Nat → Nat) (s : St) (l : Nat → Int64) (n : Nat) (hn : s 52 0 = nI n) (hn8 : n ≤ 8) (Hb : Nat → Int32) (hb : Nat → Nat) (hR : CHr n Hb hb s) (hk : HbOk n Hb hb) (bits : Nat) (hbits : bits < 256) {Q : Option Value → va_W → Prop} (hq : ∀ v_ : Int32, v_ = nI (vB n Hb bits) → Q (some (.int v_)) (cW G r s l)) : J G "viceBits" RX4 cX4_viceBits 4 (some .int) 0 0 1 Q 0 0 0 [(0, .ref (r 2)), (1, .int (nI bits))] [] (cW G r s l) := by
  refine J_iconst (v := nI 0) dX4_viceBits_0 (by decide) ?_
  refine J_istore_n [(0, .ref (r 2)), (1, .int (nI bits)), (2, .int (nI 0))] dX4_viceBits_1 rfl (by decide) rfl rfl rfl ?_
  refine J_iconst (v := nI 0) dX4_viceBits_2 (by decide) ?_
  refine J_istore_n [(0, .ref (r 2)), (1, .int (nI bits)), (2, .int (nI 0)), (3, .int (nI 0))] dX4_viceBits_3 rfl (by decide) rfl rfl rfl ?_
  have L4 : ∀ (f i : Nat), n - i < f → i ≤ n → ∀ (x2 : Int32) (x3 : Int32), x2 = nI (bm (fun h => bits.testBit h && decide (Hb (5 * h + 4) = nI 1)) i) → x3 = nI i → J G "viceBits" RX4 cX4_viceBits 4 (some .int) 0 0 1 Q 0 0 4 [(0, .ref (r 2)), (1, .int (nI bits)), (2, .int x2), (3, .int x3)] [] (cW G r s l) := by
    intro f
    induction f with
    | zero => intro i h; exact absurd h (Nat.not_lt_zero _)
    | succ f ih4 =>
      intro i hf4 hle4  x2 x3 e2 e3
      subst e2
      subst e3
      refine J_iload_n dX4_viceBits_4 rfl rfl ?_
      refine J_aload_n dX4_viceBits_5 rfl rfl ?_
      refine Cg_2_0 fr_X4_12_4 dX4_viceBits_6 ?_
      refine Cg_3_4 (s := s) fr_X4_40_2 (s 52 0) rfl dX4_viceBits_9 ?_
      refine J_rw (y := nI n) hn ?_
      refine J_icmp_geN 54 (by omega) (by omega) dX4_viceBits_12 (by decide) (fun kcz1 => ?_) (fun kcz1 => ?_)
      · refine J_iload_n dX4_viceBits_54 rfl rfl ?_
        exact J_iret dX4_viceBits_55 rfl rfl rfl (hq _ (by obtain rfl : i = n := (by omega); rfl))
      · refine J_iload_n dX4_viceBits_15 rfl rfl ?_
        refine J_bipush (v := nI 8) dX4_viceBits_16 (by decide) ?_
        refine J_icmp_geN 54 (by omega) (by omega) dX4_viceBits_18 (by decide) (fun kcz2 => ?_) (fun kcz2 => ?_)
        · refine J_iload_n dX4_viceBits_54 rfl rfl ?_
          exact J_iret dX4_viceBits_55 rfl rfl rfl (hq _ (by obtain rfl : i = n := (by omega); rfl))
        · refine J_iload_n dX4_viceBits_21 rfl rfl ?_
          refine J_iload_n dX4_viceBits_22 rfl rfl ?_
          refine J_cNi [.int (nI bits), .int (nI i)] mn_X4_44 (c_X11_hasBitN (cW G r s l) bits i (by omega) (by omega)) rfl rfl (by decide) (Nat.le_of_ble_eq_true rfl) ⟨Nat.le_refl _, Nat.le_refl _⟩ dX4_viceBits_23 ?_
          refine J_if_eqB 48 dX4_viceBits_26 (by decide) (fun kcz3 => ?_) (fun kcz3 => ?_)
          · refine J_iincN [(0, .ref (r 2)), (1, .int (nI bits)), (2, .int (nI (bm (fun h => bits.testBit h && decide (Hb (5 * h + 4) = nI 1)) i))), (3, .int (nI (i + 1)))] dX4_viceBits_48 rfl (by decide) rfl rfl rfl ?_
            refine J_goto 4 dX4_viceBits_51 (by decide) ?_
            exact ih4 (i + 1) (by omega) (by omega)  _ _ (by simp [bm, kcz1, kcz2, kcz3]) rfl
          · refine J_aload_n dX4_viceBits_29 rfl rfl ?_
            refine Cg_2_0 fr_X4_12_4 dX4_viceBits_30 ?_
            refine Cg_3_10 fr_X4_70_2 dX4_viceBits_33 ?_
            refine J_iload_n dX4_viceBits_36 rfl rfl ?_
            refine Cl_25 (s := s) (s 25) rfl i rfl (by omega) dX4_viceBits_37 ?_
            refine J_rw (y := Hb (5 * i + 4)) (hR i (by omega)).2.2.1 ?_
            refine J_iconst (v := nI 1) dX4_viceBits_38 (by decide) ?_
            refine J_icmp_ne 48 dX4_viceBits_39 (by decide) (fun kcz4 => ?_) (fun kcz4 => ?_)
            · refine J_iincN [(0, .ref (r 2)), (1, .int (nI bits)), (2, .int (nI (bm (fun h => bits.testBit h && decide (Hb (5 * h + 4) = nI 1)) i))), (3, .int (nI (i + 1)))] dX4_viceBits_48 rfl (by decide) rfl rfl rfl ?_
              refine J_goto 4 dX4_viceBits_51 (by decide) ?_
              exact ih4 (i + 1) (by omega) (by omega)  _ _ (by simp [bm, kcz1, kcz2, kcz3, kcz4]) rfl
            · refine J_iload_n dX4_viceBits_42 rfl rfl ?_
              refine J_iconst (v := nI 1) dX4_viceBits_43 (by decide) ?_
              refine J_iload_n dX4_viceBits_44 rfl rfl ?_
              refine J_shl1N dX4_viceBits_45 (by omega) ?_
              refine J_iorN dX4_viceBits_46 ?_
              refine J_istore_n [(0, .ref (r 2)), (1, .int (nI bits)), (2, .int (nI ((bm (fun h => bits.testBit h && decide (Hb (5 * h + 4) = nI 1)) i) ||| (2 ^ i)))), (3, .int (nI i))] dX4_viceBits_47 rfl (by decide) rfl rfl rfl ?_
              refine J_iincN [(0, .ref (r 2)), (1, .int (nI bits)), (2, .int (nI ((bm (fun h => bits.testBit h && decide (Hb (5 * h + 4) = nI 1)) i) ||| (2 ^ i)))), (3, .int (nI (i + 1)))] dX4_viceBits_48 rfl (by decide) rfl rfl rfl ?_
              refine J_goto 4 dX4_viceBits_51 (by decide) ?_
              exact ih4 (i + 1) (by omega) (by omega)  _ _ (by simp [bm, kcz1, kcz2, kcz3, kcz4]) rfl
  exact L4 (n + 1) 0 (by omega) (by omega)  _ _ rfl rfl
theorem c_X4_viceBits {G : GT} (r : Nat → Nat) (s : St) (l : Nat → Int64) (n : Nat) (hn : s 52 0 = nI n) (hn8 : n ≤ 8) (Hb : Nat → Int32) (hb : Nat → Nat) (hR : CHr n Hb hb s) (hk : HbOk n Hb hb) (bits : Nat) (hbits : bits < 256) : Ct G yX4_viceBits cX4_viceBits 4 (some .int) 0 0 1 [.ref (r 2), .int (nI bits)] (cW G r s l) (Is (some (.int (nI (vB n Hb bits)))) (cW G r s l)) := Ct.of rfl (Nat.le_of_ble_eq_true rfl) (j_X4_viceBits r s l n hn hn8 Hb hb hR hk bits hbits (fun _ e => by subst e; exact Is.rf _ _))
set_option maxRecDepth 100000 in
set_option maxHeartbeats 1000000 in
theorem j_X4_bitsAt {G : GT} (r : Nat → Nat) (s : St) (l : Nat → Int64) (n : Nat) (hn : s 52 0 = nI n) (hn8 : n ≤ 8) (Hb : Nat → Int32) (hb : Nat → Nat) (hR : CHr n Hb hb s) (hk : HbOk n Hb hb) (bits t : Nat) (hbits : bits < 256) (ht : t < 24) {Q : Option Value → va_W → Prop} (hq : ∀ v_ : Int32, v_ = nI (atB n hb bits t) → Q (some (.int v_)) (cW G r s l)) : J G "bitsAt" RX4 cX4_bitsAt 5 (some .int) 0 0 1 Q 0 0 0 [(0, .ref (r 2)), (1, .int (nI bits)), (2, .int (nI t))] [] (cW G r s l) := by
  refine J_iconst (v := nI 0) dX4_bitsAt_0 (by decide) ?_
  refine J_istore_n [(0, .ref (r 2)), (1, .int (nI bits)), (2, .int (nI t)), (3, .int (nI 0))] dX4_bitsAt_1 rfl (by decide) rfl rfl rfl ?_
  refine J_iconst (v := nI 0) dX4_bitsAt_2 (by decide) ?_
  refine J_istore [(0, .ref (r 2)), (1, .int (nI bits)), (2, .int (nI t)), (3, .int (nI 0)), (4, .int (nI 0))] dX4_bitsAt_3 (by decide) rfl rfl rfl ?_
  have L5 : ∀ (f i : Nat), n - i < f → i ≤ n → ∀ (x3 : Int32) (x4 : Int32), x3 = nI (bm (fun h => bits.testBit h && (hb h).testBit t) i) → x4 = nI i → J G "bitsAt" RX4 cX4_bitsAt 5 (some .int) 0 0 1 Q 0 0 5 [(0, .ref (r 2)), (1, .int (nI bits)), (2, .int (nI t)), (3, .int x3), (4, .int x4)] [] (cW G r s l) := by
    intro f
    induction f with
    | zero => intro i h; exact absurd h (Nat.not_lt_zero _)
    | succ f ih5 =>
      intro i hf5 hle5  x3 x4 e3 e4
      subst e3
      subst e4
      refine J_iload dX4_bitsAt_5 rfl ?_
      refine J_aload_n dX4_bitsAt_7 rfl rfl ?_
      refine Cg_2_0 fr_X4_12_4 dX4_bitsAt_8 ?_
      refine Cg_3_4 (s := s) fr_X4_40_2 (s 52 0) rfl dX4_bitsAt_11 ?_
      refine J_rw (y := nI n) hn ?_
      refine J_icmp_geN 63 (by omega) (by omega) dX4_bitsAt_14 (by decide) (fun kcz1 => ?_) (fun kcz1 => ?_)
      · refine J_iload_n dX4_bitsAt_63 rfl rfl ?_
        exact J_iret dX4_bitsAt_64 rfl rfl rfl (hq _ (by obtain rfl : i = n := (by omega); rfl))
      · refine J_iload dX4_bitsAt_17 rfl ?_
        refine J_bipush (v := nI 8) dX4_bitsAt_19 (by decide) ?_
        refine J_icmp_geN 63 (by omega) (by omega) dX4_bitsAt_21 (by decide) (fun kcz2 => ?_) (fun kcz2 => ?_)
        · refine J_iload_n dX4_bitsAt_63 rfl rfl ?_
          exact J_iret dX4_bitsAt_64 rfl rfl rfl (hq _ (by obtain rfl : i = n := (by omega); rfl))
        · refine J_iload_n dX4_bitsAt_24 rfl rfl ?_
          refine J_iload dX4_bitsAt_25 rfl ?_
          refine J_cNi [.int (nI bits), .int (nI i)] mn_X4_44 (c_X11_hasBitN (cW G r s l) bits i (by omega) (by omega)) rfl rfl (by decide) (Nat.le_of_ble_eq_true rfl) ⟨Nat.le_refl _, Nat.le_refl _⟩ dX4_bitsAt_27 ?_
          refine J_if_eqB 57 dX4_bitsAt_30 (by decide) (fun kcz3 => ?_) (fun kcz3 => ?_)
          · refine J_iincN [(0, .ref (r 2)), (1, .int (nI bits)), (2, .int (nI t)), (3, .int (nI (bm (fun h => bits.testBit h && (hb h).testBit t) i))), (4, .int (nI (i + 1)))] dX4_bitsAt_57 rfl (by decide) rfl rfl rfl ?_
            refine J_goto 5 dX4_bitsAt_60 (by decide) ?_
            exact ih5 (i + 1) (by omega) (by omega)  _ _ (by simp [bm, kcz1, kcz2, kcz3]) rfl
          · refine J_aload_n dX4_bitsAt_33 rfl rfl ?_
            refine Cg_2_0 fr_X4_12_4 dX4_bitsAt_34 ?_
            refine Cg_3_11 fr_X4_48_2 dX4_bitsAt_37 ?_
            refine J_iload dX4_bitsAt_40 rfl ?_
            refine Cl_26 (s := s) (s 26) rfl i rfl (by omega) dX4_bitsAt_42 ?_
            refine J_rw (y := nI (hb i)) (hR i (by omega)).2.2.2 ?_
            refine J_iload_n dX4_bitsAt_43 rfl rfl ?_
            refine J_cNi [.int (nI (hb i)), .int (nI t)] mn_X4_44 (c_X11_hasBitN (cW G r s l) (hb i) t (Nat.lt_trans (hk i (by omega)).1 (by decide)) (by omega)) rfl rfl (by decide) (Nat.le_of_ble_eq_true rfl) ⟨Nat.le_refl _, Nat.le_refl _⟩ dX4_bitsAt_44 ?_
            refine J_if_eqB 57 dX4_bitsAt_47 (by decide) (fun kcz4 => ?_) (fun kcz4 => ?_)
            · refine J_iincN [(0, .ref (r 2)), (1, .int (nI bits)), (2, .int (nI t)), (3, .int (nI (bm (fun h => bits.testBit h && (hb h).testBit t) i))), (4, .int (nI (i + 1)))] dX4_bitsAt_57 rfl (by decide) rfl rfl rfl ?_
              refine J_goto 5 dX4_bitsAt_60 (by decide) ?_
              exact ih5 (i + 1) (by omega) (by omega)  _ _ (by simp [bm, kcz1, kcz2, kcz3, kcz4]) rfl
            · refine J_iload_n dX4_bitsAt_50 rfl rfl ?_
              refine J_iconst (v := nI 1) dX4_bitsAt_51 (by decide) ?_
              refine J_iload dX4_bitsAt_52 rfl ?_
              refine J_shl1N dX4_bitsAt_54 (by omega) ?_
              refine J_iorN dX4_bitsAt_55 ?_
              refine J_istore_n [(0, .ref (r 2)), (1, .int (nI bits)), (2, .int (nI t)), (3, .int (nI ((bm (fun h => bits.testBit h && (hb h).testBit t) i) ||| (2 ^ i)))), (4, .int (nI i))] dX4_bitsAt_56 rfl (by decide) rfl rfl rfl ?_
              refine J_iincN [(0, .ref (r 2)), (1, .int (nI bits)), (2, .int (nI t)), (3, .int (nI ((bm (fun h => bits.testBit h && (hb h).testBit t) i) ||| (2 ^ i)))), (4, .int (nI (i + 1)))] dX4_bitsAt_57 rfl (by decide) rfl rfl rfl ?_
              refine J_goto 5 dX4_bitsAt_60 (by decide) ?_
              exact ih5 (i + 1) (by omega) (by omega)  _ _ (by simp [bm, kcz1, kcz2, kcz3, kcz4]) rfl
  exact L5 (n + 1) 0 (by omega) (by omega)  _ _ rfl rfl
theorem c_X4_bitsAt {G : GT} (r : Nat → Nat) (s : St) (l : Nat → Int64) (n : Nat) (hn : s 52 0 = nI n) (hn8 : n ≤ 8) (Hb : Nat → Int32) (hb : Nat → Nat) (hR : CHr n Hb hb s) (hk : HbOk n Hb hb) (bits t : Nat) (hbits : bits < 256) (ht : t < 24) : Ct G yX4_bitsAt cX4_bitsAt 5 (some .int) 0 0 1 [.ref (r 2), .int (nI bits), .int (nI t)] (cW G r s l) (Is (some (.int (nI (atB n hb bits t)))) (cW G r s l)) := Ct.of rfl (Nat.le_of_ble_eq_true rfl) (j_X4_bitsAt r s l n hn hn8 Hb hb hR hk bits t hbits ht (fun _ e => by subst e; exact Is.rf _ _))
set_option maxRecDepth 100000 in
set_option maxHeartbeats 1000000 in
theorem j_X4_choiceOf {G : GT} (r : Nat → Nat) (s : St) (l : Nat → Int64) (n : Nat) (hn : s 52 0 = nI n) (hn8 : n ≤ 8) (Hb : Nat → Int32) (hb : Nat → Nat) (hR : CHr n Hb hb s) (hk : HbOk n Hb hb) (may t : Nat) (hmay : may < 256) (ht : t < 24) {Q : Option Value → va_W → Prop} (hq : ∀ v_ : Int32, v_ = (chF Hb hb may t n).1 → Q (some (.int v_)) (cW G r s l)) : J G "choiceOf" RX4 cX4_choiceOf 7 (some .int) 0 0 1 Q 0 0 0 [(0, .ref (r 2)), (1, .int (nI may)), (2, .int (nI t))] [] (cW G r s l) := by
  refine J_iconst (v := -1) dX4_choiceOf_0 (by decide) ?_
  refine J_istore_n [(0, .ref (r 2)), (1, .int (nI may)), (2, .int (nI t)), (3, .int (-1))] dX4_choiceOf_1 rfl (by decide) rfl rfl rfl ?_
  refine J_iconst (v := -1) dX4_choiceOf_2 (by decide) ?_
  refine J_istore [(0, .ref (r 2)), (1, .int (nI may)), (2, .int (nI t)), (3, .int (-1)), (4, .int (-1))] dX4_choiceOf_3 (by decide) rfl rfl rfl ?_
  refine J_iconst (v := nI 0) dX4_choiceOf_5 (by decide) ?_
  refine J_istore [(0, .ref (r 2)), (1, .int (nI may)), (2, .int (nI t)), (3, .int (-1)), (4, .int (-1)), (5, .int (nI 0))] dX4_choiceOf_6 (by decide) rfl rfl rfl ?_
  have L8 : ∀ (f i : Nat), n - i < f → i ≤ n → ∀ (x3 : Int32) (x4 : Int32) (x5 : Int32), x3 = (chF Hb hb may t i).1 → x4 = (chF Hb hb may t i).2 → x5 = nI i → J G "choiceOf" RX4 cX4_choiceOf 7 (some .int) 0 0 1 Q 0 0 8 [(0, .ref (r 2)), (1, .int (nI may)), (2, .int (nI t)), (3, .int x3), (4, .int x4), (5, .int x5)] [] (cW G r s l) := by
    intro f
    induction f with
    | zero => intro i h; exact absurd h (Nat.not_lt_zero _)
    | succ f ih8 =>
      intro i hf8 hle8  x3 x4 x5 e3 e4 e5
      subst e3
      subst e4
      subst e5
      refine J_iload dX4_choiceOf_8 rfl ?_
      refine J_aload_n dX4_choiceOf_10 rfl rfl ?_
      refine Cg_2_0 fr_X4_12_4 dX4_choiceOf_11 ?_
      refine Cg_3_4 (s := s) fr_X4_40_2 (s 52 0) rfl dX4_choiceOf_14 ?_
      refine J_rw (y := nI n) hn ?_
      refine J_icmp_geN 101 (by omega) (by omega) dX4_choiceOf_17 (by decide) (fun kcz1 => ?_) (fun kcz1 => ?_)
      · refine J_iload_n dX4_choiceOf_101 rfl rfl ?_
        exact J_iret dX4_choiceOf_102 rfl rfl rfl (hq _ (by obtain rfl : i = n := (by omega); rfl))
      · refine J_iload dX4_choiceOf_20 rfl ?_
        refine J_bipush (v := nI 8) dX4_choiceOf_22 (by decide) ?_
        refine J_icmp_geN 101 (by omega) (by omega) dX4_choiceOf_24 (by decide) (fun kcz2 => ?_) (fun kcz2 => ?_)
        · refine J_iload_n dX4_choiceOf_101 rfl rfl ?_
          exact J_iret dX4_choiceOf_102 rfl rfl rfl (hq _ (by obtain rfl : i = n := (by omega); rfl))
        · refine J_iload_n dX4_choiceOf_27 rfl rfl ?_
          refine J_iload dX4_choiceOf_28 rfl ?_
          refine J_cNi [.int (nI may), .int (nI i)] mn_X4_44 (c_X11_hasBitN (cW G r s l) may i (by omega) (by omega)) rfl rfl (by decide) (Nat.le_of_ble_eq_true rfl) ⟨Nat.le_refl _, Nat.le_refl _⟩ dX4_choiceOf_30 ?_
          refine J_if_eqB 57 dX4_choiceOf_33 (by decide) (fun kcz3 => ?_) (fun kcz3 => ?_)
          · refine J_iconst (v := nI 0) dX4_choiceOf_57 (by decide) ?_
            refine J_istore [(0, .ref (r 2)), (1, .int (nI may)), (2, .int (nI t)), (3, .int ((chF Hb hb may t i).1)), (4, .int ((chF Hb hb may t i).2)), (5, .int (nI i)), (6, .int (nI 0))] dX4_choiceOf_58 (by decide) rfl rfl rfl ?_
            refine J_iload dX4_choiceOf_60 rfl ?_
            refine J_if_eq 95 dX4_choiceOf_62 (by decide) (fun _ => ?_) (fun c => absurd c (by decide))
            refine J_iincN [(0, .ref (r 2)), (1, .int (nI may)), (2, .int (nI t)), (3, .int ((chF Hb hb may t i).1)), (4, .int ((chF Hb hb may t i).2)), (5, .int (nI (i + 1))), (6, .int (nI 0))] dX4_choiceOf_95 rfl (by decide) rfl rfl rfl ?_
            refine J_goto 8 dX4_choiceOf_98 (by decide) ?_
            refine J_lv [0, 1, 2, 3, 4, 5] rfl ?_
            exact ih8 (i + 1) (by omega) (by omega)  _ _ _ (by simp [chF, kcz1, kcz2, kcz3]) (by simp [chF, kcz1, kcz2, kcz3]) rfl
          · refine J_aload_n dX4_choiceOf_36 rfl rfl ?_
            refine Cg_2_0 fr_X4_12_4 dX4_choiceOf_37 ?_
            refine Cg_3_11 fr_X4_48_2 dX4_choiceOf_40 ?_
            refine J_iload dX4_choiceOf_43 rfl ?_
            refine Cl_26 (s := s) (s 26) rfl i rfl (by omega) dX4_choiceOf_45 ?_
            refine J_rw (y := nI (hb i)) (hR i (by omega)).2.2.2 ?_
            refine J_iload_n dX4_choiceOf_46 rfl rfl ?_
            refine J_cNi [.int (nI (hb i)), .int (nI t)] mn_X4_44 (c_X11_hasBitN (cW G r s l) (hb i) t (Nat.lt_trans (hk i (by omega)).1 (by decide)) (by omega)) rfl rfl (by decide) (Nat.le_of_ble_eq_true rfl) ⟨Nat.le_refl _, Nat.le_refl _⟩ dX4_choiceOf_47 ?_
            refine J_if_eqB 57 dX4_choiceOf_50 (by decide) (fun kcz4 => ?_) (fun kcz4 => ?_)
            · refine J_iconst (v := nI 0) dX4_choiceOf_57 (by decide) ?_
              refine J_istore [(0, .ref (r 2)), (1, .int (nI may)), (2, .int (nI t)), (3, .int ((chF Hb hb may t i).1)), (4, .int ((chF Hb hb may t i).2)), (5, .int (nI i)), (6, .int (nI 0))] dX4_choiceOf_58 (by decide) rfl rfl rfl ?_
              refine J_iload dX4_choiceOf_60 rfl ?_
              refine J_if_eq 95 dX4_choiceOf_62 (by decide) (fun _ => ?_) (fun c => absurd c (by decide))
              refine J_iincN [(0, .ref (r 2)), (1, .int (nI may)), (2, .int (nI t)), (3, .int ((chF Hb hb may t i).1)), (4, .int ((chF Hb hb may t i).2)), (5, .int (nI (i + 1))), (6, .int (nI 0))] dX4_choiceOf_95 rfl (by decide) rfl rfl rfl ?_
              refine J_goto 8 dX4_choiceOf_98 (by decide) ?_
              refine J_lv [0, 1, 2, 3, 4, 5] rfl ?_
              exact ih8 (i + 1) (by omega) (by omega)  _ _ _ (by simp [chF, kcz1, kcz2, kcz3, kcz4]) (by simp [chF, kcz1, kcz2, kcz3, kcz4]) rfl
            · refine J_iconst (v := nI 1) dX4_choiceOf_53 (by decide) ?_
              refine J_goto 58 dX4_choiceOf_54 (by decide) ?_
              refine J_istore [(0, .ref (r 2)), (1, .int (nI may)), (2, .int (nI t)), (3, .int ((chF Hb hb may t i).1)), (4, .int ((chF Hb hb may t i).2)), (5, .int (nI i)), (6, .int (nI 1))] dX4_choiceOf_58 (by decide) rfl rfl rfl ?_
              refine J_iload dX4_choiceOf_60 rfl ?_
              refine J_if_eq 95 dX4_choiceOf_62 (by decide) (fun c => absurd c (by decide)) (fun _ => ?_)
              refine J_aload_n dX4_choiceOf_65 rfl rfl ?_
              refine Cg_2_0 fr_X4_12_4 dX4_choiceOf_66 ?_
              refine Cg_3_8 fr_X4_67_2 dX4_choiceOf_69 ?_
              refine J_iload dX4_choiceOf_72 rfl ?_
              refine Cl_23 (s := s) (s 23) rfl i rfl (by omega) dX4_choiceOf_74 ?_
              refine J_rw (y := Hb (5 * i + 2)) (hR i (by omega)).1 ?_
              refine J_iload dX4_choiceOf_75 rfl ?_
              refine J_icmp_le 95 dX4_choiceOf_77 (by decide) (fun kcz5 => ?_) (fun kcz5 => ?_)
              · refine J_iincN [(0, .ref (r 2)), (1, .int (nI may)), (2, .int (nI t)), (3, .int ((chF Hb hb may t i).1)), (4, .int ((chF Hb hb may t i).2)), (5, .int (nI (i + 1))), (6, .int (nI 1))] dX4_choiceOf_95 rfl (by decide) rfl rfl rfl ?_
                refine J_goto 8 dX4_choiceOf_98 (by decide) ?_
                refine J_lv [0, 1, 2, 3, 4, 5] rfl ?_
                exact ih8 (i + 1) (by omega) (by omega)  _ _ _ (by simp [chF, kcz1, kcz2, kcz3, kcz4, kcz5]) (by simp [chF, kcz1, kcz2, kcz3, kcz4, kcz5]) rfl
              · refine J_aload_n dX4_choiceOf_80 rfl rfl ?_
                refine Cg_2_0 fr_X4_12_4 dX4_choiceOf_81 ?_
                refine Cg_3_8 fr_X4_67_2 dX4_choiceOf_84 ?_
                refine J_iload dX4_choiceOf_87 rfl ?_
                refine Cl_23 (s := s) (s 23) rfl i rfl (by omega) dX4_choiceOf_89 ?_
                refine J_rw (y := Hb (5 * i + 2)) (hR i (by omega)).1 ?_
                refine J_istore [(0, .ref (r 2)), (1, .int (nI may)), (2, .int (nI t)), (3, .int ((chF Hb hb may t i).1)), (4, .int (Hb (5 * i + 2))), (5, .int (nI i)), (6, .int (nI 1))] dX4_choiceOf_90 (by decide) rfl rfl rfl ?_
                refine J_iload dX4_choiceOf_92 rfl ?_
                refine J_istore_n [(0, .ref (r 2)), (1, .int (nI may)), (2, .int (nI t)), (3, .int (nI i)), (4, .int (Hb (5 * i + 2))), (5, .int (nI i)), (6, .int (nI 1))] dX4_choiceOf_94 rfl (by decide) rfl rfl rfl ?_
                refine J_iincN [(0, .ref (r 2)), (1, .int (nI may)), (2, .int (nI t)), (3, .int (nI i)), (4, .int (Hb (5 * i + 2))), (5, .int (nI (i + 1))), (6, .int (nI 1))] dX4_choiceOf_95 rfl (by decide) rfl rfl rfl ?_
                refine J_goto 8 dX4_choiceOf_98 (by decide) ?_
                refine J_lv [0, 1, 2, 3, 4, 5] rfl ?_
                exact ih8 (i + 1) (by omega) (by omega)  _ _ _ (by simp [chF, kcz1, kcz2, kcz3, kcz4, kcz5]) (by simp [chF, kcz1, kcz2, kcz3, kcz4, kcz5]) rfl
  exact L8 (n + 1) 0 (by omega) (by omega)  _ _ _ rfl rfl rfl
theorem c_X4_choiceOf {G : GT} (r : Nat → Nat) (s : St) (l : Nat → Int64) (n : Nat) (hn : s 52 0 = nI n) (hn8 : n ≤ 8) (Hb : Nat → Int32) (hb : Nat → Nat) (hR : CHr n Hb hb s) (hk : HbOk n Hb hb) (may t : Nat) (hmay : may < 256) (ht : t < 24) : Ct G yX4_choiceOf cX4_choiceOf 7 (some .int) 0 0 1 [.ref (r 2), .int (nI may), .int (nI t)] (cW G r s l) (Is (some (.int ((chF Hb hb may t n).1))) (cW G r s l)) := Ct.of rfl (Nat.le_of_ble_eq_true rfl) (j_X4_choiceOf r s l n hn hn8 Hb hb hR hk may t hmay ht (fun _ e => by subst e; exact Is.rf _ _))
set_option maxRecDepth 100000 in
set_option maxHeartbeats 1000000 in
theorem j_X7_add {G : GT} (r : Nat → Nat) (s : St) (l : Nat → Int64) (rf : Nat) (hrf : s 60 0 = nI rf) (hlt : rf < 12) (e h : Int32) {Q : Option Value → va_W → Prop} (hq : ∀ v_ : Int32, v_ = bI true → Q (some (.int v_)) (cW G r (su 60 (su 38 (su 37 s (upd (s 37) rf e)) (upd (s 38) rf h)) (fun _ => nI (rf + 1))) l)) : J G "add" RX7 cX7_add 3 (some .boolean) 0 0 1 Q 0 0 0 [(0, .ref (r 6)), (1, .int e), (2, .int h)] [] (cW G r s l) := by
  refine J_aload_n dX7_add_0 rfl rfl ?_
  refine Cg_6_2 (s := s) fr_X7_18_6 (s 60 0) rfl dX7_add_1 ?_
  refine J_rw (y := nI rf) hrf ?_
  refine J_bipush (v := nI 12) dX7_add_4 (by decide) ?_
  refine J_cNi [.int (nI rf), .int (nI 12)] mn_X7_22 (c_X11_isBelowN (cW G r s l) (nI rf) 12) rfl rfl (by decide) (Nat.le_of_ble_eq_true rfl) ⟨Nat.le_refl _, Nat.le_refl _⟩ dX7_add_6 ?_
  refine J_if_neB 14 dX7_add_9 (by decide) (fun _ => ?_) (fun c => absurd c (by rw [(rng_of hlt (by decide))]; decide))
  refine J_aload_n dX7_add_14 rfl rfl ?_
  refine Cg_6_0 fr_X7_9_6 dX7_add_15 ?_
  refine J_aload_n dX7_add_18 rfl rfl ?_
  refine Cg_6_2 (s := s) fr_X7_18_6 (s 60 0) rfl dX7_add_19 ?_
  refine J_rw (y := nI rf) hrf ?_
  refine J_iload_n dX7_add_22 rfl rfl ?_
  refine Cs_37 (s := s) (s 37) rfl rf rfl (by omega) dX7_add_23 ?_
  refine J_aload_n dX7_add_24 rfl rfl ?_
  refine Cg_6_1 fr_X7_15_6 dX7_add_25 ?_
  refine J_aload_n dX7_add_28 rfl rfl ?_
  refine Cg_6_2 (s := (su 37 s (upd (s 37) rf e))) fr_X7_18_6 (s 60 0) rfl dX7_add_29 ?_
  refine J_rw (y := nI rf) hrf ?_
  refine J_iload_n dX7_add_32 rfl rfl ?_
  refine Cs_38 (s := (su 37 s (upd (s 37) rf e))) (s 38) rfl rf rfl (by omega) dX7_add_33 ?_
  refine J_aload_n dX7_add_34 rfl rfl ?_
  refine J_dup dX7_add_35 rfl ?_
  refine Cg_6_2 (s := (su 38 (su 37 s (upd (s 37) rf e)) (upd (s 38) rf h))) fr_X7_18_6 (s 60 0) rfl dX7_add_36 ?_
  refine J_rw (y := nI rf) hrf ?_
  refine J_iconst (v := nI 1) dX7_add_39 (by decide) ?_
  refine J_iaddN dX7_add_40 ?_
  refine Cp_6_2 fr_X7_18_6 dX7_add_41 ?_
  refine J_iconst (v := nI 1) dX7_add_44 (by decide) ?_
  exact J_zretB (b := true) dX7_add_45 rfl rfl rfl (hq _ rfl)
theorem c_X7_add {G : GT} (r : Nat → Nat) (s : St) (l : Nat → Int64) (rf : Nat) (hrf : s 60 0 = nI rf) (hlt : rf < 12) (e h : Int32) : Ct G yX7_add cX7_add 3 (some .boolean) 0 0 1 [.ref (r 6), .int e, .int h] (cW G r s l) (Is (some (.int (bI true))) (cW G r (su 60 (su 38 (su 37 s (upd (s 37) rf e)) (upd (s 38) rf h)) (fun _ => nI (rf + 1))) l)) := Ct.of rfl (Nat.le_of_ble_eq_true rfl) (j_X7_add r s l rf hrf hlt e h (fun _ e => by subst e; exact Is.rf _ _))
set_option maxRecDepth 100000 in
set_option maxHeartbeats 1000000 in
theorem j_X7_add_full {G : GT} (r : Nat → Nat) (s : St) (l : Nat → Int64) (rf : Nat) (hrf : s 60 0 = nI rf) (hlt : rf = 12) (e h : Int32) {Q : Option Value → va_W → Prop} (hq : ∀ v_ : Int32, v_ = bI false → Q (some (.int v_)) (cW G r s l)) : J G "add" RX7 cX7_add 3 (some .boolean) 0 0 1 Q 0 0 0 [(0, .ref (r 6)), (1, .int e), (2, .int h)] [] (cW G r s l) := by
  refine J_aload_n dX7_add_0 rfl rfl ?_
  refine Cg_6_2 (s := s) fr_X7_18_6 (s 60 0) rfl dX7_add_1 ?_
  refine J_rw (y := nI rf) hrf ?_
  refine J_bipush (v := nI 12) dX7_add_4 (by decide) ?_
  refine J_cNi [.int (nI rf), .int (nI 12)] mn_X7_22 (c_X11_isBelowN (cW G r s l) (nI rf) 12) rfl rfl (by decide) (Nat.le_of_ble_eq_true rfl) ⟨Nat.le_refl _, Nat.le_refl _⟩ dX7_add_6 ?_
  refine J_if_neB 14 dX7_add_9 (by decide) (fun c => absurd c (by rw [(show rng (nI rf) 12 = false by rw [hlt]; decide)]; decide)) (fun _ => ?_)
  refine J_iconst (v := nI 0) dX7_add_12 (by decide) ?_
  exact J_zretB (b := false) dX7_add_13 rfl rfl rfl (hq _ rfl)
theorem c_X7_add_full {G : GT} (r : Nat → Nat) (s : St) (l : Nat → Int64) (rf : Nat) (hrf : s 60 0 = nI rf) (hlt : rf = 12) (e h : Int32) : Ct G yX7_add cX7_add 3 (some .boolean) 0 0 1 [.ref (r 6), .int e, .int h] (cW G r s l) (Is (some (.int (bI false))) (cW G r s l)) := Ct.of rfl (Nat.le_of_ble_eq_true rfl) (j_X7_add_full r s l rf hrf hlt e h (fun _ e => by subst e; exact Is.rf _ _))
set_option maxRecDepth 100000 in
set_option maxHeartbeats 1000000 in
theorem j_X7_dropLast {G : GT} (r : Nat → Nat) (s : St) (l : Nat → Int64) (rf : Nat) (hrf : s 60 0 = nI rf) (hgt : 0 < rf) (hrf12 : rf ≤ 12) {Q : Option Value → va_W → Prop} (hq : ∀ v_ : Int32, v_ = bI true → Q (some (.int v_)) (cW G r (su 60 s (fun _ => nI (rf - 1))) l)) : J G "dropLast" RX7 cX7_dropLast 1 (some .boolean) 0 0 0 Q 0 0 0 [(0, .ref (r 6))] [] (cW G r s l) := by
  refine J_aload_n dX7_dropLast_0 rfl rfl ?_
  refine Cg_6_2 (s := s) fr_X7_18_6 (s 60 0) rfl dX7_dropLast_1 ?_
  refine J_rw (y := nI rf) hrf ?_
  refine J_if_gt 9 dX7_dropLast_4 (by decide) (fun _ => ?_) (fun c => absurd (cI_pos hgt (by omega)) c)
  refine J_aload_n dX7_dropLast_9 rfl rfl ?_
  refine J_dup dX7_dropLast_10 rfl ?_
  refine Cg_6_2 (s := s) fr_X7_18_6 (s 60 0) rfl dX7_dropLast_11 ?_
  refine J_rw (y := nI rf) hrf ?_
  refine J_iconst (v := nI 1) dX7_dropLast_14 (by decide) ?_
  refine J_isubN dX7_dropLast_15 (by omega) ?_
  refine Cp_6_2 fr_X7_18_6 dX7_dropLast_16 ?_
  refine J_iconst (v := nI 1) dX7_dropLast_19 (by decide) ?_
  exact J_zretB (b := true) dX7_dropLast_20 rfl rfl rfl (hq _ rfl)
theorem c_X7_dropLast {G : GT} (r : Nat → Nat) (s : St) (l : Nat → Int64) (rf : Nat) (hrf : s 60 0 = nI rf) (hgt : 0 < rf) (hrf12 : rf ≤ 12) : Ct G yX7_dropLast cX7_dropLast 1 (some .boolean) 0 0 0 [.ref (r 6)] (cW G r s l) (Is (some (.int (bI true))) (cW G r (su 60 s (fun _ => nI (rf - 1))) l)) := Ct.of rfl (Nat.le_of_ble_eq_true rfl) (j_X7_dropLast r s l rf hrf hgt hrf12 (fun _ e => by subst e; exact Is.rf _ _))
set_option maxRecDepth 100000 in
set_option maxHeartbeats 1000000 in
theorem j_X7_dropLast_none {G : GT} (r : Nat → Nat) (s : St) (l : Nat → Int64) (rf : Nat) (hrf : s 60 0 = nI rf) (hz : rf = 0) {Q : Option Value → va_W → Prop} (hq : ∀ v_ : Int32, v_ = bI false → Q (some (.int v_)) (cW G r s l)) : J G "dropLast" RX7 cX7_dropLast 1 (some .boolean) 0 0 0 Q 0 0 0 [(0, .ref (r 6))] [] (cW G r s l) := by
  refine J_aload_n dX7_dropLast_0 rfl rfl ?_
  refine Cg_6_2 (s := s) fr_X7_18_6 (s 60 0) rfl dX7_dropLast_1 ?_
  refine J_rw (y := nI rf) hrf ?_
  refine J_if_gt 9 dX7_dropLast_4 (by decide) (fun c => absurd c (by rw [hz]; decide)) (fun _ => ?_)
  refine J_iconst (v := nI 0) dX7_dropLast_7 (by decide) ?_
  exact J_zretB (b := false) dX7_dropLast_8 rfl rfl rfl (hq _ rfl)
theorem c_X7_dropLast_none {G : GT} (r : Nat → Nat) (s : St) (l : Nat → Int64) (rf : Nat) (hrf : s 60 0 = nI rf) (hz : rf = 0) : Ct G yX7_dropLast cX7_dropLast 1 (some .boolean) 0 0 0 [.ref (r 6)] (cW G r s l) (Is (some (.int (bI false))) (cW G r s l)) := Ct.of rfl (Nat.le_of_ble_eq_true rfl) (j_X7_dropLast_none r s l rf hrf hz (fun _ e => by subst e; exact Is.rf _ _))
set_option maxRecDepth 100000 in
set_option maxHeartbeats 1000000 in
theorem j_X7_bitsBy {G : GT} (r : Nat → Nat) (s : St) (l : Nat → Int64) (rf : Nat) (hrf : s 60 0 = nI rf) (hrf12 : rf ≤ 12) (Rf : Nat → Int32) (hRf : CRr rf Rf s) (q : Nat) (hq6 : q < 6) {Q : Option Value → va_W → Prop} (hq : ∀ v_ : Int32, v_ = nI (rbB Rf q rf) → Q (some (.int v_)) (cW G r s l)) : J G "bitsBy" RX7 cX7_bitsBy 4 (some .int) 0 0 0 Q 0 0 0 [(0, .ref (r 6)), (1, .int (nI q))] [] (cW G r s l) := by
  refine J_iconst (v := nI 0) dX7_bitsBy_0 (by decide) ?_
  refine J_istore_n [(0, .ref (r 6)), (1, .int (nI q)), (2, .int (nI 0))] dX7_bitsBy_1 rfl (by decide) rfl rfl rfl ?_
  refine J_iconst (v := nI 0) dX7_bitsBy_2 (by decide) ?_
  refine J_istore_n [(0, .ref (r 6)), (1, .int (nI q)), (2, .int (nI 0)), (3, .int (nI 0))] dX7_bitsBy_3 rfl (by decide) rfl rfl rfl ?_
  have L4 : ∀ (f i : Nat), rf - i < f → i ≤ rf → ∀ (x2 : Int32) (x3 : Int32), x2 = nI (rbB Rf q i) → x3 = nI i → J G "bitsBy" RX7 cX7_bitsBy 4 (some .int) 0 0 0 Q 0 0 4 [(0, .ref (r 6)), (1, .int (nI q)), (2, .int x2), (3, .int x3)] [] (cW G r s l) := by
    intro f
    induction f with
    | zero => intro i h; exact absurd h (Nat.not_lt_zero _)
    | succ f ih4 =>
      intro i hf4 hle4  x2 x3 e2 e3
      subst e2
      subst e3
      refine J_iload_n dX7_bitsBy_4 rfl rfl ?_
      refine J_aload_n dX7_bitsBy_5 rfl rfl ?_
      refine Cg_6_2 (s := s) fr_X7_18_6 (s 60 0) rfl dX7_bitsBy_6 ?_
      refine J_rw (y := nI rf) hrf ?_
      refine J_icmp_geN 45 (by omega) (by omega) dX7_bitsBy_9 (by decide) (fun kcz1 => ?_) (fun kcz1 => ?_)
      · refine J_iload_n dX7_bitsBy_45 rfl rfl ?_
        exact J_iret dX7_bitsBy_46 rfl rfl rfl (hq _ (by obtain rfl : i = rf := (by omega); rfl))
      · refine J_iload_n dX7_bitsBy_12 rfl rfl ?_
        refine J_bipush (v := nI 12) dX7_bitsBy_13 (by decide) ?_
        refine J_icmp_geN 45 (by omega) (by omega) dX7_bitsBy_15 (by decide) (fun kcz2 => ?_) (fun kcz2 => ?_)
        · refine J_iload_n dX7_bitsBy_45 rfl rfl ?_
          exact J_iret dX7_bitsBy_46 rfl rfl rfl (hq _ (by obtain rfl : i = rf := (by omega); rfl))
        · refine J_aload_n dX7_bitsBy_18 rfl rfl ?_
          refine Cg_6_0 fr_X7_9_6 dX7_bitsBy_19 ?_
          refine J_iload_n dX7_bitsBy_22 rfl rfl ?_
          refine Cl_37 (s := s) (s 37) rfl i rfl (by omega) dX7_bitsBy_23 ?_
          refine J_rw (y := Rf (2 * i)) (hRf i (by omega)).1 ?_
          refine J_iload_n dX7_bitsBy_24 rfl rfl ?_
          refine J_icmp_ne 39 dX7_bitsBy_25 (by decide) (fun kcz3 => ?_) (fun kcz3 => ?_)
          · refine J_iincN [(0, .ref (r 6)), (1, .int (nI q)), (2, .int (nI (rbB Rf q i))), (3, .int (nI (i + 1)))] dX7_bitsBy_39 rfl (by decide) rfl rfl rfl ?_
            refine J_goto 4 dX7_bitsBy_42 (by decide) ?_
            exact ih4 (i + 1) (by omega) (by omega)  _ _ (by simp [rbB, kcz1, kcz2, kcz3]) rfl
          · obtain ⟨h9, hh9, eh9⟩ := (hRf i (by omega)).2.2.2
            have ec9 : (nI h9).toNatClampNeg = h9 := nI_clamp (by omega)
            refine J_iload_n dX7_bitsBy_28 rfl rfl ?_
            refine J_iconst (v := nI 1) dX7_bitsBy_29 (by decide) ?_
            refine J_aload_n dX7_bitsBy_30 rfl rfl ?_
            refine Cg_6_1 fr_X7_15_6 dX7_bitsBy_31 ?_
            refine J_iload_n dX7_bitsBy_34 rfl rfl ?_
            refine Cl_38 (s := s) (s 38) rfl i rfl (by omega) dX7_bitsBy_35 ?_
            refine J_rw (y := nI h9) ((hRf i (by omega)).2.1.trans eh9) ?_
            refine J_shl1N dX7_bitsBy_36 (by omega) ?_
            refine J_iorN dX7_bitsBy_37 ?_
            refine J_istore_n [(0, .ref (r 6)), (1, .int (nI q)), (2, .int (nI ((rbB Rf q i) ||| (2 ^ h9)))), (3, .int (nI i))] dX7_bitsBy_38 rfl (by decide) rfl rfl rfl ?_
            refine J_iincN [(0, .ref (r 6)), (1, .int (nI q)), (2, .int (nI ((rbB Rf q i) ||| (2 ^ h9)))), (3, .int (nI (i + 1)))] dX7_bitsBy_39 rfl (by decide) rfl rfl rfl ?_
            refine J_goto 4 dX7_bitsBy_42 (by decide) ?_
            exact ih4 (i + 1) (by omega) (by omega)  _ _ (by simp [rbB, kcz1, kcz2, kcz3, eh9, ec9]) rfl
  exact L4 (rf + 1) 0 (by omega) (by omega)  _ _ rfl rfl
theorem c_X7_bitsBy {G : GT} (r : Nat → Nat) (s : St) (l : Nat → Int64) (rf : Nat) (hrf : s 60 0 = nI rf) (hrf12 : rf ≤ 12) (Rf : Nat → Int32) (hRf : CRr rf Rf s) (q : Nat) (hq6 : q < 6) : Ct G yX7_bitsBy cX7_bitsBy 4 (some .int) 0 0 0 [.ref (r 6), .int (nI q)] (cW G r s l) (Is (some (.int (nI (rbB Rf q rf)))) (cW G r s l)) := Ct.of rfl (Nat.le_of_ble_eq_true rfl) (j_X7_bitsBy r s l rf hrf hrf12 Rf hRf q hq6 (fun _ e => by subst e; exact Is.rf _ _))
