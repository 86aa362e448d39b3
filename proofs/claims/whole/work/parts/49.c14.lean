theorem row_00 {base nn : Nat} : RowO base nn 0 0 (fun _ => -1) := ⟨fun k hk => absurd hk (Nat.not_lt_zero _), fun _ _ _ => rfl⟩
theorem wf_0 {Hb : Nat → Int32} {nn : Nat} : ∀ k, k ≤ 0 → (fun _ : Nat => nI 0) (nn - k) = nI (WFk Hb nn k) := fun k hk => by
  obtain rfl : k = 0 := by omega
  rfl
theorem wf_st {Hb : Nat → Int32} {nn j : Nat} {y : Nat → Int32} (h : ∀ k, k ≤ j → y (nn - k) = nI (WFk Hb nn k)) (hj : j < nn) : ∀ k, k ≤ j + 1 → upd y (nn - 1 - j) (nI (WFk Hb nn (j + 1))) (nn - k) = nI (WFk Hb nn k) := fun k hk => by
  by_cases e : k = j + 1
  · rw [e, show nn - (j + 1) = nn - 1 - j by omega]; exact pk_us
  · rw [up_ne (by omega)]; exact h k (by omega)
theorem wf_all {Hb : Nat → Int32} {nn : Nat} {y : Nat → Int32} (h : ∀ k, k ≤ nn → y (nn - k) = nI (WFk Hb nn k)) : ∀ k, k ≤ nn → y k = nI (WFk Hb nn (nn - k)) := fun k hk => by
  have := h (nn - k) (by omega)
  rwa [show nn - (nn - k) = k by omega] at this
theorem op_all {lv : Nat → Nat → Bool} {hh nn : Nat} {l : Nat → Int64} (h : ∀ e, e < hh → ∀ k, k ≤ nn → l (e * 7 + (nn - k)) = lN (opN lv nn e k)) : ∀ q, q < hh → ∀ k, k ≤ nn → l (q * 7 + k) = lN (opN lv nn q (nn - k)) := fun q hq k hk => by
  have := h q hq (nn - k) (by omega)
  rwa [show nn - (nn - k) = k by omega] at this
theorem op_nx {lv : Nat → Nat → Bool} {q nn : Nat} {l l3 : Nat → Int64} (h : ∀ e, e < q → ∀ k, k ≤ nn → l (e * 7 + (nn - k)) = lN (opN lv nn e k)) (h6 : nn ≤ 6) (ho : ∀ k, k ≤ nn → l3 (q * 7 + (nn - k)) = lN (opN lv nn q k)) (hp : ∀ x, (x < q * 7 ∨ q * 7 + 7 ≤ x) → l3 x = l x) : ∀ e, e < q + 1 → ∀ k, k ≤ nn → l3 (e * 7 + (nn - k)) = lN (opN lv nn e k) := fun e he k hk => by
  by_cases c : e = q
  · rw [c]; exact ho k hk
  · rw [hp _ (Or.inl (by omega))]; exact h e (by omega) k hk
theorem wB_pow {n : Nat} {Hb : Nat → Int32} {hb : Nat → Nat} (hk : HbOk n Hb hb) (hn8 : n ≤ 8) {k : Nat} (h : k < n) : wB n Hb (2 ^ k) = nI (wN Hb k) := by
  rw [← (wN_eq hk h).1]
  unfold wB
  have h0 : ∀ i, i ≤ k → smI (fun h => if (2 ^ k).testBit h = true then Hb (5 * h + 2) else nI 0) i = nI 0 := by
    intro i
    induction i with
    | zero => intro _; rfl
    | succ i ih => intro hi; rw [smI, ih (by omega)]; simp only [Nat.testBit_two_pow]; rw [if_neg (by simp; omega)]; rfl
  have h1 : ∀ i, smI (fun h => if (2 ^ k).testBit h = true then Hb (5 * h + 2) else nI 0) (k + 1 + i) = Hb (5 * k + 2) := by
    intro i
    induction i with
    | zero => show smI _ (k + 1) = _; rw [smI, h0 k (Nat.le_refl _)]; simp only [Nat.testBit_two_pow]; rw [if_pos (by simp)]; exact Int32.zero_add _
    | succ i ih => show smI _ (k + 1 + i + 1) = _; rw [smI, ih]; simp only [Nat.testBit_two_pow]; rw [if_neg (by simp; omega)]; exact Int32.add_zero _
  have := h1 (n - k - 1)
  rwa [show k + 1 + (n - k - 1) = n by omega] at this

set_option maxRecDepth 100000 in
set_option maxHeartbeats 1000000 in
theorem j_X6_find {G : GT} (r : Nat → Nat) (s : St) (l : Nat → Int64) (n : Nat) (hn : s 52 0 = nI n) (hn8 : n ≤ 8) (Hb : Nat → Int32) (hb : Nat → Nat) (hR : CHr n Hb hb s) (hk : HbOk n Hb hb) (m : Nat) (hm : s 55 0 = nI m) (hm6 : m ≤ 6) (He : Nat → Int32) (aw : Nat → Nat) (hE : CEr m He aw s) (ha : AwOk m He aw) (nn : Nat) (enn : nn = min n 6) (hh : Nat) (ehh : hh = min m 4) (hkn : s 66 0 = nI 0) {Q : Option Value → va_W → Prop} (hq : ∀ (w_ : va_W) (y45 y46 y48 y65 : Nat → Int32) (l2 : Nat → Int64), w_ = cW G r (su 66 (su 65 (su 64 (su 63 (su 48 (su 47 (su 46 (su 45 s y45) y46) (fun _ => nI 0)) y48) (fun _ => nI nn)) (fun _ => nI hh)) y65) (fun _ => nI 1)) l2 → y65 0 = (bsR n nn hh Hb He (0 * (hh + 1) ^ (nn - 0)) ((hh + 1) ^ (nn - 0)) (-1, nI 0)).1 → KPo (hh + 1) nn (bsR n nn hh Hb He (0 * (hh + 1) ^ (nn - 0)) ((hh + 1) ^ (nn - 0)) (-1, nI 0)) y46 → Q none w_) : J G "find" RX6 cX6_find 3 none 0 0 9 Q 0 0 0 [(0, .ref (r 9)), (1, .ref (r 2))] [] (cW G r s l) := by
  refine J_aload_n dX6_find_0 rfl rfl ?_
  refine Cg_9_8 (s := s) fr_X6_38_5 (s 66 0) rfl dX6_find_1 ?_
  refine J_rw (y := nI 0) hkn ?_
  refine J_if_eq 8 dX6_find_4 (by decide) (fun _ => ?_) (fun c => absurd c (by decide))
  refine J_aload_n dX6_find_8 rfl rfl ?_
  refine J_aload_n dX6_find_9 rfl rfl ?_
  refine Cg_2_0 fr_X6_42_4 dX6_find_10 ?_
  refine Cg_3_4 (s := s) fr_X6_47_2 (s 52 0) rfl dX6_find_13 ?_
  refine J_rw (y := nI n) hn ?_
  refine J_bipush (v := nI 6) dX6_find_16 (by decide) ?_
  refine J_mmin ms_X6_52 (by omega) (by omega) (by omega) (Nat.le_of_ble_eq_true rfl) ⟨Nat.le_refl _, Nat.le_refl _⟩ dX6_find_18 ?_
  refine J_rw (y := nI nn) (congrArg nI enn.symm) ?_
  refine Cp_9_5 fr_X6_28_5 dX6_find_21 ?_
  refine J_aload_n dX6_find_24 rfl rfl ?_
  refine J_aload_n dX6_find_25 rfl rfl ?_
  refine Cg_2_1 fr_X6_58_4 dX6_find_26 ?_
  refine Cg_4_4 (s := (su 63 s (fun _ => nI nn))) fr_X6_61_3 (s 55 0) rfl dX6_find_29 ?_
  refine J_rw (y := nI m) hm ?_
  refine J_iconst (v := nI 4) dX6_find_32 (by decide) ?_
  refine J_mmin ms_X6_52 (by omega) (by omega) (by omega) (Nat.le_of_ble_eq_true rfl) ⟨Nat.le_refl _, Nat.le_refl _⟩ dX6_find_33 ?_
  refine J_rw (y := nI hh) (congrArg nI ehh.symm) ?_
  refine Cp_9_6 fr_X6_32_5 dX6_find_36 ?_
  refine J_aload_n dX6_find_39 rfl rfl ?_
  refine J_iconst (v := -1) dX6_find_40 (by decide) ?_
  refine Cp_9_7 fr_X6_35_5 dX6_find_41 ?_
  refine J_aload_n dX6_find_44 rfl rfl ?_
  refine Cg_9_0 fr_X6_11_5 dX6_find_45 ?_
  refine J_iconst (v := -1) dX6_find_48 (by decide) ?_
  refine J_cSv [.ref (r 45), .int (-1)] ms_X6_64 (c_fill (cW G r (su 65 (su 64 (su 63 s (fun _ => nI nn)) (fun _ => nI hh)) (fun _ => (-1))) l) 44 (r 45) 6 _ (-1) rfl (by decide)) rfl rfl (by decide) (Nat.le_of_ble_eq_true rfl) ⟨Nat.le_refl _, Nat.le_refl _⟩ dX6_find_49 ?_
  show J G "find" RX6 cX6_find 3 none 0 0 9 Q 0 0 52 [(0, .ref (r 9)), (1, .ref (r 2))] [] (cW G r (su 45 (su 65 (su 64 (su 63 s (fun _ => nI nn)) (fun _ => nI hh)) (fun _ => (-1))) (fun _ => (-1))) l)
  refine J_ws (ws2 := (cW G r (su 65 (su 64 (su 63 (su 45 s (fun _ => (-1))) (fun _ => nI nn)) (fun _ => nI hh)) (fun _ => (-1))) l)) (congrArg (fun q_ => cW G r q_ l) ((su_sw (by decide)).trans (su_cg ((su_sw (by decide)).trans (su_cg (su_sw (by decide))))))) ?_
  refine J_aload_n dX6_find_52 rfl rfl ?_
  refine Cg_9_1 fr_X6_15_5 dX6_find_53 ?_
  refine J_iconst (v := -1) dX6_find_56 (by decide) ?_
  refine J_cSv [.ref (r 46), .int (-1)] ms_X6_64 (c_fill (cW G r (su 65 (su 64 (su 63 (su 45 s (fun _ => (-1))) (fun _ => nI nn)) (fun _ => nI hh)) (fun _ => (-1))) l) 45 (r 46) 6 _ (-1) rfl (by decide)) rfl rfl (by decide) (Nat.le_of_ble_eq_true rfl) ⟨Nat.le_refl _, Nat.le_refl _⟩ dX6_find_57 ?_
  show J G "find" RX6 cX6_find 3 none 0 0 9 Q 0 0 60 [(0, .ref (r 9)), (1, .ref (r 2))] [] (cW G r (su 46 (su 65 (su 64 (su 63 (su 45 s (fun _ => (-1))) (fun _ => nI nn)) (fun _ => nI hh)) (fun _ => (-1))) (fun _ => (-1))) l)
  refine J_ws (ws2 := (cW G r (su 65 (su 64 (su 63 (su 46 (su 45 s (fun _ => (-1))) (fun _ => (-1))) (fun _ => nI nn)) (fun _ => nI hh)) (fun _ => (-1))) l)) (congrArg (fun q_ => cW G r q_ l) ((su_sw (by decide)).trans (su_cg ((su_sw (by decide)).trans (su_cg (su_sw (by decide))))))) ?_
  refine J_aload_n dX6_find_60 rfl rfl ?_
  refine Cg_9_2 fr_X6_18_5 dX6_find_61 ?_
  refine J_iconst (v := nI 0) dX6_find_64 (by decide) ?_
  refine J_cSv [.ref (r 47), .int (nI 0)] ms_X6_64 (c_fill (cW G r (su 65 (su 64 (su 63 (su 46 (su 45 s (fun _ => (-1))) (fun _ => (-1))) (fun _ => nI nn)) (fun _ => nI hh)) (fun _ => (-1))) l) 46 (r 47) 4 _ (nI 0) rfl (by decide)) rfl rfl (by decide) (Nat.le_of_ble_eq_true rfl) ⟨Nat.le_refl _, Nat.le_refl _⟩ dX6_find_65 ?_
  show J G "find" RX6 cX6_find 3 none 0 0 9 Q 0 0 68 [(0, .ref (r 9)), (1, .ref (r 2))] [] (cW G r (su 47 (su 65 (su 64 (su 63 (su 46 (su 45 s (fun _ => (-1))) (fun _ => (-1))) (fun _ => nI nn)) (fun _ => nI hh)) (fun _ => (-1))) (fun _ => nI 0)) l)
  refine J_ws (ws2 := (cW G r (su 65 (su 64 (su 63 (su 47 (su 46 (su 45 s (fun _ => (-1))) (fun _ => (-1))) (fun _ => nI 0)) (fun _ => nI nn)) (fun _ => nI hh)) (fun _ => (-1))) l)) (congrArg (fun q_ => cW G r q_ l) ((su_sw (by decide)).trans (su_cg ((su_sw (by decide)).trans (su_cg (su_sw (by decide))))))) ?_
  refine J_aload_n dX6_find_68 rfl rfl ?_
  refine Cg_9_3 fr_X6_21_5 dX6_find_69 ?_
  refine J_iconst (v := nI 0) dX6_find_72 (by decide) ?_
  refine J_cSv [.ref (r 48), .int (nI 0)] ms_X6_64 (c_fill (cW G r (su 65 (su 64 (su 63 (su 47 (su 46 (su 45 s (fun _ => (-1))) (fun _ => (-1))) (fun _ => nI 0)) (fun _ => nI nn)) (fun _ => nI hh)) (fun _ => (-1))) l) 47 (r 48) 7 _ (nI 0) rfl (by decide)) rfl rfl (by decide) (Nat.le_of_ble_eq_true rfl) ⟨Nat.le_refl _, Nat.le_refl _⟩ dX6_find_73 ?_
  show J G "find" RX6 cX6_find 3 none 0 0 9 Q 0 0 76 [(0, .ref (r 9)), (1, .ref (r 2))] [] (cW G r (su 48 (su 65 (su 64 (su 63 (su 47 (su 46 (su 45 s (fun _ => (-1))) (fun _ => (-1))) (fun _ => nI 0)) (fun _ => nI nn)) (fun _ => nI hh)) (fun _ => (-1))) (fun _ => nI 0)) l)
  refine J_ws (ws2 := (cW G r (su 65 (su 64 (su 63 (su 48 (su 47 (su 46 (su 45 s (fun _ => (-1))) (fun _ => (-1))) (fun _ => nI 0)) (fun _ => nI 0)) (fun _ => nI nn)) (fun _ => nI hh)) (fun _ => (-1))) l)) (congrArg (fun q_ => cW G r q_ l) ((su_sw (by decide)).trans (su_cg ((su_sw (by decide)).trans (su_cg (su_sw (by decide))))))) ?_
  refine J_aload_n dX6_find_76 rfl rfl ?_
  refine Cg_9_5 (s := (su 65 (su 64 (su 63 (su 48 (su 47 (su 46 (su 45 s (fun _ => (-1))) (fun _ => (-1))) (fun _ => nI 0)) (fun _ => nI 0)) (fun _ => nI nn)) (fun _ => nI hh)) (fun _ => (-1)))) fr_X6_28_5 (nI nn) rfl dX6_find_77 ?_
  refine J_iconst (v := nI 1) dX6_find_80 (by decide) ?_
  refine J_isub dX6_find_81 ?_
  refine J_istore_n [(0, .ref (r 9)), (1, .ref (r 2)), (2, .int ((nI nn) - (nI 1)))] dX6_find_82 rfl (by decide) rfl rfl rfl ?_
  have L83 : ∀ (f j : Nat) (y48 : Nat → Int32), nn - j < f → j ≤ nn → (∀ k, k ≤ j → y48 (nn - k) = nI (WFk Hb nn k)) → ∀ (x2 : Int32), x2 = nI (nn - j) - nI 1 → J G "find" RX6 cX6_find 3 none 0 0 9 Q 0 0 83 [(0, .ref (r 9)), (1, .ref (r 2)), (2, .int x2)] [] (cW G r (su 65 (su 64 (su 63 (su 48 (su 47 (su 46 (su 45 s (fun _ => (-1))) (fun _ => (-1))) (fun _ => nI 0)) y48) (fun _ => nI nn)) (fun _ => nI hh)) (fun _ => (-1))) l) := by
    intro f
    induction f with
    | zero => intro j y48 h; exact absurd h (Nat.not_lt_zero _)
    | succ f ih83 =>
      intro j y48 hf83 hle83 hwf x2 e2
      subst e2
      by_cases ksz1 : nn - j = 0
      · refine J_iload_n dX6_find_83 rfl rfl ?_
        have hz9 : nI (nn - j) - nI 1 < 0 := by rw [ksz1]; decide
        refine J_if_lt 115 dX6_find_84 (by decide) (fun _ => ?_) (fun c => absurd hz9 c)
        refine J_iconst (v := nI 0) dX6_find_115 (by decide) ?_
        refine J_istore_n [(0, .ref (r 9)), (1, .ref (r 2)), (2, .int (nI 0))] dX6_find_116 rfl (by decide) rfl rfl rfl ?_
        have L117 : ∀ (f q : Nat) (l2 : Nat → Int64), hh - q < f → q ≤ hh → (∀ e, e < q → ∀ k, k ≤ nn → l2 (e * 7 + (nn - k)) = lN (opN (lvB n Hb hb He aw) nn e k)) → ∀ (x2 : Int32), x2 = nI q → J G "find" RX6 cX6_find 3 none 0 0 9 Q 0 0 117 [(0, .ref (r 9)), (1, .ref (r 2)), (2, .int x2)] [] (cW G r (su 65 (su 64 (su 63 (su 48 (su 47 (su 46 (su 45 s (fun _ => (-1))) (fun _ => (-1))) (fun _ => nI 0)) y48) (fun _ => nI nn)) (fun _ => nI hh)) (fun _ => (-1))) l2) := by
          intro f
          induction f with
          | zero => intro q l2 h; exact absurd h (Nat.not_lt_zero _)
          | succ f ih117 =>
            intro q l2 hf117 hle117 hop x2 e2
            subst e2
            refine J_iload_n dX6_find_117 rfl rfl ?_
            refine J_aload_n dX6_find_118 rfl rfl ?_
            refine Cg_9_6 (s := (su 65 (su 64 (su 63 (su 48 (su 47 (su 46 (su 45 s (fun _ => (-1))) (fun _ => (-1))) (fun _ => nI 0)) y48) (fun _ => nI nn)) (fun _ => nI hh)) (fun _ => (-1)))) fr_X6_32_5 (nI hh) rfl dX6_find_119 ?_
            refine J_icmp_geN 137 (by omega) (by omega) dX6_find_122 (by decide) (fun kcz2 => ?_) (fun kcz2 => ?_)
            · obtain rfl : hh = q := (by omega)
              obtain rfl : nn = j := (by omega)
              refine J_aload_n dX6_find_137 rfl rfl ?_
              refine J_aload_n dX6_find_138 rfl rfl ?_
              refine J_iconst (v := nI 0) dX6_find_139 (by decide) ?_
              refine J_iconst (v := nI 0) dX6_find_140 (by decide) ?_
              refine J_rw (y := nI (WS Hb (hh + 1) 0 0)) rfl ?_
              refine J_callS (wr := []) (As := [.ref (r 9), .ref (r 2), .int (nI 0), .int (nI (WS Hb (hh + 1) 0 0))]) (st := []) ms_X6_78 (c_X6_place0 r (su 65 (su 64 (su 63 (su 48 (su 47 (su 46 (su 45 s (fun _ => (-1))) (fun _ => (-1))) (fun _ => nI 0)) y48) (fun _ => nI nn)) (fun _ => nI hh)) (fun _ => (-1))) l2 n hn hn8 Hb hb hR hk m hm6 He aw ha nn rfl (by omega) (by omega) hh rfl (by omega) (by omega) 0 (-1, nI 0) rfl (Or.inl rfl) row_00 (fun q hq => rfl) (wf_all hwf) (op_all hop) (Nat.zero_le _) Nat.one_pos) rfl rfl rfl (by decide) (Nat.le_of_ble_eq_true rfl) ⟨Nat.le_refl _, Nat.le_refl _⟩ dX6_find_141 (fun v_ w_ h_ => ?_)
              obtain ⟨x45, x46, x65, rfl, rfl, hr9, hm9, hk9⟩ := h_
              show J G "find" RX6 cX6_find 3 none 0 0 9 Q 0 0 144 [(0, .ref (r 9)), (1, .ref (r 2)), (2, .int (nI hh))] [] (cW G r (su 65 (su 46 (su 45 (su 65 (su 64 (su 63 (su 48 (su 47 (su 46 (su 45 s (fun _ => (-1))) (fun _ => (-1))) (fun _ => nI 0)) y48) (fun _ => nI nn)) (fun _ => nI hh)) (fun _ => (-1))) x45) x46) x65) l2)
              refine J_ws (ws2 := (cW G r (su 65 (su 64 (su 63 (su 48 (su 47 (su 46 (su 45 s x45) x46) (fun _ => nI 0)) y48) (fun _ => nI nn)) (fun _ => nI hh)) x65) l2)) (congrArg (fun q_ => cW G r q_ l2) (Eq.trans (Eq.trans (su_cg (su_cg ((su_sw (by decide)).trans (su_cg ((su_sw (by decide)).trans (su_cg ((su_sw (by decide)).trans (su_cg ((su_sw (by decide)).trans (su_cg ((su_sw (by decide)).trans (su_cg ((su_sw (by decide)).trans (su_cg su_tw)))))))))))))) (su_cg ((su_sw (by decide)).trans (su_cg ((su_sw (by decide)).trans (su_cg ((su_sw (by decide)).trans (su_cg ((su_sw (by decide)).trans (su_cg ((su_sw (by decide)).trans (su_cg su_tw)))))))))))) su_tw)) ?_
              refine J_aload_n dX6_find_144 rfl rfl ?_
              refine J_iconst (v := nI 1) dX6_find_145 (by decide) ?_
              refine Cp_9_8 (by decide) (by decide) fr_X6_38_5 dX6_find_146 ?_
              exact J_vret dX6_find_149 rfl rfl rfl (hq _ x45 x46 y48 x65 l2 rfl hm9 hk9)
            · refine J_aload_n dX6_find_125 rfl rfl ?_
              refine J_aload_n dX6_find_126 rfl rfl ?_
              refine J_iload_n dX6_find_127 rfl rfl ?_
              refine J_callV (wr := []) (As := [.ref (r 2), .int (nI q)]) (st := []) 9 mv_X6_74 (c_X6_openSetsOf r (su 65 (su 64 (su 63 (su 48 (su 47 (su 46 (su 45 s (fun _ => (-1))) (fun _ => (-1))) (fun _ => nI 0)) y48) (fun _ => nI nn)) (fun _ => nI hh)) (fun _ => (-1))) l2 n hn hn8 Hb hb hR hk m hm hm6 He aw hE ha nn rfl (by omega) (by omega) q (by omega) (by omega)) cW_9 rfl rfl rfl (by decide) (Nat.le_of_ble_eq_true rfl) ⟨Nat.le_refl _, Nat.le_refl _⟩ dX6_find_128 (fun v_ w_ h_ => ?_)
              obtain ⟨l3, rfl, rfl, ho3, hp3⟩ := h_
              show J G "find" RX6 cX6_find 3 none 0 0 9 Q 0 0 131 [(0, .ref (r 9)), (1, .ref (r 2)), (2, .int (nI q))] [] (cW G r (su 65 (su 64 (su 63 (su 48 (su 47 (su 46 (su 45 s (fun _ => (-1))) (fun _ => (-1))) (fun _ => nI 0)) y48) (fun _ => nI nn)) (fun _ => nI hh)) (fun _ => (-1))) l3)
              refine J_iincN [(0, .ref (r 9)), (1, .ref (r 2)), (2, .int (nI (q + 1)))] dX6_find_131 rfl (by decide) rfl rfl rfl ?_
              refine J_goto 117 dX6_find_134 (by decide) ?_
              exact ih117 (q + 1) l3 (by omega) (by omega) (op_nx hop (by omega) ho3 hp3) _ rfl
        exact L117 (hh + 1) 0 l (by omega) (by omega) (fun e he => absurd he (Nat.not_lt_zero _)) _ rfl
      · refine J_iload_n dX6_find_83 rfl rfl ?_
        have hs9 : nI (nn - j) - nI 1 = nI (nn - 1 - j) := by rw [pk_sub (by omega)]; congr 1; omega
        rw [hs9]
        have hn9 : ¬ nI (nn - 1 - j) < 0 := cI_nlt (by omega)
        have hw9 : 2 ^ (nn - 1 - j) < 256 := Nat.lt_of_le_of_lt (Nat.pow_le_pow_right (by decide) (show nn - 1 - j ≤ 5 by omega)) (by decide)
        have hFl := WFk_le hk (show nn ≤ n by omega) j (by omega)
        refine J_if_lt 115 dX6_find_84 (by decide) (fun c => absurd c hn9) (fun _ => ?_)
        refine J_aload_n dX6_find_87 rfl rfl ?_
        refine Cg_9_3 fr_X6_21_5 dX6_find_88 ?_
        refine J_iload_n dX6_find_91 rfl rfl ?_
        refine J_aload_n dX6_find_92 rfl rfl ?_
        refine Cg_9_3 fr_X6_21_5 dX6_find_93 ?_
        refine J_iload_n dX6_find_96 rfl rfl ?_
        refine J_iconst (v := nI 1) dX6_find_97 (by decide) ?_
        refine J_iaddN dX6_find_98 ?_
        refine J_rw (y := nI (nn - j)) (congrArg nI (by omega)) ?_
        refine Cl_48 (s := (su 65 (su 64 (su 63 (su 48 (su 47 (su 46 (su 45 s (fun _ => (-1))) (fun _ => (-1))) (fun _ => nI 0)) y48) (fun _ => nI nn)) (fun _ => nI hh)) (fun _ => (-1)))) y48 rfl (nn - j) rfl (by omega) dX6_find_99 ?_
        refine J_rw (y := nI (WFk Hb nn j)) (hwf j (Nat.le_refl _)) ?_
        refine J_aload_n dX6_find_100 rfl rfl ?_
        refine J_iconst (v := nI 1) dX6_find_101 (by decide) ?_
        refine J_iload_n dX6_find_102 rfl rfl ?_
        refine J_shl1N dX6_find_103 (by omega) ?_
        refine J_cVi (x := yX12_in) [.int (nI (2 ^ (nn - 1 - j)))] 2 mv_X6_70 (c_X4_worthOf r (su 65 (su 64 (su 63 (su 48 (su 47 (su 46 (su 45 s (fun _ => (-1))) (fun _ => (-1))) (fun _ => nI 0)) y48) (fun _ => nI nn)) (fun _ => nI hh)) (fun _ => (-1))) l n hn hn8 Hb hb hR hk (2 ^ (nn - 1 - j)) hw9) cW_2 rfl rfl (by decide) (Nat.le_of_ble_eq_true rfl) ⟨Nat.le_refl _, Nat.le_refl _⟩ dX6_find_104 ?_
        refine J_rw (y := nI (wN Hb (nn - 1 - j))) (wB_pow hk hn8 (by omega)) ?_
        refine J_iaddN dX6_find_107 ?_
        refine J_rw (y := nI (WFk Hb nn (j + 1))) rfl ?_
        refine Cs_48 (s := (su 65 (su 64 (su 63 (su 48 (su 47 (su 46 (su 45 s (fun _ => (-1))) (fun _ => (-1))) (fun _ => nI 0)) y48) (fun _ => nI nn)) (fun _ => nI hh)) (fun _ => (-1)))) y48 rfl (nn - 1 - j) rfl (by omega) dX6_find_108 ?_
        refine J_ws (ws2 := (cW G r (su 65 (su 64 (su 63 (su 48 (su 47 (su 46 (su 45 s (fun _ => (-1))) (fun _ => (-1))) (fun _ => nI 0)) (upd y48 (nn - 1 - j) (nI (WFk Hb nn (j + 1))))) (fun _ => nI nn)) (fun _ => nI hh)) (fun _ => (-1))) l)) (congrArg (fun q_ => cW G r q_ l) ((su_sw (by decide)).trans (su_cg ((su_sw (by decide)).trans (su_cg ((su_sw (by decide)).trans (su_cg su_tw))))))) ?_
        refine J_iinc [(0, .ref (r 9)), (1, .ref (r 2)), (2, .int ((nI (nn - 1 - j)) + (-1)))] dX6_find_109 rfl rfl (by decide) rfl rfl rfl ?_
        refine J_goto 83 dX6_find_112 (by decide) ?_
        exact ih83 (j + 1) (upd y48 (nn - 1 - j) (nI (WFk Hb nn (j + 1)))) (by omega) (by omega) (wf_st hwf (by omega)) _ (ly_dec (by omega))
  exact L83 (nn + 1) 0 (fun _ => nI 0) (by omega) (by omega) wf_0 _ rfl
theorem c_X6_find {G : GT} (r : Nat → Nat) (s : St) (l : Nat → Int64) (n : Nat) (hn : s 52 0 = nI n) (hn8 : n ≤ 8) (Hb : Nat → Int32) (hb : Nat → Nat) (hR : CHr n Hb hb s) (hk : HbOk n Hb hb) (m : Nat) (hm : s 55 0 = nI m) (hm6 : m ≤ 6) (He : Nat → Int32) (aw : Nat → Nat) (hE : CEr m He aw s) (ha : AwOk m He aw) (nn : Nat) (enn : nn = min n 6) (hh : Nat) (ehh : hh = min m 4) (hkn : s 66 0 = nI 0) : Ct G yX6_find cX6_find 3 none 0 0 9 [.ref (r 9), .ref (r 2)] (cW G r s l) (fun v w => ∃ (y45 y46 y48 y65 : Nat → Int32) (l2 : Nat → Int64), v = none ∧ w = cW G r (su 66 (su 65 (su 64 (su 63 (su 48 (su 47 (su 46 (su 45 s y45) y46) (fun _ => nI 0)) y48) (fun _ => nI nn)) (fun _ => nI hh)) y65) (fun _ => nI 1)) l2 ∧ y65 0 = (bsR n nn hh Hb He (0 * (hh + 1) ^ (nn - 0)) ((hh + 1) ^ (nn - 0)) (-1, nI 0)).1 ∧ KPo (hh + 1) nn (bsR n nn hh Hb He (0 * (hh + 1) ^ (nn - 0)) ((hh + 1) ^ (nn - 0)) (-1, nI 0)) y46) := Ct.of rfl (Nat.le_of_ble_eq_true rfl) (j_X6_find r s l n hn hn8 Hb hb hR hk m hm hm6 He aw hE ha nn enn hh ehh hkn (fun w_ y45 y46 y48 y65 l2 h1 h2 h3 => ⟨y45, y46, y48, y65, l2, rfl, h1, h2, h3⟩))
