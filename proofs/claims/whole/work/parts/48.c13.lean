def RowO (base nn pc h : Nat) (y : Nat → Int32) : Prop := (∀ k, k < h → y k = lyV base pc (h - 1 - k)) ∧ ∀ k, nn ≤ k → k < 6 → y k = -1
def KPo (base nn : Nat) (st : Int32 × Int32) (kp : Nat → Int32) : Prop := st.1 = -1 ∨ ∃ c, st.2 = nI c ∧ c < 2 ^ 31 ∧ ∀ k, k < 6 → kp k = lyW base c nn k
theorem all_ex {P : Nat → Bool} {n : Nat} (h : allB P n = false) : ∃ q, q < n ∧ P q = false := by
  unfold allB at h
  have h1 : anyB (fun k => !P k) n = true := by simpa using h
  obtain ⟨q, hq, h2⟩ := anyB_iff.mp h1
  exact ⟨q, hq, by simpa using h2⟩
theorem rg_div {pc b c : Nat} (h1 : pc * b ≤ c) (h2 : c < pc * b + b) : c / b = pc := Nat.div_eq_of_lt_le h1 (by rw [Nat.succ_mul]; exact h2)
theorem row_che {base nn pc h e : Nat} {y : Nat → Int32} (hy : RowO base nn pc h y) (hh : h < nn) (he : e + 1 < base := by omega) : RowO base nn (pc * base + e) (h + 1) (upd y h (nI e)) := by
  refine ⟨fun k hk => ?_, fun k hk hk6 => (up_ne (by omega)).trans (hy.2 k hk hk6)⟩
  by_cases e1 : k = h
  · rw [e1, pk_us, show h + 1 - 1 - h = 0 by omega, lyV_ch0 (by omega), if_pos (by omega)]
  · rw [up_ne e1, show h + 1 - 1 - k = (h - 1 - k) + 1 by omega, lyV_ch (by omega)]; exact hy.1 k (by omega)
theorem row_chn {nn pc h hh : Nat} {y : Nat → Int32} (hy : RowO (hh + 1) nn pc h y) (hlt : h < nn) : RowO (hh + 1) nn (pc * (hh + 1) + hh) (h + 1) (upd y h (-1)) := by
  refine ⟨fun k hk => ?_, fun k hk hk6 => (up_ne (by omega)).trans (hy.2 k hk hk6)⟩
  by_cases e1 : k = h
  · rw [e1, pk_us, show h + 1 - 1 - h = 0 by omega, lyV_ch0 (by omega), if_neg (fun q => q (by omega))]
  · rw [up_ne e1, show h + 1 - 1 - k = (h - 1 - k) + 1 by omega, lyV_ch (by omega)]; exact hy.1 k (by omega)
theorem row_dn {base nn pc h e : Nat} {y : Nat → Int32} (hy : RowO base nn (pc * base + e) (h + 1) y) (he : e < base) : RowO base nn pc h y := ⟨fun k hk => by
  rw [hy.1 k (by omega), show h + 1 - 1 - k = (h - 1 - k) + 1 by omega, lyV_ch he], hy.2⟩
theorem sh_che {pc h hh e : Nat} {y : Nat → Int32} (hy : ∀ q, q < hh → y q = nI (shr (hh + 1) pc h q)) (he : e < hh) (h4 : hh ≤ 4 := by omega) : ∀ q, q < hh → upd y e (nI (shr (hh + 1) pc h e ||| 2 ^ h)) q = nI (shr (hh + 1) (pc * (hh + 1) + e) (h + 1) q) := fun q hq => by
  rw [shr_ch (by omega) (by omega) (by omega)]
  by_cases e1 : q = e
  · rw [e1, pk_us, if_pos rfl]
  · rw [up_ne e1, if_neg (fun x => e1 x.symm), Nat.or_zero]; exact hy q hq
theorem sh_chn {pc h hh : Nat} {y : Nat → Int32} (hy : ∀ q, q < hh → y q = nI (shr (hh + 1) pc h q)) (h4 : hh ≤ 4 := by omega) : ∀ q, q < hh → y q = nI (shr (hh + 1) (pc * (hh + 1) + hh) (h + 1) q) := fun q hq => by
  rw [shr_ch (by omega) (by omega) (by omega), if_neg (by omega), Nat.or_zero]; exact hy q hq
theorem ws_che {Hb : Nat → Int32} {pc h hh e : Nat} (he : e < hh) (h4 : hh ≤ 4 := by omega) : WS Hb (hh + 1) pc h + wN Hb h = WS Hb (hh + 1) (pc * (hh + 1) + e) (h + 1) := by
  rw [WS_ch (by omega) (by omega), if_neg (by omega)]
theorem ws_chn {Hb : Nat → Int32} {pc h hh : Nat} (h4 : hh ≤ 4) : WS Hb (hh + 1) pc h = WS Hb (hh + 1) (pc * (hh + 1) + hh) (h + 1) := by
  rw [WS_ch (by omega) (by omega), if_pos (by omega)]; rfl
theorem sh_back {y : Nat → Int32} {e : Nat} {x v : Int32} (h : y e = v) : upd (upd y e x) e v = y := by rw [fa_upd_twice, fa_upd_same h]
theorem pc_ch {pc b h e : Nat} (hpc : pc < b ^ h) (he : e < b) : pc * b + e < b ^ (h + 1) := by
  rw [Nat.pow_succ]
  have h1 : (pc + 1) * b ≤ b ^ h * b := Nat.mul_le_mul_right b hpc
  rw [Nat.succ_mul] at h1
  omega
theorem pc_lt {hh pc h : Nat} (h4 : hh ≤ 4) (h6 : h ≤ 6) (hpc : pc < (hh + 1) ^ h) : pc < 2 ^ 31 :=
  Nat.lt_of_lt_of_le hpc (Nat.le_trans (Nat.pow_le_pow_left (m := 5) (by omega) h) (Nat.le_trans (Nat.pow_le_pow_right (by decide) h6) (by decide)))
theorem rg_a {pc b h nn e : Nat} (hlt : h < nn) : pc * b ^ (nn - h) + e * b ^ (nn - (h + 1)) = (pc * b + e) * b ^ (nn - (h + 1)) := by
  rw [show nn - h = (nn - (h + 1)) + 1 by omega, Nat.pow_succ, Nat.add_mul, Nat.mul_comm (b ^ _) b, Nat.mul_assoc]
theorem rg_st {n nn hh pc h e : Nat} {Hb He : Nat → Int32} {st : Int32 × Int32} (hlt : h < nn) : bsR n nn hh Hb He ((pc * (hh + 1) + e) * (hh + 1) ^ (nn - (h + 1))) ((hh + 1) ^ (nn - (h + 1))) (bsR n nn hh Hb He (pc * (hh + 1) ^ (nn - h)) (e * (hh + 1) ^ (nn - (h + 1))) st) = bsR n nn hh Hb He (pc * (hh + 1) ^ (nn - h)) ((e + 1) * (hh + 1) ^ (nn - (h + 1))) st := by
  rw [Nat.succ_mul, bsR_add, rg_a hlt]
theorem rg_end {n nn hh pc h : Nat} {Hb He : Nat → Int32} {st : Int32 × Int32} (hlt : h < nn) : bsR n nn hh Hb He ((pc * (hh + 1) + hh) * (hh + 1) ^ (nn - (h + 1))) ((hh + 1) ^ (nn - (h + 1))) (bsR n nn hh Hb He (pc * (hh + 1) ^ (nn - h)) (hh * (hh + 1) ^ (nn - (h + 1))) st) = bsR n nn hh Hb He (pc * (hh + 1) ^ (nn - h)) ((hh + 1) ^ (nn - h)) st := by
  rw [rg_st hlt]
  congr 1
  rw [show nn - h = (nn - (h + 1)) + 1 by omega, Nat.pow_succ, Nat.mul_comm]
theorem leaf_R {n hh c nn : Nat} {Hb He : Nat → Int32} {st x : Int32 × Int32} (h : bsS n nn hh Hb He c st = x) : bsR n nn hh Hb He (c * (hh + 1) ^ (nn - nn)) ((hh + 1) ^ (nn - nn)) st = x := by
  rw [Nat.sub_self, Nat.pow_zero, Nat.mul_one]
  exact h
theorem kp_leaf {base nn pc : Nat} {y k0 : Nat → Int32} {w : Int32} (hy : RowO base nn pc nn y) (hpc : pc < 2 ^ 31) : KPo base nn (w, nI pc) (va_cpy y k0 0 0 6) := Or.inr ⟨pc, rfl, hpc, fun k hk => by
  rw [pk_cpy_in (Nat.zero_le _) (by omega), Nat.zero_add, Nat.sub_zero]
  unfold lyW
  by_cases h : k < nn
  · rw [if_pos h]; exact hy.1 k h
  · rw [if_neg h]; exact hy.2 k (by omega) hk⟩

set_option maxRecDepth 100000 in
set_option maxHeartbeats 1000000 in
theorem j_X6_place6 {G : GT} (r : Nat → Nat) (s : St) (l : Nat → Int64) (n : Nat) (hn : s 52 0 = nI n) (hn8 : n ≤ 8) (Hb : Nat → Int32) (hb : Nat → Nat) (hR : CHr n Hb hb s) (hk : HbOk n Hb hb) (m : Nat) (hm6 : m ≤ 6) (He : Nat → Int32) (aw : Nat → Nat) (ha : AwOk m He aw) (nn : Nat) (hnn : s 63 0 = nI nn) (hnn6 : nn ≤ 6) (hnnn : nn ≤ n) (hh : Nat) (hhh : s 64 0 = nI hh) (hh4 : hh ≤ 4) (hhm : hh ≤ m) (pc : Nat) (st : Int32 × Int32) (hmo : s 65 0 = st.1) (hkp : KPo (hh + 1) nn st (s 46)) (hrow : RowO (hh + 1) nn pc 6 (s 45)) (hsh : ∀ q, q < hh → s 47 q = nI (shr (hh + 1) pc 6 q)) (hwf : ∀ k, k ≤ nn → s 48 k = nI (WFk Hb nn (nn - k))) (hop : ∀ q, q < hh → ∀ k, k ≤ nn → l (q * 7 + k) = lN (opN (lvB n Hb hb He aw) nn q (nn - k))) (hle : 6 ≤ nn) (hpc : pc < (hh + 1) ^ 6) {Q : Option Value → va_W → Prop} (hq : ∀ (w_ : va_W) (y45 y46 y65 : Nat → Int32), w_ = cW G r (su 65 (su 46 (su 45 s y45) y46) y65) l → RowO (hh + 1) nn pc 6 y45 → y65 0 = (bsR n nn hh Hb He (pc * (hh + 1) ^ (nn - 6)) ((hh + 1) ^ (nn - 6)) st).1 → KPo (hh + 1) nn (bsR n nn hh Hb He (pc * (hh + 1) ^ (nn - 6)) ((hh + 1) ^ (nn - 6)) st) y46 → Q none w_) : J G "place" RX6 cX6_place 6 none 0 0 2 Q 0 0 0 [(0, .ref (r 9)), (1, .ref (r 2)), (2, .int (nI 6)), (3, .int (nI (WS Hb (hh + 1) pc 6)))] [] (cW G r s l) := by
  have hWl := WS_le hk (base := hh + 1) (pc := pc) (h := 6) (by omega)
  have hFl := WFk_le hk hnnn (nn - 6) (by omega)
  refine J_iload_n dX6_place_0 rfl rfl ?_
  refine J_bipush (v := nI 7) dX6_place_1 (by decide) ?_
  refine J_cNi [.int (nI 6), .int (nI 7)] mn_X6_82 (c_X11_isBelowN (cW G r s l) (nI 6) 7) rfl rfl (by decide) (Nat.le_of_ble_eq_true rfl) ⟨Nat.le_refl _, Nat.le_refl _⟩ dX6_place_3 ?_
  refine J_if_eqB 32 dX6_place_6 (by decide) (fun c => absurd c (by rw [(show rng (nI 6) 7 = true by decide)]; decide)) (fun _ => ?_)
  refine J_iload_n dX6_place_9 rfl rfl ?_
  refine J_aload_n dX6_place_10 rfl rfl ?_
  refine Cg_9_3 fr_X6_21_5 dX6_place_11 ?_
  refine J_iload_n dX6_place_14 rfl rfl ?_
  refine Cl_48 (s := s) (s 48) rfl 6 rfl (by omega) dX6_place_15 ?_
  refine J_rw (y := nI (WFk Hb nn (nn - 6))) (hwf 6 hle) ?_
  refine J_iaddN dX6_place_16 ?_
  refine J_aload_n dX6_place_17 rfl rfl ?_
  refine Cg_9_7 (s := s) fr_X6_35_5 (s 65 0) rfl dX6_place_18 ?_
  refine J_rw (y := st.1) hmo ?_
  refine J_icmp_le 32 dX6_place_21 (by decide) (fun kcz1 => ?_) (fun kcz1 => ?_)
  · exact J_vret dX6_place_32 rfl rfl rfl (by rw [bsR_id (a := pc * (hh + 1) ^ (nn - 6)) (k := (hh + 1) ^ (nn - 6)) (st := st) (fun c h1 h2 => cut_w hk hnnn hn8 hh4 (by omega) (rg_div h1 h2) (by rw [show nn - (nn - 6) = 6 by omega]; exact kcz1))] at hq; exact hq _ (s 45) (s 46) (s 65) rfl hrow hmo hkp)
  · refine J_aload_n dX6_place_24 rfl rfl ?_
    refine J_iload_n dX6_place_25 rfl rfl ?_
    refine J_cVi (x := yX12_in) [.int (nI 6)] 9 mv_X6_93 (c_X6_mayAllLive r s l 6 (by decide) hh hhh hh4 (fun q => opN (lvB n Hb hb He aw) nn q (nn - 6)) (fun q => shr (hh + 1) pc 6 q) (fun q hq => ⟨hop q hq 6 hle, opN_lt _ _ _ hnn6 _⟩) (fun q hq => ⟨hsh q hq, Nat.lt_of_lt_of_le (shr_lt _ _ _ _) (Nat.pow_le_pow_right (n := 2) (by decide) (show 6 ≤ 6 by decide))⟩)) cW_9 rfl rfl (by decide) (Nat.le_of_ble_eq_true rfl) ⟨Nat.le_refl _, Nat.le_refl _⟩ dX6_place_26 ?_
    refine J_if_neB 33 dX6_place_29 (by decide) (fun kcz2 => ?_) (fun kcz2 => ?_)
    · refine J_iload_n dX6_place_33 rfl rfl ?_
      refine J_aload_n dX6_place_34 rfl rfl ?_
      refine Cg_9_5 (s := s) fr_X6_28_5 (s 63 0) rfl dX6_place_35 ?_
      refine J_rw (y := nI nn) hnn ?_
      refine J_icmp_geN 47 (by omega) (by omega) dX6_place_38 (by decide) (fun _ => ?_) (fun c => absurd hnn6 c)
      refine J_aload_n dX6_place_47 rfl rfl ?_
      refine J_iload_n dX6_place_48 rfl rfl ?_
      refine Cp_9_7 fr_X6_35_5 dX6_place_49 ?_
      refine J_aload_n dX6_place_52 rfl rfl ?_
      refine Cg_9_0 fr_X6_11_5 dX6_place_53 ?_
      refine J_iconst (v := nI 0) dX6_place_56 (by decide) ?_
      refine J_aload_n dX6_place_57 rfl rfl ?_
      refine Cg_9_1 fr_X6_15_5 dX6_place_58 ?_
      refine J_iconst (v := nI 0) dX6_place_61 (by decide) ?_
      refine J_bipush (v := nI 6) dX6_place_62 (by decide) ?_
      refine J_copyi (N0 := 6) (N1 := 6) ac_link6 ac_nat ac_stat ac_init 44 45 (cW G r (su 46 (su 65 s (fun _ => nI (WS Hb (hh + 1) pc 6))) (va_cpy (s 45) (s 46) 0 0 6)) l) rfl rfl (cI_nlt (by omega)) (cI_nlt (by omega)) (cI_nlt (by omega)) (by rw [nI_clamp (by omega), nI_clamp (by omega)]; omega) (by rw [nI_clamp (by omega), nI_clamp (by omega)]; omega) (by omega) (by decide) (by rw [nI_clamp (by omega), nI_clamp (by omega)]; rfl) dX6_place_64 ?_
      show J G "place" RX6 cX6_place 6 none 0 0 2 Q 0 0 67 [(0, .ref (r 9)), (1, .ref (r 2)), (2, .int (nI 6)), (3, .int (nI (WS Hb (hh + 1) pc 6)))] [] (cW G r (su 46 (su 65 s (fun _ => nI (WS Hb (hh + 1) pc 6))) (va_cpy (s 45) (s 46) 0 0 6)) l)
      refine J_ws (ws2 := (cW G r (su 65 (su 46 s (va_cpy (s 45) (s 46) 0 0 6)) (fun _ => nI (WS Hb (hh + 1) pc 6))) l)) (congrArg (fun q_ => cW G r q_ l) (su_sw (by decide))) ?_
      exact J_vret dX6_place_67 rfl rfl rfl (by obtain rfl : nn = 6 := (by omega); have e9 : bsR n 6 hh Hb He (pc * (hh + 1) ^ (6 - 6)) ((hh + 1) ^ (6 - 6)) st = (nI (WS Hb (hh + 1) pc 6), nI pc) := leaf_R (leaf_y hk ha hn8 hm6 hnnn hhm (by simpa [WFk] using kcz1) (fun q hq => allB_iff.mp kcz2 q hq)); rw [e9] at hq; exact hq _ (s 45) (va_cpy (s 45) (s 46) 0 0 6) (fun _ => nI (WS Hb (hh + 1) pc 6)) rfl hrow rfl (kp_leaf hrow (pc_lt hh4 (by omega) hpc)))
    · exact J_vret dX6_place_32 rfl rfl rfl (by rw [bsR_id (a := pc * (hh + 1) ^ (nn - 6)) (k := (hh + 1) ^ (nn - 6)) (st := st) (fun c h1 h2 => by obtain ⟨q, hq2, hqf⟩ := all_ex kcz2; exact cut_o hk ha hn8 hm6 hnnn hh4 hhm (by omega) (rg_div h1 h2) hq2 (by rw [show nn - (nn - 6) = 6 by omega]; exact hqf))] at hq; exact hq _ (s 45) (s 46) (s 65) rfl hrow hmo hkp)
theorem c_X6_place6 {G : GT} (r : Nat → Nat) (s : St) (l : Nat → Int64) (n : Nat) (hn : s 52 0 = nI n) (hn8 : n ≤ 8) (Hb : Nat → Int32) (hb : Nat → Nat) (hR : CHr n Hb hb s) (hk : HbOk n Hb hb) (m : Nat) (hm6 : m ≤ 6) (He : Nat → Int32) (aw : Nat → Nat) (ha : AwOk m He aw) (nn : Nat) (hnn : s 63 0 = nI nn) (hnn6 : nn ≤ 6) (hnnn : nn ≤ n) (hh : Nat) (hhh : s 64 0 = nI hh) (hh4 : hh ≤ 4) (hhm : hh ≤ m) (pc : Nat) (st : Int32 × Int32) (hmo : s 65 0 = st.1) (hkp : KPo (hh + 1) nn st (s 46)) (hrow : RowO (hh + 1) nn pc 6 (s 45)) (hsh : ∀ q, q < hh → s 47 q = nI (shr (hh + 1) pc 6 q)) (hwf : ∀ k, k ≤ nn → s 48 k = nI (WFk Hb nn (nn - k))) (hop : ∀ q, q < hh → ∀ k, k ≤ nn → l (q * 7 + k) = lN (opN (lvB n Hb hb He aw) nn q (nn - k))) (hle : 6 ≤ nn) (hpc : pc < (hh + 1) ^ 6) : Ct G yX6_place cX6_place 6 none 0 0 2 [.ref (r 9), .ref (r 2), .int (nI 6), .int (nI (WS Hb (hh + 1) pc 6))] (cW G r s l) (fun v w => ∃ y45 y46 y65 : Nat → Int32, v = none ∧ w = cW G r (su 65 (su 46 (su 45 s y45) y46) y65) l ∧ RowO (hh + 1) nn pc 6 y45 ∧ y65 0 = (bsR n nn hh Hb He (pc * (hh + 1) ^ (nn - 6)) ((hh + 1) ^ (nn - 6)) st).1 ∧ KPo (hh + 1) nn (bsR n nn hh Hb He (pc * (hh + 1) ^ (nn - 6)) ((hh + 1) ^ (nn - 6)) st) y46) := Ct.of rfl (Nat.le_of_ble_eq_true rfl) (j_X6_place6 r s l n hn hn8 Hb hb hR hk m hm6 He aw ha nn hnn hnn6 hnnn hh hhh hh4 hhm pc st hmo hkp hrow hsh hwf hop hle hpc (fun w_ y45 y46 y65 h1 h2 h3 h4 => ⟨y45, y46, y65, rfl, h1, h2, h3, h4⟩))
set_option maxRecDepth 100000 in
set_option maxHeartbeats 1000000 in
theorem j_X6_place5 {G : GT} (r : Nat → Nat) (s : St) (l : Nat → Int64) (n : Nat) (hn : s 52 0 = nI n) (hn8 : n ≤ 8) (Hb : Nat → Int32) (hb : Nat → Nat) (hR : CHr n Hb hb s) (hk : HbOk n Hb hb) (m : Nat) (hm6 : m ≤ 6) (He : Nat → Int32) (aw : Nat → Nat) (ha : AwOk m He aw) (nn : Nat) (hnn : s 63 0 = nI nn) (hnn6 : nn ≤ 6) (hnnn : nn ≤ n) (hh : Nat) (hhh : s 64 0 = nI hh) (hh4 : hh ≤ 4) (hhm : hh ≤ m) (pc : Nat) (st : Int32 × Int32) (hmo : s 65 0 = st.1) (hkp : KPo (hh + 1) nn st (s 46)) (hrow : RowO (hh + 1) nn pc 5 (s 45)) (hsh : ∀ q, q < hh → s 47 q = nI (shr (hh + 1) pc 5 q)) (hwf : ∀ k, k ≤ nn → s 48 k = nI (WFk Hb nn (nn - k))) (hop : ∀ q, q < hh → ∀ k, k ≤ nn → l (q * 7 + k) = lN (opN (lvB n Hb hb He aw) nn q (nn - k))) (hle : 5 ≤ nn) (hpc : pc < (hh + 1) ^ 5) {Q : Option Value → va_W → Prop} (hq : ∀ (w_ : va_W) (y45 y46 y65 : Nat → Int32), w_ = cW G r (su 65 (su 46 (su 45 s y45) y46) y65) l → RowO (hh + 1) nn pc 5 y45 → y65 0 = (bsR n nn hh Hb He (pc * (hh + 1) ^ (nn - 5)) ((hh + 1) ^ (nn - 5)) st).1 → KPo (hh + 1) nn (bsR n nn hh Hb He (pc * (hh + 1) ^ (nn - 5)) ((hh + 1) ^ (nn - 5)) st) y46 → Q none w_) : J G "place" RX6 cX6_place 6 none 0 0 3 Q 0 0 0 [(0, .ref (r 9)), (1, .ref (r 2)), (2, .int (nI 5)), (3, .int (nI (WS Hb (hh + 1) pc 5)))] [] (cW G r s l) := by
  have hWl := WS_le hk (base := hh + 1) (pc := pc) (h := 5) (by omega)
  have hFl := WFk_le hk hnnn (nn - 5) (by omega)
  refine J_iload_n dX6_place_0 rfl rfl ?_
  refine J_bipush (v := nI 7) dX6_place_1 (by decide) ?_
  refine J_cNi [.int (nI 5), .int (nI 7)] mn_X6_82 (c_X11_isBelowN (cW G r s l) (nI 5) 7) rfl rfl (by decide) (Nat.le_of_ble_eq_true rfl) ⟨Nat.le_refl _, Nat.le_refl _⟩ dX6_place_3 ?_
  refine J_if_eqB 32 dX6_place_6 (by decide) (fun c => absurd c (by rw [(show rng (nI 5) 7 = true by decide)]; decide)) (fun _ => ?_)
  refine J_iload_n dX6_place_9 rfl rfl ?_
  refine J_aload_n dX6_place_10 rfl rfl ?_
  refine Cg_9_3 fr_X6_21_5 dX6_place_11 ?_
  refine J_iload_n dX6_place_14 rfl rfl ?_
  refine Cl_48 (s := s) (s 48) rfl 5 rfl (by omega) dX6_place_15 ?_
  refine J_rw (y := nI (WFk Hb nn (nn - 5))) (hwf 5 hle) ?_
  refine J_iaddN dX6_place_16 ?_
  refine J_aload_n dX6_place_17 rfl rfl ?_
  refine Cg_9_7 (s := s) fr_X6_35_5 (s 65 0) rfl dX6_place_18 ?_
  refine J_rw (y := st.1) hmo ?_
  refine J_icmp_le 32 dX6_place_21 (by decide) (fun kcz1 => ?_) (fun kcz1 => ?_)
  · exact J_vret dX6_place_32 rfl rfl rfl (by rw [bsR_id (a := pc * (hh + 1) ^ (nn - 5)) (k := (hh + 1) ^ (nn - 5)) (st := st) (fun c h1 h2 => cut_w hk hnnn hn8 hh4 (by omega) (rg_div h1 h2) (by rw [show nn - (nn - 5) = 5 by omega]; exact kcz1))] at hq; exact hq _ (s 45) (s 46) (s 65) rfl hrow hmo hkp)
  · refine J_aload_n dX6_place_24 rfl rfl ?_
    refine J_iload_n dX6_place_25 rfl rfl ?_
    refine J_cVi (x := yX12_in) [.int (nI 5)] 9 mv_X6_93 (c_X6_mayAllLive r s l 5 (by decide) hh hhh hh4 (fun q => opN (lvB n Hb hb He aw) nn q (nn - 5)) (fun q => shr (hh + 1) pc 5 q) (fun q hq => ⟨hop q hq 5 hle, opN_lt _ _ _ hnn6 _⟩) (fun q hq => ⟨hsh q hq, Nat.lt_of_lt_of_le (shr_lt _ _ _ _) (Nat.pow_le_pow_right (n := 2) (by decide) (show 5 ≤ 6 by decide))⟩)) cW_9 rfl rfl (by decide) (Nat.le_of_ble_eq_true rfl) ⟨Nat.le_refl _, Nat.le_refl _⟩ dX6_place_26 ?_
    refine J_if_neB 33 dX6_place_29 (by decide) (fun kcz2 => ?_) (fun kcz2 => ?_)
    · refine J_iload_n dX6_place_33 rfl rfl ?_
      refine J_aload_n dX6_place_34 rfl rfl ?_
      refine Cg_9_5 (s := s) fr_X6_28_5 (s 63 0) rfl dX6_place_35 ?_
      refine J_rw (y := nI nn) hnn ?_
      refine J_icmp_geN 47 (by omega) (by omega) dX6_place_38 (by decide) (fun kcz3 => ?_) (fun kcz3 => ?_)
      · refine J_aload_n dX6_place_47 rfl rfl ?_
        refine J_iload_n dX6_place_48 rfl rfl ?_
        refine Cp_9_7 fr_X6_35_5 dX6_place_49 ?_
        refine J_aload_n dX6_place_52 rfl rfl ?_
        refine Cg_9_0 fr_X6_11_5 dX6_place_53 ?_
        refine J_iconst (v := nI 0) dX6_place_56 (by decide) ?_
        refine J_aload_n dX6_place_57 rfl rfl ?_
        refine Cg_9_1 fr_X6_15_5 dX6_place_58 ?_
        refine J_iconst (v := nI 0) dX6_place_61 (by decide) ?_
        refine J_bipush (v := nI 6) dX6_place_62 (by decide) ?_
        refine J_copyi (N0 := 6) (N1 := 6) ac_link6 ac_nat ac_stat ac_init 44 45 (cW G r (su 46 (su 65 s (fun _ => nI (WS Hb (hh + 1) pc 5))) (va_cpy (s 45) (s 46) 0 0 6)) l) rfl rfl (cI_nlt (by omega)) (cI_nlt (by omega)) (cI_nlt (by omega)) (by rw [nI_clamp (by omega), nI_clamp (by omega)]; omega) (by rw [nI_clamp (by omega), nI_clamp (by omega)]; omega) (by omega) (by decide) (by rw [nI_clamp (by omega), nI_clamp (by omega)]; rfl) dX6_place_64 ?_
        show J G "place" RX6 cX6_place 6 none 0 0 3 Q 0 0 67 [(0, .ref (r 9)), (1, .ref (r 2)), (2, .int (nI 5)), (3, .int (nI (WS Hb (hh + 1) pc 5)))] [] (cW G r (su 46 (su 65 s (fun _ => nI (WS Hb (hh + 1) pc 5))) (va_cpy (s 45) (s 46) 0 0 6)) l)
        refine J_ws (ws2 := (cW G r (su 65 (su 46 s (va_cpy (s 45) (s 46) 0 0 6)) (fun _ => nI (WS Hb (hh + 1) pc 5))) l)) (congrArg (fun q_ => cW G r q_ l) (su_sw (by decide))) ?_
        exact J_vret dX6_place_67 rfl rfl rfl (by obtain rfl : nn = 5 := (by omega); have e9 : bsR n 5 hh Hb He (pc * (hh + 1) ^ (5 - 5)) ((hh + 1) ^ (5 - 5)) st = (nI (WS Hb (hh + 1) pc 5), nI pc) := leaf_R (leaf_y hk ha hn8 hm6 hnnn hhm (by simpa [WFk] using kcz1) (fun q hq => allB_iff.mp kcz2 q hq)); rw [e9] at hq; exact hq _ (s 45) (va_cpy (s 45) (s 46) 0 0 6) (fun _ => nI (WS Hb (hh + 1) pc 5)) rfl hrow rfl (kp_leaf hrow (pc_lt hh4 (by omega) hpc)))
      · refine J_iload_n dX6_place_41 rfl rfl ?_
        refine J_bipush (v := nI 6) dX6_place_42 (by decide) ?_
        refine J_icmp_lt 68 dX6_place_44 (by decide) (fun _ => ?_) (fun c => absurd c (by decide))
        refine J_iconst (v := nI 0) dX6_place_68 (by decide) ?_
        refine J_istore [(0, .ref (r 9)), (1, .ref (r 2)), (2, .int (nI 5)), (3, .int (nI (WS Hb (hh + 1) pc 5))), (4, .int (nI 0))] dX6_place_69 (by decide) rfl rfl rfl ?_
        have L71 : ∀ (f e : Nat) (y45 y46 y65 : Nat → Int32), hh - e < f → e ≤ hh → RowO (hh + 1) nn pc 5 y45 → y65 0 = (bsR n nn hh Hb He (pc * (hh + 1) ^ (nn - 5)) (e * (hh + 1) ^ (nn - 6)) st).1 → KPo (hh + 1) nn (bsR n nn hh Hb He (pc * (hh + 1) ^ (nn - 5)) (e * (hh + 1) ^ (nn - 6)) st) y46 → ∀ (x4 : Int32), x4 = nI e → J G "place" RX6 cX6_place 6 none 0 0 3 Q 0 0 71 [(0, .ref (r 9)), (1, .ref (r 2)), (2, .int (nI 5)), (3, .int (nI (WS Hb (hh + 1) pc 5))), (4, .int x4)] [] (cW G r (su 65 (su 46 (su 45 s y45) y46) y65) l) := by
          intro f
          induction f with
          | zero => intro e y45 y46 y65 h; exact absurd h (Nat.not_lt_zero _)
          | succ f ih71 =>
            intro e y45 y46 y65 hf71 hle71 hy45 hy65 hy46 x4 e4
            subst e4
            refine J_iload dX6_place_71 rfl ?_
            refine J_aload_n dX6_place_73 rfl rfl ?_
            refine Cg_9_6 (s := (su 65 (su 46 (su 45 s y45) y46) y65)) fr_X6_32_5 (s 64 0) rfl dX6_place_74 ?_
            refine J_rw (y := nI hh) hhh ?_
            refine J_icmp_geN 150 (by omega) (by omega) dX6_place_77 (by decide) (fun kcz4 => ?_) (fun kcz4 => ?_)
            · obtain rfl : hh = e := (by omega)
              refine J_aload_n dX6_place_150 rfl rfl ?_
              refine Cg_9_0 fr_X6_11_5 dX6_place_151 ?_
              refine J_iload_n dX6_place_154 rfl rfl ?_
              refine J_iconst (v := -1) dX6_place_155 (by decide) ?_
              refine Cs_45 (s := (su 65 (su 46 (su 45 s y45) y46) y65)) y45 rfl 5 rfl (by omega) dX6_place_156 ?_
              refine J_ws (ws2 := (cW G r (su 65 (su 46 (su 45 s (upd y45 5 (-1))) y46) y65) l)) (congrArg (fun q_ => cW G r q_ l) ((su_sw (by decide)).trans (su_cg ((su_sw (by decide)).trans (su_cg su_tw))))) ?_
              refine J_aload_n dX6_place_157 rfl rfl ?_
              refine J_aload_n dX6_place_158 rfl rfl ?_
              refine J_iload_n dX6_place_159 rfl rfl ?_
              refine J_iconst (v := nI 1) dX6_place_160 (by decide) ?_
              refine J_iaddN dX6_place_161 ?_
              refine J_iload_n dX6_place_162 rfl rfl ?_
              refine J_rw (y := nI (WS Hb (hh + 1) (pc * (hh + 1) + hh) 6)) (congrArg nI (ws_chn (pc := pc) (h := 5) hh4)) ?_
              refine J_callS (wr := []) (As := [.ref (r 9), .ref (r 2), .int (nI (5 + 1)), .int (nI (WS Hb (hh + 1) (pc * (hh + 1) + hh) 6))]) (st := []) ms_X6_78 (c_X6_place6 r (su 65 (su 46 (su 45 s (upd y45 5 (-1))) y46) y65) l n hn hn8 Hb hb hR hk m hm6 He aw ha nn hnn hnn6 hnnn hh hhh hh4 hhm (pc * (hh + 1) + hh) (bsR n nn hh Hb He (pc * (hh + 1) ^ (nn - 5)) (hh * (hh + 1) ^ (nn - 6)) st) hy65 hy46 (row_chn hy45 (by omega)) (sh_chn hsh) hwf hop (by omega) (pc_ch hpc (by omega))) rfl rfl rfl (by decide) (Nat.le_of_ble_eq_true rfl) ⟨Nat.le_refl _, Nat.le_refl _⟩ dX6_place_163 (fun v_ w_ h_ => ?_)
              obtain ⟨x45_163, x46_163, x65_163, rfl, rfl, hr163, hm163, hk163⟩ := h_
              show J G "place" RX6 cX6_place 6 none 0 0 3 Q 0 0 166 [(0, .ref (r 9)), (1, .ref (r 2)), (2, .int (nI 5)), (3, .int (nI (WS Hb (hh + 1) pc 5))), (4, .int (nI hh))] [] (cW G r (su 65 (su 46 (su 45 (su 65 (su 46 (su 45 s (upd y45 5 (-1))) y46) y65) x45_163) x46_163) x65_163) l)
              refine J_ws (ws2 := (cW G r (su 65 (su 46 (su 45 s x45_163) x46_163) x65_163) l)) (congrArg (fun q_ => cW G r q_ l) (Eq.trans (Eq.trans (su_cg (su_cg ((su_sw (by decide)).trans (su_cg ((su_sw (by decide)).trans (su_cg su_tw)))))) (su_cg ((su_sw (by decide)).trans (su_cg su_tw)))) su_tw)) ?_
              exact J_vret dX6_place_166 rfl rfl rfl (hq _ x45_163 x46_163 x65_163 rfl (row_dn hr163 (by omega)) (hm163.trans (congrArg Prod.fst (rg_end (by omega)))) (by rw [← rg_end (n := n) (nn := nn) (hh := hh) (Hb := Hb) (He := He) (pc := pc) (h := 5) (st := st) (by omega)]; exact hk163))
            · refine J_iload dX6_place_80 rfl ?_
              refine J_iconst (v := nI 4) dX6_place_82 (by decide) ?_
              refine J_icmp_geN 150 (by omega) (by omega) dX6_place_83 (by decide) (fun kcz5 => ?_) (fun kcz5 => ?_)
              · obtain rfl : hh = e := (by omega)
                refine J_aload_n dX6_place_150 rfl rfl ?_
                refine Cg_9_0 fr_X6_11_5 dX6_place_151 ?_
                refine J_iload_n dX6_place_154 rfl rfl ?_
                refine J_iconst (v := -1) dX6_place_155 (by decide) ?_
                refine Cs_45 (s := (su 65 (su 46 (su 45 s y45) y46) y65)) y45 rfl 5 rfl (by omega) dX6_place_156 ?_
                refine J_ws (ws2 := (cW G r (su 65 (su 46 (su 45 s (upd y45 5 (-1))) y46) y65) l)) (congrArg (fun q_ => cW G r q_ l) ((su_sw (by decide)).trans (su_cg ((su_sw (by decide)).trans (su_cg su_tw))))) ?_
                refine J_aload_n dX6_place_157 rfl rfl ?_
                refine J_aload_n dX6_place_158 rfl rfl ?_
                refine J_iload_n dX6_place_159 rfl rfl ?_
                refine J_iconst (v := nI 1) dX6_place_160 (by decide) ?_
                refine J_iaddN dX6_place_161 ?_
                refine J_iload_n dX6_place_162 rfl rfl ?_
                refine J_rw (y := nI (WS Hb (hh + 1) (pc * (hh + 1) + hh) 6)) (congrArg nI (ws_chn (pc := pc) (h := 5) hh4)) ?_
                refine J_callS (wr := []) (As := [.ref (r 9), .ref (r 2), .int (nI (5 + 1)), .int (nI (WS Hb (hh + 1) (pc * (hh + 1) + hh) 6))]) (st := []) ms_X6_78 (c_X6_place6 r (su 65 (su 46 (su 45 s (upd y45 5 (-1))) y46) y65) l n hn hn8 Hb hb hR hk m hm6 He aw ha nn hnn hnn6 hnnn hh hhh hh4 hhm (pc * (hh + 1) + hh) (bsR n nn hh Hb He (pc * (hh + 1) ^ (nn - 5)) (hh * (hh + 1) ^ (nn - 6)) st) hy65 hy46 (row_chn hy45 (by omega)) (sh_chn hsh) hwf hop (by omega) (pc_ch hpc (by omega))) rfl rfl rfl (by decide) (Nat.le_of_ble_eq_true rfl) ⟨Nat.le_refl _, Nat.le_refl _⟩ dX6_place_163 (fun v_ w_ h_ => ?_)
                obtain ⟨x45_163, x46_163, x65_163, rfl, rfl, hr163, hm163, hk163⟩ := h_
                show J G "place" RX6 cX6_place 6 none 0 0 3 Q 0 0 166 [(0, .ref (r 9)), (1, .ref (r 2)), (2, .int (nI 5)), (3, .int (nI (WS Hb (hh + 1) pc 5))), (4, .int (nI hh))] [] (cW G r (su 65 (su 46 (su 45 (su 65 (su 46 (su 45 s (upd y45 5 (-1))) y46) y65) x45_163) x46_163) x65_163) l)
                refine J_ws (ws2 := (cW G r (su 65 (su 46 (su 45 s x45_163) x46_163) x65_163) l)) (congrArg (fun q_ => cW G r q_ l) (Eq.trans (Eq.trans (su_cg (su_cg ((su_sw (by decide)).trans (su_cg ((su_sw (by decide)).trans (su_cg su_tw)))))) (su_cg ((su_sw (by decide)).trans (su_cg su_tw)))) su_tw)) ?_
                exact J_vret dX6_place_166 rfl rfl rfl (hq _ x45_163 x46_163 x65_163 rfl (row_dn hr163 (by omega)) (hm163.trans (congrArg Prod.fst (rg_end (by omega)))) (by rw [← rg_end (n := n) (nn := nn) (hh := hh) (Hb := Hb) (He := He) (pc := pc) (h := 5) (st := st) (by omega)]; exact hk163))
              · refine J_aload_n dX6_place_86 rfl rfl ?_
                refine Cg_9_2 fr_X6_18_5 dX6_place_87 ?_
                refine J_iload dX6_place_90 rfl ?_
                refine Cl_47 (s := (su 65 (su 46 (su 45 s y45) y46) y65)) (s 47) rfl e rfl (by omega) dX6_place_92 ?_
                refine J_rw (y := nI (shr (hh + 1) pc 5 e)) (hsh e (by omega)) ?_
                refine J_istore [(0, .ref (r 9)), (1, .ref (r 2)), (2, .int (nI 5)), (3, .int (nI (WS Hb (hh + 1) pc 5))), (4, .int (nI e)), (5, .int (nI (shr (hh + 1) pc 5 e)))] dX6_place_93 (by decide) rfl rfl rfl ?_
                refine J_aload_n dX6_place_95 rfl rfl ?_
                refine Cg_9_2 fr_X6_18_5 dX6_place_96 ?_
                refine J_iload dX6_place_99 rfl ?_
                refine J_iload dX6_place_101 rfl ?_
                refine J_iconst (v := nI 1) dX6_place_103 (by decide) ?_
                refine J_iload_n dX6_place_104 rfl rfl ?_
                refine J_shl1N dX6_place_105 (by omega) ?_
                refine J_iorN dX6_place_106 ?_
                refine Cs_47 (s := (su 65 (su 46 (su 45 s y45) y46) y65)) (s 47) rfl e rfl (by omega) dX6_place_107 ?_
                refine J_ws (ws2 := (cW G r (su 65 (su 47 (su 46 (su 45 s y45) y46) (upd (s 47) e (nI ((shr (hh + 1) pc 5 e) ||| (2 ^ 5))))) y65) l)) (congrArg (fun q_ => cW G r q_ l) (su_sw (by decide))) ?_
                refine J_aload_n dX6_place_108 rfl rfl ?_
                refine Cg_9_0 fr_X6_11_5 dX6_place_109 ?_
                refine J_iload_n dX6_place_112 rfl rfl ?_
                refine J_iload dX6_place_113 rfl ?_
                refine Cs_45 (s := (su 65 (su 47 (su 46 (su 45 s y45) y46) (upd (s 47) e (nI ((shr (hh + 1) pc 5 e) ||| (2 ^ 5))))) y65)) y45 rfl 5 rfl (by omega) dX6_place_115 ?_
                refine J_ws (ws2 := (cW G r (su 65 (su 47 (su 46 (su 45 s (upd y45 5 (nI e))) y46) (upd (s 47) e (nI ((shr (hh + 1) pc 5 e) ||| (2 ^ 5))))) y65) l)) (congrArg (fun q_ => cW G r q_ l) ((su_sw (by decide)).trans (su_cg ((su_sw (by decide)).trans (su_cg ((su_sw (by decide)).trans (su_cg su_tw))))))) ?_
                refine J_aload_n dX6_place_116 rfl rfl ?_
                refine J_aload_n dX6_place_117 rfl rfl ?_
                refine J_iload_n dX6_place_118 rfl rfl ?_
                refine J_iconst (v := nI 1) dX6_place_119 (by decide) ?_
                refine J_iaddN dX6_place_120 ?_
                refine J_iload_n dX6_place_121 rfl rfl ?_
                refine J_aload_n dX6_place_122 rfl rfl ?_
                refine Cg_2_0 fr_X6_42_4 dX6_place_123 ?_
                refine Cg_3_8 fr_X6_103_2 dX6_place_126 ?_
                refine J_iload_n dX6_place_129 rfl rfl ?_
                refine Cl_23 (s := (su 65 (su 47 (su 46 (su 45 s (upd y45 5 (nI e))) y46) (upd (s 47) e (nI ((shr (hh + 1) pc 5 e) ||| (2 ^ 5))))) y65)) (s 23) rfl 5 rfl (by omega) dX6_place_130 ?_
                refine J_rw (y := nI (wN Hb 5)) ((hR 5 (by omega)).1.trans (wN_eq hk (by omega)).1) ?_
                refine J_iaddN dX6_place_131 ?_
                refine J_rw (y := nI (WS Hb (hh + 1) (pc * (hh + 1) + e) 6)) (congrArg nI (ws_che (by omega))) ?_
                refine J_callS (wr := []) (As := [.ref (r 9), .ref (r 2), .int (nI (5 + 1)), .int (nI (WS Hb (hh + 1) (pc * (hh + 1) + e) 6))]) (st := []) ms_X6_78 (c_X6_place6 r (su 65 (su 47 (su 46 (su 45 s (upd y45 5 (nI e))) y46) (upd (s 47) e (nI ((shr (hh + 1) pc 5 e) ||| (2 ^ 5))))) y65) l n hn hn8 Hb hb hR hk m hm6 He aw ha nn hnn hnn6 hnnn hh hhh hh4 hhm (pc * (hh + 1) + e) (bsR n nn hh Hb He (pc * (hh + 1) ^ (nn - 5)) (e * (hh + 1) ^ (nn - 6)) st) hy65 hy46 (row_che hy45 (by omega)) (sh_che hsh (by omega)) hwf hop (by omega) (pc_ch hpc (by omega))) rfl rfl rfl (by decide) (Nat.le_of_ble_eq_true rfl) ⟨Nat.le_refl _, Nat.le_refl _⟩ dX6_place_132 (fun v_ w_ h_ => ?_)
                obtain ⟨x45_132, x46_132, x65_132, rfl, rfl, hr132, hm132, hk132⟩ := h_
                show J G "place" RX6 cX6_place 6 none 0 0 3 Q 0 0 135 [(0, .ref (r 9)), (1, .ref (r 2)), (2, .int (nI 5)), (3, .int (nI (WS Hb (hh + 1) pc 5))), (4, .int (nI e)), (5, .int (nI (shr (hh + 1) pc 5 e)))] [] (cW G r (su 65 (su 46 (su 45 (su 65 (su 47 (su 46 (su 45 s (upd y45 5 (nI e))) y46) (upd (s 47) e (nI ((shr (hh + 1) pc 5 e) ||| (2 ^ 5))))) y65) x45_132) x46_132) x65_132) l)
                refine J_ws (ws2 := (cW G r (su 65 (su 47 (su 46 (su 45 s x45_132) x46_132) (upd (s 47) e (nI ((shr (hh + 1) pc 5 e) ||| (2 ^ 5))))) x65_132) l)) (congrArg (fun q_ => cW G r q_ l) (Eq.trans (Eq.trans (su_cg (su_cg ((su_sw (by decide)).trans (su_cg ((su_sw (by decide)).trans (su_cg ((su_sw (by decide)).trans (su_cg su_tw)))))))) (su_cg ((su_sw (by decide)).trans (su_cg ((su_sw (by decide)).trans (su_cg su_tw)))))) su_tw)) ?_
                refine J_aload_n dX6_place_135 rfl rfl ?_
                refine Cg_9_2 fr_X6_18_5 dX6_place_136 ?_
                refine J_iload dX6_place_139 rfl ?_
                refine J_iload dX6_place_141 rfl ?_
                refine Cs_47 (s := (su 65 (su 47 (su 46 (su 45 s x45_132) x46_132) (upd (s 47) e (nI ((shr (hh + 1) pc 5 e) ||| (2 ^ 5))))) x65_132)) (upd (s 47) e (nI ((shr (hh + 1) pc 5 e) ||| (2 ^ 5)))) rfl e rfl (by omega) dX6_place_143 ?_
                refine J_ws (ws2 := (cW G r (su 65 (su 47 (su 46 (su 45 s x45_132) x46_132) (upd (upd (s 47) e (nI ((shr (hh + 1) pc 5 e) ||| (2 ^ 5)))) e (nI (shr (hh + 1) pc 5 e)))) x65_132) l)) (congrArg (fun q_ => cW G r q_ l) ((su_sw (by decide)).trans (su_cg su_tw))) ?_
                refine J_ws (ws2 := (cW G r (su 65 (su 46 (su 45 s x45_132) x46_132) x65_132) l)) (congrArg (fun q_ => cW G r q_ l) (su_cg ((congrArg (su 47 _) (sh_back (hsh e (by omega)))).trans su_id))) ?_
                refine J_iincN [(0, .ref (r 9)), (1, .ref (r 2)), (2, .int (nI 5)), (3, .int (nI (WS Hb (hh + 1) pc 5))), (4, .int (nI (e + 1))), (5, .int (nI (shr (hh + 1) pc 5 e)))] dX6_place_144 rfl (by decide) rfl rfl rfl ?_
                refine J_goto 71 dX6_place_147 (by decide) ?_
                refine J_lv [0, 1, 2, 3, 4] rfl ?_
                exact ih71 (e + 1) x45_132 x46_132 x65_132 (by omega) (by omega) (row_dn hr132 (by omega)) (hm132.trans (congrArg Prod.fst (rg_st (by omega)))) (by rw [← rg_st (n := n) (nn := nn) (hh := hh) (Hb := Hb) (He := He) (pc := pc) (h := 5) (e := e) (st := st) (by omega)]; exact hk132) _ rfl
        exact L71 (hh + 1) 0 (s 45) (s 46) (s 65) (by omega) (by omega) hrow (by rw [Nat.zero_mul]; exact hmo) (by rw [Nat.zero_mul]; exact hkp) _ rfl
    · exact J_vret dX6_place_32 rfl rfl rfl (by rw [bsR_id (a := pc * (hh + 1) ^ (nn - 5)) (k := (hh + 1) ^ (nn - 5)) (st := st) (fun c h1 h2 => by obtain ⟨q, hq2, hqf⟩ := all_ex kcz2; exact cut_o hk ha hn8 hm6 hnnn hh4 hhm (by omega) (rg_div h1 h2) hq2 (by rw [show nn - (nn - 5) = 5 by omega]; exact hqf))] at hq; exact hq _ (s 45) (s 46) (s 65) rfl hrow hmo hkp)
theorem c_X6_place5 {G : GT} (r : Nat → Nat) (s : St) (l : Nat → Int64) (n : Nat) (hn : s 52 0 = nI n) (hn8 : n ≤ 8) (Hb : Nat → Int32) (hb : Nat → Nat) (hR : CHr n Hb hb s) (hk : HbOk n Hb hb) (m : Nat) (hm6 : m ≤ 6) (He : Nat → Int32) (aw : Nat → Nat) (ha : AwOk m He aw) (nn : Nat) (hnn : s 63 0 = nI nn) (hnn6 : nn ≤ 6) (hnnn : nn ≤ n) (hh : Nat) (hhh : s 64 0 = nI hh) (hh4 : hh ≤ 4) (hhm : hh ≤ m) (pc : Nat) (st : Int32 × Int32) (hmo : s 65 0 = st.1) (hkp : KPo (hh + 1) nn st (s 46)) (hrow : RowO (hh + 1) nn pc 5 (s 45)) (hsh : ∀ q, q < hh → s 47 q = nI (shr (hh + 1) pc 5 q)) (hwf : ∀ k, k ≤ nn → s 48 k = nI (WFk Hb nn (nn - k))) (hop : ∀ q, q < hh → ∀ k, k ≤ nn → l (q * 7 + k) = lN (opN (lvB n Hb hb He aw) nn q (nn - k))) (hle : 5 ≤ nn) (hpc : pc < (hh + 1) ^ 5) : Ct G yX6_place cX6_place 6 none 0 0 3 [.ref (r 9), .ref (r 2), .int (nI 5), .int (nI (WS Hb (hh + 1) pc 5))] (cW G r s l) (fun v w => ∃ y45 y46 y65 : Nat → Int32, v = none ∧ w = cW G r (su 65 (su 46 (su 45 s y45) y46) y65) l ∧ RowO (hh + 1) nn pc 5 y45 ∧ y65 0 = (bsR n nn hh Hb He (pc * (hh + 1) ^ (nn - 5)) ((hh + 1) ^ (nn - 5)) st).1 ∧ KPo (hh + 1) nn (bsR n nn hh Hb He (pc * (hh + 1) ^ (nn - 5)) ((hh + 1) ^ (nn - 5)) st) y46) := Ct.of rfl (Nat.le_of_ble_eq_true rfl) (j_X6_place5 r s l n hn hn8 Hb hb hR hk m hm6 He aw ha nn hnn hnn6 hnnn hh hhh hh4 hhm pc st hmo hkp hrow hsh hwf hop hle hpc (fun w_ y45 y46 y65 h1 h2 h3 h4 => ⟨y45, y46, y65, rfl, h1, h2, h3, h4⟩))
set_option maxRecDepth 100000 in
set_option maxHeartbeats 1000000 in
theorem j_X6_place4 {G : GT} (r : Nat → Nat) (s : St) (l : Nat → Int64) (n : Nat) (hn : s 52 0 = nI n) (hn8 : n ≤ 8) (Hb : Nat → Int32) (hb : Nat → Nat) (hR : CHr n Hb hb s) (hk : HbOk n Hb hb) (m : Nat) (hm6 : m ≤ 6) (He : Nat → Int32) (aw : Nat → Nat) (ha : AwOk m He aw) (nn : Nat) (hnn : s 63 0 = nI nn) (hnn6 : nn ≤ 6) (hnnn : nn ≤ n) (hh : Nat) (hhh : s 64 0 = nI hh) (hh4 : hh ≤ 4) (hhm : hh ≤ m) (pc : Nat) (st : Int32 × Int32) (hmo : s 65 0 = st.1) (hkp : KPo (hh + 1) nn st (s 46)) (hrow : RowO (hh + 1) nn pc 4 (s 45)) (hsh : ∀ q, q < hh → s 47 q = nI (shr (hh + 1) pc 4 q)) (hwf : ∀ k, k ≤ nn → s 48 k = nI (WFk Hb nn (nn - k))) (hop : ∀ q, q < hh → ∀ k, k ≤ nn → l (q * 7 + k) = lN (opN (lvB n Hb hb He aw) nn q (nn - k))) (hle : 4 ≤ nn) (hpc : pc < (hh + 1) ^ 4) {Q : Option Value → va_W → Prop} (hq : ∀ (w_ : va_W) (y45 y46 y65 : Nat → Int32), w_ = cW G r (su 65 (su 46 (su 45 s y45) y46) y65) l → RowO (hh + 1) nn pc 4 y45 → y65 0 = (bsR n nn hh Hb He (pc * (hh + 1) ^ (nn - 4)) ((hh + 1) ^ (nn - 4)) st).1 → KPo (hh + 1) nn (bsR n nn hh Hb He (pc * (hh + 1) ^ (nn - 4)) ((hh + 1) ^ (nn - 4)) st) y46 → Q none w_) : J G "place" RX6 cX6_place 6 none 0 0 4 Q 0 0 0 [(0, .ref (r 9)), (1, .ref (r 2)), (2, .int (nI 4)), (3, .int (nI (WS Hb (hh + 1) pc 4)))] [] (cW G r s l) := by
  have hWl := WS_le hk (base := hh + 1) (pc := pc) (h := 4) (by omega)
  have hFl := WFk_le hk hnnn (nn - 4) (by omega)
  refine J_iload_n dX6_place_0 rfl rfl ?_
  refine J_bipush (v := nI 7) dX6_place_1 (by decide) ?_
  refine J_cNi [.int (nI 4), .int (nI 7)] mn_X6_82 (c_X11_isBelowN (cW G r s l) (nI 4) 7) rfl rfl (by decide) (Nat.le_of_ble_eq_true rfl) ⟨Nat.le_refl _, Nat.le_refl _⟩ dX6_place_3 ?_
  refine J_if_eqB 32 dX6_place_6 (by decide) (fun c => absurd c (by rw [(show rng (nI 4) 7 = true by decide)]; decide)) (fun _ => ?_)
  refine J_iload_n dX6_place_9 rfl rfl ?_
  refine J_aload_n dX6_place_10 rfl rfl ?_
  refine Cg_9_3 fr_X6_21_5 dX6_place_11 ?_
  refine J_iload_n dX6_place_14 rfl rfl ?_
  refine Cl_48 (s := s) (s 48) rfl 4 rfl (by omega) dX6_place_15 ?_
  refine J_rw (y := nI (WFk Hb nn (nn - 4))) (hwf 4 hle) ?_
  refine J_iaddN dX6_place_16 ?_
  refine J_aload_n dX6_place_17 rfl rfl ?_
  refine Cg_9_7 (s := s) fr_X6_35_5 (s 65 0) rfl dX6_place_18 ?_
  refine J_rw (y := st.1) hmo ?_
  refine J_icmp_le 32 dX6_place_21 (by decide) (fun kcz1 => ?_) (fun kcz1 => ?_)
  · exact J_vret dX6_place_32 rfl rfl rfl (by rw [bsR_id (a := pc * (hh + 1) ^ (nn - 4)) (k := (hh + 1) ^ (nn - 4)) (st := st) (fun c h1 h2 => cut_w hk hnnn hn8 hh4 (by omega) (rg_div h1 h2) (by rw [show nn - (nn - 4) = 4 by omega]; exact kcz1))] at hq; exact hq _ (s 45) (s 46) (s 65) rfl hrow hmo hkp)
  · refine J_aload_n dX6_place_24 rfl rfl ?_
    refine J_iload_n dX6_place_25 rfl rfl ?_
    refine J_cVi (x := yX12_in) [.int (nI 4)] 9 mv_X6_93 (c_X6_mayAllLive r s l 4 (by decide) hh hhh hh4 (fun q => opN (lvB n Hb hb He aw) nn q (nn - 4)) (fun q => shr (hh + 1) pc 4 q) (fun q hq => ⟨hop q hq 4 hle, opN_lt _ _ _ hnn6 _⟩) (fun q hq => ⟨hsh q hq, Nat.lt_of_lt_of_le (shr_lt _ _ _ _) (Nat.pow_le_pow_right (n := 2) (by decide) (show 4 ≤ 6 by decide))⟩)) cW_9 rfl rfl (by decide) (Nat.le_of_ble_eq_true rfl) ⟨Nat.le_refl _, Nat.le_refl _⟩ dX6_place_26 ?_
    refine J_if_neB 33 dX6_place_29 (by decide) (fun kcz2 => ?_) (fun kcz2 => ?_)
    · refine J_iload_n dX6_place_33 rfl rfl ?_
      refine J_aload_n dX6_place_34 rfl rfl ?_
      refine Cg_9_5 (s := s) fr_X6_28_5 (s 63 0) rfl dX6_place_35 ?_
      refine J_rw (y := nI nn) hnn ?_
      refine J_icmp_geN 47 (by omega) (by omega) dX6_place_38 (by decide) (fun kcz3 => ?_) (fun kcz3 => ?_)
      · refine J_aload_n dX6_place_47 rfl rfl ?_
        refine J_iload_n dX6_place_48 rfl rfl ?_
        refine Cp_9_7 fr_X6_35_5 dX6_place_49 ?_
        refine J_aload_n dX6_place_52 rfl rfl ?_
        refine Cg_9_0 fr_X6_11_5 dX6_place_53 ?_
        refine J_iconst (v := nI 0) dX6_place_56 (by decide) ?_
        refine J_aload_n dX6_place_57 rfl rfl ?_
        refine Cg_9_1 fr_X6_15_5 dX6_place_58 ?_
        refine J_iconst (v := nI 0) dX6_place_61 (by decide) ?_
        refine J_bipush (v := nI 6) dX6_place_62 (by decide) ?_
        refine J_copyi (N0 := 6) (N1 := 6) ac_link6 ac_nat ac_stat ac_init 44 45 (cW G r (su 46 (su 65 s (fun _ => nI (WS Hb (hh + 1) pc 4))) (va_cpy (s 45) (s 46) 0 0 6)) l) rfl rfl (cI_nlt (by omega)) (cI_nlt (by omega)) (cI_nlt (by omega)) (by rw [nI_clamp (by omega), nI_clamp (by omega)]; omega) (by rw [nI_clamp (by omega), nI_clamp (by omega)]; omega) (by omega) (by decide) (by rw [nI_clamp (by omega), nI_clamp (by omega)]; rfl) dX6_place_64 ?_
        show J G "place" RX6 cX6_place 6 none 0 0 4 Q 0 0 67 [(0, .ref (r 9)), (1, .ref (r 2)), (2, .int (nI 4)), (3, .int (nI (WS Hb (hh + 1) pc 4)))] [] (cW G r (su 46 (su 65 s (fun _ => nI (WS Hb (hh + 1) pc 4))) (va_cpy (s 45) (s 46) 0 0 6)) l)
        refine J_ws (ws2 := (cW G r (su 65 (su 46 s (va_cpy (s 45) (s 46) 0 0 6)) (fun _ => nI (WS Hb (hh + 1) pc 4))) l)) (congrArg (fun q_ => cW G r q_ l) (su_sw (by decide))) ?_
        exact J_vret dX6_place_67 rfl rfl rfl (by obtain rfl : nn = 4 := (by omega); have e9 : bsR n 4 hh Hb He (pc * (hh + 1) ^ (4 - 4)) ((hh + 1) ^ (4 - 4)) st = (nI (WS Hb (hh + 1) pc 4), nI pc) := leaf_R (leaf_y hk ha hn8 hm6 hnnn hhm (by simpa [WFk] using kcz1) (fun q hq => allB_iff.mp kcz2 q hq)); rw [e9] at hq; exact hq _ (s 45) (va_cpy (s 45) (s 46) 0 0 6) (fun _ => nI (WS Hb (hh + 1) pc 4)) rfl hrow rfl (kp_leaf hrow (pc_lt hh4 (by omega) hpc)))
      · refine J_iload_n dX6_place_41 rfl rfl ?_
        refine J_bipush (v := nI 6) dX6_place_42 (by decide) ?_
        refine J_icmp_lt 68 dX6_place_44 (by decide) (fun _ => ?_) (fun c => absurd c (by decide))
        refine J_iconst (v := nI 0) dX6_place_68 (by decide) ?_
        refine J_istore [(0, .ref (r 9)), (1, .ref (r 2)), (2, .int (nI 4)), (3, .int (nI (WS Hb (hh + 1) pc 4))), (4, .int (nI 0))] dX6_place_69 (by decide) rfl rfl rfl ?_
        have L71 : ∀ (f e : Nat) (y45 y46 y65 : Nat → Int32), hh - e < f → e ≤ hh → RowO (hh + 1) nn pc 4 y45 → y65 0 = (bsR n nn hh Hb He (pc * (hh + 1) ^ (nn - 4)) (e * (hh + 1) ^ (nn - 5)) st).1 → KPo (hh + 1) nn (bsR n nn hh Hb He (pc * (hh + 1) ^ (nn - 4)) (e * (hh + 1) ^ (nn - 5)) st) y46 → ∀ (x4 : Int32), x4 = nI e → J G "place" RX6 cX6_place 6 none 0 0 4 Q 0 0 71 [(0, .ref (r 9)), (1, .ref (r 2)), (2, .int (nI 4)), (3, .int (nI (WS Hb (hh + 1) pc 4))), (4, .int x4)] [] (cW G r (su 65 (su 46 (su 45 s y45) y46) y65) l) := by
          intro f
          induction f with
          | zero => intro e y45 y46 y65 h; exact absurd h (Nat.not_lt_zero _)
          | succ f ih71 =>
            intro e y45 y46 y65 hf71 hle71 hy45 hy65 hy46 x4 e4
            subst e4
            refine J_iload dX6_place_71 rfl ?_
            refine J_aload_n dX6_place_73 rfl rfl ?_
            refine Cg_9_6 (s := (su 65 (su 46 (su 45 s y45) y46) y65)) fr_X6_32_5 (s 64 0) rfl dX6_place_74 ?_
            refine J_rw (y := nI hh) hhh ?_
            refine J_icmp_geN 150 (by omega) (by omega) dX6_place_77 (by decide) (fun kcz4 => ?_) (fun kcz4 => ?_)
            · obtain rfl : hh = e := (by omega)
              refine J_aload_n dX6_place_150 rfl rfl ?_
              refine Cg_9_0 fr_X6_11_5 dX6_place_151 ?_
              refine J_iload_n dX6_place_154 rfl rfl ?_
              refine J_iconst (v := -1) dX6_place_155 (by decide) ?_
              refine Cs_45 (s := (su 65 (su 46 (su 45 s y45) y46) y65)) y45 rfl 4 rfl (by omega) dX6_place_156 ?_
              refine J_ws (ws2 := (cW G r (su 65 (su 46 (su 45 s (upd y45 4 (-1))) y46) y65) l)) (congrArg (fun q_ => cW G r q_ l) ((su_sw (by decide)).trans (su_cg ((su_sw (by decide)).trans (su_cg su_tw))))) ?_
              refine J_aload_n dX6_place_157 rfl rfl ?_
              refine J_aload_n dX6_place_158 rfl rfl ?_
              refine J_iload_n dX6_place_159 rfl rfl ?_
              refine J_iconst (v := nI 1) dX6_place_160 (by decide) ?_
              refine J_iaddN dX6_place_161 ?_
              refine J_iload_n dX6_place_162 rfl rfl ?_
              refine J_rw (y := nI (WS Hb (hh + 1) (pc * (hh + 1) + hh) 5)) (congrArg nI (ws_chn (pc := pc) (h := 4) hh4)) ?_
              refine J_callS (wr := []) (As := [.ref (r 9), .ref (r 2), .int (nI (4 + 1)), .int (nI (WS Hb (hh + 1) (pc * (hh + 1) + hh) 5))]) (st := []) ms_X6_78 (c_X6_place5 r (su 65 (su 46 (su 45 s (upd y45 4 (-1))) y46) y65) l n hn hn8 Hb hb hR hk m hm6 He aw ha nn hnn hnn6 hnnn hh hhh hh4 hhm (pc * (hh + 1) + hh) (bsR n nn hh Hb He (pc * (hh + 1) ^ (nn - 4)) (hh * (hh + 1) ^ (nn - 5)) st) hy65 hy46 (row_chn hy45 (by omega)) (sh_chn hsh) hwf hop (by omega) (pc_ch hpc (by omega))) rfl rfl rfl (by decide) (Nat.le_of_ble_eq_true rfl) ⟨Nat.le_refl _, Nat.le_refl _⟩ dX6_place_163 (fun v_ w_ h_ => ?_)
              obtain ⟨x45_163, x46_163, x65_163, rfl, rfl, hr163, hm163, hk163⟩ := h_
              show J G "place" RX6 cX6_place 6 none 0 0 4 Q 0 0 166 [(0, .ref (r 9)), (1, .ref (r 2)), (2, .int (nI 4)), (3, .int (nI (WS Hb (hh + 1) pc 4))), (4, .int (nI hh))] [] (cW G r (su 65 (su 46 (su 45 (su 65 (su 46 (su 45 s (upd y45 4 (-1))) y46) y65) x45_163) x46_163) x65_163) l)
              refine J_ws (ws2 := (cW G r (su 65 (su 46 (su 45 s x45_163) x46_163) x65_163) l)) (congrArg (fun q_ => cW G r q_ l) (Eq.trans (Eq.trans (su_cg (su_cg ((su_sw (by decide)).trans (su_cg ((su_sw (by decide)).trans (su_cg su_tw)))))) (su_cg ((su_sw (by decide)).trans (su_cg su_tw)))) su_tw)) ?_
              exact J_vret dX6_place_166 rfl rfl rfl (hq _ x45_163 x46_163 x65_163 rfl (row_dn hr163 (by omega)) (hm163.trans (congrArg Prod.fst (rg_end (by omega)))) (by rw [← rg_end (n := n) (nn := nn) (hh := hh) (Hb := Hb) (He := He) (pc := pc) (h := 4) (st := st) (by omega)]; exact hk163))
            · refine J_iload dX6_place_80 rfl ?_
              refine J_iconst (v := nI 4) dX6_place_82 (by decide) ?_
              refine J_icmp_geN 150 (by omega) (by omega) dX6_place_83 (by decide) (fun kcz5 => ?_) (fun kcz5 => ?_)
              · obtain rfl : hh = e := (by omega)
                refine J_aload_n dX6_place_150 rfl rfl ?_
                refine Cg_9_0 fr_X6_11_5 dX6_place_151 ?_
                refine J_iload_n dX6_place_154 rfl rfl ?_
                refine J_iconst (v := -1) dX6_place_155 (by decide) ?_
                refine Cs_45 (s := (su 65 (su 46 (su 45 s y45) y46) y65)) y45 rfl 4 rfl (by omega) dX6_place_156 ?_
                refine J_ws (ws2 := (cW G r (su 65 (su 46 (su 45 s (upd y45 4 (-1))) y46) y65) l)) (congrArg (fun q_ => cW G r q_ l) ((su_sw (by decide)).trans (su_cg ((su_sw (by decide)).trans (su_cg su_tw))))) ?_
                refine J_aload_n dX6_place_157 rfl rfl ?_
                refine J_aload_n dX6_place_158 rfl rfl ?_
                refine J_iload_n dX6_place_159 rfl rfl ?_
                refine J_iconst (v := nI 1) dX6_place_160 (by decide) ?_
                refine J_iaddN dX6_place_161 ?_
                refine J_iload_n dX6_place_162 rfl rfl ?_
                refine J_rw (y := nI (WS Hb (hh + 1) (pc * (hh + 1) + hh) 5)) (congrArg nI (ws_chn (pc := pc) (h := 4) hh4)) ?_
                refine J_callS (wr := []) (As := [.ref (r 9), .ref (r 2), .int (nI (4 + 1)), .int (nI (WS Hb (hh + 1) (pc * (hh + 1) + hh) 5))]) (st := []) ms_X6_78 (c_X6_place5 r (su 65 (su 46 (su 45 s (upd y45 4 (-1))) y46) y65) l n hn hn8 Hb hb hR hk m hm6 He aw ha nn hnn hnn6 hnnn hh hhh hh4 hhm (pc * (hh + 1) + hh) (bsR n nn hh Hb He (pc * (hh + 1) ^ (nn - 4)) (hh * (hh + 1) ^ (nn - 5)) st) hy65 hy46 (row_chn hy45 (by omega)) (sh_chn hsh) hwf hop (by omega) (pc_ch hpc (by omega))) rfl rfl rfl (by decide) (Nat.le_of_ble_eq_true rfl) ⟨Nat.le_refl _, Nat.le_refl _⟩ dX6_place_163 (fun v_ w_ h_ => ?_)
                obtain ⟨x45_163, x46_163, x65_163, rfl, rfl, hr163, hm163, hk163⟩ := h_
                show J G "place" RX6 cX6_place 6 none 0 0 4 Q 0 0 166 [(0, .ref (r 9)), (1, .ref (r 2)), (2, .int (nI 4)), (3, .int (nI (WS Hb (hh + 1) pc 4))), (4, .int (nI hh))] [] (cW G r (su 65 (su 46 (su 45 (su 65 (su 46 (su 45 s (upd y45 4 (-1))) y46) y65) x45_163) x46_163) x65_163) l)
                refine J_ws (ws2 := (cW G r (su 65 (su 46 (su 45 s x45_163) x46_163) x65_163) l)) (congrArg (fun q_ => cW G r q_ l) (Eq.trans (Eq.trans (su_cg (su_cg ((su_sw (by decide)).trans (su_cg ((su_sw (by decide)).trans (su_cg su_tw)))))) (su_cg ((su_sw (by decide)).trans (su_cg su_tw)))) su_tw)) ?_
                exact J_vret dX6_place_166 rfl rfl rfl (hq _ x45_163 x46_163 x65_163 rfl (row_dn hr163 (by omega)) (hm163.trans (congrArg Prod.fst (rg_end (by omega)))) (by rw [← rg_end (n := n) (nn := nn) (hh := hh) (Hb := Hb) (He := He) (pc := pc) (h := 4) (st := st) (by omega)]; exact hk163))
              · refine J_aload_n dX6_place_86 rfl rfl ?_
                refine Cg_9_2 fr_X6_18_5 dX6_place_87 ?_
                refine J_iload dX6_place_90 rfl ?_
                refine Cl_47 (s := (su 65 (su 46 (su 45 s y45) y46) y65)) (s 47) rfl e rfl (by omega) dX6_place_92 ?_
                refine J_rw (y := nI (shr (hh + 1) pc 4 e)) (hsh e (by omega)) ?_
                refine J_istore [(0, .ref (r 9)), (1, .ref (r 2)), (2, .int (nI 4)), (3, .int (nI (WS Hb (hh + 1) pc 4))), (4, .int (nI e)), (5, .int (nI (shr (hh + 1) pc 4 e)))] dX6_place_93 (by decide) rfl rfl rfl ?_
                refine J_aload_n dX6_place_95 rfl rfl ?_
                refine Cg_9_2 fr_X6_18_5 dX6_place_96 ?_
                refine J_iload dX6_place_99 rfl ?_
                refine J_iload dX6_place_101 rfl ?_
                refine J_iconst (v := nI 1) dX6_place_103 (by decide) ?_
                refine J_iload_n dX6_place_104 rfl rfl ?_
                refine J_shl1N dX6_place_105 (by omega) ?_
                refine J_iorN dX6_place_106 ?_
                refine Cs_47 (s := (su 65 (su 46 (su 45 s y45) y46) y65)) (s 47) rfl e rfl (by omega) dX6_place_107 ?_
                refine J_ws (ws2 := (cW G r (su 65 (su 47 (su 46 (su 45 s y45) y46) (upd (s 47) e (nI ((shr (hh + 1) pc 4 e) ||| (2 ^ 4))))) y65) l)) (congrArg (fun q_ => cW G r q_ l) (su_sw (by decide))) ?_
                refine J_aload_n dX6_place_108 rfl rfl ?_
                refine Cg_9_0 fr_X6_11_5 dX6_place_109 ?_
                refine J_iload_n dX6_place_112 rfl rfl ?_
                refine J_iload dX6_place_113 rfl ?_
                refine Cs_45 (s := (su 65 (su 47 (su 46 (su 45 s y45) y46) (upd (s 47) e (nI ((shr (hh + 1) pc 4 e) ||| (2 ^ 4))))) y65)) y45 rfl 4 rfl (by omega) dX6_place_115 ?_
                refine J_ws (ws2 := (cW G r (su 65 (su 47 (su 46 (su 45 s (upd y45 4 (nI e))) y46) (upd (s 47) e (nI ((shr (hh + 1) pc 4 e) ||| (2 ^ 4))))) y65) l)) (congrArg (fun q_ => cW G r q_ l) ((su_sw (by decide)).trans (su_cg ((su_sw (by decide)).trans (su_cg ((su_sw (by decide)).trans (su_cg su_tw))))))) ?_
                refine J_aload_n dX6_place_116 rfl rfl ?_
                refine J_aload_n dX6_place_117 rfl rfl ?_
                refine J_iload_n dX6_place_118 rfl rfl ?_
                refine J_iconst (v := nI 1) dX6_place_119 (by decide) ?_
                refine J_iaddN dX6_place_120 ?_
                refine J_iload_n dX6_place_121 rfl rfl ?_
                refine J_aload_n dX6_place_122 rfl rfl ?_
                refine Cg_2_0 fr_X6_42_4 dX6_place_123 ?_
                refine Cg_3_8 fr_X6_103_2 dX6_place_126 ?_
                refine J_iload_n dX6_place_129 rfl rfl ?_
                refine Cl_23 (s := (su 65 (su 47 (su 46 (su 45 s (upd y45 4 (nI e))) y46) (upd (s 47) e (nI ((shr (hh + 1) pc 4 e) ||| (2 ^ 4))))) y65)) (s 23) rfl 4 rfl (by omega) dX6_place_130 ?_
                refine J_rw (y := nI (wN Hb 4)) ((hR 4 (by omega)).1.trans (wN_eq hk (by omega)).1) ?_
                refine J_iaddN dX6_place_131 ?_
                refine J_rw (y := nI (WS Hb (hh + 1) (pc * (hh + 1) + e) 5)) (congrArg nI (ws_che (by omega))) ?_
                refine J_callS (wr := []) (As := [.ref (r 9), .ref (r 2), .int (nI (4 + 1)), .int (nI (WS Hb (hh + 1) (pc * (hh + 1) + e) 5))]) (st := []) ms_X6_78 (c_X6_place5 r (su 65 (su 47 (su 46 (su 45 s (upd y45 4 (nI e))) y46) (upd (s 47) e (nI ((shr (hh + 1) pc 4 e) ||| (2 ^ 4))))) y65) l n hn hn8 Hb hb hR hk m hm6 He aw ha nn hnn hnn6 hnnn hh hhh hh4 hhm (pc * (hh + 1) + e) (bsR n nn hh Hb He (pc * (hh + 1) ^ (nn - 4)) (e * (hh + 1) ^ (nn - 5)) st) hy65 hy46 (row_che hy45 (by omega)) (sh_che hsh (by omega)) hwf hop (by omega) (pc_ch hpc (by omega))) rfl rfl rfl (by decide) (Nat.le_of_ble_eq_true rfl) ⟨Nat.le_refl _, Nat.le_refl _⟩ dX6_place_132 (fun v_ w_ h_ => ?_)
                obtain ⟨x45_132, x46_132, x65_132, rfl, rfl, hr132, hm132, hk132⟩ := h_
                show J G "place" RX6 cX6_place 6 none 0 0 4 Q 0 0 135 [(0, .ref (r 9)), (1, .ref (r 2)), (2, .int (nI 4)), (3, .int (nI (WS Hb (hh + 1) pc 4))), (4, .int (nI e)), (5, .int (nI (shr (hh + 1) pc 4 e)))] [] (cW G r (su 65 (su 46 (su 45 (su 65 (su 47 (su 46 (su 45 s (upd y45 4 (nI e))) y46) (upd (s 47) e (nI ((shr (hh + 1) pc 4 e) ||| (2 ^ 4))))) y65) x45_132) x46_132) x65_132) l)
                refine J_ws (ws2 := (cW G r (su 65 (su 47 (su 46 (su 45 s x45_132) x46_132) (upd (s 47) e (nI ((shr (hh + 1) pc 4 e) ||| (2 ^ 4))))) x65_132) l)) (congrArg (fun q_ => cW G r q_ l) (Eq.trans (Eq.trans (su_cg (su_cg ((su_sw (by decide)).trans (su_cg ((su_sw (by decide)).trans (su_cg ((su_sw (by decide)).trans (su_cg su_tw)))))))) (su_cg ((su_sw (by decide)).trans (su_cg ((su_sw (by decide)).trans (su_cg su_tw)))))) su_tw)) ?_
                refine J_aload_n dX6_place_135 rfl rfl ?_
                refine Cg_9_2 fr_X6_18_5 dX6_place_136 ?_
                refine J_iload dX6_place_139 rfl ?_
                refine J_iload dX6_place_141 rfl ?_
                refine Cs_47 (s := (su 65 (su 47 (su 46 (su 45 s x45_132) x46_132) (upd (s 47) e (nI ((shr (hh + 1) pc 4 e) ||| (2 ^ 4))))) x65_132)) (upd (s 47) e (nI ((shr (hh + 1) pc 4 e) ||| (2 ^ 4)))) rfl e rfl (by omega) dX6_place_143 ?_
                refine J_ws (ws2 := (cW G r (su 65 (su 47 (su 46 (su 45 s x45_132) x46_132) (upd (upd (s 47) e (nI ((shr (hh + 1) pc 4 e) ||| (2 ^ 4)))) e (nI (shr (hh + 1) pc 4 e)))) x65_132) l)) (congrArg (fun q_ => cW G r q_ l) ((su_sw (by decide)).trans (su_cg su_tw))) ?_
                refine J_ws (ws2 := (cW G r (su 65 (su 46 (su 45 s x45_132) x46_132) x65_132) l)) (congrArg (fun q_ => cW G r q_ l) (su_cg ((congrArg (su 47 _) (sh_back (hsh e (by omega)))).trans su_id))) ?_
                refine J_iincN [(0, .ref (r 9)), (1, .ref (r 2)), (2, .int (nI 4)), (3, .int (nI (WS Hb (hh + 1) pc 4))), (4, .int (nI (e + 1))), (5, .int (nI (shr (hh + 1) pc 4 e)))] dX6_place_144 rfl (by decide) rfl rfl rfl ?_
                refine J_goto 71 dX6_place_147 (by decide) ?_
                refine J_lv [0, 1, 2, 3, 4] rfl ?_
                exact ih71 (e + 1) x45_132 x46_132 x65_132 (by omega) (by omega) (row_dn hr132 (by omega)) (hm132.trans (congrArg Prod.fst (rg_st (by omega)))) (by rw [← rg_st (n := n) (nn := nn) (hh := hh) (Hb := Hb) (He := He) (pc := pc) (h := 4) (e := e) (st := st) (by omega)]; exact hk132) _ rfl
        exact L71 (hh + 1) 0 (s 45) (s 46) (s 65) (by omega) (by omega) hrow (by rw [Nat.zero_mul]; exact hmo) (by rw [Nat.zero_mul]; exact hkp) _ rfl
    · exact J_vret dX6_place_32 rfl rfl rfl (by rw [bsR_id (a := pc * (hh + 1) ^ (nn - 4)) (k := (hh + 1) ^ (nn - 4)) (st := st) (fun c h1 h2 => by obtain ⟨q, hq2, hqf⟩ := all_ex kcz2; exact cut_o hk ha hn8 hm6 hnnn hh4 hhm (by omega) (rg_div h1 h2) hq2 (by rw [show nn - (nn - 4) = 4 by omega]; exact hqf))] at hq; exact hq _ (s 45) (s 46) (s 65) rfl hrow hmo hkp)
theorem c_X6_place4 {G : GT} (r : Nat → Nat) (s : St) (l : Nat → Int64) (n : Nat) (hn : s 52 0 = nI n) (hn8 : n ≤ 8) (Hb : Nat → Int32) (hb : Nat → Nat) (hR : CHr n Hb hb s) (hk : HbOk n Hb hb) (m : Nat) (hm6 : m ≤ 6) (He : Nat → Int32) (aw : Nat → Nat) (ha : AwOk m He aw) (nn : Nat) (hnn : s 63 0 = nI nn) (hnn6 : nn ≤ 6) (hnnn : nn ≤ n) (hh : Nat) (hhh : s 64 0 = nI hh) (hh4 : hh ≤ 4) (hhm : hh ≤ m) (pc : Nat) (st : Int32 × Int32) (hmo : s 65 0 = st.1) (hkp : KPo (hh + 1) nn st (s 46)) (hrow : RowO (hh + 1) nn pc 4 (s 45)) (hsh : ∀ q, q < hh → s 47 q = nI (shr (hh + 1) pc 4 q)) (hwf : ∀ k, k ≤ nn → s 48 k = nI (WFk Hb nn (nn - k))) (hop : ∀ q, q < hh → ∀ k, k ≤ nn → l (q * 7 + k) = lN (opN (lvB n Hb hb He aw) nn q (nn - k))) (hle : 4 ≤ nn) (hpc : pc < (hh + 1) ^ 4) : Ct G yX6_place cX6_place 6 none 0 0 4 [.ref (r 9), .ref (r 2), .int (nI 4), .int (nI (WS Hb (hh + 1) pc 4))] (cW G r s l) (fun v w => ∃ y45 y46 y65 : Nat → Int32, v = none ∧ w = cW G r (su 65 (su 46 (su 45 s y45) y46) y65) l ∧ RowO (hh + 1) nn pc 4 y45 ∧ y65 0 = (bsR n nn hh Hb He (pc * (hh + 1) ^ (nn - 4)) ((hh + 1) ^ (nn - 4)) st).1 ∧ KPo (hh + 1) nn (bsR n nn hh Hb He (pc * (hh + 1) ^ (nn - 4)) ((hh + 1) ^ (nn - 4)) st) y46) := Ct.of rfl (Nat.le_of_ble_eq_true rfl) (j_X6_place4 r s l n hn hn8 Hb hb hR hk m hm6 He aw ha nn hnn hnn6 hnnn hh hhh hh4 hhm pc st hmo hkp hrow hsh hwf hop hle hpc (fun w_ y45 y46 y65 h1 h2 h3 h4 => ⟨y45, y46, y65, rfl, h1, h2, h3, h4⟩))
set_option maxRecDepth 100000 in
set_option maxHeartbeats 1000000 in
theorem j_X6_place3 {G : GT} (r : Nat → Nat) (s : St) (l : Nat → Int64) (n : Nat) (hn : s 52 0 = nI n) (hn8 : n ≤ 8) (Hb : Nat → Int32) (hb : Nat → Nat) (hR : CHr n Hb hb s) (hk : HbOk n Hb hb) (m : Nat) (hm6 : m ≤ 6) (He : Nat → Int32) (aw : Nat → Nat) (ha : AwOk m He aw) (nn : Nat) (hnn : s 63 0 = nI nn) (hnn6 : nn ≤ 6) (hnnn : nn ≤ n) (hh : Nat) (hhh : s 64 0 = nI hh) (hh4 : hh ≤ 4) (hhm : hh ≤ m) (pc : Nat) (st : Int32 × Int32) (hmo : s 65 0 = st.1) (hkp : KPo (hh + 1) nn st (s 46)) (hrow : RowO (hh + 1) nn pc 3 (s 45)) (hsh : ∀ q, q < hh → s 47 q = nI (shr (hh + 1) pc 3 q)) (hwf : ∀ k, k ≤ nn → s 48 k = nI (WFk Hb nn (nn - k))) (hop : ∀ q, q < hh → ∀ k, k ≤ nn → l (q * 7 + k) = lN (opN (lvB n Hb hb He aw) nn q (nn - k))) (hle : 3 ≤ nn) (hpc : pc < (hh + 1) ^ 3) {Q : Option Value → va_W → Prop} (hq : ∀ (w_ : va_W) (y45 y46 y65 : Nat → Int32), w_ = cW G r (su 65 (su 46 (su 45 s y45) y46) y65) l → RowO (hh + 1) nn pc 3 y45 → y65 0 = (bsR n nn hh Hb He (pc * (hh + 1) ^ (nn - 3)) ((hh + 1) ^ (nn - 3)) st).1 → KPo (hh + 1) nn (bsR n nn hh Hb He (pc * (hh + 1) ^ (nn - 3)) ((hh + 1) ^ (nn - 3)) st) y46 → Q none w_) : J G "place" RX6 cX6_place 6 none 0 0 5 Q 0 0 0 [(0, .ref (r 9)), (1, .ref (r 2)), (2, .int (nI 3)), (3, .int (nI (WS Hb (hh + 1) pc 3)))] [] (cW G r s l) := by
  have hWl := WS_le hk (base := hh + 1) (pc := pc) (h := 3) (by omega)
  have hFl := WFk_le hk hnnn (nn - 3) (by omega)
  refine J_iload_n dX6_place_0 rfl rfl ?_
  refine J_bipush (v := nI 7) dX6_place_1 (by decide) ?_
  refine J_cNi [.int (nI 3), .int (nI 7)] mn_X6_82 (c_X11_isBelowN (cW G r s l) (nI 3) 7) rfl rfl (by decide) (Nat.le_of_ble_eq_true rfl) ⟨Nat.le_refl _, Nat.le_refl _⟩ dX6_place_3 ?_
  refine J_if_eqB 32 dX6_place_6 (by decide) (fun c => absurd c (by rw [(show rng (nI 3) 7 = true by decide)]; decide)) (fun _ => ?_)
  refine J_iload_n dX6_place_9 rfl rfl ?_
  refine J_aload_n dX6_place_10 rfl rfl ?_
  refine Cg_9_3 fr_X6_21_5 dX6_place_11 ?_
  refine J_iload_n dX6_place_14 rfl rfl ?_
  refine Cl_48 (s := s) (s 48) rfl 3 rfl (by omega) dX6_place_15 ?_
  refine J_rw (y := nI (WFk Hb nn (nn - 3))) (hwf 3 hle) ?_
  refine J_iaddN dX6_place_16 ?_
  refine J_aload_n dX6_place_17 rfl rfl ?_
  refine Cg_9_7 (s := s) fr_X6_35_5 (s 65 0) rfl dX6_place_18 ?_
  refine J_rw (y := st.1) hmo ?_
  refine J_icmp_le 32 dX6_place_21 (by decide) (fun kcz1 => ?_) (fun kcz1 => ?_)
  · exact J_vret dX6_place_32 rfl rfl rfl (by rw [bsR_id (a := pc * (hh + 1) ^ (nn - 3)) (k := (hh + 1) ^ (nn - 3)) (st := st) (fun c h1 h2 => cut_w hk hnnn hn8 hh4 (by omega) (rg_div h1 h2) (by rw [show nn - (nn - 3) = 3 by omega]; exact kcz1))] at hq; exact hq _ (s 45) (s 46) (s 65) rfl hrow hmo hkp)
  · refine J_aload_n dX6_place_24 rfl rfl ?_
    refine J_iload_n dX6_place_25 rfl rfl ?_
    refine J_cVi (x := yX12_in) [.int (nI 3)] 9 mv_X6_93 (c_X6_mayAllLive r s l 3 (by decide) hh hhh hh4 (fun q => opN (lvB n Hb hb He aw) nn q (nn - 3)) (fun q => shr (hh + 1) pc 3 q) (fun q hq => ⟨hop q hq 3 hle, opN_lt _ _ _ hnn6 _⟩) (fun q hq => ⟨hsh q hq, Nat.lt_of_lt_of_le (shr_lt _ _ _ _) (Nat.pow_le_pow_right (n := 2) (by decide) (show 3 ≤ 6 by decide))⟩)) cW_9 rfl rfl (by decide) (Nat.le_of_ble_eq_true rfl) ⟨Nat.le_refl _, Nat.le_refl _⟩ dX6_place_26 ?_
    refine J_if_neB 33 dX6_place_29 (by decide) (fun kcz2 => ?_) (fun kcz2 => ?_)
    · refine J_iload_n dX6_place_33 rfl rfl ?_
      refine J_aload_n dX6_place_34 rfl rfl ?_
      refine Cg_9_5 (s := s) fr_X6_28_5 (s 63 0) rfl dX6_place_35 ?_
      refine J_rw (y := nI nn) hnn ?_
      refine J_icmp_geN 47 (by omega) (by omega) dX6_place_38 (by decide) (fun kcz3 => ?_) (fun kcz3 => ?_)
      · refine J_aload_n dX6_place_47 rfl rfl ?_
        refine J_iload_n dX6_place_48 rfl rfl ?_
        refine Cp_9_7 fr_X6_35_5 dX6_place_49 ?_
        refine J_aload_n dX6_place_52 rfl rfl ?_
        refine Cg_9_0 fr_X6_11_5 dX6_place_53 ?_
        refine J_iconst (v := nI 0) dX6_place_56 (by decide) ?_
        refine J_aload_n dX6_place_57 rfl rfl ?_
        refine Cg_9_1 fr_X6_15_5 dX6_place_58 ?_
        refine J_iconst (v := nI 0) dX6_place_61 (by decide) ?_
        refine J_bipush (v := nI 6) dX6_place_62 (by decide) ?_
        refine J_copyi (N0 := 6) (N1 := 6) ac_link6 ac_nat ac_stat ac_init 44 45 (cW G r (su 46 (su 65 s (fun _ => nI (WS Hb (hh + 1) pc 3))) (va_cpy (s 45) (s 46) 0 0 6)) l) rfl rfl (cI_nlt (by omega)) (cI_nlt (by omega)) (cI_nlt (by omega)) (by rw [nI_clamp (by omega), nI_clamp (by omega)]; omega) (by rw [nI_clamp (by omega), nI_clamp (by omega)]; omega) (by omega) (by decide) (by rw [nI_clamp (by omega), nI_clamp (by omega)]; rfl) dX6_place_64 ?_
        show J G "place" RX6 cX6_place 6 none 0 0 5 Q 0 0 67 [(0, .ref (r 9)), (1, .ref (r 2)), (2, .int (nI 3)), (3, .int (nI (WS Hb (hh + 1) pc 3)))] [] (cW G r (su 46 (su 65 s (fun _ => nI (WS Hb (hh + 1) pc 3))) (va_cpy (s 45) (s 46) 0 0 6)) l)
        refine J_ws (ws2 := (cW G r (su 65 (su 46 s (va_cpy (s 45) (s 46) 0 0 6)) (fun _ => nI (WS Hb (hh + 1) pc 3))) l)) (congrArg (fun q_ => cW G r q_ l) (su_sw (by decide))) ?_
        exact J_vret dX6_place_67 rfl rfl rfl (by obtain rfl : nn = 3 := (by omega); have e9 : bsR n 3 hh Hb He (pc * (hh + 1) ^ (3 - 3)) ((hh + 1) ^ (3 - 3)) st = (nI (WS Hb (hh + 1) pc 3), nI pc) := leaf_R (leaf_y hk ha hn8 hm6 hnnn hhm (by simpa [WFk] using kcz1) (fun q hq => allB_iff.mp kcz2 q hq)); rw [e9] at hq; exact hq _ (s 45) (va_cpy (s 45) (s 46) 0 0 6) (fun _ => nI (WS Hb (hh + 1) pc 3)) rfl hrow rfl (kp_leaf hrow (pc_lt hh4 (by omega) hpc)))
      · refine J_iload_n dX6_place_41 rfl rfl ?_
        refine J_bipush (v := nI 6) dX6_place_42 (by decide) ?_
        refine J_icmp_lt 68 dX6_place_44 (by decide) (fun _ => ?_) (fun c => absurd c (by decide))
        refine J_iconst (v := nI 0) dX6_place_68 (by decide) ?_
        refine J_istore [(0, .ref (r 9)), (1, .ref (r 2)), (2, .int (nI 3)), (3, .int (nI (WS Hb (hh + 1) pc 3))), (4, .int (nI 0))] dX6_place_69 (by decide) rfl rfl rfl ?_
        have L71 : ∀ (f e : Nat) (y45 y46 y65 : Nat → Int32), hh - e < f → e ≤ hh → RowO (hh + 1) nn pc 3 y45 → y65 0 = (bsR n nn hh Hb He (pc * (hh + 1) ^ (nn - 3)) (e * (hh + 1) ^ (nn - 4)) st).1 → KPo (hh + 1) nn (bsR n nn hh Hb He (pc * (hh + 1) ^ (nn - 3)) (e * (hh + 1) ^ (nn - 4)) st) y46 → ∀ (x4 : Int32), x4 = nI e → J G "place" RX6 cX6_place 6 none 0 0 5 Q 0 0 71 [(0, .ref (r 9)), (1, .ref (r 2)), (2, .int (nI 3)), (3, .int (nI (WS Hb (hh + 1) pc 3))), (4, .int x4)] [] (cW G r (su 65 (su 46 (su 45 s y45) y46) y65) l) := by
          intro f
          induction f with
          | zero => intro e y45 y46 y65 h; exact absurd h (Nat.not_lt_zero _)
          | succ f ih71 =>
            intro e y45 y46 y65 hf71 hle71 hy45 hy65 hy46 x4 e4
            subst e4
            refine J_iload dX6_place_71 rfl ?_
            refine J_aload_n dX6_place_73 rfl rfl ?_
            refine Cg_9_6 (s := (su 65 (su 46 (su 45 s y45) y46) y65)) fr_X6_32_5 (s 64 0) rfl dX6_place_74 ?_
            refine J_rw (y := nI hh) hhh ?_
            refine J_icmp_geN 150 (by omega) (by omega) dX6_place_77 (by decide) (fun kcz4 => ?_) (fun kcz4 => ?_)
            · obtain rfl : hh = e := (by omega)
              refine J_aload_n dX6_place_150 rfl rfl ?_
              refine Cg_9_0 fr_X6_11_5 dX6_place_151 ?_
              refine J_iload_n dX6_place_154 rfl rfl ?_
              refine J_iconst (v := -1) dX6_place_155 (by decide) ?_
              refine Cs_45 (s := (su 65 (su 46 (su 45 s y45) y46) y65)) y45 rfl 3 rfl (by omega) dX6_place_156 ?_
              refine J_ws (ws2 := (cW G r (su 65 (su 46 (su 45 s (upd y45 3 (-1))) y46) y65) l)) (congrArg (fun q_ => cW G r q_ l) ((su_sw (by decide)).trans (su_cg ((su_sw (by decide)).trans (su_cg su_tw))))) ?_
              refine J_aload_n dX6_place_157 rfl rfl ?_
              refine J_aload_n dX6_place_158 rfl rfl ?_
              refine J_iload_n dX6_place_159 rfl rfl ?_
              refine J_iconst (v := nI 1) dX6_place_160 (by decide) ?_
              refine J_iaddN dX6_place_161 ?_
              refine J_iload_n dX6_place_162 rfl rfl ?_
              refine J_rw (y := nI (WS Hb (hh + 1) (pc * (hh + 1) + hh) 4)) (congrArg nI (ws_chn (pc := pc) (h := 3) hh4)) ?_
              refine J_callS (wr := []) (As := [.ref (r 9), .ref (r 2), .int (nI (3 + 1)), .int (nI (WS Hb (hh + 1) (pc * (hh + 1) + hh) 4))]) (st := []) ms_X6_78 (c_X6_place4 r (su 65 (su 46 (su 45 s (upd y45 3 (-1))) y46) y65) l n hn hn8 Hb hb hR hk m hm6 He aw ha nn hnn hnn6 hnnn hh hhh hh4 hhm (pc * (hh + 1) + hh) (bsR n nn hh Hb He (pc * (hh + 1) ^ (nn - 3)) (hh * (hh + 1) ^ (nn - 4)) st) hy65 hy46 (row_chn hy45 (by omega)) (sh_chn hsh) hwf hop (by omega) (pc_ch hpc (by omega))) rfl rfl rfl (by decide) (Nat.le_of_ble_eq_true rfl) ⟨Nat.le_refl _, Nat.le_refl _⟩ dX6_place_163 (fun v_ w_ h_ => ?_)
              obtain ⟨x45_163, x46_163, x65_163, rfl, rfl, hr163, hm163, hk163⟩ := h_
              show J G "place" RX6 cX6_place 6 none 0 0 5 Q 0 0 166 [(0, .ref (r 9)), (1, .ref (r 2)), (2, .int (nI 3)), (3, .int (nI (WS Hb (hh + 1) pc 3))), (4, .int (nI hh))] [] (cW G r (su 65 (su 46 (su 45 (su 65 (su 46 (su 45 s (upd y45 3 (-1))) y46) y65) x45_163) x46_163) x65_163) l)
              refine J_ws (ws2 := (cW G r (su 65 (su 46 (su 45 s x45_163) x46_163) x65_163) l)) (congrArg (fun q_ => cW G r q_ l) (Eq.trans (Eq.trans (su_cg (su_cg ((su_sw (by decide)).trans (su_cg ((su_sw (by decide)).trans (su_cg su_tw)))))) (su_cg ((su_sw (by decide)).trans (su_cg su_tw)))) su_tw)) ?_
              exact J_vret dX6_place_166 rfl rfl rfl (hq _ x45_163 x46_163 x65_163 rfl (row_dn hr163 (by omega)) (hm163.trans (congrArg Prod.fst (rg_end (by omega)))) (by rw [← rg_end (n := n) (nn := nn) (hh := hh) (Hb := Hb) (He := He) (pc := pc) (h := 3) (st := st) (by omega)]; exact hk163))
            · refine J_iload dX6_place_80 rfl ?_
              refine J_iconst (v := nI 4) dX6_place_82 (by decide) ?_
              refine J_icmp_geN 150 (by omega) (by omega) dX6_place_83 (by decide) (fun kcz5 => ?_) (fun kcz5 => ?_)
              · obtain rfl : hh = e := (by omega)
                refine J_aload_n dX6_place_150 rfl rfl ?_
                refine Cg_9_0 fr_X6_11_5 dX6_place_151 ?_
                refine J_iload_n dX6_place_154 rfl rfl ?_
                refine J_iconst (v := -1) dX6_place_155 (by decide) ?_
                refine Cs_45 (s := (su 65 (su 46 (su 45 s y45) y46) y65)) y45 rfl 3 rfl (by omega) dX6_place_156 ?_
                refine J_ws (ws2 := (cW G r (su 65 (su 46 (su 45 s (upd y45 3 (-1))) y46) y65) l)) (congrArg (fun q_ => cW G r q_ l) ((su_sw (by decide)).trans (su_cg ((su_sw (by decide)).trans (su_cg su_tw))))) ?_
                refine J_aload_n dX6_place_157 rfl rfl ?_
                refine J_aload_n dX6_place_158 rfl rfl ?_
                refine J_iload_n dX6_place_159 rfl rfl ?_
                refine J_iconst (v := nI 1) dX6_place_160 (by decide) ?_
                refine J_iaddN dX6_place_161 ?_
                refine J_iload_n dX6_place_162 rfl rfl ?_
                refine J_rw (y := nI (WS Hb (hh + 1) (pc * (hh + 1) + hh) 4)) (congrArg nI (ws_chn (pc := pc) (h := 3) hh4)) ?_
                refine J_callS (wr := []) (As := [.ref (r 9), .ref (r 2), .int (nI (3 + 1)), .int (nI (WS Hb (hh + 1) (pc * (hh + 1) + hh) 4))]) (st := []) ms_X6_78 (c_X6_place4 r (su 65 (su 46 (su 45 s (upd y45 3 (-1))) y46) y65) l n hn hn8 Hb hb hR hk m hm6 He aw ha nn hnn hnn6 hnnn hh hhh hh4 hhm (pc * (hh + 1) + hh) (bsR n nn hh Hb He (pc * (hh + 1) ^ (nn - 3)) (hh * (hh + 1) ^ (nn - 4)) st) hy65 hy46 (row_chn hy45 (by omega)) (sh_chn hsh) hwf hop (by omega) (pc_ch hpc (by omega))) rfl rfl rfl (by decide) (Nat.le_of_ble_eq_true rfl) ⟨Nat.le_refl _, Nat.le_refl _⟩ dX6_place_163 (fun v_ w_ h_ => ?_)
                obtain ⟨x45_163, x46_163, x65_163, rfl, rfl, hr163, hm163, hk163⟩ := h_
                show J G "place" RX6 cX6_place 6 none 0 0 5 Q 0 0 166 [(0, .ref (r 9)), (1, .ref (r 2)), (2, .int (nI 3)), (3, .int (nI (WS Hb (hh + 1) pc 3))), (4, .int (nI hh))] [] (cW G r (su 65 (su 46 (su 45 (su 65 (su 46 (su 45 s (upd y45 3 (-1))) y46) y65) x45_163) x46_163) x65_163) l)
                refine J_ws (ws2 := (cW G r (su 65 (su 46 (su 45 s x45_163) x46_163) x65_163) l)) (congrArg (fun q_ => cW G r q_ l) (Eq.trans (Eq.trans (su_cg (su_cg ((su_sw (by decide)).trans (su_cg ((su_sw (by decide)).trans (su_cg su_tw)))))) (su_cg ((su_sw (by decide)).trans (su_cg su_tw)))) su_tw)) ?_
                exact J_vret dX6_place_166 rfl rfl rfl (hq _ x45_163 x46_163 x65_163 rfl (row_dn hr163 (by omega)) (hm163.trans (congrArg Prod.fst (rg_end (by omega)))) (by rw [← rg_end (n := n) (nn := nn) (hh := hh) (Hb := Hb) (He := He) (pc := pc) (h := 3) (st := st) (by omega)]; exact hk163))
              · refine J_aload_n dX6_place_86 rfl rfl ?_
                refine Cg_9_2 fr_X6_18_5 dX6_place_87 ?_
                refine J_iload dX6_place_90 rfl ?_
                refine Cl_47 (s := (su 65 (su 46 (su 45 s y45) y46) y65)) (s 47) rfl e rfl (by omega) dX6_place_92 ?_
                refine J_rw (y := nI (shr (hh + 1) pc 3 e)) (hsh e (by omega)) ?_
                refine J_istore [(0, .ref (r 9)), (1, .ref (r 2)), (2, .int (nI 3)), (3, .int (nI (WS Hb (hh + 1) pc 3))), (4, .int (nI e)), (5, .int (nI (shr (hh + 1) pc 3 e)))] dX6_place_93 (by decide) rfl rfl rfl ?_
                refine J_aload_n dX6_place_95 rfl rfl ?_
                refine Cg_9_2 fr_X6_18_5 dX6_place_96 ?_
                refine J_iload dX6_place_99 rfl ?_
                refine J_iload dX6_place_101 rfl ?_
                refine J_iconst (v := nI 1) dX6_place_103 (by decide) ?_
                refine J_iload_n dX6_place_104 rfl rfl ?_
                refine J_shl1N dX6_place_105 (by omega) ?_
                refine J_iorN dX6_place_106 ?_
                refine Cs_47 (s := (su 65 (su 46 (su 45 s y45) y46) y65)) (s 47) rfl e rfl (by omega) dX6_place_107 ?_
                refine J_ws (ws2 := (cW G r (su 65 (su 47 (su 46 (su 45 s y45) y46) (upd (s 47) e (nI ((shr (hh + 1) pc 3 e) ||| (2 ^ 3))))) y65) l)) (congrArg (fun q_ => cW G r q_ l) (su_sw (by decide))) ?_
                refine J_aload_n dX6_place_108 rfl rfl ?_
                refine Cg_9_0 fr_X6_11_5 dX6_place_109 ?_
                refine J_iload_n dX6_place_112 rfl rfl ?_
                refine J_iload dX6_place_113 rfl ?_
                refine Cs_45 (s := (su 65 (su 47 (su 46 (su 45 s y45) y46) (upd (s 47) e (nI ((shr (hh + 1) pc 3 e) ||| (2 ^ 3))))) y65)) y45 rfl 3 rfl (by omega) dX6_place_115 ?_
                refine J_ws (ws2 := (cW G r (su 65 (su 47 (su 46 (su 45 s (upd y45 3 (nI e))) y46) (upd (s 47) e (nI ((shr (hh + 1) pc 3 e) ||| (2 ^ 3))))) y65) l)) (congrArg (fun q_ => cW G r q_ l) ((su_sw (by decide)).trans (su_cg ((su_sw (by decide)).trans (su_cg ((su_sw (by decide)).trans (su_cg su_tw))))))) ?_
                refine J_aload_n dX6_place_116 rfl rfl ?_
                refine J_aload_n dX6_place_117 rfl rfl ?_
                refine J_iload_n dX6_place_118 rfl rfl ?_
                refine J_iconst (v := nI 1) dX6_place_119 (by decide) ?_
                refine J_iaddN dX6_place_120 ?_
                refine J_iload_n dX6_place_121 rfl rfl ?_
                refine J_aload_n dX6_place_122 rfl rfl ?_
                refine Cg_2_0 fr_X6_42_4 dX6_place_123 ?_
                refine Cg_3_8 fr_X6_103_2 dX6_place_126 ?_
                refine J_iload_n dX6_place_129 rfl rfl ?_
                refine Cl_23 (s := (su 65 (su 47 (su 46 (su 45 s (upd y45 3 (nI e))) y46) (upd (s 47) e (nI ((shr (hh + 1) pc 3 e) ||| (2 ^ 3))))) y65)) (s 23) rfl 3 rfl (by omega) dX6_place_130 ?_
                refine J_rw (y := nI (wN Hb 3)) ((hR 3 (by omega)).1.trans (wN_eq hk (by omega)).1) ?_
                refine J_iaddN dX6_place_131 ?_
                refine J_rw (y := nI (WS Hb (hh + 1) (pc * (hh + 1) + e) 4)) (congrArg nI (ws_che (by omega))) ?_
                refine J_callS (wr := []) (As := [.ref (r 9), .ref (r 2), .int (nI (3 + 1)), .int (nI (WS Hb (hh + 1) (pc * (hh + 1) + e) 4))]) (st := []) ms_X6_78 (c_X6_place4 r (su 65 (su 47 (su 46 (su 45 s (upd y45 3 (nI e))) y46) (upd (s 47) e (nI ((shr (hh + 1) pc 3 e) ||| (2 ^ 3))))) y65) l n hn hn8 Hb hb hR hk m hm6 He aw ha nn hnn hnn6 hnnn hh hhh hh4 hhm (pc * (hh + 1) + e) (bsR n nn hh Hb He (pc * (hh + 1) ^ (nn - 3)) (e * (hh + 1) ^ (nn - 4)) st) hy65 hy46 (row_che hy45 (by omega)) (sh_che hsh (by omega)) hwf hop (by omega) (pc_ch hpc (by omega))) rfl rfl rfl (by decide) (Nat.le_of_ble_eq_true rfl) ⟨Nat.le_refl _, Nat.le_refl _⟩ dX6_place_132 (fun v_ w_ h_ => ?_)
                obtain ⟨x45_132, x46_132, x65_132, rfl, rfl, hr132, hm132, hk132⟩ := h_
                show J G "place" RX6 cX6_place 6 none 0 0 5 Q 0 0 135 [(0, .ref (r 9)), (1, .ref (r 2)), (2, .int (nI 3)), (3, .int (nI (WS Hb (hh + 1) pc 3))), (4, .int (nI e)), (5, .int (nI (shr (hh + 1) pc 3 e)))] [] (cW G r (su 65 (su 46 (su 45 (su 65 (su 47 (su 46 (su 45 s (upd y45 3 (nI e))) y46) (upd (s 47) e (nI ((shr (hh + 1) pc 3 e) ||| (2 ^ 3))))) y65) x45_132) x46_132) x65_132) l)
                refine J_ws (ws2 := (cW G r (su 65 (su 47 (su 46 (su 45 s x45_132) x46_132) (upd (s 47) e (nI ((shr (hh + 1) pc 3 e) ||| (2 ^ 3))))) x65_132) l)) (congrArg (fun q_ => cW G r q_ l) (Eq.trans (Eq.trans (su_cg (su_cg ((su_sw (by decide)).trans (su_cg ((su_sw (by decide)).trans (su_cg ((su_sw (by decide)).trans (su_cg su_tw)))))))) (su_cg ((su_sw (by decide)).trans (su_cg ((su_sw (by decide)).trans (su_cg su_tw)))))) su_tw)) ?_
                refine J_aload_n dX6_place_135 rfl rfl ?_
                refine Cg_9_2 fr_X6_18_5 dX6_place_136 ?_
                refine J_iload dX6_place_139 rfl ?_
                refine J_iload dX6_place_141 rfl ?_
                refine Cs_47 (s := (su 65 (su 47 (su 46 (su 45 s x45_132) x46_132) (upd (s 47) e (nI ((shr (hh + 1) pc 3 e) ||| (2 ^ 3))))) x65_132)) (upd (s 47) e (nI ((shr (hh + 1) pc 3 e) ||| (2 ^ 3)))) rfl e rfl (by omega) dX6_place_143 ?_
                refine J_ws (ws2 := (cW G r (su 65 (su 47 (su 46 (su 45 s x45_132) x46_132) (upd (upd (s 47) e (nI ((shr (hh + 1) pc 3 e) ||| (2 ^ 3)))) e (nI (shr (hh + 1) pc 3 e)))) x65_132) l)) (congrArg (fun q_ => cW G r q_ l) ((su_sw (by decide)).trans (su_cg su_tw))) ?_
                refine J_ws (ws2 := (cW G r (su 65 (su 46 (su 45 s x45_132) x46_132) x65_132) l)) (congrArg (fun q_ => cW G r q_ l) (su_cg ((congrArg (su 47 _) (sh_back (hsh e (by omega)))).trans su_id))) ?_
                refine J_iincN [(0, .ref (r 9)), (1, .ref (r 2)), (2, .int (nI 3)), (3, .int (nI (WS Hb (hh + 1) pc 3))), (4, .int (nI (e + 1))), (5, .int (nI (shr (hh + 1) pc 3 e)))] dX6_place_144 rfl (by decide) rfl rfl rfl ?_
                refine J_goto 71 dX6_place_147 (by decide) ?_
                refine J_lv [0, 1, 2, 3, 4] rfl ?_
                exact ih71 (e + 1) x45_132 x46_132 x65_132 (by omega) (by omega) (row_dn hr132 (by omega)) (hm132.trans (congrArg Prod.fst (rg_st (by omega)))) (by rw [← rg_st (n := n) (nn := nn) (hh := hh) (Hb := Hb) (He := He) (pc := pc) (h := 3) (e := e) (st := st) (by omega)]; exact hk132) _ rfl
        exact L71 (hh + 1) 0 (s 45) (s 46) (s 65) (by omega) (by omega) hrow (by rw [Nat.zero_mul]; exact hmo) (by rw [Nat.zero_mul]; exact hkp) _ rfl
    · exact J_vret dX6_place_32 rfl rfl rfl (by rw [bsR_id (a := pc * (hh + 1) ^ (nn - 3)) (k := (hh + 1) ^ (nn - 3)) (st := st) (fun c h1 h2 => by obtain ⟨q, hq2, hqf⟩ := all_ex kcz2; exact cut_o hk ha hn8 hm6 hnnn hh4 hhm (by omega) (rg_div h1 h2) hq2 (by rw [show nn - (nn - 3) = 3 by omega]; exact hqf))] at hq; exact hq _ (s 45) (s 46) (s 65) rfl hrow hmo hkp)
theorem c_X6_place3 {G : GT} (r : Nat → Nat) (s : St) (l : Nat → Int64) (n : Nat) (hn : s 52 0 = nI n) (hn8 : n ≤ 8) (Hb : Nat → Int32) (hb : Nat → Nat) (hR : CHr n Hb hb s) (hk : HbOk n Hb hb) (m : Nat) (hm6 : m ≤ 6) (He : Nat → Int32) (aw : Nat → Nat) (ha : AwOk m He aw) (nn : Nat) (hnn : s 63 0 = nI nn) (hnn6 : nn ≤ 6) (hnnn : nn ≤ n) (hh : Nat) (hhh : s 64 0 = nI hh) (hh4 : hh ≤ 4) (hhm : hh ≤ m) (pc : Nat) (st : Int32 × Int32) (hmo : s 65 0 = st.1) (hkp : KPo (hh + 1) nn st (s 46)) (hrow : RowO (hh + 1) nn pc 3 (s 45)) (hsh : ∀ q, q < hh → s 47 q = nI (shr (hh + 1) pc 3 q)) (hwf : ∀ k, k ≤ nn → s 48 k = nI (WFk Hb nn (nn - k))) (hop : ∀ q, q < hh → ∀ k, k ≤ nn → l (q * 7 + k) = lN (opN (lvB n Hb hb He aw) nn q (nn - k))) (hle : 3 ≤ nn) (hpc : pc < (hh + 1) ^ 3) : Ct G yX6_place cX6_place 6 none 0 0 5 [.ref (r 9), .ref (r 2), .int (nI 3), .int (nI (WS Hb (hh + 1) pc 3))] (cW G r s l) (fun v w => ∃ y45 y46 y65 : Nat → Int32, v = none ∧ w = cW G r (su 65 (su 46 (su 45 s y45) y46) y65) l ∧ RowO (hh + 1) nn pc 3 y45 ∧ y65 0 = (bsR n nn hh Hb He (pc * (hh + 1) ^ (nn - 3)) ((hh + 1) ^ (nn - 3)) st).1 ∧ KPo (hh + 1) nn (bsR n nn hh Hb He (pc * (hh + 1) ^ (nn - 3)) ((hh + 1) ^ (nn - 3)) st) y46) := Ct.of rfl (Nat.le_of_ble_eq_true rfl) (j_X6_place3 r s l n hn hn8 Hb hb hR hk m hm6 He aw ha nn hnn hnn6 hnnn hh hhh hh4 hhm pc st hmo hkp hrow hsh hwf hop hle hpc (fun w_ y45 y46 y65 h1 h2 h3 h4 => ⟨y45, y46, y65, rfl, h1, h2, h3, h4⟩))
set_option maxRecDepth 100000 in
set_option maxHeartbeats 1000000 in
theorem j_X6_place2 {G : GT} (r : Nat → Nat) (s : St) (l : Nat → Int64) (n : Nat) (hn : s 52 0 = nI n) (hn8 : n ≤ 8) (Hb : Nat → Int32) (hb : Nat → Nat) (hR : CHr n Hb hb s) (hk : HbOk n Hb hb) (m : Nat) (hm6 : m ≤ 6) (He : Nat → Int32) (aw : Nat → Nat) (ha : AwOk m He aw) (nn : Nat) (hnn : s 63 0 = nI nn) (hnn6 : nn ≤ 6) (hnnn : nn ≤ n) (hh : Nat) (hhh : s 64 0 = nI hh) (hh4 : hh ≤ 4) (hhm : hh ≤ m) (pc : Nat) (st : Int32 × Int32) (hmo : s 65 0 = st.1) (hkp : KPo (hh + 1) nn st (s 46)) (hrow : RowO (hh + 1) nn pc 2 (s 45)) (hsh : ∀ q, q < hh → s 47 q = nI (shr (hh + 1) pc 2 q)) (hwf : ∀ k, k ≤ nn → s 48 k = nI (WFk Hb nn (nn - k))) (hop : ∀ q, q < hh → ∀ k, k ≤ nn → l (q * 7 + k) = lN (opN (lvB n Hb hb He aw) nn q (nn - k))) (hle : 2 ≤ nn) (hpc : pc < (hh + 1) ^ 2) {Q : Option Value → va_W → Prop} (hq : ∀ (w_ : va_W) (y45 y46 y65 : Nat → Int32), w_ = cW G r (su 65 (su 46 (su 45 s y45) y46) y65) l → RowO (hh + 1) nn pc 2 y45 → y65 0 = (bsR n nn hh Hb He (pc * (hh + 1) ^ (nn - 2)) ((hh + 1) ^ (nn - 2)) st).1 → KPo (hh + 1) nn (bsR n nn hh Hb He (pc * (hh + 1) ^ (nn - 2)) ((hh + 1) ^ (nn - 2)) st) y46 → Q none w_) : J G "place" RX6 cX6_place 6 none 0 0 6 Q 0 0 0 [(0, .ref (r 9)), (1, .ref (r 2)), (2, .int (nI 2)), (3, .int (nI (WS Hb (hh + 1) pc 2)))] [] (cW G r s l) := by
  have hWl := WS_le hk (base := hh + 1) (pc := pc) (h := 2) (by omega)
  have hFl := WFk_le hk hnnn (nn - 2) (by omega)
  refine J_iload_n dX6_place_0 rfl rfl ?_
  refine J_bipush (v := nI 7) dX6_place_1 (by decide) ?_
  refine J_cNi [.int (nI 2), .int (nI 7)] mn_X6_82 (c_X11_isBelowN (cW G r s l) (nI 2) 7) rfl rfl (by decide) (Nat.le_of_ble_eq_true rfl) ⟨Nat.le_refl _, Nat.le_refl _⟩ dX6_place_3 ?_
  refine J_if_eqB 32 dX6_place_6 (by decide) (fun c => absurd c (by rw [(show rng (nI 2) 7 = true by decide)]; decide)) (fun _ => ?_)
  refine J_iload_n dX6_place_9 rfl rfl ?_
  refine J_aload_n dX6_place_10 rfl rfl ?_
  refine Cg_9_3 fr_X6_21_5 dX6_place_11 ?_
  refine J_iload_n dX6_place_14 rfl rfl ?_
  refine Cl_48 (s := s) (s 48) rfl 2 rfl (by omega) dX6_place_15 ?_
  refine J_rw (y := nI (WFk Hb nn (nn - 2))) (hwf 2 hle) ?_
  refine J_iaddN dX6_place_16 ?_
  refine J_aload_n dX6_place_17 rfl rfl ?_
  refine Cg_9_7 (s := s) fr_X6_35_5 (s 65 0) rfl dX6_place_18 ?_
  refine J_rw (y := st.1) hmo ?_
  refine J_icmp_le 32 dX6_place_21 (by decide) (fun kcz1 => ?_) (fun kcz1 => ?_)
  · exact J_vret dX6_place_32 rfl rfl rfl (by rw [bsR_id (a := pc * (hh + 1) ^ (nn - 2)) (k := (hh + 1) ^ (nn - 2)) (st := st) (fun c h1 h2 => cut_w hk hnnn hn8 hh4 (by omega) (rg_div h1 h2) (by rw [show nn - (nn - 2) = 2 by omega]; exact kcz1))] at hq; exact hq _ (s 45) (s 46) (s 65) rfl hrow hmo hkp)
  · refine J_aload_n dX6_place_24 rfl rfl ?_
    refine J_iload_n dX6_place_25 rfl rfl ?_
    refine J_cVi (x := yX12_in) [.int (nI 2)] 9 mv_X6_93 (c_X6_mayAllLive r s l 2 (by decide) hh hhh hh4 (fun q => opN (lvB n Hb hb He aw) nn q (nn - 2)) (fun q => shr (hh + 1) pc 2 q) (fun q hq => ⟨hop q hq 2 hle, opN_lt _ _ _ hnn6 _⟩) (fun q hq => ⟨hsh q hq, Nat.lt_of_lt_of_le (shr_lt _ _ _ _) (Nat.pow_le_pow_right (n := 2) (by decide) (show 2 ≤ 6 by decide))⟩)) cW_9 rfl rfl (by decide) (Nat.le_of_ble_eq_true rfl) ⟨Nat.le_refl _, Nat.le_refl _⟩ dX6_place_26 ?_
    refine J_if_neB 33 dX6_place_29 (by decide) (fun kcz2 => ?_) (fun kcz2 => ?_)
    · refine J_iload_n dX6_place_33 rfl rfl ?_
      refine J_aload_n dX6_place_34 rfl rfl ?_
      refine Cg_9_5 (s := s) fr_X6_28_5 (s 63 0) rfl dX6_place_35 ?_
      refine J_rw (y := nI nn) hnn ?_
      refine J_icmp_geN 47 (by omega) (by omega) dX6_place_38 (by decide) (fun kcz3 => ?_) (fun kcz3 => ?_)
      · refine J_aload_n dX6_place_47 rfl rfl ?_
        refine J_iload_n dX6_place_48 rfl rfl ?_
        refine Cp_9_7 fr_X6_35_5 dX6_place_49 ?_
        refine J_aload_n dX6_place_52 rfl rfl ?_
        refine Cg_9_0 fr_X6_11_5 dX6_place_53 ?_
        refine J_iconst (v := nI 0) dX6_place_56 (by decide) ?_
        refine J_aload_n dX6_place_57 rfl rfl ?_
        refine Cg_9_1 fr_X6_15_5 dX6_place_58 ?_
        refine J_iconst (v := nI 0) dX6_place_61 (by decide) ?_
        refine J_bipush (v := nI 6) dX6_place_62 (by decide) ?_
        refine J_copyi (N0 := 6) (N1 := 6) ac_link6 ac_nat ac_stat ac_init 44 45 (cW G r (su 46 (su 65 s (fun _ => nI (WS Hb (hh + 1) pc 2))) (va_cpy (s 45) (s 46) 0 0 6)) l) rfl rfl (cI_nlt (by omega)) (cI_nlt (by omega)) (cI_nlt (by omega)) (by rw [nI_clamp (by omega), nI_clamp (by omega)]; omega) (by rw [nI_clamp (by omega), nI_clamp (by omega)]; omega) (by omega) (by decide) (by rw [nI_clamp (by omega), nI_clamp (by omega)]; rfl) dX6_place_64 ?_
        show J G "place" RX6 cX6_place 6 none 0 0 6 Q 0 0 67 [(0, .ref (r 9)), (1, .ref (r 2)), (2, .int (nI 2)), (3, .int (nI (WS Hb (hh + 1) pc 2)))] [] (cW G r (su 46 (su 65 s (fun _ => nI (WS Hb (hh + 1) pc 2))) (va_cpy (s 45) (s 46) 0 0 6)) l)
        refine J_ws (ws2 := (cW G r (su 65 (su 46 s (va_cpy (s 45) (s 46) 0 0 6)) (fun _ => nI (WS Hb (hh + 1) pc 2))) l)) (congrArg (fun q_ => cW G r q_ l) (su_sw (by decide))) ?_
        exact J_vret dX6_place_67 rfl rfl rfl (by obtain rfl : nn = 2 := (by omega); have e9 : bsR n 2 hh Hb He (pc * (hh + 1) ^ (2 - 2)) ((hh + 1) ^ (2 - 2)) st = (nI (WS Hb (hh + 1) pc 2), nI pc) := leaf_R (leaf_y hk ha hn8 hm6 hnnn hhm (by simpa [WFk] using kcz1) (fun q hq => allB_iff.mp kcz2 q hq)); rw [e9] at hq; exact hq _ (s 45) (va_cpy (s 45) (s 46) 0 0 6) (fun _ => nI (WS Hb (hh + 1) pc 2)) rfl hrow rfl (kp_leaf hrow (pc_lt hh4 (by omega) hpc)))
      · refine J_iload_n dX6_place_41 rfl rfl ?_
        refine J_bipush (v := nI 6) dX6_place_42 (by decide) ?_
        refine J_icmp_lt 68 dX6_place_44 (by decide) (fun _ => ?_) (fun c => absurd c (by decide))
        refine J_iconst (v := nI 0) dX6_place_68 (by decide) ?_
        refine J_istore [(0, .ref (r 9)), (1, .ref (r 2)), (2, .int (nI 2)), (3, .int (nI (WS Hb (hh + 1) pc 2))), (4, .int (nI 0))] dX6_place_69 (by decide) rfl rfl rfl ?_
        have L71 : ∀ (f e : Nat) (y45 y46 y65 : Nat → Int32), hh - e < f → e ≤ hh → RowO (hh + 1) nn pc 2 y45 → y65 0 = (bsR n nn hh Hb He (pc * (hh + 1) ^ (nn - 2)) (e * (hh + 1) ^ (nn - 3)) st).1 → KPo (hh + 1) nn (bsR n nn hh Hb He (pc * (hh + 1) ^ (nn - 2)) (e * (hh + 1) ^ (nn - 3)) st) y46 → ∀ (x4 : Int32), x4 = nI e → J G "place" RX6 cX6_place 6 none 0 0 6 Q 0 0 71 [(0, .ref (r 9)), (1, .ref (r 2)), (2, .int (nI 2)), (3, .int (nI (WS Hb (hh + 1) pc 2))), (4, .int x4)] [] (cW G r (su 65 (su 46 (su 45 s y45) y46) y65) l) := by
          intro f
          induction f with
          | zero => intro e y45 y46 y65 h; exact absurd h (Nat.not_lt_zero _)
          | succ f ih71 =>
            intro e y45 y46 y65 hf71 hle71 hy45 hy65 hy46 x4 e4
            subst e4
            refine J_iload dX6_place_71 rfl ?_
            refine J_aload_n dX6_place_73 rfl rfl ?_
            refine Cg_9_6 (s := (su 65 (su 46 (su 45 s y45) y46) y65)) fr_X6_32_5 (s 64 0) rfl dX6_place_74 ?_
            refine J_rw (y := nI hh) hhh ?_
            refine J_icmp_geN 150 (by omega) (by omega) dX6_place_77 (by decide) (fun kcz4 => ?_) (fun kcz4 => ?_)
            · obtain rfl : hh = e := (by omega)
              refine J_aload_n dX6_place_150 rfl rfl ?_
              refine Cg_9_0 fr_X6_11_5 dX6_place_151 ?_
              refine J_iload_n dX6_place_154 rfl rfl ?_
              refine J_iconst (v := -1) dX6_place_155 (by decide) ?_
              refine Cs_45 (s := (su 65 (su 46 (su 45 s y45) y46) y65)) y45 rfl 2 rfl (by omega) dX6_place_156 ?_
              refine J_ws (ws2 := (cW G r (su 65 (su 46 (su 45 s (upd y45 2 (-1))) y46) y65) l)) (congrArg (fun q_ => cW G r q_ l) ((su_sw (by decide)).trans (su_cg ((su_sw (by decide)).trans (su_cg su_tw))))) ?_
              refine J_aload_n dX6_place_157 rfl rfl ?_
              refine J_aload_n dX6_place_158 rfl rfl ?_
              refine J_iload_n dX6_place_159 rfl rfl ?_
              refine J_iconst (v := nI 1) dX6_place_160 (by decide) ?_
              refine J_iaddN dX6_place_161 ?_
              refine J_iload_n dX6_place_162 rfl rfl ?_
              refine J_rw (y := nI (WS Hb (hh + 1) (pc * (hh + 1) + hh) 3)) (congrArg nI (ws_chn (pc := pc) (h := 2) hh4)) ?_
              refine J_callS (wr := []) (As := [.ref (r 9), .ref (r 2), .int (nI (2 + 1)), .int (nI (WS Hb (hh + 1) (pc * (hh + 1) + hh) 3))]) (st := []) ms_X6_78 (c_X6_place3 r (su 65 (su 46 (su 45 s (upd y45 2 (-1))) y46) y65) l n hn hn8 Hb hb hR hk m hm6 He aw ha nn hnn hnn6 hnnn hh hhh hh4 hhm (pc * (hh + 1) + hh) (bsR n nn hh Hb He (pc * (hh + 1) ^ (nn - 2)) (hh * (hh + 1) ^ (nn - 3)) st) hy65 hy46 (row_chn hy45 (by omega)) (sh_chn hsh) hwf hop (by omega) (pc_ch hpc (by omega))) rfl rfl rfl (by decide) (Nat.le_of_ble_eq_true rfl) ⟨Nat.le_refl _, Nat.le_refl _⟩ dX6_place_163 (fun v_ w_ h_ => ?_)
              obtain ⟨x45_163, x46_163, x65_163, rfl, rfl, hr163, hm163, hk163⟩ := h_
              show J G "place" RX6 cX6_place 6 none 0 0 6 Q 0 0 166 [(0, .ref (r 9)), (1, .ref (r 2)), (2, .int (nI 2)), (3, .int (nI (WS Hb (hh + 1) pc 2))), (4, .int (nI hh))] [] (cW G r (su 65 (su 46 (su 45 (su 65 (su 46 (su 45 s (upd y45 2 (-1))) y46) y65) x45_163) x46_163) x65_163) l)
              refine J_ws (ws2 := (cW G r (su 65 (su 46 (su 45 s x45_163) x46_163) x65_163) l)) (congrArg (fun q_ => cW G r q_ l) (Eq.trans (Eq.trans (su_cg (su_cg ((su_sw (by decide)).trans (su_cg ((su_sw (by decide)).trans (su_cg su_tw)))))) (su_cg ((su_sw (by decide)).trans (su_cg su_tw)))) su_tw)) ?_
              exact J_vret dX6_place_166 rfl rfl rfl (hq _ x45_163 x46_163 x65_163 rfl (row_dn hr163 (by omega)) (hm163.trans (congrArg Prod.fst (rg_end (by omega)))) (by rw [← rg_end (n := n) (nn := nn) (hh := hh) (Hb := Hb) (He := He) (pc := pc) (h := 2) (st := st) (by omega)]; exact hk163))
            · refine J_iload dX6_place_80 rfl ?_
              refine J_iconst (v := nI 4) dX6_place_82 (by decide) ?_
              refine J_icmp_geN 150 (by omega) (by omega) dX6_place_83 (by decide) (fun kcz5 => ?_) (fun kcz5 => ?_)
              · obtain rfl : hh = e := (by omega)
                refine J_aload_n dX6_place_150 rfl rfl ?_
                refine Cg_9_0 fr_X6_11_5 dX6_place_151 ?_
                refine J_iload_n dX6_place_154 rfl rfl ?_
                refine J_iconst (v := -1) dX6_place_155 (by decide) ?_
                refine Cs_45 (s := (su 65 (su 46 (su 45 s y45) y46) y65)) y45 rfl 2 rfl (by omega) dX6_place_156 ?_
                refine J_ws (ws2 := (cW G r (su 65 (su 46 (su 45 s (upd y45 2 (-1))) y46) y65) l)) (congrArg (fun q_ => cW G r q_ l) ((su_sw (by decide)).trans (su_cg ((su_sw (by decide)).trans (su_cg su_tw))))) ?_
                refine J_aload_n dX6_place_157 rfl rfl ?_
                refine J_aload_n dX6_place_158 rfl rfl ?_
                refine J_iload_n dX6_place_159 rfl rfl ?_
                refine J_iconst (v := nI 1) dX6_place_160 (by decide) ?_
                refine J_iaddN dX6_place_161 ?_
                refine J_iload_n dX6_place_162 rfl rfl ?_
                refine J_rw (y := nI (WS Hb (hh + 1) (pc * (hh + 1) + hh) 3)) (congrArg nI (ws_chn (pc := pc) (h := 2) hh4)) ?_
                refine J_callS (wr := []) (As := [.ref (r 9), .ref (r 2), .int (nI (2 + 1)), .int (nI (WS Hb (hh + 1) (pc * (hh + 1) + hh) 3))]) (st := []) ms_X6_78 (c_X6_place3 r (su 65 (su 46 (su 45 s (upd y45 2 (-1))) y46) y65) l n hn hn8 Hb hb hR hk m hm6 He aw ha nn hnn hnn6 hnnn hh hhh hh4 hhm (pc * (hh + 1) + hh) (bsR n nn hh Hb He (pc * (hh + 1) ^ (nn - 2)) (hh * (hh + 1) ^ (nn - 3)) st) hy65 hy46 (row_chn hy45 (by omega)) (sh_chn hsh) hwf hop (by omega) (pc_ch hpc (by omega))) rfl rfl rfl (by decide) (Nat.le_of_ble_eq_true rfl) ⟨Nat.le_refl _, Nat.le_refl _⟩ dX6_place_163 (fun v_ w_ h_ => ?_)
                obtain ⟨x45_163, x46_163, x65_163, rfl, rfl, hr163, hm163, hk163⟩ := h_
                show J G "place" RX6 cX6_place 6 none 0 0 6 Q 0 0 166 [(0, .ref (r 9)), (1, .ref (r 2)), (2, .int (nI 2)), (3, .int (nI (WS Hb (hh + 1) pc 2))), (4, .int (nI hh))] [] (cW G r (su 65 (su 46 (su 45 (su 65 (su 46 (su 45 s (upd y45 2 (-1))) y46) y65) x45_163) x46_163) x65_163) l)
                refine J_ws (ws2 := (cW G r (su 65 (su 46 (su 45 s x45_163) x46_163) x65_163) l)) (congrArg (fun q_ => cW G r q_ l) (Eq.trans (Eq.trans (su_cg (su_cg ((su_sw (by decide)).trans (su_cg ((su_sw (by decide)).trans (su_cg su_tw)))))) (su_cg ((su_sw (by decide)).trans (su_cg su_tw)))) su_tw)) ?_
                exact J_vret dX6_place_166 rfl rfl rfl (hq _ x45_163 x46_163 x65_163 rfl (row_dn hr163 (by omega)) (hm163.trans (congrArg Prod.fst (rg_end (by omega)))) (by rw [← rg_end (n := n) (nn := nn) (hh := hh) (Hb := Hb) (He := He) (pc := pc) (h := 2) (st := st) (by omega)]; exact hk163))
              · refine J_aload_n dX6_place_86 rfl rfl ?_
                refine Cg_9_2 fr_X6_18_5 dX6_place_87 ?_
                refine J_iload dX6_place_90 rfl ?_
                refine Cl_47 (s := (su 65 (su 46 (su 45 s y45) y46) y65)) (s 47) rfl e rfl (by omega) dX6_place_92 ?_
                refine J_rw (y := nI (shr (hh + 1) pc 2 e)) (hsh e (by omega)) ?_
                refine J_istore [(0, .ref (r 9)), (1, .ref (r 2)), (2, .int (nI 2)), (3, .int (nI (WS Hb (hh + 1) pc 2))), (4, .int (nI e)), (5, .int (nI (shr (hh + 1) pc 2 e)))] dX6_place_93 (by decide) rfl rfl rfl ?_
                refine J_aload_n dX6_place_95 rfl rfl ?_
                refine Cg_9_2 fr_X6_18_5 dX6_place_96 ?_
                refine J_iload dX6_place_99 rfl ?_
                refine J_iload dX6_place_101 rfl ?_
                refine J_iconst (v := nI 1) dX6_place_103 (by decide) ?_
                refine J_iload_n dX6_place_104 rfl rfl ?_
                refine J_shl1N dX6_place_105 (by omega) ?_
                refine J_iorN dX6_place_106 ?_
                refine Cs_47 (s := (su 65 (su 46 (su 45 s y45) y46) y65)) (s 47) rfl e rfl (by omega) dX6_place_107 ?_
                refine J_ws (ws2 := (cW G r (su 65 (su 47 (su 46 (su 45 s y45) y46) (upd (s 47) e (nI ((shr (hh + 1) pc 2 e) ||| (2 ^ 2))))) y65) l)) (congrArg (fun q_ => cW G r q_ l) (su_sw (by decide))) ?_
                refine J_aload_n dX6_place_108 rfl rfl ?_
                refine Cg_9_0 fr_X6_11_5 dX6_place_109 ?_
                refine J_iload_n dX6_place_112 rfl rfl ?_
                refine J_iload dX6_place_113 rfl ?_
                refine Cs_45 (s := (su 65 (su 47 (su 46 (su 45 s y45) y46) (upd (s 47) e (nI ((shr (hh + 1) pc 2 e) ||| (2 ^ 2))))) y65)) y45 rfl 2 rfl (by omega) dX6_place_115 ?_
                refine J_ws (ws2 := (cW G r (su 65 (su 47 (su 46 (su 45 s (upd y45 2 (nI e))) y46) (upd (s 47) e (nI ((shr (hh + 1) pc 2 e) ||| (2 ^ 2))))) y65) l)) (congrArg (fun q_ => cW G r q_ l) ((su_sw (by decide)).trans (su_cg ((su_sw (by decide)).trans (su_cg ((su_sw (by decide)).trans (su_cg su_tw))))))) ?_
                refine J_aload_n dX6_place_116 rfl rfl ?_
                refine J_aload_n dX6_place_117 rfl rfl ?_
                refine J_iload_n dX6_place_118 rfl rfl ?_
                refine J_iconst (v := nI 1) dX6_place_119 (by decide) ?_
                refine J_iaddN dX6_place_120 ?_
                refine J_iload_n dX6_place_121 rfl rfl ?_
                refine J_aload_n dX6_place_122 rfl rfl ?_
                refine Cg_2_0 fr_X6_42_4 dX6_place_123 ?_
                refine Cg_3_8 fr_X6_103_2 dX6_place_126 ?_
                refine J_iload_n dX6_place_129 rfl rfl ?_
                refine Cl_23 (s := (su 65 (su 47 (su 46 (su 45 s (upd y45 2 (nI e))) y46) (upd (s 47) e (nI ((shr (hh + 1) pc 2 e) ||| (2 ^ 2))))) y65)) (s 23) rfl 2 rfl (by omega) dX6_place_130 ?_
                refine J_rw (y := nI (wN Hb 2)) ((hR 2 (by omega)).1.trans (wN_eq hk (by omega)).1) ?_
                refine J_iaddN dX6_place_131 ?_
                refine J_rw (y := nI (WS Hb (hh + 1) (pc * (hh + 1) + e) 3)) (congrArg nI (ws_che (by omega))) ?_
                refine J_callS (wr := []) (As := [.ref (r 9), .ref (r 2), .int (nI (2 + 1)), .int (nI (WS Hb (hh + 1) (pc * (hh + 1) + e) 3))]) (st := []) ms_X6_78 (c_X6_place3 r (su 65 (su 47 (su 46 (su 45 s (upd y45 2 (nI e))) y46) (upd (s 47) e (nI ((shr (hh + 1) pc 2 e) ||| (2 ^ 2))))) y65) l n hn hn8 Hb hb hR hk m hm6 He aw ha nn hnn hnn6 hnnn hh hhh hh4 hhm (pc * (hh + 1) + e) (bsR n nn hh Hb He (pc * (hh + 1) ^ (nn - 2)) (e * (hh + 1) ^ (nn - 3)) st) hy65 hy46 (row_che hy45 (by omega)) (sh_che hsh (by omega)) hwf hop (by omega) (pc_ch hpc (by omega))) rfl rfl rfl (by decide) (Nat.le_of_ble_eq_true rfl) ⟨Nat.le_refl _, Nat.le_refl _⟩ dX6_place_132 (fun v_ w_ h_ => ?_)
                obtain ⟨x45_132, x46_132, x65_132, rfl, rfl, hr132, hm132, hk132⟩ := h_
                show J G "place" RX6 cX6_place 6 none 0 0 6 Q 0 0 135 [(0, .ref (r 9)), (1, .ref (r 2)), (2, .int (nI 2)), (3, .int (nI (WS Hb (hh + 1) pc 2))), (4, .int (nI e)), (5, .int (nI (shr (hh + 1) pc 2 e)))] [] (cW G r (su 65 (su 46 (su 45 (su 65 (su 47 (su 46 (su 45 s (upd y45 2 (nI e))) y46) (upd (s 47) e (nI ((shr (hh + 1) pc 2 e) ||| (2 ^ 2))))) y65) x45_132) x46_132) x65_132) l)
                refine J_ws (ws2 := (cW G r (su 65 (su 47 (su 46 (su 45 s x45_132) x46_132) (upd (s 47) e (nI ((shr (hh + 1) pc 2 e) ||| (2 ^ 2))))) x65_132) l)) (congrArg (fun q_ => cW G r q_ l) (Eq.trans (Eq.trans (su_cg (su_cg ((su_sw (by decide)).trans (su_cg ((su_sw (by decide)).trans (su_cg ((su_sw (by decide)).trans (su_cg su_tw)))))))) (su_cg ((su_sw (by decide)).trans (su_cg ((su_sw (by decide)).trans (su_cg su_tw)))))) su_tw)) ?_
                refine J_aload_n dX6_place_135 rfl rfl ?_
                refine Cg_9_2 fr_X6_18_5 dX6_place_136 ?_
                refine J_iload dX6_place_139 rfl ?_
                refine J_iload dX6_place_141 rfl ?_
                refine Cs_47 (s := (su 65 (su 47 (su 46 (su 45 s x45_132) x46_132) (upd (s 47) e (nI ((shr (hh + 1) pc 2 e) ||| (2 ^ 2))))) x65_132)) (upd (s 47) e (nI ((shr (hh + 1) pc 2 e) ||| (2 ^ 2)))) rfl e rfl (by omega) dX6_place_143 ?_
                refine J_ws (ws2 := (cW G r (su 65 (su 47 (su 46 (su 45 s x45_132) x46_132) (upd (upd (s 47) e (nI ((shr (hh + 1) pc 2 e) ||| (2 ^ 2)))) e (nI (shr (hh + 1) pc 2 e)))) x65_132) l)) (congrArg (fun q_ => cW G r q_ l) ((su_sw (by decide)).trans (su_cg su_tw))) ?_
                refine J_ws (ws2 := (cW G r (su 65 (su 46 (su 45 s x45_132) x46_132) x65_132) l)) (congrArg (fun q_ => cW G r q_ l) (su_cg ((congrArg (su 47 _) (sh_back (hsh e (by omega)))).trans su_id))) ?_
                refine J_iincN [(0, .ref (r 9)), (1, .ref (r 2)), (2, .int (nI 2)), (3, .int (nI (WS Hb (hh + 1) pc 2))), (4, .int (nI (e + 1))), (5, .int (nI (shr (hh + 1) pc 2 e)))] dX6_place_144 rfl (by decide) rfl rfl rfl ?_
                refine J_goto 71 dX6_place_147 (by decide) ?_
                refine J_lv [0, 1, 2, 3, 4] rfl ?_
                exact ih71 (e + 1) x45_132 x46_132 x65_132 (by omega) (by omega) (row_dn hr132 (by omega)) (hm132.trans (congrArg Prod.fst (rg_st (by omega)))) (by rw [← rg_st (n := n) (nn := nn) (hh := hh) (Hb := Hb) (He := He) (pc := pc) (h := 2) (e := e) (st := st) (by omega)]; exact hk132) _ rfl
        exact L71 (hh + 1) 0 (s 45) (s 46) (s 65) (by omega) (by omega) hrow (by rw [Nat.zero_mul]; exact hmo) (by rw [Nat.zero_mul]; exact hkp) _ rfl
    · exact J_vret dX6_place_32 rfl rfl rfl (by rw [bsR_id (a := pc * (hh + 1) ^ (nn - 2)) (k := (hh + 1) ^ (nn - 2)) (st := st) (fun c h1 h2 => by obtain ⟨q, hq2, hqf⟩ := all_ex kcz2; exact cut_o hk ha hn8 hm6 hnnn hh4 hhm (by omega) (rg_div h1 h2) hq2 (by rw [show nn - (nn - 2) = 2 by omega]; exact hqf))] at hq; exact hq _ (s 45) (s 46) (s 65) rfl hrow hmo hkp)
theorem c_X6_place2 {G : GT} (r : Nat → Nat) (s : St) (l : Nat → Int64) (n : Nat) (hn : s 52 0 = nI n) (hn8 : n ≤ 8) (Hb : Nat → Int32) (hb : Nat → Nat) (hR : CHr n Hb hb s) (hk : HbOk n Hb hb) (m : Nat) (hm6 : m ≤ 6) (He : Nat → Int32) (aw : Nat → Nat) (ha : AwOk m He aw) (nn : Nat) (hnn : s 63 0 = nI nn) (hnn6 : nn ≤ 6) (hnnn : nn ≤ n) (hh : Nat) (hhh : s 64 0 = nI hh) (hh4 : hh ≤ 4) (hhm : hh ≤ m) (pc : Nat) (st : Int32 × Int32) (hmo : s 65 0 = st.1) (hkp : KPo (hh + 1) nn st (s 46)) (hrow : RowO (hh + 1) nn pc 2 (s 45)) (hsh : ∀ q, q < hh → s 47 q = nI (shr (hh + 1) pc 2 q)) (hwf : ∀ k, k ≤ nn → s 48 k = nI (WFk Hb nn (nn - k))) (hop : ∀ q, q < hh → ∀ k, k ≤ nn → l (q * 7 + k) = lN (opN (lvB n Hb hb He aw) nn q (nn - k))) (hle : 2 ≤ nn) (hpc : pc < (hh + 1) ^ 2) : Ct G yX6_place cX6_place 6 none 0 0 6 [.ref (r 9), .ref (r 2), .int (nI 2), .int (nI (WS Hb (hh + 1) pc 2))] (cW G r s l) (fun v w => ∃ y45 y46 y65 : Nat → Int32, v = none ∧ w = cW G r (su 65 (su 46 (su 45 s y45) y46) y65) l ∧ RowO (hh + 1) nn pc 2 y45 ∧ y65 0 = (bsR n nn hh Hb He (pc * (hh + 1) ^ (nn - 2)) ((hh + 1) ^ (nn - 2)) st).1 ∧ KPo (hh + 1) nn (bsR n nn hh Hb He (pc * (hh + 1) ^ (nn - 2)) ((hh + 1) ^ (nn - 2)) st) y46) := Ct.of rfl (Nat.le_of_ble_eq_true rfl) (j_X6_place2 r s l n hn hn8 Hb hb hR hk m hm6 He aw ha nn hnn hnn6 hnnn hh hhh hh4 hhm pc st hmo hkp hrow hsh hwf hop hle hpc (fun w_ y45 y46 y65 h1 h2 h3 h4 => ⟨y45, y46, y65, rfl, h1, h2, h3, h4⟩))
set_option maxRecDepth 100000 in
set_option maxHeartbeats 1000000 in
theorem j_X6_place1 {G : GT} (r : Nat → Nat) (s : St) (l : Nat → Int64) (n : Nat) (hn : s 52 0 = nI n) (hn8 : n ≤ 8) (Hb : Nat → Int32) (hb : Nat → Nat) (hR : CHr n Hb hb s) (hk : HbOk n Hb hb) (m : Nat) (hm6 : m ≤ 6) (He : Nat → Int32) (aw : Nat → Nat) (ha : AwOk m He aw) (nn : Nat) (hnn : s 63 0 = nI nn) (hnn6 : nn ≤ 6) (hnnn : nn ≤ n) (hh : Nat) (hhh : s 64 0 = nI hh) (hh4 : hh ≤ 4) (hhm : hh ≤ m) (pc : Nat) (st : Int32 × Int32) (hmo : s 65 0 = st.1) (hkp : KPo (hh + 1) nn st (s 46)) (hrow : RowO (hh + 1) nn pc 1 (s 45)) (hsh : ∀ q, q < hh → s 47 q = nI (shr (hh + 1) pc 1 q)) (hwf : ∀ k, k ≤ nn → s 48 k = nI (WFk Hb nn (nn - k))) (hop : ∀ q, q < hh → ∀ k, k ≤ nn → l (q * 7 + k) = lN (opN (lvB n Hb hb He aw) nn q (nn - k))) (hle : 1 ≤ nn) (hpc : pc < (hh + 1) ^ 1) {Q : Option Value → va_W → Prop} (hq : ∀ (w_ : va_W) (y45 y46 y65 : Nat → Int32), w_ = cW G r (su 65 (su 46 (su 45 s y45) y46) y65) l → RowO (hh + 1) nn pc 1 y45 → y65 0 = (bsR n nn hh Hb He (pc * (hh + 1) ^ (nn - 1)) ((hh + 1) ^ (nn - 1)) st).1 → KPo (hh + 1) nn (bsR n nn hh Hb He (pc * (hh + 1) ^ (nn - 1)) ((hh + 1) ^ (nn - 1)) st) y46 → Q none w_) : J G "place" RX6 cX6_place 6 none 0 0 7 Q 0 0 0 [(0, .ref (r 9)), (1, .ref (r 2)), (2, .int (nI 1)), (3, .int (nI (WS Hb (hh + 1) pc 1)))] [] (cW G r s l) := by
  have hWl := WS_le hk (base := hh + 1) (pc := pc) (h := 1) (by omega)
  have hFl := WFk_le hk hnnn (nn - 1) (by omega)
  refine J_iload_n dX6_place_0 rfl rfl ?_
  refine J_bipush (v := nI 7) dX6_place_1 (by decide) ?_
  refine J_cNi [.int (nI 1), .int (nI 7)] mn_X6_82 (c_X11_isBelowN (cW G r s l) (nI 1) 7) rfl rfl (by decide) (Nat.le_of_ble_eq_true rfl) ⟨Nat.le_refl _, Nat.le_refl _⟩ dX6_place_3 ?_
  refine J_if_eqB 32 dX6_place_6 (by decide) (fun c => absurd c (by rw [(show rng (nI 1) 7 = true by decide)]; decide)) (fun _ => ?_)
  refine J_iload_n dX6_place_9 rfl rfl ?_
  refine J_aload_n dX6_place_10 rfl rfl ?_
  refine Cg_9_3 fr_X6_21_5 dX6_place_11 ?_
  refine J_iload_n dX6_place_14 rfl rfl ?_
  refine Cl_48 (s := s) (s 48) rfl 1 rfl (by omega) dX6_place_15 ?_
  refine J_rw (y := nI (WFk Hb nn (nn - 1))) (hwf 1 hle) ?_
  refine J_iaddN dX6_place_16 ?_
  refine J_aload_n dX6_place_17 rfl rfl ?_
  refine Cg_9_7 (s := s) fr_X6_35_5 (s 65 0) rfl dX6_place_18 ?_
  refine J_rw (y := st.1) hmo ?_
  refine J_icmp_le 32 dX6_place_21 (by decide) (fun kcz1 => ?_) (fun kcz1 => ?_)
  · exact J_vret dX6_place_32 rfl rfl rfl (by rw [bsR_id (a := pc * (hh + 1) ^ (nn - 1)) (k := (hh + 1) ^ (nn - 1)) (st := st) (fun c h1 h2 => cut_w hk hnnn hn8 hh4 (by omega) (rg_div h1 h2) (by rw [show nn - (nn - 1) = 1 by omega]; exact kcz1))] at hq; exact hq _ (s 45) (s 46) (s 65) rfl hrow hmo hkp)
  · refine J_aload_n dX6_place_24 rfl rfl ?_
    refine J_iload_n dX6_place_25 rfl rfl ?_
    refine J_cVi (x := yX12_in) [.int (nI 1)] 9 mv_X6_93 (c_X6_mayAllLive r s l 1 (by decide) hh hhh hh4 (fun q => opN (lvB n Hb hb He aw) nn q (nn - 1)) (fun q => shr (hh + 1) pc 1 q) (fun q hq => ⟨hop q hq 1 hle, opN_lt _ _ _ hnn6 _⟩) (fun q hq => ⟨hsh q hq, Nat.lt_of_lt_of_le (shr_lt _ _ _ _) (Nat.pow_le_pow_right (n := 2) (by decide) (show 1 ≤ 6 by decide))⟩)) cW_9 rfl rfl (by decide) (Nat.le_of_ble_eq_true rfl) ⟨Nat.le_refl _, Nat.le_refl _⟩ dX6_place_26 ?_
    refine J_if_neB 33 dX6_place_29 (by decide) (fun kcz2 => ?_) (fun kcz2 => ?_)
    · refine J_iload_n dX6_place_33 rfl rfl ?_
      refine J_aload_n dX6_place_34 rfl rfl ?_
      refine Cg_9_5 (s := s) fr_X6_28_5 (s 63 0) rfl dX6_place_35 ?_
      refine J_rw (y := nI nn) hnn ?_
      refine J_icmp_geN 47 (by omega) (by omega) dX6_place_38 (by decide) (fun kcz3 => ?_) (fun kcz3 => ?_)
      · refine J_aload_n dX6_place_47 rfl rfl ?_
        refine J_iload_n dX6_place_48 rfl rfl ?_
        refine Cp_9_7 fr_X6_35_5 dX6_place_49 ?_
        refine J_aload_n dX6_place_52 rfl rfl ?_
        refine Cg_9_0 fr_X6_11_5 dX6_place_53 ?_
        refine J_iconst (v := nI 0) dX6_place_56 (by decide) ?_
        refine J_aload_n dX6_place_57 rfl rfl ?_
        refine Cg_9_1 fr_X6_15_5 dX6_place_58 ?_
        refine J_iconst (v := nI 0) dX6_place_61 (by decide) ?_
        refine J_bipush (v := nI 6) dX6_place_62 (by decide) ?_
        refine J_copyi (N0 := 6) (N1 := 6) ac_link6 ac_nat ac_stat ac_init 44 45 (cW G r (su 46 (su 65 s (fun _ => nI (WS Hb (hh + 1) pc 1))) (va_cpy (s 45) (s 46) 0 0 6)) l) rfl rfl (cI_nlt (by omega)) (cI_nlt (by omega)) (cI_nlt (by omega)) (by rw [nI_clamp (by omega), nI_clamp (by omega)]; omega) (by rw [nI_clamp (by omega), nI_clamp (by omega)]; omega) (by omega) (by decide) (by rw [nI_clamp (by omega), nI_clamp (by omega)]; rfl) dX6_place_64 ?_
        show J G "place" RX6 cX6_place 6 none 0 0 7 Q 0 0 67 [(0, .ref (r 9)), (1, .ref (r 2)), (2, .int (nI 1)), (3, .int (nI (WS Hb (hh + 1) pc 1)))] [] (cW G r (su 46 (su 65 s (fun _ => nI (WS Hb (hh + 1) pc 1))) (va_cpy (s 45) (s 46) 0 0 6)) l)
        refine J_ws (ws2 := (cW G r (su 65 (su 46 s (va_cpy (s 45) (s 46) 0 0 6)) (fun _ => nI (WS Hb (hh + 1) pc 1))) l)) (congrArg (fun q_ => cW G r q_ l) (su_sw (by decide))) ?_
        exact J_vret dX6_place_67 rfl rfl rfl (by obtain rfl : nn = 1 := (by omega); have e9 : bsR n 1 hh Hb He (pc * (hh + 1) ^ (1 - 1)) ((hh + 1) ^ (1 - 1)) st = (nI (WS Hb (hh + 1) pc 1), nI pc) := leaf_R (leaf_y hk ha hn8 hm6 hnnn hhm (by simpa [WFk] using kcz1) (fun q hq => allB_iff.mp kcz2 q hq)); rw [e9] at hq; exact hq _ (s 45) (va_cpy (s 45) (s 46) 0 0 6) (fun _ => nI (WS Hb (hh + 1) pc 1)) rfl hrow rfl (kp_leaf hrow (pc_lt hh4 (by omega) hpc)))
      · refine J_iload_n dX6_place_41 rfl rfl ?_
        refine J_bipush (v := nI 6) dX6_place_42 (by decide) ?_
        refine J_icmp_lt 68 dX6_place_44 (by decide) (fun _ => ?_) (fun c => absurd c (by decide))
        refine J_iconst (v := nI 0) dX6_place_68 (by decide) ?_
        refine J_istore [(0, .ref (r 9)), (1, .ref (r 2)), (2, .int (nI 1)), (3, .int (nI (WS Hb (hh + 1) pc 1))), (4, .int (nI 0))] dX6_place_69 (by decide) rfl rfl rfl ?_
        have L71 : ∀ (f e : Nat) (y45 y46 y65 : Nat → Int32), hh - e < f → e ≤ hh → RowO (hh + 1) nn pc 1 y45 → y65 0 = (bsR n nn hh Hb He (pc * (hh + 1) ^ (nn - 1)) (e * (hh + 1) ^ (nn - 2)) st).1 → KPo (hh + 1) nn (bsR n nn hh Hb He (pc * (hh + 1) ^ (nn - 1)) (e * (hh + 1) ^ (nn - 2)) st) y46 → ∀ (x4 : Int32), x4 = nI e → J G "place" RX6 cX6_place 6 none 0 0 7 Q 0 0 71 [(0, .ref (r 9)), (1, .ref (r 2)), (2, .int (nI 1)), (3, .int (nI (WS Hb (hh + 1) pc 1))), (4, .int x4)] [] (cW G r (su 65 (su 46 (su 45 s y45) y46) y65) l) := by
          intro f
          induction f with
          | zero => intro e y45 y46 y65 h; exact absurd h (Nat.not_lt_zero _)
          | succ f ih71 =>
            intro e y45 y46 y65 hf71 hle71 hy45 hy65 hy46 x4 e4
            subst e4
            refine J_iload dX6_place_71 rfl ?_
            refine J_aload_n dX6_place_73 rfl rfl ?_
            refine Cg_9_6 (s := (su 65 (su 46 (su 45 s y45) y46) y65)) fr_X6_32_5 (s 64 0) rfl dX6_place_74 ?_
            refine J_rw (y := nI hh) hhh ?_
            refine J_icmp_geN 150 (by omega) (by omega) dX6_place_77 (by decide) (fun kcz4 => ?_) (fun kcz4 => ?_)
            · obtain rfl : hh = e := (by omega)
              refine J_aload_n dX6_place_150 rfl rfl ?_
              refine Cg_9_0 fr_X6_11_5 dX6_place_151 ?_
              refine J_iload_n dX6_place_154 rfl rfl ?_
              refine J_iconst (v := -1) dX6_place_155 (by decide) ?_
              refine Cs_45 (s := (su 65 (su 46 (su 45 s y45) y46) y65)) y45 rfl 1 rfl (by omega) dX6_place_156 ?_
              refine J_ws (ws2 := (cW G r (su 65 (su 46 (su 45 s (upd y45 1 (-1))) y46) y65) l)) (congrArg (fun q_ => cW G r q_ l) ((su_sw (by decide)).trans (su_cg ((su_sw (by decide)).trans (su_cg su_tw))))) ?_
              refine J_aload_n dX6_place_157 rfl rfl ?_
              refine J_aload_n dX6_place_158 rfl rfl ?_
              refine J_iload_n dX6_place_159 rfl rfl ?_
              refine J_iconst (v := nI 1) dX6_place_160 (by decide) ?_
              refine J_iaddN dX6_place_161 ?_
              refine J_iload_n dX6_place_162 rfl rfl ?_
              refine J_rw (y := nI (WS Hb (hh + 1) (pc * (hh + 1) + hh) 2)) (congrArg nI (ws_chn (pc := pc) (h := 1) hh4)) ?_
              refine J_callS (wr := []) (As := [.ref (r 9), .ref (r 2), .int (nI (1 + 1)), .int (nI (WS Hb (hh + 1) (pc * (hh + 1) + hh) 2))]) (st := []) ms_X6_78 (c_X6_place2 r (su 65 (su 46 (su 45 s (upd y45 1 (-1))) y46) y65) l n hn hn8 Hb hb hR hk m hm6 He aw ha nn hnn hnn6 hnnn hh hhh hh4 hhm (pc * (hh + 1) + hh) (bsR n nn hh Hb He (pc * (hh + 1) ^ (nn - 1)) (hh * (hh + 1) ^ (nn - 2)) st) hy65 hy46 (row_chn hy45 (by omega)) (sh_chn hsh) hwf hop (by omega) (pc_ch hpc (by omega))) rfl rfl rfl (by decide) (Nat.le_of_ble_eq_true rfl) ⟨Nat.le_refl _, Nat.le_refl _⟩ dX6_place_163 (fun v_ w_ h_ => ?_)
              obtain ⟨x45_163, x46_163, x65_163, rfl, rfl, hr163, hm163, hk163⟩ := h_
              show J G "place" RX6 cX6_place 6 none 0 0 7 Q 0 0 166 [(0, .ref (r 9)), (1, .ref (r 2)), (2, .int (nI 1)), (3, .int (nI (WS Hb (hh + 1) pc 1))), (4, .int (nI hh))] [] (cW G r (su 65 (su 46 (su 45 (su 65 (su 46 (su 45 s (upd y45 1 (-1))) y46) y65) x45_163) x46_163) x65_163) l)
              refine J_ws (ws2 := (cW G r (su 65 (su 46 (su 45 s x45_163) x46_163) x65_163) l)) (congrArg (fun q_ => cW G r q_ l) (Eq.trans (Eq.trans (su_cg (su_cg ((su_sw (by decide)).trans (su_cg ((su_sw (by decide)).trans (su_cg su_tw)))))) (su_cg ((su_sw (by decide)).trans (su_cg su_tw)))) su_tw)) ?_
              exact J_vret dX6_place_166 rfl rfl rfl (hq _ x45_163 x46_163 x65_163 rfl (row_dn hr163 (by omega)) (hm163.trans (congrArg Prod.fst (rg_end (by omega)))) (by rw [← rg_end (n := n) (nn := nn) (hh := hh) (Hb := Hb) (He := He) (pc := pc) (h := 1) (st := st) (by omega)]; exact hk163))
            · refine J_iload dX6_place_80 rfl ?_
              refine J_iconst (v := nI 4) dX6_place_82 (by decide) ?_
              refine J_icmp_geN 150 (by omega) (by omega) dX6_place_83 (by decide) (fun kcz5 => ?_) (fun kcz5 => ?_)
              · obtain rfl : hh = e := (by omega)
                refine J_aload_n dX6_place_150 rfl rfl ?_
                refine Cg_9_0 fr_X6_11_5 dX6_place_151 ?_
                refine J_iload_n dX6_place_154 rfl rfl ?_
                refine J_iconst (v := -1) dX6_place_155 (by decide) ?_
                refine Cs_45 (s := (su 65 (su 46 (su 45 s y45) y46) y65)) y45 rfl 1 rfl (by omega) dX6_place_156 ?_
                refine J_ws (ws2 := (cW G r (su 65 (su 46 (su 45 s (upd y45 1 (-1))) y46) y65) l)) (congrArg (fun q_ => cW G r q_ l) ((su_sw (by decide)).trans (su_cg ((su_sw (by decide)).trans (su_cg su_tw))))) ?_
                refine J_aload_n dX6_place_157 rfl rfl ?_
                refine J_aload_n dX6_place_158 rfl rfl ?_
                refine J_iload_n dX6_place_159 rfl rfl ?_
                refine J_iconst (v := nI 1) dX6_place_160 (by decide) ?_
                refine J_iaddN dX6_place_161 ?_
                refine J_iload_n dX6_place_162 rfl rfl ?_
                refine J_rw (y := nI (WS Hb (hh + 1) (pc * (hh + 1) + hh) 2)) (congrArg nI (ws_chn (pc := pc) (h := 1) hh4)) ?_
                refine J_callS (wr := []) (As := [.ref (r 9), .ref (r 2), .int (nI (1 + 1)), .int (nI (WS Hb (hh + 1) (pc * (hh + 1) + hh) 2))]) (st := []) ms_X6_78 (c_X6_place2 r (su 65 (su 46 (su 45 s (upd y45 1 (-1))) y46) y65) l n hn hn8 Hb hb hR hk m hm6 He aw ha nn hnn hnn6 hnnn hh hhh hh4 hhm (pc * (hh + 1) + hh) (bsR n nn hh Hb He (pc * (hh + 1) ^ (nn - 1)) (hh * (hh + 1) ^ (nn - 2)) st) hy65 hy46 (row_chn hy45 (by omega)) (sh_chn hsh) hwf hop (by omega) (pc_ch hpc (by omega))) rfl rfl rfl (by decide) (Nat.le_of_ble_eq_true rfl) ⟨Nat.le_refl _, Nat.le_refl _⟩ dX6_place_163 (fun v_ w_ h_ => ?_)
                obtain ⟨x45_163, x46_163, x65_163, rfl, rfl, hr163, hm163, hk163⟩ := h_
                show J G "place" RX6 cX6_place 6 none 0 0 7 Q 0 0 166 [(0, .ref (r 9)), (1, .ref (r 2)), (2, .int (nI 1)), (3, .int (nI (WS Hb (hh + 1) pc 1))), (4, .int (nI hh))] [] (cW G r (su 65 (su 46 (su 45 (su 65 (su 46 (su 45 s (upd y45 1 (-1))) y46) y65) x45_163) x46_163) x65_163) l)
                refine J_ws (ws2 := (cW G r (su 65 (su 46 (su 45 s x45_163) x46_163) x65_163) l)) (congrArg (fun q_ => cW G r q_ l) (Eq.trans (Eq.trans (su_cg (su_cg ((su_sw (by decide)).trans (su_cg ((su_sw (by decide)).trans (su_cg su_tw)))))) (su_cg ((su_sw (by decide)).trans (su_cg su_tw)))) su_tw)) ?_
                exact J_vret dX6_place_166 rfl rfl rfl (hq _ x45_163 x46_163 x65_163 rfl (row_dn hr163 (by omega)) (hm163.trans (congrArg Prod.fst (rg_end (by omega)))) (by rw [← rg_end (n := n) (nn := nn) (hh := hh) (Hb := Hb) (He := He) (pc := pc) (h := 1) (st := st) (by omega)]; exact hk163))
              · refine J_aload_n dX6_place_86 rfl rfl ?_
                refine Cg_9_2 fr_X6_18_5 dX6_place_87 ?_
                refine J_iload dX6_place_90 rfl ?_
                refine Cl_47 (s := (su 65 (su 46 (su 45 s y45) y46) y65)) (s 47) rfl e rfl (by omega) dX6_place_92 ?_
                refine J_rw (y := nI (shr (hh + 1) pc 1 e)) (hsh e (by omega)) ?_
                refine J_istore [(0, .ref (r 9)), (1, .ref (r 2)), (2, .int (nI 1)), (3, .int (nI (WS Hb (hh + 1) pc 1))), (4, .int (nI e)), (5, .int (nI (shr (hh + 1) pc 1 e)))] dX6_place_93 (by decide) rfl rfl rfl ?_
                refine J_aload_n dX6_place_95 rfl rfl ?_
                refine Cg_9_2 fr_X6_18_5 dX6_place_96 ?_
                refine J_iload dX6_place_99 rfl ?_
                refine J_iload dX6_place_101 rfl ?_
                refine J_iconst (v := nI 1) dX6_place_103 (by decide) ?_
                refine J_iload_n dX6_place_104 rfl rfl ?_
                refine J_shl1N dX6_place_105 (by omega) ?_
                refine J_iorN dX6_place_106 ?_
                refine Cs_47 (s := (su 65 (su 46 (su 45 s y45) y46) y65)) (s 47) rfl e rfl (by omega) dX6_place_107 ?_
                refine J_ws (ws2 := (cW G r (su 65 (su 47 (su 46 (su 45 s y45) y46) (upd (s 47) e (nI ((shr (hh + 1) pc 1 e) ||| (2 ^ 1))))) y65) l)) (congrArg (fun q_ => cW G r q_ l) (su_sw (by decide))) ?_
                refine J_aload_n dX6_place_108 rfl rfl ?_
                refine Cg_9_0 fr_X6_11_5 dX6_place_109 ?_
                refine J_iload_n dX6_place_112 rfl rfl ?_
                refine J_iload dX6_place_113 rfl ?_
                refine Cs_45 (s := (su 65 (su 47 (su 46 (su 45 s y45) y46) (upd (s 47) e (nI ((shr (hh + 1) pc 1 e) ||| (2 ^ 1))))) y65)) y45 rfl 1 rfl (by omega) dX6_place_115 ?_
                refine J_ws (ws2 := (cW G r (su 65 (su 47 (su 46 (su 45 s (upd y45 1 (nI e))) y46) (upd (s 47) e (nI ((shr (hh + 1) pc 1 e) ||| (2 ^ 1))))) y65) l)) (congrArg (fun q_ => cW G r q_ l) ((su_sw (by decide)).trans (su_cg ((su_sw (by decide)).trans (su_cg ((su_sw (by decide)).trans (su_cg su_tw))))))) ?_
                refine J_aload_n dX6_place_116 rfl rfl ?_
                refine J_aload_n dX6_place_117 rfl rfl ?_
                refine J_iload_n dX6_place_118 rfl rfl ?_
                refine J_iconst (v := nI 1) dX6_place_119 (by decide) ?_
                refine J_iaddN dX6_place_120 ?_
                refine J_iload_n dX6_place_121 rfl rfl ?_
                refine J_aload_n dX6_place_122 rfl rfl ?_
                refine Cg_2_0 fr_X6_42_4 dX6_place_123 ?_
                refine Cg_3_8 fr_X6_103_2 dX6_place_126 ?_
                refine J_iload_n dX6_place_129 rfl rfl ?_
                refine Cl_23 (s := (su 65 (su 47 (su 46 (su 45 s (upd y45 1 (nI e))) y46) (upd (s 47) e (nI ((shr (hh + 1) pc 1 e) ||| (2 ^ 1))))) y65)) (s 23) rfl 1 rfl (by omega) dX6_place_130 ?_
                refine J_rw (y := nI (wN Hb 1)) ((hR 1 (by omega)).1.trans (wN_eq hk (by omega)).1) ?_
                refine J_iaddN dX6_place_131 ?_
                refine J_rw (y := nI (WS Hb (hh + 1) (pc * (hh + 1) + e) 2)) (congrArg nI (ws_che (by omega))) ?_
                refine J_callS (wr := []) (As := [.ref (r 9), .ref (r 2), .int (nI (1 + 1)), .int (nI (WS Hb (hh + 1) (pc * (hh + 1) + e) 2))]) (st := []) ms_X6_78 (c_X6_place2 r (su 65 (su 47 (su 46 (su 45 s (upd y45 1 (nI e))) y46) (upd (s 47) e (nI ((shr (hh + 1) pc 1 e) ||| (2 ^ 1))))) y65) l n hn hn8 Hb hb hR hk m hm6 He aw ha nn hnn hnn6 hnnn hh hhh hh4 hhm (pc * (hh + 1) + e) (bsR n nn hh Hb He (pc * (hh + 1) ^ (nn - 1)) (e * (hh + 1) ^ (nn - 2)) st) hy65 hy46 (row_che hy45 (by omega)) (sh_che hsh (by omega)) hwf hop (by omega) (pc_ch hpc (by omega))) rfl rfl rfl (by decide) (Nat.le_of_ble_eq_true rfl) ⟨Nat.le_refl _, Nat.le_refl _⟩ dX6_place_132 (fun v_ w_ h_ => ?_)
                obtain ⟨x45_132, x46_132, x65_132, rfl, rfl, hr132, hm132, hk132⟩ := h_
                show J G "place" RX6 cX6_place 6 none 0 0 7 Q 0 0 135 [(0, .ref (r 9)), (1, .ref (r 2)), (2, .int (nI 1)), (3, .int (nI (WS Hb (hh + 1) pc 1))), (4, .int (nI e)), (5, .int (nI (shr (hh + 1) pc 1 e)))] [] (cW G r (su 65 (su 46 (su 45 (su 65 (su 47 (su 46 (su 45 s (upd y45 1 (nI e))) y46) (upd (s 47) e (nI ((shr (hh + 1) pc 1 e) ||| (2 ^ 1))))) y65) x45_132) x46_132) x65_132) l)
                refine J_ws (ws2 := (cW G r (su 65 (su 47 (su 46 (su 45 s x45_132) x46_132) (upd (s 47) e (nI ((shr (hh + 1) pc 1 e) ||| (2 ^ 1))))) x65_132) l)) (congrArg (fun q_ => cW G r q_ l) (Eq.trans (Eq.trans (su_cg (su_cg ((su_sw (by decide)).trans (su_cg ((su_sw (by decide)).trans (su_cg ((su_sw (by decide)).trans (su_cg su_tw)))))))) (su_cg ((su_sw (by decide)).trans (su_cg ((su_sw (by decide)).trans (su_cg su_tw)))))) su_tw)) ?_
                refine J_aload_n dX6_place_135 rfl rfl ?_
                refine Cg_9_2 fr_X6_18_5 dX6_place_136 ?_
                refine J_iload dX6_place_139 rfl ?_
                refine J_iload dX6_place_141 rfl ?_
                refine Cs_47 (s := (su 65 (su 47 (su 46 (su 45 s x45_132) x46_132) (upd (s 47) e (nI ((shr (hh + 1) pc 1 e) ||| (2 ^ 1))))) x65_132)) (upd (s 47) e (nI ((shr (hh + 1) pc 1 e) ||| (2 ^ 1)))) rfl e rfl (by omega) dX6_place_143 ?_
                refine J_ws (ws2 := (cW G r (su 65 (su 47 (su 46 (su 45 s x45_132) x46_132) (upd (upd (s 47) e (nI ((shr (hh + 1) pc 1 e) ||| (2 ^ 1)))) e (nI (shr (hh + 1) pc 1 e)))) x65_132) l)) (congrArg (fun q_ => cW G r q_ l) ((su_sw (by decide)).trans (su_cg su_tw))) ?_
                refine J_ws (ws2 := (cW G r (su 65 (su 46 (su 45 s x45_132) x46_132) x65_132) l)) (congrArg (fun q_ => cW G r q_ l) (su_cg ((congrArg (su 47 _) (sh_back (hsh e (by omega)))).trans su_id))) ?_
                refine J_iincN [(0, .ref (r 9)), (1, .ref (r 2)), (2, .int (nI 1)), (3, .int (nI (WS Hb (hh + 1) pc 1))), (4, .int (nI (e + 1))), (5, .int (nI (shr (hh + 1) pc 1 e)))] dX6_place_144 rfl (by decide) rfl rfl rfl ?_
                refine J_goto 71 dX6_place_147 (by decide) ?_
                refine J_lv [0, 1, 2, 3, 4] rfl ?_
                exact ih71 (e + 1) x45_132 x46_132 x65_132 (by omega) (by omega) (row_dn hr132 (by omega)) (hm132.trans (congrArg Prod.fst (rg_st (by omega)))) (by rw [← rg_st (n := n) (nn := nn) (hh := hh) (Hb := Hb) (He := He) (pc := pc) (h := 1) (e := e) (st := st) (by omega)]; exact hk132) _ rfl
        exact L71 (hh + 1) 0 (s 45) (s 46) (s 65) (by omega) (by omega) hrow (by rw [Nat.zero_mul]; exact hmo) (by rw [Nat.zero_mul]; exact hkp) _ rfl
    · exact J_vret dX6_place_32 rfl rfl rfl (by rw [bsR_id (a := pc * (hh + 1) ^ (nn - 1)) (k := (hh + 1) ^ (nn - 1)) (st := st) (fun c h1 h2 => by obtain ⟨q, hq2, hqf⟩ := all_ex kcz2; exact cut_o hk ha hn8 hm6 hnnn hh4 hhm (by omega) (rg_div h1 h2) hq2 (by rw [show nn - (nn - 1) = 1 by omega]; exact hqf))] at hq; exact hq _ (s 45) (s 46) (s 65) rfl hrow hmo hkp)
theorem c_X6_place1 {G : GT} (r : Nat → Nat) (s : St) (l : Nat → Int64) (n : Nat) (hn : s 52 0 = nI n) (hn8 : n ≤ 8) (Hb : Nat → Int32) (hb : Nat → Nat) (hR : CHr n Hb hb s) (hk : HbOk n Hb hb) (m : Nat) (hm6 : m ≤ 6) (He : Nat → Int32) (aw : Nat → Nat) (ha : AwOk m He aw) (nn : Nat) (hnn : s 63 0 = nI nn) (hnn6 : nn ≤ 6) (hnnn : nn ≤ n) (hh : Nat) (hhh : s 64 0 = nI hh) (hh4 : hh ≤ 4) (hhm : hh ≤ m) (pc : Nat) (st : Int32 × Int32) (hmo : s 65 0 = st.1) (hkp : KPo (hh + 1) nn st (s 46)) (hrow : RowO (hh + 1) nn pc 1 (s 45)) (hsh : ∀ q, q < hh → s 47 q = nI (shr (hh + 1) pc 1 q)) (hwf : ∀ k, k ≤ nn → s 48 k = nI (WFk Hb nn (nn - k))) (hop : ∀ q, q < hh → ∀ k, k ≤ nn → l (q * 7 + k) = lN (opN (lvB n Hb hb He aw) nn q (nn - k))) (hle : 1 ≤ nn) (hpc : pc < (hh + 1) ^ 1) : Ct G yX6_place cX6_place 6 none 0 0 7 [.ref (r 9), .ref (r 2), .int (nI 1), .int (nI (WS Hb (hh + 1) pc 1))] (cW G r s l) (fun v w => ∃ y45 y46 y65 : Nat → Int32, v = none ∧ w = cW G r (su 65 (su 46 (su 45 s y45) y46) y65) l ∧ RowO (hh + 1) nn pc 1 y45 ∧ y65 0 = (bsR n nn hh Hb He (pc * (hh + 1) ^ (nn - 1)) ((hh + 1) ^ (nn - 1)) st).1 ∧ KPo (hh + 1) nn (bsR n nn hh Hb He (pc * (hh + 1) ^ (nn - 1)) ((hh + 1) ^ (nn - 1)) st) y46) := Ct.of rfl (Nat.le_of_ble_eq_true rfl) (j_X6_place1 r s l n hn hn8 Hb hb hR hk m hm6 He aw ha nn hnn hnn6 hnnn hh hhh hh4 hhm pc st hmo hkp hrow hsh hwf hop hle hpc (fun w_ y45 y46 y65 h1 h2 h3 h4 => ⟨y45, y46, y65, rfl, h1, h2, h3, h4⟩))
set_option maxRecDepth 100000 in
set_option maxHeartbeats 1000000 in
theorem j_X6_place0 {G : GT} (r : Nat → Nat) (s : St) (l : Nat → Int64) (n : Nat) (hn : s 52 0 = nI n) (hn8 : n ≤ 8) (Hb : Nat → Int32) (hb : Nat → Nat) (hR : CHr n Hb hb s) (hk : HbOk n Hb hb) (m : Nat) (hm6 : m ≤ 6) (He : Nat → Int32) (aw : Nat → Nat) (ha : AwOk m He aw) (nn : Nat) (hnn : s 63 0 = nI nn) (hnn6 : nn ≤ 6) (hnnn : nn ≤ n) (hh : Nat) (hhh : s 64 0 = nI hh) (hh4 : hh ≤ 4) (hhm : hh ≤ m) (pc : Nat) (st : Int32 × Int32) (hmo : s 65 0 = st.1) (hkp : KPo (hh + 1) nn st (s 46)) (hrow : RowO (hh + 1) nn pc 0 (s 45)) (hsh : ∀ q, q < hh → s 47 q = nI (shr (hh + 1) pc 0 q)) (hwf : ∀ k, k ≤ nn → s 48 k = nI (WFk Hb nn (nn - k))) (hop : ∀ q, q < hh → ∀ k, k ≤ nn → l (q * 7 + k) = lN (opN (lvB n Hb hb He aw) nn q (nn - k))) (hle : 0 ≤ nn) (hpc : pc < (hh + 1) ^ 0) {Q : Option Value → va_W → Prop} (hq : ∀ (w_ : va_W) (y45 y46 y65 : Nat → Int32), w_ = cW G r (su 65 (su 46 (su 45 s y45) y46) y65) l → RowO (hh + 1) nn pc 0 y45 → y65 0 = (bsR n nn hh Hb He (pc * (hh + 1) ^ (nn - 0)) ((hh + 1) ^ (nn - 0)) st).1 → KPo (hh + 1) nn (bsR n nn hh Hb He (pc * (hh + 1) ^ (nn - 0)) ((hh + 1) ^ (nn - 0)) st) y46 → Q none w_) : J G "place" RX6 cX6_place 6 none 0 0 8 Q 0 0 0 [(0, .ref (r 9)), (1, .ref (r 2)), (2, .int (nI 0)), (3, .int (nI (WS Hb (hh + 1) pc 0)))] [] (cW G r s l) := by
  have hWl := WS_le hk (base := hh + 1) (pc := pc) (h := 0) (by omega)
  have hFl := WFk_le hk hnnn (nn - 0) (by omega)
  refine J_iload_n dX6_place_0 rfl rfl ?_
  refine J_bipush (v := nI 7) dX6_place_1 (by decide) ?_
  refine J_cNi [.int (nI 0), .int (nI 7)] mn_X6_82 (c_X11_isBelowN (cW G r s l) (nI 0) 7) rfl rfl (by decide) (Nat.le_of_ble_eq_true rfl) ⟨Nat.le_refl _, Nat.le_refl _⟩ dX6_place_3 ?_
  refine J_if_eqB 32 dX6_place_6 (by decide) (fun c => absurd c (by rw [(show rng (nI 0) 7 = true by decide)]; decide)) (fun _ => ?_)
  refine J_iload_n dX6_place_9 rfl rfl ?_
  refine J_aload_n dX6_place_10 rfl rfl ?_
  refine Cg_9_3 fr_X6_21_5 dX6_place_11 ?_
  refine J_iload_n dX6_place_14 rfl rfl ?_
  refine Cl_48 (s := s) (s 48) rfl 0 rfl (by omega) dX6_place_15 ?_
  refine J_rw (y := nI (WFk Hb nn (nn - 0))) (hwf 0 hle) ?_
  refine J_iaddN dX6_place_16 ?_
  refine J_aload_n dX6_place_17 rfl rfl ?_
  refine Cg_9_7 (s := s) fr_X6_35_5 (s 65 0) rfl dX6_place_18 ?_
  refine J_rw (y := st.1) hmo ?_
  refine J_icmp_le 32 dX6_place_21 (by decide) (fun kcz1 => ?_) (fun kcz1 => ?_)
  · exact J_vret dX6_place_32 rfl rfl rfl (by rw [bsR_id (a := pc * (hh + 1) ^ (nn - 0)) (k := (hh + 1) ^ (nn - 0)) (st := st) (fun c h1 h2 => cut_w hk hnnn hn8 hh4 (by omega) (rg_div h1 h2) (by rw [show nn - (nn - 0) = 0 by omega]; exact kcz1))] at hq; exact hq _ (s 45) (s 46) (s 65) rfl hrow hmo hkp)
  · refine J_aload_n dX6_place_24 rfl rfl ?_
    refine J_iload_n dX6_place_25 rfl rfl ?_
    refine J_cVi (x := yX12_in) [.int (nI 0)] 9 mv_X6_93 (c_X6_mayAllLive r s l 0 (by decide) hh hhh hh4 (fun q => opN (lvB n Hb hb He aw) nn q (nn - 0)) (fun q => shr (hh + 1) pc 0 q) (fun q hq => ⟨hop q hq 0 hle, opN_lt _ _ _ hnn6 _⟩) (fun q hq => ⟨hsh q hq, Nat.lt_of_lt_of_le (shr_lt _ _ _ _) (Nat.pow_le_pow_right (n := 2) (by decide) (show 0 ≤ 6 by decide))⟩)) cW_9 rfl rfl (by decide) (Nat.le_of_ble_eq_true rfl) ⟨Nat.le_refl _, Nat.le_refl _⟩ dX6_place_26 ?_
    refine J_if_neB 33 dX6_place_29 (by decide) (fun kcz2 => ?_) (fun kcz2 => ?_)
    · refine J_iload_n dX6_place_33 rfl rfl ?_
      refine J_aload_n dX6_place_34 rfl rfl ?_
      refine Cg_9_5 (s := s) fr_X6_28_5 (s 63 0) rfl dX6_place_35 ?_
      refine J_rw (y := nI nn) hnn ?_
      refine J_icmp_geN 47 (by omega) (by omega) dX6_place_38 (by decide) (fun kcz3 => ?_) (fun kcz3 => ?_)
      · refine J_aload_n dX6_place_47 rfl rfl ?_
        refine J_iload_n dX6_place_48 rfl rfl ?_
        refine Cp_9_7 fr_X6_35_5 dX6_place_49 ?_
        refine J_aload_n dX6_place_52 rfl rfl ?_
        refine Cg_9_0 fr_X6_11_5 dX6_place_53 ?_
        refine J_iconst (v := nI 0) dX6_place_56 (by decide) ?_
        refine J_aload_n dX6_place_57 rfl rfl ?_
        refine Cg_9_1 fr_X6_15_5 dX6_place_58 ?_
        refine J_iconst (v := nI 0) dX6_place_61 (by decide) ?_
        refine J_bipush (v := nI 6) dX6_place_62 (by decide) ?_
        refine J_copyi (N0 := 6) (N1 := 6) ac_link6 ac_nat ac_stat ac_init 44 45 (cW G r (su 46 (su 65 s (fun _ => nI (WS Hb (hh + 1) pc 0))) (va_cpy (s 45) (s 46) 0 0 6)) l) rfl rfl (cI_nlt (by omega)) (cI_nlt (by omega)) (cI_nlt (by omega)) (by rw [nI_clamp (by omega), nI_clamp (by omega)]; omega) (by rw [nI_clamp (by omega), nI_clamp (by omega)]; omega) (by omega) (by decide) (by rw [nI_clamp (by omega), nI_clamp (by omega)]; rfl) dX6_place_64 ?_
        show J G "place" RX6 cX6_place 6 none 0 0 8 Q 0 0 67 [(0, .ref (r 9)), (1, .ref (r 2)), (2, .int (nI 0)), (3, .int (nI (WS Hb (hh + 1) pc 0)))] [] (cW G r (su 46 (su 65 s (fun _ => nI (WS Hb (hh + 1) pc 0))) (va_cpy (s 45) (s 46) 0 0 6)) l)
        refine J_ws (ws2 := (cW G r (su 65 (su 46 s (va_cpy (s 45) (s 46) 0 0 6)) (fun _ => nI (WS Hb (hh + 1) pc 0))) l)) (congrArg (fun q_ => cW G r q_ l) (su_sw (by decide))) ?_
        exact J_vret dX6_place_67 rfl rfl rfl (by obtain rfl : nn = 0 := (by omega); have e9 : bsR n 0 hh Hb He (pc * (hh + 1) ^ (0 - 0)) ((hh + 1) ^ (0 - 0)) st = (nI (WS Hb (hh + 1) pc 0), nI pc) := leaf_R (leaf_y hk ha hn8 hm6 hnnn hhm (by simpa [WFk] using kcz1) (fun q hq => allB_iff.mp kcz2 q hq)); rw [e9] at hq; exact hq _ (s 45) (va_cpy (s 45) (s 46) 0 0 6) (fun _ => nI (WS Hb (hh + 1) pc 0)) rfl hrow rfl (kp_leaf hrow (pc_lt hh4 (by omega) hpc)))
      · refine J_iload_n dX6_place_41 rfl rfl ?_
        refine J_bipush (v := nI 6) dX6_place_42 (by decide) ?_
        refine J_icmp_lt 68 dX6_place_44 (by decide) (fun _ => ?_) (fun c => absurd c (by decide))
        refine J_iconst (v := nI 0) dX6_place_68 (by decide) ?_
        refine J_istore [(0, .ref (r 9)), (1, .ref (r 2)), (2, .int (nI 0)), (3, .int (nI (WS Hb (hh + 1) pc 0))), (4, .int (nI 0))] dX6_place_69 (by decide) rfl rfl rfl ?_
        have L71 : ∀ (f e : Nat) (y45 y46 y65 : Nat → Int32), hh - e < f → e ≤ hh → RowO (hh + 1) nn pc 0 y45 → y65 0 = (bsR n nn hh Hb He (pc * (hh + 1) ^ (nn - 0)) (e * (hh + 1) ^ (nn - 1)) st).1 → KPo (hh + 1) nn (bsR n nn hh Hb He (pc * (hh + 1) ^ (nn - 0)) (e * (hh + 1) ^ (nn - 1)) st) y46 → ∀ (x4 : Int32), x4 = nI e → J G "place" RX6 cX6_place 6 none 0 0 8 Q 0 0 71 [(0, .ref (r 9)), (1, .ref (r 2)), (2, .int (nI 0)), (3, .int (nI (WS Hb (hh + 1) pc 0))), (4, .int x4)] [] (cW G r (su 65 (su 46 (su 45 s y45) y46) y65) l) := by
          intro f
          induction f with
          | zero => intro e y45 y46 y65 h; exact absurd h (Nat.not_lt_zero _)
          | succ f ih71 =>
            intro e y45 y46 y65 hf71 hle71 hy45 hy65 hy46 x4 e4
            subst e4
            refine J_iload dX6_place_71 rfl ?_
            refine J_aload_n dX6_place_73 rfl rfl ?_
            refine Cg_9_6 (s := (su 65 (su 46 (su 45 s y45) y46) y65)) fr_X6_32_5 (s 64 0) rfl dX6_place_74 ?_
            refine J_rw (y := nI hh) hhh ?_
            refine J_icmp_geN 150 (by omega) (by omega) dX6_place_77 (by decide) (fun kcz4 => ?_) (fun kcz4 => ?_)
            · obtain rfl : hh = e := (by omega)
              refine J_aload_n dX6_place_150 rfl rfl ?_
              refine Cg_9_0 fr_X6_11_5 dX6_place_151 ?_
              refine J_iload_n dX6_place_154 rfl rfl ?_
              refine J_iconst (v := -1) dX6_place_155 (by decide) ?_
              refine Cs_45 (s := (su 65 (su 46 (su 45 s y45) y46) y65)) y45 rfl 0 rfl (by omega) dX6_place_156 ?_
              refine J_ws (ws2 := (cW G r (su 65 (su 46 (su 45 s (upd y45 0 (-1))) y46) y65) l)) (congrArg (fun q_ => cW G r q_ l) ((su_sw (by decide)).trans (su_cg ((su_sw (by decide)).trans (su_cg su_tw))))) ?_
              refine J_aload_n dX6_place_157 rfl rfl ?_
              refine J_aload_n dX6_place_158 rfl rfl ?_
              refine J_iload_n dX6_place_159 rfl rfl ?_
              refine J_iconst (v := nI 1) dX6_place_160 (by decide) ?_
              refine J_iaddN dX6_place_161 ?_
              refine J_iload_n dX6_place_162 rfl rfl ?_
              refine J_rw (y := nI (WS Hb (hh + 1) (pc * (hh + 1) + hh) 1)) (congrArg nI (ws_chn (pc := pc) (h := 0) hh4)) ?_
              refine J_callS (wr := []) (As := [.ref (r 9), .ref (r 2), .int (nI (0 + 1)), .int (nI (WS Hb (hh + 1) (pc * (hh + 1) + hh) 1))]) (st := []) ms_X6_78 (c_X6_place1 r (su 65 (su 46 (su 45 s (upd y45 0 (-1))) y46) y65) l n hn hn8 Hb hb hR hk m hm6 He aw ha nn hnn hnn6 hnnn hh hhh hh4 hhm (pc * (hh + 1) + hh) (bsR n nn hh Hb He (pc * (hh + 1) ^ (nn - 0)) (hh * (hh + 1) ^ (nn - 1)) st) hy65 hy46 (row_chn hy45 (by omega)) (sh_chn hsh) hwf hop (by omega) (pc_ch hpc (by omega))) rfl rfl rfl (by decide) (Nat.le_of_ble_eq_true rfl) ⟨Nat.le_refl _, Nat.le_refl _⟩ dX6_place_163 (fun v_ w_ h_ => ?_)
              obtain ⟨x45_163, x46_163, x65_163, rfl, rfl, hr163, hm163, hk163⟩ := h_
              show J G "place" RX6 cX6_place 6 none 0 0 8 Q 0 0 166 [(0, .ref (r 9)), (1, .ref (r 2)), (2, .int (nI 0)), (3, .int (nI (WS Hb (hh + 1) pc 0))), (4, .int (nI hh))] [] (cW G r (su 65 (su 46 (su 45 (su 65 (su 46 (su 45 s (upd y45 0 (-1))) y46) y65) x45_163) x46_163) x65_163) l)
              refine J_ws (ws2 := (cW G r (su 65 (su 46 (su 45 s x45_163) x46_163) x65_163) l)) (congrArg (fun q_ => cW G r q_ l) (Eq.trans (Eq.trans (su_cg (su_cg ((su_sw (by decide)).trans (su_cg ((su_sw (by decide)).trans (su_cg su_tw)))))) (su_cg ((su_sw (by decide)).trans (su_cg su_tw)))) su_tw)) ?_
              exact J_vret dX6_place_166 rfl rfl rfl (hq _ x45_163 x46_163 x65_163 rfl (row_dn hr163 (by omega)) (hm163.trans (congrArg Prod.fst (rg_end (by omega)))) (by rw [← rg_end (n := n) (nn := nn) (hh := hh) (Hb := Hb) (He := He) (pc := pc) (h := 0) (st := st) (by omega)]; exact hk163))
            · refine J_iload dX6_place_80 rfl ?_
              refine J_iconst (v := nI 4) dX6_place_82 (by decide) ?_
              refine J_icmp_geN 150 (by omega) (by omega) dX6_place_83 (by decide) (fun kcz5 => ?_) (fun kcz5 => ?_)
              · obtain rfl : hh = e := (by omega)
                refine J_aload_n dX6_place_150 rfl rfl ?_
                refine Cg_9_0 fr_X6_11_5 dX6_place_151 ?_
                refine J_iload_n dX6_place_154 rfl rfl ?_
                refine J_iconst (v := -1) dX6_place_155 (by decide) ?_
                refine Cs_45 (s := (su 65 (su 46 (su 45 s y45) y46) y65)) y45 rfl 0 rfl (by omega) dX6_place_156 ?_
                refine J_ws (ws2 := (cW G r (su 65 (su 46 (su 45 s (upd y45 0 (-1))) y46) y65) l)) (congrArg (fun q_ => cW G r q_ l) ((su_sw (by decide)).trans (su_cg ((su_sw (by decide)).trans (su_cg su_tw))))) ?_
                refine J_aload_n dX6_place_157 rfl rfl ?_
                refine J_aload_n dX6_place_158 rfl rfl ?_
                refine J_iload_n dX6_place_159 rfl rfl ?_
                refine J_iconst (v := nI 1) dX6_place_160 (by decide) ?_
                refine J_iaddN dX6_place_161 ?_
                refine J_iload_n dX6_place_162 rfl rfl ?_
                refine J_rw (y := nI (WS Hb (hh + 1) (pc * (hh + 1) + hh) 1)) (congrArg nI (ws_chn (pc := pc) (h := 0) hh4)) ?_
                refine J_callS (wr := []) (As := [.ref (r 9), .ref (r 2), .int (nI (0 + 1)), .int (nI (WS Hb (hh + 1) (pc * (hh + 1) + hh) 1))]) (st := []) ms_X6_78 (c_X6_place1 r (su 65 (su 46 (su 45 s (upd y45 0 (-1))) y46) y65) l n hn hn8 Hb hb hR hk m hm6 He aw ha nn hnn hnn6 hnnn hh hhh hh4 hhm (pc * (hh + 1) + hh) (bsR n nn hh Hb He (pc * (hh + 1) ^ (nn - 0)) (hh * (hh + 1) ^ (nn - 1)) st) hy65 hy46 (row_chn hy45 (by omega)) (sh_chn hsh) hwf hop (by omega) (pc_ch hpc (by omega))) rfl rfl rfl (by decide) (Nat.le_of_ble_eq_true rfl) ⟨Nat.le_refl _, Nat.le_refl _⟩ dX6_place_163 (fun v_ w_ h_ => ?_)
                obtain ⟨x45_163, x46_163, x65_163, rfl, rfl, hr163, hm163, hk163⟩ := h_
                show J G "place" RX6 cX6_place 6 none 0 0 8 Q 0 0 166 [(0, .ref (r 9)), (1, .ref (r 2)), (2, .int (nI 0)), (3, .int (nI (WS Hb (hh + 1) pc 0))), (4, .int (nI hh))] [] (cW G r (su 65 (su 46 (su 45 (su 65 (su 46 (su 45 s (upd y45 0 (-1))) y46) y65) x45_163) x46_163) x65_163) l)
                refine J_ws (ws2 := (cW G r (su 65 (su 46 (su 45 s x45_163) x46_163) x65_163) l)) (congrArg (fun q_ => cW G r q_ l) (Eq.trans (Eq.trans (su_cg (su_cg ((su_sw (by decide)).trans (su_cg ((su_sw (by decide)).trans (su_cg su_tw)))))) (su_cg ((su_sw (by decide)).trans (su_cg su_tw)))) su_tw)) ?_
                exact J_vret dX6_place_166 rfl rfl rfl (hq _ x45_163 x46_163 x65_163 rfl (row_dn hr163 (by omega)) (hm163.trans (congrArg Prod.fst (rg_end (by omega)))) (by rw [← rg_end (n := n) (nn := nn) (hh := hh) (Hb := Hb) (He := He) (pc := pc) (h := 0) (st := st) (by omega)]; exact hk163))
              · refine J_aload_n dX6_place_86 rfl rfl ?_
                refine Cg_9_2 fr_X6_18_5 dX6_place_87 ?_
                refine J_iload dX6_place_90 rfl ?_
                refine Cl_47 (s := (su 65 (su 46 (su 45 s y45) y46) y65)) (s 47) rfl e rfl (by omega) dX6_place_92 ?_
                refine J_rw (y := nI (shr (hh + 1) pc 0 e)) (hsh e (by omega)) ?_
                refine J_istore [(0, .ref (r 9)), (1, .ref (r 2)), (2, .int (nI 0)), (3, .int (nI (WS Hb (hh + 1) pc 0))), (4, .int (nI e)), (5, .int (nI (shr (hh + 1) pc 0 e)))] dX6_place_93 (by decide) rfl rfl rfl ?_
                refine J_aload_n dX6_place_95 rfl rfl ?_
                refine Cg_9_2 fr_X6_18_5 dX6_place_96 ?_
                refine J_iload dX6_place_99 rfl ?_
                refine J_iload dX6_place_101 rfl ?_
                refine J_iconst (v := nI 1) dX6_place_103 (by decide) ?_
                refine J_iload_n dX6_place_104 rfl rfl ?_
                refine J_shl1N dX6_place_105 (by omega) ?_
                refine J_iorN dX6_place_106 ?_
                refine Cs_47 (s := (su 65 (su 46 (su 45 s y45) y46) y65)) (s 47) rfl e rfl (by omega) dX6_place_107 ?_
                refine J_ws (ws2 := (cW G r (su 65 (su 47 (su 46 (su 45 s y45) y46) (upd (s 47) e (nI ((shr (hh + 1) pc 0 e) ||| (2 ^ 0))))) y65) l)) (congrArg (fun q_ => cW G r q_ l) (su_sw (by decide))) ?_
                refine J_aload_n dX6_place_108 rfl rfl ?_
                refine Cg_9_0 fr_X6_11_5 dX6_place_109 ?_
                refine J_iload_n dX6_place_112 rfl rfl ?_
                refine J_iload dX6_place_113 rfl ?_
                refine Cs_45 (s := (su 65 (su 47 (su 46 (su 45 s y45) y46) (upd (s 47) e (nI ((shr (hh + 1) pc 0 e) ||| (2 ^ 0))))) y65)) y45 rfl 0 rfl (by omega) dX6_place_115 ?_
                refine J_ws (ws2 := (cW G r (su 65 (su 47 (su 46 (su 45 s (upd y45 0 (nI e))) y46) (upd (s 47) e (nI ((shr (hh + 1) pc 0 e) ||| (2 ^ 0))))) y65) l)) (congrArg (fun q_ => cW G r q_ l) ((su_sw (by decide)).trans (su_cg ((su_sw (by decide)).trans (su_cg ((su_sw (by decide)).trans (su_cg su_tw))))))) ?_
                refine J_aload_n dX6_place_116 rfl rfl ?_
                refine J_aload_n dX6_place_117 rfl rfl ?_
                refine J_iload_n dX6_place_118 rfl rfl ?_
                refine J_iconst (v := nI 1) dX6_place_119 (by decide) ?_
                refine J_iaddN dX6_place_120 ?_
                refine J_iload_n dX6_place_121 rfl rfl ?_
                refine J_aload_n dX6_place_122 rfl rfl ?_
                refine Cg_2_0 fr_X6_42_4 dX6_place_123 ?_
                refine Cg_3_8 fr_X6_103_2 dX6_place_126 ?_
                refine J_iload_n dX6_place_129 rfl rfl ?_
                refine Cl_23 (s := (su 65 (su 47 (su 46 (su 45 s (upd y45 0 (nI e))) y46) (upd (s 47) e (nI ((shr (hh + 1) pc 0 e) ||| (2 ^ 0))))) y65)) (s 23) rfl 0 rfl (by omega) dX6_place_130 ?_
                refine J_rw (y := nI (wN Hb 0)) ((hR 0 (by omega)).1.trans (wN_eq hk (by omega)).1) ?_
                refine J_iaddN dX6_place_131 ?_
                refine J_rw (y := nI (WS Hb (hh + 1) (pc * (hh + 1) + e) 1)) (congrArg nI (ws_che (by omega))) ?_
                refine J_callS (wr := []) (As := [.ref (r 9), .ref (r 2), .int (nI (0 + 1)), .int (nI (WS Hb (hh + 1) (pc * (hh + 1) + e) 1))]) (st := []) ms_X6_78 (c_X6_place1 r (su 65 (su 47 (su 46 (su 45 s (upd y45 0 (nI e))) y46) (upd (s 47) e (nI ((shr (hh + 1) pc 0 e) ||| (2 ^ 0))))) y65) l n hn hn8 Hb hb hR hk m hm6 He aw ha nn hnn hnn6 hnnn hh hhh hh4 hhm (pc * (hh + 1) + e) (bsR n nn hh Hb He (pc * (hh + 1) ^ (nn - 0)) (e * (hh + 1) ^ (nn - 1)) st) hy65 hy46 (row_che hy45 (by omega)) (sh_che hsh (by omega)) hwf hop (by omega) (pc_ch hpc (by omega))) rfl rfl rfl (by decide) (Nat.le_of_ble_eq_true rfl) ⟨Nat.le_refl _, Nat.le_refl _⟩ dX6_place_132 (fun v_ w_ h_ => ?_)
                obtain ⟨x45_132, x46_132, x65_132, rfl, rfl, hr132, hm132, hk132⟩ := h_
                show J G "place" RX6 cX6_place 6 none 0 0 8 Q 0 0 135 [(0, .ref (r 9)), (1, .ref (r 2)), (2, .int (nI 0)), (3, .int (nI (WS Hb (hh + 1) pc 0))), (4, .int (nI e)), (5, .int (nI (shr (hh + 1) pc 0 e)))] [] (cW G r (su 65 (su 46 (su 45 (su 65 (su 47 (su 46 (su 45 s (upd y45 0 (nI e))) y46) (upd (s 47) e (nI ((shr (hh + 1) pc 0 e) ||| (2 ^ 0))))) y65) x45_132) x46_132) x65_132) l)
                refine J_ws (ws2 := (cW G r (su 65 (su 47 (su 46 (su 45 s x45_132) x46_132) (upd (s 47) e (nI ((shr (hh + 1) pc 0 e) ||| (2 ^ 0))))) x65_132) l)) (congrArg (fun q_ => cW G r q_ l) (Eq.trans (Eq.trans (su_cg (su_cg ((su_sw (by decide)).trans (su_cg ((su_sw (by decide)).trans (su_cg ((su_sw (by decide)).trans (su_cg su_tw)))))))) (su_cg ((su_sw (by decide)).trans (su_cg ((su_sw (by decide)).trans (su_cg su_tw)))))) su_tw)) ?_
                refine J_aload_n dX6_place_135 rfl rfl ?_
                refine Cg_9_2 fr_X6_18_5 dX6_place_136 ?_
                refine J_iload dX6_place_139 rfl ?_
                refine J_iload dX6_place_141 rfl ?_
                refine Cs_47 (s := (su 65 (su 47 (su 46 (su 45 s x45_132) x46_132) (upd (s 47) e (nI ((shr (hh + 1) pc 0 e) ||| (2 ^ 0))))) x65_132)) (upd (s 47) e (nI ((shr (hh + 1) pc 0 e) ||| (2 ^ 0)))) rfl e rfl (by omega) dX6_place_143 ?_
                refine J_ws (ws2 := (cW G r (su 65 (su 47 (su 46 (su 45 s x45_132) x46_132) (upd (upd (s 47) e (nI ((shr (hh + 1) pc 0 e) ||| (2 ^ 0)))) e (nI (shr (hh + 1) pc 0 e)))) x65_132) l)) (congrArg (fun q_ => cW G r q_ l) ((su_sw (by decide)).trans (su_cg su_tw))) ?_
                refine J_ws (ws2 := (cW G r (su 65 (su 46 (su 45 s x45_132) x46_132) x65_132) l)) (congrArg (fun q_ => cW G r q_ l) (su_cg ((congrArg (su 47 _) (sh_back (hsh e (by omega)))).trans su_id))) ?_
                refine J_iincN [(0, .ref (r 9)), (1, .ref (r 2)), (2, .int (nI 0)), (3, .int (nI (WS Hb (hh + 1) pc 0))), (4, .int (nI (e + 1))), (5, .int (nI (shr (hh + 1) pc 0 e)))] dX6_place_144 rfl (by decide) rfl rfl rfl ?_
                refine J_goto 71 dX6_place_147 (by decide) ?_
                refine J_lv [0, 1, 2, 3, 4] rfl ?_
                exact ih71 (e + 1) x45_132 x46_132 x65_132 (by omega) (by omega) (row_dn hr132 (by omega)) (hm132.trans (congrArg Prod.fst (rg_st (by omega)))) (by rw [← rg_st (n := n) (nn := nn) (hh := hh) (Hb := Hb) (He := He) (pc := pc) (h := 0) (e := e) (st := st) (by omega)]; exact hk132) _ rfl
        exact L71 (hh + 1) 0 (s 45) (s 46) (s 65) (by omega) (by omega) hrow (by rw [Nat.zero_mul]; exact hmo) (by rw [Nat.zero_mul]; exact hkp) _ rfl
    · exact J_vret dX6_place_32 rfl rfl rfl (by rw [bsR_id (a := pc * (hh + 1) ^ (nn - 0)) (k := (hh + 1) ^ (nn - 0)) (st := st) (fun c h1 h2 => by obtain ⟨q, hq2, hqf⟩ := all_ex kcz2; exact cut_o hk ha hn8 hm6 hnnn hh4 hhm (by omega) (rg_div h1 h2) hq2 (by rw [show nn - (nn - 0) = 0 by omega]; exact hqf))] at hq; exact hq _ (s 45) (s 46) (s 65) rfl hrow hmo hkp)
theorem c_X6_place0 {G : GT} (r : Nat → Nat) (s : St) (l : Nat → Int64) (n : Nat) (hn : s 52 0 = nI n) (hn8 : n ≤ 8) (Hb : Nat → Int32) (hb : Nat → Nat) (hR : CHr n Hb hb s) (hk : HbOk n Hb hb) (m : Nat) (hm6 : m ≤ 6) (He : Nat → Int32) (aw : Nat → Nat) (ha : AwOk m He aw) (nn : Nat) (hnn : s 63 0 = nI nn) (hnn6 : nn ≤ 6) (hnnn : nn ≤ n) (hh : Nat) (hhh : s 64 0 = nI hh) (hh4 : hh ≤ 4) (hhm : hh ≤ m) (pc : Nat) (st : Int32 × Int32) (hmo : s 65 0 = st.1) (hkp : KPo (hh + 1) nn st (s 46)) (hrow : RowO (hh + 1) nn pc 0 (s 45)) (hsh : ∀ q, q < hh → s 47 q = nI (shr (hh + 1) pc 0 q)) (hwf : ∀ k, k ≤ nn → s 48 k = nI (WFk Hb nn (nn - k))) (hop : ∀ q, q < hh → ∀ k, k ≤ nn → l (q * 7 + k) = lN (opN (lvB n Hb hb He aw) nn q (nn - k))) (hle : 0 ≤ nn) (hpc : pc < (hh + 1) ^ 0) : Ct G yX6_place cX6_place 6 none 0 0 8 [.ref (r 9), .ref (r 2), .int (nI 0), .int (nI (WS Hb (hh + 1) pc 0))] (cW G r s l) (fun v w => ∃ y45 y46 y65 : Nat → Int32, v = none ∧ w = cW G r (su 65 (su 46 (su 45 s y45) y46) y65) l ∧ RowO (hh + 1) nn pc 0 y45 ∧ y65 0 = (bsR n nn hh Hb He (pc * (hh + 1) ^ (nn - 0)) ((hh + 1) ^ (nn - 0)) st).1 ∧ KPo (hh + 1) nn (bsR n nn hh Hb He (pc * (hh + 1) ^ (nn - 0)) ((hh + 1) ^ (nn - 0)) st) y46) := Ct.of rfl (Nat.le_of_ble_eq_true rfl) (j_X6_place0 r s l n hn hn8 Hb hb hR hk m hm6 He aw ha nn hnn hnn6 hnnn hh hhh hh4 hhm pc st hmo hkp hrow hsh hwf hop hle hpc (fun w_ y45 y46 y65 h1 h2 h3 h4 => ⟨y45, y46, y65, rfl, h1, h2, h3, h4⟩))
