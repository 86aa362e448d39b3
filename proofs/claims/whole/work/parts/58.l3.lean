theorem sub6_lt {i n : Nat} (h : n < i + 6) (hn : n ≤ 384) (hi : i ≤ 384) : nI n - nI 6 < nI i := by
  have key : ∀ n, n < 385 → (nI n - nI 6).toInt = (n : Int) - 6 := by decide +kernel
  have key2 : ∀ n, n < 385 → (nI n).toInt = (n : Int) := by decide +kernel
  rw [Int32.lt_iff_toInt_lt, key n (by omega), key2 i (by omega)]
  omega
theorem nI_tI64 {j : Nat} (h : j < 64) : (nI j).toInt = (j : Int) := by
  have : ∀ j, j < 64 → (nI j).toInt = (j : Int) := by decide +kernel
  exact this j h
theorem nI_and63 (z : Int32) : ∃ j : Nat, j < 64 ∧ (z &&& nI 63) = nI j := by
  refine ⟨(z &&& nI 63).toBitVec.toNat, ?_, ?_⟩
  · have h : (z &&& nI 63).toBitVec = z.toBitVec &&& 63#32 := rfl
    rw [h, BitVec.toNat_and]
    exact Nat.lt_of_le_of_lt Nat.and_le_right (by decide)
  · apply Int32.toBitVec_inj.mp
    show (z &&& nI 63).toBitVec = BitVec.ofNat 32 (z &&& nI 63).toBitVec.toNat
    rw [BitVec.ofNat_toNat, BitVec.setWidth_eq]
theorem L_tbl {G : GT} {bs Ln : Nat} {xs : Nat → Int32} {k n : Nat} {lv : List (Nat × Value)} {st : List Value} {ws : va_W} (z : Int32) (Kd : JL G bs Ln xs k n 1221 lv st ws) (K0 : JL G bs Ln xs k n 180 lv st ws) (K1 : JL G bs Ln xs k n 213 lv st ws) (K2 : JL G bs Ln xs k n 236 lv st ws) (K3 : JL G bs Ln xs k n 259 lv st ws) (K4 : JL G bs Ln xs k n 282 lv st ws) (K5 : JL G bs Ln xs k n 315 lv st ws) (K6 : JL G bs Ln xs k n 348 lv st ws) (K7 : JL G bs Ln xs k n 381 lv st ws) (K8 : JL G bs Ln xs k n 414 lv st ws) (K9 : JL G bs Ln xs k n 427 lv st ws) (K10 : JL G bs Ln xs k n 470 lv st ws) (K11 : JL G bs Ln xs k n 493 lv st ws) (K12 : JL G bs Ln xs k n 526 lv st ws) (K13 : JL G bs Ln xs k n 559 lv st ws) (K14 : JL G bs Ln xs k n 572 lv st ws) (K15 : JL G bs Ln xs k n 595 lv st ws) (K16 : JL G bs Ln xs k n 618 lv st ws) (K17 : JL G bs Ln xs k n 651 lv st ws) (K18 : JL G bs Ln xs k n 694 lv st ws) (K19 : JL G bs Ln xs k n 737 lv st ws) (K20 : JL G bs Ln xs k n 750 lv st ws) (K21 : JL G bs Ln xs k n 773 lv st ws) (K22 : JL G bs Ln xs k n 796 lv st ws) (K23 : JL G bs Ln xs k n 829 lv st ws) (K24 : JL G bs Ln xs k n 883 lv st ws) (K25 : JL G bs Ln xs k n 926 lv st ws) (K26 : JL G bs Ln xs k n 969 lv st ws) (K27 : JL G bs Ln xs k n 992 lv st ws) (K28 : JL G bs Ln xs k n 1045 lv st ws) (K29 : JL G bs Ln xs k n 1088 lv st ws) (K30 : JL G bs Ln xs k n 1151 lv st ws) (K31 : JL G bs Ln xs k n 1184 lv st ws) (K32 : JL G bs Ln xs k n 1207 lv st ws) : JL G bs Ln xs k n 33 lv (.int (z &&& nI 63) :: st) ws := by
  have hz : ∃ j : Nat, j < 64 ∧ (z &&& nI 63) = nI j := nI_and63 z
  obtain ⟨j, hj, e⟩ := hz
  rw [e]
  by_cases h33 : j < 33
  · match j, h33 with
    | 0, _ => exact L_tblIn (off := 147) 180 dL_law_33 (by decide +kernel) (by decide +kernel) (by decide +kernel) rfl K0
    | 1, _ => exact L_tblIn (off := 180) 213 dL_law_33 (by decide +kernel) (by decide +kernel) (by decide +kernel) rfl K1
    | 2, _ => exact L_tblIn (off := 203) 236 dL_law_33 (by decide +kernel) (by decide +kernel) (by decide +kernel) rfl K2
    | 3, _ => exact L_tblIn (off := 226) 259 dL_law_33 (by decide +kernel) (by decide +kernel) (by decide +kernel) rfl K3
    | 4, _ => exact L_tblIn (off := 249) 282 dL_law_33 (by decide +kernel) (by decide +kernel) (by decide +kernel) rfl K4
    | 5, _ => exact L_tblIn (off := 282) 315 dL_law_33 (by decide +kernel) (by decide +kernel) (by decide +kernel) rfl K5
    | 6, _ => exact L_tblIn (off := 315) 348 dL_law_33 (by decide +kernel) (by decide +kernel) (by decide +kernel) rfl K6
    | 7, _ => exact L_tblIn (off := 348) 381 dL_law_33 (by decide +kernel) (by decide +kernel) (by decide +kernel) rfl K7
    | 8, _ => exact L_tblIn (off := 381) 414 dL_law_33 (by decide +kernel) (by decide +kernel) (by decide +kernel) rfl K8
    | 9, _ => exact L_tblIn (off := 394) 427 dL_law_33 (by decide +kernel) (by decide +kernel) (by decide +kernel) rfl K9
    | 10, _ => exact L_tblIn (off := 437) 470 dL_law_33 (by decide +kernel) (by decide +kernel) (by decide +kernel) rfl K10
    | 11, _ => exact L_tblIn (off := 460) 493 dL_law_33 (by decide +kernel) (by decide +kernel) (by decide +kernel) rfl K11
    | 12, _ => exact L_tblIn (off := 493) 526 dL_law_33 (by decide +kernel) (by decide +kernel) (by decide +kernel) rfl K12
    | 13, _ => exact L_tblIn (off := 526) 559 dL_law_33 (by decide +kernel) (by decide +kernel) (by decide +kernel) rfl K13
    | 14, _ => exact L_tblIn (off := 539) 572 dL_law_33 (by decide +kernel) (by decide +kernel) (by decide +kernel) rfl K14
    | 15, _ => exact L_tblIn (off := 562) 595 dL_law_33 (by decide +kernel) (by decide +kernel) (by decide +kernel) rfl K15
    | 16, _ => exact L_tblIn (off := 585) 618 dL_law_33 (by decide +kernel) (by decide +kernel) (by decide +kernel) rfl K16
    | 17, _ => exact L_tblIn (off := 618) 651 dL_law_33 (by decide +kernel) (by decide +kernel) (by decide +kernel) rfl K17
    | 18, _ => exact L_tblIn (off := 661) 694 dL_law_33 (by decide +kernel) (by decide +kernel) (by decide +kernel) rfl K18
    | 19, _ => exact L_tblIn (off := 704) 737 dL_law_33 (by decide +kernel) (by decide +kernel) (by decide +kernel) rfl K19
    | 20, _ => exact L_tblIn (off := 717) 750 dL_law_33 (by decide +kernel) (by decide +kernel) (by decide +kernel) rfl K20
    | 21, _ => exact L_tblIn (off := 740) 773 dL_law_33 (by decide +kernel) (by decide +kernel) (by decide +kernel) rfl K21
    | 22, _ => exact L_tblIn (off := 763) 796 dL_law_33 (by decide +kernel) (by decide +kernel) (by decide +kernel) rfl K22
    | 23, _ => exact L_tblIn (off := 796) 829 dL_law_33 (by decide +kernel) (by decide +kernel) (by decide +kernel) rfl K23
    | 24, _ => exact L_tblIn (off := 850) 883 dL_law_33 (by decide +kernel) (by decide +kernel) (by decide +kernel) rfl K24
    | 25, _ => exact L_tblIn (off := 893) 926 dL_law_33 (by decide +kernel) (by decide +kernel) (by decide +kernel) rfl K25
    | 26, _ => exact L_tblIn (off := 936) 969 dL_law_33 (by decide +kernel) (by decide +kernel) (by decide +kernel) rfl K26
    | 27, _ => exact L_tblIn (off := 959) 992 dL_law_33 (by decide +kernel) (by decide +kernel) (by decide +kernel) rfl K27
    | 28, _ => exact L_tblIn (off := 1012) 1045 dL_law_33 (by decide +kernel) (by decide +kernel) (by decide +kernel) rfl K28
    | 29, _ => exact L_tblIn (off := 1055) 1088 dL_law_33 (by decide +kernel) (by decide +kernel) (by decide +kernel) rfl K29
    | 30, _ => exact L_tblIn (off := 1118) 1151 dL_law_33 (by decide +kernel) (by decide +kernel) (by decide +kernel) rfl K30
    | 31, _ => exact L_tblIn (off := 1151) 1184 dL_law_33 (by decide +kernel) (by decide +kernel) (by decide +kernel) rfl K31
    | 32, _ => exact L_tblIn (off := 1174) 1207 dL_law_33 (by decide +kernel) (by decide +kernel) (by decide +kernel) rfl K32
    | t + 33, h => exact absurd h (by omega)
  · have hti : (nI j).toInt = (j : Int) := nI_tI64 (by omega)
    exact L_tblOut 1221 dL_law_33 (Or.inr (by rw [hti]; omega)) rfl Kd
/-- THE LAW'S LOOP -/
theorem law_loop {G : GT} {bs Ln : Nat} {xs : Nat → Int32} {r : Nat → Nat} {o : Nat} {a : Nat → Nat} (hL4 : Ln ≤ 384) : ∀ (f i : Nat), Ln < i + f → i ≤ 384 → ∀ (s x : St) (l : Nat → Int64), LI (cn s) → CI (cn s) x → JL G bs Ln xs 65 1531 18 [(0, .ref bs), (1, .ref (r 0)), (2, .ref o), (3, .int (nI i))] [] (cW G r x l ++ mW G o a s) := by
  intro f
  induction f with
  | zero =>
    intro i h hi s x l hI hC
    refine L_iload_n dL_law_18 rfl rfl ?_
    refine L_aload_n dL_law_19 rfl rfl ?_
    refine L_slen dL_law_20 ?_
    refine L_bipush (v := nI 6) dL_law_21 (by decide) ?_
    refine L_isub dL_law_23 ?_
    refine L_icmp_gt 1227 dL_law_24 rfl (fun _ => ?_) (fun h6 => absurd (sub6_lt (by omega) (by omega) (by omega)) h6)
    refine L_iconst (v := 1) dL_law_1227 (by decide) ?_
    exact L_end (by decide) (by decide) dL_law_1228
  | succ f ih =>
    intro i h hi s x l hI hC
    refine L_iload_n dL_law_18 rfl rfl ?_
    refine L_aload_n dL_law_19 rfl rfl ?_
    refine L_slen dL_law_20 ?_
    refine L_bipush (v := nI 6) dL_law_21 (by decide) ?_
    refine L_isub dL_law_23 ?_
    refine L_icmp_gt 1227 dL_law_24 rfl (fun _ => ?_) (fun h6 => ?_)
    · refine L_iconst (v := 1) dL_law_1227 (by decide) ?_
      exact L_end (by decide) (by decide) dL_law_1228
    · have hi6 : i + 6 ≤ Ln := by
        rcases Nat.lt_or_ge Ln (i + 6) with hq | hq
        · exact absurd (sub6_lt hq (by omega) (by omega)) h6
        · exact hq
      have K : ∀ (s2 x2 : St) (l2 : Nat → Int64), LI (cn s2) → CI (cn s2) x2 → JL G bs Ln xs 65 1531 1221 [(0, .ref bs), (1, .ref (r 0)), (2, .ref o), (3, .int (nI i))] [] (cW G r x2 l2 ++ mW G o a s2) := by
        intro s2 x2 l2 hI2 hC2
        refine L_iinc (v := nI (i + 6)) [(0, .ref bs), (1, .ref (r 0)), (2, .ref o), (3, .int (nI (i + 6)))] dL_law_1221 rfl (nI_add i 6) (by decide) rfl rfl rfl ?_
        exact L_goto 18 dL_law_1224 rfl (ih (i + 6) (by omega) (by omega) s2 x2 l2 hI2 hC2)
      refine L_aload_n dL_law_27 rfl rfl ?_
      refine L_iload_n dL_law_28 rfl rfl ?_
      refine L_sld i rfl (by omega) hL4 dL_law_29 ?_
      refine L_bipush (v := nI 63) dL_law_30 (by decide) ?_
      refine L_iand dL_law_32 ?_
      exact L_tbl (xs i) (K s x l hI hC) (lc_0 hi6 hL4 hI hC K) (lc_1 hi6 hL4 hI hC K) (lc_2 hi6 hL4 hI hC K) (lc_3 hi6 hL4 hI hC K) (lc_4 hi6 hL4 hI hC K) (lc_5 hi6 hL4 hI hC K) (lc_6 hi6 hL4 hI hC K) (lc_7 hi6 hL4 hI hC K) (lc_8 hi6 hL4 hI hC K) (lc_9 hi6 hL4 hI hC K) (lc_10 hi6 hL4 hI hC K) (lc_11 hi6 hL4 hI hC K) (lc_12 hi6 hL4 hI hC K) (lc_13 hi6 hL4 hI hC K) (lc_14 hi6 hL4 hI hC K) (lc_15 hi6 hL4 hI hC K) (lc_16 hi6 hL4 hI hC K) (lc_17 hi6 hL4 hI hC K) (lc_18 hi6 hL4 hI hC K) (lc_19 hi6 hL4 hI hC K) (lc_20 hi6 hL4 hI hC K) (lc_21 hi6 hL4 hI hC K) (lc_22 hi6 hL4 hI hC K) (lc_23 hi6 hL4 hI hC K) (lc_24 hi6 hL4 hI hC K) (lc_25 hi6 hL4 hI hC K) (lc_26 hi6 hL4 hI hC K) (lc_27 hi6 hL4 hI hC K) (lc_28 hi6 hL4 hI hC K) (lc_29 hi6 hL4 hI hC K) (lc_30 hi6 hL4 hI hC K) (lc_31 hi6 hL4 hI hC K) (lc_32 hi6 hL4 hI hC K)
theorem df_X11 : ∀ j, j < 6 → defaultValue (tyX11 j) = vp_V [.null, .null, .null, .null, .null, .int 0] j := fun j hj => match j, hj with
  | 0, _ => rfl
  | 1, _ => rfl
  | 2, _ => rfl
  | 3, _ => rfl
  | 4, _ => rfl
  | 5, _ => rfl
  | n + 6, h => absurd h (by omega)
theorem df_X12 : ∀ j, j < 25 → defaultValue (tyX12 j) = vp_V [.null, .null, .null, .null, .int 0, .null, .null, .int 0, .null, .null, .null, .null, .int 0, .null, .int 0, .int 0, .null, .null, .int 0, .int 0, .int 0, .int 0, .null, .null, .int 0] j := fun j hj => match j, hj with
  | 0, _ => rfl
  | 1, _ => rfl
  | 2, _ => rfl
  | 3, _ => rfl
  | 4, _ => rfl
  | 5, _ => rfl
  | 6, _ => rfl
  | 7, _ => rfl
  | 8, _ => rfl
  | 9, _ => rfl
  | 10, _ => rfl
  | 11, _ => rfl
  | 12, _ => rfl
  | 13, _ => rfl
  | 14, _ => rfl
  | 15, _ => rfl
  | 16, _ => rfl
  | 17, _ => rfl
  | 18, _ => rfl
  | 19, _ => rfl
  | 20, _ => rfl
  | 21, _ => rfl
  | 22, _ => rfl
  | 23, _ => rfl
  | 24, _ => rfl
  | n + 25, h => absurd h (by omega)
theorem wz_c7 : Cond.classLink RL 7 RX11 ∈ TB := TB_mem 68 (by decide +kernel) (by decide +kernel)
theorem wz_c10 : Cond.classLink RL 10 RX12 ∈ TB := TB_mem 892 (by decide +kernel) (by decide +kernel)
theorem wz_i11 : Cond.instantiable RX11 6 ∈ TB := TB_mem 69 (by decide +kernel) (by decide +kernel)
theorem wz_i12 : Cond.instantiable RX12 25 ∈ TB := TB_mem 893 (by decide +kernel) (by decide +kernel)
theorem wz_n11 : Cond.initialized RX11 ∈ TB := TB_mem 51 (by decide +kernel) (by decide +kernel)
theorem wz_n12 : Cond.initialized RX12 ∈ TB := TB_mem 64 (by decide +kernel) (by decide +kernel)
theorem wz_kX11 : Cond.code yX11_init cX11_init 2 none ∈ TB := TB_mem 72 (by decide +kernel) (by decide +kernel)
theorem wz_lX11 : Cond.methodLink RL 9 yX11_init ∈ TB := TB_mem 70 (by decide +kernel) (by decide +kernel)
theorem wz_mX11 : Cond.instanceMethod yX11_init ∈ TB := TB_mem 71 (by decide +kernel) (by decide +kernel)
theorem miL_9 : MI RL 9 yX11_init cX11_init 2 0 := ⟨wz_kX11, wz_lX11, wz_mX11, rfl, wz_n11, by decide +kernel, by decide⟩
theorem wz_kX12 : Cond.code yX12_init cX12_init 2 none ∈ TB := TB_mem 896 (by decide +kernel) (by decide +kernel)
theorem wz_lX12 : Cond.methodLink RL 12 yX12_init ∈ TB := TB_mem 894 (by decide +kernel) (by decide +kernel)
theorem wz_mX12 : Cond.instanceMethod yX12_init ∈ TB := TB_mem 895 (by decide +kernel) (by decide +kernel)
theorem miL_12 : MI RL 12 yX12_init cX12_init 2 0 := ⟨wz_kX12, wz_lX12, wz_mX12, rfl, wz_n12, by decide +kernel, by decide⟩
theorem law_JL {G : GT} {bs Ln : Nat} {xs : Nat → Int32} (hL4 : Ln ≤ 384) : JL G bs Ln xs 0 0 0 [(0, .ref bs)] [] [] := by
  refine L_new (C0 := RX11) (T := TX11) (N := 6) (ci := 10) tyX11 [.null, .null, .null, .null, .null, .int 0] rfl uwX11 tyX11_ok wz_c7 wz_i11 wz_n11 df_X11 (by decide) (by decide) dL_law_0 (fun q1 => ?_)
  refine L_dup dL_law_3 rfl ?_
  refine L_callI (As := []) (st := [.ref q1]) (wr := []) miL_9 (c_X11_init q1) rfl rfl rfl (by decide) (Nat.le_of_ble_eq_true rfl) (by decide) dL_law_4 (fun v w1 h => ?_)
  obtain ⟨rfl, r, hr0, rfl⟩ := h
  subst hr0
  show JL G bs Ln xs 49 783 7 [(0, .ref bs)] [.ref (r 0)] (cW G r x0S (fun _ => 0))
  refine L_astore_n [(0, .ref bs), (1, .ref (r 0))] dL_law_7 rfl (by decide) rfl rfl rfl ?_
  refine L_new (C0 := RX12) (T := TX12) (N := 25) (ci := 11) tyX12 [.null, .null, .null, .null, .int 0, .null, .null, .int 0, .null, .null, .null, .null, .int 0, .null, .int 0, .int 0, .null, .null, .int 0, .int 0, .int 0, .int 0, .null, .null, .int 0] rfl uwX12 tyX12_ok wz_c10 wz_i12 wz_n12 df_X12 (by decide) (by decide) dL_law_8 (fun o => ?_)
  refine L_dup dL_law_11 rfl ?_
  refine L_callI (As := []) (st := [.ref o]) (wr := cW G r x0S (fun _ => 0)) miL_12 (c_X12_init o) rfl rfl rfl (by decide) (Nat.le_of_ble_eq_true rfl) (by decide) dL_law_12 (fun v w1 h => ?_)
  obtain ⟨rfl, a, rfl⟩ := h
  show JL G bs Ln xs 65 1531 15 [(0, .ref bs), (1, .ref (r 0))] [.ref o] (cW G r x0S (fun _ => 0) ++ mW G o a m0S)
  refine L_astore_n [(0, .ref bs), (1, .ref (r 0)), (2, .ref o)] dL_law_15 rfl (by decide) rfl rfl rfl ?_
  refine L_iconst (v := nI 0) dL_law_16 (by decide) ?_
  refine L_istore_n [(0, .ref bs), (1, .ref (r 0)), (2, .ref o), (3, .int (nI 0))] dL_law_17 rfl (by decide) rfl rfl rfl ?_
  exact law_loop hL4 (Ln + 1) 0 (by omega) (by decide) m0S x0S (fun _ => 0) li_0 ci_0
theorem lw_at {w : Cond} (k : Nat) (h : lw_tbl[k]? = some w) : w ∈ lw_tbl := List.mem_of_getElem? h
theorem TB_start {s : State} {args : Array Value} (hts : ∀ w ∈ lw_tbl, w.before args s = true) : ∀ w ∈ TB, w.before args s = true := by
  intro w hw
  rcases List.mem_append.mp (TB_good hw).1 with h | h
  · exact hts w h
  · have hp : (Cond.privateMethod yX5_readRows).before args s = true := hts _ (lw_at 414 (by decide +kernel))
    have hi : (Cond.instanceMethod yX5_readRows).before args s = true := hts _ (lw_at 415 (by decide +kernel))
    have h2 : (Cond.selects RX2 yX5_append yX5_append).before args s = true := hts _ (lw_at 409 (by decide +kernel))
    have h3 : (Cond.selects RX3 yX5_append yX5_append).before args s = true := hts _ (lw_at 410 (by decide +kernel))
    have h0 : (Cond.selects RX0 yX5_append yX5_append).before args s = true := hts _ (lw_at 408 (by decide +kernel))
    have hne : yX5_readRows.cls ≠ "java/lang/invoke/MethodHandle" ∧ yX5_readRows.cls ≠ "java/lang/invoke/VarHandle" := by decide +kernel
    simp only [xsel, List.mem_cons, List.not_mem_nil, or_false] at h
    rcases h with h | h | h <;> subst h
    · exact sel_sub h2 rfl hne hp hi
    · exact sel_sub h3 rfl hne hp hi
    · exact sel_sub h0 rfl hne hp hi
theorem nwl_tbl : ∀ q ∈ nwl, Cond.methodLinkNest q.1 q.2.1 q.2.2.1 q.2.2.2 ∈ lw_tbl := by decide +kernel
theorem ndl_tbl : ∀ x ∈ ndl, Cond.declares x ∈ lw_tbl := by decide +kernel
theorem NW_start {s : State} {args : Array Value} (hts : ∀ w ∈ lw_tbl, w.before args s = true) : NW s :=
  ⟨fun q hq => va_Nw.of rfl (hts _ (nwl_tbl q hq)), fun x hx => va_Nw.of rfl (hts _ (ndl_tbl x hx)), va_AO.of (hts _ w_mAO)⟩
theorem K_start {s : State} {args : Array Value} (hts : ∀ w ∈ lw_tbl, w.before args s = true) : ∃ (D : va_G) (cI cJ cS : ClassId), va_K D vwCl [(cI, .int), (cJ, .long), (cS, .object "HabitWill$Sheet")] s := by
  have hTB := TB_start hts
  obtain ⟨c0, iS0, hKn0⟩ := u_known (C := RX0) (T := TX0) (N := 10) (n := 10) hTB uwX0 (hTB _ wk_211)
  obtain ⟨c1, iS1, hKn1⟩ := u_known (C := RX1) (T := TX1) (N := 6) (n := 6) hTB uwX1 (hTB _ wk_77)
  obtain ⟨c2, iS2, hKn2⟩ := u_known (C := RX2) (T := TX2) (N := 12) (n := 12) hTB uwX2 (hTB _ wk_89)
  obtain ⟨c3, iS3, hKn3⟩ := u_known (C := RX3) (T := TX3) (N := 10) (n := 10) hTB uwX3 (hTB _ wk_167)
  obtain ⟨c4, iS4, hKn4⟩ := u_known (C := RX4) (T := TX4) (N := 2) (n := 2) hTB uwX4 (hTB _ wk_83)
  obtain ⟨c5, iS5, hKn5⟩ := u_known (C := RX6) (T := TX6) (N := 9) (n := 9) hTB uwX6 (hTB _ wk_318)
  obtain ⟨c6, iS6, hKn6⟩ := u_known (C := RX7) (T := TX7) (N := 3) (n := 3) hTB uwX7 (hTB _ wk_244)
  obtain ⟨c7, iS7, hKn7⟩ := u_known (C := RX8) (T := TX8) (N := 3) (n := 3) hTB uwX8 (hTB _ wk_356)
  obtain ⟨c8, iS8, hKn8⟩ := u_known (C := RX9) (T := TX9) (N := 4) (n := 4) hTB uwX9 (hTB _ wk_298)
  obtain ⟨c9, iS9, hKn9⟩ := u_known (C := RX10) (T := TX10) (N := 1) (n := 1) hTB uwX10 (hTB _ wk_285)
  obtain ⟨c10, iS10, hKn10⟩ := u_known (C := RX11) (T := TX11) (N := 6) (n := 6) hTB uwX11 (hTB _ wz_i11)
  obtain ⟨c11, iS11, hKn11⟩ := u_known (C := RX12) (T := TX12) (N := 25) (n := 25) hTB uwX12 (hTB _ wz_i12)
  obtain ⟨cI, kI, pI, i1, i2, i3⟩ := Cond.arrayClass_spec (hTB _ w_arrI)
  obtain ⟨cJ, kJ, pJ, j1, j2, j3⟩ := Cond.arrayClass_spec (hTB _ w_arrL)
  obtain ⟨pS, cS, kS, s1, s2, s3, s4, s5⟩ := Cond.arrayOver_spec (hts _ w_mAO)
  refine ⟨(fun k => ([c0, c1, c2, c3, c4, c5, c6, c7, c8, c9, c10, c11] : List ClassId).getD k c0, fun k => ([iS0, iS1, iS2, iS3, iS4, iS5, iS6, iS7, iS8, iS9, iS10, iS11] : List (Nat → Nat)).getD k iS0), cI, cJ, cS, fun k q hq => ?_, fun k q hq => ?_⟩
  · match k, hq with
    | 0, hq => cases hq; exact hKn0
    | 1, hq => cases hq; exact hKn1
    | 2, hq => cases hq; exact hKn2
    | 3, hq => cases hq; exact hKn3
    | 4, hq => cases hq; exact hKn4
    | 5, hq => cases hq; exact hKn5
    | 6, hq => cases hq; exact hKn6
    | 7, hq => cases hq; exact hKn7
    | 8, hq => cases hq; exact hKn8
    | 9, hq => cases hq; exact hKn9
    | 10, hq => cases hq; exact hKn10
    | 11, hq => cases hq; exact hKn11
    | k + 12, hq => cases hq
  · match k, hq with
    | 0, hq => cases hq; exact ⟨fun N z => ⟨(fun k h => by cases h), kI, i2, pI, i3⟩, i1⟩
    | 1, hq => cases hq; exact ⟨fun N z => ⟨(fun k h => by cases h), kJ, j2, pJ, j3⟩, j1⟩
    | 2, hq => cases hq; exact ⟨fun N z => ⟨(fun k h => by cases h), kS, s3, pS, s4⟩, kS, pS, s3, s4, s1, s5⟩
    | k + 3, hq => cases hq
theorem whole_start {p : Program} {e : Env} {s : State} {m : MethodId} {below : List Frame} {meth : Method} {c : Code} (l : Launch) {b L : Nat} {xs : Nat → Int32} (hL : L ≤ 384) (C0 : lw_At p s m meth c b L xs) : W p l e room_1 s m #[Value.ref b] below meth c s.heap [] 0 0 (lw_Z below #[Value.ref b] s) (entryFrame m ([Value.ref b] : List Value).toArray 4) := by
  obtain ⟨hx, hb, hr, hml, hown, hts, hX, hbl, hlocks, hgv⟩ := id C0
  obtain ⟨D, cI, cJ, cS, hK⟩ := K_start hts
  have hl := lv_entry ([.ref b]) (n := 4) (Nat.le_of_ble_eq_true rfl)
  rw [lg_entry_eq]
  generalize (lg_sl ([.ref b]) ++ List.replicate (4 - (lg_sl ([.ref b])).length) Slot.unset).toArray = ls at hl ⊢
  have hl : lv_has ls 4 [(0, .ref b)] := hl
  exact law_JL (G := (l, D, cI, cJ, cS)) hL p e s m below meth c s.heap [] ls ⟨hx, hb, hr, hml, hlocks, hown, TB_start hts, NW_start hts, hK, hX, hbl⟩ (fun k q h => by simp at h) ⟨fun i j p q h => by simp at h, fun k q h => by simp at h⟩ va_S.rf hl
set_option maxHeartbeats 4000000 in
theorem lw_walk (l : Launch) (b : Addr) (xs : List Int32) : MetFree l x (headSpec (Jvm.Cond.code x code maxLocals ret :: tables_1) room_1) (lw_P b xs) (fun _ _ _ _ _ => True) lw_Q := by
  refine MetFree.of_bodyS (code := code) (maxLocals := maxLocals) (ret := ret) (by decide) ?_ ?_
  · intro args s m h hn
    obtain ⟨meth, c, h1, h2, h3, h4, h5, h6, -, -⟩ := Cond.code_spec hn (atoms_spec (ws := Jvm.Cond.code x code maxLocals ret :: tables_1) h _ List.mem_cons_self)
    exact ⟨meth, c, h1, h2, h3, h4, h5, h6⟩
  · intro p e s m args below meth c s₁ B hml0 hP _
    obtain ⟨rfl, hx, hbd, hgv⟩ := hP
    obtain ⟨scr, harrAt, hlist, hof, hsmall⟩ := hx
    obtain ⟨hcb, hkn, -, -⟩ := State.arrayAt?_spec harrAt
    have hown : s.vm.findClass R_law = some m.cls := findClass_of_methodNamed B.named
    have hts0 : ∀ c ∈ (Jvm.Cond.code x code maxLocals ret :: tables_1), c.before #[Value.ref b] s = true := atoms_spec (ws := Jvm.Cond.code x code maxLocals ret :: tables_1) B.pre
    have hts : ∀ w ∈ lw_tbl, w.before #[Value.ref b] s = true := k2_hts_sels lw_privs (fun w hw => hts0 w (List.mem_cons_of_mem _ hw)) lw_privs_ok
    have hml : c.maxLocals = 4 := B.maxLocals_eq (hts0 _ List.mem_cons_self)
    have X₀ : Stand p l e room_1 s m #[Value.ref b] below meth c s₁ [] 0 0 := Stand.of_body B
    have hh0 : s₁.heap = s.heap := by rw [B.state]; rfl
    have hsz : scr.slots.size = xs.length := by rw [← Array.length_toList, hlist, List.length_map]
    have hval : ∀ j : Nat, j < xs.length → scr.slots[j]? = some (.int (xs.getD j 0)) := fun j hj => by
      rw [← Array.getElem?_toList, hlist]
      simp [hj]
    have hbl : b < s.heap.size := (Array.getElem?_eq_some_iff.mp hcb).1
    have hX : va_X b xs.length (fun j => xs.getD j 0) s s.heap := ⟨scr, hcb, hof, hkn, hsz, hval⟩
    have K : W p l e room_1 s m #[Value.ref b] below meth c s₁.heap [] 0 0 (lw_Z below #[Value.ref b] s) (entryFrame m ([Value.ref b] : List Value).toArray 4) := by
      rw [hh0]
      exact whole_start l hbd ⟨B.exec, B.bytes, B.returns, hml, hown, hts, hX, hbl, B.notSynchronized, hgv⟩
    obtain ⟨t, a1, o, b1, b2, b3⟩ := K s₁ rfl X₀
    exact ⟨t, o, a1, b1, b2, b3⟩
theorem lw_pre_spec {args : Array Value} {s : State} (h : (Jvm.Cond.and given_1 narrow_1).before args s = true) (hr : rest_1_c.before args s = true) : ∃ (b : Addr) (xs : List Int32), lw_P b xs args s := by
  have hs := flat_of_before _ h
  have hq := flat_of_before _ hr
  have hc : (Cond.count 1).before args s = true := hs _ (by decide +kernel)
  have harr : (Cond.arrayOf (.arg 0) .int).before args s = true := hs _ (by decide +kernel)
  have hle : (Cond.le (.length (.arg 0)) (.int 384)).before args s = true := hs _ (by decide +kernel)
  have hlen : (Cond.isInt (.length (.arg 0))).before args s = true := hq _ (by decide +kernel)
  have hall : (Cond.all (.arg 0) (.isInt (.elem (.arg 0) (.index 0)))).before args s = true := hq _ (by decide +kernel)
  obtain ⟨b, xs, hb, hx⟩ := State.ints_of_pre rfl harr hlen hall
  have hsm : xs.length < 2 ^ 31 := hx.choose_spec.2.2.2
  have hev : (Term.length (.arg 0)).eval args s none [] s = some (.int xs.length.toInt32) := hx.length_eval hb
  have hv := Cond.le_ints hev (show (Term.int 384).eval args s none [] s = some (.int 384) from rfl)
  have hd : xs.length.toInt32 ≤ 384 := by
    simpa [Cond.before, Cond.holds, hv] using hle
  have hN : xs.length ≤ 384 := (Int32.ofNat_le_ofNat hsm (by decide)).mp (show Int32.ofNat xs.length ≤ Int32.ofNat 384 from hd)
  exact ⟨b, xs, Cond.one_arg hc (show args[0]? = some (.ref b) from hb), hx, hN, h⟩
theorem lw_comes (l : Launch) : Comes l x (Jvm.Cond.code x code maxLocals ret :: tables_1) room_1 (fun tb e args s => Calls_1 tb e args s ∧ rest_1 tb e args s ∧ Pre_1 tb e args s)
    (fun _ _ args s o t => lw_Q args s o t) := by
  intro p e ha hc hk s m args below hf hfit hheap happ hpre
  obtain ⟨b, xs, hP⟩ := lw_pre_spec hpre.2.2 hpre.2.1
  obtain ⟨k, o, h1, h2, h3, hQ⟩ := lw_walk l b xs p e ha hc hk s m args below hf ((Spec.applies_iff_loose hf).mp happ).1 hP trivial
  exact ⟨k, o, h1, h2, h3, hQ⟩
theorem lw_frame {s t : State} {o : Outcome} {args : Array Value} (h : Framed s o t [] 600000 7302250) :
    Framed s o t (fieldLocs frame_1_writes args s ++ arrayLocs frame_1_arrays args s ++ staticLocs frame_1_statics s) 600000 7302250 := h
theorem lw_limb (L : Cond) (hL : ∀ (args : Array Value) (s t : State), L.after args s (.returned (some (.int 1))) t = true) :
    ArmFor flags0 classFile x code maxLocals ret World_1 tables_1 room_1 Calls_1 rest_1 Pre_1
      (fun tb e a s o t => postC L tb e a s o t ∧ Framed s o t (fieldLocs frame_1_writes a s ++ arrayLocs frame_1_arrays a s ++ staticLocs frame_1_statics s) 600000 7302250) := by
  intro l _ _ _ p e ha hc hk s m args below hf hfit hheap happ hpre
  obtain ⟨k, o, h1, h2, h3, rfl, hF⟩ := lw_comes l p e ha hc hk s m args below hf hfit hheap happ hpre
  exact ⟨k, _, h1, h2, h3, hL args s _, lw_frame hF⟩
theorem i_vc : Claimed_1_1 ∧ Claimed_1_2 := ⟨lw_limb limb_1_1 (fun args s t => by simp [limb_1_1, Cond.after, Cond.holds, Cond.value]), lw_limb limb_1_2 (fun args s t => Cond.after_iff.mpr (by
  first | (rw [show limb_1_2 = Cond.eq .result (.int 1) from rfl, Cond.eq_ints (x := 1) (y := 1) rfl rfl]; simp; done) | (simp [limb_1_2, Cond.value, Term.eval]; done)))⟩
