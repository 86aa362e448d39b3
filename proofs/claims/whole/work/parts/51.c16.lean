set_option maxRecDepth 100000 in
set_option maxHeartbeats 1000000 in
theorem j_X11_mixHabit {G : GT} (r : Nat → Nat) (s : St) (l : Nat → Int64) (σ : St) (hL : LI σ) (hC : CI σ s) (h0 : Int64) (k : Nat) {Q : Option Value → va_W → Prop} (hq : ∀ (x : St) (lx : Nat → Int64) (a : Int64), a = dHab σ h0 k → CI σ x → Q (some (.long a)) (cW G r x lx)) : J G "mixHabit" RX11 cX11_mixHabit 7 (some .long) 0 0 11 Q 0 0 0 [(0, .ref (r 0)), (1, .long h0), (3, .int (nI k))] [] (cW G r s l) := by
  refine J_lload_n dX11_mixHabit_0 rfl rfl ?_
  refine J_lstore [(0, .ref (r 0)), (1, .long h0), (3, .int (nI k)), (4, .long h0)] dX11_mixHabit_1 (by decide) rfl rfl rfl ?_
  refine J_iconst (v := nI 0) dX11_mixHabit_3 (by decide) ?_
  refine J_istore [(0, .ref (r 0)), (1, .long h0), (3, .int (nI k)), (4, .long h0), (6, .int (nI 0))] dX11_mixHabit_4 (by decide) rfl rfl rfl ?_
  refine J_iload dX11_mixHabit_6 rfl ?_
  refine J_iconst (v := nI 4) dX11_mixHabit_8 (by decide) ?_
  refine J_icmp_gt 33 dX11_mixHabit_9 (by decide) (fun c => absurd c (by decide)) (fun _ => ?_)
  refine J_lload dX11_mixHabit_12 rfl ?_
  refine J_aload_n dX11_mixHabit_14 rfl rfl ?_
  refine J_iload_n dX11_mixHabit_15 rfl rfl ?_
  refine J_iload dX11_mixHabit_16 rfl ?_
  refine J_callV (wr := []) (As := [.int (nI k), .int (nI 0)]) (st := [.long h0]) 0 mv_X11_355 (c_X11_habit r s l σ hL hC (nI k) (nI 0)) cW_0 rfl rfl rfl (by decide) (Nat.le_of_ble_eq_true rfl) ⟨Nat.le_refl _, Nat.le_refl _⟩ dX11_mixHabit_18 (fun v_ w_ h_ => ?_)
  obtain ⟨x91, lx91, rfl, rfl, hC_x91⟩ := h_
  show J G "mixHabit" RX11 cX11_mixHabit 7 (some .long) 0 0 11 Q 0 0 21 [(0, .ref (r 0)), (1, .long h0), (3, .int (nI k)), (4, .long h0), (6, .int (nI 0))] [.int (qHabit (nI k) (nI 0) σ), .long h0] (cW G r x91 lx91)
  refine J_i2l dX11_mixHabit_21 ?_
  refine J_cSl [.long h0, .long ((qHabit (nI k) (nI 0) σ).toInt64)] ms_X11_306 (c_X11_mix (cW G r x91 lx91) h0 ((qHabit (nI k) (nI 0) σ).toInt64)) rfl rfl (by decide) (Nat.le_of_ble_eq_true rfl) ⟨Nat.le_refl _, Nat.le_refl _⟩ dX11_mixHabit_22 ?_
  refine J_lstore [(0, .ref (r 0)), (1, .long h0), (3, .int (nI k)), (4, .long (31 * h0 + ((qHabit (nI k) (nI 0) σ).toInt64))), (6, .int (nI 0))] dX11_mixHabit_25 (by decide) rfl rfl rfl ?_
  refine J_iincN [(0, .ref (r 0)), (1, .long h0), (3, .int (nI k)), (4, .long (31 * h0 + ((qHabit (nI k) (nI 0) σ).toInt64))), (6, .int (nI 1))] dX11_mixHabit_27 rfl (by decide) rfl rfl rfl ?_
  refine J_goto 6 dX11_mixHabit_30 (by decide) ?_
  refine J_iload dX11_mixHabit_6 rfl ?_
  refine J_iconst (v := nI 4) dX11_mixHabit_8 (by decide) ?_
  refine J_icmp_gt 33 dX11_mixHabit_9 (by decide) (fun c => absurd c (by decide)) (fun _ => ?_)
  refine J_lload dX11_mixHabit_12 rfl ?_
  refine J_aload_n dX11_mixHabit_14 rfl rfl ?_
  refine J_iload_n dX11_mixHabit_15 rfl rfl ?_
  refine J_iload dX11_mixHabit_16 rfl ?_
  refine J_callV (wr := []) (As := [.int (nI k), .int (nI 1)]) (st := [.long (31 * h0 + ((qHabit (nI k) (nI 0) σ).toInt64))]) 0 mv_X11_355 (c_X11_habit r x91 lx91 σ hL hC_x91 (nI k) (nI 1)) cW_0 rfl rfl rfl (by decide) (Nat.le_of_ble_eq_true rfl) ⟨Nat.le_refl _, Nat.le_refl _⟩ dX11_mixHabit_18 (fun v_ w_ h_ => ?_)
  obtain ⟨x92, lx92, rfl, rfl, hC_x92⟩ := h_
  show J G "mixHabit" RX11 cX11_mixHabit 7 (some .long) 0 0 11 Q 0 0 21 [(0, .ref (r 0)), (1, .long h0), (3, .int (nI k)), (4, .long (31 * h0 + ((qHabit (nI k) (nI 0) σ).toInt64))), (6, .int (nI 1))] [.int (qHabit (nI k) (nI 1) σ), .long (31 * h0 + ((qHabit (nI k) (nI 0) σ).toInt64))] (cW G r x92 lx92)
  refine J_i2l dX11_mixHabit_21 ?_
  refine J_cSl [.long (31 * h0 + ((qHabit (nI k) (nI 0) σ).toInt64)), .long ((qHabit (nI k) (nI 1) σ).toInt64)] ms_X11_306 (c_X11_mix (cW G r x92 lx92) (31 * h0 + ((qHabit (nI k) (nI 0) σ).toInt64)) ((qHabit (nI k) (nI 1) σ).toInt64)) rfl rfl (by decide) (Nat.le_of_ble_eq_true rfl) ⟨Nat.le_refl _, Nat.le_refl _⟩ dX11_mixHabit_22 ?_
  refine J_lstore [(0, .ref (r 0)), (1, .long h0), (3, .int (nI k)), (4, .long (31 * (31 * h0 + ((qHabit (nI k) (nI 0) σ).toInt64)) + ((qHabit (nI k) (nI 1) σ).toInt64))), (6, .int (nI 1))] dX11_mixHabit_25 (by decide) rfl rfl rfl ?_
  refine J_iincN [(0, .ref (r 0)), (1, .long h0), (3, .int (nI k)), (4, .long (31 * (31 * h0 + ((qHabit (nI k) (nI 0) σ).toInt64)) + ((qHabit (nI k) (nI 1) σ).toInt64))), (6, .int (nI 2))] dX11_mixHabit_27 rfl (by decide) rfl rfl rfl ?_
  refine J_goto 6 dX11_mixHabit_30 (by decide) ?_
  refine J_iload dX11_mixHabit_6 rfl ?_
  refine J_iconst (v := nI 4) dX11_mixHabit_8 (by decide) ?_
  refine J_icmp_gt 33 dX11_mixHabit_9 (by decide) (fun c => absurd c (by decide)) (fun _ => ?_)
  refine J_lload dX11_mixHabit_12 rfl ?_
  refine J_aload_n dX11_mixHabit_14 rfl rfl ?_
  refine J_iload_n dX11_mixHabit_15 rfl rfl ?_
  refine J_iload dX11_mixHabit_16 rfl ?_
  refine J_callV (wr := []) (As := [.int (nI k), .int (nI 2)]) (st := [.long (31 * (31 * h0 + ((qHabit (nI k) (nI 0) σ).toInt64)) + ((qHabit (nI k) (nI 1) σ).toInt64))]) 0 mv_X11_355 (c_X11_habit r x92 lx92 σ hL hC_x92 (nI k) (nI 2)) cW_0 rfl rfl rfl (by decide) (Nat.le_of_ble_eq_true rfl) ⟨Nat.le_refl _, Nat.le_refl _⟩ dX11_mixHabit_18 (fun v_ w_ h_ => ?_)
  obtain ⟨x93, lx93, rfl, rfl, hC_x93⟩ := h_
  show J G "mixHabit" RX11 cX11_mixHabit 7 (some .long) 0 0 11 Q 0 0 21 [(0, .ref (r 0)), (1, .long h0), (3, .int (nI k)), (4, .long (31 * (31 * h0 + ((qHabit (nI k) (nI 0) σ).toInt64)) + ((qHabit (nI k) (nI 1) σ).toInt64))), (6, .int (nI 2))] [.int (qHabit (nI k) (nI 2) σ), .long (31 * (31 * h0 + ((qHabit (nI k) (nI 0) σ).toInt64)) + ((qHabit (nI k) (nI 1) σ).toInt64))] (cW G r x93 lx93)
  refine J_i2l dX11_mixHabit_21 ?_
  refine J_cSl [.long (31 * (31 * h0 + ((qHabit (nI k) (nI 0) σ).toInt64)) + ((qHabit (nI k) (nI 1) σ).toInt64)), .long ((qHabit (nI k) (nI 2) σ).toInt64)] ms_X11_306 (c_X11_mix (cW G r x93 lx93) (31 * (31 * h0 + ((qHabit (nI k) (nI 0) σ).toInt64)) + ((qHabit (nI k) (nI 1) σ).toInt64)) ((qHabit (nI k) (nI 2) σ).toInt64)) rfl rfl (by decide) (Nat.le_of_ble_eq_true rfl) ⟨Nat.le_refl _, Nat.le_refl _⟩ dX11_mixHabit_22 ?_
  refine J_lstore [(0, .ref (r 0)), (1, .long h0), (3, .int (nI k)), (4, .long (31 * (31 * (31 * h0 + ((qHabit (nI k) (nI 0) σ).toInt64)) + ((qHabit (nI k) (nI 1) σ).toInt64)) + ((qHabit (nI k) (nI 2) σ).toInt64))), (6, .int (nI 2))] dX11_mixHabit_25 (by decide) rfl rfl rfl ?_
  refine J_iincN [(0, .ref (r 0)), (1, .long h0), (3, .int (nI k)), (4, .long (31 * (31 * (31 * h0 + ((qHabit (nI k) (nI 0) σ).toInt64)) + ((qHabit (nI k) (nI 1) σ).toInt64)) + ((qHabit (nI k) (nI 2) σ).toInt64))), (6, .int (nI 3))] dX11_mixHabit_27 rfl (by decide) rfl rfl rfl ?_
  refine J_goto 6 dX11_mixHabit_30 (by decide) ?_
  refine J_iload dX11_mixHabit_6 rfl ?_
  refine J_iconst (v := nI 4) dX11_mixHabit_8 (by decide) ?_
  refine J_icmp_gt 33 dX11_mixHabit_9 (by decide) (fun c => absurd c (by decide)) (fun _ => ?_)
  refine J_lload dX11_mixHabit_12 rfl ?_
  refine J_aload_n dX11_mixHabit_14 rfl rfl ?_
  refine J_iload_n dX11_mixHabit_15 rfl rfl ?_
  refine J_iload dX11_mixHabit_16 rfl ?_
  refine J_callV (wr := []) (As := [.int (nI k), .int (nI 3)]) (st := [.long (31 * (31 * (31 * h0 + ((qHabit (nI k) (nI 0) σ).toInt64)) + ((qHabit (nI k) (nI 1) σ).toInt64)) + ((qHabit (nI k) (nI 2) σ).toInt64))]) 0 mv_X11_355 (c_X11_habit r x93 lx93 σ hL hC_x93 (nI k) (nI 3)) cW_0 rfl rfl rfl (by decide) (Nat.le_of_ble_eq_true rfl) ⟨Nat.le_refl _, Nat.le_refl _⟩ dX11_mixHabit_18 (fun v_ w_ h_ => ?_)
  obtain ⟨x94, lx94, rfl, rfl, hC_x94⟩ := h_
  show J G "mixHabit" RX11 cX11_mixHabit 7 (some .long) 0 0 11 Q 0 0 21 [(0, .ref (r 0)), (1, .long h0), (3, .int (nI k)), (4, .long (31 * (31 * (31 * h0 + ((qHabit (nI k) (nI 0) σ).toInt64)) + ((qHabit (nI k) (nI 1) σ).toInt64)) + ((qHabit (nI k) (nI 2) σ).toInt64))), (6, .int (nI 3))] [.int (qHabit (nI k) (nI 3) σ), .long (31 * (31 * (31 * h0 + ((qHabit (nI k) (nI 0) σ).toInt64)) + ((qHabit (nI k) (nI 1) σ).toInt64)) + ((qHabit (nI k) (nI 2) σ).toInt64))] (cW G r x94 lx94)
  refine J_i2l dX11_mixHabit_21 ?_
  refine J_cSl [.long (31 * (31 * (31 * h0 + ((qHabit (nI k) (nI 0) σ).toInt64)) + ((qHabit (nI k) (nI 1) σ).toInt64)) + ((qHabit (nI k) (nI 2) σ).toInt64)), .long ((qHabit (nI k) (nI 3) σ).toInt64)] ms_X11_306 (c_X11_mix (cW G r x94 lx94) (31 * (31 * (31 * h0 + ((qHabit (nI k) (nI 0) σ).toInt64)) + ((qHabit (nI k) (nI 1) σ).toInt64)) + ((qHabit (nI k) (nI 2) σ).toInt64)) ((qHabit (nI k) (nI 3) σ).toInt64)) rfl rfl (by decide) (Nat.le_of_ble_eq_true rfl) ⟨Nat.le_refl _, Nat.le_refl _⟩ dX11_mixHabit_22 ?_
  refine J_lstore [(0, .ref (r 0)), (1, .long h0), (3, .int (nI k)), (4, .long (31 * (31 * (31 * (31 * h0 + ((qHabit (nI k) (nI 0) σ).toInt64)) + ((qHabit (nI k) (nI 1) σ).toInt64)) + ((qHabit (nI k) (nI 2) σ).toInt64)) + ((qHabit (nI k) (nI 3) σ).toInt64))), (6, .int (nI 3))] dX11_mixHabit_25 (by decide) rfl rfl rfl ?_
  refine J_iincN [(0, .ref (r 0)), (1, .long h0), (3, .int (nI k)), (4, .long (31 * (31 * (31 * (31 * h0 + ((qHabit (nI k) (nI 0) σ).toInt64)) + ((qHabit (nI k) (nI 1) σ).toInt64)) + ((qHabit (nI k) (nI 2) σ).toInt64)) + ((qHabit (nI k) (nI 3) σ).toInt64))), (6, .int (nI 4))] dX11_mixHabit_27 rfl (by decide) rfl rfl rfl ?_
  refine J_goto 6 dX11_mixHabit_30 (by decide) ?_
  refine J_iload dX11_mixHabit_6 rfl ?_
  refine J_iconst (v := nI 4) dX11_mixHabit_8 (by decide) ?_
  refine J_icmp_gt 33 dX11_mixHabit_9 (by decide) (fun c => absurd c (by decide)) (fun _ => ?_)
  refine J_lload dX11_mixHabit_12 rfl ?_
  refine J_aload_n dX11_mixHabit_14 rfl rfl ?_
  refine J_iload_n dX11_mixHabit_15 rfl rfl ?_
  refine J_iload dX11_mixHabit_16 rfl ?_
  refine J_callV (wr := []) (As := [.int (nI k), .int (nI 4)]) (st := [.long (31 * (31 * (31 * (31 * h0 + ((qHabit (nI k) (nI 0) σ).toInt64)) + ((qHabit (nI k) (nI 1) σ).toInt64)) + ((qHabit (nI k) (nI 2) σ).toInt64)) + ((qHabit (nI k) (nI 3) σ).toInt64))]) 0 mv_X11_355 (c_X11_habit r x94 lx94 σ hL hC_x94 (nI k) (nI 4)) cW_0 rfl rfl rfl (by decide) (Nat.le_of_ble_eq_true rfl) ⟨Nat.le_refl _, Nat.le_refl _⟩ dX11_mixHabit_18 (fun v_ w_ h_ => ?_)
  obtain ⟨x95, lx95, rfl, rfl, hC_x95⟩ := h_
  show J G "mixHabit" RX11 cX11_mixHabit 7 (some .long) 0 0 11 Q 0 0 21 [(0, .ref (r 0)), (1, .long h0), (3, .int (nI k)), (4, .long (31 * (31 * (31 * (31 * h0 + ((qHabit (nI k) (nI 0) σ).toInt64)) + ((qHabit (nI k) (nI 1) σ).toInt64)) + ((qHabit (nI k) (nI 2) σ).toInt64)) + ((qHabit (nI k) (nI 3) σ).toInt64))), (6, .int (nI 4))] [.int (qHabit (nI k) (nI 4) σ), .long (31 * (31 * (31 * (31 * h0 + ((qHabit (nI k) (nI 0) σ).toInt64)) + ((qHabit (nI k) (nI 1) σ).toInt64)) + ((qHabit (nI k) (nI 2) σ).toInt64)) + ((qHabit (nI k) (nI 3) σ).toInt64))] (cW G r x95 lx95)
  refine J_i2l dX11_mixHabit_21 ?_
  refine J_cSl [.long (31 * (31 * (31 * (31 * h0 + ((qHabit (nI k) (nI 0) σ).toInt64)) + ((qHabit (nI k) (nI 1) σ).toInt64)) + ((qHabit (nI k) (nI 2) σ).toInt64)) + ((qHabit (nI k) (nI 3) σ).toInt64)), .long ((qHabit (nI k) (nI 4) σ).toInt64)] ms_X11_306 (c_X11_mix (cW G r x95 lx95) (31 * (31 * (31 * (31 * h0 + ((qHabit (nI k) (nI 0) σ).toInt64)) + ((qHabit (nI k) (nI 1) σ).toInt64)) + ((qHabit (nI k) (nI 2) σ).toInt64)) + ((qHabit (nI k) (nI 3) σ).toInt64)) ((qHabit (nI k) (nI 4) σ).toInt64)) rfl rfl (by decide) (Nat.le_of_ble_eq_true rfl) ⟨Nat.le_refl _, Nat.le_refl _⟩ dX11_mixHabit_22 ?_
  refine J_lstore [(0, .ref (r 0)), (1, .long h0), (3, .int (nI k)), (4, .long (31 * (31 * (31 * (31 * (31 * h0 + ((qHabit (nI k) (nI 0) σ).toInt64)) + ((qHabit (nI k) (nI 1) σ).toInt64)) + ((qHabit (nI k) (nI 2) σ).toInt64)) + ((qHabit (nI k) (nI 3) σ).toInt64)) + ((qHabit (nI k) (nI 4) σ).toInt64))), (6, .int (nI 4))] dX11_mixHabit_25 (by decide) rfl rfl rfl ?_
  refine J_iincN [(0, .ref (r 0)), (1, .long h0), (3, .int (nI k)), (4, .long (31 * (31 * (31 * (31 * (31 * h0 + ((qHabit (nI k) (nI 0) σ).toInt64)) + ((qHabit (nI k) (nI 1) σ).toInt64)) + ((qHabit (nI k) (nI 2) σ).toInt64)) + ((qHabit (nI k) (nI 3) σ).toInt64)) + ((qHabit (nI k) (nI 4) σ).toInt64))), (6, .int (nI 5))] dX11_mixHabit_27 rfl (by decide) rfl rfl rfl ?_
  refine J_goto 6 dX11_mixHabit_30 (by decide) ?_
  refine J_iload dX11_mixHabit_6 rfl ?_
  refine J_iconst (v := nI 4) dX11_mixHabit_8 (by decide) ?_
  refine J_icmp_gt 33 dX11_mixHabit_9 (by decide) (fun _ => ?_) (fun c => absurd c (by decide))
  refine J_lload dX11_mixHabit_33 rfl ?_
  refine J_aload_n dX11_mixHabit_35 rfl rfl ?_
  refine J_iload_n dX11_mixHabit_36 rfl rfl ?_
  refine J_callV (wr := []) (As := [.int (nI k)]) (st := [.long (31 * (31 * (31 * (31 * (31 * h0 + ((qHabit (nI k) (nI 0) σ).toInt64)) + ((qHabit (nI k) (nI 1) σ).toInt64)) + ((qHabit (nI k) (nI 2) σ).toInt64)) + ((qHabit (nI k) (nI 3) σ).toInt64)) + ((qHabit (nI k) (nI 4) σ).toInt64))]) 0 mv_X11_358 (c_X11_with r x95 lx95 σ hL hC_x95 (nI k)) cW_0 rfl rfl rfl (by decide) (Nat.le_of_ble_eq_true rfl) ⟨Nat.le_refl _, Nat.le_refl _⟩ dX11_mixHabit_37 (fun v_ w_ h_ => ?_)
  obtain ⟨x96, lx96, rfl, rfl, hC_x96⟩ := h_
  show J G "mixHabit" RX11 cX11_mixHabit 7 (some .long) 0 0 11 Q 0 0 40 [(0, .ref (r 0)), (1, .long h0), (3, .int (nI k)), (4, .long (31 * (31 * (31 * (31 * (31 * h0 + ((qHabit (nI k) (nI 0) σ).toInt64)) + ((qHabit (nI k) (nI 1) σ).toInt64)) + ((qHabit (nI k) (nI 2) σ).toInt64)) + ((qHabit (nI k) (nI 3) σ).toInt64)) + ((qHabit (nI k) (nI 4) σ).toInt64))), (6, .int (nI 5))] [.int (qWith (nI k) σ), .long (31 * (31 * (31 * (31 * (31 * h0 + ((qHabit (nI k) (nI 0) σ).toInt64)) + ((qHabit (nI k) (nI 1) σ).toInt64)) + ((qHabit (nI k) (nI 2) σ).toInt64)) + ((qHabit (nI k) (nI 3) σ).toInt64)) + ((qHabit (nI k) (nI 4) σ).toInt64))] (cW G r x96 lx96)
  refine J_i2l dX11_mixHabit_40 ?_
  refine J_cSl [.long (31 * (31 * (31 * (31 * (31 * h0 + ((qHabit (nI k) (nI 0) σ).toInt64)) + ((qHabit (nI k) (nI 1) σ).toInt64)) + ((qHabit (nI k) (nI 2) σ).toInt64)) + ((qHabit (nI k) (nI 3) σ).toInt64)) + ((qHabit (nI k) (nI 4) σ).toInt64)), .long ((qWith (nI k) σ).toInt64)] ms_X11_306 (c_X11_mix (cW G r x96 lx96) (31 * (31 * (31 * (31 * (31 * h0 + ((qHabit (nI k) (nI 0) σ).toInt64)) + ((qHabit (nI k) (nI 1) σ).toInt64)) + ((qHabit (nI k) (nI 2) σ).toInt64)) + ((qHabit (nI k) (nI 3) σ).toInt64)) + ((qHabit (nI k) (nI 4) σ).toInt64)) ((qWith (nI k) σ).toInt64)) rfl rfl (by decide) (Nat.le_of_ble_eq_true rfl) ⟨Nat.le_refl _, Nat.le_refl _⟩ dX11_mixHabit_41 ?_
  refine J_lstore [(0, .ref (r 0)), (1, .long h0), (3, .int (nI k)), (4, .long (31 * (31 * (31 * (31 * (31 * (31 * h0 + ((qHabit (nI k) (nI 0) σ).toInt64)) + ((qHabit (nI k) (nI 1) σ).toInt64)) + ((qHabit (nI k) (nI 2) σ).toInt64)) + ((qHabit (nI k) (nI 3) σ).toInt64)) + ((qHabit (nI k) (nI 4) σ).toInt64)) + ((qWith (nI k) σ).toInt64))), (6, .int (nI 5))] dX11_mixHabit_44 (by decide) rfl rfl rfl ?_
  refine J_lload dX11_mixHabit_46 rfl ?_
  refine J_aload_n dX11_mixHabit_48 rfl rfl ?_
  refine J_iload_n dX11_mixHabit_49 rfl rfl ?_
  refine J_callV (wr := []) (As := [.int (nI k)]) (st := [.long (31 * (31 * (31 * (31 * (31 * (31 * h0 + ((qHabit (nI k) (nI 0) σ).toInt64)) + ((qHabit (nI k) (nI 1) σ).toInt64)) + ((qHabit (nI k) (nI 2) σ).toInt64)) + ((qHabit (nI k) (nI 3) σ).toInt64)) + ((qHabit (nI k) (nI 4) σ).toInt64)) + ((qWith (nI k) σ).toInt64))]) 0 mv_X11_361 (c_X11_whose r x96 lx96 σ hL hC_x96 (nI k)) cW_0 rfl rfl rfl (by decide) (Nat.le_of_ble_eq_true rfl) ⟨Nat.le_refl _, Nat.le_refl _⟩ dX11_mixHabit_50 (fun v_ w_ h_ => ?_)
  obtain ⟨x97, lx97, rfl, rfl, hC_x97⟩ := h_
  show J G "mixHabit" RX11 cX11_mixHabit 7 (some .long) 0 0 11 Q 0 0 53 [(0, .ref (r 0)), (1, .long h0), (3, .int (nI k)), (4, .long (31 * (31 * (31 * (31 * (31 * (31 * h0 + ((qHabit (nI k) (nI 0) σ).toInt64)) + ((qHabit (nI k) (nI 1) σ).toInt64)) + ((qHabit (nI k) (nI 2) σ).toInt64)) + ((qHabit (nI k) (nI 3) σ).toInt64)) + ((qHabit (nI k) (nI 4) σ).toInt64)) + ((qWith (nI k) σ).toInt64))), (6, .int (nI 5))] [.int (qWhose (nI k) σ), .long (31 * (31 * (31 * (31 * (31 * (31 * h0 + ((qHabit (nI k) (nI 0) σ).toInt64)) + ((qHabit (nI k) (nI 1) σ).toInt64)) + ((qHabit (nI k) (nI 2) σ).toInt64)) + ((qHabit (nI k) (nI 3) σ).toInt64)) + ((qHabit (nI k) (nI 4) σ).toInt64)) + ((qWith (nI k) σ).toInt64))] (cW G r x97 lx97)
  refine J_i2l dX11_mixHabit_53 ?_
  refine J_cSl [.long (31 * (31 * (31 * (31 * (31 * (31 * h0 + ((qHabit (nI k) (nI 0) σ).toInt64)) + ((qHabit (nI k) (nI 1) σ).toInt64)) + ((qHabit (nI k) (nI 2) σ).toInt64)) + ((qHabit (nI k) (nI 3) σ).toInt64)) + ((qHabit (nI k) (nI 4) σ).toInt64)) + ((qWith (nI k) σ).toInt64)), .long ((qWhose (nI k) σ).toInt64)] ms_X11_306 (c_X11_mix (cW G r x97 lx97) (31 * (31 * (31 * (31 * (31 * (31 * h0 + ((qHabit (nI k) (nI 0) σ).toInt64)) + ((qHabit (nI k) (nI 1) σ).toInt64)) + ((qHabit (nI k) (nI 2) σ).toInt64)) + ((qHabit (nI k) (nI 3) σ).toInt64)) + ((qHabit (nI k) (nI 4) σ).toInt64)) + ((qWith (nI k) σ).toInt64)) ((qWhose (nI k) σ).toInt64)) rfl rfl (by decide) (Nat.le_of_ble_eq_true rfl) ⟨Nat.le_refl _, Nat.le_refl _⟩ dX11_mixHabit_54 ?_
  refine J_lstore [(0, .ref (r 0)), (1, .long h0), (3, .int (nI k)), (4, .long (31 * (31 * (31 * (31 * (31 * (31 * (31 * h0 + ((qHabit (nI k) (nI 0) σ).toInt64)) + ((qHabit (nI k) (nI 1) σ).toInt64)) + ((qHabit (nI k) (nI 2) σ).toInt64)) + ((qHabit (nI k) (nI 3) σ).toInt64)) + ((qHabit (nI k) (nI 4) σ).toInt64)) + ((qWith (nI k) σ).toInt64)) + ((qWhose (nI k) σ).toInt64))), (6, .int (nI 5))] dX11_mixHabit_57 (by decide) rfl rfl rfl ?_
  refine J_lload dX11_mixHabit_59 rfl ?_
  refine J_aload_n dX11_mixHabit_61 rfl rfl ?_
  refine J_iload_n dX11_mixHabit_62 rfl rfl ?_
  refine J_iconst (v := nI 0) dX11_mixHabit_63 (by decide) ?_
  refine J_callV (wr := []) (As := [.int (nI k), .int (nI 0)]) (st := [.long (31 * (31 * (31 * (31 * (31 * (31 * (31 * h0 + ((qHabit (nI k) (nI 0) σ).toInt64)) + ((qHabit (nI k) (nI 1) σ).toInt64)) + ((qHabit (nI k) (nI 2) σ).toInt64)) + ((qHabit (nI k) (nI 3) σ).toInt64)) + ((qHabit (nI k) (nI 4) σ).toInt64)) + ((qWith (nI k) σ).toInt64)) + ((qWhose (nI k) σ).toInt64))]) 0 mv_X11_364 (c_X11_look r x97 lx97 σ hL hC_x97 (nI k) (nI 0)) cW_0 rfl rfl rfl (by decide) (Nat.le_of_ble_eq_true rfl) ⟨Nat.le_refl _, Nat.le_refl _⟩ dX11_mixHabit_64 (fun v_ w_ h_ => ?_)
  obtain ⟨x98, lx98, rfl, rfl, hC_x98⟩ := h_
  show J G "mixHabit" RX11 cX11_mixHabit 7 (some .long) 0 0 11 Q 0 0 67 [(0, .ref (r 0)), (1, .long h0), (3, .int (nI k)), (4, .long (31 * (31 * (31 * (31 * (31 * (31 * (31 * h0 + ((qHabit (nI k) (nI 0) σ).toInt64)) + ((qHabit (nI k) (nI 1) σ).toInt64)) + ((qHabit (nI k) (nI 2) σ).toInt64)) + ((qHabit (nI k) (nI 3) σ).toInt64)) + ((qHabit (nI k) (nI 4) σ).toInt64)) + ((qWith (nI k) σ).toInt64)) + ((qWhose (nI k) σ).toInt64))), (6, .int (nI 5))] [.int (qLook (nI k) (nI 0) σ), .long (31 * (31 * (31 * (31 * (31 * (31 * (31 * h0 + ((qHabit (nI k) (nI 0) σ).toInt64)) + ((qHabit (nI k) (nI 1) σ).toInt64)) + ((qHabit (nI k) (nI 2) σ).toInt64)) + ((qHabit (nI k) (nI 3) σ).toInt64)) + ((qHabit (nI k) (nI 4) σ).toInt64)) + ((qWith (nI k) σ).toInt64)) + ((qWhose (nI k) σ).toInt64))] (cW G r x98 lx98)
  refine J_i2l dX11_mixHabit_67 ?_
  refine J_cSl [.long (31 * (31 * (31 * (31 * (31 * (31 * (31 * h0 + ((qHabit (nI k) (nI 0) σ).toInt64)) + ((qHabit (nI k) (nI 1) σ).toInt64)) + ((qHabit (nI k) (nI 2) σ).toInt64)) + ((qHabit (nI k) (nI 3) σ).toInt64)) + ((qHabit (nI k) (nI 4) σ).toInt64)) + ((qWith (nI k) σ).toInt64)) + ((qWhose (nI k) σ).toInt64)), .long ((qLook (nI k) (nI 0) σ).toInt64)] ms_X11_306 (c_X11_mix (cW G r x98 lx98) (31 * (31 * (31 * (31 * (31 * (31 * (31 * h0 + ((qHabit (nI k) (nI 0) σ).toInt64)) + ((qHabit (nI k) (nI 1) σ).toInt64)) + ((qHabit (nI k) (nI 2) σ).toInt64)) + ((qHabit (nI k) (nI 3) σ).toInt64)) + ((qHabit (nI k) (nI 4) σ).toInt64)) + ((qWith (nI k) σ).toInt64)) + ((qWhose (nI k) σ).toInt64)) ((qLook (nI k) (nI 0) σ).toInt64)) rfl rfl (by decide) (Nat.le_of_ble_eq_true rfl) ⟨Nat.le_refl _, Nat.le_refl _⟩ dX11_mixHabit_68 ?_
  exact J_lret dX11_mixHabit_71 rfl rfl rfl (hq x98 lx98 _ rfl hC_x98)
theorem c_X11_mixHabit {G : GT} (r : Nat → Nat) (s : St) (l : Nat → Int64) (σ : St) (hL : LI σ) (hC : CI σ s) (h0 : Int64) (k : Nat) : Ct G yX11_mixHabit cX11_mixHabit 7 (some .long) 0 0 11 [.ref (r 0), .long h0, .int (nI k)] (cW G r s l) (QCL G r (dHab σ h0 k) σ) := Ct.of rfl (Nat.le_of_ble_eq_true rfl) (j_X11_mixHabit r s l σ hL hC h0 k (fun x lx a h1 h2 => ⟨x, lx, by rw [h1], rfl, h2⟩))
set_option maxRecDepth 100000 in
set_option maxHeartbeats 1000000 in
theorem j_X11_mixHeir {G : GT} (r : Nat → Nat) (s : St) (l : Nat → Int64) (σ : St) (hL : LI σ) (hC : CI σ s) (h0 : Int64) (k : Nat) {Q : Option Value → va_W → Prop} (hq : ∀ (x : St) (lx : Nat → Int64) (a : Int64), a = dHeir σ h0 k → CI σ x → Q (some (.long a)) (cW G r x lx)) : J G "mixHeir" RX11 cX11_mixHeir 7 (some .long) 0 0 11 Q 0 0 0 [(0, .ref (r 0)), (1, .long h0), (3, .int (nI k))] [] (cW G r s l) := by
  refine J_lload_n dX11_mixHeir_0 rfl rfl ?_
  refine J_lstore [(0, .ref (r 0)), (1, .long h0), (3, .int (nI k)), (4, .long h0)] dX11_mixHeir_1 (by decide) rfl rfl rfl ?_
  refine J_iconst (v := nI 0) dX11_mixHeir_3 (by decide) ?_
  refine J_istore [(0, .ref (r 0)), (1, .long h0), (3, .int (nI k)), (4, .long h0), (6, .int (nI 0))] dX11_mixHeir_4 (by decide) rfl rfl rfl ?_
  refine J_iload dX11_mixHeir_6 rfl ?_
  refine J_iconst (v := nI 2) dX11_mixHeir_8 (by decide) ?_
  refine J_icmp_gt 33 dX11_mixHeir_9 (by decide) (fun c => absurd c (by decide)) (fun _ => ?_)
  refine J_lload dX11_mixHeir_12 rfl ?_
  refine J_aload_n dX11_mixHeir_14 rfl rfl ?_
  refine J_iload_n dX11_mixHeir_15 rfl rfl ?_
  refine J_iload dX11_mixHeir_16 rfl ?_
  refine J_callV (wr := []) (As := [.int (nI k), .int (nI 0)]) (st := [.long h0]) 0 mv_X11_367 (c_X11_heir r s l σ hL hC (nI k) (nI 0)) cW_0 rfl rfl rfl (by decide) (Nat.le_of_ble_eq_true rfl) ⟨Nat.le_refl _, Nat.le_refl _⟩ dX11_mixHeir_18 (fun v_ w_ h_ => ?_)
  obtain ⟨x99, lx99, rfl, rfl, hC_x99⟩ := h_
  show J G "mixHeir" RX11 cX11_mixHeir 7 (some .long) 0 0 11 Q 0 0 21 [(0, .ref (r 0)), (1, .long h0), (3, .int (nI k)), (4, .long h0), (6, .int (nI 0))] [.int (qHeir (nI k) (nI 0) σ), .long h0] (cW G r x99 lx99)
  refine J_i2l dX11_mixHeir_21 ?_
  refine J_cSl [.long h0, .long ((qHeir (nI k) (nI 0) σ).toInt64)] ms_X11_306 (c_X11_mix (cW G r x99 lx99) h0 ((qHeir (nI k) (nI 0) σ).toInt64)) rfl rfl (by decide) (Nat.le_of_ble_eq_true rfl) ⟨Nat.le_refl _, Nat.le_refl _⟩ dX11_mixHeir_22 ?_
  refine J_lstore [(0, .ref (r 0)), (1, .long h0), (3, .int (nI k)), (4, .long (31 * h0 + ((qHeir (nI k) (nI 0) σ).toInt64))), (6, .int (nI 0))] dX11_mixHeir_25 (by decide) rfl rfl rfl ?_
  refine J_iincN [(0, .ref (r 0)), (1, .long h0), (3, .int (nI k)), (4, .long (31 * h0 + ((qHeir (nI k) (nI 0) σ).toInt64))), (6, .int (nI 1))] dX11_mixHeir_27 rfl (by decide) rfl rfl rfl ?_
  refine J_goto 6 dX11_mixHeir_30 (by decide) ?_
  refine J_iload dX11_mixHeir_6 rfl ?_
  refine J_iconst (v := nI 2) dX11_mixHeir_8 (by decide) ?_
  refine J_icmp_gt 33 dX11_mixHeir_9 (by decide) (fun c => absurd c (by decide)) (fun _ => ?_)
  refine J_lload dX11_mixHeir_12 rfl ?_
  refine J_aload_n dX11_mixHeir_14 rfl rfl ?_
  refine J_iload_n dX11_mixHeir_15 rfl rfl ?_
  refine J_iload dX11_mixHeir_16 rfl ?_
  refine J_callV (wr := []) (As := [.int (nI k), .int (nI 1)]) (st := [.long (31 * h0 + ((qHeir (nI k) (nI 0) σ).toInt64))]) 0 mv_X11_367 (c_X11_heir r x99 lx99 σ hL hC_x99 (nI k) (nI 1)) cW_0 rfl rfl rfl (by decide) (Nat.le_of_ble_eq_true rfl) ⟨Nat.le_refl _, Nat.le_refl _⟩ dX11_mixHeir_18 (fun v_ w_ h_ => ?_)
  obtain ⟨x910, lx910, rfl, rfl, hC_x910⟩ := h_
  show J G "mixHeir" RX11 cX11_mixHeir 7 (some .long) 0 0 11 Q 0 0 21 [(0, .ref (r 0)), (1, .long h0), (3, .int (nI k)), (4, .long (31 * h0 + ((qHeir (nI k) (nI 0) σ).toInt64))), (6, .int (nI 1))] [.int (qHeir (nI k) (nI 1) σ), .long (31 * h0 + ((qHeir (nI k) (nI 0) σ).toInt64))] (cW G r x910 lx910)
  refine J_i2l dX11_mixHeir_21 ?_
  refine J_cSl [.long (31 * h0 + ((qHeir (nI k) (nI 0) σ).toInt64)), .long ((qHeir (nI k) (nI 1) σ).toInt64)] ms_X11_306 (c_X11_mix (cW G r x910 lx910) (31 * h0 + ((qHeir (nI k) (nI 0) σ).toInt64)) ((qHeir (nI k) (nI 1) σ).toInt64)) rfl rfl (by decide) (Nat.le_of_ble_eq_true rfl) ⟨Nat.le_refl _, Nat.le_refl _⟩ dX11_mixHeir_22 ?_
  refine J_lstore [(0, .ref (r 0)), (1, .long h0), (3, .int (nI k)), (4, .long (31 * (31 * h0 + ((qHeir (nI k) (nI 0) σ).toInt64)) + ((qHeir (nI k) (nI 1) σ).toInt64))), (6, .int (nI 1))] dX11_mixHeir_25 (by decide) rfl rfl rfl ?_
  refine J_iincN [(0, .ref (r 0)), (1, .long h0), (3, .int (nI k)), (4, .long (31 * (31 * h0 + ((qHeir (nI k) (nI 0) σ).toInt64)) + ((qHeir (nI k) (nI 1) σ).toInt64))), (6, .int (nI 2))] dX11_mixHeir_27 rfl (by decide) rfl rfl rfl ?_
  refine J_goto 6 dX11_mixHeir_30 (by decide) ?_
  refine J_iload dX11_mixHeir_6 rfl ?_
  refine J_iconst (v := nI 2) dX11_mixHeir_8 (by decide) ?_
  refine J_icmp_gt 33 dX11_mixHeir_9 (by decide) (fun c => absurd c (by decide)) (fun _ => ?_)
  refine J_lload dX11_mixHeir_12 rfl ?_
  refine J_aload_n dX11_mixHeir_14 rfl rfl ?_
  refine J_iload_n dX11_mixHeir_15 rfl rfl ?_
  refine J_iload dX11_mixHeir_16 rfl ?_
  refine J_callV (wr := []) (As := [.int (nI k), .int (nI 2)]) (st := [.long (31 * (31 * h0 + ((qHeir (nI k) (nI 0) σ).toInt64)) + ((qHeir (nI k) (nI 1) σ).toInt64))]) 0 mv_X11_367 (c_X11_heir r x910 lx910 σ hL hC_x910 (nI k) (nI 2)) cW_0 rfl rfl rfl (by decide) (Nat.le_of_ble_eq_true rfl) ⟨Nat.le_refl _, Nat.le_refl _⟩ dX11_mixHeir_18 (fun v_ w_ h_ => ?_)
  obtain ⟨x911, lx911, rfl, rfl, hC_x911⟩ := h_
  show J G "mixHeir" RX11 cX11_mixHeir 7 (some .long) 0 0 11 Q 0 0 21 [(0, .ref (r 0)), (1, .long h0), (3, .int (nI k)), (4, .long (31 * (31 * h0 + ((qHeir (nI k) (nI 0) σ).toInt64)) + ((qHeir (nI k) (nI 1) σ).toInt64))), (6, .int (nI 2))] [.int (qHeir (nI k) (nI 2) σ), .long (31 * (31 * h0 + ((qHeir (nI k) (nI 0) σ).toInt64)) + ((qHeir (nI k) (nI 1) σ).toInt64))] (cW G r x911 lx911)
  refine J_i2l dX11_mixHeir_21 ?_
  refine J_cSl [.long (31 * (31 * h0 + ((qHeir (nI k) (nI 0) σ).toInt64)) + ((qHeir (nI k) (nI 1) σ).toInt64)), .long ((qHeir (nI k) (nI 2) σ).toInt64)] ms_X11_306 (c_X11_mix (cW G r x911 lx911) (31 * (31 * h0 + ((qHeir (nI k) (nI 0) σ).toInt64)) + ((qHeir (nI k) (nI 1) σ).toInt64)) ((qHeir (nI k) (nI 2) σ).toInt64)) rfl rfl (by decide) (Nat.le_of_ble_eq_true rfl) ⟨Nat.le_refl _, Nat.le_refl _⟩ dX11_mixHeir_22 ?_
  refine J_lstore [(0, .ref (r 0)), (1, .long h0), (3, .int (nI k)), (4, .long (31 * (31 * (31 * h0 + ((qHeir (nI k) (nI 0) σ).toInt64)) + ((qHeir (nI k) (nI 1) σ).toInt64)) + ((qHeir (nI k) (nI 2) σ).toInt64))), (6, .int (nI 2))] dX11_mixHeir_25 (by decide) rfl rfl rfl ?_
  refine J_iincN [(0, .ref (r 0)), (1, .long h0), (3, .int (nI k)), (4, .long (31 * (31 * (31 * h0 + ((qHeir (nI k) (nI 0) σ).toInt64)) + ((qHeir (nI k) (nI 1) σ).toInt64)) + ((qHeir (nI k) (nI 2) σ).toInt64))), (6, .int (nI 3))] dX11_mixHeir_27 rfl (by decide) rfl rfl rfl ?_
  refine J_goto 6 dX11_mixHeir_30 (by decide) ?_
  refine J_iload dX11_mixHeir_6 rfl ?_
  refine J_iconst (v := nI 2) dX11_mixHeir_8 (by decide) ?_
  refine J_icmp_gt 33 dX11_mixHeir_9 (by decide) (fun _ => ?_) (fun c => absurd c (by decide))
  refine J_iconst (v := nI 0) dX11_mixHeir_33 (by decide) ?_
  refine J_istore [(0, .ref (r 0)), (1, .long h0), (3, .int (nI k)), (4, .long (31 * (31 * (31 * h0 + ((qHeir (nI k) (nI 0) σ).toInt64)) + ((qHeir (nI k) (nI 1) σ).toInt64)) + ((qHeir (nI k) (nI 2) σ).toInt64))), (6, .int (nI 0))] dX11_mixHeir_34 (by decide) rfl rfl rfl ?_
  refine J_iload dX11_mixHeir_36 rfl ?_
  refine J_iconst (v := nI 3) dX11_mixHeir_38 (by decide) ?_
  refine J_icmp_gt 63 dX11_mixHeir_39 (by decide) (fun c => absurd c (by decide)) (fun _ => ?_)
  refine J_lload dX11_mixHeir_42 rfl ?_
  refine J_aload_n dX11_mixHeir_44 rfl rfl ?_
  refine J_iload_n dX11_mixHeir_45 rfl rfl ?_
  refine J_iload dX11_mixHeir_46 rfl ?_
  refine J_callV (wr := []) (As := [.int (nI k), .int (nI 0)]) (st := [.long (31 * (31 * (31 * h0 + ((qHeir (nI k) (nI 0) σ).toInt64)) + ((qHeir (nI k) (nI 1) σ).toInt64)) + ((qHeir (nI k) (nI 2) σ).toInt64))]) 0 mv_X11_370 (c_X11_has r x911 lx911 σ hL hC_x911 (nI k) (nI 0)) cW_0 rfl rfl rfl (by decide) (Nat.le_of_ble_eq_true rfl) ⟨Nat.le_refl _, Nat.le_refl _⟩ dX11_mixHeir_48 (fun v_ w_ h_ => ?_)
  obtain ⟨x912, lx912, rfl, rfl, hC_x912⟩ := h_
  show J G "mixHeir" RX11 cX11_mixHeir 7 (some .long) 0 0 11 Q 0 0 51 [(0, .ref (r 0)), (1, .long h0), (3, .int (nI k)), (4, .long (31 * (31 * (31 * h0 + ((qHeir (nI k) (nI 0) σ).toInt64)) + ((qHeir (nI k) (nI 1) σ).toInt64)) + ((qHeir (nI k) (nI 2) σ).toInt64))), (6, .int (nI 0))] [.int (qHas (nI k) (nI 0) σ), .long (31 * (31 * (31 * h0 + ((qHeir (nI k) (nI 0) σ).toInt64)) + ((qHeir (nI k) (nI 1) σ).toInt64)) + ((qHeir (nI k) (nI 2) σ).toInt64))] (cW G r x912 lx912)
  refine J_i2l dX11_mixHeir_51 ?_
  refine J_cSl [.long (31 * (31 * (31 * h0 + ((qHeir (nI k) (nI 0) σ).toInt64)) + ((qHeir (nI k) (nI 1) σ).toInt64)) + ((qHeir (nI k) (nI 2) σ).toInt64)), .long ((qHas (nI k) (nI 0) σ).toInt64)] ms_X11_306 (c_X11_mix (cW G r x912 lx912) (31 * (31 * (31 * h0 + ((qHeir (nI k) (nI 0) σ).toInt64)) + ((qHeir (nI k) (nI 1) σ).toInt64)) + ((qHeir (nI k) (nI 2) σ).toInt64)) ((qHas (nI k) (nI 0) σ).toInt64)) rfl rfl (by decide) (Nat.le_of_ble_eq_true rfl) ⟨Nat.le_refl _, Nat.le_refl _⟩ dX11_mixHeir_52 ?_
  refine J_lstore [(0, .ref (r 0)), (1, .long h0), (3, .int (nI k)), (4, .long (31 * (31 * (31 * (31 * h0 + ((qHeir (nI k) (nI 0) σ).toInt64)) + ((qHeir (nI k) (nI 1) σ).toInt64)) + ((qHeir (nI k) (nI 2) σ).toInt64)) + ((qHas (nI k) (nI 0) σ).toInt64))), (6, .int (nI 0))] dX11_mixHeir_55 (by decide) rfl rfl rfl ?_
  refine J_iincN [(0, .ref (r 0)), (1, .long h0), (3, .int (nI k)), (4, .long (31 * (31 * (31 * (31 * h0 + ((qHeir (nI k) (nI 0) σ).toInt64)) + ((qHeir (nI k) (nI 1) σ).toInt64)) + ((qHeir (nI k) (nI 2) σ).toInt64)) + ((qHas (nI k) (nI 0) σ).toInt64))), (6, .int (nI 1))] dX11_mixHeir_57 rfl (by decide) rfl rfl rfl ?_
  refine J_goto 36 dX11_mixHeir_60 (by decide) ?_
  refine J_iload dX11_mixHeir_36 rfl ?_
  refine J_iconst (v := nI 3) dX11_mixHeir_38 (by decide) ?_
  refine J_icmp_gt 63 dX11_mixHeir_39 (by decide) (fun c => absurd c (by decide)) (fun _ => ?_)
  refine J_lload dX11_mixHeir_42 rfl ?_
  refine J_aload_n dX11_mixHeir_44 rfl rfl ?_
  refine J_iload_n dX11_mixHeir_45 rfl rfl ?_
  refine J_iload dX11_mixHeir_46 rfl ?_
  refine J_callV (wr := []) (As := [.int (nI k), .int (nI 1)]) (st := [.long (31 * (31 * (31 * (31 * h0 + ((qHeir (nI k) (nI 0) σ).toInt64)) + ((qHeir (nI k) (nI 1) σ).toInt64)) + ((qHeir (nI k) (nI 2) σ).toInt64)) + ((qHas (nI k) (nI 0) σ).toInt64))]) 0 mv_X11_370 (c_X11_has r x912 lx912 σ hL hC_x912 (nI k) (nI 1)) cW_0 rfl rfl rfl (by decide) (Nat.le_of_ble_eq_true rfl) ⟨Nat.le_refl _, Nat.le_refl _⟩ dX11_mixHeir_48 (fun v_ w_ h_ => ?_)
  obtain ⟨x913, lx913, rfl, rfl, hC_x913⟩ := h_
  show J G "mixHeir" RX11 cX11_mixHeir 7 (some .long) 0 0 11 Q 0 0 51 [(0, .ref (r 0)), (1, .long h0), (3, .int (nI k)), (4, .long (31 * (31 * (31 * (31 * h0 + ((qHeir (nI k) (nI 0) σ).toInt64)) + ((qHeir (nI k) (nI 1) σ).toInt64)) + ((qHeir (nI k) (nI 2) σ).toInt64)) + ((qHas (nI k) (nI 0) σ).toInt64))), (6, .int (nI 1))] [.int (qHas (nI k) (nI 1) σ), .long (31 * (31 * (31 * (31 * h0 + ((qHeir (nI k) (nI 0) σ).toInt64)) + ((qHeir (nI k) (nI 1) σ).toInt64)) + ((qHeir (nI k) (nI 2) σ).toInt64)) + ((qHas (nI k) (nI 0) σ).toInt64))] (cW G r x913 lx913)
  refine J_i2l dX11_mixHeir_51 ?_
  refine J_cSl [.long (31 * (31 * (31 * (31 * h0 + ((qHeir (nI k) (nI 0) σ).toInt64)) + ((qHeir (nI k) (nI 1) σ).toInt64)) + ((qHeir (nI k) (nI 2) σ).toInt64)) + ((qHas (nI k) (nI 0) σ).toInt64)), .long ((qHas (nI k) (nI 1) σ).toInt64)] ms_X11_306 (c_X11_mix (cW G r x913 lx913) (31 * (31 * (31 * (31 * h0 + ((qHeir (nI k) (nI 0) σ).toInt64)) + ((qHeir (nI k) (nI 1) σ).toInt64)) + ((qHeir (nI k) (nI 2) σ).toInt64)) + ((qHas (nI k) (nI 0) σ).toInt64)) ((qHas (nI k) (nI 1) σ).toInt64)) rfl rfl (by decide) (Nat.le_of_ble_eq_true rfl) ⟨Nat.le_refl _, Nat.le_refl _⟩ dX11_mixHeir_52 ?_
  refine J_lstore [(0, .ref (r 0)), (1, .long h0), (3, .int (nI k)), (4, .long (31 * (31 * (31 * (31 * (31 * h0 + ((qHeir (nI k) (nI 0) σ).toInt64)) + ((qHeir (nI k) (nI 1) σ).toInt64)) + ((qHeir (nI k) (nI 2) σ).toInt64)) + ((qHas (nI k) (nI 0) σ).toInt64)) + ((qHas (nI k) (nI 1) σ).toInt64))), (6, .int (nI 1))] dX11_mixHeir_55 (by decide) rfl rfl rfl ?_
  refine J_iincN [(0, .ref (r 0)), (1, .long h0), (3, .int (nI k)), (4, .long (31 * (31 * (31 * (31 * (31 * h0 + ((qHeir (nI k) (nI 0) σ).toInt64)) + ((qHeir (nI k) (nI 1) σ).toInt64)) + ((qHeir (nI k) (nI 2) σ).toInt64)) + ((qHas (nI k) (nI 0) σ).toInt64)) + ((qHas (nI k) (nI 1) σ).toInt64))), (6, .int (nI 2))] dX11_mixHeir_57 rfl (by decide) rfl rfl rfl ?_
  refine J_goto 36 dX11_mixHeir_60 (by decide) ?_
  refine J_iload dX11_mixHeir_36 rfl ?_
  refine J_iconst (v := nI 3) dX11_mixHeir_38 (by decide) ?_
  refine J_icmp_gt 63 dX11_mixHeir_39 (by decide) (fun c => absurd c (by decide)) (fun _ => ?_)
  refine J_lload dX11_mixHeir_42 rfl ?_
  refine J_aload_n dX11_mixHeir_44 rfl rfl ?_
  refine J_iload_n dX11_mixHeir_45 rfl rfl ?_
  refine J_iload dX11_mixHeir_46 rfl ?_
  refine J_callV (wr := []) (As := [.int (nI k), .int (nI 2)]) (st := [.long (31 * (31 * (31 * (31 * (31 * h0 + ((qHeir (nI k) (nI 0) σ).toInt64)) + ((qHeir (nI k) (nI 1) σ).toInt64)) + ((qHeir (nI k) (nI 2) σ).toInt64)) + ((qHas (nI k) (nI 0) σ).toInt64)) + ((qHas (nI k) (nI 1) σ).toInt64))]) 0 mv_X11_370 (c_X11_has r x913 lx913 σ hL hC_x913 (nI k) (nI 2)) cW_0 rfl rfl rfl (by decide) (Nat.le_of_ble_eq_true rfl) ⟨Nat.le_refl _, Nat.le_refl _⟩ dX11_mixHeir_48 (fun v_ w_ h_ => ?_)
  obtain ⟨x914, lx914, rfl, rfl, hC_x914⟩ := h_
  show J G "mixHeir" RX11 cX11_mixHeir 7 (some .long) 0 0 11 Q 0 0 51 [(0, .ref (r 0)), (1, .long h0), (3, .int (nI k)), (4, .long (31 * (31 * (31 * (31 * (31 * h0 + ((qHeir (nI k) (nI 0) σ).toInt64)) + ((qHeir (nI k) (nI 1) σ).toInt64)) + ((qHeir (nI k) (nI 2) σ).toInt64)) + ((qHas (nI k) (nI 0) σ).toInt64)) + ((qHas (nI k) (nI 1) σ).toInt64))), (6, .int (nI 2))] [.int (qHas (nI k) (nI 2) σ), .long (31 * (31 * (31 * (31 * (31 * h0 + ((qHeir (nI k) (nI 0) σ).toInt64)) + ((qHeir (nI k) (nI 1) σ).toInt64)) + ((qHeir (nI k) (nI 2) σ).toInt64)) + ((qHas (nI k) (nI 0) σ).toInt64)) + ((qHas (nI k) (nI 1) σ).toInt64))] (cW G r x914 lx914)
  refine J_i2l dX11_mixHeir_51 ?_
  refine J_cSl [.long (31 * (31 * (31 * (31 * (31 * h0 + ((qHeir (nI k) (nI 0) σ).toInt64)) + ((qHeir (nI k) (nI 1) σ).toInt64)) + ((qHeir (nI k) (nI 2) σ).toInt64)) + ((qHas (nI k) (nI 0) σ).toInt64)) + ((qHas (nI k) (nI 1) σ).toInt64)), .long ((qHas (nI k) (nI 2) σ).toInt64)] ms_X11_306 (c_X11_mix (cW G r x914 lx914) (31 * (31 * (31 * (31 * (31 * h0 + ((qHeir (nI k) (nI 0) σ).toInt64)) + ((qHeir (nI k) (nI 1) σ).toInt64)) + ((qHeir (nI k) (nI 2) σ).toInt64)) + ((qHas (nI k) (nI 0) σ).toInt64)) + ((qHas (nI k) (nI 1) σ).toInt64)) ((qHas (nI k) (nI 2) σ).toInt64)) rfl rfl (by decide) (Nat.le_of_ble_eq_true rfl) ⟨Nat.le_refl _, Nat.le_refl _⟩ dX11_mixHeir_52 ?_
  refine J_lstore [(0, .ref (r 0)), (1, .long h0), (3, .int (nI k)), (4, .long (31 * (31 * (31 * (31 * (31 * (31 * h0 + ((qHeir (nI k) (nI 0) σ).toInt64)) + ((qHeir (nI k) (nI 1) σ).toInt64)) + ((qHeir (nI k) (nI 2) σ).toInt64)) + ((qHas (nI k) (nI 0) σ).toInt64)) + ((qHas (nI k) (nI 1) σ).toInt64)) + ((qHas (nI k) (nI 2) σ).toInt64))), (6, .int (nI 2))] dX11_mixHeir_55 (by decide) rfl rfl rfl ?_
  refine J_iincN [(0, .ref (r 0)), (1, .long h0), (3, .int (nI k)), (4, .long (31 * (31 * (31 * (31 * (31 * (31 * h0 + ((qHeir (nI k) (nI 0) σ).toInt64)) + ((qHeir (nI k) (nI 1) σ).toInt64)) + ((qHeir (nI k) (nI 2) σ).toInt64)) + ((qHas (nI k) (nI 0) σ).toInt64)) + ((qHas (nI k) (nI 1) σ).toInt64)) + ((qHas (nI k) (nI 2) σ).toInt64))), (6, .int (nI 3))] dX11_mixHeir_57 rfl (by decide) rfl rfl rfl ?_
  refine J_goto 36 dX11_mixHeir_60 (by decide) ?_
  refine J_iload dX11_mixHeir_36 rfl ?_
  refine J_iconst (v := nI 3) dX11_mixHeir_38 (by decide) ?_
  refine J_icmp_gt 63 dX11_mixHeir_39 (by decide) (fun c => absurd c (by decide)) (fun _ => ?_)
  refine J_lload dX11_mixHeir_42 rfl ?_
  refine J_aload_n dX11_mixHeir_44 rfl rfl ?_
  refine J_iload_n dX11_mixHeir_45 rfl rfl ?_
  refine J_iload dX11_mixHeir_46 rfl ?_
  refine J_callV (wr := []) (As := [.int (nI k), .int (nI 3)]) (st := [.long (31 * (31 * (31 * (31 * (31 * (31 * h0 + ((qHeir (nI k) (nI 0) σ).toInt64)) + ((qHeir (nI k) (nI 1) σ).toInt64)) + ((qHeir (nI k) (nI 2) σ).toInt64)) + ((qHas (nI k) (nI 0) σ).toInt64)) + ((qHas (nI k) (nI 1) σ).toInt64)) + ((qHas (nI k) (nI 2) σ).toInt64))]) 0 mv_X11_370 (c_X11_has r x914 lx914 σ hL hC_x914 (nI k) (nI 3)) cW_0 rfl rfl rfl (by decide) (Nat.le_of_ble_eq_true rfl) ⟨Nat.le_refl _, Nat.le_refl _⟩ dX11_mixHeir_48 (fun v_ w_ h_ => ?_)
  obtain ⟨x915, lx915, rfl, rfl, hC_x915⟩ := h_
  show J G "mixHeir" RX11 cX11_mixHeir 7 (some .long) 0 0 11 Q 0 0 51 [(0, .ref (r 0)), (1, .long h0), (3, .int (nI k)), (4, .long (31 * (31 * (31 * (31 * (31 * (31 * h0 + ((qHeir (nI k) (nI 0) σ).toInt64)) + ((qHeir (nI k) (nI 1) σ).toInt64)) + ((qHeir (nI k) (nI 2) σ).toInt64)) + ((qHas (nI k) (nI 0) σ).toInt64)) + ((qHas (nI k) (nI 1) σ).toInt64)) + ((qHas (nI k) (nI 2) σ).toInt64))), (6, .int (nI 3))] [.int (qHas (nI k) (nI 3) σ), .long (31 * (31 * (31 * (31 * (31 * (31 * h0 + ((qHeir (nI k) (nI 0) σ).toInt64)) + ((qHeir (nI k) (nI 1) σ).toInt64)) + ((qHeir (nI k) (nI 2) σ).toInt64)) + ((qHas (nI k) (nI 0) σ).toInt64)) + ((qHas (nI k) (nI 1) σ).toInt64)) + ((qHas (nI k) (nI 2) σ).toInt64))] (cW G r x915 lx915)
  refine J_i2l dX11_mixHeir_51 ?_
  refine J_cSl [.long (31 * (31 * (31 * (31 * (31 * (31 * h0 + ((qHeir (nI k) (nI 0) σ).toInt64)) + ((qHeir (nI k) (nI 1) σ).toInt64)) + ((qHeir (nI k) (nI 2) σ).toInt64)) + ((qHas (nI k) (nI 0) σ).toInt64)) + ((qHas (nI k) (nI 1) σ).toInt64)) + ((qHas (nI k) (nI 2) σ).toInt64)), .long ((qHas (nI k) (nI 3) σ).toInt64)] ms_X11_306 (c_X11_mix (cW G r x915 lx915) (31 * (31 * (31 * (31 * (31 * (31 * h0 + ((qHeir (nI k) (nI 0) σ).toInt64)) + ((qHeir (nI k) (nI 1) σ).toInt64)) + ((qHeir (nI k) (nI 2) σ).toInt64)) + ((qHas (nI k) (nI 0) σ).toInt64)) + ((qHas (nI k) (nI 1) σ).toInt64)) + ((qHas (nI k) (nI 2) σ).toInt64)) ((qHas (nI k) (nI 3) σ).toInt64)) rfl rfl (by decide) (Nat.le_of_ble_eq_true rfl) ⟨Nat.le_refl _, Nat.le_refl _⟩ dX11_mixHeir_52 ?_
  refine J_lstore [(0, .ref (r 0)), (1, .long h0), (3, .int (nI k)), (4, .long (31 * (31 * (31 * (31 * (31 * (31 * (31 * h0 + ((qHeir (nI k) (nI 0) σ).toInt64)) + ((qHeir (nI k) (nI 1) σ).toInt64)) + ((qHeir (nI k) (nI 2) σ).toInt64)) + ((qHas (nI k) (nI 0) σ).toInt64)) + ((qHas (nI k) (nI 1) σ).toInt64)) + ((qHas (nI k) (nI 2) σ).toInt64)) + ((qHas (nI k) (nI 3) σ).toInt64))), (6, .int (nI 3))] dX11_mixHeir_55 (by decide) rfl rfl rfl ?_
  refine J_iincN [(0, .ref (r 0)), (1, .long h0), (3, .int (nI k)), (4, .long (31 * (31 * (31 * (31 * (31 * (31 * (31 * h0 + ((qHeir (nI k) (nI 0) σ).toInt64)) + ((qHeir (nI k) (nI 1) σ).toInt64)) + ((qHeir (nI k) (nI 2) σ).toInt64)) + ((qHas (nI k) (nI 0) σ).toInt64)) + ((qHas (nI k) (nI 1) σ).toInt64)) + ((qHas (nI k) (nI 2) σ).toInt64)) + ((qHas (nI k) (nI 3) σ).toInt64))), (6, .int (nI 4))] dX11_mixHeir_57 rfl (by decide) rfl rfl rfl ?_
  refine J_goto 36 dX11_mixHeir_60 (by decide) ?_
  refine J_iload dX11_mixHeir_36 rfl ?_
  refine J_iconst (v := nI 3) dX11_mixHeir_38 (by decide) ?_
  refine J_icmp_gt 63 dX11_mixHeir_39 (by decide) (fun _ => ?_) (fun c => absurd c (by decide))
  refine J_lload dX11_mixHeir_63 rfl ?_
  refine J_aload_n dX11_mixHeir_65 rfl rfl ?_
  refine J_iload_n dX11_mixHeir_66 rfl rfl ?_
  refine J_iconst (v := nI 0) dX11_mixHeir_67 (by decide) ?_
  refine J_callV (wr := []) (As := [.int (nI k), .int (nI 0)]) (st := [.long (31 * (31 * (31 * (31 * (31 * (31 * (31 * h0 + ((qHeir (nI k) (nI 0) σ).toInt64)) + ((qHeir (nI k) (nI 1) σ).toInt64)) + ((qHeir (nI k) (nI 2) σ).toInt64)) + ((qHas (nI k) (nI 0) σ).toInt64)) + ((qHas (nI k) (nI 1) σ).toInt64)) + ((qHas (nI k) (nI 2) σ).toInt64)) + ((qHas (nI k) (nI 3) σ).toInt64))]) 0 mv_X11_373 (c_X11_does r x915 lx915 σ hL hC_x915 (nI k) (nI 0)) cW_0 rfl rfl rfl (by decide) (Nat.le_of_ble_eq_true rfl) ⟨Nat.le_refl _, Nat.le_refl _⟩ dX11_mixHeir_68 (fun v_ w_ h_ => ?_)
  obtain ⟨x916, lx916, rfl, rfl, hC_x916⟩ := h_
  show J G "mixHeir" RX11 cX11_mixHeir 7 (some .long) 0 0 11 Q 0 0 71 [(0, .ref (r 0)), (1, .long h0), (3, .int (nI k)), (4, .long (31 * (31 * (31 * (31 * (31 * (31 * (31 * h0 + ((qHeir (nI k) (nI 0) σ).toInt64)) + ((qHeir (nI k) (nI 1) σ).toInt64)) + ((qHeir (nI k) (nI 2) σ).toInt64)) + ((qHas (nI k) (nI 0) σ).toInt64)) + ((qHas (nI k) (nI 1) σ).toInt64)) + ((qHas (nI k) (nI 2) σ).toInt64)) + ((qHas (nI k) (nI 3) σ).toInt64))), (6, .int (nI 4))] [.int (qDoes (nI k) (nI 0) σ), .long (31 * (31 * (31 * (31 * (31 * (31 * (31 * h0 + ((qHeir (nI k) (nI 0) σ).toInt64)) + ((qHeir (nI k) (nI 1) σ).toInt64)) + ((qHeir (nI k) (nI 2) σ).toInt64)) + ((qHas (nI k) (nI 0) σ).toInt64)) + ((qHas (nI k) (nI 1) σ).toInt64)) + ((qHas (nI k) (nI 2) σ).toInt64)) + ((qHas (nI k) (nI 3) σ).toInt64))] (cW G r x916 lx916)
  refine J_i2l dX11_mixHeir_71 ?_
  refine J_cSl [.long (31 * (31 * (31 * (31 * (31 * (31 * (31 * h0 + ((qHeir (nI k) (nI 0) σ).toInt64)) + ((qHeir (nI k) (nI 1) σ).toInt64)) + ((qHeir (nI k) (nI 2) σ).toInt64)) + ((qHas (nI k) (nI 0) σ).toInt64)) + ((qHas (nI k) (nI 1) σ).toInt64)) + ((qHas (nI k) (nI 2) σ).toInt64)) + ((qHas (nI k) (nI 3) σ).toInt64)), .long ((qDoes (nI k) (nI 0) σ).toInt64)] ms_X11_306 (c_X11_mix (cW G r x916 lx916) (31 * (31 * (31 * (31 * (31 * (31 * (31 * h0 + ((qHeir (nI k) (nI 0) σ).toInt64)) + ((qHeir (nI k) (nI 1) σ).toInt64)) + ((qHeir (nI k) (nI 2) σ).toInt64)) + ((qHas (nI k) (nI 0) σ).toInt64)) + ((qHas (nI k) (nI 1) σ).toInt64)) + ((qHas (nI k) (nI 2) σ).toInt64)) + ((qHas (nI k) (nI 3) σ).toInt64)) ((qDoes (nI k) (nI 0) σ).toInt64)) rfl rfl (by decide) (Nat.le_of_ble_eq_true rfl) ⟨Nat.le_refl _, Nat.le_refl _⟩ dX11_mixHeir_72 ?_
  refine J_lstore [(0, .ref (r 0)), (1, .long h0), (3, .int (nI k)), (4, .long (31 * (31 * (31 * (31 * (31 * (31 * (31 * (31 * h0 + ((qHeir (nI k) (nI 0) σ).toInt64)) + ((qHeir (nI k) (nI 1) σ).toInt64)) + ((qHeir (nI k) (nI 2) σ).toInt64)) + ((qHas (nI k) (nI 0) σ).toInt64)) + ((qHas (nI k) (nI 1) σ).toInt64)) + ((qHas (nI k) (nI 2) σ).toInt64)) + ((qHas (nI k) (nI 3) σ).toInt64)) + ((qDoes (nI k) (nI 0) σ).toInt64))), (6, .int (nI 4))] dX11_mixHeir_75 (by decide) rfl rfl rfl ?_
  refine J_lload dX11_mixHeir_77 rfl ?_
  refine J_aload_n dX11_mixHeir_79 rfl rfl ?_
  refine J_iload_n dX11_mixHeir_80 rfl rfl ?_
  refine J_bipush (v := nI 7) dX11_mixHeir_81 (by decide) ?_
  refine J_callV (wr := []) (As := [.int (nI k), .int (nI 7)]) (st := [.long (31 * (31 * (31 * (31 * (31 * (31 * (31 * (31 * h0 + ((qHeir (nI k) (nI 0) σ).toInt64)) + ((qHeir (nI k) (nI 1) σ).toInt64)) + ((qHeir (nI k) (nI 2) σ).toInt64)) + ((qHas (nI k) (nI 0) σ).toInt64)) + ((qHas (nI k) (nI 1) σ).toInt64)) + ((qHas (nI k) (nI 2) σ).toInt64)) + ((qHas (nI k) (nI 3) σ).toInt64)) + ((qDoes (nI k) (nI 0) σ).toInt64))]) 0 mv_X11_373 (c_X11_does r x916 lx916 σ hL hC_x916 (nI k) (nI 7)) cW_0 rfl rfl rfl (by decide) (Nat.le_of_ble_eq_true rfl) ⟨Nat.le_refl _, Nat.le_refl _⟩ dX11_mixHeir_83 (fun v_ w_ h_ => ?_)
  obtain ⟨x917, lx917, rfl, rfl, hC_x917⟩ := h_
  show J G "mixHeir" RX11 cX11_mixHeir 7 (some .long) 0 0 11 Q 0 0 86 [(0, .ref (r 0)), (1, .long h0), (3, .int (nI k)), (4, .long (31 * (31 * (31 * (31 * (31 * (31 * (31 * (31 * h0 + ((qHeir (nI k) (nI 0) σ).toInt64)) + ((qHeir (nI k) (nI 1) σ).toInt64)) + ((qHeir (nI k) (nI 2) σ).toInt64)) + ((qHas (nI k) (nI 0) σ).toInt64)) + ((qHas (nI k) (nI 1) σ).toInt64)) + ((qHas (nI k) (nI 2) σ).toInt64)) + ((qHas (nI k) (nI 3) σ).toInt64)) + ((qDoes (nI k) (nI 0) σ).toInt64))), (6, .int (nI 4))] [.int (qDoes (nI k) (nI 7) σ), .long (31 * (31 * (31 * (31 * (31 * (31 * (31 * (31 * h0 + ((qHeir (nI k) (nI 0) σ).toInt64)) + ((qHeir (nI k) (nI 1) σ).toInt64)) + ((qHeir (nI k) (nI 2) σ).toInt64)) + ((qHas (nI k) (nI 0) σ).toInt64)) + ((qHas (nI k) (nI 1) σ).toInt64)) + ((qHas (nI k) (nI 2) σ).toInt64)) + ((qHas (nI k) (nI 3) σ).toInt64)) + ((qDoes (nI k) (nI 0) σ).toInt64))] (cW G r x917 lx917)
  refine J_i2l dX11_mixHeir_86 ?_
  refine J_cSl [.long (31 * (31 * (31 * (31 * (31 * (31 * (31 * (31 * h0 + ((qHeir (nI k) (nI 0) σ).toInt64)) + ((qHeir (nI k) (nI 1) σ).toInt64)) + ((qHeir (nI k) (nI 2) σ).toInt64)) + ((qHas (nI k) (nI 0) σ).toInt64)) + ((qHas (nI k) (nI 1) σ).toInt64)) + ((qHas (nI k) (nI 2) σ).toInt64)) + ((qHas (nI k) (nI 3) σ).toInt64)) + ((qDoes (nI k) (nI 0) σ).toInt64)), .long ((qDoes (nI k) (nI 7) σ).toInt64)] ms_X11_306 (c_X11_mix (cW G r x917 lx917) (31 * (31 * (31 * (31 * (31 * (31 * (31 * (31 * h0 + ((qHeir (nI k) (nI 0) σ).toInt64)) + ((qHeir (nI k) (nI 1) σ).toInt64)) + ((qHeir (nI k) (nI 2) σ).toInt64)) + ((qHas (nI k) (nI 0) σ).toInt64)) + ((qHas (nI k) (nI 1) σ).toInt64)) + ((qHas (nI k) (nI 2) σ).toInt64)) + ((qHas (nI k) (nI 3) σ).toInt64)) + ((qDoes (nI k) (nI 0) σ).toInt64)) ((qDoes (nI k) (nI 7) σ).toInt64)) rfl rfl (by decide) (Nat.le_of_ble_eq_true rfl) ⟨Nat.le_refl _, Nat.le_refl _⟩ dX11_mixHeir_87 ?_
  refine J_lstore [(0, .ref (r 0)), (1, .long h0), (3, .int (nI k)), (4, .long (31 * (31 * (31 * (31 * (31 * (31 * (31 * (31 * (31 * h0 + ((qHeir (nI k) (nI 0) σ).toInt64)) + ((qHeir (nI k) (nI 1) σ).toInt64)) + ((qHeir (nI k) (nI 2) σ).toInt64)) + ((qHas (nI k) (nI 0) σ).toInt64)) + ((qHas (nI k) (nI 1) σ).toInt64)) + ((qHas (nI k) (nI 2) σ).toInt64)) + ((qHas (nI k) (nI 3) σ).toInt64)) + ((qDoes (nI k) (nI 0) σ).toInt64)) + ((qDoes (nI k) (nI 7) σ).toInt64))), (6, .int (nI 4))] dX11_mixHeir_90 (by decide) rfl rfl rfl ?_
  refine J_lload dX11_mixHeir_92 rfl ?_
  refine J_aload_n dX11_mixHeir_94 rfl rfl ?_
  refine J_iload_n dX11_mixHeir_95 rfl rfl ?_
  refine J_bipush (v := nI 20) dX11_mixHeir_96 (by decide) ?_
  refine J_callV (wr := []) (As := [.int (nI k), .int (nI 20)]) (st := [.long (31 * (31 * (31 * (31 * (31 * (31 * (31 * (31 * (31 * h0 + ((qHeir (nI k) (nI 0) σ).toInt64)) + ((qHeir (nI k) (nI 1) σ).toInt64)) + ((qHeir (nI k) (nI 2) σ).toInt64)) + ((qHas (nI k) (nI 0) σ).toInt64)) + ((qHas (nI k) (nI 1) σ).toInt64)) + ((qHas (nI k) (nI 2) σ).toInt64)) + ((qHas (nI k) (nI 3) σ).toInt64)) + ((qDoes (nI k) (nI 0) σ).toInt64)) + ((qDoes (nI k) (nI 7) σ).toInt64))]) 0 mv_X11_373 (c_X11_does r x917 lx917 σ hL hC_x917 (nI k) (nI 20)) cW_0 rfl rfl rfl (by decide) (Nat.le_of_ble_eq_true rfl) ⟨Nat.le_refl _, Nat.le_refl _⟩ dX11_mixHeir_98 (fun v_ w_ h_ => ?_)
  obtain ⟨x918, lx918, rfl, rfl, hC_x918⟩ := h_
  show J G "mixHeir" RX11 cX11_mixHeir 7 (some .long) 0 0 11 Q 0 0 101 [(0, .ref (r 0)), (1, .long h0), (3, .int (nI k)), (4, .long (31 * (31 * (31 * (31 * (31 * (31 * (31 * (31 * (31 * h0 + ((qHeir (nI k) (nI 0) σ).toInt64)) + ((qHeir (nI k) (nI 1) σ).toInt64)) + ((qHeir (nI k) (nI 2) σ).toInt64)) + ((qHas (nI k) (nI 0) σ).toInt64)) + ((qHas (nI k) (nI 1) σ).toInt64)) + ((qHas (nI k) (nI 2) σ).toInt64)) + ((qHas (nI k) (nI 3) σ).toInt64)) + ((qDoes (nI k) (nI 0) σ).toInt64)) + ((qDoes (nI k) (nI 7) σ).toInt64))), (6, .int (nI 4))] [.int (qDoes (nI k) (nI 20) σ), .long (31 * (31 * (31 * (31 * (31 * (31 * (31 * (31 * (31 * h0 + ((qHeir (nI k) (nI 0) σ).toInt64)) + ((qHeir (nI k) (nI 1) σ).toInt64)) + ((qHeir (nI k) (nI 2) σ).toInt64)) + ((qHas (nI k) (nI 0) σ).toInt64)) + ((qHas (nI k) (nI 1) σ).toInt64)) + ((qHas (nI k) (nI 2) σ).toInt64)) + ((qHas (nI k) (nI 3) σ).toInt64)) + ((qDoes (nI k) (nI 0) σ).toInt64)) + ((qDoes (nI k) (nI 7) σ).toInt64))] (cW G r x918 lx918)
  refine J_i2l dX11_mixHeir_101 ?_
  refine J_cSl [.long (31 * (31 * (31 * (31 * (31 * (31 * (31 * (31 * (31 * h0 + ((qHeir (nI k) (nI 0) σ).toInt64)) + ((qHeir (nI k) (nI 1) σ).toInt64)) + ((qHeir (nI k) (nI 2) σ).toInt64)) + ((qHas (nI k) (nI 0) σ).toInt64)) + ((qHas (nI k) (nI 1) σ).toInt64)) + ((qHas (nI k) (nI 2) σ).toInt64)) + ((qHas (nI k) (nI 3) σ).toInt64)) + ((qDoes (nI k) (nI 0) σ).toInt64)) + ((qDoes (nI k) (nI 7) σ).toInt64)), .long ((qDoes (nI k) (nI 20) σ).toInt64)] ms_X11_306 (c_X11_mix (cW G r x918 lx918) (31 * (31 * (31 * (31 * (31 * (31 * (31 * (31 * (31 * h0 + ((qHeir (nI k) (nI 0) σ).toInt64)) + ((qHeir (nI k) (nI 1) σ).toInt64)) + ((qHeir (nI k) (nI 2) σ).toInt64)) + ((qHas (nI k) (nI 0) σ).toInt64)) + ((qHas (nI k) (nI 1) σ).toInt64)) + ((qHas (nI k) (nI 2) σ).toInt64)) + ((qHas (nI k) (nI 3) σ).toInt64)) + ((qDoes (nI k) (nI 0) σ).toInt64)) + ((qDoes (nI k) (nI 7) σ).toInt64)) ((qDoes (nI k) (nI 20) σ).toInt64)) rfl rfl (by decide) (Nat.le_of_ble_eq_true rfl) ⟨Nat.le_refl _, Nat.le_refl _⟩ dX11_mixHeir_102 ?_
  exact J_lret dX11_mixHeir_105 rfl rfl rfl (hq x918 lx918 _ rfl hC_x918)
theorem c_X11_mixHeir {G : GT} (r : Nat → Nat) (s : St) (l : Nat → Int64) (σ : St) (hL : LI σ) (hC : CI σ s) (h0 : Int64) (k : Nat) : Ct G yX11_mixHeir cX11_mixHeir 7 (some .long) 0 0 11 [.ref (r 0), .long h0, .int (nI k)] (cW G r s l) (QCL G r (dHeir σ h0 k) σ) := Ct.of rfl (Nat.le_of_ble_eq_true rfl) (j_X11_mixHeir r s l σ hL hC h0 k (fun x lx a h1 h2 => ⟨x, lx, by rw [h1], rfl, h2⟩))
set_option maxRecDepth 100000 in
set_option maxHeartbeats 1000000 in
theorem j_X11_mixPlansOf {G : GT} (r : Nat → Nat) (s : St) (l : Nat → Int64) (σ : St) (hL : LI σ) (hC : CI σ s) (h0 : Int64) (k : Nat) {Q : Option Value → va_W → Prop} (hq : ∀ (x : St) (lx : Nat → Int64) (a : Int64), a = dPlan σ h0 k → CI σ x → Q (some (.long a)) (cW G r x lx)) : J G "mixPlansOf" RX11 cX11_mixPlansOf 6 (some .long) 0 0 11 Q 0 0 0 [(0, .ref (r 0)), (1, .long h0), (3, .int (nI k))] [] (cW G r s l) := by
  refine J_lload_n dX11_mixPlansOf_0 rfl rfl ?_
  refine J_lstore [(0, .ref (r 0)), (1, .long h0), (3, .int (nI k)), (4, .long h0)] dX11_mixPlansOf_1 (by decide) rfl rfl rfl ?_
  refine J_lload dX11_mixPlansOf_3 rfl ?_
  refine J_aload_n dX11_mixPlansOf_5 rfl rfl ?_
  refine J_iload_n dX11_mixPlansOf_6 rfl rfl ?_
  refine J_iconst (v := nI 0) dX11_mixPlansOf_7 (by decide) ?_
  refine J_callV (wr := []) (As := [.int (nI k), .int (nI 0)]) (st := [.long h0]) 0 mv_X11_376 (c_X11_write r s l σ hL hC (nI k) (nI 0)) cW_0 rfl rfl rfl (by decide) (Nat.le_of_ble_eq_true rfl) ⟨Nat.le_refl _, Nat.le_refl _⟩ dX11_mixPlansOf_8 (fun v_ w_ h_ => ?_)
  obtain ⟨x919, lx919, rfl, rfl, hC_x919⟩ := h_
  show J G "mixPlansOf" RX11 cX11_mixPlansOf 6 (some .long) 0 0 11 Q 0 0 11 [(0, .ref (r 0)), (1, .long h0), (3, .int (nI k)), (4, .long h0)] [.int (qWrite (nI k) (nI 0) σ), .long h0] (cW G r x919 lx919)
  refine J_i2l dX11_mixPlansOf_11 ?_
  refine J_cSl [.long h0, .long ((qWrite (nI k) (nI 0) σ).toInt64)] ms_X11_306 (c_X11_mix (cW G r x919 lx919) h0 ((qWrite (nI k) (nI 0) σ).toInt64)) rfl rfl (by decide) (Nat.le_of_ble_eq_true rfl) ⟨Nat.le_refl _, Nat.le_refl _⟩ dX11_mixPlansOf_12 ?_
  refine J_lstore [(0, .ref (r 0)), (1, .long h0), (3, .int (nI k)), (4, .long (31 * h0 + ((qWrite (nI k) (nI 0) σ).toInt64)))] dX11_mixPlansOf_15 (by decide) rfl rfl rfl ?_
  refine J_lload dX11_mixPlansOf_17 rfl ?_
  refine J_aload_n dX11_mixPlansOf_19 rfl rfl ?_
  refine J_iload_n dX11_mixPlansOf_20 rfl rfl ?_
  refine J_iconst (v := nI 1) dX11_mixPlansOf_21 (by decide) ?_
  refine J_callV (wr := []) (As := [.int (nI k), .int (nI 1)]) (st := [.long (31 * h0 + ((qWrite (nI k) (nI 0) σ).toInt64))]) 0 mv_X11_376 (c_X11_write r x919 lx919 σ hL hC_x919 (nI k) (nI 1)) cW_0 rfl rfl rfl (by decide) (Nat.le_of_ble_eq_true rfl) ⟨Nat.le_refl _, Nat.le_refl _⟩ dX11_mixPlansOf_22 (fun v_ w_ h_ => ?_)
  obtain ⟨x920, lx920, rfl, rfl, hC_x920⟩ := h_
  show J G "mixPlansOf" RX11 cX11_mixPlansOf 6 (some .long) 0 0 11 Q 0 0 25 [(0, .ref (r 0)), (1, .long h0), (3, .int (nI k)), (4, .long (31 * h0 + ((qWrite (nI k) (nI 0) σ).toInt64)))] [.int (qWrite (nI k) (nI 1) σ), .long (31 * h0 + ((qWrite (nI k) (nI 0) σ).toInt64))] (cW G r x920 lx920)
  refine J_i2l dX11_mixPlansOf_25 ?_
  refine J_cSl [.long (31 * h0 + ((qWrite (nI k) (nI 0) σ).toInt64)), .long ((qWrite (nI k) (nI 1) σ).toInt64)] ms_X11_306 (c_X11_mix (cW G r x920 lx920) (31 * h0 + ((qWrite (nI k) (nI 0) σ).toInt64)) ((qWrite (nI k) (nI 1) σ).toInt64)) rfl rfl (by decide) (Nat.le_of_ble_eq_true rfl) ⟨Nat.le_refl _, Nat.le_refl _⟩ dX11_mixPlansOf_26 ?_
  refine J_lstore [(0, .ref (r 0)), (1, .long h0), (3, .int (nI k)), (4, .long (31 * (31 * h0 + ((qWrite (nI k) (nI 0) σ).toInt64)) + ((qWrite (nI k) (nI 1) σ).toInt64)))] dX11_mixPlansOf_29 (by decide) rfl rfl rfl ?_
  refine J_lload dX11_mixPlansOf_31 rfl ?_
  refine J_aload_n dX11_mixPlansOf_33 rfl rfl ?_
  refine J_iconst (v := nI 0) dX11_mixPlansOf_34 (by decide) ?_
  refine J_iload_n dX11_mixPlansOf_35 rfl rfl ?_
  refine J_iconst (v := nI 0) dX11_mixPlansOf_36 (by decide) ?_
  refine J_callV (wr := []) (As := [.int (nI 0), .int (nI k), .int (nI 0)]) (st := [.long (31 * (31 * h0 + ((qWrite (nI k) (nI 0) σ).toInt64)) + ((qWrite (nI k) (nI 1) σ).toInt64))]) 0 mv_X11_379 (c_X11_part r x920 lx920 σ hL hC_x920 (nI 0) (nI k) (nI 0)) cW_0 rfl rfl rfl (by decide) (Nat.le_of_ble_eq_true rfl) ⟨Nat.le_refl _, Nat.le_refl _⟩ dX11_mixPlansOf_37 (fun v_ w_ h_ => ?_)
  obtain ⟨x921, lx921, rfl, rfl, hC_x921⟩ := h_
  show J G "mixPlansOf" RX11 cX11_mixPlansOf 6 (some .long) 0 0 11 Q 0 0 40 [(0, .ref (r 0)), (1, .long h0), (3, .int (nI k)), (4, .long (31 * (31 * h0 + ((qWrite (nI k) (nI 0) σ).toInt64)) + ((qWrite (nI k) (nI 1) σ).toInt64)))] [.int (qPart (nI 0) (nI k) (nI 0) σ), .long (31 * (31 * h0 + ((qWrite (nI k) (nI 0) σ).toInt64)) + ((qWrite (nI k) (nI 1) σ).toInt64))] (cW G r x921 lx921)
  refine J_i2l dX11_mixPlansOf_40 ?_
  refine J_cSl [.long (31 * (31 * h0 + ((qWrite (nI k) (nI 0) σ).toInt64)) + ((qWrite (nI k) (nI 1) σ).toInt64)), .long ((qPart (nI 0) (nI k) (nI 0) σ).toInt64)] ms_X11_306 (c_X11_mix (cW G r x921 lx921) (31 * (31 * h0 + ((qWrite (nI k) (nI 0) σ).toInt64)) + ((qWrite (nI k) (nI 1) σ).toInt64)) ((qPart (nI 0) (nI k) (nI 0) σ).toInt64)) rfl rfl (by decide) (Nat.le_of_ble_eq_true rfl) ⟨Nat.le_refl _, Nat.le_refl _⟩ dX11_mixPlansOf_41 ?_
  refine J_lstore [(0, .ref (r 0)), (1, .long h0), (3, .int (nI k)), (4, .long (31 * (31 * (31 * h0 + ((qWrite (nI k) (nI 0) σ).toInt64)) + ((qWrite (nI k) (nI 1) σ).toInt64)) + ((qPart (nI 0) (nI k) (nI 0) σ).toInt64)))] dX11_mixPlansOf_44 (by decide) rfl rfl rfl ?_
  refine J_lload dX11_mixPlansOf_46 rfl ?_
  refine J_aload_n dX11_mixPlansOf_48 rfl rfl ?_
  refine J_iconst (v := nI 0) dX11_mixPlansOf_49 (by decide) ?_
  refine J_iload_n dX11_mixPlansOf_50 rfl rfl ?_
  refine J_iconst (v := nI 1) dX11_mixPlansOf_51 (by decide) ?_
  refine J_callV (wr := []) (As := [.int (nI 0), .int (nI k), .int (nI 1)]) (st := [.long (31 * (31 * (31 * h0 + ((qWrite (nI k) (nI 0) σ).toInt64)) + ((qWrite (nI k) (nI 1) σ).toInt64)) + ((qPart (nI 0) (nI k) (nI 0) σ).toInt64))]) 0 mv_X11_379 (c_X11_part r x921 lx921 σ hL hC_x921 (nI 0) (nI k) (nI 1)) cW_0 rfl rfl rfl (by decide) (Nat.le_of_ble_eq_true rfl) ⟨Nat.le_refl _, Nat.le_refl _⟩ dX11_mixPlansOf_52 (fun v_ w_ h_ => ?_)
  obtain ⟨x922, lx922, rfl, rfl, hC_x922⟩ := h_
  show J G "mixPlansOf" RX11 cX11_mixPlansOf 6 (some .long) 0 0 11 Q 0 0 55 [(0, .ref (r 0)), (1, .long h0), (3, .int (nI k)), (4, .long (31 * (31 * (31 * h0 + ((qWrite (nI k) (nI 0) σ).toInt64)) + ((qWrite (nI k) (nI 1) σ).toInt64)) + ((qPart (nI 0) (nI k) (nI 0) σ).toInt64)))] [.int (qPart (nI 0) (nI k) (nI 1) σ), .long (31 * (31 * (31 * h0 + ((qWrite (nI k) (nI 0) σ).toInt64)) + ((qWrite (nI k) (nI 1) σ).toInt64)) + ((qPart (nI 0) (nI k) (nI 0) σ).toInt64))] (cW G r x922 lx922)
  refine J_i2l dX11_mixPlansOf_55 ?_
  refine J_cSl [.long (31 * (31 * (31 * h0 + ((qWrite (nI k) (nI 0) σ).toInt64)) + ((qWrite (nI k) (nI 1) σ).toInt64)) + ((qPart (nI 0) (nI k) (nI 0) σ).toInt64)), .long ((qPart (nI 0) (nI k) (nI 1) σ).toInt64)] ms_X11_306 (c_X11_mix (cW G r x922 lx922) (31 * (31 * (31 * h0 + ((qWrite (nI k) (nI 0) σ).toInt64)) + ((qWrite (nI k) (nI 1) σ).toInt64)) + ((qPart (nI 0) (nI k) (nI 0) σ).toInt64)) ((qPart (nI 0) (nI k) (nI 1) σ).toInt64)) rfl rfl (by decide) (Nat.le_of_ble_eq_true rfl) ⟨Nat.le_refl _, Nat.le_refl _⟩ dX11_mixPlansOf_56 ?_
  refine J_lstore [(0, .ref (r 0)), (1, .long h0), (3, .int (nI k)), (4, .long (31 * (31 * (31 * (31 * h0 + ((qWrite (nI k) (nI 0) σ).toInt64)) + ((qWrite (nI k) (nI 1) σ).toInt64)) + ((qPart (nI 0) (nI k) (nI 0) σ).toInt64)) + ((qPart (nI 0) (nI k) (nI 1) σ).toInt64)))] dX11_mixPlansOf_59 (by decide) rfl rfl rfl ?_
  refine J_lload dX11_mixPlansOf_61 rfl ?_
  refine J_aload_n dX11_mixPlansOf_63 rfl rfl ?_
  refine J_iconst (v := nI 5) dX11_mixPlansOf_64 (by decide) ?_
  refine J_iload_n dX11_mixPlansOf_65 rfl rfl ?_
  refine J_iconst (v := nI 1) dX11_mixPlansOf_66 (by decide) ?_
  refine J_iconst (v := nI 0) dX11_mixPlansOf_67 (by decide) ?_
  refine J_callV (wr := []) (As := [.int (nI 5), .int (nI k), .int (nI 1), .int (nI 0)]) (st := [.long (31 * (31 * (31 * (31 * h0 + ((qWrite (nI k) (nI 0) σ).toInt64)) + ((qWrite (nI k) (nI 1) σ).toInt64)) + ((qPart (nI 0) (nI k) (nI 0) σ).toInt64)) + ((qPart (nI 0) (nI k) (nI 1) σ).toInt64))]) 0 mv_X11_382 (c_X11_march r x922 lx922 σ hL hC_x922 (nI 5) (nI k) (nI 1) (nI 0)) cW_0 rfl rfl rfl (by decide) (Nat.le_of_ble_eq_true rfl) ⟨Nat.le_refl _, Nat.le_refl _⟩ dX11_mixPlansOf_68 (fun v_ w_ h_ => ?_)
  obtain ⟨x923, lx923, rfl, rfl, hC_x923⟩ := h_
  show J G "mixPlansOf" RX11 cX11_mixPlansOf 6 (some .long) 0 0 11 Q 0 0 71 [(0, .ref (r 0)), (1, .long h0), (3, .int (nI k)), (4, .long (31 * (31 * (31 * (31 * h0 + ((qWrite (nI k) (nI 0) σ).toInt64)) + ((qWrite (nI k) (nI 1) σ).toInt64)) + ((qPart (nI 0) (nI k) (nI 0) σ).toInt64)) + ((qPart (nI 0) (nI k) (nI 1) σ).toInt64)))] [.long (qMarch (nI 5) (nI k) (nI 1) (nI 0) σ), .long (31 * (31 * (31 * (31 * h0 + ((qWrite (nI k) (nI 0) σ).toInt64)) + ((qWrite (nI k) (nI 1) σ).toInt64)) + ((qPart (nI 0) (nI k) (nI 0) σ).toInt64)) + ((qPart (nI 0) (nI k) (nI 1) σ).toInt64))] (cW G r x923 lx923)
  refine J_cSl [.long (31 * (31 * (31 * (31 * h0 + ((qWrite (nI k) (nI 0) σ).toInt64)) + ((qWrite (nI k) (nI 1) σ).toInt64)) + ((qPart (nI 0) (nI k) (nI 0) σ).toInt64)) + ((qPart (nI 0) (nI k) (nI 1) σ).toInt64)), .long (qMarch (nI 5) (nI k) (nI 1) (nI 0) σ)] ms_X11_306 (c_X11_mix (cW G r x923 lx923) (31 * (31 * (31 * (31 * h0 + ((qWrite (nI k) (nI 0) σ).toInt64)) + ((qWrite (nI k) (nI 1) σ).toInt64)) + ((qPart (nI 0) (nI k) (nI 0) σ).toInt64)) + ((qPart (nI 0) (nI k) (nI 1) σ).toInt64)) (qMarch (nI 5) (nI k) (nI 1) (nI 0) σ)) rfl rfl (by decide) (Nat.le_of_ble_eq_true rfl) ⟨Nat.le_refl _, Nat.le_refl _⟩ dX11_mixPlansOf_71 ?_
  refine J_lstore [(0, .ref (r 0)), (1, .long h0), (3, .int (nI k)), (4, .long (31 * (31 * (31 * (31 * (31 * h0 + ((qWrite (nI k) (nI 0) σ).toInt64)) + ((qWrite (nI k) (nI 1) σ).toInt64)) + ((qPart (nI 0) (nI k) (nI 0) σ).toInt64)) + ((qPart (nI 0) (nI k) (nI 1) σ).toInt64)) + (qMarch (nI 5) (nI k) (nI 1) (nI 0) σ)))] dX11_mixPlansOf_74 (by decide) rfl rfl rfl ?_
  refine J_lload dX11_mixPlansOf_76 rfl ?_
  refine J_aload_n dX11_mixPlansOf_78 rfl rfl ?_
  refine J_iconst (v := nI 5) dX11_mixPlansOf_79 (by decide) ?_
  refine J_iload_n dX11_mixPlansOf_80 rfl rfl ?_
  refine J_iconst (v := nI 1) dX11_mixPlansOf_81 (by decide) ?_
  refine J_iconst (v := nI 1) dX11_mixPlansOf_82 (by decide) ?_
  refine J_callV (wr := []) (As := [.int (nI 5), .int (nI k), .int (nI 1), .int (nI 1)]) (st := [.long (31 * (31 * (31 * (31 * (31 * h0 + ((qWrite (nI k) (nI 0) σ).toInt64)) + ((qWrite (nI k) (nI 1) σ).toInt64)) + ((qPart (nI 0) (nI k) (nI 0) σ).toInt64)) + ((qPart (nI 0) (nI k) (nI 1) σ).toInt64)) + (qMarch (nI 5) (nI k) (nI 1) (nI 0) σ))]) 0 mv_X11_382 (c_X11_march r x923 lx923 σ hL hC_x923 (nI 5) (nI k) (nI 1) (nI 1)) cW_0 rfl rfl rfl (by decide) (Nat.le_of_ble_eq_true rfl) ⟨Nat.le_refl _, Nat.le_refl _⟩ dX11_mixPlansOf_83 (fun v_ w_ h_ => ?_)
  obtain ⟨x924, lx924, rfl, rfl, hC_x924⟩ := h_
  show J G "mixPlansOf" RX11 cX11_mixPlansOf 6 (some .long) 0 0 11 Q 0 0 86 [(0, .ref (r 0)), (1, .long h0), (3, .int (nI k)), (4, .long (31 * (31 * (31 * (31 * (31 * h0 + ((qWrite (nI k) (nI 0) σ).toInt64)) + ((qWrite (nI k) (nI 1) σ).toInt64)) + ((qPart (nI 0) (nI k) (nI 0) σ).toInt64)) + ((qPart (nI 0) (nI k) (nI 1) σ).toInt64)) + (qMarch (nI 5) (nI k) (nI 1) (nI 0) σ)))] [.long (qMarch (nI 5) (nI k) (nI 1) (nI 1) σ), .long (31 * (31 * (31 * (31 * (31 * h0 + ((qWrite (nI k) (nI 0) σ).toInt64)) + ((qWrite (nI k) (nI 1) σ).toInt64)) + ((qPart (nI 0) (nI k) (nI 0) σ).toInt64)) + ((qPart (nI 0) (nI k) (nI 1) σ).toInt64)) + (qMarch (nI 5) (nI k) (nI 1) (nI 0) σ))] (cW G r x924 lx924)
  refine J_cSl [.long (31 * (31 * (31 * (31 * (31 * h0 + ((qWrite (nI k) (nI 0) σ).toInt64)) + ((qWrite (nI k) (nI 1) σ).toInt64)) + ((qPart (nI 0) (nI k) (nI 0) σ).toInt64)) + ((qPart (nI 0) (nI k) (nI 1) σ).toInt64)) + (qMarch (nI 5) (nI k) (nI 1) (nI 0) σ)), .long (qMarch (nI 5) (nI k) (nI 1) (nI 1) σ)] ms_X11_306 (c_X11_mix (cW G r x924 lx924) (31 * (31 * (31 * (31 * (31 * h0 + ((qWrite (nI k) (nI 0) σ).toInt64)) + ((qWrite (nI k) (nI 1) σ).toInt64)) + ((qPart (nI 0) (nI k) (nI 0) σ).toInt64)) + ((qPart (nI 0) (nI k) (nI 1) σ).toInt64)) + (qMarch (nI 5) (nI k) (nI 1) (nI 0) σ)) (qMarch (nI 5) (nI k) (nI 1) (nI 1) σ)) rfl rfl (by decide) (Nat.le_of_ble_eq_true rfl) ⟨Nat.le_refl _, Nat.le_refl _⟩ dX11_mixPlansOf_86 ?_
  refine J_lstore [(0, .ref (r 0)), (1, .long h0), (3, .int (nI k)), (4, .long (31 * (31 * (31 * (31 * (31 * (31 * h0 + ((qWrite (nI k) (nI 0) σ).toInt64)) + ((qWrite (nI k) (nI 1) σ).toInt64)) + ((qPart (nI 0) (nI k) (nI 0) σ).toInt64)) + ((qPart (nI 0) (nI k) (nI 1) σ).toInt64)) + (qMarch (nI 5) (nI k) (nI 1) (nI 0) σ)) + (qMarch (nI 5) (nI k) (nI 1) (nI 1) σ)))] dX11_mixPlansOf_89 (by decide) rfl rfl rfl ?_
  refine J_lload dX11_mixPlansOf_91 rfl ?_
  refine J_aload_n dX11_mixPlansOf_93 rfl rfl ?_
  refine J_bipush (v := nI 7) dX11_mixPlansOf_94 (by decide) ?_
  refine J_bipush (v := nI 9) dX11_mixPlansOf_96 (by decide) ?_
  refine J_iload_n dX11_mixPlansOf_98 rfl rfl ?_
  refine J_callV (wr := []) (As := [.int (nI 7), .int (nI 9), .int (nI k)]) (st := [.long (31 * (31 * (31 * (31 * (31 * (31 * h0 + ((qWrite (nI k) (nI 0) σ).toInt64)) + ((qWrite (nI k) (nI 1) σ).toInt64)) + ((qPart (nI 0) (nI k) (nI 0) σ).toInt64)) + ((qPart (nI 0) (nI k) (nI 1) σ).toInt64)) + (qMarch (nI 5) (nI k) (nI 1) (nI 0) σ)) + (qMarch (nI 5) (nI k) (nI 1) (nI 1) σ))]) 0 mv_X11_385 (c_X11_wills r x924 lx924 σ hL hC_x924 (nI 7) (nI 9) (nI k)) cW_0 rfl rfl rfl (by decide) (Nat.le_of_ble_eq_true rfl) ⟨Nat.le_refl _, Nat.le_refl _⟩ dX11_mixPlansOf_99 (fun v_ w_ h_ => ?_)
  obtain ⟨x925, lx925, rfl, rfl, hC_x925⟩ := h_
  show J G "mixPlansOf" RX11 cX11_mixPlansOf 6 (some .long) 0 0 11 Q 0 0 102 [(0, .ref (r 0)), (1, .long h0), (3, .int (nI k)), (4, .long (31 * (31 * (31 * (31 * (31 * (31 * h0 + ((qWrite (nI k) (nI 0) σ).toInt64)) + ((qWrite (nI k) (nI 1) σ).toInt64)) + ((qPart (nI 0) (nI k) (nI 0) σ).toInt64)) + ((qPart (nI 0) (nI k) (nI 1) σ).toInt64)) + (qMarch (nI 5) (nI k) (nI 1) (nI 0) σ)) + (qMarch (nI 5) (nI k) (nI 1) (nI 1) σ)))] [.int (qWills (nI 7) (nI 9) (nI k) σ), .long (31 * (31 * (31 * (31 * (31 * (31 * h0 + ((qWrite (nI k) (nI 0) σ).toInt64)) + ((qWrite (nI k) (nI 1) σ).toInt64)) + ((qPart (nI 0) (nI k) (nI 0) σ).toInt64)) + ((qPart (nI 0) (nI k) (nI 1) σ).toInt64)) + (qMarch (nI 5) (nI k) (nI 1) (nI 0) σ)) + (qMarch (nI 5) (nI k) (nI 1) (nI 1) σ))] (cW G r x925 lx925)
  refine J_i2l dX11_mixPlansOf_102 ?_
  refine J_cSl [.long (31 * (31 * (31 * (31 * (31 * (31 * h0 + ((qWrite (nI k) (nI 0) σ).toInt64)) + ((qWrite (nI k) (nI 1) σ).toInt64)) + ((qPart (nI 0) (nI k) (nI 0) σ).toInt64)) + ((qPart (nI 0) (nI k) (nI 1) σ).toInt64)) + (qMarch (nI 5) (nI k) (nI 1) (nI 0) σ)) + (qMarch (nI 5) (nI k) (nI 1) (nI 1) σ)), .long ((qWills (nI 7) (nI 9) (nI k) σ).toInt64)] ms_X11_306 (c_X11_mix (cW G r x925 lx925) (31 * (31 * (31 * (31 * (31 * (31 * h0 + ((qWrite (nI k) (nI 0) σ).toInt64)) + ((qWrite (nI k) (nI 1) σ).toInt64)) + ((qPart (nI 0) (nI k) (nI 0) σ).toInt64)) + ((qPart (nI 0) (nI k) (nI 1) σ).toInt64)) + (qMarch (nI 5) (nI k) (nI 1) (nI 0) σ)) + (qMarch (nI 5) (nI k) (nI 1) (nI 1) σ)) ((qWills (nI 7) (nI 9) (nI k) σ).toInt64)) rfl rfl (by decide) (Nat.le_of_ble_eq_true rfl) ⟨Nat.le_refl _, Nat.le_refl _⟩ dX11_mixPlansOf_103 ?_
  exact J_lret dX11_mixPlansOf_106 rfl rfl rfl (hq x925 lx925 _ rfl hC_x925)
theorem c_X11_mixPlansOf {G : GT} (r : Nat → Nat) (s : St) (l : Nat → Int64) (σ : St) (hL : LI σ) (hC : CI σ s) (h0 : Int64) (k : Nat) : Ct G yX11_mixPlansOf cX11_mixPlansOf 6 (some .long) 0 0 11 [.ref (r 0), .long h0, .int (nI k)] (cW G r s l) (QCL G r (dPlan σ h0 k) σ) := Ct.of rfl (Nat.le_of_ble_eq_true rfl) (j_X11_mixPlansOf r s l σ hL hC h0 k (fun x lx a h1 h2 => ⟨x, lx, by rw [h1], rfl, h2⟩))
set_option maxRecDepth 100000 in
set_option maxHeartbeats 1000000 in
theorem j_X11_digest {G : GT} (r : Nat → Nat) (s : St) (l : Nat → Int64) (σ : St) (hL : LI σ) (hC : CI σ s)  {Q : Option Value → va_W → Prop} (hq : ∀ (x : St) (lx : Nat → Int64) (a : Int64), a = qDigest σ → CI σ x → Q (some (.long a)) (cW G r x lx)) : J G "digest" RX11 cX11_digest 5 (some .long) 0 0 12 Q 0 0 0 [(0, .ref (r 0))] [] (cW G r s l) := by
  have hn8 := nH_le σ
  have hm6 := nE_le σ
  have hc15 := nC_le σ
  refine J_ldc2 dX11_digest_0 k_X11_301 ?_
  refine J_lstore_n [(0, .ref (r 0)), (1, .long (17))] dX11_digest_3 rfl (by decide) rfl rfl rfl ?_
  refine J_iconst (v := nI 0) dX11_digest_4 (by decide) ?_
  refine J_istore_n [(0, .ref (r 0)), (1, .long (17)), (3, .int (nI 0))] dX11_digest_5 rfl (by decide) rfl rfl rfl ?_
  refine J_iload_n dX11_digest_6 rfl rfl ?_
  refine J_bipush (v := nI 7) dX11_digest_7 (by decide) ?_
  refine J_icmp_gt 29 dX11_digest_9 (by decide) (fun c => absurd c (by decide)) (fun _ => ?_)
  refine J_lload_n dX11_digest_12 rfl rfl ?_
  refine J_aload_n dX11_digest_13 rfl rfl ?_
  refine J_iload_n dX11_digest_14 rfl rfl ?_
  refine J_callV (wr := []) (As := [.int (nI 0)]) (st := [.long (17)]) 0 mv_X11_303 (c_X11_count r s l σ hL hC (nI 0)) cW_0 rfl rfl rfl (by decide) (Nat.le_of_ble_eq_true rfl) ⟨Nat.le_refl _, Nat.le_refl _⟩ dX11_digest_15 (fun v_ w_ h_ => ?_)
  obtain ⟨x926, lx926, rfl, rfl, hC_x926⟩ := h_
  show J G "digest" RX11 cX11_digest 5 (some .long) 0 0 12 Q 0 0 18 [(0, .ref (r 0)), (1, .long (17)), (3, .int (nI 0))] [.int (qCount (nI 0) σ), .long (17)] (cW G r x926 lx926)
  refine J_i2l dX11_digest_18 ?_
  refine J_cSl [.long (17), .long ((qCount (nI 0) σ).toInt64)] ms_X11_306 (c_X11_mix (cW G r x926 lx926) (17) ((qCount (nI 0) σ).toInt64)) rfl rfl (by decide) (Nat.le_of_ble_eq_true rfl) ⟨Nat.le_refl _, Nat.le_refl _⟩ dX11_digest_19 ?_
  refine J_lstore_n [(0, .ref (r 0)), (1, .long (31 * (17) + ((qCount (nI 0) σ).toInt64))), (3, .int (nI 0))] dX11_digest_22 rfl (by decide) rfl rfl rfl ?_
  refine J_iincN [(0, .ref (r 0)), (1, .long (31 * (17) + ((qCount (nI 0) σ).toInt64))), (3, .int (nI 1))] dX11_digest_23 rfl (by decide) rfl rfl rfl ?_
  refine J_goto 6 dX11_digest_26 (by decide) ?_
  refine J_iload_n dX11_digest_6 rfl rfl ?_
  refine J_bipush (v := nI 7) dX11_digest_7 (by decide) ?_
  refine J_icmp_gt 29 dX11_digest_9 (by decide) (fun c => absurd c (by decide)) (fun _ => ?_)
  refine J_lload_n dX11_digest_12 rfl rfl ?_
  refine J_aload_n dX11_digest_13 rfl rfl ?_
  refine J_iload_n dX11_digest_14 rfl rfl ?_
  refine J_callV (wr := []) (As := [.int (nI 1)]) (st := [.long (31 * (17) + ((qCount (nI 0) σ).toInt64))]) 0 mv_X11_303 (c_X11_count r x926 lx926 σ hL hC_x926 (nI 1)) cW_0 rfl rfl rfl (by decide) (Nat.le_of_ble_eq_true rfl) ⟨Nat.le_refl _, Nat.le_refl _⟩ dX11_digest_15 (fun v_ w_ h_ => ?_)
  obtain ⟨x927, lx927, rfl, rfl, hC_x927⟩ := h_
  show J G "digest" RX11 cX11_digest 5 (some .long) 0 0 12 Q 0 0 18 [(0, .ref (r 0)), (1, .long (31 * (17) + ((qCount (nI 0) σ).toInt64))), (3, .int (nI 1))] [.int (qCount (nI 1) σ), .long (31 * (17) + ((qCount (nI 0) σ).toInt64))] (cW G r x927 lx927)
  refine J_i2l dX11_digest_18 ?_
  refine J_cSl [.long (31 * (17) + ((qCount (nI 0) σ).toInt64)), .long ((qCount (nI 1) σ).toInt64)] ms_X11_306 (c_X11_mix (cW G r x927 lx927) (31 * (17) + ((qCount (nI 0) σ).toInt64)) ((qCount (nI 1) σ).toInt64)) rfl rfl (by decide) (Nat.le_of_ble_eq_true rfl) ⟨Nat.le_refl _, Nat.le_refl _⟩ dX11_digest_19 ?_
  refine J_lstore_n [(0, .ref (r 0)), (1, .long (31 * (31 * (17) + ((qCount (nI 0) σ).toInt64)) + ((qCount (nI 1) σ).toInt64))), (3, .int (nI 1))] dX11_digest_22 rfl (by decide) rfl rfl rfl ?_
  refine J_iincN [(0, .ref (r 0)), (1, .long (31 * (31 * (17) + ((qCount (nI 0) σ).toInt64)) + ((qCount (nI 1) σ).toInt64))), (3, .int (nI 2))] dX11_digest_23 rfl (by decide) rfl rfl rfl ?_
  refine J_goto 6 dX11_digest_26 (by decide) ?_
  refine J_iload_n dX11_digest_6 rfl rfl ?_
  refine J_bipush (v := nI 7) dX11_digest_7 (by decide) ?_
  refine J_icmp_gt 29 dX11_digest_9 (by decide) (fun c => absurd c (by decide)) (fun _ => ?_)
  refine J_lload_n dX11_digest_12 rfl rfl ?_
  refine J_aload_n dX11_digest_13 rfl rfl ?_
  refine J_iload_n dX11_digest_14 rfl rfl ?_
  refine J_callV (wr := []) (As := [.int (nI 2)]) (st := [.long (31 * (31 * (17) + ((qCount (nI 0) σ).toInt64)) + ((qCount (nI 1) σ).toInt64))]) 0 mv_X11_303 (c_X11_count r x927 lx927 σ hL hC_x927 (nI 2)) cW_0 rfl rfl rfl (by decide) (Nat.le_of_ble_eq_true rfl) ⟨Nat.le_refl _, Nat.le_refl _⟩ dX11_digest_15 (fun v_ w_ h_ => ?_)
  obtain ⟨x928, lx928, rfl, rfl, hC_x928⟩ := h_
  show J G "digest" RX11 cX11_digest 5 (some .long) 0 0 12 Q 0 0 18 [(0, .ref (r 0)), (1, .long (31 * (31 * (17) + ((qCount (nI 0) σ).toInt64)) + ((qCount (nI 1) σ).toInt64))), (3, .int (nI 2))] [.int (qCount (nI 2) σ), .long (31 * (31 * (17) + ((qCount (nI 0) σ).toInt64)) + ((qCount (nI 1) σ).toInt64))] (cW G r x928 lx928)
  refine J_i2l dX11_digest_18 ?_
  refine J_cSl [.long (31 * (31 * (17) + ((qCount (nI 0) σ).toInt64)) + ((qCount (nI 1) σ).toInt64)), .long ((qCount (nI 2) σ).toInt64)] ms_X11_306 (c_X11_mix (cW G r x928 lx928) (31 * (31 * (17) + ((qCount (nI 0) σ).toInt64)) + ((qCount (nI 1) σ).toInt64)) ((qCount (nI 2) σ).toInt64)) rfl rfl (by decide) (Nat.le_of_ble_eq_true rfl) ⟨Nat.le_refl _, Nat.le_refl _⟩ dX11_digest_19 ?_
  refine J_lstore_n [(0, .ref (r 0)), (1, .long (31 * (31 * (31 * (17) + ((qCount (nI 0) σ).toInt64)) + ((qCount (nI 1) σ).toInt64)) + ((qCount (nI 2) σ).toInt64))), (3, .int (nI 2))] dX11_digest_22 rfl (by decide) rfl rfl rfl ?_
  refine J_iincN [(0, .ref (r 0)), (1, .long (31 * (31 * (31 * (17) + ((qCount (nI 0) σ).toInt64)) + ((qCount (nI 1) σ).toInt64)) + ((qCount (nI 2) σ).toInt64))), (3, .int (nI 3))] dX11_digest_23 rfl (by decide) rfl rfl rfl ?_
  refine J_goto 6 dX11_digest_26 (by decide) ?_
  refine J_iload_n dX11_digest_6 rfl rfl ?_
  refine J_bipush (v := nI 7) dX11_digest_7 (by decide) ?_
  refine J_icmp_gt 29 dX11_digest_9 (by decide) (fun c => absurd c (by decide)) (fun _ => ?_)
  refine J_lload_n dX11_digest_12 rfl rfl ?_
  refine J_aload_n dX11_digest_13 rfl rfl ?_
  refine J_iload_n dX11_digest_14 rfl rfl ?_
  refine J_callV (wr := []) (As := [.int (nI 3)]) (st := [.long (31 * (31 * (31 * (17) + ((qCount (nI 0) σ).toInt64)) + ((qCount (nI 1) σ).toInt64)) + ((qCount (nI 2) σ).toInt64))]) 0 mv_X11_303 (c_X11_count r x928 lx928 σ hL hC_x928 (nI 3)) cW_0 rfl rfl rfl (by decide) (Nat.le_of_ble_eq_true rfl) ⟨Nat.le_refl _, Nat.le_refl _⟩ dX11_digest_15 (fun v_ w_ h_ => ?_)
  obtain ⟨x929, lx929, rfl, rfl, hC_x929⟩ := h_
  show J G "digest" RX11 cX11_digest 5 (some .long) 0 0 12 Q 0 0 18 [(0, .ref (r 0)), (1, .long (31 * (31 * (31 * (17) + ((qCount (nI 0) σ).toInt64)) + ((qCount (nI 1) σ).toInt64)) + ((qCount (nI 2) σ).toInt64))), (3, .int (nI 3))] [.int (qCount (nI 3) σ), .long (31 * (31 * (31 * (17) + ((qCount (nI 0) σ).toInt64)) + ((qCount (nI 1) σ).toInt64)) + ((qCount (nI 2) σ).toInt64))] (cW G r x929 lx929)
  refine J_i2l dX11_digest_18 ?_
  refine J_cSl [.long (31 * (31 * (31 * (17) + ((qCount (nI 0) σ).toInt64)) + ((qCount (nI 1) σ).toInt64)) + ((qCount (nI 2) σ).toInt64)), .long ((qCount (nI 3) σ).toInt64)] ms_X11_306 (c_X11_mix (cW G r x929 lx929) (31 * (31 * (31 * (17) + ((qCount (nI 0) σ).toInt64)) + ((qCount (nI 1) σ).toInt64)) + ((qCount (nI 2) σ).toInt64)) ((qCount (nI 3) σ).toInt64)) rfl rfl (by decide) (Nat.le_of_ble_eq_true rfl) ⟨Nat.le_refl _, Nat.le_refl _⟩ dX11_digest_19 ?_
  refine J_lstore_n [(0, .ref (r 0)), (1, .long (31 * (31 * (31 * (31 * (17) + ((qCount (nI 0) σ).toInt64)) + ((qCount (nI 1) σ).toInt64)) + ((qCount (nI 2) σ).toInt64)) + ((qCount (nI 3) σ).toInt64))), (3, .int (nI 3))] dX11_digest_22 rfl (by decide) rfl rfl rfl ?_
  refine J_iincN [(0, .ref (r 0)), (1, .long (31 * (31 * (31 * (31 * (17) + ((qCount (nI 0) σ).toInt64)) + ((qCount (nI 1) σ).toInt64)) + ((qCount (nI 2) σ).toInt64)) + ((qCount (nI 3) σ).toInt64))), (3, .int (nI 4))] dX11_digest_23 rfl (by decide) rfl rfl rfl ?_
  refine J_goto 6 dX11_digest_26 (by decide) ?_
  refine J_iload_n dX11_digest_6 rfl rfl ?_
  refine J_bipush (v := nI 7) dX11_digest_7 (by decide) ?_
  refine J_icmp_gt 29 dX11_digest_9 (by decide) (fun c => absurd c (by decide)) (fun _ => ?_)
  refine J_lload_n dX11_digest_12 rfl rfl ?_
  refine J_aload_n dX11_digest_13 rfl rfl ?_
  refine J_iload_n dX11_digest_14 rfl rfl ?_
  refine J_callV (wr := []) (As := [.int (nI 4)]) (st := [.long (31 * (31 * (31 * (31 * (17) + ((qCount (nI 0) σ).toInt64)) + ((qCount (nI 1) σ).toInt64)) + ((qCount (nI 2) σ).toInt64)) + ((qCount (nI 3) σ).toInt64))]) 0 mv_X11_303 (c_X11_count r x929 lx929 σ hL hC_x929 (nI 4)) cW_0 rfl rfl rfl (by decide) (Nat.le_of_ble_eq_true rfl) ⟨Nat.le_refl _, Nat.le_refl _⟩ dX11_digest_15 (fun v_ w_ h_ => ?_)
  obtain ⟨x930, lx930, rfl, rfl, hC_x930⟩ := h_
  show J G "digest" RX11 cX11_digest 5 (some .long) 0 0 12 Q 0 0 18 [(0, .ref (r 0)), (1, .long (31 * (31 * (31 * (31 * (17) + ((qCount (nI 0) σ).toInt64)) + ((qCount (nI 1) σ).toInt64)) + ((qCount (nI 2) σ).toInt64)) + ((qCount (nI 3) σ).toInt64))), (3, .int (nI 4))] [.int (qCount (nI 4) σ), .long (31 * (31 * (31 * (31 * (17) + ((qCount (nI 0) σ).toInt64)) + ((qCount (nI 1) σ).toInt64)) + ((qCount (nI 2) σ).toInt64)) + ((qCount (nI 3) σ).toInt64))] (cW G r x930 lx930)
  refine J_i2l dX11_digest_18 ?_
  refine J_cSl [.long (31 * (31 * (31 * (31 * (17) + ((qCount (nI 0) σ).toInt64)) + ((qCount (nI 1) σ).toInt64)) + ((qCount (nI 2) σ).toInt64)) + ((qCount (nI 3) σ).toInt64)), .long ((qCount (nI 4) σ).toInt64)] ms_X11_306 (c_X11_mix (cW G r x930 lx930) (31 * (31 * (31 * (31 * (17) + ((qCount (nI 0) σ).toInt64)) + ((qCount (nI 1) σ).toInt64)) + ((qCount (nI 2) σ).toInt64)) + ((qCount (nI 3) σ).toInt64)) ((qCount (nI 4) σ).toInt64)) rfl rfl (by decide) (Nat.le_of_ble_eq_true rfl) ⟨Nat.le_refl _, Nat.le_refl _⟩ dX11_digest_19 ?_
  refine J_lstore_n [(0, .ref (r 0)), (1, .long (31 * (31 * (31 * (31 * (31 * (17) + ((qCount (nI 0) σ).toInt64)) + ((qCount (nI 1) σ).toInt64)) + ((qCount (nI 2) σ).toInt64)) + ((qCount (nI 3) σ).toInt64)) + ((qCount (nI 4) σ).toInt64))), (3, .int (nI 4))] dX11_digest_22 rfl (by decide) rfl rfl rfl ?_
  refine J_iincN [(0, .ref (r 0)), (1, .long (31 * (31 * (31 * (31 * (31 * (17) + ((qCount (nI 0) σ).toInt64)) + ((qCount (nI 1) σ).toInt64)) + ((qCount (nI 2) σ).toInt64)) + ((qCount (nI 3) σ).toInt64)) + ((qCount (nI 4) σ).toInt64))), (3, .int (nI 5))] dX11_digest_23 rfl (by decide) rfl rfl rfl ?_
  refine J_goto 6 dX11_digest_26 (by decide) ?_
  refine J_iload_n dX11_digest_6 rfl rfl ?_
  refine J_bipush (v := nI 7) dX11_digest_7 (by decide) ?_
  refine J_icmp_gt 29 dX11_digest_9 (by decide) (fun c => absurd c (by decide)) (fun _ => ?_)
  refine J_lload_n dX11_digest_12 rfl rfl ?_
  refine J_aload_n dX11_digest_13 rfl rfl ?_
  refine J_iload_n dX11_digest_14 rfl rfl ?_
  refine J_callV (wr := []) (As := [.int (nI 5)]) (st := [.long (31 * (31 * (31 * (31 * (31 * (17) + ((qCount (nI 0) σ).toInt64)) + ((qCount (nI 1) σ).toInt64)) + ((qCount (nI 2) σ).toInt64)) + ((qCount (nI 3) σ).toInt64)) + ((qCount (nI 4) σ).toInt64))]) 0 mv_X11_303 (c_X11_count r x930 lx930 σ hL hC_x930 (nI 5)) cW_0 rfl rfl rfl (by decide) (Nat.le_of_ble_eq_true rfl) ⟨Nat.le_refl _, Nat.le_refl _⟩ dX11_digest_15 (fun v_ w_ h_ => ?_)
  obtain ⟨x931, lx931, rfl, rfl, hC_x931⟩ := h_
  show J G "digest" RX11 cX11_digest 5 (some .long) 0 0 12 Q 0 0 18 [(0, .ref (r 0)), (1, .long (31 * (31 * (31 * (31 * (31 * (17) + ((qCount (nI 0) σ).toInt64)) + ((qCount (nI 1) σ).toInt64)) + ((qCount (nI 2) σ).toInt64)) + ((qCount (nI 3) σ).toInt64)) + ((qCount (nI 4) σ).toInt64))), (3, .int (nI 5))] [.int (qCount (nI 5) σ), .long (31 * (31 * (31 * (31 * (31 * (17) + ((qCount (nI 0) σ).toInt64)) + ((qCount (nI 1) σ).toInt64)) + ((qCount (nI 2) σ).toInt64)) + ((qCount (nI 3) σ).toInt64)) + ((qCount (nI 4) σ).toInt64))] (cW G r x931 lx931)
  refine J_i2l dX11_digest_18 ?_
  refine J_cSl [.long (31 * (31 * (31 * (31 * (31 * (17) + ((qCount (nI 0) σ).toInt64)) + ((qCount (nI 1) σ).toInt64)) + ((qCount (nI 2) σ).toInt64)) + ((qCount (nI 3) σ).toInt64)) + ((qCount (nI 4) σ).toInt64)), .long ((qCount (nI 5) σ).toInt64)] ms_X11_306 (c_X11_mix (cW G r x931 lx931) (31 * (31 * (31 * (31 * (31 * (17) + ((qCount (nI 0) σ).toInt64)) + ((qCount (nI 1) σ).toInt64)) + ((qCount (nI 2) σ).toInt64)) + ((qCount (nI 3) σ).toInt64)) + ((qCount (nI 4) σ).toInt64)) ((qCount (nI 5) σ).toInt64)) rfl rfl (by decide) (Nat.le_of_ble_eq_true rfl) ⟨Nat.le_refl _, Nat.le_refl _⟩ dX11_digest_19 ?_
  refine J_lstore_n [(0, .ref (r 0)), (1, .long (31 * (31 * (31 * (31 * (31 * (31 * (17) + ((qCount (nI 0) σ).toInt64)) + ((qCount (nI 1) σ).toInt64)) + ((qCount (nI 2) σ).toInt64)) + ((qCount (nI 3) σ).toInt64)) + ((qCount (nI 4) σ).toInt64)) + ((qCount (nI 5) σ).toInt64))), (3, .int (nI 5))] dX11_digest_22 rfl (by decide) rfl rfl rfl ?_
  refine J_iincN [(0, .ref (r 0)), (1, .long (31 * (31 * (31 * (31 * (31 * (31 * (17) + ((qCount (nI 0) σ).toInt64)) + ((qCount (nI 1) σ).toInt64)) + ((qCount (nI 2) σ).toInt64)) + ((qCount (nI 3) σ).toInt64)) + ((qCount (nI 4) σ).toInt64)) + ((qCount (nI 5) σ).toInt64))), (3, .int (nI 6))] dX11_digest_23 rfl (by decide) rfl rfl rfl ?_
  refine J_goto 6 dX11_digest_26 (by decide) ?_
  refine J_iload_n dX11_digest_6 rfl rfl ?_
  refine J_bipush (v := nI 7) dX11_digest_7 (by decide) ?_
  refine J_icmp_gt 29 dX11_digest_9 (by decide) (fun c => absurd c (by decide)) (fun _ => ?_)
  refine J_lload_n dX11_digest_12 rfl rfl ?_
  refine J_aload_n dX11_digest_13 rfl rfl ?_
  refine J_iload_n dX11_digest_14 rfl rfl ?_
  refine J_callV (wr := []) (As := [.int (nI 6)]) (st := [.long (31 * (31 * (31 * (31 * (31 * (31 * (17) + ((qCount (nI 0) σ).toInt64)) + ((qCount (nI 1) σ).toInt64)) + ((qCount (nI 2) σ).toInt64)) + ((qCount (nI 3) σ).toInt64)) + ((qCount (nI 4) σ).toInt64)) + ((qCount (nI 5) σ).toInt64))]) 0 mv_X11_303 (c_X11_count r x931 lx931 σ hL hC_x931 (nI 6)) cW_0 rfl rfl rfl (by decide) (Nat.le_of_ble_eq_true rfl) ⟨Nat.le_refl _, Nat.le_refl _⟩ dX11_digest_15 (fun v_ w_ h_ => ?_)
  obtain ⟨x932, lx932, rfl, rfl, hC_x932⟩ := h_
  show J G "digest" RX11 cX11_digest 5 (some .long) 0 0 12 Q 0 0 18 [(0, .ref (r 0)), (1, .long (31 * (31 * (31 * (31 * (31 * (31 * (17) + ((qCount (nI 0) σ).toInt64)) + ((qCount (nI 1) σ).toInt64)) + ((qCount (nI 2) σ).toInt64)) + ((qCount (nI 3) σ).toInt64)) + ((qCount (nI 4) σ).toInt64)) + ((qCount (nI 5) σ).toInt64))), (3, .int (nI 6))] [.int (qCount (nI 6) σ), .long (31 * (31 * (31 * (31 * (31 * (31 * (17) + ((qCount (nI 0) σ).toInt64)) + ((qCount (nI 1) σ).toInt64)) + ((qCount (nI 2) σ).toInt64)) + ((qCount (nI 3) σ).toInt64)) + ((qCount (nI 4) σ).toInt64)) + ((qCount (nI 5) σ).toInt64))] (cW G r x932 lx932)
  refine J_i2l dX11_digest_18 ?_
  refine J_cSl [.long (31 * (31 * (31 * (31 * (31 * (31 * (17) + ((qCount (nI 0) σ).toInt64)) + ((qCount (nI 1) σ).toInt64)) + ((qCount (nI 2) σ).toInt64)) + ((qCount (nI 3) σ).toInt64)) + ((qCount (nI 4) σ).toInt64)) + ((qCount (nI 5) σ).toInt64)), .long ((qCount (nI 6) σ).toInt64)] ms_X11_306 (c_X11_mix (cW G r x932 lx932) (31 * (31 * (31 * (31 * (31 * (31 * (17) + ((qCount (nI 0) σ).toInt64)) + ((qCount (nI 1) σ).toInt64)) + ((qCount (nI 2) σ).toInt64)) + ((qCount (nI 3) σ).toInt64)) + ((qCount (nI 4) σ).toInt64)) + ((qCount (nI 5) σ).toInt64)) ((qCount (nI 6) σ).toInt64)) rfl rfl (by decide) (Nat.le_of_ble_eq_true rfl) ⟨Nat.le_refl _, Nat.le_refl _⟩ dX11_digest_19 ?_
  refine J_lstore_n [(0, .ref (r 0)), (1, .long (31 * (31 * (31 * (31 * (31 * (31 * (31 * (17) + ((qCount (nI 0) σ).toInt64)) + ((qCount (nI 1) σ).toInt64)) + ((qCount (nI 2) σ).toInt64)) + ((qCount (nI 3) σ).toInt64)) + ((qCount (nI 4) σ).toInt64)) + ((qCount (nI 5) σ).toInt64)) + ((qCount (nI 6) σ).toInt64))), (3, .int (nI 6))] dX11_digest_22 rfl (by decide) rfl rfl rfl ?_
  refine J_iincN [(0, .ref (r 0)), (1, .long (31 * (31 * (31 * (31 * (31 * (31 * (31 * (17) + ((qCount (nI 0) σ).toInt64)) + ((qCount (nI 1) σ).toInt64)) + ((qCount (nI 2) σ).toInt64)) + ((qCount (nI 3) σ).toInt64)) + ((qCount (nI 4) σ).toInt64)) + ((qCount (nI 5) σ).toInt64)) + ((qCount (nI 6) σ).toInt64))), (3, .int (nI 7))] dX11_digest_23 rfl (by decide) rfl rfl rfl ?_
  refine J_goto 6 dX11_digest_26 (by decide) ?_
  refine J_iload_n dX11_digest_6 rfl rfl ?_
  refine J_bipush (v := nI 7) dX11_digest_7 (by decide) ?_
  refine J_icmp_gt 29 dX11_digest_9 (by decide) (fun c => absurd c (by decide)) (fun _ => ?_)
  refine J_lload_n dX11_digest_12 rfl rfl ?_
  refine J_aload_n dX11_digest_13 rfl rfl ?_
  refine J_iload_n dX11_digest_14 rfl rfl ?_
  refine J_callV (wr := []) (As := [.int (nI 7)]) (st := [.long (31 * (31 * (31 * (31 * (31 * (31 * (31 * (17) + ((qCount (nI 0) σ).toInt64)) + ((qCount (nI 1) σ).toInt64)) + ((qCount (nI 2) σ).toInt64)) + ((qCount (nI 3) σ).toInt64)) + ((qCount (nI 4) σ).toInt64)) + ((qCount (nI 5) σ).toInt64)) + ((qCount (nI 6) σ).toInt64))]) 0 mv_X11_303 (c_X11_count r x932 lx932 σ hL hC_x932 (nI 7)) cW_0 rfl rfl rfl (by decide) (Nat.le_of_ble_eq_true rfl) ⟨Nat.le_refl _, Nat.le_refl _⟩ dX11_digest_15 (fun v_ w_ h_ => ?_)
  obtain ⟨x933, lx933, rfl, rfl, hC_x933⟩ := h_
  show J G "digest" RX11 cX11_digest 5 (some .long) 0 0 12 Q 0 0 18 [(0, .ref (r 0)), (1, .long (31 * (31 * (31 * (31 * (31 * (31 * (31 * (17) + ((qCount (nI 0) σ).toInt64)) + ((qCount (nI 1) σ).toInt64)) + ((qCount (nI 2) σ).toInt64)) + ((qCount (nI 3) σ).toInt64)) + ((qCount (nI 4) σ).toInt64)) + ((qCount (nI 5) σ).toInt64)) + ((qCount (nI 6) σ).toInt64))), (3, .int (nI 7))] [.int (qCount (nI 7) σ), .long (31 * (31 * (31 * (31 * (31 * (31 * (31 * (17) + ((qCount (nI 0) σ).toInt64)) + ((qCount (nI 1) σ).toInt64)) + ((qCount (nI 2) σ).toInt64)) + ((qCount (nI 3) σ).toInt64)) + ((qCount (nI 4) σ).toInt64)) + ((qCount (nI 5) σ).toInt64)) + ((qCount (nI 6) σ).toInt64))] (cW G r x933 lx933)
  refine J_i2l dX11_digest_18 ?_
  refine J_cSl [.long (31 * (31 * (31 * (31 * (31 * (31 * (31 * (17) + ((qCount (nI 0) σ).toInt64)) + ((qCount (nI 1) σ).toInt64)) + ((qCount (nI 2) σ).toInt64)) + ((qCount (nI 3) σ).toInt64)) + ((qCount (nI 4) σ).toInt64)) + ((qCount (nI 5) σ).toInt64)) + ((qCount (nI 6) σ).toInt64)), .long ((qCount (nI 7) σ).toInt64)] ms_X11_306 (c_X11_mix (cW G r x933 lx933) (31 * (31 * (31 * (31 * (31 * (31 * (31 * (17) + ((qCount (nI 0) σ).toInt64)) + ((qCount (nI 1) σ).toInt64)) + ((qCount (nI 2) σ).toInt64)) + ((qCount (nI 3) σ).toInt64)) + ((qCount (nI 4) σ).toInt64)) + ((qCount (nI 5) σ).toInt64)) + ((qCount (nI 6) σ).toInt64)) ((qCount (nI 7) σ).toInt64)) rfl rfl (by decide) (Nat.le_of_ble_eq_true rfl) ⟨Nat.le_refl _, Nat.le_refl _⟩ dX11_digest_19 ?_
  refine J_lstore_n [(0, .ref (r 0)), (1, .long (31 * (31 * (31 * (31 * (31 * (31 * (31 * (31 * (17) + ((qCount (nI 0) σ).toInt64)) + ((qCount (nI 1) σ).toInt64)) + ((qCount (nI 2) σ).toInt64)) + ((qCount (nI 3) σ).toInt64)) + ((qCount (nI 4) σ).toInt64)) + ((qCount (nI 5) σ).toInt64)) + ((qCount (nI 6) σ).toInt64)) + ((qCount (nI 7) σ).toInt64))), (3, .int (nI 7))] dX11_digest_22 rfl (by decide) rfl rfl rfl ?_
  refine J_iincN [(0, .ref (r 0)), (1, .long (31 * (31 * (31 * (31 * (31 * (31 * (31 * (31 * (17) + ((qCount (nI 0) σ).toInt64)) + ((qCount (nI 1) σ).toInt64)) + ((qCount (nI 2) σ).toInt64)) + ((qCount (nI 3) σ).toInt64)) + ((qCount (nI 4) σ).toInt64)) + ((qCount (nI 5) σ).toInt64)) + ((qCount (nI 6) σ).toInt64)) + ((qCount (nI 7) σ).toInt64))), (3, .int (nI 8))] dX11_digest_23 rfl (by decide) rfl rfl rfl ?_
  refine J_goto 6 dX11_digest_26 (by decide) ?_
  refine J_iload_n dX11_digest_6 rfl rfl ?_
  refine J_bipush (v := nI 7) dX11_digest_7 (by decide) ?_
  refine J_icmp_gt 29 dX11_digest_9 (by decide) (fun _ => ?_) (fun c => absurd c (by decide))
  refine J_iconst (v := nI 0) dX11_digest_29 (by decide) ?_
  refine J_istore_n [(0, .ref (r 0)), (1, .long (31 * (31 * (31 * (31 * (31 * (31 * (31 * (31 * (17) + ((qCount (nI 0) σ).toInt64)) + ((qCount (nI 1) σ).toInt64)) + ((qCount (nI 2) σ).toInt64)) + ((qCount (nI 3) σ).toInt64)) + ((qCount (nI 4) σ).toInt64)) + ((qCount (nI 5) σ).toInt64)) + ((qCount (nI 6) σ).toInt64)) + ((qCount (nI 7) σ).toInt64))), (3, .int (nI 0))] dX11_digest_30 rfl (by decide) rfl rfl rfl ?_
  refine J_iload_n dX11_digest_31 rfl rfl ?_
  refine J_iconst (v := nI 3) dX11_digest_32 (by decide) ?_
  refine J_icmp_ge 53 dX11_digest_33 (by decide) (fun c => absurd c (by decide)) (fun _ => ?_)
  refine J_lload_n dX11_digest_36 rfl rfl ?_
  refine J_aload_n dX11_digest_37 rfl rfl ?_
  refine J_iload_n dX11_digest_38 rfl rfl ?_
  refine J_callV (wr := []) (As := [.int (nI 0)]) (st := [.long (31 * (31 * (31 * (31 * (31 * (31 * (31 * (31 * (17) + ((qCount (nI 0) σ).toInt64)) + ((qCount (nI 1) σ).toInt64)) + ((qCount (nI 2) σ).toInt64)) + ((qCount (nI 3) σ).toInt64)) + ((qCount (nI 4) σ).toInt64)) + ((qCount (nI 5) σ).toInt64)) + ((qCount (nI 6) σ).toInt64)) + ((qCount (nI 7) σ).toInt64))]) 0 mv_X11_310 (c_X11_fault r x933 lx933 σ hL hC_x933 (nI 0)) cW_0 rfl rfl rfl (by decide) (Nat.le_of_ble_eq_true rfl) ⟨Nat.le_refl _, Nat.le_refl _⟩ dX11_digest_39 (fun v_ w_ h_ => ?_)
  obtain ⟨x934, lx934, rfl, rfl, hC_x934⟩ := h_
  show J G "digest" RX11 cX11_digest 5 (some .long) 0 0 12 Q 0 0 42 [(0, .ref (r 0)), (1, .long (31 * (31 * (31 * (31 * (31 * (31 * (31 * (31 * (17) + ((qCount (nI 0) σ).toInt64)) + ((qCount (nI 1) σ).toInt64)) + ((qCount (nI 2) σ).toInt64)) + ((qCount (nI 3) σ).toInt64)) + ((qCount (nI 4) σ).toInt64)) + ((qCount (nI 5) σ).toInt64)) + ((qCount (nI 6) σ).toInt64)) + ((qCount (nI 7) σ).toInt64))), (3, .int (nI 0))] [.int (qFault (nI 0) σ), .long (31 * (31 * (31 * (31 * (31 * (31 * (31 * (31 * (17) + ((qCount (nI 0) σ).toInt64)) + ((qCount (nI 1) σ).toInt64)) + ((qCount (nI 2) σ).toInt64)) + ((qCount (nI 3) σ).toInt64)) + ((qCount (nI 4) σ).toInt64)) + ((qCount (nI 5) σ).toInt64)) + ((qCount (nI 6) σ).toInt64)) + ((qCount (nI 7) σ).toInt64))] (cW G r x934 lx934)
  refine J_i2l dX11_digest_42 ?_
  refine J_cSl [.long (31 * (31 * (31 * (31 * (31 * (31 * (31 * (31 * (17) + ((qCount (nI 0) σ).toInt64)) + ((qCount (nI 1) σ).toInt64)) + ((qCount (nI 2) σ).toInt64)) + ((qCount (nI 3) σ).toInt64)) + ((qCount (nI 4) σ).toInt64)) + ((qCount (nI 5) σ).toInt64)) + ((qCount (nI 6) σ).toInt64)) + ((qCount (nI 7) σ).toInt64)), .long ((qFault (nI 0) σ).toInt64)] ms_X11_306 (c_X11_mix (cW G r x934 lx934) (31 * (31 * (31 * (31 * (31 * (31 * (31 * (31 * (17) + ((qCount (nI 0) σ).toInt64)) + ((qCount (nI 1) σ).toInt64)) + ((qCount (nI 2) σ).toInt64)) + ((qCount (nI 3) σ).toInt64)) + ((qCount (nI 4) σ).toInt64)) + ((qCount (nI 5) σ).toInt64)) + ((qCount (nI 6) σ).toInt64)) + ((qCount (nI 7) σ).toInt64)) ((qFault (nI 0) σ).toInt64)) rfl rfl (by decide) (Nat.le_of_ble_eq_true rfl) ⟨Nat.le_refl _, Nat.le_refl _⟩ dX11_digest_43 ?_
  refine J_lstore_n [(0, .ref (r 0)), (1, .long (31 * (31 * (31 * (31 * (31 * (31 * (31 * (31 * (31 * (17) + ((qCount (nI 0) σ).toInt64)) + ((qCount (nI 1) σ).toInt64)) + ((qCount (nI 2) σ).toInt64)) + ((qCount (nI 3) σ).toInt64)) + ((qCount (nI 4) σ).toInt64)) + ((qCount (nI 5) σ).toInt64)) + ((qCount (nI 6) σ).toInt64)) + ((qCount (nI 7) σ).toInt64)) + ((qFault (nI 0) σ).toInt64))), (3, .int (nI 0))] dX11_digest_46 rfl (by decide) rfl rfl rfl ?_
  refine J_iincN [(0, .ref (r 0)), (1, .long (31 * (31 * (31 * (31 * (31 * (31 * (31 * (31 * (31 * (17) + ((qCount (nI 0) σ).toInt64)) + ((qCount (nI 1) σ).toInt64)) + ((qCount (nI 2) σ).toInt64)) + ((qCount (nI 3) σ).toInt64)) + ((qCount (nI 4) σ).toInt64)) + ((qCount (nI 5) σ).toInt64)) + ((qCount (nI 6) σ).toInt64)) + ((qCount (nI 7) σ).toInt64)) + ((qFault (nI 0) σ).toInt64))), (3, .int (nI 1))] dX11_digest_47 rfl (by decide) rfl rfl rfl ?_
  refine J_goto 31 dX11_digest_50 (by decide) ?_
  refine J_iload_n dX11_digest_31 rfl rfl ?_
  refine J_iconst (v := nI 3) dX11_digest_32 (by decide) ?_
  refine J_icmp_ge 53 dX11_digest_33 (by decide) (fun c => absurd c (by decide)) (fun _ => ?_)
  refine J_lload_n dX11_digest_36 rfl rfl ?_
  refine J_aload_n dX11_digest_37 rfl rfl ?_
  refine J_iload_n dX11_digest_38 rfl rfl ?_
  refine J_callV (wr := []) (As := [.int (nI 1)]) (st := [.long (31 * (31 * (31 * (31 * (31 * (31 * (31 * (31 * (31 * (17) + ((qCount (nI 0) σ).toInt64)) + ((qCount (nI 1) σ).toInt64)) + ((qCount (nI 2) σ).toInt64)) + ((qCount (nI 3) σ).toInt64)) + ((qCount (nI 4) σ).toInt64)) + ((qCount (nI 5) σ).toInt64)) + ((qCount (nI 6) σ).toInt64)) + ((qCount (nI 7) σ).toInt64)) + ((qFault (nI 0) σ).toInt64))]) 0 mv_X11_310 (c_X11_fault r x934 lx934 σ hL hC_x934 (nI 1)) cW_0 rfl rfl rfl (by decide) (Nat.le_of_ble_eq_true rfl) ⟨Nat.le_refl _, Nat.le_refl _⟩ dX11_digest_39 (fun v_ w_ h_ => ?_)
  obtain ⟨x935, lx935, rfl, rfl, hC_x935⟩ := h_
  show J G "digest" RX11 cX11_digest 5 (some .long) 0 0 12 Q 0 0 42 [(0, .ref (r 0)), (1, .long (31 * (31 * (31 * (31 * (31 * (31 * (31 * (31 * (31 * (17) + ((qCount (nI 0) σ).toInt64)) + ((qCount (nI 1) σ).toInt64)) + ((qCount (nI 2) σ).toInt64)) + ((qCount (nI 3) σ).toInt64)) + ((qCount (nI 4) σ).toInt64)) + ((qCount (nI 5) σ).toInt64)) + ((qCount (nI 6) σ).toInt64)) + ((qCount (nI 7) σ).toInt64)) + ((qFault (nI 0) σ).toInt64))), (3, .int (nI 1))] [.int (qFault (nI 1) σ), .long (31 * (31 * (31 * (31 * (31 * (31 * (31 * (31 * (31 * (17) + ((qCount (nI 0) σ).toInt64)) + ((qCount (nI 1) σ).toInt64)) + ((qCount (nI 2) σ).toInt64)) + ((qCount (nI 3) σ).toInt64)) + ((qCount (nI 4) σ).toInt64)) + ((qCount (nI 5) σ).toInt64)) + ((qCount (nI 6) σ).toInt64)) + ((qCount (nI 7) σ).toInt64)) + ((qFault (nI 0) σ).toInt64))] (cW G r x935 lx935)
  refine J_i2l dX11_digest_42 ?_
  refine J_cSl [.long (31 * (31 * (31 * (31 * (31 * (31 * (31 * (31 * (31 * (17) + ((qCount (nI 0) σ).toInt64)) + ((qCount (nI 1) σ).toInt64)) + ((qCount (nI 2) σ).toInt64)) + ((qCount (nI 3) σ).toInt64)) + ((qCount (nI 4) σ).toInt64)) + ((qCount (nI 5) σ).toInt64)) + ((qCount (nI 6) σ).toInt64)) + ((qCount (nI 7) σ).toInt64)) + ((qFault (nI 0) σ).toInt64)), .long ((qFault (nI 1) σ).toInt64)] ms_X11_306 (c_X11_mix (cW G r x935 lx935) (31 * (31 * (31 * (31 * (31 * (31 * (31 * (31 * (31 * (17) + ((qCount (nI 0) σ).toInt64)) + ((qCount (nI 1) σ).toInt64)) + ((qCount (nI 2) σ).toInt64)) + ((qCount (nI 3) σ).toInt64)) + ((qCount (nI 4) σ).toInt64)) + ((qCount (nI 5) σ).toInt64)) + ((qCount (nI 6) σ).toInt64)) + ((qCount (nI 7) σ).toInt64)) + ((qFault (nI 0) σ).toInt64)) ((qFault (nI 1) σ).toInt64)) rfl rfl (by decide) (Nat.le_of_ble_eq_true rfl) ⟨Nat.le_refl _, Nat.le_refl _⟩ dX11_digest_43 ?_
  refine J_lstore_n [(0, .ref (r 0)), (1, .long (31 * (31 * (31 * (31 * (31 * (31 * (31 * (31 * (31 * (31 * (17) + ((qCount (nI 0) σ).toInt64)) + ((qCount (nI 1) σ).toInt64)) + ((qCount (nI 2) σ).toInt64)) + ((qCount (nI 3) σ).toInt64)) + ((qCount (nI 4) σ).toInt64)) + ((qCount (nI 5) σ).toInt64)) + ((qCount (nI 6) σ).toInt64)) + ((qCount (nI 7) σ).toInt64)) + ((qFault (nI 0) σ).toInt64)) + ((qFault (nI 1) σ).toInt64))), (3, .int (nI 1))] dX11_digest_46 rfl (by decide) rfl rfl rfl ?_
  refine J_iincN [(0, .ref (r 0)), (1, .long (31 * (31 * (31 * (31 * (31 * (31 * (31 * (31 * (31 * (31 * (17) + ((qCount (nI 0) σ).toInt64)) + ((qCount (nI 1) σ).toInt64)) + ((qCount (nI 2) σ).toInt64)) + ((qCount (nI 3) σ).toInt64)) + ((qCount (nI 4) σ).toInt64)) + ((qCount (nI 5) σ).toInt64)) + ((qCount (nI 6) σ).toInt64)) + ((qCount (nI 7) σ).toInt64)) + ((qFault (nI 0) σ).toInt64)) + ((qFault (nI 1) σ).toInt64))), (3, .int (nI 2))] dX11_digest_47 rfl (by decide) rfl rfl rfl ?_
  refine J_goto 31 dX11_digest_50 (by decide) ?_
  refine J_iload_n dX11_digest_31 rfl rfl ?_
  refine J_iconst (v := nI 3) dX11_digest_32 (by decide) ?_
  refine J_icmp_ge 53 dX11_digest_33 (by decide) (fun c => absurd c (by decide)) (fun _ => ?_)
  refine J_lload_n dX11_digest_36 rfl rfl ?_
  refine J_aload_n dX11_digest_37 rfl rfl ?_
  refine J_iload_n dX11_digest_38 rfl rfl ?_
  refine J_callV (wr := []) (As := [.int (nI 2)]) (st := [.long (31 * (31 * (31 * (31 * (31 * (31 * (31 * (31 * (31 * (31 * (17) + ((qCount (nI 0) σ).toInt64)) + ((qCount (nI 1) σ).toInt64)) + ((qCount (nI 2) σ).toInt64)) + ((qCount (nI 3) σ).toInt64)) + ((qCount (nI 4) σ).toInt64)) + ((qCount (nI 5) σ).toInt64)) + ((qCount (nI 6) σ).toInt64)) + ((qCount (nI 7) σ).toInt64)) + ((qFault (nI 0) σ).toInt64)) + ((qFault (nI 1) σ).toInt64))]) 0 mv_X11_310 (c_X11_fault r x935 lx935 σ hL hC_x935 (nI 2)) cW_0 rfl rfl rfl (by decide) (Nat.le_of_ble_eq_true rfl) ⟨Nat.le_refl _, Nat.le_refl _⟩ dX11_digest_39 (fun v_ w_ h_ => ?_)
  obtain ⟨x936, lx936, rfl, rfl, hC_x936⟩ := h_
  show J G "digest" RX11 cX11_digest 5 (some .long) 0 0 12 Q 0 0 42 [(0, .ref (r 0)), (1, .long (31 * (31 * (31 * (31 * (31 * (31 * (31 * (31 * (31 * (31 * (17) + ((qCount (nI 0) σ).toInt64)) + ((qCount (nI 1) σ).toInt64)) + ((qCount (nI 2) σ).toInt64)) + ((qCount (nI 3) σ).toInt64)) + ((qCount (nI 4) σ).toInt64)) + ((qCount (nI 5) σ).toInt64)) + ((qCount (nI 6) σ).toInt64)) + ((qCount (nI 7) σ).toInt64)) + ((qFault (nI 0) σ).toInt64)) + ((qFault (nI 1) σ).toInt64))), (3, .int (nI 2))] [.int (qFault (nI 2) σ), .long (31 * (31 * (31 * (31 * (31 * (31 * (31 * (31 * (31 * (31 * (17) + ((qCount (nI 0) σ).toInt64)) + ((qCount (nI 1) σ).toInt64)) + ((qCount (nI 2) σ).toInt64)) + ((qCount (nI 3) σ).toInt64)) + ((qCount (nI 4) σ).toInt64)) + ((qCount (nI 5) σ).toInt64)) + ((qCount (nI 6) σ).toInt64)) + ((qCount (nI 7) σ).toInt64)) + ((qFault (nI 0) σ).toInt64)) + ((qFault (nI 1) σ).toInt64))] (cW G r x936 lx936)
  refine J_i2l dX11_digest_42 ?_
  refine J_cSl [.long (31 * (31 * (31 * (31 * (31 * (31 * (31 * (31 * (31 * (31 * (17) + ((qCount (nI 0) σ).toInt64)) + ((qCount (nI 1) σ).toInt64)) + ((qCount (nI 2) σ).toInt64)) + ((qCount (nI 3) σ).toInt64)) + ((qCount (nI 4) σ).toInt64)) + ((qCount (nI 5) σ).toInt64)) + ((qCount (nI 6) σ).toInt64)) + ((qCount (nI 7) σ).toInt64)) + ((qFault (nI 0) σ).toInt64)) + ((qFault (nI 1) σ).toInt64)), .long ((qFault (nI 2) σ).toInt64)] ms_X11_306 (c_X11_mix (cW G r x936 lx936) (31 * (31 * (31 * (31 * (31 * (31 * (31 * (31 * (31 * (31 * (17) + ((qCount (nI 0) σ).toInt64)) + ((qCount (nI 1) σ).toInt64)) + ((qCount (nI 2) σ).toInt64)) + ((qCount (nI 3) σ).toInt64)) + ((qCount (nI 4) σ).toInt64)) + ((qCount (nI 5) σ).toInt64)) + ((qCount (nI 6) σ).toInt64)) + ((qCount (nI 7) σ).toInt64)) + ((qFault (nI 0) σ).toInt64)) + ((qFault (nI 1) σ).toInt64)) ((qFault (nI 2) σ).toInt64)) rfl rfl (by decide) (Nat.le_of_ble_eq_true rfl) ⟨Nat.le_refl _, Nat.le_refl _⟩ dX11_digest_43 ?_
  refine J_lstore_n [(0, .ref (r 0)), (1, .long (31 * (31 * (31 * (31 * (31 * (31 * (31 * (31 * (31 * (31 * (31 * (17) + ((qCount (nI 0) σ).toInt64)) + ((qCount (nI 1) σ).toInt64)) + ((qCount (nI 2) σ).toInt64)) + ((qCount (nI 3) σ).toInt64)) + ((qCount (nI 4) σ).toInt64)) + ((qCount (nI 5) σ).toInt64)) + ((qCount (nI 6) σ).toInt64)) + ((qCount (nI 7) σ).toInt64)) + ((qFault (nI 0) σ).toInt64)) + ((qFault (nI 1) σ).toInt64)) + ((qFault (nI 2) σ).toInt64))), (3, .int (nI 2))] dX11_digest_46 rfl (by decide) rfl rfl rfl ?_
  refine J_iincN [(0, .ref (r 0)), (1, .long (31 * (31 * (31 * (31 * (31 * (31 * (31 * (31 * (31 * (31 * (31 * (17) + ((qCount (nI 0) σ).toInt64)) + ((qCount (nI 1) σ).toInt64)) + ((qCount (nI 2) σ).toInt64)) + ((qCount (nI 3) σ).toInt64)) + ((qCount (nI 4) σ).toInt64)) + ((qCount (nI 5) σ).toInt64)) + ((qCount (nI 6) σ).toInt64)) + ((qCount (nI 7) σ).toInt64)) + ((qFault (nI 0) σ).toInt64)) + ((qFault (nI 1) σ).toInt64)) + ((qFault (nI 2) σ).toInt64))), (3, .int (nI 3))] dX11_digest_47 rfl (by decide) rfl rfl rfl ?_
  refine J_goto 31 dX11_digest_50 (by decide) ?_
  refine J_iload_n dX11_digest_31 rfl rfl ?_
  refine J_iconst (v := nI 3) dX11_digest_32 (by decide) ?_
  refine J_icmp_ge 53 dX11_digest_33 (by decide) (fun _ => ?_) (fun c => absurd c (by decide))
  show J G "digest" RX11 cX11_digest 5 (some .long) 0 0 12 Q 0 0 53 [(0, .ref (r 0)), (1, .long (dg1 σ)), (3, .int (nI 3))] [] (cW G r x936 lx936)
  refine J_iconst (v := nI 0) dX11_digest_53 (by decide) ?_
  refine J_istore_n [(0, .ref (r 0)), (1, .long (dg1 σ)), (3, .int (nI 0))] dX11_digest_54 rfl (by decide) rfl rfl rfl ?_
  have L55 : ∀ (f k : Nat) (y : St) (ly : Nat → Int64), nH σ - k < f → k ≤ nH σ → CI σ y → ∀ (x1 : Int64) (x3 : Int32), x1 = dgF (dHab σ) k (dg1 σ) → x3 = nI k → J G "digest" RX11 cX11_digest 5 (some .long) 0 0 12 Q 0 0 55 [(0, .ref (r 0)), (1, .long x1), (3, .int x3)] [] (cW G r y ly) := by
    intro f
    induction f with
    | zero => intro k y ly h; exact absurd h (Nat.not_lt_zero _)
    | succ f ih55 =>
      intro k y ly hf55 hle55 hCy x1 x3 e1 e3
      subst e1
      subst e3
      have hyn := hCy.n
      refine J_iload_n dX11_digest_55 rfl rfl ?_
      refine J_aload_n dX11_digest_56 rfl rfl ?_
      refine Cg_0_0 fr_X11_10_10 dX11_digest_57 ?_
      refine Cg_1_0 fr_X11_76_1 dX11_digest_60 ?_
      refine Cg_2_0 fr_X11_80_4 dX11_digest_63 ?_
      refine Cg_3_4 (s := y) fr_X11_260_2 (y 52 0) rfl dX11_digest_66 ?_
      refine J_rw (y := nI (nH σ)) hyn ?_
      refine J_icmp_geN 85 (by omega) (by omega) dX11_digest_69 (by decide) (fun kcz1 => ?_) (fun kcz1 => ?_)
      · have ek9 : k = nH σ := (by omega)
        subst ek9
        refine J_iconst (v := nI 0) dX11_digest_85 (by decide) ?_
        refine J_istore_n [(0, .ref (r 0)), (1, .long (dgF (dHab σ) (nH σ) (dg1 σ))), (3, .int (nI 0))] dX11_digest_86 rfl (by decide) rfl rfl rfl ?_
        have L87 : ∀ (f k : Nat) (y : St) (ly : Nat → Int64), nE σ - k < f → k ≤ nE σ → CI σ y → ∀ (x1 : Int64) (x3 : Int32), x1 = dgF (fun h e => dPlan σ (dHeir σ h e) e) k (dgF (dHab σ) (nH σ) (dg1 σ)) → x3 = nI k → J G "digest" RX11 cX11_digest 5 (some .long) 0 0 12 Q 0 0 87 [(0, .ref (r 0)), (1, .long x1), (3, .int x3)] [] (cW G r y ly) := by
          intro f
          induction f with
          | zero => intro k y ly h; exact absurd h (Nat.not_lt_zero _)
          | succ f ih87 =>
            intro k y ly hf87 hle87 hCy x1 x3 e1 e3
            subst e1
            subst e3
            have hym := hCy.m
            refine J_iload_n dX11_digest_87 rfl rfl ?_
            refine J_aload_n dX11_digest_88 rfl rfl ?_
            refine Cg_0_0 fr_X11_10_10 dX11_digest_89 ?_
            refine Cg_1_0 fr_X11_76_1 dX11_digest_92 ?_
            refine Cg_2_1 fr_X11_107_4 dX11_digest_95 ?_
            refine Cg_4_4 (s := y) fr_X11_188_3 (y 55 0) rfl dX11_digest_98 ?_
            refine J_rw (y := nI (nE σ)) hym ?_
            refine J_icmp_geN 122 (by omega) (by omega) dX11_digest_101 (by decide) (fun kcz2 => ?_) (fun kcz2 => ?_)
            · have ek9 : k = nE σ := (by omega)
              subst ek9
              refine J_iconst (v := nI 0) dX11_digest_122 (by decide) ?_
              refine J_istore_n [(0, .ref (r 0)), (1, .long (dgF (fun h e => dPlan σ (dHeir σ h e) e) (nE σ) (dgF (dHab σ) (nH σ) (dg1 σ)))), (3, .int (nI 0))] dX11_digest_123 rfl (by decide) rfl rfl rfl ?_
              have L124 : ∀ (f k : Nat) (y : St) (ly : Nat → Int64), nC σ - k < f → k ≤ nC σ → CI σ y → ∀ (x1 : Int64) (x3 : Int32), x1 = dgF (dCl σ) k (dgF (fun h e => dPlan σ (dHeir σ h e) e) (nE σ) (dgF (dHab σ) (nH σ) (dg1 σ))) → x3 = nI k → J G "digest" RX11 cX11_digest 5 (some .long) 0 0 12 Q 0 0 124 [(0, .ref (r 0)), (1, .long x1), (3, .int x3)] [] (cW G r y ly) := by
                intro f
                induction f with
                | zero => intro k y ly h; exact absurd h (Nat.not_lt_zero _)
                | succ f ih124 =>
                  intro k y ly hf124 hle124 hCy x1 x3 e1 e3
                  subst e1
                  subst e3
                  have hyc := hCy.c
                  refine J_iload_n dX11_digest_124 rfl rfl ?_
                  refine J_aload_n dX11_digest_125 rfl rfl ?_
                  refine Cg_0_0 fr_X11_10_10 dX11_digest_126 ?_
                  refine Cg_1_1 fr_X11_123_1 dX11_digest_129 ?_
                  refine Cg_5_4 (s := y) fr_X11_297_0 (y 58 0) rfl dX11_digest_132 ?_
                  refine J_rw (y := nI (nC σ)) hyc ?_
                  refine J_icmp_geN 172 (by omega) (by omega) dX11_digest_135 (by decide) (fun kcz3 => ?_) (fun kcz3 => ?_)
                  · have ek9 : k = nC σ := (by omega)
                    subst ek9
                    refine J_lload_n dX11_digest_172 rfl rfl ?_
                    refine J_aload_n dX11_digest_173 rfl rfl ?_
                    refine J_callV (wr := []) (As := []) (st := [.long (dgF (dCl σ) (nC σ) (dgF (fun h e => dPlan σ (dHeir σ h e) e) (nE σ) (dgF (dHab σ) (nH σ) (dg1 σ))))]) 0 mv_X11_326 (c_X11_done r y ly σ hL hCy) cW_0 rfl rfl rfl (by decide) (Nat.le_of_ble_eq_true rfl) ⟨Nat.le_refl _, Nat.le_refl _⟩ dX11_digest_174 (fun v_ w_ h_ => ?_)
                    obtain ⟨x937, lx937, rfl, rfl, hC_x937⟩ := h_
                    show J G "digest" RX11 cX11_digest 5 (some .long) 0 0 12 Q 0 0 177 [(0, .ref (r 0)), (1, .long (dgF (dCl σ) (nC σ) (dgF (fun h e => dPlan σ (dHeir σ h e) e) (nE σ) (dgF (dHab σ) (nH σ) (dg1 σ))))), (3, .int (nI (nC σ)))] [.int (qDone σ), .long (dgF (dCl σ) (nC σ) (dgF (fun h e => dPlan σ (dHeir σ h e) e) (nE σ) (dgF (dHab σ) (nH σ) (dg1 σ))))] (cW G r x937 lx937)
                    refine J_i2l dX11_digest_177 ?_
                    refine J_cSl [.long (dgF (dCl σ) (nC σ) (dgF (fun h e => dPlan σ (dHeir σ h e) e) (nE σ) (dgF (dHab σ) (nH σ) (dg1 σ)))), .long ((qDone σ).toInt64)] ms_X11_306 (c_X11_mix (cW G r x937 lx937) (dgF (dCl σ) (nC σ) (dgF (fun h e => dPlan σ (dHeir σ h e) e) (nE σ) (dgF (dHab σ) (nH σ) (dg1 σ)))) ((qDone σ).toInt64)) rfl rfl (by decide) (Nat.le_of_ble_eq_true rfl) ⟨Nat.le_refl _, Nat.le_refl _⟩ dX11_digest_178 ?_
                    refine J_lstore_n [(0, .ref (r 0)), (1, .long (31 * (dgF (dCl σ) (nC σ) (dgF (fun h e => dPlan σ (dHeir σ h e) e) (nE σ) (dgF (dHab σ) (nH σ) (dg1 σ)))) + ((qDone σ).toInt64))), (3, .int (nI (nC σ)))] dX11_digest_181 rfl (by decide) rfl rfl rfl ?_
                    refine J_iconst (v := nI 0) dX11_digest_182 (by decide) ?_
                    refine J_istore_n [(0, .ref (r 0)), (1, .long (31 * (dgF (dCl σ) (nC σ) (dgF (fun h e => dPlan σ (dHeir σ h e) e) (nE σ) (dgF (dHab σ) (nH σ) (dg1 σ)))) + ((qDone σ).toInt64))), (3, .int (nI 0))] dX11_digest_183 rfl (by decide) rfl rfl rfl ?_
                    refine J_iload_n dX11_digest_184 rfl rfl ?_
                    refine J_iconst (v := nI 3) dX11_digest_185 (by decide) ?_
                    refine J_icmp_gt 206 dX11_digest_186 (by decide) (fun c => absurd c (by decide)) (fun _ => ?_)
                    refine J_lload_n dX11_digest_189 rfl rfl ?_
                    refine J_aload_n dX11_digest_190 rfl rfl ?_
                    refine J_iload_n dX11_digest_191 rfl rfl ?_
                    refine J_callV (wr := []) (As := [.int (nI 0)]) (st := [.long (31 * (dgF (dCl σ) (nC σ) (dgF (fun h e => dPlan σ (dHeir σ h e) e) (nE σ) (dgF (dHab σ) (nH σ) (dg1 σ)))) + ((qDone σ).toInt64))]) 0 mv_X11_330 (c_X11_quarrel r x937 lx937 σ hL hC_x937 (nI 0)) cW_0 rfl rfl rfl (by decide) (Nat.le_of_ble_eq_true rfl) ⟨Nat.le_refl _, Nat.le_refl _⟩ dX11_digest_192 (fun v_ w_ h_ => ?_)
                    obtain ⟨x938, lx938, rfl, rfl, hC_x938⟩ := h_
                    show J G "digest" RX11 cX11_digest 5 (some .long) 0 0 12 Q 0 0 195 [(0, .ref (r 0)), (1, .long (31 * (dgF (dCl σ) (nC σ) (dgF (fun h e => dPlan σ (dHeir σ h e) e) (nE σ) (dgF (dHab σ) (nH σ) (dg1 σ)))) + ((qDone σ).toInt64))), (3, .int (nI 0))] [.int (qQuarrel (nI 0) σ), .long (31 * (dgF (dCl σ) (nC σ) (dgF (fun h e => dPlan σ (dHeir σ h e) e) (nE σ) (dgF (dHab σ) (nH σ) (dg1 σ)))) + ((qDone σ).toInt64))] (cW G r x938 lx938)
                    refine J_i2l dX11_digest_195 ?_
                    refine J_cSl [.long (31 * (dgF (dCl σ) (nC σ) (dgF (fun h e => dPlan σ (dHeir σ h e) e) (nE σ) (dgF (dHab σ) (nH σ) (dg1 σ)))) + ((qDone σ).toInt64)), .long ((qQuarrel (nI 0) σ).toInt64)] ms_X11_306 (c_X11_mix (cW G r x938 lx938) (31 * (dgF (dCl σ) (nC σ) (dgF (fun h e => dPlan σ (dHeir σ h e) e) (nE σ) (dgF (dHab σ) (nH σ) (dg1 σ)))) + ((qDone σ).toInt64)) ((qQuarrel (nI 0) σ).toInt64)) rfl rfl (by decide) (Nat.le_of_ble_eq_true rfl) ⟨Nat.le_refl _, Nat.le_refl _⟩ dX11_digest_196 ?_
                    refine J_lstore_n [(0, .ref (r 0)), (1, .long (31 * (31 * (dgF (dCl σ) (nC σ) (dgF (fun h e => dPlan σ (dHeir σ h e) e) (nE σ) (dgF (dHab σ) (nH σ) (dg1 σ)))) + ((qDone σ).toInt64)) + ((qQuarrel (nI 0) σ).toInt64))), (3, .int (nI 0))] dX11_digest_199 rfl (by decide) rfl rfl rfl ?_
                    refine J_iincN [(0, .ref (r 0)), (1, .long (31 * (31 * (dgF (dCl σ) (nC σ) (dgF (fun h e => dPlan σ (dHeir σ h e) e) (nE σ) (dgF (dHab σ) (nH σ) (dg1 σ)))) + ((qDone σ).toInt64)) + ((qQuarrel (nI 0) σ).toInt64))), (3, .int (nI 1))] dX11_digest_200 rfl (by decide) rfl rfl rfl ?_
                    refine J_goto 184 dX11_digest_203 (by decide) ?_
                    refine J_iload_n dX11_digest_184 rfl rfl ?_
                    refine J_iconst (v := nI 3) dX11_digest_185 (by decide) ?_
                    refine J_icmp_gt 206 dX11_digest_186 (by decide) (fun c => absurd c (by decide)) (fun _ => ?_)
                    refine J_lload_n dX11_digest_189 rfl rfl ?_
                    refine J_aload_n dX11_digest_190 rfl rfl ?_
                    refine J_iload_n dX11_digest_191 rfl rfl ?_
                    refine J_callV (wr := []) (As := [.int (nI 1)]) (st := [.long (31 * (31 * (dgF (dCl σ) (nC σ) (dgF (fun h e => dPlan σ (dHeir σ h e) e) (nE σ) (dgF (dHab σ) (nH σ) (dg1 σ)))) + ((qDone σ).toInt64)) + ((qQuarrel (nI 0) σ).toInt64))]) 0 mv_X11_330 (c_X11_quarrel r x938 lx938 σ hL hC_x938 (nI 1)) cW_0 rfl rfl rfl (by decide) (Nat.le_of_ble_eq_true rfl) ⟨Nat.le_refl _, Nat.le_refl _⟩ dX11_digest_192 (fun v_ w_ h_ => ?_)
                    obtain ⟨x939, lx939, rfl, rfl, hC_x939⟩ := h_
                    show J G "digest" RX11 cX11_digest 5 (some .long) 0 0 12 Q 0 0 195 [(0, .ref (r 0)), (1, .long (31 * (31 * (dgF (dCl σ) (nC σ) (dgF (fun h e => dPlan σ (dHeir σ h e) e) (nE σ) (dgF (dHab σ) (nH σ) (dg1 σ)))) + ((qDone σ).toInt64)) + ((qQuarrel (nI 0) σ).toInt64))), (3, .int (nI 1))] [.int (qQuarrel (nI 1) σ), .long (31 * (31 * (dgF (dCl σ) (nC σ) (dgF (fun h e => dPlan σ (dHeir σ h e) e) (nE σ) (dgF (dHab σ) (nH σ) (dg1 σ)))) + ((qDone σ).toInt64)) + ((qQuarrel (nI 0) σ).toInt64))] (cW G r x939 lx939)
                    refine J_i2l dX11_digest_195 ?_
                    refine J_cSl [.long (31 * (31 * (dgF (dCl σ) (nC σ) (dgF (fun h e => dPlan σ (dHeir σ h e) e) (nE σ) (dgF (dHab σ) (nH σ) (dg1 σ)))) + ((qDone σ).toInt64)) + ((qQuarrel (nI 0) σ).toInt64)), .long ((qQuarrel (nI 1) σ).toInt64)] ms_X11_306 (c_X11_mix (cW G r x939 lx939) (31 * (31 * (dgF (dCl σ) (nC σ) (dgF (fun h e => dPlan σ (dHeir σ h e) e) (nE σ) (dgF (dHab σ) (nH σ) (dg1 σ)))) + ((qDone σ).toInt64)) + ((qQuarrel (nI 0) σ).toInt64)) ((qQuarrel (nI 1) σ).toInt64)) rfl rfl (by decide) (Nat.le_of_ble_eq_true rfl) ⟨Nat.le_refl _, Nat.le_refl _⟩ dX11_digest_196 ?_
                    refine J_lstore_n [(0, .ref (r 0)), (1, .long (31 * (31 * (31 * (dgF (dCl σ) (nC σ) (dgF (fun h e => dPlan σ (dHeir σ h e) e) (nE σ) (dgF (dHab σ) (nH σ) (dg1 σ)))) + ((qDone σ).toInt64)) + ((qQuarrel (nI 0) σ).toInt64)) + ((qQuarrel (nI 1) σ).toInt64))), (3, .int (nI 1))] dX11_digest_199 rfl (by decide) rfl rfl rfl ?_
                    refine J_iincN [(0, .ref (r 0)), (1, .long (31 * (31 * (31 * (dgF (dCl σ) (nC σ) (dgF (fun h e => dPlan σ (dHeir σ h e) e) (nE σ) (dgF (dHab σ) (nH σ) (dg1 σ)))) + ((qDone σ).toInt64)) + ((qQuarrel (nI 0) σ).toInt64)) + ((qQuarrel (nI 1) σ).toInt64))), (3, .int (nI 2))] dX11_digest_200 rfl (by decide) rfl rfl rfl ?_
                    refine J_goto 184 dX11_digest_203 (by decide) ?_
                    refine J_iload_n dX11_digest_184 rfl rfl ?_
                    refine J_iconst (v := nI 3) dX11_digest_185 (by decide) ?_
                    refine J_icmp_gt 206 dX11_digest_186 (by decide) (fun c => absurd c (by decide)) (fun _ => ?_)
                    refine J_lload_n dX11_digest_189 rfl rfl ?_
                    refine J_aload_n dX11_digest_190 rfl rfl ?_
                    refine J_iload_n dX11_digest_191 rfl rfl ?_
                    refine J_callV (wr := []) (As := [.int (nI 2)]) (st := [.long (31 * (31 * (31 * (dgF (dCl σ) (nC σ) (dgF (fun h e => dPlan σ (dHeir σ h e) e) (nE σ) (dgF (dHab σ) (nH σ) (dg1 σ)))) + ((qDone σ).toInt64)) + ((qQuarrel (nI 0) σ).toInt64)) + ((qQuarrel (nI 1) σ).toInt64))]) 0 mv_X11_330 (c_X11_quarrel r x939 lx939 σ hL hC_x939 (nI 2)) cW_0 rfl rfl rfl (by decide) (Nat.le_of_ble_eq_true rfl) ⟨Nat.le_refl _, Nat.le_refl _⟩ dX11_digest_192 (fun v_ w_ h_ => ?_)
                    obtain ⟨x940, lx940, rfl, rfl, hC_x940⟩ := h_
                    show J G "digest" RX11 cX11_digest 5 (some .long) 0 0 12 Q 0 0 195 [(0, .ref (r 0)), (1, .long (31 * (31 * (31 * (dgF (dCl σ) (nC σ) (dgF (fun h e => dPlan σ (dHeir σ h e) e) (nE σ) (dgF (dHab σ) (nH σ) (dg1 σ)))) + ((qDone σ).toInt64)) + ((qQuarrel (nI 0) σ).toInt64)) + ((qQuarrel (nI 1) σ).toInt64))), (3, .int (nI 2))] [.int (qQuarrel (nI 2) σ), .long (31 * (31 * (31 * (dgF (dCl σ) (nC σ) (dgF (fun h e => dPlan σ (dHeir σ h e) e) (nE σ) (dgF (dHab σ) (nH σ) (dg1 σ)))) + ((qDone σ).toInt64)) + ((qQuarrel (nI 0) σ).toInt64)) + ((qQuarrel (nI 1) σ).toInt64))] (cW G r x940 lx940)
                    refine J_i2l dX11_digest_195 ?_
                    refine J_cSl [.long (31 * (31 * (31 * (dgF (dCl σ) (nC σ) (dgF (fun h e => dPlan σ (dHeir σ h e) e) (nE σ) (dgF (dHab σ) (nH σ) (dg1 σ)))) + ((qDone σ).toInt64)) + ((qQuarrel (nI 0) σ).toInt64)) + ((qQuarrel (nI 1) σ).toInt64)), .long ((qQuarrel (nI 2) σ).toInt64)] ms_X11_306 (c_X11_mix (cW G r x940 lx940) (31 * (31 * (31 * (dgF (dCl σ) (nC σ) (dgF (fun h e => dPlan σ (dHeir σ h e) e) (nE σ) (dgF (dHab σ) (nH σ) (dg1 σ)))) + ((qDone σ).toInt64)) + ((qQuarrel (nI 0) σ).toInt64)) + ((qQuarrel (nI 1) σ).toInt64)) ((qQuarrel (nI 2) σ).toInt64)) rfl rfl (by decide) (Nat.le_of_ble_eq_true rfl) ⟨Nat.le_refl _, Nat.le_refl _⟩ dX11_digest_196 ?_
                    refine J_lstore_n [(0, .ref (r 0)), (1, .long (31 * (31 * (31 * (31 * (dgF (dCl σ) (nC σ) (dgF (fun h e => dPlan σ (dHeir σ h e) e) (nE σ) (dgF (dHab σ) (nH σ) (dg1 σ)))) + ((qDone σ).toInt64)) + ((qQuarrel (nI 0) σ).toInt64)) + ((qQuarrel (nI 1) σ).toInt64)) + ((qQuarrel (nI 2) σ).toInt64))), (3, .int (nI 2))] dX11_digest_199 rfl (by decide) rfl rfl rfl ?_
                    refine J_iincN [(0, .ref (r 0)), (1, .long (31 * (31 * (31 * (31 * (dgF (dCl σ) (nC σ) (dgF (fun h e => dPlan σ (dHeir σ h e) e) (nE σ) (dgF (dHab σ) (nH σ) (dg1 σ)))) + ((qDone σ).toInt64)) + ((qQuarrel (nI 0) σ).toInt64)) + ((qQuarrel (nI 1) σ).toInt64)) + ((qQuarrel (nI 2) σ).toInt64))), (3, .int (nI 3))] dX11_digest_200 rfl (by decide) rfl rfl rfl ?_
                    refine J_goto 184 dX11_digest_203 (by decide) ?_
                    refine J_iload_n dX11_digest_184 rfl rfl ?_
                    refine J_iconst (v := nI 3) dX11_digest_185 (by decide) ?_
                    refine J_icmp_gt 206 dX11_digest_186 (by decide) (fun c => absurd c (by decide)) (fun _ => ?_)
                    refine J_lload_n dX11_digest_189 rfl rfl ?_
                    refine J_aload_n dX11_digest_190 rfl rfl ?_
                    refine J_iload_n dX11_digest_191 rfl rfl ?_
                    refine J_callV (wr := []) (As := [.int (nI 3)]) (st := [.long (31 * (31 * (31 * (31 * (dgF (dCl σ) (nC σ) (dgF (fun h e => dPlan σ (dHeir σ h e) e) (nE σ) (dgF (dHab σ) (nH σ) (dg1 σ)))) + ((qDone σ).toInt64)) + ((qQuarrel (nI 0) σ).toInt64)) + ((qQuarrel (nI 1) σ).toInt64)) + ((qQuarrel (nI 2) σ).toInt64))]) 0 mv_X11_330 (c_X11_quarrel r x940 lx940 σ hL hC_x940 (nI 3)) cW_0 rfl rfl rfl (by decide) (Nat.le_of_ble_eq_true rfl) ⟨Nat.le_refl _, Nat.le_refl _⟩ dX11_digest_192 (fun v_ w_ h_ => ?_)
                    obtain ⟨x941, lx941, rfl, rfl, hC_x941⟩ := h_
                    show J G "digest" RX11 cX11_digest 5 (some .long) 0 0 12 Q 0 0 195 [(0, .ref (r 0)), (1, .long (31 * (31 * (31 * (31 * (dgF (dCl σ) (nC σ) (dgF (fun h e => dPlan σ (dHeir σ h e) e) (nE σ) (dgF (dHab σ) (nH σ) (dg1 σ)))) + ((qDone σ).toInt64)) + ((qQuarrel (nI 0) σ).toInt64)) + ((qQuarrel (nI 1) σ).toInt64)) + ((qQuarrel (nI 2) σ).toInt64))), (3, .int (nI 3))] [.int (qQuarrel (nI 3) σ), .long (31 * (31 * (31 * (31 * (dgF (dCl σ) (nC σ) (dgF (fun h e => dPlan σ (dHeir σ h e) e) (nE σ) (dgF (dHab σ) (nH σ) (dg1 σ)))) + ((qDone σ).toInt64)) + ((qQuarrel (nI 0) σ).toInt64)) + ((qQuarrel (nI 1) σ).toInt64)) + ((qQuarrel (nI 2) σ).toInt64))] (cW G r x941 lx941)
                    refine J_i2l dX11_digest_195 ?_
                    refine J_cSl [.long (31 * (31 * (31 * (31 * (dgF (dCl σ) (nC σ) (dgF (fun h e => dPlan σ (dHeir σ h e) e) (nE σ) (dgF (dHab σ) (nH σ) (dg1 σ)))) + ((qDone σ).toInt64)) + ((qQuarrel (nI 0) σ).toInt64)) + ((qQuarrel (nI 1) σ).toInt64)) + ((qQuarrel (nI 2) σ).toInt64)), .long ((qQuarrel (nI 3) σ).toInt64)] ms_X11_306 (c_X11_mix (cW G r x941 lx941) (31 * (31 * (31 * (31 * (dgF (dCl σ) (nC σ) (dgF (fun h e => dPlan σ (dHeir σ h e) e) (nE σ) (dgF (dHab σ) (nH σ) (dg1 σ)))) + ((qDone σ).toInt64)) + ((qQuarrel (nI 0) σ).toInt64)) + ((qQuarrel (nI 1) σ).toInt64)) + ((qQuarrel (nI 2) σ).toInt64)) ((qQuarrel (nI 3) σ).toInt64)) rfl rfl (by decide) (Nat.le_of_ble_eq_true rfl) ⟨Nat.le_refl _, Nat.le_refl _⟩ dX11_digest_196 ?_
                    refine J_lstore_n [(0, .ref (r 0)), (1, .long (31 * (31 * (31 * (31 * (31 * (dgF (dCl σ) (nC σ) (dgF (fun h e => dPlan σ (dHeir σ h e) e) (nE σ) (dgF (dHab σ) (nH σ) (dg1 σ)))) + ((qDone σ).toInt64)) + ((qQuarrel (nI 0) σ).toInt64)) + ((qQuarrel (nI 1) σ).toInt64)) + ((qQuarrel (nI 2) σ).toInt64)) + ((qQuarrel (nI 3) σ).toInt64))), (3, .int (nI 3))] dX11_digest_199 rfl (by decide) rfl rfl rfl ?_
                    refine J_iincN [(0, .ref (r 0)), (1, .long (31 * (31 * (31 * (31 * (31 * (dgF (dCl σ) (nC σ) (dgF (fun h e => dPlan σ (dHeir σ h e) e) (nE σ) (dgF (dHab σ) (nH σ) (dg1 σ)))) + ((qDone σ).toInt64)) + ((qQuarrel (nI 0) σ).toInt64)) + ((qQuarrel (nI 1) σ).toInt64)) + ((qQuarrel (nI 2) σ).toInt64)) + ((qQuarrel (nI 3) σ).toInt64))), (3, .int (nI 4))] dX11_digest_200 rfl (by decide) rfl rfl rfl ?_
                    refine J_goto 184 dX11_digest_203 (by decide) ?_
                    refine J_iload_n dX11_digest_184 rfl rfl ?_
                    refine J_iconst (v := nI 3) dX11_digest_185 (by decide) ?_
                    refine J_icmp_gt 206 dX11_digest_186 (by decide) (fun _ => ?_) (fun c => absurd c (by decide))
                    refine J_lload_n dX11_digest_206 rfl rfl ?_
                    refine J_aload_n dX11_digest_207 rfl rfl ?_
                    refine J_iconst (v := -1) dX11_digest_208 (by decide) ?_
                    refine J_callV (wr := []) (As := [.int (-1)]) (st := [.long (31 * (31 * (31 * (31 * (31 * (dgF (dCl σ) (nC σ) (dgF (fun h e => dPlan σ (dHeir σ h e) e) (nE σ) (dgF (dHab σ) (nH σ) (dg1 σ)))) + ((qDone σ).toInt64)) + ((qQuarrel (nI 0) σ).toInt64)) + ((qQuarrel (nI 1) σ).toInt64)) + ((qQuarrel (nI 2) σ).toInt64)) + ((qQuarrel (nI 3) σ).toInt64))]) 0 mv_X11_333 (c_X11_best r x941 lx941 σ hL hC_x941 (-1)) cW_0 rfl rfl rfl (by decide) (Nat.le_of_ble_eq_true rfl) ⟨Nat.le_refl _, Nat.le_refl _⟩ dX11_digest_209 (fun v_ w_ h_ => ?_)
                    obtain ⟨x942, lx942, rfl, rfl, hC_x942⟩ := h_
                    show J G "digest" RX11 cX11_digest 5 (some .long) 0 0 12 Q 0 0 212 [(0, .ref (r 0)), (1, .long (31 * (31 * (31 * (31 * (31 * (dgF (dCl σ) (nC σ) (dgF (fun h e => dPlan σ (dHeir σ h e) e) (nE σ) (dgF (dHab σ) (nH σ) (dg1 σ)))) + ((qDone σ).toInt64)) + ((qQuarrel (nI 0) σ).toInt64)) + ((qQuarrel (nI 1) σ).toInt64)) + ((qQuarrel (nI 2) σ).toInt64)) + ((qQuarrel (nI 3) σ).toInt64))), (3, .int (nI 4))] [.int (qBest (-1) σ), .long (31 * (31 * (31 * (31 * (31 * (dgF (dCl σ) (nC σ) (dgF (fun h e => dPlan σ (dHeir σ h e) e) (nE σ) (dgF (dHab σ) (nH σ) (dg1 σ)))) + ((qDone σ).toInt64)) + ((qQuarrel (nI 0) σ).toInt64)) + ((qQuarrel (nI 1) σ).toInt64)) + ((qQuarrel (nI 2) σ).toInt64)) + ((qQuarrel (nI 3) σ).toInt64))] (cW G r x942 lx942)
                    refine J_i2l dX11_digest_212 ?_
                    refine J_cSl [.long (31 * (31 * (31 * (31 * (31 * (dgF (dCl σ) (nC σ) (dgF (fun h e => dPlan σ (dHeir σ h e) e) (nE σ) (dgF (dHab σ) (nH σ) (dg1 σ)))) + ((qDone σ).toInt64)) + ((qQuarrel (nI 0) σ).toInt64)) + ((qQuarrel (nI 1) σ).toInt64)) + ((qQuarrel (nI 2) σ).toInt64)) + ((qQuarrel (nI 3) σ).toInt64)), .long ((qBest (-1) σ).toInt64)] ms_X11_306 (c_X11_mix (cW G r x942 lx942) (31 * (31 * (31 * (31 * (31 * (dgF (dCl σ) (nC σ) (dgF (fun h e => dPlan σ (dHeir σ h e) e) (nE σ) (dgF (dHab σ) (nH σ) (dg1 σ)))) + ((qDone σ).toInt64)) + ((qQuarrel (nI 0) σ).toInt64)) + ((qQuarrel (nI 1) σ).toInt64)) + ((qQuarrel (nI 2) σ).toInt64)) + ((qQuarrel (nI 3) σ).toInt64)) ((qBest (-1) σ).toInt64)) rfl rfl (by decide) (Nat.le_of_ble_eq_true rfl) ⟨Nat.le_refl _, Nat.le_refl _⟩ dX11_digest_213 ?_
                    refine J_aload_n dX11_digest_216 rfl rfl ?_
                    refine J_iconst (v := nI 0) dX11_digest_217 (by decide) ?_
                    refine J_callV (wr := []) (As := [.int (nI 0)]) (st := [.long (31 * (31 * (31 * (31 * (31 * (31 * (dgF (dCl σ) (nC σ) (dgF (fun h e => dPlan σ (dHeir σ h e) e) (nE σ) (dgF (dHab σ) (nH σ) (dg1 σ)))) + ((qDone σ).toInt64)) + ((qQuarrel (nI 0) σ).toInt64)) + ((qQuarrel (nI 1) σ).toInt64)) + ((qQuarrel (nI 2) σ).toInt64)) + ((qQuarrel (nI 3) σ).toInt64)) + ((qBest (-1) σ).toInt64))]) 0 mv_X11_333 (c_X11_best r x942 lx942 σ hL hC_x942 (nI 0)) cW_0 rfl rfl rfl (by decide) (Nat.le_of_ble_eq_true rfl) ⟨Nat.le_refl _, Nat.le_refl _⟩ dX11_digest_218 (fun v_ w_ h_ => ?_)
                    obtain ⟨x943, lx943, rfl, rfl, hC_x943⟩ := h_
                    show J G "digest" RX11 cX11_digest 5 (some .long) 0 0 12 Q 0 0 221 [(0, .ref (r 0)), (1, .long (31 * (31 * (31 * (31 * (31 * (dgF (dCl σ) (nC σ) (dgF (fun h e => dPlan σ (dHeir σ h e) e) (nE σ) (dgF (dHab σ) (nH σ) (dg1 σ)))) + ((qDone σ).toInt64)) + ((qQuarrel (nI 0) σ).toInt64)) + ((qQuarrel (nI 1) σ).toInt64)) + ((qQuarrel (nI 2) σ).toInt64)) + ((qQuarrel (nI 3) σ).toInt64))), (3, .int (nI 4))] [.int (qBest (nI 0) σ), .long (31 * (31 * (31 * (31 * (31 * (31 * (dgF (dCl σ) (nC σ) (dgF (fun h e => dPlan σ (dHeir σ h e) e) (nE σ) (dgF (dHab σ) (nH σ) (dg1 σ)))) + ((qDone σ).toInt64)) + ((qQuarrel (nI 0) σ).toInt64)) + ((qQuarrel (nI 1) σ).toInt64)) + ((qQuarrel (nI 2) σ).toInt64)) + ((qQuarrel (nI 3) σ).toInt64)) + ((qBest (-1) σ).toInt64))] (cW G r x943 lx943)
                    refine J_i2l dX11_digest_221 ?_
                    refine J_cSl [.long (31 * (31 * (31 * (31 * (31 * (31 * (dgF (dCl σ) (nC σ) (dgF (fun h e => dPlan σ (dHeir σ h e) e) (nE σ) (dgF (dHab σ) (nH σ) (dg1 σ)))) + ((qDone σ).toInt64)) + ((qQuarrel (nI 0) σ).toInt64)) + ((qQuarrel (nI 1) σ).toInt64)) + ((qQuarrel (nI 2) σ).toInt64)) + ((qQuarrel (nI 3) σ).toInt64)) + ((qBest (-1) σ).toInt64)), .long ((qBest (nI 0) σ).toInt64)] ms_X11_306 (c_X11_mix (cW G r x943 lx943) (31 * (31 * (31 * (31 * (31 * (31 * (dgF (dCl σ) (nC σ) (dgF (fun h e => dPlan σ (dHeir σ h e) e) (nE σ) (dgF (dHab σ) (nH σ) (dg1 σ)))) + ((qDone σ).toInt64)) + ((qQuarrel (nI 0) σ).toInt64)) + ((qQuarrel (nI 1) σ).toInt64)) + ((qQuarrel (nI 2) σ).toInt64)) + ((qQuarrel (nI 3) σ).toInt64)) + ((qBest (-1) σ).toInt64)) ((qBest (nI 0) σ).toInt64)) rfl rfl (by decide) (Nat.le_of_ble_eq_true rfl) ⟨Nat.le_refl _, Nat.le_refl _⟩ dX11_digest_222 ?_
                    exact J_lret dX11_digest_225 rfl rfl rfl (hq x943 lx943 _ (by unfold qDigest dg3 dg2; rfl) hC_x943)
                  · refine J_iconst (v := nI 0) dX11_digest_138 (by decide) ?_
                    refine J_istore [(0, .ref (r 0)), (1, .long (dgF (dCl σ) k (dgF (fun h e => dPlan σ (dHeir σ h e) e) (nE σ) (dgF (dHab σ) (nH σ) (dg1 σ))))), (3, .int (nI k)), (4, .int (nI 0))] dX11_digest_139 (by decide) rfl rfl rfl ?_
                    refine J_iload dX11_digest_141 rfl ?_
                    refine J_iconst (v := nI 3) dX11_digest_143 (by decide) ?_
                    refine J_icmp_gt 166 dX11_digest_144 (by decide) (fun c => absurd c (by decide)) (fun _ => ?_)
                    refine J_lload_n dX11_digest_147 rfl rfl ?_
                    refine J_aload_n dX11_digest_148 rfl rfl ?_
                    refine J_iload_n dX11_digest_149 rfl rfl ?_
                    refine J_iload dX11_digest_150 rfl ?_
                    refine J_callV (wr := []) (As := [.int (nI k), .int (nI 0)]) (st := [.long (dgF (dCl σ) k (dgF (fun h e => dPlan σ (dHeir σ h e) e) (nE σ) (dgF (dHab σ) (nH σ) (dg1 σ))))]) 0 mv_X11_323 (c_X11_clause r y ly σ hL hCy (nI k) (nI 0)) cW_0 rfl rfl rfl (by decide) (Nat.le_of_ble_eq_true rfl) ⟨Nat.le_refl _, Nat.le_refl _⟩ dX11_digest_152 (fun v_ w_ h_ => ?_)
                    obtain ⟨x944, lx944, rfl, rfl, hC_x944⟩ := h_
                    show J G "digest" RX11 cX11_digest 5 (some .long) 0 0 12 Q 0 0 155 [(0, .ref (r 0)), (1, .long (dgF (dCl σ) k (dgF (fun h e => dPlan σ (dHeir σ h e) e) (nE σ) (dgF (dHab σ) (nH σ) (dg1 σ))))), (3, .int (nI k)), (4, .int (nI 0))] [.int (qClause (nI k) (nI 0) σ), .long (dgF (dCl σ) k (dgF (fun h e => dPlan σ (dHeir σ h e) e) (nE σ) (dgF (dHab σ) (nH σ) (dg1 σ))))] (cW G r x944 lx944)
                    refine J_i2l dX11_digest_155 ?_
                    refine J_cSl [.long (dgF (dCl σ) k (dgF (fun h e => dPlan σ (dHeir σ h e) e) (nE σ) (dgF (dHab σ) (nH σ) (dg1 σ)))), .long ((qClause (nI k) (nI 0) σ).toInt64)] ms_X11_306 (c_X11_mix (cW G r x944 lx944) (dgF (dCl σ) k (dgF (fun h e => dPlan σ (dHeir σ h e) e) (nE σ) (dgF (dHab σ) (nH σ) (dg1 σ)))) ((qClause (nI k) (nI 0) σ).toInt64)) rfl rfl (by decide) (Nat.le_of_ble_eq_true rfl) ⟨Nat.le_refl _, Nat.le_refl _⟩ dX11_digest_156 ?_
                    refine J_lstore_n [(0, .ref (r 0)), (1, .long (31 * (dgF (dCl σ) k (dgF (fun h e => dPlan σ (dHeir σ h e) e) (nE σ) (dgF (dHab σ) (nH σ) (dg1 σ)))) + ((qClause (nI k) (nI 0) σ).toInt64))), (3, .int (nI k)), (4, .int (nI 0))] dX11_digest_159 rfl (by decide) rfl rfl rfl ?_
                    refine J_iincN [(0, .ref (r 0)), (1, .long (31 * (dgF (dCl σ) k (dgF (fun h e => dPlan σ (dHeir σ h e) e) (nE σ) (dgF (dHab σ) (nH σ) (dg1 σ)))) + ((qClause (nI k) (nI 0) σ).toInt64))), (3, .int (nI k)), (4, .int (nI 1))] dX11_digest_160 rfl (by decide) rfl rfl rfl ?_
                    refine J_goto 141 dX11_digest_163 (by decide) ?_
                    refine J_iload dX11_digest_141 rfl ?_
                    refine J_iconst (v := nI 3) dX11_digest_143 (by decide) ?_
                    refine J_icmp_gt 166 dX11_digest_144 (by decide) (fun c => absurd c (by decide)) (fun _ => ?_)
                    refine J_lload_n dX11_digest_147 rfl rfl ?_
                    refine J_aload_n dX11_digest_148 rfl rfl ?_
                    refine J_iload_n dX11_digest_149 rfl rfl ?_
                    refine J_iload dX11_digest_150 rfl ?_
                    refine J_callV (wr := []) (As := [.int (nI k), .int (nI 1)]) (st := [.long (31 * (dgF (dCl σ) k (dgF (fun h e => dPlan σ (dHeir σ h e) e) (nE σ) (dgF (dHab σ) (nH σ) (dg1 σ)))) + ((qClause (nI k) (nI 0) σ).toInt64))]) 0 mv_X11_323 (c_X11_clause r x944 lx944 σ hL hC_x944 (nI k) (nI 1)) cW_0 rfl rfl rfl (by decide) (Nat.le_of_ble_eq_true rfl) ⟨Nat.le_refl _, Nat.le_refl _⟩ dX11_digest_152 (fun v_ w_ h_ => ?_)
                    obtain ⟨x945, lx945, rfl, rfl, hC_x945⟩ := h_
                    show J G "digest" RX11 cX11_digest 5 (some .long) 0 0 12 Q 0 0 155 [(0, .ref (r 0)), (1, .long (31 * (dgF (dCl σ) k (dgF (fun h e => dPlan σ (dHeir σ h e) e) (nE σ) (dgF (dHab σ) (nH σ) (dg1 σ)))) + ((qClause (nI k) (nI 0) σ).toInt64))), (3, .int (nI k)), (4, .int (nI 1))] [.int (qClause (nI k) (nI 1) σ), .long (31 * (dgF (dCl σ) k (dgF (fun h e => dPlan σ (dHeir σ h e) e) (nE σ) (dgF (dHab σ) (nH σ) (dg1 σ)))) + ((qClause (nI k) (nI 0) σ).toInt64))] (cW G r x945 lx945)
                    refine J_i2l dX11_digest_155 ?_
                    refine J_cSl [.long (31 * (dgF (dCl σ) k (dgF (fun h e => dPlan σ (dHeir σ h e) e) (nE σ) (dgF (dHab σ) (nH σ) (dg1 σ)))) + ((qClause (nI k) (nI 0) σ).toInt64)), .long ((qClause (nI k) (nI 1) σ).toInt64)] ms_X11_306 (c_X11_mix (cW G r x945 lx945) (31 * (dgF (dCl σ) k (dgF (fun h e => dPlan σ (dHeir σ h e) e) (nE σ) (dgF (dHab σ) (nH σ) (dg1 σ)))) + ((qClause (nI k) (nI 0) σ).toInt64)) ((qClause (nI k) (nI 1) σ).toInt64)) rfl rfl (by decide) (Nat.le_of_ble_eq_true rfl) ⟨Nat.le_refl _, Nat.le_refl _⟩ dX11_digest_156 ?_
                    refine J_lstore_n [(0, .ref (r 0)), (1, .long (31 * (31 * (dgF (dCl σ) k (dgF (fun h e => dPlan σ (dHeir σ h e) e) (nE σ) (dgF (dHab σ) (nH σ) (dg1 σ)))) + ((qClause (nI k) (nI 0) σ).toInt64)) + ((qClause (nI k) (nI 1) σ).toInt64))), (3, .int (nI k)), (4, .int (nI 1))] dX11_digest_159 rfl (by decide) rfl rfl rfl ?_
                    refine J_iincN [(0, .ref (r 0)), (1, .long (31 * (31 * (dgF (dCl σ) k (dgF (fun h e => dPlan σ (dHeir σ h e) e) (nE σ) (dgF (dHab σ) (nH σ) (dg1 σ)))) + ((qClause (nI k) (nI 0) σ).toInt64)) + ((qClause (nI k) (nI 1) σ).toInt64))), (3, .int (nI k)), (4, .int (nI 2))] dX11_digest_160 rfl (by decide) rfl rfl rfl ?_
                    refine J_goto 141 dX11_digest_163 (by decide) ?_
                    refine J_iload dX11_digest_141 rfl ?_
                    refine J_iconst (v := nI 3) dX11_digest_143 (by decide) ?_
                    refine J_icmp_gt 166 dX11_digest_144 (by decide) (fun c => absurd c (by decide)) (fun _ => ?_)
                    refine J_lload_n dX11_digest_147 rfl rfl ?_
                    refine J_aload_n dX11_digest_148 rfl rfl ?_
                    refine J_iload_n dX11_digest_149 rfl rfl ?_
                    refine J_iload dX11_digest_150 rfl ?_
                    refine J_callV (wr := []) (As := [.int (nI k), .int (nI 2)]) (st := [.long (31 * (31 * (dgF (dCl σ) k (dgF (fun h e => dPlan σ (dHeir σ h e) e) (nE σ) (dgF (dHab σ) (nH σ) (dg1 σ)))) + ((qClause (nI k) (nI 0) σ).toInt64)) + ((qClause (nI k) (nI 1) σ).toInt64))]) 0 mv_X11_323 (c_X11_clause r x945 lx945 σ hL hC_x945 (nI k) (nI 2)) cW_0 rfl rfl rfl (by decide) (Nat.le_of_ble_eq_true rfl) ⟨Nat.le_refl _, Nat.le_refl _⟩ dX11_digest_152 (fun v_ w_ h_ => ?_)
                    obtain ⟨x946, lx946, rfl, rfl, hC_x946⟩ := h_
                    show J G "digest" RX11 cX11_digest 5 (some .long) 0 0 12 Q 0 0 155 [(0, .ref (r 0)), (1, .long (31 * (31 * (dgF (dCl σ) k (dgF (fun h e => dPlan σ (dHeir σ h e) e) (nE σ) (dgF (dHab σ) (nH σ) (dg1 σ)))) + ((qClause (nI k) (nI 0) σ).toInt64)) + ((qClause (nI k) (nI 1) σ).toInt64))), (3, .int (nI k)), (4, .int (nI 2))] [.int (qClause (nI k) (nI 2) σ), .long (31 * (31 * (dgF (dCl σ) k (dgF (fun h e => dPlan σ (dHeir σ h e) e) (nE σ) (dgF (dHab σ) (nH σ) (dg1 σ)))) + ((qClause (nI k) (nI 0) σ).toInt64)) + ((qClause (nI k) (nI 1) σ).toInt64))] (cW G r x946 lx946)
                    refine J_i2l dX11_digest_155 ?_
                    refine J_cSl [.long (31 * (31 * (dgF (dCl σ) k (dgF (fun h e => dPlan σ (dHeir σ h e) e) (nE σ) (dgF (dHab σ) (nH σ) (dg1 σ)))) + ((qClause (nI k) (nI 0) σ).toInt64)) + ((qClause (nI k) (nI 1) σ).toInt64)), .long ((qClause (nI k) (nI 2) σ).toInt64)] ms_X11_306 (c_X11_mix (cW G r x946 lx946) (31 * (31 * (dgF (dCl σ) k (dgF (fun h e => dPlan σ (dHeir σ h e) e) (nE σ) (dgF (dHab σ) (nH σ) (dg1 σ)))) + ((qClause (nI k) (nI 0) σ).toInt64)) + ((qClause (nI k) (nI 1) σ).toInt64)) ((qClause (nI k) (nI 2) σ).toInt64)) rfl rfl (by decide) (Nat.le_of_ble_eq_true rfl) ⟨Nat.le_refl _, Nat.le_refl _⟩ dX11_digest_156 ?_
                    refine J_lstore_n [(0, .ref (r 0)), (1, .long (31 * (31 * (31 * (dgF (dCl σ) k (dgF (fun h e => dPlan σ (dHeir σ h e) e) (nE σ) (dgF (dHab σ) (nH σ) (dg1 σ)))) + ((qClause (nI k) (nI 0) σ).toInt64)) + ((qClause (nI k) (nI 1) σ).toInt64)) + ((qClause (nI k) (nI 2) σ).toInt64))), (3, .int (nI k)), (4, .int (nI 2))] dX11_digest_159 rfl (by decide) rfl rfl rfl ?_
                    refine J_iincN [(0, .ref (r 0)), (1, .long (31 * (31 * (31 * (dgF (dCl σ) k (dgF (fun h e => dPlan σ (dHeir σ h e) e) (nE σ) (dgF (dHab σ) (nH σ) (dg1 σ)))) + ((qClause (nI k) (nI 0) σ).toInt64)) + ((qClause (nI k) (nI 1) σ).toInt64)) + ((qClause (nI k) (nI 2) σ).toInt64))), (3, .int (nI k)), (4, .int (nI 3))] dX11_digest_160 rfl (by decide) rfl rfl rfl ?_
                    refine J_goto 141 dX11_digest_163 (by decide) ?_
                    refine J_iload dX11_digest_141 rfl ?_
                    refine J_iconst (v := nI 3) dX11_digest_143 (by decide) ?_
                    refine J_icmp_gt 166 dX11_digest_144 (by decide) (fun c => absurd c (by decide)) (fun _ => ?_)
                    refine J_lload_n dX11_digest_147 rfl rfl ?_
                    refine J_aload_n dX11_digest_148 rfl rfl ?_
                    refine J_iload_n dX11_digest_149 rfl rfl ?_
                    refine J_iload dX11_digest_150 rfl ?_
                    refine J_callV (wr := []) (As := [.int (nI k), .int (nI 3)]) (st := [.long (31 * (31 * (31 * (dgF (dCl σ) k (dgF (fun h e => dPlan σ (dHeir σ h e) e) (nE σ) (dgF (dHab σ) (nH σ) (dg1 σ)))) + ((qClause (nI k) (nI 0) σ).toInt64)) + ((qClause (nI k) (nI 1) σ).toInt64)) + ((qClause (nI k) (nI 2) σ).toInt64))]) 0 mv_X11_323 (c_X11_clause r x946 lx946 σ hL hC_x946 (nI k) (nI 3)) cW_0 rfl rfl rfl (by decide) (Nat.le_of_ble_eq_true rfl) ⟨Nat.le_refl _, Nat.le_refl _⟩ dX11_digest_152 (fun v_ w_ h_ => ?_)
                    obtain ⟨x947, lx947, rfl, rfl, hC_x947⟩ := h_
                    show J G "digest" RX11 cX11_digest 5 (some .long) 0 0 12 Q 0 0 155 [(0, .ref (r 0)), (1, .long (31 * (31 * (31 * (dgF (dCl σ) k (dgF (fun h e => dPlan σ (dHeir σ h e) e) (nE σ) (dgF (dHab σ) (nH σ) (dg1 σ)))) + ((qClause (nI k) (nI 0) σ).toInt64)) + ((qClause (nI k) (nI 1) σ).toInt64)) + ((qClause (nI k) (nI 2) σ).toInt64))), (3, .int (nI k)), (4, .int (nI 3))] [.int (qClause (nI k) (nI 3) σ), .long (31 * (31 * (31 * (dgF (dCl σ) k (dgF (fun h e => dPlan σ (dHeir σ h e) e) (nE σ) (dgF (dHab σ) (nH σ) (dg1 σ)))) + ((qClause (nI k) (nI 0) σ).toInt64)) + ((qClause (nI k) (nI 1) σ).toInt64)) + ((qClause (nI k) (nI 2) σ).toInt64))] (cW G r x947 lx947)
                    refine J_i2l dX11_digest_155 ?_
                    refine J_cSl [.long (31 * (31 * (31 * (dgF (dCl σ) k (dgF (fun h e => dPlan σ (dHeir σ h e) e) (nE σ) (dgF (dHab σ) (nH σ) (dg1 σ)))) + ((qClause (nI k) (nI 0) σ).toInt64)) + ((qClause (nI k) (nI 1) σ).toInt64)) + ((qClause (nI k) (nI 2) σ).toInt64)), .long ((qClause (nI k) (nI 3) σ).toInt64)] ms_X11_306 (c_X11_mix (cW G r x947 lx947) (31 * (31 * (31 * (dgF (dCl σ) k (dgF (fun h e => dPlan σ (dHeir σ h e) e) (nE σ) (dgF (dHab σ) (nH σ) (dg1 σ)))) + ((qClause (nI k) (nI 0) σ).toInt64)) + ((qClause (nI k) (nI 1) σ).toInt64)) + ((qClause (nI k) (nI 2) σ).toInt64)) ((qClause (nI k) (nI 3) σ).toInt64)) rfl rfl (by decide) (Nat.le_of_ble_eq_true rfl) ⟨Nat.le_refl _, Nat.le_refl _⟩ dX11_digest_156 ?_
                    refine J_lstore_n [(0, .ref (r 0)), (1, .long (31 * (31 * (31 * (31 * (dgF (dCl σ) k (dgF (fun h e => dPlan σ (dHeir σ h e) e) (nE σ) (dgF (dHab σ) (nH σ) (dg1 σ)))) + ((qClause (nI k) (nI 0) σ).toInt64)) + ((qClause (nI k) (nI 1) σ).toInt64)) + ((qClause (nI k) (nI 2) σ).toInt64)) + ((qClause (nI k) (nI 3) σ).toInt64))), (3, .int (nI k)), (4, .int (nI 3))] dX11_digest_159 rfl (by decide) rfl rfl rfl ?_
                    refine J_iincN [(0, .ref (r 0)), (1, .long (31 * (31 * (31 * (31 * (dgF (dCl σ) k (dgF (fun h e => dPlan σ (dHeir σ h e) e) (nE σ) (dgF (dHab σ) (nH σ) (dg1 σ)))) + ((qClause (nI k) (nI 0) σ).toInt64)) + ((qClause (nI k) (nI 1) σ).toInt64)) + ((qClause (nI k) (nI 2) σ).toInt64)) + ((qClause (nI k) (nI 3) σ).toInt64))), (3, .int (nI k)), (4, .int (nI 4))] dX11_digest_160 rfl (by decide) rfl rfl rfl ?_
                    refine J_goto 141 dX11_digest_163 (by decide) ?_
                    refine J_iload dX11_digest_141 rfl ?_
                    refine J_iconst (v := nI 3) dX11_digest_143 (by decide) ?_
                    refine J_icmp_gt 166 dX11_digest_144 (by decide) (fun _ => ?_) (fun c => absurd c (by decide))
                    refine J_iincN [(0, .ref (r 0)), (1, .long (31 * (31 * (31 * (31 * (dgF (dCl σ) k (dgF (fun h e => dPlan σ (dHeir σ h e) e) (nE σ) (dgF (dHab σ) (nH σ) (dg1 σ)))) + ((qClause (nI k) (nI 0) σ).toInt64)) + ((qClause (nI k) (nI 1) σ).toInt64)) + ((qClause (nI k) (nI 2) σ).toInt64)) + ((qClause (nI k) (nI 3) σ).toInt64))), (3, .int (nI (k + 1))), (4, .int (nI 4))] dX11_digest_166 rfl (by decide) rfl rfl rfl ?_
                    refine J_goto 124 dX11_digest_169 (by decide) ?_
                    refine J_lv [0, 1, 2] rfl ?_
                    exact ih124 (k + 1) x947 lx947 (by omega) (by omega) hC_x947 _ _ ((show _ = dCl σ _ k from rfl).trans (dgF_s (dCl σ) _ _).symm) rfl
              exact L124 (nC σ + 1) 0 y ly (by omega) (by omega) hCy _ _ (dgF_0 _ _).symm rfl
            · refine J_aload_n dX11_digest_104 rfl rfl ?_
              refine J_aload_n dX11_digest_105 rfl rfl ?_
              refine J_lload_n dX11_digest_106 rfl rfl ?_
              refine J_iload_n dX11_digest_107 rfl rfl ?_
              refine J_callV (wr := []) (As := [.long (dgF (fun h e => dPlan σ (dHeir σ h e) e) k (dgF (dHab σ) (nH σ) (dg1 σ))), .int (nI k)]) (st := [.ref (r 0)]) 0 mv_X11_317 (c_X11_mixHeir r y ly σ hL hCy (dgF (fun h e => dPlan σ (dHeir σ h e) e) k (dgF (dHab σ) (nH σ) (dg1 σ))) k) cW_0 rfl rfl rfl (by decide) (Nat.le_of_ble_eq_true rfl) ⟨Nat.le_refl _, Nat.le_refl _⟩ dX11_digest_108 (fun v_ w_ h_ => ?_)
              obtain ⟨x948, lx948, rfl, rfl, hC_x948⟩ := h_
              show J G "digest" RX11 cX11_digest 5 (some .long) 0 0 12 Q 0 0 111 [(0, .ref (r 0)), (1, .long (dgF (fun h e => dPlan σ (dHeir σ h e) e) k (dgF (dHab σ) (nH σ) (dg1 σ)))), (3, .int (nI k))] [.long (dHeir σ (dgF (fun h e => dPlan σ (dHeir σ h e) e) k (dgF (dHab σ) (nH σ) (dg1 σ))) k), .ref (r 0)] (cW G r x948 lx948)
              refine J_iload_n dX11_digest_111 rfl rfl ?_
              refine J_callV (wr := []) (As := [.long (dHeir σ (dgF (fun h e => dPlan σ (dHeir σ h e) e) k (dgF (dHab σ) (nH σ) (dg1 σ))) k), .int (nI k)]) (st := []) 0 mv_X11_320 (c_X11_mixPlansOf r x948 lx948 σ hL hC_x948 (dHeir σ (dgF (fun h e => dPlan σ (dHeir σ h e) e) k (dgF (dHab σ) (nH σ) (dg1 σ))) k) k) cW_0 rfl rfl rfl (by decide) (Nat.le_of_ble_eq_true rfl) ⟨Nat.le_refl _, Nat.le_refl _⟩ dX11_digest_112 (fun v_ w_ h_ => ?_)
              obtain ⟨x949, lx949, rfl, rfl, hC_x949⟩ := h_
              show J G "digest" RX11 cX11_digest 5 (some .long) 0 0 12 Q 0 0 115 [(0, .ref (r 0)), (1, .long (dgF (fun h e => dPlan σ (dHeir σ h e) e) k (dgF (dHab σ) (nH σ) (dg1 σ)))), (3, .int (nI k))] [.long (dPlan σ (dHeir σ (dgF (fun h e => dPlan σ (dHeir σ h e) e) k (dgF (dHab σ) (nH σ) (dg1 σ))) k) k)] (cW G r x949 lx949)
              refine J_lstore_n [(0, .ref (r 0)), (1, .long (dPlan σ (dHeir σ (dgF (fun h e => dPlan σ (dHeir σ h e) e) k (dgF (dHab σ) (nH σ) (dg1 σ))) k) k)), (3, .int (nI k))] dX11_digest_115 rfl (by decide) rfl rfl rfl ?_
              refine J_iincN [(0, .ref (r 0)), (1, .long (dPlan σ (dHeir σ (dgF (fun h e => dPlan σ (dHeir σ h e) e) k (dgF (dHab σ) (nH σ) (dg1 σ))) k) k)), (3, .int (nI (k + 1)))] dX11_digest_116 rfl (by decide) rfl rfl rfl ?_
              refine J_goto 87 dX11_digest_119 (by decide) ?_
              exact ih87 (k + 1) x949 lx949 (by omega) (by omega) hC_x949 _ _ (dgF_s (fun h e => dPlan σ (dHeir σ h e) e) _ _).symm rfl
        exact L87 (nE σ + 1) 0 y ly (by omega) (by omega) hCy _ _ (dgF_0 _ _).symm rfl
      · refine J_aload_n dX11_digest_72 rfl rfl ?_
        refine J_lload_n dX11_digest_73 rfl rfl ?_
        refine J_iload_n dX11_digest_74 rfl rfl ?_
        refine J_callV (wr := []) (As := [.long (dgF (dHab σ) k (dg1 σ)), .int (nI k)]) (st := []) 0 mv_X11_313 (c_X11_mixHabit r y ly σ hL hCy (dgF (dHab σ) k (dg1 σ)) k) cW_0 rfl rfl rfl (by decide) (Nat.le_of_ble_eq_true rfl) ⟨Nat.le_refl _, Nat.le_refl _⟩ dX11_digest_75 (fun v_ w_ h_ => ?_)
        obtain ⟨x950, lx950, rfl, rfl, hC_x950⟩ := h_
        show J G "digest" RX11 cX11_digest 5 (some .long) 0 0 12 Q 0 0 78 [(0, .ref (r 0)), (1, .long (dgF (dHab σ) k (dg1 σ))), (3, .int (nI k))] [.long (dHab σ (dgF (dHab σ) k (dg1 σ)) k)] (cW G r x950 lx950)
        refine J_lstore_n [(0, .ref (r 0)), (1, .long (dHab σ (dgF (dHab σ) k (dg1 σ)) k)), (3, .int (nI k))] dX11_digest_78 rfl (by decide) rfl rfl rfl ?_
        refine J_iincN [(0, .ref (r 0)), (1, .long (dHab σ (dgF (dHab σ) k (dg1 σ)) k)), (3, .int (nI (k + 1)))] dX11_digest_79 rfl (by decide) rfl rfl rfl ?_
        refine J_goto 55 dX11_digest_82 (by decide) ?_
        exact ih55 (k + 1) x950 lx950 (by omega) (by omega) hC_x950 _ _ (dgF_s (dHab σ) _ _).symm rfl
  exact L55 (nH σ + 1) 0 x936 lx936 (by omega) (by omega) hC_x936 _ _ (dgF_0 _ _).symm rfl
theorem c_X11_digest {G : GT} (r : Nat → Nat) (s : St) (l : Nat → Int64) (σ : St) (hL : LI σ) (hC : CI σ s)  : Ct G yX11_digest cX11_digest 5 (some .long) 0 0 12 [.ref (r 0)] (cW G r s l) (QCL G r (qDigest σ) σ) := Ct.of rfl (Nat.le_of_ble_eq_true rfl) (j_X11_digest r s l σ hL hC (fun x lx a h1 h2 => ⟨x, lx, by rw [h1], rfl, h2⟩))
