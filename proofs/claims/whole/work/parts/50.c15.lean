theorem fin_bS (σ : St) : bsR (nH σ) (min (nH σ) 6) (min (nE σ) 4) (HbS σ) (HeS σ) (0 * (min (nE σ) 4 + 1) ^ (min (nH σ) 6 - 0)) ((min (nE σ) 4 + 1) ^ (min (nH σ) 6 - 0)) (-1, nI 0) = bS σ := by
  rw [Nat.zero_mul]; exact (bsF_R _).symm
theorem kp_row {σ : St} {y : Nat → Int32} (h : KPo (min (nE σ) 4 + 1) (min (nH σ) 6) (bS σ) y) : ∀ k, k < 6 → y k = lyW (min (nE σ) 4 + 1) (bS σ).2.toNatClampNeg (min (nH σ) 6) k := by
  rcases h with h | ⟨c, e, hc, h⟩
  · exact absurd h (bsF_ne (nH_le σ) (nE_le σ) HeS_nn)
  · rw [e, nI_clamp hc]; exact h
theorem bk_eq (σ : St) (i : Nat) : lyW (min (nE σ) 4 + 1) (bS σ).2.toNatClampNeg (min (nH σ) 6) i = bkS σ i := by
  unfold bkS
  split
  · exact lyW_out _ (by omega)
  · rfl

set_option maxRecDepth 100000 in
set_option maxHeartbeats 1000000 in
theorem j_X6_find1 {G : GT} (r : Nat → Nat) (s : St) (l : Nat → Int64) (hkn : s 66 0 = nI 1) {Q : Option Value → va_W → Prop} (hq : Q none (cW G r s l)) : J G "find" RX6 cX6_find 3 none 0 0 9 Q 0 0 0 [(0, .ref (r 9)), (1, .ref (r 2))] [] (cW G r s l) := by
  refine J_aload_n dX6_find_0 rfl rfl ?_
  refine Cg_9_8 (s := s) fr_X6_38_5 (s 66 0) rfl dX6_find_1 ?_
  refine J_rw (y := nI 1) hkn ?_
  refine J_if_eq 8 dX6_find_4 (by decide) (fun c => absurd c (by decide)) (fun _ => ?_)
  exact J_vret dX6_find_7 rfl rfl rfl hq
theorem c_X6_find1 {G : GT} (r : Nat → Nat) (s : St) (l : Nat → Int64) (hkn : s 66 0 = nI 1) : Ct G yX6_find cX6_find 3 none 0 0 9 [.ref (r 9), .ref (r 2)] (cW G r s l) (fun v w => v = none ∧ w = cW G r s l) := Ct.of rfl (Nat.le_of_ble_eq_true rfl) (j_X6_find1 r s l hkn ⟨rfl, rfl⟩)
set_option maxRecDepth 100000 in
set_option maxHeartbeats 1000000 in
theorem j_X6_keeperOf {G : GT} (r : Nat → Nat) (s : St) (l : Nat → Int64) (k : Nat) (hk6 : k < 6) {Q : Option Value → va_W → Prop} (hq : ∀ v_ : Int32, v_ = s 46 k → Q (some (.int v_)) (cW G r s l)) : J G "keeperOf" RX6 cX6_keeperOf 2 (some .int) 0 0 1 Q 0 0 0 [(0, .ref (r 9)), (1, .int (nI k))] [] (cW G r s l) := by
  refine J_iload_n dX6_keeperOf_0 rfl rfl ?_
  refine J_bipush (v := nI 6) dX6_keeperOf_1 (by decide) ?_
  refine J_cNi [.int (nI k), .int (nI 6)] mn_X6_82 (c_X11_isBelowN (cW G r s l) (nI k) 6) rfl rfl (by decide) (Nat.le_of_ble_eq_true rfl) ⟨Nat.le_refl _, Nat.le_refl _⟩ dX6_keeperOf_3 ?_
  refine J_if_eqB 18 dX6_keeperOf_6 (by decide) (fun c => absurd c (by rw [(show rng (nI k) 6 = true from rng_of hk6 (by decide))]; decide)) (fun _ => ?_)
  refine J_aload_n dX6_keeperOf_9 rfl rfl ?_
  refine Cg_9_1 fr_X6_15_5 dX6_keeperOf_10 ?_
  refine J_iload_n dX6_keeperOf_13 rfl rfl ?_
  refine Cl_46 (s := s) (s 46) rfl k rfl (by omega) dX6_keeperOf_14 ?_
  refine J_goto 19 dX6_keeperOf_15 (by decide) ?_
  exact J_iret dX6_keeperOf_19 rfl rfl rfl (hq _ rfl)
theorem c_X6_keeperOf {G : GT} (r : Nat → Nat) (s : St) (l : Nat → Int64) (k : Nat) (hk6 : k < 6) : Ct G yX6_keeperOf cX6_keeperOf 2 (some .int) 0 0 1 [.ref (r 9), .int (nI k)] (cW G r s l) (Is (some (.int (s 46 k))) (cW G r s l)) := Ct.of rfl (Nat.le_of_ble_eq_true rfl) (j_X6_keeperOf r s l k hk6 (fun _ e => by subst e; exact Is.rf _ _))
theorem c_X6_findC {G : GT} (r : Nat → Nat) (s : St) (l : Nat → Int64) (σ : St) (hC : CI σ s) : Ct G yX6_find cX6_find 3 none 0 0 9 [.ref (r 9), .ref (r 2)] (cW G r s l) (fun v w => ∃ (x : St) (lx : Nat → Int64), v = none ∧ w = cW G r x lx ∧ CI σ x ∧ x 65 0 = (bS σ).1 ∧ ∀ k, k < 6 → x 46 k = lyW (min (nE σ) 4 + 1) (bS σ).2.toNatClampNeg (min (nH σ) 6) k) := by
  rcases hC.2.2.2.2.2.2.2.2 with hkn | ⟨hkn, hmo, hkp⟩
  · refine Ct.of rfl (Nat.le_of_ble_eq_true rfl) (j_X6_find r s l (nH σ) hC.n (nH_le σ) (HbS σ) (hbS σ) hC.hR (hbOk σ) (nE σ) hC.m (nE_le σ) (HeS σ) (awS σ) hC.hE (awOk σ) _ rfl _ rfl hkn (fun w_ y45 y46 y48 y65 l2 h1 h2 h3 => ?_))
    rw [fin_bS] at h2 h3
    have h4 := kp_row h3
    exact ⟨_, l2, rfl, h1, ⟨hC.1, hC.2.1, hC.2.2.1, hC.2.2.2.1, hC.2.2.2.2.1, hC.2.2.2.2.2.1, hC.2.2.2.2.2.2.1, hC.2.2.2.2.2.2.2.1, Or.inr ⟨rfl, h2, h4⟩⟩, h2, h4⟩
  · exact Ct.of rfl (Nat.le_of_ble_eq_true rfl) (j_X6_find1 r s l hkn ⟨s, l, rfl, rfl, hC, hmo, hkp⟩)

set_option maxRecDepth 100000 in
set_option maxHeartbeats 1000000 in
theorem j_X11_best {G : GT} (r : Nat → Nat) (s : St) (l : Nat → Int64) (σ : St) (hL : LI σ) (hC : CI σ s) (i : Int32) {Q : Option Value → va_W → Prop} (hq : ∀ (x : St) (lx : Nat → Int64) (a : Int32 × St), a = (qBest i σ, σ) → CI a.2 x → Q (some (.int a.1)) (cW G r x lx)) : J G "best" RX11 cX11_best 2 (some .int) 0 0 10 Q 0 0 0 [(0, .ref (r 0)), (1, .int i)] [] (cW G r s l) := by
  refine J_iload_n dX11_best_0 rfl rfl ?_
  refine J_iconst (v := -1) dX11_best_1 (by decide) ?_
  refine J_icmp_eq 17 dX11_best_2 (by decide) (fun kcz1 => ?_) (fun kcz1 => ?_)
  · refine J_aload_n dX11_best_17 rfl rfl ?_
    refine Cg_0_3 fr_X11_33_10 dX11_best_18 ?_
    refine J_aload_n dX11_best_21 rfl rfl ?_
    refine Cg_0_0 fr_X11_10_10 dX11_best_22 ?_
    refine Cg_1_0 fr_X11_76_1 dX11_best_25 ?_
    refine J_callV (wr := []) (As := [.ref (r 2)]) (st := []) 9 mv_X11_201 (c_X6_findC r s l σ hC) cW_9 rfl rfl rfl (by decide) (Nat.le_of_ble_eq_true rfl) ⟨Nat.le_refl _, Nat.le_refl _⟩ dX11_best_28 (fun v_ w_ h_ => ?_)
    obtain ⟨x, lx, rfl, rfl, hC9, hm9, hk9⟩ := h_
    show J G "best" RX11 cX11_best 2 (some .int) 0 0 10 Q 0 0 31 [(0, .ref (r 0)), (1, .int i)] [] (cW G r x lx)
    refine J_iload_n dX11_best_31 rfl rfl ?_
    refine J_iconst (v := -1) dX11_best_32 (by decide) ?_
    refine J_icmp_ne 46 dX11_best_33 (by decide) (fun c => absurd kcz1 c) (fun _ => ?_)
    refine J_aload_n dX11_best_36 rfl rfl ?_
    refine Cg_0_3 fr_X11_33_10 dX11_best_37 ?_
    refine Cg_9_7 (s := x) fr_X11_205_5 (x 65 0) rfl dX11_best_40 ?_
    refine J_rw (y := (bS σ).1) hm9 ?_
    refine J_goto 54 dX11_best_43 (by decide) ?_
    exact J_iret dX11_best_54 rfl rfl rfl (hq x lx ((bS σ).1, σ) (by first | exact absurd kcz1 kcz1 | simp [qBest, kcz1]) hC9)
  · refine J_iload_n dX11_best_5 rfl rfl ?_
    refine J_bipush (v := nI 6) dX11_best_6 (by decide) ?_
    refine J_cSi [.int i, .int (nI 6)] ms_X11_48 (c_X11_isBelowN (cW G r s l) i 6) rfl rfl (by decide) (Nat.le_of_ble_eq_true rfl) ⟨Nat.le_refl _, Nat.le_refl _⟩ dX11_best_8 ?_
    refine J_if_neB 17 dX11_best_11 (by decide) (fun kcz2 => ?_) (fun kcz2 => ?_)
    · obtain ⟨I9, hI9, rfl⟩ := (rng_iff (by omega)).mp kcz2
      have eI9 : (nI I9).toNatClampNeg = I9 := nI_clamp (by omega)
      refine J_aload_n dX11_best_17 rfl rfl ?_
      refine Cg_0_3 fr_X11_33_10 dX11_best_18 ?_
      refine J_aload_n dX11_best_21 rfl rfl ?_
      refine Cg_0_0 fr_X11_10_10 dX11_best_22 ?_
      refine Cg_1_0 fr_X11_76_1 dX11_best_25 ?_
      refine J_callV (wr := []) (As := [.ref (r 2)]) (st := []) 9 mv_X11_201 (c_X6_findC r s l σ hC) cW_9 rfl rfl rfl (by decide) (Nat.le_of_ble_eq_true rfl) ⟨Nat.le_refl _, Nat.le_refl _⟩ dX11_best_28 (fun v_ w_ h_ => ?_)
      obtain ⟨x, lx, rfl, rfl, hC9, hm9, hk9⟩ := h_
      show J G "best" RX11 cX11_best 2 (some .int) 0 0 10 Q 0 0 31 [(0, .ref (r 0)), (1, .int (nI I9))] [] (cW G r x lx)
      refine J_iload_n dX11_best_31 rfl rfl ?_
      refine J_iconst (v := -1) dX11_best_32 (by decide) ?_
      refine J_icmp_ne 46 dX11_best_33 (by decide) (fun kcz3 => ?_) (fun kcz3 => ?_)
      · refine J_aload_n dX11_best_46 rfl rfl ?_
        refine Cg_0_3 fr_X11_33_10 dX11_best_47 ?_
        refine J_iload_n dX11_best_50 rfl rfl ?_
        refine J_cVi (x := yX12_in) [.int (nI I9)] 9 mv_X11_208 (c_X6_keeperOf r x lx I9 (by omega)) cW_9 rfl rfl (by decide) (Nat.le_of_ble_eq_true rfl) ⟨Nat.le_refl _, Nat.le_refl _⟩ dX11_best_51 ?_
        refine J_rw (y := bkS σ I9) ((hk9 I9 (by omega)).trans (bk_eq σ I9)) ?_
        exact J_iret dX11_best_54 rfl rfl rfl (hq x lx (bkS σ I9, σ) (by first | exact absurd kcz3 kcz1 | simp [qBest, kcz1, kcz2, eI9, kcz3]) hC9)
      · refine J_aload_n dX11_best_36 rfl rfl ?_
        refine Cg_0_3 fr_X11_33_10 dX11_best_37 ?_
        refine Cg_9_7 (s := x) fr_X11_205_5 (x 65 0) rfl dX11_best_40 ?_
        refine J_rw (y := (bS σ).1) hm9 ?_
        refine J_goto 54 dX11_best_43 (by decide) ?_
        exact J_iret dX11_best_54 rfl rfl rfl (hq x lx ((bS σ).1, σ) (by first | exact absurd kcz3 kcz1 | simp [qBest, kcz1, kcz2, eI9, kcz3]) hC9)
    · refine J_bipush (v := -2) dX11_best_14 (by decide) ?_
      exact J_iret dX11_best_16 rfl rfl rfl (hq s l ((-2), σ) (by first | exact absurd kcz2 kcz1 | simp [qBest, kcz1, kcz2]) hC)
theorem c_X11_best {G : GT} (r : Nat → Nat) (s : St) (l : Nat → Int64) (σ : St) (hL : LI σ) (hC : CI σ s) (i : Int32) : Ct G yX11_best cX11_best 2 (some .int) 0 0 10 [.ref (r 0), .int i] (cW G r s l) (QC G r ((qBest i σ, σ))) := Ct.of rfl (Nat.le_of_ble_eq_true rfl) (j_X11_best r s l σ hL hC i (fun x lx a h1 h2 => ⟨x, lx, by rw [h1], rfl, by rw [← h1]; exact h2⟩))
