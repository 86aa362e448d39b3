theorem wrF_256 {n m c : Nat} {Hb He Cl : Nat → Int32} {rf : Nat} {Rf : Nat → Int32} {q : Nat} (hn : n ≤ 8) : wrF n m c Hb He Cl rf Rf q (2 ^ n) = -1 ∨ ∃ j, j < 256 ∧ wrF n m c Hb He Cl rf Rf q (2 ^ n) = nI j := by
  have h2 : 2 ^ n ≤ 256 := Nat.pow_le_pow_right (by decide) hn
  rcases wrF_rng n m c Hb He Cl rf Rf q (2 ^ n) with h | ⟨j, hj, h⟩
  · exact Or.inl h
  · exact Or.inr ⟨j, by omega, h⟩
theorem Fnn.lk {σ x : St} (h : Fnn σ x) {hb q : Nat} (hq : q < nE σ) : (lkF (fun t => moF (dzM (nH σ) (x 9) (x 10) (x 17) hb q t) (whF (nH σ) (nE σ) (x 9) (x 10) (x 17) (x 22) (sgn σ) hb (nE σ + 1)) 7) 23).1 = lkS σ hb q := by
  unfold lkS whS
  rw [h.2.2.1, whF_cg h.1.2.2.2.2.1 h.1.2.2.2.2.2.1 _ _ _ _ (nH_le σ) (nE_le σ), h.1.c (k := 22) rfl]
  congr 2
  funext t
  rw [dzM_hcg h.1.2.2.2.2.1 h.1.2.2.2.2.2.1 _ _ hq t (nH_le σ)]
theorem Pd.rfs {σ x : St} (h : Pd σ x) {ab : Int32} : rfsM (rfn σ) (x 13) ab 0 = rfS σ := by
  funext q hb
  rw [rfsM_0, h.c (k := 13) rfl]; rfl
theorem Fnn.wl {σ x : St} (h : Fnn σ x) {ab : Int32} : wlF (nH σ) (nE σ) (x 11) (rfsM (rfn σ) (x 13) ab 0) (nC σ) = wlS σ := by
  rw [h.1.c (k := 13) rfl]; exact wl_can h.1.2.2.2.2.2.2
theorem Fnn.w17 {σ x : St} (h : Fnn σ x) : Fnn σ (su 17 x (wlS σ).1) := by
  obtain ⟨⟨h1, h2, h3, h4, h5, h6, h7⟩, h8, h9, h10⟩ := h
  exact ⟨⟨(cnu_out rfl).trans h1, h2, h3, h4, h5, h6, h7⟩, h8, rfl, h10⟩
theorem Fnn.w18 {σ x : St} (h : Fnn σ x) : Fnn σ (su 18 x (fun _ => nI (wlS σ).2)) := by
  obtain ⟨⟨h1, h2, h3, h4, h5, h6, h7⟩, h8, h9, h10⟩ := h
  exact ⟨⟨(cnu_out rfl).trans h1, h2, h3, h4, h5, h6, h7⟩, h8, h9, rfl⟩
theorem Fnn.w15 {σ x : St} (h : Fnn σ x) : Fnn σ (su 15 x (fun _ => nI 0)) := by
  obtain ⟨⟨h1, h2, h3, h4, h5, h6, h7⟩, h8, h9, h10⟩ := h
  exact ⟨⟨(cnu_out rfl).trans h1, h2, h3, h4, h5, h6, h7⟩, rfl, h9, h10⟩
theorem Fnn.wills {σ x : St} (h : Fnn σ x) {ab ab2 : Int32} {f : Nat → Int32} : Fnn σ (su 24 (su 18 (su 17 x (wlF (nH σ) (nE σ) (x 11) (rfsM (rfn σ) (x 13) ab 0) (nC σ)).1) (fun _ => nI (wlF (nH σ) (nE σ) (x 11) (rfsM (rfn σ) (x 13) ab2 0) (nC σ)).2)) f) := by
  rw [h.wl, h.wl]
  exact (h.w17.w18).sk rfl (by decide)
theorem Fnn.writ {σ x : St} (h : Fnn σ x) {ab ab2 : Int32} {f : Nat → Int32} : Fnn σ (su 18 (su 17 (su 15 (su 14 x f) (fun _ => nI 0)) (wlF (nH σ) (nE σ) (x 11) (rfsM (rfn σ) (x 13) ab 0) (nC σ)).1) (fun _ => nI (wlF (nH σ) (nE σ) (x 11) (rfsM (rfn σ) (x 13) ab2 0) (nC σ)).2)) := by
  rw [h.wl, h.wl]
  exact ((h.sk (k := 14) rfl (by decide)).w15.w17).w18

set_option maxRecDepth 100000 in
set_option maxHeartbeats 1000000 in
theorem j_X12_with {G : GT} (o : Nat) (a : Nat → Nat) (s : Nat → Nat → Int32) (hL : LI (cn s)) (h : Int32) {Q : Option Value → va_W → Prop} (hq : ∀ (x : St) (r : Int32 × St), r = (qWith h (cn s), (cn s)) → cn x = r.2 → Q (some (.int r.1)) (mW G o a x)) : J G "with" RX12 cX12_with 2 (some .int) 0 0 8 Q 0 0 0 [(0, .ref o), (1, .int h)] [] (mW G o a s) := by
  obtain ⟨n, en⟩ : ∃ n, n = nH (cn s) := ⟨_, rfl⟩
  obtain ⟨m, em⟩ : ∃ m, m = nE (cn s) := ⟨_, rfl⟩
  obtain ⟨c, ec⟩ : ∃ c, c = nC (cn s) := ⟨_, rfl⟩
  obtain ⟨rf, erf⟩ : ∃ rf, rf = rfn (cn s) := ⟨_, rfl⟩
  obtain ⟨sg, esg⟩ : ∃ sg, sg = sgn (cn s) := ⟨_, rfl⟩
  have hn8 : n ≤ 8 := by rw [en]; exact nH_le _
  have hm6 : m ≤ 6 := by rw [em]; exact nE_le _
  have hc15 : c ≤ 15 := by rw [ec]; exact nC_le _
  have hrf12 : rf ≤ 12 := by rw [erf]; exact hL.R.2.1
  have hsg8 : sg ≤ 8 := by rw [esg]; exact hL.S.2.1
  refine J_aload_n dX12_with_0 rfl rfl ?_
  refine J_callV (wr := []) (As := []) (st := []) 0 mv_X12_171 (c_X12_find o a s (tl (cn s) 0) (tl (cn s) 1) (tl (cn s) 2) (hL.T (by decide)).1 (hL.T (by decide)).1 (hL.T (by decide)).1 hL.t0.2 hL.t1.2 hL.t2.2 (rfn (cn s)) hL.R.1 hL.R.2.1) mW_0 rfl rfl rfl (by decide) (Nat.le_of_ble_eq_true rfl) ⟨Nat.le_refl _, Nat.le_refl _⟩ dX12_with_1 (fun v_ w_ h_ => ?_)
  obtain ⟨x1, rfl, rfl, hx1⟩ := h_
  have hF1 : Fnn (cn s) x1 := fnd_fd hx1
  have hP1 := hF1.1
  have hn : x1 8 0 = nI n := by rw [en]; exact hP1.2.1
  have hm : x1 8 1 = nI m := by rw [em]; exact hP1.2.2.1
  have hc : x1 8 2 = nI c := by rw [ec]; exact hP1.2.2.2.1
  have rwH : Rw 5 n (x1 9) (HbS (cn s)) := by rw [en]; exact hP1.2.2.2.2.1
  have rwE : Rw 3 m (x1 10) (HeS (cn s)) := by rw [em]; exact hP1.2.2.2.2.2.1
  have rwC : Rw 4 c (x1 11) (ClS (cn s)) := by rw [ec]; exact hP1.2.2.2.2.2.2
  have hCl : ∀ k, k < c → x1 11 (4 * k + 3) = -1 ∨ ∃ j, j < 8 ∧ x1 11 (4 * k + 3) = nI j := by rw [ec]; exact hP1.ask
  have hHe : ∀ e, e < m → ¬ x1 10 (3 * e) < nI 0 := by rw [em]; exact hP1.room
  have hrf : x1 12 0 = nI rf := by rw [erf]; exact (congrFun (hP1.c (k := 12) rfl) 0).trans hL.rf.1
  have hsg : x1 21 0 = nI sg := by rw [esg]; exact (congrFun (hP1.c (k := 21) rfl) 0).trans hL.sg.1
  have hSg : ∀ k, k < sg → ∃ t, t < 24 ∧ x1 22 (3 * k) = nI t := by rw [esg, hP1.c (k := 22) rfl]; exact fun k hk => (hL.sg.2.2 k hk).1
  have hc_x1 : cn x1 = (cn s) := hP1.1
  have hao : x1 15 0 = nI 0 := hF1.2.1
  have h17 := hF1.2.2.1
  have h18 := hF1.2.2.2
  show J G "with" RX12 cX12_with 2 (some .int) 0 0 8 Q 0 0 4 [(0, .ref o), (1, .int h)] [] (mW G o a x1)
  refine J_aload_n dX12_with_4 rfl rfl ?_
  refine J_iload_n dX12_with_5 rfl rfl ?_
  refine J_cVi (x := yX12_in) [.int h] 0 mv_X12_128 (c_X12_isHabit o a x1 n hn hn8 h) mW_0 rfl rfl (by decide) (Nat.le_of_ble_eq_true rfl) ⟨Nat.le_refl _, Nat.le_refl _⟩ dX12_with_6 ?_
  refine J_if_eqB 21 dX12_with_9 (by decide) (fun kcz1 => ?_) (fun kcz1 => ?_)
  · refine J_bipush (v := -2) dX12_with_21 (by decide) ?_
    exact J_iret dX12_with_23 rfl rfl rfl (hq x1 ((-2), (cn s)) (by subst en em ec erf esg; simp [qWith, kcz1, cn_0, cn_1, cn_2, cn_4, cn_5, cn_6, cn_12, cn_13, cn_16, cn_21, cn_22]) (by rw [hc_x1]))
  · obtain ⟨H, hH, rfl⟩ := (rng_iff (by omega)).mp kcz1
    have eH : (nI H).toNatClampNeg = H := nI_clamp (by omega)
    refine J_aload_n dX12_with_12 rfl rfl ?_
    refine Mg_17 dX12_with_13 ?_
    refine J_iload_n dX12_with_16 rfl rfl ?_
    refine Ml_17 (s := x1) (x1 17) rfl H rfl (by omega) dX12_with_17 ?_
    refine J_goto 23 dX12_with_18 (by decide) ?_
    exact J_iret dX12_with_23 rfl rfl rfl (hq x1 (x1 17 H, (cn s)) (by subst en em ec erf esg; rw [h17]; simp [qWith, kcz1, eH, cn_0, cn_1, cn_2, cn_4, cn_5, cn_6, cn_12, cn_13, cn_16, cn_21, cn_22]) (by rw [hc_x1]))
theorem c_X12_with {G : GT} (o : Nat) (a : Nat → Nat) (s : Nat → Nat → Int32) (hL : LI (cn s)) (h : Int32) : Ct G yX12_with cX12_with 2 (some .int) 0 0 8 [.ref o, .int h] (mW G o a s) (QM G o a ((qWith h (cn s), (cn s)))) := Ct.of rfl (Nat.le_of_ble_eq_true rfl) (j_X12_with o a s hL h (fun x r h1 h2 => ⟨x, by rw [h1], rfl, by rw [← h1]; exact h2⟩))
set_option maxRecDepth 100000 in
set_option maxHeartbeats 1000000 in
theorem j_X12_habit {G : GT} (o : Nat) (a : Nat → Nat) (s : Nat → Nat → Int32) (hL : LI (cn s)) (h w : Int32) {Q : Option Value → va_W → Prop} (hq : ∀ (x : St) (r : Int32 × St), r = (qHabit h w (cn s), (cn s)) → cn x = r.2 → Q (some (.int r.1)) (mW G o a x)) : J G "habit" RX12 cX12_habit 3 (some .int) 0 0 7 Q 0 0 0 [(0, .ref o), (1, .int h), (2, .int w)] [] (mW G o a s) := by
  obtain ⟨n, en⟩ : ∃ n, n = nH (cn s) := ⟨_, rfl⟩
  obtain ⟨m, em⟩ : ∃ m, m = nE (cn s) := ⟨_, rfl⟩
  obtain ⟨c, ec⟩ : ∃ c, c = nC (cn s) := ⟨_, rfl⟩
  obtain ⟨rf, erf⟩ : ∃ rf, rf = rfn (cn s) := ⟨_, rfl⟩
  obtain ⟨sg, esg⟩ : ∃ sg, sg = sgn (cn s) := ⟨_, rfl⟩
  have hn8 : n ≤ 8 := by rw [en]; exact nH_le _
  have hm6 : m ≤ 6 := by rw [em]; exact nE_le _
  have hc15 : c ≤ 15 := by rw [ec]; exact nC_le _
  have hrf12 : rf ≤ 12 := by rw [erf]; exact hL.R.2.1
  have hsg8 : sg ≤ 8 := by rw [esg]; exact hL.S.2.1
  refine J_aload_n dX12_habit_0 rfl rfl ?_
  refine J_callV (wr := []) (As := []) (st := []) 0 mv_X12_125 (c_X12_reads o a s (tl (cn s) 0) (tl (cn s) 1) (tl (cn s) 2) (hL.T (by decide)).1 (hL.T (by decide)).1 (hL.T (by decide)).1 hL.t0.2 hL.t1.2 hL.t2.2) mW_0 rfl rfl rfl (by decide) (Nat.le_of_ble_eq_true rfl) ⟨Nat.le_refl _, Nat.le_refl _⟩ dX12_habit_1 (fun v_ w_ h_ => ?_)
  obtain ⟨x1, rfl, rfl, hx1⟩ := h_
  have hP1 : Pd (cn s) x1 := prs_pd hx1
  have hn : x1 8 0 = nI n := by rw [en]; exact hP1.2.1
  have hm : x1 8 1 = nI m := by rw [em]; exact hP1.2.2.1
  have hc : x1 8 2 = nI c := by rw [ec]; exact hP1.2.2.2.1
  have rwH : Rw 5 n (x1 9) (HbS (cn s)) := by rw [en]; exact hP1.2.2.2.2.1
  have rwE : Rw 3 m (x1 10) (HeS (cn s)) := by rw [em]; exact hP1.2.2.2.2.2.1
  have rwC : Rw 4 c (x1 11) (ClS (cn s)) := by rw [ec]; exact hP1.2.2.2.2.2.2
  have hCl : ∀ k, k < c → x1 11 (4 * k + 3) = -1 ∨ ∃ j, j < 8 ∧ x1 11 (4 * k + 3) = nI j := by rw [ec]; exact hP1.ask
  have hHe : ∀ e, e < m → ¬ x1 10 (3 * e) < nI 0 := by rw [em]; exact hP1.room
  have hrf : x1 12 0 = nI rf := by rw [erf]; exact (congrFun (hP1.c (k := 12) rfl) 0).trans hL.rf.1
  have hsg : x1 21 0 = nI sg := by rw [esg]; exact (congrFun (hP1.c (k := 21) rfl) 0).trans hL.sg.1
  have hSg : ∀ k, k < sg → ∃ t, t < 24 ∧ x1 22 (3 * k) = nI t := by rw [esg, hP1.c (k := 22) rfl]; exact fun k hk => (hL.sg.2.2 k hk).1
  have hc_x1 : cn x1 = (cn s) := hP1.1
  show J G "habit" RX12 cX12_habit 3 (some .int) 0 0 7 Q 0 0 4 [(0, .ref o), (1, .int h), (2, .int w)] [] (mW G o a x1)
  refine J_aload_n dX12_habit_4 rfl rfl ?_
  refine J_iload_n dX12_habit_5 rfl rfl ?_
  refine J_cVi (x := yX12_in) [.int h] 0 mv_X12_128 (c_X12_isHabit o a x1 n hn hn8 h) mW_0 rfl rfl (by decide) (Nat.le_of_ble_eq_true rfl) ⟨Nat.le_refl _, Nat.le_refl _⟩ dX12_habit_6 ?_
  refine J_if_eqB 37 dX12_habit_9 (by decide) (fun kcz1 => ?_) (fun kcz1 => ?_)
  · refine J_bipush (v := -2) dX12_habit_37 (by decide) ?_
    exact J_iret dX12_habit_39 rfl rfl rfl (hq x1 ((-2), (cn s)) (by subst en em ec erf esg; simp [qHabit, kcz1, cn_0, cn_1, cn_2, cn_4, cn_5, cn_6, cn_12, cn_13, cn_16, cn_21, cn_22]) (by rw [hc_x1]))
  · obtain ⟨H, hH, rfl⟩ := (rng_iff (by omega)).mp kcz1
    have eH : (nI H).toNatClampNeg = H := nI_clamp (by omega)
    refine J_iload_n dX12_habit_12 rfl rfl ?_
    refine J_i2l dX12_habit_13 ?_
    refine J_lconst (v := 0) dX12_habit_14 (by decide) ?_
    refine J_ldc2 dX12_habit_15 k_X12_131 ?_
    refine J_cSi [.long w.toInt64, .long 0, .long (4)] ms_X12_57 (c_X12_in (mW G o a x1) w.toInt64 0 (4)) rfl rfl (by decide) (Nat.le_of_ble_eq_true rfl) ⟨Nat.le_refl _, Nat.le_refl _⟩ dX12_habit_18 ?_
    refine J_rw (y := bI (rng w 5)) (congrArg bI (inL_rng w (by decide) rfl)) ?_
    refine J_if_eqB 37 dX12_habit_21 (by decide) (fun kcz2 => ?_) (fun kcz2 => ?_)
    · refine J_bipush (v := -2) dX12_habit_37 (by decide) ?_
      exact J_iret dX12_habit_39 rfl rfl rfl (hq x1 ((-2), (cn s)) (by subst en em ec erf esg; simp [qHabit, kcz1, eH, kcz2, cn_0, cn_1, cn_2, cn_4, cn_5, cn_6, cn_12, cn_13, cn_16, cn_21, cn_22]) (by rw [hc_x1]))
    · obtain ⟨Wn, hWn, rfl⟩ := (rng_iff (by omega)).mp kcz2
      have eWn : (nI Wn).toNatClampNeg = Wn := nI_clamp (by omega)
      refine J_aload_n dX12_habit_24 rfl rfl ?_
      refine Mg_9 dX12_habit_25 ?_
      refine J_iconst (v := nI 5) dX12_habit_28 (by decide) ?_
      refine J_iload_n dX12_habit_29 rfl rfl ?_
      refine J_imulN dX12_habit_30 ?_
      refine J_iload_n dX12_habit_31 rfl rfl ?_
      refine J_iaddN dX12_habit_32 ?_
      refine Ml_9 (s := x1) (x1 9) rfl (5 * H + Wn) rfl (by omega) dX12_habit_33 ?_
      refine J_goto 39 dX12_habit_34 (by decide) ?_
      exact J_iret dX12_habit_39 rfl rfl rfl (hq x1 (x1 9 (5 * H + Wn), (cn s)) (by subst en em ec erf esg; rw [rwH.at hH _ hWn]; simp [qHabit, kcz1, eH, kcz2, eWn, cn_0, cn_1, cn_2, cn_4, cn_5, cn_6, cn_12, cn_13, cn_16, cn_21, cn_22]) (by rw [hc_x1]))
theorem c_X12_habit {G : GT} (o : Nat) (a : Nat → Nat) (s : Nat → Nat → Int32) (hL : LI (cn s)) (h w : Int32) : Ct G yX12_habit cX12_habit 3 (some .int) 0 0 7 [.ref o, .int h, .int w] (mW G o a s) (QM G o a ((qHabit h w (cn s), (cn s)))) := Ct.of rfl (Nat.le_of_ble_eq_true rfl) (j_X12_habit o a s hL h w (fun x r h1 h2 => ⟨x, by rw [h1], rfl, by rw [← h1]; exact h2⟩))
set_option maxRecDepth 100000 in
set_option maxHeartbeats 1000000 in
theorem j_X12_heir {G : GT} (o : Nat) (a : Nat → Nat) (s : Nat → Nat → Int32) (hL : LI (cn s)) (h w : Int32) {Q : Option Value → va_W → Prop} (hq : ∀ (x : St) (r : Int32 × St), r = (qHeir h w (cn s), (cn s)) → cn x = r.2 → Q (some (.int r.1)) (mW G o a x)) : J G "heir" RX12 cX12_heir 3 (some .int) 0 0 7 Q 0 0 0 [(0, .ref o), (1, .int h), (2, .int w)] [] (mW G o a s) := by
  obtain ⟨n, en⟩ : ∃ n, n = nH (cn s) := ⟨_, rfl⟩
  obtain ⟨m, em⟩ : ∃ m, m = nE (cn s) := ⟨_, rfl⟩
  obtain ⟨c, ec⟩ : ∃ c, c = nC (cn s) := ⟨_, rfl⟩
  obtain ⟨rf, erf⟩ : ∃ rf, rf = rfn (cn s) := ⟨_, rfl⟩
  obtain ⟨sg, esg⟩ : ∃ sg, sg = sgn (cn s) := ⟨_, rfl⟩
  have hn8 : n ≤ 8 := by rw [en]; exact nH_le _
  have hm6 : m ≤ 6 := by rw [em]; exact nE_le _
  have hc15 : c ≤ 15 := by rw [ec]; exact nC_le _
  have hrf12 : rf ≤ 12 := by rw [erf]; exact hL.R.2.1
  have hsg8 : sg ≤ 8 := by rw [esg]; exact hL.S.2.1
  refine J_aload_n dX12_heir_0 rfl rfl ?_
  refine J_callV (wr := []) (As := []) (st := []) 0 mv_X12_125 (c_X12_reads o a s (tl (cn s) 0) (tl (cn s) 1) (tl (cn s) 2) (hL.T (by decide)).1 (hL.T (by decide)).1 (hL.T (by decide)).1 hL.t0.2 hL.t1.2 hL.t2.2) mW_0 rfl rfl rfl (by decide) (Nat.le_of_ble_eq_true rfl) ⟨Nat.le_refl _, Nat.le_refl _⟩ dX12_heir_1 (fun v_ w_ h_ => ?_)
  obtain ⟨x1, rfl, rfl, hx1⟩ := h_
  have hP1 : Pd (cn s) x1 := prs_pd hx1
  have hn : x1 8 0 = nI n := by rw [en]; exact hP1.2.1
  have hm : x1 8 1 = nI m := by rw [em]; exact hP1.2.2.1
  have hc : x1 8 2 = nI c := by rw [ec]; exact hP1.2.2.2.1
  have rwH : Rw 5 n (x1 9) (HbS (cn s)) := by rw [en]; exact hP1.2.2.2.2.1
  have rwE : Rw 3 m (x1 10) (HeS (cn s)) := by rw [em]; exact hP1.2.2.2.2.2.1
  have rwC : Rw 4 c (x1 11) (ClS (cn s)) := by rw [ec]; exact hP1.2.2.2.2.2.2
  have hCl : ∀ k, k < c → x1 11 (4 * k + 3) = -1 ∨ ∃ j, j < 8 ∧ x1 11 (4 * k + 3) = nI j := by rw [ec]; exact hP1.ask
  have hHe : ∀ e, e < m → ¬ x1 10 (3 * e) < nI 0 := by rw [em]; exact hP1.room
  have hrf : x1 12 0 = nI rf := by rw [erf]; exact (congrFun (hP1.c (k := 12) rfl) 0).trans hL.rf.1
  have hsg : x1 21 0 = nI sg := by rw [esg]; exact (congrFun (hP1.c (k := 21) rfl) 0).trans hL.sg.1
  have hSg : ∀ k, k < sg → ∃ t, t < 24 ∧ x1 22 (3 * k) = nI t := by rw [esg, hP1.c (k := 22) rfl]; exact fun k hk => (hL.sg.2.2 k hk).1
  have hc_x1 : cn x1 = (cn s) := hP1.1
  show J G "heir" RX12 cX12_heir 3 (some .int) 0 0 7 Q 0 0 4 [(0, .ref o), (1, .int h), (2, .int w)] [] (mW G o a x1)
  refine J_aload_n dX12_heir_4 rfl rfl ?_
  refine J_iload_n dX12_heir_5 rfl rfl ?_
  refine J_cVi (x := yX12_in) [.int h] 0 mv_X12_133 (c_X12_isHeir o a x1 m hm hm6 h) mW_0 rfl rfl (by decide) (Nat.le_of_ble_eq_true rfl) ⟨Nat.le_refl _, Nat.le_refl _⟩ dX12_heir_6 ?_
  refine J_if_eqB 37 dX12_heir_9 (by decide) (fun kcz1 => ?_) (fun kcz1 => ?_)
  · refine J_bipush (v := -2) dX12_heir_37 (by decide) ?_
    exact J_iret dX12_heir_39 rfl rfl rfl (hq x1 ((-2), (cn s)) (by subst en em ec erf esg; simp [qHeir, kcz1, cn_0, cn_1, cn_2, cn_4, cn_5, cn_6, cn_12, cn_13, cn_16, cn_21, cn_22]) (by rw [hc_x1]))
  · obtain ⟨H, hH, rfl⟩ := (rng_iff (by omega)).mp kcz1
    have eH : (nI H).toNatClampNeg = H := nI_clamp (by omega)
    refine J_iload_n dX12_heir_12 rfl rfl ?_
    refine J_i2l dX12_heir_13 ?_
    refine J_lconst (v := 0) dX12_heir_14 (by decide) ?_
    refine J_ldc2 dX12_heir_15 k_X12_71 ?_
    refine J_cSi [.long w.toInt64, .long 0, .long (2)] ms_X12_57 (c_X12_in (mW G o a x1) w.toInt64 0 (2)) rfl rfl (by decide) (Nat.le_of_ble_eq_true rfl) ⟨Nat.le_refl _, Nat.le_refl _⟩ dX12_heir_18 ?_
    refine J_rw (y := bI (rng w 3)) (congrArg bI (inL_rng w (by decide) rfl)) ?_
    refine J_if_eqB 37 dX12_heir_21 (by decide) (fun kcz2 => ?_) (fun kcz2 => ?_)
    · refine J_bipush (v := -2) dX12_heir_37 (by decide) ?_
      exact J_iret dX12_heir_39 rfl rfl rfl (hq x1 ((-2), (cn s)) (by subst en em ec erf esg; simp [qHeir, kcz1, eH, kcz2, cn_0, cn_1, cn_2, cn_4, cn_5, cn_6, cn_12, cn_13, cn_16, cn_21, cn_22]) (by rw [hc_x1]))
    · obtain ⟨Wn, hWn, rfl⟩ := (rng_iff (by omega)).mp kcz2
      have eWn : (nI Wn).toNatClampNeg = Wn := nI_clamp (by omega)
      refine J_aload_n dX12_heir_24 rfl rfl ?_
      refine Mg_10 dX12_heir_25 ?_
      refine J_iconst (v := nI 3) dX12_heir_28 (by decide) ?_
      refine J_iload_n dX12_heir_29 rfl rfl ?_
      refine J_imulN dX12_heir_30 ?_
      refine J_iload_n dX12_heir_31 rfl rfl ?_
      refine J_iaddN dX12_heir_32 ?_
      refine Ml_10 (s := x1) (x1 10) rfl (3 * H + Wn) rfl (by omega) dX12_heir_33 ?_
      refine J_goto 39 dX12_heir_34 (by decide) ?_
      exact J_iret dX12_heir_39 rfl rfl rfl (hq x1 (x1 10 (3 * H + Wn), (cn s)) (by subst en em ec erf esg; rw [rwE.at hH _ hWn]; simp [qHeir, kcz1, eH, kcz2, eWn, cn_0, cn_1, cn_2, cn_4, cn_5, cn_6, cn_12, cn_13, cn_16, cn_21, cn_22]) (by rw [hc_x1]))
theorem c_X12_heir {G : GT} (o : Nat) (a : Nat → Nat) (s : Nat → Nat → Int32) (hL : LI (cn s)) (h w : Int32) : Ct G yX12_heir cX12_heir 3 (some .int) 0 0 7 [.ref o, .int h, .int w] (mW G o a s) (QM G o a ((qHeir h w (cn s), (cn s)))) := Ct.of rfl (Nat.le_of_ble_eq_true rfl) (j_X12_heir o a s hL h w (fun x r h1 h2 => ⟨x, by rw [h1], rfl, by rw [← h1]; exact h2⟩))
set_option maxRecDepth 100000 in
set_option maxHeartbeats 1000000 in
theorem j_X12_clause {G : GT} (o : Nat) (a : Nat → Nat) (s : Nat → Nat → Int32) (hL : LI (cn s)) (h w : Int32) {Q : Option Value → va_W → Prop} (hq : ∀ (x : St) (r : Int32 × St), r = (qClause h w (cn s), (cn s)) → cn x = r.2 → Q (some (.int r.1)) (mW G o a x)) : J G "clause" RX12 cX12_clause 3 (some .int) 0 0 7 Q 0 0 0 [(0, .ref o), (1, .int h), (2, .int w)] [] (mW G o a s) := by
  obtain ⟨n, en⟩ : ∃ n, n = nH (cn s) := ⟨_, rfl⟩
  obtain ⟨m, em⟩ : ∃ m, m = nE (cn s) := ⟨_, rfl⟩
  obtain ⟨c, ec⟩ : ∃ c, c = nC (cn s) := ⟨_, rfl⟩
  obtain ⟨rf, erf⟩ : ∃ rf, rf = rfn (cn s) := ⟨_, rfl⟩
  obtain ⟨sg, esg⟩ : ∃ sg, sg = sgn (cn s) := ⟨_, rfl⟩
  have hn8 : n ≤ 8 := by rw [en]; exact nH_le _
  have hm6 : m ≤ 6 := by rw [em]; exact nE_le _
  have hc15 : c ≤ 15 := by rw [ec]; exact nC_le _
  have hrf12 : rf ≤ 12 := by rw [erf]; exact hL.R.2.1
  have hsg8 : sg ≤ 8 := by rw [esg]; exact hL.S.2.1
  refine J_aload_n dX12_clause_0 rfl rfl ?_
  refine J_callV (wr := []) (As := []) (st := []) 0 mv_X12_125 (c_X12_reads o a s (tl (cn s) 0) (tl (cn s) 1) (tl (cn s) 2) (hL.T (by decide)).1 (hL.T (by decide)).1 (hL.T (by decide)).1 hL.t0.2 hL.t1.2 hL.t2.2) mW_0 rfl rfl rfl (by decide) (Nat.le_of_ble_eq_true rfl) ⟨Nat.le_refl _, Nat.le_refl _⟩ dX12_clause_1 (fun v_ w_ h_ => ?_)
  obtain ⟨x1, rfl, rfl, hx1⟩ := h_
  have hP1 : Pd (cn s) x1 := prs_pd hx1
  have hn : x1 8 0 = nI n := by rw [en]; exact hP1.2.1
  have hm : x1 8 1 = nI m := by rw [em]; exact hP1.2.2.1
  have hc : x1 8 2 = nI c := by rw [ec]; exact hP1.2.2.2.1
  have rwH : Rw 5 n (x1 9) (HbS (cn s)) := by rw [en]; exact hP1.2.2.2.2.1
  have rwE : Rw 3 m (x1 10) (HeS (cn s)) := by rw [em]; exact hP1.2.2.2.2.2.1
  have rwC : Rw 4 c (x1 11) (ClS (cn s)) := by rw [ec]; exact hP1.2.2.2.2.2.2
  have hCl : ∀ k, k < c → x1 11 (4 * k + 3) = -1 ∨ ∃ j, j < 8 ∧ x1 11 (4 * k + 3) = nI j := by rw [ec]; exact hP1.ask
  have hHe : ∀ e, e < m → ¬ x1 10 (3 * e) < nI 0 := by rw [em]; exact hP1.room
  have hrf : x1 12 0 = nI rf := by rw [erf]; exact (congrFun (hP1.c (k := 12) rfl) 0).trans hL.rf.1
  have hsg : x1 21 0 = nI sg := by rw [esg]; exact (congrFun (hP1.c (k := 21) rfl) 0).trans hL.sg.1
  have hSg : ∀ k, k < sg → ∃ t, t < 24 ∧ x1 22 (3 * k) = nI t := by rw [esg, hP1.c (k := 22) rfl]; exact fun k hk => (hL.sg.2.2 k hk).1
  have hc_x1 : cn x1 = (cn s) := hP1.1
  show J G "clause" RX12 cX12_clause 3 (some .int) 0 0 7 Q 0 0 4 [(0, .ref o), (1, .int h), (2, .int w)] [] (mW G o a x1)
  refine J_iload_n dX12_clause_4 rfl rfl ?_
  refine J_i2l dX12_clause_5 ?_
  refine J_lconst (v := 0) dX12_clause_6 (by decide) ?_
  refine J_aload_n dX12_clause_7 rfl rfl ?_
  refine Mg_8 dX12_clause_8 ?_
  refine J_iconst (v := nI 2) dX12_clause_11 (by decide) ?_
  refine Ml_8 (s := x1) (x1 8) rfl 2 rfl (by omega) dX12_clause_12 ?_
  refine J_rw (y := nI c) hc ?_
  refine J_iconst (v := nI 1) dX12_clause_13 (by decide) ?_
  refine J_isub dX12_clause_14 ?_
  refine J_i2l dX12_clause_15 ?_
  refine J_cSi [.long h.toInt64, .long 0, .long (((nI c) - (nI 1)).toInt64)] ms_X12_57 (c_X12_in (mW G o a x1) h.toInt64 0 (((nI c) - (nI 1)).toInt64)) rfl rfl (by decide) (Nat.le_of_ble_eq_true rfl) ⟨Nat.le_refl _, Nat.le_refl _⟩ dX12_clause_16 ?_
  refine J_rw (y := bI (rng h c)) (congrArg bI (inL_rng h (by omega) rfl)) ?_
  refine J_if_eqB 47 dX12_clause_19 (by decide) (fun kcz1 => ?_) (fun kcz1 => ?_)
  · refine J_bipush (v := -2) dX12_clause_47 (by decide) ?_
    exact J_iret dX12_clause_49 rfl rfl rfl (hq x1 ((-2), (cn s)) (by subst en em ec erf esg; simp [qClause, kcz1, cn_0, cn_1, cn_2, cn_4, cn_5, cn_6, cn_12, cn_13, cn_16, cn_21, cn_22]) (by rw [hc_x1]))
  · obtain ⟨H, hH, rfl⟩ := (rng_iff (by omega)).mp kcz1
    have eH : (nI H).toNatClampNeg = H := nI_clamp (by omega)
    refine J_iload_n dX12_clause_22 rfl rfl ?_
    refine J_i2l dX12_clause_23 ?_
    refine J_lconst (v := 0) dX12_clause_24 (by decide) ?_
    refine J_ldc2 dX12_clause_25 k_X12_65 ?_
    refine J_cSi [.long w.toInt64, .long 0, .long (3)] ms_X12_57 (c_X12_in (mW G o a x1) w.toInt64 0 (3)) rfl rfl (by decide) (Nat.le_of_ble_eq_true rfl) ⟨Nat.le_refl _, Nat.le_refl _⟩ dX12_clause_28 ?_
    refine J_rw (y := bI (rng w 4)) (congrArg bI (inL_rng w (by decide) rfl)) ?_
    refine J_if_eqB 47 dX12_clause_31 (by decide) (fun kcz2 => ?_) (fun kcz2 => ?_)
    · refine J_bipush (v := -2) dX12_clause_47 (by decide) ?_
      exact J_iret dX12_clause_49 rfl rfl rfl (hq x1 ((-2), (cn s)) (by subst en em ec erf esg; simp [qClause, kcz1, eH, kcz2, cn_0, cn_1, cn_2, cn_4, cn_5, cn_6, cn_12, cn_13, cn_16, cn_21, cn_22]) (by rw [hc_x1]))
    · obtain ⟨Wn, hWn, rfl⟩ := (rng_iff (by omega)).mp kcz2
      have eWn : (nI Wn).toNatClampNeg = Wn := nI_clamp (by omega)
      refine J_aload_n dX12_clause_34 rfl rfl ?_
      refine Mg_11 dX12_clause_35 ?_
      refine J_iconst (v := nI 4) dX12_clause_38 (by decide) ?_
      refine J_iload_n dX12_clause_39 rfl rfl ?_
      refine J_imulN dX12_clause_40 ?_
      refine J_iload_n dX12_clause_41 rfl rfl ?_
      refine J_iaddN dX12_clause_42 ?_
      refine Ml_11 (s := x1) (x1 11) rfl (4 * H + Wn) rfl (by omega) dX12_clause_43 ?_
      refine J_goto 49 dX12_clause_44 (by decide) ?_
      exact J_iret dX12_clause_49 rfl rfl rfl (hq x1 (x1 11 (4 * H + Wn), (cn s)) (by subst en em ec erf esg; rw [rwC.at hH _ hWn]; simp [qClause, kcz1, eH, kcz2, eWn, cn_0, cn_1, cn_2, cn_4, cn_5, cn_6, cn_12, cn_13, cn_16, cn_21, cn_22]) (by rw [hc_x1]))
theorem c_X12_clause {G : GT} (o : Nat) (a : Nat → Nat) (s : Nat → Nat → Int32) (hL : LI (cn s)) (h w : Int32) : Ct G yX12_clause cX12_clause 3 (some .int) 0 0 7 [.ref o, .int h, .int w] (mW G o a s) (QM G o a ((qClause h w (cn s), (cn s)))) := Ct.of rfl (Nat.le_of_ble_eq_true rfl) (j_X12_clause o a s hL h w (fun x r h1 h2 => ⟨x, by rw [h1], rfl, by rw [← h1]; exact h2⟩))
set_option maxRecDepth 100000 in
set_option maxHeartbeats 1000000 in
theorem j_X12_has {G : GT} (o : Nat) (a : Nat → Nat) (s : Nat → Nat → Int32) (hL : LI (cn s)) (e w : Int32) {Q : Option Value → va_W → Prop} (hq : ∀ (x : St) (r : Int32 × St), r = (qHas e w (cn s), (cn s)) → cn x = r.2 → Q (some (.int r.1)) (mW G o a x)) : J G "has" RX12 cX12_has 3 (some .int) 0 0 8 Q 0 0 0 [(0, .ref o), (1, .int e), (2, .int w)] [] (mW G o a s) := by
  obtain ⟨n, en⟩ : ∃ n, n = nH (cn s) := ⟨_, rfl⟩
  obtain ⟨m, em⟩ : ∃ m, m = nE (cn s) := ⟨_, rfl⟩
  obtain ⟨c, ec⟩ : ∃ c, c = nC (cn s) := ⟨_, rfl⟩
  obtain ⟨rf, erf⟩ : ∃ rf, rf = rfn (cn s) := ⟨_, rfl⟩
  obtain ⟨sg, esg⟩ : ∃ sg, sg = sgn (cn s) := ⟨_, rfl⟩
  have hn8 : n ≤ 8 := by rw [en]; exact nH_le _
  have hm6 : m ≤ 6 := by rw [em]; exact nE_le _
  have hc15 : c ≤ 15 := by rw [ec]; exact nC_le _
  have hrf12 : rf ≤ 12 := by rw [erf]; exact hL.R.2.1
  have hsg8 : sg ≤ 8 := by rw [esg]; exact hL.S.2.1
  refine J_aload_n dX12_has_0 rfl rfl ?_
  refine J_callV (wr := []) (As := []) (st := []) 0 mv_X12_171 (c_X12_find o a s (tl (cn s) 0) (tl (cn s) 1) (tl (cn s) 2) (hL.T (by decide)).1 (hL.T (by decide)).1 (hL.T (by decide)).1 hL.t0.2 hL.t1.2 hL.t2.2 (rfn (cn s)) hL.R.1 hL.R.2.1) mW_0 rfl rfl rfl (by decide) (Nat.le_of_ble_eq_true rfl) ⟨Nat.le_refl _, Nat.le_refl _⟩ dX12_has_1 (fun v_ w_ h_ => ?_)
  obtain ⟨x1, rfl, rfl, hx1⟩ := h_
  have hF1 : Fnn (cn s) x1 := fnd_fd hx1
  have hP1 := hF1.1
  have hn : x1 8 0 = nI n := by rw [en]; exact hP1.2.1
  have hm : x1 8 1 = nI m := by rw [em]; exact hP1.2.2.1
  have hc : x1 8 2 = nI c := by rw [ec]; exact hP1.2.2.2.1
  have rwH : Rw 5 n (x1 9) (HbS (cn s)) := by rw [en]; exact hP1.2.2.2.2.1
  have rwE : Rw 3 m (x1 10) (HeS (cn s)) := by rw [em]; exact hP1.2.2.2.2.2.1
  have rwC : Rw 4 c (x1 11) (ClS (cn s)) := by rw [ec]; exact hP1.2.2.2.2.2.2
  have hCl : ∀ k, k < c → x1 11 (4 * k + 3) = -1 ∨ ∃ j, j < 8 ∧ x1 11 (4 * k + 3) = nI j := by rw [ec]; exact hP1.ask
  have hHe : ∀ e, e < m → ¬ x1 10 (3 * e) < nI 0 := by rw [em]; exact hP1.room
  have hrf : x1 12 0 = nI rf := by rw [erf]; exact (congrFun (hP1.c (k := 12) rfl) 0).trans hL.rf.1
  have hsg : x1 21 0 = nI sg := by rw [esg]; exact (congrFun (hP1.c (k := 21) rfl) 0).trans hL.sg.1
  have hSg : ∀ k, k < sg → ∃ t, t < 24 ∧ x1 22 (3 * k) = nI t := by rw [esg, hP1.c (k := 22) rfl]; exact fun k hk => (hL.sg.2.2 k hk).1
  have hc_x1 : cn x1 = (cn s) := hP1.1
  have hao : x1 15 0 = nI 0 := hF1.2.1
  have h17 := hF1.2.2.1
  have h18 := hF1.2.2.2
  show J G "has" RX12 cX12_has 3 (some .int) 0 0 8 Q 0 0 4 [(0, .ref o), (1, .int e), (2, .int w)] [] (mW G o a x1)
  refine J_aload_n dX12_has_4 rfl rfl ?_
  refine J_iload_n dX12_has_5 rfl rfl ?_
  refine J_cVi (x := yX12_in) [.int e] 0 mv_X12_133 (c_X12_isHeir o a x1 m hm hm6 e) mW_0 rfl rfl (by decide) (Nat.le_of_ble_eq_true rfl) ⟨Nat.le_refl _, Nat.le_refl _⟩ dX12_has_6 ?_
  refine J_if_eqB 33 dX12_has_9 (by decide) (fun kcz1 => ?_) (fun kcz1 => ?_)
  · refine J_bipush (v := -2) dX12_has_33 (by decide) ?_
    exact J_iret dX12_has_35 rfl rfl rfl (hq x1 ((-2), (cn s)) (by subst en em ec erf esg; simp [qHas, hsA, kcz1, cn_0, cn_1, cn_2, cn_4, cn_5, cn_6, cn_12, cn_13, cn_16, cn_21, cn_22]) (by rw [hc_x1]))
  · obtain ⟨E, hE, rfl⟩ := (rng_iff (by omega)).mp kcz1
    have eE : (nI E).toNatClampNeg = E := nI_clamp (by omega)
    refine J_iload_n dX12_has_12 rfl rfl ?_
    refine J_i2l dX12_has_13 ?_
    refine J_lconst (v := 0) dX12_has_14 (by decide) ?_
    refine J_ldc2 dX12_has_15 k_X12_65 ?_
    refine J_cSi [.long w.toInt64, .long 0, .long (3)] ms_X12_57 (c_X12_in (mW G o a x1) w.toInt64 0 (3)) rfl rfl (by decide) (Nat.le_of_ble_eq_true rfl) ⟨Nat.le_refl _, Nat.le_refl _⟩ dX12_has_18 ?_
    refine J_rw (y := bI (rng w 4)) (congrArg bI (inL_rng w (by decide) rfl)) ?_
    refine J_if_eqB 33 dX12_has_21 (by decide) (fun kcz2 => ?_) (fun kcz2 => ?_)
    · refine J_bipush (v := -2) dX12_has_33 (by decide) ?_
      exact J_iret dX12_has_35 rfl rfl rfl (hq x1 ((-2), (cn s)) (by subst en em ec erf esg; simp [qHas, hsA, kcz1, eE, kcz2, cn_0, cn_1, cn_2, cn_4, cn_5, cn_6, cn_12, cn_13, cn_16, cn_21, cn_22]) (by rw [hc_x1]))
    · obtain ⟨Wn, hWn, rfl⟩ := (rng_iff (by omega)).mp kcz2
      have eWn : (nI Wn).toNatClampNeg = Wn := nI_clamp (by omega)
      rcases (show Wn = 0 ∨ Wn = 1 ∨ Wn = 2 ∨ Wn = 3 by omega) with rfl | rfl | rfl | rfl
      · refine J_aload_n dX12_has_24 rfl rfl ?_
        refine J_iload_n dX12_has_25 rfl rfl ?_
        refine J_iload_n dX12_has_26 rfl rfl ?_
        refine J_cVi (x := yX12_in) [.int (nI E), .int (nI 0)] 0 mv_X12_201 (c_X12_hasOf0 o a x1 n hn hn8 E (by omega)) mW_0 rfl rfl (by decide) (Nat.le_of_ble_eq_true rfl) ⟨Nat.le_refl _, Nat.le_refl _⟩ dX12_has_27 ?_
        refine J_goto 35 dX12_has_30 (by decide) ?_
        exact J_iret dX12_has_35 rfl rfl rfl (hq x1 (nI (hasM n (x1 17) E), (cn s)) (by subst en em ec erf esg; rw [h17]; simp [qHas, hsA, kcz1, eE, kcz2, eWn, cn_0, cn_1, cn_2, cn_4, cn_5, cn_6, cn_12, cn_13, cn_16, cn_21, cn_22]) (by rw [hc_x1]))
      · refine J_aload_n dX12_has_24 rfl rfl ?_
        refine J_iload_n dX12_has_25 rfl rfl ?_
        refine J_iload_n dX12_has_26 rfl rfl ?_
        refine J_cVi (x := yX12_in) [.int (nI E), .int (nI 1)] 0 mv_X12_201 (c_X12_hasOf1 o a x1 n hn hn8 E (by omega)) mW_0 rfl rfl (by decide) (Nat.le_of_ble_eq_true rfl) ⟨Nat.le_refl _, Nat.le_refl _⟩ dX12_has_27 ?_
        refine J_goto 35 dX12_has_30 (by decide) ?_
        exact J_iret dX12_has_35 rfl rfl rfl (hq x1 (nI (canNowM n (x1 9) (x1 10) (x1 17) E), (cn s)) (by subst en em ec erf esg; rw [h17, canNowM_cg rwH rwE _ hE]; simp [qHas, hsA, kcz1, eE, kcz2, eWn, cn_0, cn_1, cn_2, cn_4, cn_5, cn_6, cn_12, cn_13, cn_16, cn_21, cn_22]) (by rw [hc_x1]))
      · refine J_aload_n dX12_has_24 rfl rfl ?_
        refine J_iload_n dX12_has_25 rfl rfl ?_
        refine J_iload_n dX12_has_26 rfl rfl ?_
        refine J_cVi (x := yX12_in) [.int (nI E), .int (nI 2)] 0 mv_X12_201 (c_X12_hasOf2 o a x1 n hn hn8 E (by omega)) mW_0 rfl rfl (by decide) (Nat.le_of_ble_eq_true rfl) ⟨Nat.le_refl _, Nat.le_refl _⟩ dX12_has_27 ?_
        refine J_goto 35 dX12_has_30 (by decide) ?_
        exact J_iret dX12_has_35 rfl rfl rfl (hq x1 (wrM n (x1 9) (x1 17) E, (cn s)) (by subst en em ec erf esg; rw [h17, wrM_cg rwH]; simp [qHas, hsA, kcz1, eE, kcz2, eWn, cn_0, cn_1, cn_2, cn_4, cn_5, cn_6, cn_12, cn_13, cn_16, cn_21, cn_22]) (by rw [hc_x1]))
      · refine J_aload_n dX12_has_24 rfl rfl ?_
        refine J_iload_n dX12_has_25 rfl rfl ?_
        refine J_iload_n dX12_has_26 rfl rfl ?_
        refine J_cVi (x := yX12_in) [.int (nI E), .int (nI 3)] 0 mv_X12_201 (c_X12_hasOf3 o a x1 n hn hn8 E (by omega)) mW_0 rfl rfl (by decide) (Nat.le_of_ble_eq_true rfl) ⟨Nat.le_refl _, Nat.le_refl _⟩ dX12_has_27 ?_
        refine J_goto 35 dX12_has_30 (by decide) ?_
        exact J_iret dX12_has_35 rfl rfl rfl (hq x1 (bI (livM n (x1 9) (x1 10) (x1 17) E), (cn s)) (by subst en em ec erf esg; rw [h17, livM_cg rwH rwE _ hE]; simp [qHas, hsA, kcz1, eE, kcz2, eWn, cn_0, cn_1, cn_2, cn_4, cn_5, cn_6, cn_12, cn_13, cn_16, cn_21, cn_22]) (by rw [hc_x1]))
theorem c_X12_has {G : GT} (o : Nat) (a : Nat → Nat) (s : Nat → Nat → Int32) (hL : LI (cn s)) (e w : Int32) : Ct G yX12_has cX12_has 3 (some .int) 0 0 8 [.ref o, .int e, .int w] (mW G o a s) (QM G o a ((qHas e w (cn s), (cn s)))) := Ct.of rfl (Nat.le_of_ble_eq_true rfl) (j_X12_has o a s hL e w (fun x r h1 h2 => ⟨x, by rw [h1], rfl, by rw [← h1]; exact h2⟩))
set_option maxRecDepth 100000 in
set_option maxHeartbeats 1000000 in
theorem j_X12_does {G : GT} (o : Nat) (a : Nat → Nat) (s : Nat → Nat → Int32) (hL : LI (cn s)) (e t : Int32) {Q : Option Value → va_W → Prop} (hq : ∀ (x : St) (r : Int32 × St), r = (qDoes e t (cn s), (cn s)) → cn x = r.2 → Q (some (.int r.1)) (mW G o a x)) : J G "does" RX12 cX12_does 3 (some .int) 0 0 8 Q 0 0 0 [(0, .ref o), (1, .int e), (2, .int t)] [] (mW G o a s) := by
  obtain ⟨n, en⟩ : ∃ n, n = nH (cn s) := ⟨_, rfl⟩
  obtain ⟨m, em⟩ : ∃ m, m = nE (cn s) := ⟨_, rfl⟩
  obtain ⟨c, ec⟩ : ∃ c, c = nC (cn s) := ⟨_, rfl⟩
  obtain ⟨rf, erf⟩ : ∃ rf, rf = rfn (cn s) := ⟨_, rfl⟩
  obtain ⟨sg, esg⟩ : ∃ sg, sg = sgn (cn s) := ⟨_, rfl⟩
  have hn8 : n ≤ 8 := by rw [en]; exact nH_le _
  have hm6 : m ≤ 6 := by rw [em]; exact nE_le _
  have hc15 : c ≤ 15 := by rw [ec]; exact nC_le _
  have hrf12 : rf ≤ 12 := by rw [erf]; exact hL.R.2.1
  have hsg8 : sg ≤ 8 := by rw [esg]; exact hL.S.2.1
  refine J_aload_n dX12_does_0 rfl rfl ?_
  refine J_callV (wr := []) (As := []) (st := []) 0 mv_X12_171 (c_X12_find o a s (tl (cn s) 0) (tl (cn s) 1) (tl (cn s) 2) (hL.T (by decide)).1 (hL.T (by decide)).1 (hL.T (by decide)).1 hL.t0.2 hL.t1.2 hL.t2.2 (rfn (cn s)) hL.R.1 hL.R.2.1) mW_0 rfl rfl rfl (by decide) (Nat.le_of_ble_eq_true rfl) ⟨Nat.le_refl _, Nat.le_refl _⟩ dX12_does_1 (fun v_ w_ h_ => ?_)
  obtain ⟨x1, rfl, rfl, hx1⟩ := h_
  have hF1 : Fnn (cn s) x1 := fnd_fd hx1
  have hP1 := hF1.1
  have hn : x1 8 0 = nI n := by rw [en]; exact hP1.2.1
  have hm : x1 8 1 = nI m := by rw [em]; exact hP1.2.2.1
  have hc : x1 8 2 = nI c := by rw [ec]; exact hP1.2.2.2.1
  have rwH : Rw 5 n (x1 9) (HbS (cn s)) := by rw [en]; exact hP1.2.2.2.2.1
  have rwE : Rw 3 m (x1 10) (HeS (cn s)) := by rw [em]; exact hP1.2.2.2.2.2.1
  have rwC : Rw 4 c (x1 11) (ClS (cn s)) := by rw [ec]; exact hP1.2.2.2.2.2.2
  have hCl : ∀ k, k < c → x1 11 (4 * k + 3) = -1 ∨ ∃ j, j < 8 ∧ x1 11 (4 * k + 3) = nI j := by rw [ec]; exact hP1.ask
  have hHe : ∀ e, e < m → ¬ x1 10 (3 * e) < nI 0 := by rw [em]; exact hP1.room
  have hrf : x1 12 0 = nI rf := by rw [erf]; exact (congrFun (hP1.c (k := 12) rfl) 0).trans hL.rf.1
  have hsg : x1 21 0 = nI sg := by rw [esg]; exact (congrFun (hP1.c (k := 21) rfl) 0).trans hL.sg.1
  have hSg : ∀ k, k < sg → ∃ t, t < 24 ∧ x1 22 (3 * k) = nI t := by rw [esg, hP1.c (k := 22) rfl]; exact fun k hk => (hL.sg.2.2 k hk).1
  have hc_x1 : cn x1 = (cn s) := hP1.1
  have hao : x1 15 0 = nI 0 := hF1.2.1
  have h17 := hF1.2.2.1
  have h18 := hF1.2.2.2
  show J G "does" RX12 cX12_does 3 (some .int) 0 0 8 Q 0 0 4 [(0, .ref o), (1, .int e), (2, .int t)] [] (mW G o a x1)
  refine J_aload_n dX12_does_4 rfl rfl ?_
  refine J_iload_n dX12_does_5 rfl rfl ?_
  refine J_cVi (x := yX12_in) [.int e] 0 mv_X12_133 (c_X12_isHeir o a x1 m hm hm6 e) mW_0 rfl rfl (by decide) (Nat.le_of_ble_eq_true rfl) ⟨Nat.le_refl _, Nat.le_refl _⟩ dX12_does_6 ?_
  refine J_if_eqB 28 dX12_does_9 (by decide) (fun kcz1 => ?_) (fun kcz1 => ?_)
  · refine J_bipush (v := -2) dX12_does_28 (by decide) ?_
    exact J_iret dX12_does_30 rfl rfl rfl (hq x1 ((-2), (cn s)) (by subst en em ec erf esg; simp [qDoes, doS, kcz1, cn_0, cn_1, cn_2, cn_4, cn_5, cn_6, cn_12, cn_13, cn_16, cn_21, cn_22]) (by rw [hc_x1]))
  · obtain ⟨E, hE, rfl⟩ := (rng_iff (by omega)).mp kcz1
    have eE : (nI E).toNatClampNeg = E := nI_clamp (by omega)
    refine J_iload_n dX12_does_12 rfl rfl ?_
    refine J_cSi [.int t] ms_X12_204 (c_X12_isHour (mW G o a x1) t) rfl rfl (by decide) (Nat.le_of_ble_eq_true rfl) ⟨Nat.le_refl _, Nat.le_refl _⟩ dX12_does_13 ?_
    refine J_if_eqB 28 dX12_does_16 (by decide) (fun kcz2 => ?_) (fun kcz2 => ?_)
    · refine J_bipush (v := -2) dX12_does_28 (by decide) ?_
      exact J_iret dX12_does_30 rfl rfl rfl (hq x1 ((-2), (cn s)) (by subst en em ec erf esg; simp [qDoes, doS, kcz1, eE, kcz2, cn_0, cn_1, cn_2, cn_4, cn_5, cn_6, cn_12, cn_13, cn_16, cn_21, cn_22]) (by rw [hc_x1]))
    · obtain ⟨T, hT, rfl⟩ := (rng_iff (by omega)).mp kcz2
      have eT : (nI T).toNatClampNeg = T := nI_clamp (by omega)
      refine J_aload_n dX12_does_19 rfl rfl ?_
      refine J_iload_n dX12_does_20 rfl rfl ?_
      refine J_iload_n dX12_does_21 rfl rfl ?_
      refine J_cVi (x := yX12_in) [.int (nI E), .int (nI T)] 0 mv_X12_207 (c_X12_doesNow o a x1 n hn hn8 E T (by omega)) mW_0 rfl rfl (by decide) (Nat.le_of_ble_eq_true rfl) ⟨Nat.le_refl _, Nat.le_refl _⟩ dX12_does_22 ?_
      refine J_goto 30 dX12_does_25 (by decide) ?_
      exact J_iret dX12_does_30 rfl rfl rfl (hq x1 (doM n (x1 9) (x1 10) (x1 17) E T, (cn s)) (by subst en em ec erf esg; rw [h17, doM_cg rwH rwE _ hE _ (nH_le _)]; simp [qDoes, doS, kcz1, eE, kcz2, eT, cn_0, cn_1, cn_2, cn_4, cn_5, cn_6, cn_12, cn_13, cn_16, cn_21, cn_22]) (by rw [hc_x1]))
theorem c_X12_does {G : GT} (o : Nat) (a : Nat → Nat) (s : Nat → Nat → Int32) (hL : LI (cn s)) (e t : Int32) : Ct G yX12_does cX12_does 3 (some .int) 0 0 8 [.ref o, .int e, .int t] (mW G o a s) (QM G o a ((qDoes e t (cn s), (cn s)))) := Ct.of rfl (Nat.le_of_ble_eq_true rfl) (j_X12_does o a s hL e t (fun x r h1 h2 => ⟨x, by rw [h1], rfl, by rw [← h1]; exact h2⟩))
set_option maxRecDepth 100000 in
set_option maxHeartbeats 1000000 in
theorem j_X12_done {G : GT} (o : Nat) (a : Nat → Nat) (s : Nat → Nat → Int32) (hL : LI (cn s)) {Q : Option Value → va_W → Prop} (hq : ∀ (x : St) (r : Int32 × St), r = (qDone (cn s), (cn s)) → cn x = r.2 → Q (some (.int r.1)) (mW G o a x)) : J G "done" RX12 cX12_done 1 (some .int) 0 0 8 Q 0 0 0 [(0, .ref o)] [] (mW G o a s) := by
  obtain ⟨n, en⟩ : ∃ n, n = nH (cn s) := ⟨_, rfl⟩
  obtain ⟨m, em⟩ : ∃ m, m = nE (cn s) := ⟨_, rfl⟩
  obtain ⟨c, ec⟩ : ∃ c, c = nC (cn s) := ⟨_, rfl⟩
  obtain ⟨rf, erf⟩ : ∃ rf, rf = rfn (cn s) := ⟨_, rfl⟩
  obtain ⟨sg, esg⟩ : ∃ sg, sg = sgn (cn s) := ⟨_, rfl⟩
  have hn8 : n ≤ 8 := by rw [en]; exact nH_le _
  have hm6 : m ≤ 6 := by rw [em]; exact nE_le _
  have hc15 : c ≤ 15 := by rw [ec]; exact nC_le _
  have hrf12 : rf ≤ 12 := by rw [erf]; exact hL.R.2.1
  have hsg8 : sg ≤ 8 := by rw [esg]; exact hL.S.2.1
  refine J_aload_n dX12_done_0 rfl rfl ?_
  refine J_callV (wr := []) (As := []) (st := []) 0 mv_X12_171 (c_X12_find o a s (tl (cn s) 0) (tl (cn s) 1) (tl (cn s) 2) (hL.T (by decide)).1 (hL.T (by decide)).1 (hL.T (by decide)).1 hL.t0.2 hL.t1.2 hL.t2.2 (rfn (cn s)) hL.R.1 hL.R.2.1) mW_0 rfl rfl rfl (by decide) (Nat.le_of_ble_eq_true rfl) ⟨Nat.le_refl _, Nat.le_refl _⟩ dX12_done_1 (fun v_ w_ h_ => ?_)
  obtain ⟨x1, rfl, rfl, hx1⟩ := h_
  have hF1 : Fnn (cn s) x1 := fnd_fd hx1
  have hP1 := hF1.1
  have hn : x1 8 0 = nI n := by rw [en]; exact hP1.2.1
  have hm : x1 8 1 = nI m := by rw [em]; exact hP1.2.2.1
  have hc : x1 8 2 = nI c := by rw [ec]; exact hP1.2.2.2.1
  have rwH : Rw 5 n (x1 9) (HbS (cn s)) := by rw [en]; exact hP1.2.2.2.2.1
  have rwE : Rw 3 m (x1 10) (HeS (cn s)) := by rw [em]; exact hP1.2.2.2.2.2.1
  have rwC : Rw 4 c (x1 11) (ClS (cn s)) := by rw [ec]; exact hP1.2.2.2.2.2.2
  have hCl : ∀ k, k < c → x1 11 (4 * k + 3) = -1 ∨ ∃ j, j < 8 ∧ x1 11 (4 * k + 3) = nI j := by rw [ec]; exact hP1.ask
  have hHe : ∀ e, e < m → ¬ x1 10 (3 * e) < nI 0 := by rw [em]; exact hP1.room
  have hrf : x1 12 0 = nI rf := by rw [erf]; exact (congrFun (hP1.c (k := 12) rfl) 0).trans hL.rf.1
  have hsg : x1 21 0 = nI sg := by rw [esg]; exact (congrFun (hP1.c (k := 21) rfl) 0).trans hL.sg.1
  have hSg : ∀ k, k < sg → ∃ t, t < 24 ∧ x1 22 (3 * k) = nI t := by rw [esg, hP1.c (k := 22) rfl]; exact fun k hk => (hL.sg.2.2 k hk).1
  have hc_x1 : cn x1 = (cn s) := hP1.1
  have hao : x1 15 0 = nI 0 := hF1.2.1
  have h17 := hF1.2.2.1
  have h18 := hF1.2.2.2
  show J G "done" RX12 cX12_done 1 (some .int) 0 0 8 Q 0 0 4 [(0, .ref o)] [] (mW G o a x1)
  refine J_aload_n dX12_done_4 rfl rfl ?_
  refine Mg_18 (s := x1) (x1 18 0) rfl dX12_done_5 ?_
  exact J_iret dX12_done_8 rfl rfl rfl (hq x1 (x1 18 0, (cn s)) (by subst en em ec erf esg; rw [h18]; simp [qDone, if_pos, cn_0, cn_1, cn_2, cn_4, cn_5, cn_6, cn_12, cn_13, cn_16, cn_21, cn_22]) (by rw [hc_x1]))
theorem c_X12_done {G : GT} (o : Nat) (a : Nat → Nat) (s : Nat → Nat → Int32) (hL : LI (cn s)) : Ct G yX12_done cX12_done 1 (some .int) 0 0 8 [.ref o] (mW G o a s) (QM G o a ((qDone (cn s), (cn s)))) := Ct.of rfl (Nat.le_of_ble_eq_true rfl) (j_X12_done o a s hL (fun x r h1 h2 => ⟨x, by rw [h1], rfl, by rw [← h1]; exact h2⟩))
set_option maxRecDepth 100000 in
set_option maxHeartbeats 1000000 in
theorem j_X12_quarrel {G : GT} (o : Nat) (a : Nat → Nat) (s : Nat → Nat → Int32) (hL : LI (cn s)) (w : Int32) {Q : Option Value → va_W → Prop} (hq : ∀ (x : St) (r : Int32 × St), r = (qQuarrel w (cn s), (cn s)) → cn x = r.2 → Q (some (.int r.1)) (mW G o a x)) : J G "quarrel" RX12 cX12_quarrel 2 (some .int) 0 0 8 Q 0 0 0 [(0, .ref o), (1, .int w)] [] (mW G o a s) := by
  obtain ⟨n, en⟩ : ∃ n, n = nH (cn s) := ⟨_, rfl⟩
  obtain ⟨m, em⟩ : ∃ m, m = nE (cn s) := ⟨_, rfl⟩
  obtain ⟨c, ec⟩ : ∃ c, c = nC (cn s) := ⟨_, rfl⟩
  obtain ⟨rf, erf⟩ : ∃ rf, rf = rfn (cn s) := ⟨_, rfl⟩
  obtain ⟨sg, esg⟩ : ∃ sg, sg = sgn (cn s) := ⟨_, rfl⟩
  have hn8 : n ≤ 8 := by rw [en]; exact nH_le _
  have hm6 : m ≤ 6 := by rw [em]; exact nE_le _
  have hc15 : c ≤ 15 := by rw [ec]; exact nC_le _
  have hrf12 : rf ≤ 12 := by rw [erf]; exact hL.R.2.1
  have hsg8 : sg ≤ 8 := by rw [esg]; exact hL.S.2.1
  refine J_aload_n dX12_quarrel_0 rfl rfl ?_
  refine J_callV (wr := []) (As := []) (st := []) 0 mv_X12_171 (c_X12_find o a s (tl (cn s) 0) (tl (cn s) 1) (tl (cn s) 2) (hL.T (by decide)).1 (hL.T (by decide)).1 (hL.T (by decide)).1 hL.t0.2 hL.t1.2 hL.t2.2 (rfn (cn s)) hL.R.1 hL.R.2.1) mW_0 rfl rfl rfl (by decide) (Nat.le_of_ble_eq_true rfl) ⟨Nat.le_refl _, Nat.le_refl _⟩ dX12_quarrel_1 (fun v_ w_ h_ => ?_)
  obtain ⟨x1, rfl, rfl, hx1⟩ := h_
  have hF1 : Fnn (cn s) x1 := fnd_fd hx1
  have hP1 := hF1.1
  have hn : x1 8 0 = nI n := by rw [en]; exact hP1.2.1
  have hm : x1 8 1 = nI m := by rw [em]; exact hP1.2.2.1
  have hc : x1 8 2 = nI c := by rw [ec]; exact hP1.2.2.2.1
  have rwH : Rw 5 n (x1 9) (HbS (cn s)) := by rw [en]; exact hP1.2.2.2.2.1
  have rwE : Rw 3 m (x1 10) (HeS (cn s)) := by rw [em]; exact hP1.2.2.2.2.2.1
  have rwC : Rw 4 c (x1 11) (ClS (cn s)) := by rw [ec]; exact hP1.2.2.2.2.2.2
  have hCl : ∀ k, k < c → x1 11 (4 * k + 3) = -1 ∨ ∃ j, j < 8 ∧ x1 11 (4 * k + 3) = nI j := by rw [ec]; exact hP1.ask
  have hHe : ∀ e, e < m → ¬ x1 10 (3 * e) < nI 0 := by rw [em]; exact hP1.room
  have hrf : x1 12 0 = nI rf := by rw [erf]; exact (congrFun (hP1.c (k := 12) rfl) 0).trans hL.rf.1
  have hsg : x1 21 0 = nI sg := by rw [esg]; exact (congrFun (hP1.c (k := 21) rfl) 0).trans hL.sg.1
  have hSg : ∀ k, k < sg → ∃ t, t < 24 ∧ x1 22 (3 * k) = nI t := by rw [esg, hP1.c (k := 22) rfl]; exact fun k hk => (hL.sg.2.2 k hk).1
  have hc_x1 : cn x1 = (cn s) := hP1.1
  have hao : x1 15 0 = nI 0 := hF1.2.1
  have h17 := hF1.2.2.1
  have h18 := hF1.2.2.2
  show J G "quarrel" RX12 cX12_quarrel 2 (some .int) 0 0 8 Q 0 0 4 [(0, .ref o), (1, .int w)] [] (mW G o a x1)
  refine J_iload_n dX12_quarrel_4 rfl rfl ?_
  refine J_i2l dX12_quarrel_5 ?_
  refine J_lconst (v := 0) dX12_quarrel_6 (by decide) ?_
  refine J_ldc2 dX12_quarrel_7 k_X12_65 ?_
  refine J_cSi [.long w.toInt64, .long 0, .long (3)] ms_X12_57 (c_X12_in (mW G o a x1) w.toInt64 0 (3)) rfl rfl (by decide) (Nat.le_of_ble_eq_true rfl) ⟨Nat.le_refl _, Nat.le_refl _⟩ dX12_quarrel_10 ?_
  refine J_rw (y := bI (rng w 4)) (congrArg bI (inL_rng w (by decide) rfl)) ?_
  refine J_if_eqB 24 dX12_quarrel_13 (by decide) (fun kcz1 => ?_) (fun kcz1 => ?_)
  · refine J_bipush (v := -2) dX12_quarrel_24 (by decide) ?_
    exact J_iret dX12_quarrel_26 rfl rfl rfl (hq x1 ((-2), (cn s)) (by subst en em ec erf esg; simp [qQuarrel, kcz1, cn_0, cn_1, cn_2, cn_4, cn_5, cn_6, cn_12, cn_13, cn_16, cn_21, cn_22]) (by rw [hc_x1]))
  · obtain ⟨Wn, hWn, rfl⟩ := (rng_iff (by omega)).mp kcz1
    have eWn : (nI Wn).toNatClampNeg = Wn := nI_clamp (by omega)
    rcases (show Wn = 0 ∨ Wn = 1 ∨ Wn = 2 ∨ Wn = 3 by omega) with rfl | rfl | rfl | rfl
    · refine J_aload_n dX12_quarrel_16 rfl rfl ?_
      refine J_iload_n dX12_quarrel_17 rfl rfl ?_
      refine J_cVi (x := yX12_in) [.int (nI 0)] 0 mv_X12_210 (c_X12_quarrelOf0 o a x1 n hn hn8 m hm hm6) mW_0 rfl rfl (by decide) (Nat.le_of_ble_eq_true rfl) ⟨Nat.le_refl _, Nat.le_refl _⟩ dX12_quarrel_18 ?_
      refine J_goto 26 dX12_quarrel_21 (by decide) ?_
      exact J_iret dX12_quarrel_26 rfl rfl rfl (hq x1 (quM n m (x1 9) (x1 17) 0, (cn s)) (by subst en em ec erf esg; rw [h17, quM_cg rwH]; simp [qQuarrel, kcz1, eWn, cn_0, cn_1, cn_2, cn_4, cn_5, cn_6, cn_12, cn_13, cn_16, cn_21, cn_22]) (by rw [hc_x1]))
    · refine J_aload_n dX12_quarrel_16 rfl rfl ?_
      refine J_iload_n dX12_quarrel_17 rfl rfl ?_
      refine J_cVi (x := yX12_in) [.int (nI 1)] 0 mv_X12_210 (c_X12_quarrelOf1 o a x1 n hn hn8 m hm hm6) mW_0 rfl rfl (by decide) (Nat.le_of_ble_eq_true rfl) ⟨Nat.le_refl _, Nat.le_refl _⟩ dX12_quarrel_18 ?_
      refine J_goto 26 dX12_quarrel_21 (by decide) ?_
      exact J_iret dX12_quarrel_26 rfl rfl rfl (hq x1 (quM n m (x1 9) (x1 17) 1, (cn s)) (by subst en em ec erf esg; rw [h17, quM_cg rwH]; simp [qQuarrel, kcz1, eWn, cn_0, cn_1, cn_2, cn_4, cn_5, cn_6, cn_12, cn_13, cn_16, cn_21, cn_22]) (by rw [hc_x1]))
    · refine J_aload_n dX12_quarrel_16 rfl rfl ?_
      refine J_iload_n dX12_quarrel_17 rfl rfl ?_
      refine J_cVi (x := yX12_in) [.int (nI 2)] 0 mv_X12_210 (c_X12_quarrelOf2 o a x1 n hn hn8 m hm hm6) mW_0 rfl rfl (by decide) (Nat.le_of_ble_eq_true rfl) ⟨Nat.le_refl _, Nat.le_refl _⟩ dX12_quarrel_18 ?_
      refine J_goto 26 dX12_quarrel_21 (by decide) ?_
      exact J_iret dX12_quarrel_26 rfl rfl rfl (hq x1 (quM n m (x1 9) (x1 17) 2, (cn s)) (by subst en em ec erf esg; rw [h17, quM_cg rwH]; simp [qQuarrel, kcz1, eWn, cn_0, cn_1, cn_2, cn_4, cn_5, cn_6, cn_12, cn_13, cn_16, cn_21, cn_22]) (by rw [hc_x1]))
    · refine J_aload_n dX12_quarrel_16 rfl rfl ?_
      refine J_iload_n dX12_quarrel_17 rfl rfl ?_
      refine J_cVi (x := yX12_in) [.int (nI 3)] 0 mv_X12_210 (c_X12_quarrelOf3 o a x1 n hn hn8 m hm hm6) mW_0 rfl rfl (by decide) (Nat.le_of_ble_eq_true rfl) ⟨Nat.le_refl _, Nat.le_refl _⟩ dX12_quarrel_18 ?_
      refine J_goto 26 dX12_quarrel_21 (by decide) ?_
      exact J_iret dX12_quarrel_26 rfl rfl rfl (hq x1 (quM n m (x1 9) (x1 17) 3, (cn s)) (by subst en em ec erf esg; rw [h17, quM_cg rwH]; simp [qQuarrel, kcz1, eWn, cn_0, cn_1, cn_2, cn_4, cn_5, cn_6, cn_12, cn_13, cn_16, cn_21, cn_22]) (by rw [hc_x1]))
theorem c_X12_quarrel {G : GT} (o : Nat) (a : Nat → Nat) (s : Nat → Nat → Int32) (hL : LI (cn s)) (w : Int32) : Ct G yX12_quarrel cX12_quarrel 2 (some .int) 0 0 8 [.ref o, .int w] (mW G o a s) (QM G o a ((qQuarrel w (cn s), (cn s)))) := Ct.of rfl (Nat.le_of_ble_eq_true rfl) (j_X12_quarrel o a s hL w (fun x r h1 h2 => ⟨x, by rw [h1], rfl, by rw [← h1]; exact h2⟩))
set_option maxRecDepth 100000 in
set_option maxHeartbeats 1000000 in
theorem j_X12_whose {G : GT} (o : Nat) (a : Nat → Nat) (s : Nat → Nat → Int32) (hL : LI (cn s)) (h : Int32) {Q : Option Value → va_W → Prop} (hq : ∀ (x : St) (r : Int32 × St), r = (qWhose h (cn s), (cn s)) → cn x = r.2 → Q (some (.int r.1)) (mW G o a x)) : J G "whose" RX12 cX12_whose 2 (some .int) 0 0 8 Q 0 0 0 [(0, .ref o), (1, .int h)] [] (mW G o a s) := by
  obtain ⟨n, en⟩ : ∃ n, n = nH (cn s) := ⟨_, rfl⟩
  obtain ⟨m, em⟩ : ∃ m, m = nE (cn s) := ⟨_, rfl⟩
  obtain ⟨c, ec⟩ : ∃ c, c = nC (cn s) := ⟨_, rfl⟩
  obtain ⟨rf, erf⟩ : ∃ rf, rf = rfn (cn s) := ⟨_, rfl⟩
  obtain ⟨sg, esg⟩ : ∃ sg, sg = sgn (cn s) := ⟨_, rfl⟩
  have hn8 : n ≤ 8 := by rw [en]; exact nH_le _
  have hm6 : m ≤ 6 := by rw [em]; exact nE_le _
  have hc15 : c ≤ 15 := by rw [ec]; exact nC_le _
  have hrf12 : rf ≤ 12 := by rw [erf]; exact hL.R.2.1
  have hsg8 : sg ≤ 8 := by rw [esg]; exact hL.S.2.1
  refine J_aload_n dX12_whose_0 rfl rfl ?_
  refine J_callV (wr := []) (As := []) (st := []) 0 mv_X12_171 (c_X12_find o a s (tl (cn s) 0) (tl (cn s) 1) (tl (cn s) 2) (hL.T (by decide)).1 (hL.T (by decide)).1 (hL.T (by decide)).1 hL.t0.2 hL.t1.2 hL.t2.2 (rfn (cn s)) hL.R.1 hL.R.2.1) mW_0 rfl rfl rfl (by decide) (Nat.le_of_ble_eq_true rfl) ⟨Nat.le_refl _, Nat.le_refl _⟩ dX12_whose_1 (fun v_ w_ h_ => ?_)
  obtain ⟨x1, rfl, rfl, hx1⟩ := h_
  have hF1 : Fnn (cn s) x1 := fnd_fd hx1
  have hP1 := hF1.1
  have hn : x1 8 0 = nI n := by rw [en]; exact hP1.2.1
  have hm : x1 8 1 = nI m := by rw [em]; exact hP1.2.2.1
  have hc : x1 8 2 = nI c := by rw [ec]; exact hP1.2.2.2.1
  have rwH : Rw 5 n (x1 9) (HbS (cn s)) := by rw [en]; exact hP1.2.2.2.2.1
  have rwE : Rw 3 m (x1 10) (HeS (cn s)) := by rw [em]; exact hP1.2.2.2.2.2.1
  have rwC : Rw 4 c (x1 11) (ClS (cn s)) := by rw [ec]; exact hP1.2.2.2.2.2.2
  have hCl : ∀ k, k < c → x1 11 (4 * k + 3) = -1 ∨ ∃ j, j < 8 ∧ x1 11 (4 * k + 3) = nI j := by rw [ec]; exact hP1.ask
  have hHe : ∀ e, e < m → ¬ x1 10 (3 * e) < nI 0 := by rw [em]; exact hP1.room
  have hrf : x1 12 0 = nI rf := by rw [erf]; exact (congrFun (hP1.c (k := 12) rfl) 0).trans hL.rf.1
  have hsg : x1 21 0 = nI sg := by rw [esg]; exact (congrFun (hP1.c (k := 21) rfl) 0).trans hL.sg.1
  have hSg : ∀ k, k < sg → ∃ t, t < 24 ∧ x1 22 (3 * k) = nI t := by rw [esg, hP1.c (k := 22) rfl]; exact fun k hk => (hL.sg.2.2 k hk).1
  have hc_x1 : cn x1 = (cn s) := hP1.1
  have hao : x1 15 0 = nI 0 := hF1.2.1
  have h17 := hF1.2.2.1
  have h18 := hF1.2.2.2
  show J G "whose" RX12 cX12_whose 2 (some .int) 0 0 8 Q 0 0 4 [(0, .ref o), (1, .int h)] [] (mW G o a x1)
  refine J_aload_n dX12_whose_4 rfl rfl ?_
  refine J_iload_n dX12_whose_5 rfl rfl ?_
  refine J_cVi (x := yX12_in) [.int h] 0 mv_X12_128 (c_X12_isHabit o a x1 n hn hn8 h) mW_0 rfl rfl (by decide) (Nat.le_of_ble_eq_true rfl) ⟨Nat.le_refl _, Nat.le_refl _⟩ dX12_whose_6 ?_
  refine J_if_eqB 20 dX12_whose_9 (by decide) (fun kcz1 => ?_) (fun kcz1 => ?_)
  · refine J_bipush (v := -2) dX12_whose_20 (by decide) ?_
    exact J_iret dX12_whose_22 rfl rfl rfl (hq x1 ((-2), (cn s)) (by subst en em ec erf esg; simp [qWhose, whS, kcz1, cn_0, cn_1, cn_2, cn_4, cn_5, cn_6, cn_12, cn_13, cn_16, cn_21, cn_22]) (by rw [hc_x1]))
  · obtain ⟨H, hH, rfl⟩ := (rng_iff (by omega)).mp kcz1
    have eH : (nI H).toNatClampNeg = H := nI_clamp (by omega)
    refine J_aload_n dX12_whose_12 rfl rfl ?_
    refine J_iload_n dX12_whose_13 rfl rfl ?_
    refine J_cVi (x := yX12_in) [.int (nI H)] 0 mv_X12_258 (c_X12_whoseOf o a x1 n hn hn8 m hm hm6 sg hsg hsg8 hSg H (by omega)) mW_0 rfl rfl (by decide) (Nat.le_of_ble_eq_true rfl) ⟨Nat.le_refl _, Nat.le_refl _⟩ dX12_whose_14 ?_
    refine J_goto 22 dX12_whose_17 (by decide) ?_
    exact J_iret dX12_whose_22 rfl rfl rfl (hq x1 (nI (whF n m (x1 9) (x1 10) (x1 17) (x1 22) sg H (m + 1)), (cn s)) (by subst en em ec erf esg; rw [h17, whF_cg rwH rwE _ _ _ _ (nH_le _) (nE_le _), hP1.c (k := 22) rfl]; simp [qWhose, whS, kcz1, eH, cn_0, cn_1, cn_2, cn_4, cn_5, cn_6, cn_12, cn_13, cn_16, cn_21, cn_22]) (by rw [hc_x1]))
theorem c_X12_whose {G : GT} (o : Nat) (a : Nat → Nat) (s : Nat → Nat → Int32) (hL : LI (cn s)) (h : Int32) : Ct G yX12_whose cX12_whose 2 (some .int) 0 0 8 [.ref o, .int h] (mW G o a s) (QM G o a ((qWhose h (cn s), (cn s)))) := Ct.of rfl (Nat.le_of_ble_eq_true rfl) (j_X12_whose o a s hL h (fun x r h1 h2 => ⟨x, by rw [h1], rfl, by rw [← h1]; exact h2⟩))
set_option maxRecDepth 100000 in
set_option maxHeartbeats 1000000 in
theorem j_X12_count {G : GT} (o : Nat) (a : Nat → Nat) (s : Nat → Nat → Int32) (hL : LI (cn s)) (w : Int32) {Q : Option Value → va_W → Prop} (hq : ∀ (x : St) (r : Int32 × St), r = (qCount w (cn s), (cn s)) → cn x = r.2 → Q (some (.int r.1)) (mW G o a x)) : J G "count" RX12 cX12_count 2 (some .int) 0 0 7 Q 0 0 0 [(0, .ref o), (1, .int w)] [] (mW G o a s) := by
  obtain ⟨n, en⟩ : ∃ n, n = nH (cn s) := ⟨_, rfl⟩
  obtain ⟨m, em⟩ : ∃ m, m = nE (cn s) := ⟨_, rfl⟩
  obtain ⟨c, ec⟩ : ∃ c, c = nC (cn s) := ⟨_, rfl⟩
  obtain ⟨rf, erf⟩ : ∃ rf, rf = rfn (cn s) := ⟨_, rfl⟩
  obtain ⟨sg, esg⟩ : ∃ sg, sg = sgn (cn s) := ⟨_, rfl⟩
  have hn8 : n ≤ 8 := by rw [en]; exact nH_le _
  have hm6 : m ≤ 6 := by rw [em]; exact nE_le _
  have hc15 : c ≤ 15 := by rw [ec]; exact nC_le _
  have hrf12 : rf ≤ 12 := by rw [erf]; exact hL.R.2.1
  have hsg8 : sg ≤ 8 := by rw [esg]; exact hL.S.2.1
  refine J_aload_n dX12_count_0 rfl rfl ?_
  refine J_callV (wr := []) (As := []) (st := []) 0 mv_X12_125 (c_X12_reads o a s (tl (cn s) 0) (tl (cn s) 1) (tl (cn s) 2) (hL.T (by decide)).1 (hL.T (by decide)).1 (hL.T (by decide)).1 hL.t0.2 hL.t1.2 hL.t2.2) mW_0 rfl rfl rfl (by decide) (Nat.le_of_ble_eq_true rfl) ⟨Nat.le_refl _, Nat.le_refl _⟩ dX12_count_1 (fun v_ w_ h_ => ?_)
  obtain ⟨x1, rfl, rfl, hx1⟩ := h_
  have hP1 : Pd (cn s) x1 := prs_pd hx1
  have hn : x1 8 0 = nI n := by rw [en]; exact hP1.2.1
  have hm : x1 8 1 = nI m := by rw [em]; exact hP1.2.2.1
  have hc : x1 8 2 = nI c := by rw [ec]; exact hP1.2.2.2.1
  have rwH : Rw 5 n (x1 9) (HbS (cn s)) := by rw [en]; exact hP1.2.2.2.2.1
  have rwE : Rw 3 m (x1 10) (HeS (cn s)) := by rw [em]; exact hP1.2.2.2.2.2.1
  have rwC : Rw 4 c (x1 11) (ClS (cn s)) := by rw [ec]; exact hP1.2.2.2.2.2.2
  have hCl : ∀ k, k < c → x1 11 (4 * k + 3) = -1 ∨ ∃ j, j < 8 ∧ x1 11 (4 * k + 3) = nI j := by rw [ec]; exact hP1.ask
  have hHe : ∀ e, e < m → ¬ x1 10 (3 * e) < nI 0 := by rw [em]; exact hP1.room
  have hrf : x1 12 0 = nI rf := by rw [erf]; exact (congrFun (hP1.c (k := 12) rfl) 0).trans hL.rf.1
  have hsg : x1 21 0 = nI sg := by rw [esg]; exact (congrFun (hP1.c (k := 21) rfl) 0).trans hL.sg.1
  have hSg : ∀ k, k < sg → ∃ t, t < 24 ∧ x1 22 (3 * k) = nI t := by rw [esg, hP1.c (k := 22) rfl]; exact fun k hk => (hL.sg.2.2 k hk).1
  have hc_x1 : cn x1 = (cn s) := hP1.1
  show J G "count" RX12 cX12_count 2 (some .int) 0 0 7 Q 0 0 4 [(0, .ref o), (1, .int w)] [] (mW G o a x1)
  refine J_iload_n dX12_count_4 rfl rfl ?_
  rcases sw_cases w 9 (by decide) with kcz1 | ⟨kjz2, hkjz2, rfl⟩
  · refine J_tblOut 87 dX12_count_5 (by simpa using kcz1) (by decide) ?_
    refine J_bipush (v := -2) dX12_count_87 (by decide) ?_
    exact J_iret dX12_count_89 rfl rfl rfl (hq x1 ((-2), (cn s)) (by simp [qCount, sw_no (n := 9) (by decide) kcz1]) (by rw [hc_x1]))
  · rcases (show kjz2 = 0 ∨ kjz2 = 1 ∨ kjz2 = 2 ∨ kjz2 = 3 ∨ kjz2 = 4 ∨ kjz2 = 5 ∨ kjz2 = 6 ∨ kjz2 = 7 ∨ kjz2 = 8 by omega) with rfl | rfl | rfl | rfl | rfl | rfl | rfl | rfl | rfl
    · refine J_tblIn (off := 51) 56 dX12_count_5 (by decide) (by decide) (by decide) (by decide) ?_
      refine J_aload_n dX12_count_56 rfl rfl ?_
      refine Mg_8 dX12_count_57 ?_
      refine J_iload_n dX12_count_60 rfl rfl ?_
      refine Ml_8 (s := x1) (x1 8) rfl 0 rfl (by omega) dX12_count_61 ?_
      refine J_rw (y := nI n) hn ?_
      exact J_iret dX12_count_62 rfl rfl rfl (hq x1 (nI n, (cn s)) (by subst en em ec; simp [qCount, rng_nI, nI_clamp, hP1.c (k := 6) rfl, hP1.c (k := 12) rfl, hP1.c (k := 21) rfl, hP1.c (k := 4) rfl, cn_0, cn_1, cn_2, cn_4, cn_5, cn_6, cn_12, cn_13, cn_16, cn_21, cn_22]) (by rw [hc_x1]))
    · refine J_tblIn (off := 51) 56 dX12_count_5 (by decide) (by decide) (by decide) (by decide) ?_
      refine J_aload_n dX12_count_56 rfl rfl ?_
      refine Mg_8 dX12_count_57 ?_
      refine J_iload_n dX12_count_60 rfl rfl ?_
      refine Ml_8 (s := x1) (x1 8) rfl 1 rfl (by omega) dX12_count_61 ?_
      refine J_rw (y := nI m) hm ?_
      exact J_iret dX12_count_62 rfl rfl rfl (hq x1 (nI m, (cn s)) (by subst en em ec; simp [qCount, rng_nI, nI_clamp, hP1.c (k := 6) rfl, hP1.c (k := 12) rfl, hP1.c (k := 21) rfl, hP1.c (k := 4) rfl, cn_0, cn_1, cn_2, cn_4, cn_5, cn_6, cn_12, cn_13, cn_16, cn_21, cn_22]) (by rw [hc_x1]))
    · refine J_tblIn (off := 51) 56 dX12_count_5 (by decide) (by decide) (by decide) (by decide) ?_
      refine J_aload_n dX12_count_56 rfl rfl ?_
      refine Mg_8 dX12_count_57 ?_
      refine J_iload_n dX12_count_60 rfl rfl ?_
      refine Ml_8 (s := x1) (x1 8) rfl 2 rfl (by omega) dX12_count_61 ?_
      refine J_rw (y := nI c) hc ?_
      exact J_iret dX12_count_62 rfl rfl rfl (hq x1 (nI c, (cn s)) (by subst en em ec; simp [qCount, rng_nI, nI_clamp, hP1.c (k := 6) rfl, hP1.c (k := 12) rfl, hP1.c (k := 21) rfl, hP1.c (k := 4) rfl, cn_0, cn_1, cn_2, cn_4, cn_5, cn_6, cn_12, cn_13, cn_16, cn_21, cn_22]) (by rw [hc_x1]))
    · refine J_tblIn (off := 58) 63 dX12_count_5 (by decide) (by decide) (by decide) (by decide) ?_
      refine J_aload_n dX12_count_63 rfl rfl ?_
      refine Mg_6 dX12_count_64 ?_
      refine J_iload_n dX12_count_67 rfl rfl ?_
      refine J_iconst (v := nI 3) dX12_count_68 (by decide) ?_
      refine J_isubN dX12_count_69 (by omega) ?_
      refine Ml_6 (s := x1) (x1 6) rfl (3 - 3) rfl (by omega) dX12_count_70 ?_
      exact J_iret dX12_count_71 rfl rfl rfl (hq x1 (x1 6 (3 - 3), (cn s)) (by subst en em ec; simp [qCount, rng_nI, nI_clamp, hP1.c (k := 6) rfl, hP1.c (k := 12) rfl, hP1.c (k := 21) rfl, hP1.c (k := 4) rfl, cn_0, cn_1, cn_2, cn_4, cn_5, cn_6, cn_12, cn_13, cn_16, cn_21, cn_22]) (by rw [hc_x1]))
    · refine J_tblIn (off := 58) 63 dX12_count_5 (by decide) (by decide) (by decide) (by decide) ?_
      refine J_aload_n dX12_count_63 rfl rfl ?_
      refine Mg_6 dX12_count_64 ?_
      refine J_iload_n dX12_count_67 rfl rfl ?_
      refine J_iconst (v := nI 3) dX12_count_68 (by decide) ?_
      refine J_isubN dX12_count_69 (by omega) ?_
      refine Ml_6 (s := x1) (x1 6) rfl (4 - 3) rfl (by omega) dX12_count_70 ?_
      exact J_iret dX12_count_71 rfl rfl rfl (hq x1 (x1 6 (4 - 3), (cn s)) (by subst en em ec; simp [qCount, rng_nI, nI_clamp, hP1.c (k := 6) rfl, hP1.c (k := 12) rfl, hP1.c (k := 21) rfl, hP1.c (k := 4) rfl, cn_0, cn_1, cn_2, cn_4, cn_5, cn_6, cn_12, cn_13, cn_16, cn_21, cn_22]) (by rw [hc_x1]))
    · refine J_tblIn (off := 58) 63 dX12_count_5 (by decide) (by decide) (by decide) (by decide) ?_
      refine J_aload_n dX12_count_63 rfl rfl ?_
      refine Mg_6 dX12_count_64 ?_
      refine J_iload_n dX12_count_67 rfl rfl ?_
      refine J_iconst (v := nI 3) dX12_count_68 (by decide) ?_
      refine J_isubN dX12_count_69 (by omega) ?_
      refine Ml_6 (s := x1) (x1 6) rfl (5 - 3) rfl (by omega) dX12_count_70 ?_
      exact J_iret dX12_count_71 rfl rfl rfl (hq x1 (x1 6 (5 - 3), (cn s)) (by subst en em ec; simp [qCount, rng_nI, nI_clamp, hP1.c (k := 6) rfl, hP1.c (k := 12) rfl, hP1.c (k := 21) rfl, hP1.c (k := 4) rfl, cn_0, cn_1, cn_2, cn_4, cn_5, cn_6, cn_12, cn_13, cn_16, cn_21, cn_22]) (by rw [hc_x1]))
    · refine J_tblIn (off := 67) 72 dX12_count_5 (by decide) (by decide) (by decide) (by decide) ?_
      refine J_aload_n dX12_count_72 rfl rfl ?_
      refine Mg_12 (s := x1) (x1 12 0) rfl dX12_count_73 ?_
      exact J_iret dX12_count_76 rfl rfl rfl (hq x1 (x1 12 0, (cn s)) (by subst en em ec; simp [qCount, rng_nI, nI_clamp, hP1.c (k := 6) rfl, hP1.c (k := 12) rfl, hP1.c (k := 21) rfl, hP1.c (k := 4) rfl, cn_0, cn_1, cn_2, cn_4, cn_5, cn_6, cn_12, cn_13, cn_16, cn_21, cn_22]) (by rw [hc_x1]))
    · refine J_tblIn (off := 72) 77 dX12_count_5 (by decide) (by decide) (by decide) (by decide) ?_
      refine J_aload_n dX12_count_77 rfl rfl ?_
      refine Mg_21 (s := x1) (x1 21 0) rfl dX12_count_78 ?_
      exact J_iret dX12_count_81 rfl rfl rfl (hq x1 (x1 21 0, (cn s)) (by subst en em ec; simp [qCount, rng_nI, nI_clamp, hP1.c (k := 6) rfl, hP1.c (k := 12) rfl, hP1.c (k := 21) rfl, hP1.c (k := 4) rfl, cn_0, cn_1, cn_2, cn_4, cn_5, cn_6, cn_12, cn_13, cn_16, cn_21, cn_22]) (by rw [hc_x1]))
    · refine J_tblIn (off := 77) 82 dX12_count_5 (by decide) (by decide) (by decide) (by decide) ?_
      refine J_aload_n dX12_count_82 rfl rfl ?_
      refine Mg_4 (s := x1) (x1 4 0) rfl dX12_count_83 ?_
      exact J_iret dX12_count_86 rfl rfl rfl (hq x1 (x1 4 0, (cn s)) (by subst en em ec; simp [qCount, rng_nI, nI_clamp, hP1.c (k := 6) rfl, hP1.c (k := 12) rfl, hP1.c (k := 21) rfl, hP1.c (k := 4) rfl, cn_0, cn_1, cn_2, cn_4, cn_5, cn_6, cn_12, cn_13, cn_16, cn_21, cn_22]) (by rw [hc_x1]))
theorem c_X12_count {G : GT} (o : Nat) (a : Nat → Nat) (s : Nat → Nat → Int32) (hL : LI (cn s)) (w : Int32) : Ct G yX12_count cX12_count 2 (some .int) 0 0 7 [.ref o, .int w] (mW G o a s) (QM G o a ((qCount w (cn s), (cn s)))) := Ct.of rfl (Nat.le_of_ble_eq_true rfl) (j_X12_count o a s hL w (fun x r h1 h2 => ⟨x, by rw [h1], rfl, by rw [← h1]; exact h2⟩))
set_option maxRecDepth 100000 in
set_option maxHeartbeats 1000000 in
theorem j_X12_best {G : GT} (o : Nat) (a : Nat → Nat) (s : Nat → Nat → Int32) (hL : LI (cn s)) (i : Int32) {Q : Option Value → va_W → Prop} (hq : ∀ (x : St) (r : Int32 × St), r = (qBest i (cn s), (cn s)) → cn x = r.2 → Q (some (.int r.1)) (mW G o a x)) : J G "best" RX12 cX12_best 2 (some .int) 0 0 8 Q 0 0 0 [(0, .ref o), (1, .int i)] [] (mW G o a s) := by
  obtain ⟨n, en⟩ : ∃ n, n = nH (cn s) := ⟨_, rfl⟩
  obtain ⟨m, em⟩ : ∃ m, m = nE (cn s) := ⟨_, rfl⟩
  obtain ⟨c, ec⟩ : ∃ c, c = nC (cn s) := ⟨_, rfl⟩
  obtain ⟨rf, erf⟩ : ∃ rf, rf = rfn (cn s) := ⟨_, rfl⟩
  obtain ⟨sg, esg⟩ : ∃ sg, sg = sgn (cn s) := ⟨_, rfl⟩
  have hn8 : n ≤ 8 := by rw [en]; exact nH_le _
  have hm6 : m ≤ 6 := by rw [em]; exact nE_le _
  have hc15 : c ≤ 15 := by rw [ec]; exact nC_le _
  have hrf12 : rf ≤ 12 := by rw [erf]; exact hL.R.2.1
  have hsg8 : sg ≤ 8 := by rw [esg]; exact hL.S.2.1
  refine J_aload_n dX12_best_0 rfl rfl ?_
  refine J_callV (wr := []) (As := []) (st := []) 0 mv_X12_125 (c_X12_reads o a s (tl (cn s) 0) (tl (cn s) 1) (tl (cn s) 2) (hL.T (by decide)).1 (hL.T (by decide)).1 (hL.T (by decide)).1 hL.t0.2 hL.t1.2 hL.t2.2) mW_0 rfl rfl rfl (by decide) (Nat.le_of_ble_eq_true rfl) ⟨Nat.le_refl _, Nat.le_refl _⟩ dX12_best_1 (fun v_ w_ h_ => ?_)
  obtain ⟨x1, rfl, rfl, hx1⟩ := h_
  have hP1 : Pd (cn s) x1 := prs_pd hx1
  have hn : x1 8 0 = nI n := by rw [en]; exact hP1.2.1
  have hm : x1 8 1 = nI m := by rw [em]; exact hP1.2.2.1
  have hc : x1 8 2 = nI c := by rw [ec]; exact hP1.2.2.2.1
  have rwH : Rw 5 n (x1 9) (HbS (cn s)) := by rw [en]; exact hP1.2.2.2.2.1
  have rwE : Rw 3 m (x1 10) (HeS (cn s)) := by rw [em]; exact hP1.2.2.2.2.2.1
  have rwC : Rw 4 c (x1 11) (ClS (cn s)) := by rw [ec]; exact hP1.2.2.2.2.2.2
  have hCl : ∀ k, k < c → x1 11 (4 * k + 3) = -1 ∨ ∃ j, j < 8 ∧ x1 11 (4 * k + 3) = nI j := by rw [ec]; exact hP1.ask
  have hHe : ∀ e, e < m → ¬ x1 10 (3 * e) < nI 0 := by rw [em]; exact hP1.room
  have hrf : x1 12 0 = nI rf := by rw [erf]; exact (congrFun (hP1.c (k := 12) rfl) 0).trans hL.rf.1
  have hsg : x1 21 0 = nI sg := by rw [esg]; exact (congrFun (hP1.c (k := 21) rfl) 0).trans hL.sg.1
  have hSg : ∀ k, k < sg → ∃ t, t < 24 ∧ x1 22 (3 * k) = nI t := by rw [esg, hP1.c (k := 22) rfl]; exact fun k hk => (hL.sg.2.2 k hk).1
  have hc_x1 : cn x1 = (cn s) := hP1.1
  show J G "best" RX12 cX12_best 2 (some .int) 0 0 8 Q 0 0 4 [(0, .ref o), (1, .int i)] [] (mW G o a x1)
  refine J_iload_n dX12_best_4 rfl rfl ?_
  refine J_i2l dX12_best_5 ?_
  refine J_ldc2 dX12_best_6 k_X12_228 ?_
  refine J_ldc2 dX12_best_9 k_X12_121 ?_
  refine J_cSi [.long i.toInt64, .long (-1), .long (5)] ms_X12_57 (c_X12_in (mW G o a x1) i.toInt64 (-1) (5)) rfl rfl (by decide) (Nat.le_of_ble_eq_true rfl) ⟨Nat.le_refl _, Nat.le_refl _⟩ dX12_best_12 ?_
  refine J_rw (y := bI (inI i (-1) (nI 5))) (congrArg bI (inL_inI i (-1) (nI 5))) ?_
  refine J_if_eqB 26 dX12_best_15 (by decide) (fun kcz1 => ?_) (fun kcz1 => ?_)
  · refine J_bipush (v := -2) dX12_best_26 (by decide) ?_
    exact J_iret dX12_best_28 rfl rfl rfl (hq x1 ((-2), (cn s)) (by simp [qBest, (i15_no kcz1).1, (i15_no kcz1).2]) (by rw [hc_x1]))
  · rcases i15_yes (hi := 5) (by decide) kcz1 with rfl | ⟨I9, hI9, rfl⟩
    · refine J_aload_n dX12_best_18 rfl rfl ?_
      refine J_iload_n dX12_best_19 rfl rfl ?_
      refine J_cVi (x := yX12_in) [.int (-1)] 0 mv_X12_230 (c_X12_bestOfN o a x1 n hn hn8 m hm hm6 hHe) mW_0 rfl rfl (by decide) (Nat.le_of_ble_eq_true rfl) ⟨Nat.le_refl _, Nat.le_refl _⟩ dX12_best_20 ?_
      show J G "best" RX12 cX12_best 2 (some .int) 0 0 8 Q 0 0 23 [(0, .ref o), (1, .int (-1))] [.int ((bsF n (min n 6) (min m 4) (x1 9) (x1 10) (x1 19 0) ((min m 4 + 1) ^ (min n 6))).1)] (mW G o a (su 20 (su 19 (su 17 x1 (lyW (min m 4 + 1) (bsF n (min n 6) (min m 4) (x1 9) (x1 10) (x1 19 0) ((min m 4 + 1) ^ (min n 6))).2.toNatClampNeg (min n 6))) (fun _ => (bsF n (min n 6) (min m 4) (x1 9) (x1 10) (x1 19 0) ((min m 4 + 1) ^ (min n 6))).2)) (fun _ => (bsF n (min n 6) (min m 4) (x1 9) (x1 10) (x1 19 0) ((min m 4 + 1) ^ (min n 6))).1)))
      refine J_goto 28 dX12_best_23 (by decide) ?_
      exact J_iret dX12_best_28 rfl rfl rfl (hq (su 20 (su 19 (su 17 x1 (lyW (min m 4 + 1) (bsF n (min n 6) (min m 4) (x1 9) (x1 10) (x1 19 0) ((min m 4 + 1) ^ (min n 6))).2.toNatClampNeg (min n 6))) (fun _ => (bsF n (min n 6) (min m 4) (x1 9) (x1 10) (x1 19 0) ((min m 4 + 1) ^ (min n 6))).2)) (fun _ => (bsF n (min n 6) (min m 4) (x1 9) (x1 10) (x1 19 0) ((min m 4 + 1) ^ (min n 6))).1)) ((bsF n (min n 6) (min m 4) (x1 9) (x1 10) (x1 19 0) ((min m 4 + 1) ^ (min n 6))).1, (cn s)) (by subst en em ec erf esg; rw [hP1.bs]; simp [qBest]) (by rw [cnu_out (k := 20) rfl, cnu_out (k := 19) rfl, cnu_out (k := 17) rfl, hc_x1]))
    · have eI9 : (nI I9).toNatClampNeg = I9 := nI_clamp (by omega)
      have rI9 : rng (nI I9) 6 = true := (rng_iff (by decide)).mpr ⟨I9, by omega, rfl⟩
      refine J_aload_n dX12_best_18 rfl rfl ?_
      refine J_iload_n dX12_best_19 rfl rfl ?_
      refine J_cVi (x := yX12_in) [.int (nI I9)] 0 mv_X12_230 (c_X12_bestOfI o a x1 n hn hn8 m hm hm6 hHe I9 (by omega)) mW_0 rfl rfl (by decide) (Nat.le_of_ble_eq_true rfl) ⟨Nat.le_refl _, Nat.le_refl _⟩ dX12_best_20 ?_
      show J G "best" RX12 cX12_best 2 (some .int) 0 0 8 Q 0 0 23 [(0, .ref o), (1, .int (nI I9))] [.int (if n ≤ I9 then -1 else lyW (min m 4 + 1) (bsF n (min n 6) (min m 4) (x1 9) (x1 10) (x1 19 0) ((min m 4 + 1) ^ (min n 6))).2.toNatClampNeg (min n 6) I9)] (mW G o a (su 20 (su 19 (su 17 x1 (lyW (min m 4 + 1) (bsF n (min n 6) (min m 4) (x1 9) (x1 10) (x1 19 0) ((min m 4 + 1) ^ (min n 6))).2.toNatClampNeg (min n 6))) (fun _ => (bsF n (min n 6) (min m 4) (x1 9) (x1 10) (x1 19 0) ((min m 4 + 1) ^ (min n 6))).2)) (fun _ => (bsF n (min n 6) (min m 4) (x1 9) (x1 10) (x1 19 0) ((min m 4 + 1) ^ (min n 6))).1)))
      refine J_goto 28 dX12_best_23 (by decide) ?_
      exact J_iret dX12_best_28 rfl rfl rfl (hq (su 20 (su 19 (su 17 x1 (lyW (min m 4 + 1) (bsF n (min n 6) (min m 4) (x1 9) (x1 10) (x1 19 0) ((min m 4 + 1) ^ (min n 6))).2.toNatClampNeg (min n 6))) (fun _ => (bsF n (min n 6) (min m 4) (x1 9) (x1 10) (x1 19 0) ((min m 4 + 1) ^ (min n 6))).2)) (fun _ => (bsF n (min n 6) (min m 4) (x1 9) (x1 10) (x1 19 0) ((min m 4 + 1) ^ (min n 6))).1)) ((if n ≤ I9 then -1 else lyW (min m 4 + 1) (bsF n (min n 6) (min m 4) (x1 9) (x1 10) (x1 19 0) ((min m 4 + 1) ^ (min n 6))).2.toNatClampNeg (min n 6) I9), (cn s)) (by subst en em ec erf esg; rw [hP1.bs]; simp [qBest, bkS, eI9, rI9, show ¬ nI I9 = -1 from fun q => m1_ne (by omega) q.symm]) (by rw [cnu_out (k := 20) rfl, cnu_out (k := 19) rfl, cnu_out (k := 17) rfl, hc_x1]))
theorem c_X12_best {G : GT} (o : Nat) (a : Nat → Nat) (s : Nat → Nat → Int32) (hL : LI (cn s)) (i : Int32) : Ct G yX12_best cX12_best 2 (some .int) 0 0 8 [.ref o, .int i] (mW G o a s) (QM G o a ((qBest i (cn s), (cn s)))) := Ct.of rfl (Nat.le_of_ble_eq_true rfl) (j_X12_best o a s hL i (fun x r h1 h2 => ⟨x, by rw [h1], rfl, by rw [← h1]; exact h2⟩))
set_option maxRecDepth 100000 in
set_option maxHeartbeats 1000000 in
theorem j_X12_write {G : GT} (o : Nat) (a : Nat → Nat) (s : Nat → Nat → Int32) (hL : LI (cn s)) (e w : Int32) {Q : Option Value → va_W → Prop} (hq : ∀ (x : St) (r : Int32 × St), r = (qWrite e w (cn s), (cn s)) → cn x = r.2 → Q (some (.int r.1)) (mW G o a x)) : J G "write" RX12 cX12_write 3 (some .int) 0 0 8 Q 0 0 0 [(0, .ref o), (1, .int e), (2, .int w)] [] (mW G o a s) := by
  obtain ⟨n, en⟩ : ∃ n, n = nH (cn s) := ⟨_, rfl⟩
  obtain ⟨m, em⟩ : ∃ m, m = nE (cn s) := ⟨_, rfl⟩
  obtain ⟨c, ec⟩ : ∃ c, c = nC (cn s) := ⟨_, rfl⟩
  obtain ⟨rf, erf⟩ : ∃ rf, rf = rfn (cn s) := ⟨_, rfl⟩
  obtain ⟨sg, esg⟩ : ∃ sg, sg = sgn (cn s) := ⟨_, rfl⟩
  have hn8 : n ≤ 8 := by rw [en]; exact nH_le _
  have hm6 : m ≤ 6 := by rw [em]; exact nE_le _
  have hc15 : c ≤ 15 := by rw [ec]; exact nC_le _
  have hrf12 : rf ≤ 12 := by rw [erf]; exact hL.R.2.1
  have hsg8 : sg ≤ 8 := by rw [esg]; exact hL.S.2.1
  refine J_aload_n dX12_write_0 rfl rfl ?_
  refine J_callV (wr := []) (As := []) (st := []) 0 mv_X12_171 (c_X12_find o a s (tl (cn s) 0) (tl (cn s) 1) (tl (cn s) 2) (hL.T (by decide)).1 (hL.T (by decide)).1 (hL.T (by decide)).1 hL.t0.2 hL.t1.2 hL.t2.2 (rfn (cn s)) hL.R.1 hL.R.2.1) mW_0 rfl rfl rfl (by decide) (Nat.le_of_ble_eq_true rfl) ⟨Nat.le_refl _, Nat.le_refl _⟩ dX12_write_1 (fun v_ w_ h_ => ?_)
  obtain ⟨x1, rfl, rfl, hx1⟩ := h_
  have hF1 : Fnn (cn s) x1 := fnd_fd hx1
  have hP1 := hF1.1
  have hn : x1 8 0 = nI n := by rw [en]; exact hP1.2.1
  have hm : x1 8 1 = nI m := by rw [em]; exact hP1.2.2.1
  have hc : x1 8 2 = nI c := by rw [ec]; exact hP1.2.2.2.1
  have rwH : Rw 5 n (x1 9) (HbS (cn s)) := by rw [en]; exact hP1.2.2.2.2.1
  have rwE : Rw 3 m (x1 10) (HeS (cn s)) := by rw [em]; exact hP1.2.2.2.2.2.1
  have rwC : Rw 4 c (x1 11) (ClS (cn s)) := by rw [ec]; exact hP1.2.2.2.2.2.2
  have hCl : ∀ k, k < c → x1 11 (4 * k + 3) = -1 ∨ ∃ j, j < 8 ∧ x1 11 (4 * k + 3) = nI j := by rw [ec]; exact hP1.ask
  have hHe : ∀ e, e < m → ¬ x1 10 (3 * e) < nI 0 := by rw [em]; exact hP1.room
  have hrf : x1 12 0 = nI rf := by rw [erf]; exact (congrFun (hP1.c (k := 12) rfl) 0).trans hL.rf.1
  have hsg : x1 21 0 = nI sg := by rw [esg]; exact (congrFun (hP1.c (k := 21) rfl) 0).trans hL.sg.1
  have hSg : ∀ k, k < sg → ∃ t, t < 24 ∧ x1 22 (3 * k) = nI t := by rw [esg, hP1.c (k := 22) rfl]; exact fun k hk => (hL.sg.2.2 k hk).1
  have hc_x1 : cn x1 = (cn s) := hP1.1
  have hao : x1 15 0 = nI 0 := hF1.2.1
  have h17 := hF1.2.2.1
  have h18 := hF1.2.2.2
  show J G "write" RX12 cX12_write 3 (some .int) 0 0 8 Q 0 0 4 [(0, .ref o), (1, .int e), (2, .int w)] [] (mW G o a x1)
  refine J_aload_n dX12_write_4 rfl rfl ?_
  refine J_iload_n dX12_write_5 rfl rfl ?_
  refine J_cVi (x := yX12_in) [.int e] 0 mv_X12_133 (c_X12_isHeir o a x1 m hm hm6 e) mW_0 rfl rfl (by decide) (Nat.le_of_ble_eq_true rfl) ⟨Nat.le_refl _, Nat.le_refl _⟩ dX12_write_6 ?_
  refine J_if_eqB 31 dX12_write_9 (by decide) (fun kcz1 => ?_) (fun kcz1 => ?_)
  · refine J_bipush (v := -2) dX12_write_31 (by decide) ?_
    exact J_iret dX12_write_33 rfl rfl rfl (hq x1 ((-2), (cn s)) (by subst en em ec erf esg; simp [qWrite, wrS, kcz1, cn_0, cn_1, cn_2, cn_4, cn_5, cn_6, cn_12, cn_13, cn_16, cn_21, cn_22]) (by rw [hc_x1]))
  · obtain ⟨E, hE, rfl⟩ := (rng_iff (by omega)).mp kcz1
    have eE : (nI E).toNatClampNeg = E := nI_clamp (by omega)
    refine J_iload_n dX12_write_12 rfl rfl ?_
    refine J_cSi [.int w] ms_X12_233 (c_X12_isTwo (mW G o a x1) w) rfl rfl (by decide) (Nat.le_of_ble_eq_true rfl) ⟨Nat.le_refl _, Nat.le_refl _⟩ dX12_write_13 ?_
    refine J_if_eqB 31 dX12_write_16 (by decide) (fun kcz2 => ?_) (fun kcz2 => ?_)
    · refine J_bipush (v := -2) dX12_write_31 (by decide) ?_
      exact J_iret dX12_write_33 rfl rfl rfl (hq x1 ((-2), (cn s)) (by subst en em ec erf esg; simp [qWrite, wrS, kcz1, eE, kcz2, cn_0, cn_1, cn_2, cn_4, cn_5, cn_6, cn_12, cn_13, cn_16, cn_21, cn_22]) (by rw [hc_x1]))
    · obtain ⟨Wn, hWn, rfl⟩ := (rng_iff (by omega)).mp kcz2
      have eWn : (nI Wn).toNatClampNeg = Wn := nI_clamp (by omega)
      rcases (show Wn = 0 ∨ Wn = 1 by omega) with rfl | rfl
      · refine J_aload_n dX12_write_19 rfl rfl ?_
        refine J_iload_n dX12_write_20 rfl rfl ?_
        refine J_cVi (x := yX12_in) [.int (nI E)] 0 mv_X12_236 (c_X12_writeOf o a x1 n hn hn8 m hm hm6 c hc hc15 hCl rf hrf hrf12 E (by omega)) mW_0 rfl rfl (by decide) (Nat.le_of_ble_eq_true rfl) ⟨Nat.le_refl _, Nat.le_refl _⟩ dX12_write_21 ?_
        show J G "write" RX12 cX12_write 3 (some .int) 0 0 8 Q 0 0 24 [(0, .ref o), (1, .int (nI E)), (2, .int (nI 0))] [.int (wrF n m c (x1 9) (x1 10) (x1 11) rf (x1 13) E (2 ^ n))] (mW G o a (su 18 (su 17 (su 15 (su 14 x1 (fun _ => nI E)) (fun _ => nI 0)) ((wlF n m (x1 11) (rfsM rf (x1 13) (nI E) 0) c).1)) (fun _ => nI (wlF n m (x1 11) (rfsM rf (x1 13) (nI E) 0) c).2)))
        refine J_iload_n dX12_write_24 rfl rfl ?_
        refine J_cSi [.int (wrF n m c (x1 9) (x1 10) (x1 11) rf (x1 13) E (2 ^ n)), .int (nI 0)] ms_X12_239 (c_X12_tells0 (mW G o a (su 18 (su 17 (su 15 (su 14 x1 (fun _ => nI E)) (fun _ => nI 0)) ((wlF n m (x1 11) (rfsM rf (x1 13) (nI E) 0) c).1)) (fun _ => nI (wlF n m (x1 11) (rfsM rf (x1 13) (nI E) 0) c).2))) (wrF n m c (x1 9) (x1 10) (x1 11) rf (x1 13) E (2 ^ n)) (wrF_256 hn8)) rfl rfl (by decide) (Nat.le_of_ble_eq_true rfl) ⟨Nat.le_refl _, Nat.le_refl _⟩ dX12_write_25 ?_
        refine J_rw (y := tlM (wrF n m c (x1 9) (x1 10) (x1 11) rf (x1 13) E (2 ^ n)) 0) rfl ?_
        refine J_goto 33 dX12_write_28 (by decide) ?_
        exact J_iret dX12_write_33 rfl rfl rfl (hq (su 18 (su 17 (su 15 (su 14 x1 (fun _ => nI E)) (fun _ => nI 0)) ((wlF n m (x1 11) (rfsM rf (x1 13) (nI E) 0) c).1)) (fun _ => nI (wlF n m (x1 11) (rfsM rf (x1 13) (nI E) 0) c).2)) (tlM (wrF n m c (x1 9) (x1 10) (x1 11) rf (x1 13) E (2 ^ n)) 0, (cn s)) (by subst en em ec erf esg; rw [wrF_cg rwH rwE rwC _ _ hE, hP1.c (k := 13) rfl]; simp [qWrite, wrS, kcz1, eE, kcz2, eWn, cn_0, cn_1, cn_2, cn_4, cn_5, cn_6, cn_12, cn_13, cn_16, cn_21, cn_22]) (by rw [cnu_out (k := 18) rfl, cnu_out (k := 17) rfl, cnu_out (k := 15) rfl, cnu_out (k := 14) rfl, hc_x1]))
      · refine J_aload_n dX12_write_19 rfl rfl ?_
        refine J_iload_n dX12_write_20 rfl rfl ?_
        refine J_cVi (x := yX12_in) [.int (nI E)] 0 mv_X12_236 (c_X12_writeOf o a x1 n hn hn8 m hm hm6 c hc hc15 hCl rf hrf hrf12 E (by omega)) mW_0 rfl rfl (by decide) (Nat.le_of_ble_eq_true rfl) ⟨Nat.le_refl _, Nat.le_refl _⟩ dX12_write_21 ?_
        show J G "write" RX12 cX12_write 3 (some .int) 0 0 8 Q 0 0 24 [(0, .ref o), (1, .int (nI E)), (2, .int (nI 1))] [.int (wrF n m c (x1 9) (x1 10) (x1 11) rf (x1 13) E (2 ^ n))] (mW G o a (su 18 (su 17 (su 15 (su 14 x1 (fun _ => nI E)) (fun _ => nI 0)) ((wlF n m (x1 11) (rfsM rf (x1 13) (nI E) 0) c).1)) (fun _ => nI (wlF n m (x1 11) (rfsM rf (x1 13) (nI E) 0) c).2)))
        refine J_iload_n dX12_write_24 rfl rfl ?_
        refine J_cSi [.int (wrF n m c (x1 9) (x1 10) (x1 11) rf (x1 13) E (2 ^ n)), .int (nI 1)] ms_X12_239 (c_X12_tells1 (mW G o a (su 18 (su 17 (su 15 (su 14 x1 (fun _ => nI E)) (fun _ => nI 0)) ((wlF n m (x1 11) (rfsM rf (x1 13) (nI E) 0) c).1)) (fun _ => nI (wlF n m (x1 11) (rfsM rf (x1 13) (nI E) 0) c).2))) (wrF n m c (x1 9) (x1 10) (x1 11) rf (x1 13) E (2 ^ n)) (wrF_256 hn8)) rfl rfl (by decide) (Nat.le_of_ble_eq_true rfl) ⟨Nat.le_refl _, Nat.le_refl _⟩ dX12_write_25 ?_
        refine J_rw (y := tlM (wrF n m c (x1 9) (x1 10) (x1 11) rf (x1 13) E (2 ^ n)) 1) rfl ?_
        refine J_goto 33 dX12_write_28 (by decide) ?_
        exact J_iret dX12_write_33 rfl rfl rfl (hq (su 18 (su 17 (su 15 (su 14 x1 (fun _ => nI E)) (fun _ => nI 0)) ((wlF n m (x1 11) (rfsM rf (x1 13) (nI E) 0) c).1)) (fun _ => nI (wlF n m (x1 11) (rfsM rf (x1 13) (nI E) 0) c).2)) (tlM (wrF n m c (x1 9) (x1 10) (x1 11) rf (x1 13) E (2 ^ n)) 1, (cn s)) (by subst en em ec erf esg; rw [wrF_cg rwH rwE rwC _ _ hE, hP1.c (k := 13) rfl]; simp [qWrite, wrS, kcz1, eE, kcz2, eWn, cn_0, cn_1, cn_2, cn_4, cn_5, cn_6, cn_12, cn_13, cn_16, cn_21, cn_22]) (by rw [cnu_out (k := 18) rfl, cnu_out (k := 17) rfl, cnu_out (k := 15) rfl, cnu_out (k := 14) rfl, hc_x1]))
theorem c_X12_write {G : GT} (o : Nat) (a : Nat → Nat) (s : Nat → Nat → Int32) (hL : LI (cn s)) (e w : Int32) : Ct G yX12_write cX12_write 3 (some .int) 0 0 8 [.ref o, .int e, .int w] (mW G o a s) (QM G o a ((qWrite e w (cn s), (cn s)))) := Ct.of rfl (Nat.le_of_ble_eq_true rfl) (j_X12_write o a s hL e w (fun x r h1 h2 => ⟨x, by rw [h1], rfl, by rw [← h1]; exact h2⟩))
set_option maxRecDepth 100000 in
set_option maxHeartbeats 1000000 in
theorem j_X12_look {G : GT} (o : Nat) (a : Nat → Nat) (s : Nat → Nat → Int32) (hL : LI (cn s)) (h e : Int32) {Q : Option Value → va_W → Prop} (hq : ∀ (x : St) (r : Int32), r = qLook h e (cn s) → Fnn (cn s) x → Q (some (.int r)) (mW G o a x)) : J G "look" RX12 cX12_look 3 (some .int) 0 0 8 Q 0 0 0 [(0, .ref o), (1, .int h), (2, .int e)] [] (mW G o a s) := by
  obtain ⟨n, en⟩ : ∃ n, n = nH (cn s) := ⟨_, rfl⟩
  obtain ⟨m, em⟩ : ∃ m, m = nE (cn s) := ⟨_, rfl⟩
  obtain ⟨c, ec⟩ : ∃ c, c = nC (cn s) := ⟨_, rfl⟩
  obtain ⟨rf, erf⟩ : ∃ rf, rf = rfn (cn s) := ⟨_, rfl⟩
  obtain ⟨sg, esg⟩ : ∃ sg, sg = sgn (cn s) := ⟨_, rfl⟩
  have hn8 : n ≤ 8 := by rw [en]; exact nH_le _
  have hm6 : m ≤ 6 := by rw [em]; exact nE_le _
  have hc15 : c ≤ 15 := by rw [ec]; exact nC_le _
  have hrf12 : rf ≤ 12 := by rw [erf]; exact hL.R.2.1
  have hsg8 : sg ≤ 8 := by rw [esg]; exact hL.S.2.1
  refine J_aload_n dX12_look_0 rfl rfl ?_
  refine J_callV (wr := []) (As := []) (st := []) 0 mv_X12_171 (c_X12_find o a s (tl (cn s) 0) (tl (cn s) 1) (tl (cn s) 2) (hL.T (by decide)).1 (hL.T (by decide)).1 (hL.T (by decide)).1 hL.t0.2 hL.t1.2 hL.t2.2 (rfn (cn s)) hL.R.1 hL.R.2.1) mW_0 rfl rfl rfl (by decide) (Nat.le_of_ble_eq_true rfl) ⟨Nat.le_refl _, Nat.le_refl _⟩ dX12_look_1 (fun v_ w_ h_ => ?_)
  obtain ⟨x1, rfl, rfl, hx1⟩ := h_
  have hF1 : Fnn (cn s) x1 := fnd_fd hx1
  have hP1 := hF1.1
  have hn : x1 8 0 = nI n := by rw [en]; exact hP1.2.1
  have hm : x1 8 1 = nI m := by rw [em]; exact hP1.2.2.1
  have hc : x1 8 2 = nI c := by rw [ec]; exact hP1.2.2.2.1
  have rwH : Rw 5 n (x1 9) (HbS (cn s)) := by rw [en]; exact hP1.2.2.2.2.1
  have rwE : Rw 3 m (x1 10) (HeS (cn s)) := by rw [em]; exact hP1.2.2.2.2.2.1
  have rwC : Rw 4 c (x1 11) (ClS (cn s)) := by rw [ec]; exact hP1.2.2.2.2.2.2
  have hCl : ∀ k, k < c → x1 11 (4 * k + 3) = -1 ∨ ∃ j, j < 8 ∧ x1 11 (4 * k + 3) = nI j := by rw [ec]; exact hP1.ask
  have hHe : ∀ e, e < m → ¬ x1 10 (3 * e) < nI 0 := by rw [em]; exact hP1.room
  have hrf : x1 12 0 = nI rf := by rw [erf]; exact (congrFun (hP1.c (k := 12) rfl) 0).trans hL.rf.1
  have hsg : x1 21 0 = nI sg := by rw [esg]; exact (congrFun (hP1.c (k := 21) rfl) 0).trans hL.sg.1
  have hSg : ∀ k, k < sg → ∃ t, t < 24 ∧ x1 22 (3 * k) = nI t := by rw [esg, hP1.c (k := 22) rfl]; exact fun k hk => (hL.sg.2.2 k hk).1
  have hc_x1 : cn x1 = (cn s) := hP1.1
  have hao : x1 15 0 = nI 0 := hF1.2.1
  have h17 := hF1.2.2.1
  have h18 := hF1.2.2.2
  show J G "look" RX12 cX12_look 3 (some .int) 0 0 8 Q 0 0 4 [(0, .ref o), (1, .int h), (2, .int e)] [] (mW G o a x1)
  refine J_aload_n dX12_look_4 rfl rfl ?_
  refine J_iload_n dX12_look_5 rfl rfl ?_
  refine J_cVi (x := yX12_in) [.int h] 0 mv_X12_128 (c_X12_isHabit o a x1 n hn hn8 h) mW_0 rfl rfl (by decide) (Nat.le_of_ble_eq_true rfl) ⟨Nat.le_refl _, Nat.le_refl _⟩ dX12_look_6 ?_
  refine J_if_eqB 29 dX12_look_9 (by decide) (fun kcz1 => ?_) (fun kcz1 => ?_)
  · refine J_bipush (v := -2) dX12_look_29 (by decide) ?_
    exact J_iret dX12_look_31 rfl rfl rfl (hq x1 (-2) (by subst en em ec erf esg; simp [qLook, kcz1]) hF1)
  · obtain ⟨H, hH, rfl⟩ := (rng_iff (by omega)).mp kcz1
    have eH : (nI H).toNatClampNeg = H := nI_clamp (by omega)
    refine J_aload_n dX12_look_12 rfl rfl ?_
    refine J_iload_n dX12_look_13 rfl rfl ?_
    refine J_cVi (x := yX12_in) [.int e] 0 mv_X12_133 (c_X12_isHeir o a x1 m hm hm6 e) mW_0 rfl rfl (by decide) (Nat.le_of_ble_eq_true rfl) ⟨Nat.le_refl _, Nat.le_refl _⟩ dX12_look_14 ?_
    refine J_if_eqB 29 dX12_look_17 (by decide) (fun kcz2 => ?_) (fun kcz2 => ?_)
    · refine J_bipush (v := -2) dX12_look_29 (by decide) ?_
      exact J_iret dX12_look_31 rfl rfl rfl (hq x1 (-2) (by subst en em ec erf esg; simp [qLook, kcz1, eH, kcz2]) hF1)
    · obtain ⟨E, hE, rfl⟩ := (rng_iff (by omega)).mp kcz2
      have eE : (nI E).toNatClampNeg = E := nI_clamp (by omega)
      refine J_aload_n dX12_look_20 rfl rfl ?_
      refine J_iload_n dX12_look_21 rfl rfl ?_
      refine J_iload_n dX12_look_22 rfl rfl ?_
      refine J_callV (wr := []) (As := [.int (nI H), .int (nI E)]) (st := []) 0 mv_X12_265 (c_X12_lookOf o a x1 n hn hn8 m hm hm6 sg hsg hsg8 hSg H E (by omega) (by omega)) mW_0 rfl rfl rfl (by decide) (Nat.le_of_ble_eq_true rfl) ⟨Nat.le_refl _, Nat.le_refl _⟩ dX12_look_23 (fun v_ w_ h_ => ?_)
      obtain ⟨yc23, rfl, rfl⟩ := h_
      show J G "look" RX12 cX12_look 3 (some .int) 0 0 8 Q 0 0 26 [(0, .ref o), (1, .int (nI H)), (2, .int (nI E))] [.int (nI ((lkF (fun t => moF (dzM n (x1 9) (x1 10) (x1 17) H E t) (whF n m (x1 9) (x1 10) (x1 17) (x1 22) sg H (m + 1)) 7) 23).1))] (mW G o a (su 23 x1 yc23))
      refine J_goto 31 dX12_look_26 (by decide) ?_
      exact J_iret dX12_look_31 rfl rfl rfl (hq (su 23 x1 yc23) (nI ((lkF (fun t => moF (dzM n (x1 9) (x1 10) (x1 17) H E t) (whF n m (x1 9) (x1 10) (x1 17) (x1 22) sg H (m + 1)) 7) 23).1)) (by subst en em ec erf esg; rw [hF1.lk hE]; simp [qLook, kcz1, eH, kcz2, eE]) (hF1.sk rfl (by decide)))
theorem c_X12_look {G : GT} (o : Nat) (a : Nat → Nat) (s : Nat → Nat → Int32) (hL : LI (cn s)) (h e : Int32) : Ct G yX12_look cX12_look 3 (some .int) 0 0 8 [.ref o, .int h, .int e] (mW G o a s) (QMF G o a (qLook h e (cn s)) (cn s)) := Ct.of rfl (Nat.le_of_ble_eq_true rfl) (j_X12_look o a s hL h e (fun x r h1 h2 => ⟨x, by rw [h1], rfl, h2⟩))
set_option maxRecDepth 100000 in
set_option maxHeartbeats 1000000 in
theorem j_X12_wills {G : GT} (o : Nat) (a : Nat → Nat) (s : Nat → Nat → Int32) (hL : LI (cn s)) (seed k e : Int32) {Q : Option Value → va_W → Prop} (hq : ∀ (x : St) (r : Int32), r = qWills seed k e (cn s) → Fnn (cn s) x → Q (some (.int r)) (mW G o a x)) : J G "wills" RX12 cX12_wills 4 (some .int) 0 0 8 Q 0 0 0 [(0, .ref o), (1, .int seed), (2, .int k), (3, .int e)] [] (mW G o a s) := by
  obtain ⟨n, en⟩ : ∃ n, n = nH (cn s) := ⟨_, rfl⟩
  obtain ⟨m, em⟩ : ∃ m, m = nE (cn s) := ⟨_, rfl⟩
  obtain ⟨c, ec⟩ : ∃ c, c = nC (cn s) := ⟨_, rfl⟩
  obtain ⟨rf, erf⟩ : ∃ rf, rf = rfn (cn s) := ⟨_, rfl⟩
  obtain ⟨sg, esg⟩ : ∃ sg, sg = sgn (cn s) := ⟨_, rfl⟩
  have hn8 : n ≤ 8 := by rw [en]; exact nH_le _
  have hm6 : m ≤ 6 := by rw [em]; exact nE_le _
  have hc15 : c ≤ 15 := by rw [ec]; exact nC_le _
  have hrf12 : rf ≤ 12 := by rw [erf]; exact hL.R.2.1
  have hsg8 : sg ≤ 8 := by rw [esg]; exact hL.S.2.1
  refine J_aload_n dX12_wills_0 rfl rfl ?_
  refine J_callV (wr := []) (As := []) (st := []) 0 mv_X12_171 (c_X12_find o a s (tl (cn s) 0) (tl (cn s) 1) (tl (cn s) 2) (hL.T (by decide)).1 (hL.T (by decide)).1 (hL.T (by decide)).1 hL.t0.2 hL.t1.2 hL.t2.2 (rfn (cn s)) hL.R.1 hL.R.2.1) mW_0 rfl rfl rfl (by decide) (Nat.le_of_ble_eq_true rfl) ⟨Nat.le_refl _, Nat.le_refl _⟩ dX12_wills_1 (fun v_ w_ h_ => ?_)
  obtain ⟨x1, rfl, rfl, hx1⟩ := h_
  have hF1 : Fnn (cn s) x1 := fnd_fd hx1
  have hP1 := hF1.1
  have hn : x1 8 0 = nI n := by rw [en]; exact hP1.2.1
  have hm : x1 8 1 = nI m := by rw [em]; exact hP1.2.2.1
  have hc : x1 8 2 = nI c := by rw [ec]; exact hP1.2.2.2.1
  have rwH : Rw 5 n (x1 9) (HbS (cn s)) := by rw [en]; exact hP1.2.2.2.2.1
  have rwE : Rw 3 m (x1 10) (HeS (cn s)) := by rw [em]; exact hP1.2.2.2.2.2.1
  have rwC : Rw 4 c (x1 11) (ClS (cn s)) := by rw [ec]; exact hP1.2.2.2.2.2.2
  have hCl : ∀ k, k < c → x1 11 (4 * k + 3) = -1 ∨ ∃ j, j < 8 ∧ x1 11 (4 * k + 3) = nI j := by rw [ec]; exact hP1.ask
  have hHe : ∀ e, e < m → ¬ x1 10 (3 * e) < nI 0 := by rw [em]; exact hP1.room
  have hrf : x1 12 0 = nI rf := by rw [erf]; exact (congrFun (hP1.c (k := 12) rfl) 0).trans hL.rf.1
  have hsg : x1 21 0 = nI sg := by rw [esg]; exact (congrFun (hP1.c (k := 21) rfl) 0).trans hL.sg.1
  have hSg : ∀ k, k < sg → ∃ t, t < 24 ∧ x1 22 (3 * k) = nI t := by rw [esg, hP1.c (k := 22) rfl]; exact fun k hk => (hL.sg.2.2 k hk).1
  have hc_x1 : cn x1 = (cn s) := hP1.1
  have hao : x1 15 0 = nI 0 := hF1.2.1
  have h17 := hF1.2.2.1
  have h18 := hF1.2.2.2
  show J G "wills" RX12 cX12_wills 4 (some .int) 0 0 8 Q 0 0 4 [(0, .ref o), (1, .int seed), (2, .int k), (3, .int e)] [] (mW G o a x1)
  refine J_iload_n dX12_wills_4 rfl rfl ?_
  refine J_i2l dX12_wills_5 ?_
  refine J_lconst (v := 1) dX12_wills_6 (by decide) ?_
  refine J_ldc2 dX12_wills_7 k_X12_291 ?_
  refine J_cSi [.long k.toInt64, .long 1, .long (20)] ms_X12_57 (c_X12_in (mW G o a x1) k.toInt64 1 (20)) rfl rfl (by decide) (Nat.le_of_ble_eq_true rfl) ⟨Nat.le_refl _, Nat.le_refl _⟩ dX12_wills_10 ?_
  refine J_rw (y := bI (inI k (nI 1) (nI 20))) (congrArg bI (inL_inI k (nI 1) (nI 20))) ?_
  refine J_if_eqB 43 dX12_wills_13 (by decide) (fun kcz1 => ?_) (fun kcz1 => ?_)
  · refine J_bipush (v := -2) dX12_wills_43 (by decide) ?_
    exact J_iret dX12_wills_45 rfl rfl rfl (hq x1 (-2) (by subst en em ec erf esg; simp [qWills, wsA, kcz1]) hF1)
  · obtain ⟨K, hK1, hK20, rfl⟩ := in120 kcz1
    have eK : (nI K).toNatClampNeg = K := nI_clamp (by omega)
    refine J_aload_n dX12_wills_16 rfl rfl ?_
    refine J_iload_n dX12_wills_17 rfl rfl ?_
    refine J_cVi (x := yX12_in) [.int e] 0 mv_X12_133 (c_X12_isHeir o a x1 m hm hm6 e) mW_0 rfl rfl (by decide) (Nat.le_of_ble_eq_true rfl) ⟨Nat.le_refl _, Nat.le_refl _⟩ dX12_wills_18 ?_
    refine J_if_eqB 43 dX12_wills_21 (by decide) (fun kcz2 => ?_) (fun kcz2 => ?_)
    · refine J_bipush (v := -2) dX12_wills_43 (by decide) ?_
      exact J_iret dX12_wills_45 rfl rfl rfl (hq x1 (-2) (by subst en em ec erf esg; simp [qWills, wsA, kcz1, eK, kcz2]) hF1)
    · obtain ⟨E, hE, rfl⟩ := (rng_iff (by omega)).mp kcz2
      have eE : (nI E).toNatClampNeg = E := nI_clamp (by omega)
      refine J_aload_n dX12_wills_24 rfl rfl ?_
      refine Mg_8 dX12_wills_25 ?_
      refine J_iconst (v := nI 0) dX12_wills_28 (by decide) ?_
      refine Ml_8 (s := x1) (x1 8) rfl 0 rfl (by omega) dX12_wills_29 ?_
      refine J_rw (y := nI n) hn ?_
      refine J_if_le 43 dX12_wills_30 (by decide) (fun kcz3 => ?_) (fun kcz3 => ?_)
      · have hnz := (nI_le0 (n := n) (by omega)).mp kcz3
        refine J_bipush (v := -2) dX12_wills_43 (by decide) ?_
        exact J_iret dX12_wills_45 rfl rfl rfl (hq x1 (-2) (by subst en em ec erf esg; simp [qWills, wsA, kcz1, eK, kcz2, eE, hnz]) hF1)
      · have hn0 : 0 < n := by have := (not_congr (nI_le0 (n := n) (by omega))).mp kcz3; omega
        have hnz : ¬ n = 0 := by omega
        refine J_aload_n dX12_wills_33 rfl rfl ?_
        refine J_iload_n dX12_wills_34 rfl rfl ?_
        refine J_iload_n dX12_wills_35 rfl rfl ?_
        refine J_iload_n dX12_wills_36 rfl rfl ?_
        refine J_cVi (x := yX12_in) [.int seed, .int (nI K), .int (nI E)] 0 mv_X12_293 (c_X12_willsOf o a x1 n hn hn8 m hm hm6 c hc hc15 hCl rf 0 hrf hrf12 hao (by decide) seed K E hn0 (by omega) (by omega) (by omega)) mW_0 rfl rfl (by decide) (Nat.le_of_ble_eq_true rfl) ⟨Nat.le_refl _, Nat.le_refl _⟩ dX12_wills_37 ?_
        show J G "wills" RX12 cX12_wills 4 (some .int) 0 0 8 Q 0 0 40 [(0, .ref o), (1, .int seed), (2, .int (nI K)), (3, .int (nI E))] [.int (wrM n (x1 9) (wsF n m (rfsM rf (x1 13) (x1 14 0) 0) (x1 17) seed K).2 E)] (mW G o a (su 24 (su 18 (su 17 x1 ((wlF n m (x1 11) (rfsM rf (x1 13) (x1 14 0) 0) c).1)) (fun _ => nI (wlF n m (x1 11) (rfsM rf (x1 13) (x1 14 0) 0) c).2)) (fun _ => (wsF n m (rfsM rf (x1 13) (x1 14 0) 0) (x1 17) seed K).1)))
        refine J_goto 45 dX12_wills_40 (by decide) ?_
        exact J_iret dX12_wills_45 rfl rfl rfl (hq (su 24 (su 18 (su 17 x1 ((wlF n m (x1 11) (rfsM rf (x1 13) (x1 14 0) 0) c).1)) (fun _ => nI (wlF n m (x1 11) (rfsM rf (x1 13) (x1 14 0) 0) c).2)) (fun _ => (wsF n m (rfsM rf (x1 13) (x1 14 0) 0) (x1 17) seed K).1)) (wrM n (x1 9) (wsF n m (rfsM rf (x1 13) (x1 14 0) 0) (x1 17) seed K).2 E) (by subst en em ec erf esg; rw [hP1.rfs, h17, wrM_cg rwH]; simp [qWills, wsA, kcz1, eK, kcz2, eE, hnz]) (by subst en em ec erf esg; exact hF1.wills))
theorem c_X12_wills {G : GT} (o : Nat) (a : Nat → Nat) (s : Nat → Nat → Int32) (hL : LI (cn s)) (seed k e : Int32) : Ct G yX12_wills cX12_wills 4 (some .int) 0 0 8 [.ref o, .int seed, .int k, .int e] (mW G o a s) (QMF G o a (qWills seed k e (cn s)) (cn s)) := Ct.of rfl (Nat.le_of_ble_eq_true rfl) (j_X12_wills o a s hL seed k e (fun x r h1 h2 => ⟨x, by rw [h1], rfl, h2⟩))
set_option maxRecDepth 100000 in
set_option maxHeartbeats 1000000 in
theorem j_X12_march {G : GT} (o : Nat) (a : Nat → Nat) (s : Nat → Nat → Int32) (hL : LI (cn s)) (v e l w : Int32) {Q : Option Value → va_W → Prop} (hq : ∀ (x : St) (r : Int64), r = qMarch v e l w (cn s) → cn x = cn s → Q (some (.long r)) (mW G o a x)) : J G "march" RX12 cX12_march 5 (some .long) 0 0 8 Q 0 0 0 [(0, .ref o), (1, .int v), (2, .int e), (3, .int l), (4, .int w)] [] (mW G o a s) := by
  obtain ⟨n, en⟩ : ∃ n, n = nH (cn s) := ⟨_, rfl⟩
  obtain ⟨m, em⟩ : ∃ m, m = nE (cn s) := ⟨_, rfl⟩
  obtain ⟨c, ec⟩ : ∃ c, c = nC (cn s) := ⟨_, rfl⟩
  obtain ⟨rf, erf⟩ : ∃ rf, rf = rfn (cn s) := ⟨_, rfl⟩
  obtain ⟨sg, esg⟩ : ∃ sg, sg = sgn (cn s) := ⟨_, rfl⟩
  have hn8 : n ≤ 8 := by rw [en]; exact nH_le _
  have hm6 : m ≤ 6 := by rw [em]; exact nE_le _
  have hc15 : c ≤ 15 := by rw [ec]; exact nC_le _
  have hrf12 : rf ≤ 12 := by rw [erf]; exact hL.R.2.1
  have hsg8 : sg ≤ 8 := by rw [esg]; exact hL.S.2.1
  refine J_aload_n dX12_march_0 rfl rfl ?_
  refine J_callV (wr := []) (As := []) (st := []) 0 mv_X12_171 (c_X12_find o a s (tl (cn s) 0) (tl (cn s) 1) (tl (cn s) 2) (hL.T (by decide)).1 (hL.T (by decide)).1 (hL.T (by decide)).1 hL.t0.2 hL.t1.2 hL.t2.2 (rfn (cn s)) hL.R.1 hL.R.2.1) mW_0 rfl rfl rfl (by decide) (Nat.le_of_ble_eq_true rfl) ⟨Nat.le_refl _, Nat.le_refl _⟩ dX12_march_1 (fun v_ w_ h_ => ?_)
  obtain ⟨x1, rfl, rfl, hx1⟩ := h_
  have hF1 : Fnn (cn s) x1 := fnd_fd hx1
  have hP1 := hF1.1
  have hn : x1 8 0 = nI n := by rw [en]; exact hP1.2.1
  have hm : x1 8 1 = nI m := by rw [em]; exact hP1.2.2.1
  have hc : x1 8 2 = nI c := by rw [ec]; exact hP1.2.2.2.1
  have rwH : Rw 5 n (x1 9) (HbS (cn s)) := by rw [en]; exact hP1.2.2.2.2.1
  have rwE : Rw 3 m (x1 10) (HeS (cn s)) := by rw [em]; exact hP1.2.2.2.2.2.1
  have rwC : Rw 4 c (x1 11) (ClS (cn s)) := by rw [ec]; exact hP1.2.2.2.2.2.2
  have hCl : ∀ k, k < c → x1 11 (4 * k + 3) = -1 ∨ ∃ j, j < 8 ∧ x1 11 (4 * k + 3) = nI j := by rw [ec]; exact hP1.ask
  have hHe : ∀ e, e < m → ¬ x1 10 (3 * e) < nI 0 := by rw [em]; exact hP1.room
  have hrf : x1 12 0 = nI rf := by rw [erf]; exact (congrFun (hP1.c (k := 12) rfl) 0).trans hL.rf.1
  have hsg : x1 21 0 = nI sg := by rw [esg]; exact (congrFun (hP1.c (k := 21) rfl) 0).trans hL.sg.1
  have hSg : ∀ k, k < sg → ∃ t, t < 24 ∧ x1 22 (3 * k) = nI t := by rw [esg, hP1.c (k := 22) rfl]; exact fun k hk => (hL.sg.2.2 k hk).1
  have hc_x1 : cn x1 = (cn s) := hP1.1
  have hao : x1 15 0 = nI 0 := hF1.2.1
  have h17 := hF1.2.2.1
  have h18 := hF1.2.2.2
  show J G "march" RX12 cX12_march 5 (some .long) 0 0 8 Q 0 0 4 [(0, .ref o), (1, .int v), (2, .int e), (3, .int l), (4, .int w)] [] (mW G o a x1)
  refine J_iload_n dX12_march_4 rfl rfl ?_
  refine J_i2l dX12_march_5 ?_
  refine J_lconst (v := 0) dX12_march_6 (by decide) ?_
  refine J_ldc2 dX12_march_7 k_X12_268 ?_
  refine J_cSi [.long v.toInt64, .long 0, .long (16)] ms_X12_57 (c_X12_in (mW G o a x1) v.toInt64 0 (16)) rfl rfl (by decide) (Nat.le_of_ble_eq_true rfl) ⟨Nat.le_refl _, Nat.le_refl _⟩ dX12_march_10 ?_
  refine J_rw (y := bI (rng v 17)) (congrArg bI (inL_rng v (by decide) rfl)) ?_
  refine J_if_eqB 56 dX12_march_13 (by decide) (fun kcz1 => ?_) (fun kcz1 => ?_)
  · refine J_bipush (v := -2) dX12_march_56 (by decide) ?_
    refine J_cSl [.int (-2)] ms_X12_280 (c_X12_no (mW G o a x1)) rfl rfl (by decide) (Nat.le_of_ble_eq_true rfl) ⟨Nat.le_refl _, Nat.le_refl _⟩ dX12_march_58 ?_
    exact J_lret dX12_march_61 rfl rfl rfl (hq x1 (-9223372036854775806) (by subst en em ec erf esg; simp [qMarch, kcz1]) (by rw [hc_x1]))
  · obtain ⟨Cc, hCc, rfl⟩ := (rng_iff (by omega)).mp kcz1
    have eCc : (nI Cc).toNatClampNeg = Cc := nI_clamp (by omega)
    refine J_aload_n dX12_march_16 rfl rfl ?_
    refine J_iload_n dX12_march_17 rfl rfl ?_
    refine J_cVi (x := yX12_in) [.int e] 0 mv_X12_133 (c_X12_isHeir o a x1 m hm hm6 e) mW_0 rfl rfl (by decide) (Nat.le_of_ble_eq_true rfl) ⟨Nat.le_refl _, Nat.le_refl _⟩ dX12_march_18 ?_
    refine J_if_eqB 56 dX12_march_21 (by decide) (fun kcz2 => ?_) (fun kcz2 => ?_)
    · refine J_bipush (v := -2) dX12_march_56 (by decide) ?_
      refine J_cSl [.int (-2)] ms_X12_280 (c_X12_no (mW G o a x1)) rfl rfl (by decide) (Nat.le_of_ble_eq_true rfl) ⟨Nat.le_refl _, Nat.le_refl _⟩ dX12_march_58 ?_
      exact J_lret dX12_march_61 rfl rfl rfl (hq x1 (-9223372036854775806) (by subst en em ec erf esg; simp [qMarch, kcz1, eCc, kcz2]) (by rw [hc_x1]))
    · obtain ⟨E, hE, rfl⟩ := (rng_iff (by omega)).mp kcz2
      have eE : (nI E).toNatClampNeg = E := nI_clamp (by omega)
      refine J_iload_n dX12_march_24 rfl rfl ?_
      refine J_i2l dX12_march_25 ?_
      refine J_lconst (v := 0) dX12_march_26 (by decide) ?_
      refine J_ldc2 dX12_march_27 k_X12_274 ?_
      refine J_cSi [.long l.toInt64, .long 0, .long (8)] ms_X12_57 (c_X12_in (mW G o a x1) l.toInt64 0 (8)) rfl rfl (by decide) (Nat.le_of_ble_eq_true rfl) ⟨Nat.le_refl _, Nat.le_refl _⟩ dX12_march_30 ?_
      refine J_rw (y := bI (rng l 9)) (congrArg bI (inL_rng l (by decide) rfl)) ?_
      refine J_if_eqB 56 dX12_march_33 (by decide) (fun kcz3 => ?_) (fun kcz3 => ?_)
      · refine J_bipush (v := -2) dX12_march_56 (by decide) ?_
        refine J_cSl [.int (-2)] ms_X12_280 (c_X12_no (mW G o a x1)) rfl rfl (by decide) (Nat.le_of_ble_eq_true rfl) ⟨Nat.le_refl _, Nat.le_refl _⟩ dX12_march_58 ?_
        exact J_lret dX12_march_61 rfl rfl rfl (hq x1 (-9223372036854775806) (by subst en em ec erf esg; simp [qMarch, kcz1, eCc, kcz2, eE, kcz3]) (by rw [hc_x1]))
      · obtain ⟨Lf, hLf, rfl⟩ := (rng_iff (by omega)).mp kcz3
        have eLf : (nI Lf).toNatClampNeg = Lf := nI_clamp (by omega)
        refine J_iload dX12_march_36 rfl ?_
        refine J_cSi [.int w] ms_X12_233 (c_X12_isTwo (mW G o a x1) w) rfl rfl (by decide) (Nat.le_of_ble_eq_true rfl) ⟨Nat.le_refl _, Nat.le_refl _⟩ dX12_march_38 ?_
        refine J_if_eqB 56 dX12_march_41 (by decide) (fun kcz4 => ?_) (fun kcz4 => ?_)
        · refine J_bipush (v := -2) dX12_march_56 (by decide) ?_
          refine J_cSl [.int (-2)] ms_X12_280 (c_X12_no (mW G o a x1)) rfl rfl (by decide) (Nat.le_of_ble_eq_true rfl) ⟨Nat.le_refl _, Nat.le_refl _⟩ dX12_march_58 ?_
          exact J_lret dX12_march_61 rfl rfl rfl (hq x1 (-9223372036854775806) (by subst en em ec erf esg; simp [qMarch, kcz1, eCc, kcz2, eE, kcz3, eLf, kcz4]) (by rw [hc_x1]))
        · obtain ⟨Wn, hWn, rfl⟩ := (rng_iff (by omega)).mp kcz4
          have eWn : (nI Wn).toNatClampNeg = Wn := nI_clamp (by omega)
          rcases (show Wn = 0 ∨ Wn = 1 by omega) with rfl | rfl
          · refine J_aload_n dX12_march_44 rfl rfl ?_
            refine J_iload_n dX12_march_45 rfl rfl ?_
            refine J_iload_n dX12_march_46 rfl rfl ?_
            refine J_iload_n dX12_march_47 rfl rfl ?_
            refine J_iload dX12_march_48 rfl ?_
            refine J_cVl (x := yX12_in) [.int (nI Cc), .int (nI E), .int (nI Lf), .int (nI 0)] 0 mv_X12_276 (c_X12_marchOf0 o a x1 n hn hn8 Cc E Lf (vcS (cn s) E) (by omega) (by omega) (by subst en em ec erf esg; exact hF1.vc E) (vc_ok E).2) mW_0 rfl rfl (by decide) (Nat.le_of_ble_eq_true rfl) ⟨Nat.le_refl _, Nat.le_refl _⟩ dX12_march_50 ?_
            refine J_goto 61 dX12_march_53 (by decide) ?_
            exact J_lret dX12_march_61 rfl rfl rfl (hq x1 (mrA Cc (vcS (cn s) E) Lf 0) (by subst en em ec erf esg; simp [qMarch, kcz1, eCc, kcz2, eE, kcz3, eLf, kcz4, eWn]) (by rw [hc_x1]))
          · refine J_aload_n dX12_march_44 rfl rfl ?_
            refine J_iload_n dX12_march_45 rfl rfl ?_
            refine J_iload_n dX12_march_46 rfl rfl ?_
            refine J_iload_n dX12_march_47 rfl rfl ?_
            refine J_iload dX12_march_48 rfl ?_
            refine J_cVl (x := yX12_in) [.int (nI Cc), .int (nI E), .int (nI Lf), .int (nI 1)] 0 mv_X12_276 (c_X12_marchOf1 o a x1 n hn hn8 Cc E Lf (vcS (cn s) E) (by omega) (by omega) (by subst en em ec erf esg; exact hF1.vc E) (vc_ok E).2) mW_0 rfl rfl (by decide) (Nat.le_of_ble_eq_true rfl) ⟨Nat.le_refl _, Nat.le_refl _⟩ dX12_march_50 ?_
            refine J_goto 61 dX12_march_53 (by decide) ?_
            exact J_lret dX12_march_61 rfl rfl rfl (hq x1 (mrA Cc (vcS (cn s) E) Lf 1) (by subst en em ec erf esg; simp [qMarch, kcz1, eCc, kcz2, eE, kcz3, eLf, kcz4, eWn]) (by rw [hc_x1]))
theorem c_X12_march {G : GT} (o : Nat) (a : Nat → Nat) (s : Nat → Nat → Int32) (hL : LI (cn s)) (v e l w : Int32) : Ct G yX12_march cX12_march 5 (some .long) 0 0 8 [.ref o, .int v, .int e, .int l, .int w] (mW G o a s) (QML G o a (qMarch v e l w (cn s)) (cn s)) := Ct.of rfl (Nat.le_of_ble_eq_true rfl) (j_X12_march o a s hL v e l w (fun x r h1 h2 => ⟨x, by rw [h1], rfl, h2⟩))
set_option maxRecDepth 100000 in
set_option maxHeartbeats 1000000 in
theorem j_X12_hours {G : GT} (o : Nat) (a : Nat → Nat) (s : Nat → Nat → Int32) (hL : LI (cn s)) (e v : Int32) {Q : Option Value → va_W → Prop} (hq : ∀ (x : St) (r : Int32 × St), r = oHours e v (cn s) → cn x = r.2 → Q (some (.int r.1)) (mW G o a x)) : J G "hours" RX12 cX12_hours 5 (some .int) 0 0 8 Q 0 0 0 [(0, .ref o), (1, .int e), (2, .int v)] [] (mW G o a s) := by
  obtain ⟨n, en⟩ : ∃ n, n = nH (cn s) := ⟨_, rfl⟩
  obtain ⟨m, em⟩ : ∃ m, m = nE (cn s) := ⟨_, rfl⟩
  obtain ⟨c, ec⟩ : ∃ c, c = nC (cn s) := ⟨_, rfl⟩
  obtain ⟨rf, erf⟩ : ∃ rf, rf = rfn (cn s) := ⟨_, rfl⟩
  obtain ⟨sg, esg⟩ : ∃ sg, sg = sgn (cn s) := ⟨_, rfl⟩
  have hn8 : n ≤ 8 := by rw [en]; exact nH_le _
  have hm6 : m ≤ 6 := by rw [em]; exact nE_le _
  have hc15 : c ≤ 15 := by rw [ec]; exact nC_le _
  have hrf12 : rf ≤ 12 := by rw [erf]; exact hL.R.2.1
  have hsg8 : sg ≤ 8 := by rw [esg]; exact hL.S.2.1
  refine J_aload_n dX12_hours_0 rfl rfl ?_
  refine J_callV (wr := []) (As := []) (st := []) 0 mv_X12_171 (c_X12_find o a s (tl (cn s) 0) (tl (cn s) 1) (tl (cn s) 2) (hL.T (by decide)).1 (hL.T (by decide)).1 (hL.T (by decide)).1 hL.t0.2 hL.t1.2 hL.t2.2 (rfn (cn s)) hL.R.1 hL.R.2.1) mW_0 rfl rfl rfl (by decide) (Nat.le_of_ble_eq_true rfl) ⟨Nat.le_refl _, Nat.le_refl _⟩ dX12_hours_1 (fun v_ w_ h_ => ?_)
  obtain ⟨x1, rfl, rfl, hx1⟩ := h_
  have hF1 : Fnn (cn s) x1 := fnd_fd hx1
  have hP1 := hF1.1
  have hn : x1 8 0 = nI n := by rw [en]; exact hP1.2.1
  have hm : x1 8 1 = nI m := by rw [em]; exact hP1.2.2.1
  have hc : x1 8 2 = nI c := by rw [ec]; exact hP1.2.2.2.1
  have rwH : Rw 5 n (x1 9) (HbS (cn s)) := by rw [en]; exact hP1.2.2.2.2.1
  have rwE : Rw 3 m (x1 10) (HeS (cn s)) := by rw [em]; exact hP1.2.2.2.2.2.1
  have rwC : Rw 4 c (x1 11) (ClS (cn s)) := by rw [ec]; exact hP1.2.2.2.2.2.2
  have hCl : ∀ k, k < c → x1 11 (4 * k + 3) = -1 ∨ ∃ j, j < 8 ∧ x1 11 (4 * k + 3) = nI j := by rw [ec]; exact hP1.ask
  have hHe : ∀ e, e < m → ¬ x1 10 (3 * e) < nI 0 := by rw [em]; exact hP1.room
  have hrf : x1 12 0 = nI rf := by rw [erf]; exact (congrFun (hP1.c (k := 12) rfl) 0).trans hL.rf.1
  have hsg : x1 21 0 = nI sg := by rw [esg]; exact (congrFun (hP1.c (k := 21) rfl) 0).trans hL.sg.1
  have hSg : ∀ k, k < sg → ∃ t, t < 24 ∧ x1 22 (3 * k) = nI t := by rw [esg, hP1.c (k := 22) rfl]; exact fun k hk => (hL.sg.2.2 k hk).1
  have hc_x1 : cn x1 = (cn s) := hP1.1
  have hao : x1 15 0 = nI 0 := hF1.2.1
  have h17 := hF1.2.2.1
  have h18 := hF1.2.2.2
  show J G "hours" RX12 cX12_hours 5 (some .int) 0 0 8 Q 0 0 4 [(0, .ref o), (1, .int e), (2, .int v)] [] (mW G o a x1)
  refine J_aload_n dX12_hours_4 rfl rfl ?_
  refine J_iload_n dX12_hours_5 rfl rfl ?_
  refine J_cVi (x := yX12_in) [.int e] 0 mv_X12_133 (c_X12_isHeir o a x1 m hm hm6 e) mW_0 rfl rfl (by decide) (Nat.le_of_ble_eq_true rfl) ⟨Nat.le_refl _, Nat.le_refl _⟩ dX12_hours_6 ?_
  refine J_if_eqB 19 dX12_hours_9 (by decide) (fun kcz1 => ?_) (fun kcz1 => ?_)
  · refine J_bipush (v := -2) dX12_hours_19 (by decide) ?_
    exact J_iret dX12_hours_21 rfl rfl rfl (hq x1 ((-2), (cn s)) (by subst en em ec erf esg; simp [oHours, fnd, kcz1, cn_0, cn_1, cn_2, cn_4, cn_5, cn_6, cn_12, cn_13, cn_16, cn_21, cn_22]) (by rw [hc_x1]))
  · obtain ⟨E, hE, rfl⟩ := (rng_iff (by omega)).mp kcz1
    have eE : (nI E).toNatClampNeg = E := nI_clamp (by omega)
    refine J_iload_n dX12_hours_12 rfl rfl ?_
    refine J_cSi [.int v] ms_X12_67 (c_X12_isSheet (mW G o a x1) v) rfl rfl (by decide) (Nat.le_of_ble_eq_true rfl) ⟨Nat.le_refl _, Nat.le_refl _⟩ dX12_hours_13 ?_
    refine J_if_neB 22 dX12_hours_16 (by decide) (fun kcz2 => ?_) (fun kcz2 => ?_)
    · obtain ⟨V, hV, rfl⟩ := (rng_iff (by omega)).mp kcz2
      have eV : (nI V).toNatClampNeg = V := nI_clamp (by omega)
      refine J_aload_n dX12_hours_22 rfl rfl ?_
      refine Mg_0 dX12_hours_23 ?_
      refine J_iload_n dX12_hours_26 rfl rfl ?_
      refine Ml_0 (s := x1) (x1 0) rfl V rfl (by omega) dX12_hours_27 ?_
      refine J_rw (y := s 0 V) (congrFun (hP1.k (k := 0) rfl) V) ?_
      refine J_if_ge 37 dX12_hours_28 (by decide) (fun kcz3 => ?_) (fun kcz3 => ?_)
      · obtain ⟨Z, hZ, eZ⟩ := (hL.H hV).2
        have eZ2 : (s 1 V).toNatClampNeg = Z := by rw [eZ]; exact nI_clamp (by omega)
        refine J_aload_n dX12_hours_37 rfl rfl ?_
        refine Mg_1 dX12_hours_38 ?_
        refine J_iload_n dX12_hours_41 rfl rfl ?_
        refine Ml_1 (s := x1) (x1 1) rfl V rfl (by omega) dX12_hours_42 ?_
        refine J_rw (y := nI Z) ((congrFun (hP1.k (k := 1) rfl) V).trans eZ) ?_
        refine J_bipush (v := nI 24) dX12_hours_43 (by decide) ?_
        refine J_cSi [.int (nI Z), .int (nI 24)] ms_X12_213 (c_X12_lesser (mW G o a x1) Z 24 (by omega) (by omega)) rfl rfl (by decide) (Nat.le_of_ble_eq_true rfl) ⟨Nat.le_refl _, Nat.le_refl _⟩ dX12_hours_45 ?_
        refine J_istore_n [(0, .ref o), (1, .int (nI E)), (2, .int (nI V)), (3, .int (nI (min Z 24)))] dX12_hours_48 rfl (by decide) rfl rfl rfl ?_
        refine J_iconst (v := nI 0) dX12_hours_49 (by decide) ?_
        refine J_istore [(0, .ref o), (1, .int (nI E)), (2, .int (nI V)), (3, .int (nI (min Z 24))), (4, .int (nI 0))] dX12_hours_50 (by decide) rfl rfl rfl ?_
        have L52 : ∀ (f i : Nat), (min Z 24) - i < f → i ≤ (min Z 24) → ∀ (x4 : Int32) (y2 : Nat → Int32), x4 = nI i → y2 = (fb_put (cn s 2) (fun t => cutM (cn s 0 V) (doS (cn s) E t)) (60 * V) i) → J G "hours" RX12 cX12_hours 5 (some .int) 0 0 8 Q 0 0 52 [(0, .ref o), (1, .int (nI E)), (2, .int (nI V)), (3, .int (nI (min Z 24))), (4, .int x4)] [] (mW G o a (su 2 x1 y2)) := by
          intro f
          induction f with
          | zero => intro i h; exact absurd h (Nat.not_lt_zero _)
          | succ f ih52 =>
            intro i hf52 hle52  x4 y2 e4 g2
            subst e4
            subst g2
            refine J_iload dX12_hours_52 rfl ?_
            refine J_iload_n dX12_hours_54 rfl rfl ?_
            refine J_icmp_geN 92 (by omega) (by omega) dX12_hours_55 (by decide) (fun kcz4 => ?_) (fun kcz4 => ?_)
            · obtain rfl : i = min Z 24 := (by omega)
              refine J_iload_n dX12_hours_92 rfl rfl ?_
              exact J_iret dX12_hours_93 rfl rfl rfl (hq (su 2 x1 (fb_put (cn s 2) (fun t => cutM (cn s 0 V) (doS (cn s) E t)) (60 * V) (min Z 24))) (nI (min Z 24), (su 2 (cn s) (fb_put (cn s 2) (fun t => cutM (cn s 0 V) (doS (cn s) E t)) (60 * V) (min Z 24)))) (by subst en em ec erf esg; simp [oHours, fnd, kcz1, eE, kcz2, eV, kcz3, kcz4, eZ2, cn_0, cn_1, cn_2, cn_4, cn_5, cn_6, cn_12, cn_13, cn_16, cn_21, cn_22]) (by rw [cnu_in (k := 2) rfl, hc_x1]))
            · refine J_aload_n dX12_hours_58 rfl rfl ?_
              refine Mg_2 dX12_hours_59 ?_
              refine J_bipush (v := nI 60) dX12_hours_62 (by decide) ?_
              refine J_iload_n dX12_hours_64 rfl rfl ?_
              refine J_imulN dX12_hours_65 ?_
              refine J_iload dX12_hours_66 rfl ?_
              refine J_iaddN dX12_hours_68 ?_
              refine J_aload_n dX12_hours_69 rfl rfl ?_
              refine Mg_0 dX12_hours_70 ?_
              refine J_iload_n dX12_hours_73 rfl rfl ?_
              refine Ml_0 (s := (su 2 x1 (fb_put (cn s 2) (fun t => cutM (cn s 0 V) (doS (cn s) E t)) (60 * V) i))) (x1 0) rfl V rfl (by omega) dX12_hours_74 ?_
              refine J_rw (y := cn s 0 V) (congrFun (hP1.k (k := 0) rfl) V) ?_
              refine J_aload_n dX12_hours_75 rfl rfl ?_
              refine J_iload_n dX12_hours_76 rfl rfl ?_
              refine J_iload dX12_hours_77 rfl ?_
              refine J_cVi (x := yX12_in) [.int (nI E), .int (nI i)] 0 mv_X12_207 (c_X12_doesNow o a (su 2 x1 (fb_put (cn s 2) (fun t => cutM (cn s 0 V) (doS (cn s) E t)) (60 * V) i)) n hn hn8 E i (by omega)) mW_0 rfl rfl (by decide) (Nat.le_of_ble_eq_true rfl) ⟨Nat.le_refl _, Nat.le_refl _⟩ dX12_hours_79 ?_
              refine J_rw (y := doM n (x1 9) (x1 10) (x1 17) E i) rfl ?_
              refine J_rw (y := doS (cn s) E i) (by subst en em ec erf esg; rw [h17, doM_cg rwH rwE _ hE _ (nH_le _)]; rfl) ?_
              refine J_cSi [.int (cn s 0 V), .int (doS (cn s) E i)] ms_X12_81 (c_X12_cut (mW G o a (su 2 x1 (fb_put (cn s 2) (fun t => cutM (cn s 0 V) (doS (cn s) E t)) (60 * V) i))) (cn s 0 V) (doS (cn s) E i)) rfl rfl (by decide) (Nat.le_of_ble_eq_true rfl) ⟨Nat.le_refl _, Nat.le_refl _⟩ dX12_hours_82 ?_
              refine J_rw (y := cutM (cn s 0 V) (doS (cn s) E i)) rfl ?_
              refine Ms_2 (s := (su 2 x1 (fb_put (cn s 2) (fun t => cutM (cn s 0 V) (doS (cn s) E t)) (60 * V) i))) (fb_put (cn s 2) (fun t => cutM (cn s 0 V) (doS (cn s) E t)) (60 * V) i) rfl (60 * V + i) rfl (by omega) dX12_hours_85 ?_
              refine J_ws (ws2 := (mW G o a (su 2 x1 (upd (fb_put (cn s 2) (fun t => cutM (cn s 0 V) (doS (cn s) E t)) (60 * V) i) (60 * V + i) (cutM (cn s 0 V) (doS (cn s) E i)))))) (congrArg (mW G o a) su_tw) ?_
              refine J_iincN [(0, .ref o), (1, .int (nI E)), (2, .int (nI V)), (3, .int (nI (min Z 24))), (4, .int (nI (i + 1)))] dX12_hours_86 rfl (by decide) rfl rfl rfl ?_
              refine J_goto 52 dX12_hours_89 (by decide) ?_
              exact ih52 (i + 1) (by omega) (by omega)  _ _ rfl (fb_put_succ (s 2) (fun t => cutM (s 0 V) (doS (cn s) E t)) _ _)
        exact L52 ((min Z 24) + 1) 0 (by omega) (by omega)  _ _ rfl ((hP1.k (k := 2) rfl).trans (fb_put_0 _ _ _).symm)
      · refine J_aload_n dX12_hours_31 rfl rfl ?_
        refine J_iconst (v := nI 1) dX12_hours_32 (by decide) ?_
        refine J_cVi (x := yX12_in) [.int (nI 1)] 0 mv_X12_73 (c_X12_finds o a x1 1) mW_0 rfl rfl (by decide) (Nat.le_of_ble_eq_true rfl) ⟨Nat.le_refl _, Nat.le_refl _⟩ dX12_hours_33 ?_
        show J G "hours" RX12 cX12_hours 5 (some .int) 0 0 8 Q 0 0 36 [(0, .ref o), (1, .int (nI E)), (2, .int (nI V))] [.int ((-10) - nI 1)] (mW G o a (su 4 x1 (fun _ => nI 1)))
        exact J_iret dX12_hours_36 rfl rfl rfl (hq (su 4 x1 (fun _ => nI 1)) ((-10) - nI 1, (su 4 (cn s) (fun _ => nI 1))) (by subst en em ec erf esg; simp [oHours, fnd, kcz1, eE, kcz2, eV, kcz3, cn_0, cn_1, cn_2, cn_4, cn_5, cn_6, cn_12, cn_13, cn_16, cn_21, cn_22]) (by rw [cnu_in (k := 4) rfl, hc_x1]))
    · refine J_bipush (v := -2) dX12_hours_19 (by decide) ?_
      exact J_iret dX12_hours_21 rfl rfl rfl (hq x1 ((-2), (cn s)) (by subst en em ec erf esg; simp [oHours, fnd, kcz1, eE, kcz2, cn_0, cn_1, cn_2, cn_4, cn_5, cn_6, cn_12, cn_13, cn_16, cn_21, cn_22]) (by rw [hc_x1]))
theorem c_X12_hours {G : GT} (o : Nat) (a : Nat → Nat) (s : Nat → Nat → Int32) (hL : LI (cn s)) (e v : Int32) : Ct G yX12_hours cX12_hours 5 (some .int) 0 0 8 [.ref o, .int e, .int v] (mW G o a s) (QM G o a (oHours e v (cn s))) := Ct.of rfl (Nat.le_of_ble_eq_true rfl) (j_X12_hours o a s hL e v (fun x r h1 h2 => ⟨x, by rw [h1], rfl, by rw [← h1]; exact h2⟩))
set_option maxRecDepth 100000 in
set_option maxHeartbeats 1000000 in
theorem j_X12_fault {G : GT} (o : Nat) (a : Nat → Nat) (s : Nat → Nat → Int32) (hL : LI (cn s)) (v : Int32) {Q : Option Value → va_W → Prop} (hq : ∀ (x : St) (r : Int32 × St), r = (qFault v (cn s), (cn s)) → cn x = r.2 → Q (some (.int r.1)) (mW G o a x)) : J G "fault" RX12 cX12_fault 2 (some .int) 0 0 7 Q 0 0 0 [(0, .ref o), (1, .int v)] [] (mW G o a s) := by
  obtain ⟨l0, el0⟩ : ∃ l, l = tl (cn s) 0 := ⟨_, rfl⟩
  obtain ⟨l1, el1⟩ : ∃ l, l = tl (cn s) 1 := ⟨_, rfl⟩
  obtain ⟨l2, el2⟩ : ∃ l, l = tl (cn s) 2 := ⟨_, rfl⟩
  have h0 : s 6 0 = nI l0 := by rw [el0]; exact (hL.T (by decide)).1
  have h1 : s 6 1 = nI l1 := by rw [el1]; exact (hL.T (by decide)).1
  have h2 : s 6 2 = nI l2 := by rw [el2]; exact (hL.T (by decide)).1
  have hl0 : l0 ≤ 47 := by rw [el0]; exact hL.t0.2
  have hl1 : l1 ≤ 23 := by rw [el1]; exact hL.t1.2
  have hl2 : l2 ≤ 59 := by rw [el2]; exact hL.t2.2
  refine J_iload_n dX12_fault_0 rfl rfl ?_
  refine J_cSi [.int v] ms_X12_86 (c_X12_isText (mW G o a s) v) rfl rfl (by decide) (Nat.le_of_ble_eq_true rfl) ⟨Nat.le_refl _, Nat.le_refl _⟩ dX12_fault_1 ?_
  refine J_if_eqB 15 dX12_fault_4 (by decide) (fun kcz1 => ?_) (fun kcz1 => ?_)
  · refine J_bipush (v := -2) dX12_fault_15 (by decide) ?_
    exact J_iret dX12_fault_17 rfl rfl rfl (hq s ((-2), (cn s)) (by subst el0 el1 el2; simp [qFault, kcz1, cn_0, cn_1, cn_2, cn_4, cn_5, cn_6, cn_12, cn_13, cn_16, cn_21, cn_22]) rfl)
  · obtain ⟨T, hT, rfl⟩ := (rng_iff (by omega)).mp kcz1
    have eT : (nI T).toNatClampNeg = T := nI_clamp (by omega)
    rcases (show T = 0 ∨ T = 1 ∨ T = 2 by omega) with rfl | rfl | rfl
    · refine J_aload_n dX12_fault_7 rfl rfl ?_
      refine J_iload_n dX12_fault_8 rfl rfl ?_
      refine J_callV (wr := []) (As := [.int (nI 0)]) (st := []) 0 mv_X12_118 (c_X12_text0 o a s l0 h0 hl0) mW_0 rfl rfl rfl (by decide) (Nat.le_of_ble_eq_true rfl) ⟨Nat.le_refl _, Nat.le_refl _⟩ dX12_fault_9 (fun v_ w_ h_ => ?_)
      obtain ⟨z9_0, y9_0, rfl, rfl, hy9_0⟩ := h_
      show J G "fault" RX12 cX12_fault 2 (some .int) 0 0 7 Q 0 0 12 [(0, .ref o), (1, .int (nI 0))] [.int ((rdT (s 5) 0 l0).2)] (mW G o a (su 9 (su 8 (su 7 s (fun _ => z9_0)) (upd (s 8) 0 (nI (rdT (s 5) 0 l0).1))) y9_0))
      refine J_goto 17 dX12_fault_12 (by decide) ?_
      exact J_iret dX12_fault_17 rfl rfl rfl (hq (su 9 (su 8 (su 7 s (fun _ => z9_0)) (upd (s 8) 0 (nI (rdT (s 5) 0 l0).1))) y9_0) ((rdT (s 5) 0 l0).2, (cn s)) (by subst el0 el1 el2; simp [qFault, kcz1, eT, cn_0, cn_1, cn_2, cn_4, cn_5, cn_6, cn_12, cn_13, cn_16, cn_21, cn_22]) (by rw [cnu_out (k := 9) rfl, cnu_out (k := 8) rfl, cnu_out (k := 7) rfl]))
    · refine J_aload_n dX12_fault_7 rfl rfl ?_
      refine J_iload_n dX12_fault_8 rfl rfl ?_
      refine J_callV (wr := []) (As := [.int (nI 1)]) (st := []) 0 mv_X12_118 (c_X12_text1 o a s l1 h1 hl1) mW_0 rfl rfl rfl (by decide) (Nat.le_of_ble_eq_true rfl) ⟨Nat.le_refl _, Nat.le_refl _⟩ dX12_fault_9 (fun v_ w_ h_ => ?_)
      obtain ⟨z9_1, y9_1, rfl, rfl, hy9_1⟩ := h_
      show J G "fault" RX12 cX12_fault 2 (some .int) 0 0 7 Q 0 0 12 [(0, .ref o), (1, .int (nI 1))] [.int ((rdT (s 5) 1 l1).2)] (mW G o a (su 10 (su 8 (su 7 s (fun _ => z9_1)) (upd (s 8) 1 (nI (rdT (s 5) 1 l1).1))) y9_1))
      refine J_goto 17 dX12_fault_12 (by decide) ?_
      exact J_iret dX12_fault_17 rfl rfl rfl (hq (su 10 (su 8 (su 7 s (fun _ => z9_1)) (upd (s 8) 1 (nI (rdT (s 5) 1 l1).1))) y9_1) ((rdT (s 5) 1 l1).2, (cn s)) (by subst el0 el1 el2; simp [qFault, kcz1, eT, cn_0, cn_1, cn_2, cn_4, cn_5, cn_6, cn_12, cn_13, cn_16, cn_21, cn_22]) (by rw [cnu_out (k := 10) rfl, cnu_out (k := 8) rfl, cnu_out (k := 7) rfl]))
    · refine J_aload_n dX12_fault_7 rfl rfl ?_
      refine J_iload_n dX12_fault_8 rfl rfl ?_
      refine J_callV (wr := []) (As := [.int (nI 2)]) (st := []) 0 mv_X12_118 (c_X12_text2 o a s l2 h2 hl2) mW_0 rfl rfl rfl (by decide) (Nat.le_of_ble_eq_true rfl) ⟨Nat.le_refl _, Nat.le_refl _⟩ dX12_fault_9 (fun v_ w_ h_ => ?_)
      obtain ⟨z9_2, y9_2, rfl, rfl, hy9_2⟩ := h_
      show J G "fault" RX12 cX12_fault 2 (some .int) 0 0 7 Q 0 0 12 [(0, .ref o), (1, .int (nI 2))] [.int ((rdT (s 5) 2 l2).2)] (mW G o a (su 11 (su 8 (su 7 s (fun _ => z9_2)) (upd (s 8) 2 (nI (rdT (s 5) 2 l2).1))) y9_2))
      refine J_goto 17 dX12_fault_12 (by decide) ?_
      exact J_iret dX12_fault_17 rfl rfl rfl (hq (su 11 (su 8 (su 7 s (fun _ => z9_2)) (upd (s 8) 2 (nI (rdT (s 5) 2 l2).1))) y9_2) ((rdT (s 5) 2 l2).2, (cn s)) (by subst el0 el1 el2; simp [qFault, kcz1, eT, cn_0, cn_1, cn_2, cn_4, cn_5, cn_6, cn_12, cn_13, cn_16, cn_21, cn_22]) (by rw [cnu_out (k := 11) rfl, cnu_out (k := 8) rfl, cnu_out (k := 7) rfl]))
theorem c_X12_fault {G : GT} (o : Nat) (a : Nat → Nat) (s : Nat → Nat → Int32) (hL : LI (cn s)) (v : Int32) : Ct G yX12_fault cX12_fault 2 (some .int) 0 0 7 [.ref o, .int v] (mW G o a s) (QM G o a ((qFault v (cn s), (cn s)))) := Ct.of rfl (Nat.le_of_ble_eq_true rfl) (j_X12_fault o a s hL v (fun x r h1 h2 => ⟨x, by rw [h1], rfl, by rw [← h1]; exact h2⟩))
