theorem prF_inv (V : Nat → Int32) (a b : Nat) : ∀ k, ((prF V a b k).1 = -1 ∧ (prF V a b k).2 = -1) ∨ ∃ d, d < k ∧ (prF V a b k).1 = nI d ∧ (prF V a b k).2 = valM V a d + valM V b (127 - d)
  | 0 => Or.inl ⟨rfl, rfl⟩
  | k + 1 => by
    rw [prF]
    split
    · exact Or.inr ⟨k, by omega, rfl, rfl⟩
    · rcases prF_inv V a b k with h | ⟨d, hd, h⟩
      · exact Or.inl h
      · exact Or.inr ⟨d, by omega, h⟩
theorem prF_no {V : Nat → Int32} {a b : Nat} (h : (prF V a b 128).1 = -1) : (prF V a b 128).2 = -1 := by
  rcases prF_inv V a b 128 with e | ⟨d, hd, e, -⟩
  · exact e.2
  · rw [e] at h; exact absurd h (fun q => m1_ne (by omega) q.symm)
theorem ci_refuse {σ s : St} (h : CI σ s) (hL : LI σ) {a b : Int32} (hn : ¬ rfn σ = 12) : CI (su 13 (su 12 σ (fun _ => nI (rfn σ + 1))) (upd (upd (σ 13) (2 * rfn σ) a) (2 * rfn σ + 1) b)) (su 60 (su 38 (su 37 s (upd (s 37) (rfn σ) a)) (upd (s 38) (rfn σ) b)) (fun _ => nI (rfn σ + 1))) := by
  have h8 := hL.rf.2.1
  refine ⟨h.1, h.2.1, h.2.2.1, ?_, h.2.2.2.2⟩
  have e : rfn (su 13 (su 12 σ (fun _ => nI (rfn σ + 1))) (upd (upd (σ 13) (2 * rfn σ) a) (2 * rfn σ + 1) b)) = rfn σ + 1 := nI_clamp (by omega)
  refine ⟨by rw [e]; rfl, fun k hk => ?_⟩
  rw [e] at hk
  show upd (s 37) (rfn σ) a k = upd (upd (σ 13) (2 * rfn σ) a) (2 * rfn σ + 1) b (2 * k) ∧ upd (s 38) (rfn σ) b k = upd (upd (σ 13) (2 * rfn σ) a) (2 * rfn σ + 1) b (2 * k + 1)
  by_cases hkr : k = rfn σ
  · rw [hkr]
    exact ⟨by rw [pk_us, up_ne (by omega), pk_us], by rw [pk_us, pk_us]⟩
  · rw [up_ne hkr, up_ne hkr, up_ne (by omega), up_ne (by omega), up_ne (by omega), up_ne (by omega)]
    exact h.2.2.2.1.2 k (by omega)
theorem ci_back {σ s : St} (h : CI σ s) (hL : LI σ) : CI (su 12 σ (fun _ => nI (rfn σ - 1))) (su 60 s (fun _ => nI (rfn σ - 1))) := by
  have h8 := hL.rf.2.1
  refine ⟨h.1, h.2.1, h.2.2.1, ?_, h.2.2.2.2⟩
  have e : rfn (su 12 σ (fun _ => nI (rfn σ - 1))) = rfn σ - 1 := nI_clamp (by omega)
  refine ⟨by rw [e]; rfl, fun k hk => ?_⟩
  rw [e] at hk
  exact h.2.2.2.1.2 k (by omega)
theorem ci_value {σ s : St} (h : CI σ s) {e d : Nat} {v : Int32} (hd : 7 * e + d < 42) : CI (su 16 σ (upd (σ 16) (7 * e + d) v)) (su 41 s (upd (s 41) (e * 7 + d) v)) := by
  refine ⟨h.1, h.2.1, h.2.2.1, h.2.2.2.1, fun j hj => ?_, h.2.2.2.2.2⟩
  show upd (s 41) (e * 7 + d) v j = upd (σ 16) (7 * e + d) v j
  rw [Nat.mul_comm e 7]
  by_cases hx : j = 7 * e + d
  · rw [hx, pk_us, pk_us]
  · rw [up_ne hx, up_ne hx]; exact h.hV j hj
theorem ci_seen {σ s : St} (h : CI σ s) (hL : LI σ) {a b c : Int32} (hn : ¬ sgn σ = 8) : CI (su 22 (su 21 σ (fun _ => nI (sgn σ + 1))) (upd (upd (upd (σ 22) (3 * sgn σ) a) (3 * sgn σ + 1) b) (3 * sgn σ + 2) c)) (su 62 (su 44 (su 43 (su 42 s (upd (s 42) (sgn σ) a)) (upd (s 43) (sgn σ) b)) (upd (s 44) (sgn σ) c)) (fun _ => nI (sgn σ + 1))) :=
  ⟨h.1, h.2.1, h.2.2.1, h.2.2.2.1, h.2.2.2.2.1, sgo_add h.2.2.2.2.2.1 hL hn, h.2.2.2.2.2.2⟩
theorem ci_forget {σ s : St} (h : CI σ s) : CI (su 21 σ (fun _ => nI 0)) (su 62 s (fun _ => nI 0)) :=
  ⟨h.1, h.2.1, h.2.2.1, h.2.2.2.1, h.2.2.2.2.1, ⟨rfl, fun k hk => absurd hk (Nat.not_lt_zero _)⟩, h.2.2.2.2.2.2⟩

set_option maxRecDepth 100000 in
set_option maxHeartbeats 1000000 in
theorem j_X11_habit {G : GT} (r : Nat → Nat) (s : St) (l : Nat → Int64) (σ : St) (hL : LI σ) (hC : CI σ s) (h w : Int32) {Q : Option Value → va_W → Prop} (hq : ∀ (x : St) (lx : Nat → Int64) (a : Int32 × St), a = (qHabit h w σ, σ) → CI a.2 x → Q (some (.int a.1)) (cW G r x lx)) : J G "habit" RX11 cX11_habit 4 (some .int) 0 0 2 Q 0 0 0 [(0, .ref (r 0)), (1, .int h), (2, .int w)] [] (cW G r s l) := by
  obtain ⟨n, en⟩ : ∃ z, z = nH σ := ⟨_, rfl⟩
  obtain ⟨m, em⟩ : ∃ z, z = nE σ := ⟨_, rfl⟩
  obtain ⟨c, ec⟩ : ∃ z, z = nC σ := ⟨_, rfl⟩
  obtain ⟨rf, erf⟩ : ∃ z, z = rfn σ := ⟨_, rfl⟩
  obtain ⟨sg, esg⟩ : ∃ z, z = sgn σ := ⟨_, rfl⟩
  obtain ⟨Hb, eHb⟩ : ∃ z, z = HbS σ := ⟨_, rfl⟩
  obtain ⟨hb, ehb⟩ : ∃ z, z = hbS σ := ⟨_, rfl⟩
  obtain ⟨He, eHe⟩ : ∃ z, z = HeS σ := ⟨_, rfl⟩
  obtain ⟨aw, eaw⟩ : ∃ z, z = awS σ := ⟨_, rfl⟩
  obtain ⟨Cl, eCl⟩ : ∃ z, z = ClS σ := ⟨_, rfl⟩
  obtain ⟨Rf, eRf⟩ : ∃ z, z = σ 13 := ⟨_, rfl⟩
  obtain ⟨Sg, eSg⟩ : ∃ z, z = σ 22 := ⟨_, rfl⟩
  obtain ⟨Vv, eVv⟩ : ∃ z, z = σ 16 := ⟨_, rfl⟩
  have hn8 : n ≤ 8 := by rw [en]; exact nH_le _
  have hm6 : m ≤ 6 := by rw [em]; exact nE_le _
  have hc15 : c ≤ 15 := by rw [ec]; exact nC_le _
  have hrf12 : rf ≤ 12 := by rw [erf]; exact hL.rf.2.1
  have hsg8 : sg ≤ 8 := by rw [esg]; exact hL.sg.2.1
  have hk : HbOk n Hb hb := by rw [en, eHb, ehb]; exact hbOk σ
  have ha : AwOk m He aw := by rw [em, eHe, eaw]; exact awOk σ
  have hn : s 52 0 = nI n := by rw [en]; exact hC.n
  have hm : s 55 0 = nI m := by rw [em]; exact hC.m
  have hc : s 58 0 = nI c := by rw [ec]; exact hC.c
  have hrf : s 60 0 = nI rf := by rw [erf]; exact hC.rf
  have hsg : s 62 0 = nI sg := by rw [esg]; exact hC.sg
  have hR : CHr n Hb hb s := by rw [en, eHb, ehb]; exact hC.hR
  have hE : CEr m He aw s := by rw [em, eHe, eaw]; exact hC.hE
  have hCl : CCr c Cl s := by rw [ec, eCl]; exact hC.hCl
  have hRf : CRr rf Rf s := by rw [erf, eRf]; exact hC.hRf hL
  have hSg : CSr sg Sg s := by rw [esg, eSg]; exact hC.hSg hL
  have hV : ∀ j, j < 42 → s 41 j = Vv j := by rw [eVv]; exact hC.hV
  refine J_aload_n dX11_habit_0 rfl rfl ?_
  refine Cg_0_0 fr_X11_10_10 dX11_habit_1 ?_
  refine Cg_1_0 fr_X11_76_1 dX11_habit_4 ?_
  refine Cg_2_0 fr_X11_80_4 dX11_habit_7 ?_
  refine J_astore_n [(0, .ref (r 0)), (1, .int h), (2, .int w), (3, .ref (r 3))] dX11_habit_10 rfl (by decide) rfl rfl rfl ?_
  refine J_aload_n dX11_habit_11 rfl rfl ?_
  refine J_iload_n dX11_habit_12 rfl rfl ?_
  refine J_cUi [.int h] 3 mu_X11_86_2 (c_X5_hasRow0 r s l n hn h) cW_3 rfl rfl (by decide) (Nat.le_of_ble_eq_true rfl) ⟨Nat.le_refl _, Nat.le_refl _⟩ dX11_habit_13 ?_
  refine J_if_eqB 28 dX11_habit_16 (by decide) (fun kcz1 => ?_) (fun kcz1 => ?_)
  · refine J_bipush (v := -2) dX11_habit_28 (by decide) ?_
    exact J_iret dX11_habit_30 rfl rfl rfl (hq s l ((-2), σ) (by subst en em ec erf esg eHb ehb eHe eaw eCl eRf eSg eVv; simp [qHabit, kcz1]) (show CI σ s from hC))
  · obtain ⟨H, hH, rfl⟩ := (rng_iff (by omega)).mp kcz1
    have eH : (nI H).toNatClampNeg = H := nI_clamp (by omega)
    refine J_iload_n dX11_habit_19 rfl rfl ?_
    refine J_bipush (v := nI 8) dX11_habit_20 (by decide) ?_
    refine J_cSi [.int (nI H), .int (nI 8)] ms_X11_48 (c_X11_isBelowN (cW G r s l) (nI H) 8) rfl rfl (by decide) (Nat.le_of_ble_eq_true rfl) ⟨Nat.le_refl _, Nat.le_refl _⟩ dX11_habit_22 ?_
    refine J_if_neB 31 dX11_habit_25 (by decide) (fun _ => ?_) (fun c => absurd c (by rw [(show rng (nI H) 8 = true from rng_of (by omega) (by decide))]; decide))
    refine J_iload_n dX11_habit_31 rfl rfl ?_
    rcases sw_cases w 5 (by decide) with kcz2 | ⟨kjz3, hkjz3, rfl⟩
    · refine J_tblOut 103 dX11_habit_32 (by simpa using kcz2) (by decide) ?_
      refine J_bipush (v := -2) dX11_habit_103 (by decide) ?_
      exact J_iret dX11_habit_105 rfl rfl rfl (hq s l ((-2), σ) (by subst en em ec erf esg eHb ehb eHe eaw eCl eRf eSg eVv; simp [qHabit, sw_no (n := 5) (by decide) kcz2, kcz1, eH]) (show CI σ s from hC))
    · rcases (show kjz3 = 0 ∨ kjz3 = 1 ∨ kjz3 = 2 ∨ kjz3 = 3 ∨ kjz3 = 4 by omega) with rfl | rfl | rfl | rfl | rfl
      · refine J_tblIn (off := 36) 68 dX11_habit_32 (by decide) (by decide) (by decide) (by decide) ?_
        refine J_aload_n dX11_habit_68 rfl rfl ?_
        refine Cg_3_6 fr_X11_91_2 dX11_habit_69 ?_
        refine J_iload_n dX11_habit_72 rfl rfl ?_
        refine Cl_21 (s := s) (s 21) rfl H rfl (by omega) dX11_habit_73 ?_
        exact J_iret dX11_habit_74 rfl rfl rfl (hq s l (s 21 H, σ) (by subst en em ec erf esg eHb ehb eHe eaw eCl eRf eSg eVv; simp [qHabit, rng_of (show 0 < 5 by decide) (by decide), nI_clamp (show 0 < 2 ^ 31 by decide), show s 21 H = HbS σ (5 * H + 0) from (hC.1.2.2.2.2 H hH).1.trans (HbS_at σ H (k := 0) (by decide)).symm, kcz1, eH]) (show CI σ s from hC))
      · refine J_tblIn (off := 43) 75 dX11_habit_32 (by decide) (by decide) (by decide) (by decide) ?_
        refine J_aload_n dX11_habit_75 rfl rfl ?_
        refine Cg_3_7 fr_X11_95_2 dX11_habit_76 ?_
        refine J_iload_n dX11_habit_79 rfl rfl ?_
        refine Cl_22 (s := s) (s 22) rfl H rfl (by omega) dX11_habit_80 ?_
        exact J_iret dX11_habit_81 rfl rfl rfl (hq s l (s 22 H, σ) (by subst en em ec erf esg eHb ehb eHe eaw eCl eRf eSg eVv; simp [qHabit, rng_of (show 1 < 5 by decide) (by decide), nI_clamp (show 1 < 2 ^ 31 by decide), show s 22 H = HbS σ (5 * H + 1) from (hC.1.2.2.2.2 H hH).2.1.trans (HbS_at σ H (k := 1) (by decide)).symm, kcz1, eH]) (show CI σ s from hC))
      · refine J_tblIn (off := 50) 82 dX11_habit_32 (by decide) (by decide) (by decide) (by decide) ?_
        refine J_aload_n dX11_habit_82 rfl rfl ?_
        refine Cg_3_8 fr_X11_98_2 dX11_habit_83 ?_
        refine J_iload_n dX11_habit_86 rfl rfl ?_
        refine Cl_23 (s := s) (s 23) rfl H rfl (by omega) dX11_habit_87 ?_
        exact J_iret dX11_habit_88 rfl rfl rfl (hq s l (s 23 H, σ) (by subst en em ec erf esg eHb ehb eHe eaw eCl eRf eSg eVv; simp [qHabit, rng_of (show 2 < 5 by decide) (by decide), nI_clamp (show 2 < 2 ^ 31 by decide), show s 23 H = HbS σ (5 * H + 2) from (hC.1.2.2.2.2 H hH).2.2.1.trans (HbS_at σ H (k := 2) (by decide)).symm, kcz1, eH]) (show CI σ s from hC))
      · refine J_tblIn (off := 57) 89 dX11_habit_32 (by decide) (by decide) (by decide) (by decide) ?_
        refine J_aload_n dX11_habit_89 rfl rfl ?_
        refine Cg_3_9 fr_X11_101_2 dX11_habit_90 ?_
        refine J_iload_n dX11_habit_93 rfl rfl ?_
        refine Cl_24 (s := s) (s 24) rfl H rfl (by omega) dX11_habit_94 ?_
        exact J_iret dX11_habit_95 rfl rfl rfl (hq s l (s 24 H, σ) (by subst en em ec erf esg eHb ehb eHe eaw eCl eRf eSg eVv; simp [qHabit, rng_of (show 3 < 5 by decide) (by decide), nI_clamp (show 3 < 2 ^ 31 by decide), show s 24 H = HbS σ (5 * H + 3) from (hC.1.2.2.2.2 H hH).2.2.2.1.trans (HbS_at σ H (k := 3) (by decide)).symm, kcz1, eH]) (show CI σ s from hC))
      · refine J_tblIn (off := 64) 96 dX11_habit_32 (by decide) (by decide) (by decide) (by decide) ?_
        refine J_aload_n dX11_habit_96 rfl rfl ?_
        refine Cg_3_10 fr_X11_104_2 dX11_habit_97 ?_
        refine J_iload_n dX11_habit_100 rfl rfl ?_
        refine Cl_25 (s := s) (s 25) rfl H rfl (by omega) dX11_habit_101 ?_
        exact J_iret dX11_habit_102 rfl rfl rfl (hq s l (s 25 H, σ) (by subst en em ec erf esg eHb ehb eHe eaw eCl eRf eSg eVv; simp [qHabit, rng_of (show 4 < 5 by decide) (by decide), nI_clamp (show 4 < 2 ^ 31 by decide), show s 25 H = HbS σ (5 * H + 4) from (hC.1.2.2.2.2 H hH).2.2.2.2.1.trans (HbS_at σ H (k := 4) (by decide)).symm, kcz1, eH]) (show CI σ s from hC))
theorem c_X11_habit {G : GT} (r : Nat → Nat) (s : St) (l : Nat → Int64) (σ : St) (hL : LI σ) (hC : CI σ s) (h w : Int32) : Ct G yX11_habit cX11_habit 4 (some .int) 0 0 2 [.ref (r 0), .int h, .int w] (cW G r s l) (QC G r ((qHabit h w σ, σ))) := Ct.of rfl (Nat.le_of_ble_eq_true rfl) (j_X11_habit r s l σ hL hC h w (fun x lx a h1 h2 => ⟨x, lx, by rw [h1], rfl, by rw [← h1]; exact h2⟩))
set_option maxRecDepth 100000 in
set_option maxHeartbeats 1000000 in
theorem j_X11_heir {G : GT} (r : Nat → Nat) (s : St) (l : Nat → Int64) (σ : St) (hL : LI σ) (hC : CI σ s) (h w : Int32) {Q : Option Value → va_W → Prop} (hq : ∀ (x : St) (lx : Nat → Int64) (a : Int32 × St), a = (qHeir h w σ, σ) → CI a.2 x → Q (some (.int a.1)) (cW G r x lx)) : J G "heir" RX11 cX11_heir 4 (some .int) 0 0 2 Q 0 0 0 [(0, .ref (r 0)), (1, .int h), (2, .int w)] [] (cW G r s l) := by
  obtain ⟨n, en⟩ : ∃ z, z = nH σ := ⟨_, rfl⟩
  obtain ⟨m, em⟩ : ∃ z, z = nE σ := ⟨_, rfl⟩
  obtain ⟨c, ec⟩ : ∃ z, z = nC σ := ⟨_, rfl⟩
  obtain ⟨rf, erf⟩ : ∃ z, z = rfn σ := ⟨_, rfl⟩
  obtain ⟨sg, esg⟩ : ∃ z, z = sgn σ := ⟨_, rfl⟩
  obtain ⟨Hb, eHb⟩ : ∃ z, z = HbS σ := ⟨_, rfl⟩
  obtain ⟨hb, ehb⟩ : ∃ z, z = hbS σ := ⟨_, rfl⟩
  obtain ⟨He, eHe⟩ : ∃ z, z = HeS σ := ⟨_, rfl⟩
  obtain ⟨aw, eaw⟩ : ∃ z, z = awS σ := ⟨_, rfl⟩
  obtain ⟨Cl, eCl⟩ : ∃ z, z = ClS σ := ⟨_, rfl⟩
  obtain ⟨Rf, eRf⟩ : ∃ z, z = σ 13 := ⟨_, rfl⟩
  obtain ⟨Sg, eSg⟩ : ∃ z, z = σ 22 := ⟨_, rfl⟩
  obtain ⟨Vv, eVv⟩ : ∃ z, z = σ 16 := ⟨_, rfl⟩
  have hn8 : n ≤ 8 := by rw [en]; exact nH_le _
  have hm6 : m ≤ 6 := by rw [em]; exact nE_le _
  have hc15 : c ≤ 15 := by rw [ec]; exact nC_le _
  have hrf12 : rf ≤ 12 := by rw [erf]; exact hL.rf.2.1
  have hsg8 : sg ≤ 8 := by rw [esg]; exact hL.sg.2.1
  have hk : HbOk n Hb hb := by rw [en, eHb, ehb]; exact hbOk σ
  have ha : AwOk m He aw := by rw [em, eHe, eaw]; exact awOk σ
  have hn : s 52 0 = nI n := by rw [en]; exact hC.n
  have hm : s 55 0 = nI m := by rw [em]; exact hC.m
  have hc : s 58 0 = nI c := by rw [ec]; exact hC.c
  have hrf : s 60 0 = nI rf := by rw [erf]; exact hC.rf
  have hsg : s 62 0 = nI sg := by rw [esg]; exact hC.sg
  have hR : CHr n Hb hb s := by rw [en, eHb, ehb]; exact hC.hR
  have hE : CEr m He aw s := by rw [em, eHe, eaw]; exact hC.hE
  have hCl : CCr c Cl s := by rw [ec, eCl]; exact hC.hCl
  have hRf : CRr rf Rf s := by rw [erf, eRf]; exact hC.hRf hL
  have hSg : CSr sg Sg s := by rw [esg, eSg]; exact hC.hSg hL
  have hV : ∀ j, j < 42 → s 41 j = Vv j := by rw [eVv]; exact hC.hV
  refine J_aload_n dX11_heir_0 rfl rfl ?_
  refine Cg_0_0 fr_X11_10_10 dX11_heir_1 ?_
  refine Cg_1_0 fr_X11_76_1 dX11_heir_4 ?_
  refine Cg_2_1 fr_X11_107_4 dX11_heir_7 ?_
  refine J_astore_n [(0, .ref (r 0)), (1, .int h), (2, .int w), (3, .ref (r 4))] dX11_heir_10 rfl (by decide) rfl rfl rfl ?_
  refine J_aload_n dX11_heir_11 rfl rfl ?_
  refine J_iload_n dX11_heir_12 rfl rfl ?_
  refine J_cUi [.int h] 4 mu_X11_111_3 (c_X5_hasRow1 r s l m hm h) cW_4 rfl rfl (by decide) (Nat.le_of_ble_eq_true rfl) ⟨Nat.le_refl _, Nat.le_refl _⟩ dX11_heir_13 ?_
  refine J_if_eqB 28 dX11_heir_16 (by decide) (fun kcz1 => ?_) (fun kcz1 => ?_)
  · refine J_bipush (v := -2) dX11_heir_28 (by decide) ?_
    exact J_iret dX11_heir_30 rfl rfl rfl (hq s l ((-2), σ) (by subst en em ec erf esg eHb ehb eHe eaw eCl eRf eSg eVv; simp [qHeir, kcz1]) (show CI σ s from hC))
  · obtain ⟨H, hH, rfl⟩ := (rng_iff (by omega)).mp kcz1
    have eH : (nI H).toNatClampNeg = H := nI_clamp (by omega)
    refine J_iload_n dX11_heir_19 rfl rfl ?_
    refine J_bipush (v := nI 6) dX11_heir_20 (by decide) ?_
    refine J_cSi [.int (nI H), .int (nI 6)] ms_X11_48 (c_X11_isBelowN (cW G r s l) (nI H) 6) rfl rfl (by decide) (Nat.le_of_ble_eq_true rfl) ⟨Nat.le_refl _, Nat.le_refl _⟩ dX11_heir_22 ?_
    refine J_if_neB 31 dX11_heir_25 (by decide) (fun _ => ?_) (fun c => absurd c (by rw [(show rng (nI H) 6 = true from rng_of (by omega) (by decide))]; decide))
    refine J_iload_n dX11_heir_31 rfl rfl ?_
    rcases sw_cases w 3 (by decide) with kcz2 | ⟨kjz3, hkjz3, rfl⟩
    · refine J_tblOut 81 dX11_heir_32 (by simpa using kcz2) (by decide) ?_
      refine J_bipush (v := -2) dX11_heir_81 (by decide) ?_
      exact J_iret dX11_heir_83 rfl rfl rfl (hq s l ((-2), σ) (by subst en em ec erf esg eHb ehb eHe eaw eCl eRf eSg eVv; simp [qHeir, sw_no (n := 3) (by decide) kcz2, kcz1, eH]) (show CI σ s from hC))
    · rcases (show kjz3 = 0 ∨ kjz3 = 1 ∨ kjz3 = 2 by omega) with rfl | rfl | rfl
      · refine J_tblIn (off := 28) 60 dX11_heir_32 (by decide) (by decide) (by decide) (by decide) ?_
        refine J_aload_n dX11_heir_60 rfl rfl ?_
        refine Cg_4_6 fr_X11_114_3 dX11_heir_61 ?_
        refine J_iload_n dX11_heir_64 rfl rfl ?_
        refine Cl_28 (s := s) (s 28) rfl H rfl (by omega) dX11_heir_65 ?_
        exact J_iret dX11_heir_66 rfl rfl rfl (hq s l (s 28 H, σ) (by subst en em ec erf esg eHb ehb eHe eaw eCl eRf eSg eVv; simp [qHeir, rng_of (show 0 < 3 by decide) (by decide), nI_clamp (show 0 < 2 ^ 31 by decide), show s 28 H = HeS σ (3 * H + 0) from (hC.2.1.2.2.2.2 H hH).1.trans (HeS_at σ H (k := 0) (by decide)).symm, kcz1, eH]) (show CI σ s from hC))
      · refine J_tblIn (off := 35) 67 dX11_heir_32 (by decide) (by decide) (by decide) (by decide) ?_
        refine J_aload_n dX11_heir_67 rfl rfl ?_
        refine Cg_4_7 fr_X11_117_3 dX11_heir_68 ?_
        refine J_iload_n dX11_heir_71 rfl rfl ?_
        refine Cl_29 (s := s) (s 29) rfl H rfl (by omega) dX11_heir_72 ?_
        exact J_iret dX11_heir_73 rfl rfl rfl (hq s l (s 29 H, σ) (by subst en em ec erf esg eHb ehb eHe eaw eCl eRf eSg eVv; simp [qHeir, rng_of (show 1 < 3 by decide) (by decide), nI_clamp (show 1 < 2 ^ 31 by decide), show s 29 H = HeS σ (3 * H + 1) from (hC.2.1.2.2.2.2 H hH).2.1.trans (HeS_at σ H (k := 1) (by decide)).symm, kcz1, eH]) (show CI σ s from hC))
      · refine J_tblIn (off := 42) 74 dX11_heir_32 (by decide) (by decide) (by decide) (by decide) ?_
        refine J_aload_n dX11_heir_74 rfl rfl ?_
        refine Cg_4_8 fr_X11_120_3 dX11_heir_75 ?_
        refine J_iload_n dX11_heir_78 rfl rfl ?_
        refine Cl_30 (s := s) (s 30) rfl H rfl (by omega) dX11_heir_79 ?_
        exact J_iret dX11_heir_80 rfl rfl rfl (hq s l (s 30 H, σ) (by subst en em ec erf esg eHb ehb eHe eaw eCl eRf eSg eVv; simp [qHeir, rng_of (show 2 < 3 by decide) (by decide), nI_clamp (show 2 < 2 ^ 31 by decide), show s 30 H = HeS σ (3 * H + 2) from (hC.2.1.2.2.2.2 H hH).2.2.1.trans (HeS_at σ H (k := 2) (by decide)).symm, kcz1, eH]) (show CI σ s from hC))
theorem c_X11_heir {G : GT} (r : Nat → Nat) (s : St) (l : Nat → Int64) (σ : St) (hL : LI σ) (hC : CI σ s) (h w : Int32) : Ct G yX11_heir cX11_heir 4 (some .int) 0 0 2 [.ref (r 0), .int h, .int w] (cW G r s l) (QC G r ((qHeir h w σ, σ))) := Ct.of rfl (Nat.le_of_ble_eq_true rfl) (j_X11_heir r s l σ hL hC h w (fun x lx a h1 h2 => ⟨x, lx, by rw [h1], rfl, by rw [← h1]; exact h2⟩))
set_option maxRecDepth 100000 in
set_option maxHeartbeats 1000000 in
theorem j_X11_clause {G : GT} (r : Nat → Nat) (s : St) (l : Nat → Int64) (σ : St) (hL : LI σ) (hC : CI σ s) (h w : Int32) {Q : Option Value → va_W → Prop} (hq : ∀ (x : St) (lx : Nat → Int64) (a : Int32 × St), a = (qClause h w σ, σ) → CI a.2 x → Q (some (.int a.1)) (cW G r x lx)) : J G "clause" RX11 cX11_clause 4 (some .int) 0 0 2 Q 0 0 0 [(0, .ref (r 0)), (1, .int h), (2, .int w)] [] (cW G r s l) := by
  obtain ⟨n, en⟩ : ∃ z, z = nH σ := ⟨_, rfl⟩
  obtain ⟨m, em⟩ : ∃ z, z = nE σ := ⟨_, rfl⟩
  obtain ⟨c, ec⟩ : ∃ z, z = nC σ := ⟨_, rfl⟩
  obtain ⟨rf, erf⟩ : ∃ z, z = rfn σ := ⟨_, rfl⟩
  obtain ⟨sg, esg⟩ : ∃ z, z = sgn σ := ⟨_, rfl⟩
  obtain ⟨Hb, eHb⟩ : ∃ z, z = HbS σ := ⟨_, rfl⟩
  obtain ⟨hb, ehb⟩ : ∃ z, z = hbS σ := ⟨_, rfl⟩
  obtain ⟨He, eHe⟩ : ∃ z, z = HeS σ := ⟨_, rfl⟩
  obtain ⟨aw, eaw⟩ : ∃ z, z = awS σ := ⟨_, rfl⟩
  obtain ⟨Cl, eCl⟩ : ∃ z, z = ClS σ := ⟨_, rfl⟩
  obtain ⟨Rf, eRf⟩ : ∃ z, z = σ 13 := ⟨_, rfl⟩
  obtain ⟨Sg, eSg⟩ : ∃ z, z = σ 22 := ⟨_, rfl⟩
  obtain ⟨Vv, eVv⟩ : ∃ z, z = σ 16 := ⟨_, rfl⟩
  have hn8 : n ≤ 8 := by rw [en]; exact nH_le _
  have hm6 : m ≤ 6 := by rw [em]; exact nE_le _
  have hc15 : c ≤ 15 := by rw [ec]; exact nC_le _
  have hrf12 : rf ≤ 12 := by rw [erf]; exact hL.rf.2.1
  have hsg8 : sg ≤ 8 := by rw [esg]; exact hL.sg.2.1
  have hk : HbOk n Hb hb := by rw [en, eHb, ehb]; exact hbOk σ
  have ha : AwOk m He aw := by rw [em, eHe, eaw]; exact awOk σ
  have hn : s 52 0 = nI n := by rw [en]; exact hC.n
  have hm : s 55 0 = nI m := by rw [em]; exact hC.m
  have hc : s 58 0 = nI c := by rw [ec]; exact hC.c
  have hrf : s 60 0 = nI rf := by rw [erf]; exact hC.rf
  have hsg : s 62 0 = nI sg := by rw [esg]; exact hC.sg
  have hR : CHr n Hb hb s := by rw [en, eHb, ehb]; exact hC.hR
  have hE : CEr m He aw s := by rw [em, eHe, eaw]; exact hC.hE
  have hCl : CCr c Cl s := by rw [ec, eCl]; exact hC.hCl
  have hRf : CRr rf Rf s := by rw [erf, eRf]; exact hC.hRf hL
  have hSg : CSr sg Sg s := by rw [esg, eSg]; exact hC.hSg hL
  have hV : ∀ j, j < 42 → s 41 j = Vv j := by rw [eVv]; exact hC.hV
  refine J_aload_n dX11_clause_0 rfl rfl ?_
  refine Cg_0_0 fr_X11_10_10 dX11_clause_1 ?_
  refine Cg_1_1 fr_X11_123_1 dX11_clause_4 ?_
  refine J_astore_n [(0, .ref (r 0)), (1, .int h), (2, .int w), (3, .ref (r 5))] dX11_clause_7 rfl (by decide) rfl rfl rfl ?_
  refine J_aload_n dX11_clause_8 rfl rfl ?_
  refine J_iload_n dX11_clause_9 rfl rfl ?_
  refine J_cUi [.int h] 5 mu_X11_127_0 (c_X5_hasRow2 r s l c hc h) cW_5 rfl rfl (by decide) (Nat.le_of_ble_eq_true rfl) ⟨Nat.le_refl _, Nat.le_refl _⟩ dX11_clause_10 ?_
  refine J_if_eqB 25 dX11_clause_13 (by decide) (fun kcz1 => ?_) (fun kcz1 => ?_)
  · refine J_bipush (v := -2) dX11_clause_25 (by decide) ?_
    exact J_iret dX11_clause_27 rfl rfl rfl (hq s l ((-2), σ) (by subst en em ec erf esg eHb ehb eHe eaw eCl eRf eSg eVv; simp [qClause, kcz1]) (show CI σ s from hC))
  · obtain ⟨H, hH, rfl⟩ := (rng_iff (by omega)).mp kcz1
    have eH : (nI H).toNatClampNeg = H := nI_clamp (by omega)
    refine J_iload_n dX11_clause_16 rfl rfl ?_
    refine J_bipush (v := nI 15) dX11_clause_17 (by decide) ?_
    refine J_cSi [.int (nI H), .int (nI 15)] ms_X11_48 (c_X11_isBelowN (cW G r s l) (nI H) 15) rfl rfl (by decide) (Nat.le_of_ble_eq_true rfl) ⟨Nat.le_refl _, Nat.le_refl _⟩ dX11_clause_19 ?_
    refine J_if_neB 28 dX11_clause_22 (by decide) (fun _ => ?_) (fun c => absurd c (by rw [(show rng (nI H) 15 = true from rng_of (by omega) (by decide))]; decide))
    refine J_iload_n dX11_clause_28 rfl rfl ?_
    rcases sw_cases w 4 (by decide) with kcz2 | ⟨kjz3, hkjz3, rfl⟩
    · refine J_tblOut 88 dX11_clause_29 (by simpa using kcz2) (by decide) ?_
      refine J_bipush (v := -2) dX11_clause_88 (by decide) ?_
      exact J_iret dX11_clause_90 rfl rfl rfl (hq s l ((-2), σ) (by subst en em ec erf esg eHb ehb eHe eaw eCl eRf eSg eVv; simp [qClause, sw_no (n := 4) (by decide) kcz2, kcz1, eH]) (show CI σ s from hC))
    · rcases (show kjz3 = 0 ∨ kjz3 = 1 ∨ kjz3 = 2 ∨ kjz3 = 3 by omega) with rfl | rfl | rfl | rfl
      · refine J_tblIn (off := 31) 60 dX11_clause_29 (by decide) (by decide) (by decide) (by decide) ?_
        refine J_aload_n dX11_clause_60 rfl rfl ?_
        refine Cg_5_6 fr_X11_130_0 dX11_clause_61 ?_
        refine J_iload_n dX11_clause_64 rfl rfl ?_
        refine Cl_33 (s := s) (s 33) rfl H rfl (by omega) dX11_clause_65 ?_
        exact J_iret dX11_clause_66 rfl rfl rfl (hq s l (s 33 H, σ) (by subst en em ec erf esg eHb ehb eHe eaw eCl eRf eSg eVv; simp [qClause, rng_of (show 0 < 4 by decide) (by decide), nI_clamp (show 0 < 2 ^ 31 by decide), show s 33 H = ClS σ (4 * H + 0) from (hC.2.2.1.2.2.2.2 H hH).1.trans (ClS_at σ H (k := 0) (by decide)).symm, kcz1, eH]) (show CI σ s from hC))
      · refine J_tblIn (off := 38) 67 dX11_clause_29 (by decide) (by decide) (by decide) (by decide) ?_
        refine J_aload_n dX11_clause_67 rfl rfl ?_
        refine Cg_5_7 fr_X11_133_0 dX11_clause_68 ?_
        refine J_iload_n dX11_clause_71 rfl rfl ?_
        refine Cl_34 (s := s) (s 34) rfl H rfl (by omega) dX11_clause_72 ?_
        exact J_iret dX11_clause_73 rfl rfl rfl (hq s l (s 34 H, σ) (by subst en em ec erf esg eHb ehb eHe eaw eCl eRf eSg eVv; simp [qClause, rng_of (show 1 < 4 by decide) (by decide), nI_clamp (show 1 < 2 ^ 31 by decide), show s 34 H = ClS σ (4 * H + 1) from (hC.2.2.1.2.2.2.2 H hH).2.1.trans (ClS_at σ H (k := 1) (by decide)).symm, kcz1, eH]) (show CI σ s from hC))
      · refine J_tblIn (off := 45) 74 dX11_clause_29 (by decide) (by decide) (by decide) (by decide) ?_
        refine J_aload_n dX11_clause_74 rfl rfl ?_
        refine Cg_5_8 fr_X11_136_0 dX11_clause_75 ?_
        refine J_iload_n dX11_clause_78 rfl rfl ?_
        refine Cl_35 (s := s) (s 35) rfl H rfl (by omega) dX11_clause_79 ?_
        exact J_iret dX11_clause_80 rfl rfl rfl (hq s l (s 35 H, σ) (by subst en em ec erf esg eHb ehb eHe eaw eCl eRf eSg eVv; simp [qClause, rng_of (show 2 < 4 by decide) (by decide), nI_clamp (show 2 < 2 ^ 31 by decide), show s 35 H = ClS σ (4 * H + 2) from (hC.2.2.1.2.2.2.2 H hH).2.2.1.trans (ClS_at σ H (k := 2) (by decide)).symm, kcz1, eH]) (show CI σ s from hC))
      · refine J_tblIn (off := 52) 81 dX11_clause_29 (by decide) (by decide) (by decide) (by decide) ?_
        refine J_aload_n dX11_clause_81 rfl rfl ?_
        refine Cg_5_9 fr_X11_139_0 dX11_clause_82 ?_
        refine J_iload_n dX11_clause_85 rfl rfl ?_
        refine Cl_36 (s := s) (s 36) rfl H rfl (by omega) dX11_clause_86 ?_
        exact J_iret dX11_clause_87 rfl rfl rfl (hq s l (s 36 H, σ) (by subst en em ec erf esg eHb ehb eHe eaw eCl eRf eSg eVv; simp [qClause, rng_of (show 3 < 4 by decide) (by decide), nI_clamp (show 3 < 2 ^ 31 by decide), show s 36 H = ClS σ (4 * H + 3) from (hC.2.2.1.2.2.2.2 H hH).2.2.2.trans (ClS_at σ H (k := 3) (by decide)).symm, kcz1, eH]) (show CI σ s from hC))
theorem c_X11_clause {G : GT} (r : Nat → Nat) (s : St) (l : Nat → Int64) (σ : St) (hL : LI σ) (hC : CI σ s) (h w : Int32) : Ct G yX11_clause cX11_clause 4 (some .int) 0 0 2 [.ref (r 0), .int h, .int w] (cW G r s l) (QC G r ((qClause h w σ, σ))) := Ct.of rfl (Nat.le_of_ble_eq_true rfl) (j_X11_clause r s l σ hL hC h w (fun x lx a h1 h2 => ⟨x, lx, by rw [h1], rfl, by rw [← h1]; exact h2⟩))
set_option maxRecDepth 100000 in
set_option maxHeartbeats 1000000 in
theorem j_X11_with {G : GT} (r : Nat → Nat) (s : St) (l : Nat → Int64) (σ : St) (hL : LI σ) (hC : CI σ s) (h : Int32) {Q : Option Value → va_W → Prop} (hq : ∀ (x : St) (lx : Nat → Int64) (a : Int32 × St), a = (qWith h σ, σ) → CI a.2 x → Q (some (.int a.1)) (cW G r x lx)) : J G "with" RX11 cX11_with 2 (some .int) 0 0 4 Q 0 0 0 [(0, .ref (r 0)), (1, .int h)] [] (cW G r s l) := by
  obtain ⟨n, en⟩ : ∃ z, z = nH σ := ⟨_, rfl⟩
  obtain ⟨m, em⟩ : ∃ z, z = nE σ := ⟨_, rfl⟩
  obtain ⟨c, ec⟩ : ∃ z, z = nC σ := ⟨_, rfl⟩
  obtain ⟨rf, erf⟩ : ∃ z, z = rfn σ := ⟨_, rfl⟩
  obtain ⟨sg, esg⟩ : ∃ z, z = sgn σ := ⟨_, rfl⟩
  obtain ⟨Hb, eHb⟩ : ∃ z, z = HbS σ := ⟨_, rfl⟩
  obtain ⟨hb, ehb⟩ : ∃ z, z = hbS σ := ⟨_, rfl⟩
  obtain ⟨He, eHe⟩ : ∃ z, z = HeS σ := ⟨_, rfl⟩
  obtain ⟨aw, eaw⟩ : ∃ z, z = awS σ := ⟨_, rfl⟩
  obtain ⟨Cl, eCl⟩ : ∃ z, z = ClS σ := ⟨_, rfl⟩
  obtain ⟨Rf, eRf⟩ : ∃ z, z = σ 13 := ⟨_, rfl⟩
  obtain ⟨Sg, eSg⟩ : ∃ z, z = σ 22 := ⟨_, rfl⟩
  obtain ⟨Vv, eVv⟩ : ∃ z, z = σ 16 := ⟨_, rfl⟩
  have hn8 : n ≤ 8 := by rw [en]; exact nH_le _
  have hm6 : m ≤ 6 := by rw [em]; exact nE_le _
  have hc15 : c ≤ 15 := by rw [ec]; exact nC_le _
  have hrf12 : rf ≤ 12 := by rw [erf]; exact hL.rf.2.1
  have hsg8 : sg ≤ 8 := by rw [esg]; exact hL.sg.2.1
  have hk : HbOk n Hb hb := by rw [en, eHb, ehb]; exact hbOk σ
  have ha : AwOk m He aw := by rw [em, eHe, eaw]; exact awOk σ
  have hn : s 52 0 = nI n := by rw [en]; exact hC.n
  have hm : s 55 0 = nI m := by rw [em]; exact hC.m
  have hc : s 58 0 = nI c := by rw [ec]; exact hC.c
  have hrf : s 60 0 = nI rf := by rw [erf]; exact hC.rf
  have hsg : s 62 0 = nI sg := by rw [esg]; exact hC.sg
  have hR : CHr n Hb hb s := by rw [en, eHb, ehb]; exact hC.hR
  have hE : CEr m He aw s := by rw [em, eHe, eaw]; exact hC.hE
  have hCl : CCr c Cl s := by rw [ec, eCl]; exact hC.hCl
  have hRf : CRr rf Rf s := by rw [erf, eRf]; exact hC.hRf hL
  have hSg : CSr sg Sg s := by rw [esg, eSg]; exact hC.hSg hL
  have hV : ∀ j, j < 42 → s 41 j = Vv j := by rw [eVv]; exact hC.hV
  refine J_aload_n dX11_with_0 rfl rfl ?_
  refine Cg_0_0 fr_X11_10_10 dX11_with_1 ?_
  refine Cg_1_0 fr_X11_76_1 dX11_with_4 ?_
  refine Cg_2_0 fr_X11_80_4 dX11_with_7 ?_
  refine J_iload_n dX11_with_10 rfl rfl ?_
  refine J_cUi [.int h] 3 mu_X11_86_2 (c_X5_hasRow0 r s l n hn h) cW_3 rfl rfl (by decide) (Nat.le_of_ble_eq_true rfl) ⟨Nat.le_refl _, Nat.le_refl _⟩ dX11_with_11 ?_
  refine J_if_neB 20 dX11_with_14 (by decide) (fun kcz1 => ?_) (fun kcz1 => ?_)
  · obtain ⟨H, hH, rfl⟩ := (rng_iff (by omega)).mp kcz1
    have eH : (nI H).toNatClampNeg = H := nI_clamp (by omega)
    refine J_aload_n dX11_with_20 rfl rfl ?_
    refine Cg_0_0 fr_X11_10_10 dX11_with_21 ?_
    refine J_cVv (x := yX12_in) [] 1 mv_X11_162 (c_X1_settle r s l n hn hn8 m hm hm6 c hc hc15 Cl hCl rf hrf hrf12 Rf hRf) cW_1 rfl rfl (by decide) (Nat.le_of_ble_eq_true rfl) ⟨Nat.le_refl _, Nat.le_refl _⟩ dX11_with_24 ?_
    show J G "with" RX11 cX11_with 2 (some .int) 0 0 4 Q 0 0 27 [(0, .ref (r 0)), (1, .int (nI H))] [] (cW G r (su 61 (su 40 (su 39 s ((wlF n m Cl (rfsM rf Rf (-1) 0) c).1)) (fun q => nI (rfB rf Rf (-1) 0 q))) (fun _ => nI (wlF n m Cl (rfsM rf Rf (-1) 0) c).2)) l)
    refine J_aload_n dX11_with_27 rfl rfl ?_
    refine Cg_0_0 fr_X11_10_10 dX11_with_28 ?_
    refine J_iload_n dX11_with_31 rfl rfl ?_
    refine J_cVi (x := yX12_in) [.int (nI H)] 1 mv_X11_165 (c_X1_ownerOf r (su 61 (su 40 (su 39 s ((wlF n m Cl (rfsM rf Rf (-1) 0) c).1)) (fun q => nI (rfB rf Rf (-1) 0 q))) (fun _ => nI (wlF n m Cl (rfsM rf Rf (-1) 0) c).2)) l H (by omega)) cW_1 rfl rfl (by decide) (Nat.le_of_ble_eq_true rfl) ⟨Nat.le_refl _, Nat.le_refl _⟩ dX11_with_32 ?_
    refine J_rw (y := ((wlF n m Cl (rfsM rf Rf (-1) 0) c).1) H) rfl ?_
    exact J_iret dX11_with_35 rfl rfl rfl (hq (su 61 (su 40 (su 39 s ((wlF n m Cl (rfsM rf Rf (-1) 0) c).1)) (fun q => nI (rfB rf Rf (-1) 0 q))) (fun _ => nI (wlF n m Cl (rfsM rf Rf (-1) 0) c).2)) l (((wlF n m Cl (rfsM rf Rf (-1) 0) c).1) H, σ) (by subst en em ec erf esg eHb ehb eHe eaw eCl eRf eSg eVv; rw [wl0]; simp [qWith, wiS, kcz1, eH]) (show CI σ (su 61 (su 40 (su 39 s ((wlF n m Cl (rfsM rf Rf (-1) 0) c).1)) (fun q => nI (rfB rf Rf (-1) 0 q))) (fun _ => nI (wlF n m Cl (rfsM rf Rf (-1) 0) c).2)) from hC))
  · refine J_bipush (v := -2) dX11_with_17 (by decide) ?_
    exact J_iret dX11_with_19 rfl rfl rfl (hq s l ((-2), σ) (by subst en em ec erf esg eHb ehb eHe eaw eCl eRf eSg eVv; simp [qWith, kcz1]) (show CI σ s from hC))
theorem c_X11_with {G : GT} (r : Nat → Nat) (s : St) (l : Nat → Int64) (σ : St) (hL : LI σ) (hC : CI σ s) (h : Int32) : Ct G yX11_with cX11_with 2 (some .int) 0 0 4 [.ref (r 0), .int h] (cW G r s l) (QC G r ((qWith h σ, σ))) := Ct.of rfl (Nat.le_of_ble_eq_true rfl) (j_X11_with r s l σ hL hC h (fun x lx a h1 h2 => ⟨x, lx, by rw [h1], rfl, by rw [← h1]; exact h2⟩))
set_option maxRecDepth 100000 in
set_option maxHeartbeats 1000000 in
theorem j_X11_has {G : GT} (r : Nat → Nat) (s : St) (l : Nat → Int64) (σ : St) (hL : LI σ) (hC : CI σ s) (e w : Int32) {Q : Option Value → va_W → Prop} (hq : ∀ (x : St) (lx : Nat → Int64) (a : Int32 × St), a = (qHas e w σ, σ) → CI a.2 x → Q (some (.int a.1)) (cW G r x lx)) : J G "has" RX11 cX11_has 5 (some .int) 0 0 4 Q 0 0 0 [(0, .ref (r 0)), (1, .int e), (2, .int w)] [] (cW G r s l) := by
  obtain ⟨n, en⟩ : ∃ z, z = nH σ := ⟨_, rfl⟩
  obtain ⟨m, em⟩ : ∃ z, z = nE σ := ⟨_, rfl⟩
  obtain ⟨c, ec⟩ : ∃ z, z = nC σ := ⟨_, rfl⟩
  obtain ⟨rf, erf⟩ : ∃ z, z = rfn σ := ⟨_, rfl⟩
  obtain ⟨sg, esg⟩ : ∃ z, z = sgn σ := ⟨_, rfl⟩
  obtain ⟨Hb, eHb⟩ : ∃ z, z = HbS σ := ⟨_, rfl⟩
  obtain ⟨hb, ehb⟩ : ∃ z, z = hbS σ := ⟨_, rfl⟩
  obtain ⟨He, eHe⟩ : ∃ z, z = HeS σ := ⟨_, rfl⟩
  obtain ⟨aw, eaw⟩ : ∃ z, z = awS σ := ⟨_, rfl⟩
  obtain ⟨Cl, eCl⟩ : ∃ z, z = ClS σ := ⟨_, rfl⟩
  obtain ⟨Rf, eRf⟩ : ∃ z, z = σ 13 := ⟨_, rfl⟩
  obtain ⟨Sg, eSg⟩ : ∃ z, z = σ 22 := ⟨_, rfl⟩
  obtain ⟨Vv, eVv⟩ : ∃ z, z = σ 16 := ⟨_, rfl⟩
  have hn8 : n ≤ 8 := by rw [en]; exact nH_le _
  have hm6 : m ≤ 6 := by rw [em]; exact nE_le _
  have hc15 : c ≤ 15 := by rw [ec]; exact nC_le _
  have hrf12 : rf ≤ 12 := by rw [erf]; exact hL.rf.2.1
  have hsg8 : sg ≤ 8 := by rw [esg]; exact hL.sg.2.1
  have hk : HbOk n Hb hb := by rw [en, eHb, ehb]; exact hbOk σ
  have ha : AwOk m He aw := by rw [em, eHe, eaw]; exact awOk σ
  have hn : s 52 0 = nI n := by rw [en]; exact hC.n
  have hm : s 55 0 = nI m := by rw [em]; exact hC.m
  have hc : s 58 0 = nI c := by rw [ec]; exact hC.c
  have hrf : s 60 0 = nI rf := by rw [erf]; exact hC.rf
  have hsg : s 62 0 = nI sg := by rw [esg]; exact hC.sg
  have hR : CHr n Hb hb s := by rw [en, eHb, ehb]; exact hC.hR
  have hE : CEr m He aw s := by rw [em, eHe, eaw]; exact hC.hE
  have hCl : CCr c Cl s := by rw [ec, eCl]; exact hC.hCl
  have hRf : CRr rf Rf s := by rw [erf, eRf]; exact hC.hRf hL
  have hSg : CSr sg Sg s := by rw [esg, eSg]; exact hC.hSg hL
  have hV : ∀ j, j < 42 → s 41 j = Vv j := by rw [eVv]; exact hC.hV
  refine J_aload_n dX11_has_0 rfl rfl ?_
  refine Cg_0_0 fr_X11_10_10 dX11_has_1 ?_
  refine Cg_1_0 fr_X11_76_1 dX11_has_4 ?_
  refine J_astore_n [(0, .ref (r 0)), (1, .int e), (2, .int w), (3, .ref (r 2))] dX11_has_7 rfl (by decide) rfl rfl rfl ?_
  refine J_aload_n dX11_has_8 rfl rfl ?_
  refine Cg_2_1 fr_X11_107_4 dX11_has_9 ?_
  refine J_iload_n dX11_has_12 rfl rfl ?_
  refine J_cUi [.int e] 4 mu_X11_111_3 (c_X5_hasRow1 r s l m hm e) cW_4 rfl rfl (by decide) (Nat.le_of_ble_eq_true rfl) ⟨Nat.le_refl _, Nat.le_refl _⟩ dX11_has_13 ?_
  refine J_if_neB 22 dX11_has_16 (by decide) (fun kcz1 => ?_) (fun kcz1 => ?_)
  · obtain ⟨E9, hE9, rfl⟩ := (rng_iff (by omega)).mp kcz1
    have eE9 : (nI E9).toNatClampNeg = E9 := nI_clamp (by omega)
    refine J_aload_n dX11_has_22 rfl rfl ?_
    refine Cg_0_0 fr_X11_10_10 dX11_has_23 ?_
    refine J_cVv (x := yX12_in) [] 1 mv_X11_162 (c_X1_settle r s l n hn hn8 m hm hm6 c hc hc15 Cl hCl rf hrf hrf12 Rf hRf) cW_1 rfl rfl (by decide) (Nat.le_of_ble_eq_true rfl) ⟨Nat.le_refl _, Nat.le_refl _⟩ dX11_has_26 ?_
    show J G "has" RX11 cX11_has 5 (some .int) 0 0 4 Q 0 0 29 [(0, .ref (r 0)), (1, .int (nI E9)), (2, .int w), (3, .ref (r 2))] [] (cW G r (su 61 (su 40 (su 39 s ((wlF n m Cl (rfsM rf Rf (-1) 0) c).1)) (fun q => nI (rfB rf Rf (-1) 0 q))) (fun _ => nI (wlF n m Cl (rfsM rf Rf (-1) 0) c).2)) l)
    refine J_aload_n dX11_has_29 rfl rfl ?_
    refine Cg_0_0 fr_X11_10_10 dX11_has_30 ?_
    refine J_iload_n dX11_has_33 rfl rfl ?_
    refine J_cVi (x := yX12_in) [.int (nI E9)] 1 mv_X11_169 (c_X1_bitsOf r (su 61 (su 40 (su 39 s ((wlF n m Cl (rfsM rf Rf (-1) 0) c).1)) (fun q => nI (rfB rf Rf (-1) 0 q))) (fun _ => nI (wlF n m Cl (rfsM rf Rf (-1) 0) c).2)) l n hn hn8 E9) cW_1 rfl rfl (by decide) (Nat.le_of_ble_eq_true rfl) ⟨Nat.le_refl _, Nat.le_refl _⟩ dX11_has_34 ?_
    refine J_rw (y := nI (hasM n ((wlF n m Cl (rfsM rf Rf (-1) 0) c).1) E9)) rfl ?_
    refine J_istore [(0, .ref (r 0)), (1, .int (nI E9)), (2, .int w), (3, .ref (r 2)), (4, .int (nI (hasM n ((wlF n m Cl (rfsM rf Rf (-1) 0) c).1) E9)))] dX11_has_37 (by decide) rfl rfl rfl ?_
    refine J_iload_n dX11_has_39 rfl rfl ?_
    rcases sw_cases w 4 (by decide) with kcz2 | ⟨kjz3, hkjz3, rfl⟩
    · refine J_tblOut 106 dX11_has_40 (by simpa using kcz2) (by decide) ?_
      refine J_bipush (v := -2) dX11_has_106 (by decide) ?_
      exact J_iret dX11_has_108 rfl rfl rfl (hq (su 61 (su 40 (su 39 s ((wlF n m Cl (rfsM rf Rf (-1) 0) c).1)) (fun q => nI (rfB rf Rf (-1) 0 q))) (fun _ => nI (wlF n m Cl (rfsM rf Rf (-1) 0) c).2)) l ((-2), σ) (by subst en em ec erf esg eHb ehb eHe eaw eCl eRf eSg eVv; simp [qHas, sw_no (n := 4) (by decide) kcz2, kcz1, eE9]) (show CI σ (su 61 (su 40 (su 39 s ((wlF n m Cl (rfsM rf Rf (-1) 0) c).1)) (fun q => nI (rfB rf Rf (-1) 0 q))) (fun _ => nI (wlF n m Cl (rfsM rf Rf (-1) 0) c).2)) from hC))
    · rcases (show kjz3 = 0 ∨ kjz3 = 1 ∨ kjz3 = 2 ∨ kjz3 = 3 by omega) with rfl | rfl | rfl | rfl
      · refine J_tblIn (off := 32) 72 dX11_has_40 (by decide) (by decide) (by decide) (by decide) ?_
        refine J_iload dX11_has_72 rfl ?_
        exact J_iret dX11_has_74 rfl rfl rfl (hq (su 61 (su 40 (su 39 s ((wlF n m Cl (rfsM rf Rf (-1) 0) c).1)) (fun q => nI (rfB rf Rf (-1) 0 q))) (fun _ => nI (wlF n m Cl (rfsM rf Rf (-1) 0) c).2)) l (nI (hasM n ((wlF n m Cl (rfsM rf Rf (-1) 0) c).1) E9), σ) (by subst en em ec erf esg eHb ehb eHe eaw eCl eRf eSg eVv; rw [wl0]; simp [qHas, hsA, rng_of (show 0 < 4 by decide) (by decide), nI_clamp (show 0 < 2 ^ 31 by decide), wiS, kcz1, eE9]) (show CI σ (su 61 (su 40 (su 39 s ((wlF n m Cl (rfsM rf Rf (-1) 0) c).1)) (fun q => nI (rfB rf Rf (-1) 0 q))) (fun _ => nI (wlF n m Cl (rfsM rf Rf (-1) 0) c).2)) from hC))
      · refine J_tblIn (off := 35) 75 dX11_has_40 (by decide) (by decide) (by decide) (by decide) ?_
        refine J_aload_n dX11_has_75 rfl rfl ?_
        refine J_iload_n dX11_has_76 rfl rfl ?_
        refine J_iload dX11_has_77 rfl ?_
        refine J_cVi (x := yX12_in) [.int (nI E9), .int (nI (hasM n ((wlF n m Cl (rfsM rf Rf (-1) 0) c).1) E9))] 2 mv_X11_172 (c_X4_cannotBits r (su 61 (su 40 (su 39 s ((wlF n m Cl (rfsM rf Rf (-1) 0) c).1)) (fun q => nI (rfB rf Rf (-1) 0 q))) (fun _ => nI (wlF n m Cl (rfsM rf Rf (-1) 0) c).2)) l n hn hn8 Hb hb hR hk m hm hm6 He aw hE ha E9 (hasM n ((wlF n m Cl (rfsM rf Rf (-1) 0) c).1) E9) (by omega) (bm_lt256 _ hn8)) cW_2 rfl rfl (by decide) (Nat.le_of_ble_eq_true rfl) ⟨Nat.le_refl _, Nat.le_refl _⟩ dX11_has_79 ?_
        refine J_rw (y := nI (cnB n Hb hb (aw E9) (hasM n ((wlF n m Cl (rfsM rf Rf (-1) 0) c).1) E9))) rfl ?_
        exact J_iret dX11_has_82 rfl rfl rfl (hq (su 61 (su 40 (su 39 s ((wlF n m Cl (rfsM rf Rf (-1) 0) c).1)) (fun q => nI (rfB rf Rf (-1) 0 q))) (fun _ => nI (wlF n m Cl (rfsM rf Rf (-1) 0) c).2)) l (nI (cnB n Hb hb (aw E9) (hasM n ((wlF n m Cl (rfsM rf Rf (-1) 0) c).1) E9)), σ) (by subst en em ec erf esg eHb ehb eHe eaw eCl eRf eSg eVv; rw [wl0, cn_eq (hbOk σ) (awOk σ) (nH_le σ) hE9]; simp [qHas, hsA, rng_of (show 1 < 4 by decide) (by decide), nI_clamp (show 1 < 2 ^ 31 by decide), wiS, kcz1, eE9]) (show CI σ (su 61 (su 40 (su 39 s ((wlF n m Cl (rfsM rf Rf (-1) 0) c).1)) (fun q => nI (rfB rf Rf (-1) 0 q))) (fun _ => nI (wlF n m Cl (rfsM rf Rf (-1) 0) c).2)) from hC))
      · refine J_tblIn (off := 43) 83 dX11_has_40 (by decide) (by decide) (by decide) (by decide) ?_
        refine J_aload_n dX11_has_83 rfl rfl ?_
        refine J_iload dX11_has_84 rfl ?_
        refine J_cVi (x := yX12_in) [.int (nI (hasM n ((wlF n m Cl (rfsM rf Rf (-1) 0) c).1) E9))] 2 mv_X11_176 (c_X4_worthOf r (su 61 (su 40 (su 39 s ((wlF n m Cl (rfsM rf Rf (-1) 0) c).1)) (fun q => nI (rfB rf Rf (-1) 0 q))) (fun _ => nI (wlF n m Cl (rfsM rf Rf (-1) 0) c).2)) l n hn hn8 Hb hb hR hk (hasM n ((wlF n m Cl (rfsM rf Rf (-1) 0) c).1) E9) (bm_lt256 _ hn8)) cW_2 rfl rfl (by decide) (Nat.le_of_ble_eq_true rfl) ⟨Nat.le_refl _, Nat.le_refl _⟩ dX11_has_86 ?_
        refine J_rw (y := wB n Hb (hasM n ((wlF n m Cl (rfsM rf Rf (-1) 0) c).1) E9)) rfl ?_
        exact J_iret dX11_has_89 rfl rfl rfl (hq (su 61 (su 40 (su 39 s ((wlF n m Cl (rfsM rf Rf (-1) 0) c).1)) (fun q => nI (rfB rf Rf (-1) 0 q))) (fun _ => nI (wlF n m Cl (rfsM rf Rf (-1) 0) c).2)) l (wB n Hb (hasM n ((wlF n m Cl (rfsM rf Rf (-1) 0) c).1) E9), σ) (by subst en em ec erf esg eHb ehb eHe eaw eCl eRf eSg eVv; rw [wl0, w_eq]; simp [qHas, hsA, rng_of (show 2 < 4 by decide) (by decide), nI_clamp (show 2 < 2 ^ 31 by decide), wiS, kcz1, eE9]) (show CI σ (su 61 (su 40 (su 39 s ((wlF n m Cl (rfsM rf Rf (-1) 0) c).1)) (fun q => nI (rfB rf Rf (-1) 0 q))) (fun _ => nI (wlF n m Cl (rfsM rf Rf (-1) 0) c).2)) from hC))
      · refine J_tblIn (off := 50) 90 dX11_has_40 (by decide) (by decide) (by decide) (by decide) ?_
        refine J_aload_n dX11_has_90 rfl rfl ?_
        refine J_iload_n dX11_has_91 rfl rfl ?_
        refine J_iload dX11_has_92 rfl ?_
        refine J_cVi (x := yX12_in) [.int (nI E9), .int (nI (hasM n ((wlF n m Cl (rfsM rf Rf (-1) 0) c).1) E9))] 2 mv_X11_179 (c_X4_canLive r (su 61 (su 40 (su 39 s ((wlF n m Cl (rfsM rf Rf (-1) 0) c).1)) (fun q => nI (rfB rf Rf (-1) 0 q))) (fun _ => nI (wlF n m Cl (rfsM rf Rf (-1) 0) c).2)) l n hn hn8 Hb hb hR hk m hm hm6 He aw hE ha E9 (hasM n ((wlF n m Cl (rfsM rf Rf (-1) 0) c).1) E9) (by omega) (bm_lt256 _ hn8)) cW_2 rfl rfl (by decide) (Nat.le_of_ble_eq_true rfl) ⟨Nat.le_refl _, Nat.le_refl _⟩ dX11_has_94 ?_
        refine J_rw (y := bI (lvB n Hb hb He aw E9 (hasM n ((wlF n m Cl (rfsM rf Rf (-1) 0) c).1) E9))) rfl ?_
        refine J_if_eqB 104 dX11_has_97 (by decide) (fun kcz4 => ?_) (fun kcz4 => ?_)
        · refine J_iconst (v := nI 0) dX11_has_104 (by decide) ?_
          exact J_iret dX11_has_105 rfl rfl rfl (hq (su 61 (su 40 (su 39 s ((wlF n m Cl (rfsM rf Rf (-1) 0) c).1)) (fun q => nI (rfB rf Rf (-1) 0 q))) (fun _ => nI (wlF n m Cl (rfsM rf Rf (-1) 0) c).2)) l (nI 0, σ) (by subst en em ec erf esg eHb ehb eHe eaw eCl eRf eSg eVv; have e9 := kcz4; rw [wl0, lv_eq (hbOk σ) (awOk σ) (nH_le σ) hE9] at e9; simp [qHas, hsA, rng_of (show 3 < 4 by decide) (by decide), nI_clamp (show 3 < 2 ^ 31 by decide), wiS, kcz1, eE9, show livM (nH σ) (HbS σ) (HeS σ) (wlS σ).1 E9 = false from e9, bI, nI1_bI, nI0_bI]) (show CI σ (su 61 (su 40 (su 39 s ((wlF n m Cl (rfsM rf Rf (-1) 0) c).1)) (fun q => nI (rfB rf Rf (-1) 0 q))) (fun _ => nI (wlF n m Cl (rfsM rf Rf (-1) 0) c).2)) from hC))
        · refine J_iconst (v := nI 1) dX11_has_100 (by decide) ?_
          refine J_goto 105 dX11_has_101 (by decide) ?_
          exact J_iret dX11_has_105 rfl rfl rfl (hq (su 61 (su 40 (su 39 s ((wlF n m Cl (rfsM rf Rf (-1) 0) c).1)) (fun q => nI (rfB rf Rf (-1) 0 q))) (fun _ => nI (wlF n m Cl (rfsM rf Rf (-1) 0) c).2)) l (nI 1, σ) (by subst en em ec erf esg eHb ehb eHe eaw eCl eRf eSg eVv; have e9 := kcz4; rw [wl0, lv_eq (hbOk σ) (awOk σ) (nH_le σ) hE9] at e9; simp [qHas, hsA, rng_of (show 3 < 4 by decide) (by decide), nI_clamp (show 3 < 2 ^ 31 by decide), wiS, kcz1, eE9, show livM (nH σ) (HbS σ) (HeS σ) (wlS σ).1 E9 = true from e9, bI, nI1_bI, nI0_bI]) (show CI σ (su 61 (su 40 (su 39 s ((wlF n m Cl (rfsM rf Rf (-1) 0) c).1)) (fun q => nI (rfB rf Rf (-1) 0 q))) (fun _ => nI (wlF n m Cl (rfsM rf Rf (-1) 0) c).2)) from hC))
  · refine J_bipush (v := -2) dX11_has_19 (by decide) ?_
    exact J_iret dX11_has_21 rfl rfl rfl (hq s l ((-2), σ) (by subst en em ec erf esg eHb ehb eHe eaw eCl eRf eSg eVv; simp [qHas, kcz1]) (show CI σ s from hC))
theorem c_X11_has {G : GT} (r : Nat → Nat) (s : St) (l : Nat → Int64) (σ : St) (hL : LI σ) (hC : CI σ s) (e w : Int32) : Ct G yX11_has cX11_has 5 (some .int) 0 0 4 [.ref (r 0), .int e, .int w] (cW G r s l) (QC G r ((qHas e w σ, σ))) := Ct.of rfl (Nat.le_of_ble_eq_true rfl) (j_X11_has r s l σ hL hC e w (fun x lx a h1 h2 => ⟨x, lx, by rw [h1], rfl, by rw [← h1]; exact h2⟩))
set_option maxRecDepth 100000 in
set_option maxHeartbeats 1000000 in
theorem j_X11_does {G : GT} (r : Nat → Nat) (s : St) (l : Nat → Int64) (σ : St) (hL : LI σ) (hC : CI σ s) (e t : Int32) {Q : Option Value → va_W → Prop} (hq : ∀ (x : St) (lx : Nat → Int64) (a : Int32 × St), a = (qDoes e t σ, σ) → CI a.2 x → Q (some (.int a.1)) (cW G r x lx)) : J G "does" RX11 cX11_does 3 (some .int) 0 0 4 Q 0 0 0 [(0, .ref (r 0)), (1, .int e), (2, .int t)] [] (cW G r s l) := by
  obtain ⟨n, en⟩ : ∃ z, z = nH σ := ⟨_, rfl⟩
  obtain ⟨m, em⟩ : ∃ z, z = nE σ := ⟨_, rfl⟩
  obtain ⟨c, ec⟩ : ∃ z, z = nC σ := ⟨_, rfl⟩
  obtain ⟨rf, erf⟩ : ∃ z, z = rfn σ := ⟨_, rfl⟩
  obtain ⟨sg, esg⟩ : ∃ z, z = sgn σ := ⟨_, rfl⟩
  obtain ⟨Hb, eHb⟩ : ∃ z, z = HbS σ := ⟨_, rfl⟩
  obtain ⟨hb, ehb⟩ : ∃ z, z = hbS σ := ⟨_, rfl⟩
  obtain ⟨He, eHe⟩ : ∃ z, z = HeS σ := ⟨_, rfl⟩
  obtain ⟨aw, eaw⟩ : ∃ z, z = awS σ := ⟨_, rfl⟩
  obtain ⟨Cl, eCl⟩ : ∃ z, z = ClS σ := ⟨_, rfl⟩
  obtain ⟨Rf, eRf⟩ : ∃ z, z = σ 13 := ⟨_, rfl⟩
  obtain ⟨Sg, eSg⟩ : ∃ z, z = σ 22 := ⟨_, rfl⟩
  obtain ⟨Vv, eVv⟩ : ∃ z, z = σ 16 := ⟨_, rfl⟩
  have hn8 : n ≤ 8 := by rw [en]; exact nH_le _
  have hm6 : m ≤ 6 := by rw [em]; exact nE_le _
  have hc15 : c ≤ 15 := by rw [ec]; exact nC_le _
  have hrf12 : rf ≤ 12 := by rw [erf]; exact hL.rf.2.1
  have hsg8 : sg ≤ 8 := by rw [esg]; exact hL.sg.2.1
  have hk : HbOk n Hb hb := by rw [en, eHb, ehb]; exact hbOk σ
  have ha : AwOk m He aw := by rw [em, eHe, eaw]; exact awOk σ
  have hn : s 52 0 = nI n := by rw [en]; exact hC.n
  have hm : s 55 0 = nI m := by rw [em]; exact hC.m
  have hc : s 58 0 = nI c := by rw [ec]; exact hC.c
  have hrf : s 60 0 = nI rf := by rw [erf]; exact hC.rf
  have hsg : s 62 0 = nI sg := by rw [esg]; exact hC.sg
  have hR : CHr n Hb hb s := by rw [en, eHb, ehb]; exact hC.hR
  have hE : CEr m He aw s := by rw [em, eHe, eaw]; exact hC.hE
  have hCl : CCr c Cl s := by rw [ec, eCl]; exact hC.hCl
  have hRf : CRr rf Rf s := by rw [erf, eRf]; exact hC.hRf hL
  have hSg : CSr sg Sg s := by rw [esg, eSg]; exact hC.hSg hL
  have hV : ∀ j, j < 42 → s 41 j = Vv j := by rw [eVv]; exact hC.hV
  refine J_aload_n dX11_does_0 rfl rfl ?_
  refine Cg_0_0 fr_X11_10_10 dX11_does_1 ?_
  refine Cg_1_0 fr_X11_76_1 dX11_does_4 ?_
  refine Cg_2_1 fr_X11_107_4 dX11_does_7 ?_
  refine J_iload_n dX11_does_10 rfl rfl ?_
  refine J_cUi [.int e] 4 mu_X11_111_3 (c_X5_hasRow1 r s l m hm e) cW_4 rfl rfl (by decide) (Nat.le_of_ble_eq_true rfl) ⟨Nat.le_refl _, Nat.le_refl _⟩ dX11_does_11 ?_
  refine J_if_eqB 26 dX11_does_14 (by decide) (fun kcz1 => ?_) (fun kcz1 => ?_)
  · refine J_bipush (v := -2) dX11_does_26 (by decide) ?_
    exact J_iret dX11_does_28 rfl rfl rfl (hq s l ((-2), σ) (by subst en em ec erf esg eHb ehb eHe eaw eCl eRf eSg eVv; simp [qDoes, kcz1]) (show CI σ s from hC))
  · obtain ⟨E9, hE9, rfl⟩ := (rng_iff (by omega)).mp kcz1
    have eE9 : (nI E9).toNatClampNeg = E9 := nI_clamp (by omega)
    refine J_iload_n dX11_does_17 rfl rfl ?_
    refine J_bipush (v := nI 24) dX11_does_18 (by decide) ?_
    refine J_cSi [.int t, .int (nI 24)] ms_X11_48 (c_X11_isBelowN (cW G r s l) t 24) rfl rfl (by decide) (Nat.le_of_ble_eq_true rfl) ⟨Nat.le_refl _, Nat.le_refl _⟩ dX11_does_20 ?_
    refine J_if_neB 29 dX11_does_23 (by decide) (fun kcz2 => ?_) (fun kcz2 => ?_)
    · obtain ⟨T, hT, rfl⟩ := (rng_iff (by omega)).mp kcz2
      have eT : (nI T).toNatClampNeg = T := nI_clamp (by omega)
      refine J_aload_n dX11_does_29 rfl rfl ?_
      refine Cg_0_0 fr_X11_10_10 dX11_does_30 ?_
      refine J_cVv (x := yX12_in) [] 1 mv_X11_162 (c_X1_settle r s l n hn hn8 m hm hm6 c hc hc15 Cl hCl rf hrf hrf12 Rf hRf) cW_1 rfl rfl (by decide) (Nat.le_of_ble_eq_true rfl) ⟨Nat.le_refl _, Nat.le_refl _⟩ dX11_does_33 ?_
      show J G "does" RX11 cX11_does 3 (some .int) 0 0 4 Q 0 0 36 [(0, .ref (r 0)), (1, .int (nI E9)), (2, .int (nI T))] [] (cW G r (su 61 (su 40 (su 39 s ((wlF n m Cl (rfsM rf Rf (-1) 0) c).1)) (fun q => nI (rfB rf Rf (-1) 0 q))) (fun _ => nI (wlF n m Cl (rfsM rf Rf (-1) 0) c).2)) l)
      refine J_aload_n dX11_does_36 rfl rfl ?_
      refine Cg_0_0 fr_X11_10_10 dX11_does_37 ?_
      refine J_iload_n dX11_does_40 rfl rfl ?_
      refine J_iload_n dX11_does_41 rfl rfl ?_
      refine J_cVi (x := yX12_in) [.int (nI E9), .int (nI T)] 1 mv_X11_182 (c_X1_doingOf r (su 61 (su 40 (su 39 s ((wlF n m Cl (rfsM rf Rf (-1) 0) c).1)) (fun q => nI (rfB rf Rf (-1) 0 q))) (fun _ => nI (wlF n m Cl (rfsM rf Rf (-1) 0) c).2)) l n hn hn8 Hb hb hR hk m hm hm6 He aw hE ha E9 T (by omega) (by omega)) cW_1 rfl rfl (by decide) (Nat.le_of_ble_eq_true rfl) ⟨Nat.le_refl _, Nat.le_refl _⟩ dX11_does_42 ?_
      refine J_rw (y := doM n Hb He ((wlF n m Cl (rfsM rf Rf (-1) 0) c).1) E9 T) rfl ?_
      exact J_iret dX11_does_45 rfl rfl rfl (hq (su 61 (su 40 (su 39 s ((wlF n m Cl (rfsM rf Rf (-1) 0) c).1)) (fun q => nI (rfB rf Rf (-1) 0 q))) (fun _ => nI (wlF n m Cl (rfsM rf Rf (-1) 0) c).2)) l (doM n Hb He ((wlF n m Cl (rfsM rf Rf (-1) 0) c).1) E9 T, σ) (by subst en em ec erf esg eHb ehb eHe eaw eCl eRf eSg eVv; rw [wl0]; simp [qDoes, doS, wiS, kcz1, eE9, kcz2, eT]) (show CI σ (su 61 (su 40 (su 39 s ((wlF n m Cl (rfsM rf Rf (-1) 0) c).1)) (fun q => nI (rfB rf Rf (-1) 0 q))) (fun _ => nI (wlF n m Cl (rfsM rf Rf (-1) 0) c).2)) from hC))
    · refine J_bipush (v := -2) dX11_does_26 (by decide) ?_
      exact J_iret dX11_does_28 rfl rfl rfl (hq s l ((-2), σ) (by subst en em ec erf esg eHb ehb eHe eaw eCl eRf eSg eVv; simp [qDoes, kcz1, eE9, kcz2]) (show CI σ s from hC))
theorem c_X11_does {G : GT} (r : Nat → Nat) (s : St) (l : Nat → Int64) (σ : St) (hL : LI σ) (hC : CI σ s) (e t : Int32) : Ct G yX11_does cX11_does 3 (some .int) 0 0 4 [.ref (r 0), .int e, .int t] (cW G r s l) (QC G r ((qDoes e t σ, σ))) := Ct.of rfl (Nat.le_of_ble_eq_true rfl) (j_X11_does r s l σ hL hC e t (fun x lx a h1 h2 => ⟨x, lx, by rw [h1], rfl, by rw [← h1]; exact h2⟩))
set_option maxRecDepth 100000 in
set_option maxHeartbeats 1000000 in
theorem j_X11_done {G : GT} (r : Nat → Nat) (s : St) (l : Nat → Int64) (σ : St) (hL : LI σ) (hC : CI σ s) {Q : Option Value → va_W → Prop} (hq : ∀ (x : St) (lx : Nat → Int64) (a : Int32 × St), a = (qDone σ, σ) → CI a.2 x → Q (some (.int a.1)) (cW G r x lx)) : J G "done" RX11 cX11_done 1 (some .int) 0 0 4 Q 0 0 0 [(0, .ref (r 0))] [] (cW G r s l) := by
  obtain ⟨n, en⟩ : ∃ z, z = nH σ := ⟨_, rfl⟩
  obtain ⟨m, em⟩ : ∃ z, z = nE σ := ⟨_, rfl⟩
  obtain ⟨c, ec⟩ : ∃ z, z = nC σ := ⟨_, rfl⟩
  obtain ⟨rf, erf⟩ : ∃ z, z = rfn σ := ⟨_, rfl⟩
  obtain ⟨sg, esg⟩ : ∃ z, z = sgn σ := ⟨_, rfl⟩
  obtain ⟨Hb, eHb⟩ : ∃ z, z = HbS σ := ⟨_, rfl⟩
  obtain ⟨hb, ehb⟩ : ∃ z, z = hbS σ := ⟨_, rfl⟩
  obtain ⟨He, eHe⟩ : ∃ z, z = HeS σ := ⟨_, rfl⟩
  obtain ⟨aw, eaw⟩ : ∃ z, z = awS σ := ⟨_, rfl⟩
  obtain ⟨Cl, eCl⟩ : ∃ z, z = ClS σ := ⟨_, rfl⟩
  obtain ⟨Rf, eRf⟩ : ∃ z, z = σ 13 := ⟨_, rfl⟩
  obtain ⟨Sg, eSg⟩ : ∃ z, z = σ 22 := ⟨_, rfl⟩
  obtain ⟨Vv, eVv⟩ : ∃ z, z = σ 16 := ⟨_, rfl⟩
  have hn8 : n ≤ 8 := by rw [en]; exact nH_le _
  have hm6 : m ≤ 6 := by rw [em]; exact nE_le _
  have hc15 : c ≤ 15 := by rw [ec]; exact nC_le _
  have hrf12 : rf ≤ 12 := by rw [erf]; exact hL.rf.2.1
  have hsg8 : sg ≤ 8 := by rw [esg]; exact hL.sg.2.1
  have hk : HbOk n Hb hb := by rw [en, eHb, ehb]; exact hbOk σ
  have ha : AwOk m He aw := by rw [em, eHe, eaw]; exact awOk σ
  have hn : s 52 0 = nI n := by rw [en]; exact hC.n
  have hm : s 55 0 = nI m := by rw [em]; exact hC.m
  have hc : s 58 0 = nI c := by rw [ec]; exact hC.c
  have hrf : s 60 0 = nI rf := by rw [erf]; exact hC.rf
  have hsg : s 62 0 = nI sg := by rw [esg]; exact hC.sg
  have hR : CHr n Hb hb s := by rw [en, eHb, ehb]; exact hC.hR
  have hE : CEr m He aw s := by rw [em, eHe, eaw]; exact hC.hE
  have hCl : CCr c Cl s := by rw [ec, eCl]; exact hC.hCl
  have hRf : CRr rf Rf s := by rw [erf, eRf]; exact hC.hRf hL
  have hSg : CSr sg Sg s := by rw [esg, eSg]; exact hC.hSg hL
  have hV : ∀ j, j < 42 → s 41 j = Vv j := by rw [eVv]; exact hC.hV
  refine J_aload_n dX11_done_0 rfl rfl ?_
  refine Cg_0_0 fr_X11_10_10 dX11_done_1 ?_
  refine J_cVv (x := yX12_in) [] 1 mv_X11_162 (c_X1_settle r s l n hn hn8 m hm hm6 c hc hc15 Cl hCl rf hrf hrf12 Rf hRf) cW_1 rfl rfl (by decide) (Nat.le_of_ble_eq_true rfl) ⟨Nat.le_refl _, Nat.le_refl _⟩ dX11_done_4 ?_
  show J G "done" RX11 cX11_done 1 (some .int) 0 0 4 Q 0 0 7 [(0, .ref (r 0))] [] (cW G r (su 61 (su 40 (su 39 s ((wlF n m Cl (rfsM rf Rf (-1) 0) c).1)) (fun q => nI (rfB rf Rf (-1) 0 q))) (fun _ => nI (wlF n m Cl (rfsM rf Rf (-1) 0) c).2)) l)
  refine J_aload_n dX11_done_7 rfl rfl ?_
  refine Cg_0_0 fr_X11_10_10 dX11_done_8 ?_
  refine Cg_1_5 (s := (su 61 (su 40 (su 39 s ((wlF n m Cl (rfsM rf Rf (-1) 0) c).1)) (fun q => nI (rfB rf Rf (-1) 0 q))) (fun _ => nI (wlF n m Cl (rfsM rf Rf (-1) 0) c).2))) fr_X11_185_1 (nI ((wlF n m Cl (rfsM rf Rf (-1) 0) c).2)) rfl dX11_done_11 ?_
  exact J_iret dX11_done_14 rfl rfl rfl (hq (su 61 (su 40 (su 39 s ((wlF n m Cl (rfsM rf Rf (-1) 0) c).1)) (fun q => nI (rfB rf Rf (-1) 0 q))) (fun _ => nI (wlF n m Cl (rfsM rf Rf (-1) 0) c).2)) l (nI ((wlF n m Cl (rfsM rf Rf (-1) 0) c).2), σ) (by subst en em ec erf esg eHb ehb eHe eaw eCl eRf eSg eVv; rw [wl0]; simp [qDone, if_pos]) (show CI σ (su 61 (su 40 (su 39 s ((wlF n m Cl (rfsM rf Rf (-1) 0) c).1)) (fun q => nI (rfB rf Rf (-1) 0 q))) (fun _ => nI (wlF n m Cl (rfsM rf Rf (-1) 0) c).2)) from hC))
theorem c_X11_done {G : GT} (r : Nat → Nat) (s : St) (l : Nat → Int64) (σ : St) (hL : LI σ) (hC : CI σ s) : Ct G yX11_done cX11_done 1 (some .int) 0 0 4 [.ref (r 0)] (cW G r s l) (QC G r ((qDone σ, σ))) := Ct.of rfl (Nat.le_of_ble_eq_true rfl) (j_X11_done r s l σ hL hC (fun x lx a h1 h2 => ⟨x, lx, by rw [h1], rfl, by rw [← h1]; exact h2⟩))
set_option maxRecDepth 100000 in
set_option maxHeartbeats 1000000 in
theorem j_X11_fault {G : GT} (r : Nat → Nat) (s : St) (l : Nat → Int64) (σ : St) (hL : LI σ) (hC : CI σ s) (v : Int32) {Q : Option Value → va_W → Prop} (hq : ∀ (x : St) (lx : Nat → Int64) (a : Int32 × St), a = (qFault v σ, σ) → CI a.2 x → Q (some (.int a.1)) (cW G r x lx)) : J G "fault" RX11 cX11_fault 2 (some .int) 0 0 1 Q 0 0 0 [(0, .ref (r 0)), (1, .int v)] [] (cW G r s l) := by
  obtain ⟨n, en⟩ : ∃ z, z = nH σ := ⟨_, rfl⟩
  obtain ⟨m, em⟩ : ∃ z, z = nE σ := ⟨_, rfl⟩
  obtain ⟨c, ec⟩ : ∃ z, z = nC σ := ⟨_, rfl⟩
  obtain ⟨rf, erf⟩ : ∃ z, z = rfn σ := ⟨_, rfl⟩
  obtain ⟨sg, esg⟩ : ∃ z, z = sgn σ := ⟨_, rfl⟩
  obtain ⟨Hb, eHb⟩ : ∃ z, z = HbS σ := ⟨_, rfl⟩
  obtain ⟨hb, ehb⟩ : ∃ z, z = hbS σ := ⟨_, rfl⟩
  obtain ⟨He, eHe⟩ : ∃ z, z = HeS σ := ⟨_, rfl⟩
  obtain ⟨aw, eaw⟩ : ∃ z, z = awS σ := ⟨_, rfl⟩
  obtain ⟨Cl, eCl⟩ : ∃ z, z = ClS σ := ⟨_, rfl⟩
  obtain ⟨Rf, eRf⟩ : ∃ z, z = σ 13 := ⟨_, rfl⟩
  obtain ⟨Sg, eSg⟩ : ∃ z, z = σ 22 := ⟨_, rfl⟩
  obtain ⟨Vv, eVv⟩ : ∃ z, z = σ 16 := ⟨_, rfl⟩
  have hn8 : n ≤ 8 := by rw [en]; exact nH_le _
  have hm6 : m ≤ 6 := by rw [em]; exact nE_le _
  have hc15 : c ≤ 15 := by rw [ec]; exact nC_le _
  have hrf12 : rf ≤ 12 := by rw [erf]; exact hL.rf.2.1
  have hsg8 : sg ≤ 8 := by rw [esg]; exact hL.sg.2.1
  have hk : HbOk n Hb hb := by rw [en, eHb, ehb]; exact hbOk σ
  have ha : AwOk m He aw := by rw [em, eHe, eaw]; exact awOk σ
  have hn : s 52 0 = nI n := by rw [en]; exact hC.n
  have hm : s 55 0 = nI m := by rw [em]; exact hC.m
  have hc : s 58 0 = nI c := by rw [ec]; exact hC.c
  have hrf : s 60 0 = nI rf := by rw [erf]; exact hC.rf
  have hsg : s 62 0 = nI sg := by rw [esg]; exact hC.sg
  have hR : CHr n Hb hb s := by rw [en, eHb, ehb]; exact hC.hR
  have hE : CEr m He aw s := by rw [em, eHe, eaw]; exact hC.hE
  have hCl : CCr c Cl s := by rw [ec, eCl]; exact hC.hCl
  have hRf : CRr rf Rf s := by rw [erf, eRf]; exact hC.hRf hL
  have hSg : CSr sg Sg s := by rw [esg, eSg]; exact hC.hSg hL
  have hV : ∀ j, j < 42 → s 41 j = Vv j := by rw [eVv]; exact hC.hV
  refine J_iload_n dX11_fault_0 rfl rfl ?_
  refine J_iconst (v := nI 3) dX11_fault_1 (by decide) ?_
  refine J_cSi [.int v, .int (nI 3)] ms_X11_48 (c_X11_isBelowN (cW G r s l) v 3) rfl rfl (by decide) (Nat.le_of_ble_eq_true rfl) ⟨Nat.le_refl _, Nat.le_refl _⟩ dX11_fault_2 ?_
  refine J_if_eqB 19 dX11_fault_5 (by decide) (fun kcz1 => ?_) (fun kcz1 => ?_)
  · refine J_bipush (v := -2) dX11_fault_19 (by decide) ?_
    exact J_iret dX11_fault_21 rfl rfl rfl (hq s l ((-2), σ) (by subst en em ec erf esg eHb ehb eHe eaw eCl eRf eSg eVv; simp [qFault, kcz1]) (show CI σ s from hC))
  · obtain ⟨T, hT, rfl⟩ := (rng_iff (by omega)).mp kcz1
    have eT : (nI T).toNatClampNeg = T := nI_clamp (by omega)
    rcases (show T = 0 ∨ T = 1 ∨ T = 2 by omega) with rfl | rfl | rfl
    · refine J_aload_n dX11_fault_8 rfl rfl ?_
      refine J_iload_n dX11_fault_9 rfl rfl ?_
      refine J_cVr (x := yX12_in) [.int (nI 0)] 0 mv_X11_52 (c_X11_listingOf0 r s l) cW_0 rfl rfl (by decide) (Nat.le_of_ble_eq_true rfl) ⟨Nat.le_refl _, Nat.le_refl _⟩ dX11_fault_10 ?_
      refine Cg_3_5 (s := s) fr_X11_73_2 (s 53 0) rfl dX11_fault_13 ?_
      refine J_goto 21 dX11_fault_16 (by decide) ?_
      exact J_iret dX11_fault_21 rfl rfl rfl (hq s l (s 53 0, σ) (by subst en em ec erf esg eHb ehb eHe eaw eCl eRf eSg eVv; simp [qFault, show s 53 0 = _ from hC.1.2.2.2.1, kcz1, eT]) (show CI σ s from hC))
    · refine J_aload_n dX11_fault_8 rfl rfl ?_
      refine J_iload_n dX11_fault_9 rfl rfl ?_
      refine J_cVr (x := yX12_in) [.int (nI 1)] 0 mv_X11_52 (c_X11_listingOf1 r s l) cW_0 rfl rfl (by decide) (Nat.le_of_ble_eq_true rfl) ⟨Nat.le_refl _, Nat.le_refl _⟩ dX11_fault_10 ?_
      refine Cg_4_5 (s := s) fr_X11_73_3 (s 56 0) rfl dX11_fault_13 ?_
      refine J_goto 21 dX11_fault_16 (by decide) ?_
      exact J_iret dX11_fault_21 rfl rfl rfl (hq s l (s 56 0, σ) (by subst en em ec erf esg eHb ehb eHe eaw eCl eRf eSg eVv; simp [qFault, show s 56 0 = _ from hC.2.1.2.2.2.1, kcz1, eT]) (show CI σ s from hC))
    · refine J_aload_n dX11_fault_8 rfl rfl ?_
      refine J_iload_n dX11_fault_9 rfl rfl ?_
      refine J_cVr (x := yX12_in) [.int (nI 2)] 0 mv_X11_52 (c_X11_listingOf2 r s l) cW_0 rfl rfl (by decide) (Nat.le_of_ble_eq_true rfl) ⟨Nat.le_refl _, Nat.le_refl _⟩ dX11_fault_10 ?_
      refine Cg_5_5 (s := s) fr_X11_73_0 (s 59 0) rfl dX11_fault_13 ?_
      refine J_goto 21 dX11_fault_16 (by decide) ?_
      exact J_iret dX11_fault_21 rfl rfl rfl (hq s l (s 59 0, σ) (by subst en em ec erf esg eHb ehb eHe eaw eCl eRf eSg eVv; simp [qFault, show s 59 0 = _ from hC.2.2.1.2.2.2.1, kcz1, eT]) (show CI σ s from hC))
theorem c_X11_fault {G : GT} (r : Nat → Nat) (s : St) (l : Nat → Int64) (σ : St) (hL : LI σ) (hC : CI σ s) (v : Int32) : Ct G yX11_fault cX11_fault 2 (some .int) 0 0 1 [.ref (r 0), .int v] (cW G r s l) (QC G r ((qFault v σ, σ))) := Ct.of rfl (Nat.le_of_ble_eq_true rfl) (j_X11_fault r s l σ hL hC v (fun x lx a h1 h2 => ⟨x, lx, by rw [h1], rfl, by rw [← h1]; exact h2⟩))
set_option maxRecDepth 100000 in
set_option maxHeartbeats 1000000 in
theorem j_X11_count {G : GT} (r : Nat → Nat) (s : St) (l : Nat → Int64) (σ : St) (hL : LI σ) (hC : CI σ s) (w : Int32) {Q : Option Value → va_W → Prop} (hq : ∀ (x : St) (lx : Nat → Int64) (a : Int32 × St), a = (qCount w σ, σ) → CI a.2 x → Q (some (.int a.1)) (cW G r x lx)) : J G "count" RX11 cX11_count 2 (some .int) 0 0 1 Q 0 0 0 [(0, .ref (r 0)), (1, .int w)] [] (cW G r s l) := by
  obtain ⟨n, en⟩ : ∃ z, z = nH σ := ⟨_, rfl⟩
  obtain ⟨m, em⟩ : ∃ z, z = nE σ := ⟨_, rfl⟩
  obtain ⟨c, ec⟩ : ∃ z, z = nC σ := ⟨_, rfl⟩
  obtain ⟨rf, erf⟩ : ∃ z, z = rfn σ := ⟨_, rfl⟩
  obtain ⟨sg, esg⟩ : ∃ z, z = sgn σ := ⟨_, rfl⟩
  obtain ⟨Hb, eHb⟩ : ∃ z, z = HbS σ := ⟨_, rfl⟩
  obtain ⟨hb, ehb⟩ : ∃ z, z = hbS σ := ⟨_, rfl⟩
  obtain ⟨He, eHe⟩ : ∃ z, z = HeS σ := ⟨_, rfl⟩
  obtain ⟨aw, eaw⟩ : ∃ z, z = awS σ := ⟨_, rfl⟩
  obtain ⟨Cl, eCl⟩ : ∃ z, z = ClS σ := ⟨_, rfl⟩
  obtain ⟨Rf, eRf⟩ : ∃ z, z = σ 13 := ⟨_, rfl⟩
  obtain ⟨Sg, eSg⟩ : ∃ z, z = σ 22 := ⟨_, rfl⟩
  obtain ⟨Vv, eVv⟩ : ∃ z, z = σ 16 := ⟨_, rfl⟩
  have hn8 : n ≤ 8 := by rw [en]; exact nH_le _
  have hm6 : m ≤ 6 := by rw [em]; exact nE_le _
  have hc15 : c ≤ 15 := by rw [ec]; exact nC_le _
  have hrf12 : rf ≤ 12 := by rw [erf]; exact hL.rf.2.1
  have hsg8 : sg ≤ 8 := by rw [esg]; exact hL.sg.2.1
  have hk : HbOk n Hb hb := by rw [en, eHb, ehb]; exact hbOk σ
  have ha : AwOk m He aw := by rw [em, eHe, eaw]; exact awOk σ
  have hn : s 52 0 = nI n := by rw [en]; exact hC.n
  have hm : s 55 0 = nI m := by rw [em]; exact hC.m
  have hc : s 58 0 = nI c := by rw [ec]; exact hC.c
  have hrf : s 60 0 = nI rf := by rw [erf]; exact hC.rf
  have hsg : s 62 0 = nI sg := by rw [esg]; exact hC.sg
  have hR : CHr n Hb hb s := by rw [en, eHb, ehb]; exact hC.hR
  have hE : CEr m He aw s := by rw [em, eHe, eaw]; exact hC.hE
  have hCl : CCr c Cl s := by rw [ec, eCl]; exact hC.hCl
  have hRf : CRr rf Rf s := by rw [erf, eRf]; exact hC.hRf hL
  have hSg : CSr sg Sg s := by rw [esg, eSg]; exact hC.hSg hL
  have hV : ∀ j, j < 42 → s 41 j = Vv j := by rw [eVv]; exact hC.hV
  refine J_iload_n dX11_count_0 rfl rfl ?_
  rcases sw_cases w 9 (by decide) with kcz1 | ⟨kjz2, hkjz2, rfl⟩
  · refine J_tblOut 154 dX11_count_1 (by simpa using kcz1) (by decide) ?_
    refine J_bipush (v := -2) dX11_count_154 (by decide) ?_
    exact J_iret dX11_count_156 rfl rfl rfl (hq s l ((-2), σ) (by simp [qCount, sw_no (n := 9) (by decide) kcz1]) (show CI σ s from hC))
  · rcases (show kjz2 = 0 ∨ kjz2 = 1 ∨ kjz2 = 2 ∨ kjz2 = 3 ∨ kjz2 = 4 ∨ kjz2 = 5 ∨ kjz2 = 6 ∨ kjz2 = 7 ∨ kjz2 = 8 by omega) with rfl | rfl | rfl | rfl | rfl | rfl | rfl | rfl | rfl
    · refine J_tblIn (off := 51) 52 dX11_count_1 (by decide) (by decide) (by decide) (by decide) ?_
      refine J_aload_n dX11_count_52 rfl rfl ?_
      refine Cg_0_0 fr_X11_10_10 dX11_count_53 ?_
      refine Cg_1_0 fr_X11_76_1 dX11_count_56 ?_
      refine Cg_2_0 fr_X11_80_4 dX11_count_59 ?_
      refine Cg_3_4 (s := s) fr_X11_260_2 (s 52 0) rfl dX11_count_62 ?_
      refine J_rw (y := nI n) hn ?_
      exact J_iret dX11_count_65 rfl rfl rfl (hq s l (nI n, σ) (by subst en em ec erf esg eHb ehb eHe eaw eCl eRf eSg eVv; simp [qCount, rng_of (show 0 < 9 by decide) (by decide), nI_clamp (show 0 < 2 ^ 31 by decide)]) (show CI σ s from hC))
    · refine J_tblIn (off := 65) 66 dX11_count_1 (by decide) (by decide) (by decide) (by decide) ?_
      refine J_aload_n dX11_count_66 rfl rfl ?_
      refine Cg_0_0 fr_X11_10_10 dX11_count_67 ?_
      refine Cg_1_0 fr_X11_76_1 dX11_count_70 ?_
      refine Cg_2_1 fr_X11_107_4 dX11_count_73 ?_
      refine Cg_4_4 (s := s) fr_X11_188_3 (s 55 0) rfl dX11_count_76 ?_
      refine J_rw (y := nI m) hm ?_
      exact J_iret dX11_count_79 rfl rfl rfl (hq s l (nI m, σ) (by subst en em ec erf esg eHb ehb eHe eaw eCl eRf eSg eVv; simp [qCount, rng_of (show 1 < 9 by decide) (by decide), nI_clamp (show 1 < 2 ^ 31 by decide)]) (show CI σ s from hC))
    · refine J_tblIn (off := 79) 80 dX11_count_1 (by decide) (by decide) (by decide) (by decide) ?_
      refine J_aload_n dX11_count_80 rfl rfl ?_
      refine Cg_0_0 fr_X11_10_10 dX11_count_81 ?_
      refine Cg_1_1 fr_X11_123_1 dX11_count_84 ?_
      refine Cg_5_4 (s := s) fr_X11_297_0 (s 58 0) rfl dX11_count_87 ?_
      refine J_rw (y := nI c) hc ?_
      exact J_iret dX11_count_90 rfl rfl rfl (hq s l (nI c, σ) (by subst en em ec erf esg eHb ehb eHe eaw eCl eRf eSg eVv; simp [qCount, rng_of (show 2 < 9 by decide) (by decide), nI_clamp (show 2 < 2 ^ 31 by decide)]) (show CI σ s from hC))
    · refine J_tblIn (off := 90) 91 dX11_count_1 (by decide) (by decide) (by decide) (by decide) ?_
      refine J_aload_n dX11_count_91 rfl rfl ?_
      refine Cg_0_0 fr_X11_10_10 dX11_count_92 ?_
      refine Cg_1_0 fr_X11_76_1 dX11_count_95 ?_
      refine Cg_2_0 fr_X11_80_4 dX11_count_98 ?_
      refine Cg_3_3 (s := s) fr_X11_298_2 (s 51 0) rfl dX11_count_101 ?_
      exact J_iret dX11_count_104 rfl rfl rfl (hq s l (s 51 0, σ) (by subst en em ec erf esg eHb ehb eHe eaw eCl eRf eSg eVv; simp [qCount, rng_of (show 3 < 9 by decide) (by decide), nI_clamp (show 3 < 2 ^ 31 by decide), show s 51 0 = σ 6 0 from hC.1.1.trans hL.t0.1.symm]) (show CI σ s from hC))
    · refine J_tblIn (off := 104) 105 dX11_count_1 (by decide) (by decide) (by decide) (by decide) ?_
      refine J_aload_n dX11_count_105 rfl rfl ?_
      refine Cg_0_0 fr_X11_10_10 dX11_count_106 ?_
      refine Cg_1_0 fr_X11_76_1 dX11_count_109 ?_
      refine Cg_2_1 fr_X11_107_4 dX11_count_112 ?_
      refine Cg_4_3 (s := s) fr_X11_299_3 (s 54 0) rfl dX11_count_115 ?_
      exact J_iret dX11_count_118 rfl rfl rfl (hq s l (s 54 0, σ) (by subst en em ec erf esg eHb ehb eHe eaw eCl eRf eSg eVv; simp [qCount, rng_of (show 4 < 9 by decide) (by decide), nI_clamp (show 4 < 2 ^ 31 by decide), show s 54 0 = σ 6 1 from hC.2.1.1.trans hL.t1.1.symm]) (show CI σ s from hC))
    · refine J_tblIn (off := 118) 119 dX11_count_1 (by decide) (by decide) (by decide) (by decide) ?_
      refine J_aload_n dX11_count_119 rfl rfl ?_
      refine Cg_0_0 fr_X11_10_10 dX11_count_120 ?_
      refine Cg_1_1 fr_X11_123_1 dX11_count_123 ?_
      refine Cg_5_3 (s := s) fr_X11_300_0 (s 57 0) rfl dX11_count_126 ?_
      exact J_iret dX11_count_129 rfl rfl rfl (hq s l (s 57 0, σ) (by subst en em ec erf esg eHb ehb eHe eaw eCl eRf eSg eVv; simp [qCount, rng_of (show 5 < 9 by decide) (by decide), nI_clamp (show 5 < 2 ^ 31 by decide), show s 57 0 = σ 6 2 from hC.2.2.1.1.trans hL.t2.1.symm]) (show CI σ s from hC))
    · refine J_tblIn (off := 129) 130 dX11_count_1 (by decide) (by decide) (by decide) (by decide) ?_
      refine J_aload_n dX11_count_130 rfl rfl ?_
      refine Cg_0_0 fr_X11_10_10 dX11_count_131 ?_
      refine Cg_1_2 fr_X11_142_1 dX11_count_134 ?_
      refine Cg_6_2 (s := s) fr_X11_151_6 (s 60 0) rfl dX11_count_137 ?_
      refine J_rw (y := nI rf) hrf ?_
      exact J_iret dX11_count_140 rfl rfl rfl (hq s l (nI rf, σ) (by subst en em ec erf esg eHb ehb eHe eaw eCl eRf eSg eVv; simp [qCount, rng_of (show 6 < 9 by decide) (by decide), nI_clamp (show 6 < 2 ^ 31 by decide), hL.rf.1]) (show CI σ s from hC))
    · refine J_tblIn (off := 140) 141 dX11_count_1 (by decide) (by decide) (by decide) (by decide) ?_
      refine J_aload_n dX11_count_141 rfl rfl ?_
      refine Cg_0_2 fr_X11_26_10 dX11_count_142 ?_
      refine Cg_8_3 (s := s) fr_X11_226_8 (s 62 0) rfl dX11_count_145 ?_
      refine J_rw (y := nI sg) hsg ?_
      exact J_iret dX11_count_148 rfl rfl rfl (hq s l (nI sg, σ) (by subst en em ec erf esg eHb ehb eHe eaw eCl eRf eSg eVv; simp [qCount, rng_of (show 7 < 9 by decide) (by decide), nI_clamp (show 7 < 2 ^ 31 by decide), hL.sg.1]) (show CI σ s from hC))
    · refine J_tblIn (off := 148) 149 dX11_count_1 (by decide) (by decide) (by decide) (by decide) ?_
      refine J_aload_n dX11_count_149 rfl rfl ?_
      refine Cg_0_5 (s := s) fr_X11_43_10 (s 50 0) rfl dX11_count_150 ?_
      exact J_iret dX11_count_153 rfl rfl rfl (hq s l (s 50 0, σ) (by subst en em ec erf esg eHb ehb eHe eaw eCl eRf eSg eVv; simp [qCount, rng_of (show 8 < 9 by decide) (by decide), nI_clamp (show 8 < 2 ^ 31 by decide), show s 50 0 = σ 4 0 from hC.lt]) (show CI σ s from hC))
theorem c_X11_count {G : GT} (r : Nat → Nat) (s : St) (l : Nat → Int64) (σ : St) (hL : LI σ) (hC : CI σ s) (w : Int32) : Ct G yX11_count cX11_count 2 (some .int) 0 0 1 [.ref (r 0), .int w] (cW G r s l) (QC G r ((qCount w σ, σ))) := Ct.of rfl (Nat.le_of_ble_eq_true rfl) (j_X11_count r s l σ hL hC w (fun x lx a h1 h2 => ⟨x, lx, by rw [h1], rfl, by rw [← h1]; exact h2⟩))
set_option maxRecDepth 100000 in
set_option maxHeartbeats 1000000 in
theorem j_X11_write {G : GT} (r : Nat → Nat) (s : St) (l : Nat → Int64) (σ : St) (hL : LI σ) (hC : CI σ s) (e w : Int32) {Q : Option Value → va_W → Prop} (hq : ∀ (x : St) (lx : Nat → Int64) (a : Int32 × St), a = (qWrite e w σ, σ) → CI a.2 x → Q (some (.int a.1)) (cW G r x lx)) : J G "write" RX11 cX11_write 4 (some .int) 0 0 5 Q 0 0 0 [(0, .ref (r 0)), (1, .int e), (2, .int w)] [] (cW G r s l) := by
  obtain ⟨n, en⟩ : ∃ z, z = nH σ := ⟨_, rfl⟩
  obtain ⟨m, em⟩ : ∃ z, z = nE σ := ⟨_, rfl⟩
  obtain ⟨c, ec⟩ : ∃ z, z = nC σ := ⟨_, rfl⟩
  obtain ⟨rf, erf⟩ : ∃ z, z = rfn σ := ⟨_, rfl⟩
  obtain ⟨sg, esg⟩ : ∃ z, z = sgn σ := ⟨_, rfl⟩
  obtain ⟨Hb, eHb⟩ : ∃ z, z = HbS σ := ⟨_, rfl⟩
  obtain ⟨hb, ehb⟩ : ∃ z, z = hbS σ := ⟨_, rfl⟩
  obtain ⟨He, eHe⟩ : ∃ z, z = HeS σ := ⟨_, rfl⟩
  obtain ⟨aw, eaw⟩ : ∃ z, z = awS σ := ⟨_, rfl⟩
  obtain ⟨Cl, eCl⟩ : ∃ z, z = ClS σ := ⟨_, rfl⟩
  obtain ⟨Rf, eRf⟩ : ∃ z, z = σ 13 := ⟨_, rfl⟩
  obtain ⟨Sg, eSg⟩ : ∃ z, z = σ 22 := ⟨_, rfl⟩
  obtain ⟨Vv, eVv⟩ : ∃ z, z = σ 16 := ⟨_, rfl⟩
  have hn8 : n ≤ 8 := by rw [en]; exact nH_le _
  have hm6 : m ≤ 6 := by rw [em]; exact nE_le _
  have hc15 : c ≤ 15 := by rw [ec]; exact nC_le _
  have hrf12 : rf ≤ 12 := by rw [erf]; exact hL.rf.2.1
  have hsg8 : sg ≤ 8 := by rw [esg]; exact hL.sg.2.1
  have hk : HbOk n Hb hb := by rw [en, eHb, ehb]; exact hbOk σ
  have ha : AwOk m He aw := by rw [em, eHe, eaw]; exact awOk σ
  have hn : s 52 0 = nI n := by rw [en]; exact hC.n
  have hm : s 55 0 = nI m := by rw [em]; exact hC.m
  have hc : s 58 0 = nI c := by rw [ec]; exact hC.c
  have hrf : s 60 0 = nI rf := by rw [erf]; exact hC.rf
  have hsg : s 62 0 = nI sg := by rw [esg]; exact hC.sg
  have hR : CHr n Hb hb s := by rw [en, eHb, ehb]; exact hC.hR
  have hE : CEr m He aw s := by rw [em, eHe, eaw]; exact hC.hE
  have hCl : CCr c Cl s := by rw [ec, eCl]; exact hC.hCl
  have hRf : CRr rf Rf s := by rw [erf, eRf]; exact hC.hRf hL
  have hSg : CSr sg Sg s := by rw [esg, eSg]; exact hC.hSg hL
  have hV : ∀ j, j < 42 → s 41 j = Vv j := by rw [eVv]; exact hC.hV
  refine J_aload_n dX11_write_0 rfl rfl ?_
  refine Cg_0_0 fr_X11_10_10 dX11_write_1 ?_
  refine Cg_1_0 fr_X11_76_1 dX11_write_4 ?_
  refine Cg_2_1 fr_X11_107_4 dX11_write_7 ?_
  refine J_iload_n dX11_write_10 rfl rfl ?_
  refine J_cUi [.int e] 4 mu_X11_111_3 (c_X5_hasRow1 r s l m hm e) cW_4 rfl rfl (by decide) (Nat.le_of_ble_eq_true rfl) ⟨Nat.le_refl _, Nat.le_refl _⟩ dX11_write_11 ?_
  refine J_if_eqB 25 dX11_write_14 (by decide) (fun kcz1 => ?_) (fun kcz1 => ?_)
  · refine J_bipush (v := -2) dX11_write_25 (by decide) ?_
    exact J_iret dX11_write_27 rfl rfl rfl (hq s l ((-2), σ) (by subst en em ec erf esg eHb ehb eHe eaw eCl eRf eSg eVv; simp [qWrite, kcz1]) (show CI σ s from hC))
  · obtain ⟨E9, hE9, rfl⟩ := (rng_iff (by omega)).mp kcz1
    have eE9 : (nI E9).toNatClampNeg = E9 := nI_clamp (by omega)
    refine J_iload_n dX11_write_17 rfl rfl ?_
    refine J_iconst (v := nI 2) dX11_write_18 (by decide) ?_
    refine J_cSi [.int w, .int (nI 2)] ms_X11_48 (c_X11_isBelowN (cW G r s l) w 2) rfl rfl (by decide) (Nat.le_of_ble_eq_true rfl) ⟨Nat.le_refl _, Nat.le_refl _⟩ dX11_write_19 ?_
    refine J_if_neB 28 dX11_write_22 (by decide) (fun kcz2 => ?_) (fun kcz2 => ?_)
    · obtain ⟨Wn, hWn, rfl⟩ := (rng_iff (by omega)).mp kcz2
      have eWn : (nI Wn).toNatClampNeg = Wn := nI_clamp (by omega)
      rcases (show Wn = 0 ∨ Wn = 1 by omega) with rfl | rfl
      · refine J_aload_n dX11_write_28 rfl rfl ?_
        refine Cg_0_0 fr_X11_10_10 dX11_write_29 ?_
        refine J_iload_n dX11_write_32 rfl rfl ?_
        refine J_callV (wr := []) (As := [.int (nI E9)]) (st := []) 1 mv_X11_211 (c_X1_fewestRefusals r s l n hn hn8 Hb hb hR hk m hm hm6 He aw hE ha c hc hc15 Cl hCl rf hrf hrf12 Rf hRf E9 (by omega)) cW_1 rfl rfl rfl (by decide) (Nat.le_of_ble_eq_true rfl) ⟨Nat.le_refl _, Nat.le_refl _⟩ dX11_write_33 (fun v_ w_ h_ => ?_)
        obtain ⟨z39, z40, z61, rfl, rfl⟩ := h_
        show J G "write" RX11 cX11_write 4 (some .int) 0 0 5 Q 0 0 36 [(0, .ref (r 0)), (1, .int (nI E9)), (2, .int (nI 0))] [.int (wrF n m c Hb He Cl rf Rf E9 (2 ^ n))] (cW G r (su 61 (su 40 (su 39 s z39) z40) z61) l)
        refine J_istore_n [(0, .ref (r 0)), (1, .int (nI E9)), (2, .int (nI 0)), (3, .int (wrF n m c Hb He Cl rf Rf E9 (2 ^ n)))] dX11_write_36 rfl (by decide) rfl rfl rfl ?_
        refine J_iload_n dX11_write_37 rfl rfl ?_
        refine J_iconst (v := nI 1) dX11_write_38 (by decide) ?_
        refine J_icmp_eq 47 dX11_write_39 (by decide) (fun c => absurd c (by decide)) (fun _ => ?_)
        refine J_iload_n dX11_write_42 rfl rfl ?_
        refine J_iconst (v := -1) dX11_write_43 (by decide) ?_
        refine J_icmp_ne 51 dX11_write_44 (by decide) (fun kcz3 => ?_) (fun kcz3 => ?_)
        · refine J_iload_n dX11_write_51 rfl rfl ?_
          obtain ⟨j9, hj9, ej9⟩ := (wrF_256 (m := m) (c := c) (Hb := Hb) (He := He) (Cl := Cl) (rf := rf) (Rf := Rf) (q := E9) hn8).resolve_left kcz3
          have ec9 : (nI j9).toNatClampNeg = j9 := nI_clamp (by omega)
          have hn9 : ¬ nI j9 = (-1 : Int32) := fun q => m1_ne (by omega) q.symm
          refine J_rw (y := nI j9) ej9 ?_
          refine J_cSi [.int (nI j9)] ms_X11_192 (c_J6_bitCount_0f7a4 (cW G r (su 61 (su 40 (su 39 s z39) z40) z61) l) j9 (by omega)) rfl rfl (by decide) (Nat.le_of_ble_eq_true rfl) ⟨Nat.le_refl _, Nat.le_refl _⟩ dX11_write_52 ?_
          exact J_iret dX11_write_55 rfl rfl rfl (hq (su 61 (su 40 (su 39 s z39) z40) z61) l (nI (popc j9), σ) (by subst en em ec erf esg eHb ehb eHe eaw eCl eRf eSg eVv; simp [qWrite, wrS, tlM, rng_of (show 0 < 2 by decide) (by decide), nI_clamp (show 0 < 2 ^ 31 by decide), kcz1, eE9, kcz2, eWn, kcz3, ej9, ec9, hn9]) (show CI σ (su 61 (su 40 (su 39 s z39) z40) z61) from hC))
        · refine J_iload_n dX11_write_47 rfl rfl ?_
          refine J_goto 55 dX11_write_48 (by decide) ?_
          exact J_iret dX11_write_55 rfl rfl rfl (hq (su 61 (su 40 (su 39 s z39) z40) z61) l (wrF n m c Hb He Cl rf Rf E9 (2 ^ n), σ) (by subst en em ec erf esg eHb ehb eHe eaw eCl eRf eSg eVv; simp [qWrite, wrS, tlM, rng_of (show 0 < 2 by decide) (by decide), nI_clamp (show 0 < 2 ^ 31 by decide), kcz1, eE9, kcz2, eWn, kcz3]) (show CI σ (su 61 (su 40 (su 39 s z39) z40) z61) from hC))
      · refine J_aload_n dX11_write_28 rfl rfl ?_
        refine Cg_0_0 fr_X11_10_10 dX11_write_29 ?_
        refine J_iload_n dX11_write_32 rfl rfl ?_
        refine J_callV (wr := []) (As := [.int (nI E9)]) (st := []) 1 mv_X11_211 (c_X1_fewestRefusals r s l n hn hn8 Hb hb hR hk m hm hm6 He aw hE ha c hc hc15 Cl hCl rf hrf hrf12 Rf hRf E9 (by omega)) cW_1 rfl rfl rfl (by decide) (Nat.le_of_ble_eq_true rfl) ⟨Nat.le_refl _, Nat.le_refl _⟩ dX11_write_33 (fun v_ w_ h_ => ?_)
        obtain ⟨z39, z40, z61, rfl, rfl⟩ := h_
        show J G "write" RX11 cX11_write 4 (some .int) 0 0 5 Q 0 0 36 [(0, .ref (r 0)), (1, .int (nI E9)), (2, .int (nI 1))] [.int (wrF n m c Hb He Cl rf Rf E9 (2 ^ n))] (cW G r (su 61 (su 40 (su 39 s z39) z40) z61) l)
        refine J_istore_n [(0, .ref (r 0)), (1, .int (nI E9)), (2, .int (nI 1)), (3, .int (wrF n m c Hb He Cl rf Rf E9 (2 ^ n)))] dX11_write_36 rfl (by decide) rfl rfl rfl ?_
        refine J_iload_n dX11_write_37 rfl rfl ?_
        refine J_iconst (v := nI 1) dX11_write_38 (by decide) ?_
        refine J_icmp_eq 47 dX11_write_39 (by decide) (fun _ => ?_) (fun c => absurd c (by decide))
        refine J_iload_n dX11_write_47 rfl rfl ?_
        refine J_goto 55 dX11_write_48 (by decide) ?_
        exact J_iret dX11_write_55 rfl rfl rfl (hq (su 61 (su 40 (su 39 s z39) z40) z61) l (wrF n m c Hb He Cl rf Rf E9 (2 ^ n), σ) (by subst en em ec erf esg eHb ehb eHe eaw eCl eRf eSg eVv; simp [qWrite, wrS, tlM, rng_of (show 1 < 2 by decide) (by decide), nI_clamp (show 1 < 2 ^ 31 by decide), kcz1, eE9, kcz2, eWn]) (show CI σ (su 61 (su 40 (su 39 s z39) z40) z61) from hC))
    · refine J_bipush (v := -2) dX11_write_25 (by decide) ?_
      exact J_iret dX11_write_27 rfl rfl rfl (hq s l ((-2), σ) (by subst en em ec erf esg eHb ehb eHe eaw eCl eRf eSg eVv; simp [qWrite, kcz1, eE9, kcz2]) (show CI σ s from hC))
theorem c_X11_write {G : GT} (r : Nat → Nat) (s : St) (l : Nat → Int64) (σ : St) (hL : LI σ) (hC : CI σ s) (e w : Int32) : Ct G yX11_write cX11_write 4 (some .int) 0 0 5 [.ref (r 0), .int e, .int w] (cW G r s l) (QC G r ((qWrite e w σ, σ))) := Ct.of rfl (Nat.le_of_ble_eq_true rfl) (j_X11_write r s l σ hL hC e w (fun x lx a h1 h2 => ⟨x, lx, by rw [h1], rfl, by rw [← h1]; exact h2⟩))
set_option maxRecDepth 100000 in
set_option maxHeartbeats 1000000 in
theorem j_X11_part {G : GT} (r : Nat → Nat) (s : St) (l : Nat → Int64) (σ : St) (hL : LI σ) (hC : CI σ s) (p q w : Int32) {Q : Option Value → va_W → Prop} (hq : ∀ (x : St) (lx : Nat → Int64) (a : Int32 × St), a = (qPart p q w σ, σ) → CI a.2 x → Q (some (.int a.1)) (cW G r x lx)) : J G "part" RX11 cX11_part 5 (some .int) 0 0 3 Q 0 0 0 [(0, .ref (r 0)), (1, .int p), (2, .int q), (3, .int w)] [] (cW G r s l) := by
  obtain ⟨n, en⟩ : ∃ z, z = nH σ := ⟨_, rfl⟩
  obtain ⟨m, em⟩ : ∃ z, z = nE σ := ⟨_, rfl⟩
  obtain ⟨c, ec⟩ : ∃ z, z = nC σ := ⟨_, rfl⟩
  obtain ⟨rf, erf⟩ : ∃ z, z = rfn σ := ⟨_, rfl⟩
  obtain ⟨sg, esg⟩ : ∃ z, z = sgn σ := ⟨_, rfl⟩
  obtain ⟨Hb, eHb⟩ : ∃ z, z = HbS σ := ⟨_, rfl⟩
  obtain ⟨hb, ehb⟩ : ∃ z, z = hbS σ := ⟨_, rfl⟩
  obtain ⟨He, eHe⟩ : ∃ z, z = HeS σ := ⟨_, rfl⟩
  obtain ⟨aw, eaw⟩ : ∃ z, z = awS σ := ⟨_, rfl⟩
  obtain ⟨Cl, eCl⟩ : ∃ z, z = ClS σ := ⟨_, rfl⟩
  obtain ⟨Rf, eRf⟩ : ∃ z, z = σ 13 := ⟨_, rfl⟩
  obtain ⟨Sg, eSg⟩ : ∃ z, z = σ 22 := ⟨_, rfl⟩
  obtain ⟨Vv, eVv⟩ : ∃ z, z = σ 16 := ⟨_, rfl⟩
  have hn8 : n ≤ 8 := by rw [en]; exact nH_le _
  have hm6 : m ≤ 6 := by rw [em]; exact nE_le _
  have hc15 : c ≤ 15 := by rw [ec]; exact nC_le _
  have hrf12 : rf ≤ 12 := by rw [erf]; exact hL.rf.2.1
  have hsg8 : sg ≤ 8 := by rw [esg]; exact hL.sg.2.1
  have hk : HbOk n Hb hb := by rw [en, eHb, ehb]; exact hbOk σ
  have ha : AwOk m He aw := by rw [em, eHe, eaw]; exact awOk σ
  have hn : s 52 0 = nI n := by rw [en]; exact hC.n
  have hm : s 55 0 = nI m := by rw [em]; exact hC.m
  have hc : s 58 0 = nI c := by rw [ec]; exact hC.c
  have hrf : s 60 0 = nI rf := by rw [erf]; exact hC.rf
  have hsg : s 62 0 = nI sg := by rw [esg]; exact hC.sg
  have hR : CHr n Hb hb s := by rw [en, eHb, ehb]; exact hC.hR
  have hE : CEr m He aw s := by rw [em, eHe, eaw]; exact hC.hE
  have hCl : CCr c Cl s := by rw [ec, eCl]; exact hC.hCl
  have hRf : CRr rf Rf s := by rw [erf, eRf]; exact hC.hRf hL
  have hSg : CSr sg Sg s := by rw [esg, eSg]; exact hC.hSg hL
  have hV : ∀ j, j < 42 → s 41 j = Vv j := by rw [eVv]; exact hC.hV
  refine J_iload_n dX11_part_0 rfl rfl ?_
  refine J_bipush (v := nI 6) dX11_part_1 (by decide) ?_
  refine J_cSi [.int p, .int (nI 6)] ms_X11_48 (c_X11_isBelowN (cW G r s l) p 6) rfl rfl (by decide) (Nat.le_of_ble_eq_true rfl) ⟨Nat.le_refl _, Nat.le_refl _⟩ dX11_part_3 ?_
  refine J_if_eqB 31 dX11_part_6 (by decide) (fun kcz1 => ?_) (fun kcz1 => ?_)
  · refine J_bipush (v := -2) dX11_part_31 (by decide) ?_
    exact J_iret dX11_part_33 rfl rfl rfl (hq s l ((-2), σ) (by subst en em ec erf esg eHb ehb eHe eaw eCl eRf eSg eVv; simp [qPart, kcz1]) (show CI σ s from hC))
  · obtain ⟨A9, hA9, rfl⟩ := (rng_iff (by omega)).mp kcz1
    have eA9 : (nI A9).toNatClampNeg = A9 := nI_clamp (by omega)
    refine J_iload_n dX11_part_9 rfl rfl ?_
    refine J_bipush (v := nI 6) dX11_part_10 (by decide) ?_
    refine J_cSi [.int q, .int (nI 6)] ms_X11_48 (c_X11_isBelowN (cW G r s l) q 6) rfl rfl (by decide) (Nat.le_of_ble_eq_true rfl) ⟨Nat.le_refl _, Nat.le_refl _⟩ dX11_part_12 ?_
    refine J_if_eqB 31 dX11_part_15 (by decide) (fun kcz2 => ?_) (fun kcz2 => ?_)
    · refine J_bipush (v := -2) dX11_part_31 (by decide) ?_
      exact J_iret dX11_part_33 rfl rfl rfl (hq s l ((-2), σ) (by subst en em ec erf esg eHb ehb eHe eaw eCl eRf eSg eVv; simp [qPart, kcz1, eA9, kcz2]) (show CI σ s from hC))
    · obtain ⟨B9, hB9, rfl⟩ := (rng_iff (by omega)).mp kcz2
      have eB9 : (nI B9).toNatClampNeg = B9 := nI_clamp (by omega)
      refine J_iload_n dX11_part_18 rfl rfl ?_
      refine J_iload_n dX11_part_19 rfl rfl ?_
      refine J_icmp_eqN 31 (by omega) (by omega) dX11_part_20 (by decide) (fun kcz3 => ?_) (fun kcz3 => ?_)
      · refine J_bipush (v := -2) dX11_part_31 (by decide) ?_
        exact J_iret dX11_part_33 rfl rfl rfl (hq s l ((-2), σ) (by subst en em ec erf esg eHb ehb eHe eaw eCl eRf eSg eVv; simp [qPart, kcz1, eA9, kcz2, eB9, kcz3]) (show CI σ s from hC))
      · refine J_iload_n dX11_part_23 rfl rfl ?_
        refine J_iconst (v := nI 2) dX11_part_24 (by decide) ?_
        refine J_cSi [.int w, .int (nI 2)] ms_X11_48 (c_X11_isBelowN (cW G r s l) w 2) rfl rfl (by decide) (Nat.le_of_ble_eq_true rfl) ⟨Nat.le_refl _, Nat.le_refl _⟩ dX11_part_25 ?_
        refine J_if_neB 34 dX11_part_28 (by decide) (fun kcz4 => ?_) (fun kcz4 => ?_)
        · obtain ⟨Wn, hWn, rfl⟩ := (rng_iff (by omega)).mp kcz4
          have eWn : (nI Wn).toNatClampNeg = Wn := nI_clamp (by omega)
          rcases (show Wn = 0 ∨ Wn = 1 by omega) with rfl | rfl
          · refine J_aload_n dX11_part_34 rfl rfl ?_
            refine Cg_0_1 fr_X11_19_10 dX11_part_35 ?_
            refine J_iload_n dX11_part_38 rfl rfl ?_
            refine J_iload_n dX11_part_39 rfl rfl ?_
            refine J_cVi (x := yX12_in) [.int (nI A9), .int (nI B9)] 7 mv_X11_214 (c_X10_divide r s l Vv hV A9 B9 (by omega) (by omega)) cW_7 rfl rfl (by decide) (Nat.le_of_ble_eq_true rfl) ⟨Nat.le_refl _, Nat.le_refl _⟩ dX11_part_40 ?_
            refine J_istore [(0, .ref (r 0)), (1, .int (nI A9)), (2, .int (nI B9)), (3, .int (nI 0)), (4, .int ((prF Vv A9 B9 128).1))] dX11_part_43 (by decide) rfl rfl rfl ?_
            refine J_iload_n dX11_part_45 rfl rfl ?_
            refine J_if_eq 55 dX11_part_46 (by decide) (fun _ => ?_) (fun c => absurd c (by decide))
            refine J_iload dX11_part_55 rfl ?_
            refine J_goto 71 dX11_part_57 (by decide) ?_
            exact J_iret dX11_part_71 rfl rfl rfl (hq s l ((prF Vv A9 B9 128).1, σ) (by subst en em ec erf esg eHb ehb eHe eaw eCl eRf eSg eVv; simp [qPart, prS, nI_eq (show A9 < 2 ^ 31 by omega) (show B9 < 2 ^ 31 by omega), rng_of (show 0 < 2 by decide) (by decide), nI_clamp (show 0 < 2 ^ 31 by decide), kcz1, eA9, kcz2, eB9, kcz3, kcz4, eWn]) (show CI σ s from hC))
          · refine J_aload_n dX11_part_34 rfl rfl ?_
            refine Cg_0_1 fr_X11_19_10 dX11_part_35 ?_
            refine J_iload_n dX11_part_38 rfl rfl ?_
            refine J_iload_n dX11_part_39 rfl rfl ?_
            refine J_cVi (x := yX12_in) [.int (nI A9), .int (nI B9)] 7 mv_X11_214 (c_X10_divide r s l Vv hV A9 B9 (by omega) (by omega)) cW_7 rfl rfl (by decide) (Nat.le_of_ble_eq_true rfl) ⟨Nat.le_refl _, Nat.le_refl _⟩ dX11_part_40 ?_
            refine J_istore [(0, .ref (r 0)), (1, .int (nI A9)), (2, .int (nI B9)), (3, .int (nI 1)), (4, .int ((prF Vv A9 B9 128).1))] dX11_part_43 (by decide) rfl rfl rfl ?_
            refine J_iload_n dX11_part_45 rfl rfl ?_
            refine J_if_eq 55 dX11_part_46 (by decide) (fun c => absurd c (by decide)) (fun _ => ?_)
            refine J_iload dX11_part_49 rfl ?_
            refine J_iconst (v := -1) dX11_part_51 (by decide) ?_
            refine J_icmp_ne 60 dX11_part_52 (by decide) (fun kcz5 => ?_) (fun kcz5 => ?_)
            · obtain ⟨d9, hd9, ed9, em9⟩ := (prF_inv Vv A9 B9 128).resolve_left (fun q => kcz5 q.1)
              rw [ed9]
              refine J_aload_n dX11_part_60 rfl rfl ?_
              refine Cg_0_1 fr_X11_19_10 dX11_part_61 ?_
              refine J_iload_n dX11_part_64 rfl rfl ?_
              refine J_iload_n dX11_part_65 rfl rfl ?_
              refine J_iload dX11_part_66 rfl ?_
              refine J_cVi (x := yX12_in) [.int (nI A9), .int (nI B9), .int (nI d9)] 7 mv_X11_217 (c_X10_bothHave r s l Vv hV A9 B9 d9 (by omega) (by omega) (by omega)) cW_7 rfl rfl (by decide) (Nat.le_of_ble_eq_true rfl) ⟨Nat.le_refl _, Nat.le_refl _⟩ dX11_part_68 ?_
              exact J_iret dX11_part_71 rfl rfl rfl (hq s l (valM Vv A9 d9 + valM Vv B9 (127 - d9), σ) (by subst en em ec erf esg eHb ehb eHe eaw eCl eRf eSg eVv; simp [qPart, prS, em9, nI_eq (show A9 < 2 ^ 31 by omega) (show B9 < 2 ^ 31 by omega), rng_of (show 1 < 2 by decide) (by decide), nI_clamp (show 1 < 2 ^ 31 by decide), kcz1, eA9, kcz2, eB9, kcz3, kcz4, eWn]) (show CI σ s from hC))
            · refine J_iload dX11_part_55 rfl ?_
              refine J_goto 71 dX11_part_57 (by decide) ?_
              exact J_iret dX11_part_71 rfl rfl rfl (hq s l ((prF Vv A9 B9 128).1, σ) (by subst en em ec erf esg eHb ehb eHe eaw eCl eRf eSg eVv; have e9 := prF_no (V := σ 16) kcz5; simp [qPart, prS, e9, nI_eq (show A9 < 2 ^ 31 by omega) (show B9 < 2 ^ 31 by omega), rng_of (show 1 < 2 by decide) (by decide), nI_clamp (show 1 < 2 ^ 31 by decide), kcz1, eA9, kcz2, eB9, kcz3, kcz4, eWn, kcz5]) (show CI σ s from hC))
        · refine J_bipush (v := -2) dX11_part_31 (by decide) ?_
          exact J_iret dX11_part_33 rfl rfl rfl (hq s l ((-2), σ) (by subst en em ec erf esg eHb ehb eHe eaw eCl eRf eSg eVv; simp [qPart, kcz1, eA9, kcz2, eB9, kcz3, kcz4]) (show CI σ s from hC))
theorem c_X11_part {G : GT} (r : Nat → Nat) (s : St) (l : Nat → Int64) (σ : St) (hL : LI σ) (hC : CI σ s) (p q w : Int32) : Ct G yX11_part cX11_part 5 (some .int) 0 0 3 [.ref (r 0), .int p, .int q, .int w] (cW G r s l) (QC G r ((qPart p q w σ, σ))) := Ct.of rfl (Nat.le_of_ble_eq_true rfl) (j_X11_part r s l σ hL hC p q w (fun x lx a h1 h2 => ⟨x, lx, by rw [h1], rfl, by rw [← h1]; exact h2⟩))
set_option maxRecDepth 100000 in
set_option maxHeartbeats 1000000 in
theorem j_X11_refuse {G : GT} (r : Nat → Nat) (s : St) (l : Nat → Int64) (σ : St) (hL : LI σ) (hC : CI σ s) (e h : Int32) {Q : Option Value → va_W → Prop} (hq : ∀ (x : St) (lx : Nat → Int64) (a : Int32 × St), a = oRefuse e h σ → CI a.2 x → Q (some (.int a.1)) (cW G r x lx)) : J G "refuse" RX11 cX11_refuse 3 (some .int) 0 0 2 Q 0 0 0 [(0, .ref (r 0)), (1, .int e), (2, .int h)] [] (cW G r s l) := by
  obtain ⟨n, en⟩ : ∃ z, z = nH σ := ⟨_, rfl⟩
  obtain ⟨m, em⟩ : ∃ z, z = nE σ := ⟨_, rfl⟩
  obtain ⟨c, ec⟩ : ∃ z, z = nC σ := ⟨_, rfl⟩
  obtain ⟨rf, erf⟩ : ∃ z, z = rfn σ := ⟨_, rfl⟩
  obtain ⟨sg, esg⟩ : ∃ z, z = sgn σ := ⟨_, rfl⟩
  obtain ⟨Hb, eHb⟩ : ∃ z, z = HbS σ := ⟨_, rfl⟩
  obtain ⟨hb, ehb⟩ : ∃ z, z = hbS σ := ⟨_, rfl⟩
  obtain ⟨He, eHe⟩ : ∃ z, z = HeS σ := ⟨_, rfl⟩
  obtain ⟨aw, eaw⟩ : ∃ z, z = awS σ := ⟨_, rfl⟩
  obtain ⟨Cl, eCl⟩ : ∃ z, z = ClS σ := ⟨_, rfl⟩
  obtain ⟨Rf, eRf⟩ : ∃ z, z = σ 13 := ⟨_, rfl⟩
  obtain ⟨Sg, eSg⟩ : ∃ z, z = σ 22 := ⟨_, rfl⟩
  obtain ⟨Vv, eVv⟩ : ∃ z, z = σ 16 := ⟨_, rfl⟩
  have hn8 : n ≤ 8 := by rw [en]; exact nH_le _
  have hm6 : m ≤ 6 := by rw [em]; exact nE_le _
  have hc15 : c ≤ 15 := by rw [ec]; exact nC_le _
  have hrf12 : rf ≤ 12 := by rw [erf]; exact hL.rf.2.1
  have hsg8 : sg ≤ 8 := by rw [esg]; exact hL.sg.2.1
  have hk : HbOk n Hb hb := by rw [en, eHb, ehb]; exact hbOk σ
  have ha : AwOk m He aw := by rw [em, eHe, eaw]; exact awOk σ
  have hn : s 52 0 = nI n := by rw [en]; exact hC.n
  have hm : s 55 0 = nI m := by rw [em]; exact hC.m
  have hc : s 58 0 = nI c := by rw [ec]; exact hC.c
  have hrf : s 60 0 = nI rf := by rw [erf]; exact hC.rf
  have hsg : s 62 0 = nI sg := by rw [esg]; exact hC.sg
  have hR : CHr n Hb hb s := by rw [en, eHb, ehb]; exact hC.hR
  have hE : CEr m He aw s := by rw [em, eHe, eaw]; exact hC.hE
  have hCl : CCr c Cl s := by rw [ec, eCl]; exact hC.hCl
  have hRf : CRr rf Rf s := by rw [erf, eRf]; exact hC.hRf hL
  have hSg : CSr sg Sg s := by rw [esg, eSg]; exact hC.hSg hL
  have hV : ∀ j, j < 42 → s 41 j = Vv j := by rw [eVv]; exact hC.hV
  refine J_iload_n dX11_refuse_0 rfl rfl ?_
  refine J_bipush (v := nI 6) dX11_refuse_1 (by decide) ?_
  refine J_cSi [.int e, .int (nI 6)] ms_X11_48 (c_X11_isBelowN (cW G r s l) e 6) rfl rfl (by decide) (Nat.le_of_ble_eq_true rfl) ⟨Nat.le_refl _, Nat.le_refl _⟩ dX11_refuse_3 ?_
  refine J_if_eqB 18 dX11_refuse_6 (by decide) (fun kcz1 => ?_) (fun kcz1 => ?_)
  · refine J_bipush (v := -2) dX11_refuse_18 (by decide) ?_
    exact J_iret dX11_refuse_20 rfl rfl rfl (hq s l ((-2), σ) (by subst en em ec erf esg eHb ehb eHe eaw eCl eRf eSg eVv; simp [oRefuse, kcz1]) hC)
  · obtain ⟨E9, hE9, rfl⟩ := (rng_iff (by omega)).mp kcz1
    have eE9 : (nI E9).toNatClampNeg = E9 := nI_clamp (by omega)
    refine J_iload_n dX11_refuse_9 rfl rfl ?_
    refine J_bipush (v := nI 8) dX11_refuse_10 (by decide) ?_
    refine J_cSi [.int h, .int (nI 8)] ms_X11_48 (c_X11_isBelowN (cW G r s l) h 8) rfl rfl (by decide) (Nat.le_of_ble_eq_true rfl) ⟨Nat.le_refl _, Nat.le_refl _⟩ dX11_refuse_12 ?_
    refine J_if_neB 21 dX11_refuse_15 (by decide) (fun kcz2 => ?_) (fun kcz2 => ?_)
    · obtain ⟨H9, hH9, rfl⟩ := (rng_iff (by omega)).mp kcz2
      have eH9 : (nI H9).toNatClampNeg = H9 := nI_clamp (by omega)
      refine J_aload_n dX11_refuse_21 rfl rfl ?_
      refine Cg_0_0 fr_X11_10_10 dX11_refuse_22 ?_
      refine Cg_1_2 fr_X11_142_1 dX11_refuse_25 ?_
      refine J_iload_n dX11_refuse_28 rfl rfl ?_
      refine J_iload_n dX11_refuse_29 rfl rfl ?_
      by_cases ksz3 : rf = 12
      · refine J_cVi (x := yX12_in) [.int (nI E9), .int (nI H9)] 6 mv_X11_146 (c_X7_add_full r s l rf hrf ksz3 (nI E9) (nI H9)) cW_6 rfl rfl (by decide) (Nat.le_of_ble_eq_true rfl) ⟨Nat.le_refl _, Nat.le_refl _⟩ dX11_refuse_30 ?_
        refine J_if_eq 49 dX11_refuse_33 (by decide) (fun _ => ?_) (fun c => absurd c (by decide))
        refine J_bipush (v := -4) dX11_refuse_49 (by decide) ?_
        exact J_iret dX11_refuse_51 rfl rfl rfl (hq s l ((-4), σ) (by subst en em ec erf esg eHb ehb eHe eaw eCl eRf eSg eVv; simp [oRefuse, kcz1, eE9, kcz2, eH9, ksz3]) hC)
      · refine J_cVi (x := yX12_in) [.int (nI E9), .int (nI H9)] 6 mv_X11_146 (c_X7_add r s l rf hrf (by omega) (nI E9) (nI H9)) cW_6 rfl rfl (by decide) (Nat.le_of_ble_eq_true rfl) ⟨Nat.le_refl _, Nat.le_refl _⟩ dX11_refuse_30 ?_
        show J G "refuse" RX11 cX11_refuse 3 (some .int) 0 0 2 Q 0 0 33 [(0, .ref (r 0)), (1, .int (nI E9)), (2, .int (nI H9))] [.int (bI true)] (cW G r (su 60 (su 38 (su 37 s (upd (s 37) rf (nI E9))) (upd (s 38) rf (nI H9))) (fun _ => nI (rf + 1))) l)
        refine J_if_eq 49 dX11_refuse_33 (by decide) (fun c => absurd c (by decide)) (fun _ => ?_)
        refine J_aload_n dX11_refuse_36 rfl rfl ?_
        refine Cg_0_0 fr_X11_10_10 dX11_refuse_37 ?_
        refine Cg_1_2 fr_X11_142_1 dX11_refuse_40 ?_
        refine Cg_6_2 (s := (su 60 (su 38 (su 37 s (upd (s 37) rf (nI E9))) (upd (s 38) rf (nI H9))) (fun _ => nI (rf + 1)))) fr_X11_151_6 (nI (rf + 1)) rfl dX11_refuse_43 ?_
        refine J_goto 51 dX11_refuse_46 (by decide) ?_
        exact J_iret dX11_refuse_51 rfl rfl rfl (hq (su 60 (su 38 (su 37 s (upd (s 37) rf (nI E9))) (upd (s 38) rf (nI H9))) (fun _ => nI (rf + 1))) l (nI (rf + 1), (su 13 (su 12 σ (fun _ => nI (rfn σ + 1))) (upd (upd (σ 13) (2 * rfn σ) (nI E9)) (2 * rfn σ + 1) (nI H9)))) (by subst en em ec erf esg eHb ehb eHe eaw eCl eRf eSg eVv; simp [oRefuse, kcz1, eE9, kcz2, eH9, ksz3]) (by subst en em ec erf esg eHb ehb eHe eaw eCl eRf eSg eVv; exact ci_refuse hC hL ksz3))
    · refine J_bipush (v := -2) dX11_refuse_18 (by decide) ?_
      exact J_iret dX11_refuse_20 rfl rfl rfl (hq s l ((-2), σ) (by subst en em ec erf esg eHb ehb eHe eaw eCl eRf eSg eVv; simp [oRefuse, kcz1, eE9, kcz2]) hC)
theorem c_X11_refuse {G : GT} (r : Nat → Nat) (s : St) (l : Nat → Int64) (σ : St) (hL : LI σ) (hC : CI σ s) (e h : Int32) : Ct G yX11_refuse cX11_refuse 3 (some .int) 0 0 2 [.ref (r 0), .int e, .int h] (cW G r s l) (QC G r (oRefuse e h σ)) := Ct.of rfl (Nat.le_of_ble_eq_true rfl) (j_X11_refuse r s l σ hL hC e h (fun x lx a h1 h2 => ⟨x, lx, by rw [h1], rfl, by rw [← h1]; exact h2⟩))
set_option maxRecDepth 100000 in
set_option maxHeartbeats 1000000 in
theorem j_X11_back {G : GT} (r : Nat → Nat) (s : St) (l : Nat → Int64) (σ : St) (hL : LI σ) (hC : CI σ s) {Q : Option Value → va_W → Prop} (hq : ∀ (x : St) (lx : Nat → Int64) (a : Int32 × St), a = oBack σ → CI a.2 x → Q (some (.int a.1)) (cW G r x lx)) : J G "back" RX11 cX11_back 1 (some .int) 0 0 1 Q 0 0 0 [(0, .ref (r 0))] [] (cW G r s l) := by
  obtain ⟨n, en⟩ : ∃ z, z = nH σ := ⟨_, rfl⟩
  obtain ⟨m, em⟩ : ∃ z, z = nE σ := ⟨_, rfl⟩
  obtain ⟨c, ec⟩ : ∃ z, z = nC σ := ⟨_, rfl⟩
  obtain ⟨rf, erf⟩ : ∃ z, z = rfn σ := ⟨_, rfl⟩
  obtain ⟨sg, esg⟩ : ∃ z, z = sgn σ := ⟨_, rfl⟩
  obtain ⟨Hb, eHb⟩ : ∃ z, z = HbS σ := ⟨_, rfl⟩
  obtain ⟨hb, ehb⟩ : ∃ z, z = hbS σ := ⟨_, rfl⟩
  obtain ⟨He, eHe⟩ : ∃ z, z = HeS σ := ⟨_, rfl⟩
  obtain ⟨aw, eaw⟩ : ∃ z, z = awS σ := ⟨_, rfl⟩
  obtain ⟨Cl, eCl⟩ : ∃ z, z = ClS σ := ⟨_, rfl⟩
  obtain ⟨Rf, eRf⟩ : ∃ z, z = σ 13 := ⟨_, rfl⟩
  obtain ⟨Sg, eSg⟩ : ∃ z, z = σ 22 := ⟨_, rfl⟩
  obtain ⟨Vv, eVv⟩ : ∃ z, z = σ 16 := ⟨_, rfl⟩
  have hn8 : n ≤ 8 := by rw [en]; exact nH_le _
  have hm6 : m ≤ 6 := by rw [em]; exact nE_le _
  have hc15 : c ≤ 15 := by rw [ec]; exact nC_le _
  have hrf12 : rf ≤ 12 := by rw [erf]; exact hL.rf.2.1
  have hsg8 : sg ≤ 8 := by rw [esg]; exact hL.sg.2.1
  have hk : HbOk n Hb hb := by rw [en, eHb, ehb]; exact hbOk σ
  have ha : AwOk m He aw := by rw [em, eHe, eaw]; exact awOk σ
  have hn : s 52 0 = nI n := by rw [en]; exact hC.n
  have hm : s 55 0 = nI m := by rw [em]; exact hC.m
  have hc : s 58 0 = nI c := by rw [ec]; exact hC.c
  have hrf : s 60 0 = nI rf := by rw [erf]; exact hC.rf
  have hsg : s 62 0 = nI sg := by rw [esg]; exact hC.sg
  have hR : CHr n Hb hb s := by rw [en, eHb, ehb]; exact hC.hR
  have hE : CEr m He aw s := by rw [em, eHe, eaw]; exact hC.hE
  have hCl : CCr c Cl s := by rw [ec, eCl]; exact hC.hCl
  have hRf : CRr rf Rf s := by rw [erf, eRf]; exact hC.hRf hL
  have hSg : CSr sg Sg s := by rw [esg, eSg]; exact hC.hSg hL
  have hV : ∀ j, j < 42 → s 41 j = Vv j := by rw [eVv]; exact hC.hV
  refine J_aload_n dX11_back_0 rfl rfl ?_
  refine Cg_0_0 fr_X11_10_10 dX11_back_1 ?_
  refine Cg_1_2 fr_X11_142_1 dX11_back_4 ?_
  by_cases ksz1 : rf = 0
  · refine J_cVi (x := yX12_in) [] 6 mv_X11_154 (c_X7_dropLast_none r s l rf hrf ksz1) cW_6 rfl rfl (by decide) (Nat.le_of_ble_eq_true rfl) ⟨Nat.le_refl _, Nat.le_refl _⟩ dX11_back_7 ?_
    refine J_if_eq 26 dX11_back_10 (by decide) (fun _ => ?_) (fun c => absurd c (by decide))
    refine J_bipush (v := -3) dX11_back_26 (by decide) ?_
    exact J_iret dX11_back_28 rfl rfl rfl (hq s l ((-3), σ) (by subst en em ec erf esg eHb ehb eHe eaw eCl eRf eSg eVv; simp [oBack, ksz1]) hC)
  · refine J_cVi (x := yX12_in) [] 6 mv_X11_154 (c_X7_dropLast r s l rf hrf (by omega) hrf12) cW_6 rfl rfl (by decide) (Nat.le_of_ble_eq_true rfl) ⟨Nat.le_refl _, Nat.le_refl _⟩ dX11_back_7 ?_
    show J G "back" RX11 cX11_back 1 (some .int) 0 0 1 Q 0 0 10 [(0, .ref (r 0))] [.int (bI true)] (cW G r (su 60 s (fun _ => nI (rf - 1))) l)
    refine J_if_eq 26 dX11_back_10 (by decide) (fun c => absurd c (by decide)) (fun _ => ?_)
    refine J_aload_n dX11_back_13 rfl rfl ?_
    refine Cg_0_0 fr_X11_10_10 dX11_back_14 ?_
    refine Cg_1_2 fr_X11_142_1 dX11_back_17 ?_
    refine Cg_6_2 (s := (su 60 s (fun _ => nI (rf - 1)))) fr_X11_151_6 (nI (rf - 1)) rfl dX11_back_20 ?_
    refine J_goto 28 dX11_back_23 (by decide) ?_
    exact J_iret dX11_back_28 rfl rfl rfl (hq (su 60 s (fun _ => nI (rf - 1))) l (nI (rf - 1), (su 12 σ (fun _ => nI (rfn σ - 1)))) (by subst en em ec erf esg eHb ehb eHe eaw eCl eRf eSg eVv; simp [oBack, ksz1]) (by subst en em ec erf esg eHb ehb eHe eaw eCl eRf eSg eVv; exact ci_back hC hL))
theorem c_X11_back {G : GT} (r : Nat → Nat) (s : St) (l : Nat → Int64) (σ : St) (hL : LI σ) (hC : CI σ s) : Ct G yX11_back cX11_back 1 (some .int) 0 0 1 [.ref (r 0)] (cW G r s l) (QC G r (oBack σ)) := Ct.of rfl (Nat.le_of_ble_eq_true rfl) (j_X11_back r s l σ hL hC (fun x lx a h1 h2 => ⟨x, lx, by rw [h1], rfl, by rw [← h1]; exact h2⟩))
set_option maxRecDepth 100000 in
set_option maxHeartbeats 1000000 in
theorem j_X11_value {G : GT} (r : Nat → Nat) (s : St) (l : Nat → Int64) (σ : St) (hL : LI σ) (hC : CI σ s) (e d v : Int32) {Q : Option Value → va_W → Prop} (hq : ∀ (x : St) (lx : Nat → Int64) (a : Int32 × St), a = oValue e d v σ → CI a.2 x → Q (some (.int a.1)) (cW G r x lx)) : J G "value" RX11 cX11_value 4 (some .int) 0 0 2 Q 0 0 0 [(0, .ref (r 0)), (1, .int e), (2, .int d), (3, .int v)] [] (cW G r s l) := by
  obtain ⟨n, en⟩ : ∃ z, z = nH σ := ⟨_, rfl⟩
  obtain ⟨m, em⟩ : ∃ z, z = nE σ := ⟨_, rfl⟩
  obtain ⟨c, ec⟩ : ∃ z, z = nC σ := ⟨_, rfl⟩
  obtain ⟨rf, erf⟩ : ∃ z, z = rfn σ := ⟨_, rfl⟩
  obtain ⟨sg, esg⟩ : ∃ z, z = sgn σ := ⟨_, rfl⟩
  obtain ⟨Hb, eHb⟩ : ∃ z, z = HbS σ := ⟨_, rfl⟩
  obtain ⟨hb, ehb⟩ : ∃ z, z = hbS σ := ⟨_, rfl⟩
  obtain ⟨He, eHe⟩ : ∃ z, z = HeS σ := ⟨_, rfl⟩
  obtain ⟨aw, eaw⟩ : ∃ z, z = awS σ := ⟨_, rfl⟩
  obtain ⟨Cl, eCl⟩ : ∃ z, z = ClS σ := ⟨_, rfl⟩
  obtain ⟨Rf, eRf⟩ : ∃ z, z = σ 13 := ⟨_, rfl⟩
  obtain ⟨Sg, eSg⟩ : ∃ z, z = σ 22 := ⟨_, rfl⟩
  obtain ⟨Vv, eVv⟩ : ∃ z, z = σ 16 := ⟨_, rfl⟩
  have hn8 : n ≤ 8 := by rw [en]; exact nH_le _
  have hm6 : m ≤ 6 := by rw [em]; exact nE_le _
  have hc15 : c ≤ 15 := by rw [ec]; exact nC_le _
  have hrf12 : rf ≤ 12 := by rw [erf]; exact hL.rf.2.1
  have hsg8 : sg ≤ 8 := by rw [esg]; exact hL.sg.2.1
  have hk : HbOk n Hb hb := by rw [en, eHb, ehb]; exact hbOk σ
  have ha : AwOk m He aw := by rw [em, eHe, eaw]; exact awOk σ
  have hn : s 52 0 = nI n := by rw [en]; exact hC.n
  have hm : s 55 0 = nI m := by rw [em]; exact hC.m
  have hc : s 58 0 = nI c := by rw [ec]; exact hC.c
  have hrf : s 60 0 = nI rf := by rw [erf]; exact hC.rf
  have hsg : s 62 0 = nI sg := by rw [esg]; exact hC.sg
  have hR : CHr n Hb hb s := by rw [en, eHb, ehb]; exact hC.hR
  have hE : CEr m He aw s := by rw [em, eHe, eaw]; exact hC.hE
  have hCl : CCr c Cl s := by rw [ec, eCl]; exact hC.hCl
  have hRf : CRr rf Rf s := by rw [erf, eRf]; exact hC.hRf hL
  have hSg : CSr sg Sg s := by rw [esg, eSg]; exact hC.hSg hL
  have hV : ∀ j, j < 42 → s 41 j = Vv j := by rw [eVv]; exact hC.hV
  refine J_iload_n dX11_value_0 rfl rfl ?_
  refine J_bipush (v := nI 6) dX11_value_1 (by decide) ?_
  refine J_cSi [.int e, .int (nI 6)] ms_X11_48 (c_X11_isBelowN (cW G r s l) e 6) rfl rfl (by decide) (Nat.le_of_ble_eq_true rfl) ⟨Nat.le_refl _, Nat.le_refl _⟩ dX11_value_3 ?_
  refine J_if_eqB 27 dX11_value_6 (by decide) (fun kcz1 => ?_) (fun kcz1 => ?_)
  · refine J_bipush (v := -2) dX11_value_27 (by decide) ?_
    exact J_iret dX11_value_29 rfl rfl rfl (hq s l ((-2), σ) (by subst en em ec erf esg eHb ehb eHe eaw eCl eRf eSg eVv; simp [oValue, kcz1]) hC)
  · obtain ⟨E9, hE9, rfl⟩ := (rng_iff (by omega)).mp kcz1
    have eE9 : (nI E9).toNatClampNeg = E9 := nI_clamp (by omega)
    refine J_iload_n dX11_value_9 rfl rfl ?_
    refine J_bipush (v := nI 7) dX11_value_10 (by decide) ?_
    refine J_cSi [.int d, .int (nI 7)] ms_X11_48 (c_X11_isBelowN (cW G r s l) d 7) rfl rfl (by decide) (Nat.le_of_ble_eq_true rfl) ⟨Nat.le_refl _, Nat.le_refl _⟩ dX11_value_12 ?_
    refine J_if_eqB 27 dX11_value_15 (by decide) (fun kcz2 => ?_) (fun kcz2 => ?_)
    · refine J_bipush (v := -2) dX11_value_27 (by decide) ?_
      exact J_iret dX11_value_29 rfl rfl rfl (hq s l ((-2), σ) (by subst en em ec erf esg eHb ehb eHe eaw eCl eRf eSg eVv; simp [oValue, kcz1, eE9, kcz2]) hC)
    · obtain ⟨D9, hD9, rfl⟩ := (rng_iff (by omega)).mp kcz2
      have eD9 : (nI D9).toNatClampNeg = D9 := nI_clamp (by omega)
      refine J_iload_n dX11_value_18 rfl rfl ?_
      refine J_bipush (v := nI 10) dX11_value_19 (by decide) ?_
      refine J_cSi [.int v, .int (nI 10)] ms_X11_48 (c_X11_isBelowN (cW G r s l) v 10) rfl rfl (by decide) (Nat.le_of_ble_eq_true rfl) ⟨Nat.le_refl _, Nat.le_refl _⟩ dX11_value_21 ?_
      refine J_if_neB 30 dX11_value_24 (by decide) (fun kcz3 => ?_) (fun kcz3 => ?_)
      · obtain ⟨V9, hV9, rfl⟩ := (rng_iff (by omega)).mp kcz3
        have eV9 : (nI V9).toNatClampNeg = V9 := nI_clamp (by omega)
        refine J_aload_n dX11_value_30 rfl rfl ?_
        refine Cg_0_1 fr_X11_19_10 dX11_value_31 ?_
        refine J_iload_n dX11_value_34 rfl rfl ?_
        refine J_iload_n dX11_value_35 rfl rfl ?_
        refine J_iload_n dX11_value_36 rfl rfl ?_
        refine J_cVi (x := yX12_in) [.int (nI E9), .int (nI D9), .int (nI V9)] 7 mv_X11_158 (c_X10_change r s l E9 D9 (by omega) (by omega) (nI V9)) cW_7 rfl rfl (by decide) (Nat.le_of_ble_eq_true rfl) ⟨Nat.le_refl _, Nat.le_refl _⟩ dX11_value_37 ?_
        show J G "value" RX11 cX11_value 4 (some .int) 0 0 2 Q 0 0 40 [(0, .ref (r 0)), (1, .int (nI E9)), (2, .int (nI D9)), (3, .int (nI V9))] [.int (s 41 (E9 * 7 + D9))] (cW G r (su 41 s (upd (s 41) (E9 * 7 + D9) (nI V9))) l)
        exact J_iret dX11_value_40 rfl rfl rfl (hq (su 41 s (upd (s 41) (E9 * 7 + D9) (nI V9))) l (s 41 (E9 * 7 + D9), (su 16 σ (upd (σ 16) (7 * E9 + D9) (nI V9)))) (by rw [show s 41 (E9 * 7 + D9) = σ 16 (7 * E9 + D9) by rw [hC.hV _ (by omega), Nat.mul_comm]]; simp [oValue, kcz1, eE9, kcz2, eD9, kcz3, eV9]) (ci_value hC (by omega)))
      · refine J_bipush (v := -2) dX11_value_27 (by decide) ?_
        exact J_iret dX11_value_29 rfl rfl rfl (hq s l ((-2), σ) (by subst en em ec erf esg eHb ehb eHe eaw eCl eRf eSg eVv; simp [oValue, kcz1, eE9, kcz2, eD9, kcz3]) hC)
theorem c_X11_value {G : GT} (r : Nat → Nat) (s : St) (l : Nat → Int64) (σ : St) (hL : LI σ) (hC : CI σ s) (e d v : Int32) : Ct G yX11_value cX11_value 4 (some .int) 0 0 2 [.ref (r 0), .int e, .int d, .int v] (cW G r s l) (QC G r (oValue e d v σ)) := Ct.of rfl (Nat.le_of_ble_eq_true rfl) (j_X11_value r s l σ hL hC e d v (fun x lx a h1 h2 => ⟨x, lx, by rw [h1], rfl, by rw [← h1]; exact h2⟩))
set_option maxRecDepth 100000 in
set_option maxHeartbeats 1000000 in
theorem j_X11_seen {G : GT} (r : Nat → Nat) (s : St) (l : Nat → Int64) (σ : St) (hL : LI σ) (hC : CI σ s) (t e h : Int32) {Q : Option Value → va_W → Prop} (hq : ∀ (x : St) (lx : Nat → Int64) (a : Int32 × St), a = oSeen t e h σ → CI a.2 x → Q (some (.int a.1)) (cW G r x lx)) : J G "seen" RX11 cX11_seen 4 (some .int) 0 0 2 Q 0 0 0 [(0, .ref (r 0)), (1, .int t), (2, .int e), (3, .int h)] [] (cW G r s l) := by
  obtain ⟨n, en⟩ : ∃ z, z = nH σ := ⟨_, rfl⟩
  obtain ⟨m, em⟩ : ∃ z, z = nE σ := ⟨_, rfl⟩
  obtain ⟨c, ec⟩ : ∃ z, z = nC σ := ⟨_, rfl⟩
  obtain ⟨rf, erf⟩ : ∃ z, z = rfn σ := ⟨_, rfl⟩
  obtain ⟨sg, esg⟩ : ∃ z, z = sgn σ := ⟨_, rfl⟩
  obtain ⟨Hb, eHb⟩ : ∃ z, z = HbS σ := ⟨_, rfl⟩
  obtain ⟨hb, ehb⟩ : ∃ z, z = hbS σ := ⟨_, rfl⟩
  obtain ⟨He, eHe⟩ : ∃ z, z = HeS σ := ⟨_, rfl⟩
  obtain ⟨aw, eaw⟩ : ∃ z, z = awS σ := ⟨_, rfl⟩
  obtain ⟨Cl, eCl⟩ : ∃ z, z = ClS σ := ⟨_, rfl⟩
  obtain ⟨Rf, eRf⟩ : ∃ z, z = σ 13 := ⟨_, rfl⟩
  obtain ⟨Sg, eSg⟩ : ∃ z, z = σ 22 := ⟨_, rfl⟩
  obtain ⟨Vv, eVv⟩ : ∃ z, z = σ 16 := ⟨_, rfl⟩
  have hn8 : n ≤ 8 := by rw [en]; exact nH_le _
  have hm6 : m ≤ 6 := by rw [em]; exact nE_le _
  have hc15 : c ≤ 15 := by rw [ec]; exact nC_le _
  have hrf12 : rf ≤ 12 := by rw [erf]; exact hL.rf.2.1
  have hsg8 : sg ≤ 8 := by rw [esg]; exact hL.sg.2.1
  have hk : HbOk n Hb hb := by rw [en, eHb, ehb]; exact hbOk σ
  have ha : AwOk m He aw := by rw [em, eHe, eaw]; exact awOk σ
  have hn : s 52 0 = nI n := by rw [en]; exact hC.n
  have hm : s 55 0 = nI m := by rw [em]; exact hC.m
  have hc : s 58 0 = nI c := by rw [ec]; exact hC.c
  have hrf : s 60 0 = nI rf := by rw [erf]; exact hC.rf
  have hsg : s 62 0 = nI sg := by rw [esg]; exact hC.sg
  have hR : CHr n Hb hb s := by rw [en, eHb, ehb]; exact hC.hR
  have hE : CEr m He aw s := by rw [em, eHe, eaw]; exact hC.hE
  have hCl : CCr c Cl s := by rw [ec, eCl]; exact hC.hCl
  have hRf : CRr rf Rf s := by rw [erf, eRf]; exact hC.hRf hL
  have hSg : CSr sg Sg s := by rw [esg, eSg]; exact hC.hSg hL
  have hV : ∀ j, j < 42 → s 41 j = Vv j := by rw [eVv]; exact hC.hV
  refine J_iload_n dX11_seen_0 rfl rfl ?_
  refine J_iload_n dX11_seen_1 rfl rfl ?_
  refine J_iload_n dX11_seen_2 rfl rfl ?_
  refine J_cSi [.int t, .int e, .int h] ms_X11_220 (c_X9_mayBe (cW G r s l) t e h) rfl rfl (by decide) (Nat.le_of_ble_eq_true rfl) ⟨Nat.le_refl _, Nat.le_refl _⟩ dX11_seen_3 ?_
  refine J_if_neB 12 dX11_seen_6 (by decide) (fun kcz1 => ?_) (fun kcz1 => ?_)
  · refine J_aload_n dX11_seen_12 rfl rfl ?_
    refine Cg_0_2 fr_X11_26_10 dX11_seen_13 ?_
    refine J_iload_n dX11_seen_16 rfl rfl ?_
    refine J_iload_n dX11_seen_17 rfl rfl ?_
    refine J_iload_n dX11_seen_18 rfl rfl ?_
    by_cases ksz2 : sg = 8
    · refine J_cVi (x := yX12_in) [.int t, .int e, .int h] 8 mv_X11_224 (c_X9_add_full r s l sg hsg ksz2 t e h) cW_8 rfl rfl (by decide) (Nat.le_of_ble_eq_true rfl) ⟨Nat.le_refl _, Nat.le_refl _⟩ dX11_seen_19 ?_
      refine J_if_eq 35 dX11_seen_22 (by decide) (fun _ => ?_) (fun c => absurd c (by decide))
      refine J_bipush (v := -4) dX11_seen_35 (by decide) ?_
      exact J_iret dX11_seen_37 rfl rfl rfl (hq s l ((-4), σ) (by subst en em ec erf esg eHb ehb eHe eaw eCl eRf eSg eVv; simp [oSeen, kcz1, ksz2]) hC)
    · refine J_cVi (x := yX12_in) [.int t, .int e, .int h] 8 mv_X11_224 (c_X9_add r s l sg hsg (by omega) t e h) cW_8 rfl rfl (by decide) (Nat.le_of_ble_eq_true rfl) ⟨Nat.le_refl _, Nat.le_refl _⟩ dX11_seen_19 ?_
      show J G "seen" RX11 cX11_seen 4 (some .int) 0 0 2 Q 0 0 22 [(0, .ref (r 0)), (1, .int t), (2, .int e), (3, .int h)] [.int (bI true)] (cW G r (su 62 (su 44 (su 43 (su 42 s (upd (s 42) sg t)) (upd (s 43) sg e)) (upd (s 44) sg h)) (fun _ => nI (sg + 1))) l)
      refine J_if_eq 35 dX11_seen_22 (by decide) (fun c => absurd c (by decide)) (fun _ => ?_)
      refine J_aload_n dX11_seen_25 rfl rfl ?_
      refine Cg_0_2 fr_X11_26_10 dX11_seen_26 ?_
      refine Cg_8_3 (s := (su 62 (su 44 (su 43 (su 42 s (upd (s 42) sg t)) (upd (s 43) sg e)) (upd (s 44) sg h)) (fun _ => nI (sg + 1)))) fr_X11_226_8 (nI (sg + 1)) rfl dX11_seen_29 ?_
      refine J_goto 37 dX11_seen_32 (by decide) ?_
      exact J_iret dX11_seen_37 rfl rfl rfl (hq (su 62 (su 44 (su 43 (su 42 s (upd (s 42) sg t)) (upd (s 43) sg e)) (upd (s 44) sg h)) (fun _ => nI (sg + 1))) l (nI (sg + 1), (su 22 (su 21 σ (fun _ => nI (sgn σ + 1))) (upd (upd (upd (σ 22) (3 * sgn σ) t) (3 * sgn σ + 1) e) (3 * sgn σ + 2) h))) (by subst en em ec erf esg eHb ehb eHe eaw eCl eRf eSg eVv; simp [oSeen, kcz1, ksz2]) (by subst en em ec erf esg eHb ehb eHe eaw eCl eRf eSg eVv; exact ci_seen hC hL ksz2))
  · refine J_bipush (v := -2) dX11_seen_9 (by decide) ?_
    exact J_iret dX11_seen_11 rfl rfl rfl (hq s l ((-2), σ) (by subst en em ec erf esg eHb ehb eHe eaw eCl eRf eSg eVv; simp [oSeen, kcz1]) hC)
theorem c_X11_seen {G : GT} (r : Nat → Nat) (s : St) (l : Nat → Int64) (σ : St) (hL : LI σ) (hC : CI σ s) (t e h : Int32) : Ct G yX11_seen cX11_seen 4 (some .int) 0 0 2 [.ref (r 0), .int t, .int e, .int h] (cW G r s l) (QC G r (oSeen t e h σ)) := Ct.of rfl (Nat.le_of_ble_eq_true rfl) (j_X11_seen r s l σ hL hC t e h (fun x lx a h1 h2 => ⟨x, lx, by rw [h1], rfl, by rw [← h1]; exact h2⟩))
set_option maxRecDepth 100000 in
set_option maxHeartbeats 1000000 in
theorem j_X11_forget {G : GT} (r : Nat → Nat) (s : St) (l : Nat → Int64) (σ : St) (hL : LI σ) (hC : CI σ s) {Q : Option Value → va_W → Prop} (hq : ∀ (x : St) (lx : Nat → Int64) (a : Int32 × St), a = oForget σ → CI a.2 x → Q (some (.int a.1)) (cW G r x lx)) : J G "forget" RX11 cX11_forget 2 (some .int) 0 0 1 Q 0 0 0 [(0, .ref (r 0))] [] (cW G r s l) := by
  obtain ⟨n, en⟩ : ∃ z, z = nH σ := ⟨_, rfl⟩
  obtain ⟨m, em⟩ : ∃ z, z = nE σ := ⟨_, rfl⟩
  obtain ⟨c, ec⟩ : ∃ z, z = nC σ := ⟨_, rfl⟩
  obtain ⟨rf, erf⟩ : ∃ z, z = rfn σ := ⟨_, rfl⟩
  obtain ⟨sg, esg⟩ : ∃ z, z = sgn σ := ⟨_, rfl⟩
  obtain ⟨Hb, eHb⟩ : ∃ z, z = HbS σ := ⟨_, rfl⟩
  obtain ⟨hb, ehb⟩ : ∃ z, z = hbS σ := ⟨_, rfl⟩
  obtain ⟨He, eHe⟩ : ∃ z, z = HeS σ := ⟨_, rfl⟩
  obtain ⟨aw, eaw⟩ : ∃ z, z = awS σ := ⟨_, rfl⟩
  obtain ⟨Cl, eCl⟩ : ∃ z, z = ClS σ := ⟨_, rfl⟩
  obtain ⟨Rf, eRf⟩ : ∃ z, z = σ 13 := ⟨_, rfl⟩
  obtain ⟨Sg, eSg⟩ : ∃ z, z = σ 22 := ⟨_, rfl⟩
  obtain ⟨Vv, eVv⟩ : ∃ z, z = σ 16 := ⟨_, rfl⟩
  have hn8 : n ≤ 8 := by rw [en]; exact nH_le _
  have hm6 : m ≤ 6 := by rw [em]; exact nE_le _
  have hc15 : c ≤ 15 := by rw [ec]; exact nC_le _
  have hrf12 : rf ≤ 12 := by rw [erf]; exact hL.rf.2.1
  have hsg8 : sg ≤ 8 := by rw [esg]; exact hL.sg.2.1
  have hk : HbOk n Hb hb := by rw [en, eHb, ehb]; exact hbOk σ
  have ha : AwOk m He aw := by rw [em, eHe, eaw]; exact awOk σ
  have hn : s 52 0 = nI n := by rw [en]; exact hC.n
  have hm : s 55 0 = nI m := by rw [em]; exact hC.m
  have hc : s 58 0 = nI c := by rw [ec]; exact hC.c
  have hrf : s 60 0 = nI rf := by rw [erf]; exact hC.rf
  have hsg : s 62 0 = nI sg := by rw [esg]; exact hC.sg
  have hR : CHr n Hb hb s := by rw [en, eHb, ehb]; exact hC.hR
  have hE : CEr m He aw s := by rw [em, eHe, eaw]; exact hC.hE
  have hCl : CCr c Cl s := by rw [ec, eCl]; exact hC.hCl
  have hRf : CRr rf Rf s := by rw [erf, eRf]; exact hC.hRf hL
  have hSg : CSr sg Sg s := by rw [esg, eSg]; exact hC.hSg hL
  have hV : ∀ j, j < 42 → s 41 j = Vv j := by rw [eVv]; exact hC.hV
  refine J_aload_n dX11_forget_0 rfl rfl ?_
  refine Cg_0_2 fr_X11_26_10 dX11_forget_1 ?_
  refine Cg_8_3 (s := s) fr_X11_226_8 (s 62 0) rfl dX11_forget_4 ?_
  refine J_rw (y := nI sg) hsg ?_
  refine J_istore_n [(0, .ref (r 0)), (1, .int (nI sg))] dX11_forget_7 rfl (by decide) rfl rfl rfl ?_
  refine J_aload_n dX11_forget_8 rfl rfl ?_
  refine Cg_0_2 fr_X11_26_10 dX11_forget_9 ?_
  refine J_iconst (v := nI 0) dX11_forget_12 (by decide) ?_
  refine Cp_8_3 fr_X11_226_8 dX11_forget_13 ?_
  refine J_iload_n dX11_forget_16 rfl rfl ?_
  exact J_iret dX11_forget_17 rfl rfl rfl (hq (su 62 s (fun _ => nI 0)) l (nI sg, (su 21 σ (fun _ => nI 0))) (by subst en em ec erf esg eHb ehb eHe eaw eCl eRf eSg eVv; simp [oForget, if_pos]) (ci_forget hC))
theorem c_X11_forget {G : GT} (r : Nat → Nat) (s : St) (l : Nat → Int64) (σ : St) (hL : LI σ) (hC : CI σ s) : Ct G yX11_forget cX11_forget 2 (some .int) 0 0 1 [.ref (r 0)] (cW G r s l) (QC G r (oForget σ)) := Ct.of rfl (Nat.le_of_ble_eq_true rfl) (j_X11_forget r s l σ hL hC (fun x lx a h1 h2 => ⟨x, lx, by rw [h1], rfl, by rw [← h1]; exact h2⟩))
