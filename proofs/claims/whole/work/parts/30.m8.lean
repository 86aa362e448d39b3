theorem q_hab {σ x : St} (h : Fnn σ x) {k j : Nat} (hk : k < nH σ) (hj : j < 5) : x 9 (5 * k + j) = qHabit (nI k) (nI j) σ := by
  have h8 := nH_le σ
  rw [h.1.2.2.2.2.1.at hk j hj]
  unfold qHabit
  rw [rng_nI (by omega) (by omega), rng_nI (by omega) (by decide), decide_eq_true hk, decide_eq_true hj, nI_clamp (by omega), nI_clamp (by omega)]
  rfl
theorem q_heir {σ x : St} (h : Fnn σ x) {k j : Nat} (hk : k < nE σ) (hj : j < 3) : x 10 (3 * k + j) = qHeir (nI k) (nI j) σ := by
  have h8 := nE_le σ
  rw [h.1.2.2.2.2.2.1.at hk j hj]
  unfold qHeir
  rw [rng_nI (by omega) (by omega), rng_nI (by omega) (by decide), decide_eq_true hk, decide_eq_true hj, nI_clamp (by omega), nI_clamp (by omega)]
  rfl
theorem q_clause {σ x : St} (h : Fnn σ x) {k j : Nat} (hk : k < nC σ) (hj : j < 4) : x 11 (4 * k + j) = qClause (nI k) (nI j) σ := by
  have h8 := nC_le σ
  rw [h.1.2.2.2.2.2.2.at hk j hj]
  unfold qClause
  rw [rng_nI (by omega) (by omega), rng_nI (by omega) (by decide), decide_eq_true hk, decide_eq_true hj, nI_clamp (by omega), nI_clamp (by omega)]
  rfl
theorem q_with {σ x : St} (h : Fnn σ x) {k : Nat} (hk : k < nH σ) : x 17 k = qWith (nI k) σ := by
  have h8 := nH_le σ
  unfold qWith
  rw [rng_nI (by omega) (by omega), decide_eq_true hk, nI_clamp (by omega), h.2.2.1]
  rfl
theorem q_whose {σ x : St} (h : Fnn σ x) {k : Nat} (hk : k < nH σ) : nI (whF (nH σ) (nE σ) (x 9) (x 10) (x 17) (x 22) (sgn σ) k (nE σ + 1)) = qWhose (nI k) σ := by
  have h8 := nH_le σ
  unfold qWhose whS
  rw [rng_nI (by omega) (by omega), decide_eq_true hk, nI_clamp (by omega), h.2.2.1, whF_cg h.1.2.2.2.2.1 h.1.2.2.2.2.2.1 _ _ _ _ (nH_le σ) (nE_le σ), h.1.c (k := 22) rfl]
  rfl
theorem qHas_at {σ : St} {e j : Nat} (he : e < nE σ) (hj : j < 4) : qHas (nI e) (nI j) σ = hsA σ e j := by
  have h8 := nE_le σ
  unfold qHas
  rw [rng_nI (by omega) (by omega), rng_nI (by omega) (by decide), decide_eq_true he, decide_eq_true hj, nI_clamp (by omega), nI_clamp (by omega)]
  rfl
theorem q_has0 {σ x : St} (h : Fnn σ x) {e : Nat} (he : e < nE σ) : nI (hasM (nH σ) (x 17) e) = qHas (nI e) (nI 0) σ := by
  rw [qHas_at he (by decide), h.2.2.1]; rfl
theorem q_has1 {σ x : St} (h : Fnn σ x) {e : Nat} (he : e < nE σ) : nI (canNowM (nH σ) (x 9) (x 10) (x 17) e) = qHas (nI e) (nI 1) σ := by
  rw [qHas_at he (by decide), h.2.2.1, canNowM_cg h.1.2.2.2.2.1 h.1.2.2.2.2.2.1 _ he]; rfl
theorem q_has2 {σ x : St} (h : Fnn σ x) {e : Nat} (he : e < nE σ) : wrM (nH σ) (x 9) (x 17) e = qHas (nI e) (nI 2) σ := by
  rw [qHas_at he (by decide), h.2.2.1, wrM_cg h.1.2.2.2.2.1]; rfl
theorem q_has3 {σ x : St} (h : Fnn σ x) {e : Nat} (he : e < nE σ) : bI (livM (nH σ) (x 9) (x 10) (x 17) e) = qHas (nI e) (nI 3) σ := by
  rw [qHas_at he (by decide), h.2.2.1, livM_cg h.1.2.2.2.2.1 h.1.2.2.2.2.2.1 _ he]; rfl
theorem q_does {σ x : St} (h : Fnn σ x) {e t : Nat} (he : e < nE σ) (ht : t < 24) : doM (nH σ) (x 9) (x 10) (x 17) e t = qDoes (nI e) (nI t) σ := by
  have h8 := nE_le σ
  unfold qDoes doS
  rw [rng_nI (by omega) (by omega), rng_nI (by omega) (by decide), decide_eq_true he, decide_eq_true ht, nI_clamp (by omega), nI_clamp (by omega), h.2.2.1, doM_cg h.1.2.2.2.2.1 h.1.2.2.2.2.2.1 _ he t (nH_le σ)]
  rfl
theorem q_write {σ x : St} (h : Fnn σ x) {e w : Nat} (he : e < nE σ) (hw : w < 2) : tlM (wrF (nH σ) (nE σ) (nC σ) (x 9) (x 10) (x 11) (rfn σ) (x 13) e (2 ^ nH σ)) w = qWrite (nI e) (nI w) σ := by
  have h8 := nE_le σ
  unfold qWrite wrS
  rw [rng_nI (by omega) (by omega), rng_nI (by omega) (by decide), decide_eq_true he, decide_eq_true hw, nI_clamp (by omega), nI_clamp (by omega), wrF_cg h.1.2.2.2.2.1 h.1.2.2.2.2.2.1 h.1.2.2.2.2.2.2 _ _ he, h.1.c (k := 13) rfl]
  rfl
theorem qMarch_at {σ : St} {c e l w : Nat} (hc : c < 17) (he : e < nE σ) (hl : l < 9) (hw : w < 2) : qMarch (nI c) (nI e) (nI l) (nI w) σ = mrA c (vcS σ e) l w := by
  have h8 := nE_le σ
  unfold qMarch
  rw [rng_nI (by omega) (by decide), rng_nI (by omega) (by omega), rng_nI (by omega) (by decide), rng_nI (by omega) (by decide), decide_eq_true hc, decide_eq_true he, decide_eq_true hl, decide_eq_true hw, nI_clamp (by omega), nI_clamp (by omega), nI_clamp (by omega), nI_clamp (by omega)]
  exact if_pos rfl
theorem q_march {σ : St} {e w : Nat} (he : e < nE σ) (hw : w < 2) : mrA 5 (vcS σ e) 1 w = qMarch (nI 5) (nI e) (nI 1) (nI w) σ := (qMarch_at (by decide) he (by decide) hw).symm
theorem q_quar {σ x : St} (h : Fnn σ x) {w : Nat} (hw : w < 4) : quM (nH σ) (nE σ) (x 9) (x 17) w = qQuarrel (nI w) σ := by
  unfold qQuarrel
  rw [rng_nI (by omega) (by decide), decide_eq_true hw, nI_clamp (by omega), h.2.2.1, quM_cg h.1.2.2.2.2.1]
  rfl
theorem dgF_0 (g : Int64 → Nat → Int64) (h : Int64) : dgF g 0 h = h := rfl
theorem dgF_s (g : Int64 → Nat → Int64) (k : Nat) (h : Int64) : dgF g (k + 1) h = g (dgF g k h) k := rfl
theorem q_fault0 {s x : St} (h : cn x = cn s) : (rdT (x 5) 0 (tl (cn s) 0)).2 = qFault (nI 0) (cn s) := by rw [cn_k (k := 5) h rfl]; rfl
theorem q_fault1 {s x : St} (h : cn x = cn s) : (rdT (x 5) 1 (tl (cn s) 1)).2 = qFault (nI 1) (cn s) := by rw [cn_k (k := 5) h rfl]; rfl
theorem q_fault2 {s x : St} (h : cn x = cn s) : (rdT (x 5) 2 (tl (cn s) 2)).2 = qFault (nI 2) (cn s) := by rw [cn_k (k := 5) h rfl]; rfl

set_option maxRecDepth 100000 in
set_option maxHeartbeats 1000000 in
theorem j_X12_read {G : GT} (o : Nat) (a : Nat → Nat) (s : Nat → Nat → Int32) (hL : LI (cn s)) (v : Int32) {Q : Option Value → va_W → Prop} (hq : ∀ (x : St) (r : Int32 × St), r = oRead v (cn s) → cn x = r.2 → Q (some (.int r.1)) (mW G o a x)) : J G "read" RX12 cX12_read 5 (some .int) 0 0 3 Q 0 0 0 [(0, .ref o), (1, .int v)] [] (mW G o a s) := by
  refine J_iload_n dX12_read_0 rfl rfl ?_
  refine J_cSi [.int v] ms_X12_67 (c_X12_isSheet (mW G o a s) v) rfl rfl (by decide) (Nat.le_of_ble_eq_true rfl) ⟨Nat.le_refl _, Nat.le_refl _⟩ dX12_read_1 ?_
  refine J_if_neB 10 dX12_read_4 (by decide) (fun kcz1 => ?_) (fun kcz1 => ?_)
  · obtain ⟨V, hV, rfl⟩ := (rng_iff (by omega)).mp kcz1
    have eV : (nI V).toNatClampNeg = V := nI_clamp (by omega)
    refine J_aload_n dX12_read_10 rfl rfl ?_
    refine Mg_0 dX12_read_11 ?_
    refine J_iload_n dX12_read_14 rfl rfl ?_
    refine Ml_0 (s := s) (s 0) rfl V rfl (by omega) dX12_read_15 ?_
    refine J_if_ge 25 dX12_read_16 (by decide) (fun kcz2 => ?_) (fun kcz2 => ?_)
    · obtain ⟨Z, hZ, eZ⟩ := (hL.H hV).2
      have hO : oRead (nI V) (cn s) = rdL V Z 21 0 (cn s) := by simp [oRead, kcz1, eV, kcz2, cn_0, cn_1, cn_2, cn_4, cn_5, cn_6, cn_12, cn_13, cn_16, cn_21, cn_22, eZ, nI_clamp (show Z < 2 ^ 31 by omega)]
      refine J_iconst (v := nI 0) dX12_read_25 (by decide) ?_
      refine J_istore_n [(0, .ref o), (1, .int (nI V)), (2, .int (nI 0))] dX12_read_26 rfl (by decide) rfl rfl rfl ?_
      refine J_iconst (v := nI 1) dX12_read_27 (by decide) ?_
      refine J_istore_n [(0, .ref o), (1, .int (nI V)), (2, .int (nI 0)), (3, .int (nI 1))] dX12_read_28 rfl (by decide) rfl rfl rfl ?_
      have L29 : ∀ (f k : Nat) (y : St), k + f = 21 → 3 * k ≤ Z → LI (cn y) → y 1 V = nI Z → rdL V Z f k (cn y) = rdL V Z 21 0 (cn s) → ∀ (x2 : Int32), x2 = nI k → J G "read" RX12 cX12_read 5 (some .int) 0 0 3 Q 0 0 29 [(0, .ref o), (1, .int (nI V)), (2, .int x2), (3, .int (nI 1))] [] (mW G o a y) := by
        intro f
        induction f with
        | zero => intro k y h1 h2; exact absurd h1 (by omega)
        | succ f ih29 =>
          intro k y hkf hkz hLy hy1 hrd x2 e2
          subst e2
          refine J_iload_n dX12_read_29 rfl rfl ?_
          refine J_if_eq 110 dX12_read_30 (by decide) (fun c => absurd c (by decide)) (fun _ => ?_)
          refine J_iconst (v := nI 3) dX12_read_33 (by decide) ?_
          refine J_iload_n dX12_read_34 rfl rfl ?_
          refine J_imulN dX12_read_35 ?_
          refine J_iconst (v := nI 3) dX12_read_36 (by decide) ?_
          refine J_iaddN dX12_read_37 ?_
          refine J_aload_n dX12_read_38 rfl rfl ?_
          refine Mg_1 dX12_read_39 ?_
          refine J_iload_n dX12_read_42 rfl rfl ?_
          refine Ml_1 (s := y) (y 1) rfl V rfl (by omega) dX12_read_43 ?_
          refine J_rw (y := nI Z) hy1 ?_
          refine J_icmp_gtN 110 (by omega) (by omega) dX12_read_44 (by decide) (fun kcz3 => ?_) (fun kcz3 => ?_)
          · refine J_iload_n dX12_read_110 rfl rfl ?_
            exact J_iret dX12_read_111 rfl rfl rfl (hq y (nI k, cn y) (by rw [hO, ← hrd, rdL, if_neg (by omega)]) rfl)
          · refine J_bipush (v := nI 60) dX12_read_47 (by decide) ?_
            refine J_iload_n dX12_read_49 rfl rfl ?_
            refine J_imulN dX12_read_50 ?_
            refine J_iconst (v := nI 3) dX12_read_51 (by decide) ?_
            refine J_iload_n dX12_read_52 rfl rfl ?_
            refine J_imulN dX12_read_53 ?_
            refine J_iaddN dX12_read_54 ?_
            refine J_istore [(0, .ref o), (1, .int (nI V)), (2, .int (nI k)), (3, .int (nI 1)), (4, .int (nI (60 * V + (3 * k))))] dX12_read_55 (by decide) rfl rfl rfl ?_
            refine J_aload_n dX12_read_57 rfl rfl ?_
            refine J_aload_n dX12_read_58 rfl rfl ?_
            refine Mg_2 dX12_read_59 ?_
            refine J_iload dX12_read_62 rfl ?_
            refine Ml_2 (s := y) (y 2) rfl (60 * V + (3 * k)) rfl (by omega) dX12_read_64 ?_
            refine J_aload_n dX12_read_65 rfl rfl ?_
            refine Mg_2 dX12_read_66 ?_
            refine J_iload dX12_read_69 rfl ?_
            refine J_iconst (v := nI 1) dX12_read_71 (by decide) ?_
            refine J_iaddN dX12_read_72 ?_
            refine Ml_2 (s := y) (y 2) rfl (60 * V + (3 * k) + 1) rfl (by omega) dX12_read_73 ?_
            refine J_aload_n dX12_read_74 rfl rfl ?_
            refine Mg_2 dX12_read_75 ?_
            refine J_iload dX12_read_78 rfl ?_
            refine J_iconst (v := nI 2) dX12_read_80 (by decide) ?_
            refine J_iaddN dX12_read_81 ?_
            refine Ml_2 (s := y) (y 2) rfl (60 * V + (3 * k) + 2) rfl (by omega) dX12_read_82 ?_
            refine J_callV (wr := []) (As := [.int (y 2 (60 * V + (3 * k))), .int (y 2 (60 * V + (3 * k) + 1)), .int (y 2 (60 * V + (3 * k) + 2))]) (st := []) 0 mv_X12_251 (c_X12_seen o a y hLy (y 2 (60 * V + (3 * k))) (y 2 (60 * V + (3 * k) + 1)) (y 2 (60 * V + (3 * k) + 2))) mW_0 rfl rfl rfl (by decide) (Nat.le_of_ble_eq_true rfl) ⟨Nat.le_refl _, Nat.le_refl _⟩ dX12_read_83 (fun v_ w_ h_ => ?_)
            obtain ⟨x91, rfl, rfl, hx9⟩ := h_
            show J G "read" RX12 cX12_read 5 (some .int) 0 0 3 Q 0 0 86 [(0, .ref o), (1, .int (nI V)), (2, .int (nI k)), (3, .int (nI 1)), (4, .int (nI (60 * V + (3 * k))))] [.int ((oSeen (y 2 (60 * V + (3 * k))) (y 2 (60 * V + (3 * k) + 1)) (y 2 (60 * V + (3 * k) + 2)) (cn y)).1)] (mW G o a x91)
            refine J_if_lt 93 dX12_read_86 (by decide) (fun kcz4 => ?_) (fun kcz4 => ?_)
            · refine J_iconst (v := nI 0) dX12_read_93 (by decide) ?_
              refine J_istore_n [(0, .ref o), (1, .int (nI V)), (2, .int (nI k)), (3, .int (nI 0)), (4, .int (nI (60 * V + (3 * k))))] dX12_read_94 rfl (by decide) rfl rfl rfl ?_
              refine J_iload_n dX12_read_95 rfl rfl ?_
              refine J_iload_n dX12_read_96 rfl rfl ?_
              refine J_if_eq 104 dX12_read_97 (by decide) (fun _ => ?_) (fun c => absurd c (by decide))
              refine J_iconst (v := nI 0) dX12_read_104 (by decide) ?_
              refine J_iaddN dX12_read_105 ?_
              refine J_istore_n [(0, .ref o), (1, .int (nI V)), (2, .int (nI (k + 0))), (3, .int (nI 0)), (4, .int (nI (60 * V + (3 * k))))] dX12_read_106 rfl (by decide) rfl rfl rfl ?_
              refine J_goto 29 dX12_read_107 (by decide) ?_
              refine J_iload_n dX12_read_29 rfl rfl ?_
              refine J_if_eq 110 dX12_read_30 (by decide) (fun _ => ?_) (fun c => absurd c (by decide))
              refine J_iload_n dX12_read_110 rfl rfl ?_
              exact J_iret dX12_read_111 rfl rfl rfl (hq x91 (nI k, cn y) (by rw [hO, ← hrd, rdL, cn_2, if_pos (by omega), if_pos kcz4]) (hx9.trans (oSeen_no hLy kcz4)))
            · refine J_iconst (v := nI 1) dX12_read_89 (by decide) ?_
              refine J_goto 94 dX12_read_90 (by decide) ?_
              refine J_istore_n [(0, .ref o), (1, .int (nI V)), (2, .int (nI k)), (3, .int (nI 1)), (4, .int (nI (60 * V + (3 * k))))] dX12_read_94 rfl (by decide) rfl rfl rfl ?_
              refine J_iload_n dX12_read_95 rfl rfl ?_
              refine J_iload_n dX12_read_96 rfl rfl ?_
              refine J_if_eq 104 dX12_read_97 (by decide) (fun c => absurd c (by decide)) (fun _ => ?_)
              refine J_iconst (v := nI 1) dX12_read_100 (by decide) ?_
              refine J_goto 105 dX12_read_101 (by decide) ?_
              refine J_iaddN dX12_read_105 ?_
              refine J_istore_n [(0, .ref o), (1, .int (nI V)), (2, .int (nI (k + 1))), (3, .int (nI 1)), (4, .int (nI (60 * V + (3 * k))))] dX12_read_106 rfl (by decide) rfl rfl rfl ?_
              refine J_goto 29 dX12_read_107 (by decide) ?_
              refine J_lv [0, 1, 2, 3] rfl ?_
              exact ih29 (k + 1) x91 (by omega) (by omega) (by rw [hx9]; exact li_seen hLy _ _ _) (by rw [← cn_1 x91, hx9]; exact (congrFun (oSeen_k (by decide)) V).trans hy1) (by rw [hx9, ← hrd, rdL, cn_2, if_pos (by omega), if_neg kcz4]) _ rfl
      exact L29 21 0 s (by omega) (by omega) hL eZ rfl _ rfl
    · refine J_aload_n dX12_read_19 rfl rfl ?_
      refine J_iconst (v := nI 1) dX12_read_20 (by decide) ?_
      refine J_cVi (x := yX12_in) [.int (nI 1)] 0 mv_X12_73 (c_X12_finds o a s 1) mW_0 rfl rfl (by decide) (Nat.le_of_ble_eq_true rfl) ⟨Nat.le_refl _, Nat.le_refl _⟩ dX12_read_21 ?_
      show J G "read" RX12 cX12_read 5 (some .int) 0 0 3 Q 0 0 24 [(0, .ref o), (1, .int (nI V))] [.int ((-10) - nI 1)] (mW G o a (su 4 s (fun _ => nI 1)))
      exact J_iret dX12_read_24 rfl rfl rfl (hq (su 4 s (fun _ => nI 1)) ((-10) - nI 1, (su 4 (cn s) (fun _ => nI 1))) (by simp [oRead, fnd, kcz1, eV, kcz2, cn_0, cn_1, cn_2, cn_4, cn_5, cn_6, cn_12, cn_13, cn_16, cn_21, cn_22]) (by rw [cnu_in (k := 4) rfl]))
  · refine J_bipush (v := -2) dX12_read_7 (by decide) ?_
    exact J_iret dX12_read_9 rfl rfl rfl (hq s ((-2), (cn s)) (by simp [oRead, fnd, kcz1, cn_0, cn_1, cn_2, cn_4, cn_5, cn_6, cn_12, cn_13, cn_16, cn_21, cn_22]) rfl)
theorem c_X12_read {G : GT} (o : Nat) (a : Nat → Nat) (s : Nat → Nat → Int32) (hL : LI (cn s)) (v : Int32) : Ct G yX12_read cX12_read 5 (some .int) 0 0 3 [.ref o, .int v] (mW G o a s) (QM G o a (oRead v (cn s))) := Ct.of rfl (Nat.le_of_ble_eq_true rfl) (j_X12_read o a s hL v (fun x r h1 h2 => ⟨x, by rw [h1], rfl, by rw [← h1]; exact h2⟩))
set_option maxRecDepth 100000 in
set_option maxHeartbeats 1000000 in
theorem j_X12_partD {G : GT} (o : Nat) (a : Nat → Nat) (s : Nat → Nat → Int32) (p q w : Int32) {Q : Option Value → va_W → Prop} (hq : ∀ v_ : Int32, v_ = qPart p q w (cn s) → Q (some (.int v_)) (mW G o a s)) : J G "part" RX12 cX12_part 4 (some .int) 0 0 3 Q 0 0 0 [(0, .ref o), (1, .int p), (2, .int q), (3, .int w)] [] (mW G o a s) := by
  refine J_iload_n dX12_part_0 rfl rfl ?_
  refine J_cSi [.int p] ms_X12_136 (c_X12_isAnyone (mW G o a s) p) rfl rfl (by decide) (Nat.le_of_ble_eq_true rfl) ⟨Nat.le_refl _, Nat.le_refl _⟩ dX12_part_1 ?_
  refine J_if_eqB 36 dX12_part_4 (by decide) (fun kcz1 => ?_) (fun kcz1 => ?_)
  · refine J_bipush (v := -2) dX12_part_36 (by decide) ?_
    exact J_iret dX12_part_38 rfl rfl rfl (hq _ (by simp [qPart, kcz1, cn_0, cn_1, cn_2, cn_4, cn_5, cn_6, cn_12, cn_13, cn_16, cn_21, cn_22]))
  · obtain ⟨A, hA, rfl⟩ := (rng_iff (by omega)).mp kcz1
    have eA : (nI A).toNatClampNeg = A := nI_clamp (by omega)
    refine J_iload_n dX12_part_7 rfl rfl ?_
    refine J_cSi [.int q] ms_X12_136 (c_X12_isAnyone (mW G o a s) q) rfl rfl (by decide) (Nat.le_of_ble_eq_true rfl) ⟨Nat.le_refl _, Nat.le_refl _⟩ dX12_part_8 ?_
    refine J_if_eqB 36 dX12_part_11 (by decide) (fun kcz2 => ?_) (fun kcz2 => ?_)
    · refine J_bipush (v := -2) dX12_part_36 (by decide) ?_
      exact J_iret dX12_part_38 rfl rfl rfl (hq _ (by simp [qPart, kcz1, eA, kcz2, cn_0, cn_1, cn_2, cn_4, cn_5, cn_6, cn_12, cn_13, cn_16, cn_21, cn_22]))
    · obtain ⟨B, hB, rfl⟩ := (rng_iff (by omega)).mp kcz2
      have eB : (nI B).toNatClampNeg = B := nI_clamp (by omega)
      refine J_iload_n dX12_part_14 rfl rfl ?_
      refine J_iload_n dX12_part_15 rfl rfl ?_
      refine J_icmp_eqN 36 (by omega) (by omega) dX12_part_16 (by decide) (fun kcz3 => ?_) (fun kcz3 => ?_)
      · refine J_bipush (v := -2) dX12_part_36 (by decide) ?_
        exact J_iret dX12_part_38 rfl rfl rfl (hq _ (by simp [qPart, kcz1, eA, kcz2, eB, kcz3, cn_0, cn_1, cn_2, cn_4, cn_5, cn_6, cn_12, cn_13, cn_16, cn_21, cn_22]))
      · refine J_iload_n dX12_part_19 rfl rfl ?_
        refine J_cSi [.int w] ms_X12_233 (c_X12_isTwo (mW G o a s) w) rfl rfl (by decide) (Nat.le_of_ble_eq_true rfl) ⟨Nat.le_refl _, Nat.le_refl _⟩ dX12_part_20 ?_
        refine J_if_eqB 36 dX12_part_23 (by decide) (fun kcz4 => ?_) (fun kcz4 => ?_)
        · refine J_bipush (v := -2) dX12_part_36 (by decide) ?_
          exact J_iret dX12_part_38 rfl rfl rfl (hq _ (by simp [qPart, kcz1, eA, kcz2, eB, kcz3, kcz4, cn_0, cn_1, cn_2, cn_4, cn_5, cn_6, cn_12, cn_13, cn_16, cn_21, cn_22]))
        · obtain ⟨Wn, hWn, rfl⟩ := (rng_iff (by omega)).mp kcz4
          have eWn : (nI Wn).toNatClampNeg = Wn := nI_clamp (by omega)
          rcases (show Wn = 0 ∨ Wn = 1 by omega) with rfl | rfl
          · refine J_aload_n dX12_part_26 rfl rfl ?_
            refine J_iload_n dX12_part_27 rfl rfl ?_
            refine J_iload_n dX12_part_28 rfl rfl ?_
            refine J_iload_n dX12_part_29 rfl rfl ?_
            refine J_cVi (x := yX12_in) [.int (nI A), .int (nI B), .int (nI 0)] 0 mv_X12_245 (c_X12_partOf0 o a s A B (by omega) (by omega)) mW_0 rfl rfl (by decide) (Nat.le_of_ble_eq_true rfl) ⟨Nat.le_refl _, Nat.le_refl _⟩ dX12_part_30 ?_
            refine J_goto 38 dX12_part_33 (by decide) ?_
            exact J_iret dX12_part_38 rfl rfl rfl (hq _ (by simp [qPart, prS, nI_eq (show A < 2 ^ 31 by omega) (show B < 2 ^ 31 by omega), kcz1, eA, kcz2, eB, kcz3, kcz4, eWn, cn_0, cn_1, cn_2, cn_4, cn_5, cn_6, cn_12, cn_13, cn_16, cn_21, cn_22]))
          · refine J_aload_n dX12_part_26 rfl rfl ?_
            refine J_iload_n dX12_part_27 rfl rfl ?_
            refine J_iload_n dX12_part_28 rfl rfl ?_
            refine J_iload_n dX12_part_29 rfl rfl ?_
            refine J_cVi (x := yX12_in) [.int (nI A), .int (nI B), .int (nI 1)] 0 mv_X12_245 (c_X12_partOf1 o a s A B (by omega) (by omega)) mW_0 rfl rfl (by decide) (Nat.le_of_ble_eq_true rfl) ⟨Nat.le_refl _, Nat.le_refl _⟩ dX12_part_30 ?_
            refine J_goto 38 dX12_part_33 (by decide) ?_
            exact J_iret dX12_part_38 rfl rfl rfl (hq _ (by simp [qPart, prS, nI_eq (show A < 2 ^ 31 by omega) (show B < 2 ^ 31 by omega), kcz1, eA, kcz2, eB, kcz3, kcz4, eWn, cn_0, cn_1, cn_2, cn_4, cn_5, cn_6, cn_12, cn_13, cn_16, cn_21, cn_22]))
theorem c_X12_partD {G : GT} (o : Nat) (a : Nat → Nat) (s : Nat → Nat → Int32) (p q w : Int32) : Ct G yX12_part cX12_part 4 (some .int) 0 0 3 [.ref o, .int p, .int q, .int w] (mW G o a s) (Is (some (.int (qPart p q w (cn s)))) (mW G o a s)) := Ct.of rfl (Nat.le_of_ble_eq_true rfl) (j_X12_partD o a s p q w (fun _ e => by subst e; exact Is.rf _ _))
set_option maxRecDepth 100000 in
set_option maxHeartbeats 1000000 in
theorem j_X12_tellsHabits {G : GT} (o : Nat) (a : Nat → Nat) (s : Nat → Nat → Int32) (σ : St) (hL : LI σ) (hF : Fnn σ s) (h0 : Int64) (k : Nat) (hk : k < nH σ) {Q : Option Value → va_W → Prop} (hq : ∀ (x : St) (r : Int64), r = dHab σ h0 k → Fnn σ x → Q (some (.long r)) (mW G o a x)) : J G "tellsHabits" RX12 cX12_tellsHabits 7 (some .long) 0 0 9 Q 0 0 0 [(0, .ref o), (1, .long h0), (3, .int (nI k))] [] (mW G o a s) := by
  obtain ⟨n, en⟩ : ∃ n, n = nH σ := ⟨_, rfl⟩
  obtain ⟨m, em⟩ : ∃ m, m = nE σ := ⟨_, rfl⟩
  obtain ⟨c, ec⟩ : ∃ c, c = nC σ := ⟨_, rfl⟩
  obtain ⟨rf, erf⟩ : ∃ rf, rf = rfn σ := ⟨_, rfl⟩
  obtain ⟨sg, esg⟩ : ∃ sg, sg = sgn σ := ⟨_, rfl⟩
  have hn8 : n ≤ 8 := by rw [en]; exact nH_le _
  have hm6 : m ≤ 6 := by rw [em]; exact nE_le _
  have hc15 : c ≤ 15 := by rw [ec]; exact nC_le _
  have hrf12 : rf ≤ 12 := by rw [erf]; exact hL.rf.2.1
  have hsg8 : sg ≤ 8 := by rw [esg]; exact hL.sg.2.1
  have hn : s 8 0 = nI n := by rw [en]; exact hF.1.2.1
  have hm : s 8 1 = nI m := by rw [em]; exact hF.1.2.2.1
  have hc : s 8 2 = nI c := by rw [ec]; exact hF.1.2.2.2.1
  have rwH : Rw 5 n (s 9) (HbS σ) := by rw [en]; exact hF.1.2.2.2.2.1
  have rwE : Rw 3 m (s 10) (HeS σ) := by rw [em]; exact hF.1.2.2.2.2.2.1
  have rwC : Rw 4 c (s 11) (ClS σ) := by rw [ec]; exact hF.1.2.2.2.2.2.2
  have hCl : ∀ k, k < c → s 11 (4 * k + 3) = -1 ∨ ∃ j, j < 8 ∧ s 11 (4 * k + 3) = nI j := by rw [ec]; exact hF.1.ask
  have hHe : ∀ e, e < m → ¬ s 10 (3 * e) < nI 0 := by rw [em]; exact hF.1.room
  have hrf : s 12 0 = nI rf := by rw [erf]; exact (congrFun (hF.1.c (k := 12) rfl) 0).trans hL.rf.1
  have hsg : s 21 0 = nI sg := by rw [esg]; exact (congrFun (hF.1.c (k := 21) rfl) 0).trans hL.sg.1
  have hSg : ∀ k, k < sg → ∃ t, t < 24 ∧ s 22 (3 * k) = nI t := by rw [esg, hF.1.c (k := 22) rfl]; exact fun k hk => (hL.sg.2.2 k hk).1
  have hc_s : cn s = σ := hF.1.1
  have hao : s 15 0 = nI 0 := hF.2.1
  have h17 := hF.2.2.1
  have h18 := hF.2.2.2
  refine J_lload_n dX12_tellsHabits_0 rfl rfl ?_
  refine J_lstore [(0, .ref o), (1, .long h0), (3, .int (nI k)), (4, .long h0)] dX12_tellsHabits_1 (by decide) rfl rfl rfl ?_
  refine J_iconst (v := nI 0) dX12_tellsHabits_3 (by decide) ?_
  refine J_istore [(0, .ref o), (1, .long h0), (3, .int (nI k)), (4, .long h0), (6, .int (nI 0))] dX12_tellsHabits_4 (by decide) rfl rfl rfl ?_
  refine J_iload dX12_tellsHabits_6 rfl ?_
  refine J_iconst (v := nI 5) dX12_tellsHabits_8 (by decide) ?_
  refine J_icmp_ge 39 dX12_tellsHabits_9 (by decide) (fun c => absurd c (by decide)) (fun _ => ?_)
  refine J_ldc2 dX12_tellsHabits_12 k_X12_296 ?_
  refine J_lload dX12_tellsHabits_15 rfl ?_
  refine J_lmul dX12_tellsHabits_17 ?_
  refine J_aload_n dX12_tellsHabits_18 rfl rfl ?_
  refine Mg_9 dX12_tellsHabits_19 ?_
  refine J_iconst (v := nI 5) dX12_tellsHabits_22 (by decide) ?_
  refine J_iload_n dX12_tellsHabits_23 rfl rfl ?_
  refine J_imulN dX12_tellsHabits_24 ?_
  refine J_iload dX12_tellsHabits_25 rfl ?_
  refine J_iaddN dX12_tellsHabits_27 ?_
  refine Ml_9 (s := s) (s 9) rfl (5 * k + 0) rfl (by omega) dX12_tellsHabits_28 ?_
  refine J_rw (y := qHabit (nI k) (nI 0) σ) (q_hab hF hk (by decide)) ?_
  refine J_i2l dX12_tellsHabits_29 ?_
  refine J_ladd dX12_tellsHabits_30 ?_
  refine J_lstore [(0, .ref o), (1, .long h0), (3, .int (nI k)), (4, .long (((31) * h0) + ((qHabit (nI k) (nI 0) σ).toInt64))), (6, .int (nI 0))] dX12_tellsHabits_31 (by decide) rfl rfl rfl ?_
  refine J_iincN [(0, .ref o), (1, .long h0), (3, .int (nI k)), (4, .long (((31) * h0) + ((qHabit (nI k) (nI 0) σ).toInt64))), (6, .int (nI 1))] dX12_tellsHabits_33 rfl (by decide) rfl rfl rfl ?_
  refine J_goto 6 dX12_tellsHabits_36 (by decide) ?_
  refine J_iload dX12_tellsHabits_6 rfl ?_
  refine J_iconst (v := nI 5) dX12_tellsHabits_8 (by decide) ?_
  refine J_icmp_ge 39 dX12_tellsHabits_9 (by decide) (fun c => absurd c (by decide)) (fun _ => ?_)
  refine J_ldc2 dX12_tellsHabits_12 k_X12_296 ?_
  refine J_lload dX12_tellsHabits_15 rfl ?_
  refine J_lmul dX12_tellsHabits_17 ?_
  refine J_aload_n dX12_tellsHabits_18 rfl rfl ?_
  refine Mg_9 dX12_tellsHabits_19 ?_
  refine J_iconst (v := nI 5) dX12_tellsHabits_22 (by decide) ?_
  refine J_iload_n dX12_tellsHabits_23 rfl rfl ?_
  refine J_imulN dX12_tellsHabits_24 ?_
  refine J_iload dX12_tellsHabits_25 rfl ?_
  refine J_iaddN dX12_tellsHabits_27 ?_
  refine Ml_9 (s := s) (s 9) rfl (5 * k + 1) rfl (by omega) dX12_tellsHabits_28 ?_
  refine J_rw (y := qHabit (nI k) (nI 1) σ) (q_hab hF hk (by decide)) ?_
  refine J_i2l dX12_tellsHabits_29 ?_
  refine J_ladd dX12_tellsHabits_30 ?_
  refine J_lstore [(0, .ref o), (1, .long h0), (3, .int (nI k)), (4, .long (((31) * (((31) * h0) + ((qHabit (nI k) (nI 0) σ).toInt64))) + ((qHabit (nI k) (nI 1) σ).toInt64))), (6, .int (nI 1))] dX12_tellsHabits_31 (by decide) rfl rfl rfl ?_
  refine J_iincN [(0, .ref o), (1, .long h0), (3, .int (nI k)), (4, .long (((31) * (((31) * h0) + ((qHabit (nI k) (nI 0) σ).toInt64))) + ((qHabit (nI k) (nI 1) σ).toInt64))), (6, .int (nI 2))] dX12_tellsHabits_33 rfl (by decide) rfl rfl rfl ?_
  refine J_goto 6 dX12_tellsHabits_36 (by decide) ?_
  refine J_iload dX12_tellsHabits_6 rfl ?_
  refine J_iconst (v := nI 5) dX12_tellsHabits_8 (by decide) ?_
  refine J_icmp_ge 39 dX12_tellsHabits_9 (by decide) (fun c => absurd c (by decide)) (fun _ => ?_)
  refine J_ldc2 dX12_tellsHabits_12 k_X12_296 ?_
  refine J_lload dX12_tellsHabits_15 rfl ?_
  refine J_lmul dX12_tellsHabits_17 ?_
  refine J_aload_n dX12_tellsHabits_18 rfl rfl ?_
  refine Mg_9 dX12_tellsHabits_19 ?_
  refine J_iconst (v := nI 5) dX12_tellsHabits_22 (by decide) ?_
  refine J_iload_n dX12_tellsHabits_23 rfl rfl ?_
  refine J_imulN dX12_tellsHabits_24 ?_
  refine J_iload dX12_tellsHabits_25 rfl ?_
  refine J_iaddN dX12_tellsHabits_27 ?_
  refine Ml_9 (s := s) (s 9) rfl (5 * k + 2) rfl (by omega) dX12_tellsHabits_28 ?_
  refine J_rw (y := qHabit (nI k) (nI 2) σ) (q_hab hF hk (by decide)) ?_
  refine J_i2l dX12_tellsHabits_29 ?_
  refine J_ladd dX12_tellsHabits_30 ?_
  refine J_lstore [(0, .ref o), (1, .long h0), (3, .int (nI k)), (4, .long (((31) * (((31) * (((31) * h0) + ((qHabit (nI k) (nI 0) σ).toInt64))) + ((qHabit (nI k) (nI 1) σ).toInt64))) + ((qHabit (nI k) (nI 2) σ).toInt64))), (6, .int (nI 2))] dX12_tellsHabits_31 (by decide) rfl rfl rfl ?_
  refine J_iincN [(0, .ref o), (1, .long h0), (3, .int (nI k)), (4, .long (((31) * (((31) * (((31) * h0) + ((qHabit (nI k) (nI 0) σ).toInt64))) + ((qHabit (nI k) (nI 1) σ).toInt64))) + ((qHabit (nI k) (nI 2) σ).toInt64))), (6, .int (nI 3))] dX12_tellsHabits_33 rfl (by decide) rfl rfl rfl ?_
  refine J_goto 6 dX12_tellsHabits_36 (by decide) ?_
  refine J_iload dX12_tellsHabits_6 rfl ?_
  refine J_iconst (v := nI 5) dX12_tellsHabits_8 (by decide) ?_
  refine J_icmp_ge 39 dX12_tellsHabits_9 (by decide) (fun c => absurd c (by decide)) (fun _ => ?_)
  refine J_ldc2 dX12_tellsHabits_12 k_X12_296 ?_
  refine J_lload dX12_tellsHabits_15 rfl ?_
  refine J_lmul dX12_tellsHabits_17 ?_
  refine J_aload_n dX12_tellsHabits_18 rfl rfl ?_
  refine Mg_9 dX12_tellsHabits_19 ?_
  refine J_iconst (v := nI 5) dX12_tellsHabits_22 (by decide) ?_
  refine J_iload_n dX12_tellsHabits_23 rfl rfl ?_
  refine J_imulN dX12_tellsHabits_24 ?_
  refine J_iload dX12_tellsHabits_25 rfl ?_
  refine J_iaddN dX12_tellsHabits_27 ?_
  refine Ml_9 (s := s) (s 9) rfl (5 * k + 3) rfl (by omega) dX12_tellsHabits_28 ?_
  refine J_rw (y := qHabit (nI k) (nI 3) σ) (q_hab hF hk (by decide)) ?_
  refine J_i2l dX12_tellsHabits_29 ?_
  refine J_ladd dX12_tellsHabits_30 ?_
  refine J_lstore [(0, .ref o), (1, .long h0), (3, .int (nI k)), (4, .long (((31) * (((31) * (((31) * (((31) * h0) + ((qHabit (nI k) (nI 0) σ).toInt64))) + ((qHabit (nI k) (nI 1) σ).toInt64))) + ((qHabit (nI k) (nI 2) σ).toInt64))) + ((qHabit (nI k) (nI 3) σ).toInt64))), (6, .int (nI 3))] dX12_tellsHabits_31 (by decide) rfl rfl rfl ?_
  refine J_iincN [(0, .ref o), (1, .long h0), (3, .int (nI k)), (4, .long (((31) * (((31) * (((31) * (((31) * h0) + ((qHabit (nI k) (nI 0) σ).toInt64))) + ((qHabit (nI k) (nI 1) σ).toInt64))) + ((qHabit (nI k) (nI 2) σ).toInt64))) + ((qHabit (nI k) (nI 3) σ).toInt64))), (6, .int (nI 4))] dX12_tellsHabits_33 rfl (by decide) rfl rfl rfl ?_
  refine J_goto 6 dX12_tellsHabits_36 (by decide) ?_
  refine J_iload dX12_tellsHabits_6 rfl ?_
  refine J_iconst (v := nI 5) dX12_tellsHabits_8 (by decide) ?_
  refine J_icmp_ge 39 dX12_tellsHabits_9 (by decide) (fun c => absurd c (by decide)) (fun _ => ?_)
  refine J_ldc2 dX12_tellsHabits_12 k_X12_296 ?_
  refine J_lload dX12_tellsHabits_15 rfl ?_
  refine J_lmul dX12_tellsHabits_17 ?_
  refine J_aload_n dX12_tellsHabits_18 rfl rfl ?_
  refine Mg_9 dX12_tellsHabits_19 ?_
  refine J_iconst (v := nI 5) dX12_tellsHabits_22 (by decide) ?_
  refine J_iload_n dX12_tellsHabits_23 rfl rfl ?_
  refine J_imulN dX12_tellsHabits_24 ?_
  refine J_iload dX12_tellsHabits_25 rfl ?_
  refine J_iaddN dX12_tellsHabits_27 ?_
  refine Ml_9 (s := s) (s 9) rfl (5 * k + 4) rfl (by omega) dX12_tellsHabits_28 ?_
  refine J_rw (y := qHabit (nI k) (nI 4) σ) (q_hab hF hk (by decide)) ?_
  refine J_i2l dX12_tellsHabits_29 ?_
  refine J_ladd dX12_tellsHabits_30 ?_
  refine J_lstore [(0, .ref o), (1, .long h0), (3, .int (nI k)), (4, .long (((31) * (((31) * (((31) * (((31) * (((31) * h0) + ((qHabit (nI k) (nI 0) σ).toInt64))) + ((qHabit (nI k) (nI 1) σ).toInt64))) + ((qHabit (nI k) (nI 2) σ).toInt64))) + ((qHabit (nI k) (nI 3) σ).toInt64))) + ((qHabit (nI k) (nI 4) σ).toInt64))), (6, .int (nI 4))] dX12_tellsHabits_31 (by decide) rfl rfl rfl ?_
  refine J_iincN [(0, .ref o), (1, .long h0), (3, .int (nI k)), (4, .long (((31) * (((31) * (((31) * (((31) * (((31) * h0) + ((qHabit (nI k) (nI 0) σ).toInt64))) + ((qHabit (nI k) (nI 1) σ).toInt64))) + ((qHabit (nI k) (nI 2) σ).toInt64))) + ((qHabit (nI k) (nI 3) σ).toInt64))) + ((qHabit (nI k) (nI 4) σ).toInt64))), (6, .int (nI 5))] dX12_tellsHabits_33 rfl (by decide) rfl rfl rfl ?_
  refine J_goto 6 dX12_tellsHabits_36 (by decide) ?_
  refine J_iload dX12_tellsHabits_6 rfl ?_
  refine J_iconst (v := nI 5) dX12_tellsHabits_8 (by decide) ?_
  refine J_icmp_ge 39 dX12_tellsHabits_9 (by decide) (fun _ => ?_) (fun c => absurd c (by decide))
  refine J_ldc2 dX12_tellsHabits_39 k_X12_296 ?_
  refine J_lload dX12_tellsHabits_42 rfl ?_
  refine J_lmul dX12_tellsHabits_44 ?_
  refine J_aload_n dX12_tellsHabits_45 rfl rfl ?_
  refine Mg_17 dX12_tellsHabits_46 ?_
  refine J_iload_n dX12_tellsHabits_49 rfl rfl ?_
  refine Ml_17 (s := s) (s 17) rfl k rfl (by omega) dX12_tellsHabits_50 ?_
  refine J_rw (y := qWith (nI k) σ) (q_with hF hk) ?_
  refine J_i2l dX12_tellsHabits_51 ?_
  refine J_ladd dX12_tellsHabits_52 ?_
  refine J_lstore [(0, .ref o), (1, .long h0), (3, .int (nI k)), (4, .long (((31) * (((31) * (((31) * (((31) * (((31) * (((31) * h0) + ((qHabit (nI k) (nI 0) σ).toInt64))) + ((qHabit (nI k) (nI 1) σ).toInt64))) + ((qHabit (nI k) (nI 2) σ).toInt64))) + ((qHabit (nI k) (nI 3) σ).toInt64))) + ((qHabit (nI k) (nI 4) σ).toInt64))) + ((qWith (nI k) σ).toInt64))), (6, .int (nI 5))] dX12_tellsHabits_53 (by decide) rfl rfl rfl ?_
  refine J_ldc2 dX12_tellsHabits_55 k_X12_296 ?_
  refine J_lload dX12_tellsHabits_58 rfl ?_
  refine J_lmul dX12_tellsHabits_60 ?_
  refine J_aload_n dX12_tellsHabits_61 rfl rfl ?_
  refine J_iload_n dX12_tellsHabits_62 rfl rfl ?_
  refine J_cVi (x := yX12_in) [.int (nI k)] 0 mv_X12_258 (c_X12_whoseOf o a s n hn hn8 m hm hm6 sg hsg hsg8 hSg k (by omega)) mW_0 rfl rfl (by decide) (Nat.le_of_ble_eq_true rfl) ⟨Nat.le_refl _, Nat.le_refl _⟩ dX12_tellsHabits_63 ?_
  refine J_rw (y := qWhose (nI k) σ) (by rw [en, em, esg]; exact q_whose hF hk) ?_
  refine J_i2l dX12_tellsHabits_66 ?_
  refine J_ladd dX12_tellsHabits_67 ?_
  refine J_lstore [(0, .ref o), (1, .long h0), (3, .int (nI k)), (4, .long (((31) * (((31) * (((31) * (((31) * (((31) * (((31) * (((31) * h0) + ((qHabit (nI k) (nI 0) σ).toInt64))) + ((qHabit (nI k) (nI 1) σ).toInt64))) + ((qHabit (nI k) (nI 2) σ).toInt64))) + ((qHabit (nI k) (nI 3) σ).toInt64))) + ((qHabit (nI k) (nI 4) σ).toInt64))) + ((qWith (nI k) σ).toInt64))) + ((qWhose (nI k) σ).toInt64))), (6, .int (nI 5))] dX12_tellsHabits_68 (by decide) rfl rfl rfl ?_
  refine J_ldc2 dX12_tellsHabits_70 k_X12_296 ?_
  refine J_lload dX12_tellsHabits_73 rfl ?_
  refine J_lmul dX12_tellsHabits_75 ?_
  refine J_aload_n dX12_tellsHabits_76 rfl rfl ?_
  refine J_iload_n dX12_tellsHabits_77 rfl rfl ?_
  refine J_iconst (v := nI 0) dX12_tellsHabits_78 (by decide) ?_
  refine J_callV (wr := []) (As := [.int (nI k), .int (nI 0)]) (st := [.long ((31) * (((31) * (((31) * (((31) * (((31) * (((31) * (((31) * (((31) * h0) + ((qHabit (nI k) (nI 0) σ).toInt64))) + ((qHabit (nI k) (nI 1) σ).toInt64))) + ((qHabit (nI k) (nI 2) σ).toInt64))) + ((qHabit (nI k) (nI 3) σ).toInt64))) + ((qHabit (nI k) (nI 4) σ).toInt64))) + ((qWith (nI k) σ).toInt64))) + ((qWhose (nI k) σ).toInt64)))]) 0 mv_X12_298 (c_X12_look o a s (by rw [hF.1.1]; exact hL) (nI k) (nI 0)) mW_0 rfl rfl rfl (by decide) (Nat.le_of_ble_eq_true rfl) ⟨Nat.le_refl _, Nat.le_refl _⟩ dX12_tellsHabits_79 (fun v_ w_ h_ => ?_)
  obtain ⟨x92, rfl, rfl, hx9⟩ := h_
  rw [hF.1.1] at hx9
  show J G "tellsHabits" RX12 cX12_tellsHabits 7 (some .long) 0 0 9 Q 0 0 82 [(0, .ref o), (1, .long h0), (3, .int (nI k)), (4, .long (((31) * (((31) * (((31) * (((31) * (((31) * (((31) * (((31) * h0) + ((qHabit (nI k) (nI 0) σ).toInt64))) + ((qHabit (nI k) (nI 1) σ).toInt64))) + ((qHabit (nI k) (nI 2) σ).toInt64))) + ((qHabit (nI k) (nI 3) σ).toInt64))) + ((qHabit (nI k) (nI 4) σ).toInt64))) + ((qWith (nI k) σ).toInt64))) + ((qWhose (nI k) σ).toInt64))), (6, .int (nI 5))] [.int (qLook (nI k) (nI 0) (cn s)), .long ((31) * (((31) * (((31) * (((31) * (((31) * (((31) * (((31) * (((31) * h0) + ((qHabit (nI k) (nI 0) σ).toInt64))) + ((qHabit (nI k) (nI 1) σ).toInt64))) + ((qHabit (nI k) (nI 2) σ).toInt64))) + ((qHabit (nI k) (nI 3) σ).toInt64))) + ((qHabit (nI k) (nI 4) σ).toInt64))) + ((qWith (nI k) σ).toInt64))) + ((qWhose (nI k) σ).toInt64)))] (mW G o a x92)
  refine J_rw (y := qLook (nI k) (nI 0) σ) (by rw [hF.1.1]) ?_
  refine J_i2l dX12_tellsHabits_82 ?_
  refine J_ladd dX12_tellsHabits_83 ?_
  exact J_lret dX12_tellsHabits_84 rfl rfl rfl (hq _ _ rfl hx9)
theorem c_X12_tellsHabits {G : GT} (o : Nat) (a : Nat → Nat) (s : Nat → Nat → Int32) (σ : St) (hL : LI σ) (hF : Fnn σ s) (h0 : Int64) (k : Nat) (hk : k < nH σ) : Ct G yX12_tellsHabits cX12_tellsHabits 7 (some .long) 0 0 9 [.ref o, .long h0, .int (nI k)] (mW G o a s) (QLF G o a (dHab σ h0 k) σ) := Ct.of rfl (Nat.le_of_ble_eq_true rfl) (j_X12_tellsHabits o a s σ hL hF h0 k hk (fun x r h1 h2 => ⟨x, by rw [h1], rfl, h2⟩))
set_option maxRecDepth 100000 in
set_option maxHeartbeats 1000000 in
theorem j_X12_tellsHeirs {G : GT} (o : Nat) (a : Nat → Nat) (s : Nat → Nat → Int32) (σ : St) (hL : LI σ) (hF : Fnn σ s) (h0 : Int64) (e : Nat) (he : e < nE σ) {Q : Option Value → va_W → Prop} (hq : ∀ (x : St) (r : Int64), r = dPlan σ (dHeir σ h0 e) e → Fnn σ x → Q (some (.long r)) (mW G o a x)) : J G "tellsHeirs" RX12 cX12_tellsHeirs 7 (some .long) 0 0 9 Q 0 0 0 [(0, .ref o), (1, .long h0), (3, .int (nI e))] [] (mW G o a s) := by
  obtain ⟨n, en⟩ : ∃ n, n = nH σ := ⟨_, rfl⟩
  obtain ⟨m, em⟩ : ∃ m, m = nE σ := ⟨_, rfl⟩
  obtain ⟨c, ec⟩ : ∃ c, c = nC σ := ⟨_, rfl⟩
  obtain ⟨rf, erf⟩ : ∃ rf, rf = rfn σ := ⟨_, rfl⟩
  obtain ⟨sg, esg⟩ : ∃ sg, sg = sgn σ := ⟨_, rfl⟩
  have hn8 : n ≤ 8 := by rw [en]; exact nH_le _
  have hm6 : m ≤ 6 := by rw [em]; exact nE_le _
  have hc15 : c ≤ 15 := by rw [ec]; exact nC_le _
  have hrf12 : rf ≤ 12 := by rw [erf]; exact hL.rf.2.1
  have hsg8 : sg ≤ 8 := by rw [esg]; exact hL.sg.2.1
  have hn : s 8 0 = nI n := by rw [en]; exact hF.1.2.1
  have hm : s 8 1 = nI m := by rw [em]; exact hF.1.2.2.1
  have hc : s 8 2 = nI c := by rw [ec]; exact hF.1.2.2.2.1
  have rwH : Rw 5 n (s 9) (HbS σ) := by rw [en]; exact hF.1.2.2.2.2.1
  have rwE : Rw 3 m (s 10) (HeS σ) := by rw [em]; exact hF.1.2.2.2.2.2.1
  have rwC : Rw 4 c (s 11) (ClS σ) := by rw [ec]; exact hF.1.2.2.2.2.2.2
  have hCl : ∀ k, k < c → s 11 (4 * k + 3) = -1 ∨ ∃ j, j < 8 ∧ s 11 (4 * k + 3) = nI j := by rw [ec]; exact hF.1.ask
  have hHe : ∀ e, e < m → ¬ s 10 (3 * e) < nI 0 := by rw [em]; exact hF.1.room
  have hrf : s 12 0 = nI rf := by rw [erf]; exact (congrFun (hF.1.c (k := 12) rfl) 0).trans hL.rf.1
  have hsg : s 21 0 = nI sg := by rw [esg]; exact (congrFun (hF.1.c (k := 21) rfl) 0).trans hL.sg.1
  have hSg : ∀ k, k < sg → ∃ t, t < 24 ∧ s 22 (3 * k) = nI t := by rw [esg, hF.1.c (k := 22) rfl]; exact fun k hk => (hL.sg.2.2 k hk).1
  have hc_s : cn s = σ := hF.1.1
  have hao : s 15 0 = nI 0 := hF.2.1
  have h17 := hF.2.2.1
  have h18 := hF.2.2.2
  refine J_lload_n dX12_tellsHeirs_0 rfl rfl ?_
  refine J_lstore [(0, .ref o), (1, .long h0), (3, .int (nI e)), (4, .long h0)] dX12_tellsHeirs_1 (by decide) rfl rfl rfl ?_
  refine J_iconst (v := nI 0) dX12_tellsHeirs_3 (by decide) ?_
  refine J_istore [(0, .ref o), (1, .long h0), (3, .int (nI e)), (4, .long h0), (6, .int (nI 0))] dX12_tellsHeirs_4 (by decide) rfl rfl rfl ?_
  refine J_iload dX12_tellsHeirs_6 rfl ?_
  refine J_iconst (v := nI 3) dX12_tellsHeirs_8 (by decide) ?_
  refine J_icmp_ge 39 dX12_tellsHeirs_9 (by decide) (fun c => absurd c (by decide)) (fun _ => ?_)
  refine J_ldc2 dX12_tellsHeirs_12 k_X12_296 ?_
  refine J_lload dX12_tellsHeirs_15 rfl ?_
  refine J_lmul dX12_tellsHeirs_17 ?_
  refine J_aload_n dX12_tellsHeirs_18 rfl rfl ?_
  refine Mg_10 dX12_tellsHeirs_19 ?_
  refine J_iconst (v := nI 3) dX12_tellsHeirs_22 (by decide) ?_
  refine J_iload_n dX12_tellsHeirs_23 rfl rfl ?_
  refine J_imulN dX12_tellsHeirs_24 ?_
  refine J_iload dX12_tellsHeirs_25 rfl ?_
  refine J_iaddN dX12_tellsHeirs_27 ?_
  refine Ml_10 (s := s) (s 10) rfl (3 * e + 0) rfl (by omega) dX12_tellsHeirs_28 ?_
  refine J_rw (y := qHeir (nI e) (nI 0) σ) (q_heir hF he (by decide)) ?_
  refine J_i2l dX12_tellsHeirs_29 ?_
  refine J_ladd dX12_tellsHeirs_30 ?_
  refine J_lstore [(0, .ref o), (1, .long h0), (3, .int (nI e)), (4, .long (((31) * h0) + ((qHeir (nI e) (nI 0) σ).toInt64))), (6, .int (nI 0))] dX12_tellsHeirs_31 (by decide) rfl rfl rfl ?_
  refine J_iincN [(0, .ref o), (1, .long h0), (3, .int (nI e)), (4, .long (((31) * h0) + ((qHeir (nI e) (nI 0) σ).toInt64))), (6, .int (nI 1))] dX12_tellsHeirs_33 rfl (by decide) rfl rfl rfl ?_
  refine J_goto 6 dX12_tellsHeirs_36 (by decide) ?_
  refine J_iload dX12_tellsHeirs_6 rfl ?_
  refine J_iconst (v := nI 3) dX12_tellsHeirs_8 (by decide) ?_
  refine J_icmp_ge 39 dX12_tellsHeirs_9 (by decide) (fun c => absurd c (by decide)) (fun _ => ?_)
  refine J_ldc2 dX12_tellsHeirs_12 k_X12_296 ?_
  refine J_lload dX12_tellsHeirs_15 rfl ?_
  refine J_lmul dX12_tellsHeirs_17 ?_
  refine J_aload_n dX12_tellsHeirs_18 rfl rfl ?_
  refine Mg_10 dX12_tellsHeirs_19 ?_
  refine J_iconst (v := nI 3) dX12_tellsHeirs_22 (by decide) ?_
  refine J_iload_n dX12_tellsHeirs_23 rfl rfl ?_
  refine J_imulN dX12_tellsHeirs_24 ?_
  refine J_iload dX12_tellsHeirs_25 rfl ?_
  refine J_iaddN dX12_tellsHeirs_27 ?_
  refine Ml_10 (s := s) (s 10) rfl (3 * e + 1) rfl (by omega) dX12_tellsHeirs_28 ?_
  refine J_rw (y := qHeir (nI e) (nI 1) σ) (q_heir hF he (by decide)) ?_
  refine J_i2l dX12_tellsHeirs_29 ?_
  refine J_ladd dX12_tellsHeirs_30 ?_
  refine J_lstore [(0, .ref o), (1, .long h0), (3, .int (nI e)), (4, .long (((31) * (((31) * h0) + ((qHeir (nI e) (nI 0) σ).toInt64))) + ((qHeir (nI e) (nI 1) σ).toInt64))), (6, .int (nI 1))] dX12_tellsHeirs_31 (by decide) rfl rfl rfl ?_
  refine J_iincN [(0, .ref o), (1, .long h0), (3, .int (nI e)), (4, .long (((31) * (((31) * h0) + ((qHeir (nI e) (nI 0) σ).toInt64))) + ((qHeir (nI e) (nI 1) σ).toInt64))), (6, .int (nI 2))] dX12_tellsHeirs_33 rfl (by decide) rfl rfl rfl ?_
  refine J_goto 6 dX12_tellsHeirs_36 (by decide) ?_
  refine J_iload dX12_tellsHeirs_6 rfl ?_
  refine J_iconst (v := nI 3) dX12_tellsHeirs_8 (by decide) ?_
  refine J_icmp_ge 39 dX12_tellsHeirs_9 (by decide) (fun c => absurd c (by decide)) (fun _ => ?_)
  refine J_ldc2 dX12_tellsHeirs_12 k_X12_296 ?_
  refine J_lload dX12_tellsHeirs_15 rfl ?_
  refine J_lmul dX12_tellsHeirs_17 ?_
  refine J_aload_n dX12_tellsHeirs_18 rfl rfl ?_
  refine Mg_10 dX12_tellsHeirs_19 ?_
  refine J_iconst (v := nI 3) dX12_tellsHeirs_22 (by decide) ?_
  refine J_iload_n dX12_tellsHeirs_23 rfl rfl ?_
  refine J_imulN dX12_tellsHeirs_24 ?_
  refine J_iload dX12_tellsHeirs_25 rfl ?_
  refine J_iaddN dX12_tellsHeirs_27 ?_
  refine Ml_10 (s := s) (s 10) rfl (3 * e + 2) rfl (by omega) dX12_tellsHeirs_28 ?_
  refine J_rw (y := qHeir (nI e) (nI 2) σ) (q_heir hF he (by decide)) ?_
  refine J_i2l dX12_tellsHeirs_29 ?_
  refine J_ladd dX12_tellsHeirs_30 ?_
  refine J_lstore [(0, .ref o), (1, .long h0), (3, .int (nI e)), (4, .long (((31) * (((31) * (((31) * h0) + ((qHeir (nI e) (nI 0) σ).toInt64))) + ((qHeir (nI e) (nI 1) σ).toInt64))) + ((qHeir (nI e) (nI 2) σ).toInt64))), (6, .int (nI 2))] dX12_tellsHeirs_31 (by decide) rfl rfl rfl ?_
  refine J_iincN [(0, .ref o), (1, .long h0), (3, .int (nI e)), (4, .long (((31) * (((31) * (((31) * h0) + ((qHeir (nI e) (nI 0) σ).toInt64))) + ((qHeir (nI e) (nI 1) σ).toInt64))) + ((qHeir (nI e) (nI 2) σ).toInt64))), (6, .int (nI 3))] dX12_tellsHeirs_33 rfl (by decide) rfl rfl rfl ?_
  refine J_goto 6 dX12_tellsHeirs_36 (by decide) ?_
  refine J_iload dX12_tellsHeirs_6 rfl ?_
  refine J_iconst (v := nI 3) dX12_tellsHeirs_8 (by decide) ?_
  refine J_icmp_ge 39 dX12_tellsHeirs_9 (by decide) (fun _ => ?_) (fun c => absurd c (by decide))
  refine J_iconst (v := nI 0) dX12_tellsHeirs_39 (by decide) ?_
  refine J_istore [(0, .ref o), (1, .long h0), (3, .int (nI e)), (4, .long (((31) * (((31) * (((31) * h0) + ((qHeir (nI e) (nI 0) σ).toInt64))) + ((qHeir (nI e) (nI 1) σ).toInt64))) + ((qHeir (nI e) (nI 2) σ).toInt64))), (6, .int (nI 0))] dX12_tellsHeirs_40 (by decide) rfl rfl rfl ?_
  refine J_iload dX12_tellsHeirs_42 rfl ?_
  refine J_iconst (v := nI 4) dX12_tellsHeirs_44 (by decide) ?_
  refine J_icmp_ge 71 dX12_tellsHeirs_45 (by decide) (fun c => absurd c (by decide)) (fun _ => ?_)
  refine J_ldc2 dX12_tellsHeirs_48 k_X12_296 ?_
  refine J_lload dX12_tellsHeirs_51 rfl ?_
  refine J_lmul dX12_tellsHeirs_53 ?_
  refine J_aload_n dX12_tellsHeirs_54 rfl rfl ?_
  refine J_iload_n dX12_tellsHeirs_55 rfl rfl ?_
  refine J_iload dX12_tellsHeirs_56 rfl ?_
  refine J_cVi (x := yX12_in) [.int (nI e), .int (nI 0)] 0 mv_X12_201 (c_X12_hasOf0 o a s n hn hn8 e (by omega)) mW_0 rfl rfl (by decide) (Nat.le_of_ble_eq_true rfl) ⟨Nat.le_refl _, Nat.le_refl _⟩ dX12_tellsHeirs_58 ?_
  refine J_rw (y := qHas (nI e) (nI 0) σ) (by rw [en]; exact q_has0 hF he) ?_
  refine J_i2l dX12_tellsHeirs_61 ?_
  refine J_ladd dX12_tellsHeirs_62 ?_
  refine J_lstore [(0, .ref o), (1, .long h0), (3, .int (nI e)), (4, .long (((31) * (((31) * (((31) * (((31) * h0) + ((qHeir (nI e) (nI 0) σ).toInt64))) + ((qHeir (nI e) (nI 1) σ).toInt64))) + ((qHeir (nI e) (nI 2) σ).toInt64))) + ((qHas (nI e) (nI 0) σ).toInt64))), (6, .int (nI 0))] dX12_tellsHeirs_63 (by decide) rfl rfl rfl ?_
  refine J_iincN [(0, .ref o), (1, .long h0), (3, .int (nI e)), (4, .long (((31) * (((31) * (((31) * (((31) * h0) + ((qHeir (nI e) (nI 0) σ).toInt64))) + ((qHeir (nI e) (nI 1) σ).toInt64))) + ((qHeir (nI e) (nI 2) σ).toInt64))) + ((qHas (nI e) (nI 0) σ).toInt64))), (6, .int (nI 1))] dX12_tellsHeirs_65 rfl (by decide) rfl rfl rfl ?_
  refine J_goto 42 dX12_tellsHeirs_68 (by decide) ?_
  refine J_iload dX12_tellsHeirs_42 rfl ?_
  refine J_iconst (v := nI 4) dX12_tellsHeirs_44 (by decide) ?_
  refine J_icmp_ge 71 dX12_tellsHeirs_45 (by decide) (fun c => absurd c (by decide)) (fun _ => ?_)
  refine J_ldc2 dX12_tellsHeirs_48 k_X12_296 ?_
  refine J_lload dX12_tellsHeirs_51 rfl ?_
  refine J_lmul dX12_tellsHeirs_53 ?_
  refine J_aload_n dX12_tellsHeirs_54 rfl rfl ?_
  refine J_iload_n dX12_tellsHeirs_55 rfl rfl ?_
  refine J_iload dX12_tellsHeirs_56 rfl ?_
  refine J_cVi (x := yX12_in) [.int (nI e), .int (nI 1)] 0 mv_X12_201 (c_X12_hasOf1 o a s n hn hn8 e (by omega)) mW_0 rfl rfl (by decide) (Nat.le_of_ble_eq_true rfl) ⟨Nat.le_refl _, Nat.le_refl _⟩ dX12_tellsHeirs_58 ?_
  refine J_rw (y := qHas (nI e) (nI 1) σ) (by rw [en]; exact q_has1 hF he) ?_
  refine J_i2l dX12_tellsHeirs_61 ?_
  refine J_ladd dX12_tellsHeirs_62 ?_
  refine J_lstore [(0, .ref o), (1, .long h0), (3, .int (nI e)), (4, .long (((31) * (((31) * (((31) * (((31) * (((31) * h0) + ((qHeir (nI e) (nI 0) σ).toInt64))) + ((qHeir (nI e) (nI 1) σ).toInt64))) + ((qHeir (nI e) (nI 2) σ).toInt64))) + ((qHas (nI e) (nI 0) σ).toInt64))) + ((qHas (nI e) (nI 1) σ).toInt64))), (6, .int (nI 1))] dX12_tellsHeirs_63 (by decide) rfl rfl rfl ?_
  refine J_iincN [(0, .ref o), (1, .long h0), (3, .int (nI e)), (4, .long (((31) * (((31) * (((31) * (((31) * (((31) * h0) + ((qHeir (nI e) (nI 0) σ).toInt64))) + ((qHeir (nI e) (nI 1) σ).toInt64))) + ((qHeir (nI e) (nI 2) σ).toInt64))) + ((qHas (nI e) (nI 0) σ).toInt64))) + ((qHas (nI e) (nI 1) σ).toInt64))), (6, .int (nI 2))] dX12_tellsHeirs_65 rfl (by decide) rfl rfl rfl ?_
  refine J_goto 42 dX12_tellsHeirs_68 (by decide) ?_
  refine J_iload dX12_tellsHeirs_42 rfl ?_
  refine J_iconst (v := nI 4) dX12_tellsHeirs_44 (by decide) ?_
  refine J_icmp_ge 71 dX12_tellsHeirs_45 (by decide) (fun c => absurd c (by decide)) (fun _ => ?_)
  refine J_ldc2 dX12_tellsHeirs_48 k_X12_296 ?_
  refine J_lload dX12_tellsHeirs_51 rfl ?_
  refine J_lmul dX12_tellsHeirs_53 ?_
  refine J_aload_n dX12_tellsHeirs_54 rfl rfl ?_
  refine J_iload_n dX12_tellsHeirs_55 rfl rfl ?_
  refine J_iload dX12_tellsHeirs_56 rfl ?_
  refine J_cVi (x := yX12_in) [.int (nI e), .int (nI 2)] 0 mv_X12_201 (c_X12_hasOf2 o a s n hn hn8 e (by omega)) mW_0 rfl rfl (by decide) (Nat.le_of_ble_eq_true rfl) ⟨Nat.le_refl _, Nat.le_refl _⟩ dX12_tellsHeirs_58 ?_
  refine J_rw (y := qHas (nI e) (nI 2) σ) (by rw [en]; exact q_has2 hF he) ?_
  refine J_i2l dX12_tellsHeirs_61 ?_
  refine J_ladd dX12_tellsHeirs_62 ?_
  refine J_lstore [(0, .ref o), (1, .long h0), (3, .int (nI e)), (4, .long (((31) * (((31) * (((31) * (((31) * (((31) * (((31) * h0) + ((qHeir (nI e) (nI 0) σ).toInt64))) + ((qHeir (nI e) (nI 1) σ).toInt64))) + ((qHeir (nI e) (nI 2) σ).toInt64))) + ((qHas (nI e) (nI 0) σ).toInt64))) + ((qHas (nI e) (nI 1) σ).toInt64))) + ((qHas (nI e) (nI 2) σ).toInt64))), (6, .int (nI 2))] dX12_tellsHeirs_63 (by decide) rfl rfl rfl ?_
  refine J_iincN [(0, .ref o), (1, .long h0), (3, .int (nI e)), (4, .long (((31) * (((31) * (((31) * (((31) * (((31) * (((31) * h0) + ((qHeir (nI e) (nI 0) σ).toInt64))) + ((qHeir (nI e) (nI 1) σ).toInt64))) + ((qHeir (nI e) (nI 2) σ).toInt64))) + ((qHas (nI e) (nI 0) σ).toInt64))) + ((qHas (nI e) (nI 1) σ).toInt64))) + ((qHas (nI e) (nI 2) σ).toInt64))), (6, .int (nI 3))] dX12_tellsHeirs_65 rfl (by decide) rfl rfl rfl ?_
  refine J_goto 42 dX12_tellsHeirs_68 (by decide) ?_
  refine J_iload dX12_tellsHeirs_42 rfl ?_
  refine J_iconst (v := nI 4) dX12_tellsHeirs_44 (by decide) ?_
  refine J_icmp_ge 71 dX12_tellsHeirs_45 (by decide) (fun c => absurd c (by decide)) (fun _ => ?_)
  refine J_ldc2 dX12_tellsHeirs_48 k_X12_296 ?_
  refine J_lload dX12_tellsHeirs_51 rfl ?_
  refine J_lmul dX12_tellsHeirs_53 ?_
  refine J_aload_n dX12_tellsHeirs_54 rfl rfl ?_
  refine J_iload_n dX12_tellsHeirs_55 rfl rfl ?_
  refine J_iload dX12_tellsHeirs_56 rfl ?_
  refine J_cVi (x := yX12_in) [.int (nI e), .int (nI 3)] 0 mv_X12_201 (c_X12_hasOf3 o a s n hn hn8 e (by omega)) mW_0 rfl rfl (by decide) (Nat.le_of_ble_eq_true rfl) ⟨Nat.le_refl _, Nat.le_refl _⟩ dX12_tellsHeirs_58 ?_
  refine J_rw (y := qHas (nI e) (nI 3) σ) (by rw [en]; exact q_has3 hF he) ?_
  refine J_i2l dX12_tellsHeirs_61 ?_
  refine J_ladd dX12_tellsHeirs_62 ?_
  refine J_lstore [(0, .ref o), (1, .long h0), (3, .int (nI e)), (4, .long (((31) * (((31) * (((31) * (((31) * (((31) * (((31) * (((31) * h0) + ((qHeir (nI e) (nI 0) σ).toInt64))) + ((qHeir (nI e) (nI 1) σ).toInt64))) + ((qHeir (nI e) (nI 2) σ).toInt64))) + ((qHas (nI e) (nI 0) σ).toInt64))) + ((qHas (nI e) (nI 1) σ).toInt64))) + ((qHas (nI e) (nI 2) σ).toInt64))) + ((qHas (nI e) (nI 3) σ).toInt64))), (6, .int (nI 3))] dX12_tellsHeirs_63 (by decide) rfl rfl rfl ?_
  refine J_iincN [(0, .ref o), (1, .long h0), (3, .int (nI e)), (4, .long (((31) * (((31) * (((31) * (((31) * (((31) * (((31) * (((31) * h0) + ((qHeir (nI e) (nI 0) σ).toInt64))) + ((qHeir (nI e) (nI 1) σ).toInt64))) + ((qHeir (nI e) (nI 2) σ).toInt64))) + ((qHas (nI e) (nI 0) σ).toInt64))) + ((qHas (nI e) (nI 1) σ).toInt64))) + ((qHas (nI e) (nI 2) σ).toInt64))) + ((qHas (nI e) (nI 3) σ).toInt64))), (6, .int (nI 4))] dX12_tellsHeirs_65 rfl (by decide) rfl rfl rfl ?_
  refine J_goto 42 dX12_tellsHeirs_68 (by decide) ?_
  refine J_iload dX12_tellsHeirs_42 rfl ?_
  refine J_iconst (v := nI 4) dX12_tellsHeirs_44 (by decide) ?_
  refine J_icmp_ge 71 dX12_tellsHeirs_45 (by decide) (fun _ => ?_) (fun c => absurd c (by decide))
  refine J_ldc2 dX12_tellsHeirs_71 k_X12_296 ?_
  refine J_lload dX12_tellsHeirs_74 rfl ?_
  refine J_lmul dX12_tellsHeirs_76 ?_
  refine J_aload_n dX12_tellsHeirs_77 rfl rfl ?_
  refine J_iload_n dX12_tellsHeirs_78 rfl rfl ?_
  refine J_iconst (v := nI 0) dX12_tellsHeirs_79 (by decide) ?_
  refine J_cVi (x := yX12_in) [.int (nI e), .int (nI 0)] 0 mv_X12_207 (c_X12_doesNow o a s n hn hn8 e 0 (by omega)) mW_0 rfl rfl (by decide) (Nat.le_of_ble_eq_true rfl) ⟨Nat.le_refl _, Nat.le_refl _⟩ dX12_tellsHeirs_80 ?_
  refine J_rw (y := qDoes (nI e) (nI 0) σ) (by rw [en]; exact q_does hF he (by decide)) ?_
  refine J_i2l dX12_tellsHeirs_83 ?_
  refine J_ladd dX12_tellsHeirs_84 ?_
  refine J_lstore [(0, .ref o), (1, .long h0), (3, .int (nI e)), (4, .long (((31) * (((31) * (((31) * (((31) * (((31) * (((31) * (((31) * (((31) * h0) + ((qHeir (nI e) (nI 0) σ).toInt64))) + ((qHeir (nI e) (nI 1) σ).toInt64))) + ((qHeir (nI e) (nI 2) σ).toInt64))) + ((qHas (nI e) (nI 0) σ).toInt64))) + ((qHas (nI e) (nI 1) σ).toInt64))) + ((qHas (nI e) (nI 2) σ).toInt64))) + ((qHas (nI e) (nI 3) σ).toInt64))) + ((qDoes (nI e) (nI 0) σ).toInt64))), (6, .int (nI 4))] dX12_tellsHeirs_85 (by decide) rfl rfl rfl ?_
  refine J_ldc2 dX12_tellsHeirs_87 k_X12_296 ?_
  refine J_lload dX12_tellsHeirs_90 rfl ?_
  refine J_lmul dX12_tellsHeirs_92 ?_
  refine J_aload_n dX12_tellsHeirs_93 rfl rfl ?_
  refine J_iload_n dX12_tellsHeirs_94 rfl rfl ?_
  refine J_bipush (v := nI 7) dX12_tellsHeirs_95 (by decide) ?_
  refine J_cVi (x := yX12_in) [.int (nI e), .int (nI 7)] 0 mv_X12_207 (c_X12_doesNow o a s n hn hn8 e 7 (by omega)) mW_0 rfl rfl (by decide) (Nat.le_of_ble_eq_true rfl) ⟨Nat.le_refl _, Nat.le_refl _⟩ dX12_tellsHeirs_97 ?_
  refine J_rw (y := qDoes (nI e) (nI 7) σ) (by rw [en]; exact q_does hF he (by decide)) ?_
  refine J_i2l dX12_tellsHeirs_100 ?_
  refine J_ladd dX12_tellsHeirs_101 ?_
  refine J_lstore [(0, .ref o), (1, .long h0), (3, .int (nI e)), (4, .long (((31) * (((31) * (((31) * (((31) * (((31) * (((31) * (((31) * (((31) * (((31) * h0) + ((qHeir (nI e) (nI 0) σ).toInt64))) + ((qHeir (nI e) (nI 1) σ).toInt64))) + ((qHeir (nI e) (nI 2) σ).toInt64))) + ((qHas (nI e) (nI 0) σ).toInt64))) + ((qHas (nI e) (nI 1) σ).toInt64))) + ((qHas (nI e) (nI 2) σ).toInt64))) + ((qHas (nI e) (nI 3) σ).toInt64))) + ((qDoes (nI e) (nI 0) σ).toInt64))) + ((qDoes (nI e) (nI 7) σ).toInt64))), (6, .int (nI 4))] dX12_tellsHeirs_102 (by decide) rfl rfl rfl ?_
  refine J_ldc2 dX12_tellsHeirs_104 k_X12_296 ?_
  refine J_lload dX12_tellsHeirs_107 rfl ?_
  refine J_lmul dX12_tellsHeirs_109 ?_
  refine J_aload_n dX12_tellsHeirs_110 rfl rfl ?_
  refine J_iload_n dX12_tellsHeirs_111 rfl rfl ?_
  refine J_bipush (v := nI 20) dX12_tellsHeirs_112 (by decide) ?_
  refine J_cVi (x := yX12_in) [.int (nI e), .int (nI 20)] 0 mv_X12_207 (c_X12_doesNow o a s n hn hn8 e 20 (by omega)) mW_0 rfl rfl (by decide) (Nat.le_of_ble_eq_true rfl) ⟨Nat.le_refl _, Nat.le_refl _⟩ dX12_tellsHeirs_114 ?_
  refine J_rw (y := qDoes (nI e) (nI 20) σ) (by rw [en]; exact q_does hF he (by decide)) ?_
  refine J_i2l dX12_tellsHeirs_117 ?_
  refine J_ladd dX12_tellsHeirs_118 ?_
  refine J_lstore [(0, .ref o), (1, .long h0), (3, .int (nI e)), (4, .long (((31) * (((31) * (((31) * (((31) * (((31) * (((31) * (((31) * (((31) * (((31) * (((31) * h0) + ((qHeir (nI e) (nI 0) σ).toInt64))) + ((qHeir (nI e) (nI 1) σ).toInt64))) + ((qHeir (nI e) (nI 2) σ).toInt64))) + ((qHas (nI e) (nI 0) σ).toInt64))) + ((qHas (nI e) (nI 1) σ).toInt64))) + ((qHas (nI e) (nI 2) σ).toInt64))) + ((qHas (nI e) (nI 3) σ).toInt64))) + ((qDoes (nI e) (nI 0) σ).toInt64))) + ((qDoes (nI e) (nI 7) σ).toInt64))) + ((qDoes (nI e) (nI 20) σ).toInt64))), (6, .int (nI 4))] dX12_tellsHeirs_119 (by decide) rfl rfl rfl ?_
  refine J_aload_n dX12_tellsHeirs_121 rfl rfl ?_
  refine J_iload_n dX12_tellsHeirs_122 rfl rfl ?_
  refine J_cVi (x := yX12_in) [.int (nI e)] 0 mv_X12_236 (c_X12_writeOf o a s n hn hn8 m hm hm6 c hc hc15 hCl rf hrf hrf12 e (by omega)) mW_0 rfl rfl (by decide) (Nat.le_of_ble_eq_true rfl) ⟨Nat.le_refl _, Nat.le_refl _⟩ dX12_tellsHeirs_123 ?_
  show J G "tellsHeirs" RX12 cX12_tellsHeirs 7 (some .long) 0 0 9 Q 0 0 126 [(0, .ref o), (1, .long h0), (3, .int (nI e)), (4, .long (((31) * (((31) * (((31) * (((31) * (((31) * (((31) * (((31) * (((31) * (((31) * (((31) * h0) + ((qHeir (nI e) (nI 0) σ).toInt64))) + ((qHeir (nI e) (nI 1) σ).toInt64))) + ((qHeir (nI e) (nI 2) σ).toInt64))) + ((qHas (nI e) (nI 0) σ).toInt64))) + ((qHas (nI e) (nI 1) σ).toInt64))) + ((qHas (nI e) (nI 2) σ).toInt64))) + ((qHas (nI e) (nI 3) σ).toInt64))) + ((qDoes (nI e) (nI 0) σ).toInt64))) + ((qDoes (nI e) (nI 7) σ).toInt64))) + ((qDoes (nI e) (nI 20) σ).toInt64))), (6, .int (nI 4))] [.int (wrF n m c (s 9) (s 10) (s 11) rf (s 13) e (2 ^ n))] (mW G o a (su 18 (su 17 (su 15 (su 14 s (fun _ => nI e)) (fun _ => nI 0)) ((wlF n m (s 11) (rfsM rf (s 13) (nI e) 0) c).1)) (fun _ => nI (wlF n m (s 11) (rfsM rf (s 13) (nI e) 0) c).2)))
  have hF2 : Fnn σ (su 18 (su 17 (su 15 (su 14 s (fun _ => nI e)) (fun _ => nI 0)) ((wlF n m (s 11) (rfsM rf (s 13) (nI e) 0) c).1)) (fun _ => nI (wlF n m (s 11) (rfsM rf (s 13) (nI e) 0) c).2)) := by subst en em ec erf esg; exact hF.writ
  refine J_istore [(0, .ref o), (1, .long h0), (3, .int (nI e)), (4, .long (((31) * (((31) * (((31) * (((31) * (((31) * (((31) * (((31) * (((31) * (((31) * (((31) * h0) + ((qHeir (nI e) (nI 0) σ).toInt64))) + ((qHeir (nI e) (nI 1) σ).toInt64))) + ((qHeir (nI e) (nI 2) σ).toInt64))) + ((qHas (nI e) (nI 0) σ).toInt64))) + ((qHas (nI e) (nI 1) σ).toInt64))) + ((qHas (nI e) (nI 2) σ).toInt64))) + ((qHas (nI e) (nI 3) σ).toInt64))) + ((qDoes (nI e) (nI 0) σ).toInt64))) + ((qDoes (nI e) (nI 7) σ).toInt64))) + ((qDoes (nI e) (nI 20) σ).toInt64))), (6, .int (wrF n m c (s 9) (s 10) (s 11) rf (s 13) e (2 ^ n)))] dX12_tellsHeirs_126 (by decide) rfl rfl rfl ?_
  refine J_ldc2 dX12_tellsHeirs_128 k_X12_296 ?_
  refine J_lload dX12_tellsHeirs_131 rfl ?_
  refine J_lmul dX12_tellsHeirs_133 ?_
  refine J_iload dX12_tellsHeirs_134 rfl ?_
  refine J_iconst (v := nI 0) dX12_tellsHeirs_136 (by decide) ?_
  refine J_cSi [.int (wrF n m c (s 9) (s 10) (s 11) rf (s 13) e (2 ^ n)), .int (nI 0)] ms_X12_239 (c_X12_tells0 (mW G o a (su 18 (su 17 (su 15 (su 14 s (fun _ => nI e)) (fun _ => nI 0)) ((wlF n m (s 11) (rfsM rf (s 13) (nI e) 0) c).1)) (fun _ => nI (wlF n m (s 11) (rfsM rf (s 13) (nI e) 0) c).2))) (wrF n m c (s 9) (s 10) (s 11) rf (s 13) e (2 ^ n)) (wrF_256 hn8)) rfl rfl (by decide) (Nat.le_of_ble_eq_true rfl) ⟨Nat.le_refl _, Nat.le_refl _⟩ dX12_tellsHeirs_137 ?_
  refine J_rw (y := tlM (wrF n m c (s 9) (s 10) (s 11) rf (s 13) e (2 ^ n)) 0) rfl ?_
  refine J_rw (y := qWrite (nI e) (nI 0) σ) (by rw [en, em, ec, erf]; exact q_write hF he (by decide)) ?_
  refine J_i2l dX12_tellsHeirs_140 ?_
  refine J_ladd dX12_tellsHeirs_141 ?_
  refine J_lstore [(0, .ref o), (1, .long h0), (3, .int (nI e)), (4, .long (((31) * (((31) * (((31) * (((31) * (((31) * (((31) * (((31) * (((31) * (((31) * (((31) * (((31) * h0) + ((qHeir (nI e) (nI 0) σ).toInt64))) + ((qHeir (nI e) (nI 1) σ).toInt64))) + ((qHeir (nI e) (nI 2) σ).toInt64))) + ((qHas (nI e) (nI 0) σ).toInt64))) + ((qHas (nI e) (nI 1) σ).toInt64))) + ((qHas (nI e) (nI 2) σ).toInt64))) + ((qHas (nI e) (nI 3) σ).toInt64))) + ((qDoes (nI e) (nI 0) σ).toInt64))) + ((qDoes (nI e) (nI 7) σ).toInt64))) + ((qDoes (nI e) (nI 20) σ).toInt64))) + ((qWrite (nI e) (nI 0) σ).toInt64))), (6, .int (wrF n m c (s 9) (s 10) (s 11) rf (s 13) e (2 ^ n)))] dX12_tellsHeirs_142 (by decide) rfl rfl rfl ?_
  refine J_ldc2 dX12_tellsHeirs_144 k_X12_296 ?_
  refine J_lload dX12_tellsHeirs_147 rfl ?_
  refine J_lmul dX12_tellsHeirs_149 ?_
  refine J_iload dX12_tellsHeirs_150 rfl ?_
  refine J_iconst (v := nI 1) dX12_tellsHeirs_152 (by decide) ?_
  refine J_cSi [.int (wrF n m c (s 9) (s 10) (s 11) rf (s 13) e (2 ^ n)), .int (nI 1)] ms_X12_239 (c_X12_tells1 (mW G o a (su 18 (su 17 (su 15 (su 14 s (fun _ => nI e)) (fun _ => nI 0)) ((wlF n m (s 11) (rfsM rf (s 13) (nI e) 0) c).1)) (fun _ => nI (wlF n m (s 11) (rfsM rf (s 13) (nI e) 0) c).2))) (wrF n m c (s 9) (s 10) (s 11) rf (s 13) e (2 ^ n)) (wrF_256 hn8)) rfl rfl (by decide) (Nat.le_of_ble_eq_true rfl) ⟨Nat.le_refl _, Nat.le_refl _⟩ dX12_tellsHeirs_153 ?_
  refine J_rw (y := tlM (wrF n m c (s 9) (s 10) (s 11) rf (s 13) e (2 ^ n)) 1) rfl ?_
  refine J_rw (y := qWrite (nI e) (nI 1) σ) (by rw [en, em, ec, erf]; exact q_write hF he (by decide)) ?_
  refine J_i2l dX12_tellsHeirs_156 ?_
  refine J_ladd dX12_tellsHeirs_157 ?_
  refine J_lstore [(0, .ref o), (1, .long h0), (3, .int (nI e)), (4, .long (((31) * (((31) * (((31) * (((31) * (((31) * (((31) * (((31) * (((31) * (((31) * (((31) * (((31) * (((31) * h0) + ((qHeir (nI e) (nI 0) σ).toInt64))) + ((qHeir (nI e) (nI 1) σ).toInt64))) + ((qHeir (nI e) (nI 2) σ).toInt64))) + ((qHas (nI e) (nI 0) σ).toInt64))) + ((qHas (nI e) (nI 1) σ).toInt64))) + ((qHas (nI e) (nI 2) σ).toInt64))) + ((qHas (nI e) (nI 3) σ).toInt64))) + ((qDoes (nI e) (nI 0) σ).toInt64))) + ((qDoes (nI e) (nI 7) σ).toInt64))) + ((qDoes (nI e) (nI 20) σ).toInt64))) + ((qWrite (nI e) (nI 0) σ).toInt64))) + ((qWrite (nI e) (nI 1) σ).toInt64))), (6, .int (wrF n m c (s 9) (s 10) (s 11) rf (s 13) e (2 ^ n)))] dX12_tellsHeirs_158 (by decide) rfl rfl rfl ?_
  refine J_ldc2 dX12_tellsHeirs_160 k_X12_296 ?_
  refine J_lload dX12_tellsHeirs_163 rfl ?_
  refine J_lmul dX12_tellsHeirs_165 ?_
  refine J_aload_n dX12_tellsHeirs_166 rfl rfl ?_
  refine J_iconst (v := nI 0) dX12_tellsHeirs_167 (by decide) ?_
  refine J_iload_n dX12_tellsHeirs_168 rfl rfl ?_
  refine J_iconst (v := nI 0) dX12_tellsHeirs_169 (by decide) ?_
  refine J_cVi (x := yX12_in) [.int (nI 0), .int (nI e), .int (nI 0)] 0 mv_X12_301 (c_X12_partD o a (su 18 (su 17 (su 15 (su 14 s (fun _ => nI e)) (fun _ => nI 0)) ((wlF n m (s 11) (rfsM rf (s 13) (nI e) 0) c).1)) (fun _ => nI (wlF n m (s 11) (rfsM rf (s 13) (nI e) 0) c).2)) (nI 0) (nI e) (nI 0)) mW_0 rfl rfl (by decide) (Nat.le_of_ble_eq_true rfl) ⟨Nat.le_refl _, Nat.le_refl _⟩ dX12_tellsHeirs_170 ?_
  refine J_rw (y := qPart (nI 0) (nI e) (nI 0) (cn (su 18 (su 17 (su 15 (su 14 s (fun _ => nI e)) (fun _ => nI 0)) ((wlF n m (s 11) (rfsM rf (s 13) (nI e) 0) c).1)) (fun _ => nI (wlF n m (s 11) (rfsM rf (s 13) (nI e) 0) c).2)))) rfl ?_
  refine J_rw (y := qPart (nI 0) (nI e) (nI 0) σ) (by rw [hF2.1.1]) ?_
  refine J_i2l dX12_tellsHeirs_173 ?_
  refine J_ladd dX12_tellsHeirs_174 ?_
  refine J_lstore [(0, .ref o), (1, .long h0), (3, .int (nI e)), (4, .long (((31) * (((31) * (((31) * (((31) * (((31) * (((31) * (((31) * (((31) * (((31) * (((31) * (((31) * (((31) * (((31) * h0) + ((qHeir (nI e) (nI 0) σ).toInt64))) + ((qHeir (nI e) (nI 1) σ).toInt64))) + ((qHeir (nI e) (nI 2) σ).toInt64))) + ((qHas (nI e) (nI 0) σ).toInt64))) + ((qHas (nI e) (nI 1) σ).toInt64))) + ((qHas (nI e) (nI 2) σ).toInt64))) + ((qHas (nI e) (nI 3) σ).toInt64))) + ((qDoes (nI e) (nI 0) σ).toInt64))) + ((qDoes (nI e) (nI 7) σ).toInt64))) + ((qDoes (nI e) (nI 20) σ).toInt64))) + ((qWrite (nI e) (nI 0) σ).toInt64))) + ((qWrite (nI e) (nI 1) σ).toInt64))) + ((qPart (nI 0) (nI e) (nI 0) σ).toInt64))), (6, .int (wrF n m c (s 9) (s 10) (s 11) rf (s 13) e (2 ^ n)))] dX12_tellsHeirs_175 (by decide) rfl rfl rfl ?_
  refine J_ldc2 dX12_tellsHeirs_177 k_X12_296 ?_
  refine J_lload dX12_tellsHeirs_180 rfl ?_
  refine J_lmul dX12_tellsHeirs_182 ?_
  refine J_aload_n dX12_tellsHeirs_183 rfl rfl ?_
  refine J_iconst (v := nI 0) dX12_tellsHeirs_184 (by decide) ?_
  refine J_iload_n dX12_tellsHeirs_185 rfl rfl ?_
  refine J_iconst (v := nI 1) dX12_tellsHeirs_186 (by decide) ?_
  refine J_cVi (x := yX12_in) [.int (nI 0), .int (nI e), .int (nI 1)] 0 mv_X12_301 (c_X12_partD o a (su 18 (su 17 (su 15 (su 14 s (fun _ => nI e)) (fun _ => nI 0)) ((wlF n m (s 11) (rfsM rf (s 13) (nI e) 0) c).1)) (fun _ => nI (wlF n m (s 11) (rfsM rf (s 13) (nI e) 0) c).2)) (nI 0) (nI e) (nI 1)) mW_0 rfl rfl (by decide) (Nat.le_of_ble_eq_true rfl) ⟨Nat.le_refl _, Nat.le_refl _⟩ dX12_tellsHeirs_187 ?_
  refine J_rw (y := qPart (nI 0) (nI e) (nI 1) (cn (su 18 (su 17 (su 15 (su 14 s (fun _ => nI e)) (fun _ => nI 0)) ((wlF n m (s 11) (rfsM rf (s 13) (nI e) 0) c).1)) (fun _ => nI (wlF n m (s 11) (rfsM rf (s 13) (nI e) 0) c).2)))) rfl ?_
  refine J_rw (y := qPart (nI 0) (nI e) (nI 1) σ) (by rw [hF2.1.1]) ?_
  refine J_i2l dX12_tellsHeirs_190 ?_
  refine J_ladd dX12_tellsHeirs_191 ?_
  refine J_lstore [(0, .ref o), (1, .long h0), (3, .int (nI e)), (4, .long (((31) * (((31) * (((31) * (((31) * (((31) * (((31) * (((31) * (((31) * (((31) * (((31) * (((31) * (((31) * (((31) * (((31) * h0) + ((qHeir (nI e) (nI 0) σ).toInt64))) + ((qHeir (nI e) (nI 1) σ).toInt64))) + ((qHeir (nI e) (nI 2) σ).toInt64))) + ((qHas (nI e) (nI 0) σ).toInt64))) + ((qHas (nI e) (nI 1) σ).toInt64))) + ((qHas (nI e) (nI 2) σ).toInt64))) + ((qHas (nI e) (nI 3) σ).toInt64))) + ((qDoes (nI e) (nI 0) σ).toInt64))) + ((qDoes (nI e) (nI 7) σ).toInt64))) + ((qDoes (nI e) (nI 20) σ).toInt64))) + ((qWrite (nI e) (nI 0) σ).toInt64))) + ((qWrite (nI e) (nI 1) σ).toInt64))) + ((qPart (nI 0) (nI e) (nI 0) σ).toInt64))) + ((qPart (nI 0) (nI e) (nI 1) σ).toInt64))), (6, .int (wrF n m c (s 9) (s 10) (s 11) rf (s 13) e (2 ^ n)))] dX12_tellsHeirs_192 (by decide) rfl rfl rfl ?_
  refine J_ldc2 dX12_tellsHeirs_194 k_X12_296 ?_
  refine J_lload dX12_tellsHeirs_197 rfl ?_
  refine J_lmul dX12_tellsHeirs_199 ?_
  refine J_aload_n dX12_tellsHeirs_200 rfl rfl ?_
  refine J_iconst (v := nI 5) dX12_tellsHeirs_201 (by decide) ?_
  refine J_iload_n dX12_tellsHeirs_202 rfl rfl ?_
  refine J_iconst (v := nI 1) dX12_tellsHeirs_203 (by decide) ?_
  refine J_iconst (v := nI 0) dX12_tellsHeirs_204 (by decide) ?_
  refine J_cVl (x := yX12_in) [.int (nI 5), .int (nI e), .int (nI 1), .int (nI 0)] 0 mv_X12_276 (c_X12_marchOf0 o a (su 18 (su 17 (su 15 (su 14 s (fun _ => nI e)) (fun _ => nI 0)) ((wlF n m (s 11) (rfsM rf (s 13) (nI e) 0) c).1)) (fun _ => nI (wlF n m (s 11) (rfsM rf (s 13) (nI e) 0) c).2)) n hn hn8 5 e 1 (vcS σ e) (by omega) (by omega) (by subst en em ec erf esg; exact hF2.vc e) (vc_ok e).2) mW_0 rfl rfl (by decide) (Nat.le_of_ble_eq_true rfl) ⟨Nat.le_refl _, Nat.le_refl _⟩ dX12_tellsHeirs_205 ?_
  refine J_rwl (y := (qMarch (nI 5) (nI e) (nI 1) (nI 0) σ)) (q_march he (by decide)) ?_
  refine J_ladd dX12_tellsHeirs_208 ?_
  refine J_lstore [(0, .ref o), (1, .long h0), (3, .int (nI e)), (4, .long (((31) * (((31) * (((31) * (((31) * (((31) * (((31) * (((31) * (((31) * (((31) * (((31) * (((31) * (((31) * (((31) * (((31) * (((31) * h0) + ((qHeir (nI e) (nI 0) σ).toInt64))) + ((qHeir (nI e) (nI 1) σ).toInt64))) + ((qHeir (nI e) (nI 2) σ).toInt64))) + ((qHas (nI e) (nI 0) σ).toInt64))) + ((qHas (nI e) (nI 1) σ).toInt64))) + ((qHas (nI e) (nI 2) σ).toInt64))) + ((qHas (nI e) (nI 3) σ).toInt64))) + ((qDoes (nI e) (nI 0) σ).toInt64))) + ((qDoes (nI e) (nI 7) σ).toInt64))) + ((qDoes (nI e) (nI 20) σ).toInt64))) + ((qWrite (nI e) (nI 0) σ).toInt64))) + ((qWrite (nI e) (nI 1) σ).toInt64))) + ((qPart (nI 0) (nI e) (nI 0) σ).toInt64))) + ((qPart (nI 0) (nI e) (nI 1) σ).toInt64))) + (qMarch (nI 5) (nI e) (nI 1) (nI 0) σ))), (6, .int (wrF n m c (s 9) (s 10) (s 11) rf (s 13) e (2 ^ n)))] dX12_tellsHeirs_209 (by decide) rfl rfl rfl ?_
  refine J_ldc2 dX12_tellsHeirs_211 k_X12_296 ?_
  refine J_lload dX12_tellsHeirs_214 rfl ?_
  refine J_lmul dX12_tellsHeirs_216 ?_
  refine J_aload_n dX12_tellsHeirs_217 rfl rfl ?_
  refine J_iconst (v := nI 5) dX12_tellsHeirs_218 (by decide) ?_
  refine J_iload_n dX12_tellsHeirs_219 rfl rfl ?_
  refine J_iconst (v := nI 1) dX12_tellsHeirs_220 (by decide) ?_
  refine J_iconst (v := nI 1) dX12_tellsHeirs_221 (by decide) ?_
  refine J_cVl (x := yX12_in) [.int (nI 5), .int (nI e), .int (nI 1), .int (nI 1)] 0 mv_X12_276 (c_X12_marchOf1 o a (su 18 (su 17 (su 15 (su 14 s (fun _ => nI e)) (fun _ => nI 0)) ((wlF n m (s 11) (rfsM rf (s 13) (nI e) 0) c).1)) (fun _ => nI (wlF n m (s 11) (rfsM rf (s 13) (nI e) 0) c).2)) n hn hn8 5 e 1 (vcS σ e) (by omega) (by omega) (by subst en em ec erf esg; exact hF2.vc e) (vc_ok e).2) mW_0 rfl rfl (by decide) (Nat.le_of_ble_eq_true rfl) ⟨Nat.le_refl _, Nat.le_refl _⟩ dX12_tellsHeirs_222 ?_
  refine J_rwl (y := (qMarch (nI 5) (nI e) (nI 1) (nI 1) σ)) (q_march he (by decide)) ?_
  refine J_ladd dX12_tellsHeirs_225 ?_
  refine J_lstore [(0, .ref o), (1, .long h0), (3, .int (nI e)), (4, .long (((31) * (((31) * (((31) * (((31) * (((31) * (((31) * (((31) * (((31) * (((31) * (((31) * (((31) * (((31) * (((31) * (((31) * (((31) * (((31) * h0) + ((qHeir (nI e) (nI 0) σ).toInt64))) + ((qHeir (nI e) (nI 1) σ).toInt64))) + ((qHeir (nI e) (nI 2) σ).toInt64))) + ((qHas (nI e) (nI 0) σ).toInt64))) + ((qHas (nI e) (nI 1) σ).toInt64))) + ((qHas (nI e) (nI 2) σ).toInt64))) + ((qHas (nI e) (nI 3) σ).toInt64))) + ((qDoes (nI e) (nI 0) σ).toInt64))) + ((qDoes (nI e) (nI 7) σ).toInt64))) + ((qDoes (nI e) (nI 20) σ).toInt64))) + ((qWrite (nI e) (nI 0) σ).toInt64))) + ((qWrite (nI e) (nI 1) σ).toInt64))) + ((qPart (nI 0) (nI e) (nI 0) σ).toInt64))) + ((qPart (nI 0) (nI e) (nI 1) σ).toInt64))) + (qMarch (nI 5) (nI e) (nI 1) (nI 0) σ))) + (qMarch (nI 5) (nI e) (nI 1) (nI 1) σ))), (6, .int (wrF n m c (s 9) (s 10) (s 11) rf (s 13) e (2 ^ n)))] dX12_tellsHeirs_226 (by decide) rfl rfl rfl ?_
  refine J_ldc2 dX12_tellsHeirs_228 k_X12_296 ?_
  refine J_lload dX12_tellsHeirs_231 rfl ?_
  refine J_lmul dX12_tellsHeirs_233 ?_
  refine J_aload_n dX12_tellsHeirs_234 rfl rfl ?_
  refine J_bipush (v := nI 7) dX12_tellsHeirs_235 (by decide) ?_
  refine J_bipush (v := nI 9) dX12_tellsHeirs_237 (by decide) ?_
  refine J_iload_n dX12_tellsHeirs_239 rfl rfl ?_
  refine J_callV (wr := []) (As := [.int (nI 7), .int (nI 9), .int (nI e)]) (st := [.long ((31) * (((31) * (((31) * (((31) * (((31) * (((31) * (((31) * (((31) * (((31) * (((31) * (((31) * (((31) * (((31) * (((31) * (((31) * (((31) * (((31) * h0) + ((qHeir (nI e) (nI 0) σ).toInt64))) + ((qHeir (nI e) (nI 1) σ).toInt64))) + ((qHeir (nI e) (nI 2) σ).toInt64))) + ((qHas (nI e) (nI 0) σ).toInt64))) + ((qHas (nI e) (nI 1) σ).toInt64))) + ((qHas (nI e) (nI 2) σ).toInt64))) + ((qHas (nI e) (nI 3) σ).toInt64))) + ((qDoes (nI e) (nI 0) σ).toInt64))) + ((qDoes (nI e) (nI 7) σ).toInt64))) + ((qDoes (nI e) (nI 20) σ).toInt64))) + ((qWrite (nI e) (nI 0) σ).toInt64))) + ((qWrite (nI e) (nI 1) σ).toInt64))) + ((qPart (nI 0) (nI e) (nI 0) σ).toInt64))) + ((qPart (nI 0) (nI e) (nI 1) σ).toInt64))) + (qMarch (nI 5) (nI e) (nI 1) (nI 0) σ))) + (qMarch (nI 5) (nI e) (nI 1) (nI 1) σ)))]) 0 mv_X12_304 (c_X12_wills o a (su 18 (su 17 (su 15 (su 14 s (fun _ => nI e)) (fun _ => nI 0)) ((wlF n m (s 11) (rfsM rf (s 13) (nI e) 0) c).1)) (fun _ => nI (wlF n m (s 11) (rfsM rf (s 13) (nI e) 0) c).2)) (by rw [hF2.1.1]; exact hL) (nI 7) (nI 9) (nI e)) mW_0 rfl rfl rfl (by decide) (Nat.le_of_ble_eq_true rfl) ⟨Nat.le_refl _, Nat.le_refl _⟩ dX12_tellsHeirs_240 (fun v_ w_ h_ => ?_)
  obtain ⟨x93, rfl, rfl, hx9⟩ := h_
  rw [hF2.1.1] at hx9
  show J G "tellsHeirs" RX12 cX12_tellsHeirs 7 (some .long) 0 0 9 Q 0 0 243 [(0, .ref o), (1, .long h0), (3, .int (nI e)), (4, .long (((31) * (((31) * (((31) * (((31) * (((31) * (((31) * (((31) * (((31) * (((31) * (((31) * (((31) * (((31) * (((31) * (((31) * (((31) * (((31) * h0) + ((qHeir (nI e) (nI 0) σ).toInt64))) + ((qHeir (nI e) (nI 1) σ).toInt64))) + ((qHeir (nI e) (nI 2) σ).toInt64))) + ((qHas (nI e) (nI 0) σ).toInt64))) + ((qHas (nI e) (nI 1) σ).toInt64))) + ((qHas (nI e) (nI 2) σ).toInt64))) + ((qHas (nI e) (nI 3) σ).toInt64))) + ((qDoes (nI e) (nI 0) σ).toInt64))) + ((qDoes (nI e) (nI 7) σ).toInt64))) + ((qDoes (nI e) (nI 20) σ).toInt64))) + ((qWrite (nI e) (nI 0) σ).toInt64))) + ((qWrite (nI e) (nI 1) σ).toInt64))) + ((qPart (nI 0) (nI e) (nI 0) σ).toInt64))) + ((qPart (nI 0) (nI e) (nI 1) σ).toInt64))) + (qMarch (nI 5) (nI e) (nI 1) (nI 0) σ))) + (qMarch (nI 5) (nI e) (nI 1) (nI 1) σ))), (6, .int (wrF n m c (s 9) (s 10) (s 11) rf (s 13) e (2 ^ n)))] [.int (qWills (nI 7) (nI 9) (nI e) (cn (su 18 (su 17 (su 15 (su 14 s (fun _ => nI e)) (fun _ => nI 0)) ((wlF n m (s 11) (rfsM rf (s 13) (nI e) 0) c).1)) (fun _ => nI (wlF n m (s 11) (rfsM rf (s 13) (nI e) 0) c).2)))), .long ((31) * (((31) * (((31) * (((31) * (((31) * (((31) * (((31) * (((31) * (((31) * (((31) * (((31) * (((31) * (((31) * (((31) * (((31) * (((31) * (((31) * h0) + ((qHeir (nI e) (nI 0) σ).toInt64))) + ((qHeir (nI e) (nI 1) σ).toInt64))) + ((qHeir (nI e) (nI 2) σ).toInt64))) + ((qHas (nI e) (nI 0) σ).toInt64))) + ((qHas (nI e) (nI 1) σ).toInt64))) + ((qHas (nI e) (nI 2) σ).toInt64))) + ((qHas (nI e) (nI 3) σ).toInt64))) + ((qDoes (nI e) (nI 0) σ).toInt64))) + ((qDoes (nI e) (nI 7) σ).toInt64))) + ((qDoes (nI e) (nI 20) σ).toInt64))) + ((qWrite (nI e) (nI 0) σ).toInt64))) + ((qWrite (nI e) (nI 1) σ).toInt64))) + ((qPart (nI 0) (nI e) (nI 0) σ).toInt64))) + ((qPart (nI 0) (nI e) (nI 1) σ).toInt64))) + (qMarch (nI 5) (nI e) (nI 1) (nI 0) σ))) + (qMarch (nI 5) (nI e) (nI 1) (nI 1) σ)))] (mW G o a x93)
  refine J_rw (y := qWills (nI 7) (nI 9) (nI e) σ) (by rw [hF2.1.1]) ?_
  refine J_i2l dX12_tellsHeirs_243 ?_
  refine J_ladd dX12_tellsHeirs_244 ?_
  exact J_lret dX12_tellsHeirs_245 rfl rfl rfl (hq _ _ rfl hx9)
theorem c_X12_tellsHeirs {G : GT} (o : Nat) (a : Nat → Nat) (s : Nat → Nat → Int32) (σ : St) (hL : LI σ) (hF : Fnn σ s) (h0 : Int64) (e : Nat) (he : e < nE σ) : Ct G yX12_tellsHeirs cX12_tellsHeirs 7 (some .long) 0 0 9 [.ref o, .long h0, .int (nI e)] (mW G o a s) (QLF G o a (dPlan σ (dHeir σ h0 e) e) σ) := Ct.of rfl (Nat.le_of_ble_eq_true rfl) (j_X12_tellsHeirs o a s σ hL hF h0 e he (fun x r h1 h2 => ⟨x, by rw [h1], rfl, h2⟩))
set_option maxRecDepth 100000 in
set_option maxHeartbeats 1000000 in
theorem j_X12_digest {G : GT} (o : Nat) (a : Nat → Nat) (s : Nat → Nat → Int32) (hL : LI (cn s)) {Q : Option Value → va_W → Prop} (hq : ∀ (x : St) (r : Int64), r = qDigest (cn s) → cn x = cn s → Q (some (.long r)) (mW G o a x)) : J G "digest" RX12 cX12_digest 5 (some .long) 0 0 10 Q 0 0 0 [(0, .ref o)] [] (mW G o a s) := by
  obtain ⟨n, en⟩ : ∃ n, n = nH (cn s) := ⟨_, rfl⟩
  obtain ⟨m, em⟩ : ∃ m, m = nE (cn s) := ⟨_, rfl⟩
  obtain ⟨c, ec⟩ : ∃ c, c = nC (cn s) := ⟨_, rfl⟩
  obtain ⟨rf, erf⟩ : ∃ rf, rf = rfn (cn s) := ⟨_, rfl⟩
  obtain ⟨sg, esg⟩ : ∃ sg, sg = sgn (cn s) := ⟨_, rfl⟩
  have hn8 : n ≤ 8 := by rw [en]; exact nH_le _
  have hm6 : m ≤ 6 := by rw [em]; exact nE_le _
  have hc15 : c ≤ 15 := by rw [ec]; exact nC_le _
  have hrf12 : rf ≤ 12 := by rw [erf]; exact hL.R.2.1
  have hsg8 : sg ≤ 8 := by rw [esg]; exact hL.S.2.1
  refine J_ldc2 dX12_digest_0 k_X12_307 ?_
  refine J_lstore_n [(0, .ref o), (1, .long (17))] dX12_digest_3 rfl (by decide) rfl rfl rfl ?_
  refine J_iconst (v := nI 0) dX12_digest_4 (by decide) ?_
  refine J_istore_n [(0, .ref o), (1, .long (17)), (3, .int (nI 0))] dX12_digest_5 rfl (by decide) rfl rfl rfl ?_
  refine J_iload_n dX12_digest_6 rfl rfl ?_
  refine J_bipush (v := nI 8) dX12_digest_7 (by decide) ?_
  refine J_icmp_ge 31 dX12_digest_9 (by decide) (fun c => absurd c (by decide)) (fun _ => ?_)
  refine J_ldc2 dX12_digest_12 k_X12_296 ?_
  refine J_lload_n dX12_digest_15 rfl rfl ?_
  refine J_lmul dX12_digest_16 ?_
  refine J_aload_n dX12_digest_17 rfl rfl ?_
  refine J_iload_n dX12_digest_18 rfl rfl ?_
  refine J_callV (wr := []) (As := [.int (nI 0)]) (st := [.long ((31) * (17))]) 0 mv_X12_309 (c_X12_count o a s hL (nI 0)) mW_0 rfl rfl rfl (by decide) (Nat.le_of_ble_eq_true rfl) ⟨Nat.le_refl _, Nat.le_refl _⟩ dX12_digest_19 (fun v_ w_ h_ => ?_)
  obtain ⟨x94, rfl, rfl, hx9⟩ := h_
  have hc_x94 : cn x94 = cn s := hx9
  show J G "digest" RX12 cX12_digest 5 (some .long) 0 0 10 Q 0 0 22 [(0, .ref o), (1, .long (17)), (3, .int (nI 0))] [.int (qCount (nI 0) (cn s)), .long ((31) * (17))] (mW G o a x94)
  refine J_rw (y := qCount (nI 0) (cn s)) rfl ?_
  refine J_i2l dX12_digest_22 ?_
  refine J_ladd dX12_digest_23 ?_
  refine J_lstore_n [(0, .ref o), (1, .long (((31) * (17)) + ((qCount (nI 0) (cn s)).toInt64))), (3, .int (nI 0))] dX12_digest_24 rfl (by decide) rfl rfl rfl ?_
  refine J_iincN [(0, .ref o), (1, .long (((31) * (17)) + ((qCount (nI 0) (cn s)).toInt64))), (3, .int (nI 1))] dX12_digest_25 rfl (by decide) rfl rfl rfl ?_
  refine J_goto 6 dX12_digest_28 (by decide) ?_
  refine J_iload_n dX12_digest_6 rfl rfl ?_
  refine J_bipush (v := nI 8) dX12_digest_7 (by decide) ?_
  refine J_icmp_ge 31 dX12_digest_9 (by decide) (fun c => absurd c (by decide)) (fun _ => ?_)
  refine J_ldc2 dX12_digest_12 k_X12_296 ?_
  refine J_lload_n dX12_digest_15 rfl rfl ?_
  refine J_lmul dX12_digest_16 ?_
  refine J_aload_n dX12_digest_17 rfl rfl ?_
  refine J_iload_n dX12_digest_18 rfl rfl ?_
  refine J_callV (wr := []) (As := [.int (nI 1)]) (st := [.long ((31) * (((31) * (17)) + ((qCount (nI 0) (cn s)).toInt64)))]) 0 mv_X12_309 (c_X12_count o a x94 (by rw [hc_x94]; exact hL) (nI 1)) mW_0 rfl rfl rfl (by decide) (Nat.le_of_ble_eq_true rfl) ⟨Nat.le_refl _, Nat.le_refl _⟩ dX12_digest_19 (fun v_ w_ h_ => ?_)
  obtain ⟨x95, rfl, rfl, hx9⟩ := h_
  have hc_x95 : cn x95 = cn s := hx9.trans hc_x94
  show J G "digest" RX12 cX12_digest 5 (some .long) 0 0 10 Q 0 0 22 [(0, .ref o), (1, .long (((31) * (17)) + ((qCount (nI 0) (cn s)).toInt64))), (3, .int (nI 1))] [.int (qCount (nI 1) (cn x94)), .long ((31) * (((31) * (17)) + ((qCount (nI 0) (cn s)).toInt64)))] (mW G o a x95)
  refine J_rw (y := qCount (nI 1) (cn s)) (by rw [hc_x94]) ?_
  refine J_i2l dX12_digest_22 ?_
  refine J_ladd dX12_digest_23 ?_
  refine J_lstore_n [(0, .ref o), (1, .long (((31) * (((31) * (17)) + ((qCount (nI 0) (cn s)).toInt64))) + ((qCount (nI 1) (cn s)).toInt64))), (3, .int (nI 1))] dX12_digest_24 rfl (by decide) rfl rfl rfl ?_
  refine J_iincN [(0, .ref o), (1, .long (((31) * (((31) * (17)) + ((qCount (nI 0) (cn s)).toInt64))) + ((qCount (nI 1) (cn s)).toInt64))), (3, .int (nI 2))] dX12_digest_25 rfl (by decide) rfl rfl rfl ?_
  refine J_goto 6 dX12_digest_28 (by decide) ?_
  refine J_iload_n dX12_digest_6 rfl rfl ?_
  refine J_bipush (v := nI 8) dX12_digest_7 (by decide) ?_
  refine J_icmp_ge 31 dX12_digest_9 (by decide) (fun c => absurd c (by decide)) (fun _ => ?_)
  refine J_ldc2 dX12_digest_12 k_X12_296 ?_
  refine J_lload_n dX12_digest_15 rfl rfl ?_
  refine J_lmul dX12_digest_16 ?_
  refine J_aload_n dX12_digest_17 rfl rfl ?_
  refine J_iload_n dX12_digest_18 rfl rfl ?_
  refine J_callV (wr := []) (As := [.int (nI 2)]) (st := [.long ((31) * (((31) * (((31) * (17)) + ((qCount (nI 0) (cn s)).toInt64))) + ((qCount (nI 1) (cn s)).toInt64)))]) 0 mv_X12_309 (c_X12_count o a x95 (by rw [hc_x95]; exact hL) (nI 2)) mW_0 rfl rfl rfl (by decide) (Nat.le_of_ble_eq_true rfl) ⟨Nat.le_refl _, Nat.le_refl _⟩ dX12_digest_19 (fun v_ w_ h_ => ?_)
  obtain ⟨x96, rfl, rfl, hx9⟩ := h_
  have hc_x96 : cn x96 = cn s := hx9.trans hc_x95
  show J G "digest" RX12 cX12_digest 5 (some .long) 0 0 10 Q 0 0 22 [(0, .ref o), (1, .long (((31) * (((31) * (17)) + ((qCount (nI 0) (cn s)).toInt64))) + ((qCount (nI 1) (cn s)).toInt64))), (3, .int (nI 2))] [.int (qCount (nI 2) (cn x95)), .long ((31) * (((31) * (((31) * (17)) + ((qCount (nI 0) (cn s)).toInt64))) + ((qCount (nI 1) (cn s)).toInt64)))] (mW G o a x96)
  refine J_rw (y := qCount (nI 2) (cn s)) (by rw [hc_x95]) ?_
  refine J_i2l dX12_digest_22 ?_
  refine J_ladd dX12_digest_23 ?_
  refine J_lstore_n [(0, .ref o), (1, .long (((31) * (((31) * (((31) * (17)) + ((qCount (nI 0) (cn s)).toInt64))) + ((qCount (nI 1) (cn s)).toInt64))) + ((qCount (nI 2) (cn s)).toInt64))), (3, .int (nI 2))] dX12_digest_24 rfl (by decide) rfl rfl rfl ?_
  refine J_iincN [(0, .ref o), (1, .long (((31) * (((31) * (((31) * (17)) + ((qCount (nI 0) (cn s)).toInt64))) + ((qCount (nI 1) (cn s)).toInt64))) + ((qCount (nI 2) (cn s)).toInt64))), (3, .int (nI 3))] dX12_digest_25 rfl (by decide) rfl rfl rfl ?_
  refine J_goto 6 dX12_digest_28 (by decide) ?_
  refine J_iload_n dX12_digest_6 rfl rfl ?_
  refine J_bipush (v := nI 8) dX12_digest_7 (by decide) ?_
  refine J_icmp_ge 31 dX12_digest_9 (by decide) (fun c => absurd c (by decide)) (fun _ => ?_)
  refine J_ldc2 dX12_digest_12 k_X12_296 ?_
  refine J_lload_n dX12_digest_15 rfl rfl ?_
  refine J_lmul dX12_digest_16 ?_
  refine J_aload_n dX12_digest_17 rfl rfl ?_
  refine J_iload_n dX12_digest_18 rfl rfl ?_
  refine J_callV (wr := []) (As := [.int (nI 3)]) (st := [.long ((31) * (((31) * (((31) * (((31) * (17)) + ((qCount (nI 0) (cn s)).toInt64))) + ((qCount (nI 1) (cn s)).toInt64))) + ((qCount (nI 2) (cn s)).toInt64)))]) 0 mv_X12_309 (c_X12_count o a x96 (by rw [hc_x96]; exact hL) (nI 3)) mW_0 rfl rfl rfl (by decide) (Nat.le_of_ble_eq_true rfl) ⟨Nat.le_refl _, Nat.le_refl _⟩ dX12_digest_19 (fun v_ w_ h_ => ?_)
  obtain ⟨x97, rfl, rfl, hx9⟩ := h_
  have hc_x97 : cn x97 = cn s := hx9.trans hc_x96
  show J G "digest" RX12 cX12_digest 5 (some .long) 0 0 10 Q 0 0 22 [(0, .ref o), (1, .long (((31) * (((31) * (((31) * (17)) + ((qCount (nI 0) (cn s)).toInt64))) + ((qCount (nI 1) (cn s)).toInt64))) + ((qCount (nI 2) (cn s)).toInt64))), (3, .int (nI 3))] [.int (qCount (nI 3) (cn x96)), .long ((31) * (((31) * (((31) * (((31) * (17)) + ((qCount (nI 0) (cn s)).toInt64))) + ((qCount (nI 1) (cn s)).toInt64))) + ((qCount (nI 2) (cn s)).toInt64)))] (mW G o a x97)
  refine J_rw (y := qCount (nI 3) (cn s)) (by rw [hc_x96]) ?_
  refine J_i2l dX12_digest_22 ?_
  refine J_ladd dX12_digest_23 ?_
  refine J_lstore_n [(0, .ref o), (1, .long (((31) * (((31) * (((31) * (((31) * (17)) + ((qCount (nI 0) (cn s)).toInt64))) + ((qCount (nI 1) (cn s)).toInt64))) + ((qCount (nI 2) (cn s)).toInt64))) + ((qCount (nI 3) (cn s)).toInt64))), (3, .int (nI 3))] dX12_digest_24 rfl (by decide) rfl rfl rfl ?_
  refine J_iincN [(0, .ref o), (1, .long (((31) * (((31) * (((31) * (((31) * (17)) + ((qCount (nI 0) (cn s)).toInt64))) + ((qCount (nI 1) (cn s)).toInt64))) + ((qCount (nI 2) (cn s)).toInt64))) + ((qCount (nI 3) (cn s)).toInt64))), (3, .int (nI 4))] dX12_digest_25 rfl (by decide) rfl rfl rfl ?_
  refine J_goto 6 dX12_digest_28 (by decide) ?_
  refine J_iload_n dX12_digest_6 rfl rfl ?_
  refine J_bipush (v := nI 8) dX12_digest_7 (by decide) ?_
  refine J_icmp_ge 31 dX12_digest_9 (by decide) (fun c => absurd c (by decide)) (fun _ => ?_)
  refine J_ldc2 dX12_digest_12 k_X12_296 ?_
  refine J_lload_n dX12_digest_15 rfl rfl ?_
  refine J_lmul dX12_digest_16 ?_
  refine J_aload_n dX12_digest_17 rfl rfl ?_
  refine J_iload_n dX12_digest_18 rfl rfl ?_
  refine J_callV (wr := []) (As := [.int (nI 4)]) (st := [.long ((31) * (((31) * (((31) * (((31) * (((31) * (17)) + ((qCount (nI 0) (cn s)).toInt64))) + ((qCount (nI 1) (cn s)).toInt64))) + ((qCount (nI 2) (cn s)).toInt64))) + ((qCount (nI 3) (cn s)).toInt64)))]) 0 mv_X12_309 (c_X12_count o a x97 (by rw [hc_x97]; exact hL) (nI 4)) mW_0 rfl rfl rfl (by decide) (Nat.le_of_ble_eq_true rfl) ⟨Nat.le_refl _, Nat.le_refl _⟩ dX12_digest_19 (fun v_ w_ h_ => ?_)
  obtain ⟨x98, rfl, rfl, hx9⟩ := h_
  have hc_x98 : cn x98 = cn s := hx9.trans hc_x97
  show J G "digest" RX12 cX12_digest 5 (some .long) 0 0 10 Q 0 0 22 [(0, .ref o), (1, .long (((31) * (((31) * (((31) * (((31) * (17)) + ((qCount (nI 0) (cn s)).toInt64))) + ((qCount (nI 1) (cn s)).toInt64))) + ((qCount (nI 2) (cn s)).toInt64))) + ((qCount (nI 3) (cn s)).toInt64))), (3, .int (nI 4))] [.int (qCount (nI 4) (cn x97)), .long ((31) * (((31) * (((31) * (((31) * (((31) * (17)) + ((qCount (nI 0) (cn s)).toInt64))) + ((qCount (nI 1) (cn s)).toInt64))) + ((qCount (nI 2) (cn s)).toInt64))) + ((qCount (nI 3) (cn s)).toInt64)))] (mW G o a x98)
  refine J_rw (y := qCount (nI 4) (cn s)) (by rw [hc_x97]) ?_
  refine J_i2l dX12_digest_22 ?_
  refine J_ladd dX12_digest_23 ?_
  refine J_lstore_n [(0, .ref o), (1, .long (((31) * (((31) * (((31) * (((31) * (((31) * (17)) + ((qCount (nI 0) (cn s)).toInt64))) + ((qCount (nI 1) (cn s)).toInt64))) + ((qCount (nI 2) (cn s)).toInt64))) + ((qCount (nI 3) (cn s)).toInt64))) + ((qCount (nI 4) (cn s)).toInt64))), (3, .int (nI 4))] dX12_digest_24 rfl (by decide) rfl rfl rfl ?_
  refine J_iincN [(0, .ref o), (1, .long (((31) * (((31) * (((31) * (((31) * (((31) * (17)) + ((qCount (nI 0) (cn s)).toInt64))) + ((qCount (nI 1) (cn s)).toInt64))) + ((qCount (nI 2) (cn s)).toInt64))) + ((qCount (nI 3) (cn s)).toInt64))) + ((qCount (nI 4) (cn s)).toInt64))), (3, .int (nI 5))] dX12_digest_25 rfl (by decide) rfl rfl rfl ?_
  refine J_goto 6 dX12_digest_28 (by decide) ?_
  refine J_iload_n dX12_digest_6 rfl rfl ?_
  refine J_bipush (v := nI 8) dX12_digest_7 (by decide) ?_
  refine J_icmp_ge 31 dX12_digest_9 (by decide) (fun c => absurd c (by decide)) (fun _ => ?_)
  refine J_ldc2 dX12_digest_12 k_X12_296 ?_
  refine J_lload_n dX12_digest_15 rfl rfl ?_
  refine J_lmul dX12_digest_16 ?_
  refine J_aload_n dX12_digest_17 rfl rfl ?_
  refine J_iload_n dX12_digest_18 rfl rfl ?_
  refine J_callV (wr := []) (As := [.int (nI 5)]) (st := [.long ((31) * (((31) * (((31) * (((31) * (((31) * (((31) * (17)) + ((qCount (nI 0) (cn s)).toInt64))) + ((qCount (nI 1) (cn s)).toInt64))) + ((qCount (nI 2) (cn s)).toInt64))) + ((qCount (nI 3) (cn s)).toInt64))) + ((qCount (nI 4) (cn s)).toInt64)))]) 0 mv_X12_309 (c_X12_count o a x98 (by rw [hc_x98]; exact hL) (nI 5)) mW_0 rfl rfl rfl (by decide) (Nat.le_of_ble_eq_true rfl) ⟨Nat.le_refl _, Nat.le_refl _⟩ dX12_digest_19 (fun v_ w_ h_ => ?_)
  obtain ⟨x99, rfl, rfl, hx9⟩ := h_
  have hc_x99 : cn x99 = cn s := hx9.trans hc_x98
  show J G "digest" RX12 cX12_digest 5 (some .long) 0 0 10 Q 0 0 22 [(0, .ref o), (1, .long (((31) * (((31) * (((31) * (((31) * (((31) * (17)) + ((qCount (nI 0) (cn s)).toInt64))) + ((qCount (nI 1) (cn s)).toInt64))) + ((qCount (nI 2) (cn s)).toInt64))) + ((qCount (nI 3) (cn s)).toInt64))) + ((qCount (nI 4) (cn s)).toInt64))), (3, .int (nI 5))] [.int (qCount (nI 5) (cn x98)), .long ((31) * (((31) * (((31) * (((31) * (((31) * (((31) * (17)) + ((qCount (nI 0) (cn s)).toInt64))) + ((qCount (nI 1) (cn s)).toInt64))) + ((qCount (nI 2) (cn s)).toInt64))) + ((qCount (nI 3) (cn s)).toInt64))) + ((qCount (nI 4) (cn s)).toInt64)))] (mW G o a x99)
  refine J_rw (y := qCount (nI 5) (cn s)) (by rw [hc_x98]) ?_
  refine J_i2l dX12_digest_22 ?_
  refine J_ladd dX12_digest_23 ?_
  refine J_lstore_n [(0, .ref o), (1, .long (((31) * (((31) * (((31) * (((31) * (((31) * (((31) * (17)) + ((qCount (nI 0) (cn s)).toInt64))) + ((qCount (nI 1) (cn s)).toInt64))) + ((qCount (nI 2) (cn s)).toInt64))) + ((qCount (nI 3) (cn s)).toInt64))) + ((qCount (nI 4) (cn s)).toInt64))) + ((qCount (nI 5) (cn s)).toInt64))), (3, .int (nI 5))] dX12_digest_24 rfl (by decide) rfl rfl rfl ?_
  refine J_iincN [(0, .ref o), (1, .long (((31) * (((31) * (((31) * (((31) * (((31) * (((31) * (17)) + ((qCount (nI 0) (cn s)).toInt64))) + ((qCount (nI 1) (cn s)).toInt64))) + ((qCount (nI 2) (cn s)).toInt64))) + ((qCount (nI 3) (cn s)).toInt64))) + ((qCount (nI 4) (cn s)).toInt64))) + ((qCount (nI 5) (cn s)).toInt64))), (3, .int (nI 6))] dX12_digest_25 rfl (by decide) rfl rfl rfl ?_
  refine J_goto 6 dX12_digest_28 (by decide) ?_
  refine J_iload_n dX12_digest_6 rfl rfl ?_
  refine J_bipush (v := nI 8) dX12_digest_7 (by decide) ?_
  refine J_icmp_ge 31 dX12_digest_9 (by decide) (fun c => absurd c (by decide)) (fun _ => ?_)
  refine J_ldc2 dX12_digest_12 k_X12_296 ?_
  refine J_lload_n dX12_digest_15 rfl rfl ?_
  refine J_lmul dX12_digest_16 ?_
  refine J_aload_n dX12_digest_17 rfl rfl ?_
  refine J_iload_n dX12_digest_18 rfl rfl ?_
  refine J_callV (wr := []) (As := [.int (nI 6)]) (st := [.long ((31) * (((31) * (((31) * (((31) * (((31) * (((31) * (((31) * (17)) + ((qCount (nI 0) (cn s)).toInt64))) + ((qCount (nI 1) (cn s)).toInt64))) + ((qCount (nI 2) (cn s)).toInt64))) + ((qCount (nI 3) (cn s)).toInt64))) + ((qCount (nI 4) (cn s)).toInt64))) + ((qCount (nI 5) (cn s)).toInt64)))]) 0 mv_X12_309 (c_X12_count o a x99 (by rw [hc_x99]; exact hL) (nI 6)) mW_0 rfl rfl rfl (by decide) (Nat.le_of_ble_eq_true rfl) ⟨Nat.le_refl _, Nat.le_refl _⟩ dX12_digest_19 (fun v_ w_ h_ => ?_)
  obtain ⟨x910, rfl, rfl, hx9⟩ := h_
  have hc_x910 : cn x910 = cn s := hx9.trans hc_x99
  show J G "digest" RX12 cX12_digest 5 (some .long) 0 0 10 Q 0 0 22 [(0, .ref o), (1, .long (((31) * (((31) * (((31) * (((31) * (((31) * (((31) * (17)) + ((qCount (nI 0) (cn s)).toInt64))) + ((qCount (nI 1) (cn s)).toInt64))) + ((qCount (nI 2) (cn s)).toInt64))) + ((qCount (nI 3) (cn s)).toInt64))) + ((qCount (nI 4) (cn s)).toInt64))) + ((qCount (nI 5) (cn s)).toInt64))), (3, .int (nI 6))] [.int (qCount (nI 6) (cn x99)), .long ((31) * (((31) * (((31) * (((31) * (((31) * (((31) * (((31) * (17)) + ((qCount (nI 0) (cn s)).toInt64))) + ((qCount (nI 1) (cn s)).toInt64))) + ((qCount (nI 2) (cn s)).toInt64))) + ((qCount (nI 3) (cn s)).toInt64))) + ((qCount (nI 4) (cn s)).toInt64))) + ((qCount (nI 5) (cn s)).toInt64)))] (mW G o a x910)
  refine J_rw (y := qCount (nI 6) (cn s)) (by rw [hc_x99]) ?_
  refine J_i2l dX12_digest_22 ?_
  refine J_ladd dX12_digest_23 ?_
  refine J_lstore_n [(0, .ref o), (1, .long (((31) * (((31) * (((31) * (((31) * (((31) * (((31) * (((31) * (17)) + ((qCount (nI 0) (cn s)).toInt64))) + ((qCount (nI 1) (cn s)).toInt64))) + ((qCount (nI 2) (cn s)).toInt64))) + ((qCount (nI 3) (cn s)).toInt64))) + ((qCount (nI 4) (cn s)).toInt64))) + ((qCount (nI 5) (cn s)).toInt64))) + ((qCount (nI 6) (cn s)).toInt64))), (3, .int (nI 6))] dX12_digest_24 rfl (by decide) rfl rfl rfl ?_
  refine J_iincN [(0, .ref o), (1, .long (((31) * (((31) * (((31) * (((31) * (((31) * (((31) * (((31) * (17)) + ((qCount (nI 0) (cn s)).toInt64))) + ((qCount (nI 1) (cn s)).toInt64))) + ((qCount (nI 2) (cn s)).toInt64))) + ((qCount (nI 3) (cn s)).toInt64))) + ((qCount (nI 4) (cn s)).toInt64))) + ((qCount (nI 5) (cn s)).toInt64))) + ((qCount (nI 6) (cn s)).toInt64))), (3, .int (nI 7))] dX12_digest_25 rfl (by decide) rfl rfl rfl ?_
  refine J_goto 6 dX12_digest_28 (by decide) ?_
  refine J_iload_n dX12_digest_6 rfl rfl ?_
  refine J_bipush (v := nI 8) dX12_digest_7 (by decide) ?_
  refine J_icmp_ge 31 dX12_digest_9 (by decide) (fun c => absurd c (by decide)) (fun _ => ?_)
  refine J_ldc2 dX12_digest_12 k_X12_296 ?_
  refine J_lload_n dX12_digest_15 rfl rfl ?_
  refine J_lmul dX12_digest_16 ?_
  refine J_aload_n dX12_digest_17 rfl rfl ?_
  refine J_iload_n dX12_digest_18 rfl rfl ?_
  refine J_callV (wr := []) (As := [.int (nI 7)]) (st := [.long ((31) * (((31) * (((31) * (((31) * (((31) * (((31) * (((31) * (((31) * (17)) + ((qCount (nI 0) (cn s)).toInt64))) + ((qCount (nI 1) (cn s)).toInt64))) + ((qCount (nI 2) (cn s)).toInt64))) + ((qCount (nI 3) (cn s)).toInt64))) + ((qCount (nI 4) (cn s)).toInt64))) + ((qCount (nI 5) (cn s)).toInt64))) + ((qCount (nI 6) (cn s)).toInt64)))]) 0 mv_X12_309 (c_X12_count o a x910 (by rw [hc_x910]; exact hL) (nI 7)) mW_0 rfl rfl rfl (by decide) (Nat.le_of_ble_eq_true rfl) ⟨Nat.le_refl _, Nat.le_refl _⟩ dX12_digest_19 (fun v_ w_ h_ => ?_)
  obtain ⟨x911, rfl, rfl, hx9⟩ := h_
  have hc_x911 : cn x911 = cn s := hx9.trans hc_x910
  show J G "digest" RX12 cX12_digest 5 (some .long) 0 0 10 Q 0 0 22 [(0, .ref o), (1, .long (((31) * (((31) * (((31) * (((31) * (((31) * (((31) * (((31) * (17)) + ((qCount (nI 0) (cn s)).toInt64))) + ((qCount (nI 1) (cn s)).toInt64))) + ((qCount (nI 2) (cn s)).toInt64))) + ((qCount (nI 3) (cn s)).toInt64))) + ((qCount (nI 4) (cn s)).toInt64))) + ((qCount (nI 5) (cn s)).toInt64))) + ((qCount (nI 6) (cn s)).toInt64))), (3, .int (nI 7))] [.int (qCount (nI 7) (cn x910)), .long ((31) * (((31) * (((31) * (((31) * (((31) * (((31) * (((31) * (((31) * (17)) + ((qCount (nI 0) (cn s)).toInt64))) + ((qCount (nI 1) (cn s)).toInt64))) + ((qCount (nI 2) (cn s)).toInt64))) + ((qCount (nI 3) (cn s)).toInt64))) + ((qCount (nI 4) (cn s)).toInt64))) + ((qCount (nI 5) (cn s)).toInt64))) + ((qCount (nI 6) (cn s)).toInt64)))] (mW G o a x911)
  refine J_rw (y := qCount (nI 7) (cn s)) (by rw [hc_x910]) ?_
  refine J_i2l dX12_digest_22 ?_
  refine J_ladd dX12_digest_23 ?_
  refine J_lstore_n [(0, .ref o), (1, .long (((31) * (((31) * (((31) * (((31) * (((31) * (((31) * (((31) * (((31) * (17)) + ((qCount (nI 0) (cn s)).toInt64))) + ((qCount (nI 1) (cn s)).toInt64))) + ((qCount (nI 2) (cn s)).toInt64))) + ((qCount (nI 3) (cn s)).toInt64))) + ((qCount (nI 4) (cn s)).toInt64))) + ((qCount (nI 5) (cn s)).toInt64))) + ((qCount (nI 6) (cn s)).toInt64))) + ((qCount (nI 7) (cn s)).toInt64))), (3, .int (nI 7))] dX12_digest_24 rfl (by decide) rfl rfl rfl ?_
  refine J_iincN [(0, .ref o), (1, .long (((31) * (((31) * (((31) * (((31) * (((31) * (((31) * (((31) * (((31) * (17)) + ((qCount (nI 0) (cn s)).toInt64))) + ((qCount (nI 1) (cn s)).toInt64))) + ((qCount (nI 2) (cn s)).toInt64))) + ((qCount (nI 3) (cn s)).toInt64))) + ((qCount (nI 4) (cn s)).toInt64))) + ((qCount (nI 5) (cn s)).toInt64))) + ((qCount (nI 6) (cn s)).toInt64))) + ((qCount (nI 7) (cn s)).toInt64))), (3, .int (nI 8))] dX12_digest_25 rfl (by decide) rfl rfl rfl ?_
  refine J_goto 6 dX12_digest_28 (by decide) ?_
  refine J_iload_n dX12_digest_6 rfl rfl ?_
  refine J_bipush (v := nI 8) dX12_digest_7 (by decide) ?_
  refine J_icmp_ge 31 dX12_digest_9 (by decide) (fun _ => ?_) (fun c => absurd c (by decide))
  refine J_iconst (v := nI 0) dX12_digest_31 (by decide) ?_
  refine J_istore_n [(0, .ref o), (1, .long (((31) * (((31) * (((31) * (((31) * (((31) * (((31) * (((31) * (((31) * (17)) + ((qCount (nI 0) (cn s)).toInt64))) + ((qCount (nI 1) (cn s)).toInt64))) + ((qCount (nI 2) (cn s)).toInt64))) + ((qCount (nI 3) (cn s)).toInt64))) + ((qCount (nI 4) (cn s)).toInt64))) + ((qCount (nI 5) (cn s)).toInt64))) + ((qCount (nI 6) (cn s)).toInt64))) + ((qCount (nI 7) (cn s)).toInt64))), (3, .int (nI 0))] dX12_digest_32 rfl (by decide) rfl rfl rfl ?_
  refine J_iload_n dX12_digest_33 rfl rfl ?_
  refine J_iconst (v := nI 3) dX12_digest_34 (by decide) ?_
  refine J_icmp_ge 57 dX12_digest_35 (by decide) (fun c => absurd c (by decide)) (fun _ => ?_)
  refine J_ldc2 dX12_digest_38 k_X12_296 ?_
  refine J_lload_n dX12_digest_41 rfl rfl ?_
  refine J_lmul dX12_digest_42 ?_
  refine J_aload_n dX12_digest_43 rfl rfl ?_
  refine J_iload_n dX12_digest_44 rfl rfl ?_
  refine J_callV (wr := []) (As := [.int (nI 0)]) (st := [.long ((31) * (((31) * (((31) * (((31) * (((31) * (((31) * (((31) * (((31) * (((31) * (17)) + ((qCount (nI 0) (cn s)).toInt64))) + ((qCount (nI 1) (cn s)).toInt64))) + ((qCount (nI 2) (cn s)).toInt64))) + ((qCount (nI 3) (cn s)).toInt64))) + ((qCount (nI 4) (cn s)).toInt64))) + ((qCount (nI 5) (cn s)).toInt64))) + ((qCount (nI 6) (cn s)).toInt64))) + ((qCount (nI 7) (cn s)).toInt64)))]) 0 mv_X12_118 (c_X12_text0 o a x911 (tl (cn s) 0) ((congrFun (cn_k (k := 6) hc_x911 rfl) 0).trans (hL.T (by decide)).1) hL.t0.2) mW_0 rfl rfl rfl (by decide) (Nat.le_of_ble_eq_true rfl) ⟨Nat.le_refl _, Nat.le_refl _⟩ dX12_digest_45 (fun v_ w_ h_ => ?_)
  obtain ⟨zz912, yz912, rfl, rfl, -⟩ := h_
  show J G "digest" RX12 cX12_digest 5 (some .long) 0 0 10 Q 0 0 48 [(0, .ref o), (1, .long (((31) * (((31) * (((31) * (((31) * (((31) * (((31) * (((31) * (((31) * (17)) + ((qCount (nI 0) (cn s)).toInt64))) + ((qCount (nI 1) (cn s)).toInt64))) + ((qCount (nI 2) (cn s)).toInt64))) + ((qCount (nI 3) (cn s)).toInt64))) + ((qCount (nI 4) (cn s)).toInt64))) + ((qCount (nI 5) (cn s)).toInt64))) + ((qCount (nI 6) (cn s)).toInt64))) + ((qCount (nI 7) (cn s)).toInt64))), (3, .int (nI 0))] [.int ((rdT (x911 5) 0 (tl (cn s) 0)).2), .long ((31) * (((31) * (((31) * (((31) * (((31) * (((31) * (((31) * (((31) * (((31) * (17)) + ((qCount (nI 0) (cn s)).toInt64))) + ((qCount (nI 1) (cn s)).toInt64))) + ((qCount (nI 2) (cn s)).toInt64))) + ((qCount (nI 3) (cn s)).toInt64))) + ((qCount (nI 4) (cn s)).toInt64))) + ((qCount (nI 5) (cn s)).toInt64))) + ((qCount (nI 6) (cn s)).toInt64))) + ((qCount (nI 7) (cn s)).toInt64)))] (mW G o a (su 9 (su 8 (su 7 x911 (fun _ => zz912)) (upd (x911 8) 0 (nI (rdT (x911 5) 0 (tl (cn s) 0)).1))) yz912))
  refine J_rw (y := qFault (nI 0) (cn s)) (q_fault0 hc_x911) ?_
  refine J_i2l dX12_digest_48 ?_
  refine J_ladd dX12_digest_49 ?_
  refine J_lstore_n [(0, .ref o), (1, .long (((31) * (((31) * (((31) * (((31) * (((31) * (((31) * (((31) * (((31) * (((31) * (17)) + ((qCount (nI 0) (cn s)).toInt64))) + ((qCount (nI 1) (cn s)).toInt64))) + ((qCount (nI 2) (cn s)).toInt64))) + ((qCount (nI 3) (cn s)).toInt64))) + ((qCount (nI 4) (cn s)).toInt64))) + ((qCount (nI 5) (cn s)).toInt64))) + ((qCount (nI 6) (cn s)).toInt64))) + ((qCount (nI 7) (cn s)).toInt64))) + ((qFault (nI 0) (cn s)).toInt64))), (3, .int (nI 0))] dX12_digest_50 rfl (by decide) rfl rfl rfl ?_
  refine J_iincN [(0, .ref o), (1, .long (((31) * (((31) * (((31) * (((31) * (((31) * (((31) * (((31) * (((31) * (((31) * (17)) + ((qCount (nI 0) (cn s)).toInt64))) + ((qCount (nI 1) (cn s)).toInt64))) + ((qCount (nI 2) (cn s)).toInt64))) + ((qCount (nI 3) (cn s)).toInt64))) + ((qCount (nI 4) (cn s)).toInt64))) + ((qCount (nI 5) (cn s)).toInt64))) + ((qCount (nI 6) (cn s)).toInt64))) + ((qCount (nI 7) (cn s)).toInt64))) + ((qFault (nI 0) (cn s)).toInt64))), (3, .int (nI 1))] dX12_digest_51 rfl (by decide) rfl rfl rfl ?_
  refine J_goto 33 dX12_digest_54 (by decide) ?_
  refine J_iload_n dX12_digest_33 rfl rfl ?_
  refine J_iconst (v := nI 3) dX12_digest_34 (by decide) ?_
  refine J_icmp_ge 57 dX12_digest_35 (by decide) (fun c => absurd c (by decide)) (fun _ => ?_)
  refine J_ldc2 dX12_digest_38 k_X12_296 ?_
  refine J_lload_n dX12_digest_41 rfl rfl ?_
  refine J_lmul dX12_digest_42 ?_
  refine J_aload_n dX12_digest_43 rfl rfl ?_
  refine J_iload_n dX12_digest_44 rfl rfl ?_
  refine J_callV (wr := []) (As := [.int (nI 1)]) (st := [.long ((31) * (((31) * (((31) * (((31) * (((31) * (((31) * (((31) * (((31) * (((31) * (((31) * (17)) + ((qCount (nI 0) (cn s)).toInt64))) + ((qCount (nI 1) (cn s)).toInt64))) + ((qCount (nI 2) (cn s)).toInt64))) + ((qCount (nI 3) (cn s)).toInt64))) + ((qCount (nI 4) (cn s)).toInt64))) + ((qCount (nI 5) (cn s)).toInt64))) + ((qCount (nI 6) (cn s)).toInt64))) + ((qCount (nI 7) (cn s)).toInt64))) + ((qFault (nI 0) (cn s)).toInt64)))]) 0 mv_X12_118 (c_X12_text1 o a (su 9 (su 8 (su 7 x911 (fun _ => zz912)) (upd (x911 8) 0 (nI (rdT (x911 5) 0 (tl (cn s) 0)).1))) yz912) (tl (cn s) 1) ((congrFun (cn_k (k := 6) hc_x911 rfl) 1).trans (hL.T (by decide)).1) hL.t1.2) mW_0 rfl rfl rfl (by decide) (Nat.le_of_ble_eq_true rfl) ⟨Nat.le_refl _, Nat.le_refl _⟩ dX12_digest_45 (fun v_ w_ h_ => ?_)
  obtain ⟨zz913, yz913, rfl, rfl, -⟩ := h_
  show J G "digest" RX12 cX12_digest 5 (some .long) 0 0 10 Q 0 0 48 [(0, .ref o), (1, .long (((31) * (((31) * (((31) * (((31) * (((31) * (((31) * (((31) * (((31) * (((31) * (17)) + ((qCount (nI 0) (cn s)).toInt64))) + ((qCount (nI 1) (cn s)).toInt64))) + ((qCount (nI 2) (cn s)).toInt64))) + ((qCount (nI 3) (cn s)).toInt64))) + ((qCount (nI 4) (cn s)).toInt64))) + ((qCount (nI 5) (cn s)).toInt64))) + ((qCount (nI 6) (cn s)).toInt64))) + ((qCount (nI 7) (cn s)).toInt64))) + ((qFault (nI 0) (cn s)).toInt64))), (3, .int (nI 1))] [.int ((rdT (x911 5) 1 (tl (cn s) 1)).2), .long ((31) * (((31) * (((31) * (((31) * (((31) * (((31) * (((31) * (((31) * (((31) * (((31) * (17)) + ((qCount (nI 0) (cn s)).toInt64))) + ((qCount (nI 1) (cn s)).toInt64))) + ((qCount (nI 2) (cn s)).toInt64))) + ((qCount (nI 3) (cn s)).toInt64))) + ((qCount (nI 4) (cn s)).toInt64))) + ((qCount (nI 5) (cn s)).toInt64))) + ((qCount (nI 6) (cn s)).toInt64))) + ((qCount (nI 7) (cn s)).toInt64))) + ((qFault (nI 0) (cn s)).toInt64)))] (mW G o a (su 10 (su 8 (su 7 (su 9 (su 8 (su 7 x911 (fun _ => zz912)) (upd (x911 8) 0 (nI (rdT (x911 5) 0 (tl (cn s) 0)).1))) yz912) (fun _ => zz913)) (upd (upd (x911 8) 0 (nI (rdT (x911 5) 0 (tl (cn s) 0)).1)) 1 (nI (rdT (x911 5) 1 (tl (cn s) 1)).1))) yz913))
  refine J_ws (ws2 := (mW G o a (su 10 (su 9 (su 8 (su 7 x911 (fun _ => zz913)) (upd (upd (x911 8) 0 (nI (rdT (x911 5) 0 (tl (cn s) 0)).1)) 1 (nI (rdT (x911 5) 1 (tl (cn s) 1)).1))) yz912) yz913))) (congrArg (mW G o a) (Eq.trans (su_cg (su_cg ((su_sw (by decide)).trans (su_cg ((su_sw (by decide)).trans (su_cg su_tw)))))) (su_cg ((su_sw (by decide)).trans (su_cg su_tw))))) ?_
  refine J_rw (y := qFault (nI 1) (cn s)) (q_fault1 hc_x911) ?_
  refine J_i2l dX12_digest_48 ?_
  refine J_ladd dX12_digest_49 ?_
  refine J_lstore_n [(0, .ref o), (1, .long (((31) * (((31) * (((31) * (((31) * (((31) * (((31) * (((31) * (((31) * (((31) * (((31) * (17)) + ((qCount (nI 0) (cn s)).toInt64))) + ((qCount (nI 1) (cn s)).toInt64))) + ((qCount (nI 2) (cn s)).toInt64))) + ((qCount (nI 3) (cn s)).toInt64))) + ((qCount (nI 4) (cn s)).toInt64))) + ((qCount (nI 5) (cn s)).toInt64))) + ((qCount (nI 6) (cn s)).toInt64))) + ((qCount (nI 7) (cn s)).toInt64))) + ((qFault (nI 0) (cn s)).toInt64))) + ((qFault (nI 1) (cn s)).toInt64))), (3, .int (nI 1))] dX12_digest_50 rfl (by decide) rfl rfl rfl ?_
  refine J_iincN [(0, .ref o), (1, .long (((31) * (((31) * (((31) * (((31) * (((31) * (((31) * (((31) * (((31) * (((31) * (((31) * (17)) + ((qCount (nI 0) (cn s)).toInt64))) + ((qCount (nI 1) (cn s)).toInt64))) + ((qCount (nI 2) (cn s)).toInt64))) + ((qCount (nI 3) (cn s)).toInt64))) + ((qCount (nI 4) (cn s)).toInt64))) + ((qCount (nI 5) (cn s)).toInt64))) + ((qCount (nI 6) (cn s)).toInt64))) + ((qCount (nI 7) (cn s)).toInt64))) + ((qFault (nI 0) (cn s)).toInt64))) + ((qFault (nI 1) (cn s)).toInt64))), (3, .int (nI 2))] dX12_digest_51 rfl (by decide) rfl rfl rfl ?_
  refine J_goto 33 dX12_digest_54 (by decide) ?_
  refine J_iload_n dX12_digest_33 rfl rfl ?_
  refine J_iconst (v := nI 3) dX12_digest_34 (by decide) ?_
  refine J_icmp_ge 57 dX12_digest_35 (by decide) (fun c => absurd c (by decide)) (fun _ => ?_)
  refine J_ldc2 dX12_digest_38 k_X12_296 ?_
  refine J_lload_n dX12_digest_41 rfl rfl ?_
  refine J_lmul dX12_digest_42 ?_
  refine J_aload_n dX12_digest_43 rfl rfl ?_
  refine J_iload_n dX12_digest_44 rfl rfl ?_
  refine J_callV (wr := []) (As := [.int (nI 2)]) (st := [.long ((31) * (((31) * (((31) * (((31) * (((31) * (((31) * (((31) * (((31) * (((31) * (((31) * (((31) * (17)) + ((qCount (nI 0) (cn s)).toInt64))) + ((qCount (nI 1) (cn s)).toInt64))) + ((qCount (nI 2) (cn s)).toInt64))) + ((qCount (nI 3) (cn s)).toInt64))) + ((qCount (nI 4) (cn s)).toInt64))) + ((qCount (nI 5) (cn s)).toInt64))) + ((qCount (nI 6) (cn s)).toInt64))) + ((qCount (nI 7) (cn s)).toInt64))) + ((qFault (nI 0) (cn s)).toInt64))) + ((qFault (nI 1) (cn s)).toInt64)))]) 0 mv_X12_118 (c_X12_text2 o a (su 10 (su 9 (su 8 (su 7 x911 (fun _ => zz913)) (upd (upd (x911 8) 0 (nI (rdT (x911 5) 0 (tl (cn s) 0)).1)) 1 (nI (rdT (x911 5) 1 (tl (cn s) 1)).1))) yz912) yz913) (tl (cn s) 2) ((congrFun (cn_k (k := 6) hc_x911 rfl) 2).trans (hL.T (by decide)).1) hL.t2.2) mW_0 rfl rfl rfl (by decide) (Nat.le_of_ble_eq_true rfl) ⟨Nat.le_refl _, Nat.le_refl _⟩ dX12_digest_45 (fun v_ w_ h_ => ?_)
  obtain ⟨zz914, yz914, rfl, rfl, -⟩ := h_
  show J G "digest" RX12 cX12_digest 5 (some .long) 0 0 10 Q 0 0 48 [(0, .ref o), (1, .long (((31) * (((31) * (((31) * (((31) * (((31) * (((31) * (((31) * (((31) * (((31) * (((31) * (17)) + ((qCount (nI 0) (cn s)).toInt64))) + ((qCount (nI 1) (cn s)).toInt64))) + ((qCount (nI 2) (cn s)).toInt64))) + ((qCount (nI 3) (cn s)).toInt64))) + ((qCount (nI 4) (cn s)).toInt64))) + ((qCount (nI 5) (cn s)).toInt64))) + ((qCount (nI 6) (cn s)).toInt64))) + ((qCount (nI 7) (cn s)).toInt64))) + ((qFault (nI 0) (cn s)).toInt64))) + ((qFault (nI 1) (cn s)).toInt64))), (3, .int (nI 2))] [.int ((rdT (x911 5) 2 (tl (cn s) 2)).2), .long ((31) * (((31) * (((31) * (((31) * (((31) * (((31) * (((31) * (((31) * (((31) * (((31) * (((31) * (17)) + ((qCount (nI 0) (cn s)).toInt64))) + ((qCount (nI 1) (cn s)).toInt64))) + ((qCount (nI 2) (cn s)).toInt64))) + ((qCount (nI 3) (cn s)).toInt64))) + ((qCount (nI 4) (cn s)).toInt64))) + ((qCount (nI 5) (cn s)).toInt64))) + ((qCount (nI 6) (cn s)).toInt64))) + ((qCount (nI 7) (cn s)).toInt64))) + ((qFault (nI 0) (cn s)).toInt64))) + ((qFault (nI 1) (cn s)).toInt64)))] (mW G o a (su 11 (su 8 (su 7 (su 10 (su 9 (su 8 (su 7 x911 (fun _ => zz913)) (upd (upd (x911 8) 0 (nI (rdT (x911 5) 0 (tl (cn s) 0)).1)) 1 (nI (rdT (x911 5) 1 (tl (cn s) 1)).1))) yz912) yz913) (fun _ => zz914)) (upd (upd (upd (x911 8) 0 (nI (rdT (x911 5) 0 (tl (cn s) 0)).1)) 1 (nI (rdT (x911 5) 1 (tl (cn s) 1)).1)) 2 (nI (rdT (x911 5) 2 (tl (cn s) 2)).1))) yz914))
  refine J_ws (ws2 := (mW G o a (su 11 (su 10 (su 9 (su 8 (su 7 x911 (fun _ => zz914)) (upd (upd (upd (x911 8) 0 (nI (rdT (x911 5) 0 (tl (cn s) 0)).1)) 1 (nI (rdT (x911 5) 1 (tl (cn s) 1)).1)) 2 (nI (rdT (x911 5) 2 (tl (cn s) 2)).1))) yz912) yz913) yz914))) (congrArg (mW G o a) (Eq.trans (su_cg (su_cg ((su_sw (by decide)).trans (su_cg ((su_sw (by decide)).trans (su_cg ((su_sw (by decide)).trans (su_cg su_tw)))))))) (su_cg ((su_sw (by decide)).trans (su_cg ((su_sw (by decide)).trans (su_cg su_tw))))))) ?_
  refine J_rw (y := qFault (nI 2) (cn s)) (q_fault2 hc_x911) ?_
  refine J_i2l dX12_digest_48 ?_
  refine J_ladd dX12_digest_49 ?_
  refine J_lstore_n [(0, .ref o), (1, .long (((31) * (((31) * (((31) * (((31) * (((31) * (((31) * (((31) * (((31) * (((31) * (((31) * (((31) * (17)) + ((qCount (nI 0) (cn s)).toInt64))) + ((qCount (nI 1) (cn s)).toInt64))) + ((qCount (nI 2) (cn s)).toInt64))) + ((qCount (nI 3) (cn s)).toInt64))) + ((qCount (nI 4) (cn s)).toInt64))) + ((qCount (nI 5) (cn s)).toInt64))) + ((qCount (nI 6) (cn s)).toInt64))) + ((qCount (nI 7) (cn s)).toInt64))) + ((qFault (nI 0) (cn s)).toInt64))) + ((qFault (nI 1) (cn s)).toInt64))) + ((qFault (nI 2) (cn s)).toInt64))), (3, .int (nI 2))] dX12_digest_50 rfl (by decide) rfl rfl rfl ?_
  refine J_iincN [(0, .ref o), (1, .long (((31) * (((31) * (((31) * (((31) * (((31) * (((31) * (((31) * (((31) * (((31) * (((31) * (((31) * (17)) + ((qCount (nI 0) (cn s)).toInt64))) + ((qCount (nI 1) (cn s)).toInt64))) + ((qCount (nI 2) (cn s)).toInt64))) + ((qCount (nI 3) (cn s)).toInt64))) + ((qCount (nI 4) (cn s)).toInt64))) + ((qCount (nI 5) (cn s)).toInt64))) + ((qCount (nI 6) (cn s)).toInt64))) + ((qCount (nI 7) (cn s)).toInt64))) + ((qFault (nI 0) (cn s)).toInt64))) + ((qFault (nI 1) (cn s)).toInt64))) + ((qFault (nI 2) (cn s)).toInt64))), (3, .int (nI 3))] dX12_digest_51 rfl (by decide) rfl rfl rfl ?_
  refine J_goto 33 dX12_digest_54 (by decide) ?_
  refine J_iload_n dX12_digest_33 rfl rfl ?_
  refine J_iconst (v := nI 3) dX12_digest_34 (by decide) ?_
  refine J_icmp_ge 57 dX12_digest_35 (by decide) (fun _ => ?_) (fun c => absurd c (by decide))
  show J G "digest" RX12 cX12_digest 5 (some .long) 0 0 10 Q 0 0 57 [(0, .ref o), (1, .long (dg1 (cn s))), (3, .int (nI 3))] [] (mW G o a (su 11 (su 10 (su 9 (su 8 (su 7 x911 (fun _ => zz914)) (upd (upd (upd (x911 8) 0 (nI (rdT (x911 5) 0 (tl (cn s) 0)).1)) 1 (nI (rdT (x911 5) 1 (tl (cn s) 1)).1)) 2 (nI (rdT (x911 5) 2 (tl (cn s) 2)).1))) yz912) yz913) yz914))
  refine J_aload_n dX12_digest_57 rfl rfl ?_
  have hcc : cn (su 11 (su 10 (su 9 (su 8 (su 7 x911 (fun _ => zz914)) (upd (upd (upd (x911 8) 0 (nI (rdT (x911 5) 0 (tl (cn s) 0)).1)) 1 (nI (rdT (x911 5) 1 (tl (cn s) 1)).1)) 2 (nI (rdT (x911 5) 2 (tl (cn s) 2)).1))) yz912) yz913) yz914) = cn s := by rw [cnu_out (k := 11) rfl, cnu_out (k := 10) rfl, cnu_out (k := 9) rfl, cnu_out (k := 8) rfl, cnu_out (k := 7) rfl, hc_x911]
  have hLc : LI (cn (su 11 (su 10 (su 9 (su 8 (su 7 x911 (fun _ => zz914)) (upd (upd (upd (x911 8) 0 (nI (rdT (x911 5) 0 (tl (cn s) 0)).1)) 1 (nI (rdT (x911 5) 1 (tl (cn s) 1)).1)) 2 (nI (rdT (x911 5) 2 (tl (cn s) 2)).1))) yz912) yz913) yz914)) := by rw [hcc]; exact hL
  refine J_callV (wr := []) (As := []) (st := []) 0 mv_X12_171 (c_X12_find o a (su 11 (su 10 (su 9 (su 8 (su 7 x911 (fun _ => zz914)) (upd (upd (upd (x911 8) 0 (nI (rdT (x911 5) 0 (tl (cn s) 0)).1)) 1 (nI (rdT (x911 5) 1 (tl (cn s) 1)).1)) 2 (nI (rdT (x911 5) 2 (tl (cn s) 2)).1))) yz912) yz913) yz914) (tl (cn (su 11 (su 10 (su 9 (su 8 (su 7 x911 (fun _ => zz914)) (upd (upd (upd (x911 8) 0 (nI (rdT (x911 5) 0 (tl (cn s) 0)).1)) 1 (nI (rdT (x911 5) 1 (tl (cn s) 1)).1)) 2 (nI (rdT (x911 5) 2 (tl (cn s) 2)).1))) yz912) yz913) yz914)) 0) (tl (cn (su 11 (su 10 (su 9 (su 8 (su 7 x911 (fun _ => zz914)) (upd (upd (upd (x911 8) 0 (nI (rdT (x911 5) 0 (tl (cn s) 0)).1)) 1 (nI (rdT (x911 5) 1 (tl (cn s) 1)).1)) 2 (nI (rdT (x911 5) 2 (tl (cn s) 2)).1))) yz912) yz913) yz914)) 1) (tl (cn (su 11 (su 10 (su 9 (su 8 (su 7 x911 (fun _ => zz914)) (upd (upd (upd (x911 8) 0 (nI (rdT (x911 5) 0 (tl (cn s) 0)).1)) 1 (nI (rdT (x911 5) 1 (tl (cn s) 1)).1)) 2 (nI (rdT (x911 5) 2 (tl (cn s) 2)).1))) yz912) yz913) yz914)) 2) (hLc.T (by decide)).1 (hLc.T (by decide)).1 (hLc.T (by decide)).1 hLc.t0.2 hLc.t1.2 hLc.t2.2 (rfn (cn (su 11 (su 10 (su 9 (su 8 (su 7 x911 (fun _ => zz914)) (upd (upd (upd (x911 8) 0 (nI (rdT (x911 5) 0 (tl (cn s) 0)).1)) 1 (nI (rdT (x911 5) 1 (tl (cn s) 1)).1)) 2 (nI (rdT (x911 5) 2 (tl (cn s) 2)).1))) yz912) yz913) yz914))) hLc.R.1 hLc.R.2.1) mW_0 rfl rfl rfl (by decide) (Nat.le_of_ble_eq_true rfl) ⟨Nat.le_refl _, Nat.le_refl _⟩ dX12_digest_58 (fun v_ w_ h_ => ?_)
  obtain ⟨x58, rfl, rfl, hx58⟩ := h_
  have hF58 : Fnn (cn s) x58 := hcc ▸ fnd_fd hx58
  have hP58 := hF58.1
  have hn : x58 8 0 = nI n := by rw [en]; exact hP58.2.1
  have hm : x58 8 1 = nI m := by rw [em]; exact hP58.2.2.1
  have hc : x58 8 2 = nI c := by rw [ec]; exact hP58.2.2.2.1
  have rwH : Rw 5 n (x58 9) (HbS (cn s)) := by rw [en]; exact hP58.2.2.2.2.1
  have rwE : Rw 3 m (x58 10) (HeS (cn s)) := by rw [em]; exact hP58.2.2.2.2.2.1
  have rwC : Rw 4 c (x58 11) (ClS (cn s)) := by rw [ec]; exact hP58.2.2.2.2.2.2
  have hCl : ∀ k, k < c → x58 11 (4 * k + 3) = -1 ∨ ∃ j, j < 8 ∧ x58 11 (4 * k + 3) = nI j := by rw [ec]; exact hP58.ask
  have hHe : ∀ e, e < m → ¬ x58 10 (3 * e) < nI 0 := by rw [em]; exact hP58.room
  have hrf : x58 12 0 = nI rf := by rw [erf]; exact (congrFun (hP58.c (k := 12) rfl) 0).trans hL.rf.1
  have hsg : x58 21 0 = nI sg := by rw [esg]; exact (congrFun (hP58.c (k := 21) rfl) 0).trans hL.sg.1
  have hSg : ∀ k, k < sg → ∃ t, t < 24 ∧ x58 22 (3 * k) = nI t := by rw [esg, hP58.c (k := 22) rfl]; exact fun k hk => (hL.sg.2.2 k hk).1
  have hc_x58 : cn x58 = (cn s) := hP58.1
  have hao : x58 15 0 = nI 0 := hF58.2.1
  have h17 := hF58.2.2.1
  have h18 := hF58.2.2.2
  show J G "digest" RX12 cX12_digest 5 (some .long) 0 0 10 Q 0 0 61 [(0, .ref o), (1, .long (dg1 (cn s))), (3, .int (nI 3))] [] (mW G o a x58)
  refine J_iconst (v := nI 0) dX12_digest_61 (by decide) ?_
  refine J_istore_n [(0, .ref o), (1, .long (dg1 (cn s))), (3, .int (nI 0))] dX12_digest_62 rfl (by decide) rfl rfl rfl ?_
  have L63 : ∀ (f k : Nat) (y : St), n - k < f → k ≤ n → Fnn (cn s) y → ∀ (x1 : Int64) (x3 : Int32), x1 = dgF (dHab (cn s)) k (dg1 (cn s)) → x3 = nI k → J G "digest" RX12 cX12_digest 5 (some .long) 0 0 10 Q 0 0 63 [(0, .ref o), (1, .long x1), (3, .int x3)] [] (mW G o a y) := by
    intro f
    induction f with
    | zero => intro k y h; exact absurd h (Nat.not_lt_zero _)
    | succ f ih63 =>
      intro k y hf63 hle63 hFy x1 x3 e1 e3
      subst e1
      subst e3
      have hn : y 8 0 = nI n := by rw [en]; exact hFy.1.2.1
      have hm : y 8 1 = nI m := by rw [em]; exact hFy.1.2.2.1
      have hc : y 8 2 = nI c := by rw [ec]; exact hFy.1.2.2.2.1
      have rwH : Rw 5 n (y 9) (HbS (cn s)) := by rw [en]; exact hFy.1.2.2.2.2.1
      have rwE : Rw 3 m (y 10) (HeS (cn s)) := by rw [em]; exact hFy.1.2.2.2.2.2.1
      have rwC : Rw 4 c (y 11) (ClS (cn s)) := by rw [ec]; exact hFy.1.2.2.2.2.2.2
      have hCl : ∀ k, k < c → y 11 (4 * k + 3) = -1 ∨ ∃ j, j < 8 ∧ y 11 (4 * k + 3) = nI j := by rw [ec]; exact hFy.1.ask
      have hHe : ∀ e, e < m → ¬ y 10 (3 * e) < nI 0 := by rw [em]; exact hFy.1.room
      have hrf : y 12 0 = nI rf := by rw [erf]; exact (congrFun (hFy.1.c (k := 12) rfl) 0).trans hL.rf.1
      have hsg : y 21 0 = nI sg := by rw [esg]; exact (congrFun (hFy.1.c (k := 21) rfl) 0).trans hL.sg.1
      have hSg : ∀ k, k < sg → ∃ t, t < 24 ∧ y 22 (3 * k) = nI t := by rw [esg, hFy.1.c (k := 22) rfl]; exact fun k hk => (hL.sg.2.2 k hk).1
      have hc_y : cn y = (cn s) := hFy.1.1
      have hao : y 15 0 = nI 0 := hFy.2.1
      have h17 := hFy.2.2.1
      have h18 := hFy.2.2.2
      refine J_iload_n dX12_digest_63 rfl rfl ?_
      refine J_aload_n dX12_digest_64 rfl rfl ?_
      refine Mg_8 dX12_digest_65 ?_
      refine J_iconst (v := nI 0) dX12_digest_68 (by decide) ?_
      refine Ml_8 (s := y) (y 8) rfl 0 rfl (by omega) dX12_digest_69 ?_
      refine J_rw (y := nI n) hn ?_
      refine J_icmp_geN 86 (by omega) (by omega) dX12_digest_70 (by decide) (fun kcz1 => ?_) (fun kcz1 => ?_)
      · obtain rfl : n = k := (by omega)
        refine J_iconst (v := nI 0) dX12_digest_86 (by decide) ?_
        refine J_istore_n [(0, .ref o), (1, .long (dgF (dHab (cn s)) n (dg1 (cn s)))), (3, .int (nI 0))] dX12_digest_87 rfl (by decide) rfl rfl rfl ?_
        have L88 : ∀ (f k : Nat) (y : St), m - k < f → k ≤ m → Fnn (cn s) y → ∀ (x1 : Int64) (x3 : Int32), x1 = dgF (fun h e => dPlan (cn s) (dHeir (cn s) h e) e) k (dgF (dHab (cn s)) n (dg1 (cn s))) → x3 = nI k → J G "digest" RX12 cX12_digest 5 (some .long) 0 0 10 Q 0 0 88 [(0, .ref o), (1, .long x1), (3, .int x3)] [] (mW G o a y) := by
          intro f
          induction f with
          | zero => intro k y h; exact absurd h (Nat.not_lt_zero _)
          | succ f ih88 =>
            intro k y hf88 hle88 hFy x1 x3 e1 e3
            subst e1
            subst e3
            have hn : y 8 0 = nI n := by rw [en]; exact hFy.1.2.1
            have hm : y 8 1 = nI m := by rw [em]; exact hFy.1.2.2.1
            have hc : y 8 2 = nI c := by rw [ec]; exact hFy.1.2.2.2.1
            have rwH : Rw 5 n (y 9) (HbS (cn s)) := by rw [en]; exact hFy.1.2.2.2.2.1
            have rwE : Rw 3 m (y 10) (HeS (cn s)) := by rw [em]; exact hFy.1.2.2.2.2.2.1
            have rwC : Rw 4 c (y 11) (ClS (cn s)) := by rw [ec]; exact hFy.1.2.2.2.2.2.2
            have hCl : ∀ k, k < c → y 11 (4 * k + 3) = -1 ∨ ∃ j, j < 8 ∧ y 11 (4 * k + 3) = nI j := by rw [ec]; exact hFy.1.ask
            have hHe : ∀ e, e < m → ¬ y 10 (3 * e) < nI 0 := by rw [em]; exact hFy.1.room
            have hrf : y 12 0 = nI rf := by rw [erf]; exact (congrFun (hFy.1.c (k := 12) rfl) 0).trans hL.rf.1
            have hsg : y 21 0 = nI sg := by rw [esg]; exact (congrFun (hFy.1.c (k := 21) rfl) 0).trans hL.sg.1
            have hSg : ∀ k, k < sg → ∃ t, t < 24 ∧ y 22 (3 * k) = nI t := by rw [esg, hFy.1.c (k := 22) rfl]; exact fun k hk => (hL.sg.2.2 k hk).1
            have hc_y : cn y = (cn s) := hFy.1.1
            have hao : y 15 0 = nI 0 := hFy.2.1
            have h17 := hFy.2.2.1
            have h18 := hFy.2.2.2
            refine J_iload_n dX12_digest_88 rfl rfl ?_
            refine J_aload_n dX12_digest_89 rfl rfl ?_
            refine Mg_8 dX12_digest_90 ?_
            refine J_iconst (v := nI 1) dX12_digest_93 (by decide) ?_
            refine Ml_8 (s := y) (y 8) rfl 1 rfl (by omega) dX12_digest_94 ?_
            refine J_rw (y := nI m) hm ?_
            refine J_icmp_geN 111 (by omega) (by omega) dX12_digest_95 (by decide) (fun kcz2 => ?_) (fun kcz2 => ?_)
            · obtain rfl : m = k := (by omega)
              refine J_iconst (v := nI 0) dX12_digest_111 (by decide) ?_
              refine J_istore_n [(0, .ref o), (1, .long (dgF (fun h e => dPlan (cn s) (dHeir (cn s) h e) e) m (dgF (dHab (cn s)) n (dg1 (cn s))))), (3, .int (nI 0))] dX12_digest_112 rfl (by decide) rfl rfl rfl ?_
              have L113 : ∀ (f i : Nat), c - i < f → i ≤ c → ∀ (x1 : Int64) (x3 : Int32), x1 = dgF (dCl (cn s)) i (dgF (fun h e => dPlan (cn s) (dHeir (cn s) h e) e) m (dgF (dHab (cn s)) n (dg1 (cn s)))) → x3 = nI i → J G "digest" RX12 cX12_digest 5 (some .long) 0 0 10 Q 0 0 113 [(0, .ref o), (1, .long x1), (3, .int x3)] [] (mW G o a y) := by
                intro f
                induction f with
                | zero => intro i h; exact absurd h (Nat.not_lt_zero _)
                | succ f ih113 =>
                  intro i hf113 hle113  x1 x3 e1 e3
                  subst e1
                  subst e3
                  refine J_iload_n dX12_digest_113 rfl rfl ?_
                  refine J_aload_n dX12_digest_114 rfl rfl ?_
                  refine Mg_8 dX12_digest_115 ?_
                  refine J_iconst (v := nI 2) dX12_digest_118 (by decide) ?_
                  refine Ml_8 (s := y) (y 8) rfl 2 rfl (by omega) dX12_digest_119 ?_
                  refine J_rw (y := nI c) hc ?_
                  refine J_icmp_geN 163 (by omega) (by omega) dX12_digest_120 (by decide) (fun kcz3 => ?_) (fun kcz3 => ?_)
                  · obtain rfl : c = i := (by omega)
                    refine J_ldc2 dX12_digest_163 k_X12_296 ?_
                    refine J_lload_n dX12_digest_166 rfl rfl ?_
                    refine J_lmul dX12_digest_167 ?_
                    refine J_aload_n dX12_digest_168 rfl rfl ?_
                    refine Mg_18 (s := y) (y 18 0) rfl dX12_digest_169 ?_
                    refine J_rw (y := qDone (cn s)) h18 ?_
                    refine J_i2l dX12_digest_172 ?_
                    refine J_ladd dX12_digest_173 ?_
                    refine J_lstore_n [(0, .ref o), (1, .long (((31) * (dgF (dCl (cn s)) c (dgF (fun h e => dPlan (cn s) (dHeir (cn s) h e) e) m (dgF (dHab (cn s)) n (dg1 (cn s)))))) + ((qDone (cn s)).toInt64))), (3, .int (nI c))] dX12_digest_174 rfl (by decide) rfl rfl rfl ?_
                    refine J_iconst (v := nI 0) dX12_digest_175 (by decide) ?_
                    refine J_istore_n [(0, .ref o), (1, .long (((31) * (dgF (dCl (cn s)) c (dgF (fun h e => dPlan (cn s) (dHeir (cn s) h e) e) m (dgF (dHab (cn s)) n (dg1 (cn s)))))) + ((qDone (cn s)).toInt64))), (3, .int (nI 0))] dX12_digest_176 rfl (by decide) rfl rfl rfl ?_
                    refine J_iload_n dX12_digest_177 rfl rfl ?_
                    refine J_iconst (v := nI 4) dX12_digest_178 (by decide) ?_
                    refine J_icmp_ge 201 dX12_digest_179 (by decide) (fun c => absurd c (by decide)) (fun _ => ?_)
                    refine J_ldc2 dX12_digest_182 k_X12_296 ?_
                    refine J_lload_n dX12_digest_185 rfl rfl ?_
                    refine J_lmul dX12_digest_186 ?_
                    refine J_aload_n dX12_digest_187 rfl rfl ?_
                    refine J_iload_n dX12_digest_188 rfl rfl ?_
                    refine J_cVi (x := yX12_in) [.int (nI 0)] 0 mv_X12_210 (c_X12_quarrelOf0 o a y n hn hn8 m hm hm6) mW_0 rfl rfl (by decide) (Nat.le_of_ble_eq_true rfl) ⟨Nat.le_refl _, Nat.le_refl _⟩ dX12_digest_189 ?_
                    refine J_rw (y := qQuarrel (nI 0) (cn s)) (by rw [en, em]; exact q_quar hFy (by decide)) ?_
                    refine J_i2l dX12_digest_192 ?_
                    refine J_ladd dX12_digest_193 ?_
                    refine J_lstore_n [(0, .ref o), (1, .long (((31) * (((31) * (dgF (dCl (cn s)) c (dgF (fun h e => dPlan (cn s) (dHeir (cn s) h e) e) m (dgF (dHab (cn s)) n (dg1 (cn s)))))) + ((qDone (cn s)).toInt64))) + ((qQuarrel (nI 0) (cn s)).toInt64))), (3, .int (nI 0))] dX12_digest_194 rfl (by decide) rfl rfl rfl ?_
                    refine J_iincN [(0, .ref o), (1, .long (((31) * (((31) * (dgF (dCl (cn s)) c (dgF (fun h e => dPlan (cn s) (dHeir (cn s) h e) e) m (dgF (dHab (cn s)) n (dg1 (cn s)))))) + ((qDone (cn s)).toInt64))) + ((qQuarrel (nI 0) (cn s)).toInt64))), (3, .int (nI 1))] dX12_digest_195 rfl (by decide) rfl rfl rfl ?_
                    refine J_goto 177 dX12_digest_198 (by decide) ?_
                    refine J_iload_n dX12_digest_177 rfl rfl ?_
                    refine J_iconst (v := nI 4) dX12_digest_178 (by decide) ?_
                    refine J_icmp_ge 201 dX12_digest_179 (by decide) (fun c => absurd c (by decide)) (fun _ => ?_)
                    refine J_ldc2 dX12_digest_182 k_X12_296 ?_
                    refine J_lload_n dX12_digest_185 rfl rfl ?_
                    refine J_lmul dX12_digest_186 ?_
                    refine J_aload_n dX12_digest_187 rfl rfl ?_
                    refine J_iload_n dX12_digest_188 rfl rfl ?_
                    refine J_cVi (x := yX12_in) [.int (nI 1)] 0 mv_X12_210 (c_X12_quarrelOf1 o a y n hn hn8 m hm hm6) mW_0 rfl rfl (by decide) (Nat.le_of_ble_eq_true rfl) ⟨Nat.le_refl _, Nat.le_refl _⟩ dX12_digest_189 ?_
                    refine J_rw (y := qQuarrel (nI 1) (cn s)) (by rw [en, em]; exact q_quar hFy (by decide)) ?_
                    refine J_i2l dX12_digest_192 ?_
                    refine J_ladd dX12_digest_193 ?_
                    refine J_lstore_n [(0, .ref o), (1, .long (((31) * (((31) * (((31) * (dgF (dCl (cn s)) c (dgF (fun h e => dPlan (cn s) (dHeir (cn s) h e) e) m (dgF (dHab (cn s)) n (dg1 (cn s)))))) + ((qDone (cn s)).toInt64))) + ((qQuarrel (nI 0) (cn s)).toInt64))) + ((qQuarrel (nI 1) (cn s)).toInt64))), (3, .int (nI 1))] dX12_digest_194 rfl (by decide) rfl rfl rfl ?_
                    refine J_iincN [(0, .ref o), (1, .long (((31) * (((31) * (((31) * (dgF (dCl (cn s)) c (dgF (fun h e => dPlan (cn s) (dHeir (cn s) h e) e) m (dgF (dHab (cn s)) n (dg1 (cn s)))))) + ((qDone (cn s)).toInt64))) + ((qQuarrel (nI 0) (cn s)).toInt64))) + ((qQuarrel (nI 1) (cn s)).toInt64))), (3, .int (nI 2))] dX12_digest_195 rfl (by decide) rfl rfl rfl ?_
                    refine J_goto 177 dX12_digest_198 (by decide) ?_
                    refine J_iload_n dX12_digest_177 rfl rfl ?_
                    refine J_iconst (v := nI 4) dX12_digest_178 (by decide) ?_
                    refine J_icmp_ge 201 dX12_digest_179 (by decide) (fun c => absurd c (by decide)) (fun _ => ?_)
                    refine J_ldc2 dX12_digest_182 k_X12_296 ?_
                    refine J_lload_n dX12_digest_185 rfl rfl ?_
                    refine J_lmul dX12_digest_186 ?_
                    refine J_aload_n dX12_digest_187 rfl rfl ?_
                    refine J_iload_n dX12_digest_188 rfl rfl ?_
                    refine J_cVi (x := yX12_in) [.int (nI 2)] 0 mv_X12_210 (c_X12_quarrelOf2 o a y n hn hn8 m hm hm6) mW_0 rfl rfl (by decide) (Nat.le_of_ble_eq_true rfl) ⟨Nat.le_refl _, Nat.le_refl _⟩ dX12_digest_189 ?_
                    refine J_rw (y := qQuarrel (nI 2) (cn s)) (by rw [en, em]; exact q_quar hFy (by decide)) ?_
                    refine J_i2l dX12_digest_192 ?_
                    refine J_ladd dX12_digest_193 ?_
                    refine J_lstore_n [(0, .ref o), (1, .long (((31) * (((31) * (((31) * (((31) * (dgF (dCl (cn s)) c (dgF (fun h e => dPlan (cn s) (dHeir (cn s) h e) e) m (dgF (dHab (cn s)) n (dg1 (cn s)))))) + ((qDone (cn s)).toInt64))) + ((qQuarrel (nI 0) (cn s)).toInt64))) + ((qQuarrel (nI 1) (cn s)).toInt64))) + ((qQuarrel (nI 2) (cn s)).toInt64))), (3, .int (nI 2))] dX12_digest_194 rfl (by decide) rfl rfl rfl ?_
                    refine J_iincN [(0, .ref o), (1, .long (((31) * (((31) * (((31) * (((31) * (dgF (dCl (cn s)) c (dgF (fun h e => dPlan (cn s) (dHeir (cn s) h e) e) m (dgF (dHab (cn s)) n (dg1 (cn s)))))) + ((qDone (cn s)).toInt64))) + ((qQuarrel (nI 0) (cn s)).toInt64))) + ((qQuarrel (nI 1) (cn s)).toInt64))) + ((qQuarrel (nI 2) (cn s)).toInt64))), (3, .int (nI 3))] dX12_digest_195 rfl (by decide) rfl rfl rfl ?_
                    refine J_goto 177 dX12_digest_198 (by decide) ?_
                    refine J_iload_n dX12_digest_177 rfl rfl ?_
                    refine J_iconst (v := nI 4) dX12_digest_178 (by decide) ?_
                    refine J_icmp_ge 201 dX12_digest_179 (by decide) (fun c => absurd c (by decide)) (fun _ => ?_)
                    refine J_ldc2 dX12_digest_182 k_X12_296 ?_
                    refine J_lload_n dX12_digest_185 rfl rfl ?_
                    refine J_lmul dX12_digest_186 ?_
                    refine J_aload_n dX12_digest_187 rfl rfl ?_
                    refine J_iload_n dX12_digest_188 rfl rfl ?_
                    refine J_cVi (x := yX12_in) [.int (nI 3)] 0 mv_X12_210 (c_X12_quarrelOf3 o a y n hn hn8 m hm hm6) mW_0 rfl rfl (by decide) (Nat.le_of_ble_eq_true rfl) ⟨Nat.le_refl _, Nat.le_refl _⟩ dX12_digest_189 ?_
                    refine J_rw (y := qQuarrel (nI 3) (cn s)) (by rw [en, em]; exact q_quar hFy (by decide)) ?_
                    refine J_i2l dX12_digest_192 ?_
                    refine J_ladd dX12_digest_193 ?_
                    refine J_lstore_n [(0, .ref o), (1, .long (((31) * (((31) * (((31) * (((31) * (((31) * (dgF (dCl (cn s)) c (dgF (fun h e => dPlan (cn s) (dHeir (cn s) h e) e) m (dgF (dHab (cn s)) n (dg1 (cn s)))))) + ((qDone (cn s)).toInt64))) + ((qQuarrel (nI 0) (cn s)).toInt64))) + ((qQuarrel (nI 1) (cn s)).toInt64))) + ((qQuarrel (nI 2) (cn s)).toInt64))) + ((qQuarrel (nI 3) (cn s)).toInt64))), (3, .int (nI 3))] dX12_digest_194 rfl (by decide) rfl rfl rfl ?_
                    refine J_iincN [(0, .ref o), (1, .long (((31) * (((31) * (((31) * (((31) * (((31) * (dgF (dCl (cn s)) c (dgF (fun h e => dPlan (cn s) (dHeir (cn s) h e) e) m (dgF (dHab (cn s)) n (dg1 (cn s)))))) + ((qDone (cn s)).toInt64))) + ((qQuarrel (nI 0) (cn s)).toInt64))) + ((qQuarrel (nI 1) (cn s)).toInt64))) + ((qQuarrel (nI 2) (cn s)).toInt64))) + ((qQuarrel (nI 3) (cn s)).toInt64))), (3, .int (nI 4))] dX12_digest_195 rfl (by decide) rfl rfl rfl ?_
                    refine J_goto 177 dX12_digest_198 (by decide) ?_
                    refine J_iload_n dX12_digest_177 rfl rfl ?_
                    refine J_iconst (v := nI 4) dX12_digest_178 (by decide) ?_
                    refine J_icmp_ge 201 dX12_digest_179 (by decide) (fun _ => ?_) (fun c => absurd c (by decide))
                    refine J_ldc2 dX12_digest_201 k_X12_296 ?_
                    refine J_lload_n dX12_digest_204 rfl rfl ?_
                    refine J_lmul dX12_digest_205 ?_
                    refine J_aload_n dX12_digest_206 rfl rfl ?_
                    refine J_iconst (v := -1) dX12_digest_207 (by decide) ?_
                    refine J_cVi (x := yX12_in) [.int (-1)] 0 mv_X12_230 (c_X12_bestOfN o a y n hn hn8 m hm hm6 hHe) mW_0 rfl rfl (by decide) (Nat.le_of_ble_eq_true rfl) ⟨Nat.le_refl _, Nat.le_refl _⟩ dX12_digest_208 ?_
                    show J G "digest" RX12 cX12_digest 5 (some .long) 0 0 10 Q 0 0 211 [(0, .ref o), (1, .long (((31) * (((31) * (((31) * (((31) * (((31) * (dgF (dCl (cn s)) c (dgF (fun h e => dPlan (cn s) (dHeir (cn s) h e) e) m (dgF (dHab (cn s)) n (dg1 (cn s)))))) + ((qDone (cn s)).toInt64))) + ((qQuarrel (nI 0) (cn s)).toInt64))) + ((qQuarrel (nI 1) (cn s)).toInt64))) + ((qQuarrel (nI 2) (cn s)).toInt64))) + ((qQuarrel (nI 3) (cn s)).toInt64))), (3, .int (nI 4))] [.int ((bsF n (min n 6) (min m 4) (y 9) (y 10) (y 19 0) ((min m 4 + 1) ^ (min n 6))).1), .long ((31) * (((31) * (((31) * (((31) * (((31) * (((31) * (dgF (dCl (cn s)) c (dgF (fun h e => dPlan (cn s) (dHeir (cn s) h e) e) m (dgF (dHab (cn s)) n (dg1 (cn s)))))) + ((qDone (cn s)).toInt64))) + ((qQuarrel (nI 0) (cn s)).toInt64))) + ((qQuarrel (nI 1) (cn s)).toInt64))) + ((qQuarrel (nI 2) (cn s)).toInt64))) + ((qQuarrel (nI 3) (cn s)).toInt64)))] (mW G o a (su 20 (su 19 (su 17 y (lyW (min m 4 + 1) (bsF n (min n 6) (min m 4) (y 9) (y 10) (y 19 0) ((min m 4 + 1) ^ (min n 6))).2.toNatClampNeg (min n 6))) (fun _ => (bsF n (min n 6) (min m 4) (y 9) (y 10) (y 19 0) ((min m 4 + 1) ^ (min n 6))).2)) (fun _ => (bsF n (min n 6) (min m 4) (y 9) (y 10) (y 19 0) ((min m 4 + 1) ^ (min n 6))).1)))
                    refine J_rw (y := qBest (-1) (cn s)) (by rw [en, em, hFy.1.bs]; rfl) ?_
                    refine J_i2l dX12_digest_211 ?_
                    refine J_ladd dX12_digest_212 ?_
                    refine J_lstore_n [(0, .ref o), (1, .long (((31) * (((31) * (((31) * (((31) * (((31) * (((31) * (dgF (dCl (cn s)) c (dgF (fun h e => dPlan (cn s) (dHeir (cn s) h e) e) m (dgF (dHab (cn s)) n (dg1 (cn s)))))) + ((qDone (cn s)).toInt64))) + ((qQuarrel (nI 0) (cn s)).toInt64))) + ((qQuarrel (nI 1) (cn s)).toInt64))) + ((qQuarrel (nI 2) (cn s)).toInt64))) + ((qQuarrel (nI 3) (cn s)).toInt64))) + ((qBest (-1) (cn s)).toInt64))), (3, .int (nI 4))] dX12_digest_213 rfl (by decide) rfl rfl rfl ?_
                    refine J_ldc2 dX12_digest_214 k_X12_296 ?_
                    refine J_lload_n dX12_digest_217 rfl rfl ?_
                    refine J_lmul dX12_digest_218 ?_
                    refine J_aload_n dX12_digest_219 rfl rfl ?_
                    refine J_iconst (v := nI 0) dX12_digest_220 (by decide) ?_
                    refine J_cVi (x := yX12_in) [.int (nI 0)] 0 mv_X12_230 (c_X12_bestOfI o a (su 20 (su 19 (su 17 y (lyW (min m 4 + 1) (bsF n (min n 6) (min m 4) (y 9) (y 10) (y 19 0) ((min m 4 + 1) ^ (min n 6))).2.toNatClampNeg (min n 6))) (fun _ => (bsF n (min n 6) (min m 4) (y 9) (y 10) (y 19 0) ((min m 4 + 1) ^ (min n 6))).2)) (fun _ => (bsF n (min n 6) (min m 4) (y 9) (y 10) (y 19 0) ((min m 4 + 1) ^ (min n 6))).1)) n hn hn8 m hm hm6 hHe 0 (by omega)) mW_0 rfl rfl (by decide) (Nat.le_of_ble_eq_true rfl) ⟨Nat.le_refl _, Nat.le_refl _⟩ dX12_digest_221 ?_
                    show J G "digest" RX12 cX12_digest 5 (some .long) 0 0 10 Q 0 0 224 [(0, .ref o), (1, .long (((31) * (((31) * (((31) * (((31) * (((31) * (((31) * (dgF (dCl (cn s)) c (dgF (fun h e => dPlan (cn s) (dHeir (cn s) h e) e) m (dgF (dHab (cn s)) n (dg1 (cn s)))))) + ((qDone (cn s)).toInt64))) + ((qQuarrel (nI 0) (cn s)).toInt64))) + ((qQuarrel (nI 1) (cn s)).toInt64))) + ((qQuarrel (nI 2) (cn s)).toInt64))) + ((qQuarrel (nI 3) (cn s)).toInt64))) + ((qBest (-1) (cn s)).toInt64))), (3, .int (nI 4))] [.int (if n ≤ 0 then -1 else lyW (min m 4 + 1) (bsF n (min n 6) (min m 4) (y 9) (y 10) ((bsF n (min n 6) (min m 4) (y 9) (y 10) (y 19 0) ((min m 4 + 1) ^ (min n 6))).2) ((min m 4 + 1) ^ (min n 6))).2.toNatClampNeg (min n 6) 0), .long ((31) * (((31) * (((31) * (((31) * (((31) * (((31) * (((31) * (dgF (dCl (cn s)) c (dgF (fun h e => dPlan (cn s) (dHeir (cn s) h e) e) m (dgF (dHab (cn s)) n (dg1 (cn s)))))) + ((qDone (cn s)).toInt64))) + ((qQuarrel (nI 0) (cn s)).toInt64))) + ((qQuarrel (nI 1) (cn s)).toInt64))) + ((qQuarrel (nI 2) (cn s)).toInt64))) + ((qQuarrel (nI 3) (cn s)).toInt64))) + ((qBest (-1) (cn s)).toInt64)))] (mW G o a (su 20 (su 19 (su 17 (su 20 (su 19 (su 17 y (lyW (min m 4 + 1) (bsF n (min n 6) (min m 4) (y 9) (y 10) (y 19 0) ((min m 4 + 1) ^ (min n 6))).2.toNatClampNeg (min n 6))) (fun _ => (bsF n (min n 6) (min m 4) (y 9) (y 10) (y 19 0) ((min m 4 + 1) ^ (min n 6))).2)) (fun _ => (bsF n (min n 6) (min m 4) (y 9) (y 10) (y 19 0) ((min m 4 + 1) ^ (min n 6))).1)) (lyW (min m 4 + 1) (bsF n (min n 6) (min m 4) (y 9) (y 10) ((bsF n (min n 6) (min m 4) (y 9) (y 10) (y 19 0) ((min m 4 + 1) ^ (min n 6))).2) ((min m 4 + 1) ^ (min n 6))).2.toNatClampNeg (min n 6))) (fun _ => (bsF n (min n 6) (min m 4) (y 9) (y 10) ((bsF n (min n 6) (min m 4) (y 9) (y 10) (y 19 0) ((min m 4 + 1) ^ (min n 6))).2) ((min m 4 + 1) ^ (min n 6))).2)) (fun _ => (bsF n (min n 6) (min m 4) (y 9) (y 10) ((bsF n (min n 6) (min m 4) (y 9) (y 10) (y 19 0) ((min m 4 + 1) ^ (min n 6))).2) ((min m 4 + 1) ^ (min n 6))).1)))
                    refine J_ws (ws2 := (mW G o a (su 20 (su 19 (su 17 y (lyW (min m 4 + 1) (bsF n (min n 6) (min m 4) (y 9) (y 10) ((bsF n (min n 6) (min m 4) (y 9) (y 10) (y 19 0) ((min m 4 + 1) ^ (min n 6))).2) ((min m 4 + 1) ^ (min n 6))).2.toNatClampNeg (min n 6))) (fun _ => (bsF n (min n 6) (min m 4) (y 9) (y 10) ((bsF n (min n 6) (min m 4) (y 9) (y 10) (y 19 0) ((min m 4 + 1) ^ (min n 6))).2) ((min m 4 + 1) ^ (min n 6))).2)) (fun _ => (bsF n (min n 6) (min m 4) (y 9) (y 10) ((bsF n (min n 6) (min m 4) (y 9) (y 10) (y 19 0) ((min m 4 + 1) ^ (min n 6))).2) ((min m 4 + 1) ^ (min n 6))).1)))) (congrArg (mW G o a) (Eq.trans (Eq.trans (su_cg (su_cg ((su_sw (by decide)).trans (su_cg ((su_sw (by decide)).trans (su_cg su_tw)))))) (su_cg ((su_sw (by decide)).trans (su_cg su_tw)))) su_tw)) ?_
                    refine J_rw (y := qBest (nI 0) (cn s)) (by rw [en, em, hFy.1.bs]; rfl) ?_
                    refine J_i2l dX12_digest_224 ?_
                    refine J_ladd dX12_digest_225 ?_
                    exact J_lret dX12_digest_226 rfl rfl rfl (hq (su 20 (su 19 (su 17 y (lyW (min m 4 + 1) (bsF n (min n 6) (min m 4) (y 9) (y 10) ((bsF n (min n 6) (min m 4) (y 9) (y 10) (y 19 0) ((min m 4 + 1) ^ (min n 6))).2) ((min m 4 + 1) ^ (min n 6))).2.toNatClampNeg (min n 6))) (fun _ => (bsF n (min n 6) (min m 4) (y 9) (y 10) ((bsF n (min n 6) (min m 4) (y 9) (y 10) (y 19 0) ((min m 4 + 1) ^ (min n 6))).2) ((min m 4 + 1) ^ (min n 6))).2)) (fun _ => (bsF n (min n 6) (min m 4) (y 9) (y 10) ((bsF n (min n 6) (min m 4) (y 9) (y 10) (y 19 0) ((min m 4 + 1) ^ (min n 6))).2) ((min m 4 + 1) ^ (min n 6))).1)) _ (by subst en em ec erf esg; unfold qDigest dg3 dg2; rfl) (by rw [cnu_out (k := 20) rfl, cnu_out (k := 19) rfl, cnu_out (k := 17) rfl, hc_y]))
                  · refine J_iconst (v := nI 0) dX12_digest_123 (by decide) ?_
                    refine J_istore [(0, .ref o), (1, .long (dgF (dCl (cn s)) i (dgF (fun h e => dPlan (cn s) (dHeir (cn s) h e) e) m (dgF (dHab (cn s)) n (dg1 (cn s)))))), (3, .int (nI i)), (4, .int (nI 0))] dX12_digest_124 (by decide) rfl rfl rfl ?_
                    refine J_iload dX12_digest_126 rfl ?_
                    refine J_iconst (v := nI 4) dX12_digest_128 (by decide) ?_
                    refine J_icmp_ge 157 dX12_digest_129 (by decide) (fun c => absurd c (by decide)) (fun _ => ?_)
                    refine J_ldc2 dX12_digest_132 k_X12_296 ?_
                    refine J_lload_n dX12_digest_135 rfl rfl ?_
                    refine J_lmul dX12_digest_136 ?_
                    refine J_aload_n dX12_digest_137 rfl rfl ?_
                    refine Mg_11 dX12_digest_138 ?_
                    refine J_iconst (v := nI 4) dX12_digest_141 (by decide) ?_
                    refine J_iload_n dX12_digest_142 rfl rfl ?_
                    refine J_imulN dX12_digest_143 ?_
                    refine J_iload dX12_digest_144 rfl ?_
                    refine J_iaddN dX12_digest_146 ?_
                    refine Ml_11 (s := y) (y 11) rfl (4 * i + 0) rfl (by omega) dX12_digest_147 ?_
                    refine J_rw (y := qClause (nI i) (nI 0) (cn s)) (q_clause hFy (by rw [← ec]; omega) (by decide)) ?_
                    refine J_i2l dX12_digest_148 ?_
                    refine J_ladd dX12_digest_149 ?_
                    refine J_lstore_n [(0, .ref o), (1, .long (((31) * (dgF (dCl (cn s)) i (dgF (fun h e => dPlan (cn s) (dHeir (cn s) h e) e) m (dgF (dHab (cn s)) n (dg1 (cn s)))))) + ((qClause (nI i) (nI 0) (cn s)).toInt64))), (3, .int (nI i)), (4, .int (nI 0))] dX12_digest_150 rfl (by decide) rfl rfl rfl ?_
                    refine J_iincN [(0, .ref o), (1, .long (((31) * (dgF (dCl (cn s)) i (dgF (fun h e => dPlan (cn s) (dHeir (cn s) h e) e) m (dgF (dHab (cn s)) n (dg1 (cn s)))))) + ((qClause (nI i) (nI 0) (cn s)).toInt64))), (3, .int (nI i)), (4, .int (nI 1))] dX12_digest_151 rfl (by decide) rfl rfl rfl ?_
                    refine J_goto 126 dX12_digest_154 (by decide) ?_
                    refine J_iload dX12_digest_126 rfl ?_
                    refine J_iconst (v := nI 4) dX12_digest_128 (by decide) ?_
                    refine J_icmp_ge 157 dX12_digest_129 (by decide) (fun c => absurd c (by decide)) (fun _ => ?_)
                    refine J_ldc2 dX12_digest_132 k_X12_296 ?_
                    refine J_lload_n dX12_digest_135 rfl rfl ?_
                    refine J_lmul dX12_digest_136 ?_
                    refine J_aload_n dX12_digest_137 rfl rfl ?_
                    refine Mg_11 dX12_digest_138 ?_
                    refine J_iconst (v := nI 4) dX12_digest_141 (by decide) ?_
                    refine J_iload_n dX12_digest_142 rfl rfl ?_
                    refine J_imulN dX12_digest_143 ?_
                    refine J_iload dX12_digest_144 rfl ?_
                    refine J_iaddN dX12_digest_146 ?_
                    refine Ml_11 (s := y) (y 11) rfl (4 * i + 1) rfl (by omega) dX12_digest_147 ?_
                    refine J_rw (y := qClause (nI i) (nI 1) (cn s)) (q_clause hFy (by rw [← ec]; omega) (by decide)) ?_
                    refine J_i2l dX12_digest_148 ?_
                    refine J_ladd dX12_digest_149 ?_
                    refine J_lstore_n [(0, .ref o), (1, .long (((31) * (((31) * (dgF (dCl (cn s)) i (dgF (fun h e => dPlan (cn s) (dHeir (cn s) h e) e) m (dgF (dHab (cn s)) n (dg1 (cn s)))))) + ((qClause (nI i) (nI 0) (cn s)).toInt64))) + ((qClause (nI i) (nI 1) (cn s)).toInt64))), (3, .int (nI i)), (4, .int (nI 1))] dX12_digest_150 rfl (by decide) rfl rfl rfl ?_
                    refine J_iincN [(0, .ref o), (1, .long (((31) * (((31) * (dgF (dCl (cn s)) i (dgF (fun h e => dPlan (cn s) (dHeir (cn s) h e) e) m (dgF (dHab (cn s)) n (dg1 (cn s)))))) + ((qClause (nI i) (nI 0) (cn s)).toInt64))) + ((qClause (nI i) (nI 1) (cn s)).toInt64))), (3, .int (nI i)), (4, .int (nI 2))] dX12_digest_151 rfl (by decide) rfl rfl rfl ?_
                    refine J_goto 126 dX12_digest_154 (by decide) ?_
                    refine J_iload dX12_digest_126 rfl ?_
                    refine J_iconst (v := nI 4) dX12_digest_128 (by decide) ?_
                    refine J_icmp_ge 157 dX12_digest_129 (by decide) (fun c => absurd c (by decide)) (fun _ => ?_)
                    refine J_ldc2 dX12_digest_132 k_X12_296 ?_
                    refine J_lload_n dX12_digest_135 rfl rfl ?_
                    refine J_lmul dX12_digest_136 ?_
                    refine J_aload_n dX12_digest_137 rfl rfl ?_
                    refine Mg_11 dX12_digest_138 ?_
                    refine J_iconst (v := nI 4) dX12_digest_141 (by decide) ?_
                    refine J_iload_n dX12_digest_142 rfl rfl ?_
                    refine J_imulN dX12_digest_143 ?_
                    refine J_iload dX12_digest_144 rfl ?_
                    refine J_iaddN dX12_digest_146 ?_
                    refine Ml_11 (s := y) (y 11) rfl (4 * i + 2) rfl (by omega) dX12_digest_147 ?_
                    refine J_rw (y := qClause (nI i) (nI 2) (cn s)) (q_clause hFy (by rw [← ec]; omega) (by decide)) ?_
                    refine J_i2l dX12_digest_148 ?_
                    refine J_ladd dX12_digest_149 ?_
                    refine J_lstore_n [(0, .ref o), (1, .long (((31) * (((31) * (((31) * (dgF (dCl (cn s)) i (dgF (fun h e => dPlan (cn s) (dHeir (cn s) h e) e) m (dgF (dHab (cn s)) n (dg1 (cn s)))))) + ((qClause (nI i) (nI 0) (cn s)).toInt64))) + ((qClause (nI i) (nI 1) (cn s)).toInt64))) + ((qClause (nI i) (nI 2) (cn s)).toInt64))), (3, .int (nI i)), (4, .int (nI 2))] dX12_digest_150 rfl (by decide) rfl rfl rfl ?_
                    refine J_iincN [(0, .ref o), (1, .long (((31) * (((31) * (((31) * (dgF (dCl (cn s)) i (dgF (fun h e => dPlan (cn s) (dHeir (cn s) h e) e) m (dgF (dHab (cn s)) n (dg1 (cn s)))))) + ((qClause (nI i) (nI 0) (cn s)).toInt64))) + ((qClause (nI i) (nI 1) (cn s)).toInt64))) + ((qClause (nI i) (nI 2) (cn s)).toInt64))), (3, .int (nI i)), (4, .int (nI 3))] dX12_digest_151 rfl (by decide) rfl rfl rfl ?_
                    refine J_goto 126 dX12_digest_154 (by decide) ?_
                    refine J_iload dX12_digest_126 rfl ?_
                    refine J_iconst (v := nI 4) dX12_digest_128 (by decide) ?_
                    refine J_icmp_ge 157 dX12_digest_129 (by decide) (fun c => absurd c (by decide)) (fun _ => ?_)
                    refine J_ldc2 dX12_digest_132 k_X12_296 ?_
                    refine J_lload_n dX12_digest_135 rfl rfl ?_
                    refine J_lmul dX12_digest_136 ?_
                    refine J_aload_n dX12_digest_137 rfl rfl ?_
                    refine Mg_11 dX12_digest_138 ?_
                    refine J_iconst (v := nI 4) dX12_digest_141 (by decide) ?_
                    refine J_iload_n dX12_digest_142 rfl rfl ?_
                    refine J_imulN dX12_digest_143 ?_
                    refine J_iload dX12_digest_144 rfl ?_
                    refine J_iaddN dX12_digest_146 ?_
                    refine Ml_11 (s := y) (y 11) rfl (4 * i + 3) rfl (by omega) dX12_digest_147 ?_
                    refine J_rw (y := qClause (nI i) (nI 3) (cn s)) (q_clause hFy (by rw [← ec]; omega) (by decide)) ?_
                    refine J_i2l dX12_digest_148 ?_
                    refine J_ladd dX12_digest_149 ?_
                    refine J_lstore_n [(0, .ref o), (1, .long (((31) * (((31) * (((31) * (((31) * (dgF (dCl (cn s)) i (dgF (fun h e => dPlan (cn s) (dHeir (cn s) h e) e) m (dgF (dHab (cn s)) n (dg1 (cn s)))))) + ((qClause (nI i) (nI 0) (cn s)).toInt64))) + ((qClause (nI i) (nI 1) (cn s)).toInt64))) + ((qClause (nI i) (nI 2) (cn s)).toInt64))) + ((qClause (nI i) (nI 3) (cn s)).toInt64))), (3, .int (nI i)), (4, .int (nI 3))] dX12_digest_150 rfl (by decide) rfl rfl rfl ?_
                    refine J_iincN [(0, .ref o), (1, .long (((31) * (((31) * (((31) * (((31) * (dgF (dCl (cn s)) i (dgF (fun h e => dPlan (cn s) (dHeir (cn s) h e) e) m (dgF (dHab (cn s)) n (dg1 (cn s)))))) + ((qClause (nI i) (nI 0) (cn s)).toInt64))) + ((qClause (nI i) (nI 1) (cn s)).toInt64))) + ((qClause (nI i) (nI 2) (cn s)).toInt64))) + ((qClause (nI i) (nI 3) (cn s)).toInt64))), (3, .int (nI i)), (4, .int (nI 4))] dX12_digest_151 rfl (by decide) rfl rfl rfl ?_
                    refine J_goto 126 dX12_digest_154 (by decide) ?_
                    refine J_iload dX12_digest_126 rfl ?_
                    refine J_iconst (v := nI 4) dX12_digest_128 (by decide) ?_
                    refine J_icmp_ge 157 dX12_digest_129 (by decide) (fun _ => ?_) (fun c => absurd c (by decide))
                    refine J_iincN [(0, .ref o), (1, .long (((31) * (((31) * (((31) * (((31) * (dgF (dCl (cn s)) i (dgF (fun h e => dPlan (cn s) (dHeir (cn s) h e) e) m (dgF (dHab (cn s)) n (dg1 (cn s)))))) + ((qClause (nI i) (nI 0) (cn s)).toInt64))) + ((qClause (nI i) (nI 1) (cn s)).toInt64))) + ((qClause (nI i) (nI 2) (cn s)).toInt64))) + ((qClause (nI i) (nI 3) (cn s)).toInt64))), (3, .int (nI (i + 1))), (4, .int (nI 4))] dX12_digest_157 rfl (by decide) rfl rfl rfl ?_
                    refine J_goto 113 dX12_digest_160 (by decide) ?_
                    refine J_lv [0, 1, 2] rfl ?_
                    exact ih113 (i + 1) (by omega) (by omega)  _ _ ((show _ = dCl (cn s) _ i from rfl).trans (dgF_s _ _ _).symm) rfl
              exact L113 (c + 1) 0 (by omega) (by omega)  _ _ (dgF_0 _ _).symm rfl
            · refine J_aload_n dX12_digest_98 rfl rfl ?_
              refine J_lload_n dX12_digest_99 rfl rfl ?_
              refine J_iload_n dX12_digest_100 rfl rfl ?_
              refine J_callV (wr := []) (As := [.long (dgF (fun h e => dPlan (cn s) (dHeir (cn s) h e) e) k (dgF (dHab (cn s)) n (dg1 (cn s)))), .int (nI k)]) (st := []) 0 mv_X12_316 (c_X12_tellsHeirs o a y (cn s) hL hFy (dgF (fun h e => dPlan (cn s) (dHeir (cn s) h e) e) k (dgF (dHab (cn s)) n (dg1 (cn s)))) k (by rw [← em]; omega)) mW_0 rfl rfl rfl (by decide) (Nat.le_of_ble_eq_true rfl) ⟨Nat.le_refl _, Nat.le_refl _⟩ dX12_digest_101 (fun v_ w_ h_ => ?_)
              obtain ⟨x915, rfl, rfl, hx9⟩ := h_
              show J G "digest" RX12 cX12_digest 5 (some .long) 0 0 10 Q 0 0 104 [(0, .ref o), (1, .long (dgF (fun h e => dPlan (cn s) (dHeir (cn s) h e) e) k (dgF (dHab (cn s)) n (dg1 (cn s))))), (3, .int (nI k))] [.long (dPlan (cn s) (dHeir (cn s) (dgF (fun h e => dPlan (cn s) (dHeir (cn s) h e) e) k (dgF (dHab (cn s)) n (dg1 (cn s)))) k) k)] (mW G o a x915)
              refine J_lstore_n [(0, .ref o), (1, .long (dPlan (cn s) (dHeir (cn s) (dgF (fun h e => dPlan (cn s) (dHeir (cn s) h e) e) k (dgF (dHab (cn s)) n (dg1 (cn s)))) k) k)), (3, .int (nI k))] dX12_digest_104 rfl (by decide) rfl rfl rfl ?_
              refine J_iincN [(0, .ref o), (1, .long (dPlan (cn s) (dHeir (cn s) (dgF (fun h e => dPlan (cn s) (dHeir (cn s) h e) e) k (dgF (dHab (cn s)) n (dg1 (cn s)))) k) k)), (3, .int (nI (k + 1)))] dX12_digest_105 rfl (by decide) rfl rfl rfl ?_
              refine J_goto 88 dX12_digest_108 (by decide) ?_
              exact ih88 (k + 1) x915 (by omega) (by omega) hx9 _ _ (dgF_s (fun h e => dPlan (cn s) (dHeir (cn s) h e) e) _ _).symm rfl
        exact L88 (m + 1) 0 y (by omega) (by omega) hFy _ _ (dgF_0 _ _).symm rfl
      · refine J_aload_n dX12_digest_73 rfl rfl ?_
        refine J_lload_n dX12_digest_74 rfl rfl ?_
        refine J_iload_n dX12_digest_75 rfl rfl ?_
        refine J_callV (wr := []) (As := [.long (dgF (dHab (cn s)) k (dg1 (cn s))), .int (nI k)]) (st := []) 0 mv_X12_312 (c_X12_tellsHabits o a y (cn s) hL hFy (dgF (dHab (cn s)) k (dg1 (cn s))) k (by rw [← en]; omega)) mW_0 rfl rfl rfl (by decide) (Nat.le_of_ble_eq_true rfl) ⟨Nat.le_refl _, Nat.le_refl _⟩ dX12_digest_76 (fun v_ w_ h_ => ?_)
        obtain ⟨x916, rfl, rfl, hx9⟩ := h_
        show J G "digest" RX12 cX12_digest 5 (some .long) 0 0 10 Q 0 0 79 [(0, .ref o), (1, .long (dgF (dHab (cn s)) k (dg1 (cn s)))), (3, .int (nI k))] [.long (dHab (cn s) (dgF (dHab (cn s)) k (dg1 (cn s))) k)] (mW G o a x916)
        refine J_lstore_n [(0, .ref o), (1, .long (dHab (cn s) (dgF (dHab (cn s)) k (dg1 (cn s))) k)), (3, .int (nI k))] dX12_digest_79 rfl (by decide) rfl rfl rfl ?_
        refine J_iincN [(0, .ref o), (1, .long (dHab (cn s) (dgF (dHab (cn s)) k (dg1 (cn s))) k)), (3, .int (nI (k + 1)))] dX12_digest_80 rfl (by decide) rfl rfl rfl ?_
        refine J_goto 63 dX12_digest_83 (by decide) ?_
        exact ih63 (k + 1) x916 (by omega) (by omega) hx9 _ _ (dgF_s _ _ _).symm rfl
  exact L63 (n + 1) 0 x58 (by omega) (by omega) hF58 _ _ (dgF_0 _ _).symm rfl
theorem c_X12_digest {G : GT} (o : Nat) (a : Nat → Nat) (s : Nat → Nat → Int32) (hL : LI (cn s)) : Ct G yX12_digest cX12_digest 5 (some .long) 0 0 10 [.ref o] (mW G o a s) (QML G o a (qDigest (cn s)) (cn s)) := Ct.of rfl (Nat.le_of_ble_eq_true rfl) (j_X12_digest o a s hL (fun x r h1 h2 => ⟨x, by rw [h1], rfl, h2⟩))
