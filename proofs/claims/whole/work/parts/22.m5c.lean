set_option maxRecDepth 100000 in
set_option maxHeartbeats 1000000 in
theorem j_X12_fraction0 {G : GT} (ws : va_W) (ab be : Nat) (hab : ab < 2 ^ 62) (hbe : be < 2 ^ 62) (hb0 : 0 < be) {Q : Option Value → va_W → Prop} (hq : ∀ v_ : Int64, v_ = lN (ab / Nat.gcd ab be) → Q (some (.long v_)) ws) : J G "fraction" RX12 cX12_fraction 11 (some .long) 0 0 0 Q 0 0 0 [(0, .long (lN ab)), (2, .long (lN be)), (4, .int (nI 0))] [] ws := by
  refine J_lload_n dX12_fraction_0 rfl rfl ?_
  refine J_lstore [(0, .long (lN ab)), (2, .long (lN be)), (4, .int (nI 0)), (5, .long (lN ab))] dX12_fraction_1 (by decide) rfl rfl rfl ?_
  refine J_lload_n dX12_fraction_3 rfl rfl ?_
  refine J_lstore [(0, .long (lN ab)), (2, .long (lN be)), (4, .int (nI 0)), (5, .long (lN ab)), (7, .long (lN be))] dX12_fraction_4 (by decide) rfl rfl rfl ?_
  have L6 : ∀ (f x1 y1 : Nat), y1 < f → x1 < 2 ^ 62 → y1 < 2 ^ 62 → Nat.gcd x1 y1 = Nat.gcd ab be → ∀ (x5 : Int64) (x7 : Int64), x5 = lN x1 → x7 = lN y1 → J G "fraction" RX12 cX12_fraction 11 (some .long) 0 0 0 Q 0 0 6 [(0, .long (lN ab)), (2, .long (lN be)), (4, .int (nI 0)), (5, .long x5), (7, .long x7)] [] ws := by
    intro f
    induction f with
    | zero => intro x1 y1 h; exact absurd h (Nat.not_lt_zero _)
    | succ f ih6 =>
      intro x1 y1 hf6 hx62 hy62 hg9 x5 x7 e5 e7
      subst e5
      subst e7
      by_cases ksz1 : y1 = 0
      · refine J_lload dX12_fraction_6 rfl ?_
        refine J_lconst (v := 0) dX12_fraction_8 (by decide) ?_
        refine J_lcmp dX12_fraction_9 ?_
        have hz9 : lg_cmp (lN y1) 0 = 0 := lgc_eq.mpr (by rw [ksz1]; rfl)
        refine J_if_eq 31 dX12_fraction_10 (by decide) (fun _ => ?_) (fun c => absurd hz9 c)
        have hx0 : 0 < x1 := by have h := Nat.gcd_pos_of_pos_right ab hb0; rw [← hg9, ksz1, Nat.gcd_zero_right] at h; exact h
        have hx9 : ¬ lN x1 = 0 := fun q => absurd ((pk_lEQ (b := 0) (by omega) (by decide)).mp q) (by omega)
        refine J_iload dX12_fraction_31 rfl ?_
        refine J_if_ne 40 dX12_fraction_33 (by decide) (fun c => absurd c (by decide)) (fun _ => ?_)
        refine J_lload_n dX12_fraction_36 rfl rfl ?_
        refine J_goto 41 dX12_fraction_37 (by decide) ?_
        refine J_lload dX12_fraction_41 rfl ?_
        refine J_ldiv dX12_fraction_43 hx9 ?_
        refine J_rwl (y := (lN (ab / x1))) (pk_lDiv (by omega) (by omega) (by omega)) ?_
        exact J_lret dX12_fraction_44 rfl rfl rfl (hq _ (by rw [show Nat.gcd ab be = x1 by rw [← hg9, ksz1, Nat.gcd_zero_right]]))
      · refine J_lload dX12_fraction_6 rfl ?_
        refine J_lconst (v := 0) dX12_fraction_8 (by decide) ?_
        refine J_lcmp dX12_fraction_9 ?_
        have hy9 : ¬ lN y1 = 0 := fun q => ksz1 ((pk_lEQ (b := 0) (by omega) (by decide)).mp q)
        have hz9 : ¬ lg_cmp (lN y1) 0 = 0 := fun q => hy9 (lgc_eq.mp q)
        refine J_if_eq 31 dX12_fraction_10 (by decide) (fun c => absurd c hz9) (fun _ => ?_)
        refine J_lload dX12_fraction_13 rfl ?_
        refine J_lload dX12_fraction_15 rfl ?_
        refine J_lrem dX12_fraction_17 hy9 ?_
        refine J_rwl (y := (lN (x1 % y1))) (pk_lRem (by omega) (by omega) (by omega)) ?_
        refine J_lstore [(0, .long (lN ab)), (2, .long (lN be)), (4, .int (nI 0)), (5, .long (lN x1)), (7, .long (lN y1)), (9, .long (lN (x1 % y1)))] dX12_fraction_18 (by decide) rfl rfl rfl ?_
        refine J_lload dX12_fraction_20 rfl ?_
        refine J_lstore [(0, .long (lN ab)), (2, .long (lN be)), (4, .int (nI 0)), (5, .long (lN y1)), (7, .long (lN y1)), (9, .long (lN (x1 % y1)))] dX12_fraction_22 (by decide) rfl rfl rfl ?_
        refine J_lload dX12_fraction_24 rfl ?_
        refine J_lstore [(0, .long (lN ab)), (2, .long (lN be)), (4, .int (nI 0)), (5, .long (lN y1)), (7, .long (lN (x1 % y1))), (9, .long (lN (x1 % y1)))] dX12_fraction_26 (by decide) rfl rfl rfl ?_
        refine J_goto 6 dX12_fraction_28 (by decide) ?_
        refine J_lv [0, 1, 2, 3, 4] rfl ?_
        exact ih6 y1 (x1 % y1) (by have := Nat.mod_lt x1 (show 0 < y1 by omega); omega) (by omega) (by have := Nat.mod_lt x1 (show 0 < y1 by omega); omega) (by rw [← hg9, Nat.gcd_comm x1 y1, Nat.gcd_rec y1 x1, Nat.gcd_comm]) _ _ rfl rfl
  exact L6 (be + 1) ab be (by omega) (by omega) (by omega) rfl _ _ rfl rfl
theorem c_X12_fraction0 {G : GT} (ws : va_W) (ab be : Nat) (hab : ab < 2 ^ 62) (hbe : be < 2 ^ 62) (hb0 : 0 < be) : Ct G yX12_fraction cX12_fraction 11 (some .long) 0 0 0 [.long (lN ab), .long (lN be), .int (nI 0)] ws (Is (some (.long (lN (ab / Nat.gcd ab be)))) ws) := Ct.of rfl (Nat.le_of_ble_eq_true rfl) (j_X12_fraction0 ws ab be hab hbe hb0 (fun _ e => by subst e; exact Is.rf _ _))
set_option maxRecDepth 100000 in
set_option maxHeartbeats 1000000 in
theorem j_X12_fraction1 {G : GT} (ws : va_W) (ab be : Nat) (hab : ab < 2 ^ 62) (hbe : be < 2 ^ 62) (hb0 : 0 < be) {Q : Option Value → va_W → Prop} (hq : ∀ v_ : Int64, v_ = lN (be / Nat.gcd ab be) → Q (some (.long v_)) ws) : J G "fraction" RX12 cX12_fraction 11 (some .long) 0 0 0 Q 0 0 0 [(0, .long (lN ab)), (2, .long (lN be)), (4, .int (nI 1))] [] ws := by
  refine J_lload_n dX12_fraction_0 rfl rfl ?_
  refine J_lstore [(0, .long (lN ab)), (2, .long (lN be)), (4, .int (nI 1)), (5, .long (lN ab))] dX12_fraction_1 (by decide) rfl rfl rfl ?_
  refine J_lload_n dX12_fraction_3 rfl rfl ?_
  refine J_lstore [(0, .long (lN ab)), (2, .long (lN be)), (4, .int (nI 1)), (5, .long (lN ab)), (7, .long (lN be))] dX12_fraction_4 (by decide) rfl rfl rfl ?_
  have L6 : ∀ (f x1 y1 : Nat), y1 < f → x1 < 2 ^ 62 → y1 < 2 ^ 62 → Nat.gcd x1 y1 = Nat.gcd ab be → ∀ (x5 : Int64) (x7 : Int64), x5 = lN x1 → x7 = lN y1 → J G "fraction" RX12 cX12_fraction 11 (some .long) 0 0 0 Q 0 0 6 [(0, .long (lN ab)), (2, .long (lN be)), (4, .int (nI 1)), (5, .long x5), (7, .long x7)] [] ws := by
    intro f
    induction f with
    | zero => intro x1 y1 h; exact absurd h (Nat.not_lt_zero _)
    | succ f ih6 =>
      intro x1 y1 hf6 hx62 hy62 hg9 x5 x7 e5 e7
      subst e5
      subst e7
      by_cases ksz1 : y1 = 0
      · refine J_lload dX12_fraction_6 rfl ?_
        refine J_lconst (v := 0) dX12_fraction_8 (by decide) ?_
        refine J_lcmp dX12_fraction_9 ?_
        have hz9 : lg_cmp (lN y1) 0 = 0 := lgc_eq.mpr (by rw [ksz1]; rfl)
        refine J_if_eq 31 dX12_fraction_10 (by decide) (fun _ => ?_) (fun c => absurd hz9 c)
        have hx0 : 0 < x1 := by have h := Nat.gcd_pos_of_pos_right ab hb0; rw [← hg9, ksz1, Nat.gcd_zero_right] at h; exact h
        have hx9 : ¬ lN x1 = 0 := fun q => absurd ((pk_lEQ (b := 0) (by omega) (by decide)).mp q) (by omega)
        refine J_iload dX12_fraction_31 rfl ?_
        refine J_if_ne 40 dX12_fraction_33 (by decide) (fun _ => ?_) (fun c => absurd c (by decide))
        refine J_lload_n dX12_fraction_40 rfl rfl ?_
        refine J_lload dX12_fraction_41 rfl ?_
        refine J_ldiv dX12_fraction_43 hx9 ?_
        refine J_rwl (y := (lN (be / x1))) (pk_lDiv (by omega) (by omega) (by omega)) ?_
        exact J_lret dX12_fraction_44 rfl rfl rfl (hq _ (by rw [show Nat.gcd ab be = x1 by rw [← hg9, ksz1, Nat.gcd_zero_right]]))
      · refine J_lload dX12_fraction_6 rfl ?_
        refine J_lconst (v := 0) dX12_fraction_8 (by decide) ?_
        refine J_lcmp dX12_fraction_9 ?_
        have hy9 : ¬ lN y1 = 0 := fun q => ksz1 ((pk_lEQ (b := 0) (by omega) (by decide)).mp q)
        have hz9 : ¬ lg_cmp (lN y1) 0 = 0 := fun q => hy9 (lgc_eq.mp q)
        refine J_if_eq 31 dX12_fraction_10 (by decide) (fun c => absurd c hz9) (fun _ => ?_)
        refine J_lload dX12_fraction_13 rfl ?_
        refine J_lload dX12_fraction_15 rfl ?_
        refine J_lrem dX12_fraction_17 hy9 ?_
        refine J_rwl (y := (lN (x1 % y1))) (pk_lRem (by omega) (by omega) (by omega)) ?_
        refine J_lstore [(0, .long (lN ab)), (2, .long (lN be)), (4, .int (nI 1)), (5, .long (lN x1)), (7, .long (lN y1)), (9, .long (lN (x1 % y1)))] dX12_fraction_18 (by decide) rfl rfl rfl ?_
        refine J_lload dX12_fraction_20 rfl ?_
        refine J_lstore [(0, .long (lN ab)), (2, .long (lN be)), (4, .int (nI 1)), (5, .long (lN y1)), (7, .long (lN y1)), (9, .long (lN (x1 % y1)))] dX12_fraction_22 (by decide) rfl rfl rfl ?_
        refine J_lload dX12_fraction_24 rfl ?_
        refine J_lstore [(0, .long (lN ab)), (2, .long (lN be)), (4, .int (nI 1)), (5, .long (lN y1)), (7, .long (lN (x1 % y1))), (9, .long (lN (x1 % y1)))] dX12_fraction_26 (by decide) rfl rfl rfl ?_
        refine J_goto 6 dX12_fraction_28 (by decide) ?_
        refine J_lv [0, 1, 2, 3, 4] rfl ?_
        exact ih6 y1 (x1 % y1) (by have := Nat.mod_lt x1 (show 0 < y1 by omega); omega) (by omega) (by have := Nat.mod_lt x1 (show 0 < y1 by omega); omega) (by rw [← hg9, Nat.gcd_comm x1 y1, Nat.gcd_rec y1 x1, Nat.gcd_comm]) _ _ rfl rfl
  exact L6 (be + 1) ab be (by omega) (by omega) (by omega) rfl _ _ rfl rfl
theorem c_X12_fraction1 {G : GT} (ws : va_W) (ab be : Nat) (hab : ab < 2 ^ 62) (hbe : be < 2 ^ 62) (hb0 : 0 < be) : Ct G yX12_fraction cX12_fraction 11 (some .long) 0 0 0 [.long (lN ab), .long (lN be), .int (nI 1)] ws (Is (some (.long (lN (be / Nat.gcd ab be)))) ws) := Ct.of rfl (Nat.le_of_ble_eq_true rfl) (j_X12_fraction1 ws ab be hab hbe hb0 (fun _ e => by subst e; exact Is.rf _ _))
