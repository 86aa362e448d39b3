theorem nIL_ne {k : Nat} (h0 : 0 < k) (h : k < 2 ^ 31) : ¬ (nI k).toInt64 = 0 := fun q => nI_ne0 h0 h ((fa_wide_eq (nI k) 0).mp q)
/-- the chance that so many are left -/
def mkA (vc lf : Nat) : Nat → Int64
  | 0 => if lf ≤ vc then 1 else 0
  | k + 1 => mkA vc lf k * (nI vc - nI k).toInt64 / (nI (k + 1)).toInt64
def mkB (c vc lf : Nat) : Nat → Int64
  | 0 => mkA vc lf lf
  | k + 1 => mkB c vc lf k * (if lf ≤ k then (nI c).toInt64 else (nI (16 - c)).toInt64)
def mkC : Nat → Int64
  | 0 => 1
  | k + 1 => mkC k * 16
def mrN (c vc lf : Nat) : Nat := (mkB c vc lf vc).toInt.toNat
def mrA (c vc lf what : Nat) : Int64 := if what = 0 then lN (mrN c vc lf / Nat.gcd (mrN c vc lf) (16 ^ vc)) else lN (16 ^ vc / Nat.gcd (mrN c vc lf) (16 ^ vc))
theorem mrN_all : ∀ c, c < 17 → ∀ vc, vc < 9 → ∀ lf, lf < 9 → (mkB c vc lf vc = lN (mrN c vc lf) ∧ mkC vc = lN (16 ^ vc)) ∧ mrN c vc lf < 2 ^ 62 ∧ 16 ^ vc < 2 ^ 62 := by decide +kernel
theorem mrN_eq {c vc lf : Nat} (hc : c < 17) (hv : vc < 9) (hl : lf < 9) : mkB c vc lf vc = lN (mrN c vc lf) ∧ mkC vc = lN (16 ^ vc) := (mrN_all c hc vc hv lf hl).1
theorem mrN_lt {c vc lf : Nat} (hc : c < 17) (hv : vc < 9) (hl : lf < 9) : mrN c vc lf < 2 ^ 62 ∧ 16 ^ vc < 2 ^ 62 := (mrN_all c hc vc hv lf hl).2
/-- what he does where the habit is with the k-th (6: nobody), and one more -/
def dzM (n : Nat) (Hb He wi : Nat → Int32) (h q t k : Nat) : Nat := (doM n Hb He (upd wi h (vwh 6 k)) q t + nI 1).toNatClampNeg
theorem dzM_eq {n : Nat} {Hb He wi : Nat → Int32} {h q t k : Nat} (hn : n ≤ 8) : doM n Hb He (upd wi h (vwh 6 k)) q t + nI 1 = nI (dzM n Hb He wi h q t k) ∧ dzM n Hb He wi h q t k < 9 := by
  unfold dzM doM
  rcases doF_rng n Hb He (upd wi h (vwh 6 k)) q t n with e | ⟨j, hj, e⟩
  · rw [e]; decide
  · rw [e, nI_add, nI_clamp (by omega)]; exact ⟨rfl, by omega⟩
theorem dzM_cg {n : Nat} {Hb He wi wj : Nat → Int32} {h q t : Nat} (hw : ∀ x, upd wi h x = upd wj h x) : dzM n Hb He wi h q t = dzM n Hb He wj h q t := by
  funext k; unfold dzM; rw [hw]
def alF (D : Nat → Nat) (sm : Nat) : Nat → Nat → Nat
  | 0, _ => 0
  | k + 1, d => if sm.testBit k = true ∧ d = D k then alF D sm k d + 1 else alF D sm k d
def alI (D : Nat → Nat) (sm k : Nat) : Nat → Int32 := fun d => nI (alF D sm k d)
def moF (D : Nat → Nat) (sm : Nat) : Nat → Nat
  | 0 => 0
  | k + 1 => if sm.testBit k = true then (if alF D sm (k + 1) (D k) ≤ moF D sm k then moF D sm k else alF D sm (k + 1) (D k)) else moF D sm k
theorem alF_le (D : Nat → Nat) (sm k d : Nat) : alF D sm k d ≤ k := by
  induction k with
  | zero => exact Nat.le_refl _
  | succ k ih => rw [alF]; split <;> omega
theorem moF_le (D : Nat → Nat) (sm k : Nat) : moF D sm k ≤ k := by
  induction k with
  | zero => exact Nat.le_refl _
  | succ k ih =>
    have := alF_le D sm (k + 1) (D k)
    rw [moF]; split
    · split <;> omega
    · omega
theorem alI_yes {D : Nat → Nat} {sm k : Nat} (h : sm.testBit k = true) : upd (alI D sm k) (D k) (nI (alF D sm k (D k) + 1)) = alI D sm (k + 1) := by
  funext d
  unfold upd alI
  rw [alF]
  by_cases hd : d = D k
  · rw [if_pos hd, if_pos ⟨h, hd⟩, hd]
  · rw [if_neg hd, if_neg (fun q => hd q.2)]
theorem alI_no {D : Nat → Nat} {sm k : Nat} (h : sm.testBit k = false) : alI D sm (k + 1) = alI D sm k := by
  funext d
  unfold alI
  rw [alF, if_neg (fun q => absurd q.1 (by rw [h]; decide))]
theorem moF_no {D : Nat → Nat} {sm k : Nat} (h : sm.testBit k = false) : moF D sm (k + 1) = moF D sm k := by
  rw [moF, if_neg (by rw [h]; decide)]
theorem Ma_23 {G : GT} {nm : String} {cc : ByteArray} {nL : Nat} {ret : Option FieldType} {mc ms d : Nat} {Q : Option Value → va_W → Prop} {k n pc : Nat} {lv : List (Nat × Value)} {st : List Value} {o : Nat} {a : Nat → Nat} {s : Nat → Nat → Int32} {g : Nat → Int32} (h : ∀ j, j < 9 → s 23 j = g j) (K : J G nm RX12 cc nL ret mc ms d Q k n pc lv st (mW G o a (su 23 s g))) : J G nm RX12 cc nL ret mc ms d Q k n pc lv st (mW G o a s) := J_arr 15 _ rfl h rfl K
theorem whF_lt {n m : Nat} {Hb He wi Sg : Nat → Int32} {sg h : Nat} (hm : m ≤ 6) : ∀ {k : Nat}, k ≤ 7 → whF n m Hb He wi Sg sg h k < 128
  | 0, _ => by rw [whF]; decide
  | k + 1, hk => by
    rw [whF]
    refine Nat.or_lt_two_pow (n := 7) (whF_lt hm (by omega)) ?_
    split
    · unfold vpw
      split
      · exact Nat.pow_lt_pow_right (by decide) (by omega)
      · decide
    · decide
/-- the hour to look: of the hours up to k, the first at which the most alike are fewest -/
def lkF (M : Nat → Nat) : Nat → Nat × Nat
  | 0 => (0, M 0)
  | k + 1 => (if (lkF M k).2 ≤ M (k + 1) then (lkF M k).1 else k + 1, min (M (k + 1)) (lkF M k).2)
theorem lkF_le {M : Nat → Nat} (h : ∀ t, M t ≤ 7) (k : Nat) : (lkF M k).2 ≤ 7 := by
  cases k with
  | zero => exact h 0
  | succ k => rw [lkF]; exact Nat.le_trans (Nat.min_le_left _ _) (h _)
set_option maxRecDepth 100000 in
set_option maxHeartbeats 1000000 in
theorem j_X12_fraction0 {G : GT} (ws : va_W) (ab be : Nat) (hab : ab < 2 ^ 62) (hbe : be < 2 ^ 62) (hb0 : 0 < be) {Q : Option Value → va_W → Prop} (hq : ∀ v_ : Int64, v_ = lN (ab / Nat.gcd ab be) → Q (some (.long v_)) ws) : J G "fraction" RX12 cX12_fraction 11 (some .long) 0 0 0 Q 0 0 0 [(0, .long (lN ab)), (2, .long (lN be)), (4, .int (nI 0))] [] ws := by
  refine J_lload_n dX12_fraction_0 rfl rfl ?_
  refine J_lstore [(0, .long (lN ab)), (2, .long (lN be)), (4, .int (nI 0)), (5, .long (lN ab))] dX12_fraction_1 (by decide) rfl rfl rfl ?_
  refine J_lload_n dX12_fraction_3 rfl rfl ?_
  refine J_lstore [(0, .long (lN ab)), (2, .long (lN be)), (4, .int (nI 0)), (5, .long (lN ab)), (7, .long (lN be))] dX12_fraction_4 (by decide) rfl rfl rfl ?_
  have L6 : ∀ (f x1 y1 : Nat), y1 < f → x1 < 2 ^ 62 → y1 < 2 ^ 62 → Nat.gcd x1 y1 = Nat.gcd ab be → ∀ (x5 : Int64) (x7 : Int64), x5 = lN x1 → x7 = lN y1 → J G "fraction" RX12 cX12_fraction 11 (some .long) 0 0 0 Q 0 0 6 [(0, .long (lN ab)), (2, .long (lN be)), (4, .int (nI 0)), (5, .long x5), (7, .long x7)] [] ws := by
    intro f
    induction f with
    | zero => intro x1 y1 h; exact absurd h (Nat.not_lt_zero _)
    | succ f ih6 =>
      intro x1 y1 hf6 hx62 hy62 hg9 x5 x7 e5 e7
      subst e5
      subst e7
      by_cases ksz1 : y1 = 0
      · refine J_lload dX12_fraction_6 rfl ?_
        refine J_lconst (v := 0) dX12_fraction_8 (by decide) ?_
        refine J_lcmp dX12_fraction_9 ?_
        have hz9 : lg_cmp (lN y1) 0 = 0 := lgc_eq.mpr (by rw [ksz1]; rfl)
        refine J_if_eq 31 dX12_fraction_10 (by decide) (fun _ => ?_) (fun c => absurd hz9 c)
        have hx0 : 0 < x1 := by have h := Nat.gcd_pos_of_pos_right ab hb0; rw [← hg9, ksz1, Nat.gcd_zero_right] at h; exact h
        have hx9 : ¬ lN x1 = 0 := fun q => absurd ((pk_lEQ (b := 0) (by omega) (by decide)).mp q) (by omega)
        refine J_iload dX12_fraction_31 rfl ?_
        refine J_if_ne 40 dX12_fraction_33 (by decide) (fun c => absurd c (by decide)) (fun _ => ?_)
        refine J_lload_n dX12_fraction_36 rfl rfl ?_
        refine J_goto 41 dX12_fraction_37 (by decide) ?_
        refine J_lload dX12_fraction_41 rfl ?_
        refine J_ldiv dX12_fraction_43 hx9 ?_
        refine J_rwl (y := (lN (ab / x1))) (pk_lDiv (by omega) (by omega) (by omega)) ?_
        exact J_lret dX12_fraction_44 rfl rfl rfl (hq _ (by rw [show Nat.gcd ab be = x1 by rw [← hg9, ksz1, Nat.gcd_zero_right]]))
      · refine J_lload dX12_fraction_6 rfl ?_
        refine J_lconst (v := 0) dX12_fraction_8 (by decide) ?_
        refine J_lcmp dX12_fraction_9 ?_
        have hy9 : ¬ lN y1 = 0 := fun q => ksz1 ((pk_lEQ (b := 0) (by omega) (by decide)).mp q)
        have hz9 : ¬ lg_cmp (lN y1) 0 = 0 := fun q => hy9 (lgc_eq.mp q)
        refine J_if_eq 31 dX12_fraction_10 (by decide) (fun c => absurd c hz9) (fun _ => ?_)
        refine J_lload dX12_fraction_13 rfl ?_
        refine J_lload dX12_fraction_15 rfl ?_
        refine J_lrem dX12_fraction_17 hy9 ?_
        refine J_rwl (y := (lN (x1 % y1))) (pk_lRem (by omega) (by omega) (by omega)) ?_
        refine J_lstore [(0, .long (lN ab)), (2, .long (lN be)), (4, .int (nI 0)), (5, .long (lN x1)), (7, .long (lN y1)), (9, .long (lN (x1 % y1)))] dX12_fraction_18 (by decide) rfl rfl rfl ?_
        refine J_lload dX12_fraction_20 rfl ?_
        refine J_lstore [(0, .long (lN ab)), (2, .long (lN be)), (4, .int (nI 0)), (5, .long (lN y1)), (7, .long (lN y1)), (9, .long (lN (x1 % y1)))] dX12_fraction_22 (by decide) rfl rfl rfl ?_
        refine J_lload dX12_fraction_24 rfl ?_
        refine J_lstore [(0, .long (lN ab)), (2, .long (lN be)), (4, .int (nI 0)), (5, .long (lN y1)), (7, .long (lN (x1 % y1))), (9, .long (lN (x1 % y1)))] dX12_fraction_26 (by decide) rfl rfl rfl ?_
        refine J_goto 6 dX12_fraction_28 (by decide) ?_
        refine J_lv [0, 1, 2, 3, 4] rfl ?_
        exact ih6 y1 (x1 % y1) (by have := Nat.mod_lt x1 (show 0 < y1 by omega); omega) (by omega) (by have := Nat.mod_lt x1 (show 0 < y1 by omega); omega) (by rw [← hg9, Nat.gcd_comm x1 y1, Nat.gcd_rec y1 x1, Nat.gcd_comm]) _ _ rfl rfl
  exact L6 (be + 1) ab be (by omega) (by omega) (by omega) rfl _ _ rfl rfl
theorem c_X12_fraction0 {G : GT} (ws : va_W) (ab be : Nat) (hab : ab < 2 ^ 62) (hbe : be < 2 ^ 62) (hb0 : 0 < be) : Ct G yX12_fraction cX12_fraction 11 (some .long) 0 0 0 [.long (lN ab), .long (lN be), .int (nI 0)] ws (Is (some (.long (lN (ab / Nat.gcd ab be)))) ws) := Ct.of rfl (Nat.le_of_ble_eq_true rfl) (j_X12_fraction0 ws ab be hab hbe hb0 (fun _ e => by subst e; exact Is.rf _ _))
set_option maxRecDepth 100000 in
set_option maxHeartbeats 1000000 in
theorem j_X12_fraction1 {G : GT} (ws : va_W) (ab be : Nat) (hab : ab < 2 ^ 62) (hbe : be < 2 ^ 62) (hb0 : 0 < be) {Q : Option Value → va_W → Prop} (hq : ∀ v_ : Int64, v_ = lN (be / Nat.gcd ab be) → Q (some (.long v_)) ws) : J G "fraction" RX12 cX12_fraction 11 (some .long) 0 0 0 Q 0 0 0 [(0, .long (lN ab)), (2, .long (lN be)), (4, .int (nI 1))] [] ws := by
  refine J_lload_n dX12_fraction_0 rfl rfl ?_
  refine J_lstore [(0, .long (lN ab)), (2, .long (lN be)), (4, .int (nI 1)), (5, .long (lN ab))] dX12_fraction_1 (by decide) rfl rfl rfl ?_
  refine J_lload_n dX12_fraction_3 rfl rfl ?_
  refine J_lstore [(0, .long (lN ab)), (2, .long (lN be)), (4, .int (nI 1)), (5, .long (lN ab)), (7, .long (lN be))] dX12_fraction_4 (by decide) rfl rfl rfl ?_
  have L6 : ∀ (f x1 y1 : Nat), y1 < f → x1 < 2 ^ 62 → y1 < 2 ^ 62 → Nat.gcd x1 y1 = Nat.gcd ab be → ∀ (x5 : Int64) (x7 : Int64), x5 = lN x1 → x7 = lN y1 → J G "fraction" RX12 cX12_fraction 11 (some .long) 0 0 0 Q 0 0 6 [(0, .long (lN ab)), (2, .long (lN be)), (4, .int (nI 1)), (5, .long x5), (7, .long x7)] [] ws := by
    intro f
    induction f with
    | zero => intro x1 y1 h; exact absurd h (Nat.not_lt_zero _)
    | succ f ih6 =>
      intro x1 y1 hf6 hx62 hy62 hg9 x5 x7 e5 e7
      subst e5
      subst e7
      by_cases ksz1 : y1 = 0
      · refine J_lload dX12_fraction_6 rfl ?_
        refine J_lconst (v := 0) dX12_fraction_8 (by decide) ?_
        refine J_lcmp dX12_fraction_9 ?_
        have hz9 : lg_cmp (lN y1) 0 = 0 := lgc_eq.mpr (by rw [ksz1]; rfl)
        refine J_if_eq 31 dX12_fraction_10 (by decide) (fun _ => ?_) (fun c => absurd hz9 c)
        have hx0 : 0 < x1 := by have h := Nat.gcd_pos_of_pos_right ab hb0; rw [← hg9, ksz1, Nat.gcd_zero_right] at h; exact h
        have hx9 : ¬ lN x1 = 0 := fun q => absurd ((pk_lEQ (b := 0) (by omega) (by decide)).mp q) (by omega)
        refine J_iload dX12_fraction_31 rfl ?_
        refine J_if_ne 40 dX12_fraction_33 (by decide) (fun _ => ?_) (fun c => absurd c (by decide))
        refine J_lload_n dX12_fraction_40 rfl rfl ?_
        refine J_lload dX12_fraction_41 rfl ?_
        refine J_ldiv dX12_fraction_43 hx9 ?_
        refine J_rwl (y := (lN (be / x1))) (pk_lDiv (by omega) (by omega) (by omega)) ?_
        exact J_lret dX12_fraction_44 rfl rfl rfl (hq _ (by rw [show Nat.gcd ab be = x1 by rw [← hg9, ksz1, Nat.gcd_zero_right]]))
      · refine J_lload dX12_fraction_6 rfl ?_
        refine J_lconst (v := 0) dX12_fraction_8 (by decide) ?_
        refine J_lcmp dX12_fraction_9 ?_
        have hy9 : ¬ lN y1 = 0 := fun q => ksz1 ((pk_lEQ (b := 0) (by omega) (by decide)).mp q)
        have hz9 : ¬ lg_cmp (lN y1) 0 = 0 := fun q => hy9 (lgc_eq.mp q)
        refine J_if_eq 31 dX12_fraction_10 (by decide) (fun c => absurd c hz9) (fun _ => ?_)
        refine J_lload dX12_fraction_13 rfl ?_
        refine J_lload dX12_fraction_15 rfl ?_
        refine J_lrem dX12_fraction_17 hy9 ?_
        refine J_rwl (y := (lN (x1 % y1))) (pk_lRem (by omega) (by omega) (by omega)) ?_
        refine J_lstore [(0, .long (lN ab)), (2, .long (lN be)), (4, .int (nI 1)), (5, .long (lN x1)), (7, .long (lN y1)), (9, .long (lN (x1 % y1)))] dX12_fraction_18 (by decide) rfl rfl rfl ?_
        refine J_lload dX12_fraction_20 rfl ?_
        refine J_lstore [(0, .long (lN ab)), (2, .long (lN be)), (4, .int (nI 1)), (5, .long (lN y1)), (7, .long (lN y1)), (9, .long (lN (x1 % y1)))] dX12_fraction_22 (by decide) rfl rfl rfl ?_
        refine J_lload dX12_fraction_24 rfl ?_
        refine J_lstore [(0, .long (lN ab)), (2, .long (lN be)), (4, .int (nI 1)), (5, .long (lN y1)), (7, .long (lN (x1 % y1))), (9, .long (lN (x1 % y1)))] dX12_fraction_26 (by decide) rfl rfl rfl ?_
        refine J_goto 6 dX12_fraction_28 (by decide) ?_
        refine J_lv [0, 1, 2, 3, 4] rfl ?_
        exact ih6 y1 (x1 % y1) (by have := Nat.mod_lt x1 (show 0 < y1 by omega); omega) (by omega) (by have := Nat.mod_lt x1 (show 0 < y1 by omega); omega) (by rw [← hg9, Nat.gcd_comm x1 y1, Nat.gcd_rec y1 x1, Nat.gcd_comm]) _ _ rfl rfl
  exact L6 (be + 1) ab be (by omega) (by omega) (by omega) rfl _ _ rfl rfl
theorem c_X12_fraction1 {G : GT} (ws : va_W) (ab be : Nat) (hab : ab < 2 ^ 62) (hbe : be < 2 ^ 62) (hb0 : 0 < be) : Ct G yX12_fraction cX12_fraction 11 (some .long) 0 0 0 [.long (lN ab), .long (lN be), .int (nI 1)] ws (Is (some (.long (lN (be / Nat.gcd ab be)))) ws) := Ct.of rfl (Nat.le_of_ble_eq_true rfl) (j_X12_fraction1 ws ab be hab hbe hb0 (fun _ e => by subst e; exact Is.rf _ _))
set_option maxRecDepth 100000 in
set_option maxHeartbeats 1000000 in
theorem j_X12_marchOf0 {G : GT} (o : Nat) (a : Nat → Nat) (s : Nat → Nat → Int32) (n : Nat) (hn : s 8 0 = nI n) (hn8 : n ≤ 8) (c q lf vc : Nat) (hc17 : c < 17) (hlf9 : lf < 9) (hvc : smI (fun h => if s 17 h = nI q then s 9 (5 * h + 4) else nI 0) n = nI vc) (hvc8 : vc < 9) {Q : Option Value → va_W → Prop} (hq : ∀ v_ : Int64, v_ = mrA c vc lf 0 → Q (some (.long v_)) (mW G o a s)) : J G "marchOf" RX12 cX12_marchOf 11 (some .long) 0 0 1 Q 0 0 0 [(0, .ref o), (1, .int (nI c)), (2, .int (nI q)), (3, .int (nI lf)), (4, .int (nI 0))] [] (mW G o a s) := by
  refine J_iconst (v := nI 0) dX12_marchOf_0 (by decide) ?_
  refine J_istore [(0, .ref o), (1, .int (nI c)), (2, .int (nI q)), (3, .int (nI lf)), (4, .int (nI 0)), (5, .int (nI 0))] dX12_marchOf_1 (by decide) rfl rfl rfl ?_
  refine J_iconst (v := nI 0) dX12_marchOf_3 (by decide) ?_
  refine J_istore [(0, .ref o), (1, .int (nI c)), (2, .int (nI q)), (3, .int (nI lf)), (4, .int (nI 0)), (5, .int (nI 0)), (6, .int (nI 0))] dX12_marchOf_4 (by decide) rfl rfl rfl ?_
  have L6 : ∀ (f i : Nat), n - i < f → i ≤ n → ∀ (x5 : Int32) (x6 : Int32), x5 = smI (fun h => if s 17 h = nI q then s 9 (5 * h + 4) else nI 0) i → x6 = nI i → J G "marchOf" RX12 cX12_marchOf 11 (some .long) 0 0 1 Q 0 0 6 [(0, .ref o), (1, .int (nI c)), (2, .int (nI q)), (3, .int (nI lf)), (4, .int (nI 0)), (5, .int x5), (6, .int x6)] [] (mW G o a s) := by
    intro f
    induction f with
    | zero => intro i h; exact absurd h (Nat.not_lt_zero _)
    | succ f ih6 =>
      intro i hf6 hle6  x5 x6 e5 e6
      subst e5
      subst e6
      refine J_iload dX12_marchOf_6 rfl ?_
      refine J_aload_n dX12_marchOf_8 rfl rfl ?_
      refine Mg_8 dX12_marchOf_9 ?_
      refine J_iconst (v := nI 0) dX12_marchOf_12 (by decide) ?_
      refine Ml_8 (s := s) (s 8) rfl 0 rfl (by omega) dX12_marchOf_13 ?_
      refine J_rw (y := nI n) hn ?_
      refine J_icmp_geN 54 (by omega) (by omega) dX12_marchOf_14 (by decide) (fun kcz1 => ?_) (fun kcz1 => ?_)
      · obtain rfl : n = i := (by omega)
        rw [hvc]
        refine J_iload_n dX12_marchOf_54 rfl rfl ?_
        refine J_iload dX12_marchOf_55 rfl ?_
        have K65_1 : ∀ (t0 : Int64), t0 = (if lf ≤ vc then 1 else 0) → J G "marchOf" RX12 cX12_marchOf 11 (some .long) 0 0 1 Q 0 0 65 [(0, .ref o), (1, .int (nI c)), (2, .int (nI q)), (3, .int (nI lf)), (4, .int (nI 0)), (5, .int (nI vc)), (6, .int (nI n))] [.long t0] (mW G o a s) := by
          intro t0 qt0
          subst qt0
          refine J_lstore [(0, .ref o), (1, .int (nI c)), (2, .int (nI q)), (3, .int (nI lf)), (4, .int (nI 0)), (5, .int (nI vc)), (6, .long (if lf ≤ vc then 1 else 0))] dX12_marchOf_65 (by decide) rfl rfl rfl ?_
          refine J_lconst (v := 1) dX12_marchOf_67 (by decide) ?_
          refine J_lstore [(0, .ref o), (1, .int (nI c)), (2, .int (nI q)), (3, .int (nI lf)), (4, .int (nI 0)), (5, .int (nI vc)), (6, .long (if lf ≤ vc then 1 else 0)), (8, .long 1)] dX12_marchOf_68 (by decide) rfl rfl rfl ?_
          refine J_iconst (v := nI 0) dX12_marchOf_70 (by decide) ?_
          refine J_istore [(0, .ref o), (1, .int (nI c)), (2, .int (nI q)), (3, .int (nI lf)), (4, .int (nI 0)), (5, .int (nI vc)), (6, .long (if lf ≤ vc then 1 else 0)), (8, .long 1), (10, .int (nI 0))] dX12_marchOf_71 (by decide) rfl rfl rfl ?_
          have L73 : ∀ (f j : Nat), lf - j < f → j ≤ lf → ∀ (x6 : Int64) (x10 : Int32), x6 = mkA vc lf j → x10 = nI j → J G "marchOf" RX12 cX12_marchOf 11 (some .long) 0 0 1 Q 0 0 73 [(0, .ref o), (1, .int (nI c)), (2, .int (nI q)), (3, .int (nI lf)), (4, .int (nI 0)), (5, .int (nI vc)), (6, .long x6), (8, .long 1), (10, .int x10)] [] (mW G o a s) := by
            intro f
            induction f with
            | zero => intro j h; exact absurd h (Nat.not_lt_zero _)
            | succ f ih73 =>
              intro j hf73 hle73  x6 x10 e6 e10
              subst e6
              subst e10
              refine J_iload dX12_marchOf_73 rfl ?_
              refine J_iload_n dX12_marchOf_75 rfl rfl ?_
              refine J_icmp_geN 102 (by omega) (by omega) dX12_marchOf_76 (by decide) (fun kcz3 => ?_) (fun kcz3 => ?_)
              · refine J_iconst (v := nI 0) dX12_marchOf_102 (by decide) ?_
                refine J_istore [(0, .ref o), (1, .int (nI c)), (2, .int (nI q)), (3, .int (nI lf)), (4, .int (nI 0)), (5, .int (nI vc)), (6, .long (mkA vc lf j)), (8, .long 1), (10, .int (nI 0))] dX12_marchOf_103 (by decide) rfl rfl rfl ?_
                have L105 : ∀ (f l : Nat), vc - l < f → l ≤ vc → ∀ (x6 : Int64) (x8 : Int64) (x10 : Int32), x6 = mkB c vc lf l → x8 = mkC l → x10 = nI l → J G "marchOf" RX12 cX12_marchOf 11 (some .long) 0 0 1 Q 0 0 105 [(0, .ref o), (1, .int (nI c)), (2, .int (nI q)), (3, .int (nI lf)), (4, .int (nI 0)), (5, .int (nI vc)), (6, .long x6), (8, .long x8), (10, .int x10)] [] (mW G o a s) := by
                  intro f
                  induction f with
                  | zero => intro l h; exact absurd h (Nat.not_lt_zero _)
                  | succ f ih105 =>
                    intro l hf105 hle105  x6 x8 x10 e6 e8 e10
                    subst e6
                    subst e8
                    subst e10
                    refine J_iload dX12_marchOf_105 rfl ?_
                    refine J_iload dX12_marchOf_107 rfl ?_
                    refine J_icmp_geN 147 (by omega) (by omega) dX12_marchOf_109 (by decide) (fun kcz4 => ?_) (fun kcz4 => ?_)
                    · obtain rfl : vc = l := (by omega)
                      rw [(mrN_eq hc17 hvc8 hlf9).1, (mrN_eq hc17 hvc8 hlf9).2]
                      refine J_lload dX12_marchOf_147 rfl ?_
                      refine J_lload dX12_marchOf_149 rfl ?_
                      refine J_iload dX12_marchOf_151 rfl ?_
                      refine J_cSl [.long (lN (mrN c vc lf)), .long (lN (16 ^ vc)), .int (nI 0)] ms_X12_270 (c_X12_fraction0 (mW G o a s) (mrN c vc lf) (16 ^ vc) (mrN_lt hc17 hvc8 hlf9).1 (mrN_lt hc17 hvc8 hlf9).2 (Nat.pow_pos (by decide))) rfl rfl (by decide) (Nat.le_of_ble_eq_true rfl) ⟨Nat.le_refl _, Nat.le_refl _⟩ dX12_marchOf_153 ?_
                      exact J_lret dX12_marchOf_156 rfl rfl rfl (hq _ rfl)
                    · refine J_lload dX12_marchOf_112 rfl ?_
                      refine J_iload dX12_marchOf_114 rfl ?_
                      refine J_iload_n dX12_marchOf_116 rfl rfl ?_
                      have K130_4 : ∀ (t0 : Int64), t0 = (if lf ≤ l then (nI c).toInt64 else (nI (16 - c)).toInt64) → J G "marchOf" RX12 cX12_marchOf 11 (some .long) 0 0 1 Q 0 0 130 [(0, .ref o), (1, .int (nI c)), (2, .int (nI q)), (3, .int (nI lf)), (4, .int (nI 0)), (5, .int (nI vc)), (6, .long (mkB c vc lf l)), (8, .long (mkC l)), (10, .int (nI l))] [.long t0, .long (mkB c vc lf l)] (mW G o a s) := by
                        intro t0 qt0
                        subst qt0
                        refine J_lmul dX12_marchOf_130 ?_
                        refine J_lstore [(0, .ref o), (1, .int (nI c)), (2, .int (nI q)), (3, .int (nI lf)), (4, .int (nI 0)), (5, .int (nI vc)), (6, .long ((mkB c vc lf l) * (if lf ≤ l then (nI c).toInt64 else (nI (16 - c)).toInt64))), (8, .long (mkC l)), (10, .int (nI l))] dX12_marchOf_131 (by decide) rfl rfl rfl ?_
                        refine J_lload dX12_marchOf_133 rfl ?_
                        refine J_ldc2 dX12_marchOf_135 k_X12_268 ?_
                        refine J_lmul dX12_marchOf_138 ?_
                        refine J_lstore [(0, .ref o), (1, .int (nI c)), (2, .int (nI q)), (3, .int (nI lf)), (4, .int (nI 0)), (5, .int (nI vc)), (6, .long ((mkB c vc lf l) * (if lf ≤ l then (nI c).toInt64 else (nI (16 - c)).toInt64))), (8, .long ((mkC l) * (16))), (10, .int (nI l))] dX12_marchOf_139 (by decide) rfl rfl rfl ?_
                        refine J_iincN [(0, .ref o), (1, .int (nI c)), (2, .int (nI q)), (3, .int (nI lf)), (4, .int (nI 0)), (5, .int (nI vc)), (6, .long ((mkB c vc lf l) * (if lf ≤ l then (nI c).toInt64 else (nI (16 - c)).toInt64))), (8, .long ((mkC l) * (16))), (10, .int (nI (l + 1)))] dX12_marchOf_141 rfl (by decide) rfl rfl rfl ?_
                        refine J_goto 105 dX12_marchOf_144 (by decide) ?_
                        exact ih105 (l + 1) (by omega) (by omega)  _ _ _ rfl rfl rfl
                      refine J_icmp_geN 128 (by omega) (by omega) dX12_marchOf_117 (by decide) (fun kcz6 => ?_) (fun kcz6 => ?_)
                      · refine J_iload_n dX12_marchOf_128 rfl rfl ?_
                        refine J_i2l dX12_marchOf_129 ?_
                        exact K130_4 _ (by simp [kcz1, kcz3, kcz4, kcz6])
                      · refine J_bipush (v := nI 16) dX12_marchOf_120 (by decide) ?_
                        refine J_iload_n dX12_marchOf_122 rfl rfl ?_
                        refine J_isubN dX12_marchOf_123 (by omega) ?_
                        refine J_i2l dX12_marchOf_124 ?_
                        refine J_goto 130 dX12_marchOf_125 (by decide) ?_
                        exact K130_4 _ (by simp [kcz1, kcz3, kcz4, kcz6])
                exact L105 (vc + 1) 0 (by omega) (by omega)  _ _ _ (by obtain rfl : lf = j := (by omega); rfl) rfl rfl
              · refine J_lload dX12_marchOf_79 rfl ?_
                refine J_iload dX12_marchOf_81 rfl ?_
                refine J_iload dX12_marchOf_83 rfl ?_
                refine J_isub dX12_marchOf_85 ?_
                refine J_i2l dX12_marchOf_86 ?_
                refine J_lmul dX12_marchOf_87 ?_
                refine J_iload dX12_marchOf_88 rfl ?_
                refine J_iconst (v := nI 1) dX12_marchOf_90 (by decide) ?_
                refine J_iaddN dX12_marchOf_91 ?_
                refine J_i2l dX12_marchOf_92 ?_
                refine J_ldiv dX12_marchOf_93 (nIL_ne (by omega) (by omega)) ?_
                refine J_lstore [(0, .ref o), (1, .int (nI c)), (2, .int (nI q)), (3, .int (nI lf)), (4, .int (nI 0)), (5, .int (nI vc)), (6, .long (((mkA vc lf j) * (((nI vc) - (nI j)).toInt64)) / ((nI (j + 1)).toInt64))), (8, .long 1), (10, .int (nI j))] dX12_marchOf_94 (by decide) rfl rfl rfl ?_
                refine J_iincN [(0, .ref o), (1, .int (nI c)), (2, .int (nI q)), (3, .int (nI lf)), (4, .int (nI 0)), (5, .int (nI vc)), (6, .long (((mkA vc lf j) * (((nI vc) - (nI j)).toInt64)) / ((nI (j + 1)).toInt64))), (8, .long 1), (10, .int (nI (j + 1)))] dX12_marchOf_96 rfl (by decide) rfl rfl rfl ?_
                refine J_goto 73 dX12_marchOf_99 (by decide) ?_
                exact ih73 (j + 1) (by omega) (by omega)  _ _ rfl rfl
          exact L73 (lf + 1) 0 (by omega) (by omega)  _ _ rfl rfl
        refine J_icmp_leN 64 (by omega) (by omega) dX12_marchOf_57 (by decide) (fun kcz7 => ?_) (fun kcz7 => ?_)
        · refine J_lconst (v := 1) dX12_marchOf_64 (by decide) ?_
          exact K65_1 _ (by simp [kcz1, kcz7])
        · refine J_lconst (v := 0) dX12_marchOf_60 (by decide) ?_
          refine J_goto 65 dX12_marchOf_61 (by decide) ?_
          exact K65_1 _ (by simp [kcz1, kcz7])
      · refine J_iload dX12_marchOf_17 rfl ?_
        refine J_aload_n dX12_marchOf_19 rfl rfl ?_
        refine Mg_17 dX12_marchOf_20 ?_
        refine J_iload dX12_marchOf_23 rfl ?_
        refine Ml_17 (s := s) (s 17) rfl i rfl (by omega) dX12_marchOf_25 ?_
        refine J_iload_n dX12_marchOf_26 rfl rfl ?_
        have K45_7 : ∀ (t0 : Int32), t0 = (if ¬ s 17 i = nI q then nI 0 else s 9 (5 * i + 4)) → J G "marchOf" RX12 cX12_marchOf 11 (some .long) 0 0 1 Q 0 0 45 [(0, .ref o), (1, .int (nI c)), (2, .int (nI q)), (3, .int (nI lf)), (4, .int (nI 0)), (5, .int (smI (fun h => if s 17 h = nI q then s 9 (5 * h + 4) else nI 0) i)), (6, .int (nI i))] [.int t0, .int (smI (fun h => if s 17 h = nI q then s 9 (5 * h + 4) else nI 0) i)] (mW G o a s) := by
          intro t0 qt0
          subst qt0
          refine J_iadd dX12_marchOf_45 ?_
          refine J_istore [(0, .ref o), (1, .int (nI c)), (2, .int (nI q)), (3, .int (nI lf)), (4, .int (nI 0)), (5, .int ((smI (fun h => if s 17 h = nI q then s 9 (5 * h + 4) else nI 0) i) + (if ¬ s 17 i = nI q then nI 0 else s 9 (5 * i + 4)))), (6, .int (nI i))] dX12_marchOf_46 (by decide) rfl rfl rfl ?_
          refine J_iincN [(0, .ref o), (1, .int (nI c)), (2, .int (nI q)), (3, .int (nI lf)), (4, .int (nI 0)), (5, .int ((smI (fun h => if s 17 h = nI q then s 9 (5 * h + 4) else nI 0) i) + (if ¬ s 17 i = nI q then nI 0 else s 9 (5 * i + 4)))), (6, .int (nI (i + 1)))] dX12_marchOf_48 rfl (by decide) rfl rfl rfl ?_
          refine J_goto 6 dX12_marchOf_51 (by decide) ?_
          exact ih6 (i + 1) (by omega) (by omega)  _ _ (by simp only [smI]; simp [kcz1]) rfl
        refine J_icmp_ne 44 dX12_marchOf_27 (by decide) (fun kcz9 => ?_) (fun kcz9 => ?_)
        · refine J_iconst (v := nI 0) dX12_marchOf_44 (by decide) ?_
          exact K45_7 _ (by simp [kcz1, kcz9])
        · refine J_aload_n dX12_marchOf_30 rfl rfl ?_
          refine Mg_9 dX12_marchOf_31 ?_
          refine J_iconst (v := nI 5) dX12_marchOf_34 (by decide) ?_
          refine J_iload dX12_marchOf_35 rfl ?_
          refine J_imulN dX12_marchOf_37 ?_
          refine J_iconst (v := nI 4) dX12_marchOf_38 (by decide) ?_
          refine J_iaddN dX12_marchOf_39 ?_
          refine Ml_9 (s := s) (s 9) rfl (5 * i + 4) rfl (by omega) dX12_marchOf_40 ?_
          refine J_goto 45 dX12_marchOf_41 (by decide) ?_
          exact K45_7 _ (by simp [kcz1, kcz9])
  exact L6 (n + 1) 0 (by omega) (by omega)  _ _ rfl rfl
theorem c_X12_marchOf0 {G : GT} (o : Nat) (a : Nat → Nat) (s : Nat → Nat → Int32) (n : Nat) (hn : s 8 0 = nI n) (hn8 : n ≤ 8) (c q lf vc : Nat) (hc17 : c < 17) (hlf9 : lf < 9) (hvc : smI (fun h => if s 17 h = nI q then s 9 (5 * h + 4) else nI 0) n = nI vc) (hvc8 : vc < 9) : Ct G yX12_marchOf cX12_marchOf 11 (some .long) 0 0 1 [.ref o, .int (nI c), .int (nI q), .int (nI lf), .int (nI 0)] (mW G o a s) (Is (some (.long (mrA c vc lf 0))) (mW G o a s)) := Ct.of rfl (Nat.le_of_ble_eq_true rfl) (j_X12_marchOf0 o a s n hn hn8 c q lf vc hc17 hlf9 hvc hvc8 (fun _ e => by subst e; exact Is.rf _ _))
set_option maxRecDepth 100000 in
set_option maxHeartbeats 1000000 in
theorem j_X12_marchOf1 {G : GT} (o : Nat) (a : Nat → Nat) (s : Nat → Nat → Int32) (n : Nat) (hn : s 8 0 = nI n) (hn8 : n ≤ 8) (c q lf vc : Nat) (hc17 : c < 17) (hlf9 : lf < 9) (hvc : smI (fun h => if s 17 h = nI q then s 9 (5 * h + 4) else nI 0) n = nI vc) (hvc8 : vc < 9) {Q : Option Value → va_W → Prop} (hq : ∀ v_ : Int64, v_ = mrA c vc lf 1 → Q (some (.long v_)) (mW G o a s)) : J G "marchOf" RX12 cX12_marchOf 11 (some .long) 0 0 1 Q 0 0 0 [(0, .ref o), (1, .int (nI c)), (2, .int (nI q)), (3, .int (nI lf)), (4, .int (nI 1))] [] (mW G o a s) := by
  refine J_iconst (v := nI 0) dX12_marchOf_0 (by decide) ?_
  refine J_istore [(0, .ref o), (1, .int (nI c)), (2, .int (nI q)), (3, .int (nI lf)), (4, .int (nI 1)), (5, .int (nI 0))] dX12_marchOf_1 (by decide) rfl rfl rfl ?_
  refine J_iconst (v := nI 0) dX12_marchOf_3 (by decide) ?_
  refine J_istore [(0, .ref o), (1, .int (nI c)), (2, .int (nI q)), (3, .int (nI lf)), (4, .int (nI 1)), (5, .int (nI 0)), (6, .int (nI 0))] dX12_marchOf_4 (by decide) rfl rfl rfl ?_
  have L6 : ∀ (f i : Nat), n - i < f → i ≤ n → ∀ (x5 : Int32) (x6 : Int32), x5 = smI (fun h => if s 17 h = nI q then s 9 (5 * h + 4) else nI 0) i → x6 = nI i → J G "marchOf" RX12 cX12_marchOf 11 (some .long) 0 0 1 Q 0 0 6 [(0, .ref o), (1, .int (nI c)), (2, .int (nI q)), (3, .int (nI lf)), (4, .int (nI 1)), (5, .int x5), (6, .int x6)] [] (mW G o a s) := by
    intro f
    induction f with
    | zero => intro i h; exact absurd h (Nat.not_lt_zero _)
    | succ f ih6 =>
      intro i hf6 hle6  x5 x6 e5 e6
      subst e5
      subst e6
      refine J_iload dX12_marchOf_6 rfl ?_
      refine J_aload_n dX12_marchOf_8 rfl rfl ?_
      refine Mg_8 dX12_marchOf_9 ?_
      refine J_iconst (v := nI 0) dX12_marchOf_12 (by decide) ?_
      refine Ml_8 (s := s) (s 8) rfl 0 rfl (by omega) dX12_marchOf_13 ?_
      refine J_rw (y := nI n) hn ?_
      refine J_icmp_geN 54 (by omega) (by omega) dX12_marchOf_14 (by decide) (fun kcz1 => ?_) (fun kcz1 => ?_)
      · obtain rfl : n = i := (by omega)
        rw [hvc]
        refine J_iload_n dX12_marchOf_54 rfl rfl ?_
        refine J_iload dX12_marchOf_55 rfl ?_
        have K65_1 : ∀ (t0 : Int64), t0 = (if lf ≤ vc then 1 else 0) → J G "marchOf" RX12 cX12_marchOf 11 (some .long) 0 0 1 Q 0 0 65 [(0, .ref o), (1, .int (nI c)), (2, .int (nI q)), (3, .int (nI lf)), (4, .int (nI 1)), (5, .int (nI vc)), (6, .int (nI n))] [.long t0] (mW G o a s) := by
          intro t0 qt0
          subst qt0
          refine J_lstore [(0, .ref o), (1, .int (nI c)), (2, .int (nI q)), (3, .int (nI lf)), (4, .int (nI 1)), (5, .int (nI vc)), (6, .long (if lf ≤ vc then 1 else 0))] dX12_marchOf_65 (by decide) rfl rfl rfl ?_
          refine J_lconst (v := 1) dX12_marchOf_67 (by decide) ?_
          refine J_lstore [(0, .ref o), (1, .int (nI c)), (2, .int (nI q)), (3, .int (nI lf)), (4, .int (nI 1)), (5, .int (nI vc)), (6, .long (if lf ≤ vc then 1 else 0)), (8, .long 1)] dX12_marchOf_68 (by decide) rfl rfl rfl ?_
          refine J_iconst (v := nI 0) dX12_marchOf_70 (by decide) ?_
          refine J_istore [(0, .ref o), (1, .int (nI c)), (2, .int (nI q)), (3, .int (nI lf)), (4, .int (nI 1)), (5, .int (nI vc)), (6, .long (if lf ≤ vc then 1 else 0)), (8, .long 1), (10, .int (nI 0))] dX12_marchOf_71 (by decide) rfl rfl rfl ?_
          have L73 : ∀ (f j : Nat), lf - j < f → j ≤ lf → ∀ (x6 : Int64) (x10 : Int32), x6 = mkA vc lf j → x10 = nI j → J G "marchOf" RX12 cX12_marchOf 11 (some .long) 0 0 1 Q 0 0 73 [(0, .ref o), (1, .int (nI c)), (2, .int (nI q)), (3, .int (nI lf)), (4, .int (nI 1)), (5, .int (nI vc)), (6, .long x6), (8, .long 1), (10, .int x10)] [] (mW G o a s) := by
            intro f
            induction f with
            | zero => intro j h; exact absurd h (Nat.not_lt_zero _)
            | succ f ih73 =>
              intro j hf73 hle73  x6 x10 e6 e10
              subst e6
              subst e10
              refine J_iload dX12_marchOf_73 rfl ?_
              refine J_iload_n dX12_marchOf_75 rfl rfl ?_
              refine J_icmp_geN 102 (by omega) (by omega) dX12_marchOf_76 (by decide) (fun kcz3 => ?_) (fun kcz3 => ?_)
              · refine J_iconst (v := nI 0) dX12_marchOf_102 (by decide) ?_
                refine J_istore [(0, .ref o), (1, .int (nI c)), (2, .int (nI q)), (3, .int (nI lf)), (4, .int (nI 1)), (5, .int (nI vc)), (6, .long (mkA vc lf j)), (8, .long 1), (10, .int (nI 0))] dX12_marchOf_103 (by decide) rfl rfl rfl ?_
                have L105 : ∀ (f l : Nat), vc - l < f → l ≤ vc → ∀ (x6 : Int64) (x8 : Int64) (x10 : Int32), x6 = mkB c vc lf l → x8 = mkC l → x10 = nI l → J G "marchOf" RX12 cX12_marchOf 11 (some .long) 0 0 1 Q 0 0 105 [(0, .ref o), (1, .int (nI c)), (2, .int (nI q)), (3, .int (nI lf)), (4, .int (nI 1)), (5, .int (nI vc)), (6, .long x6), (8, .long x8), (10, .int x10)] [] (mW G o a s) := by
                  intro f
                  induction f with
                  | zero => intro l h; exact absurd h (Nat.not_lt_zero _)
                  | succ f ih105 =>
                    intro l hf105 hle105  x6 x8 x10 e6 e8 e10
                    subst e6
                    subst e8
                    subst e10
                    refine J_iload dX12_marchOf_105 rfl ?_
                    refine J_iload dX12_marchOf_107 rfl ?_
                    refine J_icmp_geN 147 (by omega) (by omega) dX12_marchOf_109 (by decide) (fun kcz4 => ?_) (fun kcz4 => ?_)
                    · obtain rfl : vc = l := (by omega)
                      rw [(mrN_eq hc17 hvc8 hlf9).1, (mrN_eq hc17 hvc8 hlf9).2]
                      refine J_lload dX12_marchOf_147 rfl ?_
                      refine J_lload dX12_marchOf_149 rfl ?_
                      refine J_iload dX12_marchOf_151 rfl ?_
                      refine J_cSl [.long (lN (mrN c vc lf)), .long (lN (16 ^ vc)), .int (nI 1)] ms_X12_270 (c_X12_fraction1 (mW G o a s) (mrN c vc lf) (16 ^ vc) (mrN_lt hc17 hvc8 hlf9).1 (mrN_lt hc17 hvc8 hlf9).2 (Nat.pow_pos (by decide))) rfl rfl (by decide) (Nat.le_of_ble_eq_true rfl) ⟨Nat.le_refl _, Nat.le_refl _⟩ dX12_marchOf_153 ?_
                      exact J_lret dX12_marchOf_156 rfl rfl rfl (hq _ rfl)
                    · refine J_lload dX12_marchOf_112 rfl ?_
                      refine J_iload dX12_marchOf_114 rfl ?_
                      refine J_iload_n dX12_marchOf_116 rfl rfl ?_
                      have K130_4 : ∀ (t0 : Int64), t0 = (if lf ≤ l then (nI c).toInt64 else (nI (16 - c)).toInt64) → J G "marchOf" RX12 cX12_marchOf 11 (some .long) 0 0 1 Q 0 0 130 [(0, .ref o), (1, .int (nI c)), (2, .int (nI q)), (3, .int (nI lf)), (4, .int (nI 1)), (5, .int (nI vc)), (6, .long (mkB c vc lf l)), (8, .long (mkC l)), (10, .int (nI l))] [.long t0, .long (mkB c vc lf l)] (mW G o a s) := by
                        intro t0 qt0
                        subst qt0
                        refine J_lmul dX12_marchOf_130 ?_
                        refine J_lstore [(0, .ref o), (1, .int (nI c)), (2, .int (nI q)), (3, .int (nI lf)), (4, .int (nI 1)), (5, .int (nI vc)), (6, .long ((mkB c vc lf l) * (if lf ≤ l then (nI c).toInt64 else (nI (16 - c)).toInt64))), (8, .long (mkC l)), (10, .int (nI l))] dX12_marchOf_131 (by decide) rfl rfl rfl ?_
                        refine J_lload dX12_marchOf_133 rfl ?_
                        refine J_ldc2 dX12_marchOf_135 k_X12_268 ?_
                        refine J_lmul dX12_marchOf_138 ?_
                        refine J_lstore [(0, .ref o), (1, .int (nI c)), (2, .int (nI q)), (3, .int (nI lf)), (4, .int (nI 1)), (5, .int (nI vc)), (6, .long ((mkB c vc lf l) * (if lf ≤ l then (nI c).toInt64 else (nI (16 - c)).toInt64))), (8, .long ((mkC l) * (16))), (10, .int (nI l))] dX12_marchOf_139 (by decide) rfl rfl rfl ?_
                        refine J_iincN [(0, .ref o), (1, .int (nI c)), (2, .int (nI q)), (3, .int (nI lf)), (4, .int (nI 1)), (5, .int (nI vc)), (6, .long ((mkB c vc lf l) * (if lf ≤ l then (nI c).toInt64 else (nI (16 - c)).toInt64))), (8, .long ((mkC l) * (16))), (10, .int (nI (l + 1)))] dX12_marchOf_141 rfl (by decide) rfl rfl rfl ?_
                        refine J_goto 105 dX12_marchOf_144 (by decide) ?_
                        exact ih105 (l + 1) (by omega) (by omega)  _ _ _ rfl rfl rfl
                      refine J_icmp_geN 128 (by omega) (by omega) dX12_marchOf_117 (by decide) (fun kcz6 => ?_) (fun kcz6 => ?_)
                      · refine J_iload_n dX12_marchOf_128 rfl rfl ?_
                        refine J_i2l dX12_marchOf_129 ?_
                        exact K130_4 _ (by simp [kcz1, kcz3, kcz4, kcz6])
                      · refine J_bipush (v := nI 16) dX12_marchOf_120 (by decide) ?_
                        refine J_iload_n dX12_marchOf_122 rfl rfl ?_
                        refine J_isubN dX12_marchOf_123 (by omega) ?_
                        refine J_i2l dX12_marchOf_124 ?_
                        refine J_goto 130 dX12_marchOf_125 (by decide) ?_
                        exact K130_4 _ (by simp [kcz1, kcz3, kcz4, kcz6])
                exact L105 (vc + 1) 0 (by omega) (by omega)  _ _ _ (by obtain rfl : lf = j := (by omega); rfl) rfl rfl
              · refine J_lload dX12_marchOf_79 rfl ?_
                refine J_iload dX12_marchOf_81 rfl ?_
                refine J_iload dX12_marchOf_83 rfl ?_
                refine J_isub dX12_marchOf_85 ?_
                refine J_i2l dX12_marchOf_86 ?_
                refine J_lmul dX12_marchOf_87 ?_
                refine J_iload dX12_marchOf_88 rfl ?_
                refine J_iconst (v := nI 1) dX12_marchOf_90 (by decide) ?_
                refine J_iaddN dX12_marchOf_91 ?_
                refine J_i2l dX12_marchOf_92 ?_
                refine J_ldiv dX12_marchOf_93 (nIL_ne (by omega) (by omega)) ?_
                refine J_lstore [(0, .ref o), (1, .int (nI c)), (2, .int (nI q)), (3, .int (nI lf)), (4, .int (nI 1)), (5, .int (nI vc)), (6, .long (((mkA vc lf j) * (((nI vc) - (nI j)).toInt64)) / ((nI (j + 1)).toInt64))), (8, .long 1), (10, .int (nI j))] dX12_marchOf_94 (by decide) rfl rfl rfl ?_
                refine J_iincN [(0, .ref o), (1, .int (nI c)), (2, .int (nI q)), (3, .int (nI lf)), (4, .int (nI 1)), (5, .int (nI vc)), (6, .long (((mkA vc lf j) * (((nI vc) - (nI j)).toInt64)) / ((nI (j + 1)).toInt64))), (8, .long 1), (10, .int (nI (j + 1)))] dX12_marchOf_96 rfl (by decide) rfl rfl rfl ?_
                refine J_goto 73 dX12_marchOf_99 (by decide) ?_
                exact ih73 (j + 1) (by omega) (by omega)  _ _ rfl rfl
          exact L73 (lf + 1) 0 (by omega) (by omega)  _ _ rfl rfl
        refine J_icmp_leN 64 (by omega) (by omega) dX12_marchOf_57 (by decide) (fun kcz7 => ?_) (fun kcz7 => ?_)
        · refine J_lconst (v := 1) dX12_marchOf_64 (by decide) ?_
          exact K65_1 _ (by simp [kcz1, kcz7])
        · refine J_lconst (v := 0) dX12_marchOf_60 (by decide) ?_
          refine J_goto 65 dX12_marchOf_61 (by decide) ?_
          exact K65_1 _ (by simp [kcz1, kcz7])
      · refine J_iload dX12_marchOf_17 rfl ?_
        refine J_aload_n dX12_marchOf_19 rfl rfl ?_
        refine Mg_17 dX12_marchOf_20 ?_
        refine J_iload dX12_marchOf_23 rfl ?_
        refine Ml_17 (s := s) (s 17) rfl i rfl (by omega) dX12_marchOf_25 ?_
        refine J_iload_n dX12_marchOf_26 rfl rfl ?_
        have K45_7 : ∀ (t0 : Int32), t0 = (if ¬ s 17 i = nI q then nI 0 else s 9 (5 * i + 4)) → J G "marchOf" RX12 cX12_marchOf 11 (some .long) 0 0 1 Q 0 0 45 [(0, .ref o), (1, .int (nI c)), (2, .int (nI q)), (3, .int (nI lf)), (4, .int (nI 1)), (5, .int (smI (fun h => if s 17 h = nI q then s 9 (5 * h + 4) else nI 0) i)), (6, .int (nI i))] [.int t0, .int (smI (fun h => if s 17 h = nI q then s 9 (5 * h + 4) else nI 0) i)] (mW G o a s) := by
          intro t0 qt0
          subst qt0
          refine J_iadd dX12_marchOf_45 ?_
          refine J_istore [(0, .ref o), (1, .int (nI c)), (2, .int (nI q)), (3, .int (nI lf)), (4, .int (nI 1)), (5, .int ((smI (fun h => if s 17 h = nI q then s 9 (5 * h + 4) else nI 0) i) + (if ¬ s 17 i = nI q then nI 0 else s 9 (5 * i + 4)))), (6, .int (nI i))] dX12_marchOf_46 (by decide) rfl rfl rfl ?_
          refine J_iincN [(0, .ref o), (1, .int (nI c)), (2, .int (nI q)), (3, .int (nI lf)), (4, .int (nI 1)), (5, .int ((smI (fun h => if s 17 h = nI q then s 9 (5 * h + 4) else nI 0) i) + (if ¬ s 17 i = nI q then nI 0 else s 9 (5 * i + 4)))), (6, .int (nI (i + 1)))] dX12_marchOf_48 rfl (by decide) rfl rfl rfl ?_
          refine J_goto 6 dX12_marchOf_51 (by decide) ?_
          exact ih6 (i + 1) (by omega) (by omega)  _ _ (by simp only [smI]; simp [kcz1]) rfl
        refine J_icmp_ne 44 dX12_marchOf_27 (by decide) (fun kcz9 => ?_) (fun kcz9 => ?_)
        · refine J_iconst (v := nI 0) dX12_marchOf_44 (by decide) ?_
          exact K45_7 _ (by simp [kcz1, kcz9])
        · refine J_aload_n dX12_marchOf_30 rfl rfl ?_
          refine Mg_9 dX12_marchOf_31 ?_
          refine J_iconst (v := nI 5) dX12_marchOf_34 (by decide) ?_
          refine J_iload dX12_marchOf_35 rfl ?_
          refine J_imulN dX12_marchOf_37 ?_
          refine J_iconst (v := nI 4) dX12_marchOf_38 (by decide) ?_
          refine J_iaddN dX12_marchOf_39 ?_
          refine Ml_9 (s := s) (s 9) rfl (5 * i + 4) rfl (by omega) dX12_marchOf_40 ?_
          refine J_goto 45 dX12_marchOf_41 (by decide) ?_
          exact K45_7 _ (by simp [kcz1, kcz9])
  exact L6 (n + 1) 0 (by omega) (by omega)  _ _ rfl rfl
theorem c_X12_marchOf1 {G : GT} (o : Nat) (a : Nat → Nat) (s : Nat → Nat → Int32) (n : Nat) (hn : s 8 0 = nI n) (hn8 : n ≤ 8) (c q lf vc : Nat) (hc17 : c < 17) (hlf9 : lf < 9) (hvc : smI (fun h => if s 17 h = nI q then s 9 (5 * h + 4) else nI 0) n = nI vc) (hvc8 : vc < 9) : Ct G yX12_marchOf cX12_marchOf 11 (some .long) 0 0 1 [.ref o, .int (nI c), .int (nI q), .int (nI lf), .int (nI 1)] (mW G o a s) (Is (some (.long (mrA c vc lf 1))) (mW G o a s)) := Ct.of rfl (Nat.le_of_ble_eq_true rfl) (j_X12_marchOf1 o a s n hn hn8 c q lf vc hc17 hlf9 hvc hvc8 (fun _ e => by subst e; exact Is.rf _ _))
set_option maxRecDepth 100000 in
set_option maxHeartbeats 1000000 in
theorem j_X12_mostAlike {G : GT} (o : Nat) (a : Nat → Nat) (s : Nat → Nat → Int32) (n : Nat) (hn : s 8 0 = nI n) (hn8 : n ≤ 8) (h sm q t : Nat) (hh : h < 8) (hsm : sm < 128) (hq6 : q < 6) {Q : Option Value → va_W → Prop} (hq : ∀ (v_ : Int32) (w_ : va_W) (yb yc : Nat → Int32), v_ = nI (moF (dzM n (s 9) (s 10) (s 17) h q t) sm 7) → w_ = mW G o a (su 23 (su 17 s yb) yc) → (∀ x, upd yb h x = upd (s 17) h x) → Q (some (.int v_)) w_) : J G "mostAlike" RX12 cX12_mostAlike 8 (some .int) 0 0 4 Q 0 0 0 [(0, .ref o), (1, .int (nI h)), (2, .int (nI sm)), (3, .int (nI q)), (4, .int (nI t))] [] (mW G o a s) := by
  refine J_iconst (v := nI 0) dX12_mostAlike_0 (by decide) ?_
  refine J_istore [(0, .ref o), (1, .int (nI h)), (2, .int (nI sm)), (3, .int (nI q)), (4, .int (nI t)), (5, .int (nI 0))] dX12_mostAlike_1 (by decide) rfl rfl rfl ?_
  have L3 : ∀ (f i : Nat), 9 - i < f → i ≤ 9 → ∀ (x5 : Int32) (y23 : Nat → Int32), x5 = nI i → y23 = (fa_fill (fun _ => nI 0) (s 23) i) → J G "mostAlike" RX12 cX12_mostAlike 8 (some .int) 0 0 4 Q 0 0 3 [(0, .ref o), (1, .int (nI h)), (2, .int (nI sm)), (3, .int (nI q)), (4, .int (nI t)), (5, .int x5)] [] (mW G o a (su 23 s y23)) := by
    intro f
    induction f with
    | zero => intro i h; exact absurd h (Nat.not_lt_zero _)
    | succ f ih3 =>
      intro i hf3 hle3  x5 y23 e5 g23
      subst e5
      subst g23
      refine J_iload dX12_mostAlike_3 rfl ?_
      refine J_bipush (v := nI 9) dX12_mostAlike_5 (by decide) ?_
      refine J_icmp_geN 24 (by omega) (by omega) dX12_mostAlike_7 (by decide) (fun kcz1 => ?_) (fun kcz1 => ?_)
      · obtain rfl : i = 9 := (by omega)
        refine Ma_23 (g := alI (dzM n (s 9) (s 10) (s 17) h q t) sm 0) (fun j hj => (fa_fill_in (by omega) : fa_fill (fun _ => nI 0) (s 23) 9 j = nI 0)) ?_
        refine J_ws (ws2 := (mW G o a (su 23 s (alI (dzM n (s 9) (s 10) (s 17) h q t) sm 0)))) (congrArg (mW G o a) su_tw) ?_
        refine J_iconst (v := nI 0) dX12_mostAlike_24 (by decide) ?_
        refine J_istore [(0, .ref o), (1, .int (nI h)), (2, .int (nI sm)), (3, .int (nI q)), (4, .int (nI t)), (5, .int (nI 0))] dX12_mostAlike_25 (by decide) rfl rfl rfl ?_
        refine J_iconst (v := nI 0) dX12_mostAlike_27 (by decide) ?_
        refine J_istore [(0, .ref o), (1, .int (nI h)), (2, .int (nI sm)), (3, .int (nI q)), (4, .int (nI t)), (5, .int (nI 0)), (6, .int (nI 0))] dX12_mostAlike_28 (by decide) rfl rfl rfl ?_
        have L30 : ∀ (f i : Nat) (yb : Nat → Int32), 7 - i < f → i ≤ 7 → (∀ x, upd yb h x = upd (s 17) h x) → ∀ (x5 : Int32) (x6 : Int32) (y23 : Nat → Int32), x5 = nI (moF (dzM n (s 9) (s 10) (s 17) h q t) sm i) → x6 = nI i → y23 = (alI (dzM n (s 9) (s 10) (s 17) h q t) sm i) → J G "mostAlike" RX12 cX12_mostAlike 8 (some .int) 0 0 4 Q 0 0 30 [(0, .ref o), (1, .int (nI h)), (2, .int (nI sm)), (3, .int (nI q)), (4, .int (nI t)), (5, .int x5), (6, .int x6)] [] (mW G o a (su 23 (su 17 s yb) y23)) := by
          intro f
          induction f with
          | zero => intro i yb h; exact absurd h (Nat.not_lt_zero _)
          | succ f ih30 =>
            intro i yb hf30 hle30 hyb x5 x6 y23 e5 e6 g23
            subst e5
            subst e6
            subst g23
            refine J_iload dX12_mostAlike_30 rfl ?_
            refine J_bipush (v := nI 7) dX12_mostAlike_32 (by decide) ?_
            refine J_icmp_geN 119 (by omega) (by omega) dX12_mostAlike_34 (by decide) (fun kcz2 => ?_) (fun kcz2 => ?_)
            · refine J_iload dX12_mostAlike_119 rfl ?_
              exact J_iret dX12_mostAlike_121 rfl rfl rfl (by obtain rfl : i = 7 := (by omega); exact hq _ _ yb _ rfl rfl hyb)
            · refine J_iload_n dX12_mostAlike_37 rfl rfl ?_
              refine J_iload dX12_mostAlike_38 rfl ?_
              refine J_cSi [.int (nI sm), .int (nI i)] ms_X12_154 (c_X12_isIn (mW G o a (su 23 (su 17 s yb) (alI (dzM n (s 9) (s 10) (s 17) h q t) sm i))) sm i (by omega) (by omega)) rfl rfl (by decide) (Nat.le_of_ble_eq_true rfl) ⟨Nat.le_refl _, Nat.le_refl _⟩ dX12_mostAlike_40 ?_
              refine J_if_eqB 113 dX12_mostAlike_43 (by decide) (fun kcz3 => ?_) (fun kcz3 => ?_)
              · refine J_iincN [(0, .ref o), (1, .int (nI h)), (2, .int (nI sm)), (3, .int (nI q)), (4, .int (nI t)), (5, .int (nI (moF (dzM n (s 9) (s 10) (s 17) h q t) sm i))), (6, .int (nI (i + 1)))] dX12_mostAlike_113 rfl (by decide) rfl rfl rfl ?_
                refine J_goto 30 dX12_mostAlike_116 (by decide) ?_
                exact ih30 (i + 1) yb (by omega) (by omega) hyb _ _ _ (by first | rfl | rw [moF_no kcz3]) rfl (by first | rfl | exact (alI_no kcz3).symm)
              · refine J_aload_n dX12_mostAlike_46 rfl rfl ?_
                refine Mg_17 dX12_mostAlike_47 ?_
                refine J_iload_n dX12_mostAlike_50 rfl rfl ?_
                refine J_iload dX12_mostAlike_51 rfl ?_
                refine J_bipush (v := nI 6) dX12_mostAlike_53 (by decide) ?_
                have K64_3 : ∀ (t0 : Int32), t0 = vwh 6 i → J G "mostAlike" RX12 cX12_mostAlike 8 (some .int) 0 0 4 Q 0 0 64 [(0, .ref o), (1, .int (nI h)), (2, .int (nI sm)), (3, .int (nI q)), (4, .int (nI t)), (5, .int (nI (moF (dzM n (s 9) (s 10) (s 17) h q t) sm i))), (6, .int (nI i))] [.int t0, .int (nI h), .ref (a 17)] (mW G o a (su 23 (su 17 s yb) (alI (dzM n (s 9) (s 10) (s 17) h q t) sm i))) := by
                  intro t0 qt0
                  subst qt0
                  refine Ms_17 (s := (su 23 (su 17 s yb) (alI (dzM n (s 9) (s 10) (s 17) h q t) sm i))) yb rfl h rfl (by omega) dX12_mostAlike_64 ?_
                  refine J_ws (ws2 := (mW G o a (su 23 (su 17 s (upd yb h (vwh 6 i))) (alI (dzM n (s 9) (s 10) (s 17) h q t) sm i)))) (congrArg (mW G o a) ((su_sw (by decide)).trans (su_cg su_tw))) ?_
                  refine J_ws (ws2 := (mW G o a (su 23 (su 17 s (upd (s 17) h (vwh 6 i))) (alI (dzM n (s 9) (s 10) (s 17) h q t) sm i)))) (congrArg (mW G o a) (su_cg (congrArg (su 17 s) (hyb _)))) ?_
                  refine J_aload_n dX12_mostAlike_65 rfl rfl ?_
                  refine J_iload_n dX12_mostAlike_66 rfl rfl ?_
                  refine J_iload dX12_mostAlike_67 rfl ?_
                  refine J_cVi (x := yX12_in) [.int (nI q), .int (nI t)] 0 mv_X12_207 (c_X12_doesNow o a (su 23 (su 17 s (upd (s 17) h (vwh 6 i))) (alI (dzM n (s 9) (s 10) (s 17) h q t) sm i)) n hn hn8 q t (by omega)) mW_0 rfl rfl (by decide) (Nat.le_of_ble_eq_true rfl) ⟨Nat.le_refl _, Nat.le_refl _⟩ dX12_mostAlike_69 ?_
                  refine J_rw (y := doM n (s 9) (s 10) (upd (s 17) h (vwh 6 i)) q t) rfl ?_
                  refine J_iconst (v := nI 1) dX12_mostAlike_72 (by decide) ?_
                  refine J_iadd dX12_mostAlike_73 ?_
                  refine J_rw (y := nI ((dzM n (s 9) (s 10) (s 17) h q t) i)) (dzM_eq hn8).1 ?_
                  refine J_istore [(0, .ref o), (1, .int (nI h)), (2, .int (nI sm)), (3, .int (nI q)), (4, .int (nI t)), (5, .int (nI (moF (dzM n (s 9) (s 10) (s 17) h q t) sm i))), (6, .int (nI i)), (7, .int (nI ((dzM n (s 9) (s 10) (s 17) h q t) i)))] dX12_mostAlike_74 (by decide) rfl rfl rfl ?_
                  refine J_aload_n dX12_mostAlike_76 rfl rfl ?_
                  refine Mg_23 dX12_mostAlike_77 ?_
                  refine J_iload dX12_mostAlike_80 rfl ?_
                  refine J_dup2 dX12_mostAlike_82 rfl rfl ?_
                  refine Ml_23 (s := (su 23 (su 17 s (upd (s 17) h (vwh 6 i))) (alI (dzM n (s 9) (s 10) (s 17) h q t) sm i))) (alI (dzM n (s 9) (s 10) (s 17) h q t) sm i) rfl ((dzM n (s 9) (s 10) (s 17) h q t) i) rfl (dzM_eq hn8).2 dX12_mostAlike_83 ?_
                  refine J_rw (y := nI (alF (dzM n (s 9) (s 10) (s 17) h q t) sm i ((dzM n (s 9) (s 10) (s 17) h q t) i))) rfl ?_
                  refine J_iconst (v := nI 1) dX12_mostAlike_84 (by decide) ?_
                  refine J_iaddN dX12_mostAlike_85 ?_
                  refine Ms_23 (s := (su 23 (su 17 s (upd (s 17) h (vwh 6 i))) (alI (dzM n (s 9) (s 10) (s 17) h q t) sm i))) (alI (dzM n (s 9) (s 10) (s 17) h q t) sm i) rfl ((dzM n (s 9) (s 10) (s 17) h q t) i) rfl (dzM_eq hn8).2 dX12_mostAlike_86 ?_
                  refine J_ws (ws2 := (mW G o a (su 23 (su 17 s (upd (s 17) h (vwh 6 i))) (upd (alI (dzM n (s 9) (s 10) (s 17) h q t) sm i) ((dzM n (s 9) (s 10) (s 17) h q t) i) (nI (alF (dzM n (s 9) (s 10) (s 17) h q t) sm i ((dzM n (s 9) (s 10) (s 17) h q t) i) + 1)))))) (congrArg (mW G o a) su_tw) ?_
                  refine J_ws (ws2 := (mW G o a (su 23 (su 17 s (upd (s 17) h (vwh 6 i))) (alI (dzM n (s 9) (s 10) (s 17) h q t) sm (i + 1))))) (congrArg (mW G o a) (congrArg (su 23 _) (alI_yes kcz3))) ?_
                  refine J_aload_n dX12_mostAlike_87 rfl rfl ?_
                  refine Mg_23 dX12_mostAlike_88 ?_
                  refine J_iload dX12_mostAlike_91 rfl ?_
                  refine Ml_23 (s := (su 23 (su 17 s (upd (s 17) h (vwh 6 i))) (alI (dzM n (s 9) (s 10) (s 17) h q t) sm (i + 1)))) (alI (dzM n (s 9) (s 10) (s 17) h q t) sm (i + 1)) rfl ((dzM n (s 9) (s 10) (s 17) h q t) i) rfl (dzM_eq hn8).2 dX12_mostAlike_93 ?_
                  refine J_rw (y := nI (alF (dzM n (s 9) (s 10) (s 17) h q t) sm (i + 1) ((dzM n (s 9) (s 10) (s 17) h q t) i))) rfl ?_
                  refine J_iload dX12_mostAlike_94 rfl ?_
                  have K111_4 : ∀ (t0 : Int32), t0 = nI (moF (dzM n (s 9) (s 10) (s 17) h q t) sm (i + 1)) → J G "mostAlike" RX12 cX12_mostAlike 8 (some .int) 0 0 4 Q 0 0 111 [(0, .ref o), (1, .int (nI h)), (2, .int (nI sm)), (3, .int (nI q)), (4, .int (nI t)), (5, .int (nI (moF (dzM n (s 9) (s 10) (s 17) h q t) sm i))), (6, .int (nI i)), (7, .int (nI ((dzM n (s 9) (s 10) (s 17) h q t) i)))] [.int t0] (mW G o a (su 23 (su 17 s (upd (s 17) h (vwh 6 i))) (alI (dzM n (s 9) (s 10) (s 17) h q t) sm (i + 1)))) := by
                    intro t0 qt0
                    subst qt0
                    refine J_istore [(0, .ref o), (1, .int (nI h)), (2, .int (nI sm)), (3, .int (nI q)), (4, .int (nI t)), (5, .int (nI (moF (dzM n (s 9) (s 10) (s 17) h q t) sm (i + 1)))), (6, .int (nI i)), (7, .int (nI ((dzM n (s 9) (s 10) (s 17) h q t) i)))] dX12_mostAlike_111 (by decide) rfl rfl rfl ?_
                    refine J_iincN [(0, .ref o), (1, .int (nI h)), (2, .int (nI sm)), (3, .int (nI q)), (4, .int (nI t)), (5, .int (nI (moF (dzM n (s 9) (s 10) (s 17) h q t) sm (i + 1)))), (6, .int (nI (i + 1))), (7, .int (nI ((dzM n (s 9) (s 10) (s 17) h q t) i)))] dX12_mostAlike_113 rfl (by decide) rfl rfl rfl ?_
                    refine J_goto 30 dX12_mostAlike_116 (by decide) ?_
                    refine J_lv [0, 1, 2, 3, 4, 5, 6] rfl ?_
                    exact ih30 (i + 1) (upd (s 17) h (vwh 6 i)) (by omega) (by omega) (fun x => fa_upd_twice _ _ _ _) _ _ _ (by first | rfl | rw [moF_no kcz3]) rfl (by first | rfl | exact (alI_no kcz3).symm)
                  refine J_icmp_leN 109 (by have := alF_le (dzM n (s 9) (s 10) (s 17) h q t) sm (i + 1) ((dzM n (s 9) (s 10) (s 17) h q t) i); omega) (by have := moF_le (dzM n (s 9) (s 10) (s 17) h q t) sm i; omega) dX12_mostAlike_96 (by decide) (fun kcz6 => ?_) (fun kcz6 => ?_)
                  · refine J_iload dX12_mostAlike_109 rfl ?_
                    exact K111_4 _ (by simp [moF, kcz1, kcz2, kcz3, kcz6])
                  · refine J_aload_n dX12_mostAlike_99 rfl rfl ?_
                    refine Mg_23 dX12_mostAlike_100 ?_
                    refine J_iload dX12_mostAlike_103 rfl ?_
                    refine Ml_23 (s := (su 23 (su 17 s (upd (s 17) h (vwh 6 i))) (alI (dzM n (s 9) (s 10) (s 17) h q t) sm (i + 1)))) (alI (dzM n (s 9) (s 10) (s 17) h q t) sm (i + 1)) rfl ((dzM n (s 9) (s 10) (s 17) h q t) i) rfl (dzM_eq hn8).2 dX12_mostAlike_105 ?_
                    refine J_rw (y := nI (alF (dzM n (s 9) (s 10) (s 17) h q t) sm (i + 1) ((dzM n (s 9) (s 10) (s 17) h q t) i))) rfl ?_
                    refine J_goto 111 dX12_mostAlike_106 (by decide) ?_
                    exact K111_4 _ (by simp [moF, kcz1, kcz2, kcz3, kcz6])
                refine J_icmp_neN 62 (by omega) (by omega) dX12_mostAlike_55 (by decide) (fun kcz7 => ?_) (fun kcz7 => ?_)
                · refine J_iload dX12_mostAlike_62 rfl ?_
                  exact K64_3 _ (by simp [vwh, kcz1, kcz2, kcz3, kcz7])
                · refine J_iconst (v := -1) dX12_mostAlike_58 (by decide) ?_
                  refine J_goto 64 dX12_mostAlike_59 (by decide) ?_
                  exact K64_3 _ (by simp [vwh, kcz1, kcz2, kcz3, kcz7])
        exact L30 8 0 (s 17) (by omega) (by omega) (fun x => rfl) _ _ _ rfl rfl rfl
      · refine J_aload_n dX12_mostAlike_10 rfl rfl ?_
        refine Mg_23 dX12_mostAlike_11 ?_
        refine J_iload dX12_mostAlike_14 rfl ?_
        refine J_iconst (v := nI 0) dX12_mostAlike_16 (by decide) ?_
        refine Ms_23 (s := (su 23 s (fa_fill (fun _ => nI 0) (s 23) i))) (fa_fill (fun _ => nI 0) (s 23) i) rfl i rfl (by omega) dX12_mostAlike_17 ?_
        refine J_ws (ws2 := (mW G o a (su 23 s (upd (fa_fill (fun _ => nI 0) (s 23) i) i (nI 0))))) (congrArg (mW G o a) su_tw) ?_
        refine J_iincN [(0, .ref o), (1, .int (nI h)), (2, .int (nI sm)), (3, .int (nI q)), (4, .int (nI t)), (5, .int (nI (i + 1)))] dX12_mostAlike_18 rfl (by decide) rfl rfl rfl ?_
        refine J_goto 3 dX12_mostAlike_21 (by decide) ?_
        exact ih3 (i + 1) (by omega) (by omega)  _ _ rfl (fa_fill_succ _ _ _)
  exact L3 (9 + 1) 0 (by omega) (by omega)  _ _ rfl (fa_fill_0 _ _).symm
theorem c_X12_mostAlike {G : GT} (o : Nat) (a : Nat → Nat) (s : Nat → Nat → Int32) (n : Nat) (hn : s 8 0 = nI n) (hn8 : n ≤ 8) (h sm q t : Nat) (hh : h < 8) (hsm : sm < 128) (hq6 : q < 6) : Ct G yX12_mostAlike cX12_mostAlike 8 (some .int) 0 0 4 [.ref o, .int (nI h), .int (nI sm), .int (nI q), .int (nI t)] (mW G o a s) (fun v w => ∃ yb yc : Nat → Int32, v = some (.int (nI (moF (dzM n (s 9) (s 10) (s 17) h q t) sm 7))) ∧ w = mW G o a (su 23 (su 17 s yb) yc) ∧ (∀ x, upd yb h x = upd (s 17) h x)) := Ct.of rfl (Nat.le_of_ble_eq_true rfl) (j_X12_mostAlike o a s n hn hn8 h sm q t hh hsm hq6 (fun v_ w_ yb yc h1 h2 h3 => ⟨yb, yc, by rw [h1], h2, h3⟩))
set_option maxRecDepth 100000 in
set_option maxHeartbeats 1000000 in
theorem j_X12_lookOf {G : GT} (o : Nat) (a : Nat → Nat) (s : Nat → Nat → Int32) (n : Nat) (hn : s 8 0 = nI n) (hn8 : n ≤ 8) (m : Nat) (hm : s 8 1 = nI m) (hm6 : m ≤ 6) (sg : Nat) (hsg : s 21 0 = nI sg) (hsg8 : sg ≤ 8) (hSg : ∀ k, k < sg → ∃ t, t < 24 ∧ s 22 (3 * k) = nI t) (h q : Nat) (hh : h < 8) (hq6 : q < 6) {Q : Option Value → va_W → Prop} (hq : ∀ (v_ : Int32) (w_ : va_W) (yc : Nat → Int32), v_ = nI (lkF (fun t => moF (dzM n (s 9) (s 10) (s 17) h q t) (whF n m (s 9) (s 10) (s 17) (s 22) sg h (m + 1)) 7) 23).1 → w_ = mW G o a (su 23 s yc) → Q (some (.int v_)) w_) : J G "lookOf" RX12 cX12_lookOf 9 (some .int) 0 0 6 Q 0 0 0 [(0, .ref o), (1, .int (nI h)), (2, .int (nI q))] [] (mW G o a s) := by
  have hsm : (whF n m (s 9) (s 10) (s 17) (s 22) sg h (m + 1)) < 128 := whF_lt hm6 (by omega)
  refine J_aload_n dX12_lookOf_0 rfl rfl ?_
  refine J_iload_n dX12_lookOf_1 rfl rfl ?_
  refine J_cVi (x := yX12_in) [.int (nI h)] 0 mv_X12_258 (c_X12_whoseOf o a s n hn hn8 m hm hm6 sg hsg hsg8 hSg h (by omega)) mW_0 rfl rfl (by decide) (Nat.le_of_ble_eq_true rfl) ⟨Nat.le_refl _, Nat.le_refl _⟩ dX12_lookOf_2 ?_
  refine J_istore_n [(0, .ref o), (1, .int (nI h)), (2, .int (nI q)), (3, .int (nI (whF n m (s 9) (s 10) (s 17) (s 22) sg h (m + 1))))] dX12_lookOf_5 rfl (by decide) rfl rfl rfl ?_
  refine J_aload_n dX12_lookOf_6 rfl rfl ?_
  refine Mg_17 dX12_lookOf_7 ?_
  refine J_iload_n dX12_lookOf_10 rfl rfl ?_
  refine Ml_17 (s := s) (s 17) rfl h rfl (by omega) dX12_lookOf_11 ?_
  refine J_istore [(0, .ref o), (1, .int (nI h)), (2, .int (nI q)), (3, .int (nI (whF n m (s 9) (s 10) (s 17) (s 22) sg h (m + 1)))), (4, .int (s 17 h))] dX12_lookOf_12 (by decide) rfl rfl rfl ?_
  refine J_iconst (v := nI 0) dX12_lookOf_14 (by decide) ?_
  refine J_istore [(0, .ref o), (1, .int (nI h)), (2, .int (nI q)), (3, .int (nI (whF n m (s 9) (s 10) (s 17) (s 22) sg h (m + 1)))), (4, .int (s 17 h)), (5, .int (nI 0))] dX12_lookOf_15 (by decide) rfl rfl rfl ?_
  refine J_aload_n dX12_lookOf_17 rfl rfl ?_
  refine J_iload_n dX12_lookOf_18 rfl rfl ?_
  refine J_iload_n dX12_lookOf_19 rfl rfl ?_
  refine J_iload_n dX12_lookOf_20 rfl rfl ?_
  refine J_iconst (v := nI 0) dX12_lookOf_21 (by decide) ?_
  refine J_callV (wr := []) (As := [.int (nI h), .int (nI (whF n m (s 9) (s 10) (s 17) (s 22) sg h (m + 1))), .int (nI q), .int (nI 0)]) (st := []) 0 mv_X12_261 (c_X12_mostAlike o a s n hn hn8 h (whF n m (s 9) (s 10) (s 17) (s 22) sg h (m + 1)) q 0 (by omega) hsm (by omega)) mW_0 rfl rfl rfl (by decide) (Nat.le_of_ble_eq_true rfl) ⟨Nat.le_refl _, Nat.le_refl _⟩ dX12_lookOf_22 (fun v_ w_ h_ => ?_)
  obtain ⟨yb22, yc22, rfl, rfl, hy22⟩ := h_
  show J G "lookOf" RX12 cX12_lookOf 9 (some .int) 0 0 6 Q 0 0 25 [(0, .ref o), (1, .int (nI h)), (2, .int (nI q)), (3, .int (nI (whF n m (s 9) (s 10) (s 17) (s 22) sg h (m + 1)))), (4, .int (s 17 h)), (5, .int (nI 0))] [.int (nI (moF (dzM n (s 9) (s 10) (s 17) h q 0) (whF n m (s 9) (s 10) (s 17) (s 22) sg h (m + 1)) 7))] (mW G o a (su 23 (su 17 s yb22) yc22))
  refine J_istore [(0, .ref o), (1, .int (nI h)), (2, .int (nI q)), (3, .int (nI (whF n m (s 9) (s 10) (s 17) (s 22) sg h (m + 1)))), (4, .int (s 17 h)), (5, .int (nI 0)), (6, .int (nI (moF (dzM n (s 9) (s 10) (s 17) h q 0) (whF n m (s 9) (s 10) (s 17) (s 22) sg h (m + 1)) 7)))] dX12_lookOf_25 (by decide) rfl rfl rfl ?_
  refine J_iconst (v := nI 1) dX12_lookOf_27 (by decide) ?_
  refine J_istore [(0, .ref o), (1, .int (nI h)), (2, .int (nI q)), (3, .int (nI (whF n m (s 9) (s 10) (s 17) (s 22) sg h (m + 1)))), (4, .int (s 17 h)), (5, .int (nI 0)), (6, .int (nI (moF (dzM n (s 9) (s 10) (s 17) h q 0) (whF n m (s 9) (s 10) (s 17) (s 22) sg h (m + 1)) 7))), (7, .int (nI 1))] dX12_lookOf_28 (by decide) rfl rfl rfl ?_
  have L30 : ∀ (f i : Nat) (yb yc : Nat → Int32), 23 - i < f → i ≤ 23 → (∀ x, upd yb h x = upd (s 17) h x) → ∀ (x5 : Int32) (x6 : Int32) (x7 : Int32), x5 = nI ((lkF (fun t => moF (dzM n (s 9) (s 10) (s 17) h q t) (whF n m (s 9) (s 10) (s 17) (s 22) sg h (m + 1)) 7) i).1) → x6 = nI ((lkF (fun t => moF (dzM n (s 9) (s 10) (s 17) h q t) (whF n m (s 9) (s 10) (s 17) (s 22) sg h (m + 1)) 7) i).2) → x7 = nI (i + 1) → J G "lookOf" RX12 cX12_lookOf 9 (some .int) 0 0 6 Q 0 0 30 [(0, .ref o), (1, .int (nI h)), (2, .int (nI q)), (3, .int (nI (whF n m (s 9) (s 10) (s 17) (s 22) sg h (m + 1)))), (4, .int (s 17 h)), (5, .int x5), (6, .int x6), (7, .int x7)] [] (mW G o a (su 23 (su 17 s yb) yc)) := by
    intro f
    induction f with
    | zero => intro i yb yc h; exact absurd h (Nat.not_lt_zero _)
    | succ f ih30 =>
      intro i yb yc hf30 hle30 hyb x5 x6 x7 e5 e6 e7
      subst e5
      subst e6
      subst e7
      refine J_iload dX12_lookOf_30 rfl ?_
      refine J_bipush (v := nI 24) dX12_lookOf_32 (by decide) ?_
      refine J_icmp_geN 79 (by omega) (by omega) dX12_lookOf_34 (by decide) (fun kcz1 => ?_) (fun kcz1 => ?_)
      · refine J_aload_n dX12_lookOf_79 rfl rfl ?_
        refine Mg_17 dX12_lookOf_80 ?_
        refine J_iload_n dX12_lookOf_83 rfl rfl ?_
        refine J_iload dX12_lookOf_84 rfl ?_
        refine Ms_17 (s := (su 23 (su 17 s yb) yc)) yb rfl h rfl (by omega) dX12_lookOf_86 ?_
        refine J_ws (ws2 := (mW G o a (su 23 (su 17 s (upd yb h (s 17 h))) yc))) (congrArg (mW G o a) ((su_sw (by decide)).trans (su_cg su_tw))) ?_
        refine J_iload dX12_lookOf_87 rfl ?_
        exact J_iret dX12_lookOf_89 rfl rfl rfl (by obtain rfl : i = 23 := (by omega); exact hq _ _ yc rfl (by rw [hyb, fa_upd_same rfl, su_id]))
      · refine J_aload_n dX12_lookOf_37 rfl rfl ?_
        refine J_iload_n dX12_lookOf_38 rfl rfl ?_
        refine J_iload_n dX12_lookOf_39 rfl rfl ?_
        refine J_iload_n dX12_lookOf_40 rfl rfl ?_
        refine J_iload dX12_lookOf_41 rfl ?_
        refine J_callV (wr := []) (As := [.int (nI h), .int (nI (whF n m (s 9) (s 10) (s 17) (s 22) sg h (m + 1))), .int (nI q), .int (nI (i + 1))]) (st := []) 0 mv_X12_261 (c_X12_mostAlike o a (su 23 (su 17 s yb) yc) n hn hn8 h (whF n m (s 9) (s 10) (s 17) (s 22) sg h (m + 1)) q (i + 1) (by omega) hsm (by omega)) mW_0 rfl rfl rfl (by decide) (Nat.le_of_ble_eq_true rfl) ⟨Nat.le_refl _, Nat.le_refl _⟩ dX12_lookOf_43 (fun v_ w_ h_ => ?_)
        obtain ⟨yb43, yc43, rfl, rfl, hy43⟩ := h_
        show J G "lookOf" RX12 cX12_lookOf 9 (some .int) 0 0 6 Q 0 0 46 [(0, .ref o), (1, .int (nI h)), (2, .int (nI q)), (3, .int (nI (whF n m (s 9) (s 10) (s 17) (s 22) sg h (m + 1)))), (4, .int (s 17 h)), (5, .int (nI ((lkF (fun t => moF (dzM n (s 9) (s 10) (s 17) h q t) (whF n m (s 9) (s 10) (s 17) (s 22) sg h (m + 1)) 7) i).1))), (6, .int (nI ((lkF (fun t => moF (dzM n (s 9) (s 10) (s 17) h q t) (whF n m (s 9) (s 10) (s 17) (s 22) sg h (m + 1)) 7) i).2))), (7, .int (nI (i + 1)))] [.int (nI (moF (dzM n (s 9) (s 10) yb h q (i + 1)) (whF n m (s 9) (s 10) (s 17) (s 22) sg h (m + 1)) 7))] (mW G o a (su 23 (su 17 (su 23 (su 17 s yb) yc) yb43) yc43))
        refine J_ws (ws2 := (mW G o a (su 23 (su 17 s yb43) yc43))) (congrArg (mW G o a) (Eq.trans (su_cg ((su_sw (by decide)).trans (su_cg su_tw))) su_tw)) ?_
        refine J_rw (y := nI (moF (dzM n (s 9) (s 10) (s 17) h q (i + 1)) (whF n m (s 9) (s 10) (s 17) (s 22) sg h (m + 1)) 7)) (congrArg (fun D => nI (moF D _ 7)) (dzM_cg hyb)) ?_
        refine J_istore [(0, .ref o), (1, .int (nI h)), (2, .int (nI q)), (3, .int (nI (whF n m (s 9) (s 10) (s 17) (s 22) sg h (m + 1)))), (4, .int (s 17 h)), (5, .int (nI ((lkF (fun t => moF (dzM n (s 9) (s 10) (s 17) h q t) (whF n m (s 9) (s 10) (s 17) (s 22) sg h (m + 1)) 7) i).1))), (6, .int (nI ((lkF (fun t => moF (dzM n (s 9) (s 10) (s 17) h q t) (whF n m (s 9) (s 10) (s 17) (s 22) sg h (m + 1)) 7) i).2))), (7, .int (nI (i + 1))), (8, .int (nI (moF (dzM n (s 9) (s 10) (s 17) h q (i + 1)) (whF n m (s 9) (s 10) (s 17) (s 22) sg h (m + 1)) 7)))] dX12_lookOf_46 (by decide) rfl rfl rfl ?_
        refine J_iload dX12_lookOf_48 rfl ?_
        refine J_iload dX12_lookOf_50 rfl ?_
        have K62_1 : ∀ (t0 : Int32), t0 = nI ((lkF (fun t => moF (dzM n (s 9) (s 10) (s 17) h q t) (whF n m (s 9) (s 10) (s 17) (s 22) sg h (m + 1)) 7) (i + 1)).1) → J G "lookOf" RX12 cX12_lookOf 9 (some .int) 0 0 6 Q 0 0 62 [(0, .ref o), (1, .int (nI h)), (2, .int (nI q)), (3, .int (nI (whF n m (s 9) (s 10) (s 17) (s 22) sg h (m + 1)))), (4, .int (s 17 h)), (5, .int (nI ((lkF (fun t => moF (dzM n (s 9) (s 10) (s 17) h q t) (whF n m (s 9) (s 10) (s 17) (s 22) sg h (m + 1)) 7) i).1))), (6, .int (nI ((lkF (fun t => moF (dzM n (s 9) (s 10) (s 17) h q t) (whF n m (s 9) (s 10) (s 17) (s 22) sg h (m + 1)) 7) i).2))), (7, .int (nI (i + 1))), (8, .int (nI (moF (dzM n (s 9) (s 10) (s 17) h q (i + 1)) (whF n m (s 9) (s 10) (s 17) (s 22) sg h (m + 1)) 7)))] [.int t0] (mW G o a (su 23 (su 17 s yb43) yc43)) := by
          intro t0 qt0
          subst qt0
          refine J_istore [(0, .ref o), (1, .int (nI h)), (2, .int (nI q)), (3, .int (nI (whF n m (s 9) (s 10) (s 17) (s 22) sg h (m + 1)))), (4, .int (s 17 h)), (5, .int (nI ((lkF (fun t => moF (dzM n (s 9) (s 10) (s 17) h q t) (whF n m (s 9) (s 10) (s 17) (s 22) sg h (m + 1)) 7) (i + 1)).1))), (6, .int (nI ((lkF (fun t => moF (dzM n (s 9) (s 10) (s 17) h q t) (whF n m (s 9) (s 10) (s 17) (s 22) sg h (m + 1)) 7) i).2))), (7, .int (nI (i + 1))), (8, .int (nI (moF (dzM n (s 9) (s 10) (s 17) h q (i + 1)) (whF n m (s 9) (s 10) (s 17) (s 22) sg h (m + 1)) 7)))] dX12_lookOf_62 (by decide) rfl rfl rfl ?_
          refine J_iload dX12_lookOf_64 rfl ?_
          refine J_iload dX12_lookOf_66 rfl ?_
          refine J_cSi [.int (nI (moF (dzM n (s 9) (s 10) (s 17) h q (i + 1)) (whF n m (s 9) (s 10) (s 17) (s 22) sg h (m + 1)) 7)), .int (nI ((lkF (fun t => moF (dzM n (s 9) (s 10) (s 17) h q t) (whF n m (s 9) (s 10) (s 17) (s 22) sg h (m + 1)) 7) i).2))] ms_X12_213 (c_X12_lesser (mW G o a (su 23 (su 17 s yb43) yc43)) (moF (dzM n (s 9) (s 10) (s 17) h q (i + 1)) (whF n m (s 9) (s 10) (s 17) (s 22) sg h (m + 1)) 7) ((lkF (fun t => moF (dzM n (s 9) (s 10) (s 17) h q t) (whF n m (s 9) (s 10) (s 17) (s 22) sg h (m + 1)) 7) i).2) (by first | omega | exact Nat.lt_of_le_of_lt (moF_le _ _ 7) (by decide)) (by first | omega | exact Nat.lt_of_le_of_lt (lkF_le (M := (fun t => moF (dzM n (s 9) (s 10) (s 17) h q t) (whF n m (s 9) (s 10) (s 17) (s 22) sg h (m + 1)) 7)) (fun t => moF_le _ _ 7) i) (by decide))) rfl rfl (by decide) (Nat.le_of_ble_eq_true rfl) ⟨Nat.le_refl _, Nat.le_refl _⟩ dX12_lookOf_68 ?_
          refine J_rw (y := nI (min (moF (dzM n (s 9) (s 10) (s 17) h q (i + 1)) (whF n m (s 9) (s 10) (s 17) (s 22) sg h (m + 1)) 7) ((lkF (fun t => moF (dzM n (s 9) (s 10) (s 17) h q t) (whF n m (s 9) (s 10) (s 17) (s 22) sg h (m + 1)) 7) i).2))) rfl ?_
          refine J_istore [(0, .ref o), (1, .int (nI h)), (2, .int (nI q)), (3, .int (nI (whF n m (s 9) (s 10) (s 17) (s 22) sg h (m + 1)))), (4, .int (s 17 h)), (5, .int (nI ((lkF (fun t => moF (dzM n (s 9) (s 10) (s 17) h q t) (whF n m (s 9) (s 10) (s 17) (s 22) sg h (m + 1)) 7) (i + 1)).1))), (6, .int (nI (min (moF (dzM n (s 9) (s 10) (s 17) h q (i + 1)) (whF n m (s 9) (s 10) (s 17) (s 22) sg h (m + 1)) 7) ((lkF (fun t => moF (dzM n (s 9) (s 10) (s 17) h q t) (whF n m (s 9) (s 10) (s 17) (s 22) sg h (m + 1)) 7) i).2)))), (7, .int (nI (i + 1))), (8, .int (nI (moF (dzM n (s 9) (s 10) (s 17) h q (i + 1)) (whF n m (s 9) (s 10) (s 17) (s 22) sg h (m + 1)) 7)))] dX12_lookOf_71 (by decide) rfl rfl rfl ?_
          refine J_iincN [(0, .ref o), (1, .int (nI h)), (2, .int (nI q)), (3, .int (nI (whF n m (s 9) (s 10) (s 17) (s 22) sg h (m + 1)))), (4, .int (s 17 h)), (5, .int (nI ((lkF (fun t => moF (dzM n (s 9) (s 10) (s 17) h q t) (whF n m (s 9) (s 10) (s 17) (s 22) sg h (m + 1)) 7) (i + 1)).1))), (6, .int (nI (min (moF (dzM n (s 9) (s 10) (s 17) h q (i + 1)) (whF n m (s 9) (s 10) (s 17) (s 22) sg h (m + 1)) 7) ((lkF (fun t => moF (dzM n (s 9) (s 10) (s 17) h q t) (whF n m (s 9) (s 10) (s 17) (s 22) sg h (m + 1)) 7) i).2)))), (7, .int (nI (i + 1 + 1))), (8, .int (nI (moF (dzM n (s 9) (s 10) (s 17) h q (i + 1)) (whF n m (s 9) (s 10) (s 17) (s 22) sg h (m + 1)) 7)))] dX12_lookOf_73 rfl (by decide) rfl rfl rfl ?_
          refine J_goto 30 dX12_lookOf_76 (by decide) ?_
          refine J_lv [0, 1, 2, 3, 4, 5, 6, 7] rfl ?_
          exact ih30 (i + 1) yb43 yc43 (by omega) (by omega) (fun x => (hy43 x).trans (hyb x)) _ _ _ rfl rfl rfl
        refine J_icmp_geN 60 (by have := moF_le (dzM n (s 9) (s 10) (s 17) h q (i + 1)) (whF n m (s 9) (s 10) (s 17) (s 22) sg h (m + 1)) 7; omega) (by have := lkF_le (M := (fun t => moF (dzM n (s 9) (s 10) (s 17) h q t) (whF n m (s 9) (s 10) (s 17) (s 22) sg h (m + 1)) 7)) (fun t => moF_le _ _ 7) i; omega) dX12_lookOf_52 (by decide) (fun kcz3 => ?_) (fun kcz3 => ?_)
        · refine J_iload dX12_lookOf_60 rfl ?_
          exact K62_1 _ (by simp [lkF, kcz1, kcz3])
        · refine J_iload dX12_lookOf_55 rfl ?_
          refine J_goto 62 dX12_lookOf_57 (by decide) ?_
          exact K62_1 _ (by simp [lkF, kcz1, kcz3])
  exact L30 24 0 yb22 yc22 (by omega) (by omega) hy22 _ _ _ rfl rfl rfl
theorem c_X12_lookOf {G : GT} (o : Nat) (a : Nat → Nat) (s : Nat → Nat → Int32) (n : Nat) (hn : s 8 0 = nI n) (hn8 : n ≤ 8) (m : Nat) (hm : s 8 1 = nI m) (hm6 : m ≤ 6) (sg : Nat) (hsg : s 21 0 = nI sg) (hsg8 : sg ≤ 8) (hSg : ∀ k, k < sg → ∃ t, t < 24 ∧ s 22 (3 * k) = nI t) (h q : Nat) (hh : h < 8) (hq6 : q < 6) : Ct G yX12_lookOf cX12_lookOf 9 (some .int) 0 0 6 [.ref o, .int (nI h), .int (nI q)] (mW G o a s) (fun v w => ∃ yc : Nat → Int32, v = some (.int (nI (lkF (fun t => moF (dzM n (s 9) (s 10) (s 17) h q t) (whF n m (s 9) (s 10) (s 17) (s 22) sg h (m + 1)) 7) 23).1)) ∧ w = mW G o a (su 23 s yc)) := Ct.of rfl (Nat.le_of_ble_eq_true rfl) (j_X12_lookOf o a s n hn hn8 m hm hm6 sg hsg hsg8 hSg h q hh hq6 (fun v_ w_ yc h1 h2 => ⟨yc, by rw [h1], h2⟩))
