def suW (V : Nat → Int32) (q : Nat) (d : Int32) : Int32 := smI (fun k => if tb d (nI k) = true then V (7 * q + k) else nI 0) 7
theorem suW_nI {V : Nat → Int32} {q d : Nat} (hd : d < 128) : suW V q (nI d) = valM V q d := smI_congr (fun k hk => by rw [tb_nI (by omega) (by omega)])
theorem tb_c : ∀ d, d < 128 → ∀ k, k < 7 → tb (nI d ^^^ (-1)) (nI k) = (127 - d).testBit k := by decide +kernel
theorem suW_c {V : Nat → Int32} {q d : Nat} (hd : d < 128) : suW V q (nI d ^^^ (-1)) = valM V q (127 - d) := smI_congr (fun k hk => by rw [tb_c d hd k hk])
theorem bit_c : ∀ d, d < 128 → ∀ k, k < 7 → (127 - d).testBit k = !d.testBit k := by decide +kernel
theorem bit_127 : ∀ k, k < 7 → (127 : Nat).testBit k = true := by decide
theorem smI_sub (f g : Nat → Int32) : ∀ n, smI f n - smI g n = smI (fun k => f k - g k) n
  | 0 => by show nI 0 - nI 0 = nI 0; decide
  | n + 1 => by
    rw [smI, smI, smI, ← smI_sub f g n]
    simp only [Int32.sub_eq_add_neg, Int32.neg_add]
    rw [Int32.add_assoc, Int32.add_assoc]
    congr 1
    rw [← Int32.add_assoc, Int32.add_comm (f n), Int32.add_assoc]
theorem val_c {V : Nat → Int32} {q d : Nat} (hd : d < 128) : valM V q 127 - valM V q d = valM V q (127 - d) := by
  unfold valM
  rw [smI_sub]
  refine smI_congr (fun k hk => ?_)
  show (if (127 : Nat).testBit k = true then V (7 * q + k) else nI 0) - (if d.testBit k = true then V (7 * q + k) else nI 0) = _
  rw [bit_c d hd k hk, bit_127 k hk, if_pos rfl]
  cases d.testBit k with
  | true => rw [if_pos rfl, Int32.sub_self]; rfl
  | false => rw [if_neg (by decide), nI0e, Int32.sub_zero]; rfl
theorem val_c2 {V : Nat → Int32} {q d : Nat} (hd : d < 128) : valM V q 127 - valM V q (127 - d) = valM V q d := by
  rw [val_c (by omega), show 127 - (127 - d) = d by omega]
theorem su70_4 {j : Nat} {s : St} {a b c d : Nat → Int32} : su 62 (su 44 (su 43 (su 42 s a) b) c) d (70 + j) = s (70 + j) := by rw [su_ne (by omega), su_ne (by omega), su_ne (by omega), su_ne (by omega)]
theorem le_nlt {x y : Int32} : y ≤ x ↔ ¬ x < y := by rw [fa_le, fa_lt]; omega
def fdC (fo z f i : Int32) : Nat := if z = -1 then 1 else if fo = f then (if rngI i z = true then 0 else 2) else 3
def hiC (z : Nat) (f k : Int32) : Bool := decide (0 ≤ k) && (!decide (nI z < k) && (decide (0 ≤ f) && !decide (nI z - k < f)))
theorem inI8 (h : Int32) : inI h (-1) (nI 7) = (decide (h = -1) || rng h 8) := by
  cases hx : inI h (-1) (nI 7) with
  | true =>
    rcases i15_yes (hi := 7) (by decide) hx with e | ⟨j, hj, e⟩
    · rw [e]; rfl
    · rw [e, rng_of hj (by decide), Bool.or_true]
  | false =>
    have h1 : ¬ h = -1 := fun e => by rw [e] at hx; exact absurd hx (by decide)
    rw [decide_eq_false h1, Bool.false_or]
    rcases rng_cases h (n := 8) (by decide) with h3 | ⟨j, hj, e⟩
    · exact h3.symm
    · rw [e] at hx
      exact absurd ((show ∀ j, j < 8 → inI (nI j) (-1) (nI 7) = true by decide) j hj) (by rw [hx]; decide)
def CSr (sg : Nat) (Sg : Nat → Int32) (s : St) : Prop := ∀ k, k < sg → s 42 k = Sg (3 * k) ∧ s 43 k = Sg (3 * k + 1) ∧ s 44 k = Sg (3 * k + 2) ∧ ∃ t, t < 24 ∧ Sg (3 * k) = nI t
def SgOk (σ s : St) : Prop := s 62 0 = nI (sgn σ) ∧ ∀ k, k < sgn σ → s 42 k = σ 22 (3 * k) ∧ s 43 k = σ 22 (3 * k + 1) ∧ s 44 k = σ 22 (3 * k + 2)
theorem all_s {P : Nat → Bool} {i : Nat} (h : allB P i = true) (h2 : P i = true) : allB P (i + 1) = true := allB_iff.mpr (fun k hk => by
  rcases Nat.lt_or_ge k i with q | q
  · exact allB_iff.mp h k q
  · rw [show k = i by omega]; exact h2)
theorem all_no {P : Nat → Bool} {n k : Nat} (hk : k < n) (h : P k = false) : allB P n = false := by
  cases hx : allB P n with
  | false => rfl
  | true => have := allB_iff.mp hx k hk; rw [h] at this; cases this
theorem sgo_add {τ s : St} (h : SgOk τ s) (hL : LI τ) {a b c : Int32} (hn : ¬ sgn τ = 8) : SgOk (su 22 (su 21 τ (fun _ => nI (sgn τ + 1))) (upd (upd (upd (τ 22) (3 * sgn τ) a) (3 * sgn τ + 1) b) (3 * sgn τ + 2) c)) (su 62 (su 44 (su 43 (su 42 s (upd (s 42) (sgn τ) a)) (upd (s 43) (sgn τ) b)) (upd (s 44) (sgn τ) c)) (fun _ => nI (sgn τ + 1))) := by
  have h8 := hL.sg.2.1
  have e : sgn (su 22 (su 21 τ (fun _ => nI (sgn τ + 1))) (upd (upd (upd (τ 22) (3 * sgn τ) a) (3 * sgn τ + 1) b) (3 * sgn τ + 2) c)) = sgn τ + 1 := nI_clamp (by omega)
  refine ⟨by rw [e]; rfl, fun k hk => ?_⟩
  rw [e] at hk
  show upd (s 42) (sgn τ) a k = upd (upd (upd (τ 22) (3 * sgn τ) a) (3 * sgn τ + 1) b) (3 * sgn τ + 2) c (3 * k) ∧ upd (s 43) (sgn τ) b k = upd (upd (upd (τ 22) (3 * sgn τ) a) (3 * sgn τ + 1) b) (3 * sgn τ + 2) c (3 * k + 1) ∧ upd (s 44) (sgn τ) c k = upd (upd (upd (τ 22) (3 * sgn τ) a) (3 * sgn τ + 1) b) (3 * sgn τ + 2) c (3 * k + 2)
  by_cases hkr : k = sgn τ
  · rw [hkr]
    refine ⟨?_, ?_, ?_⟩
    · rw [pk_us, up_ne (by omega), up_ne (by omega), pk_us]
    · rw [pk_us, up_ne (by omega), pk_us]
    · rw [pk_us, pk_us]
  · rw [up_ne hkr, up_ne hkr, up_ne hkr, up_ne (by omega), up_ne (by omega), up_ne (by omega), up_ne (by omega), up_ne (by omega), up_ne (by omega), up_ne (by omega), up_ne (by omega), up_ne (by omega)]
    exact h.2 k (by omega)
def lsC (b : Nat) : Int32 := if fa_first (fun k => b.testBit k) 8 < 8 then nI (fa_first (fun k => b.testBit k) 8) else -1
theorem ls_s {b i : Nat} (h : ∀ k, k < i → b.testBit k = false) (h2 : b.testBit i = false) : ∀ k, k < i + 1 → b.testBit k = false := fun k hk => by
  rcases Nat.lt_or_ge k i with q | q
  · exact h k q
  · rw [show k = i by omega]; exact h2
theorem ls_hit {b i : Nat} (hi : i < 8) (h : ∀ k, k < i → b.testBit k = false) (h2 : b.testBit i = true) : nI i = lsC b := by
  have e : fa_first (fun k => b.testBit k) 8 = i := by
    rcases Nat.lt_trichotomy (fa_first (fun k => b.testBit k) 8) i with q | q | q
    · have h3 : b.testBit (fa_first (fun k => b.testBit k) 8) = true := fa_first_yes (fun k => b.testBit k) 8 (by omega)
      rw [h _ q] at h3; cases h3
    · exact q
    · have h3 : b.testBit i = false := fa_first_no (fun k => b.testBit k) 8 i q
      rw [h2] at h3; cases h3
  unfold lsC; rw [e, if_pos hi]
theorem ls_none {b : Nat} (h : ∀ k, k < 8 → b.testBit k = false) : -1 = lsC b := by
  unfold lsC
  rw [if_neg]
  intro q
  have h3 : b.testBit (fa_first (fun k => b.testBit k) 8) = true := fa_first_yes (fun k => b.testBit k) 8 q
  rw [h _ q] at h3; cases h3
def chC (vc : Nat) : Nat → Int64
  | 0 => 1
  | k + 1 => chC vc k * (nI vc - nI k).toInt64 / (nI (k + 1)).toInt64
def pwC (b : Nat) : Nat → Int64
  | 0 => 1
  | k + 1 => pwC b k * (nI b).toInt64
def hvF (a b : Int64) : Nat → Int64 × Int64
  | 0 => (a, b)
  | f + 1 => if lg_cmp (a &&& 1) 0 = 0 then hvF (a >>> ((nI 1).toInt64 &&& 63)) (b >>> ((nI 1).toInt64 &&& 63)) f else (a, b)
theorem hv_ev {a b : Int64} {n i : Nat} (h : i < n) (h2 : lg_cmp (a &&& 1) 0 = 0) : hvF a b (n - i) = hvF (a >>> ((nI 1).toInt64 &&& 63)) (b >>> ((nI 1).toInt64 &&& 63)) (n - (i + 1)) := by
  obtain ⟨f, hf⟩ : ∃ f, n - i = f + 1 := ⟨n - i - 1, by omega⟩
  rw [hf, hvF, if_pos h2, show n - (i + 1) = f by omega]
theorem hv_odd {a b : Int64} {f : Nat} (h2 : ¬ lg_cmp (a &&& 1) 0 = 0) : hvF a b f = (a, b) := by
  cases f with
  | zero => rfl
  | succ f => rw [hvF, if_neg h2]
theorem sub_neg {a b : Nat} (h : a < b) (hb : b < 10) : nI a - nI b ≤ nI 0 := (show ∀ b, b < 10 → ∀ a, a < b → nI a - nI b ≤ nI 0 by decide +kernel) b hb a h
theorem hv_le : ∀ c, c < 17 → ∀ vc, vc < 9 → ∀ lf, lf < 9 → lf ≤ vc → (hvF (chC vc lf * pwC (16 - c) lf * pwC c (vc - lf)) (pwC 16 vc) (4 * vc)).1 = mrA c vc lf 0 ∧ (hvF (chC vc lf * pwC (16 - c) lf * pwC c (vc - lf)) (pwC 16 vc) (4 * vc)).2 = mrA c vc lf 1 := by decide +kernel
theorem hv_gt : ∀ c, c < 17 → ∀ vc, vc < 9 → ∀ lf, lf < 9 → vc < lf → (hvF (chC vc lf * pwC (16 - c) lf * 1) (pwC 16 vc) (4 * vc)).1 = mrA c vc lf 0 ∧ (hvF (chC vc lf * pwC (16 - c) lf * 1) (pwC 16 vc) (4 * vc)).2 = mrA c vc lf 1 := by decide +kernel

set_option maxRecDepth 100000 in
set_option maxHeartbeats 1000000 in
theorem j_X10_sumOf {G : GT} (r : Nat → Nat) (s : St) (l : Nat → Int64) (Vv : Nat → Int32) (hV : ∀ j, j < 42 → s 41 j = Vv j) (q : Nat) (hq6 : q < 6) (d : Int32) {Q : Option Value → va_W → Prop} (hq : ∀ v_ : Int32, v_ = suW Vv q d → Q (some (.int v_)) (cW G r s l)) : J G "sumOf" RX10 cX10_sumOf 6 (some .int) 0 0 1 Q 0 0 0 [(0, .ref (r 7)), (1, .int (nI q)), (2, .int d)] [] (cW G r s l) := by
  refine J_iconst (v := nI 0) dX10_sumOf_0 (by decide) ?_
  refine J_istore_n [(0, .ref (r 7)), (1, .int (nI q)), (2, .int d), (3, .int (nI 0))] dX10_sumOf_1 rfl (by decide) rfl rfl rfl ?_
  refine J_iconst (v := nI 0) dX10_sumOf_2 (by decide) ?_
  refine J_istore [(0, .ref (r 7)), (1, .int (nI q)), (2, .int d), (3, .int (nI 0)), (4, .int (nI 0))] dX10_sumOf_3 (by decide) rfl rfl rfl ?_
  have L5 : ∀ (f i : Nat), 7 - i < f → i ≤ 7 → ∀ (x3 : Int32) (x4 : Int32), x3 = smI (fun k => if tb d (nI k) = true then Vv (7 * q + k) else nI 0) i → x4 = nI i → J G "sumOf" RX10 cX10_sumOf 6 (some .int) 0 0 1 Q 0 0 5 [(0, .ref (r 7)), (1, .int (nI q)), (2, .int d), (3, .int x3), (4, .int x4)] [] (cW G r s l) := by
    intro f
    induction f with
    | zero => intro i h; exact absurd h (Nat.not_lt_zero _)
    | succ f ih5 =>
      intro i hf5 hle5  x3 x4 e3 e4
      subst e3
      subst e4
      refine J_iload dX10_sumOf_5 rfl ?_
      refine J_bipush (v := nI 7) dX10_sumOf_7 (by decide) ?_
      refine J_icmp_geN 59 (by omega) (by omega) dX10_sumOf_9 (by decide) (fun kcz1 => ?_) (fun kcz1 => ?_)
      · refine J_iload_n dX10_sumOf_59 rfl rfl ?_
        exact J_iret dX10_sumOf_60 rfl rfl rfl (hq _ (by obtain rfl : i = 7 := (by omega); rfl))
      · refine J_iload_n dX10_sumOf_12 rfl rfl ?_
        refine J_bipush (v := nI 7) dX10_sumOf_13 (by decide) ?_
        refine J_imulN dX10_sumOf_15 ?_
        refine J_iload dX10_sumOf_16 rfl ?_
        refine J_iaddN dX10_sumOf_18 ?_
        refine J_istore [(0, .ref (r 7)), (1, .int (nI q)), (2, .int d), (3, .int (smI (fun k => if tb d (nI k) = true then Vv (7 * q + k) else nI 0) i)), (4, .int (nI i)), (5, .int (nI (q * 7 + i)))] dX10_sumOf_19 (by decide) rfl rfl rfl ?_
        refine J_iload_n dX10_sumOf_21 rfl rfl ?_
        refine J_iload dX10_sumOf_22 rfl ?_
        refine J_cNi [.int d, .int (nI i)] mn_X10_29 (c_X11_hasBit (cW G r s l) d (nI i)) rfl rfl (by decide) (Nat.le_of_ble_eq_true rfl) ⟨Nat.le_refl _, Nat.le_refl _⟩ dX10_sumOf_24 ?_
        refine J_if_eqB 53 dX10_sumOf_27 (by decide) (fun kcz2 => ?_) (fun kcz2 => ?_)
        · refine J_iincN [(0, .ref (r 7)), (1, .int (nI q)), (2, .int d), (3, .int (smI (fun k => if tb d (nI k) = true then Vv (7 * q + k) else nI 0) i)), (4, .int (nI (i + 1))), (5, .int (nI (q * 7 + i)))] dX10_sumOf_53 rfl (by decide) rfl rfl rfl ?_
          refine J_goto 5 dX10_sumOf_56 (by decide) ?_
          refine J_lv [0, 1, 2, 3, 4] rfl ?_
          exact ih5 (i + 1) (by omega) (by omega)  _ _ (by simp [smI, nI0e, kcz1, kcz2]) rfl
        · refine J_iload dX10_sumOf_30 rfl ?_
          refine J_aload_n dX10_sumOf_32 rfl rfl ?_
          refine Cg_7_0 fr_X10_9_9 dX10_sumOf_33 ?_
          refine Cn_41 dX10_sumOf_36 ?_
          refine J_cNi [.int (nI (q * 7 + i)), .int (nI 42)] mn_X10_21 (c_X11_isBelowN (cW G r s l) (nI (q * 7 + i)) 42) rfl rfl (by decide) (Nat.le_of_ble_eq_true rfl) ⟨Nat.le_refl _, Nat.le_refl _⟩ dX10_sumOf_37 ?_
          refine J_if_eqB 53 dX10_sumOf_40 (by decide) (fun c => absurd c (by rw [(show rng (nI (q * 7 + i)) 42 = true from rng_of (by omega) (by decide))]; decide)) (fun _ => ?_)
          refine J_iload_n dX10_sumOf_43 rfl rfl ?_
          refine J_aload_n dX10_sumOf_44 rfl rfl ?_
          refine Cg_7_0 fr_X10_9_9 dX10_sumOf_45 ?_
          refine J_iload dX10_sumOf_48 rfl ?_
          refine Cl_41 (s := s) (s 41) rfl (q * 7 + i) rfl (by omega) dX10_sumOf_50 ?_
          refine J_rw (y := Vv (7 * q + i)) (by rw [hV _ (by omega), Nat.mul_comm]) ?_
          refine J_iadd dX10_sumOf_51 ?_
          refine J_istore_n [(0, .ref (r 7)), (1, .int (nI q)), (2, .int d), (3, .int ((smI (fun k => if tb d (nI k) = true then Vv (7 * q + k) else nI 0) i) + (Vv (7 * q + i)))), (4, .int (nI i)), (5, .int (nI (q * 7 + i)))] dX10_sumOf_52 rfl (by decide) rfl rfl rfl ?_
          refine J_iincN [(0, .ref (r 7)), (1, .int (nI q)), (2, .int d), (3, .int ((smI (fun k => if tb d (nI k) = true then Vv (7 * q + k) else nI 0) i) + (Vv (7 * q + i)))), (4, .int (nI (i + 1))), (5, .int (nI (q * 7 + i)))] dX10_sumOf_53 rfl (by decide) rfl rfl rfl ?_
          refine J_goto 5 dX10_sumOf_56 (by decide) ?_
          refine J_lv [0, 1, 2, 3, 4] rfl ?_
          exact ih5 (i + 1) (by omega) (by omega)  _ _ (by simp [smI, nI0e, kcz1, kcz2]) rfl
  exact L5 (7 + 1) 0 (by omega) (by omega)  _ _ rfl rfl
theorem c_X10_sumOf {G : GT} (r : Nat → Nat) (s : St) (l : Nat → Int64) (Vv : Nat → Int32) (hV : ∀ j, j < 42 → s 41 j = Vv j) (q : Nat) (hq6 : q < 6) (d : Int32) : Ct G yX10_sumOf cX10_sumOf 6 (some .int) 0 0 1 [.ref (r 7), .int (nI q), .int d] (cW G r s l) (Is (some (.int (suW Vv q d))) (cW G r s l)) := Ct.of rfl (Nat.le_of_ble_eq_true rfl) (j_X10_sumOf r s l Vv hV q hq6 d (fun _ e => by subst e; exact Is.rf _ _))
theorem c_X10_sumOfN {G : GT} (r : Nat → Nat) (s : St) (l : Nat → Int64) (Vv : Nat → Int32) (hV : ∀ j, j < 42 → s 41 j = Vv j) (q : Nat) (hq6 : q < 6) (d : Nat) (hd : d < 128) : Ct G yX10_sumOf cX10_sumOf 6 (some .int) 0 0 1 [.ref (r 7), .int (nI q), .int (nI d)] (cW G r s l) (Is (some (.int (valM Vv q d))) (cW G r s l)) := by
  rw [← suW_nI hd]; exact c_X10_sumOf r s l Vv hV q hq6 (nI d)
set_option maxRecDepth 100000 in
set_option maxHeartbeats 1000000 in
theorem j_X10_divide {G : GT} (r : Nat → Nat) (s : St) (l : Nat → Int64) (Vv : Nat → Int32) (hV : ∀ j, j < 42 → s 41 j = Vv j) (q1 q2 : Nat) (hq1 : q1 < 6) (hq2 : q2 < 6) {Q : Option Value → va_W → Prop} (hq : ∀ v_ : Int32, v_ = (prF Vv q1 q2 128).1 → Q (some (.int v_)) (cW G r s l)) : J G "divide" RX10 cX10_divide 12 (some .int) 0 0 2 Q 0 0 0 [(0, .ref (r 7)), (1, .int (nI q1)), (2, .int (nI q2))] [] (cW G r s l) := by
  refine J_bipush (v := nI 127) dX10_divide_0 (by decide) ?_
  refine J_istore_n [(0, .ref (r 7)), (1, .int (nI q1)), (2, .int (nI q2)), (3, .int (nI 127))] dX10_divide_2 rfl (by decide) rfl rfl rfl ?_
  refine J_aload_n dX10_divide_3 rfl rfl ?_
  refine J_iload_n dX10_divide_4 rfl rfl ?_
  refine J_iload_n dX10_divide_5 rfl rfl ?_
  refine J_cVi (x := yX12_in) [.int (nI q1), .int (nI 127)] 7 mv_X10_25 (c_X10_sumOfN r s l Vv hV q1 (by omega) 127 (by omega)) cW_7 rfl rfl (by decide) (Nat.le_of_ble_eq_true rfl) ⟨Nat.le_refl _, Nat.le_refl _⟩ dX10_divide_6 ?_
  refine J_istore [(0, .ref (r 7)), (1, .int (nI q1)), (2, .int (nI q2)), (3, .int (nI 127)), (4, .int (valM Vv q1 127))] dX10_divide_9 (by decide) rfl rfl rfl ?_
  refine J_aload_n dX10_divide_11 rfl rfl ?_
  refine J_iload_n dX10_divide_12 rfl rfl ?_
  refine J_iload_n dX10_divide_13 rfl rfl ?_
  refine J_cVi (x := yX12_in) [.int (nI q2), .int (nI 127)] 7 mv_X10_25 (c_X10_sumOfN r s l Vv hV q2 (by omega) 127 (by omega)) cW_7 rfl rfl (by decide) (Nat.le_of_ble_eq_true rfl) ⟨Nat.le_refl _, Nat.le_refl _⟩ dX10_divide_14 ?_
  refine J_istore [(0, .ref (r 7)), (1, .int (nI q1)), (2, .int (nI q2)), (3, .int (nI 127)), (4, .int (valM Vv q1 127)), (5, .int (valM Vv q2 127))] dX10_divide_17 (by decide) rfl rfl rfl ?_
  refine J_iconst (v := -1) dX10_divide_19 (by decide) ?_
  refine J_istore [(0, .ref (r 7)), (1, .int (nI q1)), (2, .int (nI q2)), (3, .int (nI 127)), (4, .int (valM Vv q1 127)), (5, .int (valM Vv q2 127)), (6, .int (-1))] dX10_divide_20 (by decide) rfl rfl rfl ?_
  refine J_iconst (v := -1) dX10_divide_22 (by decide) ?_
  refine J_istore [(0, .ref (r 7)), (1, .int (nI q1)), (2, .int (nI q2)), (3, .int (nI 127)), (4, .int (valM Vv q1 127)), (5, .int (valM Vv q2 127)), (6, .int (-1)), (7, .int (-1))] dX10_divide_23 (by decide) rfl rfl rfl ?_
  refine J_iconst (v := nI 0) dX10_divide_25 (by decide) ?_
  refine J_istore [(0, .ref (r 7)), (1, .int (nI q1)), (2, .int (nI q2)), (3, .int (nI 127)), (4, .int (valM Vv q1 127)), (5, .int (valM Vv q2 127)), (6, .int (-1)), (7, .int (-1)), (8, .int (nI 0))] dX10_divide_26 (by decide) rfl rfl rfl ?_
  have L28 : ∀ (f i : Nat), 128 - i < f → i ≤ 128 → ∀ (x6 : Int32) (x7 : Int32) (x8 : Int32), x6 = (prF Vv q1 q2 i).1 → x7 = (prF Vv q1 q2 i).2 → x8 = nI i → J G "divide" RX10 cX10_divide 12 (some .int) 0 0 2 Q 0 0 28 [(0, .ref (r 7)), (1, .int (nI q1)), (2, .int (nI q2)), (3, .int (nI 127)), (4, .int (valM Vv q1 127)), (5, .int (valM Vv q2 127)), (6, .int x6), (7, .int x7), (8, .int x8)] [] (cW G r s l) := by
    intro f
    induction f with
    | zero => intro i h; exact absurd h (Nat.not_lt_zero _)
    | succ f ih28 =>
      intro i hf28 hle28  x6 x7 x8 e6 e7 e8
      subst e6
      subst e7
      subst e8
      refine J_iload dX10_divide_28 rfl ?_
      refine J_iload_n dX10_divide_30 rfl rfl ?_
      refine J_icmp_gtN 114 (by omega) (by omega) dX10_divide_31 (by decide) (fun kcz1 => ?_) (fun kcz1 => ?_)
      · refine J_iload dX10_divide_114 rfl ?_
        exact J_iret dX10_divide_116 rfl rfl rfl (hq _ (by obtain rfl : i = 128 := (by omega); rfl))
      · refine J_aload_n dX10_divide_34 rfl rfl ?_
        refine J_iload_n dX10_divide_35 rfl rfl ?_
        refine J_iload dX10_divide_36 rfl ?_
        refine J_cVi (x := yX12_in) [.int (nI q1), .int (nI i)] 7 mv_X10_25 (c_X10_sumOfN r s l Vv hV q1 (by omega) i (by omega)) cW_7 rfl rfl (by decide) (Nat.le_of_ble_eq_true rfl) ⟨Nat.le_refl _, Nat.le_refl _⟩ dX10_divide_38 ?_
        refine J_istore [(0, .ref (r 7)), (1, .int (nI q1)), (2, .int (nI q2)), (3, .int (nI 127)), (4, .int (valM Vv q1 127)), (5, .int (valM Vv q2 127)), (6, .int ((prF Vv q1 q2 i).1)), (7, .int ((prF Vv q1 q2 i).2)), (8, .int (nI i)), (9, .int (valM Vv q1 i))] dX10_divide_41 (by decide) rfl rfl rfl ?_
        refine J_iload dX10_divide_43 rfl ?_
        refine J_aload_n dX10_divide_45 rfl rfl ?_
        refine J_iload_n dX10_divide_46 rfl rfl ?_
        refine J_iload dX10_divide_47 rfl ?_
        refine J_cVi (x := yX12_in) [.int (nI q2), .int (nI i)] 7 mv_X10_25 (c_X10_sumOfN r s l Vv hV q2 (by omega) i (by omega)) cW_7 rfl rfl (by decide) (Nat.le_of_ble_eq_true rfl) ⟨Nat.le_refl _, Nat.le_refl _⟩ dX10_divide_49 ?_
        refine J_isub dX10_divide_52 ?_
        refine J_rw (y := valM Vv q2 (127 - i)) (val_c (by omega)) ?_
        refine J_istore [(0, .ref (r 7)), (1, .int (nI q1)), (2, .int (nI q2)), (3, .int (nI 127)), (4, .int (valM Vv q1 127)), (5, .int (valM Vv q2 127)), (6, .int ((prF Vv q1 q2 i).1)), (7, .int ((prF Vv q1 q2 i).2)), (8, .int (nI i)), (9, .int (valM Vv q1 i)), (10, .int (valM Vv q2 (127 - i)))] dX10_divide_53 (by decide) rfl rfl rfl ?_
        refine J_iload dX10_divide_55 rfl ?_
        refine J_iload dX10_divide_57 rfl ?_
        refine J_iload dX10_divide_59 rfl ?_
        refine J_isub dX10_divide_61 ?_
        refine J_rw (y := valM Vv q1 (127 - i)) (val_c (by omega)) ?_
        refine J_icmp_lt 75 dX10_divide_62 (by decide) (fun kcz2 => ?_) (fun kcz2 => ?_)
        · refine J_iconst (v := nI 1) dX10_divide_75 (by decide) ?_
          refine J_goto 80 dX10_divide_76 (by decide) ?_
          refine J_istore [(0, .ref (r 7)), (1, .int (nI q1)), (2, .int (nI q2)), (3, .int (nI 127)), (4, .int (valM Vv q1 127)), (5, .int (valM Vv q2 127)), (6, .int ((prF Vv q1 q2 i).1)), (7, .int ((prF Vv q1 q2 i).2)), (8, .int (nI i)), (9, .int (valM Vv q1 i)), (10, .int (valM Vv q2 (127 - i))), (11, .int (nI 1))] dX10_divide_80 (by decide) rfl rfl rfl ?_
          refine J_iload dX10_divide_82 rfl ?_
          refine J_if_ne 108 dX10_divide_84 (by decide) (fun _ => ?_) (fun c => absurd c (by decide))
          refine J_iincN [(0, .ref (r 7)), (1, .int (nI q1)), (2, .int (nI q2)), (3, .int (nI 127)), (4, .int (valM Vv q1 127)), (5, .int (valM Vv q2 127)), (6, .int ((prF Vv q1 q2 i).1)), (7, .int ((prF Vv q1 q2 i).2)), (8, .int (nI (i + 1))), (9, .int (valM Vv q1 i)), (10, .int (valM Vv q2 (127 - i))), (11, .int (nI 1))] dX10_divide_108 rfl (by decide) rfl rfl rfl ?_
          refine J_goto 28 dX10_divide_111 (by decide) ?_
          refine J_lv [0, 1, 2, 3, 4, 5, 6, 7, 8] rfl ?_
          exact ih28 (i + 1) (by omega) (by omega)  _ _ _ (by simp [prF, prB, kcz1, kcz2]) (by simp [prF, prB, kcz1, kcz2]) rfl
        · refine J_iload dX10_divide_65 rfl ?_
          refine J_iload dX10_divide_67 rfl ?_
          refine J_iload dX10_divide_69 rfl ?_
          refine J_isub dX10_divide_71 ?_
          refine J_rw (y := valM Vv q2 i) (val_c2 (by omega)) ?_
          refine J_icmp_ge 79 dX10_divide_72 (by decide) (fun kcz3 => ?_) (fun kcz3 => ?_)
          · have kb9 := le_nlt.mp kcz3
            refine J_iconst (v := nI 0) dX10_divide_79 (by decide) ?_
            refine J_istore [(0, .ref (r 7)), (1, .int (nI q1)), (2, .int (nI q2)), (3, .int (nI 127)), (4, .int (valM Vv q1 127)), (5, .int (valM Vv q2 127)), (6, .int ((prF Vv q1 q2 i).1)), (7, .int ((prF Vv q1 q2 i).2)), (8, .int (nI i)), (9, .int (valM Vv q1 i)), (10, .int (valM Vv q2 (127 - i))), (11, .int (nI 0))] dX10_divide_80 (by decide) rfl rfl rfl ?_
            refine J_iload dX10_divide_82 rfl ?_
            refine J_if_ne 108 dX10_divide_84 (by decide) (fun c => absurd c (by decide)) (fun _ => ?_)
            refine J_iload dX10_divide_87 rfl ?_
            refine J_iload dX10_divide_89 rfl ?_
            refine J_iadd dX10_divide_91 ?_
            refine J_iload dX10_divide_92 rfl ?_
            refine J_icmp_le 108 dX10_divide_94 (by decide) (fun kcz4 => ?_) (fun kcz4 => ?_)
            · refine J_iincN [(0, .ref (r 7)), (1, .int (nI q1)), (2, .int (nI q2)), (3, .int (nI 127)), (4, .int (valM Vv q1 127)), (5, .int (valM Vv q2 127)), (6, .int ((prF Vv q1 q2 i).1)), (7, .int ((prF Vv q1 q2 i).2)), (8, .int (nI (i + 1))), (9, .int (valM Vv q1 i)), (10, .int (valM Vv q2 (127 - i))), (11, .int (nI 0))] dX10_divide_108 rfl (by decide) rfl rfl rfl ?_
              refine J_goto 28 dX10_divide_111 (by decide) ?_
              refine J_lv [0, 1, 2, 3, 4, 5, 6, 7, 8] rfl ?_
              exact ih28 (i + 1) (by omega) (by omega)  _ _ _ (by simp [prF, prB, kcz1, kcz2, kb9, kcz4]) (by simp [prF, prB, kcz1, kcz2, kb9, kcz4]) rfl
            · refine J_iload dX10_divide_97 rfl ?_
              refine J_istore [(0, .ref (r 7)), (1, .int (nI q1)), (2, .int (nI q2)), (3, .int (nI 127)), (4, .int (valM Vv q1 127)), (5, .int (valM Vv q2 127)), (6, .int (nI i)), (7, .int ((prF Vv q1 q2 i).2)), (8, .int (nI i)), (9, .int (valM Vv q1 i)), (10, .int (valM Vv q2 (127 - i))), (11, .int (nI 0))] dX10_divide_99 (by decide) rfl rfl rfl ?_
              refine J_iload dX10_divide_101 rfl ?_
              refine J_iload dX10_divide_103 rfl ?_
              refine J_iadd dX10_divide_105 ?_
              refine J_istore [(0, .ref (r 7)), (1, .int (nI q1)), (2, .int (nI q2)), (3, .int (nI 127)), (4, .int (valM Vv q1 127)), (5, .int (valM Vv q2 127)), (6, .int (nI i)), (7, .int ((valM Vv q1 i) + (valM Vv q2 (127 - i)))), (8, .int (nI i)), (9, .int (valM Vv q1 i)), (10, .int (valM Vv q2 (127 - i))), (11, .int (nI 0))] dX10_divide_106 (by decide) rfl rfl rfl ?_
              refine J_iincN [(0, .ref (r 7)), (1, .int (nI q1)), (2, .int (nI q2)), (3, .int (nI 127)), (4, .int (valM Vv q1 127)), (5, .int (valM Vv q2 127)), (6, .int (nI i)), (7, .int ((valM Vv q1 i) + (valM Vv q2 (127 - i)))), (8, .int (nI (i + 1))), (9, .int (valM Vv q1 i)), (10, .int (valM Vv q2 (127 - i))), (11, .int (nI 0))] dX10_divide_108 rfl (by decide) rfl rfl rfl ?_
              refine J_goto 28 dX10_divide_111 (by decide) ?_
              refine J_lv [0, 1, 2, 3, 4, 5, 6, 7, 8] rfl ?_
              exact ih28 (i + 1) (by omega) (by omega)  _ _ _ (by simp [prF, prB, kcz1, kcz2, kb9, kcz4]) (by simp [prF, prB, kcz1, kcz2, kb9, kcz4]) rfl
          · have kb9 := Decidable.not_not.mp ((not_congr le_nlt).mp kcz3)
            refine J_iconst (v := nI 1) dX10_divide_75 (by decide) ?_
            refine J_goto 80 dX10_divide_76 (by decide) ?_
            refine J_istore [(0, .ref (r 7)), (1, .int (nI q1)), (2, .int (nI q2)), (3, .int (nI 127)), (4, .int (valM Vv q1 127)), (5, .int (valM Vv q2 127)), (6, .int ((prF Vv q1 q2 i).1)), (7, .int ((prF Vv q1 q2 i).2)), (8, .int (nI i)), (9, .int (valM Vv q1 i)), (10, .int (valM Vv q2 (127 - i))), (11, .int (nI 1))] dX10_divide_80 (by decide) rfl rfl rfl ?_
            refine J_iload dX10_divide_82 rfl ?_
            refine J_if_ne 108 dX10_divide_84 (by decide) (fun _ => ?_) (fun c => absurd c (by decide))
            refine J_iincN [(0, .ref (r 7)), (1, .int (nI q1)), (2, .int (nI q2)), (3, .int (nI 127)), (4, .int (valM Vv q1 127)), (5, .int (valM Vv q2 127)), (6, .int ((prF Vv q1 q2 i).1)), (7, .int ((prF Vv q1 q2 i).2)), (8, .int (nI (i + 1))), (9, .int (valM Vv q1 i)), (10, .int (valM Vv q2 (127 - i))), (11, .int (nI 1))] dX10_divide_108 rfl (by decide) rfl rfl rfl ?_
            refine J_goto 28 dX10_divide_111 (by decide) ?_
            refine J_lv [0, 1, 2, 3, 4, 5, 6, 7, 8] rfl ?_
            exact ih28 (i + 1) (by omega) (by omega)  _ _ _ (by simp [prF, prB, kcz1, kcz2, kb9]) (by simp [prF, prB, kcz1, kcz2, kb9]) rfl
  exact L28 (128 + 1) 0 (by omega) (by omega)  _ _ _ rfl rfl rfl
theorem c_X10_divide {G : GT} (r : Nat → Nat) (s : St) (l : Nat → Int64) (Vv : Nat → Int32) (hV : ∀ j, j < 42 → s 41 j = Vv j) (q1 q2 : Nat) (hq1 : q1 < 6) (hq2 : q2 < 6) : Ct G yX10_divide cX10_divide 12 (some .int) 0 0 2 [.ref (r 7), .int (nI q1), .int (nI q2)] (cW G r s l) (Is (some (.int ((prF Vv q1 q2 128).1))) (cW G r s l)) := Ct.of rfl (Nat.le_of_ble_eq_true rfl) (j_X10_divide r s l Vv hV q1 q2 hq1 hq2 (fun _ e => by subst e; exact Is.rf _ _))
set_option maxRecDepth 100000 in
set_option maxHeartbeats 1000000 in
theorem j_X10_bothHave {G : GT} (r : Nat → Nat) (s : St) (l : Nat → Int64) (Vv : Nat → Int32) (hV : ∀ j, j < 42 → s 41 j = Vv j) (q1 q2 d : Nat) (hq1 : q1 < 6) (hq2 : q2 < 6) (hd : d < 128) {Q : Option Value → va_W → Prop} (hq : ∀ v_ : Int32, v_ = valM Vv q1 d + valM Vv q2 (127 - d) → Q (some (.int v_)) (cW G r s l)) : J G "bothHave" RX10 cX10_bothHave 4 (some .int) 0 0 2 Q 0 0 0 [(0, .ref (r 7)), (1, .int (nI q1)), (2, .int (nI q2)), (3, .int (nI d))] [] (cW G r s l) := by
  refine J_aload_n dX10_bothHave_0 rfl rfl ?_
  refine J_iload_n dX10_bothHave_1 rfl rfl ?_
  refine J_iload_n dX10_bothHave_2 rfl rfl ?_
  refine J_cVi (x := yX12_in) [.int (nI q1), .int (nI d)] 7 mv_X10_25 (c_X10_sumOfN r s l Vv hV q1 (by omega) d (by omega)) cW_7 rfl rfl (by decide) (Nat.le_of_ble_eq_true rfl) ⟨Nat.le_refl _, Nat.le_refl _⟩ dX10_bothHave_3 ?_
  refine J_aload_n dX10_bothHave_6 rfl rfl ?_
  refine J_iload_n dX10_bothHave_7 rfl rfl ?_
  refine J_iload_n dX10_bothHave_8 rfl rfl ?_
  refine J_iconst (v := -1) dX10_bothHave_9 (by decide) ?_
  refine J_ixor dX10_bothHave_10 ?_
  refine J_cVi (x := yX12_in) [.int (nI q2), .int ((nI d) ^^^ (-1))] 7 mv_X10_25 (c_X10_sumOf r s l Vv hV q2 (by omega) ((nI d) ^^^ (-1))) cW_7 rfl rfl (by decide) (Nat.le_of_ble_eq_true rfl) ⟨Nat.le_refl _, Nat.le_refl _⟩ dX10_bothHave_11 ?_
  refine J_rw (y := valM Vv q2 (127 - d)) (suW_c hd) ?_
  refine J_iadd dX10_bothHave_14 ?_
  exact J_iret dX10_bothHave_15 rfl rfl rfl (hq _ (by simp []))
theorem c_X10_bothHave {G : GT} (r : Nat → Nat) (s : St) (l : Nat → Int64) (Vv : Nat → Int32) (hV : ∀ j, j < 42 → s 41 j = Vv j) (q1 q2 d : Nat) (hq1 : q1 < 6) (hq2 : q2 < 6) (hd : d < 128) : Ct G yX10_bothHave cX10_bothHave 4 (some .int) 0 0 2 [.ref (r 7), .int (nI q1), .int (nI q2), .int (nI d)] (cW G r s l) (Is (some (.int (valM Vv q1 d + valM Vv q2 (127 - d)))) (cW G r s l)) := Ct.of rfl (Nat.le_of_ble_eq_true rfl) (j_X10_bothHave r s l Vv hV q1 q2 d hq1 hq2 hd (fun _ e => by subst e; exact Is.rf _ _))
set_option maxRecDepth 100000 in
set_option maxHeartbeats 1000000 in
theorem j_X10_change {G : GT} (r : Nat → Nat) (s : St) (l : Nat → Int64) (q d : Nat) (hq6 : q < 6) (hd7 : d < 7) (v : Int32) {Q : Option Value → va_W → Prop} (hq : ∀ v_ : Int32, v_ = s 41 (q * 7 + d) → Q (some (.int v_)) (cW G r (su 41 s (upd (s 41) (q * 7 + d) v)) l)) : J G "change" RX10 cX10_change 6 (some .int) 0 0 1 Q 0 0 0 [(0, .ref (r 7)), (1, .int (nI q)), (2, .int (nI d)), (3, .int v)] [] (cW G r s l) := by
  refine J_iload_n dX10_change_0 rfl rfl ?_
  refine J_bipush (v := nI 7) dX10_change_1 (by decide) ?_
  refine J_imulN dX10_change_3 ?_
  refine J_iload_n dX10_change_4 rfl rfl ?_
  refine J_iaddN dX10_change_5 ?_
  refine J_istore [(0, .ref (r 7)), (1, .int (nI q)), (2, .int (nI d)), (3, .int v), (4, .int (nI (q * 7 + d)))] dX10_change_6 (by decide) rfl rfl rfl ?_
  refine J_iload dX10_change_8 rfl ?_
  refine J_aload_n dX10_change_10 rfl rfl ?_
  refine Cg_7_0 fr_X10_9_9 dX10_change_11 ?_
  refine Cn_41 dX10_change_14 ?_
  refine J_cNi [.int (nI (q * 7 + d)), .int (nI 42)] mn_X10_21 (c_X11_isBelowN (cW G r s l) (nI (q * 7 + d)) 42) rfl rfl (by decide) (Nat.le_of_ble_eq_true rfl) ⟨Nat.le_refl _, Nat.le_refl _⟩ dX10_change_15 ?_
  refine J_if_neB 24 dX10_change_18 (by decide) (fun _ => ?_) (fun c => absurd c (by rw [(show rng (nI (q * 7 + d)) 42 = true from rng_of (by omega) (by decide))]; decide))
  refine J_aload_n dX10_change_24 rfl rfl ?_
  refine Cg_7_0 fr_X10_9_9 dX10_change_25 ?_
  refine J_iload dX10_change_28 rfl ?_
  refine Cl_41 (s := s) (s 41) rfl (q * 7 + d) rfl (by omega) dX10_change_30 ?_
  refine J_istore [(0, .ref (r 7)), (1, .int (nI q)), (2, .int (nI d)), (3, .int v), (4, .int (nI (q * 7 + d))), (5, .int (s 41 (q * 7 + d)))] dX10_change_31 (by decide) rfl rfl rfl ?_
  refine J_aload_n dX10_change_33 rfl rfl ?_
  refine Cg_7_0 fr_X10_9_9 dX10_change_34 ?_
  refine J_iload dX10_change_37 rfl ?_
  refine J_iload_n dX10_change_39 rfl rfl ?_
  refine Cs_41 (s := s) (s 41) rfl (q * 7 + d) rfl (by omega) dX10_change_40 ?_
  refine J_iload dX10_change_41 rfl ?_
  exact J_iret dX10_change_43 rfl rfl rfl (hq _ rfl)
theorem c_X10_change {G : GT} (r : Nat → Nat) (s : St) (l : Nat → Int64) (q d : Nat) (hq6 : q < 6) (hd7 : d < 7) (v : Int32) : Ct G yX10_change cX10_change 6 (some .int) 0 0 1 [.ref (r 7), .int (nI q), .int (nI d), .int v] (cW G r s l) (Is (some (.int (s 41 (q * 7 + d)))) (cW G r (su 41 s (upd (s 41) (q * 7 + d) v)) l)) := Ct.of rfl (Nat.le_of_ble_eq_true rfl) (j_X10_change r s l q d hq6 hd7 v (fun _ e => by subst e; exact Is.rf _ _))
set_option maxRecDepth 100000 in
set_option maxHeartbeats 1000000 in
theorem j_X8_isLost {G : GT} (r : Nat → Nat) (s : St) (l : Nat → Int64) (j : Nat) (hj : j < 4)  {Q : Option Value → va_W → Prop} (hq : ∀ v_ : Int32, v_ = bI (decide (s 68 j = -1)) → Q (some (.int v_)) (cW G r s l)) : J G "isLost" RX8 cX8_isLost 1 (some .boolean) 0 0 0 Q 0 0 0 [(0, .ref (r (11 + j)))] [] (cW G r s l) := by
  refine J_aload_n dX8_isLost_0 rfl rfl ?_
  refine Cg_sh_2 (s := s) (by omega) fr_X8_19_7 (s 68 j) rfl dX8_isLost_1 ?_
  refine J_iconst (v := -1) dX8_isLost_4 (by decide) ?_
  refine J_icmp_ne 12 dX8_isLost_5 (by decide) (fun kcz1 => ?_) (fun kcz1 => ?_)
  · refine J_iconst (v := nI 0) dX8_isLost_12 (by decide) ?_
    exact J_zretB (b := false) dX8_isLost_13 rfl rfl rfl (hq _ (by show bI false = bI _; simp [kcz1]))
  · refine J_iconst (v := nI 1) dX8_isLost_8 (by decide) ?_
    refine J_goto 13 dX8_isLost_9 (by decide) ?_
    exact J_zretB (b := true) dX8_isLost_13 rfl rfl rfl (hq _ (by show bI true = bI _; simp [kcz1]))
theorem c_X8_isLost {G : GT} (r : Nat → Nat) (s : St) (l : Nat → Int64) (j : Nat) (hj : j < 4)  : Ct G yX8_isLost cX8_isLost 1 (some .boolean) 0 0 0 [.ref (r (11 + j))] (cW G r s l) (Is (some (.int (bI (decide (s 68 j = -1))))) (cW G r s l)) := Ct.of rfl (Nat.le_of_ble_eq_true rfl) (j_X8_isLost r s l j hj (fun _ e => by subst e; exact Is.rf _ _))
theorem c_fill_sh {G : GT} (r : Nat → Nat) (s : St) (l : Nat → Int64) (j : Nat) (hj : j < 4) (v : Int32) : Ct G yJ7_fill_53178 cJ7_fill_53178 4 none 0 0 0 [.ref (r (15 + j)), .int v] (cW G r s l) (Is none (cW G r (su (70 + j) s (fun _ => v)) l)) := by
  have h := c_fill (G := G) (cW G r s l) (15 + j) (r (15 + j)) 60 _ v (cW_si hj) (by decide)
  rw [cW_set3 hj] at h; exact h
set_option maxRecDepth 100000 in
set_option maxHeartbeats 1000000 in
theorem j_X8_renew0 {G : GT} (r : Nat → Nat) (s : St) (l : Nat → Int64) (f n : Int32) {Q : Option Value → va_W → Prop} (hq : Q none (cW G r (su 70 (su 68 (su 67 s (upd (s 67) 0 f)) (upd (s 68) 0 n)) (fun _ => nI 0)) l)) : J G "renew" RX8 cX8_renew 3 none 0 0 1 Q 0 0 0 [(0, .ref (r (11 + 0))), (1, .int f), (2, .int n)] [] (cW G r s l) := by
  refine J_aload_n dX8_renew_0 rfl rfl ?_
  refine Cg_sh_0 (by omega) fr_X8_9_7 dX8_renew_1 ?_
  refine J_iconst (v := nI 0) dX8_renew_4 (by decide) ?_
  refine J_cSv [.ref (r (15 + 0)), .int (nI 0)] ms_X8_22 (c_fill_sh r s l 0 (by decide) (nI 0)) rfl rfl (by decide) (Nat.le_of_ble_eq_true rfl) ⟨Nat.le_refl _, Nat.le_refl _⟩ dX8_renew_5 ?_
  show J G "renew" RX8 cX8_renew 3 none 0 0 1 Q 0 0 8 [(0, .ref (r (11 + 0))), (1, .int f), (2, .int n)] [] (cW G r (su 70 s (fun _ => nI 0)) l)
  refine J_aload_n dX8_renew_8 rfl rfl ?_
  refine J_iload_n dX8_renew_9 rfl rfl ?_
  refine Cp_sh_1 (s := (su 70 s (fun _ => nI 0))) (by omega) fr_X8_15_7 dX8_renew_10 ?_
  refine J_ws (ws2 := (cW G r (su 70 (su 67 s (upd (s 67) 0 f)) (fun _ => nI 0)) l)) (congrArg (fun q_ => cW G r q_ l) (su_sw (k := 67) (l := 70) (by omega))) ?_
  refine J_aload_n dX8_renew_13 rfl rfl ?_
  refine J_iload_n dX8_renew_14 rfl rfl ?_
  refine Cp_sh_2 (s := (su 70 (su 67 s (upd (s 67) 0 f)) (fun _ => nI 0))) (by omega) fr_X8_19_7 dX8_renew_15 ?_
  refine J_ws (ws2 := (cW G r (su 70 (su 68 (su 67 s (upd (s 67) 0 f)) (upd (s 68) 0 n)) (fun _ => nI 0)) l)) (congrArg (fun q_ => cW G r q_ l) (su_sw (k := 68) (l := 70) (by omega))) ?_
  exact J_vret dX8_renew_18 rfl rfl rfl (hq)
theorem c_X8_renew0 {G : GT} (r : Nat → Nat) (s : St) (l : Nat → Int64) (f n : Int32) : Ct G yX8_renew cX8_renew 3 none 0 0 1 [.ref (r (11 + 0)), .int f, .int n] (cW G r s l) (Is none (cW G r (su 70 (su 68 (su 67 s (upd (s 67) 0 f)) (upd (s 68) 0 n)) (fun _ => nI 0)) l)) := Ct.of rfl (Nat.le_of_ble_eq_true rfl) (j_X8_renew0 r s l f n (Is.rf _ _))
set_option maxRecDepth 100000 in
set_option maxHeartbeats 1000000 in
theorem j_X8_renew1 {G : GT} (r : Nat → Nat) (s : St) (l : Nat → Int64) (f n : Int32) {Q : Option Value → va_W → Prop} (hq : Q none (cW G r (su 71 (su 68 (su 67 s (upd (s 67) 1 f)) (upd (s 68) 1 n)) (fun _ => nI 0)) l)) : J G "renew" RX8 cX8_renew 3 none 0 0 1 Q 0 0 0 [(0, .ref (r (11 + 1))), (1, .int f), (2, .int n)] [] (cW G r s l) := by
  refine J_aload_n dX8_renew_0 rfl rfl ?_
  refine Cg_sh_0 (by omega) fr_X8_9_7 dX8_renew_1 ?_
  refine J_iconst (v := nI 0) dX8_renew_4 (by decide) ?_
  refine J_cSv [.ref (r (15 + 1)), .int (nI 0)] ms_X8_22 (c_fill_sh r s l 1 (by decide) (nI 0)) rfl rfl (by decide) (Nat.le_of_ble_eq_true rfl) ⟨Nat.le_refl _, Nat.le_refl _⟩ dX8_renew_5 ?_
  show J G "renew" RX8 cX8_renew 3 none 0 0 1 Q 0 0 8 [(0, .ref (r (11 + 1))), (1, .int f), (2, .int n)] [] (cW G r (su 71 s (fun _ => nI 0)) l)
  refine J_aload_n dX8_renew_8 rfl rfl ?_
  refine J_iload_n dX8_renew_9 rfl rfl ?_
  refine Cp_sh_1 (s := (su 71 s (fun _ => nI 0))) (by omega) fr_X8_15_7 dX8_renew_10 ?_
  refine J_ws (ws2 := (cW G r (su 71 (su 67 s (upd (s 67) 1 f)) (fun _ => nI 0)) l)) (congrArg (fun q_ => cW G r q_ l) (su_sw (k := 67) (l := 71) (by omega))) ?_
  refine J_aload_n dX8_renew_13 rfl rfl ?_
  refine J_iload_n dX8_renew_14 rfl rfl ?_
  refine Cp_sh_2 (s := (su 71 (su 67 s (upd (s 67) 1 f)) (fun _ => nI 0))) (by omega) fr_X8_19_7 dX8_renew_15 ?_
  refine J_ws (ws2 := (cW G r (su 71 (su 68 (su 67 s (upd (s 67) 1 f)) (upd (s 68) 1 n)) (fun _ => nI 0)) l)) (congrArg (fun q_ => cW G r q_ l) (su_sw (k := 68) (l := 71) (by omega))) ?_
  exact J_vret dX8_renew_18 rfl rfl rfl (hq)
theorem c_X8_renew1 {G : GT} (r : Nat → Nat) (s : St) (l : Nat → Int64) (f n : Int32) : Ct G yX8_renew cX8_renew 3 none 0 0 1 [.ref (r (11 + 1)), .int f, .int n] (cW G r s l) (Is none (cW G r (su 71 (su 68 (su 67 s (upd (s 67) 1 f)) (upd (s 68) 1 n)) (fun _ => nI 0)) l)) := Ct.of rfl (Nat.le_of_ble_eq_true rfl) (j_X8_renew1 r s l f n (Is.rf _ _))
set_option maxRecDepth 100000 in
set_option maxHeartbeats 1000000 in
theorem j_X8_renew2 {G : GT} (r : Nat → Nat) (s : St) (l : Nat → Int64) (f n : Int32) {Q : Option Value → va_W → Prop} (hq : Q none (cW G r (su 72 (su 68 (su 67 s (upd (s 67) 2 f)) (upd (s 68) 2 n)) (fun _ => nI 0)) l)) : J G "renew" RX8 cX8_renew 3 none 0 0 1 Q 0 0 0 [(0, .ref (r (11 + 2))), (1, .int f), (2, .int n)] [] (cW G r s l) := by
  refine J_aload_n dX8_renew_0 rfl rfl ?_
  refine Cg_sh_0 (by omega) fr_X8_9_7 dX8_renew_1 ?_
  refine J_iconst (v := nI 0) dX8_renew_4 (by decide) ?_
  refine J_cSv [.ref (r (15 + 2)), .int (nI 0)] ms_X8_22 (c_fill_sh r s l 2 (by decide) (nI 0)) rfl rfl (by decide) (Nat.le_of_ble_eq_true rfl) ⟨Nat.le_refl _, Nat.le_refl _⟩ dX8_renew_5 ?_
  show J G "renew" RX8 cX8_renew 3 none 0 0 1 Q 0 0 8 [(0, .ref (r (11 + 2))), (1, .int f), (2, .int n)] [] (cW G r (su 72 s (fun _ => nI 0)) l)
  refine J_aload_n dX8_renew_8 rfl rfl ?_
  refine J_iload_n dX8_renew_9 rfl rfl ?_
  refine Cp_sh_1 (s := (su 72 s (fun _ => nI 0))) (by omega) fr_X8_15_7 dX8_renew_10 ?_
  refine J_ws (ws2 := (cW G r (su 72 (su 67 s (upd (s 67) 2 f)) (fun _ => nI 0)) l)) (congrArg (fun q_ => cW G r q_ l) (su_sw (k := 67) (l := 72) (by omega))) ?_
  refine J_aload_n dX8_renew_13 rfl rfl ?_
  refine J_iload_n dX8_renew_14 rfl rfl ?_
  refine Cp_sh_2 (s := (su 72 (su 67 s (upd (s 67) 2 f)) (fun _ => nI 0))) (by omega) fr_X8_19_7 dX8_renew_15 ?_
  refine J_ws (ws2 := (cW G r (su 72 (su 68 (su 67 s (upd (s 67) 2 f)) (upd (s 68) 2 n)) (fun _ => nI 0)) l)) (congrArg (fun q_ => cW G r q_ l) (su_sw (k := 68) (l := 72) (by omega))) ?_
  exact J_vret dX8_renew_18 rfl rfl rfl (hq)
theorem c_X8_renew2 {G : GT} (r : Nat → Nat) (s : St) (l : Nat → Int64) (f n : Int32) : Ct G yX8_renew cX8_renew 3 none 0 0 1 [.ref (r (11 + 2)), .int f, .int n] (cW G r s l) (Is none (cW G r (su 72 (su 68 (su 67 s (upd (s 67) 2 f)) (upd (s 68) 2 n)) (fun _ => nI 0)) l)) := Ct.of rfl (Nat.le_of_ble_eq_true rfl) (j_X8_renew2 r s l f n (Is.rf _ _))
set_option maxRecDepth 100000 in
set_option maxHeartbeats 1000000 in
theorem j_X8_renew3 {G : GT} (r : Nat → Nat) (s : St) (l : Nat → Int64) (f n : Int32) {Q : Option Value → va_W → Prop} (hq : Q none (cW G r (su 73 (su 68 (su 67 s (upd (s 67) 3 f)) (upd (s 68) 3 n)) (fun _ => nI 0)) l)) : J G "renew" RX8 cX8_renew 3 none 0 0 1 Q 0 0 0 [(0, .ref (r (11 + 3))), (1, .int f), (2, .int n)] [] (cW G r s l) := by
  refine J_aload_n dX8_renew_0 rfl rfl ?_
  refine Cg_sh_0 (by omega) fr_X8_9_7 dX8_renew_1 ?_
  refine J_iconst (v := nI 0) dX8_renew_4 (by decide) ?_
  refine J_cSv [.ref (r (15 + 3)), .int (nI 0)] ms_X8_22 (c_fill_sh r s l 3 (by decide) (nI 0)) rfl rfl (by decide) (Nat.le_of_ble_eq_true rfl) ⟨Nat.le_refl _, Nat.le_refl _⟩ dX8_renew_5 ?_
  show J G "renew" RX8 cX8_renew 3 none 0 0 1 Q 0 0 8 [(0, .ref (r (11 + 3))), (1, .int f), (2, .int n)] [] (cW G r (su 73 s (fun _ => nI 0)) l)
  refine J_aload_n dX8_renew_8 rfl rfl ?_
  refine J_iload_n dX8_renew_9 rfl rfl ?_
  refine Cp_sh_1 (s := (su 73 s (fun _ => nI 0))) (by omega) fr_X8_15_7 dX8_renew_10 ?_
  refine J_ws (ws2 := (cW G r (su 73 (su 67 s (upd (s 67) 3 f)) (fun _ => nI 0)) l)) (congrArg (fun q_ => cW G r q_ l) (su_sw (k := 67) (l := 73) (by omega))) ?_
  refine J_aload_n dX8_renew_13 rfl rfl ?_
  refine J_iload_n dX8_renew_14 rfl rfl ?_
  refine Cp_sh_2 (s := (su 73 (su 67 s (upd (s 67) 3 f)) (fun _ => nI 0))) (by omega) fr_X8_19_7 dX8_renew_15 ?_
  refine J_ws (ws2 := (cW G r (su 73 (su 68 (su 67 s (upd (s 67) 3 f)) (upd (s 68) 3 n)) (fun _ => nI 0)) l)) (congrArg (fun q_ => cW G r q_ l) (su_sw (k := 68) (l := 73) (by omega))) ?_
  exact J_vret dX8_renew_18 rfl rfl rfl (hq)
theorem c_X8_renew3 {G : GT} (r : Nat → Nat) (s : St) (l : Nat → Int64) (f n : Int32) : Ct G yX8_renew cX8_renew 3 none 0 0 1 [.ref (r (11 + 3)), .int f, .int n] (cW G r s l) (Is none (cW G r (su 73 (su 68 (su 67 s (upd (s 67) 3 f)) (upd (s 68) 3 n)) (fun _ => nI 0)) l)) := Ct.of rfl (Nat.le_of_ble_eq_true rfl) (j_X8_renew3 r s l f n (Is.rf _ _))
set_option maxRecDepth 100000 in
set_option maxHeartbeats 1000000 in
theorem j_X8_findingAt {G : GT} (r : Nat → Nat) (s : St) (l : Nat → Int64) (j : Nat) (hj : j < 4) (f i : Int32) {Q : Option Value → va_W → Prop} (hq : ∀ v_ : Int32, v_ = nI (fdC (s 67 j) (s 68 j) f i) → Q (some (.int v_)) (cW G r s l)) : J G "findingAt" RX8 cX8_findingAt 3 (some .int) 0 0 1 Q 0 0 0 [(0, .ref (r (11 + j))), (1, .int f), (2, .int i)] [] (cW G r s l) := by
  refine J_aload_n dX8_findingAt_0 rfl rfl ?_
  refine J_cVi (x := yX12_in) [] (11 + j) mv_X8_28 (c_X8_isLost r s l j (by omega)) (cW_sh (by omega)) rfl rfl (by decide) (Nat.le_of_ble_eq_true rfl) ⟨Nat.le_refl _, Nat.le_refl _⟩ dX8_findingAt_1 ?_
  refine J_if_eqB 9 dX8_findingAt_4 (by decide) (fun kcz1 => ?_) (fun kcz1 => ?_)
  · refine J_aload_n dX8_findingAt_9 rfl rfl ?_
    refine Cg_sh_1 (s := s) (by omega) fr_X8_15_7 (s 67 j) rfl dX8_findingAt_10 ?_
    refine J_iload_n dX8_findingAt_13 rfl rfl ?_
    refine J_icmp_eq 19 dX8_findingAt_14 (by decide) (fun kcz2 => ?_) (fun kcz2 => ?_)
    · refine J_iload_n dX8_findingAt_19 rfl rfl ?_
      refine J_aload_n dX8_findingAt_20 rfl rfl ?_
      refine Cg_sh_2 (s := s) (by omega) fr_X8_19_7 (s 68 j) rfl dX8_findingAt_21 ?_
      refine J_cNi [.int i, .int (s 68 j)] mn_X8_32 (c_X11_isBelow (cW G r s l) i (s 68 j)) rfl rfl (by decide) (Nat.le_of_ble_eq_true rfl) ⟨Nat.le_refl _, Nat.le_refl _⟩ dX8_findingAt_24 ?_
      refine J_if_eqB 34 dX8_findingAt_27 (by decide) (fun kcz3 => ?_) (fun kcz3 => ?_)
      · refine J_iconst (v := nI 2) dX8_findingAt_34 (by decide) ?_
        exact J_iret dX8_findingAt_35 rfl rfl rfl (hq _ (by simp only [fdC]; simp_all))
      · refine J_iconst (v := nI 0) dX8_findingAt_30 (by decide) ?_
        refine J_goto 35 dX8_findingAt_31 (by decide) ?_
        exact J_iret dX8_findingAt_35 rfl rfl rfl (hq _ (by simp only [fdC]; simp_all))
    · refine J_iconst (v := nI 3) dX8_findingAt_17 (by decide) ?_
      exact J_iret dX8_findingAt_18 rfl rfl rfl (hq _ (by simp only [fdC]; simp_all))
  · refine J_iconst (v := nI 1) dX8_findingAt_7 (by decide) ?_
    exact J_iret dX8_findingAt_8 rfl rfl rfl (hq _ (by simp only [fdC]; simp_all))
theorem c_X8_findingAt {G : GT} (r : Nat → Nat) (s : St) (l : Nat → Int64) (j : Nat) (hj : j < 4) (f i : Int32) : Ct G yX8_findingAt cX8_findingAt 3 (some .int) 0 0 1 [.ref (r (11 + j)), .int f, .int i] (cW G r s l) (Is (some (.int (nI (fdC (s 67 j) (s 68 j) f i)))) (cW G r s l)) := Ct.of rfl (Nat.le_of_ble_eq_true rfl) (j_X8_findingAt r s l j hj f i (fun _ e => by subst e; exact Is.rf _ _))
set_option maxRecDepth 100000 in
set_option maxHeartbeats 1000000 in
theorem j_X8_put {G : GT} (r : Nat → Nat) (s : St) (l : Nat → Int64) (j : Nat) (hj : j < 4) (z : Nat) (hz : s 68 j = nI z) (hz60 : z ≤ 60) (i : Nat) (hi : i < z) (v : Int32) {Q : Option Value → va_W → Prop} (hq : Q none (cW G r (su (70 + j) s (upd (s (70 + j)) i (cutM (s 67 j) v))) l)) : J G "put" RX8 cX8_put 3 none 0 0 1 Q 0 0 0 [(0, .ref (r (11 + j))), (1, .int (nI i)), (2, .int v)] [] (cW G r s l) := by
  refine J_iload_n dX8_put_0 rfl rfl ?_
  refine J_aload_n dX8_put_1 rfl rfl ?_
  refine Cg_sh_2 (s := s) (by omega) fr_X8_19_7 (s 68 j) rfl dX8_put_2 ?_
  refine J_rw (y := nI z) hz ?_
  refine J_cNi [.int (nI i), .int (nI z)] mn_X8_32 (c_X11_isBelowN (cW G r s l) (nI i) z) rfl rfl (by decide) (Nat.le_of_ble_eq_true rfl) ⟨Nat.le_refl _, Nat.le_refl _⟩ dX8_put_5 ?_
  refine J_if_eqB 52 dX8_put_8 (by decide) (fun c => absurd c (by rw [(show rng (nI i) z = true from rng_of hi (by omega))]; decide)) (fun _ => ?_)
  refine J_iload_n dX8_put_11 rfl rfl ?_
  refine J_aload_n dX8_put_12 rfl rfl ?_
  refine Cg_sh_0 (by omega) fr_X8_9_7 dX8_put_13 ?_
  refine Cn_sh (by omega) dX8_put_16 ?_
  refine J_icmp_geN 52 (by omega) (by omega) dX8_put_17 (by decide) (fun c => absurd c (by omega)) (fun _ => ?_)
  refine J_aload_n dX8_put_20 rfl rfl ?_
  refine Cg_sh_0 (by omega) fr_X8_9_7 dX8_put_21 ?_
  refine J_iload_n dX8_put_24 rfl rfl ?_
  refine J_aload_n dX8_put_25 rfl rfl ?_
  refine Cg_sh_1 (s := s) (by omega) fr_X8_15_7 (s 67 j) rfl dX8_put_26 ?_
  have K51_0 : ∀ (t0 : Int32), t0 = cutM (s 67 j) v → J G "put" RX8 cX8_put 3 none 0 0 1 Q 0 0 51 [(0, .ref (r (11 + j))), (1, .int (nI i)), (2, .int v)] [.int t0, .int (nI i), .ref (r (15 + j))] (cW G r s l) := by
    intro t0 qt0
    subst qt0
    refine Cs_sh (by omega) (s := s) (s (70 + j)) rfl i rfl (by omega) dX8_put_51 ?_
    exact J_vret dX8_put_52 rfl rfl rfl (hq)
  refine J_if_ne 37 dX8_put_29 (by decide) (fun kcz2 => ?_) (fun kcz2 => ?_)
  · refine J_aload_n dX8_put_37 rfl rfl ?_
    refine Cg_sh_1 (s := s) (by omega) fr_X8_15_7 (s 67 j) rfl dX8_put_38 ?_
    refine J_iconst (v := nI 1) dX8_put_41 (by decide) ?_
    refine J_icmp_ne 50 dX8_put_42 (by decide) (fun kcz3 => ?_) (fun kcz3 => ?_)
    · refine J_iload_n dX8_put_50 rfl rfl ?_
      exact K51_0 _ (by simp [cutM, nI0e, n1_ne0, kcz2, kcz3])
    · refine J_iload_n dX8_put_45 rfl rfl ?_
      refine J_i2s dX8_put_46 ?_
      refine J_goto 51 dX8_put_47 (by decide) ?_
      exact K51_0 _ (by simp [cutM, nI0e, n1_ne0, kcz2, kcz3])
  · refine J_iload_n dX8_put_32 rfl rfl ?_
    refine J_i2b dX8_put_33 ?_
    refine J_goto 51 dX8_put_34 (by decide) ?_
    exact K51_0 _ (by simp [cutM, nI0e, n1_ne0, kcz2])
theorem c_X8_put {G : GT} (r : Nat → Nat) (s : St) (l : Nat → Int64) (j : Nat) (hj : j < 4) (z : Nat) (hz : s 68 j = nI z) (hz60 : z ≤ 60) (i : Nat) (hi : i < z) (v : Int32) : Ct G yX8_put cX8_put 3 none 0 0 1 [.ref (r (11 + j)), .int (nI i), .int v] (cW G r s l) (Is none (cW G r (su (70 + j) s (upd (s (70 + j)) i (cutM (s 67 j) v))) l)) := Ct.of rfl (Nat.le_of_ble_eq_true rfl) (j_X8_put r s l j hj z hz hz60 i hi v (Is.rf _ _))
set_option maxRecDepth 100000 in
set_option maxHeartbeats 1000000 in
theorem j_X8_itemAt {G : GT} (r : Nat → Nat) (s : St) (l : Nat → Int64) (j : Nat) (hj : j < 4) (z : Nat) (hz : s 68 j = nI z) (hz60 : z ≤ 60) (i : Nat) (hi : i < z) {Q : Option Value → va_W → Prop} (hq : ∀ v_ : Int32, v_ = s (70 + j) i → Q (some (.int v_)) (cW G r s l)) : J G "itemAt" RX8 cX8_itemAt 2 (some .int) 0 0 1 Q 0 0 0 [(0, .ref (r (11 + j))), (1, .int (nI i))] [] (cW G r s l) := by
  refine J_iload_n dX8_itemAt_0 rfl rfl ?_
  refine J_aload_n dX8_itemAt_1 rfl rfl ?_
  refine Cg_sh_2 (s := s) (by omega) fr_X8_19_7 (s 68 j) rfl dX8_itemAt_2 ?_
  refine J_rw (y := nI z) hz ?_
  refine J_cNi [.int (nI i), .int (nI z)] mn_X8_32 (c_X11_isBelowN (cW G r s l) (nI i) z) rfl rfl (by decide) (Nat.le_of_ble_eq_true rfl) ⟨Nat.le_refl _, Nat.le_refl _⟩ dX8_itemAt_5 ?_
  refine J_if_eqB 29 dX8_itemAt_8 (by decide) (fun c => absurd c (by rw [(show rng (nI i) z = true from rng_of hi (by omega))]; decide)) (fun _ => ?_)
  refine J_iload_n dX8_itemAt_11 rfl rfl ?_
  refine J_aload_n dX8_itemAt_12 rfl rfl ?_
  refine Cg_sh_0 (by omega) fr_X8_9_7 dX8_itemAt_13 ?_
  refine Cn_sh (by omega) dX8_itemAt_16 ?_
  refine J_icmp_geN 29 (by omega) (by omega) dX8_itemAt_17 (by decide) (fun c => absurd c (by omega)) (fun _ => ?_)
  refine J_aload_n dX8_itemAt_20 rfl rfl ?_
  refine Cg_sh_0 (by omega) fr_X8_9_7 dX8_itemAt_21 ?_
  refine J_iload_n dX8_itemAt_24 rfl rfl ?_
  refine Cl_sh (by omega) (s := s) (s (70 + j)) rfl i rfl (by omega) dX8_itemAt_25 ?_
  refine J_goto 30 dX8_itemAt_26 (by decide) ?_
  exact J_iret dX8_itemAt_30 rfl rfl rfl (hq _ (by simp []))
theorem c_X8_itemAt {G : GT} (r : Nat → Nat) (s : St) (l : Nat → Int64) (j : Nat) (hj : j < 4) (z : Nat) (hz : s 68 j = nI z) (hz60 : z ≤ 60) (i : Nat) (hi : i < z) : Ct G yX8_itemAt cX8_itemAt 2 (some .int) 0 0 1 [.ref (r (11 + j)), .int (nI i)] (cW G r s l) (Is (some (.int (s (70 + j) i))) (cW G r s l)) := Ct.of rfl (Nat.le_of_ble_eq_true rfl) (j_X8_itemAt r s l j hj z hz hz60 i hi (fun _ e => by subst e; exact Is.rf _ _))
set_option maxRecDepth 100000 in
set_option maxHeartbeats 1000000 in
theorem j_X8_hasItems {G : GT} (r : Nat → Nat) (s : St) (l : Nat → Int64) (j : Nat) (hj : j < 4) (z : Nat) (hz : s 68 j = nI z) (hz60 : z ≤ 60) (f k : Int32) {Q : Option Value → va_W → Prop} (hq : ∀ v_ : Int32, v_ = bI (hiC z f k) → Q (some (.int v_)) (cW G r s l)) : J G "hasItems" RX8 cX8_hasItems 3 (some .boolean) 0 0 0 Q 0 0 0 [(0, .ref (r (11 + j))), (1, .int f), (2, .int k)] [] (cW G r s l) := by
  refine J_iload_n dX8_hasItems_0 rfl rfl ?_
  refine J_if_ltG 30 dX8_hasItems_1 (by decide) (fun kcz1 => ?_) (fun kcz1 => ?_)
  · refine J_iconst (v := nI 0) dX8_hasItems_30 (by decide) ?_
    exact J_zretB (b := false) dX8_hasItems_31 rfl rfl rfl (hq _ (by show bI false = bI (hiC z f k); simp [hiC, kcz1]))
  · refine J_iload_n dX8_hasItems_4 rfl rfl ?_
    refine J_aload_n dX8_hasItems_5 rfl rfl ?_
    refine Cg_sh_2 (s := s) (by omega) fr_X8_19_7 (s 68 j) rfl dX8_hasItems_6 ?_
    refine J_rw (y := nI z) hz ?_
    refine J_icmp_gt 30 dX8_hasItems_9 (by decide) (fun kcz2 => ?_) (fun kcz2 => ?_)
    · refine J_iconst (v := nI 0) dX8_hasItems_30 (by decide) ?_
      exact J_zretB (b := false) dX8_hasItems_31 rfl rfl rfl (hq _ (by show bI false = bI (hiC z f k); simp [hiC, kcz1, kcz2]))
    · refine J_iload_n dX8_hasItems_12 rfl rfl ?_
      refine J_if_ltG 30 dX8_hasItems_13 (by decide) (fun kcz3 => ?_) (fun kcz3 => ?_)
      · refine J_iconst (v := nI 0) dX8_hasItems_30 (by decide) ?_
        exact J_zretB (b := false) dX8_hasItems_31 rfl rfl rfl (hq _ (by show bI false = bI (hiC z f k); simp [hiC, kcz1, kcz2, kcz3]))
      · refine J_iload_n dX8_hasItems_16 rfl rfl ?_
        refine J_aload_n dX8_hasItems_17 rfl rfl ?_
        refine Cg_sh_2 (s := s) (by omega) fr_X8_19_7 (s 68 j) rfl dX8_hasItems_18 ?_
        refine J_rw (y := nI z) hz ?_
        refine J_iload_n dX8_hasItems_21 rfl rfl ?_
        refine J_isub dX8_hasItems_22 ?_
        refine J_icmp_gt 30 dX8_hasItems_23 (by decide) (fun kcz4 => ?_) (fun kcz4 => ?_)
        · refine J_iconst (v := nI 0) dX8_hasItems_30 (by decide) ?_
          exact J_zretB (b := false) dX8_hasItems_31 rfl rfl rfl (hq _ (by show bI false = bI (hiC z f k); simp [hiC, kcz1, kcz2, kcz3, kcz4]))
        · refine J_iconst (v := nI 1) dX8_hasItems_26 (by decide) ?_
          refine J_goto 31 dX8_hasItems_27 (by decide) ?_
          exact J_zretB (b := true) dX8_hasItems_31 rfl rfl rfl (hq _ (by show bI true = bI (hiC z f k); simp [hiC, kcz1, kcz2, kcz3, kcz4]))
theorem c_X8_hasItems {G : GT} (r : Nat → Nat) (s : St) (l : Nat → Int64) (j : Nat) (hj : j < 4) (z : Nat) (hz : s 68 j = nI z) (hz60 : z ≤ 60) (f k : Int32) : Ct G yX8_hasItems cX8_hasItems 3 (some .boolean) 0 0 0 [.ref (r (11 + j)), .int f, .int k] (cW G r s l) (Is (some (.int (bI (hiC z f k)))) (cW G r s l)) := Ct.of rfl (Nat.le_of_ble_eq_true rfl) (j_X8_hasItems r s l j hj z hz hz60 f k (fun _ e => by subst e; exact Is.rf _ _))
set_option maxRecDepth 100000 in
set_option maxHeartbeats 1000000 in
theorem j_X9_mayBe {G : GT} (ws : va_W) (t e h : Int32) {Q : Option Value → va_W → Prop} (hq : ∀ v_ : Int32, v_ = bI (seenOk t e h) → Q (some (.int v_)) ws) : J G "mayBe" RX9 cX9_mayBe 3 (some .boolean) 0 0 1 Q 0 0 0 [(0, .int t), (1, .int e), (2, .int h)] [] ws := by
  refine J_iload_n dX9_mayBe_0 rfl rfl ?_
  refine J_bipush (v := nI 24) dX9_mayBe_1 (by decide) ?_
  refine J_cNi [.int t, .int (nI 24)] mn_X9_25 (c_X11_isBelowN ws t 24) rfl rfl (by decide) (Nat.le_of_ble_eq_true rfl) ⟨Nat.le_refl _, Nat.le_refl _⟩ dX9_mayBe_3 ?_
  refine J_if_eqB 36 dX9_mayBe_6 (by decide) (fun kcz1 => ?_) (fun kcz1 => ?_)
  · refine J_iconst (v := nI 0) dX9_mayBe_36 (by decide) ?_
    exact J_zretB (b := false) dX9_mayBe_37 rfl rfl rfl (hq _ (by show bI false = bI (seenOk t e h); simp [seenOk, inI8, kcz1]))
  · refine J_iload_n dX9_mayBe_9 rfl rfl ?_
    refine J_bipush (v := nI 6) dX9_mayBe_10 (by decide) ?_
    refine J_cNi [.int e, .int (nI 6)] mn_X9_25 (c_X11_isBelowN ws e 6) rfl rfl (by decide) (Nat.le_of_ble_eq_true rfl) ⟨Nat.le_refl _, Nat.le_refl _⟩ dX9_mayBe_12 ?_
    refine J_if_eqB 36 dX9_mayBe_15 (by decide) (fun kcz2 => ?_) (fun kcz2 => ?_)
    · refine J_iconst (v := nI 0) dX9_mayBe_36 (by decide) ?_
      exact J_zretB (b := false) dX9_mayBe_37 rfl rfl rfl (hq _ (by show bI false = bI (seenOk t e h); simp [seenOk, inI8, kcz1, kcz2]))
    · refine J_iload_n dX9_mayBe_18 rfl rfl ?_
      refine J_iconst (v := -1) dX9_mayBe_19 (by decide) ?_
      refine J_icmp_eq 32 dX9_mayBe_20 (by decide) (fun kcz3 => ?_) (fun kcz3 => ?_)
      · refine J_iconst (v := nI 1) dX9_mayBe_32 (by decide) ?_
        refine J_goto 37 dX9_mayBe_33 (by decide) ?_
        exact J_zretB (b := true) dX9_mayBe_37 rfl rfl rfl (hq _ (by show bI true = bI (seenOk t e h); simp [seenOk, inI8, kcz1, kcz2, kcz3]))
      · refine J_iload_n dX9_mayBe_23 rfl rfl ?_
        refine J_bipush (v := nI 8) dX9_mayBe_24 (by decide) ?_
        refine J_cNi [.int h, .int (nI 8)] mn_X9_25 (c_X11_isBelowN ws h 8) rfl rfl (by decide) (Nat.le_of_ble_eq_true rfl) ⟨Nat.le_refl _, Nat.le_refl _⟩ dX9_mayBe_26 ?_
        refine J_if_eqB 36 dX9_mayBe_29 (by decide) (fun kcz4 => ?_) (fun kcz4 => ?_)
        · refine J_iconst (v := nI 0) dX9_mayBe_36 (by decide) ?_
          exact J_zretB (b := false) dX9_mayBe_37 rfl rfl rfl (hq _ (by show bI false = bI (seenOk t e h); simp [seenOk, inI8, kcz1, kcz2, kcz3, kcz4]))
        · refine J_iconst (v := nI 1) dX9_mayBe_32 (by decide) ?_
          refine J_goto 37 dX9_mayBe_33 (by decide) ?_
          exact J_zretB (b := true) dX9_mayBe_37 rfl rfl rfl (hq _ (by show bI true = bI (seenOk t e h); simp [seenOk, inI8, kcz1, kcz2, kcz3, kcz4]))
theorem c_X9_mayBe {G : GT} (ws : va_W) (t e h : Int32) : Ct G yX9_mayBe cX9_mayBe 3 (some .boolean) 0 0 1 [.int t, .int e, .int h] ws (Is (some (.int (bI (seenOk t e h)))) ws) := Ct.of rfl (Nat.le_of_ble_eq_true rfl) (j_X9_mayBe ws t e h (fun _ e => by subst e; exact Is.rf _ _))
set_option maxRecDepth 100000 in
set_option maxHeartbeats 1000000 in
theorem j_X9_add {G : GT} (r : Nat → Nat) (s : St) (l : Nat → Int64) (sg : Nat) (hsg : s 62 0 = nI sg) (hlt : sg < 8) (t e h : Int32) {Q : Option Value → va_W → Prop} (hq : ∀ v_ : Int32, v_ = bI true → Q (some (.int v_)) (cW G r (su 62 (su 44 (su 43 (su 42 s (upd (s 42) sg t)) (upd (s 43) sg e)) (upd (s 44) sg h)) (fun _ => nI (sg + 1))) l)) : J G "add" RX9 cX9_add 4 (some .boolean) 0 0 1 Q 0 0 0 [(0, .ref (r 8)), (1, .int t), (2, .int e), (3, .int h)] [] (cW G r s l) := by
  refine J_aload_n dX9_add_0 rfl rfl ?_
  refine Cg_8_3 (s := s) fr_X9_21_8 (s 62 0) rfl dX9_add_1 ?_
  refine J_rw (y := nI sg) hsg ?_
  refine J_bipush (v := nI 8) dX9_add_4 (by decide) ?_
  refine J_cNi [.int (nI sg), .int (nI 8)] mn_X9_25 (c_X11_isBelowN (cW G r s l) (nI sg) 8) rfl rfl (by decide) (Nat.le_of_ble_eq_true rfl) ⟨Nat.le_refl _, Nat.le_refl _⟩ dX9_add_6 ?_
  refine J_if_neB 14 dX9_add_9 (by decide) (fun _ => ?_) (fun c => absurd c (by rw [(show rng (nI sg) 8 = true from rng_of hlt (by decide))]; decide))
  refine J_aload_n dX9_add_14 rfl rfl ?_
  refine Cg_8_0 fr_X9_9_8 dX9_add_15 ?_
  refine J_aload_n dX9_add_18 rfl rfl ?_
  refine Cg_8_3 (s := s) fr_X9_21_8 (s 62 0) rfl dX9_add_19 ?_
  refine J_rw (y := nI sg) hsg ?_
  refine J_iload_n dX9_add_22 rfl rfl ?_
  refine Cs_42 (s := s) (s 42) rfl sg rfl (by omega) dX9_add_23 ?_
  refine J_aload_n dX9_add_24 rfl rfl ?_
  refine Cg_8_1 fr_X9_15_8 dX9_add_25 ?_
  refine J_aload_n dX9_add_28 rfl rfl ?_
  refine Cg_8_3 (s := (su 42 s (upd (s 42) sg t))) fr_X9_21_8 (s 62 0) rfl dX9_add_29 ?_
  refine J_rw (y := nI sg) hsg ?_
  refine J_iload_n dX9_add_32 rfl rfl ?_
  refine Cs_43 (s := (su 42 s (upd (s 42) sg t))) (s 43) rfl sg rfl (by omega) dX9_add_33 ?_
  refine J_aload_n dX9_add_34 rfl rfl ?_
  refine Cg_8_2 fr_X9_18_8 dX9_add_35 ?_
  refine J_aload_n dX9_add_38 rfl rfl ?_
  refine Cg_8_3 (s := (su 43 (su 42 s (upd (s 42) sg t)) (upd (s 43) sg e))) fr_X9_21_8 (s 62 0) rfl dX9_add_39 ?_
  refine J_rw (y := nI sg) hsg ?_
  refine J_iload_n dX9_add_42 rfl rfl ?_
  refine Cs_44 (s := (su 43 (su 42 s (upd (s 42) sg t)) (upd (s 43) sg e))) (s 44) rfl sg rfl (by omega) dX9_add_43 ?_
  refine J_aload_n dX9_add_44 rfl rfl ?_
  refine J_dup dX9_add_45 rfl ?_
  refine Cg_8_3 (s := (su 44 (su 43 (su 42 s (upd (s 42) sg t)) (upd (s 43) sg e)) (upd (s 44) sg h))) fr_X9_21_8 (s 62 0) rfl dX9_add_46 ?_
  refine J_rw (y := nI sg) hsg ?_
  refine J_iconst (v := nI 1) dX9_add_49 (by decide) ?_
  refine J_iaddN dX9_add_50 ?_
  refine Cp_8_3 fr_X9_21_8 dX9_add_51 ?_
  refine J_iconst (v := nI 1) dX9_add_54 (by decide) ?_
  exact J_zretB (b := true) dX9_add_55 rfl rfl rfl (hq _ rfl)
theorem c_X9_add {G : GT} (r : Nat → Nat) (s : St) (l : Nat → Int64) (sg : Nat) (hsg : s 62 0 = nI sg) (hlt : sg < 8) (t e h : Int32) : Ct G yX9_add cX9_add 4 (some .boolean) 0 0 1 [.ref (r 8), .int t, .int e, .int h] (cW G r s l) (Is (some (.int (bI true))) (cW G r (su 62 (su 44 (su 43 (su 42 s (upd (s 42) sg t)) (upd (s 43) sg e)) (upd (s 44) sg h)) (fun _ => nI (sg + 1))) l)) := Ct.of rfl (Nat.le_of_ble_eq_true rfl) (j_X9_add r s l sg hsg hlt t e h (fun _ e => by subst e; exact Is.rf _ _))
set_option maxRecDepth 100000 in
set_option maxHeartbeats 1000000 in
theorem j_X9_add_full {G : GT} (r : Nat → Nat) (s : St) (l : Nat → Int64) (sg : Nat) (hsg : s 62 0 = nI sg) (hge : sg = 8) (t e h : Int32) {Q : Option Value → va_W → Prop} (hq : ∀ v_ : Int32, v_ = bI false → Q (some (.int v_)) (cW G r s l)) : J G "add" RX9 cX9_add 4 (some .boolean) 0 0 1 Q 0 0 0 [(0, .ref (r 8)), (1, .int t), (2, .int e), (3, .int h)] [] (cW G r s l) := by
  refine J_aload_n dX9_add_0 rfl rfl ?_
  refine Cg_8_3 (s := s) fr_X9_21_8 (s 62 0) rfl dX9_add_1 ?_
  refine J_rw (y := nI sg) hsg ?_
  refine J_bipush (v := nI 8) dX9_add_4 (by decide) ?_
  refine J_cNi [.int (nI sg), .int (nI 8)] mn_X9_25 (c_X11_isBelowN (cW G r s l) (nI sg) 8) rfl rfl (by decide) (Nat.le_of_ble_eq_true rfl) ⟨Nat.le_refl _, Nat.le_refl _⟩ dX9_add_6 ?_
  refine J_if_neB 14 dX9_add_9 (by decide) (fun c => absurd c (by rw [(show rng (nI sg) 8 = false by rw [hge]; decide)]; decide)) (fun _ => ?_)
  refine J_iconst (v := nI 0) dX9_add_12 (by decide) ?_
  exact J_zretB (b := false) dX9_add_13 rfl rfl rfl (hq _ rfl)
theorem c_X9_add_full {G : GT} (r : Nat → Nat) (s : St) (l : Nat → Int64) (sg : Nat) (hsg : s 62 0 = nI sg) (hge : sg = 8) (t e h : Int32) : Ct G yX9_add cX9_add 4 (some .boolean) 0 0 1 [.ref (r 8), .int t, .int e, .int h] (cW G r s l) (Is (some (.int (bI false))) (cW G r s l)) := Ct.of rfl (Nat.le_of_ble_eq_true rfl) (j_X9_add_full r s l sg hsg hge t e h (fun _ e => by subst e; exact Is.rf _ _))
set_option maxRecDepth 100000 in
set_option maxHeartbeats 1000000 in
theorem j_X9_allComeOut {G : GT} (r : Nat → Nat) (s : St) (l : Nat → Int64) (n : Nat) (hn : s 52 0 = nI n) (hn8 : n ≤ 8) (Hb : Nat → Int32) (hb : Nat → Nat) (hR : CHr n Hb hb s) (hk : HbOk n Hb hb) (m : Nat) (hm : s 55 0 = nI m) (hm6 : m ≤ 6) (He : Nat → Int32) (aw : Nat → Nat) (hE : CEr m He aw s) (ha : AwOk m He aw) (sg : Nat) (hsg : s 62 0 = nI sg) (hsg8 : sg ≤ 8) (Sg : Nat → Int32) (hSg : CSr sg Sg s) {Q : Option Value → va_W → Prop} (hq : ∀ v_ : Int32, v_ = bI (allB (seM n m Hb He (s 39) Sg) sg) → Q (some (.int v_)) (cW G r s l)) : J G "allComeOut" RX9 cX9_allComeOut 5 (some .boolean) 0 0 3 Q 0 0 0 [(0, .ref (r 8)), (1, .ref (r 1))] [] (cW G r s l) := by
  refine J_iconst (v := nI 0) dX9_allComeOut_0 (by decide) ?_
  refine J_istore_n [(0, .ref (r 8)), (1, .ref (r 1)), (2, .int (nI 0))] dX9_allComeOut_1 rfl (by decide) rfl rfl rfl ?_
  have L2 : ∀ (f i : Nat), sg - i < f → i ≤ sg → allB (seM n m Hb He (s 39) Sg) i = true → ∀ (x2 : Int32), x2 = nI i → J G "allComeOut" RX9 cX9_allComeOut 5 (some .boolean) 0 0 3 Q 0 0 2 [(0, .ref (r 8)), (1, .ref (r 1)), (2, .int x2)] [] (cW G r s l) := by
    intro f
    induction f with
    | zero => intro i h; exact absurd h (Nat.not_lt_zero _)
    | succ f ih2 =>
      intro i hf2 hle2 hal x2 e2
      subst e2
      refine J_iload_n dX9_allComeOut_2 rfl rfl ?_
      refine J_aload_n dX9_allComeOut_3 rfl rfl ?_
      refine Cg_8_3 (s := s) fr_X9_21_8 (s 62 0) rfl dX9_allComeOut_4 ?_
      refine J_rw (y := nI sg) hsg ?_
      refine J_icmp_geN 78 (by omega) (by omega) dX9_allComeOut_7 (by decide) (fun kcz1 => ?_) (fun kcz1 => ?_)
      · refine J_iconst (v := nI 1) dX9_allComeOut_78 (by decide) ?_
        exact J_zretB (b := true) dX9_allComeOut_79 rfl rfl rfl (by obtain rfl : i = sg := (by omega); exact hq _ (congrArg bI hal.symm))
      · refine J_iload_n dX9_allComeOut_10 rfl rfl ?_
        refine J_bipush (v := nI 8) dX9_allComeOut_11 (by decide) ?_
        refine J_icmp_geN 78 (by omega) (by omega) dX9_allComeOut_13 (by decide) (fun kcz2 => ?_) (fun kcz2 => ?_)
        · refine J_iconst (v := nI 1) dX9_allComeOut_78 (by decide) ?_
          exact J_zretB (b := true) dX9_allComeOut_79 rfl rfl rfl (by obtain rfl : i = sg := (by omega); exact hq _ (congrArg bI hal.symm))
        · refine J_aload_n dX9_allComeOut_16 rfl rfl ?_
          refine Cg_1_0 fr_X9_43_1 dX9_allComeOut_17 ?_
          refine Cg_2_1 fr_X9_49_4 dX9_allComeOut_20 ?_
          refine J_aload_n dX9_allComeOut_23 rfl rfl ?_
          refine Cg_8_1 fr_X9_15_8 dX9_allComeOut_24 ?_
          refine J_iload_n dX9_allComeOut_27 rfl rfl ?_
          refine Cl_43 (s := s) (s 43) rfl i rfl (by omega) dX9_allComeOut_28 ?_
          refine J_rw (y := Sg (3 * i + 1)) (hSg i (by omega)).2.1 ?_
          refine J_cUi [.int (Sg (3 * i + 1))] 4 mu_X9_55_3 (c_X5_hasRow1 r s l m hm (Sg (3 * i + 1))) cW_4 rfl rfl (by decide) (Nat.le_of_ble_eq_true rfl) ⟨Nat.le_refl _, Nat.le_refl _⟩ dX9_allComeOut_29 ?_
          refine J_istore_n [(0, .ref (r 8)), (1, .ref (r 1)), (2, .int (nI i)), (3, .int (bI (rng (Sg (3 * i + 1)) m)))] dX9_allComeOut_32 rfl (by decide) rfl rfl rfl ?_
          refine J_iload_n dX9_allComeOut_33 rfl rfl ?_
          refine J_if_eqB 56 dX9_allComeOut_34 (by decide) (fun kcz3 => ?_) (fun kcz3 => ?_)
          · refine J_iconst (v := -1) dX9_allComeOut_56 (by decide) ?_
            refine J_istore [(0, .ref (r 8)), (1, .ref (r 1)), (2, .int (nI i)), (3, .int (bI (rng (Sg (3 * i + 1)) m))), (4, .int (-1))] dX9_allComeOut_57 (by decide) rfl rfl rfl ?_
            refine J_iload dX9_allComeOut_59 rfl ?_
            refine J_aload_n dX9_allComeOut_61 rfl rfl ?_
            refine Cg_8_2 fr_X9_18_8 dX9_allComeOut_62 ?_
            refine J_iload_n dX9_allComeOut_65 rfl rfl ?_
            refine Cl_44 (s := s) (s 44) rfl i rfl (by omega) dX9_allComeOut_66 ?_
            refine J_rw (y := Sg (3 * i + 2)) (hSg i (by omega)).2.2.1 ?_
            refine J_icmp_eq 72 dX9_allComeOut_67 (by decide) (fun kcz4 => ?_) (fun kcz4 => ?_)
            · refine J_iincN [(0, .ref (r 8)), (1, .ref (r 1)), (2, .int (nI (i + 1))), (3, .int (bI (rng (Sg (3 * i + 1)) m))), (4, .int (-1))] dX9_allComeOut_72 rfl (by decide) rfl rfl rfl ?_
              refine J_goto 2 dX9_allComeOut_75 (by decide) ?_
              refine J_lv [0, 1, 2] rfl ?_
              exact ih2 (i + 1) (by omega) (by omega) (all_s hal (by rw [seM_out kcz3, decide_eq_true kcz4])) _ rfl
            · refine J_iconst (v := nI 0) dX9_allComeOut_70 (by decide) ?_
              exact J_zretB (b := false) dX9_allComeOut_71 rfl rfl rfl (hq _ (congrArg bI (all_no (k := i) (by omega) (by rw [seM_out kcz3, decide_eq_false kcz4])).symm))
          · obtain ⟨e9, he9, ee9⟩ := (rng_iff (by omega)).mp kcz3
            obtain ⟨t9, ht9, et9⟩ := (hSg i (by omega)).2.2.2
            refine J_aload_n dX9_allComeOut_37 rfl rfl ?_
            refine J_aload_n dX9_allComeOut_38 rfl rfl ?_
            refine Cg_8_1 fr_X9_15_8 dX9_allComeOut_39 ?_
            refine J_iload_n dX9_allComeOut_42 rfl rfl ?_
            refine Cl_43 (s := s) (s 43) rfl i rfl (by omega) dX9_allComeOut_43 ?_
            refine J_rw (y := Sg (3 * i + 1)) (hSg i (by omega)).2.1 ?_
            refine J_rw (y := nI e9) ee9 ?_
            refine J_aload_n dX9_allComeOut_44 rfl rfl ?_
            refine Cg_8_0 fr_X9_9_8 dX9_allComeOut_45 ?_
            refine J_iload_n dX9_allComeOut_48 rfl rfl ?_
            refine Cl_42 (s := s) (s 42) rfl i rfl (by omega) dX9_allComeOut_49 ?_
            refine J_rw (y := Sg (3 * i)) (hSg i (by omega)).1 ?_
            refine J_rw (y := nI t9) et9 ?_
            refine J_cVi (x := yX12_in) [.int (nI e9), .int (nI t9)] 1 mv_X9_61 (c_X1_doingOf r s l n hn hn8 Hb hb hR hk m hm hm6 He aw hE ha e9 t9 (by omega) (by omega)) cW_1 rfl rfl (by decide) (Nat.le_of_ble_eq_true rfl) ⟨Nat.le_refl _, Nat.le_refl _⟩ dX9_allComeOut_50 ?_
            refine J_goto 57 dX9_allComeOut_53 (by decide) ?_
            refine J_istore [(0, .ref (r 8)), (1, .ref (r 1)), (2, .int (nI i)), (3, .int (bI (rng (Sg (3 * i + 1)) m))), (4, .int (doM n Hb He (s 39) e9 t9))] dX9_allComeOut_57 (by decide) rfl rfl rfl ?_
            refine J_iload dX9_allComeOut_59 rfl ?_
            refine J_aload_n dX9_allComeOut_61 rfl rfl ?_
            refine Cg_8_2 fr_X9_18_8 dX9_allComeOut_62 ?_
            refine J_iload_n dX9_allComeOut_65 rfl rfl ?_
            refine Cl_44 (s := s) (s 44) rfl i rfl (by omega) dX9_allComeOut_66 ?_
            refine J_rw (y := Sg (3 * i + 2)) (hSg i (by omega)).2.2.1 ?_
            refine J_icmp_eq 72 dX9_allComeOut_67 (by decide) (fun kcz5 => ?_) (fun kcz5 => ?_)
            · refine J_iincN [(0, .ref (r 8)), (1, .ref (r 1)), (2, .int (nI (i + 1))), (3, .int (bI (rng (Sg (3 * i + 1)) m))), (4, .int (doM n Hb He (s 39) e9 t9))] dX9_allComeOut_72 rfl (by decide) rfl rfl rfl ?_
              refine J_goto 2 dX9_allComeOut_75 (by decide) ?_
              refine J_lv [0, 1, 2] rfl ?_
              exact ih2 (i + 1) (by omega) (by omega) (all_s hal (by rw [seM_in kcz3 ee9 et9 (by omega) (by omega), decide_eq_true kcz5])) _ rfl
            · refine J_iconst (v := nI 0) dX9_allComeOut_70 (by decide) ?_
              exact J_zretB (b := false) dX9_allComeOut_71 rfl rfl rfl (hq _ (congrArg bI (all_no (k := i) (by omega) (by rw [seM_in kcz3 ee9 et9 (by omega) (by omega), decide_eq_false kcz5])).symm))
  exact L2 (sg + 1) 0 (by omega) (by omega) rfl _ rfl
theorem c_X9_allComeOut {G : GT} (r : Nat → Nat) (s : St) (l : Nat → Int64) (n : Nat) (hn : s 52 0 = nI n) (hn8 : n ≤ 8) (Hb : Nat → Int32) (hb : Nat → Nat) (hR : CHr n Hb hb s) (hk : HbOk n Hb hb) (m : Nat) (hm : s 55 0 = nI m) (hm6 : m ≤ 6) (He : Nat → Int32) (aw : Nat → Nat) (hE : CEr m He aw s) (ha : AwOk m He aw) (sg : Nat) (hsg : s 62 0 = nI sg) (hsg8 : sg ≤ 8) (Sg : Nat → Int32) (hSg : CSr sg Sg s) : Ct G yX9_allComeOut cX9_allComeOut 5 (some .boolean) 0 0 3 [.ref (r 8), .ref (r 1)] (cW G r s l) (Is (some (.int (bI (allB (seM n m Hb He (s 39) Sg) sg)))) (cW G r s l)) := Ct.of rfl (Nat.le_of_ble_eq_true rfl) (j_X9_allComeOut r s l n hn hn8 Hb hb hR hk m hm hm6 He aw hE ha sg hsg hsg8 Sg hSg (fun _ e => by subst e; exact Is.rf _ _))
set_option maxRecDepth 100000 in
set_option maxHeartbeats 1000000 in
theorem j_X9_addFrom {G : GT} (r : Nat → Nat) (s : St) (l : Nat → Int64) (j : Nat) (hj : j < 4) (z : Nat) (hz : s 68 j = nI z) (hz60 : z ≤ 60) (σ : St) (hLs : LI σ) (hso0 : SgOk σ s) (hit0 : ∀ i, i < z → s (70 + j) i = σ 2 (60 * j + i)) {Q : Option Value → va_W → Prop} (hq : ∀ (v_ : Int32) (w_ : va_W) (y42 y43 y44 y62 : Nat → Int32), v_ = (rdL j z 21 0 σ).1 → w_ = cW G r (su 62 (su 44 (su 43 (su 42 s y42) y43) y44) y62) l → SgOk (rdL j z 21 0 σ).2 (su 62 (su 44 (su 43 (su 42 s y42) y43) y44) y62) → Q (some (.int v_)) w_) : J G "addFrom" RX9 cX9_addFrom 7 (some .int) 0 0 2 Q 0 0 0 [(0, .ref (r 8)), (1, .ref (r (11 + j)))] [] (cW G r s l) := by
  refine J_iconst (v := nI 0) dX9_addFrom_0 (by decide) ?_
  refine J_istore_n [(0, .ref (r 8)), (1, .ref (r (11 + j))), (2, .int (nI 0))] dX9_addFrom_1 rfl (by decide) rfl rfl rfl ?_
  refine J_iconst (v := nI 0) dX9_addFrom_2 (by decide) ?_
  refine J_istore_n [(0, .ref (r 8)), (1, .ref (r (11 + j))), (2, .int (nI 0)), (3, .int (nI 0))] dX9_addFrom_3 rfl (by decide) rfl rfl rfl ?_
  have L4 : ∀ (f k : Nat) (τ : St) (y42 y43 y44 y62 : Nat → Int32), k + f = 21 → 3 * k ≤ z → LI τ → (∀ i, i < z → s (70 + j) i = τ 2 (60 * j + i)) → SgOk τ (su 62 (su 44 (su 43 (su 42 s y42) y43) y44) y62) → rdL j z f k τ = rdL j z 21 0 σ → ∀ (x2 : Int32) (x3 : Int32), x2 = nI k → x3 = nI (3 * k) → J G "addFrom" RX9 cX9_addFrom 7 (some .int) 0 0 2 Q 0 0 4 [(0, .ref (r 8)), (1, .ref (r (11 + j))), (2, .int x2), (3, .int x3)] [] (cW G r (su 62 (su 44 (su 43 (su 42 s y42) y43) y44) y62) l) := by
    intro f
    induction f with
    | zero => intro k τ y42 y43 y44 y62 h1 h2; exact absurd h1 (by omega)
    | succ f ih4 =>
      intro k τ y42 y43 y44 y62 hkf hkz hLt hit hso hrd x2 x3 e2 e3
      subst e2
      subst e3
      refine J_iload_n dX9_addFrom_4 rfl rfl ?_
      refine J_iconst (v := nI 2) dX9_addFrom_5 (by decide) ?_
      refine J_iaddN dX9_addFrom_6 ?_
      refine J_aload_n dX9_addFrom_7 rfl rfl ?_
      refine Cg_sh_2 (s := (su 62 (su 44 (su 43 (su 42 s y42) y43) y44) y62)) (by omega) fr_X9_29_7 (s 68 j) rfl dX9_addFrom_8 ?_
      refine J_rw (y := nI z) hz ?_
      refine J_icmp_geN 75 (by omega) (by omega) dX9_addFrom_11 (by decide) (fun kcz1 => ?_) (fun kcz1 => ?_)
      · refine J_iload_n dX9_addFrom_75 rfl rfl ?_
        exact J_iret dX9_addFrom_76 rfl rfl rfl (by have e9 : rdL j z 21 0 σ = (nI k, τ) := (by rw [← hrd, rdL, if_neg (by omega)]); rw [e9] at hq; exact hq _ _ (y42) (y43) (y44) (y62) rfl rfl hso)
      · refine J_aload_n dX9_addFrom_14 rfl rfl ?_
        refine J_iload_n dX9_addFrom_15 rfl rfl ?_
        refine J_cVi (x := yX12_in) [.int (nI (3 * k))] (11 + j) mv_X9_32 (c_X8_itemAt r (su 62 (su 44 (su 43 (su 42 s y42) y43) y44) y62) l j (by omega) z hz (by omega) (3 * k) (by omega)) (cW_sh (by omega)) rfl rfl (by decide) (Nat.le_of_ble_eq_true rfl) ⟨Nat.le_refl _, Nat.le_refl _⟩ dX9_addFrom_16 ?_
        refine J_rw (y := τ 2 (60 * j + 3 * k)) ((congrFun su70_4 _).trans (hit _ (by omega))) ?_
        refine J_istore [(0, .ref (r 8)), (1, .ref (r (11 + j))), (2, .int (nI k)), (3, .int (nI (3 * k))), (4, .int (τ 2 (60 * j + 3 * k)))] dX9_addFrom_19 (by decide) rfl rfl rfl ?_
        refine J_aload_n dX9_addFrom_21 rfl rfl ?_
        refine J_iload_n dX9_addFrom_22 rfl rfl ?_
        refine J_iconst (v := nI 1) dX9_addFrom_23 (by decide) ?_
        refine J_iaddN dX9_addFrom_24 ?_
        refine J_cVi (x := yX12_in) [.int (nI (3 * k + 1))] (11 + j) mv_X9_32 (c_X8_itemAt r (su 62 (su 44 (su 43 (su 42 s y42) y43) y44) y62) l j (by omega) z hz (by omega) (3 * k + 1) (by omega)) (cW_sh (by omega)) rfl rfl (by decide) (Nat.le_of_ble_eq_true rfl) ⟨Nat.le_refl _, Nat.le_refl _⟩ dX9_addFrom_25 ?_
        refine J_rw (y := τ 2 (60 * j + 3 * k + 1)) ((congrFun su70_4 _).trans (hit _ (by omega))) ?_
        refine J_istore [(0, .ref (r 8)), (1, .ref (r (11 + j))), (2, .int (nI k)), (3, .int (nI (3 * k))), (4, .int (τ 2 (60 * j + 3 * k))), (5, .int (τ 2 (60 * j + 3 * k + 1)))] dX9_addFrom_28 (by decide) rfl rfl rfl ?_
        refine J_aload_n dX9_addFrom_30 rfl rfl ?_
        refine J_iload_n dX9_addFrom_31 rfl rfl ?_
        refine J_iconst (v := nI 2) dX9_addFrom_32 (by decide) ?_
        refine J_iaddN dX9_addFrom_33 ?_
        refine J_cVi (x := yX12_in) [.int (nI (3 * k + 2))] (11 + j) mv_X9_32 (c_X8_itemAt r (su 62 (su 44 (su 43 (su 42 s y42) y43) y44) y62) l j (by omega) z hz (by omega) (3 * k + 2) (by omega)) (cW_sh (by omega)) rfl rfl (by decide) (Nat.le_of_ble_eq_true rfl) ⟨Nat.le_refl _, Nat.le_refl _⟩ dX9_addFrom_34 ?_
        refine J_rw (y := τ 2 (60 * j + 3 * k + 2)) ((congrFun su70_4 _).trans (hit _ (by omega))) ?_
        refine J_istore [(0, .ref (r 8)), (1, .ref (r (11 + j))), (2, .int (nI k)), (3, .int (nI (3 * k))), (4, .int (τ 2 (60 * j + 3 * k))), (5, .int (τ 2 (60 * j + 3 * k + 1))), (6, .int (τ 2 (60 * j + 3 * k + 2)))] dX9_addFrom_37 (by decide) rfl rfl rfl ?_
        refine J_iload dX9_addFrom_39 rfl ?_
        refine J_iload dX9_addFrom_41 rfl ?_
        refine J_iload dX9_addFrom_43 rfl ?_
        refine J_cSi [.int (τ 2 (60 * j + 3 * k)), .int (τ 2 (60 * j + 3 * k + 1)), .int (τ 2 (60 * j + 3 * k + 2))] ms_X9_36 (c_X9_mayBe (cW G r (su 62 (su 44 (su 43 (su 42 s y42) y43) y44) y62) l) (τ 2 (60 * j + 3 * k)) (τ 2 (60 * j + 3 * k + 1)) (τ 2 (60 * j + 3 * k + 2))) rfl rfl (by decide) (Nat.le_of_ble_eq_true rfl) ⟨Nat.le_refl _, Nat.le_refl _⟩ dX9_addFrom_45 ?_
        refine J_if_eqB 64 dX9_addFrom_48 (by decide) (fun kcz2 => ?_) (fun kcz2 => ?_)
        · have hneg : (oSeen (τ 2 (60 * j + 3 * k)) (τ 2 (60 * j + 3 * k + 1)) (τ 2 (60 * j + 3 * k + 2)) τ).1 < 0 := by rw [oSeen, if_neg (by rw [kcz2]; decide)]; show (-2 : Int32) < 0; decide
          refine J_iload_n dX9_addFrom_64 rfl rfl ?_
          exact J_iret dX9_addFrom_65 rfl rfl rfl (by have e9 : rdL j z 21 0 σ = (nI k, τ) := (by rw [← hrd, rdL, if_pos (by omega), if_pos hneg]); rw [e9] at hq; exact hq _ _ (y42) (y43) (y44) (y62) rfl rfl hso)
        · by_cases ksz3 : sgn τ = 8
          · refine J_aload_n dX9_addFrom_51 rfl rfl ?_
            refine J_iload dX9_addFrom_52 rfl ?_
            refine J_iload dX9_addFrom_54 rfl ?_
            refine J_iload dX9_addFrom_56 rfl ?_
            refine J_cVi (x := yX12_in) [.int (τ 2 (60 * j + 3 * k)), .int (τ 2 (60 * j + 3 * k + 1)), .int (τ 2 (60 * j + 3 * k + 2))] 8 mv_X9_40 (c_X9_add_full r (su 62 (su 44 (su 43 (su 42 s y42) y43) y44) y62) l (sgn τ) (hso.1) ksz3 (τ 2 (60 * j + 3 * k)) (τ 2 (60 * j + 3 * k + 1)) (τ 2 (60 * j + 3 * k + 2))) cW_8 rfl rfl (by decide) (Nat.le_of_ble_eq_true rfl) ⟨Nat.le_refl _, Nat.le_refl _⟩ dX9_addFrom_58 ?_
            refine J_if_ne 66 dX9_addFrom_61 (by decide) (fun c => absurd c (by decide)) (fun _ => ?_)
            have hneg : (oSeen (τ 2 (60 * j + 3 * k)) (τ 2 (60 * j + 3 * k + 1)) (τ 2 (60 * j + 3 * k + 2)) τ).1 < 0 := by rw [oSeen, if_pos kcz2, if_pos ksz3]; show (-4 : Int32) < 0; decide
            refine J_iload_n dX9_addFrom_64 rfl rfl ?_
            exact J_iret dX9_addFrom_65 rfl rfl rfl (by have e9 : rdL j z 21 0 σ = (nI k, τ) := (by rw [← hrd, rdL, if_pos (by omega), if_pos hneg]); rw [e9] at hq; exact hq _ _ (y42) (y43) (y44) (y62) rfl rfl hso)
          · refine J_aload_n dX9_addFrom_51 rfl rfl ?_
            refine J_iload dX9_addFrom_52 rfl ?_
            refine J_iload dX9_addFrom_54 rfl ?_
            refine J_iload dX9_addFrom_56 rfl ?_
            refine J_cVi (x := yX12_in) [.int (τ 2 (60 * j + 3 * k)), .int (τ 2 (60 * j + 3 * k + 1)), .int (τ 2 (60 * j + 3 * k + 2))] 8 mv_X9_40 (c_X9_add r (su 62 (su 44 (su 43 (su 42 s y42) y43) y44) y62) l (sgn τ) (hso.1) (by have := hLt.sg.2.1; omega) (τ 2 (60 * j + 3 * k)) (τ 2 (60 * j + 3 * k + 1)) (τ 2 (60 * j + 3 * k + 2))) cW_8 rfl rfl (by decide) (Nat.le_of_ble_eq_true rfl) ⟨Nat.le_refl _, Nat.le_refl _⟩ dX9_addFrom_58 ?_
            show J G "addFrom" RX9 cX9_addFrom 7 (some .int) 0 0 2 Q 0 0 61 [(0, .ref (r 8)), (1, .ref (r (11 + j))), (2, .int (nI k)), (3, .int (nI (3 * k))), (4, .int (τ 2 (60 * j + 3 * k))), (5, .int (τ 2 (60 * j + 3 * k + 1))), (6, .int (τ 2 (60 * j + 3 * k + 2)))] [.int (bI true)] (cW G r (su 62 (su 44 (su 43 (su 42 (su 62 (su 44 (su 43 (su 42 s y42) y43) y44) y62) (upd y42 (sgn τ) (τ 2 (60 * j + 3 * k)))) (upd y43 (sgn τ) (τ 2 (60 * j + 3 * k + 1)))) (upd y44 (sgn τ) (τ 2 (60 * j + 3 * k + 2)))) (fun _ => nI (sgn τ + 1))) l)
            refine J_ws (ws2 := (cW G r (su 62 (su 44 (su 43 (su 42 s (upd y42 (sgn τ) (τ 2 (60 * j + 3 * k)))) (upd y43 (sgn τ) (τ 2 (60 * j + 3 * k + 1)))) (upd y44 (sgn τ) (τ 2 (60 * j + 3 * k + 2)))) (fun _ => nI (sgn τ + 1))) l)) (congrArg (fun q_ => cW G r q_ l) (Eq.trans (Eq.trans (Eq.trans (su_cg (su_cg (su_cg ((su_sw (by decide)).trans (su_cg ((su_sw (by decide)).trans (su_cg ((su_sw (by decide)).trans (su_cg su_tw))))))))) (su_cg (su_cg ((su_sw (by decide)).trans (su_cg ((su_sw (by decide)).trans (su_cg su_tw))))))) (su_cg ((su_sw (by decide)).trans (su_cg su_tw)))) su_tw)) ?_
            refine J_if_ne 66 dX9_addFrom_61 (by decide) (fun _ => ?_) (fun c => absurd c (by decide))
            have hos : oSeen (τ 2 (60 * j + 3 * k)) (τ 2 (60 * j + 3 * k + 1)) (τ 2 (60 * j + 3 * k + 2)) τ = (nI (sgn τ + 1), su 22 (su 21 τ (fun _ => nI (sgn τ + 1))) (upd (upd (upd (τ 22) (3 * sgn τ) (τ 2 (60 * j + 3 * k))) (3 * sgn τ + 1) (τ 2 (60 * j + 3 * k + 1))) (3 * sgn τ + 2) (τ 2 (60 * j + 3 * k + 2)))) := by rw [oSeen, if_pos kcz2, if_neg ksz3]
            have hpos : ¬ (oSeen (τ 2 (60 * j + 3 * k)) (τ 2 (60 * j + 3 * k + 1)) (τ 2 (60 * j + 3 * k + 2)) τ).1 < 0 := by rw [hos]; exact cI_nlt (by have := hLt.sg.2.1; omega)
            refine J_iincN [(0, .ref (r 8)), (1, .ref (r (11 + j))), (2, .int (nI (k + 1))), (3, .int (nI (3 * k))), (4, .int (τ 2 (60 * j + 3 * k))), (5, .int (τ 2 (60 * j + 3 * k + 1))), (6, .int (τ 2 (60 * j + 3 * k + 2)))] dX9_addFrom_66 rfl (by decide) rfl rfl rfl ?_
            refine J_iinc [(0, .ref (r 8)), (1, .ref (r (11 + j))), (2, .int (nI (k + 1))), (3, .int (nI (3 * k + 3))), (4, .int (τ 2 (60 * j + 3 * k))), (5, .int (τ 2 (60 * j + 3 * k + 1))), (6, .int (τ 2 (60 * j + 3 * k + 2)))] dX9_addFrom_69 rfl (nI_add _ 3) (by decide) rfl rfl rfl ?_
            refine J_goto 4 dX9_addFrom_72 (by decide) ?_
            refine J_lv [0, 1, 2, 3] rfl ?_
            exact ih4 (k + 1) (oSeen (τ 2 (60 * j + 3 * k)) (τ 2 (60 * j + 3 * k + 1)) (τ 2 (60 * j + 3 * k + 2)) τ).2 (upd y42 (sgn τ) (τ 2 (60 * j + 3 * k))) (upd y43 (sgn τ) (τ 2 (60 * j + 3 * k + 1))) (upd y44 (sgn τ) (τ 2 (60 * j + 3 * k + 2))) (fun _ => nI (sgn τ + 1)) (by omega) (by omega) (li_seen hLt _ _ _) (by rw [oSeen_k (by decide)]; exact hit) (by rw [hos]; exact sgo_add hso hLt ksz3) (by rw [← hrd, rdL, if_pos (by omega), if_neg hpos]) _ _ rfl (congrArg nI (by omega))
  exact L4 21 0 σ (s 42) (s 43) (s 44) (s 62) (by omega) (by omega) hLs hit0 hso0 rfl _ _ rfl rfl
theorem c_X9_addFrom {G : GT} (r : Nat → Nat) (s : St) (l : Nat → Int64) (j : Nat) (hj : j < 4) (z : Nat) (hz : s 68 j = nI z) (hz60 : z ≤ 60) (σ : St) (hLs : LI σ) (hso0 : SgOk σ s) (hit0 : ∀ i, i < z → s (70 + j) i = σ 2 (60 * j + i)) : Ct G yX9_addFrom cX9_addFrom 7 (some .int) 0 0 2 [.ref (r 8), .ref (r (11 + j))] (cW G r s l) (fun v w => ∃ y42 y43 y44 y62 : Nat → Int32, v = some (.int (rdL j z 21 0 σ).1) ∧ w = cW G r (su 62 (su 44 (su 43 (su 42 s y42) y43) y44) y62) l ∧ SgOk (rdL j z 21 0 σ).2 (su 62 (su 44 (su 43 (su 42 s y42) y43) y44) y62)) := Ct.of rfl (Nat.le_of_ble_eq_true rfl) (j_X9_addFrom r s l j hj z hz hz60 σ hLs hso0 hit0 (fun v_ w_ y42 y43 y44 y62 h1 h2 h3 => ⟨y42, y43, y44, y62, by rw [h1], h2, h3⟩))
set_option maxRecDepth 100000 in
set_option maxHeartbeats 1000000 in
theorem j_X11_found {G : GT} (r : Nat → Nat) (s : St) (l : Nat → Int64) (k : Nat) {Q : Option Value → va_W → Prop} (hq : ∀ v_ : Int32, v_ = (-10) - nI k → Q (some (.int v_)) (cW G r (su 50 s (fun _ => nI k)) l)) : J G "found" RX11 cX11_found 2 (some .int) 0 0 0 Q 0 0 0 [(0, .ref (r 0)), (1, .int (nI k))] [] (cW G r s l) := by
  refine J_aload_n dX11_found_0 rfl rfl ?_
  refine J_iload_n dX11_found_1 rfl rfl ?_
  refine Cp_0_5 fr_X11_43_10 dX11_found_2 ?_
  refine J_bipush (v := -10) dX11_found_5 (by decide) ?_
  refine J_iload_n dX11_found_7 rfl rfl ?_
  refine J_isub dX11_found_8 ?_
  exact J_iret dX11_found_9 rfl rfl rfl (hq _ (by simp []))
theorem c_X11_found {G : GT} (r : Nat → Nat) (s : St) (l : Nat → Int64) (k : Nat) : Ct G yX11_found cX11_found 2 (some .int) 0 0 0 [.ref (r 0), .int (nI k)] (cW G r s l) (Is (some (.int ((-10) - nI k))) (cW G r (su 50 s (fun _ => nI k)) l)) := Ct.of rfl (Nat.le_of_ble_eq_true rfl) (j_X11_found r s l k (fun _ e => by subst e; exact Is.rf _ _))
set_option maxRecDepth 100000 in
set_option maxHeartbeats 1000000 in
theorem j_X11_listingOf0 {G : GT} (r : Nat → Nat) (s : St) (l : Nat → Int64)  {Q : Option Value → va_W → Prop} (hq : Q (some (.ref (r 3))) (cW G r s l)) : J G "listingOf" RX11 cX11_listingOf 2 (some (.object "HabitWill$Listing")) 0 0 0 Q 0 0 0 [(0, .ref (r 0)), (1, .int (nI 0))] [] (cW G r s l) := by
  refine J_iload_n dX11_listingOf_0 rfl rfl ?_
  refine J_lookup (off := 27) 28 dX11_listingOf_1 (by decide) (by decide) (by decide) ?_
  refine J_aload_n dX11_listingOf_28 rfl rfl ?_
  refine Cg_0_0 fr_X11_10_10 dX11_listingOf_29 ?_
  refine Cg_1_0 fr_X11_76_1 dX11_listingOf_32 ?_
  refine Cg_2_0 fr_X11_80_4 dX11_listingOf_35 ?_
  exact J_aret dX11_listingOf_38 rfl rfl rfl hq
theorem c_X11_listingOf0 {G : GT} (r : Nat → Nat) (s : St) (l : Nat → Int64)  : Ct G yX11_listingOf cX11_listingOf 2 (some (.object "HabitWill$Listing")) 0 0 0 [.ref (r 0), .int (nI 0)] (cW G r s l) (Is (some (.ref (r 3))) (cW G r s l)) := Ct.of rfl (Nat.le_of_ble_eq_true rfl) (j_X11_listingOf0 r s l (Is.rf _ _))
set_option maxRecDepth 100000 in
set_option maxHeartbeats 1000000 in
theorem j_X11_listingOf1 {G : GT} (r : Nat → Nat) (s : St) (l : Nat → Int64)  {Q : Option Value → va_W → Prop} (hq : Q (some (.ref (r 4))) (cW G r s l)) : J G "listingOf" RX11 cX11_listingOf 2 (some (.object "HabitWill$Listing")) 0 0 0 Q 0 0 0 [(0, .ref (r 0)), (1, .int (nI 1))] [] (cW G r s l) := by
  refine J_iload_n dX11_listingOf_0 rfl rfl ?_
  refine J_lookup (off := 38) 39 dX11_listingOf_1 (by decide) (by decide) (by decide) ?_
  refine J_aload_n dX11_listingOf_39 rfl rfl ?_
  refine Cg_0_0 fr_X11_10_10 dX11_listingOf_40 ?_
  refine Cg_1_0 fr_X11_76_1 dX11_listingOf_43 ?_
  refine Cg_2_1 fr_X11_107_4 dX11_listingOf_46 ?_
  exact J_aret dX11_listingOf_49 rfl rfl rfl hq
theorem c_X11_listingOf1 {G : GT} (r : Nat → Nat) (s : St) (l : Nat → Int64)  : Ct G yX11_listingOf cX11_listingOf 2 (some (.object "HabitWill$Listing")) 0 0 0 [.ref (r 0), .int (nI 1)] (cW G r s l) (Is (some (.ref (r 4))) (cW G r s l)) := Ct.of rfl (Nat.le_of_ble_eq_true rfl) (j_X11_listingOf1 r s l (Is.rf _ _))
set_option maxRecDepth 100000 in
set_option maxHeartbeats 1000000 in
theorem j_X11_listingOf2 {G : GT} (r : Nat → Nat) (s : St) (l : Nat → Int64)  {Q : Option Value → va_W → Prop} (hq : Q (some (.ref (r 5))) (cW G r s l)) : J G "listingOf" RX11 cX11_listingOf 2 (some (.object "HabitWill$Listing")) 0 0 0 Q 0 0 0 [(0, .ref (r 0)), (1, .int (nI 2))] [] (cW G r s l) := by
  refine J_iload_n dX11_listingOf_0 rfl rfl ?_
  refine J_lookup (off := 49) 50 dX11_listingOf_1 (by decide) (by decide) (by decide) ?_
  refine J_aload_n dX11_listingOf_50 rfl rfl ?_
  refine Cg_0_0 fr_X11_10_10 dX11_listingOf_51 ?_
  refine Cg_1_1 fr_X11_123_1 dX11_listingOf_54 ?_
  exact J_aret dX11_listingOf_57 rfl rfl rfl hq
theorem c_X11_listingOf2 {G : GT} (r : Nat → Nat) (s : St) (l : Nat → Int64)  : Ct G yX11_listingOf cX11_listingOf 2 (some (.object "HabitWill$Listing")) 0 0 0 [.ref (r 0), .int (nI 2)] (cW G r s l) (Is (some (.ref (r 5))) (cW G r s l)) := Ct.of rfl (Nat.le_of_ble_eq_true rfl) (j_X11_listingOf2 r s l (Is.rf _ _))
set_option maxRecDepth 100000 in
set_option maxHeartbeats 1000000 in
theorem j_X11_leastOf {G : GT} (ws : va_W) (b : Nat) (hb : b < 256) {Q : Option Value → va_W → Prop} (hq : ∀ v_ : Int32, v_ = lsC b → Q (some (.int v_)) ws) : J G "leastOf" RX11 cX11_leastOf 2 (some .int) 0 0 1 Q 0 0 0 [(0, .int (nI b))] [] ws := by
  refine J_iconst (v := nI 0) dX11_leastOf_0 (by decide) ?_
  refine J_istore_n [(0, .int (nI b)), (1, .int (nI 0))] dX11_leastOf_1 rfl (by decide) rfl rfl rfl ?_
  have L2 : ∀ (f i : Nat), 8 - i < f → i ≤ 8 → (∀ k, k < i → b.testBit k = false) → ∀ (x1 : Int32), x1 = nI i → J G "leastOf" RX11 cX11_leastOf 2 (some .int) 0 0 1 Q 0 0 2 [(0, .int (nI b)), (1, .int x1)] [] ws := by
    intro f
    induction f with
    | zero => intro i h; exact absurd h (Nat.not_lt_zero _)
    | succ f ih2 =>
      intro i hf2 hle2 hno x1 e1
      subst e1
      refine J_iload_n dX11_leastOf_2 rfl rfl ?_
      refine J_bipush (v := nI 8) dX11_leastOf_3 (by decide) ?_
      refine J_icmp_geN 24 (by omega) (by omega) dX11_leastOf_5 (by decide) (fun kcz1 => ?_) (fun kcz1 => ?_)
      · refine J_iconst (v := -1) dX11_leastOf_24 (by decide) ?_
        exact J_iret dX11_leastOf_25 rfl rfl rfl (hq _ (ls_none (fun k hk => hno k (by omega))))
      · refine J_iload_n dX11_leastOf_8 rfl rfl ?_
        refine J_iload_n dX11_leastOf_9 rfl rfl ?_
        refine J_cSi [.int (nI b), .int (nI i)] ms_X11_240 (c_X11_hasBitN ws b i (by omega) (by omega)) rfl rfl (by decide) (Nat.le_of_ble_eq_true rfl) ⟨Nat.le_refl _, Nat.le_refl _⟩ dX11_leastOf_10 ?_
        refine J_if_eqB 18 dX11_leastOf_13 (by decide) (fun kcz2 => ?_) (fun kcz2 => ?_)
        · refine J_iincN [(0, .int (nI b)), (1, .int (nI (i + 1)))] dX11_leastOf_18 rfl (by decide) rfl rfl rfl ?_
          refine J_goto 2 dX11_leastOf_21 (by decide) ?_
          exact ih2 (i + 1) (by omega) (by omega) (ls_s hno kcz2) _ rfl
        · refine J_iload_n dX11_leastOf_16 rfl rfl ?_
          exact J_iret dX11_leastOf_17 rfl rfl rfl (hq _ (ls_hit (by omega) hno kcz2))
  exact L2 9 0 (by omega) (by omega) (fun k hk => absurd hk (Nat.not_lt_zero _)) _ rfl
theorem c_X11_leastOf {G : GT} (ws : va_W) (b : Nat) (hb : b < 256) : Ct G yX11_leastOf cX11_leastOf 2 (some .int) 0 0 1 [.int (nI b)] ws (Is (some (.int (lsC b))) ws) := Ct.of rfl (Nat.le_of_ble_eq_true rfl) (j_X11_leastOf ws b hb (fun _ e => by subst e; exact Is.rf _ _))
set_option maxRecDepth 100000 in
set_option maxHeartbeats 1000000 in
theorem j_X11_partOfQuarrel0 {G : GT} (ws : va_W) (t e b : Nat) (hb : b < 256) (hb0 : 0 < b) {Q : Option Value → va_W → Prop} (hq : ∀ v_ : Int32, v_ = nI t → Q (some (.int v_)) ws) : J G "partOfQuarrel" RX11 cX11_partOfQuarrel 4 (some .int) 0 0 2 Q 0 0 0 [(0, .int (nI 0)), (1, .int (nI t)), (2, .int (nI e)), (3, .int (nI b))] [] ws := by
  refine J_iload_n dX11_partOfQuarrel_0 rfl rfl ?_
  refine J_tblIn (off := 27) 28 dX11_partOfQuarrel_1 (by decide) (by decide) (by decide) (by decide) ?_
  refine J_iload_n dX11_partOfQuarrel_28 rfl rfl ?_
  exact J_iret dX11_partOfQuarrel_29 rfl rfl rfl (hq _ rfl)
theorem c_X11_partOfQuarrel0 {G : GT} (ws : va_W) (t e b : Nat) (hb : b < 256) (hb0 : 0 < b) : Ct G yX11_partOfQuarrel cX11_partOfQuarrel 4 (some .int) 0 0 2 [.int (nI 0), .int (nI t), .int (nI e), .int (nI b)] ws (Is (some (.int (nI t))) ws) := Ct.of rfl (Nat.le_of_ble_eq_true rfl) (j_X11_partOfQuarrel0 ws t e b hb hb0 (fun _ e => by subst e; exact Is.rf _ _))
set_option maxRecDepth 100000 in
set_option maxHeartbeats 1000000 in
theorem j_X11_partOfQuarrel1 {G : GT} (ws : va_W) (t e b : Nat) (hb : b < 256) (hb0 : 0 < b) {Q : Option Value → va_W → Prop} (hq : ∀ v_ : Int32, v_ = nI e → Q (some (.int v_)) ws) : J G "partOfQuarrel" RX11 cX11_partOfQuarrel 4 (some .int) 0 0 2 Q 0 0 0 [(0, .int (nI 1)), (1, .int (nI t)), (2, .int (nI e)), (3, .int (nI b))] [] ws := by
  refine J_iload_n dX11_partOfQuarrel_0 rfl rfl ?_
  refine J_tblIn (off := 29) 30 dX11_partOfQuarrel_1 (by decide) (by decide) (by decide) (by decide) ?_
  refine J_iload_n dX11_partOfQuarrel_30 rfl rfl ?_
  exact J_iret dX11_partOfQuarrel_31 rfl rfl rfl (hq _ rfl)
theorem c_X11_partOfQuarrel1 {G : GT} (ws : va_W) (t e b : Nat) (hb : b < 256) (hb0 : 0 < b) : Ct G yX11_partOfQuarrel cX11_partOfQuarrel 4 (some .int) 0 0 2 [.int (nI 1), .int (nI t), .int (nI e), .int (nI b)] ws (Is (some (.int (nI e))) ws) := Ct.of rfl (Nat.le_of_ble_eq_true rfl) (j_X11_partOfQuarrel1 ws t e b hb hb0 (fun _ e => by subst e; exact Is.rf _ _))
set_option maxRecDepth 100000 in
set_option maxHeartbeats 1000000 in
theorem j_X11_partOfQuarrel2 {G : GT} (ws : va_W) (t e b : Nat) (hb : b < 256) (hb0 : 0 < b) {Q : Option Value → va_W → Prop} (hq : ∀ v_ : Int32, v_ = lsC b → Q (some (.int v_)) ws) : J G "partOfQuarrel" RX11 cX11_partOfQuarrel 4 (some .int) 0 0 2 Q 0 0 0 [(0, .int (nI 2)), (1, .int (nI t)), (2, .int (nI e)), (3, .int (nI b))] [] ws := by
  refine J_iload_n dX11_partOfQuarrel_0 rfl rfl ?_
  refine J_tblIn (off := 31) 32 dX11_partOfQuarrel_1 (by decide) (by decide) (by decide) (by decide) ?_
  refine J_iload_n dX11_partOfQuarrel_32 rfl rfl ?_
  refine J_cSi [.int (nI b)] ms_X11_336 (c_X11_leastOf ws b (by omega)) rfl rfl (by decide) (Nat.le_of_ble_eq_true rfl) ⟨Nat.le_refl _, Nat.le_refl _⟩ dX11_partOfQuarrel_33 ?_
  exact J_iret dX11_partOfQuarrel_36 rfl rfl rfl (hq _ rfl)
theorem c_X11_partOfQuarrel2 {G : GT} (ws : va_W) (t e b : Nat) (hb : b < 256) (hb0 : 0 < b) : Ct G yX11_partOfQuarrel cX11_partOfQuarrel 4 (some .int) 0 0 2 [.int (nI 2), .int (nI t), .int (nI e), .int (nI b)] ws (Is (some (.int (lsC b))) ws) := Ct.of rfl (Nat.le_of_ble_eq_true rfl) (j_X11_partOfQuarrel2 ws t e b hb hb0 (fun _ e => by subst e; exact Is.rf _ _))
set_option maxRecDepth 100000 in
set_option maxHeartbeats 1000000 in
theorem j_X11_partOfQuarrel3 {G : GT} (ws : va_W) (t e b : Nat) (hb : b < 256) (hb0 : 0 < b) {Q : Option Value → va_W → Prop} (hq : ∀ v_ : Int32, v_ = lsC (b &&& (b - 1)) → Q (some (.int v_)) ws) : J G "partOfQuarrel" RX11 cX11_partOfQuarrel 4 (some .int) 0 0 2 Q 0 0 0 [(0, .int (nI 3)), (1, .int (nI t)), (2, .int (nI e)), (3, .int (nI b))] [] ws := by
  refine J_iload_n dX11_partOfQuarrel_0 rfl rfl ?_
  refine J_tblOut 37 dX11_partOfQuarrel_1 (by decide) (by decide) ?_
  refine J_iload_n dX11_partOfQuarrel_37 rfl rfl ?_
  refine J_iload_n dX11_partOfQuarrel_38 rfl rfl ?_
  refine J_iconst (v := nI 1) dX11_partOfQuarrel_39 (by decide) ?_
  refine J_isubN dX11_partOfQuarrel_40 (by omega) ?_
  refine J_iandN dX11_partOfQuarrel_41 ?_
  refine J_cSi [.int (nI (b &&& (b - 1)))] ms_X11_336 (c_X11_leastOf ws (b &&& (b - 1)) (Nat.lt_of_le_of_lt Nat.and_le_left hb)) rfl rfl (by decide) (Nat.le_of_ble_eq_true rfl) ⟨Nat.le_refl _, Nat.le_refl _⟩ dX11_partOfQuarrel_42 ?_
  exact J_iret dX11_partOfQuarrel_45 rfl rfl rfl (hq _ rfl)
theorem c_X11_partOfQuarrel3 {G : GT} (ws : va_W) (t e b : Nat) (hb : b < 256) (hb0 : 0 < b) : Ct G yX11_partOfQuarrel cX11_partOfQuarrel 4 (some .int) 0 0 2 [.int (nI 3), .int (nI t), .int (nI e), .int (nI b)] ws (Is (some (.int (lsC (b &&& (b - 1))))) ws) := Ct.of rfl (Nat.le_of_ble_eq_true rfl) (j_X11_partOfQuarrel3 ws t e b hb hb0 (fun _ e => by subst e; exact Is.rf _ _))
set_option maxRecDepth 100000 in
set_option maxHeartbeats 1000000 in
theorem j_X11_mix {G : GT} (ws : va_W) (h v : Int64) {Q : Option Value → va_W → Prop} (hq : ∀ v_ : Int64, v_ = 31 * h + v → Q (some (.long v_)) ws) : J G "mix" RX11 cX11_mix 4 (some .long) 0 0 0 Q 0 0 0 [(0, .long h), (2, .long v)] [] ws := by
  refine J_ldc2 dX11_mix_0 k_X11_353 ?_
  refine J_lload_n dX11_mix_3 rfl rfl ?_
  refine J_lmul dX11_mix_4 ?_
  refine J_lload_n dX11_mix_5 rfl rfl ?_
  refine J_ladd dX11_mix_6 ?_
  exact J_lret dX11_mix_7 rfl rfl rfl (hq _ (by simp []))
theorem c_X11_mix {G : GT} (ws : va_W) (h v : Int64) : Ct G yX11_mix cX11_mix 4 (some .long) 0 0 0 [.long h, .long v] ws (Is (some (.long (31 * h + v))) ws) := Ct.of rfl (Nat.le_of_ble_eq_true rfl) (j_X11_mix ws h v (fun _ e => by subst e; exact Is.rf _ _))
set_option maxRecDepth 100000 in
set_option maxHeartbeats 1000000 in
theorem j_X11_choices {G : GT} (ws : va_W) (vc lf : Nat) (hlf : lf < 9) {Q : Option Value → va_W → Prop} (hq : ∀ v_ : Int64, v_ = chC vc lf → Q (some (.long v_)) ws) : J G "choices" RX11 cX11_choices 5 (some .long) 0 0 0 Q 0 0 0 [(0, .int (nI vc)), (1, .int (nI lf))] [] ws := by
  refine J_lconst (v := 1) dX11_choices_0 (by decide) ?_
  refine J_lstore_n [(0, .int (nI vc)), (1, .int (nI lf)), (2, .long 1)] dX11_choices_1 rfl (by decide) rfl rfl rfl ?_
  refine J_iconst (v := nI 0) dX11_choices_2 (by decide) ?_
  refine J_istore [(0, .int (nI vc)), (1, .int (nI lf)), (2, .long 1), (4, .int (nI 0))] dX11_choices_3 (by decide) rfl rfl rfl ?_
  have L5 : ∀ (f i : Nat), lf - i < f → i ≤ lf → ∀ (x2 : Int64) (x4 : Int32), x2 = chC vc i → x4 = nI i → J G "choices" RX11 cX11_choices 5 (some .long) 0 0 0 Q 0 0 5 [(0, .int (nI vc)), (1, .int (nI lf)), (2, .long x2), (4, .int x4)] [] ws := by
    intro f
    induction f with
    | zero => intro i h; exact absurd h (Nat.not_lt_zero _)
    | succ f ih5 =>
      intro i hf5 hle5  x2 x4 e2 e4
      subst e2
      subst e4
      refine J_iload dX11_choices_5 rfl ?_
      refine J_iload_n dX11_choices_7 rfl rfl ?_
      refine J_icmp_geN 31 (by omega) (by omega) dX11_choices_8 (by decide) (fun kcz1 => ?_) (fun kcz1 => ?_)
      · refine J_lload_n dX11_choices_31 rfl rfl ?_
        exact J_lret dX11_choices_32 rfl rfl rfl (hq _ (by obtain rfl : i = lf := (by omega); rfl))
      · refine J_lload_n dX11_choices_11 rfl rfl ?_
        refine J_iload_n dX11_choices_12 rfl rfl ?_
        refine J_iload dX11_choices_13 rfl ?_
        refine J_isub dX11_choices_15 ?_
        refine J_i2l dX11_choices_16 ?_
        refine J_lmul dX11_choices_17 ?_
        refine J_iload dX11_choices_18 rfl ?_
        refine J_iconst (v := nI 1) dX11_choices_20 (by decide) ?_
        refine J_iaddN dX11_choices_21 ?_
        refine J_i2l dX11_choices_22 ?_
        refine J_ldiv dX11_choices_23 (nIL_ne (by omega) (by omega)) ?_
        refine J_lstore_n [(0, .int (nI vc)), (1, .int (nI lf)), (2, .long (((chC vc i) * (((nI vc) - (nI i)).toInt64)) / ((nI (i + 1)).toInt64))), (4, .int (nI i))] dX11_choices_24 rfl (by decide) rfl rfl rfl ?_
        refine J_iincN [(0, .int (nI vc)), (1, .int (nI lf)), (2, .long (((chC vc i) * (((nI vc) - (nI i)).toInt64)) / ((nI (i + 1)).toInt64))), (4, .int (nI (i + 1)))] dX11_choices_25 rfl (by decide) rfl rfl rfl ?_
        refine J_goto 5 dX11_choices_28 (by decide) ?_
        exact ih5 (i + 1) (by omega) (by omega)  _ _ rfl rfl
  exact L5 (lf + 1) 0 (by omega) (by omega)  _ _ rfl rfl
theorem c_X11_choices {G : GT} (ws : va_W) (vc lf : Nat) (hlf : lf < 9) : Ct G yX11_choices cX11_choices 5 (some .long) 0 0 0 [.int (nI vc), .int (nI lf)] ws (Is (some (.long (chC vc lf))) ws) := Ct.of rfl (Nat.le_of_ble_eq_true rfl) (j_X11_choices ws vc lf hlf (fun _ e => by subst e; exact Is.rf _ _))
set_option maxRecDepth 100000 in
set_option maxHeartbeats 1000000 in
theorem j_X11_power {G : GT} (ws : va_W) (b t : Nat) (ht : t < 2 ^ 30) {Q : Option Value → va_W → Prop} (hq : ∀ v_ : Int64, v_ = pwC b t → Q (some (.long v_)) ws) : J G "power" RX11 cX11_power 5 (some .long) 0 0 0 Q 0 0 0 [(0, .int (nI b)), (1, .int (nI t))] [] ws := by
  refine J_lconst (v := 1) dX11_power_0 (by decide) ?_
  refine J_lstore_n [(0, .int (nI b)), (1, .int (nI t)), (2, .long 1)] dX11_power_1 rfl (by decide) rfl rfl rfl ?_
  refine J_iconst (v := nI 0) dX11_power_2 (by decide) ?_
  refine J_istore [(0, .int (nI b)), (1, .int (nI t)), (2, .long 1), (4, .int (nI 0))] dX11_power_3 (by decide) rfl rfl rfl ?_
  have L5 : ∀ (f i : Nat), t - i < f → i ≤ t → ∀ (x2 : Int64) (x4 : Int32), x2 = pwC b i → x4 = nI i → J G "power" RX11 cX11_power 5 (some .long) 0 0 0 Q 0 0 5 [(0, .int (nI b)), (1, .int (nI t)), (2, .long x2), (4, .int x4)] [] ws := by
    intro f
    induction f with
    | zero => intro i h; exact absurd h (Nat.not_lt_zero _)
    | succ f ih5 =>
      intro i hf5 hle5  x2 x4 e2 e4
      subst e2
      subst e4
      refine J_iload dX11_power_5 rfl ?_
      refine J_iload_n dX11_power_7 rfl rfl ?_
      refine J_icmp_geN 22 (by omega) (by omega) dX11_power_8 (by decide) (fun kcz1 => ?_) (fun kcz1 => ?_)
      · refine J_lload_n dX11_power_22 rfl rfl ?_
        exact J_lret dX11_power_23 rfl rfl rfl (hq _ (by obtain rfl : i = t := (by omega); rfl))
      · refine J_lload_n dX11_power_11 rfl rfl ?_
        refine J_iload_n dX11_power_12 rfl rfl ?_
        refine J_i2l dX11_power_13 ?_
        refine J_lmul dX11_power_14 ?_
        refine J_lstore_n [(0, .int (nI b)), (1, .int (nI t)), (2, .long ((pwC b i) * ((nI b).toInt64))), (4, .int (nI i))] dX11_power_15 rfl (by decide) rfl rfl rfl ?_
        refine J_iincN [(0, .int (nI b)), (1, .int (nI t)), (2, .long ((pwC b i) * ((nI b).toInt64))), (4, .int (nI (i + 1)))] dX11_power_16 rfl (by decide) rfl rfl rfl ?_
        refine J_goto 5 dX11_power_19 (by decide) ?_
        exact ih5 (i + 1) (by omega) (by omega)  _ _ rfl rfl
  exact L5 (t + 1) 0 (by omega) (by omega)  _ _ rfl rfl
theorem c_X11_power {G : GT} (ws : va_W) (b t : Nat) (ht : t < 2 ^ 30) : Ct G yX11_power cX11_power 5 (some .long) 0 0 0 [.int (nI b), .int (nI t)] ws (Is (some (.long (pwC b t))) ws) := Ct.of rfl (Nat.le_of_ble_eq_true rfl) (j_X11_power ws b t ht (fun _ e => by subst e; exact Is.rf _ _))
set_option maxRecDepth 100000 in
set_option maxHeartbeats 1000000 in
theorem j_X11_power_neg {G : GT} (ws : va_W) (b : Nat) (t : Int32) (ht : t ≤ nI 0) {Q : Option Value → va_W → Prop} (hq : ∀ v_ : Int64, v_ = 1 → Q (some (.long v_)) ws) : J G "power" RX11 cX11_power 5 (some .long) 0 0 0 Q 0 0 0 [(0, .int (nI b)), (1, .int t)] [] ws := by
  refine J_lconst (v := 1) dX11_power_0 (by decide) ?_
  refine J_lstore_n [(0, .int (nI b)), (1, .int t), (2, .long 1)] dX11_power_1 rfl (by decide) rfl rfl rfl ?_
  refine J_iconst (v := nI 0) dX11_power_2 (by decide) ?_
  refine J_istore [(0, .int (nI b)), (1, .int t), (2, .long 1), (4, .int (nI 0))] dX11_power_3 (by decide) rfl rfl rfl ?_
  refine J_iload dX11_power_5 rfl ?_
  refine J_iload_n dX11_power_7 rfl rfl ?_
  refine J_icmp_ge 22 dX11_power_8 (by decide) (fun _ => ?_) (fun c => absurd ht c)
  refine J_lload_n dX11_power_22 rfl rfl ?_
  exact J_lret dX11_power_23 rfl rfl rfl (hq _ rfl)
theorem c_X11_power_neg {G : GT} (ws : va_W) (b : Nat) (t : Int32) (ht : t ≤ nI 0) : Ct G yX11_power cX11_power 5 (some .long) 0 0 0 [.int (nI b), .int t] ws (Is (some (.long 1)) ws) := Ct.of rfl (Nat.le_of_ble_eq_true rfl) (j_X11_power_neg ws b t ht (fun _ e => by subst e; exact Is.rf _ _))
set_option maxRecDepth 100000 in
set_option maxHeartbeats 1000000 in
theorem j_X11_chanceLeft0_le {G : GT} (ws : va_W) (c vc lf : Nat) (hc17 : c < 17) (hvc9 : vc < 9) (hlf9 : lf < 9) (hcs : lf ≤ vc) {Q : Option Value → va_W → Prop} (hq : ∀ v_ : Int64, v_ = mrA c vc lf 0 → Q (some (.long v_)) ws) : J G "chanceLeft" RX11 cX11_chanceLeft 9 (some .long) 0 0 1 Q 0 0 0 [(0, .int (nI c)), (1, .int (nI vc)), (2, .int (nI lf)), (3, .int (nI 0))] [] ws := by
  refine J_iload_n dX11_chanceLeft_0 rfl rfl ?_
  refine J_iload_n dX11_chanceLeft_1 rfl rfl ?_
  refine J_cSl [.int (nI vc), .int (nI lf)] ms_X11_346 (c_X11_choices ws vc lf (by omega)) rfl rfl (by decide) (Nat.le_of_ble_eq_true rfl) ⟨Nat.le_refl _, Nat.le_refl _⟩ dX11_chanceLeft_2 ?_
  refine J_bipush (v := nI 16) dX11_chanceLeft_5 (by decide) ?_
  refine J_iload_n dX11_chanceLeft_7 rfl rfl ?_
  refine J_isubN dX11_chanceLeft_8 (by omega) ?_
  refine J_iload_n dX11_chanceLeft_9 rfl rfl ?_
  refine J_cSl [.int (nI (16 - c)), .int (nI lf)] ms_X11_350 (c_X11_power ws (16 - c) lf (by omega)) rfl rfl (by decide) (Nat.le_of_ble_eq_true rfl) ⟨Nat.le_refl _, Nat.le_refl _⟩ dX11_chanceLeft_10 ?_
  refine J_lmul dX11_chanceLeft_13 ?_
  refine J_iload_n dX11_chanceLeft_14 rfl rfl ?_
  refine J_iload_n dX11_chanceLeft_15 rfl rfl ?_
  refine J_iload_n dX11_chanceLeft_16 rfl rfl ?_
  refine J_isubN dX11_chanceLeft_17 (by omega) ?_
  refine J_cSl [.int (nI c), .int (nI (vc - lf))] ms_X11_350 (c_X11_power ws c (vc - lf) (by omega)) rfl rfl (by decide) (Nat.le_of_ble_eq_true rfl) ⟨Nat.le_refl _, Nat.le_refl _⟩ dX11_chanceLeft_18 ?_
  refine J_lmul dX11_chanceLeft_21 ?_
  refine J_lstore [(0, .int (nI c)), (1, .int (nI vc)), (2, .int (nI lf)), (3, .int (nI 0)), (4, .long (((chC vc lf) * (pwC (16 - c) lf)) * (pwC c (vc - lf))))] dX11_chanceLeft_22 (by decide) rfl rfl rfl ?_
  refine J_bipush (v := nI 16) dX11_chanceLeft_24 (by decide) ?_
  refine J_iload_n dX11_chanceLeft_26 rfl rfl ?_
  refine J_cSl [.int (nI 16), .int (nI vc)] ms_X11_350 (c_X11_power ws 16 vc (by omega)) rfl rfl (by decide) (Nat.le_of_ble_eq_true rfl) ⟨Nat.le_refl _, Nat.le_refl _⟩ dX11_chanceLeft_27 ?_
  refine J_lstore [(0, .int (nI c)), (1, .int (nI vc)), (2, .int (nI lf)), (3, .int (nI 0)), (4, .long (((chC vc lf) * (pwC (16 - c) lf)) * (pwC c (vc - lf)))), (6, .long (pwC 16 vc))] dX11_chanceLeft_30 (by decide) rfl rfl rfl ?_
  refine J_iconst (v := nI 0) dX11_chanceLeft_32 (by decide) ?_
  refine J_istore [(0, .int (nI c)), (1, .int (nI vc)), (2, .int (nI lf)), (3, .int (nI 0)), (4, .long (((chC vc lf) * (pwC (16 - c) lf)) * (pwC c (vc - lf)))), (6, .long (pwC 16 vc)), (8, .int (nI 0))] dX11_chanceLeft_33 (by decide) rfl rfl rfl ?_
  have L35 : ∀ (f i : Nat) (xa xb : Int64), 4 * vc - i < f → i ≤ 4 * vc → hvF xa xb (4 * vc - i) = hvF (chC vc lf * pwC (16 - c) lf * pwC c (vc - lf)) (pwC 16 vc) (4 * vc) → ∀ (x4 : Int64) (x6 : Int64) (x8 : Int32), x4 = xa → x6 = xb → x8 = nI i → J G "chanceLeft" RX11 cX11_chanceLeft 9 (some .long) 0 0 1 Q 0 0 35 [(0, .int (nI c)), (1, .int (nI vc)), (2, .int (nI lf)), (3, .int (nI 0)), (4, .long x4), (6, .long x6), (8, .int x8)] [] ws := by
    intro f
    induction f with
    | zero => intro i xa xb h; exact absurd h (Nat.not_lt_zero _)
    | succ f ih35 =>
      intro i xa xb hf35 hle35 hhv x4 x6 x8 e4 e6 e8
      have e4s := e4.symm
      subst e4s
      have e6s := e6.symm
      subst e6s
      subst e8
      refine J_iload dX11_chanceLeft_35 rfl ?_
      refine J_iconst (v := nI 4) dX11_chanceLeft_37 (by decide) ?_
      refine J_iload_n dX11_chanceLeft_38 rfl rfl ?_
      refine J_imulN dX11_chanceLeft_39 ?_
      refine J_icmp_geN 70 (by omega) (by omega) dX11_chanceLeft_40 (by decide) (fun kcz1 => ?_) (fun kcz1 => ?_)
      · refine J_iload_n dX11_chanceLeft_70 rfl rfl ?_
        refine J_if_ne 79 dX11_chanceLeft_71 (by decide) (fun c => absurd c (by decide)) (fun _ => ?_)
        refine J_lload dX11_chanceLeft_74 rfl ?_
        refine J_goto 81 dX11_chanceLeft_76 (by decide) ?_
        exact J_lret dX11_chanceLeft_81 rfl rfl rfl (hq _ (by have e9 := (hv_le c (by omega) vc (by omega) lf (by omega) hcs).1; rw [← hhv] at e9; rw [← e9]; rw [show 4 * vc - i = 0 by omega]; rfl))
      · refine J_lload dX11_chanceLeft_43 rfl ?_
        refine J_lconst (v := 1) dX11_chanceLeft_45 (by decide) ?_
        refine J_land dX11_chanceLeft_46 ?_
        refine J_lconst (v := 0) dX11_chanceLeft_47 (by decide) ?_
        refine J_lcmp dX11_chanceLeft_48 ?_
        refine J_if_ne 70 dX11_chanceLeft_49 (by decide) (fun kcz2 => ?_) (fun kcz2 => ?_)
        · refine J_iload_n dX11_chanceLeft_70 rfl rfl ?_
          refine J_if_ne 79 dX11_chanceLeft_71 (by decide) (fun c => absurd c (by decide)) (fun _ => ?_)
          refine J_lload dX11_chanceLeft_74 rfl ?_
          refine J_goto 81 dX11_chanceLeft_76 (by decide) ?_
          exact J_lret dX11_chanceLeft_81 rfl rfl rfl (hq _ (by have e9 := (hv_le c (by omega) vc (by omega) lf (by omega) hcs).1; rw [← hhv] at e9; rw [← e9]; rw [hv_odd kcz2]))
        · refine J_lload dX11_chanceLeft_52 rfl ?_
          refine J_iconst (v := nI 1) dX11_chanceLeft_54 (by decide) ?_
          refine J_lshr dX11_chanceLeft_55 ?_
          refine J_lstore [(0, .int (nI c)), (1, .int (nI vc)), (2, .int (nI lf)), (3, .int (nI 0)), (4, .long (xa >>> ((nI 1).toInt64 &&& 63))), (6, .long xb), (8, .int (nI i))] dX11_chanceLeft_56 (by decide) rfl rfl rfl ?_
          refine J_lload dX11_chanceLeft_58 rfl ?_
          refine J_iconst (v := nI 1) dX11_chanceLeft_60 (by decide) ?_
          refine J_lshr dX11_chanceLeft_61 ?_
          refine J_lstore [(0, .int (nI c)), (1, .int (nI vc)), (2, .int (nI lf)), (3, .int (nI 0)), (4, .long (xa >>> ((nI 1).toInt64 &&& 63))), (6, .long (xb >>> ((nI 1).toInt64 &&& 63))), (8, .int (nI i))] dX11_chanceLeft_62 (by decide) rfl rfl rfl ?_
          refine J_iincN [(0, .int (nI c)), (1, .int (nI vc)), (2, .int (nI lf)), (3, .int (nI 0)), (4, .long (xa >>> ((nI 1).toInt64 &&& 63))), (6, .long (xb >>> ((nI 1).toInt64 &&& 63))), (8, .int (nI (i + 1)))] dX11_chanceLeft_64 rfl (by decide) rfl rfl rfl ?_
          refine J_goto 35 dX11_chanceLeft_67 (by decide) ?_
          exact ih35 (i + 1) _ _ (by omega) (by omega) (by rw [← hhv, hv_ev (by omega) kcz2]) _ _ _ rfl rfl rfl
  exact L35 (4 * vc + 1) 0 _ _ (by omega) (by omega) rfl _ _ _ rfl rfl rfl
theorem c_X11_chanceLeft0_le {G : GT} (ws : va_W) (c vc lf : Nat) (hc17 : c < 17) (hvc9 : vc < 9) (hlf9 : lf < 9) (hcs : lf ≤ vc) : Ct G yX11_chanceLeft cX11_chanceLeft 9 (some .long) 0 0 1 [.int (nI c), .int (nI vc), .int (nI lf), .int (nI 0)] ws (Is (some (.long (mrA c vc lf 0))) ws) := Ct.of rfl (Nat.le_of_ble_eq_true rfl) (j_X11_chanceLeft0_le ws c vc lf hc17 hvc9 hlf9 hcs (fun _ e => by subst e; exact Is.rf _ _))
set_option maxRecDepth 100000 in
set_option maxHeartbeats 1000000 in
theorem j_X11_chanceLeft0_gt {G : GT} (ws : va_W) (c vc lf : Nat) (hc17 : c < 17) (hvc9 : vc < 9) (hlf9 : lf < 9) (hcs : vc < lf) {Q : Option Value → va_W → Prop} (hq : ∀ v_ : Int64, v_ = mrA c vc lf 0 → Q (some (.long v_)) ws) : J G "chanceLeft" RX11 cX11_chanceLeft 9 (some .long) 0 0 1 Q 0 0 0 [(0, .int (nI c)), (1, .int (nI vc)), (2, .int (nI lf)), (3, .int (nI 0))] [] ws := by
  refine J_iload_n dX11_chanceLeft_0 rfl rfl ?_
  refine J_iload_n dX11_chanceLeft_1 rfl rfl ?_
  refine J_cSl [.int (nI vc), .int (nI lf)] ms_X11_346 (c_X11_choices ws vc lf (by omega)) rfl rfl (by decide) (Nat.le_of_ble_eq_true rfl) ⟨Nat.le_refl _, Nat.le_refl _⟩ dX11_chanceLeft_2 ?_
  refine J_bipush (v := nI 16) dX11_chanceLeft_5 (by decide) ?_
  refine J_iload_n dX11_chanceLeft_7 rfl rfl ?_
  refine J_isubN dX11_chanceLeft_8 (by omega) ?_
  refine J_iload_n dX11_chanceLeft_9 rfl rfl ?_
  refine J_cSl [.int (nI (16 - c)), .int (nI lf)] ms_X11_350 (c_X11_power ws (16 - c) lf (by omega)) rfl rfl (by decide) (Nat.le_of_ble_eq_true rfl) ⟨Nat.le_refl _, Nat.le_refl _⟩ dX11_chanceLeft_10 ?_
  refine J_lmul dX11_chanceLeft_13 ?_
  refine J_iload_n dX11_chanceLeft_14 rfl rfl ?_
  refine J_iload_n dX11_chanceLeft_15 rfl rfl ?_
  refine J_iload_n dX11_chanceLeft_16 rfl rfl ?_
  refine J_isub dX11_chanceLeft_17 ?_
  refine J_cSl [.int (nI c), .int ((nI vc) - (nI lf))] ms_X11_350 (c_X11_power_neg ws c _ (sub_neg (by omega) (by omega))) rfl rfl (by decide) (Nat.le_of_ble_eq_true rfl) ⟨Nat.le_refl _, Nat.le_refl _⟩ dX11_chanceLeft_18 ?_
  refine J_lmul dX11_chanceLeft_21 ?_
  refine J_lstore [(0, .int (nI c)), (1, .int (nI vc)), (2, .int (nI lf)), (3, .int (nI 0)), (4, .long (((chC vc lf) * (pwC (16 - c) lf)) * 1))] dX11_chanceLeft_22 (by decide) rfl rfl rfl ?_
  refine J_bipush (v := nI 16) dX11_chanceLeft_24 (by decide) ?_
  refine J_iload_n dX11_chanceLeft_26 rfl rfl ?_
  refine J_cSl [.int (nI 16), .int (nI vc)] ms_X11_350 (c_X11_power ws 16 vc (by omega)) rfl rfl (by decide) (Nat.le_of_ble_eq_true rfl) ⟨Nat.le_refl _, Nat.le_refl _⟩ dX11_chanceLeft_27 ?_
  refine J_lstore [(0, .int (nI c)), (1, .int (nI vc)), (2, .int (nI lf)), (3, .int (nI 0)), (4, .long (((chC vc lf) * (pwC (16 - c) lf)) * 1)), (6, .long (pwC 16 vc))] dX11_chanceLeft_30 (by decide) rfl rfl rfl ?_
  refine J_iconst (v := nI 0) dX11_chanceLeft_32 (by decide) ?_
  refine J_istore [(0, .int (nI c)), (1, .int (nI vc)), (2, .int (nI lf)), (3, .int (nI 0)), (4, .long (((chC vc lf) * (pwC (16 - c) lf)) * 1)), (6, .long (pwC 16 vc)), (8, .int (nI 0))] dX11_chanceLeft_33 (by decide) rfl rfl rfl ?_
  have L35 : ∀ (f i : Nat) (xa xb : Int64), 4 * vc - i < f → i ≤ 4 * vc → hvF xa xb (4 * vc - i) = hvF (chC vc lf * pwC (16 - c) lf * 1) (pwC 16 vc) (4 * vc) → ∀ (x4 : Int64) (x6 : Int64) (x8 : Int32), x4 = xa → x6 = xb → x8 = nI i → J G "chanceLeft" RX11 cX11_chanceLeft 9 (some .long) 0 0 1 Q 0 0 35 [(0, .int (nI c)), (1, .int (nI vc)), (2, .int (nI lf)), (3, .int (nI 0)), (4, .long x4), (6, .long x6), (8, .int x8)] [] ws := by
    intro f
    induction f with
    | zero => intro i xa xb h; exact absurd h (Nat.not_lt_zero _)
    | succ f ih35 =>
      intro i xa xb hf35 hle35 hhv x4 x6 x8 e4 e6 e8
      have e4s := e4.symm
      subst e4s
      have e6s := e6.symm
      subst e6s
      subst e8
      refine J_iload dX11_chanceLeft_35 rfl ?_
      refine J_iconst (v := nI 4) dX11_chanceLeft_37 (by decide) ?_
      refine J_iload_n dX11_chanceLeft_38 rfl rfl ?_
      refine J_imulN dX11_chanceLeft_39 ?_
      refine J_icmp_geN 70 (by omega) (by omega) dX11_chanceLeft_40 (by decide) (fun kcz1 => ?_) (fun kcz1 => ?_)
      · refine J_iload_n dX11_chanceLeft_70 rfl rfl ?_
        refine J_if_ne 79 dX11_chanceLeft_71 (by decide) (fun c => absurd c (by decide)) (fun _ => ?_)
        refine J_lload dX11_chanceLeft_74 rfl ?_
        refine J_goto 81 dX11_chanceLeft_76 (by decide) ?_
        exact J_lret dX11_chanceLeft_81 rfl rfl rfl (hq _ (by have e9 := (hv_gt c (by omega) vc (by omega) lf (by omega) hcs).1; rw [← hhv] at e9; rw [← e9]; rw [show 4 * vc - i = 0 by omega]; rfl))
      · refine J_lload dX11_chanceLeft_43 rfl ?_
        refine J_lconst (v := 1) dX11_chanceLeft_45 (by decide) ?_
        refine J_land dX11_chanceLeft_46 ?_
        refine J_lconst (v := 0) dX11_chanceLeft_47 (by decide) ?_
        refine J_lcmp dX11_chanceLeft_48 ?_
        refine J_if_ne 70 dX11_chanceLeft_49 (by decide) (fun kcz2 => ?_) (fun kcz2 => ?_)
        · refine J_iload_n dX11_chanceLeft_70 rfl rfl ?_
          refine J_if_ne 79 dX11_chanceLeft_71 (by decide) (fun c => absurd c (by decide)) (fun _ => ?_)
          refine J_lload dX11_chanceLeft_74 rfl ?_
          refine J_goto 81 dX11_chanceLeft_76 (by decide) ?_
          exact J_lret dX11_chanceLeft_81 rfl rfl rfl (hq _ (by have e9 := (hv_gt c (by omega) vc (by omega) lf (by omega) hcs).1; rw [← hhv] at e9; rw [← e9]; rw [hv_odd kcz2]))
        · refine J_lload dX11_chanceLeft_52 rfl ?_
          refine J_iconst (v := nI 1) dX11_chanceLeft_54 (by decide) ?_
          refine J_lshr dX11_chanceLeft_55 ?_
          refine J_lstore [(0, .int (nI c)), (1, .int (nI vc)), (2, .int (nI lf)), (3, .int (nI 0)), (4, .long (xa >>> ((nI 1).toInt64 &&& 63))), (6, .long xb), (8, .int (nI i))] dX11_chanceLeft_56 (by decide) rfl rfl rfl ?_
          refine J_lload dX11_chanceLeft_58 rfl ?_
          refine J_iconst (v := nI 1) dX11_chanceLeft_60 (by decide) ?_
          refine J_lshr dX11_chanceLeft_61 ?_
          refine J_lstore [(0, .int (nI c)), (1, .int (nI vc)), (2, .int (nI lf)), (3, .int (nI 0)), (4, .long (xa >>> ((nI 1).toInt64 &&& 63))), (6, .long (xb >>> ((nI 1).toInt64 &&& 63))), (8, .int (nI i))] dX11_chanceLeft_62 (by decide) rfl rfl rfl ?_
          refine J_iincN [(0, .int (nI c)), (1, .int (nI vc)), (2, .int (nI lf)), (3, .int (nI 0)), (4, .long (xa >>> ((nI 1).toInt64 &&& 63))), (6, .long (xb >>> ((nI 1).toInt64 &&& 63))), (8, .int (nI (i + 1)))] dX11_chanceLeft_64 rfl (by decide) rfl rfl rfl ?_
          refine J_goto 35 dX11_chanceLeft_67 (by decide) ?_
          exact ih35 (i + 1) _ _ (by omega) (by omega) (by rw [← hhv, hv_ev (by omega) kcz2]) _ _ _ rfl rfl rfl
  exact L35 (4 * vc + 1) 0 _ _ (by omega) (by omega) rfl _ _ _ rfl rfl rfl
theorem c_X11_chanceLeft0_gt {G : GT} (ws : va_W) (c vc lf : Nat) (hc17 : c < 17) (hvc9 : vc < 9) (hlf9 : lf < 9) (hcs : vc < lf) : Ct G yX11_chanceLeft cX11_chanceLeft 9 (some .long) 0 0 1 [.int (nI c), .int (nI vc), .int (nI lf), .int (nI 0)] ws (Is (some (.long (mrA c vc lf 0))) ws) := Ct.of rfl (Nat.le_of_ble_eq_true rfl) (j_X11_chanceLeft0_gt ws c vc lf hc17 hvc9 hlf9 hcs (fun _ e => by subst e; exact Is.rf _ _))
theorem c_X11_chanceLeft0 {G : GT} (ws : va_W) (c vc lf : Nat) (hc17 : c < 17) (hvc9 : vc < 9) (hlf9 : lf < 9) : Ct G yX11_chanceLeft cX11_chanceLeft 9 (some .long) 0 0 1 [.int (nI c), .int (nI vc), .int (nI lf), .int (nI 0)] ws (Is (some (.long (mrA c vc lf 0))) ws) := by
  rcases Nat.lt_or_ge vc lf with h | h
  · exact c_X11_chanceLeft0_gt ws c vc lf hc17 hvc9 hlf9 h
  · exact c_X11_chanceLeft0_le ws c vc lf hc17 hvc9 hlf9 h
set_option maxRecDepth 100000 in
set_option maxHeartbeats 1000000 in
theorem j_X11_chanceLeft1_le {G : GT} (ws : va_W) (c vc lf : Nat) (hc17 : c < 17) (hvc9 : vc < 9) (hlf9 : lf < 9) (hcs : lf ≤ vc) {Q : Option Value → va_W → Prop} (hq : ∀ v_ : Int64, v_ = mrA c vc lf 1 → Q (some (.long v_)) ws) : J G "chanceLeft" RX11 cX11_chanceLeft 9 (some .long) 0 0 1 Q 0 0 0 [(0, .int (nI c)), (1, .int (nI vc)), (2, .int (nI lf)), (3, .int (nI 1))] [] ws := by
  refine J_iload_n dX11_chanceLeft_0 rfl rfl ?_
  refine J_iload_n dX11_chanceLeft_1 rfl rfl ?_
  refine J_cSl [.int (nI vc), .int (nI lf)] ms_X11_346 (c_X11_choices ws vc lf (by omega)) rfl rfl (by decide) (Nat.le_of_ble_eq_true rfl) ⟨Nat.le_refl _, Nat.le_refl _⟩ dX11_chanceLeft_2 ?_
  refine J_bipush (v := nI 16) dX11_chanceLeft_5 (by decide) ?_
  refine J_iload_n dX11_chanceLeft_7 rfl rfl ?_
  refine J_isubN dX11_chanceLeft_8 (by omega) ?_
  refine J_iload_n dX11_chanceLeft_9 rfl rfl ?_
  refine J_cSl [.int (nI (16 - c)), .int (nI lf)] ms_X11_350 (c_X11_power ws (16 - c) lf (by omega)) rfl rfl (by decide) (Nat.le_of_ble_eq_true rfl) ⟨Nat.le_refl _, Nat.le_refl _⟩ dX11_chanceLeft_10 ?_
  refine J_lmul dX11_chanceLeft_13 ?_
  refine J_iload_n dX11_chanceLeft_14 rfl rfl ?_
  refine J_iload_n dX11_chanceLeft_15 rfl rfl ?_
  refine J_iload_n dX11_chanceLeft_16 rfl rfl ?_
  refine J_isubN dX11_chanceLeft_17 (by omega) ?_
  refine J_cSl [.int (nI c), .int (nI (vc - lf))] ms_X11_350 (c_X11_power ws c (vc - lf) (by omega)) rfl rfl (by decide) (Nat.le_of_ble_eq_true rfl) ⟨Nat.le_refl _, Nat.le_refl _⟩ dX11_chanceLeft_18 ?_
  refine J_lmul dX11_chanceLeft_21 ?_
  refine J_lstore [(0, .int (nI c)), (1, .int (nI vc)), (2, .int (nI lf)), (3, .int (nI 1)), (4, .long (((chC vc lf) * (pwC (16 - c) lf)) * (pwC c (vc - lf))))] dX11_chanceLeft_22 (by decide) rfl rfl rfl ?_
  refine J_bipush (v := nI 16) dX11_chanceLeft_24 (by decide) ?_
  refine J_iload_n dX11_chanceLeft_26 rfl rfl ?_
  refine J_cSl [.int (nI 16), .int (nI vc)] ms_X11_350 (c_X11_power ws 16 vc (by omega)) rfl rfl (by decide) (Nat.le_of_ble_eq_true rfl) ⟨Nat.le_refl _, Nat.le_refl _⟩ dX11_chanceLeft_27 ?_
  refine J_lstore [(0, .int (nI c)), (1, .int (nI vc)), (2, .int (nI lf)), (3, .int (nI 1)), (4, .long (((chC vc lf) * (pwC (16 - c) lf)) * (pwC c (vc - lf)))), (6, .long (pwC 16 vc))] dX11_chanceLeft_30 (by decide) rfl rfl rfl ?_
  refine J_iconst (v := nI 0) dX11_chanceLeft_32 (by decide) ?_
  refine J_istore [(0, .int (nI c)), (1, .int (nI vc)), (2, .int (nI lf)), (3, .int (nI 1)), (4, .long (((chC vc lf) * (pwC (16 - c) lf)) * (pwC c (vc - lf)))), (6, .long (pwC 16 vc)), (8, .int (nI 0))] dX11_chanceLeft_33 (by decide) rfl rfl rfl ?_
  have L35 : ∀ (f i : Nat) (xa xb : Int64), 4 * vc - i < f → i ≤ 4 * vc → hvF xa xb (4 * vc - i) = hvF (chC vc lf * pwC (16 - c) lf * pwC c (vc - lf)) (pwC 16 vc) (4 * vc) → ∀ (x4 : Int64) (x6 : Int64) (x8 : Int32), x4 = xa → x6 = xb → x8 = nI i → J G "chanceLeft" RX11 cX11_chanceLeft 9 (some .long) 0 0 1 Q 0 0 35 [(0, .int (nI c)), (1, .int (nI vc)), (2, .int (nI lf)), (3, .int (nI 1)), (4, .long x4), (6, .long x6), (8, .int x8)] [] ws := by
    intro f
    induction f with
    | zero => intro i xa xb h; exact absurd h (Nat.not_lt_zero _)
    | succ f ih35 =>
      intro i xa xb hf35 hle35 hhv x4 x6 x8 e4 e6 e8
      have e4s := e4.symm
      subst e4s
      have e6s := e6.symm
      subst e6s
      subst e8
      refine J_iload dX11_chanceLeft_35 rfl ?_
      refine J_iconst (v := nI 4) dX11_chanceLeft_37 (by decide) ?_
      refine J_iload_n dX11_chanceLeft_38 rfl rfl ?_
      refine J_imulN dX11_chanceLeft_39 ?_
      refine J_icmp_geN 70 (by omega) (by omega) dX11_chanceLeft_40 (by decide) (fun kcz1 => ?_) (fun kcz1 => ?_)
      · refine J_iload_n dX11_chanceLeft_70 rfl rfl ?_
        refine J_if_ne 79 dX11_chanceLeft_71 (by decide) (fun _ => ?_) (fun c => absurd c (by decide))
        refine J_lload dX11_chanceLeft_79 rfl ?_
        exact J_lret dX11_chanceLeft_81 rfl rfl rfl (hq _ (by have e9 := (hv_le c (by omega) vc (by omega) lf (by omega) hcs).2; rw [← hhv] at e9; rw [← e9]; rw [show 4 * vc - i = 0 by omega]; rfl))
      · refine J_lload dX11_chanceLeft_43 rfl ?_
        refine J_lconst (v := 1) dX11_chanceLeft_45 (by decide) ?_
        refine J_land dX11_chanceLeft_46 ?_
        refine J_lconst (v := 0) dX11_chanceLeft_47 (by decide) ?_
        refine J_lcmp dX11_chanceLeft_48 ?_
        refine J_if_ne 70 dX11_chanceLeft_49 (by decide) (fun kcz2 => ?_) (fun kcz2 => ?_)
        · refine J_iload_n dX11_chanceLeft_70 rfl rfl ?_
          refine J_if_ne 79 dX11_chanceLeft_71 (by decide) (fun _ => ?_) (fun c => absurd c (by decide))
          refine J_lload dX11_chanceLeft_79 rfl ?_
          exact J_lret dX11_chanceLeft_81 rfl rfl rfl (hq _ (by have e9 := (hv_le c (by omega) vc (by omega) lf (by omega) hcs).2; rw [← hhv] at e9; rw [← e9]; rw [hv_odd kcz2]))
        · refine J_lload dX11_chanceLeft_52 rfl ?_
          refine J_iconst (v := nI 1) dX11_chanceLeft_54 (by decide) ?_
          refine J_lshr dX11_chanceLeft_55 ?_
          refine J_lstore [(0, .int (nI c)), (1, .int (nI vc)), (2, .int (nI lf)), (3, .int (nI 1)), (4, .long (xa >>> ((nI 1).toInt64 &&& 63))), (6, .long xb), (8, .int (nI i))] dX11_chanceLeft_56 (by decide) rfl rfl rfl ?_
          refine J_lload dX11_chanceLeft_58 rfl ?_
          refine J_iconst (v := nI 1) dX11_chanceLeft_60 (by decide) ?_
          refine J_lshr dX11_chanceLeft_61 ?_
          refine J_lstore [(0, .int (nI c)), (1, .int (nI vc)), (2, .int (nI lf)), (3, .int (nI 1)), (4, .long (xa >>> ((nI 1).toInt64 &&& 63))), (6, .long (xb >>> ((nI 1).toInt64 &&& 63))), (8, .int (nI i))] dX11_chanceLeft_62 (by decide) rfl rfl rfl ?_
          refine J_iincN [(0, .int (nI c)), (1, .int (nI vc)), (2, .int (nI lf)), (3, .int (nI 1)), (4, .long (xa >>> ((nI 1).toInt64 &&& 63))), (6, .long (xb >>> ((nI 1).toInt64 &&& 63))), (8, .int (nI (i + 1)))] dX11_chanceLeft_64 rfl (by decide) rfl rfl rfl ?_
          refine J_goto 35 dX11_chanceLeft_67 (by decide) ?_
          exact ih35 (i + 1) _ _ (by omega) (by omega) (by rw [← hhv, hv_ev (by omega) kcz2]) _ _ _ rfl rfl rfl
  exact L35 (4 * vc + 1) 0 _ _ (by omega) (by omega) rfl _ _ _ rfl rfl rfl
theorem c_X11_chanceLeft1_le {G : GT} (ws : va_W) (c vc lf : Nat) (hc17 : c < 17) (hvc9 : vc < 9) (hlf9 : lf < 9) (hcs : lf ≤ vc) : Ct G yX11_chanceLeft cX11_chanceLeft 9 (some .long) 0 0 1 [.int (nI c), .int (nI vc), .int (nI lf), .int (nI 1)] ws (Is (some (.long (mrA c vc lf 1))) ws) := Ct.of rfl (Nat.le_of_ble_eq_true rfl) (j_X11_chanceLeft1_le ws c vc lf hc17 hvc9 hlf9 hcs (fun _ e => by subst e; exact Is.rf _ _))
set_option maxRecDepth 100000 in
set_option maxHeartbeats 1000000 in
theorem j_X11_chanceLeft1_gt {G : GT} (ws : va_W) (c vc lf : Nat) (hc17 : c < 17) (hvc9 : vc < 9) (hlf9 : lf < 9) (hcs : vc < lf) {Q : Option Value → va_W → Prop} (hq : ∀ v_ : Int64, v_ = mrA c vc lf 1 → Q (some (.long v_)) ws) : J G "chanceLeft" RX11 cX11_chanceLeft 9 (some .long) 0 0 1 Q 0 0 0 [(0, .int (nI c)), (1, .int (nI vc)), (2, .int (nI lf)), (3, .int (nI 1))] [] ws := by
  refine J_iload_n dX11_chanceLeft_0 rfl rfl ?_
  refine J_iload_n dX11_chanceLeft_1 rfl rfl ?_
  refine J_cSl [.int (nI vc), .int (nI lf)] ms_X11_346 (c_X11_choices ws vc lf (by omega)) rfl rfl (by decide) (Nat.le_of_ble_eq_true rfl) ⟨Nat.le_refl _, Nat.le_refl _⟩ dX11_chanceLeft_2 ?_
  refine J_bipush (v := nI 16) dX11_chanceLeft_5 (by decide) ?_
  refine J_iload_n dX11_chanceLeft_7 rfl rfl ?_
  refine J_isubN dX11_chanceLeft_8 (by omega) ?_
  refine J_iload_n dX11_chanceLeft_9 rfl rfl ?_
  refine J_cSl [.int (nI (16 - c)), .int (nI lf)] ms_X11_350 (c_X11_power ws (16 - c) lf (by omega)) rfl rfl (by decide) (Nat.le_of_ble_eq_true rfl) ⟨Nat.le_refl _, Nat.le_refl _⟩ dX11_chanceLeft_10 ?_
  refine J_lmul dX11_chanceLeft_13 ?_
  refine J_iload_n dX11_chanceLeft_14 rfl rfl ?_
  refine J_iload_n dX11_chanceLeft_15 rfl rfl ?_
  refine J_iload_n dX11_chanceLeft_16 rfl rfl ?_
  refine J_isub dX11_chanceLeft_17 ?_
  refine J_cSl [.int (nI c), .int ((nI vc) - (nI lf))] ms_X11_350 (c_X11_power_neg ws c _ (sub_neg (by omega) (by omega))) rfl rfl (by decide) (Nat.le_of_ble_eq_true rfl) ⟨Nat.le_refl _, Nat.le_refl _⟩ dX11_chanceLeft_18 ?_
  refine J_lmul dX11_chanceLeft_21 ?_
  refine J_lstore [(0, .int (nI c)), (1, .int (nI vc)), (2, .int (nI lf)), (3, .int (nI 1)), (4, .long (((chC vc lf) * (pwC (16 - c) lf)) * 1))] dX11_chanceLeft_22 (by decide) rfl rfl rfl ?_
  refine J_bipush (v := nI 16) dX11_chanceLeft_24 (by decide) ?_
  refine J_iload_n dX11_chanceLeft_26 rfl rfl ?_
  refine J_cSl [.int (nI 16), .int (nI vc)] ms_X11_350 (c_X11_power ws 16 vc (by omega)) rfl rfl (by decide) (Nat.le_of_ble_eq_true rfl) ⟨Nat.le_refl _, Nat.le_refl _⟩ dX11_chanceLeft_27 ?_
  refine J_lstore [(0, .int (nI c)), (1, .int (nI vc)), (2, .int (nI lf)), (3, .int (nI 1)), (4, .long (((chC vc lf) * (pwC (16 - c) lf)) * 1)), (6, .long (pwC 16 vc))] dX11_chanceLeft_30 (by decide) rfl rfl rfl ?_
  refine J_iconst (v := nI 0) dX11_chanceLeft_32 (by decide) ?_
  refine J_istore [(0, .int (nI c)), (1, .int (nI vc)), (2, .int (nI lf)), (3, .int (nI 1)), (4, .long (((chC vc lf) * (pwC (16 - c) lf)) * 1)), (6, .long (pwC 16 vc)), (8, .int (nI 0))] dX11_chanceLeft_33 (by decide) rfl rfl rfl ?_
  have L35 : ∀ (f i : Nat) (xa xb : Int64), 4 * vc - i < f → i ≤ 4 * vc → hvF xa xb (4 * vc - i) = hvF (chC vc lf * pwC (16 - c) lf * 1) (pwC 16 vc) (4 * vc) → ∀ (x4 : Int64) (x6 : Int64) (x8 : Int32), x4 = xa → x6 = xb → x8 = nI i → J G "chanceLeft" RX11 cX11_chanceLeft 9 (some .long) 0 0 1 Q 0 0 35 [(0, .int (nI c)), (1, .int (nI vc)), (2, .int (nI lf)), (3, .int (nI 1)), (4, .long x4), (6, .long x6), (8, .int x8)] [] ws := by
    intro f
    induction f with
    | zero => intro i xa xb h; exact absurd h (Nat.not_lt_zero _)
    | succ f ih35 =>
      intro i xa xb hf35 hle35 hhv x4 x6 x8 e4 e6 e8
      have e4s := e4.symm
      subst e4s
      have e6s := e6.symm
      subst e6s
      subst e8
      refine J_iload dX11_chanceLeft_35 rfl ?_
      refine J_iconst (v := nI 4) dX11_chanceLeft_37 (by decide) ?_
      refine J_iload_n dX11_chanceLeft_38 rfl rfl ?_
      refine J_imulN dX11_chanceLeft_39 ?_
      refine J_icmp_geN 70 (by omega) (by omega) dX11_chanceLeft_40 (by decide) (fun kcz1 => ?_) (fun kcz1 => ?_)
      · refine J_iload_n dX11_chanceLeft_70 rfl rfl ?_
        refine J_if_ne 79 dX11_chanceLeft_71 (by decide) (fun _ => ?_) (fun c => absurd c (by decide))
        refine J_lload dX11_chanceLeft_79 rfl ?_
        exact J_lret dX11_chanceLeft_81 rfl rfl rfl (hq _ (by have e9 := (hv_gt c (by omega) vc (by omega) lf (by omega) hcs).2; rw [← hhv] at e9; rw [← e9]; rw [show 4 * vc - i = 0 by omega]; rfl))
      · refine J_lload dX11_chanceLeft_43 rfl ?_
        refine J_lconst (v := 1) dX11_chanceLeft_45 (by decide) ?_
        refine J_land dX11_chanceLeft_46 ?_
        refine J_lconst (v := 0) dX11_chanceLeft_47 (by decide) ?_
        refine J_lcmp dX11_chanceLeft_48 ?_
        refine J_if_ne 70 dX11_chanceLeft_49 (by decide) (fun kcz2 => ?_) (fun kcz2 => ?_)
        · refine J_iload_n dX11_chanceLeft_70 rfl rfl ?_
          refine J_if_ne 79 dX11_chanceLeft_71 (by decide) (fun _ => ?_) (fun c => absurd c (by decide))
          refine J_lload dX11_chanceLeft_79 rfl ?_
          exact J_lret dX11_chanceLeft_81 rfl rfl rfl (hq _ (by have e9 := (hv_gt c (by omega) vc (by omega) lf (by omega) hcs).2; rw [← hhv] at e9; rw [← e9]; rw [hv_odd kcz2]))
        · refine J_lload dX11_chanceLeft_52 rfl ?_
          refine J_iconst (v := nI 1) dX11_chanceLeft_54 (by decide) ?_
          refine J_lshr dX11_chanceLeft_55 ?_
          refine J_lstore [(0, .int (nI c)), (1, .int (nI vc)), (2, .int (nI lf)), (3, .int (nI 1)), (4, .long (xa >>> ((nI 1).toInt64 &&& 63))), (6, .long xb), (8, .int (nI i))] dX11_chanceLeft_56 (by decide) rfl rfl rfl ?_
          refine J_lload dX11_chanceLeft_58 rfl ?_
          refine J_iconst (v := nI 1) dX11_chanceLeft_60 (by decide) ?_
          refine J_lshr dX11_chanceLeft_61 ?_
          refine J_lstore [(0, .int (nI c)), (1, .int (nI vc)), (2, .int (nI lf)), (3, .int (nI 1)), (4, .long (xa >>> ((nI 1).toInt64 &&& 63))), (6, .long (xb >>> ((nI 1).toInt64 &&& 63))), (8, .int (nI i))] dX11_chanceLeft_62 (by decide) rfl rfl rfl ?_
          refine J_iincN [(0, .int (nI c)), (1, .int (nI vc)), (2, .int (nI lf)), (3, .int (nI 1)), (4, .long (xa >>> ((nI 1).toInt64 &&& 63))), (6, .long (xb >>> ((nI 1).toInt64 &&& 63))), (8, .int (nI (i + 1)))] dX11_chanceLeft_64 rfl (by decide) rfl rfl rfl ?_
          refine J_goto 35 dX11_chanceLeft_67 (by decide) ?_
          exact ih35 (i + 1) _ _ (by omega) (by omega) (by rw [← hhv, hv_ev (by omega) kcz2]) _ _ _ rfl rfl rfl
  exact L35 (4 * vc + 1) 0 _ _ (by omega) (by omega) rfl _ _ _ rfl rfl rfl
theorem c_X11_chanceLeft1_gt {G : GT} (ws : va_W) (c vc lf : Nat) (hc17 : c < 17) (hvc9 : vc < 9) (hlf9 : lf < 9) (hcs : vc < lf) : Ct G yX11_chanceLeft cX11_chanceLeft 9 (some .long) 0 0 1 [.int (nI c), .int (nI vc), .int (nI lf), .int (nI 1)] ws (Is (some (.long (mrA c vc lf 1))) ws) := Ct.of rfl (Nat.le_of_ble_eq_true rfl) (j_X11_chanceLeft1_gt ws c vc lf hc17 hvc9 hlf9 hcs (fun _ e => by subst e; exact Is.rf _ _))
theorem c_X11_chanceLeft1 {G : GT} (ws : va_W) (c vc lf : Nat) (hc17 : c < 17) (hvc9 : vc < 9) (hlf9 : lf < 9) : Ct G yX11_chanceLeft cX11_chanceLeft 9 (some .long) 0 0 1 [.int (nI c), .int (nI vc), .int (nI lf), .int (nI 1)] ws (Is (some (.long (mrA c vc lf 1))) ws) := by
  rcases Nat.lt_or_ge vc lf with h | h
  · exact c_X11_chanceLeft1_gt ws c vc lf hc17 hvc9 hlf9 h
  · exact c_X11_chanceLeft1_le ws c vc lf hc17 hvc9 hlf9 h
