def dgt (base code j : Nat) : Nat := code / base ^ j % base
def lyV (base code j : Nat) : Int32 := if ¬ dgt base code j = base - 1 then nI (dgt base code j) else -1
def lyU (Hb : Nat → Int32) (base code nn j : Nat) : Int32 := if ¬ lyV base code j = -1 then Hb (5 * (nn - 1 - j) + 2) else nI 0
def lyS (Hb : Nat → Int32) (base code nn j : Nat) : Int32 := smI (lyU Hb base code nn) j
def lyP (base code nn : Nat) (wi : Nat → Int32) (j : Nat) : Nat → Int32 := fun h => if nn - j ≤ h ∧ h < nn then lyV base code (nn - 1 - h) else wi h
def lyW (base code nn : Nat) : Nat → Int32 := fun h => if h < nn then lyV base code (nn - 1 - h) else -1
theorem dgt_lt {base code j : Nat} (h : 0 < base) : dgt base code j < base := Nat.mod_lt _ h
theorem dgt_div {base code j : Nat} (h : code < 2 ^ 31) (h0 : 0 < base) (hb : base < 2 ^ 31) : nI (code / base ^ j) / nI base = nI (code / base ^ (j + 1)) := by
  rw [pk_div (Nat.lt_of_le_of_lt (Nat.div_le_self _ _) h) h0 hb, Nat.div_div_eq_div_mul, Nat.pow_succ]
theorem lyP_s {base code nn : Nat} {wi : Nat → Int32} {j : Nat} (h : j < nn) : upd (lyP base code nn wi j) (nn - 1 - j) (lyV base code j) = lyP base code nn wi (j + 1) := by
  funext k
  unfold upd lyP
  by_cases hk : k = nn - 1 - j
  · rw [if_pos hk, if_pos (by omega), show nn - 1 - k = j by omega]
  · rw [if_neg hk]
    by_cases h2 : nn - j ≤ k ∧ k < nn
    · rw [if_pos h2, if_pos (by omega)]
    · rw [if_neg h2, if_neg (by omega)]
theorem lyP_at {base code nn : Nat} {wi : Nat → Int32} {j : Nat} (h : j < nn) : lyP base code nn wi (j + 1) (nn - 1 - j) = lyV base code j := by
  unfold lyP
  rw [if_pos (by omega), show nn - 1 - (nn - 1 - j) = j by omega]
theorem lyP_0 (base code nn : Nat) (wi : Nat → Int32) : lyP base code nn wi 0 = wi := funext fun k => if_neg (by omega)
theorem lyP_W {base code nn : Nat} {wi : Nat → Int32} (h : ∀ k, nn ≤ k → wi k = -1) : lyP base code nn wi nn = lyW base code nn := by
  funext k
  unfold lyP lyW
  by_cases hk : k < nn
  · rw [if_pos (by omega), if_pos hk]
  · rw [if_neg (by omega), if_neg hk, h k (by omega)]
theorem lyW_out {base code nn : Nat} : ∀ h, nn ≤ h → lyW base code nn h = -1 := fun h hh => if_neg (by omega)
theorem ly_dec {nn j : Nat} (h : j < nn) : nI (nn - 1 - j) + (-1) = nI (nn - (j + 1)) - nI 1 := by
  rw [show nn - 1 - j = nn - (j + 1) by omega, Int32.sub_eq_add_neg]; rfl
/-- of the codes below k, the worth and the code of the best -/
def bsF (n nn hh : Nat) (Hb He : Nat → Int32) (c0 : Int32) : Nat → Int32 × Int32
  | 0 => (-1, c0)
  | k + 1 => if lyS Hb (hh + 1) k nn nn ≤ (bsF n nn hh Hb He c0 k).1 then bsF n nn hh Hb He c0 k else if allB (fun e => livM n Hb He (lyW (hh + 1) k nn) e) hh = true then (lyS Hb (hh + 1) k nn nn, nI k) else bsF n nn hh Hb He c0 k
theorem bsF_no1 {n nn hh : Nat} {Hb He : Nat → Int32} {c0 : Int32} {k : Nat} (h : lyS Hb (hh + 1) k nn nn ≤ (bsF n nn hh Hb He c0 k).1) : bsF n nn hh Hb He c0 (k + 1) = bsF n nn hh Hb He c0 k := by rw [bsF, if_pos h]
theorem bsF_no2 {n nn hh : Nat} {Hb He : Nat → Int32} {c0 : Int32} {k : Nat} (h : ¬ lyS Hb (hh + 1) k nn nn ≤ (bsF n nn hh Hb He c0 k).1) (h2 : allB (fun e => livM n Hb He (lyW (hh + 1) k nn) e) hh = false) : bsF n nn hh Hb He c0 (k + 1) = bsF n nn hh Hb He c0 k := by rw [bsF, if_neg h, if_neg (by rw [h2]; decide)]
theorem bm_none {P : Nat → Bool} (h : ∀ k, P k = false) : ∀ n, bm P n = 0
  | 0 => rfl
  | n + 1 => by rw [bm, bm_none h n, h n]; simp
theorem m1_ne {q : Nat} (h : q < 2 ^ 31) : ¬ (-1 : Int32) = nI q := fun e => by
  have := congrArg Int32.toInt e
  rw [nI_toInt h] at this
  have e2 : (-1 : Int32).toInt = -1 := rfl
  omega
theorem livM_none {n : Nat} {Hb He wi : Nat → Int32} {q : Nat} (hw : ∀ h, wi h = -1) (hq : q < 6) (hr : ¬ He (3 * q) < nI 0) : livM n Hb He wi q = true := by
  have h1 : ∀ h, decide (wi h = nI q) = false := fun h => by rw [hw h]; exact decide_eq_false (m1_ne (by omega))
  have h2 : hasM n wi q = 0 := bm_none h1 n
  have h3 : canNowM n Hb He wi q = 0 := bm_none (fun h => by rw [h1 h]; rfl) n
  have h4 : ∀ t, onceM n Hb wi q t = 0 := fun t => bm_none (fun h => by rw [h1 h]; rfl) n
  unfold livM
  rw [h2, h3, popc_zero, decide_eq_false hr, Bool.and_eq_true]
  refine ⟨rfl, allB_iff.mpr (fun t _ => ?_)⟩
  rw [h4, popc_zero]; rfl
theorem dgt_top : ∀ base, base < 6 → 0 < base → ∀ nn, nn < 7 → ∀ j, j < nn → dgt base (base ^ nn - 1) j = base - 1 := by decide +kernel
theorem bsF_inv {n nn hh : Nat} {Hb He : Nat → Int32} {c0 : Int32} (k : Nat) : (bsF n nn hh Hb He c0 k).1 = -1 ∨ ∃ j, j < k ∧ (bsF n nn hh Hb He c0 k).2 = nI j := by
  induction k with
  | zero => exact Or.inl rfl
  | succ k ih =>
    have ih2 : (bsF n nn hh Hb He c0 k).1 = -1 ∨ ∃ j, j < k + 1 ∧ (bsF n nn hh Hb He c0 k).2 = nI j := by
      rcases ih with h | ⟨j, hj, h⟩
      · exact Or.inl h
      · exact Or.inr ⟨j, by omega, h⟩
    rw [bsF]
    split
    · exact ih2
    · split
      · exact Or.inr ⟨k, by omega, rfl⟩
      · exact ih2
theorem bsF_code {n m : Nat} {Hb He : Nat → Int32} {c0 : Int32} (hn8 : n ≤ 8) (hm6 : m ≤ 6) (hHe : ∀ e, e < m → ¬ He (3 * e) < nI 0) : ∃ k, k < (min m 4 + 1) ^ min n 6 ∧ (bsF n (min n 6) (min m 4) Hb He c0 ((min m 4 + 1) ^ min n 6)).2 = nI k := by
  have hp : 0 < (min m 4 + 1) ^ min n 6 := Nat.pow_pos (by omega)
  obtain ⟨N, hN⟩ : ∃ N, (min m 4 + 1) ^ min n 6 = N + 1 := ⟨(min m 4 + 1) ^ min n 6 - 1, by omega⟩
  have hv : ∀ j, j < min n 6 → lyV (min m 4 + 1) N j = -1 := fun j hj => by
    have h1 := dgt_top (min m 4 + 1) (by omega) (by omega) (min n 6) (by omega) j hj
    rw [hN, Nat.add_sub_cancel] at h1
    unfold lyV
    rw [if_neg (fun q => q h1)]
  have hw : ∀ h, lyW (min m 4 + 1) N (min n 6) h = -1 := fun h => by
    unfold lyW
    split
    · exact hv _ (by omega)
    · rfl
  have hs : ∀ j, j ≤ min n 6 → lyS Hb (min m 4 + 1) N (min n 6) j = nI 0 := fun j => by
    induction j with
    | zero => intro _; rfl
    | succ j ih =>
      intro hj
      have h2 := ih (by omega)
      unfold lyS at h2 ⊢
      rw [smI, h2]
      unfold lyU
      rw [if_neg (fun q => q (hv j (by omega)))]
      rfl
  rcases bsF_inv (n := n) (nn := min n 6) (hh := min m 4) (Hb := Hb) (He := He) (c0 := c0) ((min m 4 + 1) ^ min n 6) with h | h
  · rw [hN] at h ⊢
    rw [bsF, hs _ (Nat.le_refl _)] at h
    split at h
    · next h3 => rw [h] at h3; exact absurd h3 (by decide)
    · split at h
      · exact absurd h (by show ¬ nI 0 = -1; decide)
      · next h4 => exact absurd (allB_iff.mpr (fun e he => livM_none hw (by omega) (hHe e (by omega)))) h4
  · exact h
theorem bsF_yes {n nn hh : Nat} {Hb He : Nat → Int32} {c0 : Int32} {k : Nat} (h : ¬ lyS Hb (hh + 1) k nn nn ≤ (bsF n nn hh Hb He c0 k).1) (h2 : allB (fun e => livM n Hb He (lyW (hh + 1) k nn) e) hh = true) : bsF n nn hh Hb He c0 (k + 1) = (lyS Hb (hh + 1) k nn nn, nI k) := by rw [bsF, if_neg h, if_pos h2]

set_option maxRecDepth 100000 in
set_option maxHeartbeats 1000000 in
theorem j_X12_hasOf0 {G : GT} (o : Nat) (a : Nat → Nat) (s : Nat → Nat → Int32) (n : Nat) (hn : s 8 0 = nI n) (hn8 : n ≤ 8) (q : Nat) (hq6 : q < 6) {Q : Option Value → va_W → Prop} (hq : ∀ v_ : Int32, v_ = nI (hasM n (s 17) q) → Q (some (.int v_)) (mW G o a s)) : J G "hasOf" RX12 cX12_hasOf 3 (some .int) 0 0 5 Q 0 0 0 [(0, .ref o), (1, .int (nI q)), (2, .int (nI 0))] [] (mW G o a s) := by
  refine J_iload_n dX12_hasOf_0 rfl rfl ?_
  refine J_tblIn (off := 27) 28 dX12_hasOf_1 (by decide) (by decide) (by decide) (by decide) ?_
  refine J_aload_n dX12_hasOf_28 rfl rfl ?_
  refine J_iload_n dX12_hasOf_29 rfl rfl ?_
  refine J_cVi (x := yX12_in) [.int (nI q)] 0 mv_X12_183 (c_X12_hasNow o a s n hn hn8 q) mW_0 rfl rfl (by decide) (Nat.le_of_ble_eq_true rfl) ⟨Nat.le_refl _, Nat.le_refl _⟩ dX12_hasOf_30 ?_
  exact J_iret dX12_hasOf_33 rfl rfl rfl (hq _ rfl)
theorem c_X12_hasOf0 {G : GT} (o : Nat) (a : Nat → Nat) (s : Nat → Nat → Int32) (n : Nat) (hn : s 8 0 = nI n) (hn8 : n ≤ 8) (q : Nat) (hq6 : q < 6) : Ct G yX12_hasOf cX12_hasOf 3 (some .int) 0 0 5 [.ref o, .int (nI q), .int (nI 0)] (mW G o a s) (Is (some (.int (nI (hasM n (s 17) q)))) (mW G o a s)) := Ct.of rfl (Nat.le_of_ble_eq_true rfl) (j_X12_hasOf0 o a s n hn hn8 q hq6 (fun _ e => by subst e; exact Is.rf _ _))
set_option maxRecDepth 100000 in
set_option maxHeartbeats 1000000 in
theorem j_X12_hasOf1 {G : GT} (o : Nat) (a : Nat → Nat) (s : Nat → Nat → Int32) (n : Nat) (hn : s 8 0 = nI n) (hn8 : n ≤ 8) (q : Nat) (hq6 : q < 6) {Q : Option Value → va_W → Prop} (hq : ∀ v_ : Int32, v_ = nI (canNowM n (s 9) (s 10) (s 17) q) → Q (some (.int v_)) (mW G o a s)) : J G "hasOf" RX12 cX12_hasOf 3 (some .int) 0 0 5 Q 0 0 0 [(0, .ref o), (1, .int (nI q)), (2, .int (nI 1))] [] (mW G o a s) := by
  refine J_iload_n dX12_hasOf_0 rfl rfl ?_
  refine J_tblIn (off := 33) 34 dX12_hasOf_1 (by decide) (by decide) (by decide) (by decide) ?_
  refine J_aload_n dX12_hasOf_34 rfl rfl ?_
  refine J_iload_n dX12_hasOf_35 rfl rfl ?_
  refine J_cVi (x := yX12_in) [.int (nI q)] 0 mv_X12_189 (c_X12_cannotNow o a s n hn hn8 q (by omega)) mW_0 rfl rfl (by decide) (Nat.le_of_ble_eq_true rfl) ⟨Nat.le_refl _, Nat.le_refl _⟩ dX12_hasOf_36 ?_
  exact J_iret dX12_hasOf_39 rfl rfl rfl (hq _ rfl)
theorem c_X12_hasOf1 {G : GT} (o : Nat) (a : Nat → Nat) (s : Nat → Nat → Int32) (n : Nat) (hn : s 8 0 = nI n) (hn8 : n ≤ 8) (q : Nat) (hq6 : q < 6) : Ct G yX12_hasOf cX12_hasOf 3 (some .int) 0 0 5 [.ref o, .int (nI q), .int (nI 1)] (mW G o a s) (Is (some (.int (nI (canNowM n (s 9) (s 10) (s 17) q)))) (mW G o a s)) := Ct.of rfl (Nat.le_of_ble_eq_true rfl) (j_X12_hasOf1 o a s n hn hn8 q hq6 (fun _ e => by subst e; exact Is.rf _ _))
set_option maxRecDepth 100000 in
set_option maxHeartbeats 1000000 in
theorem j_X12_hasOf2 {G : GT} (o : Nat) (a : Nat → Nat) (s : Nat → Nat → Int32) (n : Nat) (hn : s 8 0 = nI n) (hn8 : n ≤ 8) (q : Nat) (hq6 : q < 6) {Q : Option Value → va_W → Prop} (hq : ∀ v_ : Int32, v_ = wrM n (s 9) (s 17) q → Q (some (.int v_)) (mW G o a s)) : J G "hasOf" RX12 cX12_hasOf 3 (some .int) 0 0 5 Q 0 0 0 [(0, .ref o), (1, .int (nI q)), (2, .int (nI 2))] [] (mW G o a s) := by
  refine J_iload_n dX12_hasOf_0 rfl rfl ?_
  refine J_tblIn (off := 39) 40 dX12_hasOf_1 (by decide) (by decide) (by decide) (by decide) ?_
  refine J_aload_n dX12_hasOf_40 rfl rfl ?_
  refine J_iload_n dX12_hasOf_41 rfl rfl ?_
  refine J_cVi (x := yX12_in) [.int (nI q)] 0 mv_X12_195 (c_X12_worthNow o a s n hn hn8 q) mW_0 rfl rfl (by decide) (Nat.le_of_ble_eq_true rfl) ⟨Nat.le_refl _, Nat.le_refl _⟩ dX12_hasOf_42 ?_
  exact J_iret dX12_hasOf_45 rfl rfl rfl (hq _ rfl)
theorem c_X12_hasOf2 {G : GT} (o : Nat) (a : Nat → Nat) (s : Nat → Nat → Int32) (n : Nat) (hn : s 8 0 = nI n) (hn8 : n ≤ 8) (q : Nat) (hq6 : q < 6) : Ct G yX12_hasOf cX12_hasOf 3 (some .int) 0 0 5 [.ref o, .int (nI q), .int (nI 2)] (mW G o a s) (Is (some (.int (wrM n (s 9) (s 17) q))) (mW G o a s)) := Ct.of rfl (Nat.le_of_ble_eq_true rfl) (j_X12_hasOf2 o a s n hn hn8 q hq6 (fun _ e => by subst e; exact Is.rf _ _))
set_option maxRecDepth 100000 in
set_option maxHeartbeats 1000000 in
theorem j_X12_hasOf3 {G : GT} (o : Nat) (a : Nat → Nat) (s : Nat → Nat → Int32) (n : Nat) (hn : s 8 0 = nI n) (hn8 : n ≤ 8) (q : Nat) (hq6 : q < 6) {Q : Option Value → va_W → Prop} (hq : ∀ v_ : Int32, v_ = bI (livM n (s 9) (s 10) (s 17) q) → Q (some (.int v_)) (mW G o a s)) : J G "hasOf" RX12 cX12_hasOf 3 (some .int) 0 0 5 Q 0 0 0 [(0, .ref o), (1, .int (nI q)), (2, .int (nI 3))] [] (mW G o a s) := by
  refine J_iload_n dX12_hasOf_0 rfl rfl ?_
  refine J_tblOut 46 dX12_hasOf_1 (by decide) (by decide) ?_
  refine J_aload_n dX12_hasOf_46 rfl rfl ?_
  refine J_iload_n dX12_hasOf_47 rfl rfl ?_
  refine J_cVi (x := yX12_in) [.int (nI q)] 0 mv_X12_198 (c_X12_lives o a s n hn hn8 q (by omega)) mW_0 rfl rfl (by decide) (Nat.le_of_ble_eq_true rfl) ⟨Nat.le_refl _, Nat.le_refl _⟩ dX12_hasOf_48 ?_
  refine J_if_eqB 58 dX12_hasOf_51 (by decide) (fun kcz1 => ?_) (fun kcz1 => ?_)
  · refine J_iconst (v := nI 0) dX12_hasOf_58 (by decide) ?_
    exact J_iret dX12_hasOf_59 rfl rfl rfl (hq _ (by rw [kcz1]; rfl))
  · refine J_iconst (v := nI 1) dX12_hasOf_54 (by decide) ?_
    refine J_goto 59 dX12_hasOf_55 (by decide) ?_
    exact J_iret dX12_hasOf_59 rfl rfl rfl (hq _ (by rw [kcz1]; rfl))
theorem c_X12_hasOf3 {G : GT} (o : Nat) (a : Nat → Nat) (s : Nat → Nat → Int32) (n : Nat) (hn : s 8 0 = nI n) (hn8 : n ≤ 8) (q : Nat) (hq6 : q < 6) : Ct G yX12_hasOf cX12_hasOf 3 (some .int) 0 0 5 [.ref o, .int (nI q), .int (nI 3)] (mW G o a s) (Is (some (.int (bI (livM n (s 9) (s 10) (s 17) q)))) (mW G o a s)) := Ct.of rfl (Nat.le_of_ble_eq_true rfl) (j_X12_hasOf3 o a s n hn hn8 q hq6 (fun _ e => by subst e; exact Is.rf _ _))
set_option maxRecDepth 100000 in
set_option maxHeartbeats 1000000 in
theorem j_X12_laysOut {G : GT} (o : Nat) (a : Nat → Nat) (s : Nat → Nat → Int32) (code nn base : Nat) (hnn : nn ≤ 6) (hb0 : 0 < base) (hb5 : base ≤ 5) (hcode : code < 2 ^ 20) {Q : Option Value → va_W → Prop} (hq : ∀ v_ : Int32, v_ = lyS (s 9) base code nn nn → Q (some (.int v_)) (mW G o a (su 17 s (lyP base code nn (s 17) nn)))) : J G "laysOut" RX12 cX12_laysOut 8 (some .int) 0 0 0 Q 0 0 0 [(0, .ref o), (1, .int (nI code)), (2, .int (nI nn)), (3, .int (nI base))] [] (mW G o a s) := by
  refine J_iload_n dX12_laysOut_0 rfl rfl ?_
  refine J_istore [(0, .ref o), (1, .int (nI code)), (2, .int (nI nn)), (3, .int (nI base)), (4, .int (nI code))] dX12_laysOut_1 (by decide) rfl rfl rfl ?_
  refine J_iconst (v := nI 0) dX12_laysOut_3 (by decide) ?_
  refine J_istore [(0, .ref o), (1, .int (nI code)), (2, .int (nI nn)), (3, .int (nI base)), (4, .int (nI code)), (5, .int (nI 0))] dX12_laysOut_4 (by decide) rfl rfl rfl ?_
  refine J_iload_n dX12_laysOut_6 rfl rfl ?_
  refine J_iconst (v := nI 1) dX12_laysOut_7 (by decide) ?_
  refine J_isub dX12_laysOut_8 ?_
  refine J_istore [(0, .ref o), (1, .int (nI code)), (2, .int (nI nn)), (3, .int (nI base)), (4, .int (nI code)), (5, .int (nI 0)), (6, .int ((nI nn) - (nI 1)))] dX12_laysOut_9 (by decide) rfl rfl rfl ?_
  have L11 : ∀ (f j : Nat), nn - j < f → j ≤ nn → ∀ (x4 : Int32) (x5 : Int32) (x6 : Int32) (y17 : Nat → Int32), x4 = nI (code / base ^ j) → x5 = lyS (s 9) base code nn j → x6 = nI (nn - j) - nI 1 → y17 = (lyP base code nn (s 17) j) → J G "laysOut" RX12 cX12_laysOut 8 (some .int) 0 0 0 Q 0 0 11 [(0, .ref o), (1, .int (nI code)), (2, .int (nI nn)), (3, .int (nI base)), (4, .int x4), (5, .int x5), (6, .int x6)] [] (mW G o a (su 17 s y17)) := by
    intro f
    induction f with
    | zero => intro j h; exact absurd h (Nat.not_lt_zero _)
    | succ f ih11 =>
      intro j hf11 hle11 x4 x5 x6 y17 e4 e5 e6 g17
      subst e4
      subst e5
      subst e6
      subst g17
      by_cases ksz1 : nn - j = 0
      · refine J_iload dX12_laysOut_11 rfl ?_
        have hz9 : nI (nn - j) - nI 1 < 0 := by rw [ksz1]; decide
        refine J_if_lt 86 dX12_laysOut_13 (by decide) (fun _ => ?_) (fun c => absurd hz9 c)
        refine J_iload dX12_laysOut_86 rfl ?_
        exact J_iret dX12_laysOut_88 rfl rfl rfl (by obtain rfl : nn = j := (by omega); exact hq _ rfl)
      · refine J_iload dX12_laysOut_11 rfl ?_
        have hs9 : nI (nn - j) - nI 1 = nI (nn - 1 - j) := by rw [pk_sub (by omega)]; congr 1; omega
        rw [hs9]
        have hn9 : ¬ nI (nn - 1 - j) < 0 := by rw [fa_lt, nI_toInt (by omega)]; show ¬ _ < (0 : Int); omega
        refine J_if_lt 86 dX12_laysOut_13 (by decide) (fun c => absurd c hn9) (fun _ => ?_)
        refine J_iload dX12_laysOut_16 rfl ?_
        refine J_iload_n dX12_laysOut_18 rfl rfl ?_
        refine J_irem dX12_laysOut_19 (nI_ne0 hb0 (by omega)) ?_
        refine J_rw (y := nI (dgt base code j)) (pk_rem (by have := Nat.div_le_self code (base ^ j); omega) hb0 (by omega)) ?_
        refine J_istore [(0, .ref o), (1, .int (nI code)), (2, .int (nI nn)), (3, .int (nI base)), (4, .int (nI (code / base ^ j))), (5, .int (lyS (s 9) base code nn j)), (6, .int (nI (nn - 1 - j))), (7, .int (nI (dgt base code j)))] dX12_laysOut_20 (by decide) rfl rfl rfl ?_
        refine J_iload dX12_laysOut_22 rfl ?_
        refine J_iload_n dX12_laysOut_24 rfl rfl ?_
        refine J_idiv dX12_laysOut_25 (nI_ne0 hb0 (by omega)) ?_
        refine J_rw (y := nI (code / base ^ (j + 1))) (dgt_div (by omega) hb0 (by omega)) ?_
        refine J_istore [(0, .ref o), (1, .int (nI code)), (2, .int (nI nn)), (3, .int (nI base)), (4, .int (nI (code / base ^ (j + 1)))), (5, .int (lyS (s 9) base code nn j)), (6, .int (nI (nn - 1 - j))), (7, .int (nI (dgt base code j)))] dX12_laysOut_26 (by decide) rfl rfl rfl ?_
        refine J_aload_n dX12_laysOut_28 rfl rfl ?_
        refine Mg_17 dX12_laysOut_29 ?_
        refine J_iload dX12_laysOut_32 rfl ?_
        refine J_iload dX12_laysOut_34 rfl ?_
        refine J_iload_n dX12_laysOut_36 rfl rfl ?_
        refine J_iconst (v := nI 1) dX12_laysOut_37 (by decide) ?_
        refine J_isubN dX12_laysOut_38 (by omega) ?_
        have K48_1 : ∀ (t0 : Int32), t0 = lyV base code j → J G "laysOut" RX12 cX12_laysOut 8 (some .int) 0 0 0 Q 0 0 48 [(0, .ref o), (1, .int (nI code)), (2, .int (nI nn)), (3, .int (nI base)), (4, .int (nI (code / base ^ (j + 1)))), (5, .int (lyS (s 9) base code nn j)), (6, .int (nI (nn - 1 - j))), (7, .int (nI (dgt base code j)))] [.int t0, .int (nI (nn - 1 - j)), .ref (a 17)] (mW G o a (su 17 s (lyP base code nn (s 17) j))) := by
          intro t0 qt0
          subst qt0
          refine Ms_17 (s := (su 17 s (lyP base code nn (s 17) j))) (lyP base code nn (s 17) j) rfl (nn - 1 - j) rfl (by omega) dX12_laysOut_48 ?_
          refine J_ws (ws2 := (mW G o a (su 17 s (upd (lyP base code nn (s 17) j) (nn - 1 - j) (lyV base code j))))) (congrArg (mW G o a) su_tw) ?_
          refine J_ws (ws2 := (mW G o a (su 17 s (lyP base code nn (s 17) (j + 1))))) (congrArg (mW G o a) (congrArg (su 17 s) (lyP_s (by omega)))) ?_
          refine J_iload dX12_laysOut_49 rfl ?_
          refine J_aload_n dX12_laysOut_51 rfl rfl ?_
          refine Mg_17 dX12_laysOut_52 ?_
          refine J_iload dX12_laysOut_55 rfl ?_
          refine Ml_17 (s := (su 17 s (lyP base code nn (s 17) (j + 1)))) (lyP base code nn (s 17) (j + 1)) rfl (nn - 1 - j) rfl (by omega) dX12_laysOut_57 ?_
          refine J_rw (y := lyV base code j) (lyP_at (by omega)) ?_
          refine J_iconst (v := -1) dX12_laysOut_58 (by decide) ?_
          have K77_2 : ∀ (t0 : Int32), t0 = (if ¬ lyV base code j = (-1) then s 9 ((5 * (nn - 1 - j)) + 2) else nI 0) → J G "laysOut" RX12 cX12_laysOut 8 (some .int) 0 0 0 Q 0 0 77 [(0, .ref o), (1, .int (nI code)), (2, .int (nI nn)), (3, .int (nI base)), (4, .int (nI (code / base ^ (j + 1)))), (5, .int (lyS (s 9) base code nn j)), (6, .int (nI (nn - 1 - j))), (7, .int (nI (dgt base code j)))] [.int t0, .int (lyS (s 9) base code nn j)] (mW G o a (su 17 s (lyP base code nn (s 17) (j + 1)))) := by
            intro t0 qt0
            subst qt0
            refine J_iadd dX12_laysOut_77 ?_
            refine J_istore [(0, .ref o), (1, .int (nI code)), (2, .int (nI nn)), (3, .int (nI base)), (4, .int (nI (code / base ^ (j + 1)))), (5, .int ((lyS (s 9) base code nn j) + (if ¬ lyV base code j = (-1) then s 9 ((5 * (nn - 1 - j)) + 2) else nI 0))), (6, .int (nI (nn - 1 - j))), (7, .int (nI (dgt base code j)))] dX12_laysOut_78 (by decide) rfl rfl rfl ?_
            refine J_iinc [(0, .ref o), (1, .int (nI code)), (2, .int (nI nn)), (3, .int (nI base)), (4, .int (nI (code / base ^ (j + 1)))), (5, .int ((lyS (s 9) base code nn j) + (if ¬ lyV base code j = (-1) then s 9 ((5 * (nn - 1 - j)) + 2) else nI 0))), (6, .int ((nI (nn - 1 - j)) + (-1))), (7, .int (nI (dgt base code j)))] dX12_laysOut_80 rfl rfl (by decide) rfl rfl rfl ?_
            refine J_goto 11 dX12_laysOut_83 (by decide) ?_
            refine J_lv [0, 1, 2, 3, 4, 5, 6] rfl ?_
            exact ih11 (j + 1) (by omega) (by omega) _ _ _ _ rfl (by simp only [lyS, smI]; congr 1 <;> simp [lyU, ksz1]) (ly_dec (by omega)) rfl
          refine J_icmp_ne 66 dX12_laysOut_59 (by decide) (fun kcz4 => ?_) (fun kcz4 => ?_)
          · refine J_aload_n dX12_laysOut_66 rfl rfl ?_
            refine Mg_9 dX12_laysOut_67 ?_
            refine J_iconst (v := nI 5) dX12_laysOut_70 (by decide) ?_
            refine J_iload dX12_laysOut_71 rfl ?_
            refine J_imulN dX12_laysOut_73 ?_
            refine J_iconst (v := nI 2) dX12_laysOut_74 (by decide) ?_
            refine J_iaddN dX12_laysOut_75 ?_
            refine Ml_9 (s := (su 17 s (lyP base code nn (s 17) (j + 1)))) (s 9) rfl ((5 * (nn - 1 - j)) + 2) rfl (by omega) dX12_laysOut_76 ?_
            exact K77_2 _ (by simp [ksz1, kcz4])
          · refine J_iconst (v := nI 0) dX12_laysOut_62 (by decide) ?_
            refine J_goto 77 dX12_laysOut_63 (by decide) ?_
            exact K77_2 _ (by simp [ksz1, kcz4])
        refine J_icmp_neN 46 (by have := dgt_lt (code := code) (j := j) hb0; omega) (by omega) dX12_laysOut_39 (by decide) (fun kcz5 => ?_) (fun kcz5 => ?_)
        · refine J_iload dX12_laysOut_46 rfl ?_
          exact K48_1 _ (by simp [lyV, ksz1, kcz5])
        · refine J_iconst (v := -1) dX12_laysOut_42 (by decide) ?_
          refine J_goto 48 dX12_laysOut_43 (by decide) ?_
          exact K48_1 _ (by simp [lyV, ksz1, kcz5])
  exact L11 (nn + 1) 0 (by omega) (by omega) _ _ _ _ (by rw [Nat.pow_zero, Nat.div_one]) rfl rfl (lyP_0 _ _ _ _).symm
theorem c_X12_laysOut {G : GT} (o : Nat) (a : Nat → Nat) (s : Nat → Nat → Int32) (code nn base : Nat) (hnn : nn ≤ 6) (hb0 : 0 < base) (hb5 : base ≤ 5) (hcode : code < 2 ^ 20) : Ct G yX12_laysOut cX12_laysOut 8 (some .int) 0 0 0 [.ref o, .int (nI code), .int (nI nn), .int (nI base)] (mW G o a s) (Is (some (.int (lyS (s 9) base code nn nn))) (mW G o a (su 17 s (lyP base code nn (s 17) nn)))) := Ct.of rfl (Nat.le_of_ble_eq_true rfl) (j_X12_laysOut o a s code nn base hnn hb0 hb5 hcode (fun _ e => by subst e; exact Is.rf _ _))
set_option maxRecDepth 100000 in
set_option maxHeartbeats 1000000 in
theorem j_X12_findBest {G : GT} (o : Nat) (a : Nat → Nat) (s : Nat → Nat → Int32) (n : Nat) (hn : s 8 0 = nI n) (hn8 : n ≤ 8) (m : Nat) (hm : s 8 1 = nI m) (hm6 : m ≤ 6) (hHe : ∀ e, e < m → ¬ s 10 (3 * e) < nI 0) {Q : Option Value → va_W → Prop} (hq : Q none (mW G o a (su 20 (su 19 (su 17 s (lyW (min m 4 + 1) (bsF n (min n 6) (min m 4) (s 9) (s 10) (s 19 0) ((min m 4 + 1) ^ (min n 6))).2.toNatClampNeg (min n 6))) (fun _ => (bsF n (min n 6) (min m 4) (s 9) (s 10) (s 19 0) ((min m 4 + 1) ^ (min n 6))).2)) (fun _ => (bsF n (min n 6) (min m 4) (s 9) (s 10) (s 19 0) ((min m 4 + 1) ^ (min n 6))).1)))) : J G "findBest" RX12 cX12_findBest 8 none 0 0 5 Q 0 0 0 [(0, .ref o)] [] (mW G o a s) := by
  have hcd : ∀ k, k ≤ 6 → (min m 4 + 1) ^ k ≤ 15625 := fun k hk => Nat.le_trans (Nat.pow_le_pow_left (show (min m 4 + 1) ≤ 5 by omega) k) (Nat.le_trans (Nat.pow_le_pow_right (by decide) hk) (by decide))
  have hcN := hcd (min n 6) (by omega)
  refine J_aload_n dX12_findBest_0 rfl rfl ?_
  refine Mg_8 dX12_findBest_1 ?_
  refine J_iconst (v := nI 0) dX12_findBest_4 (by decide) ?_
  refine Ml_8 (s := s) (s 8) rfl 0 rfl (by omega) dX12_findBest_5 ?_
  refine J_rw (y := nI n) hn ?_
  refine J_bipush (v := nI 6) dX12_findBest_6 (by decide) ?_
  refine J_cSi [.int (nI n), .int (nI 6)] ms_X12_213 (c_X12_lesser (mW G o a s) n 6 (by omega) (by omega)) rfl rfl (by decide) (Nat.le_of_ble_eq_true rfl) ⟨Nat.le_refl _, Nat.le_refl _⟩ dX12_findBest_8 ?_
  refine J_istore_n [(0, .ref o), (1, .int (nI (min n 6)))] dX12_findBest_11 rfl (by decide) rfl rfl rfl ?_
  refine J_aload_n dX12_findBest_12 rfl rfl ?_
  refine Mg_8 dX12_findBest_13 ?_
  refine J_iconst (v := nI 1) dX12_findBest_16 (by decide) ?_
  refine Ml_8 (s := s) (s 8) rfl 1 rfl (by omega) dX12_findBest_17 ?_
  refine J_rw (y := nI m) hm ?_
  refine J_iconst (v := nI 4) dX12_findBest_18 (by decide) ?_
  refine J_cSi [.int (nI m), .int (nI 4)] ms_X12_213 (c_X12_lesser (mW G o a s) m 4 (by omega) (by omega)) rfl rfl (by decide) (Nat.le_of_ble_eq_true rfl) ⟨Nat.le_refl _, Nat.le_refl _⟩ dX12_findBest_19 ?_
  refine J_istore_n [(0, .ref o), (1, .int (nI (min n 6))), (2, .int (nI (min m 4)))] dX12_findBest_22 rfl (by decide) rfl rfl rfl ?_
  refine J_iconst (v := nI 1) dX12_findBest_23 (by decide) ?_
  refine J_istore_n [(0, .ref o), (1, .int (nI (min n 6))), (2, .int (nI (min m 4))), (3, .int (nI 1))] dX12_findBest_24 rfl (by decide) rfl rfl rfl ?_
  refine J_iconst (v := nI 0) dX12_findBest_25 (by decide) ?_
  refine J_istore [(0, .ref o), (1, .int (nI (min n 6))), (2, .int (nI (min m 4))), (3, .int (nI 1)), (4, .int (nI 0))] dX12_findBest_26 (by decide) rfl rfl rfl ?_
  have L28 : ∀ (f i : Nat), (min n 6) - i < f → i ≤ (min n 6) → ∀ (x3 : Int32) (x4 : Int32), x3 = nI ((min m 4 + 1) ^ i) → x4 = nI i → J G "findBest" RX12 cX12_findBest 8 none 0 0 5 Q 0 0 28 [(0, .ref o), (1, .int (nI (min n 6))), (2, .int (nI (min m 4))), (3, .int x3), (4, .int x4)] [] (mW G o a s) := by
    intro f
    induction f with
    | zero => intro i h; exact absurd h (Nat.not_lt_zero _)
    | succ f ih28 =>
      intro i hf28 hle28  x3 x4 e3 e4
      subst e3
      subst e4
      refine J_iload dX12_findBest_28 rfl ?_
      refine J_iload_n dX12_findBest_30 rfl rfl ?_
      refine J_icmp_geN 46 (by omega) (by omega) dX12_findBest_31 (by decide) (fun kcz1 => ?_) (fun kcz1 => ?_)
      · obtain rfl : i = (min n 6) := (by omega)
        refine J_iconst (v := nI 0) dX12_findBest_46 (by decide) ?_
        refine J_istore [(0, .ref o), (1, .int (nI (min n 6))), (2, .int (nI (min m 4))), (3, .int (nI ((min m 4 + 1) ^ (min n 6)))), (4, .int (nI 0))] dX12_findBest_47 (by decide) rfl rfl rfl ?_
        have L49 : ∀ (f i : Nat), 8 - i < f → i ≤ 8 → ∀ (x4 : Int32) (y17 : Nat → Int32), x4 = nI i → y17 = (fa_fill (fun _ => -1) (s 17) i) → J G "findBest" RX12 cX12_findBest 8 none 0 0 5 Q 0 0 49 [(0, .ref o), (1, .int (nI (min n 6))), (2, .int (nI (min m 4))), (3, .int (nI ((min m 4 + 1) ^ (min n 6)))), (4, .int x4)] [] (mW G o a (su 17 s y17)) := by
          intro f
          induction f with
          | zero => intro i h; exact absurd h (Nat.not_lt_zero _)
          | succ f ih49 =>
            intro i hf49 hle49  x4 y17 e4 g17
            subst e4
            subst g17
            refine J_iload dX12_findBest_49 rfl ?_
            refine J_bipush (v := nI 8) dX12_findBest_51 (by decide) ?_
            refine J_icmp_geN 70 (by omega) (by omega) dX12_findBest_53 (by decide) (fun kcz2 => ?_) (fun kcz2 => ?_)
            · obtain rfl : i = 8 := (by omega)
              refine Ma_17 (g := fun _ => -1) (fun j hj => (fa_fill_in (by omega) : fa_fill (fun _ => -1) (s 17) 8 j = -1)) ?_
              refine J_ws (ws2 := (mW G o a (su 17 s (fun _ => -1)))) (congrArg (mW G o a) su_tw) ?_
              refine J_aload_n dX12_findBest_70 rfl rfl ?_
              refine J_iconst (v := -1) dX12_findBest_71 (by decide) ?_
              refine Mp_20 dX12_findBest_72 ?_
              refine J_iconst (v := nI 0) dX12_findBest_75 (by decide) ?_
              refine J_istore [(0, .ref o), (1, .int (nI (min n 6))), (2, .int (nI (min m 4))), (3, .int (nI ((min m 4 + 1) ^ (min n 6)))), (4, .int (nI 0))] dX12_findBest_76 (by decide) rfl rfl rfl ?_
              have L78 : ∀ (f i : Nat) (yb : Nat → Int32), (min m 4 + 1) ^ (min n 6) - i < f → i ≤ (min m 4 + 1) ^ (min n 6) → (∀ h, (min n 6) ≤ h → yb h = -1) → ∀ (x4 : Int32) (y19 : Nat → Int32) (y20 : Nat → Int32), x4 = nI i → y19 = (fun _ => (bsF n (min n 6) (min m 4) (s 9) (s 10) (s 19 0) i).2) → y20 = (fun _ => (bsF n (min n 6) (min m 4) (s 9) (s 10) (s 19 0) i).1) → J G "findBest" RX12 cX12_findBest 8 none 0 0 5 Q 0 0 78 [(0, .ref o), (1, .int (nI (min n 6))), (2, .int (nI (min m 4))), (3, .int (nI ((min m 4 + 1) ^ (min n 6)))), (4, .int x4)] [] (mW G o a (su 20 (su 19 (su 17 s yb) y19) y20)) := by
                intro f
                induction f with
                | zero => intro i yb h; exact absurd h (Nat.not_lt_zero _)
                | succ f ih78 =>
                  intro i yb hf78 hle78 hyb x4 y19 y20 e4 g19 g20
                  subst e4
                  subst g19
                  subst g20
                  refine J_iload dX12_findBest_78 rfl ?_
                  refine J_iload_n dX12_findBest_80 rfl rfl ?_
                  refine J_icmp_geN 178 (by omega) (by omega) dX12_findBest_81 (by decide) (fun kcz3 => ?_) (fun kcz3 => ?_)
                  · obtain rfl : (min m 4 + 1) ^ (min n 6) = i := (by omega)
                    obtain ⟨kb, hkb, ekb⟩ := bsF_code (n := n) (c0 := s 19 0) hn8 hm6 hHe
                    refine J_aload_n dX12_findBest_178 rfl rfl ?_
                    refine J_aload_n dX12_findBest_179 rfl rfl ?_
                    refine Mg_19 (s := (su 20 (su 19 (su 17 s yb) (fun _ => (bsF n (min n 6) (min m 4) (s 9) (s 10) (s 19 0) ((min m 4 + 1) ^ (min n 6))).2)) (fun _ => (bsF n (min n 6) (min m 4) (s 9) (s 10) (s 19 0) ((min m 4 + 1) ^ (min n 6))).1))) ((bsF n (min n 6) (min m 4) (s 9) (s 10) (s 19 0) ((min m 4 + 1) ^ (min n 6))).2) rfl dX12_findBest_180 ?_
                    refine J_rw (y := nI kb) ekb ?_
                    refine J_iload_n dX12_findBest_183 rfl rfl ?_
                    refine J_iload_n dX12_findBest_184 rfl rfl ?_
                    refine J_iconst (v := nI 1) dX12_findBest_185 (by decide) ?_
                    refine J_iaddN dX12_findBest_186 ?_
                    refine J_cVi (x := yX12_in) [.int (nI kb), .int (nI (min n 6)), .int (nI (min m 4 + 1))] 0 mv_X12_219 (c_X12_laysOut o a (su 20 (su 19 (su 17 s yb) (fun _ => (bsF n (min n 6) (min m 4) (s 9) (s 10) (s 19 0) ((min m 4 + 1) ^ (min n 6))).2)) (fun _ => (bsF n (min n 6) (min m 4) (s 9) (s 10) (s 19 0) ((min m 4 + 1) ^ (min n 6))).1)) kb (min n 6) (min m 4 + 1) (by omega) (by omega) (by omega) (by omega)) mW_0 rfl rfl (by decide) (Nat.le_of_ble_eq_true rfl) ⟨Nat.le_refl _, Nat.le_refl _⟩ dX12_findBest_187 ?_
                    refine J_rw (y := lyS (s 9) (min m 4 + 1) kb (min n 6) (min n 6)) rfl ?_
                    show J G "findBest" RX12 cX12_findBest 8 none 0 0 5 Q 0 0 190 [(0, .ref o), (1, .int (nI (min n 6))), (2, .int (nI (min m 4))), (3, .int (nI ((min m 4 + 1) ^ (min n 6)))), (4, .int (nI ((min m 4 + 1) ^ (min n 6))))] [.int (lyS (s 9) (min m 4 + 1) kb (min n 6) (min n 6))] (mW G o a (su 17 (su 20 (su 19 (su 17 s yb) (fun _ => (bsF n (min n 6) (min m 4) (s 9) (s 10) (s 19 0) ((min m 4 + 1) ^ (min n 6))).2)) (fun _ => (bsF n (min n 6) (min m 4) (s 9) (s 10) (s 19 0) ((min m 4 + 1) ^ (min n 6))).1)) (lyP (min m 4 + 1) kb (min n 6) yb (min n 6))))
                    refine J_ws (ws2 := (mW G o a (su 20 (su 19 (su 17 s (lyP (min m 4 + 1) kb (min n 6) yb (min n 6))) (fun _ => (bsF n (min n 6) (min m 4) (s 9) (s 10) (s 19 0) ((min m 4 + 1) ^ (min n 6))).2)) (fun _ => (bsF n (min n 6) (min m 4) (s 9) (s 10) (s 19 0) ((min m 4 + 1) ^ (min n 6))).1)))) (congrArg (mW G o a) ((su_sw (by decide)).trans (su_cg ((su_sw (by decide)).trans (su_cg su_tw))))) ?_
                    refine J_pop dX12_findBest_190 rfl ?_
                    exact J_vret dX12_findBest_191 rfl rfl rfl (by rw [lyP_W hyb, show kb = (bsF n (min n 6) (min m 4) (s 9) (s 10) (s 19 0) ((min m 4 + 1) ^ (min n 6))).2.toNatClampNeg by rw [ekb, nI_clamp (by omega)]]; exact hq)
                  · refine J_aload_n dX12_findBest_84 rfl rfl ?_
                    refine J_iload dX12_findBest_85 rfl ?_
                    refine J_iload_n dX12_findBest_87 rfl rfl ?_
                    refine J_iload_n dX12_findBest_88 rfl rfl ?_
                    refine J_iconst (v := nI 1) dX12_findBest_89 (by decide) ?_
                    refine J_iaddN dX12_findBest_90 ?_
                    refine J_cVi (x := yX12_in) [.int (nI i), .int (nI (min n 6)), .int (nI (min m 4 + 1))] 0 mv_X12_219 (c_X12_laysOut o a (su 20 (su 19 (su 17 s yb) (fun _ => (bsF n (min n 6) (min m 4) (s 9) (s 10) (s 19 0) i).2)) (fun _ => (bsF n (min n 6) (min m 4) (s 9) (s 10) (s 19 0) i).1)) i (min n 6) (min m 4 + 1) (by omega) (by omega) (by omega) (by omega)) mW_0 rfl rfl (by decide) (Nat.le_of_ble_eq_true rfl) ⟨Nat.le_refl _, Nat.le_refl _⟩ dX12_findBest_91 ?_
                    refine J_rw (y := lyS (s 9) (min m 4 + 1) i (min n 6) (min n 6)) rfl ?_
                    show J G "findBest" RX12 cX12_findBest 8 none 0 0 5 Q 0 0 94 [(0, .ref o), (1, .int (nI (min n 6))), (2, .int (nI (min m 4))), (3, .int (nI ((min m 4 + 1) ^ (min n 6)))), (4, .int (nI i))] [.int (lyS (s 9) (min m 4 + 1) i (min n 6) (min n 6))] (mW G o a (su 17 (su 20 (su 19 (su 17 s yb) (fun _ => (bsF n (min n 6) (min m 4) (s 9) (s 10) (s 19 0) i).2)) (fun _ => (bsF n (min n 6) (min m 4) (s 9) (s 10) (s 19 0) i).1)) (lyP (min m 4 + 1) i (min n 6) yb (min n 6))))
                    refine J_ws (ws2 := (mW G o a (su 20 (su 19 (su 17 s (lyP (min m 4 + 1) i (min n 6) yb (min n 6))) (fun _ => (bsF n (min n 6) (min m 4) (s 9) (s 10) (s 19 0) i).2)) (fun _ => (bsF n (min n 6) (min m 4) (s 9) (s 10) (s 19 0) i).1)))) (congrArg (mW G o a) ((su_sw (by decide)).trans (su_cg ((su_sw (by decide)).trans (su_cg su_tw))))) ?_
                    refine J_ws (ws2 := (mW G o a (su 20 (su 19 (su 17 s (lyW (min m 4 + 1) i (min n 6))) (fun _ => (bsF n (min n 6) (min m 4) (s 9) (s 10) (s 19 0) i).2)) (fun _ => (bsF n (min n 6) (min m 4) (s 9) (s 10) (s 19 0) i).1)))) (congrArg (mW G o a) (su_cg (su_cg (congrArg (su 17 s) (lyP_W hyb))))) ?_
                    refine J_istore [(0, .ref o), (1, .int (nI (min n 6))), (2, .int (nI (min m 4))), (3, .int (nI ((min m 4 + 1) ^ (min n 6)))), (4, .int (nI i)), (5, .int (lyS (s 9) (min m 4 + 1) i (min n 6) (min n 6)))] dX12_findBest_94 (by decide) rfl rfl rfl ?_
                    refine J_iload dX12_findBest_96 rfl ?_
                    refine J_aload_n dX12_findBest_98 rfl rfl ?_
                    refine Mg_20 (s := (su 20 (su 19 (su 17 s (lyW (min m 4 + 1) i (min n 6))) (fun _ => (bsF n (min n 6) (min m 4) (s 9) (s 10) (s 19 0) i).2)) (fun _ => (bsF n (min n 6) (min m 4) (s 9) (s 10) (s 19 0) i).1))) ((bsF n (min n 6) (min m 4) (s 9) (s 10) (s 19 0) i).1) rfl dX12_findBest_99 ?_
                    refine J_icmp_le 172 dX12_findBest_102 (by decide) (fun kcz4 => ?_) (fun kcz4 => ?_)
                    · refine J_iincN [(0, .ref o), (1, .int (nI (min n 6))), (2, .int (nI (min m 4))), (3, .int (nI ((min m 4 + 1) ^ (min n 6)))), (4, .int (nI (i + 1))), (5, .int (lyS (s 9) (min m 4 + 1) i (min n 6) (min n 6)))] dX12_findBest_172 rfl (by decide) rfl rfl rfl ?_
                      refine J_goto 78 dX12_findBest_175 (by decide) ?_
                      refine J_lv [0, 1, 2, 3, 4] rfl ?_
                      exact ih78 (i + 1) (lyW (min m 4 + 1) i (min n 6)) (by omega) (by omega) lyW_out _ _ _ rfl (funext fun _ => by rw [bsF_no1 kcz4]) (funext fun _ => by rw [bsF_no1 kcz4])
                    · refine J_iconst (v := nI 1) dX12_findBest_105 (by decide) ?_
                      refine J_istore [(0, .ref o), (1, .int (nI (min n 6))), (2, .int (nI (min m 4))), (3, .int (nI ((min m 4 + 1) ^ (min n 6)))), (4, .int (nI i)), (5, .int (lyS (s 9) (min m 4 + 1) i (min n 6) (min n 6))), (6, .int (nI 1))] dX12_findBest_106 (by decide) rfl rfl rfl ?_
                      refine J_iconst (v := nI 0) dX12_findBest_108 (by decide) ?_
                      refine J_istore [(0, .ref o), (1, .int (nI (min n 6))), (2, .int (nI (min m 4))), (3, .int (nI ((min m 4 + 1) ^ (min n 6)))), (4, .int (nI i)), (5, .int (lyS (s 9) (min m 4 + 1) i (min n 6) (min n 6))), (6, .int (nI 1)), (7, .int (nI 0))] dX12_findBest_109 (by decide) rfl rfl rfl ?_
                      have L111 : ∀ (f e : Nat), (min m 4) - e < f → e ≤ (min m 4) → ∀ (x6 : Int32) (x7 : Int32), x6 = bI (allB (fun e => livM n (s 9) (s 10) (lyW (min m 4 + 1) i (min n 6)) e) e) → x7 = nI e → J G "findBest" RX12 cX12_findBest 8 none 0 0 5 Q 0 0 111 [(0, .ref o), (1, .int (nI (min n 6))), (2, .int (nI (min m 4))), (3, .int (nI ((min m 4 + 1) ^ (min n 6)))), (4, .int (nI i)), (5, .int (lyS (s 9) (min m 4 + 1) i (min n 6) (min n 6))), (6, .int x6), (7, .int x7)] [] (mW G o a (su 20 (su 19 (su 17 s (lyW (min m 4 + 1) i (min n 6))) (fun _ => (bsF n (min n 6) (min m 4) (s 9) (s 10) (s 19 0) i).2)) (fun _ => (bsF n (min n 6) (min m 4) (s 9) (s 10) (s 19 0) i).1))) := by
                        intro f
                        induction f with
                        | zero => intro e h; exact absurd h (Nat.not_lt_zero _)
                        | succ f ih111 =>
                          intro e hf111 hle111  x6 x7 e6 e7
                          subst e6
                          subst e7
                          refine J_iload dX12_findBest_111 rfl ?_
                          refine J_iload_n dX12_findBest_113 rfl rfl ?_
                          refine J_icmp_geN 136 (by omega) (by omega) dX12_findBest_114 (by decide) (fun kcz5 => ?_) (fun kcz5 => ?_)
                          · obtain rfl : e = (min m 4) := (by omega)
                            refine J_aload_n dX12_findBest_136 rfl rfl ?_
                            refine J_iload dX12_findBest_137 rfl ?_
                            refine J_if_eqB 147 dX12_findBest_139 (by decide) (fun kcz6 => ?_) (fun kcz6 => ?_)
                            · refine J_aload_n dX12_findBest_147 rfl rfl ?_
                              refine Mg_19 (s := (su 20 (su 19 (su 17 s (lyW (min m 4 + 1) i (min n 6))) (fun _ => (bsF n (min n 6) (min m 4) (s 9) (s 10) (s 19 0) i).2)) (fun _ => (bsF n (min n 6) (min m 4) (s 9) (s 10) (s 19 0) i).1))) ((bsF n (min n 6) (min m 4) (s 9) (s 10) (s 19 0) i).2) rfl dX12_findBest_148 ?_
                              refine Mp_19 dX12_findBest_151 ?_
                              refine J_ws (ws2 := (mW G o a (su 20 (su 19 (su 17 s (lyW (min m 4 + 1) i (min n 6))) (fun _ => (bsF n (min n 6) (min m 4) (s 9) (s 10) (s 19 0) i).2)) (fun _ => (bsF n (min n 6) (min m 4) (s 9) (s 10) (s 19 0) i).1)))) (congrArg (mW G o a) ((su_sw (by decide)).trans (su_cg su_tw))) ?_
                              refine J_aload_n dX12_findBest_154 rfl rfl ?_
                              refine J_iload dX12_findBest_155 rfl ?_
                              refine J_if_eqB 165 dX12_findBest_157 (by decide) (fun _ => ?_) (fun c => absurd c (by rw [kcz6]; decide))
                              refine J_aload_n dX12_findBest_165 rfl rfl ?_
                              refine Mg_20 (s := (su 20 (su 19 (su 17 s (lyW (min m 4 + 1) i (min n 6))) (fun _ => (bsF n (min n 6) (min m 4) (s 9) (s 10) (s 19 0) i).2)) (fun _ => (bsF n (min n 6) (min m 4) (s 9) (s 10) (s 19 0) i).1))) ((bsF n (min n 6) (min m 4) (s 9) (s 10) (s 19 0) i).1) rfl dX12_findBest_166 ?_
                              refine Mp_20 dX12_findBest_169 ?_
                              refine J_ws (ws2 := (mW G o a (su 20 (su 19 (su 17 s (lyW (min m 4 + 1) i (min n 6))) (fun _ => (bsF n (min n 6) (min m 4) (s 9) (s 10) (s 19 0) i).2)) (fun _ => (bsF n (min n 6) (min m 4) (s 9) (s 10) (s 19 0) i).1)))) (congrArg (mW G o a) su_tw) ?_
                              refine J_iincN [(0, .ref o), (1, .int (nI (min n 6))), (2, .int (nI (min m 4))), (3, .int (nI ((min m 4 + 1) ^ (min n 6)))), (4, .int (nI (i + 1))), (5, .int (lyS (s 9) (min m 4 + 1) i (min n 6) (min n 6))), (6, .int (bI (allB (fun e => livM n (s 9) (s 10) (lyW (min m 4 + 1) i (min n 6)) e) (min m 4)))), (7, .int (nI (min m 4)))] dX12_findBest_172 rfl (by decide) rfl rfl rfl ?_
                              refine J_goto 78 dX12_findBest_175 (by decide) ?_
                              refine J_lv [0, 1, 2, 3, 4] rfl ?_
                              exact ih78 (i + 1) (lyW (min m 4 + 1) i (min n 6)) (by omega) (by omega) lyW_out _ _ _ rfl (funext fun _ => by rw [bsF_no2 kcz4 kcz6]) (funext fun _ => by rw [bsF_no2 kcz4 kcz6])
                            · refine J_iload dX12_findBest_142 rfl ?_
                              refine J_goto 151 dX12_findBest_144 (by decide) ?_
                              refine Mp_19 dX12_findBest_151 ?_
                              refine J_ws (ws2 := (mW G o a (su 20 (su 19 (su 17 s (lyW (min m 4 + 1) i (min n 6))) (fun _ => nI i)) (fun _ => (bsF n (min n 6) (min m 4) (s 9) (s 10) (s 19 0) i).1)))) (congrArg (mW G o a) ((su_sw (by decide)).trans (su_cg su_tw))) ?_
                              refine J_aload_n dX12_findBest_154 rfl rfl ?_
                              refine J_iload dX12_findBest_155 rfl ?_
                              refine J_if_eqB 165 dX12_findBest_157 (by decide) (fun c => absurd c (by rw [kcz6]; decide)) (fun _ => ?_)
                              refine J_iload dX12_findBest_160 rfl ?_
                              refine J_goto 169 dX12_findBest_162 (by decide) ?_
                              refine Mp_20 dX12_findBest_169 ?_
                              refine J_ws (ws2 := (mW G o a (su 20 (su 19 (su 17 s (lyW (min m 4 + 1) i (min n 6))) (fun _ => nI i)) (fun _ => lyS (s 9) (min m 4 + 1) i (min n 6) (min n 6))))) (congrArg (mW G o a) su_tw) ?_
                              refine J_iincN [(0, .ref o), (1, .int (nI (min n 6))), (2, .int (nI (min m 4))), (3, .int (nI ((min m 4 + 1) ^ (min n 6)))), (4, .int (nI (i + 1))), (5, .int (lyS (s 9) (min m 4 + 1) i (min n 6) (min n 6))), (6, .int (bI (allB (fun e => livM n (s 9) (s 10) (lyW (min m 4 + 1) i (min n 6)) e) (min m 4)))), (7, .int (nI (min m 4)))] dX12_findBest_172 rfl (by decide) rfl rfl rfl ?_
                              refine J_goto 78 dX12_findBest_175 (by decide) ?_
                              refine J_lv [0, 1, 2, 3, 4] rfl ?_
                              exact ih78 (i + 1) (lyW (min m 4 + 1) i (min n 6)) (by omega) (by omega) lyW_out _ _ _ rfl (funext fun _ => by rw [bsF_yes kcz4 kcz6]) (funext fun _ => by rw [bsF_yes kcz4 kcz6])
                          · refine J_iload dX12_findBest_117 rfl ?_
                            refine J_if_eqB 136 dX12_findBest_119 (by decide) (fun kcz7 => ?_) (fun kcz7 => ?_)
                            · have hal : allB (fun e => livM n (s 9) (s 10) (lyW (min m 4 + 1) i (min n 6)) e) (min m 4) = false := bI_inj.mp ((exit_all1 kcz7 (by omega)).symm.trans (congrArg bI kcz7))
                              refine J_aload_n dX12_findBest_136 rfl rfl ?_
                              refine J_iload dX12_findBest_137 rfl ?_
                              refine J_if_eqB 147 dX12_findBest_139 (by decide) (fun _ => ?_) (fun c => absurd c (by rw [kcz7]; decide))
                              refine J_aload_n dX12_findBest_147 rfl rfl ?_
                              refine Mg_19 (s := (su 20 (su 19 (su 17 s (lyW (min m 4 + 1) i (min n 6))) (fun _ => (bsF n (min n 6) (min m 4) (s 9) (s 10) (s 19 0) i).2)) (fun _ => (bsF n (min n 6) (min m 4) (s 9) (s 10) (s 19 0) i).1))) ((bsF n (min n 6) (min m 4) (s 9) (s 10) (s 19 0) i).2) rfl dX12_findBest_148 ?_
                              refine Mp_19 dX12_findBest_151 ?_
                              refine J_ws (ws2 := (mW G o a (su 20 (su 19 (su 17 s (lyW (min m 4 + 1) i (min n 6))) (fun _ => (bsF n (min n 6) (min m 4) (s 9) (s 10) (s 19 0) i).2)) (fun _ => (bsF n (min n 6) (min m 4) (s 9) (s 10) (s 19 0) i).1)))) (congrArg (mW G o a) ((su_sw (by decide)).trans (su_cg su_tw))) ?_
                              refine J_aload_n dX12_findBest_154 rfl rfl ?_
                              refine J_iload dX12_findBest_155 rfl ?_
                              refine J_if_eqB 165 dX12_findBest_157 (by decide) (fun _ => ?_) (fun c => absurd c (by rw [kcz7]; decide))
                              refine J_aload_n dX12_findBest_165 rfl rfl ?_
                              refine Mg_20 (s := (su 20 (su 19 (su 17 s (lyW (min m 4 + 1) i (min n 6))) (fun _ => (bsF n (min n 6) (min m 4) (s 9) (s 10) (s 19 0) i).2)) (fun _ => (bsF n (min n 6) (min m 4) (s 9) (s 10) (s 19 0) i).1))) ((bsF n (min n 6) (min m 4) (s 9) (s 10) (s 19 0) i).1) rfl dX12_findBest_166 ?_
                              refine Mp_20 dX12_findBest_169 ?_
                              refine J_ws (ws2 := (mW G o a (su 20 (su 19 (su 17 s (lyW (min m 4 + 1) i (min n 6))) (fun _ => (bsF n (min n 6) (min m 4) (s 9) (s 10) (s 19 0) i).2)) (fun _ => (bsF n (min n 6) (min m 4) (s 9) (s 10) (s 19 0) i).1)))) (congrArg (mW G o a) su_tw) ?_
                              refine J_iincN [(0, .ref o), (1, .int (nI (min n 6))), (2, .int (nI (min m 4))), (3, .int (nI ((min m 4 + 1) ^ (min n 6)))), (4, .int (nI (i + 1))), (5, .int (lyS (s 9) (min m 4 + 1) i (min n 6) (min n 6))), (6, .int (bI (allB (fun e => livM n (s 9) (s 10) (lyW (min m 4 + 1) i (min n 6)) e) e))), (7, .int (nI e))] dX12_findBest_172 rfl (by decide) rfl rfl rfl ?_
                              refine J_goto 78 dX12_findBest_175 (by decide) ?_
                              refine J_lv [0, 1, 2, 3, 4] rfl ?_
                              exact ih78 (i + 1) (lyW (min m 4 + 1) i (min n 6)) (by omega) (by omega) lyW_out _ _ _ rfl (funext fun _ => by rw [bsF_no2 kcz4 hal]) (funext fun _ => by rw [bsF_no2 kcz4 hal])
                            · refine J_aload_n dX12_findBest_122 rfl rfl ?_
                              refine J_iload dX12_findBest_123 rfl ?_
                              refine J_cVi (x := yX12_in) [.int (nI e)] 0 mv_X12_198 (c_X12_lives o a (su 20 (su 19 (su 17 s (lyW (min m 4 + 1) i (min n 6))) (fun _ => (bsF n (min n 6) (min m 4) (s 9) (s 10) (s 19 0) i).2)) (fun _ => (bsF n (min n 6) (min m 4) (s 9) (s 10) (s 19 0) i).1)) n hn hn8 e (by omega)) mW_0 rfl rfl (by decide) (Nat.le_of_ble_eq_true rfl) ⟨Nat.le_refl _, Nat.le_refl _⟩ dX12_findBest_125 ?_
                              refine J_rw (y := bI (livM n (s 9) (s 10) (lyW (min m 4 + 1) i (min n 6)) e)) rfl ?_
                              refine J_istore [(0, .ref o), (1, .int (nI (min n 6))), (2, .int (nI (min m 4))), (3, .int (nI ((min m 4 + 1) ^ (min n 6)))), (4, .int (nI i)), (5, .int (lyS (s 9) (min m 4 + 1) i (min n 6) (min n 6))), (6, .int (bI (livM n (s 9) (s 10) (lyW (min m 4 + 1) i (min n 6)) e))), (7, .int (nI e))] dX12_findBest_128 (by decide) rfl rfl rfl ?_
                              refine J_iincN [(0, .ref o), (1, .int (nI (min n 6))), (2, .int (nI (min m 4))), (3, .int (nI ((min m 4 + 1) ^ (min n 6)))), (4, .int (nI i)), (5, .int (lyS (s 9) (min m 4 + 1) i (min n 6) (min n 6))), (6, .int (bI (livM n (s 9) (s 10) (lyW (min m 4 + 1) i (min n 6)) e))), (7, .int (nI (e + 1)))] dX12_findBest_130 rfl (by decide) rfl rfl rfl ?_
                              refine J_goto 111 dX12_findBest_133 (by decide) ?_
                              exact ih111 (e + 1) (by omega) (by omega)  _ _ (step_all1 kcz7 rfl) rfl
                      exact L111 ((min m 4) + 1) 0 (by omega) (by omega)  _ _ rfl rfl
              exact L78 ((min m 4 + 1) ^ (min n 6) + 1) 0 (fun _ => -1) (by omega) (by omega) (fun _ _ => rfl) _ _ _ rfl rfl rfl
            · refine J_aload_n dX12_findBest_56 rfl rfl ?_
              refine Mg_17 dX12_findBest_57 ?_
              refine J_iload dX12_findBest_60 rfl ?_
              refine J_iconst (v := -1) dX12_findBest_62 (by decide) ?_
              refine Ms_17 (s := (su 17 s (fa_fill (fun _ => -1) (s 17) i))) (fa_fill (fun _ => -1) (s 17) i) rfl i rfl (by omega) dX12_findBest_63 ?_
              refine J_ws (ws2 := (mW G o a (su 17 s (upd (fa_fill (fun _ => -1) (s 17) i) i (-1))))) (congrArg (mW G o a) su_tw) ?_
              refine J_iincN [(0, .ref o), (1, .int (nI (min n 6))), (2, .int (nI (min m 4))), (3, .int (nI ((min m 4 + 1) ^ (min n 6)))), (4, .int (nI (i + 1)))] dX12_findBest_64 rfl (by decide) rfl rfl rfl ?_
              refine J_goto 49 dX12_findBest_67 (by decide) ?_
              exact ih49 (i + 1) (by omega) (by omega)  _ _ rfl (fa_fill_succ _ _ _)
        exact L49 (8 + 1) 0 (by omega) (by omega)  _ _ rfl (fa_fill_0 _ _).symm
      · refine J_iload_n dX12_findBest_34 rfl rfl ?_
        refine J_iload_n dX12_findBest_35 rfl rfl ?_
        refine J_iconst (v := nI 1) dX12_findBest_36 (by decide) ?_
        refine J_iaddN dX12_findBest_37 ?_
        refine J_imulN dX12_findBest_38 ?_
        refine J_istore_n [(0, .ref o), (1, .int (nI (min n 6))), (2, .int (nI (min m 4))), (3, .int (nI (((min m 4 + 1) ^ i) * (min m 4 + 1)))), (4, .int (nI i))] dX12_findBest_39 rfl (by decide) rfl rfl rfl ?_
        refine J_iincN [(0, .ref o), (1, .int (nI (min n 6))), (2, .int (nI (min m 4))), (3, .int (nI (((min m 4 + 1) ^ i) * (min m 4 + 1)))), (4, .int (nI (i + 1)))] dX12_findBest_40 rfl (by decide) rfl rfl rfl ?_
        refine J_goto 28 dX12_findBest_43 (by decide) ?_
        exact ih28 (i + 1) (by omega) (by omega)  _ _ rfl rfl
  exact L28 ((min n 6) + 1) 0 (by omega) (by omega)  _ _ rfl rfl
theorem c_X12_findBest {G : GT} (o : Nat) (a : Nat → Nat) (s : Nat → Nat → Int32) (n : Nat) (hn : s 8 0 = nI n) (hn8 : n ≤ 8) (m : Nat) (hm : s 8 1 = nI m) (hm6 : m ≤ 6) (hHe : ∀ e, e < m → ¬ s 10 (3 * e) < nI 0) : Ct G yX12_findBest cX12_findBest 8 none 0 0 5 [.ref o] (mW G o a s) (Is none (mW G o a (su 20 (su 19 (su 17 s (lyW (min m 4 + 1) (bsF n (min n 6) (min m 4) (s 9) (s 10) (s 19 0) ((min m 4 + 1) ^ (min n 6))).2.toNatClampNeg (min n 6))) (fun _ => (bsF n (min n 6) (min m 4) (s 9) (s 10) (s 19 0) ((min m 4 + 1) ^ (min n 6))).2)) (fun _ => (bsF n (min n 6) (min m 4) (s 9) (s 10) (s 19 0) ((min m 4 + 1) ^ (min n 6))).1)))) := Ct.of rfl (Nat.le_of_ble_eq_true rfl) (j_X12_findBest o a s n hn hn8 m hm hm6 hHe (Is.rf _ _))
set_option maxRecDepth 100000 in
set_option maxHeartbeats 1000000 in
theorem j_X12_bestOfN {G : GT} (o : Nat) (a : Nat → Nat) (s : Nat → Nat → Int32) (n : Nat) (hn : s 8 0 = nI n) (hn8 : n ≤ 8) (m : Nat) (hm : s 8 1 = nI m) (hm6 : m ≤ 6) (hHe : ∀ e, e < m → ¬ s 10 (3 * e) < nI 0) {Q : Option Value → va_W → Prop} (hq : ∀ v_ : Int32, v_ = (bsF n (min n 6) (min m 4) (s 9) (s 10) (s 19 0) ((min m 4 + 1) ^ (min n 6))).1 → Q (some (.int v_)) (mW G o a (su 20 (su 19 (su 17 s (lyW (min m 4 + 1) (bsF n (min n 6) (min m 4) (s 9) (s 10) (s 19 0) ((min m 4 + 1) ^ (min n 6))).2.toNatClampNeg (min n 6))) (fun _ => (bsF n (min n 6) (min m 4) (s 9) (s 10) (s 19 0) ((min m 4 + 1) ^ (min n 6))).2)) (fun _ => (bsF n (min n 6) (min m 4) (s 9) (s 10) (s 19 0) ((min m 4 + 1) ^ (min n 6))).1)))) : J G "bestOf" RX12 cX12_bestOf 2 (some .int) 0 0 6 Q 0 0 0 [(0, .ref o), (1, .int (-1))] [] (mW G o a s) := by
  refine J_aload_n dX12_bestOf_0 rfl rfl ?_
  refine J_cVv (x := yX12_in) [] 0 mv_X12_225 (c_X12_findBest o a s n hn hn8 m hm hm6 hHe) mW_0 rfl rfl (by decide) (Nat.le_of_ble_eq_true rfl) ⟨Nat.le_refl _, Nat.le_refl _⟩ dX12_bestOf_1 ?_
  show J G "bestOf" RX12 cX12_bestOf 2 (some .int) 0 0 6 Q 0 0 4 [(0, .ref o), (1, .int (-1))] [] (mW G o a (su 20 (su 19 (su 17 s (lyW (min m 4 + 1) (bsF n (min n 6) (min m 4) (s 9) (s 10) (s 19 0) ((min m 4 + 1) ^ (min n 6))).2.toNatClampNeg (min n 6))) (fun _ => (bsF n (min n 6) (min m 4) (s 9) (s 10) (s 19 0) ((min m 4 + 1) ^ (min n 6))).2)) (fun _ => (bsF n (min n 6) (min m 4) (s 9) (s 10) (s 19 0) ((min m 4 + 1) ^ (min n 6))).1)))
  refine J_iload_n dX12_bestOf_4 rfl rfl ?_
  refine J_iconst (v := -1) dX12_bestOf_5 (by decide) ?_
  refine J_icmp_ne 16 dX12_bestOf_6 (by decide) (fun c => absurd c (by decide)) (fun _ => ?_)
  refine J_aload_n dX12_bestOf_9 rfl rfl ?_
  refine Mg_20 (s := (su 20 (su 19 (su 17 s (lyW (min m 4 + 1) (bsF n (min n 6) (min m 4) (s 9) (s 10) (s 19 0) ((min m 4 + 1) ^ (min n 6))).2.toNatClampNeg (min n 6))) (fun _ => (bsF n (min n 6) (min m 4) (s 9) (s 10) (s 19 0) ((min m 4 + 1) ^ (min n 6))).2)) (fun _ => (bsF n (min n 6) (min m 4) (s 9) (s 10) (s 19 0) ((min m 4 + 1) ^ (min n 6))).1))) ((bsF n (min n 6) (min m 4) (s 9) (s 10) (s 19 0) ((min m 4 + 1) ^ (min n 6))).1) rfl dX12_bestOf_10 ?_
  refine J_goto 36 dX12_bestOf_13 (by decide) ?_
  exact J_iret dX12_bestOf_36 rfl rfl rfl (hq _ rfl)
theorem c_X12_bestOfN {G : GT} (o : Nat) (a : Nat → Nat) (s : Nat → Nat → Int32) (n : Nat) (hn : s 8 0 = nI n) (hn8 : n ≤ 8) (m : Nat) (hm : s 8 1 = nI m) (hm6 : m ≤ 6) (hHe : ∀ e, e < m → ¬ s 10 (3 * e) < nI 0) : Ct G yX12_bestOf cX12_bestOf 2 (some .int) 0 0 6 [.ref o, .int (-1)] (mW G o a s) (Is (some (.int ((bsF n (min n 6) (min m 4) (s 9) (s 10) (s 19 0) ((min m 4 + 1) ^ (min n 6))).1))) (mW G o a (su 20 (su 19 (su 17 s (lyW (min m 4 + 1) (bsF n (min n 6) (min m 4) (s 9) (s 10) (s 19 0) ((min m 4 + 1) ^ (min n 6))).2.toNatClampNeg (min n 6))) (fun _ => (bsF n (min n 6) (min m 4) (s 9) (s 10) (s 19 0) ((min m 4 + 1) ^ (min n 6))).2)) (fun _ => (bsF n (min n 6) (min m 4) (s 9) (s 10) (s 19 0) ((min m 4 + 1) ^ (min n 6))).1)))) := Ct.of rfl (Nat.le_of_ble_eq_true rfl) (j_X12_bestOfN o a s n hn hn8 m hm hm6 hHe (fun _ e => by subst e; exact Is.rf _ _))
set_option maxRecDepth 100000 in
set_option maxHeartbeats 1000000 in
theorem j_X12_bestOfI {G : GT} (o : Nat) (a : Nat → Nat) (s : Nat → Nat → Int32) (n : Nat) (hn : s 8 0 = nI n) (hn8 : n ≤ 8) (m : Nat) (hm : s 8 1 = nI m) (hm6 : m ≤ 6) (hHe : ∀ e, e < m → ¬ s 10 (3 * e) < nI 0) (i : Nat) (hi6 : i < 6) {Q : Option Value → va_W → Prop} (hq : ∀ v_ : Int32, v_ = (if n ≤ i then -1 else lyW (min m 4 + 1) (bsF n (min n 6) (min m 4) (s 9) (s 10) (s 19 0) ((min m 4 + 1) ^ (min n 6))).2.toNatClampNeg (min n 6) i) → Q (some (.int v_)) (mW G o a (su 20 (su 19 (su 17 s (lyW (min m 4 + 1) (bsF n (min n 6) (min m 4) (s 9) (s 10) (s 19 0) ((min m 4 + 1) ^ (min n 6))).2.toNatClampNeg (min n 6))) (fun _ => (bsF n (min n 6) (min m 4) (s 9) (s 10) (s 19 0) ((min m 4 + 1) ^ (min n 6))).2)) (fun _ => (bsF n (min n 6) (min m 4) (s 9) (s 10) (s 19 0) ((min m 4 + 1) ^ (min n 6))).1)))) : J G "bestOf" RX12 cX12_bestOf 2 (some .int) 0 0 6 Q 0 0 0 [(0, .ref o), (1, .int (nI i))] [] (mW G o a s) := by
  refine J_aload_n dX12_bestOf_0 rfl rfl ?_
  refine J_cVv (x := yX12_in) [] 0 mv_X12_225 (c_X12_findBest o a s n hn hn8 m hm hm6 hHe) mW_0 rfl rfl (by decide) (Nat.le_of_ble_eq_true rfl) ⟨Nat.le_refl _, Nat.le_refl _⟩ dX12_bestOf_1 ?_
  show J G "bestOf" RX12 cX12_bestOf 2 (some .int) 0 0 6 Q 0 0 4 [(0, .ref o), (1, .int (nI i))] [] (mW G o a (su 20 (su 19 (su 17 s (lyW (min m 4 + 1) (bsF n (min n 6) (min m 4) (s 9) (s 10) (s 19 0) ((min m 4 + 1) ^ (min n 6))).2.toNatClampNeg (min n 6))) (fun _ => (bsF n (min n 6) (min m 4) (s 9) (s 10) (s 19 0) ((min m 4 + 1) ^ (min n 6))).2)) (fun _ => (bsF n (min n 6) (min m 4) (s 9) (s 10) (s 19 0) ((min m 4 + 1) ^ (min n 6))).1)))
  refine J_iload_n dX12_bestOf_4 rfl rfl ?_
  refine J_iconst (v := -1) dX12_bestOf_5 (by decide) ?_
  refine J_icmp_ne 16 dX12_bestOf_6 (by decide) (fun _ => ?_) (fun c => absurd c (fun q => m1_ne (by omega) q.symm))
  refine J_iload_n dX12_bestOf_16 rfl rfl ?_
  refine J_aload_n dX12_bestOf_17 rfl rfl ?_
  refine Mg_8 dX12_bestOf_18 ?_
  refine J_iconst (v := nI 0) dX12_bestOf_21 (by decide) ?_
  refine Ml_8 (s := (su 20 (su 19 (su 17 s (lyW (min m 4 + 1) (bsF n (min n 6) (min m 4) (s 9) (s 10) (s 19 0) ((min m 4 + 1) ^ (min n 6))).2.toNatClampNeg (min n 6))) (fun _ => (bsF n (min n 6) (min m 4) (s 9) (s 10) (s 19 0) ((min m 4 + 1) ^ (min n 6))).2)) (fun _ => (bsF n (min n 6) (min m 4) (s 9) (s 10) (s 19 0) ((min m 4 + 1) ^ (min n 6))).1))) (s 8) rfl 0 rfl (by omega) dX12_bestOf_22 ?_
  refine J_rw (y := nI n) hn ?_
  refine J_icmp_geN 35 (by omega) (by omega) dX12_bestOf_23 (by decide) (fun kcz1 => ?_) (fun kcz1 => ?_)
  · refine J_iconst (v := -1) dX12_bestOf_35 (by decide) ?_
    exact J_iret dX12_bestOf_36 rfl rfl rfl (hq _ (by simp [kcz1]))
  · refine J_aload_n dX12_bestOf_26 rfl rfl ?_
    refine Mg_17 dX12_bestOf_27 ?_
    refine J_iload_n dX12_bestOf_30 rfl rfl ?_
    refine Ml_17 (s := (su 20 (su 19 (su 17 s (lyW (min m 4 + 1) (bsF n (min n 6) (min m 4) (s 9) (s 10) (s 19 0) ((min m 4 + 1) ^ (min n 6))).2.toNatClampNeg (min n 6))) (fun _ => (bsF n (min n 6) (min m 4) (s 9) (s 10) (s 19 0) ((min m 4 + 1) ^ (min n 6))).2)) (fun _ => (bsF n (min n 6) (min m 4) (s 9) (s 10) (s 19 0) ((min m 4 + 1) ^ (min n 6))).1))) (lyW (min m 4 + 1) (bsF n (min n 6) (min m 4) (s 9) (s 10) (s 19 0) ((min m 4 + 1) ^ (min n 6))).2.toNatClampNeg (min n 6)) rfl i rfl (by omega) dX12_bestOf_31 ?_
    refine J_goto 36 dX12_bestOf_32 (by decide) ?_
    exact J_iret dX12_bestOf_36 rfl rfl rfl (hq _ (by simp [kcz1]))
theorem c_X12_bestOfI {G : GT} (o : Nat) (a : Nat → Nat) (s : Nat → Nat → Int32) (n : Nat) (hn : s 8 0 = nI n) (hn8 : n ≤ 8) (m : Nat) (hm : s 8 1 = nI m) (hm6 : m ≤ 6) (hHe : ∀ e, e < m → ¬ s 10 (3 * e) < nI 0) (i : Nat) (hi6 : i < 6) : Ct G yX12_bestOf cX12_bestOf 2 (some .int) 0 0 6 [.ref o, .int (nI i)] (mW G o a s) (Is (some (.int (if n ≤ i then -1 else lyW (min m 4 + 1) (bsF n (min n 6) (min m 4) (s 9) (s 10) (s 19 0) ((min m 4 + 1) ^ (min n 6))).2.toNatClampNeg (min n 6) i))) (mW G o a (su 20 (su 19 (su 17 s (lyW (min m 4 + 1) (bsF n (min n 6) (min m 4) (s 9) (s 10) (s 19 0) ((min m 4 + 1) ^ (min n 6))).2.toNatClampNeg (min n 6))) (fun _ => (bsF n (min n 6) (min m 4) (s 9) (s 10) (s 19 0) ((min m 4 + 1) ^ (min n 6))).2)) (fun _ => (bsF n (min n 6) (min m 4) (s 9) (s 10) (s 19 0) ((min m 4 + 1) ^ (min n 6))).1)))) := Ct.of rfl (Nat.le_of_ble_eq_true rfl) (j_X12_bestOfI o a s n hn hn8 m hm hm6 hHe i hi6 (fun _ e => by subst e; exact Is.rf _ _))
