set_option maxRecDepth 100000 in
set_option maxHeartbeats 1000000 in
theorem j_X12_in {G : GT} (ws : va_W) (v lo hi : Int64) {Q : Option Value → va_W → Prop} (hq : ∀ v_ : Int32, v_ = bI (inL v lo hi) → Q (some (.int v_)) ws) : J G "in" RX12 cX12_in 6 (some .boolean) 0 0 0 Q 0 0 0 [(0, .long v), (2, .long lo), (4, .long hi)] [] ws := by
  refine J_lload_n dX12_in_0 rfl rfl ?_
  refine J_lload_n dX12_in_1 rfl rfl ?_
  refine J_lcmp dX12_in_2 ?_
  refine J_if_lt 17 dX12_in_3 (by decide) (fun kcz1 => ?_) (fun kcz1 => ?_)
  · refine J_iconst (v := nI 0) dX12_in_17 (by decide) ?_
    exact J_zretB (b := false) dX12_in_18 rfl rfl rfl (hq _ (by rw [lgc_lt] at kcz1; show bI false = bI (inL v lo hi); simp [inL, kcz1]))
  · refine J_lload_n dX12_in_6 rfl rfl ?_
    refine J_lload dX12_in_7 rfl ?_
    refine J_lcmp dX12_in_9 ?_
    refine J_if_gt 17 dX12_in_10 (by decide) (fun kcz2 => ?_) (fun kcz2 => ?_)
    · refine J_iconst (v := nI 0) dX12_in_17 (by decide) ?_
      exact J_zretB (b := false) dX12_in_18 rfl rfl rfl (hq _ (by rw [lgc_lt] at kcz1; rw [lgc_gt] at kcz2; show bI false = bI (inL v lo hi); simp [inL, kcz1, kcz2]))
    · refine J_iconst (v := nI 1) dX12_in_13 (by decide) ?_
      refine J_goto 18 dX12_in_14 (by decide) ?_
      exact J_zretB (b := true) dX12_in_18 rfl rfl rfl (hq _ (by rw [lgc_lt] at kcz1; rw [lgc_gt] at kcz2; show bI true = bI (inL v lo hi); simp [inL, kcz1, kcz2]))
theorem c_X12_in {G : GT} (ws : va_W) (v lo hi : Int64) : Ct G yX12_in cX12_in 6 (some .boolean) 0 0 0 [.long v, .long lo, .long hi] ws (Is (some (.int (bI (inL v lo hi)))) ws) := Ct.of rfl (Nat.le_of_ble_eq_true rfl) (j_X12_in ws v lo hi (fun _ e => by subst e; exact Is.rf _ _))
set_option maxRecDepth 100000 in
set_option maxHeartbeats 1000000 in
theorem j_X12_isTwo {G : GT} (ws : va_W) (v : Int32) {Q : Option Value → va_W → Prop} (hq : ∀ v_ : Int32, v_ = bI (rng v 2) → Q (some (.int v_)) ws) : J G "isTwo" RX12 cX12_isTwo 1 (some .boolean) 0 0 1 Q 0 0 0 [(0, .int v)] [] ws := by
  refine J_iload_n dX12_isTwo_0 rfl rfl ?_
  refine J_i2l dX12_isTwo_1 ?_
  refine J_lconst (v := 0) dX12_isTwo_2 (by decide) ?_
  refine J_lconst (v := 1) dX12_isTwo_3 (by decide) ?_
  refine J_cSi [.long v.toInt64, .long 0, .long 1] ms_X12_57 (c_X12_in ws v.toInt64 0 1) rfl rfl (by decide) (Nat.le_of_ble_eq_true rfl) ⟨Nat.le_refl _, Nat.le_refl _⟩ dX12_isTwo_4 ?_
  refine J_rw (y := bI (rng v 2)) (congrArg bI (inL_rng v (by decide) rfl)) ?_
  exact J_zretB dX12_isTwo_7 rfl rfl rfl (hq _ rfl)
theorem c_X12_isTwo {G : GT} (ws : va_W) (v : Int32) : Ct G yX12_isTwo cX12_isTwo 1 (some .boolean) 0 0 1 [.int v] ws (Is (some (.int (bI (rng v 2)))) ws) := Ct.of rfl (Nat.le_of_ble_eq_true rfl) (j_X12_isTwo ws v (fun _ e => by subst e; exact Is.rf _ _))
set_option maxRecDepth 100000 in
set_option maxHeartbeats 1000000 in
theorem j_X12_isSheet {G : GT} (ws : va_W) (v : Int32) {Q : Option Value → va_W → Prop} (hq : ∀ v_ : Int32, v_ = bI (rng v 4) → Q (some (.int v_)) ws) : J G "isSheet" RX12 cX12_isSheet 1 (some .boolean) 0 0 1 Q 0 0 0 [(0, .int v)] [] ws := by
  refine J_iload_n dX12_isSheet_0 rfl rfl ?_
  refine J_i2l dX12_isSheet_1 ?_
  refine J_lconst (v := 0) dX12_isSheet_2 (by decide) ?_
  refine J_ldc2 dX12_isSheet_3 k_X12_65 ?_
  refine J_cSi [.long v.toInt64, .long 0, .long (3)] ms_X12_57 (c_X12_in ws v.toInt64 0 (3)) rfl rfl (by decide) (Nat.le_of_ble_eq_true rfl) ⟨Nat.le_refl _, Nat.le_refl _⟩ dX12_isSheet_6 ?_
  refine J_rw (y := bI (rng v 4)) (congrArg bI (inL_rng v (by decide) rfl)) ?_
  exact J_zretB dX12_isSheet_9 rfl rfl rfl (hq _ rfl)
theorem c_X12_isSheet {G : GT} (ws : va_W) (v : Int32) : Ct G yX12_isSheet cX12_isSheet 1 (some .boolean) 0 0 1 [.int v] ws (Is (some (.int (bI (rng v 4)))) ws) := Ct.of rfl (Nat.le_of_ble_eq_true rfl) (j_X12_isSheet ws v (fun _ e => by subst e; exact Is.rf _ _))
set_option maxRecDepth 100000 in
set_option maxHeartbeats 1000000 in
theorem j_X12_isText {G : GT} (ws : va_W) (v : Int32) {Q : Option Value → va_W → Prop} (hq : ∀ v_ : Int32, v_ = bI (rng v 3) → Q (some (.int v_)) ws) : J G "isText" RX12 cX12_isText 1 (some .boolean) 0 0 1 Q 0 0 0 [(0, .int v)] [] ws := by
  refine J_iload_n dX12_isText_0 rfl rfl ?_
  refine J_i2l dX12_isText_1 ?_
  refine J_lconst (v := 0) dX12_isText_2 (by decide) ?_
  refine J_ldc2 dX12_isText_3 k_X12_71 ?_
  refine J_cSi [.long v.toInt64, .long 0, .long (2)] ms_X12_57 (c_X12_in ws v.toInt64 0 (2)) rfl rfl (by decide) (Nat.le_of_ble_eq_true rfl) ⟨Nat.le_refl _, Nat.le_refl _⟩ dX12_isText_6 ?_
  refine J_rw (y := bI (rng v 3)) (congrArg bI (inL_rng v (by decide) rfl)) ?_
  exact J_zretB dX12_isText_9 rfl rfl rfl (hq _ rfl)
theorem c_X12_isText {G : GT} (ws : va_W) (v : Int32) : Ct G yX12_isText cX12_isText 1 (some .boolean) 0 0 1 [.int v] ws (Is (some (.int (bI (rng v 3)))) ws) := Ct.of rfl (Nat.le_of_ble_eq_true rfl) (j_X12_isText ws v (fun _ e => by subst e; exact Is.rf _ _))
set_option maxRecDepth 100000 in
set_option maxHeartbeats 1000000 in
theorem j_X12_isAnyone {G : GT} (ws : va_W) (v : Int32) {Q : Option Value → va_W → Prop} (hq : ∀ v_ : Int32, v_ = bI (rng v 6) → Q (some (.int v_)) ws) : J G "isAnyone" RX12 cX12_isAnyone 1 (some .boolean) 0 0 1 Q 0 0 0 [(0, .int v)] [] ws := by
  refine J_iload_n dX12_isAnyone_0 rfl rfl ?_
  refine J_i2l dX12_isAnyone_1 ?_
  refine J_lconst (v := 0) dX12_isAnyone_2 (by decide) ?_
  refine J_ldc2 dX12_isAnyone_3 k_X12_121 ?_
  refine J_cSi [.long v.toInt64, .long 0, .long (5)] ms_X12_57 (c_X12_in ws v.toInt64 0 (5)) rfl rfl (by decide) (Nat.le_of_ble_eq_true rfl) ⟨Nat.le_refl _, Nat.le_refl _⟩ dX12_isAnyone_6 ?_
  refine J_rw (y := bI (rng v 6)) (congrArg bI (inL_rng v (by decide) rfl)) ?_
  exact J_zretB dX12_isAnyone_9 rfl rfl rfl (hq _ rfl)
theorem c_X12_isAnyone {G : GT} (ws : va_W) (v : Int32) : Ct G yX12_isAnyone cX12_isAnyone 1 (some .boolean) 0 0 1 [.int v] ws (Is (some (.int (bI (rng v 6)))) ws) := Ct.of rfl (Nat.le_of_ble_eq_true rfl) (j_X12_isAnyone ws v (fun _ e => by subst e; exact Is.rf _ _))
set_option maxRecDepth 100000 in
set_option maxHeartbeats 1000000 in
theorem j_X12_isHour {G : GT} (ws : va_W) (v : Int32) {Q : Option Value → va_W → Prop} (hq : ∀ v_ : Int32, v_ = bI (rng v 24) → Q (some (.int v_)) ws) : J G "isHour" RX12 cX12_isHour 1 (some .boolean) 0 0 1 Q 0 0 0 [(0, .int v)] [] ws := by
  refine J_iload_n dX12_isHour_0 rfl rfl ?_
  refine J_i2l dX12_isHour_1 ?_
  refine J_lconst (v := 0) dX12_isHour_2 (by decide) ?_
  refine J_ldc2 dX12_isHour_3 k_X12_123 ?_
  refine J_cSi [.long v.toInt64, .long 0, .long (23)] ms_X12_57 (c_X12_in ws v.toInt64 0 (23)) rfl rfl (by decide) (Nat.le_of_ble_eq_true rfl) ⟨Nat.le_refl _, Nat.le_refl _⟩ dX12_isHour_6 ?_
  refine J_rw (y := bI (rng v 24)) (congrArg bI (inL_rng v (by decide) rfl)) ?_
  exact J_zretB dX12_isHour_9 rfl rfl rfl (hq _ rfl)
theorem c_X12_isHour {G : GT} (ws : va_W) (v : Int32) : Ct G yX12_isHour cX12_isHour 1 (some .boolean) 0 0 1 [.int v] ws (Is (some (.int (bI (rng v 24)))) ws) := Ct.of rfl (Nat.le_of_ble_eq_true rfl) (j_X12_isHour ws v (fun _ e => by subst e; exact Is.rf _ _))
set_option maxRecDepth 100000 in
set_option maxHeartbeats 1000000 in
theorem j_X12_isIn {G : GT} (ws : va_W) (b j : Nat) (hb : b < 2 ^ 31) (hj : j < 31) {Q : Option Value → va_W → Prop} (hq : ∀ v_ : Int32, v_ = bI (b.testBit j) → Q (some (.int v_)) ws) : J G "isIn" RX12 cX12_isIn 2 (some .boolean) 0 0 0 Q 0 0 0 [(0, .int (nI b)), (1, .int (nI j))] [] ws := by
  refine J_iload_n dX12_isIn_0 rfl rfl ?_
  refine J_iload_n dX12_isIn_1 rfl rfl ?_
  refine J_ishr dX12_isIn_2 ?_
  refine J_iconst (v := nI 1) dX12_isIn_3 (by decide) ?_
  refine J_iand dX12_isIn_4 ?_
  refine J_iconst (v := nI 1) dX12_isIn_5 (by decide) ?_
  refine J_icmp_ne 13 dX12_isIn_6 (by decide) (fun kcz1 => ?_) (fun kcz1 => ?_)
  · refine J_iconst (v := nI 0) dX12_isIn_13 (by decide) ?_
    exact J_zretB (b := false) dX12_isIn_14 rfl rfl rfl (hq _ (by rw [← tb_nI hb hj]; show bI false = bI (tb (nI b) (nI j)); simp [tb, kcz1]))
  · refine J_iconst (v := nI 1) dX12_isIn_9 (by decide) ?_
    refine J_goto 14 dX12_isIn_10 (by decide) ?_
    exact J_zretB (b := true) dX12_isIn_14 rfl rfl rfl (hq _ (by rw [← tb_nI hb hj]; show bI true = bI (tb (nI b) (nI j)); simp [tb, kcz1]))
theorem c_X12_isIn {G : GT} (ws : va_W) (b j : Nat) (hb : b < 2 ^ 31) (hj : j < 31) : Ct G yX12_isIn cX12_isIn 2 (some .boolean) 0 0 0 [.int (nI b), .int (nI j)] ws (Is (some (.int (bI (b.testBit j)))) ws) := Ct.of rfl (Nat.le_of_ble_eq_true rfl) (j_X12_isIn ws b j hb hj (fun _ e => by subst e; exact Is.rf _ _))
set_option maxRecDepth 100000 in
set_option maxHeartbeats 1000000 in
theorem j_X12_lesser {G : GT} (ws : va_W) (x y : Nat) (hx : x < 2 ^ 31) (hy : y < 2 ^ 31) {Q : Option Value → va_W → Prop} (hq : ∀ v_ : Int32, v_ = nI (min x y) → Q (some (.int v_)) ws) : J G "lesser" RX12 cX12_lesser 2 (some .int) 0 0 0 Q 0 0 0 [(0, .int (nI x)), (1, .int (nI y))] [] ws := by
  refine J_iload_n dX12_lesser_0 rfl rfl ?_
  refine J_iload_n dX12_lesser_1 rfl rfl ?_
  refine J_icmp_geN 9 hx hy dX12_lesser_2 (by decide) (fun kcz1 => ?_) (fun kcz1 => ?_)
  · refine J_iload_n dX12_lesser_9 rfl rfl ?_
    exact J_iret dX12_lesser_10 rfl rfl rfl (hq _ (by congr 1; omega))
  · refine J_iload_n dX12_lesser_5 rfl rfl ?_
    refine J_goto 10 dX12_lesser_6 (by decide) ?_
    exact J_iret dX12_lesser_10 rfl rfl rfl (hq _ (by congr 1; omega))
theorem c_X12_lesser {G : GT} (ws : va_W) (x y : Nat) (hx : x < 2 ^ 31) (hy : y < 2 ^ 31) : Ct G yX12_lesser cX12_lesser 2 (some .int) 0 0 0 [.int (nI x), .int (nI y)] ws (Is (some (.int (nI (min x y)))) ws) := Ct.of rfl (Nat.le_of_ble_eq_true rfl) (j_X12_lesser ws x y hx hy (fun _ e => by subst e; exact Is.rf _ _))
