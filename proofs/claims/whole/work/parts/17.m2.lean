set_option maxRecDepth 100000 in
set_option maxHeartbeats 1000000 in
theorem j_X12_within {G : GT} (ws : va_W) (v lo hi : Int32) {Q : Option Value → va_W → Prop} (hq : ∀ v_ : Int32, v_ = wn v lo hi → Q (some (.int v_)) ws) : J G "within" RX12 cX12_within 3 (some .int) 0 0 1 Q 0 0 0 [(0, .int v), (1, .int lo), (2, .int hi)] [] ws := by
  refine J_iload_n dX12_within_0 rfl rfl ?_
  refine J_i2l dX12_within_1 ?_
  refine J_iload_n dX12_within_2 rfl rfl ?_
  refine J_i2l dX12_within_3 ?_
  refine J_iload_n dX12_within_4 rfl rfl ?_
  refine J_i2l dX12_within_5 ?_
  refine J_cSi [.long v.toInt64, .long lo.toInt64, .long hi.toInt64] ms_X12_57 (c_X12_in ws v.toInt64 lo.toInt64 hi.toInt64) rfl rfl (by decide) (Nat.le_of_ble_eq_true rfl) ⟨Nat.le_refl _, Nat.le_refl _⟩ dX12_within_6 ?_
  refine J_rw (y := bI (inI v lo hi)) (congrArg bI (inL_inI v lo hi)) ?_
  refine J_if_eqB 18 dX12_within_9 (by decide) (fun kcz1 => ?_) (fun kcz1 => ?_)
  · refine J_iconst (v := -1) dX12_within_18 (by decide) ?_
    exact J_iret dX12_within_19 rfl rfl rfl (hq _ (by simp [wn, kcz1]))
  · refine J_iload_n dX12_within_12 rfl rfl ?_
    refine J_iload_n dX12_within_13 rfl rfl ?_
    refine J_isub dX12_within_14 ?_
    refine J_goto 19 dX12_within_15 (by decide) ?_
    exact J_iret dX12_within_19 rfl rfl rfl (hq _ (by simp [wn, kcz1]))
theorem c_X12_within {G : GT} (ws : va_W) (v lo hi : Int32) : Ct G yX12_within cX12_within 3 (some .int) 0 0 1 [.int v, .int lo, .int hi] ws (Is (some (.int (wn v lo hi))) ws) := Ct.of rfl (Nat.le_of_ble_eq_true rfl) (j_X12_within ws v lo hi (fun _ e => by subst e; exact Is.rf _ _))
set_option maxRecDepth 100000 in
set_option maxHeartbeats 1000000 in
theorem j_X12_orWrong {G : GT} (ws : va_W) (v : Int32) {Q : Option Value → va_W → Prop} (hq : ∀ v_ : Int32, v_ = orW v → Q (some (.int v_)) ws) : J G "orWrong" RX12 cX12_orWrong 1 (some .int) 0 0 0 Q 0 0 0 [(0, .int v)] [] ws := by
  refine J_iload_n dX12_orWrong_0 rfl rfl ?_
  refine J_iconst (v := -1) dX12_orWrong_1 (by decide) ?_
  refine J_icmp_ne 10 dX12_orWrong_2 (by decide) (fun kcz1 => ?_) (fun kcz1 => ?_)
  · refine J_iload_n dX12_orWrong_10 rfl rfl ?_
    exact J_iret dX12_orWrong_11 rfl rfl rfl (hq _ (by simp [orW, kcz1]))
  · refine J_bipush (v := -9) dX12_orWrong_5 (by decide) ?_
    refine J_goto 11 dX12_orWrong_7 (by decide) ?_
    exact J_iret dX12_orWrong_11 rfl rfl rfl (hq _ (by simp [orW, kcz1]))
theorem c_X12_orWrong {G : GT} (ws : va_W) (v : Int32) : Ct G yX12_orWrong cX12_orWrong 1 (some .int) 0 0 0 [.int v] ws (Is (some (.int (orW v))) ws) := Ct.of rfl (Nat.le_of_ble_eq_true rfl) (j_X12_orWrong ws v (fun _ e => by subst e; exact Is.rf _ _))
set_option maxRecDepth 100000 in
set_option maxHeartbeats 1000000 in
theorem j_X12_tellsHabit_0 {G : GT} (ws : va_W) (b : Int32) {Q : Option Value → va_W → Prop} (hq : ∀ v_ : Int32, v_ = tlH 0 b → Q (some (.int v_)) ws) : J G "tellsHabit" RX12 cX12_tellsHabit 2 (some .int) 0 0 2 Q 0 0 0 [(0, .int (nI 0)), (1, .int b)] [] ws := by
  refine J_iload_n dX12_tellsHabit_0 rfl rfl ?_
  refine J_tblIn (off := 31) 32 dX12_tellsHabit_1 (by decide) (by decide) (by decide) (by decide) ?_
  refine J_iload_n dX12_tellsHabit_32 rfl rfl ?_
  refine J_bipush (v := nI 97) dX12_tellsHabit_33 (by decide) ?_
  refine J_bipush (v := nI 120) dX12_tellsHabit_35 (by decide) ?_
  refine J_cSi [.int b, .int (nI 97), .int (nI 120)] ms_X12_94 (c_X12_within ws b (nI 97) (nI 120)) rfl rfl (by decide) (Nat.le_of_ble_eq_true rfl) ⟨Nat.le_refl _, Nat.le_refl _⟩ dX12_tellsHabit_37 ?_
  refine J_cSi [.int (wn b (nI 97) (nI 120))] ms_X12_97 (c_X12_orWrong ws (wn b (nI 97) (nI 120))) rfl rfl (by decide) (Nat.le_of_ble_eq_true rfl) ⟨Nat.le_refl _, Nat.le_refl _⟩ dX12_tellsHabit_40 ?_
  exact J_iret dX12_tellsHabit_43 rfl rfl rfl (hq _ rfl)
theorem c_X12_tellsHabit_0 {G : GT} (ws : va_W) (b : Int32) : Ct G yX12_tellsHabit cX12_tellsHabit 2 (some .int) 0 0 2 [.int (nI 0), .int b] ws (Is (some (.int (tlH 0 b))) ws) := Ct.of rfl (Nat.le_of_ble_eq_true rfl) (j_X12_tellsHabit_0 ws b (fun _ e => by subst e; exact Is.rf _ _))
set_option maxRecDepth 100000 in
set_option maxHeartbeats 1000000 in
theorem j_X12_tellsHabit_1 {G : GT} (ws : va_W) (b : Int32) {Q : Option Value → va_W → Prop} (hq : ∀ v_ : Int32, v_ = tlH 1 b → Q (some (.int v_)) ws) : J G "tellsHabit" RX12 cX12_tellsHabit 2 (some .int) 0 0 2 Q 0 0 0 [(0, .int (nI 1)), (1, .int b)] [] ws := by
  refine J_iload_n dX12_tellsHabit_0 rfl rfl ?_
  refine J_tblIn (off := 43) 44 dX12_tellsHabit_1 (by decide) (by decide) (by decide) (by decide) ?_
  refine J_iload_n dX12_tellsHabit_44 rfl rfl ?_
  refine J_bipush (v := nI 49) dX12_tellsHabit_45 (by decide) ?_
  refine J_bipush (v := nI 57) dX12_tellsHabit_47 (by decide) ?_
  refine J_cSi [.int b, .int (nI 49), .int (nI 57)] ms_X12_94 (c_X12_within ws b (nI 49) (nI 57)) rfl rfl (by decide) (Nat.le_of_ble_eq_true rfl) ⟨Nat.le_refl _, Nat.le_refl _⟩ dX12_tellsHabit_49 ?_
  refine J_iconst (v := -1) dX12_tellsHabit_52 (by decide) ?_
  refine J_icmp_ne 61 dX12_tellsHabit_53 (by decide) (fun kcz1 => ?_) (fun kcz1 => ?_)
  · refine J_iload_n dX12_tellsHabit_61 rfl rfl ?_
    refine J_bipush (v := nI 48) dX12_tellsHabit_62 (by decide) ?_
    refine J_isub dX12_tellsHabit_64 ?_
    exact J_iret dX12_tellsHabit_65 rfl rfl rfl (hq _ (by first | (simp [tlH, kcz1]; done) | (simp only [tlH]; (repeat' split) <;> simp_all)))
  · refine J_bipush (v := -9) dX12_tellsHabit_56 (by decide) ?_
    refine J_goto 65 dX12_tellsHabit_58 (by decide) ?_
    exact J_iret dX12_tellsHabit_65 rfl rfl rfl (hq _ (by first | (simp [tlH, kcz1]; done) | (simp only [tlH]; (repeat' split) <;> simp_all)))
theorem c_X12_tellsHabit_1 {G : GT} (ws : va_W) (b : Int32) : Ct G yX12_tellsHabit cX12_tellsHabit 2 (some .int) 0 0 2 [.int (nI 1), .int b] ws (Is (some (.int (tlH 1 b))) ws) := Ct.of rfl (Nat.le_of_ble_eq_true rfl) (j_X12_tellsHabit_1 ws b (fun _ e => by subst e; exact Is.rf _ _))
set_option maxRecDepth 100000 in
set_option maxHeartbeats 1000000 in
theorem j_X12_tellsHabit_2 {G : GT} (ws : va_W) (b : Int32) {Q : Option Value → va_W → Prop} (hq : ∀ v_ : Int32, v_ = tlH 2 b → Q (some (.int v_)) ws) : J G "tellsHabit" RX12 cX12_tellsHabit 2 (some .int) 0 0 2 Q 0 0 0 [(0, .int (nI 2)), (1, .int b)] [] ws := by
  refine J_iload_n dX12_tellsHabit_0 rfl rfl ?_
  refine J_tblIn (off := 65) 66 dX12_tellsHabit_1 (by decide) (by decide) (by decide) (by decide) ?_
  refine J_iload_n dX12_tellsHabit_66 rfl rfl ?_
  refine J_bipush (v := nI 48) dX12_tellsHabit_67 (by decide) ?_
  refine J_bipush (v := nI 57) dX12_tellsHabit_69 (by decide) ?_
  refine J_cSi [.int b, .int (nI 48), .int (nI 57)] ms_X12_94 (c_X12_within ws b (nI 48) (nI 57)) rfl rfl (by decide) (Nat.le_of_ble_eq_true rfl) ⟨Nat.le_refl _, Nat.le_refl _⟩ dX12_tellsHabit_71 ?_
  refine J_cSi [.int (wn b (nI 48) (nI 57))] ms_X12_97 (c_X12_orWrong ws (wn b (nI 48) (nI 57))) rfl rfl (by decide) (Nat.le_of_ble_eq_true rfl) ⟨Nat.le_refl _, Nat.le_refl _⟩ dX12_tellsHabit_74 ?_
  exact J_iret dX12_tellsHabit_77 rfl rfl rfl (hq _ rfl)
theorem c_X12_tellsHabit_2 {G : GT} (ws : va_W) (b : Int32) : Ct G yX12_tellsHabit cX12_tellsHabit 2 (some .int) 0 0 2 [.int (nI 2), .int b] ws (Is (some (.int (tlH 2 b))) ws) := Ct.of rfl (Nat.le_of_ble_eq_true rfl) (j_X12_tellsHabit_2 ws b (fun _ e => by subst e; exact Is.rf _ _))
set_option maxRecDepth 100000 in
set_option maxHeartbeats 1000000 in
theorem j_X12_tellsHabit_3 {G : GT} (ws : va_W) (b : Int32) {Q : Option Value → va_W → Prop} (hq : ∀ v_ : Int32, v_ = tlH 3 b → Q (some (.int v_)) ws) : J G "tellsHabit" RX12 cX12_tellsHabit 2 (some .int) 0 0 2 Q 0 0 0 [(0, .int (nI 3)), (1, .int b)] [] ws := by
  refine J_iload_n dX12_tellsHabit_0 rfl rfl ?_
  refine J_tblIn (off := 77) 78 dX12_tellsHabit_1 (by decide) (by decide) (by decide) (by decide) ?_
  refine J_iload_n dX12_tellsHabit_78 rfl rfl ?_
  refine J_bipush (v := nI 46) dX12_tellsHabit_79 (by decide) ?_
  refine J_icmp_ne 88 dX12_tellsHabit_81 (by decide) (fun kcz1 => ?_) (fun kcz1 => ?_)
  · refine J_iload_n dX12_tellsHabit_88 rfl rfl ?_
    refine J_bipush (v := nI 48) dX12_tellsHabit_89 (by decide) ?_
    refine J_bipush (v := nI 55) dX12_tellsHabit_91 (by decide) ?_
    refine J_cSi [.int b, .int (nI 48), .int (nI 55)] ms_X12_94 (c_X12_within ws b (nI 48) (nI 55)) rfl rfl (by decide) (Nat.le_of_ble_eq_true rfl) ⟨Nat.le_refl _, Nat.le_refl _⟩ dX12_tellsHabit_93 ?_
    refine J_cSi [.int (wn b (nI 48) (nI 55))] ms_X12_97 (c_X12_orWrong ws (wn b (nI 48) (nI 55))) rfl rfl (by decide) (Nat.le_of_ble_eq_true rfl) ⟨Nat.le_refl _, Nat.le_refl _⟩ dX12_tellsHabit_96 ?_
    exact J_iret dX12_tellsHabit_99 rfl rfl rfl (hq _ (by first | (simp [tlH, kcz1]; done) | (simp only [tlH]; (repeat' split) <;> simp_all)))
  · refine J_iconst (v := -1) dX12_tellsHabit_84 (by decide) ?_
    refine J_goto 99 dX12_tellsHabit_85 (by decide) ?_
    exact J_iret dX12_tellsHabit_99 rfl rfl rfl (hq _ (by first | (simp [tlH, kcz1]; done) | (simp only [tlH]; (repeat' split) <;> simp_all)))
theorem c_X12_tellsHabit_3 {G : GT} (ws : va_W) (b : Int32) : Ct G yX12_tellsHabit cX12_tellsHabit 2 (some .int) 0 0 2 [.int (nI 3), .int b] ws (Is (some (.int (tlH 3 b))) ws) := Ct.of rfl (Nat.le_of_ble_eq_true rfl) (j_X12_tellsHabit_3 ws b (fun _ e => by subst e; exact Is.rf _ _))
set_option maxRecDepth 100000 in
set_option maxHeartbeats 1000000 in
theorem j_X12_tellsHabit_4 {G : GT} (ws : va_W) (b : Int32) {Q : Option Value → va_W → Prop} (hq : ∀ v_ : Int32, v_ = tlH 4 b → Q (some (.int v_)) ws) : J G "tellsHabit" RX12 cX12_tellsHabit 2 (some .int) 0 0 2 Q 0 0 0 [(0, .int (nI 4)), (1, .int b)] [] ws := by
  refine J_iload_n dX12_tellsHabit_0 rfl rfl ?_
  refine J_tblOut 100 dX12_tellsHabit_1 (by decide) (by decide) ?_
  refine J_iload_n dX12_tellsHabit_100 rfl rfl ?_
  refine J_bipush (v := nI 33) dX12_tellsHabit_101 (by decide) ?_
  refine J_icmp_ne 110 dX12_tellsHabit_103 (by decide) (fun kcz1 => ?_) (fun kcz1 => ?_)
  · refine J_iload_n dX12_tellsHabit_110 rfl rfl ?_
    refine J_bipush (v := nI 46) dX12_tellsHabit_111 (by decide) ?_
    refine J_icmp_ne 120 dX12_tellsHabit_113 (by decide) (fun kcz2 => ?_) (fun kcz2 => ?_)
    · refine J_bipush (v := -9) dX12_tellsHabit_120 (by decide) ?_
      exact J_iret dX12_tellsHabit_122 rfl rfl rfl (hq _ (by first | (simp [tlH, kcz1, kcz2]; done) | (simp only [tlH]; (repeat' split) <;> simp_all)))
    · refine J_iconst (v := nI 0) dX12_tellsHabit_116 (by decide) ?_
      refine J_goto 122 dX12_tellsHabit_117 (by decide) ?_
      exact J_iret dX12_tellsHabit_122 rfl rfl rfl (hq _ (by first | (simp [tlH, kcz1, kcz2]; done) | (simp only [tlH]; (repeat' split) <;> simp_all)))
  · refine J_iconst (v := nI 1) dX12_tellsHabit_106 (by decide) ?_
    refine J_goto 122 dX12_tellsHabit_107 (by decide) ?_
    exact J_iret dX12_tellsHabit_122 rfl rfl rfl (hq _ (by first | (simp [tlH, kcz1]; done) | (simp only [tlH]; (repeat' split) <;> simp_all)))
theorem c_X12_tellsHabit_4 {G : GT} (ws : va_W) (b : Int32) : Ct G yX12_tellsHabit cX12_tellsHabit 2 (some .int) 0 0 2 [.int (nI 4), .int b] ws (Is (some (.int (tlH 4 b))) ws) := Ct.of rfl (Nat.le_of_ble_eq_true rfl) (j_X12_tellsHabit_4 ws b (fun _ e => by subst e; exact Is.rf _ _))
theorem c_X12_tellsHabit {G : GT} (ws : va_W) (k : Nat) (hk : k < 5) (b : Int32) : Ct G yX12_tellsHabit cX12_tellsHabit 2 (some .int) 0 0 2 [.int (nI k), .int b] ws (Is (some (.int (tlH k b))) ws) := by
  rcases (show k = 0 ∨ k = 1 ∨ k = 2 ∨ k = 3 ∨ k = 4 by omega) with rfl | rfl | rfl | rfl | rfl
  · exact c_X12_tellsHabit_0 ws b
  · exact c_X12_tellsHabit_1 ws b
  · exact c_X12_tellsHabit_2 ws b
  · exact c_X12_tellsHabit_3 ws b
  · exact c_X12_tellsHabit_4 ws b
set_option maxRecDepth 100000 in
set_option maxHeartbeats 1000000 in
theorem j_X12_tellsHeir_0 {G : GT} (ws : va_W) (b : Int32) {Q : Option Value → va_W → Prop} (hq : ∀ v_ : Int32, v_ = tlE 0 b → Q (some (.int v_)) ws) : J G "tellsHeir" RX12 cX12_tellsHeir 2 (some .int) 0 0 2 Q 0 0 0 [(0, .int (nI 0)), (1, .int b)] [] ws := by
  refine J_iload_n dX12_tellsHeir_0 rfl rfl ?_
  refine J_if_le 18 dX12_tellsHeir_1 (by decide) (fun _ => ?_) (fun c => absurd c (by decide))
  refine J_iload_n dX12_tellsHeir_18 rfl rfl ?_
  refine J_bipush (v := nI 49) dX12_tellsHeir_19 (by decide) ?_
  refine J_bipush (v := nI 56) dX12_tellsHeir_21 (by decide) ?_
  refine J_cSi [.int b, .int (nI 49), .int (nI 56)] ms_X12_94 (c_X12_within ws b (nI 49) (nI 56)) rfl rfl (by decide) (Nat.le_of_ble_eq_true rfl) ⟨Nat.le_refl _, Nat.le_refl _⟩ dX12_tellsHeir_23 ?_
  refine J_iconst (v := -1) dX12_tellsHeir_26 (by decide) ?_
  refine J_icmp_ne 35 dX12_tellsHeir_27 (by decide) (fun kcz1 => ?_) (fun kcz1 => ?_)
  · refine J_iload_n dX12_tellsHeir_35 rfl rfl ?_
    refine J_bipush (v := nI 48) dX12_tellsHeir_36 (by decide) ?_
    refine J_isub dX12_tellsHeir_38 ?_
    exact J_iret dX12_tellsHeir_39 rfl rfl rfl (hq _ (by first | (simp [tlE, kcz1]; done) | (simp only [tlE]; (repeat' split) <;> simp_all)))
  · refine J_bipush (v := -9) dX12_tellsHeir_30 (by decide) ?_
    refine J_goto 39 dX12_tellsHeir_32 (by decide) ?_
    exact J_iret dX12_tellsHeir_39 rfl rfl rfl (hq _ (by first | (simp [tlE, kcz1]; done) | (simp only [tlE]; (repeat' split) <;> simp_all)))
theorem c_X12_tellsHeir_0 {G : GT} (ws : va_W) (b : Int32) : Ct G yX12_tellsHeir cX12_tellsHeir 2 (some .int) 0 0 2 [.int (nI 0), .int b] ws (Is (some (.int (tlE 0 b))) ws) := Ct.of rfl (Nat.le_of_ble_eq_true rfl) (j_X12_tellsHeir_0 ws b (fun _ e => by subst e; exact Is.rf _ _))
set_option maxRecDepth 100000 in
set_option maxHeartbeats 1000000 in
theorem j_X12_tellsHeir_1 {G : GT} (ws : va_W) (b : Int32) {Q : Option Value → va_W → Prop} (hq : ∀ v_ : Int32, v_ = tlE 1 b → Q (some (.int v_)) ws) : J G "tellsHeir" RX12 cX12_tellsHeir 2 (some .int) 0 0 2 Q 0 0 0 [(0, .int (nI 1)), (1, .int b)] [] ws := by
  refine J_iload_n dX12_tellsHeir_0 rfl rfl ?_
  refine J_if_le 18 dX12_tellsHeir_1 (by decide) (fun c => absurd c (by decide)) (fun _ => ?_)
  refine J_iload_n dX12_tellsHeir_4 rfl rfl ?_
  refine J_bipush (v := nI 97) dX12_tellsHeir_5 (by decide) ?_
  refine J_bipush (v := nI 120) dX12_tellsHeir_7 (by decide) ?_
  refine J_cSi [.int b, .int (nI 97), .int (nI 120)] ms_X12_94 (c_X12_within ws b (nI 97) (nI 120)) rfl rfl (by decide) (Nat.le_of_ble_eq_true rfl) ⟨Nat.le_refl _, Nat.le_refl _⟩ dX12_tellsHeir_9 ?_
  refine J_cSi [.int (wn b (nI 97) (nI 120))] ms_X12_97 (c_X12_orWrong ws (wn b (nI 97) (nI 120))) rfl rfl (by decide) (Nat.le_of_ble_eq_true rfl) ⟨Nat.le_refl _, Nat.le_refl _⟩ dX12_tellsHeir_12 ?_
  refine J_goto 39 dX12_tellsHeir_15 (by decide) ?_
  exact J_iret dX12_tellsHeir_39 rfl rfl rfl (hq _ rfl)
theorem c_X12_tellsHeir_1 {G : GT} (ws : va_W) (b : Int32) : Ct G yX12_tellsHeir cX12_tellsHeir 2 (some .int) 0 0 2 [.int (nI 1), .int b] ws (Is (some (.int (tlE 1 b))) ws) := Ct.of rfl (Nat.le_of_ble_eq_true rfl) (j_X12_tellsHeir_1 ws b (fun _ e => by subst e; exact Is.rf _ _))
set_option maxRecDepth 100000 in
set_option maxHeartbeats 1000000 in
theorem j_X12_tellsHeir_2 {G : GT} (ws : va_W) (b : Int32) {Q : Option Value → va_W → Prop} (hq : ∀ v_ : Int32, v_ = tlE 2 b → Q (some (.int v_)) ws) : J G "tellsHeir" RX12 cX12_tellsHeir 2 (some .int) 0 0 2 Q 0 0 0 [(0, .int (nI 2)), (1, .int b)] [] ws := by
  refine J_iload_n dX12_tellsHeir_0 rfl rfl ?_
  refine J_if_le 18 dX12_tellsHeir_1 (by decide) (fun c => absurd c (by decide)) (fun _ => ?_)
  refine J_iload_n dX12_tellsHeir_4 rfl rfl ?_
  refine J_bipush (v := nI 97) dX12_tellsHeir_5 (by decide) ?_
  refine J_bipush (v := nI 120) dX12_tellsHeir_7 (by decide) ?_
  refine J_cSi [.int b, .int (nI 97), .int (nI 120)] ms_X12_94 (c_X12_within ws b (nI 97) (nI 120)) rfl rfl (by decide) (Nat.le_of_ble_eq_true rfl) ⟨Nat.le_refl _, Nat.le_refl _⟩ dX12_tellsHeir_9 ?_
  refine J_cSi [.int (wn b (nI 97) (nI 120))] ms_X12_97 (c_X12_orWrong ws (wn b (nI 97) (nI 120))) rfl rfl (by decide) (Nat.le_of_ble_eq_true rfl) ⟨Nat.le_refl _, Nat.le_refl _⟩ dX12_tellsHeir_12 ?_
  refine J_goto 39 dX12_tellsHeir_15 (by decide) ?_
  exact J_iret dX12_tellsHeir_39 rfl rfl rfl (hq _ rfl)
theorem c_X12_tellsHeir_2 {G : GT} (ws : va_W) (b : Int32) : Ct G yX12_tellsHeir cX12_tellsHeir 2 (some .int) 0 0 2 [.int (nI 2), .int b] ws (Is (some (.int (tlE 2 b))) ws) := Ct.of rfl (Nat.le_of_ble_eq_true rfl) (j_X12_tellsHeir_2 ws b (fun _ e => by subst e; exact Is.rf _ _))
theorem c_X12_tellsHeir {G : GT} (ws : va_W) (k : Nat) (hk : k < 3) (b : Int32) : Ct G yX12_tellsHeir cX12_tellsHeir 2 (some .int) 0 0 2 [.int (nI k), .int b] ws (Is (some (.int (tlE k b))) ws) := by
  rcases (show k = 0 ∨ k = 1 ∨ k = 2 by omega) with rfl | rfl | rfl
  · exact c_X12_tellsHeir_0 ws b
  · exact c_X12_tellsHeir_1 ws b
  · exact c_X12_tellsHeir_2 ws b
set_option maxRecDepth 100000 in
set_option maxHeartbeats 1000000 in
theorem j_X12_tellsClause_0 {G : GT} (ws : va_W) (b : Int32) {Q : Option Value → va_W → Prop} (hq : ∀ v_ : Int32, v_ = tlC 0 b → Q (some (.int v_)) ws) : J G "tellsClause" RX12 cX12_tellsClause 2 (some .int) 0 0 2 Q 0 0 0 [(0, .int (nI 0)), (1, .int b)] [] ws := by
  refine J_iload_n dX12_tellsClause_0 rfl rfl ?_
  refine J_lookup (off := 62) 63 dX12_tellsClause_1 (by decide) (by decide) (by decide) ?_
  refine J_iload_n dX12_tellsClause_63 rfl rfl ?_
  refine J_bipush (v := nI 48) dX12_tellsClause_64 (by decide) ?_
  refine J_bipush (v := nI 55) dX12_tellsClause_66 (by decide) ?_
  refine J_cSi [.int b, .int (nI 48), .int (nI 55)] ms_X12_94 (c_X12_within ws b (nI 48) (nI 55)) rfl rfl (by decide) (Nat.le_of_ble_eq_true rfl) ⟨Nat.le_refl _, Nat.le_refl _⟩ dX12_tellsClause_68 ?_
  refine J_cSi [.int (wn b (nI 48) (nI 55))] ms_X12_97 (c_X12_orWrong ws (wn b (nI 48) (nI 55))) rfl rfl (by decide) (Nat.le_of_ble_eq_true rfl) ⟨Nat.le_refl _, Nat.le_refl _⟩ dX12_tellsClause_71 ?_
  exact J_iret dX12_tellsClause_74 rfl rfl rfl (hq _ rfl)
theorem c_X12_tellsClause_0 {G : GT} (ws : va_W) (b : Int32) : Ct G yX12_tellsClause cX12_tellsClause 2 (some .int) 0 0 2 [.int (nI 0), .int b] ws (Is (some (.int (tlC 0 b))) ws) := Ct.of rfl (Nat.le_of_ble_eq_true rfl) (j_X12_tellsClause_0 ws b (fun _ e => by subst e; exact Is.rf _ _))
set_option maxRecDepth 100000 in
set_option maxHeartbeats 1000000 in
theorem j_X12_tellsClause_1 {G : GT} (ws : va_W) (b : Int32) {Q : Option Value → va_W → Prop} (hq : ∀ v_ : Int32, v_ = tlC 1 b → Q (some (.int v_)) ws) : J G "tellsClause" RX12 cX12_tellsClause 2 (some .int) 0 0 2 Q 0 0 0 [(0, .int (nI 1)), (1, .int b)] [] ws := by
  refine J_iload_n dX12_tellsClause_0 rfl rfl ?_
  refine J_lookup (off := 27) 28 dX12_tellsClause_1 (by decide) (by decide) (by decide) ?_
  refine J_iload_n dX12_tellsClause_28 rfl rfl ?_
  refine J_bipush (v := nI 43) dX12_tellsClause_29 (by decide) ?_
  refine J_icmp_ne 38 dX12_tellsClause_31 (by decide) (fun kcz1 => ?_) (fun kcz1 => ?_)
  · refine J_iload_n dX12_tellsClause_38 rfl rfl ?_
    refine J_bipush (v := nI 45) dX12_tellsClause_39 (by decide) ?_
    refine J_icmp_ne 48 dX12_tellsClause_41 (by decide) (fun kcz2 => ?_) (fun kcz2 => ?_)
    · refine J_bipush (v := -9) dX12_tellsClause_48 (by decide) ?_
      exact J_iret dX12_tellsClause_50 rfl rfl rfl (hq _ (by first | (simp [tlC, kcz1, kcz2]; done) | (simp only [tlC]; (repeat' split) <;> simp_all)))
    · refine J_iconst (v := nI 0) dX12_tellsClause_44 (by decide) ?_
      refine J_goto 50 dX12_tellsClause_45 (by decide) ?_
      exact J_iret dX12_tellsClause_50 rfl rfl rfl (hq _ (by first | (simp [tlC, kcz1, kcz2]; done) | (simp only [tlC]; (repeat' split) <;> simp_all)))
  · refine J_iconst (v := nI 1) dX12_tellsClause_34 (by decide) ?_
    refine J_goto 50 dX12_tellsClause_35 (by decide) ?_
    exact J_iret dX12_tellsClause_50 rfl rfl rfl (hq _ (by first | (simp [tlC, kcz1]; done) | (simp only [tlC]; (repeat' split) <;> simp_all)))
theorem c_X12_tellsClause_1 {G : GT} (ws : va_W) (b : Int32) : Ct G yX12_tellsClause cX12_tellsClause 2 (some .int) 0 0 2 [.int (nI 1), .int b] ws (Is (some (.int (tlC 1 b))) ws) := Ct.of rfl (Nat.le_of_ble_eq_true rfl) (j_X12_tellsClause_1 ws b (fun _ e => by subst e; exact Is.rf _ _))
set_option maxRecDepth 100000 in
set_option maxHeartbeats 1000000 in
theorem j_X12_tellsClause_2 {G : GT} (ws : va_W) (b : Int32) {Q : Option Value → va_W → Prop} (hq : ∀ v_ : Int32, v_ = tlC 2 b → Q (some (.int v_)) ws) : J G "tellsClause" RX12 cX12_tellsClause 2 (some .int) 0 0 2 Q 0 0 0 [(0, .int (nI 2)), (1, .int b)] [] ws := by
  refine J_iload_n dX12_tellsClause_0 rfl rfl ?_
  refine J_lookup (off := 50) 51 dX12_tellsClause_1 (by decide) (by decide) (by decide) ?_
  refine J_iload_n dX12_tellsClause_51 rfl rfl ?_
  refine J_bipush (v := nI 48) dX12_tellsClause_52 (by decide) ?_
  refine J_bipush (v := nI 53) dX12_tellsClause_54 (by decide) ?_
  refine J_cSi [.int b, .int (nI 48), .int (nI 53)] ms_X12_94 (c_X12_within ws b (nI 48) (nI 53)) rfl rfl (by decide) (Nat.le_of_ble_eq_true rfl) ⟨Nat.le_refl _, Nat.le_refl _⟩ dX12_tellsClause_56 ?_
  refine J_cSi [.int (wn b (nI 48) (nI 53))] ms_X12_97 (c_X12_orWrong ws (wn b (nI 48) (nI 53))) rfl rfl (by decide) (Nat.le_of_ble_eq_true rfl) ⟨Nat.le_refl _, Nat.le_refl _⟩ dX12_tellsClause_59 ?_
  exact J_iret dX12_tellsClause_62 rfl rfl rfl (hq _ rfl)
theorem c_X12_tellsClause_2 {G : GT} (ws : va_W) (b : Int32) : Ct G yX12_tellsClause cX12_tellsClause 2 (some .int) 0 0 2 [.int (nI 2), .int b] ws (Is (some (.int (tlC 2 b))) ws) := Ct.of rfl (Nat.le_of_ble_eq_true rfl) (j_X12_tellsClause_2 ws b (fun _ e => by subst e; exact Is.rf _ _))
set_option maxRecDepth 100000 in
set_option maxHeartbeats 1000000 in
theorem j_X12_tellsClause_3 {G : GT} (ws : va_W) (b : Int32) {Q : Option Value → va_W → Prop} (hq : ∀ v_ : Int32, v_ = tlC 3 b → Q (some (.int v_)) ws) : J G "tellsClause" RX12 cX12_tellsClause 2 (some .int) 0 0 2 Q 0 0 0 [(0, .int (nI 3)), (1, .int b)] [] ws := by
  refine J_iload_n dX12_tellsClause_0 rfl rfl ?_
  refine J_lookup (off := 62) 63 dX12_tellsClause_1 (by decide) (by decide) (by decide) ?_
  refine J_iload_n dX12_tellsClause_63 rfl rfl ?_
  refine J_bipush (v := nI 48) dX12_tellsClause_64 (by decide) ?_
  refine J_bipush (v := nI 55) dX12_tellsClause_66 (by decide) ?_
  refine J_cSi [.int b, .int (nI 48), .int (nI 55)] ms_X12_94 (c_X12_within ws b (nI 48) (nI 55)) rfl rfl (by decide) (Nat.le_of_ble_eq_true rfl) ⟨Nat.le_refl _, Nat.le_refl _⟩ dX12_tellsClause_68 ?_
  refine J_cSi [.int (wn b (nI 48) (nI 55))] ms_X12_97 (c_X12_orWrong ws (wn b (nI 48) (nI 55))) rfl rfl (by decide) (Nat.le_of_ble_eq_true rfl) ⟨Nat.le_refl _, Nat.le_refl _⟩ dX12_tellsClause_71 ?_
  exact J_iret dX12_tellsClause_74 rfl rfl rfl (hq _ rfl)
theorem c_X12_tellsClause_3 {G : GT} (ws : va_W) (b : Int32) : Ct G yX12_tellsClause cX12_tellsClause 2 (some .int) 0 0 2 [.int (nI 3), .int b] ws (Is (some (.int (tlC 3 b))) ws) := Ct.of rfl (Nat.le_of_ble_eq_true rfl) (j_X12_tellsClause_3 ws b (fun _ e => by subst e; exact Is.rf _ _))
theorem c_X12_tellsClause {G : GT} (ws : va_W) (k : Nat) (hk : k < 4) (b : Int32) : Ct G yX12_tellsClause cX12_tellsClause 2 (some .int) 0 0 2 [.int (nI k), .int b] ws (Is (some (.int (tlC k b))) ws) := by
  rcases (show k = 0 ∨ k = 1 ∨ k = 2 ∨ k = 3 by omega) with rfl | rfl | rfl | rfl
  · exact c_X12_tellsClause_0 ws b
  · exact c_X12_tellsClause_1 ws b
  · exact c_X12_tellsClause_2 ws b
  · exact c_X12_tellsClause_3 ws b
set_option maxRecDepth 100000 in
set_option maxHeartbeats 1000000 in
theorem j_X12_here {G : GT} (o : Nat) (a : Nat → Nat) (s : Nat → Nat → Int32) (t len p : Nat) (ht3 : t < 3) (hlen : s 6 t = nI len) (hl59 : len ≤ 59) (hp : s 7 0 = nI p) (hp99 : p ≤ 99) {Q : Option Value → va_W → Prop} (hq : ∀ v_ : Int32, v_ = bA (s 5) t len p → Q (some (.int v_)) (mW G o a s)) : J G "here" RX12 cX12_here 2 (some .int) 0 0 0 Q 0 0 0 [(0, .ref o), (1, .int (nI t))] [] (mW G o a s) := by
  refine J_aload_n dX12_here_0 rfl rfl ?_
  refine Mg_7 (s := s) (s 7 0) rfl dX12_here_1 ?_
  refine J_rw (y := nI p) hp ?_
  refine J_aload_n dX12_here_4 rfl rfl ?_
  refine Mg_6 dX12_here_5 ?_
  refine J_iload_n dX12_here_8 rfl rfl ?_
  refine Ml_6 (s := s) (s 6) rfl t rfl (by omega) dX12_here_9 ?_
  refine J_rw (y := nI len) hlen ?_
  refine J_icmp_geN 30 (by omega) (by omega) dX12_here_10 (by decide) (fun kcz1 => ?_) (fun kcz1 => ?_)
  · refine J_iconst (v := -1) dX12_here_30 (by decide) ?_
    exact J_iret dX12_here_31 rfl rfl rfl (hq _ (by simp only [bA]; rw [if_neg (by omega)]))
  · refine J_aload_n dX12_here_13 rfl rfl ?_
    refine Mg_5 dX12_here_14 ?_
    refine J_bipush (v := nI 60) dX12_here_17 (by decide) ?_
    refine J_iload_n dX12_here_19 rfl rfl ?_
    refine J_imulN dX12_here_20 ?_
    refine J_aload_n dX12_here_21 rfl rfl ?_
    refine Mg_7 (s := s) (s 7 0) rfl dX12_here_22 ?_
    refine J_rw (y := nI p) hp ?_
    refine J_iaddN dX12_here_25 ?_
    refine Ml_5 (s := s) (s 5) rfl (60 * t + p) rfl (by omega) dX12_here_26 ?_
    refine J_goto 31 dX12_here_27 (by decide) ?_
    exact J_iret dX12_here_31 rfl rfl rfl (hq _ (by simp only [bA]; rw [if_pos (by omega)]))
theorem c_X12_here {G : GT} (o : Nat) (a : Nat → Nat) (s : Nat → Nat → Int32) (t len p : Nat) (ht3 : t < 3) (hlen : s 6 t = nI len) (hl59 : len ≤ 59) (hp : s 7 0 = nI p) (hp99 : p ≤ 99) : Ct G yX12_here cX12_here 2 (some .int) 0 0 0 [.ref o, .int (nI t)] (mW G o a s) (Is (some (.int (bA (s 5) t len p))) (mW G o a s)) := Ct.of rfl (Nat.le_of_ble_eq_true rfl) (j_X12_here o a s t len p ht3 hlen hl59 hp hp99 (fun _ e => by subst e; exact Is.rf _ _))
set_option maxRecDepth 100000 in
set_option maxHeartbeats 1000000 in
theorem j_X12_put0_bad {G : GT} (o : Nat) (a : Nat → Nat) (s : Nat → Nat → Int32) (len r p : Nat) (hlen : s 6 0 = nI len) (hl59 : len ≤ 59) (hp : s 7 0 = nI p) (hp99 : p ≤ 90) (hr : s 8 0 = nI r) (k : Nat) (hk : k < 5) (hrk : 5 * r + k < 40) (hv : tlH k (bA (s 5) 0 len p) = -9) {Q : Option Value → va_W → Prop} (hq : ∀ v_ : Int32, v_ = (-9) → Q (some (.int v_)) (mW G o a s)) : J G "put" RX12 cX12_put 5 (some .int) 0 0 3 Q 0 0 0 [(0, .ref o), (1, .int (nI 0)), (2, .int (nI k))] [] (mW G o a s) := by
  refine J_aload_n dX12_put_0 rfl rfl ?_
  refine J_iload_n dX12_put_1 rfl rfl ?_
  refine J_cVi (x := yX12_in) [.int (nI 0)] 0 mv_X12_100 (c_X12_here o a s 0 len p (by decide) hlen (by omega) hp (by first | omega | (have := rE0_le (s 5) len p; have := rE1_le (s 5) len p; have := rE2_le (s 5) len p; omega))) mW_0 rfl rfl (by decide) (Nat.le_of_ble_eq_true rfl) ⟨Nat.le_refl _, Nat.le_refl _⟩ dX12_put_2 ?_
  refine J_istore_n [(0, .ref o), (1, .int (nI 0)), (2, .int (nI k)), (3, .int (bA (s 5) 0 len p))] dX12_put_5 rfl (by decide) rfl rfl rfl ?_
  refine J_iload_n dX12_put_6 rfl rfl ?_
  refine J_if_ne 18 dX12_put_7 (by decide) (fun c => absurd c (by decide)) (fun _ => ?_)
  refine J_iload_n dX12_put_10 rfl rfl ?_
  refine J_iload_n dX12_put_11 rfl rfl ?_
  refine J_cSi [.int (nI k), .int (bA (s 5) 0 len p)] ms_X12_103 (c_X12_tellsHabit (mW G o a s) k (by omega) (bA (s 5) 0 len p)) rfl rfl (by decide) (Nat.le_of_ble_eq_true rfl) ⟨Nat.le_refl _, Nat.le_refl _⟩ dX12_put_12 ?_
  refine J_goto 36 dX12_put_15 (by decide) ?_
  refine J_istore [(0, .ref o), (1, .int (nI 0)), (2, .int (nI k)), (3, .int (bA (s 5) 0 len p)), (4, .int (tlH k (bA (s 5) 0 len p)))] dX12_put_36 (by decide) rfl rfl rfl ?_
  refine J_iload dX12_put_38 rfl ?_
  refine J_bipush (v := -9) dX12_put_40 (by decide) ?_
  refine J_icmp_ne 48 dX12_put_42 (by decide) (fun c => absurd hv c) (fun _ => ?_)
  refine J_bipush (v := -9) dX12_put_45 (by decide) ?_
  exact J_iret dX12_put_47 rfl rfl rfl (hq _ rfl)
theorem c_X12_put0_bad {G : GT} (o : Nat) (a : Nat → Nat) (s : Nat → Nat → Int32) (len r p : Nat) (hlen : s 6 0 = nI len) (hl59 : len ≤ 59) (hp : s 7 0 = nI p) (hp99 : p ≤ 90) (hr : s 8 0 = nI r) (k : Nat) (hk : k < 5) (hrk : 5 * r + k < 40) (hv : tlH k (bA (s 5) 0 len p) = -9) : Ct G yX12_put cX12_put 5 (some .int) 0 0 3 [.ref o, .int (nI 0), .int (nI k)] (mW G o a s) (Is (some (.int (-9))) (mW G o a s)) := Ct.of rfl (Nat.le_of_ble_eq_true rfl) (j_X12_put0_bad o a s len r p hlen hl59 hp hp99 hr k hk hrk hv (fun _ e => by subst e; exact Is.rf _ _))
set_option maxRecDepth 100000 in
set_option maxHeartbeats 1000000 in
theorem j_X12_put0_ok {G : GT} (o : Nat) (a : Nat → Nat) (s : Nat → Nat → Int32) (len r p : Nat) (hlen : s 6 0 = nI len) (hl59 : len ≤ 59) (hp : s 7 0 = nI p) (hp99 : p ≤ 90) (hr : s 8 0 = nI r) (k : Nat) (hk : k < 5) (hrk : 5 * r + k < 40) (hv : ¬ tlH k (bA (s 5) 0 len p) = -9) {Q : Option Value → va_W → Prop} (hq : ∀ v_ : Int32, v_ = tlH k (bA (s 5) 0 len p) → Q (some (.int v_)) (mW G o a (su 9 (su 7 s (fun _ => nI (p + 1))) (upd (s 9) (5 * r + k) (tlH k (bA (s 5) 0 len p)))))) : J G "put" RX12 cX12_put 5 (some .int) 0 0 3 Q 0 0 0 [(0, .ref o), (1, .int (nI 0)), (2, .int (nI k))] [] (mW G o a s) := by
  refine J_aload_n dX12_put_0 rfl rfl ?_
  refine J_iload_n dX12_put_1 rfl rfl ?_
  refine J_cVi (x := yX12_in) [.int (nI 0)] 0 mv_X12_100 (c_X12_here o a s 0 len p (by decide) hlen (by omega) hp (by first | omega | (have := rE0_le (s 5) len p; have := rE1_le (s 5) len p; have := rE2_le (s 5) len p; omega))) mW_0 rfl rfl (by decide) (Nat.le_of_ble_eq_true rfl) ⟨Nat.le_refl _, Nat.le_refl _⟩ dX12_put_2 ?_
  refine J_istore_n [(0, .ref o), (1, .int (nI 0)), (2, .int (nI k)), (3, .int (bA (s 5) 0 len p))] dX12_put_5 rfl (by decide) rfl rfl rfl ?_
  refine J_iload_n dX12_put_6 rfl rfl ?_
  refine J_if_ne 18 dX12_put_7 (by decide) (fun c => absurd c (by decide)) (fun _ => ?_)
  refine J_iload_n dX12_put_10 rfl rfl ?_
  refine J_iload_n dX12_put_11 rfl rfl ?_
  refine J_cSi [.int (nI k), .int (bA (s 5) 0 len p)] ms_X12_103 (c_X12_tellsHabit (mW G o a s) k (by omega) (bA (s 5) 0 len p)) rfl rfl (by decide) (Nat.le_of_ble_eq_true rfl) ⟨Nat.le_refl _, Nat.le_refl _⟩ dX12_put_12 ?_
  refine J_goto 36 dX12_put_15 (by decide) ?_
  refine J_istore [(0, .ref o), (1, .int (nI 0)), (2, .int (nI k)), (3, .int (bA (s 5) 0 len p)), (4, .int (tlH k (bA (s 5) 0 len p)))] dX12_put_36 (by decide) rfl rfl rfl ?_
  refine J_iload dX12_put_38 rfl ?_
  refine J_bipush (v := -9) dX12_put_40 (by decide) ?_
  refine J_icmp_ne 48 dX12_put_42 (by decide) (fun _ => ?_) (fun c => absurd c hv)
  refine J_iload_n dX12_put_48 rfl rfl ?_
  refine J_if_ne 72 dX12_put_49 (by decide) (fun c => absurd c (by decide)) (fun _ => ?_)
  refine J_aload_n dX12_put_52 rfl rfl ?_
  refine Mg_9 dX12_put_53 ?_
  refine J_iconst (v := nI 5) dX12_put_56 (by decide) ?_
  refine J_aload_n dX12_put_57 rfl rfl ?_
  refine Mg_8 dX12_put_58 ?_
  refine J_iconst (v := nI 0) dX12_put_61 (by decide) ?_
  refine Ml_8 (s := s) (s 8) rfl 0 rfl (by omega) dX12_put_62 ?_
  refine J_rw (y := nI r) hr ?_
  refine J_imulN dX12_put_63 ?_
  refine J_iload_n dX12_put_64 rfl rfl ?_
  refine J_iaddN dX12_put_65 ?_
  refine J_iload dX12_put_66 rfl ?_
  refine Ms_9 (s := s) (s 9) rfl (5 * r + k) rfl (by omega) dX12_put_68 ?_
  refine J_goto 114 dX12_put_69 (by decide) ?_
  refine J_aload_n dX12_put_114 rfl rfl ?_
  refine J_dup dX12_put_115 rfl ?_
  refine Mg_7 (s := (su 9 s (upd (s 9) (5 * r + k) (tlH k (bA (s 5) 0 len p))))) (s 7 0) rfl dX12_put_116 ?_
  refine J_rw (y := nI p) hp ?_
  refine J_iconst (v := nI 1) dX12_put_119 (by decide) ?_
  refine J_iaddN dX12_put_120 ?_
  refine Mp_7 dX12_put_121 ?_
  refine J_ws (ws2 := (mW G o a (su 9 (su 7 s (fun _ => nI (p + 1))) (upd (s 9) (5 * r + k) (tlH k (bA (s 5) 0 len p)))))) (congrArg (mW G o a) (su_sw (by decide))) ?_
  refine J_iload dX12_put_124 rfl ?_
  exact J_iret dX12_put_126 rfl rfl rfl (hq _ rfl)
theorem c_X12_put0_ok {G : GT} (o : Nat) (a : Nat → Nat) (s : Nat → Nat → Int32) (len r p : Nat) (hlen : s 6 0 = nI len) (hl59 : len ≤ 59) (hp : s 7 0 = nI p) (hp99 : p ≤ 90) (hr : s 8 0 = nI r) (k : Nat) (hk : k < 5) (hrk : 5 * r + k < 40) (hv : ¬ tlH k (bA (s 5) 0 len p) = -9) : Ct G yX12_put cX12_put 5 (some .int) 0 0 3 [.ref o, .int (nI 0), .int (nI k)] (mW G o a s) (Is (some (.int (tlH k (bA (s 5) 0 len p)))) (mW G o a (su 9 (su 7 s (fun _ => nI (p + 1))) (upd (s 9) (5 * r + k) (tlH k (bA (s 5) 0 len p)))))) := Ct.of rfl (Nat.le_of_ble_eq_true rfl) (j_X12_put0_ok o a s len r p hlen hl59 hp hp99 hr k hk hrk hv (fun _ e => by subst e; exact Is.rf _ _))
set_option maxRecDepth 100000 in
set_option maxHeartbeats 1000000 in
theorem j_X12_put1_bad {G : GT} (o : Nat) (a : Nat → Nat) (s : Nat → Nat → Int32) (len r p : Nat) (hlen : s 6 1 = nI len) (hl59 : len ≤ 59) (hp : s 7 0 = nI p) (hp99 : p ≤ 90) (hr : s 8 1 = nI r) (k : Nat) (hk : k < 3) (hrk : 3 * r + k < 18) (hv : tlE k (bA (s 5) 1 len p) = -9) {Q : Option Value → va_W → Prop} (hq : ∀ v_ : Int32, v_ = (-9) → Q (some (.int v_)) (mW G o a s)) : J G "put" RX12 cX12_put 5 (some .int) 0 0 3 Q 0 0 0 [(0, .ref o), (1, .int (nI 1)), (2, .int (nI k))] [] (mW G o a s) := by
  refine J_aload_n dX12_put_0 rfl rfl ?_
  refine J_iload_n dX12_put_1 rfl rfl ?_
  refine J_cVi (x := yX12_in) [.int (nI 1)] 0 mv_X12_100 (c_X12_here o a s 1 len p (by decide) hlen (by omega) hp (by first | omega | (have := rE0_le (s 5) len p; have := rE1_le (s 5) len p; have := rE2_le (s 5) len p; omega))) mW_0 rfl rfl (by decide) (Nat.le_of_ble_eq_true rfl) ⟨Nat.le_refl _, Nat.le_refl _⟩ dX12_put_2 ?_
  refine J_istore_n [(0, .ref o), (1, .int (nI 1)), (2, .int (nI k)), (3, .int (bA (s 5) 1 len p))] dX12_put_5 rfl (by decide) rfl rfl rfl ?_
  refine J_iload_n dX12_put_6 rfl rfl ?_
  refine J_if_ne 18 dX12_put_7 (by decide) (fun _ => ?_) (fun c => absurd c (by decide))
  refine J_iload_n dX12_put_18 rfl rfl ?_
  refine J_iconst (v := nI 1) dX12_put_19 (by decide) ?_
  refine J_icmp_ne 31 dX12_put_20 (by decide) (fun c => absurd c (by decide)) (fun _ => ?_)
  refine J_iload_n dX12_put_23 rfl rfl ?_
  refine J_iload_n dX12_put_24 rfl rfl ?_
  refine J_cSi [.int (nI k), .int (bA (s 5) 1 len p)] ms_X12_106 (c_X12_tellsHeir (mW G o a s) k (by omega) (bA (s 5) 1 len p)) rfl rfl (by decide) (Nat.le_of_ble_eq_true rfl) ⟨Nat.le_refl _, Nat.le_refl _⟩ dX12_put_25 ?_
  refine J_goto 36 dX12_put_28 (by decide) ?_
  refine J_istore [(0, .ref o), (1, .int (nI 1)), (2, .int (nI k)), (3, .int (bA (s 5) 1 len p)), (4, .int (tlE k (bA (s 5) 1 len p)))] dX12_put_36 (by decide) rfl rfl rfl ?_
  refine J_iload dX12_put_38 rfl ?_
  refine J_bipush (v := -9) dX12_put_40 (by decide) ?_
  refine J_icmp_ne 48 dX12_put_42 (by decide) (fun c => absurd hv c) (fun _ => ?_)
  refine J_bipush (v := -9) dX12_put_45 (by decide) ?_
  exact J_iret dX12_put_47 rfl rfl rfl (hq _ rfl)
theorem c_X12_put1_bad {G : GT} (o : Nat) (a : Nat → Nat) (s : Nat → Nat → Int32) (len r p : Nat) (hlen : s 6 1 = nI len) (hl59 : len ≤ 59) (hp : s 7 0 = nI p) (hp99 : p ≤ 90) (hr : s 8 1 = nI r) (k : Nat) (hk : k < 3) (hrk : 3 * r + k < 18) (hv : tlE k (bA (s 5) 1 len p) = -9) : Ct G yX12_put cX12_put 5 (some .int) 0 0 3 [.ref o, .int (nI 1), .int (nI k)] (mW G o a s) (Is (some (.int (-9))) (mW G o a s)) := Ct.of rfl (Nat.le_of_ble_eq_true rfl) (j_X12_put1_bad o a s len r p hlen hl59 hp hp99 hr k hk hrk hv (fun _ e => by subst e; exact Is.rf _ _))
set_option maxRecDepth 100000 in
set_option maxHeartbeats 1000000 in
theorem j_X12_put1_ok {G : GT} (o : Nat) (a : Nat → Nat) (s : Nat → Nat → Int32) (len r p : Nat) (hlen : s 6 1 = nI len) (hl59 : len ≤ 59) (hp : s 7 0 = nI p) (hp99 : p ≤ 90) (hr : s 8 1 = nI r) (k : Nat) (hk : k < 3) (hrk : 3 * r + k < 18) (hv : ¬ tlE k (bA (s 5) 1 len p) = -9) {Q : Option Value → va_W → Prop} (hq : ∀ v_ : Int32, v_ = tlE k (bA (s 5) 1 len p) → Q (some (.int v_)) (mW G o a (su 10 (su 7 s (fun _ => nI (p + 1))) (upd (s 10) (3 * r + k) (tlE k (bA (s 5) 1 len p)))))) : J G "put" RX12 cX12_put 5 (some .int) 0 0 3 Q 0 0 0 [(0, .ref o), (1, .int (nI 1)), (2, .int (nI k))] [] (mW G o a s) := by
  refine J_aload_n dX12_put_0 rfl rfl ?_
  refine J_iload_n dX12_put_1 rfl rfl ?_
  refine J_cVi (x := yX12_in) [.int (nI 1)] 0 mv_X12_100 (c_X12_here o a s 1 len p (by decide) hlen (by omega) hp (by first | omega | (have := rE0_le (s 5) len p; have := rE1_le (s 5) len p; have := rE2_le (s 5) len p; omega))) mW_0 rfl rfl (by decide) (Nat.le_of_ble_eq_true rfl) ⟨Nat.le_refl _, Nat.le_refl _⟩ dX12_put_2 ?_
  refine J_istore_n [(0, .ref o), (1, .int (nI 1)), (2, .int (nI k)), (3, .int (bA (s 5) 1 len p))] dX12_put_5 rfl (by decide) rfl rfl rfl ?_
  refine J_iload_n dX12_put_6 rfl rfl ?_
  refine J_if_ne 18 dX12_put_7 (by decide) (fun _ => ?_) (fun c => absurd c (by decide))
  refine J_iload_n dX12_put_18 rfl rfl ?_
  refine J_iconst (v := nI 1) dX12_put_19 (by decide) ?_
  refine J_icmp_ne 31 dX12_put_20 (by decide) (fun c => absurd c (by decide)) (fun _ => ?_)
  refine J_iload_n dX12_put_23 rfl rfl ?_
  refine J_iload_n dX12_put_24 rfl rfl ?_
  refine J_cSi [.int (nI k), .int (bA (s 5) 1 len p)] ms_X12_106 (c_X12_tellsHeir (mW G o a s) k (by omega) (bA (s 5) 1 len p)) rfl rfl (by decide) (Nat.le_of_ble_eq_true rfl) ⟨Nat.le_refl _, Nat.le_refl _⟩ dX12_put_25 ?_
  refine J_goto 36 dX12_put_28 (by decide) ?_
  refine J_istore [(0, .ref o), (1, .int (nI 1)), (2, .int (nI k)), (3, .int (bA (s 5) 1 len p)), (4, .int (tlE k (bA (s 5) 1 len p)))] dX12_put_36 (by decide) rfl rfl rfl ?_
  refine J_iload dX12_put_38 rfl ?_
  refine J_bipush (v := -9) dX12_put_40 (by decide) ?_
  refine J_icmp_ne 48 dX12_put_42 (by decide) (fun _ => ?_) (fun c => absurd c hv)
  refine J_iload_n dX12_put_48 rfl rfl ?_
  refine J_if_ne 72 dX12_put_49 (by decide) (fun _ => ?_) (fun c => absurd c (by decide))
  refine J_iload_n dX12_put_72 rfl rfl ?_
  refine J_iconst (v := nI 1) dX12_put_73 (by decide) ?_
  refine J_icmp_ne 97 dX12_put_74 (by decide) (fun c => absurd c (by decide)) (fun _ => ?_)
  refine J_aload_n dX12_put_77 rfl rfl ?_
  refine Mg_10 dX12_put_78 ?_
  refine J_iconst (v := nI 3) dX12_put_81 (by decide) ?_
  refine J_aload_n dX12_put_82 rfl rfl ?_
  refine Mg_8 dX12_put_83 ?_
  refine J_iconst (v := nI 1) dX12_put_86 (by decide) ?_
  refine Ml_8 (s := s) (s 8) rfl 1 rfl (by omega) dX12_put_87 ?_
  refine J_rw (y := nI r) hr ?_
  refine J_imulN dX12_put_88 ?_
  refine J_iload_n dX12_put_89 rfl rfl ?_
  refine J_iaddN dX12_put_90 ?_
  refine J_iload dX12_put_91 rfl ?_
  refine Ms_10 (s := s) (s 10) rfl (3 * r + k) rfl (by omega) dX12_put_93 ?_
  refine J_goto 114 dX12_put_94 (by decide) ?_
  refine J_aload_n dX12_put_114 rfl rfl ?_
  refine J_dup dX12_put_115 rfl ?_
  refine Mg_7 (s := (su 10 s (upd (s 10) (3 * r + k) (tlE k (bA (s 5) 1 len p))))) (s 7 0) rfl dX12_put_116 ?_
  refine J_rw (y := nI p) hp ?_
  refine J_iconst (v := nI 1) dX12_put_119 (by decide) ?_
  refine J_iaddN dX12_put_120 ?_
  refine Mp_7 dX12_put_121 ?_
  refine J_ws (ws2 := (mW G o a (su 10 (su 7 s (fun _ => nI (p + 1))) (upd (s 10) (3 * r + k) (tlE k (bA (s 5) 1 len p)))))) (congrArg (mW G o a) (su_sw (by decide))) ?_
  refine J_iload dX12_put_124 rfl ?_
  exact J_iret dX12_put_126 rfl rfl rfl (hq _ rfl)
theorem c_X12_put1_ok {G : GT} (o : Nat) (a : Nat → Nat) (s : Nat → Nat → Int32) (len r p : Nat) (hlen : s 6 1 = nI len) (hl59 : len ≤ 59) (hp : s 7 0 = nI p) (hp99 : p ≤ 90) (hr : s 8 1 = nI r) (k : Nat) (hk : k < 3) (hrk : 3 * r + k < 18) (hv : ¬ tlE k (bA (s 5) 1 len p) = -9) : Ct G yX12_put cX12_put 5 (some .int) 0 0 3 [.ref o, .int (nI 1), .int (nI k)] (mW G o a s) (Is (some (.int (tlE k (bA (s 5) 1 len p)))) (mW G o a (su 10 (su 7 s (fun _ => nI (p + 1))) (upd (s 10) (3 * r + k) (tlE k (bA (s 5) 1 len p)))))) := Ct.of rfl (Nat.le_of_ble_eq_true rfl) (j_X12_put1_ok o a s len r p hlen hl59 hp hp99 hr k hk hrk hv (fun _ e => by subst e; exact Is.rf _ _))
set_option maxRecDepth 100000 in
set_option maxHeartbeats 1000000 in
theorem j_X12_put2_bad {G : GT} (o : Nat) (a : Nat → Nat) (s : Nat → Nat → Int32) (len r p : Nat) (hlen : s 6 2 = nI len) (hl59 : len ≤ 59) (hp : s 7 0 = nI p) (hp99 : p ≤ 90) (hr : s 8 2 = nI r) (k : Nat) (hk : k < 4) (hrk : 4 * r + k < 64) (hv : tlC k (bA (s 5) 2 len p) = -9) {Q : Option Value → va_W → Prop} (hq : ∀ v_ : Int32, v_ = (-9) → Q (some (.int v_)) (mW G o a s)) : J G "put" RX12 cX12_put 5 (some .int) 0 0 3 Q 0 0 0 [(0, .ref o), (1, .int (nI 2)), (2, .int (nI k))] [] (mW G o a s) := by
  refine J_aload_n dX12_put_0 rfl rfl ?_
  refine J_iload_n dX12_put_1 rfl rfl ?_
  refine J_cVi (x := yX12_in) [.int (nI 2)] 0 mv_X12_100 (c_X12_here o a s 2 len p (by decide) hlen (by omega) hp (by first | omega | (have := rE0_le (s 5) len p; have := rE1_le (s 5) len p; have := rE2_le (s 5) len p; omega))) mW_0 rfl rfl (by decide) (Nat.le_of_ble_eq_true rfl) ⟨Nat.le_refl _, Nat.le_refl _⟩ dX12_put_2 ?_
  refine J_istore_n [(0, .ref o), (1, .int (nI 2)), (2, .int (nI k)), (3, .int (bA (s 5) 2 len p))] dX12_put_5 rfl (by decide) rfl rfl rfl ?_
  refine J_iload_n dX12_put_6 rfl rfl ?_
  refine J_if_ne 18 dX12_put_7 (by decide) (fun _ => ?_) (fun c => absurd c (by decide))
  refine J_iload_n dX12_put_18 rfl rfl ?_
  refine J_iconst (v := nI 1) dX12_put_19 (by decide) ?_
  refine J_icmp_ne 31 dX12_put_20 (by decide) (fun _ => ?_) (fun c => absurd c (by decide))
  refine J_iload_n dX12_put_31 rfl rfl ?_
  refine J_iload_n dX12_put_32 rfl rfl ?_
  refine J_cSi [.int (nI k), .int (bA (s 5) 2 len p)] ms_X12_109 (c_X12_tellsClause (mW G o a s) k (by omega) (bA (s 5) 2 len p)) rfl rfl (by decide) (Nat.le_of_ble_eq_true rfl) ⟨Nat.le_refl _, Nat.le_refl _⟩ dX12_put_33 ?_
  refine J_istore [(0, .ref o), (1, .int (nI 2)), (2, .int (nI k)), (3, .int (bA (s 5) 2 len p)), (4, .int (tlC k (bA (s 5) 2 len p)))] dX12_put_36 (by decide) rfl rfl rfl ?_
  refine J_iload dX12_put_38 rfl ?_
  refine J_bipush (v := -9) dX12_put_40 (by decide) ?_
  refine J_icmp_ne 48 dX12_put_42 (by decide) (fun c => absurd hv c) (fun _ => ?_)
  refine J_bipush (v := -9) dX12_put_45 (by decide) ?_
  exact J_iret dX12_put_47 rfl rfl rfl (hq _ rfl)
theorem c_X12_put2_bad {G : GT} (o : Nat) (a : Nat → Nat) (s : Nat → Nat → Int32) (len r p : Nat) (hlen : s 6 2 = nI len) (hl59 : len ≤ 59) (hp : s 7 0 = nI p) (hp99 : p ≤ 90) (hr : s 8 2 = nI r) (k : Nat) (hk : k < 4) (hrk : 4 * r + k < 64) (hv : tlC k (bA (s 5) 2 len p) = -9) : Ct G yX12_put cX12_put 5 (some .int) 0 0 3 [.ref o, .int (nI 2), .int (nI k)] (mW G o a s) (Is (some (.int (-9))) (mW G o a s)) := Ct.of rfl (Nat.le_of_ble_eq_true rfl) (j_X12_put2_bad o a s len r p hlen hl59 hp hp99 hr k hk hrk hv (fun _ e => by subst e; exact Is.rf _ _))
set_option maxRecDepth 100000 in
set_option maxHeartbeats 1000000 in
theorem j_X12_put2_ok {G : GT} (o : Nat) (a : Nat → Nat) (s : Nat → Nat → Int32) (len r p : Nat) (hlen : s 6 2 = nI len) (hl59 : len ≤ 59) (hp : s 7 0 = nI p) (hp99 : p ≤ 90) (hr : s 8 2 = nI r) (k : Nat) (hk : k < 4) (hrk : 4 * r + k < 64) (hv : ¬ tlC k (bA (s 5) 2 len p) = -9) {Q : Option Value → va_W → Prop} (hq : ∀ v_ : Int32, v_ = tlC k (bA (s 5) 2 len p) → Q (some (.int v_)) (mW G o a (su 11 (su 7 s (fun _ => nI (p + 1))) (upd (s 11) (4 * r + k) (tlC k (bA (s 5) 2 len p)))))) : J G "put" RX12 cX12_put 5 (some .int) 0 0 3 Q 0 0 0 [(0, .ref o), (1, .int (nI 2)), (2, .int (nI k))] [] (mW G o a s) := by
  refine J_aload_n dX12_put_0 rfl rfl ?_
  refine J_iload_n dX12_put_1 rfl rfl ?_
  refine J_cVi (x := yX12_in) [.int (nI 2)] 0 mv_X12_100 (c_X12_here o a s 2 len p (by decide) hlen (by omega) hp (by first | omega | (have := rE0_le (s 5) len p; have := rE1_le (s 5) len p; have := rE2_le (s 5) len p; omega))) mW_0 rfl rfl (by decide) (Nat.le_of_ble_eq_true rfl) ⟨Nat.le_refl _, Nat.le_refl _⟩ dX12_put_2 ?_
  refine J_istore_n [(0, .ref o), (1, .int (nI 2)), (2, .int (nI k)), (3, .int (bA (s 5) 2 len p))] dX12_put_5 rfl (by decide) rfl rfl rfl ?_
  refine J_iload_n dX12_put_6 rfl rfl ?_
  refine J_if_ne 18 dX12_put_7 (by decide) (fun _ => ?_) (fun c => absurd c (by decide))
  refine J_iload_n dX12_put_18 rfl rfl ?_
  refine J_iconst (v := nI 1) dX12_put_19 (by decide) ?_
  refine J_icmp_ne 31 dX12_put_20 (by decide) (fun _ => ?_) (fun c => absurd c (by decide))
  refine J_iload_n dX12_put_31 rfl rfl ?_
  refine J_iload_n dX12_put_32 rfl rfl ?_
  refine J_cSi [.int (nI k), .int (bA (s 5) 2 len p)] ms_X12_109 (c_X12_tellsClause (mW G o a s) k (by omega) (bA (s 5) 2 len p)) rfl rfl (by decide) (Nat.le_of_ble_eq_true rfl) ⟨Nat.le_refl _, Nat.le_refl _⟩ dX12_put_33 ?_
  refine J_istore [(0, .ref o), (1, .int (nI 2)), (2, .int (nI k)), (3, .int (bA (s 5) 2 len p)), (4, .int (tlC k (bA (s 5) 2 len p)))] dX12_put_36 (by decide) rfl rfl rfl ?_
  refine J_iload dX12_put_38 rfl ?_
  refine J_bipush (v := -9) dX12_put_40 (by decide) ?_
  refine J_icmp_ne 48 dX12_put_42 (by decide) (fun _ => ?_) (fun c => absurd c hv)
  refine J_iload_n dX12_put_48 rfl rfl ?_
  refine J_if_ne 72 dX12_put_49 (by decide) (fun _ => ?_) (fun c => absurd c (by decide))
  refine J_iload_n dX12_put_72 rfl rfl ?_
  refine J_iconst (v := nI 1) dX12_put_73 (by decide) ?_
  refine J_icmp_ne 97 dX12_put_74 (by decide) (fun _ => ?_) (fun c => absurd c (by decide))
  refine J_aload_n dX12_put_97 rfl rfl ?_
  refine Mg_11 dX12_put_98 ?_
  refine J_iconst (v := nI 4) dX12_put_101 (by decide) ?_
  refine J_aload_n dX12_put_102 rfl rfl ?_
  refine Mg_8 dX12_put_103 ?_
  refine J_iconst (v := nI 2) dX12_put_106 (by decide) ?_
  refine Ml_8 (s := s) (s 8) rfl 2 rfl (by omega) dX12_put_107 ?_
  refine J_rw (y := nI r) hr ?_
  refine J_imulN dX12_put_108 ?_
  refine J_iload_n dX12_put_109 rfl rfl ?_
  refine J_iaddN dX12_put_110 ?_
  refine J_iload dX12_put_111 rfl ?_
  refine Ms_11 (s := s) (s 11) rfl (4 * r + k) rfl (by omega) dX12_put_113 ?_
  refine J_aload_n dX12_put_114 rfl rfl ?_
  refine J_dup dX12_put_115 rfl ?_
  refine Mg_7 (s := (su 11 s (upd (s 11) (4 * r + k) (tlC k (bA (s 5) 2 len p))))) (s 7 0) rfl dX12_put_116 ?_
  refine J_rw (y := nI p) hp ?_
  refine J_iconst (v := nI 1) dX12_put_119 (by decide) ?_
  refine J_iaddN dX12_put_120 ?_
  refine Mp_7 dX12_put_121 ?_
  refine J_ws (ws2 := (mW G o a (su 11 (su 7 s (fun _ => nI (p + 1))) (upd (s 11) (4 * r + k) (tlC k (bA (s 5) 2 len p)))))) (congrArg (mW G o a) (su_sw (by decide))) ?_
  refine J_iload dX12_put_124 rfl ?_
  exact J_iret dX12_put_126 rfl rfl rfl (hq _ rfl)
theorem c_X12_put2_ok {G : GT} (o : Nat) (a : Nat → Nat) (s : Nat → Nat → Int32) (len r p : Nat) (hlen : s 6 2 = nI len) (hl59 : len ≤ 59) (hp : s 7 0 = nI p) (hp99 : p ≤ 90) (hr : s 8 2 = nI r) (k : Nat) (hk : k < 4) (hrk : 4 * r + k < 64) (hv : ¬ tlC k (bA (s 5) 2 len p) = -9) : Ct G yX12_put cX12_put 5 (some .int) 0 0 3 [.ref o, .int (nI 2), .int (nI k)] (mW G o a s) (Is (some (.int (tlC k (bA (s 5) 2 len p)))) (mW G o a (su 11 (su 7 s (fun _ => nI (p + 1))) (upd (s 11) (4 * r + k) (tlC k (bA (s 5) 2 len p)))))) := Ct.of rfl (Nat.le_of_ble_eq_true rfl) (j_X12_put2_ok o a s len r p hlen hl59 hp hp99 hr k hk hrk hv (fun _ e => by subst e; exact Is.rf _ _))
