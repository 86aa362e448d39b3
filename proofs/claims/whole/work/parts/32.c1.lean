theorem k_J6_265 : Cond.constant RJ6 265 1431655765 ∈ TB := TB_mem 598 (by decide +kernel) (by decide +kernel)
theorem k_J6_266 : Cond.constant RJ6 266 858993459 ∈ TB := TB_mem 599 (by decide +kernel) (by decide +kernel)
theorem k_J6_267 : Cond.constant RJ6 267 252645135 ∈ TB := TB_mem 600 (by decide +kernel) (by decide +kernel)
section JMath
variable {G : GT} {nm own : String} {cc : ByteArray} {nL : Nat} {ret : Option FieldType} {mc ms d : Nat} {Q : Option Value → va_W → Prop} {k n pc : Nat} {lv : List (Nat × Value)} {st : List Value} {ws : va_W}
theorem J_mmin {index : Nat} (hM : MS own index yJ9_min_7cf53 cJ9_min_7cf53 2 (some .int) 2) {x y : Nat} (hx : x < 2 ^ 31) (hy : y < 2 ^ 31) (hfr : 1 ≤ d) (hcat : (st.map fun v => v.category).sum ≤ 8) (hcm : k ≤ mc ∧ n ≤ ms) (hd : decode cc pc = .ok (.invokestatic index, 3)) (K : J G nm own cc nL ret mc ms d Q k n (pc + 3) lv (.int (nI (min x y)) :: st) ws) : J G nm own cc nL ret mc ms d Q k n pc lv (.int (nI y) :: .int (nI x) :: st) ws := by
  intro p e s m args below meth c H locs A ls C hP hD hS hA hv
  obtain ⟨h1, h2, h3, h4, -⟩ := hM
  refine va_mmin C.ex C.cb (C.ml.trans hv.1.symm) C.ow (C.ts _ h2) (C.ts _ h3) (C.ts _ h4) (C.ts _ h1) hfr ?_ hcm.1 hcm.2 hd ?_
  · show _ ≤ 60 * d; omega
  · rw [show (if nI y < nI x then nI y else nI x) = nI (min x y) by
      by_cases h : y < x
      · rw [if_pos ((nI_ltI hy hx).mpr h), Nat.min_eq_right (by omega)]
      · rw [if_neg (fun q => h ((nI_ltI hy hx).mp q)), Nat.min_eq_left (by omega)]]
    exact K p e s m args below meth c H locs A ls C hP hD hS hA hv
theorem J_mmax {index : Nat} (hM : MS own index yJ9_max_7cf53 cJ9_max_7cf53 2 (some .int) 2) {x y : Nat} (hx : x < 2 ^ 31) (hy : y < 2 ^ 31) (hfr : 1 ≤ d) (hcat : (st.map fun v => v.category).sum ≤ 8) (hcm : k ≤ mc ∧ n ≤ ms) (hd : decode cc pc = .ok (.invokestatic index, 3)) (K : J G nm own cc nL ret mc ms d Q k n (pc + 3) lv (.int (nI (max x y)) :: st) ws) : J G nm own cc nL ret mc ms d Q k n pc lv (.int (nI y) :: .int (nI x) :: st) ws := by
  intro p e s m args below meth c H locs A ls C hP hD hS hA hv
  obtain ⟨h1, h2, h3, h4, -⟩ := hM
  refine va_mmax C.ex C.cb (C.ml.trans hv.1.symm) C.ow (C.ts _ h2) (C.ts _ h3) (C.ts _ h4) (C.ts _ h1) hfr ?_ hcm.1 hcm.2 hd ?_
  · show _ ≤ 60 * d; omega
  · rw [show (if nI x < nI y then nI y else nI x) = nI (max x y) by
      by_cases h : x < y
      · rw [if_pos ((nI_ltI hx hy).mpr h), Nat.max_eq_right (by omega)]
      · rw [if_neg (fun q => h ((nI_ltI hx hy).mp q)), Nat.max_eq_left (by omega)]]
    exact K p e s m args below meth c H locs A ls C hP hD hS hA hv
end JMath
def boh (f : Nat) : Nat → Nat
  | 0 => 0
  | i + 1 => boh f i ||| 2 ^ ((f + i) % 24)

set_option maxRecDepth 100000 in
set_option maxHeartbeats 1000000 in
theorem j_X11_isBelow {G : GT} (ws : va_W) (v b : Int32) {Q : Option Value → va_W → Prop} (hq : ∀ v_ : Int32, v_ = bI (rngI v b) → Q (some (.int v_)) ws) : J G "isBelow" RX11 cX11_isBelow 2 (some .boolean) 0 0 0 Q 0 0 0 [(0, .int v), (1, .int b)] [] ws := by
  refine J_iload_n dX11_isBelow_0 rfl rfl ?_
  refine J_if_lt 13 dX11_isBelow_1 (by decide) (fun kcz1 => ?_) (fun kcz1 => ?_)
  · refine J_iconst (v := nI 0) dX11_isBelow_13 (by decide) ?_
    exact J_zretB (b := false) dX11_isBelow_14 rfl rfl rfl (hq _ (by show bI false = bI (rngI v b); simp [rngI, kcz1]))
  · refine J_iload_n dX11_isBelow_4 rfl rfl ?_
    refine J_iload_n dX11_isBelow_5 rfl rfl ?_
    refine J_icmp_ge 13 dX11_isBelow_6 (by decide) (fun kcz2 => ?_) (fun kcz2 => ?_)
    · refine J_iconst (v := nI 0) dX11_isBelow_13 (by decide) ?_
      exact J_zretB (b := false) dX11_isBelow_14 rfl rfl rfl (hq _ (by show bI false = bI (rngI v b); simp [rngI, kcz1, kcz2]))
    · refine J_iconst (v := nI 1) dX11_isBelow_9 (by decide) ?_
      refine J_goto 14 dX11_isBelow_10 (by decide) ?_
      exact J_zretB (b := true) dX11_isBelow_14 rfl rfl rfl (hq _ (by show bI true = bI (rngI v b); simp [rngI, kcz1, kcz2]))
theorem c_X11_isBelow {G : GT} (ws : va_W) (v b : Int32) : Ct G yX11_isBelow cX11_isBelow 2 (some .boolean) 0 0 0 [.int v, .int b] ws (Is (some (.int (bI (rngI v b)))) ws) := Ct.of rfl (Nat.le_of_ble_eq_true rfl) (j_X11_isBelow ws v b (fun _ e => by subst e; exact Is.rf _ _))
theorem c_X11_isBelowN {G : GT} (ws : va_W) (v : Int32) (n : Nat) : Ct G yX11_isBelow cX11_isBelow 2 (some .boolean) 0 0 0 [.int v, .int (nI n)] ws (Is (some (.int (bI (rng v n)))) ws) := c_X11_isBelow ws v (nI n)
set_option maxRecDepth 100000 in
set_option maxHeartbeats 1000000 in
theorem j_X11_hasBit {G : GT} (ws : va_W) (v b : Int32) {Q : Option Value → va_W → Prop} (hq : ∀ v_ : Int32, v_ = bI (tb v b) → Q (some (.int v_)) ws) : J G "hasBit" RX11 cX11_hasBit 2 (some .boolean) 0 0 0 Q 0 0 0 [(0, .int v), (1, .int b)] [] ws := by
  refine J_iload_n dX11_hasBit_0 rfl rfl ?_
  refine J_iload_n dX11_hasBit_1 rfl rfl ?_
  refine J_ishr dX11_hasBit_2 ?_
  refine J_iconst (v := nI 1) dX11_hasBit_3 (by decide) ?_
  refine J_iand dX11_hasBit_4 ?_
  refine J_iconst (v := nI 1) dX11_hasBit_5 (by decide) ?_
  refine J_icmp_ne 13 dX11_hasBit_6 (by decide) (fun kcz1 => ?_) (fun kcz1 => ?_)
  · refine J_iconst (v := nI 0) dX11_hasBit_13 (by decide) ?_
    exact J_zretB (b := false) dX11_hasBit_14 rfl rfl rfl (hq _ (by show bI false = bI (tb v b); simp [tb, kcz1]))
  · refine J_iconst (v := nI 1) dX11_hasBit_9 (by decide) ?_
    refine J_goto 14 dX11_hasBit_10 (by decide) ?_
    exact J_zretB (b := true) dX11_hasBit_14 rfl rfl rfl (hq _ (by show bI true = bI (tb v b); simp [tb, kcz1]))
theorem c_X11_hasBit {G : GT} (ws : va_W) (v b : Int32) : Ct G yX11_hasBit cX11_hasBit 2 (some .boolean) 0 0 0 [.int v, .int b] ws (Is (some (.int (bI (tb v b)))) ws) := Ct.of rfl (Nat.le_of_ble_eq_true rfl) (j_X11_hasBit ws v b (fun _ e => by subst e; exact Is.rf _ _))
theorem c_X11_hasBitN {G : GT} (ws : va_W) (b j : Nat) (hb : b < 2 ^ 31) (hj : j < 31) : Ct G yX11_hasBit cX11_hasBit 2 (some .boolean) 0 0 0 [.int (nI b), .int (nI j)] ws (Is (some (.int (bI (b.testBit j)))) ws) := by
  rw [← tb_nI hb hj]; exact c_X11_hasBit ws (nI b) (nI j)
set_option maxRecDepth 100000 in
set_option maxHeartbeats 1000000 in
theorem j_J6_bitCount_0f7a4 {G : GT} (ws : va_W) (b : Nat) (hb : b < 256) {Q : Option Value → va_W → Prop} (hq : ∀ v_ : Int32, v_ = nI (popc b) → Q (some (.int v_)) ws) : J G "bitCount" RJ6 cJ6_bitCount_0f7a4 1 (some .int) 0 0 0 Q 0 0 0 [(0, .int (nI b))] [] ws := by
  refine J_iload_n dJ6_bitCount_0f7a4_0 rfl rfl ?_
  refine J_iload_n dJ6_bitCount_0f7a4_1 rfl rfl ?_
  refine J_iconst (v := nI 1) dJ6_bitCount_0f7a4_2 (by decide) ?_
  refine J_iushr dJ6_bitCount_0f7a4_3 ?_
  refine J_ldcw dJ6_bitCount_0f7a4_4 k_J6_265 ?_
  refine J_iand dJ6_bitCount_0f7a4_7 ?_
  refine J_isub dJ6_bitCount_0f7a4_8 ?_
  refine J_istore_n [(0, .int ((nI b) - ((((nI b).toUInt32 >>> ((nI 1).toUInt32 &&& Int32.toUInt32 31)).toInt32) &&& (1431655765))))] dJ6_bitCount_0f7a4_9 rfl (by decide) rfl rfl rfl ?_
  refine J_iload_n dJ6_bitCount_0f7a4_10 rfl rfl ?_
  refine J_ldcw dJ6_bitCount_0f7a4_11 k_J6_266 ?_
  refine J_iand dJ6_bitCount_0f7a4_14 ?_
  refine J_iload_n dJ6_bitCount_0f7a4_15 rfl rfl ?_
  refine J_iconst (v := nI 2) dJ6_bitCount_0f7a4_16 (by decide) ?_
  refine J_iushr dJ6_bitCount_0f7a4_17 ?_
  refine J_ldcw dJ6_bitCount_0f7a4_18 k_J6_266 ?_
  refine J_iand dJ6_bitCount_0f7a4_21 ?_
  refine J_iadd dJ6_bitCount_0f7a4_22 ?_
  refine J_istore_n [(0, .int ((((nI b) - ((((nI b).toUInt32 >>> ((nI 1).toUInt32 &&& Int32.toUInt32 31)).toInt32) &&& (1431655765))) &&& (858993459)) + (((((nI b) - ((((nI b).toUInt32 >>> ((nI 1).toUInt32 &&& Int32.toUInt32 31)).toInt32) &&& (1431655765))).toUInt32 >>> ((nI 2).toUInt32 &&& Int32.toUInt32 31)).toInt32) &&& (858993459))))] dJ6_bitCount_0f7a4_23 rfl (by decide) rfl rfl rfl ?_
  refine J_iload_n dJ6_bitCount_0f7a4_24 rfl rfl ?_
  refine J_iload_n dJ6_bitCount_0f7a4_25 rfl rfl ?_
  refine J_iconst (v := nI 4) dJ6_bitCount_0f7a4_26 (by decide) ?_
  refine J_iushr dJ6_bitCount_0f7a4_27 ?_
  refine J_iadd dJ6_bitCount_0f7a4_28 ?_
  refine J_ldcw dJ6_bitCount_0f7a4_29 k_J6_267 ?_
  refine J_iand dJ6_bitCount_0f7a4_32 ?_
  refine J_istore_n [(0, .int ((((((nI b) - ((((nI b).toUInt32 >>> ((nI 1).toUInt32 &&& Int32.toUInt32 31)).toInt32) &&& (1431655765))) &&& (858993459)) + (((((nI b) - ((((nI b).toUInt32 >>> ((nI 1).toUInt32 &&& Int32.toUInt32 31)).toInt32) &&& (1431655765))).toUInt32 >>> ((nI 2).toUInt32 &&& Int32.toUInt32 31)).toInt32) &&& (858993459))) + ((((((nI b) - ((((nI b).toUInt32 >>> ((nI 1).toUInt32 &&& Int32.toUInt32 31)).toInt32) &&& (1431655765))) &&& (858993459)) + (((((nI b) - ((((nI b).toUInt32 >>> ((nI 1).toUInt32 &&& Int32.toUInt32 31)).toInt32) &&& (1431655765))).toUInt32 >>> ((nI 2).toUInt32 &&& Int32.toUInt32 31)).toInt32) &&& (858993459))).toUInt32 >>> ((nI 4).toUInt32 &&& Int32.toUInt32 31)).toInt32)) &&& (252645135)))] dJ6_bitCount_0f7a4_33 rfl (by decide) rfl rfl rfl ?_
  refine J_iload_n dJ6_bitCount_0f7a4_34 rfl rfl ?_
  refine J_iload_n dJ6_bitCount_0f7a4_35 rfl rfl ?_
  refine J_bipush (v := nI 8) dJ6_bitCount_0f7a4_36 (by decide) ?_
  refine J_iushr dJ6_bitCount_0f7a4_38 ?_
  refine J_iadd dJ6_bitCount_0f7a4_39 ?_
  refine J_istore_n [(0, .int (((((((nI b) - ((((nI b).toUInt32 >>> ((nI 1).toUInt32 &&& Int32.toUInt32 31)).toInt32) &&& (1431655765))) &&& (858993459)) + (((((nI b) - ((((nI b).toUInt32 >>> ((nI 1).toUInt32 &&& Int32.toUInt32 31)).toInt32) &&& (1431655765))).toUInt32 >>> ((nI 2).toUInt32 &&& Int32.toUInt32 31)).toInt32) &&& (858993459))) + ((((((nI b) - ((((nI b).toUInt32 >>> ((nI 1).toUInt32 &&& Int32.toUInt32 31)).toInt32) &&& (1431655765))) &&& (858993459)) + (((((nI b) - ((((nI b).toUInt32 >>> ((nI 1).toUInt32 &&& Int32.toUInt32 31)).toInt32) &&& (1431655765))).toUInt32 >>> ((nI 2).toUInt32 &&& Int32.toUInt32 31)).toInt32) &&& (858993459))).toUInt32 >>> ((nI 4).toUInt32 &&& Int32.toUInt32 31)).toInt32)) &&& (252645135)) + ((((((((nI b) - ((((nI b).toUInt32 >>> ((nI 1).toUInt32 &&& Int32.toUInt32 31)).toInt32) &&& (1431655765))) &&& (858993459)) + (((((nI b) - ((((nI b).toUInt32 >>> ((nI 1).toUInt32 &&& Int32.toUInt32 31)).toInt32) &&& (1431655765))).toUInt32 >>> ((nI 2).toUInt32 &&& Int32.toUInt32 31)).toInt32) &&& (858993459))) + ((((((nI b) - ((((nI b).toUInt32 >>> ((nI 1).toUInt32 &&& Int32.toUInt32 31)).toInt32) &&& (1431655765))) &&& (858993459)) + (((((nI b) - ((((nI b).toUInt32 >>> ((nI 1).toUInt32 &&& Int32.toUInt32 31)).toInt32) &&& (1431655765))).toUInt32 >>> ((nI 2).toUInt32 &&& Int32.toUInt32 31)).toInt32) &&& (858993459))).toUInt32 >>> ((nI 4).toUInt32 &&& Int32.toUInt32 31)).toInt32)) &&& (252645135)).toUInt32 >>> ((nI 8).toUInt32 &&& Int32.toUInt32 31)).toInt32)))] dJ6_bitCount_0f7a4_40 rfl (by decide) rfl rfl rfl ?_
  refine J_iload_n dJ6_bitCount_0f7a4_41 rfl rfl ?_
  refine J_iload_n dJ6_bitCount_0f7a4_42 rfl rfl ?_
  refine J_bipush (v := nI 16) dJ6_bitCount_0f7a4_43 (by decide) ?_
  refine J_iushr dJ6_bitCount_0f7a4_45 ?_
  refine J_iadd dJ6_bitCount_0f7a4_46 ?_
  refine J_istore_n [(0, .int ((((((((nI b) - ((((nI b).toUInt32 >>> ((nI 1).toUInt32 &&& Int32.toUInt32 31)).toInt32) &&& (1431655765))) &&& (858993459)) + (((((nI b) - ((((nI b).toUInt32 >>> ((nI 1).toUInt32 &&& Int32.toUInt32 31)).toInt32) &&& (1431655765))).toUInt32 >>> ((nI 2).toUInt32 &&& Int32.toUInt32 31)).toInt32) &&& (858993459))) + ((((((nI b) - ((((nI b).toUInt32 >>> ((nI 1).toUInt32 &&& Int32.toUInt32 31)).toInt32) &&& (1431655765))) &&& (858993459)) + (((((nI b) - ((((nI b).toUInt32 >>> ((nI 1).toUInt32 &&& Int32.toUInt32 31)).toInt32) &&& (1431655765))).toUInt32 >>> ((nI 2).toUInt32 &&& Int32.toUInt32 31)).toInt32) &&& (858993459))).toUInt32 >>> ((nI 4).toUInt32 &&& Int32.toUInt32 31)).toInt32)) &&& (252645135)) + ((((((((nI b) - ((((nI b).toUInt32 >>> ((nI 1).toUInt32 &&& Int32.toUInt32 31)).toInt32) &&& (1431655765))) &&& (858993459)) + (((((nI b) - ((((nI b).toUInt32 >>> ((nI 1).toUInt32 &&& Int32.toUInt32 31)).toInt32) &&& (1431655765))).toUInt32 >>> ((nI 2).toUInt32 &&& Int32.toUInt32 31)).toInt32) &&& (858993459))) + ((((((nI b) - ((((nI b).toUInt32 >>> ((nI 1).toUInt32 &&& Int32.toUInt32 31)).toInt32) &&& (1431655765))) &&& (858993459)) + (((((nI b) - ((((nI b).toUInt32 >>> ((nI 1).toUInt32 &&& Int32.toUInt32 31)).toInt32) &&& (1431655765))).toUInt32 >>> ((nI 2).toUInt32 &&& Int32.toUInt32 31)).toInt32) &&& (858993459))).toUInt32 >>> ((nI 4).toUInt32 &&& Int32.toUInt32 31)).toInt32)) &&& (252645135)).toUInt32 >>> ((nI 8).toUInt32 &&& Int32.toUInt32 31)).toInt32)) + (((((((((nI b) - ((((nI b).toUInt32 >>> ((nI 1).toUInt32 &&& Int32.toUInt32 31)).toInt32) &&& (1431655765))) &&& (858993459)) + (((((nI b) - ((((nI b).toUInt32 >>> ((nI 1).toUInt32 &&& Int32.toUInt32 31)).toInt32) &&& (1431655765))).toUInt32 >>> ((nI 2).toUInt32 &&& Int32.toUInt32 31)).toInt32) &&& (858993459))) + ((((((nI b) - ((((nI b).toUInt32 >>> ((nI 1).toUInt32 &&& Int32.toUInt32 31)).toInt32) &&& (1431655765))) &&& (858993459)) + (((((nI b) - ((((nI b).toUInt32 >>> ((nI 1).toUInt32 &&& Int32.toUInt32 31)).toInt32) &&& (1431655765))).toUInt32 >>> ((nI 2).toUInt32 &&& Int32.toUInt32 31)).toInt32) &&& (858993459))).toUInt32 >>> ((nI 4).toUInt32 &&& Int32.toUInt32 31)).toInt32)) &&& (252645135)) + ((((((((nI b) - ((((nI b).toUInt32 >>> ((nI 1).toUInt32 &&& Int32.toUInt32 31)).toInt32) &&& (1431655765))) &&& (858993459)) + (((((nI b) - ((((nI b).toUInt32 >>> ((nI 1).toUInt32 &&& Int32.toUInt32 31)).toInt32) &&& (1431655765))).toUInt32 >>> ((nI 2).toUInt32 &&& Int32.toUInt32 31)).toInt32) &&& (858993459))) + ((((((nI b) - ((((nI b).toUInt32 >>> ((nI 1).toUInt32 &&& Int32.toUInt32 31)).toInt32) &&& (1431655765))) &&& (858993459)) + (((((nI b) - ((((nI b).toUInt32 >>> ((nI 1).toUInt32 &&& Int32.toUInt32 31)).toInt32) &&& (1431655765))).toUInt32 >>> ((nI 2).toUInt32 &&& Int32.toUInt32 31)).toInt32) &&& (858993459))).toUInt32 >>> ((nI 4).toUInt32 &&& Int32.toUInt32 31)).toInt32)) &&& (252645135)).toUInt32 >>> ((nI 8).toUInt32 &&& Int32.toUInt32 31)).toInt32)).toUInt32 >>> ((nI 16).toUInt32 &&& Int32.toUInt32 31)).toInt32)))] dJ6_bitCount_0f7a4_47 rfl (by decide) rfl rfl rfl ?_
  refine J_iload_n dJ6_bitCount_0f7a4_48 rfl rfl ?_
  refine J_bipush (v := nI 63) dJ6_bitCount_0f7a4_49 (by decide) ?_
  refine J_iand dJ6_bitCount_0f7a4_51 ?_
  exact J_iret dJ6_bitCount_0f7a4_52 rfl rfl rfl (hq _ (bcF_all b hb))
theorem c_J6_bitCount_0f7a4 {G : GT} (ws : va_W) (b : Nat) (hb : b < 256) : Ct G yJ6_bitCount_0f7a4 cJ6_bitCount_0f7a4 1 (some .int) 0 0 0 [.int (nI b)] ws (Is (some (.int (nI (popc b)))) ws) := Ct.of rfl (Nat.le_of_ble_eq_true rfl) (j_J6_bitCount_0f7a4 ws b hb (fun _ e => by subst e; exact Is.rf _ _))
set_option maxRecDepth 100000 in
set_option maxHeartbeats 1000000 in
theorem j_X5_hasRow0 {G : GT} (r : Nat → Nat) (s : St) (l : Nat → Int64) (n : Nat) (hn : s 52 0 = nI n) (v : Int32) {Q : Option Value → va_W → Prop} (hq : ∀ v_ : Int32, v_ = bI (rng v n) → Q (some (.int v_)) (cW G r s l)) : J G "hasRow" RX5 cX5_hasRow 2 (some .boolean) 0 0 0 Q 0 0 0 [(0, .ref (r 3)), (1, .int v)] [] (cW G r s l) := by
  refine J_iload_n dX5_hasRow_0 rfl rfl ?_
  refine J_if_lt 16 dX5_hasRow_1 (by decide) (fun kcz1 => ?_) (fun kcz1 => ?_)
  · refine J_iconst (v := nI 0) dX5_hasRow_16 (by decide) ?_
    exact J_zretB (b := false) dX5_hasRow_17 rfl rfl rfl (hq _ (by show bI false = bI (rng v n); simp [rng, rngI, kcz1]))
  · refine J_iload_n dX5_hasRow_4 rfl rfl ?_
    refine J_aload_n dX5_hasRow_5 rfl rfl ?_
    refine Cg_3_4 (s := s) fr_X5_19_2 (s 52 0) rfl dX5_hasRow_6 ?_
    refine J_rw (y := nI n) hn ?_
    refine J_icmp_ge 16 dX5_hasRow_9 (by decide) (fun kcz2 => ?_) (fun kcz2 => ?_)
    · refine J_iconst (v := nI 0) dX5_hasRow_16 (by decide) ?_
      exact J_zretB (b := false) dX5_hasRow_17 rfl rfl rfl (hq _ (by show bI false = bI (rng v n); simp [rng, rngI, kcz1, kcz2]))
    · refine J_iconst (v := nI 1) dX5_hasRow_12 (by decide) ?_
      refine J_goto 17 dX5_hasRow_13 (by decide) ?_
      exact J_zretB (b := true) dX5_hasRow_17 rfl rfl rfl (hq _ (by show bI true = bI (rng v n); simp [rng, rngI, kcz1, kcz2]))
theorem c_X5_hasRow0 {G : GT} (r : Nat → Nat) (s : St) (l : Nat → Int64) (n : Nat) (hn : s 52 0 = nI n) (v : Int32) : Ct G yX5_hasRow cX5_hasRow 2 (some .boolean) 0 0 0 [.ref (r 3), .int v] (cW G r s l) (Is (some (.int (bI (rng v n)))) (cW G r s l)) := Ct.of rfl (Nat.le_of_ble_eq_true rfl) (j_X5_hasRow0 r s l n hn v (fun _ e => by subst e; exact Is.rf _ _))
set_option maxRecDepth 100000 in
set_option maxHeartbeats 1000000 in
theorem j_X5_signAt0 {G : GT} (r : Nat → Nat) (s : St) (l : Nat → Int64) (B : Nat → Int32) (len : Nat) (hlen : s 51 0 = nI len) (hl59 : len ≤ 59) (hB : ∀ p, p < len → s 20 p = B (60 * 0 + p)) (p : Nat) (hp : p < 2 ^ 30) {Q : Option Value → va_W → Prop} (hq : ∀ v_ : Int32, v_ = bA B 0 len p → Q (some (.int v_)) (cW G r s l)) : J G "signAt" RX5 cX5_signAt 2 (some .int) 0 0 1 Q 0 0 0 [(0, .ref (r 3)), (1, .int (nI p))] [] (cW G r s l) := by
  refine J_iload_n dX5_signAt_0 rfl rfl ?_
  refine J_aload_n dX5_signAt_1 rfl rfl ?_
  refine Cg_3_3 (s := s) fr_X5_15_2 (s 51 0) rfl dX5_signAt_2 ?_
  refine J_rw (y := nI len) hlen ?_
  refine J_cNi [.int (nI p), .int (nI len)] mn_X5_31 (c_X11_isBelowN (cW G r s l) (nI p) len) rfl rfl (by decide) (Nat.le_of_ble_eq_true rfl) ⟨Nat.le_refl _, Nat.le_refl _⟩ dX5_signAt_5 ?_
  refine J_rw (y := bI (decide (p < len))) (congrArg bI (rng_nI (by omega) (by omega))) ?_
  refine J_if_eqB 29 dX5_signAt_8 (by decide) (fun kcz1 => ?_) (fun kcz1 => ?_)
  · refine J_iconst (v := -1) dX5_signAt_29 (by decide) ?_
    exact J_iret dX5_signAt_30 rfl rfl rfl (hq _ (by rw [bA, if_neg (by first | exact of_decide_eq_false kcz1 | (have := of_decide_eq_true kcz1; omega))]))
  · refine J_iload_n dX5_signAt_11 rfl rfl ?_
    refine J_aload_n dX5_signAt_12 rfl rfl ?_
    refine Cg_3_0 fr_X5_9_2 dX5_signAt_13 ?_
    refine Cn_20 dX5_signAt_16 ?_
    refine J_icmp_geN 29 (by omega) (by omega) dX5_signAt_17 (by decide) (fun kcz2 => ?_) (fun kcz2 => ?_)
    · refine J_iconst (v := -1) dX5_signAt_29 (by decide) ?_
      exact J_iret dX5_signAt_30 rfl rfl rfl (hq _ (by rw [bA, if_neg (by first | exact of_decide_eq_false kcz1 | (have := of_decide_eq_true kcz1; omega))]))
    · refine J_aload_n dX5_signAt_20 rfl rfl ?_
      refine Cg_3_0 fr_X5_9_2 dX5_signAt_21 ?_
      refine J_iload_n dX5_signAt_24 rfl rfl ?_
      refine Cl_20 (s := s) (s 20) rfl p rfl (by have := of_decide_eq_true kcz1; omega) dX5_signAt_25 ?_
      refine J_goto 30 dX5_signAt_26 (by decide) ?_
      exact J_iret dX5_signAt_30 rfl rfl rfl (hq _ (by have hq9 := of_decide_eq_true kcz1; rw [hB p hq9, bA, if_pos hq9]))
theorem c_X5_signAt0 {G : GT} (r : Nat → Nat) (s : St) (l : Nat → Int64) (B : Nat → Int32) (len : Nat) (hlen : s 51 0 = nI len) (hl59 : len ≤ 59) (hB : ∀ p, p < len → s 20 p = B (60 * 0 + p)) (p : Nat) (hp : p < 2 ^ 30) : Ct G yX5_signAt cX5_signAt 2 (some .int) 0 0 1 [.ref (r 3), .int (nI p)] (cW G r s l) (Is (some (.int (bA B 0 len p))) (cW G r s l)) := Ct.of rfl (Nat.le_of_ble_eq_true rfl) (j_X5_signAt0 r s l B len hlen hl59 hB p hp (fun _ e => by subst e; exact Is.rf _ _))
set_option maxRecDepth 100000 in
set_option maxHeartbeats 1000000 in
theorem j_X5_isBetween0 {G : GT} (r : Nat → Nat) (s : St) (l : Nat → Int64) (B : Nat → Int32) (len : Nat) (hlen : s 51 0 = nI len) (hl59 : len ≤ 59) (hB : ∀ p, p < len → s 20 p = B (60 * 0 + p)) (p : Nat) (hp : p < 2 ^ 30) (lo hi : Int32) {Q : Option Value → va_W → Prop} (hq : ∀ v_ : Int32, v_ = bI (inI (bA B 0 len p) lo hi) → Q (some (.int v_)) (cW G r s l)) : J G "isBetween" RX5 cX5_isBetween 5 (some .boolean) 0 0 2 Q 0 0 0 [(0, .ref (r 3)), (1, .int (nI p)), (2, .int lo), (3, .int hi)] [] (cW G r s l) := by
  refine J_aload_n dX5_isBetween_0 rfl rfl ?_
  refine J_iload_n dX5_isBetween_1 rfl rfl ?_
  refine J_cUi [.int (nI p)] 3 mu_X5_38_2 (c_X5_signAt0 r s l B len hlen hl59 hB p (by omega)) cW_3 rfl rfl (by decide) (Nat.le_of_ble_eq_true rfl) ⟨Nat.le_refl _, Nat.le_refl _⟩ dX5_isBetween_2 ?_
  refine J_istore [(0, .ref (r 3)), (1, .int (nI p)), (2, .int lo), (3, .int hi), (4, .int (bA B 0 len p))] dX5_isBetween_5 (by decide) rfl rfl rfl ?_
  refine J_iload dX5_isBetween_7 rfl ?_
  refine J_iload_n dX5_isBetween_9 rfl rfl ?_
  refine J_icmp_lt 23 dX5_isBetween_10 (by decide) (fun kcz1 => ?_) (fun kcz1 => ?_)
  · refine J_iconst (v := nI 0) dX5_isBetween_23 (by decide) ?_
    exact J_zretB (b := false) dX5_isBetween_24 rfl rfl rfl (hq _ (by show bI false = bI (inI (bA B 0 len p) lo hi); simp [inI, kcz1]))
  · refine J_iload dX5_isBetween_13 rfl ?_
    refine J_iload_n dX5_isBetween_15 rfl rfl ?_
    refine J_icmp_gt 23 dX5_isBetween_16 (by decide) (fun kcz2 => ?_) (fun kcz2 => ?_)
    · refine J_iconst (v := nI 0) dX5_isBetween_23 (by decide) ?_
      exact J_zretB (b := false) dX5_isBetween_24 rfl rfl rfl (hq _ (by show bI false = bI (inI (bA B 0 len p) lo hi); simp [inI, kcz1, kcz2]))
    · refine J_iconst (v := nI 1) dX5_isBetween_19 (by decide) ?_
      refine J_goto 24 dX5_isBetween_20 (by decide) ?_
      exact J_zretB (b := true) dX5_isBetween_24 rfl rfl rfl (hq _ (by show bI true = bI (inI (bA B 0 len p) lo hi); simp [inI, kcz1, kcz2]))
theorem c_X5_isBetween0 {G : GT} (r : Nat → Nat) (s : St) (l : Nat → Int64) (B : Nat → Int32) (len : Nat) (hlen : s 51 0 = nI len) (hl59 : len ≤ 59) (hB : ∀ p, p < len → s 20 p = B (60 * 0 + p)) (p : Nat) (hp : p < 2 ^ 30) (lo hi : Int32) : Ct G yX5_isBetween cX5_isBetween 5 (some .boolean) 0 0 2 [.ref (r 3), .int (nI p), .int lo, .int hi] (cW G r s l) (Is (some (.int (bI (inI (bA B 0 len p) lo hi)))) (cW G r s l)) := Ct.of rfl (Nat.le_of_ble_eq_true rfl) (j_X5_isBetween0 r s l B len hlen hl59 hB p hp lo hi (fun _ e => by subst e; exact Is.rf _ _))
set_option maxRecDepth 100000 in
set_option maxHeartbeats 1000000 in
theorem j_X5_hasRow1 {G : GT} (r : Nat → Nat) (s : St) (l : Nat → Int64) (n : Nat) (hn : s 55 0 = nI n) (v : Int32) {Q : Option Value → va_W → Prop} (hq : ∀ v_ : Int32, v_ = bI (rng v n) → Q (some (.int v_)) (cW G r s l)) : J G "hasRow" RX5 cX5_hasRow 2 (some .boolean) 0 0 0 Q 0 0 0 [(0, .ref (r 4)), (1, .int v)] [] (cW G r s l) := by
  refine J_iload_n dX5_hasRow_0 rfl rfl ?_
  refine J_if_lt 16 dX5_hasRow_1 (by decide) (fun kcz1 => ?_) (fun kcz1 => ?_)
  · refine J_iconst (v := nI 0) dX5_hasRow_16 (by decide) ?_
    exact J_zretB (b := false) dX5_hasRow_17 rfl rfl rfl (hq _ (by show bI false = bI (rng v n); simp [rng, rngI, kcz1]))
  · refine J_iload_n dX5_hasRow_4 rfl rfl ?_
    refine J_aload_n dX5_hasRow_5 rfl rfl ?_
    refine Cg_4_4 (s := s) fr_X5_19_3 (s 55 0) rfl dX5_hasRow_6 ?_
    refine J_rw (y := nI n) hn ?_
    refine J_icmp_ge 16 dX5_hasRow_9 (by decide) (fun kcz2 => ?_) (fun kcz2 => ?_)
    · refine J_iconst (v := nI 0) dX5_hasRow_16 (by decide) ?_
      exact J_zretB (b := false) dX5_hasRow_17 rfl rfl rfl (hq _ (by show bI false = bI (rng v n); simp [rng, rngI, kcz1, kcz2]))
    · refine J_iconst (v := nI 1) dX5_hasRow_12 (by decide) ?_
      refine J_goto 17 dX5_hasRow_13 (by decide) ?_
      exact J_zretB (b := true) dX5_hasRow_17 rfl rfl rfl (hq _ (by show bI true = bI (rng v n); simp [rng, rngI, kcz1, kcz2]))
theorem c_X5_hasRow1 {G : GT} (r : Nat → Nat) (s : St) (l : Nat → Int64) (n : Nat) (hn : s 55 0 = nI n) (v : Int32) : Ct G yX5_hasRow cX5_hasRow 2 (some .boolean) 0 0 0 [.ref (r 4), .int v] (cW G r s l) (Is (some (.int (bI (rng v n)))) (cW G r s l)) := Ct.of rfl (Nat.le_of_ble_eq_true rfl) (j_X5_hasRow1 r s l n hn v (fun _ e => by subst e; exact Is.rf _ _))
set_option maxRecDepth 100000 in
set_option maxHeartbeats 1000000 in
theorem j_X5_signAt1 {G : GT} (r : Nat → Nat) (s : St) (l : Nat → Int64) (B : Nat → Int32) (len : Nat) (hlen : s 54 0 = nI len) (hl59 : len ≤ 59) (hB : ∀ p, p < len → s 27 p = B (60 * 1 + p)) (p : Nat) (hp : p < 2 ^ 30) {Q : Option Value → va_W → Prop} (hq : ∀ v_ : Int32, v_ = bA B 1 len p → Q (some (.int v_)) (cW G r s l)) : J G "signAt" RX5 cX5_signAt 2 (some .int) 0 0 1 Q 0 0 0 [(0, .ref (r 4)), (1, .int (nI p))] [] (cW G r s l) := by
  refine J_iload_n dX5_signAt_0 rfl rfl ?_
  refine J_aload_n dX5_signAt_1 rfl rfl ?_
  refine Cg_4_3 (s := s) fr_X5_15_3 (s 54 0) rfl dX5_signAt_2 ?_
  refine J_rw (y := nI len) hlen ?_
  refine J_cNi [.int (nI p), .int (nI len)] mn_X5_31 (c_X11_isBelowN (cW G r s l) (nI p) len) rfl rfl (by decide) (Nat.le_of_ble_eq_true rfl) ⟨Nat.le_refl _, Nat.le_refl _⟩ dX5_signAt_5 ?_
  refine J_rw (y := bI (decide (p < len))) (congrArg bI (rng_nI (by omega) (by omega))) ?_
  refine J_if_eqB 29 dX5_signAt_8 (by decide) (fun kcz1 => ?_) (fun kcz1 => ?_)
  · refine J_iconst (v := -1) dX5_signAt_29 (by decide) ?_
    exact J_iret dX5_signAt_30 rfl rfl rfl (hq _ (by rw [bA, if_neg (by first | exact of_decide_eq_false kcz1 | (have := of_decide_eq_true kcz1; omega))]))
  · refine J_iload_n dX5_signAt_11 rfl rfl ?_
    refine J_aload_n dX5_signAt_12 rfl rfl ?_
    refine Cg_4_0 fr_X5_9_3 dX5_signAt_13 ?_
    refine Cn_27 dX5_signAt_16 ?_
    refine J_icmp_geN 29 (by omega) (by omega) dX5_signAt_17 (by decide) (fun kcz2 => ?_) (fun kcz2 => ?_)
    · refine J_iconst (v := -1) dX5_signAt_29 (by decide) ?_
      exact J_iret dX5_signAt_30 rfl rfl rfl (hq _ (by rw [bA, if_neg (by first | exact of_decide_eq_false kcz1 | (have := of_decide_eq_true kcz1; omega))]))
    · refine J_aload_n dX5_signAt_20 rfl rfl ?_
      refine Cg_4_0 fr_X5_9_3 dX5_signAt_21 ?_
      refine J_iload_n dX5_signAt_24 rfl rfl ?_
      refine Cl_27 (s := s) (s 27) rfl p rfl (by have := of_decide_eq_true kcz1; omega) dX5_signAt_25 ?_
      refine J_goto 30 dX5_signAt_26 (by decide) ?_
      exact J_iret dX5_signAt_30 rfl rfl rfl (hq _ (by have hq9 := of_decide_eq_true kcz1; rw [hB p hq9, bA, if_pos hq9]))
theorem c_X5_signAt1 {G : GT} (r : Nat → Nat) (s : St) (l : Nat → Int64) (B : Nat → Int32) (len : Nat) (hlen : s 54 0 = nI len) (hl59 : len ≤ 59) (hB : ∀ p, p < len → s 27 p = B (60 * 1 + p)) (p : Nat) (hp : p < 2 ^ 30) : Ct G yX5_signAt cX5_signAt 2 (some .int) 0 0 1 [.ref (r 4), .int (nI p)] (cW G r s l) (Is (some (.int (bA B 1 len p))) (cW G r s l)) := Ct.of rfl (Nat.le_of_ble_eq_true rfl) (j_X5_signAt1 r s l B len hlen hl59 hB p hp (fun _ e => by subst e; exact Is.rf _ _))
set_option maxRecDepth 100000 in
set_option maxHeartbeats 1000000 in
theorem j_X5_isBetween1 {G : GT} (r : Nat → Nat) (s : St) (l : Nat → Int64) (B : Nat → Int32) (len : Nat) (hlen : s 54 0 = nI len) (hl59 : len ≤ 59) (hB : ∀ p, p < len → s 27 p = B (60 * 1 + p)) (p : Nat) (hp : p < 2 ^ 30) (lo hi : Int32) {Q : Option Value → va_W → Prop} (hq : ∀ v_ : Int32, v_ = bI (inI (bA B 1 len p) lo hi) → Q (some (.int v_)) (cW G r s l)) : J G "isBetween" RX5 cX5_isBetween 5 (some .boolean) 0 0 2 Q 0 0 0 [(0, .ref (r 4)), (1, .int (nI p)), (2, .int lo), (3, .int hi)] [] (cW G r s l) := by
  refine J_aload_n dX5_isBetween_0 rfl rfl ?_
  refine J_iload_n dX5_isBetween_1 rfl rfl ?_
  refine J_cUi [.int (nI p)] 4 mu_X5_38_3 (c_X5_signAt1 r s l B len hlen hl59 hB p (by omega)) cW_4 rfl rfl (by decide) (Nat.le_of_ble_eq_true rfl) ⟨Nat.le_refl _, Nat.le_refl _⟩ dX5_isBetween_2 ?_
  refine J_istore [(0, .ref (r 4)), (1, .int (nI p)), (2, .int lo), (3, .int hi), (4, .int (bA B 1 len p))] dX5_isBetween_5 (by decide) rfl rfl rfl ?_
  refine J_iload dX5_isBetween_7 rfl ?_
  refine J_iload_n dX5_isBetween_9 rfl rfl ?_
  refine J_icmp_lt 23 dX5_isBetween_10 (by decide) (fun kcz1 => ?_) (fun kcz1 => ?_)
  · refine J_iconst (v := nI 0) dX5_isBetween_23 (by decide) ?_
    exact J_zretB (b := false) dX5_isBetween_24 rfl rfl rfl (hq _ (by show bI false = bI (inI (bA B 1 len p) lo hi); simp [inI, kcz1]))
  · refine J_iload dX5_isBetween_13 rfl ?_
    refine J_iload_n dX5_isBetween_15 rfl rfl ?_
    refine J_icmp_gt 23 dX5_isBetween_16 (by decide) (fun kcz2 => ?_) (fun kcz2 => ?_)
    · refine J_iconst (v := nI 0) dX5_isBetween_23 (by decide) ?_
      exact J_zretB (b := false) dX5_isBetween_24 rfl rfl rfl (hq _ (by show bI false = bI (inI (bA B 1 len p) lo hi); simp [inI, kcz1, kcz2]))
    · refine J_iconst (v := nI 1) dX5_isBetween_19 (by decide) ?_
      refine J_goto 24 dX5_isBetween_20 (by decide) ?_
      exact J_zretB (b := true) dX5_isBetween_24 rfl rfl rfl (hq _ (by show bI true = bI (inI (bA B 1 len p) lo hi); simp [inI, kcz1, kcz2]))
theorem c_X5_isBetween1 {G : GT} (r : Nat → Nat) (s : St) (l : Nat → Int64) (B : Nat → Int32) (len : Nat) (hlen : s 54 0 = nI len) (hl59 : len ≤ 59) (hB : ∀ p, p < len → s 27 p = B (60 * 1 + p)) (p : Nat) (hp : p < 2 ^ 30) (lo hi : Int32) : Ct G yX5_isBetween cX5_isBetween 5 (some .boolean) 0 0 2 [.ref (r 4), .int (nI p), .int lo, .int hi] (cW G r s l) (Is (some (.int (bI (inI (bA B 1 len p) lo hi)))) (cW G r s l)) := Ct.of rfl (Nat.le_of_ble_eq_true rfl) (j_X5_isBetween1 r s l B len hlen hl59 hB p hp lo hi (fun _ e => by subst e; exact Is.rf _ _))
set_option maxRecDepth 100000 in
set_option maxHeartbeats 1000000 in
theorem j_X5_hasRow2 {G : GT} (r : Nat → Nat) (s : St) (l : Nat → Int64) (n : Nat) (hn : s 58 0 = nI n) (v : Int32) {Q : Option Value → va_W → Prop} (hq : ∀ v_ : Int32, v_ = bI (rng v n) → Q (some (.int v_)) (cW G r s l)) : J G "hasRow" RX5 cX5_hasRow 2 (some .boolean) 0 0 0 Q 0 0 0 [(0, .ref (r 5)), (1, .int v)] [] (cW G r s l) := by
  refine J_iload_n dX5_hasRow_0 rfl rfl ?_
  refine J_if_lt 16 dX5_hasRow_1 (by decide) (fun kcz1 => ?_) (fun kcz1 => ?_)
  · refine J_iconst (v := nI 0) dX5_hasRow_16 (by decide) ?_
    exact J_zretB (b := false) dX5_hasRow_17 rfl rfl rfl (hq _ (by show bI false = bI (rng v n); simp [rng, rngI, kcz1]))
  · refine J_iload_n dX5_hasRow_4 rfl rfl ?_
    refine J_aload_n dX5_hasRow_5 rfl rfl ?_
    refine Cg_5_4 (s := s) fr_X5_19_0 (s 58 0) rfl dX5_hasRow_6 ?_
    refine J_rw (y := nI n) hn ?_
    refine J_icmp_ge 16 dX5_hasRow_9 (by decide) (fun kcz2 => ?_) (fun kcz2 => ?_)
    · refine J_iconst (v := nI 0) dX5_hasRow_16 (by decide) ?_
      exact J_zretB (b := false) dX5_hasRow_17 rfl rfl rfl (hq _ (by show bI false = bI (rng v n); simp [rng, rngI, kcz1, kcz2]))
    · refine J_iconst (v := nI 1) dX5_hasRow_12 (by decide) ?_
      refine J_goto 17 dX5_hasRow_13 (by decide) ?_
      exact J_zretB (b := true) dX5_hasRow_17 rfl rfl rfl (hq _ (by show bI true = bI (rng v n); simp [rng, rngI, kcz1, kcz2]))
theorem c_X5_hasRow2 {G : GT} (r : Nat → Nat) (s : St) (l : Nat → Int64) (n : Nat) (hn : s 58 0 = nI n) (v : Int32) : Ct G yX5_hasRow cX5_hasRow 2 (some .boolean) 0 0 0 [.ref (r 5), .int v] (cW G r s l) (Is (some (.int (bI (rng v n)))) (cW G r s l)) := Ct.of rfl (Nat.le_of_ble_eq_true rfl) (j_X5_hasRow2 r s l n hn v (fun _ e => by subst e; exact Is.rf _ _))
set_option maxRecDepth 100000 in
set_option maxHeartbeats 1000000 in
theorem j_X5_signAt2 {G : GT} (r : Nat → Nat) (s : St) (l : Nat → Int64) (B : Nat → Int32) (len : Nat) (hlen : s 57 0 = nI len) (hl59 : len ≤ 59) (hB : ∀ p, p < len → s 32 p = B (60 * 2 + p)) (p : Nat) (hp : p < 2 ^ 30) {Q : Option Value → va_W → Prop} (hq : ∀ v_ : Int32, v_ = bA B 2 len p → Q (some (.int v_)) (cW G r s l)) : J G "signAt" RX5 cX5_signAt 2 (some .int) 0 0 1 Q 0 0 0 [(0, .ref (r 5)), (1, .int (nI p))] [] (cW G r s l) := by
  refine J_iload_n dX5_signAt_0 rfl rfl ?_
  refine J_aload_n dX5_signAt_1 rfl rfl ?_
  refine Cg_5_3 (s := s) fr_X5_15_0 (s 57 0) rfl dX5_signAt_2 ?_
  refine J_rw (y := nI len) hlen ?_
  refine J_cNi [.int (nI p), .int (nI len)] mn_X5_31 (c_X11_isBelowN (cW G r s l) (nI p) len) rfl rfl (by decide) (Nat.le_of_ble_eq_true rfl) ⟨Nat.le_refl _, Nat.le_refl _⟩ dX5_signAt_5 ?_
  refine J_rw (y := bI (decide (p < len))) (congrArg bI (rng_nI (by omega) (by omega))) ?_
  refine J_if_eqB 29 dX5_signAt_8 (by decide) (fun kcz1 => ?_) (fun kcz1 => ?_)
  · refine J_iconst (v := -1) dX5_signAt_29 (by decide) ?_
    exact J_iret dX5_signAt_30 rfl rfl rfl (hq _ (by rw [bA, if_neg (by first | exact of_decide_eq_false kcz1 | (have := of_decide_eq_true kcz1; omega))]))
  · refine J_iload_n dX5_signAt_11 rfl rfl ?_
    refine J_aload_n dX5_signAt_12 rfl rfl ?_
    refine Cg_5_0 fr_X5_9_0 dX5_signAt_13 ?_
    refine Cn_32 dX5_signAt_16 ?_
    refine J_icmp_geN 29 (by omega) (by omega) dX5_signAt_17 (by decide) (fun kcz2 => ?_) (fun kcz2 => ?_)
    · refine J_iconst (v := -1) dX5_signAt_29 (by decide) ?_
      exact J_iret dX5_signAt_30 rfl rfl rfl (hq _ (by rw [bA, if_neg (by first | exact of_decide_eq_false kcz1 | (have := of_decide_eq_true kcz1; omega))]))
    · refine J_aload_n dX5_signAt_20 rfl rfl ?_
      refine Cg_5_0 fr_X5_9_0 dX5_signAt_21 ?_
      refine J_iload_n dX5_signAt_24 rfl rfl ?_
      refine Cl_32 (s := s) (s 32) rfl p rfl (by have := of_decide_eq_true kcz1; omega) dX5_signAt_25 ?_
      refine J_goto 30 dX5_signAt_26 (by decide) ?_
      exact J_iret dX5_signAt_30 rfl rfl rfl (hq _ (by have hq9 := of_decide_eq_true kcz1; rw [hB p hq9, bA, if_pos hq9]))
theorem c_X5_signAt2 {G : GT} (r : Nat → Nat) (s : St) (l : Nat → Int64) (B : Nat → Int32) (len : Nat) (hlen : s 57 0 = nI len) (hl59 : len ≤ 59) (hB : ∀ p, p < len → s 32 p = B (60 * 2 + p)) (p : Nat) (hp : p < 2 ^ 30) : Ct G yX5_signAt cX5_signAt 2 (some .int) 0 0 1 [.ref (r 5), .int (nI p)] (cW G r s l) (Is (some (.int (bA B 2 len p))) (cW G r s l)) := Ct.of rfl (Nat.le_of_ble_eq_true rfl) (j_X5_signAt2 r s l B len hlen hl59 hB p hp (fun _ e => by subst e; exact Is.rf _ _))
set_option maxRecDepth 100000 in
set_option maxHeartbeats 1000000 in
theorem j_X5_isBetween2 {G : GT} (r : Nat → Nat) (s : St) (l : Nat → Int64) (B : Nat → Int32) (len : Nat) (hlen : s 57 0 = nI len) (hl59 : len ≤ 59) (hB : ∀ p, p < len → s 32 p = B (60 * 2 + p)) (p : Nat) (hp : p < 2 ^ 30) (lo hi : Int32) {Q : Option Value → va_W → Prop} (hq : ∀ v_ : Int32, v_ = bI (inI (bA B 2 len p) lo hi) → Q (some (.int v_)) (cW G r s l)) : J G "isBetween" RX5 cX5_isBetween 5 (some .boolean) 0 0 2 Q 0 0 0 [(0, .ref (r 5)), (1, .int (nI p)), (2, .int lo), (3, .int hi)] [] (cW G r s l) := by
  refine J_aload_n dX5_isBetween_0 rfl rfl ?_
  refine J_iload_n dX5_isBetween_1 rfl rfl ?_
  refine J_cUi [.int (nI p)] 5 mu_X5_38_0 (c_X5_signAt2 r s l B len hlen hl59 hB p (by omega)) cW_5 rfl rfl (by decide) (Nat.le_of_ble_eq_true rfl) ⟨Nat.le_refl _, Nat.le_refl _⟩ dX5_isBetween_2 ?_
  refine J_istore [(0, .ref (r 5)), (1, .int (nI p)), (2, .int lo), (3, .int hi), (4, .int (bA B 2 len p))] dX5_isBetween_5 (by decide) rfl rfl rfl ?_
  refine J_iload dX5_isBetween_7 rfl ?_
  refine J_iload_n dX5_isBetween_9 rfl rfl ?_
  refine J_icmp_lt 23 dX5_isBetween_10 (by decide) (fun kcz1 => ?_) (fun kcz1 => ?_)
  · refine J_iconst (v := nI 0) dX5_isBetween_23 (by decide) ?_
    exact J_zretB (b := false) dX5_isBetween_24 rfl rfl rfl (hq _ (by show bI false = bI (inI (bA B 2 len p) lo hi); simp [inI, kcz1]))
  · refine J_iload dX5_isBetween_13 rfl ?_
    refine J_iload_n dX5_isBetween_15 rfl rfl ?_
    refine J_icmp_gt 23 dX5_isBetween_16 (by decide) (fun kcz2 => ?_) (fun kcz2 => ?_)
    · refine J_iconst (v := nI 0) dX5_isBetween_23 (by decide) ?_
      exact J_zretB (b := false) dX5_isBetween_24 rfl rfl rfl (hq _ (by show bI false = bI (inI (bA B 2 len p) lo hi); simp [inI, kcz1, kcz2]))
    · refine J_iconst (v := nI 1) dX5_isBetween_19 (by decide) ?_
      refine J_goto 24 dX5_isBetween_20 (by decide) ?_
      exact J_zretB (b := true) dX5_isBetween_24 rfl rfl rfl (hq _ (by show bI true = bI (inI (bA B 2 len p) lo hi); simp [inI, kcz1, kcz2]))
theorem c_X5_isBetween2 {G : GT} (r : Nat → Nat) (s : St) (l : Nat → Int64) (B : Nat → Int32) (len : Nat) (hlen : s 57 0 = nI len) (hl59 : len ≤ 59) (hB : ∀ p, p < len → s 32 p = B (60 * 2 + p)) (p : Nat) (hp : p < 2 ^ 30) (lo hi : Int32) : Ct G yX5_isBetween cX5_isBetween 5 (some .boolean) 0 0 2 [.ref (r 5), .int (nI p), .int lo, .int hi] (cW G r s l) (Is (some (.int (bI (inI (bA B 2 len p) lo hi)))) (cW G r s l)) := Ct.of rfl (Nat.le_of_ble_eq_true rfl) (j_X5_isBetween2 r s l B len hlen hl59 hB p hp lo hi (fun _ e => by subst e; exact Is.rf _ _))
set_option maxRecDepth 100000 in
set_option maxHeartbeats 1000000 in
theorem j_X2_bitsOfHours {G : GT} (ws : va_W) (h0 k : Nat) (hf : h0 < 24) (hk : k ≤ 24) {Q : Option Value → va_W → Prop} (hq : ∀ v_ : Int32, v_ = nI (boh h0 k) → Q (some (.int v_)) ws) : J G "bitsOfHours" RX2 cX2_bitsOfHours 4 (some .int) 0 0 0 Q 0 0 0 [(0, .int (nI h0)), (1, .int (nI k))] [] ws := by
  refine J_iconst (v := nI 0) dX2_bitsOfHours_0 (by decide) ?_
  refine J_istore_n [(0, .int (nI h0)), (1, .int (nI k)), (2, .int (nI 0))] dX2_bitsOfHours_1 rfl (by decide) rfl rfl rfl ?_
  refine J_iconst (v := nI 0) dX2_bitsOfHours_2 (by decide) ?_
  refine J_istore_n [(0, .int (nI h0)), (1, .int (nI k)), (2, .int (nI 0)), (3, .int (nI 0))] dX2_bitsOfHours_3 rfl (by decide) rfl rfl rfl ?_
  have L4 : ∀ (f i : Nat), k - i < f → i ≤ k → ∀ (x2 : Int32) (x3 : Int32), x2 = nI (boh h0 i) → x3 = nI i → J G "bitsOfHours" RX2 cX2_bitsOfHours 4 (some .int) 0 0 0 Q 0 0 4 [(0, .int (nI h0)), (1, .int (nI k)), (2, .int x2), (3, .int x3)] [] ws := by
    intro f
    induction f with
    | zero => intro i h; exact absurd h (Nat.not_lt_zero _)
    | succ f ih4 =>
      intro i hf4 hle4  x2 x3 e2 e3
      subst e2
      subst e3
      refine J_iload_n dX2_bitsOfHours_4 rfl rfl ?_
      refine J_iload_n dX2_bitsOfHours_5 rfl rfl ?_
      refine J_icmp_geN 32 (by omega) (by omega) dX2_bitsOfHours_6 (by decide) (fun kcz1 => ?_) (fun kcz1 => ?_)
      · refine J_iload_n dX2_bitsOfHours_32 rfl rfl ?_
        exact J_iret dX2_bitsOfHours_33 rfl rfl rfl (hq _ (by have e_ : i = k := (by omega); subst e_; rfl))
      · refine J_iload_n dX2_bitsOfHours_9 rfl rfl ?_
        refine J_bipush (v := nI 24) dX2_bitsOfHours_10 (by decide) ?_
        refine J_icmp_geN 32 (by omega) (by omega) dX2_bitsOfHours_12 (by decide) (fun kcz2 => ?_) (fun kcz2 => ?_)
        · refine J_iload_n dX2_bitsOfHours_32 rfl rfl ?_
          exact J_iret dX2_bitsOfHours_33 rfl rfl rfl (hq _ (by have e_ : i = k := (by omega); subst e_; rfl))
        · refine J_iload_n dX2_bitsOfHours_15 rfl rfl ?_
          refine J_iconst (v := nI 1) dX2_bitsOfHours_16 (by decide) ?_
          refine J_iload_n dX2_bitsOfHours_17 rfl rfl ?_
          refine J_iload_n dX2_bitsOfHours_18 rfl rfl ?_
          refine J_iaddN dX2_bitsOfHours_19 ?_
          refine J_bipush (v := nI 24) dX2_bitsOfHours_20 (by decide) ?_
          refine J_irem dX2_bitsOfHours_22 (by decide) ?_
          refine J_rw (y := nI ((h0 + i) % 24)) (pk_rem (by omega) (by decide) (by decide)) ?_
          refine J_shl1N dX2_bitsOfHours_23 (by have := Nat.mod_lt (h0 + i) (show 0 < 24 by decide); omega) ?_
          refine J_iorN dX2_bitsOfHours_24 ?_
          refine J_istore_n [(0, .int (nI h0)), (1, .int (nI k)), (2, .int (nI ((boh h0 i) ||| (2 ^ ((h0 + i) % 24))))), (3, .int (nI i))] dX2_bitsOfHours_25 rfl (by decide) rfl rfl rfl ?_
          refine J_iincN [(0, .int (nI h0)), (1, .int (nI k)), (2, .int (nI ((boh h0 i) ||| (2 ^ ((h0 + i) % 24))))), (3, .int (nI (i + 1)))] dX2_bitsOfHours_26 rfl (by decide) rfl rfl rfl ?_
          refine J_goto 4 dX2_bitsOfHours_29 (by decide) ?_
          exact ih4 (i + 1) (by omega) (by omega)  _ _ rfl rfl
  exact L4 (k + 1) 0 (by omega) (by omega)  _ _ rfl rfl
theorem c_X2_bitsOfHours {G : GT} (ws : va_W) (h0 k : Nat) (hf : h0 < 24) (hk : k ≤ 24) : Ct G yX2_bitsOfHours cX2_bitsOfHours 4 (some .int) 0 0 0 [.int (nI h0), .int (nI k)] ws (Is (some (.int (nI (boh h0 k)))) ws) := Ct.of rfl (Nat.le_of_ble_eq_true rfl) (j_X2_bitsOfHours ws h0 k hf hk (fun _ e => by subst e; exact Is.rf _ _))
