def CCr (c : Nat) (Cl : Nat → Int32) (s : St) : Prop := ∀ k, k < c → s 33 k = Cl (4 * k) ∧ s 34 k = Cl (4 * k + 1) ∧ s 35 k = Cl (4 * k + 2) ∧ s 36 k = Cl (4 * k + 3) ∧ (Cl (4 * k + 3) = -1 ∨ ∃ j, j < 8 ∧ Cl (4 * k + 3) = nI j)
theorem bI_n1 : bI true = nI 1 := rfl
theorem bI_n0 : ¬ bI false = nI 1 := by decide
theorem m1e : ¬ (-1 : Int32) = nI 1 := by decide
theorem m1f {E : Nat} (h : E < 6) : ¬ (-1 : Int32) = nI E := m1_ne (by omega)
def rfB (rf : Nat) (Rf : Nat → Int32) (w : Int32) (more q : Nat) : Nat := rbB Rf q rf ||| (if ¬ nI q = w then 0 else more)
def hdM (Cl wi : Nat → Int32) (k : Nat) : Bool := decide (Cl (4 * k + 3) = -1) || !decide (wi (Cl (4 * k + 3)).toNatClampNeg = -1)
theorem band_f {a b : Bool} (h : ¬ (a = true ∧ b = true)) : (a && b) = false := by cases a <;> cases b <;> simp_all
theorem rbB_lt {rf : Nat} {Rf : Nat → Int32} {s : St} (h : CRr rf Rf s) (q : Nat) : ∀ k, k ≤ rf → rbB Rf q k < 2 ^ 8
  | 0, _ => by rw [rbB]; decide
  | k + 1, hk => by
    rw [rbB]
    split
    · obtain ⟨j, hj, e⟩ := (h k (by omega)).2.2.2
      refine Nat.or_lt_two_pow (rbB_lt h q k (by omega)) ?_
      rw [e, nI_clamp (by omega)]
      exact Nat.pow_lt_pow_right (by decide) hj
    · exact rbB_lt h q k (by omega)
theorem rfB_lt {rf : Nat} {Rf : Nat → Int32} {s : St} (h : CRr rf Rf s) {w : Int32} {more : Nat} (hm : more < 256) (q : Nat) : rfB rf Rf w more q < 256 := by
  unfold rfB
  refine Nat.or_lt_two_pow (n := 8) (rbB_lt h q rf (Nat.le_refl _)) ?_
  split
  · decide
  · exact hm
theorem rbB_test {rf : Nat} {Rf : Nat → Int32} {s : St} (h : CRr rf Rf s) {q j : Nat} (hj : j < 2 ^ 31) : ∀ k, k ≤ rf → (rbB Rf q k).testBit j = anyB (fun k => decide (Rf (2 * k) = nI q) && decide (Rf (2 * k + 1) = nI j)) k
  | 0, _ => Nat.zero_testBit j
  | k + 1, hk => by
    rw [rbB, anyB, ← rbB_test h hj k (by omega)]
    obtain ⟨i, hi, e⟩ := (h k (by omega)).2.2.2
    by_cases hq : Rf (2 * k) = nI q
    · rw [if_pos hq, decide_eq_true hq, e, nI_clamp (by omega), fb_bit_set, Bool.true_and]
      congr 1
      exact decide_eq_decide.mpr ⟨fun q => by rw [q], fun q => ((nI_eq (by omega) hj).mp q).symm⟩
    · rw [if_neg hq, decide_eq_false hq, Bool.false_and, Bool.or_false]
theorem rfB_at {rf : Nat} {Rf : Nat → Int32} {s : St} (h : CRr rf Rf s) {w : Int32} {more q j : Nat} (hj : j < 2 ^ 31) : (rfB rf Rf w more q).testBit j = rfsM rf Rf w more q j := by
  unfold rfB rfsM
  rw [Nat.testBit_or, rbB_test h hj rf (Nat.le_refl _), Bool.or_comm]
  congr 1
  by_cases e : nI q = w
  · rw [if_neg (fun q => q e), decide_eq_true e, Bool.true_and]
  · rw [if_pos e, decide_eq_false e, Bool.false_and, Nat.zero_testBit]
theorem cmV_rf {RF RF' : Nat → Nat → Bool} {wi : Nat → Int32} {h q : Nat} {how : Int32} (e : RF q h = RF' q h) : cmV RF wi h how q = cmV RF' wi h how q := by unfold cmV; rw [e]
theorem cmV_b {RF : Nat → Nat → Bool} {wi : Nat → Int32} {h q : Nat} {x : Int32} : cmV RF wi h (bI (decide (x = nI 1))) q = cmV RF wi h x q := by
  unfold cmV
  by_cases e : x = nI 1
  · rw [decide_eq_true e, if_pos bI_n1, if_pos e]
  · rw [decide_eq_false e, if_neg bI_n0, if_neg e]
theorem cmV_how {RF : Nat → Nat → Bool} {wi : Nat → Int32} {h q x : Nat} : cmV RF wi h (nI (1 - x % 2)) q = cmV RF wi h (bI (decide (x % 2 = 0))) q := by
  rcases (show x % 2 = 0 ∨ x % 2 = 1 by omega) with e | e
  · rw [e]; rfl
  · rw [e]; rfl
theorem wl_nohd {n m : Nat} {Cl : Nat → Int32} {RF : Nat → Nat → Bool} {k : Nat} (h : hdM Cl (wlF n m Cl RF k).1 k = false) : wlF n m Cl RF (k + 1) = wlF n m Cl RF k := by
  refine wlF_no ?_
  unfold mayM; unfold hdM at h
  rw [h, Bool.and_false, Bool.and_false]
theorem wl_noin {n m : Nat} {Cl : Nat → Int32} {RF : Nat → Nat → Bool} {k : Nat} (h : (rng (Cl (4 * k)) n && rng (Cl (4 * k + 2)) m) = false) : wlF n m Cl RF (k + 1) = wlF n m Cl RF k := by
  refine wlF_no ?_
  unfold mayM
  rw [← Bool.and_assoc, h, Bool.false_and]
theorem wl_step {n m rf : Nat} {Cl Rf : Nat → Int32} {s : St} {w : Int32} {more k H E : Nat} (hRf : CRr rf Rf s) (hn8 : n ≤ 8) (hm6 : m ≤ 6) (eH : Cl (4 * k) = nI H) (eE : Cl (4 * k + 2) = nI E) (hH : H < n) (hE : E < m) (hd : hdM Cl (wlF n m Cl (rfsM rf Rf w more) k).1 k = true) :
    wlF n m Cl (rfsM rf Rf w more) (k + 1) = (upd (wlF n m Cl (rfsM rf Rf w more) k).1 H (cmV (fun q h => (rfB rf Rf w more q).testBit h) (wlF n m Cl (rfsM rf Rf w more) k).1 H (bI (decide (Cl (4 * k + 1) = nI 1))) E), (wlF n m Cl (rfsM rf Rf w more) k).2 ||| (if cmV (fun q h => (rfB rf Rf w more q).testBit h) (wlF n m Cl (rfsM rf Rf w more) k).1 H (bI (decide (Cl (4 * k + 1) = nI 1))) E = (wlF n m Cl (rfsM rf Rf w more) k).1 H then 0 else 2 ^ k)) := by
  have hm : mayM n m Cl (wlF n m Cl (rfsM rf Rf w more) k).1 k = true := by
    unfold mayM; unfold hdM at hd
    rw [hd, eH, eE, rng_of hH (by omega), rng_of hE (by omega)]; rfl
  rw [wlF, if_pos hm, eH, eE, nI_clamp (by omega), nI_clamp (by omega), cmV_b, cmV_rf (RF := fun q h => (rfB rf Rf w more q).testBit h) (RF' := rfsM rf Rf w more) (rfB_at (q := E) (j := H) hRf (by omega))]

set_option maxRecDepth 100000 in
set_option maxHeartbeats 1000000 in
theorem j_X1_give {G : GT} (r : Nat → Nat) (s : St) (l : Nat → Int64) (h : Nat) (hh8 : h < 8) (v : Int32) {Q : Option Value → va_W → Prop} (hq : Q none (cW G r (su 39 s (upd (s 39) h v)) l)) : J G "give" RX1 cX1_give 3 none 0 0 0 Q 0 0 0 [(0, .ref (r 1)), (1, .int (nI h)), (2, .int v)] [] (cW G r s l) := by
  refine J_iload_n dX1_give_0 rfl rfl ?_
  refine J_if_lt 17 dX1_give_1 (by decide) (fun c => absurd c (cI_nlt (by omega))) (fun _ => ?_)
  refine J_iload_n dX1_give_4 rfl rfl ?_
  refine J_bipush (v := nI 8) dX1_give_5 (by decide) ?_
  refine J_icmp_geN 17 (by omega) (by omega) dX1_give_7 (by decide) (fun c => absurd c (by omega)) (fun _ => ?_)
  refine J_aload_n dX1_give_10 rfl rfl ?_
  refine Cg_1_3 fr_X1_32_1 dX1_give_11 ?_
  refine J_iload_n dX1_give_14 rfl rfl ?_
  refine J_iload_n dX1_give_15 rfl rfl ?_
  refine Cs_39 (s := s) (s 39) rfl h rfl (by omega) dX1_give_16 ?_
  exact J_vret dX1_give_17 rfl rfl rfl (hq)
theorem c_X1_give {G : GT} (r : Nat → Nat) (s : St) (l : Nat → Int64) (h : Nat) (hh8 : h < 8) (v : Int32) : Ct G yX1_give cX1_give 3 none 0 0 0 [.ref (r 1), .int (nI h), .int v] (cW G r s l) (Is none (cW G r (su 39 s (upd (s 39) h v)) l)) := Ct.of rfl (Nat.le_of_ble_eq_true rfl) (j_X1_give r s l h hh8 v (Is.rf _ _))
set_option maxRecDepth 100000 in
set_option maxHeartbeats 1000000 in
theorem j_X1_ownerOf {G : GT} (r : Nat → Nat) (s : St) (l : Nat → Int64) (h : Nat) (hh8 : h < 8) {Q : Option Value → va_W → Prop} (hq : ∀ v_ : Int32, v_ = s 39 h → Q (some (.int v_)) (cW G r s l)) : J G "ownerOf" RX1 cX1_ownerOf 2 (some .int) 0 0 0 Q 0 0 0 [(0, .ref (r 1)), (1, .int (nI h))] [] (cW G r s l) := by
  refine J_iload_n dX1_ownerOf_0 rfl rfl ?_
  refine J_if_lt 19 dX1_ownerOf_1 (by decide) (fun c => absurd c (cI_nlt (by omega))) (fun _ => ?_)
  refine J_iload_n dX1_ownerOf_4 rfl rfl ?_
  refine J_bipush (v := nI 8) dX1_ownerOf_5 (by decide) ?_
  refine J_icmp_geN 19 (by omega) (by omega) dX1_ownerOf_7 (by decide) (fun c => absurd c (by omega)) (fun _ => ?_)
  refine J_aload_n dX1_ownerOf_10 rfl rfl ?_
  refine Cg_1_3 fr_X1_32_1 dX1_ownerOf_11 ?_
  refine J_iload_n dX1_ownerOf_14 rfl rfl ?_
  refine Cl_39 (s := s) (s 39) rfl h rfl (by omega) dX1_ownerOf_15 ?_
  refine J_goto 20 dX1_ownerOf_16 (by decide) ?_
  exact J_iret dX1_ownerOf_20 rfl rfl rfl (hq _ rfl)
theorem c_X1_ownerOf {G : GT} (r : Nat → Nat) (s : St) (l : Nat → Int64) (h : Nat) (hh8 : h < 8) : Ct G yX1_ownerOf cX1_ownerOf 2 (some .int) 0 0 0 [.ref (r 1), .int (nI h)] (cW G r s l) (Is (some (.int (s 39 h))) (cW G r s l)) := Ct.of rfl (Nat.le_of_ble_eq_true rfl) (j_X1_ownerOf r s l h hh8 (fun _ e => by subst e; exact Is.rf _ _))
set_option maxRecDepth 100000 in
set_option maxHeartbeats 1000000 in
theorem j_X1_bitsOf {G : GT} (r : Nat → Nat) (s : St) (l : Nat → Int64) (n : Nat) (hn : s 52 0 = nI n) (hn8 : n ≤ 8) (q : Nat) {Q : Option Value → va_W → Prop} (hq : ∀ v_ : Int32, v_ = nI (hasM n (s 39) q) → Q (some (.int v_)) (cW G r s l)) : J G "bitsOf" RX1 cX1_bitsOf 4 (some .int) 0 0 0 Q 0 0 0 [(0, .ref (r 1)), (1, .int (nI q))] [] (cW G r s l) := by
  refine J_iconst (v := nI 0) dX1_bitsOf_0 (by decide) ?_
  refine J_istore_n [(0, .ref (r 1)), (1, .int (nI q)), (2, .int (nI 0))] dX1_bitsOf_1 rfl (by decide) rfl rfl rfl ?_
  refine J_iconst (v := nI 0) dX1_bitsOf_2 (by decide) ?_
  refine J_istore_n [(0, .ref (r 1)), (1, .int (nI q)), (2, .int (nI 0)), (3, .int (nI 0))] dX1_bitsOf_3 rfl (by decide) rfl rfl rfl ?_
  have L4 : ∀ (f i : Nat), n - i < f → i ≤ n → ∀ (x2 : Int32) (x3 : Int32), x2 = nI (bm (fun h => decide (s 39 h = nI q)) i) → x3 = nI i → J G "bitsOf" RX1 cX1_bitsOf 4 (some .int) 0 0 0 Q 0 0 4 [(0, .ref (r 1)), (1, .int (nI q)), (2, .int x2), (3, .int x3)] [] (cW G r s l) := by
    intro f
    induction f with
    | zero => intro i h; exact absurd h (Nat.not_lt_zero _)
    | succ f ih4 =>
      intro i hf4 hle4  x2 x3 e2 e3
      subst e2
      subst e3
      refine J_iload_n dX1_bitsOf_4 rfl rfl ?_
      refine J_aload_n dX1_bitsOf_5 rfl rfl ?_
      refine Cg_1_0 fr_X1_12_1 dX1_bitsOf_6 ?_
      refine Cg_2_0 fr_X1_79_4 dX1_bitsOf_9 ?_
      refine Cg_3_4 (s := s) fr_X1_106_2 (s 52 0) rfl dX1_bitsOf_12 ?_
      refine J_rw (y := nI n) hn ?_
      refine J_icmp_geN 46 (by omega) (by omega) dX1_bitsOf_15 (by decide) (fun kcz1 => ?_) (fun kcz1 => ?_)
      · refine J_iload_n dX1_bitsOf_46 rfl rfl ?_
        exact J_iret dX1_bitsOf_47 rfl rfl rfl (hq _ (by obtain rfl : i = n := (by omega); rfl))
      · refine J_iload_n dX1_bitsOf_18 rfl rfl ?_
        refine J_bipush (v := nI 8) dX1_bitsOf_19 (by decide) ?_
        refine J_icmp_geN 46 (by omega) (by omega) dX1_bitsOf_21 (by decide) (fun kcz2 => ?_) (fun kcz2 => ?_)
        · refine J_iload_n dX1_bitsOf_46 rfl rfl ?_
          exact J_iret dX1_bitsOf_47 rfl rfl rfl (hq _ (by obtain rfl : i = n := (by omega); rfl))
        · refine J_aload_n dX1_bitsOf_24 rfl rfl ?_
          refine Cg_1_3 fr_X1_32_1 dX1_bitsOf_25 ?_
          refine J_iload_n dX1_bitsOf_28 rfl rfl ?_
          refine Cl_39 (s := s) (s 39) rfl i rfl (by omega) dX1_bitsOf_29 ?_
          refine J_iload_n dX1_bitsOf_30 rfl rfl ?_
          refine J_icmp_ne 40 dX1_bitsOf_31 (by decide) (fun kcz3 => ?_) (fun kcz3 => ?_)
          · refine J_iincN [(0, .ref (r 1)), (1, .int (nI q)), (2, .int (nI (bm (fun h => decide (s 39 h = nI q)) i))), (3, .int (nI (i + 1)))] dX1_bitsOf_40 rfl (by decide) rfl rfl rfl ?_
            refine J_goto 4 dX1_bitsOf_43 (by decide) ?_
            exact ih4 (i + 1) (by omega) (by omega)  _ _ (by simp [bm, kcz1, kcz2, kcz3]) rfl
          · refine J_iload_n dX1_bitsOf_34 rfl rfl ?_
            refine J_iconst (v := nI 1) dX1_bitsOf_35 (by decide) ?_
            refine J_iload_n dX1_bitsOf_36 rfl rfl ?_
            refine J_shl1N dX1_bitsOf_37 (by omega) ?_
            refine J_iorN dX1_bitsOf_38 ?_
            refine J_istore_n [(0, .ref (r 1)), (1, .int (nI q)), (2, .int (nI ((bm (fun h => decide (s 39 h = nI q)) i) ||| (2 ^ i)))), (3, .int (nI i))] dX1_bitsOf_39 rfl (by decide) rfl rfl rfl ?_
            refine J_iincN [(0, .ref (r 1)), (1, .int (nI q)), (2, .int (nI ((bm (fun h => decide (s 39 h = nI q)) i) ||| (2 ^ i)))), (3, .int (nI (i + 1)))] dX1_bitsOf_40 rfl (by decide) rfl rfl rfl ?_
            refine J_goto 4 dX1_bitsOf_43 (by decide) ?_
            exact ih4 (i + 1) (by omega) (by omega)  _ _ (by simp [bm, kcz1, kcz2, kcz3]) rfl
  exact L4 (n + 1) 0 (by omega) (by omega)  _ _ rfl rfl
theorem c_X1_bitsOf {G : GT} (r : Nat → Nat) (s : St) (l : Nat → Int64) (n : Nat) (hn : s 52 0 = nI n) (hn8 : n ≤ 8) (q : Nat) : Ct G yX1_bitsOf cX1_bitsOf 4 (some .int) 0 0 0 [.ref (r 1), .int (nI q)] (cW G r s l) (Is (some (.int (nI (hasM n (s 39) q)))) (cW G r s l)) := Ct.of rfl (Nat.le_of_ble_eq_true rfl) (j_X1_bitsOf r s l n hn hn8 q (fun _ e => by subst e; exact Is.rf _ _))
set_option maxRecDepth 100000 in
set_option maxHeartbeats 1000000 in
theorem j_X1_doingOf {G : GT} (r : Nat → Nat) (s : St) (l : Nat → Int64) (n : Nat) (hn : s 52 0 = nI n) (hn8 : n ≤ 8) (Hb : Nat → Int32) (hb : Nat → Nat) (hR : CHr n Hb hb s) (hk : HbOk n Hb hb) (m : Nat) (hm : s 55 0 = nI m) (hm6 : m ≤ 6) (He : Nat → Int32) (aw : Nat → Nat) (hE : CEr m He aw s) (ha : AwOk m He aw) (q t : Nat) (hqm : q < m) (ht : t < 24) {Q : Option Value → va_W → Prop} (hq : ∀ v_ : Int32, v_ = doM n Hb He (s 39) q t → Q (some (.int v_)) (cW G r s l)) : J G "doingOf" RX1 cX1_doingOf 4 (some .int) 0 0 2 Q 0 0 0 [(0, .ref (r 1)), (1, .int (nI q)), (2, .int (nI t))] [] (cW G r s l) := by
  refine J_aload_n dX1_doingOf_0 rfl rfl ?_
  refine J_iload_n dX1_doingOf_1 rfl rfl ?_
  refine J_cVi (x := yX12_in) [.int (nI q)] 1 mv_X1_107 (c_X1_bitsOf r s l n hn hn8 q) cW_1 rfl rfl (by decide) (Nat.le_of_ble_eq_true rfl) ⟨Nat.le_refl _, Nat.le_refl _⟩ dX1_doingOf_2 ?_
  refine J_istore_n [(0, .ref (r 1)), (1, .int (nI q)), (2, .int (nI t)), (3, .int (nI (hasM n (s 39) q)))] dX1_doingOf_5 rfl (by decide) rfl rfl rfl ?_
  refine J_aload_n dX1_doingOf_6 rfl rfl ?_
  refine Cg_1_0 fr_X1_12_1 dX1_doingOf_7 ?_
  refine J_iload_n dX1_doingOf_10 rfl rfl ?_
  refine J_aload_n dX1_doingOf_11 rfl rfl ?_
  refine Cg_1_0 fr_X1_12_1 dX1_doingOf_12 ?_
  refine J_iload_n dX1_doingOf_15 rfl rfl ?_
  refine J_iload_n dX1_doingOf_16 rfl rfl ?_
  refine J_cVi (x := yX12_in) [.int (nI q), .int (nI (hasM n (s 39) q))] 2 mv_X1_110 (c_X4_cannotBits r s l n hn hn8 Hb hb hR hk m hm hm6 He aw hE ha q (hasM n (s 39) q) (by omega) (bm_lt256 _ hn8)) cW_2 rfl rfl (by decide) (Nat.le_of_ble_eq_true rfl) ⟨Nat.le_refl _, Nat.le_refl _⟩ dX1_doingOf_17 ?_
  refine J_iconst (v := -1) dX1_doingOf_20 (by decide) ?_
  refine J_ixor dX1_doingOf_21 ?_
  refine J_iand dX1_doingOf_22 ?_
  refine J_rw (y := nI (mnB (hasM n (s 39) q) (cnB n Hb hb (aw q) (hasM n (s 39) q)))) (mnB_eq _ _) ?_
  refine J_iload_n dX1_doingOf_23 rfl rfl ?_
  refine J_cVi (x := yX12_in) [.int (nI (mnB (hasM n (s 39) q) (cnB n Hb hb (aw q) (hasM n (s 39) q)))), .int (nI t)] 2 mv_X1_114 (c_X4_choiceOf r s l n hn hn8 Hb hb hR hk (mnB (hasM n (s 39) q) (cnB n Hb hb (aw q) (hasM n (s 39) q))) t (Nat.lt_of_le_of_lt (mnB_le _ _) (bm_lt256 _ hn8)) (by omega)) cW_2 rfl rfl (by decide) (Nat.le_of_ble_eq_true rfl) ⟨Nat.le_refl _, Nat.le_refl _⟩ dX1_doingOf_24 ?_
  refine J_rw (y := doM n Hb He (s 39) q t) (do_eq hk ha hn8 hqm ht) ?_
  exact J_iret dX1_doingOf_27 rfl rfl rfl (hq _ rfl)
theorem c_X1_doingOf {G : GT} (r : Nat → Nat) (s : St) (l : Nat → Int64) (n : Nat) (hn : s 52 0 = nI n) (hn8 : n ≤ 8) (Hb : Nat → Int32) (hb : Nat → Nat) (hR : CHr n Hb hb s) (hk : HbOk n Hb hb) (m : Nat) (hm : s 55 0 = nI m) (hm6 : m ≤ 6) (He : Nat → Int32) (aw : Nat → Nat) (hE : CEr m He aw s) (ha : AwOk m He aw) (q t : Nat) (hqm : q < m) (ht : t < 24) : Ct G yX1_doingOf cX1_doingOf 4 (some .int) 0 0 2 [.ref (r 1), .int (nI q), .int (nI t)] (cW G r s l) (Is (some (.int (doM n Hb He (s 39) q t))) (cW G r s l)) := Ct.of rfl (Nat.le_of_ble_eq_true rfl) (j_X1_doingOf r s l n hn hn8 Hb hb hR hk m hm hm6 He aw hE ha q t hqm ht (fun _ e => by subst e; exact Is.rf _ _))
set_option maxRecDepth 100000 in
set_option maxHeartbeats 1000000 in
theorem j_X1_carryOut {G : GT} (r : Nat → Nat) (s : St) (l : Nat → Int64) (n : Nat) (hn : s 52 0 = nI n) (hn8 : n ≤ 8) (m : Nat) (hm : s 55 0 = nI m) (hm6 : m ≤ 6) (RB : Nat → Nat) (hRB : ∀ q, q < 6 → s 40 q = nI (RB q) ∧ RB q < 256) (H E : Nat) (hH : H < n) (hEm : E < m) (cb : Bool) {Q : Option Value → va_W → Prop} (hq : ∀ (v_ : Int32) (w_ : va_W), v_ = bI (!decide (cmV (fun q h => (RB q).testBit h) (s 39) H (bI cb) E = s 39 H)) → w_ = cW G r (su 39 s (upd (s 39) H (cmV (fun q h => (RB q).testBit h) (s 39) H (bI cb) E))) l → Q (some (.int v_)) w_) : J G "carryOut" RX1 cX1_carryOut 5 (some .boolean) 0 0 1 Q 0 0 0 [(0, .ref (r 1)), (1, .int (nI H)), (2, .int (bI cb)), (3, .int (nI E))] [] (cW G r s l) := by
  have hE6 : E < 6 := (by omega)
  refine J_aload_n dX1_carryOut_0 rfl rfl ?_
  refine Cg_1_0 fr_X1_12_1 dX1_carryOut_1 ?_
  refine Cg_2_0 fr_X1_79_4 dX1_carryOut_4 ?_
  refine J_iload_n dX1_carryOut_7 rfl rfl ?_
  refine J_cUi [.int (nI H)] 3 mu_X1_83_2 (c_X5_hasRow0 r s l n hn (nI H)) cW_3 rfl rfl (by decide) (Nat.le_of_ble_eq_true rfl) ⟨Nat.le_refl _, Nat.le_refl _⟩ dX1_carryOut_8 ?_
  refine J_if_eqB 37 dX1_carryOut_11 (by decide) (fun c => absurd c (by rw [(show rng (nI H) n = true from rng_of hH (by omega))]; decide)) (fun _ => ?_)
  refine J_aload_n dX1_carryOut_14 rfl rfl ?_
  refine Cg_1_0 fr_X1_12_1 dX1_carryOut_15 ?_
  refine Cg_2_1 fr_X1_89_4 dX1_carryOut_18 ?_
  refine J_iload_n dX1_carryOut_21 rfl rfl ?_
  refine J_cUi [.int (nI E)] 4 mu_X1_93_3 (c_X5_hasRow1 r s l m hm (nI E)) cW_4 rfl rfl (by decide) (Nat.le_of_ble_eq_true rfl) ⟨Nat.le_refl _, Nat.le_refl _⟩ dX1_carryOut_22 ?_
  refine J_if_eqB 37 dX1_carryOut_25 (by decide) (fun c => absurd c (by rw [(show rng (nI E) m = true from rng_of hEm (by omega))]; decide)) (fun _ => ?_)
  refine J_iload_n dX1_carryOut_28 rfl rfl ?_
  refine J_bipush (v := nI 6) dX1_carryOut_29 (by decide) ?_
  refine J_cNi [.int (nI E), .int (nI 6)] mn_X1_96 (c_X11_isBelowN (cW G r s l) (nI E) 6) rfl rfl (by decide) (Nat.le_of_ble_eq_true rfl) ⟨Nat.le_refl _, Nat.le_refl _⟩ dX1_carryOut_31 ?_
  refine J_if_neB 39 dX1_carryOut_34 (by decide) (fun _ => ?_) (fun c => absurd c (by rw [(show rng (nI E) 6 = true from rng_of (by omega) (by decide))]; decide))
  refine J_aload_n dX1_carryOut_39 rfl rfl ?_
  refine J_iload_n dX1_carryOut_40 rfl rfl ?_
  refine J_cVi (x := yX12_in) [.int (nI H)] 1 mv_X1_63 (c_X1_ownerOf r s l H (by omega)) cW_1 rfl rfl (by decide) (Nat.le_of_ble_eq_true rfl) ⟨Nat.le_refl _, Nat.le_refl _⟩ dX1_carryOut_41 ?_
  refine J_iload_n dX1_carryOut_44 rfl rfl ?_
  refine J_icmp_ne 52 dX1_carryOut_45 (by decide) (fun kcz1 => ?_) (fun kcz1 => ?_)
  · refine J_iconst (v := nI 0) dX1_carryOut_52 (by decide) ?_
    refine J_istore [(0, .ref (r 1)), (1, .int (nI H)), (2, .int (bI cb)), (3, .int (nI E)), (4, .int (nI 0))] dX1_carryOut_53 (by decide) rfl rfl rfl ?_
    cases cb
    · refine J_iload_n dX1_carryOut_55 rfl rfl ?_
      refine J_iload dX1_carryOut_56 rfl ?_
      refine J_icmp_eq 78 dX1_carryOut_58 (by decide) (fun _ => ?_) (fun c => absurd c (by decide))
      refine J_iconst (v := nI 0) dX1_carryOut_78 (by decide) ?_
      exact J_zretB (b := false) dX1_carryOut_79 rfl rfl rfl (by have e9 : cmV (fun q h => (RB q).testBit h) (s 39) H (bI false) E = s 39 H := (by unfold cmV; simp [bI_n1, bI_n0, kcz1]); exact hq _ _ (by rw [e9]; simp) (by rw [e9, fa_upd_same rfl, su_id]))
    · refine J_iload_n dX1_carryOut_55 rfl rfl ?_
      refine J_iload dX1_carryOut_56 rfl ?_
      refine J_icmp_eq 78 dX1_carryOut_58 (by decide) (fun c => absurd c (by decide)) (fun _ => ?_)
      refine J_iload_n dX1_carryOut_61 rfl rfl ?_
      refine J_if_eq 80 dX1_carryOut_62 (by decide) (fun c => absurd c (by decide)) (fun _ => ?_)
      refine J_aload_n dX1_carryOut_65 rfl rfl ?_
      refine Cg_1_4 fr_X1_36_1 dX1_carryOut_66 ?_
      refine J_iload_n dX1_carryOut_69 rfl rfl ?_
      refine Cl_40 (s := s) (s 40) rfl E rfl (by omega) dX1_carryOut_70 ?_
      refine J_rw (y := nI (RB E)) (hRB E (by omega)).1 ?_
      refine J_iload_n dX1_carryOut_71 rfl rfl ?_
      refine J_cNi [.int (nI (RB E)), .int (nI H)] mn_X1_100 (c_X11_hasBitN (cW G r s l) (RB E) H (Nat.lt_trans (hRB E (by omega)).2 (by decide)) (by omega)) rfl rfl (by decide) (Nat.le_of_ble_eq_true rfl) ⟨Nat.le_refl _, Nat.le_refl _⟩ dX1_carryOut_72 ?_
      refine J_if_eqB 80 dX1_carryOut_75 (by decide) (fun kcz2 => ?_) (fun kcz2 => ?_)
      · refine J_aload_n dX1_carryOut_80 rfl rfl ?_
        refine J_iload_n dX1_carryOut_81 rfl rfl ?_
        refine J_iload_n dX1_carryOut_82 rfl rfl ?_
        refine J_if_eq 90 dX1_carryOut_83 (by decide) (fun c => absurd c (by decide)) (fun _ => ?_)
        refine J_iload_n dX1_carryOut_86 rfl rfl ?_
        refine J_goto 91 dX1_carryOut_87 (by decide) ?_
        refine J_cVv (x := yX12_in) [.int (nI H), .int (nI E)] 1 mv_X1_103 (c_X1_give r s l H (by omega) (nI E)) cW_1 rfl rfl (by decide) (Nat.le_of_ble_eq_true rfl) ⟨Nat.le_refl _, Nat.le_refl _⟩ dX1_carryOut_91 ?_
        show J G "carryOut" RX1 cX1_carryOut 5 (some .boolean) 0 0 1 Q 0 0 94 [(0, .ref (r 1)), (1, .int (nI H)), (2, .int (bI true)), (3, .int (nI E)), (4, .int (nI 0))] [] (cW G r (su 39 s (upd (s 39) H (nI E))) l)
        refine J_iconst (v := nI 1) dX1_carryOut_94 (by decide) ?_
        exact J_zretB (b := true) dX1_carryOut_95 rfl rfl rfl (by have e9 : cmV (fun q h => (RB q).testBit h) (s 39) H (bI true) E = nI E := (by unfold cmV; simp [bI_n1, bI_n0, kcz1, kcz2]); exact hq _ _ (by rw [e9, decide_eq_false (fun q => kcz1 q.symm)]; rfl) (by rw [e9]))
      · refine J_iconst (v := nI 0) dX1_carryOut_78 (by decide) ?_
        exact J_zretB (b := false) dX1_carryOut_79 rfl rfl rfl (by have e9 : cmV (fun q h => (RB q).testBit h) (s 39) H (bI true) E = s 39 H := (by unfold cmV; simp [bI_n1, bI_n0, kcz1, kcz2]); exact hq _ _ (by rw [e9]; simp) (by rw [e9, fa_upd_same rfl, su_id]))
  · refine J_iconst (v := nI 1) dX1_carryOut_48 (by decide) ?_
    refine J_goto 53 dX1_carryOut_49 (by decide) ?_
    refine J_istore [(0, .ref (r 1)), (1, .int (nI H)), (2, .int (bI cb)), (3, .int (nI E)), (4, .int (nI 1))] dX1_carryOut_53 (by decide) rfl rfl rfl ?_
    cases cb
    · refine J_iload_n dX1_carryOut_55 rfl rfl ?_
      refine J_iload dX1_carryOut_56 rfl ?_
      refine J_icmp_eq 78 dX1_carryOut_58 (by decide) (fun c => absurd c (by decide)) (fun _ => ?_)
      refine J_iload_n dX1_carryOut_61 rfl rfl ?_
      refine J_if_eq 80 dX1_carryOut_62 (by decide) (fun _ => ?_) (fun c => absurd c (by decide))
      refine J_aload_n dX1_carryOut_80 rfl rfl ?_
      refine J_iload_n dX1_carryOut_81 rfl rfl ?_
      refine J_iload_n dX1_carryOut_82 rfl rfl ?_
      refine J_if_eq 90 dX1_carryOut_83 (by decide) (fun _ => ?_) (fun c => absurd c (by decide))
      refine J_iconst (v := -1) dX1_carryOut_90 (by decide) ?_
      refine J_cVv (x := yX12_in) [.int (nI H), .int (-1)] 1 mv_X1_103 (c_X1_give r s l H (by omega) (-1)) cW_1 rfl rfl (by decide) (Nat.le_of_ble_eq_true rfl) ⟨Nat.le_refl _, Nat.le_refl _⟩ dX1_carryOut_91 ?_
      show J G "carryOut" RX1 cX1_carryOut 5 (some .boolean) 0 0 1 Q 0 0 94 [(0, .ref (r 1)), (1, .int (nI H)), (2, .int (bI false)), (3, .int (nI E)), (4, .int (nI 1))] [] (cW G r (su 39 s (upd (s 39) H (-1))) l)
      refine J_iconst (v := nI 1) dX1_carryOut_94 (by decide) ?_
      exact J_zretB (b := true) dX1_carryOut_95 rfl rfl rfl (by have e9 : cmV (fun q h => (RB q).testBit h) (s 39) H (bI false) E = -1 := (by unfold cmV; simp [bI_n1, bI_n0, kcz1]); exact hq _ _ (by rw [e9]; simp [kcz1, m1e, m1f hE6]) (by rw [e9]))
    · refine J_iload_n dX1_carryOut_55 rfl rfl ?_
      refine J_iload dX1_carryOut_56 rfl ?_
      refine J_icmp_eq 78 dX1_carryOut_58 (by decide) (fun _ => ?_) (fun c => absurd c (by decide))
      refine J_iconst (v := nI 0) dX1_carryOut_78 (by decide) ?_
      exact J_zretB (b := false) dX1_carryOut_79 rfl rfl rfl (by have e9 : cmV (fun q h => (RB q).testBit h) (s 39) H (bI true) E = s 39 H := (by unfold cmV; simp [bI_n1, bI_n0, kcz1]); exact hq _ _ (by rw [e9]; simp) (by rw [e9, fa_upd_same rfl, su_id]))
theorem c_X1_carryOut {G : GT} (r : Nat → Nat) (s : St) (l : Nat → Int64) (n : Nat) (hn : s 52 0 = nI n) (hn8 : n ≤ 8) (m : Nat) (hm : s 55 0 = nI m) (hm6 : m ≤ 6) (RB : Nat → Nat) (hRB : ∀ q, q < 6 → s 40 q = nI (RB q) ∧ RB q < 256) (H E : Nat) (hH : H < n) (hEm : E < m) (cb : Bool) : Ct G yX1_carryOut cX1_carryOut 5 (some .boolean) 0 0 1 [.ref (r 1), .int (nI H), .int (bI cb), .int (nI E)] (cW G r s l) (Is (some (.int (bI (!decide (cmV (fun q h => (RB q).testBit h) (s 39) H (bI cb) E = s 39 H))))) (cW G r (su 39 s (upd (s 39) H (cmV (fun q h => (RB q).testBit h) (s 39) H (bI cb) E))) l)) := Ct.of rfl (Nat.le_of_ble_eq_true rfl) (j_X1_carryOut r s l n hn hn8 m hm hm6 RB hRB H E hH hEm cb (fun _ _ h1 h2 => by subst h1; subst h2; exact Is.rf _ _))
set_option maxRecDepth 100000 in
set_option maxHeartbeats 1000000 in
theorem j_X1_carryOut_no {G : GT} (r : Nat → Nat) (s : St) (l : Nat → Int64) (n : Nat) (hn : s 52 0 = nI n) (hn8 : n ≤ 8) (m : Nat) (hm : s 55 0 = nI m) (hm6 : m ≤ 6) (hv ev : Int32) (hno : (rng hv n && rng ev m) = false) (cb : Bool) {Q : Option Value → va_W → Prop} (hq : ∀ v_ : Int32, v_ = bI false → Q (some (.int v_)) (cW G r s l)) : J G "carryOut" RX1 cX1_carryOut 5 (some .boolean) 0 0 1 Q 0 0 0 [(0, .ref (r 1)), (1, .int hv), (2, .int (bI cb)), (3, .int ev)] [] (cW G r s l) := by
  refine J_aload_n dX1_carryOut_0 rfl rfl ?_
  refine Cg_1_0 fr_X1_12_1 dX1_carryOut_1 ?_
  refine Cg_2_0 fr_X1_79_4 dX1_carryOut_4 ?_
  refine J_iload_n dX1_carryOut_7 rfl rfl ?_
  refine J_cUi [.int hv] 3 mu_X1_83_2 (c_X5_hasRow0 r s l n hn hv) cW_3 rfl rfl (by decide) (Nat.le_of_ble_eq_true rfl) ⟨Nat.le_refl _, Nat.le_refl _⟩ dX1_carryOut_8 ?_
  refine J_if_eqB 37 dX1_carryOut_11 (by decide) (fun kcz1 => ?_) (fun kcz1 => ?_)
  · refine J_iconst (v := nI 0) dX1_carryOut_37 (by decide) ?_
    exact J_zretB (b := false) dX1_carryOut_38 rfl rfl rfl (hq _ rfl)
  · refine J_aload_n dX1_carryOut_14 rfl rfl ?_
    refine Cg_1_0 fr_X1_12_1 dX1_carryOut_15 ?_
    refine Cg_2_1 fr_X1_89_4 dX1_carryOut_18 ?_
    refine J_iload_n dX1_carryOut_21 rfl rfl ?_
    refine J_cUi [.int ev] 4 mu_X1_93_3 (c_X5_hasRow1 r s l m hm ev) cW_4 rfl rfl (by decide) (Nat.le_of_ble_eq_true rfl) ⟨Nat.le_refl _, Nat.le_refl _⟩ dX1_carryOut_22 ?_
    refine J_if_eqB 37 dX1_carryOut_25 (by decide) (fun kcz2 => ?_) (fun kcz2 => ?_)
    · refine J_iconst (v := nI 0) dX1_carryOut_37 (by decide) ?_
      exact J_zretB (b := false) dX1_carryOut_38 rfl rfl rfl (hq _ rfl)
    · refine J_iload_n dX1_carryOut_28 rfl rfl ?_
      refine J_bipush (v := nI 6) dX1_carryOut_29 (by decide) ?_
      refine J_cNi [.int ev, .int (nI 6)] mn_X1_96 (c_X11_isBelowN (cW G r s l) ev 6) rfl rfl (by decide) (Nat.le_of_ble_eq_true rfl) ⟨Nat.le_refl _, Nat.le_refl _⟩ dX1_carryOut_31 ?_
      refine J_if_neB 39 dX1_carryOut_34 (by decide) (fun kcz3 => ?_) (fun kcz3 => ?_)
      · exact absurd hno (by rw [kcz1, kcz2]; decide)
      · refine J_iconst (v := nI 0) dX1_carryOut_37 (by decide) ?_
        exact J_zretB (b := false) dX1_carryOut_38 rfl rfl rfl (hq _ rfl)
theorem c_X1_carryOut_no {G : GT} (r : Nat → Nat) (s : St) (l : Nat → Int64) (n : Nat) (hn : s 52 0 = nI n) (hn8 : n ≤ 8) (m : Nat) (hm : s 55 0 = nI m) (hm6 : m ≤ 6) (hv ev : Int32) (hno : (rng hv n && rng ev m) = false) (cb : Bool) : Ct G yX1_carryOut cX1_carryOut 5 (some .boolean) 0 0 1 [.ref (r 1), .int hv, .int (bI cb), .int ev] (cW G r s l) (Is (some (.int (bI false))) (cW G r s l)) := Ct.of rfl (Nat.le_of_ble_eq_true rfl) (j_X1_carryOut_no r s l n hn hn8 m hm hm6 hv ev hno cb (fun _ e => by subst e; exact Is.rf _ _))
set_option maxRecDepth 100000 in
set_option maxHeartbeats 1000000 in
theorem j_X1_settleRefusing {G : GT} (r : Nat → Nat) (s : St) (l : Nat → Int64) (n : Nat) (hn : s 52 0 = nI n) (hn8 : n ≤ 8) (m : Nat) (hm : s 55 0 = nI m) (hm6 : m ≤ 6) (c : Nat) (hc : s 58 0 = nI c) (hc15 : c ≤ 15) (Cl : Nat → Int32) (hCl : CCr c Cl s) (rf : Nat) (hrf : s 60 0 = nI rf) (hrf12 : rf ≤ 12) (Rf : Nat → Int32) (hRf : CRr rf Rf s) (w : Int32) (more : Nat) (hmore : more < 256) {Q : Option Value → va_W → Prop} (hq : Q none (cW G r (su 61 (su 40 (su 39 s ((wlF n m Cl (rfsM rf Rf w more) c).1)) (fun q => nI (rfB rf Rf w more q))) (fun _ => nI (wlF n m Cl (rfsM rf Rf w more) c).2)) l)) : J G "settleRefusing" RX1 cX1_settleRefusing 6 none 0 0 2 Q 0 0 0 [(0, .ref (r 1)), (1, .int w), (2, .int (nI more))] [] (cW G r s l) := by
  refine J_iconst (v := nI 0) dX1_settleRefusing_0 (by decide) ?_
  refine J_istore_n [(0, .ref (r 1)), (1, .int w), (2, .int (nI more)), (3, .int (nI 0))] dX1_settleRefusing_1 rfl (by decide) rfl rfl rfl ?_
  have L2 : ∀ (f i : Nat), 6 - i < f → i ≤ 6 → ∀ (x3 : Int32) (y40 : Nat → Int32), x3 = nI i → y40 = (fa_fill (fun q => nI (rfB rf Rf w more q)) (s 40) i) → J G "settleRefusing" RX1 cX1_settleRefusing 6 none 0 0 2 Q 0 0 2 [(0, .ref (r 1)), (1, .int w), (2, .int (nI more)), (3, .int x3)] [] (cW G r (su 40 s y40) l) := by
    intro f
    induction f with
    | zero => intro i h; exact absurd h (Nat.not_lt_zero _)
    | succ f ih2 =>
      intro i hf2 hle2  x3 y40 e3 g40
      subst e3
      subst g40
      refine J_iload_n dX1_settleRefusing_2 rfl rfl ?_
      refine J_bipush (v := nI 6) dX1_settleRefusing_3 (by decide) ?_
      refine J_icmp_geN 39 (by omega) (by omega) dX1_settleRefusing_5 (by decide) (fun kcz1 => ?_) (fun kcz1 => ?_)
      · obtain rfl : i = 6 := (by omega)
        refine Ca_40 (g := fun q => nI (rfB rf Rf w more q)) (fun j hj => (fa_fill_in (by omega) : fa_fill (fun q => nI (rfB rf Rf w more q)) (s 40) 6 j = _)) ?_
        refine J_ws (ws2 := (cW G r (su 40 s (fun q => nI (rfB rf Rf w more q))) l)) (congrArg (fun q_ => cW G r q_ l) su_tw) ?_
        refine J_aload_n dX1_settleRefusing_39 rfl rfl ?_
        refine Cg_1_3 fr_X1_32_1 dX1_settleRefusing_40 ?_
        refine J_iconst (v := -1) dX1_settleRefusing_43 (by decide) ?_
        refine J_cSv [.ref (r 39), .int (-1)] ms_X1_51 (c_fill (cW G r (su 40 s (fun q => nI (rfB rf Rf w more q))) l) 38 (r 39) 8 _ (-1) rfl (by decide)) rfl rfl (by decide) (Nat.le_of_ble_eq_true rfl) ⟨Nat.le_refl _, Nat.le_refl _⟩ dX1_settleRefusing_44 ?_
        show J G "settleRefusing" RX1 cX1_settleRefusing 6 none 0 0 2 Q 0 0 47 [(0, .ref (r 1)), (1, .int w), (2, .int (nI more)), (3, .int (nI 6))] [] (cW G r (su 39 (su 40 s (fun q => nI (rfB rf Rf w more q))) (fun _ => (-1))) l)
        refine J_ws (ws2 := (cW G r (su 40 (su 39 s (fun _ => (-1))) (fun q => nI (rfB rf Rf w more q))) l)) (congrArg (fun q_ => cW G r q_ l) (su_sw (by decide))) ?_
        refine J_aload_n dX1_settleRefusing_47 rfl rfl ?_
        refine J_iconst (v := nI 0) dX1_settleRefusing_48 (by decide) ?_
        refine Cp_1_5 fr_X1_39_1 dX1_settleRefusing_49 ?_
        refine J_iconst (v := nI 0) dX1_settleRefusing_52 (by decide) ?_
        refine J_istore_n [(0, .ref (r 1)), (1, .int w), (2, .int (nI more)), (3, .int (nI 0))] dX1_settleRefusing_53 rfl (by decide) rfl rfl rfl ?_
        have L54 : ∀ (f i : Nat), c - i < f → i ≤ c → ∀ (x3 : Int32) (y39 : Nat → Int32) (y61 : Nat → Int32), x3 = nI i → y39 = ((wlF n m Cl (rfsM rf Rf w more) i).1) → y61 = (fun _ => nI (wlF n m Cl (rfsM rf Rf w more) i).2) → J G "settleRefusing" RX1 cX1_settleRefusing 6 none 0 0 2 Q 0 0 54 [(0, .ref (r 1)), (1, .int w), (2, .int (nI more)), (3, .int x3)] [] (cW G r (su 61 (su 40 (su 39 s y39) (fun q => nI (rfB rf Rf w more q))) y61) l) := by
          intro f
          induction f with
          | zero => intro i h; exact absurd h (Nat.not_lt_zero _)
          | succ f ih54 =>
            intro i hf54 hle54 x3 y39 y61 e3 g39 g61
            subst e3
            subst g39
            subst g61
            refine J_iload_n dX1_settleRefusing_54 rfl rfl ?_
            refine J_aload_n dX1_settleRefusing_55 rfl rfl ?_
            refine Cg_1_1 fr_X1_21_1 dX1_settleRefusing_56 ?_
            refine Cg_5_4 (s := (su 61 (su 40 (su 39 s ((wlF n m Cl (rfsM rf Rf w more) i).1)) (fun q => nI (rfB rf Rf w more q))) (fun _ => nI (wlF n m Cl (rfsM rf Rf w more) i).2))) fr_X1_57_0 (s 58 0) rfl dX1_settleRefusing_59 ?_
            refine J_rw (y := nI c) hc ?_
            refine J_icmp_geN 171 (by omega) (by omega) dX1_settleRefusing_62 (by decide) (fun kcz2 => ?_) (fun kcz2 => ?_)
            · exact J_vret dX1_settleRefusing_171 rfl rfl rfl (by obtain rfl : i = c := (by omega); exact hq)
            · refine J_iload_n dX1_settleRefusing_65 rfl rfl ?_
              refine J_bipush (v := nI 15) dX1_settleRefusing_66 (by decide) ?_
              refine J_icmp_geN 171 (by omega) (by omega) dX1_settleRefusing_68 (by decide) (fun kcz3 => ?_) (fun kcz3 => ?_)
              · exact J_vret dX1_settleRefusing_171 rfl rfl rfl (by obtain rfl : i = c := (by omega); exact hq)
              · refine J_aload_n dX1_settleRefusing_71 rfl rfl ?_
                refine Cg_1_1 fr_X1_21_1 dX1_settleRefusing_72 ?_
                refine Cg_5_9 fr_X1_60_0 dX1_settleRefusing_75 ?_
                refine J_iload_n dX1_settleRefusing_78 rfl rfl ?_
                refine Cl_36 (s := (su 61 (su 40 (su 39 s ((wlF n m Cl (rfsM rf Rf w more) i).1)) (fun q => nI (rfB rf Rf w more q))) (fun _ => nI (wlF n m Cl (rfsM rf Rf w more) i).2))) (s 36) rfl i rfl (by omega) dX1_settleRefusing_79 ?_
                refine J_rw (y := Cl (4 * i + 3)) (hCl i (by omega)).2.2.2.1 ?_
                refine J_istore [(0, .ref (r 1)), (1, .int w), (2, .int (nI more)), (3, .int (nI i)), (4, .int (Cl (4 * i + 3)))] dX1_settleRefusing_80 (by decide) rfl rfl rfl ?_
                refine J_iload dX1_settleRefusing_82 rfl ?_
                refine J_iconst (v := -1) dX1_settleRefusing_84 (by decide) ?_
                have K103_3 : ∀ (t0 : Int32), t0 = bI (hdM Cl (wlF n m Cl (rfsM rf Rf w more) i).1 i) → J G "settleRefusing" RX1 cX1_settleRefusing 6 none 0 0 2 Q 0 0 103 [(0, .ref (r 1)), (1, .int w), (2, .int (nI more)), (3, .int (nI i)), (4, .int (Cl (4 * i + 3)))] [.int t0] (cW G r (su 61 (su 40 (su 39 s ((wlF n m Cl (rfsM rf Rf w more) i).1)) (fun q => nI (rfB rf Rf w more q))) (fun _ => nI (wlF n m Cl (rfsM rf Rf w more) i).2)) l) := by
                  intro t0 qt0
                  subst qt0
                  refine J_istore [(0, .ref (r 1)), (1, .int w), (2, .int (nI more)), (3, .int (nI i)), (4, .int (Cl (4 * i + 3))), (5, .int (bI (hdM Cl (wlF n m Cl (rfsM rf Rf w more) i).1 i)))] dX1_settleRefusing_103 (by decide) rfl rfl rfl ?_
                  refine J_iload dX1_settleRefusing_105 rfl ?_
                  refine J_if_eqB 165 dX1_settleRefusing_107 (by decide) (fun kcz5 => ?_) (fun kcz5 => ?_)
                  · refine J_iincN [(0, .ref (r 1)), (1, .int w), (2, .int (nI more)), (3, .int (nI (i + 1))), (4, .int (Cl (4 * i + 3))), (5, .int (bI (hdM Cl (wlF n m Cl (rfsM rf Rf w more) i).1 i)))] dX1_settleRefusing_165 rfl (by decide) rfl rfl rfl ?_
                    refine J_goto 54 dX1_settleRefusing_168 (by decide) ?_
                    refine J_lv [0, 1, 2, 3] rfl ?_
                    exact ih54 (i + 1) (by omega) (by omega) _ _ _ rfl (by rw [wl_nohd kcz5]) (by rw [wl_nohd kcz5])
                  · refine J_aload_n dX1_settleRefusing_110 rfl rfl ?_
                    refine J_aload_n dX1_settleRefusing_111 rfl rfl ?_
                    refine Cg_1_1 fr_X1_21_1 dX1_settleRefusing_112 ?_
                    refine Cg_5_6 fr_X1_66_0 dX1_settleRefusing_115 ?_
                    refine J_iload_n dX1_settleRefusing_118 rfl rfl ?_
                    refine Cl_33 (s := (su 61 (su 40 (su 39 s ((wlF n m Cl (rfsM rf Rf w more) i).1)) (fun q => nI (rfB rf Rf w more q))) (fun _ => nI (wlF n m Cl (rfsM rf Rf w more) i).2))) (s 33) rfl i rfl (by omega) dX1_settleRefusing_119 ?_
                    refine J_rw (y := Cl (4 * i)) (hCl i (by omega)).1 ?_
                    refine J_aload_n dX1_settleRefusing_120 rfl rfl ?_
                    refine Cg_1_1 fr_X1_21_1 dX1_settleRefusing_121 ?_
                    refine Cg_5_7 fr_X1_69_0 dX1_settleRefusing_124 ?_
                    refine J_iload_n dX1_settleRefusing_127 rfl rfl ?_
                    refine Cl_34 (s := (su 61 (su 40 (su 39 s ((wlF n m Cl (rfsM rf Rf w more) i).1)) (fun q => nI (rfB rf Rf w more q))) (fun _ => nI (wlF n m Cl (rfsM rf Rf w more) i).2))) (s 34) rfl i rfl (by omega) dX1_settleRefusing_128 ?_
                    refine J_rw (y := Cl (4 * i + 1)) (hCl i (by omega)).2.1 ?_
                    refine J_iconst (v := nI 1) dX1_settleRefusing_129 (by decide) ?_
                    have K138_5 : ∀ (t0 : Int32), t0 = bI (decide (Cl (4 * i + 1) = nI 1)) → J G "settleRefusing" RX1 cX1_settleRefusing 6 none 0 0 2 Q 0 0 138 [(0, .ref (r 1)), (1, .int w), (2, .int (nI more)), (3, .int (nI i)), (4, .int (Cl (4 * i + 3))), (5, .int (bI (hdM Cl (wlF n m Cl (rfsM rf Rf w more) i).1 i)))] [.int t0, .int (Cl (4 * i)), .ref (r 1)] (cW G r (su 61 (su 40 (su 39 s ((wlF n m Cl (rfsM rf Rf w more) i).1)) (fun q => nI (rfB rf Rf w more q))) (fun _ => nI (wlF n m Cl (rfsM rf Rf w more) i).2)) l) := by
                      intro t0 qt0
                      subst qt0
                      refine J_aload_n dX1_settleRefusing_138 rfl rfl ?_
                      refine Cg_1_1 fr_X1_21_1 dX1_settleRefusing_139 ?_
                      refine Cg_5_8 fr_X1_72_0 dX1_settleRefusing_142 ?_
                      refine J_iload_n dX1_settleRefusing_145 rfl rfl ?_
                      refine Cl_35 (s := (su 61 (su 40 (su 39 s ((wlF n m Cl (rfsM rf Rf w more) i).1)) (fun q => nI (rfB rf Rf w more q))) (fun _ => nI (wlF n m Cl (rfsM rf Rf w more) i).2))) (s 35) rfl i rfl (by omega) dX1_settleRefusing_146 ?_
                      refine J_rw (y := Cl (4 * i + 2)) (hCl i (by omega)).2.2.1 ?_
                      by_cases ksz7 : rng (Cl (4 * i)) n = true ∧ rng (Cl (4 * i + 2)) m = true
                      · obtain ⟨H, hH, eH⟩ := (rng_iff (by omega)).mp ksz7.1
                        obtain ⟨E, hEm, eE⟩ := (rng_iff (by omega)).mp ksz7.2
                        rw [eH, eE]
                        refine J_cVi (x := yX12_in) [.int (nI H), .int (bI (decide (Cl (4 * i + 1) = nI 1))), .int (nI E)] 1 mv_X1_75 (c_X1_carryOut r (su 61 (su 40 (su 39 s ((wlF n m Cl (rfsM rf Rf w more) i).1)) (fun q => nI (rfB rf Rf w more q))) (fun _ => nI (wlF n m Cl (rfsM rf Rf w more) i).2)) l n hn hn8 m hm hm6 (rfB rf Rf w more) (fun q hq => ⟨rfl, rfB_lt hRf hmore q⟩) H E hH hEm (decide (Cl (4 * i + 1) = nI 1))) cW_1 rfl rfl (by decide) (Nat.le_of_ble_eq_true rfl) ⟨Nat.le_refl _, Nat.le_refl _⟩ dX1_settleRefusing_147 ?_
                        show J G "settleRefusing" RX1 cX1_settleRefusing 6 none 0 0 2 Q 0 0 150 [(0, .ref (r 1)), (1, .int w), (2, .int (nI more)), (3, .int (nI i)), (4, .int (Cl (4 * i + 3))), (5, .int (bI (hdM Cl (wlF n m Cl (rfsM rf Rf w more) i).1 i)))] [.int (bI (!decide (cmV (fun q h => ((rfB rf Rf w more) q).testBit h) ((wlF n m Cl (rfsM rf Rf w more) i).1) H (bI (decide (Cl (4 * i + 1) = nI 1))) E = ((wlF n m Cl (rfsM rf Rf w more) i).1) H)))] (cW G r (su 39 (su 61 (su 40 (su 39 s ((wlF n m Cl (rfsM rf Rf w more) i).1)) (fun q => nI (rfB rf Rf w more q))) (fun _ => nI (wlF n m Cl (rfsM rf Rf w more) i).2)) (upd ((wlF n m Cl (rfsM rf Rf w more) i).1) H (cmV (fun q h => ((rfB rf Rf w more) q).testBit h) ((wlF n m Cl (rfsM rf Rf w more) i).1) H (bI (decide (Cl (4 * i + 1) = nI 1))) E))) l)
                        refine J_ws (ws2 := (cW G r (su 61 (su 40 (su 39 s (upd ((wlF n m Cl (rfsM rf Rf w more) i).1) H (cmV (fun q h => ((rfB rf Rf w more) q).testBit h) ((wlF n m Cl (rfsM rf Rf w more) i).1) H (bI (decide (Cl (4 * i + 1) = nI 1))) E))) (fun q => nI (rfB rf Rf w more q))) (fun _ => nI (wlF n m Cl (rfsM rf Rf w more) i).2)) l)) (congrArg (fun q_ => cW G r q_ l) ((su_sw (by decide)).trans (su_cg ((su_sw (by decide)).trans (su_cg su_tw))))) ?_
                        refine J_if_eqB 165 dX1_settleRefusing_150 (by decide) (fun kcz8 => ?_) (fun kcz8 => ?_)
                        · refine J_iincN [(0, .ref (r 1)), (1, .int w), (2, .int (nI more)), (3, .int (nI (i + 1))), (4, .int (Cl (4 * i + 3))), (5, .int (bI (hdM Cl (wlF n m Cl (rfsM rf Rf w more) i).1 i)))] dX1_settleRefusing_165 rfl (by decide) rfl rfl rfl ?_
                          refine J_goto 54 dX1_settleRefusing_168 (by decide) ?_
                          refine J_lv [0, 1, 2, 3] rfl ?_
                          exact ih54 (i + 1) (by omega) (by omega) _ _ _ rfl (by rw [wl_step hRf hn8 hm6 eH eE hH hEm kcz5]) (by rw [wl_step hRf hn8 hm6 eH eE hH hEm kcz5]; show _ = fun _ => nI (_ ||| _); rw [if_pos (bnd_f kcz8), Nat.or_zero])
                        · refine J_aload_n dX1_settleRefusing_153 rfl rfl ?_
                          refine J_dup dX1_settleRefusing_154 rfl ?_
                          refine Cg_1_5 (s := (su 61 (su 40 (su 39 s (upd ((wlF n m Cl (rfsM rf Rf w more) i).1) H (cmV (fun q h => ((rfB rf Rf w more) q).testBit h) ((wlF n m Cl (rfsM rf Rf w more) i).1) H (bI (decide (Cl (4 * i + 1) = nI 1))) E))) (fun q => nI (rfB rf Rf w more q))) (fun _ => nI (wlF n m Cl (rfsM rf Rf w more) i).2))) fr_X1_39_1 (nI ((wlF n m Cl (rfsM rf Rf w more) i).2)) rfl dX1_settleRefusing_155 ?_
                          refine J_iconst (v := nI 1) dX1_settleRefusing_158 (by decide) ?_
                          refine J_iload_n dX1_settleRefusing_159 rfl rfl ?_
                          refine J_shl1N dX1_settleRefusing_160 (by omega) ?_
                          refine J_iorN dX1_settleRefusing_161 ?_
                          refine Cp_1_5 fr_X1_39_1 dX1_settleRefusing_162 ?_
                          refine J_ws (ws2 := (cW G r (su 61 (su 40 (su 39 s (upd ((wlF n m Cl (rfsM rf Rf w more) i).1) H (cmV (fun q h => ((rfB rf Rf w more) q).testBit h) ((wlF n m Cl (rfsM rf Rf w more) i).1) H (bI (decide (Cl (4 * i + 1) = nI 1))) E))) (fun q => nI (rfB rf Rf w more q))) (fun _ => nI (((wlF n m Cl (rfsM rf Rf w more) i).2) ||| (2 ^ i)))) l)) (congrArg (fun q_ => cW G r q_ l) su_tw) ?_
                          refine J_iincN [(0, .ref (r 1)), (1, .int w), (2, .int (nI more)), (3, .int (nI (i + 1))), (4, .int (Cl (4 * i + 3))), (5, .int (bI (hdM Cl (wlF n m Cl (rfsM rf Rf w more) i).1 i)))] dX1_settleRefusing_165 rfl (by decide) rfl rfl rfl ?_
                          refine J_goto 54 dX1_settleRefusing_168 (by decide) ?_
                          refine J_lv [0, 1, 2, 3] rfl ?_
                          exact ih54 (i + 1) (by omega) (by omega) _ _ _ rfl (by rw [wl_step hRf hn8 hm6 eH eE hH hEm kcz5]) (by rw [wl_step hRf hn8 hm6 eH eE hH hEm kcz5]; show _ = fun _ => nI (_ ||| _); rw [if_neg (bnd_t kcz8)])
                      · have hno : (rng (Cl (4 * i)) n && rng (Cl (4 * i + 2)) m) = false := band_f ksz7
                        refine J_cVi (x := yX12_in) [.int (Cl (4 * i)), .int (bI (decide (Cl (4 * i + 1) = nI 1))), .int (Cl (4 * i + 2))] 1 mv_X1_75 (c_X1_carryOut_no r (su 61 (su 40 (su 39 s ((wlF n m Cl (rfsM rf Rf w more) i).1)) (fun q => nI (rfB rf Rf w more q))) (fun _ => nI (wlF n m Cl (rfsM rf Rf w more) i).2)) l n hn hn8 m hm hm6 _ _ hno (decide (Cl (4 * i + 1) = nI 1))) cW_1 rfl rfl (by decide) (Nat.le_of_ble_eq_true rfl) ⟨Nat.le_refl _, Nat.le_refl _⟩ dX1_settleRefusing_147 ?_
                        refine J_if_eq 165 dX1_settleRefusing_150 (by decide) (fun _ => ?_) (fun c => absurd c (by decide))
                        refine J_iincN [(0, .ref (r 1)), (1, .int w), (2, .int (nI more)), (3, .int (nI (i + 1))), (4, .int (Cl (4 * i + 3))), (5, .int (bI (hdM Cl (wlF n m Cl (rfsM rf Rf w more) i).1 i)))] dX1_settleRefusing_165 rfl (by decide) rfl rfl rfl ?_
                        refine J_goto 54 dX1_settleRefusing_168 (by decide) ?_
                        refine J_lv [0, 1, 2, 3] rfl ?_
                        exact ih54 (i + 1) (by omega) (by omega) _ _ _ rfl (by rw [wl_noin hno]) (by rw [wl_noin hno])
                    refine J_icmp_ne 137 dX1_settleRefusing_130 (by decide) (fun kcz9 => ?_) (fun kcz9 => ?_)
                    · refine J_iconst (v := nI 0) dX1_settleRefusing_137 (by decide) ?_
                      exact K138_5 _ (by first | (show bI false = bI _; simp [kcz1, kcz2, kcz3, kcz5, kcz9]; done) | (show bI true = bI _; simp [kcz1, kcz2, kcz3, kcz5, kcz9]))
                    · refine J_iconst (v := nI 1) dX1_settleRefusing_133 (by decide) ?_
                      refine J_goto 138 dX1_settleRefusing_134 (by decide) ?_
                      exact K138_5 _ (by first | (show bI false = bI _; simp [kcz1, kcz2, kcz3, kcz5, kcz9]; done) | (show bI true = bI _; simp [kcz1, kcz2, kcz3, kcz5, kcz9]))
                refine J_icmp_eq 98 dX1_settleRefusing_85 (by decide) (fun kcz10 => ?_) (fun kcz10 => ?_)
                · refine J_iconst (v := nI 1) dX1_settleRefusing_98 (by decide) ?_
                  refine J_goto 103 dX1_settleRefusing_99 (by decide) ?_
                  exact K103_3 _ (by first | (show bI false = bI (hdM Cl (wlF n m Cl (rfsM rf Rf w more) i).1 i); simp [hdM, kcz1, kcz2, kcz3, kcz10]; done) | (show bI true = bI (hdM Cl (wlF n m Cl (rfsM rf Rf w more) i).1 i); simp [hdM, kcz1, kcz2, kcz3, kcz10]))
                · obtain ⟨a9, ha9, ea9⟩ := (hCl i (by omega)).2.2.2.2.resolve_left kcz10
                  have ec9 : (nI a9).toNatClampNeg = a9 := nI_clamp (by omega)
                  have hn9 : ¬ nI a9 = (-1 : Int32) := fun q => m1_ne (by omega) q.symm
                  refine J_aload_n dX1_settleRefusing_88 rfl rfl ?_
                  refine J_iload dX1_settleRefusing_89 rfl ?_
                  refine J_rw (y := nI a9) ea9 ?_
                  refine J_cVi (x := yX12_in) [.int (nI a9)] 1 mv_X1_63 (c_X1_ownerOf r (su 61 (su 40 (su 39 s ((wlF n m Cl (rfsM rf Rf w more) i).1)) (fun q => nI (rfB rf Rf w more q))) (fun _ => nI (wlF n m Cl (rfsM rf Rf w more) i).2)) l a9 (by omega)) cW_1 rfl rfl (by decide) (Nat.le_of_ble_eq_true rfl) ⟨Nat.le_refl _, Nat.le_refl _⟩ dX1_settleRefusing_91 ?_
                  refine J_rw (y := ((wlF n m Cl (rfsM rf Rf w more) i).1) a9) rfl ?_
                  refine J_iconst (v := -1) dX1_settleRefusing_94 (by decide) ?_
                  refine J_icmp_eq 102 dX1_settleRefusing_95 (by decide) (fun kcz11 => ?_) (fun kcz11 => ?_)
                  · refine J_iconst (v := nI 0) dX1_settleRefusing_102 (by decide) ?_
                    exact K103_3 _ (by first | (show bI false = bI (hdM Cl (wlF n m Cl (rfsM rf Rf w more) i).1 i); simp [hdM, kcz1, kcz2, kcz3, kcz10, ea9, ec9, hn9, kcz11]; done) | (show bI true = bI (hdM Cl (wlF n m Cl (rfsM rf Rf w more) i).1 i); simp [hdM, kcz1, kcz2, kcz3, kcz10, ea9, ec9, hn9, kcz11]))
                  · refine J_iconst (v := nI 1) dX1_settleRefusing_98 (by decide) ?_
                    refine J_goto 103 dX1_settleRefusing_99 (by decide) ?_
                    exact K103_3 _ (by first | (show bI false = bI (hdM Cl (wlF n m Cl (rfsM rf Rf w more) i).1 i); simp [hdM, kcz1, kcz2, kcz3, kcz10, ea9, ec9, hn9, kcz11]; done) | (show bI true = bI (hdM Cl (wlF n m Cl (rfsM rf Rf w more) i).1 i); simp [hdM, kcz1, kcz2, kcz3, kcz10, ea9, ec9, hn9, kcz11]))
        exact L54 (c + 1) 0 (by omega) (by omega) _ _ _ rfl rfl rfl
      · refine J_aload_n dX1_settleRefusing_8 rfl rfl ?_
        refine Cg_1_4 fr_X1_36_1 dX1_settleRefusing_9 ?_
        refine J_iload_n dX1_settleRefusing_12 rfl rfl ?_
        refine J_aload_n dX1_settleRefusing_13 rfl rfl ?_
        refine Cg_1_2 fr_X1_28_1 dX1_settleRefusing_14 ?_
        refine J_iload_n dX1_settleRefusing_17 rfl rfl ?_
        refine J_cVi (x := yX12_in) [.int (nI i)] 6 mv_X1_47 (c_X7_bitsBy r (su 40 s (fa_fill (fun q => nI (rfB rf Rf w more q)) (s 40) i)) l rf hrf hrf12 Rf hRf i (by omega)) cW_6 rfl rfl (by decide) (Nat.le_of_ble_eq_true rfl) ⟨Nat.le_refl _, Nat.le_refl _⟩ dX1_settleRefusing_18 ?_
        refine J_iload_n dX1_settleRefusing_21 rfl rfl ?_
        refine J_iload_n dX1_settleRefusing_22 rfl rfl ?_
        have K31_11 : ∀ (t0 : Int32), t0 = nI (if ¬ nI i = w then 0 else more) → J G "settleRefusing" RX1 cX1_settleRefusing 6 none 0 0 2 Q 0 0 31 [(0, .ref (r 1)), (1, .int w), (2, .int (nI more)), (3, .int (nI i))] [.int t0, .int (nI (rbB Rf i rf)), .int (nI i), .ref (r 40)] (cW G r (su 40 s (fa_fill (fun q => nI (rfB rf Rf w more q)) (s 40) i)) l) := by
          intro t0 qt0
          subst qt0
          refine J_iorN dX1_settleRefusing_31 ?_
          refine Cs_40 (s := (su 40 s (fa_fill (fun q => nI (rfB rf Rf w more q)) (s 40) i))) (fa_fill (fun q => nI (rfB rf Rf w more q)) (s 40) i) rfl i rfl (by omega) dX1_settleRefusing_32 ?_
          refine J_ws (ws2 := (cW G r (su 40 s (upd (fa_fill (fun q => nI (rfB rf Rf w more q)) (s 40) i) i (nI ((rbB Rf i rf) ||| (if ¬ nI i = w then 0 else more))))) l)) (congrArg (fun q_ => cW G r q_ l) su_tw) ?_
          refine J_iincN [(0, .ref (r 1)), (1, .int w), (2, .int (nI more)), (3, .int (nI (i + 1)))] dX1_settleRefusing_33 rfl (by decide) rfl rfl rfl ?_
          refine J_goto 2 dX1_settleRefusing_36 (by decide) ?_
          exact ih2 (i + 1) (by omega) (by omega)  _ _ rfl (fa_fill_succ (fun q => nI (rfB rf Rf w more q)) _ _)
        refine J_icmp_ne 30 dX1_settleRefusing_23 (by decide) (fun kcz13 => ?_) (fun kcz13 => ?_)
        · refine J_iconst (v := nI 0) dX1_settleRefusing_30 (by decide) ?_
          exact K31_11 _ (by simp [kcz1, kcz13])
        · refine J_iload_n dX1_settleRefusing_26 rfl rfl ?_
          refine J_goto 31 dX1_settleRefusing_27 (by decide) ?_
          exact K31_11 _ (by simp [kcz1, kcz13])
  exact L2 (6 + 1) 0 (by omega) (by omega)  _ _ rfl (fa_fill_0 _ _).symm
theorem c_X1_settleRefusing {G : GT} (r : Nat → Nat) (s : St) (l : Nat → Int64) (n : Nat) (hn : s 52 0 = nI n) (hn8 : n ≤ 8) (m : Nat) (hm : s 55 0 = nI m) (hm6 : m ≤ 6) (c : Nat) (hc : s 58 0 = nI c) (hc15 : c ≤ 15) (Cl : Nat → Int32) (hCl : CCr c Cl s) (rf : Nat) (hrf : s 60 0 = nI rf) (hrf12 : rf ≤ 12) (Rf : Nat → Int32) (hRf : CRr rf Rf s) (w : Int32) (more : Nat) (hmore : more < 256) : Ct G yX1_settleRefusing cX1_settleRefusing 6 none 0 0 2 [.ref (r 1), .int w, .int (nI more)] (cW G r s l) (Is none (cW G r (su 61 (su 40 (su 39 s ((wlF n m Cl (rfsM rf Rf w more) c).1)) (fun q => nI (rfB rf Rf w more q))) (fun _ => nI (wlF n m Cl (rfsM rf Rf w more) c).2)) l)) := Ct.of rfl (Nat.le_of_ble_eq_true rfl) (j_X1_settleRefusing r s l n hn hn8 m hm hm6 c hc hc15 Cl hCl rf hrf hrf12 Rf hRf w more hmore (Is.rf _ _))
set_option maxRecDepth 100000 in
set_option maxHeartbeats 1000000 in
theorem j_X1_settle {G : GT} (r : Nat → Nat) (s : St) (l : Nat → Int64) (n : Nat) (hn : s 52 0 = nI n) (hn8 : n ≤ 8) (m : Nat) (hm : s 55 0 = nI m) (hm6 : m ≤ 6) (c : Nat) (hc : s 58 0 = nI c) (hc15 : c ≤ 15) (Cl : Nat → Int32) (hCl : CCr c Cl s) (rf : Nat) (hrf : s 60 0 = nI rf) (hrf12 : rf ≤ 12) (Rf : Nat → Int32) (hRf : CRr rf Rf s) {Q : Option Value → va_W → Prop} (hq : Q none (cW G r (su 61 (su 40 (su 39 s ((wlF n m Cl (rfsM rf Rf (-1) 0) c).1)) (fun q => nI (rfB rf Rf (-1) 0 q))) (fun _ => nI (wlF n m Cl (rfsM rf Rf (-1) 0) c).2)) l)) : J G "settle" RX1 cX1_settle 1 none 0 0 3 Q 0 0 0 [(0, .ref (r 1))] [] (cW G r s l) := by
  refine J_aload_n dX1_settle_0 rfl rfl ?_
  refine J_iconst (v := -1) dX1_settle_1 (by decide) ?_
  refine J_iconst (v := nI 0) dX1_settle_2 (by decide) ?_
  refine J_cVv (x := yX12_in) [.int (-1), .int (nI 0)] 1 mv_X1_43 (c_X1_settleRefusing r s l n hn hn8 m hm hm6 c hc hc15 Cl hCl rf hrf hrf12 Rf hRf (-1) 0 (by omega)) cW_1 rfl rfl (by decide) (Nat.le_of_ble_eq_true rfl) ⟨Nat.le_refl _, Nat.le_refl _⟩ dX1_settle_3 ?_
  show J G "settle" RX1 cX1_settle 1 none 0 0 3 Q 0 0 6 [(0, .ref (r 1))] [] (cW G r (su 61 (su 40 (su 39 s ((wlF n m Cl (rfsM rf Rf (-1) 0) c).1)) (fun q_ => nI (rfB rf Rf (-1) 0 q_))) (fun _ => nI (wlF n m Cl (rfsM rf Rf (-1) 0) c).2)) l)
  exact J_vret dX1_settle_6 rfl rfl rfl (hq)
theorem c_X1_settle {G : GT} (r : Nat → Nat) (s : St) (l : Nat → Int64) (n : Nat) (hn : s 52 0 = nI n) (hn8 : n ≤ 8) (m : Nat) (hm : s 55 0 = nI m) (hm6 : m ≤ 6) (c : Nat) (hc : s 58 0 = nI c) (hc15 : c ≤ 15) (Cl : Nat → Int32) (hCl : CCr c Cl s) (rf : Nat) (hrf : s 60 0 = nI rf) (hrf12 : rf ≤ 12) (Rf : Nat → Int32) (hRf : CRr rf Rf s) : Ct G yX1_settle cX1_settle 1 none 0 0 3 [.ref (r 1)] (cW G r s l) (Is none (cW G r (su 61 (su 40 (su 39 s ((wlF n m Cl (rfsM rf Rf (-1) 0) c).1)) (fun q => nI (rfB rf Rf (-1) 0 q))) (fun _ => nI (wlF n m Cl (rfsM rf Rf (-1) 0) c).2)) l)) := Ct.of rfl (Nat.le_of_ble_eq_true rfl) (j_X1_settle r s l n hn hn8 m hm hm6 c hc hc15 Cl hCl rf hrf hrf12 Rf hRf (Is.rf _ _))
set_option maxRecDepth 100000 in
set_option maxHeartbeats 1000000 in
theorem j_X1_fewestRefusals {G : GT} (r : Nat → Nat) (s : St) (l : Nat → Int64) (n : Nat) (hn : s 52 0 = nI n) (hn8 : n ≤ 8) (Hb : Nat → Int32) (hb : Nat → Nat) (hR : CHr n Hb hb s) (hk : HbOk n Hb hb) (m : Nat) (hm : s 55 0 = nI m) (hm6 : m ≤ 6) (He : Nat → Int32) (aw : Nat → Nat) (hE : CEr m He aw s) (ha : AwOk m He aw) (c : Nat) (hc : s 58 0 = nI c) (hc15 : c ≤ 15) (Cl : Nat → Int32) (hCl : CCr c Cl s) (rf : Nat) (hrf : s 60 0 = nI rf) (hrf12 : rf ≤ 12) (Rf : Nat → Int32) (hRf : CRr rf Rf s) (q : Nat) (hqm : q < m) {Q : Option Value → va_W → Prop} (hq : ∀ (v_ : Int32) (w_ : va_W) (y39 y40 y61 : Nat → Int32), v_ = wrF n m c Hb He Cl rf Rf q (2 ^ n) → w_ = cW G r (su 61 (su 40 (su 39 s y39) y40) y61) l → Q (some (.int v_)) w_) : J G "fewestRefusals" RX1 cX1_fewestRefusals 5 (some .int) 0 0 4 Q 0 0 0 [(0, .ref (r 1)), (1, .int (nI q))] [] (cW G r s l) := by
  have h2n : 2 ^ n ≤ 256 := Nat.pow_le_pow_right (by decide) hn8
  have h2p : 0 < 2 ^ n := Nat.two_pow_pos n
  refine J_iconst (v := -1) dX1_fewestRefusals_0 (by decide) ?_
  refine J_istore_n [(0, .ref (r 1)), (1, .int (nI q)), (2, .int (-1))] dX1_fewestRefusals_1 rfl (by decide) rfl rfl rfl ?_
  refine J_iconst (v := nI 1) dX1_fewestRefusals_2 (by decide) ?_
  refine J_aload_n dX1_fewestRefusals_3 rfl rfl ?_
  refine Cg_1_0 fr_X1_12_1 dX1_fewestRefusals_4 ?_
  refine Cg_2_0 fr_X1_79_4 dX1_fewestRefusals_7 ?_
  refine Cg_3_4 (s := s) fr_X1_106_2 (s 52 0) rfl dX1_fewestRefusals_10 ?_
  refine J_rw (y := nI n) hn ?_
  refine J_bipush (v := nI 8) dX1_fewestRefusals_13 (by decide) ?_
  refine J_mmin ms_X1_117 (by omega) (by omega) (by omega) (by decide) ⟨Nat.le_refl _, Nat.le_refl _⟩ dX1_fewestRefusals_15 ?_
  refine J_shl1N dX1_fewestRefusals_18 (by omega) ?_
  refine J_rw (y := nI (2 ^ n)) (by rw [Nat.min_eq_left hn8]) ?_
  refine J_istore_n [(0, .ref (r 1)), (1, .int (nI q)), (2, .int (-1)), (3, .int (nI (2 ^ n)))] dX1_fewestRefusals_19 rfl (by decide) rfl rfl rfl ?_
  refine J_iconst (v := nI 0) dX1_fewestRefusals_20 (by decide) ?_
  refine J_istore [(0, .ref (r 1)), (1, .int (nI q)), (2, .int (-1)), (3, .int (nI (2 ^ n))), (4, .int (nI 0))] dX1_fewestRefusals_21 (by decide) rfl rfl rfl ?_
  have L23 : ∀ (f i : Nat) (y39 y40 y61 : Nat → Int32), 2 ^ n - i < f → i ≤ 2 ^ n → ∀ (x2 : Int32) (x4 : Int32), x2 = wrF n m c Hb He Cl rf Rf q i → x4 = nI i → J G "fewestRefusals" RX1 cX1_fewestRefusals 5 (some .int) 0 0 4 Q 0 0 23 [(0, .ref (r 1)), (1, .int (nI q)), (2, .int x2), (3, .int (nI (2 ^ n))), (4, .int x4)] [] (cW G r (su 61 (su 40 (su 39 s y39) y40) y61) l) := by
    intro f
    induction f with
    | zero => intro i y39 y40 y61 h; exact absurd h (Nat.not_lt_zero _)
    | succ f ih23 =>
      intro i y39 y40 y61 hf23 hle23 x2 x4 e2 e4
      subst e2
      subst e4
      refine J_iload dX1_fewestRefusals_23 rfl ?_
      refine J_iload_n dX1_fewestRefusals_25 rfl rfl ?_
      refine J_icmp_geN 81 (by omega) (by omega) dX1_fewestRefusals_26 (by decide) (fun kcz1 => ?_) (fun kcz1 => ?_)
      · refine J_iload_n dX1_fewestRefusals_81 rfl rfl ?_
        exact J_iret dX1_fewestRefusals_82 rfl rfl rfl (by have e_ : i = 2 ^ n := (by omega); subst e_; exact hq _ _ _ _ _ rfl rfl)
      · refine J_iload_n dX1_fewestRefusals_29 rfl rfl ?_
        refine J_iconst (v := -1) dX1_fewestRefusals_30 (by decide) ?_
        refine J_icmp_eq 49 dX1_fewestRefusals_31 (by decide) (fun kcz2 => ?_) (fun kcz2 => ?_)
        · refine J_aload_n dX1_fewestRefusals_49 rfl rfl ?_
          refine J_iload_n dX1_fewestRefusals_50 rfl rfl ?_
          refine J_iload dX1_fewestRefusals_51 rfl ?_
          refine J_cVv (x := yX12_in) [.int (nI q), .int (nI i)] 1 mv_X1_43 (c_X1_settleRefusing r (su 61 (su 40 (su 39 s y39) y40) y61) l n hn hn8 m hm hm6 c hc hc15 Cl hCl rf hrf hrf12 Rf hRf (nI q) i (by omega)) cW_1 rfl rfl (by decide) (Nat.le_of_ble_eq_true rfl) ⟨Nat.le_refl _, Nat.le_refl _⟩ dX1_fewestRefusals_53 ?_
          show J G "fewestRefusals" RX1 cX1_fewestRefusals 5 (some .int) 0 0 4 Q 0 0 56 [(0, .ref (r 1)), (1, .int (nI q)), (2, .int (wrF n m c Hb He Cl rf Rf q i)), (3, .int (nI (2 ^ n))), (4, .int (nI i))] [] (cW G r (su 61 (su 40 (su 39 (su 61 (su 40 (su 39 s y39) y40) y61) ((wlF n m Cl (rfsM rf Rf (nI q) i) c).1)) (fun q_ => nI (rfB rf Rf (nI q) i q_))) (fun _ => nI (wlF n m Cl (rfsM rf Rf (nI q) i) c).2)) l)
          refine J_ws (ws2 := (cW G r (su 61 (su 40 (su 39 s ((wlF n m Cl (rfsM rf Rf (nI q) i) c).1)) (fun q_ => nI (rfB rf Rf (nI q) i q_))) (fun _ => nI (wlF n m Cl (rfsM rf Rf (nI q) i) c).2)) l)) (congrArg (fun q_ => cW G r q_ l) (Eq.trans (Eq.trans (su_cg (su_cg ((su_sw (by decide)).trans (su_cg ((su_sw (by decide)).trans (su_cg su_tw)))))) (su_cg ((su_sw (by decide)).trans (su_cg su_tw)))) su_tw)) ?_
          refine J_aload_n dX1_fewestRefusals_56 rfl rfl ?_
          refine Cg_1_0 fr_X1_12_1 dX1_fewestRefusals_57 ?_
          refine J_iload_n dX1_fewestRefusals_60 rfl rfl ?_
          refine J_aload_n dX1_fewestRefusals_61 rfl rfl ?_
          refine J_iload_n dX1_fewestRefusals_62 rfl rfl ?_
          refine J_cVi (x := yX12_in) [.int (nI q)] 1 mv_X1_107 (c_X1_bitsOf r (su 61 (su 40 (su 39 s ((wlF n m Cl (rfsM rf Rf (nI q) i) c).1)) (fun q_ => nI (rfB rf Rf (nI q) i q_))) (fun _ => nI (wlF n m Cl (rfsM rf Rf (nI q) i) c).2)) l n hn hn8 q) cW_1 rfl rfl (by decide) (Nat.le_of_ble_eq_true rfl) ⟨Nat.le_refl _, Nat.le_refl _⟩ dX1_fewestRefusals_63 ?_
          refine J_rw (y := nI (hasM n ((wlF n m Cl (rfsM rf Rf (nI q) i) c).1) q)) rfl ?_
          refine J_cVi (x := yX12_in) [.int (nI q), .int (nI (hasM n ((wlF n m Cl (rfsM rf Rf (nI q) i) c).1) q))] 2 mv_X1_127 (c_X4_canLive r (su 61 (su 40 (su 39 s ((wlF n m Cl (rfsM rf Rf (nI q) i) c).1)) (fun q_ => nI (rfB rf Rf (nI q) i q_))) (fun _ => nI (wlF n m Cl (rfsM rf Rf (nI q) i) c).2)) l n hn hn8 Hb hb hR hk m hm hm6 He aw hE ha q (hasM n ((wlF n m Cl (rfsM rf Rf (nI q) i) c).1) q) (by omega) (bm_lt256 _ hn8)) cW_2 rfl rfl (by decide) (Nat.le_of_ble_eq_true rfl) ⟨Nat.le_refl _, Nat.le_refl _⟩ dX1_fewestRefusals_66 ?_
          refine J_rw (y := bI (lvB n Hb hb He aw q (hasM n ((wlF n m Cl (rfsM rf Rf (nI q) i) c).1) q))) rfl ?_
          refine J_rw (y := bI (livM n Hb He (wlF n m Cl (rfsM rf Rf (nI q) i) c).1 q)) (congrArg bI (lv_eq hk ha hn8 hqm)) ?_
          refine J_if_eqB 75 dX1_fewestRefusals_69 (by decide) (fun kcz3 => ?_) (fun kcz3 => ?_)
          · refine J_iincN [(0, .ref (r 1)), (1, .int (nI q)), (2, .int (wrF n m c Hb He Cl rf Rf q i)), (3, .int (nI (2 ^ n))), (4, .int (nI (i + 1)))] dX1_fewestRefusals_75 rfl (by decide) rfl rfl rfl ?_
            refine J_goto 23 dX1_fewestRefusals_78 (by decide) ?_
            exact ih23 (i + 1) ((wlF n m Cl (rfsM rf Rf (nI q) i) c).1) (fun q_ => nI (rfB rf Rf (nI q) i q_)) (fun _ => nI (wlF n m Cl (rfsM rf Rf (nI q) i) c).2) (by omega) (by omega) _ _ (by simp only [wrF, wrB]; (repeat' split) <;> simp_all) rfl
          · refine J_iload dX1_fewestRefusals_72 rfl ?_
            refine J_istore_n [(0, .ref (r 1)), (1, .int (nI q)), (2, .int (nI i)), (3, .int (nI (2 ^ n))), (4, .int (nI i))] dX1_fewestRefusals_74 rfl (by decide) rfl rfl rfl ?_
            refine J_iincN [(0, .ref (r 1)), (1, .int (nI q)), (2, .int (nI i)), (3, .int (nI (2 ^ n))), (4, .int (nI (i + 1)))] dX1_fewestRefusals_75 rfl (by decide) rfl rfl rfl ?_
            refine J_goto 23 dX1_fewestRefusals_78 (by decide) ?_
            exact ih23 (i + 1) ((wlF n m Cl (rfsM rf Rf (nI q) i) c).1) (fun q_ => nI (rfB rf Rf (nI q) i q_)) (fun _ => nI (wlF n m Cl (rfsM rf Rf (nI q) i) c).2) (by omega) (by omega) _ _ (by simp only [wrF, wrB]; (repeat' split) <;> simp_all) rfl
        · refine J_iload dX1_fewestRefusals_34 rfl ?_
          refine J_cSi [.int (nI i)] ms_X1_122 (c_J6_bitCount_0f7a4 (cW G r (su 61 (su 40 (su 39 s y39) y40) y61) l) i (by omega)) rfl rfl (by decide) (Nat.le_of_ble_eq_true rfl) ⟨Nat.le_refl _, Nat.le_refl _⟩ dX1_fewestRefusals_36 ?_
          refine J_iload_n dX1_fewestRefusals_39 rfl rfl ?_
          refine J_rw (y := nI (wrF n m c Hb He Cl rf Rf q i).toNatClampNeg) (wrF_nI kcz2 (by omega)) ?_
          refine J_cSi [.int (nI ((wrF n m c Hb He Cl rf Rf q i).toNatClampNeg))] ms_X1_122 (c_J6_bitCount_0f7a4 (cW G r (su 61 (su 40 (su 39 s y39) y40) y61) l) ((wrF n m c Hb He Cl rf Rf q i).toNatClampNeg) (wrF_lt (by omega))) rfl rfl (by decide) (Nat.le_of_ble_eq_true rfl) ⟨Nat.le_refl _, Nat.le_refl _⟩ dX1_fewestRefusals_40 ?_
          refine J_icmp_ltN 49 (popc_lt31 _) (popc_lt31 _) dX1_fewestRefusals_43 (by decide) (fun kcz4 => ?_) (fun kcz4 => ?_)
          · refine J_aload_n dX1_fewestRefusals_49 rfl rfl ?_
            refine J_iload_n dX1_fewestRefusals_50 rfl rfl ?_
            refine J_iload dX1_fewestRefusals_51 rfl ?_
            refine J_cVv (x := yX12_in) [.int (nI q), .int (nI i)] 1 mv_X1_43 (c_X1_settleRefusing r (su 61 (su 40 (su 39 s y39) y40) y61) l n hn hn8 m hm hm6 c hc hc15 Cl hCl rf hrf hrf12 Rf hRf (nI q) i (by omega)) cW_1 rfl rfl (by decide) (Nat.le_of_ble_eq_true rfl) ⟨Nat.le_refl _, Nat.le_refl _⟩ dX1_fewestRefusals_53 ?_
            show J G "fewestRefusals" RX1 cX1_fewestRefusals 5 (some .int) 0 0 4 Q 0 0 56 [(0, .ref (r 1)), (1, .int (nI q)), (2, .int (wrF n m c Hb He Cl rf Rf q i)), (3, .int (nI (2 ^ n))), (4, .int (nI i))] [] (cW G r (su 61 (su 40 (su 39 (su 61 (su 40 (su 39 s y39) y40) y61) ((wlF n m Cl (rfsM rf Rf (nI q) i) c).1)) (fun q_ => nI (rfB rf Rf (nI q) i q_))) (fun _ => nI (wlF n m Cl (rfsM rf Rf (nI q) i) c).2)) l)
            refine J_ws (ws2 := (cW G r (su 61 (su 40 (su 39 s ((wlF n m Cl (rfsM rf Rf (nI q) i) c).1)) (fun q_ => nI (rfB rf Rf (nI q) i q_))) (fun _ => nI (wlF n m Cl (rfsM rf Rf (nI q) i) c).2)) l)) (congrArg (fun q_ => cW G r q_ l) (Eq.trans (Eq.trans (su_cg (su_cg ((su_sw (by decide)).trans (su_cg ((su_sw (by decide)).trans (su_cg su_tw)))))) (su_cg ((su_sw (by decide)).trans (su_cg su_tw)))) su_tw)) ?_
            refine J_aload_n dX1_fewestRefusals_56 rfl rfl ?_
            refine Cg_1_0 fr_X1_12_1 dX1_fewestRefusals_57 ?_
            refine J_iload_n dX1_fewestRefusals_60 rfl rfl ?_
            refine J_aload_n dX1_fewestRefusals_61 rfl rfl ?_
            refine J_iload_n dX1_fewestRefusals_62 rfl rfl ?_
            refine J_cVi (x := yX12_in) [.int (nI q)] 1 mv_X1_107 (c_X1_bitsOf r (su 61 (su 40 (su 39 s ((wlF n m Cl (rfsM rf Rf (nI q) i) c).1)) (fun q_ => nI (rfB rf Rf (nI q) i q_))) (fun _ => nI (wlF n m Cl (rfsM rf Rf (nI q) i) c).2)) l n hn hn8 q) cW_1 rfl rfl (by decide) (Nat.le_of_ble_eq_true rfl) ⟨Nat.le_refl _, Nat.le_refl _⟩ dX1_fewestRefusals_63 ?_
            refine J_rw (y := nI (hasM n ((wlF n m Cl (rfsM rf Rf (nI q) i) c).1) q)) rfl ?_
            refine J_cVi (x := yX12_in) [.int (nI q), .int (nI (hasM n ((wlF n m Cl (rfsM rf Rf (nI q) i) c).1) q))] 2 mv_X1_127 (c_X4_canLive r (su 61 (su 40 (su 39 s ((wlF n m Cl (rfsM rf Rf (nI q) i) c).1)) (fun q_ => nI (rfB rf Rf (nI q) i q_))) (fun _ => nI (wlF n m Cl (rfsM rf Rf (nI q) i) c).2)) l n hn hn8 Hb hb hR hk m hm hm6 He aw hE ha q (hasM n ((wlF n m Cl (rfsM rf Rf (nI q) i) c).1) q) (by omega) (bm_lt256 _ hn8)) cW_2 rfl rfl (by decide) (Nat.le_of_ble_eq_true rfl) ⟨Nat.le_refl _, Nat.le_refl _⟩ dX1_fewestRefusals_66 ?_
            refine J_rw (y := bI (lvB n Hb hb He aw q (hasM n ((wlF n m Cl (rfsM rf Rf (nI q) i) c).1) q))) rfl ?_
            refine J_rw (y := bI (livM n Hb He (wlF n m Cl (rfsM rf Rf (nI q) i) c).1 q)) (congrArg bI (lv_eq hk ha hn8 hqm)) ?_
            refine J_if_eqB 75 dX1_fewestRefusals_69 (by decide) (fun kcz5 => ?_) (fun kcz5 => ?_)
            · refine J_iincN [(0, .ref (r 1)), (1, .int (nI q)), (2, .int (wrF n m c Hb He Cl rf Rf q i)), (3, .int (nI (2 ^ n))), (4, .int (nI (i + 1)))] dX1_fewestRefusals_75 rfl (by decide) rfl rfl rfl ?_
              refine J_goto 23 dX1_fewestRefusals_78 (by decide) ?_
              exact ih23 (i + 1) ((wlF n m Cl (rfsM rf Rf (nI q) i) c).1) (fun q_ => nI (rfB rf Rf (nI q) i q_)) (fun _ => nI (wlF n m Cl (rfsM rf Rf (nI q) i) c).2) (by omega) (by omega) _ _ (by simp only [wrF, wrB]; (repeat' split) <;> simp_all) rfl
            · refine J_iload dX1_fewestRefusals_72 rfl ?_
              refine J_istore_n [(0, .ref (r 1)), (1, .int (nI q)), (2, .int (nI i)), (3, .int (nI (2 ^ n))), (4, .int (nI i))] dX1_fewestRefusals_74 rfl (by decide) rfl rfl rfl ?_
              refine J_iincN [(0, .ref (r 1)), (1, .int (nI q)), (2, .int (nI i)), (3, .int (nI (2 ^ n))), (4, .int (nI (i + 1)))] dX1_fewestRefusals_75 rfl (by decide) rfl rfl rfl ?_
              refine J_goto 23 dX1_fewestRefusals_78 (by decide) ?_
              exact ih23 (i + 1) ((wlF n m Cl (rfsM rf Rf (nI q) i) c).1) (fun q_ => nI (rfB rf Rf (nI q) i q_)) (fun _ => nI (wlF n m Cl (rfsM rf Rf (nI q) i) c).2) (by omega) (by omega) _ _ (by simp only [wrF, wrB]; (repeat' split) <;> simp_all) rfl
          · refine J_goto 75 dX1_fewestRefusals_46 (by decide) ?_
            refine J_iincN [(0, .ref (r 1)), (1, .int (nI q)), (2, .int (wrF n m c Hb He Cl rf Rf q i)), (3, .int (nI (2 ^ n))), (4, .int (nI (i + 1)))] dX1_fewestRefusals_75 rfl (by decide) rfl rfl rfl ?_
            refine J_goto 23 dX1_fewestRefusals_78 (by decide) ?_
            exact ih23 (i + 1) (y39) (y40) (y61) (by omega) (by omega) _ _ (by simp only [wrF, wrB]; (repeat' split) <;> simp_all) rfl
  exact L23 (2 ^ n + 1) 0 (s 39) (s 40) (s 61) (by omega) (by omega) _ _ rfl rfl
theorem c_X1_fewestRefusals {G : GT} (r : Nat → Nat) (s : St) (l : Nat → Int64) (n : Nat) (hn : s 52 0 = nI n) (hn8 : n ≤ 8) (Hb : Nat → Int32) (hb : Nat → Nat) (hR : CHr n Hb hb s) (hk : HbOk n Hb hb) (m : Nat) (hm : s 55 0 = nI m) (hm6 : m ≤ 6) (He : Nat → Int32) (aw : Nat → Nat) (hE : CEr m He aw s) (ha : AwOk m He aw) (c : Nat) (hc : s 58 0 = nI c) (hc15 : c ≤ 15) (Cl : Nat → Int32) (hCl : CCr c Cl s) (rf : Nat) (hrf : s 60 0 = nI rf) (hrf12 : rf ≤ 12) (Rf : Nat → Int32) (hRf : CRr rf Rf s) (q : Nat) (hqm : q < m) : Ct G yX1_fewestRefusals cX1_fewestRefusals 5 (some .int) 0 0 4 [.ref (r 1), .int (nI q)] (cW G r s l) (fun v w => ∃ y39 y40 y61 : Nat → Int32, v = some (.int (wrF n m c Hb He Cl rf Rf q (2 ^ n))) ∧ w = cW G r (su 61 (su 40 (su 39 s y39) y40) y61) l) := Ct.of rfl (Nat.le_of_ble_eq_true rfl) (j_X1_fewestRefusals r s l n hn hn8 Hb hb hR hk m hm hm6 He aw hE ha c hc hc15 Cl hCl rf hrf hrf12 Rf hRf q hqm (fun v_ w_ y39 y40 y61 h1 h2 => ⟨y39, y40, y61, by rw [h1], h2⟩))
set_option maxRecDepth 100000 in
set_option maxHeartbeats 1000000 in
theorem j_X1_nextSeed {G : GT} (ws : va_W) (x : Int32) {Q : Option Value → va_W → Prop} (hq : ∀ v_ : Int32, v_ = nxS x → Q (some (.int v_)) ws) : J G "nextSeed" RX1 cX1_nextSeed 1 (some .int) 0 0 0 Q 0 0 0 [(0, .int x)] [] ws := by
  refine J_ldc dX1_nextSeed_0 k_X1_137 ?_
  refine J_iload_n dX1_nextSeed_2 rfl rfl ?_
  refine J_imul dX1_nextSeed_3 ?_
  refine J_sipush (v := nI 12345) dX1_nextSeed_4 (by decide) ?_
  refine J_iadd dX1_nextSeed_7 ?_
  exact J_iret dX1_nextSeed_8 rfl rfl rfl (hq _ rfl)
theorem c_X1_nextSeed {G : GT} (ws : va_W) (x : Int32) : Ct G yX1_nextSeed cX1_nextSeed 1 (some .int) 0 0 0 [.int x] ws (Is (some (.int (nxS x))) ws) := Ct.of rfl (Nat.le_of_ble_eq_true rfl) (j_X1_nextSeed ws x (fun _ e => by subst e; exact Is.rf _ _))
set_option maxRecDepth 100000 in
set_option maxHeartbeats 1000000 in
theorem j_X1_lotOf {G : GT} (ws : va_W) (x : Int32) (b : Nat) (hb0 : 0 < b) (hb8 : b ≤ 8) {Q : Option Value → va_W → Prop} (hq : ∀ v_ : Int32, v_ = nI (ltS x % b) → Q (some (.int v_)) ws) : J G "lotOf" RX1 cX1_lotOf 2 (some .int) 0 0 0 Q 0 0 0 [(0, .int x), (1, .int (nI b))] [] ws := by
  refine J_iload_n dX1_lotOf_0 rfl rfl ?_
  refine J_if_le 13 dX1_lotOf_1 (by decide) (fun c => absurd c (fun q => absurd ((nI_le0 (by omega)).mp q) (by omega))) (fun _ => ?_)
  refine J_iload_n dX1_lotOf_4 rfl rfl ?_
  refine J_bipush (v := nI 16) dX1_lotOf_5 (by decide) ?_
  refine J_iushr dX1_lotOf_7 ?_
  refine J_rw (y := nI (ltS x)) (ltS_eq _) ?_
  refine J_iload_n dX1_lotOf_8 rfl rfl ?_
  refine J_irem dX1_lotOf_9 (nI_ne0 hb0 (by omega)) ?_
  refine J_rw (y := nI (ltS x % b)) (pk_rem (by have := ltS_lt x; omega) hb0 (by omega)) ?_
  refine J_goto 14 dX1_lotOf_10 (by decide) ?_
  exact J_iret dX1_lotOf_14 rfl rfl rfl (hq _ rfl)
theorem c_X1_lotOf {G : GT} (ws : va_W) (x : Int32) (b : Nat) (hb0 : 0 < b) (hb8 : b ≤ 8) : Ct G yX1_lotOf cX1_lotOf 2 (some .int) 0 0 0 [.int x, .int (nI b)] ws (Is (some (.int (nI (ltS x % b)))) ws) := Ct.of rfl (Nat.le_of_ble_eq_true rfl) (j_X1_lotOf ws x b hb0 hb8 (fun _ e => by subst e; exact Is.rf _ _))
set_option maxRecDepth 100000 in
set_option maxHeartbeats 1000000 in
theorem j_X1_addByLots {G : GT} (r : Nat → Nat) (s : St) (l : Nat → Int64) (n : Nat) (hn : s 52 0 = nI n) (hn8 : n ≤ 8) (m : Nat) (hm : s 55 0 = nI m) (hm6 : m ≤ 6) (RB : Nat → Nat) (hRB : ∀ q, q < 6 → s 40 q = nI (RB q) ∧ RB q < 256) (seed : Int32) (k : Nat) (hn0 : 0 < n) (hm0 : 0 < m) (hk20 : k ≤ 20) {Q : Option Value → va_W → Prop} (hq : Q none (cW G r (su 39 s ((wsF n m (fun q h => (RB q).testBit h) (s 39) seed k).2)) l)) : J G "addByLots" RX1 cX1_addByLots 7 none 0 0 2 Q 0 0 0 [(0, .ref (r 1)), (1, .int seed), (2, .int (nI k))] [] (cW G r s l) := by
  refine J_iload_n dX1_addByLots_0 rfl rfl ?_
  refine J_istore_n [(0, .ref (r 1)), (1, .int seed), (2, .int (nI k)), (3, .int seed)] dX1_addByLots_1 rfl (by decide) rfl rfl rfl ?_
  refine J_iconst (v := nI 0) dX1_addByLots_2 (by decide) ?_
  refine J_istore [(0, .ref (r 1)), (1, .int seed), (2, .int (nI k)), (3, .int seed), (4, .int (nI 0))] dX1_addByLots_3 (by decide) rfl rfl rfl ?_
  have L5 : ∀ (f i : Nat), k - i < f → i ≤ k → ∀ (x3 : Int32) (x4 : Int32) (y39 : Nat → Int32), x3 = (wsF n m (fun q h => (RB q).testBit h) (s 39) seed i).1 → x4 = nI i → y39 = ((wsF n m (fun q h => (RB q).testBit h) (s 39) seed i).2) → J G "addByLots" RX1 cX1_addByLots 7 none 0 0 2 Q 0 0 5 [(0, .ref (r 1)), (1, .int seed), (2, .int (nI k)), (3, .int x3), (4, .int x4)] [] (cW G r (su 39 s y39) l) := by
    intro f
    induction f with
    | zero => intro i h; exact absurd h (Nat.not_lt_zero _)
    | succ f ih5 =>
      intro i hf5 hle5  x3 x4 y39 e3 e4 g39
      subst e3
      subst e4
      subst g39
      have hmn := Nat.mod_lt (ltS (nxS (wsF n m (fun q h => (RB q).testBit h) (s 39) seed i).1)) hn0
      have hmm := Nat.mod_lt (ltS (nxS (nxS (nxS (wsF n m (fun q h => (RB q).testBit h) (s 39) seed i).1)))) hm0
      refine J_iload dX1_addByLots_5 rfl ?_
      refine J_iload_n dX1_addByLots_7 rfl rfl ?_
      refine J_icmp_geN 93 (by omega) (by omega) dX1_addByLots_8 (by decide) (fun kcz1 => ?_) (fun kcz1 => ?_)
      · exact J_vret dX1_addByLots_93 rfl rfl rfl (by obtain rfl : i = k := (by omega); exact hq)
      · refine J_iload dX1_addByLots_11 rfl ?_
        refine J_bipush (v := nI 20) dX1_addByLots_13 (by decide) ?_
        refine J_icmp_geN 93 (by omega) (by omega) dX1_addByLots_15 (by decide) (fun kcz2 => ?_) (fun kcz2 => ?_)
        · exact J_vret dX1_addByLots_93 rfl rfl rfl (by obtain rfl : i = k := (by omega); exact hq)
        · refine J_iload_n dX1_addByLots_18 rfl rfl ?_
          refine J_cSi [.int ((wsF n m (fun q h => (RB q).testBit h) (s 39) seed i).1)] ms_X1_130 (c_X1_nextSeed (cW G r (su 39 s ((wsF n m (fun q h => (RB q).testBit h) (s 39) seed i).2)) l) ((wsF n m (fun q h => (RB q).testBit h) (s 39) seed i).1)) rfl rfl (by decide) (Nat.le_of_ble_eq_true rfl) ⟨Nat.le_refl _, Nat.le_refl _⟩ dX1_addByLots_19 ?_
          refine J_rw (y := nxS ((wsF n m (fun q h => (RB q).testBit h) (s 39) seed i).1)) rfl ?_
          refine J_istore_n [(0, .ref (r 1)), (1, .int seed), (2, .int (nI k)), (3, .int (nxS ((wsF n m (fun q h => (RB q).testBit h) (s 39) seed i).1))), (4, .int (nI i))] dX1_addByLots_22 rfl (by decide) rfl rfl rfl ?_
          refine J_iload_n dX1_addByLots_23 rfl rfl ?_
          refine J_aload_n dX1_addByLots_24 rfl rfl ?_
          refine Cg_1_0 fr_X1_12_1 dX1_addByLots_25 ?_
          refine Cg_2_0 fr_X1_79_4 dX1_addByLots_28 ?_
          refine Cg_3_4 (s := (su 39 s ((wsF n m (fun q h => (RB q).testBit h) (s 39) seed i).2))) fr_X1_106_2 (s 52 0) rfl dX1_addByLots_31 ?_
          refine J_rw (y := nI n) hn ?_
          refine J_cSi [.int (nxS ((wsF n m (fun q h => (RB q).testBit h) (s 39) seed i).1)), .int (nI n)] ms_X1_133 (c_X1_lotOf (cW G r (su 39 s ((wsF n m (fun q h => (RB q).testBit h) (s 39) seed i).2)) l) (nxS ((wsF n m (fun q h => (RB q).testBit h) (s 39) seed i).1)) n (by omega) (by omega)) rfl rfl (by decide) (Nat.le_of_ble_eq_true rfl) ⟨Nat.le_refl _, Nat.le_refl _⟩ dX1_addByLots_34 ?_
          refine J_rw (y := nI (ltS (nxS ((wsF n m (fun q h => (RB q).testBit h) (s 39) seed i).1)) % n)) rfl ?_
          refine J_istore [(0, .ref (r 1)), (1, .int seed), (2, .int (nI k)), (3, .int (nxS ((wsF n m (fun q h => (RB q).testBit h) (s 39) seed i).1))), (4, .int (nI i)), (5, .int (nI (ltS (nxS ((wsF n m (fun q h => (RB q).testBit h) (s 39) seed i).1)) % n)))] dX1_addByLots_37 (by decide) rfl rfl rfl ?_
          refine J_iload_n dX1_addByLots_39 rfl rfl ?_
          refine J_cSi [.int (nxS ((wsF n m (fun q h => (RB q).testBit h) (s 39) seed i).1))] ms_X1_130 (c_X1_nextSeed (cW G r (su 39 s ((wsF n m (fun q h => (RB q).testBit h) (s 39) seed i).2)) l) (nxS ((wsF n m (fun q h => (RB q).testBit h) (s 39) seed i).1))) rfl rfl (by decide) (Nat.le_of_ble_eq_true rfl) ⟨Nat.le_refl _, Nat.le_refl _⟩ dX1_addByLots_40 ?_
          refine J_rw (y := nxS (nxS ((wsF n m (fun q h => (RB q).testBit h) (s 39) seed i).1))) rfl ?_
          refine J_istore_n [(0, .ref (r 1)), (1, .int seed), (2, .int (nI k)), (3, .int (nxS (nxS ((wsF n m (fun q h => (RB q).testBit h) (s 39) seed i).1)))), (4, .int (nI i)), (5, .int (nI (ltS (nxS ((wsF n m (fun q h => (RB q).testBit h) (s 39) seed i).1)) % n)))] dX1_addByLots_43 rfl (by decide) rfl rfl rfl ?_
          refine J_iload_n dX1_addByLots_44 rfl rfl ?_
          refine J_iconst (v := nI 2) dX1_addByLots_45 (by decide) ?_
          refine J_cSi [.int (nxS (nxS ((wsF n m (fun q h => (RB q).testBit h) (s 39) seed i).1))), .int (nI 2)] ms_X1_133 (c_X1_lotOf (cW G r (su 39 s ((wsF n m (fun q h => (RB q).testBit h) (s 39) seed i).2)) l) (nxS (nxS ((wsF n m (fun q h => (RB q).testBit h) (s 39) seed i).1))) 2 (by omega) (by omega)) rfl rfl (by decide) (Nat.le_of_ble_eq_true rfl) ⟨Nat.le_refl _, Nat.le_refl _⟩ dX1_addByLots_46 ?_
          refine J_rw (y := nI (ltS (nxS (nxS ((wsF n m (fun q h => (RB q).testBit h) (s 39) seed i).1))) % 2)) rfl ?_
          have K57_2 : ∀ (t0 : Int32), t0 = bI (decide (ltS (nxS (nxS ((wsF n m (fun q h => (RB q).testBit h) (s 39) seed i).1))) % 2 = 0)) → J G "addByLots" RX1 cX1_addByLots 7 none 0 0 2 Q 0 0 57 [(0, .ref (r 1)), (1, .int seed), (2, .int (nI k)), (3, .int (nxS (nxS ((wsF n m (fun q h => (RB q).testBit h) (s 39) seed i).1)))), (4, .int (nI i)), (5, .int (nI (ltS (nxS ((wsF n m (fun q h => (RB q).testBit h) (s 39) seed i).1)) % n)))] [.int t0] (cW G r (su 39 s ((wsF n m (fun q h => (RB q).testBit h) (s 39) seed i).2)) l) := by
            intro t0 qt0
            subst qt0
            refine J_istore [(0, .ref (r 1)), (1, .int seed), (2, .int (nI k)), (3, .int (nxS (nxS ((wsF n m (fun q h => (RB q).testBit h) (s 39) seed i).1)))), (4, .int (nI i)), (5, .int (nI (ltS (nxS ((wsF n m (fun q h => (RB q).testBit h) (s 39) seed i).1)) % n))), (6, .int (bI (decide (ltS (nxS (nxS ((wsF n m (fun q h => (RB q).testBit h) (s 39) seed i).1))) % 2 = 0))))] dX1_addByLots_57 (by decide) rfl rfl rfl ?_
            refine J_iload_n dX1_addByLots_59 rfl rfl ?_
            refine J_cSi [.int (nxS (nxS ((wsF n m (fun q h => (RB q).testBit h) (s 39) seed i).1)))] ms_X1_130 (c_X1_nextSeed (cW G r (su 39 s ((wsF n m (fun q h => (RB q).testBit h) (s 39) seed i).2)) l) (nxS (nxS ((wsF n m (fun q h => (RB q).testBit h) (s 39) seed i).1)))) rfl rfl (by decide) (Nat.le_of_ble_eq_true rfl) ⟨Nat.le_refl _, Nat.le_refl _⟩ dX1_addByLots_60 ?_
            refine J_rw (y := nxS (nxS (nxS ((wsF n m (fun q h => (RB q).testBit h) (s 39) seed i).1)))) rfl ?_
            refine J_istore_n [(0, .ref (r 1)), (1, .int seed), (2, .int (nI k)), (3, .int (nxS (nxS (nxS ((wsF n m (fun q h => (RB q).testBit h) (s 39) seed i).1))))), (4, .int (nI i)), (5, .int (nI (ltS (nxS ((wsF n m (fun q h => (RB q).testBit h) (s 39) seed i).1)) % n))), (6, .int (bI (decide (ltS (nxS (nxS ((wsF n m (fun q h => (RB q).testBit h) (s 39) seed i).1))) % 2 = 0))))] dX1_addByLots_63 rfl (by decide) rfl rfl rfl ?_
            refine J_aload_n dX1_addByLots_64 rfl rfl ?_
            refine J_iload dX1_addByLots_65 rfl ?_
            refine J_iload dX1_addByLots_67 rfl ?_
            refine J_iload_n dX1_addByLots_69 rfl rfl ?_
            refine J_aload_n dX1_addByLots_70 rfl rfl ?_
            refine Cg_1_0 fr_X1_12_1 dX1_addByLots_71 ?_
            refine Cg_2_1 fr_X1_89_4 dX1_addByLots_74 ?_
            refine Cg_4_4 (s := (su 39 s ((wsF n m (fun q h => (RB q).testBit h) (s 39) seed i).2))) fr_X1_136_3 (s 55 0) rfl dX1_addByLots_77 ?_
            refine J_rw (y := nI m) hm ?_
            refine J_cSi [.int (nxS (nxS (nxS ((wsF n m (fun q h => (RB q).testBit h) (s 39) seed i).1)))), .int (nI m)] ms_X1_133 (c_X1_lotOf (cW G r (su 39 s ((wsF n m (fun q h => (RB q).testBit h) (s 39) seed i).2)) l) (nxS (nxS (nxS ((wsF n m (fun q h => (RB q).testBit h) (s 39) seed i).1)))) m (by omega) (by omega)) rfl rfl (by decide) (Nat.le_of_ble_eq_true rfl) ⟨Nat.le_refl _, Nat.le_refl _⟩ dX1_addByLots_80 ?_
            refine J_rw (y := nI (ltS (nxS (nxS (nxS ((wsF n m (fun q h => (RB q).testBit h) (s 39) seed i).1)))) % m)) rfl ?_
            refine J_cVi (x := yX12_in) [.int (nI (ltS (nxS ((wsF n m (fun q h => (RB q).testBit h) (s 39) seed i).1)) % n)), .int (bI (decide (ltS (nxS (nxS ((wsF n m (fun q h => (RB q).testBit h) (s 39) seed i).1))) % 2 = 0))), .int (nI (ltS (nxS (nxS (nxS ((wsF n m (fun q h => (RB q).testBit h) (s 39) seed i).1)))) % m))] 1 mv_X1_75 (c_X1_carryOut r (su 39 s ((wsF n m (fun q h => (RB q).testBit h) (s 39) seed i).2)) l n hn hn8 m hm hm6 RB hRB (ltS (nxS ((wsF n m (fun q h => (RB q).testBit h) (s 39) seed i).1)) % n) (ltS (nxS (nxS (nxS ((wsF n m (fun q h => (RB q).testBit h) (s 39) seed i).1)))) % m) hmn hmm (decide (ltS (nxS (nxS ((wsF n m (fun q h => (RB q).testBit h) (s 39) seed i).1))) % 2 = 0))) cW_1 rfl rfl (by decide) (Nat.le_of_ble_eq_true rfl) ⟨Nat.le_refl _, Nat.le_refl _⟩ dX1_addByLots_83 ?_
            refine J_rw (y := bI (!decide (cmV (fun q h => (RB q).testBit h) ((wsF n m (fun q h => (RB q).testBit h) (s 39) seed i).2) (ltS (nxS ((wsF n m (fun q h => (RB q).testBit h) (s 39) seed i).1)) % n) (bI (decide (ltS (nxS (nxS ((wsF n m (fun q h => (RB q).testBit h) (s 39) seed i).1))) % 2 = 0))) (ltS (nxS (nxS (nxS ((wsF n m (fun q h => (RB q).testBit h) (s 39) seed i).1)))) % m) = ((wsF n m (fun q h => (RB q).testBit h) (s 39) seed i).2) (ltS (nxS ((wsF n m (fun q h => (RB q).testBit h) (s 39) seed i).1)) % n)))) rfl ?_
            show J G "addByLots" RX1 cX1_addByLots 7 none 0 0 2 Q 0 0 86 [(0, .ref (r 1)), (1, .int seed), (2, .int (nI k)), (3, .int (nxS (nxS (nxS ((wsF n m (fun q h => (RB q).testBit h) (s 39) seed i).1))))), (4, .int (nI i)), (5, .int (nI (ltS (nxS ((wsF n m (fun q h => (RB q).testBit h) (s 39) seed i).1)) % n))), (6, .int (bI (decide (ltS (nxS (nxS ((wsF n m (fun q h => (RB q).testBit h) (s 39) seed i).1))) % 2 = 0))))] [.int (bI (!decide (cmV (fun q h => (RB q).testBit h) ((wsF n m (fun q h => (RB q).testBit h) (s 39) seed i).2) (ltS (nxS ((wsF n m (fun q h => (RB q).testBit h) (s 39) seed i).1)) % n) (bI (decide (ltS (nxS (nxS ((wsF n m (fun q h => (RB q).testBit h) (s 39) seed i).1))) % 2 = 0))) (ltS (nxS (nxS (nxS ((wsF n m (fun q h => (RB q).testBit h) (s 39) seed i).1)))) % m) = ((wsF n m (fun q h => (RB q).testBit h) (s 39) seed i).2) (ltS (nxS ((wsF n m (fun q h => (RB q).testBit h) (s 39) seed i).1)) % n))))] (cW G r (su 39 (su 39 s ((wsF n m (fun q h => (RB q).testBit h) (s 39) seed i).2)) (upd ((wsF n m (fun q h => (RB q).testBit h) (s 39) seed i).2) (ltS (nxS ((wsF n m (fun q h => (RB q).testBit h) (s 39) seed i).1)) % n) (cmV (fun q h => (RB q).testBit h) ((wsF n m (fun q h => (RB q).testBit h) (s 39) seed i).2) (ltS (nxS ((wsF n m (fun q h => (RB q).testBit h) (s 39) seed i).1)) % n) (bI (decide (ltS (nxS (nxS ((wsF n m (fun q h => (RB q).testBit h) (s 39) seed i).1))) % 2 = 0))) (ltS (nxS (nxS (nxS ((wsF n m (fun q h => (RB q).testBit h) (s 39) seed i).1)))) % m)))) l)
            refine J_ws (ws2 := (cW G r (su 39 s (upd ((wsF n m (fun q h => (RB q).testBit h) (s 39) seed i).2) (ltS (nxS ((wsF n m (fun q h => (RB q).testBit h) (s 39) seed i).1)) % n) (cmV (fun q h => (RB q).testBit h) ((wsF n m (fun q h => (RB q).testBit h) (s 39) seed i).2) (ltS (nxS ((wsF n m (fun q h => (RB q).testBit h) (s 39) seed i).1)) % n) (bI (decide (ltS (nxS (nxS ((wsF n m (fun q h => (RB q).testBit h) (s 39) seed i).1))) % 2 = 0))) (ltS (nxS (nxS (nxS ((wsF n m (fun q h => (RB q).testBit h) (s 39) seed i).1)))) % m)))) l)) (congrArg (fun q_ => cW G r q_ l) su_tw) ?_
            refine J_pop dX1_addByLots_86 rfl ?_
            refine J_iincN [(0, .ref (r 1)), (1, .int seed), (2, .int (nI k)), (3, .int (nxS (nxS (nxS ((wsF n m (fun q h => (RB q).testBit h) (s 39) seed i).1))))), (4, .int (nI (i + 1))), (5, .int (nI (ltS (nxS ((wsF n m (fun q h => (RB q).testBit h) (s 39) seed i).1)) % n))), (6, .int (bI (decide (ltS (nxS (nxS ((wsF n m (fun q h => (RB q).testBit h) (s 39) seed i).1))) % 2 = 0))))] dX1_addByLots_87 rfl (by decide) rfl rfl rfl ?_
            refine J_goto 5 dX1_addByLots_90 (by decide) ?_
            refine J_lv [0, 1, 2, 3, 4] rfl ?_
            exact ih5 (i + 1) (by omega) (by omega)  _ _ _ rfl rfl (by rw [wsF, cmV_how])
          refine J_if_neN 56 (by have := Nat.mod_lt (ltS (nxS (nxS (wsF n m (fun q h => (RB q).testBit h) (s 39) seed i).1))) (show 0 < 2 by decide); omega) dX1_addByLots_49 (by decide) (fun kcz4 => ?_) (fun kcz4 => ?_)
          · refine J_iconst (v := nI 0) dX1_addByLots_56 (by decide) ?_
            exact K57_2 _ (by show bI false = bI (decide (ltS (nxS (nxS ((wsF n m (fun q h => (RB q).testBit h) (s 39) seed i).1))) % 2 = 0)); simp [kcz1, kcz2, kcz4])
          · refine J_iconst (v := nI 1) dX1_addByLots_52 (by decide) ?_
            refine J_goto 57 dX1_addByLots_53 (by decide) ?_
            exact K57_2 _ (by show bI true = bI (decide (ltS (nxS (nxS ((wsF n m (fun q h => (RB q).testBit h) (s 39) seed i).1))) % 2 = 0)); simp [kcz1, kcz2, kcz4])
  exact L5 (k + 1) 0 (by omega) (by omega)  _ _ _ rfl rfl rfl
theorem c_X1_addByLots {G : GT} (r : Nat → Nat) (s : St) (l : Nat → Int64) (n : Nat) (hn : s 52 0 = nI n) (hn8 : n ≤ 8) (m : Nat) (hm : s 55 0 = nI m) (hm6 : m ≤ 6) (RB : Nat → Nat) (hRB : ∀ q, q < 6 → s 40 q = nI (RB q) ∧ RB q < 256) (seed : Int32) (k : Nat) (hn0 : 0 < n) (hm0 : 0 < m) (hk20 : k ≤ 20) : Ct G yX1_addByLots cX1_addByLots 7 none 0 0 2 [.ref (r 1), .int seed, .int (nI k)] (cW G r s l) (Is none (cW G r (su 39 s ((wsF n m (fun q h => (RB q).testBit h) (s 39) seed k).2)) l)) := Ct.of rfl (Nat.le_of_ble_eq_true rfl) (j_X1_addByLots r s l n hn hn8 m hm hm6 RB hRB seed k hn0 hm0 hk20 (Is.rf _ _))
