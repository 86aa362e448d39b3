theorem ite_bf {b : Bool} {x : Nat} : (if b = false then 0 else x) = (if b = true then x else 0) := by cases b <;> rfl
theorem su_id {k : Nat} {s : Nat → Nat → Int32} : su k s (s k) = s := by
  funext j
  unfold su
  cases h : Nat.beq j k with
  | true => rw [Nat.eq_of_beq_eq_true h]; rfl
  | false => rfl
def seM (n m : Nat) (Hb He wi Sg : Nat → Int32) (k : Nat) : Bool := decide ((if rng (Sg (3 * k + 1)) m = true then doM n Hb He wi (Sg (3 * k + 1)).toNatClampNeg (Sg (3 * k)).toNatClampNeg else -1) = Sg (3 * k + 2))
theorem seM_in {n m : Nat} {Hb He wi Sg : Nat → Int32} {k e t : Nat} (h : rng (Sg (3 * k + 1)) m = true) (he : Sg (3 * k + 1) = nI e) (ht : Sg (3 * k) = nI t) (h1 : e < 2 ^ 31) (h2 : t < 2 ^ 31) : seM n m Hb He wi Sg k = decide (doM n Hb He wi e t = Sg (3 * k + 2)) := by
  unfold seM
  rw [if_pos h, he, ht, nI_clamp h1, nI_clamp h2]
theorem seM_out {n m : Nat} {Hb He wi Sg : Nat → Int32} {k : Nat} (h : rng (Sg (3 * k + 1)) m = false) : seM n m Hb He wi Sg k = decide (-1 = Sg (3 * k + 2)) := by
  unfold seM
  rw [if_neg (by rw [h]; decide)]
theorem step_all1 {b : Bool} {P : Nat → Bool} {i : Nat} (h : allB P i = true) (hb : P i = b) : bI b = bI (allB P (i + 1)) := by
  have := step_all (a := true) (b := b) (P := P) (i := i) (by rw [h]; rfl) hb.symm
  simpa using this
theorem exit_all1 {P : Nat → Bool} {i n : Nat} (h : allB P i = false) (hi : i ≤ n) : bI (allB P i) = bI (allB P n) := by
  have := exit_all (a := true) (P := P) (i := i) (n := n) (by rw [h]; rfl) hi
  simpa using this
def vwh (m k : Nat) : Int32 := if ¬ k = m then nI k else -1
def vpw (m k : Nat) : Nat := if ¬ k = m then 2 ^ k else 2 ^ 6
/-- whose it may be, of the first k (the last: nobody) -/
def whF (n m : Nat) (Hb He wi Sg : Nat → Int32) (sg h : Nat) : Nat → Nat
  | 0 => 0
  | k + 1 => whF n m Hb He wi Sg sg h k ||| (if allB (seM n m Hb He (upd wi h (vwh m k)) Sg) sg = true then vpw m k else 0)
def nxS (x : Int32) : Int32 := 1103515245 * x + nI 12345
def ltS (x : Int32) : Nat := x.toBitVec.toNat / 65536
theorem ltS_lt (x : Int32) : ltS x < 65536 := by
  unfold ltS
  have := x.toBitVec.isLt
  omega
theorem ltS_eq (x : Int32) : (x.toUInt32 >>> ((nI 16).toUInt32 &&& Int32.toUInt32 31)).toInt32 = nI (ltS x) := by
  have h := pk_ushr x (nI 16) 16 (by decide)
  apply Int32.toBitVec_inj.mp
  apply BitVec.eq_of_toNat_eq
  rw [h, pk_tn (Nat.lt_trans (ltS_lt x) (by decide))]
  rfl
/-- the lots: the seed and with whom behind k clauses more -/
def wsF (n m : Nat) (RF : Nat → Nat → Bool) (wi : Nat → Int32) (seed : Int32) : Nat → Int32 × (Nat → Int32)
  | 0 => (seed, wi)
  | k + 1 => (nxS (nxS (nxS (wsF n m RF wi seed k).1)), upd (wsF n m RF wi seed k).2 (ltS (nxS (wsF n m RF wi seed k).1) % n) (cmV RF (wsF n m RF wi seed k).2 (ltS (nxS (wsF n m RF wi seed k).1) % n) (nI (1 - ltS (nxS (nxS (wsF n m RF wi seed k).1)) % 2)) (ltS (nxS (nxS (nxS (wsF n m RF wi seed k).1))) % m)))
set_option maxRecDepth 100000 in
set_option maxHeartbeats 1000000 in
theorem j_X12_isSeen {G : GT} (o : Nat) (a : Nat → Nat) (s : Nat → Nat → Int32) (n : Nat) (hn : s 8 0 = nI n) (hn8 : n ≤ 8) (m : Nat) (hm : s 8 1 = nI m) (hm6 : m ≤ 6) (sg : Nat) (hsg : s 21 0 = nI sg) (hsg8 : sg ≤ 8) (hSg : ∀ k, k < sg → ∃ t, t < 24 ∧ s 22 (3 * k) = nI t) {Q : Option Value → va_W → Prop} (hq : ∀ v_ : Int32, v_ = bI (allB (seM n m (s 9) (s 10) (s 17) (s 22)) sg) → Q (some (.int v_)) (mW G o a s)) : J G "isSeen" RX12 cX12_isSeen 5 (some .boolean) 0 0 4 Q 0 0 0 [(0, .ref o)] [] (mW G o a s) := by
  refine J_iconst (v := nI 1) dX12_isSeen_0 (by decide) ?_
  refine J_istore_n [(0, .ref o), (1, .int (nI 1))] dX12_isSeen_1 rfl (by decide) rfl rfl rfl ?_
  refine J_iconst (v := nI 0) dX12_isSeen_2 (by decide) ?_
  refine J_istore_n [(0, .ref o), (1, .int (nI 1)), (2, .int (nI 0))] dX12_isSeen_3 rfl (by decide) rfl rfl rfl ?_
  have L4 : ∀ (f i : Nat), sg - i < f → i ≤ sg → ∀ (x1 : Int32) (x2 : Int32), x1 = bI (allB (seM n m (s 9) (s 10) (s 17) (s 22)) i) → x2 = nI i → J G "isSeen" RX12 cX12_isSeen 5 (some .boolean) 0 0 4 Q 0 0 4 [(0, .ref o), (1, .int x1), (2, .int x2)] [] (mW G o a s) := by
    intro f
    induction f with
    | zero => intro i h; exact absurd h (Nat.not_lt_zero _)
    | succ f ih4 =>
      intro i hf4 hle4  x1 x2 e1 e2
      subst e1
      subst e2
      refine J_iload_n dX12_isSeen_4 rfl rfl ?_
      refine J_aload_n dX12_isSeen_5 rfl rfl ?_
      refine Mg_21 (s := s) (s 21 0) rfl dX12_isSeen_6 ?_
      refine J_rw (y := nI sg) hsg ?_
      refine J_icmp_geN 81 (by omega) (by omega) dX12_isSeen_9 (by decide) (fun kcz1 => ?_) (fun kcz1 => ?_)
      · refine J_iload_n dX12_isSeen_81 rfl rfl ?_
        exact J_zretB dX12_isSeen_82 rfl rfl rfl (hq _ (by first | exact exit_all1 kcz1 (by omega) | (obtain rfl : i = sg := (by omega); rfl)))
      · refine J_iload_n dX12_isSeen_12 rfl rfl ?_
        refine J_if_eqB 81 dX12_isSeen_13 (by decide) (fun kcz2 => ?_) (fun kcz2 => ?_)
        · refine J_iload_n dX12_isSeen_81 rfl rfl ?_
          exact J_zretB dX12_isSeen_82 rfl rfl rfl (hq _ (by first | exact exit_all1 kcz2 (by omega) | (obtain rfl : i = sg := (by omega); rfl)))
        · refine J_aload_n dX12_isSeen_16 rfl rfl ?_
          refine Mg_22 dX12_isSeen_17 ?_
          refine J_iconst (v := nI 3) dX12_isSeen_20 (by decide) ?_
          refine J_iload_n dX12_isSeen_21 rfl rfl ?_
          refine J_imulN dX12_isSeen_22 ?_
          refine J_iconst (v := nI 1) dX12_isSeen_23 (by decide) ?_
          refine J_iaddN dX12_isSeen_24 ?_
          refine Ml_22 (s := s) (s 22) rfl (3 * i + 1) rfl (by omega) dX12_isSeen_25 ?_
          refine J_istore_n [(0, .ref o), (1, .int (bI (allB (seM n m (s 9) (s 10) (s 17) (s 22)) i))), (2, .int (nI i)), (3, .int (s 22 (3 * i + 1)))] dX12_isSeen_26 rfl (by decide) rfl rfl rfl ?_
          refine J_aload_n dX12_isSeen_27 rfl rfl ?_
          refine J_iload_n dX12_isSeen_28 rfl rfl ?_
          refine J_cVi (x := yX12_in) [.int (s 22 (3 * i + 1))] 0 mv_X12_133 (c_X12_isHeir o a s m hm hm6 (s 22 (3 * i + 1))) mW_0 rfl rfl (by decide) (Nat.le_of_ble_eq_true rfl) ⟨Nat.le_refl _, Nat.le_refl _⟩ dX12_isSeen_29 ?_
          refine J_if_eqB 51 dX12_isSeen_32 (by decide) (fun kcz3 => ?_) (fun kcz3 => ?_)
          · refine J_iconst (v := -1) dX12_isSeen_51 (by decide) ?_
            refine J_istore [(0, .ref o), (1, .int (bI (allB (seM n m (s 9) (s 10) (s 17) (s 22)) i))), (2, .int (nI i)), (3, .int (s 22 (3 * i + 1))), (4, .int (-1))] dX12_isSeen_52 (by decide) rfl rfl rfl ?_
            refine J_iload dX12_isSeen_54 rfl ?_
            refine J_aload_n dX12_isSeen_56 rfl rfl ?_
            refine Mg_22 dX12_isSeen_57 ?_
            refine J_iconst (v := nI 3) dX12_isSeen_60 (by decide) ?_
            refine J_iload_n dX12_isSeen_61 rfl rfl ?_
            refine J_imulN dX12_isSeen_62 ?_
            refine J_iconst (v := nI 2) dX12_isSeen_63 (by decide) ?_
            refine J_iaddN dX12_isSeen_64 ?_
            refine Ml_22 (s := s) (s 22) rfl (3 * i + 2) rfl (by omega) dX12_isSeen_65 ?_
            refine J_icmp_ne 73 dX12_isSeen_66 (by decide) (fun kcz4 => ?_) (fun kcz4 => ?_)
            · refine J_iconst (v := nI 0) dX12_isSeen_73 (by decide) ?_
              refine J_istore_n [(0, .ref o), (1, .int (nI 0)), (2, .int (nI i)), (3, .int (s 22 (3 * i + 1))), (4, .int (-1))] dX12_isSeen_74 rfl (by decide) rfl rfl rfl ?_
              refine J_iincN [(0, .ref o), (1, .int (nI 0)), (2, .int (nI (i + 1))), (3, .int (s 22 (3 * i + 1))), (4, .int (-1))] dX12_isSeen_75 rfl (by decide) rfl rfl rfl ?_
              refine J_goto 4 dX12_isSeen_78 (by decide) ?_
              refine J_lv [0, 1, 2] rfl ?_
              exact ih4 (i + 1) (by omega) (by omega)  _ _ (by first | exact step_all1 (b := true) kcz2 (by first | rw [seM_in kcz3 ee9 et9 (by omega) (by omega), decide_eq_true kcz4] | rw [seM_out kcz3, decide_eq_true kcz4]) | exact step_all1 (b := false) kcz2 (by first | rw [seM_in kcz3 ee9 et9 (by omega) (by omega), decide_eq_false kcz4] | rw [seM_out kcz3, decide_eq_false kcz4])) rfl
            · refine J_iconst (v := nI 1) dX12_isSeen_69 (by decide) ?_
              refine J_goto 74 dX12_isSeen_70 (by decide) ?_
              refine J_istore_n [(0, .ref o), (1, .int (nI 1)), (2, .int (nI i)), (3, .int (s 22 (3 * i + 1))), (4, .int (-1))] dX12_isSeen_74 rfl (by decide) rfl rfl rfl ?_
              refine J_iincN [(0, .ref o), (1, .int (nI 1)), (2, .int (nI (i + 1))), (3, .int (s 22 (3 * i + 1))), (4, .int (-1))] dX12_isSeen_75 rfl (by decide) rfl rfl rfl ?_
              refine J_goto 4 dX12_isSeen_78 (by decide) ?_
              refine J_lv [0, 1, 2] rfl ?_
              exact ih4 (i + 1) (by omega) (by omega)  _ _ (by first | exact step_all1 (b := true) kcz2 (by first | rw [seM_in kcz3 ee9 et9 (by omega) (by omega), decide_eq_true kcz4] | rw [seM_out kcz3, decide_eq_true kcz4]) | exact step_all1 (b := false) kcz2 (by first | rw [seM_in kcz3 ee9 et9 (by omega) (by omega), decide_eq_false kcz4] | rw [seM_out kcz3, decide_eq_false kcz4])) rfl
          · obtain ⟨e9, he9, ee9⟩ := (rng_iff (by omega)).mp kcz3
            obtain ⟨t9, ht9, et9⟩ := hSg i (by omega)
            rw [ee9]
            refine J_aload_n dX12_isSeen_35 rfl rfl ?_
            refine J_iload_n dX12_isSeen_36 rfl rfl ?_
            refine J_aload_n dX12_isSeen_37 rfl rfl ?_
            refine Mg_22 dX12_isSeen_38 ?_
            refine J_iconst (v := nI 3) dX12_isSeen_41 (by decide) ?_
            refine J_iload_n dX12_isSeen_42 rfl rfl ?_
            refine J_imulN dX12_isSeen_43 ?_
            refine Ml_22 (s := s) (s 22) rfl (3 * i) rfl (by omega) dX12_isSeen_44 ?_
            refine J_rw (y := nI t9) et9 ?_
            refine J_cVi (x := yX12_in) [.int (nI e9), .int (nI t9)] 0 mv_X12_207 (c_X12_doesNow o a s n hn hn8 e9 t9 (by omega)) mW_0 rfl rfl (by decide) (Nat.le_of_ble_eq_true rfl) ⟨Nat.le_refl _, Nat.le_refl _⟩ dX12_isSeen_45 ?_
            refine J_goto 52 dX12_isSeen_48 (by decide) ?_
            refine J_istore [(0, .ref o), (1, .int (bI (allB (seM n m (s 9) (s 10) (s 17) (s 22)) i))), (2, .int (nI i)), (3, .int (nI e9)), (4, .int (doM n (s 9) (s 10) (s 17) e9 t9))] dX12_isSeen_52 (by decide) rfl rfl rfl ?_
            refine J_iload dX12_isSeen_54 rfl ?_
            refine J_aload_n dX12_isSeen_56 rfl rfl ?_
            refine Mg_22 dX12_isSeen_57 ?_
            refine J_iconst (v := nI 3) dX12_isSeen_60 (by decide) ?_
            refine J_iload_n dX12_isSeen_61 rfl rfl ?_
            refine J_imulN dX12_isSeen_62 ?_
            refine J_iconst (v := nI 2) dX12_isSeen_63 (by decide) ?_
            refine J_iaddN dX12_isSeen_64 ?_
            refine Ml_22 (s := s) (s 22) rfl (3 * i + 2) rfl (by omega) dX12_isSeen_65 ?_
            refine J_icmp_ne 73 dX12_isSeen_66 (by decide) (fun kcz5 => ?_) (fun kcz5 => ?_)
            · refine J_iconst (v := nI 0) dX12_isSeen_73 (by decide) ?_
              refine J_istore_n [(0, .ref o), (1, .int (nI 0)), (2, .int (nI i)), (3, .int (nI e9)), (4, .int (doM n (s 9) (s 10) (s 17) e9 t9))] dX12_isSeen_74 rfl (by decide) rfl rfl rfl ?_
              refine J_iincN [(0, .ref o), (1, .int (nI 0)), (2, .int (nI (i + 1))), (3, .int (nI e9)), (4, .int (doM n (s 9) (s 10) (s 17) e9 t9))] dX12_isSeen_75 rfl (by decide) rfl rfl rfl ?_
              refine J_goto 4 dX12_isSeen_78 (by decide) ?_
              refine J_lv [0, 1, 2] rfl ?_
              exact ih4 (i + 1) (by omega) (by omega)  _ _ (by first | exact step_all1 (b := true) kcz2 (by first | rw [seM_in kcz3 ee9 et9 (by omega) (by omega), decide_eq_true kcz5] | rw [seM_out kcz3, decide_eq_true kcz5]) | exact step_all1 (b := false) kcz2 (by first | rw [seM_in kcz3 ee9 et9 (by omega) (by omega), decide_eq_false kcz5] | rw [seM_out kcz3, decide_eq_false kcz5])) rfl
            · refine J_iconst (v := nI 1) dX12_isSeen_69 (by decide) ?_
              refine J_goto 74 dX12_isSeen_70 (by decide) ?_
              refine J_istore_n [(0, .ref o), (1, .int (nI 1)), (2, .int (nI i)), (3, .int (nI e9)), (4, .int (doM n (s 9) (s 10) (s 17) e9 t9))] dX12_isSeen_74 rfl (by decide) rfl rfl rfl ?_
              refine J_iincN [(0, .ref o), (1, .int (nI 1)), (2, .int (nI (i + 1))), (3, .int (nI e9)), (4, .int (doM n (s 9) (s 10) (s 17) e9 t9))] dX12_isSeen_75 rfl (by decide) rfl rfl rfl ?_
              refine J_goto 4 dX12_isSeen_78 (by decide) ?_
              refine J_lv [0, 1, 2] rfl ?_
              exact ih4 (i + 1) (by omega) (by omega)  _ _ (by first | exact step_all1 (b := true) kcz2 (by first | rw [seM_in kcz3 ee9 et9 (by omega) (by omega), decide_eq_true kcz5] | rw [seM_out kcz3, decide_eq_true kcz5]) | exact step_all1 (b := false) kcz2 (by first | rw [seM_in kcz3 ee9 et9 (by omega) (by omega), decide_eq_false kcz5] | rw [seM_out kcz3, decide_eq_false kcz5])) rfl
  exact L4 (sg + 1) 0 (by omega) (by omega)  _ _ rfl rfl
theorem c_X12_isSeen {G : GT} (o : Nat) (a : Nat → Nat) (s : Nat → Nat → Int32) (n : Nat) (hn : s 8 0 = nI n) (hn8 : n ≤ 8) (m : Nat) (hm : s 8 1 = nI m) (hm6 : m ≤ 6) (sg : Nat) (hsg : s 21 0 = nI sg) (hsg8 : sg ≤ 8) (hSg : ∀ k, k < sg → ∃ t, t < 24 ∧ s 22 (3 * k) = nI t) : Ct G yX12_isSeen cX12_isSeen 5 (some .boolean) 0 0 4 [.ref o] (mW G o a s) (Is (some (.int (bI (allB (seM n m (s 9) (s 10) (s 17) (s 22)) sg)))) (mW G o a s)) := Ct.of rfl (Nat.le_of_ble_eq_true rfl) (j_X12_isSeen o a s n hn hn8 m hm hm6 sg hsg hsg8 hSg (fun _ e => by subst e; exact Is.rf _ _))
set_option maxRecDepth 100000 in
set_option maxHeartbeats 1000000 in
theorem j_X12_whoseOf {G : GT} (o : Nat) (a : Nat → Nat) (s : Nat → Nat → Int32) (n : Nat) (hn : s 8 0 = nI n) (hn8 : n ≤ 8) (m : Nat) (hm : s 8 1 = nI m) (hm6 : m ≤ 6) (sg : Nat) (hsg : s 21 0 = nI sg) (hsg8 : sg ≤ 8) (hSg : ∀ k, k < sg → ∃ t, t < 24 ∧ s 22 (3 * k) = nI t) (h : Nat) (hh : h < 8) {Q : Option Value → va_W → Prop} (hq : ∀ (v_ : Int32) (w_ : va_W), v_ = nI (whF n m (s 9) (s 10) (s 17) (s 22) sg h (m + 1)) → w_ = mW G o a s → Q (some (.int v_)) w_) : J G "whoseOf" RX12 cX12_whoseOf 5 (some .int) 0 0 5 Q 0 0 0 [(0, .ref o), (1, .int (nI h))] [] (mW G o a s) := by
  refine J_aload_n dX12_whoseOf_0 rfl rfl ?_
  refine Mg_17 dX12_whoseOf_1 ?_
  refine J_iload_n dX12_whoseOf_4 rfl rfl ?_
  refine Ml_17 (s := s) (s 17) rfl h rfl (by omega) dX12_whoseOf_5 ?_
  refine J_istore_n [(0, .ref o), (1, .int (nI h)), (2, .int (s 17 h))] dX12_whoseOf_6 rfl (by decide) rfl rfl rfl ?_
  refine J_iconst (v := nI 0) dX12_whoseOf_7 (by decide) ?_
  refine J_istore_n [(0, .ref o), (1, .int (nI h)), (2, .int (s 17 h)), (3, .int (nI 0))] dX12_whoseOf_8 rfl (by decide) rfl rfl rfl ?_
  refine J_iconst (v := nI 0) dX12_whoseOf_9 (by decide) ?_
  refine J_istore [(0, .ref o), (1, .int (nI h)), (2, .int (s 17 h)), (3, .int (nI 0)), (4, .int (nI 0))] dX12_whoseOf_10 (by decide) rfl rfl rfl ?_
  have L12 : ∀ (f i : Nat) (yb : Nat → Int32), m + 1 - i < f → i ≤ m + 1 → (∀ x, upd yb h x = upd (s 17) h x) → ∀ (x3 : Int32) (x4 : Int32), x3 = nI (whF n m (s 9) (s 10) (s 17) (s 22) sg h i) → x4 = nI i → J G "whoseOf" RX12 cX12_whoseOf 5 (some .int) 0 0 5 Q 0 0 12 [(0, .ref o), (1, .int (nI h)), (2, .int (s 17 h)), (3, .int x3), (4, .int x4)] [] (mW G o a (su 17 s yb)) := by
    intro f
    induction f with
    | zero => intro i yb h; exact absurd h (Nat.not_lt_zero _)
    | succ f ih12 =>
      intro i yb hf12 hle12 hyb x3 x4 e3 e4
      subst e3
      subst e4
      refine J_iload dX12_whoseOf_12 rfl ?_
      refine J_aload_n dX12_whoseOf_14 rfl rfl ?_
      refine Mg_8 dX12_whoseOf_15 ?_
      refine J_iconst (v := nI 1) dX12_whoseOf_18 (by decide) ?_
      refine Ml_8 (s := (su 17 s yb)) (s 8) rfl 1 rfl (by omega) dX12_whoseOf_19 ?_
      refine J_rw (y := nI m) hm ?_
      refine J_icmp_gtN 86 (by omega) (by omega) dX12_whoseOf_20 (by decide) (fun kcz1 => ?_) (fun kcz1 => ?_)
      · refine J_aload_n dX12_whoseOf_86 rfl rfl ?_
        refine Mg_17 dX12_whoseOf_87 ?_
        refine J_iload_n dX12_whoseOf_90 rfl rfl ?_
        refine J_iload_n dX12_whoseOf_91 rfl rfl ?_
        refine Ms_17 (s := (su 17 s yb)) yb rfl h rfl (by omega) dX12_whoseOf_92 ?_
        refine J_ws (ws2 := (mW G o a (su 17 s (upd yb h (s 17 h))))) (congrArg (mW G o a) su_tw) ?_
        refine J_iload_n dX12_whoseOf_93 rfl rfl ?_
        exact J_iret dX12_whoseOf_94 rfl rfl rfl (hq _ _ (by have e_ : i = m + 1 := (by omega); subst e_; rfl) (by rw [hyb, fa_upd_same rfl, su_id]))
      · refine J_aload_n dX12_whoseOf_23 rfl rfl ?_
        refine Mg_17 dX12_whoseOf_24 ?_
        refine J_iload_n dX12_whoseOf_27 rfl rfl ?_
        refine J_iload dX12_whoseOf_28 rfl ?_
        refine J_aload_n dX12_whoseOf_30 rfl rfl ?_
        refine Mg_8 dX12_whoseOf_31 ?_
        refine J_iconst (v := nI 1) dX12_whoseOf_34 (by decide) ?_
        refine Ml_8 (s := (su 17 s yb)) (s 8) rfl 1 rfl (by omega) dX12_whoseOf_35 ?_
        refine J_rw (y := nI m) hm ?_
        have K45_1 : ∀ (t0 : Int32), t0 = vwh m i → J G "whoseOf" RX12 cX12_whoseOf 5 (some .int) 0 0 5 Q 0 0 45 [(0, .ref o), (1, .int (nI h)), (2, .int (s 17 h)), (3, .int (nI (whF n m (s 9) (s 10) (s 17) (s 22) sg h i))), (4, .int (nI i))] [.int t0, .int (nI h), .ref (a 17)] (mW G o a (su 17 s yb)) := by
          intro t0 qt0
          subst qt0
          refine Ms_17 (s := (su 17 s yb)) yb rfl h rfl (by omega) dX12_whoseOf_45 ?_
          refine J_ws (ws2 := (mW G o a (su 17 s (upd yb h (vwh m i))))) (congrArg (mW G o a) su_tw) ?_
          refine J_ws (ws2 := (mW G o a (su 17 s (upd (s 17) h (vwh m i))))) (congrArg (mW G o a) (congrArg (su 17 s) (hyb _))) ?_
          refine J_iload_n dX12_whoseOf_46 rfl rfl ?_
          refine J_aload_n dX12_whoseOf_47 rfl rfl ?_
          refine J_cVi (x := yX12_in) [] 0 mv_X12_254 (c_X12_isSeen o a (su 17 s (upd (s 17) h (vwh m i))) n hn hn8 m hm hm6 sg hsg hsg8 hSg) mW_0 rfl rfl (by decide) (Nat.le_of_ble_eq_true rfl) ⟨Nat.le_refl _, Nat.le_refl _⟩ dX12_whoseOf_48 ?_
          refine J_rw (y := bI (allB (seM n m (s 9) (s 10) (upd (s 17) h (vwh m i)) (s 22)) sg)) rfl ?_
          have K78_2 : ∀ (t0 : Int32), t0 = nI (if (allB (seM n m (s 9) (s 10) (upd (s 17) h (vwh m i)) (s 22)) sg) = false then 0 else (if ¬ i = m then 2 ^ i else 2 ^ 6)) → J G "whoseOf" RX12 cX12_whoseOf 5 (some .int) 0 0 5 Q 0 0 78 [(0, .ref o), (1, .int (nI h)), (2, .int (s 17 h)), (3, .int (nI (whF n m (s 9) (s 10) (s 17) (s 22) sg h i))), (4, .int (nI i))] [.int t0, .int (nI (whF n m (s 9) (s 10) (s 17) (s 22) sg h i))] (mW G o a (su 17 s (upd (s 17) h (vwh m i)))) := by
            intro t0 qt0
            subst qt0
            refine J_iorN dX12_whoseOf_78 ?_
            refine J_istore_n [(0, .ref o), (1, .int (nI h)), (2, .int (s 17 h)), (3, .int (nI ((whF n m (s 9) (s 10) (s 17) (s 22) sg h i) ||| (if (allB (seM n m (s 9) (s 10) (upd (s 17) h (vwh m i)) (s 22)) sg) = false then 0 else (if ¬ i = m then 2 ^ i else 2 ^ 6))))), (4, .int (nI i))] dX12_whoseOf_79 rfl (by decide) rfl rfl rfl ?_
            refine J_iincN [(0, .ref o), (1, .int (nI h)), (2, .int (s 17 h)), (3, .int (nI ((whF n m (s 9) (s 10) (s 17) (s 22) sg h i) ||| (if (allB (seM n m (s 9) (s 10) (upd (s 17) h (vwh m i)) (s 22)) sg) = false then 0 else (if ¬ i = m then 2 ^ i else 2 ^ 6))))), (4, .int (nI (i + 1)))] dX12_whoseOf_80 rfl (by decide) rfl rfl rfl ?_
            refine J_goto 12 dX12_whoseOf_83 (by decide) ?_
            exact ih12 (i + 1) (upd (s 17) h (vwh m i)) (by omega) (by omega) (fun x => fa_upd_twice _ _ _ _) _ _ (by simp only [whF, vpw]; rw [ite_bf]) rfl
          refine J_if_eqB 77 dX12_whoseOf_51 (by decide) (fun kcz4 => ?_) (fun kcz4 => ?_)
          · refine J_iconst (v := nI 0) dX12_whoseOf_77 (by decide) ?_
            exact K78_2 _ (by first | (simp [kcz1, kcz4]; done) | simp_all)
          · refine J_iconst (v := nI 1) dX12_whoseOf_54 (by decide) ?_
            refine J_iload dX12_whoseOf_55 rfl ?_
            refine J_aload_n dX12_whoseOf_57 rfl rfl ?_
            refine Mg_8 dX12_whoseOf_58 ?_
            refine J_iconst (v := nI 1) dX12_whoseOf_61 (by decide) ?_
            refine Ml_8 (s := (su 17 s (upd (s 17) h (vwh m i)))) (s 8) rfl 1 rfl (by omega) dX12_whoseOf_62 ?_
            refine J_rw (y := nI m) hm ?_
            refine J_icmp_neN 71 (by omega) (by omega) dX12_whoseOf_63 (by decide) (fun kcz5 => ?_) (fun kcz5 => ?_)
            · refine J_iload dX12_whoseOf_71 rfl ?_
              refine J_shl1N dX12_whoseOf_73 (by omega) ?_
              refine J_goto 78 dX12_whoseOf_74 (by decide) ?_
              exact K78_2 _ (by first | (simp [kcz1, kcz4, kcz5]; done) | simp_all)
            · refine J_bipush (v := nI 6) dX12_whoseOf_66 (by decide) ?_
              refine J_goto 73 dX12_whoseOf_68 (by decide) ?_
              refine J_shl1N dX12_whoseOf_73 (by omega) ?_
              refine J_goto 78 dX12_whoseOf_74 (by decide) ?_
              exact K78_2 _ (by first | (simp [kcz1, kcz4, kcz5]; done) | simp_all)
        refine J_icmp_neN 43 (by omega) (by omega) dX12_whoseOf_36 (by decide) (fun kcz6 => ?_) (fun kcz6 => ?_)
        · refine J_iload dX12_whoseOf_43 rfl ?_
          exact K45_1 _ (by simp [vwh, kcz1, kcz6])
        · refine J_iconst (v := -1) dX12_whoseOf_39 (by decide) ?_
          refine J_goto 45 dX12_whoseOf_40 (by decide) ?_
          exact K45_1 _ (by simp [vwh, kcz1, kcz6])
  exact L12 (m + 2) 0 (s 17) (by omega) (by omega) (fun x => rfl) _ _ rfl rfl
theorem c_X12_whoseOf {G : GT} (o : Nat) (a : Nat → Nat) (s : Nat → Nat → Int32) (n : Nat) (hn : s 8 0 = nI n) (hn8 : n ≤ 8) (m : Nat) (hm : s 8 1 = nI m) (hm6 : m ≤ 6) (sg : Nat) (hsg : s 21 0 = nI sg) (hsg8 : sg ≤ 8) (hSg : ∀ k, k < sg → ∃ t, t < 24 ∧ s 22 (3 * k) = nI t) (h : Nat) (hh : h < 8) : Ct G yX12_whoseOf cX12_whoseOf 5 (some .int) 0 0 5 [.ref o, .int (nI h)] (mW G o a s) (Is (some (.int (nI (whF n m (s 9) (s 10) (s 17) (s 22) sg h (m + 1))))) (mW G o a s)) := Ct.of rfl (Nat.le_of_ble_eq_true rfl) (j_X12_whoseOf o a s n hn hn8 m hm hm6 sg hsg hsg8 hSg h hh (fun _ _ h1 h2 => by subst h1; subst h2; exact Is.rf _ _))
set_option maxRecDepth 100000 in
set_option maxHeartbeats 1000000 in
theorem j_X12_lot {G : GT} (o : Nat) (a : Nat → Nat) (s : Nat → Nat → Int32) (b : Nat) (hb0 : 0 < b) (hb8 : b ≤ 8) {Q : Option Value → va_W → Prop} (hq : ∀ v_ : Int32, v_ = nI (ltS (nxS (s 24 0)) % b) → Q (some (.int v_)) (mW G o a (su 24 s (fun _ => nxS (s 24 0))))) : J G "lot" RX12 cX12_lot 2 (some .int) 0 0 0 Q 0 0 0 [(0, .ref o), (1, .int (nI b))] [] (mW G o a s) := by
  refine J_aload_n dX12_lot_0 rfl rfl ?_
  refine J_ldcw dX12_lot_1 k_X12_284 ?_
  refine J_aload_n dX12_lot_4 rfl rfl ?_
  refine Mg_24 (s := s) (s 24 0) rfl dX12_lot_5 ?_
  refine J_imul dX12_lot_8 ?_
  refine J_sipush (v := nI 12345) dX12_lot_9 (by decide) ?_
  refine J_iadd dX12_lot_12 ?_
  refine J_rw (y := nxS (s 24 0)) rfl ?_
  refine Mp_24 dX12_lot_13 ?_
  refine J_aload_n dX12_lot_16 rfl rfl ?_
  refine Mg_24 (s := (su 24 s (fun _ => nxS (s 24 0)))) (nxS (s 24 0)) rfl dX12_lot_17 ?_
  refine J_bipush (v := nI 16) dX12_lot_20 (by decide) ?_
  refine J_iushr dX12_lot_22 ?_
  refine J_rw (y := nI (ltS (nxS (s 24 0)))) (ltS_eq _) ?_
  refine J_iload_n dX12_lot_23 rfl rfl ?_
  refine J_irem dX12_lot_24 (nI_ne0 hb0 (by omega)) ?_
  refine J_rw (y := nI (ltS (nxS (s 24 0)) % b)) (pk_rem (by have := ltS_lt (nxS (s 24 0)); omega) hb0 (by omega)) ?_
  exact J_iret dX12_lot_25 rfl rfl rfl (hq _ rfl)
theorem c_X12_lot {G : GT} (o : Nat) (a : Nat → Nat) (s : Nat → Nat → Int32) (b : Nat) (hb0 : 0 < b) (hb8 : b ≤ 8) : Ct G yX12_lot cX12_lot 2 (some .int) 0 0 0 [.ref o, .int (nI b)] (mW G o a s) (Is (some (.int (nI (ltS (nxS (s 24 0)) % b)))) (mW G o a (su 24 s (fun _ => nxS (s 24 0))))) := Ct.of rfl (Nat.le_of_ble_eq_true rfl) (j_X12_lot o a s b hb0 hb8 (fun _ e => by subst e; exact Is.rf _ _))
set_option maxRecDepth 100000 in
set_option maxHeartbeats 1000000 in
theorem j_X12_willsOf {G : GT} (o : Nat) (a : Nat → Nat) (s : Nat → Nat → Int32) (n : Nat) (hn : s 8 0 = nI n) (hn8 : n ≤ 8) (m : Nat) (hm : s 8 1 = nI m) (hm6 : m ≤ 6) (c : Nat) (hc : s 8 2 = nI c) (hc15 : c ≤ 15) (hCl : ∀ k, k < c → s 11 (4 * k + 3) = -1 ∨ ∃ j, j < 8 ∧ s 11 (4 * k + 3) = nI j) (rf ao : Nat) (hrf : s 12 0 = nI rf) (hrf12 : rf ≤ 12) (hao : s 15 0 = nI ao) (hao8 : ao < 256) (seed : Int32) (k q : Nat) (hn0 : 0 < n) (hm0 : 0 < m) (hk20 : k ≤ 20) (hq6 : q < 6) {Q : Option Value → va_W → Prop} (hq : ∀ v_ : Int32, v_ = wrM n (s 9) (wsF n m (rfsM rf (s 13) (s 14 0) ao) (s 17) seed k).2 q → Q (some (.int v_)) (mW G o a (su 24 (su 18 (su 17 s ((wlF n m (s 11) (rfsM rf (s 13) (s 14 0) ao) c).1)) (fun _ => nI (wlF n m (s 11) (rfsM rf (s 13) (s 14 0) ao) c).2)) (fun _ => (wsF n m (rfsM rf (s 13) (s 14 0) ao) (s 17) seed k).1)))) : J G "willsOf" RX12 cX12_willsOf 7 (some .int) 0 0 4 Q 0 0 0 [(0, .ref o), (1, .int seed), (2, .int (nI k)), (3, .int (nI q))] [] (mW G o a s) := by
  refine J_aload_n dX12_willsOf_0 rfl rfl ?_
  refine J_iload_n dX12_willsOf_1 rfl rfl ?_
  refine Mp_24 dX12_willsOf_2 ?_
  refine J_iconst (v := nI 0) dX12_willsOf_5 (by decide) ?_
  refine J_istore [(0, .ref o), (1, .int seed), (2, .int (nI k)), (3, .int (nI q)), (4, .int (nI 0))] dX12_willsOf_6 (by decide) rfl rfl rfl ?_
  have L8 : ∀ (f i : Nat), k - i < f → i ≤ k → ∀ (x4 : Int32) (y17 : Nat → Int32) (y24 : Nat → Int32), x4 = nI i → y17 = ((wsF n m (rfsM rf (s 13) (s 14 0) ao) (s 17) seed i).2) → y24 = (fun _ => (wsF n m (rfsM rf (s 13) (s 14 0) ao) (s 17) seed i).1) → J G "willsOf" RX12 cX12_willsOf 7 (some .int) 0 0 4 Q 0 0 8 [(0, .ref o), (1, .int seed), (2, .int (nI k)), (3, .int (nI q)), (4, .int x4)] [] (mW G o a (su 24 (su 17 s y17) y24)) := by
    intro f
    induction f with
    | zero => intro i h; exact absurd h (Nat.not_lt_zero _)
    | succ f ih8 =>
      intro i hf8 hle8  x4 y17 y24 e4 g17 g24
      subst e4
      subst g17
      subst g24
      have hmn := Nat.mod_lt (ltS (nxS (wsF n m (rfsM rf (s 13) (s 14 0) ao) (s 17) seed i).1)) hn0
      have hmm := Nat.mod_lt (ltS (nxS (nxS (nxS (wsF n m (rfsM rf (s 13) (s 14 0) ao) (s 17) seed i).1)))) hm0
      refine J_iload dX12_willsOf_8 rfl ?_
      refine J_iload_n dX12_willsOf_10 rfl rfl ?_
      refine J_icmp_geN 60 (by omega) (by omega) dX12_willsOf_11 (by decide) (fun kcz1 => ?_) (fun kcz1 => ?_)
      · obtain rfl : k = i := (by omega)
        refine J_aload_n dX12_willsOf_60 rfl rfl ?_
        refine J_iload_n dX12_willsOf_61 rfl rfl ?_
        refine J_cVi (x := yX12_in) [.int (nI q)] 0 mv_X12_195 (c_X12_worthNow o a (su 24 (su 17 s ((wsF n m (rfsM rf (s 13) (s 14 0) ao) (s 17) seed k).2)) (fun _ => (wsF n m (rfsM rf (s 13) (s 14 0) ao) (s 17) seed k).1)) n hn hn8 q) mW_0 rfl rfl (by decide) (Nat.le_of_ble_eq_true rfl) ⟨Nat.le_refl _, Nat.le_refl _⟩ dX12_willsOf_62 ?_
        refine J_rw (y := wrM n (s 9) ((wsF n m (rfsM rf (s 13) (s 14 0) ao) (s 17) seed k).2) q) rfl ?_
        refine J_istore [(0, .ref o), (1, .int seed), (2, .int (nI k)), (3, .int (nI q)), (4, .int (wrM n (s 9) ((wsF n m (rfsM rf (s 13) (s 14 0) ao) (s 17) seed k).2) q))] dX12_willsOf_65 (by decide) rfl rfl rfl ?_
        refine J_aload_n dX12_willsOf_67 rfl rfl ?_
        refine J_cVv (x := yX12_in) [] 0 mv_X12_168 (c_X12_readsWill o a (su 24 (su 17 s ((wsF n m (rfsM rf (s 13) (s 14 0) ao) (s 17) seed k).2)) (fun _ => (wsF n m (rfsM rf (s 13) (s 14 0) ao) (s 17) seed k).1)) n hn hn8 m hm hm6 c hc hc15 hCl rf ao hrf hrf12 hao (by first | decide | omega)) mW_0 rfl rfl (by decide) (Nat.le_of_ble_eq_true rfl) ⟨Nat.le_refl _, Nat.le_refl _⟩ dX12_willsOf_68 ?_
        show J G "willsOf" RX12 cX12_willsOf 7 (some .int) 0 0 4 Q 0 0 71 [(0, .ref o), (1, .int seed), (2, .int (nI k)), (3, .int (nI q)), (4, .int (wrM n (s 9) ((wsF n m (rfsM rf (s 13) (s 14 0) ao) (s 17) seed k).2) q))] [] (mW G o a (su 18 (su 17 (su 24 (su 17 s ((wsF n m (rfsM rf (s 13) (s 14 0) ao) (s 17) seed k).2)) (fun _ => (wsF n m (rfsM rf (s 13) (s 14 0) ao) (s 17) seed k).1)) ((wlF n m (s 11) (rfsM rf (s 13) (s 14 0) ao) c).1)) (fun _ => nI (wlF n m (s 11) (rfsM rf (s 13) (s 14 0) ao) c).2)))
        refine J_ws (ws2 := (mW G o a (su 24 (su 18 (su 17 s ((wlF n m (s 11) (rfsM rf (s 13) (s 14 0) ao) c).1)) (fun _ => nI (wlF n m (s 11) (rfsM rf (s 13) (s 14 0) ao) c).2)) (fun _ => (wsF n m (rfsM rf (s 13) (s 14 0) ao) (s 17) seed k).1)))) (congrArg (mW G o a) (Eq.trans (su_cg ((su_sw (by decide)).trans (su_cg su_tw))) (su_sw (by decide)))) ?_
        refine J_iload dX12_willsOf_71 rfl ?_
        exact J_iret dX12_willsOf_73 rfl rfl rfl (hq _ (by simp [kcz1]))
      · refine J_aload_n dX12_willsOf_14 rfl rfl ?_
        refine J_aload_n dX12_willsOf_15 rfl rfl ?_
        refine Mg_8 dX12_willsOf_16 ?_
        refine J_iconst (v := nI 0) dX12_willsOf_19 (by decide) ?_
        refine Ml_8 (s := (su 24 (su 17 s ((wsF n m (rfsM rf (s 13) (s 14 0) ao) (s 17) seed i).2)) (fun _ => (wsF n m (rfsM rf (s 13) (s 14 0) ao) (s 17) seed i).1))) (s 8) rfl 0 rfl (by omega) dX12_willsOf_20 ?_
        refine J_rw (y := nI n) hn ?_
        refine J_cVi (x := yX12_in) [.int (nI n)] 0 mv_X12_288 (c_X12_lot o a (su 24 (su 17 s ((wsF n m (rfsM rf (s 13) (s 14 0) ao) (s 17) seed i).2)) (fun _ => (wsF n m (rfsM rf (s 13) (s 14 0) ao) (s 17) seed i).1)) n (by omega) (by omega)) mW_0 rfl rfl (by decide) (Nat.le_of_ble_eq_true rfl) ⟨Nat.le_refl _, Nat.le_refl _⟩ dX12_willsOf_21 ?_
        refine J_rw (y := nI (ltS (nxS ((wsF n m (rfsM rf (s 13) (s 14 0) ao) (s 17) seed i).1)) % n)) rfl ?_
        show J G "willsOf" RX12 cX12_willsOf 7 (some .int) 0 0 4 Q 0 0 24 [(0, .ref o), (1, .int seed), (2, .int (nI k)), (3, .int (nI q)), (4, .int (nI i))] [.int (nI (ltS (nxS ((wsF n m (rfsM rf (s 13) (s 14 0) ao) (s 17) seed i).1)) % n))] (mW G o a (su 24 (su 24 (su 17 s ((wsF n m (rfsM rf (s 13) (s 14 0) ao) (s 17) seed i).2)) (fun _ => (wsF n m (rfsM rf (s 13) (s 14 0) ao) (s 17) seed i).1)) (fun _ => nxS ((wsF n m (rfsM rf (s 13) (s 14 0) ao) (s 17) seed i).1))))
        refine J_ws (ws2 := (mW G o a (su 24 (su 17 s ((wsF n m (rfsM rf (s 13) (s 14 0) ao) (s 17) seed i).2)) (fun _ => nxS ((wsF n m (rfsM rf (s 13) (s 14 0) ao) (s 17) seed i).1))))) (congrArg (mW G o a) su_tw) ?_
        refine J_istore [(0, .ref o), (1, .int seed), (2, .int (nI k)), (3, .int (nI q)), (4, .int (nI i)), (5, .int (nI (ltS (nxS ((wsF n m (rfsM rf (s 13) (s 14 0) ao) (s 17) seed i).1)) % n)))] dX12_willsOf_24 (by decide) rfl rfl rfl ?_
        refine J_iconst (v := nI 1) dX12_willsOf_26 (by decide) ?_
        refine J_aload_n dX12_willsOf_27 rfl rfl ?_
        refine J_iconst (v := nI 2) dX12_willsOf_28 (by decide) ?_
        refine J_cVi (x := yX12_in) [.int (nI 2)] 0 mv_X12_288 (c_X12_lot o a (su 24 (su 17 s ((wsF n m (rfsM rf (s 13) (s 14 0) ao) (s 17) seed i).2)) (fun _ => nxS ((wsF n m (rfsM rf (s 13) (s 14 0) ao) (s 17) seed i).1))) 2 (by omega) (by omega)) mW_0 rfl rfl (by decide) (Nat.le_of_ble_eq_true rfl) ⟨Nat.le_refl _, Nat.le_refl _⟩ dX12_willsOf_29 ?_
        refine J_rw (y := nI (ltS (nxS (nxS ((wsF n m (rfsM rf (s 13) (s 14 0) ao) (s 17) seed i).1))) % 2)) rfl ?_
        show J G "willsOf" RX12 cX12_willsOf 7 (some .int) 0 0 4 Q 0 0 32 [(0, .ref o), (1, .int seed), (2, .int (nI k)), (3, .int (nI q)), (4, .int (nI i)), (5, .int (nI (ltS (nxS ((wsF n m (rfsM rf (s 13) (s 14 0) ao) (s 17) seed i).1)) % n)))] [.int (nI (ltS (nxS (nxS ((wsF n m (rfsM rf (s 13) (s 14 0) ao) (s 17) seed i).1))) % 2)), .int (nI 1)] (mW G o a (su 24 (su 24 (su 17 s ((wsF n m (rfsM rf (s 13) (s 14 0) ao) (s 17) seed i).2)) (fun _ => nxS ((wsF n m (rfsM rf (s 13) (s 14 0) ao) (s 17) seed i).1))) (fun _ => nxS (nxS ((wsF n m (rfsM rf (s 13) (s 14 0) ao) (s 17) seed i).1)))))
        refine J_ws (ws2 := (mW G o a (su 24 (su 17 s ((wsF n m (rfsM rf (s 13) (s 14 0) ao) (s 17) seed i).2)) (fun _ => nxS (nxS ((wsF n m (rfsM rf (s 13) (s 14 0) ao) (s 17) seed i).1)))))) (congrArg (mW G o a) su_tw) ?_
        refine J_isubN dX12_willsOf_32 (by have := Nat.mod_lt (ltS (nxS (nxS (wsF n m (rfsM rf (s 13) (s 14 0) ao) (s 17) seed i).1))) (show 0 < 2 by decide); omega) ?_
        refine J_istore [(0, .ref o), (1, .int seed), (2, .int (nI k)), (3, .int (nI q)), (4, .int (nI i)), (5, .int (nI (ltS (nxS ((wsF n m (rfsM rf (s 13) (s 14 0) ao) (s 17) seed i).1)) % n))), (6, .int (nI (1 - (ltS (nxS (nxS ((wsF n m (rfsM rf (s 13) (s 14 0) ao) (s 17) seed i).1))) % 2))))] dX12_willsOf_33 (by decide) rfl rfl rfl ?_
        refine J_aload_n dX12_willsOf_35 rfl rfl ?_
        refine J_iload dX12_willsOf_36 rfl ?_
        refine J_iload dX12_willsOf_38 rfl ?_
        refine J_aload_n dX12_willsOf_40 rfl rfl ?_
        refine J_aload_n dX12_willsOf_41 rfl rfl ?_
        refine Mg_8 dX12_willsOf_42 ?_
        refine J_iconst (v := nI 1) dX12_willsOf_45 (by decide) ?_
        refine Ml_8 (s := (su 24 (su 17 s ((wsF n m (rfsM rf (s 13) (s 14 0) ao) (s 17) seed i).2)) (fun _ => nxS (nxS ((wsF n m (rfsM rf (s 13) (s 14 0) ao) (s 17) seed i).1))))) (s 8) rfl 1 rfl (by omega) dX12_willsOf_46 ?_
        refine J_rw (y := nI m) hm ?_
        refine J_cVi (x := yX12_in) [.int (nI m)] 0 mv_X12_288 (c_X12_lot o a (su 24 (su 17 s ((wsF n m (rfsM rf (s 13) (s 14 0) ao) (s 17) seed i).2)) (fun _ => nxS (nxS ((wsF n m (rfsM rf (s 13) (s 14 0) ao) (s 17) seed i).1)))) m (by omega) (by omega)) mW_0 rfl rfl (by decide) (Nat.le_of_ble_eq_true rfl) ⟨Nat.le_refl _, Nat.le_refl _⟩ dX12_willsOf_47 ?_
        refine J_rw (y := nI (ltS (nxS (nxS (nxS ((wsF n m (rfsM rf (s 13) (s 14 0) ao) (s 17) seed i).1)))) % m)) rfl ?_
        show J G "willsOf" RX12 cX12_willsOf 7 (some .int) 0 0 4 Q 0 0 50 [(0, .ref o), (1, .int seed), (2, .int (nI k)), (3, .int (nI q)), (4, .int (nI i)), (5, .int (nI (ltS (nxS ((wsF n m (rfsM rf (s 13) (s 14 0) ao) (s 17) seed i).1)) % n))), (6, .int (nI (1 - (ltS (nxS (nxS ((wsF n m (rfsM rf (s 13) (s 14 0) ao) (s 17) seed i).1))) % 2))))] [.int (nI (ltS (nxS (nxS (nxS ((wsF n m (rfsM rf (s 13) (s 14 0) ao) (s 17) seed i).1)))) % m)), .int (nI (1 - (ltS (nxS (nxS ((wsF n m (rfsM rf (s 13) (s 14 0) ao) (s 17) seed i).1))) % 2))), .int (nI (ltS (nxS ((wsF n m (rfsM rf (s 13) (s 14 0) ao) (s 17) seed i).1)) % n)), .ref o] (mW G o a (su 24 (su 24 (su 17 s ((wsF n m (rfsM rf (s 13) (s 14 0) ao) (s 17) seed i).2)) (fun _ => nxS (nxS ((wsF n m (rfsM rf (s 13) (s 14 0) ao) (s 17) seed i).1)))) (fun _ => nxS (nxS (nxS ((wsF n m (rfsM rf (s 13) (s 14 0) ao) (s 17) seed i).1))))))
        refine J_ws (ws2 := (mW G o a (su 24 (su 17 s ((wsF n m (rfsM rf (s 13) (s 14 0) ao) (s 17) seed i).2)) (fun _ => nxS (nxS (nxS ((wsF n m (rfsM rf (s 13) (s 14 0) ao) (s 17) seed i).1))))))) (congrArg (mW G o a) su_tw) ?_
        refine J_cVi (x := yX12_in) [.int (nI (ltS (nxS ((wsF n m (rfsM rf (s 13) (s 14 0) ao) (s 17) seed i).1)) % n)), .int (nI (1 - (ltS (nxS (nxS ((wsF n m (rfsM rf (s 13) (s 14 0) ao) (s 17) seed i).1))) % 2))), .int (nI (ltS (nxS (nxS (nxS ((wsF n m (rfsM rf (s 13) (s 14 0) ao) (s 17) seed i).1)))) % m))] 0 mv_X12_164 (c_X12_comes o a (su 24 (su 17 s ((wsF n m (rfsM rf (s 13) (s 14 0) ao) (s 17) seed i).2)) (fun _ => nxS (nxS (nxS ((wsF n m (rfsM rf (s 13) (s 14 0) ao) (s 17) seed i).1))))) rf ao hrf hrf12 hao (by omega) (ltS (nxS ((wsF n m (rfsM rf (s 13) (s 14 0) ao) (s 17) seed i).1)) % n) (ltS (nxS (nxS (nxS ((wsF n m (rfsM rf (s 13) (s 14 0) ao) (s 17) seed i).1)))) % m) (nI (1 - (ltS (nxS (nxS ((wsF n m (rfsM rf (s 13) (s 14 0) ao) (s 17) seed i).1))) % 2))) (by omega)) mW_0 rfl rfl (by decide) (Nat.le_of_ble_eq_true rfl) ⟨Nat.le_refl _, Nat.le_refl _⟩ dX12_willsOf_50 ?_
        refine J_rw (y := bI (!decide (cmV (rfsM rf (s 13) (s 14 0) ao) ((wsF n m (rfsM rf (s 13) (s 14 0) ao) (s 17) seed i).2) (ltS (nxS ((wsF n m (rfsM rf (s 13) (s 14 0) ao) (s 17) seed i).1)) % n) (nI (1 - (ltS (nxS (nxS ((wsF n m (rfsM rf (s 13) (s 14 0) ao) (s 17) seed i).1))) % 2))) (ltS (nxS (nxS (nxS ((wsF n m (rfsM rf (s 13) (s 14 0) ao) (s 17) seed i).1)))) % m) = ((wsF n m (rfsM rf (s 13) (s 14 0) ao) (s 17) seed i).2) (ltS (nxS ((wsF n m (rfsM rf (s 13) (s 14 0) ao) (s 17) seed i).1)) % n)))) rfl ?_
        show J G "willsOf" RX12 cX12_willsOf 7 (some .int) 0 0 4 Q 0 0 53 [(0, .ref o), (1, .int seed), (2, .int (nI k)), (3, .int (nI q)), (4, .int (nI i)), (5, .int (nI (ltS (nxS ((wsF n m (rfsM rf (s 13) (s 14 0) ao) (s 17) seed i).1)) % n))), (6, .int (nI (1 - (ltS (nxS (nxS ((wsF n m (rfsM rf (s 13) (s 14 0) ao) (s 17) seed i).1))) % 2))))] [.int (bI (!decide (cmV (rfsM rf (s 13) (s 14 0) ao) ((wsF n m (rfsM rf (s 13) (s 14 0) ao) (s 17) seed i).2) (ltS (nxS ((wsF n m (rfsM rf (s 13) (s 14 0) ao) (s 17) seed i).1)) % n) (nI (1 - (ltS (nxS (nxS ((wsF n m (rfsM rf (s 13) (s 14 0) ao) (s 17) seed i).1))) % 2))) (ltS (nxS (nxS (nxS ((wsF n m (rfsM rf (s 13) (s 14 0) ao) (s 17) seed i).1)))) % m) = ((wsF n m (rfsM rf (s 13) (s 14 0) ao) (s 17) seed i).2) (ltS (nxS ((wsF n m (rfsM rf (s 13) (s 14 0) ao) (s 17) seed i).1)) % n))))] (mW G o a (su 17 (su 24 (su 17 s ((wsF n m (rfsM rf (s 13) (s 14 0) ao) (s 17) seed i).2)) (fun _ => nxS (nxS (nxS ((wsF n m (rfsM rf (s 13) (s 14 0) ao) (s 17) seed i).1))))) (upd ((wsF n m (rfsM rf (s 13) (s 14 0) ao) (s 17) seed i).2) (ltS (nxS ((wsF n m (rfsM rf (s 13) (s 14 0) ao) (s 17) seed i).1)) % n) (cmV (rfsM rf (s 13) (s 14 0) ao) ((wsF n m (rfsM rf (s 13) (s 14 0) ao) (s 17) seed i).2) (ltS (nxS ((wsF n m (rfsM rf (s 13) (s 14 0) ao) (s 17) seed i).1)) % n) (nI (1 - (ltS (nxS (nxS ((wsF n m (rfsM rf (s 13) (s 14 0) ao) (s 17) seed i).1))) % 2))) (ltS (nxS (nxS (nxS ((wsF n m (rfsM rf (s 13) (s 14 0) ao) (s 17) seed i).1)))) % m)))))
        refine J_ws (ws2 := (mW G o a (su 24 (su 17 s (upd ((wsF n m (rfsM rf (s 13) (s 14 0) ao) (s 17) seed i).2) (ltS (nxS ((wsF n m (rfsM rf (s 13) (s 14 0) ao) (s 17) seed i).1)) % n) (cmV (rfsM rf (s 13) (s 14 0) ao) ((wsF n m (rfsM rf (s 13) (s 14 0) ao) (s 17) seed i).2) (ltS (nxS ((wsF n m (rfsM rf (s 13) (s 14 0) ao) (s 17) seed i).1)) % n) (nI (1 - (ltS (nxS (nxS ((wsF n m (rfsM rf (s 13) (s 14 0) ao) (s 17) seed i).1))) % 2))) (ltS (nxS (nxS (nxS ((wsF n m (rfsM rf (s 13) (s 14 0) ao) (s 17) seed i).1)))) % m)))) (fun _ => nxS (nxS (nxS ((wsF n m (rfsM rf (s 13) (s 14 0) ao) (s 17) seed i).1))))))) (congrArg (mW G o a) ((su_sw (by decide)).trans (su_cg su_tw))) ?_
        refine J_pop dX12_willsOf_53 rfl ?_
        refine J_iincN [(0, .ref o), (1, .int seed), (2, .int (nI k)), (3, .int (nI q)), (4, .int (nI (i + 1))), (5, .int (nI (ltS (nxS ((wsF n m (rfsM rf (s 13) (s 14 0) ao) (s 17) seed i).1)) % n))), (6, .int (nI (1 - (ltS (nxS (nxS ((wsF n m (rfsM rf (s 13) (s 14 0) ao) (s 17) seed i).1))) % 2))))] dX12_willsOf_54 rfl (by decide) rfl rfl rfl ?_
        refine J_goto 8 dX12_willsOf_57 (by decide) ?_
        refine J_lv [0, 1, 2, 3, 4] rfl ?_
        exact ih8 (i + 1) (by omega) (by omega)  _ _ _ rfl rfl rfl
  exact L8 (k + 1) 0 (by omega) (by omega)  _ _ _ rfl rfl rfl
theorem c_X12_willsOf {G : GT} (o : Nat) (a : Nat → Nat) (s : Nat → Nat → Int32) (n : Nat) (hn : s 8 0 = nI n) (hn8 : n ≤ 8) (m : Nat) (hm : s 8 1 = nI m) (hm6 : m ≤ 6) (c : Nat) (hc : s 8 2 = nI c) (hc15 : c ≤ 15) (hCl : ∀ k, k < c → s 11 (4 * k + 3) = -1 ∨ ∃ j, j < 8 ∧ s 11 (4 * k + 3) = nI j) (rf ao : Nat) (hrf : s 12 0 = nI rf) (hrf12 : rf ≤ 12) (hao : s 15 0 = nI ao) (hao8 : ao < 256) (seed : Int32) (k q : Nat) (hn0 : 0 < n) (hm0 : 0 < m) (hk20 : k ≤ 20) (hq6 : q < 6) : Ct G yX12_willsOf cX12_willsOf 7 (some .int) 0 0 4 [.ref o, .int seed, .int (nI k), .int (nI q)] (mW G o a s) (Is (some (.int (wrM n (s 9) (wsF n m (rfsM rf (s 13) (s 14 0) ao) (s 17) seed k).2 q))) (mW G o a (su 24 (su 18 (su 17 s ((wlF n m (s 11) (rfsM rf (s 13) (s 14 0) ao) c).1)) (fun _ => nI (wlF n m (s 11) (rfsM rf (s 13) (s 14 0) ao) c).2)) (fun _ => (wsF n m (rfsM rf (s 13) (s 14 0) ao) (s 17) seed k).1)))) := Ct.of rfl (Nat.le_of_ble_eq_true rfl) (j_X12_willsOf o a s n hn hn8 m hm hm6 c hc hc15 hCl rf ao hrf hrf12 hao hao8 seed k q hn0 hm0 hk20 hq6 (fun _ e => by subst e; exact Is.rf _ _))
