def valM (V : Nat → Int32) (q d : Nat) : Int32 := smI (fun k => if d.testBit k = true then V (7 * q + k) else nI 0) 7
def prB (V : Nat → Int32) (q1 q2 d : Nat) (most : Int32) : Bool := (!decide (valM V q1 d < valM V q1 (127 - d)) && !decide (valM V q2 (127 - d) < valM V q2 d)) && !decide (valM V q1 d + valM V q2 (127 - d) ≤ most)
def prF (V : Nat → Int32) (q1 q2 : Nat) : Nat → Int32 × Int32
  | 0 => (-1, -1)
  | d + 1 => if prB V q1 q2 d (prF V q1 q2 d).2 = true then (nI d, valM V q1 d + valM V q2 (127 - d)) else prF V q1 q2 d
def tlM (v : Int32) (what : Nat) : Int32 := if v = -1 ∨ what = 1 then v else nI (popc v.toNatClampNeg)
def wrB (n m c : Nat) (Hb He Cl : Nat → Int32) (rf : Nat) (Rf : Nat → Int32) (q k : Nat) (best : Int32) : Bool := (decide (best = -1) || !decide (popc best.toNatClampNeg ≤ popc k)) && livM n Hb He (wlF n m Cl (rfsM rf Rf (nI q) k) c).1 q
/-- of the first k sets of refusals, the fewest by which he lives -/
def wrF (n m c : Nat) (Hb He Cl : Nat → Int32) (rf : Nat) (Rf : Nat → Int32) (q : Nat) : Nat → Int32
  | 0 => -1
  | k + 1 => if wrB n m c Hb He Cl rf Rf q k (wrF n m c Hb He Cl rf Rf q k) = true then nI k else wrF n m c Hb He Cl rf Rf q k
theorem wrF_rng (n m c : Nat) (Hb He Cl : Nat → Int32) (rf : Nat) (Rf : Nat → Int32) (q k : Nat) : wrF n m c Hb He Cl rf Rf q k = -1 ∨ ∃ j, j < k ∧ wrF n m c Hb He Cl rf Rf q k = nI j := by
  induction k with
  | zero => exact Or.inl rfl
  | succ k ih =>
    rw [wrF]
    split
    · exact Or.inr ⟨k, by omega, rfl⟩
    · rcases ih with ih | ⟨j, hj, ih⟩
      · exact Or.inl ih
      · exact Or.inr ⟨j, by omega, ih⟩
theorem wrF_nI {n m c : Nat} {Hb He Cl : Nat → Int32} {rf : Nat} {Rf : Nat → Int32} {q k : Nat} (h : ¬ wrF n m c Hb He Cl rf Rf q k = -1) (hk : k ≤ 256) : wrF n m c Hb He Cl rf Rf q k = nI (wrF n m c Hb He Cl rf Rf q k).toNatClampNeg := by
  rcases wrF_rng n m c Hb He Cl rf Rf q k with e | ⟨j, hj, e⟩
  · exact absurd e h
  · rw [e, nI_clamp (by omega)]
theorem wrF_lt {n m c : Nat} {Hb He Cl : Nat → Int32} {rf : Nat} {Rf : Nat → Int32} {q k : Nat} (hk : k ≤ 256) : (wrF n m c Hb He Cl rf Rf q k).toNatClampNeg < 256 := by
  rcases wrF_rng n m c Hb He Cl rf Rf q k with e | ⟨j, hj, e⟩
  · rw [e]; decide
  · rw [e, nI_clamp (by omega)]; omega
/-- the least bit, and the next one -/
def lo1 (b : Nat) : Nat := fa_first (fun k => b.testBit k) 8
def lo2 (b : Nat) : Nat := fa_first (fun k => b.testBit k && decide (lo1 b < k)) 8
theorem lo1_step {b j : Nat} (h : j ≤ lo1 b) (hj : b.testBit j = false) (h8 : lo1 b < 8) : j + 1 ≤ lo1 b := by
  rcases Nat.lt_or_ge j (lo1 b) with q | q
  · exact q
  · have e : j = lo1 b := by omega
    have := fa_first_yes (fun k => b.testBit k) 8 h8
    rw [e] at hj
    exact absurd (show b.testBit (lo1 b) = true from this) (by rw [hj]; decide)
theorem lo1_hit {b j : Nat} (h : j ≤ lo1 b) (hj : b.testBit j = true) : j = lo1 b := by
  rcases Nat.lt_or_ge j (lo1 b) with q | q
  · have := fa_first_no (fun k => b.testBit k) 8 j q
    exact absurd hj (by rw [show b.testBit j = false from this]; decide)
  · omega
theorem lo2_step {b j : Nat} (h : j ≤ lo2 b) (hg : lo1 b < j) (hj : b.testBit j = false) (h8 : lo2 b < 8) : j + 1 ≤ lo2 b := by
  rcases Nat.lt_or_ge j (lo2 b) with q | q
  · exact q
  · have e : j = lo2 b := by omega
    have h1 : (b.testBit (lo2 b) && decide (lo1 b < lo2 b)) = true := fa_first_yes (fun k => b.testBit k && decide (lo1 b < k)) 8 h8
    rw [e] at hj
    rw [hj] at h1
    cases h1
theorem lo2_hit {b j : Nat} (h : j ≤ lo2 b) (hg : lo1 b < j) (hj : b.testBit j = true) : j = lo2 b := by
  rcases Nat.lt_or_ge j (lo2 b) with q | q
  · have h1 : (b.testBit j && decide (lo1 b < j)) = false := fa_first_no (fun k => b.testBit k && decide (lo1 b < k)) 8 j q
    rw [hj, decide_eq_true hg] at h1
    cases h1
  · omega
theorem lo_all : ∀ b, b < 256 → 1 < popc b → lo1 b < 8 ∧ lo2 b < 8 ∧ lo1 b + 1 ≤ lo2 b := by decide +kernel
theorem lo1_lt {b : Nat} (h : b < 256) (hp : 1 < popc b) : lo1 b < 8 := (lo_all b h hp).1
theorem lo2_lt {b : Nat} (h : b < 256) (hp : 1 < popc b) : lo2 b < 8 := (lo_all b h hp).2.1
theorem lo2_gt {b : Nat} (h : b < 256) (hp : 1 < popc b) : lo1 b + 1 ≤ lo2 b := (lo_all b h hp).2.2
/-- the first quarrel -/
def quA (n : Nat) (Hb wi : Nat → Int32) (what e t : Nat) : Option Int32 := if popc (onceM n Hb wi e t) ≤ 1 then none else some (match what with
  | 0 => nI t
  | 1 => nI e
  | 2 => nI (lo1 (onceM n Hb wi e t))
  | _ => nI (lo2 (onceM n Hb wi e t)))
def qrI (A : Nat → Option Int32) : Nat → Nat → Option Int32
  | 0, _ => none
  | f + 1, e => match A e with
    | some v => some v
    | none => qrI A f (e + 1)
def qrO (A : Nat → Nat → Option Int32) (m : Nat) : Nat → Nat → Option Int32
  | 0, _ => none
  | f + 1, t => match qrI (fun e => A e t) m 0 with
    | some v => some v
    | none => qrO A m f (t + 1)
def quM (n m : Nat) (Hb wi : Nat → Int32) (what : Nat) : Int32 := (qrO (quA n Hb wi what) m 24 0).getD (-1)
theorem quA_no {n : Nat} {Hb wi : Nat → Int32} {what e t : Nat} (h : popc (onceM n Hb wi e t) ≤ 1) : quA n Hb wi what e t = none := if_pos h
theorem quA_yes {n : Nat} {Hb wi : Nat → Int32} {what e t : Nat} (h : 1 < popc (onceM n Hb wi e t)) : quA n Hb wi what e t = some (match what with
  | 0 => nI t
  | 1 => nI e
  | 2 => nI (lo1 (onceM n Hb wi e t))
  | _ => nI (lo2 (onceM n Hb wi e t))) := if_neg (by omega)
theorem qrI_no {A : Nat → Option Int32} {m e : Nat} {d : Int32} (he : e < m) (h : A e = none) : (qrI A (m - e) e).getD d = (qrI A (m - (e + 1)) (e + 1)).getD d := by
  obtain ⟨f, hf⟩ : ∃ f, m - e = f + 1 := ⟨m - e - 1, by omega⟩
  rw [hf, show m - (e + 1) = f by omega, qrI, h]
theorem qrI_yes {A : Nat → Option Int32} {m e : Nat} {d v : Int32} (he : e < m) (h : A e = some v) : (qrI A (m - e) e).getD d = v := by
  obtain ⟨f, hf⟩ : ∃ f, m - e = f + 1 := ⟨m - e - 1, by omega⟩
  rw [hf, qrI, h]; rfl
theorem qrO_s {A : Nat → Nat → Option Int32} {m t : Nat} (ht : t < 24) : (qrO A m (24 - t) t).getD (-1) = (qrI (fun e => A e t) m 0).getD ((qrO A m (23 - t) (t + 1)).getD (-1)) := by
  obtain ⟨f, hf⟩ : ∃ f, 24 - t = f + 1 := ⟨23 - t, by omega⟩
  rw [hf, show 23 - t = f by omega, qrO]
  cases qrI (fun e => A e t) m 0 <;> rfl
set_option maxRecDepth 100000 in
set_option maxHeartbeats 1000000 in
theorem j_X12_valueOf {G : GT} (o : Nat) (a : Nat → Nat) (s : Nat → Nat → Int32) (q d : Nat) (hq6 : q < 6) (hd : d < 128) {Q : Option Value → va_W → Prop} (hq : ∀ v_ : Int32, v_ = valM (s 16) q d → Q (some (.int v_)) (mW G o a s)) : J G "valueOf" RX12 cX12_valueOf 5 (some .int) 0 0 1 Q 0 0 0 [(0, .ref o), (1, .int (nI q)), (2, .int (nI d))] [] (mW G o a s) := by
  refine J_iconst (v := nI 0) dX12_valueOf_0 (by decide) ?_
  refine J_istore_n [(0, .ref o), (1, .int (nI q)), (2, .int (nI d)), (3, .int (nI 0))] dX12_valueOf_1 rfl (by decide) rfl rfl rfl ?_
  refine J_iconst (v := nI 0) dX12_valueOf_2 (by decide) ?_
  refine J_istore [(0, .ref o), (1, .int (nI q)), (2, .int (nI d)), (3, .int (nI 0)), (4, .int (nI 0))] dX12_valueOf_3 (by decide) rfl rfl rfl ?_
  have L5 : ∀ (f i : Nat), 7 - i < f → i ≤ 7 → ∀ (x3 : Int32) (x4 : Int32), x3 = smI (fun k => if d.testBit k = true then s 16 (7 * q + k) else nI 0) i → x4 = nI i → J G "valueOf" RX12 cX12_valueOf 5 (some .int) 0 0 1 Q 0 0 5 [(0, .ref o), (1, .int (nI q)), (2, .int (nI d)), (3, .int x3), (4, .int x4)] [] (mW G o a s) := by
    intro f
    induction f with
    | zero => intro i h; exact absurd h (Nat.not_lt_zero _)
    | succ f ih5 =>
      intro i hf5 hle5  x3 x4 e3 e4
      subst e3
      subst e4
      refine J_iload dX12_valueOf_5 rfl ?_
      refine J_bipush (v := nI 7) dX12_valueOf_7 (by decide) ?_
      refine J_icmp_geN 46 (by omega) (by omega) dX12_valueOf_9 (by decide) (fun kcz1 => ?_) (fun kcz1 => ?_)
      · refine J_iload_n dX12_valueOf_46 rfl rfl ?_
        exact J_iret dX12_valueOf_47 rfl rfl rfl (hq _ (by have e_ : i = 7 := (by omega); subst e_; rfl))
      · refine J_iload_n dX12_valueOf_12 rfl rfl ?_
        refine J_iload_n dX12_valueOf_13 rfl rfl ?_
        refine J_iload dX12_valueOf_14 rfl ?_
        refine J_cSi [.int (nI d), .int (nI i)] ms_X12_154 (c_X12_isIn (mW G o a s) d i (by omega) (by omega)) rfl rfl (by decide) (Nat.le_of_ble_eq_true rfl) ⟨Nat.le_refl _, Nat.le_refl _⟩ dX12_valueOf_16 ?_
        have K38_1 : ∀ (t0 : Int32), t0 = (if (d.testBit i) = false then nI 0 else s 16 (7 * q + i)) → J G "valueOf" RX12 cX12_valueOf 5 (some .int) 0 0 1 Q 0 0 38 [(0, .ref o), (1, .int (nI q)), (2, .int (nI d)), (3, .int (smI (fun k => if d.testBit k = true then s 16 (7 * q + k) else nI 0) i)), (4, .int (nI i))] [.int t0, .int (smI (fun k => if d.testBit k = true then s 16 (7 * q + k) else nI 0) i)] (mW G o a s) := by
          intro t0 qt0
          subst qt0
          refine J_iadd dX12_valueOf_38 ?_
          refine J_istore_n [(0, .ref o), (1, .int (nI q)), (2, .int (nI d)), (3, .int ((smI (fun k => if d.testBit k = true then s 16 (7 * q + k) else nI 0) i) + (if (d.testBit i) = false then nI 0 else s 16 (7 * q + i)))), (4, .int (nI i))] dX12_valueOf_39 rfl (by decide) rfl rfl rfl ?_
          refine J_iincN [(0, .ref o), (1, .int (nI q)), (2, .int (nI d)), (3, .int ((smI (fun k => if d.testBit k = true then s 16 (7 * q + k) else nI 0) i) + (if (d.testBit i) = false then nI 0 else s 16 (7 * q + i)))), (4, .int (nI (i + 1)))] dX12_valueOf_40 rfl (by decide) rfl rfl rfl ?_
          refine J_goto 5 dX12_valueOf_43 (by decide) ?_
          exact ih5 (i + 1) (by omega) (by omega)  _ _ (by simp only [smI]; congr 1; (repeat' split) <;> simp_all) rfl
        refine J_if_eqB 37 dX12_valueOf_19 (by decide) (fun kcz3 => ?_) (fun kcz3 => ?_)
        · refine J_iconst (v := nI 0) dX12_valueOf_37 (by decide) ?_
          exact K38_1 _ (by simp [kcz1, kcz3])
        · refine J_aload_n dX12_valueOf_22 rfl rfl ?_
          refine Mg_16 dX12_valueOf_23 ?_
          refine J_bipush (v := nI 7) dX12_valueOf_26 (by decide) ?_
          refine J_iload_n dX12_valueOf_28 rfl rfl ?_
          refine J_imulN dX12_valueOf_29 ?_
          refine J_iload dX12_valueOf_30 rfl ?_
          refine J_iaddN dX12_valueOf_32 ?_
          refine Ml_16 (s := s) (s 16) rfl (7 * q + i) rfl (by omega) dX12_valueOf_33 ?_
          refine J_goto 38 dX12_valueOf_34 (by decide) ?_
          exact K38_1 _ (by simp [kcz1, kcz3])
  exact L5 (7 + 1) 0 (by omega) (by omega)  _ _ rfl rfl
theorem c_X12_valueOf {G : GT} (o : Nat) (a : Nat → Nat) (s : Nat → Nat → Int32) (q d : Nat) (hq6 : q < 6) (hd : d < 128) : Ct G yX12_valueOf cX12_valueOf 5 (some .int) 0 0 1 [.ref o, .int (nI q), .int (nI d)] (mW G o a s) (Is (some (.int (valM (s 16) q d))) (mW G o a s)) := Ct.of rfl (Nat.le_of_ble_eq_true rfl) (j_X12_valueOf o a s q d hq6 hd (fun _ e => by subst e; exact Is.rf _ _))
set_option maxRecDepth 100000 in
set_option maxHeartbeats 1000000 in
theorem j_X12_partOf0 {G : GT} (o : Nat) (a : Nat → Nat) (s : Nat → Nat → Int32) (q1 q2 : Nat) (hq1 : q1 < 6) (hq2 : q2 < 6) {Q : Option Value → va_W → Prop} (hq : ∀ v_ : Int32, v_ = (prF (s 16) q1 q2 128).1 → Q (some (.int v_)) (mW G o a s)) : J G "partOf" RX12 cX12_partOf 11 (some .int) 0 0 2 Q 0 0 0 [(0, .ref o), (1, .int (nI q1)), (2, .int (nI q2)), (3, .int (nI 0))] [] (mW G o a s) := by
  refine J_iconst (v := -1) dX12_partOf_0 (by decide) ?_
  refine J_istore [(0, .ref o), (1, .int (nI q1)), (2, .int (nI q2)), (3, .int (nI 0)), (4, .int (-1))] dX12_partOf_1 (by decide) rfl rfl rfl ?_
  refine J_iconst (v := -1) dX12_partOf_3 (by decide) ?_
  refine J_istore [(0, .ref o), (1, .int (nI q1)), (2, .int (nI q2)), (3, .int (nI 0)), (4, .int (-1)), (5, .int (-1))] dX12_partOf_4 (by decide) rfl rfl rfl ?_
  refine J_iconst (v := nI 0) dX12_partOf_6 (by decide) ?_
  refine J_istore [(0, .ref o), (1, .int (nI q1)), (2, .int (nI q2)), (3, .int (nI 0)), (4, .int (-1)), (5, .int (-1)), (6, .int (nI 0))] dX12_partOf_7 (by decide) rfl rfl rfl ?_
  have L9 : ∀ (f i : Nat), 128 - i < f → i ≤ 128 → ∀ (x4 : Int32) (x5 : Int32) (x6 : Int32), x4 = (prF (s 16) q1 q2 i).1 → x5 = (prF (s 16) q1 q2 i).2 → x6 = nI i → J G "partOf" RX12 cX12_partOf 11 (some .int) 0 0 2 Q 0 0 9 [(0, .ref o), (1, .int (nI q1)), (2, .int (nI q2)), (3, .int (nI 0)), (4, .int x4), (5, .int x5), (6, .int x6)] [] (mW G o a s) := by
    intro f
    induction f with
    | zero => intro i h; exact absurd h (Nat.not_lt_zero _)
    | succ f ih9 =>
      intro i hf9 hle9  x4 x5 x6 e4 e5 e6
      subst e4
      subst e5
      subst e6
      refine J_iload dX12_partOf_9 rfl ?_
      refine J_sipush (v := nI 128) dX12_partOf_11 (by decide) ?_
      refine J_icmp_geN 131 (by omega) (by omega) dX12_partOf_14 (by decide) (fun kcz1 => ?_) (fun kcz1 => ?_)
      · refine J_iload_n dX12_partOf_131 rfl rfl ?_
        refine J_if_ne 140 dX12_partOf_132 (by decide) (fun c => absurd c (by decide)) (fun _ => ?_)
        refine J_iload dX12_partOf_135 rfl ?_
        refine J_goto 142 dX12_partOf_137 (by decide) ?_
        exact J_iret dX12_partOf_142 rfl rfl rfl (hq _ (by have e_ : i = 128 := (by omega); subst e_; rfl))
      · refine J_aload_n dX12_partOf_17 rfl rfl ?_
        refine J_iload_n dX12_partOf_18 rfl rfl ?_
        refine J_iload dX12_partOf_19 rfl ?_
        refine J_cVi (x := yX12_in) [.int (nI q1), .int (nI i)] 0 mv_X12_242 (c_X12_valueOf o a s q1 i (by omega) (by omega)) mW_0 rfl rfl (by decide) (Nat.le_of_ble_eq_true rfl) ⟨Nat.le_refl _, Nat.le_refl _⟩ dX12_partOf_21 ?_
        refine J_istore [(0, .ref o), (1, .int (nI q1)), (2, .int (nI q2)), (3, .int (nI 0)), (4, .int ((prF (s 16) q1 q2 i).1)), (5, .int ((prF (s 16) q1 q2 i).2)), (6, .int (nI i)), (7, .int (valM (s 16) q1 i))] dX12_partOf_24 (by decide) rfl rfl rfl ?_
        refine J_aload_n dX12_partOf_26 rfl rfl ?_
        refine J_iload_n dX12_partOf_27 rfl rfl ?_
        refine J_bipush (v := nI 127) dX12_partOf_28 (by decide) ?_
        refine J_iload dX12_partOf_30 rfl ?_
        refine J_isubN dX12_partOf_32 (by omega) ?_
        refine J_cVi (x := yX12_in) [.int (nI q2), .int (nI (127 - i))] 0 mv_X12_242 (c_X12_valueOf o a s q2 (127 - i) (by omega) (by omega)) mW_0 rfl rfl (by decide) (Nat.le_of_ble_eq_true rfl) ⟨Nat.le_refl _, Nat.le_refl _⟩ dX12_partOf_33 ?_
        refine J_istore [(0, .ref o), (1, .int (nI q1)), (2, .int (nI q2)), (3, .int (nI 0)), (4, .int ((prF (s 16) q1 q2 i).1)), (5, .int ((prF (s 16) q1 q2 i).2)), (6, .int (nI i)), (7, .int (valM (s 16) q1 i)), (8, .int (valM (s 16) q2 (127 - i)))] dX12_partOf_36 (by decide) rfl rfl rfl ?_
        refine J_iload dX12_partOf_38 rfl ?_
        refine J_aload_n dX12_partOf_40 rfl rfl ?_
        refine J_iload_n dX12_partOf_41 rfl rfl ?_
        refine J_bipush (v := nI 127) dX12_partOf_42 (by decide) ?_
        refine J_iload dX12_partOf_44 rfl ?_
        refine J_isubN dX12_partOf_46 (by omega) ?_
        refine J_cVi (x := yX12_in) [.int (nI q1), .int (nI (127 - i))] 0 mv_X12_242 (c_X12_valueOf o a s q1 (127 - i) (by omega) (by omega)) mW_0 rfl rfl (by decide) (Nat.le_of_ble_eq_true rfl) ⟨Nat.le_refl _, Nat.le_refl _⟩ dX12_partOf_47 ?_
        have K70_1 : ∀ (t0 : Int32), t0 = bI (!decide (valM (s 16) q1 i < valM (s 16) q1 (127 - i)) && !decide (valM (s 16) q2 (127 - i) < valM (s 16) q2 i)) → J G "partOf" RX12 cX12_partOf 11 (some .int) 0 0 2 Q 0 0 70 [(0, .ref o), (1, .int (nI q1)), (2, .int (nI q2)), (3, .int (nI 0)), (4, .int ((prF (s 16) q1 q2 i).1)), (5, .int ((prF (s 16) q1 q2 i).2)), (6, .int (nI i)), (7, .int (valM (s 16) q1 i)), (8, .int (valM (s 16) q2 (127 - i)))] [.int t0] (mW G o a s) := by
          intro t0 qt0
          subst qt0
          refine J_istore [(0, .ref o), (1, .int (nI q1)), (2, .int (nI q2)), (3, .int (nI 0)), (4, .int ((prF (s 16) q1 q2 i).1)), (5, .int ((prF (s 16) q1 q2 i).2)), (6, .int (nI i)), (7, .int (valM (s 16) q1 i)), (8, .int (valM (s 16) q2 (127 - i))), (9, .int (bI (!decide (valM (s 16) q1 i < valM (s 16) q1 (127 - i)) && !decide (valM (s 16) q2 (127 - i) < valM (s 16) q2 i))))] dX12_partOf_70 (by decide) rfl rfl rfl ?_
          refine J_iload dX12_partOf_72 rfl ?_
          have K92_2 : ∀ (t0 : Int32), t0 = bI (prB (s 16) q1 q2 i (prF (s 16) q1 q2 i).2) → J G "partOf" RX12 cX12_partOf 11 (some .int) 0 0 2 Q 0 0 92 [(0, .ref o), (1, .int (nI q1)), (2, .int (nI q2)), (3, .int (nI 0)), (4, .int ((prF (s 16) q1 q2 i).1)), (5, .int ((prF (s 16) q1 q2 i).2)), (6, .int (nI i)), (7, .int (valM (s 16) q1 i)), (8, .int (valM (s 16) q2 (127 - i))), (9, .int (bI (!decide (valM (s 16) q1 i < valM (s 16) q1 (127 - i)) && !decide (valM (s 16) q2 (127 - i) < valM (s 16) q2 i))))] [.int t0] (mW G o a s) := by
            intro t0 qt0
            subst qt0
            refine J_istore [(0, .ref o), (1, .int (nI q1)), (2, .int (nI q2)), (3, .int (nI 0)), (4, .int ((prF (s 16) q1 q2 i).1)), (5, .int ((prF (s 16) q1 q2 i).2)), (6, .int (nI i)), (7, .int (valM (s 16) q1 i)), (8, .int (valM (s 16) q2 (127 - i))), (9, .int (bI (!decide (valM (s 16) q1 i < valM (s 16) q1 (127 - i)) && !decide (valM (s 16) q2 (127 - i) < valM (s 16) q2 i)))), (10, .int (bI (prB (s 16) q1 q2 i (prF (s 16) q1 q2 i).2)))] dX12_partOf_92 (by decide) rfl rfl rfl ?_
            refine J_iload dX12_partOf_94 rfl ?_
            have K106_3 : ∀ (t0 : Int32), t0 = (if (prB (s 16) q1 q2 i (prF (s 16) q1 q2 i).2) = false then (prF (s 16) q1 q2 i).1 else nI i) → J G "partOf" RX12 cX12_partOf 11 (some .int) 0 0 2 Q 0 0 106 [(0, .ref o), (1, .int (nI q1)), (2, .int (nI q2)), (3, .int (nI 0)), (4, .int ((prF (s 16) q1 q2 i).1)), (5, .int ((prF (s 16) q1 q2 i).2)), (6, .int (nI i)), (7, .int (valM (s 16) q1 i)), (8, .int (valM (s 16) q2 (127 - i))), (9, .int (bI (!decide (valM (s 16) q1 i < valM (s 16) q1 (127 - i)) && !decide (valM (s 16) q2 (127 - i) < valM (s 16) q2 i)))), (10, .int (bI (prB (s 16) q1 q2 i (prF (s 16) q1 q2 i).2)))] [.int t0] (mW G o a s) := by
              intro t0 qt0
              subst qt0
              refine J_istore [(0, .ref o), (1, .int (nI q1)), (2, .int (nI q2)), (3, .int (nI 0)), (4, .int (if (prB (s 16) q1 q2 i (prF (s 16) q1 q2 i).2) = false then (prF (s 16) q1 q2 i).1 else nI i)), (5, .int ((prF (s 16) q1 q2 i).2)), (6, .int (nI i)), (7, .int (valM (s 16) q1 i)), (8, .int (valM (s 16) q2 (127 - i))), (9, .int (bI (!decide (valM (s 16) q1 i < valM (s 16) q1 (127 - i)) && !decide (valM (s 16) q2 (127 - i) < valM (s 16) q2 i)))), (10, .int (bI (prB (s 16) q1 q2 i (prF (s 16) q1 q2 i).2)))] dX12_partOf_106 (by decide) rfl rfl rfl ?_
              refine J_iload dX12_partOf_108 rfl ?_
              have K123_4 : ∀ (t0 : Int32), t0 = (if (prB (s 16) q1 q2 i (prF (s 16) q1 q2 i).2) = false then (prF (s 16) q1 q2 i).2 else (valM (s 16) q1 i) + (valM (s 16) q2 (127 - i))) → J G "partOf" RX12 cX12_partOf 11 (some .int) 0 0 2 Q 0 0 123 [(0, .ref o), (1, .int (nI q1)), (2, .int (nI q2)), (3, .int (nI 0)), (4, .int (if (prB (s 16) q1 q2 i (prF (s 16) q1 q2 i).2) = false then (prF (s 16) q1 q2 i).1 else nI i)), (5, .int ((prF (s 16) q1 q2 i).2)), (6, .int (nI i)), (7, .int (valM (s 16) q1 i)), (8, .int (valM (s 16) q2 (127 - i))), (9, .int (bI (!decide (valM (s 16) q1 i < valM (s 16) q1 (127 - i)) && !decide (valM (s 16) q2 (127 - i) < valM (s 16) q2 i)))), (10, .int (bI (prB (s 16) q1 q2 i (prF (s 16) q1 q2 i).2)))] [.int t0] (mW G o a s) := by
                intro t0 qt0
                subst qt0
                refine J_istore [(0, .ref o), (1, .int (nI q1)), (2, .int (nI q2)), (3, .int (nI 0)), (4, .int (if (prB (s 16) q1 q2 i (prF (s 16) q1 q2 i).2) = false then (prF (s 16) q1 q2 i).1 else nI i)), (5, .int (if (prB (s 16) q1 q2 i (prF (s 16) q1 q2 i).2) = false then (prF (s 16) q1 q2 i).2 else (valM (s 16) q1 i) + (valM (s 16) q2 (127 - i)))), (6, .int (nI i)), (7, .int (valM (s 16) q1 i)), (8, .int (valM (s 16) q2 (127 - i))), (9, .int (bI (!decide (valM (s 16) q1 i < valM (s 16) q1 (127 - i)) && !decide (valM (s 16) q2 (127 - i) < valM (s 16) q2 i)))), (10, .int (bI (prB (s 16) q1 q2 i (prF (s 16) q1 q2 i).2)))] dX12_partOf_123 (by decide) rfl rfl rfl ?_
                refine J_iincN [(0, .ref o), (1, .int (nI q1)), (2, .int (nI q2)), (3, .int (nI 0)), (4, .int (if (prB (s 16) q1 q2 i (prF (s 16) q1 q2 i).2) = false then (prF (s 16) q1 q2 i).1 else nI i)), (5, .int (if (prB (s 16) q1 q2 i (prF (s 16) q1 q2 i).2) = false then (prF (s 16) q1 q2 i).2 else (valM (s 16) q1 i) + (valM (s 16) q2 (127 - i)))), (6, .int (nI (i + 1))), (7, .int (valM (s 16) q1 i)), (8, .int (valM (s 16) q2 (127 - i))), (9, .int (bI (!decide (valM (s 16) q1 i < valM (s 16) q1 (127 - i)) && !decide (valM (s 16) q2 (127 - i) < valM (s 16) q2 i)))), (10, .int (bI (prB (s 16) q1 q2 i (prF (s 16) q1 q2 i).2)))] dX12_partOf_125 rfl (by decide) rfl rfl rfl ?_
                refine J_goto 9 dX12_partOf_128 (by decide) ?_
                refine J_lv [0, 1, 2, 3, 4, 5, 6] rfl ?_
                exact ih9 (i + 1) (by omega) (by omega)  _ _ _ (by rw [prF]; split <;> simp_all) (by rw [prF]; split <;> simp_all) rfl
              refine J_if_eqB 121 dX12_partOf_110 (by decide) (fun kcz6 => ?_) (fun kcz6 => ?_)
              · refine J_iload dX12_partOf_121 rfl ?_
                exact K123_4 _ (by simp [kcz1, kcz6])
              · refine J_iload dX12_partOf_113 rfl ?_
                refine J_iload dX12_partOf_115 rfl ?_
                refine J_iadd dX12_partOf_117 ?_
                refine J_goto 123 dX12_partOf_118 (by decide) ?_
                exact K123_4 _ (by simp [kcz1, kcz6])
            refine J_if_eqB 104 dX12_partOf_96 (by decide) (fun kcz7 => ?_) (fun kcz7 => ?_)
            · refine J_iload dX12_partOf_104 rfl ?_
              exact K106_3 _ (by simp [kcz1, kcz7])
            · refine J_iload dX12_partOf_99 rfl ?_
              refine J_goto 106 dX12_partOf_101 (by decide) ?_
              exact K106_3 _ (by simp [kcz1, kcz7])
          refine J_if_eqB 91 dX12_partOf_74 (by decide) (fun kcz8 => ?_) (fun kcz8 => ?_)
          · refine J_iconst (v := nI 0) dX12_partOf_91 (by decide) ?_
            exact K92_2 _ (by first | (show bI false = bI (prB (s 16) q1 q2 i (prF (s 16) q1 q2 i).2); simp [prB, kcz1, kcz8]; done) | (show bI true = bI (prB (s 16) q1 q2 i (prF (s 16) q1 q2 i).2); simp [prB, kcz1, kcz8]))
          · refine J_iload dX12_partOf_77 rfl ?_
            refine J_iload dX12_partOf_79 rfl ?_
            refine J_iadd dX12_partOf_81 ?_
            refine J_iload dX12_partOf_82 rfl ?_
            refine J_icmp_le 91 dX12_partOf_84 (by decide) (fun kcz9 => ?_) (fun kcz9 => ?_)
            · refine J_iconst (v := nI 0) dX12_partOf_91 (by decide) ?_
              exact K92_2 _ (by first | (show bI false = bI (prB (s 16) q1 q2 i (prF (s 16) q1 q2 i).2); simp [prB, kcz1, kcz8, kcz9]; done) | (show bI true = bI (prB (s 16) q1 q2 i (prF (s 16) q1 q2 i).2); simp [prB, kcz1, kcz8, kcz9]))
            · refine J_iconst (v := nI 1) dX12_partOf_87 (by decide) ?_
              refine J_goto 92 dX12_partOf_88 (by decide) ?_
              exact K92_2 _ (by first | (show bI false = bI (prB (s 16) q1 q2 i (prF (s 16) q1 q2 i).2); simp [prB, kcz1, kcz8, kcz9]; done) | (show bI true = bI (prB (s 16) q1 q2 i (prF (s 16) q1 q2 i).2); simp [prB, kcz1, kcz8, kcz9]))
        refine J_icmp_lt 69 dX12_partOf_50 (by decide) (fun kcz10 => ?_) (fun kcz10 => ?_)
        · refine J_iconst (v := nI 0) dX12_partOf_69 (by decide) ?_
          exact K70_1 _ (by show bI false = bI (!decide (valM (s 16) q1 i < valM (s 16) q1 (127 - i)) && !decide (valM (s 16) q2 (127 - i) < valM (s 16) q2 i)); simp [kcz1, kcz10])
        · refine J_iload dX12_partOf_53 rfl ?_
          refine J_aload_n dX12_partOf_55 rfl rfl ?_
          refine J_iload_n dX12_partOf_56 rfl rfl ?_
          refine J_iload dX12_partOf_57 rfl ?_
          refine J_cVi (x := yX12_in) [.int (nI q2), .int (nI i)] 0 mv_X12_242 (c_X12_valueOf o a s q2 i (by omega) (by omega)) mW_0 rfl rfl (by decide) (Nat.le_of_ble_eq_true rfl) ⟨Nat.le_refl _, Nat.le_refl _⟩ dX12_partOf_59 ?_
          refine J_icmp_lt 69 dX12_partOf_62 (by decide) (fun kcz11 => ?_) (fun kcz11 => ?_)
          · refine J_iconst (v := nI 0) dX12_partOf_69 (by decide) ?_
            exact K70_1 _ (by show bI false = bI (!decide (valM (s 16) q1 i < valM (s 16) q1 (127 - i)) && !decide (valM (s 16) q2 (127 - i) < valM (s 16) q2 i)); simp [kcz1, kcz10, kcz11])
          · refine J_iconst (v := nI 1) dX12_partOf_65 (by decide) ?_
            refine J_goto 70 dX12_partOf_66 (by decide) ?_
            exact K70_1 _ (by show bI true = bI (!decide (valM (s 16) q1 i < valM (s 16) q1 (127 - i)) && !decide (valM (s 16) q2 (127 - i) < valM (s 16) q2 i)); simp [kcz1, kcz10, kcz11])
  exact L9 (128 + 1) 0 (by omega) (by omega)  _ _ _ rfl rfl rfl
theorem c_X12_partOf0 {G : GT} (o : Nat) (a : Nat → Nat) (s : Nat → Nat → Int32) (q1 q2 : Nat) (hq1 : q1 < 6) (hq2 : q2 < 6) : Ct G yX12_partOf cX12_partOf 11 (some .int) 0 0 2 [.ref o, .int (nI q1), .int (nI q2), .int (nI 0)] (mW G o a s) (Is (some (.int ((prF (s 16) q1 q2 128).1))) (mW G o a s)) := Ct.of rfl (Nat.le_of_ble_eq_true rfl) (j_X12_partOf0 o a s q1 q2 hq1 hq2 (fun _ e => by subst e; exact Is.rf _ _))
set_option maxRecDepth 100000 in
set_option maxHeartbeats 1000000 in
theorem j_X12_partOf1 {G : GT} (o : Nat) (a : Nat → Nat) (s : Nat → Nat → Int32) (q1 q2 : Nat) (hq1 : q1 < 6) (hq2 : q2 < 6) {Q : Option Value → va_W → Prop} (hq : ∀ v_ : Int32, v_ = (prF (s 16) q1 q2 128).2 → Q (some (.int v_)) (mW G o a s)) : J G "partOf" RX12 cX12_partOf 11 (some .int) 0 0 2 Q 0 0 0 [(0, .ref o), (1, .int (nI q1)), (2, .int (nI q2)), (3, .int (nI 1))] [] (mW G o a s) := by
  refine J_iconst (v := -1) dX12_partOf_0 (by decide) ?_
  refine J_istore [(0, .ref o), (1, .int (nI q1)), (2, .int (nI q2)), (3, .int (nI 1)), (4, .int (-1))] dX12_partOf_1 (by decide) rfl rfl rfl ?_
  refine J_iconst (v := -1) dX12_partOf_3 (by decide) ?_
  refine J_istore [(0, .ref o), (1, .int (nI q1)), (2, .int (nI q2)), (3, .int (nI 1)), (4, .int (-1)), (5, .int (-1))] dX12_partOf_4 (by decide) rfl rfl rfl ?_
  refine J_iconst (v := nI 0) dX12_partOf_6 (by decide) ?_
  refine J_istore [(0, .ref o), (1, .int (nI q1)), (2, .int (nI q2)), (3, .int (nI 1)), (4, .int (-1)), (5, .int (-1)), (6, .int (nI 0))] dX12_partOf_7 (by decide) rfl rfl rfl ?_
  have L9 : ∀ (f i : Nat), 128 - i < f → i ≤ 128 → ∀ (x4 : Int32) (x5 : Int32) (x6 : Int32), x4 = (prF (s 16) q1 q2 i).1 → x5 = (prF (s 16) q1 q2 i).2 → x6 = nI i → J G "partOf" RX12 cX12_partOf 11 (some .int) 0 0 2 Q 0 0 9 [(0, .ref o), (1, .int (nI q1)), (2, .int (nI q2)), (3, .int (nI 1)), (4, .int x4), (5, .int x5), (6, .int x6)] [] (mW G o a s) := by
    intro f
    induction f with
    | zero => intro i h; exact absurd h (Nat.not_lt_zero _)
    | succ f ih9 =>
      intro i hf9 hle9  x4 x5 x6 e4 e5 e6
      subst e4
      subst e5
      subst e6
      refine J_iload dX12_partOf_9 rfl ?_
      refine J_sipush (v := nI 128) dX12_partOf_11 (by decide) ?_
      refine J_icmp_geN 131 (by omega) (by omega) dX12_partOf_14 (by decide) (fun kcz1 => ?_) (fun kcz1 => ?_)
      · refine J_iload_n dX12_partOf_131 rfl rfl ?_
        refine J_if_ne 140 dX12_partOf_132 (by decide) (fun _ => ?_) (fun c => absurd c (by decide))
        refine J_iload dX12_partOf_140 rfl ?_
        exact J_iret dX12_partOf_142 rfl rfl rfl (hq _ (by have e_ : i = 128 := (by omega); subst e_; rfl))
      · refine J_aload_n dX12_partOf_17 rfl rfl ?_
        refine J_iload_n dX12_partOf_18 rfl rfl ?_
        refine J_iload dX12_partOf_19 rfl ?_
        refine J_cVi (x := yX12_in) [.int (nI q1), .int (nI i)] 0 mv_X12_242 (c_X12_valueOf o a s q1 i (by omega) (by omega)) mW_0 rfl rfl (by decide) (Nat.le_of_ble_eq_true rfl) ⟨Nat.le_refl _, Nat.le_refl _⟩ dX12_partOf_21 ?_
        refine J_istore [(0, .ref o), (1, .int (nI q1)), (2, .int (nI q2)), (3, .int (nI 1)), (4, .int ((prF (s 16) q1 q2 i).1)), (5, .int ((prF (s 16) q1 q2 i).2)), (6, .int (nI i)), (7, .int (valM (s 16) q1 i))] dX12_partOf_24 (by decide) rfl rfl rfl ?_
        refine J_aload_n dX12_partOf_26 rfl rfl ?_
        refine J_iload_n dX12_partOf_27 rfl rfl ?_
        refine J_bipush (v := nI 127) dX12_partOf_28 (by decide) ?_
        refine J_iload dX12_partOf_30 rfl ?_
        refine J_isubN dX12_partOf_32 (by omega) ?_
        refine J_cVi (x := yX12_in) [.int (nI q2), .int (nI (127 - i))] 0 mv_X12_242 (c_X12_valueOf o a s q2 (127 - i) (by omega) (by omega)) mW_0 rfl rfl (by decide) (Nat.le_of_ble_eq_true rfl) ⟨Nat.le_refl _, Nat.le_refl _⟩ dX12_partOf_33 ?_
        refine J_istore [(0, .ref o), (1, .int (nI q1)), (2, .int (nI q2)), (3, .int (nI 1)), (4, .int ((prF (s 16) q1 q2 i).1)), (5, .int ((prF (s 16) q1 q2 i).2)), (6, .int (nI i)), (7, .int (valM (s 16) q1 i)), (8, .int (valM (s 16) q2 (127 - i)))] dX12_partOf_36 (by decide) rfl rfl rfl ?_
        refine J_iload dX12_partOf_38 rfl ?_
        refine J_aload_n dX12_partOf_40 rfl rfl ?_
        refine J_iload_n dX12_partOf_41 rfl rfl ?_
        refine J_bipush (v := nI 127) dX12_partOf_42 (by decide) ?_
        refine J_iload dX12_partOf_44 rfl ?_
        refine J_isubN dX12_partOf_46 (by omega) ?_
        refine J_cVi (x := yX12_in) [.int (nI q1), .int (nI (127 - i))] 0 mv_X12_242 (c_X12_valueOf o a s q1 (127 - i) (by omega) (by omega)) mW_0 rfl rfl (by decide) (Nat.le_of_ble_eq_true rfl) ⟨Nat.le_refl _, Nat.le_refl _⟩ dX12_partOf_47 ?_
        have K70_1 : ∀ (t0 : Int32), t0 = bI (!decide (valM (s 16) q1 i < valM (s 16) q1 (127 - i)) && !decide (valM (s 16) q2 (127 - i) < valM (s 16) q2 i)) → J G "partOf" RX12 cX12_partOf 11 (some .int) 0 0 2 Q 0 0 70 [(0, .ref o), (1, .int (nI q1)), (2, .int (nI q2)), (3, .int (nI 1)), (4, .int ((prF (s 16) q1 q2 i).1)), (5, .int ((prF (s 16) q1 q2 i).2)), (6, .int (nI i)), (7, .int (valM (s 16) q1 i)), (8, .int (valM (s 16) q2 (127 - i)))] [.int t0] (mW G o a s) := by
          intro t0 qt0
          subst qt0
          refine J_istore [(0, .ref o), (1, .int (nI q1)), (2, .int (nI q2)), (3, .int (nI 1)), (4, .int ((prF (s 16) q1 q2 i).1)), (5, .int ((prF (s 16) q1 q2 i).2)), (6, .int (nI i)), (7, .int (valM (s 16) q1 i)), (8, .int (valM (s 16) q2 (127 - i))), (9, .int (bI (!decide (valM (s 16) q1 i < valM (s 16) q1 (127 - i)) && !decide (valM (s 16) q2 (127 - i) < valM (s 16) q2 i))))] dX12_partOf_70 (by decide) rfl rfl rfl ?_
          refine J_iload dX12_partOf_72 rfl ?_
          have K92_2 : ∀ (t0 : Int32), t0 = bI (prB (s 16) q1 q2 i (prF (s 16) q1 q2 i).2) → J G "partOf" RX12 cX12_partOf 11 (some .int) 0 0 2 Q 0 0 92 [(0, .ref o), (1, .int (nI q1)), (2, .int (nI q2)), (3, .int (nI 1)), (4, .int ((prF (s 16) q1 q2 i).1)), (5, .int ((prF (s 16) q1 q2 i).2)), (6, .int (nI i)), (7, .int (valM (s 16) q1 i)), (8, .int (valM (s 16) q2 (127 - i))), (9, .int (bI (!decide (valM (s 16) q1 i < valM (s 16) q1 (127 - i)) && !decide (valM (s 16) q2 (127 - i) < valM (s 16) q2 i))))] [.int t0] (mW G o a s) := by
            intro t0 qt0
            subst qt0
            refine J_istore [(0, .ref o), (1, .int (nI q1)), (2, .int (nI q2)), (3, .int (nI 1)), (4, .int ((prF (s 16) q1 q2 i).1)), (5, .int ((prF (s 16) q1 q2 i).2)), (6, .int (nI i)), (7, .int (valM (s 16) q1 i)), (8, .int (valM (s 16) q2 (127 - i))), (9, .int (bI (!decide (valM (s 16) q1 i < valM (s 16) q1 (127 - i)) && !decide (valM (s 16) q2 (127 - i) < valM (s 16) q2 i)))), (10, .int (bI (prB (s 16) q1 q2 i (prF (s 16) q1 q2 i).2)))] dX12_partOf_92 (by decide) rfl rfl rfl ?_
            refine J_iload dX12_partOf_94 rfl ?_
            have K106_3 : ∀ (t0 : Int32), t0 = (if (prB (s 16) q1 q2 i (prF (s 16) q1 q2 i).2) = false then (prF (s 16) q1 q2 i).1 else nI i) → J G "partOf" RX12 cX12_partOf 11 (some .int) 0 0 2 Q 0 0 106 [(0, .ref o), (1, .int (nI q1)), (2, .int (nI q2)), (3, .int (nI 1)), (4, .int ((prF (s 16) q1 q2 i).1)), (5, .int ((prF (s 16) q1 q2 i).2)), (6, .int (nI i)), (7, .int (valM (s 16) q1 i)), (8, .int (valM (s 16) q2 (127 - i))), (9, .int (bI (!decide (valM (s 16) q1 i < valM (s 16) q1 (127 - i)) && !decide (valM (s 16) q2 (127 - i) < valM (s 16) q2 i)))), (10, .int (bI (prB (s 16) q1 q2 i (prF (s 16) q1 q2 i).2)))] [.int t0] (mW G o a s) := by
              intro t0 qt0
              subst qt0
              refine J_istore [(0, .ref o), (1, .int (nI q1)), (2, .int (nI q2)), (3, .int (nI 1)), (4, .int (if (prB (s 16) q1 q2 i (prF (s 16) q1 q2 i).2) = false then (prF (s 16) q1 q2 i).1 else nI i)), (5, .int ((prF (s 16) q1 q2 i).2)), (6, .int (nI i)), (7, .int (valM (s 16) q1 i)), (8, .int (valM (s 16) q2 (127 - i))), (9, .int (bI (!decide (valM (s 16) q1 i < valM (s 16) q1 (127 - i)) && !decide (valM (s 16) q2 (127 - i) < valM (s 16) q2 i)))), (10, .int (bI (prB (s 16) q1 q2 i (prF (s 16) q1 q2 i).2)))] dX12_partOf_106 (by decide) rfl rfl rfl ?_
              refine J_iload dX12_partOf_108 rfl ?_
              have K123_4 : ∀ (t0 : Int32), t0 = (if (prB (s 16) q1 q2 i (prF (s 16) q1 q2 i).2) = false then (prF (s 16) q1 q2 i).2 else (valM (s 16) q1 i) + (valM (s 16) q2 (127 - i))) → J G "partOf" RX12 cX12_partOf 11 (some .int) 0 0 2 Q 0 0 123 [(0, .ref o), (1, .int (nI q1)), (2, .int (nI q2)), (3, .int (nI 1)), (4, .int (if (prB (s 16) q1 q2 i (prF (s 16) q1 q2 i).2) = false then (prF (s 16) q1 q2 i).1 else nI i)), (5, .int ((prF (s 16) q1 q2 i).2)), (6, .int (nI i)), (7, .int (valM (s 16) q1 i)), (8, .int (valM (s 16) q2 (127 - i))), (9, .int (bI (!decide (valM (s 16) q1 i < valM (s 16) q1 (127 - i)) && !decide (valM (s 16) q2 (127 - i) < valM (s 16) q2 i)))), (10, .int (bI (prB (s 16) q1 q2 i (prF (s 16) q1 q2 i).2)))] [.int t0] (mW G o a s) := by
                intro t0 qt0
                subst qt0
                refine J_istore [(0, .ref o), (1, .int (nI q1)), (2, .int (nI q2)), (3, .int (nI 1)), (4, .int (if (prB (s 16) q1 q2 i (prF (s 16) q1 q2 i).2) = false then (prF (s 16) q1 q2 i).1 else nI i)), (5, .int (if (prB (s 16) q1 q2 i (prF (s 16) q1 q2 i).2) = false then (prF (s 16) q1 q2 i).2 else (valM (s 16) q1 i) + (valM (s 16) q2 (127 - i)))), (6, .int (nI i)), (7, .int (valM (s 16) q1 i)), (8, .int (valM (s 16) q2 (127 - i))), (9, .int (bI (!decide (valM (s 16) q1 i < valM (s 16) q1 (127 - i)) && !decide (valM (s 16) q2 (127 - i) < valM (s 16) q2 i)))), (10, .int (bI (prB (s 16) q1 q2 i (prF (s 16) q1 q2 i).2)))] dX12_partOf_123 (by decide) rfl rfl rfl ?_
                refine J_iincN [(0, .ref o), (1, .int (nI q1)), (2, .int (nI q2)), (3, .int (nI 1)), (4, .int (if (prB (s 16) q1 q2 i (prF (s 16) q1 q2 i).2) = false then (prF (s 16) q1 q2 i).1 else nI i)), (5, .int (if (prB (s 16) q1 q2 i (prF (s 16) q1 q2 i).2) = false then (prF (s 16) q1 q2 i).2 else (valM (s 16) q1 i) + (valM (s 16) q2 (127 - i)))), (6, .int (nI (i + 1))), (7, .int (valM (s 16) q1 i)), (8, .int (valM (s 16) q2 (127 - i))), (9, .int (bI (!decide (valM (s 16) q1 i < valM (s 16) q1 (127 - i)) && !decide (valM (s 16) q2 (127 - i) < valM (s 16) q2 i)))), (10, .int (bI (prB (s 16) q1 q2 i (prF (s 16) q1 q2 i).2)))] dX12_partOf_125 rfl (by decide) rfl rfl rfl ?_
                refine J_goto 9 dX12_partOf_128 (by decide) ?_
                refine J_lv [0, 1, 2, 3, 4, 5, 6] rfl ?_
                exact ih9 (i + 1) (by omega) (by omega)  _ _ _ (by rw [prF]; split <;> simp_all) (by rw [prF]; split <;> simp_all) rfl
              refine J_if_eqB 121 dX12_partOf_110 (by decide) (fun kcz6 => ?_) (fun kcz6 => ?_)
              · refine J_iload dX12_partOf_121 rfl ?_
                exact K123_4 _ (by simp [kcz1, kcz6])
              · refine J_iload dX12_partOf_113 rfl ?_
                refine J_iload dX12_partOf_115 rfl ?_
                refine J_iadd dX12_partOf_117 ?_
                refine J_goto 123 dX12_partOf_118 (by decide) ?_
                exact K123_4 _ (by simp [kcz1, kcz6])
            refine J_if_eqB 104 dX12_partOf_96 (by decide) (fun kcz7 => ?_) (fun kcz7 => ?_)
            · refine J_iload dX12_partOf_104 rfl ?_
              exact K106_3 _ (by simp [kcz1, kcz7])
            · refine J_iload dX12_partOf_99 rfl ?_
              refine J_goto 106 dX12_partOf_101 (by decide) ?_
              exact K106_3 _ (by simp [kcz1, kcz7])
          refine J_if_eqB 91 dX12_partOf_74 (by decide) (fun kcz8 => ?_) (fun kcz8 => ?_)
          · refine J_iconst (v := nI 0) dX12_partOf_91 (by decide) ?_
            exact K92_2 _ (by first | (show bI false = bI (prB (s 16) q1 q2 i (prF (s 16) q1 q2 i).2); simp [prB, kcz1, kcz8]; done) | (show bI true = bI (prB (s 16) q1 q2 i (prF (s 16) q1 q2 i).2); simp [prB, kcz1, kcz8]))
          · refine J_iload dX12_partOf_77 rfl ?_
            refine J_iload dX12_partOf_79 rfl ?_
            refine J_iadd dX12_partOf_81 ?_
            refine J_iload dX12_partOf_82 rfl ?_
            refine J_icmp_le 91 dX12_partOf_84 (by decide) (fun kcz9 => ?_) (fun kcz9 => ?_)
            · refine J_iconst (v := nI 0) dX12_partOf_91 (by decide) ?_
              exact K92_2 _ (by first | (show bI false = bI (prB (s 16) q1 q2 i (prF (s 16) q1 q2 i).2); simp [prB, kcz1, kcz8, kcz9]; done) | (show bI true = bI (prB (s 16) q1 q2 i (prF (s 16) q1 q2 i).2); simp [prB, kcz1, kcz8, kcz9]))
            · refine J_iconst (v := nI 1) dX12_partOf_87 (by decide) ?_
              refine J_goto 92 dX12_partOf_88 (by decide) ?_
              exact K92_2 _ (by first | (show bI false = bI (prB (s 16) q1 q2 i (prF (s 16) q1 q2 i).2); simp [prB, kcz1, kcz8, kcz9]; done) | (show bI true = bI (prB (s 16) q1 q2 i (prF (s 16) q1 q2 i).2); simp [prB, kcz1, kcz8, kcz9]))
        refine J_icmp_lt 69 dX12_partOf_50 (by decide) (fun kcz10 => ?_) (fun kcz10 => ?_)
        · refine J_iconst (v := nI 0) dX12_partOf_69 (by decide) ?_
          exact K70_1 _ (by show bI false = bI (!decide (valM (s 16) q1 i < valM (s 16) q1 (127 - i)) && !decide (valM (s 16) q2 (127 - i) < valM (s 16) q2 i)); simp [kcz1, kcz10])
        · refine J_iload dX12_partOf_53 rfl ?_
          refine J_aload_n dX12_partOf_55 rfl rfl ?_
          refine J_iload_n dX12_partOf_56 rfl rfl ?_
          refine J_iload dX12_partOf_57 rfl ?_
          refine J_cVi (x := yX12_in) [.int (nI q2), .int (nI i)] 0 mv_X12_242 (c_X12_valueOf o a s q2 i (by omega) (by omega)) mW_0 rfl rfl (by decide) (Nat.le_of_ble_eq_true rfl) ⟨Nat.le_refl _, Nat.le_refl _⟩ dX12_partOf_59 ?_
          refine J_icmp_lt 69 dX12_partOf_62 (by decide) (fun kcz11 => ?_) (fun kcz11 => ?_)
          · refine J_iconst (v := nI 0) dX12_partOf_69 (by decide) ?_
            exact K70_1 _ (by show bI false = bI (!decide (valM (s 16) q1 i < valM (s 16) q1 (127 - i)) && !decide (valM (s 16) q2 (127 - i) < valM (s 16) q2 i)); simp [kcz1, kcz10, kcz11])
          · refine J_iconst (v := nI 1) dX12_partOf_65 (by decide) ?_
            refine J_goto 70 dX12_partOf_66 (by decide) ?_
            exact K70_1 _ (by show bI true = bI (!decide (valM (s 16) q1 i < valM (s 16) q1 (127 - i)) && !decide (valM (s 16) q2 (127 - i) < valM (s 16) q2 i)); simp [kcz1, kcz10, kcz11])
  exact L9 (128 + 1) 0 (by omega) (by omega)  _ _ _ rfl rfl rfl
theorem c_X12_partOf1 {G : GT} (o : Nat) (a : Nat → Nat) (s : Nat → Nat → Int32) (q1 q2 : Nat) (hq1 : q1 < 6) (hq2 : q2 < 6) : Ct G yX12_partOf cX12_partOf 11 (some .int) 0 0 2 [.ref o, .int (nI q1), .int (nI q2), .int (nI 1)] (mW G o a s) (Is (some (.int ((prF (s 16) q1 q2 128).2))) (mW G o a s)) := Ct.of rfl (Nat.le_of_ble_eq_true rfl) (j_X12_partOf1 o a s q1 q2 hq1 hq2 (fun _ e => by subst e; exact Is.rf _ _))
set_option maxRecDepth 100000 in
set_option maxHeartbeats 1000000 in
theorem j_X12_tells0 {G : GT} (ws : va_W) (v : Int32) (hv : v = -1 ∨ ∃ j, j < 256 ∧ v = nI j) {Q : Option Value → va_W → Prop} (hq : ∀ v_ : Int32, v_ = tlM v 0 → Q (some (.int v_)) ws) : J G "tells" RX12 cX12_tells 2 (some .int) 0 0 1 Q 0 0 0 [(0, .int v), (1, .int (nI 0))] [] ws := by
  refine J_iload_n dX12_tells_0 rfl rfl ?_
  refine J_iconst (v := -1) dX12_tells_1 (by decide) ?_
  refine J_icmp_eq 10 dX12_tells_2 (by decide) (fun kcz1 => ?_) (fun kcz1 => ?_)
  · refine J_iload_n dX12_tells_10 rfl rfl ?_
    refine J_goto 18 dX12_tells_11 (by decide) ?_
    exact J_iret dX12_tells_18 rfl rfl rfl (hq _ (by simp [tlM, kcz1]))
  · refine J_iload_n dX12_tells_5 rfl rfl ?_
    refine J_iconst (v := nI 1) dX12_tells_6 (by decide) ?_
    refine J_icmp_ne 14 dX12_tells_7 (by decide) (fun _ => ?_) (fun c => absurd c (by decide))
    refine J_iload_n dX12_tells_14 rfl rfl ?_
    obtain ⟨j9, hj9, rfl⟩ := hv.resolve_left kcz1
    have ej9 : (nI j9).toNatClampNeg = j9 := nI_clamp (by omega)
    refine J_cSi [.int (nI j9)] ms_X12_186 (c_X12_ones ws j9 (by first | omega | exact bm_lt256 _ (by omega))) rfl rfl (by decide) (Nat.le_of_ble_eq_true rfl) ⟨Nat.le_refl _, Nat.le_refl _⟩ dX12_tells_15 ?_
    exact J_iret dX12_tells_18 rfl rfl rfl (hq _ (by simp [tlM, kcz1, ej9]))
theorem c_X12_tells0 {G : GT} (ws : va_W) (v : Int32) (hv : v = -1 ∨ ∃ j, j < 256 ∧ v = nI j) : Ct G yX12_tells cX12_tells 2 (some .int) 0 0 1 [.int v, .int (nI 0)] ws (Is (some (.int (tlM v 0))) ws) := Ct.of rfl (Nat.le_of_ble_eq_true rfl) (j_X12_tells0 ws v hv (fun _ e => by subst e; exact Is.rf _ _))
set_option maxRecDepth 100000 in
set_option maxHeartbeats 1000000 in
theorem j_X12_tells1 {G : GT} (ws : va_W) (v : Int32) (hv : v = -1 ∨ ∃ j, j < 256 ∧ v = nI j) {Q : Option Value → va_W → Prop} (hq : ∀ v_ : Int32, v_ = tlM v 1 → Q (some (.int v_)) ws) : J G "tells" RX12 cX12_tells 2 (some .int) 0 0 1 Q 0 0 0 [(0, .int v), (1, .int (nI 1))] [] ws := by
  refine J_iload_n dX12_tells_0 rfl rfl ?_
  refine J_iconst (v := -1) dX12_tells_1 (by decide) ?_
  refine J_icmp_eq 10 dX12_tells_2 (by decide) (fun kcz1 => ?_) (fun kcz1 => ?_)
  · refine J_iload_n dX12_tells_10 rfl rfl ?_
    refine J_goto 18 dX12_tells_11 (by decide) ?_
    exact J_iret dX12_tells_18 rfl rfl rfl (hq _ (by simp [tlM, kcz1]))
  · refine J_iload_n dX12_tells_5 rfl rfl ?_
    refine J_iconst (v := nI 1) dX12_tells_6 (by decide) ?_
    refine J_icmp_ne 14 dX12_tells_7 (by decide) (fun c => absurd c (by decide)) (fun _ => ?_)
    refine J_iload_n dX12_tells_10 rfl rfl ?_
    refine J_goto 18 dX12_tells_11 (by decide) ?_
    exact J_iret dX12_tells_18 rfl rfl rfl (hq _ (by simp [tlM, kcz1]))
theorem c_X12_tells1 {G : GT} (ws : va_W) (v : Int32) (hv : v = -1 ∨ ∃ j, j < 256 ∧ v = nI j) : Ct G yX12_tells cX12_tells 2 (some .int) 0 0 1 [.int v, .int (nI 1)] ws (Is (some (.int (tlM v 1))) ws) := Ct.of rfl (Nat.le_of_ble_eq_true rfl) (j_X12_tells1 ws v hv (fun _ e => by subst e; exact Is.rf _ _))
set_option maxRecDepth 100000 in
set_option maxHeartbeats 1000000 in
theorem j_X12_writeOf {G : GT} (o : Nat) (a : Nat → Nat) (s : Nat → Nat → Int32) (n : Nat) (hn : s 8 0 = nI n) (hn8 : n ≤ 8) (m : Nat) (hm : s 8 1 = nI m) (hm6 : m ≤ 6) (c : Nat) (hc : s 8 2 = nI c) (hc15 : c ≤ 15) (hCl : ∀ k, k < c → s 11 (4 * k + 3) = -1 ∨ ∃ j, j < 8 ∧ s 11 (4 * k + 3) = nI j) (rf : Nat) (hrf : s 12 0 = nI rf) (hrf12 : rf ≤ 12) (q : Nat) (hq6 : q < 6) {Q : Option Value → va_W → Prop} (hq : ∀ v_ : Int32, v_ = wrF n m c (s 9) (s 10) (s 11) rf (s 13) q (2 ^ n) → Q (some (.int v_)) (mW G o a (su 18 (su 17 (su 15 (su 14 s (fun _ => nI q)) (fun _ => nI 0)) ((wlF n m (s 11) (rfsM rf (s 13) (nI q) 0) c).1)) (fun _ => nI (wlF n m (s 11) (rfsM rf (s 13) (nI q) 0) c).2)))) : J G "writeOf" RX12 cX12_writeOf 4 (some .int) 0 0 5 Q 0 0 0 [(0, .ref o), (1, .int (nI q))] [] (mW G o a s) := by
  have h2n : 2 ^ n ≤ 256 := Nat.pow_le_pow_right (by decide) hn8
  have h2p : 0 < 2 ^ n := Nat.two_pow_pos n
  refine J_iconst (v := -1) dX12_writeOf_0 (by decide) ?_
  refine J_istore_n [(0, .ref o), (1, .int (nI q)), (2, .int (-1))] dX12_writeOf_1 rfl (by decide) rfl rfl rfl ?_
  refine J_aload_n dX12_writeOf_2 rfl rfl ?_
  refine J_iload_n dX12_writeOf_3 rfl rfl ?_
  refine Mp_14 dX12_writeOf_4 ?_
  refine J_iconst (v := nI 0) dX12_writeOf_7 (by decide) ?_
  refine J_istore_n [(0, .ref o), (1, .int (nI q)), (2, .int (-1)), (3, .int (nI 0))] dX12_writeOf_8 rfl (by decide) rfl rfl rfl ?_
  have L9 : ∀ (f i : Nat) (ya yb yc : Nat → Int32), 2 ^ n - i < f → i ≤ 2 ^ n → ∀ (x2 : Int32) (x3 : Int32), x2 = wrF n m c (s 9) (s 10) (s 11) rf (s 13) q i → x3 = nI i → J G "writeOf" RX12 cX12_writeOf 4 (some .int) 0 0 5 Q 0 0 9 [(0, .ref o), (1, .int (nI q)), (2, .int x2), (3, .int x3)] [] (mW G o a (su 18 (su 17 (su 15 (su 14 s (fun _ => nI q)) ya) yb) yc)) := by
    intro f
    induction f with
    | zero => intro i ya yb yc h; exact absurd h (Nat.not_lt_zero _)
    | succ f ih9 =>
      intro i ya yb yc hf9 hle9 x2 x3 e2 e3
      subst e2
      subst e3
      refine J_iload_n dX12_writeOf_9 rfl rfl ?_
      refine J_iconst (v := nI 1) dX12_writeOf_10 (by decide) ?_
      refine J_aload_n dX12_writeOf_11 rfl rfl ?_
      refine Mg_8 dX12_writeOf_12 ?_
      refine J_iconst (v := nI 0) dX12_writeOf_15 (by decide) ?_
      refine Ml_8 (s := (su 18 (su 17 (su 15 (su 14 s (fun _ => nI q)) ya) yb) yc)) (s 8) rfl 0 rfl (by omega) dX12_writeOf_16 ?_
      refine J_rw (y := nI n) hn ?_
      refine J_shl1N dX12_writeOf_17 (by omega) ?_
      refine J_icmp_geN 66 (by omega) (by omega) dX12_writeOf_18 (by decide) (fun kcz1 => ?_) (fun kcz1 => ?_)
      · refine J_aload_n dX12_writeOf_66 rfl rfl ?_
        refine J_iconst (v := nI 0) dX12_writeOf_67 (by decide) ?_
        refine Mp_15 dX12_writeOf_68 ?_
        refine J_ws (ws2 := (mW G o a (su 18 (su 17 (su 15 (su 14 s (fun _ => nI q)) (fun _ => nI 0)) yb) yc))) (congrArg (mW G o a) ((su_sw (by decide)).trans (su_cg ((su_sw (by decide)).trans (su_cg su_tw))))) ?_
        refine J_aload_n dX12_writeOf_71 rfl rfl ?_
        refine J_cVv (x := yX12_in) [] 0 mv_X12_168 (c_X12_readsWill o a (su 18 (su 17 (su 15 (su 14 s (fun _ => nI q)) (fun _ => nI 0)) yb) yc) n hn hn8 m hm hm6 c hc hc15 hCl rf 0 hrf hrf12 rfl (by first | decide | omega)) mW_0 rfl rfl (by decide) (Nat.le_of_ble_eq_true rfl) ⟨Nat.le_refl _, Nat.le_refl _⟩ dX12_writeOf_72 ?_
        show J G "writeOf" RX12 cX12_writeOf 4 (some .int) 0 0 5 Q 0 0 75 [(0, .ref o), (1, .int (nI q)), (2, .int (wrF n m c (s 9) (s 10) (s 11) rf (s 13) q i)), (3, .int (nI i))] [] (mW G o a (su 18 (su 17 (su 18 (su 17 (su 15 (su 14 s (fun _ => nI q)) (fun _ => nI 0)) yb) yc) ((wlF n m (s 11) (rfsM rf (s 13) (nI q) 0) c).1)) (fun _ => nI (wlF n m (s 11) (rfsM rf (s 13) (nI q) 0) c).2)))
        refine J_ws (ws2 := (mW G o a (su 18 (su 17 (su 15 (su 14 s (fun _ => nI q)) (fun _ => nI 0)) ((wlF n m (s 11) (rfsM rf (s 13) (nI q) 0) c).1)) (fun _ => nI (wlF n m (s 11) (rfsM rf (s 13) (nI q) 0) c).2)))) (congrArg (mW G o a) (Eq.trans (su_cg ((su_sw (by decide)).trans (su_cg su_tw))) su_tw)) ?_
        refine J_iload_n dX12_writeOf_75 rfl rfl ?_
        exact J_iret dX12_writeOf_76 rfl rfl rfl (hq _ (by have e_ : i = 2 ^ n := (by omega); subst e_; rfl))
      · refine J_iload_n dX12_writeOf_21 rfl rfl ?_
        refine J_iconst (v := -1) dX12_writeOf_22 (by decide) ?_
        refine J_icmp_eq 37 dX12_writeOf_23 (by decide) (fun kcz2 => ?_) (fun kcz2 => ?_)
        · refine J_aload_n dX12_writeOf_37 rfl rfl ?_
          refine J_iload_n dX12_writeOf_38 rfl rfl ?_
          refine Mp_15 dX12_writeOf_39 ?_
          refine J_ws (ws2 := (mW G o a (su 18 (su 17 (su 15 (su 14 s (fun _ => nI q)) (fun _ => nI i)) yb) yc))) (congrArg (mW G o a) ((su_sw (by decide)).trans (su_cg ((su_sw (by decide)).trans (su_cg su_tw))))) ?_
          refine J_aload_n dX12_writeOf_42 rfl rfl ?_
          refine J_cVv (x := yX12_in) [] 0 mv_X12_168 (c_X12_readsWill o a (su 18 (su 17 (su 15 (su 14 s (fun _ => nI q)) (fun _ => nI i)) yb) yc) n hn hn8 m hm hm6 c hc hc15 hCl rf i hrf hrf12 rfl (by first | decide | omega)) mW_0 rfl rfl (by decide) (Nat.le_of_ble_eq_true rfl) ⟨Nat.le_refl _, Nat.le_refl _⟩ dX12_writeOf_43 ?_
          show J G "writeOf" RX12 cX12_writeOf 4 (some .int) 0 0 5 Q 0 0 46 [(0, .ref o), (1, .int (nI q)), (2, .int (wrF n m c (s 9) (s 10) (s 11) rf (s 13) q i)), (3, .int (nI i))] [] (mW G o a (su 18 (su 17 (su 18 (su 17 (su 15 (su 14 s (fun _ => nI q)) (fun _ => nI i)) yb) yc) ((wlF n m (s 11) (rfsM rf (s 13) (nI q) i) c).1)) (fun _ => nI (wlF n m (s 11) (rfsM rf (s 13) (nI q) i) c).2)))
          refine J_ws (ws2 := (mW G o a (su 18 (su 17 (su 15 (su 14 s (fun _ => nI q)) (fun _ => nI i)) ((wlF n m (s 11) (rfsM rf (s 13) (nI q) i) c).1)) (fun _ => nI (wlF n m (s 11) (rfsM rf (s 13) (nI q) i) c).2)))) (congrArg (mW G o a) (Eq.trans (su_cg ((su_sw (by decide)).trans (su_cg su_tw))) su_tw)) ?_
          refine J_aload_n dX12_writeOf_46 rfl rfl ?_
          refine J_iload_n dX12_writeOf_47 rfl rfl ?_
          refine J_cVi (x := yX12_in) [.int (nI q)] 0 mv_X12_198 (c_X12_lives o a (su 18 (su 17 (su 15 (su 14 s (fun _ => nI q)) (fun _ => nI i)) ((wlF n m (s 11) (rfsM rf (s 13) (nI q) i) c).1)) (fun _ => nI (wlF n m (s 11) (rfsM rf (s 13) (nI q) i) c).2)) n hn hn8 q (by omega)) mW_0 rfl rfl (by decide) (Nat.le_of_ble_eq_true rfl) ⟨Nat.le_refl _, Nat.le_refl _⟩ dX12_writeOf_48 ?_
          refine J_rw (y := bI (livM n (s 9) (s 10) ((wlF n m (s 11) (rfsM rf (s 13) (nI q) i) c).1) q)) rfl ?_
          refine J_if_eqB 58 dX12_writeOf_51 (by decide) (fun kcz3 => ?_) (fun kcz3 => ?_)
          · refine J_iload_n dX12_writeOf_58 rfl rfl ?_
            refine J_istore_n [(0, .ref o), (1, .int (nI q)), (2, .int (wrF n m c (s 9) (s 10) (s 11) rf (s 13) q i)), (3, .int (nI i))] dX12_writeOf_59 rfl (by decide) rfl rfl rfl ?_
            refine J_iincN [(0, .ref o), (1, .int (nI q)), (2, .int (wrF n m c (s 9) (s 10) (s 11) rf (s 13) q i)), (3, .int (nI (i + 1)))] dX12_writeOf_60 rfl (by decide) rfl rfl rfl ?_
            refine J_goto 9 dX12_writeOf_63 (by decide) ?_
            exact ih9 (i + 1) (fun _ => nI i) ((wlF n m (s 11) (rfsM rf (s 13) (nI q) i) c).1) (fun _ => nI (wlF n m (s 11) (rfsM rf (s 13) (nI q) i) c).2) (by omega) (by omega) _ _ (by simp only [wrF, wrB]; (repeat' split) <;> simp_all) rfl
          · refine J_iload_n dX12_writeOf_54 rfl rfl ?_
            refine J_goto 59 dX12_writeOf_55 (by decide) ?_
            refine J_istore_n [(0, .ref o), (1, .int (nI q)), (2, .int (nI i)), (3, .int (nI i))] dX12_writeOf_59 rfl (by decide) rfl rfl rfl ?_
            refine J_iincN [(0, .ref o), (1, .int (nI q)), (2, .int (nI i)), (3, .int (nI (i + 1)))] dX12_writeOf_60 rfl (by decide) rfl rfl rfl ?_
            refine J_goto 9 dX12_writeOf_63 (by decide) ?_
            exact ih9 (i + 1) (fun _ => nI i) ((wlF n m (s 11) (rfsM rf (s 13) (nI q) i) c).1) (fun _ => nI (wlF n m (s 11) (rfsM rf (s 13) (nI q) i) c).2) (by omega) (by omega) _ _ (by simp only [wrF, wrB]; (repeat' split) <;> simp_all) rfl
        · refine J_iload_n dX12_writeOf_26 rfl rfl ?_
          refine J_cSi [.int (nI i)] ms_X12_186 (c_X12_ones (mW G o a (su 18 (su 17 (su 15 (su 14 s (fun _ => nI q)) ya) yb) yc)) i (by first | omega | exact bm_lt256 _ (by omega))) rfl rfl (by decide) (Nat.le_of_ble_eq_true rfl) ⟨Nat.le_refl _, Nat.le_refl _⟩ dX12_writeOf_27 ?_
          refine J_iload_n dX12_writeOf_30 rfl rfl ?_
          refine J_rw (y := nI (wrF n m c (s 9) (s 10) (s 11) rf (s 13) q i).toNatClampNeg) (wrF_nI kcz2 (by omega)) ?_
          refine J_cSi [.int (nI ((wrF n m c (s 9) (s 10) (s 11) rf (s 13) q i).toNatClampNeg))] ms_X12_186 (c_X12_ones (mW G o a (su 18 (su 17 (su 15 (su 14 s (fun _ => nI q)) ya) yb) yc)) ((wrF n m c (s 9) (s 10) (s 11) rf (s 13) q i).toNatClampNeg) (wrF_lt (by omega))) rfl rfl (by decide) (Nat.le_of_ble_eq_true rfl) ⟨Nat.le_refl _, Nat.le_refl _⟩ dX12_writeOf_31 ?_
          refine J_rw (y := nI (popc ((wrF n m c (s 9) (s 10) (s 11) rf (s 13) q i).toNatClampNeg))) rfl ?_
          refine J_icmp_geN 60 (popc_lt31 _) (popc_lt31 _) dX12_writeOf_34 (by decide) (fun kcz4 => ?_) (fun kcz4 => ?_)
          · refine J_iincN [(0, .ref o), (1, .int (nI q)), (2, .int (wrF n m c (s 9) (s 10) (s 11) rf (s 13) q i)), (3, .int (nI (i + 1)))] dX12_writeOf_60 rfl (by decide) rfl rfl rfl ?_
            refine J_goto 9 dX12_writeOf_63 (by decide) ?_
            exact ih9 (i + 1) ya yb yc (by omega) (by omega) _ _ (by simp only [wrF, wrB]; (repeat' split) <;> simp_all) rfl
          · refine J_aload_n dX12_writeOf_37 rfl rfl ?_
            refine J_iload_n dX12_writeOf_38 rfl rfl ?_
            refine Mp_15 dX12_writeOf_39 ?_
            refine J_ws (ws2 := (mW G o a (su 18 (su 17 (su 15 (su 14 s (fun _ => nI q)) (fun _ => nI i)) yb) yc))) (congrArg (mW G o a) ((su_sw (by decide)).trans (su_cg ((su_sw (by decide)).trans (su_cg su_tw))))) ?_
            refine J_aload_n dX12_writeOf_42 rfl rfl ?_
            refine J_cVv (x := yX12_in) [] 0 mv_X12_168 (c_X12_readsWill o a (su 18 (su 17 (su 15 (su 14 s (fun _ => nI q)) (fun _ => nI i)) yb) yc) n hn hn8 m hm hm6 c hc hc15 hCl rf i hrf hrf12 rfl (by first | decide | omega)) mW_0 rfl rfl (by decide) (Nat.le_of_ble_eq_true rfl) ⟨Nat.le_refl _, Nat.le_refl _⟩ dX12_writeOf_43 ?_
            show J G "writeOf" RX12 cX12_writeOf 4 (some .int) 0 0 5 Q 0 0 46 [(0, .ref o), (1, .int (nI q)), (2, .int (wrF n m c (s 9) (s 10) (s 11) rf (s 13) q i)), (3, .int (nI i))] [] (mW G o a (su 18 (su 17 (su 18 (su 17 (su 15 (su 14 s (fun _ => nI q)) (fun _ => nI i)) yb) yc) ((wlF n m (s 11) (rfsM rf (s 13) (nI q) i) c).1)) (fun _ => nI (wlF n m (s 11) (rfsM rf (s 13) (nI q) i) c).2)))
            refine J_ws (ws2 := (mW G o a (su 18 (su 17 (su 15 (su 14 s (fun _ => nI q)) (fun _ => nI i)) ((wlF n m (s 11) (rfsM rf (s 13) (nI q) i) c).1)) (fun _ => nI (wlF n m (s 11) (rfsM rf (s 13) (nI q) i) c).2)))) (congrArg (mW G o a) (Eq.trans (su_cg ((su_sw (by decide)).trans (su_cg su_tw))) su_tw)) ?_
            refine J_aload_n dX12_writeOf_46 rfl rfl ?_
            refine J_iload_n dX12_writeOf_47 rfl rfl ?_
            refine J_cVi (x := yX12_in) [.int (nI q)] 0 mv_X12_198 (c_X12_lives o a (su 18 (su 17 (su 15 (su 14 s (fun _ => nI q)) (fun _ => nI i)) ((wlF n m (s 11) (rfsM rf (s 13) (nI q) i) c).1)) (fun _ => nI (wlF n m (s 11) (rfsM rf (s 13) (nI q) i) c).2)) n hn hn8 q (by omega)) mW_0 rfl rfl (by decide) (Nat.le_of_ble_eq_true rfl) ⟨Nat.le_refl _, Nat.le_refl _⟩ dX12_writeOf_48 ?_
            refine J_rw (y := bI (livM n (s 9) (s 10) ((wlF n m (s 11) (rfsM rf (s 13) (nI q) i) c).1) q)) rfl ?_
            refine J_if_eqB 58 dX12_writeOf_51 (by decide) (fun kcz5 => ?_) (fun kcz5 => ?_)
            · refine J_iload_n dX12_writeOf_58 rfl rfl ?_
              refine J_istore_n [(0, .ref o), (1, .int (nI q)), (2, .int (wrF n m c (s 9) (s 10) (s 11) rf (s 13) q i)), (3, .int (nI i))] dX12_writeOf_59 rfl (by decide) rfl rfl rfl ?_
              refine J_iincN [(0, .ref o), (1, .int (nI q)), (2, .int (wrF n m c (s 9) (s 10) (s 11) rf (s 13) q i)), (3, .int (nI (i + 1)))] dX12_writeOf_60 rfl (by decide) rfl rfl rfl ?_
              refine J_goto 9 dX12_writeOf_63 (by decide) ?_
              exact ih9 (i + 1) (fun _ => nI i) ((wlF n m (s 11) (rfsM rf (s 13) (nI q) i) c).1) (fun _ => nI (wlF n m (s 11) (rfsM rf (s 13) (nI q) i) c).2) (by omega) (by omega) _ _ (by simp only [wrF, wrB]; (repeat' split) <;> simp_all) rfl
            · refine J_iload_n dX12_writeOf_54 rfl rfl ?_
              refine J_goto 59 dX12_writeOf_55 (by decide) ?_
              refine J_istore_n [(0, .ref o), (1, .int (nI q)), (2, .int (nI i)), (3, .int (nI i))] dX12_writeOf_59 rfl (by decide) rfl rfl rfl ?_
              refine J_iincN [(0, .ref o), (1, .int (nI q)), (2, .int (nI i)), (3, .int (nI (i + 1)))] dX12_writeOf_60 rfl (by decide) rfl rfl rfl ?_
              refine J_goto 9 dX12_writeOf_63 (by decide) ?_
              exact ih9 (i + 1) (fun _ => nI i) ((wlF n m (s 11) (rfsM rf (s 13) (nI q) i) c).1) (fun _ => nI (wlF n m (s 11) (rfsM rf (s 13) (nI q) i) c).2) (by omega) (by omega) _ _ (by simp only [wrF, wrB]; (repeat' split) <;> simp_all) rfl
  exact L9 (2 ^ n + 1) 0 (s 15) (s 17) (s 18) (by omega) (by omega) _ _ rfl rfl
theorem c_X12_writeOf {G : GT} (o : Nat) (a : Nat → Nat) (s : Nat → Nat → Int32) (n : Nat) (hn : s 8 0 = nI n) (hn8 : n ≤ 8) (m : Nat) (hm : s 8 1 = nI m) (hm6 : m ≤ 6) (c : Nat) (hc : s 8 2 = nI c) (hc15 : c ≤ 15) (hCl : ∀ k, k < c → s 11 (4 * k + 3) = -1 ∨ ∃ j, j < 8 ∧ s 11 (4 * k + 3) = nI j) (rf : Nat) (hrf : s 12 0 = nI rf) (hrf12 : rf ≤ 12) (q : Nat) (hq6 : q < 6) : Ct G yX12_writeOf cX12_writeOf 4 (some .int) 0 0 5 [.ref o, .int (nI q)] (mW G o a s) (Is (some (.int (wrF n m c (s 9) (s 10) (s 11) rf (s 13) q (2 ^ n)))) (mW G o a (su 18 (su 17 (su 15 (su 14 s (fun _ => nI q)) (fun _ => nI 0)) ((wlF n m (s 11) (rfsM rf (s 13) (nI q) 0) c).1)) (fun _ => nI (wlF n m (s 11) (rfsM rf (s 13) (nI q) 0) c).2)))) := Ct.of rfl (Nat.le_of_ble_eq_true rfl) (j_X12_writeOf o a s n hn hn8 m hm hm6 c hc hc15 hCl rf hrf hrf12 q hq6 (fun _ e => by subst e; exact Is.rf _ _))
set_option maxRecDepth 100000 in
set_option maxHeartbeats 1000000 in
theorem j_X12_quarrelOf0 {G : GT} (o : Nat) (a : Nat → Nat) (s : Nat → Nat → Int32) (n : Nat) (hn : s 8 0 = nI n) (hn8 : n ≤ 8) (m : Nat) (hm : s 8 1 = nI m) (hm6 : m ≤ 6) {Q : Option Value → va_W → Prop} (hq : ∀ v_ : Int32, v_ = quM n m (s 9) (s 17) 0 → Q (some (.int v_)) (mW G o a s)) : J G "quarrelOf" RX12 cX12_quarrelOf 7 (some .int) 0 0 2 Q 0 0 0 [(0, .ref o), (1, .int (nI 0))] [] (mW G o a s) := by
  refine J_iconst (v := nI 0) dX12_quarrelOf_0 (by decide) ?_
  refine J_istore_n [(0, .ref o), (1, .int (nI 0)), (2, .int (nI 0))] dX12_quarrelOf_1 rfl (by decide) rfl rfl rfl ?_
  have L2 : ∀ (f t : Nat), 24 - t < f → t ≤ 24 → quM n m (s 9) (s 17) 0 = (qrO (quA n (s 9) (s 17) 0) m (24 - t) t).getD (-1) → ∀ (x2 : Int32), x2 = nI t → J G "quarrelOf" RX12 cX12_quarrelOf 7 (some .int) 0 0 2 Q 0 0 2 [(0, .ref o), (1, .int (nI 0)), (2, .int x2)] [] (mW G o a s) := by
    intro f
    induction f with
    | zero => intro t h; exact absurd h (Nat.not_lt_zero _)
    | succ f ih2 =>
      intro t hf2 hle2 hO x2 e2
      subst e2
      refine J_iload_n dX12_quarrelOf_2 rfl rfl ?_
      refine J_bipush (v := nI 24) dX12_quarrelOf_3 (by decide) ?_
      refine J_icmp_geN 120 (by omega) (by omega) dX12_quarrelOf_5 (by decide) (fun kcz1 => ?_) (fun kcz1 => ?_)
      · refine J_iconst (v := -1) dX12_quarrelOf_120 (by decide) ?_
        exact J_iret dX12_quarrelOf_121 rfl rfl rfl (hq _ (by rw [hO, show 24 - t = 0 by omega]; rfl))
      · refine J_iconst (v := nI 0) dX12_quarrelOf_8 (by decide) ?_
        refine J_istore_n [(0, .ref o), (1, .int (nI 0)), (2, .int (nI t)), (3, .int (nI 0))] dX12_quarrelOf_9 rfl (by decide) rfl rfl rfl ?_
        have L10 : ∀ (f e : Nat), m - e < f → e ≤ m → quM n m (s 9) (s 17) 0 = ((qrI (fun e => quA n (s 9) (s 17) 0 e t) (m - e) e).getD ((qrO (quA n (s 9) (s 17) 0) m (23 - t) (t + 1)).getD (-1))) → ∀ (x3 : Int32), x3 = nI e → J G "quarrelOf" RX12 cX12_quarrelOf 7 (some .int) 0 0 2 Q 0 0 10 [(0, .ref o), (1, .int (nI 0)), (2, .int (nI t)), (3, .int x3)] [] (mW G o a s) := by
          intro f
          induction f with
          | zero => intro e h; exact absurd h (Nat.not_lt_zero _)
          | succ f ih10 =>
            intro e hf10 hle10 hI x3 e3
            subst e3
            refine J_iload_n dX12_quarrelOf_10 rfl rfl ?_
            refine J_aload_n dX12_quarrelOf_11 rfl rfl ?_
            refine Mg_8 dX12_quarrelOf_12 ?_
            refine J_iconst (v := nI 1) dX12_quarrelOf_15 (by decide) ?_
            refine Ml_8 (s := s) (s 8) rfl 1 rfl (by omega) dX12_quarrelOf_16 ?_
            refine J_rw (y := nI m) hm ?_
            refine J_icmp_geN 114 (by omega) (by omega) dX12_quarrelOf_17 (by decide) (fun kcz2 => ?_) (fun kcz2 => ?_)
            · refine J_iincN [(0, .ref o), (1, .int (nI 0)), (2, .int (nI (t + 1))), (3, .int (nI e))] dX12_quarrelOf_114 rfl (by decide) rfl rfl rfl ?_
              refine J_goto 2 dX12_quarrelOf_117 (by decide) ?_
              refine J_lv [0, 1, 2] rfl ?_
              exact ih2 (t + 1) (by omega) (by omega) (by rw [hI, show m - e = 0 by omega]; show (qrO _ m (23 - t) (t + 1)).getD (-1) = _; congr 2; omega) _ rfl
            · refine J_aload_n dX12_quarrelOf_20 rfl rfl ?_
              refine J_iload_n dX12_quarrelOf_21 rfl rfl ?_
              refine J_iload_n dX12_quarrelOf_22 rfl rfl ?_
              refine J_cVi (x := yX12_in) [.int (nI e), .int (nI t)] 0 mv_X12_192 (c_X12_atOnce o a s n hn hn8 e t) mW_0 rfl rfl (by decide) (Nat.le_of_ble_eq_true rfl) ⟨Nat.le_refl _, Nat.le_refl _⟩ dX12_quarrelOf_23 ?_
              refine J_istore [(0, .ref o), (1, .int (nI 0)), (2, .int (nI t)), (3, .int (nI e)), (4, .int (nI (onceM n (s 9) (s 17) e t)))] dX12_quarrelOf_26 (by decide) rfl rfl rfl ?_
              refine J_iload dX12_quarrelOf_28 rfl ?_
              refine J_cSi [.int (nI (onceM n (s 9) (s 17) e t))] ms_X12_186 (c_X12_ones (mW G o a s) (onceM n (s 9) (s 17) e t) (by first | omega | exact bm_lt256 _ (by omega))) rfl rfl (by decide) (Nat.le_of_ble_eq_true rfl) ⟨Nat.le_refl _, Nat.le_refl _⟩ dX12_quarrelOf_30 ?_
              refine J_iconst (v := nI 1) dX12_quarrelOf_33 (by decide) ?_
              refine J_icmp_leN 108 (popc_lt31 _) (by omega) dX12_quarrelOf_34 (by decide) (fun kcz3 => ?_) (fun kcz3 => ?_)
              · refine J_iincN [(0, .ref o), (1, .int (nI 0)), (2, .int (nI t)), (3, .int (nI (e + 1))), (4, .int (nI (onceM n (s 9) (s 17) e t)))] dX12_quarrelOf_108 rfl (by decide) rfl rfl rfl ?_
                refine J_goto 10 dX12_quarrelOf_111 (by decide) ?_
                refine J_lv [0, 1, 2, 3] rfl ?_
                exact ih10 (e + 1) (by omega) (by omega) (by rw [hI, qrI_no (A := fun e => quA n (s 9) (s 17) 0 e t) (by omega) (quA_no kcz3)]) _ rfl
              · have hb9 : onceM n (s 9) (s 17) e t < 256 := bm_lt256 _ hn8
                have hp9 : 1 < popc (onceM n (s 9) (s 17) e t) := Nat.not_le.mp kcz3
                have hl9 : lo1 (onceM n (s 9) (s 17) e t) < 8 ∧ lo2 (onceM n (s 9) (s 17) e t) < 8 := ⟨lo1_lt hb9 hp9, lo2_lt hb9 hp9⟩
                refine J_iconst (v := nI 0) dX12_quarrelOf_37 (by decide) ?_
                refine J_istore [(0, .ref o), (1, .int (nI 0)), (2, .int (nI t)), (3, .int (nI e)), (4, .int (nI (onceM n (s 9) (s 17) e t))), (5, .int (nI 0))] dX12_quarrelOf_38 (by decide) rfl rfl rfl ?_
                have L40 : ∀ (f j : Nat), lo1 (onceM n (s 9) (s 17) e t) - j < f → j ≤ lo1 (onceM n (s 9) (s 17) e t) → ∀ (x5 : Int32), x5 = nI j → J G "quarrelOf" RX12 cX12_quarrelOf 7 (some .int) 0 0 2 Q 0 0 40 [(0, .ref o), (1, .int (nI 0)), (2, .int (nI t)), (3, .int (nI e)), (4, .int (nI (onceM n (s 9) (s 17) e t))), (5, .int x5)] [] (mW G o a s) := by
                  intro f
                  induction f with
                  | zero => intro j h; exact absurd h (Nat.not_lt_zero _)
                  | succ f ih40 =>
                    intro j hf40 hle40 x5 e5
                    subst e5
                    refine J_iload dX12_quarrelOf_40 rfl ?_
                    refine J_iload dX12_quarrelOf_42 rfl ?_
                    refine J_cSi [.int (nI (onceM n (s 9) (s 17) e t)), .int (nI j)] ms_X12_154 (c_X12_isIn (mW G o a s) (onceM n (s 9) (s 17) e t) j (by omega) (by omega)) rfl rfl (by decide) (Nat.le_of_ble_eq_true rfl) ⟨Nat.le_refl _, Nat.le_refl _⟩ dX12_quarrelOf_44 ?_
                    refine J_if_neB 56 dX12_quarrelOf_47 (by decide) (fun kcz4 => ?_) (fun kcz4 => ?_)
                    · obtain rfl : j = lo1 (onceM n (s 9) (s 17) e t) := lo1_hit hle40 kcz4
                      refine J_iload dX12_quarrelOf_56 rfl ?_
                      refine J_iconst (v := nI 1) dX12_quarrelOf_58 (by decide) ?_
                      refine J_iaddN dX12_quarrelOf_59 ?_
                      refine J_istore [(0, .ref o), (1, .int (nI 0)), (2, .int (nI t)), (3, .int (nI e)), (4, .int (nI (onceM n (s 9) (s 17) e t))), (5, .int (nI (lo1 (onceM n (s 9) (s 17) e t)))), (6, .int (nI (lo1 (onceM n (s 9) (s 17) e t) + 1)))] dX12_quarrelOf_60 (by decide) rfl rfl rfl ?_
                      have L62 : ∀ (f j2 : Nat), lo2 (onceM n (s 9) (s 17) e t) - j2 < f → j2 ≤ lo2 (onceM n (s 9) (s 17) e t) → lo1 (onceM n (s 9) (s 17) e t) < j2 → ∀ (x6 : Int32), x6 = nI j2 → J G "quarrelOf" RX12 cX12_quarrelOf 7 (some .int) 0 0 2 Q 0 0 62 [(0, .ref o), (1, .int (nI 0)), (2, .int (nI t)), (3, .int (nI e)), (4, .int (nI (onceM n (s 9) (s 17) e t))), (5, .int (nI (lo1 (onceM n (s 9) (s 17) e t)))), (6, .int x6)] [] (mW G o a s) := by
                        intro f
                        induction f with
                        | zero => intro j2 h; exact absurd h (Nat.not_lt_zero _)
                        | succ f ih62 =>
                          intro j2 hf62 hle62 hgt62 x6 e6
                          subst e6
                          refine J_iload dX12_quarrelOf_62 rfl ?_
                          refine J_iload dX12_quarrelOf_64 rfl ?_
                          refine J_cSi [.int (nI (onceM n (s 9) (s 17) e t)), .int (nI j2)] ms_X12_154 (c_X12_isIn (mW G o a s) (onceM n (s 9) (s 17) e t) j2 (by omega) (by omega)) rfl rfl (by decide) (Nat.le_of_ble_eq_true rfl) ⟨Nat.le_refl _, Nat.le_refl _⟩ dX12_quarrelOf_66 ?_
                          refine J_if_neB 78 dX12_quarrelOf_69 (by decide) (fun kcz5 => ?_) (fun kcz5 => ?_)
                          · obtain rfl : j2 = lo2 (onceM n (s 9) (s 17) e t) := lo2_hit hle62 hgt62 kcz5
                            refine J_iload_n dX12_quarrelOf_78 rfl rfl ?_
                            refine J_if_ne 86 dX12_quarrelOf_79 (by decide) (fun c => absurd c (by decide)) (fun _ => ?_)
                            refine J_iload_n dX12_quarrelOf_82 rfl rfl ?_
                            refine J_goto 107 dX12_quarrelOf_83 (by decide) ?_
                            exact J_iret dX12_quarrelOf_107 rfl rfl rfl (hq _ (by rw [hI, qrI_yes (A := fun e => quA n (s 9) (s 17) 0 e t) (by omega) (quA_yes hp9)]; rfl))
                          · refine J_iincN [(0, .ref o), (1, .int (nI 0)), (2, .int (nI t)), (3, .int (nI e)), (4, .int (nI (onceM n (s 9) (s 17) e t))), (5, .int (nI (lo1 (onceM n (s 9) (s 17) e t)))), (6, .int (nI (j2 + 1)))] dX12_quarrelOf_72 rfl (by decide) rfl rfl rfl ?_
                            refine J_goto 62 dX12_quarrelOf_75 (by decide) ?_
                            exact ih62 (j2 + 1) (by have := lo2_step hle62 hgt62 kcz5 hl9.2; omega) (lo2_step hle62 hgt62 kcz5 hl9.2) (by omega) _ rfl
                      exact L62 (lo2 (onceM n (s 9) (s 17) e t) + 1) (lo1 (onceM n (s 9) (s 17) e t) + 1) (by omega) (lo2_gt hb9 hp9) (by omega) _ rfl
                    · refine J_iincN [(0, .ref o), (1, .int (nI 0)), (2, .int (nI t)), (3, .int (nI e)), (4, .int (nI (onceM n (s 9) (s 17) e t))), (5, .int (nI (j + 1)))] dX12_quarrelOf_50 rfl (by decide) rfl rfl rfl ?_
                      refine J_goto 40 dX12_quarrelOf_53 (by decide) ?_
                      exact ih40 (j + 1) (by have := lo1_step hle40 kcz4 hl9.1; omega) (lo1_step hle40 kcz4 hl9.1) _ rfl
                exact L40 (lo1 (onceM n (s 9) (s 17) e t) + 1) 0 (by omega) (by omega) _ rfl
        exact L10 (m + 1) 0 (by omega) (by omega) (by rw [hO, qrO_s (by omega)]; rfl) _ rfl
  exact L2 25 0 (by omega) (by omega) rfl _ rfl
theorem c_X12_quarrelOf0 {G : GT} (o : Nat) (a : Nat → Nat) (s : Nat → Nat → Int32) (n : Nat) (hn : s 8 0 = nI n) (hn8 : n ≤ 8) (m : Nat) (hm : s 8 1 = nI m) (hm6 : m ≤ 6) : Ct G yX12_quarrelOf cX12_quarrelOf 7 (some .int) 0 0 2 [.ref o, .int (nI 0)] (mW G o a s) (Is (some (.int (quM n m (s 9) (s 17) 0))) (mW G o a s)) := Ct.of rfl (Nat.le_of_ble_eq_true rfl) (j_X12_quarrelOf0 o a s n hn hn8 m hm hm6 (fun _ e => by subst e; exact Is.rf _ _))
set_option maxRecDepth 100000 in
set_option maxHeartbeats 1000000 in
theorem j_X12_quarrelOf1 {G : GT} (o : Nat) (a : Nat → Nat) (s : Nat → Nat → Int32) (n : Nat) (hn : s 8 0 = nI n) (hn8 : n ≤ 8) (m : Nat) (hm : s 8 1 = nI m) (hm6 : m ≤ 6) {Q : Option Value → va_W → Prop} (hq : ∀ v_ : Int32, v_ = quM n m (s 9) (s 17) 1 → Q (some (.int v_)) (mW G o a s)) : J G "quarrelOf" RX12 cX12_quarrelOf 7 (some .int) 0 0 2 Q 0 0 0 [(0, .ref o), (1, .int (nI 1))] [] (mW G o a s) := by
  refine J_iconst (v := nI 0) dX12_quarrelOf_0 (by decide) ?_
  refine J_istore_n [(0, .ref o), (1, .int (nI 1)), (2, .int (nI 0))] dX12_quarrelOf_1 rfl (by decide) rfl rfl rfl ?_
  have L2 : ∀ (f t : Nat), 24 - t < f → t ≤ 24 → quM n m (s 9) (s 17) 1 = (qrO (quA n (s 9) (s 17) 1) m (24 - t) t).getD (-1) → ∀ (x2 : Int32), x2 = nI t → J G "quarrelOf" RX12 cX12_quarrelOf 7 (some .int) 0 0 2 Q 0 0 2 [(0, .ref o), (1, .int (nI 1)), (2, .int x2)] [] (mW G o a s) := by
    intro f
    induction f with
    | zero => intro t h; exact absurd h (Nat.not_lt_zero _)
    | succ f ih2 =>
      intro t hf2 hle2 hO x2 e2
      subst e2
      refine J_iload_n dX12_quarrelOf_2 rfl rfl ?_
      refine J_bipush (v := nI 24) dX12_quarrelOf_3 (by decide) ?_
      refine J_icmp_geN 120 (by omega) (by omega) dX12_quarrelOf_5 (by decide) (fun kcz1 => ?_) (fun kcz1 => ?_)
      · refine J_iconst (v := -1) dX12_quarrelOf_120 (by decide) ?_
        exact J_iret dX12_quarrelOf_121 rfl rfl rfl (hq _ (by rw [hO, show 24 - t = 0 by omega]; rfl))
      · refine J_iconst (v := nI 0) dX12_quarrelOf_8 (by decide) ?_
        refine J_istore_n [(0, .ref o), (1, .int (nI 1)), (2, .int (nI t)), (3, .int (nI 0))] dX12_quarrelOf_9 rfl (by decide) rfl rfl rfl ?_
        have L10 : ∀ (f e : Nat), m - e < f → e ≤ m → quM n m (s 9) (s 17) 1 = ((qrI (fun e => quA n (s 9) (s 17) 1 e t) (m - e) e).getD ((qrO (quA n (s 9) (s 17) 1) m (23 - t) (t + 1)).getD (-1))) → ∀ (x3 : Int32), x3 = nI e → J G "quarrelOf" RX12 cX12_quarrelOf 7 (some .int) 0 0 2 Q 0 0 10 [(0, .ref o), (1, .int (nI 1)), (2, .int (nI t)), (3, .int x3)] [] (mW G o a s) := by
          intro f
          induction f with
          | zero => intro e h; exact absurd h (Nat.not_lt_zero _)
          | succ f ih10 =>
            intro e hf10 hle10 hI x3 e3
            subst e3
            refine J_iload_n dX12_quarrelOf_10 rfl rfl ?_
            refine J_aload_n dX12_quarrelOf_11 rfl rfl ?_
            refine Mg_8 dX12_quarrelOf_12 ?_
            refine J_iconst (v := nI 1) dX12_quarrelOf_15 (by decide) ?_
            refine Ml_8 (s := s) (s 8) rfl 1 rfl (by omega) dX12_quarrelOf_16 ?_
            refine J_rw (y := nI m) hm ?_
            refine J_icmp_geN 114 (by omega) (by omega) dX12_quarrelOf_17 (by decide) (fun kcz2 => ?_) (fun kcz2 => ?_)
            · refine J_iincN [(0, .ref o), (1, .int (nI 1)), (2, .int (nI (t + 1))), (3, .int (nI e))] dX12_quarrelOf_114 rfl (by decide) rfl rfl rfl ?_
              refine J_goto 2 dX12_quarrelOf_117 (by decide) ?_
              refine J_lv [0, 1, 2] rfl ?_
              exact ih2 (t + 1) (by omega) (by omega) (by rw [hI, show m - e = 0 by omega]; show (qrO _ m (23 - t) (t + 1)).getD (-1) = _; congr 2; omega) _ rfl
            · refine J_aload_n dX12_quarrelOf_20 rfl rfl ?_
              refine J_iload_n dX12_quarrelOf_21 rfl rfl ?_
              refine J_iload_n dX12_quarrelOf_22 rfl rfl ?_
              refine J_cVi (x := yX12_in) [.int (nI e), .int (nI t)] 0 mv_X12_192 (c_X12_atOnce o a s n hn hn8 e t) mW_0 rfl rfl (by decide) (Nat.le_of_ble_eq_true rfl) ⟨Nat.le_refl _, Nat.le_refl _⟩ dX12_quarrelOf_23 ?_
              refine J_istore [(0, .ref o), (1, .int (nI 1)), (2, .int (nI t)), (3, .int (nI e)), (4, .int (nI (onceM n (s 9) (s 17) e t)))] dX12_quarrelOf_26 (by decide) rfl rfl rfl ?_
              refine J_iload dX12_quarrelOf_28 rfl ?_
              refine J_cSi [.int (nI (onceM n (s 9) (s 17) e t))] ms_X12_186 (c_X12_ones (mW G o a s) (onceM n (s 9) (s 17) e t) (by first | omega | exact bm_lt256 _ (by omega))) rfl rfl (by decide) (Nat.le_of_ble_eq_true rfl) ⟨Nat.le_refl _, Nat.le_refl _⟩ dX12_quarrelOf_30 ?_
              refine J_iconst (v := nI 1) dX12_quarrelOf_33 (by decide) ?_
              refine J_icmp_leN 108 (popc_lt31 _) (by omega) dX12_quarrelOf_34 (by decide) (fun kcz3 => ?_) (fun kcz3 => ?_)
              · refine J_iincN [(0, .ref o), (1, .int (nI 1)), (2, .int (nI t)), (3, .int (nI (e + 1))), (4, .int (nI (onceM n (s 9) (s 17) e t)))] dX12_quarrelOf_108 rfl (by decide) rfl rfl rfl ?_
                refine J_goto 10 dX12_quarrelOf_111 (by decide) ?_
                refine J_lv [0, 1, 2, 3] rfl ?_
                exact ih10 (e + 1) (by omega) (by omega) (by rw [hI, qrI_no (A := fun e => quA n (s 9) (s 17) 1 e t) (by omega) (quA_no kcz3)]) _ rfl
              · have hb9 : onceM n (s 9) (s 17) e t < 256 := bm_lt256 _ hn8
                have hp9 : 1 < popc (onceM n (s 9) (s 17) e t) := Nat.not_le.mp kcz3
                have hl9 : lo1 (onceM n (s 9) (s 17) e t) < 8 ∧ lo2 (onceM n (s 9) (s 17) e t) < 8 := ⟨lo1_lt hb9 hp9, lo2_lt hb9 hp9⟩
                refine J_iconst (v := nI 0) dX12_quarrelOf_37 (by decide) ?_
                refine J_istore [(0, .ref o), (1, .int (nI 1)), (2, .int (nI t)), (3, .int (nI e)), (4, .int (nI (onceM n (s 9) (s 17) e t))), (5, .int (nI 0))] dX12_quarrelOf_38 (by decide) rfl rfl rfl ?_
                have L40 : ∀ (f j : Nat), lo1 (onceM n (s 9) (s 17) e t) - j < f → j ≤ lo1 (onceM n (s 9) (s 17) e t) → ∀ (x5 : Int32), x5 = nI j → J G "quarrelOf" RX12 cX12_quarrelOf 7 (some .int) 0 0 2 Q 0 0 40 [(0, .ref o), (1, .int (nI 1)), (2, .int (nI t)), (3, .int (nI e)), (4, .int (nI (onceM n (s 9) (s 17) e t))), (5, .int x5)] [] (mW G o a s) := by
                  intro f
                  induction f with
                  | zero => intro j h; exact absurd h (Nat.not_lt_zero _)
                  | succ f ih40 =>
                    intro j hf40 hle40 x5 e5
                    subst e5
                    refine J_iload dX12_quarrelOf_40 rfl ?_
                    refine J_iload dX12_quarrelOf_42 rfl ?_
                    refine J_cSi [.int (nI (onceM n (s 9) (s 17) e t)), .int (nI j)] ms_X12_154 (c_X12_isIn (mW G o a s) (onceM n (s 9) (s 17) e t) j (by omega) (by omega)) rfl rfl (by decide) (Nat.le_of_ble_eq_true rfl) ⟨Nat.le_refl _, Nat.le_refl _⟩ dX12_quarrelOf_44 ?_
                    refine J_if_neB 56 dX12_quarrelOf_47 (by decide) (fun kcz4 => ?_) (fun kcz4 => ?_)
                    · obtain rfl : j = lo1 (onceM n (s 9) (s 17) e t) := lo1_hit hle40 kcz4
                      refine J_iload dX12_quarrelOf_56 rfl ?_
                      refine J_iconst (v := nI 1) dX12_quarrelOf_58 (by decide) ?_
                      refine J_iaddN dX12_quarrelOf_59 ?_
                      refine J_istore [(0, .ref o), (1, .int (nI 1)), (2, .int (nI t)), (3, .int (nI e)), (4, .int (nI (onceM n (s 9) (s 17) e t))), (5, .int (nI (lo1 (onceM n (s 9) (s 17) e t)))), (6, .int (nI (lo1 (onceM n (s 9) (s 17) e t) + 1)))] dX12_quarrelOf_60 (by decide) rfl rfl rfl ?_
                      have L62 : ∀ (f j2 : Nat), lo2 (onceM n (s 9) (s 17) e t) - j2 < f → j2 ≤ lo2 (onceM n (s 9) (s 17) e t) → lo1 (onceM n (s 9) (s 17) e t) < j2 → ∀ (x6 : Int32), x6 = nI j2 → J G "quarrelOf" RX12 cX12_quarrelOf 7 (some .int) 0 0 2 Q 0 0 62 [(0, .ref o), (1, .int (nI 1)), (2, .int (nI t)), (3, .int (nI e)), (4, .int (nI (onceM n (s 9) (s 17) e t))), (5, .int (nI (lo1 (onceM n (s 9) (s 17) e t)))), (6, .int x6)] [] (mW G o a s) := by
                        intro f
                        induction f with
                        | zero => intro j2 h; exact absurd h (Nat.not_lt_zero _)
                        | succ f ih62 =>
                          intro j2 hf62 hle62 hgt62 x6 e6
                          subst e6
                          refine J_iload dX12_quarrelOf_62 rfl ?_
                          refine J_iload dX12_quarrelOf_64 rfl ?_
                          refine J_cSi [.int (nI (onceM n (s 9) (s 17) e t)), .int (nI j2)] ms_X12_154 (c_X12_isIn (mW G o a s) (onceM n (s 9) (s 17) e t) j2 (by omega) (by omega)) rfl rfl (by decide) (Nat.le_of_ble_eq_true rfl) ⟨Nat.le_refl _, Nat.le_refl _⟩ dX12_quarrelOf_66 ?_
                          refine J_if_neB 78 dX12_quarrelOf_69 (by decide) (fun kcz5 => ?_) (fun kcz5 => ?_)
                          · obtain rfl : j2 = lo2 (onceM n (s 9) (s 17) e t) := lo2_hit hle62 hgt62 kcz5
                            refine J_iload_n dX12_quarrelOf_78 rfl rfl ?_
                            refine J_if_ne 86 dX12_quarrelOf_79 (by decide) (fun _ => ?_) (fun c => absurd c (by decide))
                            refine J_iload_n dX12_quarrelOf_86 rfl rfl ?_
                            refine J_iconst (v := nI 1) dX12_quarrelOf_87 (by decide) ?_
                            refine J_icmp_ne 95 dX12_quarrelOf_88 (by decide) (fun c => absurd c (by decide)) (fun _ => ?_)
                            refine J_iload_n dX12_quarrelOf_91 rfl rfl ?_
                            refine J_goto 107 dX12_quarrelOf_92 (by decide) ?_
                            exact J_iret dX12_quarrelOf_107 rfl rfl rfl (hq _ (by rw [hI, qrI_yes (A := fun e => quA n (s 9) (s 17) 1 e t) (by omega) (quA_yes hp9)]; rfl))
                          · refine J_iincN [(0, .ref o), (1, .int (nI 1)), (2, .int (nI t)), (3, .int (nI e)), (4, .int (nI (onceM n (s 9) (s 17) e t))), (5, .int (nI (lo1 (onceM n (s 9) (s 17) e t)))), (6, .int (nI (j2 + 1)))] dX12_quarrelOf_72 rfl (by decide) rfl rfl rfl ?_
                            refine J_goto 62 dX12_quarrelOf_75 (by decide) ?_
                            exact ih62 (j2 + 1) (by have := lo2_step hle62 hgt62 kcz5 hl9.2; omega) (lo2_step hle62 hgt62 kcz5 hl9.2) (by omega) _ rfl
                      exact L62 (lo2 (onceM n (s 9) (s 17) e t) + 1) (lo1 (onceM n (s 9) (s 17) e t) + 1) (by omega) (lo2_gt hb9 hp9) (by omega) _ rfl
                    · refine J_iincN [(0, .ref o), (1, .int (nI 1)), (2, .int (nI t)), (3, .int (nI e)), (4, .int (nI (onceM n (s 9) (s 17) e t))), (5, .int (nI (j + 1)))] dX12_quarrelOf_50 rfl (by decide) rfl rfl rfl ?_
                      refine J_goto 40 dX12_quarrelOf_53 (by decide) ?_
                      exact ih40 (j + 1) (by have := lo1_step hle40 kcz4 hl9.1; omega) (lo1_step hle40 kcz4 hl9.1) _ rfl
                exact L40 (lo1 (onceM n (s 9) (s 17) e t) + 1) 0 (by omega) (by omega) _ rfl
        exact L10 (m + 1) 0 (by omega) (by omega) (by rw [hO, qrO_s (by omega)]; rfl) _ rfl
  exact L2 25 0 (by omega) (by omega) rfl _ rfl
theorem c_X12_quarrelOf1 {G : GT} (o : Nat) (a : Nat → Nat) (s : Nat → Nat → Int32) (n : Nat) (hn : s 8 0 = nI n) (hn8 : n ≤ 8) (m : Nat) (hm : s 8 1 = nI m) (hm6 : m ≤ 6) : Ct G yX12_quarrelOf cX12_quarrelOf 7 (some .int) 0 0 2 [.ref o, .int (nI 1)] (mW G o a s) (Is (some (.int (quM n m (s 9) (s 17) 1))) (mW G o a s)) := Ct.of rfl (Nat.le_of_ble_eq_true rfl) (j_X12_quarrelOf1 o a s n hn hn8 m hm hm6 (fun _ e => by subst e; exact Is.rf _ _))
set_option maxRecDepth 100000 in
set_option maxHeartbeats 1000000 in
theorem j_X12_quarrelOf2 {G : GT} (o : Nat) (a : Nat → Nat) (s : Nat → Nat → Int32) (n : Nat) (hn : s 8 0 = nI n) (hn8 : n ≤ 8) (m : Nat) (hm : s 8 1 = nI m) (hm6 : m ≤ 6) {Q : Option Value → va_W → Prop} (hq : ∀ v_ : Int32, v_ = quM n m (s 9) (s 17) 2 → Q (some (.int v_)) (mW G o a s)) : J G "quarrelOf" RX12 cX12_quarrelOf 7 (some .int) 0 0 2 Q 0 0 0 [(0, .ref o), (1, .int (nI 2))] [] (mW G o a s) := by
  refine J_iconst (v := nI 0) dX12_quarrelOf_0 (by decide) ?_
  refine J_istore_n [(0, .ref o), (1, .int (nI 2)), (2, .int (nI 0))] dX12_quarrelOf_1 rfl (by decide) rfl rfl rfl ?_
  have L2 : ∀ (f t : Nat), 24 - t < f → t ≤ 24 → quM n m (s 9) (s 17) 2 = (qrO (quA n (s 9) (s 17) 2) m (24 - t) t).getD (-1) → ∀ (x2 : Int32), x2 = nI t → J G "quarrelOf" RX12 cX12_quarrelOf 7 (some .int) 0 0 2 Q 0 0 2 [(0, .ref o), (1, .int (nI 2)), (2, .int x2)] [] (mW G o a s) := by
    intro f
    induction f with
    | zero => intro t h; exact absurd h (Nat.not_lt_zero _)
    | succ f ih2 =>
      intro t hf2 hle2 hO x2 e2
      subst e2
      refine J_iload_n dX12_quarrelOf_2 rfl rfl ?_
      refine J_bipush (v := nI 24) dX12_quarrelOf_3 (by decide) ?_
      refine J_icmp_geN 120 (by omega) (by omega) dX12_quarrelOf_5 (by decide) (fun kcz1 => ?_) (fun kcz1 => ?_)
      · refine J_iconst (v := -1) dX12_quarrelOf_120 (by decide) ?_
        exact J_iret dX12_quarrelOf_121 rfl rfl rfl (hq _ (by rw [hO, show 24 - t = 0 by omega]; rfl))
      · refine J_iconst (v := nI 0) dX12_quarrelOf_8 (by decide) ?_
        refine J_istore_n [(0, .ref o), (1, .int (nI 2)), (2, .int (nI t)), (3, .int (nI 0))] dX12_quarrelOf_9 rfl (by decide) rfl rfl rfl ?_
        have L10 : ∀ (f e : Nat), m - e < f → e ≤ m → quM n m (s 9) (s 17) 2 = ((qrI (fun e => quA n (s 9) (s 17) 2 e t) (m - e) e).getD ((qrO (quA n (s 9) (s 17) 2) m (23 - t) (t + 1)).getD (-1))) → ∀ (x3 : Int32), x3 = nI e → J G "quarrelOf" RX12 cX12_quarrelOf 7 (some .int) 0 0 2 Q 0 0 10 [(0, .ref o), (1, .int (nI 2)), (2, .int (nI t)), (3, .int x3)] [] (mW G o a s) := by
          intro f
          induction f with
          | zero => intro e h; exact absurd h (Nat.not_lt_zero _)
          | succ f ih10 =>
            intro e hf10 hle10 hI x3 e3
            subst e3
            refine J_iload_n dX12_quarrelOf_10 rfl rfl ?_
            refine J_aload_n dX12_quarrelOf_11 rfl rfl ?_
            refine Mg_8 dX12_quarrelOf_12 ?_
            refine J_iconst (v := nI 1) dX12_quarrelOf_15 (by decide) ?_
            refine Ml_8 (s := s) (s 8) rfl 1 rfl (by omega) dX12_quarrelOf_16 ?_
            refine J_rw (y := nI m) hm ?_
            refine J_icmp_geN 114 (by omega) (by omega) dX12_quarrelOf_17 (by decide) (fun kcz2 => ?_) (fun kcz2 => ?_)
            · refine J_iincN [(0, .ref o), (1, .int (nI 2)), (2, .int (nI (t + 1))), (3, .int (nI e))] dX12_quarrelOf_114 rfl (by decide) rfl rfl rfl ?_
              refine J_goto 2 dX12_quarrelOf_117 (by decide) ?_
              refine J_lv [0, 1, 2] rfl ?_
              exact ih2 (t + 1) (by omega) (by omega) (by rw [hI, show m - e = 0 by omega]; show (qrO _ m (23 - t) (t + 1)).getD (-1) = _; congr 2; omega) _ rfl
            · refine J_aload_n dX12_quarrelOf_20 rfl rfl ?_
              refine J_iload_n dX12_quarrelOf_21 rfl rfl ?_
              refine J_iload_n dX12_quarrelOf_22 rfl rfl ?_
              refine J_cVi (x := yX12_in) [.int (nI e), .int (nI t)] 0 mv_X12_192 (c_X12_atOnce o a s n hn hn8 e t) mW_0 rfl rfl (by decide) (Nat.le_of_ble_eq_true rfl) ⟨Nat.le_refl _, Nat.le_refl _⟩ dX12_quarrelOf_23 ?_
              refine J_istore [(0, .ref o), (1, .int (nI 2)), (2, .int (nI t)), (3, .int (nI e)), (4, .int (nI (onceM n (s 9) (s 17) e t)))] dX12_quarrelOf_26 (by decide) rfl rfl rfl ?_
              refine J_iload dX12_quarrelOf_28 rfl ?_
              refine J_cSi [.int (nI (onceM n (s 9) (s 17) e t))] ms_X12_186 (c_X12_ones (mW G o a s) (onceM n (s 9) (s 17) e t) (by first | omega | exact bm_lt256 _ (by omega))) rfl rfl (by decide) (Nat.le_of_ble_eq_true rfl) ⟨Nat.le_refl _, Nat.le_refl _⟩ dX12_quarrelOf_30 ?_
              refine J_iconst (v := nI 1) dX12_quarrelOf_33 (by decide) ?_
              refine J_icmp_leN 108 (popc_lt31 _) (by omega) dX12_quarrelOf_34 (by decide) (fun kcz3 => ?_) (fun kcz3 => ?_)
              · refine J_iincN [(0, .ref o), (1, .int (nI 2)), (2, .int (nI t)), (3, .int (nI (e + 1))), (4, .int (nI (onceM n (s 9) (s 17) e t)))] dX12_quarrelOf_108 rfl (by decide) rfl rfl rfl ?_
                refine J_goto 10 dX12_quarrelOf_111 (by decide) ?_
                refine J_lv [0, 1, 2, 3] rfl ?_
                exact ih10 (e + 1) (by omega) (by omega) (by rw [hI, qrI_no (A := fun e => quA n (s 9) (s 17) 2 e t) (by omega) (quA_no kcz3)]) _ rfl
              · have hb9 : onceM n (s 9) (s 17) e t < 256 := bm_lt256 _ hn8
                have hp9 : 1 < popc (onceM n (s 9) (s 17) e t) := Nat.not_le.mp kcz3
                have hl9 : lo1 (onceM n (s 9) (s 17) e t) < 8 ∧ lo2 (onceM n (s 9) (s 17) e t) < 8 := ⟨lo1_lt hb9 hp9, lo2_lt hb9 hp9⟩
                refine J_iconst (v := nI 0) dX12_quarrelOf_37 (by decide) ?_
                refine J_istore [(0, .ref o), (1, .int (nI 2)), (2, .int (nI t)), (3, .int (nI e)), (4, .int (nI (onceM n (s 9) (s 17) e t))), (5, .int (nI 0))] dX12_quarrelOf_38 (by decide) rfl rfl rfl ?_
                have L40 : ∀ (f j : Nat), lo1 (onceM n (s 9) (s 17) e t) - j < f → j ≤ lo1 (onceM n (s 9) (s 17) e t) → ∀ (x5 : Int32), x5 = nI j → J G "quarrelOf" RX12 cX12_quarrelOf 7 (some .int) 0 0 2 Q 0 0 40 [(0, .ref o), (1, .int (nI 2)), (2, .int (nI t)), (3, .int (nI e)), (4, .int (nI (onceM n (s 9) (s 17) e t))), (5, .int x5)] [] (mW G o a s) := by
                  intro f
                  induction f with
                  | zero => intro j h; exact absurd h (Nat.not_lt_zero _)
                  | succ f ih40 =>
                    intro j hf40 hle40 x5 e5
                    subst e5
                    refine J_iload dX12_quarrelOf_40 rfl ?_
                    refine J_iload dX12_quarrelOf_42 rfl ?_
                    refine J_cSi [.int (nI (onceM n (s 9) (s 17) e t)), .int (nI j)] ms_X12_154 (c_X12_isIn (mW G o a s) (onceM n (s 9) (s 17) e t) j (by omega) (by omega)) rfl rfl (by decide) (Nat.le_of_ble_eq_true rfl) ⟨Nat.le_refl _, Nat.le_refl _⟩ dX12_quarrelOf_44 ?_
                    refine J_if_neB 56 dX12_quarrelOf_47 (by decide) (fun kcz4 => ?_) (fun kcz4 => ?_)
                    · obtain rfl : j = lo1 (onceM n (s 9) (s 17) e t) := lo1_hit hle40 kcz4
                      refine J_iload dX12_quarrelOf_56 rfl ?_
                      refine J_iconst (v := nI 1) dX12_quarrelOf_58 (by decide) ?_
                      refine J_iaddN dX12_quarrelOf_59 ?_
                      refine J_istore [(0, .ref o), (1, .int (nI 2)), (2, .int (nI t)), (3, .int (nI e)), (4, .int (nI (onceM n (s 9) (s 17) e t))), (5, .int (nI (lo1 (onceM n (s 9) (s 17) e t)))), (6, .int (nI (lo1 (onceM n (s 9) (s 17) e t) + 1)))] dX12_quarrelOf_60 (by decide) rfl rfl rfl ?_
                      have L62 : ∀ (f j2 : Nat), lo2 (onceM n (s 9) (s 17) e t) - j2 < f → j2 ≤ lo2 (onceM n (s 9) (s 17) e t) → lo1 (onceM n (s 9) (s 17) e t) < j2 → ∀ (x6 : Int32), x6 = nI j2 → J G "quarrelOf" RX12 cX12_quarrelOf 7 (some .int) 0 0 2 Q 0 0 62 [(0, .ref o), (1, .int (nI 2)), (2, .int (nI t)), (3, .int (nI e)), (4, .int (nI (onceM n (s 9) (s 17) e t))), (5, .int (nI (lo1 (onceM n (s 9) (s 17) e t)))), (6, .int x6)] [] (mW G o a s) := by
                        intro f
                        induction f with
                        | zero => intro j2 h; exact absurd h (Nat.not_lt_zero _)
                        | succ f ih62 =>
                          intro j2 hf62 hle62 hgt62 x6 e6
                          subst e6
                          refine J_iload dX12_quarrelOf_62 rfl ?_
                          refine J_iload dX12_quarrelOf_64 rfl ?_
                          refine J_cSi [.int (nI (onceM n (s 9) (s 17) e t)), .int (nI j2)] ms_X12_154 (c_X12_isIn (mW G o a s) (onceM n (s 9) (s 17) e t) j2 (by omega) (by omega)) rfl rfl (by decide) (Nat.le_of_ble_eq_true rfl) ⟨Nat.le_refl _, Nat.le_refl _⟩ dX12_quarrelOf_66 ?_
                          refine J_if_neB 78 dX12_quarrelOf_69 (by decide) (fun kcz5 => ?_) (fun kcz5 => ?_)
                          · obtain rfl : j2 = lo2 (onceM n (s 9) (s 17) e t) := lo2_hit hle62 hgt62 kcz5
                            refine J_iload_n dX12_quarrelOf_78 rfl rfl ?_
                            refine J_if_ne 86 dX12_quarrelOf_79 (by decide) (fun _ => ?_) (fun c => absurd c (by decide))
                            refine J_iload_n dX12_quarrelOf_86 rfl rfl ?_
                            refine J_iconst (v := nI 1) dX12_quarrelOf_87 (by decide) ?_
                            refine J_icmp_ne 95 dX12_quarrelOf_88 (by decide) (fun _ => ?_) (fun c => absurd c (by decide))
                            refine J_iload_n dX12_quarrelOf_95 rfl rfl ?_
                            refine J_iconst (v := nI 2) dX12_quarrelOf_96 (by decide) ?_
                            refine J_icmp_ne 105 dX12_quarrelOf_97 (by decide) (fun c => absurd c (by decide)) (fun _ => ?_)
                            refine J_iload dX12_quarrelOf_100 rfl ?_
                            refine J_goto 107 dX12_quarrelOf_102 (by decide) ?_
                            exact J_iret dX12_quarrelOf_107 rfl rfl rfl (hq _ (by rw [hI, qrI_yes (A := fun e => quA n (s 9) (s 17) 2 e t) (by omega) (quA_yes hp9)]; rfl))
                          · refine J_iincN [(0, .ref o), (1, .int (nI 2)), (2, .int (nI t)), (3, .int (nI e)), (4, .int (nI (onceM n (s 9) (s 17) e t))), (5, .int (nI (lo1 (onceM n (s 9) (s 17) e t)))), (6, .int (nI (j2 + 1)))] dX12_quarrelOf_72 rfl (by decide) rfl rfl rfl ?_
                            refine J_goto 62 dX12_quarrelOf_75 (by decide) ?_
                            exact ih62 (j2 + 1) (by have := lo2_step hle62 hgt62 kcz5 hl9.2; omega) (lo2_step hle62 hgt62 kcz5 hl9.2) (by omega) _ rfl
                      exact L62 (lo2 (onceM n (s 9) (s 17) e t) + 1) (lo1 (onceM n (s 9) (s 17) e t) + 1) (by omega) (lo2_gt hb9 hp9) (by omega) _ rfl
                    · refine J_iincN [(0, .ref o), (1, .int (nI 2)), (2, .int (nI t)), (3, .int (nI e)), (4, .int (nI (onceM n (s 9) (s 17) e t))), (5, .int (nI (j + 1)))] dX12_quarrelOf_50 rfl (by decide) rfl rfl rfl ?_
                      refine J_goto 40 dX12_quarrelOf_53 (by decide) ?_
                      exact ih40 (j + 1) (by have := lo1_step hle40 kcz4 hl9.1; omega) (lo1_step hle40 kcz4 hl9.1) _ rfl
                exact L40 (lo1 (onceM n (s 9) (s 17) e t) + 1) 0 (by omega) (by omega) _ rfl
        exact L10 (m + 1) 0 (by omega) (by omega) (by rw [hO, qrO_s (by omega)]; rfl) _ rfl
  exact L2 25 0 (by omega) (by omega) rfl _ rfl
theorem c_X12_quarrelOf2 {G : GT} (o : Nat) (a : Nat → Nat) (s : Nat → Nat → Int32) (n : Nat) (hn : s 8 0 = nI n) (hn8 : n ≤ 8) (m : Nat) (hm : s 8 1 = nI m) (hm6 : m ≤ 6) : Ct G yX12_quarrelOf cX12_quarrelOf 7 (some .int) 0 0 2 [.ref o, .int (nI 2)] (mW G o a s) (Is (some (.int (quM n m (s 9) (s 17) 2))) (mW G o a s)) := Ct.of rfl (Nat.le_of_ble_eq_true rfl) (j_X12_quarrelOf2 o a s n hn hn8 m hm hm6 (fun _ e => by subst e; exact Is.rf _ _))
set_option maxRecDepth 100000 in
set_option maxHeartbeats 1000000 in
theorem j_X12_quarrelOf3 {G : GT} (o : Nat) (a : Nat → Nat) (s : Nat → Nat → Int32) (n : Nat) (hn : s 8 0 = nI n) (hn8 : n ≤ 8) (m : Nat) (hm : s 8 1 = nI m) (hm6 : m ≤ 6) {Q : Option Value → va_W → Prop} (hq : ∀ v_ : Int32, v_ = quM n m (s 9) (s 17) 3 → Q (some (.int v_)) (mW G o a s)) : J G "quarrelOf" RX12 cX12_quarrelOf 7 (some .int) 0 0 2 Q 0 0 0 [(0, .ref o), (1, .int (nI 3))] [] (mW G o a s) := by
  refine J_iconst (v := nI 0) dX12_quarrelOf_0 (by decide) ?_
  refine J_istore_n [(0, .ref o), (1, .int (nI 3)), (2, .int (nI 0))] dX12_quarrelOf_1 rfl (by decide) rfl rfl rfl ?_
  have L2 : ∀ (f t : Nat), 24 - t < f → t ≤ 24 → quM n m (s 9) (s 17) 3 = (qrO (quA n (s 9) (s 17) 3) m (24 - t) t).getD (-1) → ∀ (x2 : Int32), x2 = nI t → J G "quarrelOf" RX12 cX12_quarrelOf 7 (some .int) 0 0 2 Q 0 0 2 [(0, .ref o), (1, .int (nI 3)), (2, .int x2)] [] (mW G o a s) := by
    intro f
    induction f with
    | zero => intro t h; exact absurd h (Nat.not_lt_zero _)
    | succ f ih2 =>
      intro t hf2 hle2 hO x2 e2
      subst e2
      refine J_iload_n dX12_quarrelOf_2 rfl rfl ?_
      refine J_bipush (v := nI 24) dX12_quarrelOf_3 (by decide) ?_
      refine J_icmp_geN 120 (by omega) (by omega) dX12_quarrelOf_5 (by decide) (fun kcz1 => ?_) (fun kcz1 => ?_)
      · refine J_iconst (v := -1) dX12_quarrelOf_120 (by decide) ?_
        exact J_iret dX12_quarrelOf_121 rfl rfl rfl (hq _ (by rw [hO, show 24 - t = 0 by omega]; rfl))
      · refine J_iconst (v := nI 0) dX12_quarrelOf_8 (by decide) ?_
        refine J_istore_n [(0, .ref o), (1, .int (nI 3)), (2, .int (nI t)), (3, .int (nI 0))] dX12_quarrelOf_9 rfl (by decide) rfl rfl rfl ?_
        have L10 : ∀ (f e : Nat), m - e < f → e ≤ m → quM n m (s 9) (s 17) 3 = ((qrI (fun e => quA n (s 9) (s 17) 3 e t) (m - e) e).getD ((qrO (quA n (s 9) (s 17) 3) m (23 - t) (t + 1)).getD (-1))) → ∀ (x3 : Int32), x3 = nI e → J G "quarrelOf" RX12 cX12_quarrelOf 7 (some .int) 0 0 2 Q 0 0 10 [(0, .ref o), (1, .int (nI 3)), (2, .int (nI t)), (3, .int x3)] [] (mW G o a s) := by
          intro f
          induction f with
          | zero => intro e h; exact absurd h (Nat.not_lt_zero _)
          | succ f ih10 =>
            intro e hf10 hle10 hI x3 e3
            subst e3
            refine J_iload_n dX12_quarrelOf_10 rfl rfl ?_
            refine J_aload_n dX12_quarrelOf_11 rfl rfl ?_
            refine Mg_8 dX12_quarrelOf_12 ?_
            refine J_iconst (v := nI 1) dX12_quarrelOf_15 (by decide) ?_
            refine Ml_8 (s := s) (s 8) rfl 1 rfl (by omega) dX12_quarrelOf_16 ?_
            refine J_rw (y := nI m) hm ?_
            refine J_icmp_geN 114 (by omega) (by omega) dX12_quarrelOf_17 (by decide) (fun kcz2 => ?_) (fun kcz2 => ?_)
            · refine J_iincN [(0, .ref o), (1, .int (nI 3)), (2, .int (nI (t + 1))), (3, .int (nI e))] dX12_quarrelOf_114 rfl (by decide) rfl rfl rfl ?_
              refine J_goto 2 dX12_quarrelOf_117 (by decide) ?_
              refine J_lv [0, 1, 2] rfl ?_
              exact ih2 (t + 1) (by omega) (by omega) (by rw [hI, show m - e = 0 by omega]; show (qrO _ m (23 - t) (t + 1)).getD (-1) = _; congr 2; omega) _ rfl
            · refine J_aload_n dX12_quarrelOf_20 rfl rfl ?_
              refine J_iload_n dX12_quarrelOf_21 rfl rfl ?_
              refine J_iload_n dX12_quarrelOf_22 rfl rfl ?_
              refine J_cVi (x := yX12_in) [.int (nI e), .int (nI t)] 0 mv_X12_192 (c_X12_atOnce o a s n hn hn8 e t) mW_0 rfl rfl (by decide) (Nat.le_of_ble_eq_true rfl) ⟨Nat.le_refl _, Nat.le_refl _⟩ dX12_quarrelOf_23 ?_
              refine J_istore [(0, .ref o), (1, .int (nI 3)), (2, .int (nI t)), (3, .int (nI e)), (4, .int (nI (onceM n (s 9) (s 17) e t)))] dX12_quarrelOf_26 (by decide) rfl rfl rfl ?_
              refine J_iload dX12_quarrelOf_28 rfl ?_
              refine J_cSi [.int (nI (onceM n (s 9) (s 17) e t))] ms_X12_186 (c_X12_ones (mW G o a s) (onceM n (s 9) (s 17) e t) (by first | omega | exact bm_lt256 _ (by omega))) rfl rfl (by decide) (Nat.le_of_ble_eq_true rfl) ⟨Nat.le_refl _, Nat.le_refl _⟩ dX12_quarrelOf_30 ?_
              refine J_iconst (v := nI 1) dX12_quarrelOf_33 (by decide) ?_
              refine J_icmp_leN 108 (popc_lt31 _) (by omega) dX12_quarrelOf_34 (by decide) (fun kcz3 => ?_) (fun kcz3 => ?_)
              · refine J_iincN [(0, .ref o), (1, .int (nI 3)), (2, .int (nI t)), (3, .int (nI (e + 1))), (4, .int (nI (onceM n (s 9) (s 17) e t)))] dX12_quarrelOf_108 rfl (by decide) rfl rfl rfl ?_
                refine J_goto 10 dX12_quarrelOf_111 (by decide) ?_
                refine J_lv [0, 1, 2, 3] rfl ?_
                exact ih10 (e + 1) (by omega) (by omega) (by rw [hI, qrI_no (A := fun e => quA n (s 9) (s 17) 3 e t) (by omega) (quA_no kcz3)]) _ rfl
              · have hb9 : onceM n (s 9) (s 17) e t < 256 := bm_lt256 _ hn8
                have hp9 : 1 < popc (onceM n (s 9) (s 17) e t) := Nat.not_le.mp kcz3
                have hl9 : lo1 (onceM n (s 9) (s 17) e t) < 8 ∧ lo2 (onceM n (s 9) (s 17) e t) < 8 := ⟨lo1_lt hb9 hp9, lo2_lt hb9 hp9⟩
                refine J_iconst (v := nI 0) dX12_quarrelOf_37 (by decide) ?_
                refine J_istore [(0, .ref o), (1, .int (nI 3)), (2, .int (nI t)), (3, .int (nI e)), (4, .int (nI (onceM n (s 9) (s 17) e t))), (5, .int (nI 0))] dX12_quarrelOf_38 (by decide) rfl rfl rfl ?_
                have L40 : ∀ (f j : Nat), lo1 (onceM n (s 9) (s 17) e t) - j < f → j ≤ lo1 (onceM n (s 9) (s 17) e t) → ∀ (x5 : Int32), x5 = nI j → J G "quarrelOf" RX12 cX12_quarrelOf 7 (some .int) 0 0 2 Q 0 0 40 [(0, .ref o), (1, .int (nI 3)), (2, .int (nI t)), (3, .int (nI e)), (4, .int (nI (onceM n (s 9) (s 17) e t))), (5, .int x5)] [] (mW G o a s) := by
                  intro f
                  induction f with
                  | zero => intro j h; exact absurd h (Nat.not_lt_zero _)
                  | succ f ih40 =>
                    intro j hf40 hle40 x5 e5
                    subst e5
                    refine J_iload dX12_quarrelOf_40 rfl ?_
                    refine J_iload dX12_quarrelOf_42 rfl ?_
                    refine J_cSi [.int (nI (onceM n (s 9) (s 17) e t)), .int (nI j)] ms_X12_154 (c_X12_isIn (mW G o a s) (onceM n (s 9) (s 17) e t) j (by omega) (by omega)) rfl rfl (by decide) (Nat.le_of_ble_eq_true rfl) ⟨Nat.le_refl _, Nat.le_refl _⟩ dX12_quarrelOf_44 ?_
                    refine J_if_neB 56 dX12_quarrelOf_47 (by decide) (fun kcz4 => ?_) (fun kcz4 => ?_)
                    · obtain rfl : j = lo1 (onceM n (s 9) (s 17) e t) := lo1_hit hle40 kcz4
                      refine J_iload dX12_quarrelOf_56 rfl ?_
                      refine J_iconst (v := nI 1) dX12_quarrelOf_58 (by decide) ?_
                      refine J_iaddN dX12_quarrelOf_59 ?_
                      refine J_istore [(0, .ref o), (1, .int (nI 3)), (2, .int (nI t)), (3, .int (nI e)), (4, .int (nI (onceM n (s 9) (s 17) e t))), (5, .int (nI (lo1 (onceM n (s 9) (s 17) e t)))), (6, .int (nI (lo1 (onceM n (s 9) (s 17) e t) + 1)))] dX12_quarrelOf_60 (by decide) rfl rfl rfl ?_
                      have L62 : ∀ (f j2 : Nat), lo2 (onceM n (s 9) (s 17) e t) - j2 < f → j2 ≤ lo2 (onceM n (s 9) (s 17) e t) → lo1 (onceM n (s 9) (s 17) e t) < j2 → ∀ (x6 : Int32), x6 = nI j2 → J G "quarrelOf" RX12 cX12_quarrelOf 7 (some .int) 0 0 2 Q 0 0 62 [(0, .ref o), (1, .int (nI 3)), (2, .int (nI t)), (3, .int (nI e)), (4, .int (nI (onceM n (s 9) (s 17) e t))), (5, .int (nI (lo1 (onceM n (s 9) (s 17) e t)))), (6, .int x6)] [] (mW G o a s) := by
                        intro f
                        induction f with
                        | zero => intro j2 h; exact absurd h (Nat.not_lt_zero _)
                        | succ f ih62 =>
                          intro j2 hf62 hle62 hgt62 x6 e6
                          subst e6
                          refine J_iload dX12_quarrelOf_62 rfl ?_
                          refine J_iload dX12_quarrelOf_64 rfl ?_
                          refine J_cSi [.int (nI (onceM n (s 9) (s 17) e t)), .int (nI j2)] ms_X12_154 (c_X12_isIn (mW G o a s) (onceM n (s 9) (s 17) e t) j2 (by omega) (by omega)) rfl rfl (by decide) (Nat.le_of_ble_eq_true rfl) ⟨Nat.le_refl _, Nat.le_refl _⟩ dX12_quarrelOf_66 ?_
                          refine J_if_neB 78 dX12_quarrelOf_69 (by decide) (fun kcz5 => ?_) (fun kcz5 => ?_)
                          · obtain rfl : j2 = lo2 (onceM n (s 9) (s 17) e t) := lo2_hit hle62 hgt62 kcz5
                            refine J_iload_n dX12_quarrelOf_78 rfl rfl ?_
                            refine J_if_ne 86 dX12_quarrelOf_79 (by decide) (fun _ => ?_) (fun c => absurd c (by decide))
                            refine J_iload_n dX12_quarrelOf_86 rfl rfl ?_
                            refine J_iconst (v := nI 1) dX12_quarrelOf_87 (by decide) ?_
                            refine J_icmp_ne 95 dX12_quarrelOf_88 (by decide) (fun _ => ?_) (fun c => absurd c (by decide))
                            refine J_iload_n dX12_quarrelOf_95 rfl rfl ?_
                            refine J_iconst (v := nI 2) dX12_quarrelOf_96 (by decide) ?_
                            refine J_icmp_ne 105 dX12_quarrelOf_97 (by decide) (fun _ => ?_) (fun c => absurd c (by decide))
                            refine J_iload dX12_quarrelOf_105 rfl ?_
                            exact J_iret dX12_quarrelOf_107 rfl rfl rfl (hq _ (by rw [hI, qrI_yes (A := fun e => quA n (s 9) (s 17) 3 e t) (by omega) (quA_yes hp9)]; rfl))
                          · refine J_iincN [(0, .ref o), (1, .int (nI 3)), (2, .int (nI t)), (3, .int (nI e)), (4, .int (nI (onceM n (s 9) (s 17) e t))), (5, .int (nI (lo1 (onceM n (s 9) (s 17) e t)))), (6, .int (nI (j2 + 1)))] dX12_quarrelOf_72 rfl (by decide) rfl rfl rfl ?_
                            refine J_goto 62 dX12_quarrelOf_75 (by decide) ?_
                            exact ih62 (j2 + 1) (by have := lo2_step hle62 hgt62 kcz5 hl9.2; omega) (lo2_step hle62 hgt62 kcz5 hl9.2) (by omega) _ rfl
                      exact L62 (lo2 (onceM n (s 9) (s 17) e t) + 1) (lo1 (onceM n (s 9) (s 17) e t) + 1) (by omega) (lo2_gt hb9 hp9) (by omega) _ rfl
                    · refine J_iincN [(0, .ref o), (1, .int (nI 3)), (2, .int (nI t)), (3, .int (nI e)), (4, .int (nI (onceM n (s 9) (s 17) e t))), (5, .int (nI (j + 1)))] dX12_quarrelOf_50 rfl (by decide) rfl rfl rfl ?_
                      refine J_goto 40 dX12_quarrelOf_53 (by decide) ?_
                      exact ih40 (j + 1) (by have := lo1_step hle40 kcz4 hl9.1; omega) (lo1_step hle40 kcz4 hl9.1) _ rfl
                exact L40 (lo1 (onceM n (s 9) (s 17) e t) + 1) 0 (by omega) (by omega) _ rfl
        exact L10 (m + 1) 0 (by omega) (by omega) (by rw [hO, qrO_s (by omega)]; rfl) _ rfl
  exact L2 25 0 (by omega) (by omega) rfl _ rfl
theorem c_X12_quarrelOf3 {G : GT} (o : Nat) (a : Nat → Nat) (s : Nat → Nat → Int32) (n : Nat) (hn : s 8 0 = nI n) (hn8 : n ≤ 8) (m : Nat) (hm : s 8 1 = nI m) (hm6 : m ≤ 6) : Ct G yX12_quarrelOf cX12_quarrelOf 7 (some .int) 0 0 2 [.ref o, .int (nI 3)] (mW G o a s) (Is (some (.int (quM n m (s 9) (s 17) 3))) (mW G o a s)) := Ct.of rfl (Nat.le_of_ble_eq_true rfl) (j_X12_quarrelOf3 o a s n hn hn8 m hm hm6 (fun _ e => by subst e; exact Is.rf _ _))
