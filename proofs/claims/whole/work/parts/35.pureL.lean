/-! what an heir may have and does, of habits given as bits: the class's words, and that they are the reference's -/
def lnB (Hb : Nat → Int32) (bits h : Nat) : Bool := !decide (Hb (5 * h + 3) = -1) && !bits.testBit (Hb (5 * h + 3)).toNatClampNeg
def cnB (n : Nat) (Hb : Nat → Int32) (hb : Nat → Nat) (a bits : Nat) : Nat := bm (fun h => bits.testBit h && (lnB Hb bits h || !decide (hb h &&& a = 0))) n
def tkB (hb : Nat → Nat) (bits : Nat) : Nat → Nat
  | 0 => 0
  | h + 1 => if bits.testBit h = true then tkB hb bits h ||| hb h else tkB hb bits h
def brB (n : Nat) (hb : Nat → Nat) (bits : Nat) : Bool := anyB (fun h => bits.testBit h && !decide (tkB hb bits h &&& hb h = 0)) n
def lvB (n : Nat) (Hb : Nat → Int32) (hb : Nat → Nat) (He : Nat → Int32) (aw : Nat → Nat) (q bits : Nat) : Bool := !decide (He (3 * q) < nI (popc bits)) && (decide (cnB n Hb hb (aw q) bits = 0) && !brB n hb bits)
def wB (n : Nat) (Hb : Nat → Int32) (bits : Nat) : Int32 := smI (fun h => if bits.testBit h = true then Hb (5 * h + 2) else nI 0) n
def vB (n : Nat) (Hb : Nat → Int32) (bits : Nat) : Nat := bm (fun h => bits.testBit h && decide (Hb (5 * h + 4) = nI 1)) n
def atB (n : Nat) (hb : Nat → Nat) (bits t : Nat) : Nat := bm (fun h => bits.testBit h && (hb h).testBit t) n
def chF (Hb : Nat → Int32) (hb : Nat → Nat) (may t : Nat) : Nat → Int32 × Int32
  | 0 => (-1, -1)
  | h + 1 => if (may.testBit h && (hb h).testBit t) = true ∧ ¬ Hb (5 * h + 2) ≤ (chF Hb hb may t h).2 then (nI h, Hb (5 * h + 2)) else chF Hb hb may t h
def mnB (b c : Nat) : Nat := b &&& (c ^^^ 4294967295)
theorem mnB_eq (b c : Nat) : nI b &&& (nI c ^^^ (-1)) = nI (mnB b c) := by
  rw [show (-1 : Int32) = nI 4294967295 from rfl, fb_xorI, fa_and]; rfl
theorem mnB_test (b c h : Nat) (hh : h < 32) : (mnB b c).testBit h = (b.testBit h && !c.testBit h) := by
  unfold mnB
  rw [Nat.testBit_and, Nat.testBit_xor, show (4294967295 : Nat) = 2 ^ 32 - 1 from rfl, Nat.testBit_two_pow_sub_one, decide_eq_true hh, Bool.xor_true]
theorem mnB_le (b c : Nat) : mnB b c ≤ b := Nat.and_le_left
section PL
variable {n m : Nat} {Hb He : Nat → Int32} {hb aw : Nat → Nat} {wi : Nat → Int32} {q : Nat}
/-- the hours as bits are the hours -/
def HbOk (n : Nat) (Hb : Nat → Int32) (hb : Nat → Nat) : Prop := ∀ h, h < n → hb h < 2 ^ 24 ∧ (∀ t, t < 24 → (hb h).testBit t = atH Hb h t) ∧ (Hb (5 * h + 3) = -1 ∨ ∃ k, k < 8 ∧ Hb (5 * h + 3) = nI k) ∧ (∃ w, w < 10 ∧ Hb (5 * h + 2) = nI w) ∧ (Hb (5 * h + 4) = nI 0 ∨ Hb (5 * h + 4) = nI 1)
def AwOk (m : Nat) (He : Nat → Int32) (aw : Nat → Nat) : Prop := ∀ q, q < m → aw q < 2 ^ 24 ∧ (∀ t, t < 24 → (aw q).testBit t = awE He q t) ∧ ∃ j, 1 ≤ j ∧ j ≤ 8 ∧ He (3 * q) = nI j
theorem and_any {a b : Nat} (ha : a < 2 ^ 24) : (!decide (a &&& b = 0)) = anyB (fun t => a.testBit t && b.testBit t) 24 := by
  cases hv : anyB (fun t => a.testBit t && b.testBit t) 24 with
  | true =>
    obtain ⟨t, ht, h⟩ := anyB_iff.mp hv
    rw [Bool.not_eq_true', decide_eq_false_iff_not]
    intro e
    have : (a &&& b).testBit t = true := by rw [Nat.testBit_and]; exact h
    rw [e, Nat.zero_testBit] at this
    cases this
  | false =>
    rw [Bool.not_eq_false', decide_eq_true_eq]
    apply Nat.eq_of_testBit_eq
    intro t
    rw [Nat.zero_testBit, Nat.testBit_and]
    by_cases ht : t < 24
    · cases hx : (a.testBit t && b.testBit t) with
      | false => rfl
      | true =>
        have : anyB (fun t => a.testBit t && b.testBit t) 24 = true := anyB_iff.mpr ⟨t, ht, hx⟩
        rw [hv] at this; cases this
    · have h1 : a.testBit t = false := Nat.testBit_lt_two_pow (Nat.lt_of_lt_of_le ha (Nat.pow_le_pow_right (by decide) (by omega)))
      rw [h1]; rfl
theorem has_test (h : Nat) (hh : h < n) : (hasM n wi q).testBit h = decide (wi h = nI q) := by
  unfold hasM; rw [bm_test, decide_eq_true hh, Bool.true_and]
theorem lean_eq (hk : HbOk n Hb hb) (hn8 : n ≤ 8) {h : Nat} (hh : h < n) : lnB Hb (hasM n wi q) h = leanM n Hb wi q h := by
  unfold lnB leanM
  rcases (hk h hh).2.2.1 with e | ⟨k, hk8, e⟩
  · rw [e]; rfl
  · rw [e, nI_clamp (by omega), rng_nI (by omega) (by omega)]
    unfold hasM
    rw [bm_test]
    cases decide (k < n) <;> cases decide (wi k = nI q) <;> rfl
theorem can_eq (hk : HbOk n Hb hb) (ha : AwOk m He aw) (hn8 : n ≤ 8) (hq : q < m) {h : Nat} (hh : h < n) : (lnB Hb (hasM n wi q) h || !decide (hb h &&& aw q = 0)) = canM n Hb He wi q h := by
  unfold canM
  rw [lean_eq hk hn8 hh, and_any (hk h hh).1, anyB_cg (fun t ht => by rw [(hk h hh).2.1 t ht, (ha q hq).2.1 t ht])]
theorem cn_eq (hk : HbOk n Hb hb) (ha : AwOk m He aw) (hn8 : n ≤ 8) (hq : q < m) : cnB n Hb hb (aw q) (hasM n wi q) = canNowM n Hb He wi q := bm_congr (fun h hh => by rw [has_test h hh, can_eq hk ha hn8 hq hh])
theorem at_eq (hk : HbOk n Hb hb) {t : Nat} (ht : t < 24) : atB n hb (hasM n wi q) t = onceM n Hb wi q t := bm_congr (fun h hh => by rw [has_test h hh, (hk h hh).2.1 t ht])
theorem w_eq : wB n Hb (hasM n wi q) = wrM n Hb wi q := smI_congr (fun h hh => by
  rw [has_test h hh]
  by_cases e : wi h = nI q
  · rw [decide_eq_true e, if_pos rfl, if_pos e]
  · rw [decide_eq_false e, if_neg (by decide), if_neg e])
theorem ct2 {p : Nat → Bool} {n : Nat} : 2 ≤ fb_ct p n ↔ ∃ i j, i < j ∧ j < n ∧ p i = true ∧ p j = true := by
  constructor
  · intro h
    obtain ⟨i, hi, pi, ci⟩ := fb_ct_kth (p := p) (k := 0) (n := n) (by omega)
    obtain ⟨j, hj, pj, cj⟩ := fb_ct_kth (p := p) (k := 1) (n := n) (by omega)
    refine ⟨i, j, ?_, hj, pi, pj⟩
    rcases Nat.lt_trichotomy i j with h1 | h1 | h1
    · exact h1
    · rw [h1, cj] at ci; cases ci
    · have := fb_ct_mono p (Nat.le_of_lt h1)
      omega
  · rintro ⟨i, j, hij, hj, pi, pj⟩
    have h1 : fb_ct p (i + 1) = fb_ct p i + 1 := by rw [fb_ct_succ, pi]; rfl
    have h2 : fb_ct p (j + 1) = fb_ct p j + 1 := by rw [fb_ct_succ, pj]; rfl
    have h3 := fb_ct_mono p (show i + 1 ≤ j by omega)
    have h4 := fb_ct_mono p (show j + 1 ≤ n by omega)
    omega
theorem tk_test (hb : Nat → Nat) (bits t : Nat) : ∀ h, (tkB hb bits h).testBit t = anyB (fun k => bits.testBit k && (hb k).testBit t) h
  | 0 => Nat.zero_testBit t
  | h + 1 => by
    rw [tkB, anyB]
    cases hx : bits.testBit h with
    | true => rw [if_pos rfl, Nat.testBit_or, tk_test hb bits t h, Bool.true_and]
    | false => rw [if_neg (by decide), tk_test hb bits t h, Bool.false_and, Bool.or_false]
theorem tk_lt (hk : HbOk n Hb hb) (bits : Nat) : ∀ h, h ≤ n → tkB hb bits h < 2 ^ 24
  | 0, _ => by rw [tkB]; decide
  | h + 1, hh => by
    rw [tkB]
    split
    · exact Nat.or_lt_two_pow (tk_lt hk bits h (by omega)) (hk h (by omega)).1
    · exact tk_lt hk bits h (by omega)
theorem popc_bm2 {P : Nat → Bool} (hn8 : n ≤ 8) : 2 ≤ popc (bm P n) ↔ ∃ i j, i < j ∧ j < n ∧ P i = true ∧ P j = true := by
  unfold popc
  rw [ct2]
  constructor
  · rintro ⟨i, j, hij, hj, pi, pj⟩
    rw [bm_test] at pi pj
    simp only [Bool.and_eq_true, decide_eq_true_eq] at pi pj
    exact ⟨i, j, hij, pj.1, pi.2, pj.2⟩
  · rintro ⟨i, j, hij, hj, pi, pj⟩
    refine ⟨i, j, hij, by omega, ?_, ?_⟩
    · rw [bm_test, decide_eq_true (show i < n by omega), pi]; rfl
    · rw [bm_test, decide_eq_true hj, pj]; rfl
theorem br_eq (hk : HbOk n Hb hb) (hn8 : n ≤ 8) : (!brB n hb (hasM n wi q)) = allB (fun t => !decide (2 ≤ popc (onceM n Hb wi q t))) 24 := by
  have key : brB n hb (hasM n wi q) = anyB (fun t => decide (2 ≤ popc (onceM n Hb wi q t))) 24 := by
    apply Bool.eq_iff_iff.mpr
    unfold brB
    rw [anyB_iff, anyB_iff]
    constructor
    · rintro ⟨j, hj, h⟩
      simp only [Bool.and_eq_true] at h
      rw [and_any (tk_lt hk _ j (by omega))] at h
      obtain ⟨t, ht, h2⟩ := anyB_iff.mp h.2
      simp only [Bool.and_eq_true] at h2
      rw [tk_test] at h2
      obtain ⟨i, hi, h3⟩ := anyB_iff.mp h2.1
      refine ⟨t, ht, decide_eq_true ?_⟩
      refine (popc_bm2 hn8).mpr ⟨i, j, hi, hj, ?_, ?_⟩
      · simp only [Bool.and_eq_true] at h3
        rw [← has_test (n := n) i (by omega), h3.1, ← (hk i (by omega)).2.1 t ht, h3.2]; rfl
      · rw [← has_test j hj, h.1, ← (hk j hj).2.1 t ht, h2.2]; rfl
    · rintro ⟨t, ht, h⟩
      obtain ⟨i, j, hij, hj, pi, pj⟩ := (popc_bm2 hn8).mp (of_decide_eq_true h)
      simp only [Bool.and_eq_true] at pi pj
      refine ⟨j, hj, ?_⟩
      rw [has_test j hj, pj.1, Bool.true_and, and_any (tk_lt hk _ j (by omega))]
      refine anyB_iff.mpr ⟨t, ht, ?_⟩
      rw [tk_test, (hk j hj).2.1 t ht, pj.2, Bool.and_true]
      refine anyB_iff.mpr ⟨i, hij, ?_⟩
      rw [has_test i (by omega), pi.1, (hk i (by omega)).2.1 t ht, pi.2]; rfl
  rw [key]
  unfold allB
  rw [anyB_cg (fun t _ => (Bool.not_not _).symm)]
theorem lv_eq (hk : HbOk n Hb hb) (ha : AwOk m He aw) (hn8 : n ≤ 8) (hq : q < m) : lvB n Hb hb He aw q (hasM n wi q) = livM n Hb He wi q := by
  unfold lvB livM
  rw [cn_eq hk ha hn8 hq, br_eq hk hn8, Bool.and_assoc]
theorem ch_eq (hk : HbOk n Hb hb) (ha : AwOk m He aw) (hn8 : n ≤ 8) (hq : q < m) {t : Nat} (ht : t < 24) : ∀ h, h ≤ n → (chF Hb hb (mnB (hasM n wi q) (cnB n Hb hb (aw q) (hasM n wi q))) t h).1 = doF n Hb He wi q t h ∧ ((doF n Hb He wi q t h = -1 ∧ (chF Hb hb (mnB (hasM n wi q) (cnB n Hb hb (aw q) (hasM n wi q))) t h).2 = -1) ∨ ∃ j, j < h ∧ doF n Hb He wi q t h = nI j ∧ (chF Hb hb (mnB (hasM n wi q) (cnB n Hb hb (aw q) (hasM n wi q))) t h).2 = Hb (5 * j + 2))
  | 0, _ => ⟨rfl, Or.inl ⟨rfl, rfl⟩⟩
  | h + 1, hh => by
    have ih := ch_eq hk ha hn8 hq ht h (by omega)
    have hx : ((mnB (hasM n wi q) (cnB n Hb hb (aw q) (hasM n wi q))).testBit h && (hb h).testBit t) = ((onceM n Hb wi q t).testBit h && !canM n Hb He wi q h) := by
      rw [mnB_test _ _ _ (by omega), has_test h (by omega), (hk h (by omega)).2.1 t ht]
      unfold cnB onceM
      rw [bm_test, bm_test, decide_eq_true (show h < n by omega), can_eq hk ha hn8 hq (by omega), has_test h (by omega)]
      cases decide (wi h = nI q) <;> cases canM n Hb He wi q h <;> cases atH Hb h t <;> rfl
    obtain ⟨w, hw, ew⟩ := (hk h (by omega)).2.2.2.1
    have hg : (decide (doF n Hb He wi q t h = -1) || !decide (Hb (5 * h + 2) ≤ Hb (5 * (doF n Hb He wi q t h).toNatClampNeg + 2))) = true ↔ ¬ Hb (5 * h + 2) ≤ (chF Hb hb (mnB (hasM n wi q) (cnB n Hb hb (aw q) (hasM n wi q))) t h).2 := by
      rcases ih.2 with ⟨e1, e2⟩ | ⟨j, hj, e1, e2⟩
      · rw [e1, e2, ew]
        constructor
        · intro _ h3
          rw [fa_le, nI_toInt (by omega)] at h3
          have e3 : (-1 : Int32).toInt = -1 := rfl
          omega
        · intro _; rfl
      · rw [e1, e2, nI_clamp (by omega), decide_eq_false (fun e => m1_ne (by omega) e.symm), Bool.false_or, Bool.not_eq_true', decide_eq_false_iff_not]
    rw [chF, doF, hx]
    by_cases hc : ((onceM n Hb wi q t).testBit h && !canM n Hb He wi q h) = true
    · by_cases h4 : (decide (doF n Hb He wi q t h = -1) || !decide (Hb (5 * h + 2) ≤ Hb (5 * (doF n Hb He wi q t h).toNatClampNeg + 2))) = true
      · rw [if_pos ⟨hc, hg.mp h4⟩, hc, h4]
        exact ⟨rfl, Or.inr ⟨h, by omega, rfl, rfl⟩⟩
      · rw [if_neg (fun q => h4 (hg.mpr q.2)), hc, if_neg (by rw [Bool.true_and]; exact h4)]
        rcases ih.2 with e | ⟨j, hj, e⟩
        · exact ⟨ih.1, Or.inl e⟩
        · exact ⟨ih.1, Or.inr ⟨j, by omega, e⟩⟩
    · rw [if_neg (fun q => hc q.1), if_neg (fun q => hc (Bool.and_eq_true_iff.mp q).1)]
      rcases ih.2 with e | ⟨j, hj, e⟩
      · exact ⟨ih.1, Or.inl e⟩
      · exact ⟨ih.1, Or.inr ⟨j, by omega, e⟩⟩
theorem do_eq (hk : HbOk n Hb hb) (ha : AwOk m He aw) (hn8 : n ≤ 8) (hq : q < m) {t : Nat} (ht : t < 24) : (chF Hb hb (mnB (hasM n wi q) (cnB n Hb hb (aw q) (hasM n wi q))) t n).1 = doM n Hb He wi q t := (ch_eq hk ha hn8 hq ht n (Nat.le_refl _)).1
theorem vice_eq (hk : HbOk n Hb hb) (hn8 : n ≤ 8) : smI (fun h => if wi h = nI q then Hb (5 * h + 4) else nI 0) n = nI (popc (vB n Hb (hasM n wi q))) := by
  have key : ∀ k, k ≤ n → smI (fun h => if wi h = nI q then Hb (5 * h + 4) else nI 0) k = nI (fb_ct (fun i => (vB n Hb (hasM n wi q)).testBit i) k) := by
    intro k
    induction k with
    | zero => intro _; rfl
    | succ k ih =>
      intro hk2
      rw [smI, ih (by omega), fb_ct_succ]
      have ht : (vB n Hb (hasM n wi q)).testBit k = (decide (wi k = nI q) && decide (Hb (5 * k + 4) = nI 1)) := by
        unfold vB; rw [bm_test, decide_eq_true (show k < n by omega), has_test k (by omega), Bool.true_and]
      rw [ht]
      by_cases e : wi k = nI q
      · rw [if_pos e, decide_eq_true e, Bool.true_and]
        rcases (hk k (by omega)).2.2.2.2 with e2 | e2
        · rw [e2, show decide (nI 0 = nI 1) = false from rfl, nI_add]; rfl
        · rw [e2, show decide (nI 1 = nI 1) = true from rfl, nI_add]; rfl
      · rw [if_neg e, decide_eq_false e, nI_add]; rfl
  rw [key n (Nat.le_refl _)]
  congr 1
  unfold popc
  obtain ⟨d, hd⟩ : ∃ d, 8 = n + d := ⟨8 - n, by omega⟩
  rw [hd, fb_ct_split]
  have : fb_ct (fun k => (vB n Hb (hasM n wi q)).testBit (n + k)) d = 0 := fb_ct_zero.mpr (fun k _ => by unfold vB; rw [bm_test, decide_eq_false (by omega), Bool.false_and])
  omega
end PL
