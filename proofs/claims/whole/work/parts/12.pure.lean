/-! plain facts that both sides use -/
theorem lgc_lt {x y : Int64} : lg_cmp x y < 0 ↔ x < y := by
  unfold lg_cmp
  by_cases h : x > y
  · rw [if_pos h]
    exact ⟨fun q => absurd q (by decide), fun q => by have := Int64.lt_iff_toInt_lt.mp h; have := Int64.lt_iff_toInt_lt.mp q; omega⟩
  · rw [if_neg h]
    by_cases h2 : x = y
    · rw [if_pos h2]
      exact ⟨fun q => absurd q (by decide), fun q => by subst h2; have := Int64.lt_iff_toInt_lt.mp q; omega⟩
    · rw [if_neg h2]
      refine ⟨fun _ => ?_, fun _ => by decide⟩
      have h3 : ¬ y.toInt < x.toInt := fun q => h (Int64.lt_iff_toInt_lt.mpr q)
      have h4 : x.toInt ≠ y.toInt := fun q => h2 (Int64.toInt_inj.mp q)
      exact Int64.lt_iff_toInt_lt.mpr (by omega)
theorem lgc_gt {x y : Int64} : 0 < lg_cmp x y ↔ y < x := by
  unfold lg_cmp
  by_cases h : x > y
  · rw [if_pos h]; exact ⟨fun _ => h, fun _ => by decide⟩
  · rw [if_neg h]
    by_cases h2 : x = y
    · rw [if_pos h2]; exact ⟨fun q => absurd q (by decide), fun q => absurd q h⟩
    · rw [if_neg h2]; exact ⟨fun q => absurd q (by decide), fun q => absurd q h⟩
theorem lgc_eq {x y : Int64} : lg_cmp x y = 0 ↔ x = y := by
  unfold lg_cmp
  by_cases h : x > y
  · rw [if_pos h]
    refine ⟨fun q => absurd q (by decide), fun q => ?_⟩
    subst q
    have := Int64.lt_iff_toInt_lt.mp h
    omega
  · rw [if_neg h]
    by_cases h2 : x = y
    · rw [if_pos h2]; exact ⟨fun _ => h2, fun _ => rfl⟩
    · rw [if_neg h2]; exact ⟨fun q => absurd q (by decide), fun q => absurd q h2⟩
def inL (v lo hi : Int64) : Bool := !decide (v < lo) && !decide (hi < v)
def rngI (v b : Int32) : Bool := !decide (v < 0) && !decide (b ≤ v)
def rng (v : Int32) (n : Nat) : Bool := rngI v (nI n)
theorem rng_iff {v : Int32} {n : Nat} (hn : n < 2 ^ 31) : rng v n = true ↔ ∃ j : Nat, j < n ∧ v = nI j := by
  unfold rng rngI
  simp only [Bool.and_eq_true, Bool.not_eq_true', decide_eq_false_iff_not]
  constructor
  · rintro ⟨h1, h2⟩
    rcases pk_ix v hn with h | h | h
    · exact absurd h h1
    · exact absurd h h2
    · exact h
  · rintro ⟨j, hj, rfl⟩
    exact ⟨nI_pos (by omega), nI_ge hj hn⟩
theorem rng_nI {j n : Nat} (hj : j < 2 ^ 31) (hn : n < 2 ^ 31) : rng (nI j) n = decide (j < n) := by
  unfold rng rngI
  rw [decide_eq_false (nI_pos hj)]
  by_cases h : j < n
  · rw [decide_eq_false (nI_ge h hn), decide_eq_true h]; rfl
  · rw [decide_eq_true (nI_le (by omega) hj), decide_eq_false h]; rfl
theorem rng_cases (v : Int32) {n : Nat} (hn : n < 2 ^ 31) : rng v n = false ∨ ∃ j : Nat, j < n ∧ v = nI j := by
  cases h : rng v n with
  | false => exact Or.inl rfl
  | true => exact Or.inr ((rng_iff hn).mp h)
theorem i64_lt (a b : Int32) : a.toInt64 < b.toInt64 ↔ a < b := fa_wide_lt a b
theorem nI_m1 {n : Nat} (hn : n < 2 ^ 31) : (nI n - 1).toInt = (n : Int) - 1 := by
  rw [fb_subI] <;> rw [nI_toInt hn] <;> (have : (1 : Int32).toInt = 1 := rfl) <;> omega
theorem inL_rng (v : Int32) {n : Nat} (hn : n < 2 ^ 31) {hi : Int64} (hh : hi = (nI n - 1).toInt64) : inL v.toInt64 0 hi = rng v n := by
  subst hh
  unfold inL rng rngI
  have h1 : decide (v.toInt64 < 0) = decide (v < 0) := by
    have : (v.toInt64 < 0) ↔ (v < 0) := fa_wide_lt v 0
    simp [this]
  have h2 : decide ((nI n - 1).toInt64 < v.toInt64) = decide (nI n ≤ v) := by
    have : ((nI n - 1).toInt64 < v.toInt64) ↔ (nI n ≤ v) := by
      rw [fa_wide_lt, fa_lt, fa_le, nI_m1 hn, nI_toInt hn]
      omega
    simp [this]
  rw [h1, h2]
/-- a bit, as both sides ask for it -/
def tb (x k : Int32) : Bool := decide ((x >>> (k &&& 31)) &&& nI 1 = nI 1)
theorem sm_l : ∀ n, n < 32 → ((nI n &&& 31).toBitVec.smod 32).toNat = n := by decide +kernel
theorem tb_nI {b j : Nat} (hb : b < 2 ^ 31) (hj : j < 31) : tb (nI b) (nI j) = b.testBit j := by
  unfold tb
  rw [pk_shrN hb _ j (sm_l j (by omega)), fa_and, Nat.testBit, Nat.shiftRight_eq_div_pow]
  have h1 : b / 2 ^ j &&& 1 = b / 2 ^ j % 2 := Nat.and_one_is_mod _
  have h3 : (b / 2 ^ j) % 2 < 2 := Nat.mod_lt _ (by decide)
  rw [h1]
  have h4 : decide (nI (b / 2 ^ j % 2) = nI 1) = decide (b / 2 ^ j % 2 = 1) := decide_eq_decide.mpr (nI_eq (by omega) (by decide))
  rw [h4]
  rcases (show b / 2 ^ j % 2 = 0 ∨ b / 2 ^ j % 2 = 1 by omega) with h | h <;> simp [h, Nat.and_comm, h1]
theorem shl1 {h : Nat} (hh : h < 31) : nI 1 <<< (nI h &&& 31) = nI (2 ^ h) := by
  have := pk_shlN (n := 1) (nI h &&& 31) h (sm_l h (by omega)) (by
    have : 2 ^ h ≤ 2 ^ 30 := Nat.pow_le_pow_right (by decide) (by omega)
    omega)
  rw [this, Nat.one_mul]
/-- the bits of a set given by a test -/
def bm (P : Nat → Bool) : Nat → Nat
  | 0 => 0
  | n + 1 => bm P n ||| (if P n = true then 2 ^ n else 0)
theorem bm_test (P : Nat → Bool) (n k : Nat) : (bm P n).testBit k = (decide (k < n) && P k) := by
  induction n with
  | zero => simp [bm]
  | succ n ih =>
    rw [bm, Nat.testBit_or, ih]
    by_cases hP : P n = true
    · rw [if_pos hP, Nat.testBit_two_pow]
      by_cases hk : k = n
      · subst hk; simp [hP]
      · have h2 : decide (n = k) = false := decide_eq_false (fun q => hk q.symm)
        rw [h2, Bool.or_false]
        congr 1
        exact decide_eq_decide.mpr (by omega)
    · rw [if_neg hP, Nat.zero_testBit, Bool.or_false]
      by_cases hk : k = n
      · subst hk; simp [hP]
      · congr 1
        exact decide_eq_decide.mpr (by omega)
theorem bm_lt (P : Nat → Bool) (n : Nat) : bm P n < 2 ^ n := by
  induction n with
  | zero => simp [bm]
  | succ n ih =>
    rw [bm]
    refine Nat.or_lt_two_pow (Nat.lt_trans ih (Nat.pow_lt_pow_right (by decide) (by omega))) ?_
    split
    · exact Nat.pow_lt_pow_right (by decide) (by omega)
    · exact Nat.two_pow_pos _
theorem bm_congr {P R : Nat → Bool} : ∀ {n : Nat}, (∀ k, k < n → P k = R k) → bm P n = bm R n
  | 0, _ => rfl
  | n + 1, h => by rw [bm, bm, bm_congr (fun k hk => h k (by omega)), h n (by omega)]
/-- how many of the lowest eight bits there are -/
def popc (n : Nat) : Nat := fb_ct (fun i => n.testBit i) 8
theorem popc_step : ∀ r, r < 256 → r ≠ 0 → popc (r &&& (r - 1)) + 1 = popc r ∧ r &&& (r - 1) < r := by decide +kernel
theorem popc_zero : popc 0 = 0 := by decide +kernel
theorem bm_lt256 (P : Nat → Bool) {n : Nat} (h : n ≤ 8) : bm P n < 256 := Nat.lt_of_lt_of_le (bm_lt P n) (Nat.pow_le_pow_right (by decide) h)
/-- some below n -/
def anyB (P : Nat → Bool) : Nat → Bool
  | 0 => false
  | n + 1 => anyB P n || P n
theorem anyB_iff {P : Nat → Bool} {n : Nat} : anyB P n = true ↔ ∃ k, k < n ∧ P k = true := by
  induction n with
  | zero => simp [anyB]
  | succ n ih =>
    rw [anyB, Bool.or_eq_true, ih]
    constructor
    · rintro (⟨k, h1, h2⟩ | h)
      · exact ⟨k, by omega, h2⟩
      · exact ⟨n, by omega, h⟩
    · rintro ⟨k, h1, h2⟩
      rcases Nat.lt_or_ge k n with h | h
      · exact Or.inl ⟨k, h, h2⟩
      · have : k = n := by omega
        subst this; exact Or.inr h2
theorem anyB_mono {P : Nat → Bool} {i n : Nat} (h : anyB P i = true) (hi : i ≤ n) : anyB P n = true := by
  obtain ⟨k, h1, h2⟩ := anyB_iff.mp h
  exact anyB_iff.mpr ⟨k, by omega, h2⟩
def allB (P : Nat → Bool) (n : Nat) : Bool := !anyB (fun k => !P k) n
theorem allB_iff {P : Nat → Bool} {n : Nat} : allB P n = true ↔ ∀ k, k < n → P k = true := by
  unfold allB
  rw [Bool.not_eq_true']
  constructor
  · intro h k hk
    cases hp : P k with
    | true => rfl
    | false => rw [anyB_iff.mpr ⟨k, hk, by simp [hp]⟩] at h; cases h
  · intro h
    cases ha : anyB (fun k => !P k) n with
    | false => rfl
    | true =>
      obtain ⟨k, h1, h2⟩ := anyB_iff.mp ha
      simp [h k h1] at h2
/-- a sum of ints below n -/
def smI (f : Nat → Int32) : Nat → Int32
  | 0 => nI 0
  | n + 1 => smI f n + f n
theorem smI_congr {f g : Nat → Int32} : ∀ {n : Nat}, (∀ k, k < n → f k = g k) → smI f n = smI g n
  | 0, _ => rfl
  | n + 1, h => by rw [smI, smI, smI_congr (fun k hk => h k (by omega)), h n (by omega)]
