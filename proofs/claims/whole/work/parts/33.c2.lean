def hbs (x y : Int32) : Nat := boh x.toNatClampNeg y.toNatClampNeg
def awb (x y : Int32) : Nat := boh x.toNatClampNeg ((y.toNatClampNeg + 24 - x.toNatClampNeg) % 24)
theorem hbs_nI {f k : Nat} (hf : f < 24) (hk : k < 2 ^ 31) : hbs (nI f) (nI k) = boh f k := by unfold hbs; rw [nI_clamp (by omega), nI_clamp hk]
theorem awb_nI {f k : Nat} (hf : f < 2 ^ 31) (hk : k < 2 ^ 31) : awb (nI f) (nI k) = boh f ((k + 24 - f) % 24) := by unfold awb; rw [nI_clamp hf, nI_clamp hk]
theorem aw_rem : ∀ f, f < 24 → ∀ u, u < 24 → (nI u - nI f + nI 24) - (nI u - nI f + nI 24) / nI 24 * nI 24 = nI ((u + 24 - f) % 24) := by decide +kernel
theorem rng_of {j n : Nat} (h : j < n) (hn : n < 2 ^ 31) : rng (nI j) n = true := (rng_iff hn).mpr ⟨j, h, rfl⟩
theorem in_nat {b : Int32} {lo hi : Nat} (hh : hi < 2 ^ 31) (hl : lo < 2 ^ 31) (h1 : inI b (nI lo) (nI hi) = true) : ∃ j, lo + j ≤ hi ∧ b = nI (lo + j) := by
  unfold inI at h1
  simp only [Bool.and_eq_true, Bool.not_eq_true', decide_eq_false_iff_not] at h1
  have h3 : b.toInt ≤ hi := by
    have := h1.2
    rw [fa_lt, nI_toInt hh] at this
    omega
  have h2 : (lo : Int) ≤ b.toInt := by
    have := h1.1
    rw [fa_lt, nI_toInt hl] at this
    omega
  refine ⟨(b.toInt - lo).toNat, by omega, ?_⟩
  rw [fa_eq, nI_toInt (by omega)]
  omega
theorem m9_ne {q : Nat} (h : q < 2 ^ 31) : ¬ nI q = (-9 : Int32) := fun e => by
  have := congrArg Int32.toInt e
  rw [nI_toInt h] at this
  have e2 : (-9 : Int32).toInt = -9 := rfl
  omega
theorem wn_y {b lo hi : Int32} (h : inI b lo hi = true) : wn b lo hi = b - lo := if_pos h
theorem wn_n {b lo hi : Int32} (h : inI b lo hi = false) : wn b lo hi = -1 := if_neg (by rw [h]; decide)
theorem orW_y {b : Int32} {lo hi : Nat} (hh : hi < 2 ^ 31) (hl : lo < 2 ^ 31) (h : inI b (nI lo) (nI hi) = true) : orW (wn b (nI lo) (nI hi)) = b - nI lo ∧ ¬ orW (wn b (nI lo) (nI hi)) = -9 := by
  obtain ⟨j, hj, e⟩ := in_nat hh hl h
  rw [wn_y h, e, pk_sub (by omega), Nat.add_sub_cancel_left]
  unfold orW
  rw [if_neg (fun q => m1_ne (by omega) q.symm)]
  exact ⟨rfl, m9_ne (by omega)⟩
theorem orW_n {b lo hi : Int32} (h : inI b lo hi = false) : orW (wn b lo hi) = -9 := by rw [wn_n h]; rfl
theorem fig_y {b : Int32} {lo hi : Nat} (hh : hi < 2 ^ 31) (hl : lo < 2 ^ 31) (h48 : 48 ≤ lo) (h : inI b (nI lo) (nI hi) = true) : (if wn b (nI lo) (nI hi) = -1 then -9 else b - nI 48) = b - nI 48 ∧ ¬ (if wn b (nI lo) (nI hi) = -1 then -9 else b - nI 48) = -9 := by
  obtain ⟨j, hj, e⟩ := in_nat hh hl h
  have h1 : ¬ wn b (nI lo) (nI hi) = -1 := by
    rw [wn_y h, e, pk_sub (by omega)]; exact fun q => m1_ne (by omega) q.symm
  rw [if_neg h1, e, pk_sub (by omega)]
  exact ⟨rfl, m9_ne (by omega)⟩
theorem fig_n {b lo hi c : Int32} (h : inI b lo hi = false) : (if wn b lo hi = -1 then -9 else c) = -9 := by rw [wn_n h]; rfl
theorem gH0 {b : Int32} (h : inI b (nI 97) (nI 120) = true) : tlH 0 b = b - nI 97 ∧ ¬ tlH 0 b = -9 := orW_y (by decide) (by decide) h
theorem bH0 {b : Int32} (h : inI b (nI 97) (nI 120) = false) : tlH 0 b = -9 := orW_n h
theorem gH0n {b : Int32} (h : inI b (nI 97) (nI 120) = true) : ∃ j, j < 24 ∧ tlH 0 b = nI j := by
  obtain ⟨j, hj, e⟩ := in_nat (by decide) (by decide) h
  refine ⟨97 + j - 97, by omega, ?_⟩
  rw [(gH0 h).1, e, pk_sub (by omega)]
theorem gH1 {b : Int32} (h : inI b (nI 49) (nI 57) = true) : tlH 1 b = b - nI 48 ∧ ¬ tlH 1 b = -9 := fig_y (by decide) (by decide) (by decide) h
theorem bH1 {b : Int32} (h : inI b (nI 49) (nI 57) = false) : tlH 1 b = -9 := fig_n h
theorem gH1n {b : Int32} (h : inI b (nI 49) (nI 57) = true) : ∃ j, j < 10 ∧ tlH 1 b = nI j := by
  obtain ⟨j, hj, e⟩ := in_nat (by decide) (by decide) h
  refine ⟨49 + j - 48, by omega, ?_⟩
  rw [(gH1 h).1, e, pk_sub (by omega)]
theorem gH2 {b : Int32} (h : inI b (nI 48) (nI 57) = true) : tlH 2 b = b - nI 48 ∧ ¬ tlH 2 b = -9 := orW_y (by decide) (by decide) h
theorem bH2 {b : Int32} (h : inI b (nI 48) (nI 57) = false) : tlH 2 b = -9 := orW_n h
theorem gH2n {b : Int32} (h : inI b (nI 48) (nI 57) = true) : ∃ j, j < 10 ∧ tlH 2 b = nI j := by
  obtain ⟨j, hj, e⟩ := in_nat (by decide) (by decide) h
  refine ⟨48 + j - 48, by omega, ?_⟩
  rw [(gH2 h).1, e, pk_sub (by omega)]
theorem gE0 {b : Int32} (h : inI b (nI 49) (nI 56) = true) : tlE 0 b = b - nI 48 ∧ ¬ tlE 0 b = -9 := fig_y (by decide) (by decide) (by decide) h
theorem bE0 {b : Int32} (h : inI b (nI 49) (nI 56) = false) : tlE 0 b = -9 := fig_n h
theorem gE0n {b : Int32} (h : inI b (nI 49) (nI 56) = true) : ∃ j, j < 9 ∧ tlE 0 b = nI j := by
  obtain ⟨j, hj, e⟩ := in_nat (by decide) (by decide) h
  refine ⟨49 + j - 48, by omega, ?_⟩
  rw [(gE0 h).1, e, pk_sub (by omega)]
theorem gE1 {b : Int32} (h : inI b (nI 97) (nI 120) = true) : tlE 1 b = b - nI 97 ∧ ¬ tlE 1 b = -9 := orW_y (by decide) (by decide) h
theorem bE1 {b : Int32} (h : inI b (nI 97) (nI 120) = false) : tlE 1 b = -9 := orW_n h
theorem gE1n {b : Int32} (h : inI b (nI 97) (nI 120) = true) : ∃ j, j < 24 ∧ tlE 1 b = nI j := by
  obtain ⟨j, hj, e⟩ := in_nat (by decide) (by decide) h
  refine ⟨97 + j - 97, by omega, ?_⟩
  rw [(gE1 h).1, e, pk_sub (by omega)]
theorem gE2 {b : Int32} (h : inI b (nI 97) (nI 120) = true) : tlE 2 b = b - nI 97 ∧ ¬ tlE 2 b = -9 := orW_y (by decide) (by decide) h
theorem bE2 {b : Int32} (h : inI b (nI 97) (nI 120) = false) : tlE 2 b = -9 := orW_n h
theorem gE2n {b : Int32} (h : inI b (nI 97) (nI 120) = true) : ∃ j, j < 24 ∧ tlE 2 b = nI j := by
  obtain ⟨j, hj, e⟩ := in_nat (by decide) (by decide) h
  refine ⟨97 + j - 97, by omega, ?_⟩
  rw [(gE2 h).1, e, pk_sub (by omega)]
theorem gC0 {b : Int32} (h : inI b (nI 48) (nI 55) = true) : tlC 0 b = b - nI 48 ∧ ¬ tlC 0 b = -9 := orW_y (by decide) (by decide) h
theorem bC0 {b : Int32} (h : inI b (nI 48) (nI 55) = false) : tlC 0 b = -9 := orW_n h
theorem gC0n {b : Int32} (h : inI b (nI 48) (nI 55) = true) : ∃ j, j < 8 ∧ tlC 0 b = nI j := by
  obtain ⟨j, hj, e⟩ := in_nat (by decide) (by decide) h
  refine ⟨48 + j - 48, by omega, ?_⟩
  rw [(gC0 h).1, e, pk_sub (by omega)]
theorem gC2 {b : Int32} (h : inI b (nI 48) (nI 53) = true) : tlC 2 b = b - nI 48 ∧ ¬ tlC 2 b = -9 := orW_y (by decide) (by decide) h
theorem bC2 {b : Int32} (h : inI b (nI 48) (nI 53) = false) : tlC 2 b = -9 := orW_n h
theorem gC2n {b : Int32} (h : inI b (nI 48) (nI 53) = true) : ∃ j, j < 6 ∧ tlC 2 b = nI j := by
  obtain ⟨j, hj, e⟩ := in_nat (by decide) (by decide) h
  refine ⟨48 + j - 48, by omega, ?_⟩
  rw [(gC2 h).1, e, pk_sub (by omega)]
theorem gC3 {b : Int32} (h : inI b (nI 48) (nI 55) = true) : tlC 3 b = b - nI 48 ∧ ¬ tlC 3 b = -9 := orW_y (by decide) (by decide) h
theorem bC3 {b : Int32} (h : inI b (nI 48) (nI 55) = false) : tlC 3 b = -9 := orW_n h
theorem gC3n {b : Int32} (h : inI b (nI 48) (nI 55) = true) : ∃ j, j < 8 ∧ tlC 3 b = nI j := by
  obtain ⟨j, hj, e⟩ := in_nat (by decide) (by decide) h
  refine ⟨48 + j - 48, by omega, ?_⟩
  rw [(gC3 h).1, e, pk_sub (by omega)]
theorem gH3a {b : Int32} (h : inI b (nI 48) (nI 55) = true) : tlH 3 b = b - nI 48 ∧ ¬ tlH 3 b = -9 := by
  have hb : ¬ b = nI 46 := fun e => by rw [e] at h; exact absurd h (by decide)
  show (if b = nI 46 then -1 else orW (wn b (nI 48) (nI 55))) = _ ∧ ¬ (if b = nI 46 then -1 else orW (wn b (nI 48) (nI 55))) = -9
  rw [if_neg hb]; exact orW_y (by decide) (by decide) h
theorem gH3b {b : Int32} (h : b = nI 46) : tlH 3 b = -1 ∧ ¬ tlH 3 b = -9 := by rw [h]; decide
theorem bH3 {b : Int32} (h : inI b (nI 48) (nI 55) = false) (h2 : ¬ b = nI 46) : tlH 3 b = -9 := by
  show (if b = nI 46 then -1 else orW (wn b (nI 48) (nI 55))) = -9
  rw [if_neg h2]; exact orW_n h
theorem gH4a {b : Int32} (h : b = nI 33) : tlH 4 b = nI 1 ∧ ¬ tlH 4 b = -9 := by rw [h]; decide
theorem gH4b {b : Int32} (h : b = nI 46) : tlH 4 b = nI 0 ∧ ¬ tlH 4 b = -9 := by rw [h]; decide
theorem bH4 {b : Int32} (h : ¬ b = nI 33) (h2 : ¬ b = nI 46) : tlH 4 b = -9 := by
  show (if b = nI 33 then nI 1 else if b = nI 46 then nI 0 else -9) = -9
  rw [if_neg h, if_neg h2]
theorem gC1a {b : Int32} (h : b = nI 43) : tlC 1 b = nI 1 ∧ ¬ tlC 1 b = -9 := by rw [h]; decide
theorem gC1b {b : Int32} (h : b = nI 45) : tlC 1 b = nI 0 ∧ ¬ tlC 1 b = -9 := by rw [h]; decide
theorem bC1 {b : Int32} (h : ¬ b = nI 43) (h2 : ¬ b = nI 45) : tlC 1 b = -9 := by
  show (if b = nI 43 then nI 1 else if b = nI 45 then nI 0 else -9) = -9
  rw [if_neg h, if_neg h2]
theorem rb0_0 {B : Nat → Int32} {len p : Nat}  (hb : tlH 0 (bA B 0 len p) = -9) : rW0 B len p = false ∧ rE0 B len p = p + 0 := by
  have h : fbd tlH B 0 len 5 p = 0 := fbd_at (by decide) (fun j hj => absurd hj (Nat.not_lt_zero _)) hb
  unfold rW0 rE0; rw [h]; exact ⟨by decide, rfl⟩
theorem rb0_1 {B : Nat → Int32} {len p : Nat} (g0 : ¬ tlH 0 (bA B 0 len p) = -9) (hb : tlH 1 (bA B 0 len (p + 1)) = -9) : rW0 B len p = false ∧ rE0 B len p = p + 1 := by
  have h : fbd tlH B 0 len 5 p = 1 := fbd_at (by decide) (fun j hj => by
    rcases (show j = 0 by omega) with rfl
    · exact g0) hb
  unfold rW0 rE0; rw [h]; exact ⟨by decide, rfl⟩
theorem rb0_2 {B : Nat → Int32} {len p : Nat} (g0 : ¬ tlH 0 (bA B 0 len p) = -9) (g1 : ¬ tlH 1 (bA B 0 len (p + 1)) = -9) (hb : tlH 2 (bA B 0 len (p + 2)) = -9) : rW0 B len p = false ∧ rE0 B len p = p + 2 := by
  have h : fbd tlH B 0 len 5 p = 2 := fbd_at (by decide) (fun j hj => by
    rcases (show j = 0 ∨ j = 1 by omega) with rfl | rfl
    · exact g0
    · exact g1) hb
  unfold rW0 rE0; rw [h]; exact ⟨by decide, rfl⟩
theorem rb0_3 {B : Nat → Int32} {len p : Nat} (g0 : ¬ tlH 0 (bA B 0 len p) = -9) (g1 : ¬ tlH 1 (bA B 0 len (p + 1)) = -9) (g2 : ¬ tlH 2 (bA B 0 len (p + 2)) = -9) (hb : tlH 3 (bA B 0 len (p + 3)) = -9) : rW0 B len p = false ∧ rE0 B len p = p + 3 := by
  have h : fbd tlH B 0 len 5 p = 3 := fbd_at (by decide) (fun j hj => by
    rcases (show j = 0 ∨ j = 1 ∨ j = 2 by omega) with rfl | rfl | rfl
    · exact g0
    · exact g1
    · exact g2) hb
  unfold rW0 rE0; rw [h]; exact ⟨by decide, rfl⟩
theorem rb0_4 {B : Nat → Int32} {len p : Nat} (g0 : ¬ tlH 0 (bA B 0 len p) = -9) (g1 : ¬ tlH 1 (bA B 0 len (p + 1)) = -9) (g2 : ¬ tlH 2 (bA B 0 len (p + 2)) = -9) (g3 : ¬ tlH 3 (bA B 0 len (p + 3)) = -9) (hb : tlH 4 (bA B 0 len (p + 4)) = -9) : rW0 B len p = false ∧ rE0 B len p = p + 4 := by
  have h : fbd tlH B 0 len 5 p = 4 := fbd_at (by decide) (fun j hj => by
    rcases (show j = 0 ∨ j = 1 ∨ j = 2 ∨ j = 3 by omega) with rfl | rfl | rfl | rfl
    · exact g0
    · exact g1
    · exact g2
    · exact g3) hb
  unfold rW0 rE0; rw [h]; exact ⟨by decide, rfl⟩
theorem rg0 {B : Nat → Int32} {len p : Nat} (g0 : ¬ tlH 0 (bA B 0 len p) = -9) (g1 : ¬ tlH 1 (bA B 0 len (p + 1)) = -9) (g2 : ¬ tlH 2 (bA B 0 len (p + 2)) = -9) (g3 : ¬ tlH 3 (bA B 0 len (p + 3)) = -9) (g4 : ¬ tlH 4 (bA B 0 len (p + 4)) = -9) : rW0 B len p = true ∧ rE0 B len p = p + 5 := by
  have h : fbd tlH B 0 len 5 p = 5 := fbd_all (fun j hj => by
    rcases (show j = 0 ∨ j = 1 ∨ j = 2 ∨ j = 3 ∨ j = 4 by omega) with rfl | rfl | rfl | rfl | rfl
    · exact g0
    · exact g1
    · exact g2
    · exact g3
    · exact g4)
  unfold rW0 rE0; rw [h]; exact ⟨by decide, rfl⟩
theorem rb1_0 {B : Nat → Int32} {len p : Nat}  (hb : tlE 0 (bA B 1 len p) = -9) : rW1 B len p = false ∧ rE1 B len p = p + 0 := by
  have h : fbd tlE B 1 len 3 p = 0 := fbd_at (by decide) (fun j hj => absurd hj (Nat.not_lt_zero _)) hb
  unfold rW1 rE1; rw [h]; exact ⟨by decide, rfl⟩
theorem rb1_1 {B : Nat → Int32} {len p : Nat} (g0 : ¬ tlE 0 (bA B 1 len p) = -9) (hb : tlE 1 (bA B 1 len (p + 1)) = -9) : rW1 B len p = false ∧ rE1 B len p = p + 1 := by
  have h : fbd tlE B 1 len 3 p = 1 := fbd_at (by decide) (fun j hj => by
    rcases (show j = 0 by omega) with rfl
    · exact g0) hb
  unfold rW1 rE1; rw [h]; exact ⟨by decide, rfl⟩
theorem rb1_2 {B : Nat → Int32} {len p : Nat} (g0 : ¬ tlE 0 (bA B 1 len p) = -9) (g1 : ¬ tlE 1 (bA B 1 len (p + 1)) = -9) (hb : tlE 2 (bA B 1 len (p + 2)) = -9) : rW1 B len p = false ∧ rE1 B len p = p + 2 := by
  have h : fbd tlE B 1 len 3 p = 2 := fbd_at (by decide) (fun j hj => by
    rcases (show j = 0 ∨ j = 1 by omega) with rfl | rfl
    · exact g0
    · exact g1) hb
  unfold rW1 rE1; rw [h]; exact ⟨by decide, rfl⟩
theorem rg1 {B : Nat → Int32} {len p : Nat} (g0 : ¬ tlE 0 (bA B 1 len p) = -9) (g1 : ¬ tlE 1 (bA B 1 len (p + 1)) = -9) (g2 : ¬ tlE 2 (bA B 1 len (p + 2)) = -9) : rW1 B len p = true ∧ rE1 B len p = p + 3 := by
  have h : fbd tlE B 1 len 3 p = 3 := fbd_all (fun j hj => by
    rcases (show j = 0 ∨ j = 1 ∨ j = 2 by omega) with rfl | rfl | rfl
    · exact g0
    · exact g1
    · exact g2)
  unfold rW1 rE1; rw [h]; exact ⟨by decide, rfl⟩
theorem rb2_0 {B : Nat → Int32} {len p : Nat}  (hb : tlC 0 (bA B 2 len p) = -9) : rW2 B len p = false ∧ rE2 B len p = p + 0 := by
  have h : fbd tlC B 2 len 3 p = 0 := fbd_at (by decide) (fun j hj => absurd hj (Nat.not_lt_zero _)) hb
  unfold rW2 rE2; rw [h]; exact ⟨by simp, by simp⟩
theorem rb2_1 {B : Nat → Int32} {len p : Nat} (g0 : ¬ tlC 0 (bA B 2 len p) = -9) (hb : tlC 1 (bA B 2 len (p + 1)) = -9) : rW2 B len p = false ∧ rE2 B len p = p + 1 := by
  have h : fbd tlC B 2 len 3 p = 1 := fbd_at (by decide) (fun j hj => by
    rcases (show j = 0 by omega) with rfl
    · exact g0) hb
  unfold rW2 rE2; rw [h]; exact ⟨by simp, by simp⟩
theorem rb2_2 {B : Nat → Int32} {len p : Nat} (g0 : ¬ tlC 0 (bA B 2 len p) = -9) (g1 : ¬ tlC 1 (bA B 2 len (p + 1)) = -9) (hb : tlC 2 (bA B 2 len (p + 2)) = -9) : rW2 B len p = false ∧ rE2 B len p = p + 2 := by
  have h : fbd tlC B 2 len 3 p = 2 := fbd_at (by decide) (fun j hj => by
    rcases (show j = 0 ∨ j = 1 by omega) with rfl | rfl
    · exact g0
    · exact g1) hb
  unfold rW2 rE2; rw [h]; exact ⟨by simp, by simp⟩
theorem rb2_3 {B : Nat → Int32} {len p : Nat} (g0 : ¬ tlC 0 (bA B 2 len p) = -9) (g1 : ¬ tlC 1 (bA B 2 len (p + 1)) = -9) (g2 : ¬ tlC 2 (bA B 2 len (p + 2)) = -9) (hq : bA B 2 len (p + 3) = nI 63) (hb : tlC 3 (bA B 2 len (p + 4)) = -9) : rW2 B len p = false ∧ rE2 B len p = p + 4 := by
  have h : fbd tlC B 2 len 3 p = 3 := fbd_all (fun j hj => by
    rcases (show j = 0 ∨ j = 1 ∨ j = 2 by omega) with rfl | rfl | rfl
    · exact g0
    · exact g1
    · exact g2)
  unfold rW2 rE2; rw [h, hq, hb]; exact ⟨by simp, by simp⟩
theorem rg2q {B : Nat → Int32} {len p : Nat} (g0 : ¬ tlC 0 (bA B 2 len p) = -9) (g1 : ¬ tlC 1 (bA B 2 len (p + 1)) = -9) (g2 : ¬ tlC 2 (bA B 2 len (p + 2)) = -9) (hq : bA B 2 len (p + 3) = nI 63) (hb : ¬ tlC 3 (bA B 2 len (p + 4)) = -9) : rW2 B len p = true ∧ rE2 B len p = p + 5 := by
  have h : fbd tlC B 2 len 3 p = 3 := fbd_all (fun j hj => by
    rcases (show j = 0 ∨ j = 1 ∨ j = 2 by omega) with rfl | rfl | rfl
    · exact g0
    · exact g1
    · exact g2)
  unfold rW2 rE2; rw [h, hq]; exact ⟨by simp [hb], by simp [hb]⟩
theorem rg2n {B : Nat → Int32} {len p : Nat} (g0 : ¬ tlC 0 (bA B 2 len p) = -9) (g1 : ¬ tlC 1 (bA B 2 len (p + 1)) = -9) (g2 : ¬ tlC 2 (bA B 2 len (p + 2)) = -9) (hq : ¬ bA B 2 len (p + 3) = nI 63) : rW2 B len p = true ∧ rE2 B len p = p + 3 := by
  have h : fbd tlC B 2 len 3 p = 3 := fbd_all (fun j hj => by
    rcases (show j = 0 ∨ j = 1 ∨ j = 2 by omega) with rfl | rfl | rfl
    · exact g0
    · exact g1
    · exact g2)
  unfold rW2 rE2; rw [h]; exact ⟨by simp [hq], by simp [hq]⟩
set_option maxRecDepth 100000 in
set_option maxHeartbeats 1000000 in
theorem j_X2_readRow_ok {G : GT} (r : Nat → Nat) (s : St) (l : Nat → Int64) (B : Nat → Int32) (len : Nat) (hlen : s 51 0 = nI len) (hl59 : len ≤ 59) (hB : ∀ p, p < len → s 20 p = B (60 * 0 + p)) (p rr : Nat) (hp : p ≤ 70) (hrr : rr < 8) (hW : rW0 B len p = true) {Q : Option Value → va_W → Prop} (hq : ∀ v_ : Int32, v_ = nI (rE0 B len p) → Q (some (.int v_)) (cW G r (su 26 (su 25 (su 24 (su 23 (su 22 (su 21 s (upd (s 21) rr (tlH 0 (bA B 0 len p)))) (upd (s 22) rr (tlH 1 (bA B 0 len (p + 1))))) (upd (s 23) rr (tlH 2 (bA B 0 len (p + 2))))) (upd (s 24) rr (tlH 3 (bA B 0 len (p + 3))))) (upd (s 25) rr (tlH 4 (bA B 0 len (p + 4))))) (upd (s 26) rr (nI (hbs (tlH 0 (bA B 0 len p)) (tlH 1 (bA B 0 len (p + 1))))))) l)) : J G "readRow" RX2 cX2_readRow 5 (some .int) 0 0 3 Q 0 0 0 [(0, .ref (r 3)), (1, .int (nI p)), (2, .int (nI rr))] [] (cW G r s l) := by
  refine J_iload_n dX2_readRow_0 rfl rfl ?_
  refine J_bipush (v := nI 8) dX2_readRow_1 (by decide) ?_
  refine J_cNi [.int (nI rr), .int (nI 8)] mn_X2_30 (c_X11_isBelowN (cW G r s l) (nI rr) 8) rfl rfl (by decide) (Nat.le_of_ble_eq_true rfl) ⟨Nat.le_refl _, Nat.le_refl _⟩ dX2_readRow_3 ?_
  refine J_if_eqB 21 dX2_readRow_6 (by decide) (fun c => absurd c (by rw [(rng_of hrr (by decide))]; decide)) (fun _ => ?_)
  refine J_aload_n dX2_readRow_9 rfl rfl ?_
  refine J_iload_n dX2_readRow_10 rfl rfl ?_
  refine J_bipush (v := nI 97) dX2_readRow_11 (by decide) ?_
  refine J_bipush (v := nI 120) dX2_readRow_13 (by decide) ?_
  refine J_cUi [.int (nI p), .int (nI 97), .int (nI 120)] 3 mu_X2_34_2 (c_X5_isBetween0 r s l B len hlen hl59 hB p (by omega) (nI 97) (nI 120)) cW_3 rfl rfl (by decide) (Nat.le_of_ble_eq_true rfl) ⟨Nat.le_refl _, Nat.le_refl _⟩ dX2_readRow_15 ?_
  refine J_if_neB 25 dX2_readRow_18 (by decide) (fun kcz1 => ?_) (fun kcz1 => ?_)
  · refine J_aload_n dX2_readRow_25 rfl rfl ?_
    refine J_iload_n dX2_readRow_26 rfl rfl ?_
    refine J_iconst (v := nI 1) dX2_readRow_27 (by decide) ?_
    refine J_iaddN dX2_readRow_28 ?_
    refine J_bipush (v := nI 49) dX2_readRow_29 (by decide) ?_
    refine J_bipush (v := nI 57) dX2_readRow_31 (by decide) ?_
    refine J_cUi [.int (nI (p + 1)), .int (nI 49), .int (nI 57)] 3 mu_X2_34_2 (c_X5_isBetween0 r s l B len hlen hl59 hB (p + 1) (by omega) (nI 49) (nI 57)) cW_3 rfl rfl (by decide) (Nat.le_of_ble_eq_true rfl) ⟨Nat.le_refl _, Nat.le_refl _⟩ dX2_readRow_33 ?_
    refine J_if_neB 45 dX2_readRow_36 (by decide) (fun kcz2 => ?_) (fun kcz2 => ?_)
    · refine J_aload_n dX2_readRow_45 rfl rfl ?_
      refine J_iload_n dX2_readRow_46 rfl rfl ?_
      refine J_iconst (v := nI 2) dX2_readRow_47 (by decide) ?_
      refine J_iaddN dX2_readRow_48 ?_
      refine J_bipush (v := nI 48) dX2_readRow_49 (by decide) ?_
      refine J_bipush (v := nI 57) dX2_readRow_51 (by decide) ?_
      refine J_cUi [.int (nI (p + 2)), .int (nI 48), .int (nI 57)] 3 mu_X2_34_2 (c_X5_isBetween0 r s l B len hlen hl59 hB (p + 2) (by omega) (nI 48) (nI 57)) cW_3 rfl rfl (by decide) (Nat.le_of_ble_eq_true rfl) ⟨Nat.le_refl _, Nat.le_refl _⟩ dX2_readRow_53 ?_
      refine J_if_neB 65 dX2_readRow_56 (by decide) (fun kcz3 => ?_) (fun kcz3 => ?_)
      · refine J_aload_n dX2_readRow_65 rfl rfl ?_
        refine J_iload_n dX2_readRow_66 rfl rfl ?_
        refine J_iconst (v := nI 3) dX2_readRow_67 (by decide) ?_
        refine J_iaddN dX2_readRow_68 ?_
        refine J_bipush (v := nI 48) dX2_readRow_69 (by decide) ?_
        refine J_bipush (v := nI 55) dX2_readRow_71 (by decide) ?_
        refine J_cUi [.int (nI (p + 3)), .int (nI 48), .int (nI 55)] 3 mu_X2_34_2 (c_X5_isBetween0 r s l B len hlen hl59 hB (p + 3) (by omega) (nI 48) (nI 55)) cW_3 rfl rfl (by decide) (Nat.le_of_ble_eq_true rfl) ⟨Nat.le_refl _, Nat.le_refl _⟩ dX2_readRow_73 ?_
        refine J_istore_n [(0, .ref (r 3)), (1, .int (nI p)), (2, .int (nI rr)), (3, .int (bI (inI (bA B 0 len (p + 3)) (nI 48) (nI 55))))] dX2_readRow_76 rfl (by decide) rfl rfl rfl ?_
        refine J_iload_n dX2_readRow_77 rfl rfl ?_
        refine J_if_neB 99 dX2_readRow_78 (by decide) (fun kcz4 => ?_) (fun kcz4 => ?_)
        · refine J_aload_n dX2_readRow_99 rfl rfl ?_
          refine J_iload_n dX2_readRow_100 rfl rfl ?_
          refine J_iconst (v := nI 4) dX2_readRow_101 (by decide) ?_
          refine J_iaddN dX2_readRow_102 ?_
          refine J_cUi [.int (nI (p + 4))] 3 mu_X2_38_2 (c_X5_signAt0 r s l B len hlen hl59 hB (p + 4) (by omega)) cW_3 rfl rfl (by decide) (Nat.le_of_ble_eq_true rfl) ⟨Nat.le_refl _, Nat.le_refl _⟩ dX2_readRow_103 ?_
          refine J_bipush (v := nI 33) dX2_readRow_106 (by decide) ?_
          refine J_icmp_ne 115 dX2_readRow_108 (by decide) (fun kcz5 => ?_) (fun kcz5 => ?_)
          · refine J_iconst (v := nI 0) dX2_readRow_115 (by decide) ?_
            refine J_istore [(0, .ref (r 3)), (1, .int (nI p)), (2, .int (nI rr)), (3, .int (bI (inI (bA B 0 len (p + 3)) (nI 48) (nI 55)))), (4, .int (nI 0))] dX2_readRow_116 (by decide) rfl rfl rfl ?_
            refine J_iload dX2_readRow_118 rfl ?_
            refine J_if_ne 141 dX2_readRow_120 (by decide) (fun c => absurd c (by decide)) (fun _ => ?_)
            refine J_aload_n dX2_readRow_123 rfl rfl ?_
            refine J_iload_n dX2_readRow_124 rfl rfl ?_
            refine J_iconst (v := nI 4) dX2_readRow_125 (by decide) ?_
            refine J_iaddN dX2_readRow_126 ?_
            refine J_cUi [.int (nI (p + 4))] 3 mu_X2_38_2 (c_X5_signAt0 r s l B len hlen hl59 hB (p + 4) (by omega)) cW_3 rfl rfl (by decide) (Nat.le_of_ble_eq_true rfl) ⟨Nat.le_refl _, Nat.le_refl _⟩ dX2_readRow_127 ?_
            refine J_bipush (v := nI 46) dX2_readRow_130 (by decide) ?_
            refine J_icmp_eq 141 dX2_readRow_132 (by decide) (fun kcz6 => ?_) (fun kcz6 => ?_)
            · obtain ⟨f0, hf0, ef0⟩ := gH0n kcz1
              obtain ⟨k0, hk0, ek0⟩ := gH1n kcz2
              refine J_aload_n dX2_readRow_141 rfl rfl ?_
              refine Cg_3_6 fr_X2_9_2 dX2_readRow_142 ?_
              refine J_iload_n dX2_readRow_145 rfl rfl ?_
              refine J_aload_n dX2_readRow_146 rfl rfl ?_
              refine J_iload_n dX2_readRow_147 rfl rfl ?_
              refine J_cUi [.int (nI p)] 3 mu_X2_38_2 (c_X5_signAt0 r s l B len hlen hl59 hB p (by omega)) cW_3 rfl rfl (by decide) (Nat.le_of_ble_eq_true rfl) ⟨Nat.le_refl _, Nat.le_refl _⟩ dX2_readRow_148 ?_
              refine J_bipush (v := nI 97) dX2_readRow_151 (by decide) ?_
              refine J_isub dX2_readRow_153 ?_
              refine J_rw (y := tlH 0 (bA B 0 len p)) (gH0 kcz1).1.symm ?_
              refine Cs_21 (s := s) (s 21) rfl rr rfl (by omega) dX2_readRow_154 ?_
              refine J_aload_n dX2_readRow_155 rfl rfl ?_
              refine Cg_3_7 fr_X2_15_2 dX2_readRow_156 ?_
              refine J_iload_n dX2_readRow_159 rfl rfl ?_
              refine J_aload_n dX2_readRow_160 rfl rfl ?_
              refine J_iload_n dX2_readRow_161 rfl rfl ?_
              refine J_iconst (v := nI 1) dX2_readRow_162 (by decide) ?_
              refine J_iaddN dX2_readRow_163 ?_
              refine J_cUi [.int (nI (p + 1))] 3 mu_X2_38_2 (c_X5_signAt0 r (su 21 s (upd (s 21) rr (tlH 0 (bA B 0 len p)))) l B len hlen hl59 hB (p + 1) (by omega)) cW_3 rfl rfl (by decide) (Nat.le_of_ble_eq_true rfl) ⟨Nat.le_refl _, Nat.le_refl _⟩ dX2_readRow_164 ?_
              refine J_bipush (v := nI 48) dX2_readRow_167 (by decide) ?_
              refine J_isub dX2_readRow_169 ?_
              refine J_rw (y := tlH 1 (bA B 0 len (p + 1))) (gH1 kcz2).1.symm ?_
              refine Cs_22 (s := (su 21 s (upd (s 21) rr (tlH 0 (bA B 0 len p))))) (s 22) rfl rr rfl (by omega) dX2_readRow_170 ?_
              refine J_aload_n dX2_readRow_171 rfl rfl ?_
              refine Cg_3_8 fr_X2_18_2 dX2_readRow_172 ?_
              refine J_iload_n dX2_readRow_175 rfl rfl ?_
              refine J_aload_n dX2_readRow_176 rfl rfl ?_
              refine J_iload_n dX2_readRow_177 rfl rfl ?_
              refine J_iconst (v := nI 2) dX2_readRow_178 (by decide) ?_
              refine J_iaddN dX2_readRow_179 ?_
              refine J_cUi [.int (nI (p + 2))] 3 mu_X2_38_2 (c_X5_signAt0 r (su 22 (su 21 s (upd (s 21) rr (tlH 0 (bA B 0 len p)))) (upd (s 22) rr (tlH 1 (bA B 0 len (p + 1))))) l B len hlen hl59 hB (p + 2) (by omega)) cW_3 rfl rfl (by decide) (Nat.le_of_ble_eq_true rfl) ⟨Nat.le_refl _, Nat.le_refl _⟩ dX2_readRow_180 ?_
              refine J_bipush (v := nI 48) dX2_readRow_183 (by decide) ?_
              refine J_isub dX2_readRow_185 ?_
              refine J_rw (y := tlH 2 (bA B 0 len (p + 2))) (gH2 kcz3).1.symm ?_
              refine Cs_23 (s := (su 22 (su 21 s (upd (s 21) rr (tlH 0 (bA B 0 len p)))) (upd (s 22) rr (tlH 1 (bA B 0 len (p + 1)))))) (s 23) rfl rr rfl (by omega) dX2_readRow_186 ?_
              refine J_aload_n dX2_readRow_187 rfl rfl ?_
              refine Cg_3_9 fr_X2_21_2 dX2_readRow_188 ?_
              refine J_iload_n dX2_readRow_191 rfl rfl ?_
              refine J_iload_n dX2_readRow_192 rfl rfl ?_
              refine J_if_eqB 209 dX2_readRow_193 (by decide) (fun c => absurd c (by rw [kcz4]; decide)) (fun _ => ?_)
              refine J_aload_n dX2_readRow_196 rfl rfl ?_
              refine J_iload_n dX2_readRow_197 rfl rfl ?_
              refine J_iconst (v := nI 3) dX2_readRow_198 (by decide) ?_
              refine J_iaddN dX2_readRow_199 ?_
              refine J_cUi [.int (nI (p + 3))] 3 mu_X2_38_2 (c_X5_signAt0 r (su 23 (su 22 (su 21 s (upd (s 21) rr (tlH 0 (bA B 0 len p)))) (upd (s 22) rr (tlH 1 (bA B 0 len (p + 1))))) (upd (s 23) rr (tlH 2 (bA B 0 len (p + 2))))) l B len hlen hl59 hB (p + 3) (by omega)) cW_3 rfl rfl (by decide) (Nat.le_of_ble_eq_true rfl) ⟨Nat.le_refl _, Nat.le_refl _⟩ dX2_readRow_200 ?_
              refine J_bipush (v := nI 48) dX2_readRow_203 (by decide) ?_
              refine J_isub dX2_readRow_205 ?_
              refine J_goto 210 dX2_readRow_206 (by decide) ?_
              refine J_rw (y := tlH 3 (bA B 0 len (p + 3))) (gH3a kcz4).1.symm ?_
              refine Cs_24 (s := (su 23 (su 22 (su 21 s (upd (s 21) rr (tlH 0 (bA B 0 len p)))) (upd (s 22) rr (tlH 1 (bA B 0 len (p + 1))))) (upd (s 23) rr (tlH 2 (bA B 0 len (p + 2)))))) (s 24) rfl rr rfl (by omega) dX2_readRow_210 ?_
              refine J_aload_n dX2_readRow_211 rfl rfl ?_
              refine Cg_3_10 fr_X2_24_2 dX2_readRow_212 ?_
              refine J_iload_n dX2_readRow_215 rfl rfl ?_
              refine J_iload dX2_readRow_216 rfl ?_
              refine J_if_eq 225 dX2_readRow_218 (by decide) (fun _ => ?_) (fun c => absurd c (by decide))
              refine J_iconst (v := nI 0) dX2_readRow_225 (by decide) ?_
              refine J_rw (y := tlH 4 (bA B 0 len (p + 4))) (gH4b kcz6).1.symm ?_
              refine Cs_25 (s := (su 24 (su 23 (su 22 (su 21 s (upd (s 21) rr (tlH 0 (bA B 0 len p)))) (upd (s 22) rr (tlH 1 (bA B 0 len (p + 1))))) (upd (s 23) rr (tlH 2 (bA B 0 len (p + 2))))) (upd (s 24) rr (tlH 3 (bA B 0 len (p + 3)))))) (s 25) rfl rr rfl (by omega) dX2_readRow_226 ?_
              refine J_aload_n dX2_readRow_227 rfl rfl ?_
              refine Cg_3_11 fr_X2_27_2 dX2_readRow_228 ?_
              refine J_iload_n dX2_readRow_231 rfl rfl ?_
              refine J_aload_n dX2_readRow_232 rfl rfl ?_
              refine Cg_3_6 fr_X2_9_2 dX2_readRow_233 ?_
              refine J_iload_n dX2_readRow_236 rfl rfl ?_
              refine Cl_21 (s := (su 25 (su 24 (su 23 (su 22 (su 21 s (upd (s 21) rr (tlH 0 (bA B 0 len p)))) (upd (s 22) rr (tlH 1 (bA B 0 len (p + 1))))) (upd (s 23) rr (tlH 2 (bA B 0 len (p + 2))))) (upd (s 24) rr (tlH 3 (bA B 0 len (p + 3))))) (upd (s 25) rr (tlH 4 (bA B 0 len (p + 4)))))) (upd (s 21) rr (tlH 0 (bA B 0 len p))) rfl rr rfl (by omega) dX2_readRow_237 ?_
              refine J_rw (y := nI f0) (pk_us.trans ef0) ?_
              refine J_aload_n dX2_readRow_238 rfl rfl ?_
              refine Cg_3_7 fr_X2_15_2 dX2_readRow_239 ?_
              refine J_iload_n dX2_readRow_242 rfl rfl ?_
              refine Cl_22 (s := (su 25 (su 24 (su 23 (su 22 (su 21 s (upd (s 21) rr (tlH 0 (bA B 0 len p)))) (upd (s 22) rr (tlH 1 (bA B 0 len (p + 1))))) (upd (s 23) rr (tlH 2 (bA B 0 len (p + 2))))) (upd (s 24) rr (tlH 3 (bA B 0 len (p + 3))))) (upd (s 25) rr (tlH 4 (bA B 0 len (p + 4)))))) (upd (s 22) rr (tlH 1 (bA B 0 len (p + 1)))) rfl rr rfl (by omega) dX2_readRow_243 ?_
              refine J_rw (y := nI k0) (pk_us.trans ek0) ?_
              refine J_cSi [.int (nI f0), .int (nI k0)] ms_X2_42 (c_X2_bitsOfHours (cW G r (su 25 (su 24 (su 23 (su 22 (su 21 s (upd (s 21) rr (tlH 0 (bA B 0 len p)))) (upd (s 22) rr (tlH 1 (bA B 0 len (p + 1))))) (upd (s 23) rr (tlH 2 (bA B 0 len (p + 2))))) (upd (s 24) rr (tlH 3 (bA B 0 len (p + 3))))) (upd (s 25) rr (tlH 4 (bA B 0 len (p + 4))))) l) f0 k0 (by omega) (by omega)) rfl rfl (by decide) (Nat.le_of_ble_eq_true rfl) ⟨Nat.le_refl _, Nat.le_refl _⟩ dX2_readRow_244 ?_
              refine J_rw (y := nI (hbs (tlH 0 (bA B 0 len p)) (tlH 1 (bA B 0 len (p + 1))))) (by rw [ef0, ek0, hbs_nI hf0 (by omega)]) ?_
              refine Cs_26 (s := (su 25 (su 24 (su 23 (su 22 (su 21 s (upd (s 21) rr (tlH 0 (bA B 0 len p)))) (upd (s 22) rr (tlH 1 (bA B 0 len (p + 1))))) (upd (s 23) rr (tlH 2 (bA B 0 len (p + 2))))) (upd (s 24) rr (tlH 3 (bA B 0 len (p + 3))))) (upd (s 25) rr (tlH 4 (bA B 0 len (p + 4)))))) (s 26) rfl rr rfl (by omega) dX2_readRow_247 ?_
              refine J_iload_n dX2_readRow_248 rfl rfl ?_
              refine J_iconst (v := nI 5) dX2_readRow_249 (by decide) ?_
              refine J_iaddN dX2_readRow_250 ?_
              exact J_iret dX2_readRow_251 rfl rfl rfl (hq _ (by rw [(rg0 (gH0 kcz1).2 (gH1 kcz2).2 (gH2 kcz3).2 (gH3a kcz4).2 (gH4b kcz6).2).2]))
            · refine J_iload_n dX2_readRow_135 rfl rfl ?_
              refine J_iconst (v := nI 4) dX2_readRow_136 (by decide) ?_
              refine J_iaddN dX2_readRow_137 ?_
              refine J_iconst (v := -1) dX2_readRow_138 (by decide) ?_
              refine J_ixor dX2_readRow_139 ?_
              exact J_iret dX2_readRow_140 rfl rfl rfl (absurd hW (by rw [(rb0_4 (gH0 kcz1).2 (gH1 kcz2).2 (gH2 kcz3).2 (gH3a kcz4).2 (bH4 kcz5 kcz6)).1]; decide))
          · refine J_iconst (v := nI 1) dX2_readRow_111 (by decide) ?_
            refine J_goto 116 dX2_readRow_112 (by decide) ?_
            refine J_istore [(0, .ref (r 3)), (1, .int (nI p)), (2, .int (nI rr)), (3, .int (bI (inI (bA B 0 len (p + 3)) (nI 48) (nI 55)))), (4, .int (nI 1))] dX2_readRow_116 (by decide) rfl rfl rfl ?_
            refine J_iload dX2_readRow_118 rfl ?_
            refine J_if_ne 141 dX2_readRow_120 (by decide) (fun _ => ?_) (fun c => absurd c (by decide))
            obtain ⟨f0, hf0, ef0⟩ := gH0n kcz1
            obtain ⟨k0, hk0, ek0⟩ := gH1n kcz2
            refine J_aload_n dX2_readRow_141 rfl rfl ?_
            refine Cg_3_6 fr_X2_9_2 dX2_readRow_142 ?_
            refine J_iload_n dX2_readRow_145 rfl rfl ?_
            refine J_aload_n dX2_readRow_146 rfl rfl ?_
            refine J_iload_n dX2_readRow_147 rfl rfl ?_
            refine J_cUi [.int (nI p)] 3 mu_X2_38_2 (c_X5_signAt0 r s l B len hlen hl59 hB p (by omega)) cW_3 rfl rfl (by decide) (Nat.le_of_ble_eq_true rfl) ⟨Nat.le_refl _, Nat.le_refl _⟩ dX2_readRow_148 ?_
            refine J_bipush (v := nI 97) dX2_readRow_151 (by decide) ?_
            refine J_isub dX2_readRow_153 ?_
            refine J_rw (y := tlH 0 (bA B 0 len p)) (gH0 kcz1).1.symm ?_
            refine Cs_21 (s := s) (s 21) rfl rr rfl (by omega) dX2_readRow_154 ?_
            refine J_aload_n dX2_readRow_155 rfl rfl ?_
            refine Cg_3_7 fr_X2_15_2 dX2_readRow_156 ?_
            refine J_iload_n dX2_readRow_159 rfl rfl ?_
            refine J_aload_n dX2_readRow_160 rfl rfl ?_
            refine J_iload_n dX2_readRow_161 rfl rfl ?_
            refine J_iconst (v := nI 1) dX2_readRow_162 (by decide) ?_
            refine J_iaddN dX2_readRow_163 ?_
            refine J_cUi [.int (nI (p + 1))] 3 mu_X2_38_2 (c_X5_signAt0 r (su 21 s (upd (s 21) rr (tlH 0 (bA B 0 len p)))) l B len hlen hl59 hB (p + 1) (by omega)) cW_3 rfl rfl (by decide) (Nat.le_of_ble_eq_true rfl) ⟨Nat.le_refl _, Nat.le_refl _⟩ dX2_readRow_164 ?_
            refine J_bipush (v := nI 48) dX2_readRow_167 (by decide) ?_
            refine J_isub dX2_readRow_169 ?_
            refine J_rw (y := tlH 1 (bA B 0 len (p + 1))) (gH1 kcz2).1.symm ?_
            refine Cs_22 (s := (su 21 s (upd (s 21) rr (tlH 0 (bA B 0 len p))))) (s 22) rfl rr rfl (by omega) dX2_readRow_170 ?_
            refine J_aload_n dX2_readRow_171 rfl rfl ?_
            refine Cg_3_8 fr_X2_18_2 dX2_readRow_172 ?_
            refine J_iload_n dX2_readRow_175 rfl rfl ?_
            refine J_aload_n dX2_readRow_176 rfl rfl ?_
            refine J_iload_n dX2_readRow_177 rfl rfl ?_
            refine J_iconst (v := nI 2) dX2_readRow_178 (by decide) ?_
            refine J_iaddN dX2_readRow_179 ?_
            refine J_cUi [.int (nI (p + 2))] 3 mu_X2_38_2 (c_X5_signAt0 r (su 22 (su 21 s (upd (s 21) rr (tlH 0 (bA B 0 len p)))) (upd (s 22) rr (tlH 1 (bA B 0 len (p + 1))))) l B len hlen hl59 hB (p + 2) (by omega)) cW_3 rfl rfl (by decide) (Nat.le_of_ble_eq_true rfl) ⟨Nat.le_refl _, Nat.le_refl _⟩ dX2_readRow_180 ?_
            refine J_bipush (v := nI 48) dX2_readRow_183 (by decide) ?_
            refine J_isub dX2_readRow_185 ?_
            refine J_rw (y := tlH 2 (bA B 0 len (p + 2))) (gH2 kcz3).1.symm ?_
            refine Cs_23 (s := (su 22 (su 21 s (upd (s 21) rr (tlH 0 (bA B 0 len p)))) (upd (s 22) rr (tlH 1 (bA B 0 len (p + 1)))))) (s 23) rfl rr rfl (by omega) dX2_readRow_186 ?_
            refine J_aload_n dX2_readRow_187 rfl rfl ?_
            refine Cg_3_9 fr_X2_21_2 dX2_readRow_188 ?_
            refine J_iload_n dX2_readRow_191 rfl rfl ?_
            refine J_iload_n dX2_readRow_192 rfl rfl ?_
            refine J_if_eqB 209 dX2_readRow_193 (by decide) (fun c => absurd c (by rw [kcz4]; decide)) (fun _ => ?_)
            refine J_aload_n dX2_readRow_196 rfl rfl ?_
            refine J_iload_n dX2_readRow_197 rfl rfl ?_
            refine J_iconst (v := nI 3) dX2_readRow_198 (by decide) ?_
            refine J_iaddN dX2_readRow_199 ?_
            refine J_cUi [.int (nI (p + 3))] 3 mu_X2_38_2 (c_X5_signAt0 r (su 23 (su 22 (su 21 s (upd (s 21) rr (tlH 0 (bA B 0 len p)))) (upd (s 22) rr (tlH 1 (bA B 0 len (p + 1))))) (upd (s 23) rr (tlH 2 (bA B 0 len (p + 2))))) l B len hlen hl59 hB (p + 3) (by omega)) cW_3 rfl rfl (by decide) (Nat.le_of_ble_eq_true rfl) ⟨Nat.le_refl _, Nat.le_refl _⟩ dX2_readRow_200 ?_
            refine J_bipush (v := nI 48) dX2_readRow_203 (by decide) ?_
            refine J_isub dX2_readRow_205 ?_
            refine J_goto 210 dX2_readRow_206 (by decide) ?_
            refine J_rw (y := tlH 3 (bA B 0 len (p + 3))) (gH3a kcz4).1.symm ?_
            refine Cs_24 (s := (su 23 (su 22 (su 21 s (upd (s 21) rr (tlH 0 (bA B 0 len p)))) (upd (s 22) rr (tlH 1 (bA B 0 len (p + 1))))) (upd (s 23) rr (tlH 2 (bA B 0 len (p + 2)))))) (s 24) rfl rr rfl (by omega) dX2_readRow_210 ?_
            refine J_aload_n dX2_readRow_211 rfl rfl ?_
            refine Cg_3_10 fr_X2_24_2 dX2_readRow_212 ?_
            refine J_iload_n dX2_readRow_215 rfl rfl ?_
            refine J_iload dX2_readRow_216 rfl ?_
            refine J_if_eq 225 dX2_readRow_218 (by decide) (fun c => absurd c (by decide)) (fun _ => ?_)
            refine J_iconst (v := nI 1) dX2_readRow_221 (by decide) ?_
            refine J_goto 226 dX2_readRow_222 (by decide) ?_
            refine J_rw (y := tlH 4 (bA B 0 len (p + 4))) (gH4a kcz5).1.symm ?_
            refine Cs_25 (s := (su 24 (su 23 (su 22 (su 21 s (upd (s 21) rr (tlH 0 (bA B 0 len p)))) (upd (s 22) rr (tlH 1 (bA B 0 len (p + 1))))) (upd (s 23) rr (tlH 2 (bA B 0 len (p + 2))))) (upd (s 24) rr (tlH 3 (bA B 0 len (p + 3)))))) (s 25) rfl rr rfl (by omega) dX2_readRow_226 ?_
            refine J_aload_n dX2_readRow_227 rfl rfl ?_
            refine Cg_3_11 fr_X2_27_2 dX2_readRow_228 ?_
            refine J_iload_n dX2_readRow_231 rfl rfl ?_
            refine J_aload_n dX2_readRow_232 rfl rfl ?_
            refine Cg_3_6 fr_X2_9_2 dX2_readRow_233 ?_
            refine J_iload_n dX2_readRow_236 rfl rfl ?_
            refine Cl_21 (s := (su 25 (su 24 (su 23 (su 22 (su 21 s (upd (s 21) rr (tlH 0 (bA B 0 len p)))) (upd (s 22) rr (tlH 1 (bA B 0 len (p + 1))))) (upd (s 23) rr (tlH 2 (bA B 0 len (p + 2))))) (upd (s 24) rr (tlH 3 (bA B 0 len (p + 3))))) (upd (s 25) rr (tlH 4 (bA B 0 len (p + 4)))))) (upd (s 21) rr (tlH 0 (bA B 0 len p))) rfl rr rfl (by omega) dX2_readRow_237 ?_
            refine J_rw (y := nI f0) (pk_us.trans ef0) ?_
            refine J_aload_n dX2_readRow_238 rfl rfl ?_
            refine Cg_3_7 fr_X2_15_2 dX2_readRow_239 ?_
            refine J_iload_n dX2_readRow_242 rfl rfl ?_
            refine Cl_22 (s := (su 25 (su 24 (su 23 (su 22 (su 21 s (upd (s 21) rr (tlH 0 (bA B 0 len p)))) (upd (s 22) rr (tlH 1 (bA B 0 len (p + 1))))) (upd (s 23) rr (tlH 2 (bA B 0 len (p + 2))))) (upd (s 24) rr (tlH 3 (bA B 0 len (p + 3))))) (upd (s 25) rr (tlH 4 (bA B 0 len (p + 4)))))) (upd (s 22) rr (tlH 1 (bA B 0 len (p + 1)))) rfl rr rfl (by omega) dX2_readRow_243 ?_
            refine J_rw (y := nI k0) (pk_us.trans ek0) ?_
            refine J_cSi [.int (nI f0), .int (nI k0)] ms_X2_42 (c_X2_bitsOfHours (cW G r (su 25 (su 24 (su 23 (su 22 (su 21 s (upd (s 21) rr (tlH 0 (bA B 0 len p)))) (upd (s 22) rr (tlH 1 (bA B 0 len (p + 1))))) (upd (s 23) rr (tlH 2 (bA B 0 len (p + 2))))) (upd (s 24) rr (tlH 3 (bA B 0 len (p + 3))))) (upd (s 25) rr (tlH 4 (bA B 0 len (p + 4))))) l) f0 k0 (by omega) (by omega)) rfl rfl (by decide) (Nat.le_of_ble_eq_true rfl) ⟨Nat.le_refl _, Nat.le_refl _⟩ dX2_readRow_244 ?_
            refine J_rw (y := nI (hbs (tlH 0 (bA B 0 len p)) (tlH 1 (bA B 0 len (p + 1))))) (by rw [ef0, ek0, hbs_nI hf0 (by omega)]) ?_
            refine Cs_26 (s := (su 25 (su 24 (su 23 (su 22 (su 21 s (upd (s 21) rr (tlH 0 (bA B 0 len p)))) (upd (s 22) rr (tlH 1 (bA B 0 len (p + 1))))) (upd (s 23) rr (tlH 2 (bA B 0 len (p + 2))))) (upd (s 24) rr (tlH 3 (bA B 0 len (p + 3))))) (upd (s 25) rr (tlH 4 (bA B 0 len (p + 4)))))) (s 26) rfl rr rfl (by omega) dX2_readRow_247 ?_
            refine J_iload_n dX2_readRow_248 rfl rfl ?_
            refine J_iconst (v := nI 5) dX2_readRow_249 (by decide) ?_
            refine J_iaddN dX2_readRow_250 ?_
            exact J_iret dX2_readRow_251 rfl rfl rfl (hq _ (by rw [(rg0 (gH0 kcz1).2 (gH1 kcz2).2 (gH2 kcz3).2 (gH3a kcz4).2 (gH4a kcz5).2).2]))
        · refine J_aload_n dX2_readRow_81 rfl rfl ?_
          refine J_iload_n dX2_readRow_82 rfl rfl ?_
          refine J_iconst (v := nI 3) dX2_readRow_83 (by decide) ?_
          refine J_iaddN dX2_readRow_84 ?_
          refine J_cUi [.int (nI (p + 3))] 3 mu_X2_38_2 (c_X5_signAt0 r s l B len hlen hl59 hB (p + 3) (by omega)) cW_3 rfl rfl (by decide) (Nat.le_of_ble_eq_true rfl) ⟨Nat.le_refl _, Nat.le_refl _⟩ dX2_readRow_85 ?_
          refine J_bipush (v := nI 46) dX2_readRow_88 (by decide) ?_
          refine J_icmp_eq 99 dX2_readRow_90 (by decide) (fun kcz7 => ?_) (fun kcz7 => ?_)
          · refine J_aload_n dX2_readRow_99 rfl rfl ?_
            refine J_iload_n dX2_readRow_100 rfl rfl ?_
            refine J_iconst (v := nI 4) dX2_readRow_101 (by decide) ?_
            refine J_iaddN dX2_readRow_102 ?_
            refine J_cUi [.int (nI (p + 4))] 3 mu_X2_38_2 (c_X5_signAt0 r s l B len hlen hl59 hB (p + 4) (by omega)) cW_3 rfl rfl (by decide) (Nat.le_of_ble_eq_true rfl) ⟨Nat.le_refl _, Nat.le_refl _⟩ dX2_readRow_103 ?_
            refine J_bipush (v := nI 33) dX2_readRow_106 (by decide) ?_
            refine J_icmp_ne 115 dX2_readRow_108 (by decide) (fun kcz8 => ?_) (fun kcz8 => ?_)
            · refine J_iconst (v := nI 0) dX2_readRow_115 (by decide) ?_
              refine J_istore [(0, .ref (r 3)), (1, .int (nI p)), (2, .int (nI rr)), (3, .int (bI (inI (bA B 0 len (p + 3)) (nI 48) (nI 55)))), (4, .int (nI 0))] dX2_readRow_116 (by decide) rfl rfl rfl ?_
              refine J_iload dX2_readRow_118 rfl ?_
              refine J_if_ne 141 dX2_readRow_120 (by decide) (fun c => absurd c (by decide)) (fun _ => ?_)
              refine J_aload_n dX2_readRow_123 rfl rfl ?_
              refine J_iload_n dX2_readRow_124 rfl rfl ?_
              refine J_iconst (v := nI 4) dX2_readRow_125 (by decide) ?_
              refine J_iaddN dX2_readRow_126 ?_
              refine J_cUi [.int (nI (p + 4))] 3 mu_X2_38_2 (c_X5_signAt0 r s l B len hlen hl59 hB (p + 4) (by omega)) cW_3 rfl rfl (by decide) (Nat.le_of_ble_eq_true rfl) ⟨Nat.le_refl _, Nat.le_refl _⟩ dX2_readRow_127 ?_
              refine J_bipush (v := nI 46) dX2_readRow_130 (by decide) ?_
              refine J_icmp_eq 141 dX2_readRow_132 (by decide) (fun kcz9 => ?_) (fun kcz9 => ?_)
              · obtain ⟨f0, hf0, ef0⟩ := gH0n kcz1
                obtain ⟨k0, hk0, ek0⟩ := gH1n kcz2
                refine J_aload_n dX2_readRow_141 rfl rfl ?_
                refine Cg_3_6 fr_X2_9_2 dX2_readRow_142 ?_
                refine J_iload_n dX2_readRow_145 rfl rfl ?_
                refine J_aload_n dX2_readRow_146 rfl rfl ?_
                refine J_iload_n dX2_readRow_147 rfl rfl ?_
                refine J_cUi [.int (nI p)] 3 mu_X2_38_2 (c_X5_signAt0 r s l B len hlen hl59 hB p (by omega)) cW_3 rfl rfl (by decide) (Nat.le_of_ble_eq_true rfl) ⟨Nat.le_refl _, Nat.le_refl _⟩ dX2_readRow_148 ?_
                refine J_bipush (v := nI 97) dX2_readRow_151 (by decide) ?_
                refine J_isub dX2_readRow_153 ?_
                refine J_rw (y := tlH 0 (bA B 0 len p)) (gH0 kcz1).1.symm ?_
                refine Cs_21 (s := s) (s 21) rfl rr rfl (by omega) dX2_readRow_154 ?_
                refine J_aload_n dX2_readRow_155 rfl rfl ?_
                refine Cg_3_7 fr_X2_15_2 dX2_readRow_156 ?_
                refine J_iload_n dX2_readRow_159 rfl rfl ?_
                refine J_aload_n dX2_readRow_160 rfl rfl ?_
                refine J_iload_n dX2_readRow_161 rfl rfl ?_
                refine J_iconst (v := nI 1) dX2_readRow_162 (by decide) ?_
                refine J_iaddN dX2_readRow_163 ?_
                refine J_cUi [.int (nI (p + 1))] 3 mu_X2_38_2 (c_X5_signAt0 r (su 21 s (upd (s 21) rr (tlH 0 (bA B 0 len p)))) l B len hlen hl59 hB (p + 1) (by omega)) cW_3 rfl rfl (by decide) (Nat.le_of_ble_eq_true rfl) ⟨Nat.le_refl _, Nat.le_refl _⟩ dX2_readRow_164 ?_
                refine J_bipush (v := nI 48) dX2_readRow_167 (by decide) ?_
                refine J_isub dX2_readRow_169 ?_
                refine J_rw (y := tlH 1 (bA B 0 len (p + 1))) (gH1 kcz2).1.symm ?_
                refine Cs_22 (s := (su 21 s (upd (s 21) rr (tlH 0 (bA B 0 len p))))) (s 22) rfl rr rfl (by omega) dX2_readRow_170 ?_
                refine J_aload_n dX2_readRow_171 rfl rfl ?_
                refine Cg_3_8 fr_X2_18_2 dX2_readRow_172 ?_
                refine J_iload_n dX2_readRow_175 rfl rfl ?_
                refine J_aload_n dX2_readRow_176 rfl rfl ?_
                refine J_iload_n dX2_readRow_177 rfl rfl ?_
                refine J_iconst (v := nI 2) dX2_readRow_178 (by decide) ?_
                refine J_iaddN dX2_readRow_179 ?_
                refine J_cUi [.int (nI (p + 2))] 3 mu_X2_38_2 (c_X5_signAt0 r (su 22 (su 21 s (upd (s 21) rr (tlH 0 (bA B 0 len p)))) (upd (s 22) rr (tlH 1 (bA B 0 len (p + 1))))) l B len hlen hl59 hB (p + 2) (by omega)) cW_3 rfl rfl (by decide) (Nat.le_of_ble_eq_true rfl) ⟨Nat.le_refl _, Nat.le_refl _⟩ dX2_readRow_180 ?_
                refine J_bipush (v := nI 48) dX2_readRow_183 (by decide) ?_
                refine J_isub dX2_readRow_185 ?_
                refine J_rw (y := tlH 2 (bA B 0 len (p + 2))) (gH2 kcz3).1.symm ?_
                refine Cs_23 (s := (su 22 (su 21 s (upd (s 21) rr (tlH 0 (bA B 0 len p)))) (upd (s 22) rr (tlH 1 (bA B 0 len (p + 1)))))) (s 23) rfl rr rfl (by omega) dX2_readRow_186 ?_
                refine J_aload_n dX2_readRow_187 rfl rfl ?_
                refine Cg_3_9 fr_X2_21_2 dX2_readRow_188 ?_
                refine J_iload_n dX2_readRow_191 rfl rfl ?_
                refine J_iload_n dX2_readRow_192 rfl rfl ?_
                refine J_if_eqB 209 dX2_readRow_193 (by decide) (fun _ => ?_) (fun c => absurd c (by rw [kcz4]; decide))
                refine J_iconst (v := -1) dX2_readRow_209 (by decide) ?_
                refine J_rw (y := tlH 3 (bA B 0 len (p + 3))) (gH3b kcz7).1.symm ?_
                refine Cs_24 (s := (su 23 (su 22 (su 21 s (upd (s 21) rr (tlH 0 (bA B 0 len p)))) (upd (s 22) rr (tlH 1 (bA B 0 len (p + 1))))) (upd (s 23) rr (tlH 2 (bA B 0 len (p + 2)))))) (s 24) rfl rr rfl (by omega) dX2_readRow_210 ?_
                refine J_aload_n dX2_readRow_211 rfl rfl ?_
                refine Cg_3_10 fr_X2_24_2 dX2_readRow_212 ?_
                refine J_iload_n dX2_readRow_215 rfl rfl ?_
                refine J_iload dX2_readRow_216 rfl ?_
                refine J_if_eq 225 dX2_readRow_218 (by decide) (fun _ => ?_) (fun c => absurd c (by decide))
                refine J_iconst (v := nI 0) dX2_readRow_225 (by decide) ?_
                refine J_rw (y := tlH 4 (bA B 0 len (p + 4))) (gH4b kcz9).1.symm ?_
                refine Cs_25 (s := (su 24 (su 23 (su 22 (su 21 s (upd (s 21) rr (tlH 0 (bA B 0 len p)))) (upd (s 22) rr (tlH 1 (bA B 0 len (p + 1))))) (upd (s 23) rr (tlH 2 (bA B 0 len (p + 2))))) (upd (s 24) rr (tlH 3 (bA B 0 len (p + 3)))))) (s 25) rfl rr rfl (by omega) dX2_readRow_226 ?_
                refine J_aload_n dX2_readRow_227 rfl rfl ?_
                refine Cg_3_11 fr_X2_27_2 dX2_readRow_228 ?_
                refine J_iload_n dX2_readRow_231 rfl rfl ?_
                refine J_aload_n dX2_readRow_232 rfl rfl ?_
                refine Cg_3_6 fr_X2_9_2 dX2_readRow_233 ?_
                refine J_iload_n dX2_readRow_236 rfl rfl ?_
                refine Cl_21 (s := (su 25 (su 24 (su 23 (su 22 (su 21 s (upd (s 21) rr (tlH 0 (bA B 0 len p)))) (upd (s 22) rr (tlH 1 (bA B 0 len (p + 1))))) (upd (s 23) rr (tlH 2 (bA B 0 len (p + 2))))) (upd (s 24) rr (tlH 3 (bA B 0 len (p + 3))))) (upd (s 25) rr (tlH 4 (bA B 0 len (p + 4)))))) (upd (s 21) rr (tlH 0 (bA B 0 len p))) rfl rr rfl (by omega) dX2_readRow_237 ?_
                refine J_rw (y := nI f0) (pk_us.trans ef0) ?_
                refine J_aload_n dX2_readRow_238 rfl rfl ?_
                refine Cg_3_7 fr_X2_15_2 dX2_readRow_239 ?_
                refine J_iload_n dX2_readRow_242 rfl rfl ?_
                refine Cl_22 (s := (su 25 (su 24 (su 23 (su 22 (su 21 s (upd (s 21) rr (tlH 0 (bA B 0 len p)))) (upd (s 22) rr (tlH 1 (bA B 0 len (p + 1))))) (upd (s 23) rr (tlH 2 (bA B 0 len (p + 2))))) (upd (s 24) rr (tlH 3 (bA B 0 len (p + 3))))) (upd (s 25) rr (tlH 4 (bA B 0 len (p + 4)))))) (upd (s 22) rr (tlH 1 (bA B 0 len (p + 1)))) rfl rr rfl (by omega) dX2_readRow_243 ?_
                refine J_rw (y := nI k0) (pk_us.trans ek0) ?_
                refine J_cSi [.int (nI f0), .int (nI k0)] ms_X2_42 (c_X2_bitsOfHours (cW G r (su 25 (su 24 (su 23 (su 22 (su 21 s (upd (s 21) rr (tlH 0 (bA B 0 len p)))) (upd (s 22) rr (tlH 1 (bA B 0 len (p + 1))))) (upd (s 23) rr (tlH 2 (bA B 0 len (p + 2))))) (upd (s 24) rr (tlH 3 (bA B 0 len (p + 3))))) (upd (s 25) rr (tlH 4 (bA B 0 len (p + 4))))) l) f0 k0 (by omega) (by omega)) rfl rfl (by decide) (Nat.le_of_ble_eq_true rfl) ⟨Nat.le_refl _, Nat.le_refl _⟩ dX2_readRow_244 ?_
                refine J_rw (y := nI (hbs (tlH 0 (bA B 0 len p)) (tlH 1 (bA B 0 len (p + 1))))) (by rw [ef0, ek0, hbs_nI hf0 (by omega)]) ?_
                refine Cs_26 (s := (su 25 (su 24 (su 23 (su 22 (su 21 s (upd (s 21) rr (tlH 0 (bA B 0 len p)))) (upd (s 22) rr (tlH 1 (bA B 0 len (p + 1))))) (upd (s 23) rr (tlH 2 (bA B 0 len (p + 2))))) (upd (s 24) rr (tlH 3 (bA B 0 len (p + 3))))) (upd (s 25) rr (tlH 4 (bA B 0 len (p + 4)))))) (s 26) rfl rr rfl (by omega) dX2_readRow_247 ?_
                refine J_iload_n dX2_readRow_248 rfl rfl ?_
                refine J_iconst (v := nI 5) dX2_readRow_249 (by decide) ?_
                refine J_iaddN dX2_readRow_250 ?_
                exact J_iret dX2_readRow_251 rfl rfl rfl (hq _ (by rw [(rg0 (gH0 kcz1).2 (gH1 kcz2).2 (gH2 kcz3).2 (gH3b kcz7).2 (gH4b kcz9).2).2]))
              · refine J_iload_n dX2_readRow_135 rfl rfl ?_
                refine J_iconst (v := nI 4) dX2_readRow_136 (by decide) ?_
                refine J_iaddN dX2_readRow_137 ?_
                refine J_iconst (v := -1) dX2_readRow_138 (by decide) ?_
                refine J_ixor dX2_readRow_139 ?_
                exact J_iret dX2_readRow_140 rfl rfl rfl (absurd hW (by rw [(rb0_4 (gH0 kcz1).2 (gH1 kcz2).2 (gH2 kcz3).2 (gH3b kcz7).2 (bH4 kcz8 kcz9)).1]; decide))
            · refine J_iconst (v := nI 1) dX2_readRow_111 (by decide) ?_
              refine J_goto 116 dX2_readRow_112 (by decide) ?_
              refine J_istore [(0, .ref (r 3)), (1, .int (nI p)), (2, .int (nI rr)), (3, .int (bI (inI (bA B 0 len (p + 3)) (nI 48) (nI 55)))), (4, .int (nI 1))] dX2_readRow_116 (by decide) rfl rfl rfl ?_
              refine J_iload dX2_readRow_118 rfl ?_
              refine J_if_ne 141 dX2_readRow_120 (by decide) (fun _ => ?_) (fun c => absurd c (by decide))
              obtain ⟨f0, hf0, ef0⟩ := gH0n kcz1
              obtain ⟨k0, hk0, ek0⟩ := gH1n kcz2
              refine J_aload_n dX2_readRow_141 rfl rfl ?_
              refine Cg_3_6 fr_X2_9_2 dX2_readRow_142 ?_
              refine J_iload_n dX2_readRow_145 rfl rfl ?_
              refine J_aload_n dX2_readRow_146 rfl rfl ?_
              refine J_iload_n dX2_readRow_147 rfl rfl ?_
              refine J_cUi [.int (nI p)] 3 mu_X2_38_2 (c_X5_signAt0 r s l B len hlen hl59 hB p (by omega)) cW_3 rfl rfl (by decide) (Nat.le_of_ble_eq_true rfl) ⟨Nat.le_refl _, Nat.le_refl _⟩ dX2_readRow_148 ?_
              refine J_bipush (v := nI 97) dX2_readRow_151 (by decide) ?_
              refine J_isub dX2_readRow_153 ?_
              refine J_rw (y := tlH 0 (bA B 0 len p)) (gH0 kcz1).1.symm ?_
              refine Cs_21 (s := s) (s 21) rfl rr rfl (by omega) dX2_readRow_154 ?_
              refine J_aload_n dX2_readRow_155 rfl rfl ?_
              refine Cg_3_7 fr_X2_15_2 dX2_readRow_156 ?_
              refine J_iload_n dX2_readRow_159 rfl rfl ?_
              refine J_aload_n dX2_readRow_160 rfl rfl ?_
              refine J_iload_n dX2_readRow_161 rfl rfl ?_
              refine J_iconst (v := nI 1) dX2_readRow_162 (by decide) ?_
              refine J_iaddN dX2_readRow_163 ?_
              refine J_cUi [.int (nI (p + 1))] 3 mu_X2_38_2 (c_X5_signAt0 r (su 21 s (upd (s 21) rr (tlH 0 (bA B 0 len p)))) l B len hlen hl59 hB (p + 1) (by omega)) cW_3 rfl rfl (by decide) (Nat.le_of_ble_eq_true rfl) ⟨Nat.le_refl _, Nat.le_refl _⟩ dX2_readRow_164 ?_
              refine J_bipush (v := nI 48) dX2_readRow_167 (by decide) ?_
              refine J_isub dX2_readRow_169 ?_
              refine J_rw (y := tlH 1 (bA B 0 len (p + 1))) (gH1 kcz2).1.symm ?_
              refine Cs_22 (s := (su 21 s (upd (s 21) rr (tlH 0 (bA B 0 len p))))) (s 22) rfl rr rfl (by omega) dX2_readRow_170 ?_
              refine J_aload_n dX2_readRow_171 rfl rfl ?_
              refine Cg_3_8 fr_X2_18_2 dX2_readRow_172 ?_
              refine J_iload_n dX2_readRow_175 rfl rfl ?_
              refine J_aload_n dX2_readRow_176 rfl rfl ?_
              refine J_iload_n dX2_readRow_177 rfl rfl ?_
              refine J_iconst (v := nI 2) dX2_readRow_178 (by decide) ?_
              refine J_iaddN dX2_readRow_179 ?_
              refine J_cUi [.int (nI (p + 2))] 3 mu_X2_38_2 (c_X5_signAt0 r (su 22 (su 21 s (upd (s 21) rr (tlH 0 (bA B 0 len p)))) (upd (s 22) rr (tlH 1 (bA B 0 len (p + 1))))) l B len hlen hl59 hB (p + 2) (by omega)) cW_3 rfl rfl (by decide) (Nat.le_of_ble_eq_true rfl) ⟨Nat.le_refl _, Nat.le_refl _⟩ dX2_readRow_180 ?_
              refine J_bipush (v := nI 48) dX2_readRow_183 (by decide) ?_
              refine J_isub dX2_readRow_185 ?_
              refine J_rw (y := tlH 2 (bA B 0 len (p + 2))) (gH2 kcz3).1.symm ?_
              refine Cs_23 (s := (su 22 (su 21 s (upd (s 21) rr (tlH 0 (bA B 0 len p)))) (upd (s 22) rr (tlH 1 (bA B 0 len (p + 1)))))) (s 23) rfl rr rfl (by omega) dX2_readRow_186 ?_
              refine J_aload_n dX2_readRow_187 rfl rfl ?_
              refine Cg_3_9 fr_X2_21_2 dX2_readRow_188 ?_
              refine J_iload_n dX2_readRow_191 rfl rfl ?_
              refine J_iload_n dX2_readRow_192 rfl rfl ?_
              refine J_if_eqB 209 dX2_readRow_193 (by decide) (fun _ => ?_) (fun c => absurd c (by rw [kcz4]; decide))
              refine J_iconst (v := -1) dX2_readRow_209 (by decide) ?_
              refine J_rw (y := tlH 3 (bA B 0 len (p + 3))) (gH3b kcz7).1.symm ?_
              refine Cs_24 (s := (su 23 (su 22 (su 21 s (upd (s 21) rr (tlH 0 (bA B 0 len p)))) (upd (s 22) rr (tlH 1 (bA B 0 len (p + 1))))) (upd (s 23) rr (tlH 2 (bA B 0 len (p + 2)))))) (s 24) rfl rr rfl (by omega) dX2_readRow_210 ?_
              refine J_aload_n dX2_readRow_211 rfl rfl ?_
              refine Cg_3_10 fr_X2_24_2 dX2_readRow_212 ?_
              refine J_iload_n dX2_readRow_215 rfl rfl ?_
              refine J_iload dX2_readRow_216 rfl ?_
              refine J_if_eq 225 dX2_readRow_218 (by decide) (fun c => absurd c (by decide)) (fun _ => ?_)
              refine J_iconst (v := nI 1) dX2_readRow_221 (by decide) ?_
              refine J_goto 226 dX2_readRow_222 (by decide) ?_
              refine J_rw (y := tlH 4 (bA B 0 len (p + 4))) (gH4a kcz8).1.symm ?_
              refine Cs_25 (s := (su 24 (su 23 (su 22 (su 21 s (upd (s 21) rr (tlH 0 (bA B 0 len p)))) (upd (s 22) rr (tlH 1 (bA B 0 len (p + 1))))) (upd (s 23) rr (tlH 2 (bA B 0 len (p + 2))))) (upd (s 24) rr (tlH 3 (bA B 0 len (p + 3)))))) (s 25) rfl rr rfl (by omega) dX2_readRow_226 ?_
              refine J_aload_n dX2_readRow_227 rfl rfl ?_
              refine Cg_3_11 fr_X2_27_2 dX2_readRow_228 ?_
              refine J_iload_n dX2_readRow_231 rfl rfl ?_
              refine J_aload_n dX2_readRow_232 rfl rfl ?_
              refine Cg_3_6 fr_X2_9_2 dX2_readRow_233 ?_
              refine J_iload_n dX2_readRow_236 rfl rfl ?_
              refine Cl_21 (s := (su 25 (su 24 (su 23 (su 22 (su 21 s (upd (s 21) rr (tlH 0 (bA B 0 len p)))) (upd (s 22) rr (tlH 1 (bA B 0 len (p + 1))))) (upd (s 23) rr (tlH 2 (bA B 0 len (p + 2))))) (upd (s 24) rr (tlH 3 (bA B 0 len (p + 3))))) (upd (s 25) rr (tlH 4 (bA B 0 len (p + 4)))))) (upd (s 21) rr (tlH 0 (bA B 0 len p))) rfl rr rfl (by omega) dX2_readRow_237 ?_
              refine J_rw (y := nI f0) (pk_us.trans ef0) ?_
              refine J_aload_n dX2_readRow_238 rfl rfl ?_
              refine Cg_3_7 fr_X2_15_2 dX2_readRow_239 ?_
              refine J_iload_n dX2_readRow_242 rfl rfl ?_
              refine Cl_22 (s := (su 25 (su 24 (su 23 (su 22 (su 21 s (upd (s 21) rr (tlH 0 (bA B 0 len p)))) (upd (s 22) rr (tlH 1 (bA B 0 len (p + 1))))) (upd (s 23) rr (tlH 2 (bA B 0 len (p + 2))))) (upd (s 24) rr (tlH 3 (bA B 0 len (p + 3))))) (upd (s 25) rr (tlH 4 (bA B 0 len (p + 4)))))) (upd (s 22) rr (tlH 1 (bA B 0 len (p + 1)))) rfl rr rfl (by omega) dX2_readRow_243 ?_
              refine J_rw (y := nI k0) (pk_us.trans ek0) ?_
              refine J_cSi [.int (nI f0), .int (nI k0)] ms_X2_42 (c_X2_bitsOfHours (cW G r (su 25 (su 24 (su 23 (su 22 (su 21 s (upd (s 21) rr (tlH 0 (bA B 0 len p)))) (upd (s 22) rr (tlH 1 (bA B 0 len (p + 1))))) (upd (s 23) rr (tlH 2 (bA B 0 len (p + 2))))) (upd (s 24) rr (tlH 3 (bA B 0 len (p + 3))))) (upd (s 25) rr (tlH 4 (bA B 0 len (p + 4))))) l) f0 k0 (by omega) (by omega)) rfl rfl (by decide) (Nat.le_of_ble_eq_true rfl) ⟨Nat.le_refl _, Nat.le_refl _⟩ dX2_readRow_244 ?_
              refine J_rw (y := nI (hbs (tlH 0 (bA B 0 len p)) (tlH 1 (bA B 0 len (p + 1))))) (by rw [ef0, ek0, hbs_nI hf0 (by omega)]) ?_
              refine Cs_26 (s := (su 25 (su 24 (su 23 (su 22 (su 21 s (upd (s 21) rr (tlH 0 (bA B 0 len p)))) (upd (s 22) rr (tlH 1 (bA B 0 len (p + 1))))) (upd (s 23) rr (tlH 2 (bA B 0 len (p + 2))))) (upd (s 24) rr (tlH 3 (bA B 0 len (p + 3))))) (upd (s 25) rr (tlH 4 (bA B 0 len (p + 4)))))) (s 26) rfl rr rfl (by omega) dX2_readRow_247 ?_
              refine J_iload_n dX2_readRow_248 rfl rfl ?_
              refine J_iconst (v := nI 5) dX2_readRow_249 (by decide) ?_
              refine J_iaddN dX2_readRow_250 ?_
              exact J_iret dX2_readRow_251 rfl rfl rfl (hq _ (by rw [(rg0 (gH0 kcz1).2 (gH1 kcz2).2 (gH2 kcz3).2 (gH3b kcz7).2 (gH4a kcz8).2).2]))
          · refine J_iload_n dX2_readRow_93 rfl rfl ?_
            refine J_iconst (v := nI 3) dX2_readRow_94 (by decide) ?_
            refine J_iaddN dX2_readRow_95 ?_
            refine J_iconst (v := -1) dX2_readRow_96 (by decide) ?_
            refine J_ixor dX2_readRow_97 ?_
            exact J_iret dX2_readRow_98 rfl rfl rfl (absurd hW (by rw [(rb0_3 (gH0 kcz1).2 (gH1 kcz2).2 (gH2 kcz3).2 (bH3 kcz4 kcz7)).1]; decide))
      · refine J_iload_n dX2_readRow_59 rfl rfl ?_
        refine J_iconst (v := nI 2) dX2_readRow_60 (by decide) ?_
        refine J_iaddN dX2_readRow_61 ?_
        refine J_iconst (v := -1) dX2_readRow_62 (by decide) ?_
        refine J_ixor dX2_readRow_63 ?_
        exact J_iret dX2_readRow_64 rfl rfl rfl (absurd hW (by rw [(rb0_2 (gH0 kcz1).2 (gH1 kcz2).2 (bH2 kcz3)).1]; decide))
    · refine J_iload_n dX2_readRow_39 rfl rfl ?_
      refine J_iconst (v := nI 1) dX2_readRow_40 (by decide) ?_
      refine J_iaddN dX2_readRow_41 ?_
      refine J_iconst (v := -1) dX2_readRow_42 (by decide) ?_
      refine J_ixor dX2_readRow_43 ?_
      exact J_iret dX2_readRow_44 rfl rfl rfl (absurd hW (by rw [(rb0_1 (gH0 kcz1).2 (bH1 kcz2)).1]; decide))
  · refine J_iload_n dX2_readRow_21 rfl rfl ?_
    refine J_iconst (v := -1) dX2_readRow_22 (by decide) ?_
    refine J_ixor dX2_readRow_23 ?_
    exact J_iret dX2_readRow_24 rfl rfl rfl (absurd hW (by rw [(rb0_0  (bH0 kcz1)).1]; decide))
theorem c_X2_readRow_ok {G : GT} (r : Nat → Nat) (s : St) (l : Nat → Int64) (B : Nat → Int32) (len : Nat) (hlen : s 51 0 = nI len) (hl59 : len ≤ 59) (hB : ∀ p, p < len → s 20 p = B (60 * 0 + p)) (p rr : Nat) (hp : p ≤ 70) (hrr : rr < 8) (hW : rW0 B len p = true) : Ct G yX2_readRow cX2_readRow 5 (some .int) 0 0 3 [.ref (r 3), .int (nI p), .int (nI rr)] (cW G r s l) (Is (some (.int (nI (rE0 B len p)))) (cW G r (su 26 (su 25 (su 24 (su 23 (su 22 (su 21 s (upd (s 21) rr (tlH 0 (bA B 0 len p)))) (upd (s 22) rr (tlH 1 (bA B 0 len (p + 1))))) (upd (s 23) rr (tlH 2 (bA B 0 len (p + 2))))) (upd (s 24) rr (tlH 3 (bA B 0 len (p + 3))))) (upd (s 25) rr (tlH 4 (bA B 0 len (p + 4))))) (upd (s 26) rr (nI (hbs (tlH 0 (bA B 0 len p)) (tlH 1 (bA B 0 len (p + 1))))))) l)) := Ct.of rfl (Nat.le_of_ble_eq_true rfl) (j_X2_readRow_ok r s l B len hlen hl59 hB p rr hp hrr hW (fun _ e => by subst e; exact Is.rf _ _))
set_option maxRecDepth 100000 in
set_option maxHeartbeats 1000000 in
theorem j_X2_readRow_bad {G : GT} (r : Nat → Nat) (s : St) (l : Nat → Int64) (B : Nat → Int32) (len : Nat) (hlen : s 51 0 = nI len) (hl59 : len ≤ 59) (hB : ∀ p, p < len → s 20 p = B (60 * 0 + p)) (p rr : Nat) (hp : p ≤ 70) (hrr : rr < 8) (hW : rW0 B len p = false) {Q : Option Value → va_W → Prop} (hq : ∀ v_ : Int32, v_ = nI (rE0 B len p) ^^^ (-1) → Q (some (.int v_)) (cW G r s l)) : J G "readRow" RX2 cX2_readRow 5 (some .int) 0 0 3 Q 0 0 0 [(0, .ref (r 3)), (1, .int (nI p)), (2, .int (nI rr))] [] (cW G r s l) := by
  refine J_iload_n dX2_readRow_0 rfl rfl ?_
  refine J_bipush (v := nI 8) dX2_readRow_1 (by decide) ?_
  refine J_cNi [.int (nI rr), .int (nI 8)] mn_X2_30 (c_X11_isBelowN (cW G r s l) (nI rr) 8) rfl rfl (by decide) (Nat.le_of_ble_eq_true rfl) ⟨Nat.le_refl _, Nat.le_refl _⟩ dX2_readRow_3 ?_
  refine J_if_eqB 21 dX2_readRow_6 (by decide) (fun c => absurd c (by rw [(rng_of hrr (by decide))]; decide)) (fun _ => ?_)
  refine J_aload_n dX2_readRow_9 rfl rfl ?_
  refine J_iload_n dX2_readRow_10 rfl rfl ?_
  refine J_bipush (v := nI 97) dX2_readRow_11 (by decide) ?_
  refine J_bipush (v := nI 120) dX2_readRow_13 (by decide) ?_
  refine J_cUi [.int (nI p), .int (nI 97), .int (nI 120)] 3 mu_X2_34_2 (c_X5_isBetween0 r s l B len hlen hl59 hB p (by omega) (nI 97) (nI 120)) cW_3 rfl rfl (by decide) (Nat.le_of_ble_eq_true rfl) ⟨Nat.le_refl _, Nat.le_refl _⟩ dX2_readRow_15 ?_
  refine J_if_neB 25 dX2_readRow_18 (by decide) (fun kcz1 => ?_) (fun kcz1 => ?_)
  · refine J_aload_n dX2_readRow_25 rfl rfl ?_
    refine J_iload_n dX2_readRow_26 rfl rfl ?_
    refine J_iconst (v := nI 1) dX2_readRow_27 (by decide) ?_
    refine J_iaddN dX2_readRow_28 ?_
    refine J_bipush (v := nI 49) dX2_readRow_29 (by decide) ?_
    refine J_bipush (v := nI 57) dX2_readRow_31 (by decide) ?_
    refine J_cUi [.int (nI (p + 1)), .int (nI 49), .int (nI 57)] 3 mu_X2_34_2 (c_X5_isBetween0 r s l B len hlen hl59 hB (p + 1) (by omega) (nI 49) (nI 57)) cW_3 rfl rfl (by decide) (Nat.le_of_ble_eq_true rfl) ⟨Nat.le_refl _, Nat.le_refl _⟩ dX2_readRow_33 ?_
    refine J_if_neB 45 dX2_readRow_36 (by decide) (fun kcz2 => ?_) (fun kcz2 => ?_)
    · refine J_aload_n dX2_readRow_45 rfl rfl ?_
      refine J_iload_n dX2_readRow_46 rfl rfl ?_
      refine J_iconst (v := nI 2) dX2_readRow_47 (by decide) ?_
      refine J_iaddN dX2_readRow_48 ?_
      refine J_bipush (v := nI 48) dX2_readRow_49 (by decide) ?_
      refine J_bipush (v := nI 57) dX2_readRow_51 (by decide) ?_
      refine J_cUi [.int (nI (p + 2)), .int (nI 48), .int (nI 57)] 3 mu_X2_34_2 (c_X5_isBetween0 r s l B len hlen hl59 hB (p + 2) (by omega) (nI 48) (nI 57)) cW_3 rfl rfl (by decide) (Nat.le_of_ble_eq_true rfl) ⟨Nat.le_refl _, Nat.le_refl _⟩ dX2_readRow_53 ?_
      refine J_if_neB 65 dX2_readRow_56 (by decide) (fun kcz3 => ?_) (fun kcz3 => ?_)
      · refine J_aload_n dX2_readRow_65 rfl rfl ?_
        refine J_iload_n dX2_readRow_66 rfl rfl ?_
        refine J_iconst (v := nI 3) dX2_readRow_67 (by decide) ?_
        refine J_iaddN dX2_readRow_68 ?_
        refine J_bipush (v := nI 48) dX2_readRow_69 (by decide) ?_
        refine J_bipush (v := nI 55) dX2_readRow_71 (by decide) ?_
        refine J_cUi [.int (nI (p + 3)), .int (nI 48), .int (nI 55)] 3 mu_X2_34_2 (c_X5_isBetween0 r s l B len hlen hl59 hB (p + 3) (by omega) (nI 48) (nI 55)) cW_3 rfl rfl (by decide) (Nat.le_of_ble_eq_true rfl) ⟨Nat.le_refl _, Nat.le_refl _⟩ dX2_readRow_73 ?_
        refine J_istore_n [(0, .ref (r 3)), (1, .int (nI p)), (2, .int (nI rr)), (3, .int (bI (inI (bA B 0 len (p + 3)) (nI 48) (nI 55))))] dX2_readRow_76 rfl (by decide) rfl rfl rfl ?_
        refine J_iload_n dX2_readRow_77 rfl rfl ?_
        refine J_if_neB 99 dX2_readRow_78 (by decide) (fun kcz4 => ?_) (fun kcz4 => ?_)
        · refine J_aload_n dX2_readRow_99 rfl rfl ?_
          refine J_iload_n dX2_readRow_100 rfl rfl ?_
          refine J_iconst (v := nI 4) dX2_readRow_101 (by decide) ?_
          refine J_iaddN dX2_readRow_102 ?_
          refine J_cUi [.int (nI (p + 4))] 3 mu_X2_38_2 (c_X5_signAt0 r s l B len hlen hl59 hB (p + 4) (by omega)) cW_3 rfl rfl (by decide) (Nat.le_of_ble_eq_true rfl) ⟨Nat.le_refl _, Nat.le_refl _⟩ dX2_readRow_103 ?_
          refine J_bipush (v := nI 33) dX2_readRow_106 (by decide) ?_
          refine J_icmp_ne 115 dX2_readRow_108 (by decide) (fun kcz5 => ?_) (fun kcz5 => ?_)
          · refine J_iconst (v := nI 0) dX2_readRow_115 (by decide) ?_
            refine J_istore [(0, .ref (r 3)), (1, .int (nI p)), (2, .int (nI rr)), (3, .int (bI (inI (bA B 0 len (p + 3)) (nI 48) (nI 55)))), (4, .int (nI 0))] dX2_readRow_116 (by decide) rfl rfl rfl ?_
            refine J_iload dX2_readRow_118 rfl ?_
            refine J_if_ne 141 dX2_readRow_120 (by decide) (fun c => absurd c (by decide)) (fun _ => ?_)
            refine J_aload_n dX2_readRow_123 rfl rfl ?_
            refine J_iload_n dX2_readRow_124 rfl rfl ?_
            refine J_iconst (v := nI 4) dX2_readRow_125 (by decide) ?_
            refine J_iaddN dX2_readRow_126 ?_
            refine J_cUi [.int (nI (p + 4))] 3 mu_X2_38_2 (c_X5_signAt0 r s l B len hlen hl59 hB (p + 4) (by omega)) cW_3 rfl rfl (by decide) (Nat.le_of_ble_eq_true rfl) ⟨Nat.le_refl _, Nat.le_refl _⟩ dX2_readRow_127 ?_
            refine J_bipush (v := nI 46) dX2_readRow_130 (by decide) ?_
            refine J_icmp_eq 141 dX2_readRow_132 (by decide) (fun kcz6 => ?_) (fun kcz6 => ?_)
            · obtain ⟨f0, hf0, ef0⟩ := gH0n kcz1
              obtain ⟨k0, hk0, ek0⟩ := gH1n kcz2
              refine J_aload_n dX2_readRow_141 rfl rfl ?_
              refine Cg_3_6 fr_X2_9_2 dX2_readRow_142 ?_
              refine J_iload_n dX2_readRow_145 rfl rfl ?_
              refine J_aload_n dX2_readRow_146 rfl rfl ?_
              refine J_iload_n dX2_readRow_147 rfl rfl ?_
              refine J_cUi [.int (nI p)] 3 mu_X2_38_2 (c_X5_signAt0 r s l B len hlen hl59 hB p (by omega)) cW_3 rfl rfl (by decide) (Nat.le_of_ble_eq_true rfl) ⟨Nat.le_refl _, Nat.le_refl _⟩ dX2_readRow_148 ?_
              refine J_bipush (v := nI 97) dX2_readRow_151 (by decide) ?_
              refine J_isub dX2_readRow_153 ?_
              refine J_rw (y := tlH 0 (bA B 0 len p)) (gH0 kcz1).1.symm ?_
              refine Cs_21 (s := s) (s 21) rfl rr rfl (by omega) dX2_readRow_154 ?_
              refine J_aload_n dX2_readRow_155 rfl rfl ?_
              refine Cg_3_7 fr_X2_15_2 dX2_readRow_156 ?_
              refine J_iload_n dX2_readRow_159 rfl rfl ?_
              refine J_aload_n dX2_readRow_160 rfl rfl ?_
              refine J_iload_n dX2_readRow_161 rfl rfl ?_
              refine J_iconst (v := nI 1) dX2_readRow_162 (by decide) ?_
              refine J_iaddN dX2_readRow_163 ?_
              refine J_cUi [.int (nI (p + 1))] 3 mu_X2_38_2 (c_X5_signAt0 r (su 21 s (upd (s 21) rr (tlH 0 (bA B 0 len p)))) l B len hlen hl59 hB (p + 1) (by omega)) cW_3 rfl rfl (by decide) (Nat.le_of_ble_eq_true rfl) ⟨Nat.le_refl _, Nat.le_refl _⟩ dX2_readRow_164 ?_
              refine J_bipush (v := nI 48) dX2_readRow_167 (by decide) ?_
              refine J_isub dX2_readRow_169 ?_
              refine J_rw (y := tlH 1 (bA B 0 len (p + 1))) (gH1 kcz2).1.symm ?_
              refine Cs_22 (s := (su 21 s (upd (s 21) rr (tlH 0 (bA B 0 len p))))) (s 22) rfl rr rfl (by omega) dX2_readRow_170 ?_
              refine J_aload_n dX2_readRow_171 rfl rfl ?_
              refine Cg_3_8 fr_X2_18_2 dX2_readRow_172 ?_
              refine J_iload_n dX2_readRow_175 rfl rfl ?_
              refine J_aload_n dX2_readRow_176 rfl rfl ?_
              refine J_iload_n dX2_readRow_177 rfl rfl ?_
              refine J_iconst (v := nI 2) dX2_readRow_178 (by decide) ?_
              refine J_iaddN dX2_readRow_179 ?_
              refine J_cUi [.int (nI (p + 2))] 3 mu_X2_38_2 (c_X5_signAt0 r (su 22 (su 21 s (upd (s 21) rr (tlH 0 (bA B 0 len p)))) (upd (s 22) rr (tlH 1 (bA B 0 len (p + 1))))) l B len hlen hl59 hB (p + 2) (by omega)) cW_3 rfl rfl (by decide) (Nat.le_of_ble_eq_true rfl) ⟨Nat.le_refl _, Nat.le_refl _⟩ dX2_readRow_180 ?_
              refine J_bipush (v := nI 48) dX2_readRow_183 (by decide) ?_
              refine J_isub dX2_readRow_185 ?_
              refine J_rw (y := tlH 2 (bA B 0 len (p + 2))) (gH2 kcz3).1.symm ?_
              refine Cs_23 (s := (su 22 (su 21 s (upd (s 21) rr (tlH 0 (bA B 0 len p)))) (upd (s 22) rr (tlH 1 (bA B 0 len (p + 1)))))) (s 23) rfl rr rfl (by omega) dX2_readRow_186 ?_
              refine J_aload_n dX2_readRow_187 rfl rfl ?_
              refine Cg_3_9 fr_X2_21_2 dX2_readRow_188 ?_
              refine J_iload_n dX2_readRow_191 rfl rfl ?_
              refine J_iload_n dX2_readRow_192 rfl rfl ?_
              refine J_if_eqB 209 dX2_readRow_193 (by decide) (fun c => absurd c (by rw [kcz4]; decide)) (fun _ => ?_)
              refine J_aload_n dX2_readRow_196 rfl rfl ?_
              refine J_iload_n dX2_readRow_197 rfl rfl ?_
              refine J_iconst (v := nI 3) dX2_readRow_198 (by decide) ?_
              refine J_iaddN dX2_readRow_199 ?_
              refine J_cUi [.int (nI (p + 3))] 3 mu_X2_38_2 (c_X5_signAt0 r (su 23 (su 22 (su 21 s (upd (s 21) rr (tlH 0 (bA B 0 len p)))) (upd (s 22) rr (tlH 1 (bA B 0 len (p + 1))))) (upd (s 23) rr (tlH 2 (bA B 0 len (p + 2))))) l B len hlen hl59 hB (p + 3) (by omega)) cW_3 rfl rfl (by decide) (Nat.le_of_ble_eq_true rfl) ⟨Nat.le_refl _, Nat.le_refl _⟩ dX2_readRow_200 ?_
              refine J_bipush (v := nI 48) dX2_readRow_203 (by decide) ?_
              refine J_isub dX2_readRow_205 ?_
              refine J_goto 210 dX2_readRow_206 (by decide) ?_
              refine J_rw (y := tlH 3 (bA B 0 len (p + 3))) (gH3a kcz4).1.symm ?_
              refine Cs_24 (s := (su 23 (su 22 (su 21 s (upd (s 21) rr (tlH 0 (bA B 0 len p)))) (upd (s 22) rr (tlH 1 (bA B 0 len (p + 1))))) (upd (s 23) rr (tlH 2 (bA B 0 len (p + 2)))))) (s 24) rfl rr rfl (by omega) dX2_readRow_210 ?_
              refine J_aload_n dX2_readRow_211 rfl rfl ?_
              refine Cg_3_10 fr_X2_24_2 dX2_readRow_212 ?_
              refine J_iload_n dX2_readRow_215 rfl rfl ?_
              refine J_iload dX2_readRow_216 rfl ?_
              refine J_if_eq 225 dX2_readRow_218 (by decide) (fun _ => ?_) (fun c => absurd c (by decide))
              refine J_iconst (v := nI 0) dX2_readRow_225 (by decide) ?_
              refine J_rw (y := tlH 4 (bA B 0 len (p + 4))) (gH4b kcz6).1.symm ?_
              refine Cs_25 (s := (su 24 (su 23 (su 22 (su 21 s (upd (s 21) rr (tlH 0 (bA B 0 len p)))) (upd (s 22) rr (tlH 1 (bA B 0 len (p + 1))))) (upd (s 23) rr (tlH 2 (bA B 0 len (p + 2))))) (upd (s 24) rr (tlH 3 (bA B 0 len (p + 3)))))) (s 25) rfl rr rfl (by omega) dX2_readRow_226 ?_
              refine J_aload_n dX2_readRow_227 rfl rfl ?_
              refine Cg_3_11 fr_X2_27_2 dX2_readRow_228 ?_
              refine J_iload_n dX2_readRow_231 rfl rfl ?_
              refine J_aload_n dX2_readRow_232 rfl rfl ?_
              refine Cg_3_6 fr_X2_9_2 dX2_readRow_233 ?_
              refine J_iload_n dX2_readRow_236 rfl rfl ?_
              refine Cl_21 (s := (su 25 (su 24 (su 23 (su 22 (su 21 s (upd (s 21) rr (tlH 0 (bA B 0 len p)))) (upd (s 22) rr (tlH 1 (bA B 0 len (p + 1))))) (upd (s 23) rr (tlH 2 (bA B 0 len (p + 2))))) (upd (s 24) rr (tlH 3 (bA B 0 len (p + 3))))) (upd (s 25) rr (tlH 4 (bA B 0 len (p + 4)))))) (upd (s 21) rr (tlH 0 (bA B 0 len p))) rfl rr rfl (by omega) dX2_readRow_237 ?_
              refine J_rw (y := nI f0) (pk_us.trans ef0) ?_
              refine J_aload_n dX2_readRow_238 rfl rfl ?_
              refine Cg_3_7 fr_X2_15_2 dX2_readRow_239 ?_
              refine J_iload_n dX2_readRow_242 rfl rfl ?_
              refine Cl_22 (s := (su 25 (su 24 (su 23 (su 22 (su 21 s (upd (s 21) rr (tlH 0 (bA B 0 len p)))) (upd (s 22) rr (tlH 1 (bA B 0 len (p + 1))))) (upd (s 23) rr (tlH 2 (bA B 0 len (p + 2))))) (upd (s 24) rr (tlH 3 (bA B 0 len (p + 3))))) (upd (s 25) rr (tlH 4 (bA B 0 len (p + 4)))))) (upd (s 22) rr (tlH 1 (bA B 0 len (p + 1)))) rfl rr rfl (by omega) dX2_readRow_243 ?_
              refine J_rw (y := nI k0) (pk_us.trans ek0) ?_
              refine J_cSi [.int (nI f0), .int (nI k0)] ms_X2_42 (c_X2_bitsOfHours (cW G r (su 25 (su 24 (su 23 (su 22 (su 21 s (upd (s 21) rr (tlH 0 (bA B 0 len p)))) (upd (s 22) rr (tlH 1 (bA B 0 len (p + 1))))) (upd (s 23) rr (tlH 2 (bA B 0 len (p + 2))))) (upd (s 24) rr (tlH 3 (bA B 0 len (p + 3))))) (upd (s 25) rr (tlH 4 (bA B 0 len (p + 4))))) l) f0 k0 (by omega) (by omega)) rfl rfl (by decide) (Nat.le_of_ble_eq_true rfl) ⟨Nat.le_refl _, Nat.le_refl _⟩ dX2_readRow_244 ?_
              refine J_rw (y := nI (hbs (tlH 0 (bA B 0 len p)) (tlH 1 (bA B 0 len (p + 1))))) (by rw [ef0, ek0, hbs_nI hf0 (by omega)]) ?_
              refine Cs_26 (s := (su 25 (su 24 (su 23 (su 22 (su 21 s (upd (s 21) rr (tlH 0 (bA B 0 len p)))) (upd (s 22) rr (tlH 1 (bA B 0 len (p + 1))))) (upd (s 23) rr (tlH 2 (bA B 0 len (p + 2))))) (upd (s 24) rr (tlH 3 (bA B 0 len (p + 3))))) (upd (s 25) rr (tlH 4 (bA B 0 len (p + 4)))))) (s 26) rfl rr rfl (by omega) dX2_readRow_247 ?_
              refine J_iload_n dX2_readRow_248 rfl rfl ?_
              refine J_iconst (v := nI 5) dX2_readRow_249 (by decide) ?_
              refine J_iaddN dX2_readRow_250 ?_
              exact J_iret dX2_readRow_251 rfl rfl rfl (absurd hW (by rw [(rg0 (gH0 kcz1).2 (gH1 kcz2).2 (gH2 kcz3).2 (gH3a kcz4).2 (gH4b kcz6).2).1]; decide))
            · refine J_iload_n dX2_readRow_135 rfl rfl ?_
              refine J_iconst (v := nI 4) dX2_readRow_136 (by decide) ?_
              refine J_iaddN dX2_readRow_137 ?_
              refine J_iconst (v := -1) dX2_readRow_138 (by decide) ?_
              refine J_ixor dX2_readRow_139 ?_
              exact J_iret dX2_readRow_140 rfl rfl rfl (hq _ (by rw [(rb0_4 (gH0 kcz1).2 (gH1 kcz2).2 (gH2 kcz3).2 (gH3a kcz4).2 (bH4 kcz5 kcz6)).2]))
          · refine J_iconst (v := nI 1) dX2_readRow_111 (by decide) ?_
            refine J_goto 116 dX2_readRow_112 (by decide) ?_
            refine J_istore [(0, .ref (r 3)), (1, .int (nI p)), (2, .int (nI rr)), (3, .int (bI (inI (bA B 0 len (p + 3)) (nI 48) (nI 55)))), (4, .int (nI 1))] dX2_readRow_116 (by decide) rfl rfl rfl ?_
            refine J_iload dX2_readRow_118 rfl ?_
            refine J_if_ne 141 dX2_readRow_120 (by decide) (fun _ => ?_) (fun c => absurd c (by decide))
            obtain ⟨f0, hf0, ef0⟩ := gH0n kcz1
            obtain ⟨k0, hk0, ek0⟩ := gH1n kcz2
            refine J_aload_n dX2_readRow_141 rfl rfl ?_
            refine Cg_3_6 fr_X2_9_2 dX2_readRow_142 ?_
            refine J_iload_n dX2_readRow_145 rfl rfl ?_
            refine J_aload_n dX2_readRow_146 rfl rfl ?_
            refine J_iload_n dX2_readRow_147 rfl rfl ?_
            refine J_cUi [.int (nI p)] 3 mu_X2_38_2 (c_X5_signAt0 r s l B len hlen hl59 hB p (by omega)) cW_3 rfl rfl (by decide) (Nat.le_of_ble_eq_true rfl) ⟨Nat.le_refl _, Nat.le_refl _⟩ dX2_readRow_148 ?_
            refine J_bipush (v := nI 97) dX2_readRow_151 (by decide) ?_
            refine J_isub dX2_readRow_153 ?_
            refine J_rw (y := tlH 0 (bA B 0 len p)) (gH0 kcz1).1.symm ?_
            refine Cs_21 (s := s) (s 21) rfl rr rfl (by omega) dX2_readRow_154 ?_
            refine J_aload_n dX2_readRow_155 rfl rfl ?_
            refine Cg_3_7 fr_X2_15_2 dX2_readRow_156 ?_
            refine J_iload_n dX2_readRow_159 rfl rfl ?_
            refine J_aload_n dX2_readRow_160 rfl rfl ?_
            refine J_iload_n dX2_readRow_161 rfl rfl ?_
            refine J_iconst (v := nI 1) dX2_readRow_162 (by decide) ?_
            refine J_iaddN dX2_readRow_163 ?_
            refine J_cUi [.int (nI (p + 1))] 3 mu_X2_38_2 (c_X5_signAt0 r (su 21 s (upd (s 21) rr (tlH 0 (bA B 0 len p)))) l B len hlen hl59 hB (p + 1) (by omega)) cW_3 rfl rfl (by decide) (Nat.le_of_ble_eq_true rfl) ⟨Nat.le_refl _, Nat.le_refl _⟩ dX2_readRow_164 ?_
            refine J_bipush (v := nI 48) dX2_readRow_167 (by decide) ?_
            refine J_isub dX2_readRow_169 ?_
            refine J_rw (y := tlH 1 (bA B 0 len (p + 1))) (gH1 kcz2).1.symm ?_
            refine Cs_22 (s := (su 21 s (upd (s 21) rr (tlH 0 (bA B 0 len p))))) (s 22) rfl rr rfl (by omega) dX2_readRow_170 ?_
            refine J_aload_n dX2_readRow_171 rfl rfl ?_
            refine Cg_3_8 fr_X2_18_2 dX2_readRow_172 ?_
            refine J_iload_n dX2_readRow_175 rfl rfl ?_
            refine J_aload_n dX2_readRow_176 rfl rfl ?_
            refine J_iload_n dX2_readRow_177 rfl rfl ?_
            refine J_iconst (v := nI 2) dX2_readRow_178 (by decide) ?_
            refine J_iaddN dX2_readRow_179 ?_
            refine J_cUi [.int (nI (p + 2))] 3 mu_X2_38_2 (c_X5_signAt0 r (su 22 (su 21 s (upd (s 21) rr (tlH 0 (bA B 0 len p)))) (upd (s 22) rr (tlH 1 (bA B 0 len (p + 1))))) l B len hlen hl59 hB (p + 2) (by omega)) cW_3 rfl rfl (by decide) (Nat.le_of_ble_eq_true rfl) ⟨Nat.le_refl _, Nat.le_refl _⟩ dX2_readRow_180 ?_
            refine J_bipush (v := nI 48) dX2_readRow_183 (by decide) ?_
            refine J_isub dX2_readRow_185 ?_
            refine J_rw (y := tlH 2 (bA B 0 len (p + 2))) (gH2 kcz3).1.symm ?_
            refine Cs_23 (s := (su 22 (su 21 s (upd (s 21) rr (tlH 0 (bA B 0 len p)))) (upd (s 22) rr (tlH 1 (bA B 0 len (p + 1)))))) (s 23) rfl rr rfl (by omega) dX2_readRow_186 ?_
            refine J_aload_n dX2_readRow_187 rfl rfl ?_
            refine Cg_3_9 fr_X2_21_2 dX2_readRow_188 ?_
            refine J_iload_n dX2_readRow_191 rfl rfl ?_
            refine J_iload_n dX2_readRow_192 rfl rfl ?_
            refine J_if_eqB 209 dX2_readRow_193 (by decide) (fun c => absurd c (by rw [kcz4]; decide)) (fun _ => ?_)
            refine J_aload_n dX2_readRow_196 rfl rfl ?_
            refine J_iload_n dX2_readRow_197 rfl rfl ?_
            refine J_iconst (v := nI 3) dX2_readRow_198 (by decide) ?_
            refine J_iaddN dX2_readRow_199 ?_
            refine J_cUi [.int (nI (p + 3))] 3 mu_X2_38_2 (c_X5_signAt0 r (su 23 (su 22 (su 21 s (upd (s 21) rr (tlH 0 (bA B 0 len p)))) (upd (s 22) rr (tlH 1 (bA B 0 len (p + 1))))) (upd (s 23) rr (tlH 2 (bA B 0 len (p + 2))))) l B len hlen hl59 hB (p + 3) (by omega)) cW_3 rfl rfl (by decide) (Nat.le_of_ble_eq_true rfl) ⟨Nat.le_refl _, Nat.le_refl _⟩ dX2_readRow_200 ?_
            refine J_bipush (v := nI 48) dX2_readRow_203 (by decide) ?_
            refine J_isub dX2_readRow_205 ?_
            refine J_goto 210 dX2_readRow_206 (by decide) ?_
            refine J_rw (y := tlH 3 (bA B 0 len (p + 3))) (gH3a kcz4).1.symm ?_
            refine Cs_24 (s := (su 23 (su 22 (su 21 s (upd (s 21) rr (tlH 0 (bA B 0 len p)))) (upd (s 22) rr (tlH 1 (bA B 0 len (p + 1))))) (upd (s 23) rr (tlH 2 (bA B 0 len (p + 2)))))) (s 24) rfl rr rfl (by omega) dX2_readRow_210 ?_
            refine J_aload_n dX2_readRow_211 rfl rfl ?_
            refine Cg_3_10 fr_X2_24_2 dX2_readRow_212 ?_
            refine J_iload_n dX2_readRow_215 rfl rfl ?_
            refine J_iload dX2_readRow_216 rfl ?_
            refine J_if_eq 225 dX2_readRow_218 (by decide) (fun c => absurd c (by decide)) (fun _ => ?_)
            refine J_iconst (v := nI 1) dX2_readRow_221 (by decide) ?_
            refine J_goto 226 dX2_readRow_222 (by decide) ?_
            refine J_rw (y := tlH 4 (bA B 0 len (p + 4))) (gH4a kcz5).1.symm ?_
            refine Cs_25 (s := (su 24 (su 23 (su 22 (su 21 s (upd (s 21) rr (tlH 0 (bA B 0 len p)))) (upd (s 22) rr (tlH 1 (bA B 0 len (p + 1))))) (upd (s 23) rr (tlH 2 (bA B 0 len (p + 2))))) (upd (s 24) rr (tlH 3 (bA B 0 len (p + 3)))))) (s 25) rfl rr rfl (by omega) dX2_readRow_226 ?_
            refine J_aload_n dX2_readRow_227 rfl rfl ?_
            refine Cg_3_11 fr_X2_27_2 dX2_readRow_228 ?_
            refine J_iload_n dX2_readRow_231 rfl rfl ?_
            refine J_aload_n dX2_readRow_232 rfl rfl ?_
            refine Cg_3_6 fr_X2_9_2 dX2_readRow_233 ?_
            refine J_iload_n dX2_readRow_236 rfl rfl ?_
            refine Cl_21 (s := (su 25 (su 24 (su 23 (su 22 (su 21 s (upd (s 21) rr (tlH 0 (bA B 0 len p)))) (upd (s 22) rr (tlH 1 (bA B 0 len (p + 1))))) (upd (s 23) rr (tlH 2 (bA B 0 len (p + 2))))) (upd (s 24) rr (tlH 3 (bA B 0 len (p + 3))))) (upd (s 25) rr (tlH 4 (bA B 0 len (p + 4)))))) (upd (s 21) rr (tlH 0 (bA B 0 len p))) rfl rr rfl (by omega) dX2_readRow_237 ?_
            refine J_rw (y := nI f0) (pk_us.trans ef0) ?_
            refine J_aload_n dX2_readRow_238 rfl rfl ?_
            refine Cg_3_7 fr_X2_15_2 dX2_readRow_239 ?_
            refine J_iload_n dX2_readRow_242 rfl rfl ?_
            refine Cl_22 (s := (su 25 (su 24 (su 23 (su 22 (su 21 s (upd (s 21) rr (tlH 0 (bA B 0 len p)))) (upd (s 22) rr (tlH 1 (bA B 0 len (p + 1))))) (upd (s 23) rr (tlH 2 (bA B 0 len (p + 2))))) (upd (s 24) rr (tlH 3 (bA B 0 len (p + 3))))) (upd (s 25) rr (tlH 4 (bA B 0 len (p + 4)))))) (upd (s 22) rr (tlH 1 (bA B 0 len (p + 1)))) rfl rr rfl (by omega) dX2_readRow_243 ?_
            refine J_rw (y := nI k0) (pk_us.trans ek0) ?_
            refine J_cSi [.int (nI f0), .int (nI k0)] ms_X2_42 (c_X2_bitsOfHours (cW G r (su 25 (su 24 (su 23 (su 22 (su 21 s (upd (s 21) rr (tlH 0 (bA B 0 len p)))) (upd (s 22) rr (tlH 1 (bA B 0 len (p + 1))))) (upd (s 23) rr (tlH 2 (bA B 0 len (p + 2))))) (upd (s 24) rr (tlH 3 (bA B 0 len (p + 3))))) (upd (s 25) rr (tlH 4 (bA B 0 len (p + 4))))) l) f0 k0 (by omega) (by omega)) rfl rfl (by decide) (Nat.le_of_ble_eq_true rfl) ⟨Nat.le_refl _, Nat.le_refl _⟩ dX2_readRow_244 ?_
            refine J_rw (y := nI (hbs (tlH 0 (bA B 0 len p)) (tlH 1 (bA B 0 len (p + 1))))) (by rw [ef0, ek0, hbs_nI hf0 (by omega)]) ?_
            refine Cs_26 (s := (su 25 (su 24 (su 23 (su 22 (su 21 s (upd (s 21) rr (tlH 0 (bA B 0 len p)))) (upd (s 22) rr (tlH 1 (bA B 0 len (p + 1))))) (upd (s 23) rr (tlH 2 (bA B 0 len (p + 2))))) (upd (s 24) rr (tlH 3 (bA B 0 len (p + 3))))) (upd (s 25) rr (tlH 4 (bA B 0 len (p + 4)))))) (s 26) rfl rr rfl (by omega) dX2_readRow_247 ?_
            refine J_iload_n dX2_readRow_248 rfl rfl ?_
            refine J_iconst (v := nI 5) dX2_readRow_249 (by decide) ?_
            refine J_iaddN dX2_readRow_250 ?_
            exact J_iret dX2_readRow_251 rfl rfl rfl (absurd hW (by rw [(rg0 (gH0 kcz1).2 (gH1 kcz2).2 (gH2 kcz3).2 (gH3a kcz4).2 (gH4a kcz5).2).1]; decide))
        · refine J_aload_n dX2_readRow_81 rfl rfl ?_
          refine J_iload_n dX2_readRow_82 rfl rfl ?_
          refine J_iconst (v := nI 3) dX2_readRow_83 (by decide) ?_
          refine J_iaddN dX2_readRow_84 ?_
          refine J_cUi [.int (nI (p + 3))] 3 mu_X2_38_2 (c_X5_signAt0 r s l B len hlen hl59 hB (p + 3) (by omega)) cW_3 rfl rfl (by decide) (Nat.le_of_ble_eq_true rfl) ⟨Nat.le_refl _, Nat.le_refl _⟩ dX2_readRow_85 ?_
          refine J_bipush (v := nI 46) dX2_readRow_88 (by decide) ?_
          refine J_icmp_eq 99 dX2_readRow_90 (by decide) (fun kcz7 => ?_) (fun kcz7 => ?_)
          · refine J_aload_n dX2_readRow_99 rfl rfl ?_
            refine J_iload_n dX2_readRow_100 rfl rfl ?_
            refine J_iconst (v := nI 4) dX2_readRow_101 (by decide) ?_
            refine J_iaddN dX2_readRow_102 ?_
            refine J_cUi [.int (nI (p + 4))] 3 mu_X2_38_2 (c_X5_signAt0 r s l B len hlen hl59 hB (p + 4) (by omega)) cW_3 rfl rfl (by decide) (Nat.le_of_ble_eq_true rfl) ⟨Nat.le_refl _, Nat.le_refl _⟩ dX2_readRow_103 ?_
            refine J_bipush (v := nI 33) dX2_readRow_106 (by decide) ?_
            refine J_icmp_ne 115 dX2_readRow_108 (by decide) (fun kcz8 => ?_) (fun kcz8 => ?_)
            · refine J_iconst (v := nI 0) dX2_readRow_115 (by decide) ?_
              refine J_istore [(0, .ref (r 3)), (1, .int (nI p)), (2, .int (nI rr)), (3, .int (bI (inI (bA B 0 len (p + 3)) (nI 48) (nI 55)))), (4, .int (nI 0))] dX2_readRow_116 (by decide) rfl rfl rfl ?_
              refine J_iload dX2_readRow_118 rfl ?_
              refine J_if_ne 141 dX2_readRow_120 (by decide) (fun c => absurd c (by decide)) (fun _ => ?_)
              refine J_aload_n dX2_readRow_123 rfl rfl ?_
              refine J_iload_n dX2_readRow_124 rfl rfl ?_
              refine J_iconst (v := nI 4) dX2_readRow_125 (by decide) ?_
              refine J_iaddN dX2_readRow_126 ?_
              refine J_cUi [.int (nI (p + 4))] 3 mu_X2_38_2 (c_X5_signAt0 r s l B len hlen hl59 hB (p + 4) (by omega)) cW_3 rfl rfl (by decide) (Nat.le_of_ble_eq_true rfl) ⟨Nat.le_refl _, Nat.le_refl _⟩ dX2_readRow_127 ?_
              refine J_bipush (v := nI 46) dX2_readRow_130 (by decide) ?_
              refine J_icmp_eq 141 dX2_readRow_132 (by decide) (fun kcz9 => ?_) (fun kcz9 => ?_)
              · obtain ⟨f0, hf0, ef0⟩ := gH0n kcz1
                obtain ⟨k0, hk0, ek0⟩ := gH1n kcz2
                refine J_aload_n dX2_readRow_141 rfl rfl ?_
                refine Cg_3_6 fr_X2_9_2 dX2_readRow_142 ?_
                refine J_iload_n dX2_readRow_145 rfl rfl ?_
                refine J_aload_n dX2_readRow_146 rfl rfl ?_
                refine J_iload_n dX2_readRow_147 rfl rfl ?_
                refine J_cUi [.int (nI p)] 3 mu_X2_38_2 (c_X5_signAt0 r s l B len hlen hl59 hB p (by omega)) cW_3 rfl rfl (by decide) (Nat.le_of_ble_eq_true rfl) ⟨Nat.le_refl _, Nat.le_refl _⟩ dX2_readRow_148 ?_
                refine J_bipush (v := nI 97) dX2_readRow_151 (by decide) ?_
                refine J_isub dX2_readRow_153 ?_
                refine J_rw (y := tlH 0 (bA B 0 len p)) (gH0 kcz1).1.symm ?_
                refine Cs_21 (s := s) (s 21) rfl rr rfl (by omega) dX2_readRow_154 ?_
                refine J_aload_n dX2_readRow_155 rfl rfl ?_
                refine Cg_3_7 fr_X2_15_2 dX2_readRow_156 ?_
                refine J_iload_n dX2_readRow_159 rfl rfl ?_
                refine J_aload_n dX2_readRow_160 rfl rfl ?_
                refine J_iload_n dX2_readRow_161 rfl rfl ?_
                refine J_iconst (v := nI 1) dX2_readRow_162 (by decide) ?_
                refine J_iaddN dX2_readRow_163 ?_
                refine J_cUi [.int (nI (p + 1))] 3 mu_X2_38_2 (c_X5_signAt0 r (su 21 s (upd (s 21) rr (tlH 0 (bA B 0 len p)))) l B len hlen hl59 hB (p + 1) (by omega)) cW_3 rfl rfl (by decide) (Nat.le_of_ble_eq_true rfl) ⟨Nat.le_refl _, Nat.le_refl _⟩ dX2_readRow_164 ?_
                refine J_bipush (v := nI 48) dX2_readRow_167 (by decide) ?_
                refine J_isub dX2_readRow_169 ?_
                refine J_rw (y := tlH 1 (bA B 0 len (p + 1))) (gH1 kcz2).1.symm ?_
                refine Cs_22 (s := (su 21 s (upd (s 21) rr (tlH 0 (bA B 0 len p))))) (s 22) rfl rr rfl (by omega) dX2_readRow_170 ?_
                refine J_aload_n dX2_readRow_171 rfl rfl ?_
                refine Cg_3_8 fr_X2_18_2 dX2_readRow_172 ?_
                refine J_iload_n dX2_readRow_175 rfl rfl ?_
                refine J_aload_n dX2_readRow_176 rfl rfl ?_
                refine J_iload_n dX2_readRow_177 rfl rfl ?_
                refine J_iconst (v := nI 2) dX2_readRow_178 (by decide) ?_
                refine J_iaddN dX2_readRow_179 ?_
                refine J_cUi [.int (nI (p + 2))] 3 mu_X2_38_2 (c_X5_signAt0 r (su 22 (su 21 s (upd (s 21) rr (tlH 0 (bA B 0 len p)))) (upd (s 22) rr (tlH 1 (bA B 0 len (p + 1))))) l B len hlen hl59 hB (p + 2) (by omega)) cW_3 rfl rfl (by decide) (Nat.le_of_ble_eq_true rfl) ⟨Nat.le_refl _, Nat.le_refl _⟩ dX2_readRow_180 ?_
                refine J_bipush (v := nI 48) dX2_readRow_183 (by decide) ?_
                refine J_isub dX2_readRow_185 ?_
                refine J_rw (y := tlH 2 (bA B 0 len (p + 2))) (gH2 kcz3).1.symm ?_
                refine Cs_23 (s := (su 22 (su 21 s (upd (s 21) rr (tlH 0 (bA B 0 len p)))) (upd (s 22) rr (tlH 1 (bA B 0 len (p + 1)))))) (s 23) rfl rr rfl (by omega) dX2_readRow_186 ?_
                refine J_aload_n dX2_readRow_187 rfl rfl ?_
                refine Cg_3_9 fr_X2_21_2 dX2_readRow_188 ?_
                refine J_iload_n dX2_readRow_191 rfl rfl ?_
                refine J_iload_n dX2_readRow_192 rfl rfl ?_
                refine J_if_eqB 209 dX2_readRow_193 (by decide) (fun _ => ?_) (fun c => absurd c (by rw [kcz4]; decide))
                refine J_iconst (v := -1) dX2_readRow_209 (by decide) ?_
                refine J_rw (y := tlH 3 (bA B 0 len (p + 3))) (gH3b kcz7).1.symm ?_
                refine Cs_24 (s := (su 23 (su 22 (su 21 s (upd (s 21) rr (tlH 0 (bA B 0 len p)))) (upd (s 22) rr (tlH 1 (bA B 0 len (p + 1))))) (upd (s 23) rr (tlH 2 (bA B 0 len (p + 2)))))) (s 24) rfl rr rfl (by omega) dX2_readRow_210 ?_
                refine J_aload_n dX2_readRow_211 rfl rfl ?_
                refine Cg_3_10 fr_X2_24_2 dX2_readRow_212 ?_
                refine J_iload_n dX2_readRow_215 rfl rfl ?_
                refine J_iload dX2_readRow_216 rfl ?_
                refine J_if_eq 225 dX2_readRow_218 (by decide) (fun _ => ?_) (fun c => absurd c (by decide))
                refine J_iconst (v := nI 0) dX2_readRow_225 (by decide) ?_
                refine J_rw (y := tlH 4 (bA B 0 len (p + 4))) (gH4b kcz9).1.symm ?_
                refine Cs_25 (s := (su 24 (su 23 (su 22 (su 21 s (upd (s 21) rr (tlH 0 (bA B 0 len p)))) (upd (s 22) rr (tlH 1 (bA B 0 len (p + 1))))) (upd (s 23) rr (tlH 2 (bA B 0 len (p + 2))))) (upd (s 24) rr (tlH 3 (bA B 0 len (p + 3)))))) (s 25) rfl rr rfl (by omega) dX2_readRow_226 ?_
                refine J_aload_n dX2_readRow_227 rfl rfl ?_
                refine Cg_3_11 fr_X2_27_2 dX2_readRow_228 ?_
                refine J_iload_n dX2_readRow_231 rfl rfl ?_
                refine J_aload_n dX2_readRow_232 rfl rfl ?_
                refine Cg_3_6 fr_X2_9_2 dX2_readRow_233 ?_
                refine J_iload_n dX2_readRow_236 rfl rfl ?_
                refine Cl_21 (s := (su 25 (su 24 (su 23 (su 22 (su 21 s (upd (s 21) rr (tlH 0 (bA B 0 len p)))) (upd (s 22) rr (tlH 1 (bA B 0 len (p + 1))))) (upd (s 23) rr (tlH 2 (bA B 0 len (p + 2))))) (upd (s 24) rr (tlH 3 (bA B 0 len (p + 3))))) (upd (s 25) rr (tlH 4 (bA B 0 len (p + 4)))))) (upd (s 21) rr (tlH 0 (bA B 0 len p))) rfl rr rfl (by omega) dX2_readRow_237 ?_
                refine J_rw (y := nI f0) (pk_us.trans ef0) ?_
                refine J_aload_n dX2_readRow_238 rfl rfl ?_
                refine Cg_3_7 fr_X2_15_2 dX2_readRow_239 ?_
                refine J_iload_n dX2_readRow_242 rfl rfl ?_
                refine Cl_22 (s := (su 25 (su 24 (su 23 (su 22 (su 21 s (upd (s 21) rr (tlH 0 (bA B 0 len p)))) (upd (s 22) rr (tlH 1 (bA B 0 len (p + 1))))) (upd (s 23) rr (tlH 2 (bA B 0 len (p + 2))))) (upd (s 24) rr (tlH 3 (bA B 0 len (p + 3))))) (upd (s 25) rr (tlH 4 (bA B 0 len (p + 4)))))) (upd (s 22) rr (tlH 1 (bA B 0 len (p + 1)))) rfl rr rfl (by omega) dX2_readRow_243 ?_
                refine J_rw (y := nI k0) (pk_us.trans ek0) ?_
                refine J_cSi [.int (nI f0), .int (nI k0)] ms_X2_42 (c_X2_bitsOfHours (cW G r (su 25 (su 24 (su 23 (su 22 (su 21 s (upd (s 21) rr (tlH 0 (bA B 0 len p)))) (upd (s 22) rr (tlH 1 (bA B 0 len (p + 1))))) (upd (s 23) rr (tlH 2 (bA B 0 len (p + 2))))) (upd (s 24) rr (tlH 3 (bA B 0 len (p + 3))))) (upd (s 25) rr (tlH 4 (bA B 0 len (p + 4))))) l) f0 k0 (by omega) (by omega)) rfl rfl (by decide) (Nat.le_of_ble_eq_true rfl) ⟨Nat.le_refl _, Nat.le_refl _⟩ dX2_readRow_244 ?_
                refine J_rw (y := nI (hbs (tlH 0 (bA B 0 len p)) (tlH 1 (bA B 0 len (p + 1))))) (by rw [ef0, ek0, hbs_nI hf0 (by omega)]) ?_
                refine Cs_26 (s := (su 25 (su 24 (su 23 (su 22 (su 21 s (upd (s 21) rr (tlH 0 (bA B 0 len p)))) (upd (s 22) rr (tlH 1 (bA B 0 len (p + 1))))) (upd (s 23) rr (tlH 2 (bA B 0 len (p + 2))))) (upd (s 24) rr (tlH 3 (bA B 0 len (p + 3))))) (upd (s 25) rr (tlH 4 (bA B 0 len (p + 4)))))) (s 26) rfl rr rfl (by omega) dX2_readRow_247 ?_
                refine J_iload_n dX2_readRow_248 rfl rfl ?_
                refine J_iconst (v := nI 5) dX2_readRow_249 (by decide) ?_
                refine J_iaddN dX2_readRow_250 ?_
                exact J_iret dX2_readRow_251 rfl rfl rfl (absurd hW (by rw [(rg0 (gH0 kcz1).2 (gH1 kcz2).2 (gH2 kcz3).2 (gH3b kcz7).2 (gH4b kcz9).2).1]; decide))
              · refine J_iload_n dX2_readRow_135 rfl rfl ?_
                refine J_iconst (v := nI 4) dX2_readRow_136 (by decide) ?_
                refine J_iaddN dX2_readRow_137 ?_
                refine J_iconst (v := -1) dX2_readRow_138 (by decide) ?_
                refine J_ixor dX2_readRow_139 ?_
                exact J_iret dX2_readRow_140 rfl rfl rfl (hq _ (by rw [(rb0_4 (gH0 kcz1).2 (gH1 kcz2).2 (gH2 kcz3).2 (gH3b kcz7).2 (bH4 kcz8 kcz9)).2]))
            · refine J_iconst (v := nI 1) dX2_readRow_111 (by decide) ?_
              refine J_goto 116 dX2_readRow_112 (by decide) ?_
              refine J_istore [(0, .ref (r 3)), (1, .int (nI p)), (2, .int (nI rr)), (3, .int (bI (inI (bA B 0 len (p + 3)) (nI 48) (nI 55)))), (4, .int (nI 1))] dX2_readRow_116 (by decide) rfl rfl rfl ?_
              refine J_iload dX2_readRow_118 rfl ?_
              refine J_if_ne 141 dX2_readRow_120 (by decide) (fun _ => ?_) (fun c => absurd c (by decide))
              obtain ⟨f0, hf0, ef0⟩ := gH0n kcz1
              obtain ⟨k0, hk0, ek0⟩ := gH1n kcz2
              refine J_aload_n dX2_readRow_141 rfl rfl ?_
              refine Cg_3_6 fr_X2_9_2 dX2_readRow_142 ?_
              refine J_iload_n dX2_readRow_145 rfl rfl ?_
              refine J_aload_n dX2_readRow_146 rfl rfl ?_
              refine J_iload_n dX2_readRow_147 rfl rfl ?_
              refine J_cUi [.int (nI p)] 3 mu_X2_38_2 (c_X5_signAt0 r s l B len hlen hl59 hB p (by omega)) cW_3 rfl rfl (by decide) (Nat.le_of_ble_eq_true rfl) ⟨Nat.le_refl _, Nat.le_refl _⟩ dX2_readRow_148 ?_
              refine J_bipush (v := nI 97) dX2_readRow_151 (by decide) ?_
              refine J_isub dX2_readRow_153 ?_
              refine J_rw (y := tlH 0 (bA B 0 len p)) (gH0 kcz1).1.symm ?_
              refine Cs_21 (s := s) (s 21) rfl rr rfl (by omega) dX2_readRow_154 ?_
              refine J_aload_n dX2_readRow_155 rfl rfl ?_
              refine Cg_3_7 fr_X2_15_2 dX2_readRow_156 ?_
              refine J_iload_n dX2_readRow_159 rfl rfl ?_
              refine J_aload_n dX2_readRow_160 rfl rfl ?_
              refine J_iload_n dX2_readRow_161 rfl rfl ?_
              refine J_iconst (v := nI 1) dX2_readRow_162 (by decide) ?_
              refine J_iaddN dX2_readRow_163 ?_
              refine J_cUi [.int (nI (p + 1))] 3 mu_X2_38_2 (c_X5_signAt0 r (su 21 s (upd (s 21) rr (tlH 0 (bA B 0 len p)))) l B len hlen hl59 hB (p + 1) (by omega)) cW_3 rfl rfl (by decide) (Nat.le_of_ble_eq_true rfl) ⟨Nat.le_refl _, Nat.le_refl _⟩ dX2_readRow_164 ?_
              refine J_bipush (v := nI 48) dX2_readRow_167 (by decide) ?_
              refine J_isub dX2_readRow_169 ?_
              refine J_rw (y := tlH 1 (bA B 0 len (p + 1))) (gH1 kcz2).1.symm ?_
              refine Cs_22 (s := (su 21 s (upd (s 21) rr (tlH 0 (bA B 0 len p))))) (s 22) rfl rr rfl (by omega) dX2_readRow_170 ?_
              refine J_aload_n dX2_readRow_171 rfl rfl ?_
              refine Cg_3_8 fr_X2_18_2 dX2_readRow_172 ?_
              refine J_iload_n dX2_readRow_175 rfl rfl ?_
              refine J_aload_n dX2_readRow_176 rfl rfl ?_
              refine J_iload_n dX2_readRow_177 rfl rfl ?_
              refine J_iconst (v := nI 2) dX2_readRow_178 (by decide) ?_
              refine J_iaddN dX2_readRow_179 ?_
              refine J_cUi [.int (nI (p + 2))] 3 mu_X2_38_2 (c_X5_signAt0 r (su 22 (su 21 s (upd (s 21) rr (tlH 0 (bA B 0 len p)))) (upd (s 22) rr (tlH 1 (bA B 0 len (p + 1))))) l B len hlen hl59 hB (p + 2) (by omega)) cW_3 rfl rfl (by decide) (Nat.le_of_ble_eq_true rfl) ⟨Nat.le_refl _, Nat.le_refl _⟩ dX2_readRow_180 ?_
              refine J_bipush (v := nI 48) dX2_readRow_183 (by decide) ?_
              refine J_isub dX2_readRow_185 ?_
              refine J_rw (y := tlH 2 (bA B 0 len (p + 2))) (gH2 kcz3).1.symm ?_
              refine Cs_23 (s := (su 22 (su 21 s (upd (s 21) rr (tlH 0 (bA B 0 len p)))) (upd (s 22) rr (tlH 1 (bA B 0 len (p + 1)))))) (s 23) rfl rr rfl (by omega) dX2_readRow_186 ?_
              refine J_aload_n dX2_readRow_187 rfl rfl ?_
              refine Cg_3_9 fr_X2_21_2 dX2_readRow_188 ?_
              refine J_iload_n dX2_readRow_191 rfl rfl ?_
              refine J_iload_n dX2_readRow_192 rfl rfl ?_
              refine J_if_eqB 209 dX2_readRow_193 (by decide) (fun _ => ?_) (fun c => absurd c (by rw [kcz4]; decide))
              refine J_iconst (v := -1) dX2_readRow_209 (by decide) ?_
              refine J_rw (y := tlH 3 (bA B 0 len (p + 3))) (gH3b kcz7).1.symm ?_
              refine Cs_24 (s := (su 23 (su 22 (su 21 s (upd (s 21) rr (tlH 0 (bA B 0 len p)))) (upd (s 22) rr (tlH 1 (bA B 0 len (p + 1))))) (upd (s 23) rr (tlH 2 (bA B 0 len (p + 2)))))) (s 24) rfl rr rfl (by omega) dX2_readRow_210 ?_
              refine J_aload_n dX2_readRow_211 rfl rfl ?_
              refine Cg_3_10 fr_X2_24_2 dX2_readRow_212 ?_
              refine J_iload_n dX2_readRow_215 rfl rfl ?_
              refine J_iload dX2_readRow_216 rfl ?_
              refine J_if_eq 225 dX2_readRow_218 (by decide) (fun c => absurd c (by decide)) (fun _ => ?_)
              refine J_iconst (v := nI 1) dX2_readRow_221 (by decide) ?_
              refine J_goto 226 dX2_readRow_222 (by decide) ?_
              refine J_rw (y := tlH 4 (bA B 0 len (p + 4))) (gH4a kcz8).1.symm ?_
              refine Cs_25 (s := (su 24 (su 23 (su 22 (su 21 s (upd (s 21) rr (tlH 0 (bA B 0 len p)))) (upd (s 22) rr (tlH 1 (bA B 0 len (p + 1))))) (upd (s 23) rr (tlH 2 (bA B 0 len (p + 2))))) (upd (s 24) rr (tlH 3 (bA B 0 len (p + 3)))))) (s 25) rfl rr rfl (by omega) dX2_readRow_226 ?_
              refine J_aload_n dX2_readRow_227 rfl rfl ?_
              refine Cg_3_11 fr_X2_27_2 dX2_readRow_228 ?_
              refine J_iload_n dX2_readRow_231 rfl rfl ?_
              refine J_aload_n dX2_readRow_232 rfl rfl ?_
              refine Cg_3_6 fr_X2_9_2 dX2_readRow_233 ?_
              refine J_iload_n dX2_readRow_236 rfl rfl ?_
              refine Cl_21 (s := (su 25 (su 24 (su 23 (su 22 (su 21 s (upd (s 21) rr (tlH 0 (bA B 0 len p)))) (upd (s 22) rr (tlH 1 (bA B 0 len (p + 1))))) (upd (s 23) rr (tlH 2 (bA B 0 len (p + 2))))) (upd (s 24) rr (tlH 3 (bA B 0 len (p + 3))))) (upd (s 25) rr (tlH 4 (bA B 0 len (p + 4)))))) (upd (s 21) rr (tlH 0 (bA B 0 len p))) rfl rr rfl (by omega) dX2_readRow_237 ?_
              refine J_rw (y := nI f0) (pk_us.trans ef0) ?_
              refine J_aload_n dX2_readRow_238 rfl rfl ?_
              refine Cg_3_7 fr_X2_15_2 dX2_readRow_239 ?_
              refine J_iload_n dX2_readRow_242 rfl rfl ?_
              refine Cl_22 (s := (su 25 (su 24 (su 23 (su 22 (su 21 s (upd (s 21) rr (tlH 0 (bA B 0 len p)))) (upd (s 22) rr (tlH 1 (bA B 0 len (p + 1))))) (upd (s 23) rr (tlH 2 (bA B 0 len (p + 2))))) (upd (s 24) rr (tlH 3 (bA B 0 len (p + 3))))) (upd (s 25) rr (tlH 4 (bA B 0 len (p + 4)))))) (upd (s 22) rr (tlH 1 (bA B 0 len (p + 1)))) rfl rr rfl (by omega) dX2_readRow_243 ?_
              refine J_rw (y := nI k0) (pk_us.trans ek0) ?_
              refine J_cSi [.int (nI f0), .int (nI k0)] ms_X2_42 (c_X2_bitsOfHours (cW G r (su 25 (su 24 (su 23 (su 22 (su 21 s (upd (s 21) rr (tlH 0 (bA B 0 len p)))) (upd (s 22) rr (tlH 1 (bA B 0 len (p + 1))))) (upd (s 23) rr (tlH 2 (bA B 0 len (p + 2))))) (upd (s 24) rr (tlH 3 (bA B 0 len (p + 3))))) (upd (s 25) rr (tlH 4 (bA B 0 len (p + 4))))) l) f0 k0 (by omega) (by omega)) rfl rfl (by decide) (Nat.le_of_ble_eq_true rfl) ⟨Nat.le_refl _, Nat.le_refl _⟩ dX2_readRow_244 ?_
              refine J_rw (y := nI (hbs (tlH 0 (bA B 0 len p)) (tlH 1 (bA B 0 len (p + 1))))) (by rw [ef0, ek0, hbs_nI hf0 (by omega)]) ?_
              refine Cs_26 (s := (su 25 (su 24 (su 23 (su 22 (su 21 s (upd (s 21) rr (tlH 0 (bA B 0 len p)))) (upd (s 22) rr (tlH 1 (bA B 0 len (p + 1))))) (upd (s 23) rr (tlH 2 (bA B 0 len (p + 2))))) (upd (s 24) rr (tlH 3 (bA B 0 len (p + 3))))) (upd (s 25) rr (tlH 4 (bA B 0 len (p + 4)))))) (s 26) rfl rr rfl (by omega) dX2_readRow_247 ?_
              refine J_iload_n dX2_readRow_248 rfl rfl ?_
              refine J_iconst (v := nI 5) dX2_readRow_249 (by decide) ?_
              refine J_iaddN dX2_readRow_250 ?_
              exact J_iret dX2_readRow_251 rfl rfl rfl (absurd hW (by rw [(rg0 (gH0 kcz1).2 (gH1 kcz2).2 (gH2 kcz3).2 (gH3b kcz7).2 (gH4a kcz8).2).1]; decide))
          · refine J_iload_n dX2_readRow_93 rfl rfl ?_
            refine J_iconst (v := nI 3) dX2_readRow_94 (by decide) ?_
            refine J_iaddN dX2_readRow_95 ?_
            refine J_iconst (v := -1) dX2_readRow_96 (by decide) ?_
            refine J_ixor dX2_readRow_97 ?_
            exact J_iret dX2_readRow_98 rfl rfl rfl (hq _ (by rw [(rb0_3 (gH0 kcz1).2 (gH1 kcz2).2 (gH2 kcz3).2 (bH3 kcz4 kcz7)).2]))
      · refine J_iload_n dX2_readRow_59 rfl rfl ?_
        refine J_iconst (v := nI 2) dX2_readRow_60 (by decide) ?_
        refine J_iaddN dX2_readRow_61 ?_
        refine J_iconst (v := -1) dX2_readRow_62 (by decide) ?_
        refine J_ixor dX2_readRow_63 ?_
        exact J_iret dX2_readRow_64 rfl rfl rfl (hq _ (by rw [(rb0_2 (gH0 kcz1).2 (gH1 kcz2).2 (bH2 kcz3)).2]))
    · refine J_iload_n dX2_readRow_39 rfl rfl ?_
      refine J_iconst (v := nI 1) dX2_readRow_40 (by decide) ?_
      refine J_iaddN dX2_readRow_41 ?_
      refine J_iconst (v := -1) dX2_readRow_42 (by decide) ?_
      refine J_ixor dX2_readRow_43 ?_
      exact J_iret dX2_readRow_44 rfl rfl rfl (hq _ (by rw [(rb0_1 (gH0 kcz1).2 (bH1 kcz2)).2]))
  · refine J_iload_n dX2_readRow_21 rfl rfl ?_
    refine J_iconst (v := -1) dX2_readRow_22 (by decide) ?_
    refine J_ixor dX2_readRow_23 ?_
    exact J_iret dX2_readRow_24 rfl rfl rfl (hq _ (by rw [(rb0_0  (bH0 kcz1)).2, Nat.add_zero]))
theorem c_X2_readRow_bad {G : GT} (r : Nat → Nat) (s : St) (l : Nat → Int64) (B : Nat → Int32) (len : Nat) (hlen : s 51 0 = nI len) (hl59 : len ≤ 59) (hB : ∀ p, p < len → s 20 p = B (60 * 0 + p)) (p rr : Nat) (hp : p ≤ 70) (hrr : rr < 8) (hW : rW0 B len p = false) : Ct G yX2_readRow cX2_readRow 5 (some .int) 0 0 3 [.ref (r 3), .int (nI p), .int (nI rr)] (cW G r s l) (Is (some (.int (nI (rE0 B len p) ^^^ (-1)))) (cW G r s l)) := Ct.of rfl (Nat.le_of_ble_eq_true rfl) (j_X2_readRow_bad r s l B len hlen hl59 hB p rr hp hrr hW (fun _ e => by subst e; exact Is.rf _ _))
set_option maxRecDepth 100000 in
set_option maxHeartbeats 1000000 in
theorem j_X3_readRow_ok {G : GT} (r : Nat → Nat) (s : St) (l : Nat → Int64) (B : Nat → Int32) (len : Nat) (hlen : s 54 0 = nI len) (hl59 : len ≤ 59) (hB : ∀ p, p < len → s 27 p = B (60 * 1 + p)) (p rr : Nat) (hp : p ≤ 70) (hrr : rr < 6) (hW : rW1 B len p = true) {Q : Option Value → va_W → Prop} (hq : ∀ v_ : Int32, v_ = nI (rE1 B len p) → Q (some (.int v_)) (cW G r (su 31 (su 30 (su 29 (su 28 s (upd (s 28) rr (tlE 0 (bA B 1 len p)))) (upd (s 29) rr (tlE 1 (bA B 1 len (p + 1))))) (upd (s 30) rr (tlE 2 (bA B 1 len (p + 2))))) (upd (s 31) rr (nI (awb (tlE 1 (bA B 1 len (p + 1))) (tlE 2 (bA B 1 len (p + 2))))))) l)) : J G "readRow" RX3 cX3_readRow 4 (some .int) 0 0 3 Q 0 0 0 [(0, .ref (r 4)), (1, .int (nI p)), (2, .int (nI rr))] [] (cW G r s l) := by
  refine J_iload_n dX3_readRow_0 rfl rfl ?_
  refine J_bipush (v := nI 6) dX3_readRow_1 (by decide) ?_
  refine J_cNi [.int (nI rr), .int (nI 6)] mn_X3_24 (c_X11_isBelowN (cW G r s l) (nI rr) 6) rfl rfl (by decide) (Nat.le_of_ble_eq_true rfl) ⟨Nat.le_refl _, Nat.le_refl _⟩ dX3_readRow_3 ?_
  refine J_if_eqB 21 dX3_readRow_6 (by decide) (fun c => absurd c (by rw [(rng_of hrr (by decide))]; decide)) (fun _ => ?_)
  refine J_aload_n dX3_readRow_9 rfl rfl ?_
  refine J_iload_n dX3_readRow_10 rfl rfl ?_
  refine J_bipush (v := nI 49) dX3_readRow_11 (by decide) ?_
  refine J_bipush (v := nI 56) dX3_readRow_13 (by decide) ?_
  refine J_cUi [.int (nI p), .int (nI 49), .int (nI 56)] 4 mu_X3_28_3 (c_X5_isBetween1 r s l B len hlen hl59 hB p (by omega) (nI 49) (nI 56)) cW_4 rfl rfl (by decide) (Nat.le_of_ble_eq_true rfl) ⟨Nat.le_refl _, Nat.le_refl _⟩ dX3_readRow_15 ?_
  refine J_if_neB 25 dX3_readRow_18 (by decide) (fun kcz1 => ?_) (fun kcz1 => ?_)
  · refine J_aload_n dX3_readRow_25 rfl rfl ?_
    refine J_iload_n dX3_readRow_26 rfl rfl ?_
    refine J_iconst (v := nI 1) dX3_readRow_27 (by decide) ?_
    refine J_iaddN dX3_readRow_28 ?_
    refine J_bipush (v := nI 97) dX3_readRow_29 (by decide) ?_
    refine J_bipush (v := nI 120) dX3_readRow_31 (by decide) ?_
    refine J_cUi [.int (nI (p + 1)), .int (nI 97), .int (nI 120)] 4 mu_X3_28_3 (c_X5_isBetween1 r s l B len hlen hl59 hB (p + 1) (by omega) (nI 97) (nI 120)) cW_4 rfl rfl (by decide) (Nat.le_of_ble_eq_true rfl) ⟨Nat.le_refl _, Nat.le_refl _⟩ dX3_readRow_33 ?_
    refine J_if_neB 45 dX3_readRow_36 (by decide) (fun kcz2 => ?_) (fun kcz2 => ?_)
    · refine J_aload_n dX3_readRow_45 rfl rfl ?_
      refine J_iload_n dX3_readRow_46 rfl rfl ?_
      refine J_iconst (v := nI 2) dX3_readRow_47 (by decide) ?_
      refine J_iaddN dX3_readRow_48 ?_
      refine J_bipush (v := nI 97) dX3_readRow_49 (by decide) ?_
      refine J_bipush (v := nI 120) dX3_readRow_51 (by decide) ?_
      refine J_cUi [.int (nI (p + 2)), .int (nI 97), .int (nI 120)] 4 mu_X3_28_3 (c_X5_isBetween1 r s l B len hlen hl59 hB (p + 2) (by omega) (nI 97) (nI 120)) cW_4 rfl rfl (by decide) (Nat.le_of_ble_eq_true rfl) ⟨Nat.le_refl _, Nat.le_refl _⟩ dX3_readRow_53 ?_
      refine J_if_neB 65 dX3_readRow_56 (by decide) (fun kcz3 => ?_) (fun kcz3 => ?_)
      · obtain ⟨f0, hf0, ef0⟩ := gE1n kcz2
        obtain ⟨u0, hu0, eu0⟩ := gE2n kcz3
        refine J_aload_n dX3_readRow_65 rfl rfl ?_
        refine Cg_4_6 fr_X3_9_3 dX3_readRow_66 ?_
        refine J_iload_n dX3_readRow_69 rfl rfl ?_
        refine J_aload_n dX3_readRow_70 rfl rfl ?_
        refine J_iload_n dX3_readRow_71 rfl rfl ?_
        refine J_cUi [.int (nI p)] 4 mu_X3_32_3 (c_X5_signAt1 r s l B len hlen hl59 hB p (by omega)) cW_4 rfl rfl (by decide) (Nat.le_of_ble_eq_true rfl) ⟨Nat.le_refl _, Nat.le_refl _⟩ dX3_readRow_72 ?_
        refine J_bipush (v := nI 48) dX3_readRow_75 (by decide) ?_
        refine J_isub dX3_readRow_77 ?_
        refine J_rw (y := tlE 0 (bA B 1 len p)) (gE0 kcz1).1.symm ?_
        refine Cs_28 (s := s) (s 28) rfl rr rfl (by omega) dX3_readRow_78 ?_
        refine J_aload_n dX3_readRow_79 rfl rfl ?_
        refine Cg_4_7 fr_X3_15_3 dX3_readRow_80 ?_
        refine J_iload_n dX3_readRow_83 rfl rfl ?_
        refine J_aload_n dX3_readRow_84 rfl rfl ?_
        refine J_iload_n dX3_readRow_85 rfl rfl ?_
        refine J_iconst (v := nI 1) dX3_readRow_86 (by decide) ?_
        refine J_iaddN dX3_readRow_87 ?_
        refine J_cUi [.int (nI (p + 1))] 4 mu_X3_32_3 (c_X5_signAt1 r (su 28 s (upd (s 28) rr (tlE 0 (bA B 1 len p)))) l B len hlen hl59 hB (p + 1) (by omega)) cW_4 rfl rfl (by decide) (Nat.le_of_ble_eq_true rfl) ⟨Nat.le_refl _, Nat.le_refl _⟩ dX3_readRow_88 ?_
        refine J_bipush (v := nI 97) dX3_readRow_91 (by decide) ?_
        refine J_isub dX3_readRow_93 ?_
        refine J_rw (y := tlE 1 (bA B 1 len (p + 1))) (gE1 kcz2).1.symm ?_
        refine Cs_29 (s := (su 28 s (upd (s 28) rr (tlE 0 (bA B 1 len p))))) (s 29) rfl rr rfl (by omega) dX3_readRow_94 ?_
        refine J_aload_n dX3_readRow_95 rfl rfl ?_
        refine Cg_4_8 fr_X3_18_3 dX3_readRow_96 ?_
        refine J_iload_n dX3_readRow_99 rfl rfl ?_
        refine J_aload_n dX3_readRow_100 rfl rfl ?_
        refine J_iload_n dX3_readRow_101 rfl rfl ?_
        refine J_iconst (v := nI 2) dX3_readRow_102 (by decide) ?_
        refine J_iaddN dX3_readRow_103 ?_
        refine J_cUi [.int (nI (p + 2))] 4 mu_X3_32_3 (c_X5_signAt1 r (su 29 (su 28 s (upd (s 28) rr (tlE 0 (bA B 1 len p)))) (upd (s 29) rr (tlE 1 (bA B 1 len (p + 1))))) l B len hlen hl59 hB (p + 2) (by omega)) cW_4 rfl rfl (by decide) (Nat.le_of_ble_eq_true rfl) ⟨Nat.le_refl _, Nat.le_refl _⟩ dX3_readRow_104 ?_
        refine J_bipush (v := nI 97) dX3_readRow_107 (by decide) ?_
        refine J_isub dX3_readRow_109 ?_
        refine J_rw (y := tlE 2 (bA B 1 len (p + 2))) (gE2 kcz3).1.symm ?_
        refine Cs_30 (s := (su 29 (su 28 s (upd (s 28) rr (tlE 0 (bA B 1 len p)))) (upd (s 29) rr (tlE 1 (bA B 1 len (p + 1)))))) (s 30) rfl rr rfl (by omega) dX3_readRow_110 ?_
        refine J_aload_n dX3_readRow_111 rfl rfl ?_
        refine Cg_4_8 fr_X3_18_3 dX3_readRow_112 ?_
        refine J_iload_n dX3_readRow_115 rfl rfl ?_
        refine Cl_30 (s := (su 30 (su 29 (su 28 s (upd (s 28) rr (tlE 0 (bA B 1 len p)))) (upd (s 29) rr (tlE 1 (bA B 1 len (p + 1))))) (upd (s 30) rr (tlE 2 (bA B 1 len (p + 2)))))) (upd (s 30) rr (tlE 2 (bA B 1 len (p + 2)))) rfl rr rfl (by omega) dX3_readRow_116 ?_
        refine J_rw (y := nI u0) (pk_us.trans eu0) ?_
        refine J_aload_n dX3_readRow_117 rfl rfl ?_
        refine Cg_4_7 fr_X3_15_3 dX3_readRow_118 ?_
        refine J_iload_n dX3_readRow_121 rfl rfl ?_
        refine Cl_29 (s := (su 30 (su 29 (su 28 s (upd (s 28) rr (tlE 0 (bA B 1 len p)))) (upd (s 29) rr (tlE 1 (bA B 1 len (p + 1))))) (upd (s 30) rr (tlE 2 (bA B 1 len (p + 2)))))) (upd (s 29) rr (tlE 1 (bA B 1 len (p + 1)))) rfl rr rfl (by omega) dX3_readRow_122 ?_
        refine J_rw (y := nI f0) (pk_us.trans ef0) ?_
        refine J_isub dX3_readRow_123 ?_
        refine J_bipush (v := nI 24) dX3_readRow_124 (by decide) ?_
        refine J_iadd dX3_readRow_126 ?_
        refine J_bipush (v := nI 24) dX3_readRow_127 (by decide) ?_
        refine J_irem dX3_readRow_129 (by decide) ?_
        refine J_rw (y := nI ((u0 + 24 - f0) % 24)) (aw_rem f0 hf0 u0 hu0) ?_
        refine J_istore_n [(0, .ref (r 4)), (1, .int (nI p)), (2, .int (nI rr)), (3, .int (nI ((u0 + 24 - f0) % 24)))] dX3_readRow_130 rfl (by decide) rfl rfl rfl ?_
        refine J_aload_n dX3_readRow_131 rfl rfl ?_
        refine Cg_4_9 fr_X3_21_3 dX3_readRow_132 ?_
        refine J_iload_n dX3_readRow_135 rfl rfl ?_
        refine J_aload_n dX3_readRow_136 rfl rfl ?_
        refine Cg_4_7 fr_X3_15_3 dX3_readRow_137 ?_
        refine J_iload_n dX3_readRow_140 rfl rfl ?_
        refine Cl_29 (s := (su 30 (su 29 (su 28 s (upd (s 28) rr (tlE 0 (bA B 1 len p)))) (upd (s 29) rr (tlE 1 (bA B 1 len (p + 1))))) (upd (s 30) rr (tlE 2 (bA B 1 len (p + 2)))))) (upd (s 29) rr (tlE 1 (bA B 1 len (p + 1)))) rfl rr rfl (by omega) dX3_readRow_141 ?_
        refine J_rw (y := nI f0) (pk_us.trans ef0) ?_
        refine J_iload_n dX3_readRow_142 rfl rfl ?_
        refine J_cSi [.int (nI f0), .int (nI ((u0 + 24 - f0) % 24))] ms_X3_36 (c_X2_bitsOfHours (cW G r (su 30 (su 29 (su 28 s (upd (s 28) rr (tlE 0 (bA B 1 len p)))) (upd (s 29) rr (tlE 1 (bA B 1 len (p + 1))))) (upd (s 30) rr (tlE 2 (bA B 1 len (p + 2))))) l) f0 ((u0 + 24 - f0) % 24) (by omega) (by have := Nat.mod_lt (u0 + 24 - f0) (show 0 < 24 by decide); omega)) rfl rfl (by decide) (Nat.le_of_ble_eq_true rfl) ⟨Nat.le_refl _, Nat.le_refl _⟩ dX3_readRow_143 ?_
        refine J_rw (y := nI (awb (tlE 1 (bA B 1 len (p + 1))) (tlE 2 (bA B 1 len (p + 2))))) (by rw [ef0, eu0, awb_nI (by omega) (by omega)]) ?_
        refine Cs_31 (s := (su 30 (su 29 (su 28 s (upd (s 28) rr (tlE 0 (bA B 1 len p)))) (upd (s 29) rr (tlE 1 (bA B 1 len (p + 1))))) (upd (s 30) rr (tlE 2 (bA B 1 len (p + 2)))))) (s 31) rfl rr rfl (by omega) dX3_readRow_146 ?_
        refine J_iload_n dX3_readRow_147 rfl rfl ?_
        refine J_iconst (v := nI 3) dX3_readRow_148 (by decide) ?_
        refine J_iaddN dX3_readRow_149 ?_
        exact J_iret dX3_readRow_150 rfl rfl rfl (hq _ (by rw [(rg1 (gE0 kcz1).2 (gE1 kcz2).2 (gE2 kcz3).2).2]))
      · refine J_iload_n dX3_readRow_59 rfl rfl ?_
        refine J_iconst (v := nI 2) dX3_readRow_60 (by decide) ?_
        refine J_iaddN dX3_readRow_61 ?_
        refine J_iconst (v := -1) dX3_readRow_62 (by decide) ?_
        refine J_ixor dX3_readRow_63 ?_
        exact J_iret dX3_readRow_64 rfl rfl rfl (absurd hW (by rw [(rb1_2 (gE0 kcz1).2 (gE1 kcz2).2 (bE2 kcz3)).1]; decide))
    · refine J_iload_n dX3_readRow_39 rfl rfl ?_
      refine J_iconst (v := nI 1) dX3_readRow_40 (by decide) ?_
      refine J_iaddN dX3_readRow_41 ?_
      refine J_iconst (v := -1) dX3_readRow_42 (by decide) ?_
      refine J_ixor dX3_readRow_43 ?_
      exact J_iret dX3_readRow_44 rfl rfl rfl (absurd hW (by rw [(rb1_1 (gE0 kcz1).2 (bE1 kcz2)).1]; decide))
  · refine J_iload_n dX3_readRow_21 rfl rfl ?_
    refine J_iconst (v := -1) dX3_readRow_22 (by decide) ?_
    refine J_ixor dX3_readRow_23 ?_
    exact J_iret dX3_readRow_24 rfl rfl rfl (absurd hW (by rw [(rb1_0  (bE0 kcz1)).1]; decide))
theorem c_X3_readRow_ok {G : GT} (r : Nat → Nat) (s : St) (l : Nat → Int64) (B : Nat → Int32) (len : Nat) (hlen : s 54 0 = nI len) (hl59 : len ≤ 59) (hB : ∀ p, p < len → s 27 p = B (60 * 1 + p)) (p rr : Nat) (hp : p ≤ 70) (hrr : rr < 6) (hW : rW1 B len p = true) : Ct G yX3_readRow cX3_readRow 4 (some .int) 0 0 3 [.ref (r 4), .int (nI p), .int (nI rr)] (cW G r s l) (Is (some (.int (nI (rE1 B len p)))) (cW G r (su 31 (su 30 (su 29 (su 28 s (upd (s 28) rr (tlE 0 (bA B 1 len p)))) (upd (s 29) rr (tlE 1 (bA B 1 len (p + 1))))) (upd (s 30) rr (tlE 2 (bA B 1 len (p + 2))))) (upd (s 31) rr (nI (awb (tlE 1 (bA B 1 len (p + 1))) (tlE 2 (bA B 1 len (p + 2))))))) l)) := Ct.of rfl (Nat.le_of_ble_eq_true rfl) (j_X3_readRow_ok r s l B len hlen hl59 hB p rr hp hrr hW (fun _ e => by subst e; exact Is.rf _ _))
set_option maxRecDepth 100000 in
set_option maxHeartbeats 1000000 in
theorem j_X3_readRow_bad {G : GT} (r : Nat → Nat) (s : St) (l : Nat → Int64) (B : Nat → Int32) (len : Nat) (hlen : s 54 0 = nI len) (hl59 : len ≤ 59) (hB : ∀ p, p < len → s 27 p = B (60 * 1 + p)) (p rr : Nat) (hp : p ≤ 70) (hrr : rr < 6) (hW : rW1 B len p = false) {Q : Option Value → va_W → Prop} (hq : ∀ v_ : Int32, v_ = nI (rE1 B len p) ^^^ (-1) → Q (some (.int v_)) (cW G r s l)) : J G "readRow" RX3 cX3_readRow 4 (some .int) 0 0 3 Q 0 0 0 [(0, .ref (r 4)), (1, .int (nI p)), (2, .int (nI rr))] [] (cW G r s l) := by
  refine J_iload_n dX3_readRow_0 rfl rfl ?_
  refine J_bipush (v := nI 6) dX3_readRow_1 (by decide) ?_
  refine J_cNi [.int (nI rr), .int (nI 6)] mn_X3_24 (c_X11_isBelowN (cW G r s l) (nI rr) 6) rfl rfl (by decide) (Nat.le_of_ble_eq_true rfl) ⟨Nat.le_refl _, Nat.le_refl _⟩ dX3_readRow_3 ?_
  refine J_if_eqB 21 dX3_readRow_6 (by decide) (fun c => absurd c (by rw [(rng_of hrr (by decide))]; decide)) (fun _ => ?_)
  refine J_aload_n dX3_readRow_9 rfl rfl ?_
  refine J_iload_n dX3_readRow_10 rfl rfl ?_
  refine J_bipush (v := nI 49) dX3_readRow_11 (by decide) ?_
  refine J_bipush (v := nI 56) dX3_readRow_13 (by decide) ?_
  refine J_cUi [.int (nI p), .int (nI 49), .int (nI 56)] 4 mu_X3_28_3 (c_X5_isBetween1 r s l B len hlen hl59 hB p (by omega) (nI 49) (nI 56)) cW_4 rfl rfl (by decide) (Nat.le_of_ble_eq_true rfl) ⟨Nat.le_refl _, Nat.le_refl _⟩ dX3_readRow_15 ?_
  refine J_if_neB 25 dX3_readRow_18 (by decide) (fun kcz1 => ?_) (fun kcz1 => ?_)
  · refine J_aload_n dX3_readRow_25 rfl rfl ?_
    refine J_iload_n dX3_readRow_26 rfl rfl ?_
    refine J_iconst (v := nI 1) dX3_readRow_27 (by decide) ?_
    refine J_iaddN dX3_readRow_28 ?_
    refine J_bipush (v := nI 97) dX3_readRow_29 (by decide) ?_
    refine J_bipush (v := nI 120) dX3_readRow_31 (by decide) ?_
    refine J_cUi [.int (nI (p + 1)), .int (nI 97), .int (nI 120)] 4 mu_X3_28_3 (c_X5_isBetween1 r s l B len hlen hl59 hB (p + 1) (by omega) (nI 97) (nI 120)) cW_4 rfl rfl (by decide) (Nat.le_of_ble_eq_true rfl) ⟨Nat.le_refl _, Nat.le_refl _⟩ dX3_readRow_33 ?_
    refine J_if_neB 45 dX3_readRow_36 (by decide) (fun kcz2 => ?_) (fun kcz2 => ?_)
    · refine J_aload_n dX3_readRow_45 rfl rfl ?_
      refine J_iload_n dX3_readRow_46 rfl rfl ?_
      refine J_iconst (v := nI 2) dX3_readRow_47 (by decide) ?_
      refine J_iaddN dX3_readRow_48 ?_
      refine J_bipush (v := nI 97) dX3_readRow_49 (by decide) ?_
      refine J_bipush (v := nI 120) dX3_readRow_51 (by decide) ?_
      refine J_cUi [.int (nI (p + 2)), .int (nI 97), .int (nI 120)] 4 mu_X3_28_3 (c_X5_isBetween1 r s l B len hlen hl59 hB (p + 2) (by omega) (nI 97) (nI 120)) cW_4 rfl rfl (by decide) (Nat.le_of_ble_eq_true rfl) ⟨Nat.le_refl _, Nat.le_refl _⟩ dX3_readRow_53 ?_
      refine J_if_neB 65 dX3_readRow_56 (by decide) (fun kcz3 => ?_) (fun kcz3 => ?_)
      · obtain ⟨f0, hf0, ef0⟩ := gE1n kcz2
        obtain ⟨u0, hu0, eu0⟩ := gE2n kcz3
        refine J_aload_n dX3_readRow_65 rfl rfl ?_
        refine Cg_4_6 fr_X3_9_3 dX3_readRow_66 ?_
        refine J_iload_n dX3_readRow_69 rfl rfl ?_
        refine J_aload_n dX3_readRow_70 rfl rfl ?_
        refine J_iload_n dX3_readRow_71 rfl rfl ?_
        refine J_cUi [.int (nI p)] 4 mu_X3_32_3 (c_X5_signAt1 r s l B len hlen hl59 hB p (by omega)) cW_4 rfl rfl (by decide) (Nat.le_of_ble_eq_true rfl) ⟨Nat.le_refl _, Nat.le_refl _⟩ dX3_readRow_72 ?_
        refine J_bipush (v := nI 48) dX3_readRow_75 (by decide) ?_
        refine J_isub dX3_readRow_77 ?_
        refine J_rw (y := tlE 0 (bA B 1 len p)) (gE0 kcz1).1.symm ?_
        refine Cs_28 (s := s) (s 28) rfl rr rfl (by omega) dX3_readRow_78 ?_
        refine J_aload_n dX3_readRow_79 rfl rfl ?_
        refine Cg_4_7 fr_X3_15_3 dX3_readRow_80 ?_
        refine J_iload_n dX3_readRow_83 rfl rfl ?_
        refine J_aload_n dX3_readRow_84 rfl rfl ?_
        refine J_iload_n dX3_readRow_85 rfl rfl ?_
        refine J_iconst (v := nI 1) dX3_readRow_86 (by decide) ?_
        refine J_iaddN dX3_readRow_87 ?_
        refine J_cUi [.int (nI (p + 1))] 4 mu_X3_32_3 (c_X5_signAt1 r (su 28 s (upd (s 28) rr (tlE 0 (bA B 1 len p)))) l B len hlen hl59 hB (p + 1) (by omega)) cW_4 rfl rfl (by decide) (Nat.le_of_ble_eq_true rfl) ⟨Nat.le_refl _, Nat.le_refl _⟩ dX3_readRow_88 ?_
        refine J_bipush (v := nI 97) dX3_readRow_91 (by decide) ?_
        refine J_isub dX3_readRow_93 ?_
        refine J_rw (y := tlE 1 (bA B 1 len (p + 1))) (gE1 kcz2).1.symm ?_
        refine Cs_29 (s := (su 28 s (upd (s 28) rr (tlE 0 (bA B 1 len p))))) (s 29) rfl rr rfl (by omega) dX3_readRow_94 ?_
        refine J_aload_n dX3_readRow_95 rfl rfl ?_
        refine Cg_4_8 fr_X3_18_3 dX3_readRow_96 ?_
        refine J_iload_n dX3_readRow_99 rfl rfl ?_
        refine J_aload_n dX3_readRow_100 rfl rfl ?_
        refine J_iload_n dX3_readRow_101 rfl rfl ?_
        refine J_iconst (v := nI 2) dX3_readRow_102 (by decide) ?_
        refine J_iaddN dX3_readRow_103 ?_
        refine J_cUi [.int (nI (p + 2))] 4 mu_X3_32_3 (c_X5_signAt1 r (su 29 (su 28 s (upd (s 28) rr (tlE 0 (bA B 1 len p)))) (upd (s 29) rr (tlE 1 (bA B 1 len (p + 1))))) l B len hlen hl59 hB (p + 2) (by omega)) cW_4 rfl rfl (by decide) (Nat.le_of_ble_eq_true rfl) ⟨Nat.le_refl _, Nat.le_refl _⟩ dX3_readRow_104 ?_
        refine J_bipush (v := nI 97) dX3_readRow_107 (by decide) ?_
        refine J_isub dX3_readRow_109 ?_
        refine J_rw (y := tlE 2 (bA B 1 len (p + 2))) (gE2 kcz3).1.symm ?_
        refine Cs_30 (s := (su 29 (su 28 s (upd (s 28) rr (tlE 0 (bA B 1 len p)))) (upd (s 29) rr (tlE 1 (bA B 1 len (p + 1)))))) (s 30) rfl rr rfl (by omega) dX3_readRow_110 ?_
        refine J_aload_n dX3_readRow_111 rfl rfl ?_
        refine Cg_4_8 fr_X3_18_3 dX3_readRow_112 ?_
        refine J_iload_n dX3_readRow_115 rfl rfl ?_
        refine Cl_30 (s := (su 30 (su 29 (su 28 s (upd (s 28) rr (tlE 0 (bA B 1 len p)))) (upd (s 29) rr (tlE 1 (bA B 1 len (p + 1))))) (upd (s 30) rr (tlE 2 (bA B 1 len (p + 2)))))) (upd (s 30) rr (tlE 2 (bA B 1 len (p + 2)))) rfl rr rfl (by omega) dX3_readRow_116 ?_
        refine J_rw (y := nI u0) (pk_us.trans eu0) ?_
        refine J_aload_n dX3_readRow_117 rfl rfl ?_
        refine Cg_4_7 fr_X3_15_3 dX3_readRow_118 ?_
        refine J_iload_n dX3_readRow_121 rfl rfl ?_
        refine Cl_29 (s := (su 30 (su 29 (su 28 s (upd (s 28) rr (tlE 0 (bA B 1 len p)))) (upd (s 29) rr (tlE 1 (bA B 1 len (p + 1))))) (upd (s 30) rr (tlE 2 (bA B 1 len (p + 2)))))) (upd (s 29) rr (tlE 1 (bA B 1 len (p + 1)))) rfl rr rfl (by omega) dX3_readRow_122 ?_
        refine J_rw (y := nI f0) (pk_us.trans ef0) ?_
        refine J_isub dX3_readRow_123 ?_
        refine J_bipush (v := nI 24) dX3_readRow_124 (by decide) ?_
        refine J_iadd dX3_readRow_126 ?_
        refine J_bipush (v := nI 24) dX3_readRow_127 (by decide) ?_
        refine J_irem dX3_readRow_129 (by decide) ?_
        refine J_rw (y := nI ((u0 + 24 - f0) % 24)) (aw_rem f0 hf0 u0 hu0) ?_
        refine J_istore_n [(0, .ref (r 4)), (1, .int (nI p)), (2, .int (nI rr)), (3, .int (nI ((u0 + 24 - f0) % 24)))] dX3_readRow_130 rfl (by decide) rfl rfl rfl ?_
        refine J_aload_n dX3_readRow_131 rfl rfl ?_
        refine Cg_4_9 fr_X3_21_3 dX3_readRow_132 ?_
        refine J_iload_n dX3_readRow_135 rfl rfl ?_
        refine J_aload_n dX3_readRow_136 rfl rfl ?_
        refine Cg_4_7 fr_X3_15_3 dX3_readRow_137 ?_
        refine J_iload_n dX3_readRow_140 rfl rfl ?_
        refine Cl_29 (s := (su 30 (su 29 (su 28 s (upd (s 28) rr (tlE 0 (bA B 1 len p)))) (upd (s 29) rr (tlE 1 (bA B 1 len (p + 1))))) (upd (s 30) rr (tlE 2 (bA B 1 len (p + 2)))))) (upd (s 29) rr (tlE 1 (bA B 1 len (p + 1)))) rfl rr rfl (by omega) dX3_readRow_141 ?_
        refine J_rw (y := nI f0) (pk_us.trans ef0) ?_
        refine J_iload_n dX3_readRow_142 rfl rfl ?_
        refine J_cSi [.int (nI f0), .int (nI ((u0 + 24 - f0) % 24))] ms_X3_36 (c_X2_bitsOfHours (cW G r (su 30 (su 29 (su 28 s (upd (s 28) rr (tlE 0 (bA B 1 len p)))) (upd (s 29) rr (tlE 1 (bA B 1 len (p + 1))))) (upd (s 30) rr (tlE 2 (bA B 1 len (p + 2))))) l) f0 ((u0 + 24 - f0) % 24) (by omega) (by have := Nat.mod_lt (u0 + 24 - f0) (show 0 < 24 by decide); omega)) rfl rfl (by decide) (Nat.le_of_ble_eq_true rfl) ⟨Nat.le_refl _, Nat.le_refl _⟩ dX3_readRow_143 ?_
        refine J_rw (y := nI (awb (tlE 1 (bA B 1 len (p + 1))) (tlE 2 (bA B 1 len (p + 2))))) (by rw [ef0, eu0, awb_nI (by omega) (by omega)]) ?_
        refine Cs_31 (s := (su 30 (su 29 (su 28 s (upd (s 28) rr (tlE 0 (bA B 1 len p)))) (upd (s 29) rr (tlE 1 (bA B 1 len (p + 1))))) (upd (s 30) rr (tlE 2 (bA B 1 len (p + 2)))))) (s 31) rfl rr rfl (by omega) dX3_readRow_146 ?_
        refine J_iload_n dX3_readRow_147 rfl rfl ?_
        refine J_iconst (v := nI 3) dX3_readRow_148 (by decide) ?_
        refine J_iaddN dX3_readRow_149 ?_
        exact J_iret dX3_readRow_150 rfl rfl rfl (absurd hW (by rw [(rg1 (gE0 kcz1).2 (gE1 kcz2).2 (gE2 kcz3).2).1]; decide))
      · refine J_iload_n dX3_readRow_59 rfl rfl ?_
        refine J_iconst (v := nI 2) dX3_readRow_60 (by decide) ?_
        refine J_iaddN dX3_readRow_61 ?_
        refine J_iconst (v := -1) dX3_readRow_62 (by decide) ?_
        refine J_ixor dX3_readRow_63 ?_
        exact J_iret dX3_readRow_64 rfl rfl rfl (hq _ (by rw [(rb1_2 (gE0 kcz1).2 (gE1 kcz2).2 (bE2 kcz3)).2]))
    · refine J_iload_n dX3_readRow_39 rfl rfl ?_
      refine J_iconst (v := nI 1) dX3_readRow_40 (by decide) ?_
      refine J_iaddN dX3_readRow_41 ?_
      refine J_iconst (v := -1) dX3_readRow_42 (by decide) ?_
      refine J_ixor dX3_readRow_43 ?_
      exact J_iret dX3_readRow_44 rfl rfl rfl (hq _ (by rw [(rb1_1 (gE0 kcz1).2 (bE1 kcz2)).2]))
  · refine J_iload_n dX3_readRow_21 rfl rfl ?_
    refine J_iconst (v := -1) dX3_readRow_22 (by decide) ?_
    refine J_ixor dX3_readRow_23 ?_
    exact J_iret dX3_readRow_24 rfl rfl rfl (hq _ (by rw [(rb1_0  (bE0 kcz1)).2, Nat.add_zero]))
theorem c_X3_readRow_bad {G : GT} (r : Nat → Nat) (s : St) (l : Nat → Int64) (B : Nat → Int32) (len : Nat) (hlen : s 54 0 = nI len) (hl59 : len ≤ 59) (hB : ∀ p, p < len → s 27 p = B (60 * 1 + p)) (p rr : Nat) (hp : p ≤ 70) (hrr : rr < 6) (hW : rW1 B len p = false) : Ct G yX3_readRow cX3_readRow 4 (some .int) 0 0 3 [.ref (r 4), .int (nI p), .int (nI rr)] (cW G r s l) (Is (some (.int (nI (rE1 B len p) ^^^ (-1)))) (cW G r s l)) := Ct.of rfl (Nat.le_of_ble_eq_true rfl) (j_X3_readRow_bad r s l B len hlen hl59 hB p rr hp hrr hW (fun _ e => by subst e; exact Is.rf _ _))
set_option maxRecDepth 100000 in
set_option maxHeartbeats 1000000 in
theorem j_X0_readRow_ok {G : GT} (r : Nat → Nat) (s : St) (l : Nat → Int64) (B : Nat → Int32) (len : Nat) (hlen : s 57 0 = nI len) (hl59 : len ≤ 59) (hB : ∀ p, p < len → s 32 p = B (60 * 2 + p)) (p rr : Nat) (hp : p ≤ 70) (hrr : rr < 15) (hW : rW2 B len p = true) {Q : Option Value → va_W → Prop} (hq : ∀ v_ : Int32, v_ = nI (rE2 B len p) → Q (some (.int v_)) (cW G r (su 36 (su 35 (su 34 (su 33 s (upd (s 33) rr (tlC 0 (bA B 2 len p)))) (upd (s 34) rr (tlC 1 (bA B 2 len (p + 1))))) (upd (s 35) rr (tlC 2 (bA B 2 len (p + 2))))) (upd (s 36) rr (if (bA B 2 len (p + 3)) = nI 63 then tlC 3 (bA B 2 len (p + 4)) else -1))) l)) : J G "readRow" RX0 cX0_readRow 5 (some .int) 0 0 3 Q 0 0 0 [(0, .ref (r 5)), (1, .int (nI p)), (2, .int (nI rr))] [] (cW G r s l) := by
  refine J_iload_n dX0_readRow_0 rfl rfl ?_
  refine J_bipush (v := nI 15) dX0_readRow_1 (by decide) ?_
  refine J_cNi [.int (nI rr), .int (nI 15)] mn_X0_24 (c_X11_isBelowN (cW G r s l) (nI rr) 15) rfl rfl (by decide) (Nat.le_of_ble_eq_true rfl) ⟨Nat.le_refl _, Nat.le_refl _⟩ dX0_readRow_3 ?_
  refine J_if_eqB 21 dX0_readRow_6 (by decide) (fun c => absurd c (by rw [(rng_of hrr (by decide))]; decide)) (fun _ => ?_)
  refine J_aload_n dX0_readRow_9 rfl rfl ?_
  refine J_iload_n dX0_readRow_10 rfl rfl ?_
  refine J_bipush (v := nI 48) dX0_readRow_11 (by decide) ?_
  refine J_bipush (v := nI 55) dX0_readRow_13 (by decide) ?_
  refine J_cUi [.int (nI p), .int (nI 48), .int (nI 55)] 5 mu_X0_28_0 (c_X5_isBetween2 r s l B len hlen hl59 hB p (by omega) (nI 48) (nI 55)) cW_5 rfl rfl (by decide) (Nat.le_of_ble_eq_true rfl) ⟨Nat.le_refl _, Nat.le_refl _⟩ dX0_readRow_15 ?_
  refine J_if_neB 25 dX0_readRow_18 (by decide) (fun kcz1 => ?_) (fun kcz1 => ?_)
  · refine J_aload_n dX0_readRow_25 rfl rfl ?_
    refine J_iload_n dX0_readRow_26 rfl rfl ?_
    refine J_iconst (v := nI 1) dX0_readRow_27 (by decide) ?_
    refine J_iaddN dX0_readRow_28 ?_
    refine J_cUi [.int (nI (p + 1))] 5 mu_X0_32_0 (c_X5_signAt2 r s l B len hlen hl59 hB (p + 1) (by omega)) cW_5 rfl rfl (by decide) (Nat.le_of_ble_eq_true rfl) ⟨Nat.le_refl _, Nat.le_refl _⟩ dX0_readRow_29 ?_
    refine J_bipush (v := nI 43) dX0_readRow_32 (by decide) ?_
    refine J_icmp_ne 41 dX0_readRow_34 (by decide) (fun kcz2 => ?_) (fun kcz2 => ?_)
    · refine J_iconst (v := nI 0) dX0_readRow_41 (by decide) ?_
      refine J_istore_n [(0, .ref (r 5)), (1, .int (nI p)), (2, .int (nI rr)), (3, .int (nI 0))] dX0_readRow_42 rfl (by decide) rfl rfl rfl ?_
      refine J_iload_n dX0_readRow_43 rfl rfl ?_
      refine J_if_ne 65 dX0_readRow_44 (by decide) (fun c => absurd c (by decide)) (fun _ => ?_)
      refine J_aload_n dX0_readRow_47 rfl rfl ?_
      refine J_iload_n dX0_readRow_48 rfl rfl ?_
      refine J_iconst (v := nI 1) dX0_readRow_49 (by decide) ?_
      refine J_iaddN dX0_readRow_50 ?_
      refine J_cUi [.int (nI (p + 1))] 5 mu_X0_32_0 (c_X5_signAt2 r s l B len hlen hl59 hB (p + 1) (by omega)) cW_5 rfl rfl (by decide) (Nat.le_of_ble_eq_true rfl) ⟨Nat.le_refl _, Nat.le_refl _⟩ dX0_readRow_51 ?_
      refine J_bipush (v := nI 45) dX0_readRow_54 (by decide) ?_
      refine J_icmp_eq 65 dX0_readRow_56 (by decide) (fun kcz3 => ?_) (fun kcz3 => ?_)
      · refine J_aload_n dX0_readRow_65 rfl rfl ?_
        refine J_iload_n dX0_readRow_66 rfl rfl ?_
        refine J_iconst (v := nI 2) dX0_readRow_67 (by decide) ?_
        refine J_iaddN dX0_readRow_68 ?_
        refine J_bipush (v := nI 48) dX0_readRow_69 (by decide) ?_
        refine J_bipush (v := nI 53) dX0_readRow_71 (by decide) ?_
        refine J_cUi [.int (nI (p + 2)), .int (nI 48), .int (nI 53)] 5 mu_X0_28_0 (c_X5_isBetween2 r s l B len hlen hl59 hB (p + 2) (by omega) (nI 48) (nI 53)) cW_5 rfl rfl (by decide) (Nat.le_of_ble_eq_true rfl) ⟨Nat.le_refl _, Nat.le_refl _⟩ dX0_readRow_73 ?_
        refine J_if_neB 85 dX0_readRow_76 (by decide) (fun kcz4 => ?_) (fun kcz4 => ?_)
        · refine J_aload_n dX0_readRow_85 rfl rfl ?_
          refine J_iload_n dX0_readRow_86 rfl rfl ?_
          refine J_iconst (v := nI 3) dX0_readRow_87 (by decide) ?_
          refine J_iaddN dX0_readRow_88 ?_
          refine J_cUi [.int (nI (p + 3))] 5 mu_X0_32_0 (c_X5_signAt2 r s l B len hlen hl59 hB (p + 3) (by omega)) cW_5 rfl rfl (by decide) (Nat.le_of_ble_eq_true rfl) ⟨Nat.le_refl _, Nat.le_refl _⟩ dX0_readRow_89 ?_
          refine J_bipush (v := nI 63) dX0_readRow_92 (by decide) ?_
          refine J_icmp_ne 101 dX0_readRow_94 (by decide) (fun kcz5 => ?_) (fun kcz5 => ?_)
          · refine J_iconst (v := nI 0) dX0_readRow_101 (by decide) ?_
            refine J_istore [(0, .ref (r 5)), (1, .int (nI p)), (2, .int (nI rr)), (3, .int (nI 0)), (4, .int (nI 0))] dX0_readRow_102 (by decide) rfl rfl rfl ?_
            refine J_iload dX0_readRow_104 rfl ?_
            refine J_if_eq 129 dX0_readRow_106 (by decide) (fun _ => ?_) (fun c => absurd c (by decide))
            refine J_aload_n dX0_readRow_129 rfl rfl ?_
            refine Cg_5_6 fr_X0_9_0 dX0_readRow_130 ?_
            refine J_iload_n dX0_readRow_133 rfl rfl ?_
            refine J_aload_n dX0_readRow_134 rfl rfl ?_
            refine J_iload_n dX0_readRow_135 rfl rfl ?_
            refine J_cUi [.int (nI p)] 5 mu_X0_32_0 (c_X5_signAt2 r s l B len hlen hl59 hB p (by omega)) cW_5 rfl rfl (by decide) (Nat.le_of_ble_eq_true rfl) ⟨Nat.le_refl _, Nat.le_refl _⟩ dX0_readRow_136 ?_
            refine J_bipush (v := nI 48) dX0_readRow_139 (by decide) ?_
            refine J_isub dX0_readRow_141 ?_
            refine J_rw (y := tlC 0 (bA B 2 len p)) (gC0 kcz1).1.symm ?_
            refine Cs_33 (s := s) (s 33) rfl rr rfl (by omega) dX0_readRow_142 ?_
            refine J_aload_n dX0_readRow_143 rfl rfl ?_
            refine Cg_5_7 fr_X0_15_0 dX0_readRow_144 ?_
            refine J_iload_n dX0_readRow_147 rfl rfl ?_
            refine J_iload_n dX0_readRow_148 rfl rfl ?_
            refine J_if_eq 156 dX0_readRow_149 (by decide) (fun _ => ?_) (fun c => absurd c (by decide))
            refine J_iconst (v := nI 0) dX0_readRow_156 (by decide) ?_
            refine J_rw (y := tlC 1 (bA B 2 len (p + 1))) (gC1b kcz3).1.symm ?_
            refine Cs_34 (s := (su 33 s (upd (s 33) rr (tlC 0 (bA B 2 len p))))) (s 34) rfl rr rfl (by omega) dX0_readRow_157 ?_
            refine J_aload_n dX0_readRow_158 rfl rfl ?_
            refine Cg_5_8 fr_X0_18_0 dX0_readRow_159 ?_
            refine J_iload_n dX0_readRow_162 rfl rfl ?_
            refine J_aload_n dX0_readRow_163 rfl rfl ?_
            refine J_iload_n dX0_readRow_164 rfl rfl ?_
            refine J_iconst (v := nI 2) dX0_readRow_165 (by decide) ?_
            refine J_iaddN dX0_readRow_166 ?_
            refine J_cUi [.int (nI (p + 2))] 5 mu_X0_32_0 (c_X5_signAt2 r (su 34 (su 33 s (upd (s 33) rr (tlC 0 (bA B 2 len p)))) (upd (s 34) rr (tlC 1 (bA B 2 len (p + 1))))) l B len hlen hl59 hB (p + 2) (by omega)) cW_5 rfl rfl (by decide) (Nat.le_of_ble_eq_true rfl) ⟨Nat.le_refl _, Nat.le_refl _⟩ dX0_readRow_167 ?_
            refine J_bipush (v := nI 48) dX0_readRow_170 (by decide) ?_
            refine J_isub dX0_readRow_172 ?_
            refine J_rw (y := tlC 2 (bA B 2 len (p + 2))) (gC2 kcz4).1.symm ?_
            refine Cs_35 (s := (su 34 (su 33 s (upd (s 33) rr (tlC 0 (bA B 2 len p)))) (upd (s 34) rr (tlC 1 (bA B 2 len (p + 1)))))) (s 35) rfl rr rfl (by omega) dX0_readRow_173 ?_
            refine J_aload_n dX0_readRow_174 rfl rfl ?_
            refine Cg_5_9 fr_X0_21_0 dX0_readRow_175 ?_
            refine J_iload_n dX0_readRow_178 rfl rfl ?_
            refine J_iload dX0_readRow_179 rfl ?_
            refine J_if_eq 197 dX0_readRow_181 (by decide) (fun _ => ?_) (fun c => absurd c (by decide))
            refine J_iconst (v := -1) dX0_readRow_197 (by decide) ?_
            refine J_rw (y := (if (bA B 2 len (p + 3)) = nI 63 then tlC 3 (bA B 2 len (p + 4)) else -1)) (if_neg kcz5).symm ?_
            refine Cs_36 (s := (su 35 (su 34 (su 33 s (upd (s 33) rr (tlC 0 (bA B 2 len p)))) (upd (s 34) rr (tlC 1 (bA B 2 len (p + 1))))) (upd (s 35) rr (tlC 2 (bA B 2 len (p + 2)))))) (s 36) rfl rr rfl (by omega) dX0_readRow_198 ?_
            refine J_iload dX0_readRow_199 rfl ?_
            refine J_if_eq 210 dX0_readRow_201 (by decide) (fun _ => ?_) (fun c => absurd c (by decide))
            refine J_iload_n dX0_readRow_210 rfl rfl ?_
            refine J_iconst (v := nI 3) dX0_readRow_211 (by decide) ?_
            refine J_iaddN dX0_readRow_212 ?_
            exact J_iret dX0_readRow_213 rfl rfl rfl (hq _ (by rw [(rg2n (gC0 kcz1).2 (gC1b kcz3).2 (gC2 kcz4).2 kcz5).2]))
          · refine J_iconst (v := nI 1) dX0_readRow_97 (by decide) ?_
            refine J_goto 102 dX0_readRow_98 (by decide) ?_
            refine J_istore [(0, .ref (r 5)), (1, .int (nI p)), (2, .int (nI rr)), (3, .int (nI 0)), (4, .int (nI 1))] dX0_readRow_102 (by decide) rfl rfl rfl ?_
            refine J_iload dX0_readRow_104 rfl ?_
            refine J_if_eq 129 dX0_readRow_106 (by decide) (fun c => absurd c (by decide)) (fun _ => ?_)
            refine J_aload_n dX0_readRow_109 rfl rfl ?_
            refine J_iload_n dX0_readRow_110 rfl rfl ?_
            refine J_iconst (v := nI 4) dX0_readRow_111 (by decide) ?_
            refine J_iaddN dX0_readRow_112 ?_
            refine J_bipush (v := nI 48) dX0_readRow_113 (by decide) ?_
            refine J_bipush (v := nI 55) dX0_readRow_115 (by decide) ?_
            refine J_cUi [.int (nI (p + 4)), .int (nI 48), .int (nI 55)] 5 mu_X0_28_0 (c_X5_isBetween2 r s l B len hlen hl59 hB (p + 4) (by omega) (nI 48) (nI 55)) cW_5 rfl rfl (by decide) (Nat.le_of_ble_eq_true rfl) ⟨Nat.le_refl _, Nat.le_refl _⟩ dX0_readRow_117 ?_
            refine J_if_neB 129 dX0_readRow_120 (by decide) (fun kcz6 => ?_) (fun kcz6 => ?_)
            · refine J_aload_n dX0_readRow_129 rfl rfl ?_
              refine Cg_5_6 fr_X0_9_0 dX0_readRow_130 ?_
              refine J_iload_n dX0_readRow_133 rfl rfl ?_
              refine J_aload_n dX0_readRow_134 rfl rfl ?_
              refine J_iload_n dX0_readRow_135 rfl rfl ?_
              refine J_cUi [.int (nI p)] 5 mu_X0_32_0 (c_X5_signAt2 r s l B len hlen hl59 hB p (by omega)) cW_5 rfl rfl (by decide) (Nat.le_of_ble_eq_true rfl) ⟨Nat.le_refl _, Nat.le_refl _⟩ dX0_readRow_136 ?_
              refine J_bipush (v := nI 48) dX0_readRow_139 (by decide) ?_
              refine J_isub dX0_readRow_141 ?_
              refine J_rw (y := tlC 0 (bA B 2 len p)) (gC0 kcz1).1.symm ?_
              refine Cs_33 (s := s) (s 33) rfl rr rfl (by omega) dX0_readRow_142 ?_
              refine J_aload_n dX0_readRow_143 rfl rfl ?_
              refine Cg_5_7 fr_X0_15_0 dX0_readRow_144 ?_
              refine J_iload_n dX0_readRow_147 rfl rfl ?_
              refine J_iload_n dX0_readRow_148 rfl rfl ?_
              refine J_if_eq 156 dX0_readRow_149 (by decide) (fun _ => ?_) (fun c => absurd c (by decide))
              refine J_iconst (v := nI 0) dX0_readRow_156 (by decide) ?_
              refine J_rw (y := tlC 1 (bA B 2 len (p + 1))) (gC1b kcz3).1.symm ?_
              refine Cs_34 (s := (su 33 s (upd (s 33) rr (tlC 0 (bA B 2 len p))))) (s 34) rfl rr rfl (by omega) dX0_readRow_157 ?_
              refine J_aload_n dX0_readRow_158 rfl rfl ?_
              refine Cg_5_8 fr_X0_18_0 dX0_readRow_159 ?_
              refine J_iload_n dX0_readRow_162 rfl rfl ?_
              refine J_aload_n dX0_readRow_163 rfl rfl ?_
              refine J_iload_n dX0_readRow_164 rfl rfl ?_
              refine J_iconst (v := nI 2) dX0_readRow_165 (by decide) ?_
              refine J_iaddN dX0_readRow_166 ?_
              refine J_cUi [.int (nI (p + 2))] 5 mu_X0_32_0 (c_X5_signAt2 r (su 34 (su 33 s (upd (s 33) rr (tlC 0 (bA B 2 len p)))) (upd (s 34) rr (tlC 1 (bA B 2 len (p + 1))))) l B len hlen hl59 hB (p + 2) (by omega)) cW_5 rfl rfl (by decide) (Nat.le_of_ble_eq_true rfl) ⟨Nat.le_refl _, Nat.le_refl _⟩ dX0_readRow_167 ?_
              refine J_bipush (v := nI 48) dX0_readRow_170 (by decide) ?_
              refine J_isub dX0_readRow_172 ?_
              refine J_rw (y := tlC 2 (bA B 2 len (p + 2))) (gC2 kcz4).1.symm ?_
              refine Cs_35 (s := (su 34 (su 33 s (upd (s 33) rr (tlC 0 (bA B 2 len p)))) (upd (s 34) rr (tlC 1 (bA B 2 len (p + 1)))))) (s 35) rfl rr rfl (by omega) dX0_readRow_173 ?_
              refine J_aload_n dX0_readRow_174 rfl rfl ?_
              refine Cg_5_9 fr_X0_21_0 dX0_readRow_175 ?_
              refine J_iload_n dX0_readRow_178 rfl rfl ?_
              refine J_iload dX0_readRow_179 rfl ?_
              refine J_if_eq 197 dX0_readRow_181 (by decide) (fun c => absurd c (by decide)) (fun _ => ?_)
              refine J_aload_n dX0_readRow_184 rfl rfl ?_
              refine J_iload_n dX0_readRow_185 rfl rfl ?_
              refine J_iconst (v := nI 4) dX0_readRow_186 (by decide) ?_
              refine J_iaddN dX0_readRow_187 ?_
              refine J_cUi [.int (nI (p + 4))] 5 mu_X0_32_0 (c_X5_signAt2 r (su 35 (su 34 (su 33 s (upd (s 33) rr (tlC 0 (bA B 2 len p)))) (upd (s 34) rr (tlC 1 (bA B 2 len (p + 1))))) (upd (s 35) rr (tlC 2 (bA B 2 len (p + 2))))) l B len hlen hl59 hB (p + 4) (by omega)) cW_5 rfl rfl (by decide) (Nat.le_of_ble_eq_true rfl) ⟨Nat.le_refl _, Nat.le_refl _⟩ dX0_readRow_188 ?_
              refine J_bipush (v := nI 48) dX0_readRow_191 (by decide) ?_
              refine J_isub dX0_readRow_193 ?_
              refine J_goto 198 dX0_readRow_194 (by decide) ?_
              refine J_rw (y := (if (bA B 2 len (p + 3)) = nI 63 then tlC 3 (bA B 2 len (p + 4)) else -1)) ((gC3 kcz6).1.symm.trans (if_pos kcz5).symm) ?_
              refine Cs_36 (s := (su 35 (su 34 (su 33 s (upd (s 33) rr (tlC 0 (bA B 2 len p)))) (upd (s 34) rr (tlC 1 (bA B 2 len (p + 1))))) (upd (s 35) rr (tlC 2 (bA B 2 len (p + 2)))))) (s 36) rfl rr rfl (by omega) dX0_readRow_198 ?_
              refine J_iload dX0_readRow_199 rfl ?_
              refine J_if_eq 210 dX0_readRow_201 (by decide) (fun c => absurd c (by decide)) (fun _ => ?_)
              refine J_iload_n dX0_readRow_204 rfl rfl ?_
              refine J_iconst (v := nI 5) dX0_readRow_205 (by decide) ?_
              refine J_iaddN dX0_readRow_206 ?_
              refine J_goto 213 dX0_readRow_207 (by decide) ?_
              exact J_iret dX0_readRow_213 rfl rfl rfl (hq _ (by rw [(rg2q (gC0 kcz1).2 (gC1b kcz3).2 (gC2 kcz4).2 kcz5 (gC3 kcz6).2).2]))
            · refine J_iload_n dX0_readRow_123 rfl rfl ?_
              refine J_iconst (v := nI 4) dX0_readRow_124 (by decide) ?_
              refine J_iaddN dX0_readRow_125 ?_
              refine J_iconst (v := -1) dX0_readRow_126 (by decide) ?_
              refine J_ixor dX0_readRow_127 ?_
              exact J_iret dX0_readRow_128 rfl rfl rfl (absurd hW (by rw [(rb2_3 (gC0 kcz1).2 (gC1b kcz3).2 (gC2 kcz4).2 kcz5 (bC3 kcz6)).1]; decide))
        · refine J_iload_n dX0_readRow_79 rfl rfl ?_
          refine J_iconst (v := nI 2) dX0_readRow_80 (by decide) ?_
          refine J_iaddN dX0_readRow_81 ?_
          refine J_iconst (v := -1) dX0_readRow_82 (by decide) ?_
          refine J_ixor dX0_readRow_83 ?_
          exact J_iret dX0_readRow_84 rfl rfl rfl (absurd hW (by rw [(rb2_2 (gC0 kcz1).2 (gC1b kcz3).2 (bC2 kcz4)).1]; decide))
      · refine J_iload_n dX0_readRow_59 rfl rfl ?_
        refine J_iconst (v := nI 1) dX0_readRow_60 (by decide) ?_
        refine J_iaddN dX0_readRow_61 ?_
        refine J_iconst (v := -1) dX0_readRow_62 (by decide) ?_
        refine J_ixor dX0_readRow_63 ?_
        exact J_iret dX0_readRow_64 rfl rfl rfl (absurd hW (by rw [(rb2_1 (gC0 kcz1).2 (bC1 kcz2 kcz3)).1]; decide))
    · refine J_iconst (v := nI 1) dX0_readRow_37 (by decide) ?_
      refine J_goto 42 dX0_readRow_38 (by decide) ?_
      refine J_istore_n [(0, .ref (r 5)), (1, .int (nI p)), (2, .int (nI rr)), (3, .int (nI 1))] dX0_readRow_42 rfl (by decide) rfl rfl rfl ?_
      refine J_iload_n dX0_readRow_43 rfl rfl ?_
      refine J_if_ne 65 dX0_readRow_44 (by decide) (fun _ => ?_) (fun c => absurd c (by decide))
      refine J_aload_n dX0_readRow_65 rfl rfl ?_
      refine J_iload_n dX0_readRow_66 rfl rfl ?_
      refine J_iconst (v := nI 2) dX0_readRow_67 (by decide) ?_
      refine J_iaddN dX0_readRow_68 ?_
      refine J_bipush (v := nI 48) dX0_readRow_69 (by decide) ?_
      refine J_bipush (v := nI 53) dX0_readRow_71 (by decide) ?_
      refine J_cUi [.int (nI (p + 2)), .int (nI 48), .int (nI 53)] 5 mu_X0_28_0 (c_X5_isBetween2 r s l B len hlen hl59 hB (p + 2) (by omega) (nI 48) (nI 53)) cW_5 rfl rfl (by decide) (Nat.le_of_ble_eq_true rfl) ⟨Nat.le_refl _, Nat.le_refl _⟩ dX0_readRow_73 ?_
      refine J_if_neB 85 dX0_readRow_76 (by decide) (fun kcz7 => ?_) (fun kcz7 => ?_)
      · refine J_aload_n dX0_readRow_85 rfl rfl ?_
        refine J_iload_n dX0_readRow_86 rfl rfl ?_
        refine J_iconst (v := nI 3) dX0_readRow_87 (by decide) ?_
        refine J_iaddN dX0_readRow_88 ?_
        refine J_cUi [.int (nI (p + 3))] 5 mu_X0_32_0 (c_X5_signAt2 r s l B len hlen hl59 hB (p + 3) (by omega)) cW_5 rfl rfl (by decide) (Nat.le_of_ble_eq_true rfl) ⟨Nat.le_refl _, Nat.le_refl _⟩ dX0_readRow_89 ?_
        refine J_bipush (v := nI 63) dX0_readRow_92 (by decide) ?_
        refine J_icmp_ne 101 dX0_readRow_94 (by decide) (fun kcz8 => ?_) (fun kcz8 => ?_)
        · refine J_iconst (v := nI 0) dX0_readRow_101 (by decide) ?_
          refine J_istore [(0, .ref (r 5)), (1, .int (nI p)), (2, .int (nI rr)), (3, .int (nI 1)), (4, .int (nI 0))] dX0_readRow_102 (by decide) rfl rfl rfl ?_
          refine J_iload dX0_readRow_104 rfl ?_
          refine J_if_eq 129 dX0_readRow_106 (by decide) (fun _ => ?_) (fun c => absurd c (by decide))
          refine J_aload_n dX0_readRow_129 rfl rfl ?_
          refine Cg_5_6 fr_X0_9_0 dX0_readRow_130 ?_
          refine J_iload_n dX0_readRow_133 rfl rfl ?_
          refine J_aload_n dX0_readRow_134 rfl rfl ?_
          refine J_iload_n dX0_readRow_135 rfl rfl ?_
          refine J_cUi [.int (nI p)] 5 mu_X0_32_0 (c_X5_signAt2 r s l B len hlen hl59 hB p (by omega)) cW_5 rfl rfl (by decide) (Nat.le_of_ble_eq_true rfl) ⟨Nat.le_refl _, Nat.le_refl _⟩ dX0_readRow_136 ?_
          refine J_bipush (v := nI 48) dX0_readRow_139 (by decide) ?_
          refine J_isub dX0_readRow_141 ?_
          refine J_rw (y := tlC 0 (bA B 2 len p)) (gC0 kcz1).1.symm ?_
          refine Cs_33 (s := s) (s 33) rfl rr rfl (by omega) dX0_readRow_142 ?_
          refine J_aload_n dX0_readRow_143 rfl rfl ?_
          refine Cg_5_7 fr_X0_15_0 dX0_readRow_144 ?_
          refine J_iload_n dX0_readRow_147 rfl rfl ?_
          refine J_iload_n dX0_readRow_148 rfl rfl ?_
          refine J_if_eq 156 dX0_readRow_149 (by decide) (fun c => absurd c (by decide)) (fun _ => ?_)
          refine J_iconst (v := nI 1) dX0_readRow_152 (by decide) ?_
          refine J_goto 157 dX0_readRow_153 (by decide) ?_
          refine J_rw (y := tlC 1 (bA B 2 len (p + 1))) (gC1a kcz2).1.symm ?_
          refine Cs_34 (s := (su 33 s (upd (s 33) rr (tlC 0 (bA B 2 len p))))) (s 34) rfl rr rfl (by omega) dX0_readRow_157 ?_
          refine J_aload_n dX0_readRow_158 rfl rfl ?_
          refine Cg_5_8 fr_X0_18_0 dX0_readRow_159 ?_
          refine J_iload_n dX0_readRow_162 rfl rfl ?_
          refine J_aload_n dX0_readRow_163 rfl rfl ?_
          refine J_iload_n dX0_readRow_164 rfl rfl ?_
          refine J_iconst (v := nI 2) dX0_readRow_165 (by decide) ?_
          refine J_iaddN dX0_readRow_166 ?_
          refine J_cUi [.int (nI (p + 2))] 5 mu_X0_32_0 (c_X5_signAt2 r (su 34 (su 33 s (upd (s 33) rr (tlC 0 (bA B 2 len p)))) (upd (s 34) rr (tlC 1 (bA B 2 len (p + 1))))) l B len hlen hl59 hB (p + 2) (by omega)) cW_5 rfl rfl (by decide) (Nat.le_of_ble_eq_true rfl) ⟨Nat.le_refl _, Nat.le_refl _⟩ dX0_readRow_167 ?_
          refine J_bipush (v := nI 48) dX0_readRow_170 (by decide) ?_
          refine J_isub dX0_readRow_172 ?_
          refine J_rw (y := tlC 2 (bA B 2 len (p + 2))) (gC2 kcz7).1.symm ?_
          refine Cs_35 (s := (su 34 (su 33 s (upd (s 33) rr (tlC 0 (bA B 2 len p)))) (upd (s 34) rr (tlC 1 (bA B 2 len (p + 1)))))) (s 35) rfl rr rfl (by omega) dX0_readRow_173 ?_
          refine J_aload_n dX0_readRow_174 rfl rfl ?_
          refine Cg_5_9 fr_X0_21_0 dX0_readRow_175 ?_
          refine J_iload_n dX0_readRow_178 rfl rfl ?_
          refine J_iload dX0_readRow_179 rfl ?_
          refine J_if_eq 197 dX0_readRow_181 (by decide) (fun _ => ?_) (fun c => absurd c (by decide))
          refine J_iconst (v := -1) dX0_readRow_197 (by decide) ?_
          refine J_rw (y := (if (bA B 2 len (p + 3)) = nI 63 then tlC 3 (bA B 2 len (p + 4)) else -1)) (if_neg kcz8).symm ?_
          refine Cs_36 (s := (su 35 (su 34 (su 33 s (upd (s 33) rr (tlC 0 (bA B 2 len p)))) (upd (s 34) rr (tlC 1 (bA B 2 len (p + 1))))) (upd (s 35) rr (tlC 2 (bA B 2 len (p + 2)))))) (s 36) rfl rr rfl (by omega) dX0_readRow_198 ?_
          refine J_iload dX0_readRow_199 rfl ?_
          refine J_if_eq 210 dX0_readRow_201 (by decide) (fun _ => ?_) (fun c => absurd c (by decide))
          refine J_iload_n dX0_readRow_210 rfl rfl ?_
          refine J_iconst (v := nI 3) dX0_readRow_211 (by decide) ?_
          refine J_iaddN dX0_readRow_212 ?_
          exact J_iret dX0_readRow_213 rfl rfl rfl (hq _ (by rw [(rg2n (gC0 kcz1).2 (gC1a kcz2).2 (gC2 kcz7).2 kcz8).2]))
        · refine J_iconst (v := nI 1) dX0_readRow_97 (by decide) ?_
          refine J_goto 102 dX0_readRow_98 (by decide) ?_
          refine J_istore [(0, .ref (r 5)), (1, .int (nI p)), (2, .int (nI rr)), (3, .int (nI 1)), (4, .int (nI 1))] dX0_readRow_102 (by decide) rfl rfl rfl ?_
          refine J_iload dX0_readRow_104 rfl ?_
          refine J_if_eq 129 dX0_readRow_106 (by decide) (fun c => absurd c (by decide)) (fun _ => ?_)
          refine J_aload_n dX0_readRow_109 rfl rfl ?_
          refine J_iload_n dX0_readRow_110 rfl rfl ?_
          refine J_iconst (v := nI 4) dX0_readRow_111 (by decide) ?_
          refine J_iaddN dX0_readRow_112 ?_
          refine J_bipush (v := nI 48) dX0_readRow_113 (by decide) ?_
          refine J_bipush (v := nI 55) dX0_readRow_115 (by decide) ?_
          refine J_cUi [.int (nI (p + 4)), .int (nI 48), .int (nI 55)] 5 mu_X0_28_0 (c_X5_isBetween2 r s l B len hlen hl59 hB (p + 4) (by omega) (nI 48) (nI 55)) cW_5 rfl rfl (by decide) (Nat.le_of_ble_eq_true rfl) ⟨Nat.le_refl _, Nat.le_refl _⟩ dX0_readRow_117 ?_
          refine J_if_neB 129 dX0_readRow_120 (by decide) (fun kcz9 => ?_) (fun kcz9 => ?_)
          · refine J_aload_n dX0_readRow_129 rfl rfl ?_
            refine Cg_5_6 fr_X0_9_0 dX0_readRow_130 ?_
            refine J_iload_n dX0_readRow_133 rfl rfl ?_
            refine J_aload_n dX0_readRow_134 rfl rfl ?_
            refine J_iload_n dX0_readRow_135 rfl rfl ?_
            refine J_cUi [.int (nI p)] 5 mu_X0_32_0 (c_X5_signAt2 r s l B len hlen hl59 hB p (by omega)) cW_5 rfl rfl (by decide) (Nat.le_of_ble_eq_true rfl) ⟨Nat.le_refl _, Nat.le_refl _⟩ dX0_readRow_136 ?_
            refine J_bipush (v := nI 48) dX0_readRow_139 (by decide) ?_
            refine J_isub dX0_readRow_141 ?_
            refine J_rw (y := tlC 0 (bA B 2 len p)) (gC0 kcz1).1.symm ?_
            refine Cs_33 (s := s) (s 33) rfl rr rfl (by omega) dX0_readRow_142 ?_
            refine J_aload_n dX0_readRow_143 rfl rfl ?_
            refine Cg_5_7 fr_X0_15_0 dX0_readRow_144 ?_
            refine J_iload_n dX0_readRow_147 rfl rfl ?_
            refine J_iload_n dX0_readRow_148 rfl rfl ?_
            refine J_if_eq 156 dX0_readRow_149 (by decide) (fun c => absurd c (by decide)) (fun _ => ?_)
            refine J_iconst (v := nI 1) dX0_readRow_152 (by decide) ?_
            refine J_goto 157 dX0_readRow_153 (by decide) ?_
            refine J_rw (y := tlC 1 (bA B 2 len (p + 1))) (gC1a kcz2).1.symm ?_
            refine Cs_34 (s := (su 33 s (upd (s 33) rr (tlC 0 (bA B 2 len p))))) (s 34) rfl rr rfl (by omega) dX0_readRow_157 ?_
            refine J_aload_n dX0_readRow_158 rfl rfl ?_
            refine Cg_5_8 fr_X0_18_0 dX0_readRow_159 ?_
            refine J_iload_n dX0_readRow_162 rfl rfl ?_
            refine J_aload_n dX0_readRow_163 rfl rfl ?_
            refine J_iload_n dX0_readRow_164 rfl rfl ?_
            refine J_iconst (v := nI 2) dX0_readRow_165 (by decide) ?_
            refine J_iaddN dX0_readRow_166 ?_
            refine J_cUi [.int (nI (p + 2))] 5 mu_X0_32_0 (c_X5_signAt2 r (su 34 (su 33 s (upd (s 33) rr (tlC 0 (bA B 2 len p)))) (upd (s 34) rr (tlC 1 (bA B 2 len (p + 1))))) l B len hlen hl59 hB (p + 2) (by omega)) cW_5 rfl rfl (by decide) (Nat.le_of_ble_eq_true rfl) ⟨Nat.le_refl _, Nat.le_refl _⟩ dX0_readRow_167 ?_
            refine J_bipush (v := nI 48) dX0_readRow_170 (by decide) ?_
            refine J_isub dX0_readRow_172 ?_
            refine J_rw (y := tlC 2 (bA B 2 len (p + 2))) (gC2 kcz7).1.symm ?_
            refine Cs_35 (s := (su 34 (su 33 s (upd (s 33) rr (tlC 0 (bA B 2 len p)))) (upd (s 34) rr (tlC 1 (bA B 2 len (p + 1)))))) (s 35) rfl rr rfl (by omega) dX0_readRow_173 ?_
            refine J_aload_n dX0_readRow_174 rfl rfl ?_
            refine Cg_5_9 fr_X0_21_0 dX0_readRow_175 ?_
            refine J_iload_n dX0_readRow_178 rfl rfl ?_
            refine J_iload dX0_readRow_179 rfl ?_
            refine J_if_eq 197 dX0_readRow_181 (by decide) (fun c => absurd c (by decide)) (fun _ => ?_)
            refine J_aload_n dX0_readRow_184 rfl rfl ?_
            refine J_iload_n dX0_readRow_185 rfl rfl ?_
            refine J_iconst (v := nI 4) dX0_readRow_186 (by decide) ?_
            refine J_iaddN dX0_readRow_187 ?_
            refine J_cUi [.int (nI (p + 4))] 5 mu_X0_32_0 (c_X5_signAt2 r (su 35 (su 34 (su 33 s (upd (s 33) rr (tlC 0 (bA B 2 len p)))) (upd (s 34) rr (tlC 1 (bA B 2 len (p + 1))))) (upd (s 35) rr (tlC 2 (bA B 2 len (p + 2))))) l B len hlen hl59 hB (p + 4) (by omega)) cW_5 rfl rfl (by decide) (Nat.le_of_ble_eq_true rfl) ⟨Nat.le_refl _, Nat.le_refl _⟩ dX0_readRow_188 ?_
            refine J_bipush (v := nI 48) dX0_readRow_191 (by decide) ?_
            refine J_isub dX0_readRow_193 ?_
            refine J_goto 198 dX0_readRow_194 (by decide) ?_
            refine J_rw (y := (if (bA B 2 len (p + 3)) = nI 63 then tlC 3 (bA B 2 len (p + 4)) else -1)) ((gC3 kcz9).1.symm.trans (if_pos kcz8).symm) ?_
            refine Cs_36 (s := (su 35 (su 34 (su 33 s (upd (s 33) rr (tlC 0 (bA B 2 len p)))) (upd (s 34) rr (tlC 1 (bA B 2 len (p + 1))))) (upd (s 35) rr (tlC 2 (bA B 2 len (p + 2)))))) (s 36) rfl rr rfl (by omega) dX0_readRow_198 ?_
            refine J_iload dX0_readRow_199 rfl ?_
            refine J_if_eq 210 dX0_readRow_201 (by decide) (fun c => absurd c (by decide)) (fun _ => ?_)
            refine J_iload_n dX0_readRow_204 rfl rfl ?_
            refine J_iconst (v := nI 5) dX0_readRow_205 (by decide) ?_
            refine J_iaddN dX0_readRow_206 ?_
            refine J_goto 213 dX0_readRow_207 (by decide) ?_
            exact J_iret dX0_readRow_213 rfl rfl rfl (hq _ (by rw [(rg2q (gC0 kcz1).2 (gC1a kcz2).2 (gC2 kcz7).2 kcz8 (gC3 kcz9).2).2]))
          · refine J_iload_n dX0_readRow_123 rfl rfl ?_
            refine J_iconst (v := nI 4) dX0_readRow_124 (by decide) ?_
            refine J_iaddN dX0_readRow_125 ?_
            refine J_iconst (v := -1) dX0_readRow_126 (by decide) ?_
            refine J_ixor dX0_readRow_127 ?_
            exact J_iret dX0_readRow_128 rfl rfl rfl (absurd hW (by rw [(rb2_3 (gC0 kcz1).2 (gC1a kcz2).2 (gC2 kcz7).2 kcz8 (bC3 kcz9)).1]; decide))
      · refine J_iload_n dX0_readRow_79 rfl rfl ?_
        refine J_iconst (v := nI 2) dX0_readRow_80 (by decide) ?_
        refine J_iaddN dX0_readRow_81 ?_
        refine J_iconst (v := -1) dX0_readRow_82 (by decide) ?_
        refine J_ixor dX0_readRow_83 ?_
        exact J_iret dX0_readRow_84 rfl rfl rfl (absurd hW (by rw [(rb2_2 (gC0 kcz1).2 (gC1a kcz2).2 (bC2 kcz7)).1]; decide))
  · refine J_iload_n dX0_readRow_21 rfl rfl ?_
    refine J_iconst (v := -1) dX0_readRow_22 (by decide) ?_
    refine J_ixor dX0_readRow_23 ?_
    exact J_iret dX0_readRow_24 rfl rfl rfl (absurd hW (by rw [(rb2_0  (bC0 kcz1)).1]; decide))
theorem c_X0_readRow_ok {G : GT} (r : Nat → Nat) (s : St) (l : Nat → Int64) (B : Nat → Int32) (len : Nat) (hlen : s 57 0 = nI len) (hl59 : len ≤ 59) (hB : ∀ p, p < len → s 32 p = B (60 * 2 + p)) (p rr : Nat) (hp : p ≤ 70) (hrr : rr < 15) (hW : rW2 B len p = true) : Ct G yX0_readRow cX0_readRow 5 (some .int) 0 0 3 [.ref (r 5), .int (nI p), .int (nI rr)] (cW G r s l) (Is (some (.int (nI (rE2 B len p)))) (cW G r (su 36 (su 35 (su 34 (su 33 s (upd (s 33) rr (tlC 0 (bA B 2 len p)))) (upd (s 34) rr (tlC 1 (bA B 2 len (p + 1))))) (upd (s 35) rr (tlC 2 (bA B 2 len (p + 2))))) (upd (s 36) rr (if (bA B 2 len (p + 3)) = nI 63 then tlC 3 (bA B 2 len (p + 4)) else -1))) l)) := Ct.of rfl (Nat.le_of_ble_eq_true rfl) (j_X0_readRow_ok r s l B len hlen hl59 hB p rr hp hrr hW (fun _ e => by subst e; exact Is.rf _ _))
set_option maxRecDepth 100000 in
set_option maxHeartbeats 1000000 in
theorem j_X0_readRow_bad {G : GT} (r : Nat → Nat) (s : St) (l : Nat → Int64) (B : Nat → Int32) (len : Nat) (hlen : s 57 0 = nI len) (hl59 : len ≤ 59) (hB : ∀ p, p < len → s 32 p = B (60 * 2 + p)) (p rr : Nat) (hp : p ≤ 70) (hrr : rr < 15) (hW : rW2 B len p = false) {Q : Option Value → va_W → Prop} (hq : ∀ v_ : Int32, v_ = nI (rE2 B len p) ^^^ (-1) → Q (some (.int v_)) (cW G r s l)) : J G "readRow" RX0 cX0_readRow 5 (some .int) 0 0 3 Q 0 0 0 [(0, .ref (r 5)), (1, .int (nI p)), (2, .int (nI rr))] [] (cW G r s l) := by
  refine J_iload_n dX0_readRow_0 rfl rfl ?_
  refine J_bipush (v := nI 15) dX0_readRow_1 (by decide) ?_
  refine J_cNi [.int (nI rr), .int (nI 15)] mn_X0_24 (c_X11_isBelowN (cW G r s l) (nI rr) 15) rfl rfl (by decide) (Nat.le_of_ble_eq_true rfl) ⟨Nat.le_refl _, Nat.le_refl _⟩ dX0_readRow_3 ?_
  refine J_if_eqB 21 dX0_readRow_6 (by decide) (fun c => absurd c (by rw [(rng_of hrr (by decide))]; decide)) (fun _ => ?_)
  refine J_aload_n dX0_readRow_9 rfl rfl ?_
  refine J_iload_n dX0_readRow_10 rfl rfl ?_
  refine J_bipush (v := nI 48) dX0_readRow_11 (by decide) ?_
  refine J_bipush (v := nI 55) dX0_readRow_13 (by decide) ?_
  refine J_cUi [.int (nI p), .int (nI 48), .int (nI 55)] 5 mu_X0_28_0 (c_X5_isBetween2 r s l B len hlen hl59 hB p (by omega) (nI 48) (nI 55)) cW_5 rfl rfl (by decide) (Nat.le_of_ble_eq_true rfl) ⟨Nat.le_refl _, Nat.le_refl _⟩ dX0_readRow_15 ?_
  refine J_if_neB 25 dX0_readRow_18 (by decide) (fun kcz1 => ?_) (fun kcz1 => ?_)
  · refine J_aload_n dX0_readRow_25 rfl rfl ?_
    refine J_iload_n dX0_readRow_26 rfl rfl ?_
    refine J_iconst (v := nI 1) dX0_readRow_27 (by decide) ?_
    refine J_iaddN dX0_readRow_28 ?_
    refine J_cUi [.int (nI (p + 1))] 5 mu_X0_32_0 (c_X5_signAt2 r s l B len hlen hl59 hB (p + 1) (by omega)) cW_5 rfl rfl (by decide) (Nat.le_of_ble_eq_true rfl) ⟨Nat.le_refl _, Nat.le_refl _⟩ dX0_readRow_29 ?_
    refine J_bipush (v := nI 43) dX0_readRow_32 (by decide) ?_
    refine J_icmp_ne 41 dX0_readRow_34 (by decide) (fun kcz2 => ?_) (fun kcz2 => ?_)
    · refine J_iconst (v := nI 0) dX0_readRow_41 (by decide) ?_
      refine J_istore_n [(0, .ref (r 5)), (1, .int (nI p)), (2, .int (nI rr)), (3, .int (nI 0))] dX0_readRow_42 rfl (by decide) rfl rfl rfl ?_
      refine J_iload_n dX0_readRow_43 rfl rfl ?_
      refine J_if_ne 65 dX0_readRow_44 (by decide) (fun c => absurd c (by decide)) (fun _ => ?_)
      refine J_aload_n dX0_readRow_47 rfl rfl ?_
      refine J_iload_n dX0_readRow_48 rfl rfl ?_
      refine J_iconst (v := nI 1) dX0_readRow_49 (by decide) ?_
      refine J_iaddN dX0_readRow_50 ?_
      refine J_cUi [.int (nI (p + 1))] 5 mu_X0_32_0 (c_X5_signAt2 r s l B len hlen hl59 hB (p + 1) (by omega)) cW_5 rfl rfl (by decide) (Nat.le_of_ble_eq_true rfl) ⟨Nat.le_refl _, Nat.le_refl _⟩ dX0_readRow_51 ?_
      refine J_bipush (v := nI 45) dX0_readRow_54 (by decide) ?_
      refine J_icmp_eq 65 dX0_readRow_56 (by decide) (fun kcz3 => ?_) (fun kcz3 => ?_)
      · refine J_aload_n dX0_readRow_65 rfl rfl ?_
        refine J_iload_n dX0_readRow_66 rfl rfl ?_
        refine J_iconst (v := nI 2) dX0_readRow_67 (by decide) ?_
        refine J_iaddN dX0_readRow_68 ?_
        refine J_bipush (v := nI 48) dX0_readRow_69 (by decide) ?_
        refine J_bipush (v := nI 53) dX0_readRow_71 (by decide) ?_
        refine J_cUi [.int (nI (p + 2)), .int (nI 48), .int (nI 53)] 5 mu_X0_28_0 (c_X5_isBetween2 r s l B len hlen hl59 hB (p + 2) (by omega) (nI 48) (nI 53)) cW_5 rfl rfl (by decide) (Nat.le_of_ble_eq_true rfl) ⟨Nat.le_refl _, Nat.le_refl _⟩ dX0_readRow_73 ?_
        refine J_if_neB 85 dX0_readRow_76 (by decide) (fun kcz4 => ?_) (fun kcz4 => ?_)
        · refine J_aload_n dX0_readRow_85 rfl rfl ?_
          refine J_iload_n dX0_readRow_86 rfl rfl ?_
          refine J_iconst (v := nI 3) dX0_readRow_87 (by decide) ?_
          refine J_iaddN dX0_readRow_88 ?_
          refine J_cUi [.int (nI (p + 3))] 5 mu_X0_32_0 (c_X5_signAt2 r s l B len hlen hl59 hB (p + 3) (by omega)) cW_5 rfl rfl (by decide) (Nat.le_of_ble_eq_true rfl) ⟨Nat.le_refl _, Nat.le_refl _⟩ dX0_readRow_89 ?_
          refine J_bipush (v := nI 63) dX0_readRow_92 (by decide) ?_
          refine J_icmp_ne 101 dX0_readRow_94 (by decide) (fun kcz5 => ?_) (fun kcz5 => ?_)
          · refine J_iconst (v := nI 0) dX0_readRow_101 (by decide) ?_
            refine J_istore [(0, .ref (r 5)), (1, .int (nI p)), (2, .int (nI rr)), (3, .int (nI 0)), (4, .int (nI 0))] dX0_readRow_102 (by decide) rfl rfl rfl ?_
            refine J_iload dX0_readRow_104 rfl ?_
            refine J_if_eq 129 dX0_readRow_106 (by decide) (fun _ => ?_) (fun c => absurd c (by decide))
            refine J_aload_n dX0_readRow_129 rfl rfl ?_
            refine Cg_5_6 fr_X0_9_0 dX0_readRow_130 ?_
            refine J_iload_n dX0_readRow_133 rfl rfl ?_
            refine J_aload_n dX0_readRow_134 rfl rfl ?_
            refine J_iload_n dX0_readRow_135 rfl rfl ?_
            refine J_cUi [.int (nI p)] 5 mu_X0_32_0 (c_X5_signAt2 r s l B len hlen hl59 hB p (by omega)) cW_5 rfl rfl (by decide) (Nat.le_of_ble_eq_true rfl) ⟨Nat.le_refl _, Nat.le_refl _⟩ dX0_readRow_136 ?_
            refine J_bipush (v := nI 48) dX0_readRow_139 (by decide) ?_
            refine J_isub dX0_readRow_141 ?_
            refine J_rw (y := tlC 0 (bA B 2 len p)) (gC0 kcz1).1.symm ?_
            refine Cs_33 (s := s) (s 33) rfl rr rfl (by omega) dX0_readRow_142 ?_
            refine J_aload_n dX0_readRow_143 rfl rfl ?_
            refine Cg_5_7 fr_X0_15_0 dX0_readRow_144 ?_
            refine J_iload_n dX0_readRow_147 rfl rfl ?_
            refine J_iload_n dX0_readRow_148 rfl rfl ?_
            refine J_if_eq 156 dX0_readRow_149 (by decide) (fun _ => ?_) (fun c => absurd c (by decide))
            refine J_iconst (v := nI 0) dX0_readRow_156 (by decide) ?_
            refine J_rw (y := tlC 1 (bA B 2 len (p + 1))) (gC1b kcz3).1.symm ?_
            refine Cs_34 (s := (su 33 s (upd (s 33) rr (tlC 0 (bA B 2 len p))))) (s 34) rfl rr rfl (by omega) dX0_readRow_157 ?_
            refine J_aload_n dX0_readRow_158 rfl rfl ?_
            refine Cg_5_8 fr_X0_18_0 dX0_readRow_159 ?_
            refine J_iload_n dX0_readRow_162 rfl rfl ?_
            refine J_aload_n dX0_readRow_163 rfl rfl ?_
            refine J_iload_n dX0_readRow_164 rfl rfl ?_
            refine J_iconst (v := nI 2) dX0_readRow_165 (by decide) ?_
            refine J_iaddN dX0_readRow_166 ?_
            refine J_cUi [.int (nI (p + 2))] 5 mu_X0_32_0 (c_X5_signAt2 r (su 34 (su 33 s (upd (s 33) rr (tlC 0 (bA B 2 len p)))) (upd (s 34) rr (tlC 1 (bA B 2 len (p + 1))))) l B len hlen hl59 hB (p + 2) (by omega)) cW_5 rfl rfl (by decide) (Nat.le_of_ble_eq_true rfl) ⟨Nat.le_refl _, Nat.le_refl _⟩ dX0_readRow_167 ?_
            refine J_bipush (v := nI 48) dX0_readRow_170 (by decide) ?_
            refine J_isub dX0_readRow_172 ?_
            refine J_rw (y := tlC 2 (bA B 2 len (p + 2))) (gC2 kcz4).1.symm ?_
            refine Cs_35 (s := (su 34 (su 33 s (upd (s 33) rr (tlC 0 (bA B 2 len p)))) (upd (s 34) rr (tlC 1 (bA B 2 len (p + 1)))))) (s 35) rfl rr rfl (by omega) dX0_readRow_173 ?_
            refine J_aload_n dX0_readRow_174 rfl rfl ?_
            refine Cg_5_9 fr_X0_21_0 dX0_readRow_175 ?_
            refine J_iload_n dX0_readRow_178 rfl rfl ?_
            refine J_iload dX0_readRow_179 rfl ?_
            refine J_if_eq 197 dX0_readRow_181 (by decide) (fun _ => ?_) (fun c => absurd c (by decide))
            refine J_iconst (v := -1) dX0_readRow_197 (by decide) ?_
            refine J_rw (y := (if (bA B 2 len (p + 3)) = nI 63 then tlC 3 (bA B 2 len (p + 4)) else -1)) (if_neg kcz5).symm ?_
            refine Cs_36 (s := (su 35 (su 34 (su 33 s (upd (s 33) rr (tlC 0 (bA B 2 len p)))) (upd (s 34) rr (tlC 1 (bA B 2 len (p + 1))))) (upd (s 35) rr (tlC 2 (bA B 2 len (p + 2)))))) (s 36) rfl rr rfl (by omega) dX0_readRow_198 ?_
            refine J_iload dX0_readRow_199 rfl ?_
            refine J_if_eq 210 dX0_readRow_201 (by decide) (fun _ => ?_) (fun c => absurd c (by decide))
            refine J_iload_n dX0_readRow_210 rfl rfl ?_
            refine J_iconst (v := nI 3) dX0_readRow_211 (by decide) ?_
            refine J_iaddN dX0_readRow_212 ?_
            exact J_iret dX0_readRow_213 rfl rfl rfl (absurd hW (by rw [(rg2n (gC0 kcz1).2 (gC1b kcz3).2 (gC2 kcz4).2 kcz5).1]; decide))
          · refine J_iconst (v := nI 1) dX0_readRow_97 (by decide) ?_
            refine J_goto 102 dX0_readRow_98 (by decide) ?_
            refine J_istore [(0, .ref (r 5)), (1, .int (nI p)), (2, .int (nI rr)), (3, .int (nI 0)), (4, .int (nI 1))] dX0_readRow_102 (by decide) rfl rfl rfl ?_
            refine J_iload dX0_readRow_104 rfl ?_
            refine J_if_eq 129 dX0_readRow_106 (by decide) (fun c => absurd c (by decide)) (fun _ => ?_)
            refine J_aload_n dX0_readRow_109 rfl rfl ?_
            refine J_iload_n dX0_readRow_110 rfl rfl ?_
            refine J_iconst (v := nI 4) dX0_readRow_111 (by decide) ?_
            refine J_iaddN dX0_readRow_112 ?_
            refine J_bipush (v := nI 48) dX0_readRow_113 (by decide) ?_
            refine J_bipush (v := nI 55) dX0_readRow_115 (by decide) ?_
            refine J_cUi [.int (nI (p + 4)), .int (nI 48), .int (nI 55)] 5 mu_X0_28_0 (c_X5_isBetween2 r s l B len hlen hl59 hB (p + 4) (by omega) (nI 48) (nI 55)) cW_5 rfl rfl (by decide) (Nat.le_of_ble_eq_true rfl) ⟨Nat.le_refl _, Nat.le_refl _⟩ dX0_readRow_117 ?_
            refine J_if_neB 129 dX0_readRow_120 (by decide) (fun kcz6 => ?_) (fun kcz6 => ?_)
            · refine J_aload_n dX0_readRow_129 rfl rfl ?_
              refine Cg_5_6 fr_X0_9_0 dX0_readRow_130 ?_
              refine J_iload_n dX0_readRow_133 rfl rfl ?_
              refine J_aload_n dX0_readRow_134 rfl rfl ?_
              refine J_iload_n dX0_readRow_135 rfl rfl ?_
              refine J_cUi [.int (nI p)] 5 mu_X0_32_0 (c_X5_signAt2 r s l B len hlen hl59 hB p (by omega)) cW_5 rfl rfl (by decide) (Nat.le_of_ble_eq_true rfl) ⟨Nat.le_refl _, Nat.le_refl _⟩ dX0_readRow_136 ?_
              refine J_bipush (v := nI 48) dX0_readRow_139 (by decide) ?_
              refine J_isub dX0_readRow_141 ?_
              refine J_rw (y := tlC 0 (bA B 2 len p)) (gC0 kcz1).1.symm ?_
              refine Cs_33 (s := s) (s 33) rfl rr rfl (by omega) dX0_readRow_142 ?_
              refine J_aload_n dX0_readRow_143 rfl rfl ?_
              refine Cg_5_7 fr_X0_15_0 dX0_readRow_144 ?_
              refine J_iload_n dX0_readRow_147 rfl rfl ?_
              refine J_iload_n dX0_readRow_148 rfl rfl ?_
              refine J_if_eq 156 dX0_readRow_149 (by decide) (fun _ => ?_) (fun c => absurd c (by decide))
              refine J_iconst (v := nI 0) dX0_readRow_156 (by decide) ?_
              refine J_rw (y := tlC 1 (bA B 2 len (p + 1))) (gC1b kcz3).1.symm ?_
              refine Cs_34 (s := (su 33 s (upd (s 33) rr (tlC 0 (bA B 2 len p))))) (s 34) rfl rr rfl (by omega) dX0_readRow_157 ?_
              refine J_aload_n dX0_readRow_158 rfl rfl ?_
              refine Cg_5_8 fr_X0_18_0 dX0_readRow_159 ?_
              refine J_iload_n dX0_readRow_162 rfl rfl ?_
              refine J_aload_n dX0_readRow_163 rfl rfl ?_
              refine J_iload_n dX0_readRow_164 rfl rfl ?_
              refine J_iconst (v := nI 2) dX0_readRow_165 (by decide) ?_
              refine J_iaddN dX0_readRow_166 ?_
              refine J_cUi [.int (nI (p + 2))] 5 mu_X0_32_0 (c_X5_signAt2 r (su 34 (su 33 s (upd (s 33) rr (tlC 0 (bA B 2 len p)))) (upd (s 34) rr (tlC 1 (bA B 2 len (p + 1))))) l B len hlen hl59 hB (p + 2) (by omega)) cW_5 rfl rfl (by decide) (Nat.le_of_ble_eq_true rfl) ⟨Nat.le_refl _, Nat.le_refl _⟩ dX0_readRow_167 ?_
              refine J_bipush (v := nI 48) dX0_readRow_170 (by decide) ?_
              refine J_isub dX0_readRow_172 ?_
              refine J_rw (y := tlC 2 (bA B 2 len (p + 2))) (gC2 kcz4).1.symm ?_
              refine Cs_35 (s := (su 34 (su 33 s (upd (s 33) rr (tlC 0 (bA B 2 len p)))) (upd (s 34) rr (tlC 1 (bA B 2 len (p + 1)))))) (s 35) rfl rr rfl (by omega) dX0_readRow_173 ?_
              refine J_aload_n dX0_readRow_174 rfl rfl ?_
              refine Cg_5_9 fr_X0_21_0 dX0_readRow_175 ?_
              refine J_iload_n dX0_readRow_178 rfl rfl ?_
              refine J_iload dX0_readRow_179 rfl ?_
              refine J_if_eq 197 dX0_readRow_181 (by decide) (fun c => absurd c (by decide)) (fun _ => ?_)
              refine J_aload_n dX0_readRow_184 rfl rfl ?_
              refine J_iload_n dX0_readRow_185 rfl rfl ?_
              refine J_iconst (v := nI 4) dX0_readRow_186 (by decide) ?_
              refine J_iaddN dX0_readRow_187 ?_
              refine J_cUi [.int (nI (p + 4))] 5 mu_X0_32_0 (c_X5_signAt2 r (su 35 (su 34 (su 33 s (upd (s 33) rr (tlC 0 (bA B 2 len p)))) (upd (s 34) rr (tlC 1 (bA B 2 len (p + 1))))) (upd (s 35) rr (tlC 2 (bA B 2 len (p + 2))))) l B len hlen hl59 hB (p + 4) (by omega)) cW_5 rfl rfl (by decide) (Nat.le_of_ble_eq_true rfl) ⟨Nat.le_refl _, Nat.le_refl _⟩ dX0_readRow_188 ?_
              refine J_bipush (v := nI 48) dX0_readRow_191 (by decide) ?_
              refine J_isub dX0_readRow_193 ?_
              refine J_goto 198 dX0_readRow_194 (by decide) ?_
              refine J_rw (y := (if (bA B 2 len (p + 3)) = nI 63 then tlC 3 (bA B 2 len (p + 4)) else -1)) ((gC3 kcz6).1.symm.trans (if_pos kcz5).symm) ?_
              refine Cs_36 (s := (su 35 (su 34 (su 33 s (upd (s 33) rr (tlC 0 (bA B 2 len p)))) (upd (s 34) rr (tlC 1 (bA B 2 len (p + 1))))) (upd (s 35) rr (tlC 2 (bA B 2 len (p + 2)))))) (s 36) rfl rr rfl (by omega) dX0_readRow_198 ?_
              refine J_iload dX0_readRow_199 rfl ?_
              refine J_if_eq 210 dX0_readRow_201 (by decide) (fun c => absurd c (by decide)) (fun _ => ?_)
              refine J_iload_n dX0_readRow_204 rfl rfl ?_
              refine J_iconst (v := nI 5) dX0_readRow_205 (by decide) ?_
              refine J_iaddN dX0_readRow_206 ?_
              refine J_goto 213 dX0_readRow_207 (by decide) ?_
              exact J_iret dX0_readRow_213 rfl rfl rfl (absurd hW (by rw [(rg2q (gC0 kcz1).2 (gC1b kcz3).2 (gC2 kcz4).2 kcz5 (gC3 kcz6).2).1]; decide))
            · refine J_iload_n dX0_readRow_123 rfl rfl ?_
              refine J_iconst (v := nI 4) dX0_readRow_124 (by decide) ?_
              refine J_iaddN dX0_readRow_125 ?_
              refine J_iconst (v := -1) dX0_readRow_126 (by decide) ?_
              refine J_ixor dX0_readRow_127 ?_
              exact J_iret dX0_readRow_128 rfl rfl rfl (hq _ (by rw [(rb2_3 (gC0 kcz1).2 (gC1b kcz3).2 (gC2 kcz4).2 kcz5 (bC3 kcz6)).2]))
        · refine J_iload_n dX0_readRow_79 rfl rfl ?_
          refine J_iconst (v := nI 2) dX0_readRow_80 (by decide) ?_
          refine J_iaddN dX0_readRow_81 ?_
          refine J_iconst (v := -1) dX0_readRow_82 (by decide) ?_
          refine J_ixor dX0_readRow_83 ?_
          exact J_iret dX0_readRow_84 rfl rfl rfl (hq _ (by rw [(rb2_2 (gC0 kcz1).2 (gC1b kcz3).2 (bC2 kcz4)).2]))
      · refine J_iload_n dX0_readRow_59 rfl rfl ?_
        refine J_iconst (v := nI 1) dX0_readRow_60 (by decide) ?_
        refine J_iaddN dX0_readRow_61 ?_
        refine J_iconst (v := -1) dX0_readRow_62 (by decide) ?_
        refine J_ixor dX0_readRow_63 ?_
        exact J_iret dX0_readRow_64 rfl rfl rfl (hq _ (by rw [(rb2_1 (gC0 kcz1).2 (bC1 kcz2 kcz3)).2]))
    · refine J_iconst (v := nI 1) dX0_readRow_37 (by decide) ?_
      refine J_goto 42 dX0_readRow_38 (by decide) ?_
      refine J_istore_n [(0, .ref (r 5)), (1, .int (nI p)), (2, .int (nI rr)), (3, .int (nI 1))] dX0_readRow_42 rfl (by decide) rfl rfl rfl ?_
      refine J_iload_n dX0_readRow_43 rfl rfl ?_
      refine J_if_ne 65 dX0_readRow_44 (by decide) (fun _ => ?_) (fun c => absurd c (by decide))
      refine J_aload_n dX0_readRow_65 rfl rfl ?_
      refine J_iload_n dX0_readRow_66 rfl rfl ?_
      refine J_iconst (v := nI 2) dX0_readRow_67 (by decide) ?_
      refine J_iaddN dX0_readRow_68 ?_
      refine J_bipush (v := nI 48) dX0_readRow_69 (by decide) ?_
      refine J_bipush (v := nI 53) dX0_readRow_71 (by decide) ?_
      refine J_cUi [.int (nI (p + 2)), .int (nI 48), .int (nI 53)] 5 mu_X0_28_0 (c_X5_isBetween2 r s l B len hlen hl59 hB (p + 2) (by omega) (nI 48) (nI 53)) cW_5 rfl rfl (by decide) (Nat.le_of_ble_eq_true rfl) ⟨Nat.le_refl _, Nat.le_refl _⟩ dX0_readRow_73 ?_
      refine J_if_neB 85 dX0_readRow_76 (by decide) (fun kcz7 => ?_) (fun kcz7 => ?_)
      · refine J_aload_n dX0_readRow_85 rfl rfl ?_
        refine J_iload_n dX0_readRow_86 rfl rfl ?_
        refine J_iconst (v := nI 3) dX0_readRow_87 (by decide) ?_
        refine J_iaddN dX0_readRow_88 ?_
        refine J_cUi [.int (nI (p + 3))] 5 mu_X0_32_0 (c_X5_signAt2 r s l B len hlen hl59 hB (p + 3) (by omega)) cW_5 rfl rfl (by decide) (Nat.le_of_ble_eq_true rfl) ⟨Nat.le_refl _, Nat.le_refl _⟩ dX0_readRow_89 ?_
        refine J_bipush (v := nI 63) dX0_readRow_92 (by decide) ?_
        refine J_icmp_ne 101 dX0_readRow_94 (by decide) (fun kcz8 => ?_) (fun kcz8 => ?_)
        · refine J_iconst (v := nI 0) dX0_readRow_101 (by decide) ?_
          refine J_istore [(0, .ref (r 5)), (1, .int (nI p)), (2, .int (nI rr)), (3, .int (nI 1)), (4, .int (nI 0))] dX0_readRow_102 (by decide) rfl rfl rfl ?_
          refine J_iload dX0_readRow_104 rfl ?_
          refine J_if_eq 129 dX0_readRow_106 (by decide) (fun _ => ?_) (fun c => absurd c (by decide))
          refine J_aload_n dX0_readRow_129 rfl rfl ?_
          refine Cg_5_6 fr_X0_9_0 dX0_readRow_130 ?_
          refine J_iload_n dX0_readRow_133 rfl rfl ?_
          refine J_aload_n dX0_readRow_134 rfl rfl ?_
          refine J_iload_n dX0_readRow_135 rfl rfl ?_
          refine J_cUi [.int (nI p)] 5 mu_X0_32_0 (c_X5_signAt2 r s l B len hlen hl59 hB p (by omega)) cW_5 rfl rfl (by decide) (Nat.le_of_ble_eq_true rfl) ⟨Nat.le_refl _, Nat.le_refl _⟩ dX0_readRow_136 ?_
          refine J_bipush (v := nI 48) dX0_readRow_139 (by decide) ?_
          refine J_isub dX0_readRow_141 ?_
          refine J_rw (y := tlC 0 (bA B 2 len p)) (gC0 kcz1).1.symm ?_
          refine Cs_33 (s := s) (s 33) rfl rr rfl (by omega) dX0_readRow_142 ?_
          refine J_aload_n dX0_readRow_143 rfl rfl ?_
          refine Cg_5_7 fr_X0_15_0 dX0_readRow_144 ?_
          refine J_iload_n dX0_readRow_147 rfl rfl ?_
          refine J_iload_n dX0_readRow_148 rfl rfl ?_
          refine J_if_eq 156 dX0_readRow_149 (by decide) (fun c => absurd c (by decide)) (fun _ => ?_)
          refine J_iconst (v := nI 1) dX0_readRow_152 (by decide) ?_
          refine J_goto 157 dX0_readRow_153 (by decide) ?_
          refine J_rw (y := tlC 1 (bA B 2 len (p + 1))) (gC1a kcz2).1.symm ?_
          refine Cs_34 (s := (su 33 s (upd (s 33) rr (tlC 0 (bA B 2 len p))))) (s 34) rfl rr rfl (by omega) dX0_readRow_157 ?_
          refine J_aload_n dX0_readRow_158 rfl rfl ?_
          refine Cg_5_8 fr_X0_18_0 dX0_readRow_159 ?_
          refine J_iload_n dX0_readRow_162 rfl rfl ?_
          refine J_aload_n dX0_readRow_163 rfl rfl ?_
          refine J_iload_n dX0_readRow_164 rfl rfl ?_
          refine J_iconst (v := nI 2) dX0_readRow_165 (by decide) ?_
          refine J_iaddN dX0_readRow_166 ?_
          refine J_cUi [.int (nI (p + 2))] 5 mu_X0_32_0 (c_X5_signAt2 r (su 34 (su 33 s (upd (s 33) rr (tlC 0 (bA B 2 len p)))) (upd (s 34) rr (tlC 1 (bA B 2 len (p + 1))))) l B len hlen hl59 hB (p + 2) (by omega)) cW_5 rfl rfl (by decide) (Nat.le_of_ble_eq_true rfl) ⟨Nat.le_refl _, Nat.le_refl _⟩ dX0_readRow_167 ?_
          refine J_bipush (v := nI 48) dX0_readRow_170 (by decide) ?_
          refine J_isub dX0_readRow_172 ?_
          refine J_rw (y := tlC 2 (bA B 2 len (p + 2))) (gC2 kcz7).1.symm ?_
          refine Cs_35 (s := (su 34 (su 33 s (upd (s 33) rr (tlC 0 (bA B 2 len p)))) (upd (s 34) rr (tlC 1 (bA B 2 len (p + 1)))))) (s 35) rfl rr rfl (by omega) dX0_readRow_173 ?_
          refine J_aload_n dX0_readRow_174 rfl rfl ?_
          refine Cg_5_9 fr_X0_21_0 dX0_readRow_175 ?_
          refine J_iload_n dX0_readRow_178 rfl rfl ?_
          refine J_iload dX0_readRow_179 rfl ?_
          refine J_if_eq 197 dX0_readRow_181 (by decide) (fun _ => ?_) (fun c => absurd c (by decide))
          refine J_iconst (v := -1) dX0_readRow_197 (by decide) ?_
          refine J_rw (y := (if (bA B 2 len (p + 3)) = nI 63 then tlC 3 (bA B 2 len (p + 4)) else -1)) (if_neg kcz8).symm ?_
          refine Cs_36 (s := (su 35 (su 34 (su 33 s (upd (s 33) rr (tlC 0 (bA B 2 len p)))) (upd (s 34) rr (tlC 1 (bA B 2 len (p + 1))))) (upd (s 35) rr (tlC 2 (bA B 2 len (p + 2)))))) (s 36) rfl rr rfl (by omega) dX0_readRow_198 ?_
          refine J_iload dX0_readRow_199 rfl ?_
          refine J_if_eq 210 dX0_readRow_201 (by decide) (fun _ => ?_) (fun c => absurd c (by decide))
          refine J_iload_n dX0_readRow_210 rfl rfl ?_
          refine J_iconst (v := nI 3) dX0_readRow_211 (by decide) ?_
          refine J_iaddN dX0_readRow_212 ?_
          exact J_iret dX0_readRow_213 rfl rfl rfl (absurd hW (by rw [(rg2n (gC0 kcz1).2 (gC1a kcz2).2 (gC2 kcz7).2 kcz8).1]; decide))
        · refine J_iconst (v := nI 1) dX0_readRow_97 (by decide) ?_
          refine J_goto 102 dX0_readRow_98 (by decide) ?_
          refine J_istore [(0, .ref (r 5)), (1, .int (nI p)), (2, .int (nI rr)), (3, .int (nI 1)), (4, .int (nI 1))] dX0_readRow_102 (by decide) rfl rfl rfl ?_
          refine J_iload dX0_readRow_104 rfl ?_
          refine J_if_eq 129 dX0_readRow_106 (by decide) (fun c => absurd c (by decide)) (fun _ => ?_)
          refine J_aload_n dX0_readRow_109 rfl rfl ?_
          refine J_iload_n dX0_readRow_110 rfl rfl ?_
          refine J_iconst (v := nI 4) dX0_readRow_111 (by decide) ?_
          refine J_iaddN dX0_readRow_112 ?_
          refine J_bipush (v := nI 48) dX0_readRow_113 (by decide) ?_
          refine J_bipush (v := nI 55) dX0_readRow_115 (by decide) ?_
          refine J_cUi [.int (nI (p + 4)), .int (nI 48), .int (nI 55)] 5 mu_X0_28_0 (c_X5_isBetween2 r s l B len hlen hl59 hB (p + 4) (by omega) (nI 48) (nI 55)) cW_5 rfl rfl (by decide) (Nat.le_of_ble_eq_true rfl) ⟨Nat.le_refl _, Nat.le_refl _⟩ dX0_readRow_117 ?_
          refine J_if_neB 129 dX0_readRow_120 (by decide) (fun kcz9 => ?_) (fun kcz9 => ?_)
          · refine J_aload_n dX0_readRow_129 rfl rfl ?_
            refine Cg_5_6 fr_X0_9_0 dX0_readRow_130 ?_
            refine J_iload_n dX0_readRow_133 rfl rfl ?_
            refine J_aload_n dX0_readRow_134 rfl rfl ?_
            refine J_iload_n dX0_readRow_135 rfl rfl ?_
            refine J_cUi [.int (nI p)] 5 mu_X0_32_0 (c_X5_signAt2 r s l B len hlen hl59 hB p (by omega)) cW_5 rfl rfl (by decide) (Nat.le_of_ble_eq_true rfl) ⟨Nat.le_refl _, Nat.le_refl _⟩ dX0_readRow_136 ?_
            refine J_bipush (v := nI 48) dX0_readRow_139 (by decide) ?_
            refine J_isub dX0_readRow_141 ?_
            refine J_rw (y := tlC 0 (bA B 2 len p)) (gC0 kcz1).1.symm ?_
            refine Cs_33 (s := s) (s 33) rfl rr rfl (by omega) dX0_readRow_142 ?_
            refine J_aload_n dX0_readRow_143 rfl rfl ?_
            refine Cg_5_7 fr_X0_15_0 dX0_readRow_144 ?_
            refine J_iload_n dX0_readRow_147 rfl rfl ?_
            refine J_iload_n dX0_readRow_148 rfl rfl ?_
            refine J_if_eq 156 dX0_readRow_149 (by decide) (fun c => absurd c (by decide)) (fun _ => ?_)
            refine J_iconst (v := nI 1) dX0_readRow_152 (by decide) ?_
            refine J_goto 157 dX0_readRow_153 (by decide) ?_
            refine J_rw (y := tlC 1 (bA B 2 len (p + 1))) (gC1a kcz2).1.symm ?_
            refine Cs_34 (s := (su 33 s (upd (s 33) rr (tlC 0 (bA B 2 len p))))) (s 34) rfl rr rfl (by omega) dX0_readRow_157 ?_
            refine J_aload_n dX0_readRow_158 rfl rfl ?_
            refine Cg_5_8 fr_X0_18_0 dX0_readRow_159 ?_
            refine J_iload_n dX0_readRow_162 rfl rfl ?_
            refine J_aload_n dX0_readRow_163 rfl rfl ?_
            refine J_iload_n dX0_readRow_164 rfl rfl ?_
            refine J_iconst (v := nI 2) dX0_readRow_165 (by decide) ?_
            refine J_iaddN dX0_readRow_166 ?_
            refine J_cUi [.int (nI (p + 2))] 5 mu_X0_32_0 (c_X5_signAt2 r (su 34 (su 33 s (upd (s 33) rr (tlC 0 (bA B 2 len p)))) (upd (s 34) rr (tlC 1 (bA B 2 len (p + 1))))) l B len hlen hl59 hB (p + 2) (by omega)) cW_5 rfl rfl (by decide) (Nat.le_of_ble_eq_true rfl) ⟨Nat.le_refl _, Nat.le_refl _⟩ dX0_readRow_167 ?_
            refine J_bipush (v := nI 48) dX0_readRow_170 (by decide) ?_
            refine J_isub dX0_readRow_172 ?_
            refine J_rw (y := tlC 2 (bA B 2 len (p + 2))) (gC2 kcz7).1.symm ?_
            refine Cs_35 (s := (su 34 (su 33 s (upd (s 33) rr (tlC 0 (bA B 2 len p)))) (upd (s 34) rr (tlC 1 (bA B 2 len (p + 1)))))) (s 35) rfl rr rfl (by omega) dX0_readRow_173 ?_
            refine J_aload_n dX0_readRow_174 rfl rfl ?_
            refine Cg_5_9 fr_X0_21_0 dX0_readRow_175 ?_
            refine J_iload_n dX0_readRow_178 rfl rfl ?_
            refine J_iload dX0_readRow_179 rfl ?_
            refine J_if_eq 197 dX0_readRow_181 (by decide) (fun c => absurd c (by decide)) (fun _ => ?_)
            refine J_aload_n dX0_readRow_184 rfl rfl ?_
            refine J_iload_n dX0_readRow_185 rfl rfl ?_
            refine J_iconst (v := nI 4) dX0_readRow_186 (by decide) ?_
            refine J_iaddN dX0_readRow_187 ?_
            refine J_cUi [.int (nI (p + 4))] 5 mu_X0_32_0 (c_X5_signAt2 r (su 35 (su 34 (su 33 s (upd (s 33) rr (tlC 0 (bA B 2 len p)))) (upd (s 34) rr (tlC 1 (bA B 2 len (p + 1))))) (upd (s 35) rr (tlC 2 (bA B 2 len (p + 2))))) l B len hlen hl59 hB (p + 4) (by omega)) cW_5 rfl rfl (by decide) (Nat.le_of_ble_eq_true rfl) ⟨Nat.le_refl _, Nat.le_refl _⟩ dX0_readRow_188 ?_
            refine J_bipush (v := nI 48) dX0_readRow_191 (by decide) ?_
            refine J_isub dX0_readRow_193 ?_
            refine J_goto 198 dX0_readRow_194 (by decide) ?_
            refine J_rw (y := (if (bA B 2 len (p + 3)) = nI 63 then tlC 3 (bA B 2 len (p + 4)) else -1)) ((gC3 kcz9).1.symm.trans (if_pos kcz8).symm) ?_
            refine Cs_36 (s := (su 35 (su 34 (su 33 s (upd (s 33) rr (tlC 0 (bA B 2 len p)))) (upd (s 34) rr (tlC 1 (bA B 2 len (p + 1))))) (upd (s 35) rr (tlC 2 (bA B 2 len (p + 2)))))) (s 36) rfl rr rfl (by omega) dX0_readRow_198 ?_
            refine J_iload dX0_readRow_199 rfl ?_
            refine J_if_eq 210 dX0_readRow_201 (by decide) (fun c => absurd c (by decide)) (fun _ => ?_)
            refine J_iload_n dX0_readRow_204 rfl rfl ?_
            refine J_iconst (v := nI 5) dX0_readRow_205 (by decide) ?_
            refine J_iaddN dX0_readRow_206 ?_
            refine J_goto 213 dX0_readRow_207 (by decide) ?_
            exact J_iret dX0_readRow_213 rfl rfl rfl (absurd hW (by rw [(rg2q (gC0 kcz1).2 (gC1a kcz2).2 (gC2 kcz7).2 kcz8 (gC3 kcz9).2).1]; decide))
          · refine J_iload_n dX0_readRow_123 rfl rfl ?_
            refine J_iconst (v := nI 4) dX0_readRow_124 (by decide) ?_
            refine J_iaddN dX0_readRow_125 ?_
            refine J_iconst (v := -1) dX0_readRow_126 (by decide) ?_
            refine J_ixor dX0_readRow_127 ?_
            exact J_iret dX0_readRow_128 rfl rfl rfl (hq _ (by rw [(rb2_3 (gC0 kcz1).2 (gC1a kcz2).2 (gC2 kcz7).2 kcz8 (bC3 kcz9)).2]))
      · refine J_iload_n dX0_readRow_79 rfl rfl ?_
        refine J_iconst (v := nI 2) dX0_readRow_80 (by decide) ?_
        refine J_iaddN dX0_readRow_81 ?_
        refine J_iconst (v := -1) dX0_readRow_82 (by decide) ?_
        refine J_ixor dX0_readRow_83 ?_
        exact J_iret dX0_readRow_84 rfl rfl rfl (hq _ (by rw [(rb2_2 (gC0 kcz1).2 (gC1a kcz2).2 (bC2 kcz7)).2]))
  · refine J_iload_n dX0_readRow_21 rfl rfl ?_
    refine J_iconst (v := -1) dX0_readRow_22 (by decide) ?_
    refine J_ixor dX0_readRow_23 ?_
    exact J_iret dX0_readRow_24 rfl rfl rfl (hq _ (by rw [(rb2_0  (bC0 kcz1)).2, Nat.add_zero]))
theorem c_X0_readRow_bad {G : GT} (r : Nat → Nat) (s : St) (l : Nat → Int64) (B : Nat → Int32) (len : Nat) (hlen : s 57 0 = nI len) (hl59 : len ≤ 59) (hB : ∀ p, p < len → s 32 p = B (60 * 2 + p)) (p rr : Nat) (hp : p ≤ 70) (hrr : rr < 15) (hW : rW2 B len p = false) : Ct G yX0_readRow cX0_readRow 5 (some .int) 0 0 3 [.ref (r 5), .int (nI p), .int (nI rr)] (cW G r s l) (Is (some (.int (nI (rE2 B len p) ^^^ (-1)))) (cW G r s l)) := Ct.of rfl (Nat.le_of_ble_eq_true rfl) (j_X0_readRow_bad r s l B len hlen hl59 hB p rr hp hrr hW (fun _ e => by subst e; exact Is.rf _ _))
