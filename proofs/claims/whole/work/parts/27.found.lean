/-! the texts are read; the will is carried out: in the lasting state's own words -/
def Pd (σ x : St) : Prop := cn x = σ ∧ x 8 0 = nI (nH σ) ∧ x 8 1 = nI (nE σ) ∧ x 8 2 = nI (nC σ) ∧ Rw 5 (nH σ) (x 9) (HbS σ) ∧ Rw 3 (nE σ) (x 10) (HeS σ) ∧ Rw 4 (nC σ) (x 11) (ClS σ)
def Fnn (σ x : St) : Prop := Pd σ x ∧ x 15 0 = nI 0 ∧ x 17 = wiS σ ∧ x 18 0 = nI (wlS σ).2
theorem prs_pd {s x : St} (h : Prs s x (tl (cn s) 0) (tl (cn s) 1) (tl (cn s) 2)) : Pd (cn s) x := by
  refine ⟨cn_of h.keep, h.2.1, h.2.2.1, h.2.2.2.1, fun j hj k hk => ?_, fun j hj k hk => ?_, fun j hj k hk => ?_⟩
  · rw [h.2.2.2.2.1 j hj k hk, HbS_at _ _ hk]; rfl
  · rw [h.2.2.2.2.2.1 j hj k hk, HeS_at _ _ hk]; rfl
  · rw [h.2.2.2.2.2.2 j hj k hk, ClS_at _ _ hk]; rfl
theorem rfsM_0 {rf : Nat} {Rf : Nat → Int32} {ab : Int32} (q h : Nat) : rfsM rf Rf ab 0 q h = anyB (fun k => decide (Rf (2 * k) = nI q) && decide (Rf (2 * k + 1) = nI h)) rf := by
  unfold rfsM; rw [Nat.zero_testBit, Bool.and_false, Bool.false_or]
theorem wl_can {σ x : St} {ab : Int32} (hP : Rw 4 (nC σ) (x 11) (ClS σ)) : wlF (nH σ) (nE σ) (x 11) (rfsM (rfn σ) (σ 13) ab 0) (nC σ) = wlS σ := wlF_cg hP (fun q h => rfsM_0 q h) (Nat.le_refl _)
theorem fnd_fd {s x : St} (h : Fnd s x (tl (cn s) 0) (tl (cn s) 1) (tl (cn s) 2) (rfn (cn s))) : Fnn (cn s) x := by
  have hC : Rw 4 (nC (cn s)) (x 11) (ClS (cn s)) := fun j hj k hk => by rw [h.2.2.2.2.2.2.1 j hj k hk, ClS_at _ _ hk]; rfl
  have hw := wl_can (σ := cn s) (x := x) (ab := s 14 0) hC
  refine ⟨⟨cn_of h.keep, h.2.1, h.2.2.1, h.2.2.2.1, fun j hj k hk => ?_, fun j hj k hk => ?_, hC⟩, h.2.2.2.2.2.2.2.1, ?_, ?_⟩
  · rw [h.2.2.2.2.1 j hj k hk, HbS_at _ _ hk]; rfl
  · rw [h.2.2.2.2.2.1 j hj k hk, HeS_at _ _ hk]; rfl
  · exact h.2.2.2.2.2.2.2.2.1.trans (congrArg Prod.fst hw)
  · exact h.2.2.2.2.2.2.2.2.2.trans (congrArg (fun z => nI (Prod.snd z)) hw)
theorem Pd.k {s x : St} (h : Pd (cn s) x) {k : Nat} (hk : persB k = true) : x k = s k := cn_k h.1 hk
theorem Pd.c {σ x : St} (h : Pd σ x) {k : Nat} (hk : persB k = true) : x k = σ k := by
  have := congrFun h.1 k
  rwa [cn_in hk] at this
theorem fC_ask {B : Nat → Int32} {len k : Nat} (hk : k < (rdT B 2 len).1) : fC B len k 3 = -1 ∨ ∃ j, j < 8 ∧ fC B len k 3 = nI j := by
  have hne := rdT_row2 hk 3 (by decide)
  unfold fC at hne ⊢
  rw [if_pos rfl] at hne ⊢
  split
  · next hq =>
    rw [if_pos hq] at hne
    right
    rcases orW_rng (b := bA B 2 len (psT B 2 len k + 4)) (lo := 48) (hi := 55) (by decide) (by decide) with e | ⟨j, hj, e, -⟩
    · exact absurd e hne
    · exact ⟨j, by omega, e⟩
  · exact Or.inl rfl
theorem ClS_ask {σ : St} {k : Nat} (hk : k < nC σ) : ClS σ (4 * k + 3) = -1 ∨ ∃ j, j < 8 ∧ ClS σ (4 * k + 3) = nI j := by
  rw [ClS_at σ k (by decide)]; exact fC_ask hk
theorem HeS_room {σ : St} {e : Nat} (he : e < nE σ) : ∃ j, 1 ≤ j ∧ j ≤ 8 ∧ HeS σ (3 * e) = nI j := by
  have h0 : HeS σ (3 * e) = fE (σ 5) (tl σ 1) e 0 := HeS_at σ e (k := 0) (by decide)
  have hne := rdT_row1 he 0 (by decide)
  rw [h0]
  unfold fE at hne ⊢
  have ht : ∀ b, tlE 0 b = if wn b (nI 49) (nI 56) = -1 then -9 else b - nI 48 := fun b => rfl
  rw [ht] at hne ⊢
  rcases wn_rng (b := bA (σ 5) 1 (tl σ 1) (psT (σ 5) 1 (tl σ 1) e + 0)) (lo := 49) (hi := 56) (by decide) (by decide) with e1 | ⟨j, hj, e1, hb⟩
  · rw [if_pos e1] at hne; exact absurd rfl hne
  · rw [if_neg (by rw [e1]; exact fun q => m1_ne (by omega) q.symm), hb, pk_sub (by omega)]
    exact ⟨49 + j - 48, by omega, by omega, rfl⟩
theorem HbS_vice {σ : St} {h : Nat} (hh : h < nH σ) : HbS σ (5 * h + 4) = nI 0 ∨ HbS σ (5 * h + 4) = nI 1 := by
  have hne := rdT_row0 hh 4 (by decide)
  rw [HbS_at σ h (by decide)]
  unfold fH at hne ⊢
  have ht : ∀ b, tlH 4 b = if b = nI 33 then nI 1 else if b = nI 46 then nI 0 else -9 := fun b => rfl
  rw [ht] at hne ⊢
  split
  · exact Or.inr rfl
  · next h1 =>
    rw [if_neg h1] at hne
    split
    · exact Or.inl rfl
    · next h2 => rw [if_neg h2] at hne; exact absurd rfl hne
theorem sm01 {f : Nat → Int32} : ∀ {n : Nat}, (∀ k, k < n → f k = nI 0 ∨ f k = nI 1) → n < 2 ^ 30 → ∃ v, v ≤ n ∧ smI f n = nI v
  | 0, _, _ => ⟨0, Nat.le_refl _, rfl⟩
  | n + 1, h, hn => by
    obtain ⟨v, hv, e⟩ := sm01 (n := n) (fun k hk => h k (by omega)) (by omega)
    rw [smI, e]
    rcases h n (by omega) with e2 | e2
    · exact ⟨v, by omega, by rw [e2, nI_add, Nat.add_zero]⟩
    · exact ⟨v + 1, by omega, by rw [e2, nI_add]⟩
theorem vc_ok {σ : St} (q : Nat) : smI (fun h => if wiS σ h = nI q then HbS σ (5 * h + 4) else nI 0) (nH σ) = nI (vcS σ q) ∧ vcS σ q < 9 := by
  have h8 := nH_le σ
  obtain ⟨v, hv, e⟩ := sm01 (f := fun h => if wiS σ h = nI q then HbS σ (5 * h + 4) else nI 0) (n := nH σ) (fun k hk => by
    show (if wiS σ k = nI q then HbS σ (5 * k + 4) else nI 0) = nI 0 ∨ (if wiS σ k = nI q then HbS σ (5 * k + 4) else nI 0) = nI 1
    split
    · exact HbS_vice hk
    · exact Or.inl rfl) (by omega)
  unfold vcS
  rw [e, nI_clamp (by omega)]
  exact ⟨rfl, by omega⟩
theorem Fnn.vc {σ x : St} (h : Fnn σ x) (q : Nat) : smI (fun h => if x 17 h = nI q then x 9 (5 * h + 4) else nI 0) (nH σ) = nI (vcS σ q) := by
  rw [← (vc_ok q).1, h.2.2.1]
  exact smI_congr (fun k hk => by rw [h.1.2.2.2.2.1.at hk 4 (by decide)])
theorem Fnn.sk {σ x : St} (h : Fnn σ x) {k : Nat} {f : Nat → Int32} (hp : persB k = false) (hk : k ≠ 8 ∧ k ≠ 9 ∧ k ≠ 10 ∧ k ≠ 11 ∧ k ≠ 15 ∧ k ≠ 17 ∧ k ≠ 18) : Fnn σ (su k x f) := by
  obtain ⟨⟨h1, h2, h3, h4, h5, h6, h7⟩, h8, h9, h10⟩ := h
  refine ⟨⟨(cnu_out hp).trans h1, ?_, ?_, ?_, ?_, ?_, ?_⟩, ?_, ?_, ?_⟩
  all_goals rw [su_ne (by omega)]
  all_goals assumption
theorem bsF_ne {n m : Nat} {Hb He : Nat → Int32} {c0 : Int32} (hn8 : n ≤ 8) (hm6 : m ≤ 6) (hHe : ∀ e, e < m → ¬ He (3 * e) < nI 0) : ¬ (bsF n (min n 6) (min m 4) Hb He c0 ((min m 4 + 1) ^ min n 6)).1 = -1 := by
  intro h
  have hp : 0 < (min m 4 + 1) ^ min n 6 := Nat.pow_pos (by omega)
  obtain ⟨N, hN⟩ : ∃ N, (min m 4 + 1) ^ min n 6 = N + 1 := ⟨(min m 4 + 1) ^ min n 6 - 1, by omega⟩
  have hv : ∀ j, j < min n 6 → lyV (min m 4 + 1) N j = -1 := fun j hj => by
    have h1 := dgt_top (min m 4 + 1) (by omega) (by omega) (min n 6) (by omega) j hj
    rw [hN, Nat.add_sub_cancel] at h1
    unfold lyV
    rw [if_neg (fun q => q h1)]
  have hw : ∀ h, lyW (min m 4 + 1) N (min n 6) h = -1 := fun h => by
    unfold lyW
    split
    · exact hv _ (by omega)
    · rfl
  have hs : ∀ j, j ≤ min n 6 → lyS Hb (min m 4 + 1) N (min n 6) j = nI 0 := fun j => by
    induction j with
    | zero => intro _; rfl
    | succ j ih =>
      intro hj
      have h2 := ih (by omega)
      unfold lyS at h2 ⊢
      rw [smI, h2]
      unfold lyU
      rw [if_neg (fun q => q (hv j (by omega)))]
      rfl
  rw [hN, bsF, hs _ (Nat.le_refl _)] at h
  split at h
  · next h3 => rw [h] at h3; exact absurd h3 (by decide)
  · split at h
    · exact absurd h (by show ¬ nI 0 = -1; decide)
    · next h4 => exact absurd (allB_iff.mpr (fun e he => livM_none hw (by omega) (hHe e (by omega)))) h4
theorem HeS_nn {σ : St} : ∀ e, e < nE σ → ¬ HeS σ (3 * e) < nI 0 := fun e he => by
  obtain ⟨j, h1, h2, h3⟩ := HeS_room he
  rw [h3, fa_lt, nI_toInt (by omega), nI_toInt (by decide)]; omega
theorem Pd.room {σ x : St} (h : Pd σ x) : ∀ e, e < nE σ → ¬ x 10 (3 * e) < nI 0 := fun e he => by
  rw [h.2.2.2.2.2.1.a0 he (by decide)]; exact HeS_nn e he
theorem Pd.ask {σ x : St} (h : Pd σ x) : ∀ k, k < nC σ → x 11 (4 * k + 3) = -1 ∨ ∃ j, j < 8 ∧ x 11 (4 * k + 3) = nI j := fun k hk => by
  rw [h.2.2.2.2.2.2.at hk 3 (by decide)]; exact ClS_ask hk
theorem Pd.bs {σ x : St} (h : Pd σ x) (c0 : Int32) : bsF (nH σ) (min (nH σ) 6) (min (nE σ) 4) (x 9) (x 10) c0 ((min (nE σ) 4 + 1) ^ min (nH σ) 6) = bS σ := by
  have h1 := bsF_c0 (n := nH σ) (nn := min (nH σ) 6) (hh := min (nE σ) 4) (Hb := HbS σ) (He := HeS σ) c0 0 ((min (nE σ) 4 + 1) ^ min (nH σ) 6)
  rw [bsF_cg h.2.2.2.2.1 h.2.2.2.2.2.1 (Nat.min_le_left _ _) (Nat.min_le_left _ _)]
  rcases h1.2 with h2 | h2
  · exact Prod.ext h1.1 h2
  · exact absurd h2 (bsF_ne (nH_le σ) (nE_le σ) HeS_nn)
theorem i15_no {i : Int32} (h : inI i (-1) (nI 5) = false) : ¬ i = -1 ∧ rng i 6 = false := by
  have h2 : ¬ i = -1 := fun e => by rw [e] at h; exact absurd h (by decide)
  refine ⟨h2, ?_⟩
  rcases rng_cases i (n := 6) (by decide) with h3 | ⟨j, hj, rfl⟩
  · exact h3
  · exfalso
    rcases (show j = 0 ∨ j = 1 ∨ j = 2 ∨ j = 3 ∨ j = 4 ∨ j = 5 by omega) with rfl | rfl | rfl | rfl | rfl | rfl <;> exact absurd h (by decide)
theorem i15_yes {i : Int32} {hi : Nat} (hh : hi < 2 ^ 30) (h : inI i (-1) (nI hi) = true) : i = -1 ∨ ∃ j, j < hi + 1 ∧ i = nI j := by
  unfold inI at h
  simp only [Bool.and_eq_true, Bool.not_eq_true', decide_eq_false_iff_not] at h
  have h1 := h.1
  have h2 := h.2
  rw [fa_lt] at h1 h2
  rw [nI_toInt (by omega)] at h2
  have e : (-1 : Int32).toInt = -1 := rfl
  by_cases h3 : i.toInt = -1
  · left; rw [fa_eq, h3]; rfl
  · right
    refine ⟨i.toInt.toNat, by omega, ?_⟩
    rw [fa_eq, nI_toInt (by omega)]
    omega
theorem in120 {k : Int32} (h : inI k (nI 1) (nI 20) = true) : ∃ j, 1 ≤ j ∧ j ≤ 20 ∧ k = nI j := by
  unfold inI at h
  simp only [Bool.and_eq_true, Bool.not_eq_true', decide_eq_false_iff_not] at h
  have h1 := h.1
  have h2 := h.2
  rw [fa_lt, nI_toInt (by decide)] at h1 h2
  refine ⟨k.toInt.toNat, by omega, by omega, ?_⟩
  rw [fa_eq, nI_toInt (by omega)]
  omega
theorem nI_le0 {n : Nat} (h : n < 2 ^ 31) : nI n ≤ 0 ↔ n = 0 := by
  rw [fa_le, nI_toInt h]
  have e : (0 : Int32).toInt = 0 := rfl
  omega
theorem sw_no {v : Int32} {n : Nat} (hn : n < 2 ^ 31) (h : v.toInt < 0 ∨ (n : Int) - 1 < v.toInt) : rng v n = false := by
  rcases rng_cases v hn with h3 | ⟨j, hj, rfl⟩
  · exact h3
  · rw [nI_toInt (by omega)] at h; omega
def QMF (G : GT) (o : Nat) (a : Nat → Nat) (r : Int32) (σ : St) : Option Value → va_W → Prop := fun v w => ∃ x : St, v = some (.int r) ∧ w = mW G o a x ∧ Fnn σ x
def QLF (G : GT) (o : Nat) (a : Nat → Nat) (r : Int64) (σ : St) : Option Value → va_W → Prop := fun v w => ∃ x : St, v = some (.long r) ∧ w = mW G o a x ∧ Fnn σ x
