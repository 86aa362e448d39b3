/-! the class stands as the lasting state says -/
def hbS (σ : St) (j : Nat) : Nat := hbs (HbS σ (5 * j)) (HbS σ (5 * j + 1))
def awS (σ : St) (q : Nat) : Nat := awb (HeS σ (3 * q + 1)) (HeS σ (3 * q + 2))
def TxH (σ s : St) : Prop := s 51 0 = nI (tl σ 0) ∧ (∀ p, p < tl σ 0 → s 20 p = σ 5 (60 * 0 + p)) ∧ s 52 0 = nI (nH σ) ∧ s 53 0 = (rdT (σ 5) 0 (tl σ 0)).2 ∧ ∀ j, j < nH σ → RwH (σ 5) (tl σ 0) (s 21) (s 22) (s 23) (s 24) (s 25) (s 26) j
def TxE (σ s : St) : Prop := s 54 0 = nI (tl σ 1) ∧ (∀ p, p < tl σ 1 → s 27 p = σ 5 (60 * 1 + p)) ∧ s 55 0 = nI (nE σ) ∧ s 56 0 = (rdT (σ 5) 1 (tl σ 1)).2 ∧ ∀ j, j < nE σ → RwE (σ 5) (tl σ 1) (s 28) (s 29) (s 30) (s 31) j
def TxC (σ s : St) : Prop := s 57 0 = nI (tl σ 2) ∧ (∀ p, p < tl σ 2 → s 32 p = σ 5 (60 * 2 + p)) ∧ s 58 0 = nI (nC σ) ∧ s 59 0 = (rdT (σ 5) 2 (tl σ 2)).2 ∧ ∀ j, j < nC σ → RwC (σ 5) (tl σ 2) (s 33) (s 34) (s 35) (s 36) j
def RfO (σ s : St) : Prop := s 60 0 = nI (rfn σ) ∧ ∀ k, k < rfn σ → s 37 k = σ 13 (2 * k) ∧ s 38 k = σ 13 (2 * k + 1)
def ShO (σ : St) (j : Nat) (fo z : Int32) (it : Nat → Int32) : Prop := (z = -1 ∧ σ 0 j = -1) ∨ (σ 0 j = fo ∧ ¬ σ 0 j = -1 ∧ z = σ 1 j ∧ ∀ k, nI k = σ 1 j → k ≤ 60 → ∀ i, i < k → it i = σ 2 (60 * j + i))
def PlO (σ s : St) : Prop := s 66 0 = nI 0 ∨ (s 66 0 = nI 1 ∧ s 65 0 = (bS σ).1 ∧ ∀ k, k < 6 → s 46 k = lyW (min (nE σ) 4 + 1) (bS σ).2.toNatClampNeg (min (nH σ) 6) k)
def CI (σ s : St) : Prop := TxH σ s ∧ TxE σ s ∧ TxC σ s ∧ RfO σ s ∧ (∀ j, j < 42 → s 41 j = σ 16 j) ∧ SgOk σ s ∧ (ShO σ 0 (s 67 0) (s 68 0) (s 70) ∧ ShO σ 1 (s 67 1) (s 68 1) (s 71) ∧ ShO σ 2 (s 67 2) (s 68 2) (s 72) ∧ ShO σ 3 (s 67 3) (s 68 3) (s 73)) ∧ s 50 0 = σ 4 0 ∧ PlO σ s
theorem boh_lt : ∀ f, f < 24 → ∀ k, k < 25 → boh f k < 2 ^ 24 := by decide +kernel
theorem boh_at : ∀ f, f < 24 → ∀ k, k < 10 → ∀ t, t < 24 → (boh f k).testBit t = !decide (nI k ≤ (nI t - nI f + nI 24) - (nI t - nI f + nI 24) / nI 24 * nI 24) := by decide +kernel
theorem boh_aw : ∀ f, f < 24 → ∀ u, u < 24 → ∀ t, t < 24 → (boh f ((u + 24 - f) % 24)).testBit t = cond (decide (nI u < nI f)) (decide (nI f ≤ nI t) || !decide (nI u ≤ nI t)) (!decide (nI t < nI f) && !decide (nI u ≤ nI t)) := by decide +kernel
theorem fH_rng {B : Nat → Int32} {len j : Nat} (h : j < (rdT B 0 len).1) : (∃ f, f < 24 ∧ fH B len j 0 = nI f) ∧ (∃ k, k < 10 ∧ fH B len j 1 = nI k) ∧ (∃ w, w < 10 ∧ fH B len j 2 = nI w) ∧ (fH B len j 3 = -1 ∨ ∃ k, k < 8 ∧ fH B len j 3 = nI k) := by
  have hr := rdT_row0 h
  refine ⟨?_, ?_, ?_, ?_⟩
  · have h0 := hr 0 (by decide)
    unfold fH at h0 ⊢
    rcases orW_rng (b := bA B 0 len (psT B 0 len j + 0)) (lo := 97) (hi := 120) (by decide) (by decide) with e | ⟨i, hi, e, -⟩
    · exact absurd e h0
    · exact ⟨i, by omega, e⟩
  · have h0 := hr 1 (by decide)
    unfold fH at h0 ⊢
    cases hx : inI (bA B 0 len (psT B 0 len j + 1)) (nI 49) (nI 57) with
    | true => exact gH1n hx
    | false => exact absurd (bH1 hx) h0
  · have h0 := hr 2 (by decide)
    unfold fH at h0 ⊢
    cases hx : inI (bA B 0 len (psT B 0 len j + 2)) (nI 48) (nI 57) with
    | true => exact gH2n hx
    | false => exact absurd (bH2 hx) h0
  · have h0 := hr 3 (by decide)
    unfold fH at h0 ⊢
    by_cases h46 : bA B 0 len (psT B 0 len j + 3) = nI 46
    · exact Or.inl (gH3b h46).1
    · cases hx : inI (bA B 0 len (psT B 0 len j + 3)) (nI 48) (nI 55) with
      | true =>
        right
        obtain ⟨i, hi, e⟩ := in_nat (by decide) (by decide) hx
        refine ⟨i, by omega, ?_⟩
        rw [(gH3a hx).1, e, pk_sub (by omega), Nat.add_sub_cancel_left]
      | false => exact absurd (bH3 hx h46) h0
theorem fE_rng {B : Nat → Int32} {len j : Nat} (h : j < (rdT B 1 len).1) : (∃ f, f < 24 ∧ fE B len j 1 = nI f) ∧ (∃ k, k < 24 ∧ fE B len j 2 = nI k) := by
  have hr := rdT_row1 h
  refine ⟨?_, ?_⟩
  · have h0 := hr 1 (by decide)
    unfold fE at h0 ⊢
    cases hx : inI (bA B 1 len (psT B 1 len j + 1)) (nI 97) (nI 120) with
    | true => exact gE1n hx
    | false => exact absurd (bE1 hx) h0
  · have h0 := hr 2 (by decide)
    unfold fE at h0 ⊢
    cases hx : inI (bA B 1 len (psT B 1 len j + 2)) (nI 97) (nI 120) with
    | true => exact gE2n hx
    | false => exact absurd (bE2 hx) h0
theorem HbS_0 (σ : St) (j : Nat) : HbS σ (5 * j) = fH (σ 5) (tl σ 0) j 0 := HbS_at σ j (k := 0) (by decide)
theorem hbOk (σ : St) : HbOk (nH σ) (HbS σ) (hbS σ) := fun h hh => by
  obtain ⟨⟨f, hf, ef⟩, ⟨k, hk, ek⟩, ⟨w, hw, ew⟩, hl⟩ := fH_rng (B := σ 5) (len := tl σ 0) hh
  have e0 : HbS σ (5 * h) = nI f := (HbS_0 σ h).trans ef
  have e1 : HbS σ (5 * h + 1) = nI k := (HbS_at σ h (by decide)).trans ek
  have eb : hbS σ h = boh f k := by unfold hbS; rw [e0, e1, hbs_nI hf (by omega)]
  refine ⟨by rw [eb]; exact boh_lt f hf k (by omega), fun t ht => ?_, ?_, ⟨w, hw, (HbS_at σ h (by decide)).trans ew⟩, HbS_vice hh⟩
  · rw [eb, boh_at f hf k hk t ht]
    unfold atH
    rw [e0, e1]
  · rw [HbS_at σ h (by decide)]; exact hl
theorem awOk (σ : St) : AwOk (nE σ) (HeS σ) (awS σ) := fun q hq => by
  obtain ⟨⟨f, hf, ef⟩, ⟨u, hu, eu⟩⟩ := fE_rng (B := σ 5) (len := tl σ 1) hq
  have e1 : HeS σ (3 * q + 1) = nI f := (HeS_at σ q (by decide)).trans ef
  have e2 : HeS σ (3 * q + 2) = nI u := (HeS_at σ q (by decide)).trans eu
  have eb : awS σ q = boh f ((u + 24 - f) % 24) := by unfold awS; rw [e1, e2, awb_nI (by omega) (by omega)]
  refine ⟨by rw [eb]; exact boh_lt f hf _ (by have := Nat.mod_lt (u + 24 - f) (show 0 < 24 by decide); omega), fun t ht => ?_, HeS_room hq⟩
  rw [eb, boh_aw f hf u hu t ht]
  unfold awE
  rw [e1, e2]
theorem CI.hR {σ s : St} (h : CI σ s) : CHr (nH σ) (HbS σ) (hbS σ) s := fun j hj => by
  obtain ⟨a, b, c, d, e, f⟩ := h.1.2.2.2.2 j hj
  refine ⟨c.trans (HbS_at σ j (by decide)).symm, d.trans (HbS_at σ j (by decide)).symm, e.trans (HbS_at σ j (by decide)).symm, ?_⟩
  rw [f]; unfold hbS; rw [HbS_0, HbS_at σ j (by decide)]
theorem CI.hE {σ s : St} (h : CI σ s) : CEr (nE σ) (HeS σ) (awS σ) s := fun q hq => by
  obtain ⟨a, b, c, d⟩ := h.2.1.2.2.2.2 q hq
  refine ⟨a.trans (HeS_at σ q (k := 0) (by decide)).symm, ?_⟩
  rw [d]; unfold awS; rw [HeS_at σ q (by decide), HeS_at σ q (by decide)]
theorem CI.hCl {σ s : St} (h : CI σ s) : CCr (nC σ) (ClS σ) s := fun k hk => by
  obtain ⟨a, b, c, d⟩ := h.2.2.1.2.2.2.2 k hk
  exact ⟨a.trans (ClS_at σ k (k := 0) (by decide)).symm, b.trans (ClS_at σ k (by decide)).symm, c.trans (ClS_at σ k (by decide)).symm, d.trans (ClS_at σ k (by decide)).symm, ClS_ask hk⟩
theorem CI.hRf {σ s : St} (h : CI σ s) (hL : LI σ) : CRr (rfn σ) (σ 13) s := fun k hk => ⟨(h.2.2.2.1.2 k hk).1, (h.2.2.2.1.2 k hk).2, (hL.rf.2.2 k hk).1, (hL.rf.2.2 k hk).2⟩
theorem CI.hSg {σ s : St} (h : CI σ s) (hL : LI σ) : CSr (sgn σ) (σ 22) s := fun k hk => ⟨(h.2.2.2.2.2.1.2 k hk).1, (h.2.2.2.2.2.1.2 k hk).2.1, (h.2.2.2.2.2.1.2 k hk).2.2, (hL.sg.2.2 k hk).1⟩
theorem CI.hV {σ s : St} (h : CI σ s) : ∀ j, j < 42 → s 41 j = σ 16 j := h.2.2.2.2.1
theorem CI.n {σ s : St} (h : CI σ s) : s 52 0 = nI (nH σ) := h.1.2.2.1
theorem CI.m {σ s : St} (h : CI σ s) : s 55 0 = nI (nE σ) := h.2.1.2.2.1
theorem CI.c {σ s : St} (h : CI σ s) : s 58 0 = nI (nC σ) := h.2.2.1.2.2.1
theorem CI.rf {σ s : St} (h : CI σ s) : s 60 0 = nI (rfn σ) := h.2.2.2.1.1
theorem CI.sg {σ s : St} (h : CI σ s) : s 62 0 = nI (sgn σ) := h.2.2.2.2.2.1.1
theorem CI.lt {σ s : St} (h : CI σ s) : s 50 0 = σ 4 0 := h.2.2.2.2.2.2.2.1
theorem CI.sc {σ s : St} (h : CI σ s) {a b c : Nat → Int32} : CI σ (su 61 (su 40 (su 39 s a) b) c) := h
/-- the will without a writer is the will -/
theorem wl0 {σ : St} {ab : Int32} : wlF (nH σ) (nE σ) (ClS σ) (rfsM (rfn σ) (σ 13) ab 0) (nC σ) = wlS σ := wlF_cg (fun _ _ _ _ => rfl) (fun q h => rfsM_0 q h) (Nat.le_refl _)
def QC (G : GT) (r : Nat → Nat) (a : Int32 × St) : Option Value → va_W → Prop := fun v w => ∃ (x : St) (lx : Nat → Int64), v = some (.int a.1) ∧ w = cW G r x lx ∧ CI a.2 x
def QCL (G : GT) (r : Nat → Nat) (a : Int64) (σ : St) : Option Value → va_W → Prop := fun v w => ∃ (x : St) (lx : Nat → Int64), v = some (.long a) ∧ w = cW G r x lx ∧ CI σ x
