/-! the calls keep what holds of every lasting state -/
theorem up_ne {f : Nat → Int32} {k j : Nat} {x : Int32} (h : j ≠ k) : upd f k x j = f j := if_neg h
theorem li_6 {σ : St} (h : LI σ) {t l : Nat} (ht : t < 3) (hl : l ≤ capT t) : LI (su 6 σ (upd (σ 6) t (nI l))) := by
  rcases (show t = 0 ∨ t = 1 ∨ t = 2 by omega) with rfl | rfl | rfl
  · exact ⟨⟨l, rfl, hl⟩, h.2.1, h.2.2.1, h.2.2.2.1, h.2.2.2.2.1, h.2.2.2.2.2⟩
  · exact ⟨h.1, ⟨l, rfl, hl⟩, h.2.2.1, h.2.2.2.1, h.2.2.2.2.1, h.2.2.2.2.2⟩
  · exact ⟨h.1, h.2.1, ⟨l, rfl, hl⟩, h.2.2.2.1, h.2.2.2.2.1, h.2.2.2.2.2⟩
theorem li_5 {σ : St} (h : LI σ) {f : Nat → Int32} : LI (su 5 σ f) := h
theorem li_4 {σ : St} (h : LI σ) {f : Nat → Int32} : LI (su 4 σ f) := h
theorem li_2 {σ : St} (h : LI σ) {f : Nat → Int32} : LI (su 2 σ f) := h
theorem li_16 {σ : St} (h : LI σ) {f : Nat → Int32} : LI (su 16 σ f) := h
theorem li_fnd {σ : St} (h : LI σ) (k : Nat) : LI (fnd k σ).2 := h
theorem li_type {σ : St} (h : LI σ) (v b : Int32) : LI (oType v b σ).2 := by
  unfold oType
  split
  · next hg =>
    simp only [Bool.and_eq_true] at hg
    obtain ⟨T, hT, rfl⟩ := (rng_iff (by decide)).mp hg.1
    rw [nI_clamp (by omega)]
    split
    · exact h
    · next hne =>
      have h2 := (h.tt hT).2
      exact li_6 (σ := su 5 σ _) (li_5 h) hT (by omega)
  · exact h
theorem li_wipe {σ : St} (h : LI σ) (v : Int32) : LI (oWipe v σ).2 := by
  unfold oWipe
  split
  · next hg =>
    obtain ⟨T, hT, rfl⟩ := (rng_iff (by decide)).mp hg
    rw [nI_clamp (by omega)]
    exact li_6 h hT (Nat.zero_le _)
  · exact h
theorem li_undo {σ : St} (h : LI σ) (v : Int32) : LI (oUndo v σ).2 := by
  unfold oUndo
  split
  · next hg =>
    obtain ⟨T, hT, rfl⟩ := (rng_iff (by decide)).mp hg
    rw [nI_clamp (by omega)]
    split
    · exact h
    · have h2 := (h.tt hT).2
      exact li_6 h hT (by omega)
  · exact h
theorem li_refuse {σ : St} (h : LI σ) (e hb : Int32) : LI (oRefuse e hb σ).2 := by
  unfold oRefuse
  split
  · next hg =>
    simp only [Bool.and_eq_true] at hg
    obtain ⟨E, hE, rfl⟩ := (rng_iff (by decide)).mp hg.1
    obtain ⟨H, hH, rfl⟩ := (rng_iff (by decide)).mp hg.2
    split
    · exact h
    · next hne =>
      have h2 := h.rf
      refine ⟨h.1, h.2.1, h.2.2.1, ⟨rfn σ + 1, rfl, by omega, fun k hk => ?_⟩, h.2.2.2.2.1, h.2.2.2.2.2⟩
      show (∃ e, e < 6 ∧ upd (upd (σ 13) (2 * rfn σ) (nI E)) (2 * rfn σ + 1) (nI H) (2 * k) = nI e) ∧ ∃ h, h < 8 ∧ upd (upd (σ 13) (2 * rfn σ) (nI E)) (2 * rfn σ + 1) (nI H) (2 * k + 1) = nI h
      by_cases hkr : k = rfn σ
      · rw [hkr]
        exact ⟨⟨E, hE, by rw [up_ne (by omega), pk_us]⟩, ⟨H, hH, pk_us⟩⟩
      · rw [up_ne (by omega), up_ne (by omega), up_ne (by omega), up_ne (by omega)]
        exact h2.2.2 k (by omega)
  · exact h
theorem li_back {σ : St} (h : LI σ) : LI (oBack σ).2 := by
  unfold oBack
  split
  · exact h
  · have h2 := h.rf
    exact ⟨h.1, h.2.1, h.2.2.1, ⟨rfn σ - 1, rfl, by omega, fun k hk => h2.2.2 k (by omega)⟩, h.2.2.2.2.1, h.2.2.2.2.2⟩
theorem li_value {σ : St} (h : LI σ) (e d v : Int32) : LI (oValue e d v σ).2 := by
  unfold oValue
  split
  · exact h
  · exact h
theorem li_seen {σ : St} (h : LI σ) (t e hb : Int32) : LI (oSeen t e hb σ).2 := by
  unfold oSeen
  split
  · next hg =>
    unfold seenOk at hg
    simp only [Bool.and_eq_true] at hg
    obtain ⟨T, hT, rfl⟩ := (rng_iff (by decide)).mp hg.1
    obtain ⟨E, hE, rfl⟩ := (rng_iff (by decide)).mp hg.2.1
    have hh := i15_yes (hi := 7) (by decide) hg.2.2
    split
    · exact h
    · next hne =>
      have h2 := h.sg
      refine ⟨h.1, h.2.1, h.2.2.1, h.2.2.2.1, ⟨sgn σ + 1, rfl, by omega, fun k hk => ?_⟩, h.2.2.2.2.2⟩
      show (∃ t, t < 24 ∧ upd (upd (upd (σ 22) (3 * sgn σ) (nI T)) (3 * sgn σ + 1) (nI E)) (3 * sgn σ + 2) hb (3 * k) = nI t) ∧ (∃ e, e < 6 ∧ upd (upd (upd (σ 22) (3 * sgn σ) (nI T)) (3 * sgn σ + 1) (nI E)) (3 * sgn σ + 2) hb (3 * k + 1) = nI e) ∧ (upd (upd (upd (σ 22) (3 * sgn σ) (nI T)) (3 * sgn σ + 1) (nI E)) (3 * sgn σ + 2) hb (3 * k + 2) = -1 ∨ ∃ h, h < 8 ∧ upd (upd (upd (σ 22) (3 * sgn σ) (nI T)) (3 * sgn σ + 1) (nI E)) (3 * sgn σ + 2) hb (3 * k + 2) = nI h)
      by_cases hkr : k = sgn σ
      · rw [hkr]
        refine ⟨⟨T, hT, by rw [up_ne (by omega), up_ne (by omega), pk_us]⟩, ⟨E, hE, by rw [up_ne (by omega), pk_us]⟩, ?_⟩
        rw [pk_us]; exact hh
      · rw [up_ne (by omega), up_ne (by omega), up_ne (by omega), up_ne (by omega), up_ne (by omega), up_ne (by omega), up_ne (by omega), up_ne (by omega), up_ne (by omega)]
        exact h2.2.2 k (by omega)
  · exact h
theorem li_forget {σ : St} (h : LI σ) : LI (oForget σ).2 := ⟨h.1, h.2.1, h.2.2.1, h.2.2.2.1, ⟨0, rfl, by decide, fun k hk => absurd hk (Nat.not_lt_zero _)⟩, h.2.2.2.2.2⟩
theorem li_sheet {σ : St} (h : LI σ) (v f n : Int32) : LI (oSheet v f n σ).2 := by
  unfold oSheet
  split
  · next hg =>
    simp only [Bool.and_eq_true, decide_eq_true_eq] at hg
    obtain ⟨V, hV, rfl⟩ := (rng_iff (by decide)).mp hg.1
    obtain ⟨F, hF, rfl⟩ := (rng_iff (by decide)).mp hg.2.1
    rw [nI_clamp (by omega)]
    split
    · next hn =>
      obtain ⟨N, hN, rfl⟩ := n60 hn hg.2.2
      refine ⟨h.1, h.2.1, h.2.2.1, h.2.2.2.1, h.2.2.2.2.1, fun j hj => ?_⟩
      show (upd (σ 0) V (nI F) j = -1 ∨ ∃ f, f < 3 ∧ upd (σ 0) V (nI F) j = nI f) ∧ ∃ n, n ≤ 60 ∧ upd (σ 1) V (nI N) j = nI n
      by_cases e : j = V
      · rw [e, pk_us, pk_us]; exact ⟨Or.inr ⟨F, hF, rfl⟩, N, hN, rfl⟩
      · rw [up_ne e, up_ne e]; exact h.sh hj
    · exact h
  · exact h
theorem li_lose {σ : St} (h : LI σ) (v : Int32) : LI (oLose v σ).2 := by
  unfold oLose
  split
  · next hg =>
    split
    · refine ⟨h.1, h.2.1, h.2.2.1, h.2.2.2.1, h.2.2.2.2.1, fun j hj => ?_⟩
      show (upd (σ 0) v.toNatClampNeg (-1) j = -1 ∨ ∃ f, f < 3 ∧ upd (σ 0) v.toNatClampNeg (-1) j = nI f) ∧ ∃ n, n ≤ 60 ∧ σ 1 j = nI n
      by_cases e : j = v.toNatClampNeg
      · rw [e, pk_us]; exact ⟨Or.inl rfl, e ▸ (h.sh hj).2⟩
      · rw [up_ne e]; exact h.sh hj
    · exact h
  · exact h
theorem li_lay {σ : St} (h : LI σ) (v f i x : Int32) : LI (oLay v f i x σ).2 := by
  unfold oLay
  split
  · split
    · exact h
    · exact h
  · exact h
theorem li_get {σ : St} (h : LI σ) (v f i : Int32) : LI (oGet v f i σ).2 := by
  unfold oGet
  split
  · split
    · exact h
    · exact h
  · exact h
theorem li_copy {σ : St} (h : LI σ) (s i t j n : Int32) : LI (oCopy s i t j n σ).2 := by
  unfold oCopy
  split
  · split
    · exact h
    · split
      · split
        · exact h
        · exact h
      · exact h
  · exact h
theorem li_hours {σ : St} (h : LI σ) (e v : Int32) : LI (oHours e v σ).2 := by
  unfold oHours
  split
  · split
    · exact h
    · exact h
  · exact h
theorem li_rdL (v sz : Nat) : ∀ (f n : Nat) {σ : St}, LI σ → LI (rdL v sz f n σ).2
  | 0, _, _, h => h
  | f + 1, n, σ, h => by
    rw [rdL]
    split
    · split
      · exact h
      · exact li_rdL v sz f (n + 1) (li_seen h _ _ _)
    · exact h
theorem li_read {σ : St} (h : LI σ) (v : Int32) : LI (oRead v σ).2 := by
  unfold oRead
  split
  · split
    · exact li_rdL _ _ _ _ h
    · exact h
  · exact h
theorem oSeen_no {t e h : Int32} {σ : St} (hl : LI σ) (hn : (oSeen t e h σ).1 < 0) : (oSeen t e h σ).2 = σ := by
  unfold oSeen at hn ⊢
  split
  · next hg =>
    rw [if_pos hg] at hn
    split
    · rfl
    · next h8 =>
      rw [if_neg h8] at hn
      have h3 : nI (sgn σ + 1) < 0 := hn
      have := hl.sg.2.1
      rw [fa_lt, nI_toInt (by omega)] at h3
      have e : (0 : Int32).toInt = 0 := rfl
      omega
  · rfl
theorem oSeen_k {t e h : Int32} {σ : St} {k : Nat} (hk : k ≠ 21 ∧ k ≠ 22) : (oSeen t e h σ).2 k = σ k := by
  unfold oSeen
  split
  · split
    · rfl
    · show su 22 (su 21 σ _) _ k = σ k
      rw [su_ne hk.2, su_ne hk.1]
  · rfl
