theorem ac_link : Cond.methodLink RX11 288 arraycopyName ∈ TB := TB_mem 844 (by decide +kernel) (by decide +kernel)
theorem ac_link6 : Cond.methodLink RX6 97 arraycopyName ∈ TB := TB_mem 674 (by decide +kernel) (by decide +kernel)
theorem ac_stat : Cond.static arraycopyName ∈ TB := TB_mem 675 (by decide +kernel) (by decide +kernel)
theorem ac_nat : Cond.native arraycopyName ∈ TB := TB_mem 676 (by decide +kernel) (by decide +kernel)
theorem ac_init : Cond.initialized "java/lang/System" ∈ TB := TB_mem 67 (by decide +kernel) (by decide +kernel)
theorem hi_iff {z : Nat} {f k : Int32} (hz : z ≤ 60) : hiC z f k = true ↔ ∃ F K : Nat, f = nI F ∧ k = nI K ∧ F + K ≤ z := by
  unfold hiC
  simp only [Bool.and_eq_true, decide_eq_true_eq, Bool.not_eq_true', decide_eq_false_iff_not]
  constructor
  · rintro ⟨h1, h2, h3, h4⟩
    obtain ⟨K, hK, rfl⟩ := nn_nat h1
    obtain ⟨F, hF, rfl⟩ := nn_nat h3
    rw [nI_ltI (by omega) hK] at h2
    rw [pk_sub (by omega), nI_ltI (by omega) hF] at h4
    exact ⟨F, K, rfl, rfl, by omega⟩
  · rintro ⟨F, K, rfl, rfl, h⟩
    rw [nI_ltI (by omega) (by omega), pk_sub (by omega), nI_ltI (by omega) (by omega)]
    exact ⟨nI_nn (by omega), by omega, nI_nn (by omega), by omega⟩
theorem cp_iff {σ : St} {a b z1 z2 : Nat} {i j k : Int32} (e1 : σ 1 a = nI z1) (e2 : σ 1 b = nI z2) (h1 : z1 ≤ 60) (h2 : z2 ≤ 60) (ha : a < 4) (hb : b < 4) : cpOk (nI a) i (nI b) j k σ = true ↔ ∃ I J K : Nat, i = nI I ∧ j = nI J ∧ k = nI K ∧ I + K ≤ z1 ∧ J + K ≤ z2 := by
  unfold cpOk
  rw [nI_clamp (by omega), nI_clamp (by omega), e1, e2]
  simp only [Bool.and_eq_true, decide_eq_true_eq, Bool.not_eq_true', decide_eq_false_iff_not]
  constructor
  · rintro ⟨g1, g2, g3, g4, g5⟩
    obtain ⟨I, hI, rfl⟩ := nn_nat g1
    obtain ⟨J, hJ, rfl⟩ := nn_nat g2
    obtain ⟨K, hK, rfl⟩ := nn_nat g3
    rw [lsum hI hK (by omega)] at g4
    rw [lsum hJ hK (by omega)] at g5
    exact ⟨I, J, K, rfl, rfl, rfl, by omega, by omega⟩
  · rintro ⟨I, J, K, rfl, rfl, rfl, g1, g2⟩
    rw [lsum (by omega) (by omega) (by omega), lsum (by omega) (by omega) (by omega)]
    exact ⟨nI_nn (by omega), nI_nn (by omega), nI_nn (by omega), by omega, by omega⟩
theorem hi_in {z1 z2 : Nat} {i j k : Int32} (h1 : hiC z1 i k = true) (h2 : hiC z2 j k = true) (hz1 : z1 ≤ 60) (hz2 : z2 ≤ 60) : ∃ I J K : Nat, i = nI I ∧ j = nI J ∧ k = nI K ∧ I + K ≤ z1 ∧ J + K ≤ z2 := by
  obtain ⟨I, K, e1, e2, g1⟩ := (hi_iff hz1).mp h1
  obtain ⟨J, K', e3, e4, g2⟩ := (hi_iff hz2).mp h2
  have : K' = K := (nI_eq (by omega) (by omega)).mp (e4.symm.trans e2)
  exact ⟨I, J, K, e1, e3, e2, g1, by omega⟩
theorem hi_cp {σ : St} {a b z1 z2 I J K : Nat} (e1 : σ 1 a = nI z1) (e2 : σ 1 b = nI z2) (g1 : I + K ≤ z1) (g2 : J + K ≤ z2) (h1 : z1 ≤ 60) (h2 : z2 ≤ 60) (ha : a < 4 := by decide) (hb : b < 4 := by decide) : cpOk (nI a) (nI I) (nI b) (nI J) (nI K) σ = true := (cp_iff e1 e2 h1 h2 ha hb).mpr ⟨I, J, K, rfl, rfl, rfl, g1, g2⟩
theorem hi_no {σ : St} {a b z1 z2 : Nat} {i j k : Int32} (e1 : σ 1 a = nI z1) (e2 : σ 1 b = nI z2) (h1 : z1 ≤ 60) (h2 : z2 ≤ 60) (h : hiC z1 i k = false ∨ hiC z2 j k = false) (ha : a < 4 := by decide) (hb : b < 4 := by decide) : cpOk (nI a) i (nI b) j k σ = false := by
  cases hx : cpOk (nI a) i (nI b) j k σ with
  | false => rfl
  | true =>
    exfalso
    obtain ⟨I, J, K, r1, r2, r3, g1, g2⟩ := (cp_iff e1 e2 h1 h2 ha hb).mp hx
    rcases h with h | h
    · have := (hi_iff h1).mpr ⟨I, K, r1, r3, g1⟩; rw [h] at this; cases this
    · have := (hi_iff h2).mpr ⟨J, K, r2, r3, g2⟩; rw [h] at this; cases this
theorem ci_copy00 {σ s : St} (h : CI σ s) {z1 z2 I J K : Nat} (e1 : σ 1 0 = nI z1) (e2 : σ 1 0 = nI z2) (h1 : z1 ≤ 60) (h2 : z2 ≤ 60) (u1 : ¬ σ 0 0 = -1) (u2 : ¬ σ 0 0 = -1) (g1 : I + K ≤ z1) (g2 : J + K ≤ z2) : CI (su 2 σ (fb_put (σ 2) (fun k => σ 2 (60 * 0 + I + k)) (60 * 0 + J) K)) (su 70 s (va_cpy (s 70) (s 70) I J K)) := by
  refine ⟨h.1, h.2.1, h.2.2.1, h.2.2.2.1, h.2.2.2.2.1, h.2.2.2.2.2.1, ⟨?_, sho_keep h.2.2.2.2.2.2.1.2.1 rfl rfl (fun i hi => show fb_put (σ 2) (fun k => σ 2 (60 * 0 + I + k)) (60 * 0 + J) K (60 * 1 + i) = σ 2 (60 * 1 + i) from fb_put_out (by omega)), sho_keep h.2.2.2.2.2.2.1.2.2.1 rfl rfl (fun i hi => show fb_put (σ 2) (fun k => σ 2 (60 * 0 + I + k)) (60 * 0 + J) K (60 * 2 + i) = σ 2 (60 * 2 + i) from fb_put_out (by omega)), sho_keep h.2.2.2.2.2.2.1.2.2.2 rfl rfl (fun i hi => show fb_put (σ 2) (fun k => σ 2 (60 * 0 + I + k)) (60 * 0 + J) K (60 * 3 + i) = σ 2 (60 * 3 + i) from fb_put_out (by omega))⟩, h.lt, h.2.2.2.2.2.2.2.2⟩
  rcases h.2.2.2.2.2.2.1.1 with ⟨x1, x2⟩ | ⟨x1, x2, x3, x4⟩
  · exact absurd x2 u2
  · rcases h.2.2.2.2.2.2.1.1 with ⟨y1, y2⟩ | ⟨y1, y2, y3, y4⟩
    · exact absurd y2 u1
    · refine Or.inr ⟨x1, x2, x3, fun k hk hk6 i hi => ?_⟩
      have ek : k = z2 := (nI_eq (by omega) (by omega)).mp (hk.trans e2)
      show va_cpy (s 70) (s 70) I J K i = fb_put (σ 2) (fun k => σ 2 (60 * 0 + I + k)) (60 * 0 + J) K (60 * 0 + i)
      by_cases e : J ≤ i ∧ i < J + K
      · rw [pk_cpy_in e.1 e.2, fb_put_in (by omega) (by omega), y4 z1 e1.symm h1 (I + (i - J)) (by omega)]
        congr 1; omega
      · rw [pk_cpy_out (by omega), fb_put_out (by omega)]; exact x4 k hk hk6 i hi
theorem ci_copy01 {σ s : St} (h : CI σ s) {z1 z2 I J K : Nat} (e1 : σ 1 0 = nI z1) (e2 : σ 1 1 = nI z2) (h1 : z1 ≤ 60) (h2 : z2 ≤ 60) (u1 : ¬ σ 0 0 = -1) (u2 : ¬ σ 0 1 = -1) (g1 : I + K ≤ z1) (g2 : J + K ≤ z2) : CI (su 2 σ (fb_put (σ 2) (fun k => σ 2 (60 * 0 + I + k)) (60 * 1 + J) K)) (su 71 s (va_cpy (s 70) (s 71) I J K)) := by
  refine ⟨h.1, h.2.1, h.2.2.1, h.2.2.2.1, h.2.2.2.2.1, h.2.2.2.2.2.1, ⟨sho_keep h.2.2.2.2.2.2.1.1 rfl rfl (fun i hi => show fb_put (σ 2) (fun k => σ 2 (60 * 0 + I + k)) (60 * 1 + J) K (60 * 0 + i) = σ 2 (60 * 0 + i) from fb_put_out (by omega)), ?_, sho_keep h.2.2.2.2.2.2.1.2.2.1 rfl rfl (fun i hi => show fb_put (σ 2) (fun k => σ 2 (60 * 0 + I + k)) (60 * 1 + J) K (60 * 2 + i) = σ 2 (60 * 2 + i) from fb_put_out (by omega)), sho_keep h.2.2.2.2.2.2.1.2.2.2 rfl rfl (fun i hi => show fb_put (σ 2) (fun k => σ 2 (60 * 0 + I + k)) (60 * 1 + J) K (60 * 3 + i) = σ 2 (60 * 3 + i) from fb_put_out (by omega))⟩, h.lt, h.2.2.2.2.2.2.2.2⟩
  rcases h.2.2.2.2.2.2.1.2.1 with ⟨x1, x2⟩ | ⟨x1, x2, x3, x4⟩
  · exact absurd x2 u2
  · rcases h.2.2.2.2.2.2.1.1 with ⟨y1, y2⟩ | ⟨y1, y2, y3, y4⟩
    · exact absurd y2 u1
    · refine Or.inr ⟨x1, x2, x3, fun k hk hk6 i hi => ?_⟩
      have ek : k = z2 := (nI_eq (by omega) (by omega)).mp (hk.trans e2)
      show va_cpy (s 70) (s 71) I J K i = fb_put (σ 2) (fun k => σ 2 (60 * 0 + I + k)) (60 * 1 + J) K (60 * 1 + i)
      by_cases e : J ≤ i ∧ i < J + K
      · rw [pk_cpy_in e.1 e.2, fb_put_in (by omega) (by omega), y4 z1 e1.symm h1 (I + (i - J)) (by omega)]
        congr 1; omega
      · rw [pk_cpy_out (by omega), fb_put_out (by omega)]; exact x4 k hk hk6 i hi
theorem ci_copy02 {σ s : St} (h : CI σ s) {z1 z2 I J K : Nat} (e1 : σ 1 0 = nI z1) (e2 : σ 1 2 = nI z2) (h1 : z1 ≤ 60) (h2 : z2 ≤ 60) (u1 : ¬ σ 0 0 = -1) (u2 : ¬ σ 0 2 = -1) (g1 : I + K ≤ z1) (g2 : J + K ≤ z2) : CI (su 2 σ (fb_put (σ 2) (fun k => σ 2 (60 * 0 + I + k)) (60 * 2 + J) K)) (su 72 s (va_cpy (s 70) (s 72) I J K)) := by
  refine ⟨h.1, h.2.1, h.2.2.1, h.2.2.2.1, h.2.2.2.2.1, h.2.2.2.2.2.1, ⟨sho_keep h.2.2.2.2.2.2.1.1 rfl rfl (fun i hi => show fb_put (σ 2) (fun k => σ 2 (60 * 0 + I + k)) (60 * 2 + J) K (60 * 0 + i) = σ 2 (60 * 0 + i) from fb_put_out (by omega)), sho_keep h.2.2.2.2.2.2.1.2.1 rfl rfl (fun i hi => show fb_put (σ 2) (fun k => σ 2 (60 * 0 + I + k)) (60 * 2 + J) K (60 * 1 + i) = σ 2 (60 * 1 + i) from fb_put_out (by omega)), ?_, sho_keep h.2.2.2.2.2.2.1.2.2.2 rfl rfl (fun i hi => show fb_put (σ 2) (fun k => σ 2 (60 * 0 + I + k)) (60 * 2 + J) K (60 * 3 + i) = σ 2 (60 * 3 + i) from fb_put_out (by omega))⟩, h.lt, h.2.2.2.2.2.2.2.2⟩
  rcases h.2.2.2.2.2.2.1.2.2.1 with ⟨x1, x2⟩ | ⟨x1, x2, x3, x4⟩
  · exact absurd x2 u2
  · rcases h.2.2.2.2.2.2.1.1 with ⟨y1, y2⟩ | ⟨y1, y2, y3, y4⟩
    · exact absurd y2 u1
    · refine Or.inr ⟨x1, x2, x3, fun k hk hk6 i hi => ?_⟩
      have ek : k = z2 := (nI_eq (by omega) (by omega)).mp (hk.trans e2)
      show va_cpy (s 70) (s 72) I J K i = fb_put (σ 2) (fun k => σ 2 (60 * 0 + I + k)) (60 * 2 + J) K (60 * 2 + i)
      by_cases e : J ≤ i ∧ i < J + K
      · rw [pk_cpy_in e.1 e.2, fb_put_in (by omega) (by omega), y4 z1 e1.symm h1 (I + (i - J)) (by omega)]
        congr 1; omega
      · rw [pk_cpy_out (by omega), fb_put_out (by omega)]; exact x4 k hk hk6 i hi
theorem ci_copy03 {σ s : St} (h : CI σ s) {z1 z2 I J K : Nat} (e1 : σ 1 0 = nI z1) (e2 : σ 1 3 = nI z2) (h1 : z1 ≤ 60) (h2 : z2 ≤ 60) (u1 : ¬ σ 0 0 = -1) (u2 : ¬ σ 0 3 = -1) (g1 : I + K ≤ z1) (g2 : J + K ≤ z2) : CI (su 2 σ (fb_put (σ 2) (fun k => σ 2 (60 * 0 + I + k)) (60 * 3 + J) K)) (su 73 s (va_cpy (s 70) (s 73) I J K)) := by
  refine ⟨h.1, h.2.1, h.2.2.1, h.2.2.2.1, h.2.2.2.2.1, h.2.2.2.2.2.1, ⟨sho_keep h.2.2.2.2.2.2.1.1 rfl rfl (fun i hi => show fb_put (σ 2) (fun k => σ 2 (60 * 0 + I + k)) (60 * 3 + J) K (60 * 0 + i) = σ 2 (60 * 0 + i) from fb_put_out (by omega)), sho_keep h.2.2.2.2.2.2.1.2.1 rfl rfl (fun i hi => show fb_put (σ 2) (fun k => σ 2 (60 * 0 + I + k)) (60 * 3 + J) K (60 * 1 + i) = σ 2 (60 * 1 + i) from fb_put_out (by omega)), sho_keep h.2.2.2.2.2.2.1.2.2.1 rfl rfl (fun i hi => show fb_put (σ 2) (fun k => σ 2 (60 * 0 + I + k)) (60 * 3 + J) K (60 * 2 + i) = σ 2 (60 * 2 + i) from fb_put_out (by omega)), ?_⟩, h.lt, h.2.2.2.2.2.2.2.2⟩
  rcases h.2.2.2.2.2.2.1.2.2.2 with ⟨x1, x2⟩ | ⟨x1, x2, x3, x4⟩
  · exact absurd x2 u2
  · rcases h.2.2.2.2.2.2.1.1 with ⟨y1, y2⟩ | ⟨y1, y2, y3, y4⟩
    · exact absurd y2 u1
    · refine Or.inr ⟨x1, x2, x3, fun k hk hk6 i hi => ?_⟩
      have ek : k = z2 := (nI_eq (by omega) (by omega)).mp (hk.trans e2)
      show va_cpy (s 70) (s 73) I J K i = fb_put (σ 2) (fun k => σ 2 (60 * 0 + I + k)) (60 * 3 + J) K (60 * 3 + i)
      by_cases e : J ≤ i ∧ i < J + K
      · rw [pk_cpy_in e.1 e.2, fb_put_in (by omega) (by omega), y4 z1 e1.symm h1 (I + (i - J)) (by omega)]
        congr 1; omega
      · rw [pk_cpy_out (by omega), fb_put_out (by omega)]; exact x4 k hk hk6 i hi
theorem ci_copy10 {σ s : St} (h : CI σ s) {z1 z2 I J K : Nat} (e1 : σ 1 1 = nI z1) (e2 : σ 1 0 = nI z2) (h1 : z1 ≤ 60) (h2 : z2 ≤ 60) (u1 : ¬ σ 0 1 = -1) (u2 : ¬ σ 0 0 = -1) (g1 : I + K ≤ z1) (g2 : J + K ≤ z2) : CI (su 2 σ (fb_put (σ 2) (fun k => σ 2 (60 * 1 + I + k)) (60 * 0 + J) K)) (su 70 s (va_cpy (s 71) (s 70) I J K)) := by
  refine ⟨h.1, h.2.1, h.2.2.1, h.2.2.2.1, h.2.2.2.2.1, h.2.2.2.2.2.1, ⟨?_, sho_keep h.2.2.2.2.2.2.1.2.1 rfl rfl (fun i hi => show fb_put (σ 2) (fun k => σ 2 (60 * 1 + I + k)) (60 * 0 + J) K (60 * 1 + i) = σ 2 (60 * 1 + i) from fb_put_out (by omega)), sho_keep h.2.2.2.2.2.2.1.2.2.1 rfl rfl (fun i hi => show fb_put (σ 2) (fun k => σ 2 (60 * 1 + I + k)) (60 * 0 + J) K (60 * 2 + i) = σ 2 (60 * 2 + i) from fb_put_out (by omega)), sho_keep h.2.2.2.2.2.2.1.2.2.2 rfl rfl (fun i hi => show fb_put (σ 2) (fun k => σ 2 (60 * 1 + I + k)) (60 * 0 + J) K (60 * 3 + i) = σ 2 (60 * 3 + i) from fb_put_out (by omega))⟩, h.lt, h.2.2.2.2.2.2.2.2⟩
  rcases h.2.2.2.2.2.2.1.1 with ⟨x1, x2⟩ | ⟨x1, x2, x3, x4⟩
  · exact absurd x2 u2
  · rcases h.2.2.2.2.2.2.1.2.1 with ⟨y1, y2⟩ | ⟨y1, y2, y3, y4⟩
    · exact absurd y2 u1
    · refine Or.inr ⟨x1, x2, x3, fun k hk hk6 i hi => ?_⟩
      have ek : k = z2 := (nI_eq (by omega) (by omega)).mp (hk.trans e2)
      show va_cpy (s 71) (s 70) I J K i = fb_put (σ 2) (fun k => σ 2 (60 * 1 + I + k)) (60 * 0 + J) K (60 * 0 + i)
      by_cases e : J ≤ i ∧ i < J + K
      · rw [pk_cpy_in e.1 e.2, fb_put_in (by omega) (by omega), y4 z1 e1.symm h1 (I + (i - J)) (by omega)]
        congr 1; omega
      · rw [pk_cpy_out (by omega), fb_put_out (by omega)]; exact x4 k hk hk6 i hi
theorem ci_copy11 {σ s : St} (h : CI σ s) {z1 z2 I J K : Nat} (e1 : σ 1 1 = nI z1) (e2 : σ 1 1 = nI z2) (h1 : z1 ≤ 60) (h2 : z2 ≤ 60) (u1 : ¬ σ 0 1 = -1) (u2 : ¬ σ 0 1 = -1) (g1 : I + K ≤ z1) (g2 : J + K ≤ z2) : CI (su 2 σ (fb_put (σ 2) (fun k => σ 2 (60 * 1 + I + k)) (60 * 1 + J) K)) (su 71 s (va_cpy (s 71) (s 71) I J K)) := by
  refine ⟨h.1, h.2.1, h.2.2.1, h.2.2.2.1, h.2.2.2.2.1, h.2.2.2.2.2.1, ⟨sho_keep h.2.2.2.2.2.2.1.1 rfl rfl (fun i hi => show fb_put (σ 2) (fun k => σ 2 (60 * 1 + I + k)) (60 * 1 + J) K (60 * 0 + i) = σ 2 (60 * 0 + i) from fb_put_out (by omega)), ?_, sho_keep h.2.2.2.2.2.2.1.2.2.1 rfl rfl (fun i hi => show fb_put (σ 2) (fun k => σ 2 (60 * 1 + I + k)) (60 * 1 + J) K (60 * 2 + i) = σ 2 (60 * 2 + i) from fb_put_out (by omega)), sho_keep h.2.2.2.2.2.2.1.2.2.2 rfl rfl (fun i hi => show fb_put (σ 2) (fun k => σ 2 (60 * 1 + I + k)) (60 * 1 + J) K (60 * 3 + i) = σ 2 (60 * 3 + i) from fb_put_out (by omega))⟩, h.lt, h.2.2.2.2.2.2.2.2⟩
  rcases h.2.2.2.2.2.2.1.2.1 with ⟨x1, x2⟩ | ⟨x1, x2, x3, x4⟩
  · exact absurd x2 u2
  · rcases h.2.2.2.2.2.2.1.2.1 with ⟨y1, y2⟩ | ⟨y1, y2, y3, y4⟩
    · exact absurd y2 u1
    · refine Or.inr ⟨x1, x2, x3, fun k hk hk6 i hi => ?_⟩
      have ek : k = z2 := (nI_eq (by omega) (by omega)).mp (hk.trans e2)
      show va_cpy (s 71) (s 71) I J K i = fb_put (σ 2) (fun k => σ 2 (60 * 1 + I + k)) (60 * 1 + J) K (60 * 1 + i)
      by_cases e : J ≤ i ∧ i < J + K
      · rw [pk_cpy_in e.1 e.2, fb_put_in (by omega) (by omega), y4 z1 e1.symm h1 (I + (i - J)) (by omega)]
        congr 1; omega
      · rw [pk_cpy_out (by omega), fb_put_out (by omega)]; exact x4 k hk hk6 i hi
theorem ci_copy12 {σ s : St} (h : CI σ s) {z1 z2 I J K : Nat} (e1 : σ 1 1 = nI z1) (e2 : σ 1 2 = nI z2) (h1 : z1 ≤ 60) (h2 : z2 ≤ 60) (u1 : ¬ σ 0 1 = -1) (u2 : ¬ σ 0 2 = -1) (g1 : I + K ≤ z1) (g2 : J + K ≤ z2) : CI (su 2 σ (fb_put (σ 2) (fun k => σ 2 (60 * 1 + I + k)) (60 * 2 + J) K)) (su 72 s (va_cpy (s 71) (s 72) I J K)) := by
  refine ⟨h.1, h.2.1, h.2.2.1, h.2.2.2.1, h.2.2.2.2.1, h.2.2.2.2.2.1, ⟨sho_keep h.2.2.2.2.2.2.1.1 rfl rfl (fun i hi => show fb_put (σ 2) (fun k => σ 2 (60 * 1 + I + k)) (60 * 2 + J) K (60 * 0 + i) = σ 2 (60 * 0 + i) from fb_put_out (by omega)), sho_keep h.2.2.2.2.2.2.1.2.1 rfl rfl (fun i hi => show fb_put (σ 2) (fun k => σ 2 (60 * 1 + I + k)) (60 * 2 + J) K (60 * 1 + i) = σ 2 (60 * 1 + i) from fb_put_out (by omega)), ?_, sho_keep h.2.2.2.2.2.2.1.2.2.2 rfl rfl (fun i hi => show fb_put (σ 2) (fun k => σ 2 (60 * 1 + I + k)) (60 * 2 + J) K (60 * 3 + i) = σ 2 (60 * 3 + i) from fb_put_out (by omega))⟩, h.lt, h.2.2.2.2.2.2.2.2⟩
  rcases h.2.2.2.2.2.2.1.2.2.1 with ⟨x1, x2⟩ | ⟨x1, x2, x3, x4⟩
  · exact absurd x2 u2
  · rcases h.2.2.2.2.2.2.1.2.1 with ⟨y1, y2⟩ | ⟨y1, y2, y3, y4⟩
    · exact absurd y2 u1
    · refine Or.inr ⟨x1, x2, x3, fun k hk hk6 i hi => ?_⟩
      have ek : k = z2 := (nI_eq (by omega) (by omega)).mp (hk.trans e2)
      show va_cpy (s 71) (s 72) I J K i = fb_put (σ 2) (fun k => σ 2 (60 * 1 + I + k)) (60 * 2 + J) K (60 * 2 + i)
      by_cases e : J ≤ i ∧ i < J + K
      · rw [pk_cpy_in e.1 e.2, fb_put_in (by omega) (by omega), y4 z1 e1.symm h1 (I + (i - J)) (by omega)]
        congr 1; omega
      · rw [pk_cpy_out (by omega), fb_put_out (by omega)]; exact x4 k hk hk6 i hi
theorem ci_copy13 {σ s : St} (h : CI σ s) {z1 z2 I J K : Nat} (e1 : σ 1 1 = nI z1) (e2 : σ 1 3 = nI z2) (h1 : z1 ≤ 60) (h2 : z2 ≤ 60) (u1 : ¬ σ 0 1 = -1) (u2 : ¬ σ 0 3 = -1) (g1 : I + K ≤ z1) (g2 : J + K ≤ z2) : CI (su 2 σ (fb_put (σ 2) (fun k => σ 2 (60 * 1 + I + k)) (60 * 3 + J) K)) (su 73 s (va_cpy (s 71) (s 73) I J K)) := by
  refine ⟨h.1, h.2.1, h.2.2.1, h.2.2.2.1, h.2.2.2.2.1, h.2.2.2.2.2.1, ⟨sho_keep h.2.2.2.2.2.2.1.1 rfl rfl (fun i hi => show fb_put (σ 2) (fun k => σ 2 (60 * 1 + I + k)) (60 * 3 + J) K (60 * 0 + i) = σ 2 (60 * 0 + i) from fb_put_out (by omega)), sho_keep h.2.2.2.2.2.2.1.2.1 rfl rfl (fun i hi => show fb_put (σ 2) (fun k => σ 2 (60 * 1 + I + k)) (60 * 3 + J) K (60 * 1 + i) = σ 2 (60 * 1 + i) from fb_put_out (by omega)), sho_keep h.2.2.2.2.2.2.1.2.2.1 rfl rfl (fun i hi => show fb_put (σ 2) (fun k => σ 2 (60 * 1 + I + k)) (60 * 3 + J) K (60 * 2 + i) = σ 2 (60 * 2 + i) from fb_put_out (by omega)), ?_⟩, h.lt, h.2.2.2.2.2.2.2.2⟩
  rcases h.2.2.2.2.2.2.1.2.2.2 with ⟨x1, x2⟩ | ⟨x1, x2, x3, x4⟩
  · exact absurd x2 u2
  · rcases h.2.2.2.2.2.2.1.2.1 with ⟨y1, y2⟩ | ⟨y1, y2, y3, y4⟩
    · exact absurd y2 u1
    · refine Or.inr ⟨x1, x2, x3, fun k hk hk6 i hi => ?_⟩
      have ek : k = z2 := (nI_eq (by omega) (by omega)).mp (hk.trans e2)
      show va_cpy (s 71) (s 73) I J K i = fb_put (σ 2) (fun k => σ 2 (60 * 1 + I + k)) (60 * 3 + J) K (60 * 3 + i)
      by_cases e : J ≤ i ∧ i < J + K
      · rw [pk_cpy_in e.1 e.2, fb_put_in (by omega) (by omega), y4 z1 e1.symm h1 (I + (i - J)) (by omega)]
        congr 1; omega
      · rw [pk_cpy_out (by omega), fb_put_out (by omega)]; exact x4 k hk hk6 i hi
theorem ci_copy20 {σ s : St} (h : CI σ s) {z1 z2 I J K : Nat} (e1 : σ 1 2 = nI z1) (e2 : σ 1 0 = nI z2) (h1 : z1 ≤ 60) (h2 : z2 ≤ 60) (u1 : ¬ σ 0 2 = -1) (u2 : ¬ σ 0 0 = -1) (g1 : I + K ≤ z1) (g2 : J + K ≤ z2) : CI (su 2 σ (fb_put (σ 2) (fun k => σ 2 (60 * 2 + I + k)) (60 * 0 + J) K)) (su 70 s (va_cpy (s 72) (s 70) I J K)) := by
  refine ⟨h.1, h.2.1, h.2.2.1, h.2.2.2.1, h.2.2.2.2.1, h.2.2.2.2.2.1, ⟨?_, sho_keep h.2.2.2.2.2.2.1.2.1 rfl rfl (fun i hi => show fb_put (σ 2) (fun k => σ 2 (60 * 2 + I + k)) (60 * 0 + J) K (60 * 1 + i) = σ 2 (60 * 1 + i) from fb_put_out (by omega)), sho_keep h.2.2.2.2.2.2.1.2.2.1 rfl rfl (fun i hi => show fb_put (σ 2) (fun k => σ 2 (60 * 2 + I + k)) (60 * 0 + J) K (60 * 2 + i) = σ 2 (60 * 2 + i) from fb_put_out (by omega)), sho_keep h.2.2.2.2.2.2.1.2.2.2 rfl rfl (fun i hi => show fb_put (σ 2) (fun k => σ 2 (60 * 2 + I + k)) (60 * 0 + J) K (60 * 3 + i) = σ 2 (60 * 3 + i) from fb_put_out (by omega))⟩, h.lt, h.2.2.2.2.2.2.2.2⟩
  rcases h.2.2.2.2.2.2.1.1 with ⟨x1, x2⟩ | ⟨x1, x2, x3, x4⟩
  · exact absurd x2 u2
  · rcases h.2.2.2.2.2.2.1.2.2.1 with ⟨y1, y2⟩ | ⟨y1, y2, y3, y4⟩
    · exact absurd y2 u1
    · refine Or.inr ⟨x1, x2, x3, fun k hk hk6 i hi => ?_⟩
      have ek : k = z2 := (nI_eq (by omega) (by omega)).mp (hk.trans e2)
      show va_cpy (s 72) (s 70) I J K i = fb_put (σ 2) (fun k => σ 2 (60 * 2 + I + k)) (60 * 0 + J) K (60 * 0 + i)
      by_cases e : J ≤ i ∧ i < J + K
      · rw [pk_cpy_in e.1 e.2, fb_put_in (by omega) (by omega), y4 z1 e1.symm h1 (I + (i - J)) (by omega)]
        congr 1; omega
      · rw [pk_cpy_out (by omega), fb_put_out (by omega)]; exact x4 k hk hk6 i hi
theorem ci_copy21 {σ s : St} (h : CI σ s) {z1 z2 I J K : Nat} (e1 : σ 1 2 = nI z1) (e2 : σ 1 1 = nI z2) (h1 : z1 ≤ 60) (h2 : z2 ≤ 60) (u1 : ¬ σ 0 2 = -1) (u2 : ¬ σ 0 1 = -1) (g1 : I + K ≤ z1) (g2 : J + K ≤ z2) : CI (su 2 σ (fb_put (σ 2) (fun k => σ 2 (60 * 2 + I + k)) (60 * 1 + J) K)) (su 71 s (va_cpy (s 72) (s 71) I J K)) := by
  refine ⟨h.1, h.2.1, h.2.2.1, h.2.2.2.1, h.2.2.2.2.1, h.2.2.2.2.2.1, ⟨sho_keep h.2.2.2.2.2.2.1.1 rfl rfl (fun i hi => show fb_put (σ 2) (fun k => σ 2 (60 * 2 + I + k)) (60 * 1 + J) K (60 * 0 + i) = σ 2 (60 * 0 + i) from fb_put_out (by omega)), ?_, sho_keep h.2.2.2.2.2.2.1.2.2.1 rfl rfl (fun i hi => show fb_put (σ 2) (fun k => σ 2 (60 * 2 + I + k)) (60 * 1 + J) K (60 * 2 + i) = σ 2 (60 * 2 + i) from fb_put_out (by omega)), sho_keep h.2.2.2.2.2.2.1.2.2.2 rfl rfl (fun i hi => show fb_put (σ 2) (fun k => σ 2 (60 * 2 + I + k)) (60 * 1 + J) K (60 * 3 + i) = σ 2 (60 * 3 + i) from fb_put_out (by omega))⟩, h.lt, h.2.2.2.2.2.2.2.2⟩
  rcases h.2.2.2.2.2.2.1.2.1 with ⟨x1, x2⟩ | ⟨x1, x2, x3, x4⟩
  · exact absurd x2 u2
  · rcases h.2.2.2.2.2.2.1.2.2.1 with ⟨y1, y2⟩ | ⟨y1, y2, y3, y4⟩
    · exact absurd y2 u1
    · refine Or.inr ⟨x1, x2, x3, fun k hk hk6 i hi => ?_⟩
      have ek : k = z2 := (nI_eq (by omega) (by omega)).mp (hk.trans e2)
      show va_cpy (s 72) (s 71) I J K i = fb_put (σ 2) (fun k => σ 2 (60 * 2 + I + k)) (60 * 1 + J) K (60 * 1 + i)
      by_cases e : J ≤ i ∧ i < J + K
      · rw [pk_cpy_in e.1 e.2, fb_put_in (by omega) (by omega), y4 z1 e1.symm h1 (I + (i - J)) (by omega)]
        congr 1; omega
      · rw [pk_cpy_out (by omega), fb_put_out (by omega)]; exact x4 k hk hk6 i hi
theorem ci_copy22 {σ s : St} (h : CI σ s) {z1 z2 I J K : Nat} (e1 : σ 1 2 = nI z1) (e2 : σ 1 2 = nI z2) (h1 : z1 ≤ 60) (h2 : z2 ≤ 60) (u1 : ¬ σ 0 2 = -1) (u2 : ¬ σ 0 2 = -1) (g1 : I + K ≤ z1) (g2 : J + K ≤ z2) : CI (su 2 σ (fb_put (σ 2) (fun k => σ 2 (60 * 2 + I + k)) (60 * 2 + J) K)) (su 72 s (va_cpy (s 72) (s 72) I J K)) := by
  refine ⟨h.1, h.2.1, h.2.2.1, h.2.2.2.1, h.2.2.2.2.1, h.2.2.2.2.2.1, ⟨sho_keep h.2.2.2.2.2.2.1.1 rfl rfl (fun i hi => show fb_put (σ 2) (fun k => σ 2 (60 * 2 + I + k)) (60 * 2 + J) K (60 * 0 + i) = σ 2 (60 * 0 + i) from fb_put_out (by omega)), sho_keep h.2.2.2.2.2.2.1.2.1 rfl rfl (fun i hi => show fb_put (σ 2) (fun k => σ 2 (60 * 2 + I + k)) (60 * 2 + J) K (60 * 1 + i) = σ 2 (60 * 1 + i) from fb_put_out (by omega)), ?_, sho_keep h.2.2.2.2.2.2.1.2.2.2 rfl rfl (fun i hi => show fb_put (σ 2) (fun k => σ 2 (60 * 2 + I + k)) (60 * 2 + J) K (60 * 3 + i) = σ 2 (60 * 3 + i) from fb_put_out (by omega))⟩, h.lt, h.2.2.2.2.2.2.2.2⟩
  rcases h.2.2.2.2.2.2.1.2.2.1 with ⟨x1, x2⟩ | ⟨x1, x2, x3, x4⟩
  · exact absurd x2 u2
  · rcases h.2.2.2.2.2.2.1.2.2.1 with ⟨y1, y2⟩ | ⟨y1, y2, y3, y4⟩
    · exact absurd y2 u1
    · refine Or.inr ⟨x1, x2, x3, fun k hk hk6 i hi => ?_⟩
      have ek : k = z2 := (nI_eq (by omega) (by omega)).mp (hk.trans e2)
      show va_cpy (s 72) (s 72) I J K i = fb_put (σ 2) (fun k => σ 2 (60 * 2 + I + k)) (60 * 2 + J) K (60 * 2 + i)
      by_cases e : J ≤ i ∧ i < J + K
      · rw [pk_cpy_in e.1 e.2, fb_put_in (by omega) (by omega), y4 z1 e1.symm h1 (I + (i - J)) (by omega)]
        congr 1; omega
      · rw [pk_cpy_out (by omega), fb_put_out (by omega)]; exact x4 k hk hk6 i hi
theorem ci_copy23 {σ s : St} (h : CI σ s) {z1 z2 I J K : Nat} (e1 : σ 1 2 = nI z1) (e2 : σ 1 3 = nI z2) (h1 : z1 ≤ 60) (h2 : z2 ≤ 60) (u1 : ¬ σ 0 2 = -1) (u2 : ¬ σ 0 3 = -1) (g1 : I + K ≤ z1) (g2 : J + K ≤ z2) : CI (su 2 σ (fb_put (σ 2) (fun k => σ 2 (60 * 2 + I + k)) (60 * 3 + J) K)) (su 73 s (va_cpy (s 72) (s 73) I J K)) := by
  refine ⟨h.1, h.2.1, h.2.2.1, h.2.2.2.1, h.2.2.2.2.1, h.2.2.2.2.2.1, ⟨sho_keep h.2.2.2.2.2.2.1.1 rfl rfl (fun i hi => show fb_put (σ 2) (fun k => σ 2 (60 * 2 + I + k)) (60 * 3 + J) K (60 * 0 + i) = σ 2 (60 * 0 + i) from fb_put_out (by omega)), sho_keep h.2.2.2.2.2.2.1.2.1 rfl rfl (fun i hi => show fb_put (σ 2) (fun k => σ 2 (60 * 2 + I + k)) (60 * 3 + J) K (60 * 1 + i) = σ 2 (60 * 1 + i) from fb_put_out (by omega)), sho_keep h.2.2.2.2.2.2.1.2.2.1 rfl rfl (fun i hi => show fb_put (σ 2) (fun k => σ 2 (60 * 2 + I + k)) (60 * 3 + J) K (60 * 2 + i) = σ 2 (60 * 2 + i) from fb_put_out (by omega)), ?_⟩, h.lt, h.2.2.2.2.2.2.2.2⟩
  rcases h.2.2.2.2.2.2.1.2.2.2 with ⟨x1, x2⟩ | ⟨x1, x2, x3, x4⟩
  · exact absurd x2 u2
  · rcases h.2.2.2.2.2.2.1.2.2.1 with ⟨y1, y2⟩ | ⟨y1, y2, y3, y4⟩
    · exact absurd y2 u1
    · refine Or.inr ⟨x1, x2, x3, fun k hk hk6 i hi => ?_⟩
      have ek : k = z2 := (nI_eq (by omega) (by omega)).mp (hk.trans e2)
      show va_cpy (s 72) (s 73) I J K i = fb_put (σ 2) (fun k => σ 2 (60 * 2 + I + k)) (60 * 3 + J) K (60 * 3 + i)
      by_cases e : J ≤ i ∧ i < J + K
      · rw [pk_cpy_in e.1 e.2, fb_put_in (by omega) (by omega), y4 z1 e1.symm h1 (I + (i - J)) (by omega)]
        congr 1; omega
      · rw [pk_cpy_out (by omega), fb_put_out (by omega)]; exact x4 k hk hk6 i hi
theorem ci_copy30 {σ s : St} (h : CI σ s) {z1 z2 I J K : Nat} (e1 : σ 1 3 = nI z1) (e2 : σ 1 0 = nI z2) (h1 : z1 ≤ 60) (h2 : z2 ≤ 60) (u1 : ¬ σ 0 3 = -1) (u2 : ¬ σ 0 0 = -1) (g1 : I + K ≤ z1) (g2 : J + K ≤ z2) : CI (su 2 σ (fb_put (σ 2) (fun k => σ 2 (60 * 3 + I + k)) (60 * 0 + J) K)) (su 70 s (va_cpy (s 73) (s 70) I J K)) := by
  refine ⟨h.1, h.2.1, h.2.2.1, h.2.2.2.1, h.2.2.2.2.1, h.2.2.2.2.2.1, ⟨?_, sho_keep h.2.2.2.2.2.2.1.2.1 rfl rfl (fun i hi => show fb_put (σ 2) (fun k => σ 2 (60 * 3 + I + k)) (60 * 0 + J) K (60 * 1 + i) = σ 2 (60 * 1 + i) from fb_put_out (by omega)), sho_keep h.2.2.2.2.2.2.1.2.2.1 rfl rfl (fun i hi => show fb_put (σ 2) (fun k => σ 2 (60 * 3 + I + k)) (60 * 0 + J) K (60 * 2 + i) = σ 2 (60 * 2 + i) from fb_put_out (by omega)), sho_keep h.2.2.2.2.2.2.1.2.2.2 rfl rfl (fun i hi => show fb_put (σ 2) (fun k => σ 2 (60 * 3 + I + k)) (60 * 0 + J) K (60 * 3 + i) = σ 2 (60 * 3 + i) from fb_put_out (by omega))⟩, h.lt, h.2.2.2.2.2.2.2.2⟩
  rcases h.2.2.2.2.2.2.1.1 with ⟨x1, x2⟩ | ⟨x1, x2, x3, x4⟩
  · exact absurd x2 u2
  · rcases h.2.2.2.2.2.2.1.2.2.2 with ⟨y1, y2⟩ | ⟨y1, y2, y3, y4⟩
    · exact absurd y2 u1
    · refine Or.inr ⟨x1, x2, x3, fun k hk hk6 i hi => ?_⟩
      have ek : k = z2 := (nI_eq (by omega) (by omega)).mp (hk.trans e2)
      show va_cpy (s 73) (s 70) I J K i = fb_put (σ 2) (fun k => σ 2 (60 * 3 + I + k)) (60 * 0 + J) K (60 * 0 + i)
      by_cases e : J ≤ i ∧ i < J + K
      · rw [pk_cpy_in e.1 e.2, fb_put_in (by omega) (by omega), y4 z1 e1.symm h1 (I + (i - J)) (by omega)]
        congr 1; omega
      · rw [pk_cpy_out (by omega), fb_put_out (by omega)]; exact x4 k hk hk6 i hi
theorem ci_copy31 {σ s : St} (h : CI σ s) {z1 z2 I J K : Nat} (e1 : σ 1 3 = nI z1) (e2 : σ 1 1 = nI z2) (h1 : z1 ≤ 60) (h2 : z2 ≤ 60) (u1 : ¬ σ 0 3 = -1) (u2 : ¬ σ 0 1 = -1) (g1 : I + K ≤ z1) (g2 : J + K ≤ z2) : CI (su 2 σ (fb_put (σ 2) (fun k => σ 2 (60 * 3 + I + k)) (60 * 1 + J) K)) (su 71 s (va_cpy (s 73) (s 71) I J K)) := by
  refine ⟨h.1, h.2.1, h.2.2.1, h.2.2.2.1, h.2.2.2.2.1, h.2.2.2.2.2.1, ⟨sho_keep h.2.2.2.2.2.2.1.1 rfl rfl (fun i hi => show fb_put (σ 2) (fun k => σ 2 (60 * 3 + I + k)) (60 * 1 + J) K (60 * 0 + i) = σ 2 (60 * 0 + i) from fb_put_out (by omega)), ?_, sho_keep h.2.2.2.2.2.2.1.2.2.1 rfl rfl (fun i hi => show fb_put (σ 2) (fun k => σ 2 (60 * 3 + I + k)) (60 * 1 + J) K (60 * 2 + i) = σ 2 (60 * 2 + i) from fb_put_out (by omega)), sho_keep h.2.2.2.2.2.2.1.2.2.2 rfl rfl (fun i hi => show fb_put (σ 2) (fun k => σ 2 (60 * 3 + I + k)) (60 * 1 + J) K (60 * 3 + i) = σ 2 (60 * 3 + i) from fb_put_out (by omega))⟩, h.lt, h.2.2.2.2.2.2.2.2⟩
  rcases h.2.2.2.2.2.2.1.2.1 with ⟨x1, x2⟩ | ⟨x1, x2, x3, x4⟩
  · exact absurd x2 u2
  · rcases h.2.2.2.2.2.2.1.2.2.2 with ⟨y1, y2⟩ | ⟨y1, y2, y3, y4⟩
    · exact absurd y2 u1
    · refine Or.inr ⟨x1, x2, x3, fun k hk hk6 i hi => ?_⟩
      have ek : k = z2 := (nI_eq (by omega) (by omega)).mp (hk.trans e2)
      show va_cpy (s 73) (s 71) I J K i = fb_put (σ 2) (fun k => σ 2 (60 * 3 + I + k)) (60 * 1 + J) K (60 * 1 + i)
      by_cases e : J ≤ i ∧ i < J + K
      · rw [pk_cpy_in e.1 e.2, fb_put_in (by omega) (by omega), y4 z1 e1.symm h1 (I + (i - J)) (by omega)]
        congr 1; omega
      · rw [pk_cpy_out (by omega), fb_put_out (by omega)]; exact x4 k hk hk6 i hi
theorem ci_copy32 {σ s : St} (h : CI σ s) {z1 z2 I J K : Nat} (e1 : σ 1 3 = nI z1) (e2 : σ 1 2 = nI z2) (h1 : z1 ≤ 60) (h2 : z2 ≤ 60) (u1 : ¬ σ 0 3 = -1) (u2 : ¬ σ 0 2 = -1) (g1 : I + K ≤ z1) (g2 : J + K ≤ z2) : CI (su 2 σ (fb_put (σ 2) (fun k => σ 2 (60 * 3 + I + k)) (60 * 2 + J) K)) (su 72 s (va_cpy (s 73) (s 72) I J K)) := by
  refine ⟨h.1, h.2.1, h.2.2.1, h.2.2.2.1, h.2.2.2.2.1, h.2.2.2.2.2.1, ⟨sho_keep h.2.2.2.2.2.2.1.1 rfl rfl (fun i hi => show fb_put (σ 2) (fun k => σ 2 (60 * 3 + I + k)) (60 * 2 + J) K (60 * 0 + i) = σ 2 (60 * 0 + i) from fb_put_out (by omega)), sho_keep h.2.2.2.2.2.2.1.2.1 rfl rfl (fun i hi => show fb_put (σ 2) (fun k => σ 2 (60 * 3 + I + k)) (60 * 2 + J) K (60 * 1 + i) = σ 2 (60 * 1 + i) from fb_put_out (by omega)), ?_, sho_keep h.2.2.2.2.2.2.1.2.2.2 rfl rfl (fun i hi => show fb_put (σ 2) (fun k => σ 2 (60 * 3 + I + k)) (60 * 2 + J) K (60 * 3 + i) = σ 2 (60 * 3 + i) from fb_put_out (by omega))⟩, h.lt, h.2.2.2.2.2.2.2.2⟩
  rcases h.2.2.2.2.2.2.1.2.2.1 with ⟨x1, x2⟩ | ⟨x1, x2, x3, x4⟩
  · exact absurd x2 u2
  · rcases h.2.2.2.2.2.2.1.2.2.2 with ⟨y1, y2⟩ | ⟨y1, y2, y3, y4⟩
    · exact absurd y2 u1
    · refine Or.inr ⟨x1, x2, x3, fun k hk hk6 i hi => ?_⟩
      have ek : k = z2 := (nI_eq (by omega) (by omega)).mp (hk.trans e2)
      show va_cpy (s 73) (s 72) I J K i = fb_put (σ 2) (fun k => σ 2 (60 * 3 + I + k)) (60 * 2 + J) K (60 * 2 + i)
      by_cases e : J ≤ i ∧ i < J + K
      · rw [pk_cpy_in e.1 e.2, fb_put_in (by omega) (by omega), y4 z1 e1.symm h1 (I + (i - J)) (by omega)]
        congr 1; omega
      · rw [pk_cpy_out (by omega), fb_put_out (by omega)]; exact x4 k hk hk6 i hi
theorem ci_copy33 {σ s : St} (h : CI σ s) {z1 z2 I J K : Nat} (e1 : σ 1 3 = nI z1) (e2 : σ 1 3 = nI z2) (h1 : z1 ≤ 60) (h2 : z2 ≤ 60) (u1 : ¬ σ 0 3 = -1) (u2 : ¬ σ 0 3 = -1) (g1 : I + K ≤ z1) (g2 : J + K ≤ z2) : CI (su 2 σ (fb_put (σ 2) (fun k => σ 2 (60 * 3 + I + k)) (60 * 3 + J) K)) (su 73 s (va_cpy (s 73) (s 73) I J K)) := by
  refine ⟨h.1, h.2.1, h.2.2.1, h.2.2.2.1, h.2.2.2.2.1, h.2.2.2.2.2.1, ⟨sho_keep h.2.2.2.2.2.2.1.1 rfl rfl (fun i hi => show fb_put (σ 2) (fun k => σ 2 (60 * 3 + I + k)) (60 * 3 + J) K (60 * 0 + i) = σ 2 (60 * 0 + i) from fb_put_out (by omega)), sho_keep h.2.2.2.2.2.2.1.2.1 rfl rfl (fun i hi => show fb_put (σ 2) (fun k => σ 2 (60 * 3 + I + k)) (60 * 3 + J) K (60 * 1 + i) = σ 2 (60 * 1 + i) from fb_put_out (by omega)), sho_keep h.2.2.2.2.2.2.1.2.2.1 rfl rfl (fun i hi => show fb_put (σ 2) (fun k => σ 2 (60 * 3 + I + k)) (60 * 3 + J) K (60 * 2 + i) = σ 2 (60 * 2 + i) from fb_put_out (by omega)), ?_⟩, h.lt, h.2.2.2.2.2.2.2.2⟩
  rcases h.2.2.2.2.2.2.1.2.2.2 with ⟨x1, x2⟩ | ⟨x1, x2, x3, x4⟩
  · exact absurd x2 u2
  · rcases h.2.2.2.2.2.2.1.2.2.2 with ⟨y1, y2⟩ | ⟨y1, y2, y3, y4⟩
    · exact absurd y2 u1
    · refine Or.inr ⟨x1, x2, x3, fun k hk hk6 i hi => ?_⟩
      have ek : k = z2 := (nI_eq (by omega) (by omega)).mp (hk.trans e2)
      show va_cpy (s 73) (s 73) I J K i = fb_put (σ 2) (fun k => σ 2 (60 * 3 + I + k)) (60 * 3 + J) K (60 * 3 + i)
      by_cases e : J ≤ i ∧ i < J + K
      · rw [pk_cpy_in e.1 e.2, fb_put_in (by omega) (by omega), y4 z1 e1.symm h1 (I + (i - J)) (by omega)]
        congr 1; omega
      · rw [pk_cpy_out (by omega), fb_put_out (by omega)]; exact x4 k hk hk6 i hi

set_option maxRecDepth 100000 in
set_option maxHeartbeats 1000000 in
theorem j_X11_copy00 {G : GT} (r : Nat → Nat) (s : St) (l : Nat → Int64) (σ : St) (hL : LI σ) (hC : CI σ s) (i j k : Int32) {Q : Option Value → va_W → Prop} (hq : ∀ (x : St) (lx : Nat → Int64) (a : Int32 × St), a = oCopy (nI 0) i (nI 0) j k σ → CI a.2 x → Q (some (.int a.1)) (cW G r x lx)) : J G "copy" RX11 cX11_copy 8 (some .int) 0 0 3 Q 0 0 0 [(0, .ref (r 0)), (1, .int (nI 0)), (2, .int i), (3, .int (nI 0)), (4, .int j), (5, .int k)] [] (cW G r s l) := by
  refine J_iload_n dX11_copy_0 rfl rfl ?_
  refine J_iconst (v := nI 4) dX11_copy_1 (by decide) ?_
  refine J_cSi [.int (nI 0), .int (nI 4)] ms_X11_48 (c_X11_isBelowN (cW G r s l) (nI 0) 4) rfl rfl (by decide) (Nat.le_of_ble_eq_true rfl) ⟨Nat.le_refl _, Nat.le_refl _⟩ dX11_copy_2 ?_
  refine J_if_eqB 16 dX11_copy_5 (by decide) (fun c => absurd c (by rw [(show rng (nI 0) 4 = true by decide)]; decide)) (fun _ => ?_)
  refine J_iload_n dX11_copy_8 rfl rfl ?_
  refine J_iconst (v := nI 4) dX11_copy_9 (by decide) ?_
  refine J_cSi [.int (nI 0), .int (nI 4)] ms_X11_48 (c_X11_isBelowN (cW G r s l) (nI 0) 4) rfl rfl (by decide) (Nat.le_of_ble_eq_true rfl) ⟨Nat.le_refl _, Nat.le_refl _⟩ dX11_copy_10 ?_
  refine J_if_neB 19 dX11_copy_13 (by decide) (fun _ => ?_) (fun c => absurd c (by rw [(show rng (nI 0) 4 = true by decide)]; decide))
  rcases hC.2.2.2.2.2.2.1.1 with ⟨u1_0, u2_0⟩ | ⟨u1_0, u2_0, u3_0, u4_0⟩
  · have hls_0 : decide (s 68 0 = -1) = true := decide_eq_true u1_0
    have hsp_0 : ¬ 0 ≤ σ 0 0 := by rw [u2_0]; decide
    refine J_aload_n dX11_copy_19 rfl rfl ?_
    refine Cg_0_4 fr_X11_39_10 dX11_copy_20 ?_
    refine J_iload_n dX11_copy_23 rfl rfl ?_
    refine Cl_10 0 rfl (by omega) dX11_copy_24 ?_
    refine J_astore [(0, .ref (r 0)), (1, .int (nI 0)), (2, .int i), (3, .int (nI 0)), (4, .int j), (5, .int k), (6, .ref (r (11 + 0)))] dX11_copy_25 (by decide) rfl rfl rfl ?_
    refine J_aload_n dX11_copy_27 rfl rfl ?_
    refine Cg_0_4 fr_X11_39_10 dX11_copy_28 ?_
    refine J_iload_n dX11_copy_31 rfl rfl ?_
    refine Cl_10 0 rfl (by omega) dX11_copy_32 ?_
    refine J_astore [(0, .ref (r 0)), (1, .int (nI 0)), (2, .int i), (3, .int (nI 0)), (4, .int j), (5, .int k), (6, .ref (r (11 + 0))), (7, .ref (r (11 + 0)))] dX11_copy_33 (by decide) rfl rfl rfl ?_
    refine J_aload dX11_copy_35 rfl ?_
    refine J_cVi (x := yX12_in) [] (11 + 0) mv_X11_227 (c_X8_isLost r s l 0 (by omega)) (cW_sh (by omega)) rfl rfl (by decide) (Nat.le_of_ble_eq_true rfl) ⟨Nat.le_refl _, Nat.le_refl _⟩ dX11_copy_37 ?_
    refine J_if_neB 51 dX11_copy_40 (by decide) (fun _ => ?_) (fun c => absurd c (by rw [hls_0]; decide))
    refine J_aload_n dX11_copy_51 rfl rfl ?_
    refine J_iconst (v := nI 1) dX11_copy_52 (by decide) ?_
    refine J_cVi (x := yX12_in) [.int (nI 1)] 0 mv_X11_230 (c_X11_found r s l 1) cW_0 rfl rfl (by decide) (Nat.le_of_ble_eq_true rfl) ⟨Nat.le_refl _, Nat.le_refl _⟩ dX11_copy_53 ?_
    show J G "copy" RX11 cX11_copy 8 (some .int) 0 0 3 Q 0 0 56 [(0, .ref (r 0)), (1, .int (nI 0)), (2, .int i), (3, .int (nI 0)), (4, .int j), (5, .int k), (6, .ref (r (11 + 0))), (7, .ref (r (11 + 0)))] [.int ((-10) - nI 1)] (cW G r (su 50 s (fun _ => nI 1)) l)
    exact J_iret dX11_copy_56 rfl rfl rfl (hq (su 50 s (fun _ => nI 1)) l ((-10) - nI 1, (su 4 σ (fun _ => nI 1))) (by simp [oCopy, fnd, hsp_0, rng_of (show 0 < 4 by decide) (by decide), nI_clamp (show 0 < 2 ^ 31 by decide)]) (ci_fnd hC))
  · obtain ⟨z_0, hz60_0, ez_0⟩ := (hL.sh (j := 0) (by decide)).2
    have hz_0 : s 68 0 = nI z_0 := u3_0.trans ez_0
    have hls_0 : decide (s 68 0 = -1) = false := decide_eq_false (by rw [hz_0]; exact fun q => m1_ne (by omega) q.symm)
    obtain ⟨fo_0, hfo_0, efo_0⟩ := (hL.sh (j := 0) (by decide)).1.resolve_left u2_0
    have hsp_0 : 0 ≤ σ 0 0 := by rw [efo_0]; exact nI_nn (by omega)
    have hit_0 : ∀ i, i < z_0 → s 70 i = σ 2 (60 * 0 + i) := u4_0 z_0 ez_0.symm hz60_0
    have ezc_0 : (σ 1 0).toNatClampNeg = z_0 := by rw [ez_0]; exact nI_clamp (by omega)
    refine J_aload_n dX11_copy_19 rfl rfl ?_
    refine Cg_0_4 fr_X11_39_10 dX11_copy_20 ?_
    refine J_iload_n dX11_copy_23 rfl rfl ?_
    refine Cl_10 0 rfl (by omega) dX11_copy_24 ?_
    refine J_astore [(0, .ref (r 0)), (1, .int (nI 0)), (2, .int i), (3, .int (nI 0)), (4, .int j), (5, .int k), (6, .ref (r (11 + 0)))] dX11_copy_25 (by decide) rfl rfl rfl ?_
    refine J_aload_n dX11_copy_27 rfl rfl ?_
    refine Cg_0_4 fr_X11_39_10 dX11_copy_28 ?_
    refine J_iload_n dX11_copy_31 rfl rfl ?_
    refine Cl_10 0 rfl (by omega) dX11_copy_32 ?_
    refine J_astore [(0, .ref (r 0)), (1, .int (nI 0)), (2, .int i), (3, .int (nI 0)), (4, .int j), (5, .int k), (6, .ref (r (11 + 0))), (7, .ref (r (11 + 0)))] dX11_copy_33 (by decide) rfl rfl rfl ?_
    refine J_aload dX11_copy_35 rfl ?_
    refine J_cVi (x := yX12_in) [] (11 + 0) mv_X11_227 (c_X8_isLost r s l 0 (by omega)) (cW_sh (by omega)) rfl rfl (by decide) (Nat.le_of_ble_eq_true rfl) ⟨Nat.le_refl _, Nat.le_refl _⟩ dX11_copy_37 ?_
    refine J_if_neB 51 dX11_copy_40 (by decide) (fun c => absurd c (by rw [hls_0]; decide)) (fun _ => ?_)
    refine J_aload dX11_copy_43 rfl ?_
    refine J_cVi (x := yX12_in) [] (11 + 0) mv_X11_227 (c_X8_isLost r s l 0 (by omega)) (cW_sh (by omega)) rfl rfl (by decide) (Nat.le_of_ble_eq_true rfl) ⟨Nat.le_refl _, Nat.le_refl _⟩ dX11_copy_45 ?_
    refine J_if_eqB 57 dX11_copy_48 (by decide) (fun _ => ?_) (fun c => absurd c (by rw [hls_0]; decide))
    refine J_aload dX11_copy_57 rfl ?_
    refine Cg_sh_1 (s := s) (by omega) fr_X11_279_7 (s 67 0) rfl dX11_copy_59 ?_
    refine J_rw (y := σ 0 0) u1_0.symm ?_
    refine J_aload dX11_copy_62 rfl ?_
    refine Cg_sh_1 (s := s) (by omega) fr_X11_279_7 (s 67 0) rfl dX11_copy_64 ?_
    refine J_rw (y := σ 0 0) u1_0.symm ?_
    refine J_icmp_eq 76 dX11_copy_67 (by decide) (fun kcz1 => ?_) (fun kcz1 => ?_)
    · refine J_aload dX11_copy_76 rfl ?_
      refine J_iload_n dX11_copy_78 rfl rfl ?_
      refine J_iload dX11_copy_79 rfl ?_
      refine J_cVi (x := yX12_in) [.int i, .int k] (11 + 0) mv_X11_282 (c_X8_hasItems r s l 0 (by decide) z_0 hz_0 hz60_0 i k) (cW_sh (by omega)) rfl rfl (by decide) (Nat.le_of_ble_eq_true rfl) ⟨Nat.le_refl _, Nat.le_refl _⟩ dX11_copy_81 ?_
      refine J_if_eqB 99 dX11_copy_84 (by decide) (fun kcz2 => ?_) (fun kcz2 => ?_)
      · have hok : cpOk (nI 0) i (nI 0) j k σ = false := hi_no ez_0 ez_0 hz60_0 hz60_0 (Or.inl kcz2)
        refine J_aload_n dX11_copy_99 rfl rfl ?_
        refine J_iconst (v := nI 2) dX11_copy_100 (by decide) ?_
        refine J_cVi (x := yX12_in) [.int (nI 2)] 0 mv_X11_230 (c_X11_found r s l 2) cW_0 rfl rfl (by decide) (Nat.le_of_ble_eq_true rfl) ⟨Nat.le_refl _, Nat.le_refl _⟩ dX11_copy_101 ?_
        show J G "copy" RX11 cX11_copy 8 (some .int) 0 0 3 Q 0 0 104 [(0, .ref (r 0)), (1, .int (nI 0)), (2, .int i), (3, .int (nI 0)), (4, .int j), (5, .int k), (6, .ref (r (11 + 0))), (7, .ref (r (11 + 0)))] [.int ((-10) - nI 2)] (cW G r (su 50 s (fun _ => nI 2)) l)
        exact J_iret dX11_copy_104 rfl rfl rfl (hq (su 50 s (fun _ => nI 2)) l ((-10) - nI 2, (su 4 σ (fun _ => nI 2))) (by simp [oCopy, fnd, hsp_0, kcz1, kcz2, hok, rng_of (show 0 < 4 by decide) (by decide), nI_clamp (show 0 < 2 ^ 31 by decide)]) (ci_fnd hC))
      · refine J_aload dX11_copy_87 rfl ?_
        refine J_iload dX11_copy_89 rfl ?_
        refine J_iload dX11_copy_91 rfl ?_
        refine J_cVi (x := yX12_in) [.int j, .int k] (11 + 0) mv_X11_282 (c_X8_hasItems r s l 0 (by decide) z_0 hz_0 hz60_0 j k) (cW_sh (by omega)) rfl rfl (by decide) (Nat.le_of_ble_eq_true rfl) ⟨Nat.le_refl _, Nat.le_refl _⟩ dX11_copy_93 ?_
        refine J_if_neB 105 dX11_copy_96 (by decide) (fun kcz3 => ?_) (fun kcz3 => ?_)
        · obtain ⟨Ii, Jj, Nn, rfl, rfl, rfl, hc1, hc2⟩ := hi_in kcz2 kcz3 hz60_0 hz60_0
          have eIi : (nI Ii).toNatClampNeg = Ii := nI_clamp (by omega)
          have eJj : (nI Jj).toNatClampNeg = Jj := nI_clamp (by omega)
          have eNn : (nI Nn).toNatClampNeg = Nn := nI_clamp (by omega)
          have hok : cpOk (nI 0) (nI Ii) (nI 0) (nI Jj) (nI Nn) σ = true := hi_cp ez_0 ez_0 hc1 hc2 hz60_0 hz60_0
          refine J_aload dX11_copy_105 rfl ?_
          refine Cg_sh_0 (by omega) fr_X11_285_7 dX11_copy_107 ?_
          refine J_iload_n dX11_copy_110 rfl rfl ?_
          refine J_aload dX11_copy_111 rfl ?_
          refine Cg_sh_0 (by omega) fr_X11_285_7 dX11_copy_113 ?_
          refine J_iload dX11_copy_116 rfl ?_
          refine J_iload dX11_copy_118 rfl ?_
          refine J_copyi (N0 := 60) (N1 := 60) ac_link ac_nat ac_stat ac_init (15 + 0) (15 + 0) (cW G r (su 70 s (va_cpy (s 70) (s 70) Ii Jj Nn)) l) (cW_si (by decide)) (cW_si (by decide)) (cI_nlt (by omega)) (cI_nlt (by omega)) (cI_nlt (by omega)) (by rw [nI_clamp (by omega), nI_clamp (by omega)]; omega) (by rw [nI_clamp (by omega), nI_clamp (by omega)]; omega) (by omega) (by decide) (by rw [nI_clamp (by omega), nI_clamp (by omega), nI_clamp (by omega)]; exact cW_set3 (by decide)) dX11_copy_120 ?_
          show J G "copy" RX11 cX11_copy 8 (some .int) 0 0 3 Q 0 0 123 [(0, .ref (r 0)), (1, .int (nI 0)), (2, .int (nI Ii)), (3, .int (nI 0)), (4, .int (nI Jj)), (5, .int (nI Nn)), (6, .ref (r (11 + 0))), (7, .ref (r (11 + 0)))] [] (cW G r (su 70 s (va_cpy (s 70) (s 70) Ii Jj Nn)) l)
          refine J_iconst (v := nI 1) dX11_copy_123 (by decide) ?_
          exact J_iret dX11_copy_124 rfl rfl rfl (hq (su 70 s (va_cpy (s 70) (s 70) Ii Jj Nn)) l (nI 1, (su 2 σ (fb_put (σ 2) (fun k => σ 2 (60 * 0 + Ii + k)) (60 * 0 + Jj) Nn))) (by simp [oCopy, fnd, hsp_0, kcz1, eIi, eJj, eNn, hok, rng_of (show 0 < 4 by decide) (by decide), nI_clamp (show 0 < 2 ^ 31 by decide)]) (ci_copy00 hC ez_0 ez_0 hz60_0 hz60_0 u2_0 u2_0 hc1 hc2))
        · have hok : cpOk (nI 0) i (nI 0) j k σ = false := hi_no ez_0 ez_0 hz60_0 hz60_0 (Or.inr kcz3)
          refine J_aload_n dX11_copy_99 rfl rfl ?_
          refine J_iconst (v := nI 2) dX11_copy_100 (by decide) ?_
          refine J_cVi (x := yX12_in) [.int (nI 2)] 0 mv_X11_230 (c_X11_found r s l 2) cW_0 rfl rfl (by decide) (Nat.le_of_ble_eq_true rfl) ⟨Nat.le_refl _, Nat.le_refl _⟩ dX11_copy_101 ?_
          show J G "copy" RX11 cX11_copy 8 (some .int) 0 0 3 Q 0 0 104 [(0, .ref (r 0)), (1, .int (nI 0)), (2, .int i), (3, .int (nI 0)), (4, .int j), (5, .int k), (6, .ref (r (11 + 0))), (7, .ref (r (11 + 0)))] [.int ((-10) - nI 2)] (cW G r (su 50 s (fun _ => nI 2)) l)
          exact J_iret dX11_copy_104 rfl rfl rfl (hq (su 50 s (fun _ => nI 2)) l ((-10) - nI 2, (su 4 σ (fun _ => nI 2))) (by simp [oCopy, fnd, hsp_0, kcz1, kcz2, kcz3, hok, rng_of (show 0 < 4 by decide) (by decide), nI_clamp (show 0 < 2 ^ 31 by decide)]) (ci_fnd hC))
    · refine J_aload_n dX11_copy_70 rfl rfl ?_
      refine J_iconst (v := nI 4) dX11_copy_71 (by decide) ?_
      refine J_cVi (x := yX12_in) [.int (nI 4)] 0 mv_X11_230 (c_X11_found r s l 4) cW_0 rfl rfl (by decide) (Nat.le_of_ble_eq_true rfl) ⟨Nat.le_refl _, Nat.le_refl _⟩ dX11_copy_72 ?_
      show J G "copy" RX11 cX11_copy 8 (some .int) 0 0 3 Q 0 0 75 [(0, .ref (r 0)), (1, .int (nI 0)), (2, .int i), (3, .int (nI 0)), (4, .int j), (5, .int k), (6, .ref (r (11 + 0))), (7, .ref (r (11 + 0)))] [.int ((-10) - nI 4)] (cW G r (su 50 s (fun _ => nI 4)) l)
      exact J_iret dX11_copy_75 rfl rfl rfl (hq (su 50 s (fun _ => nI 4)) l ((-10) - nI 4, (su 4 σ (fun _ => nI 4))) (absurd rfl kcz1) (ci_fnd hC))
theorem c_X11_copy00 {G : GT} (r : Nat → Nat) (s : St) (l : Nat → Int64) (σ : St) (hL : LI σ) (hC : CI σ s) (i j k : Int32) : Ct G yX11_copy cX11_copy 8 (some .int) 0 0 3 [.ref (r 0), .int (nI 0), .int i, .int (nI 0), .int j, .int k] (cW G r s l) (QC G r (oCopy (nI 0) i (nI 0) j k σ)) := Ct.of rfl (Nat.le_of_ble_eq_true rfl) (j_X11_copy00 r s l σ hL hC i j k (fun x lx a h1 h2 => ⟨x, lx, by rw [h1], rfl, by rw [← h1]; exact h2⟩))
set_option maxRecDepth 100000 in
set_option maxHeartbeats 1000000 in
theorem j_X11_copy01 {G : GT} (r : Nat → Nat) (s : St) (l : Nat → Int64) (σ : St) (hL : LI σ) (hC : CI σ s) (i j k : Int32) {Q : Option Value → va_W → Prop} (hq : ∀ (x : St) (lx : Nat → Int64) (a : Int32 × St), a = oCopy (nI 0) i (nI 1) j k σ → CI a.2 x → Q (some (.int a.1)) (cW G r x lx)) : J G "copy" RX11 cX11_copy 8 (some .int) 0 0 3 Q 0 0 0 [(0, .ref (r 0)), (1, .int (nI 0)), (2, .int i), (3, .int (nI 1)), (4, .int j), (5, .int k)] [] (cW G r s l) := by
  refine J_iload_n dX11_copy_0 rfl rfl ?_
  refine J_iconst (v := nI 4) dX11_copy_1 (by decide) ?_
  refine J_cSi [.int (nI 0), .int (nI 4)] ms_X11_48 (c_X11_isBelowN (cW G r s l) (nI 0) 4) rfl rfl (by decide) (Nat.le_of_ble_eq_true rfl) ⟨Nat.le_refl _, Nat.le_refl _⟩ dX11_copy_2 ?_
  refine J_if_eqB 16 dX11_copy_5 (by decide) (fun c => absurd c (by rw [(show rng (nI 0) 4 = true by decide)]; decide)) (fun _ => ?_)
  refine J_iload_n dX11_copy_8 rfl rfl ?_
  refine J_iconst (v := nI 4) dX11_copy_9 (by decide) ?_
  refine J_cSi [.int (nI 1), .int (nI 4)] ms_X11_48 (c_X11_isBelowN (cW G r s l) (nI 1) 4) rfl rfl (by decide) (Nat.le_of_ble_eq_true rfl) ⟨Nat.le_refl _, Nat.le_refl _⟩ dX11_copy_10 ?_
  refine J_if_neB 19 dX11_copy_13 (by decide) (fun _ => ?_) (fun c => absurd c (by rw [(show rng (nI 1) 4 = true by decide)]; decide))
  rcases hC.2.2.2.2.2.2.1.1 with ⟨u1_0, u2_0⟩ | ⟨u1_0, u2_0, u3_0, u4_0⟩
  · have hls_0 : decide (s 68 0 = -1) = true := decide_eq_true u1_0
    have hsp_0 : ¬ 0 ≤ σ 0 0 := by rw [u2_0]; decide
    rcases hC.2.2.2.2.2.2.1.2.1 with ⟨u1_1, u2_1⟩ | ⟨u1_1, u2_1, u3_1, u4_1⟩
    · have hls_1 : decide (s 68 1 = -1) = true := decide_eq_true u1_1
      have hsp_1 : ¬ 0 ≤ σ 0 1 := by rw [u2_1]; decide
      refine J_aload_n dX11_copy_19 rfl rfl ?_
      refine Cg_0_4 fr_X11_39_10 dX11_copy_20 ?_
      refine J_iload_n dX11_copy_23 rfl rfl ?_
      refine Cl_10 0 rfl (by omega) dX11_copy_24 ?_
      refine J_astore [(0, .ref (r 0)), (1, .int (nI 0)), (2, .int i), (3, .int (nI 1)), (4, .int j), (5, .int k), (6, .ref (r (11 + 0)))] dX11_copy_25 (by decide) rfl rfl rfl ?_
      refine J_aload_n dX11_copy_27 rfl rfl ?_
      refine Cg_0_4 fr_X11_39_10 dX11_copy_28 ?_
      refine J_iload_n dX11_copy_31 rfl rfl ?_
      refine Cl_10 1 rfl (by omega) dX11_copy_32 ?_
      refine J_astore [(0, .ref (r 0)), (1, .int (nI 0)), (2, .int i), (3, .int (nI 1)), (4, .int j), (5, .int k), (6, .ref (r (11 + 0))), (7, .ref (r (11 + 1)))] dX11_copy_33 (by decide) rfl rfl rfl ?_
      refine J_aload dX11_copy_35 rfl ?_
      refine J_cVi (x := yX12_in) [] (11 + 0) mv_X11_227 (c_X8_isLost r s l 0 (by omega)) (cW_sh (by omega)) rfl rfl (by decide) (Nat.le_of_ble_eq_true rfl) ⟨Nat.le_refl _, Nat.le_refl _⟩ dX11_copy_37 ?_
      refine J_if_neB 51 dX11_copy_40 (by decide) (fun _ => ?_) (fun c => absurd c (by rw [hls_0]; decide))
      refine J_aload_n dX11_copy_51 rfl rfl ?_
      refine J_iconst (v := nI 1) dX11_copy_52 (by decide) ?_
      refine J_cVi (x := yX12_in) [.int (nI 1)] 0 mv_X11_230 (c_X11_found r s l 1) cW_0 rfl rfl (by decide) (Nat.le_of_ble_eq_true rfl) ⟨Nat.le_refl _, Nat.le_refl _⟩ dX11_copy_53 ?_
      show J G "copy" RX11 cX11_copy 8 (some .int) 0 0 3 Q 0 0 56 [(0, .ref (r 0)), (1, .int (nI 0)), (2, .int i), (3, .int (nI 1)), (4, .int j), (5, .int k), (6, .ref (r (11 + 0))), (7, .ref (r (11 + 1)))] [.int ((-10) - nI 1)] (cW G r (su 50 s (fun _ => nI 1)) l)
      exact J_iret dX11_copy_56 rfl rfl rfl (hq (su 50 s (fun _ => nI 1)) l ((-10) - nI 1, (su 4 σ (fun _ => nI 1))) (by simp [oCopy, fnd, hsp_0, hsp_1, rng_of (show 0 < 4 by decide) (by decide), nI_clamp (show 0 < 2 ^ 31 by decide), rng_of (show 1 < 4 by decide) (by decide), nI_clamp (show 1 < 2 ^ 31 by decide)]) (ci_fnd hC))
    · obtain ⟨z_1, hz60_1, ez_1⟩ := (hL.sh (j := 1) (by decide)).2
      have hz_1 : s 68 1 = nI z_1 := u3_1.trans ez_1
      have hls_1 : decide (s 68 1 = -1) = false := decide_eq_false (by rw [hz_1]; exact fun q => m1_ne (by omega) q.symm)
      obtain ⟨fo_1, hfo_1, efo_1⟩ := (hL.sh (j := 1) (by decide)).1.resolve_left u2_1
      have hsp_1 : 0 ≤ σ 0 1 := by rw [efo_1]; exact nI_nn (by omega)
      have hit_1 : ∀ i, i < z_1 → s 71 i = σ 2 (60 * 1 + i) := u4_1 z_1 ez_1.symm hz60_1
      have ezc_1 : (σ 1 1).toNatClampNeg = z_1 := by rw [ez_1]; exact nI_clamp (by omega)
      refine J_aload_n dX11_copy_19 rfl rfl ?_
      refine Cg_0_4 fr_X11_39_10 dX11_copy_20 ?_
      refine J_iload_n dX11_copy_23 rfl rfl ?_
      refine Cl_10 0 rfl (by omega) dX11_copy_24 ?_
      refine J_astore [(0, .ref (r 0)), (1, .int (nI 0)), (2, .int i), (3, .int (nI 1)), (4, .int j), (5, .int k), (6, .ref (r (11 + 0)))] dX11_copy_25 (by decide) rfl rfl rfl ?_
      refine J_aload_n dX11_copy_27 rfl rfl ?_
      refine Cg_0_4 fr_X11_39_10 dX11_copy_28 ?_
      refine J_iload_n dX11_copy_31 rfl rfl ?_
      refine Cl_10 1 rfl (by omega) dX11_copy_32 ?_
      refine J_astore [(0, .ref (r 0)), (1, .int (nI 0)), (2, .int i), (3, .int (nI 1)), (4, .int j), (5, .int k), (6, .ref (r (11 + 0))), (7, .ref (r (11 + 1)))] dX11_copy_33 (by decide) rfl rfl rfl ?_
      refine J_aload dX11_copy_35 rfl ?_
      refine J_cVi (x := yX12_in) [] (11 + 0) mv_X11_227 (c_X8_isLost r s l 0 (by omega)) (cW_sh (by omega)) rfl rfl (by decide) (Nat.le_of_ble_eq_true rfl) ⟨Nat.le_refl _, Nat.le_refl _⟩ dX11_copy_37 ?_
      refine J_if_neB 51 dX11_copy_40 (by decide) (fun _ => ?_) (fun c => absurd c (by rw [hls_0]; decide))
      refine J_aload_n dX11_copy_51 rfl rfl ?_
      refine J_iconst (v := nI 1) dX11_copy_52 (by decide) ?_
      refine J_cVi (x := yX12_in) [.int (nI 1)] 0 mv_X11_230 (c_X11_found r s l 1) cW_0 rfl rfl (by decide) (Nat.le_of_ble_eq_true rfl) ⟨Nat.le_refl _, Nat.le_refl _⟩ dX11_copy_53 ?_
      show J G "copy" RX11 cX11_copy 8 (some .int) 0 0 3 Q 0 0 56 [(0, .ref (r 0)), (1, .int (nI 0)), (2, .int i), (3, .int (nI 1)), (4, .int j), (5, .int k), (6, .ref (r (11 + 0))), (7, .ref (r (11 + 1)))] [.int ((-10) - nI 1)] (cW G r (su 50 s (fun _ => nI 1)) l)
      exact J_iret dX11_copy_56 rfl rfl rfl (hq (su 50 s (fun _ => nI 1)) l ((-10) - nI 1, (su 4 σ (fun _ => nI 1))) (by simp [oCopy, fnd, hsp_0, hsp_1, rng_of (show 0 < 4 by decide) (by decide), nI_clamp (show 0 < 2 ^ 31 by decide), rng_of (show 1 < 4 by decide) (by decide), nI_clamp (show 1 < 2 ^ 31 by decide)]) (ci_fnd hC))
  · obtain ⟨z_0, hz60_0, ez_0⟩ := (hL.sh (j := 0) (by decide)).2
    have hz_0 : s 68 0 = nI z_0 := u3_0.trans ez_0
    have hls_0 : decide (s 68 0 = -1) = false := decide_eq_false (by rw [hz_0]; exact fun q => m1_ne (by omega) q.symm)
    obtain ⟨fo_0, hfo_0, efo_0⟩ := (hL.sh (j := 0) (by decide)).1.resolve_left u2_0
    have hsp_0 : 0 ≤ σ 0 0 := by rw [efo_0]; exact nI_nn (by omega)
    have hit_0 : ∀ i, i < z_0 → s 70 i = σ 2 (60 * 0 + i) := u4_0 z_0 ez_0.symm hz60_0
    have ezc_0 : (σ 1 0).toNatClampNeg = z_0 := by rw [ez_0]; exact nI_clamp (by omega)
    rcases hC.2.2.2.2.2.2.1.2.1 with ⟨u1_1, u2_1⟩ | ⟨u1_1, u2_1, u3_1, u4_1⟩
    · have hls_1 : decide (s 68 1 = -1) = true := decide_eq_true u1_1
      have hsp_1 : ¬ 0 ≤ σ 0 1 := by rw [u2_1]; decide
      refine J_aload_n dX11_copy_19 rfl rfl ?_
      refine Cg_0_4 fr_X11_39_10 dX11_copy_20 ?_
      refine J_iload_n dX11_copy_23 rfl rfl ?_
      refine Cl_10 0 rfl (by omega) dX11_copy_24 ?_
      refine J_astore [(0, .ref (r 0)), (1, .int (nI 0)), (2, .int i), (3, .int (nI 1)), (4, .int j), (5, .int k), (6, .ref (r (11 + 0)))] dX11_copy_25 (by decide) rfl rfl rfl ?_
      refine J_aload_n dX11_copy_27 rfl rfl ?_
      refine Cg_0_4 fr_X11_39_10 dX11_copy_28 ?_
      refine J_iload_n dX11_copy_31 rfl rfl ?_
      refine Cl_10 1 rfl (by omega) dX11_copy_32 ?_
      refine J_astore [(0, .ref (r 0)), (1, .int (nI 0)), (2, .int i), (3, .int (nI 1)), (4, .int j), (5, .int k), (6, .ref (r (11 + 0))), (7, .ref (r (11 + 1)))] dX11_copy_33 (by decide) rfl rfl rfl ?_
      refine J_aload dX11_copy_35 rfl ?_
      refine J_cVi (x := yX12_in) [] (11 + 0) mv_X11_227 (c_X8_isLost r s l 0 (by omega)) (cW_sh (by omega)) rfl rfl (by decide) (Nat.le_of_ble_eq_true rfl) ⟨Nat.le_refl _, Nat.le_refl _⟩ dX11_copy_37 ?_
      refine J_if_neB 51 dX11_copy_40 (by decide) (fun c => absurd c (by rw [hls_0]; decide)) (fun _ => ?_)
      refine J_aload dX11_copy_43 rfl ?_
      refine J_cVi (x := yX12_in) [] (11 + 1) mv_X11_227 (c_X8_isLost r s l 1 (by omega)) (cW_sh (by omega)) rfl rfl (by decide) (Nat.le_of_ble_eq_true rfl) ⟨Nat.le_refl _, Nat.le_refl _⟩ dX11_copy_45 ?_
      refine J_if_eqB 57 dX11_copy_48 (by decide) (fun c => absurd c (by rw [hls_1]; decide)) (fun _ => ?_)
      refine J_aload_n dX11_copy_51 rfl rfl ?_
      refine J_iconst (v := nI 1) dX11_copy_52 (by decide) ?_
      refine J_cVi (x := yX12_in) [.int (nI 1)] 0 mv_X11_230 (c_X11_found r s l 1) cW_0 rfl rfl (by decide) (Nat.le_of_ble_eq_true rfl) ⟨Nat.le_refl _, Nat.le_refl _⟩ dX11_copy_53 ?_
      show J G "copy" RX11 cX11_copy 8 (some .int) 0 0 3 Q 0 0 56 [(0, .ref (r 0)), (1, .int (nI 0)), (2, .int i), (3, .int (nI 1)), (4, .int j), (5, .int k), (6, .ref (r (11 + 0))), (7, .ref (r (11 + 1)))] [.int ((-10) - nI 1)] (cW G r (su 50 s (fun _ => nI 1)) l)
      exact J_iret dX11_copy_56 rfl rfl rfl (hq (su 50 s (fun _ => nI 1)) l ((-10) - nI 1, (su 4 σ (fun _ => nI 1))) (by simp [oCopy, fnd, hsp_0, hsp_1, rng_of (show 0 < 4 by decide) (by decide), nI_clamp (show 0 < 2 ^ 31 by decide), rng_of (show 1 < 4 by decide) (by decide), nI_clamp (show 1 < 2 ^ 31 by decide)]) (ci_fnd hC))
    · obtain ⟨z_1, hz60_1, ez_1⟩ := (hL.sh (j := 1) (by decide)).2
      have hz_1 : s 68 1 = nI z_1 := u3_1.trans ez_1
      have hls_1 : decide (s 68 1 = -1) = false := decide_eq_false (by rw [hz_1]; exact fun q => m1_ne (by omega) q.symm)
      obtain ⟨fo_1, hfo_1, efo_1⟩ := (hL.sh (j := 1) (by decide)).1.resolve_left u2_1
      have hsp_1 : 0 ≤ σ 0 1 := by rw [efo_1]; exact nI_nn (by omega)
      have hit_1 : ∀ i, i < z_1 → s 71 i = σ 2 (60 * 1 + i) := u4_1 z_1 ez_1.symm hz60_1
      have ezc_1 : (σ 1 1).toNatClampNeg = z_1 := by rw [ez_1]; exact nI_clamp (by omega)
      refine J_aload_n dX11_copy_19 rfl rfl ?_
      refine Cg_0_4 fr_X11_39_10 dX11_copy_20 ?_
      refine J_iload_n dX11_copy_23 rfl rfl ?_
      refine Cl_10 0 rfl (by omega) dX11_copy_24 ?_
      refine J_astore [(0, .ref (r 0)), (1, .int (nI 0)), (2, .int i), (3, .int (nI 1)), (4, .int j), (5, .int k), (6, .ref (r (11 + 0)))] dX11_copy_25 (by decide) rfl rfl rfl ?_
      refine J_aload_n dX11_copy_27 rfl rfl ?_
      refine Cg_0_4 fr_X11_39_10 dX11_copy_28 ?_
      refine J_iload_n dX11_copy_31 rfl rfl ?_
      refine Cl_10 1 rfl (by omega) dX11_copy_32 ?_
      refine J_astore [(0, .ref (r 0)), (1, .int (nI 0)), (2, .int i), (3, .int (nI 1)), (4, .int j), (5, .int k), (6, .ref (r (11 + 0))), (7, .ref (r (11 + 1)))] dX11_copy_33 (by decide) rfl rfl rfl ?_
      refine J_aload dX11_copy_35 rfl ?_
      refine J_cVi (x := yX12_in) [] (11 + 0) mv_X11_227 (c_X8_isLost r s l 0 (by omega)) (cW_sh (by omega)) rfl rfl (by decide) (Nat.le_of_ble_eq_true rfl) ⟨Nat.le_refl _, Nat.le_refl _⟩ dX11_copy_37 ?_
      refine J_if_neB 51 dX11_copy_40 (by decide) (fun c => absurd c (by rw [hls_0]; decide)) (fun _ => ?_)
      refine J_aload dX11_copy_43 rfl ?_
      refine J_cVi (x := yX12_in) [] (11 + 1) mv_X11_227 (c_X8_isLost r s l 1 (by omega)) (cW_sh (by omega)) rfl rfl (by decide) (Nat.le_of_ble_eq_true rfl) ⟨Nat.le_refl _, Nat.le_refl _⟩ dX11_copy_45 ?_
      refine J_if_eqB 57 dX11_copy_48 (by decide) (fun _ => ?_) (fun c => absurd c (by rw [hls_1]; decide))
      refine J_aload dX11_copy_57 rfl ?_
      refine Cg_sh_1 (s := s) (by omega) fr_X11_279_7 (s 67 0) rfl dX11_copy_59 ?_
      refine J_rw (y := σ 0 0) u1_0.symm ?_
      refine J_aload dX11_copy_62 rfl ?_
      refine Cg_sh_1 (s := s) (by omega) fr_X11_279_7 (s 67 1) rfl dX11_copy_64 ?_
      refine J_rw (y := σ 0 1) u1_1.symm ?_
      refine J_icmp_eq 76 dX11_copy_67 (by decide) (fun kcz1 => ?_) (fun kcz1 => ?_)
      · refine J_aload dX11_copy_76 rfl ?_
        refine J_iload_n dX11_copy_78 rfl rfl ?_
        refine J_iload dX11_copy_79 rfl ?_
        refine J_cVi (x := yX12_in) [.int i, .int k] (11 + 0) mv_X11_282 (c_X8_hasItems r s l 0 (by decide) z_0 hz_0 hz60_0 i k) (cW_sh (by omega)) rfl rfl (by decide) (Nat.le_of_ble_eq_true rfl) ⟨Nat.le_refl _, Nat.le_refl _⟩ dX11_copy_81 ?_
        refine J_if_eqB 99 dX11_copy_84 (by decide) (fun kcz2 => ?_) (fun kcz2 => ?_)
        · have hok : cpOk (nI 0) i (nI 1) j k σ = false := hi_no ez_0 ez_1 hz60_0 hz60_1 (Or.inl kcz2)
          refine J_aload_n dX11_copy_99 rfl rfl ?_
          refine J_iconst (v := nI 2) dX11_copy_100 (by decide) ?_
          refine J_cVi (x := yX12_in) [.int (nI 2)] 0 mv_X11_230 (c_X11_found r s l 2) cW_0 rfl rfl (by decide) (Nat.le_of_ble_eq_true rfl) ⟨Nat.le_refl _, Nat.le_refl _⟩ dX11_copy_101 ?_
          show J G "copy" RX11 cX11_copy 8 (some .int) 0 0 3 Q 0 0 104 [(0, .ref (r 0)), (1, .int (nI 0)), (2, .int i), (3, .int (nI 1)), (4, .int j), (5, .int k), (6, .ref (r (11 + 0))), (7, .ref (r (11 + 1)))] [.int ((-10) - nI 2)] (cW G r (su 50 s (fun _ => nI 2)) l)
          exact J_iret dX11_copy_104 rfl rfl rfl (hq (su 50 s (fun _ => nI 2)) l ((-10) - nI 2, (su 4 σ (fun _ => nI 2))) (by simp [oCopy, fnd, hsp_0, hsp_1, kcz1, kcz2, hok, rng_of (show 0 < 4 by decide) (by decide), nI_clamp (show 0 < 2 ^ 31 by decide), rng_of (show 1 < 4 by decide) (by decide), nI_clamp (show 1 < 2 ^ 31 by decide)]) (ci_fnd hC))
        · refine J_aload dX11_copy_87 rfl ?_
          refine J_iload dX11_copy_89 rfl ?_
          refine J_iload dX11_copy_91 rfl ?_
          refine J_cVi (x := yX12_in) [.int j, .int k] (11 + 1) mv_X11_282 (c_X8_hasItems r s l 1 (by decide) z_1 hz_1 hz60_1 j k) (cW_sh (by omega)) rfl rfl (by decide) (Nat.le_of_ble_eq_true rfl) ⟨Nat.le_refl _, Nat.le_refl _⟩ dX11_copy_93 ?_
          refine J_if_neB 105 dX11_copy_96 (by decide) (fun kcz3 => ?_) (fun kcz3 => ?_)
          · obtain ⟨Ii, Jj, Nn, rfl, rfl, rfl, hc1, hc2⟩ := hi_in kcz2 kcz3 hz60_0 hz60_1
            have eIi : (nI Ii).toNatClampNeg = Ii := nI_clamp (by omega)
            have eJj : (nI Jj).toNatClampNeg = Jj := nI_clamp (by omega)
            have eNn : (nI Nn).toNatClampNeg = Nn := nI_clamp (by omega)
            have hok : cpOk (nI 0) (nI Ii) (nI 1) (nI Jj) (nI Nn) σ = true := hi_cp ez_0 ez_1 hc1 hc2 hz60_0 hz60_1
            refine J_aload dX11_copy_105 rfl ?_
            refine Cg_sh_0 (by omega) fr_X11_285_7 dX11_copy_107 ?_
            refine J_iload_n dX11_copy_110 rfl rfl ?_
            refine J_aload dX11_copy_111 rfl ?_
            refine Cg_sh_0 (by omega) fr_X11_285_7 dX11_copy_113 ?_
            refine J_iload dX11_copy_116 rfl ?_
            refine J_iload dX11_copy_118 rfl ?_
            refine J_copyi (N0 := 60) (N1 := 60) ac_link ac_nat ac_stat ac_init (15 + 0) (15 + 1) (cW G r (su 71 s (va_cpy (s 70) (s 71) Ii Jj Nn)) l) (cW_si (by decide)) (cW_si (by decide)) (cI_nlt (by omega)) (cI_nlt (by omega)) (cI_nlt (by omega)) (by rw [nI_clamp (by omega), nI_clamp (by omega)]; omega) (by rw [nI_clamp (by omega), nI_clamp (by omega)]; omega) (by omega) (by decide) (by rw [nI_clamp (by omega), nI_clamp (by omega), nI_clamp (by omega)]; exact cW_set3 (by decide)) dX11_copy_120 ?_
            show J G "copy" RX11 cX11_copy 8 (some .int) 0 0 3 Q 0 0 123 [(0, .ref (r 0)), (1, .int (nI 0)), (2, .int (nI Ii)), (3, .int (nI 1)), (4, .int (nI Jj)), (5, .int (nI Nn)), (6, .ref (r (11 + 0))), (7, .ref (r (11 + 1)))] [] (cW G r (su 71 s (va_cpy (s 70) (s 71) Ii Jj Nn)) l)
            refine J_iconst (v := nI 1) dX11_copy_123 (by decide) ?_
            exact J_iret dX11_copy_124 rfl rfl rfl (hq (su 71 s (va_cpy (s 70) (s 71) Ii Jj Nn)) l (nI 1, (su 2 σ (fb_put (σ 2) (fun k => σ 2 (60 * 0 + Ii + k)) (60 * 1 + Jj) Nn))) (by simp [oCopy, fnd, hsp_0, hsp_1, kcz1, eIi, eJj, eNn, hok, rng_of (show 0 < 4 by decide) (by decide), nI_clamp (show 0 < 2 ^ 31 by decide), rng_of (show 1 < 4 by decide) (by decide), nI_clamp (show 1 < 2 ^ 31 by decide)]) (ci_copy01 hC ez_0 ez_1 hz60_0 hz60_1 u2_0 u2_1 hc1 hc2))
          · have hok : cpOk (nI 0) i (nI 1) j k σ = false := hi_no ez_0 ez_1 hz60_0 hz60_1 (Or.inr kcz3)
            refine J_aload_n dX11_copy_99 rfl rfl ?_
            refine J_iconst (v := nI 2) dX11_copy_100 (by decide) ?_
            refine J_cVi (x := yX12_in) [.int (nI 2)] 0 mv_X11_230 (c_X11_found r s l 2) cW_0 rfl rfl (by decide) (Nat.le_of_ble_eq_true rfl) ⟨Nat.le_refl _, Nat.le_refl _⟩ dX11_copy_101 ?_
            show J G "copy" RX11 cX11_copy 8 (some .int) 0 0 3 Q 0 0 104 [(0, .ref (r 0)), (1, .int (nI 0)), (2, .int i), (3, .int (nI 1)), (4, .int j), (5, .int k), (6, .ref (r (11 + 0))), (7, .ref (r (11 + 1)))] [.int ((-10) - nI 2)] (cW G r (su 50 s (fun _ => nI 2)) l)
            exact J_iret dX11_copy_104 rfl rfl rfl (hq (su 50 s (fun _ => nI 2)) l ((-10) - nI 2, (su 4 σ (fun _ => nI 2))) (by simp [oCopy, fnd, hsp_0, hsp_1, kcz1, kcz2, kcz3, hok, rng_of (show 0 < 4 by decide) (by decide), nI_clamp (show 0 < 2 ^ 31 by decide), rng_of (show 1 < 4 by decide) (by decide), nI_clamp (show 1 < 2 ^ 31 by decide)]) (ci_fnd hC))
      · refine J_aload_n dX11_copy_70 rfl rfl ?_
        refine J_iconst (v := nI 4) dX11_copy_71 (by decide) ?_
        refine J_cVi (x := yX12_in) [.int (nI 4)] 0 mv_X11_230 (c_X11_found r s l 4) cW_0 rfl rfl (by decide) (Nat.le_of_ble_eq_true rfl) ⟨Nat.le_refl _, Nat.le_refl _⟩ dX11_copy_72 ?_
        show J G "copy" RX11 cX11_copy 8 (some .int) 0 0 3 Q 0 0 75 [(0, .ref (r 0)), (1, .int (nI 0)), (2, .int i), (3, .int (nI 1)), (4, .int j), (5, .int k), (6, .ref (r (11 + 0))), (7, .ref (r (11 + 1)))] [.int ((-10) - nI 4)] (cW G r (su 50 s (fun _ => nI 4)) l)
        exact J_iret dX11_copy_75 rfl rfl rfl (hq (su 50 s (fun _ => nI 4)) l ((-10) - nI 4, (su 4 σ (fun _ => nI 4))) (by simp [oCopy, fnd, hsp_0, hsp_1, kcz1, rng_of (show 0 < 4 by decide) (by decide), nI_clamp (show 0 < 2 ^ 31 by decide), rng_of (show 1 < 4 by decide) (by decide), nI_clamp (show 1 < 2 ^ 31 by decide)]) (ci_fnd hC))
theorem c_X11_copy01 {G : GT} (r : Nat → Nat) (s : St) (l : Nat → Int64) (σ : St) (hL : LI σ) (hC : CI σ s) (i j k : Int32) : Ct G yX11_copy cX11_copy 8 (some .int) 0 0 3 [.ref (r 0), .int (nI 0), .int i, .int (nI 1), .int j, .int k] (cW G r s l) (QC G r (oCopy (nI 0) i (nI 1) j k σ)) := Ct.of rfl (Nat.le_of_ble_eq_true rfl) (j_X11_copy01 r s l σ hL hC i j k (fun x lx a h1 h2 => ⟨x, lx, by rw [h1], rfl, by rw [← h1]; exact h2⟩))
set_option maxRecDepth 100000 in
set_option maxHeartbeats 1000000 in
theorem j_X11_copy02 {G : GT} (r : Nat → Nat) (s : St) (l : Nat → Int64) (σ : St) (hL : LI σ) (hC : CI σ s) (i j k : Int32) {Q : Option Value → va_W → Prop} (hq : ∀ (x : St) (lx : Nat → Int64) (a : Int32 × St), a = oCopy (nI 0) i (nI 2) j k σ → CI a.2 x → Q (some (.int a.1)) (cW G r x lx)) : J G "copy" RX11 cX11_copy 8 (some .int) 0 0 3 Q 0 0 0 [(0, .ref (r 0)), (1, .int (nI 0)), (2, .int i), (3, .int (nI 2)), (4, .int j), (5, .int k)] [] (cW G r s l) := by
  refine J_iload_n dX11_copy_0 rfl rfl ?_
  refine J_iconst (v := nI 4) dX11_copy_1 (by decide) ?_
  refine J_cSi [.int (nI 0), .int (nI 4)] ms_X11_48 (c_X11_isBelowN (cW G r s l) (nI 0) 4) rfl rfl (by decide) (Nat.le_of_ble_eq_true rfl) ⟨Nat.le_refl _, Nat.le_refl _⟩ dX11_copy_2 ?_
  refine J_if_eqB 16 dX11_copy_5 (by decide) (fun c => absurd c (by rw [(show rng (nI 0) 4 = true by decide)]; decide)) (fun _ => ?_)
  refine J_iload_n dX11_copy_8 rfl rfl ?_
  refine J_iconst (v := nI 4) dX11_copy_9 (by decide) ?_
  refine J_cSi [.int (nI 2), .int (nI 4)] ms_X11_48 (c_X11_isBelowN (cW G r s l) (nI 2) 4) rfl rfl (by decide) (Nat.le_of_ble_eq_true rfl) ⟨Nat.le_refl _, Nat.le_refl _⟩ dX11_copy_10 ?_
  refine J_if_neB 19 dX11_copy_13 (by decide) (fun _ => ?_) (fun c => absurd c (by rw [(show rng (nI 2) 4 = true by decide)]; decide))
  rcases hC.2.2.2.2.2.2.1.1 with ⟨u1_0, u2_0⟩ | ⟨u1_0, u2_0, u3_0, u4_0⟩
  · have hls_0 : decide (s 68 0 = -1) = true := decide_eq_true u1_0
    have hsp_0 : ¬ 0 ≤ σ 0 0 := by rw [u2_0]; decide
    rcases hC.2.2.2.2.2.2.1.2.2.1 with ⟨u1_2, u2_2⟩ | ⟨u1_2, u2_2, u3_2, u4_2⟩
    · have hls_2 : decide (s 68 2 = -1) = true := decide_eq_true u1_2
      have hsp_2 : ¬ 0 ≤ σ 0 2 := by rw [u2_2]; decide
      refine J_aload_n dX11_copy_19 rfl rfl ?_
      refine Cg_0_4 fr_X11_39_10 dX11_copy_20 ?_
      refine J_iload_n dX11_copy_23 rfl rfl ?_
      refine Cl_10 0 rfl (by omega) dX11_copy_24 ?_
      refine J_astore [(0, .ref (r 0)), (1, .int (nI 0)), (2, .int i), (3, .int (nI 2)), (4, .int j), (5, .int k), (6, .ref (r (11 + 0)))] dX11_copy_25 (by decide) rfl rfl rfl ?_
      refine J_aload_n dX11_copy_27 rfl rfl ?_
      refine Cg_0_4 fr_X11_39_10 dX11_copy_28 ?_
      refine J_iload_n dX11_copy_31 rfl rfl ?_
      refine Cl_10 2 rfl (by omega) dX11_copy_32 ?_
      refine J_astore [(0, .ref (r 0)), (1, .int (nI 0)), (2, .int i), (3, .int (nI 2)), (4, .int j), (5, .int k), (6, .ref (r (11 + 0))), (7, .ref (r (11 + 2)))] dX11_copy_33 (by decide) rfl rfl rfl ?_
      refine J_aload dX11_copy_35 rfl ?_
      refine J_cVi (x := yX12_in) [] (11 + 0) mv_X11_227 (c_X8_isLost r s l 0 (by omega)) (cW_sh (by omega)) rfl rfl (by decide) (Nat.le_of_ble_eq_true rfl) ⟨Nat.le_refl _, Nat.le_refl _⟩ dX11_copy_37 ?_
      refine J_if_neB 51 dX11_copy_40 (by decide) (fun _ => ?_) (fun c => absurd c (by rw [hls_0]; decide))
      refine J_aload_n dX11_copy_51 rfl rfl ?_
      refine J_iconst (v := nI 1) dX11_copy_52 (by decide) ?_
      refine J_cVi (x := yX12_in) [.int (nI 1)] 0 mv_X11_230 (c_X11_found r s l 1) cW_0 rfl rfl (by decide) (Nat.le_of_ble_eq_true rfl) ⟨Nat.le_refl _, Nat.le_refl _⟩ dX11_copy_53 ?_
      show J G "copy" RX11 cX11_copy 8 (some .int) 0 0 3 Q 0 0 56 [(0, .ref (r 0)), (1, .int (nI 0)), (2, .int i), (3, .int (nI 2)), (4, .int j), (5, .int k), (6, .ref (r (11 + 0))), (7, .ref (r (11 + 2)))] [.int ((-10) - nI 1)] (cW G r (su 50 s (fun _ => nI 1)) l)
      exact J_iret dX11_copy_56 rfl rfl rfl (hq (su 50 s (fun _ => nI 1)) l ((-10) - nI 1, (su 4 σ (fun _ => nI 1))) (by simp [oCopy, fnd, hsp_0, hsp_2, rng_of (show 0 < 4 by decide) (by decide), nI_clamp (show 0 < 2 ^ 31 by decide), rng_of (show 2 < 4 by decide) (by decide), nI_clamp (show 2 < 2 ^ 31 by decide)]) (ci_fnd hC))
    · obtain ⟨z_2, hz60_2, ez_2⟩ := (hL.sh (j := 2) (by decide)).2
      have hz_2 : s 68 2 = nI z_2 := u3_2.trans ez_2
      have hls_2 : decide (s 68 2 = -1) = false := decide_eq_false (by rw [hz_2]; exact fun q => m1_ne (by omega) q.symm)
      obtain ⟨fo_2, hfo_2, efo_2⟩ := (hL.sh (j := 2) (by decide)).1.resolve_left u2_2
      have hsp_2 : 0 ≤ σ 0 2 := by rw [efo_2]; exact nI_nn (by omega)
      have hit_2 : ∀ i, i < z_2 → s 72 i = σ 2 (60 * 2 + i) := u4_2 z_2 ez_2.symm hz60_2
      have ezc_2 : (σ 1 2).toNatClampNeg = z_2 := by rw [ez_2]; exact nI_clamp (by omega)
      refine J_aload_n dX11_copy_19 rfl rfl ?_
      refine Cg_0_4 fr_X11_39_10 dX11_copy_20 ?_
      refine J_iload_n dX11_copy_23 rfl rfl ?_
      refine Cl_10 0 rfl (by omega) dX11_copy_24 ?_
      refine J_astore [(0, .ref (r 0)), (1, .int (nI 0)), (2, .int i), (3, .int (nI 2)), (4, .int j), (5, .int k), (6, .ref (r (11 + 0)))] dX11_copy_25 (by decide) rfl rfl rfl ?_
      refine J_aload_n dX11_copy_27 rfl rfl ?_
      refine Cg_0_4 fr_X11_39_10 dX11_copy_28 ?_
      refine J_iload_n dX11_copy_31 rfl rfl ?_
      refine Cl_10 2 rfl (by omega) dX11_copy_32 ?_
      refine J_astore [(0, .ref (r 0)), (1, .int (nI 0)), (2, .int i), (3, .int (nI 2)), (4, .int j), (5, .int k), (6, .ref (r (11 + 0))), (7, .ref (r (11 + 2)))] dX11_copy_33 (by decide) rfl rfl rfl ?_
      refine J_aload dX11_copy_35 rfl ?_
      refine J_cVi (x := yX12_in) [] (11 + 0) mv_X11_227 (c_X8_isLost r s l 0 (by omega)) (cW_sh (by omega)) rfl rfl (by decide) (Nat.le_of_ble_eq_true rfl) ⟨Nat.le_refl _, Nat.le_refl _⟩ dX11_copy_37 ?_
      refine J_if_neB 51 dX11_copy_40 (by decide) (fun _ => ?_) (fun c => absurd c (by rw [hls_0]; decide))
      refine J_aload_n dX11_copy_51 rfl rfl ?_
      refine J_iconst (v := nI 1) dX11_copy_52 (by decide) ?_
      refine J_cVi (x := yX12_in) [.int (nI 1)] 0 mv_X11_230 (c_X11_found r s l 1) cW_0 rfl rfl (by decide) (Nat.le_of_ble_eq_true rfl) ⟨Nat.le_refl _, Nat.le_refl _⟩ dX11_copy_53 ?_
      show J G "copy" RX11 cX11_copy 8 (some .int) 0 0 3 Q 0 0 56 [(0, .ref (r 0)), (1, .int (nI 0)), (2, .int i), (3, .int (nI 2)), (4, .int j), (5, .int k), (6, .ref (r (11 + 0))), (7, .ref (r (11 + 2)))] [.int ((-10) - nI 1)] (cW G r (su 50 s (fun _ => nI 1)) l)
      exact J_iret dX11_copy_56 rfl rfl rfl (hq (su 50 s (fun _ => nI 1)) l ((-10) - nI 1, (su 4 σ (fun _ => nI 1))) (by simp [oCopy, fnd, hsp_0, hsp_2, rng_of (show 0 < 4 by decide) (by decide), nI_clamp (show 0 < 2 ^ 31 by decide), rng_of (show 2 < 4 by decide) (by decide), nI_clamp (show 2 < 2 ^ 31 by decide)]) (ci_fnd hC))
  · obtain ⟨z_0, hz60_0, ez_0⟩ := (hL.sh (j := 0) (by decide)).2
    have hz_0 : s 68 0 = nI z_0 := u3_0.trans ez_0
    have hls_0 : decide (s 68 0 = -1) = false := decide_eq_false (by rw [hz_0]; exact fun q => m1_ne (by omega) q.symm)
    obtain ⟨fo_0, hfo_0, efo_0⟩ := (hL.sh (j := 0) (by decide)).1.resolve_left u2_0
    have hsp_0 : 0 ≤ σ 0 0 := by rw [efo_0]; exact nI_nn (by omega)
    have hit_0 : ∀ i, i < z_0 → s 70 i = σ 2 (60 * 0 + i) := u4_0 z_0 ez_0.symm hz60_0
    have ezc_0 : (σ 1 0).toNatClampNeg = z_0 := by rw [ez_0]; exact nI_clamp (by omega)
    rcases hC.2.2.2.2.2.2.1.2.2.1 with ⟨u1_2, u2_2⟩ | ⟨u1_2, u2_2, u3_2, u4_2⟩
    · have hls_2 : decide (s 68 2 = -1) = true := decide_eq_true u1_2
      have hsp_2 : ¬ 0 ≤ σ 0 2 := by rw [u2_2]; decide
      refine J_aload_n dX11_copy_19 rfl rfl ?_
      refine Cg_0_4 fr_X11_39_10 dX11_copy_20 ?_
      refine J_iload_n dX11_copy_23 rfl rfl ?_
      refine Cl_10 0 rfl (by omega) dX11_copy_24 ?_
      refine J_astore [(0, .ref (r 0)), (1, .int (nI 0)), (2, .int i), (3, .int (nI 2)), (4, .int j), (5, .int k), (6, .ref (r (11 + 0)))] dX11_copy_25 (by decide) rfl rfl rfl ?_
      refine J_aload_n dX11_copy_27 rfl rfl ?_
      refine Cg_0_4 fr_X11_39_10 dX11_copy_28 ?_
      refine J_iload_n dX11_copy_31 rfl rfl ?_
      refine Cl_10 2 rfl (by omega) dX11_copy_32 ?_
      refine J_astore [(0, .ref (r 0)), (1, .int (nI 0)), (2, .int i), (3, .int (nI 2)), (4, .int j), (5, .int k), (6, .ref (r (11 + 0))), (7, .ref (r (11 + 2)))] dX11_copy_33 (by decide) rfl rfl rfl ?_
      refine J_aload dX11_copy_35 rfl ?_
      refine J_cVi (x := yX12_in) [] (11 + 0) mv_X11_227 (c_X8_isLost r s l 0 (by omega)) (cW_sh (by omega)) rfl rfl (by decide) (Nat.le_of_ble_eq_true rfl) ⟨Nat.le_refl _, Nat.le_refl _⟩ dX11_copy_37 ?_
      refine J_if_neB 51 dX11_copy_40 (by decide) (fun c => absurd c (by rw [hls_0]; decide)) (fun _ => ?_)
      refine J_aload dX11_copy_43 rfl ?_
      refine J_cVi (x := yX12_in) [] (11 + 2) mv_X11_227 (c_X8_isLost r s l 2 (by omega)) (cW_sh (by omega)) rfl rfl (by decide) (Nat.le_of_ble_eq_true rfl) ⟨Nat.le_refl _, Nat.le_refl _⟩ dX11_copy_45 ?_
      refine J_if_eqB 57 dX11_copy_48 (by decide) (fun c => absurd c (by rw [hls_2]; decide)) (fun _ => ?_)
      refine J_aload_n dX11_copy_51 rfl rfl ?_
      refine J_iconst (v := nI 1) dX11_copy_52 (by decide) ?_
      refine J_cVi (x := yX12_in) [.int (nI 1)] 0 mv_X11_230 (c_X11_found r s l 1) cW_0 rfl rfl (by decide) (Nat.le_of_ble_eq_true rfl) ⟨Nat.le_refl _, Nat.le_refl _⟩ dX11_copy_53 ?_
      show J G "copy" RX11 cX11_copy 8 (some .int) 0 0 3 Q 0 0 56 [(0, .ref (r 0)), (1, .int (nI 0)), (2, .int i), (3, .int (nI 2)), (4, .int j), (5, .int k), (6, .ref (r (11 + 0))), (7, .ref (r (11 + 2)))] [.int ((-10) - nI 1)] (cW G r (su 50 s (fun _ => nI 1)) l)
      exact J_iret dX11_copy_56 rfl rfl rfl (hq (su 50 s (fun _ => nI 1)) l ((-10) - nI 1, (su 4 σ (fun _ => nI 1))) (by simp [oCopy, fnd, hsp_0, hsp_2, rng_of (show 0 < 4 by decide) (by decide), nI_clamp (show 0 < 2 ^ 31 by decide), rng_of (show 2 < 4 by decide) (by decide), nI_clamp (show 2 < 2 ^ 31 by decide)]) (ci_fnd hC))
    · obtain ⟨z_2, hz60_2, ez_2⟩ := (hL.sh (j := 2) (by decide)).2
      have hz_2 : s 68 2 = nI z_2 := u3_2.trans ez_2
      have hls_2 : decide (s 68 2 = -1) = false := decide_eq_false (by rw [hz_2]; exact fun q => m1_ne (by omega) q.symm)
      obtain ⟨fo_2, hfo_2, efo_2⟩ := (hL.sh (j := 2) (by decide)).1.resolve_left u2_2
      have hsp_2 : 0 ≤ σ 0 2 := by rw [efo_2]; exact nI_nn (by omega)
      have hit_2 : ∀ i, i < z_2 → s 72 i = σ 2 (60 * 2 + i) := u4_2 z_2 ez_2.symm hz60_2
      have ezc_2 : (σ 1 2).toNatClampNeg = z_2 := by rw [ez_2]; exact nI_clamp (by omega)
      refine J_aload_n dX11_copy_19 rfl rfl ?_
      refine Cg_0_4 fr_X11_39_10 dX11_copy_20 ?_
      refine J_iload_n dX11_copy_23 rfl rfl ?_
      refine Cl_10 0 rfl (by omega) dX11_copy_24 ?_
      refine J_astore [(0, .ref (r 0)), (1, .int (nI 0)), (2, .int i), (3, .int (nI 2)), (4, .int j), (5, .int k), (6, .ref (r (11 + 0)))] dX11_copy_25 (by decide) rfl rfl rfl ?_
      refine J_aload_n dX11_copy_27 rfl rfl ?_
      refine Cg_0_4 fr_X11_39_10 dX11_copy_28 ?_
      refine J_iload_n dX11_copy_31 rfl rfl ?_
      refine Cl_10 2 rfl (by omega) dX11_copy_32 ?_
      refine J_astore [(0, .ref (r 0)), (1, .int (nI 0)), (2, .int i), (3, .int (nI 2)), (4, .int j), (5, .int k), (6, .ref (r (11 + 0))), (7, .ref (r (11 + 2)))] dX11_copy_33 (by decide) rfl rfl rfl ?_
      refine J_aload dX11_copy_35 rfl ?_
      refine J_cVi (x := yX12_in) [] (11 + 0) mv_X11_227 (c_X8_isLost r s l 0 (by omega)) (cW_sh (by omega)) rfl rfl (by decide) (Nat.le_of_ble_eq_true rfl) ⟨Nat.le_refl _, Nat.le_refl _⟩ dX11_copy_37 ?_
      refine J_if_neB 51 dX11_copy_40 (by decide) (fun c => absurd c (by rw [hls_0]; decide)) (fun _ => ?_)
      refine J_aload dX11_copy_43 rfl ?_
      refine J_cVi (x := yX12_in) [] (11 + 2) mv_X11_227 (c_X8_isLost r s l 2 (by omega)) (cW_sh (by omega)) rfl rfl (by decide) (Nat.le_of_ble_eq_true rfl) ⟨Nat.le_refl _, Nat.le_refl _⟩ dX11_copy_45 ?_
      refine J_if_eqB 57 dX11_copy_48 (by decide) (fun _ => ?_) (fun c => absurd c (by rw [hls_2]; decide))
      refine J_aload dX11_copy_57 rfl ?_
      refine Cg_sh_1 (s := s) (by omega) fr_X11_279_7 (s 67 0) rfl dX11_copy_59 ?_
      refine J_rw (y := σ 0 0) u1_0.symm ?_
      refine J_aload dX11_copy_62 rfl ?_
      refine Cg_sh_1 (s := s) (by omega) fr_X11_279_7 (s 67 2) rfl dX11_copy_64 ?_
      refine J_rw (y := σ 0 2) u1_2.symm ?_
      refine J_icmp_eq 76 dX11_copy_67 (by decide) (fun kcz1 => ?_) (fun kcz1 => ?_)
      · refine J_aload dX11_copy_76 rfl ?_
        refine J_iload_n dX11_copy_78 rfl rfl ?_
        refine J_iload dX11_copy_79 rfl ?_
        refine J_cVi (x := yX12_in) [.int i, .int k] (11 + 0) mv_X11_282 (c_X8_hasItems r s l 0 (by decide) z_0 hz_0 hz60_0 i k) (cW_sh (by omega)) rfl rfl (by decide) (Nat.le_of_ble_eq_true rfl) ⟨Nat.le_refl _, Nat.le_refl _⟩ dX11_copy_81 ?_
        refine J_if_eqB 99 dX11_copy_84 (by decide) (fun kcz2 => ?_) (fun kcz2 => ?_)
        · have hok : cpOk (nI 0) i (nI 2) j k σ = false := hi_no ez_0 ez_2 hz60_0 hz60_2 (Or.inl kcz2)
          refine J_aload_n dX11_copy_99 rfl rfl ?_
          refine J_iconst (v := nI 2) dX11_copy_100 (by decide) ?_
          refine J_cVi (x := yX12_in) [.int (nI 2)] 0 mv_X11_230 (c_X11_found r s l 2) cW_0 rfl rfl (by decide) (Nat.le_of_ble_eq_true rfl) ⟨Nat.le_refl _, Nat.le_refl _⟩ dX11_copy_101 ?_
          show J G "copy" RX11 cX11_copy 8 (some .int) 0 0 3 Q 0 0 104 [(0, .ref (r 0)), (1, .int (nI 0)), (2, .int i), (3, .int (nI 2)), (4, .int j), (5, .int k), (6, .ref (r (11 + 0))), (7, .ref (r (11 + 2)))] [.int ((-10) - nI 2)] (cW G r (su 50 s (fun _ => nI 2)) l)
          exact J_iret dX11_copy_104 rfl rfl rfl (hq (su 50 s (fun _ => nI 2)) l ((-10) - nI 2, (su 4 σ (fun _ => nI 2))) (by simp [oCopy, fnd, hsp_0, hsp_2, kcz1, kcz2, hok, rng_of (show 0 < 4 by decide) (by decide), nI_clamp (show 0 < 2 ^ 31 by decide), rng_of (show 2 < 4 by decide) (by decide), nI_clamp (show 2 < 2 ^ 31 by decide)]) (ci_fnd hC))
        · refine J_aload dX11_copy_87 rfl ?_
          refine J_iload dX11_copy_89 rfl ?_
          refine J_iload dX11_copy_91 rfl ?_
          refine J_cVi (x := yX12_in) [.int j, .int k] (11 + 2) mv_X11_282 (c_X8_hasItems r s l 2 (by decide) z_2 hz_2 hz60_2 j k) (cW_sh (by omega)) rfl rfl (by decide) (Nat.le_of_ble_eq_true rfl) ⟨Nat.le_refl _, Nat.le_refl _⟩ dX11_copy_93 ?_
          refine J_if_neB 105 dX11_copy_96 (by decide) (fun kcz3 => ?_) (fun kcz3 => ?_)
          · obtain ⟨Ii, Jj, Nn, rfl, rfl, rfl, hc1, hc2⟩ := hi_in kcz2 kcz3 hz60_0 hz60_2
            have eIi : (nI Ii).toNatClampNeg = Ii := nI_clamp (by omega)
            have eJj : (nI Jj).toNatClampNeg = Jj := nI_clamp (by omega)
            have eNn : (nI Nn).toNatClampNeg = Nn := nI_clamp (by omega)
            have hok : cpOk (nI 0) (nI Ii) (nI 2) (nI Jj) (nI Nn) σ = true := hi_cp ez_0 ez_2 hc1 hc2 hz60_0 hz60_2
            refine J_aload dX11_copy_105 rfl ?_
            refine Cg_sh_0 (by omega) fr_X11_285_7 dX11_copy_107 ?_
            refine J_iload_n dX11_copy_110 rfl rfl ?_
            refine J_aload dX11_copy_111 rfl ?_
            refine Cg_sh_0 (by omega) fr_X11_285_7 dX11_copy_113 ?_
            refine J_iload dX11_copy_116 rfl ?_
            refine J_iload dX11_copy_118 rfl ?_
            refine J_copyi (N0 := 60) (N1 := 60) ac_link ac_nat ac_stat ac_init (15 + 0) (15 + 2) (cW G r (su 72 s (va_cpy (s 70) (s 72) Ii Jj Nn)) l) (cW_si (by decide)) (cW_si (by decide)) (cI_nlt (by omega)) (cI_nlt (by omega)) (cI_nlt (by omega)) (by rw [nI_clamp (by omega), nI_clamp (by omega)]; omega) (by rw [nI_clamp (by omega), nI_clamp (by omega)]; omega) (by omega) (by decide) (by rw [nI_clamp (by omega), nI_clamp (by omega), nI_clamp (by omega)]; exact cW_set3 (by decide)) dX11_copy_120 ?_
            show J G "copy" RX11 cX11_copy 8 (some .int) 0 0 3 Q 0 0 123 [(0, .ref (r 0)), (1, .int (nI 0)), (2, .int (nI Ii)), (3, .int (nI 2)), (4, .int (nI Jj)), (5, .int (nI Nn)), (6, .ref (r (11 + 0))), (7, .ref (r (11 + 2)))] [] (cW G r (su 72 s (va_cpy (s 70) (s 72) Ii Jj Nn)) l)
            refine J_iconst (v := nI 1) dX11_copy_123 (by decide) ?_
            exact J_iret dX11_copy_124 rfl rfl rfl (hq (su 72 s (va_cpy (s 70) (s 72) Ii Jj Nn)) l (nI 1, (su 2 σ (fb_put (σ 2) (fun k => σ 2 (60 * 0 + Ii + k)) (60 * 2 + Jj) Nn))) (by simp [oCopy, fnd, hsp_0, hsp_2, kcz1, eIi, eJj, eNn, hok, rng_of (show 0 < 4 by decide) (by decide), nI_clamp (show 0 < 2 ^ 31 by decide), rng_of (show 2 < 4 by decide) (by decide), nI_clamp (show 2 < 2 ^ 31 by decide)]) (ci_copy02 hC ez_0 ez_2 hz60_0 hz60_2 u2_0 u2_2 hc1 hc2))
          · have hok : cpOk (nI 0) i (nI 2) j k σ = false := hi_no ez_0 ez_2 hz60_0 hz60_2 (Or.inr kcz3)
            refine J_aload_n dX11_copy_99 rfl rfl ?_
            refine J_iconst (v := nI 2) dX11_copy_100 (by decide) ?_
            refine J_cVi (x := yX12_in) [.int (nI 2)] 0 mv_X11_230 (c_X11_found r s l 2) cW_0 rfl rfl (by decide) (Nat.le_of_ble_eq_true rfl) ⟨Nat.le_refl _, Nat.le_refl _⟩ dX11_copy_101 ?_
            show J G "copy" RX11 cX11_copy 8 (some .int) 0 0 3 Q 0 0 104 [(0, .ref (r 0)), (1, .int (nI 0)), (2, .int i), (3, .int (nI 2)), (4, .int j), (5, .int k), (6, .ref (r (11 + 0))), (7, .ref (r (11 + 2)))] [.int ((-10) - nI 2)] (cW G r (su 50 s (fun _ => nI 2)) l)
            exact J_iret dX11_copy_104 rfl rfl rfl (hq (su 50 s (fun _ => nI 2)) l ((-10) - nI 2, (su 4 σ (fun _ => nI 2))) (by simp [oCopy, fnd, hsp_0, hsp_2, kcz1, kcz2, kcz3, hok, rng_of (show 0 < 4 by decide) (by decide), nI_clamp (show 0 < 2 ^ 31 by decide), rng_of (show 2 < 4 by decide) (by decide), nI_clamp (show 2 < 2 ^ 31 by decide)]) (ci_fnd hC))
      · refine J_aload_n dX11_copy_70 rfl rfl ?_
        refine J_iconst (v := nI 4) dX11_copy_71 (by decide) ?_
        refine J_cVi (x := yX12_in) [.int (nI 4)] 0 mv_X11_230 (c_X11_found r s l 4) cW_0 rfl rfl (by decide) (Nat.le_of_ble_eq_true rfl) ⟨Nat.le_refl _, Nat.le_refl _⟩ dX11_copy_72 ?_
        show J G "copy" RX11 cX11_copy 8 (some .int) 0 0 3 Q 0 0 75 [(0, .ref (r 0)), (1, .int (nI 0)), (2, .int i), (3, .int (nI 2)), (4, .int j), (5, .int k), (6, .ref (r (11 + 0))), (7, .ref (r (11 + 2)))] [.int ((-10) - nI 4)] (cW G r (su 50 s (fun _ => nI 4)) l)
        exact J_iret dX11_copy_75 rfl rfl rfl (hq (su 50 s (fun _ => nI 4)) l ((-10) - nI 4, (su 4 σ (fun _ => nI 4))) (by simp [oCopy, fnd, hsp_0, hsp_2, kcz1, rng_of (show 0 < 4 by decide) (by decide), nI_clamp (show 0 < 2 ^ 31 by decide), rng_of (show 2 < 4 by decide) (by decide), nI_clamp (show 2 < 2 ^ 31 by decide)]) (ci_fnd hC))
theorem c_X11_copy02 {G : GT} (r : Nat → Nat) (s : St) (l : Nat → Int64) (σ : St) (hL : LI σ) (hC : CI σ s) (i j k : Int32) : Ct G yX11_copy cX11_copy 8 (some .int) 0 0 3 [.ref (r 0), .int (nI 0), .int i, .int (nI 2), .int j, .int k] (cW G r s l) (QC G r (oCopy (nI 0) i (nI 2) j k σ)) := Ct.of rfl (Nat.le_of_ble_eq_true rfl) (j_X11_copy02 r s l σ hL hC i j k (fun x lx a h1 h2 => ⟨x, lx, by rw [h1], rfl, by rw [← h1]; exact h2⟩))
set_option maxRecDepth 100000 in
set_option maxHeartbeats 1000000 in
theorem j_X11_copy03 {G : GT} (r : Nat → Nat) (s : St) (l : Nat → Int64) (σ : St) (hL : LI σ) (hC : CI σ s) (i j k : Int32) {Q : Option Value → va_W → Prop} (hq : ∀ (x : St) (lx : Nat → Int64) (a : Int32 × St), a = oCopy (nI 0) i (nI 3) j k σ → CI a.2 x → Q (some (.int a.1)) (cW G r x lx)) : J G "copy" RX11 cX11_copy 8 (some .int) 0 0 3 Q 0 0 0 [(0, .ref (r 0)), (1, .int (nI 0)), (2, .int i), (3, .int (nI 3)), (4, .int j), (5, .int k)] [] (cW G r s l) := by
  refine J_iload_n dX11_copy_0 rfl rfl ?_
  refine J_iconst (v := nI 4) dX11_copy_1 (by decide) ?_
  refine J_cSi [.int (nI 0), .int (nI 4)] ms_X11_48 (c_X11_isBelowN (cW G r s l) (nI 0) 4) rfl rfl (by decide) (Nat.le_of_ble_eq_true rfl) ⟨Nat.le_refl _, Nat.le_refl _⟩ dX11_copy_2 ?_
  refine J_if_eqB 16 dX11_copy_5 (by decide) (fun c => absurd c (by rw [(show rng (nI 0) 4 = true by decide)]; decide)) (fun _ => ?_)
  refine J_iload_n dX11_copy_8 rfl rfl ?_
  refine J_iconst (v := nI 4) dX11_copy_9 (by decide) ?_
  refine J_cSi [.int (nI 3), .int (nI 4)] ms_X11_48 (c_X11_isBelowN (cW G r s l) (nI 3) 4) rfl rfl (by decide) (Nat.le_of_ble_eq_true rfl) ⟨Nat.le_refl _, Nat.le_refl _⟩ dX11_copy_10 ?_
  refine J_if_neB 19 dX11_copy_13 (by decide) (fun _ => ?_) (fun c => absurd c (by rw [(show rng (nI 3) 4 = true by decide)]; decide))
  rcases hC.2.2.2.2.2.2.1.1 with ⟨u1_0, u2_0⟩ | ⟨u1_0, u2_0, u3_0, u4_0⟩
  · have hls_0 : decide (s 68 0 = -1) = true := decide_eq_true u1_0
    have hsp_0 : ¬ 0 ≤ σ 0 0 := by rw [u2_0]; decide
    rcases hC.2.2.2.2.2.2.1.2.2.2 with ⟨u1_3, u2_3⟩ | ⟨u1_3, u2_3, u3_3, u4_3⟩
    · have hls_3 : decide (s 68 3 = -1) = true := decide_eq_true u1_3
      have hsp_3 : ¬ 0 ≤ σ 0 3 := by rw [u2_3]; decide
      refine J_aload_n dX11_copy_19 rfl rfl ?_
      refine Cg_0_4 fr_X11_39_10 dX11_copy_20 ?_
      refine J_iload_n dX11_copy_23 rfl rfl ?_
      refine Cl_10 0 rfl (by omega) dX11_copy_24 ?_
      refine J_astore [(0, .ref (r 0)), (1, .int (nI 0)), (2, .int i), (3, .int (nI 3)), (4, .int j), (5, .int k), (6, .ref (r (11 + 0)))] dX11_copy_25 (by decide) rfl rfl rfl ?_
      refine J_aload_n dX11_copy_27 rfl rfl ?_
      refine Cg_0_4 fr_X11_39_10 dX11_copy_28 ?_
      refine J_iload_n dX11_copy_31 rfl rfl ?_
      refine Cl_10 3 rfl (by omega) dX11_copy_32 ?_
      refine J_astore [(0, .ref (r 0)), (1, .int (nI 0)), (2, .int i), (3, .int (nI 3)), (4, .int j), (5, .int k), (6, .ref (r (11 + 0))), (7, .ref (r (11 + 3)))] dX11_copy_33 (by decide) rfl rfl rfl ?_
      refine J_aload dX11_copy_35 rfl ?_
      refine J_cVi (x := yX12_in) [] (11 + 0) mv_X11_227 (c_X8_isLost r s l 0 (by omega)) (cW_sh (by omega)) rfl rfl (by decide) (Nat.le_of_ble_eq_true rfl) ⟨Nat.le_refl _, Nat.le_refl _⟩ dX11_copy_37 ?_
      refine J_if_neB 51 dX11_copy_40 (by decide) (fun _ => ?_) (fun c => absurd c (by rw [hls_0]; decide))
      refine J_aload_n dX11_copy_51 rfl rfl ?_
      refine J_iconst (v := nI 1) dX11_copy_52 (by decide) ?_
      refine J_cVi (x := yX12_in) [.int (nI 1)] 0 mv_X11_230 (c_X11_found r s l 1) cW_0 rfl rfl (by decide) (Nat.le_of_ble_eq_true rfl) ⟨Nat.le_refl _, Nat.le_refl _⟩ dX11_copy_53 ?_
      show J G "copy" RX11 cX11_copy 8 (some .int) 0 0 3 Q 0 0 56 [(0, .ref (r 0)), (1, .int (nI 0)), (2, .int i), (3, .int (nI 3)), (4, .int j), (5, .int k), (6, .ref (r (11 + 0))), (7, .ref (r (11 + 3)))] [.int ((-10) - nI 1)] (cW G r (su 50 s (fun _ => nI 1)) l)
      exact J_iret dX11_copy_56 rfl rfl rfl (hq (su 50 s (fun _ => nI 1)) l ((-10) - nI 1, (su 4 σ (fun _ => nI 1))) (by simp [oCopy, fnd, hsp_0, hsp_3, rng_of (show 0 < 4 by decide) (by decide), nI_clamp (show 0 < 2 ^ 31 by decide), rng_of (show 3 < 4 by decide) (by decide), nI_clamp (show 3 < 2 ^ 31 by decide)]) (ci_fnd hC))
    · obtain ⟨z_3, hz60_3, ez_3⟩ := (hL.sh (j := 3) (by decide)).2
      have hz_3 : s 68 3 = nI z_3 := u3_3.trans ez_3
      have hls_3 : decide (s 68 3 = -1) = false := decide_eq_false (by rw [hz_3]; exact fun q => m1_ne (by omega) q.symm)
      obtain ⟨fo_3, hfo_3, efo_3⟩ := (hL.sh (j := 3) (by decide)).1.resolve_left u2_3
      have hsp_3 : 0 ≤ σ 0 3 := by rw [efo_3]; exact nI_nn (by omega)
      have hit_3 : ∀ i, i < z_3 → s 73 i = σ 2 (60 * 3 + i) := u4_3 z_3 ez_3.symm hz60_3
      have ezc_3 : (σ 1 3).toNatClampNeg = z_3 := by rw [ez_3]; exact nI_clamp (by omega)
      refine J_aload_n dX11_copy_19 rfl rfl ?_
      refine Cg_0_4 fr_X11_39_10 dX11_copy_20 ?_
      refine J_iload_n dX11_copy_23 rfl rfl ?_
      refine Cl_10 0 rfl (by omega) dX11_copy_24 ?_
      refine J_astore [(0, .ref (r 0)), (1, .int (nI 0)), (2, .int i), (3, .int (nI 3)), (4, .int j), (5, .int k), (6, .ref (r (11 + 0)))] dX11_copy_25 (by decide) rfl rfl rfl ?_
      refine J_aload_n dX11_copy_27 rfl rfl ?_
      refine Cg_0_4 fr_X11_39_10 dX11_copy_28 ?_
      refine J_iload_n dX11_copy_31 rfl rfl ?_
      refine Cl_10 3 rfl (by omega) dX11_copy_32 ?_
      refine J_astore [(0, .ref (r 0)), (1, .int (nI 0)), (2, .int i), (3, .int (nI 3)), (4, .int j), (5, .int k), (6, .ref (r (11 + 0))), (7, .ref (r (11 + 3)))] dX11_copy_33 (by decide) rfl rfl rfl ?_
      refine J_aload dX11_copy_35 rfl ?_
      refine J_cVi (x := yX12_in) [] (11 + 0) mv_X11_227 (c_X8_isLost r s l 0 (by omega)) (cW_sh (by omega)) rfl rfl (by decide) (Nat.le_of_ble_eq_true rfl) ⟨Nat.le_refl _, Nat.le_refl _⟩ dX11_copy_37 ?_
      refine J_if_neB 51 dX11_copy_40 (by decide) (fun _ => ?_) (fun c => absurd c (by rw [hls_0]; decide))
      refine J_aload_n dX11_copy_51 rfl rfl ?_
      refine J_iconst (v := nI 1) dX11_copy_52 (by decide) ?_
      refine J_cVi (x := yX12_in) [.int (nI 1)] 0 mv_X11_230 (c_X11_found r s l 1) cW_0 rfl rfl (by decide) (Nat.le_of_ble_eq_true rfl) ⟨Nat.le_refl _, Nat.le_refl _⟩ dX11_copy_53 ?_
      show J G "copy" RX11 cX11_copy 8 (some .int) 0 0 3 Q 0 0 56 [(0, .ref (r 0)), (1, .int (nI 0)), (2, .int i), (3, .int (nI 3)), (4, .int j), (5, .int k), (6, .ref (r (11 + 0))), (7, .ref (r (11 + 3)))] [.int ((-10) - nI 1)] (cW G r (su 50 s (fun _ => nI 1)) l)
      exact J_iret dX11_copy_56 rfl rfl rfl (hq (su 50 s (fun _ => nI 1)) l ((-10) - nI 1, (su 4 σ (fun _ => nI 1))) (by simp [oCopy, fnd, hsp_0, hsp_3, rng_of (show 0 < 4 by decide) (by decide), nI_clamp (show 0 < 2 ^ 31 by decide), rng_of (show 3 < 4 by decide) (by decide), nI_clamp (show 3 < 2 ^ 31 by decide)]) (ci_fnd hC))
  · obtain ⟨z_0, hz60_0, ez_0⟩ := (hL.sh (j := 0) (by decide)).2
    have hz_0 : s 68 0 = nI z_0 := u3_0.trans ez_0
    have hls_0 : decide (s 68 0 = -1) = false := decide_eq_false (by rw [hz_0]; exact fun q => m1_ne (by omega) q.symm)
    obtain ⟨fo_0, hfo_0, efo_0⟩ := (hL.sh (j := 0) (by decide)).1.resolve_left u2_0
    have hsp_0 : 0 ≤ σ 0 0 := by rw [efo_0]; exact nI_nn (by omega)
    have hit_0 : ∀ i, i < z_0 → s 70 i = σ 2 (60 * 0 + i) := u4_0 z_0 ez_0.symm hz60_0
    have ezc_0 : (σ 1 0).toNatClampNeg = z_0 := by rw [ez_0]; exact nI_clamp (by omega)
    rcases hC.2.2.2.2.2.2.1.2.2.2 with ⟨u1_3, u2_3⟩ | ⟨u1_3, u2_3, u3_3, u4_3⟩
    · have hls_3 : decide (s 68 3 = -1) = true := decide_eq_true u1_3
      have hsp_3 : ¬ 0 ≤ σ 0 3 := by rw [u2_3]; decide
      refine J_aload_n dX11_copy_19 rfl rfl ?_
      refine Cg_0_4 fr_X11_39_10 dX11_copy_20 ?_
      refine J_iload_n dX11_copy_23 rfl rfl ?_
      refine Cl_10 0 rfl (by omega) dX11_copy_24 ?_
      refine J_astore [(0, .ref (r 0)), (1, .int (nI 0)), (2, .int i), (3, .int (nI 3)), (4, .int j), (5, .int k), (6, .ref (r (11 + 0)))] dX11_copy_25 (by decide) rfl rfl rfl ?_
      refine J_aload_n dX11_copy_27 rfl rfl ?_
      refine Cg_0_4 fr_X11_39_10 dX11_copy_28 ?_
      refine J_iload_n dX11_copy_31 rfl rfl ?_
      refine Cl_10 3 rfl (by omega) dX11_copy_32 ?_
      refine J_astore [(0, .ref (r 0)), (1, .int (nI 0)), (2, .int i), (3, .int (nI 3)), (4, .int j), (5, .int k), (6, .ref (r (11 + 0))), (7, .ref (r (11 + 3)))] dX11_copy_33 (by decide) rfl rfl rfl ?_
      refine J_aload dX11_copy_35 rfl ?_
      refine J_cVi (x := yX12_in) [] (11 + 0) mv_X11_227 (c_X8_isLost r s l 0 (by omega)) (cW_sh (by omega)) rfl rfl (by decide) (Nat.le_of_ble_eq_true rfl) ⟨Nat.le_refl _, Nat.le_refl _⟩ dX11_copy_37 ?_
      refine J_if_neB 51 dX11_copy_40 (by decide) (fun c => absurd c (by rw [hls_0]; decide)) (fun _ => ?_)
      refine J_aload dX11_copy_43 rfl ?_
      refine J_cVi (x := yX12_in) [] (11 + 3) mv_X11_227 (c_X8_isLost r s l 3 (by omega)) (cW_sh (by omega)) rfl rfl (by decide) (Nat.le_of_ble_eq_true rfl) ⟨Nat.le_refl _, Nat.le_refl _⟩ dX11_copy_45 ?_
      refine J_if_eqB 57 dX11_copy_48 (by decide) (fun c => absurd c (by rw [hls_3]; decide)) (fun _ => ?_)
      refine J_aload_n dX11_copy_51 rfl rfl ?_
      refine J_iconst (v := nI 1) dX11_copy_52 (by decide) ?_
      refine J_cVi (x := yX12_in) [.int (nI 1)] 0 mv_X11_230 (c_X11_found r s l 1) cW_0 rfl rfl (by decide) (Nat.le_of_ble_eq_true rfl) ⟨Nat.le_refl _, Nat.le_refl _⟩ dX11_copy_53 ?_
      show J G "copy" RX11 cX11_copy 8 (some .int) 0 0 3 Q 0 0 56 [(0, .ref (r 0)), (1, .int (nI 0)), (2, .int i), (3, .int (nI 3)), (4, .int j), (5, .int k), (6, .ref (r (11 + 0))), (7, .ref (r (11 + 3)))] [.int ((-10) - nI 1)] (cW G r (su 50 s (fun _ => nI 1)) l)
      exact J_iret dX11_copy_56 rfl rfl rfl (hq (su 50 s (fun _ => nI 1)) l ((-10) - nI 1, (su 4 σ (fun _ => nI 1))) (by simp [oCopy, fnd, hsp_0, hsp_3, rng_of (show 0 < 4 by decide) (by decide), nI_clamp (show 0 < 2 ^ 31 by decide), rng_of (show 3 < 4 by decide) (by decide), nI_clamp (show 3 < 2 ^ 31 by decide)]) (ci_fnd hC))
    · obtain ⟨z_3, hz60_3, ez_3⟩ := (hL.sh (j := 3) (by decide)).2
      have hz_3 : s 68 3 = nI z_3 := u3_3.trans ez_3
      have hls_3 : decide (s 68 3 = -1) = false := decide_eq_false (by rw [hz_3]; exact fun q => m1_ne (by omega) q.symm)
      obtain ⟨fo_3, hfo_3, efo_3⟩ := (hL.sh (j := 3) (by decide)).1.resolve_left u2_3
      have hsp_3 : 0 ≤ σ 0 3 := by rw [efo_3]; exact nI_nn (by omega)
      have hit_3 : ∀ i, i < z_3 → s 73 i = σ 2 (60 * 3 + i) := u4_3 z_3 ez_3.symm hz60_3
      have ezc_3 : (σ 1 3).toNatClampNeg = z_3 := by rw [ez_3]; exact nI_clamp (by omega)
      refine J_aload_n dX11_copy_19 rfl rfl ?_
      refine Cg_0_4 fr_X11_39_10 dX11_copy_20 ?_
      refine J_iload_n dX11_copy_23 rfl rfl ?_
      refine Cl_10 0 rfl (by omega) dX11_copy_24 ?_
      refine J_astore [(0, .ref (r 0)), (1, .int (nI 0)), (2, .int i), (3, .int (nI 3)), (4, .int j), (5, .int k), (6, .ref (r (11 + 0)))] dX11_copy_25 (by decide) rfl rfl rfl ?_
      refine J_aload_n dX11_copy_27 rfl rfl ?_
      refine Cg_0_4 fr_X11_39_10 dX11_copy_28 ?_
      refine J_iload_n dX11_copy_31 rfl rfl ?_
      refine Cl_10 3 rfl (by omega) dX11_copy_32 ?_
      refine J_astore [(0, .ref (r 0)), (1, .int (nI 0)), (2, .int i), (3, .int (nI 3)), (4, .int j), (5, .int k), (6, .ref (r (11 + 0))), (7, .ref (r (11 + 3)))] dX11_copy_33 (by decide) rfl rfl rfl ?_
      refine J_aload dX11_copy_35 rfl ?_
      refine J_cVi (x := yX12_in) [] (11 + 0) mv_X11_227 (c_X8_isLost r s l 0 (by omega)) (cW_sh (by omega)) rfl rfl (by decide) (Nat.le_of_ble_eq_true rfl) ⟨Nat.le_refl _, Nat.le_refl _⟩ dX11_copy_37 ?_
      refine J_if_neB 51 dX11_copy_40 (by decide) (fun c => absurd c (by rw [hls_0]; decide)) (fun _ => ?_)
      refine J_aload dX11_copy_43 rfl ?_
      refine J_cVi (x := yX12_in) [] (11 + 3) mv_X11_227 (c_X8_isLost r s l 3 (by omega)) (cW_sh (by omega)) rfl rfl (by decide) (Nat.le_of_ble_eq_true rfl) ⟨Nat.le_refl _, Nat.le_refl _⟩ dX11_copy_45 ?_
      refine J_if_eqB 57 dX11_copy_48 (by decide) (fun _ => ?_) (fun c => absurd c (by rw [hls_3]; decide))
      refine J_aload dX11_copy_57 rfl ?_
      refine Cg_sh_1 (s := s) (by omega) fr_X11_279_7 (s 67 0) rfl dX11_copy_59 ?_
      refine J_rw (y := σ 0 0) u1_0.symm ?_
      refine J_aload dX11_copy_62 rfl ?_
      refine Cg_sh_1 (s := s) (by omega) fr_X11_279_7 (s 67 3) rfl dX11_copy_64 ?_
      refine J_rw (y := σ 0 3) u1_3.symm ?_
      refine J_icmp_eq 76 dX11_copy_67 (by decide) (fun kcz1 => ?_) (fun kcz1 => ?_)
      · refine J_aload dX11_copy_76 rfl ?_
        refine J_iload_n dX11_copy_78 rfl rfl ?_
        refine J_iload dX11_copy_79 rfl ?_
        refine J_cVi (x := yX12_in) [.int i, .int k] (11 + 0) mv_X11_282 (c_X8_hasItems r s l 0 (by decide) z_0 hz_0 hz60_0 i k) (cW_sh (by omega)) rfl rfl (by decide) (Nat.le_of_ble_eq_true rfl) ⟨Nat.le_refl _, Nat.le_refl _⟩ dX11_copy_81 ?_
        refine J_if_eqB 99 dX11_copy_84 (by decide) (fun kcz2 => ?_) (fun kcz2 => ?_)
        · have hok : cpOk (nI 0) i (nI 3) j k σ = false := hi_no ez_0 ez_3 hz60_0 hz60_3 (Or.inl kcz2)
          refine J_aload_n dX11_copy_99 rfl rfl ?_
          refine J_iconst (v := nI 2) dX11_copy_100 (by decide) ?_
          refine J_cVi (x := yX12_in) [.int (nI 2)] 0 mv_X11_230 (c_X11_found r s l 2) cW_0 rfl rfl (by decide) (Nat.le_of_ble_eq_true rfl) ⟨Nat.le_refl _, Nat.le_refl _⟩ dX11_copy_101 ?_
          show J G "copy" RX11 cX11_copy 8 (some .int) 0 0 3 Q 0 0 104 [(0, .ref (r 0)), (1, .int (nI 0)), (2, .int i), (3, .int (nI 3)), (4, .int j), (5, .int k), (6, .ref (r (11 + 0))), (7, .ref (r (11 + 3)))] [.int ((-10) - nI 2)] (cW G r (su 50 s (fun _ => nI 2)) l)
          exact J_iret dX11_copy_104 rfl rfl rfl (hq (su 50 s (fun _ => nI 2)) l ((-10) - nI 2, (su 4 σ (fun _ => nI 2))) (by simp [oCopy, fnd, hsp_0, hsp_3, kcz1, kcz2, hok, rng_of (show 0 < 4 by decide) (by decide), nI_clamp (show 0 < 2 ^ 31 by decide), rng_of (show 3 < 4 by decide) (by decide), nI_clamp (show 3 < 2 ^ 31 by decide)]) (ci_fnd hC))
        · refine J_aload dX11_copy_87 rfl ?_
          refine J_iload dX11_copy_89 rfl ?_
          refine J_iload dX11_copy_91 rfl ?_
          refine J_cVi (x := yX12_in) [.int j, .int k] (11 + 3) mv_X11_282 (c_X8_hasItems r s l 3 (by decide) z_3 hz_3 hz60_3 j k) (cW_sh (by omega)) rfl rfl (by decide) (Nat.le_of_ble_eq_true rfl) ⟨Nat.le_refl _, Nat.le_refl _⟩ dX11_copy_93 ?_
          refine J_if_neB 105 dX11_copy_96 (by decide) (fun kcz3 => ?_) (fun kcz3 => ?_)
          · obtain ⟨Ii, Jj, Nn, rfl, rfl, rfl, hc1, hc2⟩ := hi_in kcz2 kcz3 hz60_0 hz60_3
            have eIi : (nI Ii).toNatClampNeg = Ii := nI_clamp (by omega)
            have eJj : (nI Jj).toNatClampNeg = Jj := nI_clamp (by omega)
            have eNn : (nI Nn).toNatClampNeg = Nn := nI_clamp (by omega)
            have hok : cpOk (nI 0) (nI Ii) (nI 3) (nI Jj) (nI Nn) σ = true := hi_cp ez_0 ez_3 hc1 hc2 hz60_0 hz60_3
            refine J_aload dX11_copy_105 rfl ?_
            refine Cg_sh_0 (by omega) fr_X11_285_7 dX11_copy_107 ?_
            refine J_iload_n dX11_copy_110 rfl rfl ?_
            refine J_aload dX11_copy_111 rfl ?_
            refine Cg_sh_0 (by omega) fr_X11_285_7 dX11_copy_113 ?_
            refine J_iload dX11_copy_116 rfl ?_
            refine J_iload dX11_copy_118 rfl ?_
            refine J_copyi (N0 := 60) (N1 := 60) ac_link ac_nat ac_stat ac_init (15 + 0) (15 + 3) (cW G r (su 73 s (va_cpy (s 70) (s 73) Ii Jj Nn)) l) (cW_si (by decide)) (cW_si (by decide)) (cI_nlt (by omega)) (cI_nlt (by omega)) (cI_nlt (by omega)) (by rw [nI_clamp (by omega), nI_clamp (by omega)]; omega) (by rw [nI_clamp (by omega), nI_clamp (by omega)]; omega) (by omega) (by decide) (by rw [nI_clamp (by omega), nI_clamp (by omega), nI_clamp (by omega)]; exact cW_set3 (by decide)) dX11_copy_120 ?_
            show J G "copy" RX11 cX11_copy 8 (some .int) 0 0 3 Q 0 0 123 [(0, .ref (r 0)), (1, .int (nI 0)), (2, .int (nI Ii)), (3, .int (nI 3)), (4, .int (nI Jj)), (5, .int (nI Nn)), (6, .ref (r (11 + 0))), (7, .ref (r (11 + 3)))] [] (cW G r (su 73 s (va_cpy (s 70) (s 73) Ii Jj Nn)) l)
            refine J_iconst (v := nI 1) dX11_copy_123 (by decide) ?_
            exact J_iret dX11_copy_124 rfl rfl rfl (hq (su 73 s (va_cpy (s 70) (s 73) Ii Jj Nn)) l (nI 1, (su 2 σ (fb_put (σ 2) (fun k => σ 2 (60 * 0 + Ii + k)) (60 * 3 + Jj) Nn))) (by simp [oCopy, fnd, hsp_0, hsp_3, kcz1, eIi, eJj, eNn, hok, rng_of (show 0 < 4 by decide) (by decide), nI_clamp (show 0 < 2 ^ 31 by decide), rng_of (show 3 < 4 by decide) (by decide), nI_clamp (show 3 < 2 ^ 31 by decide)]) (ci_copy03 hC ez_0 ez_3 hz60_0 hz60_3 u2_0 u2_3 hc1 hc2))
          · have hok : cpOk (nI 0) i (nI 3) j k σ = false := hi_no ez_0 ez_3 hz60_0 hz60_3 (Or.inr kcz3)
            refine J_aload_n dX11_copy_99 rfl rfl ?_
            refine J_iconst (v := nI 2) dX11_copy_100 (by decide) ?_
            refine J_cVi (x := yX12_in) [.int (nI 2)] 0 mv_X11_230 (c_X11_found r s l 2) cW_0 rfl rfl (by decide) (Nat.le_of_ble_eq_true rfl) ⟨Nat.le_refl _, Nat.le_refl _⟩ dX11_copy_101 ?_
            show J G "copy" RX11 cX11_copy 8 (some .int) 0 0 3 Q 0 0 104 [(0, .ref (r 0)), (1, .int (nI 0)), (2, .int i), (3, .int (nI 3)), (4, .int j), (5, .int k), (6, .ref (r (11 + 0))), (7, .ref (r (11 + 3)))] [.int ((-10) - nI 2)] (cW G r (su 50 s (fun _ => nI 2)) l)
            exact J_iret dX11_copy_104 rfl rfl rfl (hq (su 50 s (fun _ => nI 2)) l ((-10) - nI 2, (su 4 σ (fun _ => nI 2))) (by simp [oCopy, fnd, hsp_0, hsp_3, kcz1, kcz2, kcz3, hok, rng_of (show 0 < 4 by decide) (by decide), nI_clamp (show 0 < 2 ^ 31 by decide), rng_of (show 3 < 4 by decide) (by decide), nI_clamp (show 3 < 2 ^ 31 by decide)]) (ci_fnd hC))
      · refine J_aload_n dX11_copy_70 rfl rfl ?_
        refine J_iconst (v := nI 4) dX11_copy_71 (by decide) ?_
        refine J_cVi (x := yX12_in) [.int (nI 4)] 0 mv_X11_230 (c_X11_found r s l 4) cW_0 rfl rfl (by decide) (Nat.le_of_ble_eq_true rfl) ⟨Nat.le_refl _, Nat.le_refl _⟩ dX11_copy_72 ?_
        show J G "copy" RX11 cX11_copy 8 (some .int) 0 0 3 Q 0 0 75 [(0, .ref (r 0)), (1, .int (nI 0)), (2, .int i), (3, .int (nI 3)), (4, .int j), (5, .int k), (6, .ref (r (11 + 0))), (7, .ref (r (11 + 3)))] [.int ((-10) - nI 4)] (cW G r (su 50 s (fun _ => nI 4)) l)
        exact J_iret dX11_copy_75 rfl rfl rfl (hq (su 50 s (fun _ => nI 4)) l ((-10) - nI 4, (su 4 σ (fun _ => nI 4))) (by simp [oCopy, fnd, hsp_0, hsp_3, kcz1, rng_of (show 0 < 4 by decide) (by decide), nI_clamp (show 0 < 2 ^ 31 by decide), rng_of (show 3 < 4 by decide) (by decide), nI_clamp (show 3 < 2 ^ 31 by decide)]) (ci_fnd hC))
theorem c_X11_copy03 {G : GT} (r : Nat → Nat) (s : St) (l : Nat → Int64) (σ : St) (hL : LI σ) (hC : CI σ s) (i j k : Int32) : Ct G yX11_copy cX11_copy 8 (some .int) 0 0 3 [.ref (r 0), .int (nI 0), .int i, .int (nI 3), .int j, .int k] (cW G r s l) (QC G r (oCopy (nI 0) i (nI 3) j k σ)) := Ct.of rfl (Nat.le_of_ble_eq_true rfl) (j_X11_copy03 r s l σ hL hC i j k (fun x lx a h1 h2 => ⟨x, lx, by rw [h1], rfl, by rw [← h1]; exact h2⟩))
set_option maxRecDepth 100000 in
set_option maxHeartbeats 1000000 in
theorem j_X11_copy10 {G : GT} (r : Nat → Nat) (s : St) (l : Nat → Int64) (σ : St) (hL : LI σ) (hC : CI σ s) (i j k : Int32) {Q : Option Value → va_W → Prop} (hq : ∀ (x : St) (lx : Nat → Int64) (a : Int32 × St), a = oCopy (nI 1) i (nI 0) j k σ → CI a.2 x → Q (some (.int a.1)) (cW G r x lx)) : J G "copy" RX11 cX11_copy 8 (some .int) 0 0 3 Q 0 0 0 [(0, .ref (r 0)), (1, .int (nI 1)), (2, .int i), (3, .int (nI 0)), (4, .int j), (5, .int k)] [] (cW G r s l) := by
  refine J_iload_n dX11_copy_0 rfl rfl ?_
  refine J_iconst (v := nI 4) dX11_copy_1 (by decide) ?_
  refine J_cSi [.int (nI 1), .int (nI 4)] ms_X11_48 (c_X11_isBelowN (cW G r s l) (nI 1) 4) rfl rfl (by decide) (Nat.le_of_ble_eq_true rfl) ⟨Nat.le_refl _, Nat.le_refl _⟩ dX11_copy_2 ?_
  refine J_if_eqB 16 dX11_copy_5 (by decide) (fun c => absurd c (by rw [(show rng (nI 1) 4 = true by decide)]; decide)) (fun _ => ?_)
  refine J_iload_n dX11_copy_8 rfl rfl ?_
  refine J_iconst (v := nI 4) dX11_copy_9 (by decide) ?_
  refine J_cSi [.int (nI 0), .int (nI 4)] ms_X11_48 (c_X11_isBelowN (cW G r s l) (nI 0) 4) rfl rfl (by decide) (Nat.le_of_ble_eq_true rfl) ⟨Nat.le_refl _, Nat.le_refl _⟩ dX11_copy_10 ?_
  refine J_if_neB 19 dX11_copy_13 (by decide) (fun _ => ?_) (fun c => absurd c (by rw [(show rng (nI 0) 4 = true by decide)]; decide))
  rcases hC.2.2.2.2.2.2.1.2.1 with ⟨u1_1, u2_1⟩ | ⟨u1_1, u2_1, u3_1, u4_1⟩
  · have hls_1 : decide (s 68 1 = -1) = true := decide_eq_true u1_1
    have hsp_1 : ¬ 0 ≤ σ 0 1 := by rw [u2_1]; decide
    rcases hC.2.2.2.2.2.2.1.1 with ⟨u1_0, u2_0⟩ | ⟨u1_0, u2_0, u3_0, u4_0⟩
    · have hls_0 : decide (s 68 0 = -1) = true := decide_eq_true u1_0
      have hsp_0 : ¬ 0 ≤ σ 0 0 := by rw [u2_0]; decide
      refine J_aload_n dX11_copy_19 rfl rfl ?_
      refine Cg_0_4 fr_X11_39_10 dX11_copy_20 ?_
      refine J_iload_n dX11_copy_23 rfl rfl ?_
      refine Cl_10 1 rfl (by omega) dX11_copy_24 ?_
      refine J_astore [(0, .ref (r 0)), (1, .int (nI 1)), (2, .int i), (3, .int (nI 0)), (4, .int j), (5, .int k), (6, .ref (r (11 + 1)))] dX11_copy_25 (by decide) rfl rfl rfl ?_
      refine J_aload_n dX11_copy_27 rfl rfl ?_
      refine Cg_0_4 fr_X11_39_10 dX11_copy_28 ?_
      refine J_iload_n dX11_copy_31 rfl rfl ?_
      refine Cl_10 0 rfl (by omega) dX11_copy_32 ?_
      refine J_astore [(0, .ref (r 0)), (1, .int (nI 1)), (2, .int i), (3, .int (nI 0)), (4, .int j), (5, .int k), (6, .ref (r (11 + 1))), (7, .ref (r (11 + 0)))] dX11_copy_33 (by decide) rfl rfl rfl ?_
      refine J_aload dX11_copy_35 rfl ?_
      refine J_cVi (x := yX12_in) [] (11 + 1) mv_X11_227 (c_X8_isLost r s l 1 (by omega)) (cW_sh (by omega)) rfl rfl (by decide) (Nat.le_of_ble_eq_true rfl) ⟨Nat.le_refl _, Nat.le_refl _⟩ dX11_copy_37 ?_
      refine J_if_neB 51 dX11_copy_40 (by decide) (fun _ => ?_) (fun c => absurd c (by rw [hls_1]; decide))
      refine J_aload_n dX11_copy_51 rfl rfl ?_
      refine J_iconst (v := nI 1) dX11_copy_52 (by decide) ?_
      refine J_cVi (x := yX12_in) [.int (nI 1)] 0 mv_X11_230 (c_X11_found r s l 1) cW_0 rfl rfl (by decide) (Nat.le_of_ble_eq_true rfl) ⟨Nat.le_refl _, Nat.le_refl _⟩ dX11_copy_53 ?_
      show J G "copy" RX11 cX11_copy 8 (some .int) 0 0 3 Q 0 0 56 [(0, .ref (r 0)), (1, .int (nI 1)), (2, .int i), (3, .int (nI 0)), (4, .int j), (5, .int k), (6, .ref (r (11 + 1))), (7, .ref (r (11 + 0)))] [.int ((-10) - nI 1)] (cW G r (su 50 s (fun _ => nI 1)) l)
      exact J_iret dX11_copy_56 rfl rfl rfl (hq (su 50 s (fun _ => nI 1)) l ((-10) - nI 1, (su 4 σ (fun _ => nI 1))) (by simp [oCopy, fnd, hsp_1, hsp_0, rng_of (show 0 < 4 by decide) (by decide), nI_clamp (show 0 < 2 ^ 31 by decide), rng_of (show 1 < 4 by decide) (by decide), nI_clamp (show 1 < 2 ^ 31 by decide)]) (ci_fnd hC))
    · obtain ⟨z_0, hz60_0, ez_0⟩ := (hL.sh (j := 0) (by decide)).2
      have hz_0 : s 68 0 = nI z_0 := u3_0.trans ez_0
      have hls_0 : decide (s 68 0 = -1) = false := decide_eq_false (by rw [hz_0]; exact fun q => m1_ne (by omega) q.symm)
      obtain ⟨fo_0, hfo_0, efo_0⟩ := (hL.sh (j := 0) (by decide)).1.resolve_left u2_0
      have hsp_0 : 0 ≤ σ 0 0 := by rw [efo_0]; exact nI_nn (by omega)
      have hit_0 : ∀ i, i < z_0 → s 70 i = σ 2 (60 * 0 + i) := u4_0 z_0 ez_0.symm hz60_0
      have ezc_0 : (σ 1 0).toNatClampNeg = z_0 := by rw [ez_0]; exact nI_clamp (by omega)
      refine J_aload_n dX11_copy_19 rfl rfl ?_
      refine Cg_0_4 fr_X11_39_10 dX11_copy_20 ?_
      refine J_iload_n dX11_copy_23 rfl rfl ?_
      refine Cl_10 1 rfl (by omega) dX11_copy_24 ?_
      refine J_astore [(0, .ref (r 0)), (1, .int (nI 1)), (2, .int i), (3, .int (nI 0)), (4, .int j), (5, .int k), (6, .ref (r (11 + 1)))] dX11_copy_25 (by decide) rfl rfl rfl ?_
      refine J_aload_n dX11_copy_27 rfl rfl ?_
      refine Cg_0_4 fr_X11_39_10 dX11_copy_28 ?_
      refine J_iload_n dX11_copy_31 rfl rfl ?_
      refine Cl_10 0 rfl (by omega) dX11_copy_32 ?_
      refine J_astore [(0, .ref (r 0)), (1, .int (nI 1)), (2, .int i), (3, .int (nI 0)), (4, .int j), (5, .int k), (6, .ref (r (11 + 1))), (7, .ref (r (11 + 0)))] dX11_copy_33 (by decide) rfl rfl rfl ?_
      refine J_aload dX11_copy_35 rfl ?_
      refine J_cVi (x := yX12_in) [] (11 + 1) mv_X11_227 (c_X8_isLost r s l 1 (by omega)) (cW_sh (by omega)) rfl rfl (by decide) (Nat.le_of_ble_eq_true rfl) ⟨Nat.le_refl _, Nat.le_refl _⟩ dX11_copy_37 ?_
      refine J_if_neB 51 dX11_copy_40 (by decide) (fun _ => ?_) (fun c => absurd c (by rw [hls_1]; decide))
      refine J_aload_n dX11_copy_51 rfl rfl ?_
      refine J_iconst (v := nI 1) dX11_copy_52 (by decide) ?_
      refine J_cVi (x := yX12_in) [.int (nI 1)] 0 mv_X11_230 (c_X11_found r s l 1) cW_0 rfl rfl (by decide) (Nat.le_of_ble_eq_true rfl) ⟨Nat.le_refl _, Nat.le_refl _⟩ dX11_copy_53 ?_
      show J G "copy" RX11 cX11_copy 8 (some .int) 0 0 3 Q 0 0 56 [(0, .ref (r 0)), (1, .int (nI 1)), (2, .int i), (3, .int (nI 0)), (4, .int j), (5, .int k), (6, .ref (r (11 + 1))), (7, .ref (r (11 + 0)))] [.int ((-10) - nI 1)] (cW G r (su 50 s (fun _ => nI 1)) l)
      exact J_iret dX11_copy_56 rfl rfl rfl (hq (su 50 s (fun _ => nI 1)) l ((-10) - nI 1, (su 4 σ (fun _ => nI 1))) (by simp [oCopy, fnd, hsp_1, hsp_0, rng_of (show 0 < 4 by decide) (by decide), nI_clamp (show 0 < 2 ^ 31 by decide), rng_of (show 1 < 4 by decide) (by decide), nI_clamp (show 1 < 2 ^ 31 by decide)]) (ci_fnd hC))
  · obtain ⟨z_1, hz60_1, ez_1⟩ := (hL.sh (j := 1) (by decide)).2
    have hz_1 : s 68 1 = nI z_1 := u3_1.trans ez_1
    have hls_1 : decide (s 68 1 = -1) = false := decide_eq_false (by rw [hz_1]; exact fun q => m1_ne (by omega) q.symm)
    obtain ⟨fo_1, hfo_1, efo_1⟩ := (hL.sh (j := 1) (by decide)).1.resolve_left u2_1
    have hsp_1 : 0 ≤ σ 0 1 := by rw [efo_1]; exact nI_nn (by omega)
    have hit_1 : ∀ i, i < z_1 → s 71 i = σ 2 (60 * 1 + i) := u4_1 z_1 ez_1.symm hz60_1
    have ezc_1 : (σ 1 1).toNatClampNeg = z_1 := by rw [ez_1]; exact nI_clamp (by omega)
    rcases hC.2.2.2.2.2.2.1.1 with ⟨u1_0, u2_0⟩ | ⟨u1_0, u2_0, u3_0, u4_0⟩
    · have hls_0 : decide (s 68 0 = -1) = true := decide_eq_true u1_0
      have hsp_0 : ¬ 0 ≤ σ 0 0 := by rw [u2_0]; decide
      refine J_aload_n dX11_copy_19 rfl rfl ?_
      refine Cg_0_4 fr_X11_39_10 dX11_copy_20 ?_
      refine J_iload_n dX11_copy_23 rfl rfl ?_
      refine Cl_10 1 rfl (by omega) dX11_copy_24 ?_
      refine J_astore [(0, .ref (r 0)), (1, .int (nI 1)), (2, .int i), (3, .int (nI 0)), (4, .int j), (5, .int k), (6, .ref (r (11 + 1)))] dX11_copy_25 (by decide) rfl rfl rfl ?_
      refine J_aload_n dX11_copy_27 rfl rfl ?_
      refine Cg_0_4 fr_X11_39_10 dX11_copy_28 ?_
      refine J_iload_n dX11_copy_31 rfl rfl ?_
      refine Cl_10 0 rfl (by omega) dX11_copy_32 ?_
      refine J_astore [(0, .ref (r 0)), (1, .int (nI 1)), (2, .int i), (3, .int (nI 0)), (4, .int j), (5, .int k), (6, .ref (r (11 + 1))), (7, .ref (r (11 + 0)))] dX11_copy_33 (by decide) rfl rfl rfl ?_
      refine J_aload dX11_copy_35 rfl ?_
      refine J_cVi (x := yX12_in) [] (11 + 1) mv_X11_227 (c_X8_isLost r s l 1 (by omega)) (cW_sh (by omega)) rfl rfl (by decide) (Nat.le_of_ble_eq_true rfl) ⟨Nat.le_refl _, Nat.le_refl _⟩ dX11_copy_37 ?_
      refine J_if_neB 51 dX11_copy_40 (by decide) (fun c => absurd c (by rw [hls_1]; decide)) (fun _ => ?_)
      refine J_aload dX11_copy_43 rfl ?_
      refine J_cVi (x := yX12_in) [] (11 + 0) mv_X11_227 (c_X8_isLost r s l 0 (by omega)) (cW_sh (by omega)) rfl rfl (by decide) (Nat.le_of_ble_eq_true rfl) ⟨Nat.le_refl _, Nat.le_refl _⟩ dX11_copy_45 ?_
      refine J_if_eqB 57 dX11_copy_48 (by decide) (fun c => absurd c (by rw [hls_0]; decide)) (fun _ => ?_)
      refine J_aload_n dX11_copy_51 rfl rfl ?_
      refine J_iconst (v := nI 1) dX11_copy_52 (by decide) ?_
      refine J_cVi (x := yX12_in) [.int (nI 1)] 0 mv_X11_230 (c_X11_found r s l 1) cW_0 rfl rfl (by decide) (Nat.le_of_ble_eq_true rfl) ⟨Nat.le_refl _, Nat.le_refl _⟩ dX11_copy_53 ?_
      show J G "copy" RX11 cX11_copy 8 (some .int) 0 0 3 Q 0 0 56 [(0, .ref (r 0)), (1, .int (nI 1)), (2, .int i), (3, .int (nI 0)), (4, .int j), (5, .int k), (6, .ref (r (11 + 1))), (7, .ref (r (11 + 0)))] [.int ((-10) - nI 1)] (cW G r (su 50 s (fun _ => nI 1)) l)
      exact J_iret dX11_copy_56 rfl rfl rfl (hq (su 50 s (fun _ => nI 1)) l ((-10) - nI 1, (su 4 σ (fun _ => nI 1))) (by simp [oCopy, fnd, hsp_1, hsp_0, rng_of (show 0 < 4 by decide) (by decide), nI_clamp (show 0 < 2 ^ 31 by decide), rng_of (show 1 < 4 by decide) (by decide), nI_clamp (show 1 < 2 ^ 31 by decide)]) (ci_fnd hC))
    · obtain ⟨z_0, hz60_0, ez_0⟩ := (hL.sh (j := 0) (by decide)).2
      have hz_0 : s 68 0 = nI z_0 := u3_0.trans ez_0
      have hls_0 : decide (s 68 0 = -1) = false := decide_eq_false (by rw [hz_0]; exact fun q => m1_ne (by omega) q.symm)
      obtain ⟨fo_0, hfo_0, efo_0⟩ := (hL.sh (j := 0) (by decide)).1.resolve_left u2_0
      have hsp_0 : 0 ≤ σ 0 0 := by rw [efo_0]; exact nI_nn (by omega)
      have hit_0 : ∀ i, i < z_0 → s 70 i = σ 2 (60 * 0 + i) := u4_0 z_0 ez_0.symm hz60_0
      have ezc_0 : (σ 1 0).toNatClampNeg = z_0 := by rw [ez_0]; exact nI_clamp (by omega)
      refine J_aload_n dX11_copy_19 rfl rfl ?_
      refine Cg_0_4 fr_X11_39_10 dX11_copy_20 ?_
      refine J_iload_n dX11_copy_23 rfl rfl ?_
      refine Cl_10 1 rfl (by omega) dX11_copy_24 ?_
      refine J_astore [(0, .ref (r 0)), (1, .int (nI 1)), (2, .int i), (3, .int (nI 0)), (4, .int j), (5, .int k), (6, .ref (r (11 + 1)))] dX11_copy_25 (by decide) rfl rfl rfl ?_
      refine J_aload_n dX11_copy_27 rfl rfl ?_
      refine Cg_0_4 fr_X11_39_10 dX11_copy_28 ?_
      refine J_iload_n dX11_copy_31 rfl rfl ?_
      refine Cl_10 0 rfl (by omega) dX11_copy_32 ?_
      refine J_astore [(0, .ref (r 0)), (1, .int (nI 1)), (2, .int i), (3, .int (nI 0)), (4, .int j), (5, .int k), (6, .ref (r (11 + 1))), (7, .ref (r (11 + 0)))] dX11_copy_33 (by decide) rfl rfl rfl ?_
      refine J_aload dX11_copy_35 rfl ?_
      refine J_cVi (x := yX12_in) [] (11 + 1) mv_X11_227 (c_X8_isLost r s l 1 (by omega)) (cW_sh (by omega)) rfl rfl (by decide) (Nat.le_of_ble_eq_true rfl) ⟨Nat.le_refl _, Nat.le_refl _⟩ dX11_copy_37 ?_
      refine J_if_neB 51 dX11_copy_40 (by decide) (fun c => absurd c (by rw [hls_1]; decide)) (fun _ => ?_)
      refine J_aload dX11_copy_43 rfl ?_
      refine J_cVi (x := yX12_in) [] (11 + 0) mv_X11_227 (c_X8_isLost r s l 0 (by omega)) (cW_sh (by omega)) rfl rfl (by decide) (Nat.le_of_ble_eq_true rfl) ⟨Nat.le_refl _, Nat.le_refl _⟩ dX11_copy_45 ?_
      refine J_if_eqB 57 dX11_copy_48 (by decide) (fun _ => ?_) (fun c => absurd c (by rw [hls_0]; decide))
      refine J_aload dX11_copy_57 rfl ?_
      refine Cg_sh_1 (s := s) (by omega) fr_X11_279_7 (s 67 1) rfl dX11_copy_59 ?_
      refine J_rw (y := σ 0 1) u1_1.symm ?_
      refine J_aload dX11_copy_62 rfl ?_
      refine Cg_sh_1 (s := s) (by omega) fr_X11_279_7 (s 67 0) rfl dX11_copy_64 ?_
      refine J_rw (y := σ 0 0) u1_0.symm ?_
      refine J_icmp_eq 76 dX11_copy_67 (by decide) (fun kcz1 => ?_) (fun kcz1 => ?_)
      · refine J_aload dX11_copy_76 rfl ?_
        refine J_iload_n dX11_copy_78 rfl rfl ?_
        refine J_iload dX11_copy_79 rfl ?_
        refine J_cVi (x := yX12_in) [.int i, .int k] (11 + 1) mv_X11_282 (c_X8_hasItems r s l 1 (by decide) z_1 hz_1 hz60_1 i k) (cW_sh (by omega)) rfl rfl (by decide) (Nat.le_of_ble_eq_true rfl) ⟨Nat.le_refl _, Nat.le_refl _⟩ dX11_copy_81 ?_
        refine J_if_eqB 99 dX11_copy_84 (by decide) (fun kcz2 => ?_) (fun kcz2 => ?_)
        · have hok : cpOk (nI 1) i (nI 0) j k σ = false := hi_no ez_1 ez_0 hz60_1 hz60_0 (Or.inl kcz2)
          refine J_aload_n dX11_copy_99 rfl rfl ?_
          refine J_iconst (v := nI 2) dX11_copy_100 (by decide) ?_
          refine J_cVi (x := yX12_in) [.int (nI 2)] 0 mv_X11_230 (c_X11_found r s l 2) cW_0 rfl rfl (by decide) (Nat.le_of_ble_eq_true rfl) ⟨Nat.le_refl _, Nat.le_refl _⟩ dX11_copy_101 ?_
          show J G "copy" RX11 cX11_copy 8 (some .int) 0 0 3 Q 0 0 104 [(0, .ref (r 0)), (1, .int (nI 1)), (2, .int i), (3, .int (nI 0)), (4, .int j), (5, .int k), (6, .ref (r (11 + 1))), (7, .ref (r (11 + 0)))] [.int ((-10) - nI 2)] (cW G r (su 50 s (fun _ => nI 2)) l)
          exact J_iret dX11_copy_104 rfl rfl rfl (hq (su 50 s (fun _ => nI 2)) l ((-10) - nI 2, (su 4 σ (fun _ => nI 2))) (by simp [oCopy, fnd, hsp_1, hsp_0, kcz1, kcz2, hok, rng_of (show 0 < 4 by decide) (by decide), nI_clamp (show 0 < 2 ^ 31 by decide), rng_of (show 1 < 4 by decide) (by decide), nI_clamp (show 1 < 2 ^ 31 by decide)]) (ci_fnd hC))
        · refine J_aload dX11_copy_87 rfl ?_
          refine J_iload dX11_copy_89 rfl ?_
          refine J_iload dX11_copy_91 rfl ?_
          refine J_cVi (x := yX12_in) [.int j, .int k] (11 + 0) mv_X11_282 (c_X8_hasItems r s l 0 (by decide) z_0 hz_0 hz60_0 j k) (cW_sh (by omega)) rfl rfl (by decide) (Nat.le_of_ble_eq_true rfl) ⟨Nat.le_refl _, Nat.le_refl _⟩ dX11_copy_93 ?_
          refine J_if_neB 105 dX11_copy_96 (by decide) (fun kcz3 => ?_) (fun kcz3 => ?_)
          · obtain ⟨Ii, Jj, Nn, rfl, rfl, rfl, hc1, hc2⟩ := hi_in kcz2 kcz3 hz60_1 hz60_0
            have eIi : (nI Ii).toNatClampNeg = Ii := nI_clamp (by omega)
            have eJj : (nI Jj).toNatClampNeg = Jj := nI_clamp (by omega)
            have eNn : (nI Nn).toNatClampNeg = Nn := nI_clamp (by omega)
            have hok : cpOk (nI 1) (nI Ii) (nI 0) (nI Jj) (nI Nn) σ = true := hi_cp ez_1 ez_0 hc1 hc2 hz60_1 hz60_0
            refine J_aload dX11_copy_105 rfl ?_
            refine Cg_sh_0 (by omega) fr_X11_285_7 dX11_copy_107 ?_
            refine J_iload_n dX11_copy_110 rfl rfl ?_
            refine J_aload dX11_copy_111 rfl ?_
            refine Cg_sh_0 (by omega) fr_X11_285_7 dX11_copy_113 ?_
            refine J_iload dX11_copy_116 rfl ?_
            refine J_iload dX11_copy_118 rfl ?_
            refine J_copyi (N0 := 60) (N1 := 60) ac_link ac_nat ac_stat ac_init (15 + 1) (15 + 0) (cW G r (su 70 s (va_cpy (s 71) (s 70) Ii Jj Nn)) l) (cW_si (by decide)) (cW_si (by decide)) (cI_nlt (by omega)) (cI_nlt (by omega)) (cI_nlt (by omega)) (by rw [nI_clamp (by omega), nI_clamp (by omega)]; omega) (by rw [nI_clamp (by omega), nI_clamp (by omega)]; omega) (by omega) (by decide) (by rw [nI_clamp (by omega), nI_clamp (by omega), nI_clamp (by omega)]; exact cW_set3 (by decide)) dX11_copy_120 ?_
            show J G "copy" RX11 cX11_copy 8 (some .int) 0 0 3 Q 0 0 123 [(0, .ref (r 0)), (1, .int (nI 1)), (2, .int (nI Ii)), (3, .int (nI 0)), (4, .int (nI Jj)), (5, .int (nI Nn)), (6, .ref (r (11 + 1))), (7, .ref (r (11 + 0)))] [] (cW G r (su 70 s (va_cpy (s 71) (s 70) Ii Jj Nn)) l)
            refine J_iconst (v := nI 1) dX11_copy_123 (by decide) ?_
            exact J_iret dX11_copy_124 rfl rfl rfl (hq (su 70 s (va_cpy (s 71) (s 70) Ii Jj Nn)) l (nI 1, (su 2 σ (fb_put (σ 2) (fun k => σ 2 (60 * 1 + Ii + k)) (60 * 0 + Jj) Nn))) (by simp [oCopy, fnd, hsp_1, hsp_0, kcz1, eIi, eJj, eNn, hok, rng_of (show 0 < 4 by decide) (by decide), nI_clamp (show 0 < 2 ^ 31 by decide), rng_of (show 1 < 4 by decide) (by decide), nI_clamp (show 1 < 2 ^ 31 by decide)]) (ci_copy10 hC ez_1 ez_0 hz60_1 hz60_0 u2_1 u2_0 hc1 hc2))
          · have hok : cpOk (nI 1) i (nI 0) j k σ = false := hi_no ez_1 ez_0 hz60_1 hz60_0 (Or.inr kcz3)
            refine J_aload_n dX11_copy_99 rfl rfl ?_
            refine J_iconst (v := nI 2) dX11_copy_100 (by decide) ?_
            refine J_cVi (x := yX12_in) [.int (nI 2)] 0 mv_X11_230 (c_X11_found r s l 2) cW_0 rfl rfl (by decide) (Nat.le_of_ble_eq_true rfl) ⟨Nat.le_refl _, Nat.le_refl _⟩ dX11_copy_101 ?_
            show J G "copy" RX11 cX11_copy 8 (some .int) 0 0 3 Q 0 0 104 [(0, .ref (r 0)), (1, .int (nI 1)), (2, .int i), (3, .int (nI 0)), (4, .int j), (5, .int k), (6, .ref (r (11 + 1))), (7, .ref (r (11 + 0)))] [.int ((-10) - nI 2)] (cW G r (su 50 s (fun _ => nI 2)) l)
            exact J_iret dX11_copy_104 rfl rfl rfl (hq (su 50 s (fun _ => nI 2)) l ((-10) - nI 2, (su 4 σ (fun _ => nI 2))) (by simp [oCopy, fnd, hsp_1, hsp_0, kcz1, kcz2, kcz3, hok, rng_of (show 0 < 4 by decide) (by decide), nI_clamp (show 0 < 2 ^ 31 by decide), rng_of (show 1 < 4 by decide) (by decide), nI_clamp (show 1 < 2 ^ 31 by decide)]) (ci_fnd hC))
      · refine J_aload_n dX11_copy_70 rfl rfl ?_
        refine J_iconst (v := nI 4) dX11_copy_71 (by decide) ?_
        refine J_cVi (x := yX12_in) [.int (nI 4)] 0 mv_X11_230 (c_X11_found r s l 4) cW_0 rfl rfl (by decide) (Nat.le_of_ble_eq_true rfl) ⟨Nat.le_refl _, Nat.le_refl _⟩ dX11_copy_72 ?_
        show J G "copy" RX11 cX11_copy 8 (some .int) 0 0 3 Q 0 0 75 [(0, .ref (r 0)), (1, .int (nI 1)), (2, .int i), (3, .int (nI 0)), (4, .int j), (5, .int k), (6, .ref (r (11 + 1))), (7, .ref (r (11 + 0)))] [.int ((-10) - nI 4)] (cW G r (su 50 s (fun _ => nI 4)) l)
        exact J_iret dX11_copy_75 rfl rfl rfl (hq (su 50 s (fun _ => nI 4)) l ((-10) - nI 4, (su 4 σ (fun _ => nI 4))) (by simp [oCopy, fnd, hsp_1, hsp_0, kcz1, rng_of (show 0 < 4 by decide) (by decide), nI_clamp (show 0 < 2 ^ 31 by decide), rng_of (show 1 < 4 by decide) (by decide), nI_clamp (show 1 < 2 ^ 31 by decide)]) (ci_fnd hC))
theorem c_X11_copy10 {G : GT} (r : Nat → Nat) (s : St) (l : Nat → Int64) (σ : St) (hL : LI σ) (hC : CI σ s) (i j k : Int32) : Ct G yX11_copy cX11_copy 8 (some .int) 0 0 3 [.ref (r 0), .int (nI 1), .int i, .int (nI 0), .int j, .int k] (cW G r s l) (QC G r (oCopy (nI 1) i (nI 0) j k σ)) := Ct.of rfl (Nat.le_of_ble_eq_true rfl) (j_X11_copy10 r s l σ hL hC i j k (fun x lx a h1 h2 => ⟨x, lx, by rw [h1], rfl, by rw [← h1]; exact h2⟩))
set_option maxRecDepth 100000 in
set_option maxHeartbeats 1000000 in
theorem j_X11_copy11 {G : GT} (r : Nat → Nat) (s : St) (l : Nat → Int64) (σ : St) (hL : LI σ) (hC : CI σ s) (i j k : Int32) {Q : Option Value → va_W → Prop} (hq : ∀ (x : St) (lx : Nat → Int64) (a : Int32 × St), a = oCopy (nI 1) i (nI 1) j k σ → CI a.2 x → Q (some (.int a.1)) (cW G r x lx)) : J G "copy" RX11 cX11_copy 8 (some .int) 0 0 3 Q 0 0 0 [(0, .ref (r 0)), (1, .int (nI 1)), (2, .int i), (3, .int (nI 1)), (4, .int j), (5, .int k)] [] (cW G r s l) := by
  refine J_iload_n dX11_copy_0 rfl rfl ?_
  refine J_iconst (v := nI 4) dX11_copy_1 (by decide) ?_
  refine J_cSi [.int (nI 1), .int (nI 4)] ms_X11_48 (c_X11_isBelowN (cW G r s l) (nI 1) 4) rfl rfl (by decide) (Nat.le_of_ble_eq_true rfl) ⟨Nat.le_refl _, Nat.le_refl _⟩ dX11_copy_2 ?_
  refine J_if_eqB 16 dX11_copy_5 (by decide) (fun c => absurd c (by rw [(show rng (nI 1) 4 = true by decide)]; decide)) (fun _ => ?_)
  refine J_iload_n dX11_copy_8 rfl rfl ?_
  refine J_iconst (v := nI 4) dX11_copy_9 (by decide) ?_
  refine J_cSi [.int (nI 1), .int (nI 4)] ms_X11_48 (c_X11_isBelowN (cW G r s l) (nI 1) 4) rfl rfl (by decide) (Nat.le_of_ble_eq_true rfl) ⟨Nat.le_refl _, Nat.le_refl _⟩ dX11_copy_10 ?_
  refine J_if_neB 19 dX11_copy_13 (by decide) (fun _ => ?_) (fun c => absurd c (by rw [(show rng (nI 1) 4 = true by decide)]; decide))
  rcases hC.2.2.2.2.2.2.1.2.1 with ⟨u1_1, u2_1⟩ | ⟨u1_1, u2_1, u3_1, u4_1⟩
  · have hls_1 : decide (s 68 1 = -1) = true := decide_eq_true u1_1
    have hsp_1 : ¬ 0 ≤ σ 0 1 := by rw [u2_1]; decide
    refine J_aload_n dX11_copy_19 rfl rfl ?_
    refine Cg_0_4 fr_X11_39_10 dX11_copy_20 ?_
    refine J_iload_n dX11_copy_23 rfl rfl ?_
    refine Cl_10 1 rfl (by omega) dX11_copy_24 ?_
    refine J_astore [(0, .ref (r 0)), (1, .int (nI 1)), (2, .int i), (3, .int (nI 1)), (4, .int j), (5, .int k), (6, .ref (r (11 + 1)))] dX11_copy_25 (by decide) rfl rfl rfl ?_
    refine J_aload_n dX11_copy_27 rfl rfl ?_
    refine Cg_0_4 fr_X11_39_10 dX11_copy_28 ?_
    refine J_iload_n dX11_copy_31 rfl rfl ?_
    refine Cl_10 1 rfl (by omega) dX11_copy_32 ?_
    refine J_astore [(0, .ref (r 0)), (1, .int (nI 1)), (2, .int i), (3, .int (nI 1)), (4, .int j), (5, .int k), (6, .ref (r (11 + 1))), (7, .ref (r (11 + 1)))] dX11_copy_33 (by decide) rfl rfl rfl ?_
    refine J_aload dX11_copy_35 rfl ?_
    refine J_cVi (x := yX12_in) [] (11 + 1) mv_X11_227 (c_X8_isLost r s l 1 (by omega)) (cW_sh (by omega)) rfl rfl (by decide) (Nat.le_of_ble_eq_true rfl) ⟨Nat.le_refl _, Nat.le_refl _⟩ dX11_copy_37 ?_
    refine J_if_neB 51 dX11_copy_40 (by decide) (fun _ => ?_) (fun c => absurd c (by rw [hls_1]; decide))
    refine J_aload_n dX11_copy_51 rfl rfl ?_
    refine J_iconst (v := nI 1) dX11_copy_52 (by decide) ?_
    refine J_cVi (x := yX12_in) [.int (nI 1)] 0 mv_X11_230 (c_X11_found r s l 1) cW_0 rfl rfl (by decide) (Nat.le_of_ble_eq_true rfl) ⟨Nat.le_refl _, Nat.le_refl _⟩ dX11_copy_53 ?_
    show J G "copy" RX11 cX11_copy 8 (some .int) 0 0 3 Q 0 0 56 [(0, .ref (r 0)), (1, .int (nI 1)), (2, .int i), (3, .int (nI 1)), (4, .int j), (5, .int k), (6, .ref (r (11 + 1))), (7, .ref (r (11 + 1)))] [.int ((-10) - nI 1)] (cW G r (su 50 s (fun _ => nI 1)) l)
    exact J_iret dX11_copy_56 rfl rfl rfl (hq (su 50 s (fun _ => nI 1)) l ((-10) - nI 1, (su 4 σ (fun _ => nI 1))) (by simp [oCopy, fnd, hsp_1, rng_of (show 1 < 4 by decide) (by decide), nI_clamp (show 1 < 2 ^ 31 by decide)]) (ci_fnd hC))
  · obtain ⟨z_1, hz60_1, ez_1⟩ := (hL.sh (j := 1) (by decide)).2
    have hz_1 : s 68 1 = nI z_1 := u3_1.trans ez_1
    have hls_1 : decide (s 68 1 = -1) = false := decide_eq_false (by rw [hz_1]; exact fun q => m1_ne (by omega) q.symm)
    obtain ⟨fo_1, hfo_1, efo_1⟩ := (hL.sh (j := 1) (by decide)).1.resolve_left u2_1
    have hsp_1 : 0 ≤ σ 0 1 := by rw [efo_1]; exact nI_nn (by omega)
    have hit_1 : ∀ i, i < z_1 → s 71 i = σ 2 (60 * 1 + i) := u4_1 z_1 ez_1.symm hz60_1
    have ezc_1 : (σ 1 1).toNatClampNeg = z_1 := by rw [ez_1]; exact nI_clamp (by omega)
    refine J_aload_n dX11_copy_19 rfl rfl ?_
    refine Cg_0_4 fr_X11_39_10 dX11_copy_20 ?_
    refine J_iload_n dX11_copy_23 rfl rfl ?_
    refine Cl_10 1 rfl (by omega) dX11_copy_24 ?_
    refine J_astore [(0, .ref (r 0)), (1, .int (nI 1)), (2, .int i), (3, .int (nI 1)), (4, .int j), (5, .int k), (6, .ref (r (11 + 1)))] dX11_copy_25 (by decide) rfl rfl rfl ?_
    refine J_aload_n dX11_copy_27 rfl rfl ?_
    refine Cg_0_4 fr_X11_39_10 dX11_copy_28 ?_
    refine J_iload_n dX11_copy_31 rfl rfl ?_
    refine Cl_10 1 rfl (by omega) dX11_copy_32 ?_
    refine J_astore [(0, .ref (r 0)), (1, .int (nI 1)), (2, .int i), (3, .int (nI 1)), (4, .int j), (5, .int k), (6, .ref (r (11 + 1))), (7, .ref (r (11 + 1)))] dX11_copy_33 (by decide) rfl rfl rfl ?_
    refine J_aload dX11_copy_35 rfl ?_
    refine J_cVi (x := yX12_in) [] (11 + 1) mv_X11_227 (c_X8_isLost r s l 1 (by omega)) (cW_sh (by omega)) rfl rfl (by decide) (Nat.le_of_ble_eq_true rfl) ⟨Nat.le_refl _, Nat.le_refl _⟩ dX11_copy_37 ?_
    refine J_if_neB 51 dX11_copy_40 (by decide) (fun c => absurd c (by rw [hls_1]; decide)) (fun _ => ?_)
    refine J_aload dX11_copy_43 rfl ?_
    refine J_cVi (x := yX12_in) [] (11 + 1) mv_X11_227 (c_X8_isLost r s l 1 (by omega)) (cW_sh (by omega)) rfl rfl (by decide) (Nat.le_of_ble_eq_true rfl) ⟨Nat.le_refl _, Nat.le_refl _⟩ dX11_copy_45 ?_
    refine J_if_eqB 57 dX11_copy_48 (by decide) (fun _ => ?_) (fun c => absurd c (by rw [hls_1]; decide))
    refine J_aload dX11_copy_57 rfl ?_
    refine Cg_sh_1 (s := s) (by omega) fr_X11_279_7 (s 67 1) rfl dX11_copy_59 ?_
    refine J_rw (y := σ 0 1) u1_1.symm ?_
    refine J_aload dX11_copy_62 rfl ?_
    refine Cg_sh_1 (s := s) (by omega) fr_X11_279_7 (s 67 1) rfl dX11_copy_64 ?_
    refine J_rw (y := σ 0 1) u1_1.symm ?_
    refine J_icmp_eq 76 dX11_copy_67 (by decide) (fun kcz1 => ?_) (fun kcz1 => ?_)
    · refine J_aload dX11_copy_76 rfl ?_
      refine J_iload_n dX11_copy_78 rfl rfl ?_
      refine J_iload dX11_copy_79 rfl ?_
      refine J_cVi (x := yX12_in) [.int i, .int k] (11 + 1) mv_X11_282 (c_X8_hasItems r s l 1 (by decide) z_1 hz_1 hz60_1 i k) (cW_sh (by omega)) rfl rfl (by decide) (Nat.le_of_ble_eq_true rfl) ⟨Nat.le_refl _, Nat.le_refl _⟩ dX11_copy_81 ?_
      refine J_if_eqB 99 dX11_copy_84 (by decide) (fun kcz2 => ?_) (fun kcz2 => ?_)
      · have hok : cpOk (nI 1) i (nI 1) j k σ = false := hi_no ez_1 ez_1 hz60_1 hz60_1 (Or.inl kcz2)
        refine J_aload_n dX11_copy_99 rfl rfl ?_
        refine J_iconst (v := nI 2) dX11_copy_100 (by decide) ?_
        refine J_cVi (x := yX12_in) [.int (nI 2)] 0 mv_X11_230 (c_X11_found r s l 2) cW_0 rfl rfl (by decide) (Nat.le_of_ble_eq_true rfl) ⟨Nat.le_refl _, Nat.le_refl _⟩ dX11_copy_101 ?_
        show J G "copy" RX11 cX11_copy 8 (some .int) 0 0 3 Q 0 0 104 [(0, .ref (r 0)), (1, .int (nI 1)), (2, .int i), (3, .int (nI 1)), (4, .int j), (5, .int k), (6, .ref (r (11 + 1))), (7, .ref (r (11 + 1)))] [.int ((-10) - nI 2)] (cW G r (su 50 s (fun _ => nI 2)) l)
        exact J_iret dX11_copy_104 rfl rfl rfl (hq (su 50 s (fun _ => nI 2)) l ((-10) - nI 2, (su 4 σ (fun _ => nI 2))) (by simp [oCopy, fnd, hsp_1, kcz1, kcz2, hok, rng_of (show 1 < 4 by decide) (by decide), nI_clamp (show 1 < 2 ^ 31 by decide)]) (ci_fnd hC))
      · refine J_aload dX11_copy_87 rfl ?_
        refine J_iload dX11_copy_89 rfl ?_
        refine J_iload dX11_copy_91 rfl ?_
        refine J_cVi (x := yX12_in) [.int j, .int k] (11 + 1) mv_X11_282 (c_X8_hasItems r s l 1 (by decide) z_1 hz_1 hz60_1 j k) (cW_sh (by omega)) rfl rfl (by decide) (Nat.le_of_ble_eq_true rfl) ⟨Nat.le_refl _, Nat.le_refl _⟩ dX11_copy_93 ?_
        refine J_if_neB 105 dX11_copy_96 (by decide) (fun kcz3 => ?_) (fun kcz3 => ?_)
        · obtain ⟨Ii, Jj, Nn, rfl, rfl, rfl, hc1, hc2⟩ := hi_in kcz2 kcz3 hz60_1 hz60_1
          have eIi : (nI Ii).toNatClampNeg = Ii := nI_clamp (by omega)
          have eJj : (nI Jj).toNatClampNeg = Jj := nI_clamp (by omega)
          have eNn : (nI Nn).toNatClampNeg = Nn := nI_clamp (by omega)
          have hok : cpOk (nI 1) (nI Ii) (nI 1) (nI Jj) (nI Nn) σ = true := hi_cp ez_1 ez_1 hc1 hc2 hz60_1 hz60_1
          refine J_aload dX11_copy_105 rfl ?_
          refine Cg_sh_0 (by omega) fr_X11_285_7 dX11_copy_107 ?_
          refine J_iload_n dX11_copy_110 rfl rfl ?_
          refine J_aload dX11_copy_111 rfl ?_
          refine Cg_sh_0 (by omega) fr_X11_285_7 dX11_copy_113 ?_
          refine J_iload dX11_copy_116 rfl ?_
          refine J_iload dX11_copy_118 rfl ?_
          refine J_copyi (N0 := 60) (N1 := 60) ac_link ac_nat ac_stat ac_init (15 + 1) (15 + 1) (cW G r (su 71 s (va_cpy (s 71) (s 71) Ii Jj Nn)) l) (cW_si (by decide)) (cW_si (by decide)) (cI_nlt (by omega)) (cI_nlt (by omega)) (cI_nlt (by omega)) (by rw [nI_clamp (by omega), nI_clamp (by omega)]; omega) (by rw [nI_clamp (by omega), nI_clamp (by omega)]; omega) (by omega) (by decide) (by rw [nI_clamp (by omega), nI_clamp (by omega), nI_clamp (by omega)]; exact cW_set3 (by decide)) dX11_copy_120 ?_
          show J G "copy" RX11 cX11_copy 8 (some .int) 0 0 3 Q 0 0 123 [(0, .ref (r 0)), (1, .int (nI 1)), (2, .int (nI Ii)), (3, .int (nI 1)), (4, .int (nI Jj)), (5, .int (nI Nn)), (6, .ref (r (11 + 1))), (7, .ref (r (11 + 1)))] [] (cW G r (su 71 s (va_cpy (s 71) (s 71) Ii Jj Nn)) l)
          refine J_iconst (v := nI 1) dX11_copy_123 (by decide) ?_
          exact J_iret dX11_copy_124 rfl rfl rfl (hq (su 71 s (va_cpy (s 71) (s 71) Ii Jj Nn)) l (nI 1, (su 2 σ (fb_put (σ 2) (fun k => σ 2 (60 * 1 + Ii + k)) (60 * 1 + Jj) Nn))) (by simp [oCopy, fnd, hsp_1, kcz1, eIi, eJj, eNn, hok, rng_of (show 1 < 4 by decide) (by decide), nI_clamp (show 1 < 2 ^ 31 by decide)]) (ci_copy11 hC ez_1 ez_1 hz60_1 hz60_1 u2_1 u2_1 hc1 hc2))
        · have hok : cpOk (nI 1) i (nI 1) j k σ = false := hi_no ez_1 ez_1 hz60_1 hz60_1 (Or.inr kcz3)
          refine J_aload_n dX11_copy_99 rfl rfl ?_
          refine J_iconst (v := nI 2) dX11_copy_100 (by decide) ?_
          refine J_cVi (x := yX12_in) [.int (nI 2)] 0 mv_X11_230 (c_X11_found r s l 2) cW_0 rfl rfl (by decide) (Nat.le_of_ble_eq_true rfl) ⟨Nat.le_refl _, Nat.le_refl _⟩ dX11_copy_101 ?_
          show J G "copy" RX11 cX11_copy 8 (some .int) 0 0 3 Q 0 0 104 [(0, .ref (r 0)), (1, .int (nI 1)), (2, .int i), (3, .int (nI 1)), (4, .int j), (5, .int k), (6, .ref (r (11 + 1))), (7, .ref (r (11 + 1)))] [.int ((-10) - nI 2)] (cW G r (su 50 s (fun _ => nI 2)) l)
          exact J_iret dX11_copy_104 rfl rfl rfl (hq (su 50 s (fun _ => nI 2)) l ((-10) - nI 2, (su 4 σ (fun _ => nI 2))) (by simp [oCopy, fnd, hsp_1, kcz1, kcz2, kcz3, hok, rng_of (show 1 < 4 by decide) (by decide), nI_clamp (show 1 < 2 ^ 31 by decide)]) (ci_fnd hC))
    · refine J_aload_n dX11_copy_70 rfl rfl ?_
      refine J_iconst (v := nI 4) dX11_copy_71 (by decide) ?_
      refine J_cVi (x := yX12_in) [.int (nI 4)] 0 mv_X11_230 (c_X11_found r s l 4) cW_0 rfl rfl (by decide) (Nat.le_of_ble_eq_true rfl) ⟨Nat.le_refl _, Nat.le_refl _⟩ dX11_copy_72 ?_
      show J G "copy" RX11 cX11_copy 8 (some .int) 0 0 3 Q 0 0 75 [(0, .ref (r 0)), (1, .int (nI 1)), (2, .int i), (3, .int (nI 1)), (4, .int j), (5, .int k), (6, .ref (r (11 + 1))), (7, .ref (r (11 + 1)))] [.int ((-10) - nI 4)] (cW G r (su 50 s (fun _ => nI 4)) l)
      exact J_iret dX11_copy_75 rfl rfl rfl (hq (su 50 s (fun _ => nI 4)) l ((-10) - nI 4, (su 4 σ (fun _ => nI 4))) (absurd rfl kcz1) (ci_fnd hC))
theorem c_X11_copy11 {G : GT} (r : Nat → Nat) (s : St) (l : Nat → Int64) (σ : St) (hL : LI σ) (hC : CI σ s) (i j k : Int32) : Ct G yX11_copy cX11_copy 8 (some .int) 0 0 3 [.ref (r 0), .int (nI 1), .int i, .int (nI 1), .int j, .int k] (cW G r s l) (QC G r (oCopy (nI 1) i (nI 1) j k σ)) := Ct.of rfl (Nat.le_of_ble_eq_true rfl) (j_X11_copy11 r s l σ hL hC i j k (fun x lx a h1 h2 => ⟨x, lx, by rw [h1], rfl, by rw [← h1]; exact h2⟩))
set_option maxRecDepth 100000 in
set_option maxHeartbeats 1000000 in
theorem j_X11_copy12 {G : GT} (r : Nat → Nat) (s : St) (l : Nat → Int64) (σ : St) (hL : LI σ) (hC : CI σ s) (i j k : Int32) {Q : Option Value → va_W → Prop} (hq : ∀ (x : St) (lx : Nat → Int64) (a : Int32 × St), a = oCopy (nI 1) i (nI 2) j k σ → CI a.2 x → Q (some (.int a.1)) (cW G r x lx)) : J G "copy" RX11 cX11_copy 8 (some .int) 0 0 3 Q 0 0 0 [(0, .ref (r 0)), (1, .int (nI 1)), (2, .int i), (3, .int (nI 2)), (4, .int j), (5, .int k)] [] (cW G r s l) := by
  refine J_iload_n dX11_copy_0 rfl rfl ?_
  refine J_iconst (v := nI 4) dX11_copy_1 (by decide) ?_
  refine J_cSi [.int (nI 1), .int (nI 4)] ms_X11_48 (c_X11_isBelowN (cW G r s l) (nI 1) 4) rfl rfl (by decide) (Nat.le_of_ble_eq_true rfl) ⟨Nat.le_refl _, Nat.le_refl _⟩ dX11_copy_2 ?_
  refine J_if_eqB 16 dX11_copy_5 (by decide) (fun c => absurd c (by rw [(show rng (nI 1) 4 = true by decide)]; decide)) (fun _ => ?_)
  refine J_iload_n dX11_copy_8 rfl rfl ?_
  refine J_iconst (v := nI 4) dX11_copy_9 (by decide) ?_
  refine J_cSi [.int (nI 2), .int (nI 4)] ms_X11_48 (c_X11_isBelowN (cW G r s l) (nI 2) 4) rfl rfl (by decide) (Nat.le_of_ble_eq_true rfl) ⟨Nat.le_refl _, Nat.le_refl _⟩ dX11_copy_10 ?_
  refine J_if_neB 19 dX11_copy_13 (by decide) (fun _ => ?_) (fun c => absurd c (by rw [(show rng (nI 2) 4 = true by decide)]; decide))
  rcases hC.2.2.2.2.2.2.1.2.1 with ⟨u1_1, u2_1⟩ | ⟨u1_1, u2_1, u3_1, u4_1⟩
  · have hls_1 : decide (s 68 1 = -1) = true := decide_eq_true u1_1
    have hsp_1 : ¬ 0 ≤ σ 0 1 := by rw [u2_1]; decide
    rcases hC.2.2.2.2.2.2.1.2.2.1 with ⟨u1_2, u2_2⟩ | ⟨u1_2, u2_2, u3_2, u4_2⟩
    · have hls_2 : decide (s 68 2 = -1) = true := decide_eq_true u1_2
      have hsp_2 : ¬ 0 ≤ σ 0 2 := by rw [u2_2]; decide
      refine J_aload_n dX11_copy_19 rfl rfl ?_
      refine Cg_0_4 fr_X11_39_10 dX11_copy_20 ?_
      refine J_iload_n dX11_copy_23 rfl rfl ?_
      refine Cl_10 1 rfl (by omega) dX11_copy_24 ?_
      refine J_astore [(0, .ref (r 0)), (1, .int (nI 1)), (2, .int i), (3, .int (nI 2)), (4, .int j), (5, .int k), (6, .ref (r (11 + 1)))] dX11_copy_25 (by decide) rfl rfl rfl ?_
      refine J_aload_n dX11_copy_27 rfl rfl ?_
      refine Cg_0_4 fr_X11_39_10 dX11_copy_28 ?_
      refine J_iload_n dX11_copy_31 rfl rfl ?_
      refine Cl_10 2 rfl (by omega) dX11_copy_32 ?_
      refine J_astore [(0, .ref (r 0)), (1, .int (nI 1)), (2, .int i), (3, .int (nI 2)), (4, .int j), (5, .int k), (6, .ref (r (11 + 1))), (7, .ref (r (11 + 2)))] dX11_copy_33 (by decide) rfl rfl rfl ?_
      refine J_aload dX11_copy_35 rfl ?_
      refine J_cVi (x := yX12_in) [] (11 + 1) mv_X11_227 (c_X8_isLost r s l 1 (by omega)) (cW_sh (by omega)) rfl rfl (by decide) (Nat.le_of_ble_eq_true rfl) ⟨Nat.le_refl _, Nat.le_refl _⟩ dX11_copy_37 ?_
      refine J_if_neB 51 dX11_copy_40 (by decide) (fun _ => ?_) (fun c => absurd c (by rw [hls_1]; decide))
      refine J_aload_n dX11_copy_51 rfl rfl ?_
      refine J_iconst (v := nI 1) dX11_copy_52 (by decide) ?_
      refine J_cVi (x := yX12_in) [.int (nI 1)] 0 mv_X11_230 (c_X11_found r s l 1) cW_0 rfl rfl (by decide) (Nat.le_of_ble_eq_true rfl) ⟨Nat.le_refl _, Nat.le_refl _⟩ dX11_copy_53 ?_
      show J G "copy" RX11 cX11_copy 8 (some .int) 0 0 3 Q 0 0 56 [(0, .ref (r 0)), (1, .int (nI 1)), (2, .int i), (3, .int (nI 2)), (4, .int j), (5, .int k), (6, .ref (r (11 + 1))), (7, .ref (r (11 + 2)))] [.int ((-10) - nI 1)] (cW G r (su 50 s (fun _ => nI 1)) l)
      exact J_iret dX11_copy_56 rfl rfl rfl (hq (su 50 s (fun _ => nI 1)) l ((-10) - nI 1, (su 4 σ (fun _ => nI 1))) (by simp [oCopy, fnd, hsp_1, hsp_2, rng_of (show 1 < 4 by decide) (by decide), nI_clamp (show 1 < 2 ^ 31 by decide), rng_of (show 2 < 4 by decide) (by decide), nI_clamp (show 2 < 2 ^ 31 by decide)]) (ci_fnd hC))
    · obtain ⟨z_2, hz60_2, ez_2⟩ := (hL.sh (j := 2) (by decide)).2
      have hz_2 : s 68 2 = nI z_2 := u3_2.trans ez_2
      have hls_2 : decide (s 68 2 = -1) = false := decide_eq_false (by rw [hz_2]; exact fun q => m1_ne (by omega) q.symm)
      obtain ⟨fo_2, hfo_2, efo_2⟩ := (hL.sh (j := 2) (by decide)).1.resolve_left u2_2
      have hsp_2 : 0 ≤ σ 0 2 := by rw [efo_2]; exact nI_nn (by omega)
      have hit_2 : ∀ i, i < z_2 → s 72 i = σ 2 (60 * 2 + i) := u4_2 z_2 ez_2.symm hz60_2
      have ezc_2 : (σ 1 2).toNatClampNeg = z_2 := by rw [ez_2]; exact nI_clamp (by omega)
      refine J_aload_n dX11_copy_19 rfl rfl ?_
      refine Cg_0_4 fr_X11_39_10 dX11_copy_20 ?_
      refine J_iload_n dX11_copy_23 rfl rfl ?_
      refine Cl_10 1 rfl (by omega) dX11_copy_24 ?_
      refine J_astore [(0, .ref (r 0)), (1, .int (nI 1)), (2, .int i), (3, .int (nI 2)), (4, .int j), (5, .int k), (6, .ref (r (11 + 1)))] dX11_copy_25 (by decide) rfl rfl rfl ?_
      refine J_aload_n dX11_copy_27 rfl rfl ?_
      refine Cg_0_4 fr_X11_39_10 dX11_copy_28 ?_
      refine J_iload_n dX11_copy_31 rfl rfl ?_
      refine Cl_10 2 rfl (by omega) dX11_copy_32 ?_
      refine J_astore [(0, .ref (r 0)), (1, .int (nI 1)), (2, .int i), (3, .int (nI 2)), (4, .int j), (5, .int k), (6, .ref (r (11 + 1))), (7, .ref (r (11 + 2)))] dX11_copy_33 (by decide) rfl rfl rfl ?_
      refine J_aload dX11_copy_35 rfl ?_
      refine J_cVi (x := yX12_in) [] (11 + 1) mv_X11_227 (c_X8_isLost r s l 1 (by omega)) (cW_sh (by omega)) rfl rfl (by decide) (Nat.le_of_ble_eq_true rfl) ⟨Nat.le_refl _, Nat.le_refl _⟩ dX11_copy_37 ?_
      refine J_if_neB 51 dX11_copy_40 (by decide) (fun _ => ?_) (fun c => absurd c (by rw [hls_1]; decide))
      refine J_aload_n dX11_copy_51 rfl rfl ?_
      refine J_iconst (v := nI 1) dX11_copy_52 (by decide) ?_
      refine J_cVi (x := yX12_in) [.int (nI 1)] 0 mv_X11_230 (c_X11_found r s l 1) cW_0 rfl rfl (by decide) (Nat.le_of_ble_eq_true rfl) ⟨Nat.le_refl _, Nat.le_refl _⟩ dX11_copy_53 ?_
      show J G "copy" RX11 cX11_copy 8 (some .int) 0 0 3 Q 0 0 56 [(0, .ref (r 0)), (1, .int (nI 1)), (2, .int i), (3, .int (nI 2)), (4, .int j), (5, .int k), (6, .ref (r (11 + 1))), (7, .ref (r (11 + 2)))] [.int ((-10) - nI 1)] (cW G r (su 50 s (fun _ => nI 1)) l)
      exact J_iret dX11_copy_56 rfl rfl rfl (hq (su 50 s (fun _ => nI 1)) l ((-10) - nI 1, (su 4 σ (fun _ => nI 1))) (by simp [oCopy, fnd, hsp_1, hsp_2, rng_of (show 1 < 4 by decide) (by decide), nI_clamp (show 1 < 2 ^ 31 by decide), rng_of (show 2 < 4 by decide) (by decide), nI_clamp (show 2 < 2 ^ 31 by decide)]) (ci_fnd hC))
  · obtain ⟨z_1, hz60_1, ez_1⟩ := (hL.sh (j := 1) (by decide)).2
    have hz_1 : s 68 1 = nI z_1 := u3_1.trans ez_1
    have hls_1 : decide (s 68 1 = -1) = false := decide_eq_false (by rw [hz_1]; exact fun q => m1_ne (by omega) q.symm)
    obtain ⟨fo_1, hfo_1, efo_1⟩ := (hL.sh (j := 1) (by decide)).1.resolve_left u2_1
    have hsp_1 : 0 ≤ σ 0 1 := by rw [efo_1]; exact nI_nn (by omega)
    have hit_1 : ∀ i, i < z_1 → s 71 i = σ 2 (60 * 1 + i) := u4_1 z_1 ez_1.symm hz60_1
    have ezc_1 : (σ 1 1).toNatClampNeg = z_1 := by rw [ez_1]; exact nI_clamp (by omega)
    rcases hC.2.2.2.2.2.2.1.2.2.1 with ⟨u1_2, u2_2⟩ | ⟨u1_2, u2_2, u3_2, u4_2⟩
    · have hls_2 : decide (s 68 2 = -1) = true := decide_eq_true u1_2
      have hsp_2 : ¬ 0 ≤ σ 0 2 := by rw [u2_2]; decide
      refine J_aload_n dX11_copy_19 rfl rfl ?_
      refine Cg_0_4 fr_X11_39_10 dX11_copy_20 ?_
      refine J_iload_n dX11_copy_23 rfl rfl ?_
      refine Cl_10 1 rfl (by omega) dX11_copy_24 ?_
      refine J_astore [(0, .ref (r 0)), (1, .int (nI 1)), (2, .int i), (3, .int (nI 2)), (4, .int j), (5, .int k), (6, .ref (r (11 + 1)))] dX11_copy_25 (by decide) rfl rfl rfl ?_
      refine J_aload_n dX11_copy_27 rfl rfl ?_
      refine Cg_0_4 fr_X11_39_10 dX11_copy_28 ?_
      refine J_iload_n dX11_copy_31 rfl rfl ?_
      refine Cl_10 2 rfl (by omega) dX11_copy_32 ?_
      refine J_astore [(0, .ref (r 0)), (1, .int (nI 1)), (2, .int i), (3, .int (nI 2)), (4, .int j), (5, .int k), (6, .ref (r (11 + 1))), (7, .ref (r (11 + 2)))] dX11_copy_33 (by decide) rfl rfl rfl ?_
      refine J_aload dX11_copy_35 rfl ?_
      refine J_cVi (x := yX12_in) [] (11 + 1) mv_X11_227 (c_X8_isLost r s l 1 (by omega)) (cW_sh (by omega)) rfl rfl (by decide) (Nat.le_of_ble_eq_true rfl) ⟨Nat.le_refl _, Nat.le_refl _⟩ dX11_copy_37 ?_
      refine J_if_neB 51 dX11_copy_40 (by decide) (fun c => absurd c (by rw [hls_1]; decide)) (fun _ => ?_)
      refine J_aload dX11_copy_43 rfl ?_
      refine J_cVi (x := yX12_in) [] (11 + 2) mv_X11_227 (c_X8_isLost r s l 2 (by omega)) (cW_sh (by omega)) rfl rfl (by decide) (Nat.le_of_ble_eq_true rfl) ⟨Nat.le_refl _, Nat.le_refl _⟩ dX11_copy_45 ?_
      refine J_if_eqB 57 dX11_copy_48 (by decide) (fun c => absurd c (by rw [hls_2]; decide)) (fun _ => ?_)
      refine J_aload_n dX11_copy_51 rfl rfl ?_
      refine J_iconst (v := nI 1) dX11_copy_52 (by decide) ?_
      refine J_cVi (x := yX12_in) [.int (nI 1)] 0 mv_X11_230 (c_X11_found r s l 1) cW_0 rfl rfl (by decide) (Nat.le_of_ble_eq_true rfl) ⟨Nat.le_refl _, Nat.le_refl _⟩ dX11_copy_53 ?_
      show J G "copy" RX11 cX11_copy 8 (some .int) 0 0 3 Q 0 0 56 [(0, .ref (r 0)), (1, .int (nI 1)), (2, .int i), (3, .int (nI 2)), (4, .int j), (5, .int k), (6, .ref (r (11 + 1))), (7, .ref (r (11 + 2)))] [.int ((-10) - nI 1)] (cW G r (su 50 s (fun _ => nI 1)) l)
      exact J_iret dX11_copy_56 rfl rfl rfl (hq (su 50 s (fun _ => nI 1)) l ((-10) - nI 1, (su 4 σ (fun _ => nI 1))) (by simp [oCopy, fnd, hsp_1, hsp_2, rng_of (show 1 < 4 by decide) (by decide), nI_clamp (show 1 < 2 ^ 31 by decide), rng_of (show 2 < 4 by decide) (by decide), nI_clamp (show 2 < 2 ^ 31 by decide)]) (ci_fnd hC))
    · obtain ⟨z_2, hz60_2, ez_2⟩ := (hL.sh (j := 2) (by decide)).2
      have hz_2 : s 68 2 = nI z_2 := u3_2.trans ez_2
      have hls_2 : decide (s 68 2 = -1) = false := decide_eq_false (by rw [hz_2]; exact fun q => m1_ne (by omega) q.symm)
      obtain ⟨fo_2, hfo_2, efo_2⟩ := (hL.sh (j := 2) (by decide)).1.resolve_left u2_2
      have hsp_2 : 0 ≤ σ 0 2 := by rw [efo_2]; exact nI_nn (by omega)
      have hit_2 : ∀ i, i < z_2 → s 72 i = σ 2 (60 * 2 + i) := u4_2 z_2 ez_2.symm hz60_2
      have ezc_2 : (σ 1 2).toNatClampNeg = z_2 := by rw [ez_2]; exact nI_clamp (by omega)
      refine J_aload_n dX11_copy_19 rfl rfl ?_
      refine Cg_0_4 fr_X11_39_10 dX11_copy_20 ?_
      refine J_iload_n dX11_copy_23 rfl rfl ?_
      refine Cl_10 1 rfl (by omega) dX11_copy_24 ?_
      refine J_astore [(0, .ref (r 0)), (1, .int (nI 1)), (2, .int i), (3, .int (nI 2)), (4, .int j), (5, .int k), (6, .ref (r (11 + 1)))] dX11_copy_25 (by decide) rfl rfl rfl ?_
      refine J_aload_n dX11_copy_27 rfl rfl ?_
      refine Cg_0_4 fr_X11_39_10 dX11_copy_28 ?_
      refine J_iload_n dX11_copy_31 rfl rfl ?_
      refine Cl_10 2 rfl (by omega) dX11_copy_32 ?_
      refine J_astore [(0, .ref (r 0)), (1, .int (nI 1)), (2, .int i), (3, .int (nI 2)), (4, .int j), (5, .int k), (6, .ref (r (11 + 1))), (7, .ref (r (11 + 2)))] dX11_copy_33 (by decide) rfl rfl rfl ?_
      refine J_aload dX11_copy_35 rfl ?_
      refine J_cVi (x := yX12_in) [] (11 + 1) mv_X11_227 (c_X8_isLost r s l 1 (by omega)) (cW_sh (by omega)) rfl rfl (by decide) (Nat.le_of_ble_eq_true rfl) ⟨Nat.le_refl _, Nat.le_refl _⟩ dX11_copy_37 ?_
      refine J_if_neB 51 dX11_copy_40 (by decide) (fun c => absurd c (by rw [hls_1]; decide)) (fun _ => ?_)
      refine J_aload dX11_copy_43 rfl ?_
      refine J_cVi (x := yX12_in) [] (11 + 2) mv_X11_227 (c_X8_isLost r s l 2 (by omega)) (cW_sh (by omega)) rfl rfl (by decide) (Nat.le_of_ble_eq_true rfl) ⟨Nat.le_refl _, Nat.le_refl _⟩ dX11_copy_45 ?_
      refine J_if_eqB 57 dX11_copy_48 (by decide) (fun _ => ?_) (fun c => absurd c (by rw [hls_2]; decide))
      refine J_aload dX11_copy_57 rfl ?_
      refine Cg_sh_1 (s := s) (by omega) fr_X11_279_7 (s 67 1) rfl dX11_copy_59 ?_
      refine J_rw (y := σ 0 1) u1_1.symm ?_
      refine J_aload dX11_copy_62 rfl ?_
      refine Cg_sh_1 (s := s) (by omega) fr_X11_279_7 (s 67 2) rfl dX11_copy_64 ?_
      refine J_rw (y := σ 0 2) u1_2.symm ?_
      refine J_icmp_eq 76 dX11_copy_67 (by decide) (fun kcz1 => ?_) (fun kcz1 => ?_)
      · refine J_aload dX11_copy_76 rfl ?_
        refine J_iload_n dX11_copy_78 rfl rfl ?_
        refine J_iload dX11_copy_79 rfl ?_
        refine J_cVi (x := yX12_in) [.int i, .int k] (11 + 1) mv_X11_282 (c_X8_hasItems r s l 1 (by decide) z_1 hz_1 hz60_1 i k) (cW_sh (by omega)) rfl rfl (by decide) (Nat.le_of_ble_eq_true rfl) ⟨Nat.le_refl _, Nat.le_refl _⟩ dX11_copy_81 ?_
        refine J_if_eqB 99 dX11_copy_84 (by decide) (fun kcz2 => ?_) (fun kcz2 => ?_)
        · have hok : cpOk (nI 1) i (nI 2) j k σ = false := hi_no ez_1 ez_2 hz60_1 hz60_2 (Or.inl kcz2)
          refine J_aload_n dX11_copy_99 rfl rfl ?_
          refine J_iconst (v := nI 2) dX11_copy_100 (by decide) ?_
          refine J_cVi (x := yX12_in) [.int (nI 2)] 0 mv_X11_230 (c_X11_found r s l 2) cW_0 rfl rfl (by decide) (Nat.le_of_ble_eq_true rfl) ⟨Nat.le_refl _, Nat.le_refl _⟩ dX11_copy_101 ?_
          show J G "copy" RX11 cX11_copy 8 (some .int) 0 0 3 Q 0 0 104 [(0, .ref (r 0)), (1, .int (nI 1)), (2, .int i), (3, .int (nI 2)), (4, .int j), (5, .int k), (6, .ref (r (11 + 1))), (7, .ref (r (11 + 2)))] [.int ((-10) - nI 2)] (cW G r (su 50 s (fun _ => nI 2)) l)
          exact J_iret dX11_copy_104 rfl rfl rfl (hq (su 50 s (fun _ => nI 2)) l ((-10) - nI 2, (su 4 σ (fun _ => nI 2))) (by simp [oCopy, fnd, hsp_1, hsp_2, kcz1, kcz2, hok, rng_of (show 1 < 4 by decide) (by decide), nI_clamp (show 1 < 2 ^ 31 by decide), rng_of (show 2 < 4 by decide) (by decide), nI_clamp (show 2 < 2 ^ 31 by decide)]) (ci_fnd hC))
        · refine J_aload dX11_copy_87 rfl ?_
          refine J_iload dX11_copy_89 rfl ?_
          refine J_iload dX11_copy_91 rfl ?_
          refine J_cVi (x := yX12_in) [.int j, .int k] (11 + 2) mv_X11_282 (c_X8_hasItems r s l 2 (by decide) z_2 hz_2 hz60_2 j k) (cW_sh (by omega)) rfl rfl (by decide) (Nat.le_of_ble_eq_true rfl) ⟨Nat.le_refl _, Nat.le_refl _⟩ dX11_copy_93 ?_
          refine J_if_neB 105 dX11_copy_96 (by decide) (fun kcz3 => ?_) (fun kcz3 => ?_)
          · obtain ⟨Ii, Jj, Nn, rfl, rfl, rfl, hc1, hc2⟩ := hi_in kcz2 kcz3 hz60_1 hz60_2
            have eIi : (nI Ii).toNatClampNeg = Ii := nI_clamp (by omega)
            have eJj : (nI Jj).toNatClampNeg = Jj := nI_clamp (by omega)
            have eNn : (nI Nn).toNatClampNeg = Nn := nI_clamp (by omega)
            have hok : cpOk (nI 1) (nI Ii) (nI 2) (nI Jj) (nI Nn) σ = true := hi_cp ez_1 ez_2 hc1 hc2 hz60_1 hz60_2
            refine J_aload dX11_copy_105 rfl ?_
            refine Cg_sh_0 (by omega) fr_X11_285_7 dX11_copy_107 ?_
            refine J_iload_n dX11_copy_110 rfl rfl ?_
            refine J_aload dX11_copy_111 rfl ?_
            refine Cg_sh_0 (by omega) fr_X11_285_7 dX11_copy_113 ?_
            refine J_iload dX11_copy_116 rfl ?_
            refine J_iload dX11_copy_118 rfl ?_
            refine J_copyi (N0 := 60) (N1 := 60) ac_link ac_nat ac_stat ac_init (15 + 1) (15 + 2) (cW G r (su 72 s (va_cpy (s 71) (s 72) Ii Jj Nn)) l) (cW_si (by decide)) (cW_si (by decide)) (cI_nlt (by omega)) (cI_nlt (by omega)) (cI_nlt (by omega)) (by rw [nI_clamp (by omega), nI_clamp (by omega)]; omega) (by rw [nI_clamp (by omega), nI_clamp (by omega)]; omega) (by omega) (by decide) (by rw [nI_clamp (by omega), nI_clamp (by omega), nI_clamp (by omega)]; exact cW_set3 (by decide)) dX11_copy_120 ?_
            show J G "copy" RX11 cX11_copy 8 (some .int) 0 0 3 Q 0 0 123 [(0, .ref (r 0)), (1, .int (nI 1)), (2, .int (nI Ii)), (3, .int (nI 2)), (4, .int (nI Jj)), (5, .int (nI Nn)), (6, .ref (r (11 + 1))), (7, .ref (r (11 + 2)))] [] (cW G r (su 72 s (va_cpy (s 71) (s 72) Ii Jj Nn)) l)
            refine J_iconst (v := nI 1) dX11_copy_123 (by decide) ?_
            exact J_iret dX11_copy_124 rfl rfl rfl (hq (su 72 s (va_cpy (s 71) (s 72) Ii Jj Nn)) l (nI 1, (su 2 σ (fb_put (σ 2) (fun k => σ 2 (60 * 1 + Ii + k)) (60 * 2 + Jj) Nn))) (by simp [oCopy, fnd, hsp_1, hsp_2, kcz1, eIi, eJj, eNn, hok, rng_of (show 1 < 4 by decide) (by decide), nI_clamp (show 1 < 2 ^ 31 by decide), rng_of (show 2 < 4 by decide) (by decide), nI_clamp (show 2 < 2 ^ 31 by decide)]) (ci_copy12 hC ez_1 ez_2 hz60_1 hz60_2 u2_1 u2_2 hc1 hc2))
          · have hok : cpOk (nI 1) i (nI 2) j k σ = false := hi_no ez_1 ez_2 hz60_1 hz60_2 (Or.inr kcz3)
            refine J_aload_n dX11_copy_99 rfl rfl ?_
            refine J_iconst (v := nI 2) dX11_copy_100 (by decide) ?_
            refine J_cVi (x := yX12_in) [.int (nI 2)] 0 mv_X11_230 (c_X11_found r s l 2) cW_0 rfl rfl (by decide) (Nat.le_of_ble_eq_true rfl) ⟨Nat.le_refl _, Nat.le_refl _⟩ dX11_copy_101 ?_
            show J G "copy" RX11 cX11_copy 8 (some .int) 0 0 3 Q 0 0 104 [(0, .ref (r 0)), (1, .int (nI 1)), (2, .int i), (3, .int (nI 2)), (4, .int j), (5, .int k), (6, .ref (r (11 + 1))), (7, .ref (r (11 + 2)))] [.int ((-10) - nI 2)] (cW G r (su 50 s (fun _ => nI 2)) l)
            exact J_iret dX11_copy_104 rfl rfl rfl (hq (su 50 s (fun _ => nI 2)) l ((-10) - nI 2, (su 4 σ (fun _ => nI 2))) (by simp [oCopy, fnd, hsp_1, hsp_2, kcz1, kcz2, kcz3, hok, rng_of (show 1 < 4 by decide) (by decide), nI_clamp (show 1 < 2 ^ 31 by decide), rng_of (show 2 < 4 by decide) (by decide), nI_clamp (show 2 < 2 ^ 31 by decide)]) (ci_fnd hC))
      · refine J_aload_n dX11_copy_70 rfl rfl ?_
        refine J_iconst (v := nI 4) dX11_copy_71 (by decide) ?_
        refine J_cVi (x := yX12_in) [.int (nI 4)] 0 mv_X11_230 (c_X11_found r s l 4) cW_0 rfl rfl (by decide) (Nat.le_of_ble_eq_true rfl) ⟨Nat.le_refl _, Nat.le_refl _⟩ dX11_copy_72 ?_
        show J G "copy" RX11 cX11_copy 8 (some .int) 0 0 3 Q 0 0 75 [(0, .ref (r 0)), (1, .int (nI 1)), (2, .int i), (3, .int (nI 2)), (4, .int j), (5, .int k), (6, .ref (r (11 + 1))), (7, .ref (r (11 + 2)))] [.int ((-10) - nI 4)] (cW G r (su 50 s (fun _ => nI 4)) l)
        exact J_iret dX11_copy_75 rfl rfl rfl (hq (su 50 s (fun _ => nI 4)) l ((-10) - nI 4, (su 4 σ (fun _ => nI 4))) (by simp [oCopy, fnd, hsp_1, hsp_2, kcz1, rng_of (show 1 < 4 by decide) (by decide), nI_clamp (show 1 < 2 ^ 31 by decide), rng_of (show 2 < 4 by decide) (by decide), nI_clamp (show 2 < 2 ^ 31 by decide)]) (ci_fnd hC))
theorem c_X11_copy12 {G : GT} (r : Nat → Nat) (s : St) (l : Nat → Int64) (σ : St) (hL : LI σ) (hC : CI σ s) (i j k : Int32) : Ct G yX11_copy cX11_copy 8 (some .int) 0 0 3 [.ref (r 0), .int (nI 1), .int i, .int (nI 2), .int j, .int k] (cW G r s l) (QC G r (oCopy (nI 1) i (nI 2) j k σ)) := Ct.of rfl (Nat.le_of_ble_eq_true rfl) (j_X11_copy12 r s l σ hL hC i j k (fun x lx a h1 h2 => ⟨x, lx, by rw [h1], rfl, by rw [← h1]; exact h2⟩))
set_option maxRecDepth 100000 in
set_option maxHeartbeats 1000000 in
theorem j_X11_copy13 {G : GT} (r : Nat → Nat) (s : St) (l : Nat → Int64) (σ : St) (hL : LI σ) (hC : CI σ s) (i j k : Int32) {Q : Option Value → va_W → Prop} (hq : ∀ (x : St) (lx : Nat → Int64) (a : Int32 × St), a = oCopy (nI 1) i (nI 3) j k σ → CI a.2 x → Q (some (.int a.1)) (cW G r x lx)) : J G "copy" RX11 cX11_copy 8 (some .int) 0 0 3 Q 0 0 0 [(0, .ref (r 0)), (1, .int (nI 1)), (2, .int i), (3, .int (nI 3)), (4, .int j), (5, .int k)] [] (cW G r s l) := by
  refine J_iload_n dX11_copy_0 rfl rfl ?_
  refine J_iconst (v := nI 4) dX11_copy_1 (by decide) ?_
  refine J_cSi [.int (nI 1), .int (nI 4)] ms_X11_48 (c_X11_isBelowN (cW G r s l) (nI 1) 4) rfl rfl (by decide) (Nat.le_of_ble_eq_true rfl) ⟨Nat.le_refl _, Nat.le_refl _⟩ dX11_copy_2 ?_
  refine J_if_eqB 16 dX11_copy_5 (by decide) (fun c => absurd c (by rw [(show rng (nI 1) 4 = true by decide)]; decide)) (fun _ => ?_)
  refine J_iload_n dX11_copy_8 rfl rfl ?_
  refine J_iconst (v := nI 4) dX11_copy_9 (by decide) ?_
  refine J_cSi [.int (nI 3), .int (nI 4)] ms_X11_48 (c_X11_isBelowN (cW G r s l) (nI 3) 4) rfl rfl (by decide) (Nat.le_of_ble_eq_true rfl) ⟨Nat.le_refl _, Nat.le_refl _⟩ dX11_copy_10 ?_
  refine J_if_neB 19 dX11_copy_13 (by decide) (fun _ => ?_) (fun c => absurd c (by rw [(show rng (nI 3) 4 = true by decide)]; decide))
  rcases hC.2.2.2.2.2.2.1.2.1 with ⟨u1_1, u2_1⟩ | ⟨u1_1, u2_1, u3_1, u4_1⟩
  · have hls_1 : decide (s 68 1 = -1) = true := decide_eq_true u1_1
    have hsp_1 : ¬ 0 ≤ σ 0 1 := by rw [u2_1]; decide
    rcases hC.2.2.2.2.2.2.1.2.2.2 with ⟨u1_3, u2_3⟩ | ⟨u1_3, u2_3, u3_3, u4_3⟩
    · have hls_3 : decide (s 68 3 = -1) = true := decide_eq_true u1_3
      have hsp_3 : ¬ 0 ≤ σ 0 3 := by rw [u2_3]; decide
      refine J_aload_n dX11_copy_19 rfl rfl ?_
      refine Cg_0_4 fr_X11_39_10 dX11_copy_20 ?_
      refine J_iload_n dX11_copy_23 rfl rfl ?_
      refine Cl_10 1 rfl (by omega) dX11_copy_24 ?_
      refine J_astore [(0, .ref (r 0)), (1, .int (nI 1)), (2, .int i), (3, .int (nI 3)), (4, .int j), (5, .int k), (6, .ref (r (11 + 1)))] dX11_copy_25 (by decide) rfl rfl rfl ?_
      refine J_aload_n dX11_copy_27 rfl rfl ?_
      refine Cg_0_4 fr_X11_39_10 dX11_copy_28 ?_
      refine J_iload_n dX11_copy_31 rfl rfl ?_
      refine Cl_10 3 rfl (by omega) dX11_copy_32 ?_
      refine J_astore [(0, .ref (r 0)), (1, .int (nI 1)), (2, .int i), (3, .int (nI 3)), (4, .int j), (5, .int k), (6, .ref (r (11 + 1))), (7, .ref (r (11 + 3)))] dX11_copy_33 (by decide) rfl rfl rfl ?_
      refine J_aload dX11_copy_35 rfl ?_
      refine J_cVi (x := yX12_in) [] (11 + 1) mv_X11_227 (c_X8_isLost r s l 1 (by omega)) (cW_sh (by omega)) rfl rfl (by decide) (Nat.le_of_ble_eq_true rfl) ⟨Nat.le_refl _, Nat.le_refl _⟩ dX11_copy_37 ?_
      refine J_if_neB 51 dX11_copy_40 (by decide) (fun _ => ?_) (fun c => absurd c (by rw [hls_1]; decide))
      refine J_aload_n dX11_copy_51 rfl rfl ?_
      refine J_iconst (v := nI 1) dX11_copy_52 (by decide) ?_
      refine J_cVi (x := yX12_in) [.int (nI 1)] 0 mv_X11_230 (c_X11_found r s l 1) cW_0 rfl rfl (by decide) (Nat.le_of_ble_eq_true rfl) ⟨Nat.le_refl _, Nat.le_refl _⟩ dX11_copy_53 ?_
      show J G "copy" RX11 cX11_copy 8 (some .int) 0 0 3 Q 0 0 56 [(0, .ref (r 0)), (1, .int (nI 1)), (2, .int i), (3, .int (nI 3)), (4, .int j), (5, .int k), (6, .ref (r (11 + 1))), (7, .ref (r (11 + 3)))] [.int ((-10) - nI 1)] (cW G r (su 50 s (fun _ => nI 1)) l)
      exact J_iret dX11_copy_56 rfl rfl rfl (hq (su 50 s (fun _ => nI 1)) l ((-10) - nI 1, (su 4 σ (fun _ => nI 1))) (by simp [oCopy, fnd, hsp_1, hsp_3, rng_of (show 1 < 4 by decide) (by decide), nI_clamp (show 1 < 2 ^ 31 by decide), rng_of (show 3 < 4 by decide) (by decide), nI_clamp (show 3 < 2 ^ 31 by decide)]) (ci_fnd hC))
    · obtain ⟨z_3, hz60_3, ez_3⟩ := (hL.sh (j := 3) (by decide)).2
      have hz_3 : s 68 3 = nI z_3 := u3_3.trans ez_3
      have hls_3 : decide (s 68 3 = -1) = false := decide_eq_false (by rw [hz_3]; exact fun q => m1_ne (by omega) q.symm)
      obtain ⟨fo_3, hfo_3, efo_3⟩ := (hL.sh (j := 3) (by decide)).1.resolve_left u2_3
      have hsp_3 : 0 ≤ σ 0 3 := by rw [efo_3]; exact nI_nn (by omega)
      have hit_3 : ∀ i, i < z_3 → s 73 i = σ 2 (60 * 3 + i) := u4_3 z_3 ez_3.symm hz60_3
      have ezc_3 : (σ 1 3).toNatClampNeg = z_3 := by rw [ez_3]; exact nI_clamp (by omega)
      refine J_aload_n dX11_copy_19 rfl rfl ?_
      refine Cg_0_4 fr_X11_39_10 dX11_copy_20 ?_
      refine J_iload_n dX11_copy_23 rfl rfl ?_
      refine Cl_10 1 rfl (by omega) dX11_copy_24 ?_
      refine J_astore [(0, .ref (r 0)), (1, .int (nI 1)), (2, .int i), (3, .int (nI 3)), (4, .int j), (5, .int k), (6, .ref (r (11 + 1)))] dX11_copy_25 (by decide) rfl rfl rfl ?_
      refine J_aload_n dX11_copy_27 rfl rfl ?_
      refine Cg_0_4 fr_X11_39_10 dX11_copy_28 ?_
      refine J_iload_n dX11_copy_31 rfl rfl ?_
      refine Cl_10 3 rfl (by omega) dX11_copy_32 ?_
      refine J_astore [(0, .ref (r 0)), (1, .int (nI 1)), (2, .int i), (3, .int (nI 3)), (4, .int j), (5, .int k), (6, .ref (r (11 + 1))), (7, .ref (r (11 + 3)))] dX11_copy_33 (by decide) rfl rfl rfl ?_
      refine J_aload dX11_copy_35 rfl ?_
      refine J_cVi (x := yX12_in) [] (11 + 1) mv_X11_227 (c_X8_isLost r s l 1 (by omega)) (cW_sh (by omega)) rfl rfl (by decide) (Nat.le_of_ble_eq_true rfl) ⟨Nat.le_refl _, Nat.le_refl _⟩ dX11_copy_37 ?_
      refine J_if_neB 51 dX11_copy_40 (by decide) (fun _ => ?_) (fun c => absurd c (by rw [hls_1]; decide))
      refine J_aload_n dX11_copy_51 rfl rfl ?_
      refine J_iconst (v := nI 1) dX11_copy_52 (by decide) ?_
      refine J_cVi (x := yX12_in) [.int (nI 1)] 0 mv_X11_230 (c_X11_found r s l 1) cW_0 rfl rfl (by decide) (Nat.le_of_ble_eq_true rfl) ⟨Nat.le_refl _, Nat.le_refl _⟩ dX11_copy_53 ?_
      show J G "copy" RX11 cX11_copy 8 (some .int) 0 0 3 Q 0 0 56 [(0, .ref (r 0)), (1, .int (nI 1)), (2, .int i), (3, .int (nI 3)), (4, .int j), (5, .int k), (6, .ref (r (11 + 1))), (7, .ref (r (11 + 3)))] [.int ((-10) - nI 1)] (cW G r (su 50 s (fun _ => nI 1)) l)
      exact J_iret dX11_copy_56 rfl rfl rfl (hq (su 50 s (fun _ => nI 1)) l ((-10) - nI 1, (su 4 σ (fun _ => nI 1))) (by simp [oCopy, fnd, hsp_1, hsp_3, rng_of (show 1 < 4 by decide) (by decide), nI_clamp (show 1 < 2 ^ 31 by decide), rng_of (show 3 < 4 by decide) (by decide), nI_clamp (show 3 < 2 ^ 31 by decide)]) (ci_fnd hC))
  · obtain ⟨z_1, hz60_1, ez_1⟩ := (hL.sh (j := 1) (by decide)).2
    have hz_1 : s 68 1 = nI z_1 := u3_1.trans ez_1
    have hls_1 : decide (s 68 1 = -1) = false := decide_eq_false (by rw [hz_1]; exact fun q => m1_ne (by omega) q.symm)
    obtain ⟨fo_1, hfo_1, efo_1⟩ := (hL.sh (j := 1) (by decide)).1.resolve_left u2_1
    have hsp_1 : 0 ≤ σ 0 1 := by rw [efo_1]; exact nI_nn (by omega)
    have hit_1 : ∀ i, i < z_1 → s 71 i = σ 2 (60 * 1 + i) := u4_1 z_1 ez_1.symm hz60_1
    have ezc_1 : (σ 1 1).toNatClampNeg = z_1 := by rw [ez_1]; exact nI_clamp (by omega)
    rcases hC.2.2.2.2.2.2.1.2.2.2 with ⟨u1_3, u2_3⟩ | ⟨u1_3, u2_3, u3_3, u4_3⟩
    · have hls_3 : decide (s 68 3 = -1) = true := decide_eq_true u1_3
      have hsp_3 : ¬ 0 ≤ σ 0 3 := by rw [u2_3]; decide
      refine J_aload_n dX11_copy_19 rfl rfl ?_
      refine Cg_0_4 fr_X11_39_10 dX11_copy_20 ?_
      refine J_iload_n dX11_copy_23 rfl rfl ?_
      refine Cl_10 1 rfl (by omega) dX11_copy_24 ?_
      refine J_astore [(0, .ref (r 0)), (1, .int (nI 1)), (2, .int i), (3, .int (nI 3)), (4, .int j), (5, .int k), (6, .ref (r (11 + 1)))] dX11_copy_25 (by decide) rfl rfl rfl ?_
      refine J_aload_n dX11_copy_27 rfl rfl ?_
      refine Cg_0_4 fr_X11_39_10 dX11_copy_28 ?_
      refine J_iload_n dX11_copy_31 rfl rfl ?_
      refine Cl_10 3 rfl (by omega) dX11_copy_32 ?_
      refine J_astore [(0, .ref (r 0)), (1, .int (nI 1)), (2, .int i), (3, .int (nI 3)), (4, .int j), (5, .int k), (6, .ref (r (11 + 1))), (7, .ref (r (11 + 3)))] dX11_copy_33 (by decide) rfl rfl rfl ?_
      refine J_aload dX11_copy_35 rfl ?_
      refine J_cVi (x := yX12_in) [] (11 + 1) mv_X11_227 (c_X8_isLost r s l 1 (by omega)) (cW_sh (by omega)) rfl rfl (by decide) (Nat.le_of_ble_eq_true rfl) ⟨Nat.le_refl _, Nat.le_refl _⟩ dX11_copy_37 ?_
      refine J_if_neB 51 dX11_copy_40 (by decide) (fun c => absurd c (by rw [hls_1]; decide)) (fun _ => ?_)
      refine J_aload dX11_copy_43 rfl ?_
      refine J_cVi (x := yX12_in) [] (11 + 3) mv_X11_227 (c_X8_isLost r s l 3 (by omega)) (cW_sh (by omega)) rfl rfl (by decide) (Nat.le_of_ble_eq_true rfl) ⟨Nat.le_refl _, Nat.le_refl _⟩ dX11_copy_45 ?_
      refine J_if_eqB 57 dX11_copy_48 (by decide) (fun c => absurd c (by rw [hls_3]; decide)) (fun _ => ?_)
      refine J_aload_n dX11_copy_51 rfl rfl ?_
      refine J_iconst (v := nI 1) dX11_copy_52 (by decide) ?_
      refine J_cVi (x := yX12_in) [.int (nI 1)] 0 mv_X11_230 (c_X11_found r s l 1) cW_0 rfl rfl (by decide) (Nat.le_of_ble_eq_true rfl) ⟨Nat.le_refl _, Nat.le_refl _⟩ dX11_copy_53 ?_
      show J G "copy" RX11 cX11_copy 8 (some .int) 0 0 3 Q 0 0 56 [(0, .ref (r 0)), (1, .int (nI 1)), (2, .int i), (3, .int (nI 3)), (4, .int j), (5, .int k), (6, .ref (r (11 + 1))), (7, .ref (r (11 + 3)))] [.int ((-10) - nI 1)] (cW G r (su 50 s (fun _ => nI 1)) l)
      exact J_iret dX11_copy_56 rfl rfl rfl (hq (su 50 s (fun _ => nI 1)) l ((-10) - nI 1, (su 4 σ (fun _ => nI 1))) (by simp [oCopy, fnd, hsp_1, hsp_3, rng_of (show 1 < 4 by decide) (by decide), nI_clamp (show 1 < 2 ^ 31 by decide), rng_of (show 3 < 4 by decide) (by decide), nI_clamp (show 3 < 2 ^ 31 by decide)]) (ci_fnd hC))
    · obtain ⟨z_3, hz60_3, ez_3⟩ := (hL.sh (j := 3) (by decide)).2
      have hz_3 : s 68 3 = nI z_3 := u3_3.trans ez_3
      have hls_3 : decide (s 68 3 = -1) = false := decide_eq_false (by rw [hz_3]; exact fun q => m1_ne (by omega) q.symm)
      obtain ⟨fo_3, hfo_3, efo_3⟩ := (hL.sh (j := 3) (by decide)).1.resolve_left u2_3
      have hsp_3 : 0 ≤ σ 0 3 := by rw [efo_3]; exact nI_nn (by omega)
      have hit_3 : ∀ i, i < z_3 → s 73 i = σ 2 (60 * 3 + i) := u4_3 z_3 ez_3.symm hz60_3
      have ezc_3 : (σ 1 3).toNatClampNeg = z_3 := by rw [ez_3]; exact nI_clamp (by omega)
      refine J_aload_n dX11_copy_19 rfl rfl ?_
      refine Cg_0_4 fr_X11_39_10 dX11_copy_20 ?_
      refine J_iload_n dX11_copy_23 rfl rfl ?_
      refine Cl_10 1 rfl (by omega) dX11_copy_24 ?_
      refine J_astore [(0, .ref (r 0)), (1, .int (nI 1)), (2, .int i), (3, .int (nI 3)), (4, .int j), (5, .int k), (6, .ref (r (11 + 1)))] dX11_copy_25 (by decide) rfl rfl rfl ?_
      refine J_aload_n dX11_copy_27 rfl rfl ?_
      refine Cg_0_4 fr_X11_39_10 dX11_copy_28 ?_
      refine J_iload_n dX11_copy_31 rfl rfl ?_
      refine Cl_10 3 rfl (by omega) dX11_copy_32 ?_
      refine J_astore [(0, .ref (r 0)), (1, .int (nI 1)), (2, .int i), (3, .int (nI 3)), (4, .int j), (5, .int k), (6, .ref (r (11 + 1))), (7, .ref (r (11 + 3)))] dX11_copy_33 (by decide) rfl rfl rfl ?_
      refine J_aload dX11_copy_35 rfl ?_
      refine J_cVi (x := yX12_in) [] (11 + 1) mv_X11_227 (c_X8_isLost r s l 1 (by omega)) (cW_sh (by omega)) rfl rfl (by decide) (Nat.le_of_ble_eq_true rfl) ⟨Nat.le_refl _, Nat.le_refl _⟩ dX11_copy_37 ?_
      refine J_if_neB 51 dX11_copy_40 (by decide) (fun c => absurd c (by rw [hls_1]; decide)) (fun _ => ?_)
      refine J_aload dX11_copy_43 rfl ?_
      refine J_cVi (x := yX12_in) [] (11 + 3) mv_X11_227 (c_X8_isLost r s l 3 (by omega)) (cW_sh (by omega)) rfl rfl (by decide) (Nat.le_of_ble_eq_true rfl) ⟨Nat.le_refl _, Nat.le_refl _⟩ dX11_copy_45 ?_
      refine J_if_eqB 57 dX11_copy_48 (by decide) (fun _ => ?_) (fun c => absurd c (by rw [hls_3]; decide))
      refine J_aload dX11_copy_57 rfl ?_
      refine Cg_sh_1 (s := s) (by omega) fr_X11_279_7 (s 67 1) rfl dX11_copy_59 ?_
      refine J_rw (y := σ 0 1) u1_1.symm ?_
      refine J_aload dX11_copy_62 rfl ?_
      refine Cg_sh_1 (s := s) (by omega) fr_X11_279_7 (s 67 3) rfl dX11_copy_64 ?_
      refine J_rw (y := σ 0 3) u1_3.symm ?_
      refine J_icmp_eq 76 dX11_copy_67 (by decide) (fun kcz1 => ?_) (fun kcz1 => ?_)
      · refine J_aload dX11_copy_76 rfl ?_
        refine J_iload_n dX11_copy_78 rfl rfl ?_
        refine J_iload dX11_copy_79 rfl ?_
        refine J_cVi (x := yX12_in) [.int i, .int k] (11 + 1) mv_X11_282 (c_X8_hasItems r s l 1 (by decide) z_1 hz_1 hz60_1 i k) (cW_sh (by omega)) rfl rfl (by decide) (Nat.le_of_ble_eq_true rfl) ⟨Nat.le_refl _, Nat.le_refl _⟩ dX11_copy_81 ?_
        refine J_if_eqB 99 dX11_copy_84 (by decide) (fun kcz2 => ?_) (fun kcz2 => ?_)
        · have hok : cpOk (nI 1) i (nI 3) j k σ = false := hi_no ez_1 ez_3 hz60_1 hz60_3 (Or.inl kcz2)
          refine J_aload_n dX11_copy_99 rfl rfl ?_
          refine J_iconst (v := nI 2) dX11_copy_100 (by decide) ?_
          refine J_cVi (x := yX12_in) [.int (nI 2)] 0 mv_X11_230 (c_X11_found r s l 2) cW_0 rfl rfl (by decide) (Nat.le_of_ble_eq_true rfl) ⟨Nat.le_refl _, Nat.le_refl _⟩ dX11_copy_101 ?_
          show J G "copy" RX11 cX11_copy 8 (some .int) 0 0 3 Q 0 0 104 [(0, .ref (r 0)), (1, .int (nI 1)), (2, .int i), (3, .int (nI 3)), (4, .int j), (5, .int k), (6, .ref (r (11 + 1))), (7, .ref (r (11 + 3)))] [.int ((-10) - nI 2)] (cW G r (su 50 s (fun _ => nI 2)) l)
          exact J_iret dX11_copy_104 rfl rfl rfl (hq (su 50 s (fun _ => nI 2)) l ((-10) - nI 2, (su 4 σ (fun _ => nI 2))) (by simp [oCopy, fnd, hsp_1, hsp_3, kcz1, kcz2, hok, rng_of (show 1 < 4 by decide) (by decide), nI_clamp (show 1 < 2 ^ 31 by decide), rng_of (show 3 < 4 by decide) (by decide), nI_clamp (show 3 < 2 ^ 31 by decide)]) (ci_fnd hC))
        · refine J_aload dX11_copy_87 rfl ?_
          refine J_iload dX11_copy_89 rfl ?_
          refine J_iload dX11_copy_91 rfl ?_
          refine J_cVi (x := yX12_in) [.int j, .int k] (11 + 3) mv_X11_282 (c_X8_hasItems r s l 3 (by decide) z_3 hz_3 hz60_3 j k) (cW_sh (by omega)) rfl rfl (by decide) (Nat.le_of_ble_eq_true rfl) ⟨Nat.le_refl _, Nat.le_refl _⟩ dX11_copy_93 ?_
          refine J_if_neB 105 dX11_copy_96 (by decide) (fun kcz3 => ?_) (fun kcz3 => ?_)
          · obtain ⟨Ii, Jj, Nn, rfl, rfl, rfl, hc1, hc2⟩ := hi_in kcz2 kcz3 hz60_1 hz60_3
            have eIi : (nI Ii).toNatClampNeg = Ii := nI_clamp (by omega)
            have eJj : (nI Jj).toNatClampNeg = Jj := nI_clamp (by omega)
            have eNn : (nI Nn).toNatClampNeg = Nn := nI_clamp (by omega)
            have hok : cpOk (nI 1) (nI Ii) (nI 3) (nI Jj) (nI Nn) σ = true := hi_cp ez_1 ez_3 hc1 hc2 hz60_1 hz60_3
            refine J_aload dX11_copy_105 rfl ?_
            refine Cg_sh_0 (by omega) fr_X11_285_7 dX11_copy_107 ?_
            refine J_iload_n dX11_copy_110 rfl rfl ?_
            refine J_aload dX11_copy_111 rfl ?_
            refine Cg_sh_0 (by omega) fr_X11_285_7 dX11_copy_113 ?_
            refine J_iload dX11_copy_116 rfl ?_
            refine J_iload dX11_copy_118 rfl ?_
            refine J_copyi (N0 := 60) (N1 := 60) ac_link ac_nat ac_stat ac_init (15 + 1) (15 + 3) (cW G r (su 73 s (va_cpy (s 71) (s 73) Ii Jj Nn)) l) (cW_si (by decide)) (cW_si (by decide)) (cI_nlt (by omega)) (cI_nlt (by omega)) (cI_nlt (by omega)) (by rw [nI_clamp (by omega), nI_clamp (by omega)]; omega) (by rw [nI_clamp (by omega), nI_clamp (by omega)]; omega) (by omega) (by decide) (by rw [nI_clamp (by omega), nI_clamp (by omega), nI_clamp (by omega)]; exact cW_set3 (by decide)) dX11_copy_120 ?_
            show J G "copy" RX11 cX11_copy 8 (some .int) 0 0 3 Q 0 0 123 [(0, .ref (r 0)), (1, .int (nI 1)), (2, .int (nI Ii)), (3, .int (nI 3)), (4, .int (nI Jj)), (5, .int (nI Nn)), (6, .ref (r (11 + 1))), (7, .ref (r (11 + 3)))] [] (cW G r (su 73 s (va_cpy (s 71) (s 73) Ii Jj Nn)) l)
            refine J_iconst (v := nI 1) dX11_copy_123 (by decide) ?_
            exact J_iret dX11_copy_124 rfl rfl rfl (hq (su 73 s (va_cpy (s 71) (s 73) Ii Jj Nn)) l (nI 1, (su 2 σ (fb_put (σ 2) (fun k => σ 2 (60 * 1 + Ii + k)) (60 * 3 + Jj) Nn))) (by simp [oCopy, fnd, hsp_1, hsp_3, kcz1, eIi, eJj, eNn, hok, rng_of (show 1 < 4 by decide) (by decide), nI_clamp (show 1 < 2 ^ 31 by decide), rng_of (show 3 < 4 by decide) (by decide), nI_clamp (show 3 < 2 ^ 31 by decide)]) (ci_copy13 hC ez_1 ez_3 hz60_1 hz60_3 u2_1 u2_3 hc1 hc2))
          · have hok : cpOk (nI 1) i (nI 3) j k σ = false := hi_no ez_1 ez_3 hz60_1 hz60_3 (Or.inr kcz3)
            refine J_aload_n dX11_copy_99 rfl rfl ?_
            refine J_iconst (v := nI 2) dX11_copy_100 (by decide) ?_
            refine J_cVi (x := yX12_in) [.int (nI 2)] 0 mv_X11_230 (c_X11_found r s l 2) cW_0 rfl rfl (by decide) (Nat.le_of_ble_eq_true rfl) ⟨Nat.le_refl _, Nat.le_refl _⟩ dX11_copy_101 ?_
            show J G "copy" RX11 cX11_copy 8 (some .int) 0 0 3 Q 0 0 104 [(0, .ref (r 0)), (1, .int (nI 1)), (2, .int i), (3, .int (nI 3)), (4, .int j), (5, .int k), (6, .ref (r (11 + 1))), (7, .ref (r (11 + 3)))] [.int ((-10) - nI 2)] (cW G r (su 50 s (fun _ => nI 2)) l)
            exact J_iret dX11_copy_104 rfl rfl rfl (hq (su 50 s (fun _ => nI 2)) l ((-10) - nI 2, (su 4 σ (fun _ => nI 2))) (by simp [oCopy, fnd, hsp_1, hsp_3, kcz1, kcz2, kcz3, hok, rng_of (show 1 < 4 by decide) (by decide), nI_clamp (show 1 < 2 ^ 31 by decide), rng_of (show 3 < 4 by decide) (by decide), nI_clamp (show 3 < 2 ^ 31 by decide)]) (ci_fnd hC))
      · refine J_aload_n dX11_copy_70 rfl rfl ?_
        refine J_iconst (v := nI 4) dX11_copy_71 (by decide) ?_
        refine J_cVi (x := yX12_in) [.int (nI 4)] 0 mv_X11_230 (c_X11_found r s l 4) cW_0 rfl rfl (by decide) (Nat.le_of_ble_eq_true rfl) ⟨Nat.le_refl _, Nat.le_refl _⟩ dX11_copy_72 ?_
        show J G "copy" RX11 cX11_copy 8 (some .int) 0 0 3 Q 0 0 75 [(0, .ref (r 0)), (1, .int (nI 1)), (2, .int i), (3, .int (nI 3)), (4, .int j), (5, .int k), (6, .ref (r (11 + 1))), (7, .ref (r (11 + 3)))] [.int ((-10) - nI 4)] (cW G r (su 50 s (fun _ => nI 4)) l)
        exact J_iret dX11_copy_75 rfl rfl rfl (hq (su 50 s (fun _ => nI 4)) l ((-10) - nI 4, (su 4 σ (fun _ => nI 4))) (by simp [oCopy, fnd, hsp_1, hsp_3, kcz1, rng_of (show 1 < 4 by decide) (by decide), nI_clamp (show 1 < 2 ^ 31 by decide), rng_of (show 3 < 4 by decide) (by decide), nI_clamp (show 3 < 2 ^ 31 by decide)]) (ci_fnd hC))
theorem c_X11_copy13 {G : GT} (r : Nat → Nat) (s : St) (l : Nat → Int64) (σ : St) (hL : LI σ) (hC : CI σ s) (i j k : Int32) : Ct G yX11_copy cX11_copy 8 (some .int) 0 0 3 [.ref (r 0), .int (nI 1), .int i, .int (nI 3), .int j, .int k] (cW G r s l) (QC G r (oCopy (nI 1) i (nI 3) j k σ)) := Ct.of rfl (Nat.le_of_ble_eq_true rfl) (j_X11_copy13 r s l σ hL hC i j k (fun x lx a h1 h2 => ⟨x, lx, by rw [h1], rfl, by rw [← h1]; exact h2⟩))
set_option maxRecDepth 100000 in
set_option maxHeartbeats 1000000 in
theorem j_X11_copy20 {G : GT} (r : Nat → Nat) (s : St) (l : Nat → Int64) (σ : St) (hL : LI σ) (hC : CI σ s) (i j k : Int32) {Q : Option Value → va_W → Prop} (hq : ∀ (x : St) (lx : Nat → Int64) (a : Int32 × St), a = oCopy (nI 2) i (nI 0) j k σ → CI a.2 x → Q (some (.int a.1)) (cW G r x lx)) : J G "copy" RX11 cX11_copy 8 (some .int) 0 0 3 Q 0 0 0 [(0, .ref (r 0)), (1, .int (nI 2)), (2, .int i), (3, .int (nI 0)), (4, .int j), (5, .int k)] [] (cW G r s l) := by
  refine J_iload_n dX11_copy_0 rfl rfl ?_
  refine J_iconst (v := nI 4) dX11_copy_1 (by decide) ?_
  refine J_cSi [.int (nI 2), .int (nI 4)] ms_X11_48 (c_X11_isBelowN (cW G r s l) (nI 2) 4) rfl rfl (by decide) (Nat.le_of_ble_eq_true rfl) ⟨Nat.le_refl _, Nat.le_refl _⟩ dX11_copy_2 ?_
  refine J_if_eqB 16 dX11_copy_5 (by decide) (fun c => absurd c (by rw [(show rng (nI 2) 4 = true by decide)]; decide)) (fun _ => ?_)
  refine J_iload_n dX11_copy_8 rfl rfl ?_
  refine J_iconst (v := nI 4) dX11_copy_9 (by decide) ?_
  refine J_cSi [.int (nI 0), .int (nI 4)] ms_X11_48 (c_X11_isBelowN (cW G r s l) (nI 0) 4) rfl rfl (by decide) (Nat.le_of_ble_eq_true rfl) ⟨Nat.le_refl _, Nat.le_refl _⟩ dX11_copy_10 ?_
  refine J_if_neB 19 dX11_copy_13 (by decide) (fun _ => ?_) (fun c => absurd c (by rw [(show rng (nI 0) 4 = true by decide)]; decide))
  rcases hC.2.2.2.2.2.2.1.2.2.1 with ⟨u1_2, u2_2⟩ | ⟨u1_2, u2_2, u3_2, u4_2⟩
  · have hls_2 : decide (s 68 2 = -1) = true := decide_eq_true u1_2
    have hsp_2 : ¬ 0 ≤ σ 0 2 := by rw [u2_2]; decide
    rcases hC.2.2.2.2.2.2.1.1 with ⟨u1_0, u2_0⟩ | ⟨u1_0, u2_0, u3_0, u4_0⟩
    · have hls_0 : decide (s 68 0 = -1) = true := decide_eq_true u1_0
      have hsp_0 : ¬ 0 ≤ σ 0 0 := by rw [u2_0]; decide
      refine J_aload_n dX11_copy_19 rfl rfl ?_
      refine Cg_0_4 fr_X11_39_10 dX11_copy_20 ?_
      refine J_iload_n dX11_copy_23 rfl rfl ?_
      refine Cl_10 2 rfl (by omega) dX11_copy_24 ?_
      refine J_astore [(0, .ref (r 0)), (1, .int (nI 2)), (2, .int i), (3, .int (nI 0)), (4, .int j), (5, .int k), (6, .ref (r (11 + 2)))] dX11_copy_25 (by decide) rfl rfl rfl ?_
      refine J_aload_n dX11_copy_27 rfl rfl ?_
      refine Cg_0_4 fr_X11_39_10 dX11_copy_28 ?_
      refine J_iload_n dX11_copy_31 rfl rfl ?_
      refine Cl_10 0 rfl (by omega) dX11_copy_32 ?_
      refine J_astore [(0, .ref (r 0)), (1, .int (nI 2)), (2, .int i), (3, .int (nI 0)), (4, .int j), (5, .int k), (6, .ref (r (11 + 2))), (7, .ref (r (11 + 0)))] dX11_copy_33 (by decide) rfl rfl rfl ?_
      refine J_aload dX11_copy_35 rfl ?_
      refine J_cVi (x := yX12_in) [] (11 + 2) mv_X11_227 (c_X8_isLost r s l 2 (by omega)) (cW_sh (by omega)) rfl rfl (by decide) (Nat.le_of_ble_eq_true rfl) ⟨Nat.le_refl _, Nat.le_refl _⟩ dX11_copy_37 ?_
      refine J_if_neB 51 dX11_copy_40 (by decide) (fun _ => ?_) (fun c => absurd c (by rw [hls_2]; decide))
      refine J_aload_n dX11_copy_51 rfl rfl ?_
      refine J_iconst (v := nI 1) dX11_copy_52 (by decide) ?_
      refine J_cVi (x := yX12_in) [.int (nI 1)] 0 mv_X11_230 (c_X11_found r s l 1) cW_0 rfl rfl (by decide) (Nat.le_of_ble_eq_true rfl) ⟨Nat.le_refl _, Nat.le_refl _⟩ dX11_copy_53 ?_
      show J G "copy" RX11 cX11_copy 8 (some .int) 0 0 3 Q 0 0 56 [(0, .ref (r 0)), (1, .int (nI 2)), (2, .int i), (3, .int (nI 0)), (4, .int j), (5, .int k), (6, .ref (r (11 + 2))), (7, .ref (r (11 + 0)))] [.int ((-10) - nI 1)] (cW G r (su 50 s (fun _ => nI 1)) l)
      exact J_iret dX11_copy_56 rfl rfl rfl (hq (su 50 s (fun _ => nI 1)) l ((-10) - nI 1, (su 4 σ (fun _ => nI 1))) (by simp [oCopy, fnd, hsp_2, hsp_0, rng_of (show 0 < 4 by decide) (by decide), nI_clamp (show 0 < 2 ^ 31 by decide), rng_of (show 2 < 4 by decide) (by decide), nI_clamp (show 2 < 2 ^ 31 by decide)]) (ci_fnd hC))
    · obtain ⟨z_0, hz60_0, ez_0⟩ := (hL.sh (j := 0) (by decide)).2
      have hz_0 : s 68 0 = nI z_0 := u3_0.trans ez_0
      have hls_0 : decide (s 68 0 = -1) = false := decide_eq_false (by rw [hz_0]; exact fun q => m1_ne (by omega) q.symm)
      obtain ⟨fo_0, hfo_0, efo_0⟩ := (hL.sh (j := 0) (by decide)).1.resolve_left u2_0
      have hsp_0 : 0 ≤ σ 0 0 := by rw [efo_0]; exact nI_nn (by omega)
      have hit_0 : ∀ i, i < z_0 → s 70 i = σ 2 (60 * 0 + i) := u4_0 z_0 ez_0.symm hz60_0
      have ezc_0 : (σ 1 0).toNatClampNeg = z_0 := by rw [ez_0]; exact nI_clamp (by omega)
      refine J_aload_n dX11_copy_19 rfl rfl ?_
      refine Cg_0_4 fr_X11_39_10 dX11_copy_20 ?_
      refine J_iload_n dX11_copy_23 rfl rfl ?_
      refine Cl_10 2 rfl (by omega) dX11_copy_24 ?_
      refine J_astore [(0, .ref (r 0)), (1, .int (nI 2)), (2, .int i), (3, .int (nI 0)), (4, .int j), (5, .int k), (6, .ref (r (11 + 2)))] dX11_copy_25 (by decide) rfl rfl rfl ?_
      refine J_aload_n dX11_copy_27 rfl rfl ?_
      refine Cg_0_4 fr_X11_39_10 dX11_copy_28 ?_
      refine J_iload_n dX11_copy_31 rfl rfl ?_
      refine Cl_10 0 rfl (by omega) dX11_copy_32 ?_
      refine J_astore [(0, .ref (r 0)), (1, .int (nI 2)), (2, .int i), (3, .int (nI 0)), (4, .int j), (5, .int k), (6, .ref (r (11 + 2))), (7, .ref (r (11 + 0)))] dX11_copy_33 (by decide) rfl rfl rfl ?_
      refine J_aload dX11_copy_35 rfl ?_
      refine J_cVi (x := yX12_in) [] (11 + 2) mv_X11_227 (c_X8_isLost r s l 2 (by omega)) (cW_sh (by omega)) rfl rfl (by decide) (Nat.le_of_ble_eq_true rfl) ⟨Nat.le_refl _, Nat.le_refl _⟩ dX11_copy_37 ?_
      refine J_if_neB 51 dX11_copy_40 (by decide) (fun _ => ?_) (fun c => absurd c (by rw [hls_2]; decide))
      refine J_aload_n dX11_copy_51 rfl rfl ?_
      refine J_iconst (v := nI 1) dX11_copy_52 (by decide) ?_
      refine J_cVi (x := yX12_in) [.int (nI 1)] 0 mv_X11_230 (c_X11_found r s l 1) cW_0 rfl rfl (by decide) (Nat.le_of_ble_eq_true rfl) ⟨Nat.le_refl _, Nat.le_refl _⟩ dX11_copy_53 ?_
      show J G "copy" RX11 cX11_copy 8 (some .int) 0 0 3 Q 0 0 56 [(0, .ref (r 0)), (1, .int (nI 2)), (2, .int i), (3, .int (nI 0)), (4, .int j), (5, .int k), (6, .ref (r (11 + 2))), (7, .ref (r (11 + 0)))] [.int ((-10) - nI 1)] (cW G r (su 50 s (fun _ => nI 1)) l)
      exact J_iret dX11_copy_56 rfl rfl rfl (hq (su 50 s (fun _ => nI 1)) l ((-10) - nI 1, (su 4 σ (fun _ => nI 1))) (by simp [oCopy, fnd, hsp_2, hsp_0, rng_of (show 0 < 4 by decide) (by decide), nI_clamp (show 0 < 2 ^ 31 by decide), rng_of (show 2 < 4 by decide) (by decide), nI_clamp (show 2 < 2 ^ 31 by decide)]) (ci_fnd hC))
  · obtain ⟨z_2, hz60_2, ez_2⟩ := (hL.sh (j := 2) (by decide)).2
    have hz_2 : s 68 2 = nI z_2 := u3_2.trans ez_2
    have hls_2 : decide (s 68 2 = -1) = false := decide_eq_false (by rw [hz_2]; exact fun q => m1_ne (by omega) q.symm)
    obtain ⟨fo_2, hfo_2, efo_2⟩ := (hL.sh (j := 2) (by decide)).1.resolve_left u2_2
    have hsp_2 : 0 ≤ σ 0 2 := by rw [efo_2]; exact nI_nn (by omega)
    have hit_2 : ∀ i, i < z_2 → s 72 i = σ 2 (60 * 2 + i) := u4_2 z_2 ez_2.symm hz60_2
    have ezc_2 : (σ 1 2).toNatClampNeg = z_2 := by rw [ez_2]; exact nI_clamp (by omega)
    rcases hC.2.2.2.2.2.2.1.1 with ⟨u1_0, u2_0⟩ | ⟨u1_0, u2_0, u3_0, u4_0⟩
    · have hls_0 : decide (s 68 0 = -1) = true := decide_eq_true u1_0
      have hsp_0 : ¬ 0 ≤ σ 0 0 := by rw [u2_0]; decide
      refine J_aload_n dX11_copy_19 rfl rfl ?_
      refine Cg_0_4 fr_X11_39_10 dX11_copy_20 ?_
      refine J_iload_n dX11_copy_23 rfl rfl ?_
      refine Cl_10 2 rfl (by omega) dX11_copy_24 ?_
      refine J_astore [(0, .ref (r 0)), (1, .int (nI 2)), (2, .int i), (3, .int (nI 0)), (4, .int j), (5, .int k), (6, .ref (r (11 + 2)))] dX11_copy_25 (by decide) rfl rfl rfl ?_
      refine J_aload_n dX11_copy_27 rfl rfl ?_
      refine Cg_0_4 fr_X11_39_10 dX11_copy_28 ?_
      refine J_iload_n dX11_copy_31 rfl rfl ?_
      refine Cl_10 0 rfl (by omega) dX11_copy_32 ?_
      refine J_astore [(0, .ref (r 0)), (1, .int (nI 2)), (2, .int i), (3, .int (nI 0)), (4, .int j), (5, .int k), (6, .ref (r (11 + 2))), (7, .ref (r (11 + 0)))] dX11_copy_33 (by decide) rfl rfl rfl ?_
      refine J_aload dX11_copy_35 rfl ?_
      refine J_cVi (x := yX12_in) [] (11 + 2) mv_X11_227 (c_X8_isLost r s l 2 (by omega)) (cW_sh (by omega)) rfl rfl (by decide) (Nat.le_of_ble_eq_true rfl) ⟨Nat.le_refl _, Nat.le_refl _⟩ dX11_copy_37 ?_
      refine J_if_neB 51 dX11_copy_40 (by decide) (fun c => absurd c (by rw [hls_2]; decide)) (fun _ => ?_)
      refine J_aload dX11_copy_43 rfl ?_
      refine J_cVi (x := yX12_in) [] (11 + 0) mv_X11_227 (c_X8_isLost r s l 0 (by omega)) (cW_sh (by omega)) rfl rfl (by decide) (Nat.le_of_ble_eq_true rfl) ⟨Nat.le_refl _, Nat.le_refl _⟩ dX11_copy_45 ?_
      refine J_if_eqB 57 dX11_copy_48 (by decide) (fun c => absurd c (by rw [hls_0]; decide)) (fun _ => ?_)
      refine J_aload_n dX11_copy_51 rfl rfl ?_
      refine J_iconst (v := nI 1) dX11_copy_52 (by decide) ?_
      refine J_cVi (x := yX12_in) [.int (nI 1)] 0 mv_X11_230 (c_X11_found r s l 1) cW_0 rfl rfl (by decide) (Nat.le_of_ble_eq_true rfl) ⟨Nat.le_refl _, Nat.le_refl _⟩ dX11_copy_53 ?_
      show J G "copy" RX11 cX11_copy 8 (some .int) 0 0 3 Q 0 0 56 [(0, .ref (r 0)), (1, .int (nI 2)), (2, .int i), (3, .int (nI 0)), (4, .int j), (5, .int k), (6, .ref (r (11 + 2))), (7, .ref (r (11 + 0)))] [.int ((-10) - nI 1)] (cW G r (su 50 s (fun _ => nI 1)) l)
      exact J_iret dX11_copy_56 rfl rfl rfl (hq (su 50 s (fun _ => nI 1)) l ((-10) - nI 1, (su 4 σ (fun _ => nI 1))) (by simp [oCopy, fnd, hsp_2, hsp_0, rng_of (show 0 < 4 by decide) (by decide), nI_clamp (show 0 < 2 ^ 31 by decide), rng_of (show 2 < 4 by decide) (by decide), nI_clamp (show 2 < 2 ^ 31 by decide)]) (ci_fnd hC))
    · obtain ⟨z_0, hz60_0, ez_0⟩ := (hL.sh (j := 0) (by decide)).2
      have hz_0 : s 68 0 = nI z_0 := u3_0.trans ez_0
      have hls_0 : decide (s 68 0 = -1) = false := decide_eq_false (by rw [hz_0]; exact fun q => m1_ne (by omega) q.symm)
      obtain ⟨fo_0, hfo_0, efo_0⟩ := (hL.sh (j := 0) (by decide)).1.resolve_left u2_0
      have hsp_0 : 0 ≤ σ 0 0 := by rw [efo_0]; exact nI_nn (by omega)
      have hit_0 : ∀ i, i < z_0 → s 70 i = σ 2 (60 * 0 + i) := u4_0 z_0 ez_0.symm hz60_0
      have ezc_0 : (σ 1 0).toNatClampNeg = z_0 := by rw [ez_0]; exact nI_clamp (by omega)
      refine J_aload_n dX11_copy_19 rfl rfl ?_
      refine Cg_0_4 fr_X11_39_10 dX11_copy_20 ?_
      refine J_iload_n dX11_copy_23 rfl rfl ?_
      refine Cl_10 2 rfl (by omega) dX11_copy_24 ?_
      refine J_astore [(0, .ref (r 0)), (1, .int (nI 2)), (2, .int i), (3, .int (nI 0)), (4, .int j), (5, .int k), (6, .ref (r (11 + 2)))] dX11_copy_25 (by decide) rfl rfl rfl ?_
      refine J_aload_n dX11_copy_27 rfl rfl ?_
      refine Cg_0_4 fr_X11_39_10 dX11_copy_28 ?_
      refine J_iload_n dX11_copy_31 rfl rfl ?_
      refine Cl_10 0 rfl (by omega) dX11_copy_32 ?_
      refine J_astore [(0, .ref (r 0)), (1, .int (nI 2)), (2, .int i), (3, .int (nI 0)), (4, .int j), (5, .int k), (6, .ref (r (11 + 2))), (7, .ref (r (11 + 0)))] dX11_copy_33 (by decide) rfl rfl rfl ?_
      refine J_aload dX11_copy_35 rfl ?_
      refine J_cVi (x := yX12_in) [] (11 + 2) mv_X11_227 (c_X8_isLost r s l 2 (by omega)) (cW_sh (by omega)) rfl rfl (by decide) (Nat.le_of_ble_eq_true rfl) ⟨Nat.le_refl _, Nat.le_refl _⟩ dX11_copy_37 ?_
      refine J_if_neB 51 dX11_copy_40 (by decide) (fun c => absurd c (by rw [hls_2]; decide)) (fun _ => ?_)
      refine J_aload dX11_copy_43 rfl ?_
      refine J_cVi (x := yX12_in) [] (11 + 0) mv_X11_227 (c_X8_isLost r s l 0 (by omega)) (cW_sh (by omega)) rfl rfl (by decide) (Nat.le_of_ble_eq_true rfl) ⟨Nat.le_refl _, Nat.le_refl _⟩ dX11_copy_45 ?_
      refine J_if_eqB 57 dX11_copy_48 (by decide) (fun _ => ?_) (fun c => absurd c (by rw [hls_0]; decide))
      refine J_aload dX11_copy_57 rfl ?_
      refine Cg_sh_1 (s := s) (by omega) fr_X11_279_7 (s 67 2) rfl dX11_copy_59 ?_
      refine J_rw (y := σ 0 2) u1_2.symm ?_
      refine J_aload dX11_copy_62 rfl ?_
      refine Cg_sh_1 (s := s) (by omega) fr_X11_279_7 (s 67 0) rfl dX11_copy_64 ?_
      refine J_rw (y := σ 0 0) u1_0.symm ?_
      refine J_icmp_eq 76 dX11_copy_67 (by decide) (fun kcz1 => ?_) (fun kcz1 => ?_)
      · refine J_aload dX11_copy_76 rfl ?_
        refine J_iload_n dX11_copy_78 rfl rfl ?_
        refine J_iload dX11_copy_79 rfl ?_
        refine J_cVi (x := yX12_in) [.int i, .int k] (11 + 2) mv_X11_282 (c_X8_hasItems r s l 2 (by decide) z_2 hz_2 hz60_2 i k) (cW_sh (by omega)) rfl rfl (by decide) (Nat.le_of_ble_eq_true rfl) ⟨Nat.le_refl _, Nat.le_refl _⟩ dX11_copy_81 ?_
        refine J_if_eqB 99 dX11_copy_84 (by decide) (fun kcz2 => ?_) (fun kcz2 => ?_)
        · have hok : cpOk (nI 2) i (nI 0) j k σ = false := hi_no ez_2 ez_0 hz60_2 hz60_0 (Or.inl kcz2)
          refine J_aload_n dX11_copy_99 rfl rfl ?_
          refine J_iconst (v := nI 2) dX11_copy_100 (by decide) ?_
          refine J_cVi (x := yX12_in) [.int (nI 2)] 0 mv_X11_230 (c_X11_found r s l 2) cW_0 rfl rfl (by decide) (Nat.le_of_ble_eq_true rfl) ⟨Nat.le_refl _, Nat.le_refl _⟩ dX11_copy_101 ?_
          show J G "copy" RX11 cX11_copy 8 (some .int) 0 0 3 Q 0 0 104 [(0, .ref (r 0)), (1, .int (nI 2)), (2, .int i), (3, .int (nI 0)), (4, .int j), (5, .int k), (6, .ref (r (11 + 2))), (7, .ref (r (11 + 0)))] [.int ((-10) - nI 2)] (cW G r (su 50 s (fun _ => nI 2)) l)
          exact J_iret dX11_copy_104 rfl rfl rfl (hq (su 50 s (fun _ => nI 2)) l ((-10) - nI 2, (su 4 σ (fun _ => nI 2))) (by simp [oCopy, fnd, hsp_2, hsp_0, kcz1, kcz2, hok, rng_of (show 0 < 4 by decide) (by decide), nI_clamp (show 0 < 2 ^ 31 by decide), rng_of (show 2 < 4 by decide) (by decide), nI_clamp (show 2 < 2 ^ 31 by decide)]) (ci_fnd hC))
        · refine J_aload dX11_copy_87 rfl ?_
          refine J_iload dX11_copy_89 rfl ?_
          refine J_iload dX11_copy_91 rfl ?_
          refine J_cVi (x := yX12_in) [.int j, .int k] (11 + 0) mv_X11_282 (c_X8_hasItems r s l 0 (by decide) z_0 hz_0 hz60_0 j k) (cW_sh (by omega)) rfl rfl (by decide) (Nat.le_of_ble_eq_true rfl) ⟨Nat.le_refl _, Nat.le_refl _⟩ dX11_copy_93 ?_
          refine J_if_neB 105 dX11_copy_96 (by decide) (fun kcz3 => ?_) (fun kcz3 => ?_)
          · obtain ⟨Ii, Jj, Nn, rfl, rfl, rfl, hc1, hc2⟩ := hi_in kcz2 kcz3 hz60_2 hz60_0
            have eIi : (nI Ii).toNatClampNeg = Ii := nI_clamp (by omega)
            have eJj : (nI Jj).toNatClampNeg = Jj := nI_clamp (by omega)
            have eNn : (nI Nn).toNatClampNeg = Nn := nI_clamp (by omega)
            have hok : cpOk (nI 2) (nI Ii) (nI 0) (nI Jj) (nI Nn) σ = true := hi_cp ez_2 ez_0 hc1 hc2 hz60_2 hz60_0
            refine J_aload dX11_copy_105 rfl ?_
            refine Cg_sh_0 (by omega) fr_X11_285_7 dX11_copy_107 ?_
            refine J_iload_n dX11_copy_110 rfl rfl ?_
            refine J_aload dX11_copy_111 rfl ?_
            refine Cg_sh_0 (by omega) fr_X11_285_7 dX11_copy_113 ?_
            refine J_iload dX11_copy_116 rfl ?_
            refine J_iload dX11_copy_118 rfl ?_
            refine J_copyi (N0 := 60) (N1 := 60) ac_link ac_nat ac_stat ac_init (15 + 2) (15 + 0) (cW G r (su 70 s (va_cpy (s 72) (s 70) Ii Jj Nn)) l) (cW_si (by decide)) (cW_si (by decide)) (cI_nlt (by omega)) (cI_nlt (by omega)) (cI_nlt (by omega)) (by rw [nI_clamp (by omega), nI_clamp (by omega)]; omega) (by rw [nI_clamp (by omega), nI_clamp (by omega)]; omega) (by omega) (by decide) (by rw [nI_clamp (by omega), nI_clamp (by omega), nI_clamp (by omega)]; exact cW_set3 (by decide)) dX11_copy_120 ?_
            show J G "copy" RX11 cX11_copy 8 (some .int) 0 0 3 Q 0 0 123 [(0, .ref (r 0)), (1, .int (nI 2)), (2, .int (nI Ii)), (3, .int (nI 0)), (4, .int (nI Jj)), (5, .int (nI Nn)), (6, .ref (r (11 + 2))), (7, .ref (r (11 + 0)))] [] (cW G r (su 70 s (va_cpy (s 72) (s 70) Ii Jj Nn)) l)
            refine J_iconst (v := nI 1) dX11_copy_123 (by decide) ?_
            exact J_iret dX11_copy_124 rfl rfl rfl (hq (su 70 s (va_cpy (s 72) (s 70) Ii Jj Nn)) l (nI 1, (su 2 σ (fb_put (σ 2) (fun k => σ 2 (60 * 2 + Ii + k)) (60 * 0 + Jj) Nn))) (by simp [oCopy, fnd, hsp_2, hsp_0, kcz1, eIi, eJj, eNn, hok, rng_of (show 0 < 4 by decide) (by decide), nI_clamp (show 0 < 2 ^ 31 by decide), rng_of (show 2 < 4 by decide) (by decide), nI_clamp (show 2 < 2 ^ 31 by decide)]) (ci_copy20 hC ez_2 ez_0 hz60_2 hz60_0 u2_2 u2_0 hc1 hc2))
          · have hok : cpOk (nI 2) i (nI 0) j k σ = false := hi_no ez_2 ez_0 hz60_2 hz60_0 (Or.inr kcz3)
            refine J_aload_n dX11_copy_99 rfl rfl ?_
            refine J_iconst (v := nI 2) dX11_copy_100 (by decide) ?_
            refine J_cVi (x := yX12_in) [.int (nI 2)] 0 mv_X11_230 (c_X11_found r s l 2) cW_0 rfl rfl (by decide) (Nat.le_of_ble_eq_true rfl) ⟨Nat.le_refl _, Nat.le_refl _⟩ dX11_copy_101 ?_
            show J G "copy" RX11 cX11_copy 8 (some .int) 0 0 3 Q 0 0 104 [(0, .ref (r 0)), (1, .int (nI 2)), (2, .int i), (3, .int (nI 0)), (4, .int j), (5, .int k), (6, .ref (r (11 + 2))), (7, .ref (r (11 + 0)))] [.int ((-10) - nI 2)] (cW G r (su 50 s (fun _ => nI 2)) l)
            exact J_iret dX11_copy_104 rfl rfl rfl (hq (su 50 s (fun _ => nI 2)) l ((-10) - nI 2, (su 4 σ (fun _ => nI 2))) (by simp [oCopy, fnd, hsp_2, hsp_0, kcz1, kcz2, kcz3, hok, rng_of (show 0 < 4 by decide) (by decide), nI_clamp (show 0 < 2 ^ 31 by decide), rng_of (show 2 < 4 by decide) (by decide), nI_clamp (show 2 < 2 ^ 31 by decide)]) (ci_fnd hC))
      · refine J_aload_n dX11_copy_70 rfl rfl ?_
        refine J_iconst (v := nI 4) dX11_copy_71 (by decide) ?_
        refine J_cVi (x := yX12_in) [.int (nI 4)] 0 mv_X11_230 (c_X11_found r s l 4) cW_0 rfl rfl (by decide) (Nat.le_of_ble_eq_true rfl) ⟨Nat.le_refl _, Nat.le_refl _⟩ dX11_copy_72 ?_
        show J G "copy" RX11 cX11_copy 8 (some .int) 0 0 3 Q 0 0 75 [(0, .ref (r 0)), (1, .int (nI 2)), (2, .int i), (3, .int (nI 0)), (4, .int j), (5, .int k), (6, .ref (r (11 + 2))), (7, .ref (r (11 + 0)))] [.int ((-10) - nI 4)] (cW G r (su 50 s (fun _ => nI 4)) l)
        exact J_iret dX11_copy_75 rfl rfl rfl (hq (su 50 s (fun _ => nI 4)) l ((-10) - nI 4, (su 4 σ (fun _ => nI 4))) (by simp [oCopy, fnd, hsp_2, hsp_0, kcz1, rng_of (show 0 < 4 by decide) (by decide), nI_clamp (show 0 < 2 ^ 31 by decide), rng_of (show 2 < 4 by decide) (by decide), nI_clamp (show 2 < 2 ^ 31 by decide)]) (ci_fnd hC))
theorem c_X11_copy20 {G : GT} (r : Nat → Nat) (s : St) (l : Nat → Int64) (σ : St) (hL : LI σ) (hC : CI σ s) (i j k : Int32) : Ct G yX11_copy cX11_copy 8 (some .int) 0 0 3 [.ref (r 0), .int (nI 2), .int i, .int (nI 0), .int j, .int k] (cW G r s l) (QC G r (oCopy (nI 2) i (nI 0) j k σ)) := Ct.of rfl (Nat.le_of_ble_eq_true rfl) (j_X11_copy20 r s l σ hL hC i j k (fun x lx a h1 h2 => ⟨x, lx, by rw [h1], rfl, by rw [← h1]; exact h2⟩))
set_option maxRecDepth 100000 in
set_option maxHeartbeats 1000000 in
theorem j_X11_copy21 {G : GT} (r : Nat → Nat) (s : St) (l : Nat → Int64) (σ : St) (hL : LI σ) (hC : CI σ s) (i j k : Int32) {Q : Option Value → va_W → Prop} (hq : ∀ (x : St) (lx : Nat → Int64) (a : Int32 × St), a = oCopy (nI 2) i (nI 1) j k σ → CI a.2 x → Q (some (.int a.1)) (cW G r x lx)) : J G "copy" RX11 cX11_copy 8 (some .int) 0 0 3 Q 0 0 0 [(0, .ref (r 0)), (1, .int (nI 2)), (2, .int i), (3, .int (nI 1)), (4, .int j), (5, .int k)] [] (cW G r s l) := by
  refine J_iload_n dX11_copy_0 rfl rfl ?_
  refine J_iconst (v := nI 4) dX11_copy_1 (by decide) ?_
  refine J_cSi [.int (nI 2), .int (nI 4)] ms_X11_48 (c_X11_isBelowN (cW G r s l) (nI 2) 4) rfl rfl (by decide) (Nat.le_of_ble_eq_true rfl) ⟨Nat.le_refl _, Nat.le_refl _⟩ dX11_copy_2 ?_
  refine J_if_eqB 16 dX11_copy_5 (by decide) (fun c => absurd c (by rw [(show rng (nI 2) 4 = true by decide)]; decide)) (fun _ => ?_)
  refine J_iload_n dX11_copy_8 rfl rfl ?_
  refine J_iconst (v := nI 4) dX11_copy_9 (by decide) ?_
  refine J_cSi [.int (nI 1), .int (nI 4)] ms_X11_48 (c_X11_isBelowN (cW G r s l) (nI 1) 4) rfl rfl (by decide) (Nat.le_of_ble_eq_true rfl) ⟨Nat.le_refl _, Nat.le_refl _⟩ dX11_copy_10 ?_
  refine J_if_neB 19 dX11_copy_13 (by decide) (fun _ => ?_) (fun c => absurd c (by rw [(show rng (nI 1) 4 = true by decide)]; decide))
  rcases hC.2.2.2.2.2.2.1.2.2.1 with ⟨u1_2, u2_2⟩ | ⟨u1_2, u2_2, u3_2, u4_2⟩
  · have hls_2 : decide (s 68 2 = -1) = true := decide_eq_true u1_2
    have hsp_2 : ¬ 0 ≤ σ 0 2 := by rw [u2_2]; decide
    rcases hC.2.2.2.2.2.2.1.2.1 with ⟨u1_1, u2_1⟩ | ⟨u1_1, u2_1, u3_1, u4_1⟩
    · have hls_1 : decide (s 68 1 = -1) = true := decide_eq_true u1_1
      have hsp_1 : ¬ 0 ≤ σ 0 1 := by rw [u2_1]; decide
      refine J_aload_n dX11_copy_19 rfl rfl ?_
      refine Cg_0_4 fr_X11_39_10 dX11_copy_20 ?_
      refine J_iload_n dX11_copy_23 rfl rfl ?_
      refine Cl_10 2 rfl (by omega) dX11_copy_24 ?_
      refine J_astore [(0, .ref (r 0)), (1, .int (nI 2)), (2, .int i), (3, .int (nI 1)), (4, .int j), (5, .int k), (6, .ref (r (11 + 2)))] dX11_copy_25 (by decide) rfl rfl rfl ?_
      refine J_aload_n dX11_copy_27 rfl rfl ?_
      refine Cg_0_4 fr_X11_39_10 dX11_copy_28 ?_
      refine J_iload_n dX11_copy_31 rfl rfl ?_
      refine Cl_10 1 rfl (by omega) dX11_copy_32 ?_
      refine J_astore [(0, .ref (r 0)), (1, .int (nI 2)), (2, .int i), (3, .int (nI 1)), (4, .int j), (5, .int k), (6, .ref (r (11 + 2))), (7, .ref (r (11 + 1)))] dX11_copy_33 (by decide) rfl rfl rfl ?_
      refine J_aload dX11_copy_35 rfl ?_
      refine J_cVi (x := yX12_in) [] (11 + 2) mv_X11_227 (c_X8_isLost r s l 2 (by omega)) (cW_sh (by omega)) rfl rfl (by decide) (Nat.le_of_ble_eq_true rfl) ⟨Nat.le_refl _, Nat.le_refl _⟩ dX11_copy_37 ?_
      refine J_if_neB 51 dX11_copy_40 (by decide) (fun _ => ?_) (fun c => absurd c (by rw [hls_2]; decide))
      refine J_aload_n dX11_copy_51 rfl rfl ?_
      refine J_iconst (v := nI 1) dX11_copy_52 (by decide) ?_
      refine J_cVi (x := yX12_in) [.int (nI 1)] 0 mv_X11_230 (c_X11_found r s l 1) cW_0 rfl rfl (by decide) (Nat.le_of_ble_eq_true rfl) ⟨Nat.le_refl _, Nat.le_refl _⟩ dX11_copy_53 ?_
      show J G "copy" RX11 cX11_copy 8 (some .int) 0 0 3 Q 0 0 56 [(0, .ref (r 0)), (1, .int (nI 2)), (2, .int i), (3, .int (nI 1)), (4, .int j), (5, .int k), (6, .ref (r (11 + 2))), (7, .ref (r (11 + 1)))] [.int ((-10) - nI 1)] (cW G r (su 50 s (fun _ => nI 1)) l)
      exact J_iret dX11_copy_56 rfl rfl rfl (hq (su 50 s (fun _ => nI 1)) l ((-10) - nI 1, (su 4 σ (fun _ => nI 1))) (by simp [oCopy, fnd, hsp_2, hsp_1, rng_of (show 1 < 4 by decide) (by decide), nI_clamp (show 1 < 2 ^ 31 by decide), rng_of (show 2 < 4 by decide) (by decide), nI_clamp (show 2 < 2 ^ 31 by decide)]) (ci_fnd hC))
    · obtain ⟨z_1, hz60_1, ez_1⟩ := (hL.sh (j := 1) (by decide)).2
      have hz_1 : s 68 1 = nI z_1 := u3_1.trans ez_1
      have hls_1 : decide (s 68 1 = -1) = false := decide_eq_false (by rw [hz_1]; exact fun q => m1_ne (by omega) q.symm)
      obtain ⟨fo_1, hfo_1, efo_1⟩ := (hL.sh (j := 1) (by decide)).1.resolve_left u2_1
      have hsp_1 : 0 ≤ σ 0 1 := by rw [efo_1]; exact nI_nn (by omega)
      have hit_1 : ∀ i, i < z_1 → s 71 i = σ 2 (60 * 1 + i) := u4_1 z_1 ez_1.symm hz60_1
      have ezc_1 : (σ 1 1).toNatClampNeg = z_1 := by rw [ez_1]; exact nI_clamp (by omega)
      refine J_aload_n dX11_copy_19 rfl rfl ?_
      refine Cg_0_4 fr_X11_39_10 dX11_copy_20 ?_
      refine J_iload_n dX11_copy_23 rfl rfl ?_
      refine Cl_10 2 rfl (by omega) dX11_copy_24 ?_
      refine J_astore [(0, .ref (r 0)), (1, .int (nI 2)), (2, .int i), (3, .int (nI 1)), (4, .int j), (5, .int k), (6, .ref (r (11 + 2)))] dX11_copy_25 (by decide) rfl rfl rfl ?_
      refine J_aload_n dX11_copy_27 rfl rfl ?_
      refine Cg_0_4 fr_X11_39_10 dX11_copy_28 ?_
      refine J_iload_n dX11_copy_31 rfl rfl ?_
      refine Cl_10 1 rfl (by omega) dX11_copy_32 ?_
      refine J_astore [(0, .ref (r 0)), (1, .int (nI 2)), (2, .int i), (3, .int (nI 1)), (4, .int j), (5, .int k), (6, .ref (r (11 + 2))), (7, .ref (r (11 + 1)))] dX11_copy_33 (by decide) rfl rfl rfl ?_
      refine J_aload dX11_copy_35 rfl ?_
      refine J_cVi (x := yX12_in) [] (11 + 2) mv_X11_227 (c_X8_isLost r s l 2 (by omega)) (cW_sh (by omega)) rfl rfl (by decide) (Nat.le_of_ble_eq_true rfl) ⟨Nat.le_refl _, Nat.le_refl _⟩ dX11_copy_37 ?_
      refine J_if_neB 51 dX11_copy_40 (by decide) (fun _ => ?_) (fun c => absurd c (by rw [hls_2]; decide))
      refine J_aload_n dX11_copy_51 rfl rfl ?_
      refine J_iconst (v := nI 1) dX11_copy_52 (by decide) ?_
      refine J_cVi (x := yX12_in) [.int (nI 1)] 0 mv_X11_230 (c_X11_found r s l 1) cW_0 rfl rfl (by decide) (Nat.le_of_ble_eq_true rfl) ⟨Nat.le_refl _, Nat.le_refl _⟩ dX11_copy_53 ?_
      show J G "copy" RX11 cX11_copy 8 (some .int) 0 0 3 Q 0 0 56 [(0, .ref (r 0)), (1, .int (nI 2)), (2, .int i), (3, .int (nI 1)), (4, .int j), (5, .int k), (6, .ref (r (11 + 2))), (7, .ref (r (11 + 1)))] [.int ((-10) - nI 1)] (cW G r (su 50 s (fun _ => nI 1)) l)
      exact J_iret dX11_copy_56 rfl rfl rfl (hq (su 50 s (fun _ => nI 1)) l ((-10) - nI 1, (su 4 σ (fun _ => nI 1))) (by simp [oCopy, fnd, hsp_2, hsp_1, rng_of (show 1 < 4 by decide) (by decide), nI_clamp (show 1 < 2 ^ 31 by decide), rng_of (show 2 < 4 by decide) (by decide), nI_clamp (show 2 < 2 ^ 31 by decide)]) (ci_fnd hC))
  · obtain ⟨z_2, hz60_2, ez_2⟩ := (hL.sh (j := 2) (by decide)).2
    have hz_2 : s 68 2 = nI z_2 := u3_2.trans ez_2
    have hls_2 : decide (s 68 2 = -1) = false := decide_eq_false (by rw [hz_2]; exact fun q => m1_ne (by omega) q.symm)
    obtain ⟨fo_2, hfo_2, efo_2⟩ := (hL.sh (j := 2) (by decide)).1.resolve_left u2_2
    have hsp_2 : 0 ≤ σ 0 2 := by rw [efo_2]; exact nI_nn (by omega)
    have hit_2 : ∀ i, i < z_2 → s 72 i = σ 2 (60 * 2 + i) := u4_2 z_2 ez_2.symm hz60_2
    have ezc_2 : (σ 1 2).toNatClampNeg = z_2 := by rw [ez_2]; exact nI_clamp (by omega)
    rcases hC.2.2.2.2.2.2.1.2.1 with ⟨u1_1, u2_1⟩ | ⟨u1_1, u2_1, u3_1, u4_1⟩
    · have hls_1 : decide (s 68 1 = -1) = true := decide_eq_true u1_1
      have hsp_1 : ¬ 0 ≤ σ 0 1 := by rw [u2_1]; decide
      refine J_aload_n dX11_copy_19 rfl rfl ?_
      refine Cg_0_4 fr_X11_39_10 dX11_copy_20 ?_
      refine J_iload_n dX11_copy_23 rfl rfl ?_
      refine Cl_10 2 rfl (by omega) dX11_copy_24 ?_
      refine J_astore [(0, .ref (r 0)), (1, .int (nI 2)), (2, .int i), (3, .int (nI 1)), (4, .int j), (5, .int k), (6, .ref (r (11 + 2)))] dX11_copy_25 (by decide) rfl rfl rfl ?_
      refine J_aload_n dX11_copy_27 rfl rfl ?_
      refine Cg_0_4 fr_X11_39_10 dX11_copy_28 ?_
      refine J_iload_n dX11_copy_31 rfl rfl ?_
      refine Cl_10 1 rfl (by omega) dX11_copy_32 ?_
      refine J_astore [(0, .ref (r 0)), (1, .int (nI 2)), (2, .int i), (3, .int (nI 1)), (4, .int j), (5, .int k), (6, .ref (r (11 + 2))), (7, .ref (r (11 + 1)))] dX11_copy_33 (by decide) rfl rfl rfl ?_
      refine J_aload dX11_copy_35 rfl ?_
      refine J_cVi (x := yX12_in) [] (11 + 2) mv_X11_227 (c_X8_isLost r s l 2 (by omega)) (cW_sh (by omega)) rfl rfl (by decide) (Nat.le_of_ble_eq_true rfl) ⟨Nat.le_refl _, Nat.le_refl _⟩ dX11_copy_37 ?_
      refine J_if_neB 51 dX11_copy_40 (by decide) (fun c => absurd c (by rw [hls_2]; decide)) (fun _ => ?_)
      refine J_aload dX11_copy_43 rfl ?_
      refine J_cVi (x := yX12_in) [] (11 + 1) mv_X11_227 (c_X8_isLost r s l 1 (by omega)) (cW_sh (by omega)) rfl rfl (by decide) (Nat.le_of_ble_eq_true rfl) ⟨Nat.le_refl _, Nat.le_refl _⟩ dX11_copy_45 ?_
      refine J_if_eqB 57 dX11_copy_48 (by decide) (fun c => absurd c (by rw [hls_1]; decide)) (fun _ => ?_)
      refine J_aload_n dX11_copy_51 rfl rfl ?_
      refine J_iconst (v := nI 1) dX11_copy_52 (by decide) ?_
      refine J_cVi (x := yX12_in) [.int (nI 1)] 0 mv_X11_230 (c_X11_found r s l 1) cW_0 rfl rfl (by decide) (Nat.le_of_ble_eq_true rfl) ⟨Nat.le_refl _, Nat.le_refl _⟩ dX11_copy_53 ?_
      show J G "copy" RX11 cX11_copy 8 (some .int) 0 0 3 Q 0 0 56 [(0, .ref (r 0)), (1, .int (nI 2)), (2, .int i), (3, .int (nI 1)), (4, .int j), (5, .int k), (6, .ref (r (11 + 2))), (7, .ref (r (11 + 1)))] [.int ((-10) - nI 1)] (cW G r (su 50 s (fun _ => nI 1)) l)
      exact J_iret dX11_copy_56 rfl rfl rfl (hq (su 50 s (fun _ => nI 1)) l ((-10) - nI 1, (su 4 σ (fun _ => nI 1))) (by simp [oCopy, fnd, hsp_2, hsp_1, rng_of (show 1 < 4 by decide) (by decide), nI_clamp (show 1 < 2 ^ 31 by decide), rng_of (show 2 < 4 by decide) (by decide), nI_clamp (show 2 < 2 ^ 31 by decide)]) (ci_fnd hC))
    · obtain ⟨z_1, hz60_1, ez_1⟩ := (hL.sh (j := 1) (by decide)).2
      have hz_1 : s 68 1 = nI z_1 := u3_1.trans ez_1
      have hls_1 : decide (s 68 1 = -1) = false := decide_eq_false (by rw [hz_1]; exact fun q => m1_ne (by omega) q.symm)
      obtain ⟨fo_1, hfo_1, efo_1⟩ := (hL.sh (j := 1) (by decide)).1.resolve_left u2_1
      have hsp_1 : 0 ≤ σ 0 1 := by rw [efo_1]; exact nI_nn (by omega)
      have hit_1 : ∀ i, i < z_1 → s 71 i = σ 2 (60 * 1 + i) := u4_1 z_1 ez_1.symm hz60_1
      have ezc_1 : (σ 1 1).toNatClampNeg = z_1 := by rw [ez_1]; exact nI_clamp (by omega)
      refine J_aload_n dX11_copy_19 rfl rfl ?_
      refine Cg_0_4 fr_X11_39_10 dX11_copy_20 ?_
      refine J_iload_n dX11_copy_23 rfl rfl ?_
      refine Cl_10 2 rfl (by omega) dX11_copy_24 ?_
      refine J_astore [(0, .ref (r 0)), (1, .int (nI 2)), (2, .int i), (3, .int (nI 1)), (4, .int j), (5, .int k), (6, .ref (r (11 + 2)))] dX11_copy_25 (by decide) rfl rfl rfl ?_
      refine J_aload_n dX11_copy_27 rfl rfl ?_
      refine Cg_0_4 fr_X11_39_10 dX11_copy_28 ?_
      refine J_iload_n dX11_copy_31 rfl rfl ?_
      refine Cl_10 1 rfl (by omega) dX11_copy_32 ?_
      refine J_astore [(0, .ref (r 0)), (1, .int (nI 2)), (2, .int i), (3, .int (nI 1)), (4, .int j), (5, .int k), (6, .ref (r (11 + 2))), (7, .ref (r (11 + 1)))] dX11_copy_33 (by decide) rfl rfl rfl ?_
      refine J_aload dX11_copy_35 rfl ?_
      refine J_cVi (x := yX12_in) [] (11 + 2) mv_X11_227 (c_X8_isLost r s l 2 (by omega)) (cW_sh (by omega)) rfl rfl (by decide) (Nat.le_of_ble_eq_true rfl) ⟨Nat.le_refl _, Nat.le_refl _⟩ dX11_copy_37 ?_
      refine J_if_neB 51 dX11_copy_40 (by decide) (fun c => absurd c (by rw [hls_2]; decide)) (fun _ => ?_)
      refine J_aload dX11_copy_43 rfl ?_
      refine J_cVi (x := yX12_in) [] (11 + 1) mv_X11_227 (c_X8_isLost r s l 1 (by omega)) (cW_sh (by omega)) rfl rfl (by decide) (Nat.le_of_ble_eq_true rfl) ⟨Nat.le_refl _, Nat.le_refl _⟩ dX11_copy_45 ?_
      refine J_if_eqB 57 dX11_copy_48 (by decide) (fun _ => ?_) (fun c => absurd c (by rw [hls_1]; decide))
      refine J_aload dX11_copy_57 rfl ?_
      refine Cg_sh_1 (s := s) (by omega) fr_X11_279_7 (s 67 2) rfl dX11_copy_59 ?_
      refine J_rw (y := σ 0 2) u1_2.symm ?_
      refine J_aload dX11_copy_62 rfl ?_
      refine Cg_sh_1 (s := s) (by omega) fr_X11_279_7 (s 67 1) rfl dX11_copy_64 ?_
      refine J_rw (y := σ 0 1) u1_1.symm ?_
      refine J_icmp_eq 76 dX11_copy_67 (by decide) (fun kcz1 => ?_) (fun kcz1 => ?_)
      · refine J_aload dX11_copy_76 rfl ?_
        refine J_iload_n dX11_copy_78 rfl rfl ?_
        refine J_iload dX11_copy_79 rfl ?_
        refine J_cVi (x := yX12_in) [.int i, .int k] (11 + 2) mv_X11_282 (c_X8_hasItems r s l 2 (by decide) z_2 hz_2 hz60_2 i k) (cW_sh (by omega)) rfl rfl (by decide) (Nat.le_of_ble_eq_true rfl) ⟨Nat.le_refl _, Nat.le_refl _⟩ dX11_copy_81 ?_
        refine J_if_eqB 99 dX11_copy_84 (by decide) (fun kcz2 => ?_) (fun kcz2 => ?_)
        · have hok : cpOk (nI 2) i (nI 1) j k σ = false := hi_no ez_2 ez_1 hz60_2 hz60_1 (Or.inl kcz2)
          refine J_aload_n dX11_copy_99 rfl rfl ?_
          refine J_iconst (v := nI 2) dX11_copy_100 (by decide) ?_
          refine J_cVi (x := yX12_in) [.int (nI 2)] 0 mv_X11_230 (c_X11_found r s l 2) cW_0 rfl rfl (by decide) (Nat.le_of_ble_eq_true rfl) ⟨Nat.le_refl _, Nat.le_refl _⟩ dX11_copy_101 ?_
          show J G "copy" RX11 cX11_copy 8 (some .int) 0 0 3 Q 0 0 104 [(0, .ref (r 0)), (1, .int (nI 2)), (2, .int i), (3, .int (nI 1)), (4, .int j), (5, .int k), (6, .ref (r (11 + 2))), (7, .ref (r (11 + 1)))] [.int ((-10) - nI 2)] (cW G r (su 50 s (fun _ => nI 2)) l)
          exact J_iret dX11_copy_104 rfl rfl rfl (hq (su 50 s (fun _ => nI 2)) l ((-10) - nI 2, (su 4 σ (fun _ => nI 2))) (by simp [oCopy, fnd, hsp_2, hsp_1, kcz1, kcz2, hok, rng_of (show 1 < 4 by decide) (by decide), nI_clamp (show 1 < 2 ^ 31 by decide), rng_of (show 2 < 4 by decide) (by decide), nI_clamp (show 2 < 2 ^ 31 by decide)]) (ci_fnd hC))
        · refine J_aload dX11_copy_87 rfl ?_
          refine J_iload dX11_copy_89 rfl ?_
          refine J_iload dX11_copy_91 rfl ?_
          refine J_cVi (x := yX12_in) [.int j, .int k] (11 + 1) mv_X11_282 (c_X8_hasItems r s l 1 (by decide) z_1 hz_1 hz60_1 j k) (cW_sh (by omega)) rfl rfl (by decide) (Nat.le_of_ble_eq_true rfl) ⟨Nat.le_refl _, Nat.le_refl _⟩ dX11_copy_93 ?_
          refine J_if_neB 105 dX11_copy_96 (by decide) (fun kcz3 => ?_) (fun kcz3 => ?_)
          · obtain ⟨Ii, Jj, Nn, rfl, rfl, rfl, hc1, hc2⟩ := hi_in kcz2 kcz3 hz60_2 hz60_1
            have eIi : (nI Ii).toNatClampNeg = Ii := nI_clamp (by omega)
            have eJj : (nI Jj).toNatClampNeg = Jj := nI_clamp (by omega)
            have eNn : (nI Nn).toNatClampNeg = Nn := nI_clamp (by omega)
            have hok : cpOk (nI 2) (nI Ii) (nI 1) (nI Jj) (nI Nn) σ = true := hi_cp ez_2 ez_1 hc1 hc2 hz60_2 hz60_1
            refine J_aload dX11_copy_105 rfl ?_
            refine Cg_sh_0 (by omega) fr_X11_285_7 dX11_copy_107 ?_
            refine J_iload_n dX11_copy_110 rfl rfl ?_
            refine J_aload dX11_copy_111 rfl ?_
            refine Cg_sh_0 (by omega) fr_X11_285_7 dX11_copy_113 ?_
            refine J_iload dX11_copy_116 rfl ?_
            refine J_iload dX11_copy_118 rfl ?_
            refine J_copyi (N0 := 60) (N1 := 60) ac_link ac_nat ac_stat ac_init (15 + 2) (15 + 1) (cW G r (su 71 s (va_cpy (s 72) (s 71) Ii Jj Nn)) l) (cW_si (by decide)) (cW_si (by decide)) (cI_nlt (by omega)) (cI_nlt (by omega)) (cI_nlt (by omega)) (by rw [nI_clamp (by omega), nI_clamp (by omega)]; omega) (by rw [nI_clamp (by omega), nI_clamp (by omega)]; omega) (by omega) (by decide) (by rw [nI_clamp (by omega), nI_clamp (by omega), nI_clamp (by omega)]; exact cW_set3 (by decide)) dX11_copy_120 ?_
            show J G "copy" RX11 cX11_copy 8 (some .int) 0 0 3 Q 0 0 123 [(0, .ref (r 0)), (1, .int (nI 2)), (2, .int (nI Ii)), (3, .int (nI 1)), (4, .int (nI Jj)), (5, .int (nI Nn)), (6, .ref (r (11 + 2))), (7, .ref (r (11 + 1)))] [] (cW G r (su 71 s (va_cpy (s 72) (s 71) Ii Jj Nn)) l)
            refine J_iconst (v := nI 1) dX11_copy_123 (by decide) ?_
            exact J_iret dX11_copy_124 rfl rfl rfl (hq (su 71 s (va_cpy (s 72) (s 71) Ii Jj Nn)) l (nI 1, (su 2 σ (fb_put (σ 2) (fun k => σ 2 (60 * 2 + Ii + k)) (60 * 1 + Jj) Nn))) (by simp [oCopy, fnd, hsp_2, hsp_1, kcz1, eIi, eJj, eNn, hok, rng_of (show 1 < 4 by decide) (by decide), nI_clamp (show 1 < 2 ^ 31 by decide), rng_of (show 2 < 4 by decide) (by decide), nI_clamp (show 2 < 2 ^ 31 by decide)]) (ci_copy21 hC ez_2 ez_1 hz60_2 hz60_1 u2_2 u2_1 hc1 hc2))
          · have hok : cpOk (nI 2) i (nI 1) j k σ = false := hi_no ez_2 ez_1 hz60_2 hz60_1 (Or.inr kcz3)
            refine J_aload_n dX11_copy_99 rfl rfl ?_
            refine J_iconst (v := nI 2) dX11_copy_100 (by decide) ?_
            refine J_cVi (x := yX12_in) [.int (nI 2)] 0 mv_X11_230 (c_X11_found r s l 2) cW_0 rfl rfl (by decide) (Nat.le_of_ble_eq_true rfl) ⟨Nat.le_refl _, Nat.le_refl _⟩ dX11_copy_101 ?_
            show J G "copy" RX11 cX11_copy 8 (some .int) 0 0 3 Q 0 0 104 [(0, .ref (r 0)), (1, .int (nI 2)), (2, .int i), (3, .int (nI 1)), (4, .int j), (5, .int k), (6, .ref (r (11 + 2))), (7, .ref (r (11 + 1)))] [.int ((-10) - nI 2)] (cW G r (su 50 s (fun _ => nI 2)) l)
            exact J_iret dX11_copy_104 rfl rfl rfl (hq (su 50 s (fun _ => nI 2)) l ((-10) - nI 2, (su 4 σ (fun _ => nI 2))) (by simp [oCopy, fnd, hsp_2, hsp_1, kcz1, kcz2, kcz3, hok, rng_of (show 1 < 4 by decide) (by decide), nI_clamp (show 1 < 2 ^ 31 by decide), rng_of (show 2 < 4 by decide) (by decide), nI_clamp (show 2 < 2 ^ 31 by decide)]) (ci_fnd hC))
      · refine J_aload_n dX11_copy_70 rfl rfl ?_
        refine J_iconst (v := nI 4) dX11_copy_71 (by decide) ?_
        refine J_cVi (x := yX12_in) [.int (nI 4)] 0 mv_X11_230 (c_X11_found r s l 4) cW_0 rfl rfl (by decide) (Nat.le_of_ble_eq_true rfl) ⟨Nat.le_refl _, Nat.le_refl _⟩ dX11_copy_72 ?_
        show J G "copy" RX11 cX11_copy 8 (some .int) 0 0 3 Q 0 0 75 [(0, .ref (r 0)), (1, .int (nI 2)), (2, .int i), (3, .int (nI 1)), (4, .int j), (5, .int k), (6, .ref (r (11 + 2))), (7, .ref (r (11 + 1)))] [.int ((-10) - nI 4)] (cW G r (su 50 s (fun _ => nI 4)) l)
        exact J_iret dX11_copy_75 rfl rfl rfl (hq (su 50 s (fun _ => nI 4)) l ((-10) - nI 4, (su 4 σ (fun _ => nI 4))) (by simp [oCopy, fnd, hsp_2, hsp_1, kcz1, rng_of (show 1 < 4 by decide) (by decide), nI_clamp (show 1 < 2 ^ 31 by decide), rng_of (show 2 < 4 by decide) (by decide), nI_clamp (show 2 < 2 ^ 31 by decide)]) (ci_fnd hC))
theorem c_X11_copy21 {G : GT} (r : Nat → Nat) (s : St) (l : Nat → Int64) (σ : St) (hL : LI σ) (hC : CI σ s) (i j k : Int32) : Ct G yX11_copy cX11_copy 8 (some .int) 0 0 3 [.ref (r 0), .int (nI 2), .int i, .int (nI 1), .int j, .int k] (cW G r s l) (QC G r (oCopy (nI 2) i (nI 1) j k σ)) := Ct.of rfl (Nat.le_of_ble_eq_true rfl) (j_X11_copy21 r s l σ hL hC i j k (fun x lx a h1 h2 => ⟨x, lx, by rw [h1], rfl, by rw [← h1]; exact h2⟩))
set_option maxRecDepth 100000 in
set_option maxHeartbeats 1000000 in
theorem j_X11_copy22 {G : GT} (r : Nat → Nat) (s : St) (l : Nat → Int64) (σ : St) (hL : LI σ) (hC : CI σ s) (i j k : Int32) {Q : Option Value → va_W → Prop} (hq : ∀ (x : St) (lx : Nat → Int64) (a : Int32 × St), a = oCopy (nI 2) i (nI 2) j k σ → CI a.2 x → Q (some (.int a.1)) (cW G r x lx)) : J G "copy" RX11 cX11_copy 8 (some .int) 0 0 3 Q 0 0 0 [(0, .ref (r 0)), (1, .int (nI 2)), (2, .int i), (3, .int (nI 2)), (4, .int j), (5, .int k)] [] (cW G r s l) := by
  refine J_iload_n dX11_copy_0 rfl rfl ?_
  refine J_iconst (v := nI 4) dX11_copy_1 (by decide) ?_
  refine J_cSi [.int (nI 2), .int (nI 4)] ms_X11_48 (c_X11_isBelowN (cW G r s l) (nI 2) 4) rfl rfl (by decide) (Nat.le_of_ble_eq_true rfl) ⟨Nat.le_refl _, Nat.le_refl _⟩ dX11_copy_2 ?_
  refine J_if_eqB 16 dX11_copy_5 (by decide) (fun c => absurd c (by rw [(show rng (nI 2) 4 = true by decide)]; decide)) (fun _ => ?_)
  refine J_iload_n dX11_copy_8 rfl rfl ?_
  refine J_iconst (v := nI 4) dX11_copy_9 (by decide) ?_
  refine J_cSi [.int (nI 2), .int (nI 4)] ms_X11_48 (c_X11_isBelowN (cW G r s l) (nI 2) 4) rfl rfl (by decide) (Nat.le_of_ble_eq_true rfl) ⟨Nat.le_refl _, Nat.le_refl _⟩ dX11_copy_10 ?_
  refine J_if_neB 19 dX11_copy_13 (by decide) (fun _ => ?_) (fun c => absurd c (by rw [(show rng (nI 2) 4 = true by decide)]; decide))
  rcases hC.2.2.2.2.2.2.1.2.2.1 with ⟨u1_2, u2_2⟩ | ⟨u1_2, u2_2, u3_2, u4_2⟩
  · have hls_2 : decide (s 68 2 = -1) = true := decide_eq_true u1_2
    have hsp_2 : ¬ 0 ≤ σ 0 2 := by rw [u2_2]; decide
    refine J_aload_n dX11_copy_19 rfl rfl ?_
    refine Cg_0_4 fr_X11_39_10 dX11_copy_20 ?_
    refine J_iload_n dX11_copy_23 rfl rfl ?_
    refine Cl_10 2 rfl (by omega) dX11_copy_24 ?_
    refine J_astore [(0, .ref (r 0)), (1, .int (nI 2)), (2, .int i), (3, .int (nI 2)), (4, .int j), (5, .int k), (6, .ref (r (11 + 2)))] dX11_copy_25 (by decide) rfl rfl rfl ?_
    refine J_aload_n dX11_copy_27 rfl rfl ?_
    refine Cg_0_4 fr_X11_39_10 dX11_copy_28 ?_
    refine J_iload_n dX11_copy_31 rfl rfl ?_
    refine Cl_10 2 rfl (by omega) dX11_copy_32 ?_
    refine J_astore [(0, .ref (r 0)), (1, .int (nI 2)), (2, .int i), (3, .int (nI 2)), (4, .int j), (5, .int k), (6, .ref (r (11 + 2))), (7, .ref (r (11 + 2)))] dX11_copy_33 (by decide) rfl rfl rfl ?_
    refine J_aload dX11_copy_35 rfl ?_
    refine J_cVi (x := yX12_in) [] (11 + 2) mv_X11_227 (c_X8_isLost r s l 2 (by omega)) (cW_sh (by omega)) rfl rfl (by decide) (Nat.le_of_ble_eq_true rfl) ⟨Nat.le_refl _, Nat.le_refl _⟩ dX11_copy_37 ?_
    refine J_if_neB 51 dX11_copy_40 (by decide) (fun _ => ?_) (fun c => absurd c (by rw [hls_2]; decide))
    refine J_aload_n dX11_copy_51 rfl rfl ?_
    refine J_iconst (v := nI 1) dX11_copy_52 (by decide) ?_
    refine J_cVi (x := yX12_in) [.int (nI 1)] 0 mv_X11_230 (c_X11_found r s l 1) cW_0 rfl rfl (by decide) (Nat.le_of_ble_eq_true rfl) ⟨Nat.le_refl _, Nat.le_refl _⟩ dX11_copy_53 ?_
    show J G "copy" RX11 cX11_copy 8 (some .int) 0 0 3 Q 0 0 56 [(0, .ref (r 0)), (1, .int (nI 2)), (2, .int i), (3, .int (nI 2)), (4, .int j), (5, .int k), (6, .ref (r (11 + 2))), (7, .ref (r (11 + 2)))] [.int ((-10) - nI 1)] (cW G r (su 50 s (fun _ => nI 1)) l)
    exact J_iret dX11_copy_56 rfl rfl rfl (hq (su 50 s (fun _ => nI 1)) l ((-10) - nI 1, (su 4 σ (fun _ => nI 1))) (by simp [oCopy, fnd, hsp_2, rng_of (show 2 < 4 by decide) (by decide), nI_clamp (show 2 < 2 ^ 31 by decide)]) (ci_fnd hC))
  · obtain ⟨z_2, hz60_2, ez_2⟩ := (hL.sh (j := 2) (by decide)).2
    have hz_2 : s 68 2 = nI z_2 := u3_2.trans ez_2
    have hls_2 : decide (s 68 2 = -1) = false := decide_eq_false (by rw [hz_2]; exact fun q => m1_ne (by omega) q.symm)
    obtain ⟨fo_2, hfo_2, efo_2⟩ := (hL.sh (j := 2) (by decide)).1.resolve_left u2_2
    have hsp_2 : 0 ≤ σ 0 2 := by rw [efo_2]; exact nI_nn (by omega)
    have hit_2 : ∀ i, i < z_2 → s 72 i = σ 2 (60 * 2 + i) := u4_2 z_2 ez_2.symm hz60_2
    have ezc_2 : (σ 1 2).toNatClampNeg = z_2 := by rw [ez_2]; exact nI_clamp (by omega)
    refine J_aload_n dX11_copy_19 rfl rfl ?_
    refine Cg_0_4 fr_X11_39_10 dX11_copy_20 ?_
    refine J_iload_n dX11_copy_23 rfl rfl ?_
    refine Cl_10 2 rfl (by omega) dX11_copy_24 ?_
    refine J_astore [(0, .ref (r 0)), (1, .int (nI 2)), (2, .int i), (3, .int (nI 2)), (4, .int j), (5, .int k), (6, .ref (r (11 + 2)))] dX11_copy_25 (by decide) rfl rfl rfl ?_
    refine J_aload_n dX11_copy_27 rfl rfl ?_
    refine Cg_0_4 fr_X11_39_10 dX11_copy_28 ?_
    refine J_iload_n dX11_copy_31 rfl rfl ?_
    refine Cl_10 2 rfl (by omega) dX11_copy_32 ?_
    refine J_astore [(0, .ref (r 0)), (1, .int (nI 2)), (2, .int i), (3, .int (nI 2)), (4, .int j), (5, .int k), (6, .ref (r (11 + 2))), (7, .ref (r (11 + 2)))] dX11_copy_33 (by decide) rfl rfl rfl ?_
    refine J_aload dX11_copy_35 rfl ?_
    refine J_cVi (x := yX12_in) [] (11 + 2) mv_X11_227 (c_X8_isLost r s l 2 (by omega)) (cW_sh (by omega)) rfl rfl (by decide) (Nat.le_of_ble_eq_true rfl) ⟨Nat.le_refl _, Nat.le_refl _⟩ dX11_copy_37 ?_
    refine J_if_neB 51 dX11_copy_40 (by decide) (fun c => absurd c (by rw [hls_2]; decide)) (fun _ => ?_)
    refine J_aload dX11_copy_43 rfl ?_
    refine J_cVi (x := yX12_in) [] (11 + 2) mv_X11_227 (c_X8_isLost r s l 2 (by omega)) (cW_sh (by omega)) rfl rfl (by decide) (Nat.le_of_ble_eq_true rfl) ⟨Nat.le_refl _, Nat.le_refl _⟩ dX11_copy_45 ?_
    refine J_if_eqB 57 dX11_copy_48 (by decide) (fun _ => ?_) (fun c => absurd c (by rw [hls_2]; decide))
    refine J_aload dX11_copy_57 rfl ?_
    refine Cg_sh_1 (s := s) (by omega) fr_X11_279_7 (s 67 2) rfl dX11_copy_59 ?_
    refine J_rw (y := σ 0 2) u1_2.symm ?_
    refine J_aload dX11_copy_62 rfl ?_
    refine Cg_sh_1 (s := s) (by omega) fr_X11_279_7 (s 67 2) rfl dX11_copy_64 ?_
    refine J_rw (y := σ 0 2) u1_2.symm ?_
    refine J_icmp_eq 76 dX11_copy_67 (by decide) (fun kcz1 => ?_) (fun kcz1 => ?_)
    · refine J_aload dX11_copy_76 rfl ?_
      refine J_iload_n dX11_copy_78 rfl rfl ?_
      refine J_iload dX11_copy_79 rfl ?_
      refine J_cVi (x := yX12_in) [.int i, .int k] (11 + 2) mv_X11_282 (c_X8_hasItems r s l 2 (by decide) z_2 hz_2 hz60_2 i k) (cW_sh (by omega)) rfl rfl (by decide) (Nat.le_of_ble_eq_true rfl) ⟨Nat.le_refl _, Nat.le_refl _⟩ dX11_copy_81 ?_
      refine J_if_eqB 99 dX11_copy_84 (by decide) (fun kcz2 => ?_) (fun kcz2 => ?_)
      · have hok : cpOk (nI 2) i (nI 2) j k σ = false := hi_no ez_2 ez_2 hz60_2 hz60_2 (Or.inl kcz2)
        refine J_aload_n dX11_copy_99 rfl rfl ?_
        refine J_iconst (v := nI 2) dX11_copy_100 (by decide) ?_
        refine J_cVi (x := yX12_in) [.int (nI 2)] 0 mv_X11_230 (c_X11_found r s l 2) cW_0 rfl rfl (by decide) (Nat.le_of_ble_eq_true rfl) ⟨Nat.le_refl _, Nat.le_refl _⟩ dX11_copy_101 ?_
        show J G "copy" RX11 cX11_copy 8 (some .int) 0 0 3 Q 0 0 104 [(0, .ref (r 0)), (1, .int (nI 2)), (2, .int i), (3, .int (nI 2)), (4, .int j), (5, .int k), (6, .ref (r (11 + 2))), (7, .ref (r (11 + 2)))] [.int ((-10) - nI 2)] (cW G r (su 50 s (fun _ => nI 2)) l)
        exact J_iret dX11_copy_104 rfl rfl rfl (hq (su 50 s (fun _ => nI 2)) l ((-10) - nI 2, (su 4 σ (fun _ => nI 2))) (by simp [oCopy, fnd, hsp_2, kcz1, kcz2, hok, rng_of (show 2 < 4 by decide) (by decide), nI_clamp (show 2 < 2 ^ 31 by decide)]) (ci_fnd hC))
      · refine J_aload dX11_copy_87 rfl ?_
        refine J_iload dX11_copy_89 rfl ?_
        refine J_iload dX11_copy_91 rfl ?_
        refine J_cVi (x := yX12_in) [.int j, .int k] (11 + 2) mv_X11_282 (c_X8_hasItems r s l 2 (by decide) z_2 hz_2 hz60_2 j k) (cW_sh (by omega)) rfl rfl (by decide) (Nat.le_of_ble_eq_true rfl) ⟨Nat.le_refl _, Nat.le_refl _⟩ dX11_copy_93 ?_
        refine J_if_neB 105 dX11_copy_96 (by decide) (fun kcz3 => ?_) (fun kcz3 => ?_)
        · obtain ⟨Ii, Jj, Nn, rfl, rfl, rfl, hc1, hc2⟩ := hi_in kcz2 kcz3 hz60_2 hz60_2
          have eIi : (nI Ii).toNatClampNeg = Ii := nI_clamp (by omega)
          have eJj : (nI Jj).toNatClampNeg = Jj := nI_clamp (by omega)
          have eNn : (nI Nn).toNatClampNeg = Nn := nI_clamp (by omega)
          have hok : cpOk (nI 2) (nI Ii) (nI 2) (nI Jj) (nI Nn) σ = true := hi_cp ez_2 ez_2 hc1 hc2 hz60_2 hz60_2
          refine J_aload dX11_copy_105 rfl ?_
          refine Cg_sh_0 (by omega) fr_X11_285_7 dX11_copy_107 ?_
          refine J_iload_n dX11_copy_110 rfl rfl ?_
          refine J_aload dX11_copy_111 rfl ?_
          refine Cg_sh_0 (by omega) fr_X11_285_7 dX11_copy_113 ?_
          refine J_iload dX11_copy_116 rfl ?_
          refine J_iload dX11_copy_118 rfl ?_
          refine J_copyi (N0 := 60) (N1 := 60) ac_link ac_nat ac_stat ac_init (15 + 2) (15 + 2) (cW G r (su 72 s (va_cpy (s 72) (s 72) Ii Jj Nn)) l) (cW_si (by decide)) (cW_si (by decide)) (cI_nlt (by omega)) (cI_nlt (by omega)) (cI_nlt (by omega)) (by rw [nI_clamp (by omega), nI_clamp (by omega)]; omega) (by rw [nI_clamp (by omega), nI_clamp (by omega)]; omega) (by omega) (by decide) (by rw [nI_clamp (by omega), nI_clamp (by omega), nI_clamp (by omega)]; exact cW_set3 (by decide)) dX11_copy_120 ?_
          show J G "copy" RX11 cX11_copy 8 (some .int) 0 0 3 Q 0 0 123 [(0, .ref (r 0)), (1, .int (nI 2)), (2, .int (nI Ii)), (3, .int (nI 2)), (4, .int (nI Jj)), (5, .int (nI Nn)), (6, .ref (r (11 + 2))), (7, .ref (r (11 + 2)))] [] (cW G r (su 72 s (va_cpy (s 72) (s 72) Ii Jj Nn)) l)
          refine J_iconst (v := nI 1) dX11_copy_123 (by decide) ?_
          exact J_iret dX11_copy_124 rfl rfl rfl (hq (su 72 s (va_cpy (s 72) (s 72) Ii Jj Nn)) l (nI 1, (su 2 σ (fb_put (σ 2) (fun k => σ 2 (60 * 2 + Ii + k)) (60 * 2 + Jj) Nn))) (by simp [oCopy, fnd, hsp_2, kcz1, eIi, eJj, eNn, hok, rng_of (show 2 < 4 by decide) (by decide), nI_clamp (show 2 < 2 ^ 31 by decide)]) (ci_copy22 hC ez_2 ez_2 hz60_2 hz60_2 u2_2 u2_2 hc1 hc2))
        · have hok : cpOk (nI 2) i (nI 2) j k σ = false := hi_no ez_2 ez_2 hz60_2 hz60_2 (Or.inr kcz3)
          refine J_aload_n dX11_copy_99 rfl rfl ?_
          refine J_iconst (v := nI 2) dX11_copy_100 (by decide) ?_
          refine J_cVi (x := yX12_in) [.int (nI 2)] 0 mv_X11_230 (c_X11_found r s l 2) cW_0 rfl rfl (by decide) (Nat.le_of_ble_eq_true rfl) ⟨Nat.le_refl _, Nat.le_refl _⟩ dX11_copy_101 ?_
          show J G "copy" RX11 cX11_copy 8 (some .int) 0 0 3 Q 0 0 104 [(0, .ref (r 0)), (1, .int (nI 2)), (2, .int i), (3, .int (nI 2)), (4, .int j), (5, .int k), (6, .ref (r (11 + 2))), (7, .ref (r (11 + 2)))] [.int ((-10) - nI 2)] (cW G r (su 50 s (fun _ => nI 2)) l)
          exact J_iret dX11_copy_104 rfl rfl rfl (hq (su 50 s (fun _ => nI 2)) l ((-10) - nI 2, (su 4 σ (fun _ => nI 2))) (by simp [oCopy, fnd, hsp_2, kcz1, kcz2, kcz3, hok, rng_of (show 2 < 4 by decide) (by decide), nI_clamp (show 2 < 2 ^ 31 by decide)]) (ci_fnd hC))
    · refine J_aload_n dX11_copy_70 rfl rfl ?_
      refine J_iconst (v := nI 4) dX11_copy_71 (by decide) ?_
      refine J_cVi (x := yX12_in) [.int (nI 4)] 0 mv_X11_230 (c_X11_found r s l 4) cW_0 rfl rfl (by decide) (Nat.le_of_ble_eq_true rfl) ⟨Nat.le_refl _, Nat.le_refl _⟩ dX11_copy_72 ?_
      show J G "copy" RX11 cX11_copy 8 (some .int) 0 0 3 Q 0 0 75 [(0, .ref (r 0)), (1, .int (nI 2)), (2, .int i), (3, .int (nI 2)), (4, .int j), (5, .int k), (6, .ref (r (11 + 2))), (7, .ref (r (11 + 2)))] [.int ((-10) - nI 4)] (cW G r (su 50 s (fun _ => nI 4)) l)
      exact J_iret dX11_copy_75 rfl rfl rfl (hq (su 50 s (fun _ => nI 4)) l ((-10) - nI 4, (su 4 σ (fun _ => nI 4))) (absurd rfl kcz1) (ci_fnd hC))
theorem c_X11_copy22 {G : GT} (r : Nat → Nat) (s : St) (l : Nat → Int64) (σ : St) (hL : LI σ) (hC : CI σ s) (i j k : Int32) : Ct G yX11_copy cX11_copy 8 (some .int) 0 0 3 [.ref (r 0), .int (nI 2), .int i, .int (nI 2), .int j, .int k] (cW G r s l) (QC G r (oCopy (nI 2) i (nI 2) j k σ)) := Ct.of rfl (Nat.le_of_ble_eq_true rfl) (j_X11_copy22 r s l σ hL hC i j k (fun x lx a h1 h2 => ⟨x, lx, by rw [h1], rfl, by rw [← h1]; exact h2⟩))
set_option maxRecDepth 100000 in
set_option maxHeartbeats 1000000 in
theorem j_X11_copy23 {G : GT} (r : Nat → Nat) (s : St) (l : Nat → Int64) (σ : St) (hL : LI σ) (hC : CI σ s) (i j k : Int32) {Q : Option Value → va_W → Prop} (hq : ∀ (x : St) (lx : Nat → Int64) (a : Int32 × St), a = oCopy (nI 2) i (nI 3) j k σ → CI a.2 x → Q (some (.int a.1)) (cW G r x lx)) : J G "copy" RX11 cX11_copy 8 (some .int) 0 0 3 Q 0 0 0 [(0, .ref (r 0)), (1, .int (nI 2)), (2, .int i), (3, .int (nI 3)), (4, .int j), (5, .int k)] [] (cW G r s l) := by
  refine J_iload_n dX11_copy_0 rfl rfl ?_
  refine J_iconst (v := nI 4) dX11_copy_1 (by decide) ?_
  refine J_cSi [.int (nI 2), .int (nI 4)] ms_X11_48 (c_X11_isBelowN (cW G r s l) (nI 2) 4) rfl rfl (by decide) (Nat.le_of_ble_eq_true rfl) ⟨Nat.le_refl _, Nat.le_refl _⟩ dX11_copy_2 ?_
  refine J_if_eqB 16 dX11_copy_5 (by decide) (fun c => absurd c (by rw [(show rng (nI 2) 4 = true by decide)]; decide)) (fun _ => ?_)
  refine J_iload_n dX11_copy_8 rfl rfl ?_
  refine J_iconst (v := nI 4) dX11_copy_9 (by decide) ?_
  refine J_cSi [.int (nI 3), .int (nI 4)] ms_X11_48 (c_X11_isBelowN (cW G r s l) (nI 3) 4) rfl rfl (by decide) (Nat.le_of_ble_eq_true rfl) ⟨Nat.le_refl _, Nat.le_refl _⟩ dX11_copy_10 ?_
  refine J_if_neB 19 dX11_copy_13 (by decide) (fun _ => ?_) (fun c => absurd c (by rw [(show rng (nI 3) 4 = true by decide)]; decide))
  rcases hC.2.2.2.2.2.2.1.2.2.1 with ⟨u1_2, u2_2⟩ | ⟨u1_2, u2_2, u3_2, u4_2⟩
  · have hls_2 : decide (s 68 2 = -1) = true := decide_eq_true u1_2
    have hsp_2 : ¬ 0 ≤ σ 0 2 := by rw [u2_2]; decide
    rcases hC.2.2.2.2.2.2.1.2.2.2 with ⟨u1_3, u2_3⟩ | ⟨u1_3, u2_3, u3_3, u4_3⟩
    · have hls_3 : decide (s 68 3 = -1) = true := decide_eq_true u1_3
      have hsp_3 : ¬ 0 ≤ σ 0 3 := by rw [u2_3]; decide
      refine J_aload_n dX11_copy_19 rfl rfl ?_
      refine Cg_0_4 fr_X11_39_10 dX11_copy_20 ?_
      refine J_iload_n dX11_copy_23 rfl rfl ?_
      refine Cl_10 2 rfl (by omega) dX11_copy_24 ?_
      refine J_astore [(0, .ref (r 0)), (1, .int (nI 2)), (2, .int i), (3, .int (nI 3)), (4, .int j), (5, .int k), (6, .ref (r (11 + 2)))] dX11_copy_25 (by decide) rfl rfl rfl ?_
      refine J_aload_n dX11_copy_27 rfl rfl ?_
      refine Cg_0_4 fr_X11_39_10 dX11_copy_28 ?_
      refine J_iload_n dX11_copy_31 rfl rfl ?_
      refine Cl_10 3 rfl (by omega) dX11_copy_32 ?_
      refine J_astore [(0, .ref (r 0)), (1, .int (nI 2)), (2, .int i), (3, .int (nI 3)), (4, .int j), (5, .int k), (6, .ref (r (11 + 2))), (7, .ref (r (11 + 3)))] dX11_copy_33 (by decide) rfl rfl rfl ?_
      refine J_aload dX11_copy_35 rfl ?_
      refine J_cVi (x := yX12_in) [] (11 + 2) mv_X11_227 (c_X8_isLost r s l 2 (by omega)) (cW_sh (by omega)) rfl rfl (by decide) (Nat.le_of_ble_eq_true rfl) ⟨Nat.le_refl _, Nat.le_refl _⟩ dX11_copy_37 ?_
      refine J_if_neB 51 dX11_copy_40 (by decide) (fun _ => ?_) (fun c => absurd c (by rw [hls_2]; decide))
      refine J_aload_n dX11_copy_51 rfl rfl ?_
      refine J_iconst (v := nI 1) dX11_copy_52 (by decide) ?_
      refine J_cVi (x := yX12_in) [.int (nI 1)] 0 mv_X11_230 (c_X11_found r s l 1) cW_0 rfl rfl (by decide) (Nat.le_of_ble_eq_true rfl) ⟨Nat.le_refl _, Nat.le_refl _⟩ dX11_copy_53 ?_
      show J G "copy" RX11 cX11_copy 8 (some .int) 0 0 3 Q 0 0 56 [(0, .ref (r 0)), (1, .int (nI 2)), (2, .int i), (3, .int (nI 3)), (4, .int j), (5, .int k), (6, .ref (r (11 + 2))), (7, .ref (r (11 + 3)))] [.int ((-10) - nI 1)] (cW G r (su 50 s (fun _ => nI 1)) l)
      exact J_iret dX11_copy_56 rfl rfl rfl (hq (su 50 s (fun _ => nI 1)) l ((-10) - nI 1, (su 4 σ (fun _ => nI 1))) (by simp [oCopy, fnd, hsp_2, hsp_3, rng_of (show 2 < 4 by decide) (by decide), nI_clamp (show 2 < 2 ^ 31 by decide), rng_of (show 3 < 4 by decide) (by decide), nI_clamp (show 3 < 2 ^ 31 by decide)]) (ci_fnd hC))
    · obtain ⟨z_3, hz60_3, ez_3⟩ := (hL.sh (j := 3) (by decide)).2
      have hz_3 : s 68 3 = nI z_3 := u3_3.trans ez_3
      have hls_3 : decide (s 68 3 = -1) = false := decide_eq_false (by rw [hz_3]; exact fun q => m1_ne (by omega) q.symm)
      obtain ⟨fo_3, hfo_3, efo_3⟩ := (hL.sh (j := 3) (by decide)).1.resolve_left u2_3
      have hsp_3 : 0 ≤ σ 0 3 := by rw [efo_3]; exact nI_nn (by omega)
      have hit_3 : ∀ i, i < z_3 → s 73 i = σ 2 (60 * 3 + i) := u4_3 z_3 ez_3.symm hz60_3
      have ezc_3 : (σ 1 3).toNatClampNeg = z_3 := by rw [ez_3]; exact nI_clamp (by omega)
      refine J_aload_n dX11_copy_19 rfl rfl ?_
      refine Cg_0_4 fr_X11_39_10 dX11_copy_20 ?_
      refine J_iload_n dX11_copy_23 rfl rfl ?_
      refine Cl_10 2 rfl (by omega) dX11_copy_24 ?_
      refine J_astore [(0, .ref (r 0)), (1, .int (nI 2)), (2, .int i), (3, .int (nI 3)), (4, .int j), (5, .int k), (6, .ref (r (11 + 2)))] dX11_copy_25 (by decide) rfl rfl rfl ?_
      refine J_aload_n dX11_copy_27 rfl rfl ?_
      refine Cg_0_4 fr_X11_39_10 dX11_copy_28 ?_
      refine J_iload_n dX11_copy_31 rfl rfl ?_
      refine Cl_10 3 rfl (by omega) dX11_copy_32 ?_
      refine J_astore [(0, .ref (r 0)), (1, .int (nI 2)), (2, .int i), (3, .int (nI 3)), (4, .int j), (5, .int k), (6, .ref (r (11 + 2))), (7, .ref (r (11 + 3)))] dX11_copy_33 (by decide) rfl rfl rfl ?_
      refine J_aload dX11_copy_35 rfl ?_
      refine J_cVi (x := yX12_in) [] (11 + 2) mv_X11_227 (c_X8_isLost r s l 2 (by omega)) (cW_sh (by omega)) rfl rfl (by decide) (Nat.le_of_ble_eq_true rfl) ⟨Nat.le_refl _, Nat.le_refl _⟩ dX11_copy_37 ?_
      refine J_if_neB 51 dX11_copy_40 (by decide) (fun _ => ?_) (fun c => absurd c (by rw [hls_2]; decide))
      refine J_aload_n dX11_copy_51 rfl rfl ?_
      refine J_iconst (v := nI 1) dX11_copy_52 (by decide) ?_
      refine J_cVi (x := yX12_in) [.int (nI 1)] 0 mv_X11_230 (c_X11_found r s l 1) cW_0 rfl rfl (by decide) (Nat.le_of_ble_eq_true rfl) ⟨Nat.le_refl _, Nat.le_refl _⟩ dX11_copy_53 ?_
      show J G "copy" RX11 cX11_copy 8 (some .int) 0 0 3 Q 0 0 56 [(0, .ref (r 0)), (1, .int (nI 2)), (2, .int i), (3, .int (nI 3)), (4, .int j), (5, .int k), (6, .ref (r (11 + 2))), (7, .ref (r (11 + 3)))] [.int ((-10) - nI 1)] (cW G r (su 50 s (fun _ => nI 1)) l)
      exact J_iret dX11_copy_56 rfl rfl rfl (hq (su 50 s (fun _ => nI 1)) l ((-10) - nI 1, (su 4 σ (fun _ => nI 1))) (by simp [oCopy, fnd, hsp_2, hsp_3, rng_of (show 2 < 4 by decide) (by decide), nI_clamp (show 2 < 2 ^ 31 by decide), rng_of (show 3 < 4 by decide) (by decide), nI_clamp (show 3 < 2 ^ 31 by decide)]) (ci_fnd hC))
  · obtain ⟨z_2, hz60_2, ez_2⟩ := (hL.sh (j := 2) (by decide)).2
    have hz_2 : s 68 2 = nI z_2 := u3_2.trans ez_2
    have hls_2 : decide (s 68 2 = -1) = false := decide_eq_false (by rw [hz_2]; exact fun q => m1_ne (by omega) q.symm)
    obtain ⟨fo_2, hfo_2, efo_2⟩ := (hL.sh (j := 2) (by decide)).1.resolve_left u2_2
    have hsp_2 : 0 ≤ σ 0 2 := by rw [efo_2]; exact nI_nn (by omega)
    have hit_2 : ∀ i, i < z_2 → s 72 i = σ 2 (60 * 2 + i) := u4_2 z_2 ez_2.symm hz60_2
    have ezc_2 : (σ 1 2).toNatClampNeg = z_2 := by rw [ez_2]; exact nI_clamp (by omega)
    rcases hC.2.2.2.2.2.2.1.2.2.2 with ⟨u1_3, u2_3⟩ | ⟨u1_3, u2_3, u3_3, u4_3⟩
    · have hls_3 : decide (s 68 3 = -1) = true := decide_eq_true u1_3
      have hsp_3 : ¬ 0 ≤ σ 0 3 := by rw [u2_3]; decide
      refine J_aload_n dX11_copy_19 rfl rfl ?_
      refine Cg_0_4 fr_X11_39_10 dX11_copy_20 ?_
      refine J_iload_n dX11_copy_23 rfl rfl ?_
      refine Cl_10 2 rfl (by omega) dX11_copy_24 ?_
      refine J_astore [(0, .ref (r 0)), (1, .int (nI 2)), (2, .int i), (3, .int (nI 3)), (4, .int j), (5, .int k), (6, .ref (r (11 + 2)))] dX11_copy_25 (by decide) rfl rfl rfl ?_
      refine J_aload_n dX11_copy_27 rfl rfl ?_
      refine Cg_0_4 fr_X11_39_10 dX11_copy_28 ?_
      refine J_iload_n dX11_copy_31 rfl rfl ?_
      refine Cl_10 3 rfl (by omega) dX11_copy_32 ?_
      refine J_astore [(0, .ref (r 0)), (1, .int (nI 2)), (2, .int i), (3, .int (nI 3)), (4, .int j), (5, .int k), (6, .ref (r (11 + 2))), (7, .ref (r (11 + 3)))] dX11_copy_33 (by decide) rfl rfl rfl ?_
      refine J_aload dX11_copy_35 rfl ?_
      refine J_cVi (x := yX12_in) [] (11 + 2) mv_X11_227 (c_X8_isLost r s l 2 (by omega)) (cW_sh (by omega)) rfl rfl (by decide) (Nat.le_of_ble_eq_true rfl) ⟨Nat.le_refl _, Nat.le_refl _⟩ dX11_copy_37 ?_
      refine J_if_neB 51 dX11_copy_40 (by decide) (fun c => absurd c (by rw [hls_2]; decide)) (fun _ => ?_)
      refine J_aload dX11_copy_43 rfl ?_
      refine J_cVi (x := yX12_in) [] (11 + 3) mv_X11_227 (c_X8_isLost r s l 3 (by omega)) (cW_sh (by omega)) rfl rfl (by decide) (Nat.le_of_ble_eq_true rfl) ⟨Nat.le_refl _, Nat.le_refl _⟩ dX11_copy_45 ?_
      refine J_if_eqB 57 dX11_copy_48 (by decide) (fun c => absurd c (by rw [hls_3]; decide)) (fun _ => ?_)
      refine J_aload_n dX11_copy_51 rfl rfl ?_
      refine J_iconst (v := nI 1) dX11_copy_52 (by decide) ?_
      refine J_cVi (x := yX12_in) [.int (nI 1)] 0 mv_X11_230 (c_X11_found r s l 1) cW_0 rfl rfl (by decide) (Nat.le_of_ble_eq_true rfl) ⟨Nat.le_refl _, Nat.le_refl _⟩ dX11_copy_53 ?_
      show J G "copy" RX11 cX11_copy 8 (some .int) 0 0 3 Q 0 0 56 [(0, .ref (r 0)), (1, .int (nI 2)), (2, .int i), (3, .int (nI 3)), (4, .int j), (5, .int k), (6, .ref (r (11 + 2))), (7, .ref (r (11 + 3)))] [.int ((-10) - nI 1)] (cW G r (su 50 s (fun _ => nI 1)) l)
      exact J_iret dX11_copy_56 rfl rfl rfl (hq (su 50 s (fun _ => nI 1)) l ((-10) - nI 1, (su 4 σ (fun _ => nI 1))) (by simp [oCopy, fnd, hsp_2, hsp_3, rng_of (show 2 < 4 by decide) (by decide), nI_clamp (show 2 < 2 ^ 31 by decide), rng_of (show 3 < 4 by decide) (by decide), nI_clamp (show 3 < 2 ^ 31 by decide)]) (ci_fnd hC))
    · obtain ⟨z_3, hz60_3, ez_3⟩ := (hL.sh (j := 3) (by decide)).2
      have hz_3 : s 68 3 = nI z_3 := u3_3.trans ez_3
      have hls_3 : decide (s 68 3 = -1) = false := decide_eq_false (by rw [hz_3]; exact fun q => m1_ne (by omega) q.symm)
      obtain ⟨fo_3, hfo_3, efo_3⟩ := (hL.sh (j := 3) (by decide)).1.resolve_left u2_3
      have hsp_3 : 0 ≤ σ 0 3 := by rw [efo_3]; exact nI_nn (by omega)
      have hit_3 : ∀ i, i < z_3 → s 73 i = σ 2 (60 * 3 + i) := u4_3 z_3 ez_3.symm hz60_3
      have ezc_3 : (σ 1 3).toNatClampNeg = z_3 := by rw [ez_3]; exact nI_clamp (by omega)
      refine J_aload_n dX11_copy_19 rfl rfl ?_
      refine Cg_0_4 fr_X11_39_10 dX11_copy_20 ?_
      refine J_iload_n dX11_copy_23 rfl rfl ?_
      refine Cl_10 2 rfl (by omega) dX11_copy_24 ?_
      refine J_astore [(0, .ref (r 0)), (1, .int (nI 2)), (2, .int i), (3, .int (nI 3)), (4, .int j), (5, .int k), (6, .ref (r (11 + 2)))] dX11_copy_25 (by decide) rfl rfl rfl ?_
      refine J_aload_n dX11_copy_27 rfl rfl ?_
      refine Cg_0_4 fr_X11_39_10 dX11_copy_28 ?_
      refine J_iload_n dX11_copy_31 rfl rfl ?_
      refine Cl_10 3 rfl (by omega) dX11_copy_32 ?_
      refine J_astore [(0, .ref (r 0)), (1, .int (nI 2)), (2, .int i), (3, .int (nI 3)), (4, .int j), (5, .int k), (6, .ref (r (11 + 2))), (7, .ref (r (11 + 3)))] dX11_copy_33 (by decide) rfl rfl rfl ?_
      refine J_aload dX11_copy_35 rfl ?_
      refine J_cVi (x := yX12_in) [] (11 + 2) mv_X11_227 (c_X8_isLost r s l 2 (by omega)) (cW_sh (by omega)) rfl rfl (by decide) (Nat.le_of_ble_eq_true rfl) ⟨Nat.le_refl _, Nat.le_refl _⟩ dX11_copy_37 ?_
      refine J_if_neB 51 dX11_copy_40 (by decide) (fun c => absurd c (by rw [hls_2]; decide)) (fun _ => ?_)
      refine J_aload dX11_copy_43 rfl ?_
      refine J_cVi (x := yX12_in) [] (11 + 3) mv_X11_227 (c_X8_isLost r s l 3 (by omega)) (cW_sh (by omega)) rfl rfl (by decide) (Nat.le_of_ble_eq_true rfl) ⟨Nat.le_refl _, Nat.le_refl _⟩ dX11_copy_45 ?_
      refine J_if_eqB 57 dX11_copy_48 (by decide) (fun _ => ?_) (fun c => absurd c (by rw [hls_3]; decide))
      refine J_aload dX11_copy_57 rfl ?_
      refine Cg_sh_1 (s := s) (by omega) fr_X11_279_7 (s 67 2) rfl dX11_copy_59 ?_
      refine J_rw (y := σ 0 2) u1_2.symm ?_
      refine J_aload dX11_copy_62 rfl ?_
      refine Cg_sh_1 (s := s) (by omega) fr_X11_279_7 (s 67 3) rfl dX11_copy_64 ?_
      refine J_rw (y := σ 0 3) u1_3.symm ?_
      refine J_icmp_eq 76 dX11_copy_67 (by decide) (fun kcz1 => ?_) (fun kcz1 => ?_)
      · refine J_aload dX11_copy_76 rfl ?_
        refine J_iload_n dX11_copy_78 rfl rfl ?_
        refine J_iload dX11_copy_79 rfl ?_
        refine J_cVi (x := yX12_in) [.int i, .int k] (11 + 2) mv_X11_282 (c_X8_hasItems r s l 2 (by decide) z_2 hz_2 hz60_2 i k) (cW_sh (by omega)) rfl rfl (by decide) (Nat.le_of_ble_eq_true rfl) ⟨Nat.le_refl _, Nat.le_refl _⟩ dX11_copy_81 ?_
        refine J_if_eqB 99 dX11_copy_84 (by decide) (fun kcz2 => ?_) (fun kcz2 => ?_)
        · have hok : cpOk (nI 2) i (nI 3) j k σ = false := hi_no ez_2 ez_3 hz60_2 hz60_3 (Or.inl kcz2)
          refine J_aload_n dX11_copy_99 rfl rfl ?_
          refine J_iconst (v := nI 2) dX11_copy_100 (by decide) ?_
          refine J_cVi (x := yX12_in) [.int (nI 2)] 0 mv_X11_230 (c_X11_found r s l 2) cW_0 rfl rfl (by decide) (Nat.le_of_ble_eq_true rfl) ⟨Nat.le_refl _, Nat.le_refl _⟩ dX11_copy_101 ?_
          show J G "copy" RX11 cX11_copy 8 (some .int) 0 0 3 Q 0 0 104 [(0, .ref (r 0)), (1, .int (nI 2)), (2, .int i), (3, .int (nI 3)), (4, .int j), (5, .int k), (6, .ref (r (11 + 2))), (7, .ref (r (11 + 3)))] [.int ((-10) - nI 2)] (cW G r (su 50 s (fun _ => nI 2)) l)
          exact J_iret dX11_copy_104 rfl rfl rfl (hq (su 50 s (fun _ => nI 2)) l ((-10) - nI 2, (su 4 σ (fun _ => nI 2))) (by simp [oCopy, fnd, hsp_2, hsp_3, kcz1, kcz2, hok, rng_of (show 2 < 4 by decide) (by decide), nI_clamp (show 2 < 2 ^ 31 by decide), rng_of (show 3 < 4 by decide) (by decide), nI_clamp (show 3 < 2 ^ 31 by decide)]) (ci_fnd hC))
        · refine J_aload dX11_copy_87 rfl ?_
          refine J_iload dX11_copy_89 rfl ?_
          refine J_iload dX11_copy_91 rfl ?_
          refine J_cVi (x := yX12_in) [.int j, .int k] (11 + 3) mv_X11_282 (c_X8_hasItems r s l 3 (by decide) z_3 hz_3 hz60_3 j k) (cW_sh (by omega)) rfl rfl (by decide) (Nat.le_of_ble_eq_true rfl) ⟨Nat.le_refl _, Nat.le_refl _⟩ dX11_copy_93 ?_
          refine J_if_neB 105 dX11_copy_96 (by decide) (fun kcz3 => ?_) (fun kcz3 => ?_)
          · obtain ⟨Ii, Jj, Nn, rfl, rfl, rfl, hc1, hc2⟩ := hi_in kcz2 kcz3 hz60_2 hz60_3
            have eIi : (nI Ii).toNatClampNeg = Ii := nI_clamp (by omega)
            have eJj : (nI Jj).toNatClampNeg = Jj := nI_clamp (by omega)
            have eNn : (nI Nn).toNatClampNeg = Nn := nI_clamp (by omega)
            have hok : cpOk (nI 2) (nI Ii) (nI 3) (nI Jj) (nI Nn) σ = true := hi_cp ez_2 ez_3 hc1 hc2 hz60_2 hz60_3
            refine J_aload dX11_copy_105 rfl ?_
            refine Cg_sh_0 (by omega) fr_X11_285_7 dX11_copy_107 ?_
            refine J_iload_n dX11_copy_110 rfl rfl ?_
            refine J_aload dX11_copy_111 rfl ?_
            refine Cg_sh_0 (by omega) fr_X11_285_7 dX11_copy_113 ?_
            refine J_iload dX11_copy_116 rfl ?_
            refine J_iload dX11_copy_118 rfl ?_
            refine J_copyi (N0 := 60) (N1 := 60) ac_link ac_nat ac_stat ac_init (15 + 2) (15 + 3) (cW G r (su 73 s (va_cpy (s 72) (s 73) Ii Jj Nn)) l) (cW_si (by decide)) (cW_si (by decide)) (cI_nlt (by omega)) (cI_nlt (by omega)) (cI_nlt (by omega)) (by rw [nI_clamp (by omega), nI_clamp (by omega)]; omega) (by rw [nI_clamp (by omega), nI_clamp (by omega)]; omega) (by omega) (by decide) (by rw [nI_clamp (by omega), nI_clamp (by omega), nI_clamp (by omega)]; exact cW_set3 (by decide)) dX11_copy_120 ?_
            show J G "copy" RX11 cX11_copy 8 (some .int) 0 0 3 Q 0 0 123 [(0, .ref (r 0)), (1, .int (nI 2)), (2, .int (nI Ii)), (3, .int (nI 3)), (4, .int (nI Jj)), (5, .int (nI Nn)), (6, .ref (r (11 + 2))), (7, .ref (r (11 + 3)))] [] (cW G r (su 73 s (va_cpy (s 72) (s 73) Ii Jj Nn)) l)
            refine J_iconst (v := nI 1) dX11_copy_123 (by decide) ?_
            exact J_iret dX11_copy_124 rfl rfl rfl (hq (su 73 s (va_cpy (s 72) (s 73) Ii Jj Nn)) l (nI 1, (su 2 σ (fb_put (σ 2) (fun k => σ 2 (60 * 2 + Ii + k)) (60 * 3 + Jj) Nn))) (by simp [oCopy, fnd, hsp_2, hsp_3, kcz1, eIi, eJj, eNn, hok, rng_of (show 2 < 4 by decide) (by decide), nI_clamp (show 2 < 2 ^ 31 by decide), rng_of (show 3 < 4 by decide) (by decide), nI_clamp (show 3 < 2 ^ 31 by decide)]) (ci_copy23 hC ez_2 ez_3 hz60_2 hz60_3 u2_2 u2_3 hc1 hc2))
          · have hok : cpOk (nI 2) i (nI 3) j k σ = false := hi_no ez_2 ez_3 hz60_2 hz60_3 (Or.inr kcz3)
            refine J_aload_n dX11_copy_99 rfl rfl ?_
            refine J_iconst (v := nI 2) dX11_copy_100 (by decide) ?_
            refine J_cVi (x := yX12_in) [.int (nI 2)] 0 mv_X11_230 (c_X11_found r s l 2) cW_0 rfl rfl (by decide) (Nat.le_of_ble_eq_true rfl) ⟨Nat.le_refl _, Nat.le_refl _⟩ dX11_copy_101 ?_
            show J G "copy" RX11 cX11_copy 8 (some .int) 0 0 3 Q 0 0 104 [(0, .ref (r 0)), (1, .int (nI 2)), (2, .int i), (3, .int (nI 3)), (4, .int j), (5, .int k), (6, .ref (r (11 + 2))), (7, .ref (r (11 + 3)))] [.int ((-10) - nI 2)] (cW G r (su 50 s (fun _ => nI 2)) l)
            exact J_iret dX11_copy_104 rfl rfl rfl (hq (su 50 s (fun _ => nI 2)) l ((-10) - nI 2, (su 4 σ (fun _ => nI 2))) (by simp [oCopy, fnd, hsp_2, hsp_3, kcz1, kcz2, kcz3, hok, rng_of (show 2 < 4 by decide) (by decide), nI_clamp (show 2 < 2 ^ 31 by decide), rng_of (show 3 < 4 by decide) (by decide), nI_clamp (show 3 < 2 ^ 31 by decide)]) (ci_fnd hC))
      · refine J_aload_n dX11_copy_70 rfl rfl ?_
        refine J_iconst (v := nI 4) dX11_copy_71 (by decide) ?_
        refine J_cVi (x := yX12_in) [.int (nI 4)] 0 mv_X11_230 (c_X11_found r s l 4) cW_0 rfl rfl (by decide) (Nat.le_of_ble_eq_true rfl) ⟨Nat.le_refl _, Nat.le_refl _⟩ dX11_copy_72 ?_
        show J G "copy" RX11 cX11_copy 8 (some .int) 0 0 3 Q 0 0 75 [(0, .ref (r 0)), (1, .int (nI 2)), (2, .int i), (3, .int (nI 3)), (4, .int j), (5, .int k), (6, .ref (r (11 + 2))), (7, .ref (r (11 + 3)))] [.int ((-10) - nI 4)] (cW G r (su 50 s (fun _ => nI 4)) l)
        exact J_iret dX11_copy_75 rfl rfl rfl (hq (su 50 s (fun _ => nI 4)) l ((-10) - nI 4, (su 4 σ (fun _ => nI 4))) (by simp [oCopy, fnd, hsp_2, hsp_3, kcz1, rng_of (show 2 < 4 by decide) (by decide), nI_clamp (show 2 < 2 ^ 31 by decide), rng_of (show 3 < 4 by decide) (by decide), nI_clamp (show 3 < 2 ^ 31 by decide)]) (ci_fnd hC))
theorem c_X11_copy23 {G : GT} (r : Nat → Nat) (s : St) (l : Nat → Int64) (σ : St) (hL : LI σ) (hC : CI σ s) (i j k : Int32) : Ct G yX11_copy cX11_copy 8 (some .int) 0 0 3 [.ref (r 0), .int (nI 2), .int i, .int (nI 3), .int j, .int k] (cW G r s l) (QC G r (oCopy (nI 2) i (nI 3) j k σ)) := Ct.of rfl (Nat.le_of_ble_eq_true rfl) (j_X11_copy23 r s l σ hL hC i j k (fun x lx a h1 h2 => ⟨x, lx, by rw [h1], rfl, by rw [← h1]; exact h2⟩))
set_option maxRecDepth 100000 in
set_option maxHeartbeats 1000000 in
theorem j_X11_copy30 {G : GT} (r : Nat → Nat) (s : St) (l : Nat → Int64) (σ : St) (hL : LI σ) (hC : CI σ s) (i j k : Int32) {Q : Option Value → va_W → Prop} (hq : ∀ (x : St) (lx : Nat → Int64) (a : Int32 × St), a = oCopy (nI 3) i (nI 0) j k σ → CI a.2 x → Q (some (.int a.1)) (cW G r x lx)) : J G "copy" RX11 cX11_copy 8 (some .int) 0 0 3 Q 0 0 0 [(0, .ref (r 0)), (1, .int (nI 3)), (2, .int i), (3, .int (nI 0)), (4, .int j), (5, .int k)] [] (cW G r s l) := by
  refine J_iload_n dX11_copy_0 rfl rfl ?_
  refine J_iconst (v := nI 4) dX11_copy_1 (by decide) ?_
  refine J_cSi [.int (nI 3), .int (nI 4)] ms_X11_48 (c_X11_isBelowN (cW G r s l) (nI 3) 4) rfl rfl (by decide) (Nat.le_of_ble_eq_true rfl) ⟨Nat.le_refl _, Nat.le_refl _⟩ dX11_copy_2 ?_
  refine J_if_eqB 16 dX11_copy_5 (by decide) (fun c => absurd c (by rw [(show rng (nI 3) 4 = true by decide)]; decide)) (fun _ => ?_)
  refine J_iload_n dX11_copy_8 rfl rfl ?_
  refine J_iconst (v := nI 4) dX11_copy_9 (by decide) ?_
  refine J_cSi [.int (nI 0), .int (nI 4)] ms_X11_48 (c_X11_isBelowN (cW G r s l) (nI 0) 4) rfl rfl (by decide) (Nat.le_of_ble_eq_true rfl) ⟨Nat.le_refl _, Nat.le_refl _⟩ dX11_copy_10 ?_
  refine J_if_neB 19 dX11_copy_13 (by decide) (fun _ => ?_) (fun c => absurd c (by rw [(show rng (nI 0) 4 = true by decide)]; decide))
  rcases hC.2.2.2.2.2.2.1.2.2.2 with ⟨u1_3, u2_3⟩ | ⟨u1_3, u2_3, u3_3, u4_3⟩
  · have hls_3 : decide (s 68 3 = -1) = true := decide_eq_true u1_3
    have hsp_3 : ¬ 0 ≤ σ 0 3 := by rw [u2_3]; decide
    rcases hC.2.2.2.2.2.2.1.1 with ⟨u1_0, u2_0⟩ | ⟨u1_0, u2_0, u3_0, u4_0⟩
    · have hls_0 : decide (s 68 0 = -1) = true := decide_eq_true u1_0
      have hsp_0 : ¬ 0 ≤ σ 0 0 := by rw [u2_0]; decide
      refine J_aload_n dX11_copy_19 rfl rfl ?_
      refine Cg_0_4 fr_X11_39_10 dX11_copy_20 ?_
      refine J_iload_n dX11_copy_23 rfl rfl ?_
      refine Cl_10 3 rfl (by omega) dX11_copy_24 ?_
      refine J_astore [(0, .ref (r 0)), (1, .int (nI 3)), (2, .int i), (3, .int (nI 0)), (4, .int j), (5, .int k), (6, .ref (r (11 + 3)))] dX11_copy_25 (by decide) rfl rfl rfl ?_
      refine J_aload_n dX11_copy_27 rfl rfl ?_
      refine Cg_0_4 fr_X11_39_10 dX11_copy_28 ?_
      refine J_iload_n dX11_copy_31 rfl rfl ?_
      refine Cl_10 0 rfl (by omega) dX11_copy_32 ?_
      refine J_astore [(0, .ref (r 0)), (1, .int (nI 3)), (2, .int i), (3, .int (nI 0)), (4, .int j), (5, .int k), (6, .ref (r (11 + 3))), (7, .ref (r (11 + 0)))] dX11_copy_33 (by decide) rfl rfl rfl ?_
      refine J_aload dX11_copy_35 rfl ?_
      refine J_cVi (x := yX12_in) [] (11 + 3) mv_X11_227 (c_X8_isLost r s l 3 (by omega)) (cW_sh (by omega)) rfl rfl (by decide) (Nat.le_of_ble_eq_true rfl) ⟨Nat.le_refl _, Nat.le_refl _⟩ dX11_copy_37 ?_
      refine J_if_neB 51 dX11_copy_40 (by decide) (fun _ => ?_) (fun c => absurd c (by rw [hls_3]; decide))
      refine J_aload_n dX11_copy_51 rfl rfl ?_
      refine J_iconst (v := nI 1) dX11_copy_52 (by decide) ?_
      refine J_cVi (x := yX12_in) [.int (nI 1)] 0 mv_X11_230 (c_X11_found r s l 1) cW_0 rfl rfl (by decide) (Nat.le_of_ble_eq_true rfl) ⟨Nat.le_refl _, Nat.le_refl _⟩ dX11_copy_53 ?_
      show J G "copy" RX11 cX11_copy 8 (some .int) 0 0 3 Q 0 0 56 [(0, .ref (r 0)), (1, .int (nI 3)), (2, .int i), (3, .int (nI 0)), (4, .int j), (5, .int k), (6, .ref (r (11 + 3))), (7, .ref (r (11 + 0)))] [.int ((-10) - nI 1)] (cW G r (su 50 s (fun _ => nI 1)) l)
      exact J_iret dX11_copy_56 rfl rfl rfl (hq (su 50 s (fun _ => nI 1)) l ((-10) - nI 1, (su 4 σ (fun _ => nI 1))) (by simp [oCopy, fnd, hsp_3, hsp_0, rng_of (show 0 < 4 by decide) (by decide), nI_clamp (show 0 < 2 ^ 31 by decide), rng_of (show 3 < 4 by decide) (by decide), nI_clamp (show 3 < 2 ^ 31 by decide)]) (ci_fnd hC))
    · obtain ⟨z_0, hz60_0, ez_0⟩ := (hL.sh (j := 0) (by decide)).2
      have hz_0 : s 68 0 = nI z_0 := u3_0.trans ez_0
      have hls_0 : decide (s 68 0 = -1) = false := decide_eq_false (by rw [hz_0]; exact fun q => m1_ne (by omega) q.symm)
      obtain ⟨fo_0, hfo_0, efo_0⟩ := (hL.sh (j := 0) (by decide)).1.resolve_left u2_0
      have hsp_0 : 0 ≤ σ 0 0 := by rw [efo_0]; exact nI_nn (by omega)
      have hit_0 : ∀ i, i < z_0 → s 70 i = σ 2 (60 * 0 + i) := u4_0 z_0 ez_0.symm hz60_0
      have ezc_0 : (σ 1 0).toNatClampNeg = z_0 := by rw [ez_0]; exact nI_clamp (by omega)
      refine J_aload_n dX11_copy_19 rfl rfl ?_
      refine Cg_0_4 fr_X11_39_10 dX11_copy_20 ?_
      refine J_iload_n dX11_copy_23 rfl rfl ?_
      refine Cl_10 3 rfl (by omega) dX11_copy_24 ?_
      refine J_astore [(0, .ref (r 0)), (1, .int (nI 3)), (2, .int i), (3, .int (nI 0)), (4, .int j), (5, .int k), (6, .ref (r (11 + 3)))] dX11_copy_25 (by decide) rfl rfl rfl ?_
      refine J_aload_n dX11_copy_27 rfl rfl ?_
      refine Cg_0_4 fr_X11_39_10 dX11_copy_28 ?_
      refine J_iload_n dX11_copy_31 rfl rfl ?_
      refine Cl_10 0 rfl (by omega) dX11_copy_32 ?_
      refine J_astore [(0, .ref (r 0)), (1, .int (nI 3)), (2, .int i), (3, .int (nI 0)), (4, .int j), (5, .int k), (6, .ref (r (11 + 3))), (7, .ref (r (11 + 0)))] dX11_copy_33 (by decide) rfl rfl rfl ?_
      refine J_aload dX11_copy_35 rfl ?_
      refine J_cVi (x := yX12_in) [] (11 + 3) mv_X11_227 (c_X8_isLost r s l 3 (by omega)) (cW_sh (by omega)) rfl rfl (by decide) (Nat.le_of_ble_eq_true rfl) ⟨Nat.le_refl _, Nat.le_refl _⟩ dX11_copy_37 ?_
      refine J_if_neB 51 dX11_copy_40 (by decide) (fun _ => ?_) (fun c => absurd c (by rw [hls_3]; decide))
      refine J_aload_n dX11_copy_51 rfl rfl ?_
      refine J_iconst (v := nI 1) dX11_copy_52 (by decide) ?_
      refine J_cVi (x := yX12_in) [.int (nI 1)] 0 mv_X11_230 (c_X11_found r s l 1) cW_0 rfl rfl (by decide) (Nat.le_of_ble_eq_true rfl) ⟨Nat.le_refl _, Nat.le_refl _⟩ dX11_copy_53 ?_
      show J G "copy" RX11 cX11_copy 8 (some .int) 0 0 3 Q 0 0 56 [(0, .ref (r 0)), (1, .int (nI 3)), (2, .int i), (3, .int (nI 0)), (4, .int j), (5, .int k), (6, .ref (r (11 + 3))), (7, .ref (r (11 + 0)))] [.int ((-10) - nI 1)] (cW G r (su 50 s (fun _ => nI 1)) l)
      exact J_iret dX11_copy_56 rfl rfl rfl (hq (su 50 s (fun _ => nI 1)) l ((-10) - nI 1, (su 4 σ (fun _ => nI 1))) (by simp [oCopy, fnd, hsp_3, hsp_0, rng_of (show 0 < 4 by decide) (by decide), nI_clamp (show 0 < 2 ^ 31 by decide), rng_of (show 3 < 4 by decide) (by decide), nI_clamp (show 3 < 2 ^ 31 by decide)]) (ci_fnd hC))
  · obtain ⟨z_3, hz60_3, ez_3⟩ := (hL.sh (j := 3) (by decide)).2
    have hz_3 : s 68 3 = nI z_3 := u3_3.trans ez_3
    have hls_3 : decide (s 68 3 = -1) = false := decide_eq_false (by rw [hz_3]; exact fun q => m1_ne (by omega) q.symm)
    obtain ⟨fo_3, hfo_3, efo_3⟩ := (hL.sh (j := 3) (by decide)).1.resolve_left u2_3
    have hsp_3 : 0 ≤ σ 0 3 := by rw [efo_3]; exact nI_nn (by omega)
    have hit_3 : ∀ i, i < z_3 → s 73 i = σ 2 (60 * 3 + i) := u4_3 z_3 ez_3.symm hz60_3
    have ezc_3 : (σ 1 3).toNatClampNeg = z_3 := by rw [ez_3]; exact nI_clamp (by omega)
    rcases hC.2.2.2.2.2.2.1.1 with ⟨u1_0, u2_0⟩ | ⟨u1_0, u2_0, u3_0, u4_0⟩
    · have hls_0 : decide (s 68 0 = -1) = true := decide_eq_true u1_0
      have hsp_0 : ¬ 0 ≤ σ 0 0 := by rw [u2_0]; decide
      refine J_aload_n dX11_copy_19 rfl rfl ?_
      refine Cg_0_4 fr_X11_39_10 dX11_copy_20 ?_
      refine J_iload_n dX11_copy_23 rfl rfl ?_
      refine Cl_10 3 rfl (by omega) dX11_copy_24 ?_
      refine J_astore [(0, .ref (r 0)), (1, .int (nI 3)), (2, .int i), (3, .int (nI 0)), (4, .int j), (5, .int k), (6, .ref (r (11 + 3)))] dX11_copy_25 (by decide) rfl rfl rfl ?_
      refine J_aload_n dX11_copy_27 rfl rfl ?_
      refine Cg_0_4 fr_X11_39_10 dX11_copy_28 ?_
      refine J_iload_n dX11_copy_31 rfl rfl ?_
      refine Cl_10 0 rfl (by omega) dX11_copy_32 ?_
      refine J_astore [(0, .ref (r 0)), (1, .int (nI 3)), (2, .int i), (3, .int (nI 0)), (4, .int j), (5, .int k), (6, .ref (r (11 + 3))), (7, .ref (r (11 + 0)))] dX11_copy_33 (by decide) rfl rfl rfl ?_
      refine J_aload dX11_copy_35 rfl ?_
      refine J_cVi (x := yX12_in) [] (11 + 3) mv_X11_227 (c_X8_isLost r s l 3 (by omega)) (cW_sh (by omega)) rfl rfl (by decide) (Nat.le_of_ble_eq_true rfl) ⟨Nat.le_refl _, Nat.le_refl _⟩ dX11_copy_37 ?_
      refine J_if_neB 51 dX11_copy_40 (by decide) (fun c => absurd c (by rw [hls_3]; decide)) (fun _ => ?_)
      refine J_aload dX11_copy_43 rfl ?_
      refine J_cVi (x := yX12_in) [] (11 + 0) mv_X11_227 (c_X8_isLost r s l 0 (by omega)) (cW_sh (by omega)) rfl rfl (by decide) (Nat.le_of_ble_eq_true rfl) ⟨Nat.le_refl _, Nat.le_refl _⟩ dX11_copy_45 ?_
      refine J_if_eqB 57 dX11_copy_48 (by decide) (fun c => absurd c (by rw [hls_0]; decide)) (fun _ => ?_)
      refine J_aload_n dX11_copy_51 rfl rfl ?_
      refine J_iconst (v := nI 1) dX11_copy_52 (by decide) ?_
      refine J_cVi (x := yX12_in) [.int (nI 1)] 0 mv_X11_230 (c_X11_found r s l 1) cW_0 rfl rfl (by decide) (Nat.le_of_ble_eq_true rfl) ⟨Nat.le_refl _, Nat.le_refl _⟩ dX11_copy_53 ?_
      show J G "copy" RX11 cX11_copy 8 (some .int) 0 0 3 Q 0 0 56 [(0, .ref (r 0)), (1, .int (nI 3)), (2, .int i), (3, .int (nI 0)), (4, .int j), (5, .int k), (6, .ref (r (11 + 3))), (7, .ref (r (11 + 0)))] [.int ((-10) - nI 1)] (cW G r (su 50 s (fun _ => nI 1)) l)
      exact J_iret dX11_copy_56 rfl rfl rfl (hq (su 50 s (fun _ => nI 1)) l ((-10) - nI 1, (su 4 σ (fun _ => nI 1))) (by simp [oCopy, fnd, hsp_3, hsp_0, rng_of (show 0 < 4 by decide) (by decide), nI_clamp (show 0 < 2 ^ 31 by decide), rng_of (show 3 < 4 by decide) (by decide), nI_clamp (show 3 < 2 ^ 31 by decide)]) (ci_fnd hC))
    · obtain ⟨z_0, hz60_0, ez_0⟩ := (hL.sh (j := 0) (by decide)).2
      have hz_0 : s 68 0 = nI z_0 := u3_0.trans ez_0
      have hls_0 : decide (s 68 0 = -1) = false := decide_eq_false (by rw [hz_0]; exact fun q => m1_ne (by omega) q.symm)
      obtain ⟨fo_0, hfo_0, efo_0⟩ := (hL.sh (j := 0) (by decide)).1.resolve_left u2_0
      have hsp_0 : 0 ≤ σ 0 0 := by rw [efo_0]; exact nI_nn (by omega)
      have hit_0 : ∀ i, i < z_0 → s 70 i = σ 2 (60 * 0 + i) := u4_0 z_0 ez_0.symm hz60_0
      have ezc_0 : (σ 1 0).toNatClampNeg = z_0 := by rw [ez_0]; exact nI_clamp (by omega)
      refine J_aload_n dX11_copy_19 rfl rfl ?_
      refine Cg_0_4 fr_X11_39_10 dX11_copy_20 ?_
      refine J_iload_n dX11_copy_23 rfl rfl ?_
      refine Cl_10 3 rfl (by omega) dX11_copy_24 ?_
      refine J_astore [(0, .ref (r 0)), (1, .int (nI 3)), (2, .int i), (3, .int (nI 0)), (4, .int j), (5, .int k), (6, .ref (r (11 + 3)))] dX11_copy_25 (by decide) rfl rfl rfl ?_
      refine J_aload_n dX11_copy_27 rfl rfl ?_
      refine Cg_0_4 fr_X11_39_10 dX11_copy_28 ?_
      refine J_iload_n dX11_copy_31 rfl rfl ?_
      refine Cl_10 0 rfl (by omega) dX11_copy_32 ?_
      refine J_astore [(0, .ref (r 0)), (1, .int (nI 3)), (2, .int i), (3, .int (nI 0)), (4, .int j), (5, .int k), (6, .ref (r (11 + 3))), (7, .ref (r (11 + 0)))] dX11_copy_33 (by decide) rfl rfl rfl ?_
      refine J_aload dX11_copy_35 rfl ?_
      refine J_cVi (x := yX12_in) [] (11 + 3) mv_X11_227 (c_X8_isLost r s l 3 (by omega)) (cW_sh (by omega)) rfl rfl (by decide) (Nat.le_of_ble_eq_true rfl) ⟨Nat.le_refl _, Nat.le_refl _⟩ dX11_copy_37 ?_
      refine J_if_neB 51 dX11_copy_40 (by decide) (fun c => absurd c (by rw [hls_3]; decide)) (fun _ => ?_)
      refine J_aload dX11_copy_43 rfl ?_
      refine J_cVi (x := yX12_in) [] (11 + 0) mv_X11_227 (c_X8_isLost r s l 0 (by omega)) (cW_sh (by omega)) rfl rfl (by decide) (Nat.le_of_ble_eq_true rfl) ⟨Nat.le_refl _, Nat.le_refl _⟩ dX11_copy_45 ?_
      refine J_if_eqB 57 dX11_copy_48 (by decide) (fun _ => ?_) (fun c => absurd c (by rw [hls_0]; decide))
      refine J_aload dX11_copy_57 rfl ?_
      refine Cg_sh_1 (s := s) (by omega) fr_X11_279_7 (s 67 3) rfl dX11_copy_59 ?_
      refine J_rw (y := σ 0 3) u1_3.symm ?_
      refine J_aload dX11_copy_62 rfl ?_
      refine Cg_sh_1 (s := s) (by omega) fr_X11_279_7 (s 67 0) rfl dX11_copy_64 ?_
      refine J_rw (y := σ 0 0) u1_0.symm ?_
      refine J_icmp_eq 76 dX11_copy_67 (by decide) (fun kcz1 => ?_) (fun kcz1 => ?_)
      · refine J_aload dX11_copy_76 rfl ?_
        refine J_iload_n dX11_copy_78 rfl rfl ?_
        refine J_iload dX11_copy_79 rfl ?_
        refine J_cVi (x := yX12_in) [.int i, .int k] (11 + 3) mv_X11_282 (c_X8_hasItems r s l 3 (by decide) z_3 hz_3 hz60_3 i k) (cW_sh (by omega)) rfl rfl (by decide) (Nat.le_of_ble_eq_true rfl) ⟨Nat.le_refl _, Nat.le_refl _⟩ dX11_copy_81 ?_
        refine J_if_eqB 99 dX11_copy_84 (by decide) (fun kcz2 => ?_) (fun kcz2 => ?_)
        · have hok : cpOk (nI 3) i (nI 0) j k σ = false := hi_no ez_3 ez_0 hz60_3 hz60_0 (Or.inl kcz2)
          refine J_aload_n dX11_copy_99 rfl rfl ?_
          refine J_iconst (v := nI 2) dX11_copy_100 (by decide) ?_
          refine J_cVi (x := yX12_in) [.int (nI 2)] 0 mv_X11_230 (c_X11_found r s l 2) cW_0 rfl rfl (by decide) (Nat.le_of_ble_eq_true rfl) ⟨Nat.le_refl _, Nat.le_refl _⟩ dX11_copy_101 ?_
          show J G "copy" RX11 cX11_copy 8 (some .int) 0 0 3 Q 0 0 104 [(0, .ref (r 0)), (1, .int (nI 3)), (2, .int i), (3, .int (nI 0)), (4, .int j), (5, .int k), (6, .ref (r (11 + 3))), (7, .ref (r (11 + 0)))] [.int ((-10) - nI 2)] (cW G r (su 50 s (fun _ => nI 2)) l)
          exact J_iret dX11_copy_104 rfl rfl rfl (hq (su 50 s (fun _ => nI 2)) l ((-10) - nI 2, (su 4 σ (fun _ => nI 2))) (by simp [oCopy, fnd, hsp_3, hsp_0, kcz1, kcz2, hok, rng_of (show 0 < 4 by decide) (by decide), nI_clamp (show 0 < 2 ^ 31 by decide), rng_of (show 3 < 4 by decide) (by decide), nI_clamp (show 3 < 2 ^ 31 by decide)]) (ci_fnd hC))
        · refine J_aload dX11_copy_87 rfl ?_
          refine J_iload dX11_copy_89 rfl ?_
          refine J_iload dX11_copy_91 rfl ?_
          refine J_cVi (x := yX12_in) [.int j, .int k] (11 + 0) mv_X11_282 (c_X8_hasItems r s l 0 (by decide) z_0 hz_0 hz60_0 j k) (cW_sh (by omega)) rfl rfl (by decide) (Nat.le_of_ble_eq_true rfl) ⟨Nat.le_refl _, Nat.le_refl _⟩ dX11_copy_93 ?_
          refine J_if_neB 105 dX11_copy_96 (by decide) (fun kcz3 => ?_) (fun kcz3 => ?_)
          · obtain ⟨Ii, Jj, Nn, rfl, rfl, rfl, hc1, hc2⟩ := hi_in kcz2 kcz3 hz60_3 hz60_0
            have eIi : (nI Ii).toNatClampNeg = Ii := nI_clamp (by omega)
            have eJj : (nI Jj).toNatClampNeg = Jj := nI_clamp (by omega)
            have eNn : (nI Nn).toNatClampNeg = Nn := nI_clamp (by omega)
            have hok : cpOk (nI 3) (nI Ii) (nI 0) (nI Jj) (nI Nn) σ = true := hi_cp ez_3 ez_0 hc1 hc2 hz60_3 hz60_0
            refine J_aload dX11_copy_105 rfl ?_
            refine Cg_sh_0 (by omega) fr_X11_285_7 dX11_copy_107 ?_
            refine J_iload_n dX11_copy_110 rfl rfl ?_
            refine J_aload dX11_copy_111 rfl ?_
            refine Cg_sh_0 (by omega) fr_X11_285_7 dX11_copy_113 ?_
            refine J_iload dX11_copy_116 rfl ?_
            refine J_iload dX11_copy_118 rfl ?_
            refine J_copyi (N0 := 60) (N1 := 60) ac_link ac_nat ac_stat ac_init (15 + 3) (15 + 0) (cW G r (su 70 s (va_cpy (s 73) (s 70) Ii Jj Nn)) l) (cW_si (by decide)) (cW_si (by decide)) (cI_nlt (by omega)) (cI_nlt (by omega)) (cI_nlt (by omega)) (by rw [nI_clamp (by omega), nI_clamp (by omega)]; omega) (by rw [nI_clamp (by omega), nI_clamp (by omega)]; omega) (by omega) (by decide) (by rw [nI_clamp (by omega), nI_clamp (by omega), nI_clamp (by omega)]; exact cW_set3 (by decide)) dX11_copy_120 ?_
            show J G "copy" RX11 cX11_copy 8 (some .int) 0 0 3 Q 0 0 123 [(0, .ref (r 0)), (1, .int (nI 3)), (2, .int (nI Ii)), (3, .int (nI 0)), (4, .int (nI Jj)), (5, .int (nI Nn)), (6, .ref (r (11 + 3))), (7, .ref (r (11 + 0)))] [] (cW G r (su 70 s (va_cpy (s 73) (s 70) Ii Jj Nn)) l)
            refine J_iconst (v := nI 1) dX11_copy_123 (by decide) ?_
            exact J_iret dX11_copy_124 rfl rfl rfl (hq (su 70 s (va_cpy (s 73) (s 70) Ii Jj Nn)) l (nI 1, (su 2 σ (fb_put (σ 2) (fun k => σ 2 (60 * 3 + Ii + k)) (60 * 0 + Jj) Nn))) (by simp [oCopy, fnd, hsp_3, hsp_0, kcz1, eIi, eJj, eNn, hok, rng_of (show 0 < 4 by decide) (by decide), nI_clamp (show 0 < 2 ^ 31 by decide), rng_of (show 3 < 4 by decide) (by decide), nI_clamp (show 3 < 2 ^ 31 by decide)]) (ci_copy30 hC ez_3 ez_0 hz60_3 hz60_0 u2_3 u2_0 hc1 hc2))
          · have hok : cpOk (nI 3) i (nI 0) j k σ = false := hi_no ez_3 ez_0 hz60_3 hz60_0 (Or.inr kcz3)
            refine J_aload_n dX11_copy_99 rfl rfl ?_
            refine J_iconst (v := nI 2) dX11_copy_100 (by decide) ?_
            refine J_cVi (x := yX12_in) [.int (nI 2)] 0 mv_X11_230 (c_X11_found r s l 2) cW_0 rfl rfl (by decide) (Nat.le_of_ble_eq_true rfl) ⟨Nat.le_refl _, Nat.le_refl _⟩ dX11_copy_101 ?_
            show J G "copy" RX11 cX11_copy 8 (some .int) 0 0 3 Q 0 0 104 [(0, .ref (r 0)), (1, .int (nI 3)), (2, .int i), (3, .int (nI 0)), (4, .int j), (5, .int k), (6, .ref (r (11 + 3))), (7, .ref (r (11 + 0)))] [.int ((-10) - nI 2)] (cW G r (su 50 s (fun _ => nI 2)) l)
            exact J_iret dX11_copy_104 rfl rfl rfl (hq (su 50 s (fun _ => nI 2)) l ((-10) - nI 2, (su 4 σ (fun _ => nI 2))) (by simp [oCopy, fnd, hsp_3, hsp_0, kcz1, kcz2, kcz3, hok, rng_of (show 0 < 4 by decide) (by decide), nI_clamp (show 0 < 2 ^ 31 by decide), rng_of (show 3 < 4 by decide) (by decide), nI_clamp (show 3 < 2 ^ 31 by decide)]) (ci_fnd hC))
      · refine J_aload_n dX11_copy_70 rfl rfl ?_
        refine J_iconst (v := nI 4) dX11_copy_71 (by decide) ?_
        refine J_cVi (x := yX12_in) [.int (nI 4)] 0 mv_X11_230 (c_X11_found r s l 4) cW_0 rfl rfl (by decide) (Nat.le_of_ble_eq_true rfl) ⟨Nat.le_refl _, Nat.le_refl _⟩ dX11_copy_72 ?_
        show J G "copy" RX11 cX11_copy 8 (some .int) 0 0 3 Q 0 0 75 [(0, .ref (r 0)), (1, .int (nI 3)), (2, .int i), (3, .int (nI 0)), (4, .int j), (5, .int k), (6, .ref (r (11 + 3))), (7, .ref (r (11 + 0)))] [.int ((-10) - nI 4)] (cW G r (su 50 s (fun _ => nI 4)) l)
        exact J_iret dX11_copy_75 rfl rfl rfl (hq (su 50 s (fun _ => nI 4)) l ((-10) - nI 4, (su 4 σ (fun _ => nI 4))) (by simp [oCopy, fnd, hsp_3, hsp_0, kcz1, rng_of (show 0 < 4 by decide) (by decide), nI_clamp (show 0 < 2 ^ 31 by decide), rng_of (show 3 < 4 by decide) (by decide), nI_clamp (show 3 < 2 ^ 31 by decide)]) (ci_fnd hC))
theorem c_X11_copy30 {G : GT} (r : Nat → Nat) (s : St) (l : Nat → Int64) (σ : St) (hL : LI σ) (hC : CI σ s) (i j k : Int32) : Ct G yX11_copy cX11_copy 8 (some .int) 0 0 3 [.ref (r 0), .int (nI 3), .int i, .int (nI 0), .int j, .int k] (cW G r s l) (QC G r (oCopy (nI 3) i (nI 0) j k σ)) := Ct.of rfl (Nat.le_of_ble_eq_true rfl) (j_X11_copy30 r s l σ hL hC i j k (fun x lx a h1 h2 => ⟨x, lx, by rw [h1], rfl, by rw [← h1]; exact h2⟩))
set_option maxRecDepth 100000 in
set_option maxHeartbeats 1000000 in
theorem j_X11_copy31 {G : GT} (r : Nat → Nat) (s : St) (l : Nat → Int64) (σ : St) (hL : LI σ) (hC : CI σ s) (i j k : Int32) {Q : Option Value → va_W → Prop} (hq : ∀ (x : St) (lx : Nat → Int64) (a : Int32 × St), a = oCopy (nI 3) i (nI 1) j k σ → CI a.2 x → Q (some (.int a.1)) (cW G r x lx)) : J G "copy" RX11 cX11_copy 8 (some .int) 0 0 3 Q 0 0 0 [(0, .ref (r 0)), (1, .int (nI 3)), (2, .int i), (3, .int (nI 1)), (4, .int j), (5, .int k)] [] (cW G r s l) := by
  refine J_iload_n dX11_copy_0 rfl rfl ?_
  refine J_iconst (v := nI 4) dX11_copy_1 (by decide) ?_
  refine J_cSi [.int (nI 3), .int (nI 4)] ms_X11_48 (c_X11_isBelowN (cW G r s l) (nI 3) 4) rfl rfl (by decide) (Nat.le_of_ble_eq_true rfl) ⟨Nat.le_refl _, Nat.le_refl _⟩ dX11_copy_2 ?_
  refine J_if_eqB 16 dX11_copy_5 (by decide) (fun c => absurd c (by rw [(show rng (nI 3) 4 = true by decide)]; decide)) (fun _ => ?_)
  refine J_iload_n dX11_copy_8 rfl rfl ?_
  refine J_iconst (v := nI 4) dX11_copy_9 (by decide) ?_
  refine J_cSi [.int (nI 1), .int (nI 4)] ms_X11_48 (c_X11_isBelowN (cW G r s l) (nI 1) 4) rfl rfl (by decide) (Nat.le_of_ble_eq_true rfl) ⟨Nat.le_refl _, Nat.le_refl _⟩ dX11_copy_10 ?_
  refine J_if_neB 19 dX11_copy_13 (by decide) (fun _ => ?_) (fun c => absurd c (by rw [(show rng (nI 1) 4 = true by decide)]; decide))
  rcases hC.2.2.2.2.2.2.1.2.2.2 with ⟨u1_3, u2_3⟩ | ⟨u1_3, u2_3, u3_3, u4_3⟩
  · have hls_3 : decide (s 68 3 = -1) = true := decide_eq_true u1_3
    have hsp_3 : ¬ 0 ≤ σ 0 3 := by rw [u2_3]; decide
    rcases hC.2.2.2.2.2.2.1.2.1 with ⟨u1_1, u2_1⟩ | ⟨u1_1, u2_1, u3_1, u4_1⟩
    · have hls_1 : decide (s 68 1 = -1) = true := decide_eq_true u1_1
      have hsp_1 : ¬ 0 ≤ σ 0 1 := by rw [u2_1]; decide
      refine J_aload_n dX11_copy_19 rfl rfl ?_
      refine Cg_0_4 fr_X11_39_10 dX11_copy_20 ?_
      refine J_iload_n dX11_copy_23 rfl rfl ?_
      refine Cl_10 3 rfl (by omega) dX11_copy_24 ?_
      refine J_astore [(0, .ref (r 0)), (1, .int (nI 3)), (2, .int i), (3, .int (nI 1)), (4, .int j), (5, .int k), (6, .ref (r (11 + 3)))] dX11_copy_25 (by decide) rfl rfl rfl ?_
      refine J_aload_n dX11_copy_27 rfl rfl ?_
      refine Cg_0_4 fr_X11_39_10 dX11_copy_28 ?_
      refine J_iload_n dX11_copy_31 rfl rfl ?_
      refine Cl_10 1 rfl (by omega) dX11_copy_32 ?_
      refine J_astore [(0, .ref (r 0)), (1, .int (nI 3)), (2, .int i), (3, .int (nI 1)), (4, .int j), (5, .int k), (6, .ref (r (11 + 3))), (7, .ref (r (11 + 1)))] dX11_copy_33 (by decide) rfl rfl rfl ?_
      refine J_aload dX11_copy_35 rfl ?_
      refine J_cVi (x := yX12_in) [] (11 + 3) mv_X11_227 (c_X8_isLost r s l 3 (by omega)) (cW_sh (by omega)) rfl rfl (by decide) (Nat.le_of_ble_eq_true rfl) ⟨Nat.le_refl _, Nat.le_refl _⟩ dX11_copy_37 ?_
      refine J_if_neB 51 dX11_copy_40 (by decide) (fun _ => ?_) (fun c => absurd c (by rw [hls_3]; decide))
      refine J_aload_n dX11_copy_51 rfl rfl ?_
      refine J_iconst (v := nI 1) dX11_copy_52 (by decide) ?_
      refine J_cVi (x := yX12_in) [.int (nI 1)] 0 mv_X11_230 (c_X11_found r s l 1) cW_0 rfl rfl (by decide) (Nat.le_of_ble_eq_true rfl) ⟨Nat.le_refl _, Nat.le_refl _⟩ dX11_copy_53 ?_
      show J G "copy" RX11 cX11_copy 8 (some .int) 0 0 3 Q 0 0 56 [(0, .ref (r 0)), (1, .int (nI 3)), (2, .int i), (3, .int (nI 1)), (4, .int j), (5, .int k), (6, .ref (r (11 + 3))), (7, .ref (r (11 + 1)))] [.int ((-10) - nI 1)] (cW G r (su 50 s (fun _ => nI 1)) l)
      exact J_iret dX11_copy_56 rfl rfl rfl (hq (su 50 s (fun _ => nI 1)) l ((-10) - nI 1, (su 4 σ (fun _ => nI 1))) (by simp [oCopy, fnd, hsp_3, hsp_1, rng_of (show 1 < 4 by decide) (by decide), nI_clamp (show 1 < 2 ^ 31 by decide), rng_of (show 3 < 4 by decide) (by decide), nI_clamp (show 3 < 2 ^ 31 by decide)]) (ci_fnd hC))
    · obtain ⟨z_1, hz60_1, ez_1⟩ := (hL.sh (j := 1) (by decide)).2
      have hz_1 : s 68 1 = nI z_1 := u3_1.trans ez_1
      have hls_1 : decide (s 68 1 = -1) = false := decide_eq_false (by rw [hz_1]; exact fun q => m1_ne (by omega) q.symm)
      obtain ⟨fo_1, hfo_1, efo_1⟩ := (hL.sh (j := 1) (by decide)).1.resolve_left u2_1
      have hsp_1 : 0 ≤ σ 0 1 := by rw [efo_1]; exact nI_nn (by omega)
      have hit_1 : ∀ i, i < z_1 → s 71 i = σ 2 (60 * 1 + i) := u4_1 z_1 ez_1.symm hz60_1
      have ezc_1 : (σ 1 1).toNatClampNeg = z_1 := by rw [ez_1]; exact nI_clamp (by omega)
      refine J_aload_n dX11_copy_19 rfl rfl ?_
      refine Cg_0_4 fr_X11_39_10 dX11_copy_20 ?_
      refine J_iload_n dX11_copy_23 rfl rfl ?_
      refine Cl_10 3 rfl (by omega) dX11_copy_24 ?_
      refine J_astore [(0, .ref (r 0)), (1, .int (nI 3)), (2, .int i), (3, .int (nI 1)), (4, .int j), (5, .int k), (6, .ref (r (11 + 3)))] dX11_copy_25 (by decide) rfl rfl rfl ?_
      refine J_aload_n dX11_copy_27 rfl rfl ?_
      refine Cg_0_4 fr_X11_39_10 dX11_copy_28 ?_
      refine J_iload_n dX11_copy_31 rfl rfl ?_
      refine Cl_10 1 rfl (by omega) dX11_copy_32 ?_
      refine J_astore [(0, .ref (r 0)), (1, .int (nI 3)), (2, .int i), (3, .int (nI 1)), (4, .int j), (5, .int k), (6, .ref (r (11 + 3))), (7, .ref (r (11 + 1)))] dX11_copy_33 (by decide) rfl rfl rfl ?_
      refine J_aload dX11_copy_35 rfl ?_
      refine J_cVi (x := yX12_in) [] (11 + 3) mv_X11_227 (c_X8_isLost r s l 3 (by omega)) (cW_sh (by omega)) rfl rfl (by decide) (Nat.le_of_ble_eq_true rfl) ⟨Nat.le_refl _, Nat.le_refl _⟩ dX11_copy_37 ?_
      refine J_if_neB 51 dX11_copy_40 (by decide) (fun _ => ?_) (fun c => absurd c (by rw [hls_3]; decide))
      refine J_aload_n dX11_copy_51 rfl rfl ?_
      refine J_iconst (v := nI 1) dX11_copy_52 (by decide) ?_
      refine J_cVi (x := yX12_in) [.int (nI 1)] 0 mv_X11_230 (c_X11_found r s l 1) cW_0 rfl rfl (by decide) (Nat.le_of_ble_eq_true rfl) ⟨Nat.le_refl _, Nat.le_refl _⟩ dX11_copy_53 ?_
      show J G "copy" RX11 cX11_copy 8 (some .int) 0 0 3 Q 0 0 56 [(0, .ref (r 0)), (1, .int (nI 3)), (2, .int i), (3, .int (nI 1)), (4, .int j), (5, .int k), (6, .ref (r (11 + 3))), (7, .ref (r (11 + 1)))] [.int ((-10) - nI 1)] (cW G r (su 50 s (fun _ => nI 1)) l)
      exact J_iret dX11_copy_56 rfl rfl rfl (hq (su 50 s (fun _ => nI 1)) l ((-10) - nI 1, (su 4 σ (fun _ => nI 1))) (by simp [oCopy, fnd, hsp_3, hsp_1, rng_of (show 1 < 4 by decide) (by decide), nI_clamp (show 1 < 2 ^ 31 by decide), rng_of (show 3 < 4 by decide) (by decide), nI_clamp (show 3 < 2 ^ 31 by decide)]) (ci_fnd hC))
  · obtain ⟨z_3, hz60_3, ez_3⟩ := (hL.sh (j := 3) (by decide)).2
    have hz_3 : s 68 3 = nI z_3 := u3_3.trans ez_3
    have hls_3 : decide (s 68 3 = -1) = false := decide_eq_false (by rw [hz_3]; exact fun q => m1_ne (by omega) q.symm)
    obtain ⟨fo_3, hfo_3, efo_3⟩ := (hL.sh (j := 3) (by decide)).1.resolve_left u2_3
    have hsp_3 : 0 ≤ σ 0 3 := by rw [efo_3]; exact nI_nn (by omega)
    have hit_3 : ∀ i, i < z_3 → s 73 i = σ 2 (60 * 3 + i) := u4_3 z_3 ez_3.symm hz60_3
    have ezc_3 : (σ 1 3).toNatClampNeg = z_3 := by rw [ez_3]; exact nI_clamp (by omega)
    rcases hC.2.2.2.2.2.2.1.2.1 with ⟨u1_1, u2_1⟩ | ⟨u1_1, u2_1, u3_1, u4_1⟩
    · have hls_1 : decide (s 68 1 = -1) = true := decide_eq_true u1_1
      have hsp_1 : ¬ 0 ≤ σ 0 1 := by rw [u2_1]; decide
      refine J_aload_n dX11_copy_19 rfl rfl ?_
      refine Cg_0_4 fr_X11_39_10 dX11_copy_20 ?_
      refine J_iload_n dX11_copy_23 rfl rfl ?_
      refine Cl_10 3 rfl (by omega) dX11_copy_24 ?_
      refine J_astore [(0, .ref (r 0)), (1, .int (nI 3)), (2, .int i), (3, .int (nI 1)), (4, .int j), (5, .int k), (6, .ref (r (11 + 3)))] dX11_copy_25 (by decide) rfl rfl rfl ?_
      refine J_aload_n dX11_copy_27 rfl rfl ?_
      refine Cg_0_4 fr_X11_39_10 dX11_copy_28 ?_
      refine J_iload_n dX11_copy_31 rfl rfl ?_
      refine Cl_10 1 rfl (by omega) dX11_copy_32 ?_
      refine J_astore [(0, .ref (r 0)), (1, .int (nI 3)), (2, .int i), (3, .int (nI 1)), (4, .int j), (5, .int k), (6, .ref (r (11 + 3))), (7, .ref (r (11 + 1)))] dX11_copy_33 (by decide) rfl rfl rfl ?_
      refine J_aload dX11_copy_35 rfl ?_
      refine J_cVi (x := yX12_in) [] (11 + 3) mv_X11_227 (c_X8_isLost r s l 3 (by omega)) (cW_sh (by omega)) rfl rfl (by decide) (Nat.le_of_ble_eq_true rfl) ⟨Nat.le_refl _, Nat.le_refl _⟩ dX11_copy_37 ?_
      refine J_if_neB 51 dX11_copy_40 (by decide) (fun c => absurd c (by rw [hls_3]; decide)) (fun _ => ?_)
      refine J_aload dX11_copy_43 rfl ?_
      refine J_cVi (x := yX12_in) [] (11 + 1) mv_X11_227 (c_X8_isLost r s l 1 (by omega)) (cW_sh (by omega)) rfl rfl (by decide) (Nat.le_of_ble_eq_true rfl) ⟨Nat.le_refl _, Nat.le_refl _⟩ dX11_copy_45 ?_
      refine J_if_eqB 57 dX11_copy_48 (by decide) (fun c => absurd c (by rw [hls_1]; decide)) (fun _ => ?_)
      refine J_aload_n dX11_copy_51 rfl rfl ?_
      refine J_iconst (v := nI 1) dX11_copy_52 (by decide) ?_
      refine J_cVi (x := yX12_in) [.int (nI 1)] 0 mv_X11_230 (c_X11_found r s l 1) cW_0 rfl rfl (by decide) (Nat.le_of_ble_eq_true rfl) ⟨Nat.le_refl _, Nat.le_refl _⟩ dX11_copy_53 ?_
      show J G "copy" RX11 cX11_copy 8 (some .int) 0 0 3 Q 0 0 56 [(0, .ref (r 0)), (1, .int (nI 3)), (2, .int i), (3, .int (nI 1)), (4, .int j), (5, .int k), (6, .ref (r (11 + 3))), (7, .ref (r (11 + 1)))] [.int ((-10) - nI 1)] (cW G r (su 50 s (fun _ => nI 1)) l)
      exact J_iret dX11_copy_56 rfl rfl rfl (hq (su 50 s (fun _ => nI 1)) l ((-10) - nI 1, (su 4 σ (fun _ => nI 1))) (by simp [oCopy, fnd, hsp_3, hsp_1, rng_of (show 1 < 4 by decide) (by decide), nI_clamp (show 1 < 2 ^ 31 by decide), rng_of (show 3 < 4 by decide) (by decide), nI_clamp (show 3 < 2 ^ 31 by decide)]) (ci_fnd hC))
    · obtain ⟨z_1, hz60_1, ez_1⟩ := (hL.sh (j := 1) (by decide)).2
      have hz_1 : s 68 1 = nI z_1 := u3_1.trans ez_1
      have hls_1 : decide (s 68 1 = -1) = false := decide_eq_false (by rw [hz_1]; exact fun q => m1_ne (by omega) q.symm)
      obtain ⟨fo_1, hfo_1, efo_1⟩ := (hL.sh (j := 1) (by decide)).1.resolve_left u2_1
      have hsp_1 : 0 ≤ σ 0 1 := by rw [efo_1]; exact nI_nn (by omega)
      have hit_1 : ∀ i, i < z_1 → s 71 i = σ 2 (60 * 1 + i) := u4_1 z_1 ez_1.symm hz60_1
      have ezc_1 : (σ 1 1).toNatClampNeg = z_1 := by rw [ez_1]; exact nI_clamp (by omega)
      refine J_aload_n dX11_copy_19 rfl rfl ?_
      refine Cg_0_4 fr_X11_39_10 dX11_copy_20 ?_
      refine J_iload_n dX11_copy_23 rfl rfl ?_
      refine Cl_10 3 rfl (by omega) dX11_copy_24 ?_
      refine J_astore [(0, .ref (r 0)), (1, .int (nI 3)), (2, .int i), (3, .int (nI 1)), (4, .int j), (5, .int k), (6, .ref (r (11 + 3)))] dX11_copy_25 (by decide) rfl rfl rfl ?_
      refine J_aload_n dX11_copy_27 rfl rfl ?_
      refine Cg_0_4 fr_X11_39_10 dX11_copy_28 ?_
      refine J_iload_n dX11_copy_31 rfl rfl ?_
      refine Cl_10 1 rfl (by omega) dX11_copy_32 ?_
      refine J_astore [(0, .ref (r 0)), (1, .int (nI 3)), (2, .int i), (3, .int (nI 1)), (4, .int j), (5, .int k), (6, .ref (r (11 + 3))), (7, .ref (r (11 + 1)))] dX11_copy_33 (by decide) rfl rfl rfl ?_
      refine J_aload dX11_copy_35 rfl ?_
      refine J_cVi (x := yX12_in) [] (11 + 3) mv_X11_227 (c_X8_isLost r s l 3 (by omega)) (cW_sh (by omega)) rfl rfl (by decide) (Nat.le_of_ble_eq_true rfl) ⟨Nat.le_refl _, Nat.le_refl _⟩ dX11_copy_37 ?_
      refine J_if_neB 51 dX11_copy_40 (by decide) (fun c => absurd c (by rw [hls_3]; decide)) (fun _ => ?_)
      refine J_aload dX11_copy_43 rfl ?_
      refine J_cVi (x := yX12_in) [] (11 + 1) mv_X11_227 (c_X8_isLost r s l 1 (by omega)) (cW_sh (by omega)) rfl rfl (by decide) (Nat.le_of_ble_eq_true rfl) ⟨Nat.le_refl _, Nat.le_refl _⟩ dX11_copy_45 ?_
      refine J_if_eqB 57 dX11_copy_48 (by decide) (fun _ => ?_) (fun c => absurd c (by rw [hls_1]; decide))
      refine J_aload dX11_copy_57 rfl ?_
      refine Cg_sh_1 (s := s) (by omega) fr_X11_279_7 (s 67 3) rfl dX11_copy_59 ?_
      refine J_rw (y := σ 0 3) u1_3.symm ?_
      refine J_aload dX11_copy_62 rfl ?_
      refine Cg_sh_1 (s := s) (by omega) fr_X11_279_7 (s 67 1) rfl dX11_copy_64 ?_
      refine J_rw (y := σ 0 1) u1_1.symm ?_
      refine J_icmp_eq 76 dX11_copy_67 (by decide) (fun kcz1 => ?_) (fun kcz1 => ?_)
      · refine J_aload dX11_copy_76 rfl ?_
        refine J_iload_n dX11_copy_78 rfl rfl ?_
        refine J_iload dX11_copy_79 rfl ?_
        refine J_cVi (x := yX12_in) [.int i, .int k] (11 + 3) mv_X11_282 (c_X8_hasItems r s l 3 (by decide) z_3 hz_3 hz60_3 i k) (cW_sh (by omega)) rfl rfl (by decide) (Nat.le_of_ble_eq_true rfl) ⟨Nat.le_refl _, Nat.le_refl _⟩ dX11_copy_81 ?_
        refine J_if_eqB 99 dX11_copy_84 (by decide) (fun kcz2 => ?_) (fun kcz2 => ?_)
        · have hok : cpOk (nI 3) i (nI 1) j k σ = false := hi_no ez_3 ez_1 hz60_3 hz60_1 (Or.inl kcz2)
          refine J_aload_n dX11_copy_99 rfl rfl ?_
          refine J_iconst (v := nI 2) dX11_copy_100 (by decide) ?_
          refine J_cVi (x := yX12_in) [.int (nI 2)] 0 mv_X11_230 (c_X11_found r s l 2) cW_0 rfl rfl (by decide) (Nat.le_of_ble_eq_true rfl) ⟨Nat.le_refl _, Nat.le_refl _⟩ dX11_copy_101 ?_
          show J G "copy" RX11 cX11_copy 8 (some .int) 0 0 3 Q 0 0 104 [(0, .ref (r 0)), (1, .int (nI 3)), (2, .int i), (3, .int (nI 1)), (4, .int j), (5, .int k), (6, .ref (r (11 + 3))), (7, .ref (r (11 + 1)))] [.int ((-10) - nI 2)] (cW G r (su 50 s (fun _ => nI 2)) l)
          exact J_iret dX11_copy_104 rfl rfl rfl (hq (su 50 s (fun _ => nI 2)) l ((-10) - nI 2, (su 4 σ (fun _ => nI 2))) (by simp [oCopy, fnd, hsp_3, hsp_1, kcz1, kcz2, hok, rng_of (show 1 < 4 by decide) (by decide), nI_clamp (show 1 < 2 ^ 31 by decide), rng_of (show 3 < 4 by decide) (by decide), nI_clamp (show 3 < 2 ^ 31 by decide)]) (ci_fnd hC))
        · refine J_aload dX11_copy_87 rfl ?_
          refine J_iload dX11_copy_89 rfl ?_
          refine J_iload dX11_copy_91 rfl ?_
          refine J_cVi (x := yX12_in) [.int j, .int k] (11 + 1) mv_X11_282 (c_X8_hasItems r s l 1 (by decide) z_1 hz_1 hz60_1 j k) (cW_sh (by omega)) rfl rfl (by decide) (Nat.le_of_ble_eq_true rfl) ⟨Nat.le_refl _, Nat.le_refl _⟩ dX11_copy_93 ?_
          refine J_if_neB 105 dX11_copy_96 (by decide) (fun kcz3 => ?_) (fun kcz3 => ?_)
          · obtain ⟨Ii, Jj, Nn, rfl, rfl, rfl, hc1, hc2⟩ := hi_in kcz2 kcz3 hz60_3 hz60_1
            have eIi : (nI Ii).toNatClampNeg = Ii := nI_clamp (by omega)
            have eJj : (nI Jj).toNatClampNeg = Jj := nI_clamp (by omega)
            have eNn : (nI Nn).toNatClampNeg = Nn := nI_clamp (by omega)
            have hok : cpOk (nI 3) (nI Ii) (nI 1) (nI Jj) (nI Nn) σ = true := hi_cp ez_3 ez_1 hc1 hc2 hz60_3 hz60_1
            refine J_aload dX11_copy_105 rfl ?_
            refine Cg_sh_0 (by omega) fr_X11_285_7 dX11_copy_107 ?_
            refine J_iload_n dX11_copy_110 rfl rfl ?_
            refine J_aload dX11_copy_111 rfl ?_
            refine Cg_sh_0 (by omega) fr_X11_285_7 dX11_copy_113 ?_
            refine J_iload dX11_copy_116 rfl ?_
            refine J_iload dX11_copy_118 rfl ?_
            refine J_copyi (N0 := 60) (N1 := 60) ac_link ac_nat ac_stat ac_init (15 + 3) (15 + 1) (cW G r (su 71 s (va_cpy (s 73) (s 71) Ii Jj Nn)) l) (cW_si (by decide)) (cW_si (by decide)) (cI_nlt (by omega)) (cI_nlt (by omega)) (cI_nlt (by omega)) (by rw [nI_clamp (by omega), nI_clamp (by omega)]; omega) (by rw [nI_clamp (by omega), nI_clamp (by omega)]; omega) (by omega) (by decide) (by rw [nI_clamp (by omega), nI_clamp (by omega), nI_clamp (by omega)]; exact cW_set3 (by decide)) dX11_copy_120 ?_
            show J G "copy" RX11 cX11_copy 8 (some .int) 0 0 3 Q 0 0 123 [(0, .ref (r 0)), (1, .int (nI 3)), (2, .int (nI Ii)), (3, .int (nI 1)), (4, .int (nI Jj)), (5, .int (nI Nn)), (6, .ref (r (11 + 3))), (7, .ref (r (11 + 1)))] [] (cW G r (su 71 s (va_cpy (s 73) (s 71) Ii Jj Nn)) l)
            refine J_iconst (v := nI 1) dX11_copy_123 (by decide) ?_
            exact J_iret dX11_copy_124 rfl rfl rfl (hq (su 71 s (va_cpy (s 73) (s 71) Ii Jj Nn)) l (nI 1, (su 2 σ (fb_put (σ 2) (fun k => σ 2 (60 * 3 + Ii + k)) (60 * 1 + Jj) Nn))) (by simp [oCopy, fnd, hsp_3, hsp_1, kcz1, eIi, eJj, eNn, hok, rng_of (show 1 < 4 by decide) (by decide), nI_clamp (show 1 < 2 ^ 31 by decide), rng_of (show 3 < 4 by decide) (by decide), nI_clamp (show 3 < 2 ^ 31 by decide)]) (ci_copy31 hC ez_3 ez_1 hz60_3 hz60_1 u2_3 u2_1 hc1 hc2))
          · have hok : cpOk (nI 3) i (nI 1) j k σ = false := hi_no ez_3 ez_1 hz60_3 hz60_1 (Or.inr kcz3)
            refine J_aload_n dX11_copy_99 rfl rfl ?_
            refine J_iconst (v := nI 2) dX11_copy_100 (by decide) ?_
            refine J_cVi (x := yX12_in) [.int (nI 2)] 0 mv_X11_230 (c_X11_found r s l 2) cW_0 rfl rfl (by decide) (Nat.le_of_ble_eq_true rfl) ⟨Nat.le_refl _, Nat.le_refl _⟩ dX11_copy_101 ?_
            show J G "copy" RX11 cX11_copy 8 (some .int) 0 0 3 Q 0 0 104 [(0, .ref (r 0)), (1, .int (nI 3)), (2, .int i), (3, .int (nI 1)), (4, .int j), (5, .int k), (6, .ref (r (11 + 3))), (7, .ref (r (11 + 1)))] [.int ((-10) - nI 2)] (cW G r (su 50 s (fun _ => nI 2)) l)
            exact J_iret dX11_copy_104 rfl rfl rfl (hq (su 50 s (fun _ => nI 2)) l ((-10) - nI 2, (su 4 σ (fun _ => nI 2))) (by simp [oCopy, fnd, hsp_3, hsp_1, kcz1, kcz2, kcz3, hok, rng_of (show 1 < 4 by decide) (by decide), nI_clamp (show 1 < 2 ^ 31 by decide), rng_of (show 3 < 4 by decide) (by decide), nI_clamp (show 3 < 2 ^ 31 by decide)]) (ci_fnd hC))
      · refine J_aload_n dX11_copy_70 rfl rfl ?_
        refine J_iconst (v := nI 4) dX11_copy_71 (by decide) ?_
        refine J_cVi (x := yX12_in) [.int (nI 4)] 0 mv_X11_230 (c_X11_found r s l 4) cW_0 rfl rfl (by decide) (Nat.le_of_ble_eq_true rfl) ⟨Nat.le_refl _, Nat.le_refl _⟩ dX11_copy_72 ?_
        show J G "copy" RX11 cX11_copy 8 (some .int) 0 0 3 Q 0 0 75 [(0, .ref (r 0)), (1, .int (nI 3)), (2, .int i), (3, .int (nI 1)), (4, .int j), (5, .int k), (6, .ref (r (11 + 3))), (7, .ref (r (11 + 1)))] [.int ((-10) - nI 4)] (cW G r (su 50 s (fun _ => nI 4)) l)
        exact J_iret dX11_copy_75 rfl rfl rfl (hq (su 50 s (fun _ => nI 4)) l ((-10) - nI 4, (su 4 σ (fun _ => nI 4))) (by simp [oCopy, fnd, hsp_3, hsp_1, kcz1, rng_of (show 1 < 4 by decide) (by decide), nI_clamp (show 1 < 2 ^ 31 by decide), rng_of (show 3 < 4 by decide) (by decide), nI_clamp (show 3 < 2 ^ 31 by decide)]) (ci_fnd hC))
theorem c_X11_copy31 {G : GT} (r : Nat → Nat) (s : St) (l : Nat → Int64) (σ : St) (hL : LI σ) (hC : CI σ s) (i j k : Int32) : Ct G yX11_copy cX11_copy 8 (some .int) 0 0 3 [.ref (r 0), .int (nI 3), .int i, .int (nI 1), .int j, .int k] (cW G r s l) (QC G r (oCopy (nI 3) i (nI 1) j k σ)) := Ct.of rfl (Nat.le_of_ble_eq_true rfl) (j_X11_copy31 r s l σ hL hC i j k (fun x lx a h1 h2 => ⟨x, lx, by rw [h1], rfl, by rw [← h1]; exact h2⟩))
set_option maxRecDepth 100000 in
set_option maxHeartbeats 1000000 in
theorem j_X11_copy32 {G : GT} (r : Nat → Nat) (s : St) (l : Nat → Int64) (σ : St) (hL : LI σ) (hC : CI σ s) (i j k : Int32) {Q : Option Value → va_W → Prop} (hq : ∀ (x : St) (lx : Nat → Int64) (a : Int32 × St), a = oCopy (nI 3) i (nI 2) j k σ → CI a.2 x → Q (some (.int a.1)) (cW G r x lx)) : J G "copy" RX11 cX11_copy 8 (some .int) 0 0 3 Q 0 0 0 [(0, .ref (r 0)), (1, .int (nI 3)), (2, .int i), (3, .int (nI 2)), (4, .int j), (5, .int k)] [] (cW G r s l) := by
  refine J_iload_n dX11_copy_0 rfl rfl ?_
  refine J_iconst (v := nI 4) dX11_copy_1 (by decide) ?_
  refine J_cSi [.int (nI 3), .int (nI 4)] ms_X11_48 (c_X11_isBelowN (cW G r s l) (nI 3) 4) rfl rfl (by decide) (Nat.le_of_ble_eq_true rfl) ⟨Nat.le_refl _, Nat.le_refl _⟩ dX11_copy_2 ?_
  refine J_if_eqB 16 dX11_copy_5 (by decide) (fun c => absurd c (by rw [(show rng (nI 3) 4 = true by decide)]; decide)) (fun _ => ?_)
  refine J_iload_n dX11_copy_8 rfl rfl ?_
  refine J_iconst (v := nI 4) dX11_copy_9 (by decide) ?_
  refine J_cSi [.int (nI 2), .int (nI 4)] ms_X11_48 (c_X11_isBelowN (cW G r s l) (nI 2) 4) rfl rfl (by decide) (Nat.le_of_ble_eq_true rfl) ⟨Nat.le_refl _, Nat.le_refl _⟩ dX11_copy_10 ?_
  refine J_if_neB 19 dX11_copy_13 (by decide) (fun _ => ?_) (fun c => absurd c (by rw [(show rng (nI 2) 4 = true by decide)]; decide))
  rcases hC.2.2.2.2.2.2.1.2.2.2 with ⟨u1_3, u2_3⟩ | ⟨u1_3, u2_3, u3_3, u4_3⟩
  · have hls_3 : decide (s 68 3 = -1) = true := decide_eq_true u1_3
    have hsp_3 : ¬ 0 ≤ σ 0 3 := by rw [u2_3]; decide
    rcases hC.2.2.2.2.2.2.1.2.2.1 with ⟨u1_2, u2_2⟩ | ⟨u1_2, u2_2, u3_2, u4_2⟩
    · have hls_2 : decide (s 68 2 = -1) = true := decide_eq_true u1_2
      have hsp_2 : ¬ 0 ≤ σ 0 2 := by rw [u2_2]; decide
      refine J_aload_n dX11_copy_19 rfl rfl ?_
      refine Cg_0_4 fr_X11_39_10 dX11_copy_20 ?_
      refine J_iload_n dX11_copy_23 rfl rfl ?_
      refine Cl_10 3 rfl (by omega) dX11_copy_24 ?_
      refine J_astore [(0, .ref (r 0)), (1, .int (nI 3)), (2, .int i), (3, .int (nI 2)), (4, .int j), (5, .int k), (6, .ref (r (11 + 3)))] dX11_copy_25 (by decide) rfl rfl rfl ?_
      refine J_aload_n dX11_copy_27 rfl rfl ?_
      refine Cg_0_4 fr_X11_39_10 dX11_copy_28 ?_
      refine J_iload_n dX11_copy_31 rfl rfl ?_
      refine Cl_10 2 rfl (by omega) dX11_copy_32 ?_
      refine J_astore [(0, .ref (r 0)), (1, .int (nI 3)), (2, .int i), (3, .int (nI 2)), (4, .int j), (5, .int k), (6, .ref (r (11 + 3))), (7, .ref (r (11 + 2)))] dX11_copy_33 (by decide) rfl rfl rfl ?_
      refine J_aload dX11_copy_35 rfl ?_
      refine J_cVi (x := yX12_in) [] (11 + 3) mv_X11_227 (c_X8_isLost r s l 3 (by omega)) (cW_sh (by omega)) rfl rfl (by decide) (Nat.le_of_ble_eq_true rfl) ⟨Nat.le_refl _, Nat.le_refl _⟩ dX11_copy_37 ?_
      refine J_if_neB 51 dX11_copy_40 (by decide) (fun _ => ?_) (fun c => absurd c (by rw [hls_3]; decide))
      refine J_aload_n dX11_copy_51 rfl rfl ?_
      refine J_iconst (v := nI 1) dX11_copy_52 (by decide) ?_
      refine J_cVi (x := yX12_in) [.int (nI 1)] 0 mv_X11_230 (c_X11_found r s l 1) cW_0 rfl rfl (by decide) (Nat.le_of_ble_eq_true rfl) ⟨Nat.le_refl _, Nat.le_refl _⟩ dX11_copy_53 ?_
      show J G "copy" RX11 cX11_copy 8 (some .int) 0 0 3 Q 0 0 56 [(0, .ref (r 0)), (1, .int (nI 3)), (2, .int i), (3, .int (nI 2)), (4, .int j), (5, .int k), (6, .ref (r (11 + 3))), (7, .ref (r (11 + 2)))] [.int ((-10) - nI 1)] (cW G r (su 50 s (fun _ => nI 1)) l)
      exact J_iret dX11_copy_56 rfl rfl rfl (hq (su 50 s (fun _ => nI 1)) l ((-10) - nI 1, (su 4 σ (fun _ => nI 1))) (by simp [oCopy, fnd, hsp_3, hsp_2, rng_of (show 2 < 4 by decide) (by decide), nI_clamp (show 2 < 2 ^ 31 by decide), rng_of (show 3 < 4 by decide) (by decide), nI_clamp (show 3 < 2 ^ 31 by decide)]) (ci_fnd hC))
    · obtain ⟨z_2, hz60_2, ez_2⟩ := (hL.sh (j := 2) (by decide)).2
      have hz_2 : s 68 2 = nI z_2 := u3_2.trans ez_2
      have hls_2 : decide (s 68 2 = -1) = false := decide_eq_false (by rw [hz_2]; exact fun q => m1_ne (by omega) q.symm)
      obtain ⟨fo_2, hfo_2, efo_2⟩ := (hL.sh (j := 2) (by decide)).1.resolve_left u2_2
      have hsp_2 : 0 ≤ σ 0 2 := by rw [efo_2]; exact nI_nn (by omega)
      have hit_2 : ∀ i, i < z_2 → s 72 i = σ 2 (60 * 2 + i) := u4_2 z_2 ez_2.symm hz60_2
      have ezc_2 : (σ 1 2).toNatClampNeg = z_2 := by rw [ez_2]; exact nI_clamp (by omega)
      refine J_aload_n dX11_copy_19 rfl rfl ?_
      refine Cg_0_4 fr_X11_39_10 dX11_copy_20 ?_
      refine J_iload_n dX11_copy_23 rfl rfl ?_
      refine Cl_10 3 rfl (by omega) dX11_copy_24 ?_
      refine J_astore [(0, .ref (r 0)), (1, .int (nI 3)), (2, .int i), (3, .int (nI 2)), (4, .int j), (5, .int k), (6, .ref (r (11 + 3)))] dX11_copy_25 (by decide) rfl rfl rfl ?_
      refine J_aload_n dX11_copy_27 rfl rfl ?_
      refine Cg_0_4 fr_X11_39_10 dX11_copy_28 ?_
      refine J_iload_n dX11_copy_31 rfl rfl ?_
      refine Cl_10 2 rfl (by omega) dX11_copy_32 ?_
      refine J_astore [(0, .ref (r 0)), (1, .int (nI 3)), (2, .int i), (3, .int (nI 2)), (4, .int j), (5, .int k), (6, .ref (r (11 + 3))), (7, .ref (r (11 + 2)))] dX11_copy_33 (by decide) rfl rfl rfl ?_
      refine J_aload dX11_copy_35 rfl ?_
      refine J_cVi (x := yX12_in) [] (11 + 3) mv_X11_227 (c_X8_isLost r s l 3 (by omega)) (cW_sh (by omega)) rfl rfl (by decide) (Nat.le_of_ble_eq_true rfl) ⟨Nat.le_refl _, Nat.le_refl _⟩ dX11_copy_37 ?_
      refine J_if_neB 51 dX11_copy_40 (by decide) (fun _ => ?_) (fun c => absurd c (by rw [hls_3]; decide))
      refine J_aload_n dX11_copy_51 rfl rfl ?_
      refine J_iconst (v := nI 1) dX11_copy_52 (by decide) ?_
      refine J_cVi (x := yX12_in) [.int (nI 1)] 0 mv_X11_230 (c_X11_found r s l 1) cW_0 rfl rfl (by decide) (Nat.le_of_ble_eq_true rfl) ⟨Nat.le_refl _, Nat.le_refl _⟩ dX11_copy_53 ?_
      show J G "copy" RX11 cX11_copy 8 (some .int) 0 0 3 Q 0 0 56 [(0, .ref (r 0)), (1, .int (nI 3)), (2, .int i), (3, .int (nI 2)), (4, .int j), (5, .int k), (6, .ref (r (11 + 3))), (7, .ref (r (11 + 2)))] [.int ((-10) - nI 1)] (cW G r (su 50 s (fun _ => nI 1)) l)
      exact J_iret dX11_copy_56 rfl rfl rfl (hq (su 50 s (fun _ => nI 1)) l ((-10) - nI 1, (su 4 σ (fun _ => nI 1))) (by simp [oCopy, fnd, hsp_3, hsp_2, rng_of (show 2 < 4 by decide) (by decide), nI_clamp (show 2 < 2 ^ 31 by decide), rng_of (show 3 < 4 by decide) (by decide), nI_clamp (show 3 < 2 ^ 31 by decide)]) (ci_fnd hC))
  · obtain ⟨z_3, hz60_3, ez_3⟩ := (hL.sh (j := 3) (by decide)).2
    have hz_3 : s 68 3 = nI z_3 := u3_3.trans ez_3
    have hls_3 : decide (s 68 3 = -1) = false := decide_eq_false (by rw [hz_3]; exact fun q => m1_ne (by omega) q.symm)
    obtain ⟨fo_3, hfo_3, efo_3⟩ := (hL.sh (j := 3) (by decide)).1.resolve_left u2_3
    have hsp_3 : 0 ≤ σ 0 3 := by rw [efo_3]; exact nI_nn (by omega)
    have hit_3 : ∀ i, i < z_3 → s 73 i = σ 2 (60 * 3 + i) := u4_3 z_3 ez_3.symm hz60_3
    have ezc_3 : (σ 1 3).toNatClampNeg = z_3 := by rw [ez_3]; exact nI_clamp (by omega)
    rcases hC.2.2.2.2.2.2.1.2.2.1 with ⟨u1_2, u2_2⟩ | ⟨u1_2, u2_2, u3_2, u4_2⟩
    · have hls_2 : decide (s 68 2 = -1) = true := decide_eq_true u1_2
      have hsp_2 : ¬ 0 ≤ σ 0 2 := by rw [u2_2]; decide
      refine J_aload_n dX11_copy_19 rfl rfl ?_
      refine Cg_0_4 fr_X11_39_10 dX11_copy_20 ?_
      refine J_iload_n dX11_copy_23 rfl rfl ?_
      refine Cl_10 3 rfl (by omega) dX11_copy_24 ?_
      refine J_astore [(0, .ref (r 0)), (1, .int (nI 3)), (2, .int i), (3, .int (nI 2)), (4, .int j), (5, .int k), (6, .ref (r (11 + 3)))] dX11_copy_25 (by decide) rfl rfl rfl ?_
      refine J_aload_n dX11_copy_27 rfl rfl ?_
      refine Cg_0_4 fr_X11_39_10 dX11_copy_28 ?_
      refine J_iload_n dX11_copy_31 rfl rfl ?_
      refine Cl_10 2 rfl (by omega) dX11_copy_32 ?_
      refine J_astore [(0, .ref (r 0)), (1, .int (nI 3)), (2, .int i), (3, .int (nI 2)), (4, .int j), (5, .int k), (6, .ref (r (11 + 3))), (7, .ref (r (11 + 2)))] dX11_copy_33 (by decide) rfl rfl rfl ?_
      refine J_aload dX11_copy_35 rfl ?_
      refine J_cVi (x := yX12_in) [] (11 + 3) mv_X11_227 (c_X8_isLost r s l 3 (by omega)) (cW_sh (by omega)) rfl rfl (by decide) (Nat.le_of_ble_eq_true rfl) ⟨Nat.le_refl _, Nat.le_refl _⟩ dX11_copy_37 ?_
      refine J_if_neB 51 dX11_copy_40 (by decide) (fun c => absurd c (by rw [hls_3]; decide)) (fun _ => ?_)
      refine J_aload dX11_copy_43 rfl ?_
      refine J_cVi (x := yX12_in) [] (11 + 2) mv_X11_227 (c_X8_isLost r s l 2 (by omega)) (cW_sh (by omega)) rfl rfl (by decide) (Nat.le_of_ble_eq_true rfl) ⟨Nat.le_refl _, Nat.le_refl _⟩ dX11_copy_45 ?_
      refine J_if_eqB 57 dX11_copy_48 (by decide) (fun c => absurd c (by rw [hls_2]; decide)) (fun _ => ?_)
      refine J_aload_n dX11_copy_51 rfl rfl ?_
      refine J_iconst (v := nI 1) dX11_copy_52 (by decide) ?_
      refine J_cVi (x := yX12_in) [.int (nI 1)] 0 mv_X11_230 (c_X11_found r s l 1) cW_0 rfl rfl (by decide) (Nat.le_of_ble_eq_true rfl) ⟨Nat.le_refl _, Nat.le_refl _⟩ dX11_copy_53 ?_
      show J G "copy" RX11 cX11_copy 8 (some .int) 0 0 3 Q 0 0 56 [(0, .ref (r 0)), (1, .int (nI 3)), (2, .int i), (3, .int (nI 2)), (4, .int j), (5, .int k), (6, .ref (r (11 + 3))), (7, .ref (r (11 + 2)))] [.int ((-10) - nI 1)] (cW G r (su 50 s (fun _ => nI 1)) l)
      exact J_iret dX11_copy_56 rfl rfl rfl (hq (su 50 s (fun _ => nI 1)) l ((-10) - nI 1, (su 4 σ (fun _ => nI 1))) (by simp [oCopy, fnd, hsp_3, hsp_2, rng_of (show 2 < 4 by decide) (by decide), nI_clamp (show 2 < 2 ^ 31 by decide), rng_of (show 3 < 4 by decide) (by decide), nI_clamp (show 3 < 2 ^ 31 by decide)]) (ci_fnd hC))
    · obtain ⟨z_2, hz60_2, ez_2⟩ := (hL.sh (j := 2) (by decide)).2
      have hz_2 : s 68 2 = nI z_2 := u3_2.trans ez_2
      have hls_2 : decide (s 68 2 = -1) = false := decide_eq_false (by rw [hz_2]; exact fun q => m1_ne (by omega) q.symm)
      obtain ⟨fo_2, hfo_2, efo_2⟩ := (hL.sh (j := 2) (by decide)).1.resolve_left u2_2
      have hsp_2 : 0 ≤ σ 0 2 := by rw [efo_2]; exact nI_nn (by omega)
      have hit_2 : ∀ i, i < z_2 → s 72 i = σ 2 (60 * 2 + i) := u4_2 z_2 ez_2.symm hz60_2
      have ezc_2 : (σ 1 2).toNatClampNeg = z_2 := by rw [ez_2]; exact nI_clamp (by omega)
      refine J_aload_n dX11_copy_19 rfl rfl ?_
      refine Cg_0_4 fr_X11_39_10 dX11_copy_20 ?_
      refine J_iload_n dX11_copy_23 rfl rfl ?_
      refine Cl_10 3 rfl (by omega) dX11_copy_24 ?_
      refine J_astore [(0, .ref (r 0)), (1, .int (nI 3)), (2, .int i), (3, .int (nI 2)), (4, .int j), (5, .int k), (6, .ref (r (11 + 3)))] dX11_copy_25 (by decide) rfl rfl rfl ?_
      refine J_aload_n dX11_copy_27 rfl rfl ?_
      refine Cg_0_4 fr_X11_39_10 dX11_copy_28 ?_
      refine J_iload_n dX11_copy_31 rfl rfl ?_
      refine Cl_10 2 rfl (by omega) dX11_copy_32 ?_
      refine J_astore [(0, .ref (r 0)), (1, .int (nI 3)), (2, .int i), (3, .int (nI 2)), (4, .int j), (5, .int k), (6, .ref (r (11 + 3))), (7, .ref (r (11 + 2)))] dX11_copy_33 (by decide) rfl rfl rfl ?_
      refine J_aload dX11_copy_35 rfl ?_
      refine J_cVi (x := yX12_in) [] (11 + 3) mv_X11_227 (c_X8_isLost r s l 3 (by omega)) (cW_sh (by omega)) rfl rfl (by decide) (Nat.le_of_ble_eq_true rfl) ⟨Nat.le_refl _, Nat.le_refl _⟩ dX11_copy_37 ?_
      refine J_if_neB 51 dX11_copy_40 (by decide) (fun c => absurd c (by rw [hls_3]; decide)) (fun _ => ?_)
      refine J_aload dX11_copy_43 rfl ?_
      refine J_cVi (x := yX12_in) [] (11 + 2) mv_X11_227 (c_X8_isLost r s l 2 (by omega)) (cW_sh (by omega)) rfl rfl (by decide) (Nat.le_of_ble_eq_true rfl) ⟨Nat.le_refl _, Nat.le_refl _⟩ dX11_copy_45 ?_
      refine J_if_eqB 57 dX11_copy_48 (by decide) (fun _ => ?_) (fun c => absurd c (by rw [hls_2]; decide))
      refine J_aload dX11_copy_57 rfl ?_
      refine Cg_sh_1 (s := s) (by omega) fr_X11_279_7 (s 67 3) rfl dX11_copy_59 ?_
      refine J_rw (y := σ 0 3) u1_3.symm ?_
      refine J_aload dX11_copy_62 rfl ?_
      refine Cg_sh_1 (s := s) (by omega) fr_X11_279_7 (s 67 2) rfl dX11_copy_64 ?_
      refine J_rw (y := σ 0 2) u1_2.symm ?_
      refine J_icmp_eq 76 dX11_copy_67 (by decide) (fun kcz1 => ?_) (fun kcz1 => ?_)
      · refine J_aload dX11_copy_76 rfl ?_
        refine J_iload_n dX11_copy_78 rfl rfl ?_
        refine J_iload dX11_copy_79 rfl ?_
        refine J_cVi (x := yX12_in) [.int i, .int k] (11 + 3) mv_X11_282 (c_X8_hasItems r s l 3 (by decide) z_3 hz_3 hz60_3 i k) (cW_sh (by omega)) rfl rfl (by decide) (Nat.le_of_ble_eq_true rfl) ⟨Nat.le_refl _, Nat.le_refl _⟩ dX11_copy_81 ?_
        refine J_if_eqB 99 dX11_copy_84 (by decide) (fun kcz2 => ?_) (fun kcz2 => ?_)
        · have hok : cpOk (nI 3) i (nI 2) j k σ = false := hi_no ez_3 ez_2 hz60_3 hz60_2 (Or.inl kcz2)
          refine J_aload_n dX11_copy_99 rfl rfl ?_
          refine J_iconst (v := nI 2) dX11_copy_100 (by decide) ?_
          refine J_cVi (x := yX12_in) [.int (nI 2)] 0 mv_X11_230 (c_X11_found r s l 2) cW_0 rfl rfl (by decide) (Nat.le_of_ble_eq_true rfl) ⟨Nat.le_refl _, Nat.le_refl _⟩ dX11_copy_101 ?_
          show J G "copy" RX11 cX11_copy 8 (some .int) 0 0 3 Q 0 0 104 [(0, .ref (r 0)), (1, .int (nI 3)), (2, .int i), (3, .int (nI 2)), (4, .int j), (5, .int k), (6, .ref (r (11 + 3))), (7, .ref (r (11 + 2)))] [.int ((-10) - nI 2)] (cW G r (su 50 s (fun _ => nI 2)) l)
          exact J_iret dX11_copy_104 rfl rfl rfl (hq (su 50 s (fun _ => nI 2)) l ((-10) - nI 2, (su 4 σ (fun _ => nI 2))) (by simp [oCopy, fnd, hsp_3, hsp_2, kcz1, kcz2, hok, rng_of (show 2 < 4 by decide) (by decide), nI_clamp (show 2 < 2 ^ 31 by decide), rng_of (show 3 < 4 by decide) (by decide), nI_clamp (show 3 < 2 ^ 31 by decide)]) (ci_fnd hC))
        · refine J_aload dX11_copy_87 rfl ?_
          refine J_iload dX11_copy_89 rfl ?_
          refine J_iload dX11_copy_91 rfl ?_
          refine J_cVi (x := yX12_in) [.int j, .int k] (11 + 2) mv_X11_282 (c_X8_hasItems r s l 2 (by decide) z_2 hz_2 hz60_2 j k) (cW_sh (by omega)) rfl rfl (by decide) (Nat.le_of_ble_eq_true rfl) ⟨Nat.le_refl _, Nat.le_refl _⟩ dX11_copy_93 ?_
          refine J_if_neB 105 dX11_copy_96 (by decide) (fun kcz3 => ?_) (fun kcz3 => ?_)
          · obtain ⟨Ii, Jj, Nn, rfl, rfl, rfl, hc1, hc2⟩ := hi_in kcz2 kcz3 hz60_3 hz60_2
            have eIi : (nI Ii).toNatClampNeg = Ii := nI_clamp (by omega)
            have eJj : (nI Jj).toNatClampNeg = Jj := nI_clamp (by omega)
            have eNn : (nI Nn).toNatClampNeg = Nn := nI_clamp (by omega)
            have hok : cpOk (nI 3) (nI Ii) (nI 2) (nI Jj) (nI Nn) σ = true := hi_cp ez_3 ez_2 hc1 hc2 hz60_3 hz60_2
            refine J_aload dX11_copy_105 rfl ?_
            refine Cg_sh_0 (by omega) fr_X11_285_7 dX11_copy_107 ?_
            refine J_iload_n dX11_copy_110 rfl rfl ?_
            refine J_aload dX11_copy_111 rfl ?_
            refine Cg_sh_0 (by omega) fr_X11_285_7 dX11_copy_113 ?_
            refine J_iload dX11_copy_116 rfl ?_
            refine J_iload dX11_copy_118 rfl ?_
            refine J_copyi (N0 := 60) (N1 := 60) ac_link ac_nat ac_stat ac_init (15 + 3) (15 + 2) (cW G r (su 72 s (va_cpy (s 73) (s 72) Ii Jj Nn)) l) (cW_si (by decide)) (cW_si (by decide)) (cI_nlt (by omega)) (cI_nlt (by omega)) (cI_nlt (by omega)) (by rw [nI_clamp (by omega), nI_clamp (by omega)]; omega) (by rw [nI_clamp (by omega), nI_clamp (by omega)]; omega) (by omega) (by decide) (by rw [nI_clamp (by omega), nI_clamp (by omega), nI_clamp (by omega)]; exact cW_set3 (by decide)) dX11_copy_120 ?_
            show J G "copy" RX11 cX11_copy 8 (some .int) 0 0 3 Q 0 0 123 [(0, .ref (r 0)), (1, .int (nI 3)), (2, .int (nI Ii)), (3, .int (nI 2)), (4, .int (nI Jj)), (5, .int (nI Nn)), (6, .ref (r (11 + 3))), (7, .ref (r (11 + 2)))] [] (cW G r (su 72 s (va_cpy (s 73) (s 72) Ii Jj Nn)) l)
            refine J_iconst (v := nI 1) dX11_copy_123 (by decide) ?_
            exact J_iret dX11_copy_124 rfl rfl rfl (hq (su 72 s (va_cpy (s 73) (s 72) Ii Jj Nn)) l (nI 1, (su 2 σ (fb_put (σ 2) (fun k => σ 2 (60 * 3 + Ii + k)) (60 * 2 + Jj) Nn))) (by simp [oCopy, fnd, hsp_3, hsp_2, kcz1, eIi, eJj, eNn, hok, rng_of (show 2 < 4 by decide) (by decide), nI_clamp (show 2 < 2 ^ 31 by decide), rng_of (show 3 < 4 by decide) (by decide), nI_clamp (show 3 < 2 ^ 31 by decide)]) (ci_copy32 hC ez_3 ez_2 hz60_3 hz60_2 u2_3 u2_2 hc1 hc2))
          · have hok : cpOk (nI 3) i (nI 2) j k σ = false := hi_no ez_3 ez_2 hz60_3 hz60_2 (Or.inr kcz3)
            refine J_aload_n dX11_copy_99 rfl rfl ?_
            refine J_iconst (v := nI 2) dX11_copy_100 (by decide) ?_
            refine J_cVi (x := yX12_in) [.int (nI 2)] 0 mv_X11_230 (c_X11_found r s l 2) cW_0 rfl rfl (by decide) (Nat.le_of_ble_eq_true rfl) ⟨Nat.le_refl _, Nat.le_refl _⟩ dX11_copy_101 ?_
            show J G "copy" RX11 cX11_copy 8 (some .int) 0 0 3 Q 0 0 104 [(0, .ref (r 0)), (1, .int (nI 3)), (2, .int i), (3, .int (nI 2)), (4, .int j), (5, .int k), (6, .ref (r (11 + 3))), (7, .ref (r (11 + 2)))] [.int ((-10) - nI 2)] (cW G r (su 50 s (fun _ => nI 2)) l)
            exact J_iret dX11_copy_104 rfl rfl rfl (hq (su 50 s (fun _ => nI 2)) l ((-10) - nI 2, (su 4 σ (fun _ => nI 2))) (by simp [oCopy, fnd, hsp_3, hsp_2, kcz1, kcz2, kcz3, hok, rng_of (show 2 < 4 by decide) (by decide), nI_clamp (show 2 < 2 ^ 31 by decide), rng_of (show 3 < 4 by decide) (by decide), nI_clamp (show 3 < 2 ^ 31 by decide)]) (ci_fnd hC))
      · refine J_aload_n dX11_copy_70 rfl rfl ?_
        refine J_iconst (v := nI 4) dX11_copy_71 (by decide) ?_
        refine J_cVi (x := yX12_in) [.int (nI 4)] 0 mv_X11_230 (c_X11_found r s l 4) cW_0 rfl rfl (by decide) (Nat.le_of_ble_eq_true rfl) ⟨Nat.le_refl _, Nat.le_refl _⟩ dX11_copy_72 ?_
        show J G "copy" RX11 cX11_copy 8 (some .int) 0 0 3 Q 0 0 75 [(0, .ref (r 0)), (1, .int (nI 3)), (2, .int i), (3, .int (nI 2)), (4, .int j), (5, .int k), (6, .ref (r (11 + 3))), (7, .ref (r (11 + 2)))] [.int ((-10) - nI 4)] (cW G r (su 50 s (fun _ => nI 4)) l)
        exact J_iret dX11_copy_75 rfl rfl rfl (hq (su 50 s (fun _ => nI 4)) l ((-10) - nI 4, (su 4 σ (fun _ => nI 4))) (by simp [oCopy, fnd, hsp_3, hsp_2, kcz1, rng_of (show 2 < 4 by decide) (by decide), nI_clamp (show 2 < 2 ^ 31 by decide), rng_of (show 3 < 4 by decide) (by decide), nI_clamp (show 3 < 2 ^ 31 by decide)]) (ci_fnd hC))
theorem c_X11_copy32 {G : GT} (r : Nat → Nat) (s : St) (l : Nat → Int64) (σ : St) (hL : LI σ) (hC : CI σ s) (i j k : Int32) : Ct G yX11_copy cX11_copy 8 (some .int) 0 0 3 [.ref (r 0), .int (nI 3), .int i, .int (nI 2), .int j, .int k] (cW G r s l) (QC G r (oCopy (nI 3) i (nI 2) j k σ)) := Ct.of rfl (Nat.le_of_ble_eq_true rfl) (j_X11_copy32 r s l σ hL hC i j k (fun x lx a h1 h2 => ⟨x, lx, by rw [h1], rfl, by rw [← h1]; exact h2⟩))
set_option maxRecDepth 100000 in
set_option maxHeartbeats 1000000 in
theorem j_X11_copy33 {G : GT} (r : Nat → Nat) (s : St) (l : Nat → Int64) (σ : St) (hL : LI σ) (hC : CI σ s) (i j k : Int32) {Q : Option Value → va_W → Prop} (hq : ∀ (x : St) (lx : Nat → Int64) (a : Int32 × St), a = oCopy (nI 3) i (nI 3) j k σ → CI a.2 x → Q (some (.int a.1)) (cW G r x lx)) : J G "copy" RX11 cX11_copy 8 (some .int) 0 0 3 Q 0 0 0 [(0, .ref (r 0)), (1, .int (nI 3)), (2, .int i), (3, .int (nI 3)), (4, .int j), (5, .int k)] [] (cW G r s l) := by
  refine J_iload_n dX11_copy_0 rfl rfl ?_
  refine J_iconst (v := nI 4) dX11_copy_1 (by decide) ?_
  refine J_cSi [.int (nI 3), .int (nI 4)] ms_X11_48 (c_X11_isBelowN (cW G r s l) (nI 3) 4) rfl rfl (by decide) (Nat.le_of_ble_eq_true rfl) ⟨Nat.le_refl _, Nat.le_refl _⟩ dX11_copy_2 ?_
  refine J_if_eqB 16 dX11_copy_5 (by decide) (fun c => absurd c (by rw [(show rng (nI 3) 4 = true by decide)]; decide)) (fun _ => ?_)
  refine J_iload_n dX11_copy_8 rfl rfl ?_
  refine J_iconst (v := nI 4) dX11_copy_9 (by decide) ?_
  refine J_cSi [.int (nI 3), .int (nI 4)] ms_X11_48 (c_X11_isBelowN (cW G r s l) (nI 3) 4) rfl rfl (by decide) (Nat.le_of_ble_eq_true rfl) ⟨Nat.le_refl _, Nat.le_refl _⟩ dX11_copy_10 ?_
  refine J_if_neB 19 dX11_copy_13 (by decide) (fun _ => ?_) (fun c => absurd c (by rw [(show rng (nI 3) 4 = true by decide)]; decide))
  rcases hC.2.2.2.2.2.2.1.2.2.2 with ⟨u1_3, u2_3⟩ | ⟨u1_3, u2_3, u3_3, u4_3⟩
  · have hls_3 : decide (s 68 3 = -1) = true := decide_eq_true u1_3
    have hsp_3 : ¬ 0 ≤ σ 0 3 := by rw [u2_3]; decide
    refine J_aload_n dX11_copy_19 rfl rfl ?_
    refine Cg_0_4 fr_X11_39_10 dX11_copy_20 ?_
    refine J_iload_n dX11_copy_23 rfl rfl ?_
    refine Cl_10 3 rfl (by omega) dX11_copy_24 ?_
    refine J_astore [(0, .ref (r 0)), (1, .int (nI 3)), (2, .int i), (3, .int (nI 3)), (4, .int j), (5, .int k), (6, .ref (r (11 + 3)))] dX11_copy_25 (by decide) rfl rfl rfl ?_
    refine J_aload_n dX11_copy_27 rfl rfl ?_
    refine Cg_0_4 fr_X11_39_10 dX11_copy_28 ?_
    refine J_iload_n dX11_copy_31 rfl rfl ?_
    refine Cl_10 3 rfl (by omega) dX11_copy_32 ?_
    refine J_astore [(0, .ref (r 0)), (1, .int (nI 3)), (2, .int i), (3, .int (nI 3)), (4, .int j), (5, .int k), (6, .ref (r (11 + 3))), (7, .ref (r (11 + 3)))] dX11_copy_33 (by decide) rfl rfl rfl ?_
    refine J_aload dX11_copy_35 rfl ?_
    refine J_cVi (x := yX12_in) [] (11 + 3) mv_X11_227 (c_X8_isLost r s l 3 (by omega)) (cW_sh (by omega)) rfl rfl (by decide) (Nat.le_of_ble_eq_true rfl) ⟨Nat.le_refl _, Nat.le_refl _⟩ dX11_copy_37 ?_
    refine J_if_neB 51 dX11_copy_40 (by decide) (fun _ => ?_) (fun c => absurd c (by rw [hls_3]; decide))
    refine J_aload_n dX11_copy_51 rfl rfl ?_
    refine J_iconst (v := nI 1) dX11_copy_52 (by decide) ?_
    refine J_cVi (x := yX12_in) [.int (nI 1)] 0 mv_X11_230 (c_X11_found r s l 1) cW_0 rfl rfl (by decide) (Nat.le_of_ble_eq_true rfl) ⟨Nat.le_refl _, Nat.le_refl _⟩ dX11_copy_53 ?_
    show J G "copy" RX11 cX11_copy 8 (some .int) 0 0 3 Q 0 0 56 [(0, .ref (r 0)), (1, .int (nI 3)), (2, .int i), (3, .int (nI 3)), (4, .int j), (5, .int k), (6, .ref (r (11 + 3))), (7, .ref (r (11 + 3)))] [.int ((-10) - nI 1)] (cW G r (su 50 s (fun _ => nI 1)) l)
    exact J_iret dX11_copy_56 rfl rfl rfl (hq (su 50 s (fun _ => nI 1)) l ((-10) - nI 1, (su 4 σ (fun _ => nI 1))) (by simp [oCopy, fnd, hsp_3, rng_of (show 3 < 4 by decide) (by decide), nI_clamp (show 3 < 2 ^ 31 by decide)]) (ci_fnd hC))
  · obtain ⟨z_3, hz60_3, ez_3⟩ := (hL.sh (j := 3) (by decide)).2
    have hz_3 : s 68 3 = nI z_3 := u3_3.trans ez_3
    have hls_3 : decide (s 68 3 = -1) = false := decide_eq_false (by rw [hz_3]; exact fun q => m1_ne (by omega) q.symm)
    obtain ⟨fo_3, hfo_3, efo_3⟩ := (hL.sh (j := 3) (by decide)).1.resolve_left u2_3
    have hsp_3 : 0 ≤ σ 0 3 := by rw [efo_3]; exact nI_nn (by omega)
    have hit_3 : ∀ i, i < z_3 → s 73 i = σ 2 (60 * 3 + i) := u4_3 z_3 ez_3.symm hz60_3
    have ezc_3 : (σ 1 3).toNatClampNeg = z_3 := by rw [ez_3]; exact nI_clamp (by omega)
    refine J_aload_n dX11_copy_19 rfl rfl ?_
    refine Cg_0_4 fr_X11_39_10 dX11_copy_20 ?_
    refine J_iload_n dX11_copy_23 rfl rfl ?_
    refine Cl_10 3 rfl (by omega) dX11_copy_24 ?_
    refine J_astore [(0, .ref (r 0)), (1, .int (nI 3)), (2, .int i), (3, .int (nI 3)), (4, .int j), (5, .int k), (6, .ref (r (11 + 3)))] dX11_copy_25 (by decide) rfl rfl rfl ?_
    refine J_aload_n dX11_copy_27 rfl rfl ?_
    refine Cg_0_4 fr_X11_39_10 dX11_copy_28 ?_
    refine J_iload_n dX11_copy_31 rfl rfl ?_
    refine Cl_10 3 rfl (by omega) dX11_copy_32 ?_
    refine J_astore [(0, .ref (r 0)), (1, .int (nI 3)), (2, .int i), (3, .int (nI 3)), (4, .int j), (5, .int k), (6, .ref (r (11 + 3))), (7, .ref (r (11 + 3)))] dX11_copy_33 (by decide) rfl rfl rfl ?_
    refine J_aload dX11_copy_35 rfl ?_
    refine J_cVi (x := yX12_in) [] (11 + 3) mv_X11_227 (c_X8_isLost r s l 3 (by omega)) (cW_sh (by omega)) rfl rfl (by decide) (Nat.le_of_ble_eq_true rfl) ⟨Nat.le_refl _, Nat.le_refl _⟩ dX11_copy_37 ?_
    refine J_if_neB 51 dX11_copy_40 (by decide) (fun c => absurd c (by rw [hls_3]; decide)) (fun _ => ?_)
    refine J_aload dX11_copy_43 rfl ?_
    refine J_cVi (x := yX12_in) [] (11 + 3) mv_X11_227 (c_X8_isLost r s l 3 (by omega)) (cW_sh (by omega)) rfl rfl (by decide) (Nat.le_of_ble_eq_true rfl) ⟨Nat.le_refl _, Nat.le_refl _⟩ dX11_copy_45 ?_
    refine J_if_eqB 57 dX11_copy_48 (by decide) (fun _ => ?_) (fun c => absurd c (by rw [hls_3]; decide))
    refine J_aload dX11_copy_57 rfl ?_
    refine Cg_sh_1 (s := s) (by omega) fr_X11_279_7 (s 67 3) rfl dX11_copy_59 ?_
    refine J_rw (y := σ 0 3) u1_3.symm ?_
    refine J_aload dX11_copy_62 rfl ?_
    refine Cg_sh_1 (s := s) (by omega) fr_X11_279_7 (s 67 3) rfl dX11_copy_64 ?_
    refine J_rw (y := σ 0 3) u1_3.symm ?_
    refine J_icmp_eq 76 dX11_copy_67 (by decide) (fun kcz1 => ?_) (fun kcz1 => ?_)
    · refine J_aload dX11_copy_76 rfl ?_
      refine J_iload_n dX11_copy_78 rfl rfl ?_
      refine J_iload dX11_copy_79 rfl ?_
      refine J_cVi (x := yX12_in) [.int i, .int k] (11 + 3) mv_X11_282 (c_X8_hasItems r s l 3 (by decide) z_3 hz_3 hz60_3 i k) (cW_sh (by omega)) rfl rfl (by decide) (Nat.le_of_ble_eq_true rfl) ⟨Nat.le_refl _, Nat.le_refl _⟩ dX11_copy_81 ?_
      refine J_if_eqB 99 dX11_copy_84 (by decide) (fun kcz2 => ?_) (fun kcz2 => ?_)
      · have hok : cpOk (nI 3) i (nI 3) j k σ = false := hi_no ez_3 ez_3 hz60_3 hz60_3 (Or.inl kcz2)
        refine J_aload_n dX11_copy_99 rfl rfl ?_
        refine J_iconst (v := nI 2) dX11_copy_100 (by decide) ?_
        refine J_cVi (x := yX12_in) [.int (nI 2)] 0 mv_X11_230 (c_X11_found r s l 2) cW_0 rfl rfl (by decide) (Nat.le_of_ble_eq_true rfl) ⟨Nat.le_refl _, Nat.le_refl _⟩ dX11_copy_101 ?_
        show J G "copy" RX11 cX11_copy 8 (some .int) 0 0 3 Q 0 0 104 [(0, .ref (r 0)), (1, .int (nI 3)), (2, .int i), (3, .int (nI 3)), (4, .int j), (5, .int k), (6, .ref (r (11 + 3))), (7, .ref (r (11 + 3)))] [.int ((-10) - nI 2)] (cW G r (su 50 s (fun _ => nI 2)) l)
        exact J_iret dX11_copy_104 rfl rfl rfl (hq (su 50 s (fun _ => nI 2)) l ((-10) - nI 2, (su 4 σ (fun _ => nI 2))) (by simp [oCopy, fnd, hsp_3, kcz1, kcz2, hok, rng_of (show 3 < 4 by decide) (by decide), nI_clamp (show 3 < 2 ^ 31 by decide)]) (ci_fnd hC))
      · refine J_aload dX11_copy_87 rfl ?_
        refine J_iload dX11_copy_89 rfl ?_
        refine J_iload dX11_copy_91 rfl ?_
        refine J_cVi (x := yX12_in) [.int j, .int k] (11 + 3) mv_X11_282 (c_X8_hasItems r s l 3 (by decide) z_3 hz_3 hz60_3 j k) (cW_sh (by omega)) rfl rfl (by decide) (Nat.le_of_ble_eq_true rfl) ⟨Nat.le_refl _, Nat.le_refl _⟩ dX11_copy_93 ?_
        refine J_if_neB 105 dX11_copy_96 (by decide) (fun kcz3 => ?_) (fun kcz3 => ?_)
        · obtain ⟨Ii, Jj, Nn, rfl, rfl, rfl, hc1, hc2⟩ := hi_in kcz2 kcz3 hz60_3 hz60_3
          have eIi : (nI Ii).toNatClampNeg = Ii := nI_clamp (by omega)
          have eJj : (nI Jj).toNatClampNeg = Jj := nI_clamp (by omega)
          have eNn : (nI Nn).toNatClampNeg = Nn := nI_clamp (by omega)
          have hok : cpOk (nI 3) (nI Ii) (nI 3) (nI Jj) (nI Nn) σ = true := hi_cp ez_3 ez_3 hc1 hc2 hz60_3 hz60_3
          refine J_aload dX11_copy_105 rfl ?_
          refine Cg_sh_0 (by omega) fr_X11_285_7 dX11_copy_107 ?_
          refine J_iload_n dX11_copy_110 rfl rfl ?_
          refine J_aload dX11_copy_111 rfl ?_
          refine Cg_sh_0 (by omega) fr_X11_285_7 dX11_copy_113 ?_
          refine J_iload dX11_copy_116 rfl ?_
          refine J_iload dX11_copy_118 rfl ?_
          refine J_copyi (N0 := 60) (N1 := 60) ac_link ac_nat ac_stat ac_init (15 + 3) (15 + 3) (cW G r (su 73 s (va_cpy (s 73) (s 73) Ii Jj Nn)) l) (cW_si (by decide)) (cW_si (by decide)) (cI_nlt (by omega)) (cI_nlt (by omega)) (cI_nlt (by omega)) (by rw [nI_clamp (by omega), nI_clamp (by omega)]; omega) (by rw [nI_clamp (by omega), nI_clamp (by omega)]; omega) (by omega) (by decide) (by rw [nI_clamp (by omega), nI_clamp (by omega), nI_clamp (by omega)]; exact cW_set3 (by decide)) dX11_copy_120 ?_
          show J G "copy" RX11 cX11_copy 8 (some .int) 0 0 3 Q 0 0 123 [(0, .ref (r 0)), (1, .int (nI 3)), (2, .int (nI Ii)), (3, .int (nI 3)), (4, .int (nI Jj)), (5, .int (nI Nn)), (6, .ref (r (11 + 3))), (7, .ref (r (11 + 3)))] [] (cW G r (su 73 s (va_cpy (s 73) (s 73) Ii Jj Nn)) l)
          refine J_iconst (v := nI 1) dX11_copy_123 (by decide) ?_
          exact J_iret dX11_copy_124 rfl rfl rfl (hq (su 73 s (va_cpy (s 73) (s 73) Ii Jj Nn)) l (nI 1, (su 2 σ (fb_put (σ 2) (fun k => σ 2 (60 * 3 + Ii + k)) (60 * 3 + Jj) Nn))) (by simp [oCopy, fnd, hsp_3, kcz1, eIi, eJj, eNn, hok, rng_of (show 3 < 4 by decide) (by decide), nI_clamp (show 3 < 2 ^ 31 by decide)]) (ci_copy33 hC ez_3 ez_3 hz60_3 hz60_3 u2_3 u2_3 hc1 hc2))
        · have hok : cpOk (nI 3) i (nI 3) j k σ = false := hi_no ez_3 ez_3 hz60_3 hz60_3 (Or.inr kcz3)
          refine J_aload_n dX11_copy_99 rfl rfl ?_
          refine J_iconst (v := nI 2) dX11_copy_100 (by decide) ?_
          refine J_cVi (x := yX12_in) [.int (nI 2)] 0 mv_X11_230 (c_X11_found r s l 2) cW_0 rfl rfl (by decide) (Nat.le_of_ble_eq_true rfl) ⟨Nat.le_refl _, Nat.le_refl _⟩ dX11_copy_101 ?_
          show J G "copy" RX11 cX11_copy 8 (some .int) 0 0 3 Q 0 0 104 [(0, .ref (r 0)), (1, .int (nI 3)), (2, .int i), (3, .int (nI 3)), (4, .int j), (5, .int k), (6, .ref (r (11 + 3))), (7, .ref (r (11 + 3)))] [.int ((-10) - nI 2)] (cW G r (su 50 s (fun _ => nI 2)) l)
          exact J_iret dX11_copy_104 rfl rfl rfl (hq (su 50 s (fun _ => nI 2)) l ((-10) - nI 2, (su 4 σ (fun _ => nI 2))) (by simp [oCopy, fnd, hsp_3, kcz1, kcz2, kcz3, hok, rng_of (show 3 < 4 by decide) (by decide), nI_clamp (show 3 < 2 ^ 31 by decide)]) (ci_fnd hC))
    · refine J_aload_n dX11_copy_70 rfl rfl ?_
      refine J_iconst (v := nI 4) dX11_copy_71 (by decide) ?_
      refine J_cVi (x := yX12_in) [.int (nI 4)] 0 mv_X11_230 (c_X11_found r s l 4) cW_0 rfl rfl (by decide) (Nat.le_of_ble_eq_true rfl) ⟨Nat.le_refl _, Nat.le_refl _⟩ dX11_copy_72 ?_
      show J G "copy" RX11 cX11_copy 8 (some .int) 0 0 3 Q 0 0 75 [(0, .ref (r 0)), (1, .int (nI 3)), (2, .int i), (3, .int (nI 3)), (4, .int j), (5, .int k), (6, .ref (r (11 + 3))), (7, .ref (r (11 + 3)))] [.int ((-10) - nI 4)] (cW G r (su 50 s (fun _ => nI 4)) l)
      exact J_iret dX11_copy_75 rfl rfl rfl (hq (su 50 s (fun _ => nI 4)) l ((-10) - nI 4, (su 4 σ (fun _ => nI 4))) (absurd rfl kcz1) (ci_fnd hC))
theorem c_X11_copy33 {G : GT} (r : Nat → Nat) (s : St) (l : Nat → Int64) (σ : St) (hL : LI σ) (hC : CI σ s) (i j k : Int32) : Ct G yX11_copy cX11_copy 8 (some .int) 0 0 3 [.ref (r 0), .int (nI 3), .int i, .int (nI 3), .int j, .int k] (cW G r s l) (QC G r (oCopy (nI 3) i (nI 3) j k σ)) := Ct.of rfl (Nat.le_of_ble_eq_true rfl) (j_X11_copy33 r s l σ hL hC i j k (fun x lx a h1 h2 => ⟨x, lx, by rw [h1], rfl, by rw [← h1]; exact h2⟩))
set_option maxRecDepth 100000 in
set_option maxHeartbeats 1000000 in
theorem j_X11_copy_bad {G : GT} (r : Nat → Nat) (s : St) (l : Nat → Int64) (σ : St) (hL : LI σ) (hC : CI σ s) (p i q j k : Int32) (hno : (rng p 4 && rng q 4) = false) {Q : Option Value → va_W → Prop} (hq : ∀ (x : St) (lx : Nat → Int64) (a : Int32 × St), a = oCopy p i q j k σ → CI a.2 x → Q (some (.int a.1)) (cW G r x lx)) : J G "copy" RX11 cX11_copy 8 (some .int) 0 0 3 Q 0 0 0 [(0, .ref (r 0)), (1, .int p), (2, .int i), (3, .int q), (4, .int j), (5, .int k)] [] (cW G r s l) := by
  refine J_iload_n dX11_copy_0 rfl rfl ?_
  refine J_iconst (v := nI 4) dX11_copy_1 (by decide) ?_
  refine J_cSi [.int p, .int (nI 4)] ms_X11_48 (c_X11_isBelowN (cW G r s l) p 4) rfl rfl (by decide) (Nat.le_of_ble_eq_true rfl) ⟨Nat.le_refl _, Nat.le_refl _⟩ dX11_copy_2 ?_
  refine J_if_eqB 16 dX11_copy_5 (by decide) (fun kcz1 => ?_) (fun kcz1 => ?_)
  · refine J_bipush (v := -2) dX11_copy_16 (by decide) ?_
    exact J_iret dX11_copy_18 rfl rfl rfl (hq s l ((-2), σ) (by simp [oCopy, hno]) (show CI σ s from hC))
  · refine J_iload_n dX11_copy_8 rfl rfl ?_
    refine J_iconst (v := nI 4) dX11_copy_9 (by decide) ?_
    refine J_cSi [.int q, .int (nI 4)] ms_X11_48 (c_X11_isBelowN (cW G r s l) q 4) rfl rfl (by decide) (Nat.le_of_ble_eq_true rfl) ⟨Nat.le_refl _, Nat.le_refl _⟩ dX11_copy_10 ?_
    refine J_if_neB 19 dX11_copy_13 (by decide) (fun kcz2 => ?_) (fun kcz2 => ?_)
    · exact absurd hno (by rw [kcz1, kcz2]; decide)
    · refine J_bipush (v := -2) dX11_copy_16 (by decide) ?_
      exact J_iret dX11_copy_18 rfl rfl rfl (hq s l ((-2), σ) (by simp [oCopy, hno]) (show CI σ s from hC))
theorem c_X11_copy_bad {G : GT} (r : Nat → Nat) (s : St) (l : Nat → Int64) (σ : St) (hL : LI σ) (hC : CI σ s) (p i q j k : Int32) (hno : (rng p 4 && rng q 4) = false) : Ct G yX11_copy cX11_copy 8 (some .int) 0 0 3 [.ref (r 0), .int p, .int i, .int q, .int j, .int k] (cW G r s l) (QC G r (oCopy p i q j k σ)) := Ct.of rfl (Nat.le_of_ble_eq_true rfl) (j_X11_copy_bad r s l σ hL hC p i q j k hno (fun x lx a h1 h2 => ⟨x, lx, by rw [h1], rfl, by rw [← h1]; exact h2⟩))
theorem c_X11_copy {G : GT} (r : Nat → Nat) (s : St) (l : Nat → Int64) (σ : St) (hL : LI σ) (hC : CI σ s) (p i q j k : Int32) : Ct G yX11_copy cX11_copy 8 (some .int) 0 0 3 [.ref (r 0), .int p, .int i, .int q, .int j, .int k] (cW G r s l) (QC G r (oCopy p i q j k σ)) := by
  rcases rng_cases p (n := 4) (by decide) with h | ⟨a, ha, rfl⟩
  · exact c_X11_copy_bad r s l σ hL hC p i q j k (by rw [h]; rfl)
  · rcases rng_cases q (n := 4) (by decide) with h | ⟨b, hb, rfl⟩
    · exact c_X11_copy_bad r s l σ hL hC (nI a) i q j k (by rw [h, Bool.and_false])
    · rcases (show a = 0 ∨ a = 1 ∨ a = 2 ∨ a = 3 by omega) with rfl | rfl | rfl | rfl <;> rcases (show b = 0 ∨ b = 1 ∨ b = 2 ∨ b = 3 by omega) with rfl | rfl | rfl | rfl
      · exact c_X11_copy00 r s l σ hL hC i j k
      · exact c_X11_copy01 r s l σ hL hC i j k
      · exact c_X11_copy02 r s l σ hL hC i j k
      · exact c_X11_copy03 r s l σ hL hC i j k
      · exact c_X11_copy10 r s l σ hL hC i j k
      · exact c_X11_copy11 r s l σ hL hC i j k
      · exact c_X11_copy12 r s l σ hL hC i j k
      · exact c_X11_copy13 r s l σ hL hC i j k
      · exact c_X11_copy20 r s l σ hL hC i j k
      · exact c_X11_copy21 r s l σ hL hC i j k
      · exact c_X11_copy22 r s l σ hL hC i j k
      · exact c_X11_copy23 r s l σ hL hC i j k
      · exact c_X11_copy30 r s l σ hL hC i j k
      · exact c_X11_copy31 r s l σ hL hC i j k
      · exact c_X11_copy32 r s l σ hL hC i j k
      · exact c_X11_copy33 r s l σ hL hC i j k
