theorem lkM_lt (v : Nat) (f i : Int32) (σ : St) : lkM v f i σ < 2 ^ 31 := by
  unfold lkM; repeat' split
  all_goals decide
theorem fd_lost {σ : St} {j : Nat} {fo z f i : Int32} (h : z = -1) (hs : ¬ 0 ≤ σ 0 j) : fdC fo z f i = lkM j f i σ := by
  unfold fdC lkM; rw [if_pos h, if_neg hs]
theorem fd_there {σ : St} {j : Nat} {fo z f i : Int32} {k : Nat} (h1 : σ 0 j = fo) (h3 : z = σ 1 j) (hz : z = nI k) (hs : 0 ≤ σ 0 j) (hk : k ≤ 60 := by omega) : fdC fo z f i = lkM j f i σ := by
  have hn : ¬ z = -1 := by rw [hz]; exact fun q => m1_ne (by omega) q.symm
  unfold fdC lkM; rw [if_neg hn, if_pos hs, h1, h3]
theorem lkM_in2 {v : Nat} {f i : Int32} {σ : St} {z : Nat} (ez : σ 1 v = nI z) (hz : z < 2 ^ 31) (h : lkM v f i σ = 0) : ∃ j, j < z ∧ i = nI j := by
  unfold lkM at h
  split at h
  · split at h
    · split at h
      · next h3 =>
        rw [ez] at h3
        exact (rng_iff hz).mp h3
      · cases h
    · cases h
  · cases h
theorem lkM_f {v : Nat} {f i : Int32} {σ : St} (h : lkM v f i σ = 0) : σ 0 v = f := by
  unfold lkM at h
  split at h
  · split at h
    · next h2 => exact h2
    · cases h
  · cases h
theorem sho_keep {σ σ' : St} {j : Nat} {fo z : Int32} {it : Nat → Int32} (h : ShO σ j fo z it) (h0 : σ' 0 j = σ 0 j) (h1 : σ' 1 j = σ 1 j) (h2 : ∀ i, i < 60 → σ' 2 (60 * j + i) = σ 2 (60 * j + i)) : ShO σ' j fo z it := by
  rcases h with ⟨a, b⟩ | ⟨a, b, c, d⟩
  · exact Or.inl ⟨a, h0.trans b⟩
  · refine Or.inr ⟨h0.trans a, by rw [h0]; exact b, by rw [h1]; exact c, fun k hk hk6 i hi => ?_⟩
    rw [h2 i (by omega)]; exact d k (hk.trans h1) hk6 i hi
theorem ci_sheet0 {σ s : St} (h : CI σ s) {F N : Nat} (hF : F < 3) (hN : N ≤ 60) : CI (su 2 (su 1 (su 0 σ (upd (σ 0) 0 (nI F))) (upd (σ 1) 0 (nI N))) (fb_put (σ 2) (fun _ => nI 0) (60 * 0) N)) (su 70 (su 68 (su 67 s (upd (s 67) 0 (nI F))) (upd (s 68) 0 (nI N))) (fun _ => nI 0)) := by
  refine ⟨h.1, h.2.1, h.2.2.1, h.2.2.2.1, h.2.2.2.2.1, h.2.2.2.2.2.1, ⟨?_, sho_keep h.2.2.2.2.2.2.1.2.1 rfl rfl (fun i hi => show fb_put (σ 2) (fun _ => nI 0) (60 * 0) N (60 * 1 + i) = σ 2 (60 * 1 + i) from fb_put_out (by omega)), sho_keep h.2.2.2.2.2.2.1.2.2.1 rfl rfl (fun i hi => show fb_put (σ 2) (fun _ => nI 0) (60 * 0) N (60 * 2 + i) = σ 2 (60 * 2 + i) from fb_put_out (by omega)), sho_keep h.2.2.2.2.2.2.1.2.2.2 rfl rfl (fun i hi => show fb_put (σ 2) (fun _ => nI 0) (60 * 0) N (60 * 3 + i) = σ 2 (60 * 3 + i) from fb_put_out (by omega))⟩, h.lt, h.2.2.2.2.2.2.2.2⟩
  refine Or.inr ⟨rfl, fun q => m1_ne (q := F) (by omega) q.symm, rfl, fun k hk hk6 i hi => ?_⟩
  have e : k = N := (nI_eq (by omega) (by omega)).mp hk
  show nI 0 = fb_put (σ 2) (fun _ => nI 0) (60 * 0) N (60 * 0 + i)
  rw [fb_put_in (by omega) (by omega)]
theorem ci_lose0 {σ s : St} (h : CI σ s) : CI (su 0 σ (upd (σ 0) 0 (-1))) (su 68 s (upd (s 68) 0 (-1))) := ⟨h.1, h.2.1, h.2.2.1, h.2.2.2.1, h.2.2.2.2.1, h.2.2.2.2.2.1, ⟨Or.inl ⟨rfl, rfl⟩, h.2.2.2.2.2.2.1.2.1, h.2.2.2.2.2.2.1.2.2.1, h.2.2.2.2.2.2.1.2.2.2⟩, h.lt, h.2.2.2.2.2.2.2.2⟩
theorem ci_lay0 {σ s : St} (h : CI σ s) {z I : Nat} {f x : Int32} (ez : σ 1 0 = nI z) (hz : z ≤ 60) (u1 : σ 0 0 = s 67 0) (u2 : ¬ σ 0 0 = -1) (hI : I < z) (hf : σ 0 0 = f) : CI (su 2 σ (upd (σ 2) (60 * 0 + I) (cutM f x))) (su 70 s (upd (s 70) I (cutM (s 67 0) x))) := by
  refine ⟨h.1, h.2.1, h.2.2.1, h.2.2.2.1, h.2.2.2.2.1, h.2.2.2.2.2.1, ⟨?_, sho_keep h.2.2.2.2.2.2.1.2.1 rfl rfl (fun i hi => show upd (σ 2) (60 * 0 + I) (cutM f x) (60 * 1 + i) = σ 2 (60 * 1 + i) from up_ne (by omega)), sho_keep h.2.2.2.2.2.2.1.2.2.1 rfl rfl (fun i hi => show upd (σ 2) (60 * 0 + I) (cutM f x) (60 * 2 + i) = σ 2 (60 * 2 + i) from up_ne (by omega)), sho_keep h.2.2.2.2.2.2.1.2.2.2 rfl rfl (fun i hi => show upd (σ 2) (60 * 0 + I) (cutM f x) (60 * 3 + i) = σ 2 (60 * 3 + i) from up_ne (by omega))⟩, h.lt, h.2.2.2.2.2.2.2.2⟩
  rcases h.2.2.2.2.2.2.1.1 with ⟨a, b⟩ | ⟨a, b, c, d⟩
  · exact absurd b u2
  · refine Or.inr ⟨a, b, c, fun k hk hk6 i hi => ?_⟩
    show upd (s 70) I (cutM (s 67 0) x) i = upd (σ 2) (60 * 0 + I) (cutM f x) (60 * 0 + i)
    rw [← hf, u1]
    by_cases e : i = I
    · rw [e, pk_us, pk_us]
    · rw [up_ne e, up_ne (by omega)]; exact d k hk hk6 i hi
theorem ci_hours0 {σ s : St} (h : CI σ s) {a b c : Nat → Int32} {z E : Nat} (ez : σ 1 0 = nI z) (hz : z ≤ 60) (u1 : σ 0 0 = s 67 0) (u2 : ¬ σ 0 0 = -1) : CI (su 2 σ (fb_put (σ 2) (fun t => cutM (σ 0 0) (doS σ E t)) (60 * 0) (min z 24))) (su 70 (su 61 (su 40 (su 39 s a) b) c) (fb_put (s 70) (fun t => cutM (s 67 0) (doM (nH σ) (HbS σ) (HeS σ) (wlS σ).1 E t)) 0 (min z 24))) := by
  refine ⟨h.1, h.2.1, h.2.2.1, h.2.2.2.1, h.2.2.2.2.1, h.2.2.2.2.2.1, ⟨?_, sho_keep h.2.2.2.2.2.2.1.2.1 rfl rfl (fun i hi => show fb_put (σ 2) (fun t => cutM (σ 0 0) (doS σ E t)) (60 * 0) (min z 24) (60 * 1 + i) = σ 2 (60 * 1 + i) from fb_put_out (by omega)), sho_keep h.2.2.2.2.2.2.1.2.2.1 rfl rfl (fun i hi => show fb_put (σ 2) (fun t => cutM (σ 0 0) (doS σ E t)) (60 * 0) (min z 24) (60 * 2 + i) = σ 2 (60 * 2 + i) from fb_put_out (by omega)), sho_keep h.2.2.2.2.2.2.1.2.2.2 rfl rfl (fun i hi => show fb_put (σ 2) (fun t => cutM (σ 0 0) (doS σ E t)) (60 * 0) (min z 24) (60 * 3 + i) = σ 2 (60 * 3 + i) from fb_put_out (by omega))⟩, h.lt, h.2.2.2.2.2.2.2.2⟩
  rcases h.2.2.2.2.2.2.1.1 with ⟨x1, x2⟩ | ⟨x1, x2, x3, x4⟩
  · exact absurd x2 u2
  · refine Or.inr ⟨x1, x2, x3, fun k hk hk6 i hi => ?_⟩
    have ek : k = z := (nI_eq (by omega) (by omega)).mp (hk.trans ez)
    show fb_put (s 70) (fun t => cutM (s 67 0) (doM (nH σ) (HbS σ) (HeS σ) (wlS σ).1 E t)) 0 (min z 24) i = fb_put (σ 2) (fun t => cutM (σ 0 0) (doS σ E t)) (60 * 0) (min z 24) (60 * 0 + i)
    by_cases e : i < min z 24
    · rw [fb_put_in (by omega) (by omega), fb_put_in (by omega) (by omega), Nat.sub_zero, Nat.add_sub_cancel_left, u1]; rfl
    · rw [fb_put_out (by omega), fb_put_out (by omega)]; exact x4 k hk hk6 i hi
theorem ci_sheet1 {σ s : St} (h : CI σ s) {F N : Nat} (hF : F < 3) (hN : N ≤ 60) : CI (su 2 (su 1 (su 0 σ (upd (σ 0) 1 (nI F))) (upd (σ 1) 1 (nI N))) (fb_put (σ 2) (fun _ => nI 0) (60 * 1) N)) (su 71 (su 68 (su 67 s (upd (s 67) 1 (nI F))) (upd (s 68) 1 (nI N))) (fun _ => nI 0)) := by
  refine ⟨h.1, h.2.1, h.2.2.1, h.2.2.2.1, h.2.2.2.2.1, h.2.2.2.2.2.1, ⟨sho_keep h.2.2.2.2.2.2.1.1 rfl rfl (fun i hi => show fb_put (σ 2) (fun _ => nI 0) (60 * 1) N (60 * 0 + i) = σ 2 (60 * 0 + i) from fb_put_out (by omega)), ?_, sho_keep h.2.2.2.2.2.2.1.2.2.1 rfl rfl (fun i hi => show fb_put (σ 2) (fun _ => nI 0) (60 * 1) N (60 * 2 + i) = σ 2 (60 * 2 + i) from fb_put_out (by omega)), sho_keep h.2.2.2.2.2.2.1.2.2.2 rfl rfl (fun i hi => show fb_put (σ 2) (fun _ => nI 0) (60 * 1) N (60 * 3 + i) = σ 2 (60 * 3 + i) from fb_put_out (by omega))⟩, h.lt, h.2.2.2.2.2.2.2.2⟩
  refine Or.inr ⟨rfl, fun q => m1_ne (q := F) (by omega) q.symm, rfl, fun k hk hk6 i hi => ?_⟩
  have e : k = N := (nI_eq (by omega) (by omega)).mp hk
  show nI 0 = fb_put (σ 2) (fun _ => nI 0) (60 * 1) N (60 * 1 + i)
  rw [fb_put_in (by omega) (by omega)]
theorem ci_lose1 {σ s : St} (h : CI σ s) : CI (su 0 σ (upd (σ 0) 1 (-1))) (su 68 s (upd (s 68) 1 (-1))) := ⟨h.1, h.2.1, h.2.2.1, h.2.2.2.1, h.2.2.2.2.1, h.2.2.2.2.2.1, ⟨h.2.2.2.2.2.2.1.1, Or.inl ⟨rfl, rfl⟩, h.2.2.2.2.2.2.1.2.2.1, h.2.2.2.2.2.2.1.2.2.2⟩, h.lt, h.2.2.2.2.2.2.2.2⟩
theorem ci_lay1 {σ s : St} (h : CI σ s) {z I : Nat} {f x : Int32} (ez : σ 1 1 = nI z) (hz : z ≤ 60) (u1 : σ 0 1 = s 67 1) (u2 : ¬ σ 0 1 = -1) (hI : I < z) (hf : σ 0 1 = f) : CI (su 2 σ (upd (σ 2) (60 * 1 + I) (cutM f x))) (su 71 s (upd (s 71) I (cutM (s 67 1) x))) := by
  refine ⟨h.1, h.2.1, h.2.2.1, h.2.2.2.1, h.2.2.2.2.1, h.2.2.2.2.2.1, ⟨sho_keep h.2.2.2.2.2.2.1.1 rfl rfl (fun i hi => show upd (σ 2) (60 * 1 + I) (cutM f x) (60 * 0 + i) = σ 2 (60 * 0 + i) from up_ne (by omega)), ?_, sho_keep h.2.2.2.2.2.2.1.2.2.1 rfl rfl (fun i hi => show upd (σ 2) (60 * 1 + I) (cutM f x) (60 * 2 + i) = σ 2 (60 * 2 + i) from up_ne (by omega)), sho_keep h.2.2.2.2.2.2.1.2.2.2 rfl rfl (fun i hi => show upd (σ 2) (60 * 1 + I) (cutM f x) (60 * 3 + i) = σ 2 (60 * 3 + i) from up_ne (by omega))⟩, h.lt, h.2.2.2.2.2.2.2.2⟩
  rcases h.2.2.2.2.2.2.1.2.1 with ⟨a, b⟩ | ⟨a, b, c, d⟩
  · exact absurd b u2
  · refine Or.inr ⟨a, b, c, fun k hk hk6 i hi => ?_⟩
    show upd (s 71) I (cutM (s 67 1) x) i = upd (σ 2) (60 * 1 + I) (cutM f x) (60 * 1 + i)
    rw [← hf, u1]
    by_cases e : i = I
    · rw [e, pk_us, pk_us]
    · rw [up_ne e, up_ne (by omega)]; exact d k hk hk6 i hi
theorem ci_hours1 {σ s : St} (h : CI σ s) {a b c : Nat → Int32} {z E : Nat} (ez : σ 1 1 = nI z) (hz : z ≤ 60) (u1 : σ 0 1 = s 67 1) (u2 : ¬ σ 0 1 = -1) : CI (su 2 σ (fb_put (σ 2) (fun t => cutM (σ 0 1) (doS σ E t)) (60 * 1) (min z 24))) (su 71 (su 61 (su 40 (su 39 s a) b) c) (fb_put (s 71) (fun t => cutM (s 67 1) (doM (nH σ) (HbS σ) (HeS σ) (wlS σ).1 E t)) 0 (min z 24))) := by
  refine ⟨h.1, h.2.1, h.2.2.1, h.2.2.2.1, h.2.2.2.2.1, h.2.2.2.2.2.1, ⟨sho_keep h.2.2.2.2.2.2.1.1 rfl rfl (fun i hi => show fb_put (σ 2) (fun t => cutM (σ 0 1) (doS σ E t)) (60 * 1) (min z 24) (60 * 0 + i) = σ 2 (60 * 0 + i) from fb_put_out (by omega)), ?_, sho_keep h.2.2.2.2.2.2.1.2.2.1 rfl rfl (fun i hi => show fb_put (σ 2) (fun t => cutM (σ 0 1) (doS σ E t)) (60 * 1) (min z 24) (60 * 2 + i) = σ 2 (60 * 2 + i) from fb_put_out (by omega)), sho_keep h.2.2.2.2.2.2.1.2.2.2 rfl rfl (fun i hi => show fb_put (σ 2) (fun t => cutM (σ 0 1) (doS σ E t)) (60 * 1) (min z 24) (60 * 3 + i) = σ 2 (60 * 3 + i) from fb_put_out (by omega))⟩, h.lt, h.2.2.2.2.2.2.2.2⟩
  rcases h.2.2.2.2.2.2.1.2.1 with ⟨x1, x2⟩ | ⟨x1, x2, x3, x4⟩
  · exact absurd x2 u2
  · refine Or.inr ⟨x1, x2, x3, fun k hk hk6 i hi => ?_⟩
    have ek : k = z := (nI_eq (by omega) (by omega)).mp (hk.trans ez)
    show fb_put (s 71) (fun t => cutM (s 67 1) (doM (nH σ) (HbS σ) (HeS σ) (wlS σ).1 E t)) 0 (min z 24) i = fb_put (σ 2) (fun t => cutM (σ 0 1) (doS σ E t)) (60 * 1) (min z 24) (60 * 1 + i)
    by_cases e : i < min z 24
    · rw [fb_put_in (by omega) (by omega), fb_put_in (by omega) (by omega), Nat.sub_zero, Nat.add_sub_cancel_left, u1]; rfl
    · rw [fb_put_out (by omega), fb_put_out (by omega)]; exact x4 k hk hk6 i hi
theorem ci_sheet2 {σ s : St} (h : CI σ s) {F N : Nat} (hF : F < 3) (hN : N ≤ 60) : CI (su 2 (su 1 (su 0 σ (upd (σ 0) 2 (nI F))) (upd (σ 1) 2 (nI N))) (fb_put (σ 2) (fun _ => nI 0) (60 * 2) N)) (su 72 (su 68 (su 67 s (upd (s 67) 2 (nI F))) (upd (s 68) 2 (nI N))) (fun _ => nI 0)) := by
  refine ⟨h.1, h.2.1, h.2.2.1, h.2.2.2.1, h.2.2.2.2.1, h.2.2.2.2.2.1, ⟨sho_keep h.2.2.2.2.2.2.1.1 rfl rfl (fun i hi => show fb_put (σ 2) (fun _ => nI 0) (60 * 2) N (60 * 0 + i) = σ 2 (60 * 0 + i) from fb_put_out (by omega)), sho_keep h.2.2.2.2.2.2.1.2.1 rfl rfl (fun i hi => show fb_put (σ 2) (fun _ => nI 0) (60 * 2) N (60 * 1 + i) = σ 2 (60 * 1 + i) from fb_put_out (by omega)), ?_, sho_keep h.2.2.2.2.2.2.1.2.2.2 rfl rfl (fun i hi => show fb_put (σ 2) (fun _ => nI 0) (60 * 2) N (60 * 3 + i) = σ 2 (60 * 3 + i) from fb_put_out (by omega))⟩, h.lt, h.2.2.2.2.2.2.2.2⟩
  refine Or.inr ⟨rfl, fun q => m1_ne (q := F) (by omega) q.symm, rfl, fun k hk hk6 i hi => ?_⟩
  have e : k = N := (nI_eq (by omega) (by omega)).mp hk
  show nI 0 = fb_put (σ 2) (fun _ => nI 0) (60 * 2) N (60 * 2 + i)
  rw [fb_put_in (by omega) (by omega)]
theorem ci_lose2 {σ s : St} (h : CI σ s) : CI (su 0 σ (upd (σ 0) 2 (-1))) (su 68 s (upd (s 68) 2 (-1))) := ⟨h.1, h.2.1, h.2.2.1, h.2.2.2.1, h.2.2.2.2.1, h.2.2.2.2.2.1, ⟨h.2.2.2.2.2.2.1.1, h.2.2.2.2.2.2.1.2.1, Or.inl ⟨rfl, rfl⟩, h.2.2.2.2.2.2.1.2.2.2⟩, h.lt, h.2.2.2.2.2.2.2.2⟩
theorem ci_lay2 {σ s : St} (h : CI σ s) {z I : Nat} {f x : Int32} (ez : σ 1 2 = nI z) (hz : z ≤ 60) (u1 : σ 0 2 = s 67 2) (u2 : ¬ σ 0 2 = -1) (hI : I < z) (hf : σ 0 2 = f) : CI (su 2 σ (upd (σ 2) (60 * 2 + I) (cutM f x))) (su 72 s (upd (s 72) I (cutM (s 67 2) x))) := by
  refine ⟨h.1, h.2.1, h.2.2.1, h.2.2.2.1, h.2.2.2.2.1, h.2.2.2.2.2.1, ⟨sho_keep h.2.2.2.2.2.2.1.1 rfl rfl (fun i hi => show upd (σ 2) (60 * 2 + I) (cutM f x) (60 * 0 + i) = σ 2 (60 * 0 + i) from up_ne (by omega)), sho_keep h.2.2.2.2.2.2.1.2.1 rfl rfl (fun i hi => show upd (σ 2) (60 * 2 + I) (cutM f x) (60 * 1 + i) = σ 2 (60 * 1 + i) from up_ne (by omega)), ?_, sho_keep h.2.2.2.2.2.2.1.2.2.2 rfl rfl (fun i hi => show upd (σ 2) (60 * 2 + I) (cutM f x) (60 * 3 + i) = σ 2 (60 * 3 + i) from up_ne (by omega))⟩, h.lt, h.2.2.2.2.2.2.2.2⟩
  rcases h.2.2.2.2.2.2.1.2.2.1 with ⟨a, b⟩ | ⟨a, b, c, d⟩
  · exact absurd b u2
  · refine Or.inr ⟨a, b, c, fun k hk hk6 i hi => ?_⟩
    show upd (s 72) I (cutM (s 67 2) x) i = upd (σ 2) (60 * 2 + I) (cutM f x) (60 * 2 + i)
    rw [← hf, u1]
    by_cases e : i = I
    · rw [e, pk_us, pk_us]
    · rw [up_ne e, up_ne (by omega)]; exact d k hk hk6 i hi
theorem ci_hours2 {σ s : St} (h : CI σ s) {a b c : Nat → Int32} {z E : Nat} (ez : σ 1 2 = nI z) (hz : z ≤ 60) (u1 : σ 0 2 = s 67 2) (u2 : ¬ σ 0 2 = -1) : CI (su 2 σ (fb_put (σ 2) (fun t => cutM (σ 0 2) (doS σ E t)) (60 * 2) (min z 24))) (su 72 (su 61 (su 40 (su 39 s a) b) c) (fb_put (s 72) (fun t => cutM (s 67 2) (doM (nH σ) (HbS σ) (HeS σ) (wlS σ).1 E t)) 0 (min z 24))) := by
  refine ⟨h.1, h.2.1, h.2.2.1, h.2.2.2.1, h.2.2.2.2.1, h.2.2.2.2.2.1, ⟨sho_keep h.2.2.2.2.2.2.1.1 rfl rfl (fun i hi => show fb_put (σ 2) (fun t => cutM (σ 0 2) (doS σ E t)) (60 * 2) (min z 24) (60 * 0 + i) = σ 2 (60 * 0 + i) from fb_put_out (by omega)), sho_keep h.2.2.2.2.2.2.1.2.1 rfl rfl (fun i hi => show fb_put (σ 2) (fun t => cutM (σ 0 2) (doS σ E t)) (60 * 2) (min z 24) (60 * 1 + i) = σ 2 (60 * 1 + i) from fb_put_out (by omega)), ?_, sho_keep h.2.2.2.2.2.2.1.2.2.2 rfl rfl (fun i hi => show fb_put (σ 2) (fun t => cutM (σ 0 2) (doS σ E t)) (60 * 2) (min z 24) (60 * 3 + i) = σ 2 (60 * 3 + i) from fb_put_out (by omega))⟩, h.lt, h.2.2.2.2.2.2.2.2⟩
  rcases h.2.2.2.2.2.2.1.2.2.1 with ⟨x1, x2⟩ | ⟨x1, x2, x3, x4⟩
  · exact absurd x2 u2
  · refine Or.inr ⟨x1, x2, x3, fun k hk hk6 i hi => ?_⟩
    have ek : k = z := (nI_eq (by omega) (by omega)).mp (hk.trans ez)
    show fb_put (s 72) (fun t => cutM (s 67 2) (doM (nH σ) (HbS σ) (HeS σ) (wlS σ).1 E t)) 0 (min z 24) i = fb_put (σ 2) (fun t => cutM (σ 0 2) (doS σ E t)) (60 * 2) (min z 24) (60 * 2 + i)
    by_cases e : i < min z 24
    · rw [fb_put_in (by omega) (by omega), fb_put_in (by omega) (by omega), Nat.sub_zero, Nat.add_sub_cancel_left, u1]; rfl
    · rw [fb_put_out (by omega), fb_put_out (by omega)]; exact x4 k hk hk6 i hi
theorem ci_sheet3 {σ s : St} (h : CI σ s) {F N : Nat} (hF : F < 3) (hN : N ≤ 60) : CI (su 2 (su 1 (su 0 σ (upd (σ 0) 3 (nI F))) (upd (σ 1) 3 (nI N))) (fb_put (σ 2) (fun _ => nI 0) (60 * 3) N)) (su 73 (su 68 (su 67 s (upd (s 67) 3 (nI F))) (upd (s 68) 3 (nI N))) (fun _ => nI 0)) := by
  refine ⟨h.1, h.2.1, h.2.2.1, h.2.2.2.1, h.2.2.2.2.1, h.2.2.2.2.2.1, ⟨sho_keep h.2.2.2.2.2.2.1.1 rfl rfl (fun i hi => show fb_put (σ 2) (fun _ => nI 0) (60 * 3) N (60 * 0 + i) = σ 2 (60 * 0 + i) from fb_put_out (by omega)), sho_keep h.2.2.2.2.2.2.1.2.1 rfl rfl (fun i hi => show fb_put (σ 2) (fun _ => nI 0) (60 * 3) N (60 * 1 + i) = σ 2 (60 * 1 + i) from fb_put_out (by omega)), sho_keep h.2.2.2.2.2.2.1.2.2.1 rfl rfl (fun i hi => show fb_put (σ 2) (fun _ => nI 0) (60 * 3) N (60 * 2 + i) = σ 2 (60 * 2 + i) from fb_put_out (by omega)), ?_⟩, h.lt, h.2.2.2.2.2.2.2.2⟩
  refine Or.inr ⟨rfl, fun q => m1_ne (q := F) (by omega) q.symm, rfl, fun k hk hk6 i hi => ?_⟩
  have e : k = N := (nI_eq (by omega) (by omega)).mp hk
  show nI 0 = fb_put (σ 2) (fun _ => nI 0) (60 * 3) N (60 * 3 + i)
  rw [fb_put_in (by omega) (by omega)]
theorem ci_lose3 {σ s : St} (h : CI σ s) : CI (su 0 σ (upd (σ 0) 3 (-1))) (su 68 s (upd (s 68) 3 (-1))) := ⟨h.1, h.2.1, h.2.2.1, h.2.2.2.1, h.2.2.2.2.1, h.2.2.2.2.2.1, ⟨h.2.2.2.2.2.2.1.1, h.2.2.2.2.2.2.1.2.1, h.2.2.2.2.2.2.1.2.2.1, Or.inl ⟨rfl, rfl⟩⟩, h.lt, h.2.2.2.2.2.2.2.2⟩
theorem ci_lay3 {σ s : St} (h : CI σ s) {z I : Nat} {f x : Int32} (ez : σ 1 3 = nI z) (hz : z ≤ 60) (u1 : σ 0 3 = s 67 3) (u2 : ¬ σ 0 3 = -1) (hI : I < z) (hf : σ 0 3 = f) : CI (su 2 σ (upd (σ 2) (60 * 3 + I) (cutM f x))) (su 73 s (upd (s 73) I (cutM (s 67 3) x))) := by
  refine ⟨h.1, h.2.1, h.2.2.1, h.2.2.2.1, h.2.2.2.2.1, h.2.2.2.2.2.1, ⟨sho_keep h.2.2.2.2.2.2.1.1 rfl rfl (fun i hi => show upd (σ 2) (60 * 3 + I) (cutM f x) (60 * 0 + i) = σ 2 (60 * 0 + i) from up_ne (by omega)), sho_keep h.2.2.2.2.2.2.1.2.1 rfl rfl (fun i hi => show upd (σ 2) (60 * 3 + I) (cutM f x) (60 * 1 + i) = σ 2 (60 * 1 + i) from up_ne (by omega)), sho_keep h.2.2.2.2.2.2.1.2.2.1 rfl rfl (fun i hi => show upd (σ 2) (60 * 3 + I) (cutM f x) (60 * 2 + i) = σ 2 (60 * 2 + i) from up_ne (by omega)), ?_⟩, h.lt, h.2.2.2.2.2.2.2.2⟩
  rcases h.2.2.2.2.2.2.1.2.2.2 with ⟨a, b⟩ | ⟨a, b, c, d⟩
  · exact absurd b u2
  · refine Or.inr ⟨a, b, c, fun k hk hk6 i hi => ?_⟩
    show upd (s 73) I (cutM (s 67 3) x) i = upd (σ 2) (60 * 3 + I) (cutM f x) (60 * 3 + i)
    rw [← hf, u1]
    by_cases e : i = I
    · rw [e, pk_us, pk_us]
    · rw [up_ne e, up_ne (by omega)]; exact d k hk hk6 i hi
theorem ci_hours3 {σ s : St} (h : CI σ s) {a b c : Nat → Int32} {z E : Nat} (ez : σ 1 3 = nI z) (hz : z ≤ 60) (u1 : σ 0 3 = s 67 3) (u2 : ¬ σ 0 3 = -1) : CI (su 2 σ (fb_put (σ 2) (fun t => cutM (σ 0 3) (doS σ E t)) (60 * 3) (min z 24))) (su 73 (su 61 (su 40 (su 39 s a) b) c) (fb_put (s 73) (fun t => cutM (s 67 3) (doM (nH σ) (HbS σ) (HeS σ) (wlS σ).1 E t)) 0 (min z 24))) := by
  refine ⟨h.1, h.2.1, h.2.2.1, h.2.2.2.1, h.2.2.2.2.1, h.2.2.2.2.2.1, ⟨sho_keep h.2.2.2.2.2.2.1.1 rfl rfl (fun i hi => show fb_put (σ 2) (fun t => cutM (σ 0 3) (doS σ E t)) (60 * 3) (min z 24) (60 * 0 + i) = σ 2 (60 * 0 + i) from fb_put_out (by omega)), sho_keep h.2.2.2.2.2.2.1.2.1 rfl rfl (fun i hi => show fb_put (σ 2) (fun t => cutM (σ 0 3) (doS σ E t)) (60 * 3) (min z 24) (60 * 1 + i) = σ 2 (60 * 1 + i) from fb_put_out (by omega)), sho_keep h.2.2.2.2.2.2.1.2.2.1 rfl rfl (fun i hi => show fb_put (σ 2) (fun t => cutM (σ 0 3) (doS σ E t)) (60 * 3) (min z 24) (60 * 2 + i) = σ 2 (60 * 2 + i) from fb_put_out (by omega)), ?_⟩, h.lt, h.2.2.2.2.2.2.2.2⟩
  rcases h.2.2.2.2.2.2.1.2.2.2 with ⟨x1, x2⟩ | ⟨x1, x2, x3, x4⟩
  · exact absurd x2 u2
  · refine Or.inr ⟨x1, x2, x3, fun k hk hk6 i hi => ?_⟩
    have ek : k = z := (nI_eq (by omega) (by omega)).mp (hk.trans ez)
    show fb_put (s 73) (fun t => cutM (s 67 3) (doM (nH σ) (HbS σ) (HeS σ) (wlS σ).1 E t)) 0 (min z 24) i = fb_put (σ 2) (fun t => cutM (σ 0 3) (doS σ E t)) (60 * 3) (min z 24) (60 * 3 + i)
    by_cases e : i < min z 24
    · rw [fb_put_in (by omega) (by omega), fb_put_in (by omega) (by omega), Nat.sub_zero, Nat.add_sub_cancel_left, u1]; rfl
    · rw [fb_put_out (by omega), fb_put_out (by omega)]; exact x4 k hk hk6 i hi

set_option maxRecDepth 100000 in
set_option maxHeartbeats 1000000 in
theorem j_X11_sheet {G : GT} (r : Nat → Nat) (s : St) (l : Nat → Int64) (σ : St) (hL : LI σ) (hC : CI σ s) (v f n : Int32) {Q : Option Value → va_W → Prop} (hq : ∀ (x : St) (lx : Nat → Int64) (a : Int32 × St), a = oSheet v f n σ → CI a.2 x → Q (some (.int a.1)) (cW G r x lx)) : J G "sheet" RX11 cX11_sheet 4 (some .int) 0 0 2 Q 0 0 0 [(0, .ref (r 0)), (1, .int v), (2, .int f), (3, .int n)] [] (cW G r s l) := by
  refine J_iload_n dX11_sheet_0 rfl rfl ?_
  refine J_iconst (v := nI 4) dX11_sheet_1 (by decide) ?_
  refine J_cSi [.int v, .int (nI 4)] ms_X11_48 (c_X11_isBelowN (cW G r s l) v 4) rfl rfl (by decide) (Nat.le_of_ble_eq_true rfl) ⟨Nat.le_refl _, Nat.le_refl _⟩ dX11_sheet_2 ?_
  refine J_if_eqB 22 dX11_sheet_5 (by decide) (fun kcz1 => ?_) (fun kcz1 => ?_)
  · refine J_bipush (v := -2) dX11_sheet_22 (by decide) ?_
    exact J_iret dX11_sheet_24 rfl rfl rfl (hq s l ((-2), σ) (by simp [oSheet, fnd, kcz1]) hC)
  · obtain ⟨V9, hV9, rfl⟩ := (rng_iff (by omega)).mp kcz1
    have eV9 : (nI V9).toNatClampNeg = V9 := nI_clamp (by omega)
    refine J_iload_n dX11_sheet_8 rfl rfl ?_
    refine J_iconst (v := nI 3) dX11_sheet_9 (by decide) ?_
    refine J_cSi [.int f, .int (nI 3)] ms_X11_48 (c_X11_isBelowN (cW G r s l) f 3) rfl rfl (by decide) (Nat.le_of_ble_eq_true rfl) ⟨Nat.le_refl _, Nat.le_refl _⟩ dX11_sheet_10 ?_
    refine J_if_eqB 22 dX11_sheet_13 (by decide) (fun kcz2 => ?_) (fun kcz2 => ?_)
    · refine J_bipush (v := -2) dX11_sheet_22 (by decide) ?_
      exact J_iret dX11_sheet_24 rfl rfl rfl (hq s l ((-2), σ) (by simp [oSheet, fnd, kcz1, eV9, kcz2]) hC)
    · obtain ⟨F9, hF9, rfl⟩ := (rng_iff (by omega)).mp kcz2
      have eF9 : (nI F9).toNatClampNeg = F9 := nI_clamp (by omega)
      refine J_iload_n dX11_sheet_16 rfl rfl ?_
      refine J_bipush (v := nI 60) dX11_sheet_17 (by decide) ?_
      refine J_icmp_le 25 dX11_sheet_19 (by decide) (fun kcz3 => ?_) (fun kcz3 => ?_)
      · refine J_iload_n dX11_sheet_25 rfl rfl ?_
        refine J_if_ge 35 dX11_sheet_26 (by decide) (fun kcz4 => ?_) (fun kcz4 => ?_)
        · obtain ⟨Nn, hNn, rfl⟩ := n60 kcz4 kcz3
          have eNn : (nI Nn).toNatClampNeg = Nn := nI_clamp (by omega)
          rcases (show V9 = 0 ∨ V9 = 1 ∨ V9 = 2 ∨ V9 = 3 by omega) with rfl | rfl | rfl | rfl
          · refine J_aload_n dX11_sheet_35 rfl rfl ?_
            refine Cg_0_4 fr_X11_39_10 dX11_sheet_36 ?_
            refine J_iload_n dX11_sheet_39 rfl rfl ?_
            refine Cl_10 0 rfl (by omega) dX11_sheet_40 ?_
            refine J_iload_n dX11_sheet_41 rfl rfl ?_
            refine J_iload_n dX11_sheet_42 rfl rfl ?_
            refine J_cVv (x := yX12_in) [.int (nI F9), .int (nI Nn)] (11 + 0) mv_X11_265 (c_X8_renew0 r s l (nI F9) (nI Nn)) (cW_sh (by omega)) rfl rfl (by decide) (Nat.le_of_ble_eq_true rfl) ⟨Nat.le_refl _, Nat.le_refl _⟩ dX11_sheet_43 ?_
            show J G "sheet" RX11 cX11_sheet 4 (some .int) 0 0 2 Q 0 0 46 [(0, .ref (r 0)), (1, .int (nI 0)), (2, .int (nI F9)), (3, .int (nI Nn))] [] (cW G r (su 70 (su 68 (su 67 s (upd (s 67) 0 (nI F9))) (upd (s 68) 0 (nI Nn))) (fun _ => nI 0)) l)
            refine J_iload_n dX11_sheet_46 rfl rfl ?_
            exact J_iret dX11_sheet_47 rfl rfl rfl (hq (su 70 (su 68 (su 67 s (upd (s 67) 0 (nI F9))) (upd (s 68) 0 (nI Nn))) (fun _ => nI 0)) l (nI Nn, (su 2 (su 1 (su 0 σ (upd (σ 0) 0 (nI F9))) (upd (σ 1) 0 (nI Nn))) (fb_put (σ 2) (fun _ => nI 0) (60 * 0) Nn))) (by simp [oSheet, fnd, kcz1, eV9, kcz2, eF9, kcz3, kcz4, eNn, rng_of (show 0 < 4 by decide) (by decide), nI_clamp (show 0 < 2 ^ 31 by decide)]) (ci_sheet0 hC hF9 hNn))
          · refine J_aload_n dX11_sheet_35 rfl rfl ?_
            refine Cg_0_4 fr_X11_39_10 dX11_sheet_36 ?_
            refine J_iload_n dX11_sheet_39 rfl rfl ?_
            refine Cl_10 1 rfl (by omega) dX11_sheet_40 ?_
            refine J_iload_n dX11_sheet_41 rfl rfl ?_
            refine J_iload_n dX11_sheet_42 rfl rfl ?_
            refine J_cVv (x := yX12_in) [.int (nI F9), .int (nI Nn)] (11 + 1) mv_X11_265 (c_X8_renew1 r s l (nI F9) (nI Nn)) (cW_sh (by omega)) rfl rfl (by decide) (Nat.le_of_ble_eq_true rfl) ⟨Nat.le_refl _, Nat.le_refl _⟩ dX11_sheet_43 ?_
            show J G "sheet" RX11 cX11_sheet 4 (some .int) 0 0 2 Q 0 0 46 [(0, .ref (r 0)), (1, .int (nI 1)), (2, .int (nI F9)), (3, .int (nI Nn))] [] (cW G r (su 71 (su 68 (su 67 s (upd (s 67) 1 (nI F9))) (upd (s 68) 1 (nI Nn))) (fun _ => nI 0)) l)
            refine J_iload_n dX11_sheet_46 rfl rfl ?_
            exact J_iret dX11_sheet_47 rfl rfl rfl (hq (su 71 (su 68 (su 67 s (upd (s 67) 1 (nI F9))) (upd (s 68) 1 (nI Nn))) (fun _ => nI 0)) l (nI Nn, (su 2 (su 1 (su 0 σ (upd (σ 0) 1 (nI F9))) (upd (σ 1) 1 (nI Nn))) (fb_put (σ 2) (fun _ => nI 0) (60 * 1) Nn))) (by simp [oSheet, fnd, kcz1, eV9, kcz2, eF9, kcz3, kcz4, eNn, rng_of (show 1 < 4 by decide) (by decide), nI_clamp (show 1 < 2 ^ 31 by decide)]) (ci_sheet1 hC hF9 hNn))
          · refine J_aload_n dX11_sheet_35 rfl rfl ?_
            refine Cg_0_4 fr_X11_39_10 dX11_sheet_36 ?_
            refine J_iload_n dX11_sheet_39 rfl rfl ?_
            refine Cl_10 2 rfl (by omega) dX11_sheet_40 ?_
            refine J_iload_n dX11_sheet_41 rfl rfl ?_
            refine J_iload_n dX11_sheet_42 rfl rfl ?_
            refine J_cVv (x := yX12_in) [.int (nI F9), .int (nI Nn)] (11 + 2) mv_X11_265 (c_X8_renew2 r s l (nI F9) (nI Nn)) (cW_sh (by omega)) rfl rfl (by decide) (Nat.le_of_ble_eq_true rfl) ⟨Nat.le_refl _, Nat.le_refl _⟩ dX11_sheet_43 ?_
            show J G "sheet" RX11 cX11_sheet 4 (some .int) 0 0 2 Q 0 0 46 [(0, .ref (r 0)), (1, .int (nI 2)), (2, .int (nI F9)), (3, .int (nI Nn))] [] (cW G r (su 72 (su 68 (su 67 s (upd (s 67) 2 (nI F9))) (upd (s 68) 2 (nI Nn))) (fun _ => nI 0)) l)
            refine J_iload_n dX11_sheet_46 rfl rfl ?_
            exact J_iret dX11_sheet_47 rfl rfl rfl (hq (su 72 (su 68 (su 67 s (upd (s 67) 2 (nI F9))) (upd (s 68) 2 (nI Nn))) (fun _ => nI 0)) l (nI Nn, (su 2 (su 1 (su 0 σ (upd (σ 0) 2 (nI F9))) (upd (σ 1) 2 (nI Nn))) (fb_put (σ 2) (fun _ => nI 0) (60 * 2) Nn))) (by simp [oSheet, fnd, kcz1, eV9, kcz2, eF9, kcz3, kcz4, eNn, rng_of (show 2 < 4 by decide) (by decide), nI_clamp (show 2 < 2 ^ 31 by decide)]) (ci_sheet2 hC hF9 hNn))
          · refine J_aload_n dX11_sheet_35 rfl rfl ?_
            refine Cg_0_4 fr_X11_39_10 dX11_sheet_36 ?_
            refine J_iload_n dX11_sheet_39 rfl rfl ?_
            refine Cl_10 3 rfl (by omega) dX11_sheet_40 ?_
            refine J_iload_n dX11_sheet_41 rfl rfl ?_
            refine J_iload_n dX11_sheet_42 rfl rfl ?_
            refine J_cVv (x := yX12_in) [.int (nI F9), .int (nI Nn)] (11 + 3) mv_X11_265 (c_X8_renew3 r s l (nI F9) (nI Nn)) (cW_sh (by omega)) rfl rfl (by decide) (Nat.le_of_ble_eq_true rfl) ⟨Nat.le_refl _, Nat.le_refl _⟩ dX11_sheet_43 ?_
            show J G "sheet" RX11 cX11_sheet 4 (some .int) 0 0 2 Q 0 0 46 [(0, .ref (r 0)), (1, .int (nI 3)), (2, .int (nI F9)), (3, .int (nI Nn))] [] (cW G r (su 73 (su 68 (su 67 s (upd (s 67) 3 (nI F9))) (upd (s 68) 3 (nI Nn))) (fun _ => nI 0)) l)
            refine J_iload_n dX11_sheet_46 rfl rfl ?_
            exact J_iret dX11_sheet_47 rfl rfl rfl (hq (su 73 (su 68 (su 67 s (upd (s 67) 3 (nI F9))) (upd (s 68) 3 (nI Nn))) (fun _ => nI 0)) l (nI Nn, (su 2 (su 1 (su 0 σ (upd (σ 0) 3 (nI F9))) (upd (σ 1) 3 (nI Nn))) (fb_put (σ 2) (fun _ => nI 0) (60 * 3) Nn))) (by simp [oSheet, fnd, kcz1, eV9, kcz2, eF9, kcz3, kcz4, eNn, rng_of (show 3 < 4 by decide) (by decide), nI_clamp (show 3 < 2 ^ 31 by decide)]) (ci_sheet3 hC hF9 hNn))
        · refine J_aload_n dX11_sheet_29 rfl rfl ?_
          refine J_iconst (v := nI 5) dX11_sheet_30 (by decide) ?_
          refine J_cVi (x := yX12_in) [.int (nI 5)] 0 mv_X11_230 (c_X11_found r s l 5) cW_0 rfl rfl (by decide) (Nat.le_of_ble_eq_true rfl) ⟨Nat.le_refl _, Nat.le_refl _⟩ dX11_sheet_31 ?_
          show J G "sheet" RX11 cX11_sheet 4 (some .int) 0 0 2 Q 0 0 34 [(0, .ref (r 0)), (1, .int (nI V9)), (2, .int (nI F9)), (3, .int n)] [.int ((-10) - nI 5)] (cW G r (su 50 s (fun _ => nI 5)) l)
          exact J_iret dX11_sheet_34 rfl rfl rfl (hq (su 50 s (fun _ => nI 5)) l ((-10) - nI 5, (su 4 σ (fun _ => nI 5))) (by simp [oSheet, fnd, kcz1, eV9, kcz2, eF9, kcz3, kcz4]) (ci_fnd hC))
      · refine J_bipush (v := -2) dX11_sheet_22 (by decide) ?_
        exact J_iret dX11_sheet_24 rfl rfl rfl (hq s l ((-2), σ) (by simp [oSheet, fnd, kcz1, eV9, kcz2, eF9, kcz3]) hC)
theorem c_X11_sheet {G : GT} (r : Nat → Nat) (s : St) (l : Nat → Int64) (σ : St) (hL : LI σ) (hC : CI σ s) (v f n : Int32) : Ct G yX11_sheet cX11_sheet 4 (some .int) 0 0 2 [.ref (r 0), .int v, .int f, .int n] (cW G r s l) (QC G r (oSheet v f n σ)) := Ct.of rfl (Nat.le_of_ble_eq_true rfl) (j_X11_sheet r s l σ hL hC v f n (fun x lx a h1 h2 => ⟨x, lx, by rw [h1], rfl, by rw [← h1]; exact h2⟩))
set_option maxRecDepth 100000 in
set_option maxHeartbeats 1000000 in
theorem j_X11_lose {G : GT} (r : Nat → Nat) (s : St) (l : Nat → Int64) (σ : St) (hL : LI σ) (hC : CI σ s) (v : Int32) {Q : Option Value → va_W → Prop} (hq : ∀ (x : St) (lx : Nat → Int64) (a : Int32 × St), a = oLose v σ → CI a.2 x → Q (some (.int a.1)) (cW G r x lx)) : J G "lose" RX11 cX11_lose 4 (some .int) 0 0 2 Q 0 0 0 [(0, .ref (r 0)), (1, .int v)] [] (cW G r s l) := by
  refine J_iload_n dX11_lose_0 rfl rfl ?_
  refine J_iconst (v := nI 4) dX11_lose_1 (by decide) ?_
  refine J_cSi [.int v, .int (nI 4)] ms_X11_48 (c_X11_isBelowN (cW G r s l) v 4) rfl rfl (by decide) (Nat.le_of_ble_eq_true rfl) ⟨Nat.le_refl _, Nat.le_refl _⟩ dX11_lose_2 ?_
  refine J_if_neB 11 dX11_lose_5 (by decide) (fun kcz1 => ?_) (fun kcz1 => ?_)
  · obtain ⟨V9, hV9, rfl⟩ := (rng_iff (by omega)).mp kcz1
    have eV9 : (nI V9).toNatClampNeg = V9 := nI_clamp (by omega)
    rcases (show V9 = 0 ∨ V9 = 1 ∨ V9 = 2 ∨ V9 = 3 by omega) with rfl | rfl | rfl | rfl
    · rcases hC.2.2.2.2.2.2.1.1 with ⟨u1, u2⟩ | ⟨u1, u2, u3, u4⟩
      · have hls : decide (s 68 0 = -1) = true := decide_eq_true u1
        have hsp : ¬ 0 ≤ σ 0 0 := by rw [u2]; decide
        refine J_aload_n dX11_lose_11 rfl rfl ?_
        refine Cg_0_4 fr_X11_39_10 dX11_lose_12 ?_
        refine J_iload_n dX11_lose_15 rfl rfl ?_
        refine Cl_10 0 rfl (by omega) dX11_lose_16 ?_
        refine J_astore_n [(0, .ref (r 0)), (1, .int (nI 0)), (2, .ref (r (11 + 0)))] dX11_lose_17 rfl (by decide) rfl rfl rfl ?_
        refine J_aload_n dX11_lose_18 rfl rfl ?_
        refine J_cVi (x := yX12_in) [] (11 + 0) mv_X11_227 (c_X8_isLost r s l 0 (by omega)) (cW_sh (by omega)) rfl rfl (by decide) (Nat.le_of_ble_eq_true rfl) ⟨Nat.le_refl _, Nat.le_refl _⟩ dX11_lose_19 ?_
        refine J_if_eqB 31 dX11_lose_22 (by decide) (fun c => absurd c (by rw [hls]; decide)) (fun _ => ?_)
        refine J_aload_n dX11_lose_25 rfl rfl ?_
        refine J_iconst (v := nI 1) dX11_lose_26 (by decide) ?_
        refine J_cVi (x := yX12_in) [.int (nI 1)] 0 mv_X11_230 (c_X11_found r s l 1) cW_0 rfl rfl (by decide) (Nat.le_of_ble_eq_true rfl) ⟨Nat.le_refl _, Nat.le_refl _⟩ dX11_lose_27 ?_
        show J G "lose" RX11 cX11_lose 4 (some .int) 0 0 2 Q 0 0 30 [(0, .ref (r 0)), (1, .int (nI 0)), (2, .ref (r (11 + 0)))] [.int ((-10) - nI 1)] (cW G r (su 50 s (fun _ => nI 1)) l)
        exact J_iret dX11_lose_30 rfl rfl rfl (hq (su 50 s (fun _ => nI 1)) l ((-10) - nI 1, (su 4 σ (fun _ => nI 1))) (by simp [oLose, fnd, kcz1, eV9, hsp, rng_of (show 0 < 4 by decide) (by decide), nI_clamp (show 0 < 2 ^ 31 by decide)]) (ci_fnd hC))
      · obtain ⟨z, hz60, ez⟩ := (hL.sh (j := 0) (by decide)).2
        have hz : s 68 0 = nI z := u3.trans ez
        have hls : decide (s 68 0 = -1) = false := decide_eq_false (by rw [hz]; exact fun q => m1_ne (by omega) q.symm)
        obtain ⟨fo, hfo, efo⟩ := (hL.sh (j := 0) (by decide)).1.resolve_left u2
        have hsp : 0 ≤ σ 0 0 := by rw [efo]; exact nI_nn (by omega)
        have hit : ∀ i, i < z → s 70 i = σ 2 (60 * 0 + i) := u4 z ez.symm hz60
        have ezc : (σ 1 0).toNatClampNeg = z := by rw [ez]; exact nI_clamp (by omega)
        refine J_aload_n dX11_lose_11 rfl rfl ?_
        refine Cg_0_4 fr_X11_39_10 dX11_lose_12 ?_
        refine J_iload_n dX11_lose_15 rfl rfl ?_
        refine Cl_10 0 rfl (by omega) dX11_lose_16 ?_
        refine J_astore_n [(0, .ref (r 0)), (1, .int (nI 0)), (2, .ref (r (11 + 0)))] dX11_lose_17 rfl (by decide) rfl rfl rfl ?_
        refine J_aload_n dX11_lose_18 rfl rfl ?_
        refine J_cVi (x := yX12_in) [] (11 + 0) mv_X11_227 (c_X8_isLost r s l 0 (by omega)) (cW_sh (by omega)) rfl rfl (by decide) (Nat.le_of_ble_eq_true rfl) ⟨Nat.le_refl _, Nat.le_refl _⟩ dX11_lose_19 ?_
        refine J_if_eqB 31 dX11_lose_22 (by decide) (fun _ => ?_) (fun c => absurd c (by rw [hls]; decide))
        refine J_aload_n dX11_lose_31 rfl rfl ?_
        refine Cg_sh_2 (s := s) (by omega) fr_X11_268_7 (s 68 0) rfl dX11_lose_32 ?_
        refine J_rw (y := σ 1 0) u3 ?_
        refine J_istore_n [(0, .ref (r 0)), (1, .int (nI 0)), (2, .ref (r (11 + 0))), (3, .int (σ 1 0))] dX11_lose_35 rfl (by decide) rfl rfl rfl ?_
        refine J_aload_n dX11_lose_36 rfl rfl ?_
        refine J_iconst (v := -1) dX11_lose_37 (by decide) ?_
        refine Cp_sh_2 (s := s) (by omega) fr_X11_268_7 dX11_lose_38 ?_
        refine J_iload_n dX11_lose_41 rfl rfl ?_
        exact J_iret dX11_lose_42 rfl rfl rfl (hq (su 68 s (upd (s 68) 0 (-1))) l (σ 1 0, (su 0 σ (upd (σ 0) 0 (-1)))) (by simp [oLose, fnd, kcz1, eV9, hsp, ezc, rng_of (show 0 < 4 by decide) (by decide), nI_clamp (show 0 < 2 ^ 31 by decide)]) (ci_lose0 hC))
    · rcases hC.2.2.2.2.2.2.1.2.1 with ⟨u1, u2⟩ | ⟨u1, u2, u3, u4⟩
      · have hls : decide (s 68 1 = -1) = true := decide_eq_true u1
        have hsp : ¬ 0 ≤ σ 0 1 := by rw [u2]; decide
        refine J_aload_n dX11_lose_11 rfl rfl ?_
        refine Cg_0_4 fr_X11_39_10 dX11_lose_12 ?_
        refine J_iload_n dX11_lose_15 rfl rfl ?_
        refine Cl_10 1 rfl (by omega) dX11_lose_16 ?_
        refine J_astore_n [(0, .ref (r 0)), (1, .int (nI 1)), (2, .ref (r (11 + 1)))] dX11_lose_17 rfl (by decide) rfl rfl rfl ?_
        refine J_aload_n dX11_lose_18 rfl rfl ?_
        refine J_cVi (x := yX12_in) [] (11 + 1) mv_X11_227 (c_X8_isLost r s l 1 (by omega)) (cW_sh (by omega)) rfl rfl (by decide) (Nat.le_of_ble_eq_true rfl) ⟨Nat.le_refl _, Nat.le_refl _⟩ dX11_lose_19 ?_
        refine J_if_eqB 31 dX11_lose_22 (by decide) (fun c => absurd c (by rw [hls]; decide)) (fun _ => ?_)
        refine J_aload_n dX11_lose_25 rfl rfl ?_
        refine J_iconst (v := nI 1) dX11_lose_26 (by decide) ?_
        refine J_cVi (x := yX12_in) [.int (nI 1)] 0 mv_X11_230 (c_X11_found r s l 1) cW_0 rfl rfl (by decide) (Nat.le_of_ble_eq_true rfl) ⟨Nat.le_refl _, Nat.le_refl _⟩ dX11_lose_27 ?_
        show J G "lose" RX11 cX11_lose 4 (some .int) 0 0 2 Q 0 0 30 [(0, .ref (r 0)), (1, .int (nI 1)), (2, .ref (r (11 + 1)))] [.int ((-10) - nI 1)] (cW G r (su 50 s (fun _ => nI 1)) l)
        exact J_iret dX11_lose_30 rfl rfl rfl (hq (su 50 s (fun _ => nI 1)) l ((-10) - nI 1, (su 4 σ (fun _ => nI 1))) (by simp [oLose, fnd, kcz1, eV9, hsp, rng_of (show 1 < 4 by decide) (by decide), nI_clamp (show 1 < 2 ^ 31 by decide)]) (ci_fnd hC))
      · obtain ⟨z, hz60, ez⟩ := (hL.sh (j := 1) (by decide)).2
        have hz : s 68 1 = nI z := u3.trans ez
        have hls : decide (s 68 1 = -1) = false := decide_eq_false (by rw [hz]; exact fun q => m1_ne (by omega) q.symm)
        obtain ⟨fo, hfo, efo⟩ := (hL.sh (j := 1) (by decide)).1.resolve_left u2
        have hsp : 0 ≤ σ 0 1 := by rw [efo]; exact nI_nn (by omega)
        have hit : ∀ i, i < z → s 71 i = σ 2 (60 * 1 + i) := u4 z ez.symm hz60
        have ezc : (σ 1 1).toNatClampNeg = z := by rw [ez]; exact nI_clamp (by omega)
        refine J_aload_n dX11_lose_11 rfl rfl ?_
        refine Cg_0_4 fr_X11_39_10 dX11_lose_12 ?_
        refine J_iload_n dX11_lose_15 rfl rfl ?_
        refine Cl_10 1 rfl (by omega) dX11_lose_16 ?_
        refine J_astore_n [(0, .ref (r 0)), (1, .int (nI 1)), (2, .ref (r (11 + 1)))] dX11_lose_17 rfl (by decide) rfl rfl rfl ?_
        refine J_aload_n dX11_lose_18 rfl rfl ?_
        refine J_cVi (x := yX12_in) [] (11 + 1) mv_X11_227 (c_X8_isLost r s l 1 (by omega)) (cW_sh (by omega)) rfl rfl (by decide) (Nat.le_of_ble_eq_true rfl) ⟨Nat.le_refl _, Nat.le_refl _⟩ dX11_lose_19 ?_
        refine J_if_eqB 31 dX11_lose_22 (by decide) (fun _ => ?_) (fun c => absurd c (by rw [hls]; decide))
        refine J_aload_n dX11_lose_31 rfl rfl ?_
        refine Cg_sh_2 (s := s) (by omega) fr_X11_268_7 (s 68 1) rfl dX11_lose_32 ?_
        refine J_rw (y := σ 1 1) u3 ?_
        refine J_istore_n [(0, .ref (r 0)), (1, .int (nI 1)), (2, .ref (r (11 + 1))), (3, .int (σ 1 1))] dX11_lose_35 rfl (by decide) rfl rfl rfl ?_
        refine J_aload_n dX11_lose_36 rfl rfl ?_
        refine J_iconst (v := -1) dX11_lose_37 (by decide) ?_
        refine Cp_sh_2 (s := s) (by omega) fr_X11_268_7 dX11_lose_38 ?_
        refine J_iload_n dX11_lose_41 rfl rfl ?_
        exact J_iret dX11_lose_42 rfl rfl rfl (hq (su 68 s (upd (s 68) 1 (-1))) l (σ 1 1, (su 0 σ (upd (σ 0) 1 (-1)))) (by simp [oLose, fnd, kcz1, eV9, hsp, ezc, rng_of (show 1 < 4 by decide) (by decide), nI_clamp (show 1 < 2 ^ 31 by decide)]) (ci_lose1 hC))
    · rcases hC.2.2.2.2.2.2.1.2.2.1 with ⟨u1, u2⟩ | ⟨u1, u2, u3, u4⟩
      · have hls : decide (s 68 2 = -1) = true := decide_eq_true u1
        have hsp : ¬ 0 ≤ σ 0 2 := by rw [u2]; decide
        refine J_aload_n dX11_lose_11 rfl rfl ?_
        refine Cg_0_4 fr_X11_39_10 dX11_lose_12 ?_
        refine J_iload_n dX11_lose_15 rfl rfl ?_
        refine Cl_10 2 rfl (by omega) dX11_lose_16 ?_
        refine J_astore_n [(0, .ref (r 0)), (1, .int (nI 2)), (2, .ref (r (11 + 2)))] dX11_lose_17 rfl (by decide) rfl rfl rfl ?_
        refine J_aload_n dX11_lose_18 rfl rfl ?_
        refine J_cVi (x := yX12_in) [] (11 + 2) mv_X11_227 (c_X8_isLost r s l 2 (by omega)) (cW_sh (by omega)) rfl rfl (by decide) (Nat.le_of_ble_eq_true rfl) ⟨Nat.le_refl _, Nat.le_refl _⟩ dX11_lose_19 ?_
        refine J_if_eqB 31 dX11_lose_22 (by decide) (fun c => absurd c (by rw [hls]; decide)) (fun _ => ?_)
        refine J_aload_n dX11_lose_25 rfl rfl ?_
        refine J_iconst (v := nI 1) dX11_lose_26 (by decide) ?_
        refine J_cVi (x := yX12_in) [.int (nI 1)] 0 mv_X11_230 (c_X11_found r s l 1) cW_0 rfl rfl (by decide) (Nat.le_of_ble_eq_true rfl) ⟨Nat.le_refl _, Nat.le_refl _⟩ dX11_lose_27 ?_
        show J G "lose" RX11 cX11_lose 4 (some .int) 0 0 2 Q 0 0 30 [(0, .ref (r 0)), (1, .int (nI 2)), (2, .ref (r (11 + 2)))] [.int ((-10) - nI 1)] (cW G r (su 50 s (fun _ => nI 1)) l)
        exact J_iret dX11_lose_30 rfl rfl rfl (hq (su 50 s (fun _ => nI 1)) l ((-10) - nI 1, (su 4 σ (fun _ => nI 1))) (by simp [oLose, fnd, kcz1, eV9, hsp, rng_of (show 2 < 4 by decide) (by decide), nI_clamp (show 2 < 2 ^ 31 by decide)]) (ci_fnd hC))
      · obtain ⟨z, hz60, ez⟩ := (hL.sh (j := 2) (by decide)).2
        have hz : s 68 2 = nI z := u3.trans ez
        have hls : decide (s 68 2 = -1) = false := decide_eq_false (by rw [hz]; exact fun q => m1_ne (by omega) q.symm)
        obtain ⟨fo, hfo, efo⟩ := (hL.sh (j := 2) (by decide)).1.resolve_left u2
        have hsp : 0 ≤ σ 0 2 := by rw [efo]; exact nI_nn (by omega)
        have hit : ∀ i, i < z → s 72 i = σ 2 (60 * 2 + i) := u4 z ez.symm hz60
        have ezc : (σ 1 2).toNatClampNeg = z := by rw [ez]; exact nI_clamp (by omega)
        refine J_aload_n dX11_lose_11 rfl rfl ?_
        refine Cg_0_4 fr_X11_39_10 dX11_lose_12 ?_
        refine J_iload_n dX11_lose_15 rfl rfl ?_
        refine Cl_10 2 rfl (by omega) dX11_lose_16 ?_
        refine J_astore_n [(0, .ref (r 0)), (1, .int (nI 2)), (2, .ref (r (11 + 2)))] dX11_lose_17 rfl (by decide) rfl rfl rfl ?_
        refine J_aload_n dX11_lose_18 rfl rfl ?_
        refine J_cVi (x := yX12_in) [] (11 + 2) mv_X11_227 (c_X8_isLost r s l 2 (by omega)) (cW_sh (by omega)) rfl rfl (by decide) (Nat.le_of_ble_eq_true rfl) ⟨Nat.le_refl _, Nat.le_refl _⟩ dX11_lose_19 ?_
        refine J_if_eqB 31 dX11_lose_22 (by decide) (fun _ => ?_) (fun c => absurd c (by rw [hls]; decide))
        refine J_aload_n dX11_lose_31 rfl rfl ?_
        refine Cg_sh_2 (s := s) (by omega) fr_X11_268_7 (s 68 2) rfl dX11_lose_32 ?_
        refine J_rw (y := σ 1 2) u3 ?_
        refine J_istore_n [(0, .ref (r 0)), (1, .int (nI 2)), (2, .ref (r (11 + 2))), (3, .int (σ 1 2))] dX11_lose_35 rfl (by decide) rfl rfl rfl ?_
        refine J_aload_n dX11_lose_36 rfl rfl ?_
        refine J_iconst (v := -1) dX11_lose_37 (by decide) ?_
        refine Cp_sh_2 (s := s) (by omega) fr_X11_268_7 dX11_lose_38 ?_
        refine J_iload_n dX11_lose_41 rfl rfl ?_
        exact J_iret dX11_lose_42 rfl rfl rfl (hq (su 68 s (upd (s 68) 2 (-1))) l (σ 1 2, (su 0 σ (upd (σ 0) 2 (-1)))) (by simp [oLose, fnd, kcz1, eV9, hsp, ezc, rng_of (show 2 < 4 by decide) (by decide), nI_clamp (show 2 < 2 ^ 31 by decide)]) (ci_lose2 hC))
    · rcases hC.2.2.2.2.2.2.1.2.2.2 with ⟨u1, u2⟩ | ⟨u1, u2, u3, u4⟩
      · have hls : decide (s 68 3 = -1) = true := decide_eq_true u1
        have hsp : ¬ 0 ≤ σ 0 3 := by rw [u2]; decide
        refine J_aload_n dX11_lose_11 rfl rfl ?_
        refine Cg_0_4 fr_X11_39_10 dX11_lose_12 ?_
        refine J_iload_n dX11_lose_15 rfl rfl ?_
        refine Cl_10 3 rfl (by omega) dX11_lose_16 ?_
        refine J_astore_n [(0, .ref (r 0)), (1, .int (nI 3)), (2, .ref (r (11 + 3)))] dX11_lose_17 rfl (by decide) rfl rfl rfl ?_
        refine J_aload_n dX11_lose_18 rfl rfl ?_
        refine J_cVi (x := yX12_in) [] (11 + 3) mv_X11_227 (c_X8_isLost r s l 3 (by omega)) (cW_sh (by omega)) rfl rfl (by decide) (Nat.le_of_ble_eq_true rfl) ⟨Nat.le_refl _, Nat.le_refl _⟩ dX11_lose_19 ?_
        refine J_if_eqB 31 dX11_lose_22 (by decide) (fun c => absurd c (by rw [hls]; decide)) (fun _ => ?_)
        refine J_aload_n dX11_lose_25 rfl rfl ?_
        refine J_iconst (v := nI 1) dX11_lose_26 (by decide) ?_
        refine J_cVi (x := yX12_in) [.int (nI 1)] 0 mv_X11_230 (c_X11_found r s l 1) cW_0 rfl rfl (by decide) (Nat.le_of_ble_eq_true rfl) ⟨Nat.le_refl _, Nat.le_refl _⟩ dX11_lose_27 ?_
        show J G "lose" RX11 cX11_lose 4 (some .int) 0 0 2 Q 0 0 30 [(0, .ref (r 0)), (1, .int (nI 3)), (2, .ref (r (11 + 3)))] [.int ((-10) - nI 1)] (cW G r (su 50 s (fun _ => nI 1)) l)
        exact J_iret dX11_lose_30 rfl rfl rfl (hq (su 50 s (fun _ => nI 1)) l ((-10) - nI 1, (su 4 σ (fun _ => nI 1))) (by simp [oLose, fnd, kcz1, eV9, hsp, rng_of (show 3 < 4 by decide) (by decide), nI_clamp (show 3 < 2 ^ 31 by decide)]) (ci_fnd hC))
      · obtain ⟨z, hz60, ez⟩ := (hL.sh (j := 3) (by decide)).2
        have hz : s 68 3 = nI z := u3.trans ez
        have hls : decide (s 68 3 = -1) = false := decide_eq_false (by rw [hz]; exact fun q => m1_ne (by omega) q.symm)
        obtain ⟨fo, hfo, efo⟩ := (hL.sh (j := 3) (by decide)).1.resolve_left u2
        have hsp : 0 ≤ σ 0 3 := by rw [efo]; exact nI_nn (by omega)
        have hit : ∀ i, i < z → s 73 i = σ 2 (60 * 3 + i) := u4 z ez.symm hz60
        have ezc : (σ 1 3).toNatClampNeg = z := by rw [ez]; exact nI_clamp (by omega)
        refine J_aload_n dX11_lose_11 rfl rfl ?_
        refine Cg_0_4 fr_X11_39_10 dX11_lose_12 ?_
        refine J_iload_n dX11_lose_15 rfl rfl ?_
        refine Cl_10 3 rfl (by omega) dX11_lose_16 ?_
        refine J_astore_n [(0, .ref (r 0)), (1, .int (nI 3)), (2, .ref (r (11 + 3)))] dX11_lose_17 rfl (by decide) rfl rfl rfl ?_
        refine J_aload_n dX11_lose_18 rfl rfl ?_
        refine J_cVi (x := yX12_in) [] (11 + 3) mv_X11_227 (c_X8_isLost r s l 3 (by omega)) (cW_sh (by omega)) rfl rfl (by decide) (Nat.le_of_ble_eq_true rfl) ⟨Nat.le_refl _, Nat.le_refl _⟩ dX11_lose_19 ?_
        refine J_if_eqB 31 dX11_lose_22 (by decide) (fun _ => ?_) (fun c => absurd c (by rw [hls]; decide))
        refine J_aload_n dX11_lose_31 rfl rfl ?_
        refine Cg_sh_2 (s := s) (by omega) fr_X11_268_7 (s 68 3) rfl dX11_lose_32 ?_
        refine J_rw (y := σ 1 3) u3 ?_
        refine J_istore_n [(0, .ref (r 0)), (1, .int (nI 3)), (2, .ref (r (11 + 3))), (3, .int (σ 1 3))] dX11_lose_35 rfl (by decide) rfl rfl rfl ?_
        refine J_aload_n dX11_lose_36 rfl rfl ?_
        refine J_iconst (v := -1) dX11_lose_37 (by decide) ?_
        refine Cp_sh_2 (s := s) (by omega) fr_X11_268_7 dX11_lose_38 ?_
        refine J_iload_n dX11_lose_41 rfl rfl ?_
        exact J_iret dX11_lose_42 rfl rfl rfl (hq (su 68 s (upd (s 68) 3 (-1))) l (σ 1 3, (su 0 σ (upd (σ 0) 3 (-1)))) (by simp [oLose, fnd, kcz1, eV9, hsp, ezc, rng_of (show 3 < 4 by decide) (by decide), nI_clamp (show 3 < 2 ^ 31 by decide)]) (ci_lose3 hC))
  · refine J_bipush (v := -2) dX11_lose_8 (by decide) ?_
    exact J_iret dX11_lose_10 rfl rfl rfl (hq s l ((-2), σ) (by simp [oLose, fnd, kcz1]) hC)
theorem c_X11_lose {G : GT} (r : Nat → Nat) (s : St) (l : Nat → Int64) (σ : St) (hL : LI σ) (hC : CI σ s) (v : Int32) : Ct G yX11_lose cX11_lose 4 (some .int) 0 0 2 [.ref (r 0), .int v] (cW G r s l) (QC G r (oLose v σ)) := Ct.of rfl (Nat.le_of_ble_eq_true rfl) (j_X11_lose r s l σ hL hC v (fun x lx a h1 h2 => ⟨x, lx, by rw [h1], rfl, by rw [← h1]; exact h2⟩))
set_option maxRecDepth 100000 in
set_option maxHeartbeats 1000000 in
theorem j_X11_lay {G : GT} (r : Nat → Nat) (s : St) (l : Nat → Int64) (σ : St) (hL : LI σ) (hC : CI σ s) (v f i z9 : Int32) {Q : Option Value → va_W → Prop} (hq : ∀ (x : St) (lx : Nat → Int64) (a : Int32 × St), a = oLay v f i z9 σ → CI a.2 x → Q (some (.int a.1)) (cW G r x lx)) : J G "lay" RX11 cX11_lay 6 (some .int) 0 0 2 Q 0 0 0 [(0, .ref (r 0)), (1, .int v), (2, .int f), (3, .int i), (4, .int z9)] [] (cW G r s l) := by
  refine J_iload_n dX11_lay_0 rfl rfl ?_
  refine J_iconst (v := nI 4) dX11_lay_1 (by decide) ?_
  refine J_cSi [.int v, .int (nI 4)] ms_X11_48 (c_X11_isBelowN (cW G r s l) v 4) rfl rfl (by decide) (Nat.le_of_ble_eq_true rfl) ⟨Nat.le_refl _, Nat.le_refl _⟩ dX11_lay_2 ?_
  refine J_if_eqB 16 dX11_lay_5 (by decide) (fun kcz1 => ?_) (fun kcz1 => ?_)
  · refine J_bipush (v := -2) dX11_lay_16 (by decide) ?_
    exact J_iret dX11_lay_18 rfl rfl rfl (hq s l ((-2), σ) (by simp [oLay, fnd, kcz1]) hC)
  · obtain ⟨V9, hV9, rfl⟩ := (rng_iff (by omega)).mp kcz1
    have eV9 : (nI V9).toNatClampNeg = V9 := nI_clamp (by omega)
    refine J_iload_n dX11_lay_8 rfl rfl ?_
    refine J_iconst (v := nI 3) dX11_lay_9 (by decide) ?_
    refine J_cSi [.int f, .int (nI 3)] ms_X11_48 (c_X11_isBelowN (cW G r s l) f 3) rfl rfl (by decide) (Nat.le_of_ble_eq_true rfl) ⟨Nat.le_refl _, Nat.le_refl _⟩ dX11_lay_10 ?_
    refine J_if_neB 19 dX11_lay_13 (by decide) (fun kcz2 => ?_) (fun kcz2 => ?_)
    · obtain ⟨F9, hF9, rfl⟩ := (rng_iff (by omega)).mp kcz2
      have eF9 : (nI F9).toNatClampNeg = F9 := nI_clamp (by omega)
      rcases (show V9 = 0 ∨ V9 = 1 ∨ V9 = 2 ∨ V9 = 3 by omega) with rfl | rfl | rfl | rfl
      · rcases hC.2.2.2.2.2.2.1.1 with ⟨u1, u2⟩ | ⟨u1, u2, u3, u4⟩
        · have hls : decide (s 68 0 = -1) = true := decide_eq_true u1
          have hsp : ¬ 0 ≤ σ 0 0 := by rw [u2]; decide
          refine J_aload_n dX11_lay_19 rfl rfl ?_
          refine Cg_0_4 fr_X11_39_10 dX11_lay_20 ?_
          refine J_iload_n dX11_lay_23 rfl rfl ?_
          refine Cl_10 0 rfl (by omega) dX11_lay_24 ?_
          refine J_iload_n dX11_lay_25 rfl rfl ?_
          refine J_iload_n dX11_lay_26 rfl rfl ?_
          refine J_cVi (x := yX12_in) [.int (nI F9), .int i] (11 + 0) mv_X11_269 (c_X8_findingAt r s l 0 (by decide) (nI F9) i) (cW_sh (by omega)) rfl rfl (by decide) (Nat.le_of_ble_eq_true rfl) ⟨Nat.le_refl _, Nat.le_refl _⟩ dX11_lay_27 ?_
          refine J_rw (y := nI (lkM 0 (nI F9) i σ)) (congrArg nI (fd_lost u1 hsp)) ?_
          refine J_istore [(0, .ref (r 0)), (1, .int (nI 0)), (2, .int (nI F9)), (3, .int i), (4, .int z9), (5, .int (nI (lkM 0 (nI F9) i σ)))] dX11_lay_30 (by decide) rfl rfl rfl ?_
          refine J_iload dX11_lay_32 rfl ?_
          refine J_if_eqN 44 (lkM_lt _ _ _ _) dX11_lay_34 (by decide) (fun kcz3 => ?_) (fun kcz3 => ?_)
          · exact absurd kcz3 (by rw [lkM, if_neg hsp]; decide)
          · refine J_aload_n dX11_lay_37 rfl rfl ?_
            refine J_iload dX11_lay_38 rfl ?_
            refine J_cVi (x := yX12_in) [.int (nI (lkM 0 (nI F9) i σ))] 0 mv_X11_230 (c_X11_found r s l (lkM 0 (nI F9) i σ)) cW_0 rfl rfl (by decide) (Nat.le_of_ble_eq_true rfl) ⟨Nat.le_refl _, Nat.le_refl _⟩ dX11_lay_40 ?_
            show J G "lay" RX11 cX11_lay 6 (some .int) 0 0 2 Q 0 0 43 [(0, .ref (r 0)), (1, .int (nI 0)), (2, .int (nI F9)), (3, .int i), (4, .int z9), (5, .int (nI (lkM 0 (nI F9) i σ)))] [.int ((-10) - nI (lkM 0 (nI F9) i σ))] (cW G r (su 50 s (fun _ => nI (lkM 0 (nI F9) i σ))) l)
            exact J_iret dX11_lay_43 rfl rfl rfl (hq (su 50 s (fun _ => nI (lkM 0 (nI F9) i σ))) l ((-10) - nI (lkM 0 (nI F9) i σ), (su 4 σ (fun _ => nI (lkM 0 (nI F9) i σ)))) (by simp [oLay, fnd, kcz1, eV9, kcz2, eF9, kcz3, rng_of (show 0 < 4 by decide) (by decide), nI_clamp (show 0 < 2 ^ 31 by decide)]) (ci_fnd hC))
        · obtain ⟨z, hz60, ez⟩ := (hL.sh (j := 0) (by decide)).2
          have hz : s 68 0 = nI z := u3.trans ez
          have hls : decide (s 68 0 = -1) = false := decide_eq_false (by rw [hz]; exact fun q => m1_ne (by omega) q.symm)
          obtain ⟨fo, hfo, efo⟩ := (hL.sh (j := 0) (by decide)).1.resolve_left u2
          have hsp : 0 ≤ σ 0 0 := by rw [efo]; exact nI_nn (by omega)
          have hit : ∀ i, i < z → s 70 i = σ 2 (60 * 0 + i) := u4 z ez.symm hz60
          have ezc : (σ 1 0).toNatClampNeg = z := by rw [ez]; exact nI_clamp (by omega)
          refine J_aload_n dX11_lay_19 rfl rfl ?_
          refine Cg_0_4 fr_X11_39_10 dX11_lay_20 ?_
          refine J_iload_n dX11_lay_23 rfl rfl ?_
          refine Cl_10 0 rfl (by omega) dX11_lay_24 ?_
          refine J_iload_n dX11_lay_25 rfl rfl ?_
          refine J_iload_n dX11_lay_26 rfl rfl ?_
          refine J_cVi (x := yX12_in) [.int (nI F9), .int i] (11 + 0) mv_X11_269 (c_X8_findingAt r s l 0 (by decide) (nI F9) i) (cW_sh (by omega)) rfl rfl (by decide) (Nat.le_of_ble_eq_true rfl) ⟨Nat.le_refl _, Nat.le_refl _⟩ dX11_lay_27 ?_
          refine J_rw (y := nI (lkM 0 (nI F9) i σ)) (congrArg nI (fd_there u1 u3 hz hsp)) ?_
          refine J_istore [(0, .ref (r 0)), (1, .int (nI 0)), (2, .int (nI F9)), (3, .int i), (4, .int z9), (5, .int (nI (lkM 0 (nI F9) i σ)))] dX11_lay_30 (by decide) rfl rfl rfl ?_
          refine J_iload dX11_lay_32 rfl ?_
          refine J_if_eqN 44 (lkM_lt _ _ _ _) dX11_lay_34 (by decide) (fun kcz4 => ?_) (fun kcz4 => ?_)
          · obtain ⟨I9, hI9, rfl⟩ := lkM_in2 ez (by omega) kcz4
            have eI9 : (nI I9).toNatClampNeg = I9 := nI_clamp (by omega)
            have hff : σ 0 0 = nI F9 := lkM_f kcz4
            refine J_aload_n dX11_lay_44 rfl rfl ?_
            refine Cg_0_4 fr_X11_39_10 dX11_lay_45 ?_
            refine J_iload_n dX11_lay_48 rfl rfl ?_
            refine Cl_10 0 rfl (by omega) dX11_lay_49 ?_
            refine J_iload_n dX11_lay_50 rfl rfl ?_
            refine J_iload dX11_lay_51 rfl ?_
            refine J_cVv (x := yX12_in) [.int (nI I9), .int z9] (11 + 0) mv_X11_272 (c_X8_put r s l 0 (by decide) z hz hz60 I9 (by omega) z9) (cW_sh (by omega)) rfl rfl (by decide) (Nat.le_of_ble_eq_true rfl) ⟨Nat.le_refl _, Nat.le_refl _⟩ dX11_lay_53 ?_
            show J G "lay" RX11 cX11_lay 6 (some .int) 0 0 2 Q 0 0 56 [(0, .ref (r 0)), (1, .int (nI 0)), (2, .int (nI F9)), (3, .int (nI I9)), (4, .int z9), (5, .int (nI (lkM 0 (nI F9) (nI I9) σ)))] [] (cW G r (su 70 s (upd (s 70) I9 (cutM (s 67 0) z9))) l)
            refine J_iconst (v := nI 1) dX11_lay_56 (by decide) ?_
            exact J_iret dX11_lay_57 rfl rfl rfl (hq (su 70 s (upd (s 70) I9 (cutM (s 67 0) z9))) l (nI 1, (su 2 σ (upd (σ 2) (60 * 0 + I9) (cutM (nI F9) z9)))) (by simp [oLay, fnd, kcz1, eV9, kcz2, eF9, kcz4, eI9, rng_of (show 0 < 4 by decide) (by decide), nI_clamp (show 0 < 2 ^ 31 by decide)]) (ci_lay0 hC ez (by omega) u1 u2 hI9 hff))
          · refine J_aload_n dX11_lay_37 rfl rfl ?_
            refine J_iload dX11_lay_38 rfl ?_
            refine J_cVi (x := yX12_in) [.int (nI (lkM 0 (nI F9) i σ))] 0 mv_X11_230 (c_X11_found r s l (lkM 0 (nI F9) i σ)) cW_0 rfl rfl (by decide) (Nat.le_of_ble_eq_true rfl) ⟨Nat.le_refl _, Nat.le_refl _⟩ dX11_lay_40 ?_
            show J G "lay" RX11 cX11_lay 6 (some .int) 0 0 2 Q 0 0 43 [(0, .ref (r 0)), (1, .int (nI 0)), (2, .int (nI F9)), (3, .int i), (4, .int z9), (5, .int (nI (lkM 0 (nI F9) i σ)))] [.int ((-10) - nI (lkM 0 (nI F9) i σ))] (cW G r (su 50 s (fun _ => nI (lkM 0 (nI F9) i σ))) l)
            exact J_iret dX11_lay_43 rfl rfl rfl (hq (su 50 s (fun _ => nI (lkM 0 (nI F9) i σ))) l ((-10) - nI (lkM 0 (nI F9) i σ), (su 4 σ (fun _ => nI (lkM 0 (nI F9) i σ)))) (by simp [oLay, fnd, kcz1, eV9, kcz2, eF9, kcz4, rng_of (show 0 < 4 by decide) (by decide), nI_clamp (show 0 < 2 ^ 31 by decide)]) (ci_fnd hC))
      · rcases hC.2.2.2.2.2.2.1.2.1 with ⟨u1, u2⟩ | ⟨u1, u2, u3, u4⟩
        · have hls : decide (s 68 1 = -1) = true := decide_eq_true u1
          have hsp : ¬ 0 ≤ σ 0 1 := by rw [u2]; decide
          refine J_aload_n dX11_lay_19 rfl rfl ?_
          refine Cg_0_4 fr_X11_39_10 dX11_lay_20 ?_
          refine J_iload_n dX11_lay_23 rfl rfl ?_
          refine Cl_10 1 rfl (by omega) dX11_lay_24 ?_
          refine J_iload_n dX11_lay_25 rfl rfl ?_
          refine J_iload_n dX11_lay_26 rfl rfl ?_
          refine J_cVi (x := yX12_in) [.int (nI F9), .int i] (11 + 1) mv_X11_269 (c_X8_findingAt r s l 1 (by decide) (nI F9) i) (cW_sh (by omega)) rfl rfl (by decide) (Nat.le_of_ble_eq_true rfl) ⟨Nat.le_refl _, Nat.le_refl _⟩ dX11_lay_27 ?_
          refine J_rw (y := nI (lkM 1 (nI F9) i σ)) (congrArg nI (fd_lost u1 hsp)) ?_
          refine J_istore [(0, .ref (r 0)), (1, .int (nI 1)), (2, .int (nI F9)), (3, .int i), (4, .int z9), (5, .int (nI (lkM 1 (nI F9) i σ)))] dX11_lay_30 (by decide) rfl rfl rfl ?_
          refine J_iload dX11_lay_32 rfl ?_
          refine J_if_eqN 44 (lkM_lt _ _ _ _) dX11_lay_34 (by decide) (fun kcz5 => ?_) (fun kcz5 => ?_)
          · exact absurd kcz5 (by rw [lkM, if_neg hsp]; decide)
          · refine J_aload_n dX11_lay_37 rfl rfl ?_
            refine J_iload dX11_lay_38 rfl ?_
            refine J_cVi (x := yX12_in) [.int (nI (lkM 1 (nI F9) i σ))] 0 mv_X11_230 (c_X11_found r s l (lkM 1 (nI F9) i σ)) cW_0 rfl rfl (by decide) (Nat.le_of_ble_eq_true rfl) ⟨Nat.le_refl _, Nat.le_refl _⟩ dX11_lay_40 ?_
            show J G "lay" RX11 cX11_lay 6 (some .int) 0 0 2 Q 0 0 43 [(0, .ref (r 0)), (1, .int (nI 1)), (2, .int (nI F9)), (3, .int i), (4, .int z9), (5, .int (nI (lkM 1 (nI F9) i σ)))] [.int ((-10) - nI (lkM 1 (nI F9) i σ))] (cW G r (su 50 s (fun _ => nI (lkM 1 (nI F9) i σ))) l)
            exact J_iret dX11_lay_43 rfl rfl rfl (hq (su 50 s (fun _ => nI (lkM 1 (nI F9) i σ))) l ((-10) - nI (lkM 1 (nI F9) i σ), (su 4 σ (fun _ => nI (lkM 1 (nI F9) i σ)))) (by simp [oLay, fnd, kcz1, eV9, kcz2, eF9, kcz5, rng_of (show 1 < 4 by decide) (by decide), nI_clamp (show 1 < 2 ^ 31 by decide)]) (ci_fnd hC))
        · obtain ⟨z, hz60, ez⟩ := (hL.sh (j := 1) (by decide)).2
          have hz : s 68 1 = nI z := u3.trans ez
          have hls : decide (s 68 1 = -1) = false := decide_eq_false (by rw [hz]; exact fun q => m1_ne (by omega) q.symm)
          obtain ⟨fo, hfo, efo⟩ := (hL.sh (j := 1) (by decide)).1.resolve_left u2
          have hsp : 0 ≤ σ 0 1 := by rw [efo]; exact nI_nn (by omega)
          have hit : ∀ i, i < z → s 71 i = σ 2 (60 * 1 + i) := u4 z ez.symm hz60
          have ezc : (σ 1 1).toNatClampNeg = z := by rw [ez]; exact nI_clamp (by omega)
          refine J_aload_n dX11_lay_19 rfl rfl ?_
          refine Cg_0_4 fr_X11_39_10 dX11_lay_20 ?_
          refine J_iload_n dX11_lay_23 rfl rfl ?_
          refine Cl_10 1 rfl (by omega) dX11_lay_24 ?_
          refine J_iload_n dX11_lay_25 rfl rfl ?_
          refine J_iload_n dX11_lay_26 rfl rfl ?_
          refine J_cVi (x := yX12_in) [.int (nI F9), .int i] (11 + 1) mv_X11_269 (c_X8_findingAt r s l 1 (by decide) (nI F9) i) (cW_sh (by omega)) rfl rfl (by decide) (Nat.le_of_ble_eq_true rfl) ⟨Nat.le_refl _, Nat.le_refl _⟩ dX11_lay_27 ?_
          refine J_rw (y := nI (lkM 1 (nI F9) i σ)) (congrArg nI (fd_there u1 u3 hz hsp)) ?_
          refine J_istore [(0, .ref (r 0)), (1, .int (nI 1)), (2, .int (nI F9)), (3, .int i), (4, .int z9), (5, .int (nI (lkM 1 (nI F9) i σ)))] dX11_lay_30 (by decide) rfl rfl rfl ?_
          refine J_iload dX11_lay_32 rfl ?_
          refine J_if_eqN 44 (lkM_lt _ _ _ _) dX11_lay_34 (by decide) (fun kcz6 => ?_) (fun kcz6 => ?_)
          · obtain ⟨I9, hI9, rfl⟩ := lkM_in2 ez (by omega) kcz6
            have eI9 : (nI I9).toNatClampNeg = I9 := nI_clamp (by omega)
            have hff : σ 0 1 = nI F9 := lkM_f kcz6
            refine J_aload_n dX11_lay_44 rfl rfl ?_
            refine Cg_0_4 fr_X11_39_10 dX11_lay_45 ?_
            refine J_iload_n dX11_lay_48 rfl rfl ?_
            refine Cl_10 1 rfl (by omega) dX11_lay_49 ?_
            refine J_iload_n dX11_lay_50 rfl rfl ?_
            refine J_iload dX11_lay_51 rfl ?_
            refine J_cVv (x := yX12_in) [.int (nI I9), .int z9] (11 + 1) mv_X11_272 (c_X8_put r s l 1 (by decide) z hz hz60 I9 (by omega) z9) (cW_sh (by omega)) rfl rfl (by decide) (Nat.le_of_ble_eq_true rfl) ⟨Nat.le_refl _, Nat.le_refl _⟩ dX11_lay_53 ?_
            show J G "lay" RX11 cX11_lay 6 (some .int) 0 0 2 Q 0 0 56 [(0, .ref (r 0)), (1, .int (nI 1)), (2, .int (nI F9)), (3, .int (nI I9)), (4, .int z9), (5, .int (nI (lkM 1 (nI F9) (nI I9) σ)))] [] (cW G r (su 71 s (upd (s 71) I9 (cutM (s 67 1) z9))) l)
            refine J_iconst (v := nI 1) dX11_lay_56 (by decide) ?_
            exact J_iret dX11_lay_57 rfl rfl rfl (hq (su 71 s (upd (s 71) I9 (cutM (s 67 1) z9))) l (nI 1, (su 2 σ (upd (σ 2) (60 * 1 + I9) (cutM (nI F9) z9)))) (by simp [oLay, fnd, kcz1, eV9, kcz2, eF9, kcz6, eI9, rng_of (show 1 < 4 by decide) (by decide), nI_clamp (show 1 < 2 ^ 31 by decide)]) (ci_lay1 hC ez (by omega) u1 u2 hI9 hff))
          · refine J_aload_n dX11_lay_37 rfl rfl ?_
            refine J_iload dX11_lay_38 rfl ?_
            refine J_cVi (x := yX12_in) [.int (nI (lkM 1 (nI F9) i σ))] 0 mv_X11_230 (c_X11_found r s l (lkM 1 (nI F9) i σ)) cW_0 rfl rfl (by decide) (Nat.le_of_ble_eq_true rfl) ⟨Nat.le_refl _, Nat.le_refl _⟩ dX11_lay_40 ?_
            show J G "lay" RX11 cX11_lay 6 (some .int) 0 0 2 Q 0 0 43 [(0, .ref (r 0)), (1, .int (nI 1)), (2, .int (nI F9)), (3, .int i), (4, .int z9), (5, .int (nI (lkM 1 (nI F9) i σ)))] [.int ((-10) - nI (lkM 1 (nI F9) i σ))] (cW G r (su 50 s (fun _ => nI (lkM 1 (nI F9) i σ))) l)
            exact J_iret dX11_lay_43 rfl rfl rfl (hq (su 50 s (fun _ => nI (lkM 1 (nI F9) i σ))) l ((-10) - nI (lkM 1 (nI F9) i σ), (su 4 σ (fun _ => nI (lkM 1 (nI F9) i σ)))) (by simp [oLay, fnd, kcz1, eV9, kcz2, eF9, kcz6, rng_of (show 1 < 4 by decide) (by decide), nI_clamp (show 1 < 2 ^ 31 by decide)]) (ci_fnd hC))
      · rcases hC.2.2.2.2.2.2.1.2.2.1 with ⟨u1, u2⟩ | ⟨u1, u2, u3, u4⟩
        · have hls : decide (s 68 2 = -1) = true := decide_eq_true u1
          have hsp : ¬ 0 ≤ σ 0 2 := by rw [u2]; decide
          refine J_aload_n dX11_lay_19 rfl rfl ?_
          refine Cg_0_4 fr_X11_39_10 dX11_lay_20 ?_
          refine J_iload_n dX11_lay_23 rfl rfl ?_
          refine Cl_10 2 rfl (by omega) dX11_lay_24 ?_
          refine J_iload_n dX11_lay_25 rfl rfl ?_
          refine J_iload_n dX11_lay_26 rfl rfl ?_
          refine J_cVi (x := yX12_in) [.int (nI F9), .int i] (11 + 2) mv_X11_269 (c_X8_findingAt r s l 2 (by decide) (nI F9) i) (cW_sh (by omega)) rfl rfl (by decide) (Nat.le_of_ble_eq_true rfl) ⟨Nat.le_refl _, Nat.le_refl _⟩ dX11_lay_27 ?_
          refine J_rw (y := nI (lkM 2 (nI F9) i σ)) (congrArg nI (fd_lost u1 hsp)) ?_
          refine J_istore [(0, .ref (r 0)), (1, .int (nI 2)), (2, .int (nI F9)), (3, .int i), (4, .int z9), (5, .int (nI (lkM 2 (nI F9) i σ)))] dX11_lay_30 (by decide) rfl rfl rfl ?_
          refine J_iload dX11_lay_32 rfl ?_
          refine J_if_eqN 44 (lkM_lt _ _ _ _) dX11_lay_34 (by decide) (fun kcz7 => ?_) (fun kcz7 => ?_)
          · exact absurd kcz7 (by rw [lkM, if_neg hsp]; decide)
          · refine J_aload_n dX11_lay_37 rfl rfl ?_
            refine J_iload dX11_lay_38 rfl ?_
            refine J_cVi (x := yX12_in) [.int (nI (lkM 2 (nI F9) i σ))] 0 mv_X11_230 (c_X11_found r s l (lkM 2 (nI F9) i σ)) cW_0 rfl rfl (by decide) (Nat.le_of_ble_eq_true rfl) ⟨Nat.le_refl _, Nat.le_refl _⟩ dX11_lay_40 ?_
            show J G "lay" RX11 cX11_lay 6 (some .int) 0 0 2 Q 0 0 43 [(0, .ref (r 0)), (1, .int (nI 2)), (2, .int (nI F9)), (3, .int i), (4, .int z9), (5, .int (nI (lkM 2 (nI F9) i σ)))] [.int ((-10) - nI (lkM 2 (nI F9) i σ))] (cW G r (su 50 s (fun _ => nI (lkM 2 (nI F9) i σ))) l)
            exact J_iret dX11_lay_43 rfl rfl rfl (hq (su 50 s (fun _ => nI (lkM 2 (nI F9) i σ))) l ((-10) - nI (lkM 2 (nI F9) i σ), (su 4 σ (fun _ => nI (lkM 2 (nI F9) i σ)))) (by simp [oLay, fnd, kcz1, eV9, kcz2, eF9, kcz7, rng_of (show 2 < 4 by decide) (by decide), nI_clamp (show 2 < 2 ^ 31 by decide)]) (ci_fnd hC))
        · obtain ⟨z, hz60, ez⟩ := (hL.sh (j := 2) (by decide)).2
          have hz : s 68 2 = nI z := u3.trans ez
          have hls : decide (s 68 2 = -1) = false := decide_eq_false (by rw [hz]; exact fun q => m1_ne (by omega) q.symm)
          obtain ⟨fo, hfo, efo⟩ := (hL.sh (j := 2) (by decide)).1.resolve_left u2
          have hsp : 0 ≤ σ 0 2 := by rw [efo]; exact nI_nn (by omega)
          have hit : ∀ i, i < z → s 72 i = σ 2 (60 * 2 + i) := u4 z ez.symm hz60
          have ezc : (σ 1 2).toNatClampNeg = z := by rw [ez]; exact nI_clamp (by omega)
          refine J_aload_n dX11_lay_19 rfl rfl ?_
          refine Cg_0_4 fr_X11_39_10 dX11_lay_20 ?_
          refine J_iload_n dX11_lay_23 rfl rfl ?_
          refine Cl_10 2 rfl (by omega) dX11_lay_24 ?_
          refine J_iload_n dX11_lay_25 rfl rfl ?_
          refine J_iload_n dX11_lay_26 rfl rfl ?_
          refine J_cVi (x := yX12_in) [.int (nI F9), .int i] (11 + 2) mv_X11_269 (c_X8_findingAt r s l 2 (by decide) (nI F9) i) (cW_sh (by omega)) rfl rfl (by decide) (Nat.le_of_ble_eq_true rfl) ⟨Nat.le_refl _, Nat.le_refl _⟩ dX11_lay_27 ?_
          refine J_rw (y := nI (lkM 2 (nI F9) i σ)) (congrArg nI (fd_there u1 u3 hz hsp)) ?_
          refine J_istore [(0, .ref (r 0)), (1, .int (nI 2)), (2, .int (nI F9)), (3, .int i), (4, .int z9), (5, .int (nI (lkM 2 (nI F9) i σ)))] dX11_lay_30 (by decide) rfl rfl rfl ?_
          refine J_iload dX11_lay_32 rfl ?_
          refine J_if_eqN 44 (lkM_lt _ _ _ _) dX11_lay_34 (by decide) (fun kcz8 => ?_) (fun kcz8 => ?_)
          · obtain ⟨I9, hI9, rfl⟩ := lkM_in2 ez (by omega) kcz8
            have eI9 : (nI I9).toNatClampNeg = I9 := nI_clamp (by omega)
            have hff : σ 0 2 = nI F9 := lkM_f kcz8
            refine J_aload_n dX11_lay_44 rfl rfl ?_
            refine Cg_0_4 fr_X11_39_10 dX11_lay_45 ?_
            refine J_iload_n dX11_lay_48 rfl rfl ?_
            refine Cl_10 2 rfl (by omega) dX11_lay_49 ?_
            refine J_iload_n dX11_lay_50 rfl rfl ?_
            refine J_iload dX11_lay_51 rfl ?_
            refine J_cVv (x := yX12_in) [.int (nI I9), .int z9] (11 + 2) mv_X11_272 (c_X8_put r s l 2 (by decide) z hz hz60 I9 (by omega) z9) (cW_sh (by omega)) rfl rfl (by decide) (Nat.le_of_ble_eq_true rfl) ⟨Nat.le_refl _, Nat.le_refl _⟩ dX11_lay_53 ?_
            show J G "lay" RX11 cX11_lay 6 (some .int) 0 0 2 Q 0 0 56 [(0, .ref (r 0)), (1, .int (nI 2)), (2, .int (nI F9)), (3, .int (nI I9)), (4, .int z9), (5, .int (nI (lkM 2 (nI F9) (nI I9) σ)))] [] (cW G r (su 72 s (upd (s 72) I9 (cutM (s 67 2) z9))) l)
            refine J_iconst (v := nI 1) dX11_lay_56 (by decide) ?_
            exact J_iret dX11_lay_57 rfl rfl rfl (hq (su 72 s (upd (s 72) I9 (cutM (s 67 2) z9))) l (nI 1, (su 2 σ (upd (σ 2) (60 * 2 + I9) (cutM (nI F9) z9)))) (by simp [oLay, fnd, kcz1, eV9, kcz2, eF9, kcz8, eI9, rng_of (show 2 < 4 by decide) (by decide), nI_clamp (show 2 < 2 ^ 31 by decide)]) (ci_lay2 hC ez (by omega) u1 u2 hI9 hff))
          · refine J_aload_n dX11_lay_37 rfl rfl ?_
            refine J_iload dX11_lay_38 rfl ?_
            refine J_cVi (x := yX12_in) [.int (nI (lkM 2 (nI F9) i σ))] 0 mv_X11_230 (c_X11_found r s l (lkM 2 (nI F9) i σ)) cW_0 rfl rfl (by decide) (Nat.le_of_ble_eq_true rfl) ⟨Nat.le_refl _, Nat.le_refl _⟩ dX11_lay_40 ?_
            show J G "lay" RX11 cX11_lay 6 (some .int) 0 0 2 Q 0 0 43 [(0, .ref (r 0)), (1, .int (nI 2)), (2, .int (nI F9)), (3, .int i), (4, .int z9), (5, .int (nI (lkM 2 (nI F9) i σ)))] [.int ((-10) - nI (lkM 2 (nI F9) i σ))] (cW G r (su 50 s (fun _ => nI (lkM 2 (nI F9) i σ))) l)
            exact J_iret dX11_lay_43 rfl rfl rfl (hq (su 50 s (fun _ => nI (lkM 2 (nI F9) i σ))) l ((-10) - nI (lkM 2 (nI F9) i σ), (su 4 σ (fun _ => nI (lkM 2 (nI F9) i σ)))) (by simp [oLay, fnd, kcz1, eV9, kcz2, eF9, kcz8, rng_of (show 2 < 4 by decide) (by decide), nI_clamp (show 2 < 2 ^ 31 by decide)]) (ci_fnd hC))
      · rcases hC.2.2.2.2.2.2.1.2.2.2 with ⟨u1, u2⟩ | ⟨u1, u2, u3, u4⟩
        · have hls : decide (s 68 3 = -1) = true := decide_eq_true u1
          have hsp : ¬ 0 ≤ σ 0 3 := by rw [u2]; decide
          refine J_aload_n dX11_lay_19 rfl rfl ?_
          refine Cg_0_4 fr_X11_39_10 dX11_lay_20 ?_
          refine J_iload_n dX11_lay_23 rfl rfl ?_
          refine Cl_10 3 rfl (by omega) dX11_lay_24 ?_
          refine J_iload_n dX11_lay_25 rfl rfl ?_
          refine J_iload_n dX11_lay_26 rfl rfl ?_
          refine J_cVi (x := yX12_in) [.int (nI F9), .int i] (11 + 3) mv_X11_269 (c_X8_findingAt r s l 3 (by decide) (nI F9) i) (cW_sh (by omega)) rfl rfl (by decide) (Nat.le_of_ble_eq_true rfl) ⟨Nat.le_refl _, Nat.le_refl _⟩ dX11_lay_27 ?_
          refine J_rw (y := nI (lkM 3 (nI F9) i σ)) (congrArg nI (fd_lost u1 hsp)) ?_
          refine J_istore [(0, .ref (r 0)), (1, .int (nI 3)), (2, .int (nI F9)), (3, .int i), (4, .int z9), (5, .int (nI (lkM 3 (nI F9) i σ)))] dX11_lay_30 (by decide) rfl rfl rfl ?_
          refine J_iload dX11_lay_32 rfl ?_
          refine J_if_eqN 44 (lkM_lt _ _ _ _) dX11_lay_34 (by decide) (fun kcz9 => ?_) (fun kcz9 => ?_)
          · exact absurd kcz9 (by rw [lkM, if_neg hsp]; decide)
          · refine J_aload_n dX11_lay_37 rfl rfl ?_
            refine J_iload dX11_lay_38 rfl ?_
            refine J_cVi (x := yX12_in) [.int (nI (lkM 3 (nI F9) i σ))] 0 mv_X11_230 (c_X11_found r s l (lkM 3 (nI F9) i σ)) cW_0 rfl rfl (by decide) (Nat.le_of_ble_eq_true rfl) ⟨Nat.le_refl _, Nat.le_refl _⟩ dX11_lay_40 ?_
            show J G "lay" RX11 cX11_lay 6 (some .int) 0 0 2 Q 0 0 43 [(0, .ref (r 0)), (1, .int (nI 3)), (2, .int (nI F9)), (3, .int i), (4, .int z9), (5, .int (nI (lkM 3 (nI F9) i σ)))] [.int ((-10) - nI (lkM 3 (nI F9) i σ))] (cW G r (su 50 s (fun _ => nI (lkM 3 (nI F9) i σ))) l)
            exact J_iret dX11_lay_43 rfl rfl rfl (hq (su 50 s (fun _ => nI (lkM 3 (nI F9) i σ))) l ((-10) - nI (lkM 3 (nI F9) i σ), (su 4 σ (fun _ => nI (lkM 3 (nI F9) i σ)))) (by simp [oLay, fnd, kcz1, eV9, kcz2, eF9, kcz9, rng_of (show 3 < 4 by decide) (by decide), nI_clamp (show 3 < 2 ^ 31 by decide)]) (ci_fnd hC))
        · obtain ⟨z, hz60, ez⟩ := (hL.sh (j := 3) (by decide)).2
          have hz : s 68 3 = nI z := u3.trans ez
          have hls : decide (s 68 3 = -1) = false := decide_eq_false (by rw [hz]; exact fun q => m1_ne (by omega) q.symm)
          obtain ⟨fo, hfo, efo⟩ := (hL.sh (j := 3) (by decide)).1.resolve_left u2
          have hsp : 0 ≤ σ 0 3 := by rw [efo]; exact nI_nn (by omega)
          have hit : ∀ i, i < z → s 73 i = σ 2 (60 * 3 + i) := u4 z ez.symm hz60
          have ezc : (σ 1 3).toNatClampNeg = z := by rw [ez]; exact nI_clamp (by omega)
          refine J_aload_n dX11_lay_19 rfl rfl ?_
          refine Cg_0_4 fr_X11_39_10 dX11_lay_20 ?_
          refine J_iload_n dX11_lay_23 rfl rfl ?_
          refine Cl_10 3 rfl (by omega) dX11_lay_24 ?_
          refine J_iload_n dX11_lay_25 rfl rfl ?_
          refine J_iload_n dX11_lay_26 rfl rfl ?_
          refine J_cVi (x := yX12_in) [.int (nI F9), .int i] (11 + 3) mv_X11_269 (c_X8_findingAt r s l 3 (by decide) (nI F9) i) (cW_sh (by omega)) rfl rfl (by decide) (Nat.le_of_ble_eq_true rfl) ⟨Nat.le_refl _, Nat.le_refl _⟩ dX11_lay_27 ?_
          refine J_rw (y := nI (lkM 3 (nI F9) i σ)) (congrArg nI (fd_there u1 u3 hz hsp)) ?_
          refine J_istore [(0, .ref (r 0)), (1, .int (nI 3)), (2, .int (nI F9)), (3, .int i), (4, .int z9), (5, .int (nI (lkM 3 (nI F9) i σ)))] dX11_lay_30 (by decide) rfl rfl rfl ?_
          refine J_iload dX11_lay_32 rfl ?_
          refine J_if_eqN 44 (lkM_lt _ _ _ _) dX11_lay_34 (by decide) (fun kcz10 => ?_) (fun kcz10 => ?_)
          · obtain ⟨I9, hI9, rfl⟩ := lkM_in2 ez (by omega) kcz10
            have eI9 : (nI I9).toNatClampNeg = I9 := nI_clamp (by omega)
            have hff : σ 0 3 = nI F9 := lkM_f kcz10
            refine J_aload_n dX11_lay_44 rfl rfl ?_
            refine Cg_0_4 fr_X11_39_10 dX11_lay_45 ?_
            refine J_iload_n dX11_lay_48 rfl rfl ?_
            refine Cl_10 3 rfl (by omega) dX11_lay_49 ?_
            refine J_iload_n dX11_lay_50 rfl rfl ?_
            refine J_iload dX11_lay_51 rfl ?_
            refine J_cVv (x := yX12_in) [.int (nI I9), .int z9] (11 + 3) mv_X11_272 (c_X8_put r s l 3 (by decide) z hz hz60 I9 (by omega) z9) (cW_sh (by omega)) rfl rfl (by decide) (Nat.le_of_ble_eq_true rfl) ⟨Nat.le_refl _, Nat.le_refl _⟩ dX11_lay_53 ?_
            show J G "lay" RX11 cX11_lay 6 (some .int) 0 0 2 Q 0 0 56 [(0, .ref (r 0)), (1, .int (nI 3)), (2, .int (nI F9)), (3, .int (nI I9)), (4, .int z9), (5, .int (nI (lkM 3 (nI F9) (nI I9) σ)))] [] (cW G r (su 73 s (upd (s 73) I9 (cutM (s 67 3) z9))) l)
            refine J_iconst (v := nI 1) dX11_lay_56 (by decide) ?_
            exact J_iret dX11_lay_57 rfl rfl rfl (hq (su 73 s (upd (s 73) I9 (cutM (s 67 3) z9))) l (nI 1, (su 2 σ (upd (σ 2) (60 * 3 + I9) (cutM (nI F9) z9)))) (by simp [oLay, fnd, kcz1, eV9, kcz2, eF9, kcz10, eI9, rng_of (show 3 < 4 by decide) (by decide), nI_clamp (show 3 < 2 ^ 31 by decide)]) (ci_lay3 hC ez (by omega) u1 u2 hI9 hff))
          · refine J_aload_n dX11_lay_37 rfl rfl ?_
            refine J_iload dX11_lay_38 rfl ?_
            refine J_cVi (x := yX12_in) [.int (nI (lkM 3 (nI F9) i σ))] 0 mv_X11_230 (c_X11_found r s l (lkM 3 (nI F9) i σ)) cW_0 rfl rfl (by decide) (Nat.le_of_ble_eq_true rfl) ⟨Nat.le_refl _, Nat.le_refl _⟩ dX11_lay_40 ?_
            show J G "lay" RX11 cX11_lay 6 (some .int) 0 0 2 Q 0 0 43 [(0, .ref (r 0)), (1, .int (nI 3)), (2, .int (nI F9)), (3, .int i), (4, .int z9), (5, .int (nI (lkM 3 (nI F9) i σ)))] [.int ((-10) - nI (lkM 3 (nI F9) i σ))] (cW G r (su 50 s (fun _ => nI (lkM 3 (nI F9) i σ))) l)
            exact J_iret dX11_lay_43 rfl rfl rfl (hq (su 50 s (fun _ => nI (lkM 3 (nI F9) i σ))) l ((-10) - nI (lkM 3 (nI F9) i σ), (su 4 σ (fun _ => nI (lkM 3 (nI F9) i σ)))) (by simp [oLay, fnd, kcz1, eV9, kcz2, eF9, kcz10, rng_of (show 3 < 4 by decide) (by decide), nI_clamp (show 3 < 2 ^ 31 by decide)]) (ci_fnd hC))
    · refine J_bipush (v := -2) dX11_lay_16 (by decide) ?_
      exact J_iret dX11_lay_18 rfl rfl rfl (hq s l ((-2), σ) (by simp [oLay, fnd, kcz1, eV9, kcz2]) hC)
theorem c_X11_lay {G : GT} (r : Nat → Nat) (s : St) (l : Nat → Int64) (σ : St) (hL : LI σ) (hC : CI σ s) (v f i z9 : Int32) : Ct G yX11_lay cX11_lay 6 (some .int) 0 0 2 [.ref (r 0), .int v, .int f, .int i, .int z9] (cW G r s l) (QC G r (oLay v f i z9 σ)) := Ct.of rfl (Nat.le_of_ble_eq_true rfl) (j_X11_lay r s l σ hL hC v f i z9 (fun x lx a h1 h2 => ⟨x, lx, by rw [h1], rfl, by rw [← h1]; exact h2⟩))
set_option maxRecDepth 100000 in
set_option maxHeartbeats 1000000 in
theorem j_X11_get {G : GT} (r : Nat → Nat) (s : St) (l : Nat → Int64) (σ : St) (hL : LI σ) (hC : CI σ s) (v f i : Int32) {Q : Option Value → va_W → Prop} (hq : ∀ (x : St) (lx : Nat → Int64) (a : Int32 × St), a = oGet v f i σ → CI a.2 x → Q (some (.int a.1)) (cW G r x lx)) : J G "get" RX11 cX11_get 5 (some .int) 0 0 2 Q 0 0 0 [(0, .ref (r 0)), (1, .int v), (2, .int f), (3, .int i)] [] (cW G r s l) := by
  refine J_iload_n dX11_get_0 rfl rfl ?_
  refine J_iconst (v := nI 4) dX11_get_1 (by decide) ?_
  refine J_cSi [.int v, .int (nI 4)] ms_X11_48 (c_X11_isBelowN (cW G r s l) v 4) rfl rfl (by decide) (Nat.le_of_ble_eq_true rfl) ⟨Nat.le_refl _, Nat.le_refl _⟩ dX11_get_2 ?_
  refine J_if_eqB 16 dX11_get_5 (by decide) (fun kcz1 => ?_) (fun kcz1 => ?_)
  · refine J_ldcw dX11_get_16 k_X11_275 ?_
    exact J_iret dX11_get_19 rfl rfl rfl (hq s l ((-2147483648), σ) (by simp [oGet, fnd, kcz1]) hC)
  · obtain ⟨V9, hV9, rfl⟩ := (rng_iff (by omega)).mp kcz1
    have eV9 : (nI V9).toNatClampNeg = V9 := nI_clamp (by omega)
    refine J_iload_n dX11_get_8 rfl rfl ?_
    refine J_iconst (v := nI 3) dX11_get_9 (by decide) ?_
    refine J_cSi [.int f, .int (nI 3)] ms_X11_48 (c_X11_isBelowN (cW G r s l) f 3) rfl rfl (by decide) (Nat.le_of_ble_eq_true rfl) ⟨Nat.le_refl _, Nat.le_refl _⟩ dX11_get_10 ?_
    refine J_if_neB 20 dX11_get_13 (by decide) (fun kcz2 => ?_) (fun kcz2 => ?_)
    · obtain ⟨F9, hF9, rfl⟩ := (rng_iff (by omega)).mp kcz2
      have eF9 : (nI F9).toNatClampNeg = F9 := nI_clamp (by omega)
      rcases (show V9 = 0 ∨ V9 = 1 ∨ V9 = 2 ∨ V9 = 3 by omega) with rfl | rfl | rfl | rfl
      · rcases hC.2.2.2.2.2.2.1.1 with ⟨u1, u2⟩ | ⟨u1, u2, u3, u4⟩
        · have hls : decide (s 68 0 = -1) = true := decide_eq_true u1
          have hsp : ¬ 0 ≤ σ 0 0 := by rw [u2]; decide
          refine J_aload_n dX11_get_20 rfl rfl ?_
          refine Cg_0_4 fr_X11_39_10 dX11_get_21 ?_
          refine J_iload_n dX11_get_24 rfl rfl ?_
          refine Cl_10 0 rfl (by omega) dX11_get_25 ?_
          refine J_iload_n dX11_get_26 rfl rfl ?_
          refine J_iload_n dX11_get_27 rfl rfl ?_
          refine J_cVi (x := yX12_in) [.int (nI F9), .int i] (11 + 0) mv_X11_269 (c_X8_findingAt r s l 0 (by decide) (nI F9) i) (cW_sh (by omega)) rfl rfl (by decide) (Nat.le_of_ble_eq_true rfl) ⟨Nat.le_refl _, Nat.le_refl _⟩ dX11_get_28 ?_
          refine J_rw (y := nI (lkM 0 (nI F9) i σ)) (congrArg nI (fd_lost u1 hsp)) ?_
          refine J_istore [(0, .ref (r 0)), (1, .int (nI 0)), (2, .int (nI F9)), (3, .int i), (4, .int (nI (lkM 0 (nI F9) i σ)))] dX11_get_31 (by decide) rfl rfl rfl ?_
          refine J_iload dX11_get_33 rfl ?_
          refine J_if_eqN 48 (lkM_lt _ _ _ _) dX11_get_35 (by decide) (fun kcz3 => ?_) (fun kcz3 => ?_)
          · exact absurd kcz3 (by rw [lkM, if_neg hsp]; decide)
          · refine J_aload_n dX11_get_38 rfl rfl ?_
            refine J_iload dX11_get_39 rfl ?_
            refine Cp_0_5 fr_X11_43_10 dX11_get_41 ?_
            refine J_ldcw dX11_get_44 k_X11_275 ?_
            exact J_iret dX11_get_47 rfl rfl rfl (hq (su 50 s (fun _ => nI (lkM 0 (nI F9) i σ))) l ((-2147483648), (su 4 σ (fun _ => nI (lkM 0 (nI F9) i σ)))) (by simp [oGet, fnd, kcz1, eV9, kcz2, eF9, kcz3, rng_of (show 0 < 4 by decide) (by decide), nI_clamp (show 0 < 2 ^ 31 by decide)]) (ci_fnd hC))
        · obtain ⟨z, hz60, ez⟩ := (hL.sh (j := 0) (by decide)).2
          have hz : s 68 0 = nI z := u3.trans ez
          have hls : decide (s 68 0 = -1) = false := decide_eq_false (by rw [hz]; exact fun q => m1_ne (by omega) q.symm)
          obtain ⟨fo, hfo, efo⟩ := (hL.sh (j := 0) (by decide)).1.resolve_left u2
          have hsp : 0 ≤ σ 0 0 := by rw [efo]; exact nI_nn (by omega)
          have hit : ∀ i, i < z → s 70 i = σ 2 (60 * 0 + i) := u4 z ez.symm hz60
          have ezc : (σ 1 0).toNatClampNeg = z := by rw [ez]; exact nI_clamp (by omega)
          refine J_aload_n dX11_get_20 rfl rfl ?_
          refine Cg_0_4 fr_X11_39_10 dX11_get_21 ?_
          refine J_iload_n dX11_get_24 rfl rfl ?_
          refine Cl_10 0 rfl (by omega) dX11_get_25 ?_
          refine J_iload_n dX11_get_26 rfl rfl ?_
          refine J_iload_n dX11_get_27 rfl rfl ?_
          refine J_cVi (x := yX12_in) [.int (nI F9), .int i] (11 + 0) mv_X11_269 (c_X8_findingAt r s l 0 (by decide) (nI F9) i) (cW_sh (by omega)) rfl rfl (by decide) (Nat.le_of_ble_eq_true rfl) ⟨Nat.le_refl _, Nat.le_refl _⟩ dX11_get_28 ?_
          refine J_rw (y := nI (lkM 0 (nI F9) i σ)) (congrArg nI (fd_there u1 u3 hz hsp)) ?_
          refine J_istore [(0, .ref (r 0)), (1, .int (nI 0)), (2, .int (nI F9)), (3, .int i), (4, .int (nI (lkM 0 (nI F9) i σ)))] dX11_get_31 (by decide) rfl rfl rfl ?_
          refine J_iload dX11_get_33 rfl ?_
          refine J_if_eqN 48 (lkM_lt _ _ _ _) dX11_get_35 (by decide) (fun kcz4 => ?_) (fun kcz4 => ?_)
          · obtain ⟨I9, hI9, rfl⟩ := lkM_in2 ez (by omega) kcz4
            have eI9 : (nI I9).toNatClampNeg = I9 := nI_clamp (by omega)
            have hff : σ 0 0 = nI F9 := lkM_f kcz4
            refine J_aload_n dX11_get_48 rfl rfl ?_
            refine Cg_0_4 fr_X11_39_10 dX11_get_49 ?_
            refine J_iload_n dX11_get_52 rfl rfl ?_
            refine Cl_10 0 rfl (by omega) dX11_get_53 ?_
            refine J_iload_n dX11_get_54 rfl rfl ?_
            refine J_cVi (x := yX12_in) [.int (nI I9)] (11 + 0) mv_X11_276 (c_X8_itemAt r s l 0 (by decide) z hz hz60 I9 (by omega)) (cW_sh (by omega)) rfl rfl (by decide) (Nat.le_of_ble_eq_true rfl) ⟨Nat.le_refl _, Nat.le_refl _⟩ dX11_get_55 ?_
            refine J_rw (y := σ 2 (60 * 0 + I9)) (hit I9 hI9) ?_
            exact J_iret dX11_get_58 rfl rfl rfl (hq s l (σ 2 (60 * 0 + I9), σ) (by simp [oGet, fnd, kcz1, eV9, kcz2, eF9, kcz4, eI9, rng_of (show 0 < 4 by decide) (by decide), nI_clamp (show 0 < 2 ^ 31 by decide)]) hC)
          · refine J_aload_n dX11_get_38 rfl rfl ?_
            refine J_iload dX11_get_39 rfl ?_
            refine Cp_0_5 fr_X11_43_10 dX11_get_41 ?_
            refine J_ldcw dX11_get_44 k_X11_275 ?_
            exact J_iret dX11_get_47 rfl rfl rfl (hq (su 50 s (fun _ => nI (lkM 0 (nI F9) i σ))) l ((-2147483648), (su 4 σ (fun _ => nI (lkM 0 (nI F9) i σ)))) (by simp [oGet, fnd, kcz1, eV9, kcz2, eF9, kcz4, rng_of (show 0 < 4 by decide) (by decide), nI_clamp (show 0 < 2 ^ 31 by decide)]) (ci_fnd hC))
      · rcases hC.2.2.2.2.2.2.1.2.1 with ⟨u1, u2⟩ | ⟨u1, u2, u3, u4⟩
        · have hls : decide (s 68 1 = -1) = true := decide_eq_true u1
          have hsp : ¬ 0 ≤ σ 0 1 := by rw [u2]; decide
          refine J_aload_n dX11_get_20 rfl rfl ?_
          refine Cg_0_4 fr_X11_39_10 dX11_get_21 ?_
          refine J_iload_n dX11_get_24 rfl rfl ?_
          refine Cl_10 1 rfl (by omega) dX11_get_25 ?_
          refine J_iload_n dX11_get_26 rfl rfl ?_
          refine J_iload_n dX11_get_27 rfl rfl ?_
          refine J_cVi (x := yX12_in) [.int (nI F9), .int i] (11 + 1) mv_X11_269 (c_X8_findingAt r s l 1 (by decide) (nI F9) i) (cW_sh (by omega)) rfl rfl (by decide) (Nat.le_of_ble_eq_true rfl) ⟨Nat.le_refl _, Nat.le_refl _⟩ dX11_get_28 ?_
          refine J_rw (y := nI (lkM 1 (nI F9) i σ)) (congrArg nI (fd_lost u1 hsp)) ?_
          refine J_istore [(0, .ref (r 0)), (1, .int (nI 1)), (2, .int (nI F9)), (3, .int i), (4, .int (nI (lkM 1 (nI F9) i σ)))] dX11_get_31 (by decide) rfl rfl rfl ?_
          refine J_iload dX11_get_33 rfl ?_
          refine J_if_eqN 48 (lkM_lt _ _ _ _) dX11_get_35 (by decide) (fun kcz5 => ?_) (fun kcz5 => ?_)
          · exact absurd kcz5 (by rw [lkM, if_neg hsp]; decide)
          · refine J_aload_n dX11_get_38 rfl rfl ?_
            refine J_iload dX11_get_39 rfl ?_
            refine Cp_0_5 fr_X11_43_10 dX11_get_41 ?_
            refine J_ldcw dX11_get_44 k_X11_275 ?_
            exact J_iret dX11_get_47 rfl rfl rfl (hq (su 50 s (fun _ => nI (lkM 1 (nI F9) i σ))) l ((-2147483648), (su 4 σ (fun _ => nI (lkM 1 (nI F9) i σ)))) (by simp [oGet, fnd, kcz1, eV9, kcz2, eF9, kcz5, rng_of (show 1 < 4 by decide) (by decide), nI_clamp (show 1 < 2 ^ 31 by decide)]) (ci_fnd hC))
        · obtain ⟨z, hz60, ez⟩ := (hL.sh (j := 1) (by decide)).2
          have hz : s 68 1 = nI z := u3.trans ez
          have hls : decide (s 68 1 = -1) = false := decide_eq_false (by rw [hz]; exact fun q => m1_ne (by omega) q.symm)
          obtain ⟨fo, hfo, efo⟩ := (hL.sh (j := 1) (by decide)).1.resolve_left u2
          have hsp : 0 ≤ σ 0 1 := by rw [efo]; exact nI_nn (by omega)
          have hit : ∀ i, i < z → s 71 i = σ 2 (60 * 1 + i) := u4 z ez.symm hz60
          have ezc : (σ 1 1).toNatClampNeg = z := by rw [ez]; exact nI_clamp (by omega)
          refine J_aload_n dX11_get_20 rfl rfl ?_
          refine Cg_0_4 fr_X11_39_10 dX11_get_21 ?_
          refine J_iload_n dX11_get_24 rfl rfl ?_
          refine Cl_10 1 rfl (by omega) dX11_get_25 ?_
          refine J_iload_n dX11_get_26 rfl rfl ?_
          refine J_iload_n dX11_get_27 rfl rfl ?_
          refine J_cVi (x := yX12_in) [.int (nI F9), .int i] (11 + 1) mv_X11_269 (c_X8_findingAt r s l 1 (by decide) (nI F9) i) (cW_sh (by omega)) rfl rfl (by decide) (Nat.le_of_ble_eq_true rfl) ⟨Nat.le_refl _, Nat.le_refl _⟩ dX11_get_28 ?_
          refine J_rw (y := nI (lkM 1 (nI F9) i σ)) (congrArg nI (fd_there u1 u3 hz hsp)) ?_
          refine J_istore [(0, .ref (r 0)), (1, .int (nI 1)), (2, .int (nI F9)), (3, .int i), (4, .int (nI (lkM 1 (nI F9) i σ)))] dX11_get_31 (by decide) rfl rfl rfl ?_
          refine J_iload dX11_get_33 rfl ?_
          refine J_if_eqN 48 (lkM_lt _ _ _ _) dX11_get_35 (by decide) (fun kcz6 => ?_) (fun kcz6 => ?_)
          · obtain ⟨I9, hI9, rfl⟩ := lkM_in2 ez (by omega) kcz6
            have eI9 : (nI I9).toNatClampNeg = I9 := nI_clamp (by omega)
            have hff : σ 0 1 = nI F9 := lkM_f kcz6
            refine J_aload_n dX11_get_48 rfl rfl ?_
            refine Cg_0_4 fr_X11_39_10 dX11_get_49 ?_
            refine J_iload_n dX11_get_52 rfl rfl ?_
            refine Cl_10 1 rfl (by omega) dX11_get_53 ?_
            refine J_iload_n dX11_get_54 rfl rfl ?_
            refine J_cVi (x := yX12_in) [.int (nI I9)] (11 + 1) mv_X11_276 (c_X8_itemAt r s l 1 (by decide) z hz hz60 I9 (by omega)) (cW_sh (by omega)) rfl rfl (by decide) (Nat.le_of_ble_eq_true rfl) ⟨Nat.le_refl _, Nat.le_refl _⟩ dX11_get_55 ?_
            refine J_rw (y := σ 2 (60 * 1 + I9)) (hit I9 hI9) ?_
            exact J_iret dX11_get_58 rfl rfl rfl (hq s l (σ 2 (60 * 1 + I9), σ) (by simp [oGet, fnd, kcz1, eV9, kcz2, eF9, kcz6, eI9, rng_of (show 1 < 4 by decide) (by decide), nI_clamp (show 1 < 2 ^ 31 by decide)]) hC)
          · refine J_aload_n dX11_get_38 rfl rfl ?_
            refine J_iload dX11_get_39 rfl ?_
            refine Cp_0_5 fr_X11_43_10 dX11_get_41 ?_
            refine J_ldcw dX11_get_44 k_X11_275 ?_
            exact J_iret dX11_get_47 rfl rfl rfl (hq (su 50 s (fun _ => nI (lkM 1 (nI F9) i σ))) l ((-2147483648), (su 4 σ (fun _ => nI (lkM 1 (nI F9) i σ)))) (by simp [oGet, fnd, kcz1, eV9, kcz2, eF9, kcz6, rng_of (show 1 < 4 by decide) (by decide), nI_clamp (show 1 < 2 ^ 31 by decide)]) (ci_fnd hC))
      · rcases hC.2.2.2.2.2.2.1.2.2.1 with ⟨u1, u2⟩ | ⟨u1, u2, u3, u4⟩
        · have hls : decide (s 68 2 = -1) = true := decide_eq_true u1
          have hsp : ¬ 0 ≤ σ 0 2 := by rw [u2]; decide
          refine J_aload_n dX11_get_20 rfl rfl ?_
          refine Cg_0_4 fr_X11_39_10 dX11_get_21 ?_
          refine J_iload_n dX11_get_24 rfl rfl ?_
          refine Cl_10 2 rfl (by omega) dX11_get_25 ?_
          refine J_iload_n dX11_get_26 rfl rfl ?_
          refine J_iload_n dX11_get_27 rfl rfl ?_
          refine J_cVi (x := yX12_in) [.int (nI F9), .int i] (11 + 2) mv_X11_269 (c_X8_findingAt r s l 2 (by decide) (nI F9) i) (cW_sh (by omega)) rfl rfl (by decide) (Nat.le_of_ble_eq_true rfl) ⟨Nat.le_refl _, Nat.le_refl _⟩ dX11_get_28 ?_
          refine J_rw (y := nI (lkM 2 (nI F9) i σ)) (congrArg nI (fd_lost u1 hsp)) ?_
          refine J_istore [(0, .ref (r 0)), (1, .int (nI 2)), (2, .int (nI F9)), (3, .int i), (4, .int (nI (lkM 2 (nI F9) i σ)))] dX11_get_31 (by decide) rfl rfl rfl ?_
          refine J_iload dX11_get_33 rfl ?_
          refine J_if_eqN 48 (lkM_lt _ _ _ _) dX11_get_35 (by decide) (fun kcz7 => ?_) (fun kcz7 => ?_)
          · exact absurd kcz7 (by rw [lkM, if_neg hsp]; decide)
          · refine J_aload_n dX11_get_38 rfl rfl ?_
            refine J_iload dX11_get_39 rfl ?_
            refine Cp_0_5 fr_X11_43_10 dX11_get_41 ?_
            refine J_ldcw dX11_get_44 k_X11_275 ?_
            exact J_iret dX11_get_47 rfl rfl rfl (hq (su 50 s (fun _ => nI (lkM 2 (nI F9) i σ))) l ((-2147483648), (su 4 σ (fun _ => nI (lkM 2 (nI F9) i σ)))) (by simp [oGet, fnd, kcz1, eV9, kcz2, eF9, kcz7, rng_of (show 2 < 4 by decide) (by decide), nI_clamp (show 2 < 2 ^ 31 by decide)]) (ci_fnd hC))
        · obtain ⟨z, hz60, ez⟩ := (hL.sh (j := 2) (by decide)).2
          have hz : s 68 2 = nI z := u3.trans ez
          have hls : decide (s 68 2 = -1) = false := decide_eq_false (by rw [hz]; exact fun q => m1_ne (by omega) q.symm)
          obtain ⟨fo, hfo, efo⟩ := (hL.sh (j := 2) (by decide)).1.resolve_left u2
          have hsp : 0 ≤ σ 0 2 := by rw [efo]; exact nI_nn (by omega)
          have hit : ∀ i, i < z → s 72 i = σ 2 (60 * 2 + i) := u4 z ez.symm hz60
          have ezc : (σ 1 2).toNatClampNeg = z := by rw [ez]; exact nI_clamp (by omega)
          refine J_aload_n dX11_get_20 rfl rfl ?_
          refine Cg_0_4 fr_X11_39_10 dX11_get_21 ?_
          refine J_iload_n dX11_get_24 rfl rfl ?_
          refine Cl_10 2 rfl (by omega) dX11_get_25 ?_
          refine J_iload_n dX11_get_26 rfl rfl ?_
          refine J_iload_n dX11_get_27 rfl rfl ?_
          refine J_cVi (x := yX12_in) [.int (nI F9), .int i] (11 + 2) mv_X11_269 (c_X8_findingAt r s l 2 (by decide) (nI F9) i) (cW_sh (by omega)) rfl rfl (by decide) (Nat.le_of_ble_eq_true rfl) ⟨Nat.le_refl _, Nat.le_refl _⟩ dX11_get_28 ?_
          refine J_rw (y := nI (lkM 2 (nI F9) i σ)) (congrArg nI (fd_there u1 u3 hz hsp)) ?_
          refine J_istore [(0, .ref (r 0)), (1, .int (nI 2)), (2, .int (nI F9)), (3, .int i), (4, .int (nI (lkM 2 (nI F9) i σ)))] dX11_get_31 (by decide) rfl rfl rfl ?_
          refine J_iload dX11_get_33 rfl ?_
          refine J_if_eqN 48 (lkM_lt _ _ _ _) dX11_get_35 (by decide) (fun kcz8 => ?_) (fun kcz8 => ?_)
          · obtain ⟨I9, hI9, rfl⟩ := lkM_in2 ez (by omega) kcz8
            have eI9 : (nI I9).toNatClampNeg = I9 := nI_clamp (by omega)
            have hff : σ 0 2 = nI F9 := lkM_f kcz8
            refine J_aload_n dX11_get_48 rfl rfl ?_
            refine Cg_0_4 fr_X11_39_10 dX11_get_49 ?_
            refine J_iload_n dX11_get_52 rfl rfl ?_
            refine Cl_10 2 rfl (by omega) dX11_get_53 ?_
            refine J_iload_n dX11_get_54 rfl rfl ?_
            refine J_cVi (x := yX12_in) [.int (nI I9)] (11 + 2) mv_X11_276 (c_X8_itemAt r s l 2 (by decide) z hz hz60 I9 (by omega)) (cW_sh (by omega)) rfl rfl (by decide) (Nat.le_of_ble_eq_true rfl) ⟨Nat.le_refl _, Nat.le_refl _⟩ dX11_get_55 ?_
            refine J_rw (y := σ 2 (60 * 2 + I9)) (hit I9 hI9) ?_
            exact J_iret dX11_get_58 rfl rfl rfl (hq s l (σ 2 (60 * 2 + I9), σ) (by simp [oGet, fnd, kcz1, eV9, kcz2, eF9, kcz8, eI9, rng_of (show 2 < 4 by decide) (by decide), nI_clamp (show 2 < 2 ^ 31 by decide)]) hC)
          · refine J_aload_n dX11_get_38 rfl rfl ?_
            refine J_iload dX11_get_39 rfl ?_
            refine Cp_0_5 fr_X11_43_10 dX11_get_41 ?_
            refine J_ldcw dX11_get_44 k_X11_275 ?_
            exact J_iret dX11_get_47 rfl rfl rfl (hq (su 50 s (fun _ => nI (lkM 2 (nI F9) i σ))) l ((-2147483648), (su 4 σ (fun _ => nI (lkM 2 (nI F9) i σ)))) (by simp [oGet, fnd, kcz1, eV9, kcz2, eF9, kcz8, rng_of (show 2 < 4 by decide) (by decide), nI_clamp (show 2 < 2 ^ 31 by decide)]) (ci_fnd hC))
      · rcases hC.2.2.2.2.2.2.1.2.2.2 with ⟨u1, u2⟩ | ⟨u1, u2, u3, u4⟩
        · have hls : decide (s 68 3 = -1) = true := decide_eq_true u1
          have hsp : ¬ 0 ≤ σ 0 3 := by rw [u2]; decide
          refine J_aload_n dX11_get_20 rfl rfl ?_
          refine Cg_0_4 fr_X11_39_10 dX11_get_21 ?_
          refine J_iload_n dX11_get_24 rfl rfl ?_
          refine Cl_10 3 rfl (by omega) dX11_get_25 ?_
          refine J_iload_n dX11_get_26 rfl rfl ?_
          refine J_iload_n dX11_get_27 rfl rfl ?_
          refine J_cVi (x := yX12_in) [.int (nI F9), .int i] (11 + 3) mv_X11_269 (c_X8_findingAt r s l 3 (by decide) (nI F9) i) (cW_sh (by omega)) rfl rfl (by decide) (Nat.le_of_ble_eq_true rfl) ⟨Nat.le_refl _, Nat.le_refl _⟩ dX11_get_28 ?_
          refine J_rw (y := nI (lkM 3 (nI F9) i σ)) (congrArg nI (fd_lost u1 hsp)) ?_
          refine J_istore [(0, .ref (r 0)), (1, .int (nI 3)), (2, .int (nI F9)), (3, .int i), (4, .int (nI (lkM 3 (nI F9) i σ)))] dX11_get_31 (by decide) rfl rfl rfl ?_
          refine J_iload dX11_get_33 rfl ?_
          refine J_if_eqN 48 (lkM_lt _ _ _ _) dX11_get_35 (by decide) (fun kcz9 => ?_) (fun kcz9 => ?_)
          · exact absurd kcz9 (by rw [lkM, if_neg hsp]; decide)
          · refine J_aload_n dX11_get_38 rfl rfl ?_
            refine J_iload dX11_get_39 rfl ?_
            refine Cp_0_5 fr_X11_43_10 dX11_get_41 ?_
            refine J_ldcw dX11_get_44 k_X11_275 ?_
            exact J_iret dX11_get_47 rfl rfl rfl (hq (su 50 s (fun _ => nI (lkM 3 (nI F9) i σ))) l ((-2147483648), (su 4 σ (fun _ => nI (lkM 3 (nI F9) i σ)))) (by simp [oGet, fnd, kcz1, eV9, kcz2, eF9, kcz9, rng_of (show 3 < 4 by decide) (by decide), nI_clamp (show 3 < 2 ^ 31 by decide)]) (ci_fnd hC))
        · obtain ⟨z, hz60, ez⟩ := (hL.sh (j := 3) (by decide)).2
          have hz : s 68 3 = nI z := u3.trans ez
          have hls : decide (s 68 3 = -1) = false := decide_eq_false (by rw [hz]; exact fun q => m1_ne (by omega) q.symm)
          obtain ⟨fo, hfo, efo⟩ := (hL.sh (j := 3) (by decide)).1.resolve_left u2
          have hsp : 0 ≤ σ 0 3 := by rw [efo]; exact nI_nn (by omega)
          have hit : ∀ i, i < z → s 73 i = σ 2 (60 * 3 + i) := u4 z ez.symm hz60
          have ezc : (σ 1 3).toNatClampNeg = z := by rw [ez]; exact nI_clamp (by omega)
          refine J_aload_n dX11_get_20 rfl rfl ?_
          refine Cg_0_4 fr_X11_39_10 dX11_get_21 ?_
          refine J_iload_n dX11_get_24 rfl rfl ?_
          refine Cl_10 3 rfl (by omega) dX11_get_25 ?_
          refine J_iload_n dX11_get_26 rfl rfl ?_
          refine J_iload_n dX11_get_27 rfl rfl ?_
          refine J_cVi (x := yX12_in) [.int (nI F9), .int i] (11 + 3) mv_X11_269 (c_X8_findingAt r s l 3 (by decide) (nI F9) i) (cW_sh (by omega)) rfl rfl (by decide) (Nat.le_of_ble_eq_true rfl) ⟨Nat.le_refl _, Nat.le_refl _⟩ dX11_get_28 ?_
          refine J_rw (y := nI (lkM 3 (nI F9) i σ)) (congrArg nI (fd_there u1 u3 hz hsp)) ?_
          refine J_istore [(0, .ref (r 0)), (1, .int (nI 3)), (2, .int (nI F9)), (3, .int i), (4, .int (nI (lkM 3 (nI F9) i σ)))] dX11_get_31 (by decide) rfl rfl rfl ?_
          refine J_iload dX11_get_33 rfl ?_
          refine J_if_eqN 48 (lkM_lt _ _ _ _) dX11_get_35 (by decide) (fun kcz10 => ?_) (fun kcz10 => ?_)
          · obtain ⟨I9, hI9, rfl⟩ := lkM_in2 ez (by omega) kcz10
            have eI9 : (nI I9).toNatClampNeg = I9 := nI_clamp (by omega)
            have hff : σ 0 3 = nI F9 := lkM_f kcz10
            refine J_aload_n dX11_get_48 rfl rfl ?_
            refine Cg_0_4 fr_X11_39_10 dX11_get_49 ?_
            refine J_iload_n dX11_get_52 rfl rfl ?_
            refine Cl_10 3 rfl (by omega) dX11_get_53 ?_
            refine J_iload_n dX11_get_54 rfl rfl ?_
            refine J_cVi (x := yX12_in) [.int (nI I9)] (11 + 3) mv_X11_276 (c_X8_itemAt r s l 3 (by decide) z hz hz60 I9 (by omega)) (cW_sh (by omega)) rfl rfl (by decide) (Nat.le_of_ble_eq_true rfl) ⟨Nat.le_refl _, Nat.le_refl _⟩ dX11_get_55 ?_
            refine J_rw (y := σ 2 (60 * 3 + I9)) (hit I9 hI9) ?_
            exact J_iret dX11_get_58 rfl rfl rfl (hq s l (σ 2 (60 * 3 + I9), σ) (by simp [oGet, fnd, kcz1, eV9, kcz2, eF9, kcz10, eI9, rng_of (show 3 < 4 by decide) (by decide), nI_clamp (show 3 < 2 ^ 31 by decide)]) hC)
          · refine J_aload_n dX11_get_38 rfl rfl ?_
            refine J_iload dX11_get_39 rfl ?_
            refine Cp_0_5 fr_X11_43_10 dX11_get_41 ?_
            refine J_ldcw dX11_get_44 k_X11_275 ?_
            exact J_iret dX11_get_47 rfl rfl rfl (hq (su 50 s (fun _ => nI (lkM 3 (nI F9) i σ))) l ((-2147483648), (su 4 σ (fun _ => nI (lkM 3 (nI F9) i σ)))) (by simp [oGet, fnd, kcz1, eV9, kcz2, eF9, kcz10, rng_of (show 3 < 4 by decide) (by decide), nI_clamp (show 3 < 2 ^ 31 by decide)]) (ci_fnd hC))
    · refine J_ldcw dX11_get_16 k_X11_275 ?_
      exact J_iret dX11_get_19 rfl rfl rfl (hq s l ((-2147483648), σ) (by simp [oGet, fnd, kcz1, eV9, kcz2]) hC)
theorem c_X11_get {G : GT} (r : Nat → Nat) (s : St) (l : Nat → Int64) (σ : St) (hL : LI σ) (hC : CI σ s) (v f i : Int32) : Ct G yX11_get cX11_get 5 (some .int) 0 0 2 [.ref (r 0), .int v, .int f, .int i] (cW G r s l) (QC G r (oGet v f i σ)) := Ct.of rfl (Nat.le_of_ble_eq_true rfl) (j_X11_get r s l σ hL hC v f i (fun x lx a h1 h2 => ⟨x, lx, by rw [h1], rfl, by rw [← h1]; exact h2⟩))
set_option maxRecDepth 100000 in
set_option maxHeartbeats 1000000 in
theorem j_X11_hours0 {G : GT} (r : Nat → Nat) (s : St) (l : Nat → Int64) (σ : St) (hL : LI σ) (hC : CI σ s) (e : Int32) {Q : Option Value → va_W → Prop} (hq : ∀ (x : St) (lx : Nat → Int64) (a : Int32 × St), a = oHours e (nI 0) σ → CI a.2 x → Q (some (.int a.1)) (cW G r x lx)) : J G "hours" RX11 cX11_hours 6 (some .int) 0 0 4 Q 0 0 0 [(0, .ref (r 0)), (1, .int e), (2, .int (nI 0))] [] (cW G r s l) := by
  obtain ⟨n, en⟩ : ∃ z, z = nH σ := ⟨_, rfl⟩
  obtain ⟨m, em⟩ : ∃ z, z = nE σ := ⟨_, rfl⟩
  obtain ⟨c, ec⟩ : ∃ z, z = nC σ := ⟨_, rfl⟩
  obtain ⟨rf, erf⟩ : ∃ z, z = rfn σ := ⟨_, rfl⟩
  obtain ⟨sg, esg⟩ : ∃ z, z = sgn σ := ⟨_, rfl⟩
  obtain ⟨Hb, eHb⟩ : ∃ z, z = HbS σ := ⟨_, rfl⟩
  obtain ⟨hb, ehb⟩ : ∃ z, z = hbS σ := ⟨_, rfl⟩
  obtain ⟨He, eHe⟩ : ∃ z, z = HeS σ := ⟨_, rfl⟩
  obtain ⟨aw, eaw⟩ : ∃ z, z = awS σ := ⟨_, rfl⟩
  obtain ⟨Cl, eCl⟩ : ∃ z, z = ClS σ := ⟨_, rfl⟩
  obtain ⟨Rf, eRf⟩ : ∃ z, z = σ 13 := ⟨_, rfl⟩
  obtain ⟨Sg, eSg⟩ : ∃ z, z = σ 22 := ⟨_, rfl⟩
  obtain ⟨Vv, eVv⟩ : ∃ z, z = σ 16 := ⟨_, rfl⟩
  have hn8 : n ≤ 8 := by rw [en]; exact nH_le _
  have hm6 : m ≤ 6 := by rw [em]; exact nE_le _
  have hc15 : c ≤ 15 := by rw [ec]; exact nC_le _
  have hrf12 : rf ≤ 12 := by rw [erf]; exact hL.rf.2.1
  have hsg8 : sg ≤ 8 := by rw [esg]; exact hL.sg.2.1
  have hk : HbOk n Hb hb := by rw [en, eHb, ehb]; exact hbOk σ
  have ha : AwOk m He aw := by rw [em, eHe, eaw]; exact awOk σ
  have hn : s 52 0 = nI n := by rw [en]; exact hC.n
  have hm : s 55 0 = nI m := by rw [em]; exact hC.m
  have hc : s 58 0 = nI c := by rw [ec]; exact hC.c
  have hrf : s 60 0 = nI rf := by rw [erf]; exact hC.rf
  have hsg : s 62 0 = nI sg := by rw [esg]; exact hC.sg
  have hR : CHr n Hb hb s := by rw [en, eHb, ehb]; exact hC.hR
  have hE : CEr m He aw s := by rw [em, eHe, eaw]; exact hC.hE
  have hCl : CCr c Cl s := by rw [ec, eCl]; exact hC.hCl
  have hRf : CRr rf Rf s := by rw [erf, eRf]; exact hC.hRf hL
  have hSg : CSr sg Sg s := by rw [esg, eSg]; exact hC.hSg hL
  have hV : ∀ j, j < 42 → s 41 j = Vv j := by rw [eVv]; exact hC.hV
  refine J_aload_n dX11_hours_0 rfl rfl ?_
  refine Cg_0_0 fr_X11_10_10 dX11_hours_1 ?_
  refine Cg_1_0 fr_X11_76_1 dX11_hours_4 ?_
  refine Cg_2_1 fr_X11_107_4 dX11_hours_7 ?_
  refine J_iload_n dX11_hours_10 rfl rfl ?_
  refine J_cUi [.int e] 4 mu_X11_111_3 (c_X5_hasRow1 r s l m hm e) cW_4 rfl rfl (by decide) (Nat.le_of_ble_eq_true rfl) ⟨Nat.le_refl _, Nat.le_refl _⟩ dX11_hours_11 ?_
  refine J_if_eqB 25 dX11_hours_14 (by decide) (fun kcz1 => ?_) (fun kcz1 => ?_)
  · refine J_bipush (v := -2) dX11_hours_25 (by decide) ?_
    exact J_iret dX11_hours_27 rfl rfl rfl (hq s l ((-2), σ) (by subst en em ec erf esg eHb ehb eHe eaw eCl eRf eSg eVv; simp [oHours, fnd, kcz1, rng_of (show 0 < 4 by decide) (by decide), nI_clamp (show 0 < 2 ^ 31 by decide)]) hC)
  · obtain ⟨E9, hE9, rfl⟩ := (rng_iff (by omega)).mp kcz1
    have eE9 : (nI E9).toNatClampNeg = E9 := nI_clamp (by omega)
    refine J_iload_n dX11_hours_17 rfl rfl ?_
    refine J_iconst (v := nI 4) dX11_hours_18 (by decide) ?_
    refine J_cSi [.int (nI 0), .int (nI 4)] ms_X11_48 (c_X11_isBelowN (cW G r s l) (nI 0) 4) rfl rfl (by decide) (Nat.le_of_ble_eq_true rfl) ⟨Nat.le_refl _, Nat.le_refl _⟩ dX11_hours_19 ?_
    refine J_if_neB 28 dX11_hours_22 (by decide) (fun _ => ?_) (fun c => absurd c (by rw [(show rng (nI 0) 4 = true by decide)]; decide))
    rcases hC.2.2.2.2.2.2.1.1 with ⟨u1, u2⟩ | ⟨u1, u2, u3, u4⟩
    · have hls : decide (s 68 0 = -1) = true := decide_eq_true u1
      have hsp : ¬ 0 ≤ σ 0 0 := by rw [u2]; decide
      refine J_aload_n dX11_hours_28 rfl rfl ?_
      refine Cg_0_4 fr_X11_39_10 dX11_hours_29 ?_
      refine J_iload_n dX11_hours_32 rfl rfl ?_
      refine Cl_10 0 rfl (by omega) dX11_hours_33 ?_
      refine J_astore_n [(0, .ref (r 0)), (1, .int (nI E9)), (2, .int (nI 0)), (3, .ref (r (11 + 0)))] dX11_hours_34 rfl (by decide) rfl rfl rfl ?_
      refine J_aload_n dX11_hours_35 rfl rfl ?_
      refine J_cVi (x := yX12_in) [] (11 + 0) mv_X11_227 (c_X8_isLost r s l 0 (by omega)) (cW_sh (by omega)) rfl rfl (by decide) (Nat.le_of_ble_eq_true rfl) ⟨Nat.le_refl _, Nat.le_refl _⟩ dX11_hours_36 ?_
      refine J_if_eqB 48 dX11_hours_39 (by decide) (fun c => absurd c (by rw [hls]; decide)) (fun _ => ?_)
      refine J_aload_n dX11_hours_42 rfl rfl ?_
      refine J_iconst (v := nI 1) dX11_hours_43 (by decide) ?_
      refine J_cVi (x := yX12_in) [.int (nI 1)] 0 mv_X11_230 (c_X11_found r s l 1) cW_0 rfl rfl (by decide) (Nat.le_of_ble_eq_true rfl) ⟨Nat.le_refl _, Nat.le_refl _⟩ dX11_hours_44 ?_
      show J G "hours" RX11 cX11_hours 6 (some .int) 0 0 4 Q 0 0 47 [(0, .ref (r 0)), (1, .int (nI E9)), (2, .int (nI 0)), (3, .ref (r (11 + 0)))] [.int ((-10) - nI 1)] (cW G r (su 50 s (fun _ => nI 1)) l)
      exact J_iret dX11_hours_47 rfl rfl rfl (hq (su 50 s (fun _ => nI 1)) l ((-10) - nI 1, (su 4 σ (fun _ => nI 1))) (by subst en em ec erf esg eHb ehb eHe eaw eCl eRf eSg eVv; simp [oHours, fnd, kcz1, eE9, hsp, rng_of (show 0 < 4 by decide) (by decide), nI_clamp (show 0 < 2 ^ 31 by decide)]) (ci_fnd hC))
    · obtain ⟨z, hz60, ez⟩ := (hL.sh (j := 0) (by decide)).2
      have hz : s 68 0 = nI z := u3.trans ez
      have hls : decide (s 68 0 = -1) = false := decide_eq_false (by rw [hz]; exact fun q => m1_ne (by omega) q.symm)
      obtain ⟨fo, hfo, efo⟩ := (hL.sh (j := 0) (by decide)).1.resolve_left u2
      have hsp : 0 ≤ σ 0 0 := by rw [efo]; exact nI_nn (by omega)
      have hit : ∀ i, i < z → s 70 i = σ 2 (60 * 0 + i) := u4 z ez.symm hz60
      have ezc : (σ 1 0).toNatClampNeg = z := by rw [ez]; exact nI_clamp (by omega)
      refine J_aload_n dX11_hours_28 rfl rfl ?_
      refine Cg_0_4 fr_X11_39_10 dX11_hours_29 ?_
      refine J_iload_n dX11_hours_32 rfl rfl ?_
      refine Cl_10 0 rfl (by omega) dX11_hours_33 ?_
      refine J_astore_n [(0, .ref (r 0)), (1, .int (nI E9)), (2, .int (nI 0)), (3, .ref (r (11 + 0)))] dX11_hours_34 rfl (by decide) rfl rfl rfl ?_
      refine J_aload_n dX11_hours_35 rfl rfl ?_
      refine J_cVi (x := yX12_in) [] (11 + 0) mv_X11_227 (c_X8_isLost r s l 0 (by omega)) (cW_sh (by omega)) rfl rfl (by decide) (Nat.le_of_ble_eq_true rfl) ⟨Nat.le_refl _, Nat.le_refl _⟩ dX11_hours_36 ?_
      refine J_if_eqB 48 dX11_hours_39 (by decide) (fun _ => ?_) (fun c => absurd c (by rw [hls]; decide))
      refine J_aload_n dX11_hours_48 rfl rfl ?_
      refine Cg_0_0 fr_X11_10_10 dX11_hours_49 ?_
      refine J_cVv (x := yX12_in) [] 1 mv_X11_162 (c_X1_settle r s l n hn hn8 m hm hm6 c hc hc15 Cl hCl rf hrf hrf12 Rf hRf) cW_1 rfl rfl (by decide) (Nat.le_of_ble_eq_true rfl) ⟨Nat.le_refl _, Nat.le_refl _⟩ dX11_hours_52 ?_
      show J G "hours" RX11 cX11_hours 6 (some .int) 0 0 4 Q 0 0 55 [(0, .ref (r 0)), (1, .int (nI E9)), (2, .int (nI 0)), (3, .ref (r (11 + 0)))] [] (cW G r (su 61 (su 40 (su 39 s ((wlF n m Cl (rfsM rf Rf (-1) 0) c).1)) (fun q => nI (rfB rf Rf (-1) 0 q))) (fun _ => nI (wlF n m Cl (rfsM rf Rf (-1) 0) c).2)) l)
      refine J_aload_n dX11_hours_55 rfl rfl ?_
      refine Cg_sh_2 (s := (su 61 (su 40 (su 39 s ((wlF n m Cl (rfsM rf Rf (-1) 0) c).1)) (fun q => nI (rfB rf Rf (-1) 0 q))) (fun _ => nI (wlF n m Cl (rfsM rf Rf (-1) 0) c).2))) (by omega) fr_X11_268_7 (s 68 0) rfl dX11_hours_56 ?_
      refine J_rw (y := nI z) hz ?_
      refine J_bipush (v := nI 24) dX11_hours_59 (by decide) ?_
      refine J_mmin ms_X11_294 (by omega) (by omega) (by omega) (by decide) ⟨Nat.le_refl _, Nat.le_refl _⟩ dX11_hours_61 ?_
      refine J_istore [(0, .ref (r 0)), (1, .int (nI E9)), (2, .int (nI 0)), (3, .ref (r (11 + 0))), (4, .int (nI (min z 24)))] dX11_hours_64 (by decide) rfl rfl rfl ?_
      refine J_iconst (v := nI 0) dX11_hours_66 (by decide) ?_
      refine J_istore [(0, .ref (r 0)), (1, .int (nI E9)), (2, .int (nI 0)), (3, .ref (r (11 + 0))), (4, .int (nI (min z 24))), (5, .int (nI 0))] dX11_hours_67 (by decide) rfl rfl rfl ?_
      have L69 : ∀ (f i : Nat), (min z 24) - i < f → i ≤ (min z 24) → ∀ (x5 : Int32) (y70 : Nat → Int32), x5 = nI i → y70 = (fb_put (s 70) (fun t => cutM (s 67 0) (doM n Hb He (wlF n m Cl (rfsM rf Rf (-1) 0) c).1 E9 t)) 0 i) → J G "hours" RX11 cX11_hours 6 (some .int) 0 0 4 Q 0 0 69 [(0, .ref (r 0)), (1, .int (nI E9)), (2, .int (nI 0)), (3, .ref (r (11 + 0))), (4, .int (nI (min z 24))), (5, .int x5)] [] (cW G r (su 70 (su 61 (su 40 (su 39 s ((wlF n m Cl (rfsM rf Rf (-1) 0) c).1)) (fun q => nI (rfB rf Rf (-1) 0 q))) (fun _ => nI (wlF n m Cl (rfsM rf Rf (-1) 0) c).2)) y70) l) := by
        intro f
        induction f with
        | zero => intro i h; exact absurd h (Nat.not_lt_zero _)
        | succ f ih69 =>
          intro i hf69 hle69  x5 y70 e5 g70
          subst e5
          subst g70
          refine J_iload dX11_hours_69 rfl ?_
          refine J_iload dX11_hours_71 rfl ?_
          refine J_icmp_geN 98 (by omega) (by omega) dX11_hours_73 (by decide) (fun kcz2 => ?_) (fun kcz2 => ?_)
          · have e98 : i = min z 24 := (by omega)
            subst e98
            refine J_iload dX11_hours_98 rfl ?_
            exact J_iret dX11_hours_100 rfl rfl rfl (hq (su 70 (su 61 (su 40 (su 39 s ((wlF n m Cl (rfsM rf Rf (-1) 0) c).1)) (fun q => nI (rfB rf Rf (-1) 0 q))) (fun _ => nI (wlF n m Cl (rfsM rf Rf (-1) 0) c).2)) (fb_put (s 70) (fun t => cutM (s 67 0) (doM n Hb He (wlF n m Cl (rfsM rf Rf (-1) 0) c).1 E9 t)) 0 (min z 24))) l (nI (min z 24), (su 2 σ (fb_put (σ 2) (fun t => cutM (σ 0 0) (doS σ E9 t)) (60 * 0) (min z 24)))) (by subst en em ec erf esg eHb ehb eHe eaw eCl eRf eSg eVv; simp [oHours, doS, wiS, ezc, kcz1, eE9, hsp, kcz2, rng_of (show 0 < 4 by decide) (by decide), nI_clamp (show 0 < 2 ^ 31 by decide)]) (by subst en em ec erf esg eHb ehb eHe eaw eCl eRf eSg eVv; rw [wl0]; exact ci_hours0 hC ez hz60 u1 u2))
          · refine J_aload_n dX11_hours_76 rfl rfl ?_
            refine J_iload dX11_hours_77 rfl ?_
            refine J_aload_n dX11_hours_79 rfl rfl ?_
            refine Cg_0_0 fr_X11_10_10 dX11_hours_80 ?_
            refine J_iload_n dX11_hours_83 rfl rfl ?_
            refine J_iload dX11_hours_84 rfl ?_
            refine J_cVi (x := yX12_in) [.int (nI E9), .int (nI i)] 1 mv_X11_182 (c_X1_doingOf r (su 70 (su 61 (su 40 (su 39 s ((wlF n m Cl (rfsM rf Rf (-1) 0) c).1)) (fun q => nI (rfB rf Rf (-1) 0 q))) (fun _ => nI (wlF n m Cl (rfsM rf Rf (-1) 0) c).2)) (fb_put (s 70) (fun t => cutM (s 67 0) (doM n Hb He (wlF n m Cl (rfsM rf Rf (-1) 0) c).1 E9 t)) 0 i)) l n hn hn8 Hb hb hR hk m hm hm6 He aw hE ha E9 i (by omega) (by omega)) cW_1 rfl rfl (by decide) (Nat.le_of_ble_eq_true rfl) ⟨Nat.le_refl _, Nat.le_refl _⟩ dX11_hours_86 ?_
            refine J_rw (y := doM n Hb He ((wlF n m Cl (rfsM rf Rf (-1) 0) c).1) E9 i) rfl ?_
            refine J_cVv (x := yX12_in) [.int (nI i), .int (doM n Hb He ((wlF n m Cl (rfsM rf Rf (-1) 0) c).1) E9 i)] (11 + 0) mv_X11_272 (c_X8_put r (su 70 (su 61 (su 40 (su 39 s ((wlF n m Cl (rfsM rf Rf (-1) 0) c).1)) (fun q => nI (rfB rf Rf (-1) 0 q))) (fun _ => nI (wlF n m Cl (rfsM rf Rf (-1) 0) c).2)) (fb_put (s 70) (fun t => cutM (s 67 0) (doM n Hb He (wlF n m Cl (rfsM rf Rf (-1) 0) c).1 E9 t)) 0 i)) l 0 (by decide) z hz hz60 i (by omega) (doM n Hb He ((wlF n m Cl (rfsM rf Rf (-1) 0) c).1) E9 i)) (cW_sh (by omega)) rfl rfl (by decide) (Nat.le_of_ble_eq_true rfl) ⟨Nat.le_refl _, Nat.le_refl _⟩ dX11_hours_89 ?_
            show J G "hours" RX11 cX11_hours 6 (some .int) 0 0 4 Q 0 0 92 [(0, .ref (r 0)), (1, .int (nI E9)), (2, .int (nI 0)), (3, .ref (r (11 + 0))), (4, .int (nI (min z 24))), (5, .int (nI i))] [] (cW G r (su 70 (su 70 (su 61 (su 40 (su 39 s ((wlF n m Cl (rfsM rf Rf (-1) 0) c).1)) (fun q => nI (rfB rf Rf (-1) 0 q))) (fun _ => nI (wlF n m Cl (rfsM rf Rf (-1) 0) c).2)) (fb_put (s 70) (fun t => cutM (s 67 0) (doM n Hb He (wlF n m Cl (rfsM rf Rf (-1) 0) c).1 E9 t)) 0 i)) (upd (fb_put (s 70) (fun t => cutM (s 67 0) (doM n Hb He (wlF n m Cl (rfsM rf Rf (-1) 0) c).1 E9 t)) 0 i) i (cutM (s 67 0) (doM n Hb He ((wlF n m Cl (rfsM rf Rf (-1) 0) c).1) E9 i)))) l)
            refine J_ws (ws2 := (cW G r (su 70 (su 61 (su 40 (su 39 s ((wlF n m Cl (rfsM rf Rf (-1) 0) c).1)) (fun q => nI (rfB rf Rf (-1) 0 q))) (fun _ => nI (wlF n m Cl (rfsM rf Rf (-1) 0) c).2)) (upd (fb_put (s 70) (fun t => cutM (s 67 0) (doM n Hb He (wlF n m Cl (rfsM rf Rf (-1) 0) c).1 E9 t)) 0 i) i (cutM (s 67 0) (doM n Hb He ((wlF n m Cl (rfsM rf Rf (-1) 0) c).1) E9 i)))) l)) (congrArg (fun q_ => cW G r q_ l) su_tw) ?_
            refine J_iincN [(0, .ref (r 0)), (1, .int (nI E9)), (2, .int (nI 0)), (3, .ref (r (11 + 0))), (4, .int (nI (min z 24))), (5, .int (nI (i + 1)))] dX11_hours_92 rfl (by decide) rfl rfl rfl ?_
            refine J_goto 69 dX11_hours_95 (by decide) ?_
            exact ih69 (i + 1) (by omega) (by omega)  _ _ rfl (fb_put_s0 (s 70) (fun t => cutM (s 67 0) (doM n Hb He (wlF n m Cl (rfsM rf Rf (-1) 0) c).1 E9 t)) i)
      exact L69 ((min z 24) + 1) 0 (by omega) (by omega)  _ _ rfl (fb_put_0 _ _ _).symm
theorem c_X11_hours0 {G : GT} (r : Nat → Nat) (s : St) (l : Nat → Int64) (σ : St) (hL : LI σ) (hC : CI σ s) (e : Int32) : Ct G yX11_hours cX11_hours 6 (some .int) 0 0 4 [.ref (r 0), .int e, .int (nI 0)] (cW G r s l) (QC G r (oHours e (nI 0) σ)) := Ct.of rfl (Nat.le_of_ble_eq_true rfl) (j_X11_hours0 r s l σ hL hC e (fun x lx a h1 h2 => ⟨x, lx, by rw [h1], rfl, by rw [← h1]; exact h2⟩))
set_option maxRecDepth 100000 in
set_option maxHeartbeats 1000000 in
theorem j_X11_hours1 {G : GT} (r : Nat → Nat) (s : St) (l : Nat → Int64) (σ : St) (hL : LI σ) (hC : CI σ s) (e : Int32) {Q : Option Value → va_W → Prop} (hq : ∀ (x : St) (lx : Nat → Int64) (a : Int32 × St), a = oHours e (nI 1) σ → CI a.2 x → Q (some (.int a.1)) (cW G r x lx)) : J G "hours" RX11 cX11_hours 6 (some .int) 0 0 4 Q 0 0 0 [(0, .ref (r 0)), (1, .int e), (2, .int (nI 1))] [] (cW G r s l) := by
  obtain ⟨n, en⟩ : ∃ z, z = nH σ := ⟨_, rfl⟩
  obtain ⟨m, em⟩ : ∃ z, z = nE σ := ⟨_, rfl⟩
  obtain ⟨c, ec⟩ : ∃ z, z = nC σ := ⟨_, rfl⟩
  obtain ⟨rf, erf⟩ : ∃ z, z = rfn σ := ⟨_, rfl⟩
  obtain ⟨sg, esg⟩ : ∃ z, z = sgn σ := ⟨_, rfl⟩
  obtain ⟨Hb, eHb⟩ : ∃ z, z = HbS σ := ⟨_, rfl⟩
  obtain ⟨hb, ehb⟩ : ∃ z, z = hbS σ := ⟨_, rfl⟩
  obtain ⟨He, eHe⟩ : ∃ z, z = HeS σ := ⟨_, rfl⟩
  obtain ⟨aw, eaw⟩ : ∃ z, z = awS σ := ⟨_, rfl⟩
  obtain ⟨Cl, eCl⟩ : ∃ z, z = ClS σ := ⟨_, rfl⟩
  obtain ⟨Rf, eRf⟩ : ∃ z, z = σ 13 := ⟨_, rfl⟩
  obtain ⟨Sg, eSg⟩ : ∃ z, z = σ 22 := ⟨_, rfl⟩
  obtain ⟨Vv, eVv⟩ : ∃ z, z = σ 16 := ⟨_, rfl⟩
  have hn8 : n ≤ 8 := by rw [en]; exact nH_le _
  have hm6 : m ≤ 6 := by rw [em]; exact nE_le _
  have hc15 : c ≤ 15 := by rw [ec]; exact nC_le _
  have hrf12 : rf ≤ 12 := by rw [erf]; exact hL.rf.2.1
  have hsg8 : sg ≤ 8 := by rw [esg]; exact hL.sg.2.1
  have hk : HbOk n Hb hb := by rw [en, eHb, ehb]; exact hbOk σ
  have ha : AwOk m He aw := by rw [em, eHe, eaw]; exact awOk σ
  have hn : s 52 0 = nI n := by rw [en]; exact hC.n
  have hm : s 55 0 = nI m := by rw [em]; exact hC.m
  have hc : s 58 0 = nI c := by rw [ec]; exact hC.c
  have hrf : s 60 0 = nI rf := by rw [erf]; exact hC.rf
  have hsg : s 62 0 = nI sg := by rw [esg]; exact hC.sg
  have hR : CHr n Hb hb s := by rw [en, eHb, ehb]; exact hC.hR
  have hE : CEr m He aw s := by rw [em, eHe, eaw]; exact hC.hE
  have hCl : CCr c Cl s := by rw [ec, eCl]; exact hC.hCl
  have hRf : CRr rf Rf s := by rw [erf, eRf]; exact hC.hRf hL
  have hSg : CSr sg Sg s := by rw [esg, eSg]; exact hC.hSg hL
  have hV : ∀ j, j < 42 → s 41 j = Vv j := by rw [eVv]; exact hC.hV
  refine J_aload_n dX11_hours_0 rfl rfl ?_
  refine Cg_0_0 fr_X11_10_10 dX11_hours_1 ?_
  refine Cg_1_0 fr_X11_76_1 dX11_hours_4 ?_
  refine Cg_2_1 fr_X11_107_4 dX11_hours_7 ?_
  refine J_iload_n dX11_hours_10 rfl rfl ?_
  refine J_cUi [.int e] 4 mu_X11_111_3 (c_X5_hasRow1 r s l m hm e) cW_4 rfl rfl (by decide) (Nat.le_of_ble_eq_true rfl) ⟨Nat.le_refl _, Nat.le_refl _⟩ dX11_hours_11 ?_
  refine J_if_eqB 25 dX11_hours_14 (by decide) (fun kcz1 => ?_) (fun kcz1 => ?_)
  · refine J_bipush (v := -2) dX11_hours_25 (by decide) ?_
    exact J_iret dX11_hours_27 rfl rfl rfl (hq s l ((-2), σ) (by subst en em ec erf esg eHb ehb eHe eaw eCl eRf eSg eVv; simp [oHours, fnd, kcz1, rng_of (show 1 < 4 by decide) (by decide), nI_clamp (show 1 < 2 ^ 31 by decide)]) hC)
  · obtain ⟨E9, hE9, rfl⟩ := (rng_iff (by omega)).mp kcz1
    have eE9 : (nI E9).toNatClampNeg = E9 := nI_clamp (by omega)
    refine J_iload_n dX11_hours_17 rfl rfl ?_
    refine J_iconst (v := nI 4) dX11_hours_18 (by decide) ?_
    refine J_cSi [.int (nI 1), .int (nI 4)] ms_X11_48 (c_X11_isBelowN (cW G r s l) (nI 1) 4) rfl rfl (by decide) (Nat.le_of_ble_eq_true rfl) ⟨Nat.le_refl _, Nat.le_refl _⟩ dX11_hours_19 ?_
    refine J_if_neB 28 dX11_hours_22 (by decide) (fun _ => ?_) (fun c => absurd c (by rw [(show rng (nI 1) 4 = true by decide)]; decide))
    rcases hC.2.2.2.2.2.2.1.2.1 with ⟨u1, u2⟩ | ⟨u1, u2, u3, u4⟩
    · have hls : decide (s 68 1 = -1) = true := decide_eq_true u1
      have hsp : ¬ 0 ≤ σ 0 1 := by rw [u2]; decide
      refine J_aload_n dX11_hours_28 rfl rfl ?_
      refine Cg_0_4 fr_X11_39_10 dX11_hours_29 ?_
      refine J_iload_n dX11_hours_32 rfl rfl ?_
      refine Cl_10 1 rfl (by omega) dX11_hours_33 ?_
      refine J_astore_n [(0, .ref (r 0)), (1, .int (nI E9)), (2, .int (nI 1)), (3, .ref (r (11 + 1)))] dX11_hours_34 rfl (by decide) rfl rfl rfl ?_
      refine J_aload_n dX11_hours_35 rfl rfl ?_
      refine J_cVi (x := yX12_in) [] (11 + 1) mv_X11_227 (c_X8_isLost r s l 1 (by omega)) (cW_sh (by omega)) rfl rfl (by decide) (Nat.le_of_ble_eq_true rfl) ⟨Nat.le_refl _, Nat.le_refl _⟩ dX11_hours_36 ?_
      refine J_if_eqB 48 dX11_hours_39 (by decide) (fun c => absurd c (by rw [hls]; decide)) (fun _ => ?_)
      refine J_aload_n dX11_hours_42 rfl rfl ?_
      refine J_iconst (v := nI 1) dX11_hours_43 (by decide) ?_
      refine J_cVi (x := yX12_in) [.int (nI 1)] 0 mv_X11_230 (c_X11_found r s l 1) cW_0 rfl rfl (by decide) (Nat.le_of_ble_eq_true rfl) ⟨Nat.le_refl _, Nat.le_refl _⟩ dX11_hours_44 ?_
      show J G "hours" RX11 cX11_hours 6 (some .int) 0 0 4 Q 0 0 47 [(0, .ref (r 0)), (1, .int (nI E9)), (2, .int (nI 1)), (3, .ref (r (11 + 1)))] [.int ((-10) - nI 1)] (cW G r (su 50 s (fun _ => nI 1)) l)
      exact J_iret dX11_hours_47 rfl rfl rfl (hq (su 50 s (fun _ => nI 1)) l ((-10) - nI 1, (su 4 σ (fun _ => nI 1))) (by subst en em ec erf esg eHb ehb eHe eaw eCl eRf eSg eVv; simp [oHours, fnd, kcz1, eE9, hsp, rng_of (show 1 < 4 by decide) (by decide), nI_clamp (show 1 < 2 ^ 31 by decide)]) (ci_fnd hC))
    · obtain ⟨z, hz60, ez⟩ := (hL.sh (j := 1) (by decide)).2
      have hz : s 68 1 = nI z := u3.trans ez
      have hls : decide (s 68 1 = -1) = false := decide_eq_false (by rw [hz]; exact fun q => m1_ne (by omega) q.symm)
      obtain ⟨fo, hfo, efo⟩ := (hL.sh (j := 1) (by decide)).1.resolve_left u2
      have hsp : 0 ≤ σ 0 1 := by rw [efo]; exact nI_nn (by omega)
      have hit : ∀ i, i < z → s 71 i = σ 2 (60 * 1 + i) := u4 z ez.symm hz60
      have ezc : (σ 1 1).toNatClampNeg = z := by rw [ez]; exact nI_clamp (by omega)
      refine J_aload_n dX11_hours_28 rfl rfl ?_
      refine Cg_0_4 fr_X11_39_10 dX11_hours_29 ?_
      refine J_iload_n dX11_hours_32 rfl rfl ?_
      refine Cl_10 1 rfl (by omega) dX11_hours_33 ?_
      refine J_astore_n [(0, .ref (r 0)), (1, .int (nI E9)), (2, .int (nI 1)), (3, .ref (r (11 + 1)))] dX11_hours_34 rfl (by decide) rfl rfl rfl ?_
      refine J_aload_n dX11_hours_35 rfl rfl ?_
      refine J_cVi (x := yX12_in) [] (11 + 1) mv_X11_227 (c_X8_isLost r s l 1 (by omega)) (cW_sh (by omega)) rfl rfl (by decide) (Nat.le_of_ble_eq_true rfl) ⟨Nat.le_refl _, Nat.le_refl _⟩ dX11_hours_36 ?_
      refine J_if_eqB 48 dX11_hours_39 (by decide) (fun _ => ?_) (fun c => absurd c (by rw [hls]; decide))
      refine J_aload_n dX11_hours_48 rfl rfl ?_
      refine Cg_0_0 fr_X11_10_10 dX11_hours_49 ?_
      refine J_cVv (x := yX12_in) [] 1 mv_X11_162 (c_X1_settle r s l n hn hn8 m hm hm6 c hc hc15 Cl hCl rf hrf hrf12 Rf hRf) cW_1 rfl rfl (by decide) (Nat.le_of_ble_eq_true rfl) ⟨Nat.le_refl _, Nat.le_refl _⟩ dX11_hours_52 ?_
      show J G "hours" RX11 cX11_hours 6 (some .int) 0 0 4 Q 0 0 55 [(0, .ref (r 0)), (1, .int (nI E9)), (2, .int (nI 1)), (3, .ref (r (11 + 1)))] [] (cW G r (su 61 (su 40 (su 39 s ((wlF n m Cl (rfsM rf Rf (-1) 0) c).1)) (fun q => nI (rfB rf Rf (-1) 0 q))) (fun _ => nI (wlF n m Cl (rfsM rf Rf (-1) 0) c).2)) l)
      refine J_aload_n dX11_hours_55 rfl rfl ?_
      refine Cg_sh_2 (s := (su 61 (su 40 (su 39 s ((wlF n m Cl (rfsM rf Rf (-1) 0) c).1)) (fun q => nI (rfB rf Rf (-1) 0 q))) (fun _ => nI (wlF n m Cl (rfsM rf Rf (-1) 0) c).2))) (by omega) fr_X11_268_7 (s 68 1) rfl dX11_hours_56 ?_
      refine J_rw (y := nI z) hz ?_
      refine J_bipush (v := nI 24) dX11_hours_59 (by decide) ?_
      refine J_mmin ms_X11_294 (by omega) (by omega) (by omega) (by decide) ⟨Nat.le_refl _, Nat.le_refl _⟩ dX11_hours_61 ?_
      refine J_istore [(0, .ref (r 0)), (1, .int (nI E9)), (2, .int (nI 1)), (3, .ref (r (11 + 1))), (4, .int (nI (min z 24)))] dX11_hours_64 (by decide) rfl rfl rfl ?_
      refine J_iconst (v := nI 0) dX11_hours_66 (by decide) ?_
      refine J_istore [(0, .ref (r 0)), (1, .int (nI E9)), (2, .int (nI 1)), (3, .ref (r (11 + 1))), (4, .int (nI (min z 24))), (5, .int (nI 0))] dX11_hours_67 (by decide) rfl rfl rfl ?_
      have L69 : ∀ (f i : Nat), (min z 24) - i < f → i ≤ (min z 24) → ∀ (x5 : Int32) (y71 : Nat → Int32), x5 = nI i → y71 = (fb_put (s 71) (fun t => cutM (s 67 1) (doM n Hb He (wlF n m Cl (rfsM rf Rf (-1) 0) c).1 E9 t)) 0 i) → J G "hours" RX11 cX11_hours 6 (some .int) 0 0 4 Q 0 0 69 [(0, .ref (r 0)), (1, .int (nI E9)), (2, .int (nI 1)), (3, .ref (r (11 + 1))), (4, .int (nI (min z 24))), (5, .int x5)] [] (cW G r (su 71 (su 61 (su 40 (su 39 s ((wlF n m Cl (rfsM rf Rf (-1) 0) c).1)) (fun q => nI (rfB rf Rf (-1) 0 q))) (fun _ => nI (wlF n m Cl (rfsM rf Rf (-1) 0) c).2)) y71) l) := by
        intro f
        induction f with
        | zero => intro i h; exact absurd h (Nat.not_lt_zero _)
        | succ f ih69 =>
          intro i hf69 hle69  x5 y71 e5 g71
          subst e5
          subst g71
          refine J_iload dX11_hours_69 rfl ?_
          refine J_iload dX11_hours_71 rfl ?_
          refine J_icmp_geN 98 (by omega) (by omega) dX11_hours_73 (by decide) (fun kcz2 => ?_) (fun kcz2 => ?_)
          · have e98 : i = min z 24 := (by omega)
            subst e98
            refine J_iload dX11_hours_98 rfl ?_
            exact J_iret dX11_hours_100 rfl rfl rfl (hq (su 71 (su 61 (su 40 (su 39 s ((wlF n m Cl (rfsM rf Rf (-1) 0) c).1)) (fun q => nI (rfB rf Rf (-1) 0 q))) (fun _ => nI (wlF n m Cl (rfsM rf Rf (-1) 0) c).2)) (fb_put (s 71) (fun t => cutM (s 67 1) (doM n Hb He (wlF n m Cl (rfsM rf Rf (-1) 0) c).1 E9 t)) 0 (min z 24))) l (nI (min z 24), (su 2 σ (fb_put (σ 2) (fun t => cutM (σ 0 1) (doS σ E9 t)) (60 * 1) (min z 24)))) (by subst en em ec erf esg eHb ehb eHe eaw eCl eRf eSg eVv; simp [oHours, doS, wiS, ezc, kcz1, eE9, hsp, kcz2, rng_of (show 1 < 4 by decide) (by decide), nI_clamp (show 1 < 2 ^ 31 by decide)]) (by subst en em ec erf esg eHb ehb eHe eaw eCl eRf eSg eVv; rw [wl0]; exact ci_hours1 hC ez hz60 u1 u2))
          · refine J_aload_n dX11_hours_76 rfl rfl ?_
            refine J_iload dX11_hours_77 rfl ?_
            refine J_aload_n dX11_hours_79 rfl rfl ?_
            refine Cg_0_0 fr_X11_10_10 dX11_hours_80 ?_
            refine J_iload_n dX11_hours_83 rfl rfl ?_
            refine J_iload dX11_hours_84 rfl ?_
            refine J_cVi (x := yX12_in) [.int (nI E9), .int (nI i)] 1 mv_X11_182 (c_X1_doingOf r (su 71 (su 61 (su 40 (su 39 s ((wlF n m Cl (rfsM rf Rf (-1) 0) c).1)) (fun q => nI (rfB rf Rf (-1) 0 q))) (fun _ => nI (wlF n m Cl (rfsM rf Rf (-1) 0) c).2)) (fb_put (s 71) (fun t => cutM (s 67 1) (doM n Hb He (wlF n m Cl (rfsM rf Rf (-1) 0) c).1 E9 t)) 0 i)) l n hn hn8 Hb hb hR hk m hm hm6 He aw hE ha E9 i (by omega) (by omega)) cW_1 rfl rfl (by decide) (Nat.le_of_ble_eq_true rfl) ⟨Nat.le_refl _, Nat.le_refl _⟩ dX11_hours_86 ?_
            refine J_rw (y := doM n Hb He ((wlF n m Cl (rfsM rf Rf (-1) 0) c).1) E9 i) rfl ?_
            refine J_cVv (x := yX12_in) [.int (nI i), .int (doM n Hb He ((wlF n m Cl (rfsM rf Rf (-1) 0) c).1) E9 i)] (11 + 1) mv_X11_272 (c_X8_put r (su 71 (su 61 (su 40 (su 39 s ((wlF n m Cl (rfsM rf Rf (-1) 0) c).1)) (fun q => nI (rfB rf Rf (-1) 0 q))) (fun _ => nI (wlF n m Cl (rfsM rf Rf (-1) 0) c).2)) (fb_put (s 71) (fun t => cutM (s 67 1) (doM n Hb He (wlF n m Cl (rfsM rf Rf (-1) 0) c).1 E9 t)) 0 i)) l 1 (by decide) z hz hz60 i (by omega) (doM n Hb He ((wlF n m Cl (rfsM rf Rf (-1) 0) c).1) E9 i)) (cW_sh (by omega)) rfl rfl (by decide) (Nat.le_of_ble_eq_true rfl) ⟨Nat.le_refl _, Nat.le_refl _⟩ dX11_hours_89 ?_
            show J G "hours" RX11 cX11_hours 6 (some .int) 0 0 4 Q 0 0 92 [(0, .ref (r 0)), (1, .int (nI E9)), (2, .int (nI 1)), (3, .ref (r (11 + 1))), (4, .int (nI (min z 24))), (5, .int (nI i))] [] (cW G r (su 71 (su 71 (su 61 (su 40 (su 39 s ((wlF n m Cl (rfsM rf Rf (-1) 0) c).1)) (fun q => nI (rfB rf Rf (-1) 0 q))) (fun _ => nI (wlF n m Cl (rfsM rf Rf (-1) 0) c).2)) (fb_put (s 71) (fun t => cutM (s 67 1) (doM n Hb He (wlF n m Cl (rfsM rf Rf (-1) 0) c).1 E9 t)) 0 i)) (upd (fb_put (s 71) (fun t => cutM (s 67 1) (doM n Hb He (wlF n m Cl (rfsM rf Rf (-1) 0) c).1 E9 t)) 0 i) i (cutM (s 67 1) (doM n Hb He ((wlF n m Cl (rfsM rf Rf (-1) 0) c).1) E9 i)))) l)
            refine J_ws (ws2 := (cW G r (su 71 (su 61 (su 40 (su 39 s ((wlF n m Cl (rfsM rf Rf (-1) 0) c).1)) (fun q => nI (rfB rf Rf (-1) 0 q))) (fun _ => nI (wlF n m Cl (rfsM rf Rf (-1) 0) c).2)) (upd (fb_put (s 71) (fun t => cutM (s 67 1) (doM n Hb He (wlF n m Cl (rfsM rf Rf (-1) 0) c).1 E9 t)) 0 i) i (cutM (s 67 1) (doM n Hb He ((wlF n m Cl (rfsM rf Rf (-1) 0) c).1) E9 i)))) l)) (congrArg (fun q_ => cW G r q_ l) su_tw) ?_
            refine J_iincN [(0, .ref (r 0)), (1, .int (nI E9)), (2, .int (nI 1)), (3, .ref (r (11 + 1))), (4, .int (nI (min z 24))), (5, .int (nI (i + 1)))] dX11_hours_92 rfl (by decide) rfl rfl rfl ?_
            refine J_goto 69 dX11_hours_95 (by decide) ?_
            exact ih69 (i + 1) (by omega) (by omega)  _ _ rfl (fb_put_s0 (s 71) (fun t => cutM (s 67 1) (doM n Hb He (wlF n m Cl (rfsM rf Rf (-1) 0) c).1 E9 t)) i)
      exact L69 ((min z 24) + 1) 0 (by omega) (by omega)  _ _ rfl (fb_put_0 _ _ _).symm
theorem c_X11_hours1 {G : GT} (r : Nat → Nat) (s : St) (l : Nat → Int64) (σ : St) (hL : LI σ) (hC : CI σ s) (e : Int32) : Ct G yX11_hours cX11_hours 6 (some .int) 0 0 4 [.ref (r 0), .int e, .int (nI 1)] (cW G r s l) (QC G r (oHours e (nI 1) σ)) := Ct.of rfl (Nat.le_of_ble_eq_true rfl) (j_X11_hours1 r s l σ hL hC e (fun x lx a h1 h2 => ⟨x, lx, by rw [h1], rfl, by rw [← h1]; exact h2⟩))
set_option maxRecDepth 100000 in
set_option maxHeartbeats 1000000 in
theorem j_X11_hours2 {G : GT} (r : Nat → Nat) (s : St) (l : Nat → Int64) (σ : St) (hL : LI σ) (hC : CI σ s) (e : Int32) {Q : Option Value → va_W → Prop} (hq : ∀ (x : St) (lx : Nat → Int64) (a : Int32 × St), a = oHours e (nI 2) σ → CI a.2 x → Q (some (.int a.1)) (cW G r x lx)) : J G "hours" RX11 cX11_hours 6 (some .int) 0 0 4 Q 0 0 0 [(0, .ref (r 0)), (1, .int e), (2, .int (nI 2))] [] (cW G r s l) := by
  obtain ⟨n, en⟩ : ∃ z, z = nH σ := ⟨_, rfl⟩
  obtain ⟨m, em⟩ : ∃ z, z = nE σ := ⟨_, rfl⟩
  obtain ⟨c, ec⟩ : ∃ z, z = nC σ := ⟨_, rfl⟩
  obtain ⟨rf, erf⟩ : ∃ z, z = rfn σ := ⟨_, rfl⟩
  obtain ⟨sg, esg⟩ : ∃ z, z = sgn σ := ⟨_, rfl⟩
  obtain ⟨Hb, eHb⟩ : ∃ z, z = HbS σ := ⟨_, rfl⟩
  obtain ⟨hb, ehb⟩ : ∃ z, z = hbS σ := ⟨_, rfl⟩
  obtain ⟨He, eHe⟩ : ∃ z, z = HeS σ := ⟨_, rfl⟩
  obtain ⟨aw, eaw⟩ : ∃ z, z = awS σ := ⟨_, rfl⟩
  obtain ⟨Cl, eCl⟩ : ∃ z, z = ClS σ := ⟨_, rfl⟩
  obtain ⟨Rf, eRf⟩ : ∃ z, z = σ 13 := ⟨_, rfl⟩
  obtain ⟨Sg, eSg⟩ : ∃ z, z = σ 22 := ⟨_, rfl⟩
  obtain ⟨Vv, eVv⟩ : ∃ z, z = σ 16 := ⟨_, rfl⟩
  have hn8 : n ≤ 8 := by rw [en]; exact nH_le _
  have hm6 : m ≤ 6 := by rw [em]; exact nE_le _
  have hc15 : c ≤ 15 := by rw [ec]; exact nC_le _
  have hrf12 : rf ≤ 12 := by rw [erf]; exact hL.rf.2.1
  have hsg8 : sg ≤ 8 := by rw [esg]; exact hL.sg.2.1
  have hk : HbOk n Hb hb := by rw [en, eHb, ehb]; exact hbOk σ
  have ha : AwOk m He aw := by rw [em, eHe, eaw]; exact awOk σ
  have hn : s 52 0 = nI n := by rw [en]; exact hC.n
  have hm : s 55 0 = nI m := by rw [em]; exact hC.m
  have hc : s 58 0 = nI c := by rw [ec]; exact hC.c
  have hrf : s 60 0 = nI rf := by rw [erf]; exact hC.rf
  have hsg : s 62 0 = nI sg := by rw [esg]; exact hC.sg
  have hR : CHr n Hb hb s := by rw [en, eHb, ehb]; exact hC.hR
  have hE : CEr m He aw s := by rw [em, eHe, eaw]; exact hC.hE
  have hCl : CCr c Cl s := by rw [ec, eCl]; exact hC.hCl
  have hRf : CRr rf Rf s := by rw [erf, eRf]; exact hC.hRf hL
  have hSg : CSr sg Sg s := by rw [esg, eSg]; exact hC.hSg hL
  have hV : ∀ j, j < 42 → s 41 j = Vv j := by rw [eVv]; exact hC.hV
  refine J_aload_n dX11_hours_0 rfl rfl ?_
  refine Cg_0_0 fr_X11_10_10 dX11_hours_1 ?_
  refine Cg_1_0 fr_X11_76_1 dX11_hours_4 ?_
  refine Cg_2_1 fr_X11_107_4 dX11_hours_7 ?_
  refine J_iload_n dX11_hours_10 rfl rfl ?_
  refine J_cUi [.int e] 4 mu_X11_111_3 (c_X5_hasRow1 r s l m hm e) cW_4 rfl rfl (by decide) (Nat.le_of_ble_eq_true rfl) ⟨Nat.le_refl _, Nat.le_refl _⟩ dX11_hours_11 ?_
  refine J_if_eqB 25 dX11_hours_14 (by decide) (fun kcz1 => ?_) (fun kcz1 => ?_)
  · refine J_bipush (v := -2) dX11_hours_25 (by decide) ?_
    exact J_iret dX11_hours_27 rfl rfl rfl (hq s l ((-2), σ) (by subst en em ec erf esg eHb ehb eHe eaw eCl eRf eSg eVv; simp [oHours, fnd, kcz1, rng_of (show 2 < 4 by decide) (by decide), nI_clamp (show 2 < 2 ^ 31 by decide)]) hC)
  · obtain ⟨E9, hE9, rfl⟩ := (rng_iff (by omega)).mp kcz1
    have eE9 : (nI E9).toNatClampNeg = E9 := nI_clamp (by omega)
    refine J_iload_n dX11_hours_17 rfl rfl ?_
    refine J_iconst (v := nI 4) dX11_hours_18 (by decide) ?_
    refine J_cSi [.int (nI 2), .int (nI 4)] ms_X11_48 (c_X11_isBelowN (cW G r s l) (nI 2) 4) rfl rfl (by decide) (Nat.le_of_ble_eq_true rfl) ⟨Nat.le_refl _, Nat.le_refl _⟩ dX11_hours_19 ?_
    refine J_if_neB 28 dX11_hours_22 (by decide) (fun _ => ?_) (fun c => absurd c (by rw [(show rng (nI 2) 4 = true by decide)]; decide))
    rcases hC.2.2.2.2.2.2.1.2.2.1 with ⟨u1, u2⟩ | ⟨u1, u2, u3, u4⟩
    · have hls : decide (s 68 2 = -1) = true := decide_eq_true u1
      have hsp : ¬ 0 ≤ σ 0 2 := by rw [u2]; decide
      refine J_aload_n dX11_hours_28 rfl rfl ?_
      refine Cg_0_4 fr_X11_39_10 dX11_hours_29 ?_
      refine J_iload_n dX11_hours_32 rfl rfl ?_
      refine Cl_10 2 rfl (by omega) dX11_hours_33 ?_
      refine J_astore_n [(0, .ref (r 0)), (1, .int (nI E9)), (2, .int (nI 2)), (3, .ref (r (11 + 2)))] dX11_hours_34 rfl (by decide) rfl rfl rfl ?_
      refine J_aload_n dX11_hours_35 rfl rfl ?_
      refine J_cVi (x := yX12_in) [] (11 + 2) mv_X11_227 (c_X8_isLost r s l 2 (by omega)) (cW_sh (by omega)) rfl rfl (by decide) (Nat.le_of_ble_eq_true rfl) ⟨Nat.le_refl _, Nat.le_refl _⟩ dX11_hours_36 ?_
      refine J_if_eqB 48 dX11_hours_39 (by decide) (fun c => absurd c (by rw [hls]; decide)) (fun _ => ?_)
      refine J_aload_n dX11_hours_42 rfl rfl ?_
      refine J_iconst (v := nI 1) dX11_hours_43 (by decide) ?_
      refine J_cVi (x := yX12_in) [.int (nI 1)] 0 mv_X11_230 (c_X11_found r s l 1) cW_0 rfl rfl (by decide) (Nat.le_of_ble_eq_true rfl) ⟨Nat.le_refl _, Nat.le_refl _⟩ dX11_hours_44 ?_
      show J G "hours" RX11 cX11_hours 6 (some .int) 0 0 4 Q 0 0 47 [(0, .ref (r 0)), (1, .int (nI E9)), (2, .int (nI 2)), (3, .ref (r (11 + 2)))] [.int ((-10) - nI 1)] (cW G r (su 50 s (fun _ => nI 1)) l)
      exact J_iret dX11_hours_47 rfl rfl rfl (hq (su 50 s (fun _ => nI 1)) l ((-10) - nI 1, (su 4 σ (fun _ => nI 1))) (by subst en em ec erf esg eHb ehb eHe eaw eCl eRf eSg eVv; simp [oHours, fnd, kcz1, eE9, hsp, rng_of (show 2 < 4 by decide) (by decide), nI_clamp (show 2 < 2 ^ 31 by decide)]) (ci_fnd hC))
    · obtain ⟨z, hz60, ez⟩ := (hL.sh (j := 2) (by decide)).2
      have hz : s 68 2 = nI z := u3.trans ez
      have hls : decide (s 68 2 = -1) = false := decide_eq_false (by rw [hz]; exact fun q => m1_ne (by omega) q.symm)
      obtain ⟨fo, hfo, efo⟩ := (hL.sh (j := 2) (by decide)).1.resolve_left u2
      have hsp : 0 ≤ σ 0 2 := by rw [efo]; exact nI_nn (by omega)
      have hit : ∀ i, i < z → s 72 i = σ 2 (60 * 2 + i) := u4 z ez.symm hz60
      have ezc : (σ 1 2).toNatClampNeg = z := by rw [ez]; exact nI_clamp (by omega)
      refine J_aload_n dX11_hours_28 rfl rfl ?_
      refine Cg_0_4 fr_X11_39_10 dX11_hours_29 ?_
      refine J_iload_n dX11_hours_32 rfl rfl ?_
      refine Cl_10 2 rfl (by omega) dX11_hours_33 ?_
      refine J_astore_n [(0, .ref (r 0)), (1, .int (nI E9)), (2, .int (nI 2)), (3, .ref (r (11 + 2)))] dX11_hours_34 rfl (by decide) rfl rfl rfl ?_
      refine J_aload_n dX11_hours_35 rfl rfl ?_
      refine J_cVi (x := yX12_in) [] (11 + 2) mv_X11_227 (c_X8_isLost r s l 2 (by omega)) (cW_sh (by omega)) rfl rfl (by decide) (Nat.le_of_ble_eq_true rfl) ⟨Nat.le_refl _, Nat.le_refl _⟩ dX11_hours_36 ?_
      refine J_if_eqB 48 dX11_hours_39 (by decide) (fun _ => ?_) (fun c => absurd c (by rw [hls]; decide))
      refine J_aload_n dX11_hours_48 rfl rfl ?_
      refine Cg_0_0 fr_X11_10_10 dX11_hours_49 ?_
      refine J_cVv (x := yX12_in) [] 1 mv_X11_162 (c_X1_settle r s l n hn hn8 m hm hm6 c hc hc15 Cl hCl rf hrf hrf12 Rf hRf) cW_1 rfl rfl (by decide) (Nat.le_of_ble_eq_true rfl) ⟨Nat.le_refl _, Nat.le_refl _⟩ dX11_hours_52 ?_
      show J G "hours" RX11 cX11_hours 6 (some .int) 0 0 4 Q 0 0 55 [(0, .ref (r 0)), (1, .int (nI E9)), (2, .int (nI 2)), (3, .ref (r (11 + 2)))] [] (cW G r (su 61 (su 40 (su 39 s ((wlF n m Cl (rfsM rf Rf (-1) 0) c).1)) (fun q => nI (rfB rf Rf (-1) 0 q))) (fun _ => nI (wlF n m Cl (rfsM rf Rf (-1) 0) c).2)) l)
      refine J_aload_n dX11_hours_55 rfl rfl ?_
      refine Cg_sh_2 (s := (su 61 (su 40 (su 39 s ((wlF n m Cl (rfsM rf Rf (-1) 0) c).1)) (fun q => nI (rfB rf Rf (-1) 0 q))) (fun _ => nI (wlF n m Cl (rfsM rf Rf (-1) 0) c).2))) (by omega) fr_X11_268_7 (s 68 2) rfl dX11_hours_56 ?_
      refine J_rw (y := nI z) hz ?_
      refine J_bipush (v := nI 24) dX11_hours_59 (by decide) ?_
      refine J_mmin ms_X11_294 (by omega) (by omega) (by omega) (by decide) ⟨Nat.le_refl _, Nat.le_refl _⟩ dX11_hours_61 ?_
      refine J_istore [(0, .ref (r 0)), (1, .int (nI E9)), (2, .int (nI 2)), (3, .ref (r (11 + 2))), (4, .int (nI (min z 24)))] dX11_hours_64 (by decide) rfl rfl rfl ?_
      refine J_iconst (v := nI 0) dX11_hours_66 (by decide) ?_
      refine J_istore [(0, .ref (r 0)), (1, .int (nI E9)), (2, .int (nI 2)), (3, .ref (r (11 + 2))), (4, .int (nI (min z 24))), (5, .int (nI 0))] dX11_hours_67 (by decide) rfl rfl rfl ?_
      have L69 : ∀ (f i : Nat), (min z 24) - i < f → i ≤ (min z 24) → ∀ (x5 : Int32) (y72 : Nat → Int32), x5 = nI i → y72 = (fb_put (s 72) (fun t => cutM (s 67 2) (doM n Hb He (wlF n m Cl (rfsM rf Rf (-1) 0) c).1 E9 t)) 0 i) → J G "hours" RX11 cX11_hours 6 (some .int) 0 0 4 Q 0 0 69 [(0, .ref (r 0)), (1, .int (nI E9)), (2, .int (nI 2)), (3, .ref (r (11 + 2))), (4, .int (nI (min z 24))), (5, .int x5)] [] (cW G r (su 72 (su 61 (su 40 (su 39 s ((wlF n m Cl (rfsM rf Rf (-1) 0) c).1)) (fun q => nI (rfB rf Rf (-1) 0 q))) (fun _ => nI (wlF n m Cl (rfsM rf Rf (-1) 0) c).2)) y72) l) := by
        intro f
        induction f with
        | zero => intro i h; exact absurd h (Nat.not_lt_zero _)
        | succ f ih69 =>
          intro i hf69 hle69  x5 y72 e5 g72
          subst e5
          subst g72
          refine J_iload dX11_hours_69 rfl ?_
          refine J_iload dX11_hours_71 rfl ?_
          refine J_icmp_geN 98 (by omega) (by omega) dX11_hours_73 (by decide) (fun kcz2 => ?_) (fun kcz2 => ?_)
          · have e98 : i = min z 24 := (by omega)
            subst e98
            refine J_iload dX11_hours_98 rfl ?_
            exact J_iret dX11_hours_100 rfl rfl rfl (hq (su 72 (su 61 (su 40 (su 39 s ((wlF n m Cl (rfsM rf Rf (-1) 0) c).1)) (fun q => nI (rfB rf Rf (-1) 0 q))) (fun _ => nI (wlF n m Cl (rfsM rf Rf (-1) 0) c).2)) (fb_put (s 72) (fun t => cutM (s 67 2) (doM n Hb He (wlF n m Cl (rfsM rf Rf (-1) 0) c).1 E9 t)) 0 (min z 24))) l (nI (min z 24), (su 2 σ (fb_put (σ 2) (fun t => cutM (σ 0 2) (doS σ E9 t)) (60 * 2) (min z 24)))) (by subst en em ec erf esg eHb ehb eHe eaw eCl eRf eSg eVv; simp [oHours, doS, wiS, ezc, kcz1, eE9, hsp, kcz2, rng_of (show 2 < 4 by decide) (by decide), nI_clamp (show 2 < 2 ^ 31 by decide)]) (by subst en em ec erf esg eHb ehb eHe eaw eCl eRf eSg eVv; rw [wl0]; exact ci_hours2 hC ez hz60 u1 u2))
          · refine J_aload_n dX11_hours_76 rfl rfl ?_
            refine J_iload dX11_hours_77 rfl ?_
            refine J_aload_n dX11_hours_79 rfl rfl ?_
            refine Cg_0_0 fr_X11_10_10 dX11_hours_80 ?_
            refine J_iload_n dX11_hours_83 rfl rfl ?_
            refine J_iload dX11_hours_84 rfl ?_
            refine J_cVi (x := yX12_in) [.int (nI E9), .int (nI i)] 1 mv_X11_182 (c_X1_doingOf r (su 72 (su 61 (su 40 (su 39 s ((wlF n m Cl (rfsM rf Rf (-1) 0) c).1)) (fun q => nI (rfB rf Rf (-1) 0 q))) (fun _ => nI (wlF n m Cl (rfsM rf Rf (-1) 0) c).2)) (fb_put (s 72) (fun t => cutM (s 67 2) (doM n Hb He (wlF n m Cl (rfsM rf Rf (-1) 0) c).1 E9 t)) 0 i)) l n hn hn8 Hb hb hR hk m hm hm6 He aw hE ha E9 i (by omega) (by omega)) cW_1 rfl rfl (by decide) (Nat.le_of_ble_eq_true rfl) ⟨Nat.le_refl _, Nat.le_refl _⟩ dX11_hours_86 ?_
            refine J_rw (y := doM n Hb He ((wlF n m Cl (rfsM rf Rf (-1) 0) c).1) E9 i) rfl ?_
            refine J_cVv (x := yX12_in) [.int (nI i), .int (doM n Hb He ((wlF n m Cl (rfsM rf Rf (-1) 0) c).1) E9 i)] (11 + 2) mv_X11_272 (c_X8_put r (su 72 (su 61 (su 40 (su 39 s ((wlF n m Cl (rfsM rf Rf (-1) 0) c).1)) (fun q => nI (rfB rf Rf (-1) 0 q))) (fun _ => nI (wlF n m Cl (rfsM rf Rf (-1) 0) c).2)) (fb_put (s 72) (fun t => cutM (s 67 2) (doM n Hb He (wlF n m Cl (rfsM rf Rf (-1) 0) c).1 E9 t)) 0 i)) l 2 (by decide) z hz hz60 i (by omega) (doM n Hb He ((wlF n m Cl (rfsM rf Rf (-1) 0) c).1) E9 i)) (cW_sh (by omega)) rfl rfl (by decide) (Nat.le_of_ble_eq_true rfl) ⟨Nat.le_refl _, Nat.le_refl _⟩ dX11_hours_89 ?_
            show J G "hours" RX11 cX11_hours 6 (some .int) 0 0 4 Q 0 0 92 [(0, .ref (r 0)), (1, .int (nI E9)), (2, .int (nI 2)), (3, .ref (r (11 + 2))), (4, .int (nI (min z 24))), (5, .int (nI i))] [] (cW G r (su 72 (su 72 (su 61 (su 40 (su 39 s ((wlF n m Cl (rfsM rf Rf (-1) 0) c).1)) (fun q => nI (rfB rf Rf (-1) 0 q))) (fun _ => nI (wlF n m Cl (rfsM rf Rf (-1) 0) c).2)) (fb_put (s 72) (fun t => cutM (s 67 2) (doM n Hb He (wlF n m Cl (rfsM rf Rf (-1) 0) c).1 E9 t)) 0 i)) (upd (fb_put (s 72) (fun t => cutM (s 67 2) (doM n Hb He (wlF n m Cl (rfsM rf Rf (-1) 0) c).1 E9 t)) 0 i) i (cutM (s 67 2) (doM n Hb He ((wlF n m Cl (rfsM rf Rf (-1) 0) c).1) E9 i)))) l)
            refine J_ws (ws2 := (cW G r (su 72 (su 61 (su 40 (su 39 s ((wlF n m Cl (rfsM rf Rf (-1) 0) c).1)) (fun q => nI (rfB rf Rf (-1) 0 q))) (fun _ => nI (wlF n m Cl (rfsM rf Rf (-1) 0) c).2)) (upd (fb_put (s 72) (fun t => cutM (s 67 2) (doM n Hb He (wlF n m Cl (rfsM rf Rf (-1) 0) c).1 E9 t)) 0 i) i (cutM (s 67 2) (doM n Hb He ((wlF n m Cl (rfsM rf Rf (-1) 0) c).1) E9 i)))) l)) (congrArg (fun q_ => cW G r q_ l) su_tw) ?_
            refine J_iincN [(0, .ref (r 0)), (1, .int (nI E9)), (2, .int (nI 2)), (3, .ref (r (11 + 2))), (4, .int (nI (min z 24))), (5, .int (nI (i + 1)))] dX11_hours_92 rfl (by decide) rfl rfl rfl ?_
            refine J_goto 69 dX11_hours_95 (by decide) ?_
            exact ih69 (i + 1) (by omega) (by omega)  _ _ rfl (fb_put_s0 (s 72) (fun t => cutM (s 67 2) (doM n Hb He (wlF n m Cl (rfsM rf Rf (-1) 0) c).1 E9 t)) i)
      exact L69 ((min z 24) + 1) 0 (by omega) (by omega)  _ _ rfl (fb_put_0 _ _ _).symm
theorem c_X11_hours2 {G : GT} (r : Nat → Nat) (s : St) (l : Nat → Int64) (σ : St) (hL : LI σ) (hC : CI σ s) (e : Int32) : Ct G yX11_hours cX11_hours 6 (some .int) 0 0 4 [.ref (r 0), .int e, .int (nI 2)] (cW G r s l) (QC G r (oHours e (nI 2) σ)) := Ct.of rfl (Nat.le_of_ble_eq_true rfl) (j_X11_hours2 r s l σ hL hC e (fun x lx a h1 h2 => ⟨x, lx, by rw [h1], rfl, by rw [← h1]; exact h2⟩))
set_option maxRecDepth 100000 in
set_option maxHeartbeats 1000000 in
theorem j_X11_hours3 {G : GT} (r : Nat → Nat) (s : St) (l : Nat → Int64) (σ : St) (hL : LI σ) (hC : CI σ s) (e : Int32) {Q : Option Value → va_W → Prop} (hq : ∀ (x : St) (lx : Nat → Int64) (a : Int32 × St), a = oHours e (nI 3) σ → CI a.2 x → Q (some (.int a.1)) (cW G r x lx)) : J G "hours" RX11 cX11_hours 6 (some .int) 0 0 4 Q 0 0 0 [(0, .ref (r 0)), (1, .int e), (2, .int (nI 3))] [] (cW G r s l) := by
  obtain ⟨n, en⟩ : ∃ z, z = nH σ := ⟨_, rfl⟩
  obtain ⟨m, em⟩ : ∃ z, z = nE σ := ⟨_, rfl⟩
  obtain ⟨c, ec⟩ : ∃ z, z = nC σ := ⟨_, rfl⟩
  obtain ⟨rf, erf⟩ : ∃ z, z = rfn σ := ⟨_, rfl⟩
  obtain ⟨sg, esg⟩ : ∃ z, z = sgn σ := ⟨_, rfl⟩
  obtain ⟨Hb, eHb⟩ : ∃ z, z = HbS σ := ⟨_, rfl⟩
  obtain ⟨hb, ehb⟩ : ∃ z, z = hbS σ := ⟨_, rfl⟩
  obtain ⟨He, eHe⟩ : ∃ z, z = HeS σ := ⟨_, rfl⟩
  obtain ⟨aw, eaw⟩ : ∃ z, z = awS σ := ⟨_, rfl⟩
  obtain ⟨Cl, eCl⟩ : ∃ z, z = ClS σ := ⟨_, rfl⟩
  obtain ⟨Rf, eRf⟩ : ∃ z, z = σ 13 := ⟨_, rfl⟩
  obtain ⟨Sg, eSg⟩ : ∃ z, z = σ 22 := ⟨_, rfl⟩
  obtain ⟨Vv, eVv⟩ : ∃ z, z = σ 16 := ⟨_, rfl⟩
  have hn8 : n ≤ 8 := by rw [en]; exact nH_le _
  have hm6 : m ≤ 6 := by rw [em]; exact nE_le _
  have hc15 : c ≤ 15 := by rw [ec]; exact nC_le _
  have hrf12 : rf ≤ 12 := by rw [erf]; exact hL.rf.2.1
  have hsg8 : sg ≤ 8 := by rw [esg]; exact hL.sg.2.1
  have hk : HbOk n Hb hb := by rw [en, eHb, ehb]; exact hbOk σ
  have ha : AwOk m He aw := by rw [em, eHe, eaw]; exact awOk σ
  have hn : s 52 0 = nI n := by rw [en]; exact hC.n
  have hm : s 55 0 = nI m := by rw [em]; exact hC.m
  have hc : s 58 0 = nI c := by rw [ec]; exact hC.c
  have hrf : s 60 0 = nI rf := by rw [erf]; exact hC.rf
  have hsg : s 62 0 = nI sg := by rw [esg]; exact hC.sg
  have hR : CHr n Hb hb s := by rw [en, eHb, ehb]; exact hC.hR
  have hE : CEr m He aw s := by rw [em, eHe, eaw]; exact hC.hE
  have hCl : CCr c Cl s := by rw [ec, eCl]; exact hC.hCl
  have hRf : CRr rf Rf s := by rw [erf, eRf]; exact hC.hRf hL
  have hSg : CSr sg Sg s := by rw [esg, eSg]; exact hC.hSg hL
  have hV : ∀ j, j < 42 → s 41 j = Vv j := by rw [eVv]; exact hC.hV
  refine J_aload_n dX11_hours_0 rfl rfl ?_
  refine Cg_0_0 fr_X11_10_10 dX11_hours_1 ?_
  refine Cg_1_0 fr_X11_76_1 dX11_hours_4 ?_
  refine Cg_2_1 fr_X11_107_4 dX11_hours_7 ?_
  refine J_iload_n dX11_hours_10 rfl rfl ?_
  refine J_cUi [.int e] 4 mu_X11_111_3 (c_X5_hasRow1 r s l m hm e) cW_4 rfl rfl (by decide) (Nat.le_of_ble_eq_true rfl) ⟨Nat.le_refl _, Nat.le_refl _⟩ dX11_hours_11 ?_
  refine J_if_eqB 25 dX11_hours_14 (by decide) (fun kcz1 => ?_) (fun kcz1 => ?_)
  · refine J_bipush (v := -2) dX11_hours_25 (by decide) ?_
    exact J_iret dX11_hours_27 rfl rfl rfl (hq s l ((-2), σ) (by subst en em ec erf esg eHb ehb eHe eaw eCl eRf eSg eVv; simp [oHours, fnd, kcz1, rng_of (show 3 < 4 by decide) (by decide), nI_clamp (show 3 < 2 ^ 31 by decide)]) hC)
  · obtain ⟨E9, hE9, rfl⟩ := (rng_iff (by omega)).mp kcz1
    have eE9 : (nI E9).toNatClampNeg = E9 := nI_clamp (by omega)
    refine J_iload_n dX11_hours_17 rfl rfl ?_
    refine J_iconst (v := nI 4) dX11_hours_18 (by decide) ?_
    refine J_cSi [.int (nI 3), .int (nI 4)] ms_X11_48 (c_X11_isBelowN (cW G r s l) (nI 3) 4) rfl rfl (by decide) (Nat.le_of_ble_eq_true rfl) ⟨Nat.le_refl _, Nat.le_refl _⟩ dX11_hours_19 ?_
    refine J_if_neB 28 dX11_hours_22 (by decide) (fun _ => ?_) (fun c => absurd c (by rw [(show rng (nI 3) 4 = true by decide)]; decide))
    rcases hC.2.2.2.2.2.2.1.2.2.2 with ⟨u1, u2⟩ | ⟨u1, u2, u3, u4⟩
    · have hls : decide (s 68 3 = -1) = true := decide_eq_true u1
      have hsp : ¬ 0 ≤ σ 0 3 := by rw [u2]; decide
      refine J_aload_n dX11_hours_28 rfl rfl ?_
      refine Cg_0_4 fr_X11_39_10 dX11_hours_29 ?_
      refine J_iload_n dX11_hours_32 rfl rfl ?_
      refine Cl_10 3 rfl (by omega) dX11_hours_33 ?_
      refine J_astore_n [(0, .ref (r 0)), (1, .int (nI E9)), (2, .int (nI 3)), (3, .ref (r (11 + 3)))] dX11_hours_34 rfl (by decide) rfl rfl rfl ?_
      refine J_aload_n dX11_hours_35 rfl rfl ?_
      refine J_cVi (x := yX12_in) [] (11 + 3) mv_X11_227 (c_X8_isLost r s l 3 (by omega)) (cW_sh (by omega)) rfl rfl (by decide) (Nat.le_of_ble_eq_true rfl) ⟨Nat.le_refl _, Nat.le_refl _⟩ dX11_hours_36 ?_
      refine J_if_eqB 48 dX11_hours_39 (by decide) (fun c => absurd c (by rw [hls]; decide)) (fun _ => ?_)
      refine J_aload_n dX11_hours_42 rfl rfl ?_
      refine J_iconst (v := nI 1) dX11_hours_43 (by decide) ?_
      refine J_cVi (x := yX12_in) [.int (nI 1)] 0 mv_X11_230 (c_X11_found r s l 1) cW_0 rfl rfl (by decide) (Nat.le_of_ble_eq_true rfl) ⟨Nat.le_refl _, Nat.le_refl _⟩ dX11_hours_44 ?_
      show J G "hours" RX11 cX11_hours 6 (some .int) 0 0 4 Q 0 0 47 [(0, .ref (r 0)), (1, .int (nI E9)), (2, .int (nI 3)), (3, .ref (r (11 + 3)))] [.int ((-10) - nI 1)] (cW G r (su 50 s (fun _ => nI 1)) l)
      exact J_iret dX11_hours_47 rfl rfl rfl (hq (su 50 s (fun _ => nI 1)) l ((-10) - nI 1, (su 4 σ (fun _ => nI 1))) (by subst en em ec erf esg eHb ehb eHe eaw eCl eRf eSg eVv; simp [oHours, fnd, kcz1, eE9, hsp, rng_of (show 3 < 4 by decide) (by decide), nI_clamp (show 3 < 2 ^ 31 by decide)]) (ci_fnd hC))
    · obtain ⟨z, hz60, ez⟩ := (hL.sh (j := 3) (by decide)).2
      have hz : s 68 3 = nI z := u3.trans ez
      have hls : decide (s 68 3 = -1) = false := decide_eq_false (by rw [hz]; exact fun q => m1_ne (by omega) q.symm)
      obtain ⟨fo, hfo, efo⟩ := (hL.sh (j := 3) (by decide)).1.resolve_left u2
      have hsp : 0 ≤ σ 0 3 := by rw [efo]; exact nI_nn (by omega)
      have hit : ∀ i, i < z → s 73 i = σ 2 (60 * 3 + i) := u4 z ez.symm hz60
      have ezc : (σ 1 3).toNatClampNeg = z := by rw [ez]; exact nI_clamp (by omega)
      refine J_aload_n dX11_hours_28 rfl rfl ?_
      refine Cg_0_4 fr_X11_39_10 dX11_hours_29 ?_
      refine J_iload_n dX11_hours_32 rfl rfl ?_
      refine Cl_10 3 rfl (by omega) dX11_hours_33 ?_
      refine J_astore_n [(0, .ref (r 0)), (1, .int (nI E9)), (2, .int (nI 3)), (3, .ref (r (11 + 3)))] dX11_hours_34 rfl (by decide) rfl rfl rfl ?_
      refine J_aload_n dX11_hours_35 rfl rfl ?_
      refine J_cVi (x := yX12_in) [] (11 + 3) mv_X11_227 (c_X8_isLost r s l 3 (by omega)) (cW_sh (by omega)) rfl rfl (by decide) (Nat.le_of_ble_eq_true rfl) ⟨Nat.le_refl _, Nat.le_refl _⟩ dX11_hours_36 ?_
      refine J_if_eqB 48 dX11_hours_39 (by decide) (fun _ => ?_) (fun c => absurd c (by rw [hls]; decide))
      refine J_aload_n dX11_hours_48 rfl rfl ?_
      refine Cg_0_0 fr_X11_10_10 dX11_hours_49 ?_
      refine J_cVv (x := yX12_in) [] 1 mv_X11_162 (c_X1_settle r s l n hn hn8 m hm hm6 c hc hc15 Cl hCl rf hrf hrf12 Rf hRf) cW_1 rfl rfl (by decide) (Nat.le_of_ble_eq_true rfl) ⟨Nat.le_refl _, Nat.le_refl _⟩ dX11_hours_52 ?_
      show J G "hours" RX11 cX11_hours 6 (some .int) 0 0 4 Q 0 0 55 [(0, .ref (r 0)), (1, .int (nI E9)), (2, .int (nI 3)), (3, .ref (r (11 + 3)))] [] (cW G r (su 61 (su 40 (su 39 s ((wlF n m Cl (rfsM rf Rf (-1) 0) c).1)) (fun q => nI (rfB rf Rf (-1) 0 q))) (fun _ => nI (wlF n m Cl (rfsM rf Rf (-1) 0) c).2)) l)
      refine J_aload_n dX11_hours_55 rfl rfl ?_
      refine Cg_sh_2 (s := (su 61 (su 40 (su 39 s ((wlF n m Cl (rfsM rf Rf (-1) 0) c).1)) (fun q => nI (rfB rf Rf (-1) 0 q))) (fun _ => nI (wlF n m Cl (rfsM rf Rf (-1) 0) c).2))) (by omega) fr_X11_268_7 (s 68 3) rfl dX11_hours_56 ?_
      refine J_rw (y := nI z) hz ?_
      refine J_bipush (v := nI 24) dX11_hours_59 (by decide) ?_
      refine J_mmin ms_X11_294 (by omega) (by omega) (by omega) (by decide) ⟨Nat.le_refl _, Nat.le_refl _⟩ dX11_hours_61 ?_
      refine J_istore [(0, .ref (r 0)), (1, .int (nI E9)), (2, .int (nI 3)), (3, .ref (r (11 + 3))), (4, .int (nI (min z 24)))] dX11_hours_64 (by decide) rfl rfl rfl ?_
      refine J_iconst (v := nI 0) dX11_hours_66 (by decide) ?_
      refine J_istore [(0, .ref (r 0)), (1, .int (nI E9)), (2, .int (nI 3)), (3, .ref (r (11 + 3))), (4, .int (nI (min z 24))), (5, .int (nI 0))] dX11_hours_67 (by decide) rfl rfl rfl ?_
      have L69 : ∀ (f i : Nat), (min z 24) - i < f → i ≤ (min z 24) → ∀ (x5 : Int32) (y73 : Nat → Int32), x5 = nI i → y73 = (fb_put (s 73) (fun t => cutM (s 67 3) (doM n Hb He (wlF n m Cl (rfsM rf Rf (-1) 0) c).1 E9 t)) 0 i) → J G "hours" RX11 cX11_hours 6 (some .int) 0 0 4 Q 0 0 69 [(0, .ref (r 0)), (1, .int (nI E9)), (2, .int (nI 3)), (3, .ref (r (11 + 3))), (4, .int (nI (min z 24))), (5, .int x5)] [] (cW G r (su 73 (su 61 (su 40 (su 39 s ((wlF n m Cl (rfsM rf Rf (-1) 0) c).1)) (fun q => nI (rfB rf Rf (-1) 0 q))) (fun _ => nI (wlF n m Cl (rfsM rf Rf (-1) 0) c).2)) y73) l) := by
        intro f
        induction f with
        | zero => intro i h; exact absurd h (Nat.not_lt_zero _)
        | succ f ih69 =>
          intro i hf69 hle69  x5 y73 e5 g73
          subst e5
          subst g73
          refine J_iload dX11_hours_69 rfl ?_
          refine J_iload dX11_hours_71 rfl ?_
          refine J_icmp_geN 98 (by omega) (by omega) dX11_hours_73 (by decide) (fun kcz2 => ?_) (fun kcz2 => ?_)
          · have e98 : i = min z 24 := (by omega)
            subst e98
            refine J_iload dX11_hours_98 rfl ?_
            exact J_iret dX11_hours_100 rfl rfl rfl (hq (su 73 (su 61 (su 40 (su 39 s ((wlF n m Cl (rfsM rf Rf (-1) 0) c).1)) (fun q => nI (rfB rf Rf (-1) 0 q))) (fun _ => nI (wlF n m Cl (rfsM rf Rf (-1) 0) c).2)) (fb_put (s 73) (fun t => cutM (s 67 3) (doM n Hb He (wlF n m Cl (rfsM rf Rf (-1) 0) c).1 E9 t)) 0 (min z 24))) l (nI (min z 24), (su 2 σ (fb_put (σ 2) (fun t => cutM (σ 0 3) (doS σ E9 t)) (60 * 3) (min z 24)))) (by subst en em ec erf esg eHb ehb eHe eaw eCl eRf eSg eVv; simp [oHours, doS, wiS, ezc, kcz1, eE9, hsp, kcz2, rng_of (show 3 < 4 by decide) (by decide), nI_clamp (show 3 < 2 ^ 31 by decide)]) (by subst en em ec erf esg eHb ehb eHe eaw eCl eRf eSg eVv; rw [wl0]; exact ci_hours3 hC ez hz60 u1 u2))
          · refine J_aload_n dX11_hours_76 rfl rfl ?_
            refine J_iload dX11_hours_77 rfl ?_
            refine J_aload_n dX11_hours_79 rfl rfl ?_
            refine Cg_0_0 fr_X11_10_10 dX11_hours_80 ?_
            refine J_iload_n dX11_hours_83 rfl rfl ?_
            refine J_iload dX11_hours_84 rfl ?_
            refine J_cVi (x := yX12_in) [.int (nI E9), .int (nI i)] 1 mv_X11_182 (c_X1_doingOf r (su 73 (su 61 (su 40 (su 39 s ((wlF n m Cl (rfsM rf Rf (-1) 0) c).1)) (fun q => nI (rfB rf Rf (-1) 0 q))) (fun _ => nI (wlF n m Cl (rfsM rf Rf (-1) 0) c).2)) (fb_put (s 73) (fun t => cutM (s 67 3) (doM n Hb He (wlF n m Cl (rfsM rf Rf (-1) 0) c).1 E9 t)) 0 i)) l n hn hn8 Hb hb hR hk m hm hm6 He aw hE ha E9 i (by omega) (by omega)) cW_1 rfl rfl (by decide) (Nat.le_of_ble_eq_true rfl) ⟨Nat.le_refl _, Nat.le_refl _⟩ dX11_hours_86 ?_
            refine J_rw (y := doM n Hb He ((wlF n m Cl (rfsM rf Rf (-1) 0) c).1) E9 i) rfl ?_
            refine J_cVv (x := yX12_in) [.int (nI i), .int (doM n Hb He ((wlF n m Cl (rfsM rf Rf (-1) 0) c).1) E9 i)] (11 + 3) mv_X11_272 (c_X8_put r (su 73 (su 61 (su 40 (su 39 s ((wlF n m Cl (rfsM rf Rf (-1) 0) c).1)) (fun q => nI (rfB rf Rf (-1) 0 q))) (fun _ => nI (wlF n m Cl (rfsM rf Rf (-1) 0) c).2)) (fb_put (s 73) (fun t => cutM (s 67 3) (doM n Hb He (wlF n m Cl (rfsM rf Rf (-1) 0) c).1 E9 t)) 0 i)) l 3 (by decide) z hz hz60 i (by omega) (doM n Hb He ((wlF n m Cl (rfsM rf Rf (-1) 0) c).1) E9 i)) (cW_sh (by omega)) rfl rfl (by decide) (Nat.le_of_ble_eq_true rfl) ⟨Nat.le_refl _, Nat.le_refl _⟩ dX11_hours_89 ?_
            show J G "hours" RX11 cX11_hours 6 (some .int) 0 0 4 Q 0 0 92 [(0, .ref (r 0)), (1, .int (nI E9)), (2, .int (nI 3)), (3, .ref (r (11 + 3))), (4, .int (nI (min z 24))), (5, .int (nI i))] [] (cW G r (su 73 (su 73 (su 61 (su 40 (su 39 s ((wlF n m Cl (rfsM rf Rf (-1) 0) c).1)) (fun q => nI (rfB rf Rf (-1) 0 q))) (fun _ => nI (wlF n m Cl (rfsM rf Rf (-1) 0) c).2)) (fb_put (s 73) (fun t => cutM (s 67 3) (doM n Hb He (wlF n m Cl (rfsM rf Rf (-1) 0) c).1 E9 t)) 0 i)) (upd (fb_put (s 73) (fun t => cutM (s 67 3) (doM n Hb He (wlF n m Cl (rfsM rf Rf (-1) 0) c).1 E9 t)) 0 i) i (cutM (s 67 3) (doM n Hb He ((wlF n m Cl (rfsM rf Rf (-1) 0) c).1) E9 i)))) l)
            refine J_ws (ws2 := (cW G r (su 73 (su 61 (su 40 (su 39 s ((wlF n m Cl (rfsM rf Rf (-1) 0) c).1)) (fun q => nI (rfB rf Rf (-1) 0 q))) (fun _ => nI (wlF n m Cl (rfsM rf Rf (-1) 0) c).2)) (upd (fb_put (s 73) (fun t => cutM (s 67 3) (doM n Hb He (wlF n m Cl (rfsM rf Rf (-1) 0) c).1 E9 t)) 0 i) i (cutM (s 67 3) (doM n Hb He ((wlF n m Cl (rfsM rf Rf (-1) 0) c).1) E9 i)))) l)) (congrArg (fun q_ => cW G r q_ l) su_tw) ?_
            refine J_iincN [(0, .ref (r 0)), (1, .int (nI E9)), (2, .int (nI 3)), (3, .ref (r (11 + 3))), (4, .int (nI (min z 24))), (5, .int (nI (i + 1)))] dX11_hours_92 rfl (by decide) rfl rfl rfl ?_
            refine J_goto 69 dX11_hours_95 (by decide) ?_
            exact ih69 (i + 1) (by omega) (by omega)  _ _ rfl (fb_put_s0 (s 73) (fun t => cutM (s 67 3) (doM n Hb He (wlF n m Cl (rfsM rf Rf (-1) 0) c).1 E9 t)) i)
      exact L69 ((min z 24) + 1) 0 (by omega) (by omega)  _ _ rfl (fb_put_0 _ _ _).symm
theorem c_X11_hours3 {G : GT} (r : Nat → Nat) (s : St) (l : Nat → Int64) (σ : St) (hL : LI σ) (hC : CI σ s) (e : Int32) : Ct G yX11_hours cX11_hours 6 (some .int) 0 0 4 [.ref (r 0), .int e, .int (nI 3)] (cW G r s l) (QC G r (oHours e (nI 3) σ)) := Ct.of rfl (Nat.le_of_ble_eq_true rfl) (j_X11_hours3 r s l σ hL hC e (fun x lx a h1 h2 => ⟨x, lx, by rw [h1], rfl, by rw [← h1]; exact h2⟩))
set_option maxRecDepth 100000 in
set_option maxHeartbeats 1000000 in
theorem j_X11_hours_bad {G : GT} (r : Nat → Nat) (s : St) (l : Nat → Int64) (σ : St) (hL : LI σ) (hC : CI σ s) (e v : Int32) (hno : rng v 4 = false) {Q : Option Value → va_W → Prop} (hq : ∀ (x : St) (lx : Nat → Int64) (a : Int32 × St), a = oHours e v σ → CI a.2 x → Q (some (.int a.1)) (cW G r x lx)) : J G "hours" RX11 cX11_hours 6 (some .int) 0 0 4 Q 0 0 0 [(0, .ref (r 0)), (1, .int e), (2, .int v)] [] (cW G r s l) := by
  obtain ⟨n, en⟩ : ∃ z, z = nH σ := ⟨_, rfl⟩
  obtain ⟨m, em⟩ : ∃ z, z = nE σ := ⟨_, rfl⟩
  obtain ⟨c, ec⟩ : ∃ z, z = nC σ := ⟨_, rfl⟩
  obtain ⟨rf, erf⟩ : ∃ z, z = rfn σ := ⟨_, rfl⟩
  obtain ⟨sg, esg⟩ : ∃ z, z = sgn σ := ⟨_, rfl⟩
  obtain ⟨Hb, eHb⟩ : ∃ z, z = HbS σ := ⟨_, rfl⟩
  obtain ⟨hb, ehb⟩ : ∃ z, z = hbS σ := ⟨_, rfl⟩
  obtain ⟨He, eHe⟩ : ∃ z, z = HeS σ := ⟨_, rfl⟩
  obtain ⟨aw, eaw⟩ : ∃ z, z = awS σ := ⟨_, rfl⟩
  obtain ⟨Cl, eCl⟩ : ∃ z, z = ClS σ := ⟨_, rfl⟩
  obtain ⟨Rf, eRf⟩ : ∃ z, z = σ 13 := ⟨_, rfl⟩
  obtain ⟨Sg, eSg⟩ : ∃ z, z = σ 22 := ⟨_, rfl⟩
  obtain ⟨Vv, eVv⟩ : ∃ z, z = σ 16 := ⟨_, rfl⟩
  have hn8 : n ≤ 8 := by rw [en]; exact nH_le _
  have hm6 : m ≤ 6 := by rw [em]; exact nE_le _
  have hc15 : c ≤ 15 := by rw [ec]; exact nC_le _
  have hrf12 : rf ≤ 12 := by rw [erf]; exact hL.rf.2.1
  have hsg8 : sg ≤ 8 := by rw [esg]; exact hL.sg.2.1
  have hk : HbOk n Hb hb := by rw [en, eHb, ehb]; exact hbOk σ
  have ha : AwOk m He aw := by rw [em, eHe, eaw]; exact awOk σ
  have hn : s 52 0 = nI n := by rw [en]; exact hC.n
  have hm : s 55 0 = nI m := by rw [em]; exact hC.m
  have hc : s 58 0 = nI c := by rw [ec]; exact hC.c
  have hrf : s 60 0 = nI rf := by rw [erf]; exact hC.rf
  have hsg : s 62 0 = nI sg := by rw [esg]; exact hC.sg
  have hR : CHr n Hb hb s := by rw [en, eHb, ehb]; exact hC.hR
  have hE : CEr m He aw s := by rw [em, eHe, eaw]; exact hC.hE
  have hCl : CCr c Cl s := by rw [ec, eCl]; exact hC.hCl
  have hRf : CRr rf Rf s := by rw [erf, eRf]; exact hC.hRf hL
  have hSg : CSr sg Sg s := by rw [esg, eSg]; exact hC.hSg hL
  have hV : ∀ j, j < 42 → s 41 j = Vv j := by rw [eVv]; exact hC.hV
  refine J_aload_n dX11_hours_0 rfl rfl ?_
  refine Cg_0_0 fr_X11_10_10 dX11_hours_1 ?_
  refine Cg_1_0 fr_X11_76_1 dX11_hours_4 ?_
  refine Cg_2_1 fr_X11_107_4 dX11_hours_7 ?_
  refine J_iload_n dX11_hours_10 rfl rfl ?_
  refine J_cUi [.int e] 4 mu_X11_111_3 (c_X5_hasRow1 r s l m hm e) cW_4 rfl rfl (by decide) (Nat.le_of_ble_eq_true rfl) ⟨Nat.le_refl _, Nat.le_refl _⟩ dX11_hours_11 ?_
  refine J_if_eqB 25 dX11_hours_14 (by decide) (fun kcz1 => ?_) (fun kcz1 => ?_)
  · refine J_bipush (v := -2) dX11_hours_25 (by decide) ?_
    exact J_iret dX11_hours_27 rfl rfl rfl (hq s l ((-2), σ) (by subst en em ec erf esg eHb ehb eHe eaw eCl eRf eSg eVv; simp [oHours, kcz1, hno]) (show CI σ s from hC))
  · refine J_iload_n dX11_hours_17 rfl rfl ?_
    refine J_iconst (v := nI 4) dX11_hours_18 (by decide) ?_
    refine J_cSi [.int v, .int (nI 4)] ms_X11_48 (c_X11_isBelowN (cW G r s l) v 4) rfl rfl (by decide) (Nat.le_of_ble_eq_true rfl) ⟨Nat.le_refl _, Nat.le_refl _⟩ dX11_hours_19 ?_
    refine J_if_neB 28 dX11_hours_22 (by decide) (fun c => absurd c (by rw [hno]; decide)) (fun _ => ?_)
    refine J_bipush (v := -2) dX11_hours_25 (by decide) ?_
    exact J_iret dX11_hours_27 rfl rfl rfl (hq s l ((-2), σ) (by subst en em ec erf esg eHb ehb eHe eaw eCl eRf eSg eVv; simp [oHours, kcz1, hno]) (show CI σ s from hC))
theorem c_X11_hours_bad {G : GT} (r : Nat → Nat) (s : St) (l : Nat → Int64) (σ : St) (hL : LI σ) (hC : CI σ s) (e v : Int32) (hno : rng v 4 = false) : Ct G yX11_hours cX11_hours 6 (some .int) 0 0 4 [.ref (r 0), .int e, .int v] (cW G r s l) (QC G r (oHours e v σ)) := Ct.of rfl (Nat.le_of_ble_eq_true rfl) (j_X11_hours_bad r s l σ hL hC e v hno (fun x lx a h1 h2 => ⟨x, lx, by rw [h1], rfl, by rw [← h1]; exact h2⟩))
theorem c_X11_hours {G : GT} (r : Nat → Nat) (s : St) (l : Nat → Int64) (σ : St) (hL : LI σ) (hC : CI σ s) (e v : Int32) : Ct G yX11_hours cX11_hours 6 (some .int) 0 0 4 [.ref (r 0), .int e, .int v] (cW G r s l) (QC G r (oHours e v σ)) := by
  rcases rng_cases v (n := 4) (by decide) with h | ⟨j, hj, rfl⟩
  · exact c_X11_hours_bad r s l σ hL hC e v h
  · rcases (show j = 0 ∨ j = 1 ∨ j = 2 ∨ j = 3 by omega) with rfl | rfl | rfl | rfl
    · exact c_X11_hours0 r s l σ hL hC e
    · exact c_X11_hours1 r s l σ hL hC e
    · exact c_X11_hours2 r s l σ hL hC e
    · exact c_X11_hours3 r s l σ hL hC e
