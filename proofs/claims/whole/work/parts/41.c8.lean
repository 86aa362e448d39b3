theorem rd_cg0 {B B' : Nat → Int32} {len : Nat} (h : bA B' 0 len = bA B 0 len) : rdT B' 0 len = rdT B 0 len ∧ ∀ j k, fH B' len j k = fH B len j k := by
  have e1 : rW0 B' len = rW0 B len := by funext p; unfold rW0 fbd; rw [h]
  have e2 : rE0 B' len = rE0 B len := by funext p; unfold rE0 fbd; rw [h]
  have e3 : sepA B' 0 len = sepA B 0 len := by funext q; unfold sepA; rw [h]
  refine ⟨?_, fun j k => ?_⟩
  · unfold rdT
    show (if len = 0 then (0, -1) else scn (rW0 B' len) (rE0 B' len) (sepA B' 0 len) len 8 60 0 0) = (if len = 0 then (0, -1) else scn (rW0 B len) (rE0 B len) (sepA B 0 len) len 8 60 0 0)
    rw [e1, e2, e3]
  · have e4 : psT B' 0 len j = psT B 0 len j := by show psq (rE0 B' len) j = psq (rE0 B len) j; rw [e2]
    unfold fH; rw [h, e4]
theorem rd_cg1 {B B' : Nat → Int32} {len : Nat} (h : bA B' 1 len = bA B 1 len) : rdT B' 1 len = rdT B 1 len ∧ ∀ j k, fE B' len j k = fE B len j k := by
  have e1 : rW1 B' len = rW1 B len := by funext p; unfold rW1 fbd; rw [h]
  have e2 : rE1 B' len = rE1 B len := by funext p; unfold rE1 fbd; rw [h]
  have e3 : sepA B' 1 len = sepA B 1 len := by funext q; unfold sepA; rw [h]
  refine ⟨?_, fun j k => ?_⟩
  · unfold rdT
    show (if len = 0 then (0, -1) else scn (rW1 B' len) (rE1 B' len) (sepA B' 1 len) len 6 60 0 0) = (if len = 0 then (0, -1) else scn (rW1 B len) (rE1 B len) (sepA B 1 len) len 6 60 0 0)
    rw [e1, e2, e3]
  · have e4 : psT B' 1 len j = psT B 1 len j := by show psq (rE1 B' len) j = psq (rE1 B len) j; rw [e2]
    unfold fE; rw [h, e4]
theorem rd_cg2 {B B' : Nat → Int32} {len : Nat} (h : bA B' 2 len = bA B 2 len) : rdT B' 2 len = rdT B 2 len ∧ ∀ j k, fC B' len j k = fC B len j k := by
  have e1 : rW2 B' len = rW2 B len := by funext p; unfold rW2 fbd; rw [h]
  have e2 : rE2 B' len = rE2 B len := by funext p; unfold rE2 fbd; rw [h]
  have e3 : sepA B' 2 len = sepA B 2 len := by funext q; unfold sepA; rw [h]
  refine ⟨?_, fun j k => ?_⟩
  · unfold rdT
    show (if len = 0 then (0, -1) else scn (rW2 B' len) (rE2 B' len) (sepA B' 2 len) len 15 60 0 0) = (if len = 0 then (0, -1) else scn (rW2 B len) (rE2 B len) (sepA B 2 len) len 15 60 0 0)
    rw [e1, e2, e3]
  · have e4 : psT B' 2 len j = psT B 2 len j := by show psq (rE2 B' len) j = psq (rE2 B len) j; rw [e2]
    unfold fC; rw [h, e4]
theorem bA_upd {B : Nat → Int32} {t len x : Nat} {v : Int32} (h : x < 60 * t ∨ 60 * t + len ≤ x) : bA (upd B x v) t len = bA B t len := by
  funext p
  unfold bA
  split
  · exact up_ne (by omega)
  · rfl
theorem tl_up {σ : St} {t n : Nat} (hn : n < 2 ^ 31) : tl (su 6 σ (upd (σ 6) t (nI n))) t = n := by
  show (upd (σ 6) t (nI n) t).toNatClampNeg = n
  rw [pk_us, nI_clamp hn]
theorem txH_keep {σ σ' s s' : St} (h : TxH σ s) (ht : tl σ' 0 = tl σ 0) (hb : bA (σ' 5) 0 (tl σ 0) = bA (σ 5) 0 (tl σ 0)) (h5 : ∀ p, p < tl σ 0 → σ' 5 (60 * 0 + p) = σ 5 (60 * 0 + p)) (hs : ∀ k, k = 20 ∨ k = 21 ∨ k = 22 ∨ k = 23 ∨ k = 24 ∨ k = 25 ∨ k = 26 ∨ k = 51 ∨ k = 52 ∨ k = 53 → s' k = s k) : TxH σ' s' := by
  obtain ⟨e1, e2⟩ := rd_cg0 hb
  unfold TxH nH RwH
  rw [ht, e1, hs 20 (by omega), hs 21 (by omega), hs 22 (by omega), hs 23 (by omega), hs 24 (by omega), hs 25 (by omega), hs 26 (by omega), hs 51 (by omega), hs 52 (by omega), hs 53 (by omega)]
  refine ⟨h.1, fun p hp => by rw [h5 p hp]; exact h.2.1 p hp, h.2.2.1, h.2.2.2.1, fun j hj => ?_⟩
  rw [e2, e2, e2, e2, e2]; exact h.2.2.2.2 j hj
theorem txE_keep {σ σ' s s' : St} (h : TxE σ s) (ht : tl σ' 1 = tl σ 1) (hb : bA (σ' 5) 1 (tl σ 1) = bA (σ 5) 1 (tl σ 1)) (h5 : ∀ p, p < tl σ 1 → σ' 5 (60 * 1 + p) = σ 5 (60 * 1 + p)) (hs : ∀ k, k = 27 ∨ k = 28 ∨ k = 29 ∨ k = 30 ∨ k = 31 ∨ k = 54 ∨ k = 55 ∨ k = 56 → s' k = s k) : TxE σ' s' := by
  obtain ⟨e1, e2⟩ := rd_cg1 hb
  unfold TxE nE RwE
  rw [ht, e1, hs 27 (by omega), hs 28 (by omega), hs 29 (by omega), hs 30 (by omega), hs 31 (by omega), hs 54 (by omega), hs 55 (by omega), hs 56 (by omega)]
  refine ⟨h.1, fun p hp => by rw [h5 p hp]; exact h.2.1 p hp, h.2.2.1, h.2.2.2.1, fun j hj => ?_⟩
  rw [e2, e2, e2]; exact h.2.2.2.2 j hj
theorem txC_keep {σ σ' s s' : St} (h : TxC σ s) (ht : tl σ' 2 = tl σ 2) (hb : bA (σ' 5) 2 (tl σ 2) = bA (σ 5) 2 (tl σ 2)) (h5 : ∀ p, p < tl σ 2 → σ' 5 (60 * 2 + p) = σ 5 (60 * 2 + p)) (hs : ∀ k, k = 32 ∨ k = 33 ∨ k = 34 ∨ k = 35 ∨ k = 36 ∨ k = 57 ∨ k = 58 ∨ k = 59 → s' k = s k) : TxC σ' s' := by
  obtain ⟨e1, e2⟩ := rd_cg2 hb
  unfold TxC nC RwC
  rw [ht, e1, hs 32 (by omega), hs 33 (by omega), hs 34 (by omega), hs 35 (by omega), hs 36 (by omega), hs 57 (by omega), hs 58 (by omega), hs 59 (by omega)]
  refine ⟨h.1, fun p hp => by rw [h5 p hp]; exact h.2.1 p hp, h.2.2.1, h.2.2.2.1, fun j hj => ?_⟩
  rw [e2, e2, e2, e2]; exact h.2.2.2.2 j hj
theorem ci_type0 {σ s : St} (h : CI σ s) (hL : LI σ) {v : Int32} {z21 z22 z23 z24 z25 z26 : Nat → Int32} (hr : ∀ j, j < (rdT (upd (σ 5) (60 * 0 + tl σ 0) v) 0 (tl σ 0 + 1)).1 → RwH (upd (σ 5) (60 * 0 + tl σ 0) v) (tl σ 0 + 1) z21 z22 z23 z24 z25 z26 j) : CI (su 6 (su 5 σ (upd (σ 5) (60 * 0 + tl σ 0) v)) (upd (σ 6) 0 (nI (tl σ 0 + 1)))) (su 66 (su 53 (su 52 (su 51 (su 26 (su 25 (su 24 (su 23 (su 22 (su 21 (su 20 s (upd (s 20) (tl σ 0) v)) z21) z22) z23) z24) z25) z26) (fun _ => nI (tl σ 0 + 1))) (fun _ => nI (rdT (upd (σ 5) (60 * 0 + tl σ 0) v) 0 (tl σ 0 + 1)).1)) (fun _ => (rdT (upd (σ 5) (60 * 0 + tl σ 0) v) 0 (tl σ 0 + 1)).2)) (fun _ => nI 0)) := by
  have et : tl (su 6 (su 5 σ (upd (σ 5) (60 * 0 + tl σ 0) v)) (upd (σ 6) 0 (nI (tl σ 0 + 1)))) 0 = tl σ 0 + 1 := tl_up (σ := su 5 σ (upd (σ 5) (60 * 0 + tl σ 0) v)) (by have h0 := hL.t0.2; have h1 := hL.t1.2; have h2 := hL.t2.2; omega)
  refine ⟨?_, txE_keep (σ := σ) (s := s) h.2.1 rfl (bA_upd (by have h0 := hL.t0.2; have h1 := hL.t1.2; have h2 := hL.t2.2; omega)) (fun p hp => up_ne (by have h0 := hL.t0.2; have h1 := hL.t1.2; have h2 := hL.t2.2; omega)) (fun k hk => by rcases hk with rfl | rfl | rfl | rfl | rfl | rfl | rfl | rfl <;> rfl), txC_keep (σ := σ) (s := s) h.2.2.1 rfl (bA_upd (by have h0 := hL.t0.2; have h1 := hL.t1.2; have h2 := hL.t2.2; omega)) (fun p hp => up_ne (by have h0 := hL.t0.2; have h1 := hL.t1.2; have h2 := hL.t2.2; omega)) (fun k hk => by rcases hk with rfl | rfl | rfl | rfl | rfl | rfl | rfl | rfl <;> rfl), h.2.2.2.1, h.2.2.2.2.1, h.2.2.2.2.2.1, h.2.2.2.2.2.2.1, h.lt, Or.inl rfl⟩
  unfold TxH nH
  rw [et]
  exact ⟨rfl, app_B h.1.2.1, rfl, rfl, hr⟩
theorem ci_cut0 {σ s : St} (h : CI σ s) {nl : Nat} (hn : nl < 2 ^ 31) {z21 z22 z23 z24 z25 z26 : Nat → Int32} (hr : ∀ j, j < (rdT (σ 5) 0 nl).1 → RwH (σ 5) nl z21 z22 z23 z24 z25 z26 j) (hle : nl ≤ tl σ 0 := by omega) : CI (su 6 σ (upd (σ 6) 0 (nI nl))) (su 66 (su 53 (su 52 (su 51 (su 26 (su 25 (su 24 (su 23 (su 22 (su 21 s z21) z22) z23) z24) z25) z26) (fun _ => nI nl)) (fun _ => nI (rdT (σ 5) 0 nl).1)) (fun _ => (rdT (σ 5) 0 nl).2)) (fun _ => nI 0)) := by
  have et : tl (su 6 σ (upd (σ 6) 0 (nI nl))) 0 = nl := tl_up hn
  refine ⟨?_, h.2.1, h.2.2.1, h.2.2.2.1, h.2.2.2.2.1, h.2.2.2.2.2.1, h.2.2.2.2.2.2.1, h.lt, Or.inl rfl⟩
  unfold TxH nH
  rw [et]
  exact ⟨rfl, fun p hp => h.1.2.1 p (by omega), rfl, rfl, hr⟩
theorem ci_type1 {σ s : St} (h : CI σ s) (hL : LI σ) {v : Int32} {z28 z29 z30 z31 : Nat → Int32} (hr : ∀ j, j < (rdT (upd (σ 5) (60 * 1 + tl σ 1) v) 1 (tl σ 1 + 1)).1 → RwE (upd (σ 5) (60 * 1 + tl σ 1) v) (tl σ 1 + 1) z28 z29 z30 z31 j) : CI (su 6 (su 5 σ (upd (σ 5) (60 * 1 + tl σ 1) v)) (upd (σ 6) 1 (nI (tl σ 1 + 1)))) (su 66 (su 56 (su 55 (su 54 (su 31 (su 30 (su 29 (su 28 (su 27 s (upd (s 27) (tl σ 1) v)) z28) z29) z30) z31) (fun _ => nI (tl σ 1 + 1))) (fun _ => nI (rdT (upd (σ 5) (60 * 1 + tl σ 1) v) 1 (tl σ 1 + 1)).1)) (fun _ => (rdT (upd (σ 5) (60 * 1 + tl σ 1) v) 1 (tl σ 1 + 1)).2)) (fun _ => nI 0)) := by
  have et : tl (su 6 (su 5 σ (upd (σ 5) (60 * 1 + tl σ 1) v)) (upd (σ 6) 1 (nI (tl σ 1 + 1)))) 1 = tl σ 1 + 1 := tl_up (σ := su 5 σ (upd (σ 5) (60 * 1 + tl σ 1) v)) (by have h0 := hL.t0.2; have h1 := hL.t1.2; have h2 := hL.t2.2; omega)
  refine ⟨txH_keep (σ := σ) (s := s) h.1 rfl (bA_upd (by have h0 := hL.t0.2; have h1 := hL.t1.2; have h2 := hL.t2.2; omega)) (fun p hp => up_ne (by have h0 := hL.t0.2; have h1 := hL.t1.2; have h2 := hL.t2.2; omega)) (fun k hk => by rcases hk with rfl | rfl | rfl | rfl | rfl | rfl | rfl | rfl | rfl | rfl <;> rfl), ?_, txC_keep (σ := σ) (s := s) h.2.2.1 rfl (bA_upd (by have h0 := hL.t0.2; have h1 := hL.t1.2; have h2 := hL.t2.2; omega)) (fun p hp => up_ne (by have h0 := hL.t0.2; have h1 := hL.t1.2; have h2 := hL.t2.2; omega)) (fun k hk => by rcases hk with rfl | rfl | rfl | rfl | rfl | rfl | rfl | rfl <;> rfl), h.2.2.2.1, h.2.2.2.2.1, h.2.2.2.2.2.1, h.2.2.2.2.2.2.1, h.lt, Or.inl rfl⟩
  unfold TxE nE
  rw [et]
  exact ⟨rfl, app_B h.2.1.2.1, rfl, rfl, hr⟩
theorem ci_cut1 {σ s : St} (h : CI σ s) {nl : Nat} (hn : nl < 2 ^ 31) {z28 z29 z30 z31 : Nat → Int32} (hr : ∀ j, j < (rdT (σ 5) 1 nl).1 → RwE (σ 5) nl z28 z29 z30 z31 j) (hle : nl ≤ tl σ 1 := by omega) : CI (su 6 σ (upd (σ 6) 1 (nI nl))) (su 66 (su 56 (su 55 (su 54 (su 31 (su 30 (su 29 (su 28 s z28) z29) z30) z31) (fun _ => nI nl)) (fun _ => nI (rdT (σ 5) 1 nl).1)) (fun _ => (rdT (σ 5) 1 nl).2)) (fun _ => nI 0)) := by
  have et : tl (su 6 σ (upd (σ 6) 1 (nI nl))) 1 = nl := tl_up hn
  refine ⟨h.1, ?_, h.2.2.1, h.2.2.2.1, h.2.2.2.2.1, h.2.2.2.2.2.1, h.2.2.2.2.2.2.1, h.lt, Or.inl rfl⟩
  unfold TxE nE
  rw [et]
  exact ⟨rfl, fun p hp => h.2.1.2.1 p (by omega), rfl, rfl, hr⟩
theorem ci_type2 {σ s : St} (h : CI σ s) (hL : LI σ) {v : Int32} {z33 z34 z35 z36 : Nat → Int32} (hr : ∀ j, j < (rdT (upd (σ 5) (60 * 2 + tl σ 2) v) 2 (tl σ 2 + 1)).1 → RwC (upd (σ 5) (60 * 2 + tl σ 2) v) (tl σ 2 + 1) z33 z34 z35 z36 j) : CI (su 6 (su 5 σ (upd (σ 5) (60 * 2 + tl σ 2) v)) (upd (σ 6) 2 (nI (tl σ 2 + 1)))) (su 66 (su 59 (su 58 (su 57 (su 36 (su 35 (su 34 (su 33 (su 32 s (upd (s 32) (tl σ 2) v)) z33) z34) z35) z36) (fun _ => nI (tl σ 2 + 1))) (fun _ => nI (rdT (upd (σ 5) (60 * 2 + tl σ 2) v) 2 (tl σ 2 + 1)).1)) (fun _ => (rdT (upd (σ 5) (60 * 2 + tl σ 2) v) 2 (tl σ 2 + 1)).2)) (fun _ => nI 0)) := by
  have et : tl (su 6 (su 5 σ (upd (σ 5) (60 * 2 + tl σ 2) v)) (upd (σ 6) 2 (nI (tl σ 2 + 1)))) 2 = tl σ 2 + 1 := tl_up (σ := su 5 σ (upd (σ 5) (60 * 2 + tl σ 2) v)) (by have h0 := hL.t0.2; have h1 := hL.t1.2; have h2 := hL.t2.2; omega)
  refine ⟨txH_keep (σ := σ) (s := s) h.1 rfl (bA_upd (by have h0 := hL.t0.2; have h1 := hL.t1.2; have h2 := hL.t2.2; omega)) (fun p hp => up_ne (by have h0 := hL.t0.2; have h1 := hL.t1.2; have h2 := hL.t2.2; omega)) (fun k hk => by rcases hk with rfl | rfl | rfl | rfl | rfl | rfl | rfl | rfl | rfl | rfl <;> rfl), txE_keep (σ := σ) (s := s) h.2.1 rfl (bA_upd (by have h0 := hL.t0.2; have h1 := hL.t1.2; have h2 := hL.t2.2; omega)) (fun p hp => up_ne (by have h0 := hL.t0.2; have h1 := hL.t1.2; have h2 := hL.t2.2; omega)) (fun k hk => by rcases hk with rfl | rfl | rfl | rfl | rfl | rfl | rfl | rfl <;> rfl), ?_, h.2.2.2.1, h.2.2.2.2.1, h.2.2.2.2.2.1, h.2.2.2.2.2.2.1, h.lt, Or.inl rfl⟩
  unfold TxC nC
  rw [et]
  exact ⟨rfl, app_B h.2.2.1.2.1, rfl, rfl, hr⟩
theorem ci_cut2 {σ s : St} (h : CI σ s) {nl : Nat} (hn : nl < 2 ^ 31) {z33 z34 z35 z36 : Nat → Int32} (hr : ∀ j, j < (rdT (σ 5) 2 nl).1 → RwC (σ 5) nl z33 z34 z35 z36 j) (hle : nl ≤ tl σ 2 := by omega) : CI (su 6 σ (upd (σ 6) 2 (nI nl))) (su 66 (su 59 (su 58 (su 57 (su 36 (su 35 (su 34 (su 33 s z33) z34) z35) z36) (fun _ => nI nl)) (fun _ => nI (rdT (σ 5) 2 nl).1)) (fun _ => (rdT (σ 5) 2 nl).2)) (fun _ => nI 0)) := by
  have et : tl (su 6 σ (upd (σ 6) 2 (nI nl))) 2 = nl := tl_up hn
  refine ⟨h.1, h.2.1, ?_, h.2.2.2.1, h.2.2.2.2.1, h.2.2.2.2.2.1, h.2.2.2.2.2.2.1, h.lt, Or.inl rfl⟩
  unfold TxC nC
  rw [et]
  exact ⟨rfl, fun p hp => h.2.2.1.2.1 p (by omega), rfl, rfl, hr⟩
theorem ls_lo : ∀ b, b < 256 → 1 < popc b → nI (lo1 b) = lsC b ∧ nI (lo2 b) = lsC (b &&& (b - 1)) := by decide +kernel
theorem popc_pos {b : Nat} (h : 1 < popc b) : 0 < b := by
  rcases Nat.eq_zero_or_pos b with e | e
  · rw [e, popc_zero] at h; omega
  · exact e
theorem vwh_lt {m k : Nat} (h : k < m) : vwh m k = nI k := if_pos (by omega)
theorem vpw_lt {m k : Nat} (h : k < m) : vpw m k = 2 ^ k := if_pos (by omega)
theorem vwh_eq {m : Nat} : vwh m m = -1 := if_neg (fun q => q rfl)
theorem vpw_eq {m : Nat} : vpw m m = 64 := if_neg (fun q => q rfl)
theorem vcS_eq (σ : St) (q : Nat) : popc (vB (nH σ) (HbS σ) (hasM (nH σ) (wiS σ) q)) = vcS σ q := by
  have h := vice_eq (wi := wiS σ) (q := q) (hbOk σ) (nH_le σ)
  unfold vcS
  rw [h, nI_clamp (popc_lt31 _)]
theorem wsF_cg {n m : Nat} {RF RF' : Nat → Nat → Bool} {wi : Nat → Int32} {seed : Int32} (hn : 0 < n) (hm : 0 < m) (h : ∀ q, q < m → ∀ h, h < n → RF q h = RF' q h) : ∀ {k : Nat}, wsF n m RF wi seed k = wsF n m RF' wi seed k
  | 0 => rfl
  | k + 1 => by
    rw [wsF, wsF, wsF_cg hn hm h (k := k), cmV_rf (RF := RF) (RF' := RF') (h _ (Nat.mod_lt _ hm) _ (Nat.mod_lt _ hn))]
theorem rdL_k {v sz : Nat} {k : Nat} (hk : k ≠ 21 ∧ k ≠ 22) : ∀ (f n : Nat) (σ : St), (rdL v sz f n σ).2 k = σ k
  | 0, _, _ => rfl
  | f + 1, n, σ => by
    rw [rdL]
    split
    · split
      · rfl
      · rw [rdL_k hk f (n + 1), oSeen_k hk]
    · rfl
theorem ci_fnd {σ s : St} (h : CI σ s) {k : Int32} : CI (su 4 σ (fun _ => k)) (su 50 s (fun _ => k)) := ⟨h.1, h.2.1, h.2.2.1, h.2.2.2.1, h.2.2.2.2.1, h.2.2.2.2.2.1, h.2.2.2.2.2.2.1, rfl, h.2.2.2.2.2.2.2.2⟩
theorem ci_read {σ s : St} (h : CI σ s) {v sz f n : Nat} {a b c d : Nat → Int32} (hs : SgOk (rdL v sz f n σ).2 (su 62 (su 44 (su 43 (su 42 s a) b) c) d)) : CI (rdL v sz f n σ).2 (su 62 (su 44 (su 43 (su 42 s a) b) c) d) := by
  have e : (rdL v sz f n σ).2 = su 22 (su 21 σ ((rdL v sz f n σ).2 21)) ((rdL v sz f n σ).2 22) := by
    funext k
    by_cases h2 : k = 22
    · subst h2; rfl
    · by_cases h1 : k = 21
      · subst h1; rfl
      · rw [su_ne h2, su_ne h1, rdL_k ⟨h1, h2⟩]
  generalize (rdL v sz f n σ).2 21 = x1 at e
  generalize (rdL v sz f n σ).2 22 = x2 at e
  rw [e] at hs ⊢
  exact ⟨h.1, h.2.1, h.2.2.1, h.2.2.2.1, h.2.2.2.2.1, hs, h.2.2.2.2.2.2⟩

set_option maxRecDepth 100000 in
set_option maxHeartbeats 1000000 in
theorem j_X11_type {G : GT} (r : Nat → Nat) (s : St) (l : Nat → Int64) (σ : St) (hL : LI σ) (hC : CI σ s) (v b : Int32) {Q : Option Value → va_W → Prop} (hq : ∀ (x : St) (lx : Nat → Int64) (a : Int32 × St), a = oType v b σ → CI a.2 x → Q (some (.int a.1)) (cW G r x lx)) : J G "type" RX11 cX11_type 4 (some .int) 0 0 6 Q 0 0 0 [(0, .ref (r 0)), (1, .int v), (2, .int b)] [] (cW G r s l) := by
  refine J_iload_n dX11_type_0 rfl rfl ?_
  refine J_iconst (v := nI 3) dX11_type_1 (by decide) ?_
  refine J_cSi [.int v, .int (nI 3)] ms_X11_48 (c_X11_isBelowN (cW G r s l) v 3) rfl rfl (by decide) (Nat.le_of_ble_eq_true rfl) ⟨Nat.le_refl _, Nat.le_refl _⟩ dX11_type_2 ?_
  refine J_if_eqB 18 dX11_type_5 (by decide) (fun kcz1 => ?_) (fun kcz1 => ?_)
  · refine J_bipush (v := -2) dX11_type_18 (by decide) ?_
    exact J_iret dX11_type_20 rfl rfl rfl (hq s l ((-2), σ) (by simp [oType, capT, kcz1]) hC)
  · obtain ⟨T, hT, rfl⟩ := (rng_iff (by omega)).mp kcz1
    have eT : (nI T).toNatClampNeg = T := nI_clamp (by omega)
    refine J_iload_n dX11_type_8 rfl rfl ?_
    refine J_sipush (v := nI 256) dX11_type_9 (by decide) ?_
    refine J_cSi [.int b, .int (nI 256)] ms_X11_48 (c_X11_isBelowN (cW G r s l) b 256) rfl rfl (by decide) (Nat.le_of_ble_eq_true rfl) ⟨Nat.le_refl _, Nat.le_refl _⟩ dX11_type_12 ?_
    refine J_if_neB 21 dX11_type_15 (by decide) (fun kcz2 => ?_) (fun kcz2 => ?_)
    · obtain ⟨B9, hB9, rfl⟩ := (rng_iff (by omega)).mp kcz2
      have eB9 : (nI B9).toNatClampNeg = B9 := nI_clamp (by omega)
      rcases (show T = 0 ∨ T = 1 ∨ T = 2 by omega) with rfl | rfl | rfl
      · refine J_aload_n dX11_type_21 rfl rfl ?_
        refine J_iload_n dX11_type_22 rfl rfl ?_
        refine J_cVr (x := yX12_in) [.int (nI 0)] 0 mv_X11_52 (c_X11_listingOf0 r s l) cW_0 rfl rfl (by decide) (Nat.le_of_ble_eq_true rfl) ⟨Nat.le_refl _, Nat.le_refl _⟩ dX11_type_23 ?_
        refine J_astore_n [(0, .ref (r 0)), (1, .int (nI 0)), (2, .int (nI B9)), (3, .ref (r 3))] dX11_type_26 rfl (by decide) rfl rfl rfl ?_
        refine J_aload_n dX11_type_27 rfl rfl ?_
        refine J_iload_n dX11_type_28 rfl rfl ?_
        by_cases ksz3 : tl σ 0 = 47
        · refine J_cUi [.int (nI B9)] 3 mu_X11_56_2 (c_X5_append0_full r s l (σ 5) (tl σ 0) hC.1.1 hL.t0.2 hC.1.2.1 ksz3 (nI B9)) cW_3 rfl rfl (by decide) (Nat.le_of_ble_eq_true rfl) ⟨Nat.le_refl _, Nat.le_refl _⟩ dX11_type_29 ?_
          refine J_if_ne 38 dX11_type_32 (by decide) (fun c => absurd c (by decide)) (fun _ => ?_)
          refine J_bipush (v := -4) dX11_type_35 (by decide) ?_
          exact J_iret dX11_type_37 rfl rfl rfl (hq s l ((-4), σ) (by simp [oType, capT, kcz1, eT, kcz2, eB9, ksz3]) hC)
        · refine J_callU (wr := []) (As := [.int (nI B9)]) (st := []) 3 mu_X11_56_2 (c_X5_append0 r s l (σ 5) (tl σ 0) hC.1.1 hL.t0.2 hC.1.2.1 (by have := hL.t0.2; omega) (nI B9)) cW_3 rfl rfl rfl (by decide) (Nat.le_of_ble_eq_true rfl) ⟨Nat.le_refl _, Nat.le_refl _⟩ dX11_type_29 (fun v_ w_ h_ => ?_)
          obtain ⟨z21, z22, z23, z24, z25, z26, rfl, rfl, hrows⟩ := h_
          show J G "type" RX11 cX11_type 4 (some .int) 0 0 6 Q 0 0 32 [(0, .ref (r 0)), (1, .int (nI 0)), (2, .int (nI B9)), (3, .ref (r 3))] [.int (bI true)] (cW G r (su 53 (su 52 (su 51 (su 26 (su 25 (su 24 (su 23 (su 22 (su 21 (su 20 s (upd (s 20) (tl σ 0) (nI B9))) z21) z22) z23) z24) z25) z26) (fun _ => nI (tl σ 0 + 1))) (fun _ => nI (rdT (upd (σ 5) (60 * 0 + tl σ 0) (nI B9)) 0 (tl σ 0 + 1)).1)) (fun _ => (rdT (upd (σ 5) (60 * 0 + tl σ 0) (nI B9)) 0 (tl σ 0 + 1)).2)) l)
          refine J_if_ne 38 dX11_type_32 (by decide) (fun _ => ?_) (fun c => absurd c (by decide))
          refine J_aload_n dX11_type_38 rfl rfl ?_
          refine Cg_0_3 fr_X11_33_10 dX11_type_39 ?_
          refine J_iconst (v := nI 0) dX11_type_42 (by decide) ?_
          refine Cp_9_8 (by decide) (by decide) fr_X11_62_5 dX11_type_43 ?_
          refine J_aload_n dX11_type_46 rfl rfl ?_
          refine Cg_3_3 (s := (su 66 (su 53 (su 52 (su 51 (su 26 (su 25 (su 24 (su 23 (su 22 (su 21 (su 20 s (upd (s 20) (tl σ 0) (nI B9))) z21) z22) z23) z24) z25) z26) (fun _ => nI (tl σ 0 + 1))) (fun _ => nI (rdT (upd (σ 5) (60 * 0 + tl σ 0) (nI B9)) 0 (tl σ 0 + 1)).1)) (fun _ => (rdT (upd (σ 5) (60 * 0 + tl σ 0) (nI B9)) 0 (tl σ 0 + 1)).2)) (fun _ => nI 0))) fr_X11_66_2 (nI (tl σ 0 + 1)) rfl dX11_type_47 ?_
          exact J_iret dX11_type_50 rfl rfl rfl (hq (su 66 (su 53 (su 52 (su 51 (su 26 (su 25 (su 24 (su 23 (su 22 (su 21 (su 20 s (upd (s 20) (tl σ 0) (nI B9))) z21) z22) z23) z24) z25) z26) (fun _ => nI (tl σ 0 + 1))) (fun _ => nI (rdT (upd (σ 5) (60 * 0 + tl σ 0) (nI B9)) 0 (tl σ 0 + 1)).1)) (fun _ => (rdT (upd (σ 5) (60 * 0 + tl σ 0) (nI B9)) 0 (tl σ 0 + 1)).2)) (fun _ => nI 0)) l (nI (tl σ 0 + 1), (su 6 (su 5 σ (upd (σ 5) (60 * 0 + tl σ 0) (nI B9))) (upd (σ 6) 0 (nI (tl σ 0 + 1))))) (by simp [oType, capT, kcz1, eT, kcz2, eB9, ksz3]) (ci_type0 hC hL hrows))
      · refine J_aload_n dX11_type_21 rfl rfl ?_
        refine J_iload_n dX11_type_22 rfl rfl ?_
        refine J_cVr (x := yX12_in) [.int (nI 1)] 0 mv_X11_52 (c_X11_listingOf1 r s l) cW_0 rfl rfl (by decide) (Nat.le_of_ble_eq_true rfl) ⟨Nat.le_refl _, Nat.le_refl _⟩ dX11_type_23 ?_
        refine J_astore_n [(0, .ref (r 0)), (1, .int (nI 1)), (2, .int (nI B9)), (3, .ref (r 4))] dX11_type_26 rfl (by decide) rfl rfl rfl ?_
        refine J_aload_n dX11_type_27 rfl rfl ?_
        refine J_iload_n dX11_type_28 rfl rfl ?_
        by_cases ksz4 : tl σ 1 = 23
        · refine J_cUi [.int (nI B9)] 4 mu_X11_56_3 (c_X5_append1_full r s l (σ 5) (tl σ 1) hC.2.1.1 hL.t1.2 hC.2.1.2.1 ksz4 (nI B9)) cW_4 rfl rfl (by decide) (Nat.le_of_ble_eq_true rfl) ⟨Nat.le_refl _, Nat.le_refl _⟩ dX11_type_29 ?_
          refine J_if_ne 38 dX11_type_32 (by decide) (fun c => absurd c (by decide)) (fun _ => ?_)
          refine J_bipush (v := -4) dX11_type_35 (by decide) ?_
          exact J_iret dX11_type_37 rfl rfl rfl (hq s l ((-4), σ) (by simp [oType, capT, kcz1, eT, kcz2, eB9, ksz4]) hC)
        · refine J_callU (wr := []) (As := [.int (nI B9)]) (st := []) 4 mu_X11_56_3 (c_X5_append1 r s l (σ 5) (tl σ 1) hC.2.1.1 hL.t1.2 hC.2.1.2.1 (by have := hL.t1.2; omega) (nI B9)) cW_4 rfl rfl rfl (by decide) (Nat.le_of_ble_eq_true rfl) ⟨Nat.le_refl _, Nat.le_refl _⟩ dX11_type_29 (fun v_ w_ h_ => ?_)
          obtain ⟨z28, z29, z30, z31, rfl, rfl, hrows⟩ := h_
          show J G "type" RX11 cX11_type 4 (some .int) 0 0 6 Q 0 0 32 [(0, .ref (r 0)), (1, .int (nI 1)), (2, .int (nI B9)), (3, .ref (r 4))] [.int (bI true)] (cW G r (su 56 (su 55 (su 54 (su 31 (su 30 (su 29 (su 28 (su 27 s (upd (s 27) (tl σ 1) (nI B9))) z28) z29) z30) z31) (fun _ => nI (tl σ 1 + 1))) (fun _ => nI (rdT (upd (σ 5) (60 * 1 + tl σ 1) (nI B9)) 1 (tl σ 1 + 1)).1)) (fun _ => (rdT (upd (σ 5) (60 * 1 + tl σ 1) (nI B9)) 1 (tl σ 1 + 1)).2)) l)
          refine J_if_ne 38 dX11_type_32 (by decide) (fun _ => ?_) (fun c => absurd c (by decide))
          refine J_aload_n dX11_type_38 rfl rfl ?_
          refine Cg_0_3 fr_X11_33_10 dX11_type_39 ?_
          refine J_iconst (v := nI 0) dX11_type_42 (by decide) ?_
          refine Cp_9_8 (by decide) (by decide) fr_X11_62_5 dX11_type_43 ?_
          refine J_aload_n dX11_type_46 rfl rfl ?_
          refine Cg_4_3 (s := (su 66 (su 56 (su 55 (su 54 (su 31 (su 30 (su 29 (su 28 (su 27 s (upd (s 27) (tl σ 1) (nI B9))) z28) z29) z30) z31) (fun _ => nI (tl σ 1 + 1))) (fun _ => nI (rdT (upd (σ 5) (60 * 1 + tl σ 1) (nI B9)) 1 (tl σ 1 + 1)).1)) (fun _ => (rdT (upd (σ 5) (60 * 1 + tl σ 1) (nI B9)) 1 (tl σ 1 + 1)).2)) (fun _ => nI 0))) fr_X11_66_3 (nI (tl σ 1 + 1)) rfl dX11_type_47 ?_
          exact J_iret dX11_type_50 rfl rfl rfl (hq (su 66 (su 56 (su 55 (su 54 (su 31 (su 30 (su 29 (su 28 (su 27 s (upd (s 27) (tl σ 1) (nI B9))) z28) z29) z30) z31) (fun _ => nI (tl σ 1 + 1))) (fun _ => nI (rdT (upd (σ 5) (60 * 1 + tl σ 1) (nI B9)) 1 (tl σ 1 + 1)).1)) (fun _ => (rdT (upd (σ 5) (60 * 1 + tl σ 1) (nI B9)) 1 (tl σ 1 + 1)).2)) (fun _ => nI 0)) l (nI (tl σ 1 + 1), (su 6 (su 5 σ (upd (σ 5) (60 * 1 + tl σ 1) (nI B9))) (upd (σ 6) 1 (nI (tl σ 1 + 1))))) (by simp [oType, capT, kcz1, eT, kcz2, eB9, ksz4]) (ci_type1 hC hL hrows))
      · refine J_aload_n dX11_type_21 rfl rfl ?_
        refine J_iload_n dX11_type_22 rfl rfl ?_
        refine J_cVr (x := yX12_in) [.int (nI 2)] 0 mv_X11_52 (c_X11_listingOf2 r s l) cW_0 rfl rfl (by decide) (Nat.le_of_ble_eq_true rfl) ⟨Nat.le_refl _, Nat.le_refl _⟩ dX11_type_23 ?_
        refine J_astore_n [(0, .ref (r 0)), (1, .int (nI 2)), (2, .int (nI B9)), (3, .ref (r 5))] dX11_type_26 rfl (by decide) rfl rfl rfl ?_
        refine J_aload_n dX11_type_27 rfl rfl ?_
        refine J_iload_n dX11_type_28 rfl rfl ?_
        by_cases ksz5 : tl σ 2 = 59
        · refine J_cUi [.int (nI B9)] 5 mu_X11_56_0 (c_X5_append2_full r s l (σ 5) (tl σ 2) hC.2.2.1.1 hL.t2.2 hC.2.2.1.2.1 ksz5 (nI B9)) cW_5 rfl rfl (by decide) (Nat.le_of_ble_eq_true rfl) ⟨Nat.le_refl _, Nat.le_refl _⟩ dX11_type_29 ?_
          refine J_if_ne 38 dX11_type_32 (by decide) (fun c => absurd c (by decide)) (fun _ => ?_)
          refine J_bipush (v := -4) dX11_type_35 (by decide) ?_
          exact J_iret dX11_type_37 rfl rfl rfl (hq s l ((-4), σ) (by simp [oType, capT, kcz1, eT, kcz2, eB9, ksz5]) hC)
        · refine J_callU (wr := []) (As := [.int (nI B9)]) (st := []) 5 mu_X11_56_0 (c_X5_append2 r s l (σ 5) (tl σ 2) hC.2.2.1.1 hL.t2.2 hC.2.2.1.2.1 (by have := hL.t2.2; omega) (nI B9)) cW_5 rfl rfl rfl (by decide) (Nat.le_of_ble_eq_true rfl) ⟨Nat.le_refl _, Nat.le_refl _⟩ dX11_type_29 (fun v_ w_ h_ => ?_)
          obtain ⟨z33, z34, z35, z36, rfl, rfl, hrows⟩ := h_
          show J G "type" RX11 cX11_type 4 (some .int) 0 0 6 Q 0 0 32 [(0, .ref (r 0)), (1, .int (nI 2)), (2, .int (nI B9)), (3, .ref (r 5))] [.int (bI true)] (cW G r (su 59 (su 58 (su 57 (su 36 (su 35 (su 34 (su 33 (su 32 s (upd (s 32) (tl σ 2) (nI B9))) z33) z34) z35) z36) (fun _ => nI (tl σ 2 + 1))) (fun _ => nI (rdT (upd (σ 5) (60 * 2 + tl σ 2) (nI B9)) 2 (tl σ 2 + 1)).1)) (fun _ => (rdT (upd (σ 5) (60 * 2 + tl σ 2) (nI B9)) 2 (tl σ 2 + 1)).2)) l)
          refine J_if_ne 38 dX11_type_32 (by decide) (fun _ => ?_) (fun c => absurd c (by decide))
          refine J_aload_n dX11_type_38 rfl rfl ?_
          refine Cg_0_3 fr_X11_33_10 dX11_type_39 ?_
          refine J_iconst (v := nI 0) dX11_type_42 (by decide) ?_
          refine Cp_9_8 (by decide) (by decide) fr_X11_62_5 dX11_type_43 ?_
          refine J_aload_n dX11_type_46 rfl rfl ?_
          refine Cg_5_3 (s := (su 66 (su 59 (su 58 (su 57 (su 36 (su 35 (su 34 (su 33 (su 32 s (upd (s 32) (tl σ 2) (nI B9))) z33) z34) z35) z36) (fun _ => nI (tl σ 2 + 1))) (fun _ => nI (rdT (upd (σ 5) (60 * 2 + tl σ 2) (nI B9)) 2 (tl σ 2 + 1)).1)) (fun _ => (rdT (upd (σ 5) (60 * 2 + tl σ 2) (nI B9)) 2 (tl σ 2 + 1)).2)) (fun _ => nI 0))) fr_X11_66_0 (nI (tl σ 2 + 1)) rfl dX11_type_47 ?_
          exact J_iret dX11_type_50 rfl rfl rfl (hq (su 66 (su 59 (su 58 (su 57 (su 36 (su 35 (su 34 (su 33 (su 32 s (upd (s 32) (tl σ 2) (nI B9))) z33) z34) z35) z36) (fun _ => nI (tl σ 2 + 1))) (fun _ => nI (rdT (upd (σ 5) (60 * 2 + tl σ 2) (nI B9)) 2 (tl σ 2 + 1)).1)) (fun _ => (rdT (upd (σ 5) (60 * 2 + tl σ 2) (nI B9)) 2 (tl σ 2 + 1)).2)) (fun _ => nI 0)) l (nI (tl σ 2 + 1), (su 6 (su 5 σ (upd (σ 5) (60 * 2 + tl σ 2) (nI B9))) (upd (σ 6) 2 (nI (tl σ 2 + 1))))) (by simp [oType, capT, kcz1, eT, kcz2, eB9, ksz5]) (ci_type2 hC hL hrows))
    · refine J_bipush (v := -2) dX11_type_18 (by decide) ?_
      exact J_iret dX11_type_20 rfl rfl rfl (hq s l ((-2), σ) (by simp [oType, capT, kcz1, eT, kcz2]) hC)
theorem c_X11_type {G : GT} (r : Nat → Nat) (s : St) (l : Nat → Int64) (σ : St) (hL : LI σ) (hC : CI σ s) (v b : Int32) : Ct G yX11_type cX11_type 4 (some .int) 0 0 6 [.ref (r 0), .int v, .int b] (cW G r s l) (QC G r (oType v b σ)) := Ct.of rfl (Nat.le_of_ble_eq_true rfl) (j_X11_type r s l σ hL hC v b (fun x lx a h1 h2 => ⟨x, lx, by rw [h1], rfl, by rw [← h1]; exact h2⟩))
set_option maxRecDepth 100000 in
set_option maxHeartbeats 1000000 in
theorem j_X11_wipe {G : GT} (r : Nat → Nat) (s : St) (l : Nat → Int64) (σ : St) (hL : LI σ) (hC : CI σ s) (v : Int32) {Q : Option Value → va_W → Prop} (hq : ∀ (x : St) (lx : Nat → Int64) (a : Int32 × St), a = oWipe v σ → CI a.2 x → Q (some (.int a.1)) (cW G r x lx)) : J G "wipe" RX11 cX11_wipe 4 (some .int) 0 0 6 Q 0 0 0 [(0, .ref (r 0)), (1, .int v)] [] (cW G r s l) := by
  refine J_iload_n dX11_wipe_0 rfl rfl ?_
  refine J_iconst (v := nI 3) dX11_wipe_1 (by decide) ?_
  refine J_cSi [.int v, .int (nI 3)] ms_X11_48 (c_X11_isBelowN (cW G r s l) v 3) rfl rfl (by decide) (Nat.le_of_ble_eq_true rfl) ⟨Nat.le_refl _, Nat.le_refl _⟩ dX11_wipe_2 ?_
  refine J_if_neB 11 dX11_wipe_5 (by decide) (fun kcz1 => ?_) (fun kcz1 => ?_)
  · obtain ⟨T, hT, rfl⟩ := (rng_iff (by omega)).mp kcz1
    have eT : (nI T).toNatClampNeg = T := nI_clamp (by omega)
    rcases (show T = 0 ∨ T = 1 ∨ T = 2 by omega) with rfl | rfl | rfl
    · refine J_aload_n dX11_wipe_11 rfl rfl ?_
      refine J_iload_n dX11_wipe_12 rfl rfl ?_
      refine J_cVr (x := yX12_in) [.int (nI 0)] 0 mv_X11_52 (c_X11_listingOf0 r s l) cW_0 rfl rfl (by decide) (Nat.le_of_ble_eq_true rfl) ⟨Nat.le_refl _, Nat.le_refl _⟩ dX11_wipe_13 ?_
      refine J_astore_n [(0, .ref (r 0)), (1, .int (nI 0)), (2, .ref (r 3))] dX11_wipe_16 rfl (by decide) rfl rfl rfl ?_
      refine J_aload_n dX11_wipe_17 rfl rfl ?_
      refine Cg_3_3 (s := s) fr_X11_66_2 (s 51 0) rfl dX11_wipe_18 ?_
      refine J_rw (y := nI (tl σ 0)) hC.1.1 ?_
      refine J_istore_n [(0, .ref (r 0)), (1, .int (nI 0)), (2, .ref (r 3)), (3, .int (nI (tl σ 0)))] dX11_wipe_21 rfl (by decide) rfl rfl rfl ?_
      refine J_aload_n dX11_wipe_22 rfl rfl ?_
      refine J_iconst (v := nI 0) dX11_wipe_23 (by decide) ?_
      refine J_callU (wr := []) (As := [.int (nI 0)]) (st := []) 3 mu_X11_69_2 (c_X5_cutTo0 r s l (σ 5) (tl σ 0) hC.1.1 hL.t0.2 hC.1.2.1 0 (by omega)) cW_3 rfl rfl rfl (by decide) (Nat.le_of_ble_eq_true rfl) ⟨Nat.le_refl _, Nat.le_refl _⟩ dX11_wipe_24 (fun v_ w_ h_ => ?_)
      obtain ⟨z21, z22, z23, z24, z25, z26, rfl, rfl, hrows⟩ := h_
      show J G "wipe" RX11 cX11_wipe 4 (some .int) 0 0 6 Q 0 0 27 [(0, .ref (r 0)), (1, .int (nI 0)), (2, .ref (r 3)), (3, .int (nI (tl σ 0)))] [] (cW G r (su 53 (su 52 (su 51 (su 26 (su 25 (su 24 (su 23 (su 22 (su 21 s z21) z22) z23) z24) z25) z26) (fun _ => nI 0)) (fun _ => nI (rdT (σ 5) 0 0).1)) (fun _ => (rdT (σ 5) 0 0).2)) l)
      refine J_aload_n dX11_wipe_27 rfl rfl ?_
      refine Cg_0_3 fr_X11_33_10 dX11_wipe_28 ?_
      refine J_iconst (v := nI 0) dX11_wipe_31 (by decide) ?_
      refine Cp_9_8 (by decide) (by decide) fr_X11_62_5 dX11_wipe_32 ?_
      refine J_iload_n dX11_wipe_35 rfl rfl ?_
      exact J_iret dX11_wipe_36 rfl rfl rfl (hq (su 66 (su 53 (su 52 (su 51 (su 26 (su 25 (su 24 (su 23 (su 22 (su 21 s z21) z22) z23) z24) z25) z26) (fun _ => nI 0)) (fun _ => nI (rdT (σ 5) 0 0).1)) (fun _ => (rdT (σ 5) 0 0).2)) (fun _ => nI 0)) l (nI (tl σ 0), (su 6 σ (upd (σ 6) 0 (nI 0)))) (by simp [oWipe, kcz1, eT]) (ci_cut0 hC (by decide) hrows))
    · refine J_aload_n dX11_wipe_11 rfl rfl ?_
      refine J_iload_n dX11_wipe_12 rfl rfl ?_
      refine J_cVr (x := yX12_in) [.int (nI 1)] 0 mv_X11_52 (c_X11_listingOf1 r s l) cW_0 rfl rfl (by decide) (Nat.le_of_ble_eq_true rfl) ⟨Nat.le_refl _, Nat.le_refl _⟩ dX11_wipe_13 ?_
      refine J_astore_n [(0, .ref (r 0)), (1, .int (nI 1)), (2, .ref (r 4))] dX11_wipe_16 rfl (by decide) rfl rfl rfl ?_
      refine J_aload_n dX11_wipe_17 rfl rfl ?_
      refine Cg_4_3 (s := s) fr_X11_66_3 (s 54 0) rfl dX11_wipe_18 ?_
      refine J_rw (y := nI (tl σ 1)) hC.2.1.1 ?_
      refine J_istore_n [(0, .ref (r 0)), (1, .int (nI 1)), (2, .ref (r 4)), (3, .int (nI (tl σ 1)))] dX11_wipe_21 rfl (by decide) rfl rfl rfl ?_
      refine J_aload_n dX11_wipe_22 rfl rfl ?_
      refine J_iconst (v := nI 0) dX11_wipe_23 (by decide) ?_
      refine J_callU (wr := []) (As := [.int (nI 0)]) (st := []) 4 mu_X11_69_3 (c_X5_cutTo1 r s l (σ 5) (tl σ 1) hC.2.1.1 hL.t1.2 hC.2.1.2.1 0 (by omega)) cW_4 rfl rfl rfl (by decide) (Nat.le_of_ble_eq_true rfl) ⟨Nat.le_refl _, Nat.le_refl _⟩ dX11_wipe_24 (fun v_ w_ h_ => ?_)
      obtain ⟨z28, z29, z30, z31, rfl, rfl, hrows⟩ := h_
      show J G "wipe" RX11 cX11_wipe 4 (some .int) 0 0 6 Q 0 0 27 [(0, .ref (r 0)), (1, .int (nI 1)), (2, .ref (r 4)), (3, .int (nI (tl σ 1)))] [] (cW G r (su 56 (su 55 (su 54 (su 31 (su 30 (su 29 (su 28 s z28) z29) z30) z31) (fun _ => nI 0)) (fun _ => nI (rdT (σ 5) 1 0).1)) (fun _ => (rdT (σ 5) 1 0).2)) l)
      refine J_aload_n dX11_wipe_27 rfl rfl ?_
      refine Cg_0_3 fr_X11_33_10 dX11_wipe_28 ?_
      refine J_iconst (v := nI 0) dX11_wipe_31 (by decide) ?_
      refine Cp_9_8 (by decide) (by decide) fr_X11_62_5 dX11_wipe_32 ?_
      refine J_iload_n dX11_wipe_35 rfl rfl ?_
      exact J_iret dX11_wipe_36 rfl rfl rfl (hq (su 66 (su 56 (su 55 (su 54 (su 31 (su 30 (su 29 (su 28 s z28) z29) z30) z31) (fun _ => nI 0)) (fun _ => nI (rdT (σ 5) 1 0).1)) (fun _ => (rdT (σ 5) 1 0).2)) (fun _ => nI 0)) l (nI (tl σ 1), (su 6 σ (upd (σ 6) 1 (nI 0)))) (by simp [oWipe, kcz1, eT]) (ci_cut1 hC (by decide) hrows))
    · refine J_aload_n dX11_wipe_11 rfl rfl ?_
      refine J_iload_n dX11_wipe_12 rfl rfl ?_
      refine J_cVr (x := yX12_in) [.int (nI 2)] 0 mv_X11_52 (c_X11_listingOf2 r s l) cW_0 rfl rfl (by decide) (Nat.le_of_ble_eq_true rfl) ⟨Nat.le_refl _, Nat.le_refl _⟩ dX11_wipe_13 ?_
      refine J_astore_n [(0, .ref (r 0)), (1, .int (nI 2)), (2, .ref (r 5))] dX11_wipe_16 rfl (by decide) rfl rfl rfl ?_
      refine J_aload_n dX11_wipe_17 rfl rfl ?_
      refine Cg_5_3 (s := s) fr_X11_66_0 (s 57 0) rfl dX11_wipe_18 ?_
      refine J_rw (y := nI (tl σ 2)) hC.2.2.1.1 ?_
      refine J_istore_n [(0, .ref (r 0)), (1, .int (nI 2)), (2, .ref (r 5)), (3, .int (nI (tl σ 2)))] dX11_wipe_21 rfl (by decide) rfl rfl rfl ?_
      refine J_aload_n dX11_wipe_22 rfl rfl ?_
      refine J_iconst (v := nI 0) dX11_wipe_23 (by decide) ?_
      refine J_callU (wr := []) (As := [.int (nI 0)]) (st := []) 5 mu_X11_69_0 (c_X5_cutTo2 r s l (σ 5) (tl σ 2) hC.2.2.1.1 hL.t2.2 hC.2.2.1.2.1 0 (by omega)) cW_5 rfl rfl rfl (by decide) (Nat.le_of_ble_eq_true rfl) ⟨Nat.le_refl _, Nat.le_refl _⟩ dX11_wipe_24 (fun v_ w_ h_ => ?_)
      obtain ⟨z33, z34, z35, z36, rfl, rfl, hrows⟩ := h_
      show J G "wipe" RX11 cX11_wipe 4 (some .int) 0 0 6 Q 0 0 27 [(0, .ref (r 0)), (1, .int (nI 2)), (2, .ref (r 5)), (3, .int (nI (tl σ 2)))] [] (cW G r (su 59 (su 58 (su 57 (su 36 (su 35 (su 34 (su 33 s z33) z34) z35) z36) (fun _ => nI 0)) (fun _ => nI (rdT (σ 5) 2 0).1)) (fun _ => (rdT (σ 5) 2 0).2)) l)
      refine J_aload_n dX11_wipe_27 rfl rfl ?_
      refine Cg_0_3 fr_X11_33_10 dX11_wipe_28 ?_
      refine J_iconst (v := nI 0) dX11_wipe_31 (by decide) ?_
      refine Cp_9_8 (by decide) (by decide) fr_X11_62_5 dX11_wipe_32 ?_
      refine J_iload_n dX11_wipe_35 rfl rfl ?_
      exact J_iret dX11_wipe_36 rfl rfl rfl (hq (su 66 (su 59 (su 58 (su 57 (su 36 (su 35 (su 34 (su 33 s z33) z34) z35) z36) (fun _ => nI 0)) (fun _ => nI (rdT (σ 5) 2 0).1)) (fun _ => (rdT (σ 5) 2 0).2)) (fun _ => nI 0)) l (nI (tl σ 2), (su 6 σ (upd (σ 6) 2 (nI 0)))) (by simp [oWipe, kcz1, eT]) (ci_cut2 hC (by decide) hrows))
  · refine J_bipush (v := -2) dX11_wipe_8 (by decide) ?_
    exact J_iret dX11_wipe_10 rfl rfl rfl (hq s l ((-2), σ) (by simp [oWipe, kcz1]) hC)
theorem c_X11_wipe {G : GT} (r : Nat → Nat) (s : St) (l : Nat → Int64) (σ : St) (hL : LI σ) (hC : CI σ s) (v : Int32) : Ct G yX11_wipe cX11_wipe 4 (some .int) 0 0 6 [.ref (r 0), .int v] (cW G r s l) (QC G r (oWipe v σ)) := Ct.of rfl (Nat.le_of_ble_eq_true rfl) (j_X11_wipe r s l σ hL hC v (fun x lx a h1 h2 => ⟨x, lx, by rw [h1], rfl, by rw [← h1]; exact h2⟩))
set_option maxRecDepth 100000 in
set_option maxHeartbeats 1000000 in
theorem j_X11_undo {G : GT} (r : Nat → Nat) (s : St) (l : Nat → Int64) (σ : St) (hL : LI σ) (hC : CI σ s) (v : Int32) {Q : Option Value → va_W → Prop} (hq : ∀ (x : St) (lx : Nat → Int64) (a : Int32 × St), a = oUndo v σ → CI a.2 x → Q (some (.int a.1)) (cW G r x lx)) : J G "undo" RX11 cX11_undo 3 (some .int) 0 0 6 Q 0 0 0 [(0, .ref (r 0)), (1, .int v)] [] (cW G r s l) := by
  refine J_iload_n dX11_undo_0 rfl rfl ?_
  refine J_iconst (v := nI 3) dX11_undo_1 (by decide) ?_
  refine J_cSi [.int v, .int (nI 3)] ms_X11_48 (c_X11_isBelowN (cW G r s l) v 3) rfl rfl (by decide) (Nat.le_of_ble_eq_true rfl) ⟨Nat.le_refl _, Nat.le_refl _⟩ dX11_undo_2 ?_
  refine J_if_neB 11 dX11_undo_5 (by decide) (fun kcz1 => ?_) (fun kcz1 => ?_)
  · obtain ⟨T, hT, rfl⟩ := (rng_iff (by omega)).mp kcz1
    have eT : (nI T).toNatClampNeg = T := nI_clamp (by omega)
    rcases (show T = 0 ∨ T = 1 ∨ T = 2 by omega) with rfl | rfl | rfl
    · refine J_aload_n dX11_undo_11 rfl rfl ?_
      refine J_iload_n dX11_undo_12 rfl rfl ?_
      refine J_cVr (x := yX12_in) [.int (nI 0)] 0 mv_X11_52 (c_X11_listingOf0 r s l) cW_0 rfl rfl (by decide) (Nat.le_of_ble_eq_true rfl) ⟨Nat.le_refl _, Nat.le_refl _⟩ dX11_undo_13 ?_
      refine J_astore_n [(0, .ref (r 0)), (1, .int (nI 0)), (2, .ref (r 3))] dX11_undo_16 rfl (by decide) rfl rfl rfl ?_
      refine J_aload_n dX11_undo_17 rfl rfl ?_
      refine Cg_3_3 (s := s) fr_X11_66_2 (s 51 0) rfl dX11_undo_18 ?_
      refine J_rw (y := nI (tl σ 0)) hC.1.1 ?_
      refine J_if_neN 27 (by have h0 := hL.t0.2; have h1 := hL.t1.2; have h2 := hL.t2.2; omega) dX11_undo_21 (by decide) (fun kcz2 => ?_) (fun kcz2 => ?_)
      · refine J_aload_n dX11_undo_27 rfl rfl ?_
        refine J_aload_n dX11_undo_28 rfl rfl ?_
        refine Cg_3_3 (s := s) fr_X11_66_2 (s 51 0) rfl dX11_undo_29 ?_
        refine J_rw (y := nI (tl σ 0)) hC.1.1 ?_
        refine J_iconst (v := nI 1) dX11_undo_32 (by decide) ?_
        refine J_isubN dX11_undo_33 (by omega) ?_
        refine J_callU (wr := []) (As := [.int (nI (tl σ 0 - 1))]) (st := []) 3 mu_X11_69_2 (c_X5_cutTo0 r s l (σ 5) (tl σ 0) hC.1.1 hL.t0.2 hC.1.2.1 (tl σ 0 - 1) (by omega)) cW_3 rfl rfl rfl (by decide) (Nat.le_of_ble_eq_true rfl) ⟨Nat.le_refl _, Nat.le_refl _⟩ dX11_undo_34 (fun v_ w_ h_ => ?_)
        obtain ⟨z21, z22, z23, z24, z25, z26, rfl, rfl, hrows⟩ := h_
        show J G "undo" RX11 cX11_undo 3 (some .int) 0 0 6 Q 0 0 37 [(0, .ref (r 0)), (1, .int (nI 0)), (2, .ref (r 3))] [] (cW G r (su 53 (su 52 (su 51 (su 26 (su 25 (su 24 (su 23 (su 22 (su 21 s z21) z22) z23) z24) z25) z26) (fun _ => nI (tl σ 0 - 1))) (fun _ => nI (rdT (σ 5) 0 (tl σ 0 - 1)).1)) (fun _ => (rdT (σ 5) 0 (tl σ 0 - 1)).2)) l)
        refine J_aload_n dX11_undo_37 rfl rfl ?_
        refine Cg_0_3 fr_X11_33_10 dX11_undo_38 ?_
        refine J_iconst (v := nI 0) dX11_undo_41 (by decide) ?_
        refine Cp_9_8 (by decide) (by decide) fr_X11_62_5 dX11_undo_42 ?_
        refine J_aload_n dX11_undo_45 rfl rfl ?_
        refine Cg_3_3 (s := (su 66 (su 53 (su 52 (su 51 (su 26 (su 25 (su 24 (su 23 (su 22 (su 21 s z21) z22) z23) z24) z25) z26) (fun _ => nI (tl σ 0 - 1))) (fun _ => nI (rdT (σ 5) 0 (tl σ 0 - 1)).1)) (fun _ => (rdT (σ 5) 0 (tl σ 0 - 1)).2)) (fun _ => nI 0))) fr_X11_66_2 (nI (tl σ 0 - 1)) rfl dX11_undo_46 ?_
        exact J_iret dX11_undo_49 rfl rfl rfl (hq (su 66 (su 53 (su 52 (su 51 (su 26 (su 25 (su 24 (su 23 (su 22 (su 21 s z21) z22) z23) z24) z25) z26) (fun _ => nI (tl σ 0 - 1))) (fun _ => nI (rdT (σ 5) 0 (tl σ 0 - 1)).1)) (fun _ => (rdT (σ 5) 0 (tl σ 0 - 1)).2)) (fun _ => nI 0)) l (nI (tl σ 0 - 1), (su 6 σ (upd (σ 6) 0 (nI (tl σ 0 - 1))))) (by simp [oUndo, kcz1, eT, kcz2]) (ci_cut0 hC (by have h0 := hL.t0.2; omega) hrows))
      · refine J_bipush (v := -3) dX11_undo_24 (by decide) ?_
        exact J_iret dX11_undo_26 rfl rfl rfl (hq s l ((-3), σ) (by simp [oUndo, kcz1, eT, kcz2]) hC)
    · refine J_aload_n dX11_undo_11 rfl rfl ?_
      refine J_iload_n dX11_undo_12 rfl rfl ?_
      refine J_cVr (x := yX12_in) [.int (nI 1)] 0 mv_X11_52 (c_X11_listingOf1 r s l) cW_0 rfl rfl (by decide) (Nat.le_of_ble_eq_true rfl) ⟨Nat.le_refl _, Nat.le_refl _⟩ dX11_undo_13 ?_
      refine J_astore_n [(0, .ref (r 0)), (1, .int (nI 1)), (2, .ref (r 4))] dX11_undo_16 rfl (by decide) rfl rfl rfl ?_
      refine J_aload_n dX11_undo_17 rfl rfl ?_
      refine Cg_4_3 (s := s) fr_X11_66_3 (s 54 0) rfl dX11_undo_18 ?_
      refine J_rw (y := nI (tl σ 1)) hC.2.1.1 ?_
      refine J_if_neN 27 (by have h0 := hL.t0.2; have h1 := hL.t1.2; have h2 := hL.t2.2; omega) dX11_undo_21 (by decide) (fun kcz3 => ?_) (fun kcz3 => ?_)
      · refine J_aload_n dX11_undo_27 rfl rfl ?_
        refine J_aload_n dX11_undo_28 rfl rfl ?_
        refine Cg_4_3 (s := s) fr_X11_66_3 (s 54 0) rfl dX11_undo_29 ?_
        refine J_rw (y := nI (tl σ 1)) hC.2.1.1 ?_
        refine J_iconst (v := nI 1) dX11_undo_32 (by decide) ?_
        refine J_isubN dX11_undo_33 (by omega) ?_
        refine J_callU (wr := []) (As := [.int (nI (tl σ 1 - 1))]) (st := []) 4 mu_X11_69_3 (c_X5_cutTo1 r s l (σ 5) (tl σ 1) hC.2.1.1 hL.t1.2 hC.2.1.2.1 (tl σ 1 - 1) (by omega)) cW_4 rfl rfl rfl (by decide) (Nat.le_of_ble_eq_true rfl) ⟨Nat.le_refl _, Nat.le_refl _⟩ dX11_undo_34 (fun v_ w_ h_ => ?_)
        obtain ⟨z28, z29, z30, z31, rfl, rfl, hrows⟩ := h_
        show J G "undo" RX11 cX11_undo 3 (some .int) 0 0 6 Q 0 0 37 [(0, .ref (r 0)), (1, .int (nI 1)), (2, .ref (r 4))] [] (cW G r (su 56 (su 55 (su 54 (su 31 (su 30 (su 29 (su 28 s z28) z29) z30) z31) (fun _ => nI (tl σ 1 - 1))) (fun _ => nI (rdT (σ 5) 1 (tl σ 1 - 1)).1)) (fun _ => (rdT (σ 5) 1 (tl σ 1 - 1)).2)) l)
        refine J_aload_n dX11_undo_37 rfl rfl ?_
        refine Cg_0_3 fr_X11_33_10 dX11_undo_38 ?_
        refine J_iconst (v := nI 0) dX11_undo_41 (by decide) ?_
        refine Cp_9_8 (by decide) (by decide) fr_X11_62_5 dX11_undo_42 ?_
        refine J_aload_n dX11_undo_45 rfl rfl ?_
        refine Cg_4_3 (s := (su 66 (su 56 (su 55 (su 54 (su 31 (su 30 (su 29 (su 28 s z28) z29) z30) z31) (fun _ => nI (tl σ 1 - 1))) (fun _ => nI (rdT (σ 5) 1 (tl σ 1 - 1)).1)) (fun _ => (rdT (σ 5) 1 (tl σ 1 - 1)).2)) (fun _ => nI 0))) fr_X11_66_3 (nI (tl σ 1 - 1)) rfl dX11_undo_46 ?_
        exact J_iret dX11_undo_49 rfl rfl rfl (hq (su 66 (su 56 (su 55 (su 54 (su 31 (su 30 (su 29 (su 28 s z28) z29) z30) z31) (fun _ => nI (tl σ 1 - 1))) (fun _ => nI (rdT (σ 5) 1 (tl σ 1 - 1)).1)) (fun _ => (rdT (σ 5) 1 (tl σ 1 - 1)).2)) (fun _ => nI 0)) l (nI (tl σ 1 - 1), (su 6 σ (upd (σ 6) 1 (nI (tl σ 1 - 1))))) (by simp [oUndo, kcz1, eT, kcz3]) (ci_cut1 hC (by have h0 := hL.t1.2; omega) hrows))
      · refine J_bipush (v := -3) dX11_undo_24 (by decide) ?_
        exact J_iret dX11_undo_26 rfl rfl rfl (hq s l ((-3), σ) (by simp [oUndo, kcz1, eT, kcz3]) hC)
    · refine J_aload_n dX11_undo_11 rfl rfl ?_
      refine J_iload_n dX11_undo_12 rfl rfl ?_
      refine J_cVr (x := yX12_in) [.int (nI 2)] 0 mv_X11_52 (c_X11_listingOf2 r s l) cW_0 rfl rfl (by decide) (Nat.le_of_ble_eq_true rfl) ⟨Nat.le_refl _, Nat.le_refl _⟩ dX11_undo_13 ?_
      refine J_astore_n [(0, .ref (r 0)), (1, .int (nI 2)), (2, .ref (r 5))] dX11_undo_16 rfl (by decide) rfl rfl rfl ?_
      refine J_aload_n dX11_undo_17 rfl rfl ?_
      refine Cg_5_3 (s := s) fr_X11_66_0 (s 57 0) rfl dX11_undo_18 ?_
      refine J_rw (y := nI (tl σ 2)) hC.2.2.1.1 ?_
      refine J_if_neN 27 (by have h0 := hL.t0.2; have h1 := hL.t1.2; have h2 := hL.t2.2; omega) dX11_undo_21 (by decide) (fun kcz4 => ?_) (fun kcz4 => ?_)
      · refine J_aload_n dX11_undo_27 rfl rfl ?_
        refine J_aload_n dX11_undo_28 rfl rfl ?_
        refine Cg_5_3 (s := s) fr_X11_66_0 (s 57 0) rfl dX11_undo_29 ?_
        refine J_rw (y := nI (tl σ 2)) hC.2.2.1.1 ?_
        refine J_iconst (v := nI 1) dX11_undo_32 (by decide) ?_
        refine J_isubN dX11_undo_33 (by omega) ?_
        refine J_callU (wr := []) (As := [.int (nI (tl σ 2 - 1))]) (st := []) 5 mu_X11_69_0 (c_X5_cutTo2 r s l (σ 5) (tl σ 2) hC.2.2.1.1 hL.t2.2 hC.2.2.1.2.1 (tl σ 2 - 1) (by omega)) cW_5 rfl rfl rfl (by decide) (Nat.le_of_ble_eq_true rfl) ⟨Nat.le_refl _, Nat.le_refl _⟩ dX11_undo_34 (fun v_ w_ h_ => ?_)
        obtain ⟨z33, z34, z35, z36, rfl, rfl, hrows⟩ := h_
        show J G "undo" RX11 cX11_undo 3 (some .int) 0 0 6 Q 0 0 37 [(0, .ref (r 0)), (1, .int (nI 2)), (2, .ref (r 5))] [] (cW G r (su 59 (su 58 (su 57 (su 36 (su 35 (su 34 (su 33 s z33) z34) z35) z36) (fun _ => nI (tl σ 2 - 1))) (fun _ => nI (rdT (σ 5) 2 (tl σ 2 - 1)).1)) (fun _ => (rdT (σ 5) 2 (tl σ 2 - 1)).2)) l)
        refine J_aload_n dX11_undo_37 rfl rfl ?_
        refine Cg_0_3 fr_X11_33_10 dX11_undo_38 ?_
        refine J_iconst (v := nI 0) dX11_undo_41 (by decide) ?_
        refine Cp_9_8 (by decide) (by decide) fr_X11_62_5 dX11_undo_42 ?_
        refine J_aload_n dX11_undo_45 rfl rfl ?_
        refine Cg_5_3 (s := (su 66 (su 59 (su 58 (su 57 (su 36 (su 35 (su 34 (su 33 s z33) z34) z35) z36) (fun _ => nI (tl σ 2 - 1))) (fun _ => nI (rdT (σ 5) 2 (tl σ 2 - 1)).1)) (fun _ => (rdT (σ 5) 2 (tl σ 2 - 1)).2)) (fun _ => nI 0))) fr_X11_66_0 (nI (tl σ 2 - 1)) rfl dX11_undo_46 ?_
        exact J_iret dX11_undo_49 rfl rfl rfl (hq (su 66 (su 59 (su 58 (su 57 (su 36 (su 35 (su 34 (su 33 s z33) z34) z35) z36) (fun _ => nI (tl σ 2 - 1))) (fun _ => nI (rdT (σ 5) 2 (tl σ 2 - 1)).1)) (fun _ => (rdT (σ 5) 2 (tl σ 2 - 1)).2)) (fun _ => nI 0)) l (nI (tl σ 2 - 1), (su 6 σ (upd (σ 6) 2 (nI (tl σ 2 - 1))))) (by simp [oUndo, kcz1, eT, kcz4]) (ci_cut2 hC (by have h0 := hL.t2.2; omega) hrows))
      · refine J_bipush (v := -3) dX11_undo_24 (by decide) ?_
        exact J_iret dX11_undo_26 rfl rfl rfl (hq s l ((-3), σ) (by simp [oUndo, kcz1, eT, kcz4]) hC)
  · refine J_bipush (v := -2) dX11_undo_8 (by decide) ?_
    exact J_iret dX11_undo_10 rfl rfl rfl (hq s l ((-2), σ) (by simp [oUndo, kcz1]) hC)
theorem c_X11_undo {G : GT} (r : Nat → Nat) (s : St) (l : Nat → Int64) (σ : St) (hL : LI σ) (hC : CI σ s) (v : Int32) : Ct G yX11_undo cX11_undo 3 (some .int) 0 0 6 [.ref (r 0), .int v] (cW G r s l) (QC G r (oUndo v σ)) := Ct.of rfl (Nat.le_of_ble_eq_true rfl) (j_X11_undo r s l σ hL hC v (fun x lx a h1 h2 => ⟨x, lx, by rw [h1], rfl, by rw [← h1]; exact h2⟩))
set_option maxRecDepth 100000 in
set_option maxHeartbeats 1000000 in
theorem j_X11_quarrel0 {G : GT} (r : Nat → Nat) (s : St) (l : Nat → Int64) (σ : St) (hL : LI σ) (hC : CI σ s) {Q : Option Value → va_W → Prop} (hq : ∀ (x : St) (lx : Nat → Int64) (a : Int32 × St), a = (qQuarrel (nI 0) σ, σ) → CI a.2 x → Q (some (.int a.1)) (cW G r x lx)) : J G "quarrel" RX11 cX11_quarrel 6 (some .int) 0 0 4 Q 0 0 0 [(0, .ref (r 0)), (1, .int (nI 0))] [] (cW G r s l) := by
  obtain ⟨n, en⟩ : ∃ z, z = nH σ := ⟨_, rfl⟩
  obtain ⟨m, em⟩ : ∃ z, z = nE σ := ⟨_, rfl⟩
  obtain ⟨c, ec⟩ : ∃ z, z = nC σ := ⟨_, rfl⟩
  obtain ⟨rf, erf⟩ : ∃ z, z = rfn σ := ⟨_, rfl⟩
  obtain ⟨sg, esg⟩ : ∃ z, z = sgn σ := ⟨_, rfl⟩
  obtain ⟨Hb, eHb⟩ : ∃ z, z = HbS σ := ⟨_, rfl⟩
  obtain ⟨hb, ehb⟩ : ∃ z, z = hbS σ := ⟨_, rfl⟩
  obtain ⟨He, eHe⟩ : ∃ z, z = HeS σ := ⟨_, rfl⟩
  obtain ⟨aw, eaw⟩ : ∃ z, z = awS σ := ⟨_, rfl⟩
  obtain ⟨Cl, eCl⟩ : ∃ z, z = ClS σ := ⟨_, rfl⟩
  obtain ⟨Rf, eRf⟩ : ∃ z, z = σ 13 := ⟨_, rfl⟩
  obtain ⟨Sg, eSg⟩ : ∃ z, z = σ 22 := ⟨_, rfl⟩
  obtain ⟨Vv, eVv⟩ : ∃ z, z = σ 16 := ⟨_, rfl⟩
  have hn8 : n ≤ 8 := by rw [en]; exact nH_le _
  have hm6 : m ≤ 6 := by rw [em]; exact nE_le _
  have hc15 : c ≤ 15 := by rw [ec]; exact nC_le _
  have hrf12 : rf ≤ 12 := by rw [erf]; exact hL.rf.2.1
  have hsg8 : sg ≤ 8 := by rw [esg]; exact hL.sg.2.1
  have hk : HbOk n Hb hb := by rw [en, eHb, ehb]; exact hbOk σ
  have ha : AwOk m He aw := by rw [em, eHe, eaw]; exact awOk σ
  have hn : s 52 0 = nI n := by rw [en]; exact hC.n
  have hm : s 55 0 = nI m := by rw [em]; exact hC.m
  have hc : s 58 0 = nI c := by rw [ec]; exact hC.c
  have hrf : s 60 0 = nI rf := by rw [erf]; exact hC.rf
  have hsg : s 62 0 = nI sg := by rw [esg]; exact hC.sg
  have hR : CHr n Hb hb s := by rw [en, eHb, ehb]; exact hC.hR
  have hE : CEr m He aw s := by rw [em, eHe, eaw]; exact hC.hE
  have hCl : CCr c Cl s := by rw [ec, eCl]; exact hC.hCl
  have hRf : CRr rf Rf s := by rw [erf, eRf]; exact hC.hRf hL
  have hSg : CSr sg Sg s := by rw [esg, eSg]; exact hC.hSg hL
  have hV : ∀ j, j < 42 → s 41 j = Vv j := by rw [eVv]; exact hC.hV
  refine J_iload_n dX11_quarrel_0 rfl rfl ?_
  refine J_iconst (v := nI 4) dX11_quarrel_1 (by decide) ?_
  refine J_cSi [.int (nI 0), .int (nI 4)] ms_X11_48 (c_X11_isBelowN (cW G r s l) (nI 0) 4) rfl rfl (by decide) (Nat.le_of_ble_eq_true rfl) ⟨Nat.le_refl _, Nat.le_refl _⟩ dX11_quarrel_2 ?_
  refine J_if_neB 11 dX11_quarrel_5 (by decide) (fun _ => ?_) (fun c => absurd c (by rw [(show rng (nI 0) 4 = true by decide)]; decide))
  refine J_aload_n dX11_quarrel_11 rfl rfl ?_
  refine Cg_0_0 fr_X11_10_10 dX11_quarrel_12 ?_
  refine J_cVv (x := yX12_in) [] 1 mv_X11_162 (c_X1_settle r s l n hn hn8 m hm hm6 c hc hc15 Cl hCl rf hrf hrf12 Rf hRf) cW_1 rfl rfl (by decide) (Nat.le_of_ble_eq_true rfl) ⟨Nat.le_refl _, Nat.le_refl _⟩ dX11_quarrel_15 ?_
  show J G "quarrel" RX11 cX11_quarrel 6 (some .int) 0 0 4 Q 0 0 18 [(0, .ref (r 0)), (1, .int (nI 0))] [] (cW G r (su 61 (su 40 (su 39 s ((wlF n m Cl (rfsM rf Rf (-1) 0) c).1)) (fun q => nI (rfB rf Rf (-1) 0 q))) (fun _ => nI (wlF n m Cl (rfsM rf Rf (-1) 0) c).2)) l)
  refine J_aload_n dX11_quarrel_18 rfl rfl ?_
  refine Cg_0_0 fr_X11_10_10 dX11_quarrel_19 ?_
  refine Cg_1_0 fr_X11_76_1 dX11_quarrel_22 ?_
  refine J_astore_n [(0, .ref (r 0)), (1, .int (nI 0)), (2, .ref (r 2))] dX11_quarrel_25 rfl (by decide) rfl rfl rfl ?_
  refine J_iconst (v := nI 0) dX11_quarrel_26 (by decide) ?_
  refine J_istore_n [(0, .ref (r 0)), (1, .int (nI 0)), (2, .ref (r 2)), (3, .int (nI 0))] dX11_quarrel_27 rfl (by decide) rfl rfl rfl ?_
  have L28 : ∀ (f t : Nat), 24 - t < f → t ≤ 24 → quM n m Hb (wlF n m Cl (rfsM rf Rf (-1) 0) c).1 0 = (qrO (quA n Hb (wlF n m Cl (rfsM rf Rf (-1) 0) c).1 0) m (24 - t) t).getD (-1) → ∀ (x3 : Int32), x3 = nI t → J G "quarrel" RX11 cX11_quarrel 6 (some .int) 0 0 4 Q 0 0 28 [(0, .ref (r 0)), (1, .int (nI 0)), (2, .ref (r 2)), (3, .int x3)] [] (cW G r (su 61 (su 40 (su 39 s ((wlF n m Cl (rfsM rf Rf (-1) 0) c).1)) (fun q => nI (rfB rf Rf (-1) 0 q))) (fun _ => nI (wlF n m Cl (rfsM rf Rf (-1) 0) c).2)) l) := by
    intro f
    induction f with
    | zero => intro t h; exact absurd h (Nat.not_lt_zero _)
    | succ f ih28 =>
      intro t hf28 hle28 hO x3 e3
      subst e3
      refine J_iload_n dX11_quarrel_28 rfl rfl ?_
      refine J_bipush (v := nI 24) dX11_quarrel_29 (by decide) ?_
      refine J_icmp_geN 96 (by omega) (by omega) dX11_quarrel_31 (by decide) (fun kcz1 => ?_) (fun kcz1 => ?_)
      · refine J_iconst (v := -1) dX11_quarrel_96 (by decide) ?_
        exact J_iret dX11_quarrel_97 rfl rfl rfl (hq (su 61 (su 40 (su 39 s ((wlF n m Cl (rfsM rf Rf (-1) 0) c).1)) (fun q => nI (rfB rf Rf (-1) 0 q))) (fun _ => nI (wlF n m Cl (rfsM rf Rf (-1) 0) c).2)) l ((-1), σ) (by have e9 : quM n m Hb (wlF n m Cl (rfsM rf Rf (-1) 0) c).1 0 = -1 := (by rw [hO, show 24 - t = 0 by omega]; rfl); subst en em ec erf esg eHb ehb eHe eaw eCl eRf eSg eVv; rw [wl0] at e9; simp [qQuarrel, wiS, rng_of (show 0 < 4 by decide) (by decide), nI_clamp (show 0 < 2 ^ 31 by decide)]; exact e9.symm) (show CI σ (su 61 (su 40 (su 39 s ((wlF n m Cl (rfsM rf Rf (-1) 0) c).1)) (fun q => nI (rfB rf Rf (-1) 0 q))) (fun _ => nI (wlF n m Cl (rfsM rf Rf (-1) 0) c).2)) from hC))
      · refine J_iconst (v := nI 0) dX11_quarrel_34 (by decide) ?_
        refine J_istore [(0, .ref (r 0)), (1, .int (nI 0)), (2, .ref (r 2)), (3, .int (nI t)), (4, .int (nI 0))] dX11_quarrel_35 (by decide) rfl rfl rfl ?_
        have L37 : ∀ (f e : Nat), m - e < f → e ≤ m → quM n m Hb (wlF n m Cl (rfsM rf Rf (-1) 0) c).1 0 = ((qrI (fun e => quA n Hb (wlF n m Cl (rfsM rf Rf (-1) 0) c).1 0 e t) (m - e) e).getD ((qrO (quA n Hb (wlF n m Cl (rfsM rf Rf (-1) 0) c).1 0) m (23 - t) (t + 1)).getD (-1))) → ∀ (x4 : Int32), x4 = nI e → J G "quarrel" RX11 cX11_quarrel 6 (some .int) 0 0 4 Q 0 0 37 [(0, .ref (r 0)), (1, .int (nI 0)), (2, .ref (r 2)), (3, .int (nI t)), (4, .int x4)] [] (cW G r (su 61 (su 40 (su 39 s ((wlF n m Cl (rfsM rf Rf (-1) 0) c).1)) (fun q => nI (rfB rf Rf (-1) 0 q))) (fun _ => nI (wlF n m Cl (rfsM rf Rf (-1) 0) c).2)) l) := by
          intro f
          induction f with
          | zero => intro e h; exact absurd h (Nat.not_lt_zero _)
          | succ f ih37 =>
            intro e hf37 hle37 hI x4 e4
            subst e4
            refine J_iload dX11_quarrel_37 rfl ?_
            refine J_aload_n dX11_quarrel_39 rfl rfl ?_
            refine Cg_2_1 fr_X11_107_4 dX11_quarrel_40 ?_
            refine Cg_4_4 (s := (su 61 (su 40 (su 39 s ((wlF n m Cl (rfsM rf Rf (-1) 0) c).1)) (fun q => nI (rfB rf Rf (-1) 0 q))) (fun _ => nI (wlF n m Cl (rfsM rf Rf (-1) 0) c).2))) fr_X11_188_3 (s 55 0) rfl dX11_quarrel_43 ?_
            refine J_rw (y := nI m) hm ?_
            refine J_icmp_geN 90 (by omega) (by omega) dX11_quarrel_46 (by decide) (fun kcz2 => ?_) (fun kcz2 => ?_)
            · refine J_iincN [(0, .ref (r 0)), (1, .int (nI 0)), (2, .ref (r 2)), (3, .int (nI (t + 1))), (4, .int (nI e))] dX11_quarrel_90 rfl (by decide) rfl rfl rfl ?_
              refine J_goto 28 dX11_quarrel_93 (by decide) ?_
              refine J_lv [0, 1, 2, 3] rfl ?_
              exact ih28 (t + 1) (by omega) (by omega) (by rw [hI, show m - e = 0 by omega]; show (qrO _ m (23 - t) (t + 1)).getD (-1) = _; congr 2; omega) _ rfl
            · refine J_aload_n dX11_quarrel_49 rfl rfl ?_
              refine J_aload_n dX11_quarrel_50 rfl rfl ?_
              refine Cg_0_0 fr_X11_10_10 dX11_quarrel_51 ?_
              refine J_iload dX11_quarrel_54 rfl ?_
              refine J_cVi (x := yX12_in) [.int (nI e)] 1 mv_X11_169 (c_X1_bitsOf r (su 61 (su 40 (su 39 s ((wlF n m Cl (rfsM rf Rf (-1) 0) c).1)) (fun q => nI (rfB rf Rf (-1) 0 q))) (fun _ => nI (wlF n m Cl (rfsM rf Rf (-1) 0) c).2)) l n hn hn8 e) cW_1 rfl rfl (by decide) (Nat.le_of_ble_eq_true rfl) ⟨Nat.le_refl _, Nat.le_refl _⟩ dX11_quarrel_56 ?_
              refine J_rw (y := nI (hasM n ((wlF n m Cl (rfsM rf Rf (-1) 0) c).1) e)) rfl ?_
              refine J_iload_n dX11_quarrel_59 rfl rfl ?_
              refine J_cVi (x := yX12_in) [.int (nI (hasM n ((wlF n m Cl (rfsM rf Rf (-1) 0) c).1) e)), .int (nI t)] 2 mv_X11_189 (c_X4_bitsAt r (su 61 (su 40 (su 39 s ((wlF n m Cl (rfsM rf Rf (-1) 0) c).1)) (fun q => nI (rfB rf Rf (-1) 0 q))) (fun _ => nI (wlF n m Cl (rfsM rf Rf (-1) 0) c).2)) l n hn hn8 Hb hb hR hk (hasM n ((wlF n m Cl (rfsM rf Rf (-1) 0) c).1) e) t (bm_lt256 _ hn8) (by omega)) cW_2 rfl rfl (by decide) (Nat.le_of_ble_eq_true rfl) ⟨Nat.le_refl _, Nat.le_refl _⟩ dX11_quarrel_60 ?_
              refine J_rw (y := nI (atB n hb (hasM n ((wlF n m Cl (rfsM rf Rf (-1) 0) c).1) e) t)) rfl ?_
              refine J_rw (y := nI (onceM n Hb (wlF n m Cl (rfsM rf Rf (-1) 0) c).1 e t)) (congrArg nI (at_eq hk (by omega))) ?_
              refine J_istore [(0, .ref (r 0)), (1, .int (nI 0)), (2, .ref (r 2)), (3, .int (nI t)), (4, .int (nI e)), (5, .int (nI (onceM n Hb (wlF n m Cl (rfsM rf Rf (-1) 0) c).1 e t)))] dX11_quarrel_63 (by decide) rfl rfl rfl ?_
              refine J_iload dX11_quarrel_65 rfl ?_
              refine J_cSi [.int (nI (onceM n Hb (wlF n m Cl (rfsM rf Rf (-1) 0) c).1 e t))] ms_X11_192 (c_J6_bitCount_0f7a4 (cW G r (su 61 (su 40 (su 39 s ((wlF n m Cl (rfsM rf Rf (-1) 0) c).1)) (fun q => nI (rfB rf Rf (-1) 0 q))) (fun _ => nI (wlF n m Cl (rfsM rf Rf (-1) 0) c).2)) l) (onceM n Hb (wlF n m Cl (rfsM rf Rf (-1) 0) c).1 e t) (bm_lt256 _ hn8)) rfl rfl (by decide) (Nat.le_of_ble_eq_true rfl) ⟨Nat.le_refl _, Nat.le_refl _⟩ dX11_quarrel_67 ?_
              refine J_iconst (v := nI 2) dX11_quarrel_70 (by decide) ?_
              refine J_icmp_ltN 84 (popc_lt31 _) (by omega) dX11_quarrel_71 (by decide) (fun kcz3 => ?_) (fun kcz3 => ?_)
              · refine J_iincN [(0, .ref (r 0)), (1, .int (nI 0)), (2, .ref (r 2)), (3, .int (nI t)), (4, .int (nI (e + 1))), (5, .int (nI (onceM n Hb (wlF n m Cl (rfsM rf Rf (-1) 0) c).1 e t)))] dX11_quarrel_84 rfl (by decide) rfl rfl rfl ?_
                refine J_goto 37 dX11_quarrel_87 (by decide) ?_
                refine J_lv [0, 1, 2, 3, 4] rfl ?_
                exact ih37 (e + 1) (by omega) (by omega) (by rw [hI, qrI_no (A := fun e => quA n Hb (wlF n m Cl (rfsM rf Rf (-1) 0) c).1 0 e t) (by omega) (quA_no (by omega))]) _ rfl
              · refine J_iload_n dX11_quarrel_74 rfl rfl ?_
                refine J_iload_n dX11_quarrel_75 rfl rfl ?_
                refine J_iload dX11_quarrel_76 rfl ?_
                refine J_iload dX11_quarrel_78 rfl ?_
                refine J_cSi [.int (nI 0), .int (nI t), .int (nI e), .int (nI (onceM n Hb (wlF n m Cl (rfsM rf Rf (-1) 0) c).1 e t))] ms_X11_197 (c_X11_partOfQuarrel0 (cW G r (su 61 (su 40 (su 39 s ((wlF n m Cl (rfsM rf Rf (-1) 0) c).1)) (fun q => nI (rfB rf Rf (-1) 0 q))) (fun _ => nI (wlF n m Cl (rfsM rf Rf (-1) 0) c).2)) l) t e (onceM n Hb (wlF n m Cl (rfsM rf Rf (-1) 0) c).1 e t) (bm_lt256 _ hn8) (popc_pos (by omega))) rfl rfl (by decide) (Nat.le_of_ble_eq_true rfl) ⟨Nat.le_refl _, Nat.le_refl _⟩ dX11_quarrel_80 ?_
                exact J_iret dX11_quarrel_83 rfl rfl rfl (hq (su 61 (su 40 (su 39 s ((wlF n m Cl (rfsM rf Rf (-1) 0) c).1)) (fun q => nI (rfB rf Rf (-1) 0 q))) (fun _ => nI (wlF n m Cl (rfsM rf Rf (-1) 0) c).2)) l (nI t, σ) (by have e9 : quM n m Hb (wlF n m Cl (rfsM rf Rf (-1) 0) c).1 0 = nI t := (by rw [hI, qrI_yes (A := fun e => quA n Hb (wlF n m Cl (rfsM rf Rf (-1) 0) c).1 0 e t) (by omega) (quA_yes (by omega))]; rfl); subst en em ec erf esg eHb ehb eHe eaw eCl eRf eSg eVv; rw [wl0] at e9; simp [qQuarrel, wiS, rng_of (show 0 < 4 by decide) (by decide), nI_clamp (show 0 < 2 ^ 31 by decide)]; exact e9.symm) (show CI σ (su 61 (su 40 (su 39 s ((wlF n m Cl (rfsM rf Rf (-1) 0) c).1)) (fun q => nI (rfB rf Rf (-1) 0 q))) (fun _ => nI (wlF n m Cl (rfsM rf Rf (-1) 0) c).2)) from hC))
        exact L37 (m + 1) 0 (by omega) (by omega) (by rw [hO, qrO_s (by omega)]; rfl) _ rfl
  exact L28 25 0 (by omega) (by omega) rfl _ rfl
theorem c_X11_quarrel0 {G : GT} (r : Nat → Nat) (s : St) (l : Nat → Int64) (σ : St) (hL : LI σ) (hC : CI σ s) : Ct G yX11_quarrel cX11_quarrel 6 (some .int) 0 0 4 [.ref (r 0), .int (nI 0)] (cW G r s l) (QC G r ((qQuarrel (nI 0) σ, σ))) := Ct.of rfl (Nat.le_of_ble_eq_true rfl) (j_X11_quarrel0 r s l σ hL hC (fun x lx a h1 h2 => ⟨x, lx, by rw [h1], rfl, by rw [← h1]; exact h2⟩))
set_option maxRecDepth 100000 in
set_option maxHeartbeats 1000000 in
theorem j_X11_quarrel1 {G : GT} (r : Nat → Nat) (s : St) (l : Nat → Int64) (σ : St) (hL : LI σ) (hC : CI σ s) {Q : Option Value → va_W → Prop} (hq : ∀ (x : St) (lx : Nat → Int64) (a : Int32 × St), a = (qQuarrel (nI 1) σ, σ) → CI a.2 x → Q (some (.int a.1)) (cW G r x lx)) : J G "quarrel" RX11 cX11_quarrel 6 (some .int) 0 0 4 Q 0 0 0 [(0, .ref (r 0)), (1, .int (nI 1))] [] (cW G r s l) := by
  obtain ⟨n, en⟩ : ∃ z, z = nH σ := ⟨_, rfl⟩
  obtain ⟨m, em⟩ : ∃ z, z = nE σ := ⟨_, rfl⟩
  obtain ⟨c, ec⟩ : ∃ z, z = nC σ := ⟨_, rfl⟩
  obtain ⟨rf, erf⟩ : ∃ z, z = rfn σ := ⟨_, rfl⟩
  obtain ⟨sg, esg⟩ : ∃ z, z = sgn σ := ⟨_, rfl⟩
  obtain ⟨Hb, eHb⟩ : ∃ z, z = HbS σ := ⟨_, rfl⟩
  obtain ⟨hb, ehb⟩ : ∃ z, z = hbS σ := ⟨_, rfl⟩
  obtain ⟨He, eHe⟩ : ∃ z, z = HeS σ := ⟨_, rfl⟩
  obtain ⟨aw, eaw⟩ : ∃ z, z = awS σ := ⟨_, rfl⟩
  obtain ⟨Cl, eCl⟩ : ∃ z, z = ClS σ := ⟨_, rfl⟩
  obtain ⟨Rf, eRf⟩ : ∃ z, z = σ 13 := ⟨_, rfl⟩
  obtain ⟨Sg, eSg⟩ : ∃ z, z = σ 22 := ⟨_, rfl⟩
  obtain ⟨Vv, eVv⟩ : ∃ z, z = σ 16 := ⟨_, rfl⟩
  have hn8 : n ≤ 8 := by rw [en]; exact nH_le _
  have hm6 : m ≤ 6 := by rw [em]; exact nE_le _
  have hc15 : c ≤ 15 := by rw [ec]; exact nC_le _
  have hrf12 : rf ≤ 12 := by rw [erf]; exact hL.rf.2.1
  have hsg8 : sg ≤ 8 := by rw [esg]; exact hL.sg.2.1
  have hk : HbOk n Hb hb := by rw [en, eHb, ehb]; exact hbOk σ
  have ha : AwOk m He aw := by rw [em, eHe, eaw]; exact awOk σ
  have hn : s 52 0 = nI n := by rw [en]; exact hC.n
  have hm : s 55 0 = nI m := by rw [em]; exact hC.m
  have hc : s 58 0 = nI c := by rw [ec]; exact hC.c
  have hrf : s 60 0 = nI rf := by rw [erf]; exact hC.rf
  have hsg : s 62 0 = nI sg := by rw [esg]; exact hC.sg
  have hR : CHr n Hb hb s := by rw [en, eHb, ehb]; exact hC.hR
  have hE : CEr m He aw s := by rw [em, eHe, eaw]; exact hC.hE
  have hCl : CCr c Cl s := by rw [ec, eCl]; exact hC.hCl
  have hRf : CRr rf Rf s := by rw [erf, eRf]; exact hC.hRf hL
  have hSg : CSr sg Sg s := by rw [esg, eSg]; exact hC.hSg hL
  have hV : ∀ j, j < 42 → s 41 j = Vv j := by rw [eVv]; exact hC.hV
  refine J_iload_n dX11_quarrel_0 rfl rfl ?_
  refine J_iconst (v := nI 4) dX11_quarrel_1 (by decide) ?_
  refine J_cSi [.int (nI 1), .int (nI 4)] ms_X11_48 (c_X11_isBelowN (cW G r s l) (nI 1) 4) rfl rfl (by decide) (Nat.le_of_ble_eq_true rfl) ⟨Nat.le_refl _, Nat.le_refl _⟩ dX11_quarrel_2 ?_
  refine J_if_neB 11 dX11_quarrel_5 (by decide) (fun _ => ?_) (fun c => absurd c (by rw [(show rng (nI 1) 4 = true by decide)]; decide))
  refine J_aload_n dX11_quarrel_11 rfl rfl ?_
  refine Cg_0_0 fr_X11_10_10 dX11_quarrel_12 ?_
  refine J_cVv (x := yX12_in) [] 1 mv_X11_162 (c_X1_settle r s l n hn hn8 m hm hm6 c hc hc15 Cl hCl rf hrf hrf12 Rf hRf) cW_1 rfl rfl (by decide) (Nat.le_of_ble_eq_true rfl) ⟨Nat.le_refl _, Nat.le_refl _⟩ dX11_quarrel_15 ?_
  show J G "quarrel" RX11 cX11_quarrel 6 (some .int) 0 0 4 Q 0 0 18 [(0, .ref (r 0)), (1, .int (nI 1))] [] (cW G r (su 61 (su 40 (su 39 s ((wlF n m Cl (rfsM rf Rf (-1) 0) c).1)) (fun q => nI (rfB rf Rf (-1) 0 q))) (fun _ => nI (wlF n m Cl (rfsM rf Rf (-1) 0) c).2)) l)
  refine J_aload_n dX11_quarrel_18 rfl rfl ?_
  refine Cg_0_0 fr_X11_10_10 dX11_quarrel_19 ?_
  refine Cg_1_0 fr_X11_76_1 dX11_quarrel_22 ?_
  refine J_astore_n [(0, .ref (r 0)), (1, .int (nI 1)), (2, .ref (r 2))] dX11_quarrel_25 rfl (by decide) rfl rfl rfl ?_
  refine J_iconst (v := nI 0) dX11_quarrel_26 (by decide) ?_
  refine J_istore_n [(0, .ref (r 0)), (1, .int (nI 1)), (2, .ref (r 2)), (3, .int (nI 0))] dX11_quarrel_27 rfl (by decide) rfl rfl rfl ?_
  have L28 : ∀ (f t : Nat), 24 - t < f → t ≤ 24 → quM n m Hb (wlF n m Cl (rfsM rf Rf (-1) 0) c).1 1 = (qrO (quA n Hb (wlF n m Cl (rfsM rf Rf (-1) 0) c).1 1) m (24 - t) t).getD (-1) → ∀ (x3 : Int32), x3 = nI t → J G "quarrel" RX11 cX11_quarrel 6 (some .int) 0 0 4 Q 0 0 28 [(0, .ref (r 0)), (1, .int (nI 1)), (2, .ref (r 2)), (3, .int x3)] [] (cW G r (su 61 (su 40 (su 39 s ((wlF n m Cl (rfsM rf Rf (-1) 0) c).1)) (fun q => nI (rfB rf Rf (-1) 0 q))) (fun _ => nI (wlF n m Cl (rfsM rf Rf (-1) 0) c).2)) l) := by
    intro f
    induction f with
    | zero => intro t h; exact absurd h (Nat.not_lt_zero _)
    | succ f ih28 =>
      intro t hf28 hle28 hO x3 e3
      subst e3
      refine J_iload_n dX11_quarrel_28 rfl rfl ?_
      refine J_bipush (v := nI 24) dX11_quarrel_29 (by decide) ?_
      refine J_icmp_geN 96 (by omega) (by omega) dX11_quarrel_31 (by decide) (fun kcz1 => ?_) (fun kcz1 => ?_)
      · refine J_iconst (v := -1) dX11_quarrel_96 (by decide) ?_
        exact J_iret dX11_quarrel_97 rfl rfl rfl (hq (su 61 (su 40 (su 39 s ((wlF n m Cl (rfsM rf Rf (-1) 0) c).1)) (fun q => nI (rfB rf Rf (-1) 0 q))) (fun _ => nI (wlF n m Cl (rfsM rf Rf (-1) 0) c).2)) l ((-1), σ) (by have e9 : quM n m Hb (wlF n m Cl (rfsM rf Rf (-1) 0) c).1 1 = -1 := (by rw [hO, show 24 - t = 0 by omega]; rfl); subst en em ec erf esg eHb ehb eHe eaw eCl eRf eSg eVv; rw [wl0] at e9; simp [qQuarrel, wiS, rng_of (show 1 < 4 by decide) (by decide), nI_clamp (show 1 < 2 ^ 31 by decide)]; exact e9.symm) (show CI σ (su 61 (su 40 (su 39 s ((wlF n m Cl (rfsM rf Rf (-1) 0) c).1)) (fun q => nI (rfB rf Rf (-1) 0 q))) (fun _ => nI (wlF n m Cl (rfsM rf Rf (-1) 0) c).2)) from hC))
      · refine J_iconst (v := nI 0) dX11_quarrel_34 (by decide) ?_
        refine J_istore [(0, .ref (r 0)), (1, .int (nI 1)), (2, .ref (r 2)), (3, .int (nI t)), (4, .int (nI 0))] dX11_quarrel_35 (by decide) rfl rfl rfl ?_
        have L37 : ∀ (f e : Nat), m - e < f → e ≤ m → quM n m Hb (wlF n m Cl (rfsM rf Rf (-1) 0) c).1 1 = ((qrI (fun e => quA n Hb (wlF n m Cl (rfsM rf Rf (-1) 0) c).1 1 e t) (m - e) e).getD ((qrO (quA n Hb (wlF n m Cl (rfsM rf Rf (-1) 0) c).1 1) m (23 - t) (t + 1)).getD (-1))) → ∀ (x4 : Int32), x4 = nI e → J G "quarrel" RX11 cX11_quarrel 6 (some .int) 0 0 4 Q 0 0 37 [(0, .ref (r 0)), (1, .int (nI 1)), (2, .ref (r 2)), (3, .int (nI t)), (4, .int x4)] [] (cW G r (su 61 (su 40 (su 39 s ((wlF n m Cl (rfsM rf Rf (-1) 0) c).1)) (fun q => nI (rfB rf Rf (-1) 0 q))) (fun _ => nI (wlF n m Cl (rfsM rf Rf (-1) 0) c).2)) l) := by
          intro f
          induction f with
          | zero => intro e h; exact absurd h (Nat.not_lt_zero _)
          | succ f ih37 =>
            intro e hf37 hle37 hI x4 e4
            subst e4
            refine J_iload dX11_quarrel_37 rfl ?_
            refine J_aload_n dX11_quarrel_39 rfl rfl ?_
            refine Cg_2_1 fr_X11_107_4 dX11_quarrel_40 ?_
            refine Cg_4_4 (s := (su 61 (su 40 (su 39 s ((wlF n m Cl (rfsM rf Rf (-1) 0) c).1)) (fun q => nI (rfB rf Rf (-1) 0 q))) (fun _ => nI (wlF n m Cl (rfsM rf Rf (-1) 0) c).2))) fr_X11_188_3 (s 55 0) rfl dX11_quarrel_43 ?_
            refine J_rw (y := nI m) hm ?_
            refine J_icmp_geN 90 (by omega) (by omega) dX11_quarrel_46 (by decide) (fun kcz2 => ?_) (fun kcz2 => ?_)
            · refine J_iincN [(0, .ref (r 0)), (1, .int (nI 1)), (2, .ref (r 2)), (3, .int (nI (t + 1))), (4, .int (nI e))] dX11_quarrel_90 rfl (by decide) rfl rfl rfl ?_
              refine J_goto 28 dX11_quarrel_93 (by decide) ?_
              refine J_lv [0, 1, 2, 3] rfl ?_
              exact ih28 (t + 1) (by omega) (by omega) (by rw [hI, show m - e = 0 by omega]; show (qrO _ m (23 - t) (t + 1)).getD (-1) = _; congr 2; omega) _ rfl
            · refine J_aload_n dX11_quarrel_49 rfl rfl ?_
              refine J_aload_n dX11_quarrel_50 rfl rfl ?_
              refine Cg_0_0 fr_X11_10_10 dX11_quarrel_51 ?_
              refine J_iload dX11_quarrel_54 rfl ?_
              refine J_cVi (x := yX12_in) [.int (nI e)] 1 mv_X11_169 (c_X1_bitsOf r (su 61 (su 40 (su 39 s ((wlF n m Cl (rfsM rf Rf (-1) 0) c).1)) (fun q => nI (rfB rf Rf (-1) 0 q))) (fun _ => nI (wlF n m Cl (rfsM rf Rf (-1) 0) c).2)) l n hn hn8 e) cW_1 rfl rfl (by decide) (Nat.le_of_ble_eq_true rfl) ⟨Nat.le_refl _, Nat.le_refl _⟩ dX11_quarrel_56 ?_
              refine J_rw (y := nI (hasM n ((wlF n m Cl (rfsM rf Rf (-1) 0) c).1) e)) rfl ?_
              refine J_iload_n dX11_quarrel_59 rfl rfl ?_
              refine J_cVi (x := yX12_in) [.int (nI (hasM n ((wlF n m Cl (rfsM rf Rf (-1) 0) c).1) e)), .int (nI t)] 2 mv_X11_189 (c_X4_bitsAt r (su 61 (su 40 (su 39 s ((wlF n m Cl (rfsM rf Rf (-1) 0) c).1)) (fun q => nI (rfB rf Rf (-1) 0 q))) (fun _ => nI (wlF n m Cl (rfsM rf Rf (-1) 0) c).2)) l n hn hn8 Hb hb hR hk (hasM n ((wlF n m Cl (rfsM rf Rf (-1) 0) c).1) e) t (bm_lt256 _ hn8) (by omega)) cW_2 rfl rfl (by decide) (Nat.le_of_ble_eq_true rfl) ⟨Nat.le_refl _, Nat.le_refl _⟩ dX11_quarrel_60 ?_
              refine J_rw (y := nI (atB n hb (hasM n ((wlF n m Cl (rfsM rf Rf (-1) 0) c).1) e) t)) rfl ?_
              refine J_rw (y := nI (onceM n Hb (wlF n m Cl (rfsM rf Rf (-1) 0) c).1 e t)) (congrArg nI (at_eq hk (by omega))) ?_
              refine J_istore [(0, .ref (r 0)), (1, .int (nI 1)), (2, .ref (r 2)), (3, .int (nI t)), (4, .int (nI e)), (5, .int (nI (onceM n Hb (wlF n m Cl (rfsM rf Rf (-1) 0) c).1 e t)))] dX11_quarrel_63 (by decide) rfl rfl rfl ?_
              refine J_iload dX11_quarrel_65 rfl ?_
              refine J_cSi [.int (nI (onceM n Hb (wlF n m Cl (rfsM rf Rf (-1) 0) c).1 e t))] ms_X11_192 (c_J6_bitCount_0f7a4 (cW G r (su 61 (su 40 (su 39 s ((wlF n m Cl (rfsM rf Rf (-1) 0) c).1)) (fun q => nI (rfB rf Rf (-1) 0 q))) (fun _ => nI (wlF n m Cl (rfsM rf Rf (-1) 0) c).2)) l) (onceM n Hb (wlF n m Cl (rfsM rf Rf (-1) 0) c).1 e t) (bm_lt256 _ hn8)) rfl rfl (by decide) (Nat.le_of_ble_eq_true rfl) ⟨Nat.le_refl _, Nat.le_refl _⟩ dX11_quarrel_67 ?_
              refine J_iconst (v := nI 2) dX11_quarrel_70 (by decide) ?_
              refine J_icmp_ltN 84 (popc_lt31 _) (by omega) dX11_quarrel_71 (by decide) (fun kcz3 => ?_) (fun kcz3 => ?_)
              · refine J_iincN [(0, .ref (r 0)), (1, .int (nI 1)), (2, .ref (r 2)), (3, .int (nI t)), (4, .int (nI (e + 1))), (5, .int (nI (onceM n Hb (wlF n m Cl (rfsM rf Rf (-1) 0) c).1 e t)))] dX11_quarrel_84 rfl (by decide) rfl rfl rfl ?_
                refine J_goto 37 dX11_quarrel_87 (by decide) ?_
                refine J_lv [0, 1, 2, 3, 4] rfl ?_
                exact ih37 (e + 1) (by omega) (by omega) (by rw [hI, qrI_no (A := fun e => quA n Hb (wlF n m Cl (rfsM rf Rf (-1) 0) c).1 1 e t) (by omega) (quA_no (by omega))]) _ rfl
              · refine J_iload_n dX11_quarrel_74 rfl rfl ?_
                refine J_iload_n dX11_quarrel_75 rfl rfl ?_
                refine J_iload dX11_quarrel_76 rfl ?_
                refine J_iload dX11_quarrel_78 rfl ?_
                refine J_cSi [.int (nI 1), .int (nI t), .int (nI e), .int (nI (onceM n Hb (wlF n m Cl (rfsM rf Rf (-1) 0) c).1 e t))] ms_X11_197 (c_X11_partOfQuarrel1 (cW G r (su 61 (su 40 (su 39 s ((wlF n m Cl (rfsM rf Rf (-1) 0) c).1)) (fun q => nI (rfB rf Rf (-1) 0 q))) (fun _ => nI (wlF n m Cl (rfsM rf Rf (-1) 0) c).2)) l) t e (onceM n Hb (wlF n m Cl (rfsM rf Rf (-1) 0) c).1 e t) (bm_lt256 _ hn8) (popc_pos (by omega))) rfl rfl (by decide) (Nat.le_of_ble_eq_true rfl) ⟨Nat.le_refl _, Nat.le_refl _⟩ dX11_quarrel_80 ?_
                exact J_iret dX11_quarrel_83 rfl rfl rfl (hq (su 61 (su 40 (su 39 s ((wlF n m Cl (rfsM rf Rf (-1) 0) c).1)) (fun q => nI (rfB rf Rf (-1) 0 q))) (fun _ => nI (wlF n m Cl (rfsM rf Rf (-1) 0) c).2)) l (nI e, σ) (by have e9 : quM n m Hb (wlF n m Cl (rfsM rf Rf (-1) 0) c).1 1 = nI e := (by rw [hI, qrI_yes (A := fun e => quA n Hb (wlF n m Cl (rfsM rf Rf (-1) 0) c).1 1 e t) (by omega) (quA_yes (by omega))]; rfl); subst en em ec erf esg eHb ehb eHe eaw eCl eRf eSg eVv; rw [wl0] at e9; simp [qQuarrel, wiS, rng_of (show 1 < 4 by decide) (by decide), nI_clamp (show 1 < 2 ^ 31 by decide)]; exact e9.symm) (show CI σ (su 61 (su 40 (su 39 s ((wlF n m Cl (rfsM rf Rf (-1) 0) c).1)) (fun q => nI (rfB rf Rf (-1) 0 q))) (fun _ => nI (wlF n m Cl (rfsM rf Rf (-1) 0) c).2)) from hC))
        exact L37 (m + 1) 0 (by omega) (by omega) (by rw [hO, qrO_s (by omega)]; rfl) _ rfl
  exact L28 25 0 (by omega) (by omega) rfl _ rfl
theorem c_X11_quarrel1 {G : GT} (r : Nat → Nat) (s : St) (l : Nat → Int64) (σ : St) (hL : LI σ) (hC : CI σ s) : Ct G yX11_quarrel cX11_quarrel 6 (some .int) 0 0 4 [.ref (r 0), .int (nI 1)] (cW G r s l) (QC G r ((qQuarrel (nI 1) σ, σ))) := Ct.of rfl (Nat.le_of_ble_eq_true rfl) (j_X11_quarrel1 r s l σ hL hC (fun x lx a h1 h2 => ⟨x, lx, by rw [h1], rfl, by rw [← h1]; exact h2⟩))
set_option maxRecDepth 100000 in
set_option maxHeartbeats 1000000 in
theorem j_X11_quarrel2 {G : GT} (r : Nat → Nat) (s : St) (l : Nat → Int64) (σ : St) (hL : LI σ) (hC : CI σ s) {Q : Option Value → va_W → Prop} (hq : ∀ (x : St) (lx : Nat → Int64) (a : Int32 × St), a = (qQuarrel (nI 2) σ, σ) → CI a.2 x → Q (some (.int a.1)) (cW G r x lx)) : J G "quarrel" RX11 cX11_quarrel 6 (some .int) 0 0 4 Q 0 0 0 [(0, .ref (r 0)), (1, .int (nI 2))] [] (cW G r s l) := by
  obtain ⟨n, en⟩ : ∃ z, z = nH σ := ⟨_, rfl⟩
  obtain ⟨m, em⟩ : ∃ z, z = nE σ := ⟨_, rfl⟩
  obtain ⟨c, ec⟩ : ∃ z, z = nC σ := ⟨_, rfl⟩
  obtain ⟨rf, erf⟩ : ∃ z, z = rfn σ := ⟨_, rfl⟩
  obtain ⟨sg, esg⟩ : ∃ z, z = sgn σ := ⟨_, rfl⟩
  obtain ⟨Hb, eHb⟩ : ∃ z, z = HbS σ := ⟨_, rfl⟩
  obtain ⟨hb, ehb⟩ : ∃ z, z = hbS σ := ⟨_, rfl⟩
  obtain ⟨He, eHe⟩ : ∃ z, z = HeS σ := ⟨_, rfl⟩
  obtain ⟨aw, eaw⟩ : ∃ z, z = awS σ := ⟨_, rfl⟩
  obtain ⟨Cl, eCl⟩ : ∃ z, z = ClS σ := ⟨_, rfl⟩
  obtain ⟨Rf, eRf⟩ : ∃ z, z = σ 13 := ⟨_, rfl⟩
  obtain ⟨Sg, eSg⟩ : ∃ z, z = σ 22 := ⟨_, rfl⟩
  obtain ⟨Vv, eVv⟩ : ∃ z, z = σ 16 := ⟨_, rfl⟩
  have hn8 : n ≤ 8 := by rw [en]; exact nH_le _
  have hm6 : m ≤ 6 := by rw [em]; exact nE_le _
  have hc15 : c ≤ 15 := by rw [ec]; exact nC_le _
  have hrf12 : rf ≤ 12 := by rw [erf]; exact hL.rf.2.1
  have hsg8 : sg ≤ 8 := by rw [esg]; exact hL.sg.2.1
  have hk : HbOk n Hb hb := by rw [en, eHb, ehb]; exact hbOk σ
  have ha : AwOk m He aw := by rw [em, eHe, eaw]; exact awOk σ
  have hn : s 52 0 = nI n := by rw [en]; exact hC.n
  have hm : s 55 0 = nI m := by rw [em]; exact hC.m
  have hc : s 58 0 = nI c := by rw [ec]; exact hC.c
  have hrf : s 60 0 = nI rf := by rw [erf]; exact hC.rf
  have hsg : s 62 0 = nI sg := by rw [esg]; exact hC.sg
  have hR : CHr n Hb hb s := by rw [en, eHb, ehb]; exact hC.hR
  have hE : CEr m He aw s := by rw [em, eHe, eaw]; exact hC.hE
  have hCl : CCr c Cl s := by rw [ec, eCl]; exact hC.hCl
  have hRf : CRr rf Rf s := by rw [erf, eRf]; exact hC.hRf hL
  have hSg : CSr sg Sg s := by rw [esg, eSg]; exact hC.hSg hL
  have hV : ∀ j, j < 42 → s 41 j = Vv j := by rw [eVv]; exact hC.hV
  refine J_iload_n dX11_quarrel_0 rfl rfl ?_
  refine J_iconst (v := nI 4) dX11_quarrel_1 (by decide) ?_
  refine J_cSi [.int (nI 2), .int (nI 4)] ms_X11_48 (c_X11_isBelowN (cW G r s l) (nI 2) 4) rfl rfl (by decide) (Nat.le_of_ble_eq_true rfl) ⟨Nat.le_refl _, Nat.le_refl _⟩ dX11_quarrel_2 ?_
  refine J_if_neB 11 dX11_quarrel_5 (by decide) (fun _ => ?_) (fun c => absurd c (by rw [(show rng (nI 2) 4 = true by decide)]; decide))
  refine J_aload_n dX11_quarrel_11 rfl rfl ?_
  refine Cg_0_0 fr_X11_10_10 dX11_quarrel_12 ?_
  refine J_cVv (x := yX12_in) [] 1 mv_X11_162 (c_X1_settle r s l n hn hn8 m hm hm6 c hc hc15 Cl hCl rf hrf hrf12 Rf hRf) cW_1 rfl rfl (by decide) (Nat.le_of_ble_eq_true rfl) ⟨Nat.le_refl _, Nat.le_refl _⟩ dX11_quarrel_15 ?_
  show J G "quarrel" RX11 cX11_quarrel 6 (some .int) 0 0 4 Q 0 0 18 [(0, .ref (r 0)), (1, .int (nI 2))] [] (cW G r (su 61 (su 40 (su 39 s ((wlF n m Cl (rfsM rf Rf (-1) 0) c).1)) (fun q => nI (rfB rf Rf (-1) 0 q))) (fun _ => nI (wlF n m Cl (rfsM rf Rf (-1) 0) c).2)) l)
  refine J_aload_n dX11_quarrel_18 rfl rfl ?_
  refine Cg_0_0 fr_X11_10_10 dX11_quarrel_19 ?_
  refine Cg_1_0 fr_X11_76_1 dX11_quarrel_22 ?_
  refine J_astore_n [(0, .ref (r 0)), (1, .int (nI 2)), (2, .ref (r 2))] dX11_quarrel_25 rfl (by decide) rfl rfl rfl ?_
  refine J_iconst (v := nI 0) dX11_quarrel_26 (by decide) ?_
  refine J_istore_n [(0, .ref (r 0)), (1, .int (nI 2)), (2, .ref (r 2)), (3, .int (nI 0))] dX11_quarrel_27 rfl (by decide) rfl rfl rfl ?_
  have L28 : ∀ (f t : Nat), 24 - t < f → t ≤ 24 → quM n m Hb (wlF n m Cl (rfsM rf Rf (-1) 0) c).1 2 = (qrO (quA n Hb (wlF n m Cl (rfsM rf Rf (-1) 0) c).1 2) m (24 - t) t).getD (-1) → ∀ (x3 : Int32), x3 = nI t → J G "quarrel" RX11 cX11_quarrel 6 (some .int) 0 0 4 Q 0 0 28 [(0, .ref (r 0)), (1, .int (nI 2)), (2, .ref (r 2)), (3, .int x3)] [] (cW G r (su 61 (su 40 (su 39 s ((wlF n m Cl (rfsM rf Rf (-1) 0) c).1)) (fun q => nI (rfB rf Rf (-1) 0 q))) (fun _ => nI (wlF n m Cl (rfsM rf Rf (-1) 0) c).2)) l) := by
    intro f
    induction f with
    | zero => intro t h; exact absurd h (Nat.not_lt_zero _)
    | succ f ih28 =>
      intro t hf28 hle28 hO x3 e3
      subst e3
      refine J_iload_n dX11_quarrel_28 rfl rfl ?_
      refine J_bipush (v := nI 24) dX11_quarrel_29 (by decide) ?_
      refine J_icmp_geN 96 (by omega) (by omega) dX11_quarrel_31 (by decide) (fun kcz1 => ?_) (fun kcz1 => ?_)
      · refine J_iconst (v := -1) dX11_quarrel_96 (by decide) ?_
        exact J_iret dX11_quarrel_97 rfl rfl rfl (hq (su 61 (su 40 (su 39 s ((wlF n m Cl (rfsM rf Rf (-1) 0) c).1)) (fun q => nI (rfB rf Rf (-1) 0 q))) (fun _ => nI (wlF n m Cl (rfsM rf Rf (-1) 0) c).2)) l ((-1), σ) (by have e9 : quM n m Hb (wlF n m Cl (rfsM rf Rf (-1) 0) c).1 2 = -1 := (by rw [hO, show 24 - t = 0 by omega]; rfl); subst en em ec erf esg eHb ehb eHe eaw eCl eRf eSg eVv; rw [wl0] at e9; simp [qQuarrel, wiS, rng_of (show 2 < 4 by decide) (by decide), nI_clamp (show 2 < 2 ^ 31 by decide)]; exact e9.symm) (show CI σ (su 61 (su 40 (su 39 s ((wlF n m Cl (rfsM rf Rf (-1) 0) c).1)) (fun q => nI (rfB rf Rf (-1) 0 q))) (fun _ => nI (wlF n m Cl (rfsM rf Rf (-1) 0) c).2)) from hC))
      · refine J_iconst (v := nI 0) dX11_quarrel_34 (by decide) ?_
        refine J_istore [(0, .ref (r 0)), (1, .int (nI 2)), (2, .ref (r 2)), (3, .int (nI t)), (4, .int (nI 0))] dX11_quarrel_35 (by decide) rfl rfl rfl ?_
        have L37 : ∀ (f e : Nat), m - e < f → e ≤ m → quM n m Hb (wlF n m Cl (rfsM rf Rf (-1) 0) c).1 2 = ((qrI (fun e => quA n Hb (wlF n m Cl (rfsM rf Rf (-1) 0) c).1 2 e t) (m - e) e).getD ((qrO (quA n Hb (wlF n m Cl (rfsM rf Rf (-1) 0) c).1 2) m (23 - t) (t + 1)).getD (-1))) → ∀ (x4 : Int32), x4 = nI e → J G "quarrel" RX11 cX11_quarrel 6 (some .int) 0 0 4 Q 0 0 37 [(0, .ref (r 0)), (1, .int (nI 2)), (2, .ref (r 2)), (3, .int (nI t)), (4, .int x4)] [] (cW G r (su 61 (su 40 (su 39 s ((wlF n m Cl (rfsM rf Rf (-1) 0) c).1)) (fun q => nI (rfB rf Rf (-1) 0 q))) (fun _ => nI (wlF n m Cl (rfsM rf Rf (-1) 0) c).2)) l) := by
          intro f
          induction f with
          | zero => intro e h; exact absurd h (Nat.not_lt_zero _)
          | succ f ih37 =>
            intro e hf37 hle37 hI x4 e4
            subst e4
            refine J_iload dX11_quarrel_37 rfl ?_
            refine J_aload_n dX11_quarrel_39 rfl rfl ?_
            refine Cg_2_1 fr_X11_107_4 dX11_quarrel_40 ?_
            refine Cg_4_4 (s := (su 61 (su 40 (su 39 s ((wlF n m Cl (rfsM rf Rf (-1) 0) c).1)) (fun q => nI (rfB rf Rf (-1) 0 q))) (fun _ => nI (wlF n m Cl (rfsM rf Rf (-1) 0) c).2))) fr_X11_188_3 (s 55 0) rfl dX11_quarrel_43 ?_
            refine J_rw (y := nI m) hm ?_
            refine J_icmp_geN 90 (by omega) (by omega) dX11_quarrel_46 (by decide) (fun kcz2 => ?_) (fun kcz2 => ?_)
            · refine J_iincN [(0, .ref (r 0)), (1, .int (nI 2)), (2, .ref (r 2)), (3, .int (nI (t + 1))), (4, .int (nI e))] dX11_quarrel_90 rfl (by decide) rfl rfl rfl ?_
              refine J_goto 28 dX11_quarrel_93 (by decide) ?_
              refine J_lv [0, 1, 2, 3] rfl ?_
              exact ih28 (t + 1) (by omega) (by omega) (by rw [hI, show m - e = 0 by omega]; show (qrO _ m (23 - t) (t + 1)).getD (-1) = _; congr 2; omega) _ rfl
            · refine J_aload_n dX11_quarrel_49 rfl rfl ?_
              refine J_aload_n dX11_quarrel_50 rfl rfl ?_
              refine Cg_0_0 fr_X11_10_10 dX11_quarrel_51 ?_
              refine J_iload dX11_quarrel_54 rfl ?_
              refine J_cVi (x := yX12_in) [.int (nI e)] 1 mv_X11_169 (c_X1_bitsOf r (su 61 (su 40 (su 39 s ((wlF n m Cl (rfsM rf Rf (-1) 0) c).1)) (fun q => nI (rfB rf Rf (-1) 0 q))) (fun _ => nI (wlF n m Cl (rfsM rf Rf (-1) 0) c).2)) l n hn hn8 e) cW_1 rfl rfl (by decide) (Nat.le_of_ble_eq_true rfl) ⟨Nat.le_refl _, Nat.le_refl _⟩ dX11_quarrel_56 ?_
              refine J_rw (y := nI (hasM n ((wlF n m Cl (rfsM rf Rf (-1) 0) c).1) e)) rfl ?_
              refine J_iload_n dX11_quarrel_59 rfl rfl ?_
              refine J_cVi (x := yX12_in) [.int (nI (hasM n ((wlF n m Cl (rfsM rf Rf (-1) 0) c).1) e)), .int (nI t)] 2 mv_X11_189 (c_X4_bitsAt r (su 61 (su 40 (su 39 s ((wlF n m Cl (rfsM rf Rf (-1) 0) c).1)) (fun q => nI (rfB rf Rf (-1) 0 q))) (fun _ => nI (wlF n m Cl (rfsM rf Rf (-1) 0) c).2)) l n hn hn8 Hb hb hR hk (hasM n ((wlF n m Cl (rfsM rf Rf (-1) 0) c).1) e) t (bm_lt256 _ hn8) (by omega)) cW_2 rfl rfl (by decide) (Nat.le_of_ble_eq_true rfl) ⟨Nat.le_refl _, Nat.le_refl _⟩ dX11_quarrel_60 ?_
              refine J_rw (y := nI (atB n hb (hasM n ((wlF n m Cl (rfsM rf Rf (-1) 0) c).1) e) t)) rfl ?_
              refine J_rw (y := nI (onceM n Hb (wlF n m Cl (rfsM rf Rf (-1) 0) c).1 e t)) (congrArg nI (at_eq hk (by omega))) ?_
              refine J_istore [(0, .ref (r 0)), (1, .int (nI 2)), (2, .ref (r 2)), (3, .int (nI t)), (4, .int (nI e)), (5, .int (nI (onceM n Hb (wlF n m Cl (rfsM rf Rf (-1) 0) c).1 e t)))] dX11_quarrel_63 (by decide) rfl rfl rfl ?_
              refine J_iload dX11_quarrel_65 rfl ?_
              refine J_cSi [.int (nI (onceM n Hb (wlF n m Cl (rfsM rf Rf (-1) 0) c).1 e t))] ms_X11_192 (c_J6_bitCount_0f7a4 (cW G r (su 61 (su 40 (su 39 s ((wlF n m Cl (rfsM rf Rf (-1) 0) c).1)) (fun q => nI (rfB rf Rf (-1) 0 q))) (fun _ => nI (wlF n m Cl (rfsM rf Rf (-1) 0) c).2)) l) (onceM n Hb (wlF n m Cl (rfsM rf Rf (-1) 0) c).1 e t) (bm_lt256 _ hn8)) rfl rfl (by decide) (Nat.le_of_ble_eq_true rfl) ⟨Nat.le_refl _, Nat.le_refl _⟩ dX11_quarrel_67 ?_
              refine J_iconst (v := nI 2) dX11_quarrel_70 (by decide) ?_
              refine J_icmp_ltN 84 (popc_lt31 _) (by omega) dX11_quarrel_71 (by decide) (fun kcz3 => ?_) (fun kcz3 => ?_)
              · refine J_iincN [(0, .ref (r 0)), (1, .int (nI 2)), (2, .ref (r 2)), (3, .int (nI t)), (4, .int (nI (e + 1))), (5, .int (nI (onceM n Hb (wlF n m Cl (rfsM rf Rf (-1) 0) c).1 e t)))] dX11_quarrel_84 rfl (by decide) rfl rfl rfl ?_
                refine J_goto 37 dX11_quarrel_87 (by decide) ?_
                refine J_lv [0, 1, 2, 3, 4] rfl ?_
                exact ih37 (e + 1) (by omega) (by omega) (by rw [hI, qrI_no (A := fun e => quA n Hb (wlF n m Cl (rfsM rf Rf (-1) 0) c).1 2 e t) (by omega) (quA_no (by omega))]) _ rfl
              · refine J_iload_n dX11_quarrel_74 rfl rfl ?_
                refine J_iload_n dX11_quarrel_75 rfl rfl ?_
                refine J_iload dX11_quarrel_76 rfl ?_
                refine J_iload dX11_quarrel_78 rfl ?_
                refine J_cSi [.int (nI 2), .int (nI t), .int (nI e), .int (nI (onceM n Hb (wlF n m Cl (rfsM rf Rf (-1) 0) c).1 e t))] ms_X11_197 (c_X11_partOfQuarrel2 (cW G r (su 61 (su 40 (su 39 s ((wlF n m Cl (rfsM rf Rf (-1) 0) c).1)) (fun q => nI (rfB rf Rf (-1) 0 q))) (fun _ => nI (wlF n m Cl (rfsM rf Rf (-1) 0) c).2)) l) t e (onceM n Hb (wlF n m Cl (rfsM rf Rf (-1) 0) c).1 e t) (bm_lt256 _ hn8) (popc_pos (by omega))) rfl rfl (by decide) (Nat.le_of_ble_eq_true rfl) ⟨Nat.le_refl _, Nat.le_refl _⟩ dX11_quarrel_80 ?_
                refine J_rw (y := nI (lo1 (onceM n Hb (wlF n m Cl (rfsM rf Rf (-1) 0) c).1 e t))) (ls_lo (onceM n Hb (wlF n m Cl (rfsM rf Rf (-1) 0) c).1 e t) (bm_lt256 _ hn8) (by omega)).1.symm ?_
                exact J_iret dX11_quarrel_83 rfl rfl rfl (hq (su 61 (su 40 (su 39 s ((wlF n m Cl (rfsM rf Rf (-1) 0) c).1)) (fun q => nI (rfB rf Rf (-1) 0 q))) (fun _ => nI (wlF n m Cl (rfsM rf Rf (-1) 0) c).2)) l (nI (lo1 (onceM n Hb (wlF n m Cl (rfsM rf Rf (-1) 0) c).1 e t)), σ) (by have e9 : quM n m Hb (wlF n m Cl (rfsM rf Rf (-1) 0) c).1 2 = nI (lo1 (onceM n Hb (wlF n m Cl (rfsM rf Rf (-1) 0) c).1 e t)) := (by rw [hI, qrI_yes (A := fun e => quA n Hb (wlF n m Cl (rfsM rf Rf (-1) 0) c).1 2 e t) (by omega) (quA_yes (by omega))]; rfl); subst en em ec erf esg eHb ehb eHe eaw eCl eRf eSg eVv; rw [wl0] at e9; rw [wl0]; simp [qQuarrel, wiS, rng_of (show 2 < 4 by decide) (by decide), nI_clamp (show 2 < 2 ^ 31 by decide)]; exact e9.symm) (show CI σ (su 61 (su 40 (su 39 s ((wlF n m Cl (rfsM rf Rf (-1) 0) c).1)) (fun q => nI (rfB rf Rf (-1) 0 q))) (fun _ => nI (wlF n m Cl (rfsM rf Rf (-1) 0) c).2)) from hC))
        exact L37 (m + 1) 0 (by omega) (by omega) (by rw [hO, qrO_s (by omega)]; rfl) _ rfl
  exact L28 25 0 (by omega) (by omega) rfl _ rfl
theorem c_X11_quarrel2 {G : GT} (r : Nat → Nat) (s : St) (l : Nat → Int64) (σ : St) (hL : LI σ) (hC : CI σ s) : Ct G yX11_quarrel cX11_quarrel 6 (some .int) 0 0 4 [.ref (r 0), .int (nI 2)] (cW G r s l) (QC G r ((qQuarrel (nI 2) σ, σ))) := Ct.of rfl (Nat.le_of_ble_eq_true rfl) (j_X11_quarrel2 r s l σ hL hC (fun x lx a h1 h2 => ⟨x, lx, by rw [h1], rfl, by rw [← h1]; exact h2⟩))
set_option maxRecDepth 100000 in
set_option maxHeartbeats 1000000 in
theorem j_X11_quarrel3 {G : GT} (r : Nat → Nat) (s : St) (l : Nat → Int64) (σ : St) (hL : LI σ) (hC : CI σ s) {Q : Option Value → va_W → Prop} (hq : ∀ (x : St) (lx : Nat → Int64) (a : Int32 × St), a = (qQuarrel (nI 3) σ, σ) → CI a.2 x → Q (some (.int a.1)) (cW G r x lx)) : J G "quarrel" RX11 cX11_quarrel 6 (some .int) 0 0 4 Q 0 0 0 [(0, .ref (r 0)), (1, .int (nI 3))] [] (cW G r s l) := by
  obtain ⟨n, en⟩ : ∃ z, z = nH σ := ⟨_, rfl⟩
  obtain ⟨m, em⟩ : ∃ z, z = nE σ := ⟨_, rfl⟩
  obtain ⟨c, ec⟩ : ∃ z, z = nC σ := ⟨_, rfl⟩
  obtain ⟨rf, erf⟩ : ∃ z, z = rfn σ := ⟨_, rfl⟩
  obtain ⟨sg, esg⟩ : ∃ z, z = sgn σ := ⟨_, rfl⟩
  obtain ⟨Hb, eHb⟩ : ∃ z, z = HbS σ := ⟨_, rfl⟩
  obtain ⟨hb, ehb⟩ : ∃ z, z = hbS σ := ⟨_, rfl⟩
  obtain ⟨He, eHe⟩ : ∃ z, z = HeS σ := ⟨_, rfl⟩
  obtain ⟨aw, eaw⟩ : ∃ z, z = awS σ := ⟨_, rfl⟩
  obtain ⟨Cl, eCl⟩ : ∃ z, z = ClS σ := ⟨_, rfl⟩
  obtain ⟨Rf, eRf⟩ : ∃ z, z = σ 13 := ⟨_, rfl⟩
  obtain ⟨Sg, eSg⟩ : ∃ z, z = σ 22 := ⟨_, rfl⟩
  obtain ⟨Vv, eVv⟩ : ∃ z, z = σ 16 := ⟨_, rfl⟩
  have hn8 : n ≤ 8 := by rw [en]; exact nH_le _
  have hm6 : m ≤ 6 := by rw [em]; exact nE_le _
  have hc15 : c ≤ 15 := by rw [ec]; exact nC_le _
  have hrf12 : rf ≤ 12 := by rw [erf]; exact hL.rf.2.1
  have hsg8 : sg ≤ 8 := by rw [esg]; exact hL.sg.2.1
  have hk : HbOk n Hb hb := by rw [en, eHb, ehb]; exact hbOk σ
  have ha : AwOk m He aw := by rw [em, eHe, eaw]; exact awOk σ
  have hn : s 52 0 = nI n := by rw [en]; exact hC.n
  have hm : s 55 0 = nI m := by rw [em]; exact hC.m
  have hc : s 58 0 = nI c := by rw [ec]; exact hC.c
  have hrf : s 60 0 = nI rf := by rw [erf]; exact hC.rf
  have hsg : s 62 0 = nI sg := by rw [esg]; exact hC.sg
  have hR : CHr n Hb hb s := by rw [en, eHb, ehb]; exact hC.hR
  have hE : CEr m He aw s := by rw [em, eHe, eaw]; exact hC.hE
  have hCl : CCr c Cl s := by rw [ec, eCl]; exact hC.hCl
  have hRf : CRr rf Rf s := by rw [erf, eRf]; exact hC.hRf hL
  have hSg : CSr sg Sg s := by rw [esg, eSg]; exact hC.hSg hL
  have hV : ∀ j, j < 42 → s 41 j = Vv j := by rw [eVv]; exact hC.hV
  refine J_iload_n dX11_quarrel_0 rfl rfl ?_
  refine J_iconst (v := nI 4) dX11_quarrel_1 (by decide) ?_
  refine J_cSi [.int (nI 3), .int (nI 4)] ms_X11_48 (c_X11_isBelowN (cW G r s l) (nI 3) 4) rfl rfl (by decide) (Nat.le_of_ble_eq_true rfl) ⟨Nat.le_refl _, Nat.le_refl _⟩ dX11_quarrel_2 ?_
  refine J_if_neB 11 dX11_quarrel_5 (by decide) (fun _ => ?_) (fun c => absurd c (by rw [(show rng (nI 3) 4 = true by decide)]; decide))
  refine J_aload_n dX11_quarrel_11 rfl rfl ?_
  refine Cg_0_0 fr_X11_10_10 dX11_quarrel_12 ?_
  refine J_cVv (x := yX12_in) [] 1 mv_X11_162 (c_X1_settle r s l n hn hn8 m hm hm6 c hc hc15 Cl hCl rf hrf hrf12 Rf hRf) cW_1 rfl rfl (by decide) (Nat.le_of_ble_eq_true rfl) ⟨Nat.le_refl _, Nat.le_refl _⟩ dX11_quarrel_15 ?_
  show J G "quarrel" RX11 cX11_quarrel 6 (some .int) 0 0 4 Q 0 0 18 [(0, .ref (r 0)), (1, .int (nI 3))] [] (cW G r (su 61 (su 40 (su 39 s ((wlF n m Cl (rfsM rf Rf (-1) 0) c).1)) (fun q => nI (rfB rf Rf (-1) 0 q))) (fun _ => nI (wlF n m Cl (rfsM rf Rf (-1) 0) c).2)) l)
  refine J_aload_n dX11_quarrel_18 rfl rfl ?_
  refine Cg_0_0 fr_X11_10_10 dX11_quarrel_19 ?_
  refine Cg_1_0 fr_X11_76_1 dX11_quarrel_22 ?_
  refine J_astore_n [(0, .ref (r 0)), (1, .int (nI 3)), (2, .ref (r 2))] dX11_quarrel_25 rfl (by decide) rfl rfl rfl ?_
  refine J_iconst (v := nI 0) dX11_quarrel_26 (by decide) ?_
  refine J_istore_n [(0, .ref (r 0)), (1, .int (nI 3)), (2, .ref (r 2)), (3, .int (nI 0))] dX11_quarrel_27 rfl (by decide) rfl rfl rfl ?_
  have L28 : ∀ (f t : Nat), 24 - t < f → t ≤ 24 → quM n m Hb (wlF n m Cl (rfsM rf Rf (-1) 0) c).1 3 = (qrO (quA n Hb (wlF n m Cl (rfsM rf Rf (-1) 0) c).1 3) m (24 - t) t).getD (-1) → ∀ (x3 : Int32), x3 = nI t → J G "quarrel" RX11 cX11_quarrel 6 (some .int) 0 0 4 Q 0 0 28 [(0, .ref (r 0)), (1, .int (nI 3)), (2, .ref (r 2)), (3, .int x3)] [] (cW G r (su 61 (su 40 (su 39 s ((wlF n m Cl (rfsM rf Rf (-1) 0) c).1)) (fun q => nI (rfB rf Rf (-1) 0 q))) (fun _ => nI (wlF n m Cl (rfsM rf Rf (-1) 0) c).2)) l) := by
    intro f
    induction f with
    | zero => intro t h; exact absurd h (Nat.not_lt_zero _)
    | succ f ih28 =>
      intro t hf28 hle28 hO x3 e3
      subst e3
      refine J_iload_n dX11_quarrel_28 rfl rfl ?_
      refine J_bipush (v := nI 24) dX11_quarrel_29 (by decide) ?_
      refine J_icmp_geN 96 (by omega) (by omega) dX11_quarrel_31 (by decide) (fun kcz1 => ?_) (fun kcz1 => ?_)
      · refine J_iconst (v := -1) dX11_quarrel_96 (by decide) ?_
        exact J_iret dX11_quarrel_97 rfl rfl rfl (hq (su 61 (su 40 (su 39 s ((wlF n m Cl (rfsM rf Rf (-1) 0) c).1)) (fun q => nI (rfB rf Rf (-1) 0 q))) (fun _ => nI (wlF n m Cl (rfsM rf Rf (-1) 0) c).2)) l ((-1), σ) (by have e9 : quM n m Hb (wlF n m Cl (rfsM rf Rf (-1) 0) c).1 3 = -1 := (by rw [hO, show 24 - t = 0 by omega]; rfl); subst en em ec erf esg eHb ehb eHe eaw eCl eRf eSg eVv; rw [wl0] at e9; simp [qQuarrel, wiS, rng_of (show 3 < 4 by decide) (by decide), nI_clamp (show 3 < 2 ^ 31 by decide)]; exact e9.symm) (show CI σ (su 61 (su 40 (su 39 s ((wlF n m Cl (rfsM rf Rf (-1) 0) c).1)) (fun q => nI (rfB rf Rf (-1) 0 q))) (fun _ => nI (wlF n m Cl (rfsM rf Rf (-1) 0) c).2)) from hC))
      · refine J_iconst (v := nI 0) dX11_quarrel_34 (by decide) ?_
        refine J_istore [(0, .ref (r 0)), (1, .int (nI 3)), (2, .ref (r 2)), (3, .int (nI t)), (4, .int (nI 0))] dX11_quarrel_35 (by decide) rfl rfl rfl ?_
        have L37 : ∀ (f e : Nat), m - e < f → e ≤ m → quM n m Hb (wlF n m Cl (rfsM rf Rf (-1) 0) c).1 3 = ((qrI (fun e => quA n Hb (wlF n m Cl (rfsM rf Rf (-1) 0) c).1 3 e t) (m - e) e).getD ((qrO (quA n Hb (wlF n m Cl (rfsM rf Rf (-1) 0) c).1 3) m (23 - t) (t + 1)).getD (-1))) → ∀ (x4 : Int32), x4 = nI e → J G "quarrel" RX11 cX11_quarrel 6 (some .int) 0 0 4 Q 0 0 37 [(0, .ref (r 0)), (1, .int (nI 3)), (2, .ref (r 2)), (3, .int (nI t)), (4, .int x4)] [] (cW G r (su 61 (su 40 (su 39 s ((wlF n m Cl (rfsM rf Rf (-1) 0) c).1)) (fun q => nI (rfB rf Rf (-1) 0 q))) (fun _ => nI (wlF n m Cl (rfsM rf Rf (-1) 0) c).2)) l) := by
          intro f
          induction f with
          | zero => intro e h; exact absurd h (Nat.not_lt_zero _)
          | succ f ih37 =>
            intro e hf37 hle37 hI x4 e4
            subst e4
            refine J_iload dX11_quarrel_37 rfl ?_
            refine J_aload_n dX11_quarrel_39 rfl rfl ?_
            refine Cg_2_1 fr_X11_107_4 dX11_quarrel_40 ?_
            refine Cg_4_4 (s := (su 61 (su 40 (su 39 s ((wlF n m Cl (rfsM rf Rf (-1) 0) c).1)) (fun q => nI (rfB rf Rf (-1) 0 q))) (fun _ => nI (wlF n m Cl (rfsM rf Rf (-1) 0) c).2))) fr_X11_188_3 (s 55 0) rfl dX11_quarrel_43 ?_
            refine J_rw (y := nI m) hm ?_
            refine J_icmp_geN 90 (by omega) (by omega) dX11_quarrel_46 (by decide) (fun kcz2 => ?_) (fun kcz2 => ?_)
            · refine J_iincN [(0, .ref (r 0)), (1, .int (nI 3)), (2, .ref (r 2)), (3, .int (nI (t + 1))), (4, .int (nI e))] dX11_quarrel_90 rfl (by decide) rfl rfl rfl ?_
              refine J_goto 28 dX11_quarrel_93 (by decide) ?_
              refine J_lv [0, 1, 2, 3] rfl ?_
              exact ih28 (t + 1) (by omega) (by omega) (by rw [hI, show m - e = 0 by omega]; show (qrO _ m (23 - t) (t + 1)).getD (-1) = _; congr 2; omega) _ rfl
            · refine J_aload_n dX11_quarrel_49 rfl rfl ?_
              refine J_aload_n dX11_quarrel_50 rfl rfl ?_
              refine Cg_0_0 fr_X11_10_10 dX11_quarrel_51 ?_
              refine J_iload dX11_quarrel_54 rfl ?_
              refine J_cVi (x := yX12_in) [.int (nI e)] 1 mv_X11_169 (c_X1_bitsOf r (su 61 (su 40 (su 39 s ((wlF n m Cl (rfsM rf Rf (-1) 0) c).1)) (fun q => nI (rfB rf Rf (-1) 0 q))) (fun _ => nI (wlF n m Cl (rfsM rf Rf (-1) 0) c).2)) l n hn hn8 e) cW_1 rfl rfl (by decide) (Nat.le_of_ble_eq_true rfl) ⟨Nat.le_refl _, Nat.le_refl _⟩ dX11_quarrel_56 ?_
              refine J_rw (y := nI (hasM n ((wlF n m Cl (rfsM rf Rf (-1) 0) c).1) e)) rfl ?_
              refine J_iload_n dX11_quarrel_59 rfl rfl ?_
              refine J_cVi (x := yX12_in) [.int (nI (hasM n ((wlF n m Cl (rfsM rf Rf (-1) 0) c).1) e)), .int (nI t)] 2 mv_X11_189 (c_X4_bitsAt r (su 61 (su 40 (su 39 s ((wlF n m Cl (rfsM rf Rf (-1) 0) c).1)) (fun q => nI (rfB rf Rf (-1) 0 q))) (fun _ => nI (wlF n m Cl (rfsM rf Rf (-1) 0) c).2)) l n hn hn8 Hb hb hR hk (hasM n ((wlF n m Cl (rfsM rf Rf (-1) 0) c).1) e) t (bm_lt256 _ hn8) (by omega)) cW_2 rfl rfl (by decide) (Nat.le_of_ble_eq_true rfl) ⟨Nat.le_refl _, Nat.le_refl _⟩ dX11_quarrel_60 ?_
              refine J_rw (y := nI (atB n hb (hasM n ((wlF n m Cl (rfsM rf Rf (-1) 0) c).1) e) t)) rfl ?_
              refine J_rw (y := nI (onceM n Hb (wlF n m Cl (rfsM rf Rf (-1) 0) c).1 e t)) (congrArg nI (at_eq hk (by omega))) ?_
              refine J_istore [(0, .ref (r 0)), (1, .int (nI 3)), (2, .ref (r 2)), (3, .int (nI t)), (4, .int (nI e)), (5, .int (nI (onceM n Hb (wlF n m Cl (rfsM rf Rf (-1) 0) c).1 e t)))] dX11_quarrel_63 (by decide) rfl rfl rfl ?_
              refine J_iload dX11_quarrel_65 rfl ?_
              refine J_cSi [.int (nI (onceM n Hb (wlF n m Cl (rfsM rf Rf (-1) 0) c).1 e t))] ms_X11_192 (c_J6_bitCount_0f7a4 (cW G r (su 61 (su 40 (su 39 s ((wlF n m Cl (rfsM rf Rf (-1) 0) c).1)) (fun q => nI (rfB rf Rf (-1) 0 q))) (fun _ => nI (wlF n m Cl (rfsM rf Rf (-1) 0) c).2)) l) (onceM n Hb (wlF n m Cl (rfsM rf Rf (-1) 0) c).1 e t) (bm_lt256 _ hn8)) rfl rfl (by decide) (Nat.le_of_ble_eq_true rfl) ⟨Nat.le_refl _, Nat.le_refl _⟩ dX11_quarrel_67 ?_
              refine J_iconst (v := nI 2) dX11_quarrel_70 (by decide) ?_
              refine J_icmp_ltN 84 (popc_lt31 _) (by omega) dX11_quarrel_71 (by decide) (fun kcz3 => ?_) (fun kcz3 => ?_)
              · refine J_iincN [(0, .ref (r 0)), (1, .int (nI 3)), (2, .ref (r 2)), (3, .int (nI t)), (4, .int (nI (e + 1))), (5, .int (nI (onceM n Hb (wlF n m Cl (rfsM rf Rf (-1) 0) c).1 e t)))] dX11_quarrel_84 rfl (by decide) rfl rfl rfl ?_
                refine J_goto 37 dX11_quarrel_87 (by decide) ?_
                refine J_lv [0, 1, 2, 3, 4] rfl ?_
                exact ih37 (e + 1) (by omega) (by omega) (by rw [hI, qrI_no (A := fun e => quA n Hb (wlF n m Cl (rfsM rf Rf (-1) 0) c).1 3 e t) (by omega) (quA_no (by omega))]) _ rfl
              · refine J_iload_n dX11_quarrel_74 rfl rfl ?_
                refine J_iload_n dX11_quarrel_75 rfl rfl ?_
                refine J_iload dX11_quarrel_76 rfl ?_
                refine J_iload dX11_quarrel_78 rfl ?_
                refine J_cSi [.int (nI 3), .int (nI t), .int (nI e), .int (nI (onceM n Hb (wlF n m Cl (rfsM rf Rf (-1) 0) c).1 e t))] ms_X11_197 (c_X11_partOfQuarrel3 (cW G r (su 61 (su 40 (su 39 s ((wlF n m Cl (rfsM rf Rf (-1) 0) c).1)) (fun q => nI (rfB rf Rf (-1) 0 q))) (fun _ => nI (wlF n m Cl (rfsM rf Rf (-1) 0) c).2)) l) t e (onceM n Hb (wlF n m Cl (rfsM rf Rf (-1) 0) c).1 e t) (bm_lt256 _ hn8) (popc_pos (by omega))) rfl rfl (by decide) (Nat.le_of_ble_eq_true rfl) ⟨Nat.le_refl _, Nat.le_refl _⟩ dX11_quarrel_80 ?_
                refine J_rw (y := nI (lo2 (onceM n Hb (wlF n m Cl (rfsM rf Rf (-1) 0) c).1 e t))) (ls_lo (onceM n Hb (wlF n m Cl (rfsM rf Rf (-1) 0) c).1 e t) (bm_lt256 _ hn8) (by omega)).2.symm ?_
                exact J_iret dX11_quarrel_83 rfl rfl rfl (hq (su 61 (su 40 (su 39 s ((wlF n m Cl (rfsM rf Rf (-1) 0) c).1)) (fun q => nI (rfB rf Rf (-1) 0 q))) (fun _ => nI (wlF n m Cl (rfsM rf Rf (-1) 0) c).2)) l (nI (lo2 (onceM n Hb (wlF n m Cl (rfsM rf Rf (-1) 0) c).1 e t)), σ) (by have e9 : quM n m Hb (wlF n m Cl (rfsM rf Rf (-1) 0) c).1 3 = nI (lo2 (onceM n Hb (wlF n m Cl (rfsM rf Rf (-1) 0) c).1 e t)) := (by rw [hI, qrI_yes (A := fun e => quA n Hb (wlF n m Cl (rfsM rf Rf (-1) 0) c).1 3 e t) (by omega) (quA_yes (by omega))]; rfl); subst en em ec erf esg eHb ehb eHe eaw eCl eRf eSg eVv; rw [wl0] at e9; rw [wl0]; simp [qQuarrel, wiS, rng_of (show 3 < 4 by decide) (by decide), nI_clamp (show 3 < 2 ^ 31 by decide)]; exact e9.symm) (show CI σ (su 61 (su 40 (su 39 s ((wlF n m Cl (rfsM rf Rf (-1) 0) c).1)) (fun q => nI (rfB rf Rf (-1) 0 q))) (fun _ => nI (wlF n m Cl (rfsM rf Rf (-1) 0) c).2)) from hC))
        exact L37 (m + 1) 0 (by omega) (by omega) (by rw [hO, qrO_s (by omega)]; rfl) _ rfl
  exact L28 25 0 (by omega) (by omega) rfl _ rfl
theorem c_X11_quarrel3 {G : GT} (r : Nat → Nat) (s : St) (l : Nat → Int64) (σ : St) (hL : LI σ) (hC : CI σ s) : Ct G yX11_quarrel cX11_quarrel 6 (some .int) 0 0 4 [.ref (r 0), .int (nI 3)] (cW G r s l) (QC G r ((qQuarrel (nI 3) σ, σ))) := Ct.of rfl (Nat.le_of_ble_eq_true rfl) (j_X11_quarrel3 r s l σ hL hC (fun x lx a h1 h2 => ⟨x, lx, by rw [h1], rfl, by rw [← h1]; exact h2⟩))
set_option maxRecDepth 100000 in
set_option maxHeartbeats 1000000 in
theorem j_X11_quarrel_bad {G : GT} (r : Nat → Nat) (s : St) (l : Nat → Int64) (σ : St) (hL : LI σ) (hC : CI σ s) (w : Int32) (hno : rng w 4 = false) {Q : Option Value → va_W → Prop} (hq : ∀ (x : St) (lx : Nat → Int64) (a : Int32 × St), a = (qQuarrel w σ, σ) → CI a.2 x → Q (some (.int a.1)) (cW G r x lx)) : J G "quarrel" RX11 cX11_quarrel 6 (some .int) 0 0 4 Q 0 0 0 [(0, .ref (r 0)), (1, .int w)] [] (cW G r s l) := by
  refine J_iload_n dX11_quarrel_0 rfl rfl ?_
  refine J_iconst (v := nI 4) dX11_quarrel_1 (by decide) ?_
  refine J_cSi [.int w, .int (nI 4)] ms_X11_48 (c_X11_isBelowN (cW G r s l) w 4) rfl rfl (by decide) (Nat.le_of_ble_eq_true rfl) ⟨Nat.le_refl _, Nat.le_refl _⟩ dX11_quarrel_2 ?_
  refine J_if_neB 11 dX11_quarrel_5 (by decide) (fun c => absurd c (by rw [hno]; decide)) (fun _ => ?_)
  refine J_bipush (v := -2) dX11_quarrel_8 (by decide) ?_
  exact J_iret dX11_quarrel_10 rfl rfl rfl (hq s l ((-2), σ) (by simp [qQuarrel, hno]) (show CI σ s from hC))
theorem c_X11_quarrel_bad {G : GT} (r : Nat → Nat) (s : St) (l : Nat → Int64) (σ : St) (hL : LI σ) (hC : CI σ s) (w : Int32) (hno : rng w 4 = false) : Ct G yX11_quarrel cX11_quarrel 6 (some .int) 0 0 4 [.ref (r 0), .int w] (cW G r s l) (QC G r ((qQuarrel w σ, σ))) := Ct.of rfl (Nat.le_of_ble_eq_true rfl) (j_X11_quarrel_bad r s l σ hL hC w hno (fun x lx a h1 h2 => ⟨x, lx, by rw [h1], rfl, by rw [← h1]; exact h2⟩))
theorem c_X11_quarrel {G : GT} (r : Nat → Nat) (s : St) (l : Nat → Int64) (σ : St) (hL : LI σ) (hC : CI σ s) (w : Int32) : Ct G yX11_quarrel cX11_quarrel 6 (some .int) 0 0 4 [.ref (r 0), .int w] (cW G r s l) (QC G r (qQuarrel w σ, σ)) := by
  rcases rng_cases w (n := 4) (by decide) with h | ⟨j, hj, rfl⟩
  · exact c_X11_quarrel_bad r s l σ hL hC w h
  · rcases (show j = 0 ∨ j = 1 ∨ j = 2 ∨ j = 3 by omega) with rfl | rfl | rfl | rfl
    · exact c_X11_quarrel0 r s l σ hL hC
    · exact c_X11_quarrel1 r s l σ hL hC
    · exact c_X11_quarrel2 r s l σ hL hC
    · exact c_X11_quarrel3 r s l σ hL hC
set_option maxRecDepth 100000 in
set_option maxHeartbeats 1000000 in
theorem j_X11_possibleOwners {G : GT} (r : Nat → Nat) (s : St) (l : Nat → Int64) (n : Nat) (hn : s 52 0 = nI n) (hn8 : n ≤ 8) (Hb : Nat → Int32) (hb : Nat → Nat) (hR : CHr n Hb hb s) (hk : HbOk n Hb hb) (m : Nat) (hm : s 55 0 = nI m) (hm6 : m ≤ 6) (He : Nat → Int32) (aw : Nat → Nat) (hE : CEr m He aw s) (ha : AwOk m He aw) (c : Nat) (hc : s 58 0 = nI c) (hc15 : c ≤ 15) (Cl : Nat → Int32) (hCl : CCr c Cl s) (rf : Nat) (hrf : s 60 0 = nI rf) (hrf12 : rf ≤ 12) (Rf : Nat → Int32) (hRf : CRr rf Rf s) (sg : Nat) (hsg : s 62 0 = nI sg) (hsg8 : sg ≤ 8) (Sg : Nat → Int32) (hSg : CSr sg Sg s) (h : Nat) (hh : h < n) {Q : Option Value → va_W → Prop} (hq : ∀ v_ : Int32, v_ = nI (whF n m Hb He (wlF n m Cl (rfsM rf Rf (-1) 0) c).1 Sg sg h (m + 1)) → Q (some (.int v_)) (cW G r (su 61 (su 40 (su 39 s (upd (wlF n m Cl (rfsM rf Rf (-1) 0) c).1 h (-1))) (fun q => nI (rfB rf Rf (-1) 0 q))) (fun _ => nI (wlF n m Cl (rfsM rf Rf (-1) 0) c).2)) l)) : J G "possibleOwners" RX11 cX11_possibleOwners 4 (some .int) 0 0 4 Q 0 0 0 [(0, .ref (r 0)), (1, .int (nI h))] [] (cW G r s l) := by
  refine J_aload_n dX11_possibleOwners_0 rfl rfl ?_
  refine Cg_0_0 fr_X11_10_10 dX11_possibleOwners_1 ?_
  refine J_cVv (x := yX12_in) [] 1 mv_X11_162 (c_X1_settle r s l n hn hn8 m hm hm6 c hc hc15 Cl hCl rf hrf hrf12 Rf hRf) cW_1 rfl rfl (by decide) (Nat.le_of_ble_eq_true rfl) ⟨Nat.le_refl _, Nat.le_refl _⟩ dX11_possibleOwners_4 ?_
  show J G "possibleOwners" RX11 cX11_possibleOwners 4 (some .int) 0 0 4 Q 0 0 7 [(0, .ref (r 0)), (1, .int (nI h))] [] (cW G r (su 61 (su 40 (su 39 s ((wlF n m Cl (rfsM rf Rf (-1) 0) c).1)) (fun q => nI (rfB rf Rf (-1) 0 q))) (fun _ => nI (wlF n m Cl (rfsM rf Rf (-1) 0) c).2)) l)
  refine J_iconst (v := nI 0) dX11_possibleOwners_7 (by decide) ?_
  refine J_istore_n [(0, .ref (r 0)), (1, .int (nI h)), (2, .int (nI 0))] dX11_possibleOwners_8 rfl (by decide) rfl rfl rfl ?_
  refine J_iconst (v := nI 0) dX11_possibleOwners_9 (by decide) ?_
  refine J_istore_n [(0, .ref (r 0)), (1, .int (nI h)), (2, .int (nI 0)), (3, .int (nI 0))] dX11_possibleOwners_10 rfl (by decide) rfl rfl rfl ?_
  have L11 : ∀ (f i : Nat) (yb : Nat → Int32), m - i < f → i ≤ m → (∀ x, upd yb h x = upd (wlF n m Cl (rfsM rf Rf (-1) 0) c).1 h x) → ∀ (x2 : Int32) (x3 : Int32), x2 = nI (whF n m Hb He (wlF n m Cl (rfsM rf Rf (-1) 0) c).1 Sg sg h i) → x3 = nI i → J G "possibleOwners" RX11 cX11_possibleOwners 4 (some .int) 0 0 4 Q 0 0 11 [(0, .ref (r 0)), (1, .int (nI h)), (2, .int x2), (3, .int x3)] [] (cW G r (su 61 (su 40 (su 39 s yb) (fun q => nI (rfB rf Rf (-1) 0 q))) (fun _ => nI (wlF n m Cl (rfsM rf Rf (-1) 0) c).2)) l) := by
    intro f
    induction f with
    | zero => intro i yb h; exact absurd h (Nat.not_lt_zero _)
    | succ f ih11 =>
      intro i yb hf11 hle11 hyb x2 x3 e2 e3
      subst e2
      subst e3
      refine J_iload_n dX11_possibleOwners_11 rfl rfl ?_
      refine J_aload_n dX11_possibleOwners_12 rfl rfl ?_
      refine Cg_0_0 fr_X11_10_10 dX11_possibleOwners_13 ?_
      refine Cg_1_0 fr_X11_76_1 dX11_possibleOwners_16 ?_
      refine Cg_2_1 fr_X11_107_4 dX11_possibleOwners_19 ?_
      refine Cg_4_4 (s := (su 61 (su 40 (su 39 s yb) (fun q => nI (rfB rf Rf (-1) 0 q))) (fun _ => nI (wlF n m Cl (rfsM rf Rf (-1) 0) c).2))) fr_X11_188_3 (s 55 0) rfl dX11_possibleOwners_22 ?_
      refine J_rw (y := nI m) hm ?_
      refine J_icmp_geN 63 (by omega) (by omega) dX11_possibleOwners_25 (by decide) (fun kcz1 => ?_) (fun kcz1 => ?_)
      · obtain rfl : m = i := (by omega)
        refine J_aload_n dX11_possibleOwners_63 rfl rfl ?_
        refine Cg_0_0 fr_X11_10_10 dX11_possibleOwners_64 ?_
        refine J_iload_n dX11_possibleOwners_67 rfl rfl ?_
        refine J_iconst (v := -1) dX11_possibleOwners_68 (by decide) ?_
        refine J_cVv (x := yX12_in) [.int (nI h), .int (-1)] 1 mv_X11_339 (c_X1_give r (su 61 (su 40 (su 39 s yb) (fun q => nI (rfB rf Rf (-1) 0 q))) (fun _ => nI (wlF n m Cl (rfsM rf Rf (-1) 0) c).2)) l h (by omega) (-1)) cW_1 rfl rfl (by decide) (Nat.le_of_ble_eq_true rfl) ⟨Nat.le_refl _, Nat.le_refl _⟩ dX11_possibleOwners_69 ?_
        show J G "possibleOwners" RX11 cX11_possibleOwners 4 (some .int) 0 0 4 Q 0 0 72 [(0, .ref (r 0)), (1, .int (nI h)), (2, .int (nI (whF n m Hb He (wlF n m Cl (rfsM rf Rf (-1) 0) c).1 Sg sg h m))), (3, .int (nI m))] [] (cW G r (su 39 (su 61 (su 40 (su 39 s yb) (fun q => nI (rfB rf Rf (-1) 0 q))) (fun _ => nI (wlF n m Cl (rfsM rf Rf (-1) 0) c).2)) (upd yb h (-1))) l)
        refine J_ws (ws2 := (cW G r (su 61 (su 40 (su 39 s (upd yb h (-1))) (fun q => nI (rfB rf Rf (-1) 0 q))) (fun _ => nI (wlF n m Cl (rfsM rf Rf (-1) 0) c).2)) l)) (congrArg (fun q_ => cW G r q_ l) ((su_sw (by decide)).trans (su_cg ((su_sw (by decide)).trans (su_cg su_tw))))) ?_
        refine J_ws (ws2 := (cW G r (su 61 (su 40 (su 39 s (upd (wlF n m Cl (rfsM rf Rf (-1) 0) c).1 h (-1))) (fun q => nI (rfB rf Rf (-1) 0 q))) (fun _ => nI (wlF n m Cl (rfsM rf Rf (-1) 0) c).2)) l)) (congrArg (fun q_ => cW G r q_ l) (su_cg (su_cg (congrArg (su 39 s) (hyb _))))) ?_
        refine J_aload_n dX11_possibleOwners_72 rfl rfl ?_
        refine Cg_0_2 fr_X11_26_10 dX11_possibleOwners_73 ?_
        refine J_aload_n dX11_possibleOwners_76 rfl rfl ?_
        refine Cg_0_0 fr_X11_10_10 dX11_possibleOwners_77 ?_
        refine J_cVi (x := yX12_in) [.ref (r 1)] 8 mv_X11_342 (c_X9_allComeOut r (su 61 (su 40 (su 39 s (upd (wlF n m Cl (rfsM rf Rf (-1) 0) c).1 h (-1))) (fun q => nI (rfB rf Rf (-1) 0 q))) (fun _ => nI (wlF n m Cl (rfsM rf Rf (-1) 0) c).2)) l n hn hn8 Hb hb hR hk m hm hm6 He aw hE ha sg hsg hsg8 Sg hSg) cW_8 rfl rfl (by decide) (Nat.le_of_ble_eq_true rfl) ⟨Nat.le_refl _, Nat.le_refl _⟩ dX11_possibleOwners_80 ?_
        refine J_rw (y := bI (allB (seM n m Hb He (upd (wlF n m Cl (rfsM rf Rf (-1) 0) c).1 h (-1)) Sg) sg)) rfl ?_
        refine J_if_eqB 93 dX11_possibleOwners_83 (by decide) (fun kcz2 => ?_) (fun kcz2 => ?_)
        · refine J_iload_n dX11_possibleOwners_93 rfl rfl ?_
          exact J_iret dX11_possibleOwners_94 rfl rfl rfl (hq _ (by rw [whF, vwh_eq, vpw_eq, kcz2]; exact congrArg nI (Nat.or_zero _).symm))
        · refine J_iload_n dX11_possibleOwners_86 rfl rfl ?_
          refine J_bipush (v := nI 64) dX11_possibleOwners_87 (by decide) ?_
          refine J_iorN dX11_possibleOwners_89 ?_
          refine J_goto 94 dX11_possibleOwners_90 (by decide) ?_
          exact J_iret dX11_possibleOwners_94 rfl rfl rfl (hq _ (by rw [whF, vwh_eq, vpw_eq, kcz2]; rfl))
      · refine J_aload_n dX11_possibleOwners_28 rfl rfl ?_
        refine Cg_0_0 fr_X11_10_10 dX11_possibleOwners_29 ?_
        refine J_iload_n dX11_possibleOwners_32 rfl rfl ?_
        refine J_iload_n dX11_possibleOwners_33 rfl rfl ?_
        refine J_cVv (x := yX12_in) [.int (nI h), .int (nI i)] 1 mv_X11_339 (c_X1_give r (su 61 (su 40 (su 39 s yb) (fun q => nI (rfB rf Rf (-1) 0 q))) (fun _ => nI (wlF n m Cl (rfsM rf Rf (-1) 0) c).2)) l h (by omega) (nI i)) cW_1 rfl rfl (by decide) (Nat.le_of_ble_eq_true rfl) ⟨Nat.le_refl _, Nat.le_refl _⟩ dX11_possibleOwners_34 ?_
        show J G "possibleOwners" RX11 cX11_possibleOwners 4 (some .int) 0 0 4 Q 0 0 37 [(0, .ref (r 0)), (1, .int (nI h)), (2, .int (nI (whF n m Hb He (wlF n m Cl (rfsM rf Rf (-1) 0) c).1 Sg sg h i))), (3, .int (nI i))] [] (cW G r (su 39 (su 61 (su 40 (su 39 s yb) (fun q => nI (rfB rf Rf (-1) 0 q))) (fun _ => nI (wlF n m Cl (rfsM rf Rf (-1) 0) c).2)) (upd yb h (nI i))) l)
        refine J_ws (ws2 := (cW G r (su 61 (su 40 (su 39 s (upd yb h (nI i))) (fun q => nI (rfB rf Rf (-1) 0 q))) (fun _ => nI (wlF n m Cl (rfsM rf Rf (-1) 0) c).2)) l)) (congrArg (fun q_ => cW G r q_ l) ((su_sw (by decide)).trans (su_cg ((su_sw (by decide)).trans (su_cg su_tw))))) ?_
        refine J_ws (ws2 := (cW G r (su 61 (su 40 (su 39 s (upd (wlF n m Cl (rfsM rf Rf (-1) 0) c).1 h (nI i))) (fun q => nI (rfB rf Rf (-1) 0 q))) (fun _ => nI (wlF n m Cl (rfsM rf Rf (-1) 0) c).2)) l)) (congrArg (fun q_ => cW G r q_ l) (su_cg (su_cg (congrArg (su 39 s) (hyb _))))) ?_
        refine J_aload_n dX11_possibleOwners_37 rfl rfl ?_
        refine Cg_0_2 fr_X11_26_10 dX11_possibleOwners_38 ?_
        refine J_aload_n dX11_possibleOwners_41 rfl rfl ?_
        refine Cg_0_0 fr_X11_10_10 dX11_possibleOwners_42 ?_
        refine J_cVi (x := yX12_in) [.ref (r 1)] 8 mv_X11_342 (c_X9_allComeOut r (su 61 (su 40 (su 39 s (upd (wlF n m Cl (rfsM rf Rf (-1) 0) c).1 h (nI i))) (fun q => nI (rfB rf Rf (-1) 0 q))) (fun _ => nI (wlF n m Cl (rfsM rf Rf (-1) 0) c).2)) l n hn hn8 Hb hb hR hk m hm hm6 He aw hE ha sg hsg hsg8 Sg hSg) cW_8 rfl rfl (by decide) (Nat.le_of_ble_eq_true rfl) ⟨Nat.le_refl _, Nat.le_refl _⟩ dX11_possibleOwners_45 ?_
        refine J_rw (y := bI (allB (seM n m Hb He (upd (wlF n m Cl (rfsM rf Rf (-1) 0) c).1 h (nI i)) Sg) sg)) rfl ?_
        refine J_if_eqB 57 dX11_possibleOwners_48 (by decide) (fun kcz3 => ?_) (fun kcz3 => ?_)
        · refine J_iincN [(0, .ref (r 0)), (1, .int (nI h)), (2, .int (nI (whF n m Hb He (wlF n m Cl (rfsM rf Rf (-1) 0) c).1 Sg sg h i))), (3, .int (nI (i + 1)))] dX11_possibleOwners_57 rfl (by decide) rfl rfl rfl ?_
          refine J_goto 11 dX11_possibleOwners_60 (by decide) ?_
          exact ih11 (i + 1) (upd (wlF n m Cl (rfsM rf Rf (-1) 0) c).1 h (nI i)) (by omega) (by omega) (fun x => fa_upd_twice _ _ _ _) _ _ (by rw [whF, vwh_lt (by omega), vpw_lt (by omega), kcz3]; exact congrArg nI (Nat.or_zero _).symm) rfl
        · refine J_iload_n dX11_possibleOwners_51 rfl rfl ?_
          refine J_iconst (v := nI 1) dX11_possibleOwners_52 (by decide) ?_
          refine J_iload_n dX11_possibleOwners_53 rfl rfl ?_
          refine J_shl1N dX11_possibleOwners_54 (by omega) ?_
          refine J_iorN dX11_possibleOwners_55 ?_
          refine J_istore_n [(0, .ref (r 0)), (1, .int (nI h)), (2, .int (nI ((whF n m Hb He (wlF n m Cl (rfsM rf Rf (-1) 0) c).1 Sg sg h i) ||| (2 ^ i)))), (3, .int (nI i))] dX11_possibleOwners_56 rfl (by decide) rfl rfl rfl ?_
          refine J_iincN [(0, .ref (r 0)), (1, .int (nI h)), (2, .int (nI ((whF n m Hb He (wlF n m Cl (rfsM rf Rf (-1) 0) c).1 Sg sg h i) ||| (2 ^ i)))), (3, .int (nI (i + 1)))] dX11_possibleOwners_57 rfl (by decide) rfl rfl rfl ?_
          refine J_goto 11 dX11_possibleOwners_60 (by decide) ?_
          exact ih11 (i + 1) (upd (wlF n m Cl (rfsM rf Rf (-1) 0) c).1 h (nI i)) (by omega) (by omega) (fun x => fa_upd_twice _ _ _ _) _ _ (by rw [whF, vwh_lt (by omega), vpw_lt (by omega), kcz3]; rfl) rfl
  exact L11 (m + 1) 0 (wlF n m Cl (rfsM rf Rf (-1) 0) c).1 (by omega) (by omega) (fun x => rfl) _ _ rfl rfl
theorem c_X11_possibleOwners {G : GT} (r : Nat → Nat) (s : St) (l : Nat → Int64) (n : Nat) (hn : s 52 0 = nI n) (hn8 : n ≤ 8) (Hb : Nat → Int32) (hb : Nat → Nat) (hR : CHr n Hb hb s) (hk : HbOk n Hb hb) (m : Nat) (hm : s 55 0 = nI m) (hm6 : m ≤ 6) (He : Nat → Int32) (aw : Nat → Nat) (hE : CEr m He aw s) (ha : AwOk m He aw) (c : Nat) (hc : s 58 0 = nI c) (hc15 : c ≤ 15) (Cl : Nat → Int32) (hCl : CCr c Cl s) (rf : Nat) (hrf : s 60 0 = nI rf) (hrf12 : rf ≤ 12) (Rf : Nat → Int32) (hRf : CRr rf Rf s) (sg : Nat) (hsg : s 62 0 = nI sg) (hsg8 : sg ≤ 8) (Sg : Nat → Int32) (hSg : CSr sg Sg s) (h : Nat) (hh : h < n) : Ct G yX11_possibleOwners cX11_possibleOwners 4 (some .int) 0 0 4 [.ref (r 0), .int (nI h)] (cW G r s l) (Is (some (.int (nI (whF n m Hb He (wlF n m Cl (rfsM rf Rf (-1) 0) c).1 Sg sg h (m + 1))))) (cW G r (su 61 (su 40 (su 39 s (upd (wlF n m Cl (rfsM rf Rf (-1) 0) c).1 h (-1))) (fun q => nI (rfB rf Rf (-1) 0 q))) (fun _ => nI (wlF n m Cl (rfsM rf Rf (-1) 0) c).2)) l)) := Ct.of rfl (Nat.le_of_ble_eq_true rfl) (j_X11_possibleOwners r s l n hn hn8 Hb hb hR hk m hm hm6 He aw hE ha c hc hc15 Cl hCl rf hrf hrf12 Rf hRf sg hsg hsg8 Sg hSg h hh (fun _ e => by subst e; exact Is.rf _ _))
set_option maxRecDepth 100000 in
set_option maxHeartbeats 1000000 in
theorem j_X11_whose {G : GT} (r : Nat → Nat) (s : St) (l : Nat → Int64) (σ : St) (hL : LI σ) (hC : CI σ s) (h : Int32) {Q : Option Value → va_W → Prop} (hq : ∀ (x : St) (lx : Nat → Int64) (a : Int32 × St), a = (qWhose h σ, σ) → CI a.2 x → Q (some (.int a.1)) (cW G r x lx)) : J G "whose" RX11 cX11_whose 2 (some .int) 0 0 5 Q 0 0 0 [(0, .ref (r 0)), (1, .int h)] [] (cW G r s l) := by
  obtain ⟨n, en⟩ : ∃ z, z = nH σ := ⟨_, rfl⟩
  obtain ⟨m, em⟩ : ∃ z, z = nE σ := ⟨_, rfl⟩
  obtain ⟨c, ec⟩ : ∃ z, z = nC σ := ⟨_, rfl⟩
  obtain ⟨rf, erf⟩ : ∃ z, z = rfn σ := ⟨_, rfl⟩
  obtain ⟨sg, esg⟩ : ∃ z, z = sgn σ := ⟨_, rfl⟩
  obtain ⟨Hb, eHb⟩ : ∃ z, z = HbS σ := ⟨_, rfl⟩
  obtain ⟨hb, ehb⟩ : ∃ z, z = hbS σ := ⟨_, rfl⟩
  obtain ⟨He, eHe⟩ : ∃ z, z = HeS σ := ⟨_, rfl⟩
  obtain ⟨aw, eaw⟩ : ∃ z, z = awS σ := ⟨_, rfl⟩
  obtain ⟨Cl, eCl⟩ : ∃ z, z = ClS σ := ⟨_, rfl⟩
  obtain ⟨Rf, eRf⟩ : ∃ z, z = σ 13 := ⟨_, rfl⟩
  obtain ⟨Sg, eSg⟩ : ∃ z, z = σ 22 := ⟨_, rfl⟩
  obtain ⟨Vv, eVv⟩ : ∃ z, z = σ 16 := ⟨_, rfl⟩
  have hn8 : n ≤ 8 := by rw [en]; exact nH_le _
  have hm6 : m ≤ 6 := by rw [em]; exact nE_le _
  have hc15 : c ≤ 15 := by rw [ec]; exact nC_le _
  have hrf12 : rf ≤ 12 := by rw [erf]; exact hL.rf.2.1
  have hsg8 : sg ≤ 8 := by rw [esg]; exact hL.sg.2.1
  have hk : HbOk n Hb hb := by rw [en, eHb, ehb]; exact hbOk σ
  have ha : AwOk m He aw := by rw [em, eHe, eaw]; exact awOk σ
  have hn : s 52 0 = nI n := by rw [en]; exact hC.n
  have hm : s 55 0 = nI m := by rw [em]; exact hC.m
  have hc : s 58 0 = nI c := by rw [ec]; exact hC.c
  have hrf : s 60 0 = nI rf := by rw [erf]; exact hC.rf
  have hsg : s 62 0 = nI sg := by rw [esg]; exact hC.sg
  have hR : CHr n Hb hb s := by rw [en, eHb, ehb]; exact hC.hR
  have hE : CEr m He aw s := by rw [em, eHe, eaw]; exact hC.hE
  have hCl : CCr c Cl s := by rw [ec, eCl]; exact hC.hCl
  have hRf : CRr rf Rf s := by rw [erf, eRf]; exact hC.hRf hL
  have hSg : CSr sg Sg s := by rw [esg, eSg]; exact hC.hSg hL
  have hV : ∀ j, j < 42 → s 41 j = Vv j := by rw [eVv]; exact hC.hV
  refine J_aload_n dX11_whose_0 rfl rfl ?_
  refine Cg_0_0 fr_X11_10_10 dX11_whose_1 ?_
  refine Cg_1_0 fr_X11_76_1 dX11_whose_4 ?_
  refine Cg_2_0 fr_X11_80_4 dX11_whose_7 ?_
  refine J_iload_n dX11_whose_10 rfl rfl ?_
  refine J_cUi [.int h] 3 mu_X11_86_2 (c_X5_hasRow0 r s l n hn h) cW_3 rfl rfl (by decide) (Nat.le_of_ble_eq_true rfl) ⟨Nat.le_refl _, Nat.le_refl _⟩ dX11_whose_11 ?_
  refine J_if_eqB 25 dX11_whose_14 (by decide) (fun kcz1 => ?_) (fun kcz1 => ?_)
  · refine J_bipush (v := -2) dX11_whose_25 (by decide) ?_
    exact J_iret dX11_whose_27 rfl rfl rfl (hq s l ((-2), σ) (by subst en em ec erf esg eHb ehb eHe eaw eCl eRf eSg eVv; simp [qWhose, kcz1]) (show CI σ s from hC))
  · obtain ⟨H9, hH9, rfl⟩ := (rng_iff (by omega)).mp kcz1
    have eH9 : (nI H9).toNatClampNeg = H9 := nI_clamp (by omega)
    refine J_aload_n dX11_whose_17 rfl rfl ?_
    refine J_iload_n dX11_whose_18 rfl rfl ?_
    refine J_cVi (x := yX12_in) [.int (nI H9)] 0 mv_X11_237 (c_X11_possibleOwners r s l n hn hn8 Hb hb hR hk m hm hm6 He aw hE ha c hc hc15 Cl hCl rf hrf hrf12 Rf hRf sg hsg hsg8 Sg hSg H9 (by omega)) cW_0 rfl rfl (by decide) (Nat.le_of_ble_eq_true rfl) ⟨Nat.le_refl _, Nat.le_refl _⟩ dX11_whose_19 ?_
    show J G "whose" RX11 cX11_whose 2 (some .int) 0 0 5 Q 0 0 22 [(0, .ref (r 0)), (1, .int (nI H9))] [.int (nI (whF n m Hb He (wlF n m Cl (rfsM rf Rf (-1) 0) c).1 Sg sg H9 (m + 1)))] (cW G r (su 61 (su 40 (su 39 s (upd (wlF n m Cl (rfsM rf Rf (-1) 0) c).1 H9 (-1))) (fun q => nI (rfB rf Rf (-1) 0 q))) (fun _ => nI (wlF n m Cl (rfsM rf Rf (-1) 0) c).2)) l)
    refine J_goto 27 dX11_whose_22 (by decide) ?_
    exact J_iret dX11_whose_27 rfl rfl rfl (hq (su 61 (su 40 (su 39 s (upd (wlF n m Cl (rfsM rf Rf (-1) 0) c).1 H9 (-1))) (fun q => nI (rfB rf Rf (-1) 0 q))) (fun _ => nI (wlF n m Cl (rfsM rf Rf (-1) 0) c).2)) l (nI (whF n m Hb He (wlF n m Cl (rfsM rf Rf (-1) 0) c).1 Sg sg H9 (m + 1)), σ) (by subst en em ec erf esg eHb ehb eHe eaw eCl eRf eSg eVv; rw [wl0]; simp [qWhose, whS, wiS, kcz1, eH9]) (show CI σ (su 61 (su 40 (su 39 s (upd (wlF n m Cl (rfsM rf Rf (-1) 0) c).1 H9 (-1))) (fun q => nI (rfB rf Rf (-1) 0 q))) (fun _ => nI (wlF n m Cl (rfsM rf Rf (-1) 0) c).2)) from hC))
theorem c_X11_whose {G : GT} (r : Nat → Nat) (s : St) (l : Nat → Int64) (σ : St) (hL : LI σ) (hC : CI σ s) (h : Int32) : Ct G yX11_whose cX11_whose 2 (some .int) 0 0 5 [.ref (r 0), .int h] (cW G r s l) (QC G r ((qWhose h σ, σ))) := Ct.of rfl (Nat.le_of_ble_eq_true rfl) (j_X11_whose r s l σ hL hC h (fun x lx a h1 h2 => ⟨x, lx, by rw [h1], rfl, by rw [← h1]; exact h2⟩))
set_option maxRecDepth 100000 in
set_option maxHeartbeats 1000000 in
theorem j_X11_march {G : GT} (r : Nat → Nat) (s : St) (l : Nat → Int64) (σ : St) (hL : LI σ) (hC : CI σ s) (v e lf w : Int32) {Q : Option Value → va_W → Prop} (hq : ∀ (x : St) (lx : Nat → Int64) (a : Int64), a = qMarch v e lf w σ → CI σ x → Q (some (.long a)) (cW G r x lx)) : J G "march" RX11 cX11_march 6 (some .long) 0 0 4 Q 0 0 0 [(0, .ref (r 0)), (1, .int v), (2, .int e), (3, .int lf), (4, .int w)] [] (cW G r s l) := by
  obtain ⟨n, en⟩ : ∃ z, z = nH σ := ⟨_, rfl⟩
  obtain ⟨m, em⟩ : ∃ z, z = nE σ := ⟨_, rfl⟩
  obtain ⟨c, ec⟩ : ∃ z, z = nC σ := ⟨_, rfl⟩
  obtain ⟨rf, erf⟩ : ∃ z, z = rfn σ := ⟨_, rfl⟩
  obtain ⟨sg, esg⟩ : ∃ z, z = sgn σ := ⟨_, rfl⟩
  obtain ⟨Hb, eHb⟩ : ∃ z, z = HbS σ := ⟨_, rfl⟩
  obtain ⟨hb, ehb⟩ : ∃ z, z = hbS σ := ⟨_, rfl⟩
  obtain ⟨He, eHe⟩ : ∃ z, z = HeS σ := ⟨_, rfl⟩
  obtain ⟨aw, eaw⟩ : ∃ z, z = awS σ := ⟨_, rfl⟩
  obtain ⟨Cl, eCl⟩ : ∃ z, z = ClS σ := ⟨_, rfl⟩
  obtain ⟨Rf, eRf⟩ : ∃ z, z = σ 13 := ⟨_, rfl⟩
  obtain ⟨Sg, eSg⟩ : ∃ z, z = σ 22 := ⟨_, rfl⟩
  obtain ⟨Vv, eVv⟩ : ∃ z, z = σ 16 := ⟨_, rfl⟩
  have hn8 : n ≤ 8 := by rw [en]; exact nH_le _
  have hm6 : m ≤ 6 := by rw [em]; exact nE_le _
  have hc15 : c ≤ 15 := by rw [ec]; exact nC_le _
  have hrf12 : rf ≤ 12 := by rw [erf]; exact hL.rf.2.1
  have hsg8 : sg ≤ 8 := by rw [esg]; exact hL.sg.2.1
  have hk : HbOk n Hb hb := by rw [en, eHb, ehb]; exact hbOk σ
  have ha : AwOk m He aw := by rw [em, eHe, eaw]; exact awOk σ
  have hn : s 52 0 = nI n := by rw [en]; exact hC.n
  have hm : s 55 0 = nI m := by rw [em]; exact hC.m
  have hc : s 58 0 = nI c := by rw [ec]; exact hC.c
  have hrf : s 60 0 = nI rf := by rw [erf]; exact hC.rf
  have hsg : s 62 0 = nI sg := by rw [esg]; exact hC.sg
  have hR : CHr n Hb hb s := by rw [en, eHb, ehb]; exact hC.hR
  have hE : CEr m He aw s := by rw [em, eHe, eaw]; exact hC.hE
  have hCl : CCr c Cl s := by rw [ec, eCl]; exact hC.hCl
  have hRf : CRr rf Rf s := by rw [erf, eRf]; exact hC.hRf hL
  have hSg : CSr sg Sg s := by rw [esg, eSg]; exact hC.hSg hL
  have hV : ∀ j, j < 42 → s 41 j = Vv j := by rw [eVv]; exact hC.hV
  refine J_iload_n dX11_march_0 rfl rfl ?_
  refine J_bipush (v := nI 17) dX11_march_1 (by decide) ?_
  refine J_cSi [.int v, .int (nI 17)] ms_X11_48 (c_X11_isBelowN (cW G r s l) v 17) rfl rfl (by decide) (Nat.le_of_ble_eq_true rfl) ⟨Nat.le_refl _, Nat.le_refl _⟩ dX11_march_3 ?_
  refine J_if_eqB 44 dX11_march_6 (by decide) (fun kcz1 => ?_) (fun kcz1 => ?_)
  · refine J_ldc2 dX11_march_44 k_X11_251 ?_
    exact J_lret dX11_march_47 rfl rfl rfl (hq s l (-9223372036854775806) (by subst en em ec erf esg eHb ehb eHe eaw eCl eRf eSg eVv; simp [qMarch, kcz1]) (show CI σ s from hC))
  · obtain ⟨Cc, hCc, rfl⟩ := (rng_iff (by omega)).mp kcz1
    have eCc : (nI Cc).toNatClampNeg = Cc := nI_clamp (by omega)
    refine J_aload_n dX11_march_9 rfl rfl ?_
    refine Cg_0_0 fr_X11_10_10 dX11_march_10 ?_
    refine Cg_1_0 fr_X11_76_1 dX11_march_13 ?_
    refine Cg_2_1 fr_X11_107_4 dX11_march_16 ?_
    refine J_iload_n dX11_march_19 rfl rfl ?_
    refine J_cUi [.int e] 4 mu_X11_111_3 (c_X5_hasRow1 r s l m hm e) cW_4 rfl rfl (by decide) (Nat.le_of_ble_eq_true rfl) ⟨Nat.le_refl _, Nat.le_refl _⟩ dX11_march_20 ?_
    refine J_if_eqB 44 dX11_march_23 (by decide) (fun kcz2 => ?_) (fun kcz2 => ?_)
    · refine J_ldc2 dX11_march_44 k_X11_251 ?_
      exact J_lret dX11_march_47 rfl rfl rfl (hq s l (-9223372036854775806) (by subst en em ec erf esg eHb ehb eHe eaw eCl eRf eSg eVv; simp [qMarch, kcz1, eCc, kcz2]) (show CI σ s from hC))
    · obtain ⟨E9, hE9, rfl⟩ := (rng_iff (by omega)).mp kcz2
      have eE9 : (nI E9).toNatClampNeg = E9 := nI_clamp (by omega)
      refine J_iload_n dX11_march_26 rfl rfl ?_
      refine J_bipush (v := nI 9) dX11_march_27 (by decide) ?_
      refine J_cSi [.int lf, .int (nI 9)] ms_X11_48 (c_X11_isBelowN (cW G r s l) lf 9) rfl rfl (by decide) (Nat.le_of_ble_eq_true rfl) ⟨Nat.le_refl _, Nat.le_refl _⟩ dX11_march_29 ?_
      refine J_if_eqB 44 dX11_march_32 (by decide) (fun kcz3 => ?_) (fun kcz3 => ?_)
      · refine J_ldc2 dX11_march_44 k_X11_251 ?_
        exact J_lret dX11_march_47 rfl rfl rfl (hq s l (-9223372036854775806) (by subst en em ec erf esg eHb ehb eHe eaw eCl eRf eSg eVv; simp [qMarch, kcz1, eCc, kcz2, eE9, kcz3]) (show CI σ s from hC))
      · obtain ⟨Lf, hLf, rfl⟩ := (rng_iff (by omega)).mp kcz3
        have eLf : (nI Lf).toNatClampNeg = Lf := nI_clamp (by omega)
        refine J_iload dX11_march_35 rfl ?_
        refine J_iconst (v := nI 2) dX11_march_37 (by decide) ?_
        refine J_cSi [.int w, .int (nI 2)] ms_X11_48 (c_X11_isBelowN (cW G r s l) w 2) rfl rfl (by decide) (Nat.le_of_ble_eq_true rfl) ⟨Nat.le_refl _, Nat.le_refl _⟩ dX11_march_38 ?_
        refine J_if_neB 48 dX11_march_41 (by decide) (fun kcz4 => ?_) (fun kcz4 => ?_)
        · obtain ⟨Wn, hWn, rfl⟩ := (rng_iff (by omega)).mp kcz4
          have eWn : (nI Wn).toNatClampNeg = Wn := nI_clamp (by omega)
          rcases (show Wn = 0 ∨ Wn = 1 by omega) with rfl | rfl
          · refine J_aload_n dX11_march_48 rfl rfl ?_
            refine Cg_0_0 fr_X11_10_10 dX11_march_49 ?_
            refine J_cVv (x := yX12_in) [] 1 mv_X11_162 (c_X1_settle r s l n hn hn8 m hm hm6 c hc hc15 Cl hCl rf hrf hrf12 Rf hRf) cW_1 rfl rfl (by decide) (Nat.le_of_ble_eq_true rfl) ⟨Nat.le_refl _, Nat.le_refl _⟩ dX11_march_52 ?_
            show J G "march" RX11 cX11_march 6 (some .long) 0 0 4 Q 0 0 55 [(0, .ref (r 0)), (1, .int (nI Cc)), (2, .int (nI E9)), (3, .int (nI Lf)), (4, .int (nI 0))] [] (cW G r (su 61 (su 40 (su 39 s ((wlF n m Cl (rfsM rf Rf (-1) 0) c).1)) (fun q => nI (rfB rf Rf (-1) 0 q))) (fun _ => nI (wlF n m Cl (rfsM rf Rf (-1) 0) c).2)) l)
            refine J_aload_n dX11_march_55 rfl rfl ?_
            refine Cg_0_0 fr_X11_10_10 dX11_march_56 ?_
            refine Cg_1_0 fr_X11_76_1 dX11_march_59 ?_
            refine J_aload_n dX11_march_62 rfl rfl ?_
            refine Cg_0_0 fr_X11_10_10 dX11_march_63 ?_
            refine J_iload_n dX11_march_66 rfl rfl ?_
            refine J_cVi (x := yX12_in) [.int (nI E9)] 1 mv_X11_169 (c_X1_bitsOf r (su 61 (su 40 (su 39 s ((wlF n m Cl (rfsM rf Rf (-1) 0) c).1)) (fun q => nI (rfB rf Rf (-1) 0 q))) (fun _ => nI (wlF n m Cl (rfsM rf Rf (-1) 0) c).2)) l n hn hn8 E9) cW_1 rfl rfl (by decide) (Nat.le_of_ble_eq_true rfl) ⟨Nat.le_refl _, Nat.le_refl _⟩ dX11_march_67 ?_
            refine J_rw (y := nI (hasM n ((wlF n m Cl (rfsM rf Rf (-1) 0) c).1) E9)) rfl ?_
            refine J_cVi (x := yX12_in) [.int (nI (hasM n ((wlF n m Cl (rfsM rf Rf (-1) 0) c).1) E9))] 2 mv_X11_253 (c_X4_viceBits r (su 61 (su 40 (su 39 s ((wlF n m Cl (rfsM rf Rf (-1) 0) c).1)) (fun q => nI (rfB rf Rf (-1) 0 q))) (fun _ => nI (wlF n m Cl (rfsM rf Rf (-1) 0) c).2)) l n hn hn8 Hb hb hR hk (hasM n ((wlF n m Cl (rfsM rf Rf (-1) 0) c).1) E9) (bm_lt256 _ hn8)) cW_2 rfl rfl (by decide) (Nat.le_of_ble_eq_true rfl) ⟨Nat.le_refl _, Nat.le_refl _⟩ dX11_march_70 ?_
            refine J_rw (y := nI (vB n Hb (hasM n ((wlF n m Cl (rfsM rf Rf (-1) 0) c).1) E9))) rfl ?_
            refine J_cSi [.int (nI (vB n Hb (hasM n ((wlF n m Cl (rfsM rf Rf (-1) 0) c).1) E9)))] ms_X11_192 (c_J6_bitCount_0f7a4 (cW G r (su 61 (su 40 (su 39 s ((wlF n m Cl (rfsM rf Rf (-1) 0) c).1)) (fun q => nI (rfB rf Rf (-1) 0 q))) (fun _ => nI (wlF n m Cl (rfsM rf Rf (-1) 0) c).2)) l) (vB n Hb (hasM n ((wlF n m Cl (rfsM rf Rf (-1) 0) c).1) E9)) (bm_lt256 _ hn8)) rfl rfl (by decide) (Nat.le_of_ble_eq_true rfl) ⟨Nat.le_refl _, Nat.le_refl _⟩ dX11_march_73 ?_
            refine J_rw (y := nI (popc (vB n Hb (hasM n ((wlF n m Cl (rfsM rf Rf (-1) 0) c).1) E9)))) rfl ?_
            refine J_istore [(0, .ref (r 0)), (1, .int (nI Cc)), (2, .int (nI E9)), (3, .int (nI Lf)), (4, .int (nI 0)), (5, .int (nI (popc (vB n Hb (hasM n ((wlF n m Cl (rfsM rf Rf (-1) 0) c).1) E9)))))] dX11_march_76 (by decide) rfl rfl rfl ?_
            refine J_iload_n dX11_march_78 rfl rfl ?_
            refine J_iload dX11_march_79 rfl ?_
            refine J_iload_n dX11_march_81 rfl rfl ?_
            refine J_iload dX11_march_82 rfl ?_
            refine J_cSl [.int (nI Cc), .int (nI (popc (vB n Hb (hasM n ((wlF n m Cl (rfsM rf Rf (-1) 0) c).1) E9)))), .int (nI Lf), .int (nI 0)] ms_X11_256 (c_X11_chanceLeft0 (cW G r (su 61 (su 40 (su 39 s ((wlF n m Cl (rfsM rf Rf (-1) 0) c).1)) (fun q => nI (rfB rf Rf (-1) 0 q))) (fun _ => nI (wlF n m Cl (rfsM rf Rf (-1) 0) c).2)) l) Cc (popc (vB n Hb (hasM n ((wlF n m Cl (rfsM rf Rf (-1) 0) c).1) E9))) Lf (by omega) (Nat.lt_succ_of_le (popc_le8 _)) (by omega)) rfl rfl (by decide) (Nat.le_of_ble_eq_true rfl) ⟨Nat.le_refl _, Nat.le_refl _⟩ dX11_march_84 ?_
            exact J_lret dX11_march_87 rfl rfl rfl (hq (su 61 (su 40 (su 39 s ((wlF n m Cl (rfsM rf Rf (-1) 0) c).1)) (fun q => nI (rfB rf Rf (-1) 0 q))) (fun _ => nI (wlF n m Cl (rfsM rf Rf (-1) 0) c).2)) l (mrA Cc (popc (vB n Hb (hasM n ((wlF n m Cl (rfsM rf Rf (-1) 0) c).1) E9))) Lf 0) (by subst en em ec erf esg eHb ehb eHe eaw eCl eRf eSg eVv; rw [wl0, show popc (vB (nH σ) (HbS σ) (hasM (nH σ) (wlS σ).1 E9)) = vcS σ E9 from vcS_eq σ E9]; simp [qMarch, rng_of (show 0 < 2 by decide) (by decide), nI_clamp (show 0 < 2 ^ 31 by decide), kcz1, eCc, kcz2, eE9, kcz3, eLf, kcz4, eWn]) (show CI σ (su 61 (su 40 (su 39 s ((wlF n m Cl (rfsM rf Rf (-1) 0) c).1)) (fun q => nI (rfB rf Rf (-1) 0 q))) (fun _ => nI (wlF n m Cl (rfsM rf Rf (-1) 0) c).2)) from hC))
          · refine J_aload_n dX11_march_48 rfl rfl ?_
            refine Cg_0_0 fr_X11_10_10 dX11_march_49 ?_
            refine J_cVv (x := yX12_in) [] 1 mv_X11_162 (c_X1_settle r s l n hn hn8 m hm hm6 c hc hc15 Cl hCl rf hrf hrf12 Rf hRf) cW_1 rfl rfl (by decide) (Nat.le_of_ble_eq_true rfl) ⟨Nat.le_refl _, Nat.le_refl _⟩ dX11_march_52 ?_
            show J G "march" RX11 cX11_march 6 (some .long) 0 0 4 Q 0 0 55 [(0, .ref (r 0)), (1, .int (nI Cc)), (2, .int (nI E9)), (3, .int (nI Lf)), (4, .int (nI 1))] [] (cW G r (su 61 (su 40 (su 39 s ((wlF n m Cl (rfsM rf Rf (-1) 0) c).1)) (fun q => nI (rfB rf Rf (-1) 0 q))) (fun _ => nI (wlF n m Cl (rfsM rf Rf (-1) 0) c).2)) l)
            refine J_aload_n dX11_march_55 rfl rfl ?_
            refine Cg_0_0 fr_X11_10_10 dX11_march_56 ?_
            refine Cg_1_0 fr_X11_76_1 dX11_march_59 ?_
            refine J_aload_n dX11_march_62 rfl rfl ?_
            refine Cg_0_0 fr_X11_10_10 dX11_march_63 ?_
            refine J_iload_n dX11_march_66 rfl rfl ?_
            refine J_cVi (x := yX12_in) [.int (nI E9)] 1 mv_X11_169 (c_X1_bitsOf r (su 61 (su 40 (su 39 s ((wlF n m Cl (rfsM rf Rf (-1) 0) c).1)) (fun q => nI (rfB rf Rf (-1) 0 q))) (fun _ => nI (wlF n m Cl (rfsM rf Rf (-1) 0) c).2)) l n hn hn8 E9) cW_1 rfl rfl (by decide) (Nat.le_of_ble_eq_true rfl) ⟨Nat.le_refl _, Nat.le_refl _⟩ dX11_march_67 ?_
            refine J_rw (y := nI (hasM n ((wlF n m Cl (rfsM rf Rf (-1) 0) c).1) E9)) rfl ?_
            refine J_cVi (x := yX12_in) [.int (nI (hasM n ((wlF n m Cl (rfsM rf Rf (-1) 0) c).1) E9))] 2 mv_X11_253 (c_X4_viceBits r (su 61 (su 40 (su 39 s ((wlF n m Cl (rfsM rf Rf (-1) 0) c).1)) (fun q => nI (rfB rf Rf (-1) 0 q))) (fun _ => nI (wlF n m Cl (rfsM rf Rf (-1) 0) c).2)) l n hn hn8 Hb hb hR hk (hasM n ((wlF n m Cl (rfsM rf Rf (-1) 0) c).1) E9) (bm_lt256 _ hn8)) cW_2 rfl rfl (by decide) (Nat.le_of_ble_eq_true rfl) ⟨Nat.le_refl _, Nat.le_refl _⟩ dX11_march_70 ?_
            refine J_rw (y := nI (vB n Hb (hasM n ((wlF n m Cl (rfsM rf Rf (-1) 0) c).1) E9))) rfl ?_
            refine J_cSi [.int (nI (vB n Hb (hasM n ((wlF n m Cl (rfsM rf Rf (-1) 0) c).1) E9)))] ms_X11_192 (c_J6_bitCount_0f7a4 (cW G r (su 61 (su 40 (su 39 s ((wlF n m Cl (rfsM rf Rf (-1) 0) c).1)) (fun q => nI (rfB rf Rf (-1) 0 q))) (fun _ => nI (wlF n m Cl (rfsM rf Rf (-1) 0) c).2)) l) (vB n Hb (hasM n ((wlF n m Cl (rfsM rf Rf (-1) 0) c).1) E9)) (bm_lt256 _ hn8)) rfl rfl (by decide) (Nat.le_of_ble_eq_true rfl) ⟨Nat.le_refl _, Nat.le_refl _⟩ dX11_march_73 ?_
            refine J_rw (y := nI (popc (vB n Hb (hasM n ((wlF n m Cl (rfsM rf Rf (-1) 0) c).1) E9)))) rfl ?_
            refine J_istore [(0, .ref (r 0)), (1, .int (nI Cc)), (2, .int (nI E9)), (3, .int (nI Lf)), (4, .int (nI 1)), (5, .int (nI (popc (vB n Hb (hasM n ((wlF n m Cl (rfsM rf Rf (-1) 0) c).1) E9)))))] dX11_march_76 (by decide) rfl rfl rfl ?_
            refine J_iload_n dX11_march_78 rfl rfl ?_
            refine J_iload dX11_march_79 rfl ?_
            refine J_iload_n dX11_march_81 rfl rfl ?_
            refine J_iload dX11_march_82 rfl ?_
            refine J_cSl [.int (nI Cc), .int (nI (popc (vB n Hb (hasM n ((wlF n m Cl (rfsM rf Rf (-1) 0) c).1) E9)))), .int (nI Lf), .int (nI 1)] ms_X11_256 (c_X11_chanceLeft1 (cW G r (su 61 (su 40 (su 39 s ((wlF n m Cl (rfsM rf Rf (-1) 0) c).1)) (fun q => nI (rfB rf Rf (-1) 0 q))) (fun _ => nI (wlF n m Cl (rfsM rf Rf (-1) 0) c).2)) l) Cc (popc (vB n Hb (hasM n ((wlF n m Cl (rfsM rf Rf (-1) 0) c).1) E9))) Lf (by omega) (Nat.lt_succ_of_le (popc_le8 _)) (by omega)) rfl rfl (by decide) (Nat.le_of_ble_eq_true rfl) ⟨Nat.le_refl _, Nat.le_refl _⟩ dX11_march_84 ?_
            exact J_lret dX11_march_87 rfl rfl rfl (hq (su 61 (su 40 (su 39 s ((wlF n m Cl (rfsM rf Rf (-1) 0) c).1)) (fun q => nI (rfB rf Rf (-1) 0 q))) (fun _ => nI (wlF n m Cl (rfsM rf Rf (-1) 0) c).2)) l (mrA Cc (popc (vB n Hb (hasM n ((wlF n m Cl (rfsM rf Rf (-1) 0) c).1) E9))) Lf 1) (by subst en em ec erf esg eHb ehb eHe eaw eCl eRf eSg eVv; rw [wl0, show popc (vB (nH σ) (HbS σ) (hasM (nH σ) (wlS σ).1 E9)) = vcS σ E9 from vcS_eq σ E9]; simp [qMarch, rng_of (show 1 < 2 by decide) (by decide), nI_clamp (show 1 < 2 ^ 31 by decide), kcz1, eCc, kcz2, eE9, kcz3, eLf, kcz4, eWn]) (show CI σ (su 61 (su 40 (su 39 s ((wlF n m Cl (rfsM rf Rf (-1) 0) c).1)) (fun q => nI (rfB rf Rf (-1) 0 q))) (fun _ => nI (wlF n m Cl (rfsM rf Rf (-1) 0) c).2)) from hC))
        · refine J_ldc2 dX11_march_44 k_X11_251 ?_
          exact J_lret dX11_march_47 rfl rfl rfl (hq s l (-9223372036854775806) (by subst en em ec erf esg eHb ehb eHe eaw eCl eRf eSg eVv; simp [qMarch, kcz1, eCc, kcz2, eE9, kcz3, eLf, kcz4]) (show CI σ s from hC))
theorem c_X11_march {G : GT} (r : Nat → Nat) (s : St) (l : Nat → Int64) (σ : St) (hL : LI σ) (hC : CI σ s) (v e lf w : Int32) : Ct G yX11_march cX11_march 6 (some .long) 0 0 4 [.ref (r 0), .int v, .int e, .int lf, .int w] (cW G r s l) (QCL G r (qMarch v e lf w σ) σ) := Ct.of rfl (Nat.le_of_ble_eq_true rfl) (j_X11_march r s l σ hL hC v e lf w (fun x lx a h1 h2 => ⟨x, lx, by rw [h1], rfl, h2⟩))
set_option maxRecDepth 100000 in
set_option maxHeartbeats 1000000 in
theorem j_X11_wills {G : GT} (r : Nat → Nat) (s : St) (l : Nat → Int64) (σ : St) (hL : LI σ) (hC : CI σ s) (seed k e : Int32) {Q : Option Value → va_W → Prop} (hq : ∀ (x : St) (lx : Nat → Int64) (a : Int32 × St), a = (qWills seed k e σ, σ) → CI a.2 x → Q (some (.int a.1)) (cW G r x lx)) : J G "wills" RX11 cX11_wills 5 (some .int) 0 0 4 Q 0 0 0 [(0, .ref (r 0)), (1, .int seed), (2, .int k), (3, .int e)] [] (cW G r s l) := by
  obtain ⟨n, en⟩ : ∃ z, z = nH σ := ⟨_, rfl⟩
  obtain ⟨m, em⟩ : ∃ z, z = nE σ := ⟨_, rfl⟩
  obtain ⟨c, ec⟩ : ∃ z, z = nC σ := ⟨_, rfl⟩
  obtain ⟨rf, erf⟩ : ∃ z, z = rfn σ := ⟨_, rfl⟩
  obtain ⟨sg, esg⟩ : ∃ z, z = sgn σ := ⟨_, rfl⟩
  obtain ⟨Hb, eHb⟩ : ∃ z, z = HbS σ := ⟨_, rfl⟩
  obtain ⟨hb, ehb⟩ : ∃ z, z = hbS σ := ⟨_, rfl⟩
  obtain ⟨He, eHe⟩ : ∃ z, z = HeS σ := ⟨_, rfl⟩
  obtain ⟨aw, eaw⟩ : ∃ z, z = awS σ := ⟨_, rfl⟩
  obtain ⟨Cl, eCl⟩ : ∃ z, z = ClS σ := ⟨_, rfl⟩
  obtain ⟨Rf, eRf⟩ : ∃ z, z = σ 13 := ⟨_, rfl⟩
  obtain ⟨Sg, eSg⟩ : ∃ z, z = σ 22 := ⟨_, rfl⟩
  obtain ⟨Vv, eVv⟩ : ∃ z, z = σ 16 := ⟨_, rfl⟩
  have hn8 : n ≤ 8 := by rw [en]; exact nH_le _
  have hm6 : m ≤ 6 := by rw [em]; exact nE_le _
  have hc15 : c ≤ 15 := by rw [ec]; exact nC_le _
  have hrf12 : rf ≤ 12 := by rw [erf]; exact hL.rf.2.1
  have hsg8 : sg ≤ 8 := by rw [esg]; exact hL.sg.2.1
  have hk : HbOk n Hb hb := by rw [en, eHb, ehb]; exact hbOk σ
  have ha : AwOk m He aw := by rw [em, eHe, eaw]; exact awOk σ
  have hn : s 52 0 = nI n := by rw [en]; exact hC.n
  have hm : s 55 0 = nI m := by rw [em]; exact hC.m
  have hc : s 58 0 = nI c := by rw [ec]; exact hC.c
  have hrf : s 60 0 = nI rf := by rw [erf]; exact hC.rf
  have hsg : s 62 0 = nI sg := by rw [esg]; exact hC.sg
  have hR : CHr n Hb hb s := by rw [en, eHb, ehb]; exact hC.hR
  have hE : CEr m He aw s := by rw [em, eHe, eaw]; exact hC.hE
  have hCl : CCr c Cl s := by rw [ec, eCl]; exact hC.hCl
  have hRf : CRr rf Rf s := by rw [erf, eRf]; exact hC.hRf hL
  have hSg : CSr sg Sg s := by rw [esg, eSg]; exact hC.hSg hL
  have hV : ∀ j, j < 42 → s 41 j = Vv j := by rw [eVv]; exact hC.hV
  refine J_aload_n dX11_wills_0 rfl rfl ?_
  refine Cg_0_0 fr_X11_10_10 dX11_wills_1 ?_
  refine Cg_1_0 fr_X11_76_1 dX11_wills_4 ?_
  refine J_astore [(0, .ref (r 0)), (1, .int seed), (2, .int k), (3, .int e), (4, .ref (r 2))] dX11_wills_7 (by decide) rfl rfl rfl ?_
  refine J_iload_n dX11_wills_9 rfl rfl ?_
  refine J_iconst (v := nI 1) dX11_wills_10 (by decide) ?_
  refine J_icmp_lt 43 dX11_wills_11 (by decide) (fun kcz1 => ?_) (fun kcz1 => ?_)
  · refine J_bipush (v := -2) dX11_wills_43 (by decide) ?_
    exact J_iret dX11_wills_45 rfl rfl rfl (hq s l ((-2), σ) (by subst en em ec erf esg eHb ehb eHe eaw eCl eRf eSg eVv; simp [qWills, inI, kcz1]) (show CI σ s from hC))
  · refine J_iload_n dX11_wills_14 rfl rfl ?_
    refine J_bipush (v := nI 20) dX11_wills_15 (by decide) ?_
    refine J_icmp_gt 43 dX11_wills_17 (by decide) (fun kcz2 => ?_) (fun kcz2 => ?_)
    · refine J_bipush (v := -2) dX11_wills_43 (by decide) ?_
      exact J_iret dX11_wills_45 rfl rfl rfl (hq s l ((-2), σ) (by subst en em ec erf esg eHb ehb eHe eaw eCl eRf eSg eVv; simp [qWills, inI, kcz1, kcz2]) (show CI σ s from hC))
    · have hin : inI k (nI 1) (nI 20) = true := by simp [inI, kcz1, kcz2]
      obtain ⟨K, hK1, hK20, rfl⟩ := in120 hin
      have eK : (nI K).toNatClampNeg = K := nI_clamp (by omega)
      refine J_aload dX11_wills_20 rfl ?_
      refine Cg_2_1 fr_X11_107_4 dX11_wills_22 ?_
      refine J_iload_n dX11_wills_25 rfl rfl ?_
      refine J_cUi [.int e] 4 mu_X11_111_3 (c_X5_hasRow1 r s l m hm e) cW_4 rfl rfl (by decide) (Nat.le_of_ble_eq_true rfl) ⟨Nat.le_refl _, Nat.le_refl _⟩ dX11_wills_26 ?_
      refine J_if_eqB 43 dX11_wills_29 (by decide) (fun kcz3 => ?_) (fun kcz3 => ?_)
      · refine J_bipush (v := -2) dX11_wills_43 (by decide) ?_
        exact J_iret dX11_wills_45 rfl rfl rfl (hq s l ((-2), σ) (by subst en em ec erf esg eHb ehb eHe eaw eCl eRf eSg eVv; simp [qWills, hin, eK, kcz3]) (show CI σ s from hC))
      · obtain ⟨E9, hE9, rfl⟩ := (rng_iff (by omega)).mp kcz3
        have eE9 : (nI E9).toNatClampNeg = E9 := nI_clamp (by omega)
        refine J_aload dX11_wills_32 rfl ?_
        refine Cg_2_0 fr_X11_80_4 dX11_wills_34 ?_
        refine Cg_3_4 (s := s) fr_X11_260_2 (s 52 0) rfl dX11_wills_37 ?_
        refine J_rw (y := nI n) hn ?_
        refine J_if_neN 46 (by omega) dX11_wills_40 (by decide) (fun kcz4 => ?_) (fun kcz4 => ?_)
        · have hn0 : 0 < n := (by omega)
          refine J_aload_n dX11_wills_46 rfl rfl ?_
          refine Cg_0_0 fr_X11_10_10 dX11_wills_47 ?_
          refine J_cVv (x := yX12_in) [] 1 mv_X11_162 (c_X1_settle r s l n hn hn8 m hm hm6 c hc hc15 Cl hCl rf hrf hrf12 Rf hRf) cW_1 rfl rfl (by decide) (Nat.le_of_ble_eq_true rfl) ⟨Nat.le_refl _, Nat.le_refl _⟩ dX11_wills_50 ?_
          show J G "wills" RX11 cX11_wills 5 (some .int) 0 0 4 Q 0 0 53 [(0, .ref (r 0)), (1, .int seed), (2, .int (nI K)), (3, .int (nI E9)), (4, .ref (r 2))] [] (cW G r (su 61 (su 40 (su 39 s ((wlF n m Cl (rfsM rf Rf (-1) 0) c).1)) (fun q => nI (rfB rf Rf (-1) 0 q))) (fun _ => nI (wlF n m Cl (rfsM rf Rf (-1) 0) c).2)) l)
          refine J_aload_n dX11_wills_53 rfl rfl ?_
          refine Cg_0_0 fr_X11_10_10 dX11_wills_54 ?_
          refine J_iload_n dX11_wills_57 rfl rfl ?_
          refine J_iload_n dX11_wills_58 rfl rfl ?_
          refine J_cVv (x := yX12_in) [.int seed, .int (nI K)] 1 mv_X11_261 (c_X1_addByLots r (su 61 (su 40 (su 39 s ((wlF n m Cl (rfsM rf Rf (-1) 0) c).1)) (fun q => nI (rfB rf Rf (-1) 0 q))) (fun _ => nI (wlF n m Cl (rfsM rf Rf (-1) 0) c).2)) l n hn hn8 m hm hm6 (rfB rf Rf (-1) 0) (fun q hq => ⟨rfl, rfB_lt hRf (by decide) q⟩) seed K hn0 (by omega) (by omega)) cW_1 rfl rfl (by decide) (Nat.le_of_ble_eq_true rfl) ⟨Nat.le_refl _, Nat.le_refl _⟩ dX11_wills_59 ?_
          show J G "wills" RX11 cX11_wills 5 (some .int) 0 0 4 Q 0 0 62 [(0, .ref (r 0)), (1, .int seed), (2, .int (nI K)), (3, .int (nI E9)), (4, .ref (r 2))] [] (cW G r (su 39 (su 61 (su 40 (su 39 s ((wlF n m Cl (rfsM rf Rf (-1) 0) c).1)) (fun q => nI (rfB rf Rf (-1) 0 q))) (fun _ => nI (wlF n m Cl (rfsM rf Rf (-1) 0) c).2)) ((wsF n m (fun q h => ((rfB rf Rf (-1) 0) q).testBit h) ((wlF n m Cl (rfsM rf Rf (-1) 0) c).1) seed K).2)) l)
          refine J_ws (ws2 := (cW G r (su 61 (su 40 (su 39 s ((wsF n m (fun q h => ((rfB rf Rf (-1) 0) q).testBit h) ((wlF n m Cl (rfsM rf Rf (-1) 0) c).1) seed K).2)) (fun q => nI (rfB rf Rf (-1) 0 q))) (fun _ => nI (wlF n m Cl (rfsM rf Rf (-1) 0) c).2)) l)) (congrArg (fun q_ => cW G r q_ l) ((su_sw (by decide)).trans (su_cg ((su_sw (by decide)).trans (su_cg su_tw))))) ?_
          refine J_aload dX11_wills_62 rfl ?_
          refine J_aload_n dX11_wills_64 rfl rfl ?_
          refine Cg_0_0 fr_X11_10_10 dX11_wills_65 ?_
          refine J_iload_n dX11_wills_68 rfl rfl ?_
          refine J_cVi (x := yX12_in) [.int (nI E9)] 1 mv_X11_169 (c_X1_bitsOf r (su 61 (su 40 (su 39 s ((wsF n m (fun q h => ((rfB rf Rf (-1) 0) q).testBit h) ((wlF n m Cl (rfsM rf Rf (-1) 0) c).1) seed K).2)) (fun q => nI (rfB rf Rf (-1) 0 q))) (fun _ => nI (wlF n m Cl (rfsM rf Rf (-1) 0) c).2)) l n hn hn8 E9) cW_1 rfl rfl (by decide) (Nat.le_of_ble_eq_true rfl) ⟨Nat.le_refl _, Nat.le_refl _⟩ dX11_wills_69 ?_
          refine J_rw (y := nI (hasM n ((wsF n m (fun q h => ((rfB rf Rf (-1) 0) q).testBit h) ((wlF n m Cl (rfsM rf Rf (-1) 0) c).1) seed K).2) E9)) rfl ?_
          refine J_cVi (x := yX12_in) [.int (nI (hasM n ((wsF n m (fun q h => ((rfB rf Rf (-1) 0) q).testBit h) ((wlF n m Cl (rfsM rf Rf (-1) 0) c).1) seed K).2) E9))] 2 mv_X11_176 (c_X4_worthOf r (su 61 (su 40 (su 39 s ((wsF n m (fun q h => ((rfB rf Rf (-1) 0) q).testBit h) ((wlF n m Cl (rfsM rf Rf (-1) 0) c).1) seed K).2)) (fun q => nI (rfB rf Rf (-1) 0 q))) (fun _ => nI (wlF n m Cl (rfsM rf Rf (-1) 0) c).2)) l n hn hn8 Hb hb hR hk (hasM n ((wsF n m (fun q h => ((rfB rf Rf (-1) 0) q).testBit h) ((wlF n m Cl (rfsM rf Rf (-1) 0) c).1) seed K).2) E9) (bm_lt256 _ hn8)) cW_2 rfl rfl (by decide) (Nat.le_of_ble_eq_true rfl) ⟨Nat.le_refl _, Nat.le_refl _⟩ dX11_wills_72 ?_
          refine J_rw (y := wB n Hb (hasM n ((wsF n m (fun q h => ((rfB rf Rf (-1) 0) q).testBit h) ((wlF n m Cl (rfsM rf Rf (-1) 0) c).1) seed K).2) E9)) rfl ?_
          exact J_iret dX11_wills_75 rfl rfl rfl (hq (su 61 (su 40 (su 39 s ((wsF n m (fun q h => ((rfB rf Rf (-1) 0) q).testBit h) ((wlF n m Cl (rfsM rf Rf (-1) 0) c).1) seed K).2)) (fun q => nI (rfB rf Rf (-1) 0 q))) (fun _ => nI (wlF n m Cl (rfsM rf Rf (-1) 0) c).2)) l (wB n Hb (hasM n ((wsF n m (fun q h => ((rfB rf Rf (-1) 0) q).testBit h) ((wlF n m Cl (rfsM rf Rf (-1) 0) c).1) seed K).2) E9), σ) (by subst en em ec erf esg eHb ehb eHe eaw eCl eRf eSg eVv; rw [w_eq, wl0, wsF_cg (RF' := rfS σ) hn0 (by omega) (fun q hq h hh => (rfB_at (hC.hRf hL) (by have := nH_le σ; omega)).trans (rfsM_0 q h))]; simp [qWills, wsA, wiS, hin, eK, kcz3, eE9, kcz4]) (show CI σ (su 61 (su 40 (su 39 s ((wsF n m (fun q h => ((rfB rf Rf (-1) 0) q).testBit h) ((wlF n m Cl (rfsM rf Rf (-1) 0) c).1) seed K).2)) (fun q => nI (rfB rf Rf (-1) 0 q))) (fun _ => nI (wlF n m Cl (rfsM rf Rf (-1) 0) c).2)) from hC))
        · refine J_bipush (v := -2) dX11_wills_43 (by decide) ?_
          exact J_iret dX11_wills_45 rfl rfl rfl (hq s l ((-2), σ) (by subst en em ec erf esg eHb ehb eHe eaw eCl eRf eSg eVv; simp [qWills, hin, eK, kcz3, eE9, kcz4]) (show CI σ s from hC))
theorem c_X11_wills {G : GT} (r : Nat → Nat) (s : St) (l : Nat → Int64) (σ : St) (hL : LI σ) (hC : CI σ s) (seed k e : Int32) : Ct G yX11_wills cX11_wills 5 (some .int) 0 0 4 [.ref (r 0), .int seed, .int k, .int e] (cW G r s l) (QC G r ((qWills seed k e σ, σ))) := Ct.of rfl (Nat.le_of_ble_eq_true rfl) (j_X11_wills r s l σ hL hC seed k e (fun x lx a h1 h2 => ⟨x, lx, by rw [h1], rfl, by rw [← h1]; exact h2⟩))
set_option maxRecDepth 100000 in
set_option maxHeartbeats 1000000 in
theorem j_X11_read {G : GT} (r : Nat → Nat) (s : St) (l : Nat → Int64) (σ : St) (hL : LI σ) (hC : CI σ s) (v : Int32) {Q : Option Value → va_W → Prop} (hq : ∀ (x : St) (lx : Nat → Int64) (a : Int32 × St), a = oRead v σ → CI a.2 x → Q (some (.int a.1)) (cW G r x lx)) : J G "read" RX11 cX11_read 3 (some .int) 0 0 3 Q 0 0 0 [(0, .ref (r 0)), (1, .int v)] [] (cW G r s l) := by
  refine J_iload_n dX11_read_0 rfl rfl ?_
  refine J_iconst (v := nI 4) dX11_read_1 (by decide) ?_
  refine J_cSi [.int v, .int (nI 4)] ms_X11_48 (c_X11_isBelowN (cW G r s l) v 4) rfl rfl (by decide) (Nat.le_of_ble_eq_true rfl) ⟨Nat.le_refl _, Nat.le_refl _⟩ dX11_read_2 ?_
  refine J_if_neB 11 dX11_read_5 (by decide) (fun kcz1 => ?_) (fun kcz1 => ?_)
  · obtain ⟨V9, hV9, rfl⟩ := (rng_iff (by omega)).mp kcz1
    have eV9 : (nI V9).toNatClampNeg = V9 := nI_clamp (by omega)
    rcases (show V9 = 0 ∨ V9 = 1 ∨ V9 = 2 ∨ V9 = 3 by omega) with rfl | rfl | rfl | rfl
    · rcases hC.2.2.2.2.2.2.1.1 with ⟨u1, u2⟩ | ⟨u1, u2, u3, u4⟩
      · have hls : decide (s 68 0 = -1) = true := decide_eq_true u1
        have hsp : ¬ 0 ≤ σ 0 0 := by rw [u2]; decide
        refine J_aload_n dX11_read_11 rfl rfl ?_
        refine Cg_0_4 fr_X11_39_10 dX11_read_12 ?_
        refine J_iload_n dX11_read_15 rfl rfl ?_
        refine Cl_10 0 rfl (by omega) dX11_read_16 ?_
        refine J_astore_n [(0, .ref (r 0)), (1, .int (nI 0)), (2, .ref (r (11 + 0)))] dX11_read_17 rfl (by decide) rfl rfl rfl ?_
        refine J_aload_n dX11_read_18 rfl rfl ?_
        refine J_cVi (x := yX12_in) [] (11 + 0) mv_X11_227 (c_X8_isLost r s l 0 (by omega)) (cW_sh (by omega)) rfl rfl (by decide) (Nat.le_of_ble_eq_true rfl) ⟨Nat.le_refl _, Nat.le_refl _⟩ dX11_read_19 ?_
        refine J_if_eqB 31 dX11_read_22 (by decide) (fun c => absurd c (by rw [hls]; decide)) (fun _ => ?_)
        refine J_aload_n dX11_read_25 rfl rfl ?_
        refine J_iconst (v := nI 1) dX11_read_26 (by decide) ?_
        refine J_cVi (x := yX12_in) [.int (nI 1)] 0 mv_X11_230 (c_X11_found r s l 1) cW_0 rfl rfl (by decide) (Nat.le_of_ble_eq_true rfl) ⟨Nat.le_refl _, Nat.le_refl _⟩ dX11_read_27 ?_
        show J G "read" RX11 cX11_read 3 (some .int) 0 0 3 Q 0 0 30 [(0, .ref (r 0)), (1, .int (nI 0)), (2, .ref (r (11 + 0)))] [.int ((-10) - nI 1)] (cW G r (su 50 s (fun _ => nI 1)) l)
        exact J_iret dX11_read_30 rfl rfl rfl (hq (su 50 s (fun _ => nI 1)) l ((-10) - nI 1, (su 4 σ (fun _ => nI 1))) (by simp [oRead, fnd, kcz1, eV9, hsp, rng_of (show 0 < 4 by decide) (by decide), nI_clamp (show 0 < 2 ^ 31 by decide)]) (ci_fnd hC))
      · obtain ⟨z, hz60, ez⟩ := (hL.sh (j := 0) (by decide)).2
        have hz : s 68 0 = nI z := u3.trans ez
        have hls : decide (s 68 0 = -1) = false := decide_eq_false (by rw [hz]; exact fun q => m1_ne (by omega) q.symm)
        obtain ⟨fo, hfo, efo⟩ := (hL.sh (j := 0) (by decide)).1.resolve_left u2
        have hsp : 0 ≤ σ 0 0 := by rw [efo]; exact nI_nn (by omega)
        have hit : ∀ i, i < z → s 70 i = σ 2 (60 * 0 + i) := u4 z ez.symm hz60
        have ezc : (σ 1 0).toNatClampNeg = z := by rw [ez]; exact nI_clamp (by omega)
        refine J_aload_n dX11_read_11 rfl rfl ?_
        refine Cg_0_4 fr_X11_39_10 dX11_read_12 ?_
        refine J_iload_n dX11_read_15 rfl rfl ?_
        refine Cl_10 0 rfl (by omega) dX11_read_16 ?_
        refine J_astore_n [(0, .ref (r 0)), (1, .int (nI 0)), (2, .ref (r (11 + 0)))] dX11_read_17 rfl (by decide) rfl rfl rfl ?_
        refine J_aload_n dX11_read_18 rfl rfl ?_
        refine J_cVi (x := yX12_in) [] (11 + 0) mv_X11_227 (c_X8_isLost r s l 0 (by omega)) (cW_sh (by omega)) rfl rfl (by decide) (Nat.le_of_ble_eq_true rfl) ⟨Nat.le_refl _, Nat.le_refl _⟩ dX11_read_19 ?_
        refine J_if_eqB 31 dX11_read_22 (by decide) (fun _ => ?_) (fun c => absurd c (by rw [hls]; decide))
        refine J_aload_n dX11_read_31 rfl rfl ?_
        refine Cg_0_2 fr_X11_26_10 dX11_read_32 ?_
        refine J_aload_n dX11_read_35 rfl rfl ?_
        refine J_callV (wr := []) (As := [.ref (r (11 + 0))]) (st := []) 8 mv_X11_233 (c_X9_addFrom r s l 0 (by decide) z hz hz60 σ hL hC.2.2.2.2.2.1 hit) cW_8 rfl rfl rfl (by decide) (Nat.le_of_ble_eq_true rfl) ⟨Nat.le_refl _, Nat.le_refl _⟩ dX11_read_36 (fun v_ w_ h_ => ?_)
        obtain ⟨q42, q43, q44, q62, rfl, rfl, hsgn⟩ := h_
        show J G "read" RX11 cX11_read 3 (some .int) 0 0 3 Q 0 0 39 [(0, .ref (r 0)), (1, .int (nI 0)), (2, .ref (r (11 + 0)))] [.int ((rdL 0 z 21 0 σ).1)] (cW G r (su 62 (su 44 (su 43 (su 42 s q42) q43) q44) q62) l)
        exact J_iret dX11_read_39 rfl rfl rfl (hq (su 62 (su 44 (su 43 (su 42 s q42) q43) q44) q62) l ((rdL 0 z 21 0 σ).1, (rdL 0 z 21 0 σ).2) (by simp [oRead, fnd, kcz1, eV9, hsp, ezc, rng_of (show 0 < 4 by decide) (by decide), nI_clamp (show 0 < 2 ^ 31 by decide)]) (ci_read hC hsgn))
    · rcases hC.2.2.2.2.2.2.1.2.1 with ⟨u1, u2⟩ | ⟨u1, u2, u3, u4⟩
      · have hls : decide (s 68 1 = -1) = true := decide_eq_true u1
        have hsp : ¬ 0 ≤ σ 0 1 := by rw [u2]; decide
        refine J_aload_n dX11_read_11 rfl rfl ?_
        refine Cg_0_4 fr_X11_39_10 dX11_read_12 ?_
        refine J_iload_n dX11_read_15 rfl rfl ?_
        refine Cl_10 1 rfl (by omega) dX11_read_16 ?_
        refine J_astore_n [(0, .ref (r 0)), (1, .int (nI 1)), (2, .ref (r (11 + 1)))] dX11_read_17 rfl (by decide) rfl rfl rfl ?_
        refine J_aload_n dX11_read_18 rfl rfl ?_
        refine J_cVi (x := yX12_in) [] (11 + 1) mv_X11_227 (c_X8_isLost r s l 1 (by omega)) (cW_sh (by omega)) rfl rfl (by decide) (Nat.le_of_ble_eq_true rfl) ⟨Nat.le_refl _, Nat.le_refl _⟩ dX11_read_19 ?_
        refine J_if_eqB 31 dX11_read_22 (by decide) (fun c => absurd c (by rw [hls]; decide)) (fun _ => ?_)
        refine J_aload_n dX11_read_25 rfl rfl ?_
        refine J_iconst (v := nI 1) dX11_read_26 (by decide) ?_
        refine J_cVi (x := yX12_in) [.int (nI 1)] 0 mv_X11_230 (c_X11_found r s l 1) cW_0 rfl rfl (by decide) (Nat.le_of_ble_eq_true rfl) ⟨Nat.le_refl _, Nat.le_refl _⟩ dX11_read_27 ?_
        show J G "read" RX11 cX11_read 3 (some .int) 0 0 3 Q 0 0 30 [(0, .ref (r 0)), (1, .int (nI 1)), (2, .ref (r (11 + 1)))] [.int ((-10) - nI 1)] (cW G r (su 50 s (fun _ => nI 1)) l)
        exact J_iret dX11_read_30 rfl rfl rfl (hq (su 50 s (fun _ => nI 1)) l ((-10) - nI 1, (su 4 σ (fun _ => nI 1))) (by simp [oRead, fnd, kcz1, eV9, hsp, rng_of (show 1 < 4 by decide) (by decide), nI_clamp (show 1 < 2 ^ 31 by decide)]) (ci_fnd hC))
      · obtain ⟨z, hz60, ez⟩ := (hL.sh (j := 1) (by decide)).2
        have hz : s 68 1 = nI z := u3.trans ez
        have hls : decide (s 68 1 = -1) = false := decide_eq_false (by rw [hz]; exact fun q => m1_ne (by omega) q.symm)
        obtain ⟨fo, hfo, efo⟩ := (hL.sh (j := 1) (by decide)).1.resolve_left u2
        have hsp : 0 ≤ σ 0 1 := by rw [efo]; exact nI_nn (by omega)
        have hit : ∀ i, i < z → s 71 i = σ 2 (60 * 1 + i) := u4 z ez.symm hz60
        have ezc : (σ 1 1).toNatClampNeg = z := by rw [ez]; exact nI_clamp (by omega)
        refine J_aload_n dX11_read_11 rfl rfl ?_
        refine Cg_0_4 fr_X11_39_10 dX11_read_12 ?_
        refine J_iload_n dX11_read_15 rfl rfl ?_
        refine Cl_10 1 rfl (by omega) dX11_read_16 ?_
        refine J_astore_n [(0, .ref (r 0)), (1, .int (nI 1)), (2, .ref (r (11 + 1)))] dX11_read_17 rfl (by decide) rfl rfl rfl ?_
        refine J_aload_n dX11_read_18 rfl rfl ?_
        refine J_cVi (x := yX12_in) [] (11 + 1) mv_X11_227 (c_X8_isLost r s l 1 (by omega)) (cW_sh (by omega)) rfl rfl (by decide) (Nat.le_of_ble_eq_true rfl) ⟨Nat.le_refl _, Nat.le_refl _⟩ dX11_read_19 ?_
        refine J_if_eqB 31 dX11_read_22 (by decide) (fun _ => ?_) (fun c => absurd c (by rw [hls]; decide))
        refine J_aload_n dX11_read_31 rfl rfl ?_
        refine Cg_0_2 fr_X11_26_10 dX11_read_32 ?_
        refine J_aload_n dX11_read_35 rfl rfl ?_
        refine J_callV (wr := []) (As := [.ref (r (11 + 1))]) (st := []) 8 mv_X11_233 (c_X9_addFrom r s l 1 (by decide) z hz hz60 σ hL hC.2.2.2.2.2.1 hit) cW_8 rfl rfl rfl (by decide) (Nat.le_of_ble_eq_true rfl) ⟨Nat.le_refl _, Nat.le_refl _⟩ dX11_read_36 (fun v_ w_ h_ => ?_)
        obtain ⟨q42, q43, q44, q62, rfl, rfl, hsgn⟩ := h_
        show J G "read" RX11 cX11_read 3 (some .int) 0 0 3 Q 0 0 39 [(0, .ref (r 0)), (1, .int (nI 1)), (2, .ref (r (11 + 1)))] [.int ((rdL 1 z 21 0 σ).1)] (cW G r (su 62 (su 44 (su 43 (su 42 s q42) q43) q44) q62) l)
        exact J_iret dX11_read_39 rfl rfl rfl (hq (su 62 (su 44 (su 43 (su 42 s q42) q43) q44) q62) l ((rdL 1 z 21 0 σ).1, (rdL 1 z 21 0 σ).2) (by simp [oRead, fnd, kcz1, eV9, hsp, ezc, rng_of (show 1 < 4 by decide) (by decide), nI_clamp (show 1 < 2 ^ 31 by decide)]) (ci_read hC hsgn))
    · rcases hC.2.2.2.2.2.2.1.2.2.1 with ⟨u1, u2⟩ | ⟨u1, u2, u3, u4⟩
      · have hls : decide (s 68 2 = -1) = true := decide_eq_true u1
        have hsp : ¬ 0 ≤ σ 0 2 := by rw [u2]; decide
        refine J_aload_n dX11_read_11 rfl rfl ?_
        refine Cg_0_4 fr_X11_39_10 dX11_read_12 ?_
        refine J_iload_n dX11_read_15 rfl rfl ?_
        refine Cl_10 2 rfl (by omega) dX11_read_16 ?_
        refine J_astore_n [(0, .ref (r 0)), (1, .int (nI 2)), (2, .ref (r (11 + 2)))] dX11_read_17 rfl (by decide) rfl rfl rfl ?_
        refine J_aload_n dX11_read_18 rfl rfl ?_
        refine J_cVi (x := yX12_in) [] (11 + 2) mv_X11_227 (c_X8_isLost r s l 2 (by omega)) (cW_sh (by omega)) rfl rfl (by decide) (Nat.le_of_ble_eq_true rfl) ⟨Nat.le_refl _, Nat.le_refl _⟩ dX11_read_19 ?_
        refine J_if_eqB 31 dX11_read_22 (by decide) (fun c => absurd c (by rw [hls]; decide)) (fun _ => ?_)
        refine J_aload_n dX11_read_25 rfl rfl ?_
        refine J_iconst (v := nI 1) dX11_read_26 (by decide) ?_
        refine J_cVi (x := yX12_in) [.int (nI 1)] 0 mv_X11_230 (c_X11_found r s l 1) cW_0 rfl rfl (by decide) (Nat.le_of_ble_eq_true rfl) ⟨Nat.le_refl _, Nat.le_refl _⟩ dX11_read_27 ?_
        show J G "read" RX11 cX11_read 3 (some .int) 0 0 3 Q 0 0 30 [(0, .ref (r 0)), (1, .int (nI 2)), (2, .ref (r (11 + 2)))] [.int ((-10) - nI 1)] (cW G r (su 50 s (fun _ => nI 1)) l)
        exact J_iret dX11_read_30 rfl rfl rfl (hq (su 50 s (fun _ => nI 1)) l ((-10) - nI 1, (su 4 σ (fun _ => nI 1))) (by simp [oRead, fnd, kcz1, eV9, hsp, rng_of (show 2 < 4 by decide) (by decide), nI_clamp (show 2 < 2 ^ 31 by decide)]) (ci_fnd hC))
      · obtain ⟨z, hz60, ez⟩ := (hL.sh (j := 2) (by decide)).2
        have hz : s 68 2 = nI z := u3.trans ez
        have hls : decide (s 68 2 = -1) = false := decide_eq_false (by rw [hz]; exact fun q => m1_ne (by omega) q.symm)
        obtain ⟨fo, hfo, efo⟩ := (hL.sh (j := 2) (by decide)).1.resolve_left u2
        have hsp : 0 ≤ σ 0 2 := by rw [efo]; exact nI_nn (by omega)
        have hit : ∀ i, i < z → s 72 i = σ 2 (60 * 2 + i) := u4 z ez.symm hz60
        have ezc : (σ 1 2).toNatClampNeg = z := by rw [ez]; exact nI_clamp (by omega)
        refine J_aload_n dX11_read_11 rfl rfl ?_
        refine Cg_0_4 fr_X11_39_10 dX11_read_12 ?_
        refine J_iload_n dX11_read_15 rfl rfl ?_
        refine Cl_10 2 rfl (by omega) dX11_read_16 ?_
        refine J_astore_n [(0, .ref (r 0)), (1, .int (nI 2)), (2, .ref (r (11 + 2)))] dX11_read_17 rfl (by decide) rfl rfl rfl ?_
        refine J_aload_n dX11_read_18 rfl rfl ?_
        refine J_cVi (x := yX12_in) [] (11 + 2) mv_X11_227 (c_X8_isLost r s l 2 (by omega)) (cW_sh (by omega)) rfl rfl (by decide) (Nat.le_of_ble_eq_true rfl) ⟨Nat.le_refl _, Nat.le_refl _⟩ dX11_read_19 ?_
        refine J_if_eqB 31 dX11_read_22 (by decide) (fun _ => ?_) (fun c => absurd c (by rw [hls]; decide))
        refine J_aload_n dX11_read_31 rfl rfl ?_
        refine Cg_0_2 fr_X11_26_10 dX11_read_32 ?_
        refine J_aload_n dX11_read_35 rfl rfl ?_
        refine J_callV (wr := []) (As := [.ref (r (11 + 2))]) (st := []) 8 mv_X11_233 (c_X9_addFrom r s l 2 (by decide) z hz hz60 σ hL hC.2.2.2.2.2.1 hit) cW_8 rfl rfl rfl (by decide) (Nat.le_of_ble_eq_true rfl) ⟨Nat.le_refl _, Nat.le_refl _⟩ dX11_read_36 (fun v_ w_ h_ => ?_)
        obtain ⟨q42, q43, q44, q62, rfl, rfl, hsgn⟩ := h_
        show J G "read" RX11 cX11_read 3 (some .int) 0 0 3 Q 0 0 39 [(0, .ref (r 0)), (1, .int (nI 2)), (2, .ref (r (11 + 2)))] [.int ((rdL 2 z 21 0 σ).1)] (cW G r (su 62 (su 44 (su 43 (su 42 s q42) q43) q44) q62) l)
        exact J_iret dX11_read_39 rfl rfl rfl (hq (su 62 (su 44 (su 43 (su 42 s q42) q43) q44) q62) l ((rdL 2 z 21 0 σ).1, (rdL 2 z 21 0 σ).2) (by simp [oRead, fnd, kcz1, eV9, hsp, ezc, rng_of (show 2 < 4 by decide) (by decide), nI_clamp (show 2 < 2 ^ 31 by decide)]) (ci_read hC hsgn))
    · rcases hC.2.2.2.2.2.2.1.2.2.2 with ⟨u1, u2⟩ | ⟨u1, u2, u3, u4⟩
      · have hls : decide (s 68 3 = -1) = true := decide_eq_true u1
        have hsp : ¬ 0 ≤ σ 0 3 := by rw [u2]; decide
        refine J_aload_n dX11_read_11 rfl rfl ?_
        refine Cg_0_4 fr_X11_39_10 dX11_read_12 ?_
        refine J_iload_n dX11_read_15 rfl rfl ?_
        refine Cl_10 3 rfl (by omega) dX11_read_16 ?_
        refine J_astore_n [(0, .ref (r 0)), (1, .int (nI 3)), (2, .ref (r (11 + 3)))] dX11_read_17 rfl (by decide) rfl rfl rfl ?_
        refine J_aload_n dX11_read_18 rfl rfl ?_
        refine J_cVi (x := yX12_in) [] (11 + 3) mv_X11_227 (c_X8_isLost r s l 3 (by omega)) (cW_sh (by omega)) rfl rfl (by decide) (Nat.le_of_ble_eq_true rfl) ⟨Nat.le_refl _, Nat.le_refl _⟩ dX11_read_19 ?_
        refine J_if_eqB 31 dX11_read_22 (by decide) (fun c => absurd c (by rw [hls]; decide)) (fun _ => ?_)
        refine J_aload_n dX11_read_25 rfl rfl ?_
        refine J_iconst (v := nI 1) dX11_read_26 (by decide) ?_
        refine J_cVi (x := yX12_in) [.int (nI 1)] 0 mv_X11_230 (c_X11_found r s l 1) cW_0 rfl rfl (by decide) (Nat.le_of_ble_eq_true rfl) ⟨Nat.le_refl _, Nat.le_refl _⟩ dX11_read_27 ?_
        show J G "read" RX11 cX11_read 3 (some .int) 0 0 3 Q 0 0 30 [(0, .ref (r 0)), (1, .int (nI 3)), (2, .ref (r (11 + 3)))] [.int ((-10) - nI 1)] (cW G r (su 50 s (fun _ => nI 1)) l)
        exact J_iret dX11_read_30 rfl rfl rfl (hq (su 50 s (fun _ => nI 1)) l ((-10) - nI 1, (su 4 σ (fun _ => nI 1))) (by simp [oRead, fnd, kcz1, eV9, hsp, rng_of (show 3 < 4 by decide) (by decide), nI_clamp (show 3 < 2 ^ 31 by decide)]) (ci_fnd hC))
      · obtain ⟨z, hz60, ez⟩ := (hL.sh (j := 3) (by decide)).2
        have hz : s 68 3 = nI z := u3.trans ez
        have hls : decide (s 68 3 = -1) = false := decide_eq_false (by rw [hz]; exact fun q => m1_ne (by omega) q.symm)
        obtain ⟨fo, hfo, efo⟩ := (hL.sh (j := 3) (by decide)).1.resolve_left u2
        have hsp : 0 ≤ σ 0 3 := by rw [efo]; exact nI_nn (by omega)
        have hit : ∀ i, i < z → s 73 i = σ 2 (60 * 3 + i) := u4 z ez.symm hz60
        have ezc : (σ 1 3).toNatClampNeg = z := by rw [ez]; exact nI_clamp (by omega)
        refine J_aload_n dX11_read_11 rfl rfl ?_
        refine Cg_0_4 fr_X11_39_10 dX11_read_12 ?_
        refine J_iload_n dX11_read_15 rfl rfl ?_
        refine Cl_10 3 rfl (by omega) dX11_read_16 ?_
        refine J_astore_n [(0, .ref (r 0)), (1, .int (nI 3)), (2, .ref (r (11 + 3)))] dX11_read_17 rfl (by decide) rfl rfl rfl ?_
        refine J_aload_n dX11_read_18 rfl rfl ?_
        refine J_cVi (x := yX12_in) [] (11 + 3) mv_X11_227 (c_X8_isLost r s l 3 (by omega)) (cW_sh (by omega)) rfl rfl (by decide) (Nat.le_of_ble_eq_true rfl) ⟨Nat.le_refl _, Nat.le_refl _⟩ dX11_read_19 ?_
        refine J_if_eqB 31 dX11_read_22 (by decide) (fun _ => ?_) (fun c => absurd c (by rw [hls]; decide))
        refine J_aload_n dX11_read_31 rfl rfl ?_
        refine Cg_0_2 fr_X11_26_10 dX11_read_32 ?_
        refine J_aload_n dX11_read_35 rfl rfl ?_
        refine J_callV (wr := []) (As := [.ref (r (11 + 3))]) (st := []) 8 mv_X11_233 (c_X9_addFrom r s l 3 (by decide) z hz hz60 σ hL hC.2.2.2.2.2.1 hit) cW_8 rfl rfl rfl (by decide) (Nat.le_of_ble_eq_true rfl) ⟨Nat.le_refl _, Nat.le_refl _⟩ dX11_read_36 (fun v_ w_ h_ => ?_)
        obtain ⟨q42, q43, q44, q62, rfl, rfl, hsgn⟩ := h_
        show J G "read" RX11 cX11_read 3 (some .int) 0 0 3 Q 0 0 39 [(0, .ref (r 0)), (1, .int (nI 3)), (2, .ref (r (11 + 3)))] [.int ((rdL 3 z 21 0 σ).1)] (cW G r (su 62 (su 44 (su 43 (su 42 s q42) q43) q44) q62) l)
        exact J_iret dX11_read_39 rfl rfl rfl (hq (su 62 (su 44 (su 43 (su 42 s q42) q43) q44) q62) l ((rdL 3 z 21 0 σ).1, (rdL 3 z 21 0 σ).2) (by simp [oRead, fnd, kcz1, eV9, hsp, ezc, rng_of (show 3 < 4 by decide) (by decide), nI_clamp (show 3 < 2 ^ 31 by decide)]) (ci_read hC hsgn))
  · refine J_bipush (v := -2) dX11_read_8 (by decide) ?_
    exact J_iret dX11_read_10 rfl rfl rfl (hq s l ((-2), σ) (by simp [oRead, fnd, kcz1]) hC)
theorem c_X11_read {G : GT} (r : Nat → Nat) (s : St) (l : Nat → Int64) (σ : St) (hL : LI σ) (hC : CI σ s) (v : Int32) : Ct G yX11_read cX11_read 3 (some .int) 0 0 3 [.ref (r 0), .int v] (cW G r s l) (QC G r (oRead v σ)) := Ct.of rfl (Nat.le_of_ble_eq_true rfl) (j_X11_read r s l σ hL hC v (fun x lx a h1 h2 => ⟨x, lx, by rw [h1], rfl, by rw [← h1]; exact h2⟩))
