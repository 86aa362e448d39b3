/-! BEST: the search with its cuts finds what the list of all codes finds -/
def bsS (n nn hh : Nat) (Hb He : Nat → Int32) (k : Nat) (st : Int32 × Int32) : Int32 × Int32 := if lyS Hb (hh + 1) k nn nn ≤ st.1 then st else if allB (fun e => livM n Hb He (lyW (hh + 1) k nn) e) hh = true then (lyS Hb (hh + 1) k nn nn, nI k) else st
def bsR (n nn hh : Nat) (Hb He : Nat → Int32) (a : Nat) : Nat → Int32 × Int32 → Int32 × Int32
  | 0, st => st
  | k + 1, st => bsS n nn hh Hb He (a + k) (bsR n nn hh Hb He a k st)
theorem bsF_R {n nn hh : Nat} {Hb He : Nat → Int32} {c0 : Int32} : ∀ k, bsF n nn hh Hb He c0 k = bsR n nn hh Hb He 0 k (-1, c0)
  | 0 => rfl
  | k + 1 => by rw [bsF, bsR, bsS, ← bsF_R k, Nat.zero_add]
theorem bsR_add {n nn hh : Nat} {Hb He : Nat → Int32} (a j : Nat) (st : Int32 × Int32) : ∀ k, bsR n nn hh Hb He a (j + k) st = bsR n nn hh Hb He (a + j) k (bsR n nn hh Hb He a j st)
  | 0 => rfl
  | k + 1 => by rw [← Nat.add_assoc, bsR, bsR, bsR_add a j st k, Nat.add_assoc]
theorem bsR_id {n nn hh : Nat} {Hb He : Nat → Int32} {a : Nat} {st : Int32 × Int32} : ∀ {k : Nat}, (∀ c, a ≤ c → c < a + k → bsS n nn hh Hb He c st = st) → bsR n nn hh Hb He a k st = st
  | 0, _ => rfl
  | k + 1, h => by rw [bsR, bsR_id (fun c h1 h2 => h c h1 (by omega)), h _ (by omega) (by omega)]
def wN (Hb : Nat → Int32) (k : Nat) : Nat := (Hb (5 * k + 2)).toNatClampNeg
def WS (Hb : Nat → Int32) (base pc h : Nat) : Nat := fb_sm (fun k => if lyV base pc (h - 1 - k) = -1 then 0 else wN Hb k) h
def shr (base pc h q : Nat) : Nat := bm (fun k => decide (lyV base pc (h - 1 - k) = nI q)) h
def WFk (Hb : Nat → Int32) (nn : Nat) : Nat → Nat
  | 0 => 0
  | k + 1 => WFk Hb nn k + wN Hb (nn - 1 - k)
def opN (lv : Nat → Nat → Bool) (nn q : Nat) : Nat → Nat
  | 0 => bm (lv q) (2 ^ nn)
  | k + 1 => opN lv nn q k ||| opN lv nn q k >>> 2 ^ (nn - 1 - k)
theorem shr_lt (base pc h q : Nat) : shr base pc h q < 2 ^ h := bm_lt _ _
theorem dgt_ch0 {base pc e : Nat} (he : e < base) : dgt base (pc * base + e) 0 = e := by
  unfold dgt
  rw [Nat.pow_zero, Nat.div_one, Nat.add_comm, Nat.add_mul_mod_self_right, Nat.mod_eq_of_lt he]
theorem dgt_ch {base pc e j : Nat} (he : e < base) : dgt base (pc * base + e) (j + 1) = dgt base pc j := by
  unfold dgt
  rw [Nat.pow_succ, Nat.mul_comm (base ^ j), ← Nat.div_div_eq_div_mul, Nat.add_comm, Nat.add_mul_div_right _ _ (show 0 < base by omega), Nat.div_eq_of_lt he, Nat.zero_add]
theorem lyV_ch0 {base pc e : Nat} (he : e < base) : lyV base (pc * base + e) 0 = if ¬ e = base - 1 then nI e else -1 := by unfold lyV; rw [dgt_ch0 he]
theorem lyV_ch {base pc e j : Nat} (he : e < base) : lyV base (pc * base + e) (j + 1) = lyV base pc j := by unfold lyV; rw [dgt_ch he]
theorem WS_ch {Hb : Nat → Int32} {base pc e h : Nat} (he : e < base) (hb : base < 2 ^ 31) : WS Hb base (pc * base + e) (h + 1) = WS Hb base pc h + (if e = base - 1 then 0 else wN Hb h) := by
  unfold WS
  rw [fb_sm_succ]
  congr 1
  · refine fb_sm_cong (fun k hk => ?_)
    rw [show h + 1 - 1 - k = (h - 1 - k) + 1 by omega, lyV_ch he]
  · rw [show h + 1 - 1 - h = 0 by omega, lyV_ch0 he]
    by_cases e1 : e = base - 1
    · rw [show (if ¬ e = base - 1 then nI e else (-1 : Int32)) = -1 from if_neg (fun q => q e1), if_pos rfl, if_pos e1]
    · rw [show (if ¬ e = base - 1 then nI e else (-1 : Int32)) = nI e from if_pos e1, if_neg (fun q => m1_ne (by omega) q.symm), if_neg e1]
theorem shr_ch {base pc e h q : Nat} (he : e < base) (hb : base < 2 ^ 31) (hq : q + 1 < base) : shr base (pc * base + e) (h + 1) q = shr base pc h q ||| (if e = q then 2 ^ h else 0) := by
  unfold shr
  rw [bm]
  congr 1
  · refine bm_congr (fun k hk => ?_)
    rw [show h + 1 - 1 - k = (h - 1 - k) + 1 by omega, lyV_ch he]
  · rw [show h + 1 - 1 - h = 0 by omega, lyV_ch0 he]
    by_cases e1 : e = q
    · rw [if_pos (show ¬ e = base - 1 by omega), e1, if_pos rfl, decide_eq_true rfl]; rfl
    · rw [if_neg e1]
      have hne : ¬ (if ¬ e = base - 1 then nI e else -1) = nI q := by
        by_cases e2 : e = base - 1
        · rw [if_neg (fun x => x e2)]; exact m1_ne (by omega)
        · rw [if_pos e2]; exact fun x => e1 ((nI_eq (by omega) (by omega)).mp x)
      rw [decide_eq_false hne]; rfl
theorem up1 (base c k : Nat) (hb : 0 < base) : c / base ^ k = (c / base ^ (k + 1)) * base + (c / base ^ k) % base := by
  rw [Nat.pow_succ, ← Nat.div_div_eq_div_mul, Nat.mul_comm]
  exact (Nat.div_add_mod _ _).symm
theorem fb_sm_rev (g : Nat → Nat) : ∀ n, fb_sm (fun k => g (n - 1 - k)) n = fb_sm g n
  | 0 => rfl
  | n + 1 => by
    have h := fb_sm_split (fun k => g (n + 1 - 1 - k)) 1 n
    rw [Nat.add_comm 1 n] at h
    have h1 : fb_sm (fun k => g (n + 1 - 1 - k)) 1 = g n := by
      show 0 + g (n + 1 - 1 - 0) = g n
      rw [Nat.zero_add]; rfl
    have h2 : fb_sm (fun k => g (n + 1 - 1 - (1 + k))) n = fb_sm g n := by
      rw [← fb_sm_rev g n]
      exact fb_sm_cong (fun k hk => by rw [show n + 1 - 1 - (1 + k) = n - 1 - k by omega])
    rw [h, h1, h2, fb_sm_succ, Nat.add_comm]
theorem smI_nat {f : Nat → Int32} {g : Nat → Nat} : ∀ {n : Nat}, (∀ k, k < n → f k = nI (g k)) → smI f n = nI (fb_sm g n)
  | 0, _ => rfl
  | n + 1, h => by rw [smI, smI_nat (fun k hk => h k (by omega)), h n (by omega), nI_add, fb_sm_succ]
section BP
variable {n m : Nat} {Hb He : Nat → Int32} {hb aw : Nat → Nat}
theorem wN_eq (hk : HbOk n Hb hb) {k : Nat} (h : k < n) : Hb (5 * k + 2) = nI (wN Hb k) ∧ wN Hb k ≤ 9 := by
  obtain ⟨w, hw, e⟩ := (hk k h).2.2.2.1
  unfold wN; rw [e, nI_clamp (by omega)]; exact ⟨rfl, by omega⟩
theorem WS_le (hk : HbOk n Hb hb) {base pc h : Nat} (hh : h ≤ n) : WS Hb base pc h ≤ h * 9 := fb_sm_bound (fun k hk2 => by
  show (if _ then 0 else wN Hb k) ≤ 9
  split
  · omega
  · exact (wN_eq hk (by omega)).2)
theorem WFk_le (hk : HbOk n Hb hb) {nn : Nat} (hnn : nn ≤ n) : ∀ k, k ≤ nn → WFk Hb nn k ≤ k * 9
  | 0, _ => by rw [WFk]; omega
  | k + 1, h => by
    have h1 := WFk_le hk hnn k (by omega)
    have h2 := (wN_eq hk (show nn - 1 - k < n by omega)).2
    rw [WFk]; omega
theorem lyS_WS (hk : HbOk n Hb hb) {base c nn : Nat} (hnn : nn ≤ n) : lyS Hb base c nn nn = nI (WS Hb base c nn) := by
  unfold lyS WS
  have h1 : smI (lyU Hb base c nn) nn = nI (fb_sm (fun j => if lyV base c j = -1 then 0 else wN Hb (nn - 1 - j)) nn) := smI_nat (fun j hj => by
    unfold lyU
    by_cases e : lyV base c j = -1
    · rw [if_neg (fun q => q e), if_pos e]
    · rw [if_pos e, if_neg e]; exact (wN_eq hk (by omega)).1)
  rw [h1, ← fb_sm_rev]
  congr 1
  exact fb_sm_cong (fun k hk2 => by rw [show nn - 1 - (nn - 1 - k) = k by omega])
theorem WS_up (hk : HbOk n Hb hb) {base c nn : Nat} (hb0 : 0 < base) (hb : base < 2 ^ 31) : ∀ k, k ≤ nn → WS Hb base c nn ≤ WS Hb base (c / base ^ k) (nn - k) + WFk Hb nn k
  | 0, _ => by rw [Nat.pow_zero, Nat.div_one, WFk, Nat.sub_zero]; omega
  | k + 1, h => by
    have ih := WS_up hk hb0 hb (c := c) (nn := nn) k (by omega)
    rw [up1 base c k hb0, show nn - k = (nn - (k + 1)) + 1 by omega, WS_ch (Nat.mod_lt _ hb0) hb] at ih
    rw [WFk, show nn - 1 - k = nn - (k + 1) by omega]
    split at ih <;> omega
theorem op_up {lv : Nat → Nat → Bool} {base c nn q : Nat} (hb0 : 0 < base) (hb : base < 2 ^ 31) (hq : q + 1 < base) (h : lv q (shr base c nn q) = true) : ∀ k, k ≤ nn → (opN lv nn q k).testBit (shr base (c / base ^ k) (nn - k) q) = true
  | 0, _ => by
    rw [Nat.pow_zero, Nat.div_one, Nat.sub_zero, opN, bm_test, h, decide_eq_true (shr_lt _ _ _ _)]; rfl
  | k + 1, hk => by
    have ih := op_up hb0 hb hq h (c := c) k (by omega)
    rw [up1 base c k hb0, show nn - k = (nn - (k + 1)) + 1 by omega, shr_ch (Nat.mod_lt _ hb0) hb hq] at ih
    rw [opN, Nat.testBit_or, Nat.testBit_shiftRight, show nn - 1 - k = nn - (k + 1) by omega]
    by_cases e : c / base ^ k % base = q
    · rw [if_pos e] at ih
      have h2 := Nat.two_pow_add_eq_or_of_lt (shr_lt base (c / base ^ (k + 1)) (nn - (k + 1)) q) 1
      rw [Nat.mul_one] at h2
      rw [Nat.or_comm, ← h2] at ih
      rw [ih, Bool.or_true]
    · rw [if_neg e, Nat.or_zero] at ih
      rw [ih, Bool.true_or]
theorem has_shr {base c nn q : Nat} (hnn : nn ≤ n) (hq : q < 2 ^ 31) : hasM n (lyW base c nn) q = shr base c nn q := by
  apply Nat.eq_of_testBit_eq
  intro x
  unfold hasM shr
  rw [bm_test, bm_test]
  unfold lyW
  by_cases h : x < nn
  · rw [if_pos h, decide_eq_true h, decide_eq_true (show x < n by omega)]
  · rw [if_neg h, decide_eq_false h, decide_eq_false (m1_ne hq), Bool.and_false, Bool.false_and]
theorem liv_shr (hk : HbOk n Hb hb) (ha : AwOk m He aw) (hn8 : n ≤ 8) (hm6 : m ≤ 6) {base c nn q : Nat} (hnn : nn ≤ n) (hq : q < m) : livM n Hb He (lyW base c nn) q = lvB n Hb hb He aw q (shr base c nn q) := by
  rw [← lv_eq hk ha hn8 hq, has_shr hnn (by omega)]
/-- nothing below a cut is better -/
theorem cut_w (hk : HbOk n Hb hb) {nn hh pc k c : Nat} {st : Int32 × Int32} (hnn : nn ≤ n) (hn8 : n ≤ 8) (hh4 : hh ≤ 4) (hkn : k ≤ nn) (hc : c / (hh + 1) ^ k = pc) (h : nI (WS Hb (hh + 1) pc (nn - k) + WFk Hb nn k) ≤ st.1) : bsS n nn hh Hb He c st = st := by
  unfold bsS
  rw [if_pos]
  rw [lyS_WS hk hnn]
  have h1 := WS_up hk (base := hh + 1) (c := c) (by omega) (by omega) k hkn
  rw [hc] at h1
  have h2 := WS_le hk (base := hh + 1) (pc := pc) (h := nn - k) (by omega)
  have h3 := WFk_le hk hnn k hkn
  rw [fa_le, nI_toInt (by omega)] at h ⊢
  omega
theorem cut_o (hk : HbOk n Hb hb) (ha : AwOk m He aw) (hn8 : n ≤ 8) (hm6 : m ≤ 6) {nn hh pc k c q : Nat} {st : Int32 × Int32} (hnn : nn ≤ n) (hh4 : hh ≤ 4) (hhm : hh ≤ m) (hkn : k ≤ nn) (hc : c / (hh + 1) ^ k = pc) (hq : q < hh) (h : (opN (lvB n Hb hb He aw) nn q k).testBit (shr (hh + 1) pc (nn - k) q) = false) : bsS n nn hh Hb He c st = st := by
  unfold bsS
  split
  · rfl
  · rw [if_neg]
    intro ha2
    have h1 := allB_iff.mp ha2 q hq
    rw [liv_shr hk ha hn8 hm6 hnn (by omega)] at h1
    have h2 := op_up (base := hh + 1) (nn := nn) (by omega) (by omega) (by omega) h1 k hkn
    rw [hc, h] at h2
    cases h2
theorem leaf_y (hk : HbOk n Hb hb) (ha : AwOk m He aw) (hn8 : n ≤ 8) (hm6 : m ≤ 6) {nn hh c : Nat} {st : Int32 × Int32} (hnn : nn ≤ n) (hhm : hh ≤ m) (h1 : ¬ nI (WS Hb (hh + 1) c nn) ≤ st.1) (h2 : ∀ q, q < hh → (opN (lvB n Hb hb He aw) nn q 0).testBit (shr (hh + 1) c nn q) = true) : bsS n nn hh Hb He c st = (nI (WS Hb (hh + 1) c nn), nI c) := by
  unfold bsS
  rw [lyS_WS hk hnn, if_neg h1, if_pos]
  refine allB_iff.mpr (fun q hq => ?_)
  rw [liv_shr hk ha hn8 hm6 hnn (by omega)]
  have h3 := h2 q hq
  rw [opN, bm_test] at h3
  exact (Bool.and_eq_true_iff.mp h3).2
end BP
