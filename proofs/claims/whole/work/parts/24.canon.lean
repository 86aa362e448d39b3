/-! the reference's lasting state, and what its questions answer, of that state alone -/
abbrev St : Type := Nat → Nat → Int32
def persB (k : Nat) : Bool := pers.any (fun j => Nat.beq j k)
def cn (s : St) : St := fun k => cond (persB k) (s k) (fun _ => 0)
theorem persB_mem {k : Nat} (h : persB k = true) : k ∈ pers := by
  unfold persB at h
  obtain ⟨j, hj, e⟩ := List.any_eq_true.mp h
  rw [← Nat.eq_of_beq_eq_true e]; exact hj
theorem cn_in {s : St} {k : Nat} (h : persB k = true) : cn s k = s k := by unfold cn; rw [h]; rfl
theorem cn_of {s x : St} (h : Keep s x) : cn x = cn s := by
  funext j
  unfold cn
  cases hb : persB j with
  | true => exact h j (persB_mem hb)
  | false => rfl
theorem cnu_in {k : Nat} {s : St} {f : Nat → Int32} (h : persB k = true) : cn (su k s f) = su k (cn s) f := by
  funext j
  unfold cn su
  cases hb : Nat.beq j k with
  | true => rw [Nat.eq_of_beq_eq_true hb, h]; rfl
  | false => rfl
theorem cnu_out {k : Nat} {s : St} {f : Nat → Int32} (h : persB k = false) : cn (su k s f) = cn s := by
  funext j
  unfold cn su
  cases hb : Nat.beq j k with
  | true => rw [Nat.eq_of_beq_eq_true hb, h]; rfl
  | false => rfl
theorem cn_cn (s : St) : cn (cn s) = cn s := by
  funext j
  unfold cn
  cases persB j <;> rfl
theorem cn_k {s x : St} (h : cn x = cn s) {k : Nat} (hk : persB k = true) : x k = s k := by
  have := congrFun h k
  rwa [cn_in hk, cn_in hk] at this
/-- how long a text is; how many rows; the rows -/
def tl (σ : St) (t : Nat) : Nat := (σ 6 t).toNatClampNeg
def nH (σ : St) : Nat := (rdT (σ 5) 0 (tl σ 0)).1
def nE (σ : St) : Nat := (rdT (σ 5) 1 (tl σ 1)).1
def nC (σ : St) : Nat := (rdT (σ 5) 2 (tl σ 2)).1
def HbS (σ : St) (j : Nat) : Int32 := fH (σ 5) (tl σ 0) (j / 5) (j % 5)
def HeS (σ : St) (j : Nat) : Int32 := fE (σ 5) (tl σ 1) (j / 3) (j % 3)
def ClS (σ : St) (j : Nat) : Int32 := fC (σ 5) (tl σ 2) (j / 4) (j % 4)
theorem nH_le (σ : St) : nH σ ≤ 8 := rdT_le0 _ _
theorem nE_le (σ : St) : nE σ ≤ 6 := rdT_le1 _ _
theorem nC_le (σ : St) : nC σ ≤ 15 := rdT_le2 _ _
theorem HbS_at (σ : St) (j : Nat) {k : Nat} (hk : k < 5) : HbS σ (5 * j + k) = fH (σ 5) (tl σ 0) j k := by
  unfold HbS; rw [show (5 * j + k) / 5 = j by omega, show (5 * j + k) % 5 = k by omega]
theorem HeS_at (σ : St) (j : Nat) {k : Nat} (hk : k < 3) : HeS σ (3 * j + k) = fE (σ 5) (tl σ 1) j k := by
  unfold HeS; rw [show (3 * j + k) / 3 = j by omega, show (3 * j + k) % 3 = k by omega]
theorem ClS_at (σ : St) (j : Nat) {k : Nat} (hk : k < 4) : ClS σ (4 * j + k) = fC (σ 5) (tl σ 2) j k := by
  unfold ClS; rw [show (4 * j + k) / 4 = j by omega, show (4 * j + k) % 4 = k by omega]
def rfn (σ : St) : Nat := (σ 12 0).toNatClampNeg
def sgn (σ : St) : Nat := (σ 21 0).toNatClampNeg
def rfS (σ : St) (q h : Nat) : Bool := anyB (fun k => decide (σ 13 (2 * k) = nI q) && decide (σ 13 (2 * k + 1) = nI h)) (rfn σ)
def wlS (σ : St) : (Nat → Int32) × Nat := wlF (nH σ) (nE σ) (ClS σ) (rfS σ) (nC σ)
def wiS (σ : St) : Nat → Int32 := (wlS σ).1
/-- what holds of every lasting state -/
def LI (σ : St) : Prop := (∃ l, σ 6 0 = nI l ∧ l ≤ 47) ∧ (∃ l, σ 6 1 = nI l ∧ l ≤ 23) ∧ (∃ l, σ 6 2 = nI l ∧ l ≤ 59)
  ∧ (∃ r, σ 12 0 = nI r ∧ r ≤ 12 ∧ ∀ k, k < r → (∃ e, e < 6 ∧ σ 13 (2 * k) = nI e) ∧ ∃ h, h < 8 ∧ σ 13 (2 * k + 1) = nI h)
  ∧ (∃ g, σ 21 0 = nI g ∧ g ≤ 8 ∧ ∀ k, k < g → (∃ t, t < 24 ∧ σ 22 (3 * k) = nI t) ∧ (∃ e, e < 6 ∧ σ 22 (3 * k + 1) = nI e) ∧ (σ 22 (3 * k + 2) = -1 ∨ ∃ h, h < 8 ∧ σ 22 (3 * k + 2) = nI h))
  ∧ (∀ j, j < 4 → (σ 0 j = -1 ∨ ∃ f, f < 3 ∧ σ 0 j = nI f) ∧ ∃ n, n ≤ 60 ∧ σ 1 j = nI n)
theorem LI.t0 {σ : St} (h : LI σ) : σ 6 0 = nI (tl σ 0) ∧ tl σ 0 ≤ 47 := by
  obtain ⟨l, e, hl⟩ := h.1
  unfold tl; rw [e, nI_clamp (by omega)]; exact ⟨rfl, hl⟩
theorem LI.t1 {σ : St} (h : LI σ) : σ 6 1 = nI (tl σ 1) ∧ tl σ 1 ≤ 23 := by
  obtain ⟨l, e, hl⟩ := h.2.1
  unfold tl; rw [e, nI_clamp (by omega)]; exact ⟨rfl, hl⟩
theorem LI.t2 {σ : St} (h : LI σ) : σ 6 2 = nI (tl σ 2) ∧ tl σ 2 ≤ 59 := by
  obtain ⟨l, e, hl⟩ := h.2.2.1
  unfold tl; rw [e, nI_clamp (by omega)]; exact ⟨rfl, hl⟩
theorem LI.rf {σ : St} (h : LI σ) : σ 12 0 = nI (rfn σ) ∧ rfn σ ≤ 12 ∧ ∀ k, k < rfn σ → (∃ e, e < 6 ∧ σ 13 (2 * k) = nI e) ∧ ∃ h, h < 8 ∧ σ 13 (2 * k + 1) = nI h := by
  obtain ⟨l, e, hl⟩ := h.2.2.2.1
  unfold rfn; rw [e, nI_clamp (by omega)]; exact ⟨rfl, hl⟩
theorem LI.sg {σ : St} (h : LI σ) : σ 21 0 = nI (sgn σ) ∧ sgn σ ≤ 8 ∧ ∀ k, k < sgn σ → (∃ t, t < 24 ∧ σ 22 (3 * k) = nI t) ∧ (∃ e, e < 6 ∧ σ 22 (3 * k + 1) = nI e) ∧ (σ 22 (3 * k + 2) = -1 ∨ ∃ h, h < 8 ∧ σ 22 (3 * k + 2) = nI h) := by
  obtain ⟨l, e, hl⟩ := h.2.2.2.2.1
  unfold sgn; rw [e, nI_clamp (by omega)]; exact ⟨rfl, hl⟩
theorem LI.sh {σ : St} (h : LI σ) {j : Nat} (hj : j < 4) : (σ 0 j = -1 ∨ ∃ f, f < 3 ∧ σ 0 j = nI f) ∧ ∃ n, n ≤ 60 ∧ σ 1 j = nI n := h.2.2.2.2.2 j hj
/-- rows alike -/
def Rw (w n : Nat) (f g : Nat → Int32) : Prop := ∀ j, j < n → ∀ k, k < w → f (w * j + k) = g (w * j + k)
theorem Rw.at {w n : Nat} {f g : Nat → Int32} (h : Rw w n f g) {j : Nat} (hj : j < n) (k : Nat) (hk : k < w) : f (w * j + k) = g (w * j + k) := h j hj k hk
theorem Rw.a0 {w n : Nat} {f g : Nat → Int32} (h : Rw w n f g) {j : Nat} (hj : j < n) (hw : 0 < w) : f (w * j) = g (w * j) := h j hj 0 hw
section Cg
variable {n m c : Nat} {Hb Hb' He He' Cl Cl' : Nat → Int32}
theorem anyB_cg {P R : Nat → Bool} : ∀ {n : Nat}, (∀ k, k < n → P k = R k) → anyB P n = anyB R n
  | 0, _ => rfl
  | n + 1, h => by rw [anyB, anyB, anyB_cg (fun k hk => h k (by omega)), h n (by omega)]
theorem allB_cg {P R : Nat → Bool} {n : Nat} (h : ∀ k, k < n → P k = R k) : allB P n = allB R n := by
  unfold allB; rw [anyB_cg (fun k hk => by rw [h k hk])]
theorem atH_cg (hH : Rw 5 n Hb Hb') {h : Nat} (hh : h < n) (t : Nat) : atH Hb h t = atH Hb' h t := by
  unfold atH; rw [hH.a0 hh (by decide), hH.at hh 1 (by decide)]
theorem awE_cg (hE : Rw 3 m He He') {q : Nat} (hq : q < m) (t : Nat) : awE He q t = awE He' q t := by
  unfold awE; rw [hE.at hq 1 (by decide), hE.at hq 2 (by decide)]
theorem leanM_cg (hH : Rw 5 n Hb Hb') (wi : Nat → Int32) (q : Nat) {h : Nat} (hh : h < n) : leanM n Hb wi q h = leanM n Hb' wi q h := by
  unfold leanM; rw [hH.at hh 3 (by decide)]
theorem canM_cg (hH : Rw 5 n Hb Hb') (hE : Rw 3 m He He') (wi : Nat → Int32) {q : Nat} (hq : q < m) {h : Nat} (hh : h < n) : canM n Hb He wi q h = canM n Hb' He' wi q h := by
  unfold canM; rw [leanM_cg hH wi q hh, anyB_cg (fun t _ => by rw [atH_cg hH hh t, awE_cg hE hq t])]
theorem canNowM_cg (hH : Rw 5 n Hb Hb') (hE : Rw 3 m He He') (wi : Nat → Int32) {q : Nat} (hq : q < m) : canNowM n Hb He wi q = canNowM n Hb' He' wi q := bm_congr (fun h hh => by rw [canM_cg hH hE wi hq hh])
theorem wrM_cg (hH : Rw 5 n Hb Hb') (wi : Nat → Int32) (q : Nat) : wrM n Hb wi q = wrM n Hb' wi q := smI_congr (fun h hh => by rw [hH.at hh 2 (by decide)])
theorem onceM_cg (hH : Rw 5 n Hb Hb') (wi : Nat → Int32) (q t : Nat) : onceM n Hb wi q t = onceM n Hb' wi q t := bm_congr (fun h hh => by rw [atH_cg hH hh t])
theorem livM_cg (hH : Rw 5 n Hb Hb') (hE : Rw 3 m He He') (wi : Nat → Int32) {q : Nat} (hq : q < m) : livM n Hb He wi q = livM n Hb' He' wi q := by
  unfold livM; rw [hE.a0 hq (by decide), canNowM_cg hH hE wi hq, allB_cg (fun t _ => by rw [onceM_cg hH wi q t])]
theorem doF_cg (hH : Rw 5 n Hb Hb') (hE : Rw 3 m He He') (wi : Nat → Int32) {q : Nat} (hq : q < m) (t : Nat) : ∀ {h : Nat}, h ≤ n → n < 2 ^ 31 → doF n Hb He wi q t h = doF n Hb' He' wi q t h
  | 0, _, _ => rfl
  | h + 1, hh, hn => by
    rw [doF, doF, doF_cg hH hE wi hq t (h := h) (by omega) hn, onceM_cg hH wi q t, canM_cg hH hE wi hq (by omega), hH.at (show h < n by omega) 2 (by decide)]
    rcases doF_rng n Hb' He' wi q t h with e | ⟨j, hj, e⟩
    · rw [e]; simp
    · rw [e, nI_clamp (by omega), hH.at (show j < n by omega) 2 (by decide)]
theorem doM_cg (hH : Rw 5 n Hb Hb') (hE : Rw 3 m He He') (wi : Nat → Int32) {q : Nat} (hq : q < m) (t : Nat) (hn : n ≤ 8) : doM n Hb He wi q t = doM n Hb' He' wi q t := doF_cg hH hE wi hq t (Nat.le_refl _) (by omega)
theorem mayM_cg (hC : Rw 4 c Cl Cl') (wi : Nat → Int32) {k : Nat} (hk : k < c) : mayM n m Cl wi k = mayM n m Cl' wi k := by
  unfold mayM; rw [hC.a0 hk (by decide), hC.at hk 2 (by decide), hC.at hk 3 (by decide)]
theorem wlF_cg (hC : Rw 4 c Cl Cl') {RF RF' : Nat → Nat → Bool} (hR : ∀ q h, RF q h = RF' q h) : ∀ {k : Nat}, k ≤ c → wlF n m Cl RF k = wlF n m Cl' RF' k
  | 0, _ => rfl
  | k + 1, hk => by
    have hF : RF = RF' := by funext q h; exact hR q h
    rw [wlF, wlF, wlF_cg hC hR (k := k) (by omega), mayM_cg hC _ (show k < c by omega), hC.a0 (show k < c by omega) (by decide), hC.at (show k < c by omega) 1 (by decide), hC.at (show k < c by omega) 2 (by decide), hF]
theorem wrB_cg (hH : Rw 5 n Hb Hb') (hE : Rw 3 m He He') (hC : Rw 4 c Cl Cl') (rf : Nat) (Rf : Nat → Int32) {q : Nat} (hq : q < m) (k : Nat) (b : Int32) : wrB n m c Hb He Cl rf Rf q k b = wrB n m c Hb' He' Cl' rf Rf q k b := by
  unfold wrB; rw [wlF_cg (n := n) (m := m) hC (fun _ _ => rfl) (Nat.le_refl _), livM_cg hH hE _ hq]
theorem wrF_cg (hH : Rw 5 n Hb Hb') (hE : Rw 3 m He He') (hC : Rw 4 c Cl Cl') (rf : Nat) (Rf : Nat → Int32) {q : Nat} (hq : q < m) : ∀ k, wrF n m c Hb He Cl rf Rf q k = wrF n m c Hb' He' Cl' rf Rf q k
  | 0 => rfl
  | k + 1 => by rw [wrF, wrF, wrF_cg hH hE hC rf Rf hq k, wrB_cg hH hE hC rf Rf hq]
theorem quA_cg (hH : Rw 5 n Hb Hb') (wi : Nat → Int32) (w : Nat) : quA n Hb wi w = quA n Hb' wi w := by
  funext e t; unfold quA; rw [onceM_cg hH]
theorem quM_cg (hH : Rw 5 n Hb Hb') (wi : Nat → Int32) (w : Nat) : quM n m Hb wi w = quM n m Hb' wi w := by
  unfold quM; rw [quA_cg hH]
theorem seM_cg (hH : Rw 5 n Hb Hb') (hE : Rw 3 m He He') (wi Sg : Nat → Int32) (k : Nat) (hn : n ≤ 8) (hm : m ≤ 6) : seM n m Hb He wi Sg k = seM n m Hb' He' wi Sg k := by
  unfold seM
  by_cases h : rng (Sg (3 * k + 1)) m = true
  · obtain ⟨j, hj, e⟩ := (rng_iff (by omega)).mp h
    rw [if_pos h, if_pos h, doM_cg hH hE wi (by rw [e, nI_clamp (by omega)]; exact hj) _ hn]
  · rw [if_neg h, if_neg h]
theorem whF_cg (hH : Rw 5 n Hb Hb') (hE : Rw 3 m He He') (wi Sg : Nat → Int32) (sg h : Nat) (hn : n ≤ 8) (hm : m ≤ 6) : ∀ k, whF n m Hb He wi Sg sg h k = whF n m Hb' He' wi Sg sg h k
  | 0 => rfl
  | k + 1 => by rw [whF, whF, whF_cg hH hE wi Sg sg h hn hm k, allB_cg (fun j _ => seM_cg hH hE _ Sg j hn hm)]
theorem dzM_hcg (hH : Rw 5 n Hb Hb') (hE : Rw 3 m He He') (wi : Nat → Int32) (h : Nat) {q : Nat} (hq : q < m) (t : Nat) (hn : n ≤ 8) : dzM n Hb He wi h q t = dzM n Hb' He' wi h q t := by
  funext k; unfold dzM; rw [doM_cg hH hE _ hq t hn]
theorem lyS_cg (hH : Rw 5 n Hb Hb') (base code : Nat) {nn : Nat} (hnn : nn ≤ n) : ∀ {j : Nat}, j ≤ nn → lyS Hb base code nn j = lyS Hb' base code nn j
  | 0, _ => rfl
  | j + 1, hj => by
    have := lyS_cg hH base code hnn (j := j) (by omega)
    unfold lyS at this ⊢
    rw [smI, smI, this]
    unfold lyU
    rw [hH.at (show nn - 1 - j < n by omega) 2 (by decide)]
theorem bsF_cg (hH : Rw 5 n Hb Hb') (hE : Rw 3 m He He') {nn hh : Nat} (hnn : nn ≤ n) (hhm : hh ≤ m) (c0 : Int32) : ∀ k, bsF n nn hh Hb He c0 k = bsF n nn hh Hb' He' c0 k
  | 0 => rfl
  | k + 1 => by rw [bsF, bsF, bsF_cg hH hE hnn hhm c0 k, lyS_cg hH _ _ hnn (Nat.le_refl _), allB_cg (fun e he => livM_cg hH hE _ (show e < m by omega))]
theorem bsF_c0 {nn hh : Nat} (c0 c1 : Int32) : ∀ k, (bsF n nn hh Hb He c0 k).1 = (bsF n nn hh Hb He c1 k).1 ∧ ((bsF n nn hh Hb He c0 k).2 = (bsF n nn hh Hb He c1 k).2 ∨ (bsF n nn hh Hb He c0 k).1 = -1)
  | 0 => ⟨rfl, Or.inr rfl⟩
  | k + 1 => by
    have ih := bsF_c0 (nn := nn) (hh := hh) c0 c1 k
    rw [bsF, bsF, ih.1]
    split
    · exact ih
    · split
      · exact ⟨rfl, Or.inl rfl⟩
      · exact ih
end Cg
