theorem bnd_f {P : Prop} [Decidable P] (h : (!decide P) = false) : P := by simpa using h
theorem bnd_t {P : Prop} [Decidable P] (h : (!decide P) = true) : ¬ P := by simpa using h
theorem va_P.cell {D : va_G} {cl : List vw_C} {ws : va_W} {H : Heap} (hP : va_P D cl ws H) {p ad N : Nat} {cA : ClassId} {f g : Nat → Int32} (ha : ws[p]? = some (ad, .inl (cA, N, .inl f))) (h : ∀ j, j < N → f j = g j) : va_P D cl (ws.set p (ad, .inl (cA, N, .inl g))) H := by
  intro k q hk
  by_cases hkp : k = p
  · subst hkp
    have hl : k < ws.length := (List.getElem?_eq_some_iff.mp ha).1
    rw [List.getElem?_set_self hl] at hk
    cases hk
    have h1 := hP k _ ha
    have he : (Array.ofFn (n := N) fun j : Fin N => Value.int (f j.val)) = Array.ofFn (n := N) fun j : Fin N => Value.int (g j.val) := by
      congr 1
      funext j
      rw [h j.val j.isLt]
    have h2 : H[ad]? = some (vp_cell cA (N, .inl f)) := h1
    show H[ad]? = some (vp_cell cA (N, .inl g))
    rw [h2]
    show some (arrV cA N fun j => Value.int (f j)) = some (arrV cA N fun j => Value.int (g j))
    unfold arrV
    rw [he]
  · rw [List.getElem?_set_ne (fun e => hkp e.symm)] at hk
    exact hP k q hk
theorem va_D.cell {A : Nat → Prop} {ws : va_W} (hD : va_D A ws) {p ad : Nat} {x y : va_E} (ha : ws[p]? = some (ad, x)) : va_D A (ws.set p (ad, y)) := by
  have hl : p < ws.length := (List.getElem?_eq_some_iff.mp ha).1
  have key : ∀ (k : Nat) (q : Nat × va_E), (ws.set p (ad, y))[k]? = some q → ∃ q2 : Nat × va_E, ws[k]? = some q2 ∧ q2.1 = q.1 := by
    intro k q hk
    by_cases hkp : k = p
    · subst hkp
      rw [List.getElem?_set_self hl] at hk
      cases hk
      exact ⟨_, ha, rfl⟩
    · rw [List.getElem?_set_ne (fun e => hkp e.symm)] at hk
      exact ⟨q, hk, rfl⟩
  refine ⟨fun i j a b hi hj hab => ?_, fun k q hk => ?_⟩
  · obtain ⟨a2, h1, h2⟩ := key i a hi
    obtain ⟨b2, h3, h4⟩ := key j b hj
    exact hD.1 i j a2 b2 h1 h3 (by rw [h2, h4, hab])
  · obtain ⟨q2, h1, h2⟩ := key k q hk
    rw [← h2]; exact hD.2 k q2 h1
/-- a row of ints is what its places hold -/
theorem J_arr {G : GT} {nm own : String} {cc : ByteArray} {nL : Nat} {ret : Option FieldType} {mc ms d : Nat} {Q : Option Value → va_W → Prop} {k n pc : Nat} {lv : List (Nat × Value)} {st : List Value} {ws : va_W} (q0 : Nat) {a N : Nat} {f g : Nat → Int32} (ws2 : va_W) (ha : ws[q0]? = some (a, .inl (gI G, N, .inl f))) (h : ∀ j, j < N → f j = g j) (hw : ws.set q0 (a, .inl (gI G, N, .inl g)) = ws2) (K : J G nm own cc nL ret mc ms d Q k n pc lv st ws2) : J G nm own cc nL ret mc ms d Q k n pc lv st ws := by
  subst hw
  intro p e s m args below meth c H locs A ls C hP hD hS hA hv
  exact K p e s m args below meth c H locs A ls C (hP.cell ha h) (hD.cell ha) hS hA hv
theorem Ma_17 {G : GT} {nm : String} {cc : ByteArray} {nL : Nat} {ret : Option FieldType} {mc ms d : Nat} {Q : Option Value → va_W → Prop} {k n pc : Nat} {lv : List (Nat × Value)} {st : List Value} {o : Nat} {a : Nat → Nat} {s : Nat → Nat → Int32} {g : Nat → Int32} (h : ∀ j, j < 8 → s 17 j = g j) (K : J G nm RX12 cc nL ret mc ms d Q k n pc lv st (mW G o a (su 17 s g))) : J G nm RX12 cc nL ret mc ms d Q k n pc lv st (mW G o a s) := J_arr 13 _ rfl h rfl K
def rfsM (rf : Nat) (Rf : Nat → Int32) (ab : Int32) (ao q h : Nat) : Bool := (decide (nI q = ab) && ao.testBit h) || anyB (fun k => decide (Rf (2 * k) = nI q) && decide (Rf (2 * k + 1) = nI h)) rf
def cmV (RF : Nat → Nat → Bool) (wi : Nat → Int32) (h : Nat) (how : Int32) (q : Nat) : Int32 := if how = nI 1 then (if RF q h = true then wi h else nI q) else (if wi h = nI q then -1 else wi h)
def mayM (n m : Nat) (Cl wi : Nat → Int32) (k : Nat) : Bool := rng (Cl (4 * k)) n && (rng (Cl (4 * k + 2)) m && (decide (Cl (4 * k + 3) = -1) || !decide (wi (Cl (4 * k + 3)).toNatClampNeg = -1)))
/-- the will, read to its k-th clause: with whom, and which did something -/
def wlF (n m : Nat) (Cl : Nat → Int32) (RF : Nat → Nat → Bool) : Nat → (Nat → Int32) × Nat
  | 0 => (fun _ => -1, 0)
  | k + 1 => if mayM n m Cl (wlF n m Cl RF k).1 k = true then (upd (wlF n m Cl RF k).1 (Cl (4 * k)).toNatClampNeg (cmV RF (wlF n m Cl RF k).1 (Cl (4 * k)).toNatClampNeg (Cl (4 * k + 1)) (Cl (4 * k + 2)).toNatClampNeg), (wlF n m Cl RF k).2 ||| (if cmV RF (wlF n m Cl RF k).1 (Cl (4 * k)).toNatClampNeg (Cl (4 * k + 1)) (Cl (4 * k + 2)).toNatClampNeg = (wlF n m Cl RF k).1 (Cl (4 * k)).toNatClampNeg then 0 else 2 ^ k)) else wlF n m Cl RF k
theorem wlF_no {n m : Nat} {Cl : Nat → Int32} {RF : Nat → Nat → Bool} {k : Nat} (h : mayM n m Cl (wlF n m Cl RF k).1 k = false) : wlF n m Cl RF (k + 1) = wlF n m Cl RF k := by rw [wlF, if_neg (by rw [h]; decide)]
theorem wlF_yes {n m : Nat} {Cl : Nat → Int32} {RF : Nat → Nat → Bool} {k : Nat} (h : mayM n m Cl (wlF n m Cl RF k).1 k = true) (hn8 : n ≤ 8) (hm6 : m ≤ 6) : ∃ h9 e9 : Nat, h9 < n ∧ e9 < m ∧ Cl (4 * k) = nI h9 ∧ Cl (4 * k + 2) = nI e9 ∧ (wlF n m Cl RF (k + 1)).1 = upd (wlF n m Cl RF k).1 h9 (cmV RF (wlF n m Cl RF k).1 h9 (Cl (4 * k + 1)) e9) ∧ (wlF n m Cl RF (k + 1)).2 = (wlF n m Cl RF k).2 ||| (if cmV RF (wlF n m Cl RF k).1 h9 (Cl (4 * k + 1)) e9 = (wlF n m Cl RF k).1 h9 then 0 else 2 ^ k) := by
  have h1 := h
  unfold mayM at h1
  simp only [Bool.and_eq_true] at h1
  obtain ⟨h9, hh, eh⟩ := (rng_iff (by omega)).mp h1.1
  obtain ⟨e9, he, ee⟩ := (rng_iff (by omega)).mp h1.2.1
  refine ⟨h9, e9, hh, he, eh, ee, ?_, ?_⟩ <;> (rw [wlF, if_pos h, eh, ee, nI_clamp (by omega), nI_clamp (by omega)])
theorem ask_ix {v : Int32} (h : v = -1 ∨ ∃ j, j < 8 ∧ v = nI j) (hne : ¬ v = -1) : v = nI v.toNatClampNeg ∧ v.toNatClampNeg < 8 := by
  rcases h with h | ⟨j, hj, rfl⟩
  · exact absurd h hne
  · rw [nI_clamp (by omega)]; exact ⟨rfl, hj⟩
/-- found: the texts are read, and the will is carried out; nothing is refused beside -/
def Fnd (s x : Nat → Nat → Int32) (l0 l1 l2 rf : Nat) : Prop := (∀ k, k < 7 ∨ (11 < k ∧ k ≠ 15 ∧ k ≠ 17 ∧ k ≠ 18) → x k = s k) ∧ x 8 0 = nI (rdT (s 5) 0 l0).1 ∧ x 8 1 = nI (rdT (s 5) 1 l1).1 ∧ x 8 2 = nI (rdT (s 5) 2 l2).1
  ∧ (∀ j, j < (rdT (s 5) 0 l0).1 → ∀ k, k < 5 → x 9 (5 * j + k) = fH (s 5) l0 j k) ∧ (∀ j, j < (rdT (s 5) 1 l1).1 → ∀ k, k < 3 → x 10 (3 * j + k) = fE (s 5) l1 j k) ∧ (∀ j, j < (rdT (s 5) 2 l2).1 → ∀ k, k < 4 → x 11 (4 * j + k) = fC (s 5) l2 j k)
  ∧ x 15 0 = nI 0 ∧ x 17 = (wlF (rdT (s 5) 0 l0).1 (rdT (s 5) 1 l1).1 (x 11) (rfsM rf (s 13) (s 14 0) 0) (rdT (s 5) 2 l2).1).1 ∧ x 18 0 = nI (wlF (rdT (s 5) 0 l0).1 (rdT (s 5) 1 l1).1 (x 11) (rfsM rf (s 13) (s 14 0) 0) (rdT (s 5) 2 l2).1).2
theorem Fnd.keep {s x : Nat → Nat → Int32} {l0 l1 l2 rf : Nat} (h : Fnd s x l0 l1 l2 rf) : Keep s x := fun k hk => h.1 k (by simp only [pers, List.mem_cons, List.not_mem_nil, or_false] at hk; omega)
theorem fnd_of {s x : Nat → Nat → Int32} {l0 l1 l2 rf : Nat} (h : Prs s x l0 l1 l2) : Fnd s (su 18 (su 17 (su 15 x (fun _ => nI 0)) (wlF (rdT (s 5) 0 l0).1 (rdT (s 5) 1 l1).1 (x 11) (rfsM rf (x 13) (x 14 0) 0) (rdT (s 5) 2 l2).1).1) (fun _ => nI (wlF (rdT (s 5) 0 l0).1 (rdT (s 5) 1 l1).1 (x 11) (rfsM rf (x 13) (x 14 0) 0) (rdT (s 5) 2 l2).1).2)) l0 l1 l2 rf := by
  obtain ⟨h1, h2, h3, h4, h5, h6, h7⟩ := h
  refine ⟨fun k hk => ?_, h2, h3, h4, h5, h6, h7, rfl, ?_, ?_⟩
  · rw [su_ne (by omega), su_ne (by omega), su_ne (by omega)]
    exact h1 k (by omega)
  · rw [← h1 13 (by omega), ← h1 14 (by omega)]; rfl
  · rw [← h1 13 (by omega), ← h1 14 (by omega)]; rfl
theorem wn_rng {b : Int32} {lo hi : Nat} (hh : hi < 2 ^ 31) (h : lo ≤ hi) : wn b (nI lo) (nI hi) = -1 ∨ ∃ j, j ≤ hi - lo ∧ wn b (nI lo) (nI hi) = nI j ∧ b = nI (lo + j) := by
  unfold wn
  split
  · next h1 =>
    right
    unfold inI at h1
    simp only [Bool.and_eq_true, Bool.not_eq_true', decide_eq_false_iff_not] at h1
    have h2 : (lo : Int) ≤ b.toInt := by
      have := h1.1
      rw [fa_lt, nI_toInt (by omega)] at this
      omega
    have h3 : b.toInt ≤ hi := by
      have := h1.2
      rw [fa_lt, nI_toInt hh] at this
      omega
    obtain ⟨j, hj⟩ : ∃ j : Nat, b.toInt = (lo : Int) + j := ⟨(b.toInt - lo).toNat, by omega⟩
    have hb : b = nI (lo + j) := by
      rw [fa_eq, hj, nI_toInt (by omega)]
      omega
    refine ⟨j, by omega, ?_, hb⟩
    rw [hb, pk_sub (by omega)]
    congr 1
    omega
  · exact Or.inl rfl
theorem orW_rng {b : Int32} {lo hi : Nat} (hh : hi < 2 ^ 31) (h : lo ≤ hi) : orW (wn b (nI lo) (nI hi)) = -9 ∨ ∃ j, j ≤ hi - lo ∧ orW (wn b (nI lo) (nI hi)) = nI j ∧ b = nI (lo + j) := by
  unfold orW
  rcases wn_rng (b := b) hh h with e | ⟨j, hj, e, hb⟩
  · rw [e]; exact Or.inl rfl
  · right
    rw [e, if_neg]
    · exact ⟨j, hj, rfl, hb⟩
    · intro q
      have := congrArg Int32.toInt q
      rw [nI_toInt (by omega)] at this
      have e2 : (-1 : Int32).toInt = -1 := rfl
      omega
theorem scn_row {rW : Nat → Bool} {rE : Nat → Nat} {sep : Nat → Bool} {len mx : Nat} : ∀ (f r p : Nat), psq rE r = p → ∀ j, r ≤ j → j < (scn rW rE sep len mx f r p).1 → rW (psq rE j) = true
  | 0, r, p, hp, j, h1, h2 => by rw [scn] at h2; exact absurd h2 (Nat.not_lt_zero _)
  | f + 1, r, p, hp, j, h1, h2 => by
    rw [scn] at h2
    by_cases hm : r = mx
    · rw [if_pos hm] at h2; exact absurd h2 (Nat.not_lt_zero _)
    · rw [if_neg hm] at h2
      by_cases hw : rW p = false
      · rw [if_pos hw] at h2; exact absurd h2 (Nat.not_lt_zero _)
      · rw [if_neg hw] at h2
        have hw2 : rW p = true := by cases h : rW p with | true => rfl | false => exact absurd h hw
        by_cases hj : j = r
        · rw [hj, hp]; exact hw2
        · by_cases hl : rE p < len
          · rw [if_pos hl] at h2
            by_cases hs : sep (rE p) = true
            · rw [if_pos hs] at h2
              exact scn_row f (r + 1) (rE p + 1) (by rw [psq, hp]) j (by omega) h2
            · rw [if_neg hs] at h2; exact absurd h2 (Nat.not_lt_zero _)
          · rw [if_neg hl] at h2
            exact absurd h2 (by show ¬ j < r + 1; omega)
theorem fbd_full {tl : Nat → Int32 → Int32} {B : Nat → Int32} {t len n p : Nat} (h : fbd tl B t len n p = n) : ∀ k, k < n → ¬ tl k (bA B t len (p + k)) = -9 := fun k hk => of_decide_eq_false (fa_first_no (fun k => decide (tl k (bA B t len (p + k)) = -9)) n k (by show k < fbd tl B t len n p; omega))
theorem rdT_row0 {B : Nat → Int32} {len j : Nat} (h : j < (rdT B 0 len).1) : ∀ k, k < 5 → ¬ fH B len j k = -9 := by
  unfold rdT at h
  split at h
  · exact absurd h (Nat.not_lt_zero _)
  · exact fbd_full (of_decide_eq_true (scn_row (rW := rW0 B len) 60 0 0 rfl j (Nat.zero_le _) h))
theorem rdT_row1 {B : Nat → Int32} {len j : Nat} (h : j < (rdT B 1 len).1) : ∀ k, k < 3 → ¬ fE B len j k = -9 := by
  unfold rdT at h
  split at h
  · exact absurd h (Nat.not_lt_zero _)
  · exact fbd_full (of_decide_eq_true (scn_row (rW := rW1 B len) 60 0 0 rfl j (Nat.zero_le _) h))
theorem rdT_row2 {B : Nat → Int32} {len j : Nat} (h : j < (rdT B 2 len).1) : ∀ k, k < 4 → ¬ fC B len j k = -9 := by
  unfold rdT at h
  split at h
  · exact absurd h (Nat.not_lt_zero _)
  · have h1 := scn_row (rW := rW2 B len) 60 0 0 rfl j (Nat.zero_le _) h
    unfold rW2 at h1
    simp only [Bool.and_eq_true] at h1
    intro k hk
    have h2 := fbd_full (of_decide_eq_true h1.1)
    unfold fC
    split
    · split
      · next hq =>
        have h3 := h1.2
        have hq2 : bA B 2 len (psq (rE2 B len) j + 3) = nI 63 := hq
        rw [hq2] at h3
        have h4 : ¬ tlC 3 (bA B 2 len (psq (rE2 B len) j + 4)) = -9 := by simpa using h3
        exact h4
      · decide
    · exact h2 k (by omega)
theorem prs_ask {s x : Nat → Nat → Int32} {l0 l1 l2 : Nat} (h : Prs s x l0 l1 l2) : ∀ k, k < (rdT (s 5) 2 l2).1 → x 11 (4 * k + 3) = -1 ∨ ∃ j, j < 8 ∧ x 11 (4 * k + 3) = nI j := by
  intro k hk
  rw [h.2.2.2.2.2.2 k hk 3 (by decide)]
  have hne := rdT_row2 hk 3 (by decide)
  unfold fC at hne ⊢
  rw [if_pos rfl] at hne ⊢
  split
  · next hq =>
    rw [if_pos hq] at hne
    right
    rcases orW_rng (b := bA (s 5) 2 l2 (psT (s 5) 2 l2 k + 4)) (lo := 48) (hi := 55) (by decide) (by decide) with e | ⟨j, hj, e, -⟩
    · exact absurd e hne
    · exact ⟨j, by omega, e⟩
  · exact Or.inl rfl
set_option maxRecDepth 100000 in
set_option maxHeartbeats 1000000 in
theorem j_X12_refuses {G : GT} (o : Nat) (a : Nat → Nat) (s : Nat → Nat → Int32) (rf ao : Nat) (hrf : s 12 0 = nI rf) (hrf12 : rf ≤ 12) (hao : s 15 0 = nI ao) (hao8 : ao < 256) (q h : Nat) (hh : h < 8) {Q : Option Value → va_W → Prop} (hq : ∀ v_ : Int32, v_ = bI (rfsM rf (s 13) (s 14 0) ao q h) → Q (some (.int v_)) (mW G o a s)) : J G "refuses" RX12 cX12_refuses 5 (some .boolean) 0 0 1 Q 0 0 0 [(0, .ref o), (1, .int (nI q)), (2, .int (nI h))] [] (mW G o a s) := by
  refine J_iload_n dX12_refuses_0 rfl rfl ?_
  refine J_aload_n dX12_refuses_1 rfl rfl ?_
  refine Mg_14 (s := s) (s 14 0) rfl dX12_refuses_2 ?_
  have K24_0 : ∀ (t0 : Int32), t0 = bI (decide (nI q = s 14 0) && ao.testBit h) → J G "refuses" RX12 cX12_refuses 5 (some .boolean) 0 0 1 Q 0 0 24 [(0, .ref o), (1, .int (nI q)), (2, .int (nI h))] [.int t0] (mW G o a s) := by
    intro t0 qt0
    subst qt0
    refine J_istore_n [(0, .ref o), (1, .int (nI q)), (2, .int (nI h)), (3, .int (bI (decide (nI q = s 14 0) && ao.testBit h)))] dX12_refuses_24 rfl (by decide) rfl rfl rfl ?_
    refine J_iconst (v := nI 0) dX12_refuses_25 (by decide) ?_
    refine J_istore [(0, .ref o), (1, .int (nI q)), (2, .int (nI h)), (3, .int (bI (decide (nI q = s 14 0) && ao.testBit h))), (4, .int (nI 0))] dX12_refuses_26 (by decide) rfl rfl rfl ?_
    have L28 : ∀ (f i : Nat), rf - i < f → i ≤ rf → ∀ (x3 : Int32) (x4 : Int32), x3 = bI ((decide (nI q = s 14 0) && ao.testBit h) || anyB (fun k => decide (s 13 (2 * k) = nI q) && decide (s 13 (2 * k + 1) = nI h)) i) → x4 = nI i → J G "refuses" RX12 cX12_refuses 5 (some .boolean) 0 0 1 Q 0 0 28 [(0, .ref o), (1, .int (nI q)), (2, .int (nI h)), (3, .int x3), (4, .int x4)] [] (mW G o a s) := by
      intro f
      induction f with
      | zero => intro i h; exact absurd h (Nat.not_lt_zero _)
      | succ f ih =>
        intro i hf28 hle28  x3 x4 e3 e4
        subst e3
        subst e4
        refine J_iload dX12_refuses_28 rfl ?_
        refine J_aload_n dX12_refuses_30 rfl rfl ?_
        refine Mg_12 (s := s) (s 12 0) rfl dX12_refuses_31 ?_
        refine J_rw (y := nI rf) hrf ?_
        refine J_icmp_geN 81 (by omega) (by omega) dX12_refuses_34 (by decide) (fun kcz2 => ?_) (fun kcz2 => ?_)
        · refine J_iload_n dX12_refuses_81 rfl rfl ?_
          exact J_zretB dX12_refuses_82 rfl rfl rfl (hq _ (by obtain rfl : i = rf := (by omega); rfl))
        · refine J_iload_n dX12_refuses_37 rfl rfl ?_
          have K74_2 : ∀ (t0 : Int32), t0 = bI (((decide (nI q = s 14 0) && ao.testBit h) || anyB (fun k => decide (s 13 (2 * k) = nI q) && decide (s 13 (2 * k + 1) = nI h)) i) || (decide (s 13 (2 * i) = nI q) && decide (s 13 (2 * i + 1) = nI h))) → J G "refuses" RX12 cX12_refuses 5 (some .boolean) 0 0 1 Q 0 0 74 [(0, .ref o), (1, .int (nI q)), (2, .int (nI h)), (3, .int (bI ((decide (nI q = s 14 0) && ao.testBit h) || anyB (fun k => decide (s 13 (2 * k) = nI q) && decide (s 13 (2 * k + 1) = nI h)) i))), (4, .int (nI i))] [.int t0] (mW G o a s) := by
            intro t0 qt0
            subst qt0
            refine J_istore_n [(0, .ref o), (1, .int (nI q)), (2, .int (nI h)), (3, .int (bI (((decide (nI q = s 14 0) && ao.testBit h) || anyB (fun k => decide (s 13 (2 * k) = nI q) && decide (s 13 (2 * k + 1) = nI h)) i) || (decide (s 13 (2 * i) = nI q) && decide (s 13 (2 * i + 1) = nI h))))), (4, .int (nI i))] dX12_refuses_74 rfl (by decide) rfl rfl rfl ?_
            refine J_iincN [(0, .ref o), (1, .int (nI q)), (2, .int (nI h)), (3, .int (bI (((decide (nI q = s 14 0) && ao.testBit h) || anyB (fun k => decide (s 13 (2 * k) = nI q) && decide (s 13 (2 * k + 1) = nI h)) i) || (decide (s 13 (2 * i) = nI q) && decide (s 13 (2 * i + 1) = nI h))))), (4, .int (nI (i + 1)))] dX12_refuses_75 rfl (by decide) rfl rfl rfl ?_
            refine J_goto 28 dX12_refuses_78 (by decide) ?_
            exact ih (i + 1) (by omega) (by omega)  _ _ (by simp only [anyB]; cases decide (nI q = s 14 0) <;> cases ao.testBit h <;> simp_all) rfl
          refine J_if_neB 69 dX12_refuses_38 (by decide) (fun kcz4 => ?_) (fun kcz4 => ?_)
          · refine J_iconst (v := nI 1) dX12_refuses_69 (by decide) ?_
            refine J_goto 74 dX12_refuses_70 (by decide) ?_
            exact K74_2 _ (by show bI true = bI (((decide (nI q = s 14 0) && ao.testBit h) || anyB (fun k => decide (s 13 (2 * k) = nI q) && decide (s 13 (2 * k + 1) = nI h)) i) || (decide (s 13 (2 * i) = nI q) && decide (s 13 (2 * i + 1) = nI h))); simp [kcz2, kcz4])
          · refine J_aload_n dX12_refuses_41 rfl rfl ?_
            refine Mg_13 dX12_refuses_42 ?_
            refine J_iconst (v := nI 2) dX12_refuses_45 (by decide) ?_
            refine J_iload dX12_refuses_46 rfl ?_
            refine J_imulN dX12_refuses_48 ?_
            refine Ml_13 (s := s) (s 13) rfl (2 * i) rfl (by omega) dX12_refuses_49 ?_
            refine J_iload_n dX12_refuses_50 rfl rfl ?_
            refine J_icmp_ne 73 dX12_refuses_51 (by decide) (fun kcz5 => ?_) (fun kcz5 => ?_)
            · refine J_iconst (v := nI 0) dX12_refuses_73 (by decide) ?_
              exact K74_2 _ (by show bI false = bI (((decide (nI q = s 14 0) && ao.testBit h) || anyB (fun k => decide (s 13 (2 * k) = nI q) && decide (s 13 (2 * k + 1) = nI h)) i) || (decide (s 13 (2 * i) = nI q) && decide (s 13 (2 * i + 1) = nI h))); simp [kcz2, kcz4, kcz5])
            · refine J_aload_n dX12_refuses_54 rfl rfl ?_
              refine Mg_13 dX12_refuses_55 ?_
              refine J_iconst (v := nI 2) dX12_refuses_58 (by decide) ?_
              refine J_iload dX12_refuses_59 rfl ?_
              refine J_imulN dX12_refuses_61 ?_
              refine J_iconst (v := nI 1) dX12_refuses_62 (by decide) ?_
              refine J_iaddN dX12_refuses_63 ?_
              refine Ml_13 (s := s) (s 13) rfl (2 * i + 1) rfl (by omega) dX12_refuses_64 ?_
              refine J_iload_n dX12_refuses_65 rfl rfl ?_
              refine J_icmp_ne 73 dX12_refuses_66 (by decide) (fun kcz6 => ?_) (fun kcz6 => ?_)
              · refine J_iconst (v := nI 0) dX12_refuses_73 (by decide) ?_
                exact K74_2 _ (by show bI false = bI (((decide (nI q = s 14 0) && ao.testBit h) || anyB (fun k => decide (s 13 (2 * k) = nI q) && decide (s 13 (2 * k + 1) = nI h)) i) || (decide (s 13 (2 * i) = nI q) && decide (s 13 (2 * i + 1) = nI h))); simp [kcz2, kcz4, kcz5, kcz6])
              · refine J_iconst (v := nI 1) dX12_refuses_69 (by decide) ?_
                refine J_goto 74 dX12_refuses_70 (by decide) ?_
                exact K74_2 _ (by show bI true = bI (((decide (nI q = s 14 0) && ao.testBit h) || anyB (fun k => decide (s 13 (2 * k) = nI q) && decide (s 13 (2 * k + 1) = nI h)) i) || (decide (s 13 (2 * i) = nI q) && decide (s 13 (2 * i + 1) = nI h))); simp [kcz2, kcz4, kcz5, kcz6])
    exact L28 (rf + 1) 0 (by omega) (by omega)  _ _ (by simp [anyB]) rfl
  refine J_icmp_ne 23 dX12_refuses_5 (by decide) (fun kcz7 => ?_) (fun kcz7 => ?_)
  · refine J_iconst (v := nI 0) dX12_refuses_23 (by decide) ?_
    exact K24_0 _ (by show bI false = bI (decide (nI q = s 14 0) && ao.testBit h); simp [kcz7])
  · refine J_aload_n dX12_refuses_8 rfl rfl ?_
    refine Mg_15 (s := s) (s 15 0) rfl dX12_refuses_9 ?_
    refine J_rw (y := nI ao) hao ?_
    refine J_iload_n dX12_refuses_12 rfl rfl ?_
    refine J_cSi [.int (nI ao), .int (nI h)] ms_X12_154 (c_X12_isIn (mW G o a s) ao h (by omega) (by omega)) rfl rfl (by decide) (Nat.le_of_ble_eq_true rfl) ⟨Nat.le_refl _, Nat.le_refl _⟩ dX12_refuses_13 ?_
    refine J_if_eqB 23 dX12_refuses_16 (by decide) (fun kcz8 => ?_) (fun kcz8 => ?_)
    · refine J_iconst (v := nI 0) dX12_refuses_23 (by decide) ?_
      exact K24_0 _ (by show bI false = bI (decide (nI q = s 14 0) && ao.testBit h); simp [kcz7, kcz8])
    · refine J_iconst (v := nI 1) dX12_refuses_19 (by decide) ?_
      refine J_goto 24 dX12_refuses_20 (by decide) ?_
      exact K24_0 _ (by show bI true = bI (decide (nI q = s 14 0) && ao.testBit h); simp [kcz7, kcz8])
theorem c_X12_refuses {G : GT} (o : Nat) (a : Nat → Nat) (s : Nat → Nat → Int32) (rf ao : Nat) (hrf : s 12 0 = nI rf) (hrf12 : rf ≤ 12) (hao : s 15 0 = nI ao) (hao8 : ao < 256) (q h : Nat) (hh : h < 8) : Ct G yX12_refuses cX12_refuses 5 (some .boolean) 0 0 1 [.ref o, .int (nI q), .int (nI h)] (mW G o a s) (Is (some (.int (bI (rfsM rf (s 13) (s 14 0) ao q h)))) (mW G o a s)) := Ct.of rfl (Nat.le_of_ble_eq_true rfl) (j_X12_refuses o a s rf ao hrf hrf12 hao hao8 q h hh (fun _ e => by subst e; exact Is.rf _ _))
set_option maxRecDepth 100000 in
set_option maxHeartbeats 1000000 in
theorem j_X12_comes {G : GT} (o : Nat) (a : Nat → Nat) (s : Nat → Nat → Int32) (rf ao : Nat) (hrf : s 12 0 = nI rf) (hrf12 : rf ≤ 12) (hao : s 15 0 = nI ao) (hao8 : ao < 256) (h q : Nat) (how : Int32) (hh : h < 8) {Q : Option Value → va_W → Prop} (hq : ∀ (v_ : Int32) (w_ : va_W), v_ = bI (!decide (cmV (rfsM rf (s 13) (s 14 0) ao) (s 17) h how q = s 17 h)) → w_ = mW G o a (su 17 s (upd (s 17) h (cmV (rfsM rf (s 13) (s 14 0) ao) (s 17) h how q))) → Q (some (.int v_)) w_) : J G "comes" RX12 cX12_comes 5 (some .boolean) 0 0 2 Q 0 0 0 [(0, .ref o), (1, .int (nI h)), (2, .int how), (3, .int (nI q))] [] (mW G o a s) := by
  refine J_aload_n dX12_comes_0 rfl rfl ?_
  refine Mg_17 dX12_comes_1 ?_
  refine J_iload_n dX12_comes_4 rfl rfl ?_
  refine Ml_17 (s := s) (s 17) rfl h rfl (by omega) dX12_comes_5 ?_
  refine J_istore [(0, .ref o), (1, .int (nI h)), (2, .int how), (3, .int (nI q)), (4, .int (s 17 h))] dX12_comes_6 (by decide) rfl rfl rfl ?_
  refine J_iload_n dX12_comes_8 rfl rfl ?_
  refine J_iconst (v := nI 1) dX12_comes_9 (by decide) ?_
  refine J_icmp_ne 37 dX12_comes_10 (by decide) (fun kcz1 => ?_) (fun kcz1 => ?_)
  · refine J_aload_n dX12_comes_37 rfl rfl ?_
    refine Mg_17 dX12_comes_38 ?_
    refine J_iload_n dX12_comes_41 rfl rfl ?_
    refine J_iload dX12_comes_42 rfl ?_
    refine J_iload_n dX12_comes_44 rfl rfl ?_
    refine J_icmp_ne 52 dX12_comes_45 (by decide) (fun kcz2 => ?_) (fun kcz2 => ?_)
    · refine J_iload dX12_comes_52 rfl ?_
      refine Ms_17 (s := s) (s 17) rfl h rfl (by omega) dX12_comes_54 ?_
      refine J_aload_n dX12_comes_55 rfl rfl ?_
      refine Mg_17 dX12_comes_56 ?_
      refine J_iload_n dX12_comes_59 rfl rfl ?_
      refine Ml_17 (s := (su 17 s (upd (s 17) h (s 17 h)))) (upd (s 17) h (s 17 h)) rfl h rfl (by omega) dX12_comes_60 ?_
      refine J_iload dX12_comes_61 rfl ?_
      refine J_icmp_eq 70 dX12_comes_63 (by decide) (fun kcz3 => ?_) (fun kcz3 => ?_)
      · refine J_iconst (v := nI 0) dX12_comes_70 (by decide) ?_
        exact J_zretB (b := false) dX12_comes_71 rfl rfl rfl (hq _ _ (by rw [pk_us] at kcz3; simp_all [cmV]) (by simp [cmV, kcz1, kcz2]))
      · refine J_iconst (v := nI 1) dX12_comes_66 (by decide) ?_
        refine J_goto 71 dX12_comes_67 (by decide) ?_
        exact J_zretB (b := true) dX12_comes_71 rfl rfl rfl (hq _ _ (by rw [pk_us] at kcz3; simp_all [cmV]) (by simp [cmV, kcz1, kcz2]))
    · refine J_iconst (v := -1) dX12_comes_48 (by decide) ?_
      refine J_goto 54 dX12_comes_49 (by decide) ?_
      refine Ms_17 (s := s) (s 17) rfl h rfl (by omega) dX12_comes_54 ?_
      refine J_aload_n dX12_comes_55 rfl rfl ?_
      refine Mg_17 dX12_comes_56 ?_
      refine J_iload_n dX12_comes_59 rfl rfl ?_
      refine Ml_17 (s := (su 17 s (upd (s 17) h (-1)))) (upd (s 17) h (-1)) rfl h rfl (by omega) dX12_comes_60 ?_
      refine J_iload dX12_comes_61 rfl ?_
      refine J_icmp_eq 70 dX12_comes_63 (by decide) (fun kcz4 => ?_) (fun kcz4 => ?_)
      · refine J_iconst (v := nI 0) dX12_comes_70 (by decide) ?_
        exact J_zretB (b := false) dX12_comes_71 rfl rfl rfl (hq _ _ (by rw [pk_us] at kcz4; simp_all [cmV]) (by simp [cmV, kcz1, kcz2]))
      · refine J_iconst (v := nI 1) dX12_comes_66 (by decide) ?_
        refine J_goto 71 dX12_comes_67 (by decide) ?_
        exact J_zretB (b := true) dX12_comes_71 rfl rfl rfl (hq _ _ (by rw [pk_us] at kcz4; simp_all [cmV]) (by simp [cmV, kcz1, kcz2]))
  · refine J_aload_n dX12_comes_13 rfl rfl ?_
    refine Mg_17 dX12_comes_14 ?_
    refine J_iload_n dX12_comes_17 rfl rfl ?_
    refine J_aload_n dX12_comes_18 rfl rfl ?_
    refine J_iload_n dX12_comes_19 rfl rfl ?_
    refine J_iload_n dX12_comes_20 rfl rfl ?_
    refine J_cVi (x := yX12_in) [.int (nI q), .int (nI h)] 0 mv_X12_158 (c_X12_refuses o a s rf ao hrf hrf12 hao (by omega) q h (by omega)) mW_0 rfl rfl (by decide) (Nat.le_of_ble_eq_true rfl) ⟨Nat.le_refl _, Nat.le_refl _⟩ dX12_comes_21 ?_
    refine J_if_eqB 32 dX12_comes_24 (by decide) (fun kcz5 => ?_) (fun kcz5 => ?_)
    · refine J_iload_n dX12_comes_32 rfl rfl ?_
      refine Ms_17 (s := s) (s 17) rfl h rfl (by omega) dX12_comes_33 ?_
      refine J_goto 55 dX12_comes_34 (by decide) ?_
      refine J_aload_n dX12_comes_55 rfl rfl ?_
      refine Mg_17 dX12_comes_56 ?_
      refine J_iload_n dX12_comes_59 rfl rfl ?_
      refine Ml_17 (s := (su 17 s (upd (s 17) h (nI q)))) (upd (s 17) h (nI q)) rfl h rfl (by omega) dX12_comes_60 ?_
      refine J_iload dX12_comes_61 rfl ?_
      refine J_icmp_eq 70 dX12_comes_63 (by decide) (fun kcz6 => ?_) (fun kcz6 => ?_)
      · refine J_iconst (v := nI 0) dX12_comes_70 (by decide) ?_
        exact J_zretB (b := false) dX12_comes_71 rfl rfl rfl (hq _ _ (by rw [pk_us] at kcz6; simp_all [cmV]) (by simp [cmV, kcz1, kcz5]))
      · refine J_iconst (v := nI 1) dX12_comes_66 (by decide) ?_
        refine J_goto 71 dX12_comes_67 (by decide) ?_
        exact J_zretB (b := true) dX12_comes_71 rfl rfl rfl (hq _ _ (by rw [pk_us] at kcz6; simp_all [cmV]) (by simp [cmV, kcz1, kcz5]))
    · refine J_iload dX12_comes_27 rfl ?_
      refine J_goto 33 dX12_comes_29 (by decide) ?_
      refine Ms_17 (s := s) (s 17) rfl h rfl (by omega) dX12_comes_33 ?_
      refine J_goto 55 dX12_comes_34 (by decide) ?_
      refine J_aload_n dX12_comes_55 rfl rfl ?_
      refine Mg_17 dX12_comes_56 ?_
      refine J_iload_n dX12_comes_59 rfl rfl ?_
      refine Ml_17 (s := (su 17 s (upd (s 17) h (s 17 h)))) (upd (s 17) h (s 17 h)) rfl h rfl (by omega) dX12_comes_60 ?_
      refine J_iload dX12_comes_61 rfl ?_
      refine J_icmp_eq 70 dX12_comes_63 (by decide) (fun kcz7 => ?_) (fun kcz7 => ?_)
      · refine J_iconst (v := nI 0) dX12_comes_70 (by decide) ?_
        exact J_zretB (b := false) dX12_comes_71 rfl rfl rfl (hq _ _ (by rw [pk_us] at kcz7; simp_all [cmV]) (by simp [cmV, kcz1, kcz5]))
      · refine J_iconst (v := nI 1) dX12_comes_66 (by decide) ?_
        refine J_goto 71 dX12_comes_67 (by decide) ?_
        exact J_zretB (b := true) dX12_comes_71 rfl rfl rfl (hq _ _ (by rw [pk_us] at kcz7; simp_all [cmV]) (by simp [cmV, kcz1, kcz5]))
theorem c_X12_comes {G : GT} (o : Nat) (a : Nat → Nat) (s : Nat → Nat → Int32) (rf ao : Nat) (hrf : s 12 0 = nI rf) (hrf12 : rf ≤ 12) (hao : s 15 0 = nI ao) (hao8 : ao < 256) (h q : Nat) (how : Int32) (hh : h < 8) : Ct G yX12_comes cX12_comes 5 (some .boolean) 0 0 2 [.ref o, .int (nI h), .int how, .int (nI q)] (mW G o a s) (Is (some (.int (bI (!decide (cmV (rfsM rf (s 13) (s 14 0) ao) (s 17) h how q = s 17 h))))) (mW G o a (su 17 s (upd (s 17) h (cmV (rfsM rf (s 13) (s 14 0) ao) (s 17) h how q))))) := Ct.of rfl (Nat.le_of_ble_eq_true rfl) (j_X12_comes o a s rf ao hrf hrf12 hao hao8 h q how hh (fun _ _ h1 h2 => by subst h1; subst h2; exact Is.rf _ _))
set_option maxRecDepth 100000 in
set_option maxHeartbeats 1000000 in
theorem j_X12_readsWill {G : GT} (o : Nat) (a : Nat → Nat) (s : Nat → Nat → Int32) (n : Nat) (hn : s 8 0 = nI n) (hn8 : n ≤ 8) (m : Nat) (hm : s 8 1 = nI m) (hm6 : m ≤ 6) (c : Nat) (hc : s 8 2 = nI c) (hc15 : c ≤ 15) (hCl : ∀ k, k < c → s 11 (4 * k + 3) = -1 ∨ ∃ j, j < 8 ∧ s 11 (4 * k + 3) = nI j) (rf ao : Nat) (hrf : s 12 0 = nI rf) (hrf12 : rf ≤ 12) (hao : s 15 0 = nI ao) (hao8 : ao < 256) {Q : Option Value → va_W → Prop} (hq : Q none (mW G o a (su 18 (su 17 s ((wlF n m (s 11) (rfsM rf (s 13) (s 14 0) ao) c).1)) (fun _ => nI (wlF n m (s 11) (rfsM rf (s 13) (s 14 0) ao) c).2)))) : J G "readsWill" RX12 cX12_readsWill 6 none 0 0 3 Q 0 0 0 [(0, .ref o)] [] (mW G o a s) := by
  refine J_iconst (v := nI 0) dX12_readsWill_0 (by decide) ?_
  refine J_istore_n [(0, .ref o), (1, .int (nI 0))] dX12_readsWill_1 rfl (by decide) rfl rfl rfl ?_
  have L2 : ∀ (f i : Nat), 8 - i < f → i ≤ 8 → ∀ (x1 : Int32) (y17 : Nat → Int32), x1 = nI i → y17 = (fa_fill (fun _ => -1) (s 17) i) → J G "readsWill" RX12 cX12_readsWill 6 none 0 0 3 Q 0 0 2 [(0, .ref o), (1, .int x1)] [] (mW G o a (su 17 s y17)) := by
    intro f
    induction f with
    | zero => intro i h; exact absurd h (Nat.not_lt_zero _)
    | succ f ih =>
      intro i hf2 hle2  x1 y17 e1 g17
      subst e1
      subst g17
      refine J_iload_n dX12_readsWill_2 rfl rfl ?_
      refine J_bipush (v := nI 8) dX12_readsWill_3 (by decide) ?_
      refine J_icmp_geN 21 (by omega) (by omega) dX12_readsWill_5 (by decide) (fun kcz1 => ?_) (fun kcz1 => ?_)
      · refine Ma_17 (g := fun _ => -1) (fun j hj => (fa_fill_in (by omega) : fa_fill (fun _ => -1) (s 17) i j = -1)) ?_
        refine J_ws (ws2 := (mW G o a (su 17 s (fun _ => -1)))) (congrArg (mW G o a) su_tw) ?_
        refine J_aload_n dX12_readsWill_21 rfl rfl ?_
        refine J_iconst (v := nI 0) dX12_readsWill_22 (by decide) ?_
        refine Mp_18 dX12_readsWill_23 ?_
        refine J_iconst (v := nI 0) dX12_readsWill_26 (by decide) ?_
        refine J_istore_n [(0, .ref o), (1, .int (nI 0))] dX12_readsWill_27 rfl (by decide) rfl rfl rfl ?_
        have L28 : ∀ (f i : Nat), c - i < f → i ≤ c → ∀ (x1 : Int32) (y17 : Nat → Int32) (y18 : Nat → Int32), x1 = nI i → y17 = ((wlF n m (s 11) (rfsM rf (s 13) (s 14 0) ao) i).1) → y18 = (fun _ => nI (wlF n m (s 11) (rfsM rf (s 13) (s 14 0) ao) i).2) → J G "readsWill" RX12 cX12_readsWill 6 none 0 0 3 Q 0 0 28 [(0, .ref o), (1, .int x1)] [] (mW G o a (su 18 (su 17 s y17) y18)) := by
          intro f
          induction f with
          | zero => intro i h; exact absurd h (Nat.not_lt_zero _)
          | succ f ih =>
            intro i hf28 hle28  x1 y17 y18 e1 g17 g18
            subst e1
            subst g17
            subst g18
            refine J_iload_n dX12_readsWill_28 rfl rfl ?_
            refine J_aload_n dX12_readsWill_29 rfl rfl ?_
            refine Mg_8 dX12_readsWill_30 ?_
            refine J_iconst (v := nI 2) dX12_readsWill_33 (by decide) ?_
            refine Ml_8 (s := (su 18 (su 17 s ((wlF n m (s 11) (rfsM rf (s 13) (s 14 0) ao) i).1)) (fun _ => nI (wlF n m (s 11) (rfsM rf (s 13) (s 14 0) ao) i).2))) (s 8) rfl 2 rfl (by omega) dX12_readsWill_34 ?_
            refine J_rw (y := nI c) hc ?_
            refine J_icmp_geN 156 (by omega) (by omega) dX12_readsWill_35 (by decide) (fun kcz2 => ?_) (fun kcz2 => ?_)
            · exact J_vret dX12_readsWill_156 rfl rfl rfl (by obtain rfl : i = c := (by omega); exact hq)
            · refine J_aload_n dX12_readsWill_38 rfl rfl ?_
              refine Mg_11 dX12_readsWill_39 ?_
              refine J_iconst (v := nI 4) dX12_readsWill_42 (by decide) ?_
              refine J_iload_n dX12_readsWill_43 rfl rfl ?_
              refine J_imulN dX12_readsWill_44 ?_
              refine Ml_11 (s := (su 18 (su 17 s ((wlF n m (s 11) (rfsM rf (s 13) (s 14 0) ao) i).1)) (fun _ => nI (wlF n m (s 11) (rfsM rf (s 13) (s 14 0) ao) i).2))) (s 11) rfl (4 * i) rfl (by omega) dX12_readsWill_45 ?_
              refine J_istore_n [(0, .ref o), (1, .int (nI i)), (2, .int (s 11 (4 * i)))] dX12_readsWill_46 rfl (by decide) rfl rfl rfl ?_
              refine J_aload_n dX12_readsWill_47 rfl rfl ?_
              refine Mg_11 dX12_readsWill_48 ?_
              refine J_iconst (v := nI 4) dX12_readsWill_51 (by decide) ?_
              refine J_iload_n dX12_readsWill_52 rfl rfl ?_
              refine J_imulN dX12_readsWill_53 ?_
              refine J_iconst (v := nI 2) dX12_readsWill_54 (by decide) ?_
              refine J_iaddN dX12_readsWill_55 ?_
              refine Ml_11 (s := (su 18 (su 17 s ((wlF n m (s 11) (rfsM rf (s 13) (s 14 0) ao) i).1)) (fun _ => nI (wlF n m (s 11) (rfsM rf (s 13) (s 14 0) ao) i).2))) (s 11) rfl (4 * i + 2) rfl (by omega) dX12_readsWill_56 ?_
              refine J_istore_n [(0, .ref o), (1, .int (nI i)), (2, .int (s 11 (4 * i))), (3, .int (s 11 (4 * i + 2)))] dX12_readsWill_57 rfl (by decide) rfl rfl rfl ?_
              refine J_aload_n dX12_readsWill_58 rfl rfl ?_
              refine Mg_11 dX12_readsWill_59 ?_
              refine J_iconst (v := nI 4) dX12_readsWill_62 (by decide) ?_
              refine J_iload_n dX12_readsWill_63 rfl rfl ?_
              refine J_imulN dX12_readsWill_64 ?_
              refine J_iconst (v := nI 3) dX12_readsWill_65 (by decide) ?_
              refine J_iaddN dX12_readsWill_66 ?_
              refine Ml_11 (s := (su 18 (su 17 s ((wlF n m (s 11) (rfsM rf (s 13) (s 14 0) ao) i).1)) (fun _ => nI (wlF n m (s 11) (rfsM rf (s 13) (s 14 0) ao) i).2))) (s 11) rfl (4 * i + 3) rfl (by omega) dX12_readsWill_67 ?_
              refine J_istore [(0, .ref o), (1, .int (nI i)), (2, .int (s 11 (4 * i))), (3, .int (s 11 (4 * i + 2))), (4, .int (s 11 (4 * i + 3)))] dX12_readsWill_68 (by decide) rfl rfl rfl ?_
              refine J_aload_n dX12_readsWill_70 rfl rfl ?_
              refine J_iload_n dX12_readsWill_71 rfl rfl ?_
              refine J_cVi (x := yX12_in) [.int (s 11 (4 * i))] 0 mv_X12_128 (c_X12_isHabit o a (su 18 (su 17 s ((wlF n m (s 11) (rfsM rf (s 13) (s 14 0) ao) i).1)) (fun _ => nI (wlF n m (s 11) (rfsM rf (s 13) (s 14 0) ao) i).2)) n hn hn8 (s 11 (4 * i))) mW_0 rfl rfl (by decide) (Nat.le_of_ble_eq_true rfl) ⟨Nat.le_refl _, Nat.le_refl _⟩ dX12_readsWill_72 ?_
              have K108_2 : ∀ (t0 : Int32), t0 = bI (mayM n m (s 11) (wlF n m (s 11) (rfsM rf (s 13) (s 14 0) ao) i).1 i) → J G "readsWill" RX12 cX12_readsWill 6 none 0 0 3 Q 0 0 108 [(0, .ref o), (1, .int (nI i)), (2, .int (s 11 (4 * i))), (3, .int (s 11 (4 * i + 2))), (4, .int (s 11 (4 * i + 3)))] [.int t0] (mW G o a (su 18 (su 17 s ((wlF n m (s 11) (rfsM rf (s 13) (s 14 0) ao) i).1)) (fun _ => nI (wlF n m (s 11) (rfsM rf (s 13) (s 14 0) ao) i).2))) := by
                intro t0 qt0
                subst qt0
                refine J_istore [(0, .ref o), (1, .int (nI i)), (2, .int (s 11 (4 * i))), (3, .int (s 11 (4 * i + 2))), (4, .int (s 11 (4 * i + 3))), (5, .int (bI (mayM n m (s 11) (wlF n m (s 11) (rfsM rf (s 13) (s 14 0) ao) i).1 i)))] dX12_readsWill_108 (by decide) rfl rfl rfl ?_
                refine J_aload_n dX12_readsWill_110 rfl rfl ?_
                refine J_dup dX12_readsWill_111 rfl ?_
                refine Mg_18 (s := (su 18 (su 17 s ((wlF n m (s 11) (rfsM rf (s 13) (s 14 0) ao) i).1)) (fun _ => nI (wlF n m (s 11) (rfsM rf (s 13) (s 14 0) ao) i).2))) (nI ((wlF n m (s 11) (rfsM rf (s 13) (s 14 0) ao) i).2)) rfl dX12_readsWill_112 ?_
                refine J_iload dX12_readsWill_115 rfl ?_
                refine J_if_eqB 145 dX12_readsWill_117 (by decide) (fun kcz4 => ?_) (fun kcz4 => ?_)
                · refine J_iconst (v := nI 0) dX12_readsWill_145 (by decide) ?_
                  refine J_iorN dX12_readsWill_146 ?_
                  refine Mp_18 dX12_readsWill_147 ?_
                  refine J_ws (ws2 := (mW G o a (su 18 (su 17 s ((wlF n m (s 11) (rfsM rf (s 13) (s 14 0) ao) i).1)) (fun _ => nI (((wlF n m (s 11) (rfsM rf (s 13) (s 14 0) ao) i).2) ||| 0))))) (congrArg (mW G o a) su_tw) ?_
                  refine J_iincN [(0, .ref o), (1, .int (nI (i + 1))), (2, .int (s 11 (4 * i))), (3, .int (s 11 (4 * i + 2))), (4, .int (s 11 (4 * i + 3))), (5, .int (bI (mayM n m (s 11) (wlF n m (s 11) (rfsM rf (s 13) (s 14 0) ao) i).1 i)))] dX12_readsWill_150 rfl (by decide) rfl rfl rfl ?_
                  refine J_goto 28 dX12_readsWill_153 (by decide) ?_
                  refine J_lv [0, 1] rfl ?_
                  exact ih (i + 1) (by omega) (by omega)  _ _ _ rfl (by first | rw [wlF_no kcz4] | rw [heq9]) (by first | (rw [wlF_no kcz4, Nat.or_zero]; done) | rw [hdd9, if_pos (bnd_f kcz4), Nat.or_zero] | rw [hdd9, if_neg (bnd_t kcz4)])
                · obtain ⟨h9, e9, hh9, he9, eh9, ee9, heq9, hdd9⟩ := wlF_yes (RF := rfsM rf (s 13) (s 14 0) ao) kcz4 hn8 hm6
                  rw [eh9, ee9]
                  refine J_aload_n dX12_readsWill_120 rfl rfl ?_
                  refine J_iload_n dX12_readsWill_121 rfl rfl ?_
                  refine J_aload_n dX12_readsWill_122 rfl rfl ?_
                  refine Mg_11 dX12_readsWill_123 ?_
                  refine J_iconst (v := nI 4) dX12_readsWill_126 (by decide) ?_
                  refine J_iload_n dX12_readsWill_127 rfl rfl ?_
                  refine J_imulN dX12_readsWill_128 ?_
                  refine J_iconst (v := nI 1) dX12_readsWill_129 (by decide) ?_
                  refine J_iaddN dX12_readsWill_130 ?_
                  refine Ml_11 (s := (su 18 (su 17 s ((wlF n m (s 11) (rfsM rf (s 13) (s 14 0) ao) i).1)) (fun _ => nI (wlF n m (s 11) (rfsM rf (s 13) (s 14 0) ao) i).2))) (s 11) rfl (4 * i + 1) rfl (by omega) dX12_readsWill_131 ?_
                  refine J_iload_n dX12_readsWill_132 rfl rfl ?_
                  refine J_cVi (x := yX12_in) [.int (nI h9), .int (s 11 (4 * i + 1)), .int (nI e9)] 0 mv_X12_164 (c_X12_comes o a (su 18 (su 17 s ((wlF n m (s 11) (rfsM rf (s 13) (s 14 0) ao) i).1)) (fun _ => nI (wlF n m (s 11) (rfsM rf (s 13) (s 14 0) ao) i).2)) rf ao hrf hrf12 hao (by omega) h9 e9 (s 11 (4 * i + 1)) (by omega)) mW_0 rfl rfl (by decide) (Nat.le_of_ble_eq_true rfl) ⟨Nat.le_refl _, Nat.le_refl _⟩ dX12_readsWill_133 ?_
                  show J G "readsWill" RX12 cX12_readsWill 6 none 0 0 3 Q 0 0 136 [(0, .ref o), (1, .int (nI i)), (2, .int (nI h9)), (3, .int (nI e9)), (4, .int (s 11 (4 * i + 3))), (5, .int (bI (mayM n m (s 11) (wlF n m (s 11) (rfsM rf (s 13) (s 14 0) ao) i).1 i)))] [.int (bI (!decide (cmV (rfsM rf (s 13) (s 14 0) ao) ((wlF n m (s 11) (rfsM rf (s 13) (s 14 0) ao) i).1) h9 (s 11 (4 * i + 1)) e9 = ((wlF n m (s 11) (rfsM rf (s 13) (s 14 0) ao) i).1) h9))), .int (nI ((wlF n m (s 11) (rfsM rf (s 13) (s 14 0) ao) i).2)), .ref o] (mW G o a (su 17 (su 18 (su 17 s ((wlF n m (s 11) (rfsM rf (s 13) (s 14 0) ao) i).1)) (fun _ => nI (wlF n m (s 11) (rfsM rf (s 13) (s 14 0) ao) i).2)) (upd ((wlF n m (s 11) (rfsM rf (s 13) (s 14 0) ao) i).1) h9 (cmV (rfsM rf (s 13) (s 14 0) ao) ((wlF n m (s 11) (rfsM rf (s 13) (s 14 0) ao) i).1) h9 (s 11 (4 * i + 1)) e9))))
                  refine J_ws (ws2 := (mW G o a (su 18 (su 17 s (upd ((wlF n m (s 11) (rfsM rf (s 13) (s 14 0) ao) i).1) h9 (cmV (rfsM rf (s 13) (s 14 0) ao) ((wlF n m (s 11) (rfsM rf (s 13) (s 14 0) ao) i).1) h9 (s 11 (4 * i + 1)) e9))) (fun _ => nI (wlF n m (s 11) (rfsM rf (s 13) (s 14 0) ao) i).2)))) (congrArg (mW G o a) ((su_sw (by decide)).trans (su_cg su_tw))) ?_
                  refine J_if_eqB 145 dX12_readsWill_136 (by decide) (fun kcz5 => ?_) (fun kcz5 => ?_)
                  · refine J_iconst (v := nI 0) dX12_readsWill_145 (by decide) ?_
                    refine J_iorN dX12_readsWill_146 ?_
                    refine Mp_18 dX12_readsWill_147 ?_
                    refine J_ws (ws2 := (mW G o a (su 18 (su 17 s (upd ((wlF n m (s 11) (rfsM rf (s 13) (s 14 0) ao) i).1) h9 (cmV (rfsM rf (s 13) (s 14 0) ao) ((wlF n m (s 11) (rfsM rf (s 13) (s 14 0) ao) i).1) h9 (s 11 (4 * i + 1)) e9))) (fun _ => nI (((wlF n m (s 11) (rfsM rf (s 13) (s 14 0) ao) i).2) ||| 0))))) (congrArg (mW G o a) su_tw) ?_
                    refine J_iincN [(0, .ref o), (1, .int (nI (i + 1))), (2, .int (nI h9)), (3, .int (nI e9)), (4, .int (s 11 (4 * i + 3))), (5, .int (bI (mayM n m (s 11) (wlF n m (s 11) (rfsM rf (s 13) (s 14 0) ao) i).1 i)))] dX12_readsWill_150 rfl (by decide) rfl rfl rfl ?_
                    refine J_goto 28 dX12_readsWill_153 (by decide) ?_
                    refine J_lv [0, 1] rfl ?_
                    exact ih (i + 1) (by omega) (by omega)  _ _ _ rfl (by first | rw [wlF_no kcz4] | rw [heq9]) (by first | (rw [wlF_no kcz4, Nat.or_zero]; done) | rw [hdd9, if_pos (bnd_f kcz5), Nat.or_zero] | rw [hdd9, if_neg (bnd_t kcz5)])
                  · refine J_iconst (v := nI 1) dX12_readsWill_139 (by decide) ?_
                    refine J_iload_n dX12_readsWill_140 rfl rfl ?_
                    refine J_shl1N dX12_readsWill_141 (by omega) ?_
                    refine J_goto 146 dX12_readsWill_142 (by decide) ?_
                    refine J_iorN dX12_readsWill_146 ?_
                    refine Mp_18 dX12_readsWill_147 ?_
                    refine J_ws (ws2 := (mW G o a (su 18 (su 17 s (upd ((wlF n m (s 11) (rfsM rf (s 13) (s 14 0) ao) i).1) h9 (cmV (rfsM rf (s 13) (s 14 0) ao) ((wlF n m (s 11) (rfsM rf (s 13) (s 14 0) ao) i).1) h9 (s 11 (4 * i + 1)) e9))) (fun _ => nI (((wlF n m (s 11) (rfsM rf (s 13) (s 14 0) ao) i).2) ||| (2 ^ i)))))) (congrArg (mW G o a) su_tw) ?_
                    refine J_iincN [(0, .ref o), (1, .int (nI (i + 1))), (2, .int (nI h9)), (3, .int (nI e9)), (4, .int (s 11 (4 * i + 3))), (5, .int (bI (mayM n m (s 11) (wlF n m (s 11) (rfsM rf (s 13) (s 14 0) ao) i).1 i)))] dX12_readsWill_150 rfl (by decide) rfl rfl rfl ?_
                    refine J_goto 28 dX12_readsWill_153 (by decide) ?_
                    refine J_lv [0, 1] rfl ?_
                    exact ih (i + 1) (by omega) (by omega)  _ _ _ rfl (by first | rw [wlF_no kcz4] | rw [heq9]) (by first | (rw [wlF_no kcz4, Nat.or_zero]; done) | rw [hdd9, if_pos (bnd_f kcz5), Nat.or_zero] | rw [hdd9, if_neg (bnd_t kcz5)])
              refine J_if_eqB 107 dX12_readsWill_75 (by decide) (fun kcz6 => ?_) (fun kcz6 => ?_)
              · refine J_iconst (v := nI 0) dX12_readsWill_107 (by decide) ?_
                exact K108_2 _ (by first | (show bI false = bI (mayM n m (s 11) (wlF n m (s 11) (rfsM rf (s 13) (s 14 0) ao) i).1 i); simp [mayM, kcz1, kcz2, kcz6]; done) | (show bI true = bI (mayM n m (s 11) (wlF n m (s 11) (rfsM rf (s 13) (s 14 0) ao) i).1 i); simp [mayM, kcz1, kcz2, kcz6]))
              · refine J_aload_n dX12_readsWill_78 rfl rfl ?_
                refine J_iload_n dX12_readsWill_79 rfl rfl ?_
                refine J_cVi (x := yX12_in) [.int (s 11 (4 * i + 2))] 0 mv_X12_133 (c_X12_isHeir o a (su 18 (su 17 s ((wlF n m (s 11) (rfsM rf (s 13) (s 14 0) ao) i).1)) (fun _ => nI (wlF n m (s 11) (rfsM rf (s 13) (s 14 0) ao) i).2)) m hm hm6 (s 11 (4 * i + 2))) mW_0 rfl rfl (by decide) (Nat.le_of_ble_eq_true rfl) ⟨Nat.le_refl _, Nat.le_refl _⟩ dX12_readsWill_80 ?_
                refine J_if_eqB 107 dX12_readsWill_83 (by decide) (fun kcz7 => ?_) (fun kcz7 => ?_)
                · refine J_iconst (v := nI 0) dX12_readsWill_107 (by decide) ?_
                  exact K108_2 _ (by first | (show bI false = bI (mayM n m (s 11) (wlF n m (s 11) (rfsM rf (s 13) (s 14 0) ao) i).1 i); simp [mayM, kcz1, kcz2, kcz6, kcz7]; done) | (show bI true = bI (mayM n m (s 11) (wlF n m (s 11) (rfsM rf (s 13) (s 14 0) ao) i).1 i); simp [mayM, kcz1, kcz2, kcz6, kcz7]))
                · refine J_iload dX12_readsWill_86 rfl ?_
                  refine J_iconst (v := -1) dX12_readsWill_88 (by decide) ?_
                  refine J_icmp_eq 103 dX12_readsWill_89 (by decide) (fun kcz8 => ?_) (fun kcz8 => ?_)
                  · refine J_iconst (v := nI 1) dX12_readsWill_103 (by decide) ?_
                    refine J_goto 108 dX12_readsWill_104 (by decide) ?_
                    exact K108_2 _ (by first | (show bI false = bI (mayM n m (s 11) (wlF n m (s 11) (rfsM rf (s 13) (s 14 0) ao) i).1 i); simp [mayM, kcz1, kcz2, kcz6, kcz7, kcz8]; done) | (show bI true = bI (mayM n m (s 11) (wlF n m (s 11) (rfsM rf (s 13) (s 14 0) ao) i).1 i); simp [mayM, kcz1, kcz2, kcz6, kcz7, kcz8]))
                  · refine J_aload_n dX12_readsWill_92 rfl rfl ?_
                    refine Mg_17 dX12_readsWill_93 ?_
                    refine J_iload dX12_readsWill_96 rfl ?_
                    refine Ml_17 (s := (su 18 (su 17 s ((wlF n m (s 11) (rfsM rf (s 13) (s 14 0) ao) i).1)) (fun _ => nI (wlF n m (s 11) (rfsM rf (s 13) (s 14 0) ao) i).2))) ((wlF n m (s 11) (rfsM rf (s 13) (s 14 0) ao) i).1) rfl ((s 11 (4 * i + 3)).toNatClampNeg) (ask_ix (hCl i (by omega)) kcz8).1 (ask_ix (hCl i (by omega)) kcz8).2 dX12_readsWill_98 ?_
                    refine J_iconst (v := -1) dX12_readsWill_99 (by decide) ?_
                    refine J_icmp_eq 107 dX12_readsWill_100 (by decide) (fun kcz9 => ?_) (fun kcz9 => ?_)
                    · refine J_iconst (v := nI 0) dX12_readsWill_107 (by decide) ?_
                      exact K108_2 _ (by first | (show bI false = bI (mayM n m (s 11) (wlF n m (s 11) (rfsM rf (s 13) (s 14 0) ao) i).1 i); simp [mayM, kcz1, kcz2, kcz6, kcz7, kcz8, kcz9]; done) | (show bI true = bI (mayM n m (s 11) (wlF n m (s 11) (rfsM rf (s 13) (s 14 0) ao) i).1 i); simp [mayM, kcz1, kcz2, kcz6, kcz7, kcz8, kcz9]))
                    · refine J_iconst (v := nI 1) dX12_readsWill_103 (by decide) ?_
                      refine J_goto 108 dX12_readsWill_104 (by decide) ?_
                      exact K108_2 _ (by first | (show bI false = bI (mayM n m (s 11) (wlF n m (s 11) (rfsM rf (s 13) (s 14 0) ao) i).1 i); simp [mayM, kcz1, kcz2, kcz6, kcz7, kcz8, kcz9]; done) | (show bI true = bI (mayM n m (s 11) (wlF n m (s 11) (rfsM rf (s 13) (s 14 0) ao) i).1 i); simp [mayM, kcz1, kcz2, kcz6, kcz7, kcz8, kcz9]))
        exact L28 (c + 1) 0 (by omega) (by omega)  _ _ _ rfl rfl rfl
      · refine J_aload_n dX12_readsWill_8 rfl rfl ?_
        refine Mg_17 dX12_readsWill_9 ?_
        refine J_iload_n dX12_readsWill_12 rfl rfl ?_
        refine J_iconst (v := -1) dX12_readsWill_13 (by decide) ?_
        refine Ms_17 (s := (su 17 s (fa_fill (fun _ => -1) (s 17) i))) (fa_fill (fun _ => -1) (s 17) i) rfl i rfl (by omega) dX12_readsWill_14 ?_
        refine J_ws (ws2 := (mW G o a (su 17 s (upd (fa_fill (fun _ => -1) (s 17) i) i (-1))))) (congrArg (mW G o a) su_tw) ?_
        refine J_iincN [(0, .ref o), (1, .int (nI (i + 1)))] dX12_readsWill_15 rfl (by decide) rfl rfl rfl ?_
        refine J_goto 2 dX12_readsWill_18 (by decide) ?_
        exact ih (i + 1) (by omega) (by omega)  _ _ rfl (fa_fill_succ _ _ _)
  exact L2 (8 + 1) 0 (by omega) (by omega)  _ _ rfl (fa_fill_0 _ _).symm
theorem c_X12_readsWill {G : GT} (o : Nat) (a : Nat → Nat) (s : Nat → Nat → Int32) (n : Nat) (hn : s 8 0 = nI n) (hn8 : n ≤ 8) (m : Nat) (hm : s 8 1 = nI m) (hm6 : m ≤ 6) (c : Nat) (hc : s 8 2 = nI c) (hc15 : c ≤ 15) (hCl : ∀ k, k < c → s 11 (4 * k + 3) = -1 ∨ ∃ j, j < 8 ∧ s 11 (4 * k + 3) = nI j) (rf ao : Nat) (hrf : s 12 0 = nI rf) (hrf12 : rf ≤ 12) (hao : s 15 0 = nI ao) (hao8 : ao < 256) : Ct G yX12_readsWill cX12_readsWill 6 none 0 0 3 [.ref o] (mW G o a s) (Is none (mW G o a (su 18 (su 17 s ((wlF n m (s 11) (rfsM rf (s 13) (s 14 0) ao) c).1)) (fun _ => nI (wlF n m (s 11) (rfsM rf (s 13) (s 14 0) ao) c).2)))) := Ct.of rfl (Nat.le_of_ble_eq_true rfl) (j_X12_readsWill o a s n hn hn8 m hm hm6 c hc hc15 hCl rf ao hrf hrf12 hao hao8 (Is.rf _ _))
set_option maxRecDepth 100000 in
set_option maxHeartbeats 1000000 in
theorem j_X12_find {G : GT} (o : Nat) (a : Nat → Nat) (s : Nat → Nat → Int32) (l0 l1 l2 : Nat) (h0 : s 6 0 = nI l0) (h1 : s 6 1 = nI l1) (h2 : s 6 2 = nI l2) (hl0 : l0 ≤ 47) (hl1 : l1 ≤ 23) (hl2 : l2 ≤ 59) (rf : Nat) (hrf : s 12 0 = nI rf) (hrf12 : rf ≤ 12) {Q : Option Value → va_W → Prop} (hq : ∀ x : Nat → Nat → Int32, Fnd s x l0 l1 l2 rf → Q none (mW G o a x)) : J G "find" RX12 cX12_find 1 none 0 0 7 Q 0 0 0 [(0, .ref o)] [] (mW G o a s) := by
  refine J_aload_n dX12_find_0 rfl rfl ?_
  refine J_callV (wr := []) (As := []) (st := []) 0 mv_X12_125 (c_X12_reads o a s l0 l1 l2 h0 h1 h2 hl0 hl1 hl2) mW_0 rfl rfl rfl (by decide) (Nat.le_of_ble_eq_true rfl) ⟨Nat.le_refl _, Nat.le_refl _⟩ dX12_find_1 (fun v_ w_ h_ => ?_)
  obtain ⟨x1, rfl, rfl, hx1⟩ := h_
  show J G "find" RX12 cX12_find 1 none 0 0 7 Q 0 0 4 [(0, .ref o)] [] (mW G o a x1)
  refine J_aload_n dX12_find_4 rfl rfl ?_
  refine J_iconst (v := nI 0) dX12_find_5 (by decide) ?_
  refine Mp_15 dX12_find_6 ?_
  refine J_aload_n dX12_find_9 rfl rfl ?_
  refine J_cVv (x := yX12_in) [] 0 mv_X12_168 (c_X12_readsWill o a (su 15 x1 (fun _ => nI 0)) _ hx1.2.1 (rdT_le0 _ _) _ hx1.2.2.1 (rdT_le1 _ _) _ hx1.2.2.2.1 (rdT_le2 _ _) (show ∀ k, k < (rdT (s 5) 2 l2).1 → x1 11 (4 * k + 3) = -1 ∨ ∃ j, j < 8 ∧ x1 11 (4 * k + 3) = nI j from prs_ask hx1) rf 0 ((congrFun (hx1.1 12 (by omega)) 0).trans hrf) hrf12 rfl (by decide)) mW_0 rfl rfl (by decide) (Nat.le_of_ble_eq_true rfl) ⟨Nat.le_refl _, Nat.le_refl _⟩ dX12_find_10 ?_
  show J G "find" RX12 cX12_find 1 none 0 0 7 Q 0 0 13 [(0, .ref o)] [] (mW G o a (su 18 (su 17 (su 15 x1 (fun _ => nI 0)) ((wlF (rdT (s 5) 0 l0).1 (rdT (s 5) 1 l1).1 (x1 11) (rfsM rf (x1 13) (x1 14 0) 0) (rdT (s 5) 2 l2).1).1)) (fun _ => nI (wlF (rdT (s 5) 0 l0).1 (rdT (s 5) 1 l1).1 (x1 11) (rfsM rf (x1 13) (x1 14 0) 0) (rdT (s 5) 2 l2).1).2)))
  exact J_vret dX12_find_13 rfl rfl rfl (hq _ (fnd_of hx1))
theorem c_X12_find {G : GT} (o : Nat) (a : Nat → Nat) (s : Nat → Nat → Int32) (l0 l1 l2 : Nat) (h0 : s 6 0 = nI l0) (h1 : s 6 1 = nI l1) (h2 : s 6 2 = nI l2) (hl0 : l0 ≤ 47) (hl1 : l1 ≤ 23) (hl2 : l2 ≤ 59) (rf : Nat) (hrf : s 12 0 = nI rf) (hrf12 : rf ≤ 12) : Ct G yX12_find cX12_find 1 none 0 0 7 [.ref o] (mW G o a s) (fun v w => ∃ x : Nat → Nat → Int32, v = none ∧ w = mW G o a x ∧ Fnd s x l0 l1 l2 rf) := Ct.of rfl (Nat.le_of_ble_eq_true rfl) (j_X12_find o a s l0 l1 l2 h0 h1 h2 hl0 hl1 hl2 rf hrf hrf12 (fun x h => ⟨x, rfl, rfl, h⟩))
