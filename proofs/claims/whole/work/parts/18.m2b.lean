/-- what lasts between two calls -/
def pers : List Nat := [0, 1, 2, 4, 5, 6, 12, 13, 16, 21, 22]
def Keep (s x : Nat → Nat → Int32) : Prop := ∀ k ∈ pers, x k = s k
theorem Keep.rf (s : Nat → Nat → Int32) : Keep s s := fun _ _ => rfl
theorem Keep.tr {s x y : Nat → Nat → Int32} (h : Keep s x) (h2 : Keep x y) : Keep s y := fun k hk => (h2 k hk).trans (h k hk)
theorem su_ne {k j : Nat} {s : Nat → Nat → Int32} {f : Nat → Int32} (h : j ≠ k) : su k s f j = s j := by
  unfold su
  cases hb : Nat.beq j k with
  | false => rfl
  | true => exact absurd (Nat.eq_of_beq_eq_true hb) h
theorem Keep.put {s x : Nat → Nat → Int32} (h : Keep s x) {k : Nat} (hk : k ∉ pers) (f : Nat → Int32) : Keep s (su k x f) := fun j hj => (su_ne (fun e => hk (by rw [← e]; exact hj))).trans (h j hj)
/-- the texts are read: rows and how many -/
def Prs (s x : Nat → Nat → Int32) (l0 l1 l2 : Nat) : Prop := (∀ k, k < 7 ∨ 11 < k → x k = s k) ∧ x 8 0 = nI (rdT (s 5) 0 l0).1 ∧ x 8 1 = nI (rdT (s 5) 1 l1).1 ∧ x 8 2 = nI (rdT (s 5) 2 l2).1
  ∧ (∀ j, j < (rdT (s 5) 0 l0).1 → ∀ k, k < 5 → x 9 (5 * j + k) = fH (s 5) l0 j k) ∧ (∀ j, j < (rdT (s 5) 1 l1).1 → ∀ k, k < 3 → x 10 (3 * j + k) = fE (s 5) l1 j k) ∧ (∀ j, j < (rdT (s 5) 2 l2).1 → ∀ k, k < 4 → x 11 (4 * j + k) = fC (s 5) l2 j k)
theorem Prs.keep {s x : Nat → Nat → Int32} {l0 l1 l2 : Nat} (h : Prs s x l0 l1 l2) : Keep s x := fun k hk => h.1 k (by simp only [pers, List.mem_cons, List.not_mem_nil, or_false] at hk; omega)
theorem prs_k {s : Nat → Nat → Int32} {f7 f8 f9 f10 f11 : Nat → Int32} {k : Nat} (hk : k < 7 ∨ 11 < k) : su 11 (su 10 (su 9 (su 8 (su 7 s f7) f8) f9) f10) f11 k = s k := by
  rw [su_ne (by omega), su_ne (by omega), su_ne (by omega), su_ne (by omega), su_ne (by omega)]
theorem keep_txt {s : Nat → Nat → Int32} {f7 f8 f9 : Nat → Int32} {c : Nat} (hc : c ∉ pers) : Keep s (su c (su 8 (su 7 s f7) f8) f9) := (((Keep.rf s).put (by decide) f7).put (by decide) f8).put hc f9
theorem scT0_go {B : Nat → Int32} {len f r p : Nat} (hmx : ¬ r = 8) (hW : rW0 B len p = true) (hlt : ¬ len ≤ rE0 B len p) (hs : bA B 0 len (rE0 B len p) = nI 59) : scT B 0 len (f + 1) r p = scT B 0 len f (r + 1) (rE0 B len p + 1) := by
  show scn _ _ _ _ _ (f + 1) r p = scn _ _ _ _ _ f _ _
  rw [scn, if_neg hmx, if_neg (by rw [hW]; decide), if_pos (by omega), if_pos (by simp [sepA, hs])]
theorem scT0_end {B : Nat → Int32} {len f r p : Nat} (hmx : ¬ r = 8) (hW : rW0 B len p = true) (hge : len ≤ rE0 B len p) : scT B 0 len (f + 1) r p = (r + 1, -1) := by
  show scn _ _ _ _ _ (f + 1) r p = _
  rw [scn, if_neg hmx, if_neg (by rw [hW]; decide), if_neg (by omega)]
theorem scT0_bad {B : Nat → Int32} {len f r p : Nat} (hmx : ¬ r = 8) (hW : rW0 B len p = false) : scT B 0 len (f + 1) r p = (0, nI (rE0 B len p)) := by
  show scn _ _ _ _ _ (f + 1) r p = _
  rw [scn, if_neg hmx, if_pos hW]
theorem scT0_sep {B : Nat → Int32} {len f r p : Nat} (hmx : ¬ r = 8) (hW : rW0 B len p = true) (hlt : ¬ len ≤ rE0 B len p) (hs : ¬ bA B 0 len (rE0 B len p) = nI 59) : scT B 0 len (f + 1) r p = (0, nI (rE0 B len p)) := by
  show scn _ _ _ _ _ (f + 1) r p = _
  rw [scn, if_neg hmx, if_neg (by rw [hW]; decide), if_pos (by omega), if_neg (by simp [sepA, hs])]
theorem rows_next0 {B : Nat → Int32} {len r p : Nat} {y z : Nat → Int32} (hps : psT B 0 len r = p) (hyy : ∀ j, j < r → ∀ k, k < 5 → y (5 * j + k) = fH B len j k) (ho : ∀ j, j < 5 * r → z j = y j) (hi : ∀ k, k < 5 → z (5 * r + k) = tlH k (bA B 0 len (p + k))) : ∀ j, j < r + 1 → ∀ k, k < 5 → z (5 * j + k) = fH B len j k := by
  intro j hj k hk
  rcases Nat.lt_or_ge j r with q | q
  · rw [ho _ (by omega)]; exact hyy j q k hk
  · obtain rfl : j = r := by omega
    rw [hi k hk]; unfold fH; rw [hps]
theorem scT1_go {B : Nat → Int32} {len f r p : Nat} (hmx : ¬ r = 6) (hW : rW1 B len p = true) (hlt : ¬ len ≤ rE1 B len p) (hs : bA B 1 len (rE1 B len p) = nI 59) : scT B 1 len (f + 1) r p = scT B 1 len f (r + 1) (rE1 B len p + 1) := by
  show scn _ _ _ _ _ (f + 1) r p = scn _ _ _ _ _ f _ _
  rw [scn, if_neg hmx, if_neg (by rw [hW]; decide), if_pos (by omega), if_pos (by simp [sepA, hs])]
theorem scT1_end {B : Nat → Int32} {len f r p : Nat} (hmx : ¬ r = 6) (hW : rW1 B len p = true) (hge : len ≤ rE1 B len p) : scT B 1 len (f + 1) r p = (r + 1, -1) := by
  show scn _ _ _ _ _ (f + 1) r p = _
  rw [scn, if_neg hmx, if_neg (by rw [hW]; decide), if_neg (by omega)]
theorem scT1_bad {B : Nat → Int32} {len f r p : Nat} (hmx : ¬ r = 6) (hW : rW1 B len p = false) : scT B 1 len (f + 1) r p = (0, nI (rE1 B len p)) := by
  show scn _ _ _ _ _ (f + 1) r p = _
  rw [scn, if_neg hmx, if_pos hW]
theorem scT1_sep {B : Nat → Int32} {len f r p : Nat} (hmx : ¬ r = 6) (hW : rW1 B len p = true) (hlt : ¬ len ≤ rE1 B len p) (hs : ¬ bA B 1 len (rE1 B len p) = nI 59) : scT B 1 len (f + 1) r p = (0, nI (rE1 B len p)) := by
  show scn _ _ _ _ _ (f + 1) r p = _
  rw [scn, if_neg hmx, if_neg (by rw [hW]; decide), if_pos (by omega), if_neg (by simp [sepA, hs])]
theorem rows_next1 {B : Nat → Int32} {len r p : Nat} {y z : Nat → Int32} (hps : psT B 1 len r = p) (hyy : ∀ j, j < r → ∀ k, k < 3 → y (3 * j + k) = fE B len j k) (ho : ∀ j, j < 3 * r → z j = y j) (hi : ∀ k, k < 3 → z (3 * r + k) = tlE k (bA B 1 len (p + k))) : ∀ j, j < r + 1 → ∀ k, k < 3 → z (3 * j + k) = fE B len j k := by
  intro j hj k hk
  rcases Nat.lt_or_ge j r with q | q
  · rw [ho _ (by omega)]; exact hyy j q k hk
  · obtain rfl : j = r := by omega
    rw [hi k hk]; unfold fE; rw [hps]
theorem scT2_go {B : Nat → Int32} {len f r p : Nat} (hmx : ¬ r = 15) (hW : rW2 B len p = true) (hlt : ¬ len ≤ rE2 B len p) (hs : bA B 2 len (rE2 B len p) = nI 59) : scT B 2 len (f + 1) r p = scT B 2 len f (r + 1) (rE2 B len p + 1) := by
  show scn _ _ _ _ _ (f + 1) r p = scn _ _ _ _ _ f _ _
  rw [scn, if_neg hmx, if_neg (by rw [hW]; decide), if_pos (by omega), if_pos (by simp [sepA, hs])]
theorem scT2_end {B : Nat → Int32} {len f r p : Nat} (hmx : ¬ r = 15) (hW : rW2 B len p = true) (hge : len ≤ rE2 B len p) : scT B 2 len (f + 1) r p = (r + 1, -1) := by
  show scn _ _ _ _ _ (f + 1) r p = _
  rw [scn, if_neg hmx, if_neg (by rw [hW]; decide), if_neg (by omega)]
theorem scT2_bad {B : Nat → Int32} {len f r p : Nat} (hmx : ¬ r = 15) (hW : rW2 B len p = false) : scT B 2 len (f + 1) r p = (0, nI (rE2 B len p)) := by
  show scn _ _ _ _ _ (f + 1) r p = _
  rw [scn, if_neg hmx, if_pos hW]
theorem scT2_sep {B : Nat → Int32} {len f r p : Nat} (hmx : ¬ r = 15) (hW : rW2 B len p = true) (hlt : ¬ len ≤ rE2 B len p) (hs : ¬ bA B 2 len (rE2 B len p) = nI 59) : scT B 2 len (f + 1) r p = (0, nI (rE2 B len p)) := by
  show scn _ _ _ _ _ (f + 1) r p = _
  rw [scn, if_neg hmx, if_neg (by rw [hW]; decide), if_pos (by omega), if_neg (by simp [sepA, hs])]
theorem rows_next2 {B : Nat → Int32} {len r p : Nat} {y z : Nat → Int32} (hps : psT B 2 len r = p) (hyy : ∀ j, j < r → ∀ k, k < 4 → y (4 * j + k) = fC B len j k) (ho : ∀ j, j < 4 * r → z j = y j) (hi : ∀ k, k < 4 → z (4 * r + k) = (if k = 3 then (if bA B 2 len (p + 3) = nI 63 then tlC 3 (bA B 2 len (p + 4)) else -1) else tlC k (bA B 2 len (p + k)))) : ∀ j, j < r + 1 → ∀ k, k < 4 → z (4 * j + k) = fC B len j k := by
  intro j hj k hk
  rcases Nat.lt_or_ge j r with q | q
  · rw [ho _ (by omega)]; exact hyy j q k hk
  · obtain rfl : j = r := by omega
    rw [hi k hk]; unfold fC; rw [hps]
theorem rE0_ge (B : Nat → Int32) (len p : Nat) (h : rW0 B len p = true) : p + 5 ≤ rE0 B len p := by
  have := of_decide_eq_true h; unfold rE0; omega
theorem rE1_ge (B : Nat → Int32) (len p : Nat) (h : rW1 B len p = true) : p + 3 ≤ rE1 B len p := by
  have := of_decide_eq_true h; unfold rE1; omega
theorem rE2_ge (B : Nat → Int32) (len p : Nat) (h : rW2 B len p = true) : p + 3 ≤ rE2 B len p := by
  unfold rW2 at h
  have := of_decide_eq_true (Bool.and_eq_true_iff.mp h).1
  unfold rE2
  rw [if_pos this]
  split
  · split <;> omega
  · omega
theorem th2_a {f0 g : Nat → Int32} {r : Nat} {x : Int32} : ∀ j, j < 4 * r → upd (fb_put f0 g (4 * r) 3) (4 * r + 3) x j = f0 j := fun j hj => (pk_un (by omega)).trans (fb_put_out (Or.inl hj))
theorem th2_b {f0 g cv : Nat → Int32} {r : Nat} {x : Int32} (h : ∀ k, k < 3 → g k = cv k) (h3 : x = cv 3) : ∀ k, k < 4 → upd (fb_put f0 g (4 * r) 3) (4 * r + 3) x (4 * r + k) = cv k := by
  intro k hk
  rcases Nat.lt_or_ge k 3 with q | q
  · rw [pk_un (by omega), fb_put_in (by omega) (by omega), Nat.add_sub_cancel_left]
    exact h k q
  · obtain rfl : k = 3 := by omega
    rw [pk_us]; exact h3
theorem mW_n7 {G : GT} {o : Nat} {a : Nat → Nat} {s : Nat → Nat → Int32} {v : Int32} (h : s 7 0 = v) : mW G o a s = mW G o a (su 7 s (fun _ => v)) := by subst h; rfl
set_option maxRecDepth 100000 in
set_option maxHeartbeats 1000000 in
theorem j_X12_thing0 {G : GT} (o : Nat) (a : Nat → Nat) (s : Nat → Nat → Int32) (len r p : Nat) (hlen : s 6 0 = nI len) (hl59 : len ≤ 59) (hp : s 7 0 = nI p) (hp99 : p ≤ 60) (hr : s 8 0 = nI r) (hrx : r < 8) {Q : Option Value → va_W → Prop} (hq : ∀ (v_ : Int32) (w_ : va_W) (y : Nat → Int32), v_ = bI (rW0 (s 5) len p) → w_ = mW G o a (su 9 (su 8 (su 7 s (fun _ => nI (rE0 (s 5) len p))) (upd (s 8) 0 (nI (r + cond (rW0 (s 5) len p) 1 0)))) y) → (∀ j, j < 5 * r → y j = s 9 j) → (rW0 (s 5) len p = true → ∀ k, k < 5 → y (5 * r + k) = tlH k (bA (s 5) 0 len (p + k))) → Q (some (.int v_)) w_) : J G "readsThing" RX12 cX12_readsThing 5 (some .boolean) 0 0 4 Q 0 0 0 [(0, .ref o), (1, .int (nI 0))] [] (mW G o a s) := by
  refine J_ws (mW_n7 hp) ?_
  refine J_iload_n dX12_readsThing_0 rfl rfl ?_
  refine J_iconst (v := nI 2) dX12_readsThing_1 (by decide) ?_
  refine J_icmp_ge 27 dX12_readsThing_2 (by decide) (fun c => absurd c (by decide)) (fun _ => ?_)
  refine J_aload_n dX12_readsThing_5 rfl rfl ?_
  refine Mg_8 dX12_readsThing_6 ?_
  refine J_iload_n dX12_readsThing_9 rfl rfl ?_
  refine Ml_8 (s := (su 7 s (fun _ => nI p))) (s 8) rfl 0 rfl (by omega) dX12_readsThing_10 ?_
  refine J_rw (y := nI r) hr ?_
  refine J_iload_n dX12_readsThing_11 rfl rfl ?_
  refine J_if_ne 20 dX12_readsThing_12 (by decide) (fun c => absurd c (by decide)) (fun _ => ?_)
  refine J_bipush (v := nI 8) dX12_readsThing_15 (by decide) ?_
  refine J_goto 22 dX12_readsThing_17 (by decide) ?_
  refine J_icmp_neN 27 (by omega) (by omega) dX12_readsThing_22 (by decide) (fun _ => ?_) (fun c => absurd c (by omega))
  refine J_iload_n dX12_readsThing_27 rfl rfl ?_
  refine J_if_ne 35 dX12_readsThing_28 (by decide) (fun c => absurd c (by decide)) (fun _ => ?_)
  refine J_iconst (v := nI 5) dX12_readsThing_31 (by decide) ?_
  refine J_goto 36 dX12_readsThing_32 (by decide) ?_
  refine J_istore_n [(0, .ref o), (1, .int (nI 0)), (2, .int (nI 5))] dX12_readsThing_36 rfl (by decide) rfl rfl rfl ?_
  refine J_iconst (v := nI 1) dX12_readsThing_37 (by decide) ?_
  refine J_istore_n [(0, .ref o), (1, .int (nI 0)), (2, .int (nI 5)), (3, .int (nI 1))] dX12_readsThing_38 rfl (by decide) rfl rfl rfl ?_
  refine J_iconst (v := nI 0) dX12_readsThing_39 (by decide) ?_
  refine J_istore [(0, .ref o), (1, .int (nI 0)), (2, .int (nI 5)), (3, .int (nI 1)), (4, .int (nI 0))] dX12_readsThing_40 (by decide) rfl rfl rfl ?_
  have L42 : ∀ (f k : Nat), 5 - k < f → k ≤ 5 → (∀ j, j < k → ¬ tlH j (bA (s 5) 0 len (p + j)) = -9) → ∀ (x4 : Int32) (y7 : Nat → Int32) (y9 : Nat → Int32), x4 = nI k → y7 = (fun _ => nI (p + k)) → y9 = (fb_put (s 9) (fun k => tlH k (bA (s 5) 0 len (p + k))) (5 * r) k) → J G "readsThing" RX12 cX12_readsThing 5 (some .boolean) 0 0 4 Q 0 0 42 [(0, .ref o), (1, .int (nI 0)), (2, .int (nI 5)), (3, .int (nI 1)), (4, .int x4)] [] (mW G o a (su 9 (su 7 s y7) y9)) := by
    intro f
    induction f with
    | zero => intro k h; exact absurd h (Nat.not_lt_zero _)
    | succ f ih =>
      intro k hf42 hle42 hgd x4 y7 y9 e4 g7 g9
      subst e4
      subst g7
      subst g9
      refine J_iload dX12_readsThing_42 rfl ?_
      refine J_iload_n dX12_readsThing_44 rfl rfl ?_
      refine J_icmp_geN 76 (by omega) (by omega) dX12_readsThing_45 (by decide) (fun kcz1 => ?_) (fun kcz1 => ?_)
      · have hk5 : k = 5 := (by omega)
        have hfb := fbd_all (hk5 ▸ hgd)
        refine J_iload_n dX12_readsThing_76 rfl rfl ?_
        refine J_if_eq 138 dX12_readsThing_77 (by decide) (fun c => absurd c (by decide)) (fun _ => ?_)
        refine J_iload_n dX12_readsThing_80 rfl rfl ?_
        refine J_iconst (v := nI 2) dX12_readsThing_81 (by decide) ?_
        refine J_icmp_ne 138 dX12_readsThing_82 (by decide) (fun _ => ?_) (fun c => absurd c (by decide))
        refine J_aload_n dX12_readsThing_138 rfl rfl ?_
        refine Mg_8 dX12_readsThing_139 ?_
        refine J_iload_n dX12_readsThing_142 rfl rfl ?_
        refine J_dup2 dX12_readsThing_143 rfl rfl ?_
        refine Ml_8 (s := (su 9 (su 7 s (fun _ => nI (p + k))) (fb_put (s 9) (fun k => tlH k (bA (s 5) 0 len (p + k))) (5 * r) k))) (s 8) rfl 0 rfl (by omega) dX12_readsThing_144 ?_
        refine J_rw (y := nI r) hr ?_
        refine J_iload_n dX12_readsThing_145 rfl rfl ?_
        refine J_if_eq 153 dX12_readsThing_146 (by decide) (fun c => absurd c (by decide)) (fun _ => ?_)
        refine J_iconst (v := nI 1) dX12_readsThing_149 (by decide) ?_
        refine J_goto 154 dX12_readsThing_150 (by decide) ?_
        refine J_iaddN dX12_readsThing_154 ?_
        refine Ms_8 (s := (su 9 (su 7 s (fun _ => nI (p + k))) (fb_put (s 9) (fun k => tlH k (bA (s 5) 0 len (p + k))) (5 * r) k))) (s 8) rfl 0 rfl (by omega) dX12_readsThing_155 ?_
        refine J_ws (ws2 := (mW G o a (su 9 (su 8 (su 7 s (fun _ => nI (p + k))) (upd (s 8) 0 (nI (r + 1)))) (fb_put (s 9) (fun k => tlH k (bA (s 5) 0 len (p + k))) (5 * r) k)))) (congrArg (mW G o a) (su_sw (by decide))) ?_
        refine J_iload_n dX12_readsThing_156 rfl rfl ?_
        exact J_zretB (b := true) dX12_readsThing_157 rfl rfl rfl (hq _ _ (fb_put (s 9) (fun k => tlH k (bA (s 5) 0 len (p + k))) (5 * r) k) (by simp [rW0, hfb]) (by simp only [rW0, rE0, hfb]; subst hk5; rfl) (fun j hj => fb_put_out (Or.inl hj)) (fun _ k hk => (fb_put_in (Nat.le_add_right _ _) (by omega)).trans (by rw [Nat.add_sub_cancel_left])))
      · refine J_iload_n dX12_readsThing_48 rfl rfl ?_
        refine J_if_eq 76 dX12_readsThing_49 (by decide) (fun c => absurd c (by decide)) (fun _ => ?_)
        by_cases ksz2 : tlH k (bA (s 5) 0 len (p + k)) = -9
        · refine J_aload_n dX12_readsThing_52 rfl rfl ?_
          refine J_iload_n dX12_readsThing_53 rfl rfl ?_
          refine J_iload dX12_readsThing_54 rfl ?_
          refine J_cVi (x := yX12_in) [.int (nI 0), .int (nI k)] 0 mv_X12_112 (c_X12_put0_bad o a (su 9 (su 7 s (fun _ => nI (p + k))) (fb_put (s 9) (fun k => tlH k (bA (s 5) 0 len (p + k))) (5 * r) k)) len r (p + k) hlen hl59 rfl (by omega) hr k (by omega) (by omega) ksz2) mW_0 rfl rfl (by decide) (Nat.le_of_ble_eq_true rfl) ⟨Nat.le_refl _, Nat.le_refl _⟩ dX12_readsThing_56 ?_
          refine J_bipush (v := -9) dX12_readsThing_59 (by decide) ?_
          refine J_icmp_eq 68 dX12_readsThing_61 (by decide) (fun _ => ?_) (fun c => absurd c (by decide))
          refine J_iconst (v := nI 0) dX12_readsThing_68 (by decide) ?_
          refine J_istore_n [(0, .ref o), (1, .int (nI 0)), (2, .int (nI 5)), (3, .int (nI 0)), (4, .int (nI k))] dX12_readsThing_69 rfl (by decide) rfl rfl rfl ?_
          refine J_iincN [(0, .ref o), (1, .int (nI 0)), (2, .int (nI 5)), (3, .int (nI 0)), (4, .int (nI (k + 1)))] dX12_readsThing_70 rfl (by decide) rfl rfl rfl ?_
          refine J_goto 42 dX12_readsThing_73 (by decide) ?_
          refine J_iload dX12_readsThing_42 rfl ?_
          refine J_iload_n dX12_readsThing_44 rfl rfl ?_
          refine J_icmp_geN 76 (by omega) (by omega) dX12_readsThing_45 (by decide) (fun kcz3 => ?_) (fun kcz3 => ?_)
          · have hfb := fbd_at (n := 5) (by omega) hgd ksz2
            refine J_iload_n dX12_readsThing_76 rfl rfl ?_
            refine J_if_eq 138 dX12_readsThing_77 (by decide) (fun _ => ?_) (fun c => absurd c (by decide))
            refine J_aload_n dX12_readsThing_138 rfl rfl ?_
            refine Mg_8 dX12_readsThing_139 ?_
            refine J_iload_n dX12_readsThing_142 rfl rfl ?_
            refine J_dup2 dX12_readsThing_143 rfl rfl ?_
            refine Ml_8 (s := (su 9 (su 7 s (fun _ => nI (p + k))) (fb_put (s 9) (fun k => tlH k (bA (s 5) 0 len (p + k))) (5 * r) k))) (s 8) rfl 0 rfl (by omega) dX12_readsThing_144 ?_
            refine J_rw (y := nI r) hr ?_
            refine J_iload_n dX12_readsThing_145 rfl rfl ?_
            refine J_if_eq 153 dX12_readsThing_146 (by decide) (fun _ => ?_) (fun c => absurd c (by decide))
            refine J_iconst (v := nI 0) dX12_readsThing_153 (by decide) ?_
            refine J_iaddN dX12_readsThing_154 ?_
            refine Ms_8 (s := (su 9 (su 7 s (fun _ => nI (p + k))) (fb_put (s 9) (fun k => tlH k (bA (s 5) 0 len (p + k))) (5 * r) k))) (s 8) rfl 0 rfl (by omega) dX12_readsThing_155 ?_
            refine J_ws (ws2 := (mW G o a (su 9 (su 8 (su 7 s (fun _ => nI (p + k))) (upd (s 8) 0 (nI (r + 0)))) (fb_put (s 9) (fun k => tlH k (bA (s 5) 0 len (p + k))) (5 * r) k)))) (congrArg (mW G o a) (su_sw (by decide))) ?_
            refine J_iload_n dX12_readsThing_156 rfl rfl ?_
            exact J_zretB (b := false) dX12_readsThing_157 rfl rfl rfl (hq _ _ (fb_put (s 9) (fun k => tlH k (bA (s 5) 0 len (p + k))) (5 * r) k) (by rw [rW0, hfb, decide_eq_false (by omega)]) (by simp only [rW0, rE0, hfb]; rw [decide_eq_false (by omega)]; rfl) (fun j hj => fb_put_out (Or.inl hj)) (fun h => absurd h (by rw [rW0, hfb, decide_eq_false (by omega)]; decide)))
          · refine J_iload_n dX12_readsThing_48 rfl rfl ?_
            refine J_if_eq 76 dX12_readsThing_49 (by decide) (fun _ => ?_) (fun c => absurd c (by decide))
            have hfb := fbd_at (n := 5) (by omega) hgd ksz2
            refine J_iload_n dX12_readsThing_76 rfl rfl ?_
            refine J_if_eq 138 dX12_readsThing_77 (by decide) (fun _ => ?_) (fun c => absurd c (by decide))
            refine J_aload_n dX12_readsThing_138 rfl rfl ?_
            refine Mg_8 dX12_readsThing_139 ?_
            refine J_iload_n dX12_readsThing_142 rfl rfl ?_
            refine J_dup2 dX12_readsThing_143 rfl rfl ?_
            refine Ml_8 (s := (su 9 (su 7 s (fun _ => nI (p + k))) (fb_put (s 9) (fun k => tlH k (bA (s 5) 0 len (p + k))) (5 * r) k))) (s 8) rfl 0 rfl (by omega) dX12_readsThing_144 ?_
            refine J_rw (y := nI r) hr ?_
            refine J_iload_n dX12_readsThing_145 rfl rfl ?_
            refine J_if_eq 153 dX12_readsThing_146 (by decide) (fun _ => ?_) (fun c => absurd c (by decide))
            refine J_iconst (v := nI 0) dX12_readsThing_153 (by decide) ?_
            refine J_iaddN dX12_readsThing_154 ?_
            refine Ms_8 (s := (su 9 (su 7 s (fun _ => nI (p + k))) (fb_put (s 9) (fun k => tlH k (bA (s 5) 0 len (p + k))) (5 * r) k))) (s 8) rfl 0 rfl (by omega) dX12_readsThing_155 ?_
            refine J_ws (ws2 := (mW G o a (su 9 (su 8 (su 7 s (fun _ => nI (p + k))) (upd (s 8) 0 (nI (r + 0)))) (fb_put (s 9) (fun k => tlH k (bA (s 5) 0 len (p + k))) (5 * r) k)))) (congrArg (mW G o a) (su_sw (by decide))) ?_
            refine J_iload_n dX12_readsThing_156 rfl rfl ?_
            exact J_zretB (b := false) dX12_readsThing_157 rfl rfl rfl (hq _ _ (fb_put (s 9) (fun k => tlH k (bA (s 5) 0 len (p + k))) (5 * r) k) (by rw [rW0, hfb, decide_eq_false (by omega)]) (by simp only [rW0, rE0, hfb]; rw [decide_eq_false (by omega)]; rfl) (fun j hj => fb_put_out (Or.inl hj)) (fun h => absurd h (by rw [rW0, hfb, decide_eq_false (by omega)]; decide)))
        · refine J_aload_n dX12_readsThing_52 rfl rfl ?_
          refine J_iload_n dX12_readsThing_53 rfl rfl ?_
          refine J_iload dX12_readsThing_54 rfl ?_
          refine J_cVi (x := yX12_in) [.int (nI 0), .int (nI k)] 0 mv_X12_112 (c_X12_put0_ok o a (su 9 (su 7 s (fun _ => nI (p + k))) (fb_put (s 9) (fun k => tlH k (bA (s 5) 0 len (p + k))) (5 * r) k)) len r (p + k) hlen hl59 rfl (by omega) hr k (by omega) (by omega) ksz2) mW_0 rfl rfl (by decide) (Nat.le_of_ble_eq_true rfl) ⟨Nat.le_refl _, Nat.le_refl _⟩ dX12_readsThing_56 ?_
          show J G "readsThing" RX12 cX12_readsThing 5 (some .boolean) 0 0 4 Q 0 0 59 [(0, .ref o), (1, .int (nI 0)), (2, .int (nI 5)), (3, .int (nI 1)), (4, .int (nI k))] [.int (tlH k (bA (s 5) 0 len (p + k)))] (mW G o a (su 9 (su 7 (su 9 (su 7 s (fun _ => nI (p + k))) (fb_put (s 9) (fun k => tlH k (bA (s 5) 0 len (p + k))) (5 * r) k)) (fun _ => nI ((p + k) + 1))) (upd (fb_put (s 9) (fun k => tlH k (bA (s 5) 0 len (p + k))) (5 * r) k) (5 * r + k) (tlH k (bA (s 5) 0 len (p + k))))))
          refine J_ws (ws2 := (mW G o a (su 9 (su 7 s (fun _ => nI ((p + k) + 1))) (upd (fb_put (s 9) (fun k => tlH k (bA (s 5) 0 len (p + k))) (5 * r) k) (5 * r + k) (tlH k (bA (s 5) 0 len (p + k))))))) (congrArg (mW G o a) (Eq.trans (su_cg ((su_sw (by decide)).trans (su_cg su_tw))) su_tw)) ?_
          refine J_bipush (v := -9) dX12_readsThing_59 (by decide) ?_
          refine J_icmp_eq 68 dX12_readsThing_61 (by decide) (fun c => absurd c ksz2) (fun _ => ?_)
          refine J_iconst (v := nI 1) dX12_readsThing_64 (by decide) ?_
          refine J_goto 69 dX12_readsThing_65 (by decide) ?_
          refine J_istore_n [(0, .ref o), (1, .int (nI 0)), (2, .int (nI 5)), (3, .int (nI 1)), (4, .int (nI k))] dX12_readsThing_69 rfl (by decide) rfl rfl rfl ?_
          refine J_iincN [(0, .ref o), (1, .int (nI 0)), (2, .int (nI 5)), (3, .int (nI 1)), (4, .int (nI (k + 1)))] dX12_readsThing_70 rfl (by decide) rfl rfl rfl ?_
          refine J_goto 42 dX12_readsThing_73 (by decide) ?_
          exact ih (k + 1) (by omega) (by omega) (lt_s hgd ksz2) _ _ _ rfl rfl (fb_put_succ _ _ _ _)
  exact L42 6 0 (by omega) (by omega) lt_0 _ _ _ rfl rfl (fb_put_0 _ _ _).symm
theorem c_X12_thing0 {G : GT} (o : Nat) (a : Nat → Nat) (s : Nat → Nat → Int32) (len r p : Nat) (hlen : s 6 0 = nI len) (hl59 : len ≤ 59) (hp : s 7 0 = nI p) (hp99 : p ≤ 60) (hr : s 8 0 = nI r) (hrx : r < 8) : Ct G yX12_readsThing cX12_readsThing 5 (some .boolean) 0 0 4 [.ref o, .int (nI 0)] (mW G o a s) (fun v w => ∃ y : Nat → Int32, v = some (.int (bI (rW0 (s 5) len p))) ∧ w = mW G o a (su 9 (su 8 (su 7 s (fun _ => nI (rE0 (s 5) len p))) (upd (s 8) 0 (nI (r + cond (rW0 (s 5) len p) 1 0)))) y) ∧ (∀ j, j < 5 * r → y j = s 9 j) ∧ (rW0 (s 5) len p = true → ∀ k, k < 5 → y (5 * r + k) = tlH k (bA (s 5) 0 len (p + k)))) := Ct.of rfl (Nat.le_of_ble_eq_true rfl) (j_X12_thing0 o a s len r p hlen hl59 hp hp99 hr hrx (fun v_ w_ y h1 h2 h3 h4 => ⟨y, by rw [h1], h2, h3, h4⟩))
set_option maxRecDepth 100000 in
set_option maxHeartbeats 1000000 in
theorem j_X12_thing1 {G : GT} (o : Nat) (a : Nat → Nat) (s : Nat → Nat → Int32) (len r p : Nat) (hlen : s 6 1 = nI len) (hl59 : len ≤ 59) (hp : s 7 0 = nI p) (hp99 : p ≤ 60) (hr : s 8 1 = nI r) (hrx : r < 6) {Q : Option Value → va_W → Prop} (hq : ∀ (v_ : Int32) (w_ : va_W) (y : Nat → Int32), v_ = bI (rW1 (s 5) len p) → w_ = mW G o a (su 10 (su 8 (su 7 s (fun _ => nI (rE1 (s 5) len p))) (upd (s 8) 1 (nI (r + cond (rW1 (s 5) len p) 1 0)))) y) → (∀ j, j < 3 * r → y j = s 10 j) → (rW1 (s 5) len p = true → ∀ k, k < 3 → y (3 * r + k) = tlE k (bA (s 5) 1 len (p + k))) → Q (some (.int v_)) w_) : J G "readsThing" RX12 cX12_readsThing 5 (some .boolean) 0 0 4 Q 0 0 0 [(0, .ref o), (1, .int (nI 1))] [] (mW G o a s) := by
  refine J_ws (mW_n7 hp) ?_
  refine J_iload_n dX12_readsThing_0 rfl rfl ?_
  refine J_iconst (v := nI 2) dX12_readsThing_1 (by decide) ?_
  refine J_icmp_ge 27 dX12_readsThing_2 (by decide) (fun c => absurd c (by decide)) (fun _ => ?_)
  refine J_aload_n dX12_readsThing_5 rfl rfl ?_
  refine Mg_8 dX12_readsThing_6 ?_
  refine J_iload_n dX12_readsThing_9 rfl rfl ?_
  refine Ml_8 (s := (su 7 s (fun _ => nI p))) (s 8) rfl 1 rfl (by omega) dX12_readsThing_10 ?_
  refine J_rw (y := nI r) hr ?_
  refine J_iload_n dX12_readsThing_11 rfl rfl ?_
  refine J_if_ne 20 dX12_readsThing_12 (by decide) (fun _ => ?_) (fun c => absurd c (by decide))
  refine J_bipush (v := nI 6) dX12_readsThing_20 (by decide) ?_
  refine J_icmp_neN 27 (by omega) (by omega) dX12_readsThing_22 (by decide) (fun _ => ?_) (fun c => absurd c (by omega))
  refine J_iload_n dX12_readsThing_27 rfl rfl ?_
  refine J_if_ne 35 dX12_readsThing_28 (by decide) (fun _ => ?_) (fun c => absurd c (by decide))
  refine J_iconst (v := nI 3) dX12_readsThing_35 (by decide) ?_
  refine J_istore_n [(0, .ref o), (1, .int (nI 1)), (2, .int (nI 3))] dX12_readsThing_36 rfl (by decide) rfl rfl rfl ?_
  refine J_iconst (v := nI 1) dX12_readsThing_37 (by decide) ?_
  refine J_istore_n [(0, .ref o), (1, .int (nI 1)), (2, .int (nI 3)), (3, .int (nI 1))] dX12_readsThing_38 rfl (by decide) rfl rfl rfl ?_
  refine J_iconst (v := nI 0) dX12_readsThing_39 (by decide) ?_
  refine J_istore [(0, .ref o), (1, .int (nI 1)), (2, .int (nI 3)), (3, .int (nI 1)), (4, .int (nI 0))] dX12_readsThing_40 (by decide) rfl rfl rfl ?_
  have L42 : ∀ (f k : Nat), 3 - k < f → k ≤ 3 → (∀ j, j < k → ¬ tlE j (bA (s 5) 1 len (p + j)) = -9) → ∀ (x4 : Int32) (y7 : Nat → Int32) (y10 : Nat → Int32), x4 = nI k → y7 = (fun _ => nI (p + k)) → y10 = (fb_put (s 10) (fun k => tlE k (bA (s 5) 1 len (p + k))) (3 * r) k) → J G "readsThing" RX12 cX12_readsThing 5 (some .boolean) 0 0 4 Q 0 0 42 [(0, .ref o), (1, .int (nI 1)), (2, .int (nI 3)), (3, .int (nI 1)), (4, .int x4)] [] (mW G o a (su 10 (su 7 s y7) y10)) := by
    intro f
    induction f with
    | zero => intro k h; exact absurd h (Nat.not_lt_zero _)
    | succ f ih =>
      intro k hf42 hle42 hgd x4 y7 y10 e4 g7 g10
      subst e4
      subst g7
      subst g10
      refine J_iload dX12_readsThing_42 rfl ?_
      refine J_iload_n dX12_readsThing_44 rfl rfl ?_
      refine J_icmp_geN 76 (by omega) (by omega) dX12_readsThing_45 (by decide) (fun kcz1 => ?_) (fun kcz1 => ?_)
      · have hk5 : k = 3 := (by omega)
        have hfb := fbd_all (hk5 ▸ hgd)
        refine J_iload_n dX12_readsThing_76 rfl rfl ?_
        refine J_if_eq 138 dX12_readsThing_77 (by decide) (fun c => absurd c (by decide)) (fun _ => ?_)
        refine J_iload_n dX12_readsThing_80 rfl rfl ?_
        refine J_iconst (v := nI 2) dX12_readsThing_81 (by decide) ?_
        refine J_icmp_ne 138 dX12_readsThing_82 (by decide) (fun _ => ?_) (fun c => absurd c (by decide))
        refine J_aload_n dX12_readsThing_138 rfl rfl ?_
        refine Mg_8 dX12_readsThing_139 ?_
        refine J_iload_n dX12_readsThing_142 rfl rfl ?_
        refine J_dup2 dX12_readsThing_143 rfl rfl ?_
        refine Ml_8 (s := (su 10 (su 7 s (fun _ => nI (p + k))) (fb_put (s 10) (fun k => tlE k (bA (s 5) 1 len (p + k))) (3 * r) k))) (s 8) rfl 1 rfl (by omega) dX12_readsThing_144 ?_
        refine J_rw (y := nI r) hr ?_
        refine J_iload_n dX12_readsThing_145 rfl rfl ?_
        refine J_if_eq 153 dX12_readsThing_146 (by decide) (fun c => absurd c (by decide)) (fun _ => ?_)
        refine J_iconst (v := nI 1) dX12_readsThing_149 (by decide) ?_
        refine J_goto 154 dX12_readsThing_150 (by decide) ?_
        refine J_iaddN dX12_readsThing_154 ?_
        refine Ms_8 (s := (su 10 (su 7 s (fun _ => nI (p + k))) (fb_put (s 10) (fun k => tlE k (bA (s 5) 1 len (p + k))) (3 * r) k))) (s 8) rfl 1 rfl (by omega) dX12_readsThing_155 ?_
        refine J_ws (ws2 := (mW G o a (su 10 (su 8 (su 7 s (fun _ => nI (p + k))) (upd (s 8) 1 (nI (r + 1)))) (fb_put (s 10) (fun k => tlE k (bA (s 5) 1 len (p + k))) (3 * r) k)))) (congrArg (mW G o a) (su_sw (by decide))) ?_
        refine J_iload_n dX12_readsThing_156 rfl rfl ?_
        exact J_zretB (b := true) dX12_readsThing_157 rfl rfl rfl (hq _ _ (fb_put (s 10) (fun k => tlE k (bA (s 5) 1 len (p + k))) (3 * r) k) (by simp [rW1, hfb]) (by simp only [rW1, rE1, hfb]; subst hk5; rfl) (fun j hj => fb_put_out (Or.inl hj)) (fun _ k hk => (fb_put_in (Nat.le_add_right _ _) (by omega)).trans (by rw [Nat.add_sub_cancel_left])))
      · refine J_iload_n dX12_readsThing_48 rfl rfl ?_
        refine J_if_eq 76 dX12_readsThing_49 (by decide) (fun c => absurd c (by decide)) (fun _ => ?_)
        by_cases ksz2 : tlE k (bA (s 5) 1 len (p + k)) = -9
        · refine J_aload_n dX12_readsThing_52 rfl rfl ?_
          refine J_iload_n dX12_readsThing_53 rfl rfl ?_
          refine J_iload dX12_readsThing_54 rfl ?_
          refine J_cVi (x := yX12_in) [.int (nI 1), .int (nI k)] 0 mv_X12_112 (c_X12_put1_bad o a (su 10 (su 7 s (fun _ => nI (p + k))) (fb_put (s 10) (fun k => tlE k (bA (s 5) 1 len (p + k))) (3 * r) k)) len r (p + k) hlen hl59 rfl (by omega) hr k (by omega) (by omega) ksz2) mW_0 rfl rfl (by decide) (Nat.le_of_ble_eq_true rfl) ⟨Nat.le_refl _, Nat.le_refl _⟩ dX12_readsThing_56 ?_
          refine J_bipush (v := -9) dX12_readsThing_59 (by decide) ?_
          refine J_icmp_eq 68 dX12_readsThing_61 (by decide) (fun _ => ?_) (fun c => absurd c (by decide))
          refine J_iconst (v := nI 0) dX12_readsThing_68 (by decide) ?_
          refine J_istore_n [(0, .ref o), (1, .int (nI 1)), (2, .int (nI 3)), (3, .int (nI 0)), (4, .int (nI k))] dX12_readsThing_69 rfl (by decide) rfl rfl rfl ?_
          refine J_iincN [(0, .ref o), (1, .int (nI 1)), (2, .int (nI 3)), (3, .int (nI 0)), (4, .int (nI (k + 1)))] dX12_readsThing_70 rfl (by decide) rfl rfl rfl ?_
          refine J_goto 42 dX12_readsThing_73 (by decide) ?_
          refine J_iload dX12_readsThing_42 rfl ?_
          refine J_iload_n dX12_readsThing_44 rfl rfl ?_
          refine J_icmp_geN 76 (by omega) (by omega) dX12_readsThing_45 (by decide) (fun kcz3 => ?_) (fun kcz3 => ?_)
          · have hfb := fbd_at (n := 3) (by omega) hgd ksz2
            refine J_iload_n dX12_readsThing_76 rfl rfl ?_
            refine J_if_eq 138 dX12_readsThing_77 (by decide) (fun _ => ?_) (fun c => absurd c (by decide))
            refine J_aload_n dX12_readsThing_138 rfl rfl ?_
            refine Mg_8 dX12_readsThing_139 ?_
            refine J_iload_n dX12_readsThing_142 rfl rfl ?_
            refine J_dup2 dX12_readsThing_143 rfl rfl ?_
            refine Ml_8 (s := (su 10 (su 7 s (fun _ => nI (p + k))) (fb_put (s 10) (fun k => tlE k (bA (s 5) 1 len (p + k))) (3 * r) k))) (s 8) rfl 1 rfl (by omega) dX12_readsThing_144 ?_
            refine J_rw (y := nI r) hr ?_
            refine J_iload_n dX12_readsThing_145 rfl rfl ?_
            refine J_if_eq 153 dX12_readsThing_146 (by decide) (fun _ => ?_) (fun c => absurd c (by decide))
            refine J_iconst (v := nI 0) dX12_readsThing_153 (by decide) ?_
            refine J_iaddN dX12_readsThing_154 ?_
            refine Ms_8 (s := (su 10 (su 7 s (fun _ => nI (p + k))) (fb_put (s 10) (fun k => tlE k (bA (s 5) 1 len (p + k))) (3 * r) k))) (s 8) rfl 1 rfl (by omega) dX12_readsThing_155 ?_
            refine J_ws (ws2 := (mW G o a (su 10 (su 8 (su 7 s (fun _ => nI (p + k))) (upd (s 8) 1 (nI (r + 0)))) (fb_put (s 10) (fun k => tlE k (bA (s 5) 1 len (p + k))) (3 * r) k)))) (congrArg (mW G o a) (su_sw (by decide))) ?_
            refine J_iload_n dX12_readsThing_156 rfl rfl ?_
            exact J_zretB (b := false) dX12_readsThing_157 rfl rfl rfl (hq _ _ (fb_put (s 10) (fun k => tlE k (bA (s 5) 1 len (p + k))) (3 * r) k) (by rw [rW1, hfb, decide_eq_false (by omega)]) (by simp only [rW1, rE1, hfb]; rw [decide_eq_false (by omega)]; rfl) (fun j hj => fb_put_out (Or.inl hj)) (fun h => absurd h (by rw [rW1, hfb, decide_eq_false (by omega)]; decide)))
          · refine J_iload_n dX12_readsThing_48 rfl rfl ?_
            refine J_if_eq 76 dX12_readsThing_49 (by decide) (fun _ => ?_) (fun c => absurd c (by decide))
            have hfb := fbd_at (n := 3) (by omega) hgd ksz2
            refine J_iload_n dX12_readsThing_76 rfl rfl ?_
            refine J_if_eq 138 dX12_readsThing_77 (by decide) (fun _ => ?_) (fun c => absurd c (by decide))
            refine J_aload_n dX12_readsThing_138 rfl rfl ?_
            refine Mg_8 dX12_readsThing_139 ?_
            refine J_iload_n dX12_readsThing_142 rfl rfl ?_
            refine J_dup2 dX12_readsThing_143 rfl rfl ?_
            refine Ml_8 (s := (su 10 (su 7 s (fun _ => nI (p + k))) (fb_put (s 10) (fun k => tlE k (bA (s 5) 1 len (p + k))) (3 * r) k))) (s 8) rfl 1 rfl (by omega) dX12_readsThing_144 ?_
            refine J_rw (y := nI r) hr ?_
            refine J_iload_n dX12_readsThing_145 rfl rfl ?_
            refine J_if_eq 153 dX12_readsThing_146 (by decide) (fun _ => ?_) (fun c => absurd c (by decide))
            refine J_iconst (v := nI 0) dX12_readsThing_153 (by decide) ?_
            refine J_iaddN dX12_readsThing_154 ?_
            refine Ms_8 (s := (su 10 (su 7 s (fun _ => nI (p + k))) (fb_put (s 10) (fun k => tlE k (bA (s 5) 1 len (p + k))) (3 * r) k))) (s 8) rfl 1 rfl (by omega) dX12_readsThing_155 ?_
            refine J_ws (ws2 := (mW G o a (su 10 (su 8 (su 7 s (fun _ => nI (p + k))) (upd (s 8) 1 (nI (r + 0)))) (fb_put (s 10) (fun k => tlE k (bA (s 5) 1 len (p + k))) (3 * r) k)))) (congrArg (mW G o a) (su_sw (by decide))) ?_
            refine J_iload_n dX12_readsThing_156 rfl rfl ?_
            exact J_zretB (b := false) dX12_readsThing_157 rfl rfl rfl (hq _ _ (fb_put (s 10) (fun k => tlE k (bA (s 5) 1 len (p + k))) (3 * r) k) (by rw [rW1, hfb, decide_eq_false (by omega)]) (by simp only [rW1, rE1, hfb]; rw [decide_eq_false (by omega)]; rfl) (fun j hj => fb_put_out (Or.inl hj)) (fun h => absurd h (by rw [rW1, hfb, decide_eq_false (by omega)]; decide)))
        · refine J_aload_n dX12_readsThing_52 rfl rfl ?_
          refine J_iload_n dX12_readsThing_53 rfl rfl ?_
          refine J_iload dX12_readsThing_54 rfl ?_
          refine J_cVi (x := yX12_in) [.int (nI 1), .int (nI k)] 0 mv_X12_112 (c_X12_put1_ok o a (su 10 (su 7 s (fun _ => nI (p + k))) (fb_put (s 10) (fun k => tlE k (bA (s 5) 1 len (p + k))) (3 * r) k)) len r (p + k) hlen hl59 rfl (by omega) hr k (by omega) (by omega) ksz2) mW_0 rfl rfl (by decide) (Nat.le_of_ble_eq_true rfl) ⟨Nat.le_refl _, Nat.le_refl _⟩ dX12_readsThing_56 ?_
          show J G "readsThing" RX12 cX12_readsThing 5 (some .boolean) 0 0 4 Q 0 0 59 [(0, .ref o), (1, .int (nI 1)), (2, .int (nI 3)), (3, .int (nI 1)), (4, .int (nI k))] [.int (tlE k (bA (s 5) 1 len (p + k)))] (mW G o a (su 10 (su 7 (su 10 (su 7 s (fun _ => nI (p + k))) (fb_put (s 10) (fun k => tlE k (bA (s 5) 1 len (p + k))) (3 * r) k)) (fun _ => nI ((p + k) + 1))) (upd (fb_put (s 10) (fun k => tlE k (bA (s 5) 1 len (p + k))) (3 * r) k) (3 * r + k) (tlE k (bA (s 5) 1 len (p + k))))))
          refine J_ws (ws2 := (mW G o a (su 10 (su 7 s (fun _ => nI ((p + k) + 1))) (upd (fb_put (s 10) (fun k => tlE k (bA (s 5) 1 len (p + k))) (3 * r) k) (3 * r + k) (tlE k (bA (s 5) 1 len (p + k))))))) (congrArg (mW G o a) (Eq.trans (su_cg ((su_sw (by decide)).trans (su_cg su_tw))) su_tw)) ?_
          refine J_bipush (v := -9) dX12_readsThing_59 (by decide) ?_
          refine J_icmp_eq 68 dX12_readsThing_61 (by decide) (fun c => absurd c ksz2) (fun _ => ?_)
          refine J_iconst (v := nI 1) dX12_readsThing_64 (by decide) ?_
          refine J_goto 69 dX12_readsThing_65 (by decide) ?_
          refine J_istore_n [(0, .ref o), (1, .int (nI 1)), (2, .int (nI 3)), (3, .int (nI 1)), (4, .int (nI k))] dX12_readsThing_69 rfl (by decide) rfl rfl rfl ?_
          refine J_iincN [(0, .ref o), (1, .int (nI 1)), (2, .int (nI 3)), (3, .int (nI 1)), (4, .int (nI (k + 1)))] dX12_readsThing_70 rfl (by decide) rfl rfl rfl ?_
          refine J_goto 42 dX12_readsThing_73 (by decide) ?_
          exact ih (k + 1) (by omega) (by omega) (lt_s hgd ksz2) _ _ _ rfl rfl (fb_put_succ _ _ _ _)
  exact L42 4 0 (by omega) (by omega) lt_0 _ _ _ rfl rfl (fb_put_0 _ _ _).symm
theorem c_X12_thing1 {G : GT} (o : Nat) (a : Nat → Nat) (s : Nat → Nat → Int32) (len r p : Nat) (hlen : s 6 1 = nI len) (hl59 : len ≤ 59) (hp : s 7 0 = nI p) (hp99 : p ≤ 60) (hr : s 8 1 = nI r) (hrx : r < 6) : Ct G yX12_readsThing cX12_readsThing 5 (some .boolean) 0 0 4 [.ref o, .int (nI 1)] (mW G o a s) (fun v w => ∃ y : Nat → Int32, v = some (.int (bI (rW1 (s 5) len p))) ∧ w = mW G o a (su 10 (su 8 (su 7 s (fun _ => nI (rE1 (s 5) len p))) (upd (s 8) 1 (nI (r + cond (rW1 (s 5) len p) 1 0)))) y) ∧ (∀ j, j < 3 * r → y j = s 10 j) ∧ (rW1 (s 5) len p = true → ∀ k, k < 3 → y (3 * r + k) = tlE k (bA (s 5) 1 len (p + k)))) := Ct.of rfl (Nat.le_of_ble_eq_true rfl) (j_X12_thing1 o a s len r p hlen hl59 hp hp99 hr hrx (fun v_ w_ y h1 h2 h3 h4 => ⟨y, by rw [h1], h2, h3, h4⟩))
set_option maxRecDepth 100000 in
set_option maxHeartbeats 1000000 in
theorem j_X12_thing2 {G : GT} (o : Nat) (a : Nat → Nat) (s : Nat → Nat → Int32) (len r p : Nat) (hlen : s 6 2 = nI len) (hl59 : len ≤ 59) (hp : s 7 0 = nI p) (hp99 : p ≤ 60) (hr : s 8 2 = nI r) (hrx : r < 15) {Q : Option Value → va_W → Prop} (hq : ∀ (v_ : Int32) (w_ : va_W) (y : Nat → Int32), v_ = bI (rW2 (s 5) len p) → w_ = mW G o a (su 11 (su 8 (su 7 s (fun _ => nI (rE2 (s 5) len p))) (upd (s 8) 2 (nI (r + cond (rW2 (s 5) len p) 1 0)))) y) → (∀ j, j < 4 * r → y j = s 11 j) → (rW2 (s 5) len p = true → ∀ k, k < 4 → y (4 * r + k) = (if k = 3 then (if bA (s 5) 2 len (p + 3) = nI 63 then tlC 3 (bA (s 5) 2 len (p + 4)) else -1) else tlC k (bA (s 5) 2 len (p + k)))) → Q (some (.int v_)) w_) : J G "readsThing" RX12 cX12_readsThing 5 (some .boolean) 0 0 4 Q 0 0 0 [(0, .ref o), (1, .int (nI 2))] [] (mW G o a s) := by
  refine J_ws (mW_n7 hp) ?_
  refine J_iload_n dX12_readsThing_0 rfl rfl ?_
  refine J_iconst (v := nI 2) dX12_readsThing_1 (by decide) ?_
  refine J_icmp_ge 27 dX12_readsThing_2 (by decide) (fun _ => ?_) (fun c => absurd c (by decide))
  refine J_iload_n dX12_readsThing_27 rfl rfl ?_
  refine J_if_ne 35 dX12_readsThing_28 (by decide) (fun _ => ?_) (fun c => absurd c (by decide))
  refine J_iconst (v := nI 3) dX12_readsThing_35 (by decide) ?_
  refine J_istore_n [(0, .ref o), (1, .int (nI 2)), (2, .int (nI 3))] dX12_readsThing_36 rfl (by decide) rfl rfl rfl ?_
  refine J_iconst (v := nI 1) dX12_readsThing_37 (by decide) ?_
  refine J_istore_n [(0, .ref o), (1, .int (nI 2)), (2, .int (nI 3)), (3, .int (nI 1))] dX12_readsThing_38 rfl (by decide) rfl rfl rfl ?_
  refine J_iconst (v := nI 0) dX12_readsThing_39 (by decide) ?_
  refine J_istore [(0, .ref o), (1, .int (nI 2)), (2, .int (nI 3)), (3, .int (nI 1)), (4, .int (nI 0))] dX12_readsThing_40 (by decide) rfl rfl rfl ?_
  have L42 : ∀ (f k : Nat), 3 - k < f → k ≤ 3 → (∀ j, j < k → ¬ tlC j (bA (s 5) 2 len (p + j)) = -9) → ∀ (x4 : Int32) (y7 : Nat → Int32) (y11 : Nat → Int32), x4 = nI k → y7 = (fun _ => nI (p + k)) → y11 = (fb_put (s 11) (fun k => tlC k (bA (s 5) 2 len (p + k))) (4 * r) k) → J G "readsThing" RX12 cX12_readsThing 5 (some .boolean) 0 0 4 Q 0 0 42 [(0, .ref o), (1, .int (nI 2)), (2, .int (nI 3)), (3, .int (nI 1)), (4, .int x4)] [] (mW G o a (su 11 (su 7 s y7) y11)) := by
    intro f
    induction f with
    | zero => intro k h; exact absurd h (Nat.not_lt_zero _)
    | succ f ih =>
      intro k hf42 hle42 hgd x4 y7 y11 e4 g7 g11
      subst e4
      subst g7
      subst g11
      refine J_iload dX12_readsThing_42 rfl ?_
      refine J_iload_n dX12_readsThing_44 rfl rfl ?_
      refine J_icmp_geN 76 (by omega) (by omega) dX12_readsThing_45 (by decide) (fun kcz1 => ?_) (fun kcz1 => ?_)
      · obtain rfl : k = 3 := (by omega)
        have hfb := fbd_all hgd
        refine J_iload_n dX12_readsThing_76 rfl rfl ?_
        refine J_if_eq 138 dX12_readsThing_77 (by decide) (fun c => absurd c (by decide)) (fun _ => ?_)
        refine J_iload_n dX12_readsThing_80 rfl rfl ?_
        refine J_iconst (v := nI 2) dX12_readsThing_81 (by decide) ?_
        refine J_icmp_ne 138 dX12_readsThing_82 (by decide) (fun c => absurd c (by decide)) (fun _ => ?_)
        refine J_aload_n dX12_readsThing_85 rfl rfl ?_
        refine Mg_11 dX12_readsThing_86 ?_
        refine J_iconst (v := nI 4) dX12_readsThing_89 (by decide) ?_
        refine J_aload_n dX12_readsThing_90 rfl rfl ?_
        refine Mg_8 dX12_readsThing_91 ?_
        refine J_iconst (v := nI 2) dX12_readsThing_94 (by decide) ?_
        refine Ml_8 (s := (su 11 (su 7 s (fun _ => nI (p + 3))) (fb_put (s 11) (fun k => tlC k (bA (s 5) 2 len (p + k))) (4 * r) 3))) (s 8) rfl 2 rfl (by omega) dX12_readsThing_95 ?_
        refine J_rw (y := nI r) hr ?_
        refine J_imulN dX12_readsThing_96 ?_
        refine J_iconst (v := nI 3) dX12_readsThing_97 (by decide) ?_
        refine J_iaddN dX12_readsThing_98 ?_
        refine J_iconst (v := -1) dX12_readsThing_99 (by decide) ?_
        refine Ms_11 (s := (su 11 (su 7 s (fun _ => nI (p + 3))) (fb_put (s 11) (fun k => tlC k (bA (s 5) 2 len (p + k))) (4 * r) 3))) (fb_put (s 11) (fun k => tlC k (bA (s 5) 2 len (p + k))) (4 * r) 3) rfl (4 * r + 3) rfl (by omega) dX12_readsThing_100 ?_
        refine J_ws (ws2 := (mW G o a (su 11 (su 7 s (fun _ => nI (p + 3))) (upd (fb_put (s 11) (fun k => tlC k (bA (s 5) 2 len (p + k))) (4 * r) 3) (4 * r + 3) (-1))))) (congrArg (mW G o a) su_tw) ?_
        by_cases ksz2 : bA (s 5) 2 len (p + 3) = nI 63
        · refine J_aload_n dX12_readsThing_101 rfl rfl ?_
          refine J_iconst (v := nI 2) dX12_readsThing_102 (by decide) ?_
          refine J_cVi (x := yX12_in) [.int (nI 2)] 0 mv_X12_100 (c_X12_here o a (su 11 (su 7 s (fun _ => nI (p + 3))) (upd (fb_put (s 11) (fun k => tlC k (bA (s 5) 2 len (p + k))) (4 * r) 3) (4 * r + 3) (-1))) 2 len (p + 3) (by decide) hlen (by omega) rfl (by first | omega | (have := rE0_le (s 5) len p; have := rE1_le (s 5) len p; have := rE2_le (s 5) len p; omega))) mW_0 rfl rfl (by decide) (Nat.le_of_ble_eq_true rfl) ⟨Nat.le_refl _, Nat.le_refl _⟩ dX12_readsThing_103 ?_
          refine J_bipush (v := nI 63) dX12_readsThing_106 (by decide) ?_
          refine J_icmp_ne 138 dX12_readsThing_108 (by decide) (fun c => absurd ksz2 c) (fun _ => ?_)
          refine J_aload_n dX12_readsThing_111 rfl rfl ?_
          refine J_dup dX12_readsThing_112 rfl ?_
          refine Mg_7 (s := (su 11 (su 7 s (fun _ => nI (p + 3))) (upd (fb_put (s 11) (fun k => tlC k (bA (s 5) 2 len (p + k))) (4 * r) 3) (4 * r + 3) (-1)))) (nI (p + 3)) rfl dX12_readsThing_113 ?_
          refine J_iconst (v := nI 1) dX12_readsThing_116 (by decide) ?_
          refine J_iaddN dX12_readsThing_117 ?_
          refine Mp_7 dX12_readsThing_118 ?_
          refine J_ws (ws2 := (mW G o a (su 11 (su 7 s (fun _ => nI (p + 3 + 1))) (upd (fb_put (s 11) (fun k => tlC k (bA (s 5) 2 len (p + k))) (4 * r) 3) (4 * r + 3) (-1))))) (congrArg (mW G o a) ((su_sw (by decide)).trans (su_cg su_tw))) ?_
          by_cases ksz3 : tlC 3 (bA (s 5) 2 len (p + 3 + 1)) = -9
          · refine J_aload_n dX12_readsThing_121 rfl rfl ?_
            refine J_iconst (v := nI 2) dX12_readsThing_122 (by decide) ?_
            refine J_iconst (v := nI 3) dX12_readsThing_123 (by decide) ?_
            have hq4 : tlC 3 (bA (s 5) 2 len (p + 4)) = -9 := ksz3
            refine J_cVi (x := yX12_in) [.int (nI 2), .int (nI 3)] 0 mv_X12_112 (c_X12_put2_bad o a (su 11 (su 7 s (fun _ => nI (p + 3 + 1))) (upd (fb_put (s 11) (fun k => tlC k (bA (s 5) 2 len (p + k))) (4 * r) 3) (4 * r + 3) (-1))) len r (p + 3 + 1) hlen hl59 rfl (by omega) hr 3 (by omega) (by omega) ksz3) mW_0 rfl rfl (by decide) (Nat.le_of_ble_eq_true rfl) ⟨Nat.le_refl _, Nat.le_refl _⟩ dX12_readsThing_124 ?_
            refine J_bipush (v := -9) dX12_readsThing_127 (by decide) ?_
            refine J_icmp_eq 136 dX12_readsThing_129 (by decide) (fun _ => ?_) (fun c => absurd c (by decide))
            refine J_iconst (v := nI 0) dX12_readsThing_136 (by decide) ?_
            refine J_istore_n [(0, .ref o), (1, .int (nI 2)), (2, .int (nI 3)), (3, .int (nI 0)), (4, .int (nI 3))] dX12_readsThing_137 rfl (by decide) rfl rfl rfl ?_
            refine J_aload_n dX12_readsThing_138 rfl rfl ?_
            refine Mg_8 dX12_readsThing_139 ?_
            refine J_iload_n dX12_readsThing_142 rfl rfl ?_
            refine J_dup2 dX12_readsThing_143 rfl rfl ?_
            refine Ml_8 (s := (su 11 (su 7 s (fun _ => nI (p + 3 + 1))) (upd (fb_put (s 11) (fun k => tlC k (bA (s 5) 2 len (p + k))) (4 * r) 3) (4 * r + 3) (-1)))) (s 8) rfl 2 rfl (by omega) dX12_readsThing_144 ?_
            refine J_rw (y := nI r) hr ?_
            refine J_iload_n dX12_readsThing_145 rfl rfl ?_
            refine J_if_eq 153 dX12_readsThing_146 (by decide) (fun _ => ?_) (fun c => absurd c (by decide))
            refine J_iconst (v := nI 0) dX12_readsThing_153 (by decide) ?_
            refine J_iaddN dX12_readsThing_154 ?_
            refine Ms_8 (s := (su 11 (su 7 s (fun _ => nI (p + 3 + 1))) (upd (fb_put (s 11) (fun k => tlC k (bA (s 5) 2 len (p + k))) (4 * r) 3) (4 * r + 3) (-1)))) (s 8) rfl 2 rfl (by omega) dX12_readsThing_155 ?_
            refine J_ws (ws2 := (mW G o a (su 11 (su 8 (su 7 s (fun _ => nI (p + 3 + 1))) (upd (s 8) 2 (nI (r + 0)))) (upd (fb_put (s 11) (fun k => tlC k (bA (s 5) 2 len (p + k))) (4 * r) 3) (4 * r + 3) (-1))))) (congrArg (mW G o a) (su_sw (by decide))) ?_
            refine J_iload_n dX12_readsThing_156 rfl rfl ?_
            exact J_zretB (b := false) dX12_readsThing_157 rfl rfl rfl (hq _ _ (upd (fb_put (s 11) (fun k => tlC k (bA (s 5) 2 len (p + k))) (4 * r) 3) (4 * r + 3) (-1)) (by simp [rW2, hfb, ksz2, hq4]) (by simp [rW2, rE2, hfb, ksz2, hq4]) (th2_a) (fun h => absurd h (by simp [rW2, hfb, ksz2, hq4])))
          · refine J_aload_n dX12_readsThing_121 rfl rfl ?_
            refine J_iconst (v := nI 2) dX12_readsThing_122 (by decide) ?_
            refine J_iconst (v := nI 3) dX12_readsThing_123 (by decide) ?_
            have hq4 : ¬ tlC 3 (bA (s 5) 2 len (p + 4)) = -9 := ksz3
            refine J_cVi (x := yX12_in) [.int (nI 2), .int (nI 3)] 0 mv_X12_112 (c_X12_put2_ok o a (su 11 (su 7 s (fun _ => nI (p + 3 + 1))) (upd (fb_put (s 11) (fun k => tlC k (bA (s 5) 2 len (p + k))) (4 * r) 3) (4 * r + 3) (-1))) len r (p + 3 + 1) hlen hl59 rfl (by omega) hr 3 (by omega) (by omega) ksz3) mW_0 rfl rfl (by decide) (Nat.le_of_ble_eq_true rfl) ⟨Nat.le_refl _, Nat.le_refl _⟩ dX12_readsThing_124 ?_
            show J G "readsThing" RX12 cX12_readsThing 5 (some .boolean) 0 0 4 Q 0 0 127 [(0, .ref o), (1, .int (nI 2)), (2, .int (nI 3)), (3, .int (nI 1)), (4, .int (nI 3))] [.int (tlC 3 (bA (s 5) 2 len (p + 3 + 1)))] (mW G o a (su 11 (su 7 (su 11 (su 7 s (fun _ => nI (p + 3 + 1))) (upd (fb_put (s 11) (fun k => tlC k (bA (s 5) 2 len (p + k))) (4 * r) 3) (4 * r + 3) (-1))) (fun _ => nI ((p + 3 + 1) + 1))) (upd (upd (fb_put (s 11) (fun k => tlC k (bA (s 5) 2 len (p + k))) (4 * r) 3) (4 * r + 3) (-1)) (4 * r + 3) (tlC 3 (bA (s 5) 2 len (p + 3 + 1))))))
            refine J_ws (ws2 := (mW G o a (su 11 (su 7 s (fun _ => nI ((p + 3 + 1) + 1))) (upd (upd (fb_put (s 11) (fun k => tlC k (bA (s 5) 2 len (p + k))) (4 * r) 3) (4 * r + 3) (-1)) (4 * r + 3) (tlC 3 (bA (s 5) 2 len (p + 3 + 1))))))) (congrArg (mW G o a) (Eq.trans (su_cg ((su_sw (by decide)).trans (su_cg su_tw))) su_tw)) ?_
            refine J_bipush (v := -9) dX12_readsThing_127 (by decide) ?_
            refine J_icmp_eq 136 dX12_readsThing_129 (by decide) (fun c => absurd c ksz3) (fun _ => ?_)
            refine J_iconst (v := nI 1) dX12_readsThing_132 (by decide) ?_
            refine J_goto 137 dX12_readsThing_133 (by decide) ?_
            refine J_istore_n [(0, .ref o), (1, .int (nI 2)), (2, .int (nI 3)), (3, .int (nI 1)), (4, .int (nI 3))] dX12_readsThing_137 rfl (by decide) rfl rfl rfl ?_
            refine J_aload_n dX12_readsThing_138 rfl rfl ?_
            refine Mg_8 dX12_readsThing_139 ?_
            refine J_iload_n dX12_readsThing_142 rfl rfl ?_
            refine J_dup2 dX12_readsThing_143 rfl rfl ?_
            refine Ml_8 (s := (su 11 (su 7 s (fun _ => nI ((p + 3 + 1) + 1))) (upd (upd (fb_put (s 11) (fun k => tlC k (bA (s 5) 2 len (p + k))) (4 * r) 3) (4 * r + 3) (-1)) (4 * r + 3) (tlC 3 (bA (s 5) 2 len (p + 3 + 1)))))) (s 8) rfl 2 rfl (by omega) dX12_readsThing_144 ?_
            refine J_rw (y := nI r) hr ?_
            refine J_iload_n dX12_readsThing_145 rfl rfl ?_
            refine J_if_eq 153 dX12_readsThing_146 (by decide) (fun c => absurd c (by decide)) (fun _ => ?_)
            refine J_iconst (v := nI 1) dX12_readsThing_149 (by decide) ?_
            refine J_goto 154 dX12_readsThing_150 (by decide) ?_
            refine J_iaddN dX12_readsThing_154 ?_
            refine Ms_8 (s := (su 11 (su 7 s (fun _ => nI ((p + 3 + 1) + 1))) (upd (upd (fb_put (s 11) (fun k => tlC k (bA (s 5) 2 len (p + k))) (4 * r) 3) (4 * r + 3) (-1)) (4 * r + 3) (tlC 3 (bA (s 5) 2 len (p + 3 + 1)))))) (s 8) rfl 2 rfl (by omega) dX12_readsThing_155 ?_
            refine J_ws (ws2 := (mW G o a (su 11 (su 8 (su 7 s (fun _ => nI ((p + 3 + 1) + 1))) (upd (s 8) 2 (nI (r + 1)))) (upd (upd (fb_put (s 11) (fun k => tlC k (bA (s 5) 2 len (p + k))) (4 * r) 3) (4 * r + 3) (-1)) (4 * r + 3) (tlC 3 (bA (s 5) 2 len (p + 3 + 1))))))) (congrArg (mW G o a) (su_sw (by decide))) ?_
            refine J_iload_n dX12_readsThing_156 rfl rfl ?_
            exact J_zretB (b := true) dX12_readsThing_157 rfl rfl rfl (hq _ _ (upd (fb_put (s 11) (fun k => tlC k (bA (s 5) 2 len (p + k))) (4 * r) 3) (4 * r + 3) (tlC 3 (bA (s 5) 2 len (p + 4)))) (by simp [rW2, hfb, ksz2, hq4]) (by rw [fa_upd_twice]; simp [rW2, rE2, hfb, ksz2, hq4]) (th2_a) (fun _ => th2_b (cv := (fun k => (if k = 3 then (if bA (s 5) 2 len (p + 3) = nI 63 then tlC 3 (bA (s 5) 2 len (p + 4)) else -1) else tlC k (bA (s 5) 2 len (p + k))))) (fun k hk => (if_neg (by omega)).symm) (by simp [ksz2])))
        · refine J_aload_n dX12_readsThing_101 rfl rfl ?_
          refine J_iconst (v := nI 2) dX12_readsThing_102 (by decide) ?_
          refine J_cVi (x := yX12_in) [.int (nI 2)] 0 mv_X12_100 (c_X12_here o a (su 11 (su 7 s (fun _ => nI (p + 3))) (upd (fb_put (s 11) (fun k => tlC k (bA (s 5) 2 len (p + k))) (4 * r) 3) (4 * r + 3) (-1))) 2 len (p + 3) (by decide) hlen (by omega) rfl (by first | omega | (have := rE0_le (s 5) len p; have := rE1_le (s 5) len p; have := rE2_le (s 5) len p; omega))) mW_0 rfl rfl (by decide) (Nat.le_of_ble_eq_true rfl) ⟨Nat.le_refl _, Nat.le_refl _⟩ dX12_readsThing_103 ?_
          refine J_bipush (v := nI 63) dX12_readsThing_106 (by decide) ?_
          refine J_icmp_ne 138 dX12_readsThing_108 (by decide) (fun _ => ?_) (fun c => absurd c ksz2)
          refine J_aload_n dX12_readsThing_138 rfl rfl ?_
          refine Mg_8 dX12_readsThing_139 ?_
          refine J_iload_n dX12_readsThing_142 rfl rfl ?_
          refine J_dup2 dX12_readsThing_143 rfl rfl ?_
          refine Ml_8 (s := (su 11 (su 7 s (fun _ => nI (p + 3))) (upd (fb_put (s 11) (fun k => tlC k (bA (s 5) 2 len (p + k))) (4 * r) 3) (4 * r + 3) (-1)))) (s 8) rfl 2 rfl (by omega) dX12_readsThing_144 ?_
          refine J_rw (y := nI r) hr ?_
          refine J_iload_n dX12_readsThing_145 rfl rfl ?_
          refine J_if_eq 153 dX12_readsThing_146 (by decide) (fun c => absurd c (by decide)) (fun _ => ?_)
          refine J_iconst (v := nI 1) dX12_readsThing_149 (by decide) ?_
          refine J_goto 154 dX12_readsThing_150 (by decide) ?_
          refine J_iaddN dX12_readsThing_154 ?_
          refine Ms_8 (s := (su 11 (su 7 s (fun _ => nI (p + 3))) (upd (fb_put (s 11) (fun k => tlC k (bA (s 5) 2 len (p + k))) (4 * r) 3) (4 * r + 3) (-1)))) (s 8) rfl 2 rfl (by omega) dX12_readsThing_155 ?_
          refine J_ws (ws2 := (mW G o a (su 11 (su 8 (su 7 s (fun _ => nI (p + 3))) (upd (s 8) 2 (nI (r + 1)))) (upd (fb_put (s 11) (fun k => tlC k (bA (s 5) 2 len (p + k))) (4 * r) 3) (4 * r + 3) (-1))))) (congrArg (mW G o a) (su_sw (by decide))) ?_
          refine J_iload_n dX12_readsThing_156 rfl rfl ?_
          exact J_zretB (b := true) dX12_readsThing_157 rfl rfl rfl (hq _ _ (upd (fb_put (s 11) (fun k => tlC k (bA (s 5) 2 len (p + k))) (4 * r) 3) (4 * r + 3) (-1)) (by simp [rW2, hfb, ksz2]) (by simp [rW2, rE2, hfb, ksz2]) (th2_a) (fun _ => th2_b (cv := (fun k => (if k = 3 then (if bA (s 5) 2 len (p + 3) = nI 63 then tlC 3 (bA (s 5) 2 len (p + 4)) else -1) else tlC k (bA (s 5) 2 len (p + k))))) (fun k hk => (if_neg (by omega)).symm) (by simp [ksz2])))
      · refine J_iload_n dX12_readsThing_48 rfl rfl ?_
        refine J_if_eq 76 dX12_readsThing_49 (by decide) (fun c => absurd c (by decide)) (fun _ => ?_)
        by_cases ksz4 : tlC k (bA (s 5) 2 len (p + k)) = -9
        · refine J_aload_n dX12_readsThing_52 rfl rfl ?_
          refine J_iload_n dX12_readsThing_53 rfl rfl ?_
          refine J_iload dX12_readsThing_54 rfl ?_
          refine J_cVi (x := yX12_in) [.int (nI 2), .int (nI k)] 0 mv_X12_112 (c_X12_put2_bad o a (su 11 (su 7 s (fun _ => nI (p + k))) (fb_put (s 11) (fun k => tlC k (bA (s 5) 2 len (p + k))) (4 * r) k)) len r (p + k) hlen hl59 rfl (by omega) hr k (by omega) (by omega) ksz4) mW_0 rfl rfl (by decide) (Nat.le_of_ble_eq_true rfl) ⟨Nat.le_refl _, Nat.le_refl _⟩ dX12_readsThing_56 ?_
          refine J_bipush (v := -9) dX12_readsThing_59 (by decide) ?_
          refine J_icmp_eq 68 dX12_readsThing_61 (by decide) (fun _ => ?_) (fun c => absurd c (by decide))
          refine J_iconst (v := nI 0) dX12_readsThing_68 (by decide) ?_
          refine J_istore_n [(0, .ref o), (1, .int (nI 2)), (2, .int (nI 3)), (3, .int (nI 0)), (4, .int (nI k))] dX12_readsThing_69 rfl (by decide) rfl rfl rfl ?_
          refine J_iincN [(0, .ref o), (1, .int (nI 2)), (2, .int (nI 3)), (3, .int (nI 0)), (4, .int (nI (k + 1)))] dX12_readsThing_70 rfl (by decide) rfl rfl rfl ?_
          refine J_goto 42 dX12_readsThing_73 (by decide) ?_
          refine J_iload dX12_readsThing_42 rfl ?_
          refine J_iload_n dX12_readsThing_44 rfl rfl ?_
          refine J_icmp_geN 76 (by omega) (by omega) dX12_readsThing_45 (by decide) (fun kcz5 => ?_) (fun kcz5 => ?_)
          · have hfb := fbd_at (n := 3) (by omega) hgd ksz4
            refine J_iload_n dX12_readsThing_76 rfl rfl ?_
            refine J_if_eq 138 dX12_readsThing_77 (by decide) (fun _ => ?_) (fun c => absurd c (by decide))
            refine J_aload_n dX12_readsThing_138 rfl rfl ?_
            refine Mg_8 dX12_readsThing_139 ?_
            refine J_iload_n dX12_readsThing_142 rfl rfl ?_
            refine J_dup2 dX12_readsThing_143 rfl rfl ?_
            refine Ml_8 (s := (su 11 (su 7 s (fun _ => nI (p + k))) (fb_put (s 11) (fun k => tlC k (bA (s 5) 2 len (p + k))) (4 * r) k))) (s 8) rfl 2 rfl (by omega) dX12_readsThing_144 ?_
            refine J_rw (y := nI r) hr ?_
            refine J_iload_n dX12_readsThing_145 rfl rfl ?_
            refine J_if_eq 153 dX12_readsThing_146 (by decide) (fun _ => ?_) (fun c => absurd c (by decide))
            refine J_iconst (v := nI 0) dX12_readsThing_153 (by decide) ?_
            refine J_iaddN dX12_readsThing_154 ?_
            refine Ms_8 (s := (su 11 (su 7 s (fun _ => nI (p + k))) (fb_put (s 11) (fun k => tlC k (bA (s 5) 2 len (p + k))) (4 * r) k))) (s 8) rfl 2 rfl (by omega) dX12_readsThing_155 ?_
            refine J_ws (ws2 := (mW G o a (su 11 (su 8 (su 7 s (fun _ => nI (p + k))) (upd (s 8) 2 (nI (r + 0)))) (fb_put (s 11) (fun k => tlC k (bA (s 5) 2 len (p + k))) (4 * r) k)))) (congrArg (mW G o a) (su_sw (by decide))) ?_
            refine J_iload_n dX12_readsThing_156 rfl rfl ?_
            exact J_zretB (b := false) dX12_readsThing_157 rfl rfl rfl (hq _ _ (fb_put (s 11) (fun k => tlC k (bA (s 5) 2 len (p + k))) (4 * r) k) (by rw [rW2, hfb, decide_eq_false (by omega)]; rfl) (by simp only [rW2, rE2, hfb]; rw [decide_eq_false (by omega), if_neg (by omega)]; rfl) (fun j hj => fb_put_out (Or.inl hj)) (fun h => absurd h (by rw [rW2, hfb, decide_eq_false (by omega)]; simp)))
          · refine J_iload_n dX12_readsThing_48 rfl rfl ?_
            refine J_if_eq 76 dX12_readsThing_49 (by decide) (fun _ => ?_) (fun c => absurd c (by decide))
            have hfb := fbd_at (n := 3) (by omega) hgd ksz4
            refine J_iload_n dX12_readsThing_76 rfl rfl ?_
            refine J_if_eq 138 dX12_readsThing_77 (by decide) (fun _ => ?_) (fun c => absurd c (by decide))
            refine J_aload_n dX12_readsThing_138 rfl rfl ?_
            refine Mg_8 dX12_readsThing_139 ?_
            refine J_iload_n dX12_readsThing_142 rfl rfl ?_
            refine J_dup2 dX12_readsThing_143 rfl rfl ?_
            refine Ml_8 (s := (su 11 (su 7 s (fun _ => nI (p + k))) (fb_put (s 11) (fun k => tlC k (bA (s 5) 2 len (p + k))) (4 * r) k))) (s 8) rfl 2 rfl (by omega) dX12_readsThing_144 ?_
            refine J_rw (y := nI r) hr ?_
            refine J_iload_n dX12_readsThing_145 rfl rfl ?_
            refine J_if_eq 153 dX12_readsThing_146 (by decide) (fun _ => ?_) (fun c => absurd c (by decide))
            refine J_iconst (v := nI 0) dX12_readsThing_153 (by decide) ?_
            refine J_iaddN dX12_readsThing_154 ?_
            refine Ms_8 (s := (su 11 (su 7 s (fun _ => nI (p + k))) (fb_put (s 11) (fun k => tlC k (bA (s 5) 2 len (p + k))) (4 * r) k))) (s 8) rfl 2 rfl (by omega) dX12_readsThing_155 ?_
            refine J_ws (ws2 := (mW G o a (su 11 (su 8 (su 7 s (fun _ => nI (p + k))) (upd (s 8) 2 (nI (r + 0)))) (fb_put (s 11) (fun k => tlC k (bA (s 5) 2 len (p + k))) (4 * r) k)))) (congrArg (mW G o a) (su_sw (by decide))) ?_
            refine J_iload_n dX12_readsThing_156 rfl rfl ?_
            exact J_zretB (b := false) dX12_readsThing_157 rfl rfl rfl (hq _ _ (fb_put (s 11) (fun k => tlC k (bA (s 5) 2 len (p + k))) (4 * r) k) (by rw [rW2, hfb, decide_eq_false (by omega)]; rfl) (by simp only [rW2, rE2, hfb]; rw [decide_eq_false (by omega), if_neg (by omega)]; rfl) (fun j hj => fb_put_out (Or.inl hj)) (fun h => absurd h (by rw [rW2, hfb, decide_eq_false (by omega)]; simp)))
        · refine J_aload_n dX12_readsThing_52 rfl rfl ?_
          refine J_iload_n dX12_readsThing_53 rfl rfl ?_
          refine J_iload dX12_readsThing_54 rfl ?_
          refine J_cVi (x := yX12_in) [.int (nI 2), .int (nI k)] 0 mv_X12_112 (c_X12_put2_ok o a (su 11 (su 7 s (fun _ => nI (p + k))) (fb_put (s 11) (fun k => tlC k (bA (s 5) 2 len (p + k))) (4 * r) k)) len r (p + k) hlen hl59 rfl (by omega) hr k (by omega) (by omega) ksz4) mW_0 rfl rfl (by decide) (Nat.le_of_ble_eq_true rfl) ⟨Nat.le_refl _, Nat.le_refl _⟩ dX12_readsThing_56 ?_
          show J G "readsThing" RX12 cX12_readsThing 5 (some .boolean) 0 0 4 Q 0 0 59 [(0, .ref o), (1, .int (nI 2)), (2, .int (nI 3)), (3, .int (nI 1)), (4, .int (nI k))] [.int (tlC k (bA (s 5) 2 len (p + k)))] (mW G o a (su 11 (su 7 (su 11 (su 7 s (fun _ => nI (p + k))) (fb_put (s 11) (fun k => tlC k (bA (s 5) 2 len (p + k))) (4 * r) k)) (fun _ => nI ((p + k) + 1))) (upd (fb_put (s 11) (fun k => tlC k (bA (s 5) 2 len (p + k))) (4 * r) k) (4 * r + k) (tlC k (bA (s 5) 2 len (p + k))))))
          refine J_ws (ws2 := (mW G o a (su 11 (su 7 s (fun _ => nI ((p + k) + 1))) (upd (fb_put (s 11) (fun k => tlC k (bA (s 5) 2 len (p + k))) (4 * r) k) (4 * r + k) (tlC k (bA (s 5) 2 len (p + k))))))) (congrArg (mW G o a) (Eq.trans (su_cg ((su_sw (by decide)).trans (su_cg su_tw))) su_tw)) ?_
          refine J_bipush (v := -9) dX12_readsThing_59 (by decide) ?_
          refine J_icmp_eq 68 dX12_readsThing_61 (by decide) (fun c => absurd c ksz4) (fun _ => ?_)
          refine J_iconst (v := nI 1) dX12_readsThing_64 (by decide) ?_
          refine J_goto 69 dX12_readsThing_65 (by decide) ?_
          refine J_istore_n [(0, .ref o), (1, .int (nI 2)), (2, .int (nI 3)), (3, .int (nI 1)), (4, .int (nI k))] dX12_readsThing_69 rfl (by decide) rfl rfl rfl ?_
          refine J_iincN [(0, .ref o), (1, .int (nI 2)), (2, .int (nI 3)), (3, .int (nI 1)), (4, .int (nI (k + 1)))] dX12_readsThing_70 rfl (by decide) rfl rfl rfl ?_
          refine J_goto 42 dX12_readsThing_73 (by decide) ?_
          exact ih (k + 1) (by omega) (by omega) (lt_s hgd ksz4) _ _ _ rfl rfl (fb_put_succ _ _ _ _)
  exact L42 4 0 (by omega) (by omega) lt_0 _ _ _ rfl rfl (fb_put_0 _ _ _).symm
theorem c_X12_thing2 {G : GT} (o : Nat) (a : Nat → Nat) (s : Nat → Nat → Int32) (len r p : Nat) (hlen : s 6 2 = nI len) (hl59 : len ≤ 59) (hp : s 7 0 = nI p) (hp99 : p ≤ 60) (hr : s 8 2 = nI r) (hrx : r < 15) : Ct G yX12_readsThing cX12_readsThing 5 (some .boolean) 0 0 4 [.ref o, .int (nI 2)] (mW G o a s) (fun v w => ∃ y : Nat → Int32, v = some (.int (bI (rW2 (s 5) len p))) ∧ w = mW G o a (su 11 (su 8 (su 7 s (fun _ => nI (rE2 (s 5) len p))) (upd (s 8) 2 (nI (r + cond (rW2 (s 5) len p) 1 0)))) y) ∧ (∀ j, j < 4 * r → y j = s 11 j) ∧ (rW2 (s 5) len p = true → ∀ k, k < 4 → y (4 * r + k) = (if k = 3 then (if bA (s 5) 2 len (p + 3) = nI 63 then tlC 3 (bA (s 5) 2 len (p + 4)) else -1) else tlC k (bA (s 5) 2 len (p + k))))) := Ct.of rfl (Nat.le_of_ble_eq_true rfl) (j_X12_thing2 o a s len r p hlen hl59 hp hp99 hr hrx (fun v_ w_ y h1 h2 h3 h4 => ⟨y, by rw [h1], h2, h3, h4⟩))
set_option maxRecDepth 100000 in
set_option maxHeartbeats 1000000 in
theorem j_X12_text0 {G : GT} (o : Nat) (a : Nat → Nat) (s : Nat → Nat → Int32) (len : Nat) (hlen : s 6 0 = nI len) (hl59 : len ≤ 47) {Q : Option Value → va_W → Prop} (hq : ∀ (v_ : Int32) (w_ : va_W) (z : Int32) (y : Nat → Int32), v_ = (rdT (s 5) 0 len).2 → w_ = mW G o a (su 9 (su 8 (su 7 s (fun _ => z)) (upd (s 8) 0 (nI (rdT (s 5) 0 len).1))) y) → (∀ j, j < (rdT (s 5) 0 len).1 → ∀ k, k < 5 → y (5 * j + k) = fH (s 5) len j k) → Q (some (.int v_)) w_) : J G "readsText" RX12 cX12_readsText 4 (some .int) 0 0 5 Q 0 0 0 [(0, .ref o), (1, .int (nI 0))] [] (mW G o a s) := by
  refine J_aload_n dX12_readsText_0 rfl rfl ?_
  refine J_iconst (v := nI 0) dX12_readsText_1 (by decide) ?_
  refine Mp_7 dX12_readsText_2 ?_
  refine J_aload_n dX12_readsText_5 rfl rfl ?_
  refine Mg_8 dX12_readsText_6 ?_
  refine J_iload_n dX12_readsText_9 rfl rfl ?_
  refine J_iconst (v := nI 0) dX12_readsText_10 (by decide) ?_
  refine Ms_8 (s := (su 7 s (fun _ => nI 0))) (s 8) rfl 0 rfl (by omega) dX12_readsText_11 ?_
  by_cases ksz1 : len = 0
  · refine J_aload_n dX12_readsText_12 rfl rfl ?_
    refine Mg_6 dX12_readsText_13 ?_
    refine J_iload_n dX12_readsText_16 rfl rfl ?_
    refine Ml_6 (s := (su 8 (su 7 s (fun _ => nI 0)) (upd (s 8) 0 (nI 0)))) (s 6) rfl 0 rfl (by omega) dX12_readsText_17 ?_
    refine J_rw (y := nI len) hlen ?_
    have hz9 : nI len ≤ 0 := by rw [ksz1]; decide
    refine J_if_le 25 dX12_readsText_18 (by decide) (fun _ => ?_) (fun c => absurd hz9 c)
    refine J_iconst (v := nI 0) dX12_readsText_25 (by decide) ?_
    refine J_istore_n [(0, .ref o), (1, .int (nI 0)), (2, .int (nI 0))] dX12_readsText_26 rfl (by decide) rfl rfl rfl ?_
    refine J_iload_n dX12_readsText_27 rfl rfl ?_
    refine J_if_eq 111 dX12_readsText_28 (by decide) (fun _ => ?_) (fun c => absurd c (by decide))
    refine J_iconst (v := -1) dX12_readsText_111 (by decide) ?_
    exact J_iret dX12_readsText_112 rfl rfl rfl (hq _ _ (nI 0) (s 9) (by rw [rdT, if_pos ksz1]) (by rw [rdT, if_pos ksz1]; rfl) (fun j hj => absurd hj (by rw [rdT, if_pos ksz1]; exact Nat.not_lt_zero _)))
  · refine J_aload_n dX12_readsText_12 rfl rfl ?_
    refine Mg_6 dX12_readsText_13 ?_
    refine J_iload_n dX12_readsText_16 rfl rfl ?_
    refine Ml_6 (s := (su 8 (su 7 s (fun _ => nI 0)) (upd (s 8) 0 (nI 0)))) (s 6) rfl 0 rfl (by omega) dX12_readsText_17 ?_
    refine J_rw (y := nI len) hlen ?_
    have hz := ksz1
    have hz9 : ¬ nI len ≤ 0 := nI_nle (by omega) (by omega)
    refine J_if_le 25 dX12_readsText_18 (by decide) (fun c => absurd c hz9) (fun _ => ?_)
    refine J_iconst (v := nI 1) dX12_readsText_21 (by decide) ?_
    refine J_goto 26 dX12_readsText_22 (by decide) ?_
    refine J_istore_n [(0, .ref o), (1, .int (nI 0)), (2, .int (nI 1))] dX12_readsText_26 rfl (by decide) rfl rfl rfl ?_
    have L27 : ∀ (f r p : Nat) (ya : Nat → Int32), r + f = 60 → 6 * r ≤ p → p ≤ len → scT (s 5) 0 len f r p = rdT (s 5) 0 len → psT (s 5) 0 len r = p → (∀ j, j < r → ∀ k, k < 5 → ya (5 * j + k) = fH (s 5) len j k) → ∀ (y7 : Nat → Int32) (y8 : Nat → Int32), y7 = (fun _ => nI p) → y8 = (upd (s 8) 0 (nI r)) → J G "readsText" RX12 cX12_readsText 4 (some .int) 0 0 5 Q 0 0 27 [(0, .ref o), (1, .int (nI 0)), (2, .int (nI 1))] [] (mW G o a (su 9 (su 8 (su 7 s y7) y8) ya)) := by
      intro f
      induction f with
      | zero => intro r p ya hrf hrp hpl; exact absurd hrf (by omega)
      | succ f ih =>
        intro r p ya hrf hrp hpl hsc hps hyy y7 y8 g7 g8
        subst g7
        subst g8
        refine J_iload_n dX12_readsText_27 rfl rfl ?_
        refine J_if_eq 111 dX12_readsText_28 (by decide) (fun c => absurd c (by decide)) (fun _ => ?_)
        have hmx : ¬ r = 8 := (by omega)
        refine J_aload_n dX12_readsText_31 rfl rfl ?_
        refine J_iload_n dX12_readsText_32 rfl rfl ?_
        refine J_callV (wr := []) (As := [.int (nI 0)]) (st := []) 0 mv_X12_115 (c_X12_thing0 o a (su 9 (su 8 (su 7 s (fun _ => nI p)) (upd (s 8) 0 (nI r))) ya) len r p hlen (by omega) rfl (by omega) (show upd (s 8) 0 (nI r) 0 = nI r from pk_us) (by omega)) mW_0 rfl rfl rfl (by decide) (Nat.le_of_ble_eq_true rfl) ⟨Nat.le_refl _, Nat.le_refl _⟩ dX12_readsText_33 (fun v_ w_ h_ => ?_)
        obtain ⟨yy33, rfl, rfl, hyo, hyi⟩ := h_
        show J G "readsText" RX12 cX12_readsText 4 (some .int) 0 0 5 Q 0 0 36 [(0, .ref o), (1, .int (nI 0)), (2, .int (nI 1))] [.int (bI (rW0 (s 5) len p))] (mW G o a (su 9 (su 8 (su 7 (su 9 (su 8 (su 7 s (fun _ => nI p)) (upd (s 8) 0 (nI r))) ya) (fun _ => nI (rE0 (s 5) len p))) (upd (upd (s 8) 0 (nI r)) 0 (nI (r + cond (rW0 (s 5) len p) 1 0)))) yy33))
        refine J_ws (ws2 := (mW G o a (su 9 (su 8 (su 7 s (fun _ => nI (rE0 (s 5) len p))) (upd (upd (s 8) 0 (nI r)) 0 (nI (r + cond (rW0 (s 5) len p) 1 0)))) yy33))) (congrArg (mW G o a) (Eq.trans (Eq.trans (su_cg (su_cg ((su_sw (by decide)).trans (su_cg ((su_sw (by decide)).trans (su_cg su_tw)))))) (su_cg ((su_sw (by decide)).trans (su_cg su_tw)))) su_tw)) ?_
        refine J_istore_n [(0, .ref o), (1, .int (nI 0)), (2, .int (nI 1)), (3, .int (bI (rW0 (s 5) len p)))] dX12_readsText_36 rfl (by decide) rfl rfl rfl ?_
        by_cases ksz2 : rW0 (s 5) len p = true
        · refine J_iload_n dX12_readsText_37 rfl rfl ?_
          have hW := ksz2
          refine J_if_eqB 58 dX12_readsText_38 (by decide) (fun c => absurd c (by rw [hW]; decide)) (fun _ => ?_)
          by_cases ksz3 : len ≤ rE0 (s 5) len p
          · refine J_aload_n dX12_readsText_41 rfl rfl ?_
            refine Mg_7 (s := (su 9 (su 8 (su 7 s (fun _ => nI (rE0 (s 5) len p))) (upd (upd (s 8) 0 (nI r)) 0 (nI (r + cond (rW0 (s 5) len p) 1 0)))) yy33)) (nI (rE0 (s 5) len p)) rfl dX12_readsText_42 ?_
            refine J_aload_n dX12_readsText_45 rfl rfl ?_
            refine Mg_6 dX12_readsText_46 ?_
            refine J_iload_n dX12_readsText_49 rfl rfl ?_
            refine Ml_6 (s := (su 9 (su 8 (su 7 s (fun _ => nI (rE0 (s 5) len p))) (upd (upd (s 8) 0 (nI r)) 0 (nI (r + cond (rW0 (s 5) len p) 1 0)))) yy33)) (s 6) rfl 0 rfl (by omega) dX12_readsText_50 ?_
            refine J_rw (y := nI len) hlen ?_
            refine J_icmp_geN 58 (by have := rE0_le (s 5) len p; omega) (by omega) dX12_readsText_51 (by decide) (fun _ => ?_) (fun c => absurd ksz3 c)
            refine J_iconst (v := nI 0) dX12_readsText_58 (by decide) ?_
            refine J_istore_n [(0, .ref o), (1, .int (nI 0)), (2, .int (nI 0)), (3, .int (bI (rW0 (s 5) len p)))] dX12_readsText_59 rfl (by decide) rfl rfl rfl ?_
            refine J_iload_n dX12_readsText_60 rfl rfl ?_
            refine J_if_eqB 78 dX12_readsText_61 (by decide) (fun c => absurd c (by rw [hW]; decide)) (fun _ => ?_)
            refine J_iload_n dX12_readsText_64 rfl rfl ?_
            refine J_if_eq 90 dX12_readsText_65 (by decide) (fun _ => ?_) (fun c => absurd c (by decide))
            refine J_aload_n dX12_readsText_90 rfl rfl ?_
            refine J_dup dX12_readsText_91 rfl ?_
            refine Mg_7 (s := (su 9 (su 8 (su 7 s (fun _ => nI (rE0 (s 5) len p))) (upd (upd (s 8) 0 (nI r)) 0 (nI (r + cond (rW0 (s 5) len p) 1 0)))) yy33)) (nI (rE0 (s 5) len p)) rfl dX12_readsText_92 ?_
            refine J_iload_n dX12_readsText_95 rfl rfl ?_
            refine J_if_eq 103 dX12_readsText_96 (by decide) (fun _ => ?_) (fun c => absurd c (by decide))
            refine J_iconst (v := nI 0) dX12_readsText_103 (by decide) ?_
            refine J_iaddN dX12_readsText_104 ?_
            refine Mp_7 dX12_readsText_105 ?_
            refine J_ws (ws2 := (mW G o a (su 9 (su 8 (su 7 s (fun _ => nI (rE0 (s 5) len p + 0))) (upd (upd (s 8) 0 (nI r)) 0 (nI (r + cond (rW0 (s 5) len p) 1 0)))) yy33))) (congrArg (mW G o a) ((su_sw (by decide)).trans (su_cg ((su_sw (by decide)).trans (su_cg su_tw))))) ?_
            refine J_goto 27 dX12_readsText_108 (by decide) ?_
            refine J_iload_n dX12_readsText_27 rfl rfl ?_
            refine J_if_eq 111 dX12_readsText_28 (by decide) (fun _ => ?_) (fun c => absurd c (by decide))
            refine J_iconst (v := -1) dX12_readsText_111 (by decide) ?_
            exact J_iret dX12_readsText_112 rfl rfl rfl (hq _ _ _ _ (by rw [← hsc, scT0_end hmx hW ksz3]) (by rw [← hsc, scT0_end hmx hW ksz3, fa_upd_twice, hW]; rfl) (by rw [← hsc, scT0_end hmx hW ksz3]; exact rows_next0 hps hyy hyo (hyi hW)))
          · refine J_aload_n dX12_readsText_41 rfl rfl ?_
            refine Mg_7 (s := (su 9 (su 8 (su 7 s (fun _ => nI (rE0 (s 5) len p))) (upd (upd (s 8) 0 (nI r)) 0 (nI (r + cond (rW0 (s 5) len p) 1 0)))) yy33)) (nI (rE0 (s 5) len p)) rfl dX12_readsText_42 ?_
            refine J_aload_n dX12_readsText_45 rfl rfl ?_
            refine Mg_6 dX12_readsText_46 ?_
            refine J_iload_n dX12_readsText_49 rfl rfl ?_
            refine Ml_6 (s := (su 9 (su 8 (su 7 s (fun _ => nI (rE0 (s 5) len p))) (upd (upd (s 8) 0 (nI r)) 0 (nI (r + cond (rW0 (s 5) len p) 1 0)))) yy33)) (s 6) rfl 0 rfl (by omega) dX12_readsText_50 ?_
            refine J_rw (y := nI len) hlen ?_
            refine J_icmp_geN 58 (by have := rE0_le (s 5) len p; omega) (by omega) dX12_readsText_51 (by decide) (fun c => absurd c ksz3) (fun _ => ?_)
            refine J_iconst (v := nI 1) dX12_readsText_54 (by decide) ?_
            refine J_goto 59 dX12_readsText_55 (by decide) ?_
            refine J_istore_n [(0, .ref o), (1, .int (nI 0)), (2, .int (nI 1)), (3, .int (bI (rW0 (s 5) len p)))] dX12_readsText_59 rfl (by decide) rfl rfl rfl ?_
            refine J_iload_n dX12_readsText_60 rfl rfl ?_
            refine J_if_eqB 78 dX12_readsText_61 (by decide) (fun c => absurd c (by rw [hW]; decide)) (fun _ => ?_)
            refine J_iload_n dX12_readsText_64 rfl rfl ?_
            refine J_if_eq 90 dX12_readsText_65 (by decide) (fun c => absurd c (by decide)) (fun _ => ?_)
            by_cases ksz4 : bA (s 5) 0 len (rE0 (s 5) len p) = nI 59
            · refine J_aload_n dX12_readsText_68 rfl rfl ?_
              refine J_iload_n dX12_readsText_69 rfl rfl ?_
              refine J_cVi (x := yX12_in) [.int (nI 0)] 0 mv_X12_100 (c_X12_here o a (su 9 (su 8 (su 7 s (fun _ => nI (rE0 (s 5) len p))) (upd (upd (s 8) 0 (nI r)) 0 (nI (r + cond (rW0 (s 5) len p) 1 0)))) yy33) 0 len (rE0 (s 5) len p) (by decide) hlen (by omega) rfl (by first | omega | (have := rE0_le (s 5) len p; have := rE1_le (s 5) len p; have := rE2_le (s 5) len p; omega))) mW_0 rfl rfl (by decide) (Nat.le_of_ble_eq_true rfl) ⟨Nat.le_refl _, Nat.le_refl _⟩ dX12_readsText_70 ?_
              refine J_bipush (v := nI 59) dX12_readsText_73 (by decide) ?_
              refine J_icmp_eq 90 dX12_readsText_75 (by decide) (fun _ => ?_) (fun c => absurd ksz4 c)
              refine J_aload_n dX12_readsText_90 rfl rfl ?_
              refine J_dup dX12_readsText_91 rfl ?_
              refine Mg_7 (s := (su 9 (su 8 (su 7 s (fun _ => nI (rE0 (s 5) len p))) (upd (upd (s 8) 0 (nI r)) 0 (nI (r + cond (rW0 (s 5) len p) 1 0)))) yy33)) (nI (rE0 (s 5) len p)) rfl dX12_readsText_92 ?_
              refine J_iload_n dX12_readsText_95 rfl rfl ?_
              refine J_if_eq 103 dX12_readsText_96 (by decide) (fun c => absurd c (by decide)) (fun _ => ?_)
              refine J_iconst (v := nI 1) dX12_readsText_99 (by decide) ?_
              refine J_goto 104 dX12_readsText_100 (by decide) ?_
              refine J_iaddN dX12_readsText_104 ?_
              refine Mp_7 dX12_readsText_105 ?_
              refine J_ws (ws2 := (mW G o a (su 9 (su 8 (su 7 s (fun _ => nI (rE0 (s 5) len p + 1))) (upd (upd (s 8) 0 (nI r)) 0 (nI (r + cond (rW0 (s 5) len p) 1 0)))) yy33))) (congrArg (mW G o a) ((su_sw (by decide)).trans (su_cg ((su_sw (by decide)).trans (su_cg su_tw))))) ?_
              refine J_goto 27 dX12_readsText_108 (by decide) ?_
              refine J_lv [0, 1, 2] rfl ?_
              exact ih (r + 1) (rE0 (s 5) len p + 1) yy33 (by omega) (by have := rE0_ge (s 5) len p hW; omega) (by omega) (by rw [← hsc, scT0_go hmx hW ksz3 ksz4]) (by rw [psT0_s, hps]) (rows_next0 hps hyy hyo (hyi hW)) _ _ rfl (by rw [fa_upd_twice, hW]; rfl)
            · refine J_aload_n dX12_readsText_68 rfl rfl ?_
              refine J_iload_n dX12_readsText_69 rfl rfl ?_
              refine J_cVi (x := yX12_in) [.int (nI 0)] 0 mv_X12_100 (c_X12_here o a (su 9 (su 8 (su 7 s (fun _ => nI (rE0 (s 5) len p))) (upd (upd (s 8) 0 (nI r)) 0 (nI (r + cond (rW0 (s 5) len p) 1 0)))) yy33) 0 len (rE0 (s 5) len p) (by decide) hlen (by omega) rfl (by first | omega | (have := rE0_le (s 5) len p; have := rE1_le (s 5) len p; have := rE2_le (s 5) len p; omega))) mW_0 rfl rfl (by decide) (Nat.le_of_ble_eq_true rfl) ⟨Nat.le_refl _, Nat.le_refl _⟩ dX12_readsText_70 ?_
              refine J_bipush (v := nI 59) dX12_readsText_73 (by decide) ?_
              refine J_icmp_eq 90 dX12_readsText_75 (by decide) (fun c => absurd c ksz4) (fun _ => ?_)
              refine J_aload_n dX12_readsText_78 rfl rfl ?_
              refine Mg_8 dX12_readsText_79 ?_
              refine J_iload_n dX12_readsText_82 rfl rfl ?_
              refine J_iconst (v := nI 0) dX12_readsText_83 (by decide) ?_
              refine Ms_8 (s := (su 9 (su 8 (su 7 s (fun _ => nI (rE0 (s 5) len p))) (upd (upd (s 8) 0 (nI r)) 0 (nI (r + cond (rW0 (s 5) len p) 1 0)))) yy33)) (upd (upd (s 8) 0 (nI r)) 0 (nI (r + cond (rW0 (s 5) len p) 1 0))) rfl 0 rfl (by omega) dX12_readsText_84 ?_
              refine J_ws (ws2 := (mW G o a (su 9 (su 8 (su 7 s (fun _ => nI (rE0 (s 5) len p))) (upd (upd (upd (s 8) 0 (nI r)) 0 (nI (r + cond (rW0 (s 5) len p) 1 0))) 0 (nI 0))) yy33))) (congrArg (mW G o a) ((su_sw (by decide)).trans (su_cg su_tw))) ?_
              refine J_aload_n dX12_readsText_85 rfl rfl ?_
              refine Mg_7 (s := (su 9 (su 8 (su 7 s (fun _ => nI (rE0 (s 5) len p))) (upd (upd (upd (s 8) 0 (nI r)) 0 (nI (r + cond (rW0 (s 5) len p) 1 0))) 0 (nI 0))) yy33)) (nI (rE0 (s 5) len p)) rfl dX12_readsText_86 ?_
              exact J_iret dX12_readsText_89 rfl rfl rfl (hq _ _ _ _ (by rw [← hsc, scT0_sep hmx hW ksz3 ksz4]) (by rw [← hsc, scT0_sep hmx hW ksz3 ksz4, fa_upd_twice, fa_upd_twice]) (by rw [← hsc, scT0_sep hmx hW ksz3 ksz4]; exact fun j hj => absurd hj (Nat.not_lt_zero _)))
        · refine J_iload_n dX12_readsText_37 rfl rfl ?_
          have hW : rW0 (s 5) len p = false := Bool.eq_false_iff.mpr ksz2
          refine J_if_eqB 58 dX12_readsText_38 (by decide) (fun _ => ?_) (fun c => absurd c (by rw [hW]; decide))
          refine J_iconst (v := nI 0) dX12_readsText_58 (by decide) ?_
          refine J_istore_n [(0, .ref o), (1, .int (nI 0)), (2, .int (nI 0)), (3, .int (bI (rW0 (s 5) len p)))] dX12_readsText_59 rfl (by decide) rfl rfl rfl ?_
          refine J_iload_n dX12_readsText_60 rfl rfl ?_
          refine J_if_eqB 78 dX12_readsText_61 (by decide) (fun _ => ?_) (fun c => absurd c (by rw [hW]; decide))
          refine J_aload_n dX12_readsText_78 rfl rfl ?_
          refine Mg_8 dX12_readsText_79 ?_
          refine J_iload_n dX12_readsText_82 rfl rfl ?_
          refine J_iconst (v := nI 0) dX12_readsText_83 (by decide) ?_
          refine Ms_8 (s := (su 9 (su 8 (su 7 s (fun _ => nI (rE0 (s 5) len p))) (upd (upd (s 8) 0 (nI r)) 0 (nI (r + cond (rW0 (s 5) len p) 1 0)))) yy33)) (upd (upd (s 8) 0 (nI r)) 0 (nI (r + cond (rW0 (s 5) len p) 1 0))) rfl 0 rfl (by omega) dX12_readsText_84 ?_
          refine J_ws (ws2 := (mW G o a (su 9 (su 8 (su 7 s (fun _ => nI (rE0 (s 5) len p))) (upd (upd (upd (s 8) 0 (nI r)) 0 (nI (r + cond (rW0 (s 5) len p) 1 0))) 0 (nI 0))) yy33))) (congrArg (mW G o a) ((su_sw (by decide)).trans (su_cg su_tw))) ?_
          refine J_aload_n dX12_readsText_85 rfl rfl ?_
          refine Mg_7 (s := (su 9 (su 8 (su 7 s (fun _ => nI (rE0 (s 5) len p))) (upd (upd (upd (s 8) 0 (nI r)) 0 (nI (r + cond (rW0 (s 5) len p) 1 0))) 0 (nI 0))) yy33)) (nI (rE0 (s 5) len p)) rfl dX12_readsText_86 ?_
          exact J_iret dX12_readsText_89 rfl rfl rfl (hq _ _ _ _ (by rw [← hsc, scT0_bad hmx hW]) (by rw [← hsc, scT0_bad hmx hW, fa_upd_twice, fa_upd_twice]) (by rw [← hsc, scT0_bad hmx hW]; exact fun j hj => absurd hj (Nat.not_lt_zero _)))
    exact L27 60 0 0 (s 9) (by omega) (by omega) (by omega) (by unfold rdT; rw [if_neg hz]) rfl (fun j hj => absurd hj (Nat.not_lt_zero _)) _ _ rfl rfl
theorem c_X12_text0 {G : GT} (o : Nat) (a : Nat → Nat) (s : Nat → Nat → Int32) (len : Nat) (hlen : s 6 0 = nI len) (hl59 : len ≤ 47) : Ct G yX12_readsText cX12_readsText 4 (some .int) 0 0 5 [.ref o, .int (nI 0)] (mW G o a s) (fun v w => ∃ (z : Int32) (y : Nat → Int32), v = some (.int (rdT (s 5) 0 len).2) ∧ w = mW G o a (su 9 (su 8 (su 7 s (fun _ => z)) (upd (s 8) 0 (nI (rdT (s 5) 0 len).1))) y) ∧ (∀ j, j < (rdT (s 5) 0 len).1 → ∀ k, k < 5 → y (5 * j + k) = fH (s 5) len j k)) := Ct.of rfl (Nat.le_of_ble_eq_true rfl) (j_X12_text0 o a s len hlen hl59 (fun v_ w_ z y h1 h2 h3 => ⟨z, y, by rw [h1], h2, h3⟩))
set_option maxRecDepth 100000 in
set_option maxHeartbeats 1000000 in
theorem j_X12_text1 {G : GT} (o : Nat) (a : Nat → Nat) (s : Nat → Nat → Int32) (len : Nat) (hlen : s 6 1 = nI len) (hl59 : len ≤ 23) {Q : Option Value → va_W → Prop} (hq : ∀ (v_ : Int32) (w_ : va_W) (z : Int32) (y : Nat → Int32), v_ = (rdT (s 5) 1 len).2 → w_ = mW G o a (su 10 (su 8 (su 7 s (fun _ => z)) (upd (s 8) 1 (nI (rdT (s 5) 1 len).1))) y) → (∀ j, j < (rdT (s 5) 1 len).1 → ∀ k, k < 3 → y (3 * j + k) = fE (s 5) len j k) → Q (some (.int v_)) w_) : J G "readsText" RX12 cX12_readsText 4 (some .int) 0 0 5 Q 0 0 0 [(0, .ref o), (1, .int (nI 1))] [] (mW G o a s) := by
  refine J_aload_n dX12_readsText_0 rfl rfl ?_
  refine J_iconst (v := nI 0) dX12_readsText_1 (by decide) ?_
  refine Mp_7 dX12_readsText_2 ?_
  refine J_aload_n dX12_readsText_5 rfl rfl ?_
  refine Mg_8 dX12_readsText_6 ?_
  refine J_iload_n dX12_readsText_9 rfl rfl ?_
  refine J_iconst (v := nI 0) dX12_readsText_10 (by decide) ?_
  refine Ms_8 (s := (su 7 s (fun _ => nI 0))) (s 8) rfl 1 rfl (by omega) dX12_readsText_11 ?_
  by_cases ksz1 : len = 0
  · refine J_aload_n dX12_readsText_12 rfl rfl ?_
    refine Mg_6 dX12_readsText_13 ?_
    refine J_iload_n dX12_readsText_16 rfl rfl ?_
    refine Ml_6 (s := (su 8 (su 7 s (fun _ => nI 0)) (upd (s 8) 1 (nI 0)))) (s 6) rfl 1 rfl (by omega) dX12_readsText_17 ?_
    refine J_rw (y := nI len) hlen ?_
    have hz9 : nI len ≤ 0 := by rw [ksz1]; decide
    refine J_if_le 25 dX12_readsText_18 (by decide) (fun _ => ?_) (fun c => absurd hz9 c)
    refine J_iconst (v := nI 0) dX12_readsText_25 (by decide) ?_
    refine J_istore_n [(0, .ref o), (1, .int (nI 1)), (2, .int (nI 0))] dX12_readsText_26 rfl (by decide) rfl rfl rfl ?_
    refine J_iload_n dX12_readsText_27 rfl rfl ?_
    refine J_if_eq 111 dX12_readsText_28 (by decide) (fun _ => ?_) (fun c => absurd c (by decide))
    refine J_iconst (v := -1) dX12_readsText_111 (by decide) ?_
    exact J_iret dX12_readsText_112 rfl rfl rfl (hq _ _ (nI 0) (s 10) (by rw [rdT, if_pos ksz1]) (by rw [rdT, if_pos ksz1]; rfl) (fun j hj => absurd hj (by rw [rdT, if_pos ksz1]; exact Nat.not_lt_zero _)))
  · refine J_aload_n dX12_readsText_12 rfl rfl ?_
    refine Mg_6 dX12_readsText_13 ?_
    refine J_iload_n dX12_readsText_16 rfl rfl ?_
    refine Ml_6 (s := (su 8 (su 7 s (fun _ => nI 0)) (upd (s 8) 1 (nI 0)))) (s 6) rfl 1 rfl (by omega) dX12_readsText_17 ?_
    refine J_rw (y := nI len) hlen ?_
    have hz := ksz1
    have hz9 : ¬ nI len ≤ 0 := nI_nle (by omega) (by omega)
    refine J_if_le 25 dX12_readsText_18 (by decide) (fun c => absurd c hz9) (fun _ => ?_)
    refine J_iconst (v := nI 1) dX12_readsText_21 (by decide) ?_
    refine J_goto 26 dX12_readsText_22 (by decide) ?_
    refine J_istore_n [(0, .ref o), (1, .int (nI 1)), (2, .int (nI 1))] dX12_readsText_26 rfl (by decide) rfl rfl rfl ?_
    have L27 : ∀ (f r p : Nat) (ya : Nat → Int32), r + f = 60 → 4 * r ≤ p → p ≤ len → scT (s 5) 1 len f r p = rdT (s 5) 1 len → psT (s 5) 1 len r = p → (∀ j, j < r → ∀ k, k < 3 → ya (3 * j + k) = fE (s 5) len j k) → ∀ (y7 : Nat → Int32) (y8 : Nat → Int32), y7 = (fun _ => nI p) → y8 = (upd (s 8) 1 (nI r)) → J G "readsText" RX12 cX12_readsText 4 (some .int) 0 0 5 Q 0 0 27 [(0, .ref o), (1, .int (nI 1)), (2, .int (nI 1))] [] (mW G o a (su 10 (su 8 (su 7 s y7) y8) ya)) := by
      intro f
      induction f with
      | zero => intro r p ya hrf hrp hpl; exact absurd hrf (by omega)
      | succ f ih =>
        intro r p ya hrf hrp hpl hsc hps hyy y7 y8 g7 g8
        subst g7
        subst g8
        refine J_iload_n dX12_readsText_27 rfl rfl ?_
        refine J_if_eq 111 dX12_readsText_28 (by decide) (fun c => absurd c (by decide)) (fun _ => ?_)
        have hmx : ¬ r = 6 := (by omega)
        refine J_aload_n dX12_readsText_31 rfl rfl ?_
        refine J_iload_n dX12_readsText_32 rfl rfl ?_
        refine J_callV (wr := []) (As := [.int (nI 1)]) (st := []) 0 mv_X12_115 (c_X12_thing1 o a (su 10 (su 8 (su 7 s (fun _ => nI p)) (upd (s 8) 1 (nI r))) ya) len r p hlen (by omega) rfl (by omega) (show upd (s 8) 1 (nI r) 1 = nI r from pk_us) (by omega)) mW_0 rfl rfl rfl (by decide) (Nat.le_of_ble_eq_true rfl) ⟨Nat.le_refl _, Nat.le_refl _⟩ dX12_readsText_33 (fun v_ w_ h_ => ?_)
        obtain ⟨yy33, rfl, rfl, hyo, hyi⟩ := h_
        show J G "readsText" RX12 cX12_readsText 4 (some .int) 0 0 5 Q 0 0 36 [(0, .ref o), (1, .int (nI 1)), (2, .int (nI 1))] [.int (bI (rW1 (s 5) len p))] (mW G o a (su 10 (su 8 (su 7 (su 10 (su 8 (su 7 s (fun _ => nI p)) (upd (s 8) 1 (nI r))) ya) (fun _ => nI (rE1 (s 5) len p))) (upd (upd (s 8) 1 (nI r)) 1 (nI (r + cond (rW1 (s 5) len p) 1 0)))) yy33))
        refine J_ws (ws2 := (mW G o a (su 10 (su 8 (su 7 s (fun _ => nI (rE1 (s 5) len p))) (upd (upd (s 8) 1 (nI r)) 1 (nI (r + cond (rW1 (s 5) len p) 1 0)))) yy33))) (congrArg (mW G o a) (Eq.trans (Eq.trans (su_cg (su_cg ((su_sw (by decide)).trans (su_cg ((su_sw (by decide)).trans (su_cg su_tw)))))) (su_cg ((su_sw (by decide)).trans (su_cg su_tw)))) su_tw)) ?_
        refine J_istore_n [(0, .ref o), (1, .int (nI 1)), (2, .int (nI 1)), (3, .int (bI (rW1 (s 5) len p)))] dX12_readsText_36 rfl (by decide) rfl rfl rfl ?_
        by_cases ksz2 : rW1 (s 5) len p = true
        · refine J_iload_n dX12_readsText_37 rfl rfl ?_
          have hW := ksz2
          refine J_if_eqB 58 dX12_readsText_38 (by decide) (fun c => absurd c (by rw [hW]; decide)) (fun _ => ?_)
          by_cases ksz3 : len ≤ rE1 (s 5) len p
          · refine J_aload_n dX12_readsText_41 rfl rfl ?_
            refine Mg_7 (s := (su 10 (su 8 (su 7 s (fun _ => nI (rE1 (s 5) len p))) (upd (upd (s 8) 1 (nI r)) 1 (nI (r + cond (rW1 (s 5) len p) 1 0)))) yy33)) (nI (rE1 (s 5) len p)) rfl dX12_readsText_42 ?_
            refine J_aload_n dX12_readsText_45 rfl rfl ?_
            refine Mg_6 dX12_readsText_46 ?_
            refine J_iload_n dX12_readsText_49 rfl rfl ?_
            refine Ml_6 (s := (su 10 (su 8 (su 7 s (fun _ => nI (rE1 (s 5) len p))) (upd (upd (s 8) 1 (nI r)) 1 (nI (r + cond (rW1 (s 5) len p) 1 0)))) yy33)) (s 6) rfl 1 rfl (by omega) dX12_readsText_50 ?_
            refine J_rw (y := nI len) hlen ?_
            refine J_icmp_geN 58 (by have := rE1_le (s 5) len p; omega) (by omega) dX12_readsText_51 (by decide) (fun _ => ?_) (fun c => absurd ksz3 c)
            refine J_iconst (v := nI 0) dX12_readsText_58 (by decide) ?_
            refine J_istore_n [(0, .ref o), (1, .int (nI 1)), (2, .int (nI 0)), (3, .int (bI (rW1 (s 5) len p)))] dX12_readsText_59 rfl (by decide) rfl rfl rfl ?_
            refine J_iload_n dX12_readsText_60 rfl rfl ?_
            refine J_if_eqB 78 dX12_readsText_61 (by decide) (fun c => absurd c (by rw [hW]; decide)) (fun _ => ?_)
            refine J_iload_n dX12_readsText_64 rfl rfl ?_
            refine J_if_eq 90 dX12_readsText_65 (by decide) (fun _ => ?_) (fun c => absurd c (by decide))
            refine J_aload_n dX12_readsText_90 rfl rfl ?_
            refine J_dup dX12_readsText_91 rfl ?_
            refine Mg_7 (s := (su 10 (su 8 (su 7 s (fun _ => nI (rE1 (s 5) len p))) (upd (upd (s 8) 1 (nI r)) 1 (nI (r + cond (rW1 (s 5) len p) 1 0)))) yy33)) (nI (rE1 (s 5) len p)) rfl dX12_readsText_92 ?_
            refine J_iload_n dX12_readsText_95 rfl rfl ?_
            refine J_if_eq 103 dX12_readsText_96 (by decide) (fun _ => ?_) (fun c => absurd c (by decide))
            refine J_iconst (v := nI 0) dX12_readsText_103 (by decide) ?_
            refine J_iaddN dX12_readsText_104 ?_
            refine Mp_7 dX12_readsText_105 ?_
            refine J_ws (ws2 := (mW G o a (su 10 (su 8 (su 7 s (fun _ => nI (rE1 (s 5) len p + 0))) (upd (upd (s 8) 1 (nI r)) 1 (nI (r + cond (rW1 (s 5) len p) 1 0)))) yy33))) (congrArg (mW G o a) ((su_sw (by decide)).trans (su_cg ((su_sw (by decide)).trans (su_cg su_tw))))) ?_
            refine J_goto 27 dX12_readsText_108 (by decide) ?_
            refine J_iload_n dX12_readsText_27 rfl rfl ?_
            refine J_if_eq 111 dX12_readsText_28 (by decide) (fun _ => ?_) (fun c => absurd c (by decide))
            refine J_iconst (v := -1) dX12_readsText_111 (by decide) ?_
            exact J_iret dX12_readsText_112 rfl rfl rfl (hq _ _ _ _ (by rw [← hsc, scT1_end hmx hW ksz3]) (by rw [← hsc, scT1_end hmx hW ksz3, fa_upd_twice, hW]; rfl) (by rw [← hsc, scT1_end hmx hW ksz3]; exact rows_next1 hps hyy hyo (hyi hW)))
          · refine J_aload_n dX12_readsText_41 rfl rfl ?_
            refine Mg_7 (s := (su 10 (su 8 (su 7 s (fun _ => nI (rE1 (s 5) len p))) (upd (upd (s 8) 1 (nI r)) 1 (nI (r + cond (rW1 (s 5) len p) 1 0)))) yy33)) (nI (rE1 (s 5) len p)) rfl dX12_readsText_42 ?_
            refine J_aload_n dX12_readsText_45 rfl rfl ?_
            refine Mg_6 dX12_readsText_46 ?_
            refine J_iload_n dX12_readsText_49 rfl rfl ?_
            refine Ml_6 (s := (su 10 (su 8 (su 7 s (fun _ => nI (rE1 (s 5) len p))) (upd (upd (s 8) 1 (nI r)) 1 (nI (r + cond (rW1 (s 5) len p) 1 0)))) yy33)) (s 6) rfl 1 rfl (by omega) dX12_readsText_50 ?_
            refine J_rw (y := nI len) hlen ?_
            refine J_icmp_geN 58 (by have := rE1_le (s 5) len p; omega) (by omega) dX12_readsText_51 (by decide) (fun c => absurd c ksz3) (fun _ => ?_)
            refine J_iconst (v := nI 1) dX12_readsText_54 (by decide) ?_
            refine J_goto 59 dX12_readsText_55 (by decide) ?_
            refine J_istore_n [(0, .ref o), (1, .int (nI 1)), (2, .int (nI 1)), (3, .int (bI (rW1 (s 5) len p)))] dX12_readsText_59 rfl (by decide) rfl rfl rfl ?_
            refine J_iload_n dX12_readsText_60 rfl rfl ?_
            refine J_if_eqB 78 dX12_readsText_61 (by decide) (fun c => absurd c (by rw [hW]; decide)) (fun _ => ?_)
            refine J_iload_n dX12_readsText_64 rfl rfl ?_
            refine J_if_eq 90 dX12_readsText_65 (by decide) (fun c => absurd c (by decide)) (fun _ => ?_)
            by_cases ksz4 : bA (s 5) 1 len (rE1 (s 5) len p) = nI 59
            · refine J_aload_n dX12_readsText_68 rfl rfl ?_
              refine J_iload_n dX12_readsText_69 rfl rfl ?_
              refine J_cVi (x := yX12_in) [.int (nI 1)] 0 mv_X12_100 (c_X12_here o a (su 10 (su 8 (su 7 s (fun _ => nI (rE1 (s 5) len p))) (upd (upd (s 8) 1 (nI r)) 1 (nI (r + cond (rW1 (s 5) len p) 1 0)))) yy33) 1 len (rE1 (s 5) len p) (by decide) hlen (by omega) rfl (by first | omega | (have := rE0_le (s 5) len p; have := rE1_le (s 5) len p; have := rE2_le (s 5) len p; omega))) mW_0 rfl rfl (by decide) (Nat.le_of_ble_eq_true rfl) ⟨Nat.le_refl _, Nat.le_refl _⟩ dX12_readsText_70 ?_
              refine J_bipush (v := nI 59) dX12_readsText_73 (by decide) ?_
              refine J_icmp_eq 90 dX12_readsText_75 (by decide) (fun _ => ?_) (fun c => absurd ksz4 c)
              refine J_aload_n dX12_readsText_90 rfl rfl ?_
              refine J_dup dX12_readsText_91 rfl ?_
              refine Mg_7 (s := (su 10 (su 8 (su 7 s (fun _ => nI (rE1 (s 5) len p))) (upd (upd (s 8) 1 (nI r)) 1 (nI (r + cond (rW1 (s 5) len p) 1 0)))) yy33)) (nI (rE1 (s 5) len p)) rfl dX12_readsText_92 ?_
              refine J_iload_n dX12_readsText_95 rfl rfl ?_
              refine J_if_eq 103 dX12_readsText_96 (by decide) (fun c => absurd c (by decide)) (fun _ => ?_)
              refine J_iconst (v := nI 1) dX12_readsText_99 (by decide) ?_
              refine J_goto 104 dX12_readsText_100 (by decide) ?_
              refine J_iaddN dX12_readsText_104 ?_
              refine Mp_7 dX12_readsText_105 ?_
              refine J_ws (ws2 := (mW G o a (su 10 (su 8 (su 7 s (fun _ => nI (rE1 (s 5) len p + 1))) (upd (upd (s 8) 1 (nI r)) 1 (nI (r + cond (rW1 (s 5) len p) 1 0)))) yy33))) (congrArg (mW G o a) ((su_sw (by decide)).trans (su_cg ((su_sw (by decide)).trans (su_cg su_tw))))) ?_
              refine J_goto 27 dX12_readsText_108 (by decide) ?_
              refine J_lv [0, 1, 2] rfl ?_
              exact ih (r + 1) (rE1 (s 5) len p + 1) yy33 (by omega) (by have := rE1_ge (s 5) len p hW; omega) (by omega) (by rw [← hsc, scT1_go hmx hW ksz3 ksz4]) (by rw [psT1_s, hps]) (rows_next1 hps hyy hyo (hyi hW)) _ _ rfl (by rw [fa_upd_twice, hW]; rfl)
            · refine J_aload_n dX12_readsText_68 rfl rfl ?_
              refine J_iload_n dX12_readsText_69 rfl rfl ?_
              refine J_cVi (x := yX12_in) [.int (nI 1)] 0 mv_X12_100 (c_X12_here o a (su 10 (su 8 (su 7 s (fun _ => nI (rE1 (s 5) len p))) (upd (upd (s 8) 1 (nI r)) 1 (nI (r + cond (rW1 (s 5) len p) 1 0)))) yy33) 1 len (rE1 (s 5) len p) (by decide) hlen (by omega) rfl (by first | omega | (have := rE0_le (s 5) len p; have := rE1_le (s 5) len p; have := rE2_le (s 5) len p; omega))) mW_0 rfl rfl (by decide) (Nat.le_of_ble_eq_true rfl) ⟨Nat.le_refl _, Nat.le_refl _⟩ dX12_readsText_70 ?_
              refine J_bipush (v := nI 59) dX12_readsText_73 (by decide) ?_
              refine J_icmp_eq 90 dX12_readsText_75 (by decide) (fun c => absurd c ksz4) (fun _ => ?_)
              refine J_aload_n dX12_readsText_78 rfl rfl ?_
              refine Mg_8 dX12_readsText_79 ?_
              refine J_iload_n dX12_readsText_82 rfl rfl ?_
              refine J_iconst (v := nI 0) dX12_readsText_83 (by decide) ?_
              refine Ms_8 (s := (su 10 (su 8 (su 7 s (fun _ => nI (rE1 (s 5) len p))) (upd (upd (s 8) 1 (nI r)) 1 (nI (r + cond (rW1 (s 5) len p) 1 0)))) yy33)) (upd (upd (s 8) 1 (nI r)) 1 (nI (r + cond (rW1 (s 5) len p) 1 0))) rfl 1 rfl (by omega) dX12_readsText_84 ?_
              refine J_ws (ws2 := (mW G o a (su 10 (su 8 (su 7 s (fun _ => nI (rE1 (s 5) len p))) (upd (upd (upd (s 8) 1 (nI r)) 1 (nI (r + cond (rW1 (s 5) len p) 1 0))) 1 (nI 0))) yy33))) (congrArg (mW G o a) ((su_sw (by decide)).trans (su_cg su_tw))) ?_
              refine J_aload_n dX12_readsText_85 rfl rfl ?_
              refine Mg_7 (s := (su 10 (su 8 (su 7 s (fun _ => nI (rE1 (s 5) len p))) (upd (upd (upd (s 8) 1 (nI r)) 1 (nI (r + cond (rW1 (s 5) len p) 1 0))) 1 (nI 0))) yy33)) (nI (rE1 (s 5) len p)) rfl dX12_readsText_86 ?_
              exact J_iret dX12_readsText_89 rfl rfl rfl (hq _ _ _ _ (by rw [← hsc, scT1_sep hmx hW ksz3 ksz4]) (by rw [← hsc, scT1_sep hmx hW ksz3 ksz4, fa_upd_twice, fa_upd_twice]) (by rw [← hsc, scT1_sep hmx hW ksz3 ksz4]; exact fun j hj => absurd hj (Nat.not_lt_zero _)))
        · refine J_iload_n dX12_readsText_37 rfl rfl ?_
          have hW : rW1 (s 5) len p = false := Bool.eq_false_iff.mpr ksz2
          refine J_if_eqB 58 dX12_readsText_38 (by decide) (fun _ => ?_) (fun c => absurd c (by rw [hW]; decide))
          refine J_iconst (v := nI 0) dX12_readsText_58 (by decide) ?_
          refine J_istore_n [(0, .ref o), (1, .int (nI 1)), (2, .int (nI 0)), (3, .int (bI (rW1 (s 5) len p)))] dX12_readsText_59 rfl (by decide) rfl rfl rfl ?_
          refine J_iload_n dX12_readsText_60 rfl rfl ?_
          refine J_if_eqB 78 dX12_readsText_61 (by decide) (fun _ => ?_) (fun c => absurd c (by rw [hW]; decide))
          refine J_aload_n dX12_readsText_78 rfl rfl ?_
          refine Mg_8 dX12_readsText_79 ?_
          refine J_iload_n dX12_readsText_82 rfl rfl ?_
          refine J_iconst (v := nI 0) dX12_readsText_83 (by decide) ?_
          refine Ms_8 (s := (su 10 (su 8 (su 7 s (fun _ => nI (rE1 (s 5) len p))) (upd (upd (s 8) 1 (nI r)) 1 (nI (r + cond (rW1 (s 5) len p) 1 0)))) yy33)) (upd (upd (s 8) 1 (nI r)) 1 (nI (r + cond (rW1 (s 5) len p) 1 0))) rfl 1 rfl (by omega) dX12_readsText_84 ?_
          refine J_ws (ws2 := (mW G o a (su 10 (su 8 (su 7 s (fun _ => nI (rE1 (s 5) len p))) (upd (upd (upd (s 8) 1 (nI r)) 1 (nI (r + cond (rW1 (s 5) len p) 1 0))) 1 (nI 0))) yy33))) (congrArg (mW G o a) ((su_sw (by decide)).trans (su_cg su_tw))) ?_
          refine J_aload_n dX12_readsText_85 rfl rfl ?_
          refine Mg_7 (s := (su 10 (su 8 (su 7 s (fun _ => nI (rE1 (s 5) len p))) (upd (upd (upd (s 8) 1 (nI r)) 1 (nI (r + cond (rW1 (s 5) len p) 1 0))) 1 (nI 0))) yy33)) (nI (rE1 (s 5) len p)) rfl dX12_readsText_86 ?_
          exact J_iret dX12_readsText_89 rfl rfl rfl (hq _ _ _ _ (by rw [← hsc, scT1_bad hmx hW]) (by rw [← hsc, scT1_bad hmx hW, fa_upd_twice, fa_upd_twice]) (by rw [← hsc, scT1_bad hmx hW]; exact fun j hj => absurd hj (Nat.not_lt_zero _)))
    exact L27 60 0 0 (s 10) (by omega) (by omega) (by omega) (by unfold rdT; rw [if_neg hz]) rfl (fun j hj => absurd hj (Nat.not_lt_zero _)) _ _ rfl rfl
theorem c_X12_text1 {G : GT} (o : Nat) (a : Nat → Nat) (s : Nat → Nat → Int32) (len : Nat) (hlen : s 6 1 = nI len) (hl59 : len ≤ 23) : Ct G yX12_readsText cX12_readsText 4 (some .int) 0 0 5 [.ref o, .int (nI 1)] (mW G o a s) (fun v w => ∃ (z : Int32) (y : Nat → Int32), v = some (.int (rdT (s 5) 1 len).2) ∧ w = mW G o a (su 10 (su 8 (su 7 s (fun _ => z)) (upd (s 8) 1 (nI (rdT (s 5) 1 len).1))) y) ∧ (∀ j, j < (rdT (s 5) 1 len).1 → ∀ k, k < 3 → y (3 * j + k) = fE (s 5) len j k)) := Ct.of rfl (Nat.le_of_ble_eq_true rfl) (j_X12_text1 o a s len hlen hl59 (fun v_ w_ z y h1 h2 h3 => ⟨z, y, by rw [h1], h2, h3⟩))
set_option maxRecDepth 100000 in
set_option maxHeartbeats 1000000 in
theorem j_X12_text2 {G : GT} (o : Nat) (a : Nat → Nat) (s : Nat → Nat → Int32) (len : Nat) (hlen : s 6 2 = nI len) (hl59 : len ≤ 59) {Q : Option Value → va_W → Prop} (hq : ∀ (v_ : Int32) (w_ : va_W) (z : Int32) (y : Nat → Int32), v_ = (rdT (s 5) 2 len).2 → w_ = mW G o a (su 11 (su 8 (su 7 s (fun _ => z)) (upd (s 8) 2 (nI (rdT (s 5) 2 len).1))) y) → (∀ j, j < (rdT (s 5) 2 len).1 → ∀ k, k < 4 → y (4 * j + k) = fC (s 5) len j k) → Q (some (.int v_)) w_) : J G "readsText" RX12 cX12_readsText 4 (some .int) 0 0 5 Q 0 0 0 [(0, .ref o), (1, .int (nI 2))] [] (mW G o a s) := by
  refine J_aload_n dX12_readsText_0 rfl rfl ?_
  refine J_iconst (v := nI 0) dX12_readsText_1 (by decide) ?_
  refine Mp_7 dX12_readsText_2 ?_
  refine J_aload_n dX12_readsText_5 rfl rfl ?_
  refine Mg_8 dX12_readsText_6 ?_
  refine J_iload_n dX12_readsText_9 rfl rfl ?_
  refine J_iconst (v := nI 0) dX12_readsText_10 (by decide) ?_
  refine Ms_8 (s := (su 7 s (fun _ => nI 0))) (s 8) rfl 2 rfl (by omega) dX12_readsText_11 ?_
  by_cases ksz1 : len = 0
  · refine J_aload_n dX12_readsText_12 rfl rfl ?_
    refine Mg_6 dX12_readsText_13 ?_
    refine J_iload_n dX12_readsText_16 rfl rfl ?_
    refine Ml_6 (s := (su 8 (su 7 s (fun _ => nI 0)) (upd (s 8) 2 (nI 0)))) (s 6) rfl 2 rfl (by omega) dX12_readsText_17 ?_
    refine J_rw (y := nI len) hlen ?_
    have hz9 : nI len ≤ 0 := by rw [ksz1]; decide
    refine J_if_le 25 dX12_readsText_18 (by decide) (fun _ => ?_) (fun c => absurd hz9 c)
    refine J_iconst (v := nI 0) dX12_readsText_25 (by decide) ?_
    refine J_istore_n [(0, .ref o), (1, .int (nI 2)), (2, .int (nI 0))] dX12_readsText_26 rfl (by decide) rfl rfl rfl ?_
    refine J_iload_n dX12_readsText_27 rfl rfl ?_
    refine J_if_eq 111 dX12_readsText_28 (by decide) (fun _ => ?_) (fun c => absurd c (by decide))
    refine J_iconst (v := -1) dX12_readsText_111 (by decide) ?_
    exact J_iret dX12_readsText_112 rfl rfl rfl (hq _ _ (nI 0) (s 11) (by rw [rdT, if_pos ksz1]) (by rw [rdT, if_pos ksz1]; rfl) (fun j hj => absurd hj (by rw [rdT, if_pos ksz1]; exact Nat.not_lt_zero _)))
  · refine J_aload_n dX12_readsText_12 rfl rfl ?_
    refine Mg_6 dX12_readsText_13 ?_
    refine J_iload_n dX12_readsText_16 rfl rfl ?_
    refine Ml_6 (s := (su 8 (su 7 s (fun _ => nI 0)) (upd (s 8) 2 (nI 0)))) (s 6) rfl 2 rfl (by omega) dX12_readsText_17 ?_
    refine J_rw (y := nI len) hlen ?_
    have hz := ksz1
    have hz9 : ¬ nI len ≤ 0 := nI_nle (by omega) (by omega)
    refine J_if_le 25 dX12_readsText_18 (by decide) (fun c => absurd c hz9) (fun _ => ?_)
    refine J_iconst (v := nI 1) dX12_readsText_21 (by decide) ?_
    refine J_goto 26 dX12_readsText_22 (by decide) ?_
    refine J_istore_n [(0, .ref o), (1, .int (nI 2)), (2, .int (nI 1))] dX12_readsText_26 rfl (by decide) rfl rfl rfl ?_
    have L27 : ∀ (f r p : Nat) (ya : Nat → Int32), r + f = 60 → 4 * r ≤ p → p ≤ len → scT (s 5) 2 len f r p = rdT (s 5) 2 len → psT (s 5) 2 len r = p → (∀ j, j < r → ∀ k, k < 4 → ya (4 * j + k) = fC (s 5) len j k) → ∀ (y7 : Nat → Int32) (y8 : Nat → Int32), y7 = (fun _ => nI p) → y8 = (upd (s 8) 2 (nI r)) → J G "readsText" RX12 cX12_readsText 4 (some .int) 0 0 5 Q 0 0 27 [(0, .ref o), (1, .int (nI 2)), (2, .int (nI 1))] [] (mW G o a (su 11 (su 8 (su 7 s y7) y8) ya)) := by
      intro f
      induction f with
      | zero => intro r p ya hrf hrp hpl; exact absurd hrf (by omega)
      | succ f ih =>
        intro r p ya hrf hrp hpl hsc hps hyy y7 y8 g7 g8
        subst g7
        subst g8
        refine J_iload_n dX12_readsText_27 rfl rfl ?_
        refine J_if_eq 111 dX12_readsText_28 (by decide) (fun c => absurd c (by decide)) (fun _ => ?_)
        have hmx : ¬ r = 15 := (by omega)
        refine J_aload_n dX12_readsText_31 rfl rfl ?_
        refine J_iload_n dX12_readsText_32 rfl rfl ?_
        refine J_callV (wr := []) (As := [.int (nI 2)]) (st := []) 0 mv_X12_115 (c_X12_thing2 o a (su 11 (su 8 (su 7 s (fun _ => nI p)) (upd (s 8) 2 (nI r))) ya) len r p hlen (by omega) rfl (by omega) (show upd (s 8) 2 (nI r) 2 = nI r from pk_us) (by omega)) mW_0 rfl rfl rfl (by decide) (Nat.le_of_ble_eq_true rfl) ⟨Nat.le_refl _, Nat.le_refl _⟩ dX12_readsText_33 (fun v_ w_ h_ => ?_)
        obtain ⟨yy33, rfl, rfl, hyo, hyi⟩ := h_
        show J G "readsText" RX12 cX12_readsText 4 (some .int) 0 0 5 Q 0 0 36 [(0, .ref o), (1, .int (nI 2)), (2, .int (nI 1))] [.int (bI (rW2 (s 5) len p))] (mW G o a (su 11 (su 8 (su 7 (su 11 (su 8 (su 7 s (fun _ => nI p)) (upd (s 8) 2 (nI r))) ya) (fun _ => nI (rE2 (s 5) len p))) (upd (upd (s 8) 2 (nI r)) 2 (nI (r + cond (rW2 (s 5) len p) 1 0)))) yy33))
        refine J_ws (ws2 := (mW G o a (su 11 (su 8 (su 7 s (fun _ => nI (rE2 (s 5) len p))) (upd (upd (s 8) 2 (nI r)) 2 (nI (r + cond (rW2 (s 5) len p) 1 0)))) yy33))) (congrArg (mW G o a) (Eq.trans (Eq.trans (su_cg (su_cg ((su_sw (by decide)).trans (su_cg ((su_sw (by decide)).trans (su_cg su_tw)))))) (su_cg ((su_sw (by decide)).trans (su_cg su_tw)))) su_tw)) ?_
        refine J_istore_n [(0, .ref o), (1, .int (nI 2)), (2, .int (nI 1)), (3, .int (bI (rW2 (s 5) len p)))] dX12_readsText_36 rfl (by decide) rfl rfl rfl ?_
        by_cases ksz2 : rW2 (s 5) len p = true
        · refine J_iload_n dX12_readsText_37 rfl rfl ?_
          have hW := ksz2
          refine J_if_eqB 58 dX12_readsText_38 (by decide) (fun c => absurd c (by rw [hW]; decide)) (fun _ => ?_)
          by_cases ksz3 : len ≤ rE2 (s 5) len p
          · refine J_aload_n dX12_readsText_41 rfl rfl ?_
            refine Mg_7 (s := (su 11 (su 8 (su 7 s (fun _ => nI (rE2 (s 5) len p))) (upd (upd (s 8) 2 (nI r)) 2 (nI (r + cond (rW2 (s 5) len p) 1 0)))) yy33)) (nI (rE2 (s 5) len p)) rfl dX12_readsText_42 ?_
            refine J_aload_n dX12_readsText_45 rfl rfl ?_
            refine Mg_6 dX12_readsText_46 ?_
            refine J_iload_n dX12_readsText_49 rfl rfl ?_
            refine Ml_6 (s := (su 11 (su 8 (su 7 s (fun _ => nI (rE2 (s 5) len p))) (upd (upd (s 8) 2 (nI r)) 2 (nI (r + cond (rW2 (s 5) len p) 1 0)))) yy33)) (s 6) rfl 2 rfl (by omega) dX12_readsText_50 ?_
            refine J_rw (y := nI len) hlen ?_
            refine J_icmp_geN 58 (by have := rE2_le (s 5) len p; omega) (by omega) dX12_readsText_51 (by decide) (fun _ => ?_) (fun c => absurd ksz3 c)
            refine J_iconst (v := nI 0) dX12_readsText_58 (by decide) ?_
            refine J_istore_n [(0, .ref o), (1, .int (nI 2)), (2, .int (nI 0)), (3, .int (bI (rW2 (s 5) len p)))] dX12_readsText_59 rfl (by decide) rfl rfl rfl ?_
            refine J_iload_n dX12_readsText_60 rfl rfl ?_
            refine J_if_eqB 78 dX12_readsText_61 (by decide) (fun c => absurd c (by rw [hW]; decide)) (fun _ => ?_)
            refine J_iload_n dX12_readsText_64 rfl rfl ?_
            refine J_if_eq 90 dX12_readsText_65 (by decide) (fun _ => ?_) (fun c => absurd c (by decide))
            refine J_aload_n dX12_readsText_90 rfl rfl ?_
            refine J_dup dX12_readsText_91 rfl ?_
            refine Mg_7 (s := (su 11 (su 8 (su 7 s (fun _ => nI (rE2 (s 5) len p))) (upd (upd (s 8) 2 (nI r)) 2 (nI (r + cond (rW2 (s 5) len p) 1 0)))) yy33)) (nI (rE2 (s 5) len p)) rfl dX12_readsText_92 ?_
            refine J_iload_n dX12_readsText_95 rfl rfl ?_
            refine J_if_eq 103 dX12_readsText_96 (by decide) (fun _ => ?_) (fun c => absurd c (by decide))
            refine J_iconst (v := nI 0) dX12_readsText_103 (by decide) ?_
            refine J_iaddN dX12_readsText_104 ?_
            refine Mp_7 dX12_readsText_105 ?_
            refine J_ws (ws2 := (mW G o a (su 11 (su 8 (su 7 s (fun _ => nI (rE2 (s 5) len p + 0))) (upd (upd (s 8) 2 (nI r)) 2 (nI (r + cond (rW2 (s 5) len p) 1 0)))) yy33))) (congrArg (mW G o a) ((su_sw (by decide)).trans (su_cg ((su_sw (by decide)).trans (su_cg su_tw))))) ?_
            refine J_goto 27 dX12_readsText_108 (by decide) ?_
            refine J_iload_n dX12_readsText_27 rfl rfl ?_
            refine J_if_eq 111 dX12_readsText_28 (by decide) (fun _ => ?_) (fun c => absurd c (by decide))
            refine J_iconst (v := -1) dX12_readsText_111 (by decide) ?_
            exact J_iret dX12_readsText_112 rfl rfl rfl (hq _ _ _ _ (by rw [← hsc, scT2_end hmx hW ksz3]) (by rw [← hsc, scT2_end hmx hW ksz3, fa_upd_twice, hW]; rfl) (by rw [← hsc, scT2_end hmx hW ksz3]; exact rows_next2 hps hyy hyo (hyi hW)))
          · refine J_aload_n dX12_readsText_41 rfl rfl ?_
            refine Mg_7 (s := (su 11 (su 8 (su 7 s (fun _ => nI (rE2 (s 5) len p))) (upd (upd (s 8) 2 (nI r)) 2 (nI (r + cond (rW2 (s 5) len p) 1 0)))) yy33)) (nI (rE2 (s 5) len p)) rfl dX12_readsText_42 ?_
            refine J_aload_n dX12_readsText_45 rfl rfl ?_
            refine Mg_6 dX12_readsText_46 ?_
            refine J_iload_n dX12_readsText_49 rfl rfl ?_
            refine Ml_6 (s := (su 11 (su 8 (su 7 s (fun _ => nI (rE2 (s 5) len p))) (upd (upd (s 8) 2 (nI r)) 2 (nI (r + cond (rW2 (s 5) len p) 1 0)))) yy33)) (s 6) rfl 2 rfl (by omega) dX12_readsText_50 ?_
            refine J_rw (y := nI len) hlen ?_
            refine J_icmp_geN 58 (by have := rE2_le (s 5) len p; omega) (by omega) dX12_readsText_51 (by decide) (fun c => absurd c ksz3) (fun _ => ?_)
            refine J_iconst (v := nI 1) dX12_readsText_54 (by decide) ?_
            refine J_goto 59 dX12_readsText_55 (by decide) ?_
            refine J_istore_n [(0, .ref o), (1, .int (nI 2)), (2, .int (nI 1)), (3, .int (bI (rW2 (s 5) len p)))] dX12_readsText_59 rfl (by decide) rfl rfl rfl ?_
            refine J_iload_n dX12_readsText_60 rfl rfl ?_
            refine J_if_eqB 78 dX12_readsText_61 (by decide) (fun c => absurd c (by rw [hW]; decide)) (fun _ => ?_)
            refine J_iload_n dX12_readsText_64 rfl rfl ?_
            refine J_if_eq 90 dX12_readsText_65 (by decide) (fun c => absurd c (by decide)) (fun _ => ?_)
            by_cases ksz4 : bA (s 5) 2 len (rE2 (s 5) len p) = nI 59
            · refine J_aload_n dX12_readsText_68 rfl rfl ?_
              refine J_iload_n dX12_readsText_69 rfl rfl ?_
              refine J_cVi (x := yX12_in) [.int (nI 2)] 0 mv_X12_100 (c_X12_here o a (su 11 (su 8 (su 7 s (fun _ => nI (rE2 (s 5) len p))) (upd (upd (s 8) 2 (nI r)) 2 (nI (r + cond (rW2 (s 5) len p) 1 0)))) yy33) 2 len (rE2 (s 5) len p) (by decide) hlen (by omega) rfl (by first | omega | (have := rE0_le (s 5) len p; have := rE1_le (s 5) len p; have := rE2_le (s 5) len p; omega))) mW_0 rfl rfl (by decide) (Nat.le_of_ble_eq_true rfl) ⟨Nat.le_refl _, Nat.le_refl _⟩ dX12_readsText_70 ?_
              refine J_bipush (v := nI 59) dX12_readsText_73 (by decide) ?_
              refine J_icmp_eq 90 dX12_readsText_75 (by decide) (fun _ => ?_) (fun c => absurd ksz4 c)
              refine J_aload_n dX12_readsText_90 rfl rfl ?_
              refine J_dup dX12_readsText_91 rfl ?_
              refine Mg_7 (s := (su 11 (su 8 (su 7 s (fun _ => nI (rE2 (s 5) len p))) (upd (upd (s 8) 2 (nI r)) 2 (nI (r + cond (rW2 (s 5) len p) 1 0)))) yy33)) (nI (rE2 (s 5) len p)) rfl dX12_readsText_92 ?_
              refine J_iload_n dX12_readsText_95 rfl rfl ?_
              refine J_if_eq 103 dX12_readsText_96 (by decide) (fun c => absurd c (by decide)) (fun _ => ?_)
              refine J_iconst (v := nI 1) dX12_readsText_99 (by decide) ?_
              refine J_goto 104 dX12_readsText_100 (by decide) ?_
              refine J_iaddN dX12_readsText_104 ?_
              refine Mp_7 dX12_readsText_105 ?_
              refine J_ws (ws2 := (mW G o a (su 11 (su 8 (su 7 s (fun _ => nI (rE2 (s 5) len p + 1))) (upd (upd (s 8) 2 (nI r)) 2 (nI (r + cond (rW2 (s 5) len p) 1 0)))) yy33))) (congrArg (mW G o a) ((su_sw (by decide)).trans (su_cg ((su_sw (by decide)).trans (su_cg su_tw))))) ?_
              refine J_goto 27 dX12_readsText_108 (by decide) ?_
              refine J_lv [0, 1, 2] rfl ?_
              exact ih (r + 1) (rE2 (s 5) len p + 1) yy33 (by omega) (by have := rE2_ge (s 5) len p hW; omega) (by omega) (by rw [← hsc, scT2_go hmx hW ksz3 ksz4]) (by rw [psT2_s, hps]) (rows_next2 hps hyy hyo (hyi hW)) _ _ rfl (by rw [fa_upd_twice, hW]; rfl)
            · refine J_aload_n dX12_readsText_68 rfl rfl ?_
              refine J_iload_n dX12_readsText_69 rfl rfl ?_
              refine J_cVi (x := yX12_in) [.int (nI 2)] 0 mv_X12_100 (c_X12_here o a (su 11 (su 8 (su 7 s (fun _ => nI (rE2 (s 5) len p))) (upd (upd (s 8) 2 (nI r)) 2 (nI (r + cond (rW2 (s 5) len p) 1 0)))) yy33) 2 len (rE2 (s 5) len p) (by decide) hlen (by omega) rfl (by first | omega | (have := rE0_le (s 5) len p; have := rE1_le (s 5) len p; have := rE2_le (s 5) len p; omega))) mW_0 rfl rfl (by decide) (Nat.le_of_ble_eq_true rfl) ⟨Nat.le_refl _, Nat.le_refl _⟩ dX12_readsText_70 ?_
              refine J_bipush (v := nI 59) dX12_readsText_73 (by decide) ?_
              refine J_icmp_eq 90 dX12_readsText_75 (by decide) (fun c => absurd c ksz4) (fun _ => ?_)
              refine J_aload_n dX12_readsText_78 rfl rfl ?_
              refine Mg_8 dX12_readsText_79 ?_
              refine J_iload_n dX12_readsText_82 rfl rfl ?_
              refine J_iconst (v := nI 0) dX12_readsText_83 (by decide) ?_
              refine Ms_8 (s := (su 11 (su 8 (su 7 s (fun _ => nI (rE2 (s 5) len p))) (upd (upd (s 8) 2 (nI r)) 2 (nI (r + cond (rW2 (s 5) len p) 1 0)))) yy33)) (upd (upd (s 8) 2 (nI r)) 2 (nI (r + cond (rW2 (s 5) len p) 1 0))) rfl 2 rfl (by omega) dX12_readsText_84 ?_
              refine J_ws (ws2 := (mW G o a (su 11 (su 8 (su 7 s (fun _ => nI (rE2 (s 5) len p))) (upd (upd (upd (s 8) 2 (nI r)) 2 (nI (r + cond (rW2 (s 5) len p) 1 0))) 2 (nI 0))) yy33))) (congrArg (mW G o a) ((su_sw (by decide)).trans (su_cg su_tw))) ?_
              refine J_aload_n dX12_readsText_85 rfl rfl ?_
              refine Mg_7 (s := (su 11 (su 8 (su 7 s (fun _ => nI (rE2 (s 5) len p))) (upd (upd (upd (s 8) 2 (nI r)) 2 (nI (r + cond (rW2 (s 5) len p) 1 0))) 2 (nI 0))) yy33)) (nI (rE2 (s 5) len p)) rfl dX12_readsText_86 ?_
              exact J_iret dX12_readsText_89 rfl rfl rfl (hq _ _ _ _ (by rw [← hsc, scT2_sep hmx hW ksz3 ksz4]) (by rw [← hsc, scT2_sep hmx hW ksz3 ksz4, fa_upd_twice, fa_upd_twice]) (by rw [← hsc, scT2_sep hmx hW ksz3 ksz4]; exact fun j hj => absurd hj (Nat.not_lt_zero _)))
        · refine J_iload_n dX12_readsText_37 rfl rfl ?_
          have hW : rW2 (s 5) len p = false := Bool.eq_false_iff.mpr ksz2
          refine J_if_eqB 58 dX12_readsText_38 (by decide) (fun _ => ?_) (fun c => absurd c (by rw [hW]; decide))
          refine J_iconst (v := nI 0) dX12_readsText_58 (by decide) ?_
          refine J_istore_n [(0, .ref o), (1, .int (nI 2)), (2, .int (nI 0)), (3, .int (bI (rW2 (s 5) len p)))] dX12_readsText_59 rfl (by decide) rfl rfl rfl ?_
          refine J_iload_n dX12_readsText_60 rfl rfl ?_
          refine J_if_eqB 78 dX12_readsText_61 (by decide) (fun _ => ?_) (fun c => absurd c (by rw [hW]; decide))
          refine J_aload_n dX12_readsText_78 rfl rfl ?_
          refine Mg_8 dX12_readsText_79 ?_
          refine J_iload_n dX12_readsText_82 rfl rfl ?_
          refine J_iconst (v := nI 0) dX12_readsText_83 (by decide) ?_
          refine Ms_8 (s := (su 11 (su 8 (su 7 s (fun _ => nI (rE2 (s 5) len p))) (upd (upd (s 8) 2 (nI r)) 2 (nI (r + cond (rW2 (s 5) len p) 1 0)))) yy33)) (upd (upd (s 8) 2 (nI r)) 2 (nI (r + cond (rW2 (s 5) len p) 1 0))) rfl 2 rfl (by omega) dX12_readsText_84 ?_
          refine J_ws (ws2 := (mW G o a (su 11 (su 8 (su 7 s (fun _ => nI (rE2 (s 5) len p))) (upd (upd (upd (s 8) 2 (nI r)) 2 (nI (r + cond (rW2 (s 5) len p) 1 0))) 2 (nI 0))) yy33))) (congrArg (mW G o a) ((su_sw (by decide)).trans (su_cg su_tw))) ?_
          refine J_aload_n dX12_readsText_85 rfl rfl ?_
          refine Mg_7 (s := (su 11 (su 8 (su 7 s (fun _ => nI (rE2 (s 5) len p))) (upd (upd (upd (s 8) 2 (nI r)) 2 (nI (r + cond (rW2 (s 5) len p) 1 0))) 2 (nI 0))) yy33)) (nI (rE2 (s 5) len p)) rfl dX12_readsText_86 ?_
          exact J_iret dX12_readsText_89 rfl rfl rfl (hq _ _ _ _ (by rw [← hsc, scT2_bad hmx hW]) (by rw [← hsc, scT2_bad hmx hW, fa_upd_twice, fa_upd_twice]) (by rw [← hsc, scT2_bad hmx hW]; exact fun j hj => absurd hj (Nat.not_lt_zero _)))
    exact L27 60 0 0 (s 11) (by omega) (by omega) (by omega) (by unfold rdT; rw [if_neg hz]) rfl (fun j hj => absurd hj (Nat.not_lt_zero _)) _ _ rfl rfl
theorem c_X12_text2 {G : GT} (o : Nat) (a : Nat → Nat) (s : Nat → Nat → Int32) (len : Nat) (hlen : s 6 2 = nI len) (hl59 : len ≤ 59) : Ct G yX12_readsText cX12_readsText 4 (some .int) 0 0 5 [.ref o, .int (nI 2)] (mW G o a s) (fun v w => ∃ (z : Int32) (y : Nat → Int32), v = some (.int (rdT (s 5) 2 len).2) ∧ w = mW G o a (su 11 (su 8 (su 7 s (fun _ => z)) (upd (s 8) 2 (nI (rdT (s 5) 2 len).1))) y) ∧ (∀ j, j < (rdT (s 5) 2 len).1 → ∀ k, k < 4 → y (4 * j + k) = fC (s 5) len j k)) := Ct.of rfl (Nat.le_of_ble_eq_true rfl) (j_X12_text2 o a s len hlen hl59 (fun v_ w_ z y h1 h2 h3 => ⟨z, y, by rw [h1], h2, h3⟩))
set_option maxRecDepth 100000 in
set_option maxHeartbeats 1000000 in
theorem j_X12_reads {G : GT} (o : Nat) (a : Nat → Nat) (s : Nat → Nat → Int32) (l0 l1 l2 : Nat) (h0 : s 6 0 = nI l0) (h1 : s 6 1 = nI l1) (h2 : s 6 2 = nI l2) (hl0 : l0 ≤ 47) (hl1 : l1 ≤ 23) (hl2 : l2 ≤ 59) {Q : Option Value → va_W → Prop} (hq : ∀ x : Nat → Nat → Int32, Prs s x l0 l1 l2 → Q none (mW G o a x)) : J G "reads" RX12 cX12_reads 2 none 0 0 6 Q 0 0 0 [(0, .ref o)] [] (mW G o a s) := by
  refine J_iconst (v := nI 0) dX12_reads_0 (by decide) ?_
  refine J_istore_n [(0, .ref o), (1, .int (nI 0))] dX12_reads_1 rfl (by decide) rfl rfl rfl ?_
  refine J_iload_n dX12_reads_2 rfl rfl ?_
  refine J_iconst (v := nI 3) dX12_reads_3 (by decide) ?_
  refine J_icmp_ge 19 dX12_reads_4 (by decide) (fun c => absurd c (by decide)) (fun _ => ?_)
  refine J_aload_n dX12_reads_7 rfl rfl ?_
  refine J_iload_n dX12_reads_8 rfl rfl ?_
  refine J_callV (wr := []) (As := [.int (nI 0)]) (st := []) 0 mv_X12_118 (c_X12_text0 o a s l0 h0 hl0) mW_0 rfl rfl rfl (by decide) (Nat.le_of_ble_eq_true rfl) ⟨Nat.le_refl _, Nat.le_refl _⟩ dX12_reads_9 (fun v_ w_ h_ => ?_)
  obtain ⟨z9_0, y9_0, rfl, rfl, hy9_0⟩ := h_
  show J G "reads" RX12 cX12_reads 2 none 0 0 6 Q 0 0 12 [(0, .ref o), (1, .int (nI 0))] [.int ((rdT (s 5) 0 l0).2)] (mW G o a (su 9 (su 8 (su 7 s (fun _ => z9_0)) (upd (s 8) 0 (nI (rdT (s 5) 0 l0).1))) y9_0))
  refine J_pop dX12_reads_12 rfl ?_
  refine J_iincN [(0, .ref o), (1, .int (nI 1))] dX12_reads_13 rfl (by decide) rfl rfl rfl ?_
  refine J_goto 2 dX12_reads_16 (by decide) ?_
  refine J_iload_n dX12_reads_2 rfl rfl ?_
  refine J_iconst (v := nI 3) dX12_reads_3 (by decide) ?_
  refine J_icmp_ge 19 dX12_reads_4 (by decide) (fun c => absurd c (by decide)) (fun _ => ?_)
  refine J_aload_n dX12_reads_7 rfl rfl ?_
  refine J_iload_n dX12_reads_8 rfl rfl ?_
  refine J_callV (wr := []) (As := [.int (nI 1)]) (st := []) 0 mv_X12_118 (c_X12_text1 o a (su 9 (su 8 (su 7 s (fun _ => z9_0)) (upd (s 8) 0 (nI (rdT (s 5) 0 l0).1))) y9_0) l1 h1 hl1) mW_0 rfl rfl rfl (by decide) (Nat.le_of_ble_eq_true rfl) ⟨Nat.le_refl _, Nat.le_refl _⟩ dX12_reads_9 (fun v_ w_ h_ => ?_)
  obtain ⟨z9_1, y9_1, rfl, rfl, hy9_1⟩ := h_
  show J G "reads" RX12 cX12_reads 2 none 0 0 6 Q 0 0 12 [(0, .ref o), (1, .int (nI 1))] [.int ((rdT (s 5) 1 l1).2)] (mW G o a (su 10 (su 8 (su 7 (su 9 (su 8 (su 7 s (fun _ => z9_0)) (upd (s 8) 0 (nI (rdT (s 5) 0 l0).1))) y9_0) (fun _ => z9_1)) (upd (upd (s 8) 0 (nI (rdT (s 5) 0 l0).1)) 1 (nI (rdT (s 5) 1 l1).1))) y9_1))
  refine J_ws (ws2 := (mW G o a (su 10 (su 9 (su 8 (su 7 s (fun _ => z9_1)) (upd (upd (s 8) 0 (nI (rdT (s 5) 0 l0).1)) 1 (nI (rdT (s 5) 1 l1).1))) y9_0) y9_1))) (congrArg (mW G o a) (Eq.trans (su_cg (su_cg ((su_sw (by decide)).trans (su_cg ((su_sw (by decide)).trans (su_cg su_tw)))))) (su_cg ((su_sw (by decide)).trans (su_cg su_tw))))) ?_
  refine J_pop dX12_reads_12 rfl ?_
  refine J_iincN [(0, .ref o), (1, .int (nI 2))] dX12_reads_13 rfl (by decide) rfl rfl rfl ?_
  refine J_goto 2 dX12_reads_16 (by decide) ?_
  refine J_iload_n dX12_reads_2 rfl rfl ?_
  refine J_iconst (v := nI 3) dX12_reads_3 (by decide) ?_
  refine J_icmp_ge 19 dX12_reads_4 (by decide) (fun c => absurd c (by decide)) (fun _ => ?_)
  refine J_aload_n dX12_reads_7 rfl rfl ?_
  refine J_iload_n dX12_reads_8 rfl rfl ?_
  refine J_callV (wr := []) (As := [.int (nI 2)]) (st := []) 0 mv_X12_118 (c_X12_text2 o a (su 10 (su 9 (su 8 (su 7 s (fun _ => z9_1)) (upd (upd (s 8) 0 (nI (rdT (s 5) 0 l0).1)) 1 (nI (rdT (s 5) 1 l1).1))) y9_0) y9_1) l2 h2 hl2) mW_0 rfl rfl rfl (by decide) (Nat.le_of_ble_eq_true rfl) ⟨Nat.le_refl _, Nat.le_refl _⟩ dX12_reads_9 (fun v_ w_ h_ => ?_)
  obtain ⟨z9_2, y9_2, rfl, rfl, hy9_2⟩ := h_
  show J G "reads" RX12 cX12_reads 2 none 0 0 6 Q 0 0 12 [(0, .ref o), (1, .int (nI 2))] [.int ((rdT (s 5) 2 l2).2)] (mW G o a (su 11 (su 8 (su 7 (su 10 (su 9 (su 8 (su 7 s (fun _ => z9_1)) (upd (upd (s 8) 0 (nI (rdT (s 5) 0 l0).1)) 1 (nI (rdT (s 5) 1 l1).1))) y9_0) y9_1) (fun _ => z9_2)) (upd (upd (upd (s 8) 0 (nI (rdT (s 5) 0 l0).1)) 1 (nI (rdT (s 5) 1 l1).1)) 2 (nI (rdT (s 5) 2 l2).1))) y9_2))
  refine J_ws (ws2 := (mW G o a (su 11 (su 10 (su 9 (su 8 (su 7 s (fun _ => z9_2)) (upd (upd (upd (s 8) 0 (nI (rdT (s 5) 0 l0).1)) 1 (nI (rdT (s 5) 1 l1).1)) 2 (nI (rdT (s 5) 2 l2).1))) y9_0) y9_1) y9_2))) (congrArg (mW G o a) (Eq.trans (su_cg (su_cg ((su_sw (by decide)).trans (su_cg ((su_sw (by decide)).trans (su_cg ((su_sw (by decide)).trans (su_cg su_tw)))))))) (su_cg ((su_sw (by decide)).trans (su_cg ((su_sw (by decide)).trans (su_cg su_tw))))))) ?_
  refine J_pop dX12_reads_12 rfl ?_
  refine J_iincN [(0, .ref o), (1, .int (nI 3))] dX12_reads_13 rfl (by decide) rfl rfl rfl ?_
  refine J_goto 2 dX12_reads_16 (by decide) ?_
  refine J_iload_n dX12_reads_2 rfl rfl ?_
  refine J_iconst (v := nI 3) dX12_reads_3 (by decide) ?_
  refine J_icmp_ge 19 dX12_reads_4 (by decide) (fun _ => ?_) (fun c => absurd c (by decide))
  exact J_vret dX12_reads_19 rfl rfl rfl (hq _ ⟨fun k hk => prs_k hk, rfl, rfl, rfl, hy9_0, hy9_1, hy9_2⟩)
theorem c_X12_reads {G : GT} (o : Nat) (a : Nat → Nat) (s : Nat → Nat → Int32) (l0 l1 l2 : Nat) (h0 : s 6 0 = nI l0) (h1 : s 6 1 = nI l1) (h2 : s 6 2 = nI l2) (hl0 : l0 ≤ 47) (hl1 : l1 ≤ 23) (hl2 : l2 ≤ 59) : Ct G yX12_reads cX12_reads 2 none 0 0 6 [.ref o] (mW G o a s) (fun v w => ∃ x : Nat → Nat → Int32, v = none ∧ w = mW G o a x ∧ Prs s x l0 l1 l2) := Ct.of rfl (Nat.le_of_ble_eq_true rfl) (j_X12_reads o a s l0 l1 l2 h0 h1 h2 hl0 hl1 hl2 (fun x h => ⟨x, rfl, rfl, h⟩))
set_option maxRecDepth 100000 in
set_option maxHeartbeats 1000000 in
theorem j_X12_fault0 {G : GT} (o : Nat) (a : Nat → Nat) (s : Nat → Nat → Int32) (l0 l1 l2 : Nat) (h0 : s 6 0 = nI l0) (h1 : s 6 1 = nI l1) (h2 : s 6 2 = nI l2) (hl0 : l0 ≤ 47) (hl1 : l1 ≤ 23) (hl2 : l2 ≤ 59) {Q : Option Value → va_W → Prop} (hq : ∀ (x : Nat → Nat → Int32), Keep s x → Q (some (.int (rdT (s 5) 0 l0).2)) (mW G o a x)) : J G "fault" RX12 cX12_fault 2 (some .int) 0 0 6 Q 0 0 0 [(0, .ref o), (1, .int (nI 0))] [] (mW G o a s) := by
  refine J_iload_n dX12_fault_0 rfl rfl ?_
  refine J_cSi [.int (nI 0)] ms_X12_86 (c_X12_isText (mW G o a s) (nI 0)) rfl rfl (by decide) (Nat.le_of_ble_eq_true rfl) ⟨Nat.le_refl _, Nat.le_refl _⟩ dX12_fault_1 ?_
  refine J_rw (y := bI true) (congrArg bI (by decide +kernel)) ?_
  refine J_if_eq 15 dX12_fault_4 (by decide) (fun c => absurd c (by decide)) (fun _ => ?_)
  refine J_aload_n dX12_fault_7 rfl rfl ?_
  refine J_iload_n dX12_fault_8 rfl rfl ?_
  refine J_callV (wr := []) (As := [.int (nI 0)]) (st := []) 0 mv_X12_118 (c_X12_text0 o a s l0 h0 hl0) mW_0 rfl rfl rfl (by decide) (Nat.le_of_ble_eq_true rfl) ⟨Nat.le_refl _, Nat.le_refl _⟩ dX12_fault_9 (fun v_ w_ h_ => ?_)
  obtain ⟨z9_0, y9_0, rfl, rfl, hy9_0⟩ := h_
  show J G "fault" RX12 cX12_fault 2 (some .int) 0 0 6 Q 0 0 12 [(0, .ref o), (1, .int (nI 0))] [.int ((rdT (s 5) 0 l0).2)] (mW G o a (su 9 (su 8 (su 7 s (fun _ => z9_0)) (upd (s 8) 0 (nI (rdT (s 5) 0 l0).1))) y9_0))
  refine J_goto 17 dX12_fault_12 (by decide) ?_
  exact J_iret dX12_fault_17 rfl rfl rfl (hq _ (keep_txt (by decide)))
theorem c_X12_fault0 {G : GT} (o : Nat) (a : Nat → Nat) (s : Nat → Nat → Int32) (l0 l1 l2 : Nat) (h0 : s 6 0 = nI l0) (h1 : s 6 1 = nI l1) (h2 : s 6 2 = nI l2) (hl0 : l0 ≤ 47) (hl1 : l1 ≤ 23) (hl2 : l2 ≤ 59) : Ct G yX12_fault cX12_fault 2 (some .int) 0 0 6 [.ref o, .int (nI 0)] (mW G o a s) (fun v w => ∃ x : Nat → Nat → Int32, v = some (.int (rdT (s 5) 0 l0).2) ∧ w = mW G o a x ∧ Keep s x) := Ct.of rfl (Nat.le_of_ble_eq_true rfl) (j_X12_fault0 o a s l0 l1 l2 h0 h1 h2 hl0 hl1 hl2 (fun x h => ⟨x, rfl, rfl, h⟩))
set_option maxRecDepth 100000 in
set_option maxHeartbeats 1000000 in
theorem j_X12_fault1 {G : GT} (o : Nat) (a : Nat → Nat) (s : Nat → Nat → Int32) (l0 l1 l2 : Nat) (h0 : s 6 0 = nI l0) (h1 : s 6 1 = nI l1) (h2 : s 6 2 = nI l2) (hl0 : l0 ≤ 47) (hl1 : l1 ≤ 23) (hl2 : l2 ≤ 59) {Q : Option Value → va_W → Prop} (hq : ∀ (x : Nat → Nat → Int32), Keep s x → Q (some (.int (rdT (s 5) 1 l1).2)) (mW G o a x)) : J G "fault" RX12 cX12_fault 2 (some .int) 0 0 6 Q 0 0 0 [(0, .ref o), (1, .int (nI 1))] [] (mW G o a s) := by
  refine J_iload_n dX12_fault_0 rfl rfl ?_
  refine J_cSi [.int (nI 1)] ms_X12_86 (c_X12_isText (mW G o a s) (nI 1)) rfl rfl (by decide) (Nat.le_of_ble_eq_true rfl) ⟨Nat.le_refl _, Nat.le_refl _⟩ dX12_fault_1 ?_
  refine J_rw (y := bI true) (congrArg bI (by decide +kernel)) ?_
  refine J_if_eq 15 dX12_fault_4 (by decide) (fun c => absurd c (by decide)) (fun _ => ?_)
  refine J_aload_n dX12_fault_7 rfl rfl ?_
  refine J_iload_n dX12_fault_8 rfl rfl ?_
  refine J_callV (wr := []) (As := [.int (nI 1)]) (st := []) 0 mv_X12_118 (c_X12_text1 o a s l1 h1 hl1) mW_0 rfl rfl rfl (by decide) (Nat.le_of_ble_eq_true rfl) ⟨Nat.le_refl _, Nat.le_refl _⟩ dX12_fault_9 (fun v_ w_ h_ => ?_)
  obtain ⟨z9_1, y9_1, rfl, rfl, hy9_1⟩ := h_
  show J G "fault" RX12 cX12_fault 2 (some .int) 0 0 6 Q 0 0 12 [(0, .ref o), (1, .int (nI 1))] [.int ((rdT (s 5) 1 l1).2)] (mW G o a (su 10 (su 8 (su 7 s (fun _ => z9_1)) (upd (s 8) 1 (nI (rdT (s 5) 1 l1).1))) y9_1))
  refine J_goto 17 dX12_fault_12 (by decide) ?_
  exact J_iret dX12_fault_17 rfl rfl rfl (hq _ (keep_txt (by decide)))
theorem c_X12_fault1 {G : GT} (o : Nat) (a : Nat → Nat) (s : Nat → Nat → Int32) (l0 l1 l2 : Nat) (h0 : s 6 0 = nI l0) (h1 : s 6 1 = nI l1) (h2 : s 6 2 = nI l2) (hl0 : l0 ≤ 47) (hl1 : l1 ≤ 23) (hl2 : l2 ≤ 59) : Ct G yX12_fault cX12_fault 2 (some .int) 0 0 6 [.ref o, .int (nI 1)] (mW G o a s) (fun v w => ∃ x : Nat → Nat → Int32, v = some (.int (rdT (s 5) 1 l1).2) ∧ w = mW G o a x ∧ Keep s x) := Ct.of rfl (Nat.le_of_ble_eq_true rfl) (j_X12_fault1 o a s l0 l1 l2 h0 h1 h2 hl0 hl1 hl2 (fun x h => ⟨x, rfl, rfl, h⟩))
set_option maxRecDepth 100000 in
set_option maxHeartbeats 1000000 in
theorem j_X12_fault2 {G : GT} (o : Nat) (a : Nat → Nat) (s : Nat → Nat → Int32) (l0 l1 l2 : Nat) (h0 : s 6 0 = nI l0) (h1 : s 6 1 = nI l1) (h2 : s 6 2 = nI l2) (hl0 : l0 ≤ 47) (hl1 : l1 ≤ 23) (hl2 : l2 ≤ 59) {Q : Option Value → va_W → Prop} (hq : ∀ (x : Nat → Nat → Int32), Keep s x → Q (some (.int (rdT (s 5) 2 l2).2)) (mW G o a x)) : J G "fault" RX12 cX12_fault 2 (some .int) 0 0 6 Q 0 0 0 [(0, .ref o), (1, .int (nI 2))] [] (mW G o a s) := by
  refine J_iload_n dX12_fault_0 rfl rfl ?_
  refine J_cSi [.int (nI 2)] ms_X12_86 (c_X12_isText (mW G o a s) (nI 2)) rfl rfl (by decide) (Nat.le_of_ble_eq_true rfl) ⟨Nat.le_refl _, Nat.le_refl _⟩ dX12_fault_1 ?_
  refine J_rw (y := bI true) (congrArg bI (by decide +kernel)) ?_
  refine J_if_eq 15 dX12_fault_4 (by decide) (fun c => absurd c (by decide)) (fun _ => ?_)
  refine J_aload_n dX12_fault_7 rfl rfl ?_
  refine J_iload_n dX12_fault_8 rfl rfl ?_
  refine J_callV (wr := []) (As := [.int (nI 2)]) (st := []) 0 mv_X12_118 (c_X12_text2 o a s l2 h2 hl2) mW_0 rfl rfl rfl (by decide) (Nat.le_of_ble_eq_true rfl) ⟨Nat.le_refl _, Nat.le_refl _⟩ dX12_fault_9 (fun v_ w_ h_ => ?_)
  obtain ⟨z9_2, y9_2, rfl, rfl, hy9_2⟩ := h_
  show J G "fault" RX12 cX12_fault 2 (some .int) 0 0 6 Q 0 0 12 [(0, .ref o), (1, .int (nI 2))] [.int ((rdT (s 5) 2 l2).2)] (mW G o a (su 11 (su 8 (su 7 s (fun _ => z9_2)) (upd (s 8) 2 (nI (rdT (s 5) 2 l2).1))) y9_2))
  refine J_goto 17 dX12_fault_12 (by decide) ?_
  exact J_iret dX12_fault_17 rfl rfl rfl (hq _ (keep_txt (by decide)))
theorem c_X12_fault2 {G : GT} (o : Nat) (a : Nat → Nat) (s : Nat → Nat → Int32) (l0 l1 l2 : Nat) (h0 : s 6 0 = nI l0) (h1 : s 6 1 = nI l1) (h2 : s 6 2 = nI l2) (hl0 : l0 ≤ 47) (hl1 : l1 ≤ 23) (hl2 : l2 ≤ 59) : Ct G yX12_fault cX12_fault 2 (some .int) 0 0 6 [.ref o, .int (nI 2)] (mW G o a s) (fun v w => ∃ x : Nat → Nat → Int32, v = some (.int (rdT (s 5) 2 l2).2) ∧ w = mW G o a x ∧ Keep s x) := Ct.of rfl (Nat.le_of_ble_eq_true rfl) (j_X12_fault2 o a s l0 l1 l2 h0 h1 h2 hl0 hl1 hl2 (fun x h => ⟨x, rfl, rfl, h⟩))
