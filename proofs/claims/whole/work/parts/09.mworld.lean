def bI (b : Bool) : Int32 := cond b 1 0
theorem bI_nar (b : Bool) : narrow .boolean (.int (bI b)) = .int (bI b) := by cases b <;> decide
theorem bI_eq0 {b : Bool} : bI b = 0 ↔ b = false := by cases b <;> decide
theorem bI_ne0 {b : Bool} : ¬ bI b = 0 ↔ b = true := by cases b <;> decide
theorem nI0_bI : nI 0 = bI false := rfl
theorem nI1_bI : nI 1 = bI true := rfl
theorem bI_inj {a b : Bool} : bI a = bI b ↔ a = b := by cases a <;> cases b <;> decide
section JN
variable {G : GT} {nm own : String} {cc : ByteArray} {nL : Nat} {ret : Option FieldType} {mc ms d : Nat} {Q : Option Value → va_W → Prop} {k n pc : Nat} {lv : List (Nat × Value)} {st : List Value} {ws : va_W}
theorem J_rw {x y : Int32} (h : x = y) (K : J G nm own cc nL ret mc ms d Q k n pc lv (.int y :: st) ws) : J G nm own cc nL ret mc ms d Q k n pc lv (.int x :: st) ws := by subst h; exact K
theorem J_rwl {x y : Int64} (h : x = y) (K : J G nm own cc nL ret mc ms d Q k n pc lv (.long y :: st) ws) : J G nm own cc nL ret mc ms d Q k n pc lv (.long x :: st) ws := by subst h; exact K
theorem J_rw2 {x y : Int32} {v : Value} (h : x = y) (K : J G nm own cc nL ret mc ms d Q k n pc lv (v :: .int y :: st) ws) : J G nm own cc nL ret mc ms d Q k n pc lv (v :: .int x :: st) ws := by subst h; exact K
theorem J_iaddN {x y : Nat} (hd : decode cc pc = .ok (.iadd, 1)) (K : J G nm own cc nL ret mc ms d Q k n (pc + 1) lv (.int (nI (x + y)) :: st) ws) : J G nm own cc nL ret mc ms d Q k n pc lv (.int (nI y) :: .int (nI x) :: st) ws := J_iadd hd (J_rw (nI_add x y) K)
theorem J_imulN {x y : Nat} (hd : decode cc pc = .ok (.imul, 1)) (K : J G nm own cc nL ret mc ms d Q k n (pc + 1) lv (.int (nI (x * y)) :: st) ws) : J G nm own cc nL ret mc ms d Q k n pc lv (.int (nI y) :: .int (nI x) :: st) ws := J_imul hd (J_rw (pk_mul x y) K)
theorem J_isubN {x y : Nat} (hd : decode cc pc = .ok (.isub, 1)) (h : y ≤ x) (K : J G nm own cc nL ret mc ms d Q k n (pc + 1) lv (.int (nI (x - y)) :: st) ws) : J G nm own cc nL ret mc ms d Q k n pc lv (.int (nI y) :: .int (nI x) :: st) ws := J_isub hd (J_rw (pk_sub h) K)
theorem J_iincN {i x : Nat} (lv2 : List (Nat × Value)) (hd : decode cc pc = .ok (.iinc i 1, 3)) (hg : lget lv i = some (.int (nI x))) (hn : i < nL) (h1 : lnd lv = true) (h2 : lok1 lv i = true) (hl : lput lv i (.int (nI (x + 1))) = lv2) (K : J G nm own cc nL ret mc ms d Q k n (pc + 3) lv2 st ws) : J G nm own cc nL ret mc ms d Q k n pc lv st ws := J_iinc lv2 hd hg (nI_1 x) hn h1 h2 hl K
theorem J_icmp_eqN {x y : Nat} {off : Int} (tgt : Nat) (hx : x < 2 ^ 31) (hy : y < 2 ^ 31) (hd : decode cc pc = .ok (.if_icmp .eq off, 3)) (ht : (pc : Int) + off = (tgt : Int)) (K1 : x = y → J G nm own cc nL ret mc ms d Q k n tgt lv st ws) (K2 : ¬ x = y → J G nm own cc nL ret mc ms d Q k n (pc + 3) lv st ws) : J G nm own cc nL ret mc ms d Q k n pc lv (.int (nI y) :: .int (nI x) :: st) ws :=
  J_icmp_eq tgt hd ht (fun h => K1 ((nI_eq hx hy).mp h)) (fun h => K2 (fun q => h ((nI_eq hx hy).mpr q)))
theorem J_icmp_neN {x y : Nat} {off : Int} (tgt : Nat) (hx : x < 2 ^ 31) (hy : y < 2 ^ 31) (hd : decode cc pc = .ok (.if_icmp .ne off, 3)) (ht : (pc : Int) + off = (tgt : Int)) (K1 : ¬ x = y → J G nm own cc nL ret mc ms d Q k n tgt lv st ws) (K2 : x = y → J G nm own cc nL ret mc ms d Q k n (pc + 3) lv st ws) : J G nm own cc nL ret mc ms d Q k n pc lv (.int (nI y) :: .int (nI x) :: st) ws :=
  J_icmp_ne tgt hd ht (fun h => K1 ((not_congr (nI_eq hx hy)).mp h)) (fun h => K2 ((nI_eq hx hy).mp h))
theorem J_icmp_ltN {x y : Nat} {off : Int} (tgt : Nat) (hx : x < 2 ^ 31) (hy : y < 2 ^ 31) (hd : decode cc pc = .ok (.if_icmp .lt off, 3)) (ht : (pc : Int) + off = (tgt : Int)) (K1 : x < y → J G nm own cc nL ret mc ms d Q k n tgt lv st ws) (K2 : ¬ x < y → J G nm own cc nL ret mc ms d Q k n (pc + 3) lv st ws) : J G nm own cc nL ret mc ms d Q k n pc lv (.int (nI y) :: .int (nI x) :: st) ws :=
  J_icmp_lt tgt hd ht (fun h => K1 ((nI_ltI hx hy).mp h)) (fun h => K2 (fun q => h ((nI_ltI hx hy).mpr q)))
theorem J_icmp_geN {x y : Nat} {off : Int} (tgt : Nat) (hx : x < 2 ^ 31) (hy : y < 2 ^ 31) (hd : decode cc pc = .ok (.if_icmp .ge off, 3)) (ht : (pc : Int) + off = (tgt : Int)) (K1 : y ≤ x → J G nm own cc nL ret mc ms d Q k n tgt lv st ws) (K2 : ¬ y ≤ x → J G nm own cc nL ret mc ms d Q k n (pc + 3) lv st ws) : J G nm own cc nL ret mc ms d Q k n pc lv (.int (nI y) :: .int (nI x) :: st) ws :=
  J_icmp_ge tgt hd ht (fun h => K1 ((nI_leI hy hx).mp h)) (fun h => K2 (fun q => h ((nI_leI hy hx).mpr q)))
theorem J_icmp_gtN {x y : Nat} {off : Int} (tgt : Nat) (hx : x < 2 ^ 31) (hy : y < 2 ^ 31) (hd : decode cc pc = .ok (.if_icmp .gt off, 3)) (ht : (pc : Int) + off = (tgt : Int)) (K1 : y < x → J G nm own cc nL ret mc ms d Q k n tgt lv st ws) (K2 : ¬ y < x → J G nm own cc nL ret mc ms d Q k n (pc + 3) lv st ws) : J G nm own cc nL ret mc ms d Q k n pc lv (.int (nI y) :: .int (nI x) :: st) ws :=
  J_icmp_gt tgt hd ht (fun h => K1 ((nI_ltI hy hx).mp h)) (fun h => K2 (fun q => h ((nI_ltI hy hx).mpr q)))
theorem J_icmp_leN {x y : Nat} {off : Int} (tgt : Nat) (hx : x < 2 ^ 31) (hy : y < 2 ^ 31) (hd : decode cc pc = .ok (.if_icmp .le off, 3)) (ht : (pc : Int) + off = (tgt : Int)) (K1 : x ≤ y → J G nm own cc nL ret mc ms d Q k n tgt lv st ws) (K2 : ¬ x ≤ y → J G nm own cc nL ret mc ms d Q k n (pc + 3) lv st ws) : J G nm own cc nL ret mc ms d Q k n pc lv (.int (nI y) :: .int (nI x) :: st) ws :=
  J_icmp_le tgt hd ht (fun h => K1 ((nI_leI hx hy).mp h)) (fun h => K2 (fun q => h ((nI_leI hx hy).mpr q)))
theorem J_if_eqB {b : Bool} {off : Int} (tgt : Nat) (hd : decode cc pc = .ok (.ifCond .eq off, 3)) (ht : (pc : Int) + off = (tgt : Int)) (K1 : b = false → J G nm own cc nL ret mc ms d Q k n tgt lv st ws) (K2 : b = true → J G nm own cc nL ret mc ms d Q k n (pc + 3) lv st ws) : J G nm own cc nL ret mc ms d Q k n pc lv (.int (bI b) :: st) ws := J_if_eq tgt hd ht (fun h => K1 (bI_eq0.mp h)) (fun h => K2 (bI_ne0.mp h))
theorem J_if_neB {b : Bool} {off : Int} (tgt : Nat) (hd : decode cc pc = .ok (.ifCond .ne off, 3)) (ht : (pc : Int) + off = (tgt : Int)) (K1 : b = true → J G nm own cc nL ret mc ms d Q k n tgt lv st ws) (K2 : b = false → J G nm own cc nL ret mc ms d Q k n (pc + 3) lv st ws) : J G nm own cc nL ret mc ms d Q k n pc lv (.int (bI b) :: st) ws := J_if_ne tgt hd ht (fun h => K1 (bI_ne0.mp h)) (fun h => K2 (bI_eq0.mp h))
theorem J_zretB {b : Bool} (hd : decode cc pc = .ok (.ireturn, 1)) (hr : ret = some .boolean) (hk : k = mc) (hn : n = ms) (hq : Q (some (.int (bI b))) ws) : J G nm own cc nL ret mc ms d Q k n pc lv [.int (bI b)] ws := J_zret hd hr (bI_nar b) hk hn hq
end JN
/-- the state's component k becomes f -/
def su (k : Nat) (s : Nat → Nat → Int32) (f : Nat → Int32) : Nat → Nat → Int32 := fun j => cond (Nat.beq j k) f (s j)
theorem su_tw {k : Nat} {s : Nat → Nat → Int32} {f g : Nat → Int32} : su k (su k s f) g = su k s g := by
  funext j
  unfold su
  cases Nat.beq j k <;> rfl
theorem su_sw {k l : Nat} {s : Nat → Nat → Int32} {f g : Nat → Int32} (h : k ≠ l) : su k (su l s f) g = su l (su k s g) f := by
  funext j
  unfold su
  cases h1 : Nat.beq j k <;> cases h2 : Nat.beq j l <;> first | rfl | exact absurd ((Nat.eq_of_beq_eq_true h1).symm.trans (Nat.eq_of_beq_eq_true h2)) h
theorem su_cg {k : Nat} {s t : Nat → Nat → Int32} {f : Nat → Int32} (h : s = t) : su k s f = su k t f := by rw [h]
def mF (a : Nat → Nat) (s : Nat → Nat → Int32) : List Value := [.ref (a 0), .ref (a 1), .ref (a 2), .ref (a 3), .int (s 4 0), .ref (a 5), .ref (a 6), .int (s 7 0), .ref (a 8), .ref (a 9), .ref (a 10), .ref (a 11), .int (s 12 0), .ref (a 13), .int (s 14 0), .int (s 15 0), .ref (a 16), .ref (a 17), .int (s 18 0), .int (s 19 0), .int (s 20 0), .int (s 21 0), .ref (a 22), .ref (a 23), .int (s 24 0)]
def mW (G : GT) (o : Nat) (a : Nat → Nat) (s : Nat → Nat → Int32) : va_W := [(o, .inr (11, mF a s)), (a 0, .inl (gI G, 4, .inl (s 0))), (a 1, .inl (gI G, 4, .inl (s 1))), (a 2, .inl (gI G, 240, .inl (s 2))), (a 3, .inl (gI G, 60, .inl (s 3))), (a 5, .inl (gI G, 180, .inl (s 5))), (a 6, .inl (gI G, 3, .inl (s 6))), (a 8, .inl (gI G, 3, .inl (s 8))), (a 9, .inl (gI G, 40, .inl (s 9))), (a 10, .inl (gI G, 18, .inl (s 10))), (a 11, .inl (gI G, 64, .inl (s 11))), (a 13, .inl (gI G, 24, .inl (s 13))), (a 16, .inl (gI G, 42, .inl (s 16))), (a 17, .inl (gI G, 8, .inl (s 17))), (a 22, .inl (gI G, 24, .inl (s 22))), (a 23, .inl (gI G, 9, .inl (s 23)))]
section MWd
variable {G : GT} {nm : String} {cc : ByteArray} {nL : Nat} {ret : Option FieldType} {mc ms d : Nat} {Q : Option Value → va_W → Prop} {k n pc : Nat} {lv : List (Nat × Value)} {st : List Value} {o : Nat} {a : Nat → Nat} {s : Nat → Nat → Int32}
theorem mW_0 : (mW G o a s)[0]? = some (o, .inr (11, mF a s)) := rfl
theorem Mg_0 (hd : decode cc pc = .ok (.getfield 7, 3)) (K : J G nm RX12 cc nL ret mc ms d Q k n (pc + 3) lv (.ref (a 0) :: st) (mW G o a s)) : J G nm RX12 cc nL ret mc ms d Q k n pc lv (.ref o :: st) (mW G o a s) := J_get fr_X12_7_11 0 mW_0 rfl hd K
theorem Ml_0 (f : Nat → Int32) (hf : s 0 = f) {x : Int32} (j : Nat) (hx : x = nI j) (hj : j < 4) (hd : decode cc pc = .ok (.iaload, 1)) (K : J G nm RX12 cc nL ret mc ms d Q k n (pc + 1) lv (.int (f j) :: st) (mW G o a s)) : J G nm RX12 cc nL ret mc ms d Q k n pc lv (.int x :: .ref (a 0) :: st) (mW G o a s) := by
  subst hx; subst hf
  refine J_iald 1 rfl (vp_in_nI hj (by decide)) hd ?_
  rw [nI_clamp (Nat.lt_trans hj (by decide))]
  exact K
theorem Ms_0 (f : Nat → Int32) (hf : s 0 = f) {x v : Int32} (j : Nat) (hx : x = nI j) (hj : j < 4) (hd : decode cc pc = .ok (.iastore, 1)) (K : J G nm RX12 cc nL ret mc ms d Q k n (pc + 1) lv st (mW G o a (su 0 s (upd f j v)))) : J G nm RX12 cc nL ret mc ms d Q k n pc lv (.int v :: .int x :: .ref (a 0) :: st) (mW G o a s) := by
  subst hx; subst hf
  refine J_iast 1 (mW G o a (su 0 s (upd (s 0) j v))) rfl (vp_in_nI hj (by decide)) ?_ hd K
  rw [nI_clamp (Nat.lt_trans hj (by decide))]
  rfl
theorem Mg_1 (hd : decode cc pc = .ok (.getfield 13, 3)) (K : J G nm RX12 cc nL ret mc ms d Q k n (pc + 3) lv (.ref (a 1) :: st) (mW G o a s)) : J G nm RX12 cc nL ret mc ms d Q k n pc lv (.ref o :: st) (mW G o a s) := J_get fr_X12_13_11 0 mW_0 rfl hd K
theorem Ml_1 (f : Nat → Int32) (hf : s 1 = f) {x : Int32} (j : Nat) (hx : x = nI j) (hj : j < 4) (hd : decode cc pc = .ok (.iaload, 1)) (K : J G nm RX12 cc nL ret mc ms d Q k n (pc + 1) lv (.int (f j) :: st) (mW G o a s)) : J G nm RX12 cc nL ret mc ms d Q k n pc lv (.int x :: .ref (a 1) :: st) (mW G o a s) := by
  subst hx; subst hf
  refine J_iald 2 rfl (vp_in_nI hj (by decide)) hd ?_
  rw [nI_clamp (Nat.lt_trans hj (by decide))]
  exact K
theorem Ms_1 (f : Nat → Int32) (hf : s 1 = f) {x v : Int32} (j : Nat) (hx : x = nI j) (hj : j < 4) (hd : decode cc pc = .ok (.iastore, 1)) (K : J G nm RX12 cc nL ret mc ms d Q k n (pc + 1) lv st (mW G o a (su 1 s (upd f j v)))) : J G nm RX12 cc nL ret mc ms d Q k n pc lv (.int v :: .int x :: .ref (a 1) :: st) (mW G o a s) := by
  subst hx; subst hf
  refine J_iast 2 (mW G o a (su 1 s (upd (s 1) j v))) rfl (vp_in_nI hj (by decide)) ?_ hd K
  rw [nI_clamp (Nat.lt_trans hj (by decide))]
  rfl
theorem Mg_2 (hd : decode cc pc = .ok (.getfield 16, 3)) (K : J G nm RX12 cc nL ret mc ms d Q k n (pc + 3) lv (.ref (a 2) :: st) (mW G o a s)) : J G nm RX12 cc nL ret mc ms d Q k n pc lv (.ref o :: st) (mW G o a s) := J_get fr_X12_16_11 0 mW_0 rfl hd K
theorem Ml_2 (f : Nat → Int32) (hf : s 2 = f) {x : Int32} (j : Nat) (hx : x = nI j) (hj : j < 240) (hd : decode cc pc = .ok (.iaload, 1)) (K : J G nm RX12 cc nL ret mc ms d Q k n (pc + 1) lv (.int (f j) :: st) (mW G o a s)) : J G nm RX12 cc nL ret mc ms d Q k n pc lv (.int x :: .ref (a 2) :: st) (mW G o a s) := by
  subst hx; subst hf
  refine J_iald 3 rfl (vp_in_nI hj (by decide)) hd ?_
  rw [nI_clamp (Nat.lt_trans hj (by decide))]
  exact K
theorem Ms_2 (f : Nat → Int32) (hf : s 2 = f) {x v : Int32} (j : Nat) (hx : x = nI j) (hj : j < 240) (hd : decode cc pc = .ok (.iastore, 1)) (K : J G nm RX12 cc nL ret mc ms d Q k n (pc + 1) lv st (mW G o a (su 2 s (upd f j v)))) : J G nm RX12 cc nL ret mc ms d Q k n pc lv (.int v :: .int x :: .ref (a 2) :: st) (mW G o a s) := by
  subst hx; subst hf
  refine J_iast 3 (mW G o a (su 2 s (upd (s 2) j v))) rfl (vp_in_nI hj (by decide)) ?_ hd K
  rw [nI_clamp (Nat.lt_trans hj (by decide))]
  rfl
theorem Mg_3 (hd : decode cc pc = .ok (.getfield 19, 3)) (K : J G nm RX12 cc nL ret mc ms d Q k n (pc + 3) lv (.ref (a 3) :: st) (mW G o a s)) : J G nm RX12 cc nL ret mc ms d Q k n pc lv (.ref o :: st) (mW G o a s) := J_get fr_X12_19_11 0 mW_0 rfl hd K
theorem Ml_3 (f : Nat → Int32) (hf : s 3 = f) {x : Int32} (j : Nat) (hx : x = nI j) (hj : j < 60) (hd : decode cc pc = .ok (.iaload, 1)) (K : J G nm RX12 cc nL ret mc ms d Q k n (pc + 1) lv (.int (f j) :: st) (mW G o a s)) : J G nm RX12 cc nL ret mc ms d Q k n pc lv (.int x :: .ref (a 3) :: st) (mW G o a s) := by
  subst hx; subst hf
  refine J_iald 4 rfl (vp_in_nI hj (by decide)) hd ?_
  rw [nI_clamp (Nat.lt_trans hj (by decide))]
  exact K
theorem Ms_3 (f : Nat → Int32) (hf : s 3 = f) {x v : Int32} (j : Nat) (hx : x = nI j) (hj : j < 60) (hd : decode cc pc = .ok (.iastore, 1)) (K : J G nm RX12 cc nL ret mc ms d Q k n (pc + 1) lv st (mW G o a (su 3 s (upd f j v)))) : J G nm RX12 cc nL ret mc ms d Q k n pc lv (.int v :: .int x :: .ref (a 3) :: st) (mW G o a s) := by
  subst hx; subst hf
  refine J_iast 4 (mW G o a (su 3 s (upd (s 3) j v))) rfl (vp_in_nI hj (by decide)) ?_ hd K
  rw [nI_clamp (Nat.lt_trans hj (by decide))]
  rfl
theorem Mg_4 (v : Int32) (hv : s 4 0 = v) (hd : decode cc pc = .ok (.getfield 61, 3)) (K : J G nm RX12 cc nL ret mc ms d Q k n (pc + 3) lv (.int v :: st) (mW G o a s)) : J G nm RX12 cc nL ret mc ms d Q k n pc lv (.ref o :: st) (mW G o a s) := by
  subst hv
  exact J_get fr_X12_61_11 0 mW_0 rfl hd K
theorem Mp_4 {v : Int32} (hd : decode cc pc = .ok (.putfield 61, 3)) (K : J G nm RX12 cc nL ret mc ms d Q k n (pc + 3) lv st (mW G o a (su 4 s (fun _ => v)))) : J G nm RX12 cc nL ret mc ms d Q k n pc lv (.int v :: .ref o :: st) (mW G o a s) := J_put fr_X12_61_11 0 _ mW_0 rfl rfl (by show 4 < 25; decide) rfl hd K
theorem Mg_5 (hd : decode cc pc = .ok (.getfield 22, 3)) (K : J G nm RX12 cc nL ret mc ms d Q k n (pc + 3) lv (.ref (a 5) :: st) (mW G o a s)) : J G nm RX12 cc nL ret mc ms d Q k n pc lv (.ref o :: st) (mW G o a s) := J_get fr_X12_22_11 0 mW_0 rfl hd K
theorem Ml_5 (f : Nat → Int32) (hf : s 5 = f) {x : Int32} (j : Nat) (hx : x = nI j) (hj : j < 180) (hd : decode cc pc = .ok (.iaload, 1)) (K : J G nm RX12 cc nL ret mc ms d Q k n (pc + 1) lv (.int (f j) :: st) (mW G o a s)) : J G nm RX12 cc nL ret mc ms d Q k n pc lv (.int x :: .ref (a 5) :: st) (mW G o a s) := by
  subst hx; subst hf
  refine J_iald 5 rfl (vp_in_nI hj (by decide)) hd ?_
  rw [nI_clamp (Nat.lt_trans hj (by decide))]
  exact K
theorem Ms_5 (f : Nat → Int32) (hf : s 5 = f) {x v : Int32} (j : Nat) (hx : x = nI j) (hj : j < 180) (hd : decode cc pc = .ok (.iastore, 1)) (K : J G nm RX12 cc nL ret mc ms d Q k n (pc + 1) lv st (mW G o a (su 5 s (upd f j v)))) : J G nm RX12 cc nL ret mc ms d Q k n pc lv (.int v :: .int x :: .ref (a 5) :: st) (mW G o a s) := by
  subst hx; subst hf
  refine J_iast 5 (mW G o a (su 5 s (upd (s 5) j v))) rfl (vp_in_nI hj (by decide)) ?_ hd K
  rw [nI_clamp (Nat.lt_trans hj (by decide))]
  rfl
theorem Mg_6 (hd : decode cc pc = .ok (.getfield 25, 3)) (K : J G nm RX12 cc nL ret mc ms d Q k n (pc + 3) lv (.ref (a 6) :: st) (mW G o a s)) : J G nm RX12 cc nL ret mc ms d Q k n pc lv (.ref o :: st) (mW G o a s) := J_get fr_X12_25_11 0 mW_0 rfl hd K
theorem Ml_6 (f : Nat → Int32) (hf : s 6 = f) {x : Int32} (j : Nat) (hx : x = nI j) (hj : j < 3) (hd : decode cc pc = .ok (.iaload, 1)) (K : J G nm RX12 cc nL ret mc ms d Q k n (pc + 1) lv (.int (f j) :: st) (mW G o a s)) : J G nm RX12 cc nL ret mc ms d Q k n pc lv (.int x :: .ref (a 6) :: st) (mW G o a s) := by
  subst hx; subst hf
  refine J_iald 6 rfl (vp_in_nI hj (by decide)) hd ?_
  rw [nI_clamp (Nat.lt_trans hj (by decide))]
  exact K
theorem Ms_6 (f : Nat → Int32) (hf : s 6 = f) {x v : Int32} (j : Nat) (hx : x = nI j) (hj : j < 3) (hd : decode cc pc = .ok (.iastore, 1)) (K : J G nm RX12 cc nL ret mc ms d Q k n (pc + 1) lv st (mW G o a (su 6 s (upd f j v)))) : J G nm RX12 cc nL ret mc ms d Q k n pc lv (.int v :: .int x :: .ref (a 6) :: st) (mW G o a s) := by
  subst hx; subst hf
  refine J_iast 6 (mW G o a (su 6 s (upd (s 6) j v))) rfl (vp_in_nI hj (by decide)) ?_ hd K
  rw [nI_clamp (Nat.lt_trans hj (by decide))]
  rfl
theorem Mg_7 (v : Int32) (hv : s 7 0 = v) (hd : decode cc pc = .ok (.getfield 91, 3)) (K : J G nm RX12 cc nL ret mc ms d Q k n (pc + 3) lv (.int v :: st) (mW G o a s)) : J G nm RX12 cc nL ret mc ms d Q k n pc lv (.ref o :: st) (mW G o a s) := by
  subst hv
  exact J_get fr_X12_91_11 0 mW_0 rfl hd K
theorem Mp_7 {v : Int32} (hd : decode cc pc = .ok (.putfield 91, 3)) (K : J G nm RX12 cc nL ret mc ms d Q k n (pc + 3) lv st (mW G o a (su 7 s (fun _ => v)))) : J G nm RX12 cc nL ret mc ms d Q k n pc lv (.int v :: .ref o :: st) (mW G o a s) := J_put fr_X12_91_11 0 _ mW_0 rfl rfl (by show 7 < 25; decide) rfl hd K
theorem Mg_8 (hd : decode cc pc = .ok (.getfield 28, 3)) (K : J G nm RX12 cc nL ret mc ms d Q k n (pc + 3) lv (.ref (a 8) :: st) (mW G o a s)) : J G nm RX12 cc nL ret mc ms d Q k n pc lv (.ref o :: st) (mW G o a s) := J_get fr_X12_28_11 0 mW_0 rfl hd K
theorem Ml_8 (f : Nat → Int32) (hf : s 8 = f) {x : Int32} (j : Nat) (hx : x = nI j) (hj : j < 3) (hd : decode cc pc = .ok (.iaload, 1)) (K : J G nm RX12 cc nL ret mc ms d Q k n (pc + 1) lv (.int (f j) :: st) (mW G o a s)) : J G nm RX12 cc nL ret mc ms d Q k n pc lv (.int x :: .ref (a 8) :: st) (mW G o a s) := by
  subst hx; subst hf
  refine J_iald 7 rfl (vp_in_nI hj (by decide)) hd ?_
  rw [nI_clamp (Nat.lt_trans hj (by decide))]
  exact K
theorem Ms_8 (f : Nat → Int32) (hf : s 8 = f) {x v : Int32} (j : Nat) (hx : x = nI j) (hj : j < 3) (hd : decode cc pc = .ok (.iastore, 1)) (K : J G nm RX12 cc nL ret mc ms d Q k n (pc + 1) lv st (mW G o a (su 8 s (upd f j v)))) : J G nm RX12 cc nL ret mc ms d Q k n pc lv (.int v :: .int x :: .ref (a 8) :: st) (mW G o a s) := by
  subst hx; subst hf
  refine J_iast 7 (mW G o a (su 8 s (upd (s 8) j v))) rfl (vp_in_nI hj (by decide)) ?_ hd K
  rw [nI_clamp (Nat.lt_trans hj (by decide))]
  rfl
theorem Mg_9 (hd : decode cc pc = .ok (.getfield 31, 3)) (K : J G nm RX12 cc nL ret mc ms d Q k n (pc + 3) lv (.ref (a 9) :: st) (mW G o a s)) : J G nm RX12 cc nL ret mc ms d Q k n pc lv (.ref o :: st) (mW G o a s) := J_get fr_X12_31_11 0 mW_0 rfl hd K
theorem Ml_9 (f : Nat → Int32) (hf : s 9 = f) {x : Int32} (j : Nat) (hx : x = nI j) (hj : j < 40) (hd : decode cc pc = .ok (.iaload, 1)) (K : J G nm RX12 cc nL ret mc ms d Q k n (pc + 1) lv (.int (f j) :: st) (mW G o a s)) : J G nm RX12 cc nL ret mc ms d Q k n pc lv (.int x :: .ref (a 9) :: st) (mW G o a s) := by
  subst hx; subst hf
  refine J_iald 8 rfl (vp_in_nI hj (by decide)) hd ?_
  rw [nI_clamp (Nat.lt_trans hj (by decide))]
  exact K
theorem Ms_9 (f : Nat → Int32) (hf : s 9 = f) {x v : Int32} (j : Nat) (hx : x = nI j) (hj : j < 40) (hd : decode cc pc = .ok (.iastore, 1)) (K : J G nm RX12 cc nL ret mc ms d Q k n (pc + 1) lv st (mW G o a (su 9 s (upd f j v)))) : J G nm RX12 cc nL ret mc ms d Q k n pc lv (.int v :: .int x :: .ref (a 9) :: st) (mW G o a s) := by
  subst hx; subst hf
  refine J_iast 8 (mW G o a (su 9 s (upd (s 9) j v))) rfl (vp_in_nI hj (by decide)) ?_ hd K
  rw [nI_clamp (Nat.lt_trans hj (by decide))]
  rfl
theorem Mg_10 (hd : decode cc pc = .ok (.getfield 34, 3)) (K : J G nm RX12 cc nL ret mc ms d Q k n (pc + 3) lv (.ref (a 10) :: st) (mW G o a s)) : J G nm RX12 cc nL ret mc ms d Q k n pc lv (.ref o :: st) (mW G o a s) := J_get fr_X12_34_11 0 mW_0 rfl hd K
theorem Ml_10 (f : Nat → Int32) (hf : s 10 = f) {x : Int32} (j : Nat) (hx : x = nI j) (hj : j < 18) (hd : decode cc pc = .ok (.iaload, 1)) (K : J G nm RX12 cc nL ret mc ms d Q k n (pc + 1) lv (.int (f j) :: st) (mW G o a s)) : J G nm RX12 cc nL ret mc ms d Q k n pc lv (.int x :: .ref (a 10) :: st) (mW G o a s) := by
  subst hx; subst hf
  refine J_iald 9 rfl (vp_in_nI hj (by decide)) hd ?_
  rw [nI_clamp (Nat.lt_trans hj (by decide))]
  exact K
theorem Ms_10 (f : Nat → Int32) (hf : s 10 = f) {x v : Int32} (j : Nat) (hx : x = nI j) (hj : j < 18) (hd : decode cc pc = .ok (.iastore, 1)) (K : J G nm RX12 cc nL ret mc ms d Q k n (pc + 1) lv st (mW G o a (su 10 s (upd f j v)))) : J G nm RX12 cc nL ret mc ms d Q k n pc lv (.int v :: .int x :: .ref (a 10) :: st) (mW G o a s) := by
  subst hx; subst hf
  refine J_iast 9 (mW G o a (su 10 s (upd (s 10) j v))) rfl (vp_in_nI hj (by decide)) ?_ hd K
  rw [nI_clamp (Nat.lt_trans hj (by decide))]
  rfl
theorem Mg_11 (hd : decode cc pc = .ok (.getfield 37, 3)) (K : J G nm RX12 cc nL ret mc ms d Q k n (pc + 3) lv (.ref (a 11) :: st) (mW G o a s)) : J G nm RX12 cc nL ret mc ms d Q k n pc lv (.ref o :: st) (mW G o a s) := J_get fr_X12_37_11 0 mW_0 rfl hd K
theorem Ml_11 (f : Nat → Int32) (hf : s 11 = f) {x : Int32} (j : Nat) (hx : x = nI j) (hj : j < 64) (hd : decode cc pc = .ok (.iaload, 1)) (K : J G nm RX12 cc nL ret mc ms d Q k n (pc + 1) lv (.int (f j) :: st) (mW G o a s)) : J G nm RX12 cc nL ret mc ms d Q k n pc lv (.int x :: .ref (a 11) :: st) (mW G o a s) := by
  subst hx; subst hf
  refine J_iald 10 rfl (vp_in_nI hj (by decide)) hd ?_
  rw [nI_clamp (Nat.lt_trans hj (by decide))]
  exact K
theorem Ms_11 (f : Nat → Int32) (hf : s 11 = f) {x v : Int32} (j : Nat) (hx : x = nI j) (hj : j < 64) (hd : decode cc pc = .ok (.iastore, 1)) (K : J G nm RX12 cc nL ret mc ms d Q k n (pc + 1) lv st (mW G o a (su 11 s (upd f j v)))) : J G nm RX12 cc nL ret mc ms d Q k n pc lv (.int v :: .int x :: .ref (a 11) :: st) (mW G o a s) := by
  subst hx; subst hf
  refine J_iast 10 (mW G o a (su 11 s (upd (s 11) j v))) rfl (vp_in_nI hj (by decide)) ?_ hd K
  rw [nI_clamp (Nat.lt_trans hj (by decide))]
  rfl
theorem Mg_12 (v : Int32) (hv : s 12 0 = v) (hd : decode cc pc = .ok (.getfield 141, 3)) (K : J G nm RX12 cc nL ret mc ms d Q k n (pc + 3) lv (.int v :: st) (mW G o a s)) : J G nm RX12 cc nL ret mc ms d Q k n pc lv (.ref o :: st) (mW G o a s) := by
  subst hv
  exact J_get fr_X12_141_11 0 mW_0 rfl hd K
theorem Mp_12 {v : Int32} (hd : decode cc pc = .ok (.putfield 141, 3)) (K : J G nm RX12 cc nL ret mc ms d Q k n (pc + 3) lv st (mW G o a (su 12 s (fun _ => v)))) : J G nm RX12 cc nL ret mc ms d Q k n pc lv (.int v :: .ref o :: st) (mW G o a s) := J_put fr_X12_141_11 0 _ mW_0 rfl rfl (by show 12 < 25; decide) rfl hd K
theorem Mg_13 (hd : decode cc pc = .ok (.getfield 40, 3)) (K : J G nm RX12 cc nL ret mc ms d Q k n (pc + 3) lv (.ref (a 13) :: st) (mW G o a s)) : J G nm RX12 cc nL ret mc ms d Q k n pc lv (.ref o :: st) (mW G o a s) := J_get fr_X12_40_11 0 mW_0 rfl hd K
theorem Ml_13 (f : Nat → Int32) (hf : s 13 = f) {x : Int32} (j : Nat) (hx : x = nI j) (hj : j < 24) (hd : decode cc pc = .ok (.iaload, 1)) (K : J G nm RX12 cc nL ret mc ms d Q k n (pc + 1) lv (.int (f j) :: st) (mW G o a s)) : J G nm RX12 cc nL ret mc ms d Q k n pc lv (.int x :: .ref (a 13) :: st) (mW G o a s) := by
  subst hx; subst hf
  refine J_iald 11 rfl (vp_in_nI hj (by decide)) hd ?_
  rw [nI_clamp (Nat.lt_trans hj (by decide))]
  exact K
theorem Ms_13 (f : Nat → Int32) (hf : s 13 = f) {x v : Int32} (j : Nat) (hx : x = nI j) (hj : j < 24) (hd : decode cc pc = .ok (.iastore, 1)) (K : J G nm RX12 cc nL ret mc ms d Q k n (pc + 1) lv st (mW G o a (su 13 s (upd f j v)))) : J G nm RX12 cc nL ret mc ms d Q k n pc lv (.int v :: .int x :: .ref (a 13) :: st) (mW G o a s) := by
  subst hx; subst hf
  refine J_iast 11 (mW G o a (su 13 s (upd (s 13) j v))) rfl (vp_in_nI hj (by decide)) ?_ hd K
  rw [nI_clamp (Nat.lt_trans hj (by decide))]
  rfl
theorem Mg_14 (v : Int32) (hv : s 14 0 = v) (hd : decode cc pc = .ok (.getfield 148, 3)) (K : J G nm RX12 cc nL ret mc ms d Q k n (pc + 3) lv (.int v :: st) (mW G o a s)) : J G nm RX12 cc nL ret mc ms d Q k n pc lv (.ref o :: st) (mW G o a s) := by
  subst hv
  exact J_get fr_X12_148_11 0 mW_0 rfl hd K
theorem Mp_14 {v : Int32} (hd : decode cc pc = .ok (.putfield 148, 3)) (K : J G nm RX12 cc nL ret mc ms d Q k n (pc + 3) lv st (mW G o a (su 14 s (fun _ => v)))) : J G nm RX12 cc nL ret mc ms d Q k n pc lv (.int v :: .ref o :: st) (mW G o a s) := J_put fr_X12_148_11 0 _ mW_0 rfl rfl (by show 14 < 25; decide) rfl hd K
theorem Mg_15 (v : Int32) (hv : s 15 0 = v) (hd : decode cc pc = .ok (.getfield 151, 3)) (K : J G nm RX12 cc nL ret mc ms d Q k n (pc + 3) lv (.int v :: st) (mW G o a s)) : J G nm RX12 cc nL ret mc ms d Q k n pc lv (.ref o :: st) (mW G o a s) := by
  subst hv
  exact J_get fr_X12_151_11 0 mW_0 rfl hd K
theorem Mp_15 {v : Int32} (hd : decode cc pc = .ok (.putfield 151, 3)) (K : J G nm RX12 cc nL ret mc ms d Q k n (pc + 3) lv st (mW G o a (su 15 s (fun _ => v)))) : J G nm RX12 cc nL ret mc ms d Q k n pc lv (.int v :: .ref o :: st) (mW G o a s) := J_put fr_X12_151_11 0 _ mW_0 rfl rfl (by show 15 < 25; decide) rfl hd K
theorem Mg_16 (hd : decode cc pc = .ok (.getfield 43, 3)) (K : J G nm RX12 cc nL ret mc ms d Q k n (pc + 3) lv (.ref (a 16) :: st) (mW G o a s)) : J G nm RX12 cc nL ret mc ms d Q k n pc lv (.ref o :: st) (mW G o a s) := J_get fr_X12_43_11 0 mW_0 rfl hd K
theorem Ml_16 (f : Nat → Int32) (hf : s 16 = f) {x : Int32} (j : Nat) (hx : x = nI j) (hj : j < 42) (hd : decode cc pc = .ok (.iaload, 1)) (K : J G nm RX12 cc nL ret mc ms d Q k n (pc + 1) lv (.int (f j) :: st) (mW G o a s)) : J G nm RX12 cc nL ret mc ms d Q k n pc lv (.int x :: .ref (a 16) :: st) (mW G o a s) := by
  subst hx; subst hf
  refine J_iald 12 rfl (vp_in_nI hj (by decide)) hd ?_
  rw [nI_clamp (Nat.lt_trans hj (by decide))]
  exact K
theorem Ms_16 (f : Nat → Int32) (hf : s 16 = f) {x v : Int32} (j : Nat) (hx : x = nI j) (hj : j < 42) (hd : decode cc pc = .ok (.iastore, 1)) (K : J G nm RX12 cc nL ret mc ms d Q k n (pc + 1) lv st (mW G o a (su 16 s (upd f j v)))) : J G nm RX12 cc nL ret mc ms d Q k n pc lv (.int v :: .int x :: .ref (a 16) :: st) (mW G o a s) := by
  subst hx; subst hf
  refine J_iast 12 (mW G o a (su 16 s (upd (s 16) j v))) rfl (vp_in_nI hj (by decide)) ?_ hd K
  rw [nI_clamp (Nat.lt_trans hj (by decide))]
  rfl
theorem Mg_17 (hd : decode cc pc = .ok (.getfield 46, 3)) (K : J G nm RX12 cc nL ret mc ms d Q k n (pc + 3) lv (.ref (a 17) :: st) (mW G o a s)) : J G nm RX12 cc nL ret mc ms d Q k n pc lv (.ref o :: st) (mW G o a s) := J_get fr_X12_46_11 0 mW_0 rfl hd K
theorem Ml_17 (f : Nat → Int32) (hf : s 17 = f) {x : Int32} (j : Nat) (hx : x = nI j) (hj : j < 8) (hd : decode cc pc = .ok (.iaload, 1)) (K : J G nm RX12 cc nL ret mc ms d Q k n (pc + 1) lv (.int (f j) :: st) (mW G o a s)) : J G nm RX12 cc nL ret mc ms d Q k n pc lv (.int x :: .ref (a 17) :: st) (mW G o a s) := by
  subst hx; subst hf
  refine J_iald 13 rfl (vp_in_nI hj (by decide)) hd ?_
  rw [nI_clamp (Nat.lt_trans hj (by decide))]
  exact K
theorem Ms_17 (f : Nat → Int32) (hf : s 17 = f) {x v : Int32} (j : Nat) (hx : x = nI j) (hj : j < 8) (hd : decode cc pc = .ok (.iastore, 1)) (K : J G nm RX12 cc nL ret mc ms d Q k n (pc + 1) lv st (mW G o a (su 17 s (upd f j v)))) : J G nm RX12 cc nL ret mc ms d Q k n pc lv (.int v :: .int x :: .ref (a 17) :: st) (mW G o a s) := by
  subst hx; subst hf
  refine J_iast 13 (mW G o a (su 17 s (upd (s 17) j v))) rfl (vp_in_nI hj (by decide)) ?_ hd K
  rw [nI_clamp (Nat.lt_trans hj (by decide))]
  rfl
theorem Mg_18 (v : Int32) (hv : s 18 0 = v) (hd : decode cc pc = .ok (.getfield 161, 3)) (K : J G nm RX12 cc nL ret mc ms d Q k n (pc + 3) lv (.int v :: st) (mW G o a s)) : J G nm RX12 cc nL ret mc ms d Q k n pc lv (.ref o :: st) (mW G o a s) := by
  subst hv
  exact J_get fr_X12_161_11 0 mW_0 rfl hd K
theorem Mp_18 {v : Int32} (hd : decode cc pc = .ok (.putfield 161, 3)) (K : J G nm RX12 cc nL ret mc ms d Q k n (pc + 3) lv st (mW G o a (su 18 s (fun _ => v)))) : J G nm RX12 cc nL ret mc ms d Q k n pc lv (.int v :: .ref o :: st) (mW G o a s) := J_put fr_X12_161_11 0 _ mW_0 rfl rfl (by show 18 < 25; decide) rfl hd K
theorem Mg_19 (v : Int32) (hv : s 19 0 = v) (hd : decode cc pc = .ok (.getfield 222, 3)) (K : J G nm RX12 cc nL ret mc ms d Q k n (pc + 3) lv (.int v :: st) (mW G o a s)) : J G nm RX12 cc nL ret mc ms d Q k n pc lv (.ref o :: st) (mW G o a s) := by
  subst hv
  exact J_get fr_X12_222_11 0 mW_0 rfl hd K
theorem Mp_19 {v : Int32} (hd : decode cc pc = .ok (.putfield 222, 3)) (K : J G nm RX12 cc nL ret mc ms d Q k n (pc + 3) lv st (mW G o a (su 19 s (fun _ => v)))) : J G nm RX12 cc nL ret mc ms d Q k n pc lv (.int v :: .ref o :: st) (mW G o a s) := J_put fr_X12_222_11 0 _ mW_0 rfl rfl (by show 19 < 25; decide) rfl hd K
theorem Mg_20 (v : Int32) (hv : s 20 0 = v) (hd : decode cc pc = .ok (.getfield 216, 3)) (K : J G nm RX12 cc nL ret mc ms d Q k n (pc + 3) lv (.int v :: st) (mW G o a s)) : J G nm RX12 cc nL ret mc ms d Q k n pc lv (.ref o :: st) (mW G o a s) := by
  subst hv
  exact J_get fr_X12_216_11 0 mW_0 rfl hd K
theorem Mp_20 {v : Int32} (hd : decode cc pc = .ok (.putfield 216, 3)) (K : J G nm RX12 cc nL ret mc ms d Q k n (pc + 3) lv st (mW G o a (su 20 s (fun _ => v)))) : J G nm RX12 cc nL ret mc ms d Q k n pc lv (.int v :: .ref o :: st) (mW G o a s) := J_put fr_X12_216_11 0 _ mW_0 rfl rfl (by show 20 < 25; decide) rfl hd K
theorem Mg_21 (v : Int32) (hv : s 21 0 = v) (hd : decode cc pc = .ok (.getfield 248, 3)) (K : J G nm RX12 cc nL ret mc ms d Q k n (pc + 3) lv (.int v :: st) (mW G o a s)) : J G nm RX12 cc nL ret mc ms d Q k n pc lv (.ref o :: st) (mW G o a s) := by
  subst hv
  exact J_get fr_X12_248_11 0 mW_0 rfl hd K
theorem Mp_21 {v : Int32} (hd : decode cc pc = .ok (.putfield 248, 3)) (K : J G nm RX12 cc nL ret mc ms d Q k n (pc + 3) lv st (mW G o a (su 21 s (fun _ => v)))) : J G nm RX12 cc nL ret mc ms d Q k n pc lv (.int v :: .ref o :: st) (mW G o a s) := J_put fr_X12_248_11 0 _ mW_0 rfl rfl (by show 21 < 25; decide) rfl hd K
theorem Mg_22 (hd : decode cc pc = .ok (.getfield 49, 3)) (K : J G nm RX12 cc nL ret mc ms d Q k n (pc + 3) lv (.ref (a 22) :: st) (mW G o a s)) : J G nm RX12 cc nL ret mc ms d Q k n pc lv (.ref o :: st) (mW G o a s) := J_get fr_X12_49_11 0 mW_0 rfl hd K
theorem Ml_22 (f : Nat → Int32) (hf : s 22 = f) {x : Int32} (j : Nat) (hx : x = nI j) (hj : j < 24) (hd : decode cc pc = .ok (.iaload, 1)) (K : J G nm RX12 cc nL ret mc ms d Q k n (pc + 1) lv (.int (f j) :: st) (mW G o a s)) : J G nm RX12 cc nL ret mc ms d Q k n pc lv (.int x :: .ref (a 22) :: st) (mW G o a s) := by
  subst hx; subst hf
  refine J_iald 14 rfl (vp_in_nI hj (by decide)) hd ?_
  rw [nI_clamp (Nat.lt_trans hj (by decide))]
  exact K
theorem Ms_22 (f : Nat → Int32) (hf : s 22 = f) {x v : Int32} (j : Nat) (hx : x = nI j) (hj : j < 24) (hd : decode cc pc = .ok (.iastore, 1)) (K : J G nm RX12 cc nL ret mc ms d Q k n (pc + 1) lv st (mW G o a (su 22 s (upd f j v)))) : J G nm RX12 cc nL ret mc ms d Q k n pc lv (.int v :: .int x :: .ref (a 22) :: st) (mW G o a s) := by
  subst hx; subst hf
  refine J_iast 14 (mW G o a (su 22 s (upd (s 22) j v))) rfl (vp_in_nI hj (by decide)) ?_ hd K
  rw [nI_clamp (Nat.lt_trans hj (by decide))]
  rfl
theorem Mg_23 (hd : decode cc pc = .ok (.getfield 52, 3)) (K : J G nm RX12 cc nL ret mc ms d Q k n (pc + 3) lv (.ref (a 23) :: st) (mW G o a s)) : J G nm RX12 cc nL ret mc ms d Q k n pc lv (.ref o :: st) (mW G o a s) := J_get fr_X12_52_11 0 mW_0 rfl hd K
theorem Ml_23 (f : Nat → Int32) (hf : s 23 = f) {x : Int32} (j : Nat) (hx : x = nI j) (hj : j < 9) (hd : decode cc pc = .ok (.iaload, 1)) (K : J G nm RX12 cc nL ret mc ms d Q k n (pc + 1) lv (.int (f j) :: st) (mW G o a s)) : J G nm RX12 cc nL ret mc ms d Q k n pc lv (.int x :: .ref (a 23) :: st) (mW G o a s) := by
  subst hx; subst hf
  refine J_iald 15 rfl (vp_in_nI hj (by decide)) hd ?_
  rw [nI_clamp (Nat.lt_trans hj (by decide))]
  exact K
theorem Ms_23 (f : Nat → Int32) (hf : s 23 = f) {x v : Int32} (j : Nat) (hx : x = nI j) (hj : j < 9) (hd : decode cc pc = .ok (.iastore, 1)) (K : J G nm RX12 cc nL ret mc ms d Q k n (pc + 1) lv st (mW G o a (su 23 s (upd f j v)))) : J G nm RX12 cc nL ret mc ms d Q k n pc lv (.int v :: .int x :: .ref (a 23) :: st) (mW G o a s) := by
  subst hx; subst hf
  refine J_iast 15 (mW G o a (su 23 s (upd (s 23) j v))) rfl (vp_in_nI hj (by decide)) ?_ hd K
  rw [nI_clamp (Nat.lt_trans hj (by decide))]
  rfl
theorem Mg_24 (v : Int32) (hv : s 24 0 = v) (hd : decode cc pc = .ok (.getfield 285, 3)) (K : J G nm RX12 cc nL ret mc ms d Q k n (pc + 3) lv (.int v :: st) (mW G o a s)) : J G nm RX12 cc nL ret mc ms d Q k n pc lv (.ref o :: st) (mW G o a s) := by
  subst hv
  exact J_get fr_X12_285_11 0 mW_0 rfl hd K
theorem Mp_24 {v : Int32} (hd : decode cc pc = .ok (.putfield 285, 3)) (K : J G nm RX12 cc nL ret mc ms d Q k n (pc + 3) lv st (mW G o a (su 24 s (fun _ => v)))) : J G nm RX12 cc nL ret mc ms d Q k n pc lv (.int v :: .ref o :: st) (mW G o a s) := J_put fr_X12_285_11 0 _ mW_0 rfl rfl (by show 24 < 25; decide) rfl hd K
end MWd
