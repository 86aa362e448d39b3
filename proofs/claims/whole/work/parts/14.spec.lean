/-! what the reference computes, over its own rows: Hb (five a habit), He (three an heir), wi (with whom) -/
def atH (Hb : Nat → Int32) (h : Nat) (t : Nat) : Bool := !decide (Hb (5 * h + 1) ≤ (nI t - Hb (5 * h) + nI 24) - (nI t - Hb (5 * h) + nI 24) / nI 24 * nI 24)
def awE (He : Nat → Int32) (q : Nat) (t : Nat) : Bool := cond (decide (He (3 * q + 2) < He (3 * q + 1))) (decide (He (3 * q + 1) ≤ nI t) || !decide (He (3 * q + 2) ≤ nI t)) (!decide (nI t < He (3 * q + 1)) && !decide (He (3 * q + 2) ≤ nI t))
def leanM (n : Nat) (Hb wi : Nat → Int32) (q h : Nat) : Bool := !decide (Hb (5 * h + 3) = -1) && (!rng (Hb (5 * h + 3)) n || !decide (wi (Hb (5 * h + 3)).toNatClampNeg = nI q))
def canM (n : Nat) (Hb He wi : Nat → Int32) (q h : Nat) : Bool := leanM n Hb wi q h || anyB (fun t => atH Hb h t && awE He q t) 24
def hasM (n : Nat) (wi : Nat → Int32) (q : Nat) : Nat := bm (fun h => decide (wi h = nI q)) n
def canNowM (n : Nat) (Hb He wi : Nat → Int32) (q : Nat) : Nat := bm (fun h => decide (wi h = nI q) && canM n Hb He wi q h) n
def wrM (n : Nat) (Hb wi : Nat → Int32) (q : Nat) : Int32 := smI (fun h => if wi h = nI q then Hb (5 * h + 2) else nI 0) n
def onceM (n : Nat) (Hb wi : Nat → Int32) (q t : Nat) : Nat := bm (fun h => decide (wi h = nI q) && atH Hb h t) n
def livM (n : Nat) (Hb He wi : Nat → Int32) (q : Nat) : Bool := (!decide (He (3 * q) < nI (popc (hasM n wi q))) && decide (canNowM n Hb He wi q = 0)) && allB (fun t => !decide (2 ≤ popc (onceM n Hb wi q t))) 24
/-- of the first h habits, the one that he does in that hour -/
def doF (n : Nat) (Hb He wi : Nat → Int32) (q t : Nat) : Nat → Int32
  | 0 => -1
  | h + 1 => if ((onceM n Hb wi q t).testBit h && !canM n Hb He wi q h) && (decide (doF n Hb He wi q t h = -1) || !decide (Hb (5 * h + 2) ≤ Hb (5 * (doF n Hb He wi q t h).toNatClampNeg + 2))) then nI h else doF n Hb He wi q t h
theorem doF_rng (n : Nat) (Hb He wi : Nat → Int32) (q t h : Nat) : doF n Hb He wi q t h = -1 ∨ ∃ j, j < h ∧ doF n Hb He wi q t h = nI j := by
  induction h with
  | zero => exact Or.inl rfl
  | succ h ih =>
    rw [doF]
    split
    · exact Or.inr ⟨h, by omega, rfl⟩
    · rcases ih with ih | ⟨j, hj, ih⟩
      · exact Or.inl ih
      · exact Or.inr ⟨j, by omega, ih⟩
def doM (n : Nat) (Hb He wi : Nat → Int32) (q t : Nat) : Int32 := doF n Hb He wi q t n
theorem exit_any {a : Bool} {P : Nat → Bool} {i n : Nat} (h : (a || anyB P i) = true) (hi : i ≤ n) : bI (a || anyB P i) = bI (a || anyB P n) := by
  have h2 : (a || anyB P n) = true := by
    rcases Bool.or_eq_true_iff.mp h with h | h
    · simp [h]
    · simp [anyB_mono h hi]
  rw [h, h2]
theorem step_any {a b : Bool} {P : Nat → Bool} {i : Nat} (h : (a || anyB P i) = false) (hb : b = P i) : bI b = bI (a || anyB P (i + 1)) := by
  simp only [Bool.or_eq_false_iff] at h
  rw [anyB, h.1, h.2, hb]
  rfl
theorem exit_all {a : Bool} {P : Nat → Bool} {i n : Nat} (h : (a && allB P i) = false) (hi : i ≤ n) : bI (a && allB P i) = bI (a && allB P n) := by
  have h2 : (a && allB P n) = false := by
    cases ha : a with
    | false => rfl
    | true =>
      rw [ha, Bool.true_and] at h
      cases hn : allB P n with
      | false => rfl
      | true =>
        have : allB P i = true := allB_iff.mpr (fun k hk => allB_iff.mp hn k (by omega))
        rw [this] at h; cases h
  rw [h, h2]
theorem step_all {a b : Bool} {P : Nat → Bool} {i : Nat} (h : (a && allB P i) = true) (hb : b = P i) : bI b = bI (a && allB P (i + 1)) := by
  simp only [Bool.and_eq_true] at h
  have h3 : allB P (i + 1) = P i := by
    cases hp : P i with
    | true =>
      refine allB_iff.mpr (fun k hk => ?_)
      rcases Nat.lt_or_ge k i with q | q
      · exact allB_iff.mp h.2 k q
      · have : k = i := by omega
        subst this; exact hp
    | false =>
      cases hq : allB P (i + 1) with
      | false => rfl
      | true => have := allB_iff.mp hq i (by omega); rw [hp] at this; cases this
  rw [h3, h.1, hb]
  rfl
section JN2
variable {G : GT} {nm own : String} {cc : ByteArray} {nL : Nat} {ret : Option FieldType} {mc ms d : Nat} {Q : Option Value → va_W → Prop} {k n pc : Nat} {lv : List (Nat × Value)} {st : List Value} {ws : va_W}
theorem J_iorN {x y : Nat} (hd : decode cc pc = .ok (.ior, 1)) (K : J G nm own cc nL ret mc ms d Q k n (pc + 1) lv (.int (nI (x ||| y)) :: st) ws) : J G nm own cc nL ret mc ms d Q k n pc lv (.int (nI y) :: .int (nI x) :: st) ws := J_ior hd (J_rw (fa_or x y) K)
theorem J_iandN {x y : Nat} (hd : decode cc pc = .ok (.iand, 1)) (K : J G nm own cc nL ret mc ms d Q k n (pc + 1) lv (.int (nI (x &&& y)) :: st) ws) : J G nm own cc nL ret mc ms d Q k n pc lv (.int (nI y) :: .int (nI x) :: st) ws := J_iand hd (J_rw (fa_and x y) K)
theorem J_shl1N {y : Nat} (hd : decode cc pc = .ok (.ishl, 1)) (hy : y < 31) (K : J G nm own cc nL ret mc ms d Q k n (pc + 1) lv (.int (nI (2 ^ y)) :: st) ws) : J G nm own cc nL ret mc ms d Q k n pc lv (.int (nI y) :: .int (nI 1) :: st) ws := J_ishl hd (J_rw (shl1 hy) K)
theorem J_if_eqN {x : Nat} {off : Int} (tgt : Nat) (hx : x < 2 ^ 31) (hd : decode cc pc = .ok (.ifCond .eq off, 3)) (ht : (pc : Int) + off = (tgt : Int)) (K1 : x = 0 → J G nm own cc nL ret mc ms d Q k n tgt lv st ws) (K2 : ¬ x = 0 → J G nm own cc nL ret mc ms d Q k n (pc + 3) lv st ws) : J G nm own cc nL ret mc ms d Q k n pc lv (.int (nI x) :: st) ws := J_if_eq tgt hd ht (fun h => K1 ((nI_eq hx (by decide)).mp h)) (fun h => K2 (fun q => h (by rw [q]; rfl)))
theorem J_if_neN {x : Nat} {off : Int} (tgt : Nat) (hx : x < 2 ^ 31) (hd : decode cc pc = .ok (.ifCond .ne off, 3)) (ht : (pc : Int) + off = (tgt : Int)) (K1 : ¬ x = 0 → J G nm own cc nL ret mc ms d Q k n tgt lv st ws) (K2 : x = 0 → J G nm own cc nL ret mc ms d Q k n (pc + 3) lv st ws) : J G nm own cc nL ret mc ms d Q k n pc lv (.int (nI x) :: st) ws := J_if_ne tgt hd ht (fun h => K1 (fun q => h (by rw [q]; rfl))) (fun h => K2 ((nI_eq hx (by decide)).mp h))
theorem sw_cases (x : Int32) (n : Nat) (hn : n < 2 ^ 31) : (x.toInt < 0 ∨ (n : Int) - 1 < x.toInt) ∨ ∃ j : Nat, j < n ∧ x = nI j := by
  rcases pk_ix x hn with h | h | h
  · left; left
    have := (fa_lt x 0).mp h
    have e : (0 : Int32).toInt = 0 := rfl
    omega
  · left; right
    have := (fa_le _ _).mp h
    rw [nI_toInt hn] at this
    omega
  · exact Or.inr h
end JN2
