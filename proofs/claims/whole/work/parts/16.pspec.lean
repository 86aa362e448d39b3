/-! how a text is read: what a byte tells, where a row ends, the rows -/
def inI (b lo hi : Int32) : Bool := !decide (b < lo) && !decide (hi < b)
theorem inL_inI (b lo hi : Int32) : inL b.toInt64 lo.toInt64 hi.toInt64 = inI b lo hi := by
  unfold inL inI
  have h1 : decide (b.toInt64 < lo.toInt64) = decide (b < lo) := decide_eq_decide.mpr (fa_wide_lt b lo)
  have h2 : decide (hi.toInt64 < b.toInt64) = decide (hi < b) := decide_eq_decide.mpr (fa_wide_lt hi b)
  rw [h1, h2]
def wn (b lo hi : Int32) : Int32 := if inI b lo hi = true then b - lo else -1
def orW (v : Int32) : Int32 := if v = -1 then -9 else v
def tlH (k : Nat) (b : Int32) : Int32 := match k with
  | 0 => orW (wn b (nI 97) (nI 120))
  | 1 => if wn b (nI 49) (nI 57) = -1 then -9 else b - nI 48
  | 2 => orW (wn b (nI 48) (nI 57))
  | 3 => if b = nI 46 then -1 else orW (wn b (nI 48) (nI 55))
  | _ => if b = nI 33 then nI 1 else if b = nI 46 then nI 0 else -9
def tlE (k : Nat) (b : Int32) : Int32 := match k with
  | 0 => if wn b (nI 49) (nI 56) = -1 then -9 else b - nI 48
  | _ => orW (wn b (nI 97) (nI 120))
def tlC (k : Nat) (b : Int32) : Int32 := match k with
  | 1 => if b = nI 43 then nI 1 else if b = nI 45 then nI 0 else -9
  | 2 => orW (wn b (nI 48) (nI 53))
  | _ => orW (wn b (nI 48) (nI 55))
/-- the byte at a place of text t, -1 behind its end -/
def bA (B : Nat → Int32) (t len p : Nat) : Int32 := if p < len then B (60 * t + p) else -1
/-- the first of n fields that doesn't tell, n if all tell -/
def fbd (tl : Nat → Int32 → Int32) (B : Nat → Int32) (t len n p : Nat) : Nat := fa_first (fun k => decide (tl k (bA B t len (p + k)) = -9)) n
theorem fbd_all {tl : Nat → Int32 → Int32} {B : Nat → Int32} {t len n p : Nat} (h : ∀ j, j < n → ¬ tl j (bA B t len (p + j)) = -9) : fbd tl B t len n p = n := by
  rcases Nat.lt_or_ge (fbd tl B t len n p) n with q | q
  · have := fa_first_yes _ _ q
    exact absurd (of_decide_eq_true this) (h _ q)
  · exact Nat.le_antisymm (fa_first_le _ n) q
theorem fbd_at {tl : Nat → Int32 → Int32} {B : Nat → Int32} {t len n p k : Nat} (hk : k < n) (h : ∀ j, j < k → ¬ tl j (bA B t len (p + j)) = -9) (hb : tl k (bA B t len (p + k)) = -9) : fbd tl B t len n p = k := by
  rcases Nat.lt_trichotomy (fbd tl B t len n p) k with q | q | q
  · have := fa_first_yes (fun k => decide (tl k (bA B t len (p + k)) = -9)) n (Nat.lt_trans q hk)
    exact absurd (of_decide_eq_true this) (h _ q)
  · exact q
  · have := fa_first_no _ _ _ q
    exact absurd hb (of_decide_eq_false this)
/-- the rows: does the row at p tell well, and where does it end (or break off) -/
def rW0 (B : Nat → Int32) (len p : Nat) : Bool := decide (fbd tlH B 0 len 5 p = 5)
def rE0 (B : Nat → Int32) (len p : Nat) : Nat := p + fbd tlH B 0 len 5 p
def rW1 (B : Nat → Int32) (len p : Nat) : Bool := decide (fbd tlE B 1 len 3 p = 3)
def rE1 (B : Nat → Int32) (len p : Nat) : Nat := p + fbd tlE B 1 len 3 p
def rW2 (B : Nat → Int32) (len p : Nat) : Bool := decide (fbd tlC B 2 len 3 p = 3) && (!decide (bA B 2 len (p + 3) = nI 63) || !decide (tlC 3 (bA B 2 len (p + 4)) = -9))
def rE2 (B : Nat → Int32) (len p : Nat) : Nat := if fbd tlC B 2 len 3 p = 3 then (if bA B 2 len (p + 3) = nI 63 then (if tlC 3 (bA B 2 len (p + 4)) = -9 then p + 4 else p + 5) else p + 3) else p + fbd tlC B 2 len 3 p
/-- all rows: how many (0 with a fault), and the fault's place (-1: none) -/
def scn (rW : Nat → Bool) (rE : Nat → Nat) (sep : Nat → Bool) (len mx : Nat) : Nat → Nat → Nat → Nat × Int32
  | 0, _, p => (0, nI p)
  | f + 1, r, p => if r = mx then (0, nI p) else if rW p = false then (0, nI (rE p)) else if rE p < len then (if sep (rE p) = true then scn rW rE sep len mx f (r + 1) (rE p + 1) else (0, nI (rE p))) else (r + 1, -1)
def sepA (B : Nat → Int32) (t len q : Nat) : Bool := decide (bA B t len q = nI 59)
def scT (B : Nat → Int32) (t len f r p : Nat) : Nat × Int32 := match t with
  | 0 => scn (rW0 B len) (rE0 B len) (sepA B 0 len) len 8 f r p
  | 1 => scn (rW1 B len) (rE1 B len) (sepA B 1 len) len 6 f r p
  | _ => scn (rW2 B len) (rE2 B len) (sepA B 2 len) len 15 f r p
/-- a whole text: nothing to read where it is empty -/
def rdT (B : Nat → Int32) (t len : Nat) : Nat × Int32 := if len = 0 then (0, -1) else scT B t len 60 0 0
/-- where row r begins -/
def psq (E : Nat → Nat) : Nat → Nat
  | 0 => 0
  | r + 1 => E (psq E r) + 1
def psT (B : Nat → Int32) (t len r : Nat) : Nat := match t with
  | 0 => psq (rE0 B len) r
  | 1 => psq (rE1 B len) r
  | _ => psq (rE2 B len) r
theorem psT0_s (B : Nat → Int32) (len r : Nat) : psT B 0 len (r + 1) = rE0 B len (psT B 0 len r) + 1 := rfl
theorem psT1_s (B : Nat → Int32) (len r : Nat) : psT B 1 len (r + 1) = rE1 B len (psT B 1 len r) + 1 := rfl
theorem psT2_s (B : Nat → Int32) (len r : Nat) : psT B 2 len (r + 1) = rE2 B len (psT B 2 len r) + 1 := rfl
/-- what the rows hold -/
def fH (B : Nat → Int32) (len r k : Nat) : Int32 := tlH k (bA B 0 len (psT B 0 len r + k))
def fE (B : Nat → Int32) (len r k : Nat) : Int32 := tlE k (bA B 1 len (psT B 1 len r + k))
def fC (B : Nat → Int32) (len r k : Nat) : Int32 := if k = 3 then (if bA B 2 len (psT B 2 len r + 3) = nI 63 then tlC 3 (bA B 2 len (psT B 2 len r + 4)) else -1) else tlC k (bA B 2 len (psT B 2 len r + k))
theorem scn_le (rW : Nat → Bool) (rE : Nat → Nat) (sep : Nat → Bool) (len mx : Nat) : ∀ f r p, r ≤ mx → (scn rW rE sep len mx f r p).1 ≤ mx
  | 0, r, p, h => by rw [scn]; exact Nat.zero_le _
  | f + 1, r, p, h => by
    rw [scn]
    split
    · exact Nat.zero_le _
    · split
      · exact Nat.zero_le _
      · split
        · split
          · exact scn_le rW rE sep len mx f (r + 1) _ (by omega)
          · exact Nat.zero_le _
        · show r + 1 ≤ mx; omega
theorem rdT_le0 (B : Nat → Int32) (len : Nat) : (rdT B 0 len).1 ≤ 8 := by
  unfold rdT; split
  · exact Nat.zero_le _
  · exact scn_le _ _ _ _ 8 60 0 0 (by decide)
theorem rdT_le1 (B : Nat → Int32) (len : Nat) : (rdT B 1 len).1 ≤ 6 := by
  unfold rdT; split
  · exact Nat.zero_le _
  · exact scn_le _ _ _ _ 6 60 0 0 (by decide)
theorem rdT_le2 (B : Nat → Int32) (len : Nat) : (rdT B 2 len).1 ≤ 15 := by
  unfold rdT; split
  · exact Nat.zero_le _
  · exact scn_le _ _ _ _ 15 60 0 0 (by decide)
theorem rE0_le (B : Nat → Int32) (len p : Nat) : rE0 B len p ≤ p + 5 := by have := fa_first_le (fun k => decide (tlH k (bA B 0 len (p + k)) = -9)) 5; unfold rE0 fbd; omega
theorem rE1_le (B : Nat → Int32) (len p : Nat) : rE1 B len p ≤ p + 5 := by have := fa_first_le (fun k => decide (tlE k (bA B 1 len (p + k)) = -9)) 3; unfold rE1 fbd; omega
theorem rE2_le (B : Nat → Int32) (len p : Nat) : rE2 B len p ≤ p + 5 := by
  have h : fbd tlC B 2 len 3 p ≤ 3 := fa_first_le _ _
  unfold rE2
  split
  · split
    · split <;> omega
    · omega
  · omega
