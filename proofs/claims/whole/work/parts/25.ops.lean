/-! the calls: what each answers, and the lasting state behind it -/
theorem cn_0 (s : St) : cn s 0 = s 0 := rfl
theorem cn_1 (s : St) : cn s 1 = s 1 := rfl
theorem cn_2 (s : St) : cn s 2 = s 2 := rfl
theorem cn_4 (s : St) : cn s 4 = s 4 := rfl
theorem cn_5 (s : St) : cn s 5 = s 5 := rfl
theorem cn_6 (s : St) : cn s 6 = s 6 := rfl
theorem cn_12 (s : St) : cn s 12 = s 12 := rfl
theorem cn_13 (s : St) : cn s 13 = s 13 := rfl
theorem cn_16 (s : St) : cn s 16 = s 16 := rfl
theorem cn_21 (s : St) : cn s 21 = s 21 := rfl
theorem cn_22 (s : St) : cn s 22 = s 22 := rfl
def capT (t : Nat) : Nat := if t = 0 then 47 else if t = 1 then 23 else 59
theorem LI.tt {σ : St} (h : LI σ) {t : Nat} (ht : t < 3) : σ 6 t = nI (tl σ t) ∧ tl σ t ≤ capT t := by
  rcases (show t = 0 ∨ t = 1 ∨ t = 2 by omega) with rfl | rfl | rfl
  · exact h.t0
  · exact h.t1
  · exact h.t2
theorem capT_le (t : Nat) : capT t ≤ 59 := by unfold capT; split; omega; split <;> omega
def oType (v b : Int32) (σ : St) : Int32 × St := if (rng v 3 && rng b 256) = true then (if tl σ v.toNatClampNeg = capT v.toNatClampNeg then (-4, σ) else (nI (tl σ v.toNatClampNeg + 1), su 6 (su 5 σ (upd (σ 5) (60 * v.toNatClampNeg + tl σ v.toNatClampNeg) b)) (upd (σ 6) v.toNatClampNeg (nI (tl σ v.toNatClampNeg + 1))))) else (-2, σ)
def oWipe (v : Int32) (σ : St) : Int32 × St := if rng v 3 = true then (nI (tl σ v.toNatClampNeg), su 6 σ (upd (σ 6) v.toNatClampNeg (nI 0))) else (-2, σ)
def oUndo (v : Int32) (σ : St) : Int32 × St := if rng v 3 = true then (if tl σ v.toNatClampNeg = 0 then (-3, σ) else (nI (tl σ v.toNatClampNeg - 1), su 6 σ (upd (σ 6) v.toNatClampNeg (nI (tl σ v.toNatClampNeg - 1))))) else (-2, σ)
def oRefuse (e h : Int32) (σ : St) : Int32 × St := if (rng e 6 && rng h 8) = true then (if rfn σ = 12 then (-4, σ) else (nI (rfn σ + 1), su 13 (su 12 σ (fun _ => nI (rfn σ + 1))) (upd (upd (σ 13) (2 * rfn σ) e) (2 * rfn σ + 1) h))) else (-2, σ)
def oBack (σ : St) : Int32 × St := if rfn σ = 0 then (-3, σ) else (nI (rfn σ - 1), su 12 σ (fun _ => nI (rfn σ - 1)))
def oValue (e d v : Int32) (σ : St) : Int32 × St := if (rng e 6 && (rng d 7 && rng v 10)) = true then (σ 16 (7 * e.toNatClampNeg + d.toNatClampNeg), su 16 σ (upd (σ 16) (7 * e.toNatClampNeg + d.toNatClampNeg) v)) else (-2, σ)
def seenOk (t e h : Int32) : Bool := rng t 24 && (rng e 6 && inI h (-1) (nI 7))
def oSeen (t e h : Int32) (σ : St) : Int32 × St := if seenOk t e h = true then (if sgn σ = 8 then (-4, σ) else (nI (sgn σ + 1), su 22 (su 21 σ (fun _ => nI (sgn σ + 1))) (upd (upd (upd (σ 22) (3 * sgn σ) t) (3 * sgn σ + 1) e) (3 * sgn σ + 2) h))) else (-2, σ)
def oForget (σ : St) : Int32 × St := (nI (sgn σ), su 21 σ (fun _ => nI 0))
def fnd (k : Nat) (σ : St) : Int32 × St := ((-10) - nI k, su 4 σ (fun _ => nI k))
def cutM (f v : Int32) : Int32 := if f = nI 0 then v.toInt8.toInt32 else if f = nI 1 then v.toInt16.toInt32 else v
def oSheet (v f n : Int32) (σ : St) : Int32 × St := if (rng v 4 && (rng f 3 && decide (n ≤ nI 60))) = true then (if 0 ≤ n then (n, su 2 (su 1 (su 0 σ (upd (σ 0) v.toNatClampNeg f)) (upd (σ 1) v.toNatClampNeg n)) (fb_put (σ 2) (fun _ => nI 0) (60 * v.toNatClampNeg) n.toNatClampNeg)) else fnd 5 σ) else (-2, σ)
def oLose (v : Int32) (σ : St) : Int32 × St := if rng v 4 = true then (if 0 ≤ σ 0 v.toNatClampNeg then (σ 1 v.toNatClampNeg, su 0 σ (upd (σ 0) v.toNatClampNeg (-1))) else fnd 1 σ) else (-2, σ)
/-- what is wrong with item i of sheet v, as of form f (0: nothing) -/
def lkM (v : Nat) (f i : Int32) (σ : St) : Nat := if 0 ≤ σ 0 v then (if σ 0 v = f then (if rngI i (σ 1 v) = true then 0 else 2) else 3) else 1
def oLay (v f i x : Int32) (σ : St) : Int32 × St := if (rng v 4 && rng f 3) = true then (if lkM v.toNatClampNeg f i σ = 0 then (nI 1, su 2 σ (upd (σ 2) (60 * v.toNatClampNeg + i.toNatClampNeg) (cutM f x))) else fnd (lkM v.toNatClampNeg f i σ) σ) else (-2, σ)
def oGet (v f i : Int32) (σ : St) : Int32 × St := if (rng v 4 && rng f 3) = true then (if lkM v.toNatClampNeg f i σ = 0 then (σ 2 (60 * v.toNatClampNeg + i.toNatClampNeg), σ) else (-2147483648, (fnd (lkM v.toNatClampNeg f i σ) σ).2)) else (-2147483648, σ)
def cpOk (s i t j n : Int32) (σ : St) : Bool := decide (0 ≤ i) && (decide (0 ≤ j) && (decide (0 ≤ n) && (!decide ((σ 1 s.toNatClampNeg).toInt64 < i.toInt64 + n.toInt64) && !decide ((σ 1 t.toNatClampNeg).toInt64 < j.toInt64 + n.toInt64))))
def oCopy (s i t j n : Int32) (σ : St) : Int32 × St := if (rng s 4 && rng t 4) = true then (if ¬ 0 ≤ σ 0 s.toNatClampNeg ∨ ¬ 0 ≤ σ 0 t.toNatClampNeg then fnd 1 σ else if σ 0 s.toNatClampNeg = σ 0 t.toNatClampNeg then (if cpOk s i t j n σ = true then (nI 1, su 2 σ (fb_put (σ 2) (fun k => σ 2 (60 * s.toNatClampNeg + i.toNatClampNeg + k)) (60 * t.toNatClampNeg + j.toNatClampNeg) n.toNatClampNeg)) else fnd 2 σ) else fnd 4 σ) else (-2, σ)
def rdL (v sz : Nat) : Nat → Nat → St → Int32 × St
  | 0, n, σ => (nI n, σ)
  | f + 1, n, σ => if 3 * n + 3 ≤ sz then (if (oSeen (σ 2 (60 * v + 3 * n)) (σ 2 (60 * v + 3 * n + 1)) (σ 2 (60 * v + 3 * n + 2)) σ).1 < 0 then (nI n, σ) else rdL v sz f (n + 1) (oSeen (σ 2 (60 * v + 3 * n)) (σ 2 (60 * v + 3 * n + 1)) (σ 2 (60 * v + 3 * n + 2)) σ).2) else (nI n, σ)
def oRead (v : Int32) (σ : St) : Int32 × St := if rng v 4 = true then (if 0 ≤ σ 0 v.toNatClampNeg then rdL v.toNatClampNeg (σ 1 v.toNatClampNeg).toNatClampNeg 21 0 σ else fnd 1 σ) else (-2, σ)
def doS (σ : St) (q t : Nat) : Int32 := doM (nH σ) (HbS σ) (HeS σ) (wiS σ) q t
def oHours (e v : Int32) (σ : St) : Int32 × St := if (rng e (nE σ) && rng v 4) = true then (if 0 ≤ σ 0 v.toNatClampNeg then (nI (min (σ 1 v.toNatClampNeg).toNatClampNeg 24), su 2 σ (fb_put (σ 2) (fun t => cutM (σ 0 v.toNatClampNeg) (doS σ e.toNatClampNeg t)) (60 * v.toNatClampNeg) (min (σ 1 v.toNatClampNeg).toNatClampNeg 24))) else fnd 1 σ) else (-2, σ)
def qFault (v : Int32) (σ : St) : Int32 := if rng v 3 = true then (rdT (σ 5) v.toNatClampNeg (tl σ v.toNatClampNeg)).2 else -2
def qHabit (h w : Int32) (σ : St) : Int32 := if (rng h (nH σ) && rng w 5) = true then HbS σ (5 * h.toNatClampNeg + w.toNatClampNeg) else -2
def qHeir (h w : Int32) (σ : St) : Int32 := if (rng h (nE σ) && rng w 3) = true then HeS σ (3 * h.toNatClampNeg + w.toNatClampNeg) else -2
def qClause (h w : Int32) (σ : St) : Int32 := if (rng h (nC σ) && rng w 4) = true then ClS σ (4 * h.toNatClampNeg + w.toNatClampNeg) else -2
def qWith (h : Int32) (σ : St) : Int32 := if rng h (nH σ) = true then wiS σ h.toNatClampNeg else -2
def hsA (σ : St) (q w : Nat) : Int32 := match w with
  | 0 => nI (hasM (nH σ) (wiS σ) q)
  | 1 => nI (canNowM (nH σ) (HbS σ) (HeS σ) (wiS σ) q)
  | 2 => wrM (nH σ) (HbS σ) (wiS σ) q
  | _ => bI (livM (nH σ) (HbS σ) (HeS σ) (wiS σ) q)
def qHas (e w : Int32) (σ : St) : Int32 := if (rng e (nE σ) && rng w 4) = true then hsA σ e.toNatClampNeg w.toNatClampNeg else -2
def qDoes (e t : Int32) (σ : St) : Int32 := if (rng e (nE σ) && rng t 24) = true then doS σ e.toNatClampNeg t.toNatClampNeg else -2
def qDone (σ : St) : Int32 := nI (wlS σ).2
def qQuarrel (w : Int32) (σ : St) : Int32 := if rng w 4 = true then quM (nH σ) (nE σ) (HbS σ) (wiS σ) w.toNatClampNeg else -2
def bS (σ : St) : Int32 × Int32 := bsF (nH σ) (min (nH σ) 6) (min (nE σ) 4) (HbS σ) (HeS σ) 0 ((min (nE σ) 4 + 1) ^ min (nH σ) 6)
def bkS (σ : St) (i : Nat) : Int32 := if nH σ ≤ i then -1 else lyW (min (nE σ) 4 + 1) (bS σ).2.toNatClampNeg (min (nH σ) 6) i
def qBest (i : Int32) (σ : St) : Int32 := if i = -1 then (bS σ).1 else if rng i 6 = true then bkS σ i.toNatClampNeg else -2
def wrS (σ : St) (q : Nat) : Int32 := wrF (nH σ) (nE σ) (nC σ) (HbS σ) (HeS σ) (ClS σ) (rfn σ) (σ 13) q (2 ^ nH σ)
def qWrite (e w : Int32) (σ : St) : Int32 := if (rng e (nE σ) && rng w 2) = true then tlM (wrS σ e.toNatClampNeg) w.toNatClampNeg else -2
def prS (σ : St) (a b w : Nat) : Int32 := if w = 0 then (prF (σ 16) a b 128).1 else (prF (σ 16) a b 128).2
def qPart (a b w : Int32) (σ : St) : Int32 := if (rng a 6 && (rng b 6 && (!decide (a = b) && rng w 2))) = true then prS σ a.toNatClampNeg b.toNatClampNeg w.toNatClampNeg else -2
def whS (σ : St) (h : Nat) : Nat := whF (nH σ) (nE σ) (HbS σ) (HeS σ) (wiS σ) (σ 22) (sgn σ) h (nE σ + 1)
def qWhose (h : Int32) (σ : St) : Int32 := if rng h (nH σ) = true then nI (whS σ h.toNatClampNeg) else -2
def lkS (σ : St) (h q : Nat) : Nat := (lkF (fun t => moF (dzM (nH σ) (HbS σ) (HeS σ) (wiS σ) h q t) (whS σ h) 7) 23).1
def qLook (h e : Int32) (σ : St) : Int32 := if (rng h (nH σ) && rng e (nE σ)) = true then nI (lkS σ h.toNatClampNeg e.toNatClampNeg) else -2
def vcS (σ : St) (q : Nat) : Nat := (smI (fun h => if wiS σ h = nI q then HbS σ (5 * h + 4) else nI 0) (nH σ)).toNatClampNeg
def qMarch (c e l w : Int32) (σ : St) : Int64 := if (rng c 17 && (rng e (nE σ) && (rng l 9 && rng w 2))) = true then mrA c.toNatClampNeg (vcS σ e.toNatClampNeg) l.toNatClampNeg w.toNatClampNeg else -9223372036854775806
def wsA (σ : St) (seed : Int32) (k q : Nat) : Int32 := wrM (nH σ) (HbS σ) (wsF (nH σ) (nE σ) (rfS σ) (wiS σ) seed k).2 q
def qWills (seed k e : Int32) (σ : St) : Int32 := if (inI k (nI 1) (nI 20) && (rng e (nE σ) && !decide (nH σ = 0))) = true then wsA σ seed k.toNatClampNeg e.toNatClampNeg else -2
def qCount (w : Int32) (σ : St) : Int32 := if rng w 9 = true then (match w.toNatClampNeg with
  | 0 => nI (nH σ)
  | 1 => nI (nE σ)
  | 2 => nI (nC σ)
  | 3 => σ 6 0
  | 4 => σ 6 1
  | 5 => σ 6 2
  | 6 => σ 12 0
  | 7 => σ 21 0
  | _ => σ 4 0) else -2
def dgX (h : Int64) (v : Int32) : Int64 := 31 * h + v.toInt64
def dgL (f : Nat → Int32) : Nat → Int64 → Int64
  | 0, h => h
  | k + 1, h => dgX (dgL f k h) (f k)
def dgF (g : Int64 → Nat → Int64) : Nat → Int64 → Int64
  | 0, h => h
  | k + 1, h => g (dgF g k h) k
def dHab (σ : St) (h : Int64) (k : Nat) : Int64 := dgX (dgX (dgX (dgL (fun j => qHabit (nI k) (nI j) σ) 5 h) (qWith (nI k) σ)) (qWhose (nI k) σ)) (qLook (nI k) (nI 0) σ)
def dHeir (σ : St) (h : Int64) (e : Nat) : Int64 := dgX (dgX (dgX (dgL (fun j => qHas (nI e) (nI j) σ) 4 (dgL (fun j => qHeir (nI e) (nI j) σ) 3 h)) (qDoes (nI e) (nI 0) σ)) (qDoes (nI e) (nI 7) σ)) (qDoes (nI e) (nI 20) σ)
def dPlan (σ : St) (h : Int64) (e : Nat) : Int64 := dgX (31 * (31 * dgX (dgX (dgX (dgX h (qWrite (nI e) (nI 0) σ)) (qWrite (nI e) (nI 1) σ)) (qPart (nI 0) (nI e) (nI 0) σ)) (qPart (nI 0) (nI e) (nI 1) σ) + qMarch (nI 5) (nI e) (nI 1) (nI 0) σ) + qMarch (nI 5) (nI e) (nI 1) (nI 1) σ) (qWills (nI 7) (nI 9) (nI e) σ)
def dCl (σ : St) (h : Int64) (k : Nat) : Int64 := dgL (fun j => qClause (nI k) (nI j) σ) 4 h
def dg1 (σ : St) : Int64 := dgL (fun t => qFault (nI t) σ) 3 (dgL (fun k => qCount (nI k) σ) 8 17)
def dg2 (σ : St) : Int64 := dgF (fun h e => dPlan σ (dHeir σ h e) e) (nE σ) (dgF (dHab σ) (nH σ) (dg1 σ))
def dg3 (σ : St) : Int64 := dgL (fun k => qQuarrel (nI k) σ) 4 (dgX (dgF (dCl σ) (nC σ) (dg2 σ)) (qDone σ))
def qDigest (σ : St) : Int64 := dgX (dgX (dg3 σ) (qBest (-1) σ)) (qBest (nI 0) σ)
def QM (G : GT) (o : Nat) (a : Nat → Nat) (r : Int32 × St) : Option Value → va_W → Prop := fun v w => ∃ x : St, v = some (.int r.1) ∧ w = mW G o a x ∧ cn x = r.2
def QML (G : GT) (o : Nat) (a : Nat → Nat) (r : Int64) (σ : St) : Option Value → va_W → Prop := fun v w => ∃ x : St, v = some (.long r) ∧ w = mW G o a x ∧ cn x = σ
section JG
variable {G : GT} {nm own : String} {cc : ByteArray} {nL : Nat} {ret : Option FieldType} {mc ms d : Nat} {Q : Option Value → va_W → Prop} {k n pc : Nat} {lv : List (Nat × Value)} {st : List Value} {ws : va_W}
theorem ltz_nge (x : Int32) : x < 0 ↔ ¬ 0 ≤ x := by
  rw [fa_lt, fa_le]; omega
theorem J_if_ltG {x : Int32} {off : Int} (tgt : Nat) (hd : decode cc pc = .ok (.ifCond .lt off, 3)) (ht : (pc : Int) + off = (tgt : Int)) (K1 : ¬ 0 ≤ x → J G nm own cc nL ret mc ms d Q k n tgt lv st ws) (K2 : 0 ≤ x → J G nm own cc nL ret mc ms d Q k n (pc + 3) lv st ws) : J G nm own cc nL ret mc ms d Q k n pc lv (.int x :: st) ws := J_if_lt tgt hd ht (fun h => K1 ((ltz_nge x).mp h)) (fun h => K2 (Decidable.not_not.mp (fun q => h ((ltz_nge x).mpr q))))
end JG
