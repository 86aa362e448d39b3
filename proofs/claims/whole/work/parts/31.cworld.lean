def cF0 (r : Nat → Nat) (s : St) : List Value := [.ref (r 1), .ref (r 7), .ref (r 8), .ref (r 9), .ref (r 10), .int (s 50 0)]
def cF1 (r : Nat → Nat) (s : St) : List Value := [.ref (r 2), .ref (r 5), .ref (r 6), .ref (r 39), .ref (r 40), .int (s 61 0)]
def cF2 (r : Nat → Nat) (s : St) : List Value := [.ref (r 3), .ref (r 4)]
def cF3 (r : Nat → Nat) (s : St) : List Value := [.ref (r 20), .int (nI 47), .int (nI 8), .int (s 51 0), .int (s 52 0), .int (s 53 0), .ref (r 21), .ref (r 22), .ref (r 23), .ref (r 24), .ref (r 25), .ref (r 26)]
def cF4 (r : Nat → Nat) (s : St) : List Value := [.ref (r 27), .int (nI 23), .int (nI 6), .int (s 54 0), .int (s 55 0), .int (s 56 0), .ref (r 28), .ref (r 29), .ref (r 30), .ref (r 31)]
def cF5 (r : Nat → Nat) (s : St) : List Value := [.ref (r 32), .int (nI 59), .int (nI 15), .int (s 57 0), .int (s 58 0), .int (s 59 0), .ref (r 33), .ref (r 34), .ref (r 35), .ref (r 36)]
def cF6 (r : Nat → Nat) (s : St) : List Value := [.ref (r 37), .ref (r 38), .int (s 60 0)]
def cF7 (r : Nat → Nat) (s : St) : List Value := [.ref (r 41)]
def cF8 (r : Nat → Nat) (s : St) : List Value := [.ref (r 42), .ref (r 43), .ref (r 44), .int (s 62 0)]
def cF9 (r : Nat → Nat) (s : St) : List Value := [.ref (r 45), .ref (r 46), .ref (r 47), .ref (r 48), .ref (r 49), .int (s 63 0), .int (s 64 0), .int (s 65 0), .int (s 66 0)]
def shF (r : Nat → Nat) (s : St) (j : Nat) : List Value := [.ref (r (15 + j)), .int (s 67 j), .int (s 68 j)]
def cW (G : GT) (r : Nat → Nat) (s : St) (l : Nat → Int64) : va_W := [(r 0, .inr (10, cF0 r s)), (r 1, .inr (1, cF1 r s)), (r 2, .inr (4, cF2 r s)), (r 3, .inr (2, cF3 r s)), (r 4, .inr (3, cF4 r s)), (r 5, .inr (0, cF5 r s)), (r 6, .inr (6, cF6 r s)), (r 7, .inr (9, cF7 r s)), (r 8, .inr (8, cF8 r s)), (r 9, .inr (5, cF9 r s)), (r 10, .inl (gS G, 4, .inr (.inr (.inr (.inr (fun j => some (r (11 + j)))))))), (r (11 + 0), .inr (7, shF r s 0)), (r (11 + 1), .inr (7, shF r s 1)), (r (11 + 2), .inr (7, shF r s 2)), (r (11 + 3), .inr (7, shF r s 3)), (r (15 + 0), .inl (gI G, 60, .inl (s (70 + 0)))), (r (15 + 1), .inl (gI G, 60, .inl (s (70 + 1)))), (r (15 + 2), .inl (gI G, 60, .inl (s (70 + 2)))), (r (15 + 3), .inl (gI G, 60, .inl (s (70 + 3)))), (r 20, .inl (gI G, 59, .inl (s 20))), (r 21, .inl (gI G, 8, .inl (s 21))), (r 22, .inl (gI G, 8, .inl (s 22))), (r 23, .inl (gI G, 8, .inl (s 23))), (r 24, .inl (gI G, 8, .inl (s 24))), (r 25, .inl (gI G, 8, .inl (s 25))), (r 26, .inl (gI G, 8, .inl (s 26))), (r 27, .inl (gI G, 59, .inl (s 27))), (r 28, .inl (gI G, 6, .inl (s 28))), (r 29, .inl (gI G, 6, .inl (s 29))), (r 30, .inl (gI G, 6, .inl (s 30))), (r 31, .inl (gI G, 6, .inl (s 31))), (r 32, .inl (gI G, 59, .inl (s 32))), (r 33, .inl (gI G, 15, .inl (s 33))), (r 34, .inl (gI G, 15, .inl (s 34))), (r 35, .inl (gI G, 15, .inl (s 35))), (r 36, .inl (gI G, 15, .inl (s 36))), (r 37, .inl (gI G, 12, .inl (s 37))), (r 38, .inl (gI G, 12, .inl (s 38))), (r 39, .inl (gI G, 8, .inl (s 39))), (r 40, .inl (gI G, 6, .inl (s 40))), (r 41, .inl (gI G, 42, .inl (s 41))), (r 42, .inl (gI G, 8, .inl (s 42))), (r 43, .inl (gI G, 8, .inl (s 43))), (r 44, .inl (gI G, 8, .inl (s 44))), (r 45, .inl (gI G, 6, .inl (s 45))), (r 46, .inl (gI G, 6, .inl (s 46))), (r 47, .inl (gI G, 4, .inl (s 47))), (r 48, .inl (gI G, 7, .inl (s 48))), (r 49, .inl (gJ G, 28, .inr (.inl l)))]
section CWd
variable {G : GT} {nm own : String} {cc : ByteArray} {nL : Nat} {ret : Option FieldType} {mc ms d : Nat} {Q : Option Value → va_W → Prop} {k n pc : Nat} {lv : List (Nat × Value)} {st : List Value} {r : Nat → Nat} {s : St} {l : Nat → Int64}
theorem cW_0 : (cW G r s l)[0]? = some (r 0, .inr (10, cF0 r s)) := rfl
theorem Cg_0_0 {index : Nat} (hf : FR own index 10 0 true (.object "HabitWill$Estate")) (hd : decode cc pc = .ok (.getfield index, 3)) (K : J G nm own cc nL ret mc ms d Q k n (pc + 3) lv (.ref (r 1) :: st) (cW G r s l)) : J G nm own cc nL ret mc ms d Q k n pc lv (.ref (r 0) :: st) (cW G r s l) := J_get hf 0 cW_0 rfl hd K
theorem Cg_0_1 {index : Nat} (hf : FR own index 10 1 true (.object "HabitWill$Week")) (hd : decode cc pc = .ok (.getfield index, 3)) (K : J G nm own cc nL ret mc ms d Q k n (pc + 3) lv (.ref (r 7) :: st) (cW G r s l)) : J G nm own cc nL ret mc ms d Q k n pc lv (.ref (r 0) :: st) (cW G r s l) := J_get hf 0 cW_0 rfl hd K
theorem Cg_0_2 {index : Nat} (hf : FR own index 10 2 true (.object "HabitWill$Sightings")) (hd : decode cc pc = .ok (.getfield index, 3)) (K : J G nm own cc nL ret mc ms d Q k n (pc + 3) lv (.ref (r 8) :: st) (cW G r s l)) : J G nm own cc nL ret mc ms d Q k n pc lv (.ref (r 0) :: st) (cW G r s l) := J_get hf 0 cW_0 rfl hd K
theorem Cg_0_3 {index : Nat} (hf : FR own index 10 3 true (.object "HabitWill$Plan")) (hd : decode cc pc = .ok (.getfield index, 3)) (K : J G nm own cc nL ret mc ms d Q k n (pc + 3) lv (.ref (r 9) :: st) (cW G r s l)) : J G nm own cc nL ret mc ms d Q k n pc lv (.ref (r 0) :: st) (cW G r s l) := J_get hf 0 cW_0 rfl hd K
theorem Cg_0_4 {index : Nat} (hf : FR own index 10 4 true (.array (.object "HabitWill$Sheet"))) (hd : decode cc pc = .ok (.getfield index, 3)) (K : J G nm own cc nL ret mc ms d Q k n (pc + 3) lv (.ref (r 10) :: st) (cW G r s l)) : J G nm own cc nL ret mc ms d Q k n pc lv (.ref (r 0) :: st) (cW G r s l) := J_get hf 0 cW_0 rfl hd K
theorem Cg_0_5 {index : Nat} (hf : FR own index 10 5 false .int) (v : Int32) (hv : s 50 0 = v) (hd : decode cc pc = .ok (.getfield index, 3)) (K : J G nm own cc nL ret mc ms d Q k n (pc + 3) lv (.int v :: st) (cW G r s l)) : J G nm own cc nL ret mc ms d Q k n pc lv (.ref (r 0) :: st) (cW G r s l) := by
  subst hv
  exact J_get hf 0 cW_0 rfl hd K
theorem Cp_0_5 {index : Nat} {v : Int32} (hf : FR own index 10 5 false .int) (hd : decode cc pc = .ok (.putfield index, 3)) (K : J G nm own cc nL ret mc ms d Q k n (pc + 3) lv st (cW G r (su 50 s (fun _ => v)) l)) : J G nm own cc nL ret mc ms d Q k n pc lv (.int v :: .ref (r 0) :: st) (cW G r s l) := J_put hf 0 _ cW_0 rfl rfl (by show 5 < 6; decide) rfl hd K
theorem cW_1 : (cW G r s l)[1]? = some (r 1, .inr (1, cF1 r s)) := rfl
theorem Cg_1_0 {index : Nat} (hf : FR own index 1 0 true (.object "HabitWill$Law")) (hd : decode cc pc = .ok (.getfield index, 3)) (K : J G nm own cc nL ret mc ms d Q k n (pc + 3) lv (.ref (r 2) :: st) (cW G r s l)) : J G nm own cc nL ret mc ms d Q k n pc lv (.ref (r 1) :: st) (cW G r s l) := J_get hf 1 cW_1 rfl hd K
theorem Cg_1_1 {index : Nat} (hf : FR own index 1 1 true (.object "HabitWill$Clauses")) (hd : decode cc pc = .ok (.getfield index, 3)) (K : J G nm own cc nL ret mc ms d Q k n (pc + 3) lv (.ref (r 5) :: st) (cW G r s l)) : J G nm own cc nL ret mc ms d Q k n pc lv (.ref (r 1) :: st) (cW G r s l) := J_get hf 1 cW_1 rfl hd K
theorem Cg_1_2 {index : Nat} (hf : FR own index 1 2 true (.object "HabitWill$Refusals")) (hd : decode cc pc = .ok (.getfield index, 3)) (K : J G nm own cc nL ret mc ms d Q k n (pc + 3) lv (.ref (r 6) :: st) (cW G r s l)) : J G nm own cc nL ret mc ms d Q k n pc lv (.ref (r 1) :: st) (cW G r s l) := J_get hf 1 cW_1 rfl hd K
theorem Cg_1_3 {index : Nat} (hf : FR own index 1 3 true (.array .int)) (hd : decode cc pc = .ok (.getfield index, 3)) (K : J G nm own cc nL ret mc ms d Q k n (pc + 3) lv (.ref (r 39) :: st) (cW G r s l)) : J G nm own cc nL ret mc ms d Q k n pc lv (.ref (r 1) :: st) (cW G r s l) := J_get hf 1 cW_1 rfl hd K
theorem Cg_1_4 {index : Nat} (hf : FR own index 1 4 true (.array .int)) (hd : decode cc pc = .ok (.getfield index, 3)) (K : J G nm own cc nL ret mc ms d Q k n (pc + 3) lv (.ref (r 40) :: st) (cW G r s l)) : J G nm own cc nL ret mc ms d Q k n pc lv (.ref (r 1) :: st) (cW G r s l) := J_get hf 1 cW_1 rfl hd K
theorem Cg_1_5 {index : Nat} (hf : FR own index 1 5 false .int) (v : Int32) (hv : s 61 0 = v) (hd : decode cc pc = .ok (.getfield index, 3)) (K : J G nm own cc nL ret mc ms d Q k n (pc + 3) lv (.int v :: st) (cW G r s l)) : J G nm own cc nL ret mc ms d Q k n pc lv (.ref (r 1) :: st) (cW G r s l) := by
  subst hv
  exact J_get hf 1 cW_1 rfl hd K
theorem Cp_1_5 {index : Nat} {v : Int32} (hf : FR own index 1 5 false .int) (hd : decode cc pc = .ok (.putfield index, 3)) (K : J G nm own cc nL ret mc ms d Q k n (pc + 3) lv st (cW G r (su 61 s (fun _ => v)) l)) : J G nm own cc nL ret mc ms d Q k n pc lv (.int v :: .ref (r 1) :: st) (cW G r s l) := J_put hf 1 _ cW_1 rfl rfl (by show 5 < 6; decide) rfl hd K
theorem cW_2 : (cW G r s l)[2]? = some (r 2, .inr (4, cF2 r s)) := rfl
theorem Cg_2_0 {index : Nat} (hf : FR own index 4 0 true (.object "HabitWill$Habits")) (hd : decode cc pc = .ok (.getfield index, 3)) (K : J G nm own cc nL ret mc ms d Q k n (pc + 3) lv (.ref (r 3) :: st) (cW G r s l)) : J G nm own cc nL ret mc ms d Q k n pc lv (.ref (r 2) :: st) (cW G r s l) := J_get hf 2 cW_2 rfl hd K
theorem Cg_2_1 {index : Nat} (hf : FR own index 4 1 true (.object "HabitWill$Heirs")) (hd : decode cc pc = .ok (.getfield index, 3)) (K : J G nm own cc nL ret mc ms d Q k n (pc + 3) lv (.ref (r 4) :: st) (cW G r s l)) : J G nm own cc nL ret mc ms d Q k n pc lv (.ref (r 2) :: st) (cW G r s l) := J_get hf 2 cW_2 rfl hd K
theorem cW_3 : (cW G r s l)[3]? = some (r 3, .inr (2, cF3 r s)) := rfl
theorem Cg_3_0 {index : Nat} (hf : FR own index 2 0 true (.array .int)) (hd : decode cc pc = .ok (.getfield index, 3)) (K : J G nm own cc nL ret mc ms d Q k n (pc + 3) lv (.ref (r 20) :: st) (cW G r s l)) : J G nm own cc nL ret mc ms d Q k n pc lv (.ref (r 3) :: st) (cW G r s l) := J_get hf 3 cW_3 rfl hd K
theorem Cg_3_1 {index : Nat} (hf : FR own index 2 1 true .int) (hd : decode cc pc = .ok (.getfield index, 3)) (K : J G nm own cc nL ret mc ms d Q k n (pc + 3) lv (.int (nI 47) :: st) (cW G r s l)) : J G nm own cc nL ret mc ms d Q k n pc lv (.ref (r 3) :: st) (cW G r s l) := J_get hf 3 cW_3 rfl hd K
theorem Cg_3_2 {index : Nat} (hf : FR own index 2 2 true .int) (hd : decode cc pc = .ok (.getfield index, 3)) (K : J G nm own cc nL ret mc ms d Q k n (pc + 3) lv (.int (nI 8) :: st) (cW G r s l)) : J G nm own cc nL ret mc ms d Q k n pc lv (.ref (r 3) :: st) (cW G r s l) := J_get hf 3 cW_3 rfl hd K
theorem Cg_3_3 {index : Nat} (hf : FR own index 2 3 false .int) (v : Int32) (hv : s 51 0 = v) (hd : decode cc pc = .ok (.getfield index, 3)) (K : J G nm own cc nL ret mc ms d Q k n (pc + 3) lv (.int v :: st) (cW G r s l)) : J G nm own cc nL ret mc ms d Q k n pc lv (.ref (r 3) :: st) (cW G r s l) := by
  subst hv
  exact J_get hf 3 cW_3 rfl hd K
theorem Cp_3_3 {index : Nat} {v : Int32} (hf : FR own index 2 3 false .int) (hd : decode cc pc = .ok (.putfield index, 3)) (K : J G nm own cc nL ret mc ms d Q k n (pc + 3) lv st (cW G r (su 51 s (fun _ => v)) l)) : J G nm own cc nL ret mc ms d Q k n pc lv (.int v :: .ref (r 3) :: st) (cW G r s l) := J_put hf 3 _ cW_3 rfl rfl (by show 3 < 12; decide) rfl hd K
theorem Cg_3_4 {index : Nat} (hf : FR own index 2 4 false .int) (v : Int32) (hv : s 52 0 = v) (hd : decode cc pc = .ok (.getfield index, 3)) (K : J G nm own cc nL ret mc ms d Q k n (pc + 3) lv (.int v :: st) (cW G r s l)) : J G nm own cc nL ret mc ms d Q k n pc lv (.ref (r 3) :: st) (cW G r s l) := by
  subst hv
  exact J_get hf 3 cW_3 rfl hd K
theorem Cp_3_4 {index : Nat} {v : Int32} (hf : FR own index 2 4 false .int) (hd : decode cc pc = .ok (.putfield index, 3)) (K : J G nm own cc nL ret mc ms d Q k n (pc + 3) lv st (cW G r (su 52 s (fun _ => v)) l)) : J G nm own cc nL ret mc ms d Q k n pc lv (.int v :: .ref (r 3) :: st) (cW G r s l) := J_put hf 3 _ cW_3 rfl rfl (by show 4 < 12; decide) rfl hd K
theorem Cg_3_5 {index : Nat} (hf : FR own index 2 5 false .int) (v : Int32) (hv : s 53 0 = v) (hd : decode cc pc = .ok (.getfield index, 3)) (K : J G nm own cc nL ret mc ms d Q k n (pc + 3) lv (.int v :: st) (cW G r s l)) : J G nm own cc nL ret mc ms d Q k n pc lv (.ref (r 3) :: st) (cW G r s l) := by
  subst hv
  exact J_get hf 3 cW_3 rfl hd K
theorem Cp_3_5 {index : Nat} {v : Int32} (hf : FR own index 2 5 false .int) (hd : decode cc pc = .ok (.putfield index, 3)) (K : J G nm own cc nL ret mc ms d Q k n (pc + 3) lv st (cW G r (su 53 s (fun _ => v)) l)) : J G nm own cc nL ret mc ms d Q k n pc lv (.int v :: .ref (r 3) :: st) (cW G r s l) := J_put hf 3 _ cW_3 rfl rfl (by show 5 < 12; decide) rfl hd K
theorem Cg_3_6 {index : Nat} (hf : FR own index 2 6 true (.array .int)) (hd : decode cc pc = .ok (.getfield index, 3)) (K : J G nm own cc nL ret mc ms d Q k n (pc + 3) lv (.ref (r 21) :: st) (cW G r s l)) : J G nm own cc nL ret mc ms d Q k n pc lv (.ref (r 3) :: st) (cW G r s l) := J_get hf 3 cW_3 rfl hd K
theorem Cg_3_7 {index : Nat} (hf : FR own index 2 7 true (.array .int)) (hd : decode cc pc = .ok (.getfield index, 3)) (K : J G nm own cc nL ret mc ms d Q k n (pc + 3) lv (.ref (r 22) :: st) (cW G r s l)) : J G nm own cc nL ret mc ms d Q k n pc lv (.ref (r 3) :: st) (cW G r s l) := J_get hf 3 cW_3 rfl hd K
theorem Cg_3_8 {index : Nat} (hf : FR own index 2 8 true (.array .int)) (hd : decode cc pc = .ok (.getfield index, 3)) (K : J G nm own cc nL ret mc ms d Q k n (pc + 3) lv (.ref (r 23) :: st) (cW G r s l)) : J G nm own cc nL ret mc ms d Q k n pc lv (.ref (r 3) :: st) (cW G r s l) := J_get hf 3 cW_3 rfl hd K
theorem Cg_3_9 {index : Nat} (hf : FR own index 2 9 true (.array .int)) (hd : decode cc pc = .ok (.getfield index, 3)) (K : J G nm own cc nL ret mc ms d Q k n (pc + 3) lv (.ref (r 24) :: st) (cW G r s l)) : J G nm own cc nL ret mc ms d Q k n pc lv (.ref (r 3) :: st) (cW G r s l) := J_get hf 3 cW_3 rfl hd K
theorem Cg_3_10 {index : Nat} (hf : FR own index 2 10 true (.array .int)) (hd : decode cc pc = .ok (.getfield index, 3)) (K : J G nm own cc nL ret mc ms d Q k n (pc + 3) lv (.ref (r 25) :: st) (cW G r s l)) : J G nm own cc nL ret mc ms d Q k n pc lv (.ref (r 3) :: st) (cW G r s l) := J_get hf 3 cW_3 rfl hd K
theorem Cg_3_11 {index : Nat} (hf : FR own index 2 11 true (.array .int)) (hd : decode cc pc = .ok (.getfield index, 3)) (K : J G nm own cc nL ret mc ms d Q k n (pc + 3) lv (.ref (r 26) :: st) (cW G r s l)) : J G nm own cc nL ret mc ms d Q k n pc lv (.ref (r 3) :: st) (cW G r s l) := J_get hf 3 cW_3 rfl hd K
theorem cW_4 : (cW G r s l)[4]? = some (r 4, .inr (3, cF4 r s)) := rfl
theorem Cg_4_0 {index : Nat} (hf : FR own index 3 0 true (.array .int)) (hd : decode cc pc = .ok (.getfield index, 3)) (K : J G nm own cc nL ret mc ms d Q k n (pc + 3) lv (.ref (r 27) :: st) (cW G r s l)) : J G nm own cc nL ret mc ms d Q k n pc lv (.ref (r 4) :: st) (cW G r s l) := J_get hf 4 cW_4 rfl hd K
theorem Cg_4_1 {index : Nat} (hf : FR own index 3 1 true .int) (hd : decode cc pc = .ok (.getfield index, 3)) (K : J G nm own cc nL ret mc ms d Q k n (pc + 3) lv (.int (nI 23) :: st) (cW G r s l)) : J G nm own cc nL ret mc ms d Q k n pc lv (.ref (r 4) :: st) (cW G r s l) := J_get hf 4 cW_4 rfl hd K
theorem Cg_4_2 {index : Nat} (hf : FR own index 3 2 true .int) (hd : decode cc pc = .ok (.getfield index, 3)) (K : J G nm own cc nL ret mc ms d Q k n (pc + 3) lv (.int (nI 6) :: st) (cW G r s l)) : J G nm own cc nL ret mc ms d Q k n pc lv (.ref (r 4) :: st) (cW G r s l) := J_get hf 4 cW_4 rfl hd K
theorem Cg_4_3 {index : Nat} (hf : FR own index 3 3 false .int) (v : Int32) (hv : s 54 0 = v) (hd : decode cc pc = .ok (.getfield index, 3)) (K : J G nm own cc nL ret mc ms d Q k n (pc + 3) lv (.int v :: st) (cW G r s l)) : J G nm own cc nL ret mc ms d Q k n pc lv (.ref (r 4) :: st) (cW G r s l) := by
  subst hv
  exact J_get hf 4 cW_4 rfl hd K
theorem Cp_4_3 {index : Nat} {v : Int32} (hf : FR own index 3 3 false .int) (hd : decode cc pc = .ok (.putfield index, 3)) (K : J G nm own cc nL ret mc ms d Q k n (pc + 3) lv st (cW G r (su 54 s (fun _ => v)) l)) : J G nm own cc nL ret mc ms d Q k n pc lv (.int v :: .ref (r 4) :: st) (cW G r s l) := J_put hf 4 _ cW_4 rfl rfl (by show 3 < 10; decide) rfl hd K
theorem Cg_4_4 {index : Nat} (hf : FR own index 3 4 false .int) (v : Int32) (hv : s 55 0 = v) (hd : decode cc pc = .ok (.getfield index, 3)) (K : J G nm own cc nL ret mc ms d Q k n (pc + 3) lv (.int v :: st) (cW G r s l)) : J G nm own cc nL ret mc ms d Q k n pc lv (.ref (r 4) :: st) (cW G r s l) := by
  subst hv
  exact J_get hf 4 cW_4 rfl hd K
theorem Cp_4_4 {index : Nat} {v : Int32} (hf : FR own index 3 4 false .int) (hd : decode cc pc = .ok (.putfield index, 3)) (K : J G nm own cc nL ret mc ms d Q k n (pc + 3) lv st (cW G r (su 55 s (fun _ => v)) l)) : J G nm own cc nL ret mc ms d Q k n pc lv (.int v :: .ref (r 4) :: st) (cW G r s l) := J_put hf 4 _ cW_4 rfl rfl (by show 4 < 10; decide) rfl hd K
theorem Cg_4_5 {index : Nat} (hf : FR own index 3 5 false .int) (v : Int32) (hv : s 56 0 = v) (hd : decode cc pc = .ok (.getfield index, 3)) (K : J G nm own cc nL ret mc ms d Q k n (pc + 3) lv (.int v :: st) (cW G r s l)) : J G nm own cc nL ret mc ms d Q k n pc lv (.ref (r 4) :: st) (cW G r s l) := by
  subst hv
  exact J_get hf 4 cW_4 rfl hd K
theorem Cp_4_5 {index : Nat} {v : Int32} (hf : FR own index 3 5 false .int) (hd : decode cc pc = .ok (.putfield index, 3)) (K : J G nm own cc nL ret mc ms d Q k n (pc + 3) lv st (cW G r (su 56 s (fun _ => v)) l)) : J G nm own cc nL ret mc ms d Q k n pc lv (.int v :: .ref (r 4) :: st) (cW G r s l) := J_put hf 4 _ cW_4 rfl rfl (by show 5 < 10; decide) rfl hd K
theorem Cg_4_6 {index : Nat} (hf : FR own index 3 6 true (.array .int)) (hd : decode cc pc = .ok (.getfield index, 3)) (K : J G nm own cc nL ret mc ms d Q k n (pc + 3) lv (.ref (r 28) :: st) (cW G r s l)) : J G nm own cc nL ret mc ms d Q k n pc lv (.ref (r 4) :: st) (cW G r s l) := J_get hf 4 cW_4 rfl hd K
theorem Cg_4_7 {index : Nat} (hf : FR own index 3 7 true (.array .int)) (hd : decode cc pc = .ok (.getfield index, 3)) (K : J G nm own cc nL ret mc ms d Q k n (pc + 3) lv (.ref (r 29) :: st) (cW G r s l)) : J G nm own cc nL ret mc ms d Q k n pc lv (.ref (r 4) :: st) (cW G r s l) := J_get hf 4 cW_4 rfl hd K
theorem Cg_4_8 {index : Nat} (hf : FR own index 3 8 true (.array .int)) (hd : decode cc pc = .ok (.getfield index, 3)) (K : J G nm own cc nL ret mc ms d Q k n (pc + 3) lv (.ref (r 30) :: st) (cW G r s l)) : J G nm own cc nL ret mc ms d Q k n pc lv (.ref (r 4) :: st) (cW G r s l) := J_get hf 4 cW_4 rfl hd K
theorem Cg_4_9 {index : Nat} (hf : FR own index 3 9 true (.array .int)) (hd : decode cc pc = .ok (.getfield index, 3)) (K : J G nm own cc nL ret mc ms d Q k n (pc + 3) lv (.ref (r 31) :: st) (cW G r s l)) : J G nm own cc nL ret mc ms d Q k n pc lv (.ref (r 4) :: st) (cW G r s l) := J_get hf 4 cW_4 rfl hd K
theorem cW_5 : (cW G r s l)[5]? = some (r 5, .inr (0, cF5 r s)) := rfl
theorem Cg_5_0 {index : Nat} (hf : FR own index 0 0 true (.array .int)) (hd : decode cc pc = .ok (.getfield index, 3)) (K : J G nm own cc nL ret mc ms d Q k n (pc + 3) lv (.ref (r 32) :: st) (cW G r s l)) : J G nm own cc nL ret mc ms d Q k n pc lv (.ref (r 5) :: st) (cW G r s l) := J_get hf 5 cW_5 rfl hd K
theorem Cg_5_1 {index : Nat} (hf : FR own index 0 1 true .int) (hd : decode cc pc = .ok (.getfield index, 3)) (K : J G nm own cc nL ret mc ms d Q k n (pc + 3) lv (.int (nI 59) :: st) (cW G r s l)) : J G nm own cc nL ret mc ms d Q k n pc lv (.ref (r 5) :: st) (cW G r s l) := J_get hf 5 cW_5 rfl hd K
theorem Cg_5_2 {index : Nat} (hf : FR own index 0 2 true .int) (hd : decode cc pc = .ok (.getfield index, 3)) (K : J G nm own cc nL ret mc ms d Q k n (pc + 3) lv (.int (nI 15) :: st) (cW G r s l)) : J G nm own cc nL ret mc ms d Q k n pc lv (.ref (r 5) :: st) (cW G r s l) := J_get hf 5 cW_5 rfl hd K
theorem Cg_5_3 {index : Nat} (hf : FR own index 0 3 false .int) (v : Int32) (hv : s 57 0 = v) (hd : decode cc pc = .ok (.getfield index, 3)) (K : J G nm own cc nL ret mc ms d Q k n (pc + 3) lv (.int v :: st) (cW G r s l)) : J G nm own cc nL ret mc ms d Q k n pc lv (.ref (r 5) :: st) (cW G r s l) := by
  subst hv
  exact J_get hf 5 cW_5 rfl hd K
theorem Cp_5_3 {index : Nat} {v : Int32} (hf : FR own index 0 3 false .int) (hd : decode cc pc = .ok (.putfield index, 3)) (K : J G nm own cc nL ret mc ms d Q k n (pc + 3) lv st (cW G r (su 57 s (fun _ => v)) l)) : J G nm own cc nL ret mc ms d Q k n pc lv (.int v :: .ref (r 5) :: st) (cW G r s l) := J_put hf 5 _ cW_5 rfl rfl (by show 3 < 10; decide) rfl hd K
theorem Cg_5_4 {index : Nat} (hf : FR own index 0 4 false .int) (v : Int32) (hv : s 58 0 = v) (hd : decode cc pc = .ok (.getfield index, 3)) (K : J G nm own cc nL ret mc ms d Q k n (pc + 3) lv (.int v :: st) (cW G r s l)) : J G nm own cc nL ret mc ms d Q k n pc lv (.ref (r 5) :: st) (cW G r s l) := by
  subst hv
  exact J_get hf 5 cW_5 rfl hd K
theorem Cp_5_4 {index : Nat} {v : Int32} (hf : FR own index 0 4 false .int) (hd : decode cc pc = .ok (.putfield index, 3)) (K : J G nm own cc nL ret mc ms d Q k n (pc + 3) lv st (cW G r (su 58 s (fun _ => v)) l)) : J G nm own cc nL ret mc ms d Q k n pc lv (.int v :: .ref (r 5) :: st) (cW G r s l) := J_put hf 5 _ cW_5 rfl rfl (by show 4 < 10; decide) rfl hd K
theorem Cg_5_5 {index : Nat} (hf : FR own index 0 5 false .int) (v : Int32) (hv : s 59 0 = v) (hd : decode cc pc = .ok (.getfield index, 3)) (K : J G nm own cc nL ret mc ms d Q k n (pc + 3) lv (.int v :: st) (cW G r s l)) : J G nm own cc nL ret mc ms d Q k n pc lv (.ref (r 5) :: st) (cW G r s l) := by
  subst hv
  exact J_get hf 5 cW_5 rfl hd K
theorem Cp_5_5 {index : Nat} {v : Int32} (hf : FR own index 0 5 false .int) (hd : decode cc pc = .ok (.putfield index, 3)) (K : J G nm own cc nL ret mc ms d Q k n (pc + 3) lv st (cW G r (su 59 s (fun _ => v)) l)) : J G nm own cc nL ret mc ms d Q k n pc lv (.int v :: .ref (r 5) :: st) (cW G r s l) := J_put hf 5 _ cW_5 rfl rfl (by show 5 < 10; decide) rfl hd K
theorem Cg_5_6 {index : Nat} (hf : FR own index 0 6 true (.array .int)) (hd : decode cc pc = .ok (.getfield index, 3)) (K : J G nm own cc nL ret mc ms d Q k n (pc + 3) lv (.ref (r 33) :: st) (cW G r s l)) : J G nm own cc nL ret mc ms d Q k n pc lv (.ref (r 5) :: st) (cW G r s l) := J_get hf 5 cW_5 rfl hd K
theorem Cg_5_7 {index : Nat} (hf : FR own index 0 7 true (.array .int)) (hd : decode cc pc = .ok (.getfield index, 3)) (K : J G nm own cc nL ret mc ms d Q k n (pc + 3) lv (.ref (r 34) :: st) (cW G r s l)) : J G nm own cc nL ret mc ms d Q k n pc lv (.ref (r 5) :: st) (cW G r s l) := J_get hf 5 cW_5 rfl hd K
theorem Cg_5_8 {index : Nat} (hf : FR own index 0 8 true (.array .int)) (hd : decode cc pc = .ok (.getfield index, 3)) (K : J G nm own cc nL ret mc ms d Q k n (pc + 3) lv (.ref (r 35) :: st) (cW G r s l)) : J G nm own cc nL ret mc ms d Q k n pc lv (.ref (r 5) :: st) (cW G r s l) := J_get hf 5 cW_5 rfl hd K
theorem Cg_5_9 {index : Nat} (hf : FR own index 0 9 true (.array .int)) (hd : decode cc pc = .ok (.getfield index, 3)) (K : J G nm own cc nL ret mc ms d Q k n (pc + 3) lv (.ref (r 36) :: st) (cW G r s l)) : J G nm own cc nL ret mc ms d Q k n pc lv (.ref (r 5) :: st) (cW G r s l) := J_get hf 5 cW_5 rfl hd K
theorem cW_6 : (cW G r s l)[6]? = some (r 6, .inr (6, cF6 r s)) := rfl
theorem Cg_6_0 {index : Nat} (hf : FR own index 6 0 true (.array .int)) (hd : decode cc pc = .ok (.getfield index, 3)) (K : J G nm own cc nL ret mc ms d Q k n (pc + 3) lv (.ref (r 37) :: st) (cW G r s l)) : J G nm own cc nL ret mc ms d Q k n pc lv (.ref (r 6) :: st) (cW G r s l) := J_get hf 6 cW_6 rfl hd K
theorem Cg_6_1 {index : Nat} (hf : FR own index 6 1 true (.array .int)) (hd : decode cc pc = .ok (.getfield index, 3)) (K : J G nm own cc nL ret mc ms d Q k n (pc + 3) lv (.ref (r 38) :: st) (cW G r s l)) : J G nm own cc nL ret mc ms d Q k n pc lv (.ref (r 6) :: st) (cW G r s l) := J_get hf 6 cW_6 rfl hd K
theorem Cg_6_2 {index : Nat} (hf : FR own index 6 2 false .int) (v : Int32) (hv : s 60 0 = v) (hd : decode cc pc = .ok (.getfield index, 3)) (K : J G nm own cc nL ret mc ms d Q k n (pc + 3) lv (.int v :: st) (cW G r s l)) : J G nm own cc nL ret mc ms d Q k n pc lv (.ref (r 6) :: st) (cW G r s l) := by
  subst hv
  exact J_get hf 6 cW_6 rfl hd K
theorem Cp_6_2 {index : Nat} {v : Int32} (hf : FR own index 6 2 false .int) (hd : decode cc pc = .ok (.putfield index, 3)) (K : J G nm own cc nL ret mc ms d Q k n (pc + 3) lv st (cW G r (su 60 s (fun _ => v)) l)) : J G nm own cc nL ret mc ms d Q k n pc lv (.int v :: .ref (r 6) :: st) (cW G r s l) := J_put hf 6 _ cW_6 rfl rfl (by show 2 < 3; decide) rfl hd K
theorem cW_7 : (cW G r s l)[7]? = some (r 7, .inr (9, cF7 r s)) := rfl
theorem Cg_7_0 {index : Nat} (hf : FR own index 9 0 true (.array .int)) (hd : decode cc pc = .ok (.getfield index, 3)) (K : J G nm own cc nL ret mc ms d Q k n (pc + 3) lv (.ref (r 41) :: st) (cW G r s l)) : J G nm own cc nL ret mc ms d Q k n pc lv (.ref (r 7) :: st) (cW G r s l) := J_get hf 7 cW_7 rfl hd K
theorem cW_8 : (cW G r s l)[8]? = some (r 8, .inr (8, cF8 r s)) := rfl
theorem Cg_8_0 {index : Nat} (hf : FR own index 8 0 true (.array .int)) (hd : decode cc pc = .ok (.getfield index, 3)) (K : J G nm own cc nL ret mc ms d Q k n (pc + 3) lv (.ref (r 42) :: st) (cW G r s l)) : J G nm own cc nL ret mc ms d Q k n pc lv (.ref (r 8) :: st) (cW G r s l) := J_get hf 8 cW_8 rfl hd K
theorem Cg_8_1 {index : Nat} (hf : FR own index 8 1 true (.array .int)) (hd : decode cc pc = .ok (.getfield index, 3)) (K : J G nm own cc nL ret mc ms d Q k n (pc + 3) lv (.ref (r 43) :: st) (cW G r s l)) : J G nm own cc nL ret mc ms d Q k n pc lv (.ref (r 8) :: st) (cW G r s l) := J_get hf 8 cW_8 rfl hd K
theorem Cg_8_2 {index : Nat} (hf : FR own index 8 2 true (.array .int)) (hd : decode cc pc = .ok (.getfield index, 3)) (K : J G nm own cc nL ret mc ms d Q k n (pc + 3) lv (.ref (r 44) :: st) (cW G r s l)) : J G nm own cc nL ret mc ms d Q k n pc lv (.ref (r 8) :: st) (cW G r s l) := J_get hf 8 cW_8 rfl hd K
theorem Cg_8_3 {index : Nat} (hf : FR own index 8 3 false .int) (v : Int32) (hv : s 62 0 = v) (hd : decode cc pc = .ok (.getfield index, 3)) (K : J G nm own cc nL ret mc ms d Q k n (pc + 3) lv (.int v :: st) (cW G r s l)) : J G nm own cc nL ret mc ms d Q k n pc lv (.ref (r 8) :: st) (cW G r s l) := by
  subst hv
  exact J_get hf 8 cW_8 rfl hd K
theorem Cp_8_3 {index : Nat} {v : Int32} (hf : FR own index 8 3 false .int) (hd : decode cc pc = .ok (.putfield index, 3)) (K : J G nm own cc nL ret mc ms d Q k n (pc + 3) lv st (cW G r (su 62 s (fun _ => v)) l)) : J G nm own cc nL ret mc ms d Q k n pc lv (.int v :: .ref (r 8) :: st) (cW G r s l) := J_put hf 8 _ cW_8 rfl rfl (by show 3 < 4; decide) rfl hd K
theorem cW_9 : (cW G r s l)[9]? = some (r 9, .inr (5, cF9 r s)) := rfl
theorem Cg_9_0 {index : Nat} (hf : FR own index 5 0 true (.array .int)) (hd : decode cc pc = .ok (.getfield index, 3)) (K : J G nm own cc nL ret mc ms d Q k n (pc + 3) lv (.ref (r 45) :: st) (cW G r s l)) : J G nm own cc nL ret mc ms d Q k n pc lv (.ref (r 9) :: st) (cW G r s l) := J_get hf 9 cW_9 rfl hd K
theorem Cg_9_1 {index : Nat} (hf : FR own index 5 1 true (.array .int)) (hd : decode cc pc = .ok (.getfield index, 3)) (K : J G nm own cc nL ret mc ms d Q k n (pc + 3) lv (.ref (r 46) :: st) (cW G r s l)) : J G nm own cc nL ret mc ms d Q k n pc lv (.ref (r 9) :: st) (cW G r s l) := J_get hf 9 cW_9 rfl hd K
theorem Cg_9_2 {index : Nat} (hf : FR own index 5 2 true (.array .int)) (hd : decode cc pc = .ok (.getfield index, 3)) (K : J G nm own cc nL ret mc ms d Q k n (pc + 3) lv (.ref (r 47) :: st) (cW G r s l)) : J G nm own cc nL ret mc ms d Q k n pc lv (.ref (r 9) :: st) (cW G r s l) := J_get hf 9 cW_9 rfl hd K
theorem Cg_9_3 {index : Nat} (hf : FR own index 5 3 true (.array .int)) (hd : decode cc pc = .ok (.getfield index, 3)) (K : J G nm own cc nL ret mc ms d Q k n (pc + 3) lv (.ref (r 48) :: st) (cW G r s l)) : J G nm own cc nL ret mc ms d Q k n pc lv (.ref (r 9) :: st) (cW G r s l) := J_get hf 9 cW_9 rfl hd K
theorem Cg_9_4 {index : Nat} (hf : FR own index 5 4 true (.array .long)) (hd : decode cc pc = .ok (.getfield index, 3)) (K : J G nm own cc nL ret mc ms d Q k n (pc + 3) lv (.ref (r 49) :: st) (cW G r s l)) : J G nm own cc nL ret mc ms d Q k n pc lv (.ref (r 9) :: st) (cW G r s l) := J_get hf 9 cW_9 rfl hd K
theorem Cg_9_5 {index : Nat} (hf : FR own index 5 5 false .int) (v : Int32) (hv : s 63 0 = v) (hd : decode cc pc = .ok (.getfield index, 3)) (K : J G nm own cc nL ret mc ms d Q k n (pc + 3) lv (.int v :: st) (cW G r s l)) : J G nm own cc nL ret mc ms d Q k n pc lv (.ref (r 9) :: st) (cW G r s l) := by
  subst hv
  exact J_get hf 9 cW_9 rfl hd K
theorem Cp_9_5 {index : Nat} {v : Int32} (hf : FR own index 5 5 false .int) (hd : decode cc pc = .ok (.putfield index, 3)) (K : J G nm own cc nL ret mc ms d Q k n (pc + 3) lv st (cW G r (su 63 s (fun _ => v)) l)) : J G nm own cc nL ret mc ms d Q k n pc lv (.int v :: .ref (r 9) :: st) (cW G r s l) := J_put hf 9 _ cW_9 rfl rfl (by show 5 < 9; decide) rfl hd K
theorem Cg_9_6 {index : Nat} (hf : FR own index 5 6 false .int) (v : Int32) (hv : s 64 0 = v) (hd : decode cc pc = .ok (.getfield index, 3)) (K : J G nm own cc nL ret mc ms d Q k n (pc + 3) lv (.int v :: st) (cW G r s l)) : J G nm own cc nL ret mc ms d Q k n pc lv (.ref (r 9) :: st) (cW G r s l) := by
  subst hv
  exact J_get hf 9 cW_9 rfl hd K
theorem Cp_9_6 {index : Nat} {v : Int32} (hf : FR own index 5 6 false .int) (hd : decode cc pc = .ok (.putfield index, 3)) (K : J G nm own cc nL ret mc ms d Q k n (pc + 3) lv st (cW G r (su 64 s (fun _ => v)) l)) : J G nm own cc nL ret mc ms d Q k n pc lv (.int v :: .ref (r 9) :: st) (cW G r s l) := J_put hf 9 _ cW_9 rfl rfl (by show 6 < 9; decide) rfl hd K
theorem Cg_9_7 {index : Nat} (hf : FR own index 5 7 false .int) (v : Int32) (hv : s 65 0 = v) (hd : decode cc pc = .ok (.getfield index, 3)) (K : J G nm own cc nL ret mc ms d Q k n (pc + 3) lv (.int v :: st) (cW G r s l)) : J G nm own cc nL ret mc ms d Q k n pc lv (.ref (r 9) :: st) (cW G r s l) := by
  subst hv
  exact J_get hf 9 cW_9 rfl hd K
theorem Cp_9_7 {index : Nat} {v : Int32} (hf : FR own index 5 7 false .int) (hd : decode cc pc = .ok (.putfield index, 3)) (K : J G nm own cc nL ret mc ms d Q k n (pc + 3) lv st (cW G r (su 65 s (fun _ => v)) l)) : J G nm own cc nL ret mc ms d Q k n pc lv (.int v :: .ref (r 9) :: st) (cW G r s l) := J_put hf 9 _ cW_9 rfl rfl (by show 7 < 9; decide) rfl hd K
theorem Cg_9_8 {index : Nat} (hf : FR own index 5 8 false .boolean) (v : Int32) (hv : s 66 0 = v) (hd : decode cc pc = .ok (.getfield index, 3)) (K : J G nm own cc nL ret mc ms d Q k n (pc + 3) lv (.int v :: st) (cW G r s l)) : J G nm own cc nL ret mc ms d Q k n pc lv (.ref (r 9) :: st) (cW G r s l) := by
  subst hv
  exact J_get hf 9 cW_9 rfl hd K
theorem Cp_9_8 {index : Nat} {v : Int32} (hn : narrow .boolean (.int v) = .int v) (hfit : fits .boolean (.int v) = true) (hf : FR own index 5 8 false .boolean) (hd : decode cc pc = .ok (.putfield index, 3)) (K : J G nm own cc nL ret mc ms d Q k n (pc + 3) lv st (cW G r (su 66 s (fun _ => v)) l)) : J G nm own cc nL ret mc ms d Q k n pc lv (.int v :: .ref (r 9) :: st) (cW G r s l) := J_put hf 9 _ cW_9 hn hfit (by show 8 < 9; decide) rfl hd K
theorem Cl_20 (f : Nat → Int32) (hf : s 20 = f) {x : Int32} (j : Nat) (hx : x = nI j) (hj : j < 59) (hd : decode cc pc = .ok (.iaload, 1)) (K : J G nm own cc nL ret mc ms d Q k n (pc + 1) lv (.int (f j) :: st) (cW G r s l)) : J G nm own cc nL ret mc ms d Q k n pc lv (.int x :: .ref (r 20) :: st) (cW G r s l) := by
  subst hx; subst hf
  refine J_iald 19 rfl (vp_in_nI hj (by decide)) hd ?_
  rw [nI_clamp (Nat.lt_trans hj (by decide))]
  exact K
theorem Cs_20 (f : Nat → Int32) (hf : s 20 = f) {x v : Int32} (j : Nat) (hx : x = nI j) (hj : j < 59) (hd : decode cc pc = .ok (.iastore, 1)) (K : J G nm own cc nL ret mc ms d Q k n (pc + 1) lv st (cW G r (su 20 s (upd f j v)) l)) : J G nm own cc nL ret mc ms d Q k n pc lv (.int v :: .int x :: .ref (r 20) :: st) (cW G r s l) := by
  subst hx; subst hf
  refine J_iast 19 (cW G r (su 20 s (upd (s 20) j v)) l) rfl (vp_in_nI hj (by decide)) ?_ hd K
  rw [nI_clamp (Nat.lt_trans hj (by decide))]
  rfl
theorem Cn_20 (hd : decode cc pc = .ok (.arraylength, 1)) (K : J G nm own cc nL ret mc ms d Q k n (pc + 1) lv (.int (nI 59) :: st) (cW G r s l)) : J G nm own cc nL ret mc ms d Q k n pc lv (.ref (r 20) :: st) (cW G r s l) := J_alenI 19 rfl rfl hd K
theorem Ca_20 {g : Nat → Int32} (h : ∀ j, j < 59 → s 20 j = g j) (K : J G nm own cc nL ret mc ms d Q k n pc lv st (cW G r (su 20 s g) l)) : J G nm own cc nL ret mc ms d Q k n pc lv st (cW G r s l) := J_arr 19 _ rfl h rfl K
theorem Cl_21 (f : Nat → Int32) (hf : s 21 = f) {x : Int32} (j : Nat) (hx : x = nI j) (hj : j < 8) (hd : decode cc pc = .ok (.iaload, 1)) (K : J G nm own cc nL ret mc ms d Q k n (pc + 1) lv (.int (f j) :: st) (cW G r s l)) : J G nm own cc nL ret mc ms d Q k n pc lv (.int x :: .ref (r 21) :: st) (cW G r s l) := by
  subst hx; subst hf
  refine J_iald 20 rfl (vp_in_nI hj (by decide)) hd ?_
  rw [nI_clamp (Nat.lt_trans hj (by decide))]
  exact K
theorem Cs_21 (f : Nat → Int32) (hf : s 21 = f) {x v : Int32} (j : Nat) (hx : x = nI j) (hj : j < 8) (hd : decode cc pc = .ok (.iastore, 1)) (K : J G nm own cc nL ret mc ms d Q k n (pc + 1) lv st (cW G r (su 21 s (upd f j v)) l)) : J G nm own cc nL ret mc ms d Q k n pc lv (.int v :: .int x :: .ref (r 21) :: st) (cW G r s l) := by
  subst hx; subst hf
  refine J_iast 20 (cW G r (su 21 s (upd (s 21) j v)) l) rfl (vp_in_nI hj (by decide)) ?_ hd K
  rw [nI_clamp (Nat.lt_trans hj (by decide))]
  rfl
theorem Cn_21 (hd : decode cc pc = .ok (.arraylength, 1)) (K : J G nm own cc nL ret mc ms d Q k n (pc + 1) lv (.int (nI 8) :: st) (cW G r s l)) : J G nm own cc nL ret mc ms d Q k n pc lv (.ref (r 21) :: st) (cW G r s l) := J_alenI 20 rfl rfl hd K
theorem Ca_21 {g : Nat → Int32} (h : ∀ j, j < 8 → s 21 j = g j) (K : J G nm own cc nL ret mc ms d Q k n pc lv st (cW G r (su 21 s g) l)) : J G nm own cc nL ret mc ms d Q k n pc lv st (cW G r s l) := J_arr 20 _ rfl h rfl K
theorem Cl_22 (f : Nat → Int32) (hf : s 22 = f) {x : Int32} (j : Nat) (hx : x = nI j) (hj : j < 8) (hd : decode cc pc = .ok (.iaload, 1)) (K : J G nm own cc nL ret mc ms d Q k n (pc + 1) lv (.int (f j) :: st) (cW G r s l)) : J G nm own cc nL ret mc ms d Q k n pc lv (.int x :: .ref (r 22) :: st) (cW G r s l) := by
  subst hx; subst hf
  refine J_iald 21 rfl (vp_in_nI hj (by decide)) hd ?_
  rw [nI_clamp (Nat.lt_trans hj (by decide))]
  exact K
theorem Cs_22 (f : Nat → Int32) (hf : s 22 = f) {x v : Int32} (j : Nat) (hx : x = nI j) (hj : j < 8) (hd : decode cc pc = .ok (.iastore, 1)) (K : J G nm own cc nL ret mc ms d Q k n (pc + 1) lv st (cW G r (su 22 s (upd f j v)) l)) : J G nm own cc nL ret mc ms d Q k n pc lv (.int v :: .int x :: .ref (r 22) :: st) (cW G r s l) := by
  subst hx; subst hf
  refine J_iast 21 (cW G r (su 22 s (upd (s 22) j v)) l) rfl (vp_in_nI hj (by decide)) ?_ hd K
  rw [nI_clamp (Nat.lt_trans hj (by decide))]
  rfl
theorem Cn_22 (hd : decode cc pc = .ok (.arraylength, 1)) (K : J G nm own cc nL ret mc ms d Q k n (pc + 1) lv (.int (nI 8) :: st) (cW G r s l)) : J G nm own cc nL ret mc ms d Q k n pc lv (.ref (r 22) :: st) (cW G r s l) := J_alenI 21 rfl rfl hd K
theorem Ca_22 {g : Nat → Int32} (h : ∀ j, j < 8 → s 22 j = g j) (K : J G nm own cc nL ret mc ms d Q k n pc lv st (cW G r (su 22 s g) l)) : J G nm own cc nL ret mc ms d Q k n pc lv st (cW G r s l) := J_arr 21 _ rfl h rfl K
theorem Cl_23 (f : Nat → Int32) (hf : s 23 = f) {x : Int32} (j : Nat) (hx : x = nI j) (hj : j < 8) (hd : decode cc pc = .ok (.iaload, 1)) (K : J G nm own cc nL ret mc ms d Q k n (pc + 1) lv (.int (f j) :: st) (cW G r s l)) : J G nm own cc nL ret mc ms d Q k n pc lv (.int x :: .ref (r 23) :: st) (cW G r s l) := by
  subst hx; subst hf
  refine J_iald 22 rfl (vp_in_nI hj (by decide)) hd ?_
  rw [nI_clamp (Nat.lt_trans hj (by decide))]
  exact K
theorem Cs_23 (f : Nat → Int32) (hf : s 23 = f) {x v : Int32} (j : Nat) (hx : x = nI j) (hj : j < 8) (hd : decode cc pc = .ok (.iastore, 1)) (K : J G nm own cc nL ret mc ms d Q k n (pc + 1) lv st (cW G r (su 23 s (upd f j v)) l)) : J G nm own cc nL ret mc ms d Q k n pc lv (.int v :: .int x :: .ref (r 23) :: st) (cW G r s l) := by
  subst hx; subst hf
  refine J_iast 22 (cW G r (su 23 s (upd (s 23) j v)) l) rfl (vp_in_nI hj (by decide)) ?_ hd K
  rw [nI_clamp (Nat.lt_trans hj (by decide))]
  rfl
theorem Cn_23 (hd : decode cc pc = .ok (.arraylength, 1)) (K : J G nm own cc nL ret mc ms d Q k n (pc + 1) lv (.int (nI 8) :: st) (cW G r s l)) : J G nm own cc nL ret mc ms d Q k n pc lv (.ref (r 23) :: st) (cW G r s l) := J_alenI 22 rfl rfl hd K
theorem Ca_23 {g : Nat → Int32} (h : ∀ j, j < 8 → s 23 j = g j) (K : J G nm own cc nL ret mc ms d Q k n pc lv st (cW G r (su 23 s g) l)) : J G nm own cc nL ret mc ms d Q k n pc lv st (cW G r s l) := J_arr 22 _ rfl h rfl K
theorem Cl_24 (f : Nat → Int32) (hf : s 24 = f) {x : Int32} (j : Nat) (hx : x = nI j) (hj : j < 8) (hd : decode cc pc = .ok (.iaload, 1)) (K : J G nm own cc nL ret mc ms d Q k n (pc + 1) lv (.int (f j) :: st) (cW G r s l)) : J G nm own cc nL ret mc ms d Q k n pc lv (.int x :: .ref (r 24) :: st) (cW G r s l) := by
  subst hx; subst hf
  refine J_iald 23 rfl (vp_in_nI hj (by decide)) hd ?_
  rw [nI_clamp (Nat.lt_trans hj (by decide))]
  exact K
theorem Cs_24 (f : Nat → Int32) (hf : s 24 = f) {x v : Int32} (j : Nat) (hx : x = nI j) (hj : j < 8) (hd : decode cc pc = .ok (.iastore, 1)) (K : J G nm own cc nL ret mc ms d Q k n (pc + 1) lv st (cW G r (su 24 s (upd f j v)) l)) : J G nm own cc nL ret mc ms d Q k n pc lv (.int v :: .int x :: .ref (r 24) :: st) (cW G r s l) := by
  subst hx; subst hf
  refine J_iast 23 (cW G r (su 24 s (upd (s 24) j v)) l) rfl (vp_in_nI hj (by decide)) ?_ hd K
  rw [nI_clamp (Nat.lt_trans hj (by decide))]
  rfl
theorem Cn_24 (hd : decode cc pc = .ok (.arraylength, 1)) (K : J G nm own cc nL ret mc ms d Q k n (pc + 1) lv (.int (nI 8) :: st) (cW G r s l)) : J G nm own cc nL ret mc ms d Q k n pc lv (.ref (r 24) :: st) (cW G r s l) := J_alenI 23 rfl rfl hd K
theorem Ca_24 {g : Nat → Int32} (h : ∀ j, j < 8 → s 24 j = g j) (K : J G nm own cc nL ret mc ms d Q k n pc lv st (cW G r (su 24 s g) l)) : J G nm own cc nL ret mc ms d Q k n pc lv st (cW G r s l) := J_arr 23 _ rfl h rfl K
theorem Cl_25 (f : Nat → Int32) (hf : s 25 = f) {x : Int32} (j : Nat) (hx : x = nI j) (hj : j < 8) (hd : decode cc pc = .ok (.iaload, 1)) (K : J G nm own cc nL ret mc ms d Q k n (pc + 1) lv (.int (f j) :: st) (cW G r s l)) : J G nm own cc nL ret mc ms d Q k n pc lv (.int x :: .ref (r 25) :: st) (cW G r s l) := by
  subst hx; subst hf
  refine J_iald 24 rfl (vp_in_nI hj (by decide)) hd ?_
  rw [nI_clamp (Nat.lt_trans hj (by decide))]
  exact K
theorem Cs_25 (f : Nat → Int32) (hf : s 25 = f) {x v : Int32} (j : Nat) (hx : x = nI j) (hj : j < 8) (hd : decode cc pc = .ok (.iastore, 1)) (K : J G nm own cc nL ret mc ms d Q k n (pc + 1) lv st (cW G r (su 25 s (upd f j v)) l)) : J G nm own cc nL ret mc ms d Q k n pc lv (.int v :: .int x :: .ref (r 25) :: st) (cW G r s l) := by
  subst hx; subst hf
  refine J_iast 24 (cW G r (su 25 s (upd (s 25) j v)) l) rfl (vp_in_nI hj (by decide)) ?_ hd K
  rw [nI_clamp (Nat.lt_trans hj (by decide))]
  rfl
theorem Cn_25 (hd : decode cc pc = .ok (.arraylength, 1)) (K : J G nm own cc nL ret mc ms d Q k n (pc + 1) lv (.int (nI 8) :: st) (cW G r s l)) : J G nm own cc nL ret mc ms d Q k n pc lv (.ref (r 25) :: st) (cW G r s l) := J_alenI 24 rfl rfl hd K
theorem Ca_25 {g : Nat → Int32} (h : ∀ j, j < 8 → s 25 j = g j) (K : J G nm own cc nL ret mc ms d Q k n pc lv st (cW G r (su 25 s g) l)) : J G nm own cc nL ret mc ms d Q k n pc lv st (cW G r s l) := J_arr 24 _ rfl h rfl K
theorem Cl_26 (f : Nat → Int32) (hf : s 26 = f) {x : Int32} (j : Nat) (hx : x = nI j) (hj : j < 8) (hd : decode cc pc = .ok (.iaload, 1)) (K : J G nm own cc nL ret mc ms d Q k n (pc + 1) lv (.int (f j) :: st) (cW G r s l)) : J G nm own cc nL ret mc ms d Q k n pc lv (.int x :: .ref (r 26) :: st) (cW G r s l) := by
  subst hx; subst hf
  refine J_iald 25 rfl (vp_in_nI hj (by decide)) hd ?_
  rw [nI_clamp (Nat.lt_trans hj (by decide))]
  exact K
theorem Cs_26 (f : Nat → Int32) (hf : s 26 = f) {x v : Int32} (j : Nat) (hx : x = nI j) (hj : j < 8) (hd : decode cc pc = .ok (.iastore, 1)) (K : J G nm own cc nL ret mc ms d Q k n (pc + 1) lv st (cW G r (su 26 s (upd f j v)) l)) : J G nm own cc nL ret mc ms d Q k n pc lv (.int v :: .int x :: .ref (r 26) :: st) (cW G r s l) := by
  subst hx; subst hf
  refine J_iast 25 (cW G r (su 26 s (upd (s 26) j v)) l) rfl (vp_in_nI hj (by decide)) ?_ hd K
  rw [nI_clamp (Nat.lt_trans hj (by decide))]
  rfl
theorem Cn_26 (hd : decode cc pc = .ok (.arraylength, 1)) (K : J G nm own cc nL ret mc ms d Q k n (pc + 1) lv (.int (nI 8) :: st) (cW G r s l)) : J G nm own cc nL ret mc ms d Q k n pc lv (.ref (r 26) :: st) (cW G r s l) := J_alenI 25 rfl rfl hd K
theorem Ca_26 {g : Nat → Int32} (h : ∀ j, j < 8 → s 26 j = g j) (K : J G nm own cc nL ret mc ms d Q k n pc lv st (cW G r (su 26 s g) l)) : J G nm own cc nL ret mc ms d Q k n pc lv st (cW G r s l) := J_arr 25 _ rfl h rfl K
theorem Cl_27 (f : Nat → Int32) (hf : s 27 = f) {x : Int32} (j : Nat) (hx : x = nI j) (hj : j < 59) (hd : decode cc pc = .ok (.iaload, 1)) (K : J G nm own cc nL ret mc ms d Q k n (pc + 1) lv (.int (f j) :: st) (cW G r s l)) : J G nm own cc nL ret mc ms d Q k n pc lv (.int x :: .ref (r 27) :: st) (cW G r s l) := by
  subst hx; subst hf
  refine J_iald 26 rfl (vp_in_nI hj (by decide)) hd ?_
  rw [nI_clamp (Nat.lt_trans hj (by decide))]
  exact K
theorem Cs_27 (f : Nat → Int32) (hf : s 27 = f) {x v : Int32} (j : Nat) (hx : x = nI j) (hj : j < 59) (hd : decode cc pc = .ok (.iastore, 1)) (K : J G nm own cc nL ret mc ms d Q k n (pc + 1) lv st (cW G r (su 27 s (upd f j v)) l)) : J G nm own cc nL ret mc ms d Q k n pc lv (.int v :: .int x :: .ref (r 27) :: st) (cW G r s l) := by
  subst hx; subst hf
  refine J_iast 26 (cW G r (su 27 s (upd (s 27) j v)) l) rfl (vp_in_nI hj (by decide)) ?_ hd K
  rw [nI_clamp (Nat.lt_trans hj (by decide))]
  rfl
theorem Cn_27 (hd : decode cc pc = .ok (.arraylength, 1)) (K : J G nm own cc nL ret mc ms d Q k n (pc + 1) lv (.int (nI 59) :: st) (cW G r s l)) : J G nm own cc nL ret mc ms d Q k n pc lv (.ref (r 27) :: st) (cW G r s l) := J_alenI 26 rfl rfl hd K
theorem Ca_27 {g : Nat → Int32} (h : ∀ j, j < 59 → s 27 j = g j) (K : J G nm own cc nL ret mc ms d Q k n pc lv st (cW G r (su 27 s g) l)) : J G nm own cc nL ret mc ms d Q k n pc lv st (cW G r s l) := J_arr 26 _ rfl h rfl K
theorem Cl_28 (f : Nat → Int32) (hf : s 28 = f) {x : Int32} (j : Nat) (hx : x = nI j) (hj : j < 6) (hd : decode cc pc = .ok (.iaload, 1)) (K : J G nm own cc nL ret mc ms d Q k n (pc + 1) lv (.int (f j) :: st) (cW G r s l)) : J G nm own cc nL ret mc ms d Q k n pc lv (.int x :: .ref (r 28) :: st) (cW G r s l) := by
  subst hx; subst hf
  refine J_iald 27 rfl (vp_in_nI hj (by decide)) hd ?_
  rw [nI_clamp (Nat.lt_trans hj (by decide))]
  exact K
theorem Cs_28 (f : Nat → Int32) (hf : s 28 = f) {x v : Int32} (j : Nat) (hx : x = nI j) (hj : j < 6) (hd : decode cc pc = .ok (.iastore, 1)) (K : J G nm own cc nL ret mc ms d Q k n (pc + 1) lv st (cW G r (su 28 s (upd f j v)) l)) : J G nm own cc nL ret mc ms d Q k n pc lv (.int v :: .int x :: .ref (r 28) :: st) (cW G r s l) := by
  subst hx; subst hf
  refine J_iast 27 (cW G r (su 28 s (upd (s 28) j v)) l) rfl (vp_in_nI hj (by decide)) ?_ hd K
  rw [nI_clamp (Nat.lt_trans hj (by decide))]
  rfl
theorem Cn_28 (hd : decode cc pc = .ok (.arraylength, 1)) (K : J G nm own cc nL ret mc ms d Q k n (pc + 1) lv (.int (nI 6) :: st) (cW G r s l)) : J G nm own cc nL ret mc ms d Q k n pc lv (.ref (r 28) :: st) (cW G r s l) := J_alenI 27 rfl rfl hd K
theorem Ca_28 {g : Nat → Int32} (h : ∀ j, j < 6 → s 28 j = g j) (K : J G nm own cc nL ret mc ms d Q k n pc lv st (cW G r (su 28 s g) l)) : J G nm own cc nL ret mc ms d Q k n pc lv st (cW G r s l) := J_arr 27 _ rfl h rfl K
theorem Cl_29 (f : Nat → Int32) (hf : s 29 = f) {x : Int32} (j : Nat) (hx : x = nI j) (hj : j < 6) (hd : decode cc pc = .ok (.iaload, 1)) (K : J G nm own cc nL ret mc ms d Q k n (pc + 1) lv (.int (f j) :: st) (cW G r s l)) : J G nm own cc nL ret mc ms d Q k n pc lv (.int x :: .ref (r 29) :: st) (cW G r s l) := by
  subst hx; subst hf
  refine J_iald 28 rfl (vp_in_nI hj (by decide)) hd ?_
  rw [nI_clamp (Nat.lt_trans hj (by decide))]
  exact K
theorem Cs_29 (f : Nat → Int32) (hf : s 29 = f) {x v : Int32} (j : Nat) (hx : x = nI j) (hj : j < 6) (hd : decode cc pc = .ok (.iastore, 1)) (K : J G nm own cc nL ret mc ms d Q k n (pc + 1) lv st (cW G r (su 29 s (upd f j v)) l)) : J G nm own cc nL ret mc ms d Q k n pc lv (.int v :: .int x :: .ref (r 29) :: st) (cW G r s l) := by
  subst hx; subst hf
  refine J_iast 28 (cW G r (su 29 s (upd (s 29) j v)) l) rfl (vp_in_nI hj (by decide)) ?_ hd K
  rw [nI_clamp (Nat.lt_trans hj (by decide))]
  rfl
theorem Cn_29 (hd : decode cc pc = .ok (.arraylength, 1)) (K : J G nm own cc nL ret mc ms d Q k n (pc + 1) lv (.int (nI 6) :: st) (cW G r s l)) : J G nm own cc nL ret mc ms d Q k n pc lv (.ref (r 29) :: st) (cW G r s l) := J_alenI 28 rfl rfl hd K
theorem Ca_29 {g : Nat → Int32} (h : ∀ j, j < 6 → s 29 j = g j) (K : J G nm own cc nL ret mc ms d Q k n pc lv st (cW G r (su 29 s g) l)) : J G nm own cc nL ret mc ms d Q k n pc lv st (cW G r s l) := J_arr 28 _ rfl h rfl K
theorem Cl_30 (f : Nat → Int32) (hf : s 30 = f) {x : Int32} (j : Nat) (hx : x = nI j) (hj : j < 6) (hd : decode cc pc = .ok (.iaload, 1)) (K : J G nm own cc nL ret mc ms d Q k n (pc + 1) lv (.int (f j) :: st) (cW G r s l)) : J G nm own cc nL ret mc ms d Q k n pc lv (.int x :: .ref (r 30) :: st) (cW G r s l) := by
  subst hx; subst hf
  refine J_iald 29 rfl (vp_in_nI hj (by decide)) hd ?_
  rw [nI_clamp (Nat.lt_trans hj (by decide))]
  exact K
theorem Cs_30 (f : Nat → Int32) (hf : s 30 = f) {x v : Int32} (j : Nat) (hx : x = nI j) (hj : j < 6) (hd : decode cc pc = .ok (.iastore, 1)) (K : J G nm own cc nL ret mc ms d Q k n (pc + 1) lv st (cW G r (su 30 s (upd f j v)) l)) : J G nm own cc nL ret mc ms d Q k n pc lv (.int v :: .int x :: .ref (r 30) :: st) (cW G r s l) := by
  subst hx; subst hf
  refine J_iast 29 (cW G r (su 30 s (upd (s 30) j v)) l) rfl (vp_in_nI hj (by decide)) ?_ hd K
  rw [nI_clamp (Nat.lt_trans hj (by decide))]
  rfl
theorem Cn_30 (hd : decode cc pc = .ok (.arraylength, 1)) (K : J G nm own cc nL ret mc ms d Q k n (pc + 1) lv (.int (nI 6) :: st) (cW G r s l)) : J G nm own cc nL ret mc ms d Q k n pc lv (.ref (r 30) :: st) (cW G r s l) := J_alenI 29 rfl rfl hd K
theorem Ca_30 {g : Nat → Int32} (h : ∀ j, j < 6 → s 30 j = g j) (K : J G nm own cc nL ret mc ms d Q k n pc lv st (cW G r (su 30 s g) l)) : J G nm own cc nL ret mc ms d Q k n pc lv st (cW G r s l) := J_arr 29 _ rfl h rfl K
theorem Cl_31 (f : Nat → Int32) (hf : s 31 = f) {x : Int32} (j : Nat) (hx : x = nI j) (hj : j < 6) (hd : decode cc pc = .ok (.iaload, 1)) (K : J G nm own cc nL ret mc ms d Q k n (pc + 1) lv (.int (f j) :: st) (cW G r s l)) : J G nm own cc nL ret mc ms d Q k n pc lv (.int x :: .ref (r 31) :: st) (cW G r s l) := by
  subst hx; subst hf
  refine J_iald 30 rfl (vp_in_nI hj (by decide)) hd ?_
  rw [nI_clamp (Nat.lt_trans hj (by decide))]
  exact K
theorem Cs_31 (f : Nat → Int32) (hf : s 31 = f) {x v : Int32} (j : Nat) (hx : x = nI j) (hj : j < 6) (hd : decode cc pc = .ok (.iastore, 1)) (K : J G nm own cc nL ret mc ms d Q k n (pc + 1) lv st (cW G r (su 31 s (upd f j v)) l)) : J G nm own cc nL ret mc ms d Q k n pc lv (.int v :: .int x :: .ref (r 31) :: st) (cW G r s l) := by
  subst hx; subst hf
  refine J_iast 30 (cW G r (su 31 s (upd (s 31) j v)) l) rfl (vp_in_nI hj (by decide)) ?_ hd K
  rw [nI_clamp (Nat.lt_trans hj (by decide))]
  rfl
theorem Cn_31 (hd : decode cc pc = .ok (.arraylength, 1)) (K : J G nm own cc nL ret mc ms d Q k n (pc + 1) lv (.int (nI 6) :: st) (cW G r s l)) : J G nm own cc nL ret mc ms d Q k n pc lv (.ref (r 31) :: st) (cW G r s l) := J_alenI 30 rfl rfl hd K
theorem Ca_31 {g : Nat → Int32} (h : ∀ j, j < 6 → s 31 j = g j) (K : J G nm own cc nL ret mc ms d Q k n pc lv st (cW G r (su 31 s g) l)) : J G nm own cc nL ret mc ms d Q k n pc lv st (cW G r s l) := J_arr 30 _ rfl h rfl K
theorem Cl_32 (f : Nat → Int32) (hf : s 32 = f) {x : Int32} (j : Nat) (hx : x = nI j) (hj : j < 59) (hd : decode cc pc = .ok (.iaload, 1)) (K : J G nm own cc nL ret mc ms d Q k n (pc + 1) lv (.int (f j) :: st) (cW G r s l)) : J G nm own cc nL ret mc ms d Q k n pc lv (.int x :: .ref (r 32) :: st) (cW G r s l) := by
  subst hx; subst hf
  refine J_iald 31 rfl (vp_in_nI hj (by decide)) hd ?_
  rw [nI_clamp (Nat.lt_trans hj (by decide))]
  exact K
theorem Cs_32 (f : Nat → Int32) (hf : s 32 = f) {x v : Int32} (j : Nat) (hx : x = nI j) (hj : j < 59) (hd : decode cc pc = .ok (.iastore, 1)) (K : J G nm own cc nL ret mc ms d Q k n (pc + 1) lv st (cW G r (su 32 s (upd f j v)) l)) : J G nm own cc nL ret mc ms d Q k n pc lv (.int v :: .int x :: .ref (r 32) :: st) (cW G r s l) := by
  subst hx; subst hf
  refine J_iast 31 (cW G r (su 32 s (upd (s 32) j v)) l) rfl (vp_in_nI hj (by decide)) ?_ hd K
  rw [nI_clamp (Nat.lt_trans hj (by decide))]
  rfl
theorem Cn_32 (hd : decode cc pc = .ok (.arraylength, 1)) (K : J G nm own cc nL ret mc ms d Q k n (pc + 1) lv (.int (nI 59) :: st) (cW G r s l)) : J G nm own cc nL ret mc ms d Q k n pc lv (.ref (r 32) :: st) (cW G r s l) := J_alenI 31 rfl rfl hd K
theorem Ca_32 {g : Nat → Int32} (h : ∀ j, j < 59 → s 32 j = g j) (K : J G nm own cc nL ret mc ms d Q k n pc lv st (cW G r (su 32 s g) l)) : J G nm own cc nL ret mc ms d Q k n pc lv st (cW G r s l) := J_arr 31 _ rfl h rfl K
theorem Cl_33 (f : Nat → Int32) (hf : s 33 = f) {x : Int32} (j : Nat) (hx : x = nI j) (hj : j < 15) (hd : decode cc pc = .ok (.iaload, 1)) (K : J G nm own cc nL ret mc ms d Q k n (pc + 1) lv (.int (f j) :: st) (cW G r s l)) : J G nm own cc nL ret mc ms d Q k n pc lv (.int x :: .ref (r 33) :: st) (cW G r s l) := by
  subst hx; subst hf
  refine J_iald 32 rfl (vp_in_nI hj (by decide)) hd ?_
  rw [nI_clamp (Nat.lt_trans hj (by decide))]
  exact K
theorem Cs_33 (f : Nat → Int32) (hf : s 33 = f) {x v : Int32} (j : Nat) (hx : x = nI j) (hj : j < 15) (hd : decode cc pc = .ok (.iastore, 1)) (K : J G nm own cc nL ret mc ms d Q k n (pc + 1) lv st (cW G r (su 33 s (upd f j v)) l)) : J G nm own cc nL ret mc ms d Q k n pc lv (.int v :: .int x :: .ref (r 33) :: st) (cW G r s l) := by
  subst hx; subst hf
  refine J_iast 32 (cW G r (su 33 s (upd (s 33) j v)) l) rfl (vp_in_nI hj (by decide)) ?_ hd K
  rw [nI_clamp (Nat.lt_trans hj (by decide))]
  rfl
theorem Cn_33 (hd : decode cc pc = .ok (.arraylength, 1)) (K : J G nm own cc nL ret mc ms d Q k n (pc + 1) lv (.int (nI 15) :: st) (cW G r s l)) : J G nm own cc nL ret mc ms d Q k n pc lv (.ref (r 33) :: st) (cW G r s l) := J_alenI 32 rfl rfl hd K
theorem Ca_33 {g : Nat → Int32} (h : ∀ j, j < 15 → s 33 j = g j) (K : J G nm own cc nL ret mc ms d Q k n pc lv st (cW G r (su 33 s g) l)) : J G nm own cc nL ret mc ms d Q k n pc lv st (cW G r s l) := J_arr 32 _ rfl h rfl K
theorem Cl_34 (f : Nat → Int32) (hf : s 34 = f) {x : Int32} (j : Nat) (hx : x = nI j) (hj : j < 15) (hd : decode cc pc = .ok (.iaload, 1)) (K : J G nm own cc nL ret mc ms d Q k n (pc + 1) lv (.int (f j) :: st) (cW G r s l)) : J G nm own cc nL ret mc ms d Q k n pc lv (.int x :: .ref (r 34) :: st) (cW G r s l) := by
  subst hx; subst hf
  refine J_iald 33 rfl (vp_in_nI hj (by decide)) hd ?_
  rw [nI_clamp (Nat.lt_trans hj (by decide))]
  exact K
theorem Cs_34 (f : Nat → Int32) (hf : s 34 = f) {x v : Int32} (j : Nat) (hx : x = nI j) (hj : j < 15) (hd : decode cc pc = .ok (.iastore, 1)) (K : J G nm own cc nL ret mc ms d Q k n (pc + 1) lv st (cW G r (su 34 s (upd f j v)) l)) : J G nm own cc nL ret mc ms d Q k n pc lv (.int v :: .int x :: .ref (r 34) :: st) (cW G r s l) := by
  subst hx; subst hf
  refine J_iast 33 (cW G r (su 34 s (upd (s 34) j v)) l) rfl (vp_in_nI hj (by decide)) ?_ hd K
  rw [nI_clamp (Nat.lt_trans hj (by decide))]
  rfl
theorem Cn_34 (hd : decode cc pc = .ok (.arraylength, 1)) (K : J G nm own cc nL ret mc ms d Q k n (pc + 1) lv (.int (nI 15) :: st) (cW G r s l)) : J G nm own cc nL ret mc ms d Q k n pc lv (.ref (r 34) :: st) (cW G r s l) := J_alenI 33 rfl rfl hd K
theorem Ca_34 {g : Nat → Int32} (h : ∀ j, j < 15 → s 34 j = g j) (K : J G nm own cc nL ret mc ms d Q k n pc lv st (cW G r (su 34 s g) l)) : J G nm own cc nL ret mc ms d Q k n pc lv st (cW G r s l) := J_arr 33 _ rfl h rfl K
theorem Cl_35 (f : Nat → Int32) (hf : s 35 = f) {x : Int32} (j : Nat) (hx : x = nI j) (hj : j < 15) (hd : decode cc pc = .ok (.iaload, 1)) (K : J G nm own cc nL ret mc ms d Q k n (pc + 1) lv (.int (f j) :: st) (cW G r s l)) : J G nm own cc nL ret mc ms d Q k n pc lv (.int x :: .ref (r 35) :: st) (cW G r s l) := by
  subst hx; subst hf
  refine J_iald 34 rfl (vp_in_nI hj (by decide)) hd ?_
  rw [nI_clamp (Nat.lt_trans hj (by decide))]
  exact K
theorem Cs_35 (f : Nat → Int32) (hf : s 35 = f) {x v : Int32} (j : Nat) (hx : x = nI j) (hj : j < 15) (hd : decode cc pc = .ok (.iastore, 1)) (K : J G nm own cc nL ret mc ms d Q k n (pc + 1) lv st (cW G r (su 35 s (upd f j v)) l)) : J G nm own cc nL ret mc ms d Q k n pc lv (.int v :: .int x :: .ref (r 35) :: st) (cW G r s l) := by
  subst hx; subst hf
  refine J_iast 34 (cW G r (su 35 s (upd (s 35) j v)) l) rfl (vp_in_nI hj (by decide)) ?_ hd K
  rw [nI_clamp (Nat.lt_trans hj (by decide))]
  rfl
theorem Cn_35 (hd : decode cc pc = .ok (.arraylength, 1)) (K : J G nm own cc nL ret mc ms d Q k n (pc + 1) lv (.int (nI 15) :: st) (cW G r s l)) : J G nm own cc nL ret mc ms d Q k n pc lv (.ref (r 35) :: st) (cW G r s l) := J_alenI 34 rfl rfl hd K
theorem Ca_35 {g : Nat → Int32} (h : ∀ j, j < 15 → s 35 j = g j) (K : J G nm own cc nL ret mc ms d Q k n pc lv st (cW G r (su 35 s g) l)) : J G nm own cc nL ret mc ms d Q k n pc lv st (cW G r s l) := J_arr 34 _ rfl h rfl K
theorem Cl_36 (f : Nat → Int32) (hf : s 36 = f) {x : Int32} (j : Nat) (hx : x = nI j) (hj : j < 15) (hd : decode cc pc = .ok (.iaload, 1)) (K : J G nm own cc nL ret mc ms d Q k n (pc + 1) lv (.int (f j) :: st) (cW G r s l)) : J G nm own cc nL ret mc ms d Q k n pc lv (.int x :: .ref (r 36) :: st) (cW G r s l) := by
  subst hx; subst hf
  refine J_iald 35 rfl (vp_in_nI hj (by decide)) hd ?_
  rw [nI_clamp (Nat.lt_trans hj (by decide))]
  exact K
theorem Cs_36 (f : Nat → Int32) (hf : s 36 = f) {x v : Int32} (j : Nat) (hx : x = nI j) (hj : j < 15) (hd : decode cc pc = .ok (.iastore, 1)) (K : J G nm own cc nL ret mc ms d Q k n (pc + 1) lv st (cW G r (su 36 s (upd f j v)) l)) : J G nm own cc nL ret mc ms d Q k n pc lv (.int v :: .int x :: .ref (r 36) :: st) (cW G r s l) := by
  subst hx; subst hf
  refine J_iast 35 (cW G r (su 36 s (upd (s 36) j v)) l) rfl (vp_in_nI hj (by decide)) ?_ hd K
  rw [nI_clamp (Nat.lt_trans hj (by decide))]
  rfl
theorem Cn_36 (hd : decode cc pc = .ok (.arraylength, 1)) (K : J G nm own cc nL ret mc ms d Q k n (pc + 1) lv (.int (nI 15) :: st) (cW G r s l)) : J G nm own cc nL ret mc ms d Q k n pc lv (.ref (r 36) :: st) (cW G r s l) := J_alenI 35 rfl rfl hd K
theorem Ca_36 {g : Nat → Int32} (h : ∀ j, j < 15 → s 36 j = g j) (K : J G nm own cc nL ret mc ms d Q k n pc lv st (cW G r (su 36 s g) l)) : J G nm own cc nL ret mc ms d Q k n pc lv st (cW G r s l) := J_arr 35 _ rfl h rfl K
theorem Cl_37 (f : Nat → Int32) (hf : s 37 = f) {x : Int32} (j : Nat) (hx : x = nI j) (hj : j < 12) (hd : decode cc pc = .ok (.iaload, 1)) (K : J G nm own cc nL ret mc ms d Q k n (pc + 1) lv (.int (f j) :: st) (cW G r s l)) : J G nm own cc nL ret mc ms d Q k n pc lv (.int x :: .ref (r 37) :: st) (cW G r s l) := by
  subst hx; subst hf
  refine J_iald 36 rfl (vp_in_nI hj (by decide)) hd ?_
  rw [nI_clamp (Nat.lt_trans hj (by decide))]
  exact K
theorem Cs_37 (f : Nat → Int32) (hf : s 37 = f) {x v : Int32} (j : Nat) (hx : x = nI j) (hj : j < 12) (hd : decode cc pc = .ok (.iastore, 1)) (K : J G nm own cc nL ret mc ms d Q k n (pc + 1) lv st (cW G r (su 37 s (upd f j v)) l)) : J G nm own cc nL ret mc ms d Q k n pc lv (.int v :: .int x :: .ref (r 37) :: st) (cW G r s l) := by
  subst hx; subst hf
  refine J_iast 36 (cW G r (su 37 s (upd (s 37) j v)) l) rfl (vp_in_nI hj (by decide)) ?_ hd K
  rw [nI_clamp (Nat.lt_trans hj (by decide))]
  rfl
theorem Cn_37 (hd : decode cc pc = .ok (.arraylength, 1)) (K : J G nm own cc nL ret mc ms d Q k n (pc + 1) lv (.int (nI 12) :: st) (cW G r s l)) : J G nm own cc nL ret mc ms d Q k n pc lv (.ref (r 37) :: st) (cW G r s l) := J_alenI 36 rfl rfl hd K
theorem Ca_37 {g : Nat → Int32} (h : ∀ j, j < 12 → s 37 j = g j) (K : J G nm own cc nL ret mc ms d Q k n pc lv st (cW G r (su 37 s g) l)) : J G nm own cc nL ret mc ms d Q k n pc lv st (cW G r s l) := J_arr 36 _ rfl h rfl K
theorem Cl_38 (f : Nat → Int32) (hf : s 38 = f) {x : Int32} (j : Nat) (hx : x = nI j) (hj : j < 12) (hd : decode cc pc = .ok (.iaload, 1)) (K : J G nm own cc nL ret mc ms d Q k n (pc + 1) lv (.int (f j) :: st) (cW G r s l)) : J G nm own cc nL ret mc ms d Q k n pc lv (.int x :: .ref (r 38) :: st) (cW G r s l) := by
  subst hx; subst hf
  refine J_iald 37 rfl (vp_in_nI hj (by decide)) hd ?_
  rw [nI_clamp (Nat.lt_trans hj (by decide))]
  exact K
theorem Cs_38 (f : Nat → Int32) (hf : s 38 = f) {x v : Int32} (j : Nat) (hx : x = nI j) (hj : j < 12) (hd : decode cc pc = .ok (.iastore, 1)) (K : J G nm own cc nL ret mc ms d Q k n (pc + 1) lv st (cW G r (su 38 s (upd f j v)) l)) : J G nm own cc nL ret mc ms d Q k n pc lv (.int v :: .int x :: .ref (r 38) :: st) (cW G r s l) := by
  subst hx; subst hf
  refine J_iast 37 (cW G r (su 38 s (upd (s 38) j v)) l) rfl (vp_in_nI hj (by decide)) ?_ hd K
  rw [nI_clamp (Nat.lt_trans hj (by decide))]
  rfl
theorem Cn_38 (hd : decode cc pc = .ok (.arraylength, 1)) (K : J G nm own cc nL ret mc ms d Q k n (pc + 1) lv (.int (nI 12) :: st) (cW G r s l)) : J G nm own cc nL ret mc ms d Q k n pc lv (.ref (r 38) :: st) (cW G r s l) := J_alenI 37 rfl rfl hd K
theorem Ca_38 {g : Nat → Int32} (h : ∀ j, j < 12 → s 38 j = g j) (K : J G nm own cc nL ret mc ms d Q k n pc lv st (cW G r (su 38 s g) l)) : J G nm own cc nL ret mc ms d Q k n pc lv st (cW G r s l) := J_arr 37 _ rfl h rfl K
theorem Cl_39 (f : Nat → Int32) (hf : s 39 = f) {x : Int32} (j : Nat) (hx : x = nI j) (hj : j < 8) (hd : decode cc pc = .ok (.iaload, 1)) (K : J G nm own cc nL ret mc ms d Q k n (pc + 1) lv (.int (f j) :: st) (cW G r s l)) : J G nm own cc nL ret mc ms d Q k n pc lv (.int x :: .ref (r 39) :: st) (cW G r s l) := by
  subst hx; subst hf
  refine J_iald 38 rfl (vp_in_nI hj (by decide)) hd ?_
  rw [nI_clamp (Nat.lt_trans hj (by decide))]
  exact K
theorem Cs_39 (f : Nat → Int32) (hf : s 39 = f) {x v : Int32} (j : Nat) (hx : x = nI j) (hj : j < 8) (hd : decode cc pc = .ok (.iastore, 1)) (K : J G nm own cc nL ret mc ms d Q k n (pc + 1) lv st (cW G r (su 39 s (upd f j v)) l)) : J G nm own cc nL ret mc ms d Q k n pc lv (.int v :: .int x :: .ref (r 39) :: st) (cW G r s l) := by
  subst hx; subst hf
  refine J_iast 38 (cW G r (su 39 s (upd (s 39) j v)) l) rfl (vp_in_nI hj (by decide)) ?_ hd K
  rw [nI_clamp (Nat.lt_trans hj (by decide))]
  rfl
theorem Cn_39 (hd : decode cc pc = .ok (.arraylength, 1)) (K : J G nm own cc nL ret mc ms d Q k n (pc + 1) lv (.int (nI 8) :: st) (cW G r s l)) : J G nm own cc nL ret mc ms d Q k n pc lv (.ref (r 39) :: st) (cW G r s l) := J_alenI 38 rfl rfl hd K
theorem Ca_39 {g : Nat → Int32} (h : ∀ j, j < 8 → s 39 j = g j) (K : J G nm own cc nL ret mc ms d Q k n pc lv st (cW G r (su 39 s g) l)) : J G nm own cc nL ret mc ms d Q k n pc lv st (cW G r s l) := J_arr 38 _ rfl h rfl K
theorem Cl_40 (f : Nat → Int32) (hf : s 40 = f) {x : Int32} (j : Nat) (hx : x = nI j) (hj : j < 6) (hd : decode cc pc = .ok (.iaload, 1)) (K : J G nm own cc nL ret mc ms d Q k n (pc + 1) lv (.int (f j) :: st) (cW G r s l)) : J G nm own cc nL ret mc ms d Q k n pc lv (.int x :: .ref (r 40) :: st) (cW G r s l) := by
  subst hx; subst hf
  refine J_iald 39 rfl (vp_in_nI hj (by decide)) hd ?_
  rw [nI_clamp (Nat.lt_trans hj (by decide))]
  exact K
theorem Cs_40 (f : Nat → Int32) (hf : s 40 = f) {x v : Int32} (j : Nat) (hx : x = nI j) (hj : j < 6) (hd : decode cc pc = .ok (.iastore, 1)) (K : J G nm own cc nL ret mc ms d Q k n (pc + 1) lv st (cW G r (su 40 s (upd f j v)) l)) : J G nm own cc nL ret mc ms d Q k n pc lv (.int v :: .int x :: .ref (r 40) :: st) (cW G r s l) := by
  subst hx; subst hf
  refine J_iast 39 (cW G r (su 40 s (upd (s 40) j v)) l) rfl (vp_in_nI hj (by decide)) ?_ hd K
  rw [nI_clamp (Nat.lt_trans hj (by decide))]
  rfl
theorem Cn_40 (hd : decode cc pc = .ok (.arraylength, 1)) (K : J G nm own cc nL ret mc ms d Q k n (pc + 1) lv (.int (nI 6) :: st) (cW G r s l)) : J G nm own cc nL ret mc ms d Q k n pc lv (.ref (r 40) :: st) (cW G r s l) := J_alenI 39 rfl rfl hd K
theorem Ca_40 {g : Nat → Int32} (h : ∀ j, j < 6 → s 40 j = g j) (K : J G nm own cc nL ret mc ms d Q k n pc lv st (cW G r (su 40 s g) l)) : J G nm own cc nL ret mc ms d Q k n pc lv st (cW G r s l) := J_arr 39 _ rfl h rfl K
theorem Cl_41 (f : Nat → Int32) (hf : s 41 = f) {x : Int32} (j : Nat) (hx : x = nI j) (hj : j < 42) (hd : decode cc pc = .ok (.iaload, 1)) (K : J G nm own cc nL ret mc ms d Q k n (pc + 1) lv (.int (f j) :: st) (cW G r s l)) : J G nm own cc nL ret mc ms d Q k n pc lv (.int x :: .ref (r 41) :: st) (cW G r s l) := by
  subst hx; subst hf
  refine J_iald 40 rfl (vp_in_nI hj (by decide)) hd ?_
  rw [nI_clamp (Nat.lt_trans hj (by decide))]
  exact K
theorem Cs_41 (f : Nat → Int32) (hf : s 41 = f) {x v : Int32} (j : Nat) (hx : x = nI j) (hj : j < 42) (hd : decode cc pc = .ok (.iastore, 1)) (K : J G nm own cc nL ret mc ms d Q k n (pc + 1) lv st (cW G r (su 41 s (upd f j v)) l)) : J G nm own cc nL ret mc ms d Q k n pc lv (.int v :: .int x :: .ref (r 41) :: st) (cW G r s l) := by
  subst hx; subst hf
  refine J_iast 40 (cW G r (su 41 s (upd (s 41) j v)) l) rfl (vp_in_nI hj (by decide)) ?_ hd K
  rw [nI_clamp (Nat.lt_trans hj (by decide))]
  rfl
theorem Cn_41 (hd : decode cc pc = .ok (.arraylength, 1)) (K : J G nm own cc nL ret mc ms d Q k n (pc + 1) lv (.int (nI 42) :: st) (cW G r s l)) : J G nm own cc nL ret mc ms d Q k n pc lv (.ref (r 41) :: st) (cW G r s l) := J_alenI 40 rfl rfl hd K
theorem Ca_41 {g : Nat → Int32} (h : ∀ j, j < 42 → s 41 j = g j) (K : J G nm own cc nL ret mc ms d Q k n pc lv st (cW G r (su 41 s g) l)) : J G nm own cc nL ret mc ms d Q k n pc lv st (cW G r s l) := J_arr 40 _ rfl h rfl K
theorem Cl_42 (f : Nat → Int32) (hf : s 42 = f) {x : Int32} (j : Nat) (hx : x = nI j) (hj : j < 8) (hd : decode cc pc = .ok (.iaload, 1)) (K : J G nm own cc nL ret mc ms d Q k n (pc + 1) lv (.int (f j) :: st) (cW G r s l)) : J G nm own cc nL ret mc ms d Q k n pc lv (.int x :: .ref (r 42) :: st) (cW G r s l) := by
  subst hx; subst hf
  refine J_iald 41 rfl (vp_in_nI hj (by decide)) hd ?_
  rw [nI_clamp (Nat.lt_trans hj (by decide))]
  exact K
theorem Cs_42 (f : Nat → Int32) (hf : s 42 = f) {x v : Int32} (j : Nat) (hx : x = nI j) (hj : j < 8) (hd : decode cc pc = .ok (.iastore, 1)) (K : J G nm own cc nL ret mc ms d Q k n (pc + 1) lv st (cW G r (su 42 s (upd f j v)) l)) : J G nm own cc nL ret mc ms d Q k n pc lv (.int v :: .int x :: .ref (r 42) :: st) (cW G r s l) := by
  subst hx; subst hf
  refine J_iast 41 (cW G r (su 42 s (upd (s 42) j v)) l) rfl (vp_in_nI hj (by decide)) ?_ hd K
  rw [nI_clamp (Nat.lt_trans hj (by decide))]
  rfl
theorem Cn_42 (hd : decode cc pc = .ok (.arraylength, 1)) (K : J G nm own cc nL ret mc ms d Q k n (pc + 1) lv (.int (nI 8) :: st) (cW G r s l)) : J G nm own cc nL ret mc ms d Q k n pc lv (.ref (r 42) :: st) (cW G r s l) := J_alenI 41 rfl rfl hd K
theorem Ca_42 {g : Nat → Int32} (h : ∀ j, j < 8 → s 42 j = g j) (K : J G nm own cc nL ret mc ms d Q k n pc lv st (cW G r (su 42 s g) l)) : J G nm own cc nL ret mc ms d Q k n pc lv st (cW G r s l) := J_arr 41 _ rfl h rfl K
theorem Cl_43 (f : Nat → Int32) (hf : s 43 = f) {x : Int32} (j : Nat) (hx : x = nI j) (hj : j < 8) (hd : decode cc pc = .ok (.iaload, 1)) (K : J G nm own cc nL ret mc ms d Q k n (pc + 1) lv (.int (f j) :: st) (cW G r s l)) : J G nm own cc nL ret mc ms d Q k n pc lv (.int x :: .ref (r 43) :: st) (cW G r s l) := by
  subst hx; subst hf
  refine J_iald 42 rfl (vp_in_nI hj (by decide)) hd ?_
  rw [nI_clamp (Nat.lt_trans hj (by decide))]
  exact K
theorem Cs_43 (f : Nat → Int32) (hf : s 43 = f) {x v : Int32} (j : Nat) (hx : x = nI j) (hj : j < 8) (hd : decode cc pc = .ok (.iastore, 1)) (K : J G nm own cc nL ret mc ms d Q k n (pc + 1) lv st (cW G r (su 43 s (upd f j v)) l)) : J G nm own cc nL ret mc ms d Q k n pc lv (.int v :: .int x :: .ref (r 43) :: st) (cW G r s l) := by
  subst hx; subst hf
  refine J_iast 42 (cW G r (su 43 s (upd (s 43) j v)) l) rfl (vp_in_nI hj (by decide)) ?_ hd K
  rw [nI_clamp (Nat.lt_trans hj (by decide))]
  rfl
theorem Cn_43 (hd : decode cc pc = .ok (.arraylength, 1)) (K : J G nm own cc nL ret mc ms d Q k n (pc + 1) lv (.int (nI 8) :: st) (cW G r s l)) : J G nm own cc nL ret mc ms d Q k n pc lv (.ref (r 43) :: st) (cW G r s l) := J_alenI 42 rfl rfl hd K
theorem Ca_43 {g : Nat → Int32} (h : ∀ j, j < 8 → s 43 j = g j) (K : J G nm own cc nL ret mc ms d Q k n pc lv st (cW G r (su 43 s g) l)) : J G nm own cc nL ret mc ms d Q k n pc lv st (cW G r s l) := J_arr 42 _ rfl h rfl K
theorem Cl_44 (f : Nat → Int32) (hf : s 44 = f) {x : Int32} (j : Nat) (hx : x = nI j) (hj : j < 8) (hd : decode cc pc = .ok (.iaload, 1)) (K : J G nm own cc nL ret mc ms d Q k n (pc + 1) lv (.int (f j) :: st) (cW G r s l)) : J G nm own cc nL ret mc ms d Q k n pc lv (.int x :: .ref (r 44) :: st) (cW G r s l) := by
  subst hx; subst hf
  refine J_iald 43 rfl (vp_in_nI hj (by decide)) hd ?_
  rw [nI_clamp (Nat.lt_trans hj (by decide))]
  exact K
theorem Cs_44 (f : Nat → Int32) (hf : s 44 = f) {x v : Int32} (j : Nat) (hx : x = nI j) (hj : j < 8) (hd : decode cc pc = .ok (.iastore, 1)) (K : J G nm own cc nL ret mc ms d Q k n (pc + 1) lv st (cW G r (su 44 s (upd f j v)) l)) : J G nm own cc nL ret mc ms d Q k n pc lv (.int v :: .int x :: .ref (r 44) :: st) (cW G r s l) := by
  subst hx; subst hf
  refine J_iast 43 (cW G r (su 44 s (upd (s 44) j v)) l) rfl (vp_in_nI hj (by decide)) ?_ hd K
  rw [nI_clamp (Nat.lt_trans hj (by decide))]
  rfl
theorem Cn_44 (hd : decode cc pc = .ok (.arraylength, 1)) (K : J G nm own cc nL ret mc ms d Q k n (pc + 1) lv (.int (nI 8) :: st) (cW G r s l)) : J G nm own cc nL ret mc ms d Q k n pc lv (.ref (r 44) :: st) (cW G r s l) := J_alenI 43 rfl rfl hd K
theorem Ca_44 {g : Nat → Int32} (h : ∀ j, j < 8 → s 44 j = g j) (K : J G nm own cc nL ret mc ms d Q k n pc lv st (cW G r (su 44 s g) l)) : J G nm own cc nL ret mc ms d Q k n pc lv st (cW G r s l) := J_arr 43 _ rfl h rfl K
theorem Cl_45 (f : Nat → Int32) (hf : s 45 = f) {x : Int32} (j : Nat) (hx : x = nI j) (hj : j < 6) (hd : decode cc pc = .ok (.iaload, 1)) (K : J G nm own cc nL ret mc ms d Q k n (pc + 1) lv (.int (f j) :: st) (cW G r s l)) : J G nm own cc nL ret mc ms d Q k n pc lv (.int x :: .ref (r 45) :: st) (cW G r s l) := by
  subst hx; subst hf
  refine J_iald 44 rfl (vp_in_nI hj (by decide)) hd ?_
  rw [nI_clamp (Nat.lt_trans hj (by decide))]
  exact K
theorem Cs_45 (f : Nat → Int32) (hf : s 45 = f) {x v : Int32} (j : Nat) (hx : x = nI j) (hj : j < 6) (hd : decode cc pc = .ok (.iastore, 1)) (K : J G nm own cc nL ret mc ms d Q k n (pc + 1) lv st (cW G r (su 45 s (upd f j v)) l)) : J G nm own cc nL ret mc ms d Q k n pc lv (.int v :: .int x :: .ref (r 45) :: st) (cW G r s l) := by
  subst hx; subst hf
  refine J_iast 44 (cW G r (su 45 s (upd (s 45) j v)) l) rfl (vp_in_nI hj (by decide)) ?_ hd K
  rw [nI_clamp (Nat.lt_trans hj (by decide))]
  rfl
theorem Cn_45 (hd : decode cc pc = .ok (.arraylength, 1)) (K : J G nm own cc nL ret mc ms d Q k n (pc + 1) lv (.int (nI 6) :: st) (cW G r s l)) : J G nm own cc nL ret mc ms d Q k n pc lv (.ref (r 45) :: st) (cW G r s l) := J_alenI 44 rfl rfl hd K
theorem Ca_45 {g : Nat → Int32} (h : ∀ j, j < 6 → s 45 j = g j) (K : J G nm own cc nL ret mc ms d Q k n pc lv st (cW G r (su 45 s g) l)) : J G nm own cc nL ret mc ms d Q k n pc lv st (cW G r s l) := J_arr 44 _ rfl h rfl K
theorem Cl_46 (f : Nat → Int32) (hf : s 46 = f) {x : Int32} (j : Nat) (hx : x = nI j) (hj : j < 6) (hd : decode cc pc = .ok (.iaload, 1)) (K : J G nm own cc nL ret mc ms d Q k n (pc + 1) lv (.int (f j) :: st) (cW G r s l)) : J G nm own cc nL ret mc ms d Q k n pc lv (.int x :: .ref (r 46) :: st) (cW G r s l) := by
  subst hx; subst hf
  refine J_iald 45 rfl (vp_in_nI hj (by decide)) hd ?_
  rw [nI_clamp (Nat.lt_trans hj (by decide))]
  exact K
theorem Cs_46 (f : Nat → Int32) (hf : s 46 = f) {x v : Int32} (j : Nat) (hx : x = nI j) (hj : j < 6) (hd : decode cc pc = .ok (.iastore, 1)) (K : J G nm own cc nL ret mc ms d Q k n (pc + 1) lv st (cW G r (su 46 s (upd f j v)) l)) : J G nm own cc nL ret mc ms d Q k n pc lv (.int v :: .int x :: .ref (r 46) :: st) (cW G r s l) := by
  subst hx; subst hf
  refine J_iast 45 (cW G r (su 46 s (upd (s 46) j v)) l) rfl (vp_in_nI hj (by decide)) ?_ hd K
  rw [nI_clamp (Nat.lt_trans hj (by decide))]
  rfl
theorem Cn_46 (hd : decode cc pc = .ok (.arraylength, 1)) (K : J G nm own cc nL ret mc ms d Q k n (pc + 1) lv (.int (nI 6) :: st) (cW G r s l)) : J G nm own cc nL ret mc ms d Q k n pc lv (.ref (r 46) :: st) (cW G r s l) := J_alenI 45 rfl rfl hd K
theorem Ca_46 {g : Nat → Int32} (h : ∀ j, j < 6 → s 46 j = g j) (K : J G nm own cc nL ret mc ms d Q k n pc lv st (cW G r (su 46 s g) l)) : J G nm own cc nL ret mc ms d Q k n pc lv st (cW G r s l) := J_arr 45 _ rfl h rfl K
theorem Cl_47 (f : Nat → Int32) (hf : s 47 = f) {x : Int32} (j : Nat) (hx : x = nI j) (hj : j < 4) (hd : decode cc pc = .ok (.iaload, 1)) (K : J G nm own cc nL ret mc ms d Q k n (pc + 1) lv (.int (f j) :: st) (cW G r s l)) : J G nm own cc nL ret mc ms d Q k n pc lv (.int x :: .ref (r 47) :: st) (cW G r s l) := by
  subst hx; subst hf
  refine J_iald 46 rfl (vp_in_nI hj (by decide)) hd ?_
  rw [nI_clamp (Nat.lt_trans hj (by decide))]
  exact K
theorem Cs_47 (f : Nat → Int32) (hf : s 47 = f) {x v : Int32} (j : Nat) (hx : x = nI j) (hj : j < 4) (hd : decode cc pc = .ok (.iastore, 1)) (K : J G nm own cc nL ret mc ms d Q k n (pc + 1) lv st (cW G r (su 47 s (upd f j v)) l)) : J G nm own cc nL ret mc ms d Q k n pc lv (.int v :: .int x :: .ref (r 47) :: st) (cW G r s l) := by
  subst hx; subst hf
  refine J_iast 46 (cW G r (su 47 s (upd (s 47) j v)) l) rfl (vp_in_nI hj (by decide)) ?_ hd K
  rw [nI_clamp (Nat.lt_trans hj (by decide))]
  rfl
theorem Cn_47 (hd : decode cc pc = .ok (.arraylength, 1)) (K : J G nm own cc nL ret mc ms d Q k n (pc + 1) lv (.int (nI 4) :: st) (cW G r s l)) : J G nm own cc nL ret mc ms d Q k n pc lv (.ref (r 47) :: st) (cW G r s l) := J_alenI 46 rfl rfl hd K
theorem Ca_47 {g : Nat → Int32} (h : ∀ j, j < 4 → s 47 j = g j) (K : J G nm own cc nL ret mc ms d Q k n pc lv st (cW G r (su 47 s g) l)) : J G nm own cc nL ret mc ms d Q k n pc lv st (cW G r s l) := J_arr 46 _ rfl h rfl K
theorem Cl_48 (f : Nat → Int32) (hf : s 48 = f) {x : Int32} (j : Nat) (hx : x = nI j) (hj : j < 7) (hd : decode cc pc = .ok (.iaload, 1)) (K : J G nm own cc nL ret mc ms d Q k n (pc + 1) lv (.int (f j) :: st) (cW G r s l)) : J G nm own cc nL ret mc ms d Q k n pc lv (.int x :: .ref (r 48) :: st) (cW G r s l) := by
  subst hx; subst hf
  refine J_iald 47 rfl (vp_in_nI hj (by decide)) hd ?_
  rw [nI_clamp (Nat.lt_trans hj (by decide))]
  exact K
theorem Cs_48 (f : Nat → Int32) (hf : s 48 = f) {x v : Int32} (j : Nat) (hx : x = nI j) (hj : j < 7) (hd : decode cc pc = .ok (.iastore, 1)) (K : J G nm own cc nL ret mc ms d Q k n (pc + 1) lv st (cW G r (su 48 s (upd f j v)) l)) : J G nm own cc nL ret mc ms d Q k n pc lv (.int v :: .int x :: .ref (r 48) :: st) (cW G r s l) := by
  subst hx; subst hf
  refine J_iast 47 (cW G r (su 48 s (upd (s 48) j v)) l) rfl (vp_in_nI hj (by decide)) ?_ hd K
  rw [nI_clamp (Nat.lt_trans hj (by decide))]
  rfl
theorem Cn_48 (hd : decode cc pc = .ok (.arraylength, 1)) (K : J G nm own cc nL ret mc ms d Q k n (pc + 1) lv (.int (nI 7) :: st) (cW G r s l)) : J G nm own cc nL ret mc ms d Q k n pc lv (.ref (r 48) :: st) (cW G r s l) := J_alenI 47 rfl rfl hd K
theorem Ca_48 {g : Nat → Int32} (h : ∀ j, j < 7 → s 48 j = g j) (K : J G nm own cc nL ret mc ms d Q k n pc lv st (cW G r (su 48 s g) l)) : J G nm own cc nL ret mc ms d Q k n pc lv st (cW G r s l) := J_arr 47 _ rfl h rfl K
theorem Cl_49 {x : Int32} (j : Nat) (hx : x = nI j) (hj : j < 28) (hd : decode cc pc = .ok (.laload, 1)) (K : J G nm own cc nL ret mc ms d Q k n (pc + 1) lv (.long (l j) :: st) (cW G r s l)) : J G nm own cc nL ret mc ms d Q k n pc lv (.int x :: .ref (r 49) :: st) (cW G r s l) := by
  subst hx
  refine J_lald 48 rfl (vp_in_nI hj (by decide)) hd ?_
  rw [nI_clamp (Nat.lt_trans hj (by decide))]
  exact K
theorem Cs_49 {x : Int32} {v : Int64} (j : Nat) (hx : x = nI j) (hj : j < 28) (hd : decode cc pc = .ok (.lastore, 1)) (K : J G nm own cc nL ret mc ms d Q k n (pc + 1) lv st (cW G r s (vp_updL l j v))) : J G nm own cc nL ret mc ms d Q k n pc lv (.long v :: .int x :: .ref (r 49) :: st) (cW G r s l) := by
  subst hx
  refine J_last 48 (cW G r s (vp_updL l j v)) rfl (vp_in_nI hj (by decide)) ?_ hd K
  rw [nI_clamp (Nat.lt_trans hj (by decide))]
  rfl
theorem Cn_49 (hd : decode cc pc = .ok (.arraylength, 1)) (K : J G nm own cc nL ret mc ms d Q k n (pc + 1) lv (.int (nI 28) :: st) (cW G r s l)) : J G nm own cc nL ret mc ms d Q k n pc lv (.ref (r 49) :: st) (cW G r s l) := J_alenJ 48 rfl rfl hd K
theorem Cn_10 (hd : decode cc pc = .ok (.arraylength, 1)) (K : J G nm own cc nL ret mc ms d Q k n (pc + 1) lv (.int (nI 4) :: st) (cW G r s l)) : J G nm own cc nL ret mc ms d Q k n pc lv (.ref (r 10) :: st) (cW G r s l) := J_alenS 10 rfl rfl hd K
theorem Cl_10 {x : Int32} (j : Nat) (hx : x = nI j) (hj : j < 4) (hd : decode cc pc = .ok (.aaload, 1)) (K : J G nm own cc nL ret mc ms d Q k n (pc + 1) lv (.ref (r (11 + j)) :: st) (cW G r s l)) : J G nm own cc nL ret mc ms d Q k n pc lv (.int x :: .ref (r 10) :: st) (cW G r s l) := by
  subst hx
  refine J_aald (f := fun j => some (r (11 + j))) 10 (.ref (r (11 + j))) rfl (vp_in_nI hj (by decide)) ?_ hd K
  rw [nI_clamp (Nat.lt_trans hj (by decide))]
  rfl
theorem cW_sh {j : Nat} (hj : j < 4) : (cW G r s l)[11 + j]? = some (r (11 + j), .inr (7, shF r s j)) := by
  rcases (show j = 0 ∨ j = 1 ∨ j = 2 ∨ j = 3 by omega) with rfl | rfl | rfl | rfl <;> rfl
theorem cW_si {j : Nat} (hj : j < 4) : (cW G r s l)[15 + j]? = some (r (15 + j), .inl (gI G, 60, .inl (s (70 + j)))) := by
  rcases (show j = 0 ∨ j = 1 ∨ j = 2 ∨ j = 3 by omega) with rfl | rfl | rfl | rfl <;> rfl
theorem Cg_sh_0 {index : Nat} {j : Nat} (hj : j < 4) (hf : FR own index 7 0 true (.array .int)) (hd : decode cc pc = .ok (.getfield index, 3)) (K : J G nm own cc nL ret mc ms d Q k n (pc + 3) lv (.ref (r (15 + j)) :: st) (cW G r s l)) : J G nm own cc nL ret mc ms d Q k n pc lv (.ref (r (11 + j)) :: st) (cW G r s l) := J_get hf (11 + j) (cW_sh hj) rfl hd K
theorem Cg_sh_1 {index : Nat} {j : Nat} (hj : j < 4) (hf : FR own index 7 1 false .int) (v : Int32) (hv : s 67 j = v) (hd : decode cc pc = .ok (.getfield index, 3)) (K : J G nm own cc nL ret mc ms d Q k n (pc + 3) lv (.int v :: st) (cW G r s l)) : J G nm own cc nL ret mc ms d Q k n pc lv (.ref (r (11 + j)) :: st) (cW G r s l) := by
  subst hv
  exact J_get hf (11 + j) (cW_sh hj) rfl hd K
theorem Cg_sh_2 {index : Nat} {j : Nat} (hj : j < 4) (hf : FR own index 7 2 false .int) (v : Int32) (hv : s 68 j = v) (hd : decode cc pc = .ok (.getfield index, 3)) (K : J G nm own cc nL ret mc ms d Q k n (pc + 3) lv (.int v :: st) (cW G r s l)) : J G nm own cc nL ret mc ms d Q k n pc lv (.ref (r (11 + j)) :: st) (cW G r s l) := by
  subst hv
  exact J_get hf (11 + j) (cW_sh hj) rfl hd K
theorem cW_set1 {j : Nat} (hj : j < 4) {v : Int32} : (cW G r s l).set (11 + j) (r (11 + j), .inr (7, (shF r s j).set 1 (.int v))) = cW G r (su 67 s (upd (s 67) j v)) l := by
  rcases (show j = 0 ∨ j = 1 ∨ j = 2 ∨ j = 3 by omega) with rfl | rfl | rfl | rfl <;> rfl
theorem cW_set2 {j : Nat} (hj : j < 4) {v : Int32} : (cW G r s l).set (11 + j) (r (11 + j), .inr (7, (shF r s j).set 2 (.int v))) = cW G r (su 68 s (upd (s 68) j v)) l := by
  rcases (show j = 0 ∨ j = 1 ∨ j = 2 ∨ j = 3 by omega) with rfl | rfl | rfl | rfl <;> rfl
theorem Cp_sh_1 {index : Nat} {j : Nat} {v : Int32} (hj : j < 4) (hf : FR own index 7 1 false .int) (hd : decode cc pc = .ok (.putfield index, 3)) (K : J G nm own cc nL ret mc ms d Q k n (pc + 3) lv st (cW G r (su 67 s (upd (s 67) j v)) l)) : J G nm own cc nL ret mc ms d Q k n pc lv (.int v :: .ref (r (11 + j)) :: st) (cW G r s l) := J_put hf (11 + j) _ (cW_sh hj) rfl rfl (by show 1 < 3; decide) (cW_set1 hj) hd K
theorem Cp_sh_2 {index : Nat} {j : Nat} {v : Int32} (hj : j < 4) (hf : FR own index 7 2 false .int) (hd : decode cc pc = .ok (.putfield index, 3)) (K : J G nm own cc nL ret mc ms d Q k n (pc + 3) lv st (cW G r (su 68 s (upd (s 68) j v)) l)) : J G nm own cc nL ret mc ms d Q k n pc lv (.int v :: .ref (r (11 + j)) :: st) (cW G r s l) := J_put hf (11 + j) _ (cW_sh hj) rfl rfl (by show 2 < 3; decide) (cW_set2 hj) hd K
theorem cW_set3 {j : Nat} (hj : j < 4) {g : Nat → Int32} : (cW G r s l).set (15 + j) (r (15 + j), .inl (gI G, 60, .inl g)) = cW G r (su (70 + j) s g) l := by
  rcases (show j = 0 ∨ j = 1 ∨ j = 2 ∨ j = 3 by omega) with rfl | rfl | rfl | rfl <;> rfl
theorem Cn_sh {j : Nat} (hj : j < 4) (hd : decode cc pc = .ok (.arraylength, 1)) (K : J G nm own cc nL ret mc ms d Q k n (pc + 1) lv (.int (nI 60) :: st) (cW G r s l)) : J G nm own cc nL ret mc ms d Q k n pc lv (.ref (r (15 + j)) :: st) (cW G r s l) := J_alenI (15 + j) (cW_si hj) rfl hd K
theorem Cl_sh {j : Nat} (hj : j < 4) (f : Nat → Int32) (hf : s (70 + j) = f) {x : Int32} (i : Nat) (hx : x = nI i) (hi : i < 60) (hd : decode cc pc = .ok (.iaload, 1)) (K : J G nm own cc nL ret mc ms d Q k n (pc + 1) lv (.int (f i) :: st) (cW G r s l)) : J G nm own cc nL ret mc ms d Q k n pc lv (.int x :: .ref (r (15 + j)) :: st) (cW G r s l) := by
  subst hx; subst hf
  refine J_iald (15 + j) (cW_si hj) (vp_in_nI hi (by decide)) hd ?_
  rw [nI_clamp (Nat.lt_trans hi (by decide))]
  exact K
theorem Cs_sh {j : Nat} (hj : j < 4) (f : Nat → Int32) (hf : s (70 + j) = f) {x v : Int32} (i : Nat) (hx : x = nI i) (hi : i < 60) (hd : decode cc pc = .ok (.iastore, 1)) (K : J G nm own cc nL ret mc ms d Q k n (pc + 1) lv st (cW G r (su (70 + j) s (upd f i v)) l)) : J G nm own cc nL ret mc ms d Q k n pc lv (.int v :: .int x :: .ref (r (15 + j)) :: st) (cW G r s l) := by
  subst hx; subst hf
  refine J_iast (15 + j) _ (cW_si hj) (vp_in_nI hi (by decide)) (cW_set3 hj) hd ?_
  rw [nI_clamp (Nat.lt_trans hi (by decide))]
  exact K
end CWd
theorem ws_same {ws : va_W} {q0 : Nat} {e : Nat × va_E} (h : ws[q0]? = some e) : ws.set q0 e = ws := by
  obtain ⟨hl, he⟩ := List.getElem?_eq_some_iff.mp h
  rw [← he]; exact List.set_getElem_self hl
set_option maxRecDepth 100000 in
theorem c_fill {G : GT} (ws : va_W) (q0 a N : Nat) (f : Nat → Int32) (v : Int32) (ha : ws[q0]? = some (a, .inl (gI G, N, .inl f))) (hN : N < 2 ^ 31) : Ct G yJ7_fill_53178 cJ7_fill_53178 4 none 0 0 0 [.ref a, .int v] ws (Is none (ws.set q0 (a, .inl (gI G, N, .inl (fun _ => v))))) := by
  have hl : q0 < ws.length := (List.getElem?_eq_some_iff.mp ha).1
  have hat : ∀ g : Nat → Int32, (ws.set q0 (a, .inl (gI G, N, .inl g)))[q0]? = some (a, .inl (gI G, N, .inl g)) := fun g => List.getElem?_set_self hl
  refine Ct.of rfl (Nat.le_of_ble_eq_true rfl) ?_
  show J G "fill" RJ7 cJ7_fill_53178 4 none 0 0 0 _ 0 0 0 [(0, .ref a), (1, .int v)] [] ws
  refine J_iconst (v := nI 0) dJ7_fill_53178_0 (by decide) ?_
  refine J_istore_n [(0, .ref a), (1, .int v), (2, .int (nI 0))] dJ7_fill_53178_1 rfl (by decide) rfl rfl rfl ?_
  refine J_aload_n dJ7_fill_53178_2 rfl rfl ?_
  refine J_alenI (v := nI N) q0 ha rfl dJ7_fill_53178_3 ?_
  refine J_istore_n [(0, .ref a), (1, .int v), (2, .int (nI 0)), (3, .int (nI N))] dJ7_fill_53178_4 rfl (by decide) rfl rfl rfl ?_
  have L : ∀ fu i : Nat, N - i < fu → i ≤ N → J G "fill" RJ7 cJ7_fill_53178 4 none 0 0 0 (Is none (ws.set q0 (a, .inl (gI G, N, .inl (fun _ => v))))) 0 0 5 [(0, .ref a), (1, .int v), (2, .int (nI i)), (3, .int (nI N))] [] (ws.set q0 (a, .inl (gI G, N, .inl (fa_fill (fun _ => v) f i)))) := by
    intro fu
    induction fu with
    | zero => intro i h; exact absurd h (Nat.not_lt_zero _)
    | succ fu ih =>
      intro i h1 h2
      refine J_iload_n dJ7_fill_53178_5 rfl rfl ?_
      refine J_iload_n dJ7_fill_53178_6 rfl rfl ?_
      refine J_icmp_geN 20 (by omega) hN dJ7_fill_53178_7 (by decide) (fun c => ?_) (fun c => ?_)
      · refine J_arr (g := fun _ => v) q0 _ (hat _) (fun j hj => fa_fill_in (by omega)) rfl ?_
        rw [List.set_set]
        exact J_vret dJ7_fill_53178_20 rfl rfl rfl (Is.rf _ _)
      · refine J_aload_n dJ7_fill_53178_10 rfl rfl ?_
        refine J_iload_n dJ7_fill_53178_11 rfl rfl ?_
        refine J_iload_n dJ7_fill_53178_12 rfl rfl ?_
        refine J_iast q0 (ws.set q0 (a, .inl (gI G, N, .inl (fa_fill (fun _ => v) f (i + 1))))) (hat _) (vp_in_nI (by omega) hN) ?_ dJ7_fill_53178_13 ?_
        · rw [nI_clamp (by omega), List.set_set, fa_fill_succ (fun _ => v)]
        · refine J_iincN [(0, .ref a), (1, .int v), (2, .int (nI (i + 1))), (3, .int (nI N))] dJ7_fill_53178_14 rfl (by decide) rfl rfl rfl ?_
          refine J_goto 5 dJ7_fill_53178_17 (by decide) ?_
          exact ih (i + 1) (by omega) (by omega)
  have h0 := L (N + 1) 0 (by omega) (by omega)
  rw [fa_fill_0, ws_same ha] at h0
  exact h0
def bcF (x : Int32) : Int32 :=
  let x1 := x - (((x.toUInt32 >>> ((nI 1).toUInt32 &&& Int32.toUInt32 31)).toInt32) &&& 1431655765)
  let x2 := (x1 &&& 858993459) + (((x1.toUInt32 >>> ((nI 2).toUInt32 &&& Int32.toUInt32 31)).toInt32) &&& 858993459)
  let x3 := (x2 + (x2.toUInt32 >>> ((nI 4).toUInt32 &&& Int32.toUInt32 31)).toInt32) &&& 252645135
  let x4 := x3 + (x3.toUInt32 >>> ((nI 8).toUInt32 &&& Int32.toUInt32 31)).toInt32
  let x5 := x4 + (x4.toUInt32 >>> ((nI 16).toUInt32 &&& Int32.toUInt32 31)).toInt32
  x5 &&& nI 63
theorem bcF_all : ∀ b, b < 256 → bcF (nI b) = nI (popc b) := by decide +kernel
