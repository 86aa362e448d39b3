theorem goodIn_mem {ws : List Cond} (h : ∀ w ∈ ws, w ∈ TB) : GoodIn TB ws := fun w hw => ⟨h w hw, good_of_word (TB_good (h w hw)).2⟩
section JHp
variable {G : GT} {nm own : String} {cc : ByteArray} {nL : Nat} {ret : Option FieldType} {mc ms d : Nat} {Q : Option Value → va_W → Prop} {k n pc : Nat} {lv : List (Nat × Value)} {st : List Value} {ws : va_W}
/-- a field that an instruction names: number i of class ci in vwCl, seen from own's pool at index -/
def FR (own : String) (index ci i : Nat) (fin : Bool) (ty : FieldType) : Prop :=
  ∃ (C : String) (T : u_T) (N : Nat) (ref : String) (ty0 : Nat → FieldType), vwCl[ci]? = some (C, T, N) ∧ i < N ∧ (∀ w ∈ u_ws C T N, w ∈ TB) ∧ Cond.fieldLink own index ref (T i).2.1 (T i).2.2.1 ∈ TB ∧ (ref = (T i).1 ∨ Cond.sameField ref (T i).1 (T i).2.1 (T i).2.2.1 ∈ TB)
    ∧ (∀ j, j < N → parseFieldDescriptor (T j).2.2.1 = some (ty0 j)) ∧ (∀ a, a < N → ∀ b, b < N → a ≠ b → (T a).2.1 ≠ (T b).2.1) ∧ parseFieldDescriptor (T i).2.2.1 = some ty ∧ (T i).2.2.2 = fin
theorem J_get {index ci i : Nat} {fin : Bool} {ty : FieldType} (hf : FR own index ci i fin ty) (q0 : Nat) {a : Nat} {fs : List Value} {v : Value} (he : ws[q0]? = some (a, .inr (ci, fs))) (hv : fs[i]? = some v) (hd : decode cc pc = .ok (.getfield index, 3)) (K : J G nm own cc nL ret mc ms d Q k n (pc + 3) lv (v :: st) ws) : J G nm own cc nL ret mc ms d Q k n pc lv (.ref a :: st) ws := by
  have hv0 := hv
  intro p e s m args below meth c H locs A ls C hP hD hS hA hv
  obtain ⟨Cn, T, N, ref, ty0, h1, h2, h3, h4, h5, h6, h7, h8, h9⟩ := hf
  refine va_get (D := G.2.1) (ci := ci) (v := v) (C := Cn) (T := T) (N := N) C.ex C.cb C.ts h3 C.ow C.kk hP q0 he h1 i h2 (C.ts _ h4) (fun x hx => ?_) hv0 hd (K p e s m args below meth c H locs A ls C hP hD hS hA hv)
  rcases h5 with h5 | h5
  · rw [h5]; exact hx
  · exact u_same (C.ts _ h5) x hx
theorem J_put {index ci i : Nat} {ty : FieldType} (hf : FR own index ci i false ty) (q0 : Nat) {a : Nat} {fs : List Value} {v : Value} (ws2 : va_W) (he : ws[q0]? = some (a, .inr (ci, fs))) (hn : narrow ty v = v) (hfit : fits ty v = true) (hlen : i < fs.length) (hw : ws.set q0 (a, .inr (ci, fs.set i v)) = ws2) (hd : decode cc pc = .ok (.putfield index, 3)) (K : J G nm own cc nL ret mc ms d Q k n (pc + 3) lv st ws2) : J G nm own cc nL ret mc ms d Q k n pc lv (v :: .ref a :: st) ws := by
  subst hw
  intro p e s m args below meth c H locs A ls C hP hD hS hA hv
  obtain ⟨Cn, T, N, ref, ty0, h1, h2, h3, h4, h5, h6, h7, h8, h9⟩ := hf
  refine va_put (D := G.2.1) (ci := ci) (v := v) (ty := ty) (C := Cn) (T := T) (N := N) C.ex C.cb C.ts h3 ty0 h6 h7 C.ow C.kk hP hD hS q0 he h1 i h2 (C.ts _ h4) (fun x hx => ?_) h9 h8 hn hfit hlen hd (fun H locs hP hD hS => K p e s m args below meth c H locs A ls C hP hD hS hA hv)
  rcases h5 with h5 | h5
  · rw [h5]; exact hx
  · exact u_same (C.ts _ h5) x hx
/-- a final field's only write, in its constructor -/
theorem J_putF {index ci i : Nat} {ty : FieldType} (hf : FR own index ci i true ty) (hdl : ∀ q : vw_C, vwCl[ci]? = some q → (q.2.1 i).1 = own) (hini : nm = "<init>") (q0 : Nat) {a : Nat} {fs : List Value} {v : Value} (ws2 : va_W) (he : ws[q0]? = some (a, .inr (ci, fs))) (hn : narrow ty v = v) (hfit : fits ty v = true) (hlen : i < fs.length) (hw : ws.set q0 (a, .inr (ci, fs.set i v)) = ws2) (hd : decode cc pc = .ok (.putfield index, 3)) (K : J G nm own cc nL ret mc ms d Q k n (pc + 3) lv st ws2) : J G nm own cc nL ret mc ms d Q k n pc lv (v :: .ref a :: st) ws := by
  subst hw
  intro p e s m args below meth c H locs A ls C hP hD hS hA hv
  obtain ⟨Cn, T, N, ref, ty0, h1, h2, h3, h4, h5, h6, h7, h8, h9⟩ := hf
  refine va_putF (D := G.2.1) (ci := ci) (v := v) (ty := ty) (C := Cn) (T := T) (N := N) C.ex C.cb C.ts h3 ty0 h6 h7 C.ow C.kk hP hD hS q0 he h1 i h2 (C.ts _ h4) (fun x hx => ?_) h9 (C.nn.trans hini) (hdl _ h1) h8 hn hfit hlen hd (fun H locs hP hD hS => K p e s m args below meth c H locs A ls C hP hD hS hA hv)
  rcases h5 with h5 | h5
  · rw [h5]; exact hx
  · exact u_same (C.ts _ h5) x hx
theorem J_iald (q0 : Nat) {a N : Nat} {f : Nat → Int32} {i : Int32} (ha : ws[q0]? = some (a, .inl (gI G, N, .inl f))) (hin : vp_in i N) (hd : decode cc pc = .ok (.iaload, 1)) (K : J G nm own cc nL ret mc ms d Q k n (pc + 1) lv (.int (f i.toNatClampNeg) :: st) ws) : J G nm own cc nL ret mc ms d Q k n pc lv (.int i :: .ref a :: st) ws := by
  intro p e s m args below meth c H locs A ls C hP hD hS hA hv
  exact va_iald C.ex C.cb C.kk hP q0 0 ha rfl hin hd (K p e s m args below meth c H locs A ls C hP hD hS hA hv)
theorem J_iast (q0 : Nat) {a N : Nat} {f : Nat → Int32} {i x : Int32} (ws2 : va_W) (ha : ws[q0]? = some (a, .inl (gI G, N, .inl f))) (hin : vp_in i N) (hw : ws.set q0 (a, .inl (gI G, N, .inl (upd f i.toNatClampNeg x))) = ws2) (hd : decode cc pc = .ok (.iastore, 1)) (K : J G nm own cc nL ret mc ms d Q k n (pc + 1) lv st ws2) : J G nm own cc nL ret mc ms d Q k n pc lv (.int x :: .int i :: .ref a :: st) ws := by
  subst hw
  intro p e s m args below meth c H locs A ls C hP hD hS hA hv
  exact va_iast C.ex C.cb C.kk hP hD hS q0 0 ha rfl hin hd (fun H locs hP hD hS => K p e s m args below meth c H locs A ls C hP hD hS hA hv)
theorem J_lald (q0 : Nat) {a N : Nat} {f : Nat → Int64} {i : Int32} (ha : ws[q0]? = some (a, .inl (gJ G, N, .inr (.inl f)))) (hin : vp_in i N) (hd : decode cc pc = .ok (.laload, 1)) (K : J G nm own cc nL ret mc ms d Q k n (pc + 1) lv (.long (f i.toNatClampNeg) :: st) ws) : J G nm own cc nL ret mc ms d Q k n pc lv (.int i :: .ref a :: st) ws := by
  intro p e s m args below meth c H locs A ls C hP hD hS hA hv
  exact va_lald C.ex C.cb C.kk hP q0 1 ha rfl hin hd (K p e s m args below meth c H locs A ls C hP hD hS hA hv)
theorem J_last (q0 : Nat) {a N : Nat} {f : Nat → Int64} {i : Int32} {x : Int64} (ws2 : va_W) (ha : ws[q0]? = some (a, .inl (gJ G, N, .inr (.inl f)))) (hin : vp_in i N) (hw : ws.set q0 (a, .inl (gJ G, N, .inr (.inl (vp_updL f i.toNatClampNeg x)))) = ws2) (hd : decode cc pc = .ok (.lastore, 1)) (K : J G nm own cc nL ret mc ms d Q k n (pc + 1) lv st ws2) : J G nm own cc nL ret mc ms d Q k n pc lv (.long x :: .int i :: .ref a :: st) ws := by
  subst hw
  intro p e s m args below meth c H locs A ls C hP hD hS hA hv
  exact va_last C.ex C.cb C.kk hP hD hS q0 1 ha rfl hin hd (fun H locs hP hD hS => K p e s m args below meth c H locs A ls C hP hD hS hA hv)
theorem J_aald (q0 : Nat) {a N : Nat} {f : Nat → Option Nat} {i : Int32} (v : Value) (ha : ws[q0]? = some (a, .inl (gS G, N, .inr (.inr (.inr (.inr f)))))) (hin : vp_in i N) (hv : va_rf (f i.toNatClampNeg) = v) (hd : decode cc pc = .ok (.aaload, 1)) (K : J G nm own cc nL ret mc ms d Q k n (pc + 1) lv (v :: st) ws) : J G nm own cc nL ret mc ms d Q k n pc lv (.int i :: .ref a :: st) ws := by
  subst hv
  intro p e s m args below meth c H locs A ls C hP hD hS hA hv
  exact va_aldq C.ex C.cb C.kk hP q0 2 ha rfl hin hd (K p e s m args below meth c H locs A ls C hP hD hS hA hv)
theorem J_alenI (q0 : Nat) {a : Nat} {x : vp_A} {v : Int32} (ha : ws[q0]? = some (a, .inl (gI G, x))) (hv : Int32.ofNat x.1 = v) (hd : decode cc pc = .ok (.arraylength, 1)) (K : J G nm own cc nL ret mc ms d Q k n (pc + 1) lv (.int v :: st) ws) : J G nm own cc nL ret mc ms d Q k n pc lv (.ref a :: st) ws := by
  subst hv
  intro p e s m args below meth c H locs A ls C hP hD hS hA hv
  exact va_alen C.ex C.cb C.kk hP q0 0 ha rfl rfl hd (K p e s m args below meth c H locs A ls C hP hD hS hA hv)
theorem J_alenJ (q0 : Nat) {a : Nat} {x : vp_A} {v : Int32} (ha : ws[q0]? = some (a, .inl (gJ G, x))) (hv : Int32.ofNat x.1 = v) (hd : decode cc pc = .ok (.arraylength, 1)) (K : J G nm own cc nL ret mc ms d Q k n (pc + 1) lv (.int v :: st) ws) : J G nm own cc nL ret mc ms d Q k n pc lv (.ref a :: st) ws := by
  subst hv
  intro p e s m args below meth c H locs A ls C hP hD hS hA hv
  exact va_alen C.ex C.cb C.kk hP q0 1 ha rfl rfl hd (K p e s m args below meth c H locs A ls C hP hD hS hA hv)
theorem J_alenS (q0 : Nat) {a : Nat} {x : vp_A} {v : Int32} (ha : ws[q0]? = some (a, .inl (gS G, x))) (hv : Int32.ofNat x.1 = v) (hd : decode cc pc = .ok (.arraylength, 1)) (K : J G nm own cc nL ret mc ms d Q k n (pc + 1) lv (.int v :: st) ws) : J G nm own cc nL ret mc ms d Q k n pc lv (.ref a :: st) ws := by
  subst hv
  intro p e s m args below meth c H locs A ls C hP hD hS hA hv
  exact va_alen C.ex C.cb C.kk hP q0 2 ha rfl rfl hd (K p e s m args below meth c H locs A ls C hP hD hS hA hv)
end JHp
/-- System.arraycopy over two cells of ints (perhaps one) -/
theorem J_copyi {G : GT} {nm own : String} {cc : ByteArray} {nL : Nat} {ret : Option FieldType} {mc ms d : Nat} {Q : Option Value → va_W → Prop} {k n pc : Nat} {lv : List (Nat × Value)} {st : List Value} {ws : va_W}
    {index : Nat} (hw1 : Cond.methodLink own index arraycopyName ∈ TB) (hw2 : Cond.native arraycopyName ∈ TB) (hw3 : Cond.static arraycopyName ∈ TB) (hw4 : Cond.initialized "java/lang/System" ∈ TB) (q0 q1 : Nat) {a a0 N0 N1 : Nat} {f g : Nat → Int32} (ws2 : va_W)
    (ha0 : ws[q0]? = some (a0, .inl (gI G, N0, .inl f))) (ha1 : ws[q1]? = some (a, .inl (gI G, N1, .inl g))) {sp dp cn : Int32} (h1 : ¬ sp < 0) (h2 : ¬ dp < 0) (h3 : ¬ cn < 0) (h4 : sp.toNatClampNeg + cn.toNatClampNeg ≤ N0) (h5 : dp.toNatClampNeg + cn.toNatClampNeg ≤ N1)
    (hfr : 2 ≤ d) (hcat : (st.map fun v => v.category).sum ≤ 8) (hw : ws.set q1 (a, .inl (gI G, N1, .inl (va_cpy f g sp.toNatClampNeg dp.toNatClampNeg cn.toNatClampNeg))) = ws2) (hd : decode cc pc = .ok (.invokestatic index, 3))
    (K : J G nm own cc nL ret mc ms d Q k n (pc + 3) lv st ws2) : J G nm own cc nL ret mc ms d Q k n pc lv (.int cn :: .int dp :: .ref a :: .int sp :: .ref a0 :: st) ws := by
  subst hw
  intro p e s m args below meth c H locs A ls C hP hD hS hA hv
  refine va_copyi C.ex C.cb (C.ml.trans hv.1.symm) C.ow (C.ts _ hw1) (C.ts _ hw2) (C.ts _ hw3) (C.ts _ hw4) C.kk hP hD hS q0 q1 0 0 ha0 ha1 rfl rfl rfl h1 h2 h3 h4 h5 (fun _ _ => rfl) (by show 1 ≤ d; omega) ?_ hd (fun H locs hP hD hS => K p e s m args below meth c H locs A ls C hP hD hS hA hv)
  show _ ≤ 60 * d
  have : nativeFrameWords "java/lang/System" "arraycopy" 5 + 11 ≤ 100 := by decide +kernel
  omega
/-- behind a call of a method whose cells wc lie behind the others -/
theorem jc_core {G : GT} {p : Program} {e : Env} {R : Room} {s : State} {m : MethodId} {args : Array Value} {below : List Frame} {meth : Method} {c : Code} {H : Heap} {locs : List Loc} {k n mc ms pc : Nat} {Qf : State → Prop} {A : Nat → Prop} {ls : Array Slot} {st0 rest : List Value} {wr wc : va_W} {Q : Option Value → va_W → Prop} {a : Array Value}
    (hr : va_Run p G.1 e R s m args below meth c H locs k n mc ms (F0 m pc ls st0) rest (QJ G (va_A wc H.size) Q a) (va_A wc H.size)) (hP : va_P G.2.1 vwCl (wr ++ wc) H) (hD : va_D A (wr ++ wc)) (hS : va_S A s.heap H locs) (hA : ∀ q : Nat, s.heap.size ≤ q → A q)
    (kk : ∀ (v : Option Value) (w1 : va_W) (H1 : Heap) (locs1 : List Loc), Q v w1 → va_P G.2.1 vwCl (wr ++ w1) H1 → va_D A (wr ++ w1) → va_S A s.heap H1 locs1 → W p G.1 e R s m args below meth c H1 locs1 (k + mc) (n + ms) Qf (F0 m (pc + 3) ls (v.toList ++ rest))) : W p G.1 e R s m args below meth c H locs k n Qf (F0 m pc ls st0) := by
  intro T hT X
  obtain ⟨v, st₀, t, T', L, h0, X', hL, e1, e2, ⟨⟨v', w1, hv, hq, hP1, hD1⟩, hz, hk⟩, st⟩ := hr T hT X
  cases hv
  rw [h0] at hz hk
  have hF : ∀ q : Nat, va_A wc H.size q → A q := by
    intro q hq
    rcases hq with ⟨i, x, hi⟩ | hq
    · refine hD.2 (wr.length + i) (q, x) ?_
      rw [List.getElem?_append_right (Nat.le_add_right _ _), Nat.add_sub_cancel_left]
      exact hi
    · exact hA q (Nat.le_trans hS.1 hq)
  have apart : ∀ (i : Nat) (q : Nat × va_E), wr[i]? = some q → q.1 < H.size ∧ ¬ va_A wc H.size q.1 := by
    intro i q hi
    have hi2 : i < wr.length := (List.getElem?_eq_some_iff.mp hi).1
    have h1 : (wr ++ wc)[i]? = some q := by rw [List.getElem?_append_left hi2]; exact hi
    have hl := (hP i q h1).lt
    refine ⟨hl, fun h => ?_⟩
    rcases h with ⟨j, x, hj⟩ | h
    · have h2 : (wr ++ wc)[wr.length + j]? = some (q.1, x) := by
        rw [List.getElem?_append_right (Nat.le_add_right _ _), Nat.add_sub_cancel_left]
        exact hj
      have := hD.1 i (wr.length + j) q (q.1, x) h1 h2 rfl
      omega
    · omega
  have hP2 : va_P G.2.1 vwCl (wr ++ w1) T'.heap := by
    rw [e1]
    refine va_P.app (fun i q hi => ?_) hP1
    obtain ⟨g1, g2⟩ := apart i q hi
    have hi2 : i < wr.length := (List.getElem?_eq_some_iff.mp hi).1
    exact (hP i q (by rw [List.getElem?_append_left hi2]; exact hi)).kept (hk q.1 g1 g2)
  have hD2 : va_D A (wr ++ w1) := by
    refine va_D.app ⟨fun i j x y hx hy hxy => ?_, fun i x hx => ?_⟩ (hD1.weaken (fun _ q _ h => hF q.1 h)) (fun i j x y hx hy hxy => ?_)
    · have hi2 : i < wr.length := (List.getElem?_eq_some_iff.mp hx).1
      have hj2 : j < wr.length := (List.getElem?_eq_some_iff.mp hy).1
      exact hD.1 i j x y (by rw [List.getElem?_append_left hi2]; exact hx) (by rw [List.getElem?_append_left hj2]; exact hy) hxy
    · have hi2 : i < wr.length := (List.getElem?_eq_some_iff.mp hx).1
      exact hD.2 i x (by rw [List.getElem?_append_left hi2]; exact hx)
    · exact (apart i x hx).2 (by rw [hxy]; exact hD1.2 j y hy)
  obtain ⟨t2, a1, b1⟩ := kk v w1 T'.heap (locs ++ L) hq hP2 hD2
    ⟨Nat.le_trans hS.1 (by rw [e1]; exact hz), fun q h1 h2 => by rw [e1, hk q (Nat.lt_of_lt_of_le h1 hS.1) (fun z => h2 (hF q z))]; exact hS.2.1 q h1 h2, fun q hq => by
      rcases List.mem_append.mp hq with h | h
      · exact hS.2.2 q h
      · exact hF _ (hL q h)⟩ T' rfl X'
  exact ⟨t2, st t2 a1, b1⟩
def PcJ (G : GT) (as : List Value) (ws : va_W) (sz : Nat) : Array Value → State → Prop := va_Pc as (fun U => U.heap.size = sz ∧ va_P G.2.1 vwCl ws U.heap ∧ va_K G.2.1 vwCl (gT G) U ∧ va_D (fun _ => True) ws ∧ NW U)
theorem PcJ.blind (G : GT) (as : List Value) (ws : va_W) (sz : Nat) : FrameBlind (PcJ G as ws sz) := by
  intro a U g mk q
  obtain ⟨q0, q1, qP, qK, qD, qN⟩ := q
  exact ⟨q0, q1, qP, va_K.moved (u := U) (U := U.calling g mk a) (Vm.Alike.refl U.vm) qK, qD, NW.same (u := U) rfl qN⟩
theorem PcJ.now {G : GT} {as : List Value} {wr wc : va_W} {s : State} {H : Heap} {A : Nat → Prop} (hK : va_K G.2.1 vwCl (gT G) s) (hN : NW s) (hP : va_P G.2.1 vwCl (wr ++ wc) H) (hD : va_D A (wr ++ wc)) : ∀ U : State, U.heap = H → s.WarmedH U.vm → PcJ G as wc H.size as.toArray U := by
  intro U hU hW
  have hc : ∀ (i : Nat) (q : Nat × va_E), wc[i]? = some q → (wr ++ wc)[wr.length + i]? = some q := fun i q h => by
    rw [List.getElem?_append_right (Nat.le_add_right _ _), Nat.add_sub_cancel_left]; exact h
  refine ⟨rfl, by rw [hU], fun i q h => by rw [hU]; exact hP _ q (hc i q h), va_K.moved hW.alike hK, ⟨fun i j x y hx hy hxy => ?_, fun _ _ _ => trivial⟩, NW.warm hW hN⟩
  have := hD.1 _ _ x y (hc i x hx) (hc j y hy) hxy
  omega
def okY (y : MethodName) (np : Nat) : Bool := !(y.cls == "java/lang/invoke/MethodHandle") && (!(y.cls == "java/lang/invoke/VarHandle") && decide ((parseMethodDescriptor y.desc).map (fun d => d.parameters.length) = some np))
theorem okY.get {y : MethodName} {np : Nat} (h : okY y np = true) : y.cls ≠ "java/lang/invoke/MethodHandle" ∧ y.cls ≠ "java/lang/invoke/VarHandle" ∧ (parseMethodDescriptor y.desc).map (fun d => d.parameters.length) = some np := by
  simp only [okY, Bool.and_eq_true, Bool.not_eq_true', beq_eq_false_iff_ne, decide_eq_true_eq] at h
  exact h
/-- what a call's words are: static; static of a nest mate; virtual; virtual, by another's name; a constructor; a nest mate's constructor -/
def MS (own : String) (index : Nat) (y : MethodName) (b : ByteArray) (nb : Nat) (r : Option FieldType) (np : Nat) : Prop := Cond.code y b nb r ∈ TB ∧ Cond.methodLink own index y ∈ TB ∧ Cond.static y ∈ TB ∧ Cond.initialized y.cls ∈ TB ∧ okY y np = true ∧ nb ≤ 41
def MN (own : String) (index : Nat) (y : MethodName) (b : ByteArray) (nb : Nat) (r : Option FieldType) (np : Nat) : Prop := Cond.code y b nb r ∈ TB ∧ (∃ host, (own, index, y, host) ∈ nwl) ∧ Cond.static y ∈ TB ∧ Cond.initialized y.cls ∈ TB ∧ okY y np = true ∧ nb ≤ 41
def MV (own : String) (index ci : Nat) (y : MethodName) (b : ByteArray) (nb : Nat) (r : Option FieldType) (np : Nat) : Prop := Cond.code y b nb r ∈ TB ∧ Cond.methodLink own index y ∈ TB ∧ Cond.instanceMethod y ∈ TB ∧ (∃ (T : u_T) (N : Nat), vwCl[ci]? = some (y.cls, T, N)) ∧ Cond.selects y.cls y y ∈ TB ∧ Cond.initialized y.cls ∈ TB ∧ okY y np = true ∧ nb ≤ 41
def MU (own : String) (index ci : Nat) (x y : MethodName) (b : ByteArray) (nb : Nat) (r : Option FieldType) (np : Nat) : Prop := ∃ (C owner : String) (T : u_T) (N : Nat), vwCl[ci]? = some (C, T, N) ∧ Cond.code y b nb r ∈ TB ∧ Cond.methodLink own index x ∈ TB ∧ Cond.sameMethod x.cls owner x.name x.desc ∈ TB ∧ Cond.selects C x y ∈ TB ∧ Cond.instanceMethod y ∈ TB ∧ Cond.initialized y.cls ∈ TB ∧ (y = ⟨owner, x.name, x.desc⟩ ∨ (⟨owner, x.name, x.desc⟩ : MethodName) ∈ ndl) ∧ okY ⟨owner, x.name, x.desc⟩ np = true ∧ nb ≤ 41
def MI (own : String) (index : Nat) (y : MethodName) (b : ByteArray) (nb : Nat) (np : Nat) : Prop := Cond.code y b nb none ∈ TB ∧ Cond.methodLink own index y ∈ TB ∧ Cond.instanceMethod y ∈ TB ∧ y.name = "<init>" ∧ Cond.initialized y.cls ∈ TB ∧ okY y np = true ∧ nb ≤ 41
def MIN (own : String) (index : Nat) (y : MethodName) (b : ByteArray) (nb : Nat) (np : Nat) : Prop := Cond.code y b nb none ∈ TB ∧ (∃ host, (own, index, y, host) ∈ nwl) ∧ Cond.instanceMethod y ∈ TB ∧ y.name = "<init>" ∧ Cond.initialized y.cls ∈ TB ∧ okY y np = true ∧ nb ≤ 41
section JCall
variable {G : GT} {nm own : String} {cc : ByteArray} {nL : Nat} {ret : Option FieldType} {mc ms d : Nat} {Q : Option Value → va_W → Prop} {k n pc : Nat} {lv : List (Nat × Value)} {st st0 : List Value} {ws wr wc : va_W} {index np nb d2 mc2 ms2 ci : Nat} {x y : MethodName} {b : ByteArray} {r : Option FieldType} {As : List Value} {Q2 : Option Value → va_W → Prop}
theorem room_ok {nb d2 d : Nat} (h : nb ≤ 41) (hd : d2 + 1 ≤ d) (mc2 ms2 mc ms : Nat) : (rmJ d2 mc2 ms2).frames + 1 ≤ (rmJ d mc ms).frames ∧ 8 + (nb + 11) + (rmJ d2 mc2 ms2).locals ≤ (rmJ d mc ms).locals := by
  constructor
  · show d2 + 1 ≤ d; exact hd
  · show 8 + (nb + 11) + 60 * d2 ≤ 60 * d; omega
theorem J_callS (hM : MS own index y b nb r np) (hC : Ct G y b nb r mc2 ms2 d2 As wc Q2) (hl : As.length = np) (hst : st0 = As.reverse ++ st) (hws : ws = wr ++ wc) (hdd : d2 + 1 ≤ d) (hcat : (st.map fun v => v.category).sum ≤ 8) (hcm : k + mc2 ≤ mc ∧ n + ms2 ≤ ms) (hd : decode cc pc = .ok (.invokestatic index, 3))
    (K : ∀ (v : Option Value) (w1 : va_W), Q2 v w1 → J G nm own cc nL ret mc ms d Q (k + mc2) (n + ms2) (pc + 3) lv (v.toList ++ st) (wr ++ w1)) : J G nm own cc nL ret mc ms d Q k n pc lv st0 ws := by
  subst hst; subst hws
  intro p e s m args below meth c H locs A ls C hP hD hS hA hv
  obtain ⟨h1, h2, h3, h4, h5, h6⟩ := hM
  have cb := callB_of (R := rmJ d mc ms) (rm := rmJ d2 mc2 ms2) (mc := mc2) (ms := ms2) np C.ts (cwJ_good h1) rfl rfl rfl (C.ts _ h4) (C.ts _ h2) (okY.get h5) (room_ok h6 hdd mc2 ms2 mc ms)
  exact jc_core (va_runS (As := As) (rest := st) ⟨C.ex, C.cb, C.ml, C.ow, C.ts⟩ (hC H.size) ⟨cb, C.ts _ h3⟩ ⟨PcJ.blind G As wc H.size, PcJ.now C.kk C.nw hP hD⟩ rfl hl hv.1 rfl (lv_room hcat) hd hcm) hP hD hS hA
    (fun v w1 H1 locs1 hq hP1 hD1 hS1 => K v w1 hq p e s m args below meth c H1 locs1 A ls C hP1 hD1 hS1 hA hv)
theorem J_callN (hM : MN own index y b nb r np) (hC : Ct G y b nb r mc2 ms2 d2 As wc Q2) (hl : As.length = np) (hst : st0 = As.reverse ++ st) (hws : ws = wr ++ wc) (hdd : d2 + 1 ≤ d) (hcat : (st.map fun v => v.category).sum ≤ 8) (hcm : k + mc2 ≤ mc ∧ n + ms2 ≤ ms) (hd : decode cc pc = .ok (.invokestatic index, 3))
    (K : ∀ (v : Option Value) (w1 : va_W), Q2 v w1 → J G nm own cc nL ret mc ms d Q (k + mc2) (n + ms2) (pc + 3) lv (v.toList ++ st) (wr ++ w1)) : J G nm own cc nL ret mc ms d Q k n pc lv st0 ws := by
  subst hst; subst hws
  intro p e s m args below meth c H locs A ls C hP hD hS hA hv
  obtain ⟨h1, ⟨host, h2⟩, h3, h4, h5, h6⟩ := hM
  have cb := va_cnB (R := rmJ d mc ms) (rm := rmJ d2 mc2 ms2) (mc := mc2) (ms := ms2) np C.ts (cwJ_good h1) rfl rfl rfl (C.nw.1 _ h2) (C.ts _ h4) (okY.get h5) (room_ok h6 hdd mc2 ms2 mc ms)
  exact jc_core (va_runSN (As := As) (rest := st) ⟨C.ex, C.cb, C.ml, C.ow, C.ts⟩ (hC H.size) ⟨cb, C.ts _ h3, trivial⟩ ⟨PcJ.blind G As wc H.size, PcJ.now C.kk C.nw hP hD⟩ rfl hl hv.1 rfl (lv_room hcat) hd hcm) hP hD hS hA
    (fun v w1 H1 locs1 hq hP1 hD1 hS1 => K v w1 hq p e s m args below meth c H1 locs1 A ls C hP1 hD1 hS1 hA hv)
theorem J_callV {a : Nat} (q0 : Nat) {fs : List Value} (hM : MV own index ci y b nb r np) (hC : Ct G y b nb r mc2 ms2 d2 (.ref a :: As) wc Q2) (he : ws[q0]? = some (a, .inr (ci, fs))) (hl : As.length = np) (hst : st0 = As.reverse ++ .ref a :: st) (hws : ws = wr ++ wc) (hdd : d2 + 1 ≤ d) (hcat : (st.map fun v => v.category).sum ≤ 8) (hcm : k + mc2 ≤ mc ∧ n + ms2 ≤ ms) (hd : decode cc pc = .ok (.invokevirtual index, 3))
    (K : ∀ (v : Option Value) (w1 : va_W), Q2 v w1 → J G nm own cc nL ret mc ms d Q (k + mc2) (n + ms2) (pc + 3) lv (v.toList ++ st) (wr ++ w1)) : J G nm own cc nL ret mc ms d Q k n pc lv st0 ws := by
  subst hst; subst hws
  intro p e s m args below meth c H locs A ls C hP hD hS hA hv
  obtain ⟨h1, h2, h3, ⟨T, N, h4⟩, h7, h8, h5, h6⟩ := hM
  have cb := callB_of (R := rmJ d mc ms) (rm := rmJ d2 mc2 ms2) (mc := mc2) (ms := ms2) np C.ts (cwJ_good h1) rfl rfl rfl (C.ts _ h8) (C.ts _ h2) (okY.get h5) (room_ok h6 hdd mc2 ms2 mc ms)
  exact jc_core (va_runV (As := As) (rest := st) ⟨C.ex, C.cb, C.ml, C.ow, C.ts⟩ (hC H.size) ⟨cb, C.ts _ h3, C.ts _ h7⟩ ⟨PcJ.blind G (.ref a :: As) wc H.size, va_recv C.kk hP h4 he, PcJ.now C.kk C.nw hP hD⟩ rfl hl hv.1 rfl (lv_room hcat) hd hcm) hP hD hS hA
    (fun v w1 H1 locs1 hq hP1 hD1 hS1 => K v w1 hq p e s m args below meth c H1 locs1 A ls C hP1 hD1 hS1 hA hv)
theorem J_callU {a : Nat} (q0 : Nat) {fs : List Value} (hM : MU own index ci x y b nb r np) (hC : Ct G y b nb r mc2 ms2 d2 (.ref a :: As) wc Q2) (he : ws[q0]? = some (a, .inr (ci, fs))) (hl : As.length = np) (hst : st0 = As.reverse ++ .ref a :: st) (hws : ws = wr ++ wc) (hdd : d2 + 1 ≤ d) (hcat : (st.map fun v => v.category).sum ≤ 8) (hcm : k + mc2 ≤ mc ∧ n + ms2 ≤ ms) (hd : decode cc pc = .ok (.invokevirtual index, 3))
    (K : ∀ (v : Option Value) (w1 : va_W), Q2 v w1 → J G nm own cc nL ret mc ms d Q (k + mc2) (n + ms2) (pc + 3) lv (v.toList ++ st) (wr ++ w1)) : J G nm own cc nL ret mc ms d Q k n pc lv st0 ws := by
  subst hst; subst hws
  intro p e s m args below meth c H locs A ls C hP hD hS hA hv
  obtain ⟨Cn, owner, T, N, h4, h1, h2, h9, h7, h3, h8, h10, h5, h6⟩ := hM
  have hT : GoodIn TB (va_wsU own index Cn owner x y (cwJ y b nb r)) := by
    unfold va_wsU
    refine goodIn_app (goodIn_mem (fun w hw => ?_)) (cwJ_good h1)
    simp only [List.mem_cons, List.not_mem_nil, or_false] at hw
    rcases hw with rfl | rfl | rfl | rfl | rfl <;> assumption
  have cb : va_CU (rmJ d mc ms) s args own Cn owner index x y b nb r (cwJ y b nb r) (rmJ d2 mc2 ms2) mc2 ms2 np := by
    rcases h10 with h10 | h10
    · exact va_cwU np C.ts hT rfl rfl rfl h10 (okY.get h5) (room_ok h6 hdd mc2 ms2 mc ms)
    · exact va_cwA np C.ts hT rfl rfl rfl (C.nw.2.1 _ h10) (okY.get h5) (room_ok h6 hdd mc2 ms2 mc ms)
  exact jc_core (va_runU (As := As) (rest := st) ⟨C.ex, C.cb, C.ml, C.ow, C.ts⟩ (hC H.size) cb ⟨PcJ.blind G (.ref a :: As) wc H.size, va_recv C.kk hP h4 he, PcJ.now C.kk C.nw hP hD⟩ rfl hl hv.1 rfl (lv_room hcat) hd hcm) hP hD hS hA
    (fun v w1 H1 locs1 hq hP1 hD1 hS1 => K v w1 hq p e s m args below meth c H1 locs1 A ls C hP1 hD1 hS1 hA hv)
theorem J_callI {a : Nat} (hM : MI own index y b nb np) (hC : Ct G y b nb none mc2 ms2 d2 (.ref a :: As) wc Q2) (hl : As.length = np) (hst : st0 = As.reverse ++ .ref a :: st) (hws : ws = wr ++ wc) (hdd : d2 + 1 ≤ d) (hcat : (st.map fun v => v.category).sum ≤ 8) (hcm : k + mc2 ≤ mc ∧ n + ms2 ≤ ms) (hd : decode cc pc = .ok (.invokespecial index, 3))
    (K : ∀ (v : Option Value) (w1 : va_W), Q2 v w1 → J G nm own cc nL ret mc ms d Q (k + mc2) (n + ms2) (pc + 3) lv (v.toList ++ st) (wr ++ w1)) : J G nm own cc nL ret mc ms d Q k n pc lv st0 ws := by
  subst hst; subst hws
  intro p e s m args below meth c H locs A ls C hP hD hS hA hv
  obtain ⟨h1, h2, h3, h4, h8, h5, h6⟩ := hM
  have cb := callB_of (R := rmJ d mc ms) (rm := rmJ d2 mc2 ms2) (mc := mc2) (ms := ms2) np C.ts (cwJ_good h1) rfl rfl rfl (C.ts _ h8) (C.ts _ h2) (okY.get h5) (room_ok h6 hdd mc2 ms2 mc ms)
  exact jc_core (va_runI (As := As) (rest := st) ⟨C.ex, C.cb, C.ml, C.ow, C.ts⟩ (hC H.size) ⟨cb, h4, C.ts _ h3⟩ ⟨PcJ.blind G (.ref a :: As) wc H.size, PcJ.now C.kk C.nw hP hD⟩ rfl hl hv.1 rfl (lv_room hcat) hd hcm) hP hD hS hA
    (fun v w1 H1 locs1 hq hP1 hD1 hS1 => K v w1 hq p e s m args below meth c H1 locs1 A ls C hP1 hD1 hS1 hA hv)
theorem J_callIN {a : Nat} (hM : MIN own index y b nb np) (hC : Ct G y b nb none mc2 ms2 d2 (.ref a :: As) wc Q2) (hl : As.length = np) (hst : st0 = As.reverse ++ .ref a :: st) (hws : ws = wr ++ wc) (hdd : d2 + 1 ≤ d) (hcat : (st.map fun v => v.category).sum ≤ 8) (hcm : k + mc2 ≤ mc ∧ n + ms2 ≤ ms) (hd : decode cc pc = .ok (.invokespecial index, 3))
    (K : ∀ (v : Option Value) (w1 : va_W), Q2 v w1 → J G nm own cc nL ret mc ms d Q (k + mc2) (n + ms2) (pc + 3) lv (v.toList ++ st) (wr ++ w1)) : J G nm own cc nL ret mc ms d Q k n pc lv st0 ws := by
  subst hst; subst hws
  intro p e s m args below meth c H locs A ls C hP hD hS hA hv
  obtain ⟨h1, ⟨host, h2⟩, h3, h4, h8, h5, h6⟩ := hM
  have cb := va_cnB (R := rmJ d mc ms) (rm := rmJ d2 mc2 ms2) (mc := mc2) (ms := ms2) np C.ts (cwJ_good h1) rfl rfl rfl (C.nw.1 _ h2) (C.ts _ h8) (okY.get h5) (room_ok h6 hdd mc2 ms2 mc ms)
  exact jc_core (va_runIN (As := As) (rest := st) ⟨C.ex, C.cb, C.ml, C.ow, C.ts⟩ (hC H.size) ⟨cb, h4, C.ts _ h3⟩ ⟨PcJ.blind G (.ref a :: As) wc H.size, PcJ.now C.kk C.nw hP hD⟩ rfl hl hv.1 rfl (lv_room hcat) hd hcm) hP hD hS hA
    (fun v w1 H1 locs1 hq hP1 hD1 hS1 => K v w1 hq p e s m args below meth c H1 locs1 A ls C hP1 hD1 hS1 hA hv)
end JCall
/-- the answer and the cells are just these -/
def Is (r : Option Value) (w : va_W) : Option Value → va_W → Prop := fun v u => v = r ∧ u = w
theorem Is.rf (r : Option Value) (w : va_W) : Is r w r w := ⟨rfl, rfl⟩
theorem J_cSi {G : GT} {nm own : String} {cc : ByteArray} {nL : Nat} {ret : Option FieldType} {mc ms d : Nat} {Q : Option Value → va_W → Prop} {k n pc : Nat} {lv : List (Nat × Value)} {st st0 : List Value} {ws : va_W} {index np nb d2 : Nat} {y : MethodName} {b : ByteArray} {r : Option FieldType} (As : List Value) {x0 : Int32} {ws2 : va_W} (hM : MS own index y b nb r np) (hC : Ct G y b nb r 0 0 d2 As ws (Is (some (.int x0)) ws2)) (hl : As.length = np) (hst : st0 = As.reverse ++ st) (hdd : d2 + 1 ≤ d) (hcat : (st.map fun v => v.category).sum ≤ 8) (hcm : k ≤ mc ∧ n ≤ ms) (hd : decode cc pc = .ok (.invokestatic index, 3)) (K : J G nm own cc nL ret mc ms d Q k n (pc + 3) lv (.int x0 :: st) ws2) : J G nm own cc nL ret mc ms d Q k n pc lv st0 ws :=
  J_callS (wr := []) hM hC hl hst rfl hdd hcat hcm hd (fun v w1 h => by obtain ⟨rfl, rfl⟩ := h; exact K)
theorem J_cNi {G : GT} {nm own : String} {cc : ByteArray} {nL : Nat} {ret : Option FieldType} {mc ms d : Nat} {Q : Option Value → va_W → Prop} {k n pc : Nat} {lv : List (Nat × Value)} {st st0 : List Value} {ws : va_W} {index np nb d2 : Nat} {y : MethodName} {b : ByteArray} {r : Option FieldType} (As : List Value) {x0 : Int32} {ws2 : va_W} (hM : MN own index y b nb r np) (hC : Ct G y b nb r 0 0 d2 As ws (Is (some (.int x0)) ws2)) (hl : As.length = np) (hst : st0 = As.reverse ++ st) (hdd : d2 + 1 ≤ d) (hcat : (st.map fun v => v.category).sum ≤ 8) (hcm : k ≤ mc ∧ n ≤ ms) (hd : decode cc pc = .ok (.invokestatic index, 3)) (K : J G nm own cc nL ret mc ms d Q k n (pc + 3) lv (.int x0 :: st) ws2) : J G nm own cc nL ret mc ms d Q k n pc lv st0 ws :=
  J_callN (wr := []) hM hC hl hst rfl hdd hcat hcm hd (fun v w1 h => by obtain ⟨rfl, rfl⟩ := h; exact K)
theorem J_cVi {G : GT} {nm own : String} {cc : ByteArray} {nL : Nat} {ret : Option FieldType} {mc ms d : Nat} {Q : Option Value → va_W → Prop} {k n pc : Nat} {lv : List (Nat × Value)} {st st0 : List Value} {ws : va_W} {index np nb d2 : Nat} {y : MethodName} {b : ByteArray} {r : Option FieldType} {x : MethodName} {ci a : Nat} {fs : List Value} (As : List Value) {x0 : Int32} {ws2 : va_W} (q0 : Nat) (hM : MV own index ci y b nb r np) (hC : Ct G y b nb r 0 0 d2 (.ref a :: As) ws (Is (some (.int x0)) ws2)) (he : ws[q0]? = some (a, .inr (ci, fs))) (hl : As.length = np) (hst : st0 = As.reverse ++ .ref a :: st) (hdd : d2 + 1 ≤ d) (hcat : (st.map fun v => v.category).sum ≤ 8) (hcm : k ≤ mc ∧ n ≤ ms) (hd : decode cc pc = .ok (.invokevirtual index, 3)) (K : J G nm own cc nL ret mc ms d Q k n (pc + 3) lv (.int x0 :: st) ws2) : J G nm own cc nL ret mc ms d Q k n pc lv st0 ws :=
  J_callV (wr := []) q0 hM hC he hl hst rfl hdd hcat hcm hd (fun v w1 h => by obtain ⟨rfl, rfl⟩ := h; exact K)
theorem J_cUi {G : GT} {nm own : String} {cc : ByteArray} {nL : Nat} {ret : Option FieldType} {mc ms d : Nat} {Q : Option Value → va_W → Prop} {k n pc : Nat} {lv : List (Nat × Value)} {st st0 : List Value} {ws : va_W} {index np nb d2 : Nat} {y : MethodName} {b : ByteArray} {r : Option FieldType} {x : MethodName} {ci a : Nat} {fs : List Value} (As : List Value) {x0 : Int32} {ws2 : va_W} (q0 : Nat) (hM : MU own index ci x y b nb r np) (hC : Ct G y b nb r 0 0 d2 (.ref a :: As) ws (Is (some (.int x0)) ws2)) (he : ws[q0]? = some (a, .inr (ci, fs))) (hl : As.length = np) (hst : st0 = As.reverse ++ .ref a :: st) (hdd : d2 + 1 ≤ d) (hcat : (st.map fun v => v.category).sum ≤ 8) (hcm : k ≤ mc ∧ n ≤ ms) (hd : decode cc pc = .ok (.invokevirtual index, 3)) (K : J G nm own cc nL ret mc ms d Q k n (pc + 3) lv (.int x0 :: st) ws2) : J G nm own cc nL ret mc ms d Q k n pc lv st0 ws :=
  J_callU (wr := []) q0 hM hC he hl hst rfl hdd hcat hcm hd (fun v w1 h => by obtain ⟨rfl, rfl⟩ := h; exact K)
theorem J_cSl {G : GT} {nm own : String} {cc : ByteArray} {nL : Nat} {ret : Option FieldType} {mc ms d : Nat} {Q : Option Value → va_W → Prop} {k n pc : Nat} {lv : List (Nat × Value)} {st st0 : List Value} {ws : va_W} {index np nb d2 : Nat} {y : MethodName} {b : ByteArray} {r : Option FieldType} (As : List Value) {x0 : Int64} {ws2 : va_W} (hM : MS own index y b nb r np) (hC : Ct G y b nb r 0 0 d2 As ws (Is (some (.long x0)) ws2)) (hl : As.length = np) (hst : st0 = As.reverse ++ st) (hdd : d2 + 1 ≤ d) (hcat : (st.map fun v => v.category).sum ≤ 8) (hcm : k ≤ mc ∧ n ≤ ms) (hd : decode cc pc = .ok (.invokestatic index, 3)) (K : J G nm own cc nL ret mc ms d Q k n (pc + 3) lv (.long x0 :: st) ws2) : J G nm own cc nL ret mc ms d Q k n pc lv st0 ws :=
  J_callS (wr := []) hM hC hl hst rfl hdd hcat hcm hd (fun v w1 h => by obtain ⟨rfl, rfl⟩ := h; exact K)
theorem J_cNl {G : GT} {nm own : String} {cc : ByteArray} {nL : Nat} {ret : Option FieldType} {mc ms d : Nat} {Q : Option Value → va_W → Prop} {k n pc : Nat} {lv : List (Nat × Value)} {st st0 : List Value} {ws : va_W} {index np nb d2 : Nat} {y : MethodName} {b : ByteArray} {r : Option FieldType} (As : List Value) {x0 : Int64} {ws2 : va_W} (hM : MN own index y b nb r np) (hC : Ct G y b nb r 0 0 d2 As ws (Is (some (.long x0)) ws2)) (hl : As.length = np) (hst : st0 = As.reverse ++ st) (hdd : d2 + 1 ≤ d) (hcat : (st.map fun v => v.category).sum ≤ 8) (hcm : k ≤ mc ∧ n ≤ ms) (hd : decode cc pc = .ok (.invokestatic index, 3)) (K : J G nm own cc nL ret mc ms d Q k n (pc + 3) lv (.long x0 :: st) ws2) : J G nm own cc nL ret mc ms d Q k n pc lv st0 ws :=
  J_callN (wr := []) hM hC hl hst rfl hdd hcat hcm hd (fun v w1 h => by obtain ⟨rfl, rfl⟩ := h; exact K)
theorem J_cVl {G : GT} {nm own : String} {cc : ByteArray} {nL : Nat} {ret : Option FieldType} {mc ms d : Nat} {Q : Option Value → va_W → Prop} {k n pc : Nat} {lv : List (Nat × Value)} {st st0 : List Value} {ws : va_W} {index np nb d2 : Nat} {y : MethodName} {b : ByteArray} {r : Option FieldType} {x : MethodName} {ci a : Nat} {fs : List Value} (As : List Value) {x0 : Int64} {ws2 : va_W} (q0 : Nat) (hM : MV own index ci y b nb r np) (hC : Ct G y b nb r 0 0 d2 (.ref a :: As) ws (Is (some (.long x0)) ws2)) (he : ws[q0]? = some (a, .inr (ci, fs))) (hl : As.length = np) (hst : st0 = As.reverse ++ .ref a :: st) (hdd : d2 + 1 ≤ d) (hcat : (st.map fun v => v.category).sum ≤ 8) (hcm : k ≤ mc ∧ n ≤ ms) (hd : decode cc pc = .ok (.invokevirtual index, 3)) (K : J G nm own cc nL ret mc ms d Q k n (pc + 3) lv (.long x0 :: st) ws2) : J G nm own cc nL ret mc ms d Q k n pc lv st0 ws :=
  J_callV (wr := []) q0 hM hC he hl hst rfl hdd hcat hcm hd (fun v w1 h => by obtain ⟨rfl, rfl⟩ := h; exact K)
theorem J_cUl {G : GT} {nm own : String} {cc : ByteArray} {nL : Nat} {ret : Option FieldType} {mc ms d : Nat} {Q : Option Value → va_W → Prop} {k n pc : Nat} {lv : List (Nat × Value)} {st st0 : List Value} {ws : va_W} {index np nb d2 : Nat} {y : MethodName} {b : ByteArray} {r : Option FieldType} {x : MethodName} {ci a : Nat} {fs : List Value} (As : List Value) {x0 : Int64} {ws2 : va_W} (q0 : Nat) (hM : MU own index ci x y b nb r np) (hC : Ct G y b nb r 0 0 d2 (.ref a :: As) ws (Is (some (.long x0)) ws2)) (he : ws[q0]? = some (a, .inr (ci, fs))) (hl : As.length = np) (hst : st0 = As.reverse ++ .ref a :: st) (hdd : d2 + 1 ≤ d) (hcat : (st.map fun v => v.category).sum ≤ 8) (hcm : k ≤ mc ∧ n ≤ ms) (hd : decode cc pc = .ok (.invokevirtual index, 3)) (K : J G nm own cc nL ret mc ms d Q k n (pc + 3) lv (.long x0 :: st) ws2) : J G nm own cc nL ret mc ms d Q k n pc lv st0 ws :=
  J_callU (wr := []) q0 hM hC he hl hst rfl hdd hcat hcm hd (fun v w1 h => by obtain ⟨rfl, rfl⟩ := h; exact K)
theorem J_cSv {G : GT} {nm own : String} {cc : ByteArray} {nL : Nat} {ret : Option FieldType} {mc ms d : Nat} {Q : Option Value → va_W → Prop} {k n pc : Nat} {lv : List (Nat × Value)} {st st0 : List Value} {ws : va_W} {index np nb d2 : Nat} {y : MethodName} {b : ByteArray} {r : Option FieldType} (As : List Value)  {ws2 : va_W} (hM : MS own index y b nb r np) (hC : Ct G y b nb r 0 0 d2 As ws (Is none ws2)) (hl : As.length = np) (hst : st0 = As.reverse ++ st) (hdd : d2 + 1 ≤ d) (hcat : (st.map fun v => v.category).sum ≤ 8) (hcm : k ≤ mc ∧ n ≤ ms) (hd : decode cc pc = .ok (.invokestatic index, 3)) (K : J G nm own cc nL ret mc ms d Q k n (pc + 3) lv st ws2) : J G nm own cc nL ret mc ms d Q k n pc lv st0 ws :=
  J_callS (wr := []) hM hC hl hst rfl hdd hcat hcm hd (fun v w1 h => by obtain ⟨rfl, rfl⟩ := h; exact K)
theorem J_cNv {G : GT} {nm own : String} {cc : ByteArray} {nL : Nat} {ret : Option FieldType} {mc ms d : Nat} {Q : Option Value → va_W → Prop} {k n pc : Nat} {lv : List (Nat × Value)} {st st0 : List Value} {ws : va_W} {index np nb d2 : Nat} {y : MethodName} {b : ByteArray} {r : Option FieldType} (As : List Value)  {ws2 : va_W} (hM : MN own index y b nb r np) (hC : Ct G y b nb r 0 0 d2 As ws (Is none ws2)) (hl : As.length = np) (hst : st0 = As.reverse ++ st) (hdd : d2 + 1 ≤ d) (hcat : (st.map fun v => v.category).sum ≤ 8) (hcm : k ≤ mc ∧ n ≤ ms) (hd : decode cc pc = .ok (.invokestatic index, 3)) (K : J G nm own cc nL ret mc ms d Q k n (pc + 3) lv st ws2) : J G nm own cc nL ret mc ms d Q k n pc lv st0 ws :=
  J_callN (wr := []) hM hC hl hst rfl hdd hcat hcm hd (fun v w1 h => by obtain ⟨rfl, rfl⟩ := h; exact K)
theorem J_cVv {G : GT} {nm own : String} {cc : ByteArray} {nL : Nat} {ret : Option FieldType} {mc ms d : Nat} {Q : Option Value → va_W → Prop} {k n pc : Nat} {lv : List (Nat × Value)} {st st0 : List Value} {ws : va_W} {index np nb d2 : Nat} {y : MethodName} {b : ByteArray} {r : Option FieldType} {x : MethodName} {ci a : Nat} {fs : List Value} (As : List Value)  {ws2 : va_W} (q0 : Nat) (hM : MV own index ci y b nb r np) (hC : Ct G y b nb r 0 0 d2 (.ref a :: As) ws (Is none ws2)) (he : ws[q0]? = some (a, .inr (ci, fs))) (hl : As.length = np) (hst : st0 = As.reverse ++ .ref a :: st) (hdd : d2 + 1 ≤ d) (hcat : (st.map fun v => v.category).sum ≤ 8) (hcm : k ≤ mc ∧ n ≤ ms) (hd : decode cc pc = .ok (.invokevirtual index, 3)) (K : J G nm own cc nL ret mc ms d Q k n (pc + 3) lv st ws2) : J G nm own cc nL ret mc ms d Q k n pc lv st0 ws :=
  J_callV (wr := []) q0 hM hC he hl hst rfl hdd hcat hcm hd (fun v w1 h => by obtain ⟨rfl, rfl⟩ := h; exact K)
theorem J_cUv {G : GT} {nm own : String} {cc : ByteArray} {nL : Nat} {ret : Option FieldType} {mc ms d : Nat} {Q : Option Value → va_W → Prop} {k n pc : Nat} {lv : List (Nat × Value)} {st st0 : List Value} {ws : va_W} {index np nb d2 : Nat} {y : MethodName} {b : ByteArray} {r : Option FieldType} {x : MethodName} {ci a : Nat} {fs : List Value} (As : List Value)  {ws2 : va_W} (q0 : Nat) (hM : MU own index ci x y b nb r np) (hC : Ct G y b nb r 0 0 d2 (.ref a :: As) ws (Is none ws2)) (he : ws[q0]? = some (a, .inr (ci, fs))) (hl : As.length = np) (hst : st0 = As.reverse ++ .ref a :: st) (hdd : d2 + 1 ≤ d) (hcat : (st.map fun v => v.category).sum ≤ 8) (hcm : k ≤ mc ∧ n ≤ ms) (hd : decode cc pc = .ok (.invokevirtual index, 3)) (K : J G nm own cc nL ret mc ms d Q k n (pc + 3) lv st ws2) : J G nm own cc nL ret mc ms d Q k n pc lv st0 ws :=
  J_callU (wr := []) q0 hM hC he hl hst rfl hdd hcat hcm hd (fun v w1 h => by obtain ⟨rfl, rfl⟩ := h; exact K)
theorem J_cSr {G : GT} {nm own : String} {cc : ByteArray} {nL : Nat} {ret : Option FieldType} {mc ms d : Nat} {Q : Option Value → va_W → Prop} {k n pc : Nat} {lv : List (Nat × Value)} {st st0 : List Value} {ws : va_W} {index np nb d2 : Nat} {y : MethodName} {b : ByteArray} {r : Option FieldType} (As : List Value) {x0 : Nat} {ws2 : va_W} (hM : MS own index y b nb r np) (hC : Ct G y b nb r 0 0 d2 As ws (Is (some (.ref x0)) ws2)) (hl : As.length = np) (hst : st0 = As.reverse ++ st) (hdd : d2 + 1 ≤ d) (hcat : (st.map fun v => v.category).sum ≤ 8) (hcm : k ≤ mc ∧ n ≤ ms) (hd : decode cc pc = .ok (.invokestatic index, 3)) (K : J G nm own cc nL ret mc ms d Q k n (pc + 3) lv (.ref x0 :: st) ws2) : J G nm own cc nL ret mc ms d Q k n pc lv st0 ws :=
  J_callS (wr := []) hM hC hl hst rfl hdd hcat hcm hd (fun v w1 h => by obtain ⟨rfl, rfl⟩ := h; exact K)
theorem J_cNr {G : GT} {nm own : String} {cc : ByteArray} {nL : Nat} {ret : Option FieldType} {mc ms d : Nat} {Q : Option Value → va_W → Prop} {k n pc : Nat} {lv : List (Nat × Value)} {st st0 : List Value} {ws : va_W} {index np nb d2 : Nat} {y : MethodName} {b : ByteArray} {r : Option FieldType} (As : List Value) {x0 : Nat} {ws2 : va_W} (hM : MN own index y b nb r np) (hC : Ct G y b nb r 0 0 d2 As ws (Is (some (.ref x0)) ws2)) (hl : As.length = np) (hst : st0 = As.reverse ++ st) (hdd : d2 + 1 ≤ d) (hcat : (st.map fun v => v.category).sum ≤ 8) (hcm : k ≤ mc ∧ n ≤ ms) (hd : decode cc pc = .ok (.invokestatic index, 3)) (K : J G nm own cc nL ret mc ms d Q k n (pc + 3) lv (.ref x0 :: st) ws2) : J G nm own cc nL ret mc ms d Q k n pc lv st0 ws :=
  J_callN (wr := []) hM hC hl hst rfl hdd hcat hcm hd (fun v w1 h => by obtain ⟨rfl, rfl⟩ := h; exact K)
theorem J_cVr {G : GT} {nm own : String} {cc : ByteArray} {nL : Nat} {ret : Option FieldType} {mc ms d : Nat} {Q : Option Value → va_W → Prop} {k n pc : Nat} {lv : List (Nat × Value)} {st st0 : List Value} {ws : va_W} {index np nb d2 : Nat} {y : MethodName} {b : ByteArray} {r : Option FieldType} {x : MethodName} {ci a : Nat} {fs : List Value} (As : List Value) {x0 : Nat} {ws2 : va_W} (q0 : Nat) (hM : MV own index ci y b nb r np) (hC : Ct G y b nb r 0 0 d2 (.ref a :: As) ws (Is (some (.ref x0)) ws2)) (he : ws[q0]? = some (a, .inr (ci, fs))) (hl : As.length = np) (hst : st0 = As.reverse ++ .ref a :: st) (hdd : d2 + 1 ≤ d) (hcat : (st.map fun v => v.category).sum ≤ 8) (hcm : k ≤ mc ∧ n ≤ ms) (hd : decode cc pc = .ok (.invokevirtual index, 3)) (K : J G nm own cc nL ret mc ms d Q k n (pc + 3) lv (.ref x0 :: st) ws2) : J G nm own cc nL ret mc ms d Q k n pc lv st0 ws :=
  J_callV (wr := []) q0 hM hC he hl hst rfl hdd hcat hcm hd (fun v w1 h => by obtain ⟨rfl, rfl⟩ := h; exact K)
theorem J_cUr {G : GT} {nm own : String} {cc : ByteArray} {nL : Nat} {ret : Option FieldType} {mc ms d : Nat} {Q : Option Value → va_W → Prop} {k n pc : Nat} {lv : List (Nat × Value)} {st st0 : List Value} {ws : va_W} {index np nb d2 : Nat} {y : MethodName} {b : ByteArray} {r : Option FieldType} {x : MethodName} {ci a : Nat} {fs : List Value} (As : List Value) {x0 : Nat} {ws2 : va_W} (q0 : Nat) (hM : MU own index ci x y b nb r np) (hC : Ct G y b nb r 0 0 d2 (.ref a :: As) ws (Is (some (.ref x0)) ws2)) (he : ws[q0]? = some (a, .inr (ci, fs))) (hl : As.length = np) (hst : st0 = As.reverse ++ .ref a :: st) (hdd : d2 + 1 ≤ d) (hcat : (st.map fun v => v.category).sum ≤ 8) (hcm : k ≤ mc ∧ n ≤ ms) (hd : decode cc pc = .ok (.invokevirtual index, 3)) (K : J G nm own cc nL ret mc ms d Q k n (pc + 3) lv (.ref x0 :: st) ws2) : J G nm own cc nL ret mc ms d Q k n pc lv st0 ws :=
  J_callU (wr := []) q0 hM hC he hl hst rfl hdd hcat hcm hd (fun v w1 h => by obtain ⟨rfl, rfl⟩ := h; exact K)
