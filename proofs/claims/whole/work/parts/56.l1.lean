/-! THE CLAIM OUT OF ONE WALK OF THE LAW'S BODY. Your part is whole_start (and what it stands on); all else here is the same for every law, but numbers. -/
def R_law : String := "HabitWillLaw"
def lw_P (b : Addr) (xs : List Int32) (args : Array Value) (s : State) : Prop := args = #[.ref b] ∧ s.IntsAt b xs ∧ xs.length ≤ 384 ∧ (Jvm.Cond.and given_1 narrow_1).before args s = true
def lw_Q (_ : Array Value) (s : State) (o : Outcome) (t : State) : Prop := o = .returned (some (.int 1)) ∧ Framed s o t [] 600000 7302250
def lw_Z (below : List Frame) (a : Array Value) (s : State) : State → Prop := fun t => ∃ o, t.status = .running ∧ Ended t below o ∧ lw_Q a s o t
/-- the law's own end, with 1 on the stack, nothing written that was there before, its room as the claim has it -/
theorem lw_ret {p : Program} {l : Launch} {e : Env} {s : State} {m : MethodId} {below : List Frame} {meth : Method} {c : Code} {b : Nat} (hx : p.tables.exec = Jvm.exec) (hb : c.code = code) (hr : meth.sig.returnType = ret) (hlocks : meth.locks = false) {pc : Nat} {H : Heap} {ls : Array Slot} (hdg : decode code pc = .ok (.ireturn, 1)) : W p l e room_1 s m #[Value.ref b] below meth c H [] 600000 7302250 (lw_Z below #[Value.ref b] s) (F0 m pc ls [.int 1]) := by
  intro T hT X
  obtain ⟨fs, hret, hrun, hended, hW, hframe⟩ := X.leave (v := some (.int 1)) (hlocks := hlocks) (fun h => by rw [hr] at h; cases h)
  have hmeth' : T.vm.method? m = some meth := X.method'
  refine ⟨T.setFrames fs, ?_, .returned (some (.int 1)), hrun, hended, rfl, ⟨_, rfl⟩, hW, hframe⟩
  jvm_step X.here [X.here.top, hx, hb, hdg, hmeth', hr, ret, narrow_b1]
  (try refine ⟨rfl, ?_⟩); (try refine ⟨rfl, ?_⟩)
  first | (intro acts; rw [hret _ acts rfl rfl rfl]) | rw [hret _ _ rfl rfl rfl]
  exact Steps.refl _
/-- what holds at the law's entry: the machine, the code, the tables' words (any of lw_tbl by 'hts w (by decide +kernel)'), the script of L ints xs at the cell b, what the Statement gives of the start (any of its parts by flat_of_before) -/
def lw_At (p : Program) (s : State) (m : MethodId) (meth : Method) (c : Code) (b L : Nat) (xs : Nat → Int32) : Prop :=
  p.tables.exec = Jvm.exec ∧ c.code = code ∧ meth.sig.returnType = ret ∧ c.maxLocals = 4 ∧ s.vm.findClass R_law = some m.cls ∧ (∀ w ∈ lw_tbl, w.before #[Value.ref b] s = true) ∧ va_X b L xs s s.heap ∧ b < s.heap.size ∧ meth.locks = false ∧ (Jvm.Cond.and given_1 narrow_1).before #[Value.ref b] s = true
/-! The law's own rows: J again, with the script beside the cells -/
def CxL (G : GT) (bs Ln : Nat) (xs : Nat → Int32) (p : Program) (s : State) (m : MethodId) (meth : Method) (c : Code) : Prop :=
  p.tables.exec = Jvm.exec ∧ c.code = code ∧ meth.sig.returnType = ret ∧ c.maxLocals = 4 ∧ meth.locks = false ∧ s.vm.findClass RL = some m.cls ∧ (∀ w ∈ TB, w.before #[Value.ref bs] s = true) ∧ NW s ∧ va_K G.2.1 vwCl (gT G) s ∧ va_X bs Ln xs s s.heap ∧ bs < s.heap.size
def JL (G : GT) (bs Ln : Nat) (xs : Nat → Int32) (k n pc : Nat) (lv : List (Nat × Value)) (st : List Value) (ws : va_W) : Prop :=
  ∀ (p : Program) (e : Env) (s : State) (m : MethodId) (below : List Frame) (meth : Method) (c : Code) (H : Heap) (locs : List Loc) (ls : Array Slot),
    CxL G bs Ln xs p s m meth c → va_P G.2.1 vwCl ws H → va_D (fun q : Nat => s.heap.size ≤ q) ws → va_S (fun q : Nat => s.heap.size ≤ q) s.heap H locs → lv_has ls 4 lv →
    W p G.1 e room_1 s m #[Value.ref bs] below meth c H locs k n (lw_Z below #[Value.ref bs] s) (F0 m pc ls st)
theorem hAL {h : Heap} : ∀ q : Nat, h.size ≤ q → (fun q : Nat => h.size ≤ q) q := fun _ h => h
section JLs
variable {G : GT} {bs Ln : Nat} {xs : Nat → Int32} {k n pc : Nat} {lv : List (Nat × Value)} {st : List Value} {ws : va_W}
theorem CxL.ex {p : Program} {s : State} {m : MethodId} {meth : Method} {c : Code} (h : CxL G bs Ln xs p s m meth c) : p.tables.exec = Jvm.exec := h.1
theorem CxL.cb {p : Program} {s : State} {m : MethodId} {meth : Method} {c : Code} (h : CxL G bs Ln xs p s m meth c) : c.code = code := h.2.1
theorem CxL.rt {p : Program} {s : State} {m : MethodId} {meth : Method} {c : Code} (h : CxL G bs Ln xs p s m meth c) : meth.sig.returnType = ret := h.2.2.1
theorem CxL.ml {p : Program} {s : State} {m : MethodId} {meth : Method} {c : Code} (h : CxL G bs Ln xs p s m meth c) : c.maxLocals = 4 := h.2.2.2.1
theorem CxL.lk {p : Program} {s : State} {m : MethodId} {meth : Method} {c : Code} (h : CxL G bs Ln xs p s m meth c) : meth.locks = false := h.2.2.2.2.1
theorem CxL.ow {p : Program} {s : State} {m : MethodId} {meth : Method} {c : Code} (h : CxL G bs Ln xs p s m meth c) : s.vm.findClass RL = some m.cls := h.2.2.2.2.2.1
theorem CxL.ts {p : Program} {s : State} {m : MethodId} {meth : Method} {c : Code} (h : CxL G bs Ln xs p s m meth c) : ∀ w ∈ TB, w.before #[Value.ref bs] s = true := h.2.2.2.2.2.2.1
theorem CxL.nw {p : Program} {s : State} {m : MethodId} {meth : Method} {c : Code} (h : CxL G bs Ln xs p s m meth c) : NW s := h.2.2.2.2.2.2.2.1
theorem CxL.kk {p : Program} {s : State} {m : MethodId} {meth : Method} {c : Code} (h : CxL G bs Ln xs p s m meth c) : va_K G.2.1 vwCl (gT G) s := h.2.2.2.2.2.2.2.2.1
theorem CxL.xx {p : Program} {s : State} {m : MethodId} {meth : Method} {c : Code} (h : CxL G bs Ln xs p s m meth c) : va_X bs Ln xs s s.heap := h.2.2.2.2.2.2.2.2.2.1
theorem CxL.bl {p : Program} {s : State} {m : MethodId} {meth : Method} {c : Code} (h : CxL G bs Ln xs p s m meth c) : bs < s.heap.size := h.2.2.2.2.2.2.2.2.2.2
theorem L_iconst {i : Int} {v : Int32} (hd : decode code pc = .ok (.iconst i, 1)) (hv : Int32.ofInt i = v) (K : JL G bs Ln xs k n (pc + 1) lv (.int v :: st) ws) : JL G bs Ln xs k n pc lv st ws := by
  intro p e s m below meth c H locs ls C hP hD hS hv
  exact lv_iconst C.ex C.cb hd ‹Int32.ofInt i = v› (K p e s m below meth c H locs ls C hP hD hS hv)
theorem L_bipush {i : Int} {v : Int32} (hd : decode code pc = .ok (.bipush i, 2)) (hv : (Int8.ofInt i).toInt32 = v) (K : JL G bs Ln xs k n (pc + 2) lv (.int v :: st) ws) : JL G bs Ln xs k n pc lv st ws := by
  intro p e s m below meth c H locs ls C hP hD hS hv
  exact lv_bipush C.ex C.cb hd ‹(Int8.ofInt i).toInt32 = v› (K p e s m below meth c H locs ls C hP hD hS hv)
theorem L_iload_n {j : Fin 4} {i : Nat} {x : Int32} (hd : decode code pc = .ok (.iload_n j, 1)) (hi : (j : Nat) = i) (hl : lget lv i = some (.int x)) (K : JL G bs Ln xs k n (pc + 1) lv (.int x :: st) ws) : JL G bs Ln xs k n pc lv st ws := by
  intro p e s m below meth c H locs ls C hP hD hS hv
  exact lv_iload_n C.ex C.cb hd hi (lget_has hv hl) (K p e s m below meth c H locs ls C hP hD hS hv)
theorem L_istore_n {j : Fin 4} {i : Nat} {x : Int32} (lv2 : List (Nat × Value)) (hd : decode code pc = .ok (.istore_n j, 1)) (hi : (j : Nat) = i) (hn : i < 4) (h1 : lnd lv = true) (h2 : lok1 lv i = true) (hl : lput lv i (.int x) = lv2) (K : JL G bs Ln xs k n (pc + 1) lv2 st ws) : JL G bs Ln xs k n pc lv (.int x :: st) ws := by
  intro p e s m below meth c H locs ls C hP hD hS hv
  exact lv_istore_n C.ex C.cb hd hi hv hn rfl (fun ls hv => K p e s m below meth c H locs ls C hP hD hS (lhas_put1 h1 h2 hl hv))
theorem L_aload_n {j : Fin 4} {i : Nat} {x : Nat} (hd : decode code pc = .ok (.aload_n j, 1)) (hi : (j : Nat) = i) (hl : lget lv i = some (.ref x)) (K : JL G bs Ln xs k n (pc + 1) lv (.ref x :: st) ws) : JL G bs Ln xs k n pc lv st ws := by
  intro p e s m below meth c H locs ls C hP hD hS hv
  exact lv_aload_n C.ex C.cb hd hi (lget_has hv hl) (K p e s m below meth c H locs ls C hP hD hS hv)
theorem L_astore_n {j : Fin 4} {i : Nat} {x : Nat} (lv2 : List (Nat × Value)) (hd : decode code pc = .ok (.astore_n j, 1)) (hi : (j : Nat) = i) (hn : i < 4) (h1 : lnd lv = true) (h2 : lok1 lv i = true) (hl : lput lv i (.ref x) = lv2) (K : JL G bs Ln xs k n (pc + 1) lv2 st ws) : JL G bs Ln xs k n pc lv (.ref x :: st) ws := by
  intro p e s m below meth c H locs ls C hP hD hS hv
  exact lv_astore_n C.ex C.cb hd hi hv hn rfl (fun ls hv => K p e s m below meth c H locs ls C hP hD hS (lhas_put1 h1 h2 hl hv))
theorem L_iinc {i : Nat} {z : Int} {x v : Int32} (lv2 : List (Nat × Value)) (hd : decode code pc = .ok (.iinc i z, 3)) (hg : lget lv i = some (.int x)) (hv2 : x + Int32.ofInt z = v) (hn : i < 4) (h1 : lnd lv = true) (h2 : lok1 lv i = true) (hl : lput lv i (.int v) = lv2) (K : JL G bs Ln xs k n (pc + 3) lv2 st ws) : JL G bs Ln xs k n pc lv st ws := by
  intro p e s m below meth c H locs ls C hP hD hS hv
  obtain ⟨j, hj⟩ := List.getElem?_of_mem (lget_mem hg)
  exact lv_iinc C.ex C.cb hd hv hj hv2 hn rfl (fun ls hv => K p e s m below meth c H locs ls C hP hD hS (lhas_put1 h1 h2 hl hv))
theorem L_iadd {x y : Int32} (hd : decode code pc = .ok (.iadd, 1)) (K : JL G bs Ln xs k n (pc + 1) lv (.int (x + y) :: st) ws) : JL G bs Ln xs k n pc lv (.int y :: .int x :: st) ws := by
  intro p e s m below meth c H locs ls C hP hD hS hv
  exact lv_iadd C.ex C.cb hd (K p e s m below meth c H locs ls C hP hD hS hv)
theorem L_isub {x y : Int32} (hd : decode code pc = .ok (.isub, 1)) (K : JL G bs Ln xs k n (pc + 1) lv (.int (x - y) :: st) ws) : JL G bs Ln xs k n pc lv (.int y :: .int x :: st) ws := by
  intro p e s m below meth c H locs ls C hP hD hS hv
  exact lv_isub C.ex C.cb hd (K p e s m below meth c H locs ls C hP hD hS hv)
theorem L_iand {x y : Int32} (hd : decode code pc = .ok (.iand, 1)) (K : JL G bs Ln xs k n (pc + 1) lv (.int (x &&& y) :: st) ws) : JL G bs Ln xs k n pc lv (.int y :: .int x :: st) ws := by
  intro p e s m below meth c H locs ls C hP hD hS hv
  exact lv_iand C.ex C.cb hd (K p e s m below meth c H locs ls C hP hD hS hv)
theorem L_dup {v : Value} (hd : decode code pc = .ok (.dup, 1)) (hc : v.category = 1) (K : JL G bs Ln xs k n (pc + 1) lv (v :: v :: st) ws) : JL G bs Ln xs k n pc lv (v :: st) ws := by
  intro p e s m below meth c H locs ls C hP hD hS hv
  exact lv_dup C.ex C.cb hd hc (K p e s m below meth c H locs ls C hP hD hS hv)
theorem L_icmp_eq {x y : Int32} {off : Int} (tgt : Nat) (hd : decode code pc = .ok (.if_icmp .eq off, 3)) (ht : (pc : Int) + off = (tgt : Int)) (K1 : x = y → JL G bs Ln xs k n tgt lv st ws) (K2 : ¬ x = y → JL G bs Ln xs k n (pc + 3) lv st ws) : JL G bs Ln xs k n pc lv (.int y :: .int x :: st) ws := by
  intro p e s m below meth c H locs ls C hP hD hS hv
  exact lv_icmp_eq C.ex C.cb hd ht (fun h => K1 h p e s m below meth c H locs ls C hP hD hS hv) (fun h => K2 h p e s m below meth c H locs ls C hP hD hS hv)
theorem L_icmp_gt {x y : Int32} {off : Int} (tgt : Nat) (hd : decode code pc = .ok (.if_icmp .gt off, 3)) (ht : (pc : Int) + off = (tgt : Int)) (K1 : y < x → JL G bs Ln xs k n tgt lv st ws) (K2 : ¬ y < x → JL G bs Ln xs k n (pc + 3) lv st ws) : JL G bs Ln xs k n pc lv (.int y :: .int x :: st) ws := by
  intro p e s m below meth c H locs ls C hP hD hS hv
  exact lv_icmp_gt C.ex C.cb hd ht (fun h => K1 h p e s m below meth c H locs ls C hP hD hS hv) (fun h => K2 h p e s m below meth c H locs ls C hP hD hS hv)
theorem L_if_eq {x : Int32} {off : Int} (tgt : Nat) (hd : decode code pc = .ok (.ifCond .eq off, 3)) (ht : (pc : Int) + off = (tgt : Int)) (K1 : x = 0 → JL G bs Ln xs k n tgt lv st ws) (K2 : ¬ x = 0 → JL G bs Ln xs k n (pc + 3) lv st ws) : JL G bs Ln xs k n pc lv (.int x :: st) ws := by
  intro p e s m below meth c H locs ls C hP hD hS hv
  exact lv_if_eq C.ex C.cb hd ht (fun h => K1 h p e s m below meth c H locs ls C hP hD hS hv) (fun h => K2 h p e s m below meth c H locs ls C hP hD hS hv)
theorem L_goto {off : Int} (tgt : Nat) (hd : decode code pc = .ok (.goto off, 3)) (ht : (pc : Int) + off = (tgt : Int)) (K : JL G bs Ln xs k n tgt lv st ws) : JL G bs Ln xs k n pc lv st ws := by
  intro p e s m below meth c H locs ls C hP hD hS hv
  exact lv_goto C.ex C.cb hd ht (K p e s m below meth c H locs ls C hP hD hS hv)
theorem L_lcmp {x y : Int64} (hd : decode code pc = .ok (.lcmp, 1)) (K : JL G bs Ln xs k n (pc + 1) lv (.int (lg_cmp x y) :: st) ws) : JL G bs Ln xs k n pc lv (.long y :: .long x :: st) ws := by
  intro p e s m below meth c H locs ls C hP hD hS hv
  exact W.lcmp C.ex C.cb hd (K p e s m below meth c H locs ls C hP hD hS hv)
theorem L_tblOut {dflt lo hi : Int} {offs : Array Int} {len : Nat} {x : Int32} (tgt : Nat) (hd : decode code pc = .ok (.tableswitch dflt lo hi offs, len)) (h : x.toInt < lo ∨ hi < x.toInt) (ht : (pc : Int) + dflt = (tgt : Int)) (K : JL G bs Ln xs k n tgt lv st ws) : JL G bs Ln xs k n pc lv (.int x :: st) ws := by
  intro p e s m below meth c H locs ls C hP hD hS hv
  exact lv_tableOut C.ex C.cb hd h ht (K p e s m below meth c H locs ls C hP hD hS hv)
theorem L_tblIn {dflt lo hi : Int} {offs : Array Int} {len : Nat} {x : Int32} {off : Int} (tgt : Nat) (hd : decode code pc = .ok (.tableswitch dflt lo hi offs, len)) (h1 : ¬ x.toInt < lo) (h2 : ¬ hi < x.toInt) (ho : offs[(x.toInt - lo).toNat]? = some off) (ht : (pc : Int) + off = (tgt : Int)) (K : JL G bs Ln xs k n tgt lv st ws) : JL G bs Ln xs k n pc lv (.int x :: st) ws := by
  intro p e s m below meth c H locs ls C hP hD hS hv
  exact lv_tableIn C.ex C.cb hd h1 h2 ho ht (K p e s m below meth c H locs ls C hP hD hS hv)
theorem L_new {C0 : String} {T : u_T} {N ci index : Nat} (ty : Nat → FieldType) (fs : List Value) (hc : vwCl[ci]? = some (C0, T, N)) (hin : ∀ w ∈ u_ws C0 T N, w ∈ TB) (hty : ∀ k, k < N → parseFieldDescriptor (T k).2.2.1 = some (ty k)) (hcl : Cond.classLink RL index C0 ∈ TB) (hinst : Cond.instantiable C0 N ∈ TB) (hini : Cond.initialized C0 ∈ TB) (hfs : ∀ j, j < N → defaultValue (ty j) = vp_V fs j) (hk : k + 1 ≤ room_1.cells) (hs : n + N ≤ room_1.slots) (hd : decode code pc = .ok (.new index, 3))
    (K : ∀ q : Nat, JL G bs Ln xs (k + 1) (n + N) (pc + 3) lv (.ref q :: st) (ws ++ [(q, .inr (ci, fs))])) : JL G bs Ln xs k n pc lv st ws := by
  intro p e s m below meth c H locs ls C hP hD hS hv
  exact va_new (D := G.2.1) C.ex C.cb C.ts hin ty hty C.ow (C.ts _ hcl) (C.ts _ hinst) (C.ts _ hini) C.kk hP hD hS hAL hc hfs hk hs hd (fun q H1 hP1 hD1 hS1 => K q p e s m below meth c H1 locs ls C hP1 hD1 hS1 hv)
theorem L_sld {x : Int32} (j : Nat) (hx : x = nI j) (hj : j < Ln) (hL : Ln ≤ 384) (hd : decode code pc = .ok (.iaload, 1)) (K : JL G bs Ln xs k n (pc + 1) lv (.int (xs j) :: st) ws) : JL G bs Ln xs k n pc lv (.int x :: .ref bs :: st) ws := by
  subst hx
  intro p e s m below meth c H locs ls C hP hD hS hv
  refine va_sld C.ex C.cb C.xx C.bl (Nat.not_le.mpr C.bl) hS (vp_in_nI hj (by omega)) hd ?_
  rw [nI_clamp (by omega)]
  exact K p e s m below meth c H locs ls C hP hD hS hv
theorem L_slen (hd : decode code pc = .ok (.arraylength, 1)) (K : JL G bs Ln xs k n (pc + 1) lv (.int (nI Ln) :: st) ws) : JL G bs Ln xs k n pc lv (.ref bs :: st) ws := by
  intro p e s m below meth c H locs ls C hP hD hS hv
  exact va_slen C.ex C.cb C.xx C.bl (Nat.not_le.mpr C.bl) hS hd (K p e s m below meth c H locs ls C hP hD hS hv)
theorem L_end (hk : k ≤ 600000) (hn : n ≤ 7302250) (hd : decode code pc = .ok (.ireturn, 1)) : JL G bs Ln xs k n pc lv [.int 1] ws := by
  intro p e s m below meth c H locs ls C hP hD hS hv
  refine va_forget (fun q hq => hS.2.2 q hq) ?_
  refine W.widen (k := 600000) (n := 7302250) hk hn ?_
  exact lw_ret C.ex C.cb C.rt C.lk hd
theorem L_iaddN {x y : Nat} (hd : decode code pc = .ok (.iadd, 1)) (K : JL G bs Ln xs k n (pc + 1) lv (.int (nI (x + y)) :: st) ws) : JL G bs Ln xs k n pc lv (.int (nI y) :: .int (nI x) :: st) ws := L_iadd hd (by rw [nI_add]; exact K)
theorem L_comm {w1 w2 : va_W} (K : JL G bs Ln xs k n pc lv st (w2 ++ w1)) : JL G bs Ln xs k n pc lv st (w1 ++ w2) := by
  have key : ∀ (i : Nat) (q : Nat × va_E), (w2 ++ w1)[i]? = some q → (i < w2.length ∧ (w1 ++ w2)[i + w1.length]? = some q) ∨ (w2.length ≤ i ∧ i < w2.length + w1.length ∧ (w1 ++ w2)[i - w2.length]? = some q) := by
    intro i q h
    rcases Nat.lt_or_ge i w2.length with hi | hi
    · refine Or.inl ⟨hi, ?_⟩
      rw [List.getElem?_append_left hi] at h
      rw [List.getElem?_append_right (by omega), Nat.add_sub_cancel]
      exact h
    · rw [List.getElem?_append_right hi] at h
      have hl : i - w2.length < w1.length := (List.getElem?_eq_some_iff.mp h).1
      refine Or.inr ⟨hi, by omega, ?_⟩
      rw [List.getElem?_append_left hl]
      exact h
  intro p e s m below meth c H locs ls C hP hD hS hv
  refine K p e s m below meth c H locs ls C (fun i q h => ?_) ⟨fun i j x y hx hy hxy => ?_, fun i x hx => ?_⟩ hS hv
  · rcases key i q h with ⟨_, h⟩ | ⟨_, _, h⟩
    · exact hP _ q h
    · exact hP _ q h
  · rcases key i x hx with ⟨h1, g1⟩ | ⟨h1, h1b, g1⟩ <;> rcases key j y hy with ⟨h2, g2⟩ | ⟨h2, h2b, g2⟩ <;> have := hD.1 _ _ x y g1 g2 hxy <;> omega
  · rcases key i x hx with ⟨_, h⟩ | ⟨_, _, h⟩
    · exact hD.2 _ x h
    · exact hD.2 _ x h
end JLs
section JLc
variable {G : GT} {bs Ln : Nat} {xs : Nat → Int32} {k n pc : Nat} {lv : List (Nat × Value)} {st st0 : List Value} {ws wr wc : va_W} {index np nb d2 mc2 ms2 ci : Nat} {x y : MethodName} {b : ByteArray} {r : Option FieldType} {As : List Value} {Q2 : Option Value → va_W → Prop}
theorem room_okL {nb d2 : Nat} (h : nb ≤ 41) (hd : d2 ≤ 20) (mc2 ms2 : Nat) : (rmJ d2 mc2 ms2).frames + 1 ≤ room_1.frames ∧ 8 + (nb + 11) + (rmJ d2 mc2 ms2).locals ≤ room_1.locals := by
  constructor
  · show d2 + 1 ≤ 2048; omega
  · show 8 + (nb + 11) + 60 * d2 ≤ 84000; omega
theorem L_callV {a : Nat} (q0 : Nat) {fs : List Value} (hM : MV RL index ci y b nb r np) (hC : Ct G y b nb r mc2 ms2 d2 (.ref a :: As) wc Q2) (he : ws[q0]? = some (a, .inr (ci, fs))) (hl : As.length = np) (hst : st0 = As.reverse ++ .ref a :: st) (hws : ws = wr ++ wc) (hdd : d2 ≤ 20) (hcat : (st.map fun v => v.category).sum ≤ 8) (hcm : k + mc2 ≤ room_1.cells ∧ n + ms2 ≤ room_1.slots) (hd : decode code pc = .ok (.invokevirtual index, 3))
    (K : ∀ (v : Option Value) (w1 : va_W), Q2 v w1 → JL G bs Ln xs (k + mc2) (n + ms2) (pc + 3) lv (v.toList ++ st) (wr ++ w1)) : JL G bs Ln xs k n pc lv st0 ws := by
  subst hst; subst hws
  intro p e s m below meth c H locs ls C hP hD hS hv
  obtain ⟨h1, h2, h3, ⟨T, N, h4⟩, h7, h8, h5, h6⟩ := hM
  have cb := callB_of (R := room_1) (rm := rmJ d2 mc2 ms2) (mc := mc2) (ms := ms2) np C.ts (cwJ_good h1) rfl rfl rfl (C.ts _ h8) (C.ts _ h2) (okY.get h5) (room_okL h6 hdd mc2 ms2)
  exact jc_core (va_runV (As := As) (rest := st) ⟨C.ex, C.cb, C.ml, C.ow, C.ts⟩ (hC H.size) ⟨cb, C.ts _ h3, C.ts _ h7⟩ ⟨PcJ.blind G (.ref a :: As) wc H.size, va_recv C.kk hP h4 he, PcJ.now C.kk C.nw hP hD⟩ rfl hl hv.1 rfl (lv_room hcat) hd hcm) hP hD hS hAL
    (fun v w1 H1 locs1 hq hP1 hD1 hS1 => K v w1 hq p e s m below meth c H1 locs1 ls C hP1 hD1 hS1 hv)
theorem L_callI {a : Nat} (hM : MI RL index y b nb np) (hC : Ct G y b nb none mc2 ms2 d2 (.ref a :: As) wc Q2) (hl : As.length = np) (hst : st0 = As.reverse ++ .ref a :: st) (hws : ws = wr ++ wc) (hdd : d2 ≤ 20) (hcat : (st.map fun v => v.category).sum ≤ 8) (hcm : k + mc2 ≤ room_1.cells ∧ n + ms2 ≤ room_1.slots) (hd : decode code pc = .ok (.invokespecial index, 3))
    (K : ∀ (v : Option Value) (w1 : va_W), Q2 v w1 → JL G bs Ln xs (k + mc2) (n + ms2) (pc + 3) lv (v.toList ++ st) (wr ++ w1)) : JL G bs Ln xs k n pc lv st0 ws := by
  subst hst; subst hws
  intro p e s m below meth c H locs ls C hP hD hS hv
  obtain ⟨h1, h2, h3, h4, h8, h5, h6⟩ := hM
  have cb := callB_of (R := room_1) (rm := rmJ d2 mc2 ms2) (mc := mc2) (ms := ms2) np C.ts (cwJ_good h1) rfl rfl rfl (C.ts _ h8) (C.ts _ h2) (okY.get h5) (room_okL h6 hdd mc2 ms2)
  exact jc_core (va_runI (As := As) (rest := st) ⟨C.ex, C.cb, C.ml, C.ow, C.ts⟩ (hC H.size) ⟨cb, h4, C.ts _ h3⟩ ⟨PcJ.blind G (.ref a :: As) wc H.size, PcJ.now C.kk C.nw hP hD⟩ rfl hl hv.1 rfl (lv_room hcat) hd hcm) hP hD hS hAL
    (fun v w1 H1 locs1 hq hP1 hD1 hS1 => K v w1 hq p e s m below meth c H1 locs1 ls C hP1 hD1 hS1 hv)
end JLc
