section JR
variable {G : GT} {nm own : String} {cc : ByteArray} {nL : Nat} {ret : Option FieldType} {mc ms d : Nat} {Q : Option Value → va_W → Prop} {k n pc : Nat} {lv : List (Nat × Value)} {st : List Value} {ws : va_W}
theorem Cx.ex {p : Program} {s : State} {m : MethodId} {args : Array Value} {meth : Method} {c : Code} (h : Cx G nm own cc nL ret p s m args meth c) : p.tables.exec = Jvm.exec := h.1
theorem Cx.cb {p : Program} {s : State} {m : MethodId} {args : Array Value} {meth : Method} {c : Code} (h : Cx G nm own cc nL ret p s m args meth c) : c.code = cc := h.2.1
theorem Cx.rt {p : Program} {s : State} {m : MethodId} {args : Array Value} {meth : Method} {c : Code} (h : Cx G nm own cc nL ret p s m args meth c) : meth.sig.returnType = ret := h.2.2.1
theorem Cx.ml {p : Program} {s : State} {m : MethodId} {args : Array Value} {meth : Method} {c : Code} (h : Cx G nm own cc nL ret p s m args meth c) : c.maxLocals = nL := h.2.2.2.1
theorem Cx.lk {p : Program} {s : State} {m : MethodId} {args : Array Value} {meth : Method} {c : Code} (h : Cx G nm own cc nL ret p s m args meth c) : meth.locks = false := h.2.2.2.2.1
theorem Cx.ow {p : Program} {s : State} {m : MethodId} {args : Array Value} {meth : Method} {c : Code} (h : Cx G nm own cc nL ret p s m args meth c) : s.vm.findClass own = some m.cls := h.2.2.2.2.2.1
theorem Cx.ts {p : Program} {s : State} {m : MethodId} {args : Array Value} {meth : Method} {c : Code} (h : Cx G nm own cc nL ret p s m args meth c) : ∀ w ∈ TB, w.before args s = true := h.2.2.2.2.2.2.1
theorem Cx.nw {p : Program} {s : State} {m : MethodId} {args : Array Value} {meth : Method} {c : Code} (h : Cx G nm own cc nL ret p s m args meth c) : NW s := h.2.2.2.2.2.2.2.1
theorem Cx.kk {p : Program} {s : State} {m : MethodId} {args : Array Value} {meth : Method} {c : Code} (h : Cx G nm own cc nL ret p s m args meth c) : va_K G.2.1 vwCl (gT G) s := h.2.2.2.2.2.2.2.2.1
theorem Cx.nn {p : Program} {s : State} {m : MethodId} {args : Array Value} {meth : Method} {c : Code} (h : Cx G nm own cc nL ret p s m args meth c) : meth.name = nm := h.2.2.2.2.2.2.2.2.2
theorem J_iconst {i : Int} {v : Int32} (hd : decode cc pc = .ok (.iconst i, 1)) (hv : Int32.ofInt i = v) (K : J G nm own cc nL ret mc ms d Q k n (pc + 1) lv (.int v :: st) ws) : J G nm own cc nL ret mc ms d Q k n pc lv st ws := by
  intro p e s m args below meth c H locs A ls C hP hD hS hA hv
  exact lv_iconst C.ex C.cb hd ‹Int32.ofInt i = v› (K p e s m args below meth c H locs A ls C hP hD hS hA hv)
theorem J_bipush {i : Int} {v : Int32} (hd : decode cc pc = .ok (.bipush i, 2)) (hv : (Int8.ofInt i).toInt32 = v) (K : J G nm own cc nL ret mc ms d Q k n (pc + 2) lv (.int v :: st) ws) : J G nm own cc nL ret mc ms d Q k n pc lv st ws := by
  intro p e s m args below meth c H locs A ls C hP hD hS hA hv
  exact lv_bipush C.ex C.cb hd ‹(Int8.ofInt i).toInt32 = v› (K p e s m args below meth c H locs A ls C hP hD hS hA hv)
theorem J_sipush {i : Int} {v : Int32} (hd : decode cc pc = .ok (.sipush i, 3)) (hv : (Int16.ofInt i).toInt32 = v) (K : J G nm own cc nL ret mc ms d Q k n (pc + 3) lv (.int v :: st) ws) : J G nm own cc nL ret mc ms d Q k n pc lv st ws := by
  intro p e s m args below meth c H locs A ls C hP hD hS hA hv
  exact lv_sipush C.ex C.cb hd ‹(Int16.ofInt i).toInt32 = v› (K p e s m args below meth c H locs A ls C hP hD hS hA hv)
theorem J_lconst {i : Fin 2} {v : Int64} (hd : decode cc pc = .ok (.lconst i, 1)) (hv : Int64.ofNat (i : Nat) = v) (K : J G nm own cc nL ret mc ms d Q k n (pc + 1) lv (.long v :: st) ws) : J G nm own cc nL ret mc ms d Q k n pc lv st ws := by
  intro p e s m args below meth c H locs A ls C hP hD hS hA hv
  exact lv_lconst C.ex C.cb hd ‹Int64.ofNat (i : Nat) = v› (K p e s m args below meth c H locs A ls C hP hD hS hA hv)
theorem J_ldc {i : Nat} {v : Int32} (hd : decode cc pc = .ok (.ldc i, 2)) (hw : Cond.constant own i v ∈ TB) (K : J G nm own cc nL ret mc ms d Q k n (pc + 2) lv (.int v :: st) ws) : J G nm own cc nL ret mc ms d Q k n pc lv st ws := by
  intro p e s m args below meth c H locs A ls C hP hD hS hA hv
  exact lv_ldc C.ex C.cb C.ow (C.ts _ hw) hd (K p e s m args below meth c H locs A ls C hP hD hS hA hv)
theorem J_ldcw {i : Nat} {v : Int32} (hd : decode cc pc = .ok (.ldc_w i, 3)) (hw : Cond.constant own i v ∈ TB) (K : J G nm own cc nL ret mc ms d Q k n (pc + 3) lv (.int v :: st) ws) : J G nm own cc nL ret mc ms d Q k n pc lv st ws := by
  intro p e s m args below meth c H locs A ls C hP hD hS hA hv
  exact lv_ldcw C.ex C.cb C.ow (C.ts _ hw) hd (K p e s m args below meth c H locs A ls C hP hD hS hA hv)
theorem J_ldc2 {i : Nat} {v : Int64} (hd : decode cc pc = .ok (.ldc2_w i, 3)) (hw : Cond.constantLong own i v ∈ TB) (K : J G nm own cc nL ret mc ms d Q k n (pc + 3) lv (.long v :: st) ws) : J G nm own cc nL ret mc ms d Q k n pc lv st ws := by
  intro p e s m args below meth c H locs A ls C hP hD hS hA hv
  exact lv_ldc2 C.ex C.cb C.ow (C.ts _ hw) hd (K p e s m args below meth c H locs A ls C hP hD hS hA hv)
theorem J_iload_n {j : Fin 4} {i : Nat} {x : Int32} (hd : decode cc pc = .ok (.iload_n j, 1)) (hi : (j : Nat) = i) (hl : lget lv i = some (.int x)) (K : J G nm own cc nL ret mc ms d Q k n (pc + 1) lv (.int x :: st) ws) : J G nm own cc nL ret mc ms d Q k n pc lv st ws := by
  intro p e s m args below meth c H locs A ls C hP hD hS hA hv
  exact lv_iload_n C.ex C.cb hd hi (lget_has hv hl) (K p e s m args below meth c H locs A ls C hP hD hS hA hv)
theorem J_iload {i : Nat} {x : Int32} (hd : decode cc pc = .ok (.iload i, 2)) (hl : lget lv i = some (.int x)) (K : J G nm own cc nL ret mc ms d Q k n (pc + 2) lv (.int x :: st) ws) : J G nm own cc nL ret mc ms d Q k n pc lv st ws := by
  intro p e s m args below meth c H locs A ls C hP hD hS hA hv
  exact lv_iload C.ex C.cb hd (lget_has hv hl) (K p e s m args below meth c H locs A ls C hP hD hS hA hv)
theorem J_istore_n {j : Fin 4} {i : Nat} {x : Int32} (lv2 : List (Nat × Value)) (hd : decode cc pc = .ok (.istore_n j, 1)) (hi : (j : Nat) = i) (hn : i < nL) (h1 : lnd lv = true) (h2 : lok1 lv i = true) (hl : lput lv i (.int x) = lv2) (K : J G nm own cc nL ret mc ms d Q k n (pc + 1) lv2 st ws) : J G nm own cc nL ret mc ms d Q k n pc lv (.int x :: st) ws := by
  intro p e s m args below meth c H locs A ls C hP hD hS hA hv
  exact lv_istore_n C.ex C.cb hd hi hv hn rfl (fun ls hv => K p e s m args below meth c H locs A ls C hP hD hS hA (lhas_put1 h1 h2 hl hv))
theorem J_istore {i : Nat} {x : Int32} (lv2 : List (Nat × Value)) (hd : decode cc pc = .ok (.istore i, 2)) (hn : i < nL) (h1 : lnd lv = true) (h2 : lok1 lv i = true) (hl : lput lv i (.int x) = lv2) (K : J G nm own cc nL ret mc ms d Q k n (pc + 2) lv2 st ws) : J G nm own cc nL ret mc ms d Q k n pc lv (.int x :: st) ws := by
  intro p e s m args below meth c H locs A ls C hP hD hS hA hv
  exact lv_istore C.ex C.cb hd hv hn rfl (fun ls hv => K p e s m args below meth c H locs A ls C hP hD hS hA (lhas_put1 h1 h2 hl hv))
theorem J_lload_n {j : Fin 4} {i : Nat} {x : Int64} (hd : decode cc pc = .ok (.lload_n j, 1)) (hi : (j : Nat) = i) (hl : lget lv i = some (.long x)) (K : J G nm own cc nL ret mc ms d Q k n (pc + 1) lv (.long x :: st) ws) : J G nm own cc nL ret mc ms d Q k n pc lv st ws := by
  intro p e s m args below meth c H locs A ls C hP hD hS hA hv
  exact lv_lload_n C.ex C.cb hd hi (lget_has hv hl) (K p e s m args below meth c H locs A ls C hP hD hS hA hv)
theorem J_lload {i : Nat} {x : Int64} (hd : decode cc pc = .ok (.lload i, 2)) (hl : lget lv i = some (.long x)) (K : J G nm own cc nL ret mc ms d Q k n (pc + 2) lv (.long x :: st) ws) : J G nm own cc nL ret mc ms d Q k n pc lv st ws := by
  intro p e s m args below meth c H locs A ls C hP hD hS hA hv
  exact lv_lload C.ex C.cb hd (lget_has hv hl) (K p e s m args below meth c H locs A ls C hP hD hS hA hv)
theorem J_lstore_n {j : Fin 4} {i : Nat} {x : Int64} (lv2 : List (Nat × Value)) (hd : decode cc pc = .ok (.lstore_n j, 1)) (hi : (j : Nat) = i) (hn : i + 1 < nL) (h1 : lnd lv = true) (h2 : lok2 lv i = true) (hl : lput lv i (.long x) = lv2) (K : J G nm own cc nL ret mc ms d Q k n (pc + 1) lv2 st ws) : J G nm own cc nL ret mc ms d Q k n pc lv (.long x :: st) ws := by
  intro p e s m args below meth c H locs A ls C hP hD hS hA hv
  exact lv_lstore_n C.ex C.cb hd hi hv hn rfl (fun ls hv => K p e s m args below meth c H locs A ls C hP hD hS hA (lhas_put2 h1 h2 hl hv))
theorem J_lstore {i : Nat} {x : Int64} (lv2 : List (Nat × Value)) (hd : decode cc pc = .ok (.lstore i, 2)) (hn : i + 1 < nL) (h1 : lnd lv = true) (h2 : lok2 lv i = true) (hl : lput lv i (.long x) = lv2) (K : J G nm own cc nL ret mc ms d Q k n (pc + 2) lv2 st ws) : J G nm own cc nL ret mc ms d Q k n pc lv (.long x :: st) ws := by
  intro p e s m args below meth c H locs A ls C hP hD hS hA hv
  exact lv_lstore C.ex C.cb hd hv hn rfl (fun ls hv => K p e s m args below meth c H locs A ls C hP hD hS hA (lhas_put2 h1 h2 hl hv))
theorem J_aload_n {j : Fin 4} {i : Nat} {x : Nat} (hd : decode cc pc = .ok (.aload_n j, 1)) (hi : (j : Nat) = i) (hl : lget lv i = some (.ref x)) (K : J G nm own cc nL ret mc ms d Q k n (pc + 1) lv (.ref x :: st) ws) : J G nm own cc nL ret mc ms d Q k n pc lv st ws := by
  intro p e s m args below meth c H locs A ls C hP hD hS hA hv
  exact lv_aload_n C.ex C.cb hd hi (lget_has hv hl) (K p e s m args below meth c H locs A ls C hP hD hS hA hv)
theorem J_aload {i : Nat} {x : Nat} (hd : decode cc pc = .ok (.aload i, 2)) (hl : lget lv i = some (.ref x)) (K : J G nm own cc nL ret mc ms d Q k n (pc + 2) lv (.ref x :: st) ws) : J G nm own cc nL ret mc ms d Q k n pc lv st ws := by
  intro p e s m args below meth c H locs A ls C hP hD hS hA hv
  exact lv_aload C.ex C.cb hd (lget_has hv hl) (K p e s m args below meth c H locs A ls C hP hD hS hA hv)
theorem J_astore_n {j : Fin 4} {i : Nat} {x : Nat} (lv2 : List (Nat × Value)) (hd : decode cc pc = .ok (.astore_n j, 1)) (hi : (j : Nat) = i) (hn : i < nL) (h1 : lnd lv = true) (h2 : lok1 lv i = true) (hl : lput lv i (.ref x) = lv2) (K : J G nm own cc nL ret mc ms d Q k n (pc + 1) lv2 st ws) : J G nm own cc nL ret mc ms d Q k n pc lv (.ref x :: st) ws := by
  intro p e s m args below meth c H locs A ls C hP hD hS hA hv
  exact lv_astore_n C.ex C.cb hd hi hv hn rfl (fun ls hv => K p e s m args below meth c H locs A ls C hP hD hS hA (lhas_put1 h1 h2 hl hv))
theorem J_astore {i : Nat} {x : Nat} (lv2 : List (Nat × Value)) (hd : decode cc pc = .ok (.astore i, 2)) (hn : i < nL) (h1 : lnd lv = true) (h2 : lok1 lv i = true) (hl : lput lv i (.ref x) = lv2) (K : J G nm own cc nL ret mc ms d Q k n (pc + 2) lv2 st ws) : J G nm own cc nL ret mc ms d Q k n pc lv (.ref x :: st) ws := by
  intro p e s m args below meth c H locs A ls C hP hD hS hA hv
  exact lv_astore C.ex C.cb hd hv hn rfl (fun ls hv => K p e s m args below meth c H locs A ls C hP hD hS hA (lhas_put1 h1 h2 hl hv))
theorem J_iinc {i : Nat} {z : Int} {x v : Int32} (lv2 : List (Nat × Value)) (hd : decode cc pc = .ok (.iinc i z, 3)) (hg : lget lv i = some (.int x)) (hv2 : x + Int32.ofInt z = v) (hn : i < nL) (h1 : lnd lv = true) (h2 : lok1 lv i = true) (hl : lput lv i (.int v) = lv2) (K : J G nm own cc nL ret mc ms d Q k n (pc + 3) lv2 st ws) : J G nm own cc nL ret mc ms d Q k n pc lv st ws := by
  intro p e s m args below meth c H locs A ls C hP hD hS hA hv
  obtain ⟨j, hj⟩ := List.getElem?_of_mem (lget_mem hg)
  exact lv_iinc C.ex C.cb hd hv hj hv2 hn rfl (fun ls hv => K p e s m args below meth c H locs A ls C hP hD hS hA (lhas_put1 h1 h2 hl hv))
theorem J_iadd {x y : Int32} (hd : decode cc pc = .ok (.iadd, 1)) (K : J G nm own cc nL ret mc ms d Q k n (pc + 1) lv (.int (x + y) :: st) ws) : J G nm own cc nL ret mc ms d Q k n pc lv (.int y :: .int x :: st) ws := by
  intro p e s m args below meth c H locs A ls C hP hD hS hA hv
  exact lv_iadd C.ex C.cb hd (K p e s m args below meth c H locs A ls C hP hD hS hA hv)
theorem J_isub {x y : Int32} (hd : decode cc pc = .ok (.isub, 1)) (K : J G nm own cc nL ret mc ms d Q k n (pc + 1) lv (.int (x - y) :: st) ws) : J G nm own cc nL ret mc ms d Q k n pc lv (.int y :: .int x :: st) ws := by
  intro p e s m args below meth c H locs A ls C hP hD hS hA hv
  exact lv_isub C.ex C.cb hd (K p e s m args below meth c H locs A ls C hP hD hS hA hv)
theorem J_imul {x y : Int32} (hd : decode cc pc = .ok (.imul, 1)) (K : J G nm own cc nL ret mc ms d Q k n (pc + 1) lv (.int (x * y) :: st) ws) : J G nm own cc nL ret mc ms d Q k n pc lv (.int y :: .int x :: st) ws := by
  intro p e s m args below meth c H locs A ls C hP hD hS hA hv
  exact lv_imul C.ex C.cb hd (K p e s m args below meth c H locs A ls C hP hD hS hA hv)
theorem J_iand {x y : Int32} (hd : decode cc pc = .ok (.iand, 1)) (K : J G nm own cc nL ret mc ms d Q k n (pc + 1) lv (.int (x &&& y) :: st) ws) : J G nm own cc nL ret mc ms d Q k n pc lv (.int y :: .int x :: st) ws := by
  intro p e s m args below meth c H locs A ls C hP hD hS hA hv
  exact lv_iand C.ex C.cb hd (K p e s m args below meth c H locs A ls C hP hD hS hA hv)
theorem J_ior {x y : Int32} (hd : decode cc pc = .ok (.ior, 1)) (K : J G nm own cc nL ret mc ms d Q k n (pc + 1) lv (.int (x ||| y) :: st) ws) : J G nm own cc nL ret mc ms d Q k n pc lv (.int y :: .int x :: st) ws := by
  intro p e s m args below meth c H locs A ls C hP hD hS hA hv
  exact lv_ior C.ex C.cb hd (K p e s m args below meth c H locs A ls C hP hD hS hA hv)
theorem J_ixor {x y : Int32} (hd : decode cc pc = .ok (.ixor, 1)) (K : J G nm own cc nL ret mc ms d Q k n (pc + 1) lv (.int (x ^^^ y) :: st) ws) : J G nm own cc nL ret mc ms d Q k n pc lv (.int y :: .int x :: st) ws := by
  intro p e s m args below meth c H locs A ls C hP hD hS hA hv
  exact lv_ixor C.ex C.cb hd (K p e s m args below meth c H locs A ls C hP hD hS hA hv)
theorem J_ishl {x y : Int32} (hd : decode cc pc = .ok (.ishl, 1)) (K : J G nm own cc nL ret mc ms d Q k n (pc + 1) lv (.int (x <<< (y &&& 31)) :: st) ws) : J G nm own cc nL ret mc ms d Q k n pc lv (.int y :: .int x :: st) ws := by
  intro p e s m args below meth c H locs A ls C hP hD hS hA hv
  exact lv_ishl C.ex C.cb hd (K p e s m args below meth c H locs A ls C hP hD hS hA hv)
theorem J_ishr {x y : Int32} (hd : decode cc pc = .ok (.ishr, 1)) (K : J G nm own cc nL ret mc ms d Q k n (pc + 1) lv (.int (x >>> (y &&& 31)) :: st) ws) : J G nm own cc nL ret mc ms d Q k n pc lv (.int y :: .int x :: st) ws := by
  intro p e s m args below meth c H locs A ls C hP hD hS hA hv
  exact lv_ishr C.ex C.cb hd (K p e s m args below meth c H locs A ls C hP hD hS hA hv)
theorem J_idiv {x y : Int32} (hd : decode cc pc = .ok (.idiv, 1)) (hne : ¬ y = 0) (K : J G nm own cc nL ret mc ms d Q k n (pc + 1) lv (.int (x / y) :: st) ws) : J G nm own cc nL ret mc ms d Q k n pc lv (.int y :: .int x :: st) ws := by
  intro p e s m args below meth c H locs A ls C hP hD hS hA hv
  exact lv_idiv C.ex C.cb hd hne (K p e s m args below meth c H locs A ls C hP hD hS hA hv)
theorem J_irem {x y : Int32} (hd : decode cc pc = .ok (.irem, 1)) (hne : ¬ y = 0) (K : J G nm own cc nL ret mc ms d Q k n (pc + 1) lv (.int (x - x / y * y) :: st) ws) : J G nm own cc nL ret mc ms d Q k n pc lv (.int y :: .int x :: st) ws := by
  intro p e s m args below meth c H locs A ls C hP hD hS hA hv
  exact lv_irem C.ex C.cb hd hne (K p e s m args below meth c H locs A ls C hP hD hS hA hv)
theorem J_ladd {x y : Int64} (hd : decode cc pc = .ok (.ladd, 1)) (K : J G nm own cc nL ret mc ms d Q k n (pc + 1) lv (.long (x + y) :: st) ws) : J G nm own cc nL ret mc ms d Q k n pc lv (.long y :: .long x :: st) ws := by
  intro p e s m args below meth c H locs A ls C hP hD hS hA hv
  exact lv_ladd C.ex C.cb hd (K p e s m args below meth c H locs A ls C hP hD hS hA hv)
theorem J_lsub {x y : Int64} (hd : decode cc pc = .ok (.lsub, 1)) (K : J G nm own cc nL ret mc ms d Q k n (pc + 1) lv (.long (x - y) :: st) ws) : J G nm own cc nL ret mc ms d Q k n pc lv (.long y :: .long x :: st) ws := by
  intro p e s m args below meth c H locs A ls C hP hD hS hA hv
  exact lv_lsub C.ex C.cb hd (K p e s m args below meth c H locs A ls C hP hD hS hA hv)
theorem J_lmul {x y : Int64} (hd : decode cc pc = .ok (.lmul, 1)) (K : J G nm own cc nL ret mc ms d Q k n (pc + 1) lv (.long (x * y) :: st) ws) : J G nm own cc nL ret mc ms d Q k n pc lv (.long y :: .long x :: st) ws := by
  intro p e s m args below meth c H locs A ls C hP hD hS hA hv
  exact lv_lmul C.ex C.cb hd (K p e s m args below meth c H locs A ls C hP hD hS hA hv)
theorem J_land {x y : Int64} (hd : decode cc pc = .ok (.land, 1)) (K : J G nm own cc nL ret mc ms d Q k n (pc + 1) lv (.long (x &&& y) :: st) ws) : J G nm own cc nL ret mc ms d Q k n pc lv (.long y :: .long x :: st) ws := by
  intro p e s m args below meth c H locs A ls C hP hD hS hA hv
  exact lv_land C.ex C.cb hd (K p e s m args below meth c H locs A ls C hP hD hS hA hv)
theorem J_lor {x y : Int64} (hd : decode cc pc = .ok (.lor, 1)) (K : J G nm own cc nL ret mc ms d Q k n (pc + 1) lv (.long (x ||| y) :: st) ws) : J G nm own cc nL ret mc ms d Q k n pc lv (.long y :: .long x :: st) ws := by
  intro p e s m args below meth c H locs A ls C hP hD hS hA hv
  exact lv_lor C.ex C.cb hd (K p e s m args below meth c H locs A ls C hP hD hS hA hv)
theorem J_ldiv {x y : Int64} (hd : decode cc pc = .ok (.ldiv, 1)) (hne : ¬ y = 0) (K : J G nm own cc nL ret mc ms d Q k n (pc + 1) lv (.long (x / y) :: st) ws) : J G nm own cc nL ret mc ms d Q k n pc lv (.long y :: .long x :: st) ws := by
  intro p e s m args below meth c H locs A ls C hP hD hS hA hv
  exact lv_ldiv C.ex C.cb hd hne (K p e s m args below meth c H locs A ls C hP hD hS hA hv)
theorem J_lrem {x y : Int64} (hd : decode cc pc = .ok (.lrem, 1)) (hne : ¬ y = 0) (K : J G nm own cc nL ret mc ms d Q k n (pc + 1) lv (.long (x - x / y * y) :: st) ws) : J G nm own cc nL ret mc ms d Q k n pc lv (.long y :: .long x :: st) ws := by
  intro p e s m args below meth c H locs A ls C hP hD hS hA hv
  exact lv_lrem C.ex C.cb hd hne (K p e s m args below meth c H locs A ls C hP hD hS hA hv)
theorem J_iushr {x y : Int32} (hd : decode cc pc = .ok (.iushr, 1)) (K : J G nm own cc nL ret mc ms d Q k n (pc + 1) lv (.int ((x.toUInt32 >>> (y.toUInt32 &&& Int32.toUInt32 31)).toInt32) :: st) ws) : J G nm own cc nL ret mc ms d Q k n pc lv (.int y :: .int x :: st) ws := by
  intro p e s m args below meth c H locs A ls C hP hD hS hA hv
  exact lv_iushr C.ex C.cb hd rfl (K p e s m args below meth c H locs A ls C hP hD hS hA hv)
theorem J_lushr {x : Int64} {y : Int32} (hd : decode cc pc = .ok (.lushr, 1)) (K : J G nm own cc nL ret mc ms d Q k n (pc + 1) lv (.long ((x.toUInt64 >>> (y.toInt64.toUInt64 &&& Int64.toUInt64 63)).toInt64) :: st) ws) : J G nm own cc nL ret mc ms d Q k n pc lv (.int y :: .long x :: st) ws := by
  intro p e s m args below meth c H locs A ls C hP hD hS hA hv
  exact lv_lushr C.ex C.cb hd rfl (K p e s m args below meth c H locs A ls C hP hD hS hA hv)
theorem J_lshl {x : Int64} {y : Int32} (hd : decode cc pc = .ok (.lshl, 1)) (K : J G nm own cc nL ret mc ms d Q k n (pc + 1) lv (.long (x <<< (y.toInt64 &&& 63)) :: st) ws) : J G nm own cc nL ret mc ms d Q k n pc lv (.int y :: .long x :: st) ws := by
  intro p e s m args below meth c H locs A ls C hP hD hS hA hv
  exact lv_lshl C.ex C.cb hd rfl (K p e s m args below meth c H locs A ls C hP hD hS hA hv)
theorem J_lshr {x : Int64} {y : Int32} (hd : decode cc pc = .ok (.lshr, 1)) (K : J G nm own cc nL ret mc ms d Q k n (pc + 1) lv (.long (x >>> (y.toInt64 &&& 63)) :: st) ws) : J G nm own cc nL ret mc ms d Q k n pc lv (.int y :: .long x :: st) ws := by
  intro p e s m args below meth c H locs A ls C hP hD hS hA hv
  exact lv_lshr C.ex C.cb hd rfl (K p e s m args below meth c H locs A ls C hP hD hS hA hv)
theorem J_i2l {x : Int32} (hd : decode cc pc = .ok (.i2l, 1)) (K : J G nm own cc nL ret mc ms d Q k n (pc + 1) lv (.long x.toInt64 :: st) ws) : J G nm own cc nL ret mc ms d Q k n pc lv (.int x :: st) ws := by
  intro p e s m args below meth c H locs A ls C hP hD hS hA hv
  exact lv_i2l C.ex C.cb hd rfl (K p e s m args below meth c H locs A ls C hP hD hS hA hv)
theorem J_i2b {x : Int32} (hd : decode cc pc = .ok (.i2b, 1)) (K : J G nm own cc nL ret mc ms d Q k n (pc + 1) lv (.int x.toInt8.toInt32 :: st) ws) : J G nm own cc nL ret mc ms d Q k n pc lv (.int x :: st) ws := by
  intro p e s m args below meth c H locs A ls C hP hD hS hA hv
  exact lv_i2b C.ex C.cb hd rfl (K p e s m args below meth c H locs A ls C hP hD hS hA hv)
theorem J_i2s {x : Int32} (hd : decode cc pc = .ok (.i2s, 1)) (K : J G nm own cc nL ret mc ms d Q k n (pc + 1) lv (.int x.toInt16.toInt32 :: st) ws) : J G nm own cc nL ret mc ms d Q k n pc lv (.int x :: st) ws := by
  intro p e s m args below meth c H locs A ls C hP hD hS hA hv
  exact lv_i2s C.ex C.cb hd rfl (K p e s m args below meth c H locs A ls C hP hD hS hA hv)
theorem J_lcmp {x y : Int64} (hd : decode cc pc = .ok (.lcmp, 1)) (K : J G nm own cc nL ret mc ms d Q k n (pc + 1) lv (.int (lg_cmp x y) :: st) ws) : J G nm own cc nL ret mc ms d Q k n pc lv (.long y :: .long x :: st) ws := by
  intro p e s m args below meth c H locs A ls C hP hD hS hA hv
  exact W.lcmp C.ex C.cb hd (K p e s m args below meth c H locs A ls C hP hD hS hA hv)
theorem J_dup {v : Value} (hd : decode cc pc = .ok (.dup, 1)) (hc : v.category = 1) (K : J G nm own cc nL ret mc ms d Q k n (pc + 1) lv (v :: v :: st) ws) : J G nm own cc nL ret mc ms d Q k n pc lv (v :: st) ws := by
  intro p e s m args below meth c H locs A ls C hP hD hS hA hv
  exact lv_dup C.ex C.cb hd hc (K p e s m args below meth c H locs A ls C hP hD hS hA hv)
theorem J_pop {v : Value} (hd : decode cc pc = .ok (.pop, 1)) (hc : v.category = 1) (K : J G nm own cc nL ret mc ms d Q k n (pc + 1) lv st ws) : J G nm own cc nL ret mc ms d Q k n pc lv (v :: st) ws := by
  intro p e s m args below meth c H locs A ls C hP hD hS hA hv
  exact lv_pop C.ex C.cb hd hc (K p e s m args below meth c H locs A ls C hP hD hS hA hv)
theorem J_dup2 {v w : Value} (hd : decode cc pc = .ok (.dup2, 1)) (hc : v.category = 1) (hc2 : w.category = 1) (K : J G nm own cc nL ret mc ms d Q k n (pc + 1) lv (v :: w :: v :: w :: st) ws) : J G nm own cc nL ret mc ms d Q k n pc lv (v :: w :: st) ws := by
  intro p e s m args below meth c H locs A ls C hP hD hS hA hv
  exact lv_dup2_11 C.ex C.cb hd hc hc2 (K p e s m args below meth c H locs A ls C hP hD hS hA hv)
theorem J_if_eq {x : Int32} {off : Int} (tgt : Nat) (hd : decode cc pc = .ok (.ifCond .eq off, 3)) (ht : (pc : Int) + off = (tgt : Int)) (K1 : x = 0 → J G nm own cc nL ret mc ms d Q k n tgt lv st ws) (K2 : ¬ x = 0 → J G nm own cc nL ret mc ms d Q k n (pc + 3) lv st ws) : J G nm own cc nL ret mc ms d Q k n pc lv (.int x :: st) ws := by
  intro p e s m args below meth c H locs A ls C hP hD hS hA hv
  exact lv_if_eq C.ex C.cb hd ht (fun h => K1 h p e s m args below meth c H locs A ls C hP hD hS hA hv) (fun h => K2 h p e s m args below meth c H locs A ls C hP hD hS hA hv)
theorem J_icmp_eq {x y : Int32} {off : Int} (tgt : Nat) (hd : decode cc pc = .ok (.if_icmp .eq off, 3)) (ht : (pc : Int) + off = (tgt : Int)) (K1 : x = y → J G nm own cc nL ret mc ms d Q k n tgt lv st ws) (K2 : ¬ x = y → J G nm own cc nL ret mc ms d Q k n (pc + 3) lv st ws) : J G nm own cc nL ret mc ms d Q k n pc lv (.int y :: .int x :: st) ws := by
  intro p e s m args below meth c H locs A ls C hP hD hS hA hv
  exact lv_icmp_eq C.ex C.cb hd ht (fun h => K1 h p e s m args below meth c H locs A ls C hP hD hS hA hv) (fun h => K2 h p e s m args below meth c H locs A ls C hP hD hS hA hv)
theorem J_if_ne {x : Int32} {off : Int} (tgt : Nat) (hd : decode cc pc = .ok (.ifCond .ne off, 3)) (ht : (pc : Int) + off = (tgt : Int)) (K1 : ¬ x = 0 → J G nm own cc nL ret mc ms d Q k n tgt lv st ws) (K2 : x = 0 → J G nm own cc nL ret mc ms d Q k n (pc + 3) lv st ws) : J G nm own cc nL ret mc ms d Q k n pc lv (.int x :: st) ws := by
  intro p e s m args below meth c H locs A ls C hP hD hS hA hv
  exact lv_if_ne C.ex C.cb hd ht (fun h => K1 h p e s m args below meth c H locs A ls C hP hD hS hA hv) (fun h => K2 h p e s m args below meth c H locs A ls C hP hD hS hA hv)
theorem J_icmp_ne {x y : Int32} {off : Int} (tgt : Nat) (hd : decode cc pc = .ok (.if_icmp .ne off, 3)) (ht : (pc : Int) + off = (tgt : Int)) (K1 : ¬ x = y → J G nm own cc nL ret mc ms d Q k n tgt lv st ws) (K2 : x = y → J G nm own cc nL ret mc ms d Q k n (pc + 3) lv st ws) : J G nm own cc nL ret mc ms d Q k n pc lv (.int y :: .int x :: st) ws := by
  intro p e s m args below meth c H locs A ls C hP hD hS hA hv
  exact lv_icmp_ne C.ex C.cb hd ht (fun h => K1 h p e s m args below meth c H locs A ls C hP hD hS hA hv) (fun h => K2 h p e s m args below meth c H locs A ls C hP hD hS hA hv)
theorem J_if_lt {x : Int32} {off : Int} (tgt : Nat) (hd : decode cc pc = .ok (.ifCond .lt off, 3)) (ht : (pc : Int) + off = (tgt : Int)) (K1 : x < 0 → J G nm own cc nL ret mc ms d Q k n tgt lv st ws) (K2 : ¬ x < 0 → J G nm own cc nL ret mc ms d Q k n (pc + 3) lv st ws) : J G nm own cc nL ret mc ms d Q k n pc lv (.int x :: st) ws := by
  intro p e s m args below meth c H locs A ls C hP hD hS hA hv
  exact lv_if_lt C.ex C.cb hd ht (fun h => K1 h p e s m args below meth c H locs A ls C hP hD hS hA hv) (fun h => K2 h p e s m args below meth c H locs A ls C hP hD hS hA hv)
theorem J_icmp_lt {x y : Int32} {off : Int} (tgt : Nat) (hd : decode cc pc = .ok (.if_icmp .lt off, 3)) (ht : (pc : Int) + off = (tgt : Int)) (K1 : x < y → J G nm own cc nL ret mc ms d Q k n tgt lv st ws) (K2 : ¬ x < y → J G nm own cc nL ret mc ms d Q k n (pc + 3) lv st ws) : J G nm own cc nL ret mc ms d Q k n pc lv (.int y :: .int x :: st) ws := by
  intro p e s m args below meth c H locs A ls C hP hD hS hA hv
  exact lv_icmp_lt C.ex C.cb hd ht (fun h => K1 h p e s m args below meth c H locs A ls C hP hD hS hA hv) (fun h => K2 h p e s m args below meth c H locs A ls C hP hD hS hA hv)
theorem J_if_ge {x : Int32} {off : Int} (tgt : Nat) (hd : decode cc pc = .ok (.ifCond .ge off, 3)) (ht : (pc : Int) + off = (tgt : Int)) (K1 : 0 ≤ x → J G nm own cc nL ret mc ms d Q k n tgt lv st ws) (K2 : ¬ 0 ≤ x → J G nm own cc nL ret mc ms d Q k n (pc + 3) lv st ws) : J G nm own cc nL ret mc ms d Q k n pc lv (.int x :: st) ws := by
  intro p e s m args below meth c H locs A ls C hP hD hS hA hv
  exact lv_if_ge C.ex C.cb hd ht (fun h => K1 h p e s m args below meth c H locs A ls C hP hD hS hA hv) (fun h => K2 h p e s m args below meth c H locs A ls C hP hD hS hA hv)
theorem J_icmp_ge {x y : Int32} {off : Int} (tgt : Nat) (hd : decode cc pc = .ok (.if_icmp .ge off, 3)) (ht : (pc : Int) + off = (tgt : Int)) (K1 : y ≤ x → J G nm own cc nL ret mc ms d Q k n tgt lv st ws) (K2 : ¬ y ≤ x → J G nm own cc nL ret mc ms d Q k n (pc + 3) lv st ws) : J G nm own cc nL ret mc ms d Q k n pc lv (.int y :: .int x :: st) ws := by
  intro p e s m args below meth c H locs A ls C hP hD hS hA hv
  exact lv_icmp_ge C.ex C.cb hd ht (fun h => K1 h p e s m args below meth c H locs A ls C hP hD hS hA hv) (fun h => K2 h p e s m args below meth c H locs A ls C hP hD hS hA hv)
theorem J_if_gt {x : Int32} {off : Int} (tgt : Nat) (hd : decode cc pc = .ok (.ifCond .gt off, 3)) (ht : (pc : Int) + off = (tgt : Int)) (K1 : 0 < x → J G nm own cc nL ret mc ms d Q k n tgt lv st ws) (K2 : ¬ 0 < x → J G nm own cc nL ret mc ms d Q k n (pc + 3) lv st ws) : J G nm own cc nL ret mc ms d Q k n pc lv (.int x :: st) ws := by
  intro p e s m args below meth c H locs A ls C hP hD hS hA hv
  exact lv_if_gt C.ex C.cb hd ht (fun h => K1 h p e s m args below meth c H locs A ls C hP hD hS hA hv) (fun h => K2 h p e s m args below meth c H locs A ls C hP hD hS hA hv)
theorem J_icmp_gt {x y : Int32} {off : Int} (tgt : Nat) (hd : decode cc pc = .ok (.if_icmp .gt off, 3)) (ht : (pc : Int) + off = (tgt : Int)) (K1 : y < x → J G nm own cc nL ret mc ms d Q k n tgt lv st ws) (K2 : ¬ y < x → J G nm own cc nL ret mc ms d Q k n (pc + 3) lv st ws) : J G nm own cc nL ret mc ms d Q k n pc lv (.int y :: .int x :: st) ws := by
  intro p e s m args below meth c H locs A ls C hP hD hS hA hv
  exact lv_icmp_gt C.ex C.cb hd ht (fun h => K1 h p e s m args below meth c H locs A ls C hP hD hS hA hv) (fun h => K2 h p e s m args below meth c H locs A ls C hP hD hS hA hv)
theorem J_if_le {x : Int32} {off : Int} (tgt : Nat) (hd : decode cc pc = .ok (.ifCond .le off, 3)) (ht : (pc : Int) + off = (tgt : Int)) (K1 : x ≤ 0 → J G nm own cc nL ret mc ms d Q k n tgt lv st ws) (K2 : ¬ x ≤ 0 → J G nm own cc nL ret mc ms d Q k n (pc + 3) lv st ws) : J G nm own cc nL ret mc ms d Q k n pc lv (.int x :: st) ws := by
  intro p e s m args below meth c H locs A ls C hP hD hS hA hv
  exact lv_if_le C.ex C.cb hd ht (fun h => K1 h p e s m args below meth c H locs A ls C hP hD hS hA hv) (fun h => K2 h p e s m args below meth c H locs A ls C hP hD hS hA hv)
theorem J_icmp_le {x y : Int32} {off : Int} (tgt : Nat) (hd : decode cc pc = .ok (.if_icmp .le off, 3)) (ht : (pc : Int) + off = (tgt : Int)) (K1 : x ≤ y → J G nm own cc nL ret mc ms d Q k n tgt lv st ws) (K2 : ¬ x ≤ y → J G nm own cc nL ret mc ms d Q k n (pc + 3) lv st ws) : J G nm own cc nL ret mc ms d Q k n pc lv (.int y :: .int x :: st) ws := by
  intro p e s m args below meth c H locs A ls C hP hD hS hA hv
  exact lv_icmp_le C.ex C.cb hd ht (fun h => K1 h p e s m args below meth c H locs A ls C hP hD hS hA hv) (fun h => K2 h p e s m args below meth c H locs A ls C hP hD hS hA hv)
theorem J_goto {off : Int} (tgt : Nat) (hd : decode cc pc = .ok (.goto off, 3)) (ht : (pc : Int) + off = (tgt : Int)) (K : J G nm own cc nL ret mc ms d Q k n tgt lv st ws) : J G nm own cc nL ret mc ms d Q k n pc lv st ws := by
  intro p e s m args below meth c H locs A ls C hP hD hS hA hv
  exact lv_goto C.ex C.cb hd ht (K p e s m args below meth c H locs A ls C hP hD hS hA hv)
theorem J_tblOut {dflt lo hi : Int} {offs : Array Int} {len : Nat} {x : Int32} (tgt : Nat) (hd : decode cc pc = .ok (.tableswitch dflt lo hi offs, len)) (h : x.toInt < lo ∨ hi < x.toInt) (ht : (pc : Int) + dflt = (tgt : Int)) (K : J G nm own cc nL ret mc ms d Q k n tgt lv st ws) : J G nm own cc nL ret mc ms d Q k n pc lv (.int x :: st) ws := by
  intro p e s m args below meth c H locs A ls C hP hD hS hA hv
  exact lv_tableOut C.ex C.cb hd h ht (K p e s m args below meth c H locs A ls C hP hD hS hA hv)
theorem J_tblIn {dflt lo hi : Int} {offs : Array Int} {len : Nat} {x : Int32} {off : Int} (tgt : Nat) (hd : decode cc pc = .ok (.tableswitch dflt lo hi offs, len)) (h1 : ¬ x.toInt < lo) (h2 : ¬ hi < x.toInt) (ho : offs[(x.toInt - lo).toNat]? = some off) (ht : (pc : Int) + off = (tgt : Int)) (K : J G nm own cc nL ret mc ms d Q k n tgt lv st ws) : J G nm own cc nL ret mc ms d Q k n pc lv (.int x :: st) ws := by
  intro p e s m args below meth c H locs A ls C hP hD hS hA hv
  exact lv_tableIn C.ex C.cb hd h1 h2 ho ht (K p e s m args below meth c H locs A ls C hP hD hS hA hv)
theorem J_lookup {dflt : Int} {ps : Array (Int × Int)} {len : Nat} {x : Int32} {off : Int} (tgt : Nat) (hd : decode cc pc = .ok (.lookupswitch dflt ps, len)) (hp : (ps.toList.zip (ps.toList.drop 1)).all (fun (a, next) => a.1 < next.1) = true) (ho : Op.lookupswitch.offset ps.toList dflt x.toInt = off) (ht : (pc : Int) + off = (tgt : Int)) (K : J G nm own cc nL ret mc ms d Q k n tgt lv st ws) : J G nm own cc nL ret mc ms d Q k n pc lv (.int x :: st) ws := by
  intro p e s m args below meth c H locs A ls C hP hD hS hA hv
  exact lv_lookup C.ex C.cb hd hp ho ht (K p e s m args below meth c H locs A ls C hP hD hS hA hv)
theorem J_iret {v : Int32} (hd : decode cc pc = .ok (.ireturn, 1)) (hr : ret = some .int) (hk : k = mc) (hn : n = ms) (hq : Q (some (.int v)) ws) : J G nm own cc nL ret mc ms d Q k n pc lv [.int v] ws := by
  intro p e s m args below meth c H locs A ls C hP hD hS hA hv
  subst hk; subst hn
  have hlk := C.lk
  exact W.iret C.ex C.cb (C.rt.trans hr) (fun t ht hW => ⟨⟨_, ws, rfl, hq, by rw [ht]; exact hP, hD⟩, hS.F ht⟩) hS.2.2 hd (hlocks := hlk)
theorem J_zret {v : Int32} (hd : decode cc pc = .ok (.ireturn, 1)) (hr : ret = some .boolean) (hz : narrow .boolean (.int v) = .int v) (hk : k = mc) (hn : n = ms) (hq : Q (some (.int v)) ws) : J G nm own cc nL ret mc ms d Q k n pc lv [.int v] ws := by
  intro p e s m args below meth c H locs A ls C hP hD hS hA hv
  subst hk; subst hn
  have hlk := C.lk
  exact W.zret C.ex C.cb (C.rt.trans hr) hz (fun t ht hW => ⟨⟨_, ws, rfl, hq, by rw [ht]; exact hP, hD⟩, hS.F ht⟩) hS.2.2 hd (hlocks := hlk)
theorem J_lret {v : Int64} (hd : decode cc pc = .ok (.lreturn, 1)) (hr : ret = some .long) (hk : k = mc) (hn : n = ms) (hq : Q (some (.long v)) ws) : J G nm own cc nL ret mc ms d Q k n pc lv [.long v] ws := by
  intro p e s m args below meth c H locs A ls C hP hD hS hA hv
  subst hk; subst hn
  have hlk := C.lk
  exact W.lret C.ex C.cb (C.rt.trans hr) (fun t ht hW => ⟨⟨_, ws, rfl, hq, by rw [ht]; exact hP, hD⟩, hS.F ht⟩) hS.2.2 hd (hlocks := hlk)
theorem J_vret  (hd : decode cc pc = .ok (.return_, 1)) (hr : ret = none) (hk : k = mc) (hn : n = ms) (hq : Q none ws) : J G nm own cc nL ret mc ms d Q k n pc lv [] ws := by
  intro p e s m args below meth c H locs A ls C hP hD hS hA hv
  subst hk; subst hn
  have hlk := C.lk
  exact W.vret C.ex C.cb (C.rt.trans hr) (fun t ht hW => ⟨⟨_, ws, rfl, hq, by rw [ht]; exact hP, hD⟩, hS.F ht⟩) hS.2.2 hd (hlocks := hlk)
theorem J_aret {a : Nat} {o : String} (hd : decode cc pc = .ok (.areturn, 1)) (hr : ret = some (.object o)) (hk : k = mc) (hn : n = ms) (hq : Q (some (.ref a)) ws) : J G nm own cc nL ret mc ms d Q k n pc lv [.ref a] ws := by
  intro p e s m args below meth c H locs A ls C hP hD hS hA hv
  subst hk; subst hn
  have hlk := C.lk
  exact W.aret C.ex C.cb (C.rt.trans hr) (Or.inl ⟨_, rfl⟩) (Or.inr ⟨a, rfl⟩) (fun t ht hW => ⟨⟨_, ws, rfl, hq, by rw [ht]; exact hP, hD⟩, hS.F ht⟩) hS.2.2 hd (hlocks := hlk)
theorem J_eqs {st2 : List Value} {ws2 : va_W} {lv2 : List (Nat × Value)} (h1 : lv = lv2) (h2 : st = st2) (h3 : ws = ws2) (K : J G nm own cc nL ret mc ms d Q k n pc lv2 st2 ws2) : J G nm own cc nL ret mc ms d Q k n pc lv st ws := by
  subst h1; subst h2; subst h3; exact K
theorem J_ws {ws2 : va_W} (h3 : ws = ws2) (K : J G nm own cc nL ret mc ms d Q k n pc lv st ws2) : J G nm own cc nL ret mc ms d Q k n pc lv st ws := by
  subst h3; exact K
def lsub : List (Nat × Value) → List (Nat × Value) → Prop := fun a b => ∀ q ∈ a, q ∈ b
theorem J_lv (is : List Nat) {lv2 : List (Nat × Value)} (h : lv_pick lv is = lv2) (K : J G nm own cc nL ret mc ms d Q k n pc lv2 st ws) : J G nm own cc nL ret mc ms d Q k n pc lv st ws := by
  intro p e s m args below meth c H locs A ls C hP hD hS hA hv
  exact K p e s m args below meth c H locs A ls C hP hD hS hA (lv_sub hv is h)
end JR
