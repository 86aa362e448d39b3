theorem lg_cmp_self (x : Int64) : lg_cmp x x = 0 := by
  unfold lg_cmp
  simp
theorem wl_397 : Cond.code yX11_type cX11_type 4 (some .int) ∈ TB := TB_mem 397 (by decide +kernel) (by decide +kernel)
theorem wl_394 : Cond.methodLink RL 13 yX11_type ∈ TB := TB_mem 394 (by decide +kernel) (by decide +kernel)
theorem wl_395 : Cond.instanceMethod yX11_type ∈ TB := TB_mem 395 (by decide +kernel) (by decide +kernel)
theorem wl_396 : Cond.selects RX11 yX11_type yX11_type ∈ TB := TB_mem 396 (by decide +kernel) (by decide +kernel)
theorem wl_51 : Cond.initialized RX11 ∈ TB := TB_mem 51 (by decide +kernel) (by decide +kernel)
theorem mvL_13 : MV RL 13 10 yX11_type cX11_type 4 (some .int) 2 := ⟨wl_397, wl_394, wl_395, ⟨TX11, 6, rfl⟩, wl_396, wl_51, by decide +kernel, by decide⟩
theorem wl_1017 : Cond.code yX12_type cX12_type 3 (some .int) ∈ TB := TB_mem 1017 (by decide +kernel) (by decide +kernel)
theorem wl_1014 : Cond.methodLink RL 17 yX12_type ∈ TB := TB_mem 1014 (by decide +kernel) (by decide +kernel)
theorem wl_1015 : Cond.instanceMethod yX12_type ∈ TB := TB_mem 1015 (by decide +kernel) (by decide +kernel)
theorem wl_1016 : Cond.selects RX12 yX12_type yX12_type ∈ TB := TB_mem 1016 (by decide +kernel) (by decide +kernel)
theorem wl_64 : Cond.initialized RX12 ∈ TB := TB_mem 64 (by decide +kernel) (by decide +kernel)
theorem mvL_17 : MV RL 17 11 yX12_type cX12_type 3 (some .int) 2 := ⟨wl_1017, wl_1014, wl_1015, ⟨TX12, 25, rfl⟩, wl_1016, wl_64, by decide +kernel, by decide⟩
theorem lc_0 {G : GT} {bs Ln : Nat} {xs : Nat → Int32} {r : Nat → Nat} {o : Nat} {a : Nat → Nat} {s x : St} {l : Nat → Int64} {i : Nat} (hi6 : i + 6 ≤ Ln) (hL4 : Ln ≤ 384) (hI : LI (cn s)) (hC : CI (cn s) x) (K : ∀ (s2 x2 : St) (l2 : Nat → Int64), LI (cn s2) → CI (cn s2) x2 → JL G bs Ln xs 65 1531 1221 [(0, .ref bs), (1, .ref (r 0)), (2, .ref o), (3, .int (nI i))] [] (cW G r x2 l2 ++ mW G o a s2)) : JL G bs Ln xs 65 1531 180 [(0, .ref bs), (1, .ref (r 0)), (2, .ref o), (3, .int (nI i))] [] (cW G r x l ++ mW G o a s) := by
  refine L_aload_n dL_law_180 rfl rfl ?_
  refine L_aload_n dL_law_181 rfl rfl ?_
  refine L_iload_n dL_law_182 rfl rfl ?_
  refine L_iconst (v := nI 1) dL_law_183 (by decide) ?_
  refine L_iaddN dL_law_184 ?_
  refine L_sld (i + 1) rfl (by omega) hL4 dL_law_185 ?_
  refine L_aload_n dL_law_186 rfl rfl ?_
  refine L_iload_n dL_law_187 rfl rfl ?_
  refine L_iconst (v := nI 2) dL_law_188 (by decide) ?_
  refine L_iaddN dL_law_189 ?_
  refine L_sld (i + 2) rfl (by omega) hL4 dL_law_190 ?_
  refine L_comm ?_
  refine L_callV (wr := mW G o a s) (wc := cW G r x l) (As := [.int (xs (i + 1)), .int (xs (i + 2))]) (st := []) 16 mvL_13 (c_X11_type r x l (cn s) hI hC (xs (i + 1)) (xs (i + 2))) rfl rfl rfl rfl (by decide) (by decide) (by decide) dL_law_191 (fun v w1 h => ?_)
  obtain ⟨x2, l2, rfl, rfl, hC2⟩ := h
  refine L_comm ?_
  refine L_aload_n dL_law_194 rfl rfl ?_
  refine L_aload_n dL_law_195 rfl rfl ?_
  refine L_iload_n dL_law_196 rfl rfl ?_
  refine L_iconst (v := nI 1) dL_law_197 (by decide) ?_
  refine L_iaddN dL_law_198 ?_
  refine L_sld (i + 1) rfl (by omega) hL4 dL_law_199 ?_
  refine L_aload_n dL_law_200 rfl rfl ?_
  refine L_iload_n dL_law_201 rfl rfl ?_
  refine L_iconst (v := nI 2) dL_law_202 (by decide) ?_
  refine L_iaddN dL_law_203 ?_
  refine L_sld (i + 2) rfl (by omega) hL4 dL_law_204 ?_
  refine L_callV (wr := cW G r x2 l2) (wc := mW G o a s) (As := [.int (xs (i + 1)), .int (xs (i + 2))]) (st := [.int _]) 49 mvL_17 (c_X12_type o a s hI (xs (i + 1)) (xs (i + 2))) rfl rfl rfl rfl (by decide) (Nat.le_of_ble_eq_true rfl) (by decide) dL_law_205 (fun v w1 h => ?_)
  obtain ⟨s2, rfl, rfl, h2⟩ := h
  exact L_icmp_eq 1221 dL_law_208 rfl (fun _ => K s2 x2 l2 (by rw [h2]; exact li_type hI (xs (i + 1)) (xs (i + 2))) (by rw [h2]; exact hC2)) (fun h => absurd rfl h)
theorem wl_468 : Cond.code yX11_wipe cX11_wipe 4 (some .int) ∈ TB := TB_mem 468 (by decide +kernel) (by decide +kernel)
theorem wl_465 : Cond.methodLink RL 18 yX11_wipe ∈ TB := TB_mem 465 (by decide +kernel) (by decide +kernel)
theorem wl_466 : Cond.instanceMethod yX11_wipe ∈ TB := TB_mem 466 (by decide +kernel) (by decide +kernel)
theorem wl_467 : Cond.selects RX11 yX11_wipe yX11_wipe ∈ TB := TB_mem 467 (by decide +kernel) (by decide +kernel)
theorem mvL_18 : MV RL 18 10 yX11_wipe cX11_wipe 4 (some .int) 1 := ⟨wl_468, wl_465, wl_466, ⟨TX11, 6, rfl⟩, wl_467, wl_51, by decide +kernel, by decide⟩
theorem wl_1025 : Cond.code yX12_wipe cX12_wipe 3 (some .int) ∈ TB := TB_mem 1025 (by decide +kernel) (by decide +kernel)
theorem wl_1022 : Cond.methodLink RL 22 yX12_wipe ∈ TB := TB_mem 1022 (by decide +kernel) (by decide +kernel)
theorem wl_1023 : Cond.instanceMethod yX12_wipe ∈ TB := TB_mem 1023 (by decide +kernel) (by decide +kernel)
theorem wl_1024 : Cond.selects RX12 yX12_wipe yX12_wipe ∈ TB := TB_mem 1024 (by decide +kernel) (by decide +kernel)
theorem mvL_22 : MV RL 22 11 yX12_wipe cX12_wipe 3 (some .int) 1 := ⟨wl_1025, wl_1022, wl_1023, ⟨TX12, 25, rfl⟩, wl_1024, wl_64, by decide +kernel, by decide⟩
theorem lc_1 {G : GT} {bs Ln : Nat} {xs : Nat → Int32} {r : Nat → Nat} {o : Nat} {a : Nat → Nat} {s x : St} {l : Nat → Int64} {i : Nat} (hi6 : i + 6 ≤ Ln) (hL4 : Ln ≤ 384) (hI : LI (cn s)) (hC : CI (cn s) x) (K : ∀ (s2 x2 : St) (l2 : Nat → Int64), LI (cn s2) → CI (cn s2) x2 → JL G bs Ln xs 65 1531 1221 [(0, .ref bs), (1, .ref (r 0)), (2, .ref o), (3, .int (nI i))] [] (cW G r x2 l2 ++ mW G o a s2)) : JL G bs Ln xs 65 1531 213 [(0, .ref bs), (1, .ref (r 0)), (2, .ref o), (3, .int (nI i))] [] (cW G r x l ++ mW G o a s) := by
  refine L_aload_n dL_law_213 rfl rfl ?_
  refine L_aload_n dL_law_214 rfl rfl ?_
  refine L_iload_n dL_law_215 rfl rfl ?_
  refine L_iconst (v := nI 1) dL_law_216 (by decide) ?_
  refine L_iaddN dL_law_217 ?_
  refine L_sld (i + 1) rfl (by omega) hL4 dL_law_218 ?_
  refine L_comm ?_
  refine L_callV (wr := mW G o a s) (wc := cW G r x l) (As := [.int (xs (i + 1))]) (st := []) 16 mvL_18 (c_X11_wipe r x l (cn s) hI hC (xs (i + 1))) rfl rfl rfl rfl (by decide) (by decide) (by decide) dL_law_219 (fun v w1 h => ?_)
  obtain ⟨x2, l2, rfl, rfl, hC2⟩ := h
  refine L_comm ?_
  refine L_aload_n dL_law_222 rfl rfl ?_
  refine L_aload_n dL_law_223 rfl rfl ?_
  refine L_iload_n dL_law_224 rfl rfl ?_
  refine L_iconst (v := nI 1) dL_law_225 (by decide) ?_
  refine L_iaddN dL_law_226 ?_
  refine L_sld (i + 1) rfl (by omega) hL4 dL_law_227 ?_
  refine L_callV (wr := cW G r x2 l2) (wc := mW G o a s) (As := [.int (xs (i + 1))]) (st := [.int _]) 49 mvL_22 (c_X12_wipe o a s hI (xs (i + 1))) rfl rfl rfl rfl (by decide) (Nat.le_of_ble_eq_true rfl) (by decide) dL_law_228 (fun v w1 h => ?_)
  obtain ⟨s2, rfl, rfl, h2⟩ := h
  exact L_icmp_eq 1221 dL_law_231 rfl (fun _ => K s2 x2 l2 (by rw [h2]; exact li_wipe hI (xs (i + 1))) (by rw [h2]; exact hC2)) (fun h => absurd rfl h)
theorem wl_479 : Cond.code yX11_undo cX11_undo 3 (some .int) ∈ TB := TB_mem 479 (by decide +kernel) (by decide +kernel)
theorem wl_476 : Cond.methodLink RL 23 yX11_undo ∈ TB := TB_mem 476 (by decide +kernel) (by decide +kernel)
theorem wl_477 : Cond.instanceMethod yX11_undo ∈ TB := TB_mem 477 (by decide +kernel) (by decide +kernel)
theorem wl_478 : Cond.selects RX11 yX11_undo yX11_undo ∈ TB := TB_mem 478 (by decide +kernel) (by decide +kernel)
theorem mvL_23 : MV RL 23 10 yX11_undo cX11_undo 3 (some .int) 1 := ⟨wl_479, wl_476, wl_477, ⟨TX11, 6, rfl⟩, wl_478, wl_51, by decide +kernel, by decide⟩
theorem wl_1029 : Cond.code yX12_undo cX12_undo 2 (some .int) ∈ TB := TB_mem 1029 (by decide +kernel) (by decide +kernel)
theorem wl_1026 : Cond.methodLink RL 26 yX12_undo ∈ TB := TB_mem 1026 (by decide +kernel) (by decide +kernel)
theorem wl_1027 : Cond.instanceMethod yX12_undo ∈ TB := TB_mem 1027 (by decide +kernel) (by decide +kernel)
theorem wl_1028 : Cond.selects RX12 yX12_undo yX12_undo ∈ TB := TB_mem 1028 (by decide +kernel) (by decide +kernel)
theorem mvL_26 : MV RL 26 11 yX12_undo cX12_undo 2 (some .int) 1 := ⟨wl_1029, wl_1026, wl_1027, ⟨TX12, 25, rfl⟩, wl_1028, wl_64, by decide +kernel, by decide⟩
theorem lc_2 {G : GT} {bs Ln : Nat} {xs : Nat → Int32} {r : Nat → Nat} {o : Nat} {a : Nat → Nat} {s x : St} {l : Nat → Int64} {i : Nat} (hi6 : i + 6 ≤ Ln) (hL4 : Ln ≤ 384) (hI : LI (cn s)) (hC : CI (cn s) x) (K : ∀ (s2 x2 : St) (l2 : Nat → Int64), LI (cn s2) → CI (cn s2) x2 → JL G bs Ln xs 65 1531 1221 [(0, .ref bs), (1, .ref (r 0)), (2, .ref o), (3, .int (nI i))] [] (cW G r x2 l2 ++ mW G o a s2)) : JL G bs Ln xs 65 1531 236 [(0, .ref bs), (1, .ref (r 0)), (2, .ref o), (3, .int (nI i))] [] (cW G r x l ++ mW G o a s) := by
  refine L_aload_n dL_law_236 rfl rfl ?_
  refine L_aload_n dL_law_237 rfl rfl ?_
  refine L_iload_n dL_law_238 rfl rfl ?_
  refine L_iconst (v := nI 1) dL_law_239 (by decide) ?_
  refine L_iaddN dL_law_240 ?_
  refine L_sld (i + 1) rfl (by omega) hL4 dL_law_241 ?_
  refine L_comm ?_
  refine L_callV (wr := mW G o a s) (wc := cW G r x l) (As := [.int (xs (i + 1))]) (st := []) 16 mvL_23 (c_X11_undo r x l (cn s) hI hC (xs (i + 1))) rfl rfl rfl rfl (by decide) (by decide) (by decide) dL_law_242 (fun v w1 h => ?_)
  obtain ⟨x2, l2, rfl, rfl, hC2⟩ := h
  refine L_comm ?_
  refine L_aload_n dL_law_245 rfl rfl ?_
  refine L_aload_n dL_law_246 rfl rfl ?_
  refine L_iload_n dL_law_247 rfl rfl ?_
  refine L_iconst (v := nI 1) dL_law_248 (by decide) ?_
  refine L_iaddN dL_law_249 ?_
  refine L_sld (i + 1) rfl (by omega) hL4 dL_law_250 ?_
  refine L_callV (wr := cW G r x2 l2) (wc := mW G o a s) (As := [.int (xs (i + 1))]) (st := [.int _]) 49 mvL_26 (c_X12_undo o a s hI (xs (i + 1))) rfl rfl rfl rfl (by decide) (Nat.le_of_ble_eq_true rfl) (by decide) dL_law_251 (fun v w1 h => ?_)
  obtain ⟨s2, rfl, rfl, h2⟩ := h
  exact L_icmp_eq 1221 dL_law_254 rfl (fun _ => K s2 x2 l2 (by rw [h2]; exact li_undo hI (xs (i + 1))) (by rw [h2]; exact hC2)) (fun h => absurd rfl h)
theorem wl_483 : Cond.code yX11_fault cX11_fault 2 (some .int) ∈ TB := TB_mem 483 (by decide +kernel) (by decide +kernel)
theorem wl_480 : Cond.methodLink RL 27 yX11_fault ∈ TB := TB_mem 480 (by decide +kernel) (by decide +kernel)
theorem wl_481 : Cond.instanceMethod yX11_fault ∈ TB := TB_mem 481 (by decide +kernel) (by decide +kernel)
theorem wl_482 : Cond.selects RX11 yX11_fault yX11_fault ∈ TB := TB_mem 482 (by decide +kernel) (by decide +kernel)
theorem mvL_27 : MV RL 27 10 yX11_fault cX11_fault 2 (some .int) 1 := ⟨wl_483, wl_480, wl_481, ⟨TX11, 6, rfl⟩, wl_482, wl_51, by decide +kernel, by decide⟩
theorem wl_1033 : Cond.code yX12_fault cX12_fault 2 (some .int) ∈ TB := TB_mem 1033 (by decide +kernel) (by decide +kernel)
theorem wl_1030 : Cond.methodLink RL 30 yX12_fault ∈ TB := TB_mem 1030 (by decide +kernel) (by decide +kernel)
theorem wl_1031 : Cond.instanceMethod yX12_fault ∈ TB := TB_mem 1031 (by decide +kernel) (by decide +kernel)
theorem wl_1032 : Cond.selects RX12 yX12_fault yX12_fault ∈ TB := TB_mem 1032 (by decide +kernel) (by decide +kernel)
theorem mvL_30 : MV RL 30 11 yX12_fault cX12_fault 2 (some .int) 1 := ⟨wl_1033, wl_1030, wl_1031, ⟨TX12, 25, rfl⟩, wl_1032, wl_64, by decide +kernel, by decide⟩
theorem lc_3 {G : GT} {bs Ln : Nat} {xs : Nat → Int32} {r : Nat → Nat} {o : Nat} {a : Nat → Nat} {s x : St} {l : Nat → Int64} {i : Nat} (hi6 : i + 6 ≤ Ln) (hL4 : Ln ≤ 384) (hI : LI (cn s)) (hC : CI (cn s) x) (K : ∀ (s2 x2 : St) (l2 : Nat → Int64), LI (cn s2) → CI (cn s2) x2 → JL G bs Ln xs 65 1531 1221 [(0, .ref bs), (1, .ref (r 0)), (2, .ref o), (3, .int (nI i))] [] (cW G r x2 l2 ++ mW G o a s2)) : JL G bs Ln xs 65 1531 259 [(0, .ref bs), (1, .ref (r 0)), (2, .ref o), (3, .int (nI i))] [] (cW G r x l ++ mW G o a s) := by
  refine L_aload_n dL_law_259 rfl rfl ?_
  refine L_aload_n dL_law_260 rfl rfl ?_
  refine L_iload_n dL_law_261 rfl rfl ?_
  refine L_iconst (v := nI 1) dL_law_262 (by decide) ?_
  refine L_iaddN dL_law_263 ?_
  refine L_sld (i + 1) rfl (by omega) hL4 dL_law_264 ?_
  refine L_comm ?_
  refine L_callV (wr := mW G o a s) (wc := cW G r x l) (As := [.int (xs (i + 1))]) (st := []) 16 mvL_27 (c_X11_fault r x l (cn s) hI hC (xs (i + 1))) rfl rfl rfl rfl (by decide) (by decide) (by decide) dL_law_265 (fun v w1 h => ?_)
  obtain ⟨x2, l2, rfl, rfl, hC2⟩ := h
  refine L_comm ?_
  refine L_aload_n dL_law_268 rfl rfl ?_
  refine L_aload_n dL_law_269 rfl rfl ?_
  refine L_iload_n dL_law_270 rfl rfl ?_
  refine L_iconst (v := nI 1) dL_law_271 (by decide) ?_
  refine L_iaddN dL_law_272 ?_
  refine L_sld (i + 1) rfl (by omega) hL4 dL_law_273 ?_
  refine L_callV (wr := cW G r x2 l2) (wc := mW G o a s) (As := [.int (xs (i + 1))]) (st := [.int _]) 49 mvL_30 (c_X12_fault o a s hI (xs (i + 1))) rfl rfl rfl rfl (by decide) (Nat.le_of_ble_eq_true rfl) (by decide) dL_law_274 (fun v w1 h => ?_)
  obtain ⟨s2, rfl, rfl, h2⟩ := h
  exact L_icmp_eq 1221 dL_law_277 rfl (fun _ => K s2 x2 l2 (by rw [h2]; exact hI) (by rw [h2]; exact hC2)) (fun h => absurd rfl h)
theorem wl_487 : Cond.code yX11_habit cX11_habit 4 (some .int) ∈ TB := TB_mem 487 (by decide +kernel) (by decide +kernel)
theorem wl_484 : Cond.methodLink RL 31 yX11_habit ∈ TB := TB_mem 484 (by decide +kernel) (by decide +kernel)
theorem wl_485 : Cond.instanceMethod yX11_habit ∈ TB := TB_mem 485 (by decide +kernel) (by decide +kernel)
theorem wl_486 : Cond.selects RX11 yX11_habit yX11_habit ∈ TB := TB_mem 486 (by decide +kernel) (by decide +kernel)
theorem mvL_31 : MV RL 31 10 yX11_habit cX11_habit 4 (some .int) 2 := ⟨wl_487, wl_484, wl_485, ⟨TX11, 6, rfl⟩, wl_486, wl_51, by decide +kernel, by decide⟩
theorem wl_1068 : Cond.code yX12_habit cX12_habit 3 (some .int) ∈ TB := TB_mem 1068 (by decide +kernel) (by decide +kernel)
theorem wl_1065 : Cond.methodLink RL 34 yX12_habit ∈ TB := TB_mem 1065 (by decide +kernel) (by decide +kernel)
theorem wl_1066 : Cond.instanceMethod yX12_habit ∈ TB := TB_mem 1066 (by decide +kernel) (by decide +kernel)
theorem wl_1067 : Cond.selects RX12 yX12_habit yX12_habit ∈ TB := TB_mem 1067 (by decide +kernel) (by decide +kernel)
theorem mvL_34 : MV RL 34 11 yX12_habit cX12_habit 3 (some .int) 2 := ⟨wl_1068, wl_1065, wl_1066, ⟨TX12, 25, rfl⟩, wl_1067, wl_64, by decide +kernel, by decide⟩
theorem lc_4 {G : GT} {bs Ln : Nat} {xs : Nat → Int32} {r : Nat → Nat} {o : Nat} {a : Nat → Nat} {s x : St} {l : Nat → Int64} {i : Nat} (hi6 : i + 6 ≤ Ln) (hL4 : Ln ≤ 384) (hI : LI (cn s)) (hC : CI (cn s) x) (K : ∀ (s2 x2 : St) (l2 : Nat → Int64), LI (cn s2) → CI (cn s2) x2 → JL G bs Ln xs 65 1531 1221 [(0, .ref bs), (1, .ref (r 0)), (2, .ref o), (3, .int (nI i))] [] (cW G r x2 l2 ++ mW G o a s2)) : JL G bs Ln xs 65 1531 282 [(0, .ref bs), (1, .ref (r 0)), (2, .ref o), (3, .int (nI i))] [] (cW G r x l ++ mW G o a s) := by
  refine L_aload_n dL_law_282 rfl rfl ?_
  refine L_aload_n dL_law_283 rfl rfl ?_
  refine L_iload_n dL_law_284 rfl rfl ?_
  refine L_iconst (v := nI 1) dL_law_285 (by decide) ?_
  refine L_iaddN dL_law_286 ?_
  refine L_sld (i + 1) rfl (by omega) hL4 dL_law_287 ?_
  refine L_aload_n dL_law_288 rfl rfl ?_
  refine L_iload_n dL_law_289 rfl rfl ?_
  refine L_iconst (v := nI 2) dL_law_290 (by decide) ?_
  refine L_iaddN dL_law_291 ?_
  refine L_sld (i + 2) rfl (by omega) hL4 dL_law_292 ?_
  refine L_comm ?_
  refine L_callV (wr := mW G o a s) (wc := cW G r x l) (As := [.int (xs (i + 1)), .int (xs (i + 2))]) (st := []) 16 mvL_31 (c_X11_habit r x l (cn s) hI hC (xs (i + 1)) (xs (i + 2))) rfl rfl rfl rfl (by decide) (by decide) (by decide) dL_law_293 (fun v w1 h => ?_)
  obtain ⟨x2, l2, rfl, rfl, hC2⟩ := h
  refine L_comm ?_
  refine L_aload_n dL_law_296 rfl rfl ?_
  refine L_aload_n dL_law_297 rfl rfl ?_
  refine L_iload_n dL_law_298 rfl rfl ?_
  refine L_iconst (v := nI 1) dL_law_299 (by decide) ?_
  refine L_iaddN dL_law_300 ?_
  refine L_sld (i + 1) rfl (by omega) hL4 dL_law_301 ?_
  refine L_aload_n dL_law_302 rfl rfl ?_
  refine L_iload_n dL_law_303 rfl rfl ?_
  refine L_iconst (v := nI 2) dL_law_304 (by decide) ?_
  refine L_iaddN dL_law_305 ?_
  refine L_sld (i + 2) rfl (by omega) hL4 dL_law_306 ?_
  refine L_callV (wr := cW G r x2 l2) (wc := mW G o a s) (As := [.int (xs (i + 1)), .int (xs (i + 2))]) (st := [.int _]) 49 mvL_34 (c_X12_habit o a s hI (xs (i + 1)) (xs (i + 2))) rfl rfl rfl rfl (by decide) (Nat.le_of_ble_eq_true rfl) (by decide) dL_law_307 (fun v w1 h => ?_)
  obtain ⟨s2, rfl, rfl, h2⟩ := h
  exact L_icmp_eq 1221 dL_law_310 rfl (fun _ => K s2 x2 l2 (by rw [h2]; exact hI) (by rw [h2]; exact hC2)) (fun h => absurd rfl h)
theorem wl_497 : Cond.code yX11_heir cX11_heir 4 (some .int) ∈ TB := TB_mem 497 (by decide +kernel) (by decide +kernel)
theorem wl_494 : Cond.methodLink RL 35 yX11_heir ∈ TB := TB_mem 494 (by decide +kernel) (by decide +kernel)
theorem wl_495 : Cond.instanceMethod yX11_heir ∈ TB := TB_mem 495 (by decide +kernel) (by decide +kernel)
theorem wl_496 : Cond.selects RX11 yX11_heir yX11_heir ∈ TB := TB_mem 496 (by decide +kernel) (by decide +kernel)
theorem mvL_35 : MV RL 35 10 yX11_heir cX11_heir 4 (some .int) 2 := ⟨wl_497, wl_494, wl_495, ⟨TX11, 6, rfl⟩, wl_496, wl_51, by decide +kernel, by decide⟩
theorem wl_1081 : Cond.code yX12_heir cX12_heir 3 (some .int) ∈ TB := TB_mem 1081 (by decide +kernel) (by decide +kernel)
theorem wl_1078 : Cond.methodLink RL 38 yX12_heir ∈ TB := TB_mem 1078 (by decide +kernel) (by decide +kernel)
theorem wl_1079 : Cond.instanceMethod yX12_heir ∈ TB := TB_mem 1079 (by decide +kernel) (by decide +kernel)
theorem wl_1080 : Cond.selects RX12 yX12_heir yX12_heir ∈ TB := TB_mem 1080 (by decide +kernel) (by decide +kernel)
theorem mvL_38 : MV RL 38 11 yX12_heir cX12_heir 3 (some .int) 2 := ⟨wl_1081, wl_1078, wl_1079, ⟨TX12, 25, rfl⟩, wl_1080, wl_64, by decide +kernel, by decide⟩
theorem lc_5 {G : GT} {bs Ln : Nat} {xs : Nat → Int32} {r : Nat → Nat} {o : Nat} {a : Nat → Nat} {s x : St} {l : Nat → Int64} {i : Nat} (hi6 : i + 6 ≤ Ln) (hL4 : Ln ≤ 384) (hI : LI (cn s)) (hC : CI (cn s) x) (K : ∀ (s2 x2 : St) (l2 : Nat → Int64), LI (cn s2) → CI (cn s2) x2 → JL G bs Ln xs 65 1531 1221 [(0, .ref bs), (1, .ref (r 0)), (2, .ref o), (3, .int (nI i))] [] (cW G r x2 l2 ++ mW G o a s2)) : JL G bs Ln xs 65 1531 315 [(0, .ref bs), (1, .ref (r 0)), (2, .ref o), (3, .int (nI i))] [] (cW G r x l ++ mW G o a s) := by
  refine L_aload_n dL_law_315 rfl rfl ?_
  refine L_aload_n dL_law_316 rfl rfl ?_
  refine L_iload_n dL_law_317 rfl rfl ?_
  refine L_iconst (v := nI 1) dL_law_318 (by decide) ?_
  refine L_iaddN dL_law_319 ?_
  refine L_sld (i + 1) rfl (by omega) hL4 dL_law_320 ?_
  refine L_aload_n dL_law_321 rfl rfl ?_
  refine L_iload_n dL_law_322 rfl rfl ?_
  refine L_iconst (v := nI 2) dL_law_323 (by decide) ?_
  refine L_iaddN dL_law_324 ?_
  refine L_sld (i + 2) rfl (by omega) hL4 dL_law_325 ?_
  refine L_comm ?_
  refine L_callV (wr := mW G o a s) (wc := cW G r x l) (As := [.int (xs (i + 1)), .int (xs (i + 2))]) (st := []) 16 mvL_35 (c_X11_heir r x l (cn s) hI hC (xs (i + 1)) (xs (i + 2))) rfl rfl rfl rfl (by decide) (by decide) (by decide) dL_law_326 (fun v w1 h => ?_)
  obtain ⟨x2, l2, rfl, rfl, hC2⟩ := h
  refine L_comm ?_
  refine L_aload_n dL_law_329 rfl rfl ?_
  refine L_aload_n dL_law_330 rfl rfl ?_
  refine L_iload_n dL_law_331 rfl rfl ?_
  refine L_iconst (v := nI 1) dL_law_332 (by decide) ?_
  refine L_iaddN dL_law_333 ?_
  refine L_sld (i + 1) rfl (by omega) hL4 dL_law_334 ?_
  refine L_aload_n dL_law_335 rfl rfl ?_
  refine L_iload_n dL_law_336 rfl rfl ?_
  refine L_iconst (v := nI 2) dL_law_337 (by decide) ?_
  refine L_iaddN dL_law_338 ?_
  refine L_sld (i + 2) rfl (by omega) hL4 dL_law_339 ?_
  refine L_callV (wr := cW G r x2 l2) (wc := mW G o a s) (As := [.int (xs (i + 1)), .int (xs (i + 2))]) (st := [.int _]) 49 mvL_38 (c_X12_heir o a s hI (xs (i + 1)) (xs (i + 2))) rfl rfl rfl rfl (by decide) (Nat.le_of_ble_eq_true rfl) (by decide) dL_law_340 (fun v w1 h => ?_)
  obtain ⟨s2, rfl, rfl, h2⟩ := h
  exact L_icmp_eq 1221 dL_law_343 rfl (fun _ => K s2 x2 l2 (by rw [h2]; exact hI) (by rw [h2]; exact hC2)) (fun h => absurd rfl h)
theorem wl_504 : Cond.code yX11_clause cX11_clause 4 (some .int) ∈ TB := TB_mem 504 (by decide +kernel) (by decide +kernel)
theorem wl_501 : Cond.methodLink RL 39 yX11_clause ∈ TB := TB_mem 501 (by decide +kernel) (by decide +kernel)
theorem wl_502 : Cond.instanceMethod yX11_clause ∈ TB := TB_mem 502 (by decide +kernel) (by decide +kernel)
theorem wl_503 : Cond.selects RX11 yX11_clause yX11_clause ∈ TB := TB_mem 503 (by decide +kernel) (by decide +kernel)
theorem mvL_39 : MV RL 39 10 yX11_clause cX11_clause 4 (some .int) 2 := ⟨wl_504, wl_501, wl_502, ⟨TX11, 6, rfl⟩, wl_503, wl_51, by decide +kernel, by decide⟩
theorem wl_1089 : Cond.code yX12_clause cX12_clause 3 (some .int) ∈ TB := TB_mem 1089 (by decide +kernel) (by decide +kernel)
theorem wl_1086 : Cond.methodLink RL 42 yX12_clause ∈ TB := TB_mem 1086 (by decide +kernel) (by decide +kernel)
theorem wl_1087 : Cond.instanceMethod yX12_clause ∈ TB := TB_mem 1087 (by decide +kernel) (by decide +kernel)
theorem wl_1088 : Cond.selects RX12 yX12_clause yX12_clause ∈ TB := TB_mem 1088 (by decide +kernel) (by decide +kernel)
theorem mvL_42 : MV RL 42 11 yX12_clause cX12_clause 3 (some .int) 2 := ⟨wl_1089, wl_1086, wl_1087, ⟨TX12, 25, rfl⟩, wl_1088, wl_64, by decide +kernel, by decide⟩
theorem lc_6 {G : GT} {bs Ln : Nat} {xs : Nat → Int32} {r : Nat → Nat} {o : Nat} {a : Nat → Nat} {s x : St} {l : Nat → Int64} {i : Nat} (hi6 : i + 6 ≤ Ln) (hL4 : Ln ≤ 384) (hI : LI (cn s)) (hC : CI (cn s) x) (K : ∀ (s2 x2 : St) (l2 : Nat → Int64), LI (cn s2) → CI (cn s2) x2 → JL G bs Ln xs 65 1531 1221 [(0, .ref bs), (1, .ref (r 0)), (2, .ref o), (3, .int (nI i))] [] (cW G r x2 l2 ++ mW G o a s2)) : JL G bs Ln xs 65 1531 348 [(0, .ref bs), (1, .ref (r 0)), (2, .ref o), (3, .int (nI i))] [] (cW G r x l ++ mW G o a s) := by
  refine L_aload_n dL_law_348 rfl rfl ?_
  refine L_aload_n dL_law_349 rfl rfl ?_
  refine L_iload_n dL_law_350 rfl rfl ?_
  refine L_iconst (v := nI 1) dL_law_351 (by decide) ?_
  refine L_iaddN dL_law_352 ?_
  refine L_sld (i + 1) rfl (by omega) hL4 dL_law_353 ?_
  refine L_aload_n dL_law_354 rfl rfl ?_
  refine L_iload_n dL_law_355 rfl rfl ?_
  refine L_iconst (v := nI 2) dL_law_356 (by decide) ?_
  refine L_iaddN dL_law_357 ?_
  refine L_sld (i + 2) rfl (by omega) hL4 dL_law_358 ?_
  refine L_comm ?_
  refine L_callV (wr := mW G o a s) (wc := cW G r x l) (As := [.int (xs (i + 1)), .int (xs (i + 2))]) (st := []) 16 mvL_39 (c_X11_clause r x l (cn s) hI hC (xs (i + 1)) (xs (i + 2))) rfl rfl rfl rfl (by decide) (by decide) (by decide) dL_law_359 (fun v w1 h => ?_)
  obtain ⟨x2, l2, rfl, rfl, hC2⟩ := h
  refine L_comm ?_
  refine L_aload_n dL_law_362 rfl rfl ?_
  refine L_aload_n dL_law_363 rfl rfl ?_
  refine L_iload_n dL_law_364 rfl rfl ?_
  refine L_iconst (v := nI 1) dL_law_365 (by decide) ?_
  refine L_iaddN dL_law_366 ?_
  refine L_sld (i + 1) rfl (by omega) hL4 dL_law_367 ?_
  refine L_aload_n dL_law_368 rfl rfl ?_
  refine L_iload_n dL_law_369 rfl rfl ?_
  refine L_iconst (v := nI 2) dL_law_370 (by decide) ?_
  refine L_iaddN dL_law_371 ?_
  refine L_sld (i + 2) rfl (by omega) hL4 dL_law_372 ?_
  refine L_callV (wr := cW G r x2 l2) (wc := mW G o a s) (As := [.int (xs (i + 1)), .int (xs (i + 2))]) (st := [.int _]) 49 mvL_42 (c_X12_clause o a s hI (xs (i + 1)) (xs (i + 2))) rfl rfl rfl rfl (by decide) (Nat.le_of_ble_eq_true rfl) (by decide) dL_law_373 (fun v w1 h => ?_)
  obtain ⟨s2, rfl, rfl, h2⟩ := h
  exact L_icmp_eq 1221 dL_law_376 rfl (fun _ => K s2 x2 l2 (by rw [h2]; exact hI) (by rw [h2]; exact hC2)) (fun h => absurd rfl h)
theorem wl_511 : Cond.code yX11_refuse cX11_refuse 3 (some .int) ∈ TB := TB_mem 511 (by decide +kernel) (by decide +kernel)
theorem wl_508 : Cond.methodLink RL 43 yX11_refuse ∈ TB := TB_mem 508 (by decide +kernel) (by decide +kernel)
theorem wl_509 : Cond.instanceMethod yX11_refuse ∈ TB := TB_mem 509 (by decide +kernel) (by decide +kernel)
theorem wl_510 : Cond.selects RX11 yX11_refuse yX11_refuse ∈ TB := TB_mem 510 (by decide +kernel) (by decide +kernel)
theorem mvL_43 : MV RL 43 10 yX11_refuse cX11_refuse 3 (some .int) 2 := ⟨wl_511, wl_508, wl_509, ⟨TX11, 6, rfl⟩, wl_510, wl_51, by decide +kernel, by decide⟩
theorem wl_1093 : Cond.code yX12_refuse cX12_refuse 3 (some .int) ∈ TB := TB_mem 1093 (by decide +kernel) (by decide +kernel)
theorem wl_1090 : Cond.methodLink RL 46 yX12_refuse ∈ TB := TB_mem 1090 (by decide +kernel) (by decide +kernel)
theorem wl_1091 : Cond.instanceMethod yX12_refuse ∈ TB := TB_mem 1091 (by decide +kernel) (by decide +kernel)
theorem wl_1092 : Cond.selects RX12 yX12_refuse yX12_refuse ∈ TB := TB_mem 1092 (by decide +kernel) (by decide +kernel)
theorem mvL_46 : MV RL 46 11 yX12_refuse cX12_refuse 3 (some .int) 2 := ⟨wl_1093, wl_1090, wl_1091, ⟨TX12, 25, rfl⟩, wl_1092, wl_64, by decide +kernel, by decide⟩
theorem lc_7 {G : GT} {bs Ln : Nat} {xs : Nat → Int32} {r : Nat → Nat} {o : Nat} {a : Nat → Nat} {s x : St} {l : Nat → Int64} {i : Nat} (hi6 : i + 6 ≤ Ln) (hL4 : Ln ≤ 384) (hI : LI (cn s)) (hC : CI (cn s) x) (K : ∀ (s2 x2 : St) (l2 : Nat → Int64), LI (cn s2) → CI (cn s2) x2 → JL G bs Ln xs 65 1531 1221 [(0, .ref bs), (1, .ref (r 0)), (2, .ref o), (3, .int (nI i))] [] (cW G r x2 l2 ++ mW G o a s2)) : JL G bs Ln xs 65 1531 381 [(0, .ref bs), (1, .ref (r 0)), (2, .ref o), (3, .int (nI i))] [] (cW G r x l ++ mW G o a s) := by
  refine L_aload_n dL_law_381 rfl rfl ?_
  refine L_aload_n dL_law_382 rfl rfl ?_
  refine L_iload_n dL_law_383 rfl rfl ?_
  refine L_iconst (v := nI 1) dL_law_384 (by decide) ?_
  refine L_iaddN dL_law_385 ?_
  refine L_sld (i + 1) rfl (by omega) hL4 dL_law_386 ?_
  refine L_aload_n dL_law_387 rfl rfl ?_
  refine L_iload_n dL_law_388 rfl rfl ?_
  refine L_iconst (v := nI 2) dL_law_389 (by decide) ?_
  refine L_iaddN dL_law_390 ?_
  refine L_sld (i + 2) rfl (by omega) hL4 dL_law_391 ?_
  refine L_comm ?_
  refine L_callV (wr := mW G o a s) (wc := cW G r x l) (As := [.int (xs (i + 1)), .int (xs (i + 2))]) (st := []) 16 mvL_43 (c_X11_refuse r x l (cn s) hI hC (xs (i + 1)) (xs (i + 2))) rfl rfl rfl rfl (by decide) (by decide) (by decide) dL_law_392 (fun v w1 h => ?_)
  obtain ⟨x2, l2, rfl, rfl, hC2⟩ := h
  refine L_comm ?_
  refine L_aload_n dL_law_395 rfl rfl ?_
  refine L_aload_n dL_law_396 rfl rfl ?_
  refine L_iload_n dL_law_397 rfl rfl ?_
  refine L_iconst (v := nI 1) dL_law_398 (by decide) ?_
  refine L_iaddN dL_law_399 ?_
  refine L_sld (i + 1) rfl (by omega) hL4 dL_law_400 ?_
  refine L_aload_n dL_law_401 rfl rfl ?_
  refine L_iload_n dL_law_402 rfl rfl ?_
  refine L_iconst (v := nI 2) dL_law_403 (by decide) ?_
  refine L_iaddN dL_law_404 ?_
  refine L_sld (i + 2) rfl (by omega) hL4 dL_law_405 ?_
  refine L_callV (wr := cW G r x2 l2) (wc := mW G o a s) (As := [.int (xs (i + 1)), .int (xs (i + 2))]) (st := [.int _]) 49 mvL_46 (c_X12_refuse o a s hI (xs (i + 1)) (xs (i + 2))) rfl rfl rfl rfl (by decide) (Nat.le_of_ble_eq_true rfl) (by decide) dL_law_406 (fun v w1 h => ?_)
  obtain ⟨s2, rfl, rfl, h2⟩ := h
  exact L_icmp_eq 1221 dL_law_409 rfl (fun _ => K s2 x2 l2 (by rw [h2]; exact li_refuse hI (xs (i + 1)) (xs (i + 2))) (by rw [h2]; exact hC2)) (fun h => absurd rfl h)
theorem wl_520 : Cond.code yX11_back cX11_back 1 (some .int) ∈ TB := TB_mem 520 (by decide +kernel) (by decide +kernel)
theorem wl_517 : Cond.methodLink RL 47 yX11_back ∈ TB := TB_mem 517 (by decide +kernel) (by decide +kernel)
theorem wl_518 : Cond.instanceMethod yX11_back ∈ TB := TB_mem 518 (by decide +kernel) (by decide +kernel)
theorem wl_519 : Cond.selects RX11 yX11_back yX11_back ∈ TB := TB_mem 519 (by decide +kernel) (by decide +kernel)
theorem mvL_47 : MV RL 47 10 yX11_back cX11_back 1 (some .int) 0 := ⟨wl_520, wl_517, wl_518, ⟨TX11, 6, rfl⟩, wl_519, wl_51, by decide +kernel, by decide⟩
theorem wl_1102 : Cond.code yX12_back cX12_back 1 (some .int) ∈ TB := TB_mem 1102 (by decide +kernel) (by decide +kernel)
theorem wl_1099 : Cond.methodLink RL 51 yX12_back ∈ TB := TB_mem 1099 (by decide +kernel) (by decide +kernel)
theorem wl_1100 : Cond.instanceMethod yX12_back ∈ TB := TB_mem 1100 (by decide +kernel) (by decide +kernel)
theorem wl_1101 : Cond.selects RX12 yX12_back yX12_back ∈ TB := TB_mem 1101 (by decide +kernel) (by decide +kernel)
theorem mvL_51 : MV RL 51 11 yX12_back cX12_back 1 (some .int) 0 := ⟨wl_1102, wl_1099, wl_1100, ⟨TX12, 25, rfl⟩, wl_1101, wl_64, by decide +kernel, by decide⟩
theorem lc_8 {G : GT} {bs Ln : Nat} {xs : Nat → Int32} {r : Nat → Nat} {o : Nat} {a : Nat → Nat} {s x : St} {l : Nat → Int64} {i : Nat} (hi6 : i + 6 ≤ Ln) (hL4 : Ln ≤ 384) (hI : LI (cn s)) (hC : CI (cn s) x) (K : ∀ (s2 x2 : St) (l2 : Nat → Int64), LI (cn s2) → CI (cn s2) x2 → JL G bs Ln xs 65 1531 1221 [(0, .ref bs), (1, .ref (r 0)), (2, .ref o), (3, .int (nI i))] [] (cW G r x2 l2 ++ mW G o a s2)) : JL G bs Ln xs 65 1531 414 [(0, .ref bs), (1, .ref (r 0)), (2, .ref o), (3, .int (nI i))] [] (cW G r x l ++ mW G o a s) := by
  refine L_aload_n dL_law_414 rfl rfl ?_
  refine L_comm ?_
  refine L_callV (wr := mW G o a s) (wc := cW G r x l) (As := []) (st := []) 16 mvL_47 (c_X11_back r x l (cn s) hI hC) rfl rfl rfl rfl (by decide) (by decide) (by decide) dL_law_415 (fun v w1 h => ?_)
  obtain ⟨x2, l2, rfl, rfl, hC2⟩ := h
  refine L_comm ?_
  refine L_aload_n dL_law_418 rfl rfl ?_
  refine L_callV (wr := cW G r x2 l2) (wc := mW G o a s) (As := []) (st := [.int _]) 49 mvL_51 (c_X12_back o a s hI) rfl rfl rfl rfl (by decide) (Nat.le_of_ble_eq_true rfl) (by decide) dL_law_419 (fun v w1 h => ?_)
  obtain ⟨s2, rfl, rfl, h2⟩ := h
  exact L_icmp_eq 1221 dL_law_422 rfl (fun _ => K s2 x2 l2 (by rw [h2]; exact li_back hI) (by rw [h2]; exact hC2)) (fun h => absurd rfl h)
theorem wl_528 : Cond.code yX11_value cX11_value 4 (some .int) ∈ TB := TB_mem 528 (by decide +kernel) (by decide +kernel)
theorem wl_525 : Cond.methodLink RL 52 yX11_value ∈ TB := TB_mem 525 (by decide +kernel) (by decide +kernel)
theorem wl_526 : Cond.instanceMethod yX11_value ∈ TB := TB_mem 526 (by decide +kernel) (by decide +kernel)
theorem wl_527 : Cond.selects RX11 yX11_value yX11_value ∈ TB := TB_mem 527 (by decide +kernel) (by decide +kernel)
theorem mvL_52 : MV RL 52 10 yX11_value cX11_value 4 (some .int) 3 := ⟨wl_528, wl_525, wl_526, ⟨TX11, 6, rfl⟩, wl_527, wl_51, by decide +kernel, by decide⟩
theorem wl_1106 : Cond.code yX12_value cX12_value 5 (some .int) ∈ TB := TB_mem 1106 (by decide +kernel) (by decide +kernel)
theorem wl_1103 : Cond.methodLink RL 56 yX12_value ∈ TB := TB_mem 1103 (by decide +kernel) (by decide +kernel)
theorem wl_1104 : Cond.instanceMethod yX12_value ∈ TB := TB_mem 1104 (by decide +kernel) (by decide +kernel)
theorem wl_1105 : Cond.selects RX12 yX12_value yX12_value ∈ TB := TB_mem 1105 (by decide +kernel) (by decide +kernel)
theorem mvL_56 : MV RL 56 11 yX12_value cX12_value 5 (some .int) 3 := ⟨wl_1106, wl_1103, wl_1104, ⟨TX12, 25, rfl⟩, wl_1105, wl_64, by decide +kernel, by decide⟩
theorem lc_9 {G : GT} {bs Ln : Nat} {xs : Nat → Int32} {r : Nat → Nat} {o : Nat} {a : Nat → Nat} {s x : St} {l : Nat → Int64} {i : Nat} (hi6 : i + 6 ≤ Ln) (hL4 : Ln ≤ 384) (hI : LI (cn s)) (hC : CI (cn s) x) (K : ∀ (s2 x2 : St) (l2 : Nat → Int64), LI (cn s2) → CI (cn s2) x2 → JL G bs Ln xs 65 1531 1221 [(0, .ref bs), (1, .ref (r 0)), (2, .ref o), (3, .int (nI i))] [] (cW G r x2 l2 ++ mW G o a s2)) : JL G bs Ln xs 65 1531 427 [(0, .ref bs), (1, .ref (r 0)), (2, .ref o), (3, .int (nI i))] [] (cW G r x l ++ mW G o a s) := by
  refine L_aload_n dL_law_427 rfl rfl ?_
  refine L_aload_n dL_law_428 rfl rfl ?_
  refine L_iload_n dL_law_429 rfl rfl ?_
  refine L_iconst (v := nI 1) dL_law_430 (by decide) ?_
  refine L_iaddN dL_law_431 ?_
  refine L_sld (i + 1) rfl (by omega) hL4 dL_law_432 ?_
  refine L_aload_n dL_law_433 rfl rfl ?_
  refine L_iload_n dL_law_434 rfl rfl ?_
  refine L_iconst (v := nI 2) dL_law_435 (by decide) ?_
  refine L_iaddN dL_law_436 ?_
  refine L_sld (i + 2) rfl (by omega) hL4 dL_law_437 ?_
  refine L_aload_n dL_law_438 rfl rfl ?_
  refine L_iload_n dL_law_439 rfl rfl ?_
  refine L_iconst (v := nI 3) dL_law_440 (by decide) ?_
  refine L_iaddN dL_law_441 ?_
  refine L_sld (i + 3) rfl (by omega) hL4 dL_law_442 ?_
  refine L_comm ?_
  refine L_callV (wr := mW G o a s) (wc := cW G r x l) (As := [.int (xs (i + 1)), .int (xs (i + 2)), .int (xs (i + 3))]) (st := []) 16 mvL_52 (c_X11_value r x l (cn s) hI hC (xs (i + 1)) (xs (i + 2)) (xs (i + 3))) rfl rfl rfl rfl (by decide) (by decide) (by decide) dL_law_443 (fun v w1 h => ?_)
  obtain ⟨x2, l2, rfl, rfl, hC2⟩ := h
  refine L_comm ?_
  refine L_aload_n dL_law_446 rfl rfl ?_
  refine L_aload_n dL_law_447 rfl rfl ?_
  refine L_iload_n dL_law_448 rfl rfl ?_
  refine L_iconst (v := nI 1) dL_law_449 (by decide) ?_
  refine L_iaddN dL_law_450 ?_
  refine L_sld (i + 1) rfl (by omega) hL4 dL_law_451 ?_
  refine L_aload_n dL_law_452 rfl rfl ?_
  refine L_iload_n dL_law_453 rfl rfl ?_
  refine L_iconst (v := nI 2) dL_law_454 (by decide) ?_
  refine L_iaddN dL_law_455 ?_
  refine L_sld (i + 2) rfl (by omega) hL4 dL_law_456 ?_
  refine L_aload_n dL_law_457 rfl rfl ?_
  refine L_iload_n dL_law_458 rfl rfl ?_
  refine L_iconst (v := nI 3) dL_law_459 (by decide) ?_
  refine L_iaddN dL_law_460 ?_
  refine L_sld (i + 3) rfl (by omega) hL4 dL_law_461 ?_
  refine L_callV (wr := cW G r x2 l2) (wc := mW G o a s) (As := [.int (xs (i + 1)), .int (xs (i + 2)), .int (xs (i + 3))]) (st := [.int _]) 49 mvL_56 (c_X12_value o a s hI (xs (i + 1)) (xs (i + 2)) (xs (i + 3))) rfl rfl rfl rfl (by decide) (Nat.le_of_ble_eq_true rfl) (by decide) dL_law_462 (fun v w1 h => ?_)
  obtain ⟨s2, rfl, rfl, h2⟩ := h
  exact L_icmp_eq 1221 dL_law_465 rfl (fun _ => K s2 x2 l2 (by rw [h2]; exact li_value hI (xs (i + 1)) (xs (i + 2)) (xs (i + 3))) (by rw [h2]; exact hC2)) (fun h => absurd rfl h)
theorem wl_537 : Cond.code yX11_with cX11_with 2 (some .int) ∈ TB := TB_mem 537 (by decide +kernel) (by decide +kernel)
theorem wl_534 : Cond.methodLink RL 57 yX11_with ∈ TB := TB_mem 534 (by decide +kernel) (by decide +kernel)
theorem wl_535 : Cond.instanceMethod yX11_with ∈ TB := TB_mem 535 (by decide +kernel) (by decide +kernel)
theorem wl_536 : Cond.selects RX11 yX11_with yX11_with ∈ TB := TB_mem 536 (by decide +kernel) (by decide +kernel)
theorem mvL_57 : MV RL 57 10 yX11_with cX11_with 2 (some .int) 1 := ⟨wl_537, wl_534, wl_535, ⟨TX11, 6, rfl⟩, wl_536, wl_51, by decide +kernel, by decide⟩
theorem wl_1112 : Cond.code yX12_with cX12_with 2 (some .int) ∈ TB := TB_mem 1112 (by decide +kernel) (by decide +kernel)
theorem wl_1109 : Cond.methodLink RL 60 yX12_with ∈ TB := TB_mem 1109 (by decide +kernel) (by decide +kernel)
theorem wl_1110 : Cond.instanceMethod yX12_with ∈ TB := TB_mem 1110 (by decide +kernel) (by decide +kernel)
theorem wl_1111 : Cond.selects RX12 yX12_with yX12_with ∈ TB := TB_mem 1111 (by decide +kernel) (by decide +kernel)
theorem mvL_60 : MV RL 60 11 yX12_with cX12_with 2 (some .int) 1 := ⟨wl_1112, wl_1109, wl_1110, ⟨TX12, 25, rfl⟩, wl_1111, wl_64, by decide +kernel, by decide⟩
theorem lc_10 {G : GT} {bs Ln : Nat} {xs : Nat → Int32} {r : Nat → Nat} {o : Nat} {a : Nat → Nat} {s x : St} {l : Nat → Int64} {i : Nat} (hi6 : i + 6 ≤ Ln) (hL4 : Ln ≤ 384) (hI : LI (cn s)) (hC : CI (cn s) x) (K : ∀ (s2 x2 : St) (l2 : Nat → Int64), LI (cn s2) → CI (cn s2) x2 → JL G bs Ln xs 65 1531 1221 [(0, .ref bs), (1, .ref (r 0)), (2, .ref o), (3, .int (nI i))] [] (cW G r x2 l2 ++ mW G o a s2)) : JL G bs Ln xs 65 1531 470 [(0, .ref bs), (1, .ref (r 0)), (2, .ref o), (3, .int (nI i))] [] (cW G r x l ++ mW G o a s) := by
  refine L_aload_n dL_law_470 rfl rfl ?_
  refine L_aload_n dL_law_471 rfl rfl ?_
  refine L_iload_n dL_law_472 rfl rfl ?_
  refine L_iconst (v := nI 1) dL_law_473 (by decide) ?_
  refine L_iaddN dL_law_474 ?_
  refine L_sld (i + 1) rfl (by omega) hL4 dL_law_475 ?_
  refine L_comm ?_
  refine L_callV (wr := mW G o a s) (wc := cW G r x l) (As := [.int (xs (i + 1))]) (st := []) 16 mvL_57 (c_X11_with r x l (cn s) hI hC (xs (i + 1))) rfl rfl rfl rfl (by decide) (by decide) (by decide) dL_law_476 (fun v w1 h => ?_)
  obtain ⟨x2, l2, rfl, rfl, hC2⟩ := h
  refine L_comm ?_
  refine L_aload_n dL_law_479 rfl rfl ?_
  refine L_aload_n dL_law_480 rfl rfl ?_
  refine L_iload_n dL_law_481 rfl rfl ?_
  refine L_iconst (v := nI 1) dL_law_482 (by decide) ?_
  refine L_iaddN dL_law_483 ?_
  refine L_sld (i + 1) rfl (by omega) hL4 dL_law_484 ?_
  refine L_callV (wr := cW G r x2 l2) (wc := mW G o a s) (As := [.int (xs (i + 1))]) (st := [.int _]) 49 mvL_60 (c_X12_with o a s hI (xs (i + 1))) rfl rfl rfl rfl (by decide) (Nat.le_of_ble_eq_true rfl) (by decide) dL_law_485 (fun v w1 h => ?_)
  obtain ⟨s2, rfl, rfl, h2⟩ := h
  exact L_icmp_eq 1221 dL_law_488 rfl (fun _ => K s2 x2 l2 (by rw [h2]; exact hI) (by rw [h2]; exact hC2)) (fun h => absurd rfl h)
theorem wl_573 : Cond.code yX11_has cX11_has 5 (some .int) ∈ TB := TB_mem 573 (by decide +kernel) (by decide +kernel)
theorem wl_570 : Cond.methodLink RL 61 yX11_has ∈ TB := TB_mem 570 (by decide +kernel) (by decide +kernel)
theorem wl_571 : Cond.instanceMethod yX11_has ∈ TB := TB_mem 571 (by decide +kernel) (by decide +kernel)
theorem wl_572 : Cond.selects RX11 yX11_has yX11_has ∈ TB := TB_mem 572 (by decide +kernel) (by decide +kernel)
theorem mvL_61 : MV RL 61 10 yX11_has cX11_has 5 (some .int) 2 := ⟨wl_573, wl_570, wl_571, ⟨TX11, 6, rfl⟩, wl_572, wl_51, by decide +kernel, by decide⟩
theorem wl_1135 : Cond.code yX12_has cX12_has 3 (some .int) ∈ TB := TB_mem 1135 (by decide +kernel) (by decide +kernel)
theorem wl_1132 : Cond.methodLink RL 64 yX12_has ∈ TB := TB_mem 1132 (by decide +kernel) (by decide +kernel)
theorem wl_1133 : Cond.instanceMethod yX12_has ∈ TB := TB_mem 1133 (by decide +kernel) (by decide +kernel)
theorem wl_1134 : Cond.selects RX12 yX12_has yX12_has ∈ TB := TB_mem 1134 (by decide +kernel) (by decide +kernel)
theorem mvL_64 : MV RL 64 11 yX12_has cX12_has 3 (some .int) 2 := ⟨wl_1135, wl_1132, wl_1133, ⟨TX12, 25, rfl⟩, wl_1134, wl_64, by decide +kernel, by decide⟩
theorem lc_11 {G : GT} {bs Ln : Nat} {xs : Nat → Int32} {r : Nat → Nat} {o : Nat} {a : Nat → Nat} {s x : St} {l : Nat → Int64} {i : Nat} (hi6 : i + 6 ≤ Ln) (hL4 : Ln ≤ 384) (hI : LI (cn s)) (hC : CI (cn s) x) (K : ∀ (s2 x2 : St) (l2 : Nat → Int64), LI (cn s2) → CI (cn s2) x2 → JL G bs Ln xs 65 1531 1221 [(0, .ref bs), (1, .ref (r 0)), (2, .ref o), (3, .int (nI i))] [] (cW G r x2 l2 ++ mW G o a s2)) : JL G bs Ln xs 65 1531 493 [(0, .ref bs), (1, .ref (r 0)), (2, .ref o), (3, .int (nI i))] [] (cW G r x l ++ mW G o a s) := by
  refine L_aload_n dL_law_493 rfl rfl ?_
  refine L_aload_n dL_law_494 rfl rfl ?_
  refine L_iload_n dL_law_495 rfl rfl ?_
  refine L_iconst (v := nI 1) dL_law_496 (by decide) ?_
  refine L_iaddN dL_law_497 ?_
  refine L_sld (i + 1) rfl (by omega) hL4 dL_law_498 ?_
  refine L_aload_n dL_law_499 rfl rfl ?_
  refine L_iload_n dL_law_500 rfl rfl ?_
  refine L_iconst (v := nI 2) dL_law_501 (by decide) ?_
  refine L_iaddN dL_law_502 ?_
  refine L_sld (i + 2) rfl (by omega) hL4 dL_law_503 ?_
  refine L_comm ?_
  refine L_callV (wr := mW G o a s) (wc := cW G r x l) (As := [.int (xs (i + 1)), .int (xs (i + 2))]) (st := []) 16 mvL_61 (c_X11_has r x l (cn s) hI hC (xs (i + 1)) (xs (i + 2))) rfl rfl rfl rfl (by decide) (by decide) (by decide) dL_law_504 (fun v w1 h => ?_)
  obtain ⟨x2, l2, rfl, rfl, hC2⟩ := h
  refine L_comm ?_
  refine L_aload_n dL_law_507 rfl rfl ?_
  refine L_aload_n dL_law_508 rfl rfl ?_
  refine L_iload_n dL_law_509 rfl rfl ?_
  refine L_iconst (v := nI 1) dL_law_510 (by decide) ?_
  refine L_iaddN dL_law_511 ?_
  refine L_sld (i + 1) rfl (by omega) hL4 dL_law_512 ?_
  refine L_aload_n dL_law_513 rfl rfl ?_
  refine L_iload_n dL_law_514 rfl rfl ?_
  refine L_iconst (v := nI 2) dL_law_515 (by decide) ?_
  refine L_iaddN dL_law_516 ?_
  refine L_sld (i + 2) rfl (by omega) hL4 dL_law_517 ?_
  refine L_callV (wr := cW G r x2 l2) (wc := mW G o a s) (As := [.int (xs (i + 1)), .int (xs (i + 2))]) (st := [.int _]) 49 mvL_64 (c_X12_has o a s hI (xs (i + 1)) (xs (i + 2))) rfl rfl rfl rfl (by decide) (Nat.le_of_ble_eq_true rfl) (by decide) dL_law_518 (fun v w1 h => ?_)
  obtain ⟨s2, rfl, rfl, h2⟩ := h
  exact L_icmp_eq 1221 dL_law_521 rfl (fun _ => K s2 x2 l2 (by rw [h2]; exact hI) (by rw [h2]; exact hC2)) (fun h => absurd rfl h)
theorem wl_613 : Cond.code yX11_does cX11_does 3 (some .int) ∈ TB := TB_mem 613 (by decide +kernel) (by decide +kernel)
theorem wl_610 : Cond.methodLink RL 65 yX11_does ∈ TB := TB_mem 610 (by decide +kernel) (by decide +kernel)
theorem wl_611 : Cond.instanceMethod yX11_does ∈ TB := TB_mem 611 (by decide +kernel) (by decide +kernel)
theorem wl_612 : Cond.selects RX11 yX11_does yX11_does ∈ TB := TB_mem 612 (by decide +kernel) (by decide +kernel)
theorem mvL_65 : MV RL 65 10 yX11_does cX11_does 3 (some .int) 2 := ⟨wl_613, wl_610, wl_611, ⟨TX11, 6, rfl⟩, wl_612, wl_51, by decide +kernel, by decide⟩
theorem wl_1178 : Cond.code yX12_does cX12_does 3 (some .int) ∈ TB := TB_mem 1178 (by decide +kernel) (by decide +kernel)
theorem wl_1175 : Cond.methodLink RL 68 yX12_does ∈ TB := TB_mem 1175 (by decide +kernel) (by decide +kernel)
theorem wl_1176 : Cond.instanceMethod yX12_does ∈ TB := TB_mem 1176 (by decide +kernel) (by decide +kernel)
theorem wl_1177 : Cond.selects RX12 yX12_does yX12_does ∈ TB := TB_mem 1177 (by decide +kernel) (by decide +kernel)
theorem mvL_68 : MV RL 68 11 yX12_does cX12_does 3 (some .int) 2 := ⟨wl_1178, wl_1175, wl_1176, ⟨TX12, 25, rfl⟩, wl_1177, wl_64, by decide +kernel, by decide⟩
theorem lc_12 {G : GT} {bs Ln : Nat} {xs : Nat → Int32} {r : Nat → Nat} {o : Nat} {a : Nat → Nat} {s x : St} {l : Nat → Int64} {i : Nat} (hi6 : i + 6 ≤ Ln) (hL4 : Ln ≤ 384) (hI : LI (cn s)) (hC : CI (cn s) x) (K : ∀ (s2 x2 : St) (l2 : Nat → Int64), LI (cn s2) → CI (cn s2) x2 → JL G bs Ln xs 65 1531 1221 [(0, .ref bs), (1, .ref (r 0)), (2, .ref o), (3, .int (nI i))] [] (cW G r x2 l2 ++ mW G o a s2)) : JL G bs Ln xs 65 1531 526 [(0, .ref bs), (1, .ref (r 0)), (2, .ref o), (3, .int (nI i))] [] (cW G r x l ++ mW G o a s) := by
  refine L_aload_n dL_law_526 rfl rfl ?_
  refine L_aload_n dL_law_527 rfl rfl ?_
  refine L_iload_n dL_law_528 rfl rfl ?_
  refine L_iconst (v := nI 1) dL_law_529 (by decide) ?_
  refine L_iaddN dL_law_530 ?_
  refine L_sld (i + 1) rfl (by omega) hL4 dL_law_531 ?_
  refine L_aload_n dL_law_532 rfl rfl ?_
  refine L_iload_n dL_law_533 rfl rfl ?_
  refine L_iconst (v := nI 2) dL_law_534 (by decide) ?_
  refine L_iaddN dL_law_535 ?_
  refine L_sld (i + 2) rfl (by omega) hL4 dL_law_536 ?_
  refine L_comm ?_
  refine L_callV (wr := mW G o a s) (wc := cW G r x l) (As := [.int (xs (i + 1)), .int (xs (i + 2))]) (st := []) 16 mvL_65 (c_X11_does r x l (cn s) hI hC (xs (i + 1)) (xs (i + 2))) rfl rfl rfl rfl (by decide) (by decide) (by decide) dL_law_537 (fun v w1 h => ?_)
  obtain ⟨x2, l2, rfl, rfl, hC2⟩ := h
  refine L_comm ?_
  refine L_aload_n dL_law_540 rfl rfl ?_
  refine L_aload_n dL_law_541 rfl rfl ?_
  refine L_iload_n dL_law_542 rfl rfl ?_
  refine L_iconst (v := nI 1) dL_law_543 (by decide) ?_
  refine L_iaddN dL_law_544 ?_
  refine L_sld (i + 1) rfl (by omega) hL4 dL_law_545 ?_
  refine L_aload_n dL_law_546 rfl rfl ?_
  refine L_iload_n dL_law_547 rfl rfl ?_
  refine L_iconst (v := nI 2) dL_law_548 (by decide) ?_
  refine L_iaddN dL_law_549 ?_
  refine L_sld (i + 2) rfl (by omega) hL4 dL_law_550 ?_
  refine L_callV (wr := cW G r x2 l2) (wc := mW G o a s) (As := [.int (xs (i + 1)), .int (xs (i + 2))]) (st := [.int _]) 49 mvL_68 (c_X12_does o a s hI (xs (i + 1)) (xs (i + 2))) rfl rfl rfl rfl (by decide) (Nat.le_of_ble_eq_true rfl) (by decide) dL_law_551 (fun v w1 h => ?_)
  obtain ⟨s2, rfl, rfl, h2⟩ := h
  exact L_icmp_eq 1221 dL_law_554 rfl (fun _ => K s2 x2 l2 (by rw [h2]; exact hI) (by rw [h2]; exact hC2)) (fun h => absurd rfl h)
theorem wl_627 : Cond.code yX11_done cX11_done 1 (some .int) ∈ TB := TB_mem 627 (by decide +kernel) (by decide +kernel)
theorem wl_624 : Cond.methodLink RL 69 yX11_done ∈ TB := TB_mem 624 (by decide +kernel) (by decide +kernel)
theorem wl_625 : Cond.instanceMethod yX11_done ∈ TB := TB_mem 625 (by decide +kernel) (by decide +kernel)
theorem wl_626 : Cond.selects RX11 yX11_done yX11_done ∈ TB := TB_mem 626 (by decide +kernel) (by decide +kernel)
theorem mvL_69 : MV RL 69 10 yX11_done cX11_done 1 (some .int) 0 := ⟨wl_627, wl_624, wl_625, ⟨TX11, 6, rfl⟩, wl_626, wl_51, by decide +kernel, by decide⟩
theorem wl_1190 : Cond.code yX12_done cX12_done 1 (some .int) ∈ TB := TB_mem 1190 (by decide +kernel) (by decide +kernel)
theorem wl_1187 : Cond.methodLink RL 72 yX12_done ∈ TB := TB_mem 1187 (by decide +kernel) (by decide +kernel)
theorem wl_1188 : Cond.instanceMethod yX12_done ∈ TB := TB_mem 1188 (by decide +kernel) (by decide +kernel)
theorem wl_1189 : Cond.selects RX12 yX12_done yX12_done ∈ TB := TB_mem 1189 (by decide +kernel) (by decide +kernel)
theorem mvL_72 : MV RL 72 11 yX12_done cX12_done 1 (some .int) 0 := ⟨wl_1190, wl_1187, wl_1188, ⟨TX12, 25, rfl⟩, wl_1189, wl_64, by decide +kernel, by decide⟩
theorem lc_13 {G : GT} {bs Ln : Nat} {xs : Nat → Int32} {r : Nat → Nat} {o : Nat} {a : Nat → Nat} {s x : St} {l : Nat → Int64} {i : Nat} (hi6 : i + 6 ≤ Ln) (hL4 : Ln ≤ 384) (hI : LI (cn s)) (hC : CI (cn s) x) (K : ∀ (s2 x2 : St) (l2 : Nat → Int64), LI (cn s2) → CI (cn s2) x2 → JL G bs Ln xs 65 1531 1221 [(0, .ref bs), (1, .ref (r 0)), (2, .ref o), (3, .int (nI i))] [] (cW G r x2 l2 ++ mW G o a s2)) : JL G bs Ln xs 65 1531 559 [(0, .ref bs), (1, .ref (r 0)), (2, .ref o), (3, .int (nI i))] [] (cW G r x l ++ mW G o a s) := by
  refine L_aload_n dL_law_559 rfl rfl ?_
  refine L_comm ?_
  refine L_callV (wr := mW G o a s) (wc := cW G r x l) (As := []) (st := []) 16 mvL_69 (c_X11_done r x l (cn s) hI hC) rfl rfl rfl rfl (by decide) (by decide) (by decide) dL_law_560 (fun v w1 h => ?_)
  obtain ⟨x2, l2, rfl, rfl, hC2⟩ := h
  refine L_comm ?_
  refine L_aload_n dL_law_563 rfl rfl ?_
  refine L_callV (wr := cW G r x2 l2) (wc := mW G o a s) (As := []) (st := [.int _]) 49 mvL_72 (c_X12_done o a s hI) rfl rfl rfl rfl (by decide) (Nat.le_of_ble_eq_true rfl) (by decide) dL_law_564 (fun v w1 h => ?_)
  obtain ⟨s2, rfl, rfl, h2⟩ := h
  exact L_icmp_eq 1221 dL_law_567 rfl (fun _ => K s2 x2 l2 (by rw [h2]; exact hI) (by rw [h2]; exact hC2)) (fun h => absurd rfl h)
theorem wl_631 : Cond.code yX11_quarrel cX11_quarrel 6 (some .int) ∈ TB := TB_mem 631 (by decide +kernel) (by decide +kernel)
theorem wl_628 : Cond.methodLink RL 73 yX11_quarrel ∈ TB := TB_mem 628 (by decide +kernel) (by decide +kernel)
theorem wl_629 : Cond.instanceMethod yX11_quarrel ∈ TB := TB_mem 629 (by decide +kernel) (by decide +kernel)
theorem wl_630 : Cond.selects RX11 yX11_quarrel yX11_quarrel ∈ TB := TB_mem 630 (by decide +kernel) (by decide +kernel)
theorem mvL_73 : MV RL 73 10 yX11_quarrel cX11_quarrel 6 (some .int) 1 := ⟨wl_631, wl_628, wl_629, ⟨TX11, 6, rfl⟩, wl_630, wl_51, by decide +kernel, by decide⟩
theorem wl_1194 : Cond.code yX12_quarrel cX12_quarrel 2 (some .int) ∈ TB := TB_mem 1194 (by decide +kernel) (by decide +kernel)
theorem wl_1191 : Cond.methodLink RL 76 yX12_quarrel ∈ TB := TB_mem 1191 (by decide +kernel) (by decide +kernel)
theorem wl_1192 : Cond.instanceMethod yX12_quarrel ∈ TB := TB_mem 1192 (by decide +kernel) (by decide +kernel)
theorem wl_1193 : Cond.selects RX12 yX12_quarrel yX12_quarrel ∈ TB := TB_mem 1193 (by decide +kernel) (by decide +kernel)
theorem mvL_76 : MV RL 76 11 yX12_quarrel cX12_quarrel 2 (some .int) 1 := ⟨wl_1194, wl_1191, wl_1192, ⟨TX12, 25, rfl⟩, wl_1193, wl_64, by decide +kernel, by decide⟩
theorem lc_14 {G : GT} {bs Ln : Nat} {xs : Nat → Int32} {r : Nat → Nat} {o : Nat} {a : Nat → Nat} {s x : St} {l : Nat → Int64} {i : Nat} (hi6 : i + 6 ≤ Ln) (hL4 : Ln ≤ 384) (hI : LI (cn s)) (hC : CI (cn s) x) (K : ∀ (s2 x2 : St) (l2 : Nat → Int64), LI (cn s2) → CI (cn s2) x2 → JL G bs Ln xs 65 1531 1221 [(0, .ref bs), (1, .ref (r 0)), (2, .ref o), (3, .int (nI i))] [] (cW G r x2 l2 ++ mW G o a s2)) : JL G bs Ln xs 65 1531 572 [(0, .ref bs), (1, .ref (r 0)), (2, .ref o), (3, .int (nI i))] [] (cW G r x l ++ mW G o a s) := by
  refine L_aload_n dL_law_572 rfl rfl ?_
  refine L_aload_n dL_law_573 rfl rfl ?_
  refine L_iload_n dL_law_574 rfl rfl ?_
  refine L_iconst (v := nI 1) dL_law_575 (by decide) ?_
  refine L_iaddN dL_law_576 ?_
  refine L_sld (i + 1) rfl (by omega) hL4 dL_law_577 ?_
  refine L_comm ?_
  refine L_callV (wr := mW G o a s) (wc := cW G r x l) (As := [.int (xs (i + 1))]) (st := []) 16 mvL_73 (c_X11_quarrel r x l (cn s) hI hC (xs (i + 1))) rfl rfl rfl rfl (by decide) (by decide) (by decide) dL_law_578 (fun v w1 h => ?_)
  obtain ⟨x2, l2, rfl, rfl, hC2⟩ := h
  refine L_comm ?_
  refine L_aload_n dL_law_581 rfl rfl ?_
  refine L_aload_n dL_law_582 rfl rfl ?_
  refine L_iload_n dL_law_583 rfl rfl ?_
  refine L_iconst (v := nI 1) dL_law_584 (by decide) ?_
  refine L_iaddN dL_law_585 ?_
  refine L_sld (i + 1) rfl (by omega) hL4 dL_law_586 ?_
  refine L_callV (wr := cW G r x2 l2) (wc := mW G o a s) (As := [.int (xs (i + 1))]) (st := [.int _]) 49 mvL_76 (c_X12_quarrel o a s hI (xs (i + 1))) rfl rfl rfl rfl (by decide) (Nat.le_of_ble_eq_true rfl) (by decide) dL_law_587 (fun v w1 h => ?_)
  obtain ⟨s2, rfl, rfl, h2⟩ := h
  exact L_icmp_eq 1221 dL_law_590 rfl (fun _ => K s2 x2 l2 (by rw [h2]; exact hI) (by rw [h2]; exact hC2)) (fun h => absurd rfl h)
theorem wl_647 : Cond.code yX11_best cX11_best 2 (some .int) ∈ TB := TB_mem 647 (by decide +kernel) (by decide +kernel)
theorem wl_644 : Cond.methodLink RL 77 yX11_best ∈ TB := TB_mem 644 (by decide +kernel) (by decide +kernel)
theorem wl_645 : Cond.instanceMethod yX11_best ∈ TB := TB_mem 645 (by decide +kernel) (by decide +kernel)
theorem wl_646 : Cond.selects RX11 yX11_best yX11_best ∈ TB := TB_mem 646 (by decide +kernel) (by decide +kernel)
theorem mvL_77 : MV RL 77 10 yX11_best cX11_best 2 (some .int) 1 := ⟨wl_647, wl_644, wl_645, ⟨TX11, 6, rfl⟩, wl_646, wl_51, by decide +kernel, by decide⟩
theorem wl_1202 : Cond.code yX12_best cX12_best 2 (some .int) ∈ TB := TB_mem 1202 (by decide +kernel) (by decide +kernel)
theorem wl_1199 : Cond.methodLink RL 80 yX12_best ∈ TB := TB_mem 1199 (by decide +kernel) (by decide +kernel)
theorem wl_1200 : Cond.instanceMethod yX12_best ∈ TB := TB_mem 1200 (by decide +kernel) (by decide +kernel)
theorem wl_1201 : Cond.selects RX12 yX12_best yX12_best ∈ TB := TB_mem 1201 (by decide +kernel) (by decide +kernel)
theorem mvL_80 : MV RL 80 11 yX12_best cX12_best 2 (some .int) 1 := ⟨wl_1202, wl_1199, wl_1200, ⟨TX12, 25, rfl⟩, wl_1201, wl_64, by decide +kernel, by decide⟩
theorem lc_15 {G : GT} {bs Ln : Nat} {xs : Nat → Int32} {r : Nat → Nat} {o : Nat} {a : Nat → Nat} {s x : St} {l : Nat → Int64} {i : Nat} (hi6 : i + 6 ≤ Ln) (hL4 : Ln ≤ 384) (hI : LI (cn s)) (hC : CI (cn s) x) (K : ∀ (s2 x2 : St) (l2 : Nat → Int64), LI (cn s2) → CI (cn s2) x2 → JL G bs Ln xs 65 1531 1221 [(0, .ref bs), (1, .ref (r 0)), (2, .ref o), (3, .int (nI i))] [] (cW G r x2 l2 ++ mW G o a s2)) : JL G bs Ln xs 65 1531 595 [(0, .ref bs), (1, .ref (r 0)), (2, .ref o), (3, .int (nI i))] [] (cW G r x l ++ mW G o a s) := by
  refine L_aload_n dL_law_595 rfl rfl ?_
  refine L_aload_n dL_law_596 rfl rfl ?_
  refine L_iload_n dL_law_597 rfl rfl ?_
  refine L_iconst (v := nI 1) dL_law_598 (by decide) ?_
  refine L_iaddN dL_law_599 ?_
  refine L_sld (i + 1) rfl (by omega) hL4 dL_law_600 ?_
  refine L_comm ?_
  refine L_callV (wr := mW G o a s) (wc := cW G r x l) (As := [.int (xs (i + 1))]) (st := []) 16 mvL_77 (c_X11_best r x l (cn s) hI hC (xs (i + 1))) rfl rfl rfl rfl (by decide) (by decide) (by decide) dL_law_601 (fun v w1 h => ?_)
  obtain ⟨x2, l2, rfl, rfl, hC2⟩ := h
  refine L_comm ?_
  refine L_aload_n dL_law_604 rfl rfl ?_
  refine L_aload_n dL_law_605 rfl rfl ?_
  refine L_iload_n dL_law_606 rfl rfl ?_
  refine L_iconst (v := nI 1) dL_law_607 (by decide) ?_
  refine L_iaddN dL_law_608 ?_
  refine L_sld (i + 1) rfl (by omega) hL4 dL_law_609 ?_
  refine L_callV (wr := cW G r x2 l2) (wc := mW G o a s) (As := [.int (xs (i + 1))]) (st := [.int _]) 49 mvL_80 (c_X12_best o a s hI (xs (i + 1))) rfl rfl rfl rfl (by decide) (Nat.le_of_ble_eq_true rfl) (by decide) dL_law_610 (fun v w1 h => ?_)
  obtain ⟨s2, rfl, rfl, h2⟩ := h
  exact L_icmp_eq 1221 dL_law_613 rfl (fun _ => K s2 x2 l2 (by rw [h2]; exact hI) (by rw [h2]; exact hC2)) (fun h => absurd rfl h)
theorem wl_684 : Cond.code yX11_write cX11_write 4 (some .int) ∈ TB := TB_mem 684 (by decide +kernel) (by decide +kernel)
theorem wl_681 : Cond.methodLink RL 81 yX11_write ∈ TB := TB_mem 681 (by decide +kernel) (by decide +kernel)
theorem wl_682 : Cond.instanceMethod yX11_write ∈ TB := TB_mem 682 (by decide +kernel) (by decide +kernel)
theorem wl_683 : Cond.selects RX11 yX11_write yX11_write ∈ TB := TB_mem 683 (by decide +kernel) (by decide +kernel)
theorem mvL_81 : MV RL 81 10 yX11_write cX11_write 4 (some .int) 2 := ⟨wl_684, wl_681, wl_682, ⟨TX11, 6, rfl⟩, wl_683, wl_51, by decide +kernel, by decide⟩
theorem wl_1222 : Cond.code yX12_write cX12_write 3 (some .int) ∈ TB := TB_mem 1222 (by decide +kernel) (by decide +kernel)
theorem wl_1219 : Cond.methodLink RL 84 yX12_write ∈ TB := TB_mem 1219 (by decide +kernel) (by decide +kernel)
theorem wl_1220 : Cond.instanceMethod yX12_write ∈ TB := TB_mem 1220 (by decide +kernel) (by decide +kernel)
theorem wl_1221 : Cond.selects RX12 yX12_write yX12_write ∈ TB := TB_mem 1221 (by decide +kernel) (by decide +kernel)
theorem mvL_84 : MV RL 84 11 yX12_write cX12_write 3 (some .int) 2 := ⟨wl_1222, wl_1219, wl_1220, ⟨TX12, 25, rfl⟩, wl_1221, wl_64, by decide +kernel, by decide⟩
theorem lc_16 {G : GT} {bs Ln : Nat} {xs : Nat → Int32} {r : Nat → Nat} {o : Nat} {a : Nat → Nat} {s x : St} {l : Nat → Int64} {i : Nat} (hi6 : i + 6 ≤ Ln) (hL4 : Ln ≤ 384) (hI : LI (cn s)) (hC : CI (cn s) x) (K : ∀ (s2 x2 : St) (l2 : Nat → Int64), LI (cn s2) → CI (cn s2) x2 → JL G bs Ln xs 65 1531 1221 [(0, .ref bs), (1, .ref (r 0)), (2, .ref o), (3, .int (nI i))] [] (cW G r x2 l2 ++ mW G o a s2)) : JL G bs Ln xs 65 1531 618 [(0, .ref bs), (1, .ref (r 0)), (2, .ref o), (3, .int (nI i))] [] (cW G r x l ++ mW G o a s) := by
  refine L_aload_n dL_law_618 rfl rfl ?_
  refine L_aload_n dL_law_619 rfl rfl ?_
  refine L_iload_n dL_law_620 rfl rfl ?_
  refine L_iconst (v := nI 1) dL_law_621 (by decide) ?_
  refine L_iaddN dL_law_622 ?_
  refine L_sld (i + 1) rfl (by omega) hL4 dL_law_623 ?_
  refine L_aload_n dL_law_624 rfl rfl ?_
  refine L_iload_n dL_law_625 rfl rfl ?_
  refine L_iconst (v := nI 2) dL_law_626 (by decide) ?_
  refine L_iaddN dL_law_627 ?_
  refine L_sld (i + 2) rfl (by omega) hL4 dL_law_628 ?_
  refine L_comm ?_
  refine L_callV (wr := mW G o a s) (wc := cW G r x l) (As := [.int (xs (i + 1)), .int (xs (i + 2))]) (st := []) 16 mvL_81 (c_X11_write r x l (cn s) hI hC (xs (i + 1)) (xs (i + 2))) rfl rfl rfl rfl (by decide) (by decide) (by decide) dL_law_629 (fun v w1 h => ?_)
  obtain ⟨x2, l2, rfl, rfl, hC2⟩ := h
  refine L_comm ?_
  refine L_aload_n dL_law_632 rfl rfl ?_
  refine L_aload_n dL_law_633 rfl rfl ?_
  refine L_iload_n dL_law_634 rfl rfl ?_
  refine L_iconst (v := nI 1) dL_law_635 (by decide) ?_
  refine L_iaddN dL_law_636 ?_
  refine L_sld (i + 1) rfl (by omega) hL4 dL_law_637 ?_
  refine L_aload_n dL_law_638 rfl rfl ?_
  refine L_iload_n dL_law_639 rfl rfl ?_
  refine L_iconst (v := nI 2) dL_law_640 (by decide) ?_
  refine L_iaddN dL_law_641 ?_
  refine L_sld (i + 2) rfl (by omega) hL4 dL_law_642 ?_
  refine L_callV (wr := cW G r x2 l2) (wc := mW G o a s) (As := [.int (xs (i + 1)), .int (xs (i + 2))]) (st := [.int _]) 49 mvL_84 (c_X12_write o a s hI (xs (i + 1)) (xs (i + 2))) rfl rfl rfl rfl (by decide) (Nat.le_of_ble_eq_true rfl) (by decide) dL_law_643 (fun v w1 h => ?_)
  obtain ⟨s2, rfl, rfl, h2⟩ := h
  exact L_icmp_eq 1221 dL_law_646 rfl (fun _ => K s2 x2 l2 (by rw [h2]; exact hI) (by rw [h2]; exact hC2)) (fun h => absurd rfl h)
theorem wl_695 : Cond.code yX11_part cX11_part 5 (some .int) ∈ TB := TB_mem 695 (by decide +kernel) (by decide +kernel)
theorem wl_692 : Cond.methodLink RL 85 yX11_part ∈ TB := TB_mem 692 (by decide +kernel) (by decide +kernel)
theorem wl_693 : Cond.instanceMethod yX11_part ∈ TB := TB_mem 693 (by decide +kernel) (by decide +kernel)
theorem wl_694 : Cond.selects RX11 yX11_part yX11_part ∈ TB := TB_mem 694 (by decide +kernel) (by decide +kernel)
theorem mvL_85 : MV RL 85 10 yX11_part cX11_part 5 (some .int) 3 := ⟨wl_695, wl_692, wl_693, ⟨TX11, 6, rfl⟩, wl_694, wl_51, by decide +kernel, by decide⟩
theorem wl_1236 : Cond.code yX12_part cX12_part 4 (some .int) ∈ TB := TB_mem 1236 (by decide +kernel) (by decide +kernel)
theorem wl_1233 : Cond.methodLink RL 88 yX12_part ∈ TB := TB_mem 1233 (by decide +kernel) (by decide +kernel)
theorem wl_1234 : Cond.instanceMethod yX12_part ∈ TB := TB_mem 1234 (by decide +kernel) (by decide +kernel)
theorem wl_1235 : Cond.selects RX12 yX12_part yX12_part ∈ TB := TB_mem 1235 (by decide +kernel) (by decide +kernel)
theorem mvL_88 : MV RL 88 11 yX12_part cX12_part 4 (some .int) 3 := ⟨wl_1236, wl_1233, wl_1234, ⟨TX12, 25, rfl⟩, wl_1235, wl_64, by decide +kernel, by decide⟩
theorem lc_17 {G : GT} {bs Ln : Nat} {xs : Nat → Int32} {r : Nat → Nat} {o : Nat} {a : Nat → Nat} {s x : St} {l : Nat → Int64} {i : Nat} (hi6 : i + 6 ≤ Ln) (hL4 : Ln ≤ 384) (hI : LI (cn s)) (hC : CI (cn s) x) (K : ∀ (s2 x2 : St) (l2 : Nat → Int64), LI (cn s2) → CI (cn s2) x2 → JL G bs Ln xs 65 1531 1221 [(0, .ref bs), (1, .ref (r 0)), (2, .ref o), (3, .int (nI i))] [] (cW G r x2 l2 ++ mW G o a s2)) : JL G bs Ln xs 65 1531 651 [(0, .ref bs), (1, .ref (r 0)), (2, .ref o), (3, .int (nI i))] [] (cW G r x l ++ mW G o a s) := by
  refine L_aload_n dL_law_651 rfl rfl ?_
  refine L_aload_n dL_law_652 rfl rfl ?_
  refine L_iload_n dL_law_653 rfl rfl ?_
  refine L_iconst (v := nI 1) dL_law_654 (by decide) ?_
  refine L_iaddN dL_law_655 ?_
  refine L_sld (i + 1) rfl (by omega) hL4 dL_law_656 ?_
  refine L_aload_n dL_law_657 rfl rfl ?_
  refine L_iload_n dL_law_658 rfl rfl ?_
  refine L_iconst (v := nI 2) dL_law_659 (by decide) ?_
  refine L_iaddN dL_law_660 ?_
  refine L_sld (i + 2) rfl (by omega) hL4 dL_law_661 ?_
  refine L_aload_n dL_law_662 rfl rfl ?_
  refine L_iload_n dL_law_663 rfl rfl ?_
  refine L_iconst (v := nI 3) dL_law_664 (by decide) ?_
  refine L_iaddN dL_law_665 ?_
  refine L_sld (i + 3) rfl (by omega) hL4 dL_law_666 ?_
  refine L_comm ?_
  refine L_callV (wr := mW G o a s) (wc := cW G r x l) (As := [.int (xs (i + 1)), .int (xs (i + 2)), .int (xs (i + 3))]) (st := []) 16 mvL_85 (c_X11_part r x l (cn s) hI hC (xs (i + 1)) (xs (i + 2)) (xs (i + 3))) rfl rfl rfl rfl (by decide) (by decide) (by decide) dL_law_667 (fun v w1 h => ?_)
  obtain ⟨x2, l2, rfl, rfl, hC2⟩ := h
  refine L_comm ?_
  refine L_aload_n dL_law_670 rfl rfl ?_
  refine L_aload_n dL_law_671 rfl rfl ?_
  refine L_iload_n dL_law_672 rfl rfl ?_
  refine L_iconst (v := nI 1) dL_law_673 (by decide) ?_
  refine L_iaddN dL_law_674 ?_
  refine L_sld (i + 1) rfl (by omega) hL4 dL_law_675 ?_
  refine L_aload_n dL_law_676 rfl rfl ?_
  refine L_iload_n dL_law_677 rfl rfl ?_
  refine L_iconst (v := nI 2) dL_law_678 (by decide) ?_
  refine L_iaddN dL_law_679 ?_
  refine L_sld (i + 2) rfl (by omega) hL4 dL_law_680 ?_
  refine L_aload_n dL_law_681 rfl rfl ?_
  refine L_iload_n dL_law_682 rfl rfl ?_
  refine L_iconst (v := nI 3) dL_law_683 (by decide) ?_
  refine L_iaddN dL_law_684 ?_
  refine L_sld (i + 3) rfl (by omega) hL4 dL_law_685 ?_
  refine L_callV (wr := cW G r x2 l2) (wc := mW G o a s) (As := [.int (xs (i + 1)), .int (xs (i + 2)), .int (xs (i + 3))]) (st := [.int _]) 49 mvL_88 (c_X12_part o a s hI (xs (i + 1)) (xs (i + 2)) (xs (i + 3))) rfl rfl rfl rfl (by decide) (Nat.le_of_ble_eq_true rfl) (by decide) dL_law_686 (fun v w1 h => ?_)
  obtain ⟨s2, rfl, rfl, h2⟩ := h
  exact L_icmp_eq 1221 dL_law_689 rfl (fun _ => K s2 x2 l2 (by rw [h2]; exact hI) (by rw [h2]; exact hC2)) (fun h => absurd rfl h)
theorem wl_712 : Cond.code yX11_seen cX11_seen 4 (some .int) ∈ TB := TB_mem 712 (by decide +kernel) (by decide +kernel)
theorem wl_709 : Cond.methodLink RL 89 yX11_seen ∈ TB := TB_mem 709 (by decide +kernel) (by decide +kernel)
theorem wl_710 : Cond.instanceMethod yX11_seen ∈ TB := TB_mem 710 (by decide +kernel) (by decide +kernel)
theorem wl_711 : Cond.selects RX11 yX11_seen yX11_seen ∈ TB := TB_mem 711 (by decide +kernel) (by decide +kernel)
theorem mvL_89 : MV RL 89 10 yX11_seen cX11_seen 4 (some .int) 3 := ⟨wl_712, wl_709, wl_710, ⟨TX11, 6, rfl⟩, wl_711, wl_51, by decide +kernel, by decide⟩
theorem wl_1248 : Cond.code yX12_seen cX12_seen 4 (some .int) ∈ TB := TB_mem 1248 (by decide +kernel) (by decide +kernel)
theorem wl_1245 : Cond.methodLink RL 92 yX12_seen ∈ TB := TB_mem 1245 (by decide +kernel) (by decide +kernel)
theorem wl_1246 : Cond.instanceMethod yX12_seen ∈ TB := TB_mem 1246 (by decide +kernel) (by decide +kernel)
theorem wl_1247 : Cond.selects RX12 yX12_seen yX12_seen ∈ TB := TB_mem 1247 (by decide +kernel) (by decide +kernel)
theorem mvL_92 : MV RL 92 11 yX12_seen cX12_seen 4 (some .int) 3 := ⟨wl_1248, wl_1245, wl_1246, ⟨TX12, 25, rfl⟩, wl_1247, wl_64, by decide +kernel, by decide⟩
theorem lc_18 {G : GT} {bs Ln : Nat} {xs : Nat → Int32} {r : Nat → Nat} {o : Nat} {a : Nat → Nat} {s x : St} {l : Nat → Int64} {i : Nat} (hi6 : i + 6 ≤ Ln) (hL4 : Ln ≤ 384) (hI : LI (cn s)) (hC : CI (cn s) x) (K : ∀ (s2 x2 : St) (l2 : Nat → Int64), LI (cn s2) → CI (cn s2) x2 → JL G bs Ln xs 65 1531 1221 [(0, .ref bs), (1, .ref (r 0)), (2, .ref o), (3, .int (nI i))] [] (cW G r x2 l2 ++ mW G o a s2)) : JL G bs Ln xs 65 1531 694 [(0, .ref bs), (1, .ref (r 0)), (2, .ref o), (3, .int (nI i))] [] (cW G r x l ++ mW G o a s) := by
  refine L_aload_n dL_law_694 rfl rfl ?_
  refine L_aload_n dL_law_695 rfl rfl ?_
  refine L_iload_n dL_law_696 rfl rfl ?_
  refine L_iconst (v := nI 1) dL_law_697 (by decide) ?_
  refine L_iaddN dL_law_698 ?_
  refine L_sld (i + 1) rfl (by omega) hL4 dL_law_699 ?_
  refine L_aload_n dL_law_700 rfl rfl ?_
  refine L_iload_n dL_law_701 rfl rfl ?_
  refine L_iconst (v := nI 2) dL_law_702 (by decide) ?_
  refine L_iaddN dL_law_703 ?_
  refine L_sld (i + 2) rfl (by omega) hL4 dL_law_704 ?_
  refine L_aload_n dL_law_705 rfl rfl ?_
  refine L_iload_n dL_law_706 rfl rfl ?_
  refine L_iconst (v := nI 3) dL_law_707 (by decide) ?_
  refine L_iaddN dL_law_708 ?_
  refine L_sld (i + 3) rfl (by omega) hL4 dL_law_709 ?_
  refine L_comm ?_
  refine L_callV (wr := mW G o a s) (wc := cW G r x l) (As := [.int (xs (i + 1)), .int (xs (i + 2)), .int (xs (i + 3))]) (st := []) 16 mvL_89 (c_X11_seen r x l (cn s) hI hC (xs (i + 1)) (xs (i + 2)) (xs (i + 3))) rfl rfl rfl rfl (by decide) (by decide) (by decide) dL_law_710 (fun v w1 h => ?_)
  obtain ⟨x2, l2, rfl, rfl, hC2⟩ := h
  refine L_comm ?_
  refine L_aload_n dL_law_713 rfl rfl ?_
  refine L_aload_n dL_law_714 rfl rfl ?_
  refine L_iload_n dL_law_715 rfl rfl ?_
  refine L_iconst (v := nI 1) dL_law_716 (by decide) ?_
  refine L_iaddN dL_law_717 ?_
  refine L_sld (i + 1) rfl (by omega) hL4 dL_law_718 ?_
  refine L_aload_n dL_law_719 rfl rfl ?_
  refine L_iload_n dL_law_720 rfl rfl ?_
  refine L_iconst (v := nI 2) dL_law_721 (by decide) ?_
  refine L_iaddN dL_law_722 ?_
  refine L_sld (i + 2) rfl (by omega) hL4 dL_law_723 ?_
  refine L_aload_n dL_law_724 rfl rfl ?_
  refine L_iload_n dL_law_725 rfl rfl ?_
  refine L_iconst (v := nI 3) dL_law_726 (by decide) ?_
  refine L_iaddN dL_law_727 ?_
  refine L_sld (i + 3) rfl (by omega) hL4 dL_law_728 ?_
  refine L_callV (wr := cW G r x2 l2) (wc := mW G o a s) (As := [.int (xs (i + 1)), .int (xs (i + 2)), .int (xs (i + 3))]) (st := [.int _]) 49 mvL_92 (c_X12_seen o a s hI (xs (i + 1)) (xs (i + 2)) (xs (i + 3))) rfl rfl rfl rfl (by decide) (Nat.le_of_ble_eq_true rfl) (by decide) dL_law_729 (fun v w1 h => ?_)
  obtain ⟨s2, rfl, rfl, h2⟩ := h
  exact L_icmp_eq 1221 dL_law_732 rfl (fun _ => K s2 x2 l2 (by rw [h2]; exact li_seen hI (xs (i + 1)) (xs (i + 2)) (xs (i + 3))) (by rw [h2]; exact hC2)) (fun h => absurd rfl h)
theorem wl_724 : Cond.code yX11_forget cX11_forget 2 (some .int) ∈ TB := TB_mem 724 (by decide +kernel) (by decide +kernel)
theorem wl_721 : Cond.methodLink RL 93 yX11_forget ∈ TB := TB_mem 721 (by decide +kernel) (by decide +kernel)
theorem wl_722 : Cond.instanceMethod yX11_forget ∈ TB := TB_mem 722 (by decide +kernel) (by decide +kernel)
theorem wl_723 : Cond.selects RX11 yX11_forget yX11_forget ∈ TB := TB_mem 723 (by decide +kernel) (by decide +kernel)
theorem mvL_93 : MV RL 93 10 yX11_forget cX11_forget 2 (some .int) 0 := ⟨wl_724, wl_721, wl_722, ⟨TX11, 6, rfl⟩, wl_723, wl_51, by decide +kernel, by decide⟩
theorem wl_1252 : Cond.code yX12_forget cX12_forget 2 (some .int) ∈ TB := TB_mem 1252 (by decide +kernel) (by decide +kernel)
theorem wl_1249 : Cond.methodLink RL 96 yX12_forget ∈ TB := TB_mem 1249 (by decide +kernel) (by decide +kernel)
theorem wl_1250 : Cond.instanceMethod yX12_forget ∈ TB := TB_mem 1250 (by decide +kernel) (by decide +kernel)
theorem wl_1251 : Cond.selects RX12 yX12_forget yX12_forget ∈ TB := TB_mem 1251 (by decide +kernel) (by decide +kernel)
theorem mvL_96 : MV RL 96 11 yX12_forget cX12_forget 2 (some .int) 0 := ⟨wl_1252, wl_1249, wl_1250, ⟨TX12, 25, rfl⟩, wl_1251, wl_64, by decide +kernel, by decide⟩
theorem lc_19 {G : GT} {bs Ln : Nat} {xs : Nat → Int32} {r : Nat → Nat} {o : Nat} {a : Nat → Nat} {s x : St} {l : Nat → Int64} {i : Nat} (hi6 : i + 6 ≤ Ln) (hL4 : Ln ≤ 384) (hI : LI (cn s)) (hC : CI (cn s) x) (K : ∀ (s2 x2 : St) (l2 : Nat → Int64), LI (cn s2) → CI (cn s2) x2 → JL G bs Ln xs 65 1531 1221 [(0, .ref bs), (1, .ref (r 0)), (2, .ref o), (3, .int (nI i))] [] (cW G r x2 l2 ++ mW G o a s2)) : JL G bs Ln xs 65 1531 737 [(0, .ref bs), (1, .ref (r 0)), (2, .ref o), (3, .int (nI i))] [] (cW G r x l ++ mW G o a s) := by
  refine L_aload_n dL_law_737 rfl rfl ?_
  refine L_comm ?_
  refine L_callV (wr := mW G o a s) (wc := cW G r x l) (As := []) (st := []) 16 mvL_93 (c_X11_forget r x l (cn s) hI hC) rfl rfl rfl rfl (by decide) (by decide) (by decide) dL_law_738 (fun v w1 h => ?_)
  obtain ⟨x2, l2, rfl, rfl, hC2⟩ := h
  refine L_comm ?_
  refine L_aload_n dL_law_741 rfl rfl ?_
  refine L_callV (wr := cW G r x2 l2) (wc := mW G o a s) (As := []) (st := [.int _]) 49 mvL_96 (c_X12_forget o a s hI) rfl rfl rfl rfl (by decide) (Nat.le_of_ble_eq_true rfl) (by decide) dL_law_742 (fun v w1 h => ?_)
  obtain ⟨s2, rfl, rfl, h2⟩ := h
  exact L_icmp_eq 1221 dL_law_745 rfl (fun _ => K s2 x2 l2 (by rw [h2]; exact li_forget hI) (by rw [h2]; exact hC2)) (fun h => absurd rfl h)
theorem wl_728 : Cond.code yX11_read cX11_read 3 (some .int) ∈ TB := TB_mem 728 (by decide +kernel) (by decide +kernel)
theorem wl_725 : Cond.methodLink RL 97 yX11_read ∈ TB := TB_mem 725 (by decide +kernel) (by decide +kernel)
theorem wl_726 : Cond.instanceMethod yX11_read ∈ TB := TB_mem 726 (by decide +kernel) (by decide +kernel)
theorem wl_727 : Cond.selects RX11 yX11_read yX11_read ∈ TB := TB_mem 727 (by decide +kernel) (by decide +kernel)
theorem mvL_97 : MV RL 97 10 yX11_read cX11_read 3 (some .int) 1 := ⟨wl_728, wl_725, wl_726, ⟨TX11, 6, rfl⟩, wl_727, wl_51, by decide +kernel, by decide⟩
theorem wl_1256 : Cond.code yX12_read cX12_read 5 (some .int) ∈ TB := TB_mem 1256 (by decide +kernel) (by decide +kernel)
theorem wl_1253 : Cond.methodLink RL 100 yX12_read ∈ TB := TB_mem 1253 (by decide +kernel) (by decide +kernel)
theorem wl_1254 : Cond.instanceMethod yX12_read ∈ TB := TB_mem 1254 (by decide +kernel) (by decide +kernel)
theorem wl_1255 : Cond.selects RX12 yX12_read yX12_read ∈ TB := TB_mem 1255 (by decide +kernel) (by decide +kernel)
theorem mvL_100 : MV RL 100 11 yX12_read cX12_read 5 (some .int) 1 := ⟨wl_1256, wl_1253, wl_1254, ⟨TX12, 25, rfl⟩, wl_1255, wl_64, by decide +kernel, by decide⟩
theorem lc_20 {G : GT} {bs Ln : Nat} {xs : Nat → Int32} {r : Nat → Nat} {o : Nat} {a : Nat → Nat} {s x : St} {l : Nat → Int64} {i : Nat} (hi6 : i + 6 ≤ Ln) (hL4 : Ln ≤ 384) (hI : LI (cn s)) (hC : CI (cn s) x) (K : ∀ (s2 x2 : St) (l2 : Nat → Int64), LI (cn s2) → CI (cn s2) x2 → JL G bs Ln xs 65 1531 1221 [(0, .ref bs), (1, .ref (r 0)), (2, .ref o), (3, .int (nI i))] [] (cW G r x2 l2 ++ mW G o a s2)) : JL G bs Ln xs 65 1531 750 [(0, .ref bs), (1, .ref (r 0)), (2, .ref o), (3, .int (nI i))] [] (cW G r x l ++ mW G o a s) := by
  refine L_aload_n dL_law_750 rfl rfl ?_
  refine L_aload_n dL_law_751 rfl rfl ?_
  refine L_iload_n dL_law_752 rfl rfl ?_
  refine L_iconst (v := nI 1) dL_law_753 (by decide) ?_
  refine L_iaddN dL_law_754 ?_
  refine L_sld (i + 1) rfl (by omega) hL4 dL_law_755 ?_
  refine L_comm ?_
  refine L_callV (wr := mW G o a s) (wc := cW G r x l) (As := [.int (xs (i + 1))]) (st := []) 16 mvL_97 (c_X11_read r x l (cn s) hI hC (xs (i + 1))) rfl rfl rfl rfl (by decide) (by decide) (by decide) dL_law_756 (fun v w1 h => ?_)
  obtain ⟨x2, l2, rfl, rfl, hC2⟩ := h
  refine L_comm ?_
  refine L_aload_n dL_law_759 rfl rfl ?_
  refine L_aload_n dL_law_760 rfl rfl ?_
  refine L_iload_n dL_law_761 rfl rfl ?_
  refine L_iconst (v := nI 1) dL_law_762 (by decide) ?_
  refine L_iaddN dL_law_763 ?_
  refine L_sld (i + 1) rfl (by omega) hL4 dL_law_764 ?_
  refine L_callV (wr := cW G r x2 l2) (wc := mW G o a s) (As := [.int (xs (i + 1))]) (st := [.int _]) 49 mvL_100 (c_X12_read o a s hI (xs (i + 1))) rfl rfl rfl rfl (by decide) (Nat.le_of_ble_eq_true rfl) (by decide) dL_law_765 (fun v w1 h => ?_)
  obtain ⟨s2, rfl, rfl, h2⟩ := h
  exact L_icmp_eq 1221 dL_law_768 rfl (fun _ => K s2 x2 l2 (by rw [h2]; exact li_read hI (xs (i + 1))) (by rw [h2]; exact hC2)) (fun h => absurd rfl h)
theorem wl_751 : Cond.code yX11_whose cX11_whose 2 (some .int) ∈ TB := TB_mem 751 (by decide +kernel) (by decide +kernel)
theorem wl_748 : Cond.methodLink RL 101 yX11_whose ∈ TB := TB_mem 748 (by decide +kernel) (by decide +kernel)
theorem wl_749 : Cond.instanceMethod yX11_whose ∈ TB := TB_mem 749 (by decide +kernel) (by decide +kernel)
theorem wl_750 : Cond.selects RX11 yX11_whose yX11_whose ∈ TB := TB_mem 750 (by decide +kernel) (by decide +kernel)
theorem mvL_101 : MV RL 101 10 yX11_whose cX11_whose 2 (some .int) 1 := ⟨wl_751, wl_748, wl_749, ⟨TX11, 6, rfl⟩, wl_750, wl_51, by decide +kernel, by decide⟩
theorem wl_1261 : Cond.code yX12_whose cX12_whose 2 (some .int) ∈ TB := TB_mem 1261 (by decide +kernel) (by decide +kernel)
theorem wl_1258 : Cond.methodLink RL 104 yX12_whose ∈ TB := TB_mem 1258 (by decide +kernel) (by decide +kernel)
theorem wl_1259 : Cond.instanceMethod yX12_whose ∈ TB := TB_mem 1259 (by decide +kernel) (by decide +kernel)
theorem wl_1260 : Cond.selects RX12 yX12_whose yX12_whose ∈ TB := TB_mem 1260 (by decide +kernel) (by decide +kernel)
theorem mvL_104 : MV RL 104 11 yX12_whose cX12_whose 2 (some .int) 1 := ⟨wl_1261, wl_1258, wl_1259, ⟨TX12, 25, rfl⟩, wl_1260, wl_64, by decide +kernel, by decide⟩
theorem lc_21 {G : GT} {bs Ln : Nat} {xs : Nat → Int32} {r : Nat → Nat} {o : Nat} {a : Nat → Nat} {s x : St} {l : Nat → Int64} {i : Nat} (hi6 : i + 6 ≤ Ln) (hL4 : Ln ≤ 384) (hI : LI (cn s)) (hC : CI (cn s) x) (K : ∀ (s2 x2 : St) (l2 : Nat → Int64), LI (cn s2) → CI (cn s2) x2 → JL G bs Ln xs 65 1531 1221 [(0, .ref bs), (1, .ref (r 0)), (2, .ref o), (3, .int (nI i))] [] (cW G r x2 l2 ++ mW G o a s2)) : JL G bs Ln xs 65 1531 773 [(0, .ref bs), (1, .ref (r 0)), (2, .ref o), (3, .int (nI i))] [] (cW G r x l ++ mW G o a s) := by
  refine L_aload_n dL_law_773 rfl rfl ?_
  refine L_aload_n dL_law_774 rfl rfl ?_
  refine L_iload_n dL_law_775 rfl rfl ?_
  refine L_iconst (v := nI 1) dL_law_776 (by decide) ?_
  refine L_iaddN dL_law_777 ?_
  refine L_sld (i + 1) rfl (by omega) hL4 dL_law_778 ?_
  refine L_comm ?_
  refine L_callV (wr := mW G o a s) (wc := cW G r x l) (As := [.int (xs (i + 1))]) (st := []) 16 mvL_101 (c_X11_whose r x l (cn s) hI hC (xs (i + 1))) rfl rfl rfl rfl (by decide) (by decide) (by decide) dL_law_779 (fun v w1 h => ?_)
  obtain ⟨x2, l2, rfl, rfl, hC2⟩ := h
  refine L_comm ?_
  refine L_aload_n dL_law_782 rfl rfl ?_
  refine L_aload_n dL_law_783 rfl rfl ?_
  refine L_iload_n dL_law_784 rfl rfl ?_
  refine L_iconst (v := nI 1) dL_law_785 (by decide) ?_
  refine L_iaddN dL_law_786 ?_
  refine L_sld (i + 1) rfl (by omega) hL4 dL_law_787 ?_
  refine L_callV (wr := cW G r x2 l2) (wc := mW G o a s) (As := [.int (xs (i + 1))]) (st := [.int _]) 49 mvL_104 (c_X12_whose o a s hI (xs (i + 1))) rfl rfl rfl rfl (by decide) (Nat.le_of_ble_eq_true rfl) (by decide) dL_law_788 (fun v w1 h => ?_)
  obtain ⟨s2, rfl, rfl, h2⟩ := h
  exact L_icmp_eq 1221 dL_law_791 rfl (fun _ => K s2 x2 l2 (by rw [h2]; exact hI) (by rw [h2]; exact hC2)) (fun h => absurd rfl h)
theorem wl_766 : Cond.code yX11_look cX11_look 16 (some .int) ∈ TB := TB_mem 766 (by decide +kernel) (by decide +kernel)
theorem wl_763 : Cond.methodLink RL 105 yX11_look ∈ TB := TB_mem 763 (by decide +kernel) (by decide +kernel)
theorem wl_764 : Cond.instanceMethod yX11_look ∈ TB := TB_mem 764 (by decide +kernel) (by decide +kernel)
theorem wl_765 : Cond.selects RX11 yX11_look yX11_look ∈ TB := TB_mem 765 (by decide +kernel) (by decide +kernel)
theorem mvL_105 : MV RL 105 10 yX11_look cX11_look 16 (some .int) 2 := ⟨wl_766, wl_763, wl_764, ⟨TX11, 6, rfl⟩, wl_765, wl_51, by decide +kernel, by decide⟩
theorem wl_1273 : Cond.code yX12_look cX12_look 3 (some .int) ∈ TB := TB_mem 1273 (by decide +kernel) (by decide +kernel)
theorem wl_1270 : Cond.methodLink RL 108 yX12_look ∈ TB := TB_mem 1270 (by decide +kernel) (by decide +kernel)
theorem wl_1271 : Cond.instanceMethod yX12_look ∈ TB := TB_mem 1271 (by decide +kernel) (by decide +kernel)
theorem wl_1272 : Cond.selects RX12 yX12_look yX12_look ∈ TB := TB_mem 1272 (by decide +kernel) (by decide +kernel)
theorem mvL_108 : MV RL 108 11 yX12_look cX12_look 3 (some .int) 2 := ⟨wl_1273, wl_1270, wl_1271, ⟨TX12, 25, rfl⟩, wl_1272, wl_64, by decide +kernel, by decide⟩
theorem lc_22 {G : GT} {bs Ln : Nat} {xs : Nat → Int32} {r : Nat → Nat} {o : Nat} {a : Nat → Nat} {s x : St} {l : Nat → Int64} {i : Nat} (hi6 : i + 6 ≤ Ln) (hL4 : Ln ≤ 384) (hI : LI (cn s)) (hC : CI (cn s) x) (K : ∀ (s2 x2 : St) (l2 : Nat → Int64), LI (cn s2) → CI (cn s2) x2 → JL G bs Ln xs 65 1531 1221 [(0, .ref bs), (1, .ref (r 0)), (2, .ref o), (3, .int (nI i))] [] (cW G r x2 l2 ++ mW G o a s2)) : JL G bs Ln xs 65 1531 796 [(0, .ref bs), (1, .ref (r 0)), (2, .ref o), (3, .int (nI i))] [] (cW G r x l ++ mW G o a s) := by
  refine L_aload_n dL_law_796 rfl rfl ?_
  refine L_aload_n dL_law_797 rfl rfl ?_
  refine L_iload_n dL_law_798 rfl rfl ?_
  refine L_iconst (v := nI 1) dL_law_799 (by decide) ?_
  refine L_iaddN dL_law_800 ?_
  refine L_sld (i + 1) rfl (by omega) hL4 dL_law_801 ?_
  refine L_aload_n dL_law_802 rfl rfl ?_
  refine L_iload_n dL_law_803 rfl rfl ?_
  refine L_iconst (v := nI 2) dL_law_804 (by decide) ?_
  refine L_iaddN dL_law_805 ?_
  refine L_sld (i + 2) rfl (by omega) hL4 dL_law_806 ?_
  refine L_comm ?_
  refine L_callV (wr := mW G o a s) (wc := cW G r x l) (As := [.int (xs (i + 1)), .int (xs (i + 2))]) (st := []) 16 mvL_105 (c_X11_look r x l (cn s) hI hC (xs (i + 1)) (xs (i + 2))) rfl rfl rfl rfl (by decide) (by decide) (by decide) dL_law_807 (fun v w1 h => ?_)
  obtain ⟨x2, l2, rfl, rfl, hC2⟩ := h
  refine L_comm ?_
  refine L_aload_n dL_law_810 rfl rfl ?_
  refine L_aload_n dL_law_811 rfl rfl ?_
  refine L_iload_n dL_law_812 rfl rfl ?_
  refine L_iconst (v := nI 1) dL_law_813 (by decide) ?_
  refine L_iaddN dL_law_814 ?_
  refine L_sld (i + 1) rfl (by omega) hL4 dL_law_815 ?_
  refine L_aload_n dL_law_816 rfl rfl ?_
  refine L_iload_n dL_law_817 rfl rfl ?_
  refine L_iconst (v := nI 2) dL_law_818 (by decide) ?_
  refine L_iaddN dL_law_819 ?_
  refine L_sld (i + 2) rfl (by omega) hL4 dL_law_820 ?_
  refine L_callV (wr := cW G r x2 l2) (wc := mW G o a s) (As := [.int (xs (i + 1)), .int (xs (i + 2))]) (st := [.int _]) 49 mvL_108 (c_X12_look o a s hI (xs (i + 1)) (xs (i + 2))) rfl rfl rfl rfl (by decide) (Nat.le_of_ble_eq_true rfl) (by decide) dL_law_821 (fun v w1 h => ?_)
  obtain ⟨s2, rfl, rfl, h2⟩ := h
  have h2 := h2.1.1
  exact L_icmp_eq 1221 dL_law_824 rfl (fun _ => K s2 x2 l2 (by rw [h2]; exact hI) (by rw [h2]; exact hC2)) (fun h => absurd rfl h)
theorem wl_774 : Cond.code yX11_march cX11_march 6 (some .long) ∈ TB := TB_mem 774 (by decide +kernel) (by decide +kernel)
theorem wl_771 : Cond.methodLink RL 109 yX11_march ∈ TB := TB_mem 771 (by decide +kernel) (by decide +kernel)
theorem wl_772 : Cond.instanceMethod yX11_march ∈ TB := TB_mem 772 (by decide +kernel) (by decide +kernel)
theorem wl_773 : Cond.selects RX11 yX11_march yX11_march ∈ TB := TB_mem 773 (by decide +kernel) (by decide +kernel)
theorem mvL_109 : MV RL 109 10 yX11_march cX11_march 6 (some .long) 4 := ⟨wl_774, wl_771, wl_772, ⟨TX11, 6, rfl⟩, wl_773, wl_51, by decide +kernel, by decide⟩
theorem wl_1285 : Cond.code yX12_march cX12_march 5 (some .long) ∈ TB := TB_mem 1285 (by decide +kernel) (by decide +kernel)
theorem wl_1282 : Cond.methodLink RL 113 yX12_march ∈ TB := TB_mem 1282 (by decide +kernel) (by decide +kernel)
theorem wl_1283 : Cond.instanceMethod yX12_march ∈ TB := TB_mem 1283 (by decide +kernel) (by decide +kernel)
theorem wl_1284 : Cond.selects RX12 yX12_march yX12_march ∈ TB := TB_mem 1284 (by decide +kernel) (by decide +kernel)
theorem mvL_113 : MV RL 113 11 yX12_march cX12_march 5 (some .long) 4 := ⟨wl_1285, wl_1282, wl_1283, ⟨TX12, 25, rfl⟩, wl_1284, wl_64, by decide +kernel, by decide⟩
theorem lc_23 {G : GT} {bs Ln : Nat} {xs : Nat → Int32} {r : Nat → Nat} {o : Nat} {a : Nat → Nat} {s x : St} {l : Nat → Int64} {i : Nat} (hi6 : i + 6 ≤ Ln) (hL4 : Ln ≤ 384) (hI : LI (cn s)) (hC : CI (cn s) x) (K : ∀ (s2 x2 : St) (l2 : Nat → Int64), LI (cn s2) → CI (cn s2) x2 → JL G bs Ln xs 65 1531 1221 [(0, .ref bs), (1, .ref (r 0)), (2, .ref o), (3, .int (nI i))] [] (cW G r x2 l2 ++ mW G o a s2)) : JL G bs Ln xs 65 1531 829 [(0, .ref bs), (1, .ref (r 0)), (2, .ref o), (3, .int (nI i))] [] (cW G r x l ++ mW G o a s) := by
  refine L_aload_n dL_law_829 rfl rfl ?_
  refine L_aload_n dL_law_830 rfl rfl ?_
  refine L_iload_n dL_law_831 rfl rfl ?_
  refine L_iconst (v := nI 1) dL_law_832 (by decide) ?_
  refine L_iaddN dL_law_833 ?_
  refine L_sld (i + 1) rfl (by omega) hL4 dL_law_834 ?_
  refine L_aload_n dL_law_835 rfl rfl ?_
  refine L_iload_n dL_law_836 rfl rfl ?_
  refine L_iconst (v := nI 2) dL_law_837 (by decide) ?_
  refine L_iaddN dL_law_838 ?_
  refine L_sld (i + 2) rfl (by omega) hL4 dL_law_839 ?_
  refine L_aload_n dL_law_840 rfl rfl ?_
  refine L_iload_n dL_law_841 rfl rfl ?_
  refine L_iconst (v := nI 3) dL_law_842 (by decide) ?_
  refine L_iaddN dL_law_843 ?_
  refine L_sld (i + 3) rfl (by omega) hL4 dL_law_844 ?_
  refine L_aload_n dL_law_845 rfl rfl ?_
  refine L_iload_n dL_law_846 rfl rfl ?_
  refine L_iconst (v := nI 4) dL_law_847 (by decide) ?_
  refine L_iaddN dL_law_848 ?_
  refine L_sld (i + 4) rfl (by omega) hL4 dL_law_849 ?_
  refine L_comm ?_
  refine L_callV (wr := mW G o a s) (wc := cW G r x l) (As := [.int (xs (i + 1)), .int (xs (i + 2)), .int (xs (i + 3)), .int (xs (i + 4))]) (st := []) 16 mvL_109 (c_X11_march r x l (cn s) hI hC (xs (i + 1)) (xs (i + 2)) (xs (i + 3)) (xs (i + 4))) rfl rfl rfl rfl (by decide) (by decide) (by decide) dL_law_850 (fun v w1 h => ?_)
  obtain ⟨x2, l2, rfl, rfl, hC2⟩ := h
  refine L_comm ?_
  refine L_aload_n dL_law_853 rfl rfl ?_
  refine L_aload_n dL_law_854 rfl rfl ?_
  refine L_iload_n dL_law_855 rfl rfl ?_
  refine L_iconst (v := nI 1) dL_law_856 (by decide) ?_
  refine L_iaddN dL_law_857 ?_
  refine L_sld (i + 1) rfl (by omega) hL4 dL_law_858 ?_
  refine L_aload_n dL_law_859 rfl rfl ?_
  refine L_iload_n dL_law_860 rfl rfl ?_
  refine L_iconst (v := nI 2) dL_law_861 (by decide) ?_
  refine L_iaddN dL_law_862 ?_
  refine L_sld (i + 2) rfl (by omega) hL4 dL_law_863 ?_
  refine L_aload_n dL_law_864 rfl rfl ?_
  refine L_iload_n dL_law_865 rfl rfl ?_
  refine L_iconst (v := nI 3) dL_law_866 (by decide) ?_
  refine L_iaddN dL_law_867 ?_
  refine L_sld (i + 3) rfl (by omega) hL4 dL_law_868 ?_
  refine L_aload_n dL_law_869 rfl rfl ?_
  refine L_iload_n dL_law_870 rfl rfl ?_
  refine L_iconst (v := nI 4) dL_law_871 (by decide) ?_
  refine L_iaddN dL_law_872 ?_
  refine L_sld (i + 4) rfl (by omega) hL4 dL_law_873 ?_
  refine L_callV (wr := cW G r x2 l2) (wc := mW G o a s) (As := [.int (xs (i + 1)), .int (xs (i + 2)), .int (xs (i + 3)), .int (xs (i + 4))]) (st := [.long _]) 49 mvL_113 (c_X12_march o a s hI (xs (i + 1)) (xs (i + 2)) (xs (i + 3)) (xs (i + 4))) rfl rfl rfl rfl (by decide) (Nat.le_of_ble_eq_true rfl) (by decide) dL_law_874 (fun v w1 h => ?_)
  obtain ⟨s2, rfl, rfl, h2⟩ := h
  refine L_lcmp dL_law_877 ?_
  exact L_if_eq 1221 dL_law_878 rfl (fun _ => K s2 x2 l2 (by rw [h2]; exact hI) (by rw [h2]; exact hC2)) (fun h => absurd (lg_cmp_self _) h)
theorem wl_792 : Cond.code yX11_wills cX11_wills 5 (some .int) ∈ TB := TB_mem 792 (by decide +kernel) (by decide +kernel)
theorem wl_789 : Cond.methodLink RL 114 yX11_wills ∈ TB := TB_mem 789 (by decide +kernel) (by decide +kernel)
theorem wl_790 : Cond.instanceMethod yX11_wills ∈ TB := TB_mem 790 (by decide +kernel) (by decide +kernel)
theorem wl_791 : Cond.selects RX11 yX11_wills yX11_wills ∈ TB := TB_mem 791 (by decide +kernel) (by decide +kernel)
theorem mvL_114 : MV RL 114 10 yX11_wills cX11_wills 5 (some .int) 3 := ⟨wl_792, wl_789, wl_790, ⟨TX11, 6, rfl⟩, wl_791, wl_51, by decide +kernel, by decide⟩
theorem wl_1302 : Cond.code yX12_wills cX12_wills 4 (some .int) ∈ TB := TB_mem 1302 (by decide +kernel) (by decide +kernel)
theorem wl_1299 : Cond.methodLink RL 117 yX12_wills ∈ TB := TB_mem 1299 (by decide +kernel) (by decide +kernel)
theorem wl_1300 : Cond.instanceMethod yX12_wills ∈ TB := TB_mem 1300 (by decide +kernel) (by decide +kernel)
theorem wl_1301 : Cond.selects RX12 yX12_wills yX12_wills ∈ TB := TB_mem 1301 (by decide +kernel) (by decide +kernel)
theorem mvL_117 : MV RL 117 11 yX12_wills cX12_wills 4 (some .int) 3 := ⟨wl_1302, wl_1299, wl_1300, ⟨TX12, 25, rfl⟩, wl_1301, wl_64, by decide +kernel, by decide⟩
theorem lc_24 {G : GT} {bs Ln : Nat} {xs : Nat → Int32} {r : Nat → Nat} {o : Nat} {a : Nat → Nat} {s x : St} {l : Nat → Int64} {i : Nat} (hi6 : i + 6 ≤ Ln) (hL4 : Ln ≤ 384) (hI : LI (cn s)) (hC : CI (cn s) x) (K : ∀ (s2 x2 : St) (l2 : Nat → Int64), LI (cn s2) → CI (cn s2) x2 → JL G bs Ln xs 65 1531 1221 [(0, .ref bs), (1, .ref (r 0)), (2, .ref o), (3, .int (nI i))] [] (cW G r x2 l2 ++ mW G o a s2)) : JL G bs Ln xs 65 1531 883 [(0, .ref bs), (1, .ref (r 0)), (2, .ref o), (3, .int (nI i))] [] (cW G r x l ++ mW G o a s) := by
  refine L_aload_n dL_law_883 rfl rfl ?_
  refine L_aload_n dL_law_884 rfl rfl ?_
  refine L_iload_n dL_law_885 rfl rfl ?_
  refine L_iconst (v := nI 1) dL_law_886 (by decide) ?_
  refine L_iaddN dL_law_887 ?_
  refine L_sld (i + 1) rfl (by omega) hL4 dL_law_888 ?_
  refine L_aload_n dL_law_889 rfl rfl ?_
  refine L_iload_n dL_law_890 rfl rfl ?_
  refine L_iconst (v := nI 2) dL_law_891 (by decide) ?_
  refine L_iaddN dL_law_892 ?_
  refine L_sld (i + 2) rfl (by omega) hL4 dL_law_893 ?_
  refine L_aload_n dL_law_894 rfl rfl ?_
  refine L_iload_n dL_law_895 rfl rfl ?_
  refine L_iconst (v := nI 3) dL_law_896 (by decide) ?_
  refine L_iaddN dL_law_897 ?_
  refine L_sld (i + 3) rfl (by omega) hL4 dL_law_898 ?_
  refine L_comm ?_
  refine L_callV (wr := mW G o a s) (wc := cW G r x l) (As := [.int (xs (i + 1)), .int (xs (i + 2)), .int (xs (i + 3))]) (st := []) 16 mvL_114 (c_X11_wills r x l (cn s) hI hC (xs (i + 1)) (xs (i + 2)) (xs (i + 3))) rfl rfl rfl rfl (by decide) (by decide) (by decide) dL_law_899 (fun v w1 h => ?_)
  obtain ⟨x2, l2, rfl, rfl, hC2⟩ := h
  refine L_comm ?_
  refine L_aload_n dL_law_902 rfl rfl ?_
  refine L_aload_n dL_law_903 rfl rfl ?_
  refine L_iload_n dL_law_904 rfl rfl ?_
  refine L_iconst (v := nI 1) dL_law_905 (by decide) ?_
  refine L_iaddN dL_law_906 ?_
  refine L_sld (i + 1) rfl (by omega) hL4 dL_law_907 ?_
  refine L_aload_n dL_law_908 rfl rfl ?_
  refine L_iload_n dL_law_909 rfl rfl ?_
  refine L_iconst (v := nI 2) dL_law_910 (by decide) ?_
  refine L_iaddN dL_law_911 ?_
  refine L_sld (i + 2) rfl (by omega) hL4 dL_law_912 ?_
  refine L_aload_n dL_law_913 rfl rfl ?_
  refine L_iload_n dL_law_914 rfl rfl ?_
  refine L_iconst (v := nI 3) dL_law_915 (by decide) ?_
  refine L_iaddN dL_law_916 ?_
  refine L_sld (i + 3) rfl (by omega) hL4 dL_law_917 ?_
  refine L_callV (wr := cW G r x2 l2) (wc := mW G o a s) (As := [.int (xs (i + 1)), .int (xs (i + 2)), .int (xs (i + 3))]) (st := [.int _]) 49 mvL_117 (c_X12_wills o a s hI (xs (i + 1)) (xs (i + 2)) (xs (i + 3))) rfl rfl rfl rfl (by decide) (Nat.le_of_ble_eq_true rfl) (by decide) dL_law_918 (fun v w1 h => ?_)
  obtain ⟨s2, rfl, rfl, h2⟩ := h
  have h2 := h2.1.1
  exact L_icmp_eq 1221 dL_law_921 rfl (fun _ => K s2 x2 l2 (by rw [h2]; exact hI) (by rw [h2]; exact hC2)) (fun h => absurd rfl h)
theorem wl_807 : Cond.code yX11_sheet cX11_sheet 4 (some .int) ∈ TB := TB_mem 807 (by decide +kernel) (by decide +kernel)
theorem wl_804 : Cond.methodLink RL 118 yX11_sheet ∈ TB := TB_mem 804 (by decide +kernel) (by decide +kernel)
theorem wl_805 : Cond.instanceMethod yX11_sheet ∈ TB := TB_mem 805 (by decide +kernel) (by decide +kernel)
theorem wl_806 : Cond.selects RX11 yX11_sheet yX11_sheet ∈ TB := TB_mem 806 (by decide +kernel) (by decide +kernel)
theorem mvL_118 : MV RL 118 10 yX11_sheet cX11_sheet 4 (some .int) 3 := ⟨wl_807, wl_804, wl_805, ⟨TX11, 6, rfl⟩, wl_806, wl_51, by decide +kernel, by decide⟩
theorem wl_977 : Cond.code yX12_sheet cX12_sheet 5 (some .int) ∈ TB := TB_mem 977 (by decide +kernel) (by decide +kernel)
theorem wl_974 : Cond.methodLink RL 121 yX12_sheet ∈ TB := TB_mem 974 (by decide +kernel) (by decide +kernel)
theorem wl_975 : Cond.instanceMethod yX12_sheet ∈ TB := TB_mem 975 (by decide +kernel) (by decide +kernel)
theorem wl_976 : Cond.selects RX12 yX12_sheet yX12_sheet ∈ TB := TB_mem 976 (by decide +kernel) (by decide +kernel)
theorem mvL_121 : MV RL 121 11 yX12_sheet cX12_sheet 5 (some .int) 3 := ⟨wl_977, wl_974, wl_975, ⟨TX12, 25, rfl⟩, wl_976, wl_64, by decide +kernel, by decide⟩
theorem lc_25 {G : GT} {bs Ln : Nat} {xs : Nat → Int32} {r : Nat → Nat} {o : Nat} {a : Nat → Nat} {s x : St} {l : Nat → Int64} {i : Nat} (hi6 : i + 6 ≤ Ln) (hL4 : Ln ≤ 384) (hI : LI (cn s)) (hC : CI (cn s) x) (K : ∀ (s2 x2 : St) (l2 : Nat → Int64), LI (cn s2) → CI (cn s2) x2 → JL G bs Ln xs 65 1531 1221 [(0, .ref bs), (1, .ref (r 0)), (2, .ref o), (3, .int (nI i))] [] (cW G r x2 l2 ++ mW G o a s2)) : JL G bs Ln xs 65 1531 926 [(0, .ref bs), (1, .ref (r 0)), (2, .ref o), (3, .int (nI i))] [] (cW G r x l ++ mW G o a s) := by
  refine L_aload_n dL_law_926 rfl rfl ?_
  refine L_aload_n dL_law_927 rfl rfl ?_
  refine L_iload_n dL_law_928 rfl rfl ?_
  refine L_iconst (v := nI 1) dL_law_929 (by decide) ?_
  refine L_iaddN dL_law_930 ?_
  refine L_sld (i + 1) rfl (by omega) hL4 dL_law_931 ?_
  refine L_aload_n dL_law_932 rfl rfl ?_
  refine L_iload_n dL_law_933 rfl rfl ?_
  refine L_iconst (v := nI 2) dL_law_934 (by decide) ?_
  refine L_iaddN dL_law_935 ?_
  refine L_sld (i + 2) rfl (by omega) hL4 dL_law_936 ?_
  refine L_aload_n dL_law_937 rfl rfl ?_
  refine L_iload_n dL_law_938 rfl rfl ?_
  refine L_iconst (v := nI 3) dL_law_939 (by decide) ?_
  refine L_iaddN dL_law_940 ?_
  refine L_sld (i + 3) rfl (by omega) hL4 dL_law_941 ?_
  refine L_comm ?_
  refine L_callV (wr := mW G o a s) (wc := cW G r x l) (As := [.int (xs (i + 1)), .int (xs (i + 2)), .int (xs (i + 3))]) (st := []) 16 mvL_118 (c_X11_sheet r x l (cn s) hI hC (xs (i + 1)) (xs (i + 2)) (xs (i + 3))) rfl rfl rfl rfl (by decide) (by decide) (by decide) dL_law_942 (fun v w1 h => ?_)
  obtain ⟨x2, l2, rfl, rfl, hC2⟩ := h
  refine L_comm ?_
  refine L_aload_n dL_law_945 rfl rfl ?_
  refine L_aload_n dL_law_946 rfl rfl ?_
  refine L_iload_n dL_law_947 rfl rfl ?_
  refine L_iconst (v := nI 1) dL_law_948 (by decide) ?_
  refine L_iaddN dL_law_949 ?_
  refine L_sld (i + 1) rfl (by omega) hL4 dL_law_950 ?_
  refine L_aload_n dL_law_951 rfl rfl ?_
  refine L_iload_n dL_law_952 rfl rfl ?_
  refine L_iconst (v := nI 2) dL_law_953 (by decide) ?_
  refine L_iaddN dL_law_954 ?_
  refine L_sld (i + 2) rfl (by omega) hL4 dL_law_955 ?_
  refine L_aload_n dL_law_956 rfl rfl ?_
  refine L_iload_n dL_law_957 rfl rfl ?_
  refine L_iconst (v := nI 3) dL_law_958 (by decide) ?_
  refine L_iaddN dL_law_959 ?_
  refine L_sld (i + 3) rfl (by omega) hL4 dL_law_960 ?_
  refine L_callV (wr := cW G r x2 l2) (wc := mW G o a s) (As := [.int (xs (i + 1)), .int (xs (i + 2)), .int (xs (i + 3))]) (st := [.int _]) 49 mvL_121 (c_X12_sheet o a s hI (xs (i + 1)) (xs (i + 2)) (xs (i + 3))) rfl rfl rfl rfl (by decide) (Nat.le_of_ble_eq_true rfl) (by decide) dL_law_961 (fun v w1 h => ?_)
  obtain ⟨s2, rfl, rfl, h2⟩ := h
  exact L_icmp_eq 1221 dL_law_964 rfl (fun _ => K s2 x2 l2 (by rw [h2]; exact li_sheet hI (xs (i + 1)) (xs (i + 2)) (xs (i + 3))) (by rw [h2]; exact hC2)) (fun h => absurd rfl h)
theorem wl_816 : Cond.code yX11_lose cX11_lose 4 (some .int) ∈ TB := TB_mem 816 (by decide +kernel) (by decide +kernel)
theorem wl_813 : Cond.methodLink RL 122 yX11_lose ∈ TB := TB_mem 813 (by decide +kernel) (by decide +kernel)
theorem wl_814 : Cond.instanceMethod yX11_lose ∈ TB := TB_mem 814 (by decide +kernel) (by decide +kernel)
theorem wl_815 : Cond.selects RX11 yX11_lose yX11_lose ∈ TB := TB_mem 815 (by decide +kernel) (by decide +kernel)
theorem mvL_122 : MV RL 122 10 yX11_lose cX11_lose 4 (some .int) 1 := ⟨wl_816, wl_813, wl_814, ⟨TX11, 6, rfl⟩, wl_815, wl_51, by decide +kernel, by decide⟩
theorem wl_993 : Cond.code yX12_lose cX12_lose 2 (some .int) ∈ TB := TB_mem 993 (by decide +kernel) (by decide +kernel)
theorem wl_990 : Cond.methodLink RL 125 yX12_lose ∈ TB := TB_mem 990 (by decide +kernel) (by decide +kernel)
theorem wl_991 : Cond.instanceMethod yX12_lose ∈ TB := TB_mem 991 (by decide +kernel) (by decide +kernel)
theorem wl_992 : Cond.selects RX12 yX12_lose yX12_lose ∈ TB := TB_mem 992 (by decide +kernel) (by decide +kernel)
theorem mvL_125 : MV RL 125 11 yX12_lose cX12_lose 2 (some .int) 1 := ⟨wl_993, wl_990, wl_991, ⟨TX12, 25, rfl⟩, wl_992, wl_64, by decide +kernel, by decide⟩
theorem lc_26 {G : GT} {bs Ln : Nat} {xs : Nat → Int32} {r : Nat → Nat} {o : Nat} {a : Nat → Nat} {s x : St} {l : Nat → Int64} {i : Nat} (hi6 : i + 6 ≤ Ln) (hL4 : Ln ≤ 384) (hI : LI (cn s)) (hC : CI (cn s) x) (K : ∀ (s2 x2 : St) (l2 : Nat → Int64), LI (cn s2) → CI (cn s2) x2 → JL G bs Ln xs 65 1531 1221 [(0, .ref bs), (1, .ref (r 0)), (2, .ref o), (3, .int (nI i))] [] (cW G r x2 l2 ++ mW G o a s2)) : JL G bs Ln xs 65 1531 969 [(0, .ref bs), (1, .ref (r 0)), (2, .ref o), (3, .int (nI i))] [] (cW G r x l ++ mW G o a s) := by
  refine L_aload_n dL_law_969 rfl rfl ?_
  refine L_aload_n dL_law_970 rfl rfl ?_
  refine L_iload_n dL_law_971 rfl rfl ?_
  refine L_iconst (v := nI 1) dL_law_972 (by decide) ?_
  refine L_iaddN dL_law_973 ?_
  refine L_sld (i + 1) rfl (by omega) hL4 dL_law_974 ?_
  refine L_comm ?_
  refine L_callV (wr := mW G o a s) (wc := cW G r x l) (As := [.int (xs (i + 1))]) (st := []) 16 mvL_122 (c_X11_lose r x l (cn s) hI hC (xs (i + 1))) rfl rfl rfl rfl (by decide) (by decide) (by decide) dL_law_975 (fun v w1 h => ?_)
  obtain ⟨x2, l2, rfl, rfl, hC2⟩ := h
  refine L_comm ?_
  refine L_aload_n dL_law_978 rfl rfl ?_
  refine L_aload_n dL_law_979 rfl rfl ?_
  refine L_iload_n dL_law_980 rfl rfl ?_
  refine L_iconst (v := nI 1) dL_law_981 (by decide) ?_
  refine L_iaddN dL_law_982 ?_
  refine L_sld (i + 1) rfl (by omega) hL4 dL_law_983 ?_
  refine L_callV (wr := cW G r x2 l2) (wc := mW G o a s) (As := [.int (xs (i + 1))]) (st := [.int _]) 49 mvL_125 (c_X12_lose o a s hI (xs (i + 1))) rfl rfl rfl rfl (by decide) (Nat.le_of_ble_eq_true rfl) (by decide) dL_law_984 (fun v w1 h => ?_)
  obtain ⟨s2, rfl, rfl, h2⟩ := h
  exact L_icmp_eq 1221 dL_law_987 rfl (fun _ => K s2 x2 l2 (by rw [h2]; exact li_lose hI (xs (i + 1))) (by rw [h2]; exact hC2)) (fun h => absurd rfl h)
theorem wl_820 : Cond.code yX11_lay cX11_lay 6 (some .int) ∈ TB := TB_mem 820 (by decide +kernel) (by decide +kernel)
theorem wl_817 : Cond.methodLink RL 126 yX11_lay ∈ TB := TB_mem 817 (by decide +kernel) (by decide +kernel)
theorem wl_818 : Cond.instanceMethod yX11_lay ∈ TB := TB_mem 818 (by decide +kernel) (by decide +kernel)
theorem wl_819 : Cond.selects RX11 yX11_lay yX11_lay ∈ TB := TB_mem 819 (by decide +kernel) (by decide +kernel)
theorem mvL_126 : MV RL 126 10 yX11_lay cX11_lay 6 (some .int) 4 := ⟨wl_820, wl_817, wl_818, ⟨TX11, 6, rfl⟩, wl_819, wl_51, by decide +kernel, by decide⟩
theorem wl_997 : Cond.code yX12_lay cX12_lay 6 (some .int) ∈ TB := TB_mem 997 (by decide +kernel) (by decide +kernel)
theorem wl_994 : Cond.methodLink RL 130 yX12_lay ∈ TB := TB_mem 994 (by decide +kernel) (by decide +kernel)
theorem wl_995 : Cond.instanceMethod yX12_lay ∈ TB := TB_mem 995 (by decide +kernel) (by decide +kernel)
theorem wl_996 : Cond.selects RX12 yX12_lay yX12_lay ∈ TB := TB_mem 996 (by decide +kernel) (by decide +kernel)
theorem mvL_130 : MV RL 130 11 yX12_lay cX12_lay 6 (some .int) 4 := ⟨wl_997, wl_994, wl_995, ⟨TX12, 25, rfl⟩, wl_996, wl_64, by decide +kernel, by decide⟩
theorem lc_27 {G : GT} {bs Ln : Nat} {xs : Nat → Int32} {r : Nat → Nat} {o : Nat} {a : Nat → Nat} {s x : St} {l : Nat → Int64} {i : Nat} (hi6 : i + 6 ≤ Ln) (hL4 : Ln ≤ 384) (hI : LI (cn s)) (hC : CI (cn s) x) (K : ∀ (s2 x2 : St) (l2 : Nat → Int64), LI (cn s2) → CI (cn s2) x2 → JL G bs Ln xs 65 1531 1221 [(0, .ref bs), (1, .ref (r 0)), (2, .ref o), (3, .int (nI i))] [] (cW G r x2 l2 ++ mW G o a s2)) : JL G bs Ln xs 65 1531 992 [(0, .ref bs), (1, .ref (r 0)), (2, .ref o), (3, .int (nI i))] [] (cW G r x l ++ mW G o a s) := by
  refine L_aload_n dL_law_992 rfl rfl ?_
  refine L_aload_n dL_law_993 rfl rfl ?_
  refine L_iload_n dL_law_994 rfl rfl ?_
  refine L_iconst (v := nI 1) dL_law_995 (by decide) ?_
  refine L_iaddN dL_law_996 ?_
  refine L_sld (i + 1) rfl (by omega) hL4 dL_law_997 ?_
  refine L_aload_n dL_law_998 rfl rfl ?_
  refine L_iload_n dL_law_999 rfl rfl ?_
  refine L_iconst (v := nI 2) dL_law_1000 (by decide) ?_
  refine L_iaddN dL_law_1001 ?_
  refine L_sld (i + 2) rfl (by omega) hL4 dL_law_1002 ?_
  refine L_aload_n dL_law_1003 rfl rfl ?_
  refine L_iload_n dL_law_1004 rfl rfl ?_
  refine L_iconst (v := nI 3) dL_law_1005 (by decide) ?_
  refine L_iaddN dL_law_1006 ?_
  refine L_sld (i + 3) rfl (by omega) hL4 dL_law_1007 ?_
  refine L_aload_n dL_law_1008 rfl rfl ?_
  refine L_iload_n dL_law_1009 rfl rfl ?_
  refine L_iconst (v := nI 4) dL_law_1010 (by decide) ?_
  refine L_iaddN dL_law_1011 ?_
  refine L_sld (i + 4) rfl (by omega) hL4 dL_law_1012 ?_
  refine L_comm ?_
  refine L_callV (wr := mW G o a s) (wc := cW G r x l) (As := [.int (xs (i + 1)), .int (xs (i + 2)), .int (xs (i + 3)), .int (xs (i + 4))]) (st := []) 16 mvL_126 (c_X11_lay r x l (cn s) hI hC (xs (i + 1)) (xs (i + 2)) (xs (i + 3)) (xs (i + 4))) rfl rfl rfl rfl (by decide) (by decide) (by decide) dL_law_1013 (fun v w1 h => ?_)
  obtain ⟨x2, l2, rfl, rfl, hC2⟩ := h
  refine L_comm ?_
  refine L_aload_n dL_law_1016 rfl rfl ?_
  refine L_aload_n dL_law_1017 rfl rfl ?_
  refine L_iload_n dL_law_1018 rfl rfl ?_
  refine L_iconst (v := nI 1) dL_law_1019 (by decide) ?_
  refine L_iaddN dL_law_1020 ?_
  refine L_sld (i + 1) rfl (by omega) hL4 dL_law_1021 ?_
  refine L_aload_n dL_law_1022 rfl rfl ?_
  refine L_iload_n dL_law_1023 rfl rfl ?_
  refine L_iconst (v := nI 2) dL_law_1024 (by decide) ?_
  refine L_iaddN dL_law_1025 ?_
  refine L_sld (i + 2) rfl (by omega) hL4 dL_law_1026 ?_
  refine L_aload_n dL_law_1027 rfl rfl ?_
  refine L_iload_n dL_law_1028 rfl rfl ?_
  refine L_iconst (v := nI 3) dL_law_1029 (by decide) ?_
  refine L_iaddN dL_law_1030 ?_
  refine L_sld (i + 3) rfl (by omega) hL4 dL_law_1031 ?_
  refine L_aload_n dL_law_1032 rfl rfl ?_
  refine L_iload_n dL_law_1033 rfl rfl ?_
  refine L_iconst (v := nI 4) dL_law_1034 (by decide) ?_
  refine L_iaddN dL_law_1035 ?_
  refine L_sld (i + 4) rfl (by omega) hL4 dL_law_1036 ?_
  refine L_callV (wr := cW G r x2 l2) (wc := mW G o a s) (As := [.int (xs (i + 1)), .int (xs (i + 2)), .int (xs (i + 3)), .int (xs (i + 4))]) (st := [.int _]) 49 mvL_130 (c_X12_lay o a s hI (xs (i + 1)) (xs (i + 2)) (xs (i + 3)) (xs (i + 4))) rfl rfl rfl rfl (by decide) (Nat.le_of_ble_eq_true rfl) (by decide) dL_law_1037 (fun v w1 h => ?_)
  obtain ⟨s2, rfl, rfl, h2⟩ := h
  exact L_icmp_eq 1221 dL_law_1040 rfl (fun _ => K s2 x2 l2 (by rw [h2]; exact li_lay hI (xs (i + 1)) (xs (i + 2)) (xs (i + 3)) (xs (i + 4))) (by rw [h2]; exact hC2)) (fun h => absurd rfl h)
theorem wl_833 : Cond.code yX11_get cX11_get 5 (some .int) ∈ TB := TB_mem 833 (by decide +kernel) (by decide +kernel)
theorem wl_830 : Cond.methodLink RL 131 yX11_get ∈ TB := TB_mem 830 (by decide +kernel) (by decide +kernel)
theorem wl_831 : Cond.instanceMethod yX11_get ∈ TB := TB_mem 831 (by decide +kernel) (by decide +kernel)
theorem wl_832 : Cond.selects RX11 yX11_get yX11_get ∈ TB := TB_mem 832 (by decide +kernel) (by decide +kernel)
theorem mvL_131 : MV RL 131 10 yX11_get cX11_get 5 (some .int) 3 := ⟨wl_833, wl_830, wl_831, ⟨TX11, 6, rfl⟩, wl_832, wl_51, by decide +kernel, by decide⟩
theorem wl_1008 : Cond.code yX12_get cX12_get 4 (some .int) ∈ TB := TB_mem 1008 (by decide +kernel) (by decide +kernel)
theorem wl_1005 : Cond.methodLink RL 134 yX12_get ∈ TB := TB_mem 1005 (by decide +kernel) (by decide +kernel)
theorem wl_1006 : Cond.instanceMethod yX12_get ∈ TB := TB_mem 1006 (by decide +kernel) (by decide +kernel)
theorem wl_1007 : Cond.selects RX12 yX12_get yX12_get ∈ TB := TB_mem 1007 (by decide +kernel) (by decide +kernel)
theorem mvL_134 : MV RL 134 11 yX12_get cX12_get 4 (some .int) 3 := ⟨wl_1008, wl_1005, wl_1006, ⟨TX12, 25, rfl⟩, wl_1007, wl_64, by decide +kernel, by decide⟩
theorem lc_28 {G : GT} {bs Ln : Nat} {xs : Nat → Int32} {r : Nat → Nat} {o : Nat} {a : Nat → Nat} {s x : St} {l : Nat → Int64} {i : Nat} (hi6 : i + 6 ≤ Ln) (hL4 : Ln ≤ 384) (hI : LI (cn s)) (hC : CI (cn s) x) (K : ∀ (s2 x2 : St) (l2 : Nat → Int64), LI (cn s2) → CI (cn s2) x2 → JL G bs Ln xs 65 1531 1221 [(0, .ref bs), (1, .ref (r 0)), (2, .ref o), (3, .int (nI i))] [] (cW G r x2 l2 ++ mW G o a s2)) : JL G bs Ln xs 65 1531 1045 [(0, .ref bs), (1, .ref (r 0)), (2, .ref o), (3, .int (nI i))] [] (cW G r x l ++ mW G o a s) := by
  refine L_aload_n dL_law_1045 rfl rfl ?_
  refine L_aload_n dL_law_1046 rfl rfl ?_
  refine L_iload_n dL_law_1047 rfl rfl ?_
  refine L_iconst (v := nI 1) dL_law_1048 (by decide) ?_
  refine L_iaddN dL_law_1049 ?_
  refine L_sld (i + 1) rfl (by omega) hL4 dL_law_1050 ?_
  refine L_aload_n dL_law_1051 rfl rfl ?_
  refine L_iload_n dL_law_1052 rfl rfl ?_
  refine L_iconst (v := nI 2) dL_law_1053 (by decide) ?_
  refine L_iaddN dL_law_1054 ?_
  refine L_sld (i + 2) rfl (by omega) hL4 dL_law_1055 ?_
  refine L_aload_n dL_law_1056 rfl rfl ?_
  refine L_iload_n dL_law_1057 rfl rfl ?_
  refine L_iconst (v := nI 3) dL_law_1058 (by decide) ?_
  refine L_iaddN dL_law_1059 ?_
  refine L_sld (i + 3) rfl (by omega) hL4 dL_law_1060 ?_
  refine L_comm ?_
  refine L_callV (wr := mW G o a s) (wc := cW G r x l) (As := [.int (xs (i + 1)), .int (xs (i + 2)), .int (xs (i + 3))]) (st := []) 16 mvL_131 (c_X11_get r x l (cn s) hI hC (xs (i + 1)) (xs (i + 2)) (xs (i + 3))) rfl rfl rfl rfl (by decide) (by decide) (by decide) dL_law_1061 (fun v w1 h => ?_)
  obtain ⟨x2, l2, rfl, rfl, hC2⟩ := h
  refine L_comm ?_
  refine L_aload_n dL_law_1064 rfl rfl ?_
  refine L_aload_n dL_law_1065 rfl rfl ?_
  refine L_iload_n dL_law_1066 rfl rfl ?_
  refine L_iconst (v := nI 1) dL_law_1067 (by decide) ?_
  refine L_iaddN dL_law_1068 ?_
  refine L_sld (i + 1) rfl (by omega) hL4 dL_law_1069 ?_
  refine L_aload_n dL_law_1070 rfl rfl ?_
  refine L_iload_n dL_law_1071 rfl rfl ?_
  refine L_iconst (v := nI 2) dL_law_1072 (by decide) ?_
  refine L_iaddN dL_law_1073 ?_
  refine L_sld (i + 2) rfl (by omega) hL4 dL_law_1074 ?_
  refine L_aload_n dL_law_1075 rfl rfl ?_
  refine L_iload_n dL_law_1076 rfl rfl ?_
  refine L_iconst (v := nI 3) dL_law_1077 (by decide) ?_
  refine L_iaddN dL_law_1078 ?_
  refine L_sld (i + 3) rfl (by omega) hL4 dL_law_1079 ?_
  refine L_callV (wr := cW G r x2 l2) (wc := mW G o a s) (As := [.int (xs (i + 1)), .int (xs (i + 2)), .int (xs (i + 3))]) (st := [.int _]) 49 mvL_134 (c_X12_get o a s hI (xs (i + 1)) (xs (i + 2)) (xs (i + 3))) rfl rfl rfl rfl (by decide) (Nat.le_of_ble_eq_true rfl) (by decide) dL_law_1080 (fun v w1 h => ?_)
  obtain ⟨s2, rfl, rfl, h2⟩ := h
  exact L_icmp_eq 1221 dL_law_1083 rfl (fun _ => K s2 x2 l2 (by rw [h2]; exact li_get hI (xs (i + 1)) (xs (i + 2)) (xs (i + 3))) (by rw [h2]; exact hC2)) (fun h => absurd rfl h)
theorem wl_839 : Cond.code yX11_copy cX11_copy 8 (some .int) ∈ TB := TB_mem 839 (by decide +kernel) (by decide +kernel)
theorem wl_836 : Cond.methodLink RL 135 yX11_copy ∈ TB := TB_mem 836 (by decide +kernel) (by decide +kernel)
theorem wl_837 : Cond.instanceMethod yX11_copy ∈ TB := TB_mem 837 (by decide +kernel) (by decide +kernel)
theorem wl_838 : Cond.selects RX11 yX11_copy yX11_copy ∈ TB := TB_mem 838 (by decide +kernel) (by decide +kernel)
theorem mvL_135 : MV RL 135 10 yX11_copy cX11_copy 8 (some .int) 5 := ⟨wl_839, wl_836, wl_837, ⟨TX11, 6, rfl⟩, wl_838, wl_51, by decide +kernel, by decide⟩
theorem wl_1013 : Cond.code yX12_copy cX12_copy 7 (some .int) ∈ TB := TB_mem 1013 (by decide +kernel) (by decide +kernel)
theorem wl_1010 : Cond.methodLink RL 139 yX12_copy ∈ TB := TB_mem 1010 (by decide +kernel) (by decide +kernel)
theorem wl_1011 : Cond.instanceMethod yX12_copy ∈ TB := TB_mem 1011 (by decide +kernel) (by decide +kernel)
theorem wl_1012 : Cond.selects RX12 yX12_copy yX12_copy ∈ TB := TB_mem 1012 (by decide +kernel) (by decide +kernel)
theorem mvL_139 : MV RL 139 11 yX12_copy cX12_copy 7 (some .int) 5 := ⟨wl_1013, wl_1010, wl_1011, ⟨TX12, 25, rfl⟩, wl_1012, wl_64, by decide +kernel, by decide⟩
theorem lc_29 {G : GT} {bs Ln : Nat} {xs : Nat → Int32} {r : Nat → Nat} {o : Nat} {a : Nat → Nat} {s x : St} {l : Nat → Int64} {i : Nat} (hi6 : i + 6 ≤ Ln) (hL4 : Ln ≤ 384) (hI : LI (cn s)) (hC : CI (cn s) x) (K : ∀ (s2 x2 : St) (l2 : Nat → Int64), LI (cn s2) → CI (cn s2) x2 → JL G bs Ln xs 65 1531 1221 [(0, .ref bs), (1, .ref (r 0)), (2, .ref o), (3, .int (nI i))] [] (cW G r x2 l2 ++ mW G o a s2)) : JL G bs Ln xs 65 1531 1088 [(0, .ref bs), (1, .ref (r 0)), (2, .ref o), (3, .int (nI i))] [] (cW G r x l ++ mW G o a s) := by
  refine L_aload_n dL_law_1088 rfl rfl ?_
  refine L_aload_n dL_law_1089 rfl rfl ?_
  refine L_iload_n dL_law_1090 rfl rfl ?_
  refine L_iconst (v := nI 1) dL_law_1091 (by decide) ?_
  refine L_iaddN dL_law_1092 ?_
  refine L_sld (i + 1) rfl (by omega) hL4 dL_law_1093 ?_
  refine L_aload_n dL_law_1094 rfl rfl ?_
  refine L_iload_n dL_law_1095 rfl rfl ?_
  refine L_iconst (v := nI 2) dL_law_1096 (by decide) ?_
  refine L_iaddN dL_law_1097 ?_
  refine L_sld (i + 2) rfl (by omega) hL4 dL_law_1098 ?_
  refine L_aload_n dL_law_1099 rfl rfl ?_
  refine L_iload_n dL_law_1100 rfl rfl ?_
  refine L_iconst (v := nI 3) dL_law_1101 (by decide) ?_
  refine L_iaddN dL_law_1102 ?_
  refine L_sld (i + 3) rfl (by omega) hL4 dL_law_1103 ?_
  refine L_aload_n dL_law_1104 rfl rfl ?_
  refine L_iload_n dL_law_1105 rfl rfl ?_
  refine L_iconst (v := nI 4) dL_law_1106 (by decide) ?_
  refine L_iaddN dL_law_1107 ?_
  refine L_sld (i + 4) rfl (by omega) hL4 dL_law_1108 ?_
  refine L_aload_n dL_law_1109 rfl rfl ?_
  refine L_iload_n dL_law_1110 rfl rfl ?_
  refine L_iconst (v := nI 5) dL_law_1111 (by decide) ?_
  refine L_iaddN dL_law_1112 ?_
  refine L_sld (i + 5) rfl (by omega) hL4 dL_law_1113 ?_
  refine L_comm ?_
  refine L_callV (wr := mW G o a s) (wc := cW G r x l) (As := [.int (xs (i + 1)), .int (xs (i + 2)), .int (xs (i + 3)), .int (xs (i + 4)), .int (xs (i + 5))]) (st := []) 16 mvL_135 (c_X11_copy r x l (cn s) hI hC (xs (i + 1)) (xs (i + 2)) (xs (i + 3)) (xs (i + 4)) (xs (i + 5))) rfl rfl rfl rfl (by decide) (by decide) (by decide) dL_law_1114 (fun v w1 h => ?_)
  obtain ⟨x2, l2, rfl, rfl, hC2⟩ := h
  refine L_comm ?_
  refine L_aload_n dL_law_1117 rfl rfl ?_
  refine L_aload_n dL_law_1118 rfl rfl ?_
  refine L_iload_n dL_law_1119 rfl rfl ?_
  refine L_iconst (v := nI 1) dL_law_1120 (by decide) ?_
  refine L_iaddN dL_law_1121 ?_
  refine L_sld (i + 1) rfl (by omega) hL4 dL_law_1122 ?_
  refine L_aload_n dL_law_1123 rfl rfl ?_
  refine L_iload_n dL_law_1124 rfl rfl ?_
  refine L_iconst (v := nI 2) dL_law_1125 (by decide) ?_
  refine L_iaddN dL_law_1126 ?_
  refine L_sld (i + 2) rfl (by omega) hL4 dL_law_1127 ?_
  refine L_aload_n dL_law_1128 rfl rfl ?_
  refine L_iload_n dL_law_1129 rfl rfl ?_
  refine L_iconst (v := nI 3) dL_law_1130 (by decide) ?_
  refine L_iaddN dL_law_1131 ?_
  refine L_sld (i + 3) rfl (by omega) hL4 dL_law_1132 ?_
  refine L_aload_n dL_law_1133 rfl rfl ?_
  refine L_iload_n dL_law_1134 rfl rfl ?_
  refine L_iconst (v := nI 4) dL_law_1135 (by decide) ?_
  refine L_iaddN dL_law_1136 ?_
  refine L_sld (i + 4) rfl (by omega) hL4 dL_law_1137 ?_
  refine L_aload_n dL_law_1138 rfl rfl ?_
  refine L_iload_n dL_law_1139 rfl rfl ?_
  refine L_iconst (v := nI 5) dL_law_1140 (by decide) ?_
  refine L_iaddN dL_law_1141 ?_
  refine L_sld (i + 5) rfl (by omega) hL4 dL_law_1142 ?_
  refine L_callV (wr := cW G r x2 l2) (wc := mW G o a s) (As := [.int (xs (i + 1)), .int (xs (i + 2)), .int (xs (i + 3)), .int (xs (i + 4)), .int (xs (i + 5))]) (st := [.int _]) 49 mvL_139 (c_X12_copy o a s hI (xs (i + 1)) (xs (i + 2)) (xs (i + 3)) (xs (i + 4)) (xs (i + 5))) rfl rfl rfl rfl (by decide) (Nat.le_of_ble_eq_true rfl) (by decide) dL_law_1143 (fun v w1 h => ?_)
  obtain ⟨s2, rfl, rfl, h2⟩ := h
  exact L_icmp_eq 1221 dL_law_1146 rfl (fun _ => K s2 x2 l2 (by rw [h2]; exact li_copy hI (xs (i + 1)) (xs (i + 2)) (xs (i + 3)) (xs (i + 4)) (xs (i + 5))) (by rw [h2]; exact hC2)) (fun h => absurd rfl h)
theorem wl_848 : Cond.code yX11_hours cX11_hours 6 (some .int) ∈ TB := TB_mem 848 (by decide +kernel) (by decide +kernel)
theorem wl_845 : Cond.methodLink RL 140 yX11_hours ∈ TB := TB_mem 845 (by decide +kernel) (by decide +kernel)
theorem wl_846 : Cond.instanceMethod yX11_hours ∈ TB := TB_mem 846 (by decide +kernel) (by decide +kernel)
theorem wl_847 : Cond.selects RX11 yX11_hours yX11_hours ∈ TB := TB_mem 847 (by decide +kernel) (by decide +kernel)
theorem mvL_140 : MV RL 140 10 yX11_hours cX11_hours 6 (some .int) 2 := ⟨wl_848, wl_845, wl_846, ⟨TX11, 6, rfl⟩, wl_847, wl_51, by decide +kernel, by decide⟩
theorem wl_1316 : Cond.code yX12_hours cX12_hours 5 (some .int) ∈ TB := TB_mem 1316 (by decide +kernel) (by decide +kernel)
theorem wl_1313 : Cond.methodLink RL 143 yX12_hours ∈ TB := TB_mem 1313 (by decide +kernel) (by decide +kernel)
theorem wl_1314 : Cond.instanceMethod yX12_hours ∈ TB := TB_mem 1314 (by decide +kernel) (by decide +kernel)
theorem wl_1315 : Cond.selects RX12 yX12_hours yX12_hours ∈ TB := TB_mem 1315 (by decide +kernel) (by decide +kernel)
theorem mvL_143 : MV RL 143 11 yX12_hours cX12_hours 5 (some .int) 2 := ⟨wl_1316, wl_1313, wl_1314, ⟨TX12, 25, rfl⟩, wl_1315, wl_64, by decide +kernel, by decide⟩
theorem lc_30 {G : GT} {bs Ln : Nat} {xs : Nat → Int32} {r : Nat → Nat} {o : Nat} {a : Nat → Nat} {s x : St} {l : Nat → Int64} {i : Nat} (hi6 : i + 6 ≤ Ln) (hL4 : Ln ≤ 384) (hI : LI (cn s)) (hC : CI (cn s) x) (K : ∀ (s2 x2 : St) (l2 : Nat → Int64), LI (cn s2) → CI (cn s2) x2 → JL G bs Ln xs 65 1531 1221 [(0, .ref bs), (1, .ref (r 0)), (2, .ref o), (3, .int (nI i))] [] (cW G r x2 l2 ++ mW G o a s2)) : JL G bs Ln xs 65 1531 1151 [(0, .ref bs), (1, .ref (r 0)), (2, .ref o), (3, .int (nI i))] [] (cW G r x l ++ mW G o a s) := by
  refine L_aload_n dL_law_1151 rfl rfl ?_
  refine L_aload_n dL_law_1152 rfl rfl ?_
  refine L_iload_n dL_law_1153 rfl rfl ?_
  refine L_iconst (v := nI 1) dL_law_1154 (by decide) ?_
  refine L_iaddN dL_law_1155 ?_
  refine L_sld (i + 1) rfl (by omega) hL4 dL_law_1156 ?_
  refine L_aload_n dL_law_1157 rfl rfl ?_
  refine L_iload_n dL_law_1158 rfl rfl ?_
  refine L_iconst (v := nI 2) dL_law_1159 (by decide) ?_
  refine L_iaddN dL_law_1160 ?_
  refine L_sld (i + 2) rfl (by omega) hL4 dL_law_1161 ?_
  refine L_comm ?_
  refine L_callV (wr := mW G o a s) (wc := cW G r x l) (As := [.int (xs (i + 1)), .int (xs (i + 2))]) (st := []) 16 mvL_140 (c_X11_hours r x l (cn s) hI hC (xs (i + 1)) (xs (i + 2))) rfl rfl rfl rfl (by decide) (by decide) (by decide) dL_law_1162 (fun v w1 h => ?_)
  obtain ⟨x2, l2, rfl, rfl, hC2⟩ := h
  refine L_comm ?_
  refine L_aload_n dL_law_1165 rfl rfl ?_
  refine L_aload_n dL_law_1166 rfl rfl ?_
  refine L_iload_n dL_law_1167 rfl rfl ?_
  refine L_iconst (v := nI 1) dL_law_1168 (by decide) ?_
  refine L_iaddN dL_law_1169 ?_
  refine L_sld (i + 1) rfl (by omega) hL4 dL_law_1170 ?_
  refine L_aload_n dL_law_1171 rfl rfl ?_
  refine L_iload_n dL_law_1172 rfl rfl ?_
  refine L_iconst (v := nI 2) dL_law_1173 (by decide) ?_
  refine L_iaddN dL_law_1174 ?_
  refine L_sld (i + 2) rfl (by omega) hL4 dL_law_1175 ?_
  refine L_callV (wr := cW G r x2 l2) (wc := mW G o a s) (As := [.int (xs (i + 1)), .int (xs (i + 2))]) (st := [.int _]) 49 mvL_143 (c_X12_hours o a s hI (xs (i + 1)) (xs (i + 2))) rfl rfl rfl rfl (by decide) (Nat.le_of_ble_eq_true rfl) (by decide) dL_law_1176 (fun v w1 h => ?_)
  obtain ⟨s2, rfl, rfl, h2⟩ := h
  exact L_icmp_eq 1221 dL_law_1179 rfl (fun _ => K s2 x2 l2 (by rw [h2]; exact li_hours hI (xs (i + 1)) (xs (i + 2))) (by rw [h2]; exact hC2)) (fun h => absurd rfl h)
theorem wl_853 : Cond.code yX11_count cX11_count 2 (some .int) ∈ TB := TB_mem 853 (by decide +kernel) (by decide +kernel)
theorem wl_850 : Cond.methodLink RL 144 yX11_count ∈ TB := TB_mem 850 (by decide +kernel) (by decide +kernel)
theorem wl_851 : Cond.instanceMethod yX11_count ∈ TB := TB_mem 851 (by decide +kernel) (by decide +kernel)
theorem wl_852 : Cond.selects RX11 yX11_count yX11_count ∈ TB := TB_mem 852 (by decide +kernel) (by decide +kernel)
theorem mvL_144 : MV RL 144 10 yX11_count cX11_count 2 (some .int) 1 := ⟨wl_853, wl_850, wl_851, ⟨TX11, 6, rfl⟩, wl_852, wl_51, by decide +kernel, by decide⟩
theorem wl_1320 : Cond.code yX12_count cX12_count 2 (some .int) ∈ TB := TB_mem 1320 (by decide +kernel) (by decide +kernel)
theorem wl_1317 : Cond.methodLink RL 147 yX12_count ∈ TB := TB_mem 1317 (by decide +kernel) (by decide +kernel)
theorem wl_1318 : Cond.instanceMethod yX12_count ∈ TB := TB_mem 1318 (by decide +kernel) (by decide +kernel)
theorem wl_1319 : Cond.selects RX12 yX12_count yX12_count ∈ TB := TB_mem 1319 (by decide +kernel) (by decide +kernel)
theorem mvL_147 : MV RL 147 11 yX12_count cX12_count 2 (some .int) 1 := ⟨wl_1320, wl_1317, wl_1318, ⟨TX12, 25, rfl⟩, wl_1319, wl_64, by decide +kernel, by decide⟩
theorem lc_31 {G : GT} {bs Ln : Nat} {xs : Nat → Int32} {r : Nat → Nat} {o : Nat} {a : Nat → Nat} {s x : St} {l : Nat → Int64} {i : Nat} (hi6 : i + 6 ≤ Ln) (hL4 : Ln ≤ 384) (hI : LI (cn s)) (hC : CI (cn s) x) (K : ∀ (s2 x2 : St) (l2 : Nat → Int64), LI (cn s2) → CI (cn s2) x2 → JL G bs Ln xs 65 1531 1221 [(0, .ref bs), (1, .ref (r 0)), (2, .ref o), (3, .int (nI i))] [] (cW G r x2 l2 ++ mW G o a s2)) : JL G bs Ln xs 65 1531 1184 [(0, .ref bs), (1, .ref (r 0)), (2, .ref o), (3, .int (nI i))] [] (cW G r x l ++ mW G o a s) := by
  refine L_aload_n dL_law_1184 rfl rfl ?_
  refine L_aload_n dL_law_1185 rfl rfl ?_
  refine L_iload_n dL_law_1186 rfl rfl ?_
  refine L_iconst (v := nI 1) dL_law_1187 (by decide) ?_
  refine L_iaddN dL_law_1188 ?_
  refine L_sld (i + 1) rfl (by omega) hL4 dL_law_1189 ?_
  refine L_comm ?_
  refine L_callV (wr := mW G o a s) (wc := cW G r x l) (As := [.int (xs (i + 1))]) (st := []) 16 mvL_144 (c_X11_count r x l (cn s) hI hC (xs (i + 1))) rfl rfl rfl rfl (by decide) (by decide) (by decide) dL_law_1190 (fun v w1 h => ?_)
  obtain ⟨x2, l2, rfl, rfl, hC2⟩ := h
  refine L_comm ?_
  refine L_aload_n dL_law_1193 rfl rfl ?_
  refine L_aload_n dL_law_1194 rfl rfl ?_
  refine L_iload_n dL_law_1195 rfl rfl ?_
  refine L_iconst (v := nI 1) dL_law_1196 (by decide) ?_
  refine L_iaddN dL_law_1197 ?_
  refine L_sld (i + 1) rfl (by omega) hL4 dL_law_1198 ?_
  refine L_callV (wr := cW G r x2 l2) (wc := mW G o a s) (As := [.int (xs (i + 1))]) (st := [.int _]) 49 mvL_147 (c_X12_count o a s hI (xs (i + 1))) rfl rfl rfl rfl (by decide) (Nat.le_of_ble_eq_true rfl) (by decide) dL_law_1199 (fun v w1 h => ?_)
  obtain ⟨s2, rfl, rfl, h2⟩ := h
  exact L_icmp_eq 1221 dL_law_1202 rfl (fun _ => K s2 x2 l2 (by rw [h2]; exact hI) (by rw [h2]; exact hC2)) (fun h => absurd rfl h)
theorem wl_857 : Cond.code yX11_digest cX11_digest 5 (some .long) ∈ TB := TB_mem 857 (by decide +kernel) (by decide +kernel)
theorem wl_854 : Cond.methodLink RL 148 yX11_digest ∈ TB := TB_mem 854 (by decide +kernel) (by decide +kernel)
theorem wl_855 : Cond.instanceMethod yX11_digest ∈ TB := TB_mem 855 (by decide +kernel) (by decide +kernel)
theorem wl_856 : Cond.selects RX11 yX11_digest yX11_digest ∈ TB := TB_mem 856 (by decide +kernel) (by decide +kernel)
theorem mvL_148 : MV RL 148 10 yX11_digest cX11_digest 5 (some .long) 0 := ⟨wl_857, wl_854, wl_855, ⟨TX11, 6, rfl⟩, wl_856, wl_51, by decide +kernel, by decide⟩
theorem wl_1324 : Cond.code yX12_digest cX12_digest 5 (some .long) ∈ TB := TB_mem 1324 (by decide +kernel) (by decide +kernel)
theorem wl_1321 : Cond.methodLink RL 152 yX12_digest ∈ TB := TB_mem 1321 (by decide +kernel) (by decide +kernel)
theorem wl_1322 : Cond.instanceMethod yX12_digest ∈ TB := TB_mem 1322 (by decide +kernel) (by decide +kernel)
theorem wl_1323 : Cond.selects RX12 yX12_digest yX12_digest ∈ TB := TB_mem 1323 (by decide +kernel) (by decide +kernel)
theorem mvL_152 : MV RL 152 11 yX12_digest cX12_digest 5 (some .long) 0 := ⟨wl_1324, wl_1321, wl_1322, ⟨TX12, 25, rfl⟩, wl_1323, wl_64, by decide +kernel, by decide⟩
theorem lc_32 {G : GT} {bs Ln : Nat} {xs : Nat → Int32} {r : Nat → Nat} {o : Nat} {a : Nat → Nat} {s x : St} {l : Nat → Int64} {i : Nat} (hi6 : i + 6 ≤ Ln) (hL4 : Ln ≤ 384) (hI : LI (cn s)) (hC : CI (cn s) x) (K : ∀ (s2 x2 : St) (l2 : Nat → Int64), LI (cn s2) → CI (cn s2) x2 → JL G bs Ln xs 65 1531 1221 [(0, .ref bs), (1, .ref (r 0)), (2, .ref o), (3, .int (nI i))] [] (cW G r x2 l2 ++ mW G o a s2)) : JL G bs Ln xs 65 1531 1207 [(0, .ref bs), (1, .ref (r 0)), (2, .ref o), (3, .int (nI i))] [] (cW G r x l ++ mW G o a s) := by
  refine L_aload_n dL_law_1207 rfl rfl ?_
  refine L_comm ?_
  refine L_callV (wr := mW G o a s) (wc := cW G r x l) (As := []) (st := []) 16 mvL_148 (c_X11_digest r x l (cn s) hI hC) rfl rfl rfl rfl (by decide) (by decide) (by decide) dL_law_1208 (fun v w1 h => ?_)
  obtain ⟨x2, l2, rfl, rfl, hC2⟩ := h
  refine L_comm ?_
  refine L_aload_n dL_law_1211 rfl rfl ?_
  refine L_callV (wr := cW G r x2 l2) (wc := mW G o a s) (As := []) (st := [.long _]) 49 mvL_152 (c_X12_digest o a s hI) rfl rfl rfl rfl (by decide) (Nat.le_of_ble_eq_true rfl) (by decide) dL_law_1212 (fun v w1 h => ?_)
  obtain ⟨s2, rfl, rfl, h2⟩ := h
  refine L_lcmp dL_law_1215 ?_
  exact L_if_eq 1221 dL_law_1216 rfl (fun _ => K s2 x2 l2 (by rw [h2]; exact hI) (by rw [h2]; exact hC2)) (fun h => absurd (lg_cmp_self _) h)
