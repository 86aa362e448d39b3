-- ===== PART A: goes FIRST, ahead of the names: the tables' words, and 'selects' of the private methods out of them =====
/-- a private method of a class that the tables say can be made, by its rows of tables_1 -/
def lw_okq (q : MethodName × Nat) : Prop := (q.1.cls ≠ "java/lang/invoke/MethodHandle" ∧ q.1.cls ≠ "java/lang/invoke/VarHandle") ∧ Cond.instantiable q.1.cls q.2 ∈ tables_1 ∧ Cond.privateMethod q.1 ∈ tables_1 ∧ Cond.instanceMethod q.1 ∈ tables_1
theorem lw_p0 : lw_okq (⟨"HabitWill", "listingOf", "(I)LHabitWill$Listing;"⟩, 6) := ⟨⟨by decide +kernel, by decide +kernel⟩, List.mem_of_getElem? (i := 19) (by decide +kernel), List.mem_of_getElem? (i := 352) (by decide +kernel), List.mem_of_getElem? (i := 353) (by decide +kernel)⟩
theorem lw_p1 : lw_okq (⟨"HabitWill$Estate", "carryOut", "(IZI)Z"⟩, 6) := ⟨⟨by decide +kernel, by decide +kernel⟩, List.mem_of_getElem? (i := 27) (by decide +kernel), List.mem_of_getElem? (i := 506) (by decide +kernel), List.mem_of_getElem? (i := 507) (by decide +kernel)⟩
theorem lw_p2 : lw_okq (⟨"HabitWill$Plan", "openSetsOf", "(LHabitWill$Law;I)V"⟩, 9) := ⟨⟨by decide +kernel, by decide +kernel⟩, List.mem_of_getElem? (i := 268) (by decide +kernel), List.mem_of_getElem? (i := 608) (by decide +kernel), List.mem_of_getElem? (i := 609) (by decide +kernel)⟩
theorem lw_p3 : lw_okq (⟨"HabitWill$Plan", "keepOpen", "(IIJ)V"⟩, 9) := ⟨⟨by decide +kernel, by decide +kernel⟩, List.mem_of_getElem? (i := 268) (by decide +kernel), List.mem_of_getElem? (i := 613) (by decide +kernel), List.mem_of_getElem? (i := 614) (by decide +kernel)⟩
theorem lw_p4 : lw_okq (⟨"HabitWill$Plan", "mayAllLive", "(I)Z"⟩, 9) := ⟨⟨by decide +kernel, by decide +kernel⟩, List.mem_of_getElem? (i := 268) (by decide +kernel), List.mem_of_getElem? (i := 621) (by decide +kernel), List.mem_of_getElem? (i := 622) (by decide +kernel)⟩
theorem lw_p5 : lw_okq (⟨"HabitWill$Week", "sumOf", "(II)I"⟩, 1) := ⟨⟨by decide +kernel, by decide +kernel⟩, List.mem_of_getElem? (i := 235) (by decide +kernel), List.mem_of_getElem? (i := 651) (by decide +kernel), List.mem_of_getElem? (i := 652) (by decide +kernel)⟩
theorem lw_p6 : lw_okq (⟨"HabitWill", "found", "(I)I"⟩, 6) := ⟨⟨by decide +kernel, by decide +kernel⟩, List.mem_of_getElem? (i := 19) (by decide +kernel), List.mem_of_getElem? (i := 684) (by decide +kernel), List.mem_of_getElem? (i := 685) (by decide +kernel)⟩
theorem lw_p7 : lw_okq (⟨"HabitWill", "possibleOwners", "(I)I"⟩, 6) := ⟨⟨by decide +kernel, by decide +kernel⟩, List.mem_of_getElem? (i := 19) (by decide +kernel), List.mem_of_getElem? (i := 703) (by decide +kernel), List.mem_of_getElem? (i := 704) (by decide +kernel)⟩
theorem lw_p8 : lw_okq (⟨"HabitWill", "mixHabit", "(JI)J"⟩, 6) := ⟨⟨by decide +kernel, by decide +kernel⟩, List.mem_of_getElem? (i := 19) (by decide +kernel), List.mem_of_getElem? (i := 816) (by decide +kernel), List.mem_of_getElem? (i := 817) (by decide +kernel)⟩
theorem lw_p9 : lw_okq (⟨"HabitWill", "mixHeir", "(JI)J"⟩, 6) := ⟨⟨by decide +kernel, by decide +kernel⟩, List.mem_of_getElem? (i := 19) (by decide +kernel), List.mem_of_getElem? (i := 824) (by decide +kernel), List.mem_of_getElem? (i := 825) (by decide +kernel)⟩
theorem lw_p10 : lw_okq (⟨"HabitWill", "mixPlansOf", "(JI)J"⟩, 6) := ⟨⟨by decide +kernel, by decide +kernel⟩, List.mem_of_getElem? (i := 19) (by decide +kernel), List.mem_of_getElem? (i := 831) (by decide +kernel), List.mem_of_getElem? (i := 832) (by decide +kernel)⟩
theorem lw_p11 : lw_okq (⟨"HabitWillModel", "finds", "(I)I"⟩, 25) := ⟨⟨by decide +kernel, by decide +kernel⟩, List.mem_of_getElem? (i := 843) (by decide +kernel), List.mem_of_getElem? (i := 937) (by decide +kernel), List.mem_of_getElem? (i := 938) (by decide +kernel)⟩
theorem lw_p12 : lw_okq (⟨"HabitWillModel", "lacks", "(III)I"⟩, 25) := ⟨⟨by decide +kernel, by decide +kernel⟩, List.mem_of_getElem? (i := 843) (by decide +kernel), List.mem_of_getElem? (i := 949) (by decide +kernel), List.mem_of_getElem? (i := 950) (by decide +kernel)⟩
theorem lw_p13 : lw_okq (⟨"HabitWillModel", "readsText", "(I)I"⟩, 25) := ⟨⟨by decide +kernel, by decide +kernel⟩, List.mem_of_getElem? (i := 843) (by decide +kernel), List.mem_of_getElem? (i := 985) (by decide +kernel), List.mem_of_getElem? (i := 986) (by decide +kernel)⟩
theorem lw_p14 : lw_okq (⟨"HabitWillModel", "readsThing", "(I)Z"⟩, 25) := ⟨⟨by decide +kernel, by decide +kernel⟩, List.mem_of_getElem? (i := 843) (by decide +kernel), List.mem_of_getElem? (i := 989) (by decide +kernel), List.mem_of_getElem? (i := 990) (by decide +kernel)⟩
theorem lw_p15 : lw_okq (⟨"HabitWillModel", "put", "(II)I"⟩, 25) := ⟨⟨by decide +kernel, by decide +kernel⟩, List.mem_of_getElem? (i := 843) (by decide +kernel), List.mem_of_getElem? (i := 993) (by decide +kernel), List.mem_of_getElem? (i := 994) (by decide +kernel)⟩
def lw_privs_1 : List (MethodName × Nat) := [(⟨"HabitWill", "listingOf", "(I)LHabitWill$Listing;"⟩, 6), (⟨"HabitWill$Estate", "carryOut", "(IZI)Z"⟩, 6), (⟨"HabitWill$Plan", "openSetsOf", "(LHabitWill$Law;I)V"⟩, 9), (⟨"HabitWill$Plan", "keepOpen", "(IIJ)V"⟩, 9), (⟨"HabitWill$Plan", "mayAllLive", "(I)Z"⟩, 9), (⟨"HabitWill$Week", "sumOf", "(II)I"⟩, 1), (⟨"HabitWill", "found", "(I)I"⟩, 6), (⟨"HabitWill", "possibleOwners", "(I)I"⟩, 6), (⟨"HabitWill", "mixHabit", "(JI)J"⟩, 6), (⟨"HabitWill", "mixHeir", "(JI)J"⟩, 6), (⟨"HabitWill", "mixPlansOf", "(JI)J"⟩, 6), (⟨"HabitWillModel", "finds", "(I)I"⟩, 25), (⟨"HabitWillModel", "lacks", "(III)I"⟩, 25), (⟨"HabitWillModel", "readsText", "(I)I"⟩, 25), (⟨"HabitWillModel", "readsThing", "(I)Z"⟩, 25), (⟨"HabitWillModel", "put", "(II)I"⟩, 25)]
theorem lw_r1 : ∀ q ∈ lw_privs_1, lw_okq q := List.forall_mem_cons.mpr ⟨lw_p0, List.forall_mem_cons.mpr ⟨lw_p1, List.forall_mem_cons.mpr ⟨lw_p2, List.forall_mem_cons.mpr ⟨lw_p3, List.forall_mem_cons.mpr ⟨lw_p4, List.forall_mem_cons.mpr ⟨lw_p5, List.forall_mem_cons.mpr ⟨lw_p6, List.forall_mem_cons.mpr ⟨lw_p7, List.forall_mem_cons.mpr ⟨lw_p8, List.forall_mem_cons.mpr ⟨lw_p9, List.forall_mem_cons.mpr ⟨lw_p10, List.forall_mem_cons.mpr ⟨lw_p11, List.forall_mem_cons.mpr ⟨lw_p12, List.forall_mem_cons.mpr ⟨lw_p13, List.forall_mem_cons.mpr ⟨lw_p14, List.forall_mem_cons.mpr ⟨lw_p15, fun _ h => absurd h List.not_mem_nil⟩⟩⟩⟩⟩⟩⟩⟩⟩⟩⟩⟩⟩⟩⟩⟩
theorem lw_p16 : lw_okq (⟨"HabitWillModel", "here", "(I)I"⟩, 25) := ⟨⟨by decide +kernel, by decide +kernel⟩, List.mem_of_getElem? (i := 843) (by decide +kernel), List.mem_of_getElem? (i := 997) (by decide +kernel), List.mem_of_getElem? (i := 998) (by decide +kernel)⟩
theorem lw_p17 : lw_okq (⟨"HabitWillModel", "reads", "()V"⟩, 25) := ⟨⟨by decide +kernel, by decide +kernel⟩, List.mem_of_getElem? (i := 843) (by decide +kernel), List.mem_of_getElem? (i := 1020) (by decide +kernel), List.mem_of_getElem? (i := 1021) (by decide +kernel)⟩
theorem lw_p18 : lw_okq (⟨"HabitWillModel", "isHabit", "(I)Z"⟩, 25) := ⟨⟨by decide +kernel, by decide +kernel⟩, List.mem_of_getElem? (i := 843) (by decide +kernel), List.mem_of_getElem? (i := 1024) (by decide +kernel), List.mem_of_getElem? (i := 1025) (by decide +kernel)⟩
theorem lw_p19 : lw_okq (⟨"HabitWillModel", "isHeir", "(I)Z"⟩, 25) := ⟨⟨by decide +kernel, by decide +kernel⟩, List.mem_of_getElem? (i := 843) (by decide +kernel), List.mem_of_getElem? (i := 1033) (by decide +kernel), List.mem_of_getElem? (i := 1034) (by decide +kernel)⟩
theorem lw_p20 : lw_okq (⟨"HabitWillModel", "find", "()V"⟩, 25) := ⟨⟨by decide +kernel, by decide +kernel⟩, List.mem_of_getElem? (i := 843) (by decide +kernel), List.mem_of_getElem? (i := 1064) (by decide +kernel), List.mem_of_getElem? (i := 1065) (by decide +kernel)⟩
theorem lw_p21 : lw_okq (⟨"HabitWillModel", "readsWill", "()V"⟩, 25) := ⟨⟨by decide +kernel, by decide +kernel⟩, List.mem_of_getElem? (i := 843) (by decide +kernel), List.mem_of_getElem? (i := 1068) (by decide +kernel), List.mem_of_getElem? (i := 1069) (by decide +kernel)⟩
theorem lw_p22 : lw_okq (⟨"HabitWillModel", "comes", "(III)Z"⟩, 25) := ⟨⟨by decide +kernel, by decide +kernel⟩, List.mem_of_getElem? (i := 843) (by decide +kernel), List.mem_of_getElem? (i := 1072) (by decide +kernel), List.mem_of_getElem? (i := 1073) (by decide +kernel)⟩
theorem lw_p23 : lw_okq (⟨"HabitWillModel", "refuses", "(II)Z"⟩, 25) := ⟨⟨by decide +kernel, by decide +kernel⟩, List.mem_of_getElem? (i := 843) (by decide +kernel), List.mem_of_getElem? (i := 1076) (by decide +kernel), List.mem_of_getElem? (i := 1077) (by decide +kernel)⟩
theorem lw_p24 : lw_okq (⟨"HabitWillModel", "hasOf", "(II)I"⟩, 25) := ⟨⟨by decide +kernel, by decide +kernel⟩, List.mem_of_getElem? (i := 843) (by decide +kernel), List.mem_of_getElem? (i := 1087) (by decide +kernel), List.mem_of_getElem? (i := 1088) (by decide +kernel)⟩
theorem lw_p25 : lw_okq (⟨"HabitWillModel", "hasNow", "(I)I"⟩, 25) := ⟨⟨by decide +kernel, by decide +kernel⟩, List.mem_of_getElem? (i := 843) (by decide +kernel), List.mem_of_getElem? (i := 1091) (by decide +kernel), List.mem_of_getElem? (i := 1092) (by decide +kernel)⟩
theorem lw_p26 : lw_okq (⟨"HabitWillModel", "cannotNow", "(I)I"⟩, 25) := ⟨⟨by decide +kernel, by decide +kernel⟩, List.mem_of_getElem? (i := 843) (by decide +kernel), List.mem_of_getElem? (i := 1095) (by decide +kernel), List.mem_of_getElem? (i := 1096) (by decide +kernel)⟩
theorem lw_p27 : lw_okq (⟨"HabitWillModel", "cannot", "(II)Z"⟩, 25) := ⟨⟨by decide +kernel, by decide +kernel⟩, List.mem_of_getElem? (i := 843) (by decide +kernel), List.mem_of_getElem? (i := 1099) (by decide +kernel), List.mem_of_getElem? (i := 1100) (by decide +kernel)⟩
theorem lw_p28 : lw_okq (⟨"HabitWillModel", "isAt", "(II)Z"⟩, 25) := ⟨⟨by decide +kernel, by decide +kernel⟩, List.mem_of_getElem? (i := 843) (by decide +kernel), List.mem_of_getElem? (i := 1103) (by decide +kernel), List.mem_of_getElem? (i := 1104) (by decide +kernel)⟩
theorem lw_p29 : lw_okq (⟨"HabitWillModel", "isAway", "(II)Z"⟩, 25) := ⟨⟨by decide +kernel, by decide +kernel⟩, List.mem_of_getElem? (i := 843) (by decide +kernel), List.mem_of_getElem? (i := 1107) (by decide +kernel), List.mem_of_getElem? (i := 1108) (by decide +kernel)⟩
theorem lw_p30 : lw_okq (⟨"HabitWillModel", "worthNow", "(I)I"⟩, 25) := ⟨⟨by decide +kernel, by decide +kernel⟩, List.mem_of_getElem? (i := 843) (by decide +kernel), List.mem_of_getElem? (i := 1111) (by decide +kernel), List.mem_of_getElem? (i := 1112) (by decide +kernel)⟩
theorem lw_p31 : lw_okq (⟨"HabitWillModel", "lives", "(I)Z"⟩, 25) := ⟨⟨by decide +kernel, by decide +kernel⟩, List.mem_of_getElem? (i := 843) (by decide +kernel), List.mem_of_getElem? (i := 1115) (by decide +kernel), List.mem_of_getElem? (i := 1116) (by decide +kernel)⟩
def lw_privs_2 : List (MethodName × Nat) := [(⟨"HabitWillModel", "here", "(I)I"⟩, 25), (⟨"HabitWillModel", "reads", "()V"⟩, 25), (⟨"HabitWillModel", "isHabit", "(I)Z"⟩, 25), (⟨"HabitWillModel", "isHeir", "(I)Z"⟩, 25), (⟨"HabitWillModel", "find", "()V"⟩, 25), (⟨"HabitWillModel", "readsWill", "()V"⟩, 25), (⟨"HabitWillModel", "comes", "(III)Z"⟩, 25), (⟨"HabitWillModel", "refuses", "(II)Z"⟩, 25), (⟨"HabitWillModel", "hasOf", "(II)I"⟩, 25), (⟨"HabitWillModel", "hasNow", "(I)I"⟩, 25), (⟨"HabitWillModel", "cannotNow", "(I)I"⟩, 25), (⟨"HabitWillModel", "cannot", "(II)Z"⟩, 25), (⟨"HabitWillModel", "isAt", "(II)Z"⟩, 25), (⟨"HabitWillModel", "isAway", "(II)Z"⟩, 25), (⟨"HabitWillModel", "worthNow", "(I)I"⟩, 25), (⟨"HabitWillModel", "lives", "(I)Z"⟩, 25)]
theorem lw_r2 : ∀ q ∈ lw_privs_2, lw_okq q := List.forall_mem_cons.mpr ⟨lw_p16, List.forall_mem_cons.mpr ⟨lw_p17, List.forall_mem_cons.mpr ⟨lw_p18, List.forall_mem_cons.mpr ⟨lw_p19, List.forall_mem_cons.mpr ⟨lw_p20, List.forall_mem_cons.mpr ⟨lw_p21, List.forall_mem_cons.mpr ⟨lw_p22, List.forall_mem_cons.mpr ⟨lw_p23, List.forall_mem_cons.mpr ⟨lw_p24, List.forall_mem_cons.mpr ⟨lw_p25, List.forall_mem_cons.mpr ⟨lw_p26, List.forall_mem_cons.mpr ⟨lw_p27, List.forall_mem_cons.mpr ⟨lw_p28, List.forall_mem_cons.mpr ⟨lw_p29, List.forall_mem_cons.mpr ⟨lw_p30, List.forall_mem_cons.mpr ⟨lw_p31, fun _ h => absurd h List.not_mem_nil⟩⟩⟩⟩⟩⟩⟩⟩⟩⟩⟩⟩⟩⟩⟩⟩
theorem lw_p32 : lw_okq (⟨"HabitWillModel", "atOnce", "(II)I"⟩, 25) := ⟨⟨by decide +kernel, by decide +kernel⟩, List.mem_of_getElem? (i := 843) (by decide +kernel), List.mem_of_getElem? (i := 1122) (by decide +kernel), List.mem_of_getElem? (i := 1123) (by decide +kernel)⟩
theorem lw_p33 : lw_okq (⟨"HabitWillModel", "doesNow", "(II)I"⟩, 25) := ⟨⟨by decide +kernel, by decide +kernel⟩, List.mem_of_getElem? (i := 843) (by decide +kernel), List.mem_of_getElem? (i := 1134) (by decide +kernel), List.mem_of_getElem? (i := 1135) (by decide +kernel)⟩
theorem lw_p34 : lw_okq (⟨"HabitWillModel", "quarrelOf", "(I)I"⟩, 25) := ⟨⟨by decide +kernel, by decide +kernel⟩, List.mem_of_getElem? (i := 843) (by decide +kernel), List.mem_of_getElem? (i := 1146) (by decide +kernel), List.mem_of_getElem? (i := 1147) (by decide +kernel)⟩
theorem lw_p35 : lw_okq (⟨"HabitWillModel", "bestOf", "(I)I"⟩, 25) := ⟨⟨by decide +kernel, by decide +kernel⟩, List.mem_of_getElem? (i := 843) (by decide +kernel), List.mem_of_getElem? (i := 1155) (by decide +kernel), List.mem_of_getElem? (i := 1156) (by decide +kernel)⟩
theorem lw_p36 : lw_okq (⟨"HabitWillModel", "findBest", "()V"⟩, 25) := ⟨⟨by decide +kernel, by decide +kernel⟩, List.mem_of_getElem? (i := 843) (by decide +kernel), List.mem_of_getElem? (i := 1159) (by decide +kernel), List.mem_of_getElem? (i := 1160) (by decide +kernel)⟩
theorem lw_p37 : lw_okq (⟨"HabitWillModel", "laysOut", "(III)I"⟩, 25) := ⟨⟨by decide +kernel, by decide +kernel⟩, List.mem_of_getElem? (i := 843) (by decide +kernel), List.mem_of_getElem? (i := 1166) (by decide +kernel), List.mem_of_getElem? (i := 1167) (by decide +kernel)⟩
theorem lw_p38 : lw_okq (⟨"HabitWillModel", "writeOf", "(I)I"⟩, 25) := ⟨⟨by decide +kernel, by decide +kernel⟩, List.mem_of_getElem? (i := 843) (by decide +kernel), List.mem_of_getElem? (i := 1177) (by decide +kernel), List.mem_of_getElem? (i := 1178) (by decide +kernel)⟩
theorem lw_p39 : lw_okq (⟨"HabitWillModel", "partOf", "(III)I"⟩, 25) := ⟨⟨by decide +kernel, by decide +kernel⟩, List.mem_of_getElem? (i := 843) (by decide +kernel), List.mem_of_getElem? (i := 1188) (by decide +kernel), List.mem_of_getElem? (i := 1189) (by decide +kernel)⟩
theorem lw_p40 : lw_okq (⟨"HabitWillModel", "valueOf", "(II)I"⟩, 25) := ⟨⟨by decide +kernel, by decide +kernel⟩, List.mem_of_getElem? (i := 843) (by decide +kernel), List.mem_of_getElem? (i := 1192) (by decide +kernel), List.mem_of_getElem? (i := 1193) (by decide +kernel)⟩
theorem lw_p41 : lw_okq (⟨"HabitWillModel", "whoseOf", "(I)I"⟩, 25) := ⟨⟨by decide +kernel, by decide +kernel⟩, List.mem_of_getElem? (i := 843) (by decide +kernel), List.mem_of_getElem? (i := 1213) (by decide +kernel), List.mem_of_getElem? (i := 1214) (by decide +kernel)⟩
theorem lw_p42 : lw_okq (⟨"HabitWillModel", "isSeen", "()Z"⟩, 25) := ⟨⟨by decide +kernel, by decide +kernel⟩, List.mem_of_getElem? (i := 843) (by decide +kernel), List.mem_of_getElem? (i := 1217) (by decide +kernel), List.mem_of_getElem? (i := 1218) (by decide +kernel)⟩
theorem lw_p43 : lw_okq (⟨"HabitWillModel", "lookOf", "(II)I"⟩, 25) := ⟨⟨by decide +kernel, by decide +kernel⟩, List.mem_of_getElem? (i := 843) (by decide +kernel), List.mem_of_getElem? (i := 1225) (by decide +kernel), List.mem_of_getElem? (i := 1226) (by decide +kernel)⟩
theorem lw_p44 : lw_okq (⟨"HabitWillModel", "mostAlike", "(IIII)I"⟩, 25) := ⟨⟨by decide +kernel, by decide +kernel⟩, List.mem_of_getElem? (i := 843) (by decide +kernel), List.mem_of_getElem? (i := 1229) (by decide +kernel), List.mem_of_getElem? (i := 1230) (by decide +kernel)⟩
theorem lw_p45 : lw_okq (⟨"HabitWillModel", "marchOf", "(IIII)J"⟩, 25) := ⟨⟨by decide +kernel, by decide +kernel⟩, List.mem_of_getElem? (i := 843) (by decide +kernel), List.mem_of_getElem? (i := 1239) (by decide +kernel), List.mem_of_getElem? (i := 1240) (by decide +kernel)⟩
theorem lw_p46 : lw_okq (⟨"HabitWillModel", "willsOf", "(III)I"⟩, 25) := ⟨⟨by decide +kernel, by decide +kernel⟩, List.mem_of_getElem? (i := 843) (by decide +kernel), List.mem_of_getElem? (i := 1255) (by decide +kernel), List.mem_of_getElem? (i := 1256) (by decide +kernel)⟩
theorem lw_p47 : lw_okq (⟨"HabitWillModel", "lot", "(I)I"⟩, 25) := ⟨⟨by decide +kernel, by decide +kernel⟩, List.mem_of_getElem? (i := 843) (by decide +kernel), List.mem_of_getElem? (i := 1259) (by decide +kernel), List.mem_of_getElem? (i := 1260) (by decide +kernel)⟩
def lw_privs_3 : List (MethodName × Nat) := [(⟨"HabitWillModel", "atOnce", "(II)I"⟩, 25), (⟨"HabitWillModel", "doesNow", "(II)I"⟩, 25), (⟨"HabitWillModel", "quarrelOf", "(I)I"⟩, 25), (⟨"HabitWillModel", "bestOf", "(I)I"⟩, 25), (⟨"HabitWillModel", "findBest", "()V"⟩, 25), (⟨"HabitWillModel", "laysOut", "(III)I"⟩, 25), (⟨"HabitWillModel", "writeOf", "(I)I"⟩, 25), (⟨"HabitWillModel", "partOf", "(III)I"⟩, 25), (⟨"HabitWillModel", "valueOf", "(II)I"⟩, 25), (⟨"HabitWillModel", "whoseOf", "(I)I"⟩, 25), (⟨"HabitWillModel", "isSeen", "()Z"⟩, 25), (⟨"HabitWillModel", "lookOf", "(II)I"⟩, 25), (⟨"HabitWillModel", "mostAlike", "(IIII)I"⟩, 25), (⟨"HabitWillModel", "marchOf", "(IIII)J"⟩, 25), (⟨"HabitWillModel", "willsOf", "(III)I"⟩, 25), (⟨"HabitWillModel", "lot", "(I)I"⟩, 25)]
theorem lw_r3 : ∀ q ∈ lw_privs_3, lw_okq q := List.forall_mem_cons.mpr ⟨lw_p32, List.forall_mem_cons.mpr ⟨lw_p33, List.forall_mem_cons.mpr ⟨lw_p34, List.forall_mem_cons.mpr ⟨lw_p35, List.forall_mem_cons.mpr ⟨lw_p36, List.forall_mem_cons.mpr ⟨lw_p37, List.forall_mem_cons.mpr ⟨lw_p38, List.forall_mem_cons.mpr ⟨lw_p39, List.forall_mem_cons.mpr ⟨lw_p40, List.forall_mem_cons.mpr ⟨lw_p41, List.forall_mem_cons.mpr ⟨lw_p42, List.forall_mem_cons.mpr ⟨lw_p43, List.forall_mem_cons.mpr ⟨lw_p44, List.forall_mem_cons.mpr ⟨lw_p45, List.forall_mem_cons.mpr ⟨lw_p46, List.forall_mem_cons.mpr ⟨lw_p47, fun _ h => absurd h List.not_mem_nil⟩⟩⟩⟩⟩⟩⟩⟩⟩⟩⟩⟩⟩⟩⟩⟩
theorem lw_p48 : lw_okq (⟨"HabitWillModel", "tellsHabits", "(JI)J"⟩, 25) := ⟨⟨by decide +kernel, by decide +kernel⟩, List.mem_of_getElem? (i := 843) (by decide +kernel), List.mem_of_getElem? (i := 1279) (by decide +kernel), List.mem_of_getElem? (i := 1280) (by decide +kernel)⟩
theorem lw_p49 : lw_okq (⟨"HabitWillModel", "tellsHeirs", "(JI)J"⟩, 25) := ⟨⟨by decide +kernel, by decide +kernel⟩, List.mem_of_getElem? (i := 843) (by decide +kernel), List.mem_of_getElem? (i := 1284) (by decide +kernel), List.mem_of_getElem? (i := 1285) (by decide +kernel)⟩
def lw_privs_4 : List (MethodName × Nat) := [(⟨"HabitWillModel", "tellsHabits", "(JI)J"⟩, 25), (⟨"HabitWillModel", "tellsHeirs", "(JI)J"⟩, 25)]
theorem lw_r4 : ∀ q ∈ lw_privs_4, lw_okq q := List.forall_mem_cons.mpr ⟨lw_p48, List.forall_mem_cons.mpr ⟨lw_p49, fun _ h => absurd h List.not_mem_nil⟩⟩
def lw_privs : List (MethodName × Nat) := lw_privs_1 ++ (lw_privs_2 ++ (lw_privs_3 ++ (lw_privs_4)))
def lw_tbl : List Cond := k2_sels lw_privs ++ tables_1
theorem lw_privs_ok : ∀ q ∈ lw_privs, lw_okq q := by
  show ∀ q ∈ lw_privs_1 ++ (lw_privs_2 ++ (lw_privs_3 ++ (lw_privs_4))), lw_okq q
  exact List.forall_mem_append.mpr ⟨lw_r1, List.forall_mem_append.mpr ⟨lw_r2, List.forall_mem_append.mpr ⟨lw_r3, lw_r4⟩⟩⟩

theorem goodIn_r {big : List Cond} (ws : List Cond) (ps : List Nat) (hp : ws = ps.filterMap (fun i => big[i]?)) (h : ws.all goodWord = true) : GoodIn big ws := by
  intro w hw
  have h1 := List.all_eq_true.mp h w hw
  rw [hp] at hw
  obtain ⟨i, -, hi⟩ := List.mem_filterMap.mp hw
  have hm : w ∈ big := by first | exact List.mem_of_getElem? hi | exact List.getElem?_mem hi
  exact ⟨hm, good_of_word h1⟩
theorem goodIn_app {big a b : List Cond} (ha : GoodIn big a) (hb : GoodIn big b) : GoodIn big (a ++ b) := fun w h => (List.mem_append.mp h).elim (ha w) (hb w)
theorem goodIn_ca {big a b : List Cond} {c : Cond} (ha : GoodIn big (c :: a)) (hb : GoodIn big b) : GoodIn big (c :: (a ++ b)) := fun w h => (List.mem_cons.mp h).elim (fun e => ha w (List.mem_cons.mpr (Or.inl e))) (fun h => (List.mem_append.mp h).elim (fun h => ha w (List.mem_cons.mpr (Or.inr h))) (hb w))
theorem goodIn_sub {big ws : List Cond} (hm : ∀ w ∈ ws, w ∈ big) (h : ws.all goodWord = true) : GoodIn big ws := fun w hw => ⟨hm w hw, good_of_word (List.all_eq_true.mp h w hw)⟩

def RX0 : String := "HabitWill$Clauses"
def TX0 : u_T := fun k => match k with
  | 0 => ("HabitWill$Listing", "bytes", "[I", true)
  | 1 => ("HabitWill$Listing", "mostBytes", "I", true)
  | 2 => ("HabitWill$Listing", "mostRows", "I", true)
  | 3 => ("HabitWill$Listing", "length", "I", false)
  | 4 => ("HabitWill$Listing", "size", "I", false)
  | 5 => ("HabitWill$Listing", "wrong", "I", false)
  | 6 => ("HabitWill$Clauses", "ofHabit", "[I", true)
  | 7 => ("HabitWill$Clauses", "comes", "[I", true)
  | 8 => ("HabitWill$Clauses", "ofHeir", "[I", true)
  | _ => ("HabitWill$Clauses", "asksFor", "[I", true)
def tyX0 : Nat → FieldType := fun k => match k with
  | 0 => .array .int
  | 1 => .int
  | 2 => .int
  | 3 => .int
  | 4 => .int
  | 5 => .int
  | 6 => .array .int
  | 7 => .array .int
  | 8 => .array .int
  | _ => .array .int
abbrev wsX00 : List Cond := u_ws RX0 TX0 10
theorem nmX0 : ∀ a, a < 10 → ∀ b, b < 10 → a ≠ b → (TX0 a).2.1 ≠ (TX0 b).2.1 := by decide +kernel
theorem tyX0_ok : ∀ k, k < 10 → parseFieldDescriptor (TX0 k).2.2.1 = some (tyX0 k) := by decide +kernel
abbrev cX0_init : ByteArray := prog_2_method_1_code
def yX0_init : MethodName := ⟨RX0, "<init>", "()V"⟩
abbrev cX0_readRow : ByteArray := prog_2_method_2_code
def yX0_readRow : MethodName := ⟨RX0, "readRow", "(II)I"⟩
def RX1 : String := "HabitWill$Estate"
def TX1 : u_T := fun k => match k with
  | 0 => ("HabitWill$Estate", "law", "LHabitWill$Law;", true)
  | 1 => ("HabitWill$Estate", "clauses", "LHabitWill$Clauses;", true)
  | 2 => ("HabitWill$Estate", "refusals", "LHabitWill$Refusals;", true)
  | 3 => ("HabitWill$Estate", "owner", "[I", true)
  | 4 => ("HabitWill$Estate", "refused", "[I", true)
  | _ => ("HabitWill$Estate", "movedBits", "I", false)
def tyX1 : Nat → FieldType := fun k => match k with
  | 0 => .object "HabitWill$Law"
  | 1 => .object "HabitWill$Clauses"
  | 2 => .object "HabitWill$Refusals"
  | 3 => .array .int
  | 4 => .array .int
  | _ => .int
abbrev wsX10 : List Cond := u_ws RX1 TX1 6
theorem nmX1 : ∀ a, a < 6 → ∀ b, b < 6 → a ≠ b → (TX1 a).2.1 ≠ (TX1 b).2.1 := by decide +kernel
theorem tyX1_ok : ∀ k, k < 6 → parseFieldDescriptor (TX1 k).2.2.1 = some (tyX1 k) := by decide +kernel
abbrev cX1_init : ByteArray := prog_3_method_1_code
def yX1_init : MethodName := ⟨RX1, "<init>", "()V"⟩
abbrev cX1_settle : ByteArray := prog_3_method_2_code
def yX1_settle : MethodName := ⟨RX1, "settle", "()V"⟩
abbrev cX1_settleRefusing : ByteArray := prog_3_method_3_code
def yX1_settleRefusing : MethodName := ⟨RX1, "settleRefusing", "(II)V"⟩
abbrev cX1_carryOut : ByteArray := prog_3_method_4_code
def yX1_carryOut : MethodName := ⟨RX1, "carryOut", "(IZI)Z"⟩
abbrev cX1_give : ByteArray := prog_3_method_5_code
def yX1_give : MethodName := ⟨RX1, "give", "(II)V"⟩
abbrev cX1_ownerOf : ByteArray := prog_3_method_6_code
def yX1_ownerOf : MethodName := ⟨RX1, "ownerOf", "(I)I"⟩
abbrev cX1_bitsOf : ByteArray := prog_3_method_7_code
def yX1_bitsOf : MethodName := ⟨RX1, "bitsOf", "(I)I"⟩
abbrev cX1_doingOf : ByteArray := prog_3_method_8_code
def yX1_doingOf : MethodName := ⟨RX1, "doingOf", "(II)I"⟩
abbrev cX1_fewestRefusals : ByteArray := prog_3_method_9_code
def yX1_fewestRefusals : MethodName := ⟨RX1, "fewestRefusals", "(I)I"⟩
abbrev cX1_addByLots : ByteArray := prog_3_method_10_code
def yX1_addByLots : MethodName := ⟨RX1, "addByLots", "(II)V"⟩
abbrev cX1_nextSeed : ByteArray := prog_3_method_11_code
def yX1_nextSeed : MethodName := ⟨RX1, "nextSeed", "(I)I"⟩
abbrev cX1_lotOf : ByteArray := prog_3_method_12_code
def yX1_lotOf : MethodName := ⟨RX1, "lotOf", "(II)I"⟩
def RX2 : String := "HabitWill$Habits"
def TX2 : u_T := fun k => match k with
  | 0 => ("HabitWill$Listing", "bytes", "[I", true)
  | 1 => ("HabitWill$Listing", "mostBytes", "I", true)
  | 2 => ("HabitWill$Listing", "mostRows", "I", true)
  | 3 => ("HabitWill$Listing", "length", "I", false)
  | 4 => ("HabitWill$Listing", "size", "I", false)
  | 5 => ("HabitWill$Listing", "wrong", "I", false)
  | 6 => ("HabitWill$Habits", "hour", "[I", true)
  | 7 => ("HabitWill$Habits", "span", "[I", true)
  | 8 => ("HabitWill$Habits", "worth", "[I", true)
  | 9 => ("HabitWill$Habits", "leansOn", "[I", true)
  | 10 => ("HabitWill$Habits", "vice", "[I", true)
  | _ => ("HabitWill$Habits", "hourBits", "[I", true)
def tyX2 : Nat → FieldType := fun k => match k with
  | 0 => .array .int
  | 1 => .int
  | 2 => .int
  | 3 => .int
  | 4 => .int
  | 5 => .int
  | 6 => .array .int
  | 7 => .array .int
  | 8 => .array .int
  | 9 => .array .int
  | 10 => .array .int
  | _ => .array .int
abbrev wsX20 : List Cond := u_ws RX2 TX2 12
theorem nmX2 : ∀ a, a < 12 → ∀ b, b < 12 → a ≠ b → (TX2 a).2.1 ≠ (TX2 b).2.1 := by decide +kernel
theorem tyX2_ok : ∀ k, k < 12 → parseFieldDescriptor (TX2 k).2.2.1 = some (tyX2 k) := by decide +kernel
abbrev cX2_init : ByteArray := prog_4_method_1_code
def yX2_init : MethodName := ⟨RX2, "<init>", "()V"⟩
abbrev cX2_readRow : ByteArray := prog_4_method_2_code
def yX2_readRow : MethodName := ⟨RX2, "readRow", "(II)I"⟩
abbrev cX2_bitsOfHours : ByteArray := prog_4_method_3_code
def yX2_bitsOfHours : MethodName := ⟨RX2, "bitsOfHours", "(II)I"⟩
def RX3 : String := "HabitWill$Heirs"
def TX3 : u_T := fun k => match k with
  | 0 => ("HabitWill$Listing", "bytes", "[I", true)
  | 1 => ("HabitWill$Listing", "mostBytes", "I", true)
  | 2 => ("HabitWill$Listing", "mostRows", "I", true)
  | 3 => ("HabitWill$Listing", "length", "I", false)
  | 4 => ("HabitWill$Listing", "size", "I", false)
  | 5 => ("HabitWill$Listing", "wrong", "I", false)
  | 6 => ("HabitWill$Heirs", "room", "[I", true)
  | 7 => ("HabitWill$Heirs", "from", "[I", true)
  | 8 => ("HabitWill$Heirs", "till", "[I", true)
  | _ => ("HabitWill$Heirs", "awayBits", "[I", true)
def tyX3 : Nat → FieldType := fun k => match k with
  | 0 => .array .int
  | 1 => .int
  | 2 => .int
  | 3 => .int
  | 4 => .int
  | 5 => .int
  | 6 => .array .int
  | 7 => .array .int
  | 8 => .array .int
  | _ => .array .int
abbrev wsX30 : List Cond := u_ws RX3 TX3 10
theorem nmX3 : ∀ a, a < 10 → ∀ b, b < 10 → a ≠ b → (TX3 a).2.1 ≠ (TX3 b).2.1 := by decide +kernel
theorem tyX3_ok : ∀ k, k < 10 → parseFieldDescriptor (TX3 k).2.2.1 = some (tyX3 k) := by decide +kernel
abbrev cX3_init : ByteArray := prog_5_method_1_code
def yX3_init : MethodName := ⟨RX3, "<init>", "()V"⟩
abbrev cX3_readRow : ByteArray := prog_5_method_2_code
def yX3_readRow : MethodName := ⟨RX3, "readRow", "(II)I"⟩
def RX4 : String := "HabitWill$Law"
def TX4 : u_T := fun k => match k with
  | 0 => ("HabitWill$Law", "habits", "LHabitWill$Habits;", true)
  | _ => ("HabitWill$Law", "heirs", "LHabitWill$Heirs;", true)
def tyX4 : Nat → FieldType := fun k => match k with
  | 0 => .object "HabitWill$Habits"
  | _ => .object "HabitWill$Heirs"
abbrev wsX40 : List Cond := u_ws RX4 TX4 2
theorem nmX4 : ∀ a, a < 2 → ∀ b, b < 2 → a ≠ b → (TX4 a).2.1 ≠ (TX4 b).2.1 := by decide +kernel
theorem tyX4_ok : ∀ k, k < 2 → parseFieldDescriptor (TX4 k).2.2.1 = some (tyX4 k) := by decide +kernel
abbrev cX4_init : ByteArray := prog_6_method_1_code
def yX4_init : MethodName := ⟨RX4, "<init>", "()V"⟩
abbrev cX4_awayBitsOf : ByteArray := prog_6_method_2_code
def yX4_awayBitsOf : MethodName := ⟨RX4, "awayBitsOf", "(I)I"⟩
abbrev cX4_roomOf : ByteArray := prog_6_method_3_code
def yX4_roomOf : MethodName := ⟨RX4, "roomOf", "(I)I"⟩
abbrev cX4_cannotBits : ByteArray := prog_6_method_4_code
def yX4_cannotBits : MethodName := ⟨RX4, "cannotBits", "(II)I"⟩
abbrev cX4_canLive : ByteArray := prog_6_method_5_code
def yX4_canLive : MethodName := ⟨RX4, "canLive", "(II)Z"⟩
abbrev cX4_barEachOther : ByteArray := prog_6_method_6_code
def yX4_barEachOther : MethodName := ⟨RX4, "barEachOther", "(I)Z"⟩
abbrev cX4_worthOf : ByteArray := prog_6_method_7_code
def yX4_worthOf : MethodName := ⟨RX4, "worthOf", "(I)I"⟩
abbrev cX4_viceBits : ByteArray := prog_6_method_8_code
def yX4_viceBits : MethodName := ⟨RX4, "viceBits", "(I)I"⟩
abbrev cX4_bitsAt : ByteArray := prog_6_method_9_code
def yX4_bitsAt : MethodName := ⟨RX4, "bitsAt", "(II)I"⟩
abbrev cX4_choiceOf : ByteArray := prog_6_method_10_code
def yX4_choiceOf : MethodName := ⟨RX4, "choiceOf", "(II)I"⟩
def RX5 : String := "HabitWill$Listing"
def TX5 : u_T := fun k => match k with
  | _ => ("", "", "", false)
def tyX5 : Nat → FieldType := fun k => match k with
  | _ => .int
abbrev wsX50 : List Cond := u_ws RX5 TX5 0
theorem nmX5 : ∀ a, a < 0 → ∀ b, b < 0 → a ≠ b → (TX5 a).2.1 ≠ (TX5 b).2.1 := by decide +kernel
theorem tyX5_ok : ∀ k, k < 0 → parseFieldDescriptor (TX5 k).2.2.1 = some (tyX5 k) := by decide +kernel
abbrev cX5_init : ByteArray := prog_7_method_1_code
def yX5_init : MethodName := ⟨RX5, "<init>", "(II)V"⟩
abbrev cX5_hasRow : ByteArray := prog_7_method_3_code
def yX5_hasRow : MethodName := ⟨RX5, "hasRow", "(I)Z"⟩
abbrev cX5_append : ByteArray := prog_7_method_4_code
def yX5_append : MethodName := ⟨RX5, "append", "(I)Z"⟩
abbrev cX5_cutTo : ByteArray := prog_7_method_5_code
def yX5_cutTo : MethodName := ⟨RX5, "cutTo", "(I)V"⟩
abbrev cX5_signAt : ByteArray := prog_7_method_6_code
def yX5_signAt : MethodName := ⟨RX5, "signAt", "(I)I"⟩
abbrev cX5_isBetween : ByteArray := prog_7_method_7_code
def yX5_isBetween : MethodName := ⟨RX5, "isBetween", "(III)Z"⟩
abbrev cX5_readRows : ByteArray := prog_7_method_8_code
def yX5_readRows : MethodName := ⟨RX5, "readRows", "()V"⟩
def RX6 : String := "HabitWill$Plan"
def TX6 : u_T := fun k => match k with
  | 0 => ("HabitWill$Plan", "row", "[I", true)
  | 1 => ("HabitWill$Plan", "kept", "[I", true)
  | 2 => ("HabitWill$Plan", "share", "[I", true)
  | 3 => ("HabitWill$Plan", "worthFrom", "[I", true)
  | 4 => ("HabitWill$Plan", "open", "[J", true)
  | 5 => ("HabitWill$Plan", "habits", "I", false)
  | 6 => ("HabitWill$Plan", "heirs", "I", false)
  | 7 => ("HabitWill$Plan", "most", "I", false)
  | _ => ("HabitWill$Plan", "known", "Z", false)
def tyX6 : Nat → FieldType := fun k => match k with
  | 0 => .array .int
  | 1 => .array .int
  | 2 => .array .int
  | 3 => .array .int
  | 4 => .array .long
  | 5 => .int
  | 6 => .int
  | 7 => .int
  | _ => .boolean
abbrev wsX60 : List Cond := u_ws RX6 TX6 9
theorem nmX6 : ∀ a, a < 9 → ∀ b, b < 9 → a ≠ b → (TX6 a).2.1 ≠ (TX6 b).2.1 := by decide +kernel
theorem tyX6_ok : ∀ k, k < 9 → parseFieldDescriptor (TX6 k).2.2.1 = some (tyX6 k) := by decide +kernel
abbrev cX6_init : ByteArray := prog_8_method_1_code
def yX6_init : MethodName := ⟨RX6, "<init>", "()V"⟩
abbrev cX6_find : ByteArray := prog_8_method_2_code
def yX6_find : MethodName := ⟨RX6, "find", "(LHabitWill$Law;)V"⟩
abbrev cX6_keeperOf : ByteArray := prog_8_method_3_code
def yX6_keeperOf : MethodName := ⟨RX6, "keeperOf", "(I)I"⟩
abbrev cX6_openSetsOf : ByteArray := prog_8_method_4_code
def yX6_openSetsOf : MethodName := ⟨RX6, "openSetsOf", "(LHabitWill$Law;I)V"⟩
abbrev cX6_keepOpen : ByteArray := prog_8_method_5_code
def yX6_keepOpen : MethodName := ⟨RX6, "keepOpen", "(IIJ)V"⟩
abbrev cX6_mayAllLive : ByteArray := prog_8_method_6_code
def yX6_mayAllLive : MethodName := ⟨RX6, "mayAllLive", "(I)Z"⟩
abbrev cX6_place : ByteArray := prog_8_method_7_code
def yX6_place : MethodName := ⟨RX6, "place", "(LHabitWill$Plan;LHabitWill$Law;II)V"⟩
def RX7 : String := "HabitWill$Refusals"
def TX7 : u_T := fun k => match k with
  | 0 => ("HabitWill$Refusals", "byHeir", "[I", true)
  | 1 => ("HabitWill$Refusals", "ofHabit", "[I", true)
  | _ => ("HabitWill$Refusals", "size", "I", false)
def tyX7 : Nat → FieldType := fun k => match k with
  | 0 => .array .int
  | 1 => .array .int
  | _ => .int
abbrev wsX70 : List Cond := u_ws RX7 TX7 3
theorem nmX7 : ∀ a, a < 3 → ∀ b, b < 3 → a ≠ b → (TX7 a).2.1 ≠ (TX7 b).2.1 := by decide +kernel
theorem tyX7_ok : ∀ k, k < 3 → parseFieldDescriptor (TX7 k).2.2.1 = some (tyX7 k) := by decide +kernel
abbrev cX7_init : ByteArray := prog_9_method_1_code
def yX7_init : MethodName := ⟨RX7, "<init>", "()V"⟩
abbrev cX7_add : ByteArray := prog_9_method_2_code
def yX7_add : MethodName := ⟨RX7, "add", "(II)Z"⟩
abbrev cX7_dropLast : ByteArray := prog_9_method_3_code
def yX7_dropLast : MethodName := ⟨RX7, "dropLast", "()Z"⟩
abbrev cX7_bitsBy : ByteArray := prog_9_method_4_code
def yX7_bitsBy : MethodName := ⟨RX7, "bitsBy", "(I)I"⟩
def RX8 : String := "HabitWill$Sheet"
def TX8 : u_T := fun k => match k with
  | 0 => ("HabitWill$Sheet", "items", "[I", true)
  | 1 => ("HabitWill$Sheet", "form", "I", false)
  | _ => ("HabitWill$Sheet", "size", "I", false)
def tyX8 : Nat → FieldType := fun k => match k with
  | 0 => .array .int
  | 1 => .int
  | _ => .int
abbrev wsX80 : List Cond := u_ws RX8 TX8 3
theorem nmX8 : ∀ a, a < 3 → ∀ b, b < 3 → a ≠ b → (TX8 a).2.1 ≠ (TX8 b).2.1 := by decide +kernel
theorem tyX8_ok : ∀ k, k < 3 → parseFieldDescriptor (TX8 k).2.2.1 = some (tyX8 k) := by decide +kernel
abbrev cX8_init : ByteArray := prog_10_method_1_code
def yX8_init : MethodName := ⟨RX8, "<init>", "()V"⟩
abbrev cX8_isLost : ByteArray := prog_10_method_2_code
def yX8_isLost : MethodName := ⟨RX8, "isLost", "()Z"⟩
abbrev cX8_renew : ByteArray := prog_10_method_3_code
def yX8_renew : MethodName := ⟨RX8, "renew", "(II)V"⟩
abbrev cX8_hasItems : ByteArray := prog_10_method_4_code
def yX8_hasItems : MethodName := ⟨RX8, "hasItems", "(II)Z"⟩
abbrev cX8_findingAt : ByteArray := prog_10_method_5_code
def yX8_findingAt : MethodName := ⟨RX8, "findingAt", "(II)I"⟩
abbrev cX8_put : ByteArray := prog_10_method_6_code
def yX8_put : MethodName := ⟨RX8, "put", "(II)V"⟩
abbrev cX8_itemAt : ByteArray := prog_10_method_7_code
def yX8_itemAt : MethodName := ⟨RX8, "itemAt", "(I)I"⟩
def RX9 : String := "HabitWill$Sightings"
def TX9 : u_T := fun k => match k with
  | 0 => ("HabitWill$Sightings", "hour", "[I", true)
  | 1 => ("HabitWill$Sightings", "who", "[I", true)
  | 2 => ("HabitWill$Sightings", "what", "[I", true)
  | _ => ("HabitWill$Sightings", "size", "I", false)
def tyX9 : Nat → FieldType := fun k => match k with
  | 0 => .array .int
  | 1 => .array .int
  | 2 => .array .int
  | _ => .int
abbrev wsX90 : List Cond := u_ws RX9 TX9 4
theorem nmX9 : ∀ a, a < 4 → ∀ b, b < 4 → a ≠ b → (TX9 a).2.1 ≠ (TX9 b).2.1 := by decide +kernel
theorem tyX9_ok : ∀ k, k < 4 → parseFieldDescriptor (TX9 k).2.2.1 = some (tyX9 k) := by decide +kernel
abbrev cX9_init : ByteArray := prog_11_method_1_code
def yX9_init : MethodName := ⟨RX9, "<init>", "()V"⟩
abbrev cX9_mayBe : ByteArray := prog_11_method_2_code
def yX9_mayBe : MethodName := ⟨RX9, "mayBe", "(III)Z"⟩
abbrev cX9_add : ByteArray := prog_11_method_3_code
def yX9_add : MethodName := ⟨RX9, "add", "(III)Z"⟩
abbrev cX9_addFrom : ByteArray := prog_11_method_4_code
def yX9_addFrom : MethodName := ⟨RX9, "addFrom", "(LHabitWill$Sheet;)I"⟩
abbrev cX9_allComeOut : ByteArray := prog_11_method_5_code
def yX9_allComeOut : MethodName := ⟨RX9, "allComeOut", "(LHabitWill$Estate;)Z"⟩
def RX10 : String := "HabitWill$Week"
def TX10 : u_T := fun k => match k with
  | _ => ("HabitWill$Week", "values", "[I", true)
def tyX10 : Nat → FieldType := fun k => match k with
  | _ => .array .int
abbrev wsX100 : List Cond := u_ws RX10 TX10 1
theorem nmX10 : ∀ a, a < 1 → ∀ b, b < 1 → a ≠ b → (TX10 a).2.1 ≠ (TX10 b).2.1 := by decide +kernel
theorem tyX10_ok : ∀ k, k < 1 → parseFieldDescriptor (TX10 k).2.2.1 = some (tyX10 k) := by decide +kernel
abbrev cX10_init : ByteArray := prog_12_method_1_code
def yX10_init : MethodName := ⟨RX10, "<init>", "()V"⟩
abbrev cX10_change : ByteArray := prog_12_method_2_code
def yX10_change : MethodName := ⟨RX10, "change", "(III)I"⟩
abbrev cX10_divide : ByteArray := prog_12_method_3_code
def yX10_divide : MethodName := ⟨RX10, "divide", "(II)I"⟩
abbrev cX10_bothHave : ByteArray := prog_12_method_4_code
def yX10_bothHave : MethodName := ⟨RX10, "bothHave", "(III)I"⟩
abbrev cX10_sumOf : ByteArray := prog_12_method_5_code
def yX10_sumOf : MethodName := ⟨RX10, "sumOf", "(II)I"⟩
def RX11 : String := "HabitWill"
def TX11 : u_T := fun k => match k with
  | 0 => ("HabitWill", "estate", "LHabitWill$Estate;", true)
  | 1 => ("HabitWill", "week", "LHabitWill$Week;", true)
  | 2 => ("HabitWill", "sightings", "LHabitWill$Sightings;", true)
  | 3 => ("HabitWill", "plan", "LHabitWill$Plan;", true)
  | 4 => ("HabitWill", "sheets", "[LHabitWill$Sheet;", true)
  | _ => ("HabitWill", "latestFinding", "I", false)
def tyX11 : Nat → FieldType := fun k => match k with
  | 0 => .object "HabitWill$Estate"
  | 1 => .object "HabitWill$Week"
  | 2 => .object "HabitWill$Sightings"
  | 3 => .object "HabitWill$Plan"
  | 4 => .array (.object "HabitWill$Sheet")
  | _ => .int
abbrev wsX110 : List Cond := u_ws RX11 TX11 6
theorem nmX11 : ∀ a, a < 6 → ∀ b, b < 6 → a ≠ b → (TX11 a).2.1 ≠ (TX11 b).2.1 := by decide +kernel
theorem tyX11_ok : ∀ k, k < 6 → parseFieldDescriptor (TX11 k).2.2.1 = some (tyX11 k) := by decide +kernel
abbrev cX11_init : ByteArray := prog_1_method_1_code
def yX11_init : MethodName := ⟨RX11, "<init>", "()V"⟩
abbrev cX11_type : ByteArray := prog_1_method_2_code
def yX11_type : MethodName := ⟨RX11, "type", "(II)I"⟩
abbrev cX11_wipe : ByteArray := prog_1_method_3_code
def yX11_wipe : MethodName := ⟨RX11, "wipe", "(I)I"⟩
abbrev cX11_undo : ByteArray := prog_1_method_4_code
def yX11_undo : MethodName := ⟨RX11, "undo", "(I)I"⟩
abbrev cX11_fault : ByteArray := prog_1_method_5_code
def yX11_fault : MethodName := ⟨RX11, "fault", "(I)I"⟩
abbrev cX11_habit : ByteArray := prog_1_method_6_code
def yX11_habit : MethodName := ⟨RX11, "habit", "(II)I"⟩
abbrev cX11_heir : ByteArray := prog_1_method_7_code
def yX11_heir : MethodName := ⟨RX11, "heir", "(II)I"⟩
abbrev cX11_clause : ByteArray := prog_1_method_8_code
def yX11_clause : MethodName := ⟨RX11, "clause", "(II)I"⟩
abbrev cX11_refuse : ByteArray := prog_1_method_9_code
def yX11_refuse : MethodName := ⟨RX11, "refuse", "(II)I"⟩
abbrev cX11_back : ByteArray := prog_1_method_10_code
def yX11_back : MethodName := ⟨RX11, "back", "()I"⟩
abbrev cX11_value : ByteArray := prog_1_method_11_code
def yX11_value : MethodName := ⟨RX11, "value", "(III)I"⟩
abbrev cX11_with : ByteArray := prog_1_method_12_code
def yX11_with : MethodName := ⟨RX11, "with", "(I)I"⟩
abbrev cX11_has : ByteArray := prog_1_method_13_code
def yX11_has : MethodName := ⟨RX11, "has", "(II)I"⟩
abbrev cX11_does : ByteArray := prog_1_method_14_code
def yX11_does : MethodName := ⟨RX11, "does", "(II)I"⟩
abbrev cX11_done : ByteArray := prog_1_method_15_code
def yX11_done : MethodName := ⟨RX11, "done", "()I"⟩
abbrev cX11_quarrel : ByteArray := prog_1_method_16_code
def yX11_quarrel : MethodName := ⟨RX11, "quarrel", "(I)I"⟩
abbrev cX11_best : ByteArray := prog_1_method_17_code
def yX11_best : MethodName := ⟨RX11, "best", "(I)I"⟩
abbrev cX11_write : ByteArray := prog_1_method_18_code
def yX11_write : MethodName := ⟨RX11, "write", "(II)I"⟩
abbrev cX11_part : ByteArray := prog_1_method_19_code
def yX11_part : MethodName := ⟨RX11, "part", "(III)I"⟩
abbrev cX11_seen : ByteArray := prog_1_method_20_code
def yX11_seen : MethodName := ⟨RX11, "seen", "(III)I"⟩
abbrev cX11_forget : ByteArray := prog_1_method_21_code
def yX11_forget : MethodName := ⟨RX11, "forget", "()I"⟩
abbrev cX11_read : ByteArray := prog_1_method_22_code
def yX11_read : MethodName := ⟨RX11, "read", "(I)I"⟩
abbrev cX11_whose : ByteArray := prog_1_method_23_code
def yX11_whose : MethodName := ⟨RX11, "whose", "(I)I"⟩
abbrev cX11_look : ByteArray := prog_1_method_24_code
def yX11_look : MethodName := ⟨RX11, "look", "(II)I"⟩
abbrev cX11_march : ByteArray := prog_1_method_25_code
def yX11_march : MethodName := ⟨RX11, "march", "(IIII)J"⟩
abbrev cX11_wills : ByteArray := prog_1_method_26_code
def yX11_wills : MethodName := ⟨RX11, "wills", "(III)I"⟩
abbrev cX11_sheet : ByteArray := prog_1_method_27_code
def yX11_sheet : MethodName := ⟨RX11, "sheet", "(III)I"⟩
abbrev cX11_lose : ByteArray := prog_1_method_28_code
def yX11_lose : MethodName := ⟨RX11, "lose", "(I)I"⟩
abbrev cX11_lay : ByteArray := prog_1_method_29_code
def yX11_lay : MethodName := ⟨RX11, "lay", "(IIII)I"⟩
abbrev cX11_get : ByteArray := prog_1_method_30_code
def yX11_get : MethodName := ⟨RX11, "get", "(III)I"⟩
abbrev cX11_copy : ByteArray := prog_1_method_31_code
def yX11_copy : MethodName := ⟨RX11, "copy", "(IIIII)I"⟩
abbrev cX11_hours : ByteArray := prog_1_method_32_code
def yX11_hours : MethodName := ⟨RX11, "hours", "(II)I"⟩
abbrev cX11_count : ByteArray := prog_1_method_33_code
def yX11_count : MethodName := ⟨RX11, "count", "(I)I"⟩
abbrev cX11_digest : ByteArray := prog_1_method_34_code
def yX11_digest : MethodName := ⟨RX11, "digest", "()J"⟩
abbrev cX11_isBelow : ByteArray := prog_1_method_35_code
def yX11_isBelow : MethodName := ⟨RX11, "isBelow", "(II)Z"⟩
abbrev cX11_hasBit : ByteArray := prog_1_method_36_code
def yX11_hasBit : MethodName := ⟨RX11, "hasBit", "(II)Z"⟩
abbrev cX11_found : ByteArray := prog_1_method_37_code
def yX11_found : MethodName := ⟨RX11, "found", "(I)I"⟩
abbrev cX11_listingOf : ByteArray := prog_1_method_38_code
def yX11_listingOf : MethodName := ⟨RX11, "listingOf", "(I)LHabitWill$Listing;"⟩
abbrev cX11_partOfQuarrel : ByteArray := prog_1_method_39_code
def yX11_partOfQuarrel : MethodName := ⟨RX11, "partOfQuarrel", "(IIII)I"⟩
abbrev cX11_leastOf : ByteArray := prog_1_method_40_code
def yX11_leastOf : MethodName := ⟨RX11, "leastOf", "(I)I"⟩
abbrev cX11_possibleOwners : ByteArray := prog_1_method_41_code
def yX11_possibleOwners : MethodName := ⟨RX11, "possibleOwners", "(I)I"⟩
abbrev cX11_chanceLeft : ByteArray := prog_1_method_42_code
def yX11_chanceLeft : MethodName := ⟨RX11, "chanceLeft", "(IIII)J"⟩
abbrev cX11_choices : ByteArray := prog_1_method_43_code
def yX11_choices : MethodName := ⟨RX11, "choices", "(II)J"⟩
abbrev cX11_power : ByteArray := prog_1_method_44_code
def yX11_power : MethodName := ⟨RX11, "power", "(II)J"⟩
abbrev cX11_mix : ByteArray := prog_1_method_45_code
def yX11_mix : MethodName := ⟨RX11, "mix", "(JJ)J"⟩
abbrev cX11_mixHabit : ByteArray := prog_1_method_46_code
def yX11_mixHabit : MethodName := ⟨RX11, "mixHabit", "(JI)J"⟩
abbrev cX11_mixHeir : ByteArray := prog_1_method_47_code
def yX11_mixHeir : MethodName := ⟨RX11, "mixHeir", "(JI)J"⟩
abbrev cX11_mixPlansOf : ByteArray := prog_1_method_48_code
def yX11_mixPlansOf : MethodName := ⟨RX11, "mixPlansOf", "(JI)J"⟩
def RX12 : String := "HabitWillModel"
def TX12 : u_T := fun k => match k with
  | 0 => ("HabitWillModel", "forms", "[I", true)
  | 1 => ("HabitWillModel", "sizes", "[I", true)
  | 2 => ("HabitWillModel", "items", "[I", true)
  | 3 => ("HabitWillModel", "moved", "[I", true)
  | 4 => ("HabitWillModel", "latest", "I", false)
  | 5 => ("HabitWillModel", "bytes", "[I", true)
  | 6 => ("HabitWillModel", "typed", "[I", true)
  | 7 => ("HabitWillModel", "at", "I", false)
  | 8 => ("HabitWillModel", "many", "[I", true)
  | 9 => ("HabitWillModel", "habit", "[I", true)
  | 10 => ("HabitWillModel", "heir", "[I", true)
  | 11 => ("HabitWillModel", "clause", "[I", true)
  | 12 => ("HabitWillModel", "refusals", "I", false)
  | 13 => ("HabitWillModel", "refusal", "[I", true)
  | 14 => ("HabitWillModel", "alsoBy", "I", false)
  | 15 => ("HabitWillModel", "alsoOf", "I", false)
  | 16 => ("HabitWillModel", "values", "[I", true)
  | 17 => ("HabitWillModel", "with", "[I", true)
  | 18 => ("HabitWillModel", "did", "I", false)
  | 19 => ("HabitWillModel", "bestCode", "I", false)
  | 20 => ("HabitWillModel", "bestWorth", "I", false)
  | 21 => ("HabitWillModel", "sights", "I", false)
  | 22 => ("HabitWillModel", "sight", "[I", true)
  | 23 => ("HabitWillModel", "alike", "[I", true)
  | _ => ("HabitWillModel", "drawn", "I", false)
def tyX12 : Nat → FieldType := fun k => match k with
  | 0 => .array .int
  | 1 => .array .int
  | 2 => .array .int
  | 3 => .array .int
  | 4 => .int
  | 5 => .array .int
  | 6 => .array .int
  | 7 => .int
  | 8 => .array .int
  | 9 => .array .int
  | 10 => .array .int
  | 11 => .array .int
  | 12 => .int
  | 13 => .array .int
  | 14 => .int
  | 15 => .int
  | 16 => .array .int
  | 17 => .array .int
  | 18 => .int
  | 19 => .int
  | 20 => .int
  | 21 => .int
  | 22 => .array .int
  | 23 => .array .int
  | _ => .int
abbrev wsX120 : List Cond := u_ws RX12 TX12 25
theorem nmX12 : ∀ a, a < 25 → ∀ b, b < 25 → a ≠ b → (TX12 a).2.1 ≠ (TX12 b).2.1 := by decide +kernel
theorem tyX12_ok : ∀ k, k < 25 → parseFieldDescriptor (TX12 k).2.2.1 = some (tyX12 k) := by decide +kernel
abbrev cX12_init : ByteArray := prog_14_method_1_code
def yX12_init : MethodName := ⟨RX12, "<init>", "()V"⟩
abbrev cX12_in : ByteArray := prog_14_method_3_code
def yX12_in : MethodName := ⟨RX12, "in", "(JJJ)Z"⟩
abbrev cX12_no : ByteArray := prog_14_method_4_code
def yX12_no : MethodName := ⟨RX12, "no", "(I)J"⟩
abbrev cX12_isTwo : ByteArray := prog_14_method_5_code
def yX12_isTwo : MethodName := ⟨RX12, "isTwo", "(I)Z"⟩
abbrev cX12_isIn : ByteArray := prog_14_method_6_code
def yX12_isIn : MethodName := ⟨RX12, "isIn", "(II)Z"⟩
abbrev cX12_ones : ByteArray := prog_14_method_7_code
def yX12_ones : MethodName := ⟨RX12, "ones", "(I)I"⟩
abbrev cX12_lesser : ByteArray := prog_14_method_8_code
def yX12_lesser : MethodName := ⟨RX12, "lesser", "(II)I"⟩
abbrev cX12_fraction : ByteArray := prog_14_method_9_code
def yX12_fraction : MethodName := ⟨RX12, "fraction", "(JJI)J"⟩
abbrev cX12_finds : ByteArray := prog_14_method_10_code
def yX12_finds : MethodName := ⟨RX12, "finds", "(I)I"⟩
abbrev cX12_isSheet : ByteArray := prog_14_method_11_code
def yX12_isSheet : MethodName := ⟨RX12, "isSheet", "(I)Z"⟩
abbrev cX12_sheet : ByteArray := prog_14_method_12_code
def yX12_sheet : MethodName := ⟨RX12, "sheet", "(III)I"⟩
abbrev cX12_lose : ByteArray := prog_14_method_13_code
def yX12_lose : MethodName := ⟨RX12, "lose", "(I)I"⟩
abbrev cX12_lacks : ByteArray := prog_14_method_14_code
def yX12_lacks : MethodName := ⟨RX12, "lacks", "(III)I"⟩
abbrev cX12_cut : ByteArray := prog_14_method_15_code
def yX12_cut : MethodName := ⟨RX12, "cut", "(II)I"⟩
abbrev cX12_lay : ByteArray := prog_14_method_16_code
def yX12_lay : MethodName := ⟨RX12, "lay", "(IIII)I"⟩
abbrev cX12_get : ByteArray := prog_14_method_17_code
def yX12_get : MethodName := ⟨RX12, "get", "(III)I"⟩
abbrev cX12_copy : ByteArray := prog_14_method_18_code
def yX12_copy : MethodName := ⟨RX12, "copy", "(IIIII)I"⟩
abbrev cX12_isText : ByteArray := prog_14_method_19_code
def yX12_isText : MethodName := ⟨RX12, "isText", "(I)Z"⟩
abbrev cX12_type : ByteArray := prog_14_method_20_code
def yX12_type : MethodName := ⟨RX12, "type", "(II)I"⟩
abbrev cX12_wipe : ByteArray := prog_14_method_21_code
def yX12_wipe : MethodName := ⟨RX12, "wipe", "(I)I"⟩
abbrev cX12_undo : ByteArray := prog_14_method_22_code
def yX12_undo : MethodName := ⟨RX12, "undo", "(I)I"⟩
abbrev cX12_here : ByteArray := prog_14_method_23_code
def yX12_here : MethodName := ⟨RX12, "here", "(I)I"⟩
abbrev cX12_within : ByteArray := prog_14_method_24_code
def yX12_within : MethodName := ⟨RX12, "within", "(III)I"⟩
abbrev cX12_orWrong : ByteArray := prog_14_method_25_code
def yX12_orWrong : MethodName := ⟨RX12, "orWrong", "(I)I"⟩
abbrev cX12_tellsHabit : ByteArray := prog_14_method_26_code
def yX12_tellsHabit : MethodName := ⟨RX12, "tellsHabit", "(II)I"⟩
abbrev cX12_tellsHeir : ByteArray := prog_14_method_27_code
def yX12_tellsHeir : MethodName := ⟨RX12, "tellsHeir", "(II)I"⟩
abbrev cX12_tellsClause : ByteArray := prog_14_method_28_code
def yX12_tellsClause : MethodName := ⟨RX12, "tellsClause", "(II)I"⟩
abbrev cX12_put : ByteArray := prog_14_method_29_code
def yX12_put : MethodName := ⟨RX12, "put", "(II)I"⟩
abbrev cX12_readsThing : ByteArray := prog_14_method_30_code
def yX12_readsThing : MethodName := ⟨RX12, "readsThing", "(I)Z"⟩
abbrev cX12_readsText : ByteArray := prog_14_method_31_code
def yX12_readsText : MethodName := ⟨RX12, "readsText", "(I)I"⟩
abbrev cX12_reads : ByteArray := prog_14_method_32_code
def yX12_reads : MethodName := ⟨RX12, "reads", "()V"⟩
abbrev cX12_fault : ByteArray := prog_14_method_33_code
def yX12_fault : MethodName := ⟨RX12, "fault", "(I)I"⟩
abbrev cX12_isHabit : ByteArray := prog_14_method_34_code
def yX12_isHabit : MethodName := ⟨RX12, "isHabit", "(I)Z"⟩
abbrev cX12_isHeir : ByteArray := prog_14_method_35_code
def yX12_isHeir : MethodName := ⟨RX12, "isHeir", "(I)Z"⟩
abbrev cX12_isAnyone : ByteArray := prog_14_method_36_code
def yX12_isAnyone : MethodName := ⟨RX12, "isAnyone", "(I)Z"⟩
abbrev cX12_isHour : ByteArray := prog_14_method_37_code
def yX12_isHour : MethodName := ⟨RX12, "isHour", "(I)Z"⟩
abbrev cX12_habit : ByteArray := prog_14_method_38_code
def yX12_habit : MethodName := ⟨RX12, "habit", "(II)I"⟩
abbrev cX12_heir : ByteArray := prog_14_method_39_code
def yX12_heir : MethodName := ⟨RX12, "heir", "(II)I"⟩
abbrev cX12_clause : ByteArray := prog_14_method_40_code
def yX12_clause : MethodName := ⟨RX12, "clause", "(II)I"⟩
abbrev cX12_refuse : ByteArray := prog_14_method_41_code
def yX12_refuse : MethodName := ⟨RX12, "refuse", "(II)I"⟩
abbrev cX12_back : ByteArray := prog_14_method_42_code
def yX12_back : MethodName := ⟨RX12, "back", "()I"⟩
abbrev cX12_value : ByteArray := prog_14_method_43_code
def yX12_value : MethodName := ⟨RX12, "value", "(III)I"⟩
abbrev cX12_refuses : ByteArray := prog_14_method_44_code
def yX12_refuses : MethodName := ⟨RX12, "refuses", "(II)Z"⟩
abbrev cX12_comes : ByteArray := prog_14_method_45_code
def yX12_comes : MethodName := ⟨RX12, "comes", "(III)Z"⟩
abbrev cX12_readsWill : ByteArray := prog_14_method_46_code
def yX12_readsWill : MethodName := ⟨RX12, "readsWill", "()V"⟩
abbrev cX12_find : ByteArray := prog_14_method_47_code
def yX12_find : MethodName := ⟨RX12, "find", "()V"⟩
abbrev cX12_with : ByteArray := prog_14_method_48_code
def yX12_with : MethodName := ⟨RX12, "with", "(I)I"⟩
abbrev cX12_isAt : ByteArray := prog_14_method_49_code
def yX12_isAt : MethodName := ⟨RX12, "isAt", "(II)Z"⟩
abbrev cX12_isAway : ByteArray := prog_14_method_50_code
def yX12_isAway : MethodName := ⟨RX12, "isAway", "(II)Z"⟩
abbrev cX12_cannot : ByteArray := prog_14_method_51_code
def yX12_cannot : MethodName := ⟨RX12, "cannot", "(II)Z"⟩
abbrev cX12_hasNow : ByteArray := prog_14_method_52_code
def yX12_hasNow : MethodName := ⟨RX12, "hasNow", "(I)I"⟩
abbrev cX12_cannotNow : ByteArray := prog_14_method_53_code
def yX12_cannotNow : MethodName := ⟨RX12, "cannotNow", "(I)I"⟩
abbrev cX12_worthNow : ByteArray := prog_14_method_54_code
def yX12_worthNow : MethodName := ⟨RX12, "worthNow", "(I)I"⟩
abbrev cX12_atOnce : ByteArray := prog_14_method_55_code
def yX12_atOnce : MethodName := ⟨RX12, "atOnce", "(II)I"⟩
abbrev cX12_lives : ByteArray := prog_14_method_56_code
def yX12_lives : MethodName := ⟨RX12, "lives", "(I)Z"⟩
abbrev cX12_hasOf : ByteArray := prog_14_method_57_code
def yX12_hasOf : MethodName := ⟨RX12, "hasOf", "(II)I"⟩
abbrev cX12_has : ByteArray := prog_14_method_58_code
def yX12_has : MethodName := ⟨RX12, "has", "(II)I"⟩
abbrev cX12_doesNow : ByteArray := prog_14_method_59_code
def yX12_doesNow : MethodName := ⟨RX12, "doesNow", "(II)I"⟩
abbrev cX12_does : ByteArray := prog_14_method_60_code
def yX12_does : MethodName := ⟨RX12, "does", "(II)I"⟩
abbrev cX12_done : ByteArray := prog_14_method_61_code
def yX12_done : MethodName := ⟨RX12, "done", "()I"⟩
abbrev cX12_quarrelOf : ByteArray := prog_14_method_62_code
def yX12_quarrelOf : MethodName := ⟨RX12, "quarrelOf", "(I)I"⟩
abbrev cX12_quarrel : ByteArray := prog_14_method_63_code
def yX12_quarrel : MethodName := ⟨RX12, "quarrel", "(I)I"⟩
abbrev cX12_laysOut : ByteArray := prog_14_method_64_code
def yX12_laysOut : MethodName := ⟨RX12, "laysOut", "(III)I"⟩
abbrev cX12_findBest : ByteArray := prog_14_method_65_code
def yX12_findBest : MethodName := ⟨RX12, "findBest", "()V"⟩
abbrev cX12_bestOf : ByteArray := prog_14_method_66_code
def yX12_bestOf : MethodName := ⟨RX12, "bestOf", "(I)I"⟩
abbrev cX12_best : ByteArray := prog_14_method_67_code
def yX12_best : MethodName := ⟨RX12, "best", "(I)I"⟩
abbrev cX12_tells : ByteArray := prog_14_method_68_code
def yX12_tells : MethodName := ⟨RX12, "tells", "(II)I"⟩
abbrev cX12_writeOf : ByteArray := prog_14_method_69_code
def yX12_writeOf : MethodName := ⟨RX12, "writeOf", "(I)I"⟩
abbrev cX12_write : ByteArray := prog_14_method_70_code
def yX12_write : MethodName := ⟨RX12, "write", "(II)I"⟩
abbrev cX12_valueOf : ByteArray := prog_14_method_71_code
def yX12_valueOf : MethodName := ⟨RX12, "valueOf", "(II)I"⟩
abbrev cX12_partOf : ByteArray := prog_14_method_72_code
def yX12_partOf : MethodName := ⟨RX12, "partOf", "(III)I"⟩
abbrev cX12_part : ByteArray := prog_14_method_73_code
def yX12_part : MethodName := ⟨RX12, "part", "(III)I"⟩
abbrev cX12_seen : ByteArray := prog_14_method_74_code
def yX12_seen : MethodName := ⟨RX12, "seen", "(III)I"⟩
abbrev cX12_forget : ByteArray := prog_14_method_75_code
def yX12_forget : MethodName := ⟨RX12, "forget", "()I"⟩
abbrev cX12_read : ByteArray := prog_14_method_76_code
def yX12_read : MethodName := ⟨RX12, "read", "(I)I"⟩
abbrev cX12_isSeen : ByteArray := prog_14_method_77_code
def yX12_isSeen : MethodName := ⟨RX12, "isSeen", "()Z"⟩
abbrev cX12_whoseOf : ByteArray := prog_14_method_78_code
def yX12_whoseOf : MethodName := ⟨RX12, "whoseOf", "(I)I"⟩
abbrev cX12_whose : ByteArray := prog_14_method_79_code
def yX12_whose : MethodName := ⟨RX12, "whose", "(I)I"⟩
abbrev cX12_mostAlike : ByteArray := prog_14_method_80_code
def yX12_mostAlike : MethodName := ⟨RX12, "mostAlike", "(IIII)I"⟩
abbrev cX12_lookOf : ByteArray := prog_14_method_81_code
def yX12_lookOf : MethodName := ⟨RX12, "lookOf", "(II)I"⟩
abbrev cX12_look : ByteArray := prog_14_method_82_code
def yX12_look : MethodName := ⟨RX12, "look", "(II)I"⟩
abbrev cX12_marchOf : ByteArray := prog_14_method_83_code
def yX12_marchOf : MethodName := ⟨RX12, "marchOf", "(IIII)J"⟩
abbrev cX12_march : ByteArray := prog_14_method_84_code
def yX12_march : MethodName := ⟨RX12, "march", "(IIII)J"⟩
abbrev cX12_lot : ByteArray := prog_14_method_85_code
def yX12_lot : MethodName := ⟨RX12, "lot", "(I)I"⟩
abbrev cX12_willsOf : ByteArray := prog_14_method_86_code
def yX12_willsOf : MethodName := ⟨RX12, "willsOf", "(III)I"⟩
abbrev cX12_wills : ByteArray := prog_14_method_87_code
def yX12_wills : MethodName := ⟨RX12, "wills", "(III)I"⟩
abbrev cX12_hours : ByteArray := prog_14_method_88_code
def yX12_hours : MethodName := ⟨RX12, "hours", "(II)I"⟩
abbrev cX12_count : ByteArray := prog_14_method_89_code
def yX12_count : MethodName := ⟨RX12, "count", "(I)I"⟩
abbrev cX12_tellsHabits : ByteArray := prog_14_method_90_code
def yX12_tellsHabits : MethodName := ⟨RX12, "tellsHabits", "(JI)J"⟩
abbrev cX12_tellsHeirs : ByteArray := prog_14_method_91_code
def yX12_tellsHeirs : MethodName := ⟨RX12, "tellsHeirs", "(JI)J"⟩
abbrev cX12_digest : ByteArray := prog_14_method_92_code
def yX12_digest : MethodName := ⟨RX12, "digest", "()J"⟩
def RJ6 : String := "java/lang/Integer"
def TJ6 : u_T := fun k => match k with
  | _ => ("", "", "", false)
def tyJ6 : Nat → FieldType := fun k => match k with
  | _ => .int
abbrev wsJ60 : List Cond := u_ws RJ6 TJ6 0
theorem nmJ6 : ∀ a, a < 0 → ∀ b, b < 0 → a ≠ b → (TJ6 a).2.1 ≠ (TJ6 b).2.1 := by decide +kernel
theorem tyJ6_ok : ∀ k, k < 0 → parseFieldDescriptor (TJ6 k).2.2.1 = some (tyJ6 k) := by decide +kernel
abbrev cJ6_bitCount_0f7a4 : ByteArray := prog_15_method_49_code
def yJ6_bitCount_0f7a4 : MethodName := ⟨RJ6, "bitCount", "(I)I"⟩
def RJ9 : String := "java/lang/Math"
def TJ9 : u_T := fun k => match k with
  | _ => ("", "", "", false)
def tyJ9 : Nat → FieldType := fun k => match k with
  | _ => .int
abbrev wsJ90 : List Cond := u_ws RJ9 TJ9 0
theorem nmJ9 : ∀ a, a < 0 → ∀ b, b < 0 → a ≠ b → (TJ9 a).2.1 ≠ (TJ9 b).2.1 := by decide +kernel
theorem tyJ9_ok : ∀ k, k < 0 → parseFieldDescriptor (TJ9 k).2.2.1 = some (tyJ9 k) := by decide +kernel
abbrev cJ9_max_7cf53 : ByteArray := prog_16_method_65_code
def yJ9_max_7cf53 : MethodName := ⟨RJ9, "max", "(II)I"⟩
abbrev cJ9_min_7cf53 : ByteArray := prog_16_method_69_code
def yJ9_min_7cf53 : MethodName := ⟨RJ9, "min", "(II)I"⟩
def RJ10 : String := "java/lang/System"
def TJ10 : u_T := fun k => match k with
  | _ => ("", "", "", false)
def tyJ10 : Nat → FieldType := fun k => match k with
  | _ => .int
abbrev wsJ100 : List Cond := u_ws RJ10 TJ10 0
theorem nmJ10 : ∀ a, a < 0 → ∀ b, b < 0 → a ≠ b → (TJ10 a).2.1 ≠ (TJ10 b).2.1 := by decide +kernel
theorem tyJ10_ok : ∀ k, k < 0 → parseFieldDescriptor (TJ10 k).2.2.1 = some (tyJ10 k) := by decide +kernel
def RJ7 : String := "java/util/Arrays"
def TJ7 : u_T := fun k => match k with
  | _ => ("", "", "", false)
def tyJ7 : Nat → FieldType := fun k => match k with
  | _ => .int
abbrev wsJ70 : List Cond := u_ws RJ7 TJ7 0
theorem nmJ7 : ∀ a, a < 0 → ∀ b, b < 0 → a ≠ b → (TJ7 a).2.1 ≠ (TJ7 b).2.1 := by decide +kernel
theorem tyJ7_ok : ∀ k, k < 0 → parseFieldDescriptor (TJ7 k).2.2.1 = some (tyJ7 k) := by decide +kernel
abbrev cJ7_fill_53178 : ByteArray := prog_18_method_103_code
def yJ7_fill_53178 : MethodName := ⟨RJ7, "fill", "([II)V"⟩
def RL : String := "HabitWillLaw"
abbrev cL_law : ByteArray := code
def yL_law : MethodName := ⟨RL, "law", "([I)Z"⟩
abbrev vwCl : List vw_C := [(RX0, TX0, 10), (RX1, TX1, 6), (RX2, TX2, 12), (RX3, TX3, 10), (RX4, TX4, 2), (RX6, TX6, 9), (RX7, TX7, 3), (RX8, TX8, 3), (RX9, TX9, 4), (RX10, TX10, 1), (RX11, TX11, 6), (RX12, TX12, 25)]
